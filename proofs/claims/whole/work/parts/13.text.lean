/-! texts of characters, byte by byte; FramedTalk$TextCheck -/
section TextA
variable {G : q_G} {h : q_H} {a : Nat} {c : Int32 × Int32 × Int32}
abbrev z_T3 : Type := Int32 × Int32 × Int32
/-- what a first byte asks for: how many more, and the bounds of the next -/
def z_beg (b : Int32) : z_T3 := (if 128 ≤ b then (if 224 ≤ b then (if 240 ≤ b then 3 else 2) else 1) else 0, if b = 224 then 160 else if b = 240 then 144 else 128, if b = 237 then 159 else if b = 244 then 143 else 191)
/-- a byte of a text: none when it can't stand there -/
def z_u8 (c : z_T3) (b : Int32) : Option z_T3 := if c.1 = 0 then (if b < 128 ∨ 193 < b ∧ b < 245 then some (z_beg b) else none) else if c.2.1 ≤ b ∧ b ≤ c.2.2 then some (c.1 - 1, 128, 191) else none
def z_all : z_T3 → List Int32 → Option z_T3
  | c, [] => some c
  | c, b :: l => match z_u8 c b with
    | some c' => z_all c' l
    | none => none
/-- a whole text -/
def z_txt (l : List Int32) : Bool := match z_all (0, 0, 0) l with
  | some c => c.1 == 0
  | none => false
theorem z_all_0 (x y : Int32) : ∀ l, (match z_all (0, x, y) l with | some c => c.1 == 0 | none => false) = z_txt l := by
  intro l
  cases l with
  | nil => rfl
  | cons b l => rfl
/-- the checker at a -/
def k_chk (h : q_H) (a : Nat) (c : z_T3) : Prop := h a = some (k_ob 4 [.int c.1, .int c.2.1, .int c.2.2])
theorem k_chk.kept {h1 : q_H} {S : List Nat} (hc : k_chk h a c) (hs : k_same S h h1) (h0 : a ∉ S) : k_chk h1 a c := (hs a h0).trans hc
theorem k_up1 {e : Option q_C} : k_same [a] h (va_up h a e) := fun q hq => va_up_ne _ _ (fun z => hq (by simp [z]))
theorem sp_restart (hc : k_chk h a c) : q_SP G mX4_restart [.ref a] h 0 0 (fun o h' => o = none ∧ k_chk h' a (0, c.2.1, c.2.2) ∧ k_same [a] h h') := by
  have hc : h a = some (k_ob 4 [.int c.1, .int c.2.1, .int c.2.2]) := hc
  refine q_enter (M := mX4_restart) (by decide +kernel) rfl (Nat.le_of_ble_eq_true rfl) ?_
  refine x_aload_n 0 dX4_restart_0 rfl (by first | rfl | assumption) ?_
  refine x_iconst 0 dX4_restart_1 (by decide) ?_
  refine pf_X4_restart_7 dX4_restart_2 (by first | assumption | exact va_up_self _ _ _) (Nat.le_of_ble_eq_true rfl) ?_
  refine x_vret rfl dX4_restart_5 (by decide) (by decide) ?_
  exact ⟨rfl, va_up_self _ _ _, k_up1⟩
theorem sp_isWhole (hc : k_chk h a c) : q_SP G mX4_isWhole [.ref a] h 0 0 (fun o h' => o = some (.int (if c.1 = 0 then 1 else 0)) ∧ h' = h) := by
  have hc : h a = some (k_ob 4 [.int c.1, .int c.2.1, .int c.2.2]) := hc
  refine q_enter (M := mX4_isWhole) (by decide +kernel) rfl (Nat.le_of_ble_eq_true rfl) ?_
  refine x_aload_n 0 dX4_isWhole_0 rfl (by first | rfl | assumption) ?_
  refine gf_X4_isWhole_7 dX4_isWhole_1 (by first | assumption | exact va_up_self _ _ _) rfl ?_
  refine x_if_ne 11 dX4_isWhole_4 (by decide) (fun c4 => ?_) (fun c4 => ?_)
  · refine x_iconst 0 dX4_isWhole_11 (by decide) ?_
    refine x_iret rfl (by first | rfl | assumption | exact z_nb _ | decide) dX4_isWhole_12 (by decide) (by decide) ?_
    exact ⟨by simp [*], rfl⟩
  · refine x_iconst 1 dX4_isWhole_7 (by decide) ?_
    refine x_goto 12 dX4_isWhole_8 (by decide) ?_
    refine x_iret rfl (by first | rfl | assumption | exact z_nb _ | decide) dX4_isWhole_12 (by decide) (by decide) ?_
    exact ⟨by simp [*], rfl⟩
/-- whether a byte may begin a character -/
def z_ok1 (b : Int32) : Bool := decide (b < 128 ∨ 193 < b ∧ b < 245)
theorem z_ok1_f1 {b : Int32} (h1 : ¬ b ≤ 127) (h2 : b < 194) : z_ok1 b = false := by
  unfold z_ok1
  rw [decide_eq_false_iff_not]
  rw [Int32.le_iff_toInt_le] at h1
  rw [Int32.lt_iff_toInt_lt] at h2
  rw [Int32.lt_iff_toInt_lt, Int32.lt_iff_toInt_lt, Int32.lt_iff_toInt_lt]
  have e1 : (127 : Int32).toInt = 127 := rfl
  have e2 : (194 : Int32).toInt = 194 := rfl
  have e3 : (128 : Int32).toInt = 128 := rfl
  have e4 : (193 : Int32).toInt = 193 := rfl
  have e5 : (245 : Int32).toInt = 245 := rfl
  omega
theorem z_ok1_f2 {b : Int32} (h1 : ¬ b ≤ 244) : z_ok1 b = false := by
  unfold z_ok1
  rw [decide_eq_false_iff_not]
  rw [Int32.le_iff_toInt_le] at h1
  rw [Int32.lt_iff_toInt_lt, Int32.lt_iff_toInt_lt, Int32.lt_iff_toInt_lt]
  have e1 : (244 : Int32).toInt = 244 := rfl
  have e3 : (128 : Int32).toInt = 128 := rfl
  have e4 : (193 : Int32).toInt = 193 := rfl
  have e5 : (245 : Int32).toInt = 245 := rfl
  omega
theorem z_ok1_t {b : Int32} (h1 : b ≤ 127 ∨ ¬ b < 194) (h2 : b ≤ 244) : z_ok1 b = true := by
  unfold z_ok1
  rw [decide_eq_true_iff]
  rw [Int32.le_iff_toInt_le, Int32.lt_iff_toInt_lt] at h1
  rw [Int32.le_iff_toInt_le] at h2
  rw [Int32.lt_iff_toInt_lt, Int32.lt_iff_toInt_lt, Int32.lt_iff_toInt_lt]
  have e1 : (127 : Int32).toInt = 127 := rfl
  have e2 : (194 : Int32).toInt = 194 := rfl
  have e0 : (244 : Int32).toInt = 244 := rfl
  have e3 : (128 : Int32).toInt = 128 := rfl
  have e4 : (193 : Int32).toInt = 193 := rfl
  have e5 : (245 : Int32).toInt = 245 := rfl
  omega
theorem sp_begins (hc : k_chk h a c) (b : Int32) : q_SP G mX4_begins [.ref a, .int b] h 0 0 (fun o h' => o = some (.int (if z_ok1 b then 1 else 0)) ∧ k_chk h' a (if z_ok1 b then z_beg b else c) ∧ k_same [a] h h') := by
  have hc0 := hc
  have hc : h a = some (k_ob 4 [.int c.1, .int c.2.1, .int c.2.2]) := hc
  have tail : z_ok1 b = true → q_X G mX4_begins (q_R mX4_begins 0 0) (q_FN G (fun o h' => o = some (.int (if z_ok1 b then 1 else 0)) ∧ k_chk h' a (if z_ok1 b then z_beg b else c) ∧ k_same [a] h h') 0 0) 22 [(0, .ref a), (1, .int b)] [] h 0 0 := by
    intro hb
    rw [if_pos hb, if_pos hb]
    refine x_aload_n 0 dX4_begins_22 rfl (by first | rfl | assumption) ?_
    refine x_iload_n 1 dX4_begins_23 rfl (by first | rfl | assumption) ?_
    refine x_sipush 128 dX4_begins_24 (by decide) ?_
    refine x_icmp_ge 34 dX4_begins_27 (by decide) (fun c27 => ?_) (fun c27 => ?_)
    · refine x_iload_n 1 dX4_begins_34 rfl (by first | rfl | assumption) ?_
      refine x_sipush 224 dX4_begins_35 (by decide) ?_
      refine x_icmp_ge 45 dX4_begins_38 (by decide) (fun c38 => ?_) (fun c38 => ?_)
      · refine x_iload_n 1 dX4_begins_45 rfl (by first | rfl | assumption) ?_
        refine x_sipush 240 dX4_begins_46 (by decide) ?_
        refine x_icmp_ge 56 dX4_begins_49 (by decide) (fun c49 => ?_) (fun c49 => ?_)
        · refine x_iconst 3 dX4_begins_56 (by decide) ?_
          refine pf_X4_begins_7 dX4_begins_57 (by first | assumption | exact va_up_self _ _ _) (Nat.le_of_ble_eq_true rfl) ?_
          refine x_aload_n 0 dX4_begins_60 rfl (by first | rfl | assumption) ?_
          refine x_iload_n 1 dX4_begins_61 rfl (by first | rfl | assumption) ?_
          refine x_sipush 224 dX4_begins_62 (by decide) ?_
          refine x_icmp_ne 74 dX4_begins_65 (by decide) (fun c65 => ?_) (fun c65 => ?_)
          · refine x_iload_n 1 dX4_begins_74 rfl (by first | rfl | assumption) ?_
            refine x_sipush 240 dX4_begins_75 (by decide) ?_
            refine x_icmp_ne 87 dX4_begins_78 (by decide) (fun c78 => ?_) (fun c78 => ?_)
            · refine x_sipush 128 dX4_begins_87 (by decide) ?_
              refine pf_X4_begins_17 dX4_begins_90 (by first | assumption | exact va_up_self _ _ _) (Nat.le_of_ble_eq_true rfl) ?_
              refine x_aload_n 0 dX4_begins_93 rfl (by first | rfl | assumption) ?_
              refine x_iload_n 1 dX4_begins_94 rfl (by first | rfl | assumption) ?_
              refine x_sipush 237 dX4_begins_95 (by decide) ?_
              refine x_icmp_ne 107 dX4_begins_98 (by decide) (fun c98 => ?_) (fun c98 => ?_)
              · refine x_iload_n 1 dX4_begins_107 rfl (by first | rfl | assumption) ?_
                refine x_sipush 244 dX4_begins_108 (by decide) ?_
                refine x_icmp_ne 120 dX4_begins_111 (by decide) (fun c111 => ?_) (fun c111 => ?_)
                · refine x_sipush 191 dX4_begins_120 (by decide) ?_
                  refine pf_X4_begins_20 dX4_begins_123 (by first | assumption | exact va_up_self _ _ _) (Nat.le_of_ble_eq_true rfl) ?_
                  refine x_iconst 1 dX4_begins_126 (by decide) ?_
                  refine x_iret rfl (by first | rfl | assumption | exact z_nb _ | decide) dX4_begins_127 (by decide) (by decide) ?_
                  exact ⟨rfl, (va_up_self _ _ _).trans (by first | (simp [z_beg, *]; done) | (exfalso; subst_vars; simp_all; done)), (k_up1.tr k_up1).tr k_up1⟩
                · refine x_sipush 143 dX4_begins_114 (by decide) ?_
                  refine x_goto 123 dX4_begins_117 (by decide) ?_
                  refine pf_X4_begins_20 dX4_begins_123 (by first | assumption | exact va_up_self _ _ _) (Nat.le_of_ble_eq_true rfl) ?_
                  refine x_iconst 1 dX4_begins_126 (by decide) ?_
                  refine x_iret rfl (by first | rfl | assumption | exact z_nb _ | decide) dX4_begins_127 (by decide) (by decide) ?_
                  exact ⟨rfl, (va_up_self _ _ _).trans (by first | (simp [z_beg, *]; done) | (exfalso; subst_vars; simp_all; done)), (k_up1.tr k_up1).tr k_up1⟩
              · refine x_sipush 159 dX4_begins_101 (by decide) ?_
                refine x_goto 123 dX4_begins_104 (by decide) ?_
                refine pf_X4_begins_20 dX4_begins_123 (by first | assumption | exact va_up_self _ _ _) (Nat.le_of_ble_eq_true rfl) ?_
                refine x_iconst 1 dX4_begins_126 (by decide) ?_
                refine x_iret rfl (by first | rfl | assumption | exact z_nb _ | decide) dX4_begins_127 (by decide) (by decide) ?_
                exact ⟨rfl, (va_up_self _ _ _).trans (by first | (simp [z_beg, *]; done) | (exfalso; subst_vars; simp_all; done)), (k_up1.tr k_up1).tr k_up1⟩
            · refine x_sipush 144 dX4_begins_81 (by decide) ?_
              refine x_goto 90 dX4_begins_84 (by decide) ?_
              refine pf_X4_begins_17 dX4_begins_90 (by first | assumption | exact va_up_self _ _ _) (Nat.le_of_ble_eq_true rfl) ?_
              refine x_aload_n 0 dX4_begins_93 rfl (by first | rfl | assumption) ?_
              refine x_iload_n 1 dX4_begins_94 rfl (by first | rfl | assumption) ?_
              refine x_sipush 237 dX4_begins_95 (by decide) ?_
              refine x_icmp_ne 107 dX4_begins_98 (by decide) (fun c98 => ?_) (fun c98 => ?_)
              · refine x_iload_n 1 dX4_begins_107 rfl (by first | rfl | assumption) ?_
                refine x_sipush 244 dX4_begins_108 (by decide) ?_
                refine x_icmp_ne 120 dX4_begins_111 (by decide) (fun c111 => ?_) (fun c111 => ?_)
                · refine x_sipush 191 dX4_begins_120 (by decide) ?_
                  refine pf_X4_begins_20 dX4_begins_123 (by first | assumption | exact va_up_self _ _ _) (Nat.le_of_ble_eq_true rfl) ?_
                  refine x_iconst 1 dX4_begins_126 (by decide) ?_
                  refine x_iret rfl (by first | rfl | assumption | exact z_nb _ | decide) dX4_begins_127 (by decide) (by decide) ?_
                  exact ⟨rfl, (va_up_self _ _ _).trans (by first | (simp [z_beg, *]; done) | (exfalso; subst_vars; simp_all; done)), (k_up1.tr k_up1).tr k_up1⟩
                · refine x_sipush 143 dX4_begins_114 (by decide) ?_
                  refine x_goto 123 dX4_begins_117 (by decide) ?_
                  refine pf_X4_begins_20 dX4_begins_123 (by first | assumption | exact va_up_self _ _ _) (Nat.le_of_ble_eq_true rfl) ?_
                  refine x_iconst 1 dX4_begins_126 (by decide) ?_
                  refine x_iret rfl (by first | rfl | assumption | exact z_nb _ | decide) dX4_begins_127 (by decide) (by decide) ?_
                  exact ⟨rfl, (va_up_self _ _ _).trans (by first | (simp [z_beg, *]; done) | (exfalso; subst_vars; simp_all; done)), (k_up1.tr k_up1).tr k_up1⟩
              · refine x_sipush 159 dX4_begins_101 (by decide) ?_
                refine x_goto 123 dX4_begins_104 (by decide) ?_
                refine pf_X4_begins_20 dX4_begins_123 (by first | assumption | exact va_up_self _ _ _) (Nat.le_of_ble_eq_true rfl) ?_
                refine x_iconst 1 dX4_begins_126 (by decide) ?_
                refine x_iret rfl (by first | rfl | assumption | exact z_nb _ | decide) dX4_begins_127 (by decide) (by decide) ?_
                exact ⟨rfl, (va_up_self _ _ _).trans (by first | (simp [z_beg, *]; done) | (exfalso; subst_vars; simp_all; done)), (k_up1.tr k_up1).tr k_up1⟩
          · refine x_sipush 160 dX4_begins_68 (by decide) ?_
            refine x_goto 90 dX4_begins_71 (by decide) ?_
            refine pf_X4_begins_17 dX4_begins_90 (by first | assumption | exact va_up_self _ _ _) (Nat.le_of_ble_eq_true rfl) ?_
            refine x_aload_n 0 dX4_begins_93 rfl (by first | rfl | assumption) ?_
            refine x_iload_n 1 dX4_begins_94 rfl (by first | rfl | assumption) ?_
            refine x_sipush 237 dX4_begins_95 (by decide) ?_
            refine x_icmp_ne 107 dX4_begins_98 (by decide) (fun c98 => ?_) (fun c98 => ?_)
            · refine x_iload_n 1 dX4_begins_107 rfl (by first | rfl | assumption) ?_
              refine x_sipush 244 dX4_begins_108 (by decide) ?_
              refine x_icmp_ne 120 dX4_begins_111 (by decide) (fun c111 => ?_) (fun c111 => ?_)
              · refine x_sipush 191 dX4_begins_120 (by decide) ?_
                refine pf_X4_begins_20 dX4_begins_123 (by first | assumption | exact va_up_self _ _ _) (Nat.le_of_ble_eq_true rfl) ?_
                refine x_iconst 1 dX4_begins_126 (by decide) ?_
                refine x_iret rfl (by first | rfl | assumption | exact z_nb _ | decide) dX4_begins_127 (by decide) (by decide) ?_
                exact ⟨rfl, (va_up_self _ _ _).trans (by first | (simp [z_beg, *]; done) | (exfalso; subst_vars; simp_all; done)), (k_up1.tr k_up1).tr k_up1⟩
              · refine x_sipush 143 dX4_begins_114 (by decide) ?_
                refine x_goto 123 dX4_begins_117 (by decide) ?_
                refine pf_X4_begins_20 dX4_begins_123 (by first | assumption | exact va_up_self _ _ _) (Nat.le_of_ble_eq_true rfl) ?_
                refine x_iconst 1 dX4_begins_126 (by decide) ?_
                refine x_iret rfl (by first | rfl | assumption | exact z_nb _ | decide) dX4_begins_127 (by decide) (by decide) ?_
                exact ⟨rfl, (va_up_self _ _ _).trans (by first | (simp [z_beg, *]; done) | (exfalso; subst_vars; simp_all; done)), (k_up1.tr k_up1).tr k_up1⟩
            · refine x_sipush 159 dX4_begins_101 (by decide) ?_
              refine x_goto 123 dX4_begins_104 (by decide) ?_
              refine pf_X4_begins_20 dX4_begins_123 (by first | assumption | exact va_up_self _ _ _) (Nat.le_of_ble_eq_true rfl) ?_
              refine x_iconst 1 dX4_begins_126 (by decide) ?_
              refine x_iret rfl (by first | rfl | assumption | exact z_nb _ | decide) dX4_begins_127 (by decide) (by decide) ?_
              exact ⟨rfl, (va_up_self _ _ _).trans (by first | (simp [z_beg, *]; done) | (exfalso; subst_vars; simp_all; done)), (k_up1.tr k_up1).tr k_up1⟩
        · refine x_iconst 2 dX4_begins_52 (by decide) ?_
          refine x_goto 57 dX4_begins_53 (by decide) ?_
          refine pf_X4_begins_7 dX4_begins_57 (by first | assumption | exact va_up_self _ _ _) (Nat.le_of_ble_eq_true rfl) ?_
          refine x_aload_n 0 dX4_begins_60 rfl (by first | rfl | assumption) ?_
          refine x_iload_n 1 dX4_begins_61 rfl (by first | rfl | assumption) ?_
          refine x_sipush 224 dX4_begins_62 (by decide) ?_
          refine x_icmp_ne 74 dX4_begins_65 (by decide) (fun c65 => ?_) (fun c65 => ?_)
          · refine x_iload_n 1 dX4_begins_74 rfl (by first | rfl | assumption) ?_
            refine x_sipush 240 dX4_begins_75 (by decide) ?_
            refine x_icmp_ne 87 dX4_begins_78 (by decide) (fun c78 => ?_) (fun c78 => ?_)
            · refine x_sipush 128 dX4_begins_87 (by decide) ?_
              refine pf_X4_begins_17 dX4_begins_90 (by first | assumption | exact va_up_self _ _ _) (Nat.le_of_ble_eq_true rfl) ?_
              refine x_aload_n 0 dX4_begins_93 rfl (by first | rfl | assumption) ?_
              refine x_iload_n 1 dX4_begins_94 rfl (by first | rfl | assumption) ?_
              refine x_sipush 237 dX4_begins_95 (by decide) ?_
              refine x_icmp_ne 107 dX4_begins_98 (by decide) (fun c98 => ?_) (fun c98 => ?_)
              · refine x_iload_n 1 dX4_begins_107 rfl (by first | rfl | assumption) ?_
                refine x_sipush 244 dX4_begins_108 (by decide) ?_
                refine x_icmp_ne 120 dX4_begins_111 (by decide) (fun c111 => ?_) (fun c111 => ?_)
                · refine x_sipush 191 dX4_begins_120 (by decide) ?_
                  refine pf_X4_begins_20 dX4_begins_123 (by first | assumption | exact va_up_self _ _ _) (Nat.le_of_ble_eq_true rfl) ?_
                  refine x_iconst 1 dX4_begins_126 (by decide) ?_
                  refine x_iret rfl (by first | rfl | assumption | exact z_nb _ | decide) dX4_begins_127 (by decide) (by decide) ?_
                  exact ⟨rfl, (va_up_self _ _ _).trans (by first | (simp [z_beg, *]; done) | (exfalso; subst_vars; simp_all; done)), (k_up1.tr k_up1).tr k_up1⟩
                · refine x_sipush 143 dX4_begins_114 (by decide) ?_
                  refine x_goto 123 dX4_begins_117 (by decide) ?_
                  refine pf_X4_begins_20 dX4_begins_123 (by first | assumption | exact va_up_self _ _ _) (Nat.le_of_ble_eq_true rfl) ?_
                  refine x_iconst 1 dX4_begins_126 (by decide) ?_
                  refine x_iret rfl (by first | rfl | assumption | exact z_nb _ | decide) dX4_begins_127 (by decide) (by decide) ?_
                  exact ⟨rfl, (va_up_self _ _ _).trans (by first | (simp [z_beg, *]; done) | (exfalso; subst_vars; simp_all; done)), (k_up1.tr k_up1).tr k_up1⟩
              · refine x_sipush 159 dX4_begins_101 (by decide) ?_
                refine x_goto 123 dX4_begins_104 (by decide) ?_
                refine pf_X4_begins_20 dX4_begins_123 (by first | assumption | exact va_up_self _ _ _) (Nat.le_of_ble_eq_true rfl) ?_
                refine x_iconst 1 dX4_begins_126 (by decide) ?_
                refine x_iret rfl (by first | rfl | assumption | exact z_nb _ | decide) dX4_begins_127 (by decide) (by decide) ?_
                exact ⟨rfl, (va_up_self _ _ _).trans (by first | (simp [z_beg, *]; done) | (exfalso; subst_vars; simp_all; done)), (k_up1.tr k_up1).tr k_up1⟩
            · refine x_sipush 144 dX4_begins_81 (by decide) ?_
              refine x_goto 90 dX4_begins_84 (by decide) ?_
              refine pf_X4_begins_17 dX4_begins_90 (by first | assumption | exact va_up_self _ _ _) (Nat.le_of_ble_eq_true rfl) ?_
              refine x_aload_n 0 dX4_begins_93 rfl (by first | rfl | assumption) ?_
              refine x_iload_n 1 dX4_begins_94 rfl (by first | rfl | assumption) ?_
              refine x_sipush 237 dX4_begins_95 (by decide) ?_
              refine x_icmp_ne 107 dX4_begins_98 (by decide) (fun c98 => ?_) (fun c98 => ?_)
              · refine x_iload_n 1 dX4_begins_107 rfl (by first | rfl | assumption) ?_
                refine x_sipush 244 dX4_begins_108 (by decide) ?_
                refine x_icmp_ne 120 dX4_begins_111 (by decide) (fun c111 => ?_) (fun c111 => ?_)
                · refine x_sipush 191 dX4_begins_120 (by decide) ?_
                  refine pf_X4_begins_20 dX4_begins_123 (by first | assumption | exact va_up_self _ _ _) (Nat.le_of_ble_eq_true rfl) ?_
                  refine x_iconst 1 dX4_begins_126 (by decide) ?_
                  refine x_iret rfl (by first | rfl | assumption | exact z_nb _ | decide) dX4_begins_127 (by decide) (by decide) ?_
                  exact ⟨rfl, (va_up_self _ _ _).trans (by first | (simp [z_beg, *]; done) | (exfalso; subst_vars; simp_all; done)), (k_up1.tr k_up1).tr k_up1⟩
                · refine x_sipush 143 dX4_begins_114 (by decide) ?_
                  refine x_goto 123 dX4_begins_117 (by decide) ?_
                  refine pf_X4_begins_20 dX4_begins_123 (by first | assumption | exact va_up_self _ _ _) (Nat.le_of_ble_eq_true rfl) ?_
                  refine x_iconst 1 dX4_begins_126 (by decide) ?_
                  refine x_iret rfl (by first | rfl | assumption | exact z_nb _ | decide) dX4_begins_127 (by decide) (by decide) ?_
                  exact ⟨rfl, (va_up_self _ _ _).trans (by first | (simp [z_beg, *]; done) | (exfalso; subst_vars; simp_all; done)), (k_up1.tr k_up1).tr k_up1⟩
              · refine x_sipush 159 dX4_begins_101 (by decide) ?_
                refine x_goto 123 dX4_begins_104 (by decide) ?_
                refine pf_X4_begins_20 dX4_begins_123 (by first | assumption | exact va_up_self _ _ _) (Nat.le_of_ble_eq_true rfl) ?_
                refine x_iconst 1 dX4_begins_126 (by decide) ?_
                refine x_iret rfl (by first | rfl | assumption | exact z_nb _ | decide) dX4_begins_127 (by decide) (by decide) ?_
                exact ⟨rfl, (va_up_self _ _ _).trans (by first | (simp [z_beg, *]; done) | (exfalso; subst_vars; simp_all; done)), (k_up1.tr k_up1).tr k_up1⟩
          · refine x_sipush 160 dX4_begins_68 (by decide) ?_
            refine x_goto 90 dX4_begins_71 (by decide) ?_
            refine pf_X4_begins_17 dX4_begins_90 (by first | assumption | exact va_up_self _ _ _) (Nat.le_of_ble_eq_true rfl) ?_
            refine x_aload_n 0 dX4_begins_93 rfl (by first | rfl | assumption) ?_
            refine x_iload_n 1 dX4_begins_94 rfl (by first | rfl | assumption) ?_
            refine x_sipush 237 dX4_begins_95 (by decide) ?_
            refine x_icmp_ne 107 dX4_begins_98 (by decide) (fun c98 => ?_) (fun c98 => ?_)
            · refine x_iload_n 1 dX4_begins_107 rfl (by first | rfl | assumption) ?_
              refine x_sipush 244 dX4_begins_108 (by decide) ?_
              refine x_icmp_ne 120 dX4_begins_111 (by decide) (fun c111 => ?_) (fun c111 => ?_)
              · refine x_sipush 191 dX4_begins_120 (by decide) ?_
                refine pf_X4_begins_20 dX4_begins_123 (by first | assumption | exact va_up_self _ _ _) (Nat.le_of_ble_eq_true rfl) ?_
                refine x_iconst 1 dX4_begins_126 (by decide) ?_
                refine x_iret rfl (by first | rfl | assumption | exact z_nb _ | decide) dX4_begins_127 (by decide) (by decide) ?_
                exact ⟨rfl, (va_up_self _ _ _).trans (by first | (simp [z_beg, *]; done) | (exfalso; subst_vars; simp_all; done)), (k_up1.tr k_up1).tr k_up1⟩
              · refine x_sipush 143 dX4_begins_114 (by decide) ?_
                refine x_goto 123 dX4_begins_117 (by decide) ?_
                refine pf_X4_begins_20 dX4_begins_123 (by first | assumption | exact va_up_self _ _ _) (Nat.le_of_ble_eq_true rfl) ?_
                refine x_iconst 1 dX4_begins_126 (by decide) ?_
                refine x_iret rfl (by first | rfl | assumption | exact z_nb _ | decide) dX4_begins_127 (by decide) (by decide) ?_
                exact ⟨rfl, (va_up_self _ _ _).trans (by first | (simp [z_beg, *]; done) | (exfalso; subst_vars; simp_all; done)), (k_up1.tr k_up1).tr k_up1⟩
            · refine x_sipush 159 dX4_begins_101 (by decide) ?_
              refine x_goto 123 dX4_begins_104 (by decide) ?_
              refine pf_X4_begins_20 dX4_begins_123 (by first | assumption | exact va_up_self _ _ _) (Nat.le_of_ble_eq_true rfl) ?_
              refine x_iconst 1 dX4_begins_126 (by decide) ?_
              refine x_iret rfl (by first | rfl | assumption | exact z_nb _ | decide) dX4_begins_127 (by decide) (by decide) ?_
              exact ⟨rfl, (va_up_self _ _ _).trans (by first | (simp [z_beg, *]; done) | (exfalso; subst_vars; simp_all; done)), (k_up1.tr k_up1).tr k_up1⟩
      · refine x_iconst 1 dX4_begins_41 (by decide) ?_
        refine x_goto 57 dX4_begins_42 (by decide) ?_
        refine pf_X4_begins_7 dX4_begins_57 (by first | assumption | exact va_up_self _ _ _) (Nat.le_of_ble_eq_true rfl) ?_
        refine x_aload_n 0 dX4_begins_60 rfl (by first | rfl | assumption) ?_
        refine x_iload_n 1 dX4_begins_61 rfl (by first | rfl | assumption) ?_
        refine x_sipush 224 dX4_begins_62 (by decide) ?_
        refine x_icmp_ne 74 dX4_begins_65 (by decide) (fun c65 => ?_) (fun c65 => ?_)
        · refine x_iload_n 1 dX4_begins_74 rfl (by first | rfl | assumption) ?_
          refine x_sipush 240 dX4_begins_75 (by decide) ?_
          refine x_icmp_ne 87 dX4_begins_78 (by decide) (fun c78 => ?_) (fun c78 => ?_)
          · refine x_sipush 128 dX4_begins_87 (by decide) ?_
            refine pf_X4_begins_17 dX4_begins_90 (by first | assumption | exact va_up_self _ _ _) (Nat.le_of_ble_eq_true rfl) ?_
            refine x_aload_n 0 dX4_begins_93 rfl (by first | rfl | assumption) ?_
            refine x_iload_n 1 dX4_begins_94 rfl (by first | rfl | assumption) ?_
            refine x_sipush 237 dX4_begins_95 (by decide) ?_
            refine x_icmp_ne 107 dX4_begins_98 (by decide) (fun c98 => ?_) (fun c98 => ?_)
            · refine x_iload_n 1 dX4_begins_107 rfl (by first | rfl | assumption) ?_
              refine x_sipush 244 dX4_begins_108 (by decide) ?_
              refine x_icmp_ne 120 dX4_begins_111 (by decide) (fun c111 => ?_) (fun c111 => ?_)
              · refine x_sipush 191 dX4_begins_120 (by decide) ?_
                refine pf_X4_begins_20 dX4_begins_123 (by first | assumption | exact va_up_self _ _ _) (Nat.le_of_ble_eq_true rfl) ?_
                refine x_iconst 1 dX4_begins_126 (by decide) ?_
                refine x_iret rfl (by first | rfl | assumption | exact z_nb _ | decide) dX4_begins_127 (by decide) (by decide) ?_
                exact ⟨rfl, (va_up_self _ _ _).trans (by first | (simp [z_beg, *]; done) | (exfalso; subst_vars; simp_all; done)), (k_up1.tr k_up1).tr k_up1⟩
              · refine x_sipush 143 dX4_begins_114 (by decide) ?_
                refine x_goto 123 dX4_begins_117 (by decide) ?_
                refine pf_X4_begins_20 dX4_begins_123 (by first | assumption | exact va_up_self _ _ _) (Nat.le_of_ble_eq_true rfl) ?_
                refine x_iconst 1 dX4_begins_126 (by decide) ?_
                refine x_iret rfl (by first | rfl | assumption | exact z_nb _ | decide) dX4_begins_127 (by decide) (by decide) ?_
                exact ⟨rfl, (va_up_self _ _ _).trans (by first | (simp [z_beg, *]; done) | (exfalso; subst_vars; simp_all; done)), (k_up1.tr k_up1).tr k_up1⟩
            · refine x_sipush 159 dX4_begins_101 (by decide) ?_
              refine x_goto 123 dX4_begins_104 (by decide) ?_
              refine pf_X4_begins_20 dX4_begins_123 (by first | assumption | exact va_up_self _ _ _) (Nat.le_of_ble_eq_true rfl) ?_
              refine x_iconst 1 dX4_begins_126 (by decide) ?_
              refine x_iret rfl (by first | rfl | assumption | exact z_nb _ | decide) dX4_begins_127 (by decide) (by decide) ?_
              exact ⟨rfl, (va_up_self _ _ _).trans (by first | (simp [z_beg, *]; done) | (exfalso; subst_vars; simp_all; done)), (k_up1.tr k_up1).tr k_up1⟩
          · refine x_sipush 144 dX4_begins_81 (by decide) ?_
            refine x_goto 90 dX4_begins_84 (by decide) ?_
            refine pf_X4_begins_17 dX4_begins_90 (by first | assumption | exact va_up_self _ _ _) (Nat.le_of_ble_eq_true rfl) ?_
            refine x_aload_n 0 dX4_begins_93 rfl (by first | rfl | assumption) ?_
            refine x_iload_n 1 dX4_begins_94 rfl (by first | rfl | assumption) ?_
            refine x_sipush 237 dX4_begins_95 (by decide) ?_
            refine x_icmp_ne 107 dX4_begins_98 (by decide) (fun c98 => ?_) (fun c98 => ?_)
            · refine x_iload_n 1 dX4_begins_107 rfl (by first | rfl | assumption) ?_
              refine x_sipush 244 dX4_begins_108 (by decide) ?_
              refine x_icmp_ne 120 dX4_begins_111 (by decide) (fun c111 => ?_) (fun c111 => ?_)
              · refine x_sipush 191 dX4_begins_120 (by decide) ?_
                refine pf_X4_begins_20 dX4_begins_123 (by first | assumption | exact va_up_self _ _ _) (Nat.le_of_ble_eq_true rfl) ?_
                refine x_iconst 1 dX4_begins_126 (by decide) ?_
                refine x_iret rfl (by first | rfl | assumption | exact z_nb _ | decide) dX4_begins_127 (by decide) (by decide) ?_
                exact ⟨rfl, (va_up_self _ _ _).trans (by first | (simp [z_beg, *]; done) | (exfalso; subst_vars; simp_all; done)), (k_up1.tr k_up1).tr k_up1⟩
              · refine x_sipush 143 dX4_begins_114 (by decide) ?_
                refine x_goto 123 dX4_begins_117 (by decide) ?_
                refine pf_X4_begins_20 dX4_begins_123 (by first | assumption | exact va_up_self _ _ _) (Nat.le_of_ble_eq_true rfl) ?_
                refine x_iconst 1 dX4_begins_126 (by decide) ?_
                refine x_iret rfl (by first | rfl | assumption | exact z_nb _ | decide) dX4_begins_127 (by decide) (by decide) ?_
                exact ⟨rfl, (va_up_self _ _ _).trans (by first | (simp [z_beg, *]; done) | (exfalso; subst_vars; simp_all; done)), (k_up1.tr k_up1).tr k_up1⟩
            · refine x_sipush 159 dX4_begins_101 (by decide) ?_
              refine x_goto 123 dX4_begins_104 (by decide) ?_
              refine pf_X4_begins_20 dX4_begins_123 (by first | assumption | exact va_up_self _ _ _) (Nat.le_of_ble_eq_true rfl) ?_
              refine x_iconst 1 dX4_begins_126 (by decide) ?_
              refine x_iret rfl (by first | rfl | assumption | exact z_nb _ | decide) dX4_begins_127 (by decide) (by decide) ?_
              exact ⟨rfl, (va_up_self _ _ _).trans (by first | (simp [z_beg, *]; done) | (exfalso; subst_vars; simp_all; done)), (k_up1.tr k_up1).tr k_up1⟩
        · refine x_sipush 160 dX4_begins_68 (by decide) ?_
          refine x_goto 90 dX4_begins_71 (by decide) ?_
          refine pf_X4_begins_17 dX4_begins_90 (by first | assumption | exact va_up_self _ _ _) (Nat.le_of_ble_eq_true rfl) ?_
          refine x_aload_n 0 dX4_begins_93 rfl (by first | rfl | assumption) ?_
          refine x_iload_n 1 dX4_begins_94 rfl (by first | rfl | assumption) ?_
          refine x_sipush 237 dX4_begins_95 (by decide) ?_
          refine x_icmp_ne 107 dX4_begins_98 (by decide) (fun c98 => ?_) (fun c98 => ?_)
          · refine x_iload_n 1 dX4_begins_107 rfl (by first | rfl | assumption) ?_
            refine x_sipush 244 dX4_begins_108 (by decide) ?_
            refine x_icmp_ne 120 dX4_begins_111 (by decide) (fun c111 => ?_) (fun c111 => ?_)
            · refine x_sipush 191 dX4_begins_120 (by decide) ?_
              refine pf_X4_begins_20 dX4_begins_123 (by first | assumption | exact va_up_self _ _ _) (Nat.le_of_ble_eq_true rfl) ?_
              refine x_iconst 1 dX4_begins_126 (by decide) ?_
              refine x_iret rfl (by first | rfl | assumption | exact z_nb _ | decide) dX4_begins_127 (by decide) (by decide) ?_
              exact ⟨rfl, (va_up_self _ _ _).trans (by first | (simp [z_beg, *]; done) | (exfalso; subst_vars; simp_all; done)), (k_up1.tr k_up1).tr k_up1⟩
            · refine x_sipush 143 dX4_begins_114 (by decide) ?_
              refine x_goto 123 dX4_begins_117 (by decide) ?_
              refine pf_X4_begins_20 dX4_begins_123 (by first | assumption | exact va_up_self _ _ _) (Nat.le_of_ble_eq_true rfl) ?_
              refine x_iconst 1 dX4_begins_126 (by decide) ?_
              refine x_iret rfl (by first | rfl | assumption | exact z_nb _ | decide) dX4_begins_127 (by decide) (by decide) ?_
              exact ⟨rfl, (va_up_self _ _ _).trans (by first | (simp [z_beg, *]; done) | (exfalso; subst_vars; simp_all; done)), (k_up1.tr k_up1).tr k_up1⟩
          · refine x_sipush 159 dX4_begins_101 (by decide) ?_
            refine x_goto 123 dX4_begins_104 (by decide) ?_
            refine pf_X4_begins_20 dX4_begins_123 (by first | assumption | exact va_up_self _ _ _) (Nat.le_of_ble_eq_true rfl) ?_
            refine x_iconst 1 dX4_begins_126 (by decide) ?_
            refine x_iret rfl (by first | rfl | assumption | exact z_nb _ | decide) dX4_begins_127 (by decide) (by decide) ?_
            exact ⟨rfl, (va_up_self _ _ _).trans (by first | (simp [z_beg, *]; done) | (exfalso; subst_vars; simp_all; done)), (k_up1.tr k_up1).tr k_up1⟩
    · refine x_iconst 0 dX4_begins_30 (by decide) ?_
      refine x_goto 57 dX4_begins_31 (by decide) ?_
      refine pf_X4_begins_7 dX4_begins_57 (by first | assumption | exact va_up_self _ _ _) (Nat.le_of_ble_eq_true rfl) ?_
      refine x_aload_n 0 dX4_begins_60 rfl (by first | rfl | assumption) ?_
      refine x_iload_n 1 dX4_begins_61 rfl (by first | rfl | assumption) ?_
      refine x_sipush 224 dX4_begins_62 (by decide) ?_
      refine x_icmp_ne 74 dX4_begins_65 (by decide) (fun c65 => ?_) (fun c65 => ?_)
      · refine x_iload_n 1 dX4_begins_74 rfl (by first | rfl | assumption) ?_
        refine x_sipush 240 dX4_begins_75 (by decide) ?_
        refine x_icmp_ne 87 dX4_begins_78 (by decide) (fun c78 => ?_) (fun c78 => ?_)
        · refine x_sipush 128 dX4_begins_87 (by decide) ?_
          refine pf_X4_begins_17 dX4_begins_90 (by first | assumption | exact va_up_self _ _ _) (Nat.le_of_ble_eq_true rfl) ?_
          refine x_aload_n 0 dX4_begins_93 rfl (by first | rfl | assumption) ?_
          refine x_iload_n 1 dX4_begins_94 rfl (by first | rfl | assumption) ?_
          refine x_sipush 237 dX4_begins_95 (by decide) ?_
          refine x_icmp_ne 107 dX4_begins_98 (by decide) (fun c98 => ?_) (fun c98 => ?_)
          · refine x_iload_n 1 dX4_begins_107 rfl (by first | rfl | assumption) ?_
            refine x_sipush 244 dX4_begins_108 (by decide) ?_
            refine x_icmp_ne 120 dX4_begins_111 (by decide) (fun c111 => ?_) (fun c111 => ?_)
            · refine x_sipush 191 dX4_begins_120 (by decide) ?_
              refine pf_X4_begins_20 dX4_begins_123 (by first | assumption | exact va_up_self _ _ _) (Nat.le_of_ble_eq_true rfl) ?_
              refine x_iconst 1 dX4_begins_126 (by decide) ?_
              refine x_iret rfl (by first | rfl | assumption | exact z_nb _ | decide) dX4_begins_127 (by decide) (by decide) ?_
              exact ⟨rfl, (va_up_self _ _ _).trans (by first | (simp [z_beg, *]; done) | (exfalso; subst_vars; simp_all; done)), (k_up1.tr k_up1).tr k_up1⟩
            · refine x_sipush 143 dX4_begins_114 (by decide) ?_
              refine x_goto 123 dX4_begins_117 (by decide) ?_
              refine pf_X4_begins_20 dX4_begins_123 (by first | assumption | exact va_up_self _ _ _) (Nat.le_of_ble_eq_true rfl) ?_
              refine x_iconst 1 dX4_begins_126 (by decide) ?_
              refine x_iret rfl (by first | rfl | assumption | exact z_nb _ | decide) dX4_begins_127 (by decide) (by decide) ?_
              exact ⟨rfl, (va_up_self _ _ _).trans (by first | (simp [z_beg, *]; done) | (exfalso; subst_vars; simp_all; done)), (k_up1.tr k_up1).tr k_up1⟩
          · refine x_sipush 159 dX4_begins_101 (by decide) ?_
            refine x_goto 123 dX4_begins_104 (by decide) ?_
            refine pf_X4_begins_20 dX4_begins_123 (by first | assumption | exact va_up_self _ _ _) (Nat.le_of_ble_eq_true rfl) ?_
            refine x_iconst 1 dX4_begins_126 (by decide) ?_
            refine x_iret rfl (by first | rfl | assumption | exact z_nb _ | decide) dX4_begins_127 (by decide) (by decide) ?_
            exact ⟨rfl, (va_up_self _ _ _).trans (by first | (simp [z_beg, *]; done) | (exfalso; subst_vars; simp_all; done)), (k_up1.tr k_up1).tr k_up1⟩
        · refine x_sipush 144 dX4_begins_81 (by decide) ?_
          refine x_goto 90 dX4_begins_84 (by decide) ?_
          refine pf_X4_begins_17 dX4_begins_90 (by first | assumption | exact va_up_self _ _ _) (Nat.le_of_ble_eq_true rfl) ?_
          refine x_aload_n 0 dX4_begins_93 rfl (by first | rfl | assumption) ?_
          refine x_iload_n 1 dX4_begins_94 rfl (by first | rfl | assumption) ?_
          refine x_sipush 237 dX4_begins_95 (by decide) ?_
          refine x_icmp_ne 107 dX4_begins_98 (by decide) (fun c98 => ?_) (fun c98 => ?_)
          · refine x_iload_n 1 dX4_begins_107 rfl (by first | rfl | assumption) ?_
            refine x_sipush 244 dX4_begins_108 (by decide) ?_
            refine x_icmp_ne 120 dX4_begins_111 (by decide) (fun c111 => ?_) (fun c111 => ?_)
            · refine x_sipush 191 dX4_begins_120 (by decide) ?_
              refine pf_X4_begins_20 dX4_begins_123 (by first | assumption | exact va_up_self _ _ _) (Nat.le_of_ble_eq_true rfl) ?_
              refine x_iconst 1 dX4_begins_126 (by decide) ?_
              refine x_iret rfl (by first | rfl | assumption | exact z_nb _ | decide) dX4_begins_127 (by decide) (by decide) ?_
              exact ⟨rfl, (va_up_self _ _ _).trans (by first | (simp [z_beg, *]; done) | (exfalso; subst_vars; simp_all; done)), (k_up1.tr k_up1).tr k_up1⟩
            · refine x_sipush 143 dX4_begins_114 (by decide) ?_
              refine x_goto 123 dX4_begins_117 (by decide) ?_
              refine pf_X4_begins_20 dX4_begins_123 (by first | assumption | exact va_up_self _ _ _) (Nat.le_of_ble_eq_true rfl) ?_
              refine x_iconst 1 dX4_begins_126 (by decide) ?_
              refine x_iret rfl (by first | rfl | assumption | exact z_nb _ | decide) dX4_begins_127 (by decide) (by decide) ?_
              exact ⟨rfl, (va_up_self _ _ _).trans (by first | (simp [z_beg, *]; done) | (exfalso; subst_vars; simp_all; done)), (k_up1.tr k_up1).tr k_up1⟩
          · refine x_sipush 159 dX4_begins_101 (by decide) ?_
            refine x_goto 123 dX4_begins_104 (by decide) ?_
            refine pf_X4_begins_20 dX4_begins_123 (by first | assumption | exact va_up_self _ _ _) (Nat.le_of_ble_eq_true rfl) ?_
            refine x_iconst 1 dX4_begins_126 (by decide) ?_
            refine x_iret rfl (by first | rfl | assumption | exact z_nb _ | decide) dX4_begins_127 (by decide) (by decide) ?_
            exact ⟨rfl, (va_up_self _ _ _).trans (by first | (simp [z_beg, *]; done) | (exfalso; subst_vars; simp_all; done)), (k_up1.tr k_up1).tr k_up1⟩
      · refine x_sipush 160 dX4_begins_68 (by decide) ?_
        refine x_goto 90 dX4_begins_71 (by decide) ?_
        refine pf_X4_begins_17 dX4_begins_90 (by first | assumption | exact va_up_self _ _ _) (Nat.le_of_ble_eq_true rfl) ?_
        refine x_aload_n 0 dX4_begins_93 rfl (by first | rfl | assumption) ?_
        refine x_iload_n 1 dX4_begins_94 rfl (by first | rfl | assumption) ?_
        refine x_sipush 237 dX4_begins_95 (by decide) ?_
        refine x_icmp_ne 107 dX4_begins_98 (by decide) (fun c98 => ?_) (fun c98 => ?_)
        · refine x_iload_n 1 dX4_begins_107 rfl (by first | rfl | assumption) ?_
          refine x_sipush 244 dX4_begins_108 (by decide) ?_
          refine x_icmp_ne 120 dX4_begins_111 (by decide) (fun c111 => ?_) (fun c111 => ?_)
          · refine x_sipush 191 dX4_begins_120 (by decide) ?_
            refine pf_X4_begins_20 dX4_begins_123 (by first | assumption | exact va_up_self _ _ _) (Nat.le_of_ble_eq_true rfl) ?_
            refine x_iconst 1 dX4_begins_126 (by decide) ?_
            refine x_iret rfl (by first | rfl | assumption | exact z_nb _ | decide) dX4_begins_127 (by decide) (by decide) ?_
            exact ⟨rfl, (va_up_self _ _ _).trans (by first | (simp [z_beg, *]; done) | (exfalso; subst_vars; simp_all; done)), (k_up1.tr k_up1).tr k_up1⟩
          · refine x_sipush 143 dX4_begins_114 (by decide) ?_
            refine x_goto 123 dX4_begins_117 (by decide) ?_
            refine pf_X4_begins_20 dX4_begins_123 (by first | assumption | exact va_up_self _ _ _) (Nat.le_of_ble_eq_true rfl) ?_
            refine x_iconst 1 dX4_begins_126 (by decide) ?_
            refine x_iret rfl (by first | rfl | assumption | exact z_nb _ | decide) dX4_begins_127 (by decide) (by decide) ?_
            exact ⟨rfl, (va_up_self _ _ _).trans (by first | (simp [z_beg, *]; done) | (exfalso; subst_vars; simp_all; done)), (k_up1.tr k_up1).tr k_up1⟩
        · refine x_sipush 159 dX4_begins_101 (by decide) ?_
          refine x_goto 123 dX4_begins_104 (by decide) ?_
          refine pf_X4_begins_20 dX4_begins_123 (by first | assumption | exact va_up_self _ _ _) (Nat.le_of_ble_eq_true rfl) ?_
          refine x_iconst 1 dX4_begins_126 (by decide) ?_
          refine x_iret rfl (by first | rfl | assumption | exact z_nb _ | decide) dX4_begins_127 (by decide) (by decide) ?_
          exact ⟨rfl, (va_up_self _ _ _).trans (by first | (simp [z_beg, *]; done) | (exfalso; subst_vars; simp_all; done)), (k_up1.tr k_up1).tr k_up1⟩
  refine q_enter (M := mX4_begins) (by decide +kernel) rfl (Nat.le_of_ble_eq_true rfl) ?_
  refine x_iload_n 1 dX4_begins_0 rfl (by first | rfl | assumption) ?_
  refine x_bipush 127 dX4_begins_1 (by decide) ?_
  refine x_icmp_le 13 dX4_begins_3 (by decide) (fun c3 => ?_) (fun c3 => ?_)
  · refine x_iload_n 1 dX4_begins_13 rfl (by first | rfl | assumption) ?_
    refine x_sipush 244 dX4_begins_14 (by decide) ?_
    refine x_icmp_le 22 dX4_begins_17 (by decide) (fun c17 => ?_) (fun c17 => ?_)
    · exact tail (z_ok1_t (Or.inl c3) c17)
    · refine x_iconst 0 dX4_begins_20 (by decide) ?_
      refine x_iret rfl (by first | rfl | assumption | exact z_nb _) dX4_begins_21 (by decide) (by decide) ?_
      rw [z_ok1_f2 c17]
      exact ⟨rfl, hc0, k_same.rf⟩
  · refine x_iload_n 1 dX4_begins_6 rfl (by first | rfl | assumption) ?_
    refine x_sipush 194 dX4_begins_7 (by decide) ?_
    refine x_icmp_lt 20 dX4_begins_10 (by decide) (fun c10 => ?_) (fun c10 => ?_)
    · refine x_iconst 0 dX4_begins_20 (by decide) ?_
      refine x_iret rfl (by first | rfl | assumption | exact z_nb _) dX4_begins_21 (by decide) (by decide) ?_
      rw [z_ok1_f1 c3 c10]
      exact ⟨rfl, hc0, k_same.rf⟩
    · refine x_iload_n 1 dX4_begins_13 rfl (by first | rfl | assumption) ?_
      refine x_sipush 244 dX4_begins_14 (by decide) ?_
      refine x_icmp_le 22 dX4_begins_17 (by decide) (fun c17 => ?_) (fun c17 => ?_)
      · exact tail (z_ok1_t (Or.inr c10) c17)
      · refine x_iconst 0 dX4_begins_20 (by decide) ?_
        refine x_iret rfl (by first | rfl | assumption | exact z_nb _) dX4_begins_21 (by decide) (by decide) ?_
        rw [z_ok1_f2 c17]
        exact ⟨rfl, hc0, k_same.rf⟩
theorem sp_accepts (hc : k_chk h a c) (b : Int32) : q_SP G mX4_accepts [.ref a, .int b] h 0 0 (fun o h' => o = some (.int (if (z_u8 c b).isSome then 1 else 0)) ∧ k_chk h' a ((z_u8 c b).getD c) ∧ k_same [a] h h') := by
  have hc0 := hc
  have hc : h a = some (k_ob 4 [.int c.1, .int c.2.1, .int c.2.2]) := hc
  refine q_enter (M := mX4_accepts) (by decide +kernel) rfl (Nat.le_of_ble_eq_true rfl) ?_
  refine x_aload_n 0 dX4_accepts_0 rfl (by first | rfl | assumption) ?_
  refine gf_X4_accepts_7 dX4_accepts_1 (by first | assumption | exact va_up_self _ _ _) rfl ?_
  refine x_if_ne 13 dX4_accepts_4 (by decide) (fun c4 => ?_) (fun c4 => ?_)
  · refine x_iload_n 1 dX4_accepts_13 rfl (by first | rfl | assumption) ?_
    refine x_aload_n 0 dX4_accepts_14 rfl (by first | rfl | assumption) ?_
    refine gf_X4_accepts_17 dX4_accepts_15 (by first | assumption | exact va_up_self _ _ _) rfl ?_
    refine x_icmp_lt 29 dX4_accepts_18 (by decide) (fun c18 => ?_) (fun c18 => ?_)
    · refine x_iconst 0 dX4_accepts_29 (by decide) ?_
      refine x_iret rfl (by first | rfl | assumption | exact z_nb _) dX4_accepts_30 (by decide) (by decide) ?_
      have e : z_u8 c b = none := by
        unfold z_u8
        rw [if_neg c4, if_neg (fun z => Int32.not_le.mpr c18 z.1)]
      rw [e]
      exact ⟨rfl, hc0, k_same.rf⟩
    · refine x_iload_n 1 dX4_accepts_21 rfl (by first | rfl | assumption) ?_
      refine x_aload_n 0 dX4_accepts_22 rfl (by first | rfl | assumption) ?_
      refine gf_X4_accepts_20 dX4_accepts_23 (by first | assumption | exact va_up_self _ _ _) rfl ?_
      refine x_icmp_le 31 dX4_accepts_26 (by decide) (fun c26 => ?_) (fun c26 => ?_)
      · refine x_aload_n 0 dX4_accepts_31 rfl (by first | rfl | assumption) ?_
        refine x_dup dX4_accepts_32 rfl ?_
        refine gf_X4_accepts_7 dX4_accepts_33 (by first | assumption | exact va_up_self _ _ _) rfl ?_
        refine x_iconst 1 dX4_accepts_36 (by decide) ?_
        refine x_isub dX4_accepts_37 ?_
        refine pf_X4_accepts_7 dX4_accepts_38 (by first | assumption | exact va_up_self _ _ _) (Nat.le_of_ble_eq_true rfl) ?_
        refine x_aload_n 0 dX4_accepts_41 rfl (by first | rfl | assumption) ?_
        refine x_sipush 128 dX4_accepts_42 (by decide) ?_
        refine pf_X4_accepts_17 dX4_accepts_45 (by first | assumption | exact va_up_self _ _ _) (Nat.le_of_ble_eq_true rfl) ?_
        refine x_aload_n 0 dX4_accepts_48 rfl (by first | rfl | assumption) ?_
        refine x_sipush 191 dX4_accepts_49 (by decide) ?_
        refine pf_X4_accepts_20 dX4_accepts_52 (by first | assumption | exact va_up_self _ _ _) (Nat.le_of_ble_eq_true rfl) ?_
        refine x_iconst 1 dX4_accepts_55 (by decide) ?_
        refine x_iret rfl (by first | rfl | assumption | exact z_nb _) dX4_accepts_56 (by decide) (by decide) ?_
        have e : z_u8 c b = some (c.1 - 1, 128, 191) := by
          unfold z_u8
          rw [if_neg c4, if_pos ⟨Int32.not_lt.mp c18, c26⟩]
        rw [e]
        exact ⟨rfl, va_up_self _ _ _, (k_up1.tr k_up1).tr k_up1⟩
      · refine x_iconst 0 dX4_accepts_29 (by decide) ?_
        refine x_iret rfl (by first | rfl | assumption | exact z_nb _) dX4_accepts_30 (by decide) (by decide) ?_
        have e : z_u8 c b = none := by
          unfold z_u8
          rw [if_neg c4, if_neg (fun z => c26 z.2)]
        rw [e]
        exact ⟨rfl, hc0, k_same.rf⟩
  · refine x_aload_n 0 dX4_accepts_7 rfl (by first | rfl | assumption) ?_
    refine x_iload_n 1 dX4_accepts_8 rfl (by first | rfl | assumption) ?_
    refine cl_X4_accepts_9 (sp_begins hc0 b) hc (Nat.le_of_ble_eq_true rfl) ⟨Nat.le_of_ble_eq_true rfl, Nat.le_of_ble_eq_true rfl⟩ (fun r h1 hq => ?_)
    obtain ⟨rfl, hk, hs⟩ := hq
    refine x_iret rfl (by cases z_ok1 b <;> decide) dX4_accepts_12 (by decide) (by decide) ?_
    have e : z_u8 c b = if z_ok1 b then some (z_beg b) else none := by
      unfold z_u8 z_ok1
      rw [if_pos c4]
      by_cases hb : b < 128 ∨ 193 < b ∧ b < 245 <;> simp [hb]
    rw [e]
    cases hb : z_ok1 b with
    | true => rw [hb] at hk; exact ⟨rfl, hk, hs⟩
    | false => rw [hb] at hk; exact ⟨rfl, hk, hs⟩
theorem sp_isText {r ra N : Nat} {l : List Int32} (hc : k_chk h a c) (hr : k_row h r ra N l) (hne : r ∉ [a] ∧ ra ∉ [a]) {p : Nat} (hp : p ≤ l.length) : q_SP G mX4_isText [.ref a, .ref r, .int (nI p)] h 0 0 (fun o h' => o = some (.int (if z_txt (l.drop p) then 1 else 0)) ∧ (∃ c', k_chk h' a c') ∧ k_same [a] h h') := by
  have hlen := hr.len
  have hc0 : h a = some (k_ob 4 [.int c.1, .int c.2.1, .int c.2.2]) := hc
  refine q_enter (M := mX4_isText) (by decide +kernel) rfl (Nat.le_of_ble_eq_true rfl) ?_
  refine x_aload_n 0 dX4_isText_0 rfl (by first | rfl | assumption) ?_
  refine cl_X4_isText_1 (sp_restart hc) hc0 (Nat.le_of_ble_eq_true rfl) ⟨Nat.le_of_ble_eq_true rfl, Nat.le_of_ble_eq_true rfl⟩ (fun r1 h1 hq => ?_)
  obtain ⟨rfl, hc1, hs1⟩ := hq
  refine x_iload_n 2 dX4_isText_4 rfl (by first | rfl | assumption) ?_
  refine x_istore_n 3 dX4_isText_5 rfl (by decide) rfl ?_
  have loop : ∀ (n k : Nat) (x : Int32) (h1 : q_H) (c1 : z_T3), x = nI (p + k) → p + k + n = l.length → k_chk h1 a c1 → k_same [a] h h1 → (match z_all c1 (l.drop (p + k)) with | some c => c.1 == 0 | none => false) = z_txt (l.drop p) →
      q_X G mX4_isText (q_R mX4_isText 0 0) (q_FN G (fun o h' => o = some (.int (if z_txt (l.drop p) then 1 else 0)) ∧ (∃ c', k_chk h' a c') ∧ k_same [a] h h') 0 0) 6 [(0, .ref a), (1, .ref r), (2, .int (nI p)), (3, .int x)] [] h1 0 0 := by
    intro n
    induction n with
    | zero =>
      intro k x h1 c1 hx hk hc1 hs hz
      subst hx
      have hr1 := hr.kept hs hne.1 hne.2
      obtain ⟨f1, q1, q2⟩ := id hr1
      have q0 : h1 a = some (k_ob 4 [.int c1.1, .int c1.2.1, .int c1.2.2]) := hc1
      refine x_iload_n 3 dX4_isText_6 rfl (by first | rfl | assumption) ?_
      refine x_aload_n 1 dX4_isText_7 rfl (by first | rfl | assumption) ?_
      refine cl_X4_isText_8 (sp_size hr1) (by first | assumption | exact va_up_self _ _ _) (Nat.le_of_ble_eq_true rfl) ⟨Nat.le_of_ble_eq_true rfl, Nat.le_of_ble_eq_true rfl⟩ (fun r1 h2 hq => ?_)
      obtain ⟨rfl, rfl⟩ := hq
      refine x_icmp_ge 34 dX4_isText_11 (by decide) (fun _ => ?_) (fun z => absurd (nI_le (by omega) (by omega)) z)
      refine x_aload_n 0 dX4_isText_34 rfl (by first | rfl | assumption) ?_
      refine cl_X4_isText_35 (sp_isWhole hc1) q0 (Nat.le_of_ble_eq_true rfl) ⟨Nat.le_of_ble_eq_true rfl, Nat.le_of_ble_eq_true rfl⟩ (fun r1 h2 hq => ?_)
      obtain ⟨rfl, rfl⟩ := hq
      refine x_iret rfl (by by_cases z : c1.1 = 0 <;> simp [z] <;> decide) dX4_isText_38 (by decide) (by decide) ?_
      refine ⟨?_, ⟨c1, hc1⟩, hs⟩
      rw [← hz, List.drop_eq_nil_of_le (by omega)]
      by_cases z : c1.1 = 0 <;> simp [z_all, z]
    | succ n ih =>
      intro k x h1 c1 hx hk hc1 hs hz
      subst hx
      have hr1 := hr.kept hs hne.1 hne.2
      obtain ⟨f1, q1, q2⟩ := id hr1
      have q0 : h1 a = some (k_ob 4 [.int c1.1, .int c1.2.1, .int c1.2.2]) := hc1
      refine x_iload_n 3 dX4_isText_6 rfl (by first | rfl | assumption) ?_
      refine x_aload_n 1 dX4_isText_7 rfl (by first | rfl | assumption) ?_
      refine cl_X4_isText_8 (sp_size hr1) (by first | assumption | exact va_up_self _ _ _) (Nat.le_of_ble_eq_true rfl) ⟨Nat.le_of_ble_eq_true rfl, Nat.le_of_ble_eq_true rfl⟩ (fun r1 h2 hq => ?_)
      obtain ⟨rfl, rfl⟩ := hq
      refine x_icmp_ge 34 dX4_isText_11 (by decide) (fun z => absurd z (nI_ge (by omega) (by omega))) (fun _ => ?_)
      refine x_aload_n 0 dX4_isText_14 rfl (by first | rfl | assumption) ?_
      refine x_aload_n 1 dX4_isText_15 rfl (by first | rfl | assumption) ?_
      refine x_iload_n 3 dX4_isText_16 rfl (by first | rfl | assumption) ?_
      refine cl_X4_isText_17 (sp_atN hr1 (k := p + k) (by omega)) (by first | assumption | exact va_up_self _ _ _) (Nat.le_of_ble_eq_true rfl) ⟨Nat.le_of_ble_eq_true rfl, Nat.le_of_ble_eq_true rfl⟩ (fun r1 h2 hq => ?_)
      obtain ⟨rfl, rfl⟩ := hq
      refine cl_X4_isText_20 (sp_accepts hc1 (l.getD (p + k) 0)) q0 (Nat.le_of_ble_eq_true rfl) ⟨Nat.le_of_ble_eq_true rfl, Nat.le_of_ble_eq_true rfl⟩ (fun r1 h2 hq => ?_)
      obtain ⟨rfl, hc2, hs2⟩ := hq
      have ed : l.drop (p + k) = l.getD (p + k) 0 :: l.drop (p + k + 1) := by
        rw [List.getD_eq_getElem?_getD, List.getElem?_eq_getElem (show p + k < l.length by omega)]
        exact List.drop_eq_getElem_cons (by omega)
      rw [ed] at hz
      cases hu : z_u8 c1 (l.getD (p + k) 0) with
      | none =>
        rw [hu] at hc2
        refine x_if_ne 28 dX4_isText_23 (by decide) (fun z => absurd rfl z) (fun _ => ?_)
        refine x_iconst 0 dX4_isText_26 (by decide) ?_
        refine x_iret rfl (by first | rfl | assumption | exact z_nb _) dX4_isText_27 (by decide) (by decide) ?_
        refine ⟨?_, ⟨_, hc2⟩, hs.tr hs2⟩
        rw [← hz]
        simp only [z_all, hu]
        rfl
      | some c2 =>
        rw [hu] at hc2
        refine x_if_ne 28 dX4_isText_23 (by decide) (fun _ => ?_) (fun z => absurd z (show ¬ (1 : Int32) = 0 by decide))
        refine x_iinc 1 dX4_isText_28 (by first | rfl | assumption) (by decide) (by decide) rfl ?_
        refine x_goto 6 dX4_isText_31 (by decide) ?_
        refine ih (k + 1) _ h2 c2 (by rw [nI_1]; rfl) (by omega) hc2 (hs.tr hs2) ?_
        rw [← hz]
        simp only [z_all, hu]
        rfl
  exact loop (l.length - p) 0 (nI p) h1 _ rfl (by omega) hc1 hs1 (z_all_0 _ _ _)
end TextA
