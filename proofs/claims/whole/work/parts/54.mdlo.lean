/-! the reference: a byte of a text -/
section MdlP
variable {G : q_G} {h0 h : q_H} {B : Nat → Nat} {V : Nat → Value} {F : Nat → Nat → Int32}
def m_chr (c : z_T3) (b : Int32) : z_T3 := if c.1 ≤ 0 then z_beg b else (c.1 - 1, 128, 191)
def m_chk (c : z_T3) (b : Int32) : Bool := if c.1 ≤ 0 then z_ok1 b else !decide (b < c.2.1) && !decide (c.2.2 < b)
def m_c3 (V : Nat → Value) (c : z_T3) : Prop := V 24 = .int c.1 ∧ V 25 = .int c.2.1 ∧ V 26 = .int c.2.2
def m_s3 (V : Nat → Value) (c : z_T3) : Nat → Value := m_u (m_u (m_u V 24 (.int c.1)) 25 (.int c.2.1)) 26 (.int c.2.2)
theorem sm_character {c : z_T3} (hm : k_m h0 h B V F) (hc : m_c3 V c) (b : Int32) : q_SP G mX7_character [.ref (B 0), .int b] h 0 0 (fun o h' => o = some (.int (z_b (m_chk c b))) ∧ k_m h0 h' B (m_s3 V (m_chr c b)) F) := by
  obtain ⟨f24, f25, f26⟩ := hc
  unfold m_chr m_chk
  refine q_enter (M := mX7_character) (by decide +kernel) rfl (Nat.le_of_ble_eq_true rfl) ?_
  refine x_aload_n 0 dX7_character_0 rfl (by first | rfl | assumption) ?_
  refine gf_X7_character_72 dX7_character_1 hm.1 (congrArg some f24) ?_
  by_cases c4 : c.1 ≤ 0
  · rw [if_pos c4, if_pos c4]
    refine x_if_le 55 dX7_character_4 (by decide) (fun _ => ?_) (fun z => absurd c4 z)
    have h159 : ∀ h1 : q_H, k_m h0 h1 B (m_s3 V (z_beg b)) F → q_X G mX7_character (q_R mX7_character 0 0) (q_FN G (fun o h' => o = some (.int (z_b (z_ok1 b))) ∧ k_m h0 h' B (m_s3 V (z_beg b)) F) 0 0) 159 [(0, .ref (B 0)), (1, .int b)] [] h1 0 0 := by
      intro h1 hm
      refine x_iload_n 1 dX7_character_159 rfl (by first | rfl | assumption) ?_
      refine x_sipush 128 dX7_character_160 (by decide) ?_
      refine x_icmp_lt 180 dX7_character_163 (by decide) (fun c163 => ?_) (fun c163 => ?_)
      · refine x_iconst 1 dX7_character_180 (by decide) ?_
        refine x_goto 185 dX7_character_181 (by decide) ?_
        refine x_iret rfl (by first | rfl | assumption | exact z_nb _ | decide) dX7_character_185 (by decide) (by decide) ?_
        first | exact ⟨by rw [show z_ok1 b = true from decide_eq_true (Or.inl c163)]; rfl, hm⟩ | exact ⟨by rw [show z_ok1 b = false from decide_eq_false (fun z => z.elim c163 (fun y => Int32.not_lt.mpr c170 y.1))]; rfl, hm⟩ | exact ⟨by rw [show z_ok1 b = false from decide_eq_false (fun z => z.elim c163 (fun y => Int32.not_lt.mpr c177 y.2))]; rfl, hm⟩ | exact ⟨by rw [show z_ok1 b = true from decide_eq_true (Or.inr ⟨Int32.not_le.mp c170, Int32.not_le.mp c177⟩)]; rfl, hm⟩
      · refine x_iload_n 1 dX7_character_166 rfl (by first | rfl | assumption) ?_
        refine x_sipush 193 dX7_character_167 (by decide) ?_
        refine x_icmp_le 184 dX7_character_170 (by decide) (fun c170 => ?_) (fun c170 => ?_)
        · refine x_iconst 0 dX7_character_184 (by decide) ?_
          refine x_iret rfl (by first | rfl | assumption | exact z_nb _ | decide) dX7_character_185 (by decide) (by decide) ?_
          first | exact ⟨by rw [show z_ok1 b = true from decide_eq_true (Or.inl c163)]; rfl, hm⟩ | exact ⟨by rw [show z_ok1 b = false from decide_eq_false (fun z => z.elim c163 (fun y => Int32.not_lt.mpr c170 y.1))]; rfl, hm⟩ | exact ⟨by rw [show z_ok1 b = false from decide_eq_false (fun z => z.elim c163 (fun y => Int32.not_lt.mpr c177 y.2))]; rfl, hm⟩ | exact ⟨by rw [show z_ok1 b = true from decide_eq_true (Or.inr ⟨Int32.not_le.mp c170, Int32.not_le.mp c177⟩)]; rfl, hm⟩
        · refine x_iload_n 1 dX7_character_173 rfl (by first | rfl | assumption) ?_
          refine x_sipush 245 dX7_character_174 (by decide) ?_
          refine x_icmp_ge 184 dX7_character_177 (by decide) (fun c177 => ?_) (fun c177 => ?_)
          · refine x_iconst 0 dX7_character_184 (by decide) ?_
            refine x_iret rfl (by first | rfl | assumption | exact z_nb _ | decide) dX7_character_185 (by decide) (by decide) ?_
            first | exact ⟨by rw [show z_ok1 b = true from decide_eq_true (Or.inl c163)]; rfl, hm⟩ | exact ⟨by rw [show z_ok1 b = false from decide_eq_false (fun z => z.elim c163 (fun y => Int32.not_lt.mpr c170 y.1))]; rfl, hm⟩ | exact ⟨by rw [show z_ok1 b = false from decide_eq_false (fun z => z.elim c163 (fun y => Int32.not_lt.mpr c177 y.2))]; rfl, hm⟩ | exact ⟨by rw [show z_ok1 b = true from decide_eq_true (Or.inr ⟨Int32.not_le.mp c170, Int32.not_le.mp c177⟩)]; rfl, hm⟩
          · refine x_iconst 1 dX7_character_180 (by decide) ?_
            refine x_goto 185 dX7_character_181 (by decide) ?_
            refine x_iret rfl (by first | rfl | assumption | exact z_nb _ | decide) dX7_character_185 (by decide) (by decide) ?_
            first | exact ⟨by rw [show z_ok1 b = true from decide_eq_true (Or.inl c163)]; rfl, hm⟩ | exact ⟨by rw [show z_ok1 b = false from decide_eq_false (fun z => z.elim c163 (fun y => Int32.not_lt.mpr c170 y.1))]; rfl, hm⟩ | exact ⟨by rw [show z_ok1 b = false from decide_eq_false (fun z => z.elim c163 (fun y => Int32.not_lt.mpr c177 y.2))]; rfl, hm⟩ | exact ⟨by rw [show z_ok1 b = true from decide_eq_true (Or.inr ⟨Int32.not_le.mp c170, Int32.not_le.mp c177⟩)]; rfl, hm⟩
    have h126 : ∀ h1 : q_H, k_m h0 h1 B (m_u (m_u V 24 (.int (z_beg b).1)) 25 (.int (z_beg b).2.1)) F → q_X G mX7_character (q_R mX7_character 0 0) (q_FN G (fun o h' => o = some (.int (z_b (z_ok1 b))) ∧ k_m h0 h' B (m_s3 V (z_beg b)) F) 0 0) 126 [(0, .ref (B 0)), (1, .int b)] [] h1 0 0 := by
      intro h1 hm
      have st : ∀ y : Int32, y = (z_beg b).2.2 → q_X G mX7_character (q_R mX7_character 0 0) (q_FN G (fun o h' => o = some (.int (z_b (z_ok1 b))) ∧ k_m h0 h' B (m_s3 V (z_beg b)) F) 0 0) 156 [(0, .ref (B 0)), (1, .int b)] [.int y, .ref (B 0)] h1 0 0 := by
        intro y hy
        subst hy
        refine pf_X7_character_78 dX7_character_156 hm.1 (Nat.le_of_ble_eq_true rfl) ?_
        refine x_gm hm (fun gm hm f26 => ?_)
        exact h159 _ hm
      refine x_aload_n 0 dX7_character_126 rfl (by first | rfl | assumption) ?_
      refine x_iload_n 1 dX7_character_127 rfl (by first | rfl | assumption) ?_
      refine x_sipush 237 dX7_character_128 (by decide) ?_
      refine x_icmp_ne 140 dX7_character_131 (by decide) (fun c131 => ?_) (fun c131 => ?_)
      · refine x_iload_n 1 dX7_character_140 rfl (by first | rfl | assumption) ?_
        refine x_sipush 244 dX7_character_141 (by decide) ?_
        refine x_icmp_ne 153 dX7_character_144 (by decide) (fun c144 => ?_) (fun c144 => ?_)
        · refine x_sipush 191 dX7_character_153 (by decide) ?_
          exact st _ (by unfold z_beg; simp [*])
        · refine x_sipush 143 dX7_character_147 (by decide) ?_
          refine x_goto 156 dX7_character_150 (by decide) ?_
          exact st _ (by unfold z_beg; simp [*])
      · refine x_sipush 159 dX7_character_134 (by decide) ?_
        refine x_goto 156 dX7_character_137 (by decide) ?_
        exact st _ (by unfold z_beg; simp [*])
    have h93 : ∀ h1 : q_H, k_m h0 h1 B (m_u V 24 (.int (z_beg b).1)) F → q_X G mX7_character (q_R mX7_character 0 0) (q_FN G (fun o h' => o = some (.int (z_b (z_ok1 b))) ∧ k_m h0 h' B (m_s3 V (z_beg b)) F) 0 0) 93 [(0, .ref (B 0)), (1, .int b)] [] h1 0 0 := by
      intro h1 hm
      have st : ∀ y : Int32, y = (z_beg b).2.1 → q_X G mX7_character (q_R mX7_character 0 0) (q_FN G (fun o h' => o = some (.int (z_b (z_ok1 b))) ∧ k_m h0 h' B (m_s3 V (z_beg b)) F) 0 0) 123 [(0, .ref (B 0)), (1, .int b)] [.int y, .ref (B 0)] h1 0 0 := by
        intro y hy
        subst hy
        refine pf_X7_character_75 dX7_character_123 hm.1 (Nat.le_of_ble_eq_true rfl) ?_
        refine x_gm hm (fun gm hm f25 => ?_)
        exact h126 _ hm
      refine x_aload_n 0 dX7_character_93 rfl (by first | rfl | assumption) ?_
      refine x_iload_n 1 dX7_character_94 rfl (by first | rfl | assumption) ?_
      refine x_sipush 224 dX7_character_95 (by decide) ?_
      refine x_icmp_ne 107 dX7_character_98 (by decide) (fun c98 => ?_) (fun c98 => ?_)
      · refine x_iload_n 1 dX7_character_107 rfl (by first | rfl | assumption) ?_
        refine x_sipush 240 dX7_character_108 (by decide) ?_
        refine x_icmp_ne 120 dX7_character_111 (by decide) (fun c111 => ?_) (fun c111 => ?_)
        · refine x_sipush 128 dX7_character_120 (by decide) ?_
          exact st _ (by unfold z_beg; simp [*])
        · refine x_sipush 144 dX7_character_114 (by decide) ?_
          refine x_goto 123 dX7_character_117 (by decide) ?_
          exact st _ (by unfold z_beg; simp [*])
      · refine x_sipush 160 dX7_character_101 (by decide) ?_
        refine x_goto 123 dX7_character_104 (by decide) ?_
        exact st _ (by unfold z_beg; simp [*])
    have st : ∀ y : Int32, y = (z_beg b).1 → q_X G mX7_character (q_R mX7_character 0 0) (q_FN G (fun o h' => o = some (.int (z_b (z_ok1 b))) ∧ k_m h0 h' B (m_s3 V (z_beg b)) F) 0 0) 90 [(0, .ref (B 0)), (1, .int b)] [.int y, .ref (B 0)] h 0 0 := by
      intro y hy
      subst hy
      refine pf_X7_character_72 dX7_character_90 hm.1 (Nat.le_of_ble_eq_true rfl) ?_
      refine x_gm hm (fun gm hm f24 => ?_)
      exact h93 _ hm
    refine x_aload_n 0 dX7_character_55 rfl (by first | rfl | assumption) ?_
    refine x_iload_n 1 dX7_character_56 rfl (by first | rfl | assumption) ?_
    refine x_sipush 128 dX7_character_57 (by decide) ?_
    refine x_icmp_ge 67 dX7_character_60 (by decide) (fun c60 => ?_) (fun c60 => ?_)
    · refine x_iload_n 1 dX7_character_67 rfl (by first | rfl | assumption) ?_
      refine x_sipush 224 dX7_character_68 (by decide) ?_
      refine x_icmp_ge 78 dX7_character_71 (by decide) (fun c71 => ?_) (fun c71 => ?_)
      · refine x_iload_n 1 dX7_character_78 rfl (by first | rfl | assumption) ?_
        refine x_sipush 240 dX7_character_79 (by decide) ?_
        refine x_icmp_ge 89 dX7_character_82 (by decide) (fun c82 => ?_) (fun c82 => ?_)
        · refine x_iconst 3 dX7_character_89 (by decide) ?_
          exact st _ (by unfold z_beg; simp [*])
        · refine x_iconst 2 dX7_character_85 (by decide) ?_
          refine x_goto 90 dX7_character_86 (by decide) ?_
          exact st _ (by unfold z_beg; simp [*])
      · refine x_iconst 1 dX7_character_74 (by decide) ?_
        refine x_goto 90 dX7_character_75 (by decide) ?_
        exact st _ (by unfold z_beg; simp [*])
    · refine x_iconst 0 dX7_character_63 (by decide) ?_
      refine x_goto 90 dX7_character_64 (by decide) ?_
      exact st _ (by unfold z_beg; simp [*])
  · rw [if_neg c4, if_neg c4]
    refine x_if_le 55 dX7_character_4 (by decide) (fun z => absurd z c4) (fun _ => ?_)
    have st : ∀ g : Bool, g = (!decide (b < c.2.1) && !decide (c.2.2 < b)) → q_X G mX7_character (q_R mX7_character 0 0) (q_FN G (fun o h' => o = some (.int (z_b (!decide (b < c.2.1) && !decide (c.2.2 < b)))) ∧ k_m h0 h' B (m_s3 V (c.1 - 1, 128, 191)) F) 0 0) 28 [(0, .ref (B 0)), (1, .int b)] [.int (z_b g)] h 0 0 := by
      intro g hg
      refine x_istore_n 2 dX7_character_28 rfl (by decide) rfl ?_
      refine x_aload_n 0 dX7_character_29 rfl (by first | rfl | assumption) ?_
      refine x_dup dX7_character_30 rfl ?_
      refine gf_X7_character_72 dX7_character_31 hm.1 (congrArg some f24) ?_
      refine x_iconst 1 dX7_character_34 (by decide) ?_
      refine x_isub dX7_character_35 ?_
      refine pf_X7_character_72 dX7_character_36 hm.1 (Nat.le_of_ble_eq_true rfl) ?_
      refine x_gm hm (fun gm hm f24 => ?_)
      refine x_aload_n 0 dX7_character_39 rfl (by first | rfl | assumption) ?_
      refine x_sipush 128 dX7_character_40 (by decide) ?_
      refine pf_X7_character_75 dX7_character_43 hm.1 (Nat.le_of_ble_eq_true rfl) ?_
      refine x_gm hm (fun gm hm f25 => ?_)
      refine x_aload_n 0 dX7_character_46 rfl (by first | rfl | assumption) ?_
      refine x_sipush 191 dX7_character_47 (by decide) ?_
      refine pf_X7_character_78 dX7_character_50 hm.1 (Nat.le_of_ble_eq_true rfl) ?_
      refine x_gm hm (fun gm hm f26 => ?_)
      refine x_iload_n 2 dX7_character_53 rfl (by first | rfl | assumption) ?_
      refine x_iret rfl (by first | rfl | assumption | exact z_nb _) dX7_character_54 (by decide) (by decide) ?_
      exact ⟨by rw [hg], hm⟩
    refine x_iload_n 1 dX7_character_7 rfl (by first | rfl | assumption) ?_
    refine x_aload_n 0 dX7_character_8 rfl (by first | rfl | assumption) ?_
    refine gf_X7_character_75 dX7_character_9 hm.1 (congrArg some f25) ?_
    by_cases d1 : b < c.2.1
    · refine x_icmp_lt 27 dX7_character_12 (by decide) (fun _ => ?_) (fun z => absurd d1 z)
      refine x_iconst 0 dX7_character_27 (by decide) ?_
      exact st false (by rw [decide_eq_true d1]; rfl)
    · refine x_icmp_lt 27 dX7_character_12 (by decide) (fun z => absurd z d1) (fun _ => ?_)
      refine x_iload_n 1 dX7_character_15 rfl (by first | rfl | assumption) ?_
      refine x_aload_n 0 dX7_character_16 rfl (by first | rfl | assumption) ?_
      refine gf_X7_character_78 dX7_character_17 hm.1 (congrArg some f26) ?_
      by_cases d2 : c.2.2 < b
      · refine x_icmp_gt 27 dX7_character_20 (by decide) (fun _ => ?_) (fun z => absurd d2 z)
        refine x_iconst 0 dX7_character_27 (by decide) ?_
        exact st false (by rw [decide_eq_true d2, Bool.not_true, Bool.and_false])
      · refine x_icmp_gt 27 dX7_character_20 (by decide) (fun z => absurd z d2) (fun _ => ?_)
        refine x_iconst 1 dX7_character_23 (by decide) ?_
        refine x_goto 28 dX7_character_24 (by decide) ?_
        exact st true (by rw [decide_eq_false d1, decide_eq_false d2]; rfl)
end MdlP
