/-! FramedTalk: what may be asked of it -/
section TlkG
variable {G : q_G} {h : q_H} {A : Nat → Nat} {st ec dl pg : Int32} {rq out dr : List Int32} {R : z_R} {w : List z_Ms}
def t_has (n : Nat) (i : Int32) : Bool := !decide (i < 0) && !decide (nI n ≤ i)
theorem t_has_if {n : Nat} {i : Int32} : (if ¬ i < 0 ∧ ¬ nI n ≤ i then (1 : Int32) else 0) = z_b (t_has n i) := by
  unfold t_has
  by_cases h1 : i < 0
  · simp [h1, z_b]
  · by_cases h2 : nI n ≤ i
    · simp [h1, h2, z_b]
    · simp [h1, h2, z_b]
theorem t_has_in {n : Nat} {i : Int32} (hn : n < 2 ^ 31) (hh : t_has n i = true) : i.toNatClampNeg < n ∧ i = nI i.toNatClampNeg := by
  unfold t_has at hh
  simp only [Bool.and_eq_true, Bool.not_eq_true', decide_eq_false_iff_not] at hh
  exact nI_neg hn hh.1 hh.2
def a_outAt : z_S → Int32 → z_A
  | (st, ec, dl, pg, rq, out, dr, R, w), i => if t_has out.length i then (0, out.getD i.toNatClampNeg 0, (st, ec, dl, pg, rq, out, dr, R, w)) else (1, 0, (st, ec, dl, pg, rq, out, dr, R, w))
def a_kind : z_S → Int32 → z_A
  | (st, ec, dl, pg, rq, out, dr, R, w), i => if t_has w.length i then (0, (w.getD i.toNatClampNeg (0, [])).1, (st, ec, dl, pg, rq, out, dr, R, w)) else (1, 0, (st, ec, dl, pg, rq, out, dr, R, w))
def a_length : z_S → Int32 → z_A
  | (st, ec, dl, pg, rq, out, dr, R, w), i => if t_has w.length i then (0, nI (w.getD i.toNatClampNeg (0, [])).2.length, (st, ec, dl, pg, rq, out, dr, R, w)) else (1, 0, (st, ec, dl, pg, rq, out, dr, R, w))
def a_byteAt : z_S → Int32 → Int32 → z_A
  | (st, ec, dl, pg, rq, out, dr, R, w), k, i => if t_has w.length k then (if t_has (w.getD k.toNatClampNeg (0, [])).2.length i then (0, (w.getD k.toNatClampNeg (0, [])).2.getD i.toNatClampNeg 0, (st, ec, dl, pg, rq, out, dr, R, w)) else (2, 0, (st, ec, dl, pg, rq, out, dr, R, w))) else (1, 0, (st, ec, dl, pg, rq, out, dr, R, w))
def a_take : z_S → z_A
  | (st, ec, dl, pg, rq, out, dr, R, w) => if 0 < w.length then (0, nI (w.getD 0 (0, [])).2.length, (st, ec, dl, pg, rq, out, dr, R, w.tail)) else (1, 0, (st, ec, dl, pg, rq, out, dr, R, w))
theorem k_wait.o {a aC aK aL : Nat} (hw : k_wait h a aC aK aL w) : ∃ fs, h a = some (k_ob 5 fs) := by
  obtain ⟨o, fc, fk, fl, x1, -⟩ := hw
  exact ⟨_, x1⟩

theorem sp_get_state (ht : k_tlk h A (st, ec, dl, pg, rq, out, dr, R, w)) : q_SP G mX6_state [.ref (A 0)] h 0 0 (fun o h' => o = some (.int st) ∧ h' = h) := by
  have o1 := ht.2.1
  refine q_enter (M := mX6_state) (by decide +kernel) rfl (Nat.le_of_ble_eq_true rfl) ?_
  refine x_aload_n 0 dX6_state_0 rfl (by first | rfl | assumption) ?_
  refine gf_X6_state_49 dX6_state_1 (by first | assumption | exact va_up_self _ _ _) rfl ?_
  refine x_iret rfl (by first | rfl | assumption | exact z_nb _ | decide) dX6_state_4 (by decide) (by decide) ?_
  exact ⟨rfl, rfl⟩

theorem sp_get_endCode (ht : k_tlk h A (st, ec, dl, pg, rq, out, dr, R, w)) : q_SP G mX6_endCode [.ref (A 0)] h 0 0 (fun o h' => o = some (.int ec) ∧ h' = h) := by
  have o1 := ht.2.1
  refine q_enter (M := mX6_endCode) (by decide +kernel) rfl (Nat.le_of_ble_eq_true rfl) ?_
  refine x_aload_n 0 dX6_endCode_0 rfl (by first | rfl | assumption) ?_
  refine gf_X6_endCode_76 dX6_endCode_1 (by first | assumption | exact va_up_self _ _ _) rfl ?_
  refine x_iret rfl (by first | rfl | assumption | exact z_nb _ | decide) dX6_endCode_4 (by decide) (by decide) ?_
  exact ⟨rfl, rfl⟩

theorem sp_get_delivered (ht : k_tlk h A (st, ec, dl, pg, rq, out, dr, R, w)) : q_SP G mX6_delivered [.ref (A 0)] h 0 0 (fun o h' => o = some (.int dl) ∧ h' = h) := by
  have o1 := ht.2.1
  refine q_enter (M := mX6_delivered) (by decide +kernel) rfl (Nat.le_of_ble_eq_true rfl) ?_
  refine x_aload_n 0 dX6_delivered_0 rfl (by first | rfl | assumption) ?_
  refine gf_X6_delivered_63 dX6_delivered_1 (by first | assumption | exact va_up_self _ _ _) rfl ?_
  refine x_iret rfl (by first | rfl | assumption | exact z_nb _ | decide) dX6_delivered_4 (by decide) (by decide) ?_
  exact ⟨rfl, rfl⟩

theorem sp_get_pongs (ht : k_tlk h A (st, ec, dl, pg, rq, out, dr, R, w)) : q_SP G mX6_pongs [.ref (A 0)] h 0 0 (fun o h' => o = some (.int pg) ∧ h' = h) := by
  have o1 := ht.2.1
  refine q_enter (M := mX6_pongs) (by decide +kernel) rfl (Nat.le_of_ble_eq_true rfl) ?_
  refine x_aload_n 0 dX6_pongs_0 rfl (by first | rfl | assumption) ?_
  refine gf_X6_pongs_114 dX6_pongs_1 (by first | assumption | exact va_up_self _ _ _) rfl ?_
  refine x_iret rfl (by first | rfl | assumption | exact z_nb _ | decide) dX6_pongs_4 (by decide) (by decide) ?_
  exact ⟨rfl, rfl⟩

theorem sp_get_outLength (ht : k_tlk h A (st, ec, dl, pg, rq, out, dr, R, w)) : q_SP G mX6_outLength [.ref (A 0)] h 0 0 (fun o h' => o = some (.int (nI out.length)) ∧ h' = h) := by
  have o1 := ht.2.1
  have ro := ht.2.2.2.2.2.1
  have q1 := ro.o
  refine q_enter (M := mX6_outLength) (by decide +kernel) rfl (Nat.le_of_ble_eq_true rfl) ?_
  refine x_aload_n 0 dX6_outLength_0 rfl (by first | rfl | assumption) ?_
  refine gf_X6_outLength_35 dX6_outLength_1 (by first | assumption | exact va_up_self _ _ _) rfl ?_
  refine cl_X6_outLength_4 (sp_size ro) (by first | assumption | exact va_up_self _ _ _) (Nat.le_of_ble_eq_true rfl) ⟨Nat.le_of_ble_eq_true rfl, Nat.le_of_ble_eq_true rfl⟩ (fun r h1 hq => ?_)
  obtain ⟨rfl, rfl⟩ := hq
  refine x_iret rfl (by first | rfl | assumption | exact z_nb _ | decide) dX6_outLength_7 (by decide) (by decide) ?_
  exact ⟨rfl, rfl⟩
theorem sp_get_messages (ht : k_tlk h A (st, ec, dl, pg, rq, out, dr, R, w)) : q_SP G mX6_messages [.ref (A 0)] h 0 0 (fun o h' => o = some (.int (nI w.length)) ∧ h' = h) := by
  have o1 := ht.2.1
  have hw := ht.2.2.2.2.1
  obtain ⟨fs, q1⟩ := hw.o
  refine q_enter (M := mX6_messages) (by decide +kernel) rfl (Nat.le_of_ble_eq_true rfl) ?_
  refine x_aload_n 0 dX6_messages_0 rfl (by first | rfl | assumption) ?_
  refine gf_X6_messages_26 dX6_messages_1 (by first | assumption | exact va_up_self _ _ _) rfl ?_
  refine cl_X6_messages_4 (sp_wsize hw) (by first | assumption | exact va_up_self _ _ _) (Nat.le_of_ble_eq_true rfl) ⟨Nat.le_of_ble_eq_true rfl, Nat.le_of_ble_eq_true rfl⟩ (fun r h1 hq => ?_)
  obtain ⟨rfl, rfl⟩ := hq
  refine x_iret rfl (by first | rfl | assumption | exact z_nb _ | decide) dX6_messages_7 (by decide) (by decide) ?_
  exact ⟨rfl, rfl⟩

theorem sp_outAt {σ : z_S} (ht : k_tlk h A σ) (i : Int32) : q_SX G mX6_outAt [.ref (A 0), .int i] h 1 6 (k_ret h A (a_outAt σ i)) (k_thr h A (a_outAt σ i) "java/lang/IndexOutOfBoundsException" "") := by
  obtain ⟨st, ec, dl, pg, rq, out, dr, R, w⟩ := σ
  have o1 := ht.2.1
  have ro := ht.2.2.2.2.2.1
  have q1 := ro.o
  have hl := ro.len
  dsimp only [a_outAt]
  refine q_enterX (M := mX6_outAt) (by decide +kernel) rfl (Nat.le_of_ble_eq_true rfl) ?_
  refine x_aload_n 0 dX6_outAt_0 rfl (by first | rfl | assumption) ?_
  refine gf_X6_outAt_35 dX6_outAt_1 (by first | assumption | exact va_up_self _ _ _) rfl ?_
  refine x_iload_n 1 dX6_outAt_4 rfl (by first | rfl | assumption) ?_
  refine cl_X6_outAt_5 (sp_has ro i) (by first | assumption | exact va_up_self _ _ _) (Nat.le_of_ble_eq_true rfl) ⟨Nat.le_of_ble_eq_true rfl, Nat.le_of_ble_eq_true rfl⟩ (fun r g hq => ?_)
  obtain ⟨rfl, hg⟩ := hq
  rw [hg, t_has_if]
  cases hn : t_has out.length i with
  | false =>
    refine x_if_ne 19 dX6_outAt_8 (by decide) (fun z => absurd (show z_b false = 0 from rfl) z) (fun _ => ?_)
    refine th_X6_outAt_11 (by decide) (by decide) (by decide) (by decide) (by decide) ?_
    exact ⟨Or.inl ⟨rfl, rfl⟩, ht, k_ext.rf⟩
  | true =>
    obtain ⟨hlt, hi⟩ := t_has_in (by omega) hn
    refine x_if_ne 19 dX6_outAt_8 (by decide) (fun _ => ?_) (fun z => absurd z (show ¬ z_b true = 0 by decide))
    refine x_aload_n 0 dX6_outAt_19 rfl (by first | rfl | assumption) ?_
    refine gf_X6_outAt_35 dX6_outAt_20 (by first | assumption | exact va_up_self _ _ _) rfl ?_
    refine x_iload_n 1 dX6_outAt_23 rfl (by first | rfl | assumption) ?_
    have e : q_SP G mX0_at [.ref (A 19), .int i] h 0 0 (fun o h' => o = some (.int (out.getD i.toNatClampNeg 0)) ∧ h' = h) := by
      have := sp_atN (G := G) ro (k := i.toNatClampNeg) hlt
      rw [← hi] at this
      exact this
    refine cl_X6_outAt_24 e (by first | assumption | exact va_up_self _ _ _) (Nat.le_of_ble_eq_true rfl) ⟨Nat.le_of_ble_eq_true rfl, Nat.le_of_ble_eq_true rfl⟩ (fun r g hq => ?_)
    obtain ⟨rfl, hg⟩ := hq
    rw [hg]
    refine x_fx ?_
    refine x_iret rfl rfl dX6_outAt_27 (by decide) (by decide) ?_
    exact ⟨⟨rfl, rfl⟩, ht, k_ext.rf⟩

theorem sp_kind {σ : z_S} (ht : k_tlk h A σ) (i : Int32) : q_SX G mX6_kind [.ref (A 0), .int i] h 1 6 (k_ret h A (a_kind σ i)) (k_thr h A (a_kind σ i) "java/util/NoSuchElementException" "") := by
  obtain ⟨st, ec, dl, pg, rq, out, dr, R, w⟩ := σ
  have o1 := ht.2.1
  have hw := ht.2.2.2.2.1
  obtain ⟨fs, q1⟩ := hw.o
  have hl := hw.len
  dsimp only [a_kind]
  refine q_enterX (M := mX6_kind) (by decide +kernel) rfl (Nat.le_of_ble_eq_true rfl) ?_
  refine x_aload_n 0 dX6_kind_0 rfl (by first | rfl | assumption) ?_
  refine gf_X6_kind_26 dX6_kind_1 (by first | assumption | exact va_up_self _ _ _) rfl ?_
  refine x_iload_n 1 dX6_kind_4 rfl (by first | rfl | assumption) ?_
  refine cl_X6_kind_5 (sp_whas hw i) (by first | assumption | exact va_up_self _ _ _) (Nat.le_of_ble_eq_true rfl) ⟨Nat.le_of_ble_eq_true rfl, Nat.le_of_ble_eq_true rfl⟩ (fun r g hq => ?_)
  obtain ⟨rfl, hg⟩ := hq
  rw [hg, t_has_if]
  cases hn : t_has w.length i with
  | false =>
    refine x_if_ne 19 dX6_kind_8 (by decide) (fun z => absurd (show z_b false = 0 from rfl) z) (fun _ => ?_)
    refine th_X6_kind_11 (by decide) (by decide) (by decide) (by decide) (by decide) ?_
    exact ⟨Or.inl ⟨rfl, rfl⟩, ht, k_ext.rf⟩
  | true =>
    obtain ⟨hlt, hi⟩ := t_has_in (by omega) hn
    refine x_if_ne 19 dX6_kind_8 (by decide) (fun _ => ?_) (fun z => absurd z (show ¬ z_b true = 0 by decide))
    refine x_aload_n 0 dX6_kind_19 rfl (by first | rfl | assumption) ?_
    refine gf_X6_kind_26 dX6_kind_20 (by first | assumption | exact va_up_self _ _ _) rfl ?_
    refine x_iload_n 1 dX6_kind_23 rfl (by first | rfl | assumption) ?_
    have e : q_SP G mX5_kindOf [.ref (A 15), .int i] h 0 0 (fun o h' => o = some (.int ((w.getD i.toNatClampNeg (0, [])).1)) ∧ h' = h) := by
      have := sp_kindOf (G := G) hw (k := i.toNatClampNeg) hlt
      rw [← hi] at this
      exact this
    refine cl_X6_kind_24 e (by first | assumption | exact va_up_self _ _ _) (Nat.le_of_ble_eq_true rfl) ⟨Nat.le_of_ble_eq_true rfl, Nat.le_of_ble_eq_true rfl⟩ (fun r g hq => ?_)
    obtain ⟨rfl, hg⟩ := hq
    rw [hg]
    refine x_fx ?_
    refine x_iret rfl rfl dX6_kind_27 (by decide) (by decide) ?_
    exact ⟨⟨rfl, rfl⟩, ht, k_ext.rf⟩

theorem sp_length {σ : z_S} (ht : k_tlk h A σ) (i : Int32) : q_SX G mX6_length [.ref (A 0), .int i] h 1 6 (k_ret h A (a_length σ i)) (k_thr h A (a_length σ i) "java/util/NoSuchElementException" "") := by
  obtain ⟨st, ec, dl, pg, rq, out, dr, R, w⟩ := σ
  have o1 := ht.2.1
  have hw := ht.2.2.2.2.1
  obtain ⟨fs, q1⟩ := hw.o
  have hl := hw.len
  dsimp only [a_length]
  refine q_enterX (M := mX6_length) (by decide +kernel) rfl (Nat.le_of_ble_eq_true rfl) ?_
  refine x_aload_n 0 dX6_length_0 rfl (by first | rfl | assumption) ?_
  refine gf_X6_length_26 dX6_length_1 (by first | assumption | exact va_up_self _ _ _) rfl ?_
  refine x_iload_n 1 dX6_length_4 rfl (by first | rfl | assumption) ?_
  refine cl_X6_length_5 (sp_whas hw i) (by first | assumption | exact va_up_self _ _ _) (Nat.le_of_ble_eq_true rfl) ⟨Nat.le_of_ble_eq_true rfl, Nat.le_of_ble_eq_true rfl⟩ (fun r g hq => ?_)
  obtain ⟨rfl, hg⟩ := hq
  rw [hg, t_has_if]
  cases hn : t_has w.length i with
  | false =>
    refine x_if_ne 19 dX6_length_8 (by decide) (fun z => absurd (show z_b false = 0 from rfl) z) (fun _ => ?_)
    refine th_X6_length_11 (by decide) (by decide) (by decide) (by decide) (by decide) ?_
    exact ⟨Or.inl ⟨rfl, rfl⟩, ht, k_ext.rf⟩
  | true =>
    obtain ⟨hlt, hi⟩ := t_has_in (by omega) hn
    refine x_if_ne 19 dX6_length_8 (by decide) (fun _ => ?_) (fun z => absurd z (show ¬ z_b true = 0 by decide))
    refine x_aload_n 0 dX6_length_19 rfl (by first | rfl | assumption) ?_
    refine gf_X6_length_26 dX6_length_20 (by first | assumption | exact va_up_self _ _ _) rfl ?_
    refine x_iload_n 1 dX6_length_23 rfl (by first | rfl | assumption) ?_
    have e : q_SP G mX5_lengthOf [.ref (A 15), .int i] h 0 0 (fun o h' => o = some (.int (nI (w.getD i.toNatClampNeg (0, [])).2.length)) ∧ h' = h) := by
      have := sp_lengthOf (G := G) hw (k := i.toNatClampNeg) hlt
      rw [← hi] at this
      exact this
    refine cl_X6_length_24 e (by first | assumption | exact va_up_self _ _ _) (Nat.le_of_ble_eq_true rfl) ⟨Nat.le_of_ble_eq_true rfl, Nat.le_of_ble_eq_true rfl⟩ (fun r g hq => ?_)
    obtain ⟨rfl, hg⟩ := hq
    rw [hg]
    refine x_fx ?_
    refine x_iret rfl rfl dX6_length_27 (by decide) (by decide) ?_
    exact ⟨⟨rfl, rfl⟩, ht, k_ext.rf⟩

theorem sp_byteAt {σ : z_S} (ht : k_tlk h A σ) (k i : Int32) : q_SX G mX6_byteAt [.ref (A 0), .int k, .int i] h 1 6 (k_ret h A (a_byteAt σ k i)) (k_thr h A (a_byteAt σ k i) "java/util/NoSuchElementException" "java/lang/IndexOutOfBoundsException") := by
  obtain ⟨st, ec, dl, pg, rq, out, dr, R, w⟩ := σ
  have o1 := ht.2.1
  have hw := ht.2.2.2.2.1
  obtain ⟨fs, q1⟩ := hw.o
  have hl := hw.len
  dsimp only [a_byteAt]
  refine q_enterX (M := mX6_byteAt) (by decide +kernel) rfl (Nat.le_of_ble_eq_true rfl) ?_
  refine x_aload_n 0 dX6_byteAt_0 rfl (by first | rfl | assumption) ?_
  refine gf_X6_byteAt_26 dX6_byteAt_1 (by first | assumption | exact va_up_self _ _ _) rfl ?_
  refine x_iload_n 1 dX6_byteAt_4 rfl (by first | rfl | assumption) ?_
  refine cl_X6_byteAt_5 (sp_whas hw k) (by first | assumption | exact va_up_self _ _ _) (Nat.le_of_ble_eq_true rfl) ⟨Nat.le_of_ble_eq_true rfl, Nat.le_of_ble_eq_true rfl⟩ (fun r g hq => ?_)
  obtain ⟨rfl, hg⟩ := hq
  rw [hg, t_has_if]
  cases hn : t_has w.length k with
  | false =>
    refine x_if_ne 19 dX6_byteAt_8 (by decide) (fun z => absurd (show z_b false = 0 from rfl) z) (fun _ => ?_)
    refine th_X6_byteAt_11 (by decide) (by decide) (by decide) (by decide) (by decide) ?_
    exact ⟨Or.inl ⟨rfl, rfl⟩, ht, k_ext.rf⟩
  | true =>
    obtain ⟨hlt, hi⟩ := t_has_in (by omega) hn
    have l3 := hw.len300 hlt
    have e1 : q_SP G mX5_lengthOf [.ref (A 15), .int k] h 0 0 (fun o h' => o = some (.int (nI (w.getD k.toNatClampNeg (0, [])).2.length)) ∧ h' = h) := by
      have := sp_lengthOf (G := G) hw (k := k.toNatClampNeg) hlt
      rw [← hi] at this
      exact this
    refine x_if_ne 19 dX6_byteAt_8 (by decide) (fun _ => ?_) (fun z => absurd z (show ¬ z_b true = 0 by decide))
    rw [if_pos rfl]
    refine x_iload_n 2 dX6_byteAt_19 rfl (by first | rfl | assumption) ?_
    refine x_if_lt 35 dX6_byteAt_20 (by decide) (fun c20 => ?_) (fun c20 => ?_)
    · refine th_X6_byteAt_35 (by decide) (by decide) (by decide) (by decide) (by decide) ?_
      rw [show t_has (w.getD k.toNatClampNeg (0, [])).2.length i = false by unfold t_has; rw [decide_eq_true c20]; rfl]
      exact ⟨Or.inr ⟨rfl, rfl⟩, ht, k_ext.rf⟩
    · refine x_iload_n 2 dX6_byteAt_23 rfl (by first | rfl | assumption) ?_
      refine x_aload_n 0 dX6_byteAt_24 rfl (by first | rfl | assumption) ?_
      refine gf_X6_byteAt_26 dX6_byteAt_25 (by first | assumption | exact va_up_self _ _ _) rfl ?_
      refine x_iload_n 1 dX6_byteAt_28 rfl (by first | rfl | assumption) ?_
      refine cl_X6_byteAt_29 e1 (by first | assumption | exact va_up_self _ _ _) (Nat.le_of_ble_eq_true rfl) ⟨Nat.le_of_ble_eq_true rfl, Nat.le_of_ble_eq_true rfl⟩ (fun r g hq => ?_)
      obtain ⟨rfl, hg⟩ := hq
      rw [hg]
      refine x_icmp_lt 43 dX6_byteAt_32 (by decide) (fun c32 => ?_) (fun c32 => ?_)
      · have hb : t_has (w.getD k.toNatClampNeg (0, [])).2.length i = true := by unfold t_has; rw [decide_eq_false c20, decide_eq_false (Int32.not_le.mpr c32)]; rfl
        obtain ⟨hlt2, hi2⟩ := t_has_in (by omega) hb
        rw [if_pos hb]
        have e2 : q_SP G mX5_contentAt [.ref (A 15), .int k, .int i] h 0 0 (fun o h' => o = some (.int ((w.getD k.toNatClampNeg (0, [])).2.getD i.toNatClampNeg 0)) ∧ h' = h) := by
          have := sp_contentAt (G := G) hw (k := k.toNatClampNeg) (i := i.toNatClampNeg) hlt hlt2
          rw [← hi, ← hi2] at this
          exact this
        refine x_aload_n 0 dX6_byteAt_43 rfl (by first | rfl | assumption) ?_
        refine gf_X6_byteAt_26 dX6_byteAt_44 (by first | assumption | exact va_up_self _ _ _) rfl ?_
        refine x_iload_n 1 dX6_byteAt_47 rfl (by first | rfl | assumption) ?_
        refine x_iload_n 2 dX6_byteAt_48 rfl (by first | rfl | assumption) ?_
        refine cl_X6_byteAt_49 e2 (by first | assumption | exact va_up_self _ _ _) (Nat.le_of_ble_eq_true rfl) ⟨Nat.le_of_ble_eq_true rfl, Nat.le_of_ble_eq_true rfl⟩ (fun r g hq => ?_)
        obtain ⟨rfl, hg⟩ := hq
        rw [hg]
        refine x_fx ?_
        refine x_iret rfl rfl dX6_byteAt_52 (by decide) (by decide) ?_
        exact ⟨⟨rfl, rfl⟩, ht, k_ext.rf⟩
      · have hb : ¬ t_has (w.getD k.toNatClampNeg (0, [])).2.length i = true := by unfold t_has; rw [decide_eq_false c20, decide_eq_true (Int32.not_lt.mp c32)]; decide
        rw [if_neg hb]
        refine th_X6_byteAt_35 (by decide) (by decide) (by decide) (by decide) (by decide) ?_
        exact ⟨Or.inr ⟨rfl, rfl⟩, ht, k_ext.rf⟩
theorem sp_take {σ : z_S} (ht : k_tlk h A σ) : q_SX G mX6_take [.ref (A 0)] h 1 6 (k_ret h A (a_take σ)) (k_thr h A (a_take σ) "java/util/NoSuchElementException" "") := by
  obtain ⟨st, ec, dl, pg, rq, out, dr, R, w⟩ := σ
  have o1 := ht.2.1
  have hw := ht.2.2.2.2.1
  obtain ⟨fs, q1⟩ := hw.o
  have hl := hw.len
  dsimp only [a_take]
  refine q_enterX (M := mX6_take) (by decide +kernel) rfl (Nat.le_of_ble_eq_true rfl) ?_
  refine x_aload_n 0 dX6_take_0 rfl (by first | rfl | assumption) ?_
  refine gf_X6_take_26 dX6_take_1 (by first | assumption | exact va_up_self _ _ _) rfl ?_
  refine x_iconst 0 dX6_take_4 (by decide) ?_
  refine cl_X6_take_5 (sp_whas hw 0) (by first | assumption | exact va_up_self _ _ _) (Nat.le_of_ble_eq_true rfl) ⟨Nat.le_of_ble_eq_true rfl, Nat.le_of_ble_eq_true rfl⟩ (fun r g hq => ?_)
  obtain ⟨rfl, hg⟩ := hq
  rw [hg, t_has_if]
  by_cases hp : 0 < w.length
  · rw [if_pos hp]
    have hb : t_has w.length 0 = true := by
      unfold t_has
      rw [decide_eq_false (show ¬ (0 : Int32) < 0 by decide), decide_eq_false (nI_nle hp (by omega))]; rfl
    rw [hb]
    refine x_if_ne 19 dX6_take_8 (by decide) (fun _ => ?_) (fun z => absurd z (show ¬ z_b true = 0 by decide))
    refine x_aload_n 0 dX6_take_19 rfl (by first | rfl | assumption) ?_
    refine gf_X6_take_26 dX6_take_20 (by first | assumption | exact va_up_self _ _ _) rfl ?_
    refine x_iconst 0 dX6_take_23 (by decide) ?_
    refine cl_X6_take_24 (sp_lengthOf hw (k := 0) hp) (by first | assumption | exact va_up_self _ _ _) (Nat.le_of_ble_eq_true rfl) ⟨Nat.le_of_ble_eq_true rfl, Nat.le_of_ble_eq_true rfl⟩ (fun r g hq => ?_)
    obtain ⟨rfl, hg⟩ := hq
    rw [hg]
    refine x_istore_n 1 dX6_take_27 rfl (by decide) rfl ?_
    refine x_aload_n 0 dX6_take_28 rfl (by first | rfl | assumption) ?_
    refine gf_X6_take_26 dX6_take_29 (by first | assumption | exact va_up_self _ _ _) rfl ?_
    refine cl_X6_take_32 (sp_removeOldest hw hp) (by first | assumption | exact va_up_self _ _ _) (Nat.le_of_ble_eq_true rfl) ⟨Nat.le_of_ble_eq_true rfl, Nat.le_of_ble_eq_true rfl⟩ (fun r g1 hq => ?_)
    obtain ⟨rfl, w1, s1⟩ := hq
    refine x_iload_n 1 dX6_take_35 rfl (by first | rfl | assumption) ?_
    refine x_fx ?_
    refine x_iret rfl rfl dX6_take_36 (by decide) (by decide) ?_
    exact ⟨⟨rfl, rfl⟩, ht.toW w1 s1, k_ext.of (s1.mono (k_sub24 (I := [15, 16, 17, 18]) (by decide)))⟩
  · rw [if_neg hp]
    have hb : t_has w.length 0 = false := by
      unfold t_has
      rw [show w.length = 0 by omega]; decide
    rw [hb]
    refine x_if_ne 19 dX6_take_8 (by decide) (fun z => absurd (show z_b false = 0 from rfl) z) (fun _ => ?_)
    refine th_X6_take_11 (by decide) (by decide) (by decide) (by decide) (by decide) ?_
    exact ⟨Or.inl ⟨rfl, rfl⟩, ht, k_ext.rf⟩

end TlkG
