/-! FramedTalk$Waiting: a ring of four messages -/
section WaitA
variable {G : q_G} {h : q_H} {a aC aK aL : Nat} {w : List (Int32 × List Int32)}
abbrev z_Ms : Type := Int32 × List Int32
def k_ring (h : q_H) (a aC aK aL : Nat) (w : List z_Ms) (o : Nat) (fc fk fl : Nat → Int32) : Prop :=
  h a = some (k_ob 5 [.ref aC, .ref aK, .ref aL, .int (nI o), .int (nI w.length)]) ∧ h aC = some (k_ar 1200 fc) ∧ h aK = some (k_ar 4 fk) ∧ h aL = some (k_ar 4 fl) ∧ o < 4 ∧ w.length ≤ 4
  ∧ (a ≠ aC ∧ a ≠ aK ∧ a ≠ aL ∧ aC ≠ aK ∧ aC ≠ aL ∧ aK ≠ aL)
  ∧ ∀ k, k < w.length → fk ((o + k) % 4) = (w.getD k (0, [])).1 ∧ fl ((o + k) % 4) = nI (w.getD k (0, [])).2.length ∧ (w.getD k (0, [])).2.length ≤ 300 ∧ ∀ j, j < (w.getD k (0, [])).2.length → fc ((o + k) % 4 * 300 + j) = (w.getD k (0, [])).2.getD j 0
/-- the messages that wait -/
def k_wait (h : q_H) (a aC aK aL : Nat) (w : List z_Ms) : Prop := ∃ (o : Nat) (fc fk fl : Nat → Int32), k_ring h a aC aK aL w o fc fk fl
theorem k_wait.kept {h1 : q_H} {S : List Nat} (hw : k_wait h a aC aK aL w) (hs : k_same S h h1) (h0 : a ∉ S ∧ aC ∉ S ∧ aK ∉ S ∧ aL ∉ S) : k_wait h1 a aC aK aL w := by
  obtain ⟨o, fc, fk, fl, h1, h2, h3, h4, h5⟩ := hw
  exact ⟨o, fc, fk, fl, (hs _ h0.1).trans h1, (hs _ h0.2.1).trans h2, (hs _ h0.2.2.1).trans h3, (hs _ h0.2.2.2).trans h4, h5⟩
theorem k_wait.len (hw : k_wait h a aC aK aL w) : w.length ≤ 4 := by
  obtain ⟨o, fc, fk, fl, h1, h2, h3, h4, h5, h6, h7⟩ := hw
  exact h6
theorem k_wait.len300 (hw : k_wait h a aC aK aL w) {k : Nat} (hk : k < w.length) : (w.getD k (0, [])).2.length ≤ 300 := by
  obtain ⟨o, fc, fk, fl, h1, h2, h3, h4, h5, h6, h7, h8⟩ := hw
  exact (h8 k hk).2.2.1
theorem sp_wsize (hw : k_wait h a aC aK aL w) : q_SP G mX5_size [.ref a] h 0 0 (fun o h' => o = some (.int (nI w.length)) ∧ h' = h) := by
  obtain ⟨o, fc, fk, fl, h1, h2, h3, h4, h5, h6, h7⟩ := hw
  refine q_enter (M := mX5_size) (by decide +kernel) rfl (Nat.le_of_ble_eq_true rfl) ?_
  refine x_aload_n 0 dX5_size_0 rfl (by first | rfl | assumption) ?_
  refine gf_X5_size_21 dX5_size_1 (by first | assumption | exact va_up_self _ _ _) rfl ?_
  refine x_iret rfl (by first | rfl | assumption | exact z_nb _ | decide) dX5_size_4 (by decide) (by decide) ?_
  exact ⟨rfl, rfl⟩
theorem sp_whas (hw : k_wait h a aC aK aL w) (i : Int32) : q_SP G mX5_has [.ref a, .int i] h 0 0 (fun o h' => o = some (.int (if ¬ i < 0 ∧ ¬ nI w.length ≤ i then 1 else 0)) ∧ h' = h) := by
  obtain ⟨o, fc, fk, fl, h1, h2, h3, h4, h5, h6, h7⟩ := hw
  refine q_enter (M := mX5_has) (by decide +kernel) rfl (Nat.le_of_ble_eq_true rfl) ?_
  refine x_iload_n 1 dX5_has_0 rfl (by first | rfl | assumption) ?_
  refine x_if_lt 16 dX5_has_1 (by decide) (fun c1 => ?_) (fun c1 => ?_)
  · refine x_iconst 0 dX5_has_16 (by decide) ?_
    refine x_iret rfl (by first | rfl | assumption | exact z_nb _ | decide) dX5_has_17 (by decide) (by decide) ?_
    exact ⟨by simp [*], rfl⟩
  · refine x_iload_n 1 dX5_has_4 rfl (by first | rfl | assumption) ?_
    refine x_aload_n 0 dX5_has_5 rfl (by first | rfl | assumption) ?_
    refine gf_X5_has_21 dX5_has_6 (by first | assumption | exact va_up_self _ _ _) rfl ?_
    refine x_icmp_ge 16 dX5_has_9 (by decide) (fun c9 => ?_) (fun c9 => ?_)
    · refine x_iconst 0 dX5_has_16 (by decide) ?_
      refine x_iret rfl (by first | rfl | assumption | exact z_nb _ | decide) dX5_has_17 (by decide) (by decide) ?_
      exact ⟨by simp [*], rfl⟩
    · refine x_iconst 1 dX5_has_12 (by decide) ?_
      refine x_goto 17 dX5_has_13 (by decide) ?_
      refine x_iret rfl (by first | rfl | assumption | exact z_nb _ | decide) dX5_has_17 (by decide) (by decide) ?_
      exact ⟨by simp [*], rfl⟩
theorem sp_place {o : Nat} {fs0 fs1 fs2 fs4 : Value} (ho : o < 4) (h1 : h a = some (k_ob 5 [fs0, fs1, fs2, .int (nI o), fs4])) {k : Nat} (hk : k ≤ 4) : q_SP G mX5_placeOf [.ref a, .int (nI k)] h 0 0 (fun r h' => r = some (.int (nI ((o + k) % 4))) ∧ h' = h) := by
  refine q_enter (M := mX5_placeOf) (by decide +kernel) rfl (Nat.le_of_ble_eq_true rfl) ?_
  refine x_aload_n 0 dX5_placeOf_0 rfl (by first | rfl | assumption) ?_
  refine gf_X5_placeOf_39 dX5_placeOf_1 (by first | assumption | exact va_up_self _ _ _) rfl ?_
  refine x_iload_n 1 dX5_placeOf_4 rfl (by first | rfl | assumption) ?_
  refine x_iadd dX5_placeOf_5 ?_
  refine x_iconst 4 dX5_placeOf_6 (by decide) ?_
  rw [nI_add]
  refine cl_X5_placeOf_7 (sp_mod4 (o + k) (by omega)) (Nat.le_of_ble_eq_true rfl) ⟨Nat.le_of_ble_eq_true rfl, Nat.le_of_ble_eq_true rfl⟩ (fun r h1 hq => ?_)
  obtain ⟨rfl, rfl⟩ := hq
  refine x_iret rfl (by first | rfl | assumption | exact z_nb _) dX5_placeOf_10 (by decide) (by decide) ?_
  exact ⟨rfl, rfl⟩
theorem sp_kindOf (hw : k_wait h a aC aK aL w) {k : Nat} (hk : k < w.length) : q_SP G mX5_kindOf [.ref a, .int (nI k)] h 0 0 (fun r h' => r = some (.int (w.getD k (0, [])).1) ∧ h' = h) := by
  obtain ⟨o, fc, fk, fl, h1, h2, h3, h4, h5, h6, h7, h8⟩ := hw
  refine q_enter (M := mX5_kindOf) (by decide +kernel) rfl (Nat.le_of_ble_eq_true rfl) ?_
  refine x_aload_n 0 dX5_kindOf_0 rfl (by first | rfl | assumption) ?_
  refine gf_X5_kindOf_15 dX5_kindOf_1 (by first | assumption | exact va_up_self _ _ _) rfl ?_
  refine x_aload_n 0 dX5_kindOf_4 rfl (by first | rfl | assumption) ?_
  refine x_iload_n 1 dX5_kindOf_5 rfl (by first | rfl | assumption) ?_
  refine cl_X5_kindOf_6 (sp_place h5 h1 (k := k) (by omega)) (by first | assumption | exact va_up_self _ _ _) (Nat.le_of_ble_eq_true rfl) ⟨Nat.le_of_ble_eq_true rfl, Nat.le_of_ble_eq_true rfl⟩ (fun r h1 hq => ?_)
  obtain ⟨rfl, rfl⟩ := hq
  have hin : vp_in (nI ((o + k) % 4)) 4 := vp_in_nI (by omega) (by omega)
  refine x_iald dX5_kindOf_9 (by first | assumption | exact va_up_self _ _ _) (by assumption) ?_
  refine x_iret rfl (by first | rfl | assumption | exact z_nb _) dX5_kindOf_10 (by decide) (by decide) ?_
  exact ⟨by rw [nI_clamp (by omega), (h8 k hk).1], rfl⟩
theorem sp_lengthOf (hw : k_wait h a aC aK aL w) {k : Nat} (hk : k < w.length) : q_SP G mX5_lengthOf [.ref a, .int (nI k)] h 0 0 (fun r h' => r = some (.int (nI (w.getD k (0, [])).2.length)) ∧ h' = h) := by
  obtain ⟨o, fc, fk, fl, h1, h2, h3, h4, h5, h6, h7, h8⟩ := hw
  refine q_enter (M := mX5_lengthOf) (by decide +kernel) rfl (Nat.le_of_ble_eq_true rfl) ?_
  refine x_aload_n 0 dX5_lengthOf_0 rfl (by first | rfl | assumption) ?_
  refine gf_X5_lengthOf_18 dX5_lengthOf_1 (by first | assumption | exact va_up_self _ _ _) rfl ?_
  refine x_aload_n 0 dX5_lengthOf_4 rfl (by first | rfl | assumption) ?_
  refine x_iload_n 1 dX5_lengthOf_5 rfl (by first | rfl | assumption) ?_
  refine cl_X5_lengthOf_6 (sp_place h5 h1 (k := k) (by omega)) (by first | assumption | exact va_up_self _ _ _) (Nat.le_of_ble_eq_true rfl) ⟨Nat.le_of_ble_eq_true rfl, Nat.le_of_ble_eq_true rfl⟩ (fun r h1 hq => ?_)
  obtain ⟨rfl, rfl⟩ := hq
  have hin : vp_in (nI ((o + k) % 4)) 4 := vp_in_nI (by omega) (by omega)
  refine x_iald dX5_lengthOf_9 (by first | assumption | exact va_up_self _ _ _) (by assumption) ?_
  refine x_iret rfl (by first | rfl | assumption | exact z_nb _) dX5_lengthOf_10 (by decide) (by decide) ?_
  exact ⟨by rw [nI_clamp (by omega), (h8 k hk).2.1], rfl⟩
theorem sp_contentAt (hw : k_wait h a aC aK aL w) {k i : Nat} (hk : k < w.length) (hi : i < (w.getD k (0, [])).2.length) : q_SP G mX5_contentAt [.ref a, .int (nI k), .int (nI i)] h 0 0 (fun r h' => r = some (.int ((w.getD k (0, [])).2.getD i 0)) ∧ h' = h) := by
  have h300 := hw.len300 hk
  obtain ⟨o, fc, fk, fl, h1, h2, h3, h4, h5, h6, h7, h8⟩ := hw
  refine q_enter (M := mX5_contentAt) (by decide +kernel) rfl (Nat.le_of_ble_eq_true rfl) ?_
  refine x_iload_n 2 dX5_contentAt_0 rfl (by first | rfl | assumption) ?_
  refine x_if_lt 11 dX5_contentAt_1 (by decide) (fun z => absurd z (nI_pos (by omega))) (fun _ => ?_)
  refine x_iload_n 2 dX5_contentAt_4 rfl (by first | rfl | assumption) ?_
  refine x_sipush 300 dX5_contentAt_5 (by decide) ?_
  refine x_icmp_lt 15 dX5_contentAt_8 (by decide) (fun _ => ?_) (fun z => absurd (nI_lt (b := 300) (by omega) (by omega)) z)
  refine x_aload_n 0 dX5_contentAt_15 rfl (by first | rfl | assumption) ?_
  refine gf_X5_contentAt_9 dX5_contentAt_16 (by first | assumption | exact va_up_self _ _ _) rfl ?_
  refine x_aload_n 0 dX5_contentAt_19 rfl (by first | rfl | assumption) ?_
  refine x_iload_n 1 dX5_contentAt_20 rfl (by first | rfl | assumption) ?_
  refine cl_X5_contentAt_21 (sp_place h5 h1 (k := k) (by omega)) (by first | assumption | exact va_up_self _ _ _) (Nat.le_of_ble_eq_true rfl) ⟨Nat.le_of_ble_eq_true rfl, Nat.le_of_ble_eq_true rfl⟩ (fun r h1 hq => ?_)
  obtain ⟨rfl, rfl⟩ := hq
  refine x_sipush 300 dX5_contentAt_24 (by decide) ?_
  refine x_imul dX5_contentAt_27 ?_
  refine x_iload_n 2 dX5_contentAt_28 rfl (by first | rfl | assumption) ?_
  refine x_iadd dX5_contentAt_29 ?_
  rw [show nI ((o + k) % 4) * 300 + nI i = nI ((o + k) % 4 * 300 + i) from by rw [show (300 : Int32) = nI 300 from rfl, pk_mul, nI_add]]
  have hin : vp_in (nI ((o + k) % 4 * 300 + i)) 1200 := vp_in_nI (by omega) (by omega)
  refine x_iald dX5_contentAt_30 (by first | assumption | exact va_up_self _ _ _) (by assumption) ?_
  refine x_iret rfl (by first | rfl | assumption | exact z_nb _) dX5_contentAt_31 (by decide) (by decide) ?_
  exact ⟨by rw [nI_clamp (by omega), (h8 k hk).2.2.2 i hi], rfl⟩
theorem sp_removeOldest (hw : k_wait h a aC aK aL w) (hne : 0 < w.length) : q_SP G mX5_removeOldest [.ref a] h 0 0 (fun r h' => r = none ∧ k_wait h' a aC aK aL w.tail ∧ k_same [a, aC, aK, aL] h h') := by
  obtain ⟨o, fc, fk, fl, h1, h2, h3, h4, h5, h6, h7, h8⟩ := hw
  refine q_enter (M := mX5_removeOldest) (by decide +kernel) rfl (Nat.le_of_ble_eq_true rfl) ?_
  refine x_aload_n 0 dX5_removeOldest_0 rfl (by first | rfl | assumption) ?_
  refine gf_X5_removeOldest_21 dX5_removeOldest_1 (by first | assumption | exact va_up_self _ _ _) rfl ?_
  refine x_if_le 26 dX5_removeOldest_4 (by decide) (fun z => absurd z (nI_nle hne (by omega))) (fun _ => ?_)
  refine x_aload_n 0 dX5_removeOldest_7 rfl (by first | rfl | assumption) ?_
  refine x_aload_n 0 dX5_removeOldest_8 rfl (by first | rfl | assumption) ?_
  refine x_iconst 1 dX5_removeOldest_9 (by decide) ?_
  refine cl_X5_removeOldest_10 (sp_place h5 h1 (k := 1) (by omega)) (by first | assumption | exact va_up_self _ _ _) (Nat.le_of_ble_eq_true rfl) ⟨Nat.le_of_ble_eq_true rfl, Nat.le_of_ble_eq_true rfl⟩ (fun r h1 hq => ?_)
  obtain ⟨rfl, rfl⟩ := hq
  refine pf_X5_removeOldest_39 dX5_removeOldest_13 (by first | assumption | exact va_up_self _ _ _) (Nat.le_of_ble_eq_true rfl) ?_
  refine x_aload_n 0 dX5_removeOldest_16 rfl (by first | rfl | assumption) ?_
  refine x_dup dX5_removeOldest_17 rfl ?_
  refine gf_X5_removeOldest_21 dX5_removeOldest_18 (by first | assumption | exact va_up_self _ _ _) rfl ?_
  refine x_iconst 1 dX5_removeOldest_21 (by decide) ?_
  refine x_isub dX5_removeOldest_22 ?_
  refine pf_X5_removeOldest_21 dX5_removeOldest_23 (by first | assumption | exact va_up_self _ _ _) (Nat.le_of_ble_eq_true rfl) ?_
  refine x_vret rfl dX5_removeOldest_26 (by decide) (by decide) ?_
  have e1 : w.length = w.tail.length + 1 := by simp; omega
  have e2 : ∀ k, w.getD (k + 1) (0, []) = w.tail.getD k (0, []) := by
    intro k
    cases w with
    | nil => simp at hne
    | cons x t => rfl
  refine ⟨rfl, ⟨(o + 1) % 4, fc, fk, fl, ?_, ?_, ?_, ?_, by omega, by omega, h7, fun k hk => ?_⟩, fun q hq => ?_⟩
  · rw [va_up_self]
    show some (k_ob 5 [_, _, _, .int (nI ((o + 1) % 4)), .int (nI w.length - 1)]) = _
    rw [e1, nI_pred]
  · rw [va_up_ne _ _ h7.1.symm, va_up_ne _ _ h7.1.symm]; exact h2
  · rw [va_up_ne _ _ h7.2.1.symm, va_up_ne _ _ h7.2.1.symm]; exact h3
  · rw [va_up_ne _ _ h7.2.2.1.symm, va_up_ne _ _ h7.2.2.1.symm]; exact h4
  · have z := h8 (k + 1) (by omega)
    rw [e2 k, show (o + (k + 1)) % 4 = ((o + 1) % 4 + k) % 4 by omega] at z
    exact z
  · simp at hq
    rw [va_up_ne _ _ hq.1, va_up_ne _ _ hq.1]
theorem sp_wput {r ra N : Nat} {l : List Int32} (hw : k_wait h a aC aK aL w) (hr : k_row h r ra N l) (hl : l.length ≤ 300) (hne : r ∉ [a, aC, aK, aL] ∧ ra ∉ [a, aC, aK, aL]) (kd : Int32) : q_SP G mX5_put [.ref a, .int kd, .ref r] h 0 0 (fun o h' => o = none ∧ k_wait h' a aC aK aL (if w.length < 4 then w ++ [(kd, l)] else w) ∧ k_same [a, aC, aK, aL] h h') := by
  have hw0 := hw
  obtain ⟨o, fc, fk, fl, h1, h2, h3, h4, h5, h6, h7, h8⟩ := hw
  obtain ⟨d1, d2, d3, d4, d5, d6⟩ := h7
  refine q_enter (M := mX5_put) (by decide +kernel) rfl (Nat.le_of_ble_eq_true rfl) ?_
  refine x_aload_n 0 dX5_put_0 rfl (by first | rfl | assumption) ?_
  refine gf_X5_put_21 dX5_put_1 (by first | assumption | exact va_up_self _ _ _) rfl ?_
  refine x_iconst 4 dX5_put_4 (by decide) ?_
  refine x_icmp_ge 57 dX5_put_5 (by decide) (fun c5 => ?_) (fun c5 => ?_)
  · have e : ¬ w.length < 4 := by
      have := (nI_leI (a := 4) (by omega) (by omega)).mp c5
      omega
    refine x_vret rfl dX5_put_57 (by decide) (by decide) ?_
    rw [if_neg e]
    exact ⟨rfl, hw0, k_same.rf⟩
  · have e : w.length < 4 := by
      have : ¬ 4 ≤ w.length := fun z => c5 ((nI_leI (a := 4) (by omega) (by omega)).mpr z)
      omega
    obtain ⟨P, hP⟩ : ∃ P, P = (o + w.length) % 4 := ⟨_, rfl⟩
    have hP4 : P < 4 := by omega
    have hin : vp_in (nI P) 4 := vp_in_nI (by omega) (by omega)
    refine x_aload_n 0 dX5_put_8 rfl (by first | rfl | assumption) ?_
    refine x_aload_n 0 dX5_put_9 rfl (by first | rfl | assumption) ?_
    refine gf_X5_put_21 dX5_put_10 (by first | assumption | exact va_up_self _ _ _) rfl ?_
    refine cl_X5_put_13 (sp_place h5 h1 (k := w.length) (by omega)) (by first | assumption | exact va_up_self _ _ _) (Nat.le_of_ble_eq_true rfl) ⟨Nat.le_of_ble_eq_true rfl, Nat.le_of_ble_eq_true rfl⟩ (fun r1 g2 hq => ?_)
    obtain ⟨rfl, rfl⟩ := hq
    rw [← hP]
    refine x_istore_n 3 dX5_put_16 rfl (by decide) rfl ?_
    refine x_aload_n 0 dX5_put_17 rfl (by first | rfl | assumption) ?_
    refine gf_X5_put_15 dX5_put_18 (by first | assumption | exact va_up_self _ _ _) rfl ?_
    refine x_iload_n 3 dX5_put_21 rfl (by first | rfl | assumption) ?_
    refine x_iload_n 1 dX5_put_22 rfl (by first | rfl | assumption) ?_
    refine x_iast dX5_put_23 (by first | assumption | exact va_up_self _ _ _) (by assumption) ?_
    rw [nI_clamp (by omega)]
    obtain ⟨hA, eA⟩ : ∃ hA, hA = va_up g2 aK (some (k_ar 4 (upd fk P kd))) := ⟨_, rfl⟩
    rw [← eA]
    have a1 : hA a = some (k_ob 5 [.ref aC, .ref aK, .ref aL, .int (nI o), .int (nI w.length)]) := by rw [eA, va_up_ne _ _ d2]; exact h1
    have a4 : hA aL = some (k_ar 4 fl) := by rw [eA, va_up_ne _ _ d6.symm]; exact h4
    have sA : k_same [a, aC, aK, aL] g2 hA := fun q hq => by
      simp at hq
      rw [eA, va_up_ne _ _ hq.2.2.1]
    have rA := hr.kept sA hne.1 hne.2
    obtain ⟨f9, q9, -⟩ := id rA
    refine x_aload_n 0 dX5_put_24 rfl (by first | rfl | assumption) ?_
    refine gf_X5_put_18 dX5_put_25 (by first | assumption | exact va_up_self _ _ _) rfl ?_
    refine x_iload_n 3 dX5_put_28 rfl (by first | rfl | assumption) ?_
    refine x_aload_n 2 dX5_put_29 rfl (by first | rfl | assumption) ?_
    refine cl_X5_put_30 (sp_size rA) (by first | assumption | exact va_up_self _ _ _) (Nat.le_of_ble_eq_true rfl) ⟨Nat.le_of_ble_eq_true rfl, Nat.le_of_ble_eq_true rfl⟩ (fun r1 g3 hq => ?_)
    obtain ⟨rfl, rfl⟩ := hq
    refine x_iast dX5_put_33 (by first | assumption | exact va_up_self _ _ _) (by assumption) ?_
    rw [nI_clamp (by omega)]
    obtain ⟨hB, eB⟩ : ∃ hB, hB = va_up g3 aL (some (k_ar 4 (upd fl P (nI l.length)))) := ⟨_, rfl⟩
    rw [← eB]
    have b1 : hB a = some (k_ob 5 [.ref aC, .ref aK, .ref aL, .int (nI o), .int (nI w.length)]) := by rw [eB, va_up_ne _ _ d3]; exact a1
    have b2 : hB aC = some (k_ar 1200 fc) := by rw [eB, va_up_ne _ _ d5, eA, va_up_ne _ _ d4]; exact h2
    have sB : k_same [a, aC, aK, aL] g3 hB := fun q hq => by
      simp at hq
      rw [eB, va_up_ne _ _ hq.2.2.2]
    have rB := rA.kept sB hne.1 hne.2
    obtain ⟨f8, q8, -⟩ := id rB
    refine x_aload_n 2 dX5_put_34 rfl (by first | rfl | assumption) ?_
    refine x_aload_n 0 dX5_put_35 rfl (by first | rfl | assumption) ?_
    refine gf_X5_put_9 dX5_put_36 (by first | assumption | exact va_up_self _ _ _) rfl ?_
    refine x_iload_n 3 dX5_put_39 rfl (by first | rfl | assumption) ?_
    refine x_sipush 300 dX5_put_40 (by decide) ?_
    refine x_imul dX5_put_43 ?_
    rw [show nI P * 300 = nI (P * 300) from by rw [show (300 : Int32) = nI 300 from rfl, pk_mul]]
    obtain ⟨f, hf, spc⟩ := sp_copyTo (G := G) rB b2 (p := P * 300) (by omega) (by omega)
    refine cl_X5_put_44 spc (by first | assumption | exact va_up_self _ _ _) (Nat.le_of_ble_eq_true rfl) ⟨Nat.le_of_ble_eq_true rfl, Nat.le_of_ble_eq_true rfl⟩ (fun r1 g4 hq => ?_)
    obtain ⟨rfl, rfl⟩ := hq
    have c1 : va_up hB aC (some (k_ar 1200 (va_cpy f fc 0 (P * 300) l.length))) a = some (k_ob 5 [.ref aC, .ref aK, .ref aL, .int (nI o), .int (nI w.length)]) := by rw [va_up_ne _ _ d1]; exact b1
    refine x_aload_n 0 dX5_put_47 rfl (by first | rfl | assumption) ?_
    refine x_dup dX5_put_48 rfl ?_
    refine gf_X5_put_21 dX5_put_49 (by first | assumption | exact va_up_self _ _ _) rfl ?_
    refine x_iconst 1 dX5_put_52 (by decide) ?_
    refine x_iadd dX5_put_53 ?_
    refine pf_X5_put_21 dX5_put_54 (by first | assumption | exact va_up_self _ _ _) (Nat.le_of_ble_eq_true rfl) ?_
    refine x_vret rfl dX5_put_57 (by decide) (by decide) ?_
    rw [if_pos e]
    refine ⟨rfl, ⟨o, va_cpy f fc 0 (P * 300) l.length, upd fk P kd, upd fl P (nI l.length), ?_, ?_, ?_, ?_, h5, by simp; omega, ⟨d1, d2, d3, d4, d5, d6⟩, fun k hk => ?_⟩, fun q hq => ?_⟩
    · rw [va_up_self, List.length_append]
      show some (k_ob 5 [_, _, _, _, .int (nI w.length + 1)]) = _
      rw [nI_1]
      rfl
    · rw [va_up_ne _ _ d1.symm, va_up_self]
    · rw [va_up_ne _ _ d2.symm, va_up_ne _ _ d4.symm, eB, va_up_ne _ _ d6, eA, va_up_self]
    · rw [va_up_ne _ _ d3.symm, va_up_ne _ _ d5.symm, eB, va_up_self]
    · by_cases hkl : k = w.length
      · subst hkl
        rw [← hP, pk_us, pk_us]
        have eg : (w ++ [(kd, l)]).getD w.length (0, []) = (kd, l) := by simp
        rw [eg]
        refine ⟨rfl, rfl, hl, fun j hj => ?_⟩
        have hj : j < l.length := hj
        rw [pk_cpy_in (by omega) (by omega), show 0 + (P * 300 + j - P * 300) = j by omega]
        exact hf j hj
      · simp at hk
        have hk2 : k < w.length := by omega
        have hne2 : (o + k) % 4 ≠ P := by omega
        have eg : (w ++ [(kd, l)]).getD k (0, []) = w.getD k (0, []) := by simp [List.getD_eq_getElem?_getD, List.getElem?_append_left hk2]
        rw [pk_un hne2, pk_un hne2, eg]
        obtain ⟨z1, z2, z3, z4⟩ := h8 k hk2
        refine ⟨z1, z2, z3, fun j hj => ?_⟩
        rw [pk_cpy_out (by omega)]
        exact z4 j hj
    · simp at hq
      rw [va_up_ne _ _ hq.1, va_up_ne _ _ hq.2.1, eB, va_up_ne _ _ hq.2.2.2, eA, va_up_ne _ _ hq.2.2.1]
end WaitA
