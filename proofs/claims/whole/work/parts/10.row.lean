/-! FramedTalk$ByteRow -/
section RowA
variable {G : q_G} {h : q_H} {r ra N : Nat} {l : List Int32}
/-- the row of bytes at r, its numbers at ra, with room for N: it holds l -/
def k_row (h : q_H) (r ra N : Nat) (l : List Int32) : Prop := ∃ f : Nat → Int32, h r = some (k_ob 0 [.ref ra, .int (nI l.length)]) ∧ h ra = some (k_ar N f) ∧ l.length ≤ N ∧ N < 2 ^ 20 ∧ ∀ j, j < l.length → f j = l.getD j 0
/-- nothing but the cells of S has changed -/
def k_same (S : List Nat) (h h' : q_H) : Prop := ∀ q, q ∉ S → h' q = h q
theorem k_row.ne (hr : k_row h r ra N l) : r ≠ ra := by
  obtain ⟨f, h1, h2, -⟩ := hr
  intro z
  rw [z, h2] at h1
  cases h1
/-- an int against a count -/
theorem nI_neg {i : Int32} {n : Nat} (hn : n < 2 ^ 31) (h0 : ¬ i < 0) (h : ¬ nI n ≤ i) : i.toNatClampNeg < n ∧ i = nI i.toNatClampNeg := by
  obtain ⟨j, hj, rfl⟩ := nI_of h0
  have : j < n := by
    have : ¬ n ≤ j := fun z => h ((nI_leI hn hj).mpr z)
    omega
  rw [nI_clamp hj]
  exact ⟨this, rfl⟩
theorem sp_size (hr : k_row h r ra N l) : q_SP G mX0_size [.ref r] h 0 0 (fun o h' => o = some (.int (nI l.length)) ∧ h' = h) := by
  obtain ⟨f, h1, h2, h3, h4, h5⟩ := hr
  refine q_enter (M := mX0_size) (by decide +kernel) rfl (Nat.le_of_ble_eq_true rfl) ?_
  refine x_aload_n 0 dX0_size_0 rfl (by first | rfl | assumption) ?_
  refine gf_X0_size_13 dX0_size_1 (by first | assumption | exact va_up_self _ _ _) rfl ?_
  refine x_iret rfl (by first | rfl | assumption | exact z_nb _ | decide) dX0_size_4 (by decide) (by decide) ?_
  exact ⟨rfl, rfl⟩
theorem sp_has (hr : k_row h r ra N l) (i : Int32) : q_SP G mX0_has [.ref r, .int i] h 0 0 (fun o h' => o = some (.int (if ¬ i < 0 ∧ ¬ nI l.length ≤ i then 1 else 0)) ∧ h' = h) := by
  obtain ⟨f, h1, h2, h3, h4, h5⟩ := hr
  refine q_enter (M := mX0_has) (by decide +kernel) rfl (Nat.le_of_ble_eq_true rfl) ?_
  refine x_iload_n 1 dX0_has_0 rfl (by first | rfl | assumption) ?_
  refine x_if_lt 16 dX0_has_1 (by decide) (fun c1 => ?_) (fun c1 => ?_)
  · refine x_iconst 0 dX0_has_16 (by decide) ?_
    refine x_iret rfl (by first | rfl | assumption | exact z_nb _ | decide) dX0_has_17 (by decide) (by decide) ?_
    exact ⟨by simp [*], rfl⟩
  · refine x_iload_n 1 dX0_has_4 rfl (by first | rfl | assumption) ?_
    refine x_aload_n 0 dX0_has_5 rfl (by first | rfl | assumption) ?_
    refine gf_X0_has_13 dX0_has_6 (by first | assumption | exact va_up_self _ _ _) rfl ?_
    refine x_icmp_ge 16 dX0_has_9 (by decide) (fun c9 => ?_) (fun c9 => ?_)
    · refine x_iconst 0 dX0_has_16 (by decide) ?_
      refine x_iret rfl (by first | rfl | assumption | exact z_nb _ | decide) dX0_has_17 (by decide) (by decide) ?_
      exact ⟨by simp [*], rfl⟩
    · refine x_iconst 1 dX0_has_12 (by decide) ?_
      refine x_goto 17 dX0_has_13 (by decide) ?_
      refine x_iret rfl (by first | rfl | assumption | exact z_nb _ | decide) dX0_has_17 (by decide) (by decide) ?_
      exact ⟨by simp [*], rfl⟩
theorem sp_at (hr : k_row h r ra N l) (i : Int32) : q_SP G mX0_at [.ref r, .int i] h 0 0 (fun o h' => o = some (.int (if ¬ i < 0 ∧ ¬ nI l.length ≤ i then l.getD i.toNatClampNeg 0 else -1)) ∧ h' = h) := by
  obtain ⟨f, h1, h2, h3, h4, h5⟩ := hr
  refine q_enter (M := mX0_at) (by decide +kernel) rfl (Nat.le_of_ble_eq_true rfl) ?_
  refine x_iload_n 1 dX0_at_0 rfl (by first | rfl | assumption) ?_
  refine x_if_lt 21 dX0_at_1 (by decide) (fun c1 => ?_) (fun c1 => ?_)
  · refine x_iconst (-1) dX0_at_21 (by decide) ?_
    refine x_iret rfl (by first | rfl | assumption | exact z_nb _ | decide) dX0_at_22 (by decide) (by decide) ?_
    exact ⟨by first | (rw [h5 _ n1]; simp [c1, c9]; done) | (simp [*]; done), rfl⟩
  · refine x_iload_n 1 dX0_at_4 rfl (by first | rfl | assumption) ?_
    refine x_aload_n 0 dX0_at_5 rfl (by first | rfl | assumption) ?_
    refine gf_X0_at_13 dX0_at_6 (by first | assumption | exact va_up_self _ _ _) rfl ?_
    refine x_icmp_ge 21 dX0_at_9 (by decide) (fun c9 => ?_) (fun c9 => ?_)
    · refine x_iconst (-1) dX0_at_21 (by decide) ?_
      refine x_iret rfl (by first | rfl | assumption | exact z_nb _ | decide) dX0_at_22 (by decide) (by decide) ?_
      exact ⟨by first | (rw [h5 _ n1]; simp [c1, c9]; done) | (simp [*]; done), rfl⟩
    · refine x_aload_n 0 dX0_at_12 rfl (by first | rfl | assumption) ?_
      refine gf_X0_at_7 dX0_at_13 (by first | assumption | exact va_up_self _ _ _) rfl ?_
      refine x_iload_n 1 dX0_at_16 rfl (by first | rfl | assumption) ?_
      obtain ⟨n1, n2⟩ := nI_neg (by omega) c1 c9
      refine x_iald dX0_at_17 (by first | assumption | exact va_up_self _ _ _) (by rw [n2]; exact vp_in_nI (by omega) (by omega)) ?_
      refine x_goto 22 dX0_at_18 (by decide) ?_
      refine x_iret rfl (by first | rfl | assumption | exact z_nb _ | decide) dX0_at_22 (by decide) (by decide) ?_
      exact ⟨by first | (rw [h5 _ n1]; simp [c1, c9]; done) | (simp [*]; done), rfl⟩
theorem sp_pair (hr : k_row h r ra N l) : q_SP G mX0_pairAtStart [.ref r] h 0 0 (fun o h' => o = some (.int (if l.length < 2 then -1 else l.getD 0 0 * 256 + l.getD 1 0)) ∧ h' = h) := by
  obtain ⟨f, h1, h2, h3, h4, h5⟩ := hr
  refine q_enter (M := mX0_pairAtStart) (by decide +kernel) rfl (Nat.le_of_ble_eq_true rfl) ?_
  refine x_aload_n 0 dX0_pairAtStart_0 rfl (by first | rfl | assumption) ?_
  refine gf_X0_pairAtStart_13 dX0_pairAtStart_1 (by first | assumption | exact va_up_self _ _ _) rfl ?_
  refine x_iconst 2 dX0_pairAtStart_4 (by decide) ?_
  refine x_icmp_ge 12 dX0_pairAtStart_5 (by decide) (fun c5 => ?_) (fun c5 => ?_)
  · have e2 : 2 ≤ l.length := (nI_leI (a := 2) (by omega) (by omega)).mp c5
    have i0 : vp_in 0 N := vp_in_nI (n := 0) (by omega) (by omega)
    have i1 : vp_in 1 N := vp_in_nI (n := 1) (by omega) (by omega)
    refine x_aload_n 0 dX0_pairAtStart_12 rfl (by first | rfl | assumption) ?_
    refine gf_X0_pairAtStart_7 dX0_pairAtStart_13 (by first | assumption | exact va_up_self _ _ _) rfl ?_
    refine x_iconst 0 dX0_pairAtStart_16 (by decide) ?_
    refine x_iald dX0_pairAtStart_17 (by first | assumption | exact va_up_self _ _ _) (by assumption) ?_
    refine x_sipush 256 dX0_pairAtStart_18 (by decide) ?_
    refine x_imul dX0_pairAtStart_21 ?_
    refine x_aload_n 0 dX0_pairAtStart_22 rfl (by first | rfl | assumption) ?_
    refine gf_X0_pairAtStart_7 dX0_pairAtStart_23 (by first | assumption | exact va_up_self _ _ _) rfl ?_
    refine x_iconst 1 dX0_pairAtStart_26 (by decide) ?_
    refine x_iald dX0_pairAtStart_27 (by first | assumption | exact va_up_self _ _ _) (by assumption) ?_
    refine x_iadd dX0_pairAtStart_28 ?_
    refine x_iret rfl (by first | rfl | assumption | exact z_nb _ | decide) dX0_pairAtStart_29 (by decide) (by decide) ?_
    exact ⟨by rw [if_neg (by omega), ← h5 0 (by omega), ← h5 1 (by omega)]; rfl, rfl⟩
  · have e2 : ¬ 2 ≤ l.length := fun z => c5 ((nI_leI (a := 2) (by omega) (by omega)).mpr z)
    refine x_iconst (-1) dX0_pairAtStart_8 (by decide) ?_
    refine x_goto 29 dX0_pairAtStart_9 (by decide) ?_
    refine x_iret rfl (by first | rfl | assumption | exact z_nb _ | decide) dX0_pairAtStart_29 (by decide) (by decide) ?_
    exact ⟨by rw [if_pos (by omega)], rfl⟩
theorem sp_isFull (hr : k_row h r ra N l) : q_SP G mX0_isFull [.ref r] h 0 0 (fun o h' => o = some (.int (if l.length = N then 1 else 0)) ∧ h' = h) := by
  obtain ⟨f, h1, h2, h3, h4, h5⟩ := hr
  refine q_enter (M := mX0_isFull) (by decide +kernel) rfl (Nat.le_of_ble_eq_true rfl) ?_
  refine x_aload_n 0 dX0_isFull_0 rfl (by first | rfl | assumption) ?_
  refine gf_X0_isFull_13 dX0_isFull_1 (by first | assumption | exact va_up_self _ _ _) rfl ?_
  refine x_aload_n 0 dX0_isFull_4 rfl (by first | rfl | assumption) ?_
  refine gf_X0_isFull_7 dX0_isFull_5 (by first | assumption | exact va_up_self _ _ _) rfl ?_
  refine x_alen dX0_isFull_8 (by first | assumption | exact va_up_self _ _ _) ?_
  refine x_icmp_ne 16 dX0_isFull_9 (by decide) (fun c9 => ?_) (fun c9 => ?_)
  · refine x_iconst 0 dX0_isFull_16 (by decide) ?_
    refine x_iret rfl (by first | rfl | assumption | exact z_nb _ | decide) dX0_isFull_17 (by decide) (by decide) ?_
    exact ⟨by rw [nI_eq (by omega) (by omega)] at c9; simp [*], rfl⟩
  · refine x_iconst 1 dX0_isFull_12 (by decide) ?_
    refine x_goto 17 dX0_isFull_13 (by decide) ?_
    refine x_iret rfl (by first | rfl | assumption | exact z_nb _ | decide) dX0_isFull_17 (by decide) (by decide) ?_
    exact ⟨by rw [nI_eq (by omega) (by omega)] at c9; simp [*], rfl⟩
theorem k_row.setN {x : Nat} {f : Nat → Int32} (hne : r ≠ ra) (hf : h ra = some (k_ar N f)) (hx : x ≤ N) (hN : N < 2 ^ 20) : k_row (va_up h r (some (k_ob 0 [.ref ra, .int (nI x)]))) r ra N ((List.range x).map f) := by
  refine ⟨f, by rw [va_up_self]; simp, by rw [va_up_ne _ _ hne.symm]; exact hf, by simpa using hx, hN, fun j hj => ?_⟩
  simp at hj
  simp [hj]
theorem sp_empty (hr : k_row h r ra N l) : q_SP G mX0_empty [.ref r] h 0 0 (fun o h' => o = none ∧ k_row h' r ra N [] ∧ k_same [r, ra] h h') := by
  have hne := hr.ne
  obtain ⟨f, h1, h2, h3, h4, h5⟩ := hr
  refine q_enter (M := mX0_empty) (by decide +kernel) rfl (Nat.le_of_ble_eq_true rfl) ?_
  refine x_aload_n 0 dX0_empty_0 rfl (by first | rfl | assumption) ?_
  refine x_iconst 0 dX0_empty_1 (by decide) ?_
  refine pf_X0_empty_13 dX0_empty_2 (by first | assumption | exact va_up_self _ _ _) (Nat.le_of_ble_eq_true rfl) ?_
  refine x_vret rfl dX0_empty_5 (by decide) (by decide) ?_
  exact ⟨rfl, k_row.setN (x := 0) hne h2 (by omega) h4, fun q hq => va_up_ne _ _ (fun z => hq (by simp [z]))⟩
theorem sp_add (hr : k_row h r ra N l) (b : Int32) : q_SP G mX0_add [.ref r, .int b] h 0 0 (fun o h' => o = none ∧ k_row h' r ra N (if l.length < N then l ++ [b] else l) ∧ k_same [r, ra] h h') := by
  have hne := hr.ne
  obtain ⟨f, h1, h2, h3, h4, h5⟩ := hr
  refine q_enter (M := mX0_add) (by decide +kernel) rfl (Nat.le_of_ble_eq_true rfl) ?_
  refine x_aload_n 0 dX0_add_0 rfl (by first | rfl | assumption) ?_
  refine gf_X0_add_13 dX0_add_1 (by first | assumption | exact va_up_self _ _ _) rfl ?_
  refine x_aload_n 0 dX0_add_4 rfl (by first | rfl | assumption) ?_
  refine gf_X0_add_7 dX0_add_5 (by first | assumption | exact va_up_self _ _ _) rfl ?_
  refine x_alen dX0_add_8 (by first | assumption | exact va_up_self _ _ _) ?_
  refine x_icmp_ge 32 dX0_add_9 (by decide) (fun c9 => ?_) (fun c9 => ?_)
  · have e1 : l.length = N := by
      have := (nI_leI (by omega) (by omega)).mp c9
      omega
    refine x_vret rfl dX0_add_32 (by decide) (by decide) ?_
    refine ⟨rfl, ?_, fun _ _ => rfl⟩
    rw [if_neg (by omega)]
    exact ⟨f, h1, h2, h3, h4, h5⟩
  · have e1 : l.length < N := by
      have : ¬ N ≤ l.length := fun z => c9 ((nI_leI (by omega) (by omega)).mpr z)
      omega
    have hin : vp_in (nI l.length) N := vp_in_nI e1 (by omega)
    refine x_aload_n 0 dX0_add_12 rfl (by first | rfl | assumption) ?_
    refine gf_X0_add_7 dX0_add_13 (by first | assumption | exact va_up_self _ _ _) rfl ?_
    refine x_aload_n 0 dX0_add_16 rfl (by first | rfl | assumption) ?_
    refine gf_X0_add_13 dX0_add_17 (by first | assumption | exact va_up_self _ _ _) rfl ?_
    refine x_iload_n 1 dX0_add_20 rfl (by first | rfl | assumption) ?_
    refine x_iast dX0_add_21 (by first | assumption | exact va_up_self _ _ _) (by assumption) ?_
    have h6 : va_up h ra (some (k_ar N (upd f (nI l.length).toNatClampNeg b))) r = some (k_ob 0 [.ref ra, .int (nI l.length)]) := by rw [va_up_ne _ _ hne]; exact h1
    refine x_aload_n 0 dX0_add_22 rfl (by first | rfl | assumption) ?_
    refine x_dup dX0_add_23 rfl ?_
    refine gf_X0_add_13 dX0_add_24 (by first | assumption | exact va_up_self _ _ _) rfl ?_
    refine x_iconst 1 dX0_add_27 (by decide) ?_
    refine x_iadd dX0_add_28 ?_
    refine pf_X0_add_13 dX0_add_29 (by first | assumption | exact va_up_self _ _ _) (Nat.le_of_ble_eq_true rfl) ?_
    refine x_vret rfl dX0_add_32 (by decide) (by decide) ?_
    rw [if_pos e1, nI_clamp (by omega)]
    refine ⟨rfl, ⟨upd f l.length b, ?_, ?_, by simp; omega, h4, fun j hj => ?_⟩, fun q hq => ?_⟩
    · rw [va_up_self, List.length_append]
      show some (k_ob 0 [_, .int (nI l.length + 1)]) = _
      rw [nI_1]
      rfl
    · rw [va_up_ne _ _ hne.symm, va_up_self]
    · simp at hj
      by_cases hjl : j = l.length
      · subst hjl
        rw [pk_us]
        simp
      · rw [pk_un hjl, h5 j (by omega)]
        simp [List.getD_eq_getElem?_getD, List.getElem?_append_left (show j < l.length by omega)]
    · simp at hq
      rw [va_up_ne _ _ hq.1, va_up_ne _ _ hq.2]
end RowA
