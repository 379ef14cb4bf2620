/-! FramedTalk$ByteRow: the loops, arraycopy, the constructor -/
section RowB
variable {G : q_G} {h : q_H} {r ra N : Nat} {l : List Int32}
theorem k_same.rf {S : List Nat} {h : q_H} : k_same S h h := fun _ _ => rfl
theorem k_same.tr {S : List Nat} {h h1 h2 : q_H} (a : k_same S h h1) (b : k_same S h1 h2) : k_same S h h2 := fun q hq => (b q hq).trans (a q hq)
theorem k_same.mono {S S' : List Nat} {h h1 : q_H} (a : k_same S h h1) (hs : ∀ q ∈ S, q ∈ S') : k_same S' h h1 := fun q hq => a q (fun z => hq (hs q z))
theorem k_row.kept {h1 : q_H} {S : List Nat} (hr : k_row h r ra N l) (hs : k_same S h h1) (h0 : r ∉ S) (ha : ra ∉ S) : k_row h1 r ra N l := by
  obtain ⟨f, e1, e2, e3⟩ := hr
  exact ⟨f, (hs r h0).trans e1, (hs ra ha).trans e2, e3⟩
theorem k_row.len (hr : k_row h r ra N l) : l.length ≤ N ∧ N < 2 ^ 20 := by
  obtain ⟨f, e1, e2, e3, e4, e5⟩ := hr
  exact ⟨e3, e4⟩
theorem sp_addText {i : Nat} (hi : i < 16) (hr : k_row h r ra N l) (hN : l.length + q_len.getD i 0 ≤ N) : q_SP G mX0_addText [.ref r, .ref (q_aK G i)] h 0 0 (fun o h' => o = none ∧ k_row h' r ra N (l ++ q_byt.getD i []) ∧ k_same [r, ra] h h') := by
  obtain ⟨b1, b2, -⟩ := q_byt_ok i hi
  have hlen := hr.len
  refine q_enter (M := mX0_addText) (by decide +kernel) rfl (Nat.le_of_ble_eq_true rfl) ?_
  refine x_iconst 0 dX0_addText_0 (by decide) ?_
  refine x_istore_n 2 dX0_addText_1 rfl (by decide) rfl ?_
  have loop : ∀ (n k : Nat) (x : Int32) (h1 : q_H), x = nI k → k + n = q_len.getD i 0 → k_row h1 r ra N (l ++ (q_byt.getD i []).take k) → k_same [r, ra] h h1 →
      q_X G mX0_addText (q_R mX0_addText 0 0) (q_FN G (fun o h' => o = none ∧ k_row h' r ra N (l ++ q_byt.getD i []) ∧ k_same [r, ra] h h') 0 0) 2 [(0, .ref r), (1, .ref (q_aK G i)), (2, .int x)] [] h1 0 0 := by
    intro n
    induction n with
    | zero =>
      intro k x h1 hx hk hr1 hs
      subst hx
      refine x_iload_n 2 dX0_addText_2 rfl (by first | rfl | assumption) ?_
      refine x_aload_n 1 dX0_addText_3 rfl (by first | rfl | assumption) ?_
      refine cl_X0_addText_4 (sp_slen hi) hi (Nat.le_of_ble_eq_true rfl) ⟨Nat.le_of_ble_eq_true rfl, Nat.le_of_ble_eq_true rfl⟩ (fun r1 h2 hq => ?_)
      obtain ⟨rfl, rfl⟩ := hq
      refine x_icmp_ge 25 dX0_addText_7 (by decide) (fun _ => ?_) (fun z => absurd (nI_le (by omega) (by omega)) z)
      refine x_vret rfl dX0_addText_25 (by decide) (by decide) ?_
      refine ⟨rfl, ?_, hs⟩
      rwa [List.take_of_length_le (by omega)] at hr1
    | succ n ih =>
      intro k x h1 hx hk hr1 hs
      subst hx
      refine x_iload_n 2 dX0_addText_2 rfl (by first | rfl | assumption) ?_
      refine x_aload_n 1 dX0_addText_3 rfl (by first | rfl | assumption) ?_
      refine cl_X0_addText_4 (sp_slen hi) hi (Nat.le_of_ble_eq_true rfl) ⟨Nat.le_of_ble_eq_true rfl, Nat.le_of_ble_eq_true rfl⟩ (fun r1 h2 hq => ?_)
      obtain ⟨rfl, rfl⟩ := hq
      refine x_icmp_ge 25 dX0_addText_7 (by decide) (fun z => absurd z (nI_ge (by omega) (by omega))) (fun _ => ?_)
      refine x_aload_n 0 dX0_addText_10 rfl (by first | rfl | assumption) ?_
      refine x_aload_n 1 dX0_addText_11 rfl (by first | rfl | assumption) ?_
      refine x_iload_n 2 dX0_addText_12 rfl (by first | rfl | assumption) ?_
      refine cl_X0_addText_13 (sp_schar hi (k := k) (by omega)) hi (Nat.le_of_ble_eq_true rfl) ⟨Nat.le_of_ble_eq_true rfl, Nat.le_of_ble_eq_true rfl⟩ (fun r1 h2 hq => ?_)
      obtain ⟨rfl, rfl⟩ := hq
      obtain ⟨f1, q1, q2⟩ := id hr1
      refine cl_X0_addText_16 (sp_add hr1 (q_ch i k)) (by first | assumption | exact va_up_self _ _ _) (Nat.le_of_ble_eq_true rfl) ⟨Nat.le_of_ble_eq_true rfl, Nat.le_of_ble_eq_true rfl⟩ (fun r1 h2 hq => ?_)
      obtain ⟨rfl, hr2, hs2⟩ := hq
      rw [if_pos (by simp; omega)] at hr2
      refine x_iinc 1 dX0_addText_19 (by first | rfl | assumption) (by decide) (by decide) rfl ?_
      refine x_goto 2 dX0_addText_22 (by decide) ?_
      refine ih (k + 1) _ h2 (nI_1 k) (by omega) ?_ (hs.tr hs2)
      rw [List.take_add_one, ← List.append_assoc]
      have e : (q_byt.getD i [])[k]?.toList = [q_ch i k] := by
        unfold q_ch
        rw [List.getD_eq_getElem?_getD (l := q_byt.getD i []), List.getElem?_eq_getElem (show k < (q_byt.getD i []).length by omega)]
        rfl
      rw [e]
      exact hr2
  exact loop (q_len.getD i 0) 0 0 h rfl (by omega) (by simpa using hr) k_same.rf
/-- the bytes from a place to a place of another row -/
theorem sp_addPart {r2 ra2 N2 : Nat} {l2 : List Int32} (hr : k_row h r ra N l) (hr2 : k_row h r2 ra2 N2 l2) (hne : r2 ∉ [r, ra] ∧ ra2 ∉ [r, ra]) {a b : Nat} (hab : a ≤ b) (hb : b ≤ l2.length) (hN : l.length + (b - a) ≤ N) : q_SP G mX0_addPart [.ref r, .ref r2, .int (nI a), .int (nI b)] h 0 0 (fun o h' => o = none ∧ k_row h' r ra N (l ++ (l2.drop a).take (b - a)) ∧ k_same [r, ra] h h') := by
  have hlen := hr.len
  have hlen2 := hr2.len
  refine q_enter (M := mX0_addPart) (by decide +kernel) rfl (Nat.le_of_ble_eq_true rfl) ?_
  refine x_iload_n 2 dX0_addPart_0 rfl (by first | rfl | assumption) ?_
  refine x_istore dX0_addPart_1 (by decide) rfl ?_
  have loop : ∀ (n k : Nat) (x : Int32) (h1 : q_H), x = nI (a + k) → a + k + n = b → k_row h1 r ra N (l ++ (l2.drop a).take k) → k_same [r, ra] h h1 →
      q_X G mX0_addPart (q_R mX0_addPart 0 0) (q_FN G (fun o h' => o = none ∧ k_row h' r ra N (l ++ (l2.drop a).take (b - a)) ∧ k_same [r, ra] h h') 0 0) 3 [(0, .ref r), (1, .ref r2), (2, .int (nI a)), (3, .int (nI b)), (4, .int x)] [] h1 0 0 := by
    intro n
    induction n with
    | zero =>
      intro k x h1 hx hk hr1 hs
      subst hx
      refine x_iload dX0_addPart_3 (by first | rfl | assumption) ?_
      refine x_iload_n 3 dX0_addPart_5 rfl (by first | rfl | assumption) ?_
      refine x_icmp_ge 25 dX0_addPart_6 (by decide) (fun _ => ?_) (fun z => absurd (nI_le (by omega) (by omega)) z)
      refine x_vret rfl dX0_addPart_25 (by decide) (by decide) ?_
      refine ⟨rfl, ?_, hs⟩
      rwa [show b - a = k by omega]
    | succ n ih =>
      intro k x h1 hx hk hr1 hs
      subst hx
      refine x_iload dX0_addPart_3 (by first | rfl | assumption) ?_
      refine x_iload_n 3 dX0_addPart_5 rfl (by first | rfl | assumption) ?_
      refine x_icmp_ge 25 dX0_addPart_6 (by decide) (fun z => absurd z (nI_ge (by omega) (by omega))) (fun _ => ?_)
      refine x_aload_n 0 dX0_addPart_9 rfl (by first | rfl | assumption) ?_
      refine x_aload_n 1 dX0_addPart_10 rfl (by first | rfl | assumption) ?_
      refine x_iload dX0_addPart_11 (by first | rfl | assumption) ?_
      have hr3 := hr2.kept hs hne.1 hne.2
      obtain ⟨f1, q1, q2⟩ := id hr1
      obtain ⟨f3, q3, q4⟩ := id hr3
      refine cl_X0_addPart_13 (sp_at hr3 (nI (a + k))) (by first | assumption | exact va_up_self _ _ _) (Nat.le_of_ble_eq_true rfl) ⟨Nat.le_of_ble_eq_true rfl, Nat.le_of_ble_eq_true rfl⟩ (fun r1 h2 hq => ?_)
      obtain ⟨rfl, rfl⟩ := hq
      rw [if_pos ⟨nI_pos (by omega), nI_ge (by omega) (by omega)⟩, nI_clamp (by omega)]
      refine cl_X0_addPart_16 (sp_add hr1 (l2.getD (a + k) 0)) (by first | assumption | exact va_up_self _ _ _) (Nat.le_of_ble_eq_true rfl) ⟨Nat.le_of_ble_eq_true rfl, Nat.le_of_ble_eq_true rfl⟩ (fun r1 h2 hq => ?_)
      obtain ⟨rfl, hr4, hs2⟩ := hq
      rw [if_pos (by simp; omega)] at hr4
      refine x_iinc 1 dX0_addPart_19 (by first | rfl | assumption) (by decide) (by decide) rfl ?_
      refine x_goto 3 dX0_addPart_22 (by decide) ?_
      refine ih (k + 1) _ h2 (by rw [nI_1]; rfl) (by omega) ?_ (hs.tr hs2)
      rw [List.take_add_one, ← List.append_assoc]
      have e : (l2.drop a)[k]?.toList = [l2.getD (a + k) 0] := by
        rw [List.getElem?_drop, List.getD_eq_getElem?_getD, List.getElem?_eq_getElem (show a + k < l2.length by omega)]
        rfl
      rw [e]
      exact hr4
  exact loop (b - a) 0 (nI a) h rfl (by omega) (by simpa using hr) k_same.rf
theorem sp_cutFront (hr : k_row h r ra N l) (n : Int32) : q_SP G mX0_cutFront [.ref r, .int n] h 0 0 (fun o h' => o = some (.int (if ¬ n < 0 ∧ n ≤ nI l.length then 1 else 0)) ∧ k_row h' r ra N (if ¬ n < 0 ∧ n ≤ nI l.length then l.drop n.toNatClampNeg else l) ∧ k_same [r, ra] h h') := by
  have hne := hr.ne
  have hr0 := hr
  obtain ⟨f, h1, h2, h3, h4, h5⟩ := hr
  refine q_enter (M := mX0_cutFront) (by decide +kernel) rfl (Nat.le_of_ble_eq_true rfl) ?_
  refine x_iload_n 1 dX0_cutFront_0 rfl (by first | rfl | assumption) ?_
  refine x_if_lt 12 dX0_cutFront_1 (by decide) (fun c1 => ?_) (fun c1 => ?_)
  · refine x_iconst 0 dX0_cutFront_12 (by decide) ?_
    refine x_iret rfl (by first | rfl | assumption | exact z_nb _) dX0_cutFront_13 (by decide) (by decide) ?_
    have e : ¬ (¬ n < 0 ∧ n ≤ nI l.length) := fun z => z.1 c1
    rw [if_neg e, if_neg e]
    exact ⟨rfl, hr0, k_same.rf⟩
  · refine x_iload_n 1 dX0_cutFront_4 rfl (by first | rfl | assumption) ?_
    refine x_aload_n 0 dX0_cutFront_5 rfl (by first | rfl | assumption) ?_
    refine gf_X0_cutFront_13 dX0_cutFront_6 (by first | assumption | exact va_up_self _ _ _) rfl ?_
    refine x_icmp_le 14 dX0_cutFront_9 (by decide) (fun c9 => ?_) (fun c9 => ?_)
    · obtain ⟨j, hj, rfl⟩ := nI_of c1
      have hjl : j ≤ l.length := (nI_leI hj (by omega)).mp c9
      refine x_aload_n 0 dX0_cutFront_14 rfl (by first | rfl | assumption) ?_
      refine gf_X0_cutFront_7 dX0_cutFront_15 (by first | assumption | exact va_up_self _ _ _) rfl ?_
      refine x_iload_n 1 dX0_cutFront_18 rfl (by first | rfl | assumption) ?_
      refine x_aload_n 0 dX0_cutFront_19 rfl (by first | rfl | assumption) ?_
      refine gf_X0_cutFront_7 dX0_cutFront_20 (by first | assumption | exact va_up_self _ _ _) rfl ?_
      refine x_iconst 0 dX0_cutFront_23 (by decide) ?_
      refine x_aload_n 0 dX0_cutFront_24 rfl (by first | rfl | assumption) ?_
      refine gf_X0_cutFront_13 dX0_cutFront_25 (by first | assumption | exact va_up_self _ _ _) rfl ?_
      refine x_iload_n 1 dX0_cutFront_28 rfl (by first | rfl | assumption) ?_
      refine x_isub dX0_cutFront_29 ?_
      rw [pk_sub hjl]
      refine cp_X0_cutFront_30 h2 h2 c1 (by decide) (nI_pos (by omega)) (by rw [nI_clamp hj, nI_clamp (by omega)]; omega) (by rw [nI_clamp (by omega)]; show 0 + _ ≤ _; omega) (Nat.le_of_ble_eq_true rfl) ?_
      have h6 : va_up h ra (some (k_ar N (va_cpy f f (nI j).toNatClampNeg (0 : Int32).toNatClampNeg (nI (l.length - j)).toNatClampNeg))) r = some (k_ob 0 [.ref ra, .int (nI l.length)]) := by rw [va_up_ne _ _ hne]; exact h1
      refine x_aload_n 0 dX0_cutFront_33 rfl (by first | rfl | assumption) ?_
      refine x_dup dX0_cutFront_34 rfl ?_
      refine gf_X0_cutFront_13 dX0_cutFront_35 (by first | assumption | exact va_up_self _ _ _) rfl ?_
      refine x_iload_n 1 dX0_cutFront_38 rfl (by first | rfl | assumption) ?_
      refine x_isub dX0_cutFront_39 ?_
      refine pf_X0_cutFront_13 dX0_cutFront_40 (by first | assumption | exact va_up_self _ _ _) (Nat.le_of_ble_eq_true rfl) ?_
      refine x_iconst 1 dX0_cutFront_43 (by decide) ?_
      refine x_iret rfl (by first | rfl | assumption | exact z_nb _) dX0_cutFront_44 (by decide) (by decide) ?_
      rw [if_pos ⟨c1, c9⟩, if_pos ⟨c1, c9⟩, nI_clamp hj, nI_clamp (by omega), pk_sub hjl]
      refine ⟨rfl, ⟨va_cpy f f j 0 (l.length - j), ?_, ?_, by simp; omega, h4, fun k hk => ?_⟩, fun q hq => ?_⟩
      · rw [va_up_self, List.length_drop]
        rfl
      · rw [va_up_ne _ _ hne.symm, va_up_self]
        rfl
      · simp at hk
        rw [pk_cpy_in (by omega) (by omega), h5 _ (by omega)]
        simp [List.getD_eq_getElem?_getD]
      · simp at hq
        rw [va_up_ne _ _ hq.1, va_up_ne _ _ hq.2]
    · refine x_iconst 0 dX0_cutFront_12 (by decide) ?_
      refine x_iret rfl (by first | rfl | assumption | exact z_nb _) dX0_cutFront_13 (by decide) (by decide) ?_
      have e : ¬ (¬ n < 0 ∧ n ≤ nI l.length) := fun z => c9 z.2
      rw [if_neg e, if_neg e]
      exact ⟨rfl, hr0, k_same.rf⟩
/-- into an array of numbers, where there is room -/
theorem sp_copyTo (hr : k_row h r ra N l) {t K : Nat} {g : Nat → Int32} (ht : h t = some (k_ar K g)) {p : Nat} (hp : p + l.length ≤ K) (hK : K < 2 ^ 20) : ∃ f : Nat → Int32, (∀ j, j < l.length → f j = l.getD j 0) ∧ q_SP G mX0_copyTo [.ref r, .ref t, .int (nI p)] h 0 0 (fun o h' => o = none ∧ h' = va_up h t (some (k_ar K (va_cpy f g 0 p l.length)))) := by
  obtain ⟨f, h1, h2, h3, h4, h5⟩ := hr
  refine ⟨f, h5, ?_⟩
  refine q_enter (M := mX0_copyTo) (by decide +kernel) rfl (Nat.le_of_ble_eq_true rfl) ?_
  refine x_iload_n 2 dX0_copyTo_0 rfl (by first | rfl | assumption) ?_
  refine x_if_lt 29 dX0_copyTo_1 (by decide) (fun z => absurd z (nI_pos (by omega))) (fun _ => ?_)
  refine x_iload_n 2 dX0_copyTo_4 rfl (by first | rfl | assumption) ?_
  refine x_aload_n 0 dX0_copyTo_5 rfl (by first | rfl | assumption) ?_
  refine gf_X0_copyTo_13 dX0_copyTo_6 (by first | assumption | exact va_up_self _ _ _) rfl ?_
  refine x_iadd dX0_copyTo_9 ?_
  refine x_aload_n 1 dX0_copyTo_10 rfl (by first | rfl | assumption) ?_
  refine x_alen dX0_copyTo_11 (by first | assumption | exact va_up_self _ _ _) ?_
  rw [nI_add]
  refine x_icmp_gt 29 dX0_copyTo_12 (by decide) (fun z => absurd z (nI_nlt (by omega) (by omega))) (fun _ => ?_)
  refine x_aload_n 0 dX0_copyTo_15 rfl (by first | rfl | assumption) ?_
  refine gf_X0_copyTo_7 dX0_copyTo_16 (by first | assumption | exact va_up_self _ _ _) rfl ?_
  refine x_iconst 0 dX0_copyTo_19 (by decide) ?_
  refine x_aload_n 1 dX0_copyTo_20 rfl (by first | rfl | assumption) ?_
  refine x_iload_n 2 dX0_copyTo_21 rfl (by first | rfl | assumption) ?_
  refine x_aload_n 0 dX0_copyTo_22 rfl (by first | rfl | assumption) ?_
  refine gf_X0_copyTo_13 dX0_copyTo_23 (by first | assumption | exact va_up_self _ _ _) rfl ?_
  refine cp_X0_copyTo_26 h2 ht (by decide) (nI_pos (by omega)) (nI_pos (by omega)) (by rw [nI_clamp (by omega)]; show 0 + _ ≤ _; omega) (by rw [nI_clamp (by omega), nI_clamp (by omega)]; omega) (Nat.le_of_ble_eq_true rfl) ?_
  refine x_vret rfl dX0_copyTo_29 (by decide) (by decide) ?_
  refine ⟨rfl, ?_⟩
  rw [nI_clamp (by omega), nI_clamp (by omega)]
  rfl
theorem sp_atN (hr : k_row h r ra N l) {k : Nat} (hk : k < l.length) : q_SP G mX0_at [.ref r, .int (nI k)] h 0 0 (fun o h' => o = some (.int (l.getD k 0)) ∧ h' = h) := by
  have hlen := hr.len
  refine (sp_at hr (nI k)).to (fun o h' ⟨e1, e2⟩ => ⟨?_, e2⟩)
  rw [e1, if_pos ⟨nI_pos (by omega), nI_ge hk (by omega)⟩, nI_clamp (by omega)]
end RowB
