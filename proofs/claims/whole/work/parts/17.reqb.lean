/-! FramedTalk$Request: the judgement -/
section ReqB
variable {G : q_G} {h : q_H} {a rb ra aS aT aE : Nat} {l : List Int32} {sn ss es : Nat → Int32}
def k_req (h : q_H) (a rb ra aS aT aE : Nat) (l : List Int32) (sn ss es : Nat → Int32) : Prop := h a = some (k_ob 3 [.ref rb, .ref aS, .ref aT, .ref aE]) ∧ k_row h rb ra 400 l ∧ h aS = some (k_ar 5 sn) ∧ h aT = some (k_ar 5 ss) ∧ h aE = some (k_ar 5 es) ∧ [a, rb, ra, aS, aT, aE].Nodup
/-- the three rows hold what F says; where a value is empty its end may lie ahead of its beginning -/
def k_flds (L K : Nat) (F : z_Fd) (sn ss es : Nat → Int32) : Prop := ∀ n, n < 5 → sn n = nI (F n).1 ∧ (F n).1 ≤ K ∧ ss n = nI (F n).2.1 ∧ (F n).2.1 ≤ L ∧ (F n).2.2 ≤ L ∧ ∃ e' : Nat, es n = nI e' ∧ e' ≤ L ∧ (e' = (F n).2.2 ∨ (e' ≤ (F n).2.1 ∧ (F n).2.2 = (F n).2.1))
def z_nn (l : List Int32) (f c : Nat) : Int32 := if z_same l f c (z_w 2) then 0 else if z_same l f c (z_w 3) then 1 else if z_same l f c (z_w 4) then 2 else if z_same l f c (z_w 5) then 3 else if z_same l f c (z_w 6) then 4 else -1
theorem sp_nameNumber (ho : h a = some (k_ob 3 [.ref rb, .ref aS, .ref aT, .ref aE])) (hr : k_row h rb ra 400 l) {f t : Nat} (hf : f ≤ l.length) (ht : t ≤ l.length) : q_SP G mX3_nameNumber [.ref a, .int (nI f), .int (nI t)] h 0 0 (fun o h' => o = some (.int (z_nn l f t)) ∧ h' = h) := by
  refine q_enter (M := mX3_nameNumber) (by decide +kernel) rfl (Nat.le_of_ble_eq_true rfl) ?_
  refine x_aload_n 0 dX3_nameNumber_0 rfl (by first | rfl | assumption) ?_
  refine x_iload_n 1 dX3_nameNumber_1 rfl (by first | rfl | assumption) ?_
  refine x_iload_n 2 dX3_nameNumber_2 rfl (by first | rfl | assumption) ?_
  refine ks_X3_nameNumber_107 dX3_nameNumber_3 ?_
  refine cl_X3_nameNumber_5 (sp_isSame ho hr (i := 2) (by decide) hf ht) (by first | assumption | exact va_up_self _ _ _) (Nat.le_of_ble_eq_true rfl) ⟨Nat.le_of_ble_eq_true rfl, Nat.le_of_ble_eq_true rfl⟩ (fun r h1 hq => ?_)
  obtain ⟨rfl, rfl⟩ := hq
  refine x_if_eq 13 dX3_nameNumber_8 (by decide) (fun c8 => ?_) (fun c8 => ?_)
  · refine x_aload_n 0 dX3_nameNumber_13 rfl (by first | rfl | assumption) ?_
    refine x_iload_n 1 dX3_nameNumber_14 rfl (by first | rfl | assumption) ?_
    refine x_iload_n 2 dX3_nameNumber_15 rfl (by first | rfl | assumption) ?_
    refine ks_X3_nameNumber_109 dX3_nameNumber_16 ?_
    refine cl_X3_nameNumber_18 (sp_isSame ho hr (i := 3) (by decide) hf ht) (by first | assumption | exact va_up_self _ _ _) (Nat.le_of_ble_eq_true rfl) ⟨Nat.le_of_ble_eq_true rfl, Nat.le_of_ble_eq_true rfl⟩ (fun r h1 hq => ?_)
    obtain ⟨rfl, rfl⟩ := hq
    refine x_if_eq 26 dX3_nameNumber_21 (by decide) (fun c21 => ?_) (fun c21 => ?_)
    · refine x_aload_n 0 dX3_nameNumber_26 rfl (by first | rfl | assumption) ?_
      refine x_iload_n 1 dX3_nameNumber_27 rfl (by first | rfl | assumption) ?_
      refine x_iload_n 2 dX3_nameNumber_28 rfl (by first | rfl | assumption) ?_
      refine ks_X3_nameNumber_111 dX3_nameNumber_29 ?_
      refine cl_X3_nameNumber_31 (sp_isSame ho hr (i := 4) (by decide) hf ht) (by first | assumption | exact va_up_self _ _ _) (Nat.le_of_ble_eq_true rfl) ⟨Nat.le_of_ble_eq_true rfl, Nat.le_of_ble_eq_true rfl⟩ (fun r h1 hq => ?_)
      obtain ⟨rfl, rfl⟩ := hq
      refine x_if_eq 39 dX3_nameNumber_34 (by decide) (fun c34 => ?_) (fun c34 => ?_)
      · refine x_aload_n 0 dX3_nameNumber_39 rfl (by first | rfl | assumption) ?_
        refine x_iload_n 1 dX3_nameNumber_40 rfl (by first | rfl | assumption) ?_
        refine x_iload_n 2 dX3_nameNumber_41 rfl (by first | rfl | assumption) ?_
        refine ks_X3_nameNumber_113 dX3_nameNumber_42 ?_
        refine cl_X3_nameNumber_44 (sp_isSame ho hr (i := 5) (by decide) hf ht) (by first | assumption | exact va_up_self _ _ _) (Nat.le_of_ble_eq_true rfl) ⟨Nat.le_of_ble_eq_true rfl, Nat.le_of_ble_eq_true rfl⟩ (fun r h1 hq => ?_)
        obtain ⟨rfl, rfl⟩ := hq
        refine x_if_eq 52 dX3_nameNumber_47 (by decide) (fun c47 => ?_) (fun c47 => ?_)
        · refine x_aload_n 0 dX3_nameNumber_52 rfl (by first | rfl | assumption) ?_
          refine x_iload_n 1 dX3_nameNumber_53 rfl (by first | rfl | assumption) ?_
          refine x_iload_n 2 dX3_nameNumber_54 rfl (by first | rfl | assumption) ?_
          refine ks_X3_nameNumber_115 dX3_nameNumber_55 ?_
          refine cl_X3_nameNumber_57 (sp_isSame ho hr (i := 6) (by decide) hf ht) (by first | assumption | exact va_up_self _ _ _) (Nat.le_of_ble_eq_true rfl) ⟨Nat.le_of_ble_eq_true rfl, Nat.le_of_ble_eq_true rfl⟩ (fun r h1 hq => ?_)
          obtain ⟨rfl, rfl⟩ := hq
          refine x_if_eq 67 dX3_nameNumber_60 (by decide) (fun c60 => ?_) (fun c60 => ?_)
          · refine x_iconst (-1) dX3_nameNumber_67 (by decide) ?_
            refine x_iret rfl (by first | rfl | assumption | exact z_nb _ | decide) dX3_nameNumber_68 (by decide) (by decide) ?_
            exact ⟨by unfold z_nn; first | (rw [z_b0 c8, z_b0 c21, z_b0 c34, z_b0 c47, z_b0 c60]; rfl) | (rw [z_b0 c8, z_b0 c21, z_b0 c34, z_b0 c47, z_b1 c60]; rfl) | (rw [z_b0 c8, z_b0 c21, z_b0 c34, z_b1 c47]; rfl) | (rw [z_b0 c8, z_b0 c21, z_b1 c34]; rfl) | (rw [z_b0 c8, z_b1 c21]; rfl) | (rw [z_b1 c8]; rfl), rfl⟩
          · refine x_iconst 4 dX3_nameNumber_63 (by decide) ?_
            refine x_goto 68 dX3_nameNumber_64 (by decide) ?_
            refine x_iret rfl (by first | rfl | assumption | exact z_nb _ | decide) dX3_nameNumber_68 (by decide) (by decide) ?_
            exact ⟨by unfold z_nn; first | (rw [z_b0 c8, z_b0 c21, z_b0 c34, z_b0 c47, z_b0 c60]; rfl) | (rw [z_b0 c8, z_b0 c21, z_b0 c34, z_b0 c47, z_b1 c60]; rfl) | (rw [z_b0 c8, z_b0 c21, z_b0 c34, z_b1 c47]; rfl) | (rw [z_b0 c8, z_b0 c21, z_b1 c34]; rfl) | (rw [z_b0 c8, z_b1 c21]; rfl) | (rw [z_b1 c8]; rfl), rfl⟩
        · refine x_iconst 3 dX3_nameNumber_50 (by decide) ?_
          refine x_iret rfl (by first | rfl | assumption | exact z_nb _ | decide) dX3_nameNumber_51 (by decide) (by decide) ?_
          exact ⟨by unfold z_nn; first | (rw [z_b0 c8, z_b0 c21, z_b0 c34, z_b0 c47, z_b0 c60]; rfl) | (rw [z_b0 c8, z_b0 c21, z_b0 c34, z_b0 c47, z_b1 c60]; rfl) | (rw [z_b0 c8, z_b0 c21, z_b0 c34, z_b1 c47]; rfl) | (rw [z_b0 c8, z_b0 c21, z_b1 c34]; rfl) | (rw [z_b0 c8, z_b1 c21]; rfl) | (rw [z_b1 c8]; rfl), rfl⟩
      · refine x_iconst 2 dX3_nameNumber_37 (by decide) ?_
        refine x_iret rfl (by first | rfl | assumption | exact z_nb _ | decide) dX3_nameNumber_38 (by decide) (by decide) ?_
        exact ⟨by unfold z_nn; first | (rw [z_b0 c8, z_b0 c21, z_b0 c34, z_b0 c47, z_b0 c60]; rfl) | (rw [z_b0 c8, z_b0 c21, z_b0 c34, z_b0 c47, z_b1 c60]; rfl) | (rw [z_b0 c8, z_b0 c21, z_b0 c34, z_b1 c47]; rfl) | (rw [z_b0 c8, z_b0 c21, z_b1 c34]; rfl) | (rw [z_b0 c8, z_b1 c21]; rfl) | (rw [z_b1 c8]; rfl), rfl⟩
    · refine x_iconst 1 dX3_nameNumber_24 (by decide) ?_
      refine x_iret rfl (by first | rfl | assumption | exact z_nb _ | decide) dX3_nameNumber_25 (by decide) (by decide) ?_
      exact ⟨by unfold z_nn; first | (rw [z_b0 c8, z_b0 c21, z_b0 c34, z_b0 c47, z_b0 c60]; rfl) | (rw [z_b0 c8, z_b0 c21, z_b0 c34, z_b0 c47, z_b1 c60]; rfl) | (rw [z_b0 c8, z_b0 c21, z_b0 c34, z_b1 c47]; rfl) | (rw [z_b0 c8, z_b0 c21, z_b1 c34]; rfl) | (rw [z_b0 c8, z_b1 c21]; rfl) | (rw [z_b1 c8]; rfl), rfl⟩
  · refine x_iconst 0 dX3_nameNumber_11 (by decide) ?_
    refine x_iret rfl (by first | rfl | assumption | exact z_nb _ | decide) dX3_nameNumber_12 (by decide) (by decide) ?_
    exact ⟨by unfold z_nn; first | (rw [z_b0 c8, z_b0 c21, z_b0 c34, z_b0 c47, z_b0 c60]; rfl) | (rw [z_b0 c8, z_b0 c21, z_b0 c34, z_b0 c47, z_b1 c60]; rfl) | (rw [z_b0 c8, z_b0 c21, z_b0 c34, z_b1 c47]; rfl) | (rw [z_b0 c8, z_b0 c21, z_b1 c34]; rfl) | (rw [z_b0 c8, z_b1 c21]; rfl) | (rw [z_b1 c8]; rfl), rfl⟩
theorem sp_keepNone {x y : Int32} (h1 : True) : q_SP G mX3_keepField [.ref a, .int (-1), .int x, .int y] h 0 0 (fun o h' => o = none ∧ h' = h) := by
  refine q_enter (M := mX3_keepField) (by decide +kernel) rfl (Nat.le_of_ble_eq_true rfl) ?_
  refine x_iload_n 1 dX3_keepField_0 rfl (by first | rfl | assumption) ?_
  refine x_if_lt 43 dX3_keepField_1 (by decide) (fun _ => ?_) (fun z => absurd (by decide) z)
  refine x_vret rfl dX3_keepField_43 (by decide) (by decide) ?_
  exact ⟨rfl, rfl⟩
theorem sp_keepN (hq0 : k_req h a rb ra aS aT aE l sn ss es) {n f t : Nat} (hn : n < 5) (hf : f ≤ t) (ht : t ≤ l.length) : q_SP G mX3_keepField [.ref a, .int (nI n), .int (nI f), .int (nI t)] h 0 0 (fun o h' => o = none ∧ k_req h' a rb ra aS aT aE l (upd sn n (sn n + 1)) (upd ss n (nI (z_skF l (t - f) f))) (upd es n (nI (z_skB l (t - f) t))) ∧ k_same [aS, aT, aE] h h') := by
  obtain ⟨ho, hr, e1, e2, e3, hd⟩ := hq0
  have hd0 := hd
  have hl := hr.len
  simp only [List.nodup_cons, List.mem_cons, List.not_mem_nil, not_or, or_false, not_false_eq_true, List.nodup_nil, and_true] at hd
  obtain ⟨⟨d01, d02, d03, d04, d05⟩, ⟨d12, d13, d14, d15⟩, ⟨d23, d24, d25⟩, ⟨d34, d35⟩, d45⟩ := hd
  have hin : vp_in (nI n) 5 := vp_in_nI hn (by omega)
  refine q_enter (M := mX3_keepField) (by decide +kernel) rfl (Nat.le_of_ble_eq_true rfl) ?_
  refine x_iload_n 1 dX3_keepField_0 rfl (by first | rfl | assumption) ?_
  refine x_if_lt 43 dX3_keepField_1 (by decide) (fun z => absurd z (nI_pos (by omega))) (fun _ => ?_)
  refine x_iload_n 1 dX3_keepField_4 rfl (by first | rfl | assumption) ?_
  refine x_iconst 5 dX3_keepField_5 (by decide) ?_
  refine x_icmp_ge 43 dX3_keepField_6 (by decide) (fun z => absurd z (nI_ge (a := n) (b := 5) hn (by omega))) (fun _ => ?_)
  refine x_aload_n 0 dX3_keepField_9 rfl (by first | rfl | assumption) ?_
  refine gf_X3_keepField_20 dX3_keepField_10 (by first | assumption | exact va_up_self _ _ _) rfl ?_
  refine x_iload_n 1 dX3_keepField_13 rfl (by first | rfl | assumption) ?_
  refine x_dup2 dX3_keepField_14 rfl rfl ?_
  refine x_iald dX3_keepField_15 (by first | assumption | exact va_up_self _ _ _) (by assumption) ?_
  refine x_iconst 1 dX3_keepField_16 (by decide) ?_
  refine x_iadd dX3_keepField_17 ?_
  refine x_iast dX3_keepField_18 (by first | assumption | exact va_up_self _ _ _) (by assumption) ?_
  rw [nI_clamp (by omega)]
  obtain ⟨gA, eA⟩ : ∃ gA, gA = va_up h aS (some (k_ar 5 (upd sn n (sn n + 1)))) := ⟨_, rfl⟩
  rw [← eA]
  have oA : gA a = some (k_ob 3 [.ref rb, .ref aS, .ref aT, .ref aE]) := by rw [eA, va_up_ne _ _ d03]; exact ho
  have sA : k_same [aS, aT, aE] h gA := fun q hq => by
    simp at hq
    rw [eA, va_up_ne _ _ hq.1]
  have rA := hr.kept sA (by simp [d13, d14, d15]) (by simp [d23, d24, d25])
  have a2 : gA aT = some (k_ar 5 ss) := by rw [eA, va_up_ne _ _ (Ne.symm d34)]; exact e2
  refine x_aload_n 0 dX3_keepField_19 rfl (by first | rfl | assumption) ?_
  refine gf_X3_keepField_24 dX3_keepField_20 (by first | assumption | exact va_up_self _ _ _) rfl ?_
  refine x_iload_n 1 dX3_keepField_23 rfl (by first | rfl | assumption) ?_
  refine x_aload_n 0 dX3_keepField_24 rfl (by first | rfl | assumption) ?_
  refine x_iload_n 2 dX3_keepField_25 rfl (by first | rfl | assumption) ?_
  refine x_iload_n 3 dX3_keepField_26 rfl (by first | rfl | assumption) ?_
  refine cl_X3_keepField_27 (sp_skF oA rA hf ht) (by first | assumption | exact va_up_self _ _ _) (Nat.le_of_ble_eq_true rfl) ⟨Nat.le_of_ble_eq_true rfl, Nat.le_of_ble_eq_true rfl⟩ (fun r1 g1 hq => ?_)
  obtain ⟨rfl, rfl⟩ := hq
  refine x_iast dX3_keepField_30 (by first | assumption | exact va_up_self _ _ _) (by assumption) ?_
  rw [nI_clamp (by omega)]
  obtain ⟨gB, eB⟩ : ∃ gB, gB = va_up g1 aT (some (k_ar 5 (upd ss n (nI (z_skF l (t - f) f))))) := ⟨_, rfl⟩
  rw [← eB]
  have oB : gB a = some (k_ob 3 [.ref rb, .ref aS, .ref aT, .ref aE]) := by rw [eB, va_up_ne _ _ d04]; exact oA
  have sB : k_same [aS, aT, aE] g1 gB := fun q hq => by
    simp at hq
    rw [eB, va_up_ne _ _ hq.2.1]
  have rB := rA.kept sB (by simp [d13, d14, d15]) (by simp [d23, d24, d25])
  have b3 : gB aE = some (k_ar 5 es) := by rw [eB, va_up_ne _ _ (Ne.symm d45), eA, va_up_ne _ _ (Ne.symm d35)]; exact e3
  refine x_aload_n 0 dX3_keepField_31 rfl (by first | rfl | assumption) ?_
  refine gf_X3_keepField_27 dX3_keepField_32 (by first | assumption | exact va_up_self _ _ _) rfl ?_
  refine x_iload_n 1 dX3_keepField_35 rfl (by first | rfl | assumption) ?_
  refine x_aload_n 0 dX3_keepField_36 rfl (by first | rfl | assumption) ?_
  refine x_iload_n 2 dX3_keepField_37 rfl (by first | rfl | assumption) ?_
  refine x_iload_n 3 dX3_keepField_38 rfl (by first | rfl | assumption) ?_
  refine cl_X3_keepField_39 (sp_skB oB rB hf ht) (by first | assumption | exact va_up_self _ _ _) (Nat.le_of_ble_eq_true rfl) ⟨Nat.le_of_ble_eq_true rfl, Nat.le_of_ble_eq_true rfl⟩ (fun r1 g2 hq => ?_)
  obtain ⟨rfl, rfl⟩ := hq
  refine x_iast dX3_keepField_42 (by first | assumption | exact va_up_self _ _ _) (by assumption) ?_
  rw [nI_clamp (by omega)]
  refine x_vret rfl dX3_keepField_43 (by decide) (by decide) ?_
  have sC : k_same [aS, aT, aE] g2 (va_up g2 aE (some (k_ar 5 (upd es n (nI (z_skB l (t - f) t)))))) := fun q hq => by
    simp at hq
    rw [va_up_ne _ _ hq.2.2]
  refine ⟨rfl, ⟨?_, rB.kept sC (by simp [d13, d14, d15]) (by simp [d23, d24, d25]), ?_, ?_, ?_, hd0⟩, (sA.tr sB).tr sC⟩
  · rw [va_up_ne _ _ d05]; exact oB
  · rw [va_up_ne _ _ d35, eB, va_up_ne _ _ d34, eA, va_up_self]
  · rw [va_up_ne _ _ d45, eB, va_up_self]
  · rw [va_up_self]
theorem z_same_len {l : List Int32} {f c : Nat} {w : List Int32} (h : z_same l f c w = true) : c = f + w.length := by
  unfold z_same at h
  rw [Bool.and_eq_true] at h
  exact of_decide_eq_true h.1
theorem z_wlens : (z_w 2).length = 4 ∧ (z_w 3).length = 7 ∧ (z_w 4).length = 10 ∧ (z_w 5).length = 17 ∧ (z_w 6).length = 21 := ⟨rfl, rfl, rfl, rfl, rfl⟩
/-- the number of a name, and which of the five it is -/
theorem z_nn_spec (l : List Int32) (f c : Nat) : (z_nn l f c = -1 ∧ ∀ n, n < 5 → z_same l f c (z_w (2 + n)) = false) ∨ ∃ n, n < 5 ∧ z_nn l f c = nI n ∧ ∀ m, m < 5 → z_same l f c (z_w (2 + m)) = decide (m = n) := by
  obtain ⟨w2, w3, w4, w5, w6⟩ := z_wlens
  have five : ∀ n, n < 5 → n = 0 ∨ n = 1 ∨ n = 2 ∨ n = 3 ∨ n = 4 := by intro n hn; omega
  have no : ∀ {w : List Int32}, c ≠ f + w.length → z_same l f c w = false := by
    intro w hw
    cases hs : z_same l f c w with
    | false => rfl
    | true => exact absurd (z_same_len hs) hw
  have no0 : c ≠ f + 4 → z_same l f c (z_w (2 + 0)) = false := fun z => no (w := z_w 2) (by rw [w2]; exact z)
  have no1 : c ≠ f + 7 → z_same l f c (z_w (2 + 1)) = false := fun z => no (w := z_w 3) (by rw [w3]; exact z)
  have no2 : c ≠ f + 10 → z_same l f c (z_w (2 + 2)) = false := fun z => no (w := z_w 4) (by rw [w4]; exact z)
  have no3 : c ≠ f + 17 → z_same l f c (z_w (2 + 3)) = false := fun z => no (w := z_w 5) (by rw [w5]; exact z)
  have no4 : c ≠ f + 21 → z_same l f c (z_w (2 + 4)) = false := fun z => no (w := z_w 6) (by rw [w6]; exact z)
  by_cases h2 : z_same l f c (z_w 2) = true
  · have e := z_same_len h2
    refine Or.inr ⟨0, by omega, by unfold z_nn; rw [h2]; rfl, fun m hm => ?_⟩
    rcases five m hm with rfl | rfl | rfl | rfl | rfl
    · exact h2.trans (decide_eq_true rfl).symm
    all_goals first | exact no0 (by omega) | exact no1 (by omega) | exact no2 (by omega) | exact no3 (by omega) | exact no4 (by omega)
  · rw [Bool.not_eq_true] at h2
    by_cases h3 : z_same l f c (z_w 3) = true
    · have e := z_same_len h3
      refine Or.inr ⟨1, by omega, by unfold z_nn; rw [h2, h3]; rfl, fun m hm => ?_⟩
      rcases five m hm with rfl | rfl | rfl | rfl | rfl
      · first | exact no0 (by omega) | exact no1 (by omega) | exact no2 (by omega) | exact no3 (by omega) | exact no4 (by omega)
      · exact h3.trans (decide_eq_true rfl).symm
      all_goals first | exact no0 (by omega) | exact no1 (by omega) | exact no2 (by omega) | exact no3 (by omega) | exact no4 (by omega)
    · rw [Bool.not_eq_true] at h3
      by_cases h4 : z_same l f c (z_w 4) = true
      · have e := z_same_len h4
        refine Or.inr ⟨2, by omega, by unfold z_nn; rw [h2, h3, h4]; rfl, fun m hm => ?_⟩
        rcases five m hm with rfl | rfl | rfl | rfl | rfl
        · first | exact no0 (by omega) | exact no1 (by omega) | exact no2 (by omega) | exact no3 (by omega) | exact no4 (by omega)
        · first | exact no0 (by omega) | exact no1 (by omega) | exact no2 (by omega) | exact no3 (by omega) | exact no4 (by omega)
        · exact h4.trans (decide_eq_true rfl).symm
        all_goals first | exact no0 (by omega) | exact no1 (by omega) | exact no2 (by omega) | exact no3 (by omega) | exact no4 (by omega)
      · rw [Bool.not_eq_true] at h4
        by_cases h5 : z_same l f c (z_w 5) = true
        · have e := z_same_len h5
          refine Or.inr ⟨3, by omega, by unfold z_nn; rw [h2, h3, h4, h5]; rfl, fun m hm => ?_⟩
          rcases five m hm with rfl | rfl | rfl | rfl | rfl
          · first | exact no0 (by omega) | exact no1 (by omega) | exact no2 (by omega) | exact no3 (by omega) | exact no4 (by omega)
          · first | exact no0 (by omega) | exact no1 (by omega) | exact no2 (by omega) | exact no3 (by omega) | exact no4 (by omega)
          · first | exact no0 (by omega) | exact no1 (by omega) | exact no2 (by omega) | exact no3 (by omega) | exact no4 (by omega)
          · exact h5.trans (decide_eq_true rfl).symm
          · first | exact no0 (by omega) | exact no1 (by omega) | exact no2 (by omega) | exact no3 (by omega) | exact no4 (by omega)
        · rw [Bool.not_eq_true] at h5
          by_cases h6 : z_same l f c (z_w 6) = true
          · have e := z_same_len h6
            refine Or.inr ⟨4, by omega, by unfold z_nn; rw [h2, h3, h4, h5, h6]; rfl, fun m hm => ?_⟩
            rcases five m hm with rfl | rfl | rfl | rfl | rfl
            · first | exact no0 (by omega) | exact no1 (by omega) | exact no2 (by omega) | exact no3 (by omega) | exact no4 (by omega)
            · first | exact no0 (by omega) | exact no1 (by omega) | exact no2 (by omega) | exact no3 (by omega) | exact no4 (by omega)
            · first | exact no0 (by omega) | exact no1 (by omega) | exact no2 (by omega) | exact no3 (by omega) | exact no4 (by omega)
            · first | exact no0 (by omega) | exact no1 (by omega) | exact no2 (by omega) | exact no3 (by omega) | exact no4 (by omega)
            · exact h6.trans (decide_eq_true rfl).symm
          · rw [Bool.not_eq_true] at h6
            refine Or.inl ⟨by unfold z_nn; rw [h2, h3, h4, h5, h6]; rfl, fun n hn => ?_⟩
            rcases five n hn with rfl | rfl | rfl | rfl | rfl
            · exact h2
            · exact h3
            · exact h4
            · exact h5
            · exact h6
/-- a field is kept -/
theorem sp_keep (hq0 : k_req h a rb ra aS aT aE l sn ss es) {K : Nat} {F : z_Fd} (hF : k_flds l.length K F sn ss es) (hK : K < 1000) {f c t : Nat} (hc : c + 1 ≤ t) (ht : t ≤ l.length) : q_SP G mX3_keepField [.ref a, .int (z_nn l f c), .int (nI (c + 1)), .int (nI t)] h 0 0 (fun o h' => o = none ∧ ∃ sn' ss' es', k_req h' a rb ra aS aT aE l sn' ss' es' ∧ k_flds l.length (K + 1) (z_keep l f c t F) sn' ss' es' ∧ k_same [aS, aT, aE] h h') := by
  rcases z_nn_spec l f c with ⟨e, hno⟩ | ⟨n, hn, e, hyes⟩
  · rw [e]
    refine (sp_keepNone trivial).to (fun o h' ⟨e1, e2⟩ => ⟨e1, sn, ss, es, by rw [e2]; exact hq0, fun m hm => ?_, by rw [e2]; exact k_same.rf⟩)
    have ez : z_keep l f c t F m = F m := by
      unfold z_keep
      rw [hno m hm]
      rfl
    rw [ez]
    obtain ⟨z1, z2, z3⟩ := hF m hm
    exact ⟨z1, by omega, z3⟩
  · rw [e]
    refine (sp_keepN hq0 hn hc ht).to (fun o h' ⟨e1, e2, e3⟩ => ⟨e1, _, _, _, e2, fun m hm => ?_, e3⟩)
    obtain ⟨z1, z2, z3, z4, z5, e', z6, z7, z8⟩ := hF m hm
    by_cases hmn : m = n
    · subst hmn
      have ez : z_keep l f c t F m = ((F m).1 + 1, z_skF l (t - (c + 1)) (c + 1), z_skB l (t - z_skF l (t - (c + 1)) (c + 1)) t) := by
        unfold z_keep
        rw [hyes m hm, decide_eq_true rfl]
        rfl
      rw [ez, pk_us, pk_us, pk_us]
      have k1 := z_skF_le l (t - (c + 1)) (c + 1)
      have k2 := z_skB_le l (t - z_skF l (t - (c + 1)) (c + 1)) t
      have k3 := z_skB_le l (t - (c + 1)) t
      dsimp only
      exact ⟨by rw [z1, nI_1], by omega, rfl, by omega, by omega, _, rfl, by omega, z_ends l hc⟩
    · have ez : z_keep l f c t F m = F m := by
        unfold z_keep
        rw [hyes m hm, decide_eq_false hmn]
        rfl
      rw [ez, pk_un hmn, pk_un hmn, pk_un hmn]
      exact ⟨z1, by omega, z3, z4, z5, e', z6, z7, z8⟩
theorem z_col_le (l : List Int32) : ∀ (n i : Nat), i ≤ z_col l n i ∧ z_col l n i ≤ i + n := by
  intro n
  induction n with
  | zero => intro i; exact ⟨Nat.le_refl _, Nat.le_refl _⟩
  | succ n ih =>
    intro i
    unfold z_col
    split
    · have := ih (i + 1)
      omega
    · omega
theorem sp_readField (hq0 : k_req h a rb ra aS aT aE l sn ss es) {K : Nat} {F : z_Fd} (hF : k_flds l.length K F sn ss es) (hK : K < 1000) {f t : Nat} (hf : f ≤ t) (ht : t ≤ l.length) : q_SP G mX3_readField [.ref a, .int (nI f), .int (nI t)] h 0 0 (fun o h' => o = some (.int (z_b (z_field l f t))) ∧ ((z_field l f t = false ∧ h' = h) ∨ (z_field l f t = true ∧ ∃ sn' ss' es', k_req h' a rb ra aS aT aE l sn' ss' es' ∧ k_flds l.length (K + 1) (z_keep l f (z_col l (t - f) f) t F) sn' ss' es' ∧ k_same [aS, aT, aE] h h'))) := by
  have hq1 := hq0
  obtain ⟨ho, hr, -⟩ := hq1
  have hl := hr.len
  have hr0 := hr
  obtain ⟨f0, h1, h2, h3, h4, h5⟩ := hr
  refine q_enter (M := mX3_readField) (by decide +kernel) rfl (Nat.le_of_ble_eq_true rfl) ?_
  refine x_iload_n 1 dX3_readField_0 rfl (by first | rfl | assumption) ?_
  refine x_istore_n 3 dX3_readField_1 rfl (by decide) rfl ?_
  have tail2 : ∀ (c : Nat), c = z_col l (t - f) f → f < c → c < t → l.getD c 0 = 58 → ∀ (n i : Nat) (x : Int32), x = nI i → i + n = t → z_val l n i = z_val l (t - (c + 1)) (c + 1) →
      q_X G mX3_readField (q_R mX3_readField 0 0) (q_FN G (fun o h' => o = some (.int (z_b (z_field l f t))) ∧ ((z_field l f t = false ∧ h' = h) ∨ (z_field l f t = true ∧ ∃ sn' ss' es', k_req h' a rb ra aS aT aE l sn' ss' es' ∧ k_flds l.length (K + 1) (z_keep l f (z_col l (t - f) f) t F) sn' ss' es' ∧ k_same [aS, aT, aE] h h'))) 0 0) 57 [(0, .ref a), (1, .int (nI f)), (2, .int (nI t)), (3, .int (nI c)), (4, .int x)] [] h 0 0 := by
    intro c hc c1 c2 c3 n
    have hfd : z_field l f t = z_val l (t - (c + 1)) (c + 1) := by
      unfold z_field
      rw [← hc, decide_eq_true c1, decide_eq_true c2, decide_eq_true c3]
      rfl
    induction n with
    | zero =>
      intro i x hx hi he
      subst hx
      have hz : z_field l f t = true := by rw [hfd, ← he]; rfl
      refine x_iload dX3_readField_57 (by first | rfl | assumption) ?_
      refine x_iload_n 2 dX3_readField_59 rfl (by first | rfl | assumption) ?_
      refine x_icmp_ge 113 dX3_readField_60 (by decide) (fun _ => ?_) (fun z => absurd (nI_le (by omega) (by omega)) z)
      refine x_aload_n 0 dX3_readField_113 rfl (by first | rfl | assumption) ?_
      refine x_aload_n 0 dX3_readField_114 rfl (by first | rfl | assumption) ?_
      refine x_iload_n 1 dX3_readField_115 rfl (by first | rfl | assumption) ?_
      refine x_iload_n 3 dX3_readField_116 rfl (by first | rfl | assumption) ?_
      refine cl_X3_readField_117 (sp_nameNumber ho hr0 (by omega) (by omega)) (by first | assumption | exact va_up_self _ _ _) (Nat.le_of_ble_eq_true rfl) ⟨Nat.le_of_ble_eq_true rfl, Nat.le_of_ble_eq_true rfl⟩ (fun r1 g1 hq => ?_)
      obtain ⟨rfl, rfl⟩ := hq
      refine x_iload_n 3 dX3_readField_120 rfl (by first | rfl | assumption) ?_
      refine x_iconst 1 dX3_readField_121 (by decide) ?_
      refine x_iadd dX3_readField_122 ?_
      refine x_iload_n 2 dX3_readField_123 rfl (by first | rfl | assumption) ?_
      rw [nI_1]
      refine cl_X3_readField_124 (sp_keep hq0 hF hK (f := f) (c := c) (t := t) (by omega) ht) (by first | assumption | exact va_up_self _ _ _) (Nat.le_of_ble_eq_true rfl) ⟨Nat.le_of_ble_eq_true rfl, Nat.le_of_ble_eq_true rfl⟩ (fun r1 g1 hq => ?_)
      obtain ⟨rfl, sn', ss', es', k1, k2, k3⟩ := hq
      refine x_iconst 1 dX3_readField_127 (by decide) ?_
      refine x_iret rfl (by first | rfl | assumption | exact z_nb _) dX3_readField_128 (by decide) (by decide) ?_
      rw [hz, ← hc]
      exact ⟨rfl, Or.inr ⟨rfl, sn', ss', es', k1, k2, k3⟩⟩
    | succ n ih =>
      intro i x hx hi he
      subst hx
      refine x_iload dX3_readField_57 (by first | rfl | assumption) ?_
      refine x_iload_n 2 dX3_readField_59 rfl (by first | rfl | assumption) ?_
      refine x_icmp_ge 113 dX3_readField_60 (by decide) (fun z => absurd z (nI_ge (by omega) (by omega))) (fun _ => ?_)
      refine x_aload_n 0 dX3_readField_63 rfl (by first | rfl | assumption) ?_
      refine gf_X3_readField_14 dX3_readField_64 (by first | assumption | exact va_up_self _ _ _) rfl ?_
      refine x_iload dX3_readField_67 (by first | rfl | assumption) ?_
      refine cl_X3_readField_69 (sp_atN hr0 (k := i) (by omega)) (by first | assumption | exact va_up_self _ _ _) (Nat.le_of_ble_eq_true rfl) ⟨Nat.le_of_ble_eq_true rfl, Nat.le_of_ble_eq_true rfl⟩ (fun r1 g1 hq => ?_)
      obtain ⟨rfl, rfl⟩ := hq
      refine x_bipush 9 dX3_readField_72 (by decide) ?_
      refine x_icmp_eq 107 dX3_readField_74 (by decide) (fun c74 => ?_) (fun c74 => ?_)
      · refine x_iinc 1 dX3_readField_107 (by first | rfl | assumption) (by decide) (by decide) rfl ?_
        refine x_goto 57 dX3_readField_110 (by decide) ?_
        refine ih (i + 1) _ (nI_1 i) (by omega) ?_
        rw [← he]
        simp only [z_val, decide_eq_true c74, Bool.true_or, Bool.true_and]
      · refine x_aload_n 0 dX3_readField_77 rfl (by first | rfl | assumption) ?_
        refine gf_X3_readField_14 dX3_readField_78 (by first | assumption | exact va_up_self _ _ _) rfl ?_
        refine x_iload dX3_readField_81 (by first | rfl | assumption) ?_
        refine cl_X3_readField_83 (sp_atN hr0 (k := i) (by omega)) (by first | assumption | exact va_up_self _ _ _) (Nat.le_of_ble_eq_true rfl) ⟨Nat.le_of_ble_eq_true rfl, Nat.le_of_ble_eq_true rfl⟩ (fun r1 g1 hq => ?_)
        obtain ⟨rfl, rfl⟩ := hq
        refine x_bipush 32 dX3_readField_86 (by decide) ?_
        refine x_icmp_lt 105 dX3_readField_88 (by decide) (fun c88 => ?_) (fun c88 => ?_)
        · refine x_iconst 0 dX3_readField_105 (by decide) ?_
          refine x_iret rfl (by first | rfl | assumption | exact z_nb _) dX3_readField_106 (by decide) (by decide) ?_
          have hz : z_field l f t = false := by
            rw [hfd, ← he]
            simp only [z_val, decide_eq_false c74, decide_eq_true c88, Bool.not_true, Bool.false_and, Bool.or_false]
          rw [hz]
          exact ⟨rfl, Or.inl ⟨rfl, rfl⟩⟩
        · refine x_aload_n 0 dX3_readField_91 rfl (by first | rfl | assumption) ?_
          refine gf_X3_readField_14 dX3_readField_92 (by first | assumption | exact va_up_self _ _ _) rfl ?_
          refine x_iload dX3_readField_95 (by first | rfl | assumption) ?_
          refine cl_X3_readField_97 (sp_atN hr0 (k := i) (by omega)) (by first | assumption | exact va_up_self _ _ _) (Nat.le_of_ble_eq_true rfl) ⟨Nat.le_of_ble_eq_true rfl, Nat.le_of_ble_eq_true rfl⟩ (fun r1 g1 hq => ?_)
          obtain ⟨rfl, rfl⟩ := hq
          refine x_bipush 126 dX3_readField_100 (by decide) ?_
          refine x_icmp_le 107 dX3_readField_102 (by decide) (fun c102 => ?_) (fun c102 => ?_)
          · refine x_iinc 1 dX3_readField_107 (by first | rfl | assumption) (by decide) (by decide) rfl ?_
            refine x_goto 57 dX3_readField_110 (by decide) ?_
            refine ih (i + 1) _ (nI_1 i) (by omega) ?_
            rw [← he]
            simp only [z_val, decide_eq_false c74, decide_eq_false c88, decide_eq_true c102, Bool.not_false, Bool.true_and, Bool.false_or]
          · refine x_iconst 0 dX3_readField_105 (by decide) ?_
            refine x_iret rfl (by first | rfl | assumption | exact z_nb _) dX3_readField_106 (by decide) (by decide) ?_
            have hz : z_field l f t = false := by
              rw [hfd, ← he]
              simp only [z_val, decide_eq_false c74, decide_eq_false c88, decide_eq_false c102, Bool.and_false, Bool.or_false, Bool.false_and]
            rw [hz]
            exact ⟨rfl, Or.inl ⟨rfl, rfl⟩⟩
  have tail1 : ∀ (c : Nat) (x : Int32), x = nI c → c = z_col l (t - f) f → q_X G mX3_readField (q_R mX3_readField 0 0) (q_FN G (fun o h' => o = some (.int (z_b (z_field l f t))) ∧ ((z_field l f t = false ∧ h' = h) ∨ (z_field l f t = true ∧ ∃ sn' ss' es', k_req h' a rb ra aS aT aE l sn' ss' es' ∧ k_flds l.length (K + 1) (z_keep l f (z_col l (t - f) f) t F) sn' ss' es' ∧ k_same [aS, aT, aE] h h'))) 0 0) 27 [(0, .ref a), (1, .int (nI f)), (2, .int (nI t)), (3, .int x)] [] h 0 0 := by
    intro c x hx hc
    subst hx
    have hcl := z_col_le l (t - f) f
    rw [← hc] at hcl
    refine x_iload_n 3 dX3_readField_27 rfl (by first | rfl | assumption) ?_
    refine x_iload_n 1 dX3_readField_28 rfl (by first | rfl | assumption) ?_
    refine x_icmp_eq 50 dX3_readField_29 (by decide) (fun c29 => ?_) (fun c29 => ?_)
    · have e := (nI_eq (by omega) (by omega)).mp c29
      refine x_iconst 0 dX3_readField_50 (by decide) ?_
      refine x_iret rfl (by first | rfl | assumption | exact z_nb _) dX3_readField_51 (by decide) (by decide) ?_
      have hz : z_field l f t = false := by
        unfold z_field
        rw [← hc, decide_eq_false (show ¬ f < c by omega), Bool.false_and]
      rw [hz]
      exact ⟨rfl, Or.inl ⟨rfl, rfl⟩⟩
    · have e1 : ¬ c = f := fun z => c29 ((nI_eq (by omega) (by omega)).mpr z)
      refine x_iload_n 3 dX3_readField_32 rfl (by first | rfl | assumption) ?_
      refine x_iload_n 2 dX3_readField_33 rfl (by first | rfl | assumption) ?_
      refine x_icmp_eq 50 dX3_readField_34 (by decide) (fun c34 => ?_) (fun c34 => ?_)
      · have e := (nI_eq (by omega) (by omega)).mp c34
        refine x_iconst 0 dX3_readField_50 (by decide) ?_
        refine x_iret rfl (by first | rfl | assumption | exact z_nb _) dX3_readField_51 (by decide) (by decide) ?_
        have hz : z_field l f t = false := by
          unfold z_field
          rw [← hc, decide_eq_false (show ¬ c < t by omega), Bool.false_and, Bool.and_false]
        rw [hz]
        exact ⟨rfl, Or.inl ⟨rfl, rfl⟩⟩
      · have e2 : ¬ c = t := fun z => c34 ((nI_eq (by omega) (by omega)).mpr z)
        refine x_aload_n 0 dX3_readField_37 rfl (by first | rfl | assumption) ?_
        refine gf_X3_readField_14 dX3_readField_38 (by first | assumption | exact va_up_self _ _ _) rfl ?_
        refine x_iload_n 3 dX3_readField_41 rfl (by first | rfl | assumption) ?_
        refine cl_X3_readField_42 (sp_atN hr0 (k := c) (by omega)) (by first | assumption | exact va_up_self _ _ _) (Nat.le_of_ble_eq_true rfl) ⟨Nat.le_of_ble_eq_true rfl, Nat.le_of_ble_eq_true rfl⟩ (fun r1 g1 hq => ?_)
        obtain ⟨rfl, rfl⟩ := hq
        refine x_bipush 58 dX3_readField_45 (by decide) ?_
        refine x_icmp_eq 52 dX3_readField_47 (by decide) (fun c47 => ?_) (fun c47 => ?_)
        · refine x_iload_n 3 dX3_readField_52 rfl (by first | rfl | assumption) ?_
          refine x_iconst 1 dX3_readField_53 (by decide) ?_
          refine x_iadd dX3_readField_54 ?_
          refine x_istore dX3_readField_55 (by decide) rfl ?_
          rw [nI_1]
          exact tail2 c hc (by omega) (by omega) c47 (t - (c + 1)) (c + 1) _ rfl (by omega) rfl
        · refine x_iconst 0 dX3_readField_50 (by decide) ?_
          refine x_iret rfl (by first | rfl | assumption | exact z_nb _) dX3_readField_51 (by decide) (by decide) ?_
          have hz : z_field l f t = false := by
            unfold z_field
            rw [← hc, decide_eq_false c47, Bool.false_and, Bool.and_false, Bool.and_false]
          rw [hz]
          exact ⟨rfl, Or.inl ⟨rfl, rfl⟩⟩
  have loop : ∀ (n i : Nat) (x : Int32), x = nI i → i + n = t → z_col l n i = z_col l (t - f) f →
      q_X G mX3_readField (q_R mX3_readField 0 0) (q_FN G (fun o h' => o = some (.int (z_b (z_field l f t))) ∧ ((z_field l f t = false ∧ h' = h) ∨ (z_field l f t = true ∧ ∃ sn' ss' es', k_req h' a rb ra aS aT aE l sn' ss' es' ∧ k_flds l.length (K + 1) (z_keep l f (z_col l (t - f) f) t F) sn' ss' es' ∧ k_same [aS, aT, aE] h h'))) 0 0) 2 [(0, .ref a), (1, .int (nI f)), (2, .int (nI t)), (3, .int x)] [] h 0 0 := by
    intro n
    induction n with
    | zero =>
      intro i x hx hi he
      subst hx
      refine x_iload_n 3 dX3_readField_2 rfl (by first | rfl | assumption) ?_
      refine x_iload_n 2 dX3_readField_3 rfl (by first | rfl | assumption) ?_
      refine x_icmp_ge 27 dX3_readField_4 (by decide) (fun _ => ?_) (fun z => absurd (nI_le (by omega) (by omega)) z)
      exact tail1 i _ rfl he
    | succ n ih =>
      intro i x hx hi he
      subst hx
      refine x_iload_n 3 dX3_readField_2 rfl (by first | rfl | assumption) ?_
      refine x_iload_n 2 dX3_readField_3 rfl (by first | rfl | assumption) ?_
      refine x_icmp_ge 27 dX3_readField_4 (by decide) (fun z => absurd z (nI_ge (by omega) (by omega))) (fun _ => ?_)
      refine x_aload_n 0 dX3_readField_7 rfl (by first | rfl | assumption) ?_
      refine gf_X3_readField_14 dX3_readField_8 (by first | assumption | exact va_up_self _ _ _) rfl ?_
      refine x_iload_n 3 dX3_readField_11 rfl (by first | rfl | assumption) ?_
      refine cl_X3_readField_12 (sp_atN hr0 (k := i) (by omega)) (by first | assumption | exact va_up_self _ _ _) (Nat.le_of_ble_eq_true rfl) ⟨Nat.le_of_ble_eq_true rfl, Nat.le_of_ble_eq_true rfl⟩ (fun r1 g1 hq => ?_)
      obtain ⟨rfl, rfl⟩ := hq
      refine cl_X3_readField_15 (sp_ns _) (Nat.le_of_ble_eq_true rfl) ⟨Nat.le_of_ble_eq_true rfl, Nat.le_of_ble_eq_true rfl⟩ (fun r1 g1 hq => ?_)
      obtain ⟨rfl, rfl⟩ := hq
      refine x_if_eq 27 dX3_readField_18 (by decide) (fun c18 => ?_) (fun c18 => ?_)
      · refine tail1 i _ rfl ?_
        rw [← he, z_col, if_neg (by rw [z_b0 c18]; decide)]
      · refine x_iinc 1 dX3_readField_21 (by first | rfl | assumption) (by decide) (by decide) rfl ?_
        refine x_goto 2 dX3_readField_24 (by decide) ?_
        refine ih (i + 1) _ (nI_1 i) (by omega) ?_
        rw [← he]
        conv => rhs; rw [z_col, if_pos (z_b1 c18)]
  exact loop (t - f) f _ rfl (by omega) rfl
end ReqB
