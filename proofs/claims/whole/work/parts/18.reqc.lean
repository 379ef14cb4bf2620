/-! FramedTalk$Request: lines, words, key, judge -/
section ReqC
variable {G : q_G} {h : q_H} {a rb ra aS aT aE : Nat} {l : List Int32} {sn ss es : Nat → Int32}
theorem sp_isFirstLine (ho : h a = some (k_ob 3 [.ref rb, .ref aS, .ref aT, .ref aE])) (hr : k_row h rb ra 400 l) {t : Nat} (ht : t ≤ l.length) : q_SP G mX3_isFirstLine [.ref a, .int (nI t)] h 0 0 (fun o h' => o = some (.int (z_b (z_first l t))) ∧ h' = h) := by
  have hl := hr.len
  have key : nI t - 9 ≤ 4 ↔ t ≤ 13 := by
    rw [i32_le, show (9 : Int32) = nI 9 from rfl, pk_sub_toInt (by omega) (by omega), show (4 : Int32).toInt = 4 from rfl]
    omega
  refine q_enter (M := mX3_isFirstLine) (by decide +kernel) rfl (Nat.le_of_ble_eq_true rfl) ?_
  refine x_iconst 4 dX3_isFirstLine_0 (by decide) ?_
  refine x_istore_n 2 dX3_isFirstLine_1 rfl (by decide) rfl ?_
  refine x_iload_n 1 dX3_isFirstLine_2 rfl (by first | rfl | assumption) ?_
  refine x_bipush 9 dX3_isFirstLine_3 (by decide) ?_
  refine x_isub dX3_isFirstLine_5 ?_
  refine x_istore_n 3 dX3_isFirstLine_6 rfl (by decide) rfl ?_
  refine x_iload_n 3 dX3_isFirstLine_7 rfl (by first | rfl | assumption) ?_
  refine x_iload_n 2 dX3_isFirstLine_8 rfl (by first | rfl | assumption) ?_
  refine x_icmp_le 47 dX3_isFirstLine_9 (by decide) (fun c9 => ?_) (fun c9 => ?_)
  · refine x_iconst 0 dX3_isFirstLine_47 (by decide) ?_
    refine x_iret rfl (by first | rfl | assumption | exact z_nb _ | decide) dX3_isFirstLine_48 (by decide) (by decide) ?_
    exact ⟨by unfold z_first; rw [decide_eq_false (by have := key.mp c9; omega), Bool.false_and]; rfl, rfl⟩
  · have e : 13 < t := by
      have : ¬ t ≤ 13 := fun z => c9 (key.mpr z)
      omega
    have hz : z_first l t = (z_eqX l 0 (z_w 0) && (z_eqX l (t - 9) (z_w 1) && z_in33 l (t - 13) 4)) := by
      unfold z_first
      rw [decide_eq_true e, Bool.true_and]
    rw [hz, show nI t - 9 = nI (t - 9) from pk_sub (b := 9) (by omega)]
    refine x_aload_n 0 dX3_isFirstLine_12 rfl (by first | rfl | assumption) ?_
    refine x_iconst 0 dX3_isFirstLine_13 (by decide) ?_
    refine ks_X3_isFirstLine_72 dX3_isFirstLine_14 ?_
    refine cl_X3_isFirstLine_16 (sp_isExactly ho hr (i := 0) (p := 0) (by decide) (by show 0 + 4 ≤ _; omega)) (by first | assumption | exact va_up_self _ _ _) (Nat.le_of_ble_eq_true rfl) ⟨Nat.le_of_ble_eq_true rfl, Nat.le_of_ble_eq_true rfl⟩ (fun r1 g1 hq => ?_)
    obtain ⟨rfl, rfl⟩ := hq
    refine x_if_eq 47 dX3_isFirstLine_19 (by decide) (fun c19 => ?_) (fun c19 => ?_)
    · refine x_iconst 0 dX3_isFirstLine_47 (by decide) ?_
      refine x_iret rfl (by first | rfl | assumption | exact z_nb _ | decide) dX3_isFirstLine_48 (by decide) (by decide) ?_
      exact ⟨by rw [z_b0 c19, Bool.false_and]; rfl, rfl⟩
    · rw [z_b1 c19, Bool.true_and]
      refine x_aload_n 0 dX3_isFirstLine_22 rfl (by first | rfl | assumption) ?_
      refine x_iload_n 3 dX3_isFirstLine_23 rfl (by first | rfl | assumption) ?_
      refine ks_X3_isFirstLine_78 dX3_isFirstLine_24 ?_
      refine cl_X3_isFirstLine_26 (sp_isExactly ho hr (i := 1) (p := t - 9) (by decide) (by show t - 9 + 9 ≤ _; omega)) (by first | assumption | exact va_up_self _ _ _) (Nat.le_of_ble_eq_true rfl) ⟨Nat.le_of_ble_eq_true rfl, Nat.le_of_ble_eq_true rfl⟩ (fun r1 g1 hq => ?_)
      obtain ⟨rfl, rfl⟩ := hq
      refine x_if_eq 47 dX3_isFirstLine_29 (by decide) (fun c29 => ?_) (fun c29 => ?_)
      · refine x_iconst 0 dX3_isFirstLine_47 (by decide) ?_
        refine x_iret rfl (by first | rfl | assumption | exact z_nb _ | decide) dX3_isFirstLine_48 (by decide) (by decide) ?_
        exact ⟨by rw [z_b0 c29, Bool.false_and]; rfl, rfl⟩
      · rw [z_b1 c29, Bool.true_and]
        refine x_aload_n 0 dX3_isFirstLine_32 rfl (by first | rfl | assumption) ?_
        refine x_iload_n 2 dX3_isFirstLine_33 rfl (by first | rfl | assumption) ?_
        refine x_iload_n 3 dX3_isFirstLine_34 rfl (by first | rfl | assumption) ?_
        refine x_bipush 33 dX3_isFirstLine_35 (by decide) ?_
        refine cl_X3_isFirstLine_37 (sp_allWithin ho hr (f := 4) (t := t - 9) (by omega) (by omega)) (by first | assumption | exact va_up_self _ _ _) (Nat.le_of_ble_eq_true rfl) ⟨Nat.le_of_ble_eq_true rfl, Nat.le_of_ble_eq_true rfl⟩ (fun r1 g1 hq => ?_)
        obtain ⟨rfl, rfl⟩ := hq
        rw [show t - 9 - 4 = t - 13 by omega]
        refine x_if_eq 47 dX3_isFirstLine_40 (by decide) (fun c40 => ?_) (fun c40 => ?_)
        · refine x_iconst 0 dX3_isFirstLine_47 (by decide) ?_
          refine x_iret rfl (by first | rfl | assumption | exact z_nb _ | decide) dX3_isFirstLine_48 (by decide) (by decide) ?_
          exact ⟨by first | (rw [z_b0 c40]; rfl) | (rw [z_b1 c40]; rfl), rfl⟩
        · refine x_iconst 1 dX3_isFirstLine_43 (by decide) ?_
          refine x_goto 48 dX3_isFirstLine_44 (by decide) ?_
          refine x_iret rfl (by first | rfl | assumption | exact z_nb _ | decide) dX3_isFirstLine_48 (by decide) (by decide) ?_
          exact ⟨by first | (rw [z_b0 c40]; rfl) | (rw [z_b1 c40]; rfl), rfl⟩
theorem k_flds.mono {L K K' : Nat} {F : z_Fd} (h : k_flds L K F sn ss es) (hK : K ≤ K') : k_flds L K' F sn ss es := fun n hn => by
  obtain ⟨z1, z2, z3⟩ := h n hn
  exact ⟨z1, by omega, z3⟩
theorem sp_readLines (hq0 : k_req h a rb ra aS aT aE l sn ss es) {F0 : z_Fd} (hF : k_flds l.length 0 F0 sn ss es) (hn : 4 ≤ l.length) : q_SP G mX3_readLines [.ref a] h 0 0 (fun o h' => o = some (.int (z_b (z_rl l (l.length - 3) 0 0 F0).isSome)) ∧ k_same [aS, aT, aE] h h' ∧ ∃ sn' ss' es', k_req h' a rb ra aS aT aE l sn' ss' es' ∧ ∀ F, z_rl l (l.length - 3) 0 0 F0 = some F → k_flds l.length 500 F sn' ss' es') := by
  have hq1 := hq0
  obtain ⟨ho, hr, -⟩ := hq1
  have hl := hr.len
  have hr0 := hr
  obtain ⟨f0, h1, h2, h3, h4, h5⟩ := hr
  refine q_enter (M := mX3_readLines) (by decide +kernel) rfl (Nat.le_of_ble_eq_true rfl) ?_
  refine x_aload_n 0 dX3_readLines_0 rfl (by first | rfl | assumption) ?_
  refine gf_X3_readLines_14 dX3_readLines_1 (by first | assumption | exact va_up_self _ _ _) rfl ?_
  refine cl_X3_readLines_4 (sp_size hr0) (by first | assumption | exact va_up_self _ _ _) (Nat.le_of_ble_eq_true rfl) ⟨Nat.le_of_ble_eq_true rfl, Nat.le_of_ble_eq_true rfl⟩ (fun r1 g1 hq => ?_)
  obtain ⟨rfl, rfl⟩ := hq
  rw [show ((some (Value.int (nI l.length))).toList ++ ([] : List Value)) = [.int (nI l.length)] from rfl]
  refine x_iconst 4 dX3_readLines_7 (by decide) ?_
  refine x_isub dX3_readLines_8 ?_
  refine x_istore_n 1 dX3_readLines_9 rfl (by decide) rfl ?_
  refine x_iconst 0 dX3_readLines_10 (by decide) ?_
  refine x_istore_n 2 dX3_readLines_11 rfl (by decide) rfl ?_
  refine x_iconst 0 dX3_readLines_12 (by decide) ?_
  refine x_istore_n 3 dX3_readLines_13 rfl (by decide) rfl ?_
  rw [show nI l.length - 4 = nI (l.length - 4) from pk_sub (b := 4) hn]
  have loop : ∀ (n i f : Nat) (x y : Int32) (F : z_Fd) (h1 : q_H) (sn ss es : Nat → Int32), x = nI f → y = nI i → i + n = l.length - 3 → f ≤ i + 1 → (f = 0 ∨ 2 ≤ f) → k_req h1 a rb ra aS aT aE l sn ss es → k_flds l.length i F sn ss es → k_same [aS, aT, aE] g1 h1 → (∀ j, f ≤ j → j + 1 < i → True) → (2 ≤ f → f ≤ i ∨ z_eol l i = false) → z_rl l n i f F = z_rl l (l.length - 3) 0 0 F0 →
      q_X G mX3_readLines (q_R mX3_readLines 0 0) (q_FN G (fun o h' => o = some (.int (z_b (z_rl l (l.length - 3) 0 0 F0).isSome)) ∧ k_same [aS, aT, aE] g1 h' ∧ ∃ sn' ss' es', k_req h' a rb ra aS aT aE l sn' ss' es' ∧ ∀ F, z_rl l (l.length - 3) 0 0 F0 = some F → k_flds l.length 500 F sn' ss' es') 0 0) 14 [(0, .ref a), (1, .int (nI (l.length - 4))), (2, .int x), (3, .int y)] [] h1 0 0 := by
    intro n
    induction n with
    | zero =>
      intro i f x y F h1 sn ss es hx hy hi hf hf2 hq hF hs _ hfe he
      subst hx; subst hy
      refine x_iload_n 3 dX3_readLines_14 rfl (by first | rfl | assumption) ?_
      refine x_iload_n 1 dX3_readLines_15 rfl (by first | rfl | assumption) ?_
      refine x_icmp_gt 64 dX3_readLines_16 (by decide) (fun _ => ?_) (fun z => absurd (nI_lt (by omega) (by omega)) z)
      refine x_iconst 1 dX3_readLines_64 (by decide) ?_
      refine x_iret rfl (by first | rfl | assumption | exact z_nb _) dX3_readLines_65 (by decide) (by decide) ?_
      rw [← he]
      refine ⟨rfl, hs, sn, ss, es, hq, fun F' hF' => ?_⟩
      cases hF'
      exact hF.mono (by omega)
    | succ n ih =>
      intro i f x y F h1 sn ss es hx hy hi hf hf2 hq hF hs _ hfe he
      subst hx; subst hy
      obtain ⟨ho, hr, -⟩ := id hq
      refine x_iload_n 3 dX3_readLines_14 rfl (by first | rfl | assumption) ?_
      refine x_iload_n 1 dX3_readLines_15 rfl (by first | rfl | assumption) ?_
      refine x_icmp_gt 64 dX3_readLines_16 (by decide) (fun z => absurd z (nI_nlt (by omega) (by omega))) (fun _ => ?_)
      refine x_aload_n 0 dX3_readLines_19 rfl (by first | rfl | assumption) ?_
      refine x_iload_n 3 dX3_readLines_20 rfl (by first | rfl | assumption) ?_
      refine cl_X3_readLines_21 (sp_eol ho hr (i := i) (by omega)) (by first | assumption | exact va_up_self _ _ _) (Nat.le_of_ble_eq_true rfl) ⟨Nat.le_of_ble_eq_true rfl, Nat.le_of_ble_eq_true rfl⟩ (fun r1 g2 hq2 => ?_)
      obtain ⟨rfl, rfl⟩ := hq2
      refine x_if_eq 58 dX3_readLines_24 (by decide) (fun c24 => ?_) (fun c24 => ?_)
      · refine x_iinc 1 dX3_readLines_58 (by first | rfl | assumption) (by decide) (by decide) rfl ?_
        refine x_goto 14 dX3_readLines_61 (by decide) ?_
        have hno : z_eol l i = false := z_b0 c24
        refine ih (i + 1) f _ _ F _ sn ss es rfl (nI_1 i) (by omega) (by omega) hf2 hq (hF.mono (by omega)) hs (fun _ _ _ => trivial) (fun h2 => Or.inl (by rcases hfe h2 with z | z <;> omega)) ?_
        rw [← he]
        conv => rhs; rw [z_rl, if_neg (by rw [hno]; decide)]
      · have hyes : z_eol l i = true := z_b1 c24
        have hnext : z_eol l (i + 1) = false := by
          unfold z_eol at hyes ⊢
          rw [Bool.and_eq_true, decide_eq_true_iff, decide_eq_true_iff] at hyes
          rw [hyes.2]
          rfl
        refine x_iload_n 2 dX3_readLines_27 rfl (by first | rfl | assumption) ?_
        refine x_if_ne 39 dX3_readLines_28 (by decide) (fun c28 => ?_) (fun c28 => ?_)
        · have hf0 : ¬ f = 0 := fun z => c28 (by rw [z]; rfl)
          have hfi : f ≤ i := by
            rcases hfe (by omega) with z | z
            · exact z
            · rw [hyes] at z; cases z
          refine x_aload_n 0 dX3_readLines_39 rfl (by first | rfl | assumption) ?_
          refine x_iload_n 2 dX3_readLines_40 rfl (by first | rfl | assumption) ?_
          refine x_iload_n 3 dX3_readLines_41 rfl (by first | rfl | assumption) ?_
          refine cl_X3_readLines_42 (sp_readField hq hF (by omega) (f := f) (t := i) hfi (by omega)) (by first | assumption | exact va_up_self _ _ _) (Nat.le_of_ble_eq_true rfl) ⟨Nat.le_of_ble_eq_true rfl, Nat.le_of_ble_eq_true rfl⟩ (fun r1 g3 hq3 => ?_)
          obtain ⟨rfl, hor⟩ := hq3
          refine x_istore dX3_readLines_45 (by decide) rfl ?_
          refine x_iload dX3_readLines_47 (by first | rfl | assumption) ?_
          have hstep : z_rl l (n + 1) i f F = if z_field l f i then z_rl l n (i + 1) (i + 2) (z_keep l f (z_col l (i - f) f) i F) else none := by
            rw [z_rl, if_pos hyes, if_neg hf0, if_neg hf0]
          rcases hor with ⟨z1, rfl⟩ | ⟨z1, sn', ss', es', k1, k2, k3⟩
          · rw [z1]
            refine x_if_ne 54 dX3_readLines_49 (by decide) (fun z => absurd rfl z) (fun _ => ?_)
            refine x_iconst 0 dX3_readLines_52 (by decide) ?_
            refine x_iret rfl (by first | rfl | assumption | exact z_nb _) dX3_readLines_53 (by decide) (by decide) ?_
            rw [← he, hstep, z1]
            exact ⟨rfl, hs, sn, ss, es, hq, fun F' hF' => by cases hF'⟩
          · rw [z1]
            refine x_if_ne 54 dX3_readLines_49 (by decide) (fun _ => ?_) (fun z => absurd z (show ¬ (1 : Int32) = 0 by decide))
            refine x_iload_n 3 dX3_readLines_54 rfl (by first | rfl | assumption) ?_
            refine x_iconst 2 dX3_readLines_55 (by decide) ?_
            refine x_iadd dX3_readLines_56 ?_
            refine x_istore_n 2 dX3_readLines_57 rfl (by decide) rfl ?_
            refine x_iinc 1 dX3_readLines_58 (by first | rfl | assumption) (by decide) (by decide) rfl ?_
            refine x_goto 14 dX3_readLines_61 (by decide) ?_
            refine x_take 4 (ih (i + 1) (i + 2) _ _ _ g3 sn' ss' es' ?_ (nI_1 i) (by omega) (by omega) (Or.inr (by omega)) k1 k2 (hs.tr k3) (fun _ _ _ => trivial) (fun _ => Or.inr hnext) ?_)
            · exact nI_add i 2
            · rw [← he, hstep, z1]
              rfl
        · have hf0 : f = 0 := by
            rcases hf2 with z | z
            · exact z
            · exact absurd c28 (nI_ne0 (by omega) (by omega))
          subst hf0
          refine x_aload_n 0 dX3_readLines_31 rfl (by first | rfl | assumption) ?_
          refine x_iload_n 3 dX3_readLines_32 rfl (by first | rfl | assumption) ?_
          refine cl_X3_readLines_33 (sp_isFirstLine ho hr (t := i) (by omega)) (by first | assumption | exact va_up_self _ _ _) (Nat.le_of_ble_eq_true rfl) ⟨Nat.le_of_ble_eq_true rfl, Nat.le_of_ble_eq_true rfl⟩ (fun r1 g3 hq3 => ?_)
          obtain ⟨rfl, rfl⟩ := hq3
          have hstep : z_rl l (n + 1) i 0 F = if z_first l i then z_rl l n (i + 1) (i + 2) F else none := by
            rw [z_rl, if_pos hyes, if_pos rfl, if_pos rfl]
          refine x_goto 45 dX3_readLines_36 (by decide) ?_
          refine x_istore dX3_readLines_45 (by decide) rfl ?_
          refine x_iload dX3_readLines_47 (by first | rfl | assumption) ?_
          refine x_if_ne 54 dX3_readLines_49 (by decide) (fun c49 => ?_) (fun c49 => ?_)
          · have z1 := z_b1 c49
            refine x_iload_n 3 dX3_readLines_54 rfl (by first | rfl | assumption) ?_
            refine x_iconst 2 dX3_readLines_55 (by decide) ?_
            refine x_iadd dX3_readLines_56 ?_
            refine x_istore_n 2 dX3_readLines_57 rfl (by decide) rfl ?_
            refine x_iinc 1 dX3_readLines_58 (by first | rfl | assumption) (by decide) (by decide) rfl ?_
            refine x_goto 14 dX3_readLines_61 (by decide) ?_
            refine x_take 4 (ih (i + 1) (i + 2) _ _ F _ sn ss es ?_ (nI_1 i) (by omega) (by omega) (Or.inr (by omega)) hq (hF.mono (by omega)) hs (fun _ _ _ => trivial) (fun _ => Or.inr hnext) ?_)
            · exact nI_add i 2
            · rw [← he, hstep, z1]
              rfl
          · have z1 := z_b0 c49
            refine x_iconst 0 dX3_readLines_52 (by decide) ?_
            refine x_iret rfl (by first | rfl | assumption | exact z_nb _) dX3_readLines_53 (by decide) (by decide) ?_
            rw [← he, hstep, z1]
            exact ⟨rfl, hs, sn, ss, es, hq, fun F' hF' => by cases hF'⟩
  exact loop (l.length - 3) 0 0 0 0 F0 g1 sn ss es rfl rfl (by omega) (by omega) (Or.inl rfl) hq0 hF k_same.rf (fun _ _ _ => trivial) (fun z => absurd z (by omega)) rfl
theorem z_hw_e (l : List Int32) {s e' : Nat} {w : List Int32} (hw : 0 < w.length) (h : e' < s) : z_has l s s w = false := by
  unfold z_has
  rw [show s + 1 - s = 0 + 1 by omega, z_hw, decide_eq_true rfl, Bool.true_or, if_pos rfl]
  have e1 : z_skF l (s - s) s = s := by rw [Nat.sub_self]; rfl
  have e2 : z_skB l (s - s) s = s := by rw [Nat.sub_self]; rfl
  rw [e1, e2]
  have : z_same l s s w = false := by
    unfold z_same
    rw [decide_eq_false (by omega), Bool.false_and]
  rw [this]
  rfl
theorem sp_hasWord (hq0 : k_req h a rb ra aS aT aE l sn ss es) {K : Nat} {F : z_Fd} (hF : k_flds l.length K F sn ss es) {n i : Nat} (hn : n < 5) (hi : i < 16) (hw : 0 < (z_w i).length) : q_SP G mX3_hasWord [.ref a, .int (nI n), .ref (q_aK G i)] h 0 0 (fun o h' => o = some (.int (z_b (z_has l (F n).2.1 (F n).2.2 (z_w i)))) ∧ h' = h) := by
  obtain ⟨ho, hr, e1, e2, e3, hd⟩ := hq0
  have hl := hr.len
  have hr0 := hr
  obtain ⟨f0, h1, h2, h3, h4, h5⟩ := hr
  obtain ⟨z1, z2, z3, z4, z5, e', z6, z7, z8⟩ := hF n hn
  generalize (F n).2.1 = s at z3 z4 z8 ⊢
  generalize (F n).2.2 = e at z5 z8 ⊢
  have hin : vp_in (nI n) 5 := vp_in_nI hn (by omega)
  refine q_enter (M := mX3_hasWord) (by decide +kernel) rfl (Nat.le_of_ble_eq_true rfl) ?_
  refine x_aload_n 0 dX3_hasWord_0 rfl (by first | rfl | assumption) ?_
  refine gf_X3_hasWord_27 dX3_hasWord_1 (by first | assumption | exact va_up_self _ _ _) rfl ?_
  refine x_iload_n 1 dX3_hasWord_4 rfl (by first | rfl | assumption) ?_
  refine x_iald dX3_hasWord_5 (by first | assumption | exact va_up_self _ _ _) (by assumption) ?_
  refine x_istore_n 3 dX3_hasWord_6 rfl (by decide) rfl ?_
  refine x_aload_n 0 dX3_hasWord_7 rfl (by first | rfl | assumption) ?_
  refine gf_X3_hasWord_24 dX3_hasWord_8 (by first | assumption | exact va_up_self _ _ _) rfl ?_
  refine x_iload_n 1 dX3_hasWord_11 rfl (by first | rfl | assumption) ?_
  refine x_iald dX3_hasWord_12 (by first | assumption | exact va_up_self _ _ _) (by assumption) ?_
  refine x_istore dX3_hasWord_13 (by decide) rfl ?_
  refine x_iload dX3_hasWord_15 (by first | rfl | assumption) ?_
  refine x_istore dX3_hasWord_17 (by decide) rfl ?_
  rw [nI_clamp (by omega), z3, z6]
  have loop : e' = e → ∀ (m i0 f : Nat) (x y : Int32), x = nI f → y = nI i0 → i0 + m = e + 1 → f ≤ i0 → z_hw l e (z_w i) m i0 f = z_has l s e (z_w i) →
      q_X G mX3_hasWord (q_R mX3_hasWord 0 0) (q_FN G (fun o h' => o = some (.int (z_b (z_has l s e (z_w i)))) ∧ h' = h) 0 0) 19 [(0, .ref a), (1, .int (nI n)), (2, .ref (q_aK G i)), (3, .int (nI e')), (4, .int x), (5, .int y)] [] h 0 0 := by
    intro hee m
    subst hee
    induction m with
    | zero =>
      intro i0 f x y hx hy hi0 hf he
      subst hx; subst hy
      refine x_iload dX3_hasWord_19 (by first | rfl | assumption) ?_
      refine x_iload_n 3 dX3_hasWord_21 rfl (by first | rfl | assumption) ?_
      refine x_icmp_gt 83 dX3_hasWord_22 (by decide) (fun _ => ?_) (fun z => absurd (nI_lt (by omega) (by omega)) z)
      refine x_iconst 0 dX3_hasWord_83 (by decide) ?_
      refine x_iret rfl (by first | rfl | assumption | exact z_nb _) dX3_hasWord_84 (by decide) (by decide) ?_
      rw [← he]
      exact ⟨rfl, rfl⟩
    | succ m ih =>
      intro i0 f x y hx hy hi0 hf he
      subst hx; subst hy
      have hit : (decide (i0 = e') || decide (l.getD i0 0 = 44)) = true → q_X G mX3_hasWord (q_R mX3_hasWord 0 0) (q_FN G (fun o h' => o = some (.int (z_b (z_has l s e' (z_w i)))) ∧ h' = h) 0 0) 45 [(0, .ref a), (1, .int (nI n)), (2, .ref (q_aK G i)), (3, .int (nI e')), (4, .int (nI f)), (5, .int (nI i0))] [] h 0 0 := by
        intro hc
        have k1 := z_skF_le l (i0 - f) f
        have k3 := z_skB_le l (i0 - f) i0
        rw [z_hw, if_pos hc] at he
        refine x_aload_n 0 dX3_hasWord_45 rfl (by first | rfl | assumption) ?_
        refine x_aload_n 0 dX3_hasWord_46 rfl (by first | rfl | assumption) ?_
        refine x_iload dX3_hasWord_47 (by first | rfl | assumption) ?_
        refine x_iload dX3_hasWord_49 (by first | rfl | assumption) ?_
        refine cl_X3_hasWord_51 (sp_skF ho hr0 (f := f) (t := i0) hf (by omega)) (by first | assumption | exact va_up_self _ _ _) (Nat.le_of_ble_eq_true rfl) ⟨Nat.le_of_ble_eq_true rfl, Nat.le_of_ble_eq_true rfl⟩ (fun r1 g1 hq => ?_)
        obtain ⟨rfl, rfl⟩ := hq
        refine x_aload_n 0 dX3_hasWord_54 rfl (by first | rfl | assumption) ?_
        refine x_iload dX3_hasWord_55 (by first | rfl | assumption) ?_
        refine x_iload dX3_hasWord_57 (by first | rfl | assumption) ?_
        refine cl_X3_hasWord_59 (sp_skB ho hr0 (f := f) (t := i0) hf (by omega)) (by first | assumption | exact va_up_self _ _ _) (Nat.le_of_ble_eq_true rfl) ⟨Nat.le_of_ble_eq_true rfl, Nat.le_of_ble_eq_true rfl⟩ (fun r1 g1 hq => ?_)
        obtain ⟨rfl, rfl⟩ := hq
        refine x_aload_n 2 dX3_hasWord_62 rfl (by first | rfl | assumption) ?_
        refine cl_X3_hasWord_63 (sp_isSame ho hr0 (i := i) (f := z_skF l (i0 - f) f) (t := z_skB l (i0 - f) i0) hi (by omega) (by omega)) (by first | assumption | exact va_up_self _ _ _) (Nat.le_of_ble_eq_true rfl) ⟨Nat.le_of_ble_eq_true rfl, Nat.le_of_ble_eq_true rfl⟩ (fun r1 g1 hq => ?_)
        obtain ⟨rfl, rfl⟩ := hq
        rw [z_same_e hw (z_ends l hf)]
        refine x_if_eq 71 dX3_hasWord_66 (by decide) (fun c66 => ?_) (fun c66 => ?_)
        · rw [z_b0 c66, Bool.false_or] at he
          refine x_iload dX3_hasWord_71 (by first | rfl | assumption) ?_
          refine x_iconst 1 dX3_hasWord_73 (by decide) ?_
          refine x_iadd dX3_hasWord_74 ?_
          refine x_istore dX3_hasWord_75 (by decide) rfl ?_
          refine x_iinc 1 dX3_hasWord_77 (by first | rfl | assumption) (by decide) (by decide) rfl ?_
          refine x_goto 19 dX3_hasWord_80 (by decide) ?_
          exact ih (i0 + 1) (i0 + 1) _ _ (nI_1 i0) (nI_1 i0) (by omega) (Nat.le_refl _) he
        · rw [z_b1 c66, Bool.true_or] at he
          refine x_iconst 1 dX3_hasWord_69 (by decide) ?_
          refine x_iret rfl (by first | rfl | assumption | exact z_nb _) dX3_hasWord_70 (by decide) (by decide) ?_
          rw [← he]
          exact ⟨rfl, rfl⟩
      refine x_iload dX3_hasWord_19 (by first | rfl | assumption) ?_
      refine x_iload_n 3 dX3_hasWord_21 rfl (by first | rfl | assumption) ?_
      refine x_icmp_gt 83 dX3_hasWord_22 (by decide) (fun z => absurd z (nI_nlt (by omega) (by omega))) (fun _ => ?_)
      refine x_iload dX3_hasWord_25 (by first | rfl | assumption) ?_
      refine x_iload_n 3 dX3_hasWord_27 rfl (by first | rfl | assumption) ?_
      refine x_icmp_eq 45 dX3_hasWord_28 (by decide) (fun c28 => ?_) (fun c28 => ?_)
      · exact hit (by rw [decide_eq_true ((nI_eq (by omega) (by omega)).mp c28), Bool.true_or])
      · have hne : ¬ i0 = e' := fun z => c28 ((nI_eq (by omega) (by omega)).mpr z)
        refine x_aload_n 0 dX3_hasWord_31 rfl (by first | rfl | assumption) ?_
        refine gf_X3_hasWord_14 dX3_hasWord_32 (by first | assumption | exact va_up_self _ _ _) rfl ?_
        refine x_iload dX3_hasWord_35 (by first | rfl | assumption) ?_
        refine cl_X3_hasWord_37 (sp_atN hr0 (k := i0) (by omega)) (by first | assumption | exact va_up_self _ _ _) (Nat.le_of_ble_eq_true rfl) ⟨Nat.le_of_ble_eq_true rfl, Nat.le_of_ble_eq_true rfl⟩ (fun r1 g1 hq => ?_)
        obtain ⟨rfl, rfl⟩ := hq
        refine x_bipush 44 dX3_hasWord_40 (by decide) ?_
        refine x_icmp_ne 77 dX3_hasWord_42 (by decide) (fun c42 => ?_) (fun c42 => ?_)
        · refine x_iinc 1 dX3_hasWord_77 (by first | rfl | assumption) (by decide) (by decide) rfl ?_
          refine x_goto 19 dX3_hasWord_80 (by decide) ?_
          refine ih (i0 + 1) f _ _ rfl (nI_1 i0) (by omega) (by omega) ?_
          rw [← he]
          conv => rhs; rw [z_hw, decide_eq_false hne, decide_eq_false c42, Bool.or_false, if_neg (by decide)]
        · exact hit (by rw [decide_eq_true c42, Bool.or_true])
  by_cases hlt : e' < s
  · have hz : z_has l s e (z_w i) = false := by
      rcases z8 with z | ⟨-, z⟩
      · unfold z_has
        rw [← z, show e' + 1 - s = 0 by omega]
        rfl
      · rw [z]
        exact z_hw_e l hw hlt
    rw [hz]
    refine x_iload dX3_hasWord_19 (by first | rfl | assumption) ?_
    refine x_iload_n 3 dX3_hasWord_21 rfl (by first | rfl | assumption) ?_
    refine x_icmp_gt 83 dX3_hasWord_22 (by decide) (fun _ => ?_) (fun z => absurd (nI_lt (by omega) (by omega)) z)
    refine x_iconst 0 dX3_hasWord_83 (by decide) ?_
    refine x_iret rfl (by first | rfl | assumption | exact z_nb _) dX3_hasWord_84 (by decide) (by decide) ?_
    exact ⟨rfl, rfl⟩
  · have hee : e' = e := by omega
    exact loop hee (e + 1 - s) s s _ _ rfl rfl (by omega) (Nat.le_refl _) rfl
end ReqC
