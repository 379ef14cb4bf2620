/-! the reference: words of a value, the key -/
section MdlG
variable {G : q_G} {h0 h : q_H} {B : Nat → Nat} {V : Nat → Value} {F : Nat → Nat → Int32} {l : List Int32}
theorem sm_hasWord (hm : k_m h0 h B V F) (hl : m_l (F 1) l) (hN : l.length ≤ 400) {n wh s e : Nat} (hn : n < 5) (hwh : wh < 6) (f3 : F 3 n = nI s) (f4 : F 4 n = nI e) (hse : s ≤ e) (he : e ≤ l.length) (hz : ∀ k, s ≤ k → k < e → l.getD k 0 ≠ 0) : q_SP G mX7_hasWord [.ref (B 0), .int (nI n), .int (nI wh)] h 0 0 (fun o h' => o = some (.int (z_b (z_has l s e (z_w (2 + wh))))) ∧ h' = h) := by
  have v5 : vp_in (nI n) 5 := vp_in_nI hn (by omega)
  have hcl : (nI n).toNatClampNeg = n := nI_clamp (by omega)
  refine q_enter (M := mX7_hasWord) (by decide +kernel) rfl (Nat.le_of_ble_eq_true rfl) ?_
  refine x_iconst 0 dX7_hasWord_0 (by decide) ?_
  refine x_istore_n 3 dX7_hasWord_1 rfl (by decide) rfl ?_
  refine x_aload_n 0 dX7_hasWord_2 rfl (by first | rfl | assumption) ?_
  refine gf_X7_hasWord_16 dX7_hasWord_3 hm.1 (congrArg some hm.r6) ?_
  refine x_iload_n 1 dX7_hasWord_6 rfl (by first | rfl | assumption) ?_
  refine x_iald dX7_hasWord_7 (by first | exact hm.a1 | exact hm.a2 | exact hm.a3 | exact hm.a4 | exact hm.a5 | exact hm.a6 | exact hm.a7 | exact hm.a8 | exact hm.a9 | exact hm.a10 | exact hm.a11 | exact hm.a12 | exact hm.a13 | exact hm.a14 | exact hm.a15) (by assumption) ?_
  rw [hcl, f3]
  refine x_istore dX7_hasWord_8 (by decide) rfl ?_
  refine x_iload dX7_hasWord_10 (by first | rfl | assumption) ?_
  refine x_istore dX7_hasWord_12 (by decide) rfl ?_
  have loop : ∀ (m i f : Nat) (x y : Int32) (b : Bool) (lv : List (Nat × Value)), x = nI i → y = nI f → i + m = e + 1 → s ≤ f → f ≤ i → (b || z_hw l e (z_w (2 + wh)) m i f) = z_has l s e (z_w (2 + wh)) → q_X G mX7_hasWord (q_R mX7_hasWord 0 0) (q_FN G (fun o h' => o = some (.int (z_b (z_has l s e (z_w (2 + wh))))) ∧ h' = h) 0 0) 14 ([(0, .ref (B 0)), (1, .int (nI n)), (2, .int (nI wh)), (3, .int (z_b b)), (4, .int y), (5, .int x)] ++ lv) [] h 0 0 := by
    intro m
    induction m with
    | zero =>
      intro i f x y b lv hx hy hi hsf hfi hq
      subst hx
      subst hy
      refine x_take 6 ?_
      refine x_iload dX7_hasWord_14 (by first | rfl | assumption) ?_
      refine x_aload_n 0 dX7_hasWord_16 rfl (by first | rfl | assumption) ?_
      refine gf_X7_hasWord_19 dX7_hasWord_17 hm.1 (congrArg some hm.r7) ?_
      refine x_iload_n 1 dX7_hasWord_20 rfl (by first | rfl | assumption) ?_
      refine x_iald dX7_hasWord_21 (by first | exact hm.a1 | exact hm.a2 | exact hm.a3 | exact hm.a4 | exact hm.a5 | exact hm.a6 | exact hm.a7 | exact hm.a8 | exact hm.a9 | exact hm.a10 | exact hm.a11 | exact hm.a12 | exact hm.a13 | exact hm.a14 | exact hm.a15) (by assumption) ?_
      rw [hcl, f4]
      refine x_icmp_gt 98 dX7_hasWord_22 (by decide) (fun _ => ?_) (fun z => absurd (nI_lt (by omega) (by omega)) z)
      refine x_iload_n 3 dX7_hasWord_98 rfl (by first | rfl | assumption) ?_
      refine x_iret rfl (by first | rfl | assumption | exact z_nb _) dX7_hasWord_99 (by decide) (by decide) ?_
      rw [← hq, show z_hw l e (z_w (2 + wh)) 0 i f = false from rfl, Bool.or_false]
      exact ⟨rfl, rfl⟩
    | succ m ih =>
      intro i f x y b lv hx hy hi hsf hfi hq
      subst hx
      subst hy
      replace hq : (b || (if decide (i = e) || decide (l.getD i 0 = 44) then z_same l (z_skF l (i - f) f) (z_skB l (i - z_skF l (i - f) f) i) (z_w (2 + wh)) || z_hw l e (z_w (2 + wh)) m (i + 1) (i + 1) else z_hw l e (z_w (2 + wh)) m (i + 1) f)) = z_has l s e (z_w (2 + wh)) := hq
      have h48 : (decide (i = e) || decide (l.getD i 0 = 44)) = true → q_X G mX7_hasWord (q_R mX7_hasWord 0 0) (q_FN G (fun o h' => o = some (.int (z_b (z_has l s e (z_w (2 + wh))))) ∧ h' = h) 0 0) 48 [(0, .ref (B 0)), (1, .int (nI n)), (2, .int (nI wh)), (3, .int (z_b b)), (4, .int (nI f)), (5, .int (nI i))] [] h 0 0 := by
        intro hc
        rw [if_pos hc] at hq
        have hs1 := z_skF_le l (i - f) f
        have hs2 := m_skB_le l (i - z_skF l (i - f) f) i (by omega)
        refine x_aload_n 0 dX7_hasWord_48 rfl (by first | rfl | assumption) ?_
        refine x_iload dX7_hasWord_49 (by first | rfl | assumption) ?_
        refine x_iload dX7_hasWord_51 (by first | rfl | assumption) ?_
        refine cl_X7_hasWord_53 (sm_begin hm hl hN (f := f) (t := i) hfi (by omega)) hm.1 (Nat.le_of_ble_eq_true rfl) ⟨Nat.le_of_ble_eq_true rfl, Nat.le_of_ble_eq_true rfl⟩ (fun r g hq1 => ?_)
        obtain ⟨rfl, hg⟩ := hq1
        rw [hg]
        generalize ha : z_skF l (i - f) f = a at hs1 hs2 hq
        refine x_istore dX7_hasWord_56 (by decide) rfl ?_
        refine x_iload_n 3 dX7_hasWord_58 rfl (by first | rfl | assumption) ?_
        cases b with
        | true =>
          refine x_if_ne 80 dX7_hasWord_59 (by decide) (fun _ => ?_) (fun z => absurd z (show ¬ z_b true = 0 by decide))
          refine x_iconst 1 dX7_hasWord_80 (by decide) ?_
          refine x_goto 85 dX7_hasWord_81 (by decide) ?_
          refine x_istore_n 3 dX7_hasWord_85 rfl (by decide) rfl ?_
          refine x_iload dX7_hasWord_86 (by first | rfl | assumption) ?_
          refine x_iconst 1 dX7_hasWord_88 (by decide) ?_
          refine x_iadd dX7_hasWord_89 ?_
          rw [nI_1]
          refine x_istore dX7_hasWord_90 (by decide) rfl ?_
          refine x_iinc 1 dX7_hasWord_92 (by first | rfl | assumption) (by decide) (by decide) rfl ?_
          refine x_goto 14 dX7_hasWord_95 (by decide) ?_
          exact ih (i + 1) (i + 1) _ _ true [(6, _)] (nI_1 i) rfl (by omega) (by omega) (by omega) (by rw [← hq]; rfl)
        | false =>
          rw [Bool.false_or] at hq
          refine x_if_ne 80 dX7_hasWord_59 (by decide) (fun z => absurd (show z_b false = 0 from rfl) z) (fun _ => ?_)
          refine x_aload_n 0 dX7_hasWord_62 rfl (by first | rfl | assumption) ?_
          refine x_iload dX7_hasWord_63 (by first | rfl | assumption) ?_
          refine x_aload_n 0 dX7_hasWord_65 rfl (by first | rfl | assumption) ?_
          refine x_iload dX7_hasWord_66 (by first | rfl | assumption) ?_
          refine x_iload dX7_hasWord_68 (by first | rfl | assumption) ?_
          refine cl_X7_hasWord_70 (sm_end hm hl hN (f := a) (t := i) (by omega) (by omega)) hm.1 (Nat.le_of_ble_eq_true rfl) ⟨Nat.le_of_ble_eq_true rfl, Nat.le_of_ble_eq_true rfl⟩ (fun r g hq1 => ?_)
          obtain ⟨rfl, hg⟩ := hq1
          rw [hg]
          refine x_iload_n 2 dX7_hasWord_73 rfl (by first | rfl | assumption) ?_
          refine cl_X7_hasWord_74 (sm_isWord hm hl hN (by omega) (by omega) hwh (fun k k1 k2 => hz k (by omega) (by omega))) hm.1 (Nat.le_of_ble_eq_true rfl) ⟨Nat.le_of_ble_eq_true rfl, Nat.le_of_ble_eq_true rfl⟩ (fun r g hq1 => ?_)
          obtain ⟨rfl, hg⟩ := hq1
          rw [hg]
          cases hw : z_same l a (z_skB l (i - a) i) (z_w (2 + wh)) with
          | true =>
            rw [hw] at hq
            refine x_if_eq 84 dX7_hasWord_77 (by decide) (fun z => absurd z (show ¬ z_b true = 0 by decide)) (fun _ => ?_)
            refine x_iconst 1 dX7_hasWord_80 (by decide) ?_
            refine x_goto 85 dX7_hasWord_81 (by decide) ?_
            refine x_istore_n 3 dX7_hasWord_85 rfl (by decide) rfl ?_
            refine x_iload dX7_hasWord_86 (by first | rfl | assumption) ?_
            refine x_iconst 1 dX7_hasWord_88 (by decide) ?_
            refine x_iadd dX7_hasWord_89 ?_
            rw [nI_1]
            refine x_istore dX7_hasWord_90 (by decide) rfl ?_
            refine x_iinc 1 dX7_hasWord_92 (by first | rfl | assumption) (by decide) (by decide) rfl ?_
            refine x_goto 14 dX7_hasWord_95 (by decide) ?_
            exact ih (i + 1) (i + 1) _ _ true [(6, _)] (nI_1 i) rfl (by omega) (by omega) (by omega) hq
          | false =>
            rw [hw] at hq
            refine x_if_eq 84 dX7_hasWord_77 (by decide) (fun _ => ?_) (fun z => absurd (show z_b false = 0 from rfl) z)
            refine x_iconst 0 dX7_hasWord_84 (by decide) ?_
            refine x_istore_n 3 dX7_hasWord_85 rfl (by decide) rfl ?_
            refine x_iload dX7_hasWord_86 (by first | rfl | assumption) ?_
            refine x_iconst 1 dX7_hasWord_88 (by decide) ?_
            refine x_iadd dX7_hasWord_89 ?_
            rw [nI_1]
            refine x_istore dX7_hasWord_90 (by decide) rfl ?_
            refine x_iinc 1 dX7_hasWord_92 (by first | rfl | assumption) (by decide) (by decide) rfl ?_
            refine x_goto 14 dX7_hasWord_95 (by decide) ?_
            exact ih (i + 1) (i + 1) _ _ false [(6, _)] (nI_1 i) rfl (by omega) (by omega) (by omega) hq
      refine x_take 6 ?_
      refine x_iload dX7_hasWord_14 (by first | rfl | assumption) ?_
      refine x_aload_n 0 dX7_hasWord_16 rfl (by first | rfl | assumption) ?_
      refine gf_X7_hasWord_19 dX7_hasWord_17 hm.1 (congrArg some hm.r7) ?_
      refine x_iload_n 1 dX7_hasWord_20 rfl (by first | rfl | assumption) ?_
      refine x_iald dX7_hasWord_21 (by first | exact hm.a1 | exact hm.a2 | exact hm.a3 | exact hm.a4 | exact hm.a5 | exact hm.a6 | exact hm.a7 | exact hm.a8 | exact hm.a9 | exact hm.a10 | exact hm.a11 | exact hm.a12 | exact hm.a13 | exact hm.a14 | exact hm.a15) (by assumption) ?_
      rw [hcl, f4]
      refine x_icmp_gt 98 dX7_hasWord_22 (by decide) (fun z => absurd z (nI_nlt (by omega) (by omega))) (fun _ => ?_)
      refine x_iload dX7_hasWord_25 (by first | rfl | assumption) ?_
      refine x_aload_n 0 dX7_hasWord_27 rfl (by first | rfl | assumption) ?_
      refine gf_X7_hasWord_19 dX7_hasWord_28 hm.1 (congrArg some hm.r7) ?_
      refine x_iload_n 1 dX7_hasWord_31 rfl (by first | rfl | assumption) ?_
      refine x_iald dX7_hasWord_32 (by first | exact hm.a1 | exact hm.a2 | exact hm.a3 | exact hm.a4 | exact hm.a5 | exact hm.a6 | exact hm.a7 | exact hm.a8 | exact hm.a9 | exact hm.a10 | exact hm.a11 | exact hm.a12 | exact hm.a13 | exact hm.a14 | exact hm.a15) (by assumption) ?_
      rw [hcl, f4]
      by_cases hie : i = e
      · refine x_icmp_eq 48 dX7_hasWord_33 (by decide) (fun _ => ?_) (fun z => absurd (by rw [hie]) z)
        exact h48 (by rw [decide_eq_true hie]; rfl)
      · refine x_icmp_eq 48 dX7_hasWord_33 (by decide) (fun z => absurd z (fun z => hie ((nI_eq (by omega) (by omega)).mp z))) (fun _ => ?_)
        have v0 : vp_in (nI i) 400 := vp_in_nI (by omega) (by omega)
        refine x_aload_n 0 dX7_hasWord_36 rfl (by first | rfl | assumption) ?_
        refine gf_X7_hasWord_7 dX7_hasWord_37 hm.1 (congrArg some hm.r3) ?_
        refine x_iload dX7_hasWord_40 (by first | rfl | assumption) ?_
        refine x_iald dX7_hasWord_42 (by first | exact hm.a1 | exact hm.a2 | exact hm.a3 | exact hm.a4 | exact hm.a5 | exact hm.a6 | exact hm.a7 | exact hm.a8 | exact hm.a9 | exact hm.a10 | exact hm.a11 | exact hm.a12 | exact hm.a13 | exact hm.a14 | exact hm.a15) (by assumption) ?_
        refine x_bipush 44 dX7_hasWord_43 (by decide) ?_
        rw [m_get hl (by omega) hN]
        by_cases h44 : l.getD i 0 = 44
        · refine x_icmp_ne 92 dX7_hasWord_45 (by decide) (fun z => absurd h44 z) (fun _ => ?_)
          exact h48 (by rw [decide_eq_true h44, Bool.or_true])
        · refine x_icmp_ne 92 dX7_hasWord_45 (by decide) (fun _ => ?_) (fun z => absurd z h44)
          rw [if_neg (by rw [decide_eq_false hie, decide_eq_false h44]; decide)] at hq
          refine x_iinc 1 dX7_hasWord_92 (by first | rfl | assumption) (by decide) (by decide) rfl ?_
          refine x_goto 14 dX7_hasWord_95 (by decide) ?_
          exact ih (i + 1) f _ _ b [] (nI_1 i) rfl (by omega) hsf (by omega) hq
  exact loop (e + 1 - s) s s _ _ false [] rfl rfl (by omega) (Nat.le_refl _) (Nat.le_refl _) (by rw [Bool.false_or]; rfl)
theorem sm_isKey (hm : k_m h0 h B V F) (hl : m_l (F 1) l) (hN : l.length ≤ 400) {s e : Nat} (hse : s ≤ e) (he : e ≤ l.length) : q_SP G mX7_isKey [.ref (B 0), .int (nI s), .int (nI e)] h 0 0 (fun o h' => o = some (.int (z_b (z_key l s e))) ∧ h' = h) := by
  have es : nI e - nI s = nI (e - s) := pk_sub hse
  have fin : ∀ (c : Int32) (x y : Value), q_X G mX7_isKey (q_R mX7_isKey 0 0) (q_FN G (fun o h' => o = some (.int (z_b (z_agw c))) ∧ h' = h) 0 0) 90 [(0, .ref (B 0)), (1, .int (nI s)), (2, .int (nI e)), (3, x), (4, .int c)] [] h 0 0 := by
    intro c x y
    refine x_iload dX7_isKey_90 (by first | rfl | assumption) ?_
    refine x_bipush 65 dX7_isKey_92 (by decide) ?_
    refine x_icmp_eq 118 dX7_isKey_94 (by decide) (fun c94 => ?_) (fun c94 => ?_)
    · refine x_iconst 1 dX7_isKey_118 (by decide) ?_
      refine x_goto 123 dX7_isKey_119 (by decide) ?_
      refine x_iret rfl (by first | rfl | assumption | exact z_nb _ | decide) dX7_isKey_123 (by decide) (by decide) ?_
      exact ⟨by simp [z_agw, z_b, *], rfl⟩
    · refine x_iload dX7_isKey_97 (by first | rfl | assumption) ?_
      refine x_bipush 81 dX7_isKey_99 (by decide) ?_
      refine x_icmp_eq 118 dX7_isKey_101 (by decide) (fun c101 => ?_) (fun c101 => ?_)
      · refine x_iconst 1 dX7_isKey_118 (by decide) ?_
        refine x_goto 123 dX7_isKey_119 (by decide) ?_
        refine x_iret rfl (by first | rfl | assumption | exact z_nb _ | decide) dX7_isKey_123 (by decide) (by decide) ?_
        exact ⟨by simp [z_agw, z_b, *], rfl⟩
      · refine x_iload dX7_isKey_104 (by first | rfl | assumption) ?_
        refine x_bipush 103 dX7_isKey_106 (by decide) ?_
        refine x_icmp_eq 118 dX7_isKey_108 (by decide) (fun c108 => ?_) (fun c108 => ?_)
        · refine x_iconst 1 dX7_isKey_118 (by decide) ?_
          refine x_goto 123 dX7_isKey_119 (by decide) ?_
          refine x_iret rfl (by first | rfl | assumption | exact z_nb _ | decide) dX7_isKey_123 (by decide) (by decide) ?_
          exact ⟨by simp [z_agw, z_b, *], rfl⟩
        · refine x_iload dX7_isKey_111 (by first | rfl | assumption) ?_
          refine x_bipush 119 dX7_isKey_113 (by decide) ?_
          refine x_icmp_ne 122 dX7_isKey_115 (by decide) (fun c115 => ?_) (fun c115 => ?_)
          · refine x_iconst 0 dX7_isKey_122 (by decide) ?_
            refine x_iret rfl (by first | rfl | assumption | exact z_nb _ | decide) dX7_isKey_123 (by decide) (by decide) ?_
            exact ⟨by simp [z_agw, z_b, *], rfl⟩
          · refine x_iconst 1 dX7_isKey_118 (by decide) ?_
            refine x_goto 123 dX7_isKey_119 (by decide) ?_
            refine x_iret rfl (by first | rfl | assumption | exact z_nb _ | decide) dX7_isKey_123 (by decide) (by decide) ?_
            exact ⟨by simp [z_agw, z_b, *], rfl⟩
  have h72f : z_key l s e = false → ∀ x : Int32, q_X G mX7_isKey (q_R mX7_isKey 0 0) (q_FN G (fun o h' => o = some (.int (z_b (z_key l s e))) ∧ h' = h) 0 0) 72 [(0, .ref (B 0)), (1, .int (nI s)), (2, .int (nI e)), (3, .int (z_b false)), (4, .int x)] [] h 0 0 := by
    intro hz x
    rw [hz]
    refine x_iload_n 3 dX7_isKey_72 rfl (by first | rfl | assumption) ?_
    refine x_if_eq 87 dX7_isKey_73 (by decide) (fun _ => ?_) (fun z => absurd (show z_b false = 0 from rfl) z)
    refine x_iconst 0 dX7_isKey_87 (by decide) ?_
    refine x_istore dX7_isKey_88 (by decide) rfl ?_
    exact fin 0 _ (.int 0)
  have h38 : z_key l s e = false → q_X G mX7_isKey (q_R mX7_isKey 0 0) (q_FN G (fun o h' => o = some (.int (z_b (z_key l s e))) ∧ h' = h) 0 0) 38 [(0, .ref (B 0)), (1, .int (nI s)), (2, .int (nI e))] [] h 0 0 := by
    intro hz
    refine x_iconst 0 dX7_isKey_38 (by decide) ?_
    refine x_istore_n 3 dX7_isKey_39 rfl (by decide) rfl ?_
    refine x_iload_n 1 dX7_isKey_40 rfl (by first | rfl | assumption) ?_
    refine x_istore dX7_isKey_41 (by decide) rfl ?_
    refine x_iload dX7_isKey_43 (by first | rfl | assumption) ?_
    refine x_iload_n 2 dX7_isKey_45 rfl (by first | rfl | assumption) ?_
    refine x_iconst 2 dX7_isKey_46 (by decide) ?_
    refine x_isub dX7_isKey_47 ?_
    refine x_icmp_ge 72 dX7_isKey_48 (by decide) (fun c48 => ?_) (fun c48 => ?_)
    · exact h72f hz _
    · refine x_iload_n 3 dX7_isKey_51 rfl (by first | rfl | assumption) ?_
      refine x_if_eq 72 dX7_isKey_52 (by decide) (fun _ => ?_) (fun z => absurd (show z_b false = 0 from rfl) z)
      exact h72f hz _
  refine q_enter (M := mX7_isKey) (by decide +kernel) rfl (Nat.le_of_ble_eq_true rfl) ?_
  refine x_iload_n 2 dX7_isKey_0 rfl (by first | rfl | assumption) ?_
  refine x_iload_n 1 dX7_isKey_1 rfl (by first | rfl | assumption) ?_
  refine x_isub dX7_isKey_2 ?_
  refine x_bipush 24 dX7_isKey_3 (by decide) ?_
  rw [es]
  by_cases h24 : e = s + 24
  · refine x_icmp_ne 38 dX7_isKey_5 (by decide) (fun z => absurd (by rw [h24, show s + 24 - s = 24 by omega]; rfl) z) (fun _ => ?_)
    have s1 : nI e - 1 = nI (e - 1) := pk_sub (b := 1) (by omega)
    have s2 : nI e - 2 = nI (e - 2) := pk_sub (b := 2) (by omega)
    have s3 : nI e - 3 = nI (e - 3) := pk_sub (b := 3) (by omega)
    have u1 : vp_in (nI e - 1) 400 := by rw [s1]; exact vp_in_nI (by omega) (by omega)
    have u2 : vp_in (nI e - 2) 400 := by rw [s2]; exact vp_in_nI (by omega) (by omega)
    have u3 : vp_in (nI e - 3) 400 := by rw [s3]; exact vp_in_nI (by omega) (by omega)
    have ez : z_key l s e = ((decide (l.getD (e - 2) 0 = 61) && (decide (l.getD (e - 1) 0 = 61) && true)) && (z_all64 l 22 s && z_agw (l.getD (e - 3) 0))) := by
      unfold z_key
      rw [decide_eq_true h24, Bool.true_and, show e - 1 = s + 22 + 1 by omega, show e - 2 = s + 22 by omega, show e - 3 = s + 21 by omega]
      rfl
    refine x_aload_n 0 dX7_isKey_8 rfl (by first | rfl | assumption) ?_
    refine gf_X7_isKey_7 dX7_isKey_9 hm.1 (congrArg some hm.r3) ?_
    refine x_iload_n 2 dX7_isKey_12 rfl (by first | rfl | assumption) ?_
    refine x_iconst 1 dX7_isKey_13 (by decide) ?_
    refine x_isub dX7_isKey_14 ?_
    refine x_iald dX7_isKey_15 (by first | exact hm.a1 | exact hm.a2 | exact hm.a3 | exact hm.a4 | exact hm.a5 | exact hm.a6 | exact hm.a7 | exact hm.a8 | exact hm.a9 | exact hm.a10 | exact hm.a11 | exact hm.a12 | exact hm.a13 | exact hm.a14 | exact hm.a15) (by assumption) ?_
    refine x_bipush 61 dX7_isKey_16 (by decide) ?_
    rw [s1, m_get hl (by omega) hN]
    by_cases c1 : l.getD (e - 1) 0 = 61
    · refine x_icmp_ne 38 dX7_isKey_18 (by decide) (fun z => absurd c1 z) (fun _ => ?_)
      refine x_aload_n 0 dX7_isKey_21 rfl (by first | rfl | assumption) ?_
      refine gf_X7_isKey_7 dX7_isKey_22 hm.1 (congrArg some hm.r3) ?_
      refine x_iload_n 2 dX7_isKey_25 rfl (by first | rfl | assumption) ?_
      refine x_iconst 2 dX7_isKey_26 (by decide) ?_
      refine x_isub dX7_isKey_27 ?_
      refine x_iald dX7_isKey_28 (by first | exact hm.a1 | exact hm.a2 | exact hm.a3 | exact hm.a4 | exact hm.a5 | exact hm.a6 | exact hm.a7 | exact hm.a8 | exact hm.a9 | exact hm.a10 | exact hm.a11 | exact hm.a12 | exact hm.a13 | exact hm.a14 | exact hm.a15) (by assumption) ?_
      refine x_bipush 61 dX7_isKey_29 (by decide) ?_
      rw [s2, m_get hl (by omega) hN]
      by_cases c2 : l.getD (e - 2) 0 = 61
      · refine x_icmp_ne 38 dX7_isKey_31 (by decide) (fun z => absurd c2 z) (fun _ => ?_)
        refine x_iconst 1 dX7_isKey_34 (by decide) ?_
        refine x_goto 39 dX7_isKey_35 (by decide) ?_
        refine x_istore_n 3 dX7_isKey_39 rfl (by decide) rfl ?_
        refine x_iload_n 1 dX7_isKey_40 rfl (by first | rfl | assumption) ?_
        refine x_istore dX7_isKey_41 (by decide) rfl ?_
        rw [decide_eq_true c1, decide_eq_true c2] at ez
        replace ez : z_key l s e = (z_all64 l 22 s && z_agw (l.getD (e - 3) 0)) := ez
        have loop : ∀ (m k : Nat) (x : Int32) (b : Bool), x = nI k → k + m = e - 2 → (b && z_all64 l m k && z_agw (l.getD (e - 3) 0)) = z_key l s e → q_X G mX7_isKey (q_R mX7_isKey 0 0) (q_FN G (fun o h' => o = some (.int (z_b (z_key l s e))) ∧ h' = h) 0 0) 43 [(0, .ref (B 0)), (1, .int (nI s)), (2, .int (nI e)), (3, .int (z_b b)), (4, .int x)] [] h 0 0 := by
          intro m
          induction m with
          | zero =>
            intro k x b hx hk hz
            subst hx
            refine x_iload dX7_isKey_43 (by first | rfl | assumption) ?_
            refine x_iload_n 2 dX7_isKey_45 rfl (by first | rfl | assumption) ?_
            refine x_iconst 2 dX7_isKey_46 (by decide) ?_
            refine x_isub dX7_isKey_47 ?_
            rw [s2]
            refine x_icmp_ge 72 dX7_isKey_48 (by decide) (fun _ => ?_) (fun z => absurd (nI_le (by omega) (by omega)) z)
            cases b with
            | false => exact h72f (by rw [← hz]; rfl) _
            | true =>
              refine x_iload_n 3 dX7_isKey_72 rfl (by first | rfl | assumption) ?_
              refine x_if_eq 87 dX7_isKey_73 (by decide) (fun z => absurd z (show ¬ z_b true = 0 by decide)) (fun _ => ?_)
              refine x_aload_n 0 dX7_isKey_76 rfl (by first | rfl | assumption) ?_
              refine gf_X7_isKey_7 dX7_isKey_77 hm.1 (congrArg some hm.r3) ?_
              refine x_iload_n 2 dX7_isKey_80 rfl (by first | rfl | assumption) ?_
              refine x_iconst 3 dX7_isKey_81 (by decide) ?_
              refine x_isub dX7_isKey_82 ?_
              refine x_iald dX7_isKey_83 (by first | exact hm.a1 | exact hm.a2 | exact hm.a3 | exact hm.a4 | exact hm.a5 | exact hm.a6 | exact hm.a7 | exact hm.a8 | exact hm.a9 | exact hm.a10 | exact hm.a11 | exact hm.a12 | exact hm.a13 | exact hm.a14 | exact hm.a15) (by assumption) ?_
              rw [s3, m_get hl (by omega) hN]
              refine x_goto 88 dX7_isKey_84 (by decide) ?_
              refine x_istore dX7_isKey_88 (by decide) rfl ?_
              rw [← hz]
              exact fin _ _ (.int 0)
          | succ m ih =>
            intro k x b hx hk hz
            subst hx
            have v0 : vp_in (nI k) 400 := vp_in_nI (by omega) (by omega)
            refine x_iload dX7_isKey_43 (by first | rfl | assumption) ?_
            refine x_iload_n 2 dX7_isKey_45 rfl (by first | rfl | assumption) ?_
            refine x_iconst 2 dX7_isKey_46 (by decide) ?_
            refine x_isub dX7_isKey_47 ?_
            rw [s2]
            refine x_icmp_ge 72 dX7_isKey_48 (by decide) (fun z => absurd z (nI_ge (by omega) (by omega))) (fun _ => ?_)
            refine x_iload_n 3 dX7_isKey_51 rfl (by first | rfl | assumption) ?_
            cases b with
            | false =>
              refine x_if_eq 72 dX7_isKey_52 (by decide) (fun _ => ?_) (fun z => absurd (show z_b false = 0 from rfl) z)
              exact h72f (by rw [← hz]; rfl) _
            | true =>
              refine x_if_eq 72 dX7_isKey_52 (by decide) (fun z => absurd z (show ¬ z_b true = 0 by decide)) (fun _ => ?_)
              refine x_aload_n 0 dX7_isKey_55 rfl (by first | rfl | assumption) ?_
              refine gf_X7_isKey_7 dX7_isKey_56 hm.1 (congrArg some hm.r3) ?_
              refine x_iload dX7_isKey_59 (by first | rfl | assumption) ?_
              refine x_iald dX7_isKey_61 (by first | exact hm.a1 | exact hm.a2 | exact hm.a3 | exact hm.a4 | exact hm.a5 | exact hm.a6 | exact hm.a7 | exact hm.a8 | exact hm.a9 | exact hm.a10 | exact hm.a11 | exact hm.a12 | exact hm.a13 | exact hm.a14 | exact hm.a15) (by assumption) ?_
              rw [m_get hl (by omega) hN]
              refine cl_X7_isKey_62 (sm_isBase64 _) (Nat.le_of_ble_eq_true rfl) ⟨Nat.le_of_ble_eq_true rfl, Nat.le_of_ble_eq_true rfl⟩ (fun r g hq => ?_)
              obtain ⟨rfl, hg⟩ := hq
              rw [hg]
              refine x_istore_n 3 dX7_isKey_65 rfl (by decide) rfl ?_
              refine x_iinc 1 dX7_isKey_66 (by first | rfl | assumption) (by decide) (by decide) rfl ?_
              refine x_goto 43 dX7_isKey_69 (by decide) ?_
              refine ih (k + 1) _ _ (nI_1 k) (by omega) ?_
              rw [← hz]
              rfl
        exact loop 22 s _ true rfl (by omega) (by rw [ez]; rfl)
      · refine x_icmp_ne 38 dX7_isKey_31 (by decide) (fun _ => ?_) (fun z => absurd z c2)
        exact h38 (by rw [ez, decide_eq_false c2]; rfl)
    · refine x_icmp_ne 38 dX7_isKey_18 (by decide) (fun _ => ?_) (fun z => absurd z c1)
      exact h38 (by rw [ez, decide_eq_false c1, Bool.false_and, Bool.and_false, Bool.false_and])
  · refine x_icmp_ne 38 dX7_isKey_5 (by decide) (fun _ => ?_) (fun z => absurd z (fun z => h24 (by have := (nI_eq (a := e - s) (b := 24) (by omega) (by omega)).mp z; omega)))
    exact h38 (by unfold z_key; rw [decide_eq_false h24]; rfl)
end MdlG
