/-! the reference: take -/
section MdlZf
variable {G : q_G} {h0 h : q_H} {B : Nat → Nat} {V V' V0 : Nat → Value} {F F' : Nat → Nat → Int32} {l : List Int32} {st ec dl pg : Int32} {rq out dr : List Int32} {R R0 : z_R} {w : List z_Ms} {σ : z_S}
/-- message j as the rows show it -/
def m_rw (F : Nat → Nat → Int32) (j : Nat) (m : z_Ms) : Prop := F 10 j = m.1 ∧ F 11 j = nI m.2.length ∧ m.2.length ≤ 300 ∧ ∀ i, i < m.2.length → F 12 (300 * j + i) = m.2.getD i 0
theorem l_getD_tail {w : List z_Ms} {j : Nat} : w.tail.getD j (0, []) = w.getD (j + 1) (0, []) := by
  rw [List.getD_eq_getElem?_getD, List.getD_eq_getElem?_getD, List.getElem?_tail]
theorem sn_take (hm : k_m h0 h B V F) (hr : m_rel V F σ) : q_SP G mX7_take [.ref (B 0)] h 0 0 (m_ret h0 B (a_take σ)) := by
  obtain ⟨st, ec, dl, pg, rq, out, dr, R, w⟩ := σ
  have hr0 := hr
  obtain ⟨hr, hf⟩ := hr
  obtain ⟨f27, h4, hwt⟩ := hr.2.2.2.2.1
  dsimp only [a_take]
  refine q_enter (M := mX7_take) (by decide +kernel) rfl (Nat.le_of_ble_eq_true rfl) ?_
  refine x_aload_n 0 dX7_take_0 rfl (by first | rfl | assumption) ?_
  refine x_aload_n 0 dX7_take_1 rfl (by first | rfl | assumption) ?_
  refine gf_X7_take_326 dX7_take_2 hm.1 (congrArg some f27) ?_
  by_cases c0 : 0 < w.length
  · rw [if_pos c0]
    have n0 : ¬ nI w.length = 0 := nI_ne0 c0 (by omega)
    refine x_if_ne 12 dX7_take_5 (by decide) (fun _ => ?_) (fun z => absurd z n0)
    have u0 : vp_in 0 4 := by unfold vp_in; decide
    refine x_iconst 0 dX7_take_12 (by decide) ?_
    refine pf_X7_take_55 dX7_take_13 hm.1 (Nat.le_of_ble_eq_true rfl) ?_
    refine x_gm hm (fun gm hm f0 => ?_)
    refine x_aload_n 0 dX7_take_16 rfl (by first | rfl | assumption) ?_
    refine gf_X7_take_326 dX7_take_17 hm.1 (congrArg some f27) ?_
    refine x_if_ne 25 dX7_take_20 (by decide) (fun _ => ?_) (fun z => absurd z n0)
    refine x_aload_n 0 dX7_take_25 rfl (by first | rfl | assumption) ?_
    refine gf_X7_take_40 dX7_take_26 hm.1 (congrArg some hm.r29) ?_
    refine x_iconst 0 dX7_take_29 (by decide) ?_
    refine x_iald dX7_take_30 (by first | exact hm.a1 | exact hm.a2 | exact hm.a3 | exact hm.a4 | exact hm.a5 | exact hm.a6 | exact hm.a7 | exact hm.a8 | exact hm.a9 | exact hm.a10 | exact hm.a11 | exact hm.a12 | exact hm.a13 | exact hm.a14 | exact hm.a15) (by assumption) ?_
    refine x_istore_n 1 dX7_take_31 rfl (by decide) rfl ?_
    refine x_aload_n 0 dX7_take_32 rfl (by first | rfl | assumption) ?_
    refine x_dup dX7_take_33 rfl ?_
    refine gf_X7_take_326 dX7_take_34 hm.1 (congrArg some f27) ?_
    refine x_iconst 1 dX7_take_37 (by decide) ?_
    refine x_isub dX7_take_38 ?_
    refine pf_X7_take_326 dX7_take_39 hm.1 (Nat.le_of_ble_eq_true rfl) ?_
    refine x_gm hm (fun gm hm f27 => ?_)
    refine x_iconst 0 dX7_take_42 (by decide) ?_
    refine x_istore_n 2 dX7_take_43 rfl (by decide) rfl ?_
    rw [show (0 : Int32).toNatClampNeg = 0 from rfl, (hwt 0 c0).2.1]
    rw [show nI w.length - 1 = nI (w.length - 1) from pk_sub (b := 1) (by omega)] at hm
    generalize hV1 : m_u (m_u V 0 (Value.int 0)) 27 (Value.int (nI (w.length - 1))) = V1 at hm
    have f27 : V1 27 = .int (nI (w.length - 1)) := by rw [← hV1]; rfl
    generalize hv : nI (w.getD 0 (0, [])).2.length = v
    have outer : ∀ (m k : Nat) (x : Int32) (h1 : q_H) (F1 : Nat → Nat → Int32) (lv : List (Nat × Value)), x = nI k → k + m = w.length - 1 → k_m h0 h1 B V1 F1 → (∀ i, (i ≠ 10 ∧ i ≠ 11) ∧ i ≠ 12 → F1 i = F i) → (∀ j, j < k → m_rw F1 j (w.getD (j + 1) (0, []))) → (∀ j, k ≤ j → j < w.length → m_rw F1 j (w.getD j (0, []))) →
        q_X G mX7_take (q_R mX7_take 0 0) (q_FN G (m_ret h0 B (0, v, (st, ec, dl, pg, rq, out, dr, R, w.tail))) 0 0) 44 ([(0, .ref (B 0)), (1, .int v), (2, .int x)] ++ lv) [] h1 0 0 := by
      intro m
      induction m with
      | zero =>
        intro k x h1 F1 lv hx hk hm e i1 i2
        subst hx
        refine x_take 3 ?_
        refine x_iload_n 2 dX7_take_44 rfl (by first | rfl | assumption) ?_
        refine x_aload_n 0 dX7_take_45 rfl (by first | rfl | assumption) ?_
        refine gf_X7_take_326 dX7_take_46 hm.1 (congrArg some f27) ?_
        refine x_icmp_ge 132 dX7_take_49 (by decide) (fun _ => ?_) (fun z => absurd (nI_le (by omega) (by omega)) z)
        refine x_iload_n 1 dX7_take_132 rfl (by first | rfl | assumption) ?_
        refine x_iret rfl (by first | rfl | assumption | exact z_nb _) dX7_take_133 (by decide) (by decide) ?_
        have hlt : w.tail.length = w.length - 1 := List.length_tail
        subst hV1
        refine ⟨rfl, _, F1, hm, rfl, ?_, fun z => (hf z).cg (fun j h1 h2 => (m_un (by omega)).trans (m_un (by omega))) (fun i h1 h2 => e i (by omega))⟩
        refine ⟨hr.1, fun z => ⟨(hr.2.1 z).1, by rw [e 1 (by decide)]; exact (hr.2.1 z).2⟩, ⟨hr.2.2.1.1, by rw [e 5 (by decide)]; exact hr.2.2.1.2⟩, ⟨hr.2.2.2.1.1, by rw [e 6 (by decide)]; exact hr.2.2.2.1.2⟩, ⟨by rw [hlt]; rfl, by omega, fun j hj => ?_⟩, hr.2.2.2.2.2.1, hr.2.2.2.2.2.2⟩
        rw [l_getD_tail]
        exact i1 j (by omega)
      | succ m ih =>
        intro k x h1 F1 lv hx hk hm e i1 i2
        subst hx
        refine x_take 3 ?_
        have e1 : nI k + 1 = nI (k + 1) := nI_1 k
        have v1 : vp_in (nI k) 4 := vp_in_nI (by omega) (by omega)
        have v2 : vp_in (nI k + 1) 4 := by rw [e1]; exact vp_in_nI (by omega) (by omega)
        obtain ⟨y1, y2, y3, y4⟩ := i2 (k + 1) (by omega) (by omega)
        refine x_iload_n 2 dX7_take_44 rfl (by first | rfl | assumption) ?_
        refine x_aload_n 0 dX7_take_45 rfl (by first | rfl | assumption) ?_
        refine gf_X7_take_326 dX7_take_46 hm.1 (congrArg some f27) ?_
        refine x_icmp_ge 132 dX7_take_49 (by decide) (fun z => absurd z (nI_ge (by omega) (by omega))) (fun _ => ?_)
        refine x_aload_n 0 dX7_take_52 rfl (by first | rfl | assumption) ?_
        refine gf_X7_take_37 dX7_take_53 hm.1 (congrArg some hm.r28) ?_
        refine x_iload_n 2 dX7_take_56 rfl (by first | rfl | assumption) ?_
        refine x_aload_n 0 dX7_take_57 rfl (by first | rfl | assumption) ?_
        refine gf_X7_take_37 dX7_take_58 hm.1 (congrArg some hm.r28) ?_
        refine x_iload_n 2 dX7_take_61 rfl (by first | rfl | assumption) ?_
        refine x_iconst 1 dX7_take_62 (by decide) ?_
        refine x_iadd dX7_take_63 ?_
        refine x_iald dX7_take_64 (by first | exact hm.a1 | exact hm.a2 | exact hm.a3 | exact hm.a4 | exact hm.a5 | exact hm.a6 | exact hm.a7 | exact hm.a8 | exact hm.a9 | exact hm.a10 | exact hm.a11 | exact hm.a12 | exact hm.a13 | exact hm.a14 | exact hm.a15) (by assumption) ?_
        refine x_iast dX7_take_65 (by first | exact hm.a1 | exact hm.a2 | exact hm.a3 | exact hm.a4 | exact hm.a5 | exact hm.a6 | exact hm.a7 | exact hm.a8 | exact hm.a9 | exact hm.a10 | exact hm.a11 | exact hm.a12 | exact hm.a13 | exact hm.a14 | exact hm.a15) (by assumption) ?_
        refine x_ga hm (by decide) rfl (fun gm hm => ?_)
        rw [e1, nI_clamp (by omega), nI_clamp (by omega), y1] at hm
        refine x_aload_n 0 dX7_take_66 rfl (by first | rfl | assumption) ?_
        refine gf_X7_take_40 dX7_take_67 hm.1 (congrArg some hm.r29) ?_
        refine x_iload_n 2 dX7_take_70 rfl (by first | rfl | assumption) ?_
        refine x_aload_n 0 dX7_take_71 rfl (by first | rfl | assumption) ?_
        refine gf_X7_take_40 dX7_take_72 hm.1 (congrArg some hm.r29) ?_
        refine x_iload_n 2 dX7_take_75 rfl (by first | rfl | assumption) ?_
        refine x_iconst 1 dX7_take_76 (by decide) ?_
        refine x_iadd dX7_take_77 ?_
        refine x_iald dX7_take_78 (by first | exact hm.a1 | exact hm.a2 | exact hm.a3 | exact hm.a4 | exact hm.a5 | exact hm.a6 | exact hm.a7 | exact hm.a8 | exact hm.a9 | exact hm.a10 | exact hm.a11 | exact hm.a12 | exact hm.a13 | exact hm.a14 | exact hm.a15) (by assumption) ?_
        refine x_iast dX7_take_79 (by first | exact hm.a1 | exact hm.a2 | exact hm.a3 | exact hm.a4 | exact hm.a5 | exact hm.a6 | exact hm.a7 | exact hm.a8 | exact hm.a9 | exact hm.a10 | exact hm.a11 | exact hm.a12 | exact hm.a13 | exact hm.a14 | exact hm.a15) (by assumption) ?_
        refine x_ga hm (by decide) rfl (fun gm hm => ?_)
        refine x_iconst 0 dX7_take_80 (by decide) ?_
        refine x_istore_n 3 dX7_take_81 rfl (by decide) rfl ?_
        rw [e1, nI_clamp (by omega), nI_clamp (by omega), show m_u F1 10 (upd (F1 10) k (w.getD (k + 1) (0, [])).1) 11 (k + 1) = F1 11 (k + 1) from rfl, y2] at hm
        generalize hF2 : m_u (m_u F1 10 (upd (F1 10) k (w.getD (k + 1) (0, [])).1)) 11 (upd (m_u F1 10 (upd (F1 10) k (w.getD (k + 1) (0, [])).1) 11) k (nI (w.getD (k + 1) (0, [])).2.length)) = F2 at hm
        have g10 : F2 10 = upd (F1 10) k (w.getD (k + 1) (0, [])).1 := by rw [← hF2]; rfl
        have g11 : F2 11 = upd (F1 11) k (nI (w.getD (k + 1) (0, [])).2.length) := by rw [← hF2]; rfl
        have g12 : F2 12 = F1 12 := by rw [← hF2]; rfl
        have e2 : ∀ i, (i ≠ 10 ∧ i ≠ 11) ∧ i ≠ 12 → F2 i = F i := fun i hi => by
          rw [← hF2, m_un hi.1.2, m_un hi.1.1]; exact e i hi
        generalize hL : (w.getD (k + 1) (0, [])).2.length = L at *
        have inner : ∀ (m2 i : Nat) (x2 : Int32) (h2 : q_H) (F3 : Nat → Nat → Int32), x2 = nI i → i + m2 = L → k_m h0 h2 B V1 F3 → (∀ q, q ≠ 12 → F3 q = F2 q) → (∀ q, q < i → F3 12 (300 * k + q) = (w.getD (k + 1) (0, [])).2.getD q 0) → (∀ q, q < 300 * k ∨ 300 * k + 300 ≤ q → F3 12 q = F1 12 q) →
            q_X G mX7_take (q_R mX7_take 0 0) (q_FN G (m_ret h0 B (0, v, (st, ec, dl, pg, rq, out, dr, R, w.tail))) 0 0) 82 [(0, .ref (B 0)), (1, .int v), (2, .int (nI k)), (3, .int x2)] [] h2 0 0 := by
          intro m2
          induction m2 with
          | zero =>
            intro i x2 h2 F3 hx hi hm a1 a2 a3
            subst hx
            refine x_iload_n 3 dX7_take_82 rfl (by first | rfl | assumption) ?_
            refine x_aload_n 0 dX7_take_83 rfl (by first | rfl | assumption) ?_
            refine gf_X7_take_40 dX7_take_84 hm.1 (congrArg some hm.r29) ?_
            refine x_iload_n 2 dX7_take_87 rfl (by first | rfl | assumption) ?_
            refine x_iald dX7_take_88 (by first | exact hm.a1 | exact hm.a2 | exact hm.a3 | exact hm.a4 | exact hm.a5 | exact hm.a6 | exact hm.a7 | exact hm.a8 | exact hm.a9 | exact hm.a10 | exact hm.a11 | exact hm.a12 | exact hm.a13 | exact hm.a14 | exact hm.a15) (by assumption) ?_
            rw [nI_clamp (by omega), a1 11 (by decide), g11, pk_us]
            refine x_icmp_ge 126 dX7_take_89 (by decide) (fun _ => ?_) (fun z => absurd (nI_le (by omega) (by omega)) z)
            refine x_iinc 1 dX7_take_126 (by first | rfl | assumption) (by decide) (by decide) rfl ?_
            refine x_goto 44 dX7_take_129 (by decide) ?_
            refine ih (k + 1) _ _ F3 [(3, .int (nI i))] (nI_1 k) (by omega) hm (fun q hq => (a1 q hq.2).trans (e2 q hq)) (fun j hj => ?_) (fun j h1 h2 => ?_)
            · by_cases hjk : j = k
              · subst hjk
                unfold m_rw
                rw [a1 10 (by decide), a1 11 (by decide), g10, g11, pk_us, pk_us, hL]
                exact ⟨rfl, rfl, y3, fun q hq => a2 q (by omega)⟩
              · obtain ⟨z1, z2, z3, z4⟩ := i1 j (by omega)
                unfold m_rw
                rw [a1 10 (by decide), a1 11 (by decide), g10, g11, pk_un hjk, pk_un hjk]
                exact ⟨z1, z2, z3, fun q hq => by rw [a3 _ (by omega)]; exact z4 q hq⟩
            · obtain ⟨z1, z2, z3, z4⟩ := i2 j (by omega) h2
              unfold m_rw
              rw [a1 10 (by decide), a1 11 (by decide), g10, g11, pk_un (by omega), pk_un (by omega)]
              exact ⟨z1, z2, z3, fun q hq => by rw [a3 _ (by omega)]; exact z4 q hq⟩
          | succ m2 ih2 =>
            intro i x2 h2 F3 hx hi hm a1 a2 a3
            subst hx
            have e3 : 300 * nI k + nI i = nI (300 * k + i) := by
              rw [show (300 : Int32) = nI 300 from rfl, pk_mul, nI_add]
            have e4 : 300 * nI k + 300 + nI i = nI (300 * k + 300 + i) := by
              rw [show (300 : Int32) = nI 300 from rfl, pk_mul, nI_add, nI_add]
            have v3 : vp_in (300 * nI k + nI i) 1200 := by rw [e3]; exact vp_in_nI (by omega) (by omega)
            have v4 : vp_in (300 * nI k + 300 + nI i) 1200 := by rw [e4]; exact vp_in_nI (by omega) (by omega)
            refine x_iload_n 3 dX7_take_82 rfl (by first | rfl | assumption) ?_
            refine x_aload_n 0 dX7_take_83 rfl (by first | rfl | assumption) ?_
            refine gf_X7_take_40 dX7_take_84 hm.1 (congrArg some hm.r29) ?_
            refine x_iload_n 2 dX7_take_87 rfl (by first | rfl | assumption) ?_
            refine x_iald dX7_take_88 (by first | exact hm.a1 | exact hm.a2 | exact hm.a3 | exact hm.a4 | exact hm.a5 | exact hm.a6 | exact hm.a7 | exact hm.a8 | exact hm.a9 | exact hm.a10 | exact hm.a11 | exact hm.a12 | exact hm.a13 | exact hm.a14 | exact hm.a15) (by assumption) ?_
            rw [nI_clamp (by omega), a1 11 (by decide), g11, pk_us]
            refine x_icmp_ge 126 dX7_take_89 (by decide) (fun z => absurd z (nI_ge (by omega) (by omega))) (fun _ => ?_)
            refine x_aload_n 0 dX7_take_92 rfl (by first | rfl | assumption) ?_
            refine gf_X7_take_43 dX7_take_93 hm.1 (congrArg some hm.r30) ?_
            refine x_sipush 300 dX7_take_96 (by decide) ?_
            refine x_iload_n 2 dX7_take_99 rfl (by first | rfl | assumption) ?_
            refine x_imul dX7_take_100 ?_
            refine x_iload_n 3 dX7_take_101 rfl (by first | rfl | assumption) ?_
            refine x_iadd dX7_take_102 ?_
            refine x_aload_n 0 dX7_take_103 rfl (by first | rfl | assumption) ?_
            refine gf_X7_take_43 dX7_take_104 hm.1 (congrArg some hm.r30) ?_
            refine x_sipush 300 dX7_take_107 (by decide) ?_
            refine x_iload_n 2 dX7_take_110 rfl (by first | rfl | assumption) ?_
            refine x_imul dX7_take_111 ?_
            refine x_sipush 300 dX7_take_112 (by decide) ?_
            refine x_iadd dX7_take_115 ?_
            refine x_iload_n 3 dX7_take_116 rfl (by first | rfl | assumption) ?_
            refine x_iadd dX7_take_117 ?_
            refine x_iald dX7_take_118 (by first | exact hm.a1 | exact hm.a2 | exact hm.a3 | exact hm.a4 | exact hm.a5 | exact hm.a6 | exact hm.a7 | exact hm.a8 | exact hm.a9 | exact hm.a10 | exact hm.a11 | exact hm.a12 | exact hm.a13 | exact hm.a14 | exact hm.a15) (by assumption) ?_
            refine x_iast dX7_take_119 (by first | exact hm.a1 | exact hm.a2 | exact hm.a3 | exact hm.a4 | exact hm.a5 | exact hm.a6 | exact hm.a7 | exact hm.a8 | exact hm.a9 | exact hm.a10 | exact hm.a11 | exact hm.a12 | exact hm.a13 | exact hm.a14 | exact hm.a15) (by assumption) ?_
            refine x_ga hm (by decide) rfl (fun gm hm => ?_)
            refine x_iinc 1 dX7_take_120 (by first | rfl | assumption) (by decide) (by decide) rfl ?_
            refine x_goto 82 dX7_take_123 (by decide) ?_
            rw [e3, e4, nI_clamp (by omega), nI_clamp (by omega), a3 (300 * k + 300 + i) (by omega), show 300 * k + 300 + i = 300 * (k + 1) + i by omega, y4 i (by omega)] at hm
            refine ih2 (i + 1) _ _ _ (nI_1 i) (by omega) hm (fun q hq => (m_un hq).trans (a1 q hq)) (fun q hq => ?_) (fun q hq => ?_)
            · show upd (F3 12) _ _ _ = _
              by_cases hqi : q = i
              · rw [hqi, pk_us]
              · rw [pk_un (by omega)]; exact a2 q (by omega)
            · show upd (F3 12) _ _ _ = _
              rw [pk_un (by omega)]
              exact a3 q hq
        exact inner L 0 _ _ F2 rfl (by omega) hm (fun _ _ => rfl) (fun q hq => absurd hq (Nat.not_lt_zero q)) (fun q _ => by rw [g12])
    exact outer (w.length - 1) 0 _ _ F [] rfl (by omega) hm (fun _ _ => rfl) (fun j hj => absurd hj (Nat.not_lt_zero j)) (fun j _ hj => hwt j hj)
  · rw [if_neg c0]
    have z0 : nI w.length = 0 := by rw [show w.length = 0 by omega]; rfl
    refine x_if_ne 12 dX7_take_5 (by decide) (fun z => absurd z0 z) (fun _ => ?_)
    refine x_iconst 1 dX7_take_8 (by decide) ?_
    refine x_goto 13 dX7_take_9 (by decide) ?_
    refine pf_X7_take_55 dX7_take_13 hm.1 (Nat.le_of_ble_eq_true rfl) ?_
    refine x_gm hm (fun gm hm f0 => ?_)
    refine x_aload_n 0 dX7_take_16 rfl (by first | rfl | assumption) ?_
    refine gf_X7_take_326 dX7_take_17 hm.1 (congrArg some f27) ?_
    refine x_if_ne 25 dX7_take_20 (by decide) (fun z => absurd z0 z) (fun _ => ?_)
    refine x_iconst 0 dX7_take_23 (by decide) ?_
    refine x_iret rfl (by first | rfl | assumption | exact z_nb _) dX7_take_24 (by decide) (by decide) ?_
    exact ⟨rfl, _, _, hm, rfl, hr0.v0⟩
end MdlZf
