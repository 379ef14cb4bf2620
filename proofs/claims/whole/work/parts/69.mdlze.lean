/-! the reference: drop, write, ping, close -/
section MdlZe
variable {G : q_G} {h0 h : q_H} {B : Nat → Nat} {V V' V0 : Nat → Value} {F F' : Nat → Nat → Int32} {l : List Int32} {st ec dl pg : Int32} {rq out dr : List Int32} {R R0 : z_R} {w : List z_Ms} {σ : z_S}
theorem l_getD_drop {l : List Int32} {n j : Nat} : (l.drop n).getD j 0 = l.getD (n + j) 0 := by
  rw [List.getD_eq_getElem?_getD, List.getD_eq_getElem?_getD, List.getElem?_drop]
theorem sn_drop (hm : k_m h0 h B V F) (hr : m_rel V F σ) (n : Int32) : q_SP G mX7_drop [.ref (B 0), .int n] h 0 0 (m_retb h0 B (a_drop σ n)) := by
  have hr := hr.v0 (v := .int 0)
  obtain ⟨st, ec, dl, pg, rq, out, dr, R, w⟩ := σ
  have hr0 := hr
  obtain ⟨hr, hf⟩ := hr
  obtain ⟨f9, hl⟩ := hr.2.2.1
  have hN := hr.2.2.2.2.2.2.1
  dsimp only [a_drop]
  refine q_enter (M := mX7_drop) (by decide +kernel) rfl (Nat.le_of_ble_eq_true rfl) ?_
  refine x_aload_n 0 dX7_drop_0 rfl (by first | rfl | assumption) ?_
  refine x_iconst 0 dX7_drop_1 (by decide) ?_
  refine pf_X7_drop_55 dX7_drop_2 hm.1 (Nat.le_of_ble_eq_true rfl) ?_
  refine x_gm hm (fun gm hm f0 => ?_)
  generalize m_u V 0 (Value.int 0) = V at hm hr hf hr0 f9 f0
  have h17 : t_mayDrop out.length n = false → q_X G mX7_drop (q_R mX7_drop 0 0) (q_FN G (m_retb h0 B (if t_mayDrop out.length n = true then (true, (st, ec, dl, pg, rq, out.drop n.toNatClampNeg, dr, R, w)) else (false, (st, ec, dl, pg, rq, out, dr, R, w)))) 0 0) 17 [(0, .ref (B 0)), (1, .int n)] [] gm 0 0 := by
    intro hc
    rw [hc, if_neg (by decide)]
    refine x_iconst 0 dX7_drop_17 (by decide) ?_
    refine x_iret rfl (z_nb false) dX7_drop_18 (by decide) (by decide) ?_
    exact ⟨rfl, _, _, hm, f0, hr0⟩
  refine x_iload_n 1 dX7_drop_5 rfl (by first | rfl | assumption) ?_
  by_cases d1 : n < 0
  · refine x_if_lt 17 dX7_drop_6 (by decide) (fun _ => ?_) (fun z => absurd d1 z)
    exact h17 (by unfold t_mayDrop; rw [decide_eq_true d1]; rfl)
  · refine x_if_lt 17 dX7_drop_6 (by decide) (fun z => absurd z d1) (fun _ => ?_)
    refine x_iload_n 1 dX7_drop_9 rfl (by first | rfl | assumption) ?_
    refine x_aload_n 0 dX7_drop_10 rfl (by first | rfl | assumption) ?_
    refine gf_X7_drop_59 dX7_drop_11 hm.1 (congrArg some f9) ?_
    by_cases d2 : n ≤ nI out.length
    · refine x_icmp_le 19 dX7_drop_14 (by decide) (fun _ => ?_) (fun z => absurd d2 z)
      obtain ⟨N, hN1, rfl⟩ := nI_of2 (x := n) (M := nI out.length) (n := out.length) (nI_toInt (by omega)) d1 d2
      rw [show t_mayDrop out.length (nI N) = true by unfold t_mayDrop; rw [decide_eq_false d1, decide_eq_true d2]; rfl, if_pos rfl, nI_clamp (by omega)]
      refine x_aload_n 0 dX7_drop_19 rfl (by first | rfl | assumption) ?_
      refine x_aload_n 0 dX7_drop_20 rfl (by first | rfl | assumption) ?_
      refine gf_X7_drop_59 dX7_drop_21 hm.1 (congrArg some f9) ?_
      refine x_iload_n 1 dX7_drop_24 rfl (by first | rfl | assumption) ?_
      refine x_isub dX7_drop_25 ?_
      refine pf_X7_drop_59 dX7_drop_26 hm.1 (Nat.le_of_ble_eq_true rfl) ?_
      refine x_gm hm (fun gm hm f9 => ?_)
      refine x_iconst 0 dX7_drop_29 (by decide) ?_
      refine x_istore_n 2 dX7_drop_30 rfl (by decide) rfl ?_
      rw [pk_sub hN1] at hm f9
      have loop : ∀ (m k : Nat) (x : Int32) (h1 : q_H) (f : Nat → Int32), x = nI k → k + m = out.length - N → k_m h0 h1 B (m_u V 9 (.int (nI (out.length - N)))) (m_u F 5 f) → (∀ j, j < k → f j = out.getD (N + j) 0) → (∀ j, k ≤ j → j < out.length → f j = out.getD j 0) →
          q_X G mX7_drop (q_R mX7_drop 0 0) (q_FN G (m_retb h0 B (true, (st, ec, dl, pg, rq, out.drop N, dr, R, w))) 0 0) 31 [(0, .ref (B 0)), (1, .int (nI N)), (2, .int x)] [] h1 0 0 := by
        intro m
        induction m with
        | zero =>
          intro k x h1 f hx hk hm i1 i2
          subst hx
          refine x_iload_n 2 dX7_drop_31 rfl (by first | rfl | assumption) ?_
          refine x_aload_n 0 dX7_drop_32 rfl (by first | rfl | assumption) ?_
          refine gf_X7_drop_59 dX7_drop_33 hm.1 (congrArg some f9) ?_
          refine x_icmp_ge 59 dX7_drop_36 (by decide) (fun _ => ?_) (fun z => absurd (nI_le (by omega) (by omega)) z)
          refine x_iconst 1 dX7_drop_59 (by decide) ?_
          refine x_iret rfl (z_nb true) dX7_drop_60 (by decide) (by decide) ?_
          refine ⟨rfl, _, _, hm, f0, ⟨hr.1, fun z => hr.2.1 z, ⟨by rw [List.length_drop]; rfl, fun j hj => ?_⟩, hr.2.2.2.1, hr.2.2.2.2.1, hr.2.2.2.2.2.1, by rw [List.length_drop]; omega, hr.2.2.2.2.2.2.2⟩, fun z => (hf z).cg (fun j h1 h2 => m_un (by omega)) (fun i h1 h2 => m_un (by omega))⟩
          rw [List.length_drop] at hj
          rw [l_getD_drop]
          exact i1 j (by omega)
        | succ m ih =>
          intro k x h1 f hx hk hm i1 i2
          subst hx
          have e1 : nI k + nI N = nI (k + N) := nI_add _ _
          have v1 : vp_in (nI k) 800 := vp_in_nI (by omega) (by omega)
          have v2 : vp_in (nI k + nI N) 800 := by rw [e1]; exact vp_in_nI (by omega) (by omega)
          refine x_iload_n 2 dX7_drop_31 rfl (by first | rfl | assumption) ?_
          refine x_aload_n 0 dX7_drop_32 rfl (by first | rfl | assumption) ?_
          refine gf_X7_drop_59 dX7_drop_33 hm.1 (congrArg some f9) ?_
          refine x_icmp_ge 59 dX7_drop_36 (by decide) (fun z => absurd z (nI_ge (by omega) (by omega))) (fun _ => ?_)
          refine x_aload_n 0 dX7_drop_39 rfl (by first | rfl | assumption) ?_
          refine gf_X7_drop_22 dX7_drop_40 hm.1 (congrArg some hm.r8) ?_
          refine x_iload_n 2 dX7_drop_43 rfl (by first | rfl | assumption) ?_
          refine x_aload_n 0 dX7_drop_44 rfl (by first | rfl | assumption) ?_
          refine gf_X7_drop_22 dX7_drop_45 hm.1 (congrArg some hm.r8) ?_
          refine x_iload_n 2 dX7_drop_48 rfl (by first | rfl | assumption) ?_
          refine x_iload_n 1 dX7_drop_49 rfl (by first | rfl | assumption) ?_
          refine x_iadd dX7_drop_50 ?_
          refine x_iald dX7_drop_51 (by first | exact hm.a1 | exact hm.a2 | exact hm.a3 | exact hm.a4 | exact hm.a5 | exact hm.a6 | exact hm.a7 | exact hm.a8 | exact hm.a9 | exact hm.a10 | exact hm.a11 | exact hm.a12 | exact hm.a13 | exact hm.a14 | exact hm.a15) (by assumption) ?_
          refine x_iast dX7_drop_52 (by first | exact hm.a1 | exact hm.a2 | exact hm.a3 | exact hm.a4 | exact hm.a5 | exact hm.a6 | exact hm.a7 | exact hm.a8 | exact hm.a9 | exact hm.a10 | exact hm.a11 | exact hm.a12 | exact hm.a13 | exact hm.a14 | exact hm.a15) (by assumption) ?_
          refine x_ga hm (by decide) rfl (fun gm hm => ?_)
          refine x_iinc 1 dX7_drop_53 (by first | rfl | assumption) (by decide) (by decide) rfl ?_
          refine x_goto 31 dX7_drop_56 (by decide) ?_
          rw [e1, nI_clamp (by omega), nI_clamp (by omega), m_uu, show (m_u F 5 f) 5 = f from rfl, i2 (k + N) (by omega) (by omega)] at hm
          refine ih (k + 1) _ _ _ (nI_1 k) (by omega) hm (fun j hj => ?_) (fun j h1 h2 => ?_)
          · by_cases hjk : j = k
            · rw [hjk, pk_us, Nat.add_comm]
            · rw [pk_un hjk]; exact i1 j (by omega)
          · rw [pk_un (by omega)]; exact i2 j (by omega) h2
      refine loop (out.length - N) 0 _ _ (F 5) rfl (by omega) ?_ (fun j hj => absurd hj (Nat.not_lt_zero j)) (fun j _ hj => hl j hj)
      rw [m_uself]
      exact hm
    · refine x_icmp_le 19 dX7_drop_14 (by decide) (fun z => absurd z d2) (fun _ => ?_)
      exact h17 (by unfold t_mayDrop; rw [decide_eq_false d2, Bool.and_false])
theorem sn_write (hm : k_m h0 h B V F) (hr : m_rel V F σ) (W : Int64) (n : Int32) : q_SP G mX7_write [.ref (B 0), .long W, .int n] h 0 0 (m_retb h0 B (a_write σ W n)) := by
  have hr := hr.v0 (v := .int 0)
  obtain ⟨st, ec, dl, pg, rq, out, dr, R, w⟩ := σ
  have hr0 := hr
  obtain ⟨hr, hf⟩ := hr
  obtain ⟨f11, hl⟩ := hr.2.2.2.1
  have hN := hr.2.2.2.2.2.2.2
  dsimp only [a_write]
  refine q_enter (M := mX7_write) (by decide +kernel) rfl (Nat.le_of_ble_eq_true rfl) ?_
  refine x_aload_n 0 dX7_write_0 rfl (by first | rfl | assumption) ?_
  refine x_iconst 0 dX7_write_1 (by decide) ?_
  refine pf_X7_write_55 dX7_write_2 hm.1 (Nat.le_of_ble_eq_true rfl) ?_
  refine x_gm hm (fun gm hm f0 => ?_)
  generalize m_u V 0 (Value.int 0) = V at hm hr hf hr0 f11 f0
  have h27 : ¬ (t_cnt n = true ∧ dr.length + n.toNatClampNeg ≤ 100) → q_X G mX7_write (q_R mX7_write 0 0) (q_FN G (m_retb h0 B (if t_cnt n = true ∧ dr.length + n.toNatClampNeg ≤ 100 then (true, (st, ec, dl, pg, rq, out, dr ++ t_bytes W n.toNatClampNeg, R, w)) else (false, (st, ec, dl, pg, rq, out, dr, R, w)))) 0 0) 27 [(0, .ref (B 0)), (1, .long W), (3, .int n)] [] gm 0 0 := by
    intro hc
    rw [if_neg hc]
    refine x_iconst 0 dX7_write_27 (by decide) ?_
    refine x_iret rfl (z_nb false) dX7_write_28 (by decide) (by decide) ?_
    exact ⟨rfl, _, _, hm, f0, hr0⟩
  refine x_iload_n 3 dX7_write_5 rfl (by first | rfl | assumption) ?_
  refine x_iconst 1 dX7_write_6 (by decide) ?_
  by_cases d1 : n < 1
  · refine x_icmp_lt 27 dX7_write_7 (by decide) (fun _ => ?_) (fun z => absurd d1 z)
    exact h27 (fun z => by have := z.1; unfold t_cnt at this; rw [decide_eq_true d1] at this; cases this)
  · refine x_icmp_lt 27 dX7_write_7 (by decide) (fun z => absurd z d1) (fun _ => ?_)
    refine x_iload_n 3 dX7_write_10 rfl (by first | rfl | assumption) ?_
    refine x_bipush 8 dX7_write_11 (by decide) ?_
    by_cases d2 : 8 < n
    · refine x_icmp_gt 27 dX7_write_13 (by decide) (fun _ => ?_) (fun z => absurd d2 z)
      exact h27 (fun z => by have := z.1; unfold t_cnt at this; rw [decide_eq_true d2, Bool.not_true, Bool.and_false] at this; cases this)
    · refine x_icmp_gt 27 dX7_write_13 (by decide) (fun z => absurd z d2) (fun _ => ?_)
      obtain ⟨N, hN1, rfl⟩ := nI_of2 (x := n) (M := 8) (n := 8) rfl (by rw [i32_lt] at d1 ⊢; have a1 : (1 : Int32).toInt = 1 := rfl; have a2 : (0 : Int32).toInt = 0 := rfl; omega) (Int32.not_lt.mp d2)
      rw [nI_clamp (by omega)] at h27 ⊢
      refine x_aload_n 0 dX7_write_16 rfl (by first | rfl | assumption) ?_
      refine gf_X7_write_84 dX7_write_17 hm.1 (congrArg some f11) ?_
      refine x_iload_n 3 dX7_write_20 rfl (by first | rfl | assumption) ?_
      refine x_iadd dX7_write_21 ?_
      refine x_bipush 100 dX7_write_22 (by decide) ?_
      rw [nI_add]
      by_cases d3 : dr.length + N ≤ 100
      · refine x_icmp_le 29 dX7_write_24 (by decide) (fun _ => ?_) (fun z => absurd (nI_le (b := 100) d3 (by omega)) z)
        rw [if_pos ⟨by unfold t_cnt; rw [decide_eq_false d1, decide_eq_false d2]; rfl, d3⟩]
        refine x_iconst 0 dX7_write_29 (by decide) ?_
        refine x_istore dX7_write_30 (by decide) rfl ?_
        have loop : ∀ (m k : Nat) (x : Int32) (h1 : q_H) (f : Nat → Int32), x = nI k → k + m = N → k_m h0 h1 B (m_u V 11 (.int (nI (dr ++ t_bytes W k).length))) (m_u F 6 f) → m_l f (dr ++ t_bytes W k) →
            q_X G mX7_write (q_R mX7_write 0 0) (q_FN G (m_retb h0 B (true, (st, ec, dl, pg, rq, out, dr ++ t_bytes W N, R, w))) 0 0) 32 [(0, .ref (B 0)), (1, .long W), (3, .int (nI N)), (4, .int x)] [] h1 0 0 := by
          intro m
          induction m with
          | zero =>
            intro k x h1 f hx hk hm i1
            have hk : k = N := hk
            subst hx
            refine x_iload dX7_write_32 (by first | rfl | assumption) ?_
            refine x_iload_n 3 dX7_write_34 rfl (by first | rfl | assumption) ?_
            refine x_icmp_ge 75 dX7_write_35 (by decide) (fun _ => ?_) (fun z => absurd (nI_le (by omega) (by omega)) z)
            refine x_iconst 1 dX7_write_75 (by decide) ?_
            refine x_iret rfl (z_nb true) dX7_write_76 (by decide) (by decide) ?_
            subst hk
            refine ⟨rfl, _, _, hm, f0, ⟨hr.1, fun z => hr.2.1 z, hr.2.2.1, ⟨rfl, i1⟩, hr.2.2.2.2.1, hr.2.2.2.2.2.1, hr.2.2.2.2.2.2.1, by rw [List.length_append, t_bytes_len]; omega⟩, fun z => (hf z).cg (fun j h1 h2 => m_un (by omega)) (fun i h1 h2 => m_un (by omega))⟩
          | succ m ih =>
            intro k x h1 f hx hk hm i1
            subst hx
            have hlen : (dr ++ t_bytes W k).length = dr.length + k := by rw [List.length_append, t_bytes_len]
            have v1 : vp_in (nI (dr ++ t_bytes W k).length) 100 := vp_in_nI (by omega) (by omega)
            have f11 : (m_u V 11 (.int (nI (dr ++ t_bytes W k).length))) 11 = .int (nI (dr ++ t_bytes W k).length) := rfl
            refine x_iload dX7_write_32 (by first | rfl | assumption) ?_
            refine x_iload_n 3 dX7_write_34 rfl (by first | rfl | assumption) ?_
            refine x_icmp_ge 75 dX7_write_35 (by decide) (fun z => absurd z (nI_ge (by omega) (by omega))) (fun _ => ?_)
            refine x_aload_n 0 dX7_write_38 rfl (by first | rfl | assumption) ?_
            refine gf_X7_write_25 dX7_write_39 hm.1 (congrArg some hm.r10) ?_
            refine x_aload_n 0 dX7_write_42 rfl (by first | rfl | assumption) ?_
            refine gf_X7_write_84 dX7_write_43 hm.1 (congrArg some f11) ?_
            refine x_lload_n 1 dX7_write_46 rfl (by first | rfl | assumption) ?_
            refine x_bipush 8 dX7_write_47 (by decide) ?_
            refine x_iload dX7_write_49 (by first | rfl | assumption) ?_
            refine x_imul dX7_write_51 ?_
            refine x_lshr dX7_write_52 ?_
            refine k2_X7_write_62 dX7_write_53 ?_
            refine x_land dX7_write_56 ?_
            refine x_l2i dX7_write_57 ?_
            refine x_iast dX7_write_58 (by first | exact hm.a1 | exact hm.a2 | exact hm.a3 | exact hm.a4 | exact hm.a5 | exact hm.a6 | exact hm.a7 | exact hm.a8 | exact hm.a9 | exact hm.a10 | exact hm.a11 | exact hm.a12 | exact hm.a13 | exact hm.a14 | exact hm.a15) (by assumption) ?_
            refine x_ga hm (by decide) rfl (fun gm hm => ?_)
            refine x_aload_n 0 dX7_write_59 rfl (by first | rfl | assumption) ?_
            refine x_dup dX7_write_60 rfl ?_
            refine gf_X7_write_84 dX7_write_61 hm.1 (congrArg some f11) ?_
            refine x_iconst 1 dX7_write_64 (by decide) ?_
            refine x_iadd dX7_write_65 ?_
            refine pf_X7_write_84 dX7_write_66 hm.1 (Nat.le_of_ble_eq_true rfl) ?_
            refine x_gm hm (fun gm hm f11 => ?_)
            refine x_iinc 1 dX7_write_69 (by first | rfl | assumption) (by decide) (by decide) rfl ?_
            refine x_goto 32 dX7_write_72 (by decide) ?_
            rw [m_bk W k (by omega), nI_clamp (by omega), m_uu, m_uu, show (m_u F 6 f) 6 = f from rfl, nI_1, show (dr ++ t_bytes W k).length + 1 = (dr ++ t_bytes W (k + 1)).length by rw [List.length_append, List.length_append, t_bytes_len, t_bytes_len]; rfl] at hm
            refine ih (k + 1) _ _ _ (nI_1 k) (by omega) hm ?_
            rw [t_bytes_succ, ← List.append_assoc]
            exact i1.add _
        refine loop N 0 _ _ (F 6) rfl (by omega) ?_ ?_
        · rw [m_uself, show dr ++ t_bytes W 0 = dr from List.append_nil dr, ← f11, m_uself]
          exact hm
        · rw [show dr ++ t_bytes W 0 = dr from List.append_nil dr]
          exact hl
      · refine x_icmp_le 29 dX7_write_24 (by decide) (fun z => absurd z (nI_ge (a := 100) (by omega) (by omega))) (fun _ => ?_)
        exact h27 (fun z => d3 z.2)
theorem sn_ping (hm : k_m h0 h B V F) (hr : m_rel V F σ) : q_SP G mX7_ping [.ref (B 0)] h 0 0 (m_ret0 h0 B (a_ping σ)) := by
  obtain ⟨st, ec, dl, pg, rq, out, dr, R, w⟩ := σ
  have hr0 := hr
  obtain ⟨hr, hf⟩ := hr
  have f1 := hr.1.1
  obtain ⟨f9, -⟩ := hr.2.2.1
  obtain ⟨f11, hl⟩ := hr.2.2.2.1
  have hN := hr.2.2.2.2.2.2.2
  have hO := hr.2.2.2.2.2.2.1
  dsimp only [a_ping]
  refine q_enter (M := mX7_ping) (by decide +kernel) rfl (Nat.le_of_ble_eq_true rfl) ?_
  have h26 : ¬ (decide (st = 1) && decide (out.length + (2 + dr.length) ≤ 400)) = true → q_X G mX7_ping (q_R mX7_ping 0 0) (q_FN G (m_ret0 h0 B (if (decide (st = 1) && decide (out.length + (2 + dr.length) ≤ 400)) = true then (0, 0, (st, ec, dl, pg, rq, out ++ [137, nI dr.length] ++ dr, dr, R, w)) else (1, 0, (st, ec, dl, pg, rq, out, dr, R, w)))) 0 0) 26 [(0, .ref (B 0))] [.ref (B 0)] h 0 0 := by
    intro hc
    rw [if_neg hc]
    refine x_iconst 1 dX7_ping_26 (by decide) ?_
    refine x_goto 31 dX7_ping_27 (by decide) ?_
    refine pf_X7_ping_55 dX7_ping_31 hm.1 (Nat.le_of_ble_eq_true rfl) ?_
    refine x_gm hm (fun gm hm f0 => ?_)
    refine x_aload_n 0 dX7_ping_34 rfl (by first | rfl | assumption) ?_
    refine gf_X7_ping_55 dX7_ping_35 hm.1 (congrArg some f0) ?_
    refine x_if_ne 56 dX7_ping_38 (by decide) (fun _ => ?_) (fun z => absurd z (show ¬ (1 : Int32) = 0 by decide))
    refine x_vret rfl dX7_ping_56 (by decide) (by decide) ?_
    exact ⟨rfl, _, _, hm, rfl, hr0.v0⟩
  refine x_aload_n 0 dX7_ping_0 rfl (by first | rfl | assumption) ?_
  refine x_aload_n 0 dX7_ping_1 rfl (by first | rfl | assumption) ?_
  refine gf_X7_ping_217 dX7_ping_2 hm.1 (congrArg some f1) ?_
  refine x_iconst 1 dX7_ping_5 (by decide) ?_
  by_cases s1 : st = 1
  · refine x_icmp_ne 26 dX7_ping_6 (by decide) (fun z => absurd s1 z) (fun _ => ?_)
    refine x_aload_n 0 dX7_ping_9 rfl (by first | rfl | assumption) ?_
    refine gf_X7_ping_59 dX7_ping_10 hm.1 (congrArg some f9) ?_
    refine x_iconst 2 dX7_ping_13 (by decide) ?_
    refine x_iadd dX7_ping_14 ?_
    refine x_aload_n 0 dX7_ping_15 rfl (by first | rfl | assumption) ?_
    refine gf_X7_ping_84 dX7_ping_16 hm.1 (congrArg some f11) ?_
    refine x_iadd dX7_ping_19 ?_
    refine x_sipush 400 dX7_ping_20 (by decide) ?_
    rw [show nI out.length + 2 + nI dr.length = nI (out.length + 2 + dr.length) by rw [show (2 : Int32) = nI 2 from rfl, nI_add, nI_add]]
    by_cases c2 : out.length + 2 + dr.length ≤ 400
    · refine x_icmp_le 30 dX7_ping_23 (by decide) (fun _ => ?_) (fun z => absurd (nI_le (b := 400) c2 (by omega)) z)
      rw [if_pos (by rw [decide_eq_true s1, decide_eq_true (show out.length + (2 + dr.length) ≤ 400 by omega)]; rfl)]
      refine x_iconst 0 dX7_ping_30 (by decide) ?_
      refine pf_X7_ping_55 dX7_ping_31 hm.1 (Nat.le_of_ble_eq_true rfl) ?_
      refine x_gm hm (fun gm hm f0 => ?_)
      refine x_aload_n 0 dX7_ping_34 rfl (by first | rfl | assumption) ?_
      refine gf_X7_ping_55 dX7_ping_35 hm.1 (congrArg some f0) ?_
      refine x_if_ne 56 dX7_ping_38 (by decide) (fun z => absurd (show (0 : Int32) = 0 from rfl) z) (fun _ => ?_)
      have hr1 := (hr0.v0 (v := .int 0)).1
      have hf1 := (hr0.v0 (v := .int 0)).2
      refine x_aload_n 0 dX7_ping_41 rfl (by first | rfl | assumption) ?_
      refine x_bipush 9 dX7_ping_42 (by decide) ?_
      refine x_iconst 1 dX7_ping_44 (by decide) ?_
      refine x_aload_n 0 dX7_ping_45 rfl (by first | rfl | assumption) ?_
      refine gf_X7_ping_84 dX7_ping_46 hm.1 (congrArg some f11) ?_
      refine cl_X7_ping_49 (sm_head hm hr1.2.2.1 (by omega) 9 true (n := dr.length) (by omega)) hm.1 (Nat.le_of_ble_eq_true rfl) ⟨Nat.le_of_ble_eq_true rfl, Nat.le_of_ble_eq_true rfl⟩ (fun r gq hq => ?_)
      obtain ⟨rfl, V2, F2, hm, q2, o2⟩ := hq
      refine x_aload_n 0 dX7_ping_52 rfl (by first | rfl | assumption) ?_
      refine cl_X7_ping_53 (sm_putDraft hm ((q2.1 11 (by decide)).trans f11) (by rw [q2.2 6 (by decide)]; exact hl) hN o2 (by rw [List.length_append]; show _ + 2 + _ ≤ _; omega)) hm.1 (Nat.le_of_ble_eq_true rfl) ⟨Nat.le_of_ble_eq_true rfl, Nat.le_of_ble_eq_true rfl⟩ (fun r gq hq => ?_)
      obtain ⟨rfl, V3, F3, hm, q3, o3⟩ := hq
      refine x_vret rfl dX7_ping_56 (by decide) (by decide) ?_
      have q4 := q2.tr q3
      refine ⟨rfl, V3, F3, hm, q4.1 0 (by decide), hr1.said q4 o3 ?_, fun z => (hf1 z).cg (fun j h1 h2 => q4.1 j (by omega)) (fun i h1 h2 => q4.2 i (by omega))⟩
      rw [List.length_append, List.length_append]
      show _ + 2 + _ ≤ _
      omega
    · refine x_icmp_le 30 dX7_ping_23 (by decide) (fun z => absurd z (nI_ge (a := 400) (by omega) (by omega))) (fun _ => ?_)
      exact h26 (by rw [decide_eq_false (show ¬ out.length + (2 + dr.length) ≤ 400 by omega), Bool.and_false]; decide)
  · refine x_icmp_ne 26 dX7_ping_6 (by decide) (fun _ => ?_) (fun z => absurd z s1)
    exact h26 (by rw [decide_eq_false s1, Bool.false_and]; decide)
theorem m_code {x : Int32} (hc : r_code x = true) : x / 256 = x >>> ((8 : Int32) &&& 31) ∧ x - x / 256 * 256 = x &&& 255 := by
  have h0 : ¬ x < 0 := by
    intro z
    unfold r_code at hc
    rw [i32_lt] at z
    have a0 : (0 : Int32).toInt = 0 := rfl
    have k : ∀ y : Int32, 0 < y.toInt → x < y := fun y hy => by rw [i32_lt]; omega
    rw [decide_eq_true (k 1000 (by decide)), decide_eq_true (k 1007 (by decide)), decide_eq_true (k 3000 (by decide))] at hc
    cases hc
  obtain ⟨n, hn, rfl⟩ := nI_of h0
  rw [show (256 : Int32) = nI 256 from rfl, pk_rem hn (by decide) (by decide), pk_div hn (by decide) (by decide), pk_shrN hn _ 8 (by rfl), pk_andN (by omega) 8 (by rfl)]
  exact ⟨rfl, rfl⟩
theorem sn_close (hm : k_m h0 h B V F) (hr : m_rel V F σ) (hw : t_wf σ) (x : Int32) : q_SP G mX7_close [.ref (B 0), .int x] h 0 0 (m_ret0 h0 B (a_close σ x)) := by
  obtain ⟨st, ec, dl, pg, rq, out, dr, R, w⟩ := σ
  have hr0 := hr
  obtain ⟨hr, hf⟩ := hr
  have f1 := hr.1.1
  obtain ⟨c0, hc0⟩ := hr.2.2.2.2.2.1
  obtain ⟨f9, -⟩ := hr.2.2.1
  obtain ⟨f11, hl⟩ := hr.2.2.2.1
  have hN := hr.2.2.2.2.2.2.2
  have hw1 : st = 1 → out.length ≤ 470 := hw.2.1
  dsimp only [a_close]
  refine q_enter (M := mX7_close) (by decide +kernel) rfl (Nat.le_of_ble_eq_true rfl) ?_
  have h15 : ∀ h1 : q_H, k_m h0 h1 B V F → (r_code x && z_txt dr) = false → q_X G mX7_close (q_R mX7_close 0 0) (q_FN G (m_ret0 h0 B (if (r_code x && z_txt dr) = true then (if st = 1 then (0, 0, (2, ec, dl, pg, rq, out ++ [136, nI (2 + dr.length)] ++ [x >>> ((8 : Int32) &&& 31), x &&& 255] ++ dr, dr, R, w)) else (2, 0, (st, ec, dl, pg, rq, out, dr, R, w))) else (1, 0, (st, ec, dl, pg, rq, out, dr, R, w)))) 0 0) 15 [(0, .ref (B 0)), (1, .int x)] [.ref (B 0)] h1 0 0 := by
    intro h1 hm hc
    rw [hc, if_neg (by decide)]
    refine x_iconst 1 dX7_close_15 (by decide) ?_
    refine x_goto 32 dX7_close_16 (by decide) ?_
    refine pf_X7_close_55 dX7_close_32 hm.1 (Nat.le_of_ble_eq_true rfl) ?_
    refine x_gm hm (fun gm hm f0 => ?_)
    refine x_aload_n 0 dX7_close_35 rfl (by first | rfl | assumption) ?_
    refine gf_X7_close_55 dX7_close_36 hm.1 (congrArg some f0) ?_
    refine x_if_ne 82 dX7_close_39 (by decide) (fun _ => ?_) (fun z => absurd z (show ¬ (1 : Int32) = 0 by decide))
    refine x_vret rfl dX7_close_82 (by decide) (by decide) ?_
    exact ⟨rfl, _, _, hm, rfl, hr0.v0⟩
  refine x_aload_n 0 dX7_close_0 rfl (by first | rfl | assumption) ?_
  refine x_iload_n 1 dX7_close_1 rfl (by first | rfl | assumption) ?_
  refine cl_X7_close_2 (sm_isCode x) (Nat.le_of_ble_eq_true rfl) ⟨Nat.le_of_ble_eq_true rfl, Nat.le_of_ble_eq_true rfl⟩ (fun r gq hq => ?_)
  obtain ⟨rfl, hg⟩ := hq
  rw [hg]
  cases hcd : r_code x with
  | false =>
    rw [hcd] at h15
    refine x_if_eq 15 dX7_close_5 (by decide) (fun _ => ?_) (fun z => absurd (show z_b false = 0 from rfl) z)
    exact h15 _ hm rfl
  | true =>
    rw [hcd, Bool.true_and] at h15
    rw [Bool.true_and]
    refine x_if_eq 15 dX7_close_5 (by decide) (fun z => absurd z (show ¬ z_b true = 0 by decide)) (fun _ => ?_)
    refine x_aload_n 0 dX7_close_8 rfl (by first | rfl | assumption) ?_
    refine cl_X7_close_9 (sm_isDraftText hm hc0 f11 hl hN) hm.1 (Nat.le_of_ble_eq_true rfl) ⟨Nat.le_of_ble_eq_true rfl, Nat.le_of_ble_eq_true rfl⟩ (fun r gq hq => ?_)
    obtain ⟨rfl, hm⟩ := hq
    rw [List.drop_zero]
    cases ht : z_txt dr with
    | false =>
      rw [ht] at h15
      refine x_if_ne 19 dX7_close_12 (by decide) (fun z => absurd (show z_b false = 0 from rfl) z) (fun _ => ?_)
      exact h15 _ hm rfl
    | true =>
      rw [if_pos rfl]
      refine x_if_ne 19 dX7_close_12 (by decide) (fun _ => ?_) (fun z => absurd z (show ¬ z_b true = 0 by decide))
      refine x_aload_n 0 dX7_close_19 rfl (by first | rfl | assumption) ?_
      refine gf_X7_close_217 dX7_close_20 hm.1 (congrArg some f1) ?_
      refine x_iconst 1 dX7_close_23 (by decide) ?_
      by_cases s1 : st = 1
      · rw [if_pos s1]
        have hw1 := hw1 s1
        refine x_icmp_eq 31 dX7_close_24 (by decide) (fun _ => ?_) (fun z => absurd s1 z)
        refine x_iconst 0 dX7_close_31 (by decide) ?_
        refine pf_X7_close_55 dX7_close_32 hm.1 (Nat.le_of_ble_eq_true rfl) ?_
        refine x_gm hm (fun gm hm f0 => ?_)
        refine x_aload_n 0 dX7_close_35 rfl (by first | rfl | assumption) ?_
        refine gf_X7_close_55 dX7_close_36 hm.1 (congrArg some f0) ?_
        refine x_if_ne 82 dX7_close_39 (by decide) (fun z => absurd (show (0 : Int32) = 0 from rfl) z) (fun _ => ?_)
        have hr1 := (hr0.v0 (v := .int 0)).1
        have hf1 := (hr0.v0 (v := .int 0)).2
        refine x_aload_n 0 dX7_close_42 rfl (by first | rfl | assumption) ?_
        refine x_bipush 8 dX7_close_43 (by decide) ?_
        refine x_iconst 1 dX7_close_45 (by decide) ?_
        refine x_iconst 2 dX7_close_46 (by decide) ?_
        refine x_aload_n 0 dX7_close_47 rfl (by first | rfl | assumption) ?_
        refine gf_X7_close_84 dX7_close_48 hm.1 (congrArg some f11) ?_
        refine x_iadd dX7_close_51 ?_
        rw [show 2 + nI dr.length = nI (2 + dr.length) from nI_add 2 _]
        refine cl_X7_close_52 (sm_head hm hr1.2.2.1 (by omega) 8 true (n := 2 + dr.length) (by omega)) hm.1 (Nat.le_of_ble_eq_true rfl) ⟨Nat.le_of_ble_eq_true rfl, Nat.le_of_ble_eq_true rfl⟩ (fun r gq hq => ?_)
        obtain ⟨rfl, V2, F2, hm, q2, o2⟩ := hq
        have l2 : (out ++ [if true = true then 128 + 8 else 8, nI (2 + dr.length)]).length = out.length + 2 := by rw [List.length_append]; rfl
        refine x_aload_n 0 dX7_close_55 rfl (by first | rfl | assumption) ?_
        refine x_iload_n 1 dX7_close_56 rfl (by first | rfl | assumption) ?_
        refine x_sipush 256 dX7_close_57 (by decide) ?_
        refine x_idiv dX7_close_60 (by decide) ?_
        refine cl_X7_close_61 (sm_put1 hm o2 (by omega) _) hm.1 (Nat.le_of_ble_eq_true rfl) ⟨Nat.le_of_ble_eq_true rfl, Nat.le_of_ble_eq_true rfl⟩ (fun r gq hq => ?_)
        obtain ⟨rfl, V3, F3, hm, q3, o3⟩ := hq
        refine x_aload_n 0 dX7_close_64 rfl (by first | rfl | assumption) ?_
        refine x_iload_n 1 dX7_close_65 rfl (by first | rfl | assumption) ?_
        refine x_sipush 256 dX7_close_66 (by decide) ?_
        refine x_irem dX7_close_69 (by decide) ?_
        refine cl_X7_close_70 (sm_put1 hm o3 (by rw [List.length_append, l2]; show _ + 2 + 1 < _; omega) _) hm.1 (Nat.le_of_ble_eq_true rfl) ⟨Nat.le_of_ble_eq_true rfl, Nat.le_of_ble_eq_true rfl⟩ (fun r gq hq => ?_)
        obtain ⟨rfl, V4, F4, hm, q4, o4⟩ := hq
        have q5 := (q2.tr q3).tr q4
        refine x_aload_n 0 dX7_close_73 rfl (by first | rfl | assumption) ?_
        refine cl_X7_close_74 (sm_putDraft hm ((q5.1 11 (by decide)).trans f11) (by rw [q5.2 6 (by decide)]; exact hl) hN o4 (by rw [List.length_append, List.length_append, l2]; show _ + 2 + 1 + 1 + _ ≤ _; omega)) hm.1 (Nat.le_of_ble_eq_true rfl) ⟨Nat.le_of_ble_eq_true rfl, Nat.le_of_ble_eq_true rfl⟩ (fun r gq hq => ?_)
        obtain ⟨rfl, V6, F6, hm, q6, o6⟩ := hq
        refine x_aload_n 0 dX7_close_77 rfl (by first | rfl | assumption) ?_
        refine x_iconst 2 dX7_close_78 (by decide) ?_
        refine pf_X7_close_217 dX7_close_79 hm.1 (Nat.le_of_ble_eq_true rfl) ?_
        refine x_gm hm (fun gm hm f1 => ?_)
        refine x_vret rfl dX7_close_82 (by decide) (by decide) ?_
        have q7 := q5.tr q6
        have eo : out ++ [if true = true then 128 + 8 else 8, nI (2 + dr.length)] ++ [x / 256] ++ [x - x / 256 * 256] ++ dr = out ++ [136, nI (2 + dr.length)] ++ [x >>> ((8 : Int32) &&& 31), x &&& 255] ++ dr := by
          rw [(m_code hcd).2, (m_code hcd).1]
          simp only [List.append_assoc]
          rfl
        rw [eo] at o6
        have hr2 := hr1.said q7 o6 (by rw [List.length_append, List.length_append, List.length_append]; show _ + 2 + 2 + _ ≤ _; omega)
        exact ⟨rfl, _, _, hm, q7.1 0 (by decide), ⟨⟨rfl, hr2.1.2⟩, fun z => absurd z (by decide), hr2.2.2.1, hr2.2.2.2.1, hr2.2.2.2.2.1, hr2.2.2.2.2.2⟩, fun _ => (hf1 (show st ≠ 3 by rw [s1]; decide)).cg (fun j h1 h2 => (m_un (by omega)).trans (q7.1 j (by omega))) (fun i h1 h2 => q7.2 i (by omega))⟩
      · rw [if_neg s1]
        refine x_icmp_eq 31 dX7_close_24 (by decide) (fun z => absurd z s1) (fun _ => ?_)
        refine x_iconst 2 dX7_close_27 (by decide) ?_
        refine x_goto 32 dX7_close_28 (by decide) ?_
        refine pf_X7_close_55 dX7_close_32 hm.1 (Nat.le_of_ble_eq_true rfl) ?_
        refine x_gm hm (fun gm hm f0 => ?_)
        refine x_aload_n 0 dX7_close_35 rfl (by first | rfl | assumption) ?_
        refine gf_X7_close_55 dX7_close_36 hm.1 (congrArg some f0) ?_
        refine x_if_ne 82 dX7_close_39 (by decide) (fun _ => ?_) (fun z => absurd z (show ¬ (2 : Int32) = 0 by decide))
        refine x_vret rfl dX7_close_82 (by decide) (by decide) ?_
        exact ⟨rfl, _, _, hm, rfl, hr0.v0⟩
end MdlZe
