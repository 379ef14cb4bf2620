/-! the reference: what may be asked of it -/
section MdlZd
variable {G : q_G} {h0 h : q_H} {B : Nat → Nat} {V V' V0 : Nat → Value} {F F' : Nat → Nat → Int32} {l : List Int32} {st ec dl pg : Int32} {rq out dr : List Int32} {R R0 : z_R} {w : List z_Ms} {σ : z_S}
theorem sn_state (hm : k_m h0 h B V F) (hr : m_rel V F σ) : q_SP G mX7_state [.ref (B 0)] h 0 0 (m_ret h0 B (0, σ.1, σ)) := by
  refine q_SP.to (sm_get_state hm hr.f1) ?_
  rintro o h' ⟨rfl, hm⟩
  exact ⟨rfl, _, _, hm, rfl, hr.v0⟩
theorem sn_endCode (hm : k_m h0 h B V F) (hr : m_rel V F σ) : q_SP G mX7_endCode [.ref (B 0)] h 0 0 (m_ret h0 B (0, σ.2.1, σ)) := by
  have f : V 2 = .int σ.2.1 := by obtain ⟨st, ec, dl, pg, rq, out, dr, R, w⟩ := σ; exact hr.1.1.2.1
  refine q_SP.to (sm_get_endCode hm f) ?_
  rintro o h' ⟨rfl, hm⟩
  exact ⟨rfl, _, _, hm, rfl, hr.v0⟩
theorem sn_delivered (hm : k_m h0 h B V F) (hr : m_rel V F σ) : q_SP G mX7_delivered [.ref (B 0)] h 0 0 (m_ret h0 B (0, σ.2.2.1, σ)) := by
  refine q_SP.to (sm_get_delivered hm hr.f31) ?_
  rintro o h' ⟨rfl, hm⟩
  exact ⟨rfl, _, _, hm, rfl, hr.v0⟩
theorem sn_pongs (hm : k_m h0 h B V F) (hr : m_rel V F σ) : q_SP G mX7_pongs [.ref (B 0)] h 0 0 (m_ret h0 B (0, σ.2.2.2.1, σ)) := by
  have f : V 32 = .int σ.2.2.2.1 := by obtain ⟨st, ec, dl, pg, rq, out, dr, R, w⟩ := σ; exact hr.1.1.2.2.2
  refine q_SP.to (sm_get_pongs hm f) ?_
  rintro o h' ⟨rfl, hm⟩
  exact ⟨rfl, _, _, hm, rfl, hr.v0⟩
theorem sn_outLength (hm : k_m h0 h B V F) (hr : m_rel V F σ) : q_SP G mX7_outLength [.ref (B 0)] h 0 0 (m_ret h0 B (0, nI σ.2.2.2.2.2.1.length, σ)) := by
  have f : V 9 = .int (nI σ.2.2.2.2.2.1.length) := by obtain ⟨st, ec, dl, pg, rq, out, dr, R, w⟩ := σ; exact hr.1.2.2.1.1
  refine q_SP.to (sm_get_outLength hm f) ?_
  rintro o h' ⟨rfl, hm⟩
  exact ⟨rfl, _, _, hm, rfl, hr.v0⟩
theorem sn_messages (hm : k_m h0 h B V F) (hr : m_rel V F σ) : q_SP G mX7_messages [.ref (B 0)] h 0 0 (m_ret h0 B (0, nI σ.2.2.2.2.2.2.2.2.length, σ)) := by
  have f : V 27 = .int (nI σ.2.2.2.2.2.2.2.2.length) := by obtain ⟨st, ec, dl, pg, rq, out, dr, R, w⟩ := σ; exact hr.1.2.2.2.2.1.1
  refine q_SP.to (sm_get_messages hm f) ?_
  rintro o h' ⟨rfl, hm⟩
  exact ⟨rfl, _, _, hm, rfl, hr.v0⟩
theorem sn_clear (hm : k_m h0 h B V F) (hr : m_rel V F σ) : q_SP G mX7_clear [.ref (B 0)] h 0 0 (m_ret0 h0 B (0, 0, a_clear σ)) := by
  refine q_SP.to (sm_clear hm) ?_
  rintro o h' ⟨rfl, hm⟩
  have hr := hr.v0 (v := .int 0)
  obtain ⟨st, ec, dl, pg, rq, out, dr, R, w⟩ := σ
  obtain ⟨hr, hf⟩ := hr
  refine ⟨rfl, _, _, hm, rfl, ⟨hr.1, fun z => hr.2.1 z, hr.2.2.1, ⟨rfl, fun j hj => absurd hj (Nat.not_lt_zero j)⟩, hr.2.2.2.2.1, hr.2.2.2.2.2.1, hr.2.2.2.2.2.2.1, Nat.zero_le _⟩, fun z => (hf z).cg (fun j h1 h2 => m_un (by omega)) (fun _ _ _ => rfl)⟩
theorem sn_outAt (hm : k_m h0 h B V F) (hr : m_rel V F σ) (i : Int32) : q_SP G mX7_outAt [.ref (B 0), .int i] h 0 0 (m_ret h0 B (a_outAt σ i)) := by
  have hr0 := hr
  obtain ⟨st, ec, dl, pg, rq, out, dr, R, w⟩ := σ
  obtain ⟨hr, hf⟩ := hr
  obtain ⟨f9, hl⟩ := hr.2.2.1
  have hN := hr.2.2.2.2.2.2.1
  dsimp only [a_outAt]
  refine q_enter (M := mX7_outAt) (by decide +kernel) rfl (Nat.le_of_ble_eq_true rfl) ?_
  have h13 : t_has out.length i = false → q_X G mX7_outAt (q_R mX7_outAt 0 0) (q_FN G (m_ret h0 B (if t_has out.length i = true then (0, out.getD i.toNatClampNeg 0, (st, ec, dl, pg, rq, out, dr, R, w)) else (1, 0, (st, ec, dl, pg, rq, out, dr, R, w)))) 0 0) 13 [(0, .ref (B 0)), (1, .int i)] [.ref (B 0)] h 0 0 := by
    intro hc
    rw [hc, if_neg (by decide)]
    refine x_iconst 1 dX7_outAt_13 (by decide) ?_
    refine x_goto 18 dX7_outAt_14 (by decide) ?_
    refine pf_X7_outAt_55 dX7_outAt_18 hm.1 (Nat.le_of_ble_eq_true rfl) ?_
    refine x_gm hm (fun gm hm f0 => ?_)
    refine x_aload_n 0 dX7_outAt_21 rfl (by first | rfl | assumption) ?_
    refine gf_X7_outAt_55 dX7_outAt_22 hm.1 (congrArg some f0) ?_
    refine x_if_ne 37 dX7_outAt_25 (by decide) (fun _ => ?_) (fun z => absurd z (show ¬ (1 : Int32) = 0 by decide))
    refine x_iconst 0 dX7_outAt_37 (by decide) ?_
    refine x_iret rfl (by first | rfl | assumption | exact z_nb _) dX7_outAt_38 (by decide) (by decide) ?_
    exact ⟨rfl, _, _, hm, rfl, hr0.v0⟩
  refine x_aload_n 0 dX7_outAt_0 rfl (by first | rfl | assumption) ?_
  refine x_iload_n 1 dX7_outAt_1 rfl (by first | rfl | assumption) ?_
  by_cases d1 : i < 0
  · refine x_if_lt 13 dX7_outAt_2 (by decide) (fun _ => ?_) (fun z => absurd d1 z)
    exact h13 (by unfold t_has; rw [decide_eq_true d1]; rfl)
  · refine x_if_lt 13 dX7_outAt_2 (by decide) (fun z => absurd z d1) (fun _ => ?_)
    refine x_iload_n 1 dX7_outAt_5 rfl (by first | rfl | assumption) ?_
    refine x_aload_n 0 dX7_outAt_6 rfl (by first | rfl | assumption) ?_
    refine gf_X7_outAt_59 dX7_outAt_7 hm.1 (congrArg some f9) ?_
    by_cases d2 : i < nI out.length
    · refine x_icmp_lt 17 dX7_outAt_10 (by decide) (fun _ => ?_) (fun z => absurd d2 z)
      have hc : t_has out.length i = true := by unfold t_has; rw [decide_eq_false d1, decide_eq_false (Int32.not_le.mpr d2)]; rfl
      obtain ⟨e1, e2⟩ := t_has_in (by omega) hc
      rw [hc, if_pos rfl]
      have v0 : vp_in i 800 := by rw [e2]; exact vp_in_nI (by omega) (by omega)
      refine x_iconst 0 dX7_outAt_17 (by decide) ?_
      refine pf_X7_outAt_55 dX7_outAt_18 hm.1 (Nat.le_of_ble_eq_true rfl) ?_
      refine x_gm hm (fun gm hm f0 => ?_)
      refine x_aload_n 0 dX7_outAt_21 rfl (by first | rfl | assumption) ?_
      refine gf_X7_outAt_55 dX7_outAt_22 hm.1 (congrArg some f0) ?_
      refine x_if_ne 37 dX7_outAt_25 (by decide) (fun z => absurd (show (0 : Int32) = 0 from rfl) z) (fun _ => ?_)
      refine x_aload_n 0 dX7_outAt_28 rfl (by first | rfl | assumption) ?_
      refine gf_X7_outAt_22 dX7_outAt_29 hm.1 (congrArg some hm.r8) ?_
      refine x_iload_n 1 dX7_outAt_32 rfl (by first | rfl | assumption) ?_
      refine x_iald dX7_outAt_33 (by first | exact hm.a1 | exact hm.a2 | exact hm.a3 | exact hm.a4 | exact hm.a5 | exact hm.a6 | exact hm.a7 | exact hm.a8 | exact hm.a9 | exact hm.a10 | exact hm.a11 | exact hm.a12 | exact hm.a13 | exact hm.a14 | exact hm.a15) (by assumption) ?_
      refine x_goto 38 dX7_outAt_34 (by decide) ?_
      refine x_iret rfl (by first | rfl | assumption | exact z_nb _) dX7_outAt_38 (by decide) (by decide) ?_
      exact ⟨by rw [hl _ e1], _, _, hm, rfl, hr0.v0⟩
    · refine x_icmp_lt 17 dX7_outAt_10 (by decide) (fun z => absurd z d2) (fun _ => ?_)
      exact h13 (by unfold t_has; rw [decide_eq_true (Int32.not_lt.mp d2), Bool.not_true, Bool.and_false])
theorem sm_isMessage (hm : k_m h0 h B V F) {n : Nat} (f27 : V 27 = .int (nI n)) (i : Int32) : q_SP G mX7_isMessage [.ref (B 0), .int i] h 0 0 (fun o h' => o = some (.int (z_b (t_has n i))) ∧ h' = h) := by
  refine q_enter (M := mX7_isMessage) (by decide +kernel) rfl (Nat.le_of_ble_eq_true rfl) ?_
  have h16 : t_has n i = false → q_X G mX7_isMessage (q_R mX7_isMessage 0 0) (q_FN G (fun o h' => o = some (.int (z_b (t_has n i))) ∧ h' = h) 0 0) 16 [(0, .ref (B 0)), (1, .int i)] [] h 0 0 := by
    intro hc
    rw [hc]
    refine x_iconst 0 dX7_isMessage_16 (by decide) ?_
    refine x_iret rfl (z_nb false) dX7_isMessage_17 (by decide) (by decide) ?_
    exact ⟨rfl, rfl⟩
  refine x_iload_n 1 dX7_isMessage_0 rfl (by first | rfl | assumption) ?_
  by_cases d1 : i < 0
  · refine x_if_lt 16 dX7_isMessage_1 (by decide) (fun _ => ?_) (fun z => absurd d1 z)
    exact h16 (by unfold t_has; rw [decide_eq_true d1]; rfl)
  · refine x_if_lt 16 dX7_isMessage_1 (by decide) (fun z => absurd z d1) (fun _ => ?_)
    refine x_iload_n 1 dX7_isMessage_4 rfl (by first | rfl | assumption) ?_
    refine x_aload_n 0 dX7_isMessage_5 rfl (by first | rfl | assumption) ?_
    refine gf_X7_isMessage_326 dX7_isMessage_6 hm.1 (congrArg some f27) ?_
    by_cases d2 : nI n ≤ i
    · refine x_icmp_ge 16 dX7_isMessage_9 (by decide) (fun _ => ?_) (fun z => absurd d2 z)
      exact h16 (by unfold t_has; rw [decide_eq_true d2, Bool.not_true, Bool.and_false])
    · refine x_icmp_ge 16 dX7_isMessage_9 (by decide) (fun z => absurd z d2) (fun _ => ?_)
      have hc : t_has n i = true := by unfold t_has; rw [decide_eq_false d1, decide_eq_false d2]; rfl
      rw [hc]
      refine x_iconst 1 dX7_isMessage_12 (by decide) ?_
      refine x_goto 17 dX7_isMessage_13 (by decide) ?_
      refine x_iret rfl (z_nb true) dX7_isMessage_17 (by decide) (by decide) ?_
      exact ⟨rfl, rfl⟩
theorem sn_kind (hm : k_m h0 h B V F) (hr : m_rel V F σ) (i : Int32) : q_SP G mX7_kind [.ref (B 0), .int i] h 0 0 (m_ret h0 B (a_kind σ i)) := by
  have hr0 := hr
  obtain ⟨st, ec, dl, pg, rq, out, dr, R, w⟩ := σ
  obtain ⟨hr, hf⟩ := hr
  obtain ⟨f27, h4, hwt⟩ := hr.2.2.2.2.1
  dsimp only [a_kind]
  refine q_enter (M := mX7_kind) (by decide +kernel) rfl (Nat.le_of_ble_eq_true rfl) ?_
  refine x_aload_n 0 dX7_kind_0 rfl (by first | rfl | assumption) ?_
  refine x_aload_n 0 dX7_kind_1 rfl (by first | rfl | assumption) ?_
  refine x_iload_n 1 dX7_kind_2 rfl (by first | rfl | assumption) ?_
  refine cl_X7_kind_3 (sm_isMessage hm f27 i) hm.1 (Nat.le_of_ble_eq_true rfl) ⟨Nat.le_of_ble_eq_true rfl, Nat.le_of_ble_eq_true rfl⟩ (fun r gq hq => ?_)
  obtain ⟨rfl, hg⟩ := hq
  rw [hg]
  cases hc : t_has w.length i with
  | false =>
    rw [if_neg (by decide)]
    refine x_if_eq 13 dX7_kind_6 (by decide) (fun _ => ?_) (fun z => absurd (show z_b false = 0 from rfl) z)
    refine x_iconst 1 dX7_kind_13 (by decide) ?_
    refine pf_X7_kind_55 dX7_kind_14 hm.1 (Nat.le_of_ble_eq_true rfl) ?_
    refine x_gm hm (fun gm hm f0 => ?_)
    refine x_aload_n 0 dX7_kind_17 rfl (by first | rfl | assumption) ?_
    refine gf_X7_kind_55 dX7_kind_18 hm.1 (congrArg some f0) ?_
    refine x_if_ne 33 dX7_kind_21 (by decide) (fun _ => ?_) (fun z => absurd z (show ¬ (1 : Int32) = 0 by decide))
    refine x_iconst 0 dX7_kind_33 (by decide) ?_
    refine x_iret rfl (by first | rfl | assumption | exact z_nb _) dX7_kind_34 (by decide) (by decide) ?_
    exact ⟨rfl, _, _, hm, rfl, hr0.v0⟩
  | true =>
    rw [if_pos rfl]
    obtain ⟨e1, e2⟩ := t_has_in (by omega) hc
    have v0 : vp_in i 4 := by rw [e2]; exact vp_in_nI (by omega) (by omega)
    refine x_if_eq 13 dX7_kind_6 (by decide) (fun z => absurd z (show ¬ z_b true = 0 by decide)) (fun _ => ?_)
    refine x_iconst 0 dX7_kind_9 (by decide) ?_
    refine x_goto 14 dX7_kind_10 (by decide) ?_
    refine pf_X7_kind_55 dX7_kind_14 hm.1 (Nat.le_of_ble_eq_true rfl) ?_
    refine x_gm hm (fun gm hm f0 => ?_)
    refine x_aload_n 0 dX7_kind_17 rfl (by first | rfl | assumption) ?_
    refine gf_X7_kind_55 dX7_kind_18 hm.1 (congrArg some f0) ?_
    refine x_if_ne 33 dX7_kind_21 (by decide) (fun z => absurd (show (0 : Int32) = 0 from rfl) z) (fun _ => ?_)
    refine x_aload_n 0 dX7_kind_24 rfl (by first | rfl | assumption) ?_
    refine gf_X7_kind_37 dX7_kind_25 hm.1 (congrArg some hm.r28) ?_
    refine x_iload_n 1 dX7_kind_28 rfl (by first | rfl | assumption) ?_
    refine x_iald dX7_kind_29 (by first | exact hm.a1 | exact hm.a2 | exact hm.a3 | exact hm.a4 | exact hm.a5 | exact hm.a6 | exact hm.a7 | exact hm.a8 | exact hm.a9 | exact hm.a10 | exact hm.a11 | exact hm.a12 | exact hm.a13 | exact hm.a14 | exact hm.a15) (by assumption) ?_
    refine x_goto 34 dX7_kind_30 (by decide) ?_
    refine x_iret rfl (by first | rfl | assumption | exact z_nb _) dX7_kind_34 (by decide) (by decide) ?_
    exact ⟨by rw [(hwt _ e1).1], _, _, hm, rfl, hr0.v0⟩
theorem sn_length (hm : k_m h0 h B V F) (hr : m_rel V F σ) (i : Int32) : q_SP G mX7_length [.ref (B 0), .int i] h 0 0 (m_ret h0 B (a_length σ i)) := by
  have hr0 := hr
  obtain ⟨st, ec, dl, pg, rq, out, dr, R, w⟩ := σ
  obtain ⟨hr, hf⟩ := hr
  obtain ⟨f27, h4, hwt⟩ := hr.2.2.2.2.1
  dsimp only [a_length]
  refine q_enter (M := mX7_length) (by decide +kernel) rfl (Nat.le_of_ble_eq_true rfl) ?_
  refine x_aload_n 0 dX7_length_0 rfl (by first | rfl | assumption) ?_
  refine x_aload_n 0 dX7_length_1 rfl (by first | rfl | assumption) ?_
  refine x_iload_n 1 dX7_length_2 rfl (by first | rfl | assumption) ?_
  refine cl_X7_length_3 (sm_isMessage hm f27 i) hm.1 (Nat.le_of_ble_eq_true rfl) ⟨Nat.le_of_ble_eq_true rfl, Nat.le_of_ble_eq_true rfl⟩ (fun r gq hq => ?_)
  obtain ⟨rfl, hg⟩ := hq
  rw [hg]
  cases hc : t_has w.length i with
  | false =>
    rw [if_neg (by decide)]
    refine x_if_eq 13 dX7_length_6 (by decide) (fun _ => ?_) (fun z => absurd (show z_b false = 0 from rfl) z)
    refine x_iconst 1 dX7_length_13 (by decide) ?_
    refine pf_X7_length_55 dX7_length_14 hm.1 (Nat.le_of_ble_eq_true rfl) ?_
    refine x_gm hm (fun gm hm f0 => ?_)
    refine x_aload_n 0 dX7_length_17 rfl (by first | rfl | assumption) ?_
    refine gf_X7_length_55 dX7_length_18 hm.1 (congrArg some f0) ?_
    refine x_if_ne 33 dX7_length_21 (by decide) (fun _ => ?_) (fun z => absurd z (show ¬ (1 : Int32) = 0 by decide))
    refine x_iconst 0 dX7_length_33 (by decide) ?_
    refine x_iret rfl (by first | rfl | assumption | exact z_nb _) dX7_length_34 (by decide) (by decide) ?_
    exact ⟨rfl, _, _, hm, rfl, hr0.v0⟩
  | true =>
    rw [if_pos rfl]
    obtain ⟨e1, e2⟩ := t_has_in (by omega) hc
    have v0 : vp_in i 4 := by rw [e2]; exact vp_in_nI (by omega) (by omega)
    refine x_if_eq 13 dX7_length_6 (by decide) (fun z => absurd z (show ¬ z_b true = 0 by decide)) (fun _ => ?_)
    refine x_iconst 0 dX7_length_9 (by decide) ?_
    refine x_goto 14 dX7_length_10 (by decide) ?_
    refine pf_X7_length_55 dX7_length_14 hm.1 (Nat.le_of_ble_eq_true rfl) ?_
    refine x_gm hm (fun gm hm f0 => ?_)
    refine x_aload_n 0 dX7_length_17 rfl (by first | rfl | assumption) ?_
    refine gf_X7_length_55 dX7_length_18 hm.1 (congrArg some f0) ?_
    refine x_if_ne 33 dX7_length_21 (by decide) (fun z => absurd (show (0 : Int32) = 0 from rfl) z) (fun _ => ?_)
    refine x_aload_n 0 dX7_length_24 rfl (by first | rfl | assumption) ?_
    refine gf_X7_length_40 dX7_length_25 hm.1 (congrArg some hm.r29) ?_
    refine x_iload_n 1 dX7_length_28 rfl (by first | rfl | assumption) ?_
    refine x_iald dX7_length_29 (by first | exact hm.a1 | exact hm.a2 | exact hm.a3 | exact hm.a4 | exact hm.a5 | exact hm.a6 | exact hm.a7 | exact hm.a8 | exact hm.a9 | exact hm.a10 | exact hm.a11 | exact hm.a12 | exact hm.a13 | exact hm.a14 | exact hm.a15) (by assumption) ?_
    refine x_goto 34 dX7_length_30 (by decide) ?_
    refine x_iret rfl (by first | rfl | assumption | exact z_nb _) dX7_length_34 (by decide) (by decide) ?_
    exact ⟨by rw [(hwt _ e1).2.1], _, _, hm, rfl, hr0.v0⟩
theorem sn_byteAt (hm : k_m h0 h B V F) (hr : m_rel V F σ) (k i : Int32) : q_SP G mX7_byteAt [.ref (B 0), .int k, .int i] h 0 0 (m_ret h0 B (a_byteAt σ k i)) := by
  have hr0 := hr
  obtain ⟨st, ec, dl, pg, rq, out, dr, R, w⟩ := σ
  obtain ⟨hr, hf⟩ := hr
  obtain ⟨f27, h4, hwt⟩ := hr.2.2.2.2.1
  dsimp only [a_byteAt]
  refine q_enter (M := mX7_byteAt) (by decide +kernel) rfl (Nat.le_of_ble_eq_true rfl) ?_
  refine x_aload_n 0 dX7_byteAt_0 rfl (by first | rfl | assumption) ?_
  refine x_aload_n 0 dX7_byteAt_1 rfl (by first | rfl | assumption) ?_
  refine x_iload_n 1 dX7_byteAt_2 rfl (by first | rfl | assumption) ?_
  refine cl_X7_byteAt_3 (sm_isMessage hm f27 k) hm.1 (Nat.le_of_ble_eq_true rfl) ⟨Nat.le_of_ble_eq_true rfl, Nat.le_of_ble_eq_true rfl⟩ (fun r gq hq => ?_)
  obtain ⟨rfl, hg⟩ := hq
  rw [hg]
  cases hc : t_has w.length k with
  | false =>
    rw [if_neg (by decide)]
    refine x_if_ne 13 dX7_byteAt_6 (by decide) (fun z => absurd (show z_b false = 0 from rfl) z) (fun _ => ?_)
    refine x_iconst 1 dX7_byteAt_9 (by decide) ?_
    refine x_goto 32 dX7_byteAt_10 (by decide) ?_
    refine pf_X7_byteAt_55 dX7_byteAt_32 hm.1 (Nat.le_of_ble_eq_true rfl) ?_
    refine x_gm hm (fun gm hm f0 => ?_)
    refine x_aload_n 0 dX7_byteAt_35 rfl (by first | rfl | assumption) ?_
    refine gf_X7_byteAt_55 dX7_byteAt_36 hm.1 (congrArg some f0) ?_
    refine x_if_ne 57 dX7_byteAt_39 (by decide) (fun _ => ?_) (fun z => absurd z (show ¬ (1 : Int32) = 0 by decide))
    refine x_iconst 0 dX7_byteAt_57 (by decide) ?_
    refine x_iret rfl (by first | rfl | assumption | exact z_nb _) dX7_byteAt_58 (by decide) (by decide) ?_
    exact ⟨rfl, _, _, hm, rfl, hr0.v0⟩
  | true =>
    rw [if_pos rfl]
    obtain ⟨e1, e2⟩ := t_has_in (by omega) hc
    obtain ⟨w1, w2, w3, w4⟩ := hwt _ e1
    have v0 : vp_in k 4 := by rw [e2]; exact vp_in_nI (by omega) (by omega)
    refine x_if_ne 13 dX7_byteAt_6 (by decide) (fun _ => ?_) (fun z => absurd z (show ¬ z_b true = 0 by decide))
    have h27 : t_has (w.getD k.toNatClampNeg (0, [])).2.length i = false → q_X G mX7_byteAt (q_R mX7_byteAt 0 0) (q_FN G (m_ret h0 B (if t_has (w.getD k.toNatClampNeg (0, [])).2.length i = true then (0, (w.getD k.toNatClampNeg (0, [])).2.getD i.toNatClampNeg 0, (st, ec, dl, pg, rq, out, dr, R, w)) else (2, 0, (st, ec, dl, pg, rq, out, dr, R, w)))) 0 0) 27 [(0, .ref (B 0)), (1, .int k), (2, .int i)] [.ref (B 0)] h 0 0 := by
      intro hc
      rw [hc, if_neg (by decide)]
      refine x_iconst 2 dX7_byteAt_27 (by decide) ?_
      refine x_goto 32 dX7_byteAt_28 (by decide) ?_
      refine pf_X7_byteAt_55 dX7_byteAt_32 hm.1 (Nat.le_of_ble_eq_true rfl) ?_
      refine x_gm hm (fun gm hm f0 => ?_)
      refine x_aload_n 0 dX7_byteAt_35 rfl (by first | rfl | assumption) ?_
      refine gf_X7_byteAt_55 dX7_byteAt_36 hm.1 (congrArg some f0) ?_
      refine x_if_ne 57 dX7_byteAt_39 (by decide) (fun _ => ?_) (fun z => absurd z (show ¬ (2 : Int32) = 0 by decide))
      refine x_iconst 0 dX7_byteAt_57 (by decide) ?_
      refine x_iret rfl (by first | rfl | assumption | exact z_nb _) dX7_byteAt_58 (by decide) (by decide) ?_
      exact ⟨rfl, _, _, hm, rfl, hr0.v0⟩
    refine x_iload_n 2 dX7_byteAt_13 rfl (by first | rfl | assumption) ?_
    by_cases d1 : i < 0
    · refine x_if_lt 27 dX7_byteAt_14 (by decide) (fun _ => ?_) (fun z => absurd d1 z)
      exact h27 (by unfold t_has; rw [decide_eq_true d1]; rfl)
    · refine x_if_lt 27 dX7_byteAt_14 (by decide) (fun z => absurd z d1) (fun _ => ?_)
      refine x_iload_n 2 dX7_byteAt_17 rfl (by first | rfl | assumption) ?_
      refine x_aload_n 0 dX7_byteAt_18 rfl (by first | rfl | assumption) ?_
      refine gf_X7_byteAt_40 dX7_byteAt_19 hm.1 (congrArg some hm.r29) ?_
      refine x_iload_n 1 dX7_byteAt_22 rfl (by first | rfl | assumption) ?_
      refine x_iald dX7_byteAt_23 (by first | exact hm.a1 | exact hm.a2 | exact hm.a3 | exact hm.a4 | exact hm.a5 | exact hm.a6 | exact hm.a7 | exact hm.a8 | exact hm.a9 | exact hm.a10 | exact hm.a11 | exact hm.a12 | exact hm.a13 | exact hm.a14 | exact hm.a15) (by assumption) ?_
      rw [w2]
      by_cases d2 : i < nI (w.getD k.toNatClampNeg (0, [])).2.length
      · refine x_icmp_lt 31 dX7_byteAt_24 (by decide) (fun _ => ?_) (fun z => absurd d2 z)
        have hc2 : t_has (w.getD k.toNatClampNeg (0, [])).2.length i = true := by unfold t_has; rw [decide_eq_false d1, decide_eq_false (Int32.not_le.mpr d2)]; rfl
        obtain ⟨y1, y2⟩ := t_has_in (by omega) hc2
        rw [hc2, if_pos rfl]
        have e3 : 300 * k + i = nI (300 * k.toNatClampNeg + i.toNatClampNeg) := by
          rw [e2, y2, nI_clamp (by omega), nI_clamp (by omega), show (300 : Int32) = nI 300 from rfl, pk_mul, nI_add]
        have v1 : vp_in (300 * k + i) 1200 := by rw [e3]; exact vp_in_nI (by omega) (by omega)
        refine x_iconst 0 dX7_byteAt_31 (by decide) ?_
        refine pf_X7_byteAt_55 dX7_byteAt_32 hm.1 (Nat.le_of_ble_eq_true rfl) ?_
        refine x_gm hm (fun gm hm f0 => ?_)
        refine x_aload_n 0 dX7_byteAt_35 rfl (by first | rfl | assumption) ?_
        refine gf_X7_byteAt_55 dX7_byteAt_36 hm.1 (congrArg some f0) ?_
        refine x_if_ne 57 dX7_byteAt_39 (by decide) (fun z => absurd (show (0 : Int32) = 0 from rfl) z) (fun _ => ?_)
        refine x_aload_n 0 dX7_byteAt_42 rfl (by first | rfl | assumption) ?_
        refine gf_X7_byteAt_43 dX7_byteAt_43 hm.1 (congrArg some hm.r30) ?_
        refine x_sipush 300 dX7_byteAt_46 (by decide) ?_
        refine x_iload_n 1 dX7_byteAt_49 rfl (by first | rfl | assumption) ?_
        refine x_imul dX7_byteAt_50 ?_
        refine x_iload_n 2 dX7_byteAt_51 rfl (by first | rfl | assumption) ?_
        refine x_iadd dX7_byteAt_52 ?_
        refine x_iald dX7_byteAt_53 (by first | exact hm.a1 | exact hm.a2 | exact hm.a3 | exact hm.a4 | exact hm.a5 | exact hm.a6 | exact hm.a7 | exact hm.a8 | exact hm.a9 | exact hm.a10 | exact hm.a11 | exact hm.a12 | exact hm.a13 | exact hm.a14 | exact hm.a15) (by assumption) ?_
        refine x_goto 58 dX7_byteAt_54 (by decide) ?_
        refine x_iret rfl (by first | rfl | assumption | exact z_nb _) dX7_byteAt_58 (by decide) (by decide) ?_
        exact ⟨by rw [e3, nI_clamp (by omega), w4 _ y1], _, _, hm, rfl, hr0.v0⟩
      · refine x_icmp_lt 31 dX7_byteAt_24 (by decide) (fun z => absurd z d2) (fun _ => ?_)
        exact h27 (by unfold t_has; rw [decide_eq_true (Int32.not_lt.mp d2), Bool.not_true, Bool.and_false])
end MdlZd
