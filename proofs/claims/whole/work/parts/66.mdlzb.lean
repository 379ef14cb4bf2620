/-! the reference: a byte comes; feed -/
section MdlZb
variable {G : q_G} {h0 h : q_H} {B : Nat → Nat} {V V' V0 : Nat → Value} {F F' : Nat → Nat → Int32} {l : List Int32} {st ec dl pg : Int32} {rq out dr : List Int32} {R R0 : z_R} {w : List z_Ms} {pl kd mkd lsz lrd mrd crd : Int32} {la uw : Bool} {ln : Int64} {fm : Nat → Int32} {msg sc : List Int32} {c : z_T3}
theorem m_fr.cg {σ : z_R} (hf : m_fr V F σ) (e : ∀ j, 11 < j → j < 27 → V' j = V j) (e' : ∀ i, 6 < i → i < 10 → F' i = F i) : m_fr V' F' σ := by
  obtain ⟨pl, kd, la, uw, mkd, lsz, lrd, ln, mrd, crd, fm, msg, sc, c⟩ := σ
  obtain ⟨g1, g2, g3, g4⟩ := hf
  refine ⟨(e 12 (by decide) (by decide)).trans g1, (e 20 (by decide) (by decide)).trans g2, fun z => ?_, fun z => ?_⟩
  · obtain ⟨a1, a2, a3, a4, a5, a6⟩ := g3 z
    refine ⟨(e 21 (by decide) (by decide)).trans a1, (e 22 (by decide) (by decide)).trans a2, by rw [e' 9 (by decide) (by decide)]; exact a3, a4, a5, fun z => ?_⟩
    obtain ⟨b1, c', ⟨b2, b3, b4⟩, b5⟩ := a6 z
    exact ⟨b1, c', ⟨(e 24 (by decide) (by decide)).trans b2, (e 25 (by decide) (by decide)).trans b3, (e 26 (by decide) (by decide)).trans b4⟩, b5⟩
  · obtain ⟨⟨a1, a2, a3⟩, g5⟩ := g4 z
    refine ⟨⟨(e 14 (by decide) (by decide)).trans a1, (e 13 (by decide) (by decide)).trans a2, a3⟩, ?_⟩
    have e15 := e 15 (by decide) (by decide)
    have e16 := e 16 (by decide) (by decide)
    have e17 := e 17 (by decide) (by decide)
    have e7 := e' 7 (by decide) (by decide)
    have e8 := e' 8 (by decide) (by decide)
    unfold m_p2 m_p3 m_p4 at g5 ⊢
    rw [e15, e16, e17, e7, e8]
    exact g5
theorem m_ans.goes {o : Option Value} {h' : q_H} {st' : Int32} {out' : List Int32} (hr : m_rs V F st ec dl pg rq out dr w) (hv : V 0 = V0 0) (hf : m_fr V F R) (h1 : st' ≠ 0) (hl : out'.length ≤ 574) (hq : m_ans h0 B V F st' out' o h') : m_goes h0 B V0 (st', ec, dl, pg, rq, out', dr, R, w) o h' := by
  obtain ⟨rfl, V1, F1, hm, e1, a1, e2, ho⟩ := hq
  refine ⟨rfl, V1, F1, hm, (e1 0 (by decide) (by decide)).trans hv, ?_⟩
  obtain ⟨⟨-, b2, b3, b4⟩, -, -, ⟨d1, d2⟩, ⟨w1, w2, w3⟩, hc, o1, o2⟩ := hr
  refine ⟨⟨⟨a1, (e1 2 (by decide) (by decide)).trans b2, (e1 31 (by decide) (by decide)).trans b3, (e1 32 (by decide) (by decide)).trans b4⟩, fun z => absurd z h1, ho, ⟨(e1 11 (by decide) (by decide)).trans d1, by rw [e2 6 (by decide) (by decide)]; exact d2⟩, ⟨(e1 27 (by decide) (by decide)).trans w1, w2, ?_⟩, m_c3.ex hc (fun j hj => e1 j (by omega) (by omega)), hl, o2⟩, fun _ => hf.cg (fun j h1 h2 => e1 j (by omega) (by omega)) (fun i h1 h2 => e2 i (by omega) (by omega))⟩
  rw [e2 10 (by decide) (by decide), e2 11 (by decide) (by decide), e2 12 (by decide) (by decide)]; exact w3
theorem m_answer.goes {o : Option Value} {h' : q_H} {r : Option (Bool × Nat)} (hr : m_rs V F st ec dl pg rq out dr w) (hv : V 0 = V0 0) (hf : m_fr V F R) (h0l : out.length = 0) (hq : m_answer h0 B V F rq out r o h') : m_goes h0 B V0 (t_answer (st, ec, dl, pg, rq, out, dr, R, w) r) o h' := by
  match r with
  | some (true, p) =>
    refine m_ans.goes hr hv hf (by decide) ?_ hq
    rw [List.length_append, List.length_append, List.length_append, d_proof_len, h0l]
    decide
  | some (false, p) =>
    refine m_ans.goes hr hv hf (by decide) ?_ hq
    rw [List.length_append, h0l]
    decide
  | none =>
    refine m_ans.goes hr hv hf (by decide) ?_ hq
    rw [List.length_append, h0l]
    decide
theorem sm_come {σ : z_S} {b : Int32} (hm : k_m h0 h B V F) (hr : m_rel V F σ) (hw : t_wf σ) (h3 : σ.1 ≠ 3) (hb : m_by b) : q_SP G mX7_come [.ref (B 0), .int b] h 0 0 (m_goes h0 B V (t_byte σ b)) := by
  obtain ⟨st, ec, dl, pg, rq, out, dr, R, w⟩ := σ
  obtain ⟨hr, hf⟩ := hr
  have hf := hf h3
  have f1 := hr.1.1
  have h3 : ¬ st = 3 := h3
  have h83 : ∀ (o : Option Value) (h1 : q_H), m_goes h0 B V (t_byte (st, ec, dl, pg, rq, out, dr, R, w) b) none h1 → q_X G mX7_come (q_R mX7_come 0 0) (q_FN G (m_goes h0 B V (t_byte (st, ec, dl, pg, rq, out, dr, R, w) b)) 0 0) 83 [(0, .ref (B 0)), (1, .int b)] [] h1 0 0 := by
    intro o h1 hq
    refine x_vret rfl dX7_come_83 (by decide) (by decide) ?_
    exact hq
  unfold t_byte at h83 ⊢
  have hw1 : st = 1 → out.length ≤ 470 := hw.2.1
  refine q_enter (M := mX7_come) (by decide +kernel) rfl (Nat.le_of_ble_eq_true rfl) ?_
  refine x_aload_n 0 dX7_come_0 rfl (by first | rfl | assumption) ?_
  refine gf_X7_come_217 dX7_come_1 hm.1 (congrArg some f1) ?_
  by_cases s0 : st = 0
  · rw [if_pos s0] at h83 ⊢
    obtain ⟨q1, q2⟩ := hw.1 s0
    obtain ⟨f4, hl⟩ := hr.2.1 s0
    refine x_if_ne 15 dX7_come_4 (by decide) (fun z => absurd s0 z) (fun _ => ?_)
    refine x_aload_n 0 dX7_come_7 rfl (by first | rfl | assumption) ?_
    refine x_iload_n 1 dX7_come_8 rfl (by first | rfl | assumption) ?_
    refine cl_X7_come_9 (sm_ask hm f4 hl q1 hr.2.2.1 (by omega) b) hm.1 (Nat.le_of_ble_eq_true rfl) ⟨Nat.le_of_ble_eq_true rfl, Nat.le_of_ble_eq_true rfl⟩ (fun r gq hq => ?_)
    have hlen : (rq ++ [b]).length = rq.length + 1 := by rw [List.length_append]; rfl
    have hr2 : m_rs (m_u V 4 (.int (nI (rq ++ [b]).length))) (m_u F 1 (upd (F 1) rq.length b)) st ec dl pg (rq ++ [b]) out dr w := ⟨hr.1, fun _ => ⟨rfl, hl.add b⟩, hr.2.2.1, hr.2.2.2.1, hr.2.2.2.2.1, hr.2.2.2.2.2⟩
    have hf2 : m_fr (m_u V 4 (.int (nI (rq ++ [b]).length))) (m_u F 1 (upd (F 1) rq.length b)) R := hf.cg (fun j h1 h2 => m_un (by omega)) (fun i h1 h2 => m_un (by omega))
    have hr0 : r = none := by
      split at hq
      · exact hq.ret
      · split at hq
        · exact hq.ret
        · exact hq.1
    subst hr0
    refine x_goto 83 dX7_come_12 (by decide) ?_
    refine h83 none _ ?_
    dsimp only [t_ask]
    split at hq
    · rename_i hz
      rw [if_pos hz]
      exact hq.goes hr2 rfl hf2 q2
    · rename_i hz
      rw [if_neg hz]
      split at hq
      · rename_i hz
        rw [if_pos hz]
        exact hq.goes hr2 rfl hf2 q2
      · rename_i hz
        rw [if_neg hz]
        exact ⟨rfl, _, _, hq.2, rfl, hr2, fun _ => hf2⟩
  · rw [if_neg s0, if_neg h3] at h83 ⊢
    refine x_if_ne 15 dX7_come_4 (by decide) (fun _ => ?_) (fun z => absurd z s0)
    obtain ⟨pl, kd, la, uw, mkd, lsz, lrd, ln, mrd, crd, fm, msg, sc, c⟩ := R
    have f12 := hf.1
    refine x_aload_n 0 dX7_come_15 rfl (by first | rfl | assumption) ?_
    refine gf_X7_come_288 dX7_come_16 hm.1 (congrArg some f12) ?_
    by_cases p0 : pl = 0
    · subst p0
      refine x_if_ne 30 dX7_come_19 (by decide) (fun z => absurd rfl z) (fun _ => ?_)
      refine x_aload_n 0 dX7_come_22 rfl (by first | rfl | assumption) ?_
      refine x_iload_n 1 dX7_come_23 rfl (by first | rfl | assumption) ?_
      refine cl_X7_come_24 (sm_first hm hr hf hw1 hb) hm.1 (Nat.le_of_ble_eq_true rfl) ⟨Nat.le_of_ble_eq_true rfl, Nat.le_of_ble_eq_true rfl⟩ (fun r gq hq => ?_)
      have hr0 := hq.1
      subst hr0
      refine x_goto 83 dX7_come_27 (by decide) ?_
      exact h83 none _ hq
    · refine x_if_ne 30 dX7_come_19 (by decide) (fun _ => ?_) (fun z => absurd z p0)
      refine x_aload_n 0 dX7_come_30 rfl (by first | rfl | assumption) ?_
      refine gf_X7_come_288 dX7_come_31 hm.1 (congrArg some f12) ?_
      refine x_iconst 1 dX7_come_34 (by decide) ?_
      by_cases p1 : pl = 1
      · subst p1
        refine x_icmp_ne 46 dX7_come_35 (by decide) (fun z => absurd rfl z) (fun _ => ?_)
        refine x_aload_n 0 dX7_come_38 rfl (by first | rfl | assumption) ?_
        refine x_iload_n 1 dX7_come_39 rfl (by first | rfl | assumption) ?_
        refine cl_X7_come_40 (sm_second hm hr hf hw1 hb) hm.1 (Nat.le_of_ble_eq_true rfl) ⟨Nat.le_of_ble_eq_true rfl, Nat.le_of_ble_eq_true rfl⟩ (fun r gq hq => ?_)
        have hr0 := hq.1
        subst hr0
        refine x_goto 83 dX7_come_43 (by decide) ?_
        exact h83 none _ hq
      · refine x_icmp_ne 46 dX7_come_35 (by decide) (fun _ => ?_) (fun z => absurd z p1)
        refine x_aload_n 0 dX7_come_46 rfl (by first | rfl | assumption) ?_
        refine gf_X7_come_288 dX7_come_47 hm.1 (congrArg some f12) ?_
        refine x_iconst 2 dX7_come_50 (by decide) ?_
        by_cases p2 : pl = 2
        · subst p2
          refine x_icmp_ne 62 dX7_come_51 (by decide) (fun z => absurd rfl z) (fun _ => ?_)
          refine x_aload_n 0 dX7_come_54 rfl (by first | rfl | assumption) ?_
          refine x_iload_n 1 dX7_come_55 rfl (by first | rfl | assumption) ?_
          refine cl_X7_come_56 (sm_lengthByte (b := b) hm hr hf hw1) hm.1 (Nat.le_of_ble_eq_true rfl) ⟨Nat.le_of_ble_eq_true rfl, Nat.le_of_ble_eq_true rfl⟩ (fun r gq hq => ?_)
          have hr0 := hq.1
          subst hr0
          refine x_goto 83 dX7_come_59 (by decide) ?_
          exact h83 none _ hq
        · refine x_icmp_ne 62 dX7_come_51 (by decide) (fun _ => ?_) (fun z => absurd z p2)
          refine x_aload_n 0 dX7_come_62 rfl (by first | rfl | assumption) ?_
          refine gf_X7_come_288 dX7_come_63 hm.1 (congrArg some f12) ?_
          refine x_iconst 3 dX7_come_66 (by decide) ?_
          by_cases p3 : pl = 3
          · subst p3
            refine x_icmp_ne 78 dX7_come_67 (by decide) (fun z => absurd rfl z) (fun _ => ?_)
            refine x_aload_n 0 dX7_come_70 rfl (by first | rfl | assumption) ?_
            refine x_iload_n 1 dX7_come_71 rfl (by first | rfl | assumption) ?_
            refine cl_X7_come_72 (sm_maskByte hm hr hf hw1 hb) hm.1 (Nat.le_of_ble_eq_true rfl) ⟨Nat.le_of_ble_eq_true rfl, Nat.le_of_ble_eq_true rfl⟩ (fun r gq hq => ?_)
            have hr0 := hq.1
            subst hr0
            refine x_goto 83 dX7_come_75 (by decide) ?_
            exact h83 none _ hq
          · refine x_icmp_ne 78 dX7_come_67 (by decide) (fun _ => ?_) (fun z => absurd z p3)
            have p4 : pl = 4 := by
              rcases (hf.2.2.2 p0).2 with z | z | z | z
              · exact absurd z.1 p1
              · exact absurd z.1 p2
              · exact absurd z.1 p3
              · exact z.1
            subst p4
            refine x_aload_n 0 dX7_come_78 rfl (by first | rfl | assumption) ?_
            refine x_iload_n 1 dX7_come_79 rfl (by first | rfl | assumption) ?_
            refine cl_X7_come_80 (sm_contentByte hm hr hf hw1 hb) hm.1 (Nat.le_of_ble_eq_true rfl) ⟨Nat.le_of_ble_eq_true rfl, Nat.le_of_ble_eq_true rfl⟩ (fun r gq hq => ?_)
            have hr0 := hq.1
            subst hr0
            exact h83 none _ hq
end MdlZb
