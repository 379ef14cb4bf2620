/-! the reference: a frame is whole; bytes of the mask and of the content -/
section MdlZ
variable {G : q_G} {h0 h : q_H} {B : Nat → Nat} {V V' V0 : Nat → Value} {F F' : Nat → Nat → Int32} {l : List Int32} {st ec dl pg : Int32} {rq out dr : List Int32} {R R0 : z_R} {w : List z_Ms} {pl kd mkd lsz lrd mrd crd : Int32} {la uw : Bool} {ln : Int64} {fm : Nat → Int32} {msg sc : List Int32} {c : z_T3}
/-- content of a short frame -/
def m_sh (V : Nat → Value) (F : Nat → Nat → Int32) (sc : List Int32) : Prop := V 17 = .int (nI sc.length) ∧ m_l (F 8) sc ∧ sc.length ≤ 125 ∧ ∀ x ∈ sc, m_by x
theorem m_ok3.pos {d : Int32} {x y : Int32} (hc : m_ok3 (d, x, y)) (h0 : ¬ d = 0) : ¬ d ≤ 0 := by
  rcases hc with z | z | z | z
  · exact absurd z h0
  · have z : d = 1 := z
    rw [z]; decide
  · have z : d = 2 := z
    rw [z]; decide
  · have z : d = 3 := z
    rw [z]; decide
theorem r_close_ne (sc : List Int32) : r_close sc ≠ 0 := by
  unfold r_close
  split
  · decide
  · split
    · split
      · decide
      · decide
    · decide
theorem sm_whole (hm : k_m h0 h B V F) (hr : m_rs V F st ec dl pg rq out dr w) (hw : st = 1 → out.length ≤ 470) (f14 : V 14 = .int kd) (f13 : V 13 = .int (z_b la)) (f20 : V 20 = .int (z_b uw)) (g3 : uw = true → m_ms V F mkd msg c) (hk : m_kd kd uw) (hs : r_short kd = true → m_sh V F sc) (hv : V 0 = V0 0) : q_SP G mX7_whole [.ref (B 0)] h 0 0 (m_goes h0 B V0 (t_put (st, ec, dl, pg, rq, out, dr, R0, w) (r_frame (0, kd, la, uw, mkd, lsz, lrd, ln, mrd, crd, fm, msg, sc, c)))) := by
  generalize hR : ((0, kd, la, uw, mkd, lsz, lrd, ln, mrd, crd, fm, msg, sc, c) : z_R) = R
  refine q_enter (M := mX7_whole) (by decide +kernel) rfl (Nat.le_of_ble_eq_true rfl) ?_
  refine x_aload_n 0 dX7_whole_0 rfl (by first | rfl | assumption) ?_
  refine x_iconst 0 dX7_whole_1 (by decide) ?_
  refine pf_X7_whole_288 dX7_whole_2 hm.1 (Nat.le_of_ble_eq_true rfl) ?_
  refine x_gm hm (fun gm hm f12 => ?_)
  have hr1 : m_rs (m_u V 12 (.int 0)) F st ec dl pg rq out dr w := hr.cg (by rintro j (rfl | rfl | rfl | rfl | rfl | rfl | rfl | rfl) <;> rfl) (fun _ _ => rfl) (m_c3.ex hr.2.2.2.2.2.1 (by rintro j (rfl | rfl | rfl) <;> rfl))
  have f1 := hr.1.1
  have f9 := hr.2.2.1.1
  have f32 := hr.1.2.2.2
  refine x_aload_n 0 dX7_whole_5 rfl (by first | rfl | assumption) ?_
  refine gf_X7_whole_273 dX7_whole_6 hm.1 (congrArg some f14) ?_
  refine x_bipush 8 dX7_whole_9 (by decide) ?_
  by_cases k8 : kd = 8
  · refine x_icmp_ne 21 dX7_whole_11 (by decide) (fun z => absurd k8 z) (fun _ => ?_)
    have hsh := hs (by rw [k8]; rfl)
    have er : r_frame R = (r_close sc, R) := by
      rw [← hR]
      dsimp only [r_frame]
      rw [if_pos (show r_short kd = true by rw [k8]; rfl), if_pos k8]
    rw [er]
    refine x_aload_n 0 dX7_whole_14 rfl (by first | rfl | assumption) ?_
    refine cl_X7_whole_15 (sm_closed (V0 := V0) hm hr1 hw hsh.1 hsh.2.1 hsh.2.2.1 hsh.2.2.2 hv R) hm.1 (Nat.le_of_ble_eq_true rfl) ⟨Nat.le_of_ble_eq_true rfl, Nat.le_of_ble_eq_true rfl⟩ (fun r gq hq => ?_)
    have hr0 := hq.1
    subst hr0
    refine x_goto 153 dX7_whole_18 (by decide) ?_
    refine x_vret rfl dX7_whole_153 (by decide) (by decide) ?_
    by_cases h1 : r_close sc = 1
    · rw [if_pos h1] at hq
      rw [h1, t_put1, ← hR]
      dsimp only [t_finish]
      rw [if_pos k8, hR]
      exact hq
    · rw [if_neg h1] at hq
      rw [t_putx h1 (r_close_ne sc)]
      exact hq
  · refine x_icmp_ne 21 dX7_whole_11 (by decide) (fun _ => ?_) (fun z => absurd z k8)
    refine x_aload_n 0 dX7_whole_21 rfl (by first | rfl | assumption) ?_
    refine gf_X7_whole_273 dX7_whole_22 hm.1 (congrArg some f14) ?_
    refine x_bipush 9 dX7_whole_25 (by decide) ?_
    have hfr : uw = true → ∀ V' : Nat → Value, (∀ j, (j = 21 ∨ j = 22 ∨ j = 24) ∨ j = 25 ∨ j = 26 → V' j = V j) → ∀ F' : Nat → Nat → Int32, F' 9 = F 9 → m_ms V' F' mkd msg c := by
      intro hu V' e F' e9
      obtain ⟨a1, a2, a3, a4, a5, a6⟩ := g3 hu
      refine ⟨(e 21 (by simp)).trans a1, (e 22 (by simp)).trans a2, by rw [e9]; exact a3, a4, a5, fun z => ?_⟩
      obtain ⟨b1, c', ⟨b2, b3, b4⟩, b5⟩ := a6 z
      exact ⟨b1, c', ⟨(e 24 (by simp)).trans b2, (e 25 (by simp)).trans b3, (e 26 (by simp)).trans b4⟩, b5⟩
    by_cases k9 : kd = 9
    · refine x_icmp_ne 95 dX7_whole_27 (by decide) (fun z => absurd k9 z) (fun _ => ?_)
      obtain ⟨f17, hl8, hN8, -⟩ := hs (by rw [k9]; rfl)
      have er : r_frame R = (1, R) := by
        rw [← hR]
        dsimp only [r_frame]
        rw [if_pos (show r_short kd = true by rw [k9]; rfl), if_neg k8]
      rw [er, t_put1, ← hR]
      dsimp only [t_finish]
      rw [if_neg k8, if_pos k9]
      have h153 : ∀ (lv : List (Nat × Value)) (h1 : q_H) (V1 : Nat → Value) (F1 : Nat → Nat → Int32), k_m h0 h1 B V1 F1 → m_oo (m_u V 12 (.int 0)) F V1 F1 → m_o V1 F1 (if st = 1 ∧ out.length + 2 + sc.length ≤ 470 then out ++ [138, nI sc.length] ++ sc else out) → q_X G mX7_whole (q_R mX7_whole 0 0) (q_FN G (m_goes h0 B V0 (st, ec, dl, pg, rq, if st = 1 ∧ out.length + 2 + sc.length ≤ 470 then out ++ [138, nI sc.length] ++ sc else out, dr, (0, kd, la, uw, mkd, lsz, lrd, ln, mrd, crd, fm, msg, sc, c), w)) 0 0) 153 lv [] h1 0 0 := by
        intro lv h1 V1 F1 hm q1 o1
        refine x_vret rfl dX7_whole_153 (by decide) (by decide) ?_
        refine ⟨rfl, V1, F1, hm, (q1.1 0 (by decide)).trans hv, hr1.said q1 o1 ?_, fun _ => ⟨q1.1 12 (by decide), (q1.1 20 (by decide)).trans f20, fun hu => hfr hu V1 (fun j hj => (q1.1 j (by omega)).trans (m_un (by omega))) F1 (q1.2 9 (by decide)), fun z => absurd rfl z⟩⟩
        split
        · rename_i hc
          rw [List.length_append, List.length_append]
          show _ + 2 + _ ≤ _
          omega
        · exact hr.2.2.2.2.2.2.1
      refine x_aload_n 0 dX7_whole_30 rfl (by first | rfl | assumption) ?_
      refine gf_X7_whole_217 dX7_whole_31 hm.1 (congrArg some f1) ?_
      refine x_iconst 1 dX7_whole_34 (by decide) ?_
      by_cases s1 : st = 1
      · refine x_icmp_ne 153 dX7_whole_35 (by decide) (fun z => absurd s1 z) (fun _ => ?_)
        have hw1 := hw s1
        refine x_aload_n 0 dX7_whole_38 rfl (by first | rfl | assumption) ?_
        refine gf_X7_whole_59 dX7_whole_39 hm.1 (congrArg some f9) ?_
        refine x_iconst 2 dX7_whole_42 (by decide) ?_
        refine x_iadd dX7_whole_43 ?_
        refine x_aload_n 0 dX7_whole_44 rfl (by first | rfl | assumption) ?_
        refine gf_X7_whole_301 dX7_whole_45 hm.1 (congrArg some f17) ?_
        refine x_iadd dX7_whole_48 ?_
        refine x_sipush 470 dX7_whole_49 (by decide) ?_
        rw [show nI out.length + 2 + nI sc.length = nI (out.length + 2 + sc.length) by rw [show (2 : Int32) = nI 2 from rfl, nI_add, nI_add]]
        by_cases c2 : out.length + 2 + sc.length ≤ 470
        · refine x_icmp_gt 153 dX7_whole_52 (by decide) (fun z => absurd z (nI_nlt (a := 470) c2 (by omega))) (fun _ => ?_)
          rw [if_pos ⟨s1, c2⟩] at h153 ⊢
          refine x_aload_n 0 dX7_whole_55 rfl (by first | rfl | assumption) ?_
          refine x_bipush 10 dX7_whole_56 (by decide) ?_
          refine x_iconst 1 dX7_whole_58 (by decide) ?_
          refine x_aload_n 0 dX7_whole_59 rfl (by first | rfl | assumption) ?_
          refine gf_X7_whole_301 dX7_whole_60 hm.1 (congrArg some f17) ?_
          refine cl_X7_whole_63 (sm_head hm hr1.2.2.1 (by omega) 10 true (n := sc.length) hN8) hm.1 (Nat.le_of_ble_eq_true rfl) ⟨Nat.le_of_ble_eq_true rfl, Nat.le_of_ble_eq_true rfl⟩ (fun r gq hq => ?_)
          obtain ⟨rfl, V2, F2, hm, q2, o2⟩ := hq
          refine x_iconst 0 dX7_whole_66 (by decide) ?_
          refine x_istore_n 1 dX7_whole_67 rfl (by decide) rfl ?_
          have loop : ∀ (m k : Nat) (x : Int32) (h1 : q_H) (V1 : Nat → Value) (F1 : Nat → Nat → Int32), x = nI k → k + m = sc.length → k_m h0 h1 B V1 F1 → m_oo (m_u V 12 (.int 0)) F V1 F1 → m_o V1 F1 (out ++ [138, nI sc.length] ++ sc.take k) →
              q_X G mX7_whole (q_R mX7_whole 0 0) (q_FN G (m_goes h0 B V0 (st, ec, dl, pg, rq, out ++ [138, nI sc.length] ++ sc, dr, (0, kd, la, uw, mkd, lsz, lrd, ln, mrd, crd, fm, msg, sc, c), w)) 0 0) 68 [(0, .ref (B 0)), (1, .int x)] [] h1 0 0 := by
            intro m
            induction m with
            | zero =>
              intro k x h1 V1 F1 hx hk hm q1 o1
              subst hx
              have f17 : V1 17 = .int (nI sc.length) := (q1.1 17 (by decide)).trans f17
              refine x_iload_n 1 dX7_whole_68 rfl (by first | rfl | assumption) ?_
              refine x_aload_n 0 dX7_whole_69 rfl (by first | rfl | assumption) ?_
              refine gf_X7_whole_301 dX7_whole_70 hm.1 (congrArg some f17) ?_
              refine x_icmp_ge 92 dX7_whole_73 (by decide) (fun _ => ?_) (fun z => absurd (nI_le (by omega) (by omega)) z)
              refine x_goto 153 dX7_whole_92 (by decide) ?_
              rw [List.take_of_length_le (by omega)] at o1
              exact h153 _ _ V1 F1 hm q1 o1
            | succ m ih =>
              intro k x h1 V1 F1 hx hk hm q1 o1
              subst hx
              have f17 : V1 17 = .int (nI sc.length) := (q1.1 17 (by decide)).trans f17
              have v0 : vp_in (nI k) 125 := vp_in_nI (by omega) (by omega)
              have hlk : (out ++ [138, nI sc.length] ++ sc.take k).length = out.length + 2 + k := by rw [List.length_append, List.length_append, List.length_take]; show _ + 2 + _ = _; omega
              refine x_iload_n 1 dX7_whole_68 rfl (by first | rfl | assumption) ?_
              refine x_aload_n 0 dX7_whole_69 rfl (by first | rfl | assumption) ?_
              refine gf_X7_whole_301 dX7_whole_70 hm.1 (congrArg some f17) ?_
              refine x_icmp_ge 92 dX7_whole_73 (by decide) (fun z => absurd z (nI_ge (by omega) (by omega))) (fun _ => ?_)
              refine x_aload_n 0 dX7_whole_76 rfl (by first | rfl | assumption) ?_
              refine x_aload_n 0 dX7_whole_77 rfl (by first | rfl | assumption) ?_
              refine gf_X7_whole_31 dX7_whole_78 hm.1 (congrArg some hm.r19) ?_
              refine x_iload_n 1 dX7_whole_81 rfl (by first | rfl | assumption) ?_
              refine x_iald dX7_whole_82 (by first | exact hm.a1 | exact hm.a2 | exact hm.a3 | exact hm.a4 | exact hm.a5 | exact hm.a6 | exact hm.a7 | exact hm.a8 | exact hm.a9 | exact hm.a10 | exact hm.a11 | exact hm.a12 | exact hm.a13 | exact hm.a14 | exact hm.a15) (by assumption) ?_
              rw [nI_clamp (by omega), q1.2 8 (by decide), hl8 k (by omega)]
              refine cl_X7_whole_83 (sm_put1 hm o1 (by omega) _) hm.1 (Nat.le_of_ble_eq_true rfl) ⟨Nat.le_of_ble_eq_true rfl, Nat.le_of_ble_eq_true rfl⟩ (fun r g hq => ?_)
              obtain ⟨rfl, V3, F3, hm, q3, o3⟩ := hq
              refine x_iinc 1 dX7_whole_86 (by first | rfl | assumption) (by decide) (by decide) rfl ?_
              refine x_goto 68 dX7_whole_89 (by decide) ?_
              refine ih (k + 1) _ g V3 F3 (nI_1 k) (by omega) hm (q1.tr q3) ?_
              rw [List.take_succ, List.getElem?_eq_getElem (show k < sc.length by omega), ← List.append_assoc]
              rw [List.getD_eq_getElem?_getD, List.getElem?_eq_getElem (show k < sc.length by omega)] at o3
              exact o3
          refine loop sc.length 0 _ _ V2 F2 rfl (by omega) hm q2 ?_
          rw [List.take_zero, List.append_nil]
          exact o2
        · refine x_icmp_gt 153 dX7_whole_52 (by decide) (fun _ => ?_) (fun z => absurd (nI_lt (a := 470) (by omega) (by omega)) z)
          refine h153 _ _ _ _ hm m_oo.rf ?_
          rw [if_neg (fun z => c2 z.2)]
          exact hr1.2.2.1
      · refine x_icmp_ne 153 dX7_whole_35 (by decide) (fun _ => ?_) (fun z => absurd z s1)
        refine h153 _ _ _ _ hm m_oo.rf ?_
        rw [if_neg (fun z => s1 z.1)]
        exact hr1.2.2.1
    · refine x_icmp_ne 95 dX7_whole_27 (by decide) (fun _ => ?_) (fun z => absurd z k9)
      refine x_aload_n 0 dX7_whole_95 rfl (by first | rfl | assumption) ?_
      refine gf_X7_whole_273 dX7_whole_96 hm.1 (congrArg some f14) ?_
      refine x_bipush 10 dX7_whole_99 (by decide) ?_
      by_cases k10 : kd = 10
      · refine x_icmp_ne 117 dX7_whole_101 (by decide) (fun z => absurd k10 z) (fun _ => ?_)
        have er : r_frame R = (1, R) := by
          rw [← hR]
          dsimp only [r_frame]
          rw [if_pos (show r_short kd = true by rw [k10]; rfl), if_neg k8]
        rw [er, t_put1, ← hR]
        dsimp only [t_finish]
        rw [if_neg k8, if_neg k9, if_pos k10]
        refine x_aload_n 0 dX7_whole_104 rfl (by first | rfl | assumption) ?_
        refine x_dup dX7_whole_105 rfl ?_
        refine gf_X7_whole_332 dX7_whole_106 hm.1 (congrArg some f32) ?_
        refine x_iconst 1 dX7_whole_109 (by decide) ?_
        refine x_iadd dX7_whole_110 ?_
        refine pf_X7_whole_332 dX7_whole_111 hm.1 (Nat.le_of_ble_eq_true rfl) ?_
        refine x_gm hm (fun gm hm f32 => ?_)
        refine x_goto 153 dX7_whole_114 (by decide) ?_
        refine x_vret rfl dX7_whole_153 (by decide) (by decide) ?_
        exact ⟨rfl, _, _, hm, hv, ⟨⟨hr.1.1, hr.1.2.1, hr.1.2.2.1, rfl⟩, hr1.2⟩, fun _ => ⟨rfl, f20, fun hu => hfr hu _ (fun j hj => (m_un (by omega)).trans (m_un (by omega))) F rfl, fun z => absurd rfl z⟩⟩
      · refine x_icmp_ne 117 dX7_whole_101 (by decide) (fun _ => ?_) (fun z => absurd z k10)
        have hsh : r_short kd = false := by
          rcases hk with (z | z | z) | z
          · exact absurd z k8
          · exact absurd z k9
          · exact absurd z k10
          · exact z.1
        have hu := hk.way hsh
        obtain ⟨f21, f22, g5, g6, g7, g8⟩ := id (g3 hu)
        refine x_aload_n 0 dX7_whole_117 rfl (by first | rfl | assumption) ?_
        refine gf_X7_whole_269 dX7_whole_118 hm.1 (congrArg some f13) ?_
        cases hla : la with
        | false =>
          have er : r_frame R = (1, R) := by
            rw [← hR, hla]
            dsimp only [r_frame]
            rw [hsh]
            rfl
          rw [er, t_put1, ← hR, hla]
          dsimp only [t_finish]
          rw [if_neg k8, if_neg k9, if_neg k10]
          refine x_if_eq 153 dX7_whole_121 (by decide) (fun _ => ?_) (fun z => absurd (show z_b false = 0 from rfl) z)
          refine x_vret rfl dX7_whole_153 (by decide) (by decide) ?_
          exact ⟨rfl, _, _, hm, hv, hr1, fun _ => ⟨rfl, f20, fun hu => hfr hu _ (fun j hj => m_un (by omega)) F rfl, fun z => absurd rfl z⟩⟩
        | true =>
          refine x_if_eq 153 dX7_whole_121 (by decide) (fun z => absurd z (show ¬ z_b true = 0 by decide)) (fun _ => ?_)
          have h149 : ¬ (mkd = 1 ∧ ¬ c.1 = 0) → q_X G mX7_whole (q_R mX7_whole 0 0) (q_FN G (m_goes h0 B V0 (t_put (st, ec, dl, pg, rq, out, dr, R0, w) (r_frame R))) 0 0) 149 [(0, .ref (B 0))] [] gm 0 0 := by
            intro hc
            have er : r_frame R = (1, (0, kd, la, false, mkd, lsz, lrd, ln, mrd, crd, fm, msg, sc, c)) := by
              rw [← hR, hla]
              dsimp only [r_frame]
              rw [hsh, if_neg hc]
              rfl
            rw [er, t_put1, hla]
            dsimp only [t_finish]
            rw [if_neg k8, if_neg k9, if_neg k10]
            refine x_aload_n 0 dX7_whole_149 rfl (by first | rfl | assumption) ?_
            refine cl_X7_whole_150 (sm_deliver (c := c) hm hr1 (hfr hu _ (fun j hj => m_un (by omega)) F rfl)) hm.1 (Nat.le_of_ble_eq_true rfl) ⟨Nat.le_of_ble_eq_true rfl, Nat.le_of_ble_eq_true rfl⟩ (fun r gq hq => ?_)
            obtain ⟨rfl, V2, F2, hm, e0, e12, e20, hr2⟩ := hq
            refine x_vret rfl dX7_whole_153 (by decide) (by decide) ?_
            exact ⟨rfl, V2, F2, hm, e0.trans hv, hr2, fun _ => ⟨e12, e20, fun z => (by cases z), fun z => absurd rfl z⟩⟩
          refine x_aload_n 0 dX7_whole_124 rfl (by first | rfl | assumption) ?_
          refine gf_X7_whole_282 dX7_whole_125 hm.1 (congrArg some f21) ?_
          refine x_iconst 1 dX7_whole_128 (by decide) ?_
          by_cases m1 : mkd = 1
          · obtain ⟨b1, c', ⟨f24, b3, b4⟩, b5, b6⟩ := g8 m1
            refine x_icmp_ne 149 dX7_whole_129 (by decide) (fun z => absurd m1 z) (fun _ => ?_)
            refine x_aload_n 0 dX7_whole_132 rfl (by first | rfl | assumption) ?_
            refine gf_X7_whole_72 dX7_whole_133 hm.1 (congrArg some f24) ?_
            rw [b5]
            by_cases d0 : c.1 = 0
            · refine x_if_le 149 dX7_whole_136 (by decide) (fun _ => ?_) (fun z => absurd (show c.1 ≤ 0 by rw [d0]; decide) z)
              exact h149 (fun z => z.2 d0)
            · refine x_if_le 149 dX7_whole_136 (by decide) (fun z => absurd z (show ¬ c.1 ≤ 0 from m_ok3.pos b1 d0)) (fun _ => ?_)
              have er : r_frame R = (1007, (0, kd, la, false, mkd, lsz, lrd, ln, mrd, crd, fm, msg, sc, c)) := by
                rw [← hR, hla]
                dsimp only [r_frame]
                rw [hsh, if_pos (show mkd = 1 ∧ ¬ c.1 = 0 from ⟨m1, d0⟩)]
                rfl
              rw [er, t_putx (by decide) (by decide)]
              refine x_aload_n 0 dX7_whole_139 rfl (by first | rfl | assumption) ?_
              refine x_sipush 1007 dX7_whole_140 (by decide) ?_
              refine cl_X7_whole_143 (sm_ends (x := 1007) (V0 := V0) hm hr1 hw m_x1007 hv (0, kd, la, false, mkd, lsz, lrd, ln, mrd, crd, fm, msg, sc, c)) hm.1 (Nat.le_of_ble_eq_true rfl) ⟨Nat.le_of_ble_eq_true rfl, Nat.le_of_ble_eq_true rfl⟩ (fun r gq hq => ?_)
              have hr0 := hq.1
              subst hr0
              refine x_goto 153 dX7_whole_146 (by decide) ?_
              refine x_vret rfl dX7_whole_153 (by decide) (by decide) ?_
              exact hq
          · refine x_icmp_ne 149 dX7_whole_129 (by decide) (fun _ => ?_) (fun z => absurd z m1)
            exact h149 (fun z => m1 z.1)
end MdlZ
