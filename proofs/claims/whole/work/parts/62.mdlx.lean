/-! the reference: a frame is whole -/
section MdlX
variable {G : q_G} {h0 h : q_H} {B : Nat → Nat} {V V' V0 : Nat → Value} {F F' : Nat → Nat → Int32} {l : List Int32} {st ec dl pg : Int32} {rq out dr : List Int32} {R R0 : z_R} {w : List z_Ms} {pl kd mkd lsz lrd mrd crd : Int32} {la uw : Bool} {ln : Int64} {fm : Nat → Int32} {msg sc : List Int32} {c : z_T3}
theorem m_rs.said {V2 : Nat → Value} {F2 : Nat → Nat → Int32} {out2 : List Int32} (hr : m_rs V F st ec dl pg rq out dr w) (q : m_oo V F V2 F2) (ho : m_o V2 F2 out2) (hl : out2.length ≤ 574) : m_rs V2 F2 st ec dl pg rq out2 dr w := by
  obtain ⟨⟨a1, a2, a3, a4⟩, b, -, ⟨d1, d2⟩, ⟨x1, x2, x3⟩, hc, -, o2⟩ := hr
  refine ⟨⟨(q.1 1 (by decide)).trans a1, (q.1 2 (by decide)).trans a2, (q.1 31 (by decide)).trans a3, (q.1 32 (by decide)).trans a4⟩, fun z => ⟨(q.1 4 (by decide)).trans (b z).1, by rw [q.2 1 (by decide)]; exact (b z).2⟩, ho, ⟨(q.1 11 (by decide)).trans d1, by rw [q.2 6 (by decide)]; exact d2⟩, ⟨(q.1 27 (by decide)).trans x1, x2, ?_⟩, m_c3.ex hc (fun j hj => q.1 j (by omega)), hl, o2⟩
  rw [q.2 10 (by decide), q.2 11 (by decide), q.2 12 (by decide)]
  exact x3
theorem m_rs.ended {x : Int32} (hr : m_rs V F st ec dl pg rq out dr w) : m_rs (m_u (m_u V 1 (.int 3)) 2 (.int x)) F 3 x dl pg rq out dr w :=
  ⟨⟨rfl, rfl, hr.1.2.2.1, hr.1.2.2.2⟩, fun z => absurd z (by decide), hr.2.2.1, hr.2.2.2.1, hr.2.2.2.2.1, hr.2.2.2.2.2⟩
theorem m_pair {sc : List Int32} (hby : ∀ x ∈ sc, m_by x) (h2 : 2 ≤ sc.length) : [r_pair sc / 256, r_pair sc - r_pair sc / 256 * 256] = sc.take 2 := by
  match sc, h2 with
  | x :: y :: t, _ =>
    obtain ⟨a, ha, rfl⟩ := hby x (by simp)
    obtain ⟨b, hb, rfl⟩ := hby y (by simp)
    have e : r_pair (nI a :: nI b :: t) = nI (a * 256 + b) := by
      unfold r_pair
      rw [if_neg (by simp)]
      show nI a * 256 + nI b = _
      rw [show (256 : Int32) = nI 256 from rfl, pk_mul, nI_add]
    rw [e, show (256 : Int32) = nI 256 from rfl, pk_rem (by omega) (by decide) (by decide), pk_div (by omega) (by decide) (by decide)]
    show [nI ((a * 256 + b) / 256), nI ((a * 256 + b) % 256)] = [nI a, nI b]
    rw [show (a * 256 + b) / 256 = a by omega, show (a * 256 + b) % 256 = b by omega]
def t_closed : z_S → z_R → List Int32 → z_S
  | (st, _, dl, pg, rq, out, dr, _, w), R, sc => (3, if 2 ≤ sc.length then r_pair sc else 1005, dl, pg, rq, if st = 1 then out ++ [136, nI (t_two sc)] ++ sc.take (t_two sc) else out, dr, R, w)
/-- a close has come -/
theorem sm_closed (hm : k_m h0 h B V F) (hr : m_rs V F st ec dl pg rq out dr w) (hw : st = 1 → out.length ≤ 470) (f17 : V 17 = .int (nI sc.length)) (hl : m_l (F 8) sc) (hN : sc.length ≤ 125) (hby : ∀ x ∈ sc, m_by x) (hv : V 0 = V0 0) (R : z_R) : q_SP G mX7_closed [.ref (B 0)] h 0 0 (m_goes h0 B V0 (if r_close sc = 1 then t_closed (st, ec, dl, pg, rq, out, dr, R, w) R sc else t_violate (st, ec, dl, pg, rq, out, dr, R, w) (r_close sc))) := by
  obtain ⟨c0, hc0⟩ := hr.2.2.2.2.2.1
  have f1 := hr.1.1
  have u0 : vp_in 0 125 := by unfold vp_in; decide
  have u1 : vp_in 1 125 := by unfold vp_in; decide
  have h55 : ∀ x1 : Int32, r_close sc = 1002 → q_X G mX7_closed (q_R mX7_closed 0 0) (q_FN G (m_goes h0 B V0 (if r_close sc = 1 then t_closed (st, ec, dl, pg, rq, out, dr, R, w) R sc else t_violate (st, ec, dl, pg, rq, out, dr, R, w) (r_close sc))) 0 0) 55 [(0, .ref (B 0)), (1, .int x1)] [] h 0 0 := by
    intro x1 hc
    rw [hc, if_neg (by decide)]
    refine x_aload_n 0 dX7_closed_55 rfl (by first | rfl | assumption) ?_
    refine x_sipush 1002 dX7_closed_56 (by decide) ?_
    refine cl_X7_closed_59 (sm_ends (x := 1002) (V0 := V0) hm hr hw m_x1002 hv R) hm.1 (Nat.le_of_ble_eq_true rfl) ⟨Nat.le_of_ble_eq_true rfl, Nat.le_of_ble_eq_true rfl⟩ (fun r gq hq => ?_)
    have hr0 := hq.1
    subst hr0
    refine x_vret rfl dX7_closed_62 (by decide) (by decide) ?_
    exact hq
  have h109 : ∀ (x1 : Int32) (h1 : q_H) (V1 : Nat → Value) (F1 : Nat → Nat → Int32) (out1 : List Int32), r_close sc = 1 → x1 = (if 2 ≤ sc.length then r_pair sc else 1005) → k_m h0 h1 B V1 F1 → m_rs V1 F1 st ec dl pg rq out1 dr w → out1 = (if st = 1 then out ++ [136, nI (t_two sc)] ++ sc.take (t_two sc) else out) → V1 0 = V0 0 → q_X G mX7_closed (q_R mX7_closed 0 0) (q_FN G (m_goes h0 B V0 (if r_close sc = 1 then t_closed (st, ec, dl, pg, rq, out, dr, R, w) R sc else t_violate (st, ec, dl, pg, rq, out, dr, R, w) (r_close sc))) 0 0) 109 [(0, .ref (B 0)), (1, .int x1)] [] h1 0 0 := by
    intro x1 h1 V1 F1 out1 hc hx hm hr1 ho1 hv1
    rw [if_pos hc]
    refine x_aload_n 0 dX7_closed_109 rfl (by first | rfl | assumption) ?_
    refine x_iconst 3 dX7_closed_110 (by decide) ?_
    refine pf_X7_closed_217 dX7_closed_111 hm.1 (Nat.le_of_ble_eq_true rfl) ?_
    refine x_gm hm (fun gm hm f1 => ?_)
    refine x_aload_n 0 dX7_closed_114 rfl (by first | rfl | assumption) ?_
    refine x_iload_n 1 dX7_closed_115 rfl (by first | rfl | assumption) ?_
    refine pf_X7_closed_266 dX7_closed_116 hm.1 (Nat.le_of_ble_eq_true rfl) ?_
    refine x_gm hm (fun gm hm f2 => ?_)
    refine x_vret rfl dX7_closed_119 (by decide) (by decide) ?_
    dsimp only [t_closed]
    rw [← hx, ← ho1]
    exact ⟨rfl, _, _, hm, hv1, hr1.ended, fun z => absurd rfl z⟩
  have h63 : ∀ (x1 : Int32), x1 = (if 2 ≤ sc.length then r_pair sc else 1005) → (sc.length = 0 ∨ 2 ≤ sc.length ∧ r_code (r_pair sc) = true) → q_X G mX7_closed (q_R mX7_closed 0 0) (q_FN G (m_goes h0 B V0 (if r_close sc = 1 then t_closed (st, ec, dl, pg, rq, out, dr, R, w) R sc else t_violate (st, ec, dl, pg, rq, out, dr, R, w) (r_close sc))) 0 0) 63 [(0, .ref (B 0)), (1, .int x1)] [] h 0 0 := by
    intro x1 hx hc
    have ec : r_close sc = if z_txt (sc.drop 2) then 1 else 1007 := by
      unfold r_close
      rcases hc with z | ⟨z1, z2⟩
      · rw [if_pos z, List.length_eq_zero_iff.mp z]
        rfl
      · rw [if_neg (by omega), if_pos z2]
    refine x_aload_n 0 dX7_closed_63 rfl (by first | rfl | assumption) ?_
    refine cl_X7_closed_64 (sm_isReason hm hc0 f17 hl hN) hm.1 (Nat.le_of_ble_eq_true rfl) ⟨Nat.le_of_ble_eq_true rfl, Nat.le_of_ble_eq_true rfl⟩ (fun r gq hq => ?_)
    obtain ⟨rfl, hm⟩ := hq
    cases ht : z_txt (sc.drop 2) with
    | false =>
      rw [ht] at ec
      rw [show r_close sc = 1007 from ec, if_neg (by decide)]
      refine x_if_ne 78 dX7_closed_67 (by decide) (fun z => absurd (show z_b false = 0 from rfl) z) (fun _ => ?_)
      refine x_aload_n 0 dX7_closed_70 rfl (by first | rfl | assumption) ?_
      refine x_sipush 1007 dX7_closed_71 (by decide) ?_
      refine cl_X7_closed_74 (sm_ends (x := 1007) (V0 := V0) hm hr hw m_x1007 hv R) hm.1 (Nat.le_of_ble_eq_true rfl) ⟨Nat.le_of_ble_eq_true rfl, Nat.le_of_ble_eq_true rfl⟩ (fun r gq hq => ?_)
      have hr0 := hq.1
      subst hr0
      refine x_vret rfl dX7_closed_77 (by decide) (by decide) ?_
      exact hq
    | true =>
      rw [ht] at ec
      have ec : r_close sc = 1 := ec
      refine x_if_ne 78 dX7_closed_67 (by decide) (fun _ => ?_) (fun z => absurd z (show ¬ z_b true = 0 by decide))
      refine x_aload_n 0 dX7_closed_78 rfl (by first | rfl | assumption) ?_
      refine gf_X7_closed_217 dX7_closed_79 hm.1 (congrArg some f1) ?_
      refine x_iconst 1 dX7_closed_82 (by decide) ?_
      have hol := hr.2.2.2.2.2.2.1
      by_cases hs : st = 1
      · refine x_icmp_ne 109 dX7_closed_83 (by decide) (fun z => absurd hs z) (fun _ => ?_)
        have hw1 := hw hs
        refine x_aload_n 0 dX7_closed_86 rfl (by first | rfl | assumption) ?_
        refine gf_X7_closed_301 dX7_closed_87 hm.1 (congrArg some f17) ?_
        rcases hc with hz0 | ⟨z1, z2⟩
        · have ez : sc = [] := List.length_eq_zero_iff.mp hz0
          refine x_if_ne 104 dX7_closed_90 (by decide) (fun z => absurd (show nI sc.length = 0 by rw [hz0]; rfl) z) (fun _ => ?_)
          refine x_aload_n 0 dX7_closed_93 rfl (by first | rfl | assumption) ?_
          refine x_bipush 8 dX7_closed_94 (by decide) ?_
          refine x_iconst 1 dX7_closed_96 (by decide) ?_
          refine x_iconst 0 dX7_closed_97 (by decide) ?_
          refine cl_X7_closed_98 (sm_head hm hr.2.2.1 (by omega) 8 true (n := 0) (by decide)) hm.1 (Nat.le_of_ble_eq_true rfl) ⟨Nat.le_of_ble_eq_true rfl, Nat.le_of_ble_eq_true rfl⟩ (fun r gq hq => ?_)
          obtain ⟨rfl, V2, F2, hm, q2, o2⟩ := hq
          refine x_goto 109 dX7_closed_101 (by decide) ?_
          refine h109 x1 _ V2 F2 _ ec hx hm (hr.said q2 o2 ?_) ?_ ((q2.1 0 (by decide)).trans hv)
          · rw [List.length_append]
            show _ + 2 ≤ _
            omega
          · rw [if_pos hs, ez]
            show _ = out ++ [136, nI 0] ++ []
            rw [List.append_nil]
            rfl
        · have ne : ¬ nI sc.length = 0 := nI_ne0 (by omega) (by omega)
          refine x_if_ne 104 dX7_closed_90 (by decide) (fun _ => ?_) (fun z => absurd z ne)
          refine x_aload_n 0 dX7_closed_104 rfl (by first | rfl | assumption) ?_
          refine x_iload_n 1 dX7_closed_105 rfl (by first | rfl | assumption) ?_
          refine cl_X7_closed_106 (sm_sayClose hm hr.2.2.1 (by omega) x1) hm.1 (Nat.le_of_ble_eq_true rfl) ⟨Nat.le_of_ble_eq_true rfl, Nat.le_of_ble_eq_true rfl⟩ (fun r gq hq => ?_)
          obtain ⟨rfl, V2, F2, hm, q2, o2⟩ := hq
          refine h109 x1 _ V2 F2 _ ec hx hm (hr.said q2 o2 ?_) ?_ ((q2.1 0 (by decide)).trans hv)
          · rw [List.length_append, List.length_append]
            show _ + 2 + 2 ≤ _
            omega
          · rw [if_pos hs, hx, if_pos z1, m_pair hby z1]
            unfold t_two
            rw [if_pos z1]
            rfl
      · refine x_icmp_ne 109 dX7_closed_83 (by decide) (fun _ => ?_) (fun z => absurd z hs)
        exact h109 x1 _ V F _ ec hx hm hr (by rw [if_neg hs]) hv
  have h31 : ∀ (x1 : Int32), x1 = (if 2 ≤ sc.length then r_pair sc else 1005) → q_X G mX7_closed (q_R mX7_closed 0 0) (q_FN G (m_goes h0 B V0 (if r_close sc = 1 then t_closed (st, ec, dl, pg, rq, out, dr, R, w) R sc else t_violate (st, ec, dl, pg, rq, out, dr, R, w) (r_close sc))) 0 0) 31 [(0, .ref (B 0))] [.int x1] h 0 0 := by
    intro x1 hx
    refine x_istore_n 1 dX7_closed_31 rfl (by decide) rfl ?_
    refine x_aload_n 0 dX7_closed_32 rfl (by first | rfl | assumption) ?_
    refine gf_X7_closed_301 dX7_closed_33 hm.1 (congrArg some f17) ?_
    refine x_iconst 1 dX7_closed_36 (by decide) ?_
    by_cases e1 : sc.length = 1
    · refine x_icmp_eq 55 dX7_closed_37 (by decide) (fun _ => ?_) (fun z => absurd (show nI sc.length = 1 by rw [e1]; rfl) z)
      refine h55 x1 ?_
      unfold r_close
      rw [if_neg (by omega), show r_code (r_pair sc) = false by unfold r_pair; rw [if_pos (by omega)]; rfl]
      rfl
    · refine x_icmp_eq 55 dX7_closed_37 (by decide) (fun z => absurd z (fun z => e1 ((nI_eq (b := 1) (by omega) (by omega)).mp z))) (fun _ => ?_)
      refine x_aload_n 0 dX7_closed_40 rfl (by first | rfl | assumption) ?_
      refine gf_X7_closed_301 dX7_closed_41 hm.1 (congrArg some f17) ?_
      refine x_iconst 1 dX7_closed_44 (by decide) ?_
      by_cases e2 : sc.length ≤ 1
      · refine x_icmp_le 63 dX7_closed_45 (by decide) (fun _ => ?_) (fun z => absurd (nI_le (b := 1) e2 (by omega)) z)
        exact h63 x1 hx (Or.inl (by omega))
      · refine x_icmp_le 63 dX7_closed_45 (by decide) (fun z => absurd z (nI_ge (a := 1) (by omega) (by omega))) (fun _ => ?_)
        refine x_iload_n 1 dX7_closed_48 rfl (by first | rfl | assumption) ?_
        refine cl_X7_closed_49 (sm_isCode x1) (Nat.le_of_ble_eq_true rfl) ⟨Nat.le_of_ble_eq_true rfl, Nat.le_of_ble_eq_true rfl⟩ (fun r gq hq => ?_)
        obtain ⟨rfl, hg⟩ := hq
        rw [hg]
        have hx2 : x1 = r_pair sc := by rw [hx, if_pos (by omega)]
        cases hcd : r_code x1 with
        | true =>
          refine x_if_ne 63 dX7_closed_52 (by decide) (fun _ => ?_) (fun z => absurd z (show ¬ z_b true = 0 by decide))
          exact h63 x1 hx (Or.inr ⟨by omega, by rw [← hx2]; exact hcd⟩)
        | false =>
          refine x_if_ne 63 dX7_closed_52 (by decide) (fun z => absurd (show z_b false = 0 from rfl) z) (fun _ => ?_)
          refine h55 x1 ?_
          unfold r_close
          rw [if_neg (by omega), ← hx2, hcd]
          rfl
  refine q_enter (M := mX7_closed) (by decide +kernel) rfl (Nat.le_of_ble_eq_true rfl) ?_
  refine x_aload_n 0 dX7_closed_0 rfl (by first | rfl | assumption) ?_
  refine gf_X7_closed_301 dX7_closed_1 hm.1 (congrArg some f17) ?_
  refine x_iconst 2 dX7_closed_4 (by decide) ?_
  by_cases e2 : 2 ≤ sc.length
  · refine x_icmp_ge 14 dX7_closed_5 (by decide) (fun _ => ?_) (fun z => absurd (nI_le (a := 2) e2 (by omega)) z)
    refine x_sipush 256 dX7_closed_14 (by decide) ?_
    refine x_aload_n 0 dX7_closed_17 rfl (by first | rfl | assumption) ?_
    refine gf_X7_closed_31 dX7_closed_18 hm.1 (congrArg some hm.r19) ?_
    refine x_iconst 0 dX7_closed_21 (by decide) ?_
    refine x_iald dX7_closed_22 (by first | exact hm.a1 | exact hm.a2 | exact hm.a3 | exact hm.a4 | exact hm.a5 | exact hm.a6 | exact hm.a7 | exact hm.a8 | exact hm.a9 | exact hm.a10 | exact hm.a11 | exact hm.a12 | exact hm.a13 | exact hm.a14 | exact hm.a15) (by assumption) ?_
    refine x_imul dX7_closed_23 ?_
    refine x_aload_n 0 dX7_closed_24 rfl (by first | rfl | assumption) ?_
    refine gf_X7_closed_31 dX7_closed_25 hm.1 (congrArg some hm.r19) ?_
    refine x_iconst 1 dX7_closed_28 (by decide) ?_
    refine x_iald dX7_closed_29 (by first | exact hm.a1 | exact hm.a2 | exact hm.a3 | exact hm.a4 | exact hm.a5 | exact hm.a6 | exact hm.a7 | exact hm.a8 | exact hm.a9 | exact hm.a10 | exact hm.a11 | exact hm.a12 | exact hm.a13 | exact hm.a14 | exact hm.a15) (by assumption) ?_
    refine x_iadd dX7_closed_30 ?_
    refine h31 _ ?_
    rw [if_pos e2]
    unfold r_pair
    rw [if_neg (by omega), show (0 : Int32).toNatClampNeg = 0 from rfl, show (1 : Int32).toNatClampNeg = 1 from rfl, hl 0 (by omega), hl 1 (by omega), Int32.mul_comm]
  · refine x_icmp_ge 14 dX7_closed_5 (by decide) (fun z => absurd z (nI_ge (b := 2) (a := sc.length) (by omega) (by omega))) (fun _ => ?_)
    refine x_sipush 1005 dX7_closed_8 (by decide) ?_
    refine x_goto 31 dX7_closed_11 (by decide) ?_
    exact h31 _ (by rw [if_neg e2])
end MdlX
