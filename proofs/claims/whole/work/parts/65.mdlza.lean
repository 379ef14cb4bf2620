/-! the reference: bytes of the mask and of the content -/
section MdlZa
variable {G : q_G} {h0 h : q_H} {B : Nat → Nat} {V V' V0 : Nat → Value} {F F' : Nat → Nat → Int32} {l : List Int32} {st ec dl pg : Int32} {rq out dr : List Int32} {R R0 : z_R} {w : List z_Ms} {pl kd mkd lsz lrd mrd crd : Int32} {la uw : Bool} {ln : Int64} {fm : Nat → Int32} {msg sc : List Int32} {c : z_T3}
theorem r_read_full {b : Int32} {R R' : z_R} (e : r_part R b = (0, R')) (hf : r_full R' = true) : r_read R b = r_frame (r_at0 R') := by
  unfold r_read
  rw [e, if_pos ⟨rfl, hf⟩]
theorem r_read_part {b : Int32} {R R' : z_R} (e : r_part R b = (0, R')) (hf : r_full R' = false) : r_read R b = (0, R') := by
  unfold r_read
  rw [e, if_neg (fun z => by rw [hf] at z; cases z.2)]
theorem m_cl3 {k : Nat} : (nI (k % 4)).toNatClampNeg = k % 4 := nI_clamp (by omega)
theorem m_and3 {k : Nat} (hk : k < 2 ^ 31) : nI k &&& 3 = nI (k % 4) := pk_andN (by omega) 2 (by rfl)
theorem sm_maskByte {b : Int32} (hm : k_m h0 h B V F) (hr : m_rs V F st ec dl pg rq out dr w) (hf : m_fr V F (3, kd, la, uw, mkd, lsz, lrd, ln, mrd, crd, fm, msg, sc, c)) (hw : st = 1 → out.length ≤ 470) (hb : m_by b) : q_SP G mX7_maskByte [.ref (B 0), .int b] h 0 0 (m_goes h0 B V (t_frame (st, ec, dl, pg, rq, out, dr, (3, kd, la, uw, mkd, lsz, lrd, ln, mrd, crd, fm, msg, sc, c), w) b)) := by
  obtain ⟨g1, f20, g3, g4⟩ := hf
  obtain ⟨⟨f14, f13, hk⟩, g5⟩ := g4 (by decide)
  have hp3 : ∃ n k, m_p3 V F kd ln mrd fm msg sc n k := by
    rcases g5 with z | z | z | z
    · exact absurd z.1 (by decide)
    · exact absurd z.1 (by decide)
    · exact z.2
    · exact absurd z.1 (by decide)
  clear g4 g5
  obtain ⟨n, k, f15, hln, f17, hmrd, hk4, hfm, hs1, hs2⟩ := hp3
  subst hmrd
  rw [t_frame_put]
  have ek : (nI k &&& 3).toNatClampNeg = k := by rw [m_and3 (by omega), nI_clamp (by omega)]; omega
  have v0 : vp_in (nI k) 4 := vp_in_nI hk4 (by omega)
  have hr1 : ∀ v f, m_rs (m_u V 17 v) (m_u F 7 f) st ec dl pg rq out dr w := fun v f => hr.cg (by rintro j (rfl | rfl | rfl | rfl | rfl | rfl | rfl | rfl) <;> rfl) (by rintro j (rfl | rfl | rfl | rfl | rfl | rfl) <;> rfl) (m_c3.ex hr.2.2.2.2.2.1 (by rintro j (rfl | rfl | rfl) <;> rfl))
  have hfm2 : ∀ j, j < k + 1 → upd (F 7) k b j = upd fm k b j ∧ m_by (upd fm k b j) := by
    intro j hj
    by_cases hjk : j = k
    · rw [hjk, pk_us, pk_us]; exact ⟨rfl, hb⟩
    · rw [pk_un hjk, pk_un hjk]; exact hfm j (by omega)
  refine q_enter (M := mX7_maskByte) (by decide +kernel) rfl (Nat.le_of_ble_eq_true rfl) ?_
  refine x_aload_n 0 dX7_maskByte_0 rfl (by first | rfl | assumption) ?_
  refine gf_X7_maskByte_28 dX7_maskByte_1 hm.1 (congrArg some hm.r18) ?_
  refine x_aload_n 0 dX7_maskByte_4 rfl (by first | rfl | assumption) ?_
  refine gf_X7_maskByte_301 dX7_maskByte_5 hm.1 (congrArg some f17) ?_
  refine x_iload_n 1 dX7_maskByte_8 rfl (by first | rfl | assumption) ?_
  refine x_iast dX7_maskByte_9 (by first | exact hm.a1 | exact hm.a2 | exact hm.a3 | exact hm.a4 | exact hm.a5 | exact hm.a6 | exact hm.a7 | exact hm.a8 | exact hm.a9 | exact hm.a10 | exact hm.a11 | exact hm.a12 | exact hm.a13 | exact hm.a14 | exact hm.a15) (by assumption) ?_
  refine x_ga hm (by decide) rfl (fun gm hm => ?_)
  refine x_aload_n 0 dX7_maskByte_10 rfl (by first | rfl | assumption) ?_
  refine x_dup dX7_maskByte_11 rfl ?_
  refine gf_X7_maskByte_301 dX7_maskByte_12 hm.1 (congrArg some f17) ?_
  refine x_iconst 1 dX7_maskByte_15 (by decide) ?_
  refine x_iadd dX7_maskByte_16 ?_
  refine pf_X7_maskByte_301 dX7_maskByte_17 hm.1 (Nat.le_of_ble_eq_true rfl) ?_
  refine x_gm hm (fun gm hm f17 => ?_)
  refine x_aload_n 0 dX7_maskByte_20 rfl (by first | rfl | assumption) ?_
  refine gf_X7_maskByte_301 dX7_maskByte_21 hm.1 (congrArg some f17) ?_
  refine x_iconst 4 dX7_maskByte_24 (by decide) ?_
  rw [nI_clamp (by omega), nI_1] at hm
  rw [nI_1]
  by_cases c3 : k + 1 < 4
  · refine x_icmp_ge 29 dX7_maskByte_25 (by decide) (fun z => absurd z (nI_ge (b := 4) c3 (by omega))) (fun _ => ?_)
    refine x_vret rfl dX7_maskByte_28 (by decide) (by decide) ?_
    have e : r_read (3, kd, la, uw, mkd, lsz, lrd, ln, nI k, crd, fm, msg, sc, c) b = (0, (3, kd, la, uw, mkd, lsz, lrd, ln, nI (k + 1), crd, upd fm k b, msg, sc, c)) := by
      refine r_read_of ?_ (fun _ => show (3 : Int32) ≠ 4 by decide)
      rw [r_part_3 rfl]
      dsimp only [r_mask]
      rw [ek, nI_1, if_neg (show ¬ nI (k + 1) = 4 from fun z => absurd ((nI_eq (b := 4) (by omega) (by omega)).mp z) (by omega))]
    rw [e, t_put0]
    exact ⟨rfl, _, _, hm, rfl, hr1 _ _, fun _ => ⟨g1, f20, fun z => g3 z, fun _ => ⟨⟨f14, f13, hk⟩, Or.inr (Or.inr (Or.inl ⟨rfl, n, k + 1, f15, hln, rfl, rfl, c3, hfm2, hs1, hs2⟩))⟩⟩⟩
  · have k3 : k = 3 := by omega
    subst k3
    refine x_icmp_ge 29 dX7_maskByte_25 (by decide) (fun _ => ?_) (fun z => absurd (show (4 : Int32) ≤ nI (3 + 1) by decide) z)
    have ep : r_part (3, kd, la, uw, mkd, lsz, lrd, ln, nI 3, crd, fm, msg, sc, c) b = (0, (4, kd, la, uw, mkd, lsz, lrd, ln, nI 3 + 1, 0, upd fm 3 b, msg, sc, c)) := by
      rw [r_part_3 rfl]
      dsimp only [r_mask]
      rw [ek]
      rfl
    refine x_aload_n 0 dX7_maskByte_29 rfl (by first | rfl | assumption) ?_
    refine x_iconst 0 dX7_maskByte_30 (by decide) ?_
    refine pf_X7_maskByte_301 dX7_maskByte_31 hm.1 (Nat.le_of_ble_eq_true rfl) ?_
    refine x_gm hm (fun gm hm f17 => ?_)
    refine x_aload_n 0 dX7_maskByte_34 rfl (by first | rfl | assumption) ?_
    refine x_iconst 4 dX7_maskByte_35 (by decide) ?_
    refine pf_X7_maskByte_288 dX7_maskByte_36 hm.1 (Nat.le_of_ble_eq_true rfl) ?_
    refine x_gm hm (fun gm hm f12 => ?_)
    refine x_aload_n 0 dX7_maskByte_39 rfl (by first | rfl | assumption) ?_
    refine gf_X7_maskByte_295 dX7_maskByte_40 hm.1 (congrArg some f15) ?_
    refine x_lconst 0 dX7_maskByte_43 (by decide) ?_
    refine x_lcmp dX7_maskByte_44 ?_
    rw [m_uu] at hm
    by_cases n0 : n = 0
    · subst n0
      refine x_if_ne 52 dX7_maskByte_45 (by decide) (fun z => absurd ((lg_cmp_eq _ _).mpr hln) z) (fun _ => ?_)
      have ef : r_full (4, kd, la, uw, mkd, lsz, lrd, ln, nI 3 + 1, 0, upd fm 3 b, msg, sc, c) = true := by
        rw [hln]
        rfl
      rw [r_read_full ep ef]
      refine x_aload_n 0 dX7_maskByte_48 rfl (by first | rfl | assumption) ?_
      refine cl_X7_maskByte_49 (sm_whole (V0 := V) (R0 := (3, kd, la, uw, mkd, lsz, lrd, ln, nI 3, crd, fm, msg, sc, c)) (lsz := lsz) (lrd := lrd) (ln := ln) (mrd := nI 3 + 1) (crd := 0) (fm := upd fm 3 b) (sc := sc) (V := m_u (m_u V 17 (.int 0)) 12 (.int 4)) hm (hr1 (.int 0) (upd (F 7) 3 b)) hw f14 f13 f20 (fun z => g3 z) hk (fun z => by rw [(hs1 z).2]; exact ⟨rfl, fun j hj => absurd hj (Nat.not_lt_zero j), Nat.zero_le _, fun x hx => by cases hx⟩) rfl) hm.1 (Nat.le_of_ble_eq_true rfl) ⟨Nat.le_of_ble_eq_true rfl, Nat.le_of_ble_eq_true rfl⟩ (fun r gq hq => ?_)
      have hr0 := hq.1
      subst hr0
      refine x_vret rfl dX7_maskByte_52 (by decide) (by decide) ?_
      exact hq
    · have hn63 : n < 2 ^ 63 := by
        cases hx : r_short kd with
        | true => have := (hs1 hx).1; omega
        | false => have := hs2 hx; omega
      have hl0 : ¬ ln = 0 := by
        rw [hln]
        exact fun z => n0 ((pk_lEQ (b := 0) hn63 (by decide)).mp z)
      refine x_if_ne 52 dX7_maskByte_45 (by decide) (fun _ => ?_) (fun z => absurd z (fun z => hl0 ((lg_cmp_eq _ _).mp z)))
      refine x_vret rfl dX7_maskByte_52 (by decide) (by decide) ?_
      have ef : r_full (4, kd, la, uw, mkd, lsz, lrd, ln, nI 3 + 1, 0, upd fm 3 b, msg, sc, c) = false := by
        unfold r_full
        dsimp only
        rw [decide_eq_false (show ¬ (0 : Int32).toInt64 = ln from fun z => hl0 z.symm), Bool.and_false]
      rw [r_read_part ep ef, t_put0]
      refine ⟨rfl, _, _, hm, rfl, hr1 (.int 0) _, fun _ => ⟨rfl, f20, fun z => g3 z, fun _ => ⟨⟨f14, f13, hk⟩, Or.inr (Or.inr (Or.inr ⟨rfl, n, 0, f15, hln, rfl, rfl, by omega, hfm2, fun z => ?_, fun z => ?_⟩))⟩⟩⟩
      · rw [(hs1 z).2]
        exact ⟨(hs1 z).1, rfl, fun j hj => absurd hj (Nat.not_lt_zero j), fun x hx => by cases hx⟩
      · have := hs2 z
        exact ⟨by omega, by omega⟩
theorem m_sim.chk {c' : z_T3} (hs : m_sim c c') (b : Int32) : m_chk c' b = m_chk c b ∧ m_chr c' b = m_chr c b := by
  by_cases h0 : c.1 = 0
  · unfold m_chk m_chr
    have z : (0 : Int32) ≤ 0 := by decide
    rw [hs.1, h0]
    simp only [if_pos z, and_self]
  · rw [hs.2 h0]
    exact ⟨rfl, rfl⟩
theorem sm_contentByte {b : Int32} (hm : k_m h0 h B V F) (hr : m_rs V F st ec dl pg rq out dr w) (hf : m_fr V F (4, kd, la, uw, mkd, lsz, lrd, ln, mrd, crd, fm, msg, sc, c)) (hw : st = 1 → out.length ≤ 470) (hb : m_by b) : q_SP G mX7_contentByte [.ref (B 0), .int b] h 0 0 (m_goes h0 B V (t_frame (st, ec, dl, pg, rq, out, dr, (4, kd, la, uw, mkd, lsz, lrd, ln, mrd, crd, fm, msg, sc, c), w) b)) := by
  obtain ⟨g1, f20, g3, g4⟩ := hf
  obtain ⟨⟨f14, f13, hk⟩, g5⟩ := g4 (by decide)
  have hp4 : ∃ n k, m_p4 V F kd ln crd fm msg sc n k := by
    rcases g5 with z | z | z | z
    · exact absurd z.1 (by decide)
    · exact absurd z.1 (by decide)
    · exact absurd z.1 (by decide)
    · exact z.2
  clear g4 g5
  obtain ⟨n, k, f15, hln, f17, hcrd, hkn, hfm, hs1, hs2⟩ := hp4
  have hn300 : n ≤ 300 := by
    cases hx : r_short kd with
    | true => have := (hs1 hx).1; omega
    | false => exact (hs2 hx).1
  subst hcrd
  rw [t_frame_put]
  have ek : (nI k &&& 3).toNatClampNeg = k % 4 := by rw [m_and3 (by omega), m_cl3]
  have er : nI k - nI k / 4 * 4 = nI (k % 4) := pk_rem (d := 4) (by omega) (by decide) (by decide)
  have v0 : vp_in (nI k - nI k / 4 * 4) 4 := by rw [er]; exact vp_in_nI (by omega) (by omega)
  have hk4 : k % 4 < 4 := Nat.mod_lt _ (by decide)
  have hx : m_by (b ^^^ fm (k % 4)) := hb.xor (hfm _ hk4).2
  generalize hxx : b ^^^ fm (k % 4) = x at hx
  have h90 : ∀ (h1 : q_H) (V1 : Nat → Value) (F1 : Nat → Nat → Int32) (msg1 sc1 : List Int32) (c1 : z_T3), k_m h0 h1 B V1 F1 → m_rs V1 F1 st ec dl pg rq out dr w → (V1 0 = V 0 ∧ V1 12 = .int 4) → (V1 13 = .int (z_b la) ∧ V1 14 = .int kd ∧ V1 20 = .int (z_b uw)) → V1 15 = .long ln → V1 17 = .int (nI (k + 1)) → (uw = true → m_ms V1 F1 mkd msg1 c1) → (∀ j, j < 4 → F1 7 j = fm j ∧ m_by (fm j)) → (r_short kd = true → n ≤ 125 ∧ sc1.length = k + 1 ∧ m_l (F1 8) sc1 ∧ ∀ x ∈ sc1, m_by x) → (r_short kd = false → n ≤ 300 ∧ msg1.length + (n - (k + 1)) ≤ 300) → r_part (4, kd, la, uw, mkd, lsz, lrd, ln, mrd, nI k, fm, msg, sc, c) b = (0, (4, kd, la, uw, mkd, lsz, lrd, ln, mrd, nI (k + 1), fm, msg1, sc1, c1)) → q_X G mX7_contentByte (q_R mX7_contentByte 0 0) (q_FN G (m_goes h0 B V (t_put (st, ec, dl, pg, rq, out, dr, (4, kd, la, uw, mkd, lsz, lrd, ln, mrd, nI k, fm, msg, sc, c), w) (r_read (4, kd, la, uw, mkd, lsz, lrd, ln, mrd, nI k, fm, msg, sc, c) b))) 0 0) 90 [(0, .ref (B 0)), (1, .int b), (2, .int x)] [] h1 0 0 := by
    intro h1 V1 F1 msg1 sc1 c1 hm hr1 k0 kk f15 f17 g3 hfm hs1 hs2 ep
    refine x_aload_n 0 dX7_contentByte_90 rfl (by first | rfl | assumption) ?_
    refine gf_X7_contentByte_301 dX7_contentByte_91 hm.1 (congrArg some f17) ?_
    refine x_i2l dX7_contentByte_94 ?_
    refine x_aload_n 0 dX7_contentByte_95 rfl (by first | rfl | assumption) ?_
    refine gf_X7_contentByte_295 dX7_contentByte_96 hm.1 (congrArg some f15) ?_
    refine x_lcmp dX7_contentByte_99 ?_
    have e64 : (nI (k + 1)).toInt64 = lN (k + 1) := nI_l (by omega)
    rw [e64]
    by_cases hc : k + 1 = n
    · have ef : r_full (4, kd, la, uw, mkd, lsz, lrd, ln, mrd, nI (k + 1), fm, msg1, sc1, c1) = true := by
        unfold r_full
        dsimp only
        rw [e64, hc, hln, decide_eq_true rfl, decide_eq_true rfl]
        rfl
      rw [r_read_full ep ef]
      refine x_if_ne 107 dX7_contentByte_100 (by decide) (fun z => absurd ((lg_cmp_eq _ _).mpr (by rw [hc, hln])) z) (fun _ => ?_)
      refine x_aload_n 0 dX7_contentByte_103 rfl (by first | rfl | assumption) ?_
      refine cl_X7_contentByte_104 (sm_whole (V0 := V) (R0 := (4, kd, la, uw, mkd, lsz, lrd, ln, mrd, nI k, fm, msg, sc, c)) (lsz := lsz) (lrd := lrd) (ln := ln) (mrd := mrd) (crd := nI (k + 1)) (fm := fm) (sc := sc1) hm hr1 hw kk.2.1 kk.1 kk.2.2 g3 hk (fun z => ⟨by rw [(hs1 z).2.1]; exact f17, (hs1 z).2.2.1, by have := (hs1 z).2.1; have := (hs1 z).1; omega, (hs1 z).2.2.2⟩) k0.1) hm.1 (Nat.le_of_ble_eq_true rfl) ⟨Nat.le_of_ble_eq_true rfl, Nat.le_of_ble_eq_true rfl⟩ (fun r gq hq => ?_)
      have hr0 := hq.1
      subst hr0
      refine x_vret rfl dX7_contentByte_107 (by decide) (by decide) ?_
      exact hq
    · have hne : ¬ lN (k + 1) = ln := by
        rw [hln]
        exact fun z => hc ((pk_lEQ (by omega) (by omega)).mp z)
      have ef : r_full (4, kd, la, uw, mkd, lsz, lrd, ln, mrd, nI (k + 1), fm, msg1, sc1, c1) = false := by
        unfold r_full
        dsimp only
        rw [e64, decide_eq_false hne, Bool.and_false]
      rw [r_read_part ep ef, t_put0]
      refine x_if_ne 107 dX7_contentByte_100 (by decide) (fun _ => ?_) (fun z => absurd z (fun z => hne ((lg_cmp_eq _ _).mp z)))
      refine x_vret rfl dX7_contentByte_107 (by decide) (by decide) ?_
      exact ⟨rfl, _, _, hm, k0.1, hr1, fun _ => ⟨k0.2, kk.2.2, g3, fun _ => ⟨⟨kk.2.1, kk.1, hk⟩, Or.inr (Or.inr (Or.inr ⟨rfl, n, k + 1, f15, hln, f17, rfl, by omega, hfm, hs1, hs2⟩))⟩⟩⟩
  refine q_enter (M := mX7_contentByte) (by decide +kernel) rfl (Nat.le_of_ble_eq_true rfl) ?_
  refine x_iload_n 1 dX7_contentByte_0 rfl (by first | rfl | assumption) ?_
  refine x_aload_n 0 dX7_contentByte_1 rfl (by first | rfl | assumption) ?_
  refine gf_X7_contentByte_28 dX7_contentByte_2 hm.1 (congrArg some hm.r18) ?_
  refine x_aload_n 0 dX7_contentByte_5 rfl (by first | rfl | assumption) ?_
  refine gf_X7_contentByte_301 dX7_contentByte_6 hm.1 (congrArg some f17) ?_
  refine x_iconst 4 dX7_contentByte_9 (by decide) ?_
  refine x_irem dX7_contentByte_10 (by decide) ?_
  refine x_iald dX7_contentByte_11 (by first | exact hm.a1 | exact hm.a2 | exact hm.a3 | exact hm.a4 | exact hm.a5 | exact hm.a6 | exact hm.a7 | exact hm.a8 | exact hm.a9 | exact hm.a10 | exact hm.a11 | exact hm.a12 | exact hm.a13 | exact hm.a14 | exact hm.a15) (by assumption) ?_
  refine x_ixor dX7_contentByte_12 ?_
  rw [er, m_cl3, (hfm _ hk4).1, hxx]
  refine x_istore_n 2 dX7_contentByte_13 rfl (by decide) rfl ?_
  refine x_aload_n 0 dX7_contentByte_14 rfl (by first | rfl | assumption) ?_
  refine x_dup dX7_contentByte_15 rfl ?_
  refine gf_X7_contentByte_301 dX7_contentByte_16 hm.1 (congrArg some f17) ?_
  refine x_iconst 1 dX7_contentByte_19 (by decide) ?_
  refine x_iadd dX7_contentByte_20 ?_
  refine pf_X7_contentByte_301 dX7_contentByte_21 hm.1 (Nat.le_of_ble_eq_true rfl) ?_
  refine x_gm hm (fun gm hm f17 => ?_)
  rw [nI_1] at hm f17
  have hr1 : m_rs (m_u V 17 (.int (nI (k + 1)))) F st ec dl pg rq out dr w := hr.cg (by rintro j (rfl | rfl | rfl | rfl | rfl | rfl | rfl | rfl) <;> rfl) (fun _ _ => rfl) (m_c3.ex hr.2.2.2.2.2.1 (by rintro j (rfl | rfl | rfl) <;> rfl))
  refine x_aload_n 0 dX7_contentByte_24 rfl (by first | rfl | assumption) ?_
  refine cl_X7_contentByte_25 (sm_isBrief hm f14) hm.1 (Nat.le_of_ble_eq_true rfl) ⟨Nat.le_of_ble_eq_true rfl, Nat.le_of_ble_eq_true rfl⟩ (fun r gq hq => ?_)
  obtain ⟨rfl, hg⟩ := hq
  rw [hg]
  have hrp := r_part_4 (R := (4, kd, la, uw, mkd, lsz, lrd, ln, mrd, nI k, fm, msg, sc, c)) (b := b) rfl
  dsimp only [r_content] at hrp
  rw [ek, hxx, nI_1] at hrp
  cases hsh : r_short kd with
  | true =>
    obtain ⟨a1, a2, a3, a4⟩ := hs1 hsh
    refine x_if_eq 46 dX7_contentByte_28 (by decide) (fun z => absurd z (show ¬ z_b true = 0 by decide)) (fun _ => ?_)
    have v1 : vp_in (nI (k + 1) - 1) 125 := by rw [nI_pred]; exact vp_in_nI (by omega) (by omega)
    refine x_aload_n 0 dX7_contentByte_31 rfl (by first | rfl | assumption) ?_
    refine gf_X7_contentByte_31 dX7_contentByte_32 hm.1 (congrArg some hm.r19) ?_
    refine x_aload_n 0 dX7_contentByte_35 rfl (by first | rfl | assumption) ?_
    refine gf_X7_contentByte_301 dX7_contentByte_36 hm.1 (congrArg some f17) ?_
    refine x_iconst 1 dX7_contentByte_39 (by decide) ?_
    refine x_isub dX7_contentByte_40 ?_
    refine x_iload_n 2 dX7_contentByte_41 rfl (by first | rfl | assumption) ?_
    refine x_iast dX7_contentByte_42 (by first | exact hm.a1 | exact hm.a2 | exact hm.a3 | exact hm.a4 | exact hm.a5 | exact hm.a6 | exact hm.a7 | exact hm.a8 | exact hm.a9 | exact hm.a10 | exact hm.a11 | exact hm.a12 | exact hm.a13 | exact hm.a14 | exact hm.a15) (by assumption) ?_
    refine x_ga hm (by decide) rfl (fun gm hm => ?_)
    refine x_goto 90 dX7_contentByte_43 (by decide) ?_
    rw [nI_pred, nI_clamp (by omega)] at hm
    have hl8 := a3.add x
    rw [a2] at hl8
    rw [hsh] at hrp
    refine h90 _ _ _ msg (sc ++ [x]) c hm (hr1.cg (fun _ _ => rfl) (by rintro j (rfl | rfl | rfl | rfl | rfl | rfl) <;> rfl) hr1.2.2.2.2.2.1) ⟨rfl, g1⟩ ⟨f13, f14, f20⟩ f15 rfl (fun z => g3 z) hfm (fun z => ⟨a1, by rw [List.length_append, a2]; rfl, hl8, fun y hy => ?_⟩) (fun z => by rw [hsh] at z; cases z) ?_
    · rcases List.mem_append.mp hy with h | h
      · exact a4 y h
      · rw [List.mem_singleton.mp h]; exact hx
    · rw [hrp, if_pos rfl]
      unfold r_add
      rw [if_pos (by omega)]
  | false =>
    have hu := hk.way hsh
    obtain ⟨f21, f22, g5, g6, g7, g8⟩ := id (g3 hu)
    obtain ⟨a1, a2⟩ := hs2 hsh
    rw [hsh, if_neg (by decide)] at hrp
    refine x_if_eq 46 dX7_contentByte_28 (by decide) (fun _ => ?_) (fun z => absurd (show z_b false = 0 from rfl) z)
    have v1 : vp_in (nI msg.length) 300 := vp_in_nI (by omega) (by omega)
    refine x_aload_n 0 dX7_contentByte_46 rfl (by first | rfl | assumption) ?_
    refine gf_X7_contentByte_34 dX7_contentByte_47 hm.1 (congrArg some hm.r23) ?_
    refine x_aload_n 0 dX7_contentByte_50 rfl (by first | rfl | assumption) ?_
    refine gf_X7_contentByte_285 dX7_contentByte_51 hm.1 (congrArg some f22) ?_
    refine x_iload_n 2 dX7_contentByte_54 rfl (by first | rfl | assumption) ?_
    refine x_iast dX7_contentByte_55 (by first | exact hm.a1 | exact hm.a2 | exact hm.a3 | exact hm.a4 | exact hm.a5 | exact hm.a6 | exact hm.a7 | exact hm.a8 | exact hm.a9 | exact hm.a10 | exact hm.a11 | exact hm.a12 | exact hm.a13 | exact hm.a14 | exact hm.a15) (by assumption) ?_
    refine x_ga hm (by decide) rfl (fun gm hm => ?_)
    refine x_aload_n 0 dX7_contentByte_56 rfl (by first | rfl | assumption) ?_
    refine x_dup dX7_contentByte_57 rfl ?_
    refine gf_X7_contentByte_285 dX7_contentByte_58 hm.1 (congrArg some f22) ?_
    refine x_iconst 1 dX7_contentByte_61 (by decide) ?_
    refine x_iadd dX7_contentByte_62 ?_
    refine pf_X7_contentByte_285 dX7_contentByte_63 hm.1 (Nat.le_of_ble_eq_true rfl) ?_
    refine x_gm hm (fun gm hm f22 => ?_)
    rw [nI_clamp (by omega), nI_1] at hm
    have hadd : r_add 300 msg x = msg ++ [x] := by unfold r_add; rw [if_pos (by omega)]
    have hlen : (msg ++ [x]).length = msg.length + 1 := by rw [List.length_append]; rfl
    rw [hadd] at hrp
    have hr2 : m_rs (m_u (m_u V 17 (.int (nI (k + 1)))) 22 (.int (nI (msg.length + 1)))) (m_u F 9 (upd (F 9) msg.length x)) st ec dl pg rq out dr w := hr1.cg (by rintro j (rfl | rfl | rfl | rfl | rfl | rfl | rfl | rfl) <;> rfl) (by rintro j (rfl | rfl | rfl | rfl | rfl | rfl) <;> rfl) (m_c3.ex hr1.2.2.2.2.2.1 (by rintro j (rfl | rfl | rfl) <;> rfl))
    refine x_aload_n 0 dX7_contentByte_66 rfl (by first | rfl | assumption) ?_
    refine gf_X7_contentByte_282 dX7_contentByte_67 hm.1 (congrArg some f21) ?_
    refine x_iconst 1 dX7_contentByte_70 (by decide) ?_
    by_cases m1 : mkd = 1
    · rw [if_pos m1] at hrp
      obtain ⟨b1, c', b2, b3⟩ := g8 m1
      obtain ⟨b4, b5⟩ := b3.chk x
      obtain ⟨b6, b7⟩ := m_u8 b1 x
      refine x_icmp_ne 90 dX7_contentByte_71 (by decide) (fun z => absurd m1 z) (fun _ => ?_)
      refine x_aload_n 0 dX7_contentByte_74 rfl (by first | rfl | assumption) ?_
      refine x_iload_n 2 dX7_contentByte_75 rfl (by first | rfl | assumption) ?_
      refine cl_X7_contentByte_76 (sm_character (c := c') hm b2 x) hm.1 (Nat.le_of_ble_eq_true rfl) ⟨Nat.le_of_ble_eq_true rfl, Nat.le_of_ble_eq_true rfl⟩ (fun r gq hq => ?_)
      obtain ⟨rfl, hm⟩ := hq
      rw [b4]
      rw [b5] at hm
      have hr3 : m_rs (m_s3 (m_u (m_u V 17 (.int (nI (k + 1)))) 22 (.int (nI (msg.length + 1)))) (m_chr c x)) (m_u F 9 (upd (F 9) msg.length x)) st ec dl pg rq out dr w := hr2.cg (by rintro j (rfl | rfl | rfl | rfl | rfl | rfl | rfl | rfl) <;> rfl) (fun _ _ => rfl) ⟨_, rfl, rfl, rfl⟩
      cases hck : m_chk c x with
      | false =>
        rw [b7 hck] at hrp
        refine x_if_ne 90 dX7_contentByte_79 (by decide) (fun z => absurd (show z_b false = 0 from rfl) z) (fun _ => ?_)
        rw [r_read_of hrp (fun z => absurd z (by decide)), t_putx (by decide) (by decide)]
        refine x_aload_n 0 dX7_contentByte_82 rfl (by first | rfl | assumption) ?_
        refine x_sipush 1007 dX7_contentByte_83 (by decide) ?_
        refine cl_X7_contentByte_86 (sm_ends (x := 1007) (V0 := V) hm hr3 hw m_x1007 rfl (4, kd, la, uw, mkd, lsz, lrd, ln, mrd, nI (k + 1), fm, msg, sc, c)) hm.1 (Nat.le_of_ble_eq_true rfl) ⟨Nat.le_of_ble_eq_true rfl, Nat.le_of_ble_eq_true rfl⟩ (fun r gq hq => ?_)
        have hr0 := hq.1
        subst hr0
        refine x_vret rfl dX7_contentByte_89 (by decide) (by decide) ?_
        exact hq
      | true =>
        obtain ⟨u1, u2⟩ := b6 hck
        rw [u1] at hrp
        refine x_if_ne 90 dX7_contentByte_79 (by decide) (fun _ => ?_) (fun z => absurd z (show ¬ z_b true = 0 by decide))
        exact h90 _ _ _ (msg ++ [x]) sc (m_chr c x) hm hr3 ⟨rfl, g1⟩ ⟨f13, f14, f20⟩ f15 rfl (fun z => ⟨f21, by rw [hlen]; rfl, g5.add x, by omega, g7, fun _ => ⟨u2, _, ⟨rfl, rfl, rfl⟩, rfl, fun _ => rfl⟩⟩) hfm (fun z => by rw [hsh] at z; cases z) (fun _ => ⟨a1, by omega⟩) hrp
    · rw [if_neg m1] at hrp
      refine x_icmp_ne 90 dX7_contentByte_71 (by decide) (fun _ => ?_) (fun z => absurd z m1)
      exact h90 _ _ _ (msg ++ [x]) sc c hm hr2 ⟨rfl, g1⟩ ⟨f13, f14, f20⟩ f15 rfl (fun z => ⟨f21, by rw [hlen]; rfl, g5.add x, by omega, g7, fun z => absurd z m1⟩) hfm (fun z => by rw [hsh] at z; cases z) (fun _ => ⟨a1, by omega⟩) hrp
end MdlZa
