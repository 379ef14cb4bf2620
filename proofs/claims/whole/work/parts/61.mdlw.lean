/-! the reference: the length of a frame -/
section MdlW
variable {G : q_G} {h0 h : q_H} {B : Nat → Nat} {V V' V0 : Nat → Value} {F F' : Nat → Nat → Int32} {l : List Int32} {st ec dl pg : Int32} {rq out dr : List Int32} {R R0 : z_R} {w : List z_Ms} {pl kd mkd lsz lrd mrd crd : Int32} {la uw : Bool} {ln : Int64} {fm : Nat → Int32} {msg sc : List Int32} {c : z_T3}
theorem m_kd.way (hk : m_kd kd uw) (hs : r_short kd = false) : uw = true := by
  rcases hk with (z | z | z) | z
  · rw [z] at hs; cases hs
  · rw [z] at hs; cases hs
  · rw [z] at hs; cases hs
  · exact z.2
theorem m_300 : ∀ L, L < 301 → 300 - (nI L).toInt64 = (300 - nI L).toInt64 := by decide +kernel
theorem m_301 {L : Nat} (hL : L ≤ 300) : (300 - nI L).toInt64 = lN (300 - L) := by
  rw [show (300 : Int32) - nI L = nI (300 - L) from pk_sub (a := 300) hL, nI_l (by omega)]
theorem r_len_read {b : Int32} (e : r_part R b = r_len (pl, kd, la, uw, mkd, lsz, lrd, ln, mrd, crd, fm, msg, sc, c)) : r_read R b = r_len (pl, kd, la, uw, mkd, lsz, lrd, ln, mrd, crd, fm, msg, sc, c) := by
  dsimp only [r_len] at e ⊢
  by_cases hc : r_short kd = false ∧ (300 - nI msg.length).toInt64 < ln
  · rw [if_pos hc] at e ⊢
    exact r_read_of e (fun z => absurd z (by decide))
  · rw [if_neg hc] at e ⊢
    exact r_read_of e (fun _ => show (3 : Int32) ≠ 4 by decide)
theorem sm_knownl {n : Nat} (hm : k_m h0 h B V F) (hr : m_rs V F st ec dl pg rq out dr w) (hw : st = 1 → out.length ≤ 470) (f14 : V 14 = .int kd) (f13 : V 13 = .int (z_b la)) (f15 : V 15 = .long ln) (f20 : V 20 = .int (z_b uw)) (g3 : uw = true → m_ms V F mkd msg c) (hk : m_kd kd uw) (hl : ln = lN n) (hn : n < 2 ^ 63) (hs : r_short kd = true → n ≤ 125 ∧ sc = []) (hv : V 0 = V0 0) : q_SP G mX7_measured [.ref (B 0)] h 0 0 (m_goes h0 B V0 (t_put (st, ec, dl, pg, rq, out, dr, R0, w) (r_len (pl, kd, la, uw, mkd, lsz, lrd, ln, mrd, crd, fm, msg, sc, c)))) := by
  refine q_SP.to (sm_measured hm hr.1.1 f14 f15 (wl := nI msg.length) (fun z => (g3 (hk.way z)).2.1) hr.2.2.1 (by have := hr.2.2.2.2.2.2.1; omega)) ?_
  intro o h' hq
  by_cases hc : r_short kd = false ∧ 300 - (nI msg.length).toInt64 < ln
  · have hL := (g3 (hk.way hc.1)).2.2.2.1
    rw [if_pos hc] at hq
    have hc2 : r_short kd = false ∧ (300 - nI msg.length).toInt64 < ln := ⟨hc.1, by rw [← m_300 _ (by omega)]; exact hc.2⟩
    dsimp only [r_len]
    rw [if_pos hc2, t_putx (by decide) (by decide)]
    exact hq.goes hr hw m_x1009 hv
  · rw [if_neg hc] at hq
    obtain ⟨rfl, hm2⟩ := hq
    have hc2 : ¬ (r_short kd = false ∧ (300 - nI msg.length).toInt64 < ln) := fun z => hc ⟨z.1, by
      have hL := (g3 (hk.way z.1)).2.2.2.1
      rw [m_300 _ (by omega)]; exact z.2⟩
    dsimp only [r_len]
    rw [if_neg hc2, t_put0]
    have hrs : m_rs (m_u (m_u V 12 (.int 3)) 17 (.int 0)) F st ec dl pg rq out dr w := hr.cg (by rintro j (rfl | rfl | rfl | rfl | rfl | rfl | rfl | rfl) <;> rfl) (fun _ _ => rfl) (m_c3.ex hr.2.2.2.2.2.1 (by rintro j (rfl | rfl | rfl) <;> rfl))
    refine ⟨rfl, _, _, hm2, hv, hrs, fun _ => ⟨rfl, f20, fun z => g3 z, fun _ => ⟨⟨f14, f13, hk⟩, Or.inr (Or.inr (Or.inl ⟨rfl, n, 0, f15, hl, rfl, rfl, by omega, fun j hj => absurd hj (Nat.not_lt_zero j), hs, fun z => ?_⟩))⟩⟩⟩
    have hL := (g3 (hk.way z)).2.2.2.1
    have h1 : ¬ (300 - nI msg.length).toInt64 < ln := fun y => hc2 ⟨z, y⟩
    rw [m_301 hL, hl, pk_lLT (by omega) hn] at h1
    omega
theorem m_by_second : ∀ n, n < 256 → (125 < nI n &&& 127 → nI n &&& 127 = 126 ∨ nI n &&& 127 = 127) ∧ (¬ 125 < nI n &&& 127 → n % 128 ≤ 125 ∧ ¬ nI n &&& 127 = 126 ∧ ¬ nI n &&& 127 = 127) ∧ (nI n &&& 127).toInt64 = lN (n % 128) := by decide +kernel
/-- the second byte -/
theorem sm_second {b : Int32} (hm : k_m h0 h B V F) (hr : m_rs V F st ec dl pg rq out dr w) (hf : m_fr V F (1, kd, la, uw, mkd, lsz, lrd, ln, mrd, crd, fm, msg, sc, c)) (hw : st = 1 → out.length ≤ 470) (hb : m_by b) : q_SP G mX7_second [.ref (B 0), .int b] h 0 0 (m_goes h0 B V (t_frame (st, ec, dl, pg, rq, out, dr, (1, kd, la, uw, mkd, lsz, lrd, ln, mrd, crd, fm, msg, sc, c), w) b)) := by
  obtain ⟨n, hn, rfl⟩ := hb
  obtain ⟨-, -, y3⟩ := m_by_first n hn
  obtain ⟨z1, z2, z3⟩ := m_by_second n hn
  obtain ⟨g1, f20, g3, g4⟩ := hf
  obtain ⟨⟨f14, f13, hk⟩, g5⟩ := g4 (by decide)
  have hsc : r_short kd = true → sc = [] := by
    rcases g5 with z | z | z | z
    · exact z.2
    · exact absurd z.1 (by decide)
    · exact absurd z.1 (by decide)
    · exact absurd z.1 (by decide)
  clear g4 g5
  rw [t_frame_put]
  generalize hb : nI n = b at y3 z1 z2 z3 ⊢
  have h26 : (b < 128 ∨ (r_short kd = true ∧ 125 < b &&& 127)) → q_X G mX7_second (q_R mX7_second 0 0) (q_FN G (m_goes h0 B V (t_put (st, ec, dl, pg, rq, out, dr, (1, kd, la, uw, mkd, lsz, lrd, ln, mrd, crd, fm, msg, sc, c), w) (r_read (1, kd, la, uw, mkd, lsz, lrd, ln, mrd, crd, fm, msg, sc, c) b))) 0 0) 26 [(0, .ref (B 0)), (1, .int b), (2, .int (b &&& 127))] [] h 0 0 := by
    intro hc
    have e : r_read (1, kd, la, uw, mkd, lsz, lrd, ln, mrd, crd, fm, msg, sc, c) b = (1002, (1, kd, la, uw, mkd, lsz, lrd, ln, mrd, crd, fm, msg, sc, c)) := by
      refine r_read_of ?_ (fun z => absurd z (by decide))
      rw [r_part_1 rfl]
      dsimp only [r_second]
      rw [if_pos hc]
    rw [e, t_putx (by decide) (by decide)]
    refine x_aload_n 0 dX7_second_26 rfl (by first | rfl | assumption) ?_
    refine x_sipush 1002 dX7_second_27 (by decide) ?_
    refine cl_X7_second_30 (sm_ends (x := 1002) (V0 := V) hm hr hw m_x1002 rfl (1, kd, la, uw, mkd, lsz, lrd, ln, mrd, crd, fm, msg, sc, c)) hm.1 (Nat.le_of_ble_eq_true rfl) ⟨Nat.le_of_ble_eq_true rfl, Nat.le_of_ble_eq_true rfl⟩ (fun r gq hq => ?_)
    have hr0 := hq.1
    subst hr0
    refine x_vret rfl dX7_second_33 (by decide) (by decide) ?_
    exact hq
  have h34 : ¬ (b < 128 ∨ (r_short kd = true ∧ 125 < b &&& 127)) → q_X G mX7_second (q_R mX7_second 0 0) (q_FN G (m_goes h0 B V (t_put (st, ec, dl, pg, rq, out, dr, (1, kd, la, uw, mkd, lsz, lrd, ln, mrd, crd, fm, msg, sc, c), w) (r_read (1, kd, la, uw, mkd, lsz, lrd, ln, mrd, crd, fm, msg, sc, c) b))) 0 0) 34 [(0, .ref (B 0)), (1, .int b), (2, .int (b &&& 127))] [] h 0 0 := by
    intro hc
    refine x_aload_n 0 dX7_second_34 rfl (by first | rfl | assumption) ?_
    refine x_iload_n 2 dX7_second_35 rfl (by first | rfl | assumption) ?_
    refine x_i2l dX7_second_36 ?_
    refine pf_X7_second_295 dX7_second_37 hm.1 (Nat.le_of_ble_eq_true rfl) ?_
    refine x_gm hm (fun gm hm f15 => ?_)
    refine x_aload_n 0 dX7_second_40 rfl (by first | rfl | assumption) ?_
    by_cases c1 : 125 < b &&& 127
    · have hsh : r_short kd = false := by
        cases hx : r_short kd with
        | false => rfl
        | true => exact absurd (Or.inr ⟨hx, c1⟩) hc
      have e : r_read (1, kd, la, uw, mkd, lsz, lrd, ln, mrd, crd, fm, msg, sc, c) b = (0, (2, kd, la, uw, mkd, if b &&& 127 = 126 then 2 else 8, 0, 0, mrd, crd, fm, msg, sc, c)) := by
        refine r_read_of ?_ (fun _ => show (2 : Int32) ≠ 4 by decide)
        rw [r_part_1 rfl]
        dsimp only [r_second]
        rw [if_neg hc, if_pos c1]
      rw [e, t_put0]
      have h63 : ∀ y : Int32, y = (if b &&& 127 = 126 then 2 else 8) → ¬ y = 0 → q_X G mX7_second (q_R mX7_second 0 0) (q_FN G (m_goes h0 B V (st, ec, dl, pg, rq, out, dr, (2, kd, la, uw, mkd, if b &&& 127 = 126 then 2 else 8, 0, 0, mrd, crd, fm, msg, sc, c), w)) 0 0) 63 [(0, .ref (B 0)), (1, .int b), (2, .int (b &&& 127))] [.int y, .ref (B 0)] gm 0 0 := by
        intro y hy hy0
        refine pf_X7_second_304 dX7_second_63 hm.1 (Nat.le_of_ble_eq_true rfl) ?_
        refine x_gm hm (fun gm hm f16 => ?_)
        refine x_aload_n 0 dX7_second_66 rfl (by first | rfl | assumption) ?_
        refine gf_X7_second_304 dX7_second_67 hm.1 (congrArg some f16) ?_
        refine x_if_ne 78 dX7_second_70 (by decide) (fun _ => ?_) (fun z => absurd z hy0)
        refine x_aload_n 0 dX7_second_78 rfl (by first | rfl | assumption) ?_
        refine x_lconst 0 dX7_second_79 (by decide) ?_
        refine pf_X7_second_295 dX7_second_80 hm.1 (Nat.le_of_ble_eq_true rfl) ?_
        refine x_gm hm (fun gm hm f15 => ?_)
        refine x_aload_n 0 dX7_second_83 rfl (by first | rfl | assumption) ?_
        refine x_iconst 0 dX7_second_84 (by decide) ?_
        refine pf_X7_second_301 dX7_second_85 hm.1 (Nat.le_of_ble_eq_true rfl) ?_
        refine x_gm hm (fun gm hm f17 => ?_)
        refine x_aload_n 0 dX7_second_88 rfl (by first | rfl | assumption) ?_
        refine x_iconst 2 dX7_second_89 (by decide) ?_
        refine pf_X7_second_288 dX7_second_90 hm.1 (Nat.le_of_ble_eq_true rfl) ?_
        refine x_gm hm (fun gm hm f12 => ?_)
        refine x_vret rfl dX7_second_93 (by decide) (by decide) ?_
        refine ⟨rfl, _, _, hm, rfl, ?_, fun _ => ?_⟩
        · exact hr.cg (by rintro j (rfl | rfl | rfl | rfl | rfl | rfl | rfl | rfl) <;> rfl) (fun _ _ => rfl) (m_c3.ex hr.2.2.2.2.2.1 (by rintro j (rfl | rfl | rfl) <;> rfl))
        · rw [← hy]
          exact ⟨rfl, f20, fun z => g3 z, fun _ => ⟨⟨f14, f13, hk⟩, Or.inr (Or.inl ⟨rfl, hsh, rfl, rfl, rfl⟩)⟩⟩
      refine x_iload_n 2 dX7_second_41 rfl (by first | rfl | assumption) ?_
      refine x_bipush 126 dX7_second_42 (by decide) ?_
      rcases z1 c1 with c2 | c2
      · refine x_icmp_ne 51 dX7_second_44 (by decide) (fun z => absurd c2 z) (fun _ => ?_)
        refine x_iconst 2 dX7_second_47 (by decide) ?_
        refine x_goto 63 dX7_second_48 (by decide) ?_
        exact h63 2 (by rw [if_pos c2]) (by decide)
      · have c3 : ¬ b &&& 127 = 126 := by rw [c2]; decide
        refine x_icmp_ne 51 dX7_second_44 (by decide) (fun _ => ?_) (fun z => absurd z c3)
        refine x_iload_n 2 dX7_second_51 rfl (by first | rfl | assumption) ?_
        refine x_bipush 127 dX7_second_52 (by decide) ?_
        refine x_icmp_ne 62 dX7_second_54 (by decide) (fun z => absurd c2 z) (fun _ => ?_)
        refine x_bipush 8 dX7_second_57 (by decide) ?_
        refine x_goto 63 dX7_second_59 (by decide) ?_
        exact h63 8 (by rw [if_neg c3]) (by decide)
    · obtain ⟨u1, u2, u3⟩ := z2 c1
      have e : r_read (1, kd, la, uw, mkd, lsz, lrd, ln, mrd, crd, fm, msg, sc, c) b = r_len (1, kd, la, uw, mkd, lsz, lrd, (b &&& 127).toInt64, mrd, crd, fm, msg, sc, c) := by
        refine r_len_read ?_
        rw [r_part_1 rfl]
        dsimp only [r_second]
        rw [if_neg hc, if_neg c1]
      rw [e]
      refine x_iload_n 2 dX7_second_41 rfl (by first | rfl | assumption) ?_
      refine x_bipush 126 dX7_second_42 (by decide) ?_
      refine x_icmp_ne 51 dX7_second_44 (by decide) (fun _ => ?_) (fun z => absurd z u2)
      refine x_iload_n 2 dX7_second_51 rfl (by first | rfl | assumption) ?_
      refine x_bipush 127 dX7_second_52 (by decide) ?_
      refine x_icmp_ne 62 dX7_second_54 (by decide) (fun _ => ?_) (fun z => absurd z u3)
      refine x_iconst 0 dX7_second_62 (by decide) ?_
      refine pf_X7_second_304 dX7_second_63 hm.1 (Nat.le_of_ble_eq_true rfl) ?_
      refine x_gm hm (fun gm hm f16 => ?_)
      refine x_aload_n 0 dX7_second_66 rfl (by first | rfl | assumption) ?_
      refine gf_X7_second_304 dX7_second_67 hm.1 (congrArg some f16) ?_
      refine x_if_ne 78 dX7_second_70 (by decide) (fun z => absurd rfl z) (fun _ => ?_)
      have hrs1 : m_rs (m_u (m_u V 15 (.long (b &&& 127).toInt64)) 16 (.int 0)) F st ec dl pg rq out dr w := (hr.cg (by rintro j (rfl | rfl | rfl | rfl | rfl | rfl | rfl | rfl) <;> rfl) (fun _ _ => rfl) (m_c3.ex hr.2.2.2.2.2.1 (by rintro j (rfl | rfl | rfl) <;> rfl)))
      refine x_aload_n 0 dX7_second_73 rfl (by first | rfl | assumption) ?_
      refine cl_X7_second_74 (sm_knownl (V0 := V) (n := n % 128) (R0 := (1, kd, la, uw, mkd, lsz, lrd, ln, mrd, crd, fm, msg, sc, c)) (pl := 1) (lsz := lsz) (lrd := lrd) (mrd := mrd) (crd := crd) (fm := fm) hm hrs1 hw f14 f13 rfl f20 (fun z => g3 z) hk z3 (by omega) (fun z => ⟨u1, hsc z⟩) rfl) hm.1 (Nat.le_of_ble_eq_true rfl) ⟨Nat.le_of_ble_eq_true rfl, Nat.le_of_ble_eq_true rfl⟩ (fun r gq hq => ?_)
      have hr0 := hq.1
      subst hr0
      refine x_vret rfl dX7_second_77 (by decide) (by decide) ?_
      exact hq
  refine q_enter (M := mX7_second) (by decide +kernel) rfl (Nat.le_of_ble_eq_true rfl) ?_
  refine x_iload_n 1 dX7_second_0 rfl (by first | rfl | assumption) ?_
  refine x_sipush 128 dX7_second_1 (by decide) ?_
  refine x_irem dX7_second_4 (by decide) ?_
  rw [← y3]
  refine x_istore_n 2 dX7_second_5 rfl (by decide) rfl ?_
  refine x_iload_n 1 dX7_second_6 rfl (by first | rfl | assumption) ?_
  refine x_sipush 128 dX7_second_7 (by decide) ?_
  by_cases d0 : b < 128
  · refine x_icmp_lt 26 dX7_second_10 (by decide) (fun _ => ?_) (fun z => absurd d0 z)
    exact h26 (Or.inl d0)
  · refine x_icmp_lt 26 dX7_second_10 (by decide) (fun z => absurd z d0) (fun _ => ?_)
    refine x_aload_n 0 dX7_second_13 rfl (by first | rfl | assumption) ?_
    refine cl_X7_second_14 (sm_isBrief hm f14) hm.1 (Nat.le_of_ble_eq_true rfl) ⟨Nat.le_of_ble_eq_true rfl, Nat.le_of_ble_eq_true rfl⟩ (fun r gq hq => ?_)
    obtain ⟨rfl, hg⟩ := hq
    rw [hg]
    cases hx : r_short kd with
    | false =>
      rw [hx] at h34
      refine x_if_eq 34 dX7_second_17 (by decide) (fun _ => ?_) (fun z => absurd (show z_b false = 0 from rfl) z)
      exact h34 (fun z => z.elim d0 (fun y => by cases y.1))
    | true =>
      rw [hx] at h34 h26
      refine x_if_eq 34 dX7_second_17 (by decide) (fun z => absurd z (show ¬ z_b true = 0 by decide)) (fun _ => ?_)
      refine x_iload_n 2 dX7_second_20 rfl (by first | rfl | assumption) ?_
      refine x_bipush 125 dX7_second_21 (by decide) ?_
      by_cases c1 : 125 < b &&& 127
      · refine x_icmp_le 34 dX7_second_23 (by decide) (fun z => absurd z (Int32.not_le.mpr c1)) (fun _ => ?_)
        exact h26 (Or.inr ⟨rfl, c1⟩)
      · refine x_icmp_le 34 dX7_second_23 (by decide) (fun _ => ?_) (fun z => absurd (Int32.not_lt.mp c1) z)
        exact h34 (fun z => z.elim d0 (fun y => c1 y.2))
/-- a byte of the length -/
theorem sm_lengthByte {b : Int32} (hm : k_m h0 h B V F) (hr : m_rs V F st ec dl pg rq out dr w) (hf : m_fr V F (2, kd, la, uw, mkd, lsz, lrd, ln, mrd, crd, fm, msg, sc, c)) (hw : st = 1 → out.length ≤ 470) : q_SP G mX7_lengthByte [.ref (B 0), .int b] h 0 0 (m_goes h0 B V (t_frame (st, ec, dl, pg, rq, out, dr, (2, kd, la, uw, mkd, lsz, lrd, ln, mrd, crd, fm, msg, sc, c), w) b)) := by
  obtain ⟨g1, f20, g3, g4⟩ := hf
  obtain ⟨⟨f14, f13, hk⟩, g5⟩ := g4 (by decide)
  have hp2 : m_p2 V kd lsz lrd ln := by
    rcases g5 with z | z | z | z
    · exact absurd z.1 (by decide)
    · exact z.2
    · exact absurd z.1 (by decide)
    · exact absurd z.1 (by decide)
  clear g4 g5
  obtain ⟨hsh, f15, f16, f17⟩ := hp2
  rw [t_frame_put]
  generalize hL : ln <<< ((8 : Int32).toInt64 &&& 63) ||| b.toInt64 = L
  have ep : r_part (2, kd, la, uw, mkd, lsz, lrd, ln, mrd, crd, fm, msg, sc, c) b = if lsz ≤ lrd + 1 then (if L < (if lsz = 2 then (126 : Int32) else 65536).toInt64 then (1002, (2, kd, la, uw, mkd, lsz, lrd + 1, L, mrd, crd, fm, msg, sc, c)) else r_len (2, kd, la, uw, mkd, lsz, lrd + 1, L, mrd, crd, fm, msg, sc, c)) else (0, (2, kd, la, uw, mkd, lsz, lrd + 1, L, mrd, crd, fm, msg, sc, c)) := by
    rw [← hL, r_part_2 rfl]
    rfl
  refine q_enter (M := mX7_lengthByte) (by decide +kernel) rfl (Nat.le_of_ble_eq_true rfl) ?_
  refine x_aload_n 0 dX7_lengthByte_0 rfl (by first | rfl | assumption) ?_
  refine x_aload_n 0 dX7_lengthByte_1 rfl (by first | rfl | assumption) ?_
  refine gf_X7_lengthByte_295 dX7_lengthByte_2 hm.1 (congrArg some f15) ?_
  refine x_bipush 8 dX7_lengthByte_5 (by decide) ?_
  refine x_lshl dX7_lengthByte_7 ?_
  refine x_iload_n 1 dX7_lengthByte_8 rfl (by first | rfl | assumption) ?_
  refine x_i2l dX7_lengthByte_9 ?_
  refine x_lor dX7_lengthByte_10 ?_
  refine pf_X7_lengthByte_295 dX7_lengthByte_11 hm.1 (Nat.le_of_ble_eq_true rfl) ?_
  refine x_gm hm (fun gm hm f15 => ?_)
  rw [hL] at hm f15
  refine x_aload_n 0 dX7_lengthByte_14 rfl (by first | rfl | assumption) ?_
  refine x_dup dX7_lengthByte_15 rfl ?_
  refine gf_X7_lengthByte_301 dX7_lengthByte_16 hm.1 (congrArg some f17) ?_
  refine x_iconst 1 dX7_lengthByte_19 (by decide) ?_
  refine x_iadd dX7_lengthByte_20 ?_
  refine pf_X7_lengthByte_301 dX7_lengthByte_21 hm.1 (Nat.le_of_ble_eq_true rfl) ?_
  refine x_gm hm (fun gm hm f17 => ?_)
  refine x_aload_n 0 dX7_lengthByte_24 rfl (by first | rfl | assumption) ?_
  refine gf_X7_lengthByte_301 dX7_lengthByte_25 hm.1 (congrArg some f17) ?_
  refine x_aload_n 0 dX7_lengthByte_28 rfl (by first | rfl | assumption) ?_
  refine gf_X7_lengthByte_304 dX7_lengthByte_29 hm.1 (congrArg some f16) ?_
  have hrs : m_rs (m_u (m_u V 15 (.long L)) 17 (.int (lrd + 1))) F st ec dl pg rq out dr w := hr.cg (by rintro j (rfl | rfl | rfl | rfl | rfl | rfl | rfl | rfl) <;> rfl) (fun _ _ => rfl) (m_c3.ex hr.2.2.2.2.2.1 (by rintro j (rfl | rfl | rfl) <;> rfl))
  by_cases c1 : lsz ≤ lrd + 1
  · rw [if_pos c1] at ep
    refine x_icmp_ge 36 dX7_lengthByte_32 (by decide) (fun _ => ?_) (fun z => absurd c1 z)
    have h69 : L < (if lsz = 2 then (126 : Int32) else 65536).toInt64 → q_X G mX7_lengthByte (q_R mX7_lengthByte 0 0) (q_FN G (m_goes h0 B V (t_put (st, ec, dl, pg, rq, out, dr, (2, kd, la, uw, mkd, lsz, lrd, ln, mrd, crd, fm, msg, sc, c), w) (r_read (2, kd, la, uw, mkd, lsz, lrd, ln, mrd, crd, fm, msg, sc, c) b))) 0 0) 69 [(0, .ref (B 0)), (1, .int b)] [] gm 0 0 := by
      intro c2
      rw [if_pos c2] at ep
      rw [r_read_of ep (fun z => absurd z (by decide)), t_putx (by decide) (by decide)]
      refine x_aload_n 0 dX7_lengthByte_69 rfl (by first | rfl | assumption) ?_
      refine x_sipush 1002 dX7_lengthByte_70 (by decide) ?_
      refine cl_X7_lengthByte_73 (sm_ends (x := 1002) (V0 := V) hm hrs hw m_x1002 rfl (2, kd, la, uw, mkd, lsz, lrd + 1, L, mrd, crd, fm, msg, sc, c)) hm.1 (Nat.le_of_ble_eq_true rfl) ⟨Nat.le_of_ble_eq_true rfl, Nat.le_of_ble_eq_true rfl⟩ (fun r gq hq => ?_)
      have hr0 := hq.1
      subst hr0
      refine x_goto 83 dX7_lengthByte_76 (by decide) ?_
      refine x_vret rfl dX7_lengthByte_83 (by decide) (by decide) ?_
      exact hq
    have h79 : ¬ L < (if lsz = 2 then (126 : Int32) else 65536).toInt64 → q_X G mX7_lengthByte (q_R mX7_lengthByte 0 0) (q_FN G (m_goes h0 B V (t_put (st, ec, dl, pg, rq, out, dr, (2, kd, la, uw, mkd, lsz, lrd, ln, mrd, crd, fm, msg, sc, c), w) (r_read (2, kd, la, uw, mkd, lsz, lrd, ln, mrd, crd, fm, msg, sc, c) b))) 0 0) 79 [(0, .ref (B 0)), (1, .int b)] [] gm 0 0 := by
      intro c2
      rw [if_neg c2] at ep
      rw [r_len_read ep]
      have h0L : ¬ L < 0 := by
        intro z
        refine c2 ?_
        rw [Int64.lt_iff_toInt_lt] at z ⊢
        split
        · have a1 : (126 : Int32).toInt64.toInt = 126 := rfl
          have a2 : (0 : Int64).toInt = 0 := rfl
          omega
        · have a1 : (65536 : Int32).toInt64.toInt = 65536 := rfl
          have a2 : (0 : Int64).toInt = 0 := rfl
          omega
      obtain ⟨k, hk63, hLk⟩ := pk_lOf h0L
      refine x_aload_n 0 dX7_lengthByte_79 rfl (by first | rfl | assumption) ?_
      refine cl_X7_lengthByte_80 (sm_knownl (V0 := V) (n := k) (R0 := (2, kd, la, uw, mkd, lsz, lrd, ln, mrd, crd, fm, msg, sc, c)) (pl := 2) (lsz := lsz) (lrd := lrd + 1) (sc := sc) (mrd := mrd) (crd := crd) (fm := fm) hm hrs hw f14 f13 rfl f20 (fun z => g3 z) hk hLk hk63 (fun z => by rw [hsh] at z; cases z) rfl) hm.1 (Nat.le_of_ble_eq_true rfl) ⟨Nat.le_of_ble_eq_true rfl, Nat.le_of_ble_eq_true rfl⟩ (fun r gq hq => ?_)
      have hr0 := hq.1
      subst hr0
      refine x_vret rfl dX7_lengthByte_83 (by decide) (by decide) ?_
      exact hq
    refine x_aload_n 0 dX7_lengthByte_36 rfl (by first | rfl | assumption) ?_
    refine gf_X7_lengthByte_304 dX7_lengthByte_37 hm.1 (congrArg some f16) ?_
    refine x_iconst 2 dX7_lengthByte_40 (by decide) ?_
    by_cases c3 : lsz = 2
    · rw [if_pos c3] at h69 h79
      refine x_icmp_ne 58 dX7_lengthByte_41 (by decide) (fun z => absurd c3 z) (fun _ => ?_)
      refine x_aload_n 0 dX7_lengthByte_44 rfl (by first | rfl | assumption) ?_
      refine gf_X7_lengthByte_295 dX7_lengthByte_45 hm.1 (congrArg some f15) ?_
      refine k2_X7_lengthByte_310 dX7_lengthByte_48 ?_
      refine x_lcmp dX7_lengthByte_51 ?_
      by_cases c2 : L < (126 : Int32).toInt64
      · refine x_if_ge 79 dX7_lengthByte_52 (by decide) (fun z => absurd z (fun z => Int64.not_lt.mpr ((lg_cmp_ge _ _).mp z) c2)) (fun _ => ?_)
        refine x_goto 69 dX7_lengthByte_55 (by decide) ?_
        exact h69 c2
      · refine x_if_ge 79 dX7_lengthByte_52 (by decide) (fun _ => ?_) (fun z => absurd ((lg_cmp_ge _ _).mpr (Int64.not_lt.mp c2)) z)
        exact h79 c2
    · rw [if_neg c3] at h69 h79
      refine x_icmp_ne 58 dX7_lengthByte_41 (by decide) (fun _ => ?_) (fun z => absurd z c3)
      refine x_aload_n 0 dX7_lengthByte_58 rfl (by first | rfl | assumption) ?_
      refine gf_X7_lengthByte_295 dX7_lengthByte_59 hm.1 (congrArg some f15) ?_
      refine k2_X7_lengthByte_312 dX7_lengthByte_62 ?_
      refine x_lcmp dX7_lengthByte_65 ?_
      by_cases c2 : L < (65536 : Int32).toInt64
      · refine x_if_ge 79 dX7_lengthByte_66 (by decide) (fun z => absurd z (fun z => Int64.not_lt.mpr ((lg_cmp_ge _ _).mp z) c2)) (fun _ => ?_)
        exact h69 c2
      · refine x_if_ge 79 dX7_lengthByte_66 (by decide) (fun _ => ?_) (fun z => absurd ((lg_cmp_ge _ _).mpr (Int64.not_lt.mp c2)) z)
        exact h79 c2
  · rw [if_neg c1] at ep
    refine x_icmp_ge 36 dX7_lengthByte_32 (by decide) (fun z => absurd z c1) (fun _ => ?_)
    refine x_vret rfl dX7_lengthByte_35 (by decide) (by decide) ?_
    rw [r_read_of ep (fun _ => show (2 : Int32) ≠ 4 by decide), t_put0]
    exact ⟨rfl, _, _, hm, rfl, hrs, fun _ => ⟨g1, f20, fun z => g3 z, fun _ => ⟨⟨f14, f13, hk⟩, Or.inr (Or.inl ⟨rfl, hsh, rfl, f16, rfl⟩)⟩⟩⟩
end MdlW
