/-! the reference: the first byte of a frame -/
section MdlV
variable {G : q_G} {h0 h : q_H} {B : Nat → Nat} {V V' : Nat → Value} {F F' : Nat → Nat → Int32} {l : List Int32} {st ec dl pg : Int32} {rq out dr : List Int32} {R : z_R} {w : List z_Ms} {pl kd mkd lsz lrd mrd crd : Int32} {la uw : Bool} {ln : Int64} {fm : Nat → Int32} {msg sc : List Int32} {c : z_T3}
theorem r_full_no {R : z_R} (hp : R.1 ≠ 4) : r_full R = false := by
  obtain ⟨pl, kd, la, uw, mkd, lsz, lrd, ln, mrd, crd, fm, msg, sc, c⟩ := R
  unfold r_full
  dsimp only
  rw [decide_eq_false hp]
  rfl
theorem r_read_of {b x : Int32} {R R' : z_R} (e : r_part R b = (x, R')) (hn : x = 0 → R'.1 ≠ 4) : r_read R b = (x, R') := by
  rw [r_read_no, e]
  rw [e]
  intro z
  rw [r_full_no (hn z.1)] at z
  cases z.2
/-- the first byte -/
theorem sm_first {b : Int32} (hm : k_m h0 h B V F) (hr : m_rs V F st ec dl pg rq out dr w) (hf : m_fr V F (0, kd, la, uw, mkd, lsz, lrd, ln, mrd, crd, fm, msg, sc, c)) (hw : st = 1 → out.length ≤ 470) (hb : m_by b) : q_SP G mX7_first [.ref (B 0), .int b] h 0 0 (m_goes h0 B V (t_frame (st, ec, dl, pg, rq, out, dr, (0, kd, la, uw, mkd, lsz, lrd, ln, mrd, crd, fm, msg, sc, c), w) b)) := by
  obtain ⟨n, hn, rfl⟩ := hb
  obtain ⟨y1, y2, y3⟩ := m_by_first n hn
  obtain ⟨g1, f20, g3, -⟩ := hf
  generalize hb : nI n = b at y1 y2 ⊢
  rw [t_frame_put]
  have hbad : (decide (b &&& 112 = 0) && r_may (b &&& 15) (!decide (b < 128)) uw) = false → ∃ R', r_read (0, kd, la, uw, mkd, lsz, lrd, ln, mrd, crd, fm, msg, sc, c) b = (1002, R') := by
    intro hg
    refine ⟨(0, b &&& 15, !decide (b < 128), uw, mkd, lsz, lrd, ln, mrd, crd, fm, msg, sc, c), r_read_of (x := 1002) ?_ (fun z => absurd z (by decide))⟩
    · rw [r_part_0 rfl]
      dsimp only [r_first]
      by_cases h1 : b &&& 112 = 0
      · rw [decide_eq_true h1, Bool.true_and] at hg
        rw [if_pos h1, hg]
        rfl
      · rw [if_neg h1]
  have h126 : ∀ (g s : Bool) (x3 : Int32) (h1 : q_H), k_m h0 h1 B (m_u (m_u V 13 (.int (z_b (!decide (b < 128))))) 14 (.int (b &&& 15))) F → s = (decide (b &&& 15 = 1) || decide (b &&& 15 = 2)) → g = (decide (b &&& 112 = 0) && r_may (b &&& 15) (!decide (b < 128)) uw) → q_X G mX7_first (q_R mX7_first 0 0) (q_FN G (m_goes h0 B V (t_put (st, ec, dl, pg, rq, out, dr, (0, kd, la, uw, mkd, lsz, lrd, ln, mrd, crd, fm, msg, sc, c), w) (r_read (0, kd, la, uw, mkd, lsz, lrd, ln, mrd, crd, fm, msg, sc, c) b))) 0 0) 126 [(0, .ref (B 0)), (1, .int b), (2, .int (z_b s)), (3, .int x3)] [.int (z_b g)] h1 0 0 := by
    intro g s x3 h1 hm hs hg
    refine x_istore dX7_first_126 (by decide) rfl ?_
    refine x_iload dX7_first_128 (by first | rfl | assumption) ?_
    cases g with
    | false =>
      obtain ⟨R', e⟩ := hbad hg.symm
      rw [e, t_putx (by decide) (by decide)]
      refine x_if_ne 141 dX7_first_130 (by decide) (fun z => absurd (show z_b false = 0 from rfl) z) (fun _ => ?_)
      have hrs1 : m_rs (m_u (m_u V 13 (.int (z_b (!decide (b < 128))))) 14 (.int (b &&& 15))) F st ec dl pg rq out dr w := (hr.cg (by rintro j (rfl | rfl | rfl | rfl | rfl | rfl | rfl | rfl) <;> rfl) (fun _ _ => rfl) (m_c3.ex hr.2.2.2.2.2.1 (by rintro j (rfl | rfl | rfl) <;> rfl)))
      refine x_aload_n 0 dX7_first_133 rfl (by first | rfl | assumption) ?_
      refine x_sipush 1002 dX7_first_134 (by decide) ?_
      refine cl_X7_first_137 (sm_ends (x := 1002) (V0 := V) hm hrs1 hw m_x1002 rfl R') hm.1 (Nat.le_of_ble_eq_true rfl) ⟨Nat.le_of_ble_eq_true rfl, Nat.le_of_ble_eq_true rfl⟩ (fun r gq hq => ?_)
      have hr0 := hq.1
      subst hr0
      refine x_vret rfl dX7_first_140 (by decide) (by decide) ?_
      exact hq
    | true =>
      refine x_if_ne 141 dX7_first_130 (by decide) (fun _ => ?_) (fun z => absurd z (show ¬ z_b true = 0 by decide))
      have hg2 := hg.symm
      rw [Bool.and_eq_true, decide_eq_true_iff] at hg2
      obtain ⟨k1, k2⟩ := hg2
      refine x_iload_n 2 dX7_first_141 rfl (by first | rfl | assumption) ?_
      have f14 : (m_u (m_u V 13 (.int (z_b (!decide (b < 128))))) 14 (.int (b &&& 15))) 14 = .int (b &&& 15) := rfl
      cases s with
      | true =>
        have hk : b &&& 15 = 1 ∨ b &&& 15 = 2 := by
          have := hs.symm
          rw [Bool.or_eq_true, decide_eq_true_iff, decide_eq_true_iff] at this
          exact this
        have hsh : r_short (b &&& 15) = false := by rcases hk with z | z <;> rw [z] <;> rfl
        have h00 : ¬ b &&& 15 = 0 := by rcases hk with z | z <;> rw [z] <;> decide
        have e : r_read (0, kd, la, uw, mkd, lsz, lrd, ln, mrd, crd, fm, msg, sc, c) b = (0, (1, b &&& 15, !decide (b < 128), true, b &&& 15, lsz, lrd, ln, mrd, crd, fm, [], sc, (0, c.2.1, c.2.2))) := by
          refine r_read_of ?_ (fun _ => show (1 : Int32) ≠ 4 by decide)
          rw [r_part_0 rfl]
          dsimp only [r_first]
          rw [if_pos k1, if_pos k2, hsh, if_neg h00]
          rfl
        rw [e, t_put0]
        refine x_if_eq 167 dX7_first_142 (by decide) (fun z => absurd z (show ¬ z_b true = 0 by decide)) (fun _ => ?_)
        refine x_aload_n 0 dX7_first_145 rfl (by first | rfl | assumption) ?_
        refine x_iconst 1 dX7_first_146 (by decide) ?_
        refine pf_X7_first_276 dX7_first_147 (by first | exact z_nb _ | decide) (by first | exact z_fb _ | decide) hm.1 (Nat.le_of_ble_eq_true rfl) ?_
        refine x_gm hm (fun gm hm f20 => ?_)
        refine x_aload_n 0 dX7_first_150 rfl (by first | rfl | assumption) ?_
        refine x_aload_n 0 dX7_first_151 rfl (by first | rfl | assumption) ?_
        refine gf_X7_first_273 dX7_first_152 hm.1 (congrArg some f14) ?_
        refine pf_X7_first_282 dX7_first_155 hm.1 (Nat.le_of_ble_eq_true rfl) ?_
        refine x_gm hm (fun gm hm f21 => ?_)
        refine x_aload_n 0 dX7_first_158 rfl (by first | rfl | assumption) ?_
        refine x_iconst 0 dX7_first_159 (by decide) ?_
        refine pf_X7_first_285 dX7_first_160 hm.1 (Nat.le_of_ble_eq_true rfl) ?_
        refine x_gm hm (fun gm hm f22 => ?_)
        refine x_aload_n 0 dX7_first_163 rfl (by first | rfl | assumption) ?_
        refine cl_X7_first_164 (sm_beginCharacters hm) hm.1 (Nat.le_of_ble_eq_true rfl) ⟨Nat.le_of_ble_eq_true rfl, Nat.le_of_ble_eq_true rfl⟩ (fun r gq hq => ?_)
        obtain ⟨rfl, hm⟩ := hq
        refine x_aload_n 0 dX7_first_167 rfl (by first | rfl | assumption) ?_
        refine x_iconst 1 dX7_first_168 (by decide) ?_
        refine pf_X7_first_288 dX7_first_169 hm.1 (Nat.le_of_ble_eq_true rfl) ?_
        refine x_gm hm (fun gm hm f12 => ?_)
        refine x_vret rfl dX7_first_172 (by decide) (by decide) ?_
        obtain ⟨c1, u1, u2, u3⟩ := hr.2.2.2.2.2.1
        have hc3 : m_c3 (m_u (m_u (m_u (m_u (m_u (m_u (m_u V 13 (.int (z_b (!decide (b < 128))))) 14 (.int (b &&& 15))) 20 (.int 1)) 21 (.int (b &&& 15))) 22 (.int 0)) 24 (.int 0)) 12 (.int 1)) (0, c1.2.1, c1.2.2) := ⟨rfl, u2, u3⟩
        refine ⟨rfl, _, _, hm, rfl, ?_, fun _ => ?_⟩
        · exact hr.cg (by rintro j (rfl | rfl | rfl | rfl | rfl | rfl | rfl | rfl) <;> rfl) (fun _ _ => rfl) ⟨_, hc3⟩
        · refine ⟨rfl, rfl, fun _ => ⟨rfl, rfl, fun j hj => absurd hj (Nat.not_lt_zero j), Nat.zero_le _, hk, fun _ => ⟨Or.inl rfl, _, hc3, rfl, fun z => absurd rfl z⟩⟩, fun _ => ⟨⟨rfl, rfl, Or.inr ⟨hsh, rfl⟩⟩, Or.inl ⟨rfl, fun z => ?_⟩⟩⟩
          rw [hsh] at z
          cases z
      | false =>
        have hk : ¬ b &&& 15 = 1 ∧ ¬ b &&& 15 = 2 := by
          have := hs.symm
          rw [Bool.or_eq_false_iff, decide_eq_false_iff_not, decide_eq_false_iff_not] at this
          exact this
        refine x_if_eq 167 dX7_first_142 (by decide) (fun _ => ?_) (fun z => absurd (show z_b false = 0 from rfl) z)
        refine x_aload_n 0 dX7_first_167 rfl (by first | rfl | assumption) ?_
        refine x_iconst 1 dX7_first_168 (by decide) ?_
        refine pf_X7_first_288 dX7_first_169 hm.1 (Nat.le_of_ble_eq_true rfl) ?_
        refine x_gm hm (fun gm hm f12 => ?_)
        refine x_vret rfl dX7_first_172 (by decide) (by decide) ?_
        have hrs : m_rs (m_u (m_u (m_u V 13 (.int (z_b (!decide (b < 128))))) 14 (.int (b &&& 15))) 12 (.int 1)) F st ec dl pg rq out dr w := hr.cg (by rintro j (rfl | rfl | rfl | rfl | rfl | rfl | rfl | rfl) <;> rfl) (fun _ _ => rfl) (m_c3.ex hr.2.2.2.2.2.1 (by rintro j (rfl | rfl | rfl) <;> rfl))
        unfold r_may at k2
        rw [if_neg (show ¬ (b &&& 15 = 1 ∨ b &&& 15 = 2) from fun z => z.elim hk.1 hk.2)] at k2
        by_cases h00 : b &&& 15 = 0
        · have hsh : r_short (b &&& 15) = false := by rw [h00]; rfl
          rw [if_pos h00] at k2
          have e : r_read (0, kd, la, uw, mkd, lsz, lrd, ln, mrd, crd, fm, msg, sc, c) b = (0, (1, b &&& 15, !decide (b < 128), uw, mkd, lsz, lrd, ln, mrd, crd, fm, msg, sc, c)) := by
            refine r_read_of ?_ (fun _ => show (1 : Int32) ≠ 4 by decide)
            rw [r_part_0 rfl]
            dsimp only [r_first]
            rw [if_pos k1, hsh, if_pos h00, show r_may (b &&& 15) (!decide (b < 128)) uw = true by unfold r_may; rw [if_pos h00, k2]]
            rfl
          rw [e, t_put0]
          refine ⟨rfl, _, _, hm, rfl, hrs, fun _ => ?_⟩
          refine ⟨rfl, f20, g3, fun _ => ⟨⟨rfl, rfl, Or.inr ⟨hsh, k2⟩⟩, Or.inl ⟨rfl, fun z => ?_⟩⟩⟩
          rw [hsh] at z
          cases z
        · rw [if_neg h00] at k2
          have h8 : b &&& 15 = 8 ∨ b &&& 15 = 9 ∨ b &&& 15 = 10 := by
            by_cases h8 : b &&& 15 = 8 ∨ b &&& 15 = 9 ∨ b &&& 15 = 10
            · exact h8
            · rw [if_neg h8] at k2
              cases k2
          have hsh : r_short (b &&& 15) = true := by rcases h8 with z | z | z <;> rw [z] <;> rfl
          rw [if_pos h8] at k2
          have e : r_read (0, kd, la, uw, mkd, lsz, lrd, ln, mrd, crd, fm, msg, sc, c) b = (0, (1, b &&& 15, !decide (b < 128), uw, mkd, lsz, lrd, ln, mrd, crd, fm, msg, [], c)) := by
            refine r_read_of ?_ (fun _ => show (1 : Int32) ≠ 4 by decide)
            rw [r_part_0 rfl]
            dsimp only [r_first]
            rw [if_pos k1, hsh, show r_may (b &&& 15) (!decide (b < 128)) uw = true by unfold r_may; rw [if_neg h00, if_neg (show ¬ (b &&& 15 = 1 ∨ b &&& 15 = 2) from fun z => z.elim hk.1 hk.2), if_pos h8, k2]]
            rfl
          rw [e, t_put0]
          refine ⟨rfl, _, _, hm, rfl, hrs, fun _ => ?_⟩
          exact ⟨rfl, f20, g3, fun _ => ⟨⟨rfl, rfl, Or.inl h8⟩, Or.inl ⟨rfl, fun _ => rfl⟩⟩⟩
  have h69 : ∀ (s br : Bool) (h1 : q_H), k_m h0 h1 B (m_u (m_u V 13 (.int (z_b (!decide (b < 128))))) 14 (.int (b &&& 15))) F → s = (decide (b &&& 15 = 1) || decide (b &&& 15 = 2)) → br = (!decide (b &&& 15 < 8) && decide (b &&& 15 ≤ 10)) → q_X G mX7_first (q_R mX7_first 0 0) (q_FN G (m_goes h0 B V (t_put (st, ec, dl, pg, rq, out, dr, (0, kd, la, uw, mkd, lsz, lrd, ln, mrd, crd, fm, msg, sc, c), w) (r_read (0, kd, la, uw, mkd, lsz, lrd, ln, mrd, crd, fm, msg, sc, c) b))) 0 0) 68 [(0, .ref (B 0)), (1, .int b), (2, .int (z_b s))] [.int (z_b br)] h1 0 0 := by
    intro s br h1 hm hs hbr
    have hbr2 : br = (decide (b &&& 15 = 8 ∨ b &&& 15 = 9 ∨ b &&& 15 = 10)) := by
      rw [hbr]
      rw [← hb]
      have := (show ∀ n, n < 256 → (!decide (nI n &&& 15 < 8) && decide (nI n &&& 15 ≤ 10)) = decide (nI n &&& 15 = 8 ∨ nI n &&& 15 = 9 ∨ nI n &&& 15 = 10) by decide +kernel) n hn
      exact this
    have f14 : (m_u (m_u V 13 (.int (z_b (!decide (b < 128))))) 14 (.int (b &&& 15))) 14 = .int (b &&& 15) := rfl
    have f13 : (m_u (m_u V 13 (.int (z_b (!decide (b < 128))))) 14 (.int (b &&& 15))) 13 = .int (z_b (!decide (b < 128))) := rfl
    have f20 : (m_u (m_u V 13 (.int (z_b (!decide (b < 128))))) 14 (.int (b &&& 15))) 20 = .int (z_b uw) := f20
    have h125 : (decide (b &&& 112 = 0) && r_may (b &&& 15) (!decide (b < 128)) uw) = false → q_X G mX7_first (q_R mX7_first 0 0) (q_FN G (m_goes h0 B V (t_put (st, ec, dl, pg, rq, out, dr, (0, kd, la, uw, mkd, lsz, lrd, ln, mrd, crd, fm, msg, sc, c), w) (r_read (0, kd, la, uw, mkd, lsz, lrd, ln, mrd, crd, fm, msg, sc, c) b))) 0 0) 125 [(0, .ref (B 0)), (1, .int b), (2, .int (z_b s)), (3, .int (z_b br))] [] h1 0 0 := by
      intro hg
      refine x_iconst 0 dX7_first_125 (by decide) ?_
      exact h126 false s _ h1 hm hs hg.symm
    have h121 : (decide (b &&& 112 = 0) && r_may (b &&& 15) (!decide (b < 128)) uw) = true → q_X G mX7_first (q_R mX7_first 0 0) (q_FN G (m_goes h0 B V (t_put (st, ec, dl, pg, rq, out, dr, (0, kd, la, uw, mkd, lsz, lrd, ln, mrd, crd, fm, msg, sc, c), w) (r_read (0, kd, la, uw, mkd, lsz, lrd, ln, mrd, crd, fm, msg, sc, c) b))) 0 0) 121 [(0, .ref (B 0)), (1, .int b), (2, .int (z_b s)), (3, .int (z_b br))] [] h1 0 0 := by
      intro hg
      refine x_iconst 1 dX7_first_121 (by decide) ?_
      refine x_goto 126 dX7_first_122 (by decide) ?_
      exact h126 true s _ h1 hm hs hg.symm
    refine x_istore_n 3 dX7_first_68 rfl (by decide) rfl ?_
    refine x_iload_n 1 dX7_first_69 rfl (by first | rfl | assumption) ?_
    refine x_bipush 16 dX7_first_70 (by decide) ?_
    refine x_idiv dX7_first_72 (by decide) ?_
    refine x_bipush 8 dX7_first_73 (by decide) ?_
    refine x_irem dX7_first_75 (by decide) ?_
    by_cases k1 : b &&& 112 = 0
    · rw [decide_eq_true k1, Bool.true_and] at h125 h121
      refine x_if_ne 125 dX7_first_76 (by decide) (fun z => absurd (y2.mp k1) z) (fun _ => ?_)
      refine x_iload_n 3 dX7_first_79 rfl (by first | rfl | assumption) ?_
      cases br with
      | true =>
        have h8 := of_decide_eq_true hbr2.symm
        have em : r_may (b &&& 15) (!decide (b < 128)) uw = !decide (b < 128) := by
          unfold r_may
          rcases h8 with z | z | z <;> rw [z] <;> rfl
        rw [em] at h125 h121
        refine x_if_eq 93 dX7_first_80 (by decide) (fun z => absurd z (show ¬ z_b true = 0 by decide)) (fun _ => ?_)
        refine x_aload_n 0 dX7_first_83 rfl (by first | rfl | assumption) ?_
        refine gf_X7_first_269 dX7_first_84 hm.1 (congrArg some f13) ?_
        cases hla : (!decide (b < 128)) with
        | true =>
          refine x_if_eq 125 dX7_first_87 (by decide) (fun z => absurd z (show ¬ z_b true = 0 by decide)) (fun _ => ?_)
          refine x_goto 121 dX7_first_90 (by decide) ?_
          exact h121 hla
        | false =>
          refine x_if_eq 125 dX7_first_87 (by decide) (fun _ => ?_) (fun z => absurd (show z_b false = 0 from rfl) z)
          exact h125 hla
      | false =>
        have h8 := of_decide_eq_false hbr2.symm
        refine x_if_eq 93 dX7_first_80 (by decide) (fun _ => ?_) (fun z => absurd (show z_b false = 0 from rfl) z)
        refine x_aload_n 0 dX7_first_93 rfl (by first | rfl | assumption) ?_
        refine gf_X7_first_273 dX7_first_94 hm.1 (congrArg some f14) ?_
        by_cases h00 : b &&& 15 = 0
        · have em : r_may (b &&& 15) (!decide (b < 128)) uw = uw := by
            unfold r_may
            rw [if_pos h00]
          rw [em] at h125 h121
          refine x_if_ne 110 dX7_first_97 (by decide) (fun z => absurd h00 z) (fun _ => ?_)
          refine x_aload_n 0 dX7_first_100 rfl (by first | rfl | assumption) ?_
          refine gf_X7_first_276 dX7_first_101 hm.1 (congrArg some f20) ?_
          cases hu : uw with
          | true =>
            rw [hu] at h121
            refine x_if_eq 125 dX7_first_104 (by decide) (fun z => absurd z (show ¬ z_b true = 0 by decide)) (fun _ => ?_)
            refine x_goto 121 dX7_first_107 (by decide) ?_
            exact h121 rfl
          | false =>
            rw [hu] at h125
            refine x_if_eq 125 dX7_first_104 (by decide) (fun _ => ?_) (fun z => absurd (show z_b false = 0 from rfl) z)
            exact h125 rfl
        · refine x_if_ne 110 dX7_first_97 (by decide) (fun _ => ?_) (fun z => absurd z h00)
          refine x_iload_n 2 dX7_first_110 rfl (by first | rfl | assumption) ?_
          cases s with
          | true =>
            have hk : b &&& 15 = 1 ∨ b &&& 15 = 2 := by
              have := hs.symm
              rw [Bool.or_eq_true, decide_eq_true_iff, decide_eq_true_iff] at this
              exact this
            have em : r_may (b &&& 15) (!decide (b < 128)) uw = !uw := by
              unfold r_may
              rw [if_neg h00, if_pos hk]
            rw [em] at h125 h121
            refine x_if_eq 125 dX7_first_111 (by decide) (fun z => absurd z (show ¬ z_b true = 0 by decide)) (fun _ => ?_)
            refine x_aload_n 0 dX7_first_114 rfl (by first | rfl | assumption) ?_
            refine gf_X7_first_276 dX7_first_115 hm.1 (congrArg some f20) ?_
            cases hu : uw with
            | true =>
              rw [hu] at h125
              refine x_if_ne 125 dX7_first_118 (by decide) (fun _ => ?_) (fun z => absurd z (show ¬ z_b true = 0 by decide))
              exact h125 rfl
            | false =>
              rw [hu] at h121
              refine x_if_ne 125 dX7_first_118 (by decide) (fun z => absurd (show z_b false = 0 from rfl) z) (fun _ => ?_)
              exact h121 rfl
          | false =>
            have hk : ¬ (b &&& 15 = 1 ∨ b &&& 15 = 2) := by
              have := hs.symm
              rw [Bool.or_eq_false_iff, decide_eq_false_iff_not, decide_eq_false_iff_not] at this
              exact fun z => z.elim this.1 this.2
            have em : r_may (b &&& 15) (!decide (b < 128)) uw = false := by
              unfold r_may
              rw [if_neg h00, if_neg hk, if_neg h8]
            refine x_if_eq 125 dX7_first_111 (by decide) (fun _ => ?_) (fun z => absurd (show z_b false = 0 from rfl) z)
            exact h125 em
    · rw [decide_eq_false k1, Bool.false_and] at h125
      refine x_if_ne 125 dX7_first_76 (by decide) (fun _ => ?_) (fun z => absurd z (fun z => k1 (y2.mpr z)))
      exact h125 rfl
  have h44 : ∀ (s : Bool) (h1 : q_H), k_m h0 h1 B (m_u (m_u V 13 (.int (z_b (!decide (b < 128))))) 14 (.int (b &&& 15))) F → s = (decide (b &&& 15 = 1) || decide (b &&& 15 = 2)) → q_X G mX7_first (q_R mX7_first 0 0) (q_FN G (m_goes h0 B V (t_put (st, ec, dl, pg, rq, out, dr, (0, kd, la, uw, mkd, lsz, lrd, ln, mrd, crd, fm, msg, sc, c), w) (r_read (0, kd, la, uw, mkd, lsz, lrd, ln, mrd, crd, fm, msg, sc, c) b))) 0 0) 44 [(0, .ref (B 0)), (1, .int b)] [.int (z_b s)] h1 0 0 := by
    intro s h1 hm hs
    have f14 : (m_u (m_u V 13 (.int (z_b (!decide (b < 128))))) 14 (.int (b &&& 15))) 14 = .int (b &&& 15) := rfl
    refine x_istore_n 2 dX7_first_44 rfl (by decide) rfl ?_
    refine x_aload_n 0 dX7_first_45 rfl (by first | rfl | assumption) ?_
    refine gf_X7_first_273 dX7_first_46 hm.1 (congrArg some f14) ?_
    refine x_bipush 8 dX7_first_49 (by decide) ?_
    by_cases d1 : b &&& 15 < 8
    · refine x_icmp_lt 67 dX7_first_51 (by decide) (fun _ => ?_) (fun z => absurd d1 z)
      refine x_iconst 0 dX7_first_67 (by decide) ?_
      exact h69 s false h1 hm hs (by rw [decide_eq_true d1]; rfl)
    · refine x_icmp_lt 67 dX7_first_51 (by decide) (fun z => absurd z d1) (fun _ => ?_)
      refine x_aload_n 0 dX7_first_54 rfl (by first | rfl | assumption) ?_
      refine gf_X7_first_273 dX7_first_55 hm.1 (congrArg some f14) ?_
      refine x_bipush 10 dX7_first_58 (by decide) ?_
      by_cases d2 : b &&& 15 ≤ 10
      · refine x_icmp_gt 67 dX7_first_60 (by decide) (fun z => absurd z (Int32.not_lt.mpr d2)) (fun _ => ?_)
        refine x_iconst 1 dX7_first_63 (by decide) ?_
        refine x_goto 68 dX7_first_64 (by decide) ?_
        exact h69 s true h1 hm hs (by rw [decide_eq_false d1, decide_eq_true d2]; rfl)
      · refine x_icmp_gt 67 dX7_first_60 (by decide) (fun _ => ?_) (fun z => absurd (Int32.not_le.mp d2) z)
        refine x_iconst 0 dX7_first_67 (by decide) ?_
        exact h69 s false h1 hm hs (by rw [decide_eq_false d2, Bool.and_false])
  have h12 : q_X G mX7_first (q_R mX7_first 0 0) (q_FN G (m_goes h0 B V (t_put (st, ec, dl, pg, rq, out, dr, (0, kd, la, uw, mkd, lsz, lrd, ln, mrd, crd, fm, msg, sc, c), w) (r_read (0, kd, la, uw, mkd, lsz, lrd, ln, mrd, crd, fm, msg, sc, c) b))) 0 0) 12 [(0, .ref (B 0)), (1, .int b)] [.int (z_b (!decide (b < 128))), .ref (B 0)] h 0 0 := by
    refine pf_X7_first_269 dX7_first_12 (by first | exact z_nb _ | decide) (by first | exact z_fb _ | decide) hm.1 (Nat.le_of_ble_eq_true rfl) ?_
    refine x_gm hm (fun gm hm f13 => ?_)
    refine x_aload_n 0 dX7_first_15 rfl (by first | rfl | assumption) ?_
    refine x_iload_n 1 dX7_first_16 rfl (by first | rfl | assumption) ?_
    refine x_bipush 16 dX7_first_17 (by decide) ?_
    refine x_irem dX7_first_19 (by decide) ?_
    refine pf_X7_first_273 dX7_first_20 hm.1 (Nat.le_of_ble_eq_true rfl) ?_
    refine x_gm hm (fun gm hm f14 => ?_)
    rw [← y1] at hm f14
    refine x_aload_n 0 dX7_first_23 rfl (by first | rfl | assumption) ?_
    refine gf_X7_first_273 dX7_first_24 hm.1 (congrArg some f14) ?_
    refine x_iconst 1 dX7_first_27 (by decide) ?_
    by_cases d1 : b &&& 15 = 1
    · refine x_icmp_eq 39 dX7_first_28 (by decide) (fun _ => ?_) (fun z => absurd d1 z)
      refine x_iconst 1 dX7_first_39 (by decide) ?_
      refine x_goto 44 dX7_first_40 (by decide) ?_
      exact h44 true _ hm (by rw [decide_eq_true d1]; rfl)
    · refine x_icmp_eq 39 dX7_first_28 (by decide) (fun z => absurd z d1) (fun _ => ?_)
      refine x_aload_n 0 dX7_first_31 rfl (by first | rfl | assumption) ?_
      refine gf_X7_first_273 dX7_first_32 hm.1 (congrArg some f14) ?_
      refine x_iconst 2 dX7_first_35 (by decide) ?_
      by_cases d2 : b &&& 15 = 2
      · refine x_icmp_ne 43 dX7_first_36 (by decide) (fun z => absurd d2 z) (fun _ => ?_)
        refine x_iconst 1 dX7_first_39 (by decide) ?_
        refine x_goto 44 dX7_first_40 (by decide) ?_
        exact h44 true _ hm (by rw [decide_eq_true d2, Bool.or_true])
      · refine x_icmp_ne 43 dX7_first_36 (by decide) (fun _ => ?_) (fun z => absurd z d2)
        refine x_iconst 0 dX7_first_43 (by decide) ?_
        exact h44 false _ hm (by rw [decide_eq_false d1, decide_eq_false d2]; rfl)
  refine q_enter (M := mX7_first) (by decide +kernel) rfl (Nat.le_of_ble_eq_true rfl) ?_
  refine x_aload_n 0 dX7_first_0 rfl (by first | rfl | assumption) ?_
  refine x_iload_n 1 dX7_first_1 rfl (by first | rfl | assumption) ?_
  refine x_bipush 127 dX7_first_2 (by decide) ?_
  by_cases d0 : b < 128
  · refine x_icmp_le 11 dX7_first_4 (by decide) (fun _ => ?_) (fun z => absurd (show b ≤ 127 by rw [i32_le]; rw [i32_lt] at d0; have a1 : (128 : Int32).toInt = 128 := rfl; have a2 : (127 : Int32).toInt = 127 := rfl; omega) z)
    refine x_iconst 0 dX7_first_11 (by decide) ?_
    rw [decide_eq_true d0] at h12
    exact h12
  · refine x_icmp_le 11 dX7_first_4 (by decide) (fun z => absurd z (show ¬ b ≤ 127 by rw [i32_le]; rw [i32_lt] at d0; have a1 : (128 : Int32).toInt = 128 := rfl; have a2 : (127 : Int32).toInt = 127 := rfl; omega)) (fun _ => ?_)
    refine x_iconst 1 dX7_first_7 (by decide) ?_
    refine x_goto 12 dX7_first_8 (by decide) ?_
    rw [decide_eq_false d0] at h12
    exact h12
end MdlV
