/-! the reference and the class: one relation -/
section MdlU
variable {G : q_G} {h0 h : q_H} {B : Nat → Nat} {V V' : Nat → Value} {F F' : Nat → Nat → Int32} {l : List Int32} {st ec dl pg : Int32} {rq out dr : List Int32} {R : z_R} {w : List z_Ms}
def m_by (x : Int32) : Prop := ∃ n : Nat, n < 256 ∧ x = nI n
/-- the messages that wait -/
def m_wt (V : Nat → Value) (F : Nat → Nat → Int32) (w : List z_Ms) : Prop := V 27 = .int (nI w.length) ∧ w.length ≤ 4 ∧ ∀ k, k < w.length → F 10 k = (w.getD k (0, [])).1 ∧ F 11 k = nI (w.getD k (0, [])).2.length ∧ (w.getD k (0, [])).2.length ≤ 300 ∧ ∀ j, j < (w.getD k (0, [])).2.length → F 12 (300 * k + j) = (w.getD k (0, [])).2.getD j 0
def m_sim (c c' : z_T3) : Prop := c'.1 = c.1 ∧ (c.1 ≠ 0 → c' = c)
/-- the message under way -/
def m_ms (V : Nat → Value) (F : Nat → Nat → Int32) (mkd : Int32) (msg : List Int32) (c : z_T3) : Prop := V 21 = .int mkd ∧ V 22 = .int (nI msg.length) ∧ m_l (F 9) msg ∧ msg.length ≤ 300 ∧ (mkd = 1 ∨ mkd = 2) ∧ (mkd = 1 → m_ok3 c ∧ ∃ c', m_c3 V c' ∧ m_sim c c')
/-- which frames may come -/
def m_kd (kd : Int32) (uw : Bool) : Prop := (kd = 8 ∨ kd = 9 ∨ kd = 10) ∨ (r_short kd = false ∧ uw = true)
def m_p2 (V : Nat → Value) (kd lsz lrd : Int32) (ln : Int64) : Prop := r_short kd = false ∧ V 15 = .long ln ∧ V 16 = .int lsz ∧ V 17 = .int lrd
def m_p3 (V : Nat → Value) (F : Nat → Nat → Int32) (kd : Int32) (ln : Int64) (mrd : Int32) (fm : Nat → Int32) (msg sc : List Int32) (n k : Nat) : Prop := V 15 = .long ln ∧ ln = lN n ∧ V 17 = .int mrd ∧ mrd = nI k ∧ k < 4 ∧ (∀ j, j < k → F 7 j = fm j ∧ m_by (fm j)) ∧ (r_short kd = true → n ≤ 125 ∧ sc = []) ∧ (r_short kd = false → msg.length + n ≤ 300)
def m_p4 (V : Nat → Value) (F : Nat → Nat → Int32) (kd : Int32) (ln : Int64) (crd : Int32) (fm : Nat → Int32) (msg sc : List Int32) (n k : Nat) : Prop := V 15 = .long ln ∧ ln = lN n ∧ V 17 = .int crd ∧ crd = nI k ∧ k < n ∧ (∀ j, j < 4 → F 7 j = fm j ∧ m_by (fm j)) ∧ (r_short kd = true → n ≤ 125 ∧ sc.length = k ∧ m_l (F 8) sc ∧ ∀ x ∈ sc, m_by x) ∧ (r_short kd = false → n ≤ 300 ∧ msg.length + (n - k) ≤ 300)
def m_fr (V : Nat → Value) (F : Nat → Nat → Int32) : z_R → Prop
  | (pl, kd, la, uw, mkd, lsz, lrd, ln, mrd, crd, fm, msg, sc, c) => V 12 = .int pl ∧ V 20 = .int (z_b uw) ∧ (uw = true → m_ms V F mkd msg c) ∧ (pl ≠ 0 → (V 14 = .int kd ∧ V 13 = .int (z_b la) ∧ m_kd kd uw) ∧ ((pl = 1 ∧ (r_short kd = true → sc = [])) ∨ (pl = 2 ∧ m_p2 V kd lsz lrd ln) ∨ (pl = 3 ∧ ∃ n k, m_p3 V F kd ln mrd fm msg sc n k) ∨ (pl = 4 ∧ ∃ n k, m_p4 V F kd ln crd fm msg sc n k)))
/-- all but the frames -/
def m_rs (V : Nat → Value) (F : Nat → Nat → Int32) (st ec dl pg : Int32) (rq out dr : List Int32) (w : List z_Ms) : Prop := (V 1 = .int st ∧ V 2 = .int ec ∧ V 31 = .int dl ∧ V 32 = .int pg) ∧ (st = 0 → V 4 = .int (nI rq.length) ∧ m_l (F 1) rq) ∧ m_o V F out ∧ (V 11 = .int (nI dr.length) ∧ m_l (F 6) dr) ∧ m_wt V F w ∧ (∃ c, m_c3 V c) ∧ out.length ≤ 574 ∧ dr.length ≤ 100
def m_rel (V : Nat → Value) (F : Nat → Nat → Int32) : z_S → Prop
  | (st, ec, dl, pg, rq, out, dr, R, w) => m_rs V F st ec dl pg rq out dr w ∧ (st ≠ 3 → m_fr V F R)
/-- a method of the reference leaves it so -/
def m_goes (h0 : q_H) (B : Nat → Nat) (V : Nat → Value) (σ : z_S) : q_Q := fun o h' => o = none ∧ ∃ V' F', k_m h0 h' B V' F' ∧ V' 0 = V 0 ∧ m_rel V' F' σ
theorem m_rs.cg (hr : m_rs V F st ec dl pg rq out dr w) (e : ∀ j, j = 1 ∨ j = 2 ∨ j = 4 ∨ j = 9 ∨ j = 11 ∨ j = 27 ∨ j = 31 ∨ j = 32 → V' j = V j) (e' : ∀ i, i = 1 ∨ i = 5 ∨ i = 6 ∨ i = 10 ∨ i = 11 ∨ i = 12 → F' i = F i) (hc : ∃ c, m_c3 V' c) : m_rs V' F' st ec dl pg rq out dr w := by
  obtain ⟨⟨a1, a2, a3, a4⟩, b, ⟨c1, c2⟩, ⟨d1, d2⟩, ⟨x1, x2, x3⟩, -, o1, o2⟩ := hr
  refine ⟨⟨(e 1 (by simp)).trans a1, (e 2 (by simp)).trans a2, (e 31 (by simp)).trans a3, (e 32 (by simp)).trans a4⟩, fun z => ⟨(e 4 (by simp)).trans (b z).1, by rw [e' 1 (by simp)]; exact (b z).2⟩, ⟨(e 9 (by simp)).trans c1, by rw [e' 5 (by simp)]; exact c2⟩, ⟨(e 11 (by simp)).trans d1, by rw [e' 6 (by simp)]; exact d2⟩, ⟨(e 27 (by simp)).trans x1, x2, ?_⟩, hc, o1, o2⟩
  rw [e' 10 (by simp), e' 11 (by simp), e' 12 (by simp)]
  exact x3
theorem m_c3.ex (hc : ∃ c, m_c3 V c) (e : ∀ j, j = 24 ∨ j = 25 ∨ j = 26 → V' j = V j) : ∃ c, m_c3 V' c := by
  obtain ⟨c, a1, a2, a3⟩ := hc
  exact ⟨c, (e 24 (by simp)).trans a1, (e 25 (by simp)).trans a2, (e 26 (by simp)).trans a3⟩
/-- an end with a code -/
theorem m_ends.goes {x : Int32} {o : Option Value} {h' : q_H} {V0 : Nat → Value} (hr : m_rs V F st ec dl pg rq out dr w) (hw : st = 1 → out.length ≤ 470) (hx : x / 256 = x >>> ((8 : Int32) &&& 31) ∧ x - x / 256 * 256 = x &&& 255) (hv : V 0 = V0 0) (hq : m_ends h0 B V F x (if st = 1 then out ++ [136, 2] ++ [x / 256, x - x / 256 * 256] else out) o h') : m_goes h0 B V0 (t_violate (st, ec, dl, pg, rq, out, dr, R, w) x) o h' := by
  obtain ⟨rfl, V1, F1, hm, e1, a1, a2, e2, ho⟩ := hq
  refine ⟨rfl, V1, F1, hm, (e1 0 (by decide)).trans hv, ?_⟩
  obtain ⟨⟨-, -, b3, b4⟩, -, -, ⟨d1, d2⟩, ⟨w1, w2, w3⟩, hc, o1, o2⟩ := hr
  dsimp only [t_violate]
  rw [hx.2, hx.1] at ho
  refine ⟨⟨⟨a1, a2, (e1 31 (by decide)).trans b3, (e1 32 (by decide)).trans b4⟩, fun z => absurd z (by decide), ho, ⟨(e1 11 (by decide)).trans d1, by rw [e2 6 (by decide)]; exact d2⟩, ⟨(e1 27 (by decide)).trans w1, w2, ?_⟩, m_c3.ex hc (fun j hj => e1 j (by omega)), ?_, o2⟩, fun z => absurd rfl z⟩
  · rw [e2 10 (by decide), e2 11 (by decide), e2 12 (by decide)]; exact w3
  · split
    · rename_i hs
      have := hw hs
      simp only [List.length_append, List.length_cons, List.length_nil]
      omega
    · exact o1
theorem m_x1002 : (1002 : Int32) / 256 = (1002 : Int32) >>> ((8 : Int32) &&& 31) ∧ (1002 : Int32) - (1002 : Int32) / 256 * 256 = (1002 : Int32) &&& 255 := by decide +kernel
theorem m_x1007 : (1007 : Int32) / 256 = (1007 : Int32) >>> ((8 : Int32) &&& 31) ∧ (1007 : Int32) - (1007 : Int32) / 256 * 256 = (1007 : Int32) &&& 255 := by decide +kernel
theorem m_x1009 : (1009 : Int32) / 256 = (1009 : Int32) >>> ((8 : Int32) &&& 31) ∧ (1009 : Int32) - (1009 : Int32) / 256 * 256 = (1009 : Int32) &&& 255 := by decide +kernel
theorem sm_ends {x : Int32} {V0 : Nat → Value} (hm : k_m h0 h B V F) (hr : m_rs V F st ec dl pg rq out dr w) (hw : st = 1 → out.length ≤ 470) (hx : x / 256 = x >>> ((8 : Int32) &&& 31) ∧ x - x / 256 * 256 = x &&& 255) (hv : V 0 = V0 0) (R : z_R) : q_SP G mX7_violate [.ref (B 0), .int x] h 0 0 (m_goes h0 B V0 (t_violate (st, ec, dl, pg, rq, out, dr, R, w) x)) := by
  refine q_SP.to (sm_violate hm hr.1.1 hr.2.2.1 (by have := hr.2.2.2.2.2.2.1; omega) x) ?_
  intro o h' hq
  exact hq.goes hr hw hx hv
def t_put (σ : z_S) (x : Int32 × z_R) : z_S := if x.1 = 1 then t_finish (t_setR σ x.2) else if x.1 = 0 then t_setR σ x.2 else t_violate (t_setR σ x.2) x.1
theorem t_frame_put (b : Int32) : t_frame (st, ec, dl, pg, rq, out, dr, R, w) b = t_put (st, ec, dl, pg, rq, out, dr, R, w) (r_read R b) := rfl
theorem t_put0 {R0 : z_R} : t_put (st, ec, dl, pg, rq, out, dr, R0, w) (0, R) = (st, ec, dl, pg, rq, out, dr, R, w) := rfl
theorem t_put1 {R0 : z_R} : t_put (st, ec, dl, pg, rq, out, dr, R0, w) (1, R) = t_finish (st, ec, dl, pg, rq, out, dr, R, w) := rfl
theorem t_putx {R0 : z_R} {x : Int32} (h1 : x ≠ 1) (h0 : x ≠ 0) : t_put (st, ec, dl, pg, rq, out, dr, R0, w) (x, R) = t_violate (st, ec, dl, pg, rq, out, dr, R, w) x := by
  unfold t_put
  rw [if_neg h1, if_neg h0]
  rfl
theorem r_part_0 {R : z_R} {b : Int32} (e : R.1 = 0) : r_part R b = r_first R b := by unfold r_part; rw [if_pos e]
theorem r_part_1 {R : z_R} {b : Int32} (e : R.1 = 1) : r_part R b = r_second R b := by unfold r_part; rw [e]; rfl
theorem r_part_2 {R : z_R} {b : Int32} (e : R.1 = 2) : r_part R b = r_length R b := by unfold r_part; rw [e]; rfl
theorem r_part_3 {R : z_R} {b : Int32} (e : R.1 = 3) : r_part R b = (0, r_mask R b) := by unfold r_part; rw [e]; rfl
theorem r_part_4 {R : z_R} {b : Int32} (e : R.1 = 4) : r_part R b = r_content R b := by unfold r_part; rw [e]; rfl
theorem r_read_no {b : Int32} (hn : ¬ ((r_part R b).1 = 0 ∧ r_full (r_part R b).2 = true)) : r_read R b = r_part R b := if_neg hn
theorem m_by_first : ∀ n, n < 256 → (nI n &&& 15 = nI n - nI n / 16 * 16) ∧ (nI n &&& 112 = 0 ↔ nI n / 16 - nI n / 16 / 8 * 8 = 0) ∧ (nI n &&& 127 = nI n - nI n / 128 * 128) := by decide +kernel
theorem m_by.xor {x y : Int32} (hx : m_by x) (hy : m_by y) : m_by (x ^^^ y) := by
  obtain ⟨a, ha, rfl⟩ := hx
  obtain ⟨b, hb, rfl⟩ := hy
  refine ⟨a ^^^ b, Nat.xor_lt_two_pow (n := 8) ha hb, ?_⟩
  apply Int32.toBitVec_inj.mp
  apply BitVec.eq_of_toNat_eq
  rw [Int32.toBitVec_xor, BitVec.toNat_xor, pk_tn (by omega), pk_tn (by omega), pk_tn (Nat.lt_trans (Nat.xor_lt_two_pow (n := 8) ha hb) (by decide))]
end MdlU
