/-! FramedTalk: its state as a tuple; what it says -/
section TlkA
variable {G : q_G} {h : q_H}
theorem k_row.cg {h1 : q_H} {r ra N : Nat} {l : List Int32} (hr : k_row h r ra N l) (e0 : h1 r = h r) (e1 : h1 ra = h ra) : k_row h1 r ra N l := by
  obtain ⟨f, x1, x2, x3⟩ := hr
  exact ⟨f, e0.trans x1, e1.trans x2, x3⟩
theorem k_wait.cg {h1 : q_H} {a aC aK aL : Nat} {w : List z_Ms} (hw : k_wait h a aC aK aL w) (e0 : h1 a = h a) (e1 : h1 aC = h aC) (e2 : h1 aK = h aK) (e3 : h1 aL = h aL) : k_wait h1 a aC aK aL w := by
  obtain ⟨o, fc, fk, fl, x1, x2, x3, x4, x5⟩ := hw
  exact ⟨o, fc, fk, fl, e0.trans x1, e1.trans x2, e2.trans x3, e3.trans x4, x5⟩
theorem k_req.cg {h1 : q_H} {a rb ra aS aT aE : Nat} {l : List Int32} {sn ss es : Nat → Int32} (hq : k_req h a rb ra aS aT aE l sn ss es) (e0 : h1 a = h a) (e1 : h1 rb = h rb) (e2 : h1 ra = h ra) (e3 : h1 aS = h aS) (e4 : h1 aT = h aT) (e5 : h1 aE = h aE) : k_req h1 a rb ra aS aT aE l sn ss es := by
  obtain ⟨x1, x2, x3, x4, x5, x6⟩ := hq
  exact ⟨e0.trans x1, x2.cg e1 e2, e3.trans x3, e4.trans x4, e5.trans x5, x6⟩
theorem k_frm.cg {h1 : q_H} {a aM rm rma rs rsa c1 c2 : Nat} {S : z_R} (hf : k_frm h a aM rm rma rs rsa c1 c2 S) (e0 : h1 a = h a) (e1 : h1 aM = h aM) (e2 : h1 rm = h rm) (e3 : h1 rma = h rma) (e4 : h1 rs = h rs) (e5 : h1 rsa = h rsa) (e6 : h1 c1 = h c1) (e7 : h1 c2 = h c2) : k_frm h1 a aM rm rma rs rsa c1 c2 S := by
  obtain ⟨pl, kd, la, uw, mkd, lsz, lrd, ln, mrd, crd, fm, msg, sc, c⟩ := S
  obtain ⟨x1, x2, x3, x4, x5, ⟨cr, x6⟩, x7⟩ := hf
  exact ⟨e0.trans x1, e1.trans x2, x3.cg e2 e3, x4.cg e4 e5, e6.trans x5, ⟨cr, e7.trans x6⟩, x7⟩
/-- its cells: itself; the request's six; the frames' eight; the waiting's four; out; draft; its checker -/
def k_inj (A : Nat → Nat) : Prop := ∀ i j, i < 24 → j < 24 → A i = A j → i = j
def k_cells (A : Nat → Nat) : List Nat := (List.range 24).map A
theorem k_inj.no {A : Nat → Nat} (hA : k_inj A) {I : List Nat} {i : Nat} (hi : (i < 24 ∧ i ∉ I) ∧ ∀ j ∈ I, j < 24) : A i ∉ I.map A := by
  intro hm
  obtain ⟨j, hj, e⟩ := List.mem_map.mp hm
  exact hi.1.2 (by rw [← hA j i (hi.2 j hj) hi.1.1 e]; exact hj)
theorem k_inj.ne {A : Nat → Nat} (hA : k_inj A) {i j : Nat} (hi : (i < 24 ∧ j < 24) ∧ i ≠ j) : A i ≠ A j := fun e => hi.2 (hA i j hi.1.1 hi.1.2 e)
theorem k_sub24 {A : Nat → Nat} {I : List Nat} (hI : ∀ j ∈ I, j < 24) : ∀ q ∈ I.map A, q ∈ k_cells A := fun q hq => by
  obtain ⟨j, hj, e⟩ := List.mem_map.mp hq
  exact List.mem_map.mpr ⟨j, List.mem_range.mpr (hI j hj), e⟩
/-- state, end code, delivered, pongs; request, out, draft; frames; what waits -/
abbrev z_S : Type := Int32 × Int32 × Int32 × Int32 × List Int32 × List Int32 × List Int32 × z_R × List z_Ms
def k_ofs (A : Nat → Nat) (st ec dl pg : Int32) : List Value := [.ref (A 1), .ref (A 7), .ref (A 15), .ref (A 19), .ref (A 21), .ref (A 23), .int st, .int ec, .int dl, .int pg]
def k_tlk (h : q_H) (A : Nat → Nat) : z_S → Prop
  | (st, ec, dl, pg, rq, out, dr, R, w) => k_inj A ∧ h (A 0) = some (k_ob 6 [.ref (A 1), .ref (A 7), .ref (A 15), .ref (A 19), .ref (A 21), .ref (A 23), .int st, .int ec, .int dl, .int pg])
    ∧ (∃ sn ss es, k_req h (A 1) (A 2) (A 3) (A 4) (A 5) (A 6) rq sn ss es ∧ (st = 0 → k_flds 0 0 (fun _ => (0, 0, 0)) sn ss es))
    ∧ k_frm h (A 7) (A 8) (A 9) (A 10) (A 11) (A 12) (A 13) (A 14) R ∧ k_wait h (A 15) (A 16) (A 17) (A 18) w
    ∧ k_row h (A 19) (A 20) 574 out ∧ k_row h (A 21) (A 22) 100 dr ∧ ∃ c, k_chk h (A 23) c
variable {A : Nat → Nat} {st ec dl pg : Int32} {rq out dr : List Int32} {R : z_R} {w : List z_Ms}
theorem k_tlk.agree {h1 : q_H} {σ : z_S} (ht : k_tlk h A σ) (e : ∀ i, i < 24 → h1 (A i) = h (A i)) : k_tlk h1 A σ := by
  obtain ⟨st, ec, dl, pg, rq, out, dr, R, w⟩ := σ
  obtain ⟨hA, ho, ⟨sn, ss, es, hq, hf⟩, hR, hw, hout, hdr, c, hc⟩ := ht
  exact ⟨hA, (e 0 (by decide)).trans ho, ⟨sn, ss, es, hq.cg (e 1 (by decide)) (e 2 (by decide)) (e 3 (by decide)) (e 4 (by decide)) (e 5 (by decide)) (e 6 (by decide)), hf⟩, hR.cg (e 7 (by decide)) (e 8 (by decide)) (e 9 (by decide)) (e 10 (by decide)) (e 11 (by decide)) (e 12 (by decide)) (e 13 (by decide)) (e 14 (by decide)), hw.cg (e 15 (by decide)) (e 16 (by decide)) (e 17 (by decide)) (e 18 (by decide)), hout.cg (e 19 (by decide)) (e 20 (by decide)), hdr.cg (e 21 (by decide)) (e 22 (by decide)), c, (e 23 (by decide)).trans hc⟩
theorem k_tlk.toOut {h1 : q_H} {out' : List Int32} (ht : k_tlk h A (st, ec, dl, pg, rq, out, dr, R, w)) (hr : k_row h1 (A 19) (A 20) 574 out') (s : k_same [A 19, A 20] h h1) : k_tlk h1 A (st, ec, dl, pg, rq, out', dr, R, w) := by
  obtain ⟨hA, ho, ⟨sn, ss, es, hq, hf⟩, hR, hw, hout, hdr, c, hc⟩ := ht
  have e : ∀ i, (i < 24 ∧ i ∉ [19, 20]) → h1 (A i) = h (A i) := fun i hi => s _ (hA.no (I := [19, 20]) ⟨hi, by decide⟩)
  exact ⟨hA, (e 0 (by decide)).trans ho, ⟨sn, ss, es, hq.cg (e 1 (by decide)) (e 2 (by decide)) (e 3 (by decide)) (e 4 (by decide)) (e 5 (by decide)) (e 6 (by decide)), hf⟩, hR.cg (e 7 (by decide)) (e 8 (by decide)) (e 9 (by decide)) (e 10 (by decide)) (e 11 (by decide)) (e 12 (by decide)) (e 13 (by decide)) (e 14 (by decide)), hw.cg (e 15 (by decide)) (e 16 (by decide)) (e 17 (by decide)) (e 18 (by decide)), hr, hdr.cg (e 21 (by decide)) (e 22 (by decide)), c, (e 23 (by decide)).trans hc⟩
theorem k_tlk.toDr {h1 : q_H} {dr' : List Int32} (ht : k_tlk h A (st, ec, dl, pg, rq, out, dr, R, w)) (hr : k_row h1 (A 21) (A 22) 100 dr') (s : k_same [A 21, A 22] h h1) : k_tlk h1 A (st, ec, dl, pg, rq, out, dr', R, w) := by
  obtain ⟨hA, ho, ⟨sn, ss, es, hq, hf⟩, hR, hw, hout, hdr, c, hc⟩ := ht
  have e : ∀ i, (i < 24 ∧ i ∉ [21, 22]) → h1 (A i) = h (A i) := fun i hi => s _ (hA.no (I := [21, 22]) ⟨hi, by decide⟩)
  exact ⟨hA, (e 0 (by decide)).trans ho, ⟨sn, ss, es, hq.cg (e 1 (by decide)) (e 2 (by decide)) (e 3 (by decide)) (e 4 (by decide)) (e 5 (by decide)) (e 6 (by decide)), hf⟩, hR.cg (e 7 (by decide)) (e 8 (by decide)) (e 9 (by decide)) (e 10 (by decide)) (e 11 (by decide)) (e 12 (by decide)) (e 13 (by decide)) (e 14 (by decide)), hw.cg (e 15 (by decide)) (e 16 (by decide)) (e 17 (by decide)) (e 18 (by decide)), hout.cg (e 19 (by decide)) (e 20 (by decide)), hr, c, (e 23 (by decide)).trans hc⟩
theorem k_tlk.toChk {h1 : q_H} {c' : z_T3} (ht : k_tlk h A (st, ec, dl, pg, rq, out, dr, R, w)) (hr : k_chk h1 (A 23) c') (s : k_same [A 23] h h1) : k_tlk h1 A (st, ec, dl, pg, rq, out, dr, R, w) := by
  obtain ⟨hA, ho, ⟨sn, ss, es, hq, hf⟩, hR, hw, hout, hdr, c, hc⟩ := ht
  have e : ∀ i, (i < 24 ∧ i ∉ [23]) → h1 (A i) = h (A i) := fun i hi => s _ (hA.no (I := [23]) ⟨hi, by decide⟩)
  exact ⟨hA, (e 0 (by decide)).trans ho, ⟨sn, ss, es, hq.cg (e 1 (by decide)) (e 2 (by decide)) (e 3 (by decide)) (e 4 (by decide)) (e 5 (by decide)) (e 6 (by decide)), hf⟩, hR.cg (e 7 (by decide)) (e 8 (by decide)) (e 9 (by decide)) (e 10 (by decide)) (e 11 (by decide)) (e 12 (by decide)) (e 13 (by decide)) (e 14 (by decide)), hw.cg (e 15 (by decide)) (e 16 (by decide)) (e 17 (by decide)) (e 18 (by decide)), hout.cg (e 19 (by decide)) (e 20 (by decide)), hdr.cg (e 21 (by decide)) (e 22 (by decide)), c', hr⟩
theorem k_tlk.toW {h1 : q_H} {w' : List z_Ms} (ht : k_tlk h A (st, ec, dl, pg, rq, out, dr, R, w)) (hr : k_wait h1 (A 15) (A 16) (A 17) (A 18) w') (s : k_same [A 15, A 16, A 17, A 18] h h1) : k_tlk h1 A (st, ec, dl, pg, rq, out, dr, R, w') := by
  obtain ⟨hA, ho, ⟨sn, ss, es, hq, hf⟩, hR, hw, hout, hdr, c, hc⟩ := ht
  have e : ∀ i, (i < 24 ∧ i ∉ [15, 16, 17, 18]) → h1 (A i) = h (A i) := fun i hi => s _ (hA.no (I := [15, 16, 17, 18]) ⟨hi, by decide⟩)
  exact ⟨hA, (e 0 (by decide)).trans ho, ⟨sn, ss, es, hq.cg (e 1 (by decide)) (e 2 (by decide)) (e 3 (by decide)) (e 4 (by decide)) (e 5 (by decide)) (e 6 (by decide)), hf⟩, hR.cg (e 7 (by decide)) (e 8 (by decide)) (e 9 (by decide)) (e 10 (by decide)) (e 11 (by decide)) (e 12 (by decide)) (e 13 (by decide)) (e 14 (by decide)), hr, hout.cg (e 19 (by decide)) (e 20 (by decide)), hdr.cg (e 21 (by decide)) (e 22 (by decide)), c, (e 23 (by decide)).trans hc⟩
theorem k_tlk.toR {h1 : q_H} {R' : z_R} (ht : k_tlk h A (st, ec, dl, pg, rq, out, dr, R, w)) (hr : k_frm h1 (A 7) (A 8) (A 9) (A 10) (A 11) (A 12) (A 13) (A 14) R') (s : k_same [A 7, A 8, A 9, A 10, A 11, A 12, A 13, A 14] h h1) : k_tlk h1 A (st, ec, dl, pg, rq, out, dr, R', w) := by
  obtain ⟨hA, ho, ⟨sn, ss, es, hq, hf⟩, hR, hw, hout, hdr, c, hc⟩ := ht
  have e : ∀ i, (i < 24 ∧ i ∉ [7, 8, 9, 10, 11, 12, 13, 14]) → h1 (A i) = h (A i) := fun i hi => s _ (hA.no (I := [7, 8, 9, 10, 11, 12, 13, 14]) ⟨hi, by decide⟩)
  exact ⟨hA, (e 0 (by decide)).trans ho, ⟨sn, ss, es, hq.cg (e 1 (by decide)) (e 2 (by decide)) (e 3 (by decide)) (e 4 (by decide)) (e 5 (by decide)) (e 6 (by decide)), hf⟩, hr, hw.cg (e 15 (by decide)) (e 16 (by decide)) (e 17 (by decide)) (e 18 (by decide)), hout.cg (e 19 (by decide)) (e 20 (by decide)), hdr.cg (e 21 (by decide)) (e 22 (by decide)), c, (e 23 (by decide)).trans hc⟩
theorem k_tlk.toObj {h1 : q_H} {st' ec' dl' pg' : Int32} (ht : k_tlk h A (st, ec, dl, pg, rq, out, dr, R, w)) (hr : h1 (A 0) = some (k_ob 6 [.ref (A 1), .ref (A 7), .ref (A 15), .ref (A 19), .ref (A 21), .ref (A 23), .int st', .int ec', .int dl', .int pg'])) (s : k_same [A 0] h h1) (hs : st' = 0 → st = 0) : k_tlk h1 A (st', ec', dl', pg', rq, out, dr, R, w) := by
  obtain ⟨hA, ho, ⟨sn, ss, es, hq, hf⟩, hR, hw, hout, hdr, c, hc⟩ := ht
  have e : ∀ i, (i < 24 ∧ i ∉ [0]) → h1 (A i) = h (A i) := fun i hi => s _ (hA.no (I := [0]) ⟨hi, by decide⟩)
  exact ⟨hA, hr, ⟨sn, ss, es, hq.cg (e 1 (by decide)) (e 2 (by decide)) (e 3 (by decide)) (e 4 (by decide)) (e 5 (by decide)) (e 6 (by decide)), fun z => hf (hs z)⟩, hR.cg (e 7 (by decide)) (e 8 (by decide)) (e 9 (by decide)) (e 10 (by decide)) (e 11 (by decide)) (e 12 (by decide)) (e 13 (by decide)) (e 14 (by decide)), hw.cg (e 15 (by decide)) (e 16 (by decide)) (e 17 (by decide)) (e 18 (by decide)), hout.cg (e 19 (by decide)) (e 20 (by decide)), hdr.cg (e 21 (by decide)) (e 22 (by decide)), c, (e 23 (by decide)).trans hc⟩
theorem k_tlk.toRq {h1 : q_H} {rq' : List Int32} {sn ss es : Nat → Int32} (ht : k_tlk h A (st, ec, dl, pg, rq, out, dr, R, w)) (hr : k_req h1 (A 1) (A 2) (A 3) (A 4) (A 5) (A 6) rq' sn ss es) (hF : st = 0 → k_flds 0 0 (fun _ => (0, 0, 0)) sn ss es) (s : k_same [A 1, A 2, A 3, A 4, A 5, A 6] h h1) : k_tlk h1 A (st, ec, dl, pg, rq', out, dr, R, w) := by
  obtain ⟨hA, ho, -, hR, hw, hout, hdr, c, hc⟩ := ht
  have e : ∀ i, (i < 24 ∧ i ∉ [1, 2, 3, 4, 5, 6]) → h1 (A i) = h (A i) := fun i hi => s _ (hA.no (I := [1, 2, 3, 4, 5, 6]) ⟨hi, by decide⟩)
  exact ⟨hA, (e 0 (by decide)).trans ho, ⟨sn, ss, es, hr, hF⟩, hR.cg (e 7 (by decide)) (e 8 (by decide)) (e 9 (by decide)) (e 10 (by decide)) (e 11 (by decide)) (e 12 (by decide)) (e 13 (by decide)) (e 14 (by decide)), hw.cg (e 15 (by decide)) (e 16 (by decide)) (e 17 (by decide)) (e 18 (by decide)), hout.cg (e 19 (by decide)) (e 20 (by decide)), hdr.cg (e 21 (by decide)) (e 22 (by decide)), c, (e 23 (by decide)).trans hc⟩
theorem k_flds0 {L : Nat} {sn ss es : Nat → Int32} (hf : k_flds 0 0 (fun _ => (0, 0, 0)) sn ss es) : k_flds L 0 (fun _ => (0, 0, 0)) sn ss es := by
  intro n hn
  obtain ⟨a1, a2, a3, a4, a5, e', a6, a7, a8⟩ := hf n hn
  exact ⟨a1, a2, a3, Nat.zero_le _, Nat.zero_le _, e', a6, by omega, a8⟩
theorem sp_sayHead (ht : k_tlk h A (st, ec, dl, pg, rq, out, dr, R, w)) (x y : Int32) (hN : out.length + 2 ≤ 574) : q_SP G mX6_sayHead [.ref (A 0), .int x, .int y] h 0 0 (fun o h' => o = none ∧ k_tlk h' A (st, ec, dl, pg, rq, out ++ [x, y], dr, R, w) ∧ k_same [A 19, A 20] h h') := by
  have o1 := ht.2.1
  have r1 := ht.2.2.2.2.2.1
  obtain ⟨f1, q1, -⟩ := id r1
  refine q_enter (M := mX6_sayHead) (by decide +kernel) rfl (Nat.le_of_ble_eq_true rfl) ?_
  refine x_aload_n 0 dX6_sayHead_0 rfl (by first | rfl | assumption) ?_
  refine gf_X6_sayHead_35 dX6_sayHead_1 (by first | assumption | exact va_up_self _ _ _) rfl ?_
  refine x_iload_n 1 dX6_sayHead_4 rfl (by first | rfl | assumption) ?_
  refine cl_X6_sayHead_5 (sp_add r1 x) (by first | assumption | exact va_up_self _ _ _) (Nat.le_of_ble_eq_true rfl) ⟨Nat.le_of_ble_eq_true rfl, Nat.le_of_ble_eq_true rfl⟩ (fun r g1 hq => ?_)
  obtain ⟨rfl, r2, s1⟩ := hq
  rw [if_pos (by omega)] at r2
  have t1 := ht.toOut r2 s1
  have o1 := t1.2.1
  obtain ⟨f1, q1, -⟩ := id r2
  refine x_aload_n 0 dX6_sayHead_8 rfl (by first | rfl | assumption) ?_
  refine gf_X6_sayHead_35 dX6_sayHead_9 (by first | assumption | exact va_up_self _ _ _) rfl ?_
  refine x_iload_n 2 dX6_sayHead_12 rfl (by first | rfl | assumption) ?_
  refine cl_X6_sayHead_13 (sp_add r2 y) (by first | assumption | exact va_up_self _ _ _) (Nat.le_of_ble_eq_true rfl) ⟨Nat.le_of_ble_eq_true rfl, Nat.le_of_ble_eq_true rfl⟩ (fun r g2 hq => ?_)
  obtain ⟨rfl, r3, s2⟩ := hq
  rw [if_pos (by rw [List.length_append]; show _ + 1 < _; omega), List.append_assoc] at r3
  refine x_vret rfl dX6_sayHead_16 (by decide) (by decide) ?_
  exact ⟨rfl, t1.toOut r3 s2, s1.tr s2⟩
theorem sp_sayCode (ht : k_tlk h A (st, ec, dl, pg, rq, out, dr, R, w)) (x : Int32) (hN : out.length + 2 ≤ 574) : q_SP G mX6_sayCode [.ref (A 0), .int x] h 0 0 (fun o h' => o = none ∧ k_tlk h' A (st, ec, dl, pg, rq, out ++ [x >>> ((8 : Int32) &&& 31), x &&& 255], dr, R, w) ∧ k_same [A 19, A 20] h h') := by
  have o1 := ht.2.1
  have r1 := ht.2.2.2.2.2.1
  obtain ⟨f1, q1, -⟩ := id r1
  refine q_enter (M := mX6_sayCode) (by decide +kernel) rfl (Nat.le_of_ble_eq_true rfl) ?_
  refine x_aload_n 0 dX6_sayCode_0 rfl (by first | rfl | assumption) ?_
  refine gf_X6_sayCode_35 dX6_sayCode_1 (by first | assumption | exact va_up_self _ _ _) rfl ?_
  refine x_iload_n 1 dX6_sayCode_4 rfl (by first | rfl | assumption) ?_
  refine x_bipush 8 dX6_sayCode_5 (by decide) ?_
  refine x_ishr dX6_sayCode_7 ?_
  refine cl_X6_sayCode_8 (sp_add r1 _) (by first | assumption | exact va_up_self _ _ _) (Nat.le_of_ble_eq_true rfl) ⟨Nat.le_of_ble_eq_true rfl, Nat.le_of_ble_eq_true rfl⟩ (fun r g1 hq => ?_)
  obtain ⟨rfl, r2, s1⟩ := hq
  rw [if_pos (by omega)] at r2
  have t1 := ht.toOut r2 s1
  have o1 := t1.2.1
  obtain ⟨f1, q1, -⟩ := id r2
  refine x_aload_n 0 dX6_sayCode_11 rfl (by first | rfl | assumption) ?_
  refine gf_X6_sayCode_35 dX6_sayCode_12 (by first | assumption | exact va_up_self _ _ _) rfl ?_
  refine x_iload_n 1 dX6_sayCode_15 rfl (by first | rfl | assumption) ?_
  refine x_sipush 255 dX6_sayCode_16 (by decide) ?_
  refine x_iand dX6_sayCode_19 ?_
  refine cl_X6_sayCode_20 (sp_add r2 _) (by first | assumption | exact va_up_self _ _ _) (Nat.le_of_ble_eq_true rfl) ⟨Nat.le_of_ble_eq_true rfl, Nat.le_of_ble_eq_true rfl⟩ (fun r g2 hq => ?_)
  obtain ⟨rfl, r3, s2⟩ := hq
  rw [if_pos (by rw [List.length_append]; show _ + 1 < _; omega), List.append_assoc] at r3
  refine x_vret rfl dX6_sayCode_23 (by decide) (by decide) ?_
  exact ⟨rfl, t1.toOut r3 s2, s1.tr s2⟩
theorem sp_say {r ra N a b : Nat} {l : List Int32} (ht : k_tlk h A (st, ec, dl, pg, rq, out, dr, R, w)) (hr : k_row h r ra N l) (hne : r ∉ [A 19, A 20] ∧ ra ∉ [A 19, A 20]) (x : Int32) (hab : a ≤ b) (hb : b ≤ l.length) (hN : out.length + 2 + (b - a) ≤ 574) : q_SP G mX6_say [.ref (A 0), .int x, .ref r, .int (nI a), .int (nI b)] h 0 0 (fun o h' => o = none ∧ k_tlk h' A (st, ec, dl, pg, rq, out ++ [x, nI (b - a)] ++ (l.drop a).take (b - a), dr, R, w) ∧ k_same [A 19, A 20] h h') := by
  have o1 := ht.2.1
  refine q_enter (M := mX6_say) (by decide +kernel) rfl (Nat.le_of_ble_eq_true rfl) ?_
  refine x_aload_n 0 dX6_say_0 rfl (by first | rfl | assumption) ?_
  refine x_iload_n 1 dX6_say_1 rfl (by first | rfl | assumption) ?_
  refine x_iload dX6_say_2 (by first | rfl | assumption) ?_
  refine x_iload_n 3 dX6_say_4 rfl (by first | rfl | assumption) ?_
  refine x_isub dX6_say_5 ?_
  rw [show nI b - nI a = nI (b - a) from pk_sub hab]
  refine cl_X6_say_6 (sp_sayHead ht x (nI (b - a)) (by omega)) (by first | assumption | exact va_up_self _ _ _) (Nat.le_of_ble_eq_true rfl) ⟨Nat.le_of_ble_eq_true rfl, Nat.le_of_ble_eq_true rfl⟩ (fun r0 g1 hq => ?_)
  obtain ⟨rfl, t1, s1⟩ := hq
  have o1 := t1.2.1
  have r1 := t1.2.2.2.2.2.1
  obtain ⟨f1, q1, -⟩ := id r1
  have r2 := hr.kept s1 hne.1 hne.2
  refine x_aload_n 0 dX6_say_9 rfl (by first | rfl | assumption) ?_
  refine gf_X6_say_35 dX6_say_10 (by first | assumption | exact va_up_self _ _ _) rfl ?_
  refine x_aload_n 2 dX6_say_13 rfl (by first | rfl | assumption) ?_
  refine x_iload_n 3 dX6_say_14 rfl (by first | rfl | assumption) ?_
  refine x_iload dX6_say_15 (by first | rfl | assumption) ?_
  refine cl_X6_say_17 (sp_addPart r1 r2 hne hab hb (by rw [List.length_append]; show _ + 2 + _ ≤ _; omega)) (by first | assumption | exact va_up_self _ _ _) (Nat.le_of_ble_eq_true rfl) ⟨Nat.le_of_ble_eq_true rfl, Nat.le_of_ble_eq_true rfl⟩ (fun r0 g2 hq => ?_)
  obtain ⟨rfl, r3, s2⟩ := hq
  refine x_vret rfl dX6_say_20 (by decide) (by decide) ?_
  exact ⟨rfl, t1.toOut r3 s2, s1.tr s2⟩
theorem sp_endWith (ht : k_tlk h A (st, ec, dl, pg, rq, out, dr, R, w)) (x : Int32) : q_SP G mX6_endWith [.ref (A 0), .int x] h 0 0 (fun o h' => o = none ∧ k_tlk h' A (3, x, dl, pg, rq, out, dr, R, w) ∧ k_same [A 0] h h') := by
  have o1 := ht.2.1
  refine q_enter (M := mX6_endWith) (by decide +kernel) rfl (Nat.le_of_ble_eq_true rfl) ?_
  refine x_aload_n 0 dX6_endWith_0 rfl (by first | rfl | assumption) ?_
  refine x_iload_n 1 dX6_endWith_1 rfl (by first | rfl | assumption) ?_
  refine pf_X6_endWith_76 dX6_endWith_2 (by first | assumption | exact va_up_self _ _ _) (Nat.le_of_ble_eq_true rfl) ?_
  refine x_gen (fun g1 o1 s1 => ?_)
  refine x_aload_n 0 dX6_endWith_5 rfl (by first | rfl | assumption) ?_
  refine x_iconst 3 dX6_endWith_6 (by decide) ?_
  refine pf_X6_endWith_49 dX6_endWith_7 (by first | assumption | exact va_up_self _ _ _) (Nat.le_of_ble_eq_true rfl) ?_
  refine x_gen (fun g2 o2 s2 => ?_)
  refine x_vret rfl dX6_endWith_10 (by decide) (by decide) ?_
  exact ⟨rfl, ht.toObj o2 (k_same.tr s1 s2) (fun z => absurd z (by decide)), k_same.tr s1 s2⟩
theorem sp_maySay (ht : k_tlk h A (st, ec, dl, pg, rq, out, dr, R, w)) {x : Nat} (hx : x < 1000000) : q_SP G mX6_maySay [.ref (A 0), .int (nI x)] h 0 0 (fun o h' => o = some (.int (z_b (decide (st = 1) && decide (out.length + x ≤ 400)))) ∧ h' = h) := by
  have o1 := ht.2.1
  have r1 := ht.2.2.2.2.2.1
  have hl := r1.len
  obtain ⟨f1, q1, -⟩ := id r1
  refine q_enter (M := mX6_maySay) (by decide +kernel) rfl (Nat.le_of_ble_eq_true rfl) ?_
  refine x_aload_n 0 dX6_maySay_0 rfl (by first | rfl | assumption) ?_
  refine gf_X6_maySay_49 dX6_maySay_1 (by first | assumption | exact va_up_self _ _ _) rfl ?_
  refine x_iconst 1 dX6_maySay_4 (by decide) ?_
  refine x_icmp_ne 27 dX6_maySay_5 (by decide) (fun c5 => ?_) (fun c5 => ?_)
  · refine x_iconst 0 dX6_maySay_27 (by decide) ?_
    refine x_iret rfl (by first | rfl | assumption | exact z_nb _ | decide) dX6_maySay_28 (by decide) (by decide) ?_
    exact ⟨by simp [c5, z_b], rfl⟩
  · refine x_aload_n 0 dX6_maySay_8 rfl (by first | rfl | assumption) ?_
    refine gf_X6_maySay_35 dX6_maySay_9 (by first | assumption | exact va_up_self _ _ _) rfl ?_
    refine cl_X6_maySay_12 (sp_size r1) (by first | assumption | exact va_up_self _ _ _) (Nat.le_of_ble_eq_true rfl) ⟨Nat.le_of_ble_eq_true rfl, Nat.le_of_ble_eq_true rfl⟩ (fun r g hq => ?_)
    obtain ⟨rfl, rfl⟩ := hq
    refine x_iload_n 1 dX6_maySay_15 rfl (by first | rfl | assumption) ?_
    refine x_iadd dX6_maySay_16 ?_
    refine x_sipush 400 dX6_maySay_17 (by decide) ?_
    rw [nI_add]
    by_cases hc : out.length + x ≤ 400
    · refine x_icmp_gt 27 dX6_maySay_20 (by decide) (fun z => absurd z (Int32.not_lt.mpr (nI_le (b := 400) hc (by omega)))) (fun _ => ?_)
      refine x_iconst 1 dX6_maySay_23 (by decide) ?_
      refine x_goto 28 dX6_maySay_24 (by decide) ?_
      refine x_iret rfl (by first | rfl | assumption | exact z_nb _ | decide) dX6_maySay_28 (by decide) (by decide) ?_
      exact ⟨by simp [c5, hc, z_b], rfl⟩
    · refine x_icmp_gt 27 dX6_maySay_20 (by decide) (fun _ => ?_) (fun z => absurd (nI_lt (a := 400) (by omega) (by omega)) z)
      refine x_iconst 0 dX6_maySay_27 (by decide) ?_
      refine x_iret rfl (by first | rfl | assumption | exact z_nb _ | decide) dX6_maySay_28 (by decide) (by decide) ?_
      exact ⟨by simp [c5, hc, z_b], rfl⟩
end TlkA
