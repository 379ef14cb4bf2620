/-! FramedTalk: what it hears -/
section TlkB
variable {G : q_G} {h : q_H} {A : Nat → Nat} {st ec dl pg : Int32} {rq out dr : List Int32} {R : z_R} {w : List z_Ms}
def t_violate : z_S → Int32 → z_S
  | (st, _, dl, pg, rq, out, dr, R, w), x => (3, x, dl, pg, rq, if st = 1 then out ++ [136, 2] ++ [x >>> ((8 : Int32) &&& 31), x &&& 255] else out, dr, R, w)
def t_two (sc : List Int32) : Nat := if 2 ≤ sc.length then 2 else 0
def t_finish : z_S → z_S
  | (st, ec, dl, pg, rq, out, dr, (pl, kd, la, uw, mkd, lsz, lrd, ln, mrd, crd, fm, msg, sc, c), w) =>
    if kd = 8 then (3, if 2 ≤ sc.length then r_pair sc else 1005, dl, pg, rq, if st = 1 then out ++ [136, nI (t_two sc)] ++ sc.take (t_two sc) else out, dr, (pl, kd, la, uw, mkd, lsz, lrd, ln, mrd, crd, fm, msg, sc, c), w)
    else if kd = 9 then (st, ec, dl, pg, rq, if st = 1 ∧ out.length + 2 + sc.length ≤ 470 then out ++ [138, nI sc.length] ++ sc else out, dr, (pl, kd, la, uw, mkd, lsz, lrd, ln, mrd, crd, fm, msg, sc, c), w)
    else if kd = 10 then (st, ec, dl, pg + 1, rq, out, dr, (pl, kd, la, uw, mkd, lsz, lrd, ln, mrd, crd, fm, msg, sc, c), w)
    else if la then (st, ec, dl + 1, pg, rq, out, dr, (pl, kd, la, uw, mkd, lsz, lrd, ln, mrd, crd, fm, msg, sc, c), if w.length < 4 then w ++ [(mkd, msg)] else w)
    else (st, ec, dl, pg, rq, out, dr, (pl, kd, la, uw, mkd, lsz, lrd, ln, mrd, crd, fm, msg, sc, c), w)
def t_setR : z_S → z_R → z_S
  | (st, ec, dl, pg, rq, out, dr, _, w), R => (st, ec, dl, pg, rq, out, dr, R, w)
/-- a byte of a frame -/
def t_frame (σ : z_S) (b : Int32) : z_S := if (r_read σ.2.2.2.2.2.2.2.1 b).1 = 1 then t_finish (t_setR σ (r_read σ.2.2.2.2.2.2.2.1 b).2) else if (r_read σ.2.2.2.2.2.2.2.1 b).1 = 0 then t_setR σ (r_read σ.2.2.2.2.2.2.2.1 b).2 else t_violate (t_setR σ (r_read σ.2.2.2.2.2.2.2.1 b).2) (r_read σ.2.2.2.2.2.2.2.1 b).1
def t_answer : z_S → Option (Bool × Nat) → z_S
  | (_, ec, dl, pg, rq, out, dr, R, w), some (true, p) => (1, ec, dl, pg, rq, out ++ q_byt.getD 10 [] ++ d_proof ((rq.drop p).take 24) ++ q_byt.getD 13 [], dr, R, w)
  | (_, ec, dl, pg, rq, out, dr, R, w), some (false, _) => (3, ec, dl, pg, rq, out ++ q_byt.getD 14 [], dr, R, w)
  | (_, ec, dl, pg, rq, out, dr, R, w), none => (3, ec, dl, pg, rq, out ++ q_byt.getD 15 [], dr, R, w)
/-- a byte of the request -/
def t_ask : z_S → Int32 → z_S
  | (st, ec, dl, pg, rq, out, dr, R, w), b => if z_comp (rq ++ [b]) then t_answer (st, ec, dl, pg, rq ++ [b], out, dr, R, w) (z_judge (rq ++ [b])) else if (rq ++ [b]).length = 400 then t_answer (st, ec, dl, pg, rq ++ [b], out, dr, R, w) none else (st, ec, dl, pg, rq ++ [b], out, dr, R, w)
def t_byte (σ : z_S) (b : Int32) : z_S := if σ.1 = 0 then t_ask σ b else if σ.1 = 3 then σ else t_frame σ b
theorem k_tlk.sc {pl kd : Int32} {la uw : Bool} {mkd lsz lrd : Int32} {ln : Int64} {mrd crd : Int32} {fm : Nat → Int32} {msg sc : List Int32} {c : z_T3} (ht : k_tlk h A (st, ec, dl, pg, rq, out, dr, (pl, kd, la, uw, mkd, lsz, lrd, ln, mrd, crd, fm, msg, sc, c), w)) : k_row h (A 11) (A 12) 125 sc := ht.2.2.2.1.2.2.2.1
theorem k_tlk.msg {pl kd : Int32} {la uw : Bool} {mkd lsz lrd : Int32} {ln : Int64} {mrd crd : Int32} {fm : Nat → Int32} {msg sc : List Int32} {c : z_T3} (ht : k_tlk h A (st, ec, dl, pg, rq, out, dr, (pl, kd, la, uw, mkd, lsz, lrd, ln, mrd, crd, fm, msg, sc, c), w)) : k_row h (A 9) (A 10) 300 msg := ht.2.2.2.1.2.2.1
theorem sp_violate (ht : k_tlk h A (st, ec, dl, pg, rq, out, dr, R, w)) (x : Int32) (hN : st = 1 → out.length + 4 ≤ 574) : q_SP G mX6_violate [.ref (A 0), .int x] h 0 0 (fun o h' => o = none ∧ k_tlk h' A (t_violate (st, ec, dl, pg, rq, out, dr, R, w) x) ∧ k_same (k_cells A) h h') := by
  have o1 := ht.2.1
  refine q_enter (M := mX6_violate) (by decide +kernel) rfl (Nat.le_of_ble_eq_true rfl) ?_
  refine x_aload_n 0 dX6_violate_0 rfl (by first | rfl | assumption) ?_
  refine gf_X6_violate_49 dX6_violate_1 (by first | assumption | exact va_up_self _ _ _) rfl ?_
  refine x_iconst 1 dX6_violate_4 (by decide) ?_
  refine x_icmp_ne 21 dX6_violate_5 (by decide) (fun c5 => ?_) (fun c5 => ?_)
  · refine x_aload_n 0 dX6_violate_21 rfl (by first | rfl | assumption) ?_
    refine x_iload_n 1 dX6_violate_22 rfl (by first | rfl | assumption) ?_
    refine cl_X6_violate_23 (sp_endWith ht x) (by first | assumption | exact va_up_self _ _ _) (Nat.le_of_ble_eq_true rfl) ⟨Nat.le_of_ble_eq_true rfl, Nat.le_of_ble_eq_true rfl⟩ (fun r g1 hq => ?_)
    obtain ⟨rfl, t1, s1⟩ := hq
    refine x_vret rfl dX6_violate_26 (by decide) (by decide) ?_
    refine ⟨rfl, ?_, s1.mono (k_sub24 (I := [0]) (by decide))⟩
    dsimp only [t_violate]
    rw [if_neg c5]
    exact t1
  · refine x_aload_n 0 dX6_violate_8 rfl (by first | rfl | assumption) ?_
    refine x_sipush 136 dX6_violate_9 (by decide) ?_
    refine x_iconst 2 dX6_violate_12 (by decide) ?_
    refine cl_X6_violate_13 (sp_sayHead ht 136 2 (by have := hN c5; omega)) (by first | assumption | exact va_up_self _ _ _) (Nat.le_of_ble_eq_true rfl) ⟨Nat.le_of_ble_eq_true rfl, Nat.le_of_ble_eq_true rfl⟩ (fun r g1 hq => ?_)
    obtain ⟨rfl, t1, s1⟩ := hq
    have o1 := t1.2.1
    refine x_aload_n 0 dX6_violate_16 rfl (by first | rfl | assumption) ?_
    refine x_iload_n 1 dX6_violate_17 rfl (by first | rfl | assumption) ?_
    refine cl_X6_violate_18 (sp_sayCode t1 x (by have := hN c5; rw [List.length_append]; show _ + 2 + 2 ≤ _; omega)) (by first | assumption | exact va_up_self _ _ _) (Nat.le_of_ble_eq_true rfl) ⟨Nat.le_of_ble_eq_true rfl, Nat.le_of_ble_eq_true rfl⟩ (fun r g2 hq => ?_)
    obtain ⟨rfl, t2, s2⟩ := hq
    have o1 := t2.2.1
    refine x_aload_n 0 dX6_violate_21 rfl (by first | rfl | assumption) ?_
    refine x_iload_n 1 dX6_violate_22 rfl (by first | rfl | assumption) ?_
    refine cl_X6_violate_23 (sp_endWith t2 x) (by first | assumption | exact va_up_self _ _ _) (Nat.le_of_ble_eq_true rfl) ⟨Nat.le_of_ble_eq_true rfl, Nat.le_of_ble_eq_true rfl⟩ (fun r g3 hq => ?_)
    obtain ⟨rfl, t3, s3⟩ := hq
    refine x_vret rfl dX6_violate_26 (by decide) (by decide) ?_
    refine ⟨rfl, ?_, ((s1.tr s2).mono (k_sub24 (I := [19, 20]) (by decide))).tr (s3.mono (k_sub24 (I := [0]) (by decide)))⟩
    dsimp only [t_violate]
    rw [if_pos c5]
    exact t3
variable {pl kd : Int32} {la uw : Bool} {mkd lsz lrd : Int32} {ln : Int64} {mrd crd : Int32} {fm : Nat → Int32} {msg sc : List Int32} {c : z_T3}
theorem sp_hearClose (ht : k_tlk h A (st, ec, dl, pg, rq, out, dr, (pl, kd, la, uw, mkd, lsz, lrd, ln, mrd, crd, fm, msg, sc, c), w)) (hN : st = 1 → out.length + 4 ≤ 574) : q_SP G mX6_hearClose [.ref (A 0), .ref (A 11)] h 0 0 (fun o h' => o = none ∧ k_tlk h' A (3, if 2 ≤ sc.length then r_pair sc else 1005, dl, pg, rq, if st = 1 then out ++ [136, nI (t_two sc)] ++ sc.take (t_two sc) else out, dr, (pl, kd, la, uw, mkd, lsz, lrd, ln, mrd, crd, fm, msg, sc, c), w) ∧ k_same (k_cells A) h h') := by
  have hA := ht.1
  have o1 := ht.2.1
  have rs := ht.sc
  have hl := rs.len
  obtain ⟨f1, q1, -⟩ := id rs
  have hne : A 11 ∉ [A 19, A 20] ∧ A 12 ∉ [A 19, A 20] := ⟨hA.no (I := [19, 20]) (by decide), hA.no (I := [19, 20]) (by decide)⟩
  by_cases h2 : 2 ≤ sc.length
  · have e2 : t_two sc = 2 := if_pos h2
    rw [e2, if_pos h2]
    refine q_enter (M := mX6_hearClose) (by decide +kernel) rfl (Nat.le_of_ble_eq_true rfl) ?_
    refine x_aload_n 1 dX6_hearClose_0 rfl (by first | rfl | assumption) ?_
    refine cl_X6_hearClose_1 (sp_size rs) (by first | assumption | exact va_up_self _ _ _) (Nat.le_of_ble_eq_true rfl) ⟨Nat.le_of_ble_eq_true rfl, Nat.le_of_ble_eq_true rfl⟩ (fun r g hq => ?_)
    obtain ⟨rfl, rfl⟩ := hq
    refine x_iconst 2 dX6_hearClose_4 (by decide) ?_
    refine x_icmp_lt 12 dX6_hearClose_5 (by decide) (fun z => absurd z (Int32.not_lt.mpr (nI_le (a := 2) h2 (by omega)))) (fun _ => ?_)
    refine x_iconst 1 dX6_hearClose_8 (by decide) ?_
    refine x_goto 13 dX6_hearClose_9 (by decide) ?_
    refine x_istore_n 2 dX6_hearClose_13 rfl (by decide) rfl ?_
    refine x_aload_n 0 dX6_hearClose_14 rfl (by first | rfl | assumption) ?_
    refine gf_X6_hearClose_49 dX6_hearClose_15 (by first | assumption | exact va_up_self _ _ _) rfl ?_
    refine x_iconst 1 dX6_hearClose_18 (by decide) ?_
    refine x_icmp_ne 40 dX6_hearClose_19 (by decide) (fun c19 => ?_) (fun c19 => ?_)
    · refine x_aload_n 0 dX6_hearClose_40 rfl (by first | rfl | assumption) ?_
      refine x_iload_n 2 dX6_hearClose_41 rfl (by first | rfl | assumption) ?_
      refine x_if_eq 52 dX6_hearClose_42 (by decide) (fun z => absurd z (by decide)) (fun _ => ?_)
      refine x_aload_n 1 dX6_hearClose_45 rfl (by first | rfl | assumption) ?_
      refine cl_X6_hearClose_46 (sp_pair rs) (by first | assumption | exact va_up_self _ _ _) (Nat.le_of_ble_eq_true rfl) ⟨Nat.le_of_ble_eq_true rfl, Nat.le_of_ble_eq_true rfl⟩ (fun r g hq => ?_)
      obtain ⟨rfl, rfl⟩ := hq
      refine x_goto 55 dX6_hearClose_49 (by decide) ?_
      refine cl_X6_hearClose_55 (sp_endWith ht _) (by first | assumption | exact va_up_self _ _ _) (Nat.le_of_ble_eq_true rfl) ⟨Nat.le_of_ble_eq_true rfl, Nat.le_of_ble_eq_true rfl⟩ (fun r g3 hq => ?_)
      obtain ⟨rfl, t3, s3⟩ := hq
      refine x_vret rfl dX6_hearClose_58 (by decide) (by decide) ?_
      refine ⟨rfl, ?_, (s3.mono (k_sub24 (I := [0]) (by decide)))⟩
      rw [if_neg c19]
      exact t3
    · refine x_aload_n 0 dX6_hearClose_22 rfl (by first | rfl | assumption) ?_
      refine x_sipush 136 dX6_hearClose_23 (by decide) ?_
      refine x_aload_n 1 dX6_hearClose_26 rfl (by first | rfl | assumption) ?_
      refine x_iconst 0 dX6_hearClose_27 (by decide) ?_
      refine x_iload_n 2 dX6_hearClose_28 rfl (by first | rfl | assumption) ?_
      refine x_if_eq 36 dX6_hearClose_29 (by decide) (fun z => absurd z (by decide)) (fun _ => ?_)
      refine x_iconst 2 dX6_hearClose_32 (by decide) ?_
      refine x_goto 37 dX6_hearClose_33 (by decide) ?_
      refine cl_X6_hearClose_37 (sp_say (a := 0) (b := 2) ht rs hne 136 (by omega) h2 (by have := hN c19; omega)) (by first | assumption | exact va_up_self _ _ _) (Nat.le_of_ble_eq_true rfl) ⟨Nat.le_of_ble_eq_true rfl, Nat.le_of_ble_eq_true rfl⟩ (fun r g1 hq => ?_)
      obtain ⟨rfl, t1, s1⟩ := hq
      have o1 := t1.2.1
      have rs := t1.sc
      obtain ⟨f1, q1, -⟩ := id rs
      refine x_aload_n 0 dX6_hearClose_40 rfl (by first | rfl | assumption) ?_
      refine x_iload_n 2 dX6_hearClose_41 rfl (by first | rfl | assumption) ?_
      refine x_if_eq 52 dX6_hearClose_42 (by decide) (fun z => absurd z (by decide)) (fun _ => ?_)
      refine x_aload_n 1 dX6_hearClose_45 rfl (by first | rfl | assumption) ?_
      refine cl_X6_hearClose_46 (sp_pair rs) (by first | assumption | exact va_up_self _ _ _) (Nat.le_of_ble_eq_true rfl) ⟨Nat.le_of_ble_eq_true rfl, Nat.le_of_ble_eq_true rfl⟩ (fun r g hq => ?_)
      obtain ⟨rfl, rfl⟩ := hq
      refine x_goto 55 dX6_hearClose_49 (by decide) ?_
      refine cl_X6_hearClose_55 (sp_endWith t1 _) (by first | assumption | exact va_up_self _ _ _) (Nat.le_of_ble_eq_true rfl) ⟨Nat.le_of_ble_eq_true rfl, Nat.le_of_ble_eq_true rfl⟩ (fun r g3 hq => ?_)
      obtain ⟨rfl, t3, s3⟩ := hq
      refine x_vret rfl dX6_hearClose_58 (by decide) (by decide) ?_
      refine ⟨rfl, ?_, (s1.mono (k_sub24 (I := [19, 20]) (by decide))).tr (s3.mono (k_sub24 (I := [0]) (by decide)))⟩
      rw [if_pos c19]
      exact t3
  · have e2 : t_two sc = 0 := if_neg h2
    rw [e2, if_neg h2]
    refine q_enter (M := mX6_hearClose) (by decide +kernel) rfl (Nat.le_of_ble_eq_true rfl) ?_
    refine x_aload_n 1 dX6_hearClose_0 rfl (by first | rfl | assumption) ?_
    refine cl_X6_hearClose_1 (sp_size rs) (by first | assumption | exact va_up_self _ _ _) (Nat.le_of_ble_eq_true rfl) ⟨Nat.le_of_ble_eq_true rfl, Nat.le_of_ble_eq_true rfl⟩ (fun r g hq => ?_)
    obtain ⟨rfl, rfl⟩ := hq
    refine x_iconst 2 dX6_hearClose_4 (by decide) ?_
    refine x_icmp_lt 12 dX6_hearClose_5 (by decide) (fun _ => ?_) (fun z => absurd (nI_lt (b := 2) (by omega) (by omega)) z)
    refine x_iconst 0 dX6_hearClose_12 (by decide) ?_
    refine x_istore_n 2 dX6_hearClose_13 rfl (by decide) rfl ?_
    refine x_aload_n 0 dX6_hearClose_14 rfl (by first | rfl | assumption) ?_
    refine gf_X6_hearClose_49 dX6_hearClose_15 (by first | assumption | exact va_up_self _ _ _) rfl ?_
    refine x_iconst 1 dX6_hearClose_18 (by decide) ?_
    refine x_icmp_ne 40 dX6_hearClose_19 (by decide) (fun c19 => ?_) (fun c19 => ?_)
    · refine x_aload_n 0 dX6_hearClose_40 rfl (by first | rfl | assumption) ?_
      refine x_iload_n 2 dX6_hearClose_41 rfl (by first | rfl | assumption) ?_
      refine x_if_eq 52 dX6_hearClose_42 (by decide) (fun _ => ?_) (fun z => absurd (by decide) z)
      refine x_sipush 1005 dX6_hearClose_52 (by decide) ?_
      refine cl_X6_hearClose_55 (sp_endWith ht _) (by first | assumption | exact va_up_self _ _ _) (Nat.le_of_ble_eq_true rfl) ⟨Nat.le_of_ble_eq_true rfl, Nat.le_of_ble_eq_true rfl⟩ (fun r g3 hq => ?_)
      obtain ⟨rfl, t3, s3⟩ := hq
      refine x_vret rfl dX6_hearClose_58 (by decide) (by decide) ?_
      refine ⟨rfl, ?_, (s3.mono (k_sub24 (I := [0]) (by decide)))⟩
      rw [if_neg c19]
      exact t3
    · refine x_aload_n 0 dX6_hearClose_22 rfl (by first | rfl | assumption) ?_
      refine x_sipush 136 dX6_hearClose_23 (by decide) ?_
      refine x_aload_n 1 dX6_hearClose_26 rfl (by first | rfl | assumption) ?_
      refine x_iconst 0 dX6_hearClose_27 (by decide) ?_
      refine x_iload_n 2 dX6_hearClose_28 rfl (by first | rfl | assumption) ?_
      refine x_if_eq 36 dX6_hearClose_29 (by decide) (fun _ => ?_) (fun z => absurd (by decide) z)
      refine x_iconst 0 dX6_hearClose_36 (by decide) ?_
      refine cl_X6_hearClose_37 (sp_say (a := 0) (b := 0) ht rs hne 136 (by omega) (by omega) (by have := hN c19; omega)) (by first | assumption | exact va_up_self _ _ _) (Nat.le_of_ble_eq_true rfl) ⟨Nat.le_of_ble_eq_true rfl, Nat.le_of_ble_eq_true rfl⟩ (fun r g1 hq => ?_)
      obtain ⟨rfl, t1, s1⟩ := hq
      have o1 := t1.2.1
      refine x_aload_n 0 dX6_hearClose_40 rfl (by first | rfl | assumption) ?_
      refine x_iload_n 2 dX6_hearClose_41 rfl (by first | rfl | assumption) ?_
      refine x_if_eq 52 dX6_hearClose_42 (by decide) (fun _ => ?_) (fun z => absurd (by decide) z)
      refine x_sipush 1005 dX6_hearClose_52 (by decide) ?_
      refine cl_X6_hearClose_55 (sp_endWith t1 _) (by first | assumption | exact va_up_self _ _ _) (Nat.le_of_ble_eq_true rfl) ⟨Nat.le_of_ble_eq_true rfl, Nat.le_of_ble_eq_true rfl⟩ (fun r g3 hq => ?_)
      obtain ⟨rfl, t3, s3⟩ := hq
      refine x_vret rfl dX6_hearClose_58 (by decide) (by decide) ?_
      refine ⟨rfl, ?_, (s1.mono (k_sub24 (I := [19, 20]) (by decide))).tr (s3.mono (k_sub24 (I := [0]) (by decide)))⟩
      rw [if_pos c19]
      exact t3
theorem sp_hearPing (ht : k_tlk h A (st, ec, dl, pg, rq, out, dr, (pl, kd, la, uw, mkd, lsz, lrd, ln, mrd, crd, fm, msg, sc, c), w)) : q_SP G mX6_hearPing [.ref (A 0), .ref (A 11)] h 0 0 (fun o h' => o = none ∧ k_tlk h' A (st, ec, dl, pg, rq, if st = 1 ∧ out.length + 2 + sc.length ≤ 470 then out ++ [138, nI sc.length] ++ sc else out, dr, (pl, kd, la, uw, mkd, lsz, lrd, ln, mrd, crd, fm, msg, sc, c), w) ∧ k_same (k_cells A) h h') := by
  have hA := ht.1
  have o1 := ht.2.1
  have rs := ht.sc
  have ro := ht.2.2.2.2.2.1
  have hl := rs.len
  have hl2 := ro.len
  obtain ⟨f1, q1, -⟩ := id rs
  obtain ⟨f2, q2, -⟩ := id ro
  have hne : A 11 ∉ [A 19, A 20] ∧ A 12 ∉ [A 19, A 20] := ⟨hA.no (I := [19, 20]) (by decide), hA.no (I := [19, 20]) (by decide)⟩
  refine q_enter (M := mX6_hearPing) (by decide +kernel) rfl (Nat.le_of_ble_eq_true rfl) ?_
  refine x_aload_n 0 dX6_hearPing_0 rfl (by first | rfl | assumption) ?_
  refine gf_X6_hearPing_49 dX6_hearPing_1 (by first | assumption | exact va_up_self _ _ _) rfl ?_
  refine x_iconst 1 dX6_hearPing_4 (by decide) ?_
  refine x_icmp_ne 41 dX6_hearPing_5 (by decide) (fun c5 => ?_) (fun c5 => ?_)
  · refine x_vret rfl dX6_hearPing_41 (by decide) (by decide) ?_
    refine ⟨rfl, ?_, k_same.rf⟩
    rw [if_neg (fun z => c5 z.1)]
    exact ht
  · refine x_aload_n 0 dX6_hearPing_8 rfl (by first | rfl | assumption) ?_
    refine gf_X6_hearPing_35 dX6_hearPing_9 (by first | assumption | exact va_up_self _ _ _) rfl ?_
    refine cl_X6_hearPing_12 (sp_size ro) (by first | assumption | exact va_up_self _ _ _) (Nat.le_of_ble_eq_true rfl) ⟨Nat.le_of_ble_eq_true rfl, Nat.le_of_ble_eq_true rfl⟩ (fun r g hq => ?_)
    obtain ⟨rfl, rfl⟩ := hq
    refine x_iconst 2 dX6_hearPing_15 (by decide) ?_
    refine x_iadd dX6_hearPing_16 ?_
    refine x_aload_n 1 dX6_hearPing_17 rfl (by first | rfl | assumption) ?_
    refine cl_X6_hearPing_18 (sp_size rs) (by first | assumption | exact va_up_self _ _ _) (Nat.le_of_ble_eq_true rfl) ⟨Nat.le_of_ble_eq_true rfl, Nat.le_of_ble_eq_true rfl⟩ (fun r g hq => ?_)
    obtain ⟨rfl, rfl⟩ := hq
    refine x_iadd dX6_hearPing_21 ?_
    refine x_sipush 470 dX6_hearPing_22 (by decide) ?_
    rw [show nI out.length + 2 = nI (out.length + 2) from nI_add _ 2, nI_add]
    by_cases hc : out.length + 2 + sc.length ≤ 470
    · refine x_icmp_gt 41 dX6_hearPing_25 (by decide) (fun z => absurd z (Int32.not_lt.mpr (nI_le (b := 470) hc (by omega)))) (fun _ => ?_)
      refine x_aload_n 0 dX6_hearPing_28 rfl (by first | rfl | assumption) ?_
      refine x_sipush 138 dX6_hearPing_29 (by decide) ?_
      refine x_aload_n 1 dX6_hearPing_32 rfl (by first | rfl | assumption) ?_
      refine x_iconst 0 dX6_hearPing_33 (by decide) ?_
      refine x_aload_n 1 dX6_hearPing_34 rfl (by first | rfl | assumption) ?_
      refine cl_X6_hearPing_35 (sp_size rs) (by first | assumption | exact va_up_self _ _ _) (Nat.le_of_ble_eq_true rfl) ⟨Nat.le_of_ble_eq_true rfl, Nat.le_of_ble_eq_true rfl⟩ (fun r g hq => ?_)
      obtain ⟨rfl, rfl⟩ := hq
      refine cl_X6_hearPing_38 (sp_say (a := 0) ht rs hne 138 (by omega) (Nat.le_refl _) (by omega)) (by first | assumption | exact va_up_self _ _ _) (Nat.le_of_ble_eq_true rfl) ⟨Nat.le_of_ble_eq_true rfl, Nat.le_of_ble_eq_true rfl⟩ (fun r g1 hq => ?_)
      obtain ⟨rfl, t1, s1⟩ := hq
      refine x_vret rfl dX6_hearPing_41 (by decide) (by decide) ?_
      refine ⟨rfl, ?_, s1.mono (k_sub24 (I := [19, 20]) (by decide))⟩
      rw [if_pos ⟨c5, hc⟩]
      rw [Nat.sub_zero, List.drop_zero, List.take_length] at t1
      exact t1
    · refine x_icmp_gt 41 dX6_hearPing_25 (by decide) (fun _ => ?_) (fun z => absurd (nI_lt (a := 470) (by omega) (by omega)) z)
      refine x_vret rfl dX6_hearPing_41 (by decide) (by decide) ?_
      refine ⟨rfl, ?_, k_same.rf⟩
      rw [if_neg (fun z => hc z.2)]
      exact ht
end TlkB
