/-! FramedTalk$Frames: its state as a tuple, its methods as functions of it -/
section FrmA
/-- place, kind, last, under way, kind of the message, bytes of the length, how many read; length; of the mask, of the content how many read; mask, message, short content, the text's state -/
abbrev z_R : Type := Int32 × Int32 × Bool × Bool × Int32 × Int32 × Int32 × Int64 × Int32 × Int32 × (Nat → Int32) × List Int32 × List Int32 × z_T3
def r_short (kd : Int32) : Bool := !decide (kd < 8)
def r_may (kd : Int32) (la uw : Bool) : Bool := if kd = 0 then uw else if kd = 1 ∨ kd = 2 then !uw else if kd = 8 ∨ kd = 9 ∨ kd = 10 then la else false
def r_first : z_R → Int32 → Int32 × z_R
  | (pl, _, _, uw, mkd, lsz, lrd, ln, mrd, crd, fm, msg, sc, c), b =>
    if b &&& 112 = 0 then
      (if r_may (b &&& 15) (!decide (b < 128)) uw then
        (if r_short (b &&& 15) then (0, (1, b &&& 15, !decide (b < 128), uw, mkd, lsz, lrd, ln, mrd, crd, fm, msg, [], c))
         else if b &&& 15 = 0 then (0, (1, b &&& 15, !decide (b < 128), uw, mkd, lsz, lrd, ln, mrd, crd, fm, msg, sc, c))
         else (0, (1, b &&& 15, !decide (b < 128), true, b &&& 15, lsz, lrd, ln, mrd, crd, fm, [], sc, (0, c.2.1, c.2.2))))
       else (1002, (pl, b &&& 15, !decide (b < 128), uw, mkd, lsz, lrd, ln, mrd, crd, fm, msg, sc, c)))
    else (1002, (pl, b &&& 15, !decide (b < 128), uw, mkd, lsz, lrd, ln, mrd, crd, fm, msg, sc, c))
def r_len : z_R → Int32 × z_R
  | (pl, kd, la, uw, mkd, lsz, lrd, ln, mrd, crd, fm, msg, sc, c) =>
    if r_short kd = false ∧ (300 - nI msg.length).toInt64 < ln then (1009, (pl, kd, la, uw, mkd, lsz, lrd, ln, mrd, crd, fm, msg, sc, c))
    else (0, (3, kd, la, uw, mkd, lsz, lrd, ln, 0, crd, fm, msg, sc, c))
def r_second : z_R → Int32 → Int32 × z_R
  | (pl, kd, la, uw, mkd, lsz, lrd, ln, mrd, crd, fm, msg, sc, c), b =>
    if b < 128 ∨ (r_short kd = true ∧ 125 < b &&& 127) then (1002, (pl, kd, la, uw, mkd, lsz, lrd, ln, mrd, crd, fm, msg, sc, c))
    else if 125 < b &&& 127 then (0, (2, kd, la, uw, mkd, if b &&& 127 = 126 then 2 else 8, 0, 0, mrd, crd, fm, msg, sc, c))
    else r_len (pl, kd, la, uw, mkd, lsz, lrd, (b &&& 127).toInt64, mrd, crd, fm, msg, sc, c)
def r_length : z_R → Int32 → Int32 × z_R
  | (pl, kd, la, uw, mkd, lsz, lrd, ln, mrd, crd, fm, msg, sc, c), b =>
    if lsz ≤ lrd + 1 then
      (if (ln <<< ((8 : Int32).toInt64 &&& 63) ||| b.toInt64) < (if lsz = 2 then (126 : Int32) else 65536).toInt64 then (1002, (pl, kd, la, uw, mkd, lsz, lrd + 1, ln <<< ((8 : Int32).toInt64 &&& 63) ||| b.toInt64, mrd, crd, fm, msg, sc, c))
       else r_len (pl, kd, la, uw, mkd, lsz, lrd + 1, ln <<< ((8 : Int32).toInt64 &&& 63) ||| b.toInt64, mrd, crd, fm, msg, sc, c))
    else (0, (pl, kd, la, uw, mkd, lsz, lrd + 1, ln <<< ((8 : Int32).toInt64 &&& 63) ||| b.toInt64, mrd, crd, fm, msg, sc, c))
def r_mask : z_R → Int32 → z_R
  | (pl, kd, la, uw, mkd, lsz, lrd, ln, mrd, crd, fm, msg, sc, c), b =>
    if mrd + 1 = 4 then (4, kd, la, uw, mkd, lsz, lrd, ln, mrd + 1, 0, upd fm (mrd &&& 3).toNatClampNeg b, msg, sc, c)
    else (pl, kd, la, uw, mkd, lsz, lrd, ln, mrd + 1, crd, upd fm (mrd &&& 3).toNatClampNeg b, msg, sc, c)
/-- into a row with a room -/
def r_add (N : Nat) (l : List Int32) (b : Int32) : List Int32 := if l.length < N then l ++ [b] else l
def r_content : z_R → Int32 → Int32 × z_R
  | (pl, kd, la, uw, mkd, lsz, lrd, ln, mrd, crd, fm, msg, sc, c), b =>
    if r_short kd then (0, (pl, kd, la, uw, mkd, lsz, lrd, ln, mrd, crd + 1, fm, msg, r_add 125 sc (b ^^^ fm (crd &&& 3).toNatClampNeg), c))
    else if mkd = 1 then
      (if (z_u8 c (b ^^^ fm (crd &&& 3).toNatClampNeg)).isSome then (0, (pl, kd, la, uw, mkd, lsz, lrd, ln, mrd, crd + 1, fm, r_add 300 msg (b ^^^ fm (crd &&& 3).toNatClampNeg), sc, (z_u8 c (b ^^^ fm (crd &&& 3).toNatClampNeg)).getD c))
       else (1007, (pl, kd, la, uw, mkd, lsz, lrd, ln, mrd, crd + 1, fm, msg, sc, (z_u8 c (b ^^^ fm (crd &&& 3).toNatClampNeg)).getD c)))
    else (0, (pl, kd, la, uw, mkd, lsz, lrd, ln, mrd, crd + 1, fm, r_add 300 msg (b ^^^ fm (crd &&& 3).toNatClampNeg), sc, c))
def r_part (R : z_R) (b : Int32) : Int32 × z_R := if R.1 = 0 then r_first R b else if R.1 = 1 then r_second R b else if R.1 = 2 then r_length R b else if R.1 = 3 then (0, r_mask R b) else r_content R b
def r_code (x : Int32) : Bool := (!decide (x < 1000) && decide (x ≤ 1003)) || (!decide (x < 1007) && decide (x ≤ 1011)) || (!decide (x < 3000) && !decide (4999 < x))
def r_pair (sc : List Int32) : Int32 := if sc.length < 2 then -1 else sc.getD 0 0 * 256 + sc.getD 1 0
def r_close (sc : List Int32) : Int32 := if sc.length = 0 then 1 else if r_code (r_pair sc) then (if z_txt (sc.drop 2) then 1 else 1007) else 1002
def r_frame : z_R → Int32 × z_R
  | (pl, kd, la, uw, mkd, lsz, lrd, ln, mrd, crd, fm, msg, sc, c) =>
    if r_short kd then (if kd = 8 then r_close sc else 1, (pl, kd, la, uw, mkd, lsz, lrd, ln, mrd, crd, fm, msg, sc, c))
    else if la then (if mkd = 1 ∧ ¬ c.1 = 0 then 1007 else 1, (pl, kd, la, false, mkd, lsz, lrd, ln, mrd, crd, fm, msg, sc, c))
    else (1, (pl, kd, la, uw, mkd, lsz, lrd, ln, mrd, crd, fm, msg, sc, c))
def r_at0 : z_R → z_R
  | (_, kd, la, uw, mkd, lsz, lrd, ln, mrd, crd, fm, msg, sc, c) => (0, kd, la, uw, mkd, lsz, lrd, ln, mrd, crd, fm, msg, sc, c)
def r_full : z_R → Bool
  | (pl, _, _, _, _, _, _, ln, _, crd, _, _, _, _) => decide (pl = 4) && decide (crd.toInt64 = ln)
/-- Frames.read -/
def r_read (R : z_R) (b : Int32) : Int32 × z_R := if (r_part R b).1 = 0 ∧ r_full (r_part R b).2 then r_frame (r_at0 (r_part R b).2) else r_part R b
variable {G : q_G} {h : q_H} {a aM rm rma rs rsa c1 c2 : Nat} {S : z_R}
def k_frm (h : q_H) (a aM rm rma rs rsa c1 c2 : Nat) : z_R → Prop
  | (pl, kd, la, uw, mkd, lsz, lrd, ln, mrd, crd, fm, msg, sc, c) => h a = some (k_ob 1 [.ref aM, .ref rm, .ref rs, .ref c1, .ref c2, .int pl, .int kd, .int (z_b la), .int (z_b uw), .int mkd, .int lsz, .int lrd, .long ln, .int mrd, .int crd]) ∧ h aM = some (k_ar 4 fm) ∧ k_row h rm rma 300 msg ∧ k_row h rs rsa 125 sc ∧ k_chk h c1 c ∧ (∃ cr, k_chk h c2 cr) ∧ [a, aM, rm, rma, rs, rsa, c1, c2].Nodup
theorem k_frm.kept {h1 : q_H} {T : List Nat} (hf : k_frm h a aM rm rma rs rsa c1 c2 S) (hs : k_same T h h1) (h0 : ∀ q ∈ [a, aM, rm, rma, rs, rsa, c1, c2], q ∉ T) : k_frm h1 a aM rm rma rs rsa c1 c2 S := by
  obtain ⟨pl, kd, la, uw, mkd, lsz, lrd, ln, mrd, crd, fm, msg, sc, c⟩ := S
  obtain ⟨e1, e2, e3, e4, e5, ⟨cr, e6⟩, e7⟩ := hf
  refine ⟨(hs a (h0 a (by simp))).trans e1, (hs aM (h0 aM (by simp))).trans e2, e3.kept hs (h0 rm (by simp)) (h0 rma (by simp)), e4.kept hs (h0 rs (by simp)) (h0 rsa (by simp)), e5.kept hs (h0 c1 (by simp)), ⟨cr, e6.kept hs (h0 c2 (by simp))⟩, e7⟩
end FrmA
section FrmB
variable {G : q_G} {h : q_H} {a aM rm rma rs rsa c1 c2 : Nat} {pl kd mkd lsz lrd mrd crd : Int32} {la uw : Bool} {ln : Int64} {fm : Nat → Int32} {msg sc : List Int32} {c : z_T3}
theorem sp_isShort {v0 v1 v2 v3 v4 v5 v7 v8 v9 v10 v11 v12 v13 v14 : Value} (ho : h a = some (k_ob 1 [v0, v1, v2, v3, v4, v5, .int kd, v7, v8, v9, v10, v11, v12, v13, v14])) : q_SP G mX1_isShort [.ref a] h 0 0 (fun o h' => o = some (.int (z_b (r_short kd))) ∧ h' = h) := by
  refine q_enter (M := mX1_isShort) (by decide +kernel) rfl (Nat.le_of_ble_eq_true rfl) ?_
  refine x_aload_n 0 dX1_isShort_0 rfl (by first | rfl | assumption) ?_
  refine gf_X1_isShort_41 dX1_isShort_1 (by first | assumption | exact va_up_self _ _ _) rfl ?_
  refine x_bipush 8 dX1_isShort_4 (by decide) ?_
  refine x_icmp_lt 13 dX1_isShort_6 (by decide) (fun c6 => ?_) (fun c6 => ?_)
  · refine x_iconst 0 dX1_isShort_13 (by decide) ?_
    refine x_iret rfl (by first | rfl | assumption | exact z_nb _ | decide) dX1_isShort_14 (by decide) (by decide) ?_
    exact ⟨by simp [r_short, z_b, *], rfl⟩
  · refine x_iconst 1 dX1_isShort_9 (by decide) ?_
    refine x_goto 14 dX1_isShort_10 (by decide) ?_
    refine x_iret rfl (by first | rfl | assumption | exact z_nb _ | decide) dX1_isShort_14 (by decide) (by decide) ?_
    exact ⟨by simp [r_short, z_b, *], rfl⟩
theorem i32_in {x : Int32} {n : Nat} (h1 : ¬ x.toInt < 0) (h2 : ¬ (n : Int) < x.toInt) : ∃ j : Nat, j ≤ n ∧ x = nI j := by
  have hn := Int32.toInt_lt x
  refine ⟨x.toInt.toNat, by omega, ?_⟩
  apply Int32.toInt_inj.mp
  rw [nI_toInt (by omega)]
  omega
theorem sp_mayCome {v0 v1 v2 v3 v4 v5 v9 v10 v11 v12 v13 v14 : Value} (ho : h a = some (k_ob 1 [v0, v1, v2, v3, v4, v5, .int kd, .int (z_b la), .int (z_b uw), v9, v10, v11, v12, v13, v14])) : q_SP G mX1_mayComeNow [.ref a] h 0 0 (fun o h' => o = some (.int (z_b (r_may kd la uw))) ∧ h' = h) := by
  refine q_enter (M := mX1_mayComeNow) (by decide +kernel) rfl (Nat.le_of_ble_eq_true rfl) ?_
  refine x_aload_n 0 dX1_mayComeNow_0 rfl (by first | rfl | assumption) ?_
  refine gf_X1_mayComeNow_41 dX1_mayComeNow_1 (by first | assumption | exact va_up_self _ _ _) rfl ?_
  by_cases h1 : kd.toInt < 0 ∨ (10 : Int) < kd.toInt
  · refine x_tableOut 87 dX1_mayComeNow_4 h1 (by decide) ?_
    refine x_iconst 0 dX1_mayComeNow_87 (by decide) ?_
    refine x_iret rfl (by first | rfl | assumption | exact z_nb _) dX1_mayComeNow_88 (by decide) (by decide) ?_
    have e : ∀ j : Nat, j ≤ 10 → ¬ kd = nI j := by
      intro j hj z
      rw [z, nI_toInt (by omega)] at h1
      omega
    have k0 : ¬ kd = 0 := e 0 (by omega)
    have k1 : ¬ (kd = 1 ∨ kd = 2) := fun z => z.elim (e 1 (by omega)) (e 2 (by omega))
    have k2 : ¬ (kd = 8 ∨ kd = 9 ∨ kd = 10) := fun z => z.elim (e 8 (by omega)) (fun z => z.elim (e 9 (by omega)) (e 10 (by omega)))
    unfold r_may
    rw [if_neg k0, if_neg k1, if_neg k2]
    exact ⟨rfl, rfl⟩
  · rw [not_or] at h1
    obtain ⟨j, hj, rfl⟩ := i32_in (n := 10) h1.1 h1.2
    have g0 : ∀ tgt : Nat, (∀ off : Int, (#[60, 65, 65, 83, 83, 83, 83, 83, 78, 78, 78] : Array Int)[j]? = some off → (4 : Int) + off = (tgt : Int)) → q_X G mX1_mayComeNow (q_R mX1_mayComeNow 0 0) (q_FN G (fun o h' => o = some (.int (z_b (r_may (nI j) la uw))) ∧ h' = h) 0 0) tgt [(0, .ref a)] [] h 0 0 → q_X G mX1_mayComeNow (q_R mX1_mayComeNow 0 0) (q_FN G (fun o h' => o = some (.int (z_b (r_may (nI j) la uw))) ∧ h' = h) 0 0) 4 [(0, .ref a)] [.int (nI j)] h 0 0 := by
      intro tgt ht k
      have hlt : j < (#[60, 65, 65, 83, 83, 83, 83, 83, 78, 78, 78] : Array Int).size := by show j < 11; omega
      refine x_tableIn tgt dX1_mayComeNow_4 h1.1 h1.2 (off := (#[60, 65, 65, 83, 83, 83, 83, 83, 78, 78, 78] : Array Int)[j]) ?_ (ht _ (by rw [Array.getElem?_eq_getElem hlt])) k
      rw [nI_toInt (by omega), show ((j : Int) - 0).toNat = j by omega, Array.getElem?_eq_getElem hlt]
    have five : j = 0 ∨ j = 1 ∨ j = 2 ∨ j = 3 ∨ j = 4 ∨ j = 5 ∨ j = 6 ∨ j = 7 ∨ j = 8 ∨ j = 9 ∨ j = 10 := by omega
    have outw : j = 3 ∨ j = 4 ∨ j = 5 ∨ j = 6 ∨ j = 7 → q_X G mX1_mayComeNow (q_R mX1_mayComeNow 0 0) (q_FN G (fun o h' => o = some (.int (z_b (r_may (nI j) la uw))) ∧ h' = h) 0 0) 87 [(0, .ref a)] [] h 0 0 := by
      intro hj
      refine x_iconst 0 dX1_mayComeNow_87 (by decide) ?_
      refine x_iret rfl (by first | rfl | assumption | exact z_nb _) dX1_mayComeNow_88 (by decide) (by decide) ?_
      refine ⟨?_, rfl⟩
      rcases hj with rfl | rfl | rfl | rfl | rfl <;> rfl
    have twow : j = 1 ∨ j = 2 → q_X G mX1_mayComeNow (q_R mX1_mayComeNow 0 0) (q_FN G (fun o h' => o = some (.int (z_b (r_may (nI j) la uw))) ∧ h' = h) 0 0) 69 [(0, .ref a)] [] h 0 0 := by
      intro hj
      have e : r_may (nI j) la uw = !uw := by rcases hj with rfl | rfl <;> rfl
      rw [e]
      refine x_aload_n 0 dX1_mayComeNow_69 rfl (by first | rfl | assumption) ?_
      refine gf_X1_mayComeNow_94 dX1_mayComeNow_70 (by first | assumption | exact va_up_self _ _ _) rfl ?_
      refine x_if_ne 80 dX1_mayComeNow_73 (by decide) (fun c73 => ?_) (fun c73 => ?_)
      · refine x_iconst 0 dX1_mayComeNow_80 (by decide) ?_
        refine x_iret rfl (by first | rfl | assumption | exact z_nb _ | decide) dX1_mayComeNow_81 (by decide) (by decide) ?_
        exact ⟨by first | (rw [z_b1 c73]; rfl) | (rw [z_b0 c73]; rfl), rfl⟩
      · refine x_iconst 1 dX1_mayComeNow_76 (by decide) ?_
        refine x_goto 81 dX1_mayComeNow_77 (by decide) ?_
        refine x_iret rfl (by first | rfl | assumption | exact z_nb _ | decide) dX1_mayComeNow_81 (by decide) (by decide) ?_
        exact ⟨by first | (rw [z_b1 c73]; rfl) | (rw [z_b0 c73]; rfl), rfl⟩
    have thrw : j = 8 ∨ j = 9 ∨ j = 10 → q_X G mX1_mayComeNow (q_R mX1_mayComeNow 0 0) (q_FN G (fun o h' => o = some (.int (z_b (r_may (nI j) la uw))) ∧ h' = h) 0 0) 82 [(0, .ref a)] [] h 0 0 := by
      intro hj
      have e : r_may (nI j) la uw = la := by rcases hj with rfl | rfl | rfl <;> rfl
      rw [e]
      refine x_aload_n 0 dX1_mayComeNow_82 rfl (by first | rfl | assumption) ?_
      refine gf_X1_mayComeNow_44 dX1_mayComeNow_83 (by first | assumption | exact va_up_self _ _ _) rfl ?_
      refine x_iret rfl (by first | rfl | assumption | exact z_nb _) dX1_mayComeNow_86 (by decide) (by decide) ?_
      exact ⟨rfl, rfl⟩
    have zerw : j = 0 → q_X G mX1_mayComeNow (q_R mX1_mayComeNow 0 0) (q_FN G (fun o h' => o = some (.int (z_b (r_may (nI j) la uw))) ∧ h' = h) 0 0) 64 [(0, .ref a)] [] h 0 0 := by
      intro hj
      have e : r_may (nI j) la uw = uw := by rw [hj]; rfl
      rw [e]
      refine x_aload_n 0 dX1_mayComeNow_64 rfl (by first | rfl | assumption) ?_
      refine gf_X1_mayComeNow_94 dX1_mayComeNow_65 (by first | assumption | exact va_up_self _ _ _) rfl ?_
      refine x_iret rfl (by first | rfl | assumption | exact z_nb _) dX1_mayComeNow_68 (by decide) (by decide) ?_
      exact ⟨rfl, rfl⟩
    rcases five with rfl | rfl | rfl | rfl | rfl | rfl | rfl | rfl | rfl | rfl | rfl
    · exact g0 64 (fun off z => by cases z; rfl) (zerw rfl)
    · exact g0 69 (fun off z => by cases z; rfl) (twow (Or.inl rfl))
    · exact g0 69 (fun off z => by cases z; rfl) (twow (Or.inr rfl))
    · exact g0 87 (fun off z => by cases z; rfl) (outw (by simp))
    · exact g0 87 (fun off z => by cases z; rfl) (outw (by simp))
    · exact g0 87 (fun off z => by cases z; rfl) (outw (by simp))
    · exact g0 87 (fun off z => by cases z; rfl) (outw (by simp))
    · exact g0 87 (fun off z => by cases z; rfl) (outw (by simp))
    · exact g0 82 (fun off z => by cases z; rfl) (thrw (by simp))
    · exact g0 82 (fun off z => by cases z; rfl) (thrw (by simp))
    · exact g0 82 (fun off z => by cases z; rfl) (thrw (by simp))
theorem sp_mayStand (x : Int32) : q_SP G mX6_mayStandInClose [.int x] h 0 0 (fun o h' => o = some (.int (z_b (r_code x))) ∧ h' = h) := by
  refine q_enter (M := mX6_mayStandInClose) (by decide +kernel) rfl (Nat.le_of_ble_eq_true rfl) ?_
  refine x_iload_n 0 dX6_mayStandInClose_0 rfl (by first | rfl | assumption) ?_
  refine x_sipush 1000 dX6_mayStandInClose_1 (by decide) ?_
  refine x_icmp_lt 14 dX6_mayStandInClose_4 (by decide) (fun c4 => ?_) (fun c4 => ?_)
  · refine x_iload_n 0 dX6_mayStandInClose_14 rfl (by first | rfl | assumption) ?_
    refine x_sipush 1007 dX6_mayStandInClose_15 (by decide) ?_
    refine x_icmp_lt 28 dX6_mayStandInClose_18 (by decide) (fun c18 => ?_) (fun c18 => ?_)
    · refine x_iload_n 0 dX6_mayStandInClose_28 rfl (by first | rfl | assumption) ?_
      refine x_sipush 3000 dX6_mayStandInClose_29 (by decide) ?_
      refine x_icmp_lt 46 dX6_mayStandInClose_32 (by decide) (fun c32 => ?_) (fun c32 => ?_)
      · refine x_iconst 0 dX6_mayStandInClose_46 (by decide) ?_
        refine x_iret rfl (by first | rfl | assumption | exact z_nb _ | decide) dX6_mayStandInClose_47 (by decide) (by decide) ?_
        exact ⟨by simp [r_code, z_b, *], rfl⟩
      · refine x_iload_n 0 dX6_mayStandInClose_35 rfl (by first | rfl | assumption) ?_
        refine x_sipush 4999 dX6_mayStandInClose_36 (by decide) ?_
        refine x_icmp_gt 46 dX6_mayStandInClose_39 (by decide) (fun c39 => ?_) (fun c39 => ?_)
        · refine x_iconst 0 dX6_mayStandInClose_46 (by decide) ?_
          refine x_iret rfl (by first | rfl | assumption | exact z_nb _ | decide) dX6_mayStandInClose_47 (by decide) (by decide) ?_
          exact ⟨by simp [r_code, z_b, *], rfl⟩
        · refine x_iconst 1 dX6_mayStandInClose_42 (by decide) ?_
          refine x_goto 47 dX6_mayStandInClose_43 (by decide) ?_
          refine x_iret rfl (by first | rfl | assumption | exact z_nb _ | decide) dX6_mayStandInClose_47 (by decide) (by decide) ?_
          exact ⟨by simp [r_code, z_b, *], rfl⟩
    · refine x_iload_n 0 dX6_mayStandInClose_21 rfl (by first | rfl | assumption) ?_
      refine x_sipush 1011 dX6_mayStandInClose_22 (by decide) ?_
      refine x_icmp_le 42 dX6_mayStandInClose_25 (by decide) (fun c25 => ?_) (fun c25 => ?_)
      · refine x_iconst 1 dX6_mayStandInClose_42 (by decide) ?_
        refine x_goto 47 dX6_mayStandInClose_43 (by decide) ?_
        refine x_iret rfl (by first | rfl | assumption | exact z_nb _ | decide) dX6_mayStandInClose_47 (by decide) (by decide) ?_
        exact ⟨by simp [r_code, z_b, *], rfl⟩
      · refine x_iload_n 0 dX6_mayStandInClose_28 rfl (by first | rfl | assumption) ?_
        refine x_sipush 3000 dX6_mayStandInClose_29 (by decide) ?_
        refine x_icmp_lt 46 dX6_mayStandInClose_32 (by decide) (fun c32 => ?_) (fun c32 => ?_)
        · refine x_iconst 0 dX6_mayStandInClose_46 (by decide) ?_
          refine x_iret rfl (by first | rfl | assumption | exact z_nb _ | decide) dX6_mayStandInClose_47 (by decide) (by decide) ?_
          exact ⟨by simp [r_code, z_b, *], rfl⟩
        · refine x_iload_n 0 dX6_mayStandInClose_35 rfl (by first | rfl | assumption) ?_
          refine x_sipush 4999 dX6_mayStandInClose_36 (by decide) ?_
          refine x_icmp_gt 46 dX6_mayStandInClose_39 (by decide) (fun c39 => ?_) (fun c39 => ?_)
          · refine x_iconst 0 dX6_mayStandInClose_46 (by decide) ?_
            refine x_iret rfl (by first | rfl | assumption | exact z_nb _ | decide) dX6_mayStandInClose_47 (by decide) (by decide) ?_
            exact ⟨by simp [r_code, z_b, *], rfl⟩
          · refine x_iconst 1 dX6_mayStandInClose_42 (by decide) ?_
            refine x_goto 47 dX6_mayStandInClose_43 (by decide) ?_
            refine x_iret rfl (by first | rfl | assumption | exact z_nb _ | decide) dX6_mayStandInClose_47 (by decide) (by decide) ?_
            exact ⟨by simp [r_code, z_b, *], rfl⟩
  · refine x_iload_n 0 dX6_mayStandInClose_7 rfl (by first | rfl | assumption) ?_
    refine x_sipush 1003 dX6_mayStandInClose_8 (by decide) ?_
    refine x_icmp_le 42 dX6_mayStandInClose_11 (by decide) (fun c11 => ?_) (fun c11 => ?_)
    · refine x_iconst 1 dX6_mayStandInClose_42 (by decide) ?_
      refine x_goto 47 dX6_mayStandInClose_43 (by decide) ?_
      refine x_iret rfl (by first | rfl | assumption | exact z_nb _ | decide) dX6_mayStandInClose_47 (by decide) (by decide) ?_
      exact ⟨by simp [r_code, z_b, *], rfl⟩
    · refine x_iload_n 0 dX6_mayStandInClose_14 rfl (by first | rfl | assumption) ?_
      refine x_sipush 1007 dX6_mayStandInClose_15 (by decide) ?_
      refine x_icmp_lt 28 dX6_mayStandInClose_18 (by decide) (fun c18 => ?_) (fun c18 => ?_)
      · refine x_iload_n 0 dX6_mayStandInClose_28 rfl (by first | rfl | assumption) ?_
        refine x_sipush 3000 dX6_mayStandInClose_29 (by decide) ?_
        refine x_icmp_lt 46 dX6_mayStandInClose_32 (by decide) (fun c32 => ?_) (fun c32 => ?_)
        · refine x_iconst 0 dX6_mayStandInClose_46 (by decide) ?_
          refine x_iret rfl (by first | rfl | assumption | exact z_nb _ | decide) dX6_mayStandInClose_47 (by decide) (by decide) ?_
          exact ⟨by simp [r_code, z_b, *], rfl⟩
        · refine x_iload_n 0 dX6_mayStandInClose_35 rfl (by first | rfl | assumption) ?_
          refine x_sipush 4999 dX6_mayStandInClose_36 (by decide) ?_
          refine x_icmp_gt 46 dX6_mayStandInClose_39 (by decide) (fun c39 => ?_) (fun c39 => ?_)
          · refine x_iconst 0 dX6_mayStandInClose_46 (by decide) ?_
            refine x_iret rfl (by first | rfl | assumption | exact z_nb _ | decide) dX6_mayStandInClose_47 (by decide) (by decide) ?_
            exact ⟨by simp [r_code, z_b, *], rfl⟩
          · refine x_iconst 1 dX6_mayStandInClose_42 (by decide) ?_
            refine x_goto 47 dX6_mayStandInClose_43 (by decide) ?_
            refine x_iret rfl (by first | rfl | assumption | exact z_nb _ | decide) dX6_mayStandInClose_47 (by decide) (by decide) ?_
            exact ⟨by simp [r_code, z_b, *], rfl⟩
      · refine x_iload_n 0 dX6_mayStandInClose_21 rfl (by first | rfl | assumption) ?_
        refine x_sipush 1011 dX6_mayStandInClose_22 (by decide) ?_
        refine x_icmp_le 42 dX6_mayStandInClose_25 (by decide) (fun c25 => ?_) (fun c25 => ?_)
        · refine x_iconst 1 dX6_mayStandInClose_42 (by decide) ?_
          refine x_goto 47 dX6_mayStandInClose_43 (by decide) ?_
          refine x_iret rfl (by first | rfl | assumption | exact z_nb _ | decide) dX6_mayStandInClose_47 (by decide) (by decide) ?_
          exact ⟨by simp [r_code, z_b, *], rfl⟩
        · refine x_iload_n 0 dX6_mayStandInClose_28 rfl (by first | rfl | assumption) ?_
          refine x_sipush 3000 dX6_mayStandInClose_29 (by decide) ?_
          refine x_icmp_lt 46 dX6_mayStandInClose_32 (by decide) (fun c32 => ?_) (fun c32 => ?_)
          · refine x_iconst 0 dX6_mayStandInClose_46 (by decide) ?_
            refine x_iret rfl (by first | rfl | assumption | exact z_nb _ | decide) dX6_mayStandInClose_47 (by decide) (by decide) ?_
            exact ⟨by simp [r_code, z_b, *], rfl⟩
          · refine x_iload_n 0 dX6_mayStandInClose_35 rfl (by first | rfl | assumption) ?_
            refine x_sipush 4999 dX6_mayStandInClose_36 (by decide) ?_
            refine x_icmp_gt 46 dX6_mayStandInClose_39 (by decide) (fun c39 => ?_) (fun c39 => ?_)
            · refine x_iconst 0 dX6_mayStandInClose_46 (by decide) ?_
              refine x_iret rfl (by first | rfl | assumption | exact z_nb _ | decide) dX6_mayStandInClose_47 (by decide) (by decide) ?_
              exact ⟨by simp [r_code, z_b, *], rfl⟩
            · refine x_iconst 1 dX6_mayStandInClose_42 (by decide) ?_
              refine x_goto 47 dX6_mayStandInClose_43 (by decide) ?_
              refine x_iret rfl (by first | rfl | assumption | exact z_nb _ | decide) dX6_mayStandInClose_47 (by decide) (by decide) ?_
              exact ⟨by simp [r_code, z_b, *], rfl⟩
end FrmB
