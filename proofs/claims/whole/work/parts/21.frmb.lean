/-! FramedTalk$Frames: the methods that read a byte -/
section FrmC
variable {G : q_G} {h : q_H} {a aM rm rma rs rsa c1 c2 : Nat} {pl kd mkd lsz lrd mrd crd : Int32} {la uw : Bool} {ln : Int64} {fm : Nat → Int32} {msg sc : List Int32} {c : z_T3}
/-- the frames' cells with another object: the other cells are as they were -/
theorem k_frm.toO {h1 : q_H} {pl' kd' mkd' lsz' lrd' mrd' crd' : Int32} {la' uw' : Bool} {ln' : Int64} (hf : k_frm h a aM rm rma rs rsa c1 c2 (pl, kd, la, uw, mkd, lsz, lrd, ln, mrd, crd, fm, msg, sc, c)) (hs : k_same [a] h h1) (ho : h1 a = some (k_ob 1 [.ref aM, .ref rm, .ref rs, .ref c1, .ref c2, .int pl', .int kd', .int (z_b la'), .int (z_b uw'), .int mkd', .int lsz', .int lrd', .long ln', .int mrd', .int crd'])) : k_frm h1 a aM rm rma rs rsa c1 c2 (pl', kd', la', uw', mkd', lsz', lrd', ln', mrd', crd', fm, msg, sc, c) := by
  obtain ⟨e1, e2, e3, e4, e5, ⟨cr, e6⟩, e7⟩ := hf
  have hd := e7
  simp only [List.nodup_cons, List.mem_cons, List.not_mem_nil, not_or, or_false, not_false_eq_true, List.nodup_nil, and_true] at hd
  obtain ⟨⟨d1, d2, d3, d4, d5, d6, d7⟩, -⟩ := hd
  exact ⟨ho, (hs aM (by simp [Ne.symm d1])).trans e2, e3.kept hs (by simp [Ne.symm d2]) (by simp [Ne.symm d3]), e4.kept hs (by simp [Ne.symm d4]) (by simp [Ne.symm d5]), e5.kept hs (by simp [Ne.symm d6]), ⟨cr, e6.kept hs (by simp [Ne.symm d7])⟩, e7⟩
/-- another message -/
theorem k_frm.toM {h1 : q_H} {msg' : List Int32} (hf : k_frm h a aM rm rma rs rsa c1 c2 (pl, kd, la, uw, mkd, lsz, lrd, ln, mrd, crd, fm, msg, sc, c)) (hs : k_same [rm, rma] h h1) (hr : k_row h1 rm rma 300 msg') : k_frm h1 a aM rm rma rs rsa c1 c2 (pl, kd, la, uw, mkd, lsz, lrd, ln, mrd, crd, fm, msg', sc, c) := by
  obtain ⟨e1, e2, e3, e4, e5, ⟨cr, e6⟩, e7⟩ := hf
  have hd := e7
  simp only [List.nodup_cons, List.mem_cons, List.not_mem_nil, not_or, or_false, not_false_eq_true, List.nodup_nil, and_true] at hd
  obtain ⟨⟨d1, d2, d3, d4, d5, d6, d7⟩, ⟨f2, f3, f4, f5, f6, f7⟩, ⟨g3, g4, g5, g6, g7⟩, ⟨i4, i5, i6, i7⟩, -⟩ := hd
  exact ⟨(hs a (by simp [d2, d3])).trans e1, (hs aM (by simp [f2, f3])).trans e2, hr, e4.kept hs (by simp [Ne.symm g4, Ne.symm i4]) (by simp [Ne.symm g5, Ne.symm i5]), e5.kept hs (by simp [Ne.symm g6, Ne.symm i6]), ⟨cr, e6.kept hs (by simp [Ne.symm g7, Ne.symm i7])⟩, e7⟩
/-- another short content -/
theorem k_frm.toS {h1 : q_H} {sc' : List Int32} (hf : k_frm h a aM rm rma rs rsa c1 c2 (pl, kd, la, uw, mkd, lsz, lrd, ln, mrd, crd, fm, msg, sc, c)) (hs : k_same [rs, rsa] h h1) (hr : k_row h1 rs rsa 125 sc') : k_frm h1 a aM rm rma rs rsa c1 c2 (pl, kd, la, uw, mkd, lsz, lrd, ln, mrd, crd, fm, msg, sc', c) := by
  obtain ⟨e1, e2, e3, e4, e5, ⟨cr, e6⟩, e7⟩ := hf
  have hd := e7
  simp only [List.nodup_cons, List.mem_cons, List.not_mem_nil, not_or, or_false, not_false_eq_true, List.nodup_nil, and_true] at hd
  obtain ⟨⟨d1, d2, d3, d4, d5, d6, d7⟩, ⟨f2, f3, f4, f5, f6, f7⟩, ⟨g3, g4, g5, g6, g7⟩, ⟨i4, i5, i6, i7⟩, ⟨j5, j6, j7⟩, ⟨k6, k7⟩, -⟩ := hd
  exact ⟨(hs a (by simp [d4, d5])).trans e1, (hs aM (by simp [f4, f5])).trans e2, e3.kept hs (by simp [g4, g5]) (by simp [i4, i5]), hr, e5.kept hs (by simp [Ne.symm j6, Ne.symm k6]), ⟨cr, e6.kept hs (by simp [Ne.symm j7, Ne.symm k7])⟩, e7⟩
/-- another state of the text -/
theorem k_frm.toC {h1 : q_H} {c' : z_T3} (hf : k_frm h a aM rm rma rs rsa c1 c2 (pl, kd, la, uw, mkd, lsz, lrd, ln, mrd, crd, fm, msg, sc, c)) (hs : k_same [c1] h h1) (hr : k_chk h1 c1 c') : k_frm h1 a aM rm rma rs rsa c1 c2 (pl, kd, la, uw, mkd, lsz, lrd, ln, mrd, crd, fm, msg, sc, c') := by
  obtain ⟨e1, e2, e3, e4, e5, ⟨cr, e6⟩, e7⟩ := hf
  have hd := e7
  simp only [List.nodup_cons, List.mem_cons, List.not_mem_nil, not_or, or_false, not_false_eq_true, List.nodup_nil, and_true] at hd
  obtain ⟨⟨d1, d2, d3, d4, d5, d6, d7⟩, ⟨f2, f3, f4, f5, f6, f7⟩, ⟨g3, g4, g5, g6, g7⟩, ⟨i4, i5, i6, i7⟩, ⟨j5, j6, j7⟩, ⟨k6, k7⟩, l7⟩ := hd
  exact ⟨(hs a (by simp [d6])).trans e1, (hs aM (by simp [f6])).trans e2, e3.kept hs (by simp [g6]) (by simp [i6]), e4.kept hs (by simp [j6]) (by simp [k6]), hr, ⟨cr, e6.kept hs (by simp [Ne.symm l7])⟩, e7⟩
/-- another mask -/
theorem k_frm.toA {h1 : q_H} {fm' : Nat → Int32} (hf : k_frm h a aM rm rma rs rsa c1 c2 (pl, kd, la, uw, mkd, lsz, lrd, ln, mrd, crd, fm, msg, sc, c)) (hs : k_same [aM] h h1) (hr : h1 aM = some (k_ar 4 fm')) : k_frm h1 a aM rm rma rs rsa c1 c2 (pl, kd, la, uw, mkd, lsz, lrd, ln, mrd, crd, fm', msg, sc, c) := by
  obtain ⟨e1, e2, e3, e4, e5, ⟨cr, e6⟩, e7⟩ := hf
  have hd := e7
  simp only [List.nodup_cons, List.mem_cons, List.not_mem_nil, not_or, or_false, not_false_eq_true, List.nodup_nil, and_true] at hd
  obtain ⟨⟨d1, d2, d3, d4, d5, d6, d7⟩, ⟨f2, f3, f4, f5, f6, f7⟩, -⟩ := hd
  exact ⟨(hs a (by simp [d1])).trans e1, hr, e3.kept hs (by simp [Ne.symm f2]) (by simp [Ne.symm f3]), e4.kept hs (by simp [Ne.symm f4]) (by simp [Ne.symm f5]), e5.kept hs (by simp [Ne.symm f6]), ⟨cr, e6.kept hs (by simp [Ne.symm f7])⟩, e7⟩
theorem k_sub {S T : List Nat} {h1 : q_H} (hs : k_same S h h1) (ht : S ⊆ T) : k_same T h h1 := hs.mono (fun _ hq => ht hq)
theorem sp_beginMessage (hf : k_frm h a aM rm rma rs rsa c1 c2 (pl, kd, la, uw, mkd, lsz, lrd, ln, mrd, crd, fm, msg, sc, c)) : q_SP G mX1_beginMessage [.ref a] h 0 0 (fun o h' => o = none ∧ k_frm h' a aM rm rma rs rsa c1 c2 (pl, kd, la, true, kd, lsz, lrd, ln, mrd, crd, fm, [], sc, (0, c.2.1, c.2.2)) ∧ k_same [a, aM, rm, rma, rs, rsa, c1, c2] h h') := by
  have ho := hf.1
  refine q_enter (M := mX1_beginMessage) (by decide +kernel) rfl (Nat.le_of_ble_eq_true rfl) ?_
  refine x_aload_n 0 dX1_beginMessage_0 rfl (by first | rfl | assumption) ?_
  refine x_iconst 1 dX1_beginMessage_1 (by decide) ?_
  refine pf_X1_beginMessage_94 dX1_beginMessage_2 (by decide) (by decide) (by first | assumption | exact va_up_self _ _ _) (Nat.le_of_ble_eq_true rfl) ?_
  refine x_aload_n 0 dX1_beginMessage_5 rfl (by first | rfl | assumption) ?_
  refine x_aload_n 0 dX1_beginMessage_6 rfl (by first | rfl | assumption) ?_
  refine gf_X1_beginMessage_41 dX1_beginMessage_7 (by first | assumption | exact va_up_self _ _ _) rfl ?_
  refine pf_X1_beginMessage_48 dX1_beginMessage_10 (by first | assumption | exact va_up_self _ _ _) (Nat.le_of_ble_eq_true rfl) ?_
  refine x_gen (fun gA oA sA => ?_)
  have sA : k_same [a] h gA := k_up1.tr sA
  have fA := hf.toO (uw' := true) sA oA
  have oA := fA.1
  have rA := fA.2.2.1
  obtain ⟨f9, q9, -⟩ := id rA
  refine x_aload_n 0 dX1_beginMessage_13 rfl (by first | rfl | assumption) ?_
  refine gf_X1_beginMessage_20 dX1_beginMessage_14 (by first | assumption | exact va_up_self _ _ _) rfl ?_
  refine cl_X1_beginMessage_17 (sp_empty rA) (by first | assumption | exact va_up_self _ _ _) (Nat.le_of_ble_eq_true rfl) ⟨Nat.le_of_ble_eq_true rfl, Nat.le_of_ble_eq_true rfl⟩ (fun r1 gB hq => ?_)
  obtain ⟨rfl, rB, sB⟩ := hq
  have fB := fA.toM sB rB
  have oB := fB.1
  have cB := fB.2.2.2.2.1
  have cB' : gB c1 = some (k_ob 4 [.int c.1, .int c.2.1, .int c.2.2]) := cB
  refine x_aload_n 0 dX1_beginMessage_20 rfl (by first | rfl | assumption) ?_
  refine gf_X1_beginMessage_30 dX1_beginMessage_21 (by first | assumption | exact va_up_self _ _ _) rfl ?_
  refine cl_X1_beginMessage_24 (sp_restart cB) (by first | assumption | exact va_up_self _ _ _) (Nat.le_of_ble_eq_true rfl) ⟨Nat.le_of_ble_eq_true rfl, Nat.le_of_ble_eq_true rfl⟩ (fun r1 gC hq => ?_)
  obtain ⟨rfl, cC, sC⟩ := hq
  refine x_vret rfl dX1_beginMessage_27 (by decide) (by decide) ?_
  exact ⟨rfl, fB.toC sC cC, ((k_sub sA (by simp)).tr (k_sub sB (by simp))).tr (k_sub sC (by simp))⟩
theorem sp_readFirst (hf : k_frm h a aM rm rma rs rsa c1 c2 (pl, kd, la, uw, mkd, lsz, lrd, ln, mrd, crd, fm, msg, sc, c)) (b : Int32) : q_SP G mX1_readFirst [.ref a, .int b] h 0 0 (fun o h' => o = some (.int (r_first (pl, kd, la, uw, mkd, lsz, lrd, ln, mrd, crd, fm, msg, sc, c) b).1) ∧ k_frm h' a aM rm rma rs rsa c1 c2 (r_first (pl, kd, la, uw, mkd, lsz, lrd, ln, mrd, crd, fm, msg, sc, c) b).2 ∧ k_same [a, aM, rm, rma, rs, rsa, c1, c2] h h') := by
  have ho := hf.1
  have tail : ∀ gA : q_H, k_same [a] h gA → k_frm gA a aM rm rma rs rsa c1 c2 (pl, b &&& 15, !decide (b < 128), uw, mkd, lsz, lrd, ln, mrd, crd, fm, msg, sc, c) → q_X G mX1_readFirst (q_R mX1_readFirst 0 0) (q_FN G (fun o h' => o = some (.int (r_first (pl, kd, la, uw, mkd, lsz, lrd, ln, mrd, crd, fm, msg, sc, c) b).1) ∧ k_frm h' a aM rm rma rs rsa c1 c2 (r_first (pl, kd, la, uw, mkd, lsz, lrd, ln, mrd, crd, fm, msg, sc, c) b).2 ∧ k_same [a, aM, rm, rma, rs, rsa, c1, c2] h h') 0 0) 24 [(0, .ref a), (1, .int b)] [] gA 0 0 := by
    intro gA sA fA
    have oA := fA.1
    have sA8 : k_same [a, aM, rm, rma, rs, rsa, c1, c2] h gA := k_sub sA (by simp)
    refine x_iload_n 1 dX1_readFirst_24 rfl (by first | rfl | assumption) ?_
    refine x_bipush 112 dX1_readFirst_25 (by decide) ?_
    refine x_iand dX1_readFirst_27 ?_
    refine x_if_ne 38 dX1_readFirst_28 (by decide) (fun c28 => ?_) (fun c28 => ?_)
    · refine x_sipush 1002 dX1_readFirst_38 (by decide) ?_
      refine x_iret rfl (by first | rfl | assumption | exact z_nb _) dX1_readFirst_41 (by decide) (by decide) ?_
      dsimp only [r_first]
      rw [if_neg c28]
      exact ⟨rfl, fA, sA8⟩
    · refine x_aload_n 0 dX1_readFirst_31 rfl (by first | rfl | assumption) ?_
      refine cl_X1_readFirst_32 (sp_mayCome oA) (by first | assumption | exact va_up_self _ _ _) (Nat.le_of_ble_eq_true rfl) ⟨Nat.le_of_ble_eq_true rfl, Nat.le_of_ble_eq_true rfl⟩ (fun r1 g1 hq => ?_)
      obtain ⟨rfl, rfl⟩ := hq
      refine x_if_ne 42 dX1_readFirst_35 (by decide) (fun c35 => ?_) (fun c35 => ?_)
      · refine x_aload_n 0 dX1_readFirst_42 rfl (by first | rfl | assumption) ?_
        refine cl_X1_readFirst_43 (sp_isShort oA) (by first | assumption | exact va_up_self _ _ _) (Nat.le_of_ble_eq_true rfl) ⟨Nat.le_of_ble_eq_true rfl, Nat.le_of_ble_eq_true rfl⟩ (fun r1 g1 hq => ?_)
        obtain ⟨rfl, rfl⟩ := hq
        refine x_if_eq 59 dX1_readFirst_46 (by decide) (fun c46 => ?_) (fun c46 => ?_)
        · refine x_aload_n 0 dX1_readFirst_59 rfl (by first | rfl | assumption) ?_
          refine gf_X1_readFirst_41 dX1_readFirst_60 (by first | assumption | exact va_up_self _ _ _) rfl ?_
          have e : r_first (pl, kd, la, uw, mkd, lsz, lrd, ln, mrd, crd, fm, msg, sc, c) b = if b &&& 15 = 0 then (0, (1, b &&& 15, !decide (b < 128), uw, mkd, lsz, lrd, ln, mrd, crd, fm, msg, sc, c)) else (0, (1, b &&& 15, !decide (b < 128), true, b &&& 15, lsz, lrd, ln, mrd, crd, fm, [], sc, (0, c.2.1, c.2.2))) := by
            dsimp only [r_first]
            rw [if_pos c28, if_pos (z_b1 c35), if_neg (by rw [z_b0 c46]; decide)]
          rw [e]
          refine x_if_eq 70 dX1_readFirst_63 (by decide) (fun c63 => ?_) (fun c63 => ?_)
          · refine x_aload_n 0 dX1_readFirst_70 rfl (by first | rfl | assumption) ?_
            refine x_iconst 1 dX1_readFirst_71 (by decide) ?_
            refine pf_X1_readFirst_37 dX1_readFirst_72 (by first | assumption | exact va_up_self _ _ _) (Nat.le_of_ble_eq_true rfl) ?_
            refine x_gen (fun gB oB sB => ?_)
            have fB := fA.toO sB oB
            refine x_iconst 0 dX1_readFirst_75 (by decide) ?_
            refine x_iret rfl (by first | rfl | assumption | exact z_nb _) dX1_readFirst_76 (by decide) (by decide) ?_
            rw [if_pos c63]
            exact ⟨rfl, fB, sA8.tr (k_sub sB (by simp))⟩
          · refine x_aload_n 0 dX1_readFirst_66 rfl (by first | rfl | assumption) ?_
            refine cl_X1_readFirst_67 (sp_beginMessage fA) (by first | assumption | exact va_up_self _ _ _) (Nat.le_of_ble_eq_true rfl) ⟨Nat.le_of_ble_eq_true rfl, Nat.le_of_ble_eq_true rfl⟩ (fun r1 gB hq => ?_)
            obtain ⟨rfl, fB, sB⟩ := hq
            have oB := fB.1
            refine x_aload_n 0 dX1_readFirst_70 rfl (by first | rfl | assumption) ?_
            refine x_iconst 1 dX1_readFirst_71 (by decide) ?_
            refine pf_X1_readFirst_37 dX1_readFirst_72 (by first | assumption | exact va_up_self _ _ _) (Nat.le_of_ble_eq_true rfl) ?_
            refine x_gen (fun gC oC sC => ?_)
            have fC := fB.toO sC oC
            refine x_iconst 0 dX1_readFirst_75 (by decide) ?_
            refine x_iret rfl (by first | rfl | assumption | exact z_nb _) dX1_readFirst_76 (by decide) (by decide) ?_
            rw [if_neg c63]
            exact ⟨rfl, fC, (sA8.tr sB).tr (k_sub sC (by simp))⟩
        · have e : r_first (pl, kd, la, uw, mkd, lsz, lrd, ln, mrd, crd, fm, msg, sc, c) b = (0, (1, b &&& 15, !decide (b < 128), uw, mkd, lsz, lrd, ln, mrd, crd, fm, msg, [], c)) := by
            dsimp only [r_first]
            rw [if_pos c28, if_pos (z_b1 c35), if_pos (z_b1 c46)]
          rw [e]
          have rA := fA.2.2.2.1
          obtain ⟨f9, q9, -⟩ := id rA
          refine x_aload_n 0 dX1_readFirst_49 rfl (by first | rfl | assumption) ?_
          refine gf_X1_readFirst_24 dX1_readFirst_50 (by first | assumption | exact va_up_self _ _ _) rfl ?_
          refine cl_X1_readFirst_53 (sp_empty rA) (by first | assumption | exact va_up_self _ _ _) (Nat.le_of_ble_eq_true rfl) ⟨Nat.le_of_ble_eq_true rfl, Nat.le_of_ble_eq_true rfl⟩ (fun r1 gB hq => ?_)
          obtain ⟨rfl, rB, sB⟩ := hq
          have fB := fA.toS sB rB
          have oB := fB.1
          refine x_goto 70 dX1_readFirst_56 (by decide) ?_
          refine x_aload_n 0 dX1_readFirst_70 rfl (by first | rfl | assumption) ?_
          refine x_iconst 1 dX1_readFirst_71 (by decide) ?_
          refine pf_X1_readFirst_37 dX1_readFirst_72 (by first | assumption | exact va_up_self _ _ _) (Nat.le_of_ble_eq_true rfl) ?_
          refine x_gen (fun gC oC sC => ?_)
          have fC := fB.toO sC oC
          refine x_iconst 0 dX1_readFirst_75 (by decide) ?_
          refine x_iret rfl (by first | rfl | assumption | exact z_nb _) dX1_readFirst_76 (by decide) (by decide) ?_
          exact ⟨rfl, fC, (sA8.tr (k_sub sB (by simp))).tr (k_sub sC (by simp))⟩
      · refine x_sipush 1002 dX1_readFirst_38 (by decide) ?_
        refine x_iret rfl (by first | rfl | assumption | exact z_nb _) dX1_readFirst_41 (by decide) (by decide) ?_
        dsimp only [r_first]
        rw [if_pos c28, if_neg (by rw [z_b0 c35]; decide)]
        exact ⟨rfl, fA, sA8⟩
  refine q_enter (M := mX1_readFirst) (by decide +kernel) rfl (Nat.le_of_ble_eq_true rfl) ?_
  refine x_aload_n 0 dX1_readFirst_0 rfl (by first | rfl | assumption) ?_
  refine x_iload_n 1 dX1_readFirst_1 rfl (by first | rfl | assumption) ?_
  refine x_bipush 15 dX1_readFirst_2 (by decide) ?_
  refine x_iand dX1_readFirst_4 ?_
  refine pf_X1_readFirst_41 dX1_readFirst_5 (by first | assumption | exact va_up_self _ _ _) (Nat.le_of_ble_eq_true rfl) ?_
  refine x_aload_n 0 dX1_readFirst_8 rfl (by first | rfl | assumption) ?_
  refine x_iload_n 1 dX1_readFirst_9 rfl (by first | rfl | assumption) ?_
  refine x_sipush 128 dX1_readFirst_10 (by decide) ?_
  refine x_icmp_lt 20 dX1_readFirst_13 (by decide) (fun c13 => ?_) (fun c13 => ?_)
  · refine x_iconst 0 dX1_readFirst_20 (by decide) ?_
    refine pf_X1_readFirst_44 dX1_readFirst_21 (by decide) (by decide) (by first | assumption | exact va_up_self _ _ _) (Nat.le_of_ble_eq_true rfl) ?_
    refine x_gen (fun gA oA sA => ?_)
    have sA : k_same [a] h gA := k_up1.tr sA
    have fA := hf.toO (la' := false) sA oA
    exact tail gA sA (by rw [decide_eq_true c13]; exact fA)
  · refine x_iconst 1 dX1_readFirst_16 (by decide) ?_
    refine x_goto 21 dX1_readFirst_17 (by decide) ?_
    refine pf_X1_readFirst_44 dX1_readFirst_21 (by decide) (by decide) (by first | assumption | exact va_up_self _ _ _) (Nat.le_of_ble_eq_true rfl) ?_
    refine x_gen (fun gA oA sA => ?_)
    have sA : k_same [a] h gA := k_up1.tr sA
    have fA := hf.toO (la' := true) sA oA
    exact tail gA sA (by rw [decide_eq_false c13]; exact fA)
theorem sp_judgeLength (hf : k_frm h a aM rm rma rs rsa c1 c2 (pl, kd, la, uw, mkd, lsz, lrd, ln, mrd, crd, fm, msg, sc, c)) : q_SP G mX1_judgeLength [.ref a] h 0 0 (fun o h' => o = some (.int (r_len (pl, kd, la, uw, mkd, lsz, lrd, ln, mrd, crd, fm, msg, sc, c)).1) ∧ k_frm h' a aM rm rma rs rsa c1 c2 (r_len (pl, kd, la, uw, mkd, lsz, lrd, ln, mrd, crd, fm, msg, sc, c)).2 ∧ k_same [a, aM, rm, rma, rs, rsa, c1, c2] h h') := by
  have ho := hf.1
  have rA := hf.2.2.1
  obtain ⟨f9, q9, -⟩ := id rA
  have tail : ¬ (r_short kd = false ∧ (300 - nI msg.length).toInt64 < ln) → q_X G mX1_judgeLength (q_R mX1_judgeLength 0 0) (q_FN G (fun o h' => o = some (.int (r_len (pl, kd, la, uw, mkd, lsz, lrd, ln, mrd, crd, fm, msg, sc, c)).1) ∧ k_frm h' a aM rm rma rs rsa c1 c2 (r_len (pl, kd, la, uw, mkd, lsz, lrd, ln, mrd, crd, fm, msg, sc, c)).2 ∧ k_same [a, aM, rm, rma, rs, rsa, c1, c2] h h') 0 0) 31 [(0, .ref a)] [] h 0 0 := by
    intro hn
    refine x_aload_n 0 dX1_judgeLength_31 rfl (by first | rfl | assumption) ?_
    refine x_iconst 0 dX1_judgeLength_32 (by decide) ?_
    refine pf_X1_judgeLength_113 dX1_judgeLength_33 (by first | assumption | exact va_up_self _ _ _) (Nat.le_of_ble_eq_true rfl) ?_
    refine x_aload_n 0 dX1_judgeLength_36 rfl (by first | rfl | assumption) ?_
    refine x_iconst 3 dX1_judgeLength_37 (by decide) ?_
    refine pf_X1_judgeLength_37 dX1_judgeLength_38 (by first | assumption | exact va_up_self _ _ _) (Nat.le_of_ble_eq_true rfl) ?_
    refine x_gen (fun gA oA sA => ?_)
    have sA : k_same [a] h gA := k_up1.tr sA
    have fA := hf.toO sA oA
    refine x_iconst 0 dX1_judgeLength_41 (by decide) ?_
    refine x_iret rfl (by first | rfl | assumption | exact z_nb _) dX1_judgeLength_42 (by decide) (by decide) ?_
    dsimp only [r_len]
    rw [if_neg hn]
    exact ⟨rfl, fA, k_sub sA (by simp)⟩
  refine q_enter (M := mX1_judgeLength) (by decide +kernel) rfl (Nat.le_of_ble_eq_true rfl) ?_
  refine x_aload_n 0 dX1_judgeLength_0 rfl (by first | rfl | assumption) ?_
  refine cl_X1_judgeLength_1 (sp_isShort ho) (by first | assumption | exact va_up_self _ _ _) (Nat.le_of_ble_eq_true rfl) ⟨Nat.le_of_ble_eq_true rfl, Nat.le_of_ble_eq_true rfl⟩ (fun r1 g1 hq => ?_)
  obtain ⟨rfl, rfl⟩ := hq
  refine x_if_ne 31 dX1_judgeLength_4 (by decide) (fun c4 => ?_) (fun c4 => ?_)
  · exact tail (fun z => by rw [z_b1 c4] at z; cases z.1)
  · refine x_aload_n 0 dX1_judgeLength_7 rfl (by first | rfl | assumption) ?_
    refine gf_X1_judgeLength_58 dX1_judgeLength_8 (by first | assumption | exact va_up_self _ _ _) rfl ?_
    refine x_sipush 300 dX1_judgeLength_11 (by decide) ?_
    refine x_aload_n 0 dX1_judgeLength_14 rfl (by first | rfl | assumption) ?_
    refine gf_X1_judgeLength_20 dX1_judgeLength_15 (by first | assumption | exact va_up_self _ _ _) rfl ?_
    refine cl_X1_judgeLength_18 (sp_size rA) (by first | assumption | exact va_up_self _ _ _) (Nat.le_of_ble_eq_true rfl) ⟨Nat.le_of_ble_eq_true rfl, Nat.le_of_ble_eq_true rfl⟩ (fun r1 g1 hq => ?_)
    obtain ⟨rfl, rfl⟩ := hq
    refine x_isub dX1_judgeLength_21 ?_
    refine x_i2l dX1_judgeLength_22 ?_
    refine x_lcmp dX1_judgeLength_23 ?_
    refine x_if_le 31 dX1_judgeLength_24 (by decide) (fun c24 => ?_) (fun c24 => ?_)
    · exact tail (fun z => Int64.not_lt.mpr ((lg_cmp_le _ _).mp c24) z.2)
    · refine x_sipush 1009 dX1_judgeLength_27 (by decide) ?_
      refine x_iret rfl (by first | rfl | assumption | exact z_nb _) dX1_judgeLength_30 (by decide) (by decide) ?_
      dsimp only [r_len]
      rw [if_pos ⟨z_b0 c4, Int64.not_le.mp (fun z => c24 ((lg_cmp_le _ _).mpr z))⟩]
      exact ⟨rfl, hf, k_same.rf⟩
theorem sp_readSecond (hf : k_frm h a aM rm rma rs rsa c1 c2 (pl, kd, la, uw, mkd, lsz, lrd, ln, mrd, crd, fm, msg, sc, c)) (b : Int32) : q_SP G mX1_readSecond [.ref a, .int b] h 0 0 (fun o h' => o = some (.int (r_second (pl, kd, la, uw, mkd, lsz, lrd, ln, mrd, crd, fm, msg, sc, c) b).1) ∧ k_frm h' a aM rm rma rs rsa c1 c2 (r_second (pl, kd, la, uw, mkd, lsz, lrd, ln, mrd, crd, fm, msg, sc, c) b).2 ∧ k_same [a, aM, rm, rma, rs, rsa, c1, c2] h h') := by
  have ho := hf.1
  have bad : (b < 128 ∨ (r_short kd = true ∧ 125 < b &&& 127)) → q_X G mX1_readSecond (q_R mX1_readSecond 0 0) (q_FN G (fun o h' => o = some (.int (r_second (pl, kd, la, uw, mkd, lsz, lrd, ln, mrd, crd, fm, msg, sc, c) b).1) ∧ k_frm h' a aM rm rma rs rsa c1 c2 (r_second (pl, kd, la, uw, mkd, lsz, lrd, ln, mrd, crd, fm, msg, sc, c) b).2 ∧ k_same [a, aM, rm, rma, rs, rsa, c1, c2] h h') 0 0) 25 [(0, .ref a), (1, .int b), (2, .int (b &&& 127))] [] h 0 0 := by
    intro hn
    refine x_sipush 1002 dX1_readSecond_25 (by decide) ?_
    refine x_iret rfl (by first | rfl | assumption | exact z_nb _) dX1_readSecond_28 (by decide) (by decide) ?_
    dsimp only [r_second]
    rw [if_pos hn]
    exact ⟨rfl, hf, k_same.rf⟩
  have good : ¬ (b < 128 ∨ (r_short kd = true ∧ 125 < b &&& 127)) → q_X G mX1_readSecond (q_R mX1_readSecond 0 0) (q_FN G (fun o h' => o = some (.int (r_second (pl, kd, la, uw, mkd, lsz, lrd, ln, mrd, crd, fm, msg, sc, c) b).1) ∧ k_frm h' a aM rm rma rs rsa c1 c2 (r_second (pl, kd, la, uw, mkd, lsz, lrd, ln, mrd, crd, fm, msg, sc, c) b).2 ∧ k_same [a, aM, rm, rma, rs, rsa, c1, c2] h h') 0 0) 29 [(0, .ref a), (1, .int b), (2, .int (b &&& 127))] [] h 0 0 := by
    intro hn
    refine x_iload_n 2 dX1_readSecond_29 rfl (by first | rfl | assumption) ?_
    refine x_bipush 125 dX1_readSecond_30 (by decide) ?_
    refine x_icmp_gt 46 dX1_readSecond_32 (by decide) (fun c32 => ?_) (fun c32 => ?_)
    · have e : r_second (pl, kd, la, uw, mkd, lsz, lrd, ln, mrd, crd, fm, msg, sc, c) b = (0, (2, kd, la, uw, mkd, if b &&& 127 = 126 then 2 else 8, 0, 0, mrd, crd, fm, msg, sc, c)) := by
        dsimp only [r_second]
        rw [if_neg hn, if_pos c32]
      rw [e]
      refine x_aload_n 0 dX1_readSecond_46 rfl (by first | rfl | assumption) ?_
      refine x_iload_n 2 dX1_readSecond_47 rfl (by first | rfl | assumption) ?_
      refine x_bipush 126 dX1_readSecond_48 (by decide) ?_
      refine x_icmp_ne 57 dX1_readSecond_50 (by decide) (fun c50 => ?_) (fun c50 => ?_)
      · refine x_bipush 8 dX1_readSecond_57 (by decide) ?_
        refine pf_X1_readSecond_103 dX1_readSecond_59 (by first | assumption | exact va_up_self _ _ _) (Nat.le_of_ble_eq_true rfl) ?_
        refine x_aload_n 0 dX1_readSecond_62 rfl (by first | rfl | assumption) ?_
        refine x_iconst 0 dX1_readSecond_63 (by decide) ?_
        refine pf_X1_readSecond_106 dX1_readSecond_64 (by first | assumption | exact va_up_self _ _ _) (Nat.le_of_ble_eq_true rfl) ?_
        refine x_aload_n 0 dX1_readSecond_67 rfl (by first | rfl | assumption) ?_
        refine x_lconst 0 dX1_readSecond_68 (by decide) ?_
        refine pf_X1_readSecond_58 dX1_readSecond_69 (by first | assumption | exact va_up_self _ _ _) (Nat.le_of_ble_eq_true rfl) ?_
        refine x_aload_n 0 dX1_readSecond_72 rfl (by first | rfl | assumption) ?_
        refine x_iconst 2 dX1_readSecond_73 (by decide) ?_
        refine pf_X1_readSecond_37 dX1_readSecond_74 (by first | assumption | exact va_up_self _ _ _) (Nat.le_of_ble_eq_true rfl) ?_
        refine x_gen (fun gA oA sA => ?_)
        have sA : k_same [a] h gA := ((k_up1.tr k_up1).tr k_up1).tr sA
        have fA := hf.toO sA oA
        refine x_iconst 0 dX1_readSecond_77 (by decide) ?_
        refine x_iret rfl (by first | rfl | assumption | exact z_nb _) dX1_readSecond_78 (by decide) (by decide) ?_
        rw [if_neg c50]
        exact ⟨rfl, fA, k_sub sA (by simp)⟩
      · refine x_iconst 2 dX1_readSecond_53 (by decide) ?_
        refine x_goto 59 dX1_readSecond_54 (by decide) ?_
        refine pf_X1_readSecond_103 dX1_readSecond_59 (by first | assumption | exact va_up_self _ _ _) (Nat.le_of_ble_eq_true rfl) ?_
        refine x_aload_n 0 dX1_readSecond_62 rfl (by first | rfl | assumption) ?_
        refine x_iconst 0 dX1_readSecond_63 (by decide) ?_
        refine pf_X1_readSecond_106 dX1_readSecond_64 (by first | assumption | exact va_up_self _ _ _) (Nat.le_of_ble_eq_true rfl) ?_
        refine x_aload_n 0 dX1_readSecond_67 rfl (by first | rfl | assumption) ?_
        refine x_lconst 0 dX1_readSecond_68 (by decide) ?_
        refine pf_X1_readSecond_58 dX1_readSecond_69 (by first | assumption | exact va_up_self _ _ _) (Nat.le_of_ble_eq_true rfl) ?_
        refine x_aload_n 0 dX1_readSecond_72 rfl (by first | rfl | assumption) ?_
        refine x_iconst 2 dX1_readSecond_73 (by decide) ?_
        refine pf_X1_readSecond_37 dX1_readSecond_74 (by first | assumption | exact va_up_self _ _ _) (Nat.le_of_ble_eq_true rfl) ?_
        refine x_gen (fun gA oA sA => ?_)
        have sA : k_same [a] h gA := ((k_up1.tr k_up1).tr k_up1).tr sA
        have fA := hf.toO sA oA
        refine x_iconst 0 dX1_readSecond_77 (by decide) ?_
        refine x_iret rfl (by first | rfl | assumption | exact z_nb _) dX1_readSecond_78 (by decide) (by decide) ?_
        rw [if_pos c50]
        exact ⟨rfl, fA, k_sub sA (by simp)⟩
    · have e : r_second (pl, kd, la, uw, mkd, lsz, lrd, ln, mrd, crd, fm, msg, sc, c) b = r_len (pl, kd, la, uw, mkd, lsz, lrd, (b &&& 127).toInt64, mrd, crd, fm, msg, sc, c) := by
        dsimp only [r_second]
        rw [if_neg hn, if_neg c32]
      rw [e]
      refine x_aload_n 0 dX1_readSecond_35 rfl (by first | rfl | assumption) ?_
      refine x_iload_n 2 dX1_readSecond_36 rfl (by first | rfl | assumption) ?_
      refine x_i2l dX1_readSecond_37 ?_
      refine pf_X1_readSecond_58 dX1_readSecond_38 (by first | assumption | exact va_up_self _ _ _) (Nat.le_of_ble_eq_true rfl) ?_
      refine x_gen (fun gA oA sA => ?_)
      have fA := hf.toO sA oA
      have oA := fA.1
      refine x_aload_n 0 dX1_readSecond_41 rfl (by first | rfl | assumption) ?_
      refine cl_X1_readSecond_42 (sp_judgeLength fA) (by first | assumption | exact va_up_self _ _ _) (Nat.le_of_ble_eq_true rfl) ⟨Nat.le_of_ble_eq_true rfl, Nat.le_of_ble_eq_true rfl⟩ (fun r1 gB hq => ?_)
      obtain ⟨rfl, fB, sB⟩ := hq
      refine x_iret rfl (by first | rfl | assumption | exact z_nb _) dX1_readSecond_45 (by decide) (by decide) ?_
      exact ⟨rfl, fB, (k_sub sA (by simp)).tr sB⟩
  refine q_enter (M := mX1_readSecond) (by decide +kernel) rfl (Nat.le_of_ble_eq_true rfl) ?_
  refine x_iload_n 1 dX1_readSecond_0 rfl (by first | rfl | assumption) ?_
  refine x_bipush 127 dX1_readSecond_1 (by decide) ?_
  refine x_iand dX1_readSecond_3 ?_
  refine x_istore_n 2 dX1_readSecond_4 rfl (by decide) rfl ?_
  refine x_iload_n 1 dX1_readSecond_5 rfl (by first | rfl | assumption) ?_
  refine x_sipush 128 dX1_readSecond_6 (by decide) ?_
  refine x_icmp_lt 25 dX1_readSecond_9 (by decide) (fun c9 => ?_) (fun c9 => ?_)
  · exact bad (Or.inl c9)
  · refine x_aload_n 0 dX1_readSecond_12 rfl (by first | rfl | assumption) ?_
    refine cl_X1_readSecond_13 (sp_isShort ho) (by first | assumption | exact va_up_self _ _ _) (Nat.le_of_ble_eq_true rfl) ⟨Nat.le_of_ble_eq_true rfl, Nat.le_of_ble_eq_true rfl⟩ (fun r1 g1 hq => ?_)
    obtain ⟨rfl, rfl⟩ := hq
    refine x_if_eq 29 dX1_readSecond_16 (by decide) (fun c16 => ?_) (fun c16 => ?_)
    · exact good (fun z => z.elim c9 (fun z => by rw [z_b0 c16] at z; cases z.1))
    · refine x_iload_n 2 dX1_readSecond_19 rfl (by first | rfl | assumption) ?_
      refine x_bipush 125 dX1_readSecond_20 (by decide) ?_
      refine x_icmp_le 29 dX1_readSecond_22 (by decide) (fun c22 => ?_) (fun c22 => ?_)
      · exact good (fun z => z.elim c9 (fun z => Int32.not_lt.mpr c22 z.2))
      · exact bad (Or.inr ⟨z_b1 c16, Int32.not_le.mp c22⟩)
theorem sp_readLength (hf : k_frm h a aM rm rma rs rsa c1 c2 (pl, kd, la, uw, mkd, lsz, lrd, ln, mrd, crd, fm, msg, sc, c)) (b : Int32) : q_SP G mX1_readLength [.ref a, .int b] h 0 0 (fun o h' => o = some (.int (r_length (pl, kd, la, uw, mkd, lsz, lrd, ln, mrd, crd, fm, msg, sc, c) b).1) ∧ k_frm h' a aM rm rma rs rsa c1 c2 (r_length (pl, kd, la, uw, mkd, lsz, lrd, ln, mrd, crd, fm, msg, sc, c) b).2 ∧ k_same [a, aM, rm, rma, rs, rsa, c1, c2] h h') := by
  have ho := hf.1
  refine q_enter (M := mX1_readLength) (by decide +kernel) rfl (Nat.le_of_ble_eq_true rfl) ?_
  refine x_aload_n 0 dX1_readLength_0 rfl (by first | rfl | assumption) ?_
  refine x_aload_n 0 dX1_readLength_1 rfl (by first | rfl | assumption) ?_
  refine gf_X1_readLength_58 dX1_readLength_2 (by first | assumption | exact va_up_self _ _ _) rfl ?_
  refine x_bipush 8 dX1_readLength_5 (by decide) ?_
  refine x_lshl dX1_readLength_7 ?_
  refine x_iload_n 1 dX1_readLength_8 rfl (by first | rfl | assumption) ?_
  refine x_i2l dX1_readLength_9 ?_
  refine x_lor dX1_readLength_10 ?_
  refine pf_X1_readLength_58 dX1_readLength_11 (by first | assumption | exact va_up_self _ _ _) (Nat.le_of_ble_eq_true rfl) ?_
  refine x_aload_n 0 dX1_readLength_14 rfl (by first | rfl | assumption) ?_
  refine x_dup dX1_readLength_15 rfl ?_
  refine gf_X1_readLength_106 dX1_readLength_16 (by first | assumption | exact va_up_self _ _ _) rfl ?_
  refine x_iconst 1 dX1_readLength_19 (by decide) ?_
  refine x_iadd dX1_readLength_20 ?_
  refine pf_X1_readLength_106 dX1_readLength_21 (by first | assumption | exact va_up_self _ _ _) (Nat.le_of_ble_eq_true rfl) ?_
  refine x_gen (fun gA oA sA => ?_)
  have sA : k_same [a] h gA := k_up1.tr sA
  have sA8 : k_same [a, aM, rm, rma, rs, rsa, c1, c2] h gA := k_sub sA (by simp)
  have fA := hf.toO sA oA
  have oA := fA.1
  refine x_aload_n 0 dX1_readLength_24 rfl (by first | rfl | assumption) ?_
  refine gf_X1_readLength_106 dX1_readLength_25 (by first | assumption | exact va_up_self _ _ _) rfl ?_
  refine x_aload_n 0 dX1_readLength_28 rfl (by first | rfl | assumption) ?_
  refine gf_X1_readLength_103 dX1_readLength_29 (by first | assumption | exact va_up_self _ _ _) rfl ?_
  refine x_icmp_ge 37 dX1_readLength_32 (by decide) (fun c32 => ?_) (fun c32 => ?_)
  · have fin : ∀ z : Int32, z = (if lsz = 2 then 126 else 65536) → q_X G mX1_readLength (q_R mX1_readLength 0 0) (q_FN G (fun o h' => o = some (.int (r_length (pl, kd, la, uw, mkd, lsz, lrd, ln, mrd, crd, fm, msg, sc, c) b).1) ∧ k_frm h' a aM rm rma rs rsa c1 c2 (r_length (pl, kd, la, uw, mkd, lsz, lrd, ln, mrd, crd, fm, msg, sc, c) b).2 ∧ k_same [a, aM, rm, rma, rs, rsa, c1, c2] h h') 0 0) 56 [(0, .ref a), (1, .int b)] [.int z, .long (ln <<< ((8 : Int32).toInt64 &&& 63) ||| b.toInt64)] gA 0 0 := by
      intro z hz
      subst hz
      refine x_i2l dX1_readLength_56 ?_
      refine x_lcmp dX1_readLength_57 ?_
      refine x_if_ge 65 dX1_readLength_58 (by decide) (fun c58 => ?_) (fun c58 => ?_)
      · refine x_aload_n 0 dX1_readLength_65 rfl (by first | rfl | assumption) ?_
        refine cl_X1_readLength_66 (sp_judgeLength fA) (by first | assumption | exact va_up_self _ _ _) (Nat.le_of_ble_eq_true rfl) ⟨Nat.le_of_ble_eq_true rfl, Nat.le_of_ble_eq_true rfl⟩ (fun r1 gB hq => ?_)
        obtain ⟨rfl, fB, sB⟩ := hq
        refine x_iret rfl (by first | rfl | assumption | exact z_nb _) dX1_readLength_69 (by decide) (by decide) ?_
        dsimp only [r_length]
        rw [if_pos c32, if_neg (Int64.not_lt.mpr ((lg_cmp_ge _ _).mp c58))]
        exact ⟨rfl, fB, sA8.tr sB⟩
      · refine x_sipush 1002 dX1_readLength_61 (by decide) ?_
        refine x_iret rfl (by first | rfl | assumption | exact z_nb _) dX1_readLength_64 (by decide) (by decide) ?_
        dsimp only [r_length]
        rw [if_pos c32, if_pos (Int64.not_le.mp (fun z => c58 ((lg_cmp_ge _ _).mpr z)))]
        exact ⟨rfl, fA, sA8⟩
    refine x_aload_n 0 dX1_readLength_37 rfl (by first | rfl | assumption) ?_
    refine gf_X1_readLength_58 dX1_readLength_38 (by first | assumption | exact va_up_self _ _ _) rfl ?_
    refine x_aload_n 0 dX1_readLength_41 rfl (by first | rfl | assumption) ?_
    refine gf_X1_readLength_103 dX1_readLength_42 (by first | assumption | exact va_up_self _ _ _) rfl ?_
    refine x_iconst 2 dX1_readLength_45 (by decide) ?_
    refine x_icmp_ne 54 dX1_readLength_46 (by decide) (fun c46 => ?_) (fun c46 => ?_)
    · refine k1_X1_readLength_109 dX1_readLength_54 ?_
      exact fin _ (by rw [if_neg c46])
    · refine x_bipush 126 dX1_readLength_49 (by decide) ?_
      refine x_goto 56 dX1_readLength_51 (by decide) ?_
      exact fin _ (by rw [if_pos c46])
  · refine x_iconst 0 dX1_readLength_35 (by decide) ?_
    refine x_iret rfl (by first | rfl | assumption | exact z_nb _) dX1_readLength_36 (by decide) (by decide) ?_
    dsimp only [r_length]
    rw [if_neg c32]
    exact ⟨rfl, fA, sA8⟩
theorem z_and3 (x : Int32) : vp_in (x &&& 3) 4 := pk_andIn x 2 (by decide) (by decide)
theorem sp_readMask (hf : k_frm h a aM rm rma rs rsa c1 c2 (pl, kd, la, uw, mkd, lsz, lrd, ln, mrd, crd, fm, msg, sc, c)) (b : Int32) : q_SP G mX1_readMask [.ref a, .int b] h 0 0 (fun o h' => o = some (.int 0) ∧ k_frm h' a aM rm rma rs rsa c1 c2 (r_mask (pl, kd, la, uw, mkd, lsz, lrd, ln, mrd, crd, fm, msg, sc, c) b) ∧ k_same [a, aM, rm, rma, rs, rsa, c1, c2] h h') := by
  have ho := hf.1
  have hm := hf.2.1
  have hin := z_and3 mrd
  refine q_enter (M := mX1_readMask) (by decide +kernel) rfl (Nat.le_of_ble_eq_true rfl) ?_
  refine x_aload_n 0 dX1_readMask_0 rfl (by first | rfl | assumption) ?_
  refine gf_X1_readMask_9 dX1_readMask_1 (by first | assumption | exact va_up_self _ _ _) rfl ?_
  refine x_aload_n 0 dX1_readMask_4 rfl (by first | rfl | assumption) ?_
  refine gf_X1_readMask_113 dX1_readMask_5 (by first | assumption | exact va_up_self _ _ _) rfl ?_
  refine x_iconst 3 dX1_readMask_8 (by decide) ?_
  refine x_iand dX1_readMask_9 ?_
  refine x_iload_n 1 dX1_readMask_10 rfl (by first | rfl | assumption) ?_
  refine x_iast dX1_readMask_11 (by first | assumption | exact va_up_self _ _ _) (by assumption) ?_
  refine x_gen (fun gA oA sA => ?_)
  have fA := hf.toA sA oA
  have oA := fA.1
  refine x_aload_n 0 dX1_readMask_12 rfl (by first | rfl | assumption) ?_
  refine x_dup dX1_readMask_13 rfl ?_
  refine gf_X1_readMask_113 dX1_readMask_14 (by first | assumption | exact va_up_self _ _ _) rfl ?_
  refine x_iconst 1 dX1_readMask_17 (by decide) ?_
  refine x_iadd dX1_readMask_18 ?_
  refine pf_X1_readMask_113 dX1_readMask_19 (by first | assumption | exact va_up_self _ _ _) (Nat.le_of_ble_eq_true rfl) ?_
  refine x_gen (fun gB oB sB => ?_)
  have fB := fA.toO sB oB
  have oB := fB.1
  have sB8 : k_same [a, aM, rm, rma, rs, rsa, c1, c2] h gB := (k_sub sA (by simp)).tr (k_sub sB (by simp))
  refine x_aload_n 0 dX1_readMask_22 rfl (by first | rfl | assumption) ?_
  refine gf_X1_readMask_113 dX1_readMask_23 (by first | assumption | exact va_up_self _ _ _) rfl ?_
  refine x_iconst 4 dX1_readMask_26 (by decide) ?_
  refine x_icmp_ne 40 dX1_readMask_27 (by decide) (fun c27 => ?_) (fun c27 => ?_)
  · refine x_iconst 0 dX1_readMask_40 (by decide) ?_
    refine x_iret rfl (by first | rfl | assumption | exact z_nb _) dX1_readMask_41 (by decide) (by decide) ?_
    dsimp only [r_mask]
    rw [if_neg c27]
    exact ⟨rfl, fB, sB8⟩
  · refine x_aload_n 0 dX1_readMask_30 rfl (by first | rfl | assumption) ?_
    refine x_iconst 0 dX1_readMask_31 (by decide) ?_
    refine pf_X1_readMask_55 dX1_readMask_32 (by first | assumption | exact va_up_self _ _ _) (Nat.le_of_ble_eq_true rfl) ?_
    refine x_aload_n 0 dX1_readMask_35 rfl (by first | rfl | assumption) ?_
    refine x_iconst 4 dX1_readMask_36 (by decide) ?_
    refine pf_X1_readMask_37 dX1_readMask_37 (by first | assumption | exact va_up_self _ _ _) (Nat.le_of_ble_eq_true rfl) ?_
    refine x_gen (fun gC oC sC => ?_)
    have sC : k_same [a] gB gC := k_up1.tr sC
    have fC := fB.toO sC oC
    refine x_iconst 0 dX1_readMask_40 (by decide) ?_
    refine x_iret rfl (by first | rfl | assumption | exact z_nb _) dX1_readMask_41 (by decide) (by decide) ?_
    dsimp only [r_mask]
    rw [if_pos c27]
    exact ⟨rfl, fC, sB8.tr (k_sub sC (by simp))⟩
end FrmC
