/-! FramedTalk: bytes heard -/
section TlkC
variable {G : q_G} {h : q_H} {A : Nat → Nat} {st ec dl pg : Int32} {rq out dr : List Int32} {R : z_R} {w : List z_Ms}
theorem k_tlk.rlen (ht : k_tlk h A (st, ec, dl, pg, rq, out, dr, R, w)) : rq.length ≤ 400 := by
  obtain ⟨sn, ss, es, hq, -⟩ := ht.2.2.1
  exact hq.2.1.len.1
theorem i32_ext {a b : Int32} (hh : a.toInt = b.toInt) : a = b := Int32.toInt_inj.mp hh
theorem sp_finishFrame (ht : k_tlk h A (st, ec, dl, pg, rq, out, dr, R, w)) (hN : st = 1 → out.length + 4 ≤ 574) : q_SP G mX6_finishFrame [.ref (A 0)] h 0 0 (fun o h' => o = none ∧ k_tlk h' A (t_finish (st, ec, dl, pg, rq, out, dr, R, w)) ∧ k_same (k_cells A) h h') := by
  obtain ⟨pl, kd, la, uw, mkd, lsz, lrd, ln, mrd, crd, fm, msg, sc, c⟩ := R
  have hA := ht.1
  have o1 := ht.2.1
  have hR := ht.2.2.2.1
  have oR := hR.1
  have rm := ht.msg
  obtain ⟨f1, q1, -⟩ := id rm
  dsimp only [t_finish]
  refine q_enter (M := mX6_finishFrame) (by decide +kernel) rfl (Nat.le_of_ble_eq_true rfl) ?_
  refine x_aload_n 0 dX6_finishFrame_0 rfl (by first | rfl | assumption) ?_
  refine gf_X6_finishFrame_19 dX6_finishFrame_1 (by first | assumption | exact va_up_self _ _ _) rfl ?_
  refine cl_X6_finishFrame_4 (sp_frameKind hR) (by first | assumption | exact va_up_self _ _ _) (Nat.le_of_ble_eq_true rfl) ⟨Nat.le_of_ble_eq_true rfl, Nat.le_of_ble_eq_true rfl⟩ (fun r g hq => ?_)
  obtain ⟨rfl, rfl⟩ := hq
  by_cases k8 : kd = 8
  · rw [if_pos k8]
    have oR2 := oR
    rw [k8] at oR2
    refine (show q_X G mX6_finishFrame _ _ 7 _ (.int kd :: []) _ _ _ from ?_)
    rw [k8]
    refine x_tableIn 32 dX6_finishFrame_7 (by decide) (by decide) (off := 25) rfl (by decide) ?_
    refine x_aload_n 0 dX6_finishFrame_32 rfl (by first | rfl | assumption) ?_
    refine x_aload_n 0 dX6_finishFrame_33 rfl (by first | rfl | assumption) ?_
    refine gf_X6_finishFrame_19 dX6_finishFrame_34 (by first | assumption | exact va_up_self _ _ _) rfl ?_
    refine cl_X6_finishFrame_37 (sp_shortContent hR) (by first | assumption | exact va_up_self _ _ _) (Nat.le_of_ble_eq_true rfl) ⟨Nat.le_of_ble_eq_true rfl, Nat.le_of_ble_eq_true rfl⟩ (fun r g hq => ?_)
    obtain ⟨rfl, rfl⟩ := hq
    refine cl_X6_finishFrame_40 (sp_hearClose ht hN) (by first | assumption | exact va_up_self _ _ _) (Nat.le_of_ble_eq_true rfl) ⟨Nat.le_of_ble_eq_true rfl, Nat.le_of_ble_eq_true rfl⟩ (fun r g1 hq => ?_)
    obtain ⟨rfl, t1, s1⟩ := hq
    refine x_goto 114 dX6_finishFrame_43 (by decide) ?_
    refine x_vret rfl dX6_finishFrame_114 (by decide) (by decide) ?_
    exact ⟨rfl, k8 ▸ t1, s1⟩
  · rw [if_neg k8]
    by_cases k9 : kd = 9
    · rw [if_pos k9]
      refine (show q_X G mX6_finishFrame _ _ 7 _ (.int kd :: []) _ _ _ from ?_)
      have k9' := k9
      rw [k9]
      refine x_tableIn 46 dX6_finishFrame_7 (by decide) (by decide) (off := 39) rfl (by decide) ?_
      refine x_aload_n 0 dX6_finishFrame_46 rfl (by first | rfl | assumption) ?_
      refine x_aload_n 0 dX6_finishFrame_47 rfl (by first | rfl | assumption) ?_
      refine gf_X6_finishFrame_19 dX6_finishFrame_48 (by first | assumption | exact va_up_self _ _ _) rfl ?_
      refine cl_X6_finishFrame_51 (sp_shortContent hR) (by first | assumption | exact va_up_self _ _ _) (Nat.le_of_ble_eq_true rfl) ⟨Nat.le_of_ble_eq_true rfl, Nat.le_of_ble_eq_true rfl⟩ (fun r g hq => ?_)
      obtain ⟨rfl, rfl⟩ := hq
      refine cl_X6_finishFrame_54 (sp_hearPing ht) (by first | assumption | exact va_up_self _ _ _) (Nat.le_of_ble_eq_true rfl) ⟨Nat.le_of_ble_eq_true rfl, Nat.le_of_ble_eq_true rfl⟩ (fun r g1 hq => ?_)
      obtain ⟨rfl, t1, s1⟩ := hq
      refine x_goto 114 dX6_finishFrame_57 (by decide) ?_
      refine x_vret rfl dX6_finishFrame_114 (by decide) (by decide) ?_
      exact ⟨rfl, k9 ▸ t1, s1⟩
    · rw [if_neg k9]
      by_cases k10 : kd = 10
      · rw [if_pos k10]
        refine (show q_X G mX6_finishFrame _ _ 7 _ (.int kd :: []) _ _ _ from ?_)
        rw [k10]
        refine x_tableIn 60 dX6_finishFrame_7 (by decide) (by decide) (off := 53) rfl (by decide) ?_
        refine x_aload_n 0 dX6_finishFrame_60 rfl (by first | rfl | assumption) ?_
        refine x_dup dX6_finishFrame_61 rfl ?_
        refine gf_X6_finishFrame_114 dX6_finishFrame_62 (by first | assumption | exact va_up_self _ _ _) rfl ?_
        refine x_iconst 1 dX6_finishFrame_65 (by decide) ?_
        refine x_iadd dX6_finishFrame_66 ?_
        refine pf_X6_finishFrame_114 dX6_finishFrame_67 (by first | assumption | exact va_up_self _ _ _) (Nat.le_of_ble_eq_true rfl) ?_
        refine x_gen (fun g1 o2 s1 => ?_)
        refine x_goto 114 dX6_finishFrame_70 (by decide) ?_
        refine x_vret rfl dX6_finishFrame_114 (by decide) (by decide) ?_
        refine ⟨rfl, ?_, k_same.mono s1 (k_sub24 (I := [0]) (by decide))⟩
        have t1 := ht.toObj o2 s1 (fun z => z)
        exact k10 ▸ t1
      · rw [if_neg k10]
        have hout : kd.toInt < 8 ∨ 10 < kd.toInt := by
          have a8 : kd.toInt ≠ 8 := fun z => k8 (i32_ext z)
          have a9 : kd.toInt ≠ 9 := fun z => k9 (i32_ext z)
          have a10 : kd.toInt ≠ 10 := fun z => k10 (i32_ext z)
          omega
        refine x_tableOut 73 dX6_finishFrame_7 hout (by decide) ?_
        refine x_aload_n 0 dX6_finishFrame_73 rfl (by first | rfl | assumption) ?_
        refine gf_X6_finishFrame_19 dX6_finishFrame_74 (by first | assumption | exact va_up_self _ _ _) rfl ?_
        refine cl_X6_finishFrame_77 (sp_isLast hR) (by first | assumption | exact va_up_self _ _ _) (Nat.le_of_ble_eq_true rfl) ⟨Nat.le_of_ble_eq_true rfl, Nat.le_of_ble_eq_true rfl⟩ (fun r g hq => ?_)
        obtain ⟨rfl, rfl⟩ := hq
        cases la with
        | false =>
          refine x_if_eq 114 dX6_finishFrame_80 (by decide) (fun _ => ?_) (fun z => absurd (by decide) z)
          refine x_vret rfl dX6_finishFrame_114 (by decide) (by decide) ?_
          exact ⟨rfl, ht, k_same.rf⟩
        | true =>
          refine x_if_eq 114 dX6_finishFrame_80 (by decide) (fun z => absurd z (by decide)) (fun _ => ?_)
          refine x_aload_n 0 dX6_finishFrame_83 rfl (by first | rfl | assumption) ?_
          refine x_dup dX6_finishFrame_84 rfl ?_
          refine gf_X6_finishFrame_63 dX6_finishFrame_85 (by first | assumption | exact va_up_self _ _ _) rfl ?_
          refine x_iconst 1 dX6_finishFrame_88 (by decide) ?_
          refine x_iadd dX6_finishFrame_89 ?_
          refine pf_X6_finishFrame_63 dX6_finishFrame_90 (by first | assumption | exact va_up_self _ _ _) (Nat.le_of_ble_eq_true rfl) ?_
          refine x_gen (fun g1 o2 s1 => ?_)
          have t1 := ht.toObj o2 s1 (fun z => z)
          have hR := t1.2.2.2.1
          have oR := hR.1
          have rm := t1.msg
          have hW := t1.2.2.2.2.1
          obtain ⟨of1, fc1, fk1, fl1, oW, -⟩ := id hW
          refine x_aload_n 0 dX6_finishFrame_93 rfl (by first | rfl | assumption) ?_
          refine gf_X6_finishFrame_26 dX6_finishFrame_94 (by first | assumption | exact va_up_self _ _ _) rfl ?_
          refine x_aload_n 0 dX6_finishFrame_97 rfl (by first | rfl | assumption) ?_
          refine gf_X6_finishFrame_19 dX6_finishFrame_98 (by first | assumption | exact va_up_self _ _ _) rfl ?_
          refine cl_X6_finishFrame_101 (sp_messageKind hR) (by first | assumption | exact va_up_self _ _ _) (Nat.le_of_ble_eq_true rfl) ⟨Nat.le_of_ble_eq_true rfl, Nat.le_of_ble_eq_true rfl⟩ (fun r g hq => ?_)
          obtain ⟨rfl, rfl⟩ := hq
          refine x_aload_n 0 dX6_finishFrame_104 rfl (by first | rfl | assumption) ?_
          refine gf_X6_finishFrame_19 dX6_finishFrame_105 (by first | assumption | exact va_up_self _ _ _) rfl ?_
          refine cl_X6_finishFrame_108 (sp_message hR) (by first | assumption | exact va_up_self _ _ _) (Nat.le_of_ble_eq_true rfl) ⟨Nat.le_of_ble_eq_true rfl, Nat.le_of_ble_eq_true rfl⟩ (fun r g hq => ?_)
          obtain ⟨rfl, rfl⟩ := hq
          refine cl_X6_finishFrame_111 (sp_wput hW rm rm.len.1 ⟨hA.no (I := [15, 16, 17, 18]) (by decide), hA.no (I := [15, 16, 17, 18]) (by decide)⟩ mkd) (by first | assumption | exact va_up_self _ _ _) (Nat.le_of_ble_eq_true rfl) ⟨Nat.le_of_ble_eq_true rfl, Nat.le_of_ble_eq_true rfl⟩ (fun r g2 hq => ?_)
          obtain ⟨rfl, w2, s2⟩ := hq
          refine x_vret rfl dX6_finishFrame_114 (by decide) (by decide) ?_
          exact ⟨rfl, t1.toW w2 s2, (k_same.mono s1 (k_sub24 (I := [0]) (by decide))).tr (s2.mono (k_sub24 (I := [15, 16, 17, 18]) (by decide)))⟩
theorem sp_hearFrame (ht : k_tlk h A (st, ec, dl, pg, rq, out, dr, R, w)) (b : Int32) (hN : st = 1 → out.length + 4 ≤ 574) : q_SP G mX6_hearFrame [.ref (A 0), .int b] h 0 0 (fun o h' => o = none ∧ k_tlk h' A (t_frame (st, ec, dl, pg, rq, out, dr, R, w) b) ∧ k_same (k_cells A) h h') := by
  have hA := ht.1
  have o1 := ht.2.1
  have hR := ht.2.2.2.1
  have oR : ∃ fs, h (A 7) = some (k_ob 1 fs) := by
    obtain ⟨pl, kd, la, uw, mkd, lsz, lrd, ln, mrd, crd, fm, msg, sc, c⟩ := R
    exact ⟨_, hR.1⟩
  obtain ⟨fs, oR⟩ := oR
  unfold t_frame
  dsimp only
  refine q_enter (M := mX6_hearFrame) (by decide +kernel) rfl (Nat.le_of_ble_eq_true rfl) ?_
  refine x_aload_n 0 dX6_hearFrame_0 rfl (by first | rfl | assumption) ?_
  refine gf_X6_hearFrame_19 dX6_hearFrame_1 (by first | assumption | exact va_up_self _ _ _) rfl ?_
  refine x_iload_n 1 dX6_hearFrame_4 rfl (by first | rfl | assumption) ?_
  refine cl_X6_hearFrame_5 (sp_read hR b) (by first | assumption | exact va_up_self _ _ _) (Nat.le_of_ble_eq_true rfl) ⟨Nat.le_of_ble_eq_true rfl, Nat.le_of_ble_eq_true rfl⟩ (fun r g1 hq => ?_)
  obtain ⟨rfl, R1, s1⟩ := hq
  have t1 := ht.toR R1 s1
  have s1 := s1.mono (k_sub24 (A := A) (I := [7, 8, 9, 10, 11, 12, 13, 14]) (by decide))
  have o1 := t1.2.1
  refine x_istore_n 2 dX6_hearFrame_8 rfl (by decide) rfl ?_
  refine x_iload_n 2 dX6_hearFrame_9 rfl (by first | rfl | assumption) ?_
  refine x_iconst 1 dX6_hearFrame_10 (by decide) ?_
  refine x_icmp_ne 21 dX6_hearFrame_11 (by decide) (fun c11 => ?_) (fun c11 => ?_)
  · refine x_iload_n 2 dX6_hearFrame_21 rfl (by first | rfl | assumption) ?_
    refine x_if_eq 30 dX6_hearFrame_22 (by decide) (fun c22 => ?_) (fun c22 => ?_)
    · refine x_vret rfl dX6_hearFrame_30 (by decide) (by decide) ?_
      refine ⟨rfl, ?_, s1⟩
      rw [if_neg c11, if_pos c22]
      exact t1
    · refine x_aload_n 0 dX6_hearFrame_25 rfl (by first | rfl | assumption) ?_
      refine x_iload_n 2 dX6_hearFrame_26 rfl (by first | rfl | assumption) ?_
      refine cl_X6_hearFrame_27 (sp_violate t1 _ hN) (by first | assumption | exact va_up_self _ _ _) (Nat.le_of_ble_eq_true rfl) ⟨Nat.le_of_ble_eq_true rfl, Nat.le_of_ble_eq_true rfl⟩ (fun r g2 hq => ?_)
      obtain ⟨rfl, t2, s2⟩ := hq
      refine x_vret rfl dX6_hearFrame_30 (by decide) (by decide) ?_
      refine ⟨rfl, ?_, s1.tr s2⟩
      rw [if_neg c11, if_neg c22]
      exact t2
  · refine x_aload_n 0 dX6_hearFrame_14 rfl (by first | rfl | assumption) ?_
    refine cl_X6_hearFrame_15 (sp_finishFrame t1 hN) (by first | assumption | exact va_up_self _ _ _) (Nat.le_of_ble_eq_true rfl) ⟨Nat.le_of_ble_eq_true rfl, Nat.le_of_ble_eq_true rfl⟩ (fun r g2 hq => ?_)
    obtain ⟨rfl, t2, s2⟩ := hq
    refine x_goto 30 dX6_hearFrame_18 (by decide) ?_
    refine x_vret rfl dX6_hearFrame_30 (by decide) (by decide) ?_
    refine ⟨rfl, ?_, s1.tr s2⟩
    rw [if_pos c11]
    exact t2
end TlkC
