/-! FramedTalk$Frames: content, the whole frame, read -/
section FrmD
variable {G : q_G} {h : q_H} {a aM rm rma rs rsa c1 c2 : Nat} {pl kd mkd lsz lrd mrd crd : Int32} {la uw : Bool} {ln : Int64} {fm : Nat → Int32} {msg sc : List Int32} {c : z_T3} {S : z_R}
theorem sp_readContent (hf : k_frm h a aM rm rma rs rsa c1 c2 (pl, kd, la, uw, mkd, lsz, lrd, ln, mrd, crd, fm, msg, sc, c)) (b : Int32) : q_SP G mX1_readContent [.ref a, .int b] h 0 0 (fun o h' => o = some (.int (r_content (pl, kd, la, uw, mkd, lsz, lrd, ln, mrd, crd, fm, msg, sc, c) b).1) ∧ k_frm h' a aM rm rma rs rsa c1 c2 (r_content (pl, kd, la, uw, mkd, lsz, lrd, ln, mrd, crd, fm, msg, sc, c) b).2 ∧ k_same [a, aM, rm, rma, rs, rsa, c1, c2] h h') := by
  have ho := hf.1
  have hm := hf.2.1
  have hin := z_and3 crd
  refine q_enter (M := mX1_readContent) (by decide +kernel) rfl (Nat.le_of_ble_eq_true rfl) ?_
  refine x_iload_n 1 dX1_readContent_0 rfl (by first | rfl | assumption) ?_
  refine x_aload_n 0 dX1_readContent_1 rfl (by first | rfl | assumption) ?_
  refine gf_X1_readContent_9 dX1_readContent_2 (by first | assumption | exact va_up_self _ _ _) rfl ?_
  refine x_aload_n 0 dX1_readContent_5 rfl (by first | rfl | assumption) ?_
  refine gf_X1_readContent_55 dX1_readContent_6 (by first | assumption | exact va_up_self _ _ _) rfl ?_
  refine x_iconst 3 dX1_readContent_9 (by decide) ?_
  refine x_iand dX1_readContent_10 ?_
  refine x_iald dX1_readContent_11 (by first | assumption | exact va_up_self _ _ _) (by assumption) ?_
  refine x_ixor dX1_readContent_12 ?_
  refine x_istore_n 2 dX1_readContent_13 rfl (by decide) rfl ?_
  obtain ⟨x, hx⟩ : ∃ x, x = b ^^^ fm (crd &&& 3).toNatClampNeg := ⟨_, rfl⟩
  dsimp only [r_content]
  rw [← hx]
  refine x_aload_n 0 dX1_readContent_14 rfl (by first | rfl | assumption) ?_
  refine x_dup dX1_readContent_15 rfl ?_
  refine gf_X1_readContent_55 dX1_readContent_16 (by first | assumption | exact va_up_self _ _ _) rfl ?_
  refine x_iconst 1 dX1_readContent_19 (by decide) ?_
  refine x_iadd dX1_readContent_20 ?_
  refine pf_X1_readContent_55 dX1_readContent_21 (by first | assumption | exact va_up_self _ _ _) (Nat.le_of_ble_eq_true rfl) ?_
  refine x_gen (fun gA oA sA => ?_)
  have sA8 : k_same [a, aM, rm, rma, rs, rsa, c1, c2] h gA := k_sub sA (by simp)
  have fA := hf.toO sA oA
  have oA := fA.1
  refine x_aload_n 0 dX1_readContent_24 rfl (by first | rfl | assumption) ?_
  refine cl_X1_readContent_25 (sp_isShort oA) (by first | assumption | exact va_up_self _ _ _) (Nat.le_of_ble_eq_true rfl) ⟨Nat.le_of_ble_eq_true rfl, Nat.le_of_ble_eq_true rfl⟩ (fun r1 g1 hq => ?_)
  obtain ⟨rfl, rfl⟩ := hq
  have fin : ∀ (gB : q_H) (c' : z_T3), k_same [a, aM, rm, rma, rs, rsa, c1, c2] h gB → k_frm gB a aM rm rma rs rsa c1 c2 (pl, kd, la, uw, mkd, lsz, lrd, ln, mrd, crd + 1, fm, msg, sc, c') → ∀ Qr : q_Q, (∀ h' : q_H, k_frm h' a aM rm rma rs rsa c1 c2 (pl, kd, la, uw, mkd, lsz, lrd, ln, mrd, crd + 1, fm, r_add 300 msg x, sc, c') → k_same [a, aM, rm, rma, rs, rsa, c1, c2] h h' → Qr (some (.int 0)) h') → q_X G mX1_readContent (q_R mX1_readContent 0 0) (q_FN G Qr 0 0) 64 [(0, .ref a), (1, .int b), (2, .int x)] [] gB 0 0 := by
    intro gB c' sB fB Qr hQ
    have oB := fB.1
    have rB := fB.2.2.1
    obtain ⟨f9, q9, -⟩ := id rB
    refine x_aload_n 0 dX1_readContent_64 rfl (by first | rfl | assumption) ?_
    refine gf_X1_readContent_20 dX1_readContent_65 (by first | assumption | exact va_up_self _ _ _) rfl ?_
    refine x_iload_n 2 dX1_readContent_68 rfl (by first | rfl | assumption) ?_
    refine cl_X1_readContent_69 (sp_add rB x) (by first | assumption | exact va_up_self _ _ _) (Nat.le_of_ble_eq_true rfl) ⟨Nat.le_of_ble_eq_true rfl, Nat.le_of_ble_eq_true rfl⟩ (fun r1 gC hq => ?_)
    obtain ⟨rfl, rC, sC⟩ := hq
    refine x_iconst 0 dX1_readContent_72 (by decide) ?_
    refine x_iret rfl (by first | rfl | assumption | exact z_nb _) dX1_readContent_73 (by decide) (by decide) ?_
    exact hQ gC (fB.toM sC rC) (sB.tr (k_sub sC (by simp)))
  refine x_if_eq 41 dX1_readContent_28 (by decide) (fun c28 => ?_) (fun c28 => ?_)
  · rw [z_b0 c28, if_neg (by decide)]
    refine x_aload_n 0 dX1_readContent_41 rfl (by first | rfl | assumption) ?_
    refine gf_X1_readContent_48 dX1_readContent_42 (by first | assumption | exact va_up_self _ _ _) rfl ?_
    refine x_iconst 1 dX1_readContent_45 (by decide) ?_
    refine x_icmp_ne 64 dX1_readContent_46 (by decide) (fun c46 => ?_) (fun c46 => ?_)
    · rw [if_neg c46]
      exact fin _ c sA8 fA _ (fun h' k1 k2 => ⟨rfl, k1, k2⟩)
    · rw [if_pos c46]
      have cA := fA.2.2.2.2.1
      have cA' : g1 c1 = some (k_ob 4 [.int c.1, .int c.2.1, .int c.2.2]) := cA
      refine x_aload_n 0 dX1_readContent_49 rfl (by first | rfl | assumption) ?_
      refine gf_X1_readContent_30 dX1_readContent_50 (by first | assumption | exact va_up_self _ _ _) rfl ?_
      refine x_iload_n 2 dX1_readContent_53 rfl (by first | rfl | assumption) ?_
      refine cl_X1_readContent_54 (sp_accepts cA x) (by first | assumption | exact va_up_self _ _ _) (Nat.le_of_ble_eq_true rfl) ⟨Nat.le_of_ble_eq_true rfl, Nat.le_of_ble_eq_true rfl⟩ (fun r1 gB hq => ?_)
      obtain ⟨rfl, cB, sB⟩ := hq
      have fB := fA.toC sB cB
      have sB8 := sA8.tr (k_sub (T := [a, aM, rm, rma, rs, rsa, c1, c2]) sB (by simp))
      cases hu : (z_u8 c x).isSome with
      | true =>
        refine x_if_ne 64 dX1_readContent_57 (by decide) (fun _ => ?_) (fun z => absurd z (show ¬ (1 : Int32) = 0 by decide))
        rw [if_pos rfl]
        exact fin _ _ sB8 fB _ (fun h' k1 k2 => ⟨rfl, k1, k2⟩)
      | false =>
        refine x_if_ne 64 dX1_readContent_57 (by decide) (fun z => absurd rfl z) (fun _ => ?_)
        rw [if_neg (by decide)]
        refine x_sipush 1007 dX1_readContent_60 (by decide) ?_
        refine x_iret rfl (by first | rfl | assumption | exact z_nb _) dX1_readContent_63 (by decide) (by decide) ?_
        exact ⟨rfl, fB, sB8⟩
  · rw [z_b1 c28, if_pos rfl]
    have rA := fA.2.2.2.1
    obtain ⟨f9, q9, -⟩ := id rA
    refine x_aload_n 0 dX1_readContent_31 rfl (by first | rfl | assumption) ?_
    refine gf_X1_readContent_24 dX1_readContent_32 (by first | assumption | exact va_up_self _ _ _) rfl ?_
    refine x_iload_n 2 dX1_readContent_35 rfl (by first | rfl | assumption) ?_
    refine cl_X1_readContent_36 (sp_add rA x) (by first | assumption | exact va_up_self _ _ _) (Nat.le_of_ble_eq_true rfl) ⟨Nat.le_of_ble_eq_true rfl, Nat.le_of_ble_eq_true rfl⟩ (fun r1 gB hq => ?_)
    obtain ⟨rfl, rB, sB⟩ := hq
    refine x_iconst 0 dX1_readContent_39 (by decide) ?_
    refine x_iret rfl (by first | rfl | assumption | exact z_nb _) dX1_readContent_40 (by decide) (by decide) ?_
    exact ⟨rfl, fA.toS sB rB, sA8.tr (k_sub sB (by simp))⟩
theorem sp_readPart (hf : k_frm h a aM rm rma rs rsa c1 c2 S) (b : Int32) : q_SP G mX1_readPart [.ref a, .int b] h 0 0 (fun o h' => o = some (.int (r_part S b).1) ∧ k_frm h' a aM rm rma rs rsa c1 c2 (r_part S b).2 ∧ k_same [a, aM, rm, rma, rs, rsa, c1, c2] h h') := by
  obtain ⟨pl, kd, la, uw, mkd, lsz, lrd, ln, mrd, crd, fm, msg, sc, c⟩ := S
  have ho := hf.1
  dsimp only [r_part]
  refine q_enter (M := mX1_readPart) (by decide +kernel) rfl (Nat.le_of_ble_eq_true rfl) ?_
  refine x_aload_n 0 dX1_readPart_0 rfl (by first | rfl | assumption) ?_
  refine gf_X1_readPart_37 dX1_readPart_1 (by first | assumption | exact va_up_self _ _ _) rfl ?_
  by_cases p0 : pl = 0
  · subst p0
    refine x_tableIn 36 dX1_readPart_4 (by decide) (by decide) (off := 32) rfl (by decide) ?_
    refine x_aload_n 0 dX1_readPart_36 rfl (by first | rfl | assumption) ?_
    refine x_iload_n 1 dX1_readPart_37 rfl (by first | rfl | assumption) ?_
    refine cl_X1_readPart_38 (sp_readFirst hf b) (by first | assumption | exact va_up_self _ _ _) (Nat.le_of_ble_eq_true rfl) ⟨Nat.le_of_ble_eq_true rfl, Nat.le_of_ble_eq_true rfl⟩ (fun r1 g1 hq => ?_)
    obtain ⟨rfl, k1, k2⟩ := hq
    refine x_iret rfl (by first | rfl | assumption | exact z_nb _) dX1_readPart_41 (by decide) (by decide) ?_
    rw [if_pos rfl]
    exact ⟨rfl, k1, k2⟩
  · by_cases p1 : pl = 1
    · subst p1
      refine x_tableIn 42 dX1_readPart_4 (by decide) (by decide) (off := 38) rfl (by decide) ?_
      refine x_aload_n 0 dX1_readPart_42 rfl (by first | rfl | assumption) ?_
      refine x_iload_n 1 dX1_readPart_43 rfl (by first | rfl | assumption) ?_
      refine cl_X1_readPart_44 (sp_readSecond hf b) (by first | assumption | exact va_up_self _ _ _) (Nat.le_of_ble_eq_true rfl) ⟨Nat.le_of_ble_eq_true rfl, Nat.le_of_ble_eq_true rfl⟩ (fun r1 g1 hq => ?_)
      obtain ⟨rfl, k1, k2⟩ := hq
      refine x_iret rfl (by first | rfl | assumption | exact z_nb _) dX1_readPart_47 (by decide) (by decide) ?_
      rw [if_neg (by decide), if_pos rfl]
      exact ⟨rfl, k1, k2⟩
    · by_cases p2 : pl = 2
      · subst p2
        refine x_tableIn 48 dX1_readPart_4 (by decide) (by decide) (off := 44) rfl (by decide) ?_
        refine x_aload_n 0 dX1_readPart_48 rfl (by first | rfl | assumption) ?_
        refine x_iload_n 1 dX1_readPart_49 rfl (by first | rfl | assumption) ?_
        refine cl_X1_readPart_50 (sp_readLength hf b) (by first | assumption | exact va_up_self _ _ _) (Nat.le_of_ble_eq_true rfl) ⟨Nat.le_of_ble_eq_true rfl, Nat.le_of_ble_eq_true rfl⟩ (fun r1 g1 hq => ?_)
        obtain ⟨rfl, k1, k2⟩ := hq
        refine x_iret rfl (by first | rfl | assumption | exact z_nb _) dX1_readPart_53 (by decide) (by decide) ?_
        rw [if_neg (by decide), if_neg (by decide), if_pos rfl]
        exact ⟨rfl, k1, k2⟩
      · by_cases p3 : pl = 3
        · subst p3
          refine x_tableIn 54 dX1_readPart_4 (by decide) (by decide) (off := 50) rfl (by decide) ?_
          refine x_aload_n 0 dX1_readPart_54 rfl (by first | rfl | assumption) ?_
          refine x_iload_n 1 dX1_readPart_55 rfl (by first | rfl | assumption) ?_
          refine cl_X1_readPart_56 (sp_readMask hf b) (by first | assumption | exact va_up_self _ _ _) (Nat.le_of_ble_eq_true rfl) ⟨Nat.le_of_ble_eq_true rfl, Nat.le_of_ble_eq_true rfl⟩ (fun r1 g1 hq => ?_)
          obtain ⟨rfl, k1, k2⟩ := hq
          refine x_iret rfl (by first | rfl | assumption | exact z_nb _) dX1_readPart_59 (by decide) (by decide) ?_
          rw [if_neg (by decide), if_neg (by decide), if_neg (by decide), if_pos rfl]
          exact ⟨rfl, k1, k2⟩
        · have hout : pl.toInt < 0 ∨ (3 : Int) < pl.toInt := by
            by_cases z : pl.toInt < 0 ∨ (3 : Int) < pl.toInt
            · exact z
            · rw [not_or] at z
              obtain ⟨j, hj, e⟩ := i32_in (n := 3) z.1 z.2
              have four : j = 0 ∨ j = 1 ∨ j = 2 ∨ j = 3 := by omega
              rcases four with rfl | rfl | rfl | rfl
              · exact absurd e p0
              · exact absurd e p1
              · exact absurd e p2
              · exact absurd e p3
          refine x_tableOut 60 dX1_readPart_4 hout (by decide) ?_
          refine x_aload_n 0 dX1_readPart_60 rfl (by first | rfl | assumption) ?_
          refine x_iload_n 1 dX1_readPart_61 rfl (by first | rfl | assumption) ?_
          refine cl_X1_readPart_62 (sp_readContent hf b) (by first | assumption | exact va_up_self _ _ _) (Nat.le_of_ble_eq_true rfl) ⟨Nat.le_of_ble_eq_true rfl, Nat.le_of_ble_eq_true rfl⟩ (fun r1 g1 hq => ?_)
          obtain ⟨rfl, k1, k2⟩ := hq
          refine x_iret rfl (by first | rfl | assumption | exact z_nb _) dX1_readPart_65 (by decide) (by decide) ?_
          rw [if_neg p0, if_neg p1, if_neg p2, if_neg p3]
          exact ⟨rfl, k1, k2⟩
theorem r_pair_short {sc : List Int32} (h : sc.length < 2) : r_code (r_pair sc) = false := by
  unfold r_pair
  rw [if_pos h]
  rfl
theorem sp_judgeClose (hf : k_frm h a aM rm rma rs rsa c1 c2 (pl, kd, la, uw, mkd, lsz, lrd, ln, mrd, crd, fm, msg, sc, c)) : q_SP G mX1_judgeClose [.ref a] h 0 0 (fun o h' => o = some (.int (r_close sc)) ∧ k_frm h' a aM rm rma rs rsa c1 c2 (pl, kd, la, uw, mkd, lsz, lrd, ln, mrd, crd, fm, msg, sc, c) ∧ k_same [a, aM, rm, rma, rs, rsa, c1, c2] h h') := by
  have hf0 := hf
  obtain ⟨ho, e2, e3, rA, e5, ⟨cr, e6⟩, e7⟩ := hf
  have hl := rA.len
  obtain ⟨f9, q9, -⟩ := id rA
  refine q_enter (M := mX1_judgeClose) (by decide +kernel) rfl (Nat.le_of_ble_eq_true rfl) ?_
  refine x_aload_n 0 dX1_judgeClose_0 rfl (by first | rfl | assumption) ?_
  refine gf_X1_judgeClose_24 dX1_judgeClose_1 (by first | assumption | exact va_up_self _ _ _) rfl ?_
  refine cl_X1_judgeClose_4 (sp_size rA) (by first | assumption | exact va_up_self _ _ _) (Nat.le_of_ble_eq_true rfl) ⟨Nat.le_of_ble_eq_true rfl, Nat.le_of_ble_eq_true rfl⟩ (fun r1 g1 hq => ?_)
  obtain ⟨rfl, rfl⟩ := hq
  refine x_if_ne 12 dX1_judgeClose_7 (by decide) (fun c7 => ?_) (fun c7 => ?_)
  · have hne : ¬ sc.length = 0 := fun z => c7 (by rw [z]; rfl)
    refine x_aload_n 0 dX1_judgeClose_12 rfl (by first | rfl | assumption) ?_
    refine gf_X1_judgeClose_24 dX1_judgeClose_13 (by first | assumption | exact va_up_self _ _ _) rfl ?_
    refine cl_X1_judgeClose_16 (sp_pair rA) (by first | assumption | exact va_up_self _ _ _) (Nat.le_of_ble_eq_true rfl) ⟨Nat.le_of_ble_eq_true rfl, Nat.le_of_ble_eq_true rfl⟩ (fun r1 g1 hq => ?_)
    obtain ⟨rfl, rfl⟩ := hq
    refine cl_X1_judgeClose_19 (sp_mayStand (r_pair sc)) (Nat.le_of_ble_eq_true rfl) ⟨Nat.le_of_ble_eq_true rfl, Nat.le_of_ble_eq_true rfl⟩ (fun r1 g1 hq => ?_)
    obtain ⟨rfl, rfl⟩ := hq
    refine x_if_ne 29 dX1_judgeClose_22 (by decide) (fun c22 => ?_) (fun c22 => ?_)
    · have hcode := z_b1 c22
      have h2 : 2 ≤ sc.length := by
        by_cases z : sc.length < 2
        · rw [r_pair_short z] at hcode; cases hcode
        · omega
      have hd := e7
      simp only [List.nodup_cons, List.mem_cons, List.not_mem_nil, not_or, or_false, not_false_eq_true, List.nodup_nil, and_true] at hd
      obtain ⟨⟨d1, d2, d3, d4, d5, d6, d7⟩, ⟨t2, t3, t4, t5, t6, t7⟩, ⟨u3, u4, u5, u6, u7⟩, ⟨v4, v5, v6, v7⟩, ⟨w5, w6, w7⟩, ⟨x6, x7⟩, y7⟩ := hd
      have q6 : g1 c2 = some (k_ob 4 [.int cr.1, .int cr.2.1, .int cr.2.2]) := e6
      refine x_aload_n 0 dX1_judgeClose_29 rfl (by first | rfl | assumption) ?_
      refine gf_X1_judgeClose_34 dX1_judgeClose_30 (by first | assumption | exact va_up_self _ _ _) rfl ?_
      refine x_aload_n 0 dX1_judgeClose_33 rfl (by first | rfl | assumption) ?_
      refine gf_X1_judgeClose_24 dX1_judgeClose_34 (by first | assumption | exact va_up_self _ _ _) rfl ?_
      refine x_iconst 2 dX1_judgeClose_37 (by decide) ?_
      refine cl_X1_judgeClose_38 (sp_isText e6 rA (p := 2) ⟨by simp [w7], by simp [x7]⟩ h2) (by first | assumption | exact va_up_self _ _ _) (Nat.le_of_ble_eq_true rfl) ⟨Nat.le_of_ble_eq_true rfl, Nat.le_of_ble_eq_true rfl⟩ (fun r1 g2 hq => ?_)
      obtain ⟨rfl, ⟨cr', k1⟩, k2⟩ := hq
      have hf2 : k_frm g2 a aM rm rma rs rsa c1 c2 (pl, kd, la, uw, mkd, lsz, lrd, ln, mrd, crd, fm, msg, sc, c) := ⟨(k2 a (by simp [d7])).trans ho, (k2 aM (by simp [t7])).trans e2, e3.kept k2 (by simp [u7]) (by simp [v7]), rA.kept k2 (by simp [w7]) (by simp [x7]), e5.kept k2 (by simp [y7]), ⟨cr', k1⟩, e7⟩
      have hz : r_close sc = if z_txt (sc.drop 2) then 1 else 1007 := by
        unfold r_close
        rw [if_neg hne, hcode, if_pos rfl]
      rw [hz]
      refine x_if_eq 48 dX1_judgeClose_41 (by decide) (fun c41 => ?_) (fun c41 => ?_)
      · refine x_sipush 1007 dX1_judgeClose_48 (by decide) ?_
        refine x_iret rfl (by first | rfl | assumption | exact z_nb _ | decide) dX1_judgeClose_51 (by decide) (by decide) ?_
        exact ⟨by simp_all, hf2, k_sub k2 (by simp)⟩
      · refine x_iconst 1 dX1_judgeClose_44 (by decide) ?_
        refine x_goto 51 dX1_judgeClose_45 (by decide) ?_
        refine x_iret rfl (by first | rfl | assumption | exact z_nb _ | decide) dX1_judgeClose_51 (by decide) (by decide) ?_
        exact ⟨by simp_all, hf2, k_sub k2 (by simp)⟩
    · refine x_sipush 1002 dX1_judgeClose_25 (by decide) ?_
      refine x_iret rfl (by first | rfl | assumption | exact z_nb _) dX1_judgeClose_28 (by decide) (by decide) ?_
      unfold r_close
      rw [if_neg hne, z_b0 c22, if_neg (by decide)]
      exact ⟨rfl, hf0, k_same.rf⟩
  · have hz0 : sc.length = 0 := (nI_eq (b := 0) (by omega) (by omega)).mp c7
    refine x_iconst 1 dX1_judgeClose_10 (by decide) ?_
    refine x_iret rfl (by first | rfl | assumption | exact z_nb _) dX1_judgeClose_11 (by decide) (by decide) ?_
    unfold r_close
    rw [if_pos hz0]
    exact ⟨rfl, hf0, k_same.rf⟩
theorem sp_judgeFrame (hf : k_frm h a aM rm rma rs rsa c1 c2 S) : q_SP G mX1_judgeFrame [.ref a] h 0 0 (fun o h' => o = some (.int (r_frame S).1) ∧ k_frm h' a aM rm rma rs rsa c1 c2 (r_frame S).2 ∧ k_same [a, aM, rm, rma, rs, rsa, c1, c2] h h') := by
  obtain ⟨pl, kd, la, uw, mkd, lsz, lrd, ln, mrd, crd, fm, msg, sc, c⟩ := S
  have ho := hf.1
  dsimp only [r_frame]
  refine q_enter (M := mX1_judgeFrame) (by decide +kernel) rfl (Nat.le_of_ble_eq_true rfl) ?_
  refine x_aload_n 0 dX1_judgeFrame_0 rfl (by first | rfl | assumption) ?_
  refine cl_X1_judgeFrame_1 (sp_isShort ho) (by first | assumption | exact va_up_self _ _ _) (Nat.le_of_ble_eq_true rfl) ⟨Nat.le_of_ble_eq_true rfl, Nat.le_of_ble_eq_true rfl⟩ (fun r1 g1 hq => ?_)
  obtain ⟨rfl, rfl⟩ := hq
  refine x_if_eq 25 dX1_judgeFrame_4 (by decide) (fun c4 => ?_) (fun c4 => ?_)
  · rw [z_b0 c4, if_neg (by decide)]
    refine x_aload_n 0 dX1_judgeFrame_25 rfl (by first | rfl | assumption) ?_
    refine gf_X1_judgeFrame_44 dX1_judgeFrame_26 (by first | assumption | exact va_up_self _ _ _) rfl ?_
    refine x_if_eq 59 dX1_judgeFrame_29 (by decide) (fun c29 => ?_) (fun c29 => ?_)
    · rw [z_b0 c29, if_neg (by decide)]
      rw [z_b0 c29] at hf
      refine x_iconst 1 dX1_judgeFrame_59 (by decide) ?_
      refine x_iret rfl (by first | rfl | assumption | exact z_nb _) dX1_judgeFrame_60 (by decide) (by decide) ?_
      exact ⟨rfl, hf, k_same.rf⟩
    · rw [z_b1 c29, if_pos rfl]
      rw [z_b1 c29] at hf ho
      refine x_aload_n 0 dX1_judgeFrame_32 rfl (by first | rfl | assumption) ?_
      refine x_iconst 0 dX1_judgeFrame_33 (by decide) ?_
      refine pf_X1_judgeFrame_94 dX1_judgeFrame_34 (by decide) (by decide) (by first | assumption | exact va_up_self _ _ _) (Nat.le_of_ble_eq_true rfl) ?_
      refine x_gen (fun gA oA sA => ?_)
      have sA8 : k_same [a, aM, rm, rma, rs, rsa, c1, c2] g1 gA := k_sub sA (by simp)
      have fA := hf.toO (la' := true) (uw' := false) sA oA
      have oA := fA.1
      have cA := fA.2.2.2.2.1
      have cA' : gA c1 = some (k_ob 4 [.int c.1, .int c.2.1, .int c.2.2]) := cA
      refine x_aload_n 0 dX1_judgeFrame_37 rfl (by first | rfl | assumption) ?_
      refine gf_X1_judgeFrame_48 dX1_judgeFrame_38 (by first | assumption | exact va_up_self _ _ _) rfl ?_
      refine x_iconst 1 dX1_judgeFrame_41 (by decide) ?_
      refine x_icmp_ne 59 dX1_judgeFrame_42 (by decide) (fun c42 => ?_) (fun c42 => ?_)
      · refine x_iconst 1 dX1_judgeFrame_59 (by decide) ?_
        refine x_iret rfl (by first | rfl | assumption | exact z_nb _) dX1_judgeFrame_60 (by decide) (by decide) ?_
        rw [if_neg (fun z => c42 z.1)]
        exact ⟨rfl, fA, sA8⟩
      · refine x_aload_n 0 dX1_judgeFrame_45 rfl (by first | rfl | assumption) ?_
        refine gf_X1_judgeFrame_30 dX1_judgeFrame_46 (by first | assumption | exact va_up_self _ _ _) rfl ?_
        refine cl_X1_judgeFrame_49 (sp_isWhole cA) (by first | assumption | exact va_up_self _ _ _) (Nat.le_of_ble_eq_true rfl) ⟨Nat.le_of_ble_eq_true rfl, Nat.le_of_ble_eq_true rfl⟩ (fun r1 g2 hq => ?_)
        obtain ⟨rfl, rfl⟩ := hq
        by_cases hc : c.1 = 0
        · rw [if_pos hc, if_neg (fun z => z.2 hc)]
          refine x_if_ne 59 dX1_judgeFrame_52 (by decide) (fun _ => ?_) (fun z => absurd z (show ¬ (1 : Int32) = 0 by decide))
          refine x_iconst 1 dX1_judgeFrame_59 (by decide) ?_
          refine x_iret rfl (by first | rfl | assumption | exact z_nb _) dX1_judgeFrame_60 (by decide) (by decide) ?_
          exact ⟨rfl, fA, sA8⟩
        · rw [if_neg hc, if_pos ⟨c42, hc⟩]
          refine x_if_ne 59 dX1_judgeFrame_52 (by decide) (fun z => absurd rfl z) (fun _ => ?_)
          refine x_sipush 1007 dX1_judgeFrame_55 (by decide) ?_
          refine x_iret rfl (by first | rfl | assumption | exact z_nb _) dX1_judgeFrame_58 (by decide) (by decide) ?_
          exact ⟨rfl, fA, sA8⟩
  · rw [z_b1 c4, if_pos rfl]
    refine x_aload_n 0 dX1_judgeFrame_7 rfl (by first | rfl | assumption) ?_
    refine gf_X1_judgeFrame_41 dX1_judgeFrame_8 (by first | assumption | exact va_up_self _ _ _) rfl ?_
    refine x_bipush 8 dX1_judgeFrame_11 (by decide) ?_
    refine x_icmp_ne 23 dX1_judgeFrame_13 (by decide) (fun c13 => ?_) (fun c13 => ?_)
    · rw [if_neg c13]
      refine x_iconst 1 dX1_judgeFrame_23 (by decide) ?_
      refine x_iret rfl (by first | rfl | assumption | exact z_nb _) dX1_judgeFrame_24 (by decide) (by decide) ?_
      exact ⟨rfl, hf, k_same.rf⟩
    · rw [if_pos c13]
      refine x_aload_n 0 dX1_judgeFrame_16 rfl (by first | rfl | assumption) ?_
      refine cl_X1_judgeFrame_17 (sp_judgeClose hf) (by first | assumption | exact va_up_self _ _ _) (Nat.le_of_ble_eq_true rfl) ⟨Nat.le_of_ble_eq_true rfl, Nat.le_of_ble_eq_true rfl⟩ (fun r1 g2 hq => ?_)
      obtain ⟨rfl, k1, k2⟩ := hq
      refine x_goto 24 dX1_judgeFrame_20 (by decide) ?_
      refine x_iret rfl (by first | rfl | assumption | exact z_nb _) dX1_judgeFrame_24 (by decide) (by decide) ?_
      exact ⟨rfl, k1, k2⟩
theorem sp_read (hf : k_frm h a aM rm rma rs rsa c1 c2 S) (b : Int32) : q_SP G mX1_read [.ref a, .int b] h 0 0 (fun o h' => o = some (.int (r_read S b).1) ∧ k_frm h' a aM rm rma rs rsa c1 c2 (r_read S b).2 ∧ k_same [a, aM, rm, rma, rs, rsa, c1, c2] h h') := by
  have ho : ∃ fs, h a = some (k_ob 1 fs) := by
    obtain ⟨pl, kd, la, uw, mkd, lsz, lrd, ln, mrd, crd, fm, msg, sc, c⟩ := S
    exact ⟨_, hf.1⟩
  obtain ⟨fs0, ho⟩ := ho
  refine q_enter (M := mX1_read) (by decide +kernel) rfl (Nat.le_of_ble_eq_true rfl) ?_
  refine x_aload_n 0 dX1_read_0 rfl (by first | rfl | assumption) ?_
  refine x_iload_n 1 dX1_read_1 rfl (by first | rfl | assumption) ?_
  refine cl_X1_read_2 (sp_readPart hf b) (by first | assumption | exact va_up_self _ _ _) (Nat.le_of_ble_eq_true rfl) ⟨Nat.le_of_ble_eq_true rfl, Nat.le_of_ble_eq_true rfl⟩ (fun r1 g1 hq => ?_)
  obtain ⟨rfl, k1, k2⟩ := hq
  unfold r_read
  generalize r_part S b = p at k1 ⊢
  obtain ⟨co, pl, kd, la, uw, mkd, lsz, lrd, ln, mrd, crd, fm, msg, sc, c⟩ := p
  dsimp only at k1 ⊢
  have o1 := k1.1
  have out : ¬ (co = 0 ∧ r_full (pl, kd, la, uw, mkd, lsz, lrd, ln, mrd, crd, fm, msg, sc, c) = true) → q_X G mX1_read (q_R mX1_read 0 0) (q_FN G (fun o h' => o = some (.int (if co = 0 ∧ r_full (pl, kd, la, uw, mkd, lsz, lrd, ln, mrd, crd, fm, msg, sc, c) = true then r_frame (r_at0 (pl, kd, la, uw, mkd, lsz, lrd, ln, mrd, crd, fm, msg, sc, c)) else (co, pl, kd, la, uw, mkd, lsz, lrd, ln, mrd, crd, fm, msg, sc, c)).1) ∧ k_frm h' a aM rm rma rs rsa c1 c2 (if co = 0 ∧ r_full (pl, kd, la, uw, mkd, lsz, lrd, ln, mrd, crd, fm, msg, sc, c) = true then r_frame (r_at0 (pl, kd, la, uw, mkd, lsz, lrd, ln, mrd, crd, fm, msg, sc, c)) else (co, pl, kd, la, uw, mkd, lsz, lrd, ln, mrd, crd, fm, msg, sc, c)).2 ∧ k_same [a, aM, rm, rma, rs, rsa, c1, c2] h h') 0 0) 41 [(0, .ref a), (1, .int b), (2, .int co)] [] g1 0 0 := by
    intro hn
    refine x_iload_n 2 dX1_read_41 rfl (by first | rfl | assumption) ?_
    refine x_iret rfl (by first | rfl | assumption | exact z_nb _) dX1_read_42 (by decide) (by decide) ?_
    rw [if_neg hn]
    exact ⟨rfl, k1, k2⟩
  refine x_istore_n 2 dX1_read_5 rfl (by decide) rfl ?_
  refine x_iload_n 2 dX1_read_6 rfl (by first | rfl | assumption) ?_
  refine x_if_ne 41 dX1_read_7 (by decide) (fun c7 => ?_) (fun c7 => ?_)
  · exact out (fun z => c7 z.1)
  · refine x_aload_n 0 dX1_read_10 rfl (by first | rfl | assumption) ?_
    refine gf_X1_read_37 dX1_read_11 (by first | assumption | exact va_up_self _ _ _) rfl ?_
    refine x_iconst 4 dX1_read_14 (by decide) ?_
    refine x_icmp_ne 41 dX1_read_15 (by decide) (fun c15 => ?_) (fun c15 => ?_)
    · exact out (fun z => by
        have z2 := z.2
        dsimp only [r_full] at z2
        rw [decide_eq_false c15] at z2
        cases z2)
    · refine x_aload_n 0 dX1_read_18 rfl (by first | rfl | assumption) ?_
      refine gf_X1_read_55 dX1_read_19 (by first | assumption | exact va_up_self _ _ _) rfl ?_
      refine x_i2l dX1_read_22 ?_
      refine x_aload_n 0 dX1_read_23 rfl (by first | rfl | assumption) ?_
      refine gf_X1_read_58 dX1_read_24 (by first | assumption | exact va_up_self _ _ _) rfl ?_
      refine x_lcmp dX1_read_27 ?_
      refine x_if_ne 41 dX1_read_28 (by decide) (fun c28 => ?_) (fun c28 => ?_)
      · exact out (fun z => by
          have z2 := z.2
          dsimp only [r_full] at z2
          rw [decide_eq_false (fun e => c28 ((lg_cmp_eq _ _).mpr e)), Bool.and_false] at z2
          cases z2)
      · have hz : co = 0 ∧ r_full (pl, kd, la, uw, mkd, lsz, lrd, ln, mrd, crd, fm, msg, sc, c) = true := by
          refine ⟨c7, ?_⟩
          dsimp only [r_full]
          rw [decide_eq_true c15, decide_eq_true ((lg_cmp_eq _ _).mp c28)]
          rfl
        rw [if_pos hz]
        refine x_aload_n 0 dX1_read_31 rfl (by first | rfl | assumption) ?_
        refine x_iconst 0 dX1_read_32 (by decide) ?_
        refine pf_X1_read_37 dX1_read_33 (by first | assumption | exact va_up_self _ _ _) (Nat.le_of_ble_eq_true rfl) ?_
        refine x_gen (fun gA oA sA => ?_)
        have fA := k1.toO sA oA
        have oA := fA.1
        refine x_aload_n 0 dX1_read_36 rfl (by first | rfl | assumption) ?_
        refine cl_X1_read_37 (sp_judgeFrame fA) (by first | assumption | exact va_up_self _ _ _) (Nat.le_of_ble_eq_true rfl) ⟨Nat.le_of_ble_eq_true rfl, Nat.le_of_ble_eq_true rfl⟩ (fun r1 g2 hq => ?_)
        obtain ⟨rfl, k3, k4⟩ := hq
        refine x_iret rfl (by first | rfl | assumption | exact z_nb _) dX1_read_40 (by decide) (by decide) ?_
        exact ⟨rfl, k3, (k2.tr (k_sub sA (by simp))).tr k4⟩
theorem sp_frameKind (hf : k_frm h a aM rm rma rs rsa c1 c2 (pl, kd, la, uw, mkd, lsz, lrd, ln, mrd, crd, fm, msg, sc, c)) : q_SP G mX1_frameKind [.ref a] h 0 0 (fun o h' => o = some (.int kd) ∧ h' = h) := by
  have ho := hf.1
  refine q_enter (M := mX1_frameKind) (by decide +kernel) rfl (Nat.le_of_ble_eq_true rfl) ?_
  refine x_aload_n 0 dX1_frameKind_0 rfl (by first | rfl | assumption) ?_
  refine gf_X1_frameKind_41 dX1_frameKind_1 (by first | assumption | exact va_up_self _ _ _) rfl ?_
  refine x_iret rfl (by first | rfl | assumption | exact z_nb _ | decide) dX1_frameKind_4 (by decide) (by decide) ?_
  exact ⟨rfl, rfl⟩
theorem sp_isLast (hf : k_frm h a aM rm rma rs rsa c1 c2 (pl, kd, la, uw, mkd, lsz, lrd, ln, mrd, crd, fm, msg, sc, c)) : q_SP G mX1_isLast [.ref a] h 0 0 (fun o h' => o = some (.int (z_b la)) ∧ h' = h) := by
  have ho := hf.1
  refine q_enter (M := mX1_isLast) (by decide +kernel) rfl (Nat.le_of_ble_eq_true rfl) ?_
  refine x_aload_n 0 dX1_isLast_0 rfl (by first | rfl | assumption) ?_
  refine gf_X1_isLast_44 dX1_isLast_1 (by first | assumption | exact va_up_self _ _ _) rfl ?_
  refine x_iret rfl (by first | rfl | assumption | exact z_nb _ | decide) dX1_isLast_4 (by decide) (by decide) ?_
  exact ⟨rfl, rfl⟩
theorem sp_messageKind (hf : k_frm h a aM rm rma rs rsa c1 c2 (pl, kd, la, uw, mkd, lsz, lrd, ln, mrd, crd, fm, msg, sc, c)) : q_SP G mX1_messageKind [.ref a] h 0 0 (fun o h' => o = some (.int mkd) ∧ h' = h) := by
  have ho := hf.1
  refine q_enter (M := mX1_messageKind) (by decide +kernel) rfl (Nat.le_of_ble_eq_true rfl) ?_
  refine x_aload_n 0 dX1_messageKind_0 rfl (by first | rfl | assumption) ?_
  refine gf_X1_messageKind_48 dX1_messageKind_1 (by first | assumption | exact va_up_self _ _ _) rfl ?_
  refine x_iret rfl (by first | rfl | assumption | exact z_nb _ | decide) dX1_messageKind_4 (by decide) (by decide) ?_
  exact ⟨rfl, rfl⟩
theorem sp_message (hf : k_frm h a aM rm rma rs rsa c1 c2 (pl, kd, la, uw, mkd, lsz, lrd, ln, mrd, crd, fm, msg, sc, c)) : q_SP G mX1_message [.ref a] h 0 0 (fun o h' => o = some (.ref rm) ∧ h' = h) := by
  have ho := hf.1
  refine q_enter (M := mX1_message) (by decide +kernel) rfl (Nat.le_of_ble_eq_true rfl) ?_
  refine x_aload_n 0 dX1_message_0 rfl (by first | rfl | assumption) ?_
  refine gf_X1_message_20 dX1_message_1 (by first | assumption | exact va_up_self _ _ _) rfl ?_
  refine x_aret rfl dX1_message_4 (by decide) (by decide) ?_
  exact ⟨rfl, rfl⟩
theorem sp_shortContent (hf : k_frm h a aM rm rma rs rsa c1 c2 (pl, kd, la, uw, mkd, lsz, lrd, ln, mrd, crd, fm, msg, sc, c)) : q_SP G mX1_shortContent [.ref a] h 0 0 (fun o h' => o = some (.ref rs) ∧ h' = h) := by
  have ho := hf.1
  refine q_enter (M := mX1_shortContent) (by decide +kernel) rfl (Nat.le_of_ble_eq_true rfl) ?_
  refine x_aload_n 0 dX1_shortContent_0 rfl (by first | rfl | assumption) ?_
  refine gf_X1_shortContent_24 dX1_shortContent_1 (by first | assumption | exact va_up_self _ _ _) rfl ?_
  refine x_aret rfl dX1_shortContent_4 (by decide) (by decide) ?_
  exact ⟨rfl, rfl⟩
end FrmD
