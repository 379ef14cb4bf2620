/-! FramedTalk: the request's bytes; feed -/
section TlkE
variable {G : q_G} {h : q_H} {A : Nat → Nat} {st ec dl pg : Int32} {rq out dr : List Int32} {R : z_R} {w : List z_Ms}
theorem z_comp_4 {l : List Int32} (hc : z_comp l = true) : 4 ≤ l.length := by
  unfold z_comp at hc
  rw [Bool.and_eq_true] at hc
  exact of_decide_eq_true hc.1
theorem sp_hearRequest (ht : k_tlk h A (st, ec, dl, pg, rq, out, dr, R, w)) (hst : st = 0) (hrq : rq.length < 400) (hN : out.length ≤ 400) (b : Int32) : q_SP G mX6_hearRequest [.ref (A 0), .int b] h 5 218 (fun o h' => o = none ∧ k_tlk h' A (t_ask (st, ec, dl, pg, rq, out, dr, R, w) b) ∧ k_ext (k_cells A) h h') := by
  have hA := ht.1
  have o1 := ht.2.1
  obtain ⟨sn, ss, es, hq, hf⟩ := ht.2.2.1
  have oR := hq.1
  have hf := hf hst
  dsimp only [t_ask]
  refine q_enter (M := mX6_hearRequest) (by decide +kernel) rfl (Nat.le_of_ble_eq_true rfl) ?_
  refine x_aload_n 0 dX6_hearRequest_0 rfl (by first | rfl | assumption) ?_
  refine gf_X6_hearRequest_12 dX6_hearRequest_1 (by first | assumption | exact va_up_self _ _ _) rfl ?_
  refine x_iload_n 1 dX6_hearRequest_4 rfl (by first | rfl | assumption) ?_
  refine cl_X6_hearRequest_5 (sp_gather hq b hrq) (by first | assumption | exact va_up_self _ _ _) (Nat.le_of_ble_eq_true rfl) ⟨Nat.le_of_ble_eq_true rfl, Nat.le_of_ble_eq_true rfl⟩ (fun r g1 hz => ?_)
  obtain ⟨rfl, hq1, s1⟩ := hz
  have s1 : k_same [A 1, A 2, A 3, A 4, A 5, A 6] h g1 := s1.mono (by intro x hx; simp at hx ⊢; rcases hx with hx | hx <;> simp [hx])
  have t1 := ht.toRq hq1 (fun _ => hf) s1
  have x1 : k_ext (k_cells A) h g1 := k_ext.of (s1.mono (k_sub24 (I := [1, 2, 3, 4, 5, 6]) (by decide)))
  have o1 := t1.2.1
  have oR := hq1.1
  refine x_aload_n 0 dX6_hearRequest_8 rfl (by first | rfl | assumption) ?_
  refine gf_X6_hearRequest_12 dX6_hearRequest_9 (by first | assumption | exact va_up_self _ _ _) rfl ?_
  refine cl_X6_hearRequest_12 (sp_isComplete hq1) (by first | assumption | exact va_up_self _ _ _) (Nat.le_of_ble_eq_true rfl) ⟨Nat.le_of_ble_eq_true rfl, Nat.le_of_ble_eq_true rfl⟩ (fun r g hz => ?_)
  obtain ⟨rfl, rfl⟩ := hz
  cases hc : z_comp (rq ++ [b]) with
  | true =>
    rw [if_pos rfl]
    refine x_if_eq 32 dX6_hearRequest_15 (by decide) (fun z => absurd z (by decide)) (fun _ => ?_)
    refine x_aload_n 0 dX6_hearRequest_18 rfl (by first | rfl | assumption) ?_
    refine x_aload_n 0 dX6_hearRequest_19 rfl (by first | rfl | assumption) ?_
    refine gf_X6_hearRequest_12 dX6_hearRequest_20 (by first | assumption | exact va_up_self _ _ _) rfl ?_
    refine cl_X6_hearRequest_23 (sp_judge hq1 (k_flds0 hf) (z_comp_4 hc)) (by first | assumption | exact va_up_self _ _ _) (Nat.le_of_ble_eq_true rfl) ⟨Nat.le_of_ble_eq_true rfl, Nat.le_of_ble_eq_true rfl⟩ (fun r g2 hz => ?_)
    obtain ⟨rfl, s2, sn2, ss2, es2, hq2, hj⟩ := hz
    obtain ⟨hA, o1, -, hR, hw, hout, hdr, cc, hcc⟩ := t1
    have e : ∀ i, (i < 24 ∧ i ∉ [4, 5, 6]) → g2 (A i) = g (A i) := fun i hi => s2 _ (hA.no (I := [4, 5, 6]) ⟨hi, by decide⟩)
    have k2 : k_tlr g2 A sn2 ss2 es2 (st, ec, dl, pg, rq ++ [b], out, dr, R, w) := ⟨hA, (e 0 (by decide)).trans o1, hq2, hR.cg (e 7 (by decide)) (e 8 (by decide)) (e 9 (by decide)) (e 10 (by decide)) (e 11 (by decide)) (e 12 (by decide)) (e 13 (by decide)) (e 14 (by decide)), hw.cg (e 15 (by decide)) (e 16 (by decide)) (e 17 (by decide)) (e 18 (by decide)), hout.cg (e 19 (by decide)) (e 20 (by decide)), hdr.cg (e 21 (by decide)) (e 22 (by decide)), cc, (e 23 (by decide)).trans hcc⟩
    have x2 : k_ext (k_cells A) h g2 := x1.tr (k_ext.of (s2.mono (k_sub24 (I := [4, 5, 6]) (by decide))))
    have o1 := k2.2.1
    refine cl_X6_hearRequest_26 (sp_answer k2 _ hj hN) (by first | assumption | exact va_up_self _ _ _) (Nat.le_of_ble_eq_true rfl) ⟨Nat.le_of_ble_eq_true rfl, Nat.le_of_ble_eq_true rfl⟩ (fun r g3 hz => ?_)
    obtain ⟨rfl, t3, x3⟩ := hz
    refine x_goto 47 dX6_hearRequest_29 (by decide) ?_
    refine x_vret rfl dX6_hearRequest_47 (by decide) (by decide) ?_
    exact ⟨rfl, t3, x2.tr x3⟩
  | false =>
    rw [if_neg (by decide)]
    refine x_if_eq 32 dX6_hearRequest_15 (by decide) (fun _ => ?_) (fun z => absurd (by decide) z)
    refine x_aload_n 0 dX6_hearRequest_32 rfl (by first | rfl | assumption) ?_
    refine gf_X6_hearRequest_12 dX6_hearRequest_33 (by first | assumption | exact va_up_self _ _ _) rfl ?_
    refine cl_X6_hearRequest_36 (sp_isAtLimit hq1) (by first | assumption | exact va_up_self _ _ _) (Nat.le_of_ble_eq_true rfl) ⟨Nat.le_of_ble_eq_true rfl, Nat.le_of_ble_eq_true rfl⟩ (fun r g2 hz => ?_)
    obtain ⟨rfl, rfl⟩ := hz
    by_cases h4 : (rq ++ [b]).length = 400
    · rw [if_pos h4, decide_eq_true h4]
      refine x_if_eq 47 dX6_hearRequest_39 (by decide) (fun z => absurd z (by decide)) (fun _ => ?_)
      refine x_aload_n 0 dX6_hearRequest_42 rfl (by first | rfl | assumption) ?_
      refine x_iconst 0 dX6_hearRequest_43 (by decide) ?_
      refine cl_X6_hearRequest_44 (sp_answer (o := none) (sn := sn) (ss := ss) (es := es) ⟨hA, t1.2.1, hq1, t1.2.2.2⟩ (fun v p z => by cases z) hN) (by first | assumption | exact va_up_self _ _ _) (Nat.le_of_ble_eq_true rfl) ⟨Nat.le_of_ble_eq_true rfl, Nat.le_of_ble_eq_true rfl⟩ (fun r g3 hz => ?_)
      obtain ⟨rfl, t3, x3⟩ := hz
      refine x_vret rfl dX6_hearRequest_47 (by decide) (by decide) ?_
      exact ⟨rfl, t3, x1.tr x3⟩
    · rw [if_neg h4, decide_eq_false h4]
      refine x_if_eq 47 dX6_hearRequest_39 (by decide) (fun _ => ?_) (fun z => absurd (by decide) z)
      refine x_vret rfl dX6_hearRequest_47 (by decide) (by decide) ?_
      exact ⟨rfl, t1, x1⟩
/-- byte i of a word -/
def t_b (W : Int64) (i : Int32) : Int32 := (W.toUInt64 >>> ((8 * i).toInt64.toUInt64 &&& 63)).toInt64.toInt32 &&& 255
theorem sp_byteOf (W : Int64) (i : Int32) : q_SP G mX6_byteOf [.long W, .int i] h 0 0 (fun o h' => o = some (.int (t_b W i)) ∧ h' = h) := by
  refine q_enter (M := mX6_byteOf) (by decide +kernel) rfl (Nat.le_of_ble_eq_true rfl) ?_
  refine x_lload_n 0 dX6_byteOf_0 rfl (by first | rfl | assumption) ?_
  refine x_bipush 8 dX6_byteOf_1 (by decide) ?_
  refine x_iload_n 2 dX6_byteOf_3 rfl (by first | rfl | assumption) ?_
  refine x_imul dX6_byteOf_4 ?_
  refine x_lushr dX6_byteOf_5 ?_
  refine x_l2i dX6_byteOf_6 ?_
  refine x_sipush 255 dX6_byteOf_7 (by decide) ?_
  refine x_iand dX6_byteOf_10 ?_
  refine x_iret rfl (by first | rfl | assumption | exact z_nb _ | decide) dX6_byteOf_11 (by decide) (by decide) ?_
  exact ⟨rfl, rfl⟩
def t_cnt (n : Int32) : Bool := !decide (n < 1) && !decide (8 < n)
theorem sp_isByteCount (n : Int32) : q_SP G mX6_isByteCount [.int n] h 0 0 (fun o h' => o = some (.int (z_b (t_cnt n))) ∧ h' = h) := by
  refine q_enter (M := mX6_isByteCount) (by decide +kernel) rfl (Nat.le_of_ble_eq_true rfl) ?_
  refine x_iload_n 0 dX6_isByteCount_0 rfl (by first | rfl | assumption) ?_
  refine x_iconst 1 dX6_isByteCount_1 (by decide) ?_
  refine x_icmp_lt 15 dX6_isByteCount_2 (by decide) (fun c2 => ?_) (fun c2 => ?_)
  · refine x_iconst 0 dX6_isByteCount_15 (by decide) ?_
    refine x_iret rfl (by first | rfl | assumption | exact z_nb _ | decide) dX6_isByteCount_16 (by decide) (by decide) ?_
    exact ⟨by simp [t_cnt, z_b, *], rfl⟩
  · refine x_iload_n 0 dX6_isByteCount_5 rfl (by first | rfl | assumption) ?_
    refine x_bipush 8 dX6_isByteCount_6 (by decide) ?_
    refine x_icmp_gt 15 dX6_isByteCount_8 (by decide) (fun c8 => ?_) (fun c8 => ?_)
    · refine x_iconst 0 dX6_isByteCount_15 (by decide) ?_
      refine x_iret rfl (by first | rfl | assumption | exact z_nb _ | decide) dX6_isByteCount_16 (by decide) (by decide) ?_
      exact ⟨by simp [t_cnt, z_b, *], rfl⟩
    · refine x_iconst 1 dX6_isByteCount_11 (by decide) ?_
      refine x_goto 16 dX6_isByteCount_12 (by decide) ?_
      refine x_iret rfl (by first | rfl | assumption | exact z_nb _ | decide) dX6_isByteCount_16 (by decide) (by decide) ?_
      exact ⟨by simp [t_cnt, z_b, *], rfl⟩
end TlkE
