/-! FramedTalk: the request is answered -/
section TlkD
variable {G : q_G} {h : q_H} {A : Nat → Nat} {st ec dl pg : Int32} {rq out dr : List Int32} {R : z_R} {w : List z_Ms} {sn ss es : Nat → Int32}
def k_tlr (h : q_H) (A : Nat → Nat) (sn ss es : Nat → Int32) : z_S → Prop
  | (st, ec, dl, pg, rq, out, dr, R, w) => k_inj A ∧ h (A 0) = some (k_ob 6 [.ref (A 1), .ref (A 7), .ref (A 15), .ref (A 19), .ref (A 21), .ref (A 23), .int st, .int ec, .int dl, .int pg])
    ∧ k_req h (A 1) (A 2) (A 3) (A 4) (A 5) (A 6) rq sn ss es
    ∧ k_frm h (A 7) (A 8) (A 9) (A 10) (A 11) (A 12) (A 13) (A 14) R ∧ k_wait h (A 15) (A 16) (A 17) (A 18) w
    ∧ k_row h (A 19) (A 20) 574 out ∧ k_row h (A 21) (A 22) 100 dr ∧ ∃ c, k_chk h (A 23) c
theorem k_tlr.tlk (ht : k_tlr h A sn ss es (st, ec, dl, pg, rq, out, dr, R, w)) (hs : st = 0 → k_flds 0 0 (fun _ => (0, 0, 0)) sn ss es) : k_tlk h A (st, ec, dl, pg, rq, out, dr, R, w) := by
  obtain ⟨hA, ho, hq, hR⟩ := ht
  exact ⟨hA, ho, ⟨sn, ss, es, hq, hs⟩, hR⟩
theorem k_tlr.mv {h1 : q_H} {st' : Int32} {out' : List Int32} (ht : k_tlr h A sn ss es (st, ec, dl, pg, rq, out, dr, R, w)) (e : ∀ i, (i < 24 ∧ i ∉ [0, 19, 20]) → h1 (A i) = h (A i)) (h0 : h1 (A 0) = some (k_ob 6 [.ref (A 1), .ref (A 7), .ref (A 15), .ref (A 19), .ref (A 21), .ref (A 23), .int st', .int ec, .int dl, .int pg])) (h2 : k_row h1 (A 19) (A 20) 574 out') : k_tlr h1 A sn ss es (st', ec, dl, pg, rq, out', dr, R, w) := by
  obtain ⟨hA, ho, hq, hR, hw, hout, hdr, c, hc⟩ := ht
  exact ⟨hA, h0, hq.cg (e 1 (by decide)) (e 2 (by decide)) (e 3 (by decide)) (e 4 (by decide)) (e 5 (by decide)) (e 6 (by decide)), hR.cg (e 7 (by decide)) (e 8 (by decide)) (e 9 (by decide)) (e 10 (by decide)) (e 11 (by decide)) (e 12 (by decide)) (e 13 (by decide)) (e 14 (by decide)), hw.cg (e 15 (by decide)) (e 16 (by decide)) (e 17 (by decide)) (e 18 (by decide)), h2, hdr.cg (e 21 (by decide)) (e 22 (by decide)), c, (e 23 (by decide)).trans hc⟩
theorem k_tlr.al {σ : z_S} (ht : k_tlr h A sn ss es σ) : ∀ i, i < 24 → h (A i) ≠ none := by
  obtain ⟨st, ec, dl, pg, rq, out, dr, R, w⟩ := σ
  obtain ⟨pl, kd, la, uw, mkd, lsz, lrd, ln, mrd, crd, fm, msg, sc, c⟩ := R
  obtain ⟨hA, ho, ⟨a1, ⟨f2, a2, a3, -⟩, a4, a5, a6, -⟩, ⟨a7, a8, ⟨f9, a9, a10, -⟩, ⟨f11, a11, a12, -⟩, a13, ⟨cr, a14⟩, -⟩, ⟨o, fc, fk, fl, a15, a16, a17, a18, -⟩, ⟨f19, a19, a20, -⟩, ⟨f21, a21, a22, -⟩, c, a23⟩ := ht
  intro i hi
  have all : i = 0 ∨ i = 1 ∨ i = 2 ∨ i = 3 ∨ i = 4 ∨ i = 5 ∨ i = 6 ∨ i = 7 ∨ i = 8 ∨ i = 9 ∨ i = 10 ∨ i = 11 ∨ i = 12 ∨ i = 13 ∨ i = 14 ∨ i = 15 ∨ i = 16 ∨ i = 17 ∨ i = 18 ∨ i = 19 ∨ i = 20 ∨ i = 21 ∨ i = 22 ∨ i = 23 := by omega
  rcases all with rfl | rfl | rfl | rfl | rfl | rfl | rfl | rfl | rfl | rfl | rfl | rfl | rfl | rfl | rfl | rfl | rfl | rfl | rfl | rfl | rfl | rfl | rfl | rfl
  · exact k_so ho
  · exact k_so a1
  · exact k_so a2
  · exact k_so a3
  · exact k_so a4
  · exact k_so a5
  · exact k_so a6
  · exact k_so a7
  · exact k_so a8
  · exact k_so a9
  · exact k_so a10
  · exact k_so a11
  · exact k_so a12
  · exact k_so a13
  · exact k_so a14
  · exact k_so a15
  · exact k_so a16
  · exact k_so a17
  · exact k_so a18
  · exact k_so a19
  · exact k_so a20
  · exact k_so a21
  · exact k_so a22
  · exact k_so a23
theorem k_tlk.al {σ : z_S} (ht : k_tlk h A σ) : ∀ i, i < 24 → h (A i) ≠ none := by
  obtain ⟨st, ec, dl, pg, rq, out, dr, R, w⟩ := σ
  obtain ⟨hA, ho, ⟨sn, ss, es, hq, -⟩, hR⟩ := ht
  exact k_tlr.al (sn := sn) (ss := ss) (es := es) (σ := (st, ec, dl, pg, rq, out, dr, R, w)) ⟨hA, ho, hq, hR⟩
theorem d_proof_len (k : List Int32) : (d_proof k).length = 28 := d_b64_len _
theorem k_row.o {r ra N : Nat} {l : List Int32} (hr : k_row h r ra N l) : h r = some (k_ob 0 [.ref ra, .int (nI l.length)]) := by
  obtain ⟨f, e, -⟩ := hr
  exact e
theorem sp_answer (ht : k_tlr h A sn ss es (st, ec, dl, pg, rq, out, dr, R, w)) (o : Option (Bool × Nat)) (ho : ∀ v p, o = some (v, p) → ss 3 = nI p ∧ es 3 = nI (p + 24) ∧ p + 24 ≤ rq.length) (hN : out.length ≤ 400) : q_SP G mX6_answerRequest [.ref (A 0), .int (z_verdict o)] h 5 218 (fun r h' => r = none ∧ k_tlk h' A (t_answer (st, ec, dl, pg, rq, out, dr, R, w) o) ∧ k_ext (k_cells A) h h') := by
  have hA := ht.1
  have o1 := ht.2.1
  have ro := ht.2.2.2.2.2.1
  have q1 := ro.o
  have al := ht.al
  have n0 : A 0 ∉ [A 19, A 20] := hA.no (I := [19, 20]) (by decide)
  have n19 : A 19 ∉ [A 0] := hA.no (I := [0]) (by decide)
  have n20 : A 20 ∉ [A 0] := hA.no (I := [0]) (by decide)
  have hkey : ∀ p, p + 24 ≤ rq.length → ((rq.drop p).take 24).length = 24 := fun p hp => by rw [List.length_take, List.length_drop]; omega
  match o, ho with
  | some (true, p), ho =>
    obtain ⟨h3, h4, h5⟩ := ho true p rfl
    refine q_enter (M := mX6_answerRequest) (by decide +kernel) rfl (Nat.le_of_ble_eq_true rfl) ?_
    refine x_iload_n 1 dX6_answerRequest_0 rfl (by first | rfl | assumption) ?_
    refine x_iconst 2 dX6_answerRequest_1 (by decide) ?_
    refine x_icmp_ne 51 dX6_answerRequest_2 (by decide) (fun z => absurd (show (z_verdict (some (true, p))) = 2 from rfl) z) (fun _ => ?_)
    refine x_aload_n 0 dX6_answerRequest_5 rfl (by first | rfl | assumption) ?_
    refine gf_X6_answerRequest_35 dX6_answerRequest_6 (by first | assumption | exact va_up_self _ _ _) rfl ?_
    refine ks_X6_answerRequest_168 dX6_answerRequest_9 ?_
    refine cl_X6_answerRequest_11 (sp_addText (i := 10) (by decide) ro (show _ + 97 ≤ _ by omega)) (by first | assumption | exact va_up_self _ _ _) (Nat.le_of_ble_eq_true rfl) ⟨Nat.le_of_ble_eq_true rfl, Nat.le_of_ble_eq_true rfl⟩ (fun r0 g1 hq => ?_)
    obtain ⟨rfl, r1, s1⟩ := hq
    refine nw_X6_answerRequest_14 (by decide) (by decide) (fun q hq => ?_)
    have e1 : ∀ i, (i < 24 ∧ i ∉ [19, 20]) → g1 (A i) = h (A i) := fun i hi => s1 _ (hA.no (I := [19, 20]) ⟨hi, by decide⟩)
    have o1 : g1 (A 0) = _ := (e1 0 (by decide)).trans o1
    have k1 := ht.mv (fun i hi => e1 i ⟨hi.1, fun z => hi.2 (List.mem_cons_of_mem _ z)⟩) o1 r1
    have nq : ∀ i, i < 24 → A i ≠ q := fun i hi z => k1.al i hi (by rw [z]; exact hq)
    refine x_gen (fun g2 o2 s2 => ?_)
    have e2 : ∀ i, i < 24 → g2 (A i) = g1 (A i) := fun i hi => s2 _ (by simp [nq i hi])
    have k2 := k1.mv (fun i hi => e2 i hi.1) ((e2 0 (by decide)).trans o1) (r1.cg (e2 19 (by decide)) (e2 20 (by decide)))
    refine x_dup dX6_answerRequest_17 rfl ?_
    refine cl_X6_answerRequest_18 (sp_prfInit o2) (Nat.le_of_ble_eq_true rfl) ⟨Nat.le_of_ble_eq_true rfl, Nat.le_of_ble_eq_true rfl⟩ (fun r0 g3 hz => ?_)
    obtain ⟨rfl, rb, ra, aW, aH, fw, fh, hp, hn, ex⟩ := hz
    have e3 : ∀ i, i < 24 → g3 (A i) = g2 (A i) := fun i hi => ex _ (by simp [nq i hi]) (k2.al i hi)
    have k3 := k2.mv (fun i hi => e3 i hi.1) ((e3 0 (by decide)).trans k2.2.1) (k2.2.2.2.2.2.1.cg (e3 19 (by decide)) (e3 20 (by decide)))
    have nn : ∀ x ∈ [q, rb, ra, aW, aH], ∀ i, i < 24 → A i ≠ x := by
      intro x hx i hi z
      rcases List.mem_cons.mp hx with hx | hx
      · exact nq i hi (z.trans hx)
      · exact k2.al i hi (by rw [z]; exact hn x hx)
    have oP := hp.1
    have oR := k3.2.2.1.1
    have o1 := k3.2.1
    refine x_astore_n 2 dX6_answerRequest_21 rfl (by decide) rfl ?_
    refine x_aload_n 2 dX6_answerRequest_22 rfl (by first | rfl | assumption) ?_
    refine x_aload_n 0 dX6_answerRequest_23 rfl (by first | rfl | assumption) ?_
    refine gf_X6_answerRequest_35 dX6_answerRequest_24 (by first | assumption | exact va_up_self _ _ _) rfl ?_
    refine x_aload_n 0 dX6_answerRequest_27 rfl (by first | rfl | assumption) ?_
    refine gf_X6_answerRequest_12 dX6_answerRequest_28 (by first | assumption | exact va_up_self _ _ _) rfl ?_
    have m1 : ∀ x ∈ [q, rb, ra, aW, aH], x ∉ [A 19, A 20] := fun x hx hy => by
      rcases List.mem_cons.mp hy with hy | hy
      · exact nn x hx 19 (by decide) hy.symm
      · exact nn x hx 20 (by decide) (List.mem_singleton.mp hy).symm
    have m2 : A 2 ∉ [rb, ra] ∧ A 3 ∉ [rb, ra] := ⟨fun z => nn (A 2) (List.mem_cons_of_mem _ (List.mem_append_left [aW, aH] z)) 2 (by decide) rfl, fun z => nn (A 3) (List.mem_cons_of_mem _ (List.mem_append_left [aW, aH] z)) 3 (by decide) rfl⟩
    refine cl_X6_answerRequest_31 (sp_putInto hp k3.2.2.1 k3.2.2.2.2.2.1 h3 h4 h5 (by rw [List.length_append]; show _ + 97 + 28 ≤ _; omega) m1 m2) (by first | assumption | exact va_up_self _ _ _) (Nat.le_of_ble_eq_true rfl) ⟨Nat.le_of_ble_eq_true rfl, Nat.le_of_ble_eq_true rfl⟩ (fun r0 g4 hz => ?_)
    · obtain ⟨rfl, r4, s4⟩ := hz
      have e4 : ∀ i, (i < 24 ∧ i ∉ [19, 20]) → g4 (A i) = g3 (A i) := fun i hi => s4 _ (fun z => by
        rcases List.mem_append.mp (show A i ∈ [q, rb, ra, aW, aH] ++ [A 19, A 20] from z) with z | z
        · exact nn _ z i hi.1 rfl
        · exact hA.no (I := [19, 20]) ⟨hi, by decide⟩ z)
      have k4 := k3.mv (fun i hi => e4 i ⟨hi.1, fun z => hi.2 (List.mem_cons_of_mem _ z)⟩) ((e4 0 (by decide)).trans k3.2.1) r4
      have o1 := k4.2.1
      have q4 := r4.o
      refine x_aload_n 0 dX6_answerRequest_34 rfl (by first | rfl | assumption) ?_
      refine gf_X6_answerRequest_35 dX6_answerRequest_35 (by first | assumption | exact va_up_self _ _ _) rfl ?_
      refine ks_X6_answerRequest_181 dX6_answerRequest_38 ?_
      refine cl_X6_answerRequest_40 (sp_addText (i := 13) (by decide) r4 (by rw [List.length_append, List.length_append, d_proof_len]; show _ + 97 + 28 + 4 ≤ _; omega)) (by first | assumption | exact va_up_self _ _ _) (Nat.le_of_ble_eq_true rfl) ⟨Nat.le_of_ble_eq_true rfl, Nat.le_of_ble_eq_true rfl⟩ (fun r0 g5 hz => ?_)
      obtain ⟨rfl, r5, s5⟩ := hz
      have o1 : g5 (A 0) = _ := (s5 _ n0).trans o1
      refine x_aload_n 0 dX6_answerRequest_43 rfl (by first | rfl | assumption) ?_
      refine x_iconst 1 dX6_answerRequest_44 (by decide) ?_
      refine pf_X6_answerRequest_49 dX6_answerRequest_45 (by first | assumption | exact va_up_self _ _ _) (Nat.le_of_ble_eq_true rfl) ?_
      refine x_gen (fun g6 o6 s6 => ?_)
      refine x_goto 75 dX6_answerRequest_48 (by decide) ?_
      refine x_vret rfl dX6_answerRequest_75 (by decide) (by decide) ?_
      refine ⟨rfl, ?_, ?_⟩
      · refine k_tlr.tlk (sn := sn) (ss := ss) (es := es) (k4.mv (fun i hi => ?_) o6 (r5.kept s6 n19 n20)) (fun z => absurd z (by decide))
        exact (s6 _ (hA.no (I := [0]) ⟨⟨hi.1, fun z => hi.2 (by simp at z; simp [z])⟩, by decide⟩)).trans (s5 _ (hA.no (I := [19, 20]) ⟨⟨hi.1, fun z => hi.2 (List.mem_cons_of_mem _ z)⟩, by decide⟩))
      · intro x hx hnx
        have hi : ∀ i, i < 24 → x ≠ A i := fun i hi z => hx (List.mem_map.mpr ⟨i, List.mem_range.mpr hi, z.symm⟩)
        have m19 : x ∉ [A 19, A 20] := by simp [hi 19 (by decide), hi 20 (by decide)]
        have y1 := s1 x m19
        have xq : x ≠ q := fun z => hnx (by rw [← y1, z]; exact hq)
        have y2 := s2 x (by simp [xq])
        have z2 : g2 x ≠ none := by rw [y2, y1]; exact hnx
        have y3 := ex x (by simp [xq]) z2
        have y4 := s4 x (fun z => by
          rcases List.mem_append.mp (show x ∈ [q, rb, ra, aW, aH] ++ [A 19, A 20] from z) with z | z
          · rcases List.mem_cons.mp z with z | z
            · exact xq z
            · exact z2 (hn x z)
          · exact m19 z)
        rw [s6 x (by simp [hi 0 (by decide)]), s5 x m19, y4, y3, y2, y1]
  | some (false, p), ho =>
    refine q_enter (M := mX6_answerRequest) (by decide +kernel) rfl (Nat.le_of_ble_eq_true rfl) ?_
    refine x_iload_n 1 dX6_answerRequest_0 rfl (by first | rfl | assumption) ?_
    refine x_iconst 2 dX6_answerRequest_1 (by decide) ?_
    refine x_icmp_ne 51 dX6_answerRequest_2 (by decide) (fun _ => ?_) (fun z => absurd z (show ¬ ((1 : Int32) = 2) from by decide))
    refine x_aload_n 0 dX6_answerRequest_51 rfl (by first | rfl | assumption) ?_
    refine gf_X6_answerRequest_35 dX6_answerRequest_52 (by first | assumption | exact va_up_self _ _ _) rfl ?_
    refine x_iload_n 1 dX6_answerRequest_55 rfl (by first | rfl | assumption) ?_
    refine x_iconst 1 dX6_answerRequest_56 (by decide) ?_
    refine x_icmp_ne 65 dX6_answerRequest_57 (by decide) (fun z => absurd (show (z_verdict (some (false, p))) = 1 from rfl) z) (fun _ => ?_)
    refine ks_X6_answerRequest_183 dX6_answerRequest_60 ?_
    refine x_goto 67 dX6_answerRequest_62 (by decide) ?_
    refine cl_X6_answerRequest_67 (sp_addText (i := 14) (by decide) ro (show _ + 60 ≤ _ by omega)) (by first | assumption | exact va_up_self _ _ _) (Nat.le_of_ble_eq_true rfl) ⟨Nat.le_of_ble_eq_true rfl, Nat.le_of_ble_eq_true rfl⟩ (fun r0 g1 hq => ?_)
    obtain ⟨rfl, r1, s1⟩ := hq
    have o1 : g1 (A 0) = _ := (s1 _ n0).trans o1
    refine x_aload_n 0 dX6_answerRequest_70 rfl (by first | rfl | assumption) ?_
    refine x_iconst 3 dX6_answerRequest_71 (by decide) ?_
    refine pf_X6_answerRequest_49 dX6_answerRequest_72 (by first | assumption | exact va_up_self _ _ _) (Nat.le_of_ble_eq_true rfl) ?_
    refine x_gen (fun g6 o6 s6 => ?_)
    refine x_vret rfl dX6_answerRequest_75 (by decide) (by decide) ?_
    refine ⟨rfl, ?_, ?_⟩
    · refine k_tlr.tlk (sn := sn) (ss := ss) (es := es) (ht.mv (fun i hi => ?_) o6 (r1.kept s6 n19 n20)) (fun z => absurd z (by decide))
      exact (s6 _ (hA.no (I := [0]) ⟨⟨hi.1, fun z => hi.2 (by simp at z; simp [z])⟩, by decide⟩)).trans (s1 _ (hA.no (I := [19, 20]) ⟨⟨hi.1, fun z => hi.2 (List.mem_cons_of_mem _ z)⟩, by decide⟩))
    · exact k_ext.of ((s1.mono (k_sub24 (I := [19, 20]) (by decide))).tr (k_same.mono s6 (k_sub24 (I := [0]) (by decide))))
  | none, ho =>
    refine q_enter (M := mX6_answerRequest) (by decide +kernel) rfl (Nat.le_of_ble_eq_true rfl) ?_
    refine x_iload_n 1 dX6_answerRequest_0 rfl (by first | rfl | assumption) ?_
    refine x_iconst 2 dX6_answerRequest_1 (by decide) ?_
    refine x_icmp_ne 51 dX6_answerRequest_2 (by decide) (fun _ => ?_) (fun z => absurd z (show ¬ (z_verdict none) = 2 from by decide))
    refine x_aload_n 0 dX6_answerRequest_51 rfl (by first | rfl | assumption) ?_
    refine gf_X6_answerRequest_35 dX6_answerRequest_52 (by first | assumption | exact va_up_self _ _ _) rfl ?_
    refine x_iload_n 1 dX6_answerRequest_55 rfl (by first | rfl | assumption) ?_
    refine x_iconst 1 dX6_answerRequest_56 (by decide) ?_
    refine x_icmp_ne 65 dX6_answerRequest_57 (by decide) (fun _ => ?_) (fun z => absurd z (show ¬ (z_verdict none) = 1 from by decide))
    refine ks_X6_answerRequest_185 dX6_answerRequest_65 ?_
    refine cl_X6_answerRequest_67 (sp_addText (i := 15) (by decide) ro (show _ + 28 ≤ _ by omega)) (by first | assumption | exact va_up_self _ _ _) (Nat.le_of_ble_eq_true rfl) ⟨Nat.le_of_ble_eq_true rfl, Nat.le_of_ble_eq_true rfl⟩ (fun r0 g1 hq => ?_)
    obtain ⟨rfl, r1, s1⟩ := hq
    have o1 : g1 (A 0) = _ := (s1 _ n0).trans o1
    refine x_aload_n 0 dX6_answerRequest_70 rfl (by first | rfl | assumption) ?_
    refine x_iconst 3 dX6_answerRequest_71 (by decide) ?_
    refine pf_X6_answerRequest_49 dX6_answerRequest_72 (by first | assumption | exact va_up_self _ _ _) (Nat.le_of_ble_eq_true rfl) ?_
    refine x_gen (fun g6 o6 s6 => ?_)
    refine x_vret rfl dX6_answerRequest_75 (by decide) (by decide) ?_
    refine ⟨rfl, ?_, ?_⟩
    · refine k_tlr.tlk (sn := sn) (ss := ss) (es := es) (ht.mv (fun i hi => ?_) o6 (r1.kept s6 n19 n20)) (fun z => absurd z (by decide))
      exact (s6 _ (hA.no (I := [0]) ⟨⟨hi.1, fun z => hi.2 (by simp at z; simp [z])⟩, by decide⟩)).trans (s1 _ (hA.no (I := [19, 20]) ⟨⟨hi.1, fun z => hi.2 (List.mem_cons_of_mem _ z)⟩, by decide⟩))
    · exact k_ext.of ((s1.mono (k_sub24 (I := [19, 20]) (by decide))).tr (k_same.mono s6 (k_sub24 (I := [0]) (by decide))))
end TlkD
