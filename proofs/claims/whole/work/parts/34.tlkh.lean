/-! FramedTalk: drop, write, clear, send, ping, close -/
section TlkH
variable {G : q_G} {h : q_H} {A : Nat → Nat} {st ec dl pg : Int32} {rq out dr : List Int32} {R : z_R} {w : List z_Ms}
def t_mayDrop (n : Nat) (i : Int32) : Bool := !decide (i < 0) && decide (i ≤ nI n)
theorem t_mayDrop_if {n : Nat} {i : Int32} : (if ¬ i < 0 ∧ i ≤ nI n then (1 : Int32) else 0) = z_b (t_mayDrop n i) := by
  unfold t_mayDrop
  by_cases h1 : i < 0
  · simp [h1, z_b]
  · by_cases h2 : i ≤ nI n
    · simp [h1, h2, z_b]
    · simp [h1, h2, z_b]
def a_drop : z_S → Int32 → Bool × z_S
  | (st, ec, dl, pg, rq, out, dr, R, w), n => if t_mayDrop out.length n then (true, (st, ec, dl, pg, rq, out.drop n.toNatClampNeg, dr, R, w)) else (false, (st, ec, dl, pg, rq, out, dr, R, w))
/-- n bytes of a word -/
def t_bytes (W : Int64) (n : Nat) : List Int32 := (List.range n).map (fun i => t_b W (nI i))
theorem t_bytes_succ (W : Int64) (n : Nat) : t_bytes W (n + 1) = t_bytes W n ++ [t_b W (nI n)] := by
  unfold t_bytes
  rw [List.range_succ, List.map_append]
  rfl
theorem t_bytes_len (W : Int64) (n : Nat) : (t_bytes W n).length = n := by simp [t_bytes]
def a_write : z_S → Int64 → Int32 → Bool × z_S
  | (st, ec, dl, pg, rq, out, dr, R, w), W, n => if t_cnt n = true ∧ dr.length + n.toNatClampNeg ≤ 100 then (true, (st, ec, dl, pg, rq, out, dr ++ t_bytes W n.toNatClampNeg, R, w)) else (false, (st, ec, dl, pg, rq, out, dr, R, w))
def a_clear : z_S → z_S
  | (st, ec, dl, pg, rq, out, _, R, w) => (st, ec, dl, pg, rq, out, [], R, w)
theorem sp_drop {σ : z_S} (ht : k_tlk h A σ) (n : Int32) : q_SP G mX6_drop [.ref (A 0), .int n] h 0 0 (fun o h' => o = some (.int (z_b (a_drop σ n).1)) ∧ k_tlk h' A (a_drop σ n).2 ∧ k_ext (k_cells A) h h') := by
  obtain ⟨st, ec, dl, pg, rq, out, dr, R, w⟩ := σ
  have o1 := ht.2.1
  have ro := ht.2.2.2.2.2.1
  have q1 := ro.o
  dsimp only [a_drop]
  refine q_enter (M := mX6_drop) (by decide +kernel) rfl (Nat.le_of_ble_eq_true rfl) ?_
  refine x_aload_n 0 dX6_drop_0 rfl (by first | rfl | assumption) ?_
  refine gf_X6_drop_35 dX6_drop_1 (by first | assumption | exact va_up_self _ _ _) rfl ?_
  refine x_iload_n 1 dX6_drop_4 rfl (by first | rfl | assumption) ?_
  refine cl_X6_drop_5 (sp_cutFront ro n) (by first | assumption | exact va_up_self _ _ _) (Nat.le_of_ble_eq_true rfl) ⟨Nat.le_of_ble_eq_true rfl, Nat.le_of_ble_eq_true rfl⟩ (fun r g hq => ?_)
  obtain ⟨rfl, r1, s1⟩ := hq
  rw [t_mayDrop_if]
  refine x_iret rfl (z_nb _) dX6_drop_8 (by decide) (by decide) ?_
  have hk : ∀ P : Prop, P → k_ext (k_cells A) h g ∧ P := fun P p => ⟨k_ext.of (s1.mono (k_sub24 (I := [19, 20]) (by decide))), p⟩
  by_cases hm : ¬ n < 0 ∧ n ≤ nI out.length
  · have hb : t_mayDrop out.length n = true := by unfold t_mayDrop; simp [hm.1, hm.2]
    rw [if_pos hm] at r1
    rw [hb]
    exact ⟨rfl, ht.toOut r1 s1, (hk True trivial).1⟩
  · have hb : t_mayDrop out.length n = false := by
      cases hh : t_mayDrop out.length n with
      | false => rfl
      | true =>
        unfold t_mayDrop at hh
        simp at hh
        exact absurd ⟨Int32.not_lt.mpr hh.1, hh.2⟩ hm
    rw [if_neg hm] at r1
    rw [hb]
    exact ⟨rfl, ht.toOut r1 s1, (hk True trivial).1⟩
theorem sp_clear {σ : z_S} (ht : k_tlk h A σ) : q_SP G mX6_clear [.ref (A 0)] h 0 0 (fun o h' => o = none ∧ k_tlk h' A (a_clear σ) ∧ k_ext (k_cells A) h h') := by
  obtain ⟨st, ec, dl, pg, rq, out, dr, R, w⟩ := σ
  have o1 := ht.2.1
  have rd := ht.2.2.2.2.2.2.1
  have q1 := rd.o
  refine q_enter (M := mX6_clear) (by decide +kernel) rfl (Nat.le_of_ble_eq_true rfl) ?_
  refine x_aload_n 0 dX6_clear_0 rfl (by first | rfl | assumption) ?_
  refine gf_X6_clear_39 dX6_clear_1 (by first | assumption | exact va_up_self _ _ _) rfl ?_
  refine cl_X6_clear_4 (sp_empty rd) (by first | assumption | exact va_up_self _ _ _) (Nat.le_of_ble_eq_true rfl) ⟨Nat.le_of_ble_eq_true rfl, Nat.le_of_ble_eq_true rfl⟩ (fun r g hq => ?_)
  obtain ⟨rfl, r1, s1⟩ := hq
  refine x_vret rfl dX6_clear_7 (by decide) (by decide) ?_
  exact ⟨rfl, ht.toDr r1 s1, k_ext.of (s1.mono (k_sub24 (I := [21, 22]) (by decide)))⟩
theorem sp_write {σ : z_S} (ht : k_tlk h A σ) (W : Int64) (n : Int32) : q_SP G mX6_write [.ref (A 0), .long W, .int n] h 0 0 (fun o h' => o = some (.int (z_b (a_write σ W n).1)) ∧ k_tlk h' A (a_write σ W n).2 ∧ k_ext (k_cells A) h h') := by
  obtain ⟨st, ec, dl, pg, rq, out, dr, R, w⟩ := σ
  have o1 := ht.2.1
  have rd := ht.2.2.2.2.2.2.1
  have q1 := rd.o
  have hl := rd.len
  dsimp only [a_write]
  refine q_enter (M := mX6_write) (by decide +kernel) rfl (Nat.le_of_ble_eq_true rfl) ?_
  refine x_iload_n 3 dX6_write_0 rfl (by first | rfl | assumption) ?_
  refine cl_X6_write_1 (sp_isByteCount n) (Nat.le_of_ble_eq_true rfl) ⟨Nat.le_of_ble_eq_true rfl, Nat.le_of_ble_eq_true rfl⟩ (fun r g hq => ?_)
  obtain ⟨rfl, hg⟩ := hq
  rw [hg]
  cases hn : t_cnt n with
  | false =>
    rw [if_neg (fun z => by cases z.1)]
    refine x_if_eq 21 dX6_write_4 (by decide) (fun _ => ?_) (fun z => absurd (show z_b false = 0 from rfl) z)
    refine x_iconst 0 dX6_write_21 (by decide) ?_
    refine x_iret rfl (by first | rfl | assumption | exact z_nb _) dX6_write_22 (by decide) (by decide) ?_
    exact ⟨rfl, ht, k_ext.rf⟩
  | true =>
    obtain ⟨k, hk1, hk8, rfl⟩ := t_cnt_in hn
    rw [nI_clamp (by omega)]
    refine x_if_eq 21 dX6_write_4 (by decide) (fun z => absurd z (show ¬ z_b true = 0 by decide)) (fun _ => ?_)
    refine x_aload_n 0 dX6_write_7 rfl (by first | rfl | assumption) ?_
    refine gf_X6_write_39 dX6_write_8 (by first | assumption | exact va_up_self _ _ _) rfl ?_
    refine cl_X6_write_11 (sp_size rd) (by first | assumption | exact va_up_self _ _ _) (Nat.le_of_ble_eq_true rfl) ⟨Nat.le_of_ble_eq_true rfl, Nat.le_of_ble_eq_true rfl⟩ (fun r g hq => ?_)
    obtain ⟨rfl, hg⟩ := hq
    rw [hg]
    refine x_iload_n 3 dX6_write_14 rfl (by first | rfl | assumption) ?_
    refine x_iadd dX6_write_15 ?_
    refine x_bipush 100 dX6_write_16 (by decide) ?_
    rw [nI_add]
    by_cases hc : dr.length + k ≤ 100
    · rw [if_pos ⟨rfl, hc⟩]
      refine x_icmp_le 23 dX6_write_18 (by decide) (fun _ => ?_) (fun z => absurd (nI_le (b := 100) hc (by omega)) z)
      refine x_iconst 0 dX6_write_23 (by decide) ?_
      refine x_istore dX6_write_24 (by decide) rfl ?_
      have loop : ∀ (m i : Nat) (x : Int32) (h1 : q_H), x = nI i → i + m = k → k_row h1 (A 21) (A 22) 100 (dr ++ t_bytes W i) → k_same [A 21, A 22] h h1 →
          q_X G mX6_write (q_R mX6_write 0 0) (q_FN G (fun o h' => o = some (.int (z_b true)) ∧ k_tlk h' A (st, ec, dl, pg, rq, out, dr ++ t_bytes W k, R, w) ∧ k_ext (k_cells A) h h') 0 0) 26 [(0, .ref (A 0)), (1, .long W), (3, .int (nI k)), (4, .int x)] [] h1 0 0 := by
        intro m
        induction m with
        | zero =>
          intro i x h1 hx hik r1 s1
          subst hx
          have hik : i = k := by omega
          subst hik
          refine x_iload dX6_write_26 (by first | rfl | assumption) ?_
          refine x_iload_n 3 dX6_write_28 rfl (by first | rfl | assumption) ?_
          refine x_icmp_ge 51 dX6_write_29 (by decide) (fun _ => ?_) (fun z => absurd (Int32.le_refl _) z)
          refine x_iconst 1 dX6_write_51 (by decide) ?_
          refine x_iret rfl (by first | rfl | assumption | exact z_nb _) dX6_write_52 (by decide) (by decide) ?_
          exact ⟨rfl, ht.toDr r1 s1, k_ext.of (s1.mono (k_sub24 (I := [21, 22]) (by decide)))⟩
        | succ m ih =>
          intro i x h1 hx hik r1 s1
          subst hx
          have o1 := (ht.toDr r1 s1).2.1
          have q1 := r1.o
          refine x_iload dX6_write_26 (by first | rfl | assumption) ?_
          refine x_iload_n 3 dX6_write_28 rfl (by first | rfl | assumption) ?_
          refine x_icmp_ge 51 dX6_write_29 (by decide) (fun z => absurd z (nI_ge (b := k) (by omega) (by omega))) (fun _ => ?_)
          refine x_aload_n 0 dX6_write_32 rfl (by first | rfl | assumption) ?_
          refine gf_X6_write_39 dX6_write_33 (by first | assumption | exact va_up_self _ _ _) rfl ?_
          refine x_lload_n 1 dX6_write_36 rfl (by first | rfl | assumption) ?_
          refine x_iload dX6_write_37 (by first | rfl | assumption) ?_
          refine cl_X6_write_39 (sp_byteOf W (nI i)) (Nat.le_of_ble_eq_true rfl) ⟨Nat.le_of_ble_eq_true rfl, Nat.le_of_ble_eq_true rfl⟩ (fun r g hq => ?_)
          obtain ⟨rfl, hg⟩ := hq
          rw [hg]
          refine cl_X6_write_42 (sp_add r1 _) (by first | assumption | exact va_up_self _ _ _) (Nat.le_of_ble_eq_true rfl) ⟨Nat.le_of_ble_eq_true rfl, Nat.le_of_ble_eq_true rfl⟩ (fun r g2 hq => ?_)
          obtain ⟨rfl, r2, s2⟩ := hq
          rw [if_pos (by rw [List.length_append, t_bytes_len]; omega), List.append_assoc, ← t_bytes_succ] at r2
          refine x_iinc 1 dX6_write_45 (by first | rfl | assumption) (by decide) (by decide) rfl ?_
          refine x_goto 26 dX6_write_48 (by decide) ?_
          exact ih (i + 1) _ g2 (nI_1 i) (by omega) r2 (s1.tr s2)
      refine loop k 0 0 h rfl (by omega) ?_ k_same.rf
      rw [show t_bytes W 0 = [] from rfl, List.append_nil]
      exact rd
    · rw [if_neg (fun z => hc z.2)]
      refine x_icmp_le 23 dX6_write_18 (by decide) (fun z => absurd z (nI_ge (b := dr.length + k) (a := 100) (by omega) (by omega))) (fun _ => ?_)
      refine x_iconst 0 dX6_write_21 (by decide) ?_
      refine x_iret rfl (by first | rfl | assumption | exact z_nb _) dX6_write_22 (by decide) (by decide) ?_
      exact ⟨rfl, ht, k_ext.rf⟩
def a_ping : z_S → z_A
  | (st, ec, dl, pg, rq, out, dr, R, w) => if decide (st = 1) && decide (out.length + (2 + dr.length) ≤ 400) then (0, 0, (st, ec, dl, pg, rq, out ++ [137, nI dr.length] ++ dr, dr, R, w)) else (1, 0, (st, ec, dl, pg, rq, out, dr, R, w))
def a_close : z_S → Int32 → z_A
  | (st, ec, dl, pg, rq, out, dr, R, w), x => if r_code x && z_txt dr then (if st = 1 then (0, 0, (2, ec, dl, pg, rq, out ++ [136, nI (2 + dr.length)] ++ [x >>> ((8 : Int32) &&& 31), x &&& 255] ++ dr, dr, R, w)) else (2, 0, (st, ec, dl, pg, rq, out, dr, R, w))) else (1, 0, (st, ec, dl, pg, rq, out, dr, R, w))
/-- the answer r of a method that returns nothing -/
def k_ret0 (h : q_H) (A : Nat → Nat) (r : z_A) (o : Option Value) (h' : q_H) : Prop := (r.1 = 0 ∧ o = none) ∧ k_tlk h' A r.2.2 ∧ k_ext (k_cells A) h h'
theorem sp_ping {σ : z_S} (ht : k_tlk h A σ) : q_SX G mX6_ping [.ref (A 0)] h 1 6 (k_ret0 h A (a_ping σ)) (k_thr h A (a_ping σ) "java/lang/IllegalStateException" "") := by
  obtain ⟨st, ec, dl, pg, rq, out, dr, R, w⟩ := σ
  have hA := ht.1
  have o1 := ht.2.1
  have rd := ht.2.2.2.2.2.2.1
  have q1 := rd.o
  have hl := rd.len
  have hne : A 21 ∉ [A 19, A 20] ∧ A 22 ∉ [A 19, A 20] := ⟨hA.no (I := [19, 20]) (by decide), hA.no (I := [19, 20]) (by decide)⟩
  dsimp only [a_ping]
  refine q_enterX (M := mX6_ping) (by decide +kernel) rfl (Nat.le_of_ble_eq_true rfl) ?_
  refine x_aload_n 0 dX6_ping_0 rfl (by first | rfl | assumption) ?_
  refine x_iconst 2 dX6_ping_1 (by decide) ?_
  refine x_aload_n 0 dX6_ping_2 rfl (by first | rfl | assumption) ?_
  refine gf_X6_ping_39 dX6_ping_3 (by first | assumption | exact va_up_self _ _ _) rfl ?_
  refine cl_X6_ping_6 (sp_size rd) (by first | assumption | exact va_up_self _ _ _) (Nat.le_of_ble_eq_true rfl) ⟨Nat.le_of_ble_eq_true rfl, Nat.le_of_ble_eq_true rfl⟩ (fun r g hq => ?_)
  obtain ⟨rfl, hg⟩ := hq
  rw [hg]
  refine x_iadd dX6_ping_9 ?_
  rw [show 2 + nI dr.length = nI (2 + dr.length) from nI_add 2 _]
  refine cl_X6_ping_10 (sp_maySay ht (x := 2 + dr.length) (by omega)) (by first | assumption | exact va_up_self _ _ _) (Nat.le_of_ble_eq_true rfl) ⟨Nat.le_of_ble_eq_true rfl, Nat.le_of_ble_eq_true rfl⟩ (fun r g hq => ?_)
  obtain ⟨rfl, hg⟩ := hq
  rw [hg]
  cases hm : (decide (st = 1) && decide (out.length + (2 + dr.length) ≤ 400)) with
  | false =>
    refine x_if_ne 24 dX6_ping_13 (by decide) (fun z => absurd (show z_b false = 0 from rfl) z) (fun _ => ?_)
    refine th_X6_ping_16 (by decide) (by decide) (by decide) (by decide) (by decide) ?_
    exact ⟨Or.inl ⟨rfl, rfl⟩, ht, k_ext.rf⟩
  | true =>
    rw [Bool.and_eq_true, decide_eq_true_eq, decide_eq_true_eq] at hm
    refine x_if_ne 24 dX6_ping_13 (by decide) (fun _ => ?_) (fun z => absurd z (show ¬ z_b true = 0 by decide))
    refine x_aload_n 0 dX6_ping_24 rfl (by first | rfl | assumption) ?_
    refine x_sipush 137 dX6_ping_25 (by decide) ?_
    refine x_aload_n 0 dX6_ping_28 rfl (by first | rfl | assumption) ?_
    refine gf_X6_ping_39 dX6_ping_29 (by first | assumption | exact va_up_self _ _ _) rfl ?_
    refine x_iconst 0 dX6_ping_32 (by decide) ?_
    refine x_aload_n 0 dX6_ping_33 rfl (by first | rfl | assumption) ?_
    refine gf_X6_ping_39 dX6_ping_34 (by first | assumption | exact va_up_self _ _ _) rfl ?_
    refine cl_X6_ping_37 (sp_size rd) (by first | assumption | exact va_up_self _ _ _) (Nat.le_of_ble_eq_true rfl) ⟨Nat.le_of_ble_eq_true rfl, Nat.le_of_ble_eq_true rfl⟩ (fun r g hq => ?_)
    obtain ⟨rfl, hg⟩ := hq
    rw [hg]
    refine cl_X6_ping_40 (sp_say (a := 0) ht rd hne 137 (by omega) (Nat.le_refl _) (by omega)) (by first | assumption | exact va_up_self _ _ _) (Nat.le_of_ble_eq_true rfl) ⟨Nat.le_of_ble_eq_true rfl, Nat.le_of_ble_eq_true rfl⟩ (fun r g1 hq => ?_)
    obtain ⟨rfl, t1, s1⟩ := hq
    refine x_fx ?_
    refine x_vret rfl dX6_ping_43 (by decide) (by decide) ?_
    rw [Nat.sub_zero, List.drop_zero, List.take_length] at t1
    exact ⟨⟨rfl, rfl⟩, t1, k_ext.of (s1.mono (k_sub24 (I := [19, 20]) (by decide)))⟩
theorem sp_close {σ : z_S} (ht : k_tlk h A σ) (hw : t_wf σ) (x : Int32) : q_SX G mX6_close [.ref (A 0), .int x] h 1 6 (k_ret0 h A (a_close σ x)) (k_thr h A (a_close σ x) "java/lang/IllegalArgumentException" "java/lang/IllegalStateException") := by
  obtain ⟨st, ec, dl, pg, rq, out, dr, R, w⟩ := σ
  have hA := ht.1
  have o1 := ht.2.1
  have rd := ht.2.2.2.2.2.2.1
  have q1 := rd.o
  have hl := rd.len
  obtain ⟨c0, hc⟩ := ht.2.2.2.2.2.2.2
  have qc : ∃ fs, h (A 23) = some (k_ob 4 fs) := ⟨_, hc⟩
  obtain ⟨fsc, qc⟩ := qc
  have hne : A 21 ∉ [A 19, A 20] ∧ A 22 ∉ [A 19, A 20] := ⟨hA.no (I := [19, 20]) (by decide), hA.no (I := [19, 20]) (by decide)⟩
  have hne2 : A 21 ∉ [A 23] ∧ A 22 ∉ [A 23] := ⟨hA.no (I := [23]) (by decide), hA.no (I := [23]) (by decide)⟩
  dsimp only [a_close]
  refine q_enterX (M := mX6_close) (by decide +kernel) rfl (Nat.le_of_ble_eq_true rfl) ?_
  refine x_iload_n 1 dX6_close_0 rfl (by first | rfl | assumption) ?_
  refine cl_X6_close_1 (sp_mayStand x) (Nat.le_of_ble_eq_true rfl) ⟨Nat.le_of_ble_eq_true rfl, Nat.le_of_ble_eq_true rfl⟩ (fun r g hq => ?_)
  obtain ⟨rfl, hg⟩ := hq
  rw [hg]
  cases hx : r_code x with
  | false =>
    refine x_if_eq 22 dX6_close_4 (by decide) (fun _ => ?_) (fun z => absurd (show z_b false = 0 from rfl) z)
    refine th_X6_close_22 (by decide) (by decide) (by decide) (by decide) (by decide) ?_
    exact ⟨Or.inl ⟨rfl, rfl⟩, ht, k_ext.rf⟩
  | true =>
    rw [Bool.true_and]
    refine x_if_eq 22 dX6_close_4 (by decide) (fun z => absurd z (show ¬ z_b true = 0 by decide)) (fun _ => ?_)
    refine x_aload_n 0 dX6_close_7 rfl (by first | rfl | assumption) ?_
    refine gf_X6_close_45 dX6_close_8 (by first | assumption | exact va_up_self _ _ _) rfl ?_
    refine x_aload_n 0 dX6_close_11 rfl (by first | rfl | assumption) ?_
    refine gf_X6_close_39 dX6_close_12 (by first | assumption | exact va_up_self _ _ _) rfl ?_
    refine x_iconst 0 dX6_close_15 (by decide) ?_
    refine cl_X6_close_16 (sp_isText hc rd hne2 (p := 0) (by omega)) (by first | assumption | exact va_up_self _ _ _) (Nat.le_of_ble_eq_true rfl) ⟨Nat.le_of_ble_eq_true rfl, Nat.le_of_ble_eq_true rfl⟩ (fun r g1 hq => ?_)
    obtain ⟨rfl, ⟨c1, hc1⟩, s1⟩ := hq
    have t1 := ht.toChk hc1 s1
    have x1 : k_ext (k_cells A) h g1 := k_ext.of (s1.mono (k_sub24 (I := [23]) (by decide)))
    rw [List.drop_zero]
    have o1 := t1.2.1
    have rd := t1.2.2.2.2.2.2.1
    have q1 := rd.o
    cases hz : z_txt dr with
    | false =>
      refine x_if_ne 30 dX6_close_19 (by decide) (fun z => absurd rfl z) (fun _ => ?_)
      refine th_X6_close_22 (by decide) (by decide) (by decide) (by decide) (by decide) ?_
      exact ⟨Or.inl ⟨rfl, rfl⟩, t1, x1⟩
    | true =>
      refine x_if_ne 30 dX6_close_19 (by decide) (fun _ => ?_) (fun z => absurd z (by decide))
      rw [if_pos rfl]
      refine x_aload_n 0 dX6_close_30 rfl (by first | rfl | assumption) ?_
      refine gf_X6_close_49 dX6_close_31 (by first | assumption | exact va_up_self _ _ _) rfl ?_
      refine x_iconst 1 dX6_close_34 (by decide) ?_
      refine x_icmp_eq 46 dX6_close_35 (by decide) (fun c35 => ?_) (fun c35 => ?_)
      · rw [if_pos c35]
        have hN := hw.2.1 c35
        refine x_aload_n 0 dX6_close_46 rfl (by first | rfl | assumption) ?_
        refine x_sipush 136 dX6_close_47 (by decide) ?_
        refine x_iconst 2 dX6_close_50 (by decide) ?_
        refine x_aload_n 0 dX6_close_51 rfl (by first | rfl | assumption) ?_
        refine gf_X6_close_39 dX6_close_52 (by first | assumption | exact va_up_self _ _ _) rfl ?_
        refine cl_X6_close_55 (sp_size rd) (by first | assumption | exact va_up_self _ _ _) (Nat.le_of_ble_eq_true rfl) ⟨Nat.le_of_ble_eq_true rfl, Nat.le_of_ble_eq_true rfl⟩ (fun r g hq => ?_)
        obtain ⟨rfl, hg⟩ := hq
        rw [hg]
        refine x_iadd dX6_close_58 ?_
        rw [show 2 + nI dr.length = nI (2 + dr.length) from nI_add 2 _]
        refine cl_X6_close_59 (sp_sayHead t1 136 _ (by omega)) (by first | assumption | exact va_up_self _ _ _) (Nat.le_of_ble_eq_true rfl) ⟨Nat.le_of_ble_eq_true rfl, Nat.le_of_ble_eq_true rfl⟩ (fun r g2 hq => ?_)
        obtain ⟨rfl, t2, s2⟩ := hq
        have o1 := t2.2.1
        refine x_aload_n 0 dX6_close_62 rfl (by first | rfl | assumption) ?_
        refine x_iload_n 1 dX6_close_63 rfl (by first | rfl | assumption) ?_
        refine cl_X6_close_64 (sp_sayCode t2 x (by rw [List.length_append]; show _ + 2 + 2 ≤ _; omega)) (by first | assumption | exact va_up_self _ _ _) (Nat.le_of_ble_eq_true rfl) ⟨Nat.le_of_ble_eq_true rfl, Nat.le_of_ble_eq_true rfl⟩ (fun r g3 hq => ?_)
        obtain ⟨rfl, t3, s3⟩ := hq
        have o1 := t3.2.1
        have rd := t3.2.2.2.2.2.2.1
        have q1 := rd.o
        have ro := t3.2.2.2.2.2.1
        have q2 := ro.o
        refine x_aload_n 0 dX6_close_67 rfl (by first | rfl | assumption) ?_
        refine gf_X6_close_35 dX6_close_68 (by first | assumption | exact va_up_self _ _ _) rfl ?_
        refine x_aload_n 0 dX6_close_71 rfl (by first | rfl | assumption) ?_
        refine gf_X6_close_39 dX6_close_72 (by first | assumption | exact va_up_self _ _ _) rfl ?_
        refine x_iconst 0 dX6_close_75 (by decide) ?_
        refine x_aload_n 0 dX6_close_76 rfl (by first | rfl | assumption) ?_
        refine gf_X6_close_39 dX6_close_77 (by first | assumption | exact va_up_self _ _ _) rfl ?_
        refine cl_X6_close_80 (sp_size rd) (by first | assumption | exact va_up_self _ _ _) (Nat.le_of_ble_eq_true rfl) ⟨Nat.le_of_ble_eq_true rfl, Nat.le_of_ble_eq_true rfl⟩ (fun r g hq => ?_)
        obtain ⟨rfl, hg⟩ := hq
        rw [hg]
        refine cl_X6_close_83 (sp_addPart ro rd hne (a := 0) (by omega) (Nat.le_refl _) (by rw [List.length_append, List.length_append]; show _ + 2 + 2 + _ ≤ _; omega)) (by first | assumption | exact va_up_self _ _ _) (Nat.le_of_ble_eq_true rfl) ⟨Nat.le_of_ble_eq_true rfl, Nat.le_of_ble_eq_true rfl⟩ (fun r g4 hq => ?_)
        obtain ⟨rfl, r4, s4⟩ := hq
        rw [Nat.sub_zero, List.drop_zero, List.take_length] at r4
        have t4 := t3.toOut r4 s4
        have o1 := t4.2.1
        refine x_aload_n 0 dX6_close_86 rfl (by first | rfl | assumption) ?_
        refine x_iconst 2 dX6_close_87 (by decide) ?_
        refine pf_X6_close_49 dX6_close_88 (by first | assumption | exact va_up_self _ _ _) (Nat.le_of_ble_eq_true rfl) ?_
        refine x_gen (fun g5 o5 s5 => ?_)
        refine x_fx ?_
        refine x_vret rfl dX6_close_91 (by decide) (by decide) ?_
        exact ⟨⟨rfl, rfl⟩, t4.toObj o5 s5 (fun z => absurd z (by decide)), (x1.tr (k_ext.of (((s2.tr s3).tr s4).mono (k_sub24 (I := [19, 20]) (by decide))))).tr (k_ext.of (k_same.mono s5 (k_sub24 (I := [0]) (by decide))))⟩
      · rw [if_neg c35]
        refine th_X6_close_38 (by decide) (by decide) (by decide) (by decide) (by decide) ?_
        exact ⟨Or.inr ⟨rfl, rfl⟩, t1, x1⟩
end TlkH
