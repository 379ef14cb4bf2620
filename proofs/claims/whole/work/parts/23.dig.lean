/-! THE DIGEST, as numbers -/
section DigP
abbrev d_5 : Type := Int32 × Int32 × Int32 × Int32 × Int32
def d_rot (x n : Int32) : Int32 := x <<< (n &&& 31) ||| (x.toUInt32 >>> ((32 - n).toUInt32 &&& Int32.toUInt32 31)).toInt32
def d_word (B : Nat → Int32) (t : Nat) : Int32 := B (4 * t) <<< ((24 : Int32) &&& 31) ||| B (4 * t + 1) <<< ((16 : Int32) &&& 31) ||| B (4 * t + 2) <<< ((8 : Int32) &&& 31) ||| B (4 * t + 3)
def d_W (B : Nat → Int32) (t : Nat) : Int32 := if h : t < 16 then d_word B t else d_rot (d_W B (t - 3) ^^^ d_W B (t - 8) ^^^ d_W B (t - 14) ^^^ d_W B (t - 16)) 1
termination_by t
decreasing_by all_goals omega
def d_bl (t : Nat) (b c d : Int32) : Int32 := if t < 20 then (b &&& c ||| (b ^^^ (-1)) &&& d) + 1518500249 else if t < 40 then (b ^^^ c ^^^ d) + 1859775393 else if t < 60 then (b &&& c ||| b &&& d ||| c &&& d) - 1894007588 else (b ^^^ c ^^^ d) - 899497514
def d_step (W : Nat → Int32) (t : Nat) (s : d_5) : d_5 := (d_rot s.1 5 + d_bl t s.2.1 s.2.2.1 s.2.2.2.1 + s.2.2.2.2 + W t, s.1, d_rot s.2.1 30, s.2.2.1, s.2.2.2.1)
def d_run (W : Nat → Int32) : Nat → d_5 → d_5
  | 0, s => s
  | n + 1, s => d_step W n (d_run W n s)
def d_add (s t : d_5) : d_5 := (s.1 + t.1, s.2.1 + t.2.1, s.2.2.1 + t.2.2.1, s.2.2.2.1 + t.2.2.2.1, s.2.2.2.2 + t.2.2.2.2)
def d_blk (B : Nat → Int32) (s : d_5) : d_5 := d_add s (d_run (d_W B) 80 s)
def d_H0 : d_5 := (1732584193, -271733879, -1732584194, 271733878, -1009589776)
def d_all (B : Nat → Int32) : d_5 := d_blk (fun j => B (64 + j)) (d_blk B d_H0)
def d_msg (key : List Int32) : List Int32 := key ++ q_byt.getD 11 [] ++ [128] ++ List.replicate 65 0 ++ [1, 224]
def d_sel (s : d_5) (i : Nat) : Int32 := match i with
  | 0 => s.1
  | 1 => s.2.1
  | 2 => s.2.2.1
  | 3 => s.2.2.2.1
  | _ => s.2.2.2.2
def d_byte (s : d_5) (i : Nat) : Int32 := ((d_sel s (i / 4)).toUInt32 >>> ((nI (24 - 8 * (i % 4))).toUInt32 &&& Int32.toUInt32 31)).toInt32 &&& 255
def d_three (f : Nat → Int32) (i : Nat) : Int32 := f i <<< ((16 : Int32) &&& 31) ||| f (i + 1) <<< ((8 : Int32) &&& 31) ||| f (i + 2)
def d_two (f : Nat → Int32) : Int32 := f 18 <<< ((16 : Int32) &&& 31) ||| f 19 <<< ((8 : Int32) &&& 31)
def d_six (x : Int32) (i : Nat) : Int32 := (x.toUInt32 >>> ((nI (18 - 6 * i)).toUInt32 &&& Int32.toUInt32 31)).toInt32 &&& 63
def d_sign (x : Int32) (i : Nat) : Int32 := q_ch 12 (d_six x i).toNatClampNeg
def d_signs (x : Int32) (n : Nat) : List Int32 := (List.range n).map (d_sign x)
def d_fours (f : Nat → Int32) (n : Nat) : List Int32 := (List.range n).flatMap (fun k => d_signs (d_three f (3 * k)) 4)
def d_b64 (f : Nat → Int32) : List Int32 := d_fours f 6 ++ d_signs (d_two f) 3 ++ [61]
def d_proof (key : List Int32) : List Int32 := d_b64 (d_byte (d_all (fun j => (d_msg key).getD j 0)))
theorem d_W_lo {B : Nat → Int32} {t : Nat} (h : t < 16) : d_W B t = d_word B t := by
  rw [d_W, dif_pos h]
theorem d_W_hi {B : Nat → Int32} {t : Nat} (h : ¬ t < 16) : d_W B t = d_rot (d_W B (t - 3) ^^^ d_W B (t - 8) ^^^ d_W B (t - 14) ^^^ d_W B (t - 16)) 1 := by
  rw [d_W, dif_neg h]
theorem d_signs_len (x : Int32) (n : Nat) : (d_signs x n).length = n := by simp [d_signs]
theorem d_fours_succ (f : Nat → Int32) (n : Nat) : d_fours f (n + 1) = d_fours f n ++ d_signs (d_three f (3 * n)) 4 := by
  unfold d_fours
  rw [List.range_succ, List.flatMap_append]
  simp
theorem d_fours_len (f : Nat → Int32) : ∀ n, (d_fours f n).length = 4 * n := by
  intro n
  induction n with
  | zero => rfl
  | succ n ih => rw [d_fours_succ, List.length_append, ih, d_signs_len]; omega
theorem d_b64_len (f : Nat → Int32) : (d_b64 f).length = 28 := by
  unfold d_b64
  rw [List.length_append, List.length_append, d_fours_len, d_signs_len]
  rfl
end DigP
section DigA
variable {G : q_G} {h : q_H} {p pb pba pw ph : Nat} {L : List Int32} {fw fh : Nat → Int32}
def k_prf (h : q_H) (p pb pba pw ph : Nat) (L : List Int32) (fw fh : Nat → Int32) : Prop := h p = some (k_ob 2 [.ref pb, .ref pw, .ref ph]) ∧ k_row h pb pba 128 L ∧ h pw = some (k_ar 80 fw) ∧ h ph = some (k_ar 5 fh) ∧ [p, pb, pba, pw, ph].Nodup
theorem k_prf.ne (hp : k_prf h p pb pba pw ph L fw fh) : (p ≠ pb ∧ p ≠ pba ∧ p ≠ pw ∧ p ≠ ph) ∧ (pb ≠ pba ∧ pb ≠ pw ∧ pb ≠ ph) ∧ (pba ≠ pw ∧ pba ≠ ph) ∧ pw ≠ ph := by
  have hd := hp.2.2.2.2
  simp only [List.nodup_cons, List.mem_cons, List.not_mem_nil, not_or, or_false, not_false_eq_true, List.nodup_nil, and_true] at hd
  exact hd
theorem k_prf.kept {h1 : q_H} {T : List Nat} (hp : k_prf h p pb pba pw ph L fw fh) (hs : k_same T h h1) (h0 : ∀ q ∈ [p, pb, pba, pw, ph], q ∉ T) : k_prf h1 p pb pba pw ph L fw fh := by
  obtain ⟨e1, e2, e3, e4, e5⟩ := hp
  exact ⟨(hs p (h0 p (by simp))).trans e1, e2.kept hs (h0 pb (by simp)) (h0 pba (by simp)), (hs pw (h0 pw (by simp))).trans e3, (hs ph (h0 ph (by simp))).trans e4, e5⟩
theorem k_prf.toL {h1 : q_H} {L' : List Int32} (hp : k_prf h p pb pba pw ph L fw fh) (hs : k_same [pb, pba] h h1) (hr : k_row h1 pb pba 128 L') : k_prf h1 p pb pba pw ph L' fw fh := by
  obtain ⟨⟨d1, d2, d3, d4⟩, ⟨t2, t3, t4⟩, ⟨u3, u4⟩, v4⟩ := hp.ne
  obtain ⟨e1, e2, e3, e4, e5⟩ := hp
  exact ⟨(hs p (by simp [d1, d2])).trans e1, hr, (hs pw (by simp [Ne.symm t3, Ne.symm u3])).trans e3, (hs ph (by simp [Ne.symm t4, Ne.symm u4])).trans e4, e5⟩
theorem k_prf.toW {h1 : q_H} {fw' : Nat → Int32} (hp : k_prf h p pb pba pw ph L fw fh) (hs : k_same [pw] h h1) (hr : h1 pw = some (k_ar 80 fw')) : k_prf h1 p pb pba pw ph L fw' fh := by
  obtain ⟨⟨d1, d2, d3, d4⟩, ⟨t2, t3, t4⟩, ⟨u3, u4⟩, v4⟩ := hp.ne
  obtain ⟨e1, e2, e3, e4, e5⟩ := hp
  exact ⟨(hs p (by simp [d3])).trans e1, e2.kept hs (by simp [t3]) (by simp [u3]), hr, (hs ph (by simp [Ne.symm v4])).trans e4, e5⟩
theorem k_prf.toH {h1 : q_H} {fh' : Nat → Int32} (hp : k_prf h p pb pba pw ph L fw fh) (hs : k_same [ph] h h1) (hr : h1 ph = some (k_ar 5 fh')) : k_prf h1 p pb pba pw ph L fw fh' := by
  obtain ⟨⟨d1, d2, d3, d4⟩, ⟨t2, t3, t4⟩, ⟨u3, u4⟩, v4⟩ := hp.ne
  obtain ⟨e1, e2, e3, e4, e5⟩ := hp
  exact ⟨(hs p (by simp [d4])).trans e1, e2.kept hs (by simp [t4]) (by simp [u4]), (hs pw (by simp [v4])).trans e3, hr, e5⟩
theorem sp_rotated (x n : Int32) : q_SP G mX2_rotated [.int x, .int n] h 0 0 (fun o h' => o = some (.int (d_rot x n)) ∧ h' = h) := by
  refine q_enter (M := mX2_rotated) (by decide +kernel) rfl (Nat.le_of_ble_eq_true rfl) ?_
  refine x_iload_n 0 dX2_rotated_0 rfl (by first | rfl | assumption) ?_
  refine x_iload_n 1 dX2_rotated_1 rfl (by first | rfl | assumption) ?_
  refine x_ishl dX2_rotated_2 ?_
  refine x_iload_n 0 dX2_rotated_3 rfl (by first | rfl | assumption) ?_
  refine x_bipush 32 dX2_rotated_4 (by decide) ?_
  refine x_iload_n 1 dX2_rotated_6 rfl (by first | rfl | assumption) ?_
  refine x_isub dX2_rotated_7 ?_
  refine x_iushr dX2_rotated_8 ?_
  refine x_ior dX2_rotated_9 ?_
  refine x_iret rfl (by first | rfl | assumption | exact z_nb _ | decide) dX2_rotated_10 (by decide) (by decide) ?_
  exact ⟨rfl, rfl⟩
theorem sp_blend {t : Nat} (ht : t < 80) (b c d : Int32) : q_SP G mX2_blend [.int (nI t), .int b, .int c, .int d] h 0 0 (fun o h' => o = some (.int (d_bl t b c d)) ∧ h' = h) := by
  have k20 : 20 ≤ nI t ↔ 20 ≤ t := nI_leI (a := 20) (by omega) (by omega)
  have k40 : 40 ≤ nI t ↔ 40 ≤ t := nI_leI (a := 40) (by omega) (by omega)
  have k60 : 60 ≤ nI t ↔ 60 ≤ t := nI_leI (a := 60) (by omega) (by omega)
  refine q_enter (M := mX2_blend) (by decide +kernel) rfl (Nat.le_of_ble_eq_true rfl) ?_
  refine x_iload_n 0 dX2_blend_0 rfl (by first | rfl | assumption) ?_
  refine x_bipush 20 dX2_blend_1 (by decide) ?_
  refine x_icmp_ge 19 dX2_blend_3 (by decide) (fun c3 => ?_) (fun c3 => ?_)
  · have c3 := k20.mp c3
    refine x_iload_n 0 dX2_blend_19 rfl (by first | rfl | assumption) ?_
    refine x_bipush 40 dX2_blend_20 (by decide) ?_
    refine x_icmp_ge 34 dX2_blend_22 (by decide) (fun c22 => ?_) (fun c22 => ?_)
    · have c22 := k40.mp c22
      refine x_iload_n 0 dX2_blend_34 rfl (by first | rfl | assumption) ?_
      refine x_bipush 60 dX2_blend_35 (by decide) ?_
      refine x_icmp_ge 55 dX2_blend_37 (by decide) (fun c37 => ?_) (fun c37 => ?_)
      · have c37 := k60.mp c37
        refine x_iload_n 1 dX2_blend_55 rfl (by first | rfl | assumption) ?_
        refine x_iload_n 2 dX2_blend_56 rfl (by first | rfl | assumption) ?_
        refine x_ixor dX2_blend_57 ?_
        refine x_iload_n 3 dX2_blend_58 rfl (by first | rfl | assumption) ?_
        refine x_ixor dX2_blend_59 ?_
        refine k1_X2_blend_81 dX2_blend_60 ?_
        refine x_isub dX2_blend_62 ?_
        refine x_iret rfl (by first | rfl | assumption | exact z_nb _ | decide) dX2_blend_63 (by decide) (by decide) ?_
        exact ⟨by unfold d_bl; rw [if_neg (by omega), if_neg (by omega), if_neg (by omega)], rfl⟩
      · have c37 : ¬ 60 ≤ t := fun z => c37 (k60.mpr z)
        refine x_iload_n 1 dX2_blend_40 rfl (by first | rfl | assumption) ?_
        refine x_iload_n 2 dX2_blend_41 rfl (by first | rfl | assumption) ?_
        refine x_iand dX2_blend_42 ?_
        refine x_iload_n 1 dX2_blend_43 rfl (by first | rfl | assumption) ?_
        refine x_iload_n 3 dX2_blend_44 rfl (by first | rfl | assumption) ?_
        refine x_iand dX2_blend_45 ?_
        refine x_ior dX2_blend_46 ?_
        refine x_iload_n 2 dX2_blend_47 rfl (by first | rfl | assumption) ?_
        refine x_iload_n 3 dX2_blend_48 rfl (by first | rfl | assumption) ?_
        refine x_iand dX2_blend_49 ?_
        refine x_ior dX2_blend_50 ?_
        refine k1_X2_blend_80 dX2_blend_51 ?_
        refine x_isub dX2_blend_53 ?_
        refine x_iret rfl (by first | rfl | assumption | exact z_nb _ | decide) dX2_blend_54 (by decide) (by decide) ?_
        exact ⟨by unfold d_bl; rw [if_neg (by omega), if_neg (by omega), if_pos (by omega)], rfl⟩
    · have c22 : ¬ 40 ≤ t := fun z => c22 (k40.mpr z)
      refine x_iload_n 1 dX2_blend_25 rfl (by first | rfl | assumption) ?_
      refine x_iload_n 2 dX2_blend_26 rfl (by first | rfl | assumption) ?_
      refine x_ixor dX2_blend_27 ?_
      refine x_iload_n 3 dX2_blend_28 rfl (by first | rfl | assumption) ?_
      refine x_ixor dX2_blend_29 ?_
      refine k1_X2_blend_79 dX2_blend_30 ?_
      refine x_iadd dX2_blend_32 ?_
      refine x_iret rfl (by first | rfl | assumption | exact z_nb _ | decide) dX2_blend_33 (by decide) (by decide) ?_
      exact ⟨by unfold d_bl; rw [if_neg (by omega), if_pos (by omega)], rfl⟩
  · have c3 : ¬ 20 ≤ t := fun z => c3 (k20.mpr z)
    refine x_iload_n 1 dX2_blend_6 rfl (by first | rfl | assumption) ?_
    refine x_iload_n 2 dX2_blend_7 rfl (by first | rfl | assumption) ?_
    refine x_iand dX2_blend_8 ?_
    refine x_iload_n 1 dX2_blend_9 rfl (by first | rfl | assumption) ?_
    refine x_iconst (-1) dX2_blend_10 (by decide) ?_
    refine x_ixor dX2_blend_11 ?_
    refine x_iload_n 3 dX2_blend_12 rfl (by first | rfl | assumption) ?_
    refine x_iand dX2_blend_13 ?_
    refine x_ior dX2_blend_14 ?_
    refine k1_X2_blend_78 dX2_blend_15 ?_
    refine x_iadd dX2_blend_17 ?_
    refine x_iret rfl (by first | rfl | assumption | exact z_nb _ | decide) dX2_blend_18 (by decide) (by decide) ?_
    exact ⟨by unfold d_bl; rw [if_pos (by omega)], rfl⟩
theorem sp_pad (hp : k_prf h p pb pba pw ph L fw fh) (hL : L.length = 60) : q_SP G mX2_pad [.ref p] h 0 0 (fun o h' => o = none ∧ k_prf h' p pb pba pw ph (L ++ [128] ++ List.replicate 65 0 ++ [1, 224]) fw fh ∧ k_same [pb, pba] h h') := by
  have o1 := hp.1
  have r1 := hp.2.1
  obtain ⟨f9, q9, -⟩ := id r1
  refine q_enter (M := mX2_pad) (by decide +kernel) rfl (Nat.le_of_ble_eq_true rfl) ?_
  refine x_aload_n 0 dX2_pad_0 rfl (by first | rfl | assumption) ?_
  refine gf_X2_pad_16 dX2_pad_1 (by first | assumption | exact va_up_self _ _ _) rfl ?_
  refine cl_X2_pad_4 (sp_size r1) (by first | assumption | exact va_up_self _ _ _) (Nat.le_of_ble_eq_true rfl) ⟨Nat.le_of_ble_eq_true rfl, Nat.le_of_ble_eq_true rfl⟩ (fun r g1 hq => ?_)
  obtain ⟨rfl, rfl⟩ := hq
  refine x_bipush 8 dX2_pad_7 (by decide) ?_
  refine x_imul dX2_pad_9 ?_
  refine x_istore_n 1 dX2_pad_10 rfl (by decide) rfl ?_
  rw [hL, show nI 60 * 8 = 480 from rfl]
  refine x_aload_n 0 dX2_pad_11 rfl (by first | rfl | assumption) ?_
  refine gf_X2_pad_16 dX2_pad_12 (by first | assumption | exact va_up_self _ _ _) rfl ?_
  refine x_sipush 128 dX2_pad_15 (by decide) ?_
  refine cl_X2_pad_18 (sp_add r1 128) (by first | assumption | exact va_up_self _ _ _) (Nat.le_of_ble_eq_true rfl) ⟨Nat.le_of_ble_eq_true rfl, Nat.le_of_ble_eq_true rfl⟩ (fun r g2 hq => ?_)
  obtain ⟨rfl, r2, s2⟩ := hq
  rw [if_pos (by omega)] at r2
  have p2 := hp.toL s2 r2
  have o2 := p2.1
  obtain ⟨f8, q8, -⟩ := id r2
  refine x_aload_n 0 dX2_pad_21 rfl (by first | rfl | assumption) ?_
  refine gf_X2_pad_16 dX2_pad_22 (by first | assumption | exact va_up_self _ _ _) rfl ?_
  refine cl_X2_pad_25 (sp_size r2) (by first | assumption | exact va_up_self _ _ _) (Nat.le_of_ble_eq_true rfl) ⟨Nat.le_of_ble_eq_true rfl, Nat.le_of_ble_eq_true rfl⟩ (fun r g3 hq => ?_)
  obtain ⟨rfl, rfl⟩ := hq
  refine x_istore_n 2 dX2_pad_28 rfl (by decide) rfl ?_
  have loop : ∀ (n k : Nat) (x : Int32) (h1 : q_H), x = nI (61 + k) → k + n = 65 → k_prf h1 p pb pba pw ph (L ++ [128] ++ List.replicate k 0) fw fh → k_same [pb, pba] g1 h1 →
      q_X G mX2_pad (q_R mX2_pad 0 0) (q_FN G (fun o h' => o = none ∧ k_prf h' p pb pba pw ph (L ++ [128] ++ List.replicate 65 0 ++ [1, 224]) fw fh ∧ k_same [pb, pba] g1 h') 0 0) 29 [(0, .ref p), (1, .int 480), (2, .int x)] [] h1 0 0 := by
    intro n
    induction n with
    | zero =>
      intro k x h1 hx hk hp1 hs
      subst hx
      have hk : k = 65 := by omega
      subst hk
      have o3 := hp1.1
      have r3 := hp1.2.1
      obtain ⟨f3, q3, -⟩ := id r3
      refine x_iload_n 2 dX2_pad_29 rfl (by first | rfl | assumption) ?_
      refine x_bipush 126 dX2_pad_30 (by decide) ?_
      refine x_icmp_ge 49 dX2_pad_32 (by decide) (fun _ => ?_) (fun z => absurd (by decide) z)
      refine x_aload_n 0 dX2_pad_49 rfl (by first | rfl | assumption) ?_
      refine gf_X2_pad_16 dX2_pad_50 (by first | assumption | exact va_up_self _ _ _) rfl ?_
      refine x_iload_n 1 dX2_pad_53 rfl (by first | rfl | assumption) ?_
      refine x_bipush 8 dX2_pad_54 (by decide) ?_
      refine x_ishr dX2_pad_56 ?_
      refine cl_X2_pad_57 (sp_add r3 1) (by first | assumption | exact va_up_self _ _ _) (Nat.le_of_ble_eq_true rfl) ⟨Nat.le_of_ble_eq_true rfl, Nat.le_of_ble_eq_true rfl⟩ (fun r g4 hq => ?_)
      obtain ⟨rfl, r4, s4⟩ := hq
      rw [if_pos (by simp [hL])] at r4
      have p4 := hp1.toL s4 r4
      have o4 := p4.1
      obtain ⟨f4, q4, -⟩ := id r4
      refine x_aload_n 0 dX2_pad_60 rfl (by first | rfl | assumption) ?_
      refine gf_X2_pad_16 dX2_pad_61 (by first | assumption | exact va_up_self _ _ _) rfl ?_
      refine x_iload_n 1 dX2_pad_64 rfl (by first | rfl | assumption) ?_
      refine x_sipush 255 dX2_pad_65 (by decide) ?_
      refine x_iand dX2_pad_68 ?_
      refine cl_X2_pad_69 (sp_add r4 224) (by first | assumption | exact va_up_self _ _ _) (Nat.le_of_ble_eq_true rfl) ⟨Nat.le_of_ble_eq_true rfl, Nat.le_of_ble_eq_true rfl⟩ (fun r g5 hq => ?_)
      obtain ⟨rfl, r5, s5⟩ := hq
      rw [if_pos (by simp [hL]), List.append_assoc] at r5
      refine x_vret rfl dX2_pad_72 (by decide) (by decide) ?_
      exact ⟨rfl, p4.toL s5 r5, (hs.tr s4).tr s5⟩
    | succ n ih =>
      intro k x h1 hx hk hp1 hs
      subst hx
      have o3 := hp1.1
      have r3 := hp1.2.1
      obtain ⟨f3, q3, -⟩ := id r3
      refine x_iload_n 2 dX2_pad_29 rfl (by first | rfl | assumption) ?_
      refine x_bipush 126 dX2_pad_30 (by decide) ?_
      refine x_icmp_ge 49 dX2_pad_32 (by decide) (fun z => absurd z (nI_ge (b := 126) (by omega) (by omega))) (fun _ => ?_)
      refine x_aload_n 0 dX2_pad_35 rfl (by first | rfl | assumption) ?_
      refine gf_X2_pad_16 dX2_pad_36 (by first | assumption | exact va_up_self _ _ _) rfl ?_
      refine x_iconst 0 dX2_pad_39 (by decide) ?_
      refine cl_X2_pad_40 (sp_add r3 0) (by first | assumption | exact va_up_self _ _ _) (Nat.le_of_ble_eq_true rfl) ⟨Nat.le_of_ble_eq_true rfl, Nat.le_of_ble_eq_true rfl⟩ (fun r g4 hq => ?_)
      obtain ⟨rfl, r4, s4⟩ := hq
      rw [if_pos (by simp [hL]; omega), List.append_assoc, ← List.replicate_succ'] at r4
      refine x_iinc 1 dX2_pad_43 (by first | rfl | assumption) (by decide) (by decide) rfl ?_
      refine x_goto 29 dX2_pad_46 (by decide) ?_
      exact ih (k + 1) _ g4 (by rw [nI_1]; rfl) (by omega) (hp1.toL s4 r4) (hs.tr s4)
  refine loop 65 0 _ g3 ?_ (by omega) (by simpa using p2) s2
  rw [List.length_append, hL]
  rfl
theorem sp_startWords (hp : k_prf h p pb pba pw ph L fw fh) : q_SP G mX2_startWords [.ref p] h 0 0 (fun o h' => o = none ∧ (∃ fh', k_prf h' p pb pba pw ph L fw fh' ∧ ∀ j, j < 5 → fh' j = d_sel d_H0 j) ∧ k_same [ph] h h') := by
  have o1 := hp.1
  have e1 := hp.2.2.2.1
  have i0 : vp_in 0 5 := vp_in_nI (n := 0) (by omega) (by omega)
  have i1 : vp_in 1 5 := vp_in_nI (n := 1) (by omega) (by omega)
  have i2 : vp_in 2 5 := vp_in_nI (n := 2) (by omega) (by omega)
  have i3 : vp_in 3 5 := vp_in_nI (n := 3) (by omega) (by omega)
  have i4 : vp_in 4 5 := vp_in_nI (n := 4) (by omega) (by omega)
  refine q_enter (M := mX2_startWords) (by decide +kernel) rfl (Nat.le_of_ble_eq_true rfl) ?_
  refine x_aload_n 0 dX2_startWords_0 rfl (by first | rfl | assumption) ?_
  refine gf_X2_startWords_24 dX2_startWords_1 (by first | assumption | exact va_up_self _ _ _) rfl ?_
  refine x_iconst 0 dX2_startWords_4 (by decide) ?_
  refine k1_X2_startWords_61 dX2_startWords_5 ?_
  refine x_iast dX2_startWords_7 (by first | assumption | exact va_up_self _ _ _) (by assumption) ?_
  refine x_gen (fun gA oA sA => ?_)
  have pA := hp.toH sA oA
  have o1 := pA.1
  refine x_aload_n 0 dX2_startWords_8 rfl (by first | rfl | assumption) ?_
  refine gf_X2_startWords_24 dX2_startWords_9 (by first | assumption | exact va_up_self _ _ _) rfl ?_
  refine x_iconst 1 dX2_startWords_12 (by decide) ?_
  refine k1_X2_startWords_62 dX2_startWords_13 ?_
  refine x_iast dX2_startWords_15 (by first | assumption | exact va_up_self _ _ _) (by assumption) ?_
  refine x_gen (fun gB oB sB => ?_)
  have pB := pA.toH sB oB
  have o1 := pB.1
  refine x_aload_n 0 dX2_startWords_16 rfl (by first | rfl | assumption) ?_
  refine gf_X2_startWords_24 dX2_startWords_17 (by first | assumption | exact va_up_self _ _ _) rfl ?_
  refine x_iconst 2 dX2_startWords_20 (by decide) ?_
  refine k1_X2_startWords_63 dX2_startWords_21 ?_
  refine x_iast dX2_startWords_23 (by first | assumption | exact va_up_self _ _ _) (by assumption) ?_
  refine x_gen (fun gC oC sC => ?_)
  have pC := pB.toH sC oC
  have o1 := pC.1
  refine x_aload_n 0 dX2_startWords_24 rfl (by first | rfl | assumption) ?_
  refine gf_X2_startWords_24 dX2_startWords_25 (by first | assumption | exact va_up_self _ _ _) rfl ?_
  refine x_iconst 3 dX2_startWords_28 (by decide) ?_
  refine k1_X2_startWords_64 dX2_startWords_29 ?_
  refine x_iast dX2_startWords_31 (by first | assumption | exact va_up_self _ _ _) (by assumption) ?_
  refine x_gen (fun gD oD sD => ?_)
  have pD := pC.toH sD oD
  have o1 := pD.1
  refine x_aload_n 0 dX2_startWords_32 rfl (by first | rfl | assumption) ?_
  refine gf_X2_startWords_24 dX2_startWords_33 (by first | assumption | exact va_up_self _ _ _) rfl ?_
  refine x_iconst 4 dX2_startWords_36 (by decide) ?_
  refine k1_X2_startWords_65 dX2_startWords_37 ?_
  refine x_iast dX2_startWords_39 (by first | assumption | exact va_up_self _ _ _) (by assumption) ?_
  refine x_gen (fun gE oE sE => ?_)
  have pE := pD.toH sE oE
  refine x_vret rfl dX2_startWords_40 (by decide) (by decide) ?_
  refine ⟨rfl, ⟨_, pE, fun j hj => ?_⟩, (((k_same.tr sA sB).tr sC).tr sD).tr sE⟩
  have five : j = 0 ∨ j = 1 ∨ j = 2 ∨ j = 3 ∨ j = 4 := by omega
  rcases five with rfl | rfl | rfl | rfl | rfl <;> rfl
end DigA
