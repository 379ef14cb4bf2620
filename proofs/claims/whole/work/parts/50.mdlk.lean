/-! the reference: the proof in base64 -/
section MdlL
variable {G : q_G} {h0 h : q_H} {B : Nat → Nat} {V : Nat → Value} {F : Nat → Nat → Int32} {l : List Int32}
theorem sm_digestByte {s : d_5} (hm : k_m h0 h B V F) (hs : ∀ j, j < 5 → F 15 j = d_sel s j) {k : Nat} (hk : k ≤ 20) : q_SP G mX7_digestByte [.ref (B 0), .int (nI k)] h 0 0 (fun o h' => o = some (.int (if 19 < k then 0 else d_byte s k)) ∧ h' = h) := by
  refine q_enter (M := mX7_digestByte) (by decide +kernel) rfl (Nat.le_of_ble_eq_true rfl) ?_
  refine x_iload_n 1 dX7_digestByte_0 rfl (by first | rfl | assumption) ?_
  refine x_bipush 19 dX7_digestByte_1 (by decide) ?_
  by_cases c1 : 19 < k
  · rw [if_pos c1]
    refine x_icmp_le 10 dX7_digestByte_3 (by decide) (fun z => absurd z (nI_ge (b := k) (a := 19) c1 (by omega))) (fun _ => ?_)
    refine x_iconst 0 dX7_digestByte_6 (by decide) ?_
    refine x_goto 32 dX7_digestByte_7 (by decide) ?_
    refine x_iret rfl (by first | rfl | assumption | exact z_nb _) dX7_digestByte_32 (by decide) (by decide) ?_
    exact ⟨rfl, rfl⟩
  · rw [if_neg c1]
    have e1 : nI k / 4 = nI (k / 4) := pk_div (d := 4) (by omega) (by omega) (by omega)
    have v0 : vp_in (nI k / 4) 5 := by rw [e1]; exact vp_in_nI (by omega) (by omega)
    refine x_icmp_le 10 dX7_digestByte_3 (by decide) (fun _ => ?_) (fun z => absurd (nI_le (b := 19) (by omega) (by omega)) z)
    refine x_aload_n 0 dX7_digestByte_10 rfl (by first | rfl | assumption) ?_
    refine gf_X7_digestByte_52 dX7_digestByte_11 hm.1 (congrArg some hm.r35) ?_
    refine x_iload_n 1 dX7_digestByte_14 rfl (by first | rfl | assumption) ?_
    refine x_iconst 4 dX7_digestByte_15 (by decide) ?_
    refine x_idiv dX7_digestByte_16 (by decide) ?_
    refine x_iald dX7_digestByte_17 (by first | exact hm.a1 | exact hm.a2 | exact hm.a3 | exact hm.a4 | exact hm.a5 | exact hm.a6 | exact hm.a7 | exact hm.a8 | exact hm.a9 | exact hm.a10 | exact hm.a11 | exact hm.a12 | exact hm.a13 | exact hm.a14 | exact hm.a15) (by assumption) ?_
    refine x_bipush 24 dX7_digestByte_18 (by decide) ?_
    refine x_bipush 8 dX7_digestByte_20 (by decide) ?_
    refine x_iload_n 1 dX7_digestByte_22 rfl (by first | rfl | assumption) ?_
    refine x_iconst 4 dX7_digestByte_23 (by decide) ?_
    refine x_irem dX7_digestByte_24 (by decide) ?_
    rw [show nI k - nI k / 4 * 4 = nI (k % 4) from pk_rem (d := 4) (by omega) (by omega) (by omega), e1, nI_clamp (by omega), hs _ (by omega)]
    refine x_imul dX7_digestByte_25 ?_
    rw [show 8 * nI (k % 4) = nI (8 * (k % 4)) from pk_mul 8 _]
    refine x_isub dX7_digestByte_26 ?_
    rw [show 24 - nI (8 * (k % 4)) = nI (24 - 8 * (k % 4)) from pk_sub (a := 24) (by omega)]
    refine x_ishr dX7_digestByte_27 ?_
    refine x_sipush 255 dX7_digestByte_28 (by decide) ?_
    refine x_iand dX7_digestByte_31 ?_
    refine x_iret rfl (by first | rfl | assumption | exact z_nb _) dX7_digestByte_32 (by decide) (by decide) ?_
    refine ⟨?_, rfl⟩
    unfold d_byte
    have h4 : k % 4 = 0 ∨ k % 4 = 1 ∨ k % 4 = 2 ∨ k % 4 = 3 := by omega
    rcases h4 with h4 | h4 | h4 | h4 <;> rw [h4]
    · rw [m_shr _ (nI (24 - 8 * 0)) 24 8 (by decide) (by decide) (by decide) (by decide) (by decide)]
    · rw [m_shr _ (nI (24 - 8 * 1)) 16 8 (by decide) (by decide) (by decide) (by decide) (by decide)]
    · rw [m_shr _ (nI (24 - 8 * 2)) 8 8 (by decide) (by decide) (by decide) (by decide) (by decide)]
    · rw [m_shr _ (nI (24 - 8 * 3)) 0 8 (by decide) (by decide) (by decide) (by decide) (by decide)]
theorem m_six (x : Int32) (i : Nat) : m_sign (d_six x i) = d_sign x i := by
  obtain ⟨j, hj, e⟩ := d_six_in x i
  unfold d_sign
  rw [e, nI_clamp (by omega)]
  exact m_sign_ch j hj
theorem m_six0 (x : Int32) : x >>> ((18 : Int32) &&& 31) &&& 63 = d_six x 0 := m_shr x 18 18 6 (by decide) (by decide) (by decide) (by decide) (by decide)
theorem m_six1 (x : Int32) : x >>> ((12 : Int32) &&& 31) &&& 63 = d_six x 1 := m_shr x 12 12 6 (by decide) (by decide) (by decide) (by decide) (by decide)
theorem m_six2 (x : Int32) : x >>> ((6 : Int32) &&& 31) &&& 63 = d_six x 2 := m_shr x 6 6 6 (by decide) (by decide) (by decide) (by decide) (by decide)
theorem m_six3 (x : Int32) : x &&& 63 = d_six x 3 := by
  unfold d_six
  rw [pk_and x 6 (by decide), pk_and _ 6 (by decide), pk_ushr x (nI (18 - 6 * 3)) 0 (by decide)]
  simp
theorem sm_proof {out : List Int32} (hm : k_m h0 h B V F) (hl : m_l (F 1) l) (hN : l.length ≤ 400) {p : Nat} (f33 : F 3 3 = nI p) (hp : p + 24 ≤ l.length) (ho : m_o V F out) (hn : out.length + 28 ≤ 800) : q_SP G mX7_proof [.ref (B 0)] h 0 0 (fun o h' => o = none ∧ ∃ V' F', k_m h0 h' B V' F' ∧ (∀ j, j ≠ 9 → V' j = V j) ∧ (∀ j, 5 < j → j < 13 → F' j = F j) ∧ m_o V' F' (out ++ d_proof ((l.drop p).take 24))) := by
  have hpr : d_proof ((l.drop p).take 24) = d_b64 (d_byte (d_all (fun j => (d_msg ((l.drop p).take 24)).getD j 0))) := rfl
  generalize hS : d_all (fun j => (d_msg ((l.drop p).take 24)).getD j 0) = s at hpr
  generalize hE : d_proof ((l.drop p).take 24) = E at hpr
  refine q_enter (M := mX7_proof) (by decide +kernel) rfl (Nat.le_of_ble_eq_true rfl) ?_
  refine x_aload_n 0 dX7_proof_0 rfl (by first | rfl | assumption) ?_
  refine cl_X7_proof_1 (sm_digest hm hl hN f33 hp) hm.1 (Nat.le_of_ble_eq_true rfl) ⟨Nat.le_of_ble_eq_true rfl, Nat.le_of_ble_eq_true rfl⟩ (fun r g0 hq => ?_)
  rw [hS] at hq
  obtain ⟨rfl, F0, hm, e0, s0⟩ := hq
  have o0 : m_o V F0 out := ⟨ho.1, by rw [e0 5 (by decide)]; exact ho.2⟩
  refine x_iconst 0 dX7_proof_4 (by decide) ?_
  refine x_istore_n 1 dX7_proof_5 rfl (by decide) rfl ?_
  -- one round: three signs
  have h40 : ∀ (x y : Int32) (L : List Int32) (h1 : q_H) (V1 : Nat → Value) (F1 : Nat → Nat → Int32) (Q : q_Q), L.length + 4 ≤ 800 → k_m h0 h1 B V1 F1 → m_o V1 F1 L → (∀ (h2 : q_H) (V2 : Nat → Value) (F2 : Nat → Nat → Int32), k_m h0 h2 B V2 F2 → m_oo V1 F1 V2 F2 → m_o V2 F2 (L ++ d_signs y 3) → q_X G mX7_proof (q_R mX7_proof 0 0) (q_FN G Q 0 0) 82 [(0, .ref (B 0)), (1, .int x), (2, .int y)] [] h2 0 0) → q_X G mX7_proof (q_R mX7_proof 0 0) (q_FN G Q 0 0) 40 [(0, .ref (B 0)), (1, .int x), (2, .int y)] [] h1 0 0 := by
    intro x y L h1 V1 F1 Q hL hm o1 kk
    refine x_aload_n 0 dX7_proof_40 rfl (by first | rfl | assumption) ?_
    refine x_iload_n 2 dX7_proof_41 rfl (by first | rfl | assumption) ?_
    refine x_bipush 18 dX7_proof_42 (by decide) ?_
    refine x_ishr dX7_proof_44 ?_
    refine x_bipush 63 dX7_proof_45 (by decide) ?_
    refine x_iand dX7_proof_47 ?_
    rw [m_six0]
    refine cl_X7_proof_48 (sm_sign _) (Nat.le_of_ble_eq_true rfl) ⟨Nat.le_of_ble_eq_true rfl, Nat.le_of_ble_eq_true rfl⟩ (fun r g hq => ?_)
    obtain ⟨rfl, hg⟩ := hq
    rw [hg, m_six]
    refine cl_X7_proof_51 (sm_put1 hm o1 (by omega) _) hm.1 (Nat.le_of_ble_eq_true rfl) ⟨Nat.le_of_ble_eq_true rfl, Nat.le_of_ble_eq_true rfl⟩ (fun r g hq => ?_)
    obtain ⟨rfl, V2, F2, hm, q2, o2⟩ := hq
    refine x_aload_n 0 dX7_proof_54 rfl (by first | rfl | assumption) ?_
    refine x_iload_n 2 dX7_proof_55 rfl (by first | rfl | assumption) ?_
    refine x_bipush 12 dX7_proof_56 (by decide) ?_
    refine x_ishr dX7_proof_58 ?_
    refine x_bipush 63 dX7_proof_59 (by decide) ?_
    refine x_iand dX7_proof_61 ?_
    rw [m_six1]
    refine cl_X7_proof_62 (sm_sign _) (Nat.le_of_ble_eq_true rfl) ⟨Nat.le_of_ble_eq_true rfl, Nat.le_of_ble_eq_true rfl⟩ (fun r g3 hq => ?_)
    obtain ⟨rfl, hg⟩ := hq
    rw [hg, m_six]
    refine cl_X7_proof_65 (sm_put1 hm o2 (by rw [List.length_append]; show _ + 1 < _; omega) _) hm.1 (Nat.le_of_ble_eq_true rfl) ⟨Nat.le_of_ble_eq_true rfl, Nat.le_of_ble_eq_true rfl⟩ (fun r g3 hq => ?_)
    obtain ⟨rfl, V3, F3, hm, q3, o3⟩ := hq
    refine x_aload_n 0 dX7_proof_68 rfl (by first | rfl | assumption) ?_
    refine x_iload_n 2 dX7_proof_69 rfl (by first | rfl | assumption) ?_
    refine x_bipush 6 dX7_proof_70 (by decide) ?_
    refine x_ishr dX7_proof_72 ?_
    refine x_bipush 63 dX7_proof_73 (by decide) ?_
    refine x_iand dX7_proof_75 ?_
    rw [m_six2]
    refine cl_X7_proof_76 (sm_sign _) (Nat.le_of_ble_eq_true rfl) ⟨Nat.le_of_ble_eq_true rfl, Nat.le_of_ble_eq_true rfl⟩ (fun r g4 hq => ?_)
    obtain ⟨rfl, hg⟩ := hq
    rw [hg, m_six]
    refine cl_X7_proof_79 (sm_put1 hm o3 (by rw [List.length_append, List.length_append]; show _ + 1 + 1 < _; omega) _) hm.1 (Nat.le_of_ble_eq_true rfl) ⟨Nat.le_of_ble_eq_true rfl, Nat.le_of_ble_eq_true rfl⟩ (fun r g4 hq => ?_)
    obtain ⟨rfl, V4, F4, hm, q4, o4⟩ := hq
    refine kk _ V4 F4 hm ((q2.tr q3).tr q4) ?_
    rw [List.append_assoc, List.append_assoc] at o4
    exact o4
  have loop : ∀ (m i : Nat) (x : Int32) (h1 : q_H) (V1 : Nat → Value) (F1 : Nat → Nat → Int32) (lv : List (Nat × Value)), x = nI (3 * i) → i + m = 6 → k_m h0 h1 B V1 F1 → m_oo V F0 V1 F1 → m_o V1 F1 (out ++ d_fours (d_byte s) i) →
      q_X G mX7_proof (q_R mX7_proof 0 0) (q_FN G (fun o h' => o = none ∧ ∃ V' F', k_m h0 h' B V' F' ∧ (∀ j, j ≠ 9 → V' j = V j) ∧ (∀ j, 5 < j → j < 13 → F' j = F j) ∧ m_o V' F' (out ++ E)) 0 0) 6 ([(0, .ref (B 0)), (1, .int x)] ++ lv) [] h1 0 0 := by
    intro m
    induction m with
    | zero =>
      intro i x h1 V1 F1 lv hx hi hm q1 o1
      subst hx
      have hi : i = 6 := by omega
      subst hi
      have s1 : ∀ j, j < 5 → F1 15 j = d_sel s j := fun j hj => by rw [q1.2 15 (by decide)]; exact s0 j hj
      have hlen : (out ++ d_fours (d_byte s) 6).length = out.length + 24 := by rw [List.length_append, d_fours_len]
      refine x_take 2 ?_
      refine x_iload_n 1 dX7_proof_6 rfl (by first | rfl | assumption) ?_
      refine x_bipush 20 dX7_proof_7 (by decide) ?_
      refine x_icmp_ge 112 dX7_proof_9 (by decide) (fun z => absurd z (by decide)) (fun _ => ?_)
      refine x_aload_n 0 dX7_proof_12 rfl (by first | rfl | assumption) ?_
      refine x_iload_n 1 dX7_proof_13 rfl (by first | rfl | assumption) ?_
      refine cl_X7_proof_14 (sm_digestByte hm s1 (k := 18) (by omega)) hm.1 (Nat.le_of_ble_eq_true rfl) ⟨Nat.le_of_ble_eq_true rfl, Nat.le_of_ble_eq_true rfl⟩ (fun r g hq => ?_)
      obtain ⟨rfl, hg⟩ := hq
      rw [hg]
      refine x_bipush 16 dX7_proof_17 (by decide) ?_
      refine x_ishl dX7_proof_19 ?_
      refine x_aload_n 0 dX7_proof_20 rfl (by first | rfl | assumption) ?_
      refine x_iload_n 1 dX7_proof_21 rfl (by first | rfl | assumption) ?_
      refine x_iconst 1 dX7_proof_22 (by decide) ?_
      refine x_iadd dX7_proof_23 ?_
      refine cl_X7_proof_24 (sm_digestByte hm s1 (k := 19) (by omega)) hm.1 (Nat.le_of_ble_eq_true rfl) ⟨Nat.le_of_ble_eq_true rfl, Nat.le_of_ble_eq_true rfl⟩ (fun r g hq => ?_)
      obtain ⟨rfl, hg⟩ := hq
      rw [hg]
      refine x_bipush 8 dX7_proof_27 (by decide) ?_
      refine x_ishl dX7_proof_29 ?_
      refine x_ior dX7_proof_30 ?_
      refine x_aload_n 0 dX7_proof_31 rfl (by first | rfl | assumption) ?_
      refine x_iload_n 1 dX7_proof_32 rfl (by first | rfl | assumption) ?_
      refine x_iconst 2 dX7_proof_33 (by decide) ?_
      refine x_iadd dX7_proof_34 ?_
      refine cl_X7_proof_35 (sm_digestByte hm s1 (k := 20) (by omega)) hm.1 (Nat.le_of_ble_eq_true rfl) ⟨Nat.le_of_ble_eq_true rfl, Nat.le_of_ble_eq_true rfl⟩ (fun r g hq => ?_)
      obtain ⟨rfl, hg⟩ := hq
      rw [hg]
      refine x_ior dX7_proof_38 ?_
      rw [if_neg (by decide), if_neg (by decide), if_pos (by decide), Int32.or_zero]
      refine x_istore_n 2 dX7_proof_39 rfl (by decide) rfl ?_
      refine h40 _ _ _ h1 V1 F1 _ (by omega) hm o1 (fun h2 V2 F2 hm q2 o2 => ?_)
      refine x_aload_n 0 dX7_proof_82 rfl (by first | rfl | assumption) ?_
      refine x_iload_n 1 dX7_proof_83 rfl (by first | rfl | assumption) ?_
      refine x_iconst 2 dX7_proof_84 (by decide) ?_
      refine x_iadd dX7_proof_85 ?_
      refine x_bipush 20 dX7_proof_86 (by decide) ?_
      refine x_icmp_ge 101 dX7_proof_88 (by decide) (fun _ => ?_) (fun z => absurd (by decide) z)
      refine x_bipush 61 dX7_proof_101 (by decide) ?_
      refine cl_X7_proof_103 (sm_put1 hm o2 (by rw [List.length_append, hlen, d_signs_len]; omega) _) hm.1 (Nat.le_of_ble_eq_true rfl) ⟨Nat.le_of_ble_eq_true rfl, Nat.le_of_ble_eq_true rfl⟩ (fun r g3 hq => ?_)
      obtain ⟨rfl, V3, F3, hm, q3, o3⟩ := hq
      refine x_iinc 3 dX7_proof_106 (by first | rfl | assumption) (by decide) (by decide) rfl ?_
      refine x_goto 6 dX7_proof_109 (by decide) ?_
      refine x_iload_n 1 dX7_proof_6 rfl (by first | rfl | assumption) ?_
      refine x_bipush 20 dX7_proof_7 (by decide) ?_
      refine x_icmp_ge 112 dX7_proof_9 (by decide) (fun _ => ?_) (fun z => absurd (by decide) z)
      refine x_vret rfl dX7_proof_112 (by decide) (by decide) ?_
      refine ⟨rfl, V3, F3, hm, fun j hj => ((q3.1 j hj).trans (q2.1 j hj)).trans (q1.1 j hj), fun j h5 h13 => (((q3.2 j (by omega)).trans (q2.2 j (by omega))).trans (q1.2 j (by omega))).trans (e0 j (by omega)), ?_⟩
      rw [hpr]
      rw [List.append_assoc, List.append_assoc] at o3
      unfold d_b64
      rw [List.append_assoc]
      exact o3
    | succ m ih =>
      intro i x h1 V1 F1 lv hx hi hm q1 o1
      subst hx
      have s1 : ∀ j, j < 5 → F1 15 j = d_sel s j := fun j hj => by rw [q1.2 15 (by decide)]; exact s0 j hj
      have hlen : (out ++ d_fours (d_byte s) i).length = out.length + 4 * i := by rw [List.length_append, d_fours_len]
      refine x_take 2 ?_
      refine x_iload_n 1 dX7_proof_6 rfl (by first | rfl | assumption) ?_
      refine x_bipush 20 dX7_proof_7 (by decide) ?_
      refine x_icmp_ge 112 dX7_proof_9 (by decide) (fun z => absurd z (nI_ge (b := 20) (by omega) (by omega))) (fun _ => ?_)
      refine x_aload_n 0 dX7_proof_12 rfl (by first | rfl | assumption) ?_
      refine x_iload_n 1 dX7_proof_13 rfl (by first | rfl | assumption) ?_
      refine cl_X7_proof_14 (sm_digestByte hm s1 (k := 3 * i) (by omega)) hm.1 (Nat.le_of_ble_eq_true rfl) ⟨Nat.le_of_ble_eq_true rfl, Nat.le_of_ble_eq_true rfl⟩ (fun r g hq => ?_)
      obtain ⟨rfl, hg⟩ := hq
      rw [hg]
      refine x_bipush 16 dX7_proof_17 (by decide) ?_
      refine x_ishl dX7_proof_19 ?_
      refine x_aload_n 0 dX7_proof_20 rfl (by first | rfl | assumption) ?_
      refine x_iload_n 1 dX7_proof_21 rfl (by first | rfl | assumption) ?_
      refine x_iconst 1 dX7_proof_22 (by decide) ?_
      refine x_iadd dX7_proof_23 ?_
      rw [nI_1]
      refine cl_X7_proof_24 (sm_digestByte hm s1 (k := 3 * i + 1) (by omega)) hm.1 (Nat.le_of_ble_eq_true rfl) ⟨Nat.le_of_ble_eq_true rfl, Nat.le_of_ble_eq_true rfl⟩ (fun r g hq => ?_)
      obtain ⟨rfl, hg⟩ := hq
      rw [hg]
      refine x_bipush 8 dX7_proof_27 (by decide) ?_
      refine x_ishl dX7_proof_29 ?_
      refine x_ior dX7_proof_30 ?_
      refine x_aload_n 0 dX7_proof_31 rfl (by first | rfl | assumption) ?_
      refine x_iload_n 1 dX7_proof_32 rfl (by first | rfl | assumption) ?_
      refine x_iconst 2 dX7_proof_33 (by decide) ?_
      refine x_iadd dX7_proof_34 ?_
      rw [show nI (3 * i) + 2 = nI (3 * i + 2) from nI_add _ 2]
      refine cl_X7_proof_35 (sm_digestByte hm s1 (k := 3 * i + 2) (by omega)) hm.1 (Nat.le_of_ble_eq_true rfl) ⟨Nat.le_of_ble_eq_true rfl, Nat.le_of_ble_eq_true rfl⟩ (fun r g hq => ?_)
      obtain ⟨rfl, hg⟩ := hq
      rw [hg]
      refine x_ior dX7_proof_38 ?_
      rw [if_neg (by omega), if_neg (by omega), if_neg (by omega)]
      refine x_istore_n 2 dX7_proof_39 rfl (by decide) rfl ?_
      refine h40 _ _ _ h1 V1 F1 _ (by omega) hm o1 (fun h2 V2 F2 hm q2 o2 => ?_)
      refine x_aload_n 0 dX7_proof_82 rfl (by first | rfl | assumption) ?_
      refine x_iload_n 1 dX7_proof_83 rfl (by first | rfl | assumption) ?_
      refine x_iconst 2 dX7_proof_84 (by decide) ?_
      refine x_iadd dX7_proof_85 ?_
      refine x_bipush 20 dX7_proof_86 (by decide) ?_
      rw [show nI (3 * i) + 2 = nI (3 * i + 2) from nI_add _ 2]
      refine x_icmp_ge 101 dX7_proof_88 (by decide) (fun z => absurd z (nI_ge (b := 20) (by omega) (by omega))) (fun _ => ?_)
      refine x_iload_n 2 dX7_proof_91 rfl (by first | rfl | assumption) ?_
      refine x_bipush 63 dX7_proof_92 (by decide) ?_
      refine x_iand dX7_proof_94 ?_
      rw [m_six3]
      refine cl_X7_proof_95 (sm_sign _) (Nat.le_of_ble_eq_true rfl) ⟨Nat.le_of_ble_eq_true rfl, Nat.le_of_ble_eq_true rfl⟩ (fun r g3 hq => ?_)
      obtain ⟨rfl, hg⟩ := hq
      rw [hg, m_six]
      refine x_goto 103 dX7_proof_98 (by decide) ?_
      refine cl_X7_proof_103 (sm_put1 hm o2 (by rw [List.length_append, hlen, d_signs_len]; omega) _) hm.1 (Nat.le_of_ble_eq_true rfl) ⟨Nat.le_of_ble_eq_true rfl, Nat.le_of_ble_eq_true rfl⟩ (fun r g3 hq => ?_)
      obtain ⟨rfl, V3, F3, hm, q3, o3⟩ := hq
      refine x_iinc 3 dX7_proof_106 (by first | rfl | assumption) (by decide) (by decide) rfl ?_
      refine x_goto 6 dX7_proof_109 (by decide) ?_
      refine ih (i + 1) _ g3 V3 F3 [(2, _)] ?_ (by omega) hm ((q1.tr q2).tr q3) ?_
      · show nI (3 * i) + 3 = _
        rw [show nI (3 * i) + 3 = nI (3 * i + 3) from nI_add _ 3]
        rfl
      · rw [d_fours_succ]
        rw [List.append_assoc, List.append_assoc] at o3
        exact o3
  exact loop 6 0 _ g0 V F0 [] rfl (by omega) hm m_oo.rf (by rw [show d_fours (d_byte s) 0 = [] from rfl, List.append_nil]; exact o0)
end MdlL
