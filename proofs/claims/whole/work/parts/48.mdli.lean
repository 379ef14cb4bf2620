/-! the reference: the proof -/
section MdlJ
variable {G : q_G} {h0 h : q_H} {B : Nat → Nat} {V : Nat → Value} {F : Nat → Nat → Int32} {l : List Int32}
theorem sm_signs (hm : k_m h0 h B V F) (bs : List Int32) {v : Int64} (hv : m_spl bs v = true) {a : Nat} (ha : a + bs.length ≤ 128) : q_SP G mX7_signs [.ref (B 0), .long v, .int (nI a)] h 0 0 (fun o h' => o = some (.int (nI (a + bs.length))) ∧ ∃ F', k_m h0 h' B V F' ∧ (∀ j, j ≠ 13 → F' j = F j) ∧ (∀ j, j < a ∨ a + bs.length ≤ j → F' 13 j = F 13 j) ∧ ∀ j, j < bs.length → F' 13 (a + j) = bs.getD j 0) := by
  have loop : ∀ (bs1 bs0 : List Int32) (v1 : Int64) (x : Int32) (h1 : q_H) (F1 : Nat → Nat → Int32), bs0 ++ bs1 = bs → m_spl bs1 v1 = true → x = nI (a + bs0.length) → k_m h0 h1 B V F1 → (∀ j, j ≠ 13 → F1 j = F j) → (∀ j, j < a ∨ a + bs0.length ≤ j → F1 13 j = F 13 j) → (∀ j, j < bs0.length → F1 13 (a + j) = bs.getD j 0) →
      q_X G mX7_signs (q_R mX7_signs 0 0) (q_FN G (fun o h' => o = some (.int (nI (a + bs.length))) ∧ ∃ F', k_m h0 h' B V F' ∧ (∀ j, j ≠ 13 → F' j = F j) ∧ (∀ j, j < a ∨ a + bs.length ≤ j → F' 13 j = F 13 j) ∧ ∀ j, j < bs.length → F' 13 (a + j) = bs.getD j 0) 0 0) 6 [(0, .ref (B 0)), (1, .long v), (3, .int (nI a)), (4, .int x), (5, .long v1)] [] h1 0 0 := by
    intro bs1
    induction bs1 with
    | nil =>
      intro bs0 v1 x h1 F1 hb hv9 hx hm e1 e2 e3
      subst hx
      have hv0 : v1 = 0 := of_decide_eq_true hv9
      rw [List.append_nil] at hb
      subst hb
      refine x_lload dX7_signs_6 (by first | rfl | assumption) ?_
      refine x_lconst 0 dX7_signs_8 (by decide) ?_
      refine x_lcmp dX7_signs_9 ?_
      refine x_if_eq 40 dX7_signs_10 (by decide) (fun _ => ?_) (fun z => absurd ((lg_cmp_eq _ _).mpr hv0) z)
      refine x_iload dX7_signs_40 (by first | rfl | assumption) ?_
      refine x_iret rfl (by first | rfl | assumption | exact z_nb _) dX7_signs_42 (by decide) (by decide) ?_
      exact ⟨rfl, F1, hm, e1, e2, e3⟩
    | cons b bs1 ih =>
      intro bs0 v1 x h1 F1 hb hv hx hm e1 e2 e3
      subst hx
      have hlen : bs0.length + 1 + bs1.length = bs.length := by rw [← hb, List.length_append]; show _ = _ + (bs1.length + 1); omega
      unfold m_spl at hv
      simp only [Bool.and_eq_true, Bool.not_eq_true', decide_eq_false_iff_not, decide_eq_true_eq] at hv
      obtain ⟨⟨hv1, hv2⟩, hv3⟩ := hv
      have v0 : vp_in (nI (a + bs0.length)) 128 := vp_in_nI (by omega) (by omega)
      refine x_lload dX7_signs_6 (by first | rfl | assumption) ?_
      refine x_lconst 0 dX7_signs_8 (by decide) ?_
      refine x_lcmp dX7_signs_9 ?_
      refine x_if_eq 40 dX7_signs_10 (by decide) (fun z => absurd z (fun z => hv1 ((lg_cmp_eq _ _).mp z))) (fun _ => ?_)
      refine x_aload_n 0 dX7_signs_13 rfl (by first | rfl | assumption) ?_
      refine gf_X7_signs_46 dX7_signs_14 hm.1 (congrArg some hm.r33) ?_
      refine x_iload dX7_signs_17 (by first | rfl | assumption) ?_
      refine x_lload dX7_signs_19 (by first | rfl | assumption) ?_
      refine k2_X7_signs_62 dX7_signs_21 ?_
      refine x_land dX7_signs_24 ?_
      refine x_l2i dX7_signs_25 ?_
      refine x_iast dX7_signs_26 (by first | exact hm.a1 | exact hm.a2 | exact hm.a3 | exact hm.a4 | exact hm.a5 | exact hm.a6 | exact hm.a7 | exact hm.a8 | exact hm.a9 | exact hm.a10 | exact hm.a11 | exact hm.a12 | exact hm.a13 | exact hm.a14 | exact hm.a15) (by assumption) ?_
      refine x_ga hm (by decide) rfl (fun gm hm => ?_)
      rw [nI_clamp (by omega), hv2] at hm
      refine x_iinc 1 dX7_signs_27 (by first | rfl | assumption) (by decide) (by decide) rfl ?_
      refine x_lload dX7_signs_30 (by first | rfl | assumption) ?_
      refine x_bipush 8 dX7_signs_32 (by decide) ?_
      refine x_lshr dX7_signs_34 ?_
      refine x_lstore dX7_signs_35 (by decide) rfl ?_
      refine x_goto 6 dX7_signs_37 (by decide) ?_
      refine ih (bs0 ++ [b]) _ _ _ _ (by rw [List.append_assoc]; exact hb) hv3 ?_ hm (fun j hj => (m_un hj).trans (e1 j hj)) (fun j hj => ?_) (fun j hj => ?_)
      · rw [List.length_append]; exact nI_1 _
      · rw [List.length_append] at hj
        have h1b : [b].length = 1 := rfl
        show upd (F1 13) _ _ j = _
        rw [pk_un (by omega)]
        exact e2 j (by omega)
      · rw [List.length_append] at hj
        have h1b : [b].length = 1 := rfl
        show upd (F1 13) _ _ (a + j) = _
        by_cases hj2 : j = bs0.length
        · rw [hj2, pk_us, ← hb, List.getD_eq_getElem?_getD, List.getElem?_append_right (Nat.le_refl _), Nat.sub_self]
          rfl
        · rw [pk_un (by omega)]
          exact e3 j (by omega)
  refine q_enter (M := mX7_signs) (by decide +kernel) rfl (Nat.le_of_ble_eq_true rfl) ?_
  refine x_iload_n 3 dX7_signs_0 rfl (by first | rfl | assumption) ?_
  refine x_istore dX7_signs_1 (by decide) rfl ?_
  refine x_lload_n 1 dX7_signs_3 rfl (by first | rfl | assumption) ?_
  refine x_lstore dX7_signs_4 (by decide) rfl ?_
  exact loop bs [] v _ h F rfl hv rfl hm (fun _ _ => rfl) (fun _ _ => rfl) (fun j hj => absurd hj (Nat.not_lt_zero _))
theorem d_W_cg {B1 B2 : Nat → Int32} (hB : ∀ j, j < 64 → B1 j = B2 j) : d_W B1 = d_W B2 := by
  funext t
  induction t using Nat.strongRecOn with
  | ind t ih =>
    by_cases ht : t < 16
    · rw [d_W_lo ht, d_W_lo ht]
      unfold d_word
      rw [hB _ (by omega), hB _ (by omega), hB _ (by omega), hB _ (by omega)]
    · rw [d_W_hi ht, d_W_hi ht, ih _ (by omega), ih _ (by omega), ih _ (by omega), ih _ (by omega)]
theorem m_app {a b : List Int32} {k : Nat} : (a ++ b).getD k 0 = if k < a.length then a.getD k 0 else b.getD (k - a.length) 0 := by
  by_cases hk : k < a.length
  · rw [if_pos hk, List.getD_eq_getElem?_getD, List.getElem?_append_left hk, ← List.getD_eq_getElem?_getD]
  · rw [if_neg hk, List.getD_eq_getElem?_getD, List.getElem?_append_right (by omega), ← List.getD_eq_getElem?_getD]
theorem m_msg {K T : List Int32} (hK : K.length = 24) (hT : T.length = 36) (k : Nat) : (K ++ T ++ [128] ++ List.replicate 65 0 ++ [1, 224]).getD k 0 = if k < 24 then K.getD k 0 else if k < 60 then T.getD (k - 24) 0 else ([128] ++ List.replicate 65 0 ++ [1, 224] : List Int32).getD (k - 60) 0 := by
  rw [show K ++ T ++ [128] ++ List.replicate 65 0 ++ [1, 224] = K ++ (T ++ ([128] ++ List.replicate 65 0 ++ [1, 224])) by simp only [List.append_assoc], m_app, hK]
  by_cases h1 : k < 24
  · rw [if_pos h1, if_pos h1]
  · rw [if_neg h1, if_neg h1, m_app, hT]
    by_cases h2 : k < 60
    · rw [if_pos (by omega), if_pos h2]
    · rw [if_neg (by omega), if_neg h2, show k - 24 - 36 = k - 60 by omega]
theorem m_tail : ∀ i, i < 5 → ∀ k, k < 8 → (((q_byt.getD 11 []).drop (8 * i)).take 8).getD k 0 = (q_byt.getD 11 []).getD (8 * i + k) 0 := by decide +kernel
theorem sm_digest (hm : k_m h0 h B V F) (hl : m_l (F 1) l) (hN : l.length ≤ 400) {p : Nat} (f33 : F 3 3 = nI p) (hp : p + 24 ≤ l.length) : q_SP G mX7_digest [.ref (B 0)] h 0 0 (fun o h' => o = none ∧ ∃ F', k_m h0 h' B V F' ∧ (∀ j, (j ≠ 13 ∧ j ≠ 14) ∧ j ≠ 15 → F' j = F j) ∧ ∀ j, j < 5 → F' 15 j = d_sel (d_all (fun j => (d_msg ((l.drop p).take 24)).getD j 0)) j) := by
  have hkey : ((l.drop p).take 24).length = 24 := by rw [List.length_take, List.length_drop]; omega
  have hkj : ∀ j, j < 24 → ((l.drop p).take 24).getD j 0 = l.getD (p + j) 0 := fun j hj => by
    rw [List.getD_eq_getElem?_getD, List.getD_eq_getElem?_getD, List.getElem?_take, if_pos hj, List.getElem?_drop]
  generalize hD : d_all (fun j => (d_msg ((l.drop p).take 24)).getD j 0) = D
  have i3 : vp_in 3 5 := vp_in_nI (n := 3) (by omega) (by omega)
  -- behind the loop
  have h44 : ∀ (x : Int32) (h1 : q_H) (F1 : Nat → Nat → Int32), k_m h0 h1 B V F1 → (∀ j, j ≠ 13 → F1 j = F j) → (∀ j, j < 128 → F1 13 j = if j < 24 then l.getD (p + j) 0 else 0) →
      q_X G mX7_digest (q_R mX7_digest 0 0) (q_FN G (fun o h' => o = none ∧ ∃ F', k_m h0 h' B V F' ∧ (∀ j, (j ≠ 13 ∧ j ≠ 14) ∧ j ≠ 15 → F' j = F j) ∧ ∀ j, j < 5 → F' 15 j = d_sel D j) 0 0) 44 [(0, .ref (B 0)), (1, .int x)] [] h1 0 0 := by
    intro x h1 F1 hm e1 b1
    refine x_bipush 24 dX7_digest_44 (by decide) ?_
    refine x_istore_n 1 dX7_digest_46 rfl (by decide) rfl ?_
    refine x_aload_n 0 dX7_digest_47 rfl (by first | rfl | assumption) ?_
    refine k2_X7_digest_167 dX7_digest_48 ?_
    refine x_iload_n 1 dX7_digest_51 rfl (by first | rfl | assumption) ?_
    refine cl_X7_digest_52 (sm_signs hm (((q_byt.getD 11 []).drop (8 * 0)).take 8) (a := 24) (by decide +kernel) (by decide)) hm.1 (Nat.le_of_ble_eq_true rfl) ⟨Nat.le_of_ble_eq_true rfl, Nat.le_of_ble_eq_true rfl⟩ (fun r g2 hq => ?_)
    obtain ⟨rfl, F2, hm, e2, b2, c2⟩ := hq
    refine x_istore_n 1 dX7_digest_55 rfl (by decide) rfl ?_
    refine x_aload_n 0 dX7_digest_56 rfl (by first | rfl | assumption) ?_
    refine k2_X7_digest_173 dX7_digest_57 ?_
    refine x_iload_n 1 dX7_digest_60 rfl (by first | rfl | assumption) ?_
    refine cl_X7_digest_61 (sm_signs hm (((q_byt.getD 11 []).drop (8 * 1)).take 8) (a := 32) (by decide +kernel) (by decide)) hm.1 (Nat.le_of_ble_eq_true rfl) ⟨Nat.le_of_ble_eq_true rfl, Nat.le_of_ble_eq_true rfl⟩ (fun r g3 hq => ?_)
    obtain ⟨rfl, F3, hm, e3, b3, c3⟩ := hq
    refine x_istore_n 1 dX7_digest_64 rfl (by decide) rfl ?_
    refine x_aload_n 0 dX7_digest_65 rfl (by first | rfl | assumption) ?_
    refine k2_X7_digest_175 dX7_digest_66 ?_
    refine x_iload_n 1 dX7_digest_69 rfl (by first | rfl | assumption) ?_
    refine cl_X7_digest_70 (sm_signs hm (((q_byt.getD 11 []).drop (8 * 2)).take 8) (a := 40) (by decide +kernel) (by decide)) hm.1 (Nat.le_of_ble_eq_true rfl) ⟨Nat.le_of_ble_eq_true rfl, Nat.le_of_ble_eq_true rfl⟩ (fun r g4 hq => ?_)
    obtain ⟨rfl, F4, hm, e4, b4, c4⟩ := hq
    refine x_istore_n 1 dX7_digest_73 rfl (by decide) rfl ?_
    refine x_aload_n 0 dX7_digest_74 rfl (by first | rfl | assumption) ?_
    refine k2_X7_digest_177 dX7_digest_75 ?_
    refine x_iload_n 1 dX7_digest_78 rfl (by first | rfl | assumption) ?_
    refine cl_X7_digest_79 (sm_signs hm (((q_byt.getD 11 []).drop (8 * 3)).take 8) (a := 48) (by decide +kernel) (by decide)) hm.1 (Nat.le_of_ble_eq_true rfl) ⟨Nat.le_of_ble_eq_true rfl, Nat.le_of_ble_eq_true rfl⟩ (fun r g5 hq => ?_)
    obtain ⟨rfl, F5, hm, e5, b5, c5⟩ := hq
    refine x_istore_n 1 dX7_digest_82 rfl (by decide) rfl ?_
    refine x_aload_n 0 dX7_digest_83 rfl (by first | rfl | assumption) ?_
    refine k2_X7_digest_179 dX7_digest_84 ?_
    refine x_iload_n 1 dX7_digest_87 rfl (by first | rfl | assumption) ?_
    refine cl_X7_digest_88 (sm_signs hm (((q_byt.getD 11 []).drop (8 * 4)).take 8) (a := 56) (by decide +kernel) (by decide)) hm.1 (Nat.le_of_ble_eq_true rfl) ⟨Nat.le_of_ble_eq_true rfl, Nat.le_of_ble_eq_true rfl⟩ (fun r g6 hq => ?_)
    obtain ⟨rfl, F6, hm, e6, b6, c6⟩ := hq
    replace b2 : ∀ j, j < 24 ∨ 32 ≤ j → F2 13 j = F1 13 j := b2
    replace b3 : ∀ j, j < 32 ∨ 40 ≤ j → F3 13 j = F2 13 j := b3
    replace b4 : ∀ j, j < 40 ∨ 48 ≤ j → F4 13 j = F3 13 j := b4
    replace b5 : ∀ j, j < 48 ∨ 56 ≤ j → F5 13 j = F4 13 j := b5
    replace b6 : ∀ j, j < 56 ∨ 60 ≤ j → F6 13 j = F5 13 j := b6
    replace c2 : ∀ j, j < 8 → F2 13 (24 + j) = (((q_byt.getD 11 []).drop (8 * 0)).take 8).getD j 0 := c2
    replace c3 : ∀ j, j < 8 → F3 13 (32 + j) = (((q_byt.getD 11 []).drop (8 * 1)).take 8).getD j 0 := c3
    replace c4 : ∀ j, j < 8 → F4 13 (40 + j) = (((q_byt.getD 11 []).drop (8 * 2)).take 8).getD j 0 := c4
    replace c5 : ∀ j, j < 8 → F5 13 (48 + j) = (((q_byt.getD 11 []).drop (8 * 3)).take 8).getD j 0 := c5
    replace c6 : ∀ j, j < 4 → F6 13 (56 + j) = (((q_byt.getD 11 []).drop (8 * 4)).take 8).getD j 0 := c6
    have w60 : vp_in 60 128 := vp_in_nI (n := 60) (by omega) (by omega)
    have w126 : vp_in 126 128 := vp_in_nI (n := 126) (by omega) (by omega)
    have w127 : vp_in 127 128 := vp_in_nI (n := 127) (by omega) (by omega)
    have i0 : vp_in 0 5 := vp_in_nI (n := 0) (by omega) (by omega)
    have i1 : vp_in 1 5 := vp_in_nI (n := 1) (by omega) (by omega)
    have i2 : vp_in 2 5 := vp_in_nI (n := 2) (by omega) (by omega)
    have i4 : vp_in 4 5 := vp_in_nI (n := 4) (by omega) (by omega)
    refine x_istore_n 1 dX7_digest_91 rfl (by decide) rfl ?_
    refine (show q_X G mX7_digest _ _ 92 [(0, .ref (B 0)), (1, .int 60)] [] _ _ _ from ?_)
    refine x_aload_n 0 dX7_digest_92 rfl (by first | rfl | assumption) ?_
    refine gf_X7_digest_46 dX7_digest_93 hm.1 (congrArg some hm.r33) ?_
    refine x_iload_n 1 dX7_digest_96 rfl (by first | rfl | assumption) ?_
    refine x_sipush 128 dX7_digest_97 (by decide) ?_
    refine x_iast dX7_digest_100 (by first | exact hm.a1 | exact hm.a2 | exact hm.a3 | exact hm.a4 | exact hm.a5 | exact hm.a6 | exact hm.a7 | exact hm.a8 | exact hm.a9 | exact hm.a10 | exact hm.a11 | exact hm.a12 | exact hm.a13 | exact hm.a14 | exact hm.a15) (by assumption) ?_
    refine x_ga hm (by decide) rfl (fun gm hm => ?_)
    refine x_aload_n 0 dX7_digest_101 rfl (by first | rfl | assumption) ?_
    refine gf_X7_digest_46 dX7_digest_102 hm.1 (congrArg some hm.r33) ?_
    refine x_bipush 126 dX7_digest_105 (by decide) ?_
    refine x_iconst 1 dX7_digest_107 (by decide) ?_
    refine x_iast dX7_digest_108 (by first | exact hm.a1 | exact hm.a2 | exact hm.a3 | exact hm.a4 | exact hm.a5 | exact hm.a6 | exact hm.a7 | exact hm.a8 | exact hm.a9 | exact hm.a10 | exact hm.a11 | exact hm.a12 | exact hm.a13 | exact hm.a14 | exact hm.a15) (by assumption) ?_
    refine x_ga hm (by decide) rfl (fun gm hm => ?_)
    refine x_aload_n 0 dX7_digest_109 rfl (by first | rfl | assumption) ?_
    refine gf_X7_digest_46 dX7_digest_110 hm.1 (congrArg some hm.r33) ?_
    refine x_bipush 127 dX7_digest_113 (by decide) ?_
    refine x_sipush 224 dX7_digest_115 (by decide) ?_
    refine x_iast dX7_digest_118 (by first | exact hm.a1 | exact hm.a2 | exact hm.a3 | exact hm.a4 | exact hm.a5 | exact hm.a6 | exact hm.a7 | exact hm.a8 | exact hm.a9 | exact hm.a10 | exact hm.a11 | exact hm.a12 | exact hm.a13 | exact hm.a14 | exact hm.a15) (by assumption) ?_
    refine x_ga hm (by decide) rfl (fun gm hm => ?_)
    refine x_aload_n 0 dX7_digest_119 rfl (by first | rfl | assumption) ?_
    refine gf_X7_digest_52 dX7_digest_120 hm.1 (congrArg some hm.r35) ?_
    refine x_iconst 0 dX7_digest_123 (by decide) ?_
    refine k1_X7_digest_181 dX7_digest_124 ?_
    refine x_iast dX7_digest_126 (by first | exact hm.a1 | exact hm.a2 | exact hm.a3 | exact hm.a4 | exact hm.a5 | exact hm.a6 | exact hm.a7 | exact hm.a8 | exact hm.a9 | exact hm.a10 | exact hm.a11 | exact hm.a12 | exact hm.a13 | exact hm.a14 | exact hm.a15) (by assumption) ?_
    refine x_ga hm (by decide) rfl (fun gm hm => ?_)
    refine x_aload_n 0 dX7_digest_127 rfl (by first | rfl | assumption) ?_
    refine gf_X7_digest_52 dX7_digest_128 hm.1 (congrArg some hm.r35) ?_
    refine x_iconst 1 dX7_digest_131 (by decide) ?_
    refine k1_X7_digest_182 dX7_digest_132 ?_
    refine x_iast dX7_digest_134 (by first | exact hm.a1 | exact hm.a2 | exact hm.a3 | exact hm.a4 | exact hm.a5 | exact hm.a6 | exact hm.a7 | exact hm.a8 | exact hm.a9 | exact hm.a10 | exact hm.a11 | exact hm.a12 | exact hm.a13 | exact hm.a14 | exact hm.a15) (by assumption) ?_
    refine x_ga hm (by decide) rfl (fun gm hm => ?_)
    refine x_aload_n 0 dX7_digest_135 rfl (by first | rfl | assumption) ?_
    refine gf_X7_digest_52 dX7_digest_136 hm.1 (congrArg some hm.r35) ?_
    refine x_iconst 2 dX7_digest_139 (by decide) ?_
    refine k1_X7_digest_183 dX7_digest_140 ?_
    refine x_iast dX7_digest_142 (by first | exact hm.a1 | exact hm.a2 | exact hm.a3 | exact hm.a4 | exact hm.a5 | exact hm.a6 | exact hm.a7 | exact hm.a8 | exact hm.a9 | exact hm.a10 | exact hm.a11 | exact hm.a12 | exact hm.a13 | exact hm.a14 | exact hm.a15) (by assumption) ?_
    refine x_ga hm (by decide) rfl (fun gm hm => ?_)
    refine x_aload_n 0 dX7_digest_143 rfl (by first | rfl | assumption) ?_
    refine gf_X7_digest_52 dX7_digest_144 hm.1 (congrArg some hm.r35) ?_
    refine x_iconst 3 dX7_digest_147 (by decide) ?_
    refine k1_X7_digest_184 dX7_digest_148 ?_
    refine x_iast dX7_digest_150 (by first | exact hm.a1 | exact hm.a2 | exact hm.a3 | exact hm.a4 | exact hm.a5 | exact hm.a6 | exact hm.a7 | exact hm.a8 | exact hm.a9 | exact hm.a10 | exact hm.a11 | exact hm.a12 | exact hm.a13 | exact hm.a14 | exact hm.a15) (by assumption) ?_
    refine x_ga hm (by decide) rfl (fun gm hm => ?_)
    refine x_aload_n 0 dX7_digest_151 rfl (by first | rfl | assumption) ?_
    refine gf_X7_digest_52 dX7_digest_152 hm.1 (congrArg some hm.r35) ?_
    refine x_iconst 4 dX7_digest_155 (by decide) ?_
    refine k1_X7_digest_185 dX7_digest_156 ?_
    refine x_iast dX7_digest_158 (by first | exact hm.a1 | exact hm.a2 | exact hm.a3 | exact hm.a4 | exact hm.a5 | exact hm.a6 | exact hm.a7 | exact hm.a8 | exact hm.a9 | exact hm.a10 | exact hm.a11 | exact hm.a12 | exact hm.a13 | exact hm.a14 | exact hm.a15) (by assumption) ?_
    refine x_ga hm (by decide) rfl (fun gm hm => ?_)
    obtain ⟨F7, hF7, hm⟩ : ∃ F7, F7 = _ ∧ k_m h0 gm B V F7 := ⟨_, rfl, hm⟩
    have e7 : ∀ j, j ≠ 13 ∧ j ≠ 15 → F7 j = F j := fun j hj => by
      rw [hF7, m_un hj.2, m_un hj.2, m_un hj.2, m_un hj.2, m_un hj.2, m_un hj.1, m_un hj.1, m_un hj.1, e6 j hj.1, e5 j hj.1, e4 j hj.1, e3 j hj.1, e2 j hj.1, e1 j hj.1]
    have b7 : F7 13 = upd (upd (upd (F6 13) 60 128) 126 1) 127 224 := by rw [hF7]; rfl
    have s7 : ∀ j, j < 5 → F7 15 j = d_sel d_H0 j := by
      intro j hj
      have five : j = 0 ∨ j = 1 ∨ j = 2 ∨ j = 3 ∨ j = 4 := by omega
      rw [hF7]
      rcases five with rfl | rfl | rfl | rfl | rfl <;> rfl
    have t7 : ∀ j, j < 128 → F7 13 j = (d_msg ((l.drop p).take 24)).getD j 0 := by
      intro j hj
      rw [b7]
      have mm := m_msg (T := q_byt.getD 11 []) hkey rfl j
      rw [show (d_msg ((l.drop p).take 24)).getD j 0 = _ from mm]
      by_cases j1 : j < 60
      · rw [pk_un (by omega), pk_un (by omega), pk_un (by omega)]
        by_cases j2 : j < 24
        · rw [if_pos j2, hkj j j2, b6 j (by omega), b5 j (by omega), b4 j (by omega), b3 j (by omega), b2 j (by omega), b1 j hj, if_pos j2]
        · rw [if_neg j2, if_pos j1]
          by_cases j3 : j < 32
          · rw [b6 j (by omega), b5 j (by omega), b4 j (by omega), b3 j (by omega), show j = 24 + (j - 24) by omega, c2 _ (by omega), m_tail 0 (by decide) _ (by omega)]
            congr 1; omega
          · by_cases j4 : j < 40
            · rw [b6 j (by omega), b5 j (by omega), b4 j (by omega), show j = 32 + (j - 32) by omega, c3 _ (by omega), m_tail 1 (by decide) _ (by omega)]
              congr 1; omega
            · by_cases j5 : j < 48
              · rw [b6 j (by omega), b5 j (by omega), show j = 40 + (j - 40) by omega, c4 _ (by omega), m_tail 2 (by decide) _ (by omega)]
                congr 1; omega
              · by_cases j6 : j < 56
                · rw [b6 j (by omega), show j = 48 + (j - 48) by omega, c5 _ (by omega), m_tail 3 (by decide) _ (by omega)]
                  congr 1; omega
                · rw [show j = 56 + (j - 56) by omega, c6 _ (by omega), m_tail 4 (by decide) _ (by omega)]
                  congr 1; omega
      · rw [if_neg (by omega), if_neg j1]
        have fin : ∀ k, k < 68 → (([128] ++ List.replicate 65 0 ++ [1, 224] : List Int32)).getD k 0 = if k = 0 then 128 else if k = 66 then 1 else if k = 67 then 224 else 0 := by decide +kernel
        rw [fin _ (by omega)]
        by_cases k0 : j = 60
        · rw [k0]; rfl
        · by_cases k1 : j = 126
          · rw [k1]; rfl
          · by_cases k2 : j = 127
            · rw [k2]; rfl
            · rw [pk_un k2, pk_un k1, pk_un k0, if_neg (by omega), if_neg (by omega), if_neg (by omega), b6 j (by omega), b5 j (by omega), b4 j (by omega), b3 j (by omega), b2 j (by omega), b1 j hj, if_neg (by omega)]
    refine x_aload_n 0 dX7_digest_159 rfl (by first | rfl | assumption) ?_
    refine x_iconst 0 dX7_digest_160 (by decide) ?_
    refine cl_X7_digest_161 (sm_mix (f := 0) hm (by omega) s7) hm.1 (Nat.le_of_ble_eq_true rfl) ⟨Nat.le_of_ble_eq_true rfl, Nat.le_of_ble_eq_true rfl⟩ (fun r g8 hq => ?_)
    obtain ⟨rfl, F8, hm, e8, s8⟩ := hq
    refine x_aload_n 0 dX7_digest_164 rfl (by first | rfl | assumption) ?_
    refine x_bipush 64 dX7_digest_165 (by decide) ?_
    refine cl_X7_digest_167 (sm_mix (f := 64) hm (by omega) s8) hm.1 (Nat.le_of_ble_eq_true rfl) ⟨Nat.le_of_ble_eq_true rfl, Nat.le_of_ble_eq_true rfl⟩ (fun r g9 hq => ?_)
    obtain ⟨rfl, F9, hm, e9, s9⟩ := hq
    refine x_vret rfl dX7_digest_170 (by decide) (by decide) ?_
    refine ⟨rfl, F9, hm, fun j hj => ((e9 j ⟨hj.1.2, hj.2⟩).trans (e8 j ⟨hj.1.2, hj.2⟩)).trans (e7 j ⟨hj.1.1, hj.2⟩), fun j hj => ?_⟩
    rw [s9 j hj, ← hD]
    have w1 : d_W (fun i => F7 13 (0 + i)) = d_W (fun j => (d_msg ((l.drop p).take 24)).getD j 0) := d_W_cg (fun j hj => by show F7 13 (0 + j) = _; rw [Nat.zero_add]; exact t7 j (by omega))
    have w2 : d_W (fun i => F8 13 (64 + i)) = d_W (fun j => (d_msg ((l.drop p).take 24)).getD (64 + j) 0) := d_W_cg (fun j hj => by show F8 13 (64 + j) = _; rw [e8 13 (by decide)]; exact t7 (64 + j) (by omega))
    rw [w1, w2]
    rfl
  have loop : ∀ (m k : Nat) (x : Int32) (h1 : q_H) (F1 : Nat → Nat → Int32), x = nI k → k + m = 128 → k_m h0 h1 B V F1 → (∀ j, j ≠ 13 → F1 j = F j) → (∀ j, j < k → F1 13 j = if j < 24 then l.getD (p + j) 0 else 0) →
      q_X G mX7_digest (q_R mX7_digest 0 0) (q_FN G (fun o h' => o = none ∧ ∃ F', k_m h0 h' B V F' ∧ (∀ j, (j ≠ 13 ∧ j ≠ 14) ∧ j ≠ 15 → F' j = F j) ∧ ∀ j, j < 5 → F' 15 j = d_sel D j) 0 0) 2 [(0, .ref (B 0)), (1, .int x)] [] h1 0 0 := by
    intro m
    induction m with
    | zero =>
      intro k x h1 F1 hx hk hm e1 b1
      subst hx
      have hk : k = 128 := by omega
      subst hk
      refine x_iload_n 1 dX7_digest_2 rfl (by first | rfl | assumption) ?_
      refine x_sipush 128 dX7_digest_3 (by decide) ?_
      refine x_icmp_ge 44 dX7_digest_6 (by decide) (fun _ => ?_) (fun z => absurd (Int32.le_refl _) z)
      exact h44 _ h1 F1 hm e1 b1
    | succ m ih =>
      intro k x h1 F1 hx hk hm e1 b1
      subst hx
      have v0 : vp_in (nI k) 128 := vp_in_nI (by omega) (by omega)
      have h37 : ∀ y : Int32, y = (if k < 24 then l.getD (p + k) 0 else 0) → q_X G mX7_digest (q_R mX7_digest 0 0) (q_FN G (fun o h' => o = none ∧ ∃ F', k_m h0 h' B V F' ∧ (∀ j, (j ≠ 13 ∧ j ≠ 14) ∧ j ≠ 15 → F' j = F j) ∧ ∀ j, j < 5 → F' 15 j = d_sel D j) 0 0) 37 [(0, .ref (B 0)), (1, .int (nI k))] [.int y, .int (nI k), .ref (B 13)] h1 0 0 := by
        intro y hy
        refine x_iast dX7_digest_37 (by first | exact hm.a1 | exact hm.a2 | exact hm.a3 | exact hm.a4 | exact hm.a5 | exact hm.a6 | exact hm.a7 | exact hm.a8 | exact hm.a9 | exact hm.a10 | exact hm.a11 | exact hm.a12 | exact hm.a13 | exact hm.a14 | exact hm.a15) (by assumption) ?_
        refine x_ga hm (by decide) rfl (fun gm hm => ?_)
        rw [nI_clamp (by omega)] at hm
        refine x_iinc 1 dX7_digest_38 (by first | rfl | assumption) (by decide) (by decide) rfl ?_
        refine x_goto 2 dX7_digest_41 (by decide) ?_
        refine ih (k + 1) _ _ _ (nI_1 k) (by omega) hm (fun j hj => (m_un hj).trans (e1 j hj)) (fun j hj => ?_)
        show upd (F1 13) k y j = _
        by_cases hjk : j = k
        · rw [hjk, pk_us]; exact hy
        · rw [pk_un hjk]; exact b1 j (by omega)
      refine x_iload_n 1 dX7_digest_2 rfl (by first | rfl | assumption) ?_
      refine x_sipush 128 dX7_digest_3 (by decide) ?_
      refine x_icmp_ge 44 dX7_digest_6 (by decide) (fun z => absurd z (nI_ge (b := 128) (by omega) (by omega))) (fun _ => ?_)
      refine x_aload_n 0 dX7_digest_9 rfl (by first | rfl | assumption) ?_
      refine gf_X7_digest_46 dX7_digest_10 hm.1 (congrArg some hm.r33) ?_
      refine x_iload_n 1 dX7_digest_13 rfl (by first | rfl | assumption) ?_
      refine x_iload_n 1 dX7_digest_14 rfl (by first | rfl | assumption) ?_
      refine x_bipush 24 dX7_digest_15 (by decide) ?_
      by_cases c1 : k < 24
      · refine x_icmp_ge 36 dX7_digest_17 (by decide) (fun z => absurd z (nI_ge (b := 24) c1 (by omega))) (fun _ => ?_)
        have q3 : F1 3 (3 : Int32).toNatClampNeg = nI p := by rw [e1 3 (by decide)]; exact f33
        refine x_aload_n 0 dX7_digest_20 rfl (by first | rfl | assumption) ?_
        refine gf_X7_digest_7 dX7_digest_21 hm.1 (congrArg some hm.r3) ?_
        refine x_aload_n 0 dX7_digest_24 rfl (by first | rfl | assumption) ?_
        refine gf_X7_digest_16 dX7_digest_25 hm.1 (congrArg some hm.r6) ?_
        refine x_iconst 3 dX7_digest_28 (by decide) ?_
        refine x_iald dX7_digest_29 (by first | exact hm.a1 | exact hm.a2 | exact hm.a3 | exact hm.a4 | exact hm.a5 | exact hm.a6 | exact hm.a7 | exact hm.a8 | exact hm.a9 | exact hm.a10 | exact hm.a11 | exact hm.a12 | exact hm.a13 | exact hm.a14 | exact hm.a15) (by assumption) ?_
        refine x_iload_n 1 dX7_digest_30 rfl (by first | rfl | assumption) ?_
        rw [q3]
        have ep : nI p + nI k = nI (p + k) := nI_add p k
        have vp : vp_in (nI p + nI k) 400 := by rw [ep]; exact vp_in_nI (by omega) (by omega)
        refine x_iadd dX7_digest_31 ?_
        refine x_iald dX7_digest_32 (by first | exact hm.a1 | exact hm.a2 | exact hm.a3 | exact hm.a4 | exact hm.a5 | exact hm.a6 | exact hm.a7 | exact hm.a8 | exact hm.a9 | exact hm.a10 | exact hm.a11 | exact hm.a12 | exact hm.a13 | exact hm.a14 | exact hm.a15) (by assumption) ?_
        rw [ep, m_get (F := F1) (l := l) (by rw [e1 1 (by decide)]; exact hl) (by omega) hN]
        refine x_goto 37 dX7_digest_33 (by decide) ?_
        exact h37 _ (by rw [if_pos c1])
      · refine x_icmp_ge 36 dX7_digest_17 (by decide) (fun _ => ?_) (fun z => absurd (nI_le (a := 24) (by omega) (by omega)) z)
        refine x_iconst 0 dX7_digest_36 (by decide) ?_
        exact h37 _ (by rw [if_neg c1])
  refine q_enter (M := mX7_digest) (by decide +kernel) rfl (Nat.le_of_ble_eq_true rfl) ?_
  refine x_iconst 0 dX7_digest_0 (by decide) ?_
  refine x_istore_n 1 dX7_digest_1 rfl (by decide) rfl ?_
  exact loop 128 0 _ h F rfl (by omega) hm (fun _ _ => rfl) (fun j hj => absurd hj (Nat.not_lt_zero _))
end MdlJ
