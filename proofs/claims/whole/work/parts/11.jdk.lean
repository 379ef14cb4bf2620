/-! the JDK's own methods that are reached: texts, floorMod, min -/
section JdkA
variable {G : q_G} {h : q_H}
theorem nx_and (a b : Nat) : nI a &&& nI b = nI (a &&& b) := by
  apply Int32.toBitVec_inj.mp
  show BitVec.ofNat 32 a &&& BitVec.ofNat 32 b = BitVec.ofNat 32 (a &&& b)
  exact (BitVec.ofNat_and).symm
theorem nx_xor (a b : Nat) : nI a ^^^ nI b = nI (a ^^^ b) := by
  apply Int32.toBitVec_inj.mp
  show BitVec.ofNat 32 a ^^^ BitVec.ofNat 32 b = BitVec.ofNat 32 (a ^^^ b)
  exact (BitVec.ofNat_xor).symm
/-- sign k of text i -/
def q_ch (i k : Nat) : Int32 := (q_byt.getD i []).getD k 0
theorem q_byt_ok : ∀ i, i < 16 → q_len.getD i 0 = (q_byt.getD i []).length ∧ (q_byt.getD i []).length < 200 ∧ ∀ b ∈ q_byt.getD i [], b &&& 255 = b ∧ (b.toUInt32 % 65536).toInt32 = b ∧ 0 ≤ b ∧ b < 128 := by decide +kernel
theorem q_ch_ok {i k : Nat} (hi : i < 16) (hk : k < q_len.getD i 0) : q_ch i k &&& 255 = q_ch i k ∧ ((q_ch i k).toUInt32 % 65536).toInt32 = q_ch i k ∧ 0 ≤ q_ch i k ∧ q_ch i k < 128 := by
  obtain ⟨h1, -, h3⟩ := q_byt_ok i hi
  refine h3 _ ?_
  unfold q_ch
  rw [h1] at hk
  generalize q_byt.getD i [] = l at hk ⊢
  rw [List.getD_eq_getElem?_getD, List.getElem?_eq_getElem hk]
  exact List.getElem_mem hk
theorem sp_min (x y : Int32) : q_SP G mJ9_min_7cf53 [.int x, .int y] h 0 0 (fun o h' => o = some (.int (if y < x then y else x)) ∧ h' = h) := by
  refine q_enter (M := mJ9_min_7cf53) (by decide +kernel) rfl (Nat.le_of_ble_eq_true rfl) ?_
  refine x_iload_n 0 dJ9_min_7cf53_0 rfl (by first | rfl | assumption) ?_
  refine x_iload_n 1 dJ9_min_7cf53_1 rfl (by first | rfl | assumption) ?_
  refine x_icmp_gt 9 dJ9_min_7cf53_2 (by decide) (fun c2 => ?_) (fun c2 => ?_)
  · refine x_iload_n 1 dJ9_min_7cf53_9 rfl (by first | rfl | assumption) ?_
    refine x_iret rfl (by first | rfl | assumption | exact z_nb _ | decide) dJ9_min_7cf53_10 (by decide) (by decide) ?_
    exact ⟨by simp [*], rfl⟩
  · refine x_iload_n 0 dJ9_min_7cf53_5 rfl (by first | rfl | assumption) ?_
    refine x_goto 10 dJ9_min_7cf53_6 (by decide) ?_
    refine x_iret rfl (by first | rfl | assumption | exact z_nb _ | decide) dJ9_min_7cf53_10 (by decide) (by decide) ?_
    exact ⟨by simp [*], rfl⟩
/-- floorMod by four, of what isn't negative -/
theorem sp_mod4 (x : Nat) (hx : x < 2 ^ 20) : q_SP G mJ9_floorMod_7cf53 [.int (nI x), .int 4] h 0 0 (fun o h' => o = some (.int (nI (x % 4))) ∧ h' = h) := by
  have e1 : nI x - nI x / 4 * 4 = nI (x % 4) := pk_rem (d := 4) (by omega) (by omega) (by omega)
  have e2 : nI x ^^^ 4 = nI (x ^^^ 4) := nx_xor x 4
  have hb : x ^^^ 4 < 2 ^ 20 := Nat.xor_lt_two_pow hx (by omega)
  have e3 : 0 ≤ nI x ^^^ 4 := by rw [e2]; exact nI_pos' (by omega)
  refine q_enter (M := mJ9_floorMod_7cf53) (by decide +kernel) rfl (Nat.le_of_ble_eq_true rfl) ?_
  refine x_iload_n 0 dJ9_floorMod_7cf53_0 rfl (by first | rfl | assumption) ?_
  refine x_iload_n 1 dJ9_floorMod_7cf53_1 rfl (by first | rfl | assumption) ?_
  refine x_irem dJ9_floorMod_7cf53_2 (by decide) ?_
  refine x_istore_n 2 dJ9_floorMod_7cf53_3 rfl (by decide) rfl ?_
  refine x_iload_n 0 dJ9_floorMod_7cf53_4 rfl (by first | rfl | assumption) ?_
  refine x_iload_n 1 dJ9_floorMod_7cf53_5 rfl (by first | rfl | assumption) ?_
  refine x_ixor dJ9_floorMod_7cf53_6 ?_
  refine x_if_ge 18 dJ9_floorMod_7cf53_7 (by decide) (fun _ => ?_) (fun z => absurd e3 z)
  refine x_iload_n 2 dJ9_floorMod_7cf53_18 rfl (by first | rfl | assumption) ?_
  refine x_iret rfl (by first | rfl | assumption | exact z_nb _) dJ9_floorMod_7cf53_19 (by decide) (by decide) ?_
  exact ⟨by rw [e1], rfl⟩
theorem sp_check3 (k n : Nat) (hk : k < n) (hn : n < 2 ^ 20) (v : Value) (hv : v = .null ∨ ∃ t, v = .ref t) : q_SP G mJ3_checkIndex_8e157 [.int (nI k), .int (nI n), v] h 0 0 (fun o h' => o = some (.int (nI k)) ∧ h' = h) := by
  have h0 : ¬ nI k < 0 := nI_pos (by omega)
  have h1 : nI k < nI n := nI_lt hk (by omega)
  rcases hv with rfl | ⟨t, rfl⟩
  · refine q_enter (M := mJ3_checkIndex_8e157) (by decide +kernel) rfl (Nat.le_of_ble_eq_true rfl) ?_
    refine x_iload_n 0 dJ3_checkIndex_8e157_0 rfl (by first | rfl | assumption) ?_
    refine x_if_lt 9 dJ3_checkIndex_8e157_1 (by decide) (fun z => absurd z h0) (fun _ => ?_)
    refine x_iload_n 0 dJ3_checkIndex_8e157_4 rfl (by first | rfl | assumption) ?_
    refine x_iload_n 1 dJ3_checkIndex_8e157_5 rfl (by first | rfl | assumption) ?_
    refine x_icmp_lt 16 dJ3_checkIndex_8e157_6 (by decide) (fun _ => ?_) (fun z => absurd h1 z)
    refine x_iload_n 0 dJ3_checkIndex_8e157_16 rfl (by first | rfl | assumption) ?_
    refine x_iret rfl (by first | rfl | assumption | exact z_nb _ | decide) dJ3_checkIndex_8e157_17 (by decide) (by decide) ?_
    exact ⟨rfl, rfl⟩
  · refine q_enter (M := mJ3_checkIndex_8e157) (by decide +kernel) rfl (Nat.le_of_ble_eq_true rfl) ?_
    refine x_iload_n 0 dJ3_checkIndex_8e157_0 rfl (by first | rfl | assumption) ?_
    refine x_if_lt 9 dJ3_checkIndex_8e157_1 (by decide) (fun z => absurd z h0) (fun _ => ?_)
    refine x_iload_n 0 dJ3_checkIndex_8e157_4 rfl (by first | rfl | assumption) ?_
    refine x_iload_n 1 dJ3_checkIndex_8e157_5 rfl (by first | rfl | assumption) ?_
    refine x_icmp_lt 16 dJ3_checkIndex_8e157_6 (by decide) (fun _ => ?_) (fun z => absurd h1 z)
    refine x_iload_n 0 dJ3_checkIndex_8e157_16 rfl (by first | rfl | assumption) ?_
    refine x_iret rfl (by first | rfl | assumption | exact z_nb _ | decide) dJ3_checkIndex_8e157_17 (by decide) (by decide) ?_
    exact ⟨rfl, rfl⟩
theorem sp_coder {i : Nat} (hi : i < 16) : q_SP G mJ0_coder_7d493 [.ref (q_aK G i)] h 0 0 (fun o h' => o = some (.int 0) ∧ h' = h) := by
  refine q_enter (M := mJ0_coder_7d493) (by decide +kernel) rfl (Nat.le_of_ble_eq_true rfl) ?_
  refine gs_J0_coder_7d493_38 dJ0_coder_7d493_0 ?_
  refine x_if_eq 13 dJ0_coder_7d493_3 (by decide) (fun z => absurd z (by decide)) (fun _ => ?_)
  refine x_aload_n 0 dJ0_coder_7d493_6 rfl (by first | rfl | assumption) ?_
  refine sf_J0_coder_7d493_15 (fun hG => (hG.2.1.1 i hi).2.1) dJ0_coder_7d493_7 ?_
  refine x_goto 14 dJ0_coder_7d493_10 (by decide) ?_
  refine x_iret rfl (by first | rfl | assumption | exact z_nb _) dJ0_coder_7d493_14 (by decide) (by decide) ?_
  exact ⟨rfl, rfl⟩
theorem sp_latin {i : Nat} (hi : i < 16) : q_SP G mJ0_isLatin1_aae02 [.ref (q_aK G i)] h 0 0 (fun o h' => o = some (.int 1) ∧ h' = h) := by
  refine q_enter (M := mJ0_isLatin1_aae02) (by decide +kernel) rfl (Nat.le_of_ble_eq_true rfl) ?_
  refine gs_J0_isLatin1_aae02_38 dJ0_isLatin1_aae02_0 ?_
  refine x_if_eq 17 dJ0_isLatin1_aae02_3 (by decide) (fun z => absurd z (by decide)) (fun _ => ?_)
  refine x_aload_n 0 dJ0_isLatin1_aae02_6 rfl (by first | rfl | assumption) ?_
  refine sf_J0_isLatin1_aae02_15 (fun hG => (hG.2.1.1 i hi).2.1) dJ0_isLatin1_aae02_7 ?_
  refine x_if_ne 17 dJ0_isLatin1_aae02_10 (by decide) (fun z => absurd rfl z) (fun _ => ?_)
  refine x_iconst 1 dJ0_isLatin1_aae02_13 (by decide) ?_
  refine x_goto 18 dJ0_isLatin1_aae02_14 (by decide) ?_
  refine x_iret rfl (by first | rfl | assumption | exact z_nb _) dJ0_isLatin1_aae02_18 (by decide) (by decide) ?_
  exact ⟨rfl, rfl⟩
theorem sp_slen {i : Nat} (hi : i < 16) : q_SP G mJ0_length_8abf5 [.ref (q_aK G i)] h 0 0 (fun o h' => o = some (.int (nI (q_len.getD i 0))) ∧ h' = h) := by
  refine q_enter (M := mJ0_length_8abf5) (by decide +kernel) rfl (Nat.le_of_ble_eq_true rfl) ?_
  refine x_aload_n 0 dJ0_length_8abf5_0 rfl (by first | rfl | assumption) ?_
  refine sf_J0_length_8abf5_9 (fun hG => (hG.2.1.1 i hi).2.2.1) dJ0_length_8abf5_1 ?_
  refine x_tlen (fun hG => (hG.2.1.1 i hi).2.2.2) dJ0_length_8abf5_4 ?_
  refine x_aload_n 0 dJ0_length_8abf5_5 rfl (by first | rfl | assumption) ?_
  refine cl_J0_length_8abf5_6 (sp_coder hi) hi (Nat.le_of_ble_eq_true rfl) ⟨Nat.le_of_ble_eq_true rfl, Nat.le_of_ble_eq_true rfl⟩ (fun r h1 hq => ?_)
  obtain ⟨rfl, rfl⟩ := hq
  refine x_ishr dJ0_length_8abf5_9 ?_
  refine x_iret rfl (by first | rfl | assumption | exact z_nb _) dJ0_length_8abf5_10 (by decide) (by decide) ?_
  exact ⟨by rw [sb_shr0], rfl⟩
theorem sp_check {k n : Nat} (hk : k < n) (hn : n < 2 ^ 20) : q_SP G mJ0_checkIndex_df160 [.int (nI k), .int (nI n)] h 0 0 (fun o h' => o = none ∧ h' = h) := by
  refine q_enter (M := mJ0_checkIndex_df160) (by decide +kernel) rfl (Nat.le_of_ble_eq_true rfl) ?_
  refine x_iload_n 0 dJ0_checkIndex_df160_0 rfl (by first | rfl | assumption) ?_
  refine x_iload_n 1 dJ0_checkIndex_df160_1 rfl (by first | rfl | assumption) ?_
  refine gs_J0_checkIndex_df160_1053 dJ0_checkIndex_df160_2 (fun v hv => ?_)
  refine cl_J0_checkIndex_df160_5 (sp_check3 k n hk hn v hv) (Nat.le_of_ble_eq_true rfl) ⟨Nat.le_of_ble_eq_true rfl, Nat.le_of_ble_eq_true rfl⟩ (fun r h1 hq => ?_)
  obtain ⟨rfl, rfl⟩ := hq
  refine x_pop dJ0_checkIndex_df160_8 rfl ?_
  refine x_vret rfl dJ0_checkIndex_df160_9 (by decide) (by decide) ?_
  exact ⟨rfl, rfl⟩
theorem sp_lchar {i k : Nat} (hi : i < 16) (hk : k < q_len.getD i 0) : q_SP G mJ1_charAt_3b067 [.ref (q_aV G i), .int (nI k)] h 0 0 (fun o h' => o = some (.int (q_ch i k)) ∧ h' = h) := by
  obtain ⟨b1, b2, b3⟩ := q_byt_ok i hi
  obtain ⟨c1, c2, -⟩ := q_ch_ok hi hk
  refine q_enter (M := mJ1_charAt_3b067) (by decide +kernel) rfl (Nat.le_of_ble_eq_true rfl) ?_
  refine x_iload_n 1 dJ1_charAt_3b067_0 rfl (by first | rfl | assumption) ?_
  refine x_aload_n 0 dJ1_charAt_3b067_1 rfl (by first | rfl | assumption) ?_
  refine x_tlen (fun hG => (hG.2.1.1 i hi).2.2.2) dJ1_charAt_3b067_2 ?_
  refine cl_J1_charAt_3b067_3 (sp_check hk (by omega)) (Nat.le_of_ble_eq_true rfl) ⟨Nat.le_of_ble_eq_true rfl, Nat.le_of_ble_eq_true rfl⟩ (fun r h1 hq => ?_)
  obtain ⟨rfl, rfl⟩ := hq
  refine x_aload_n 0 dJ1_charAt_3b067_6 rfl (by first | rfl | assumption) ?_
  refine x_iload_n 1 dJ1_charAt_3b067_7 rfl (by first | rfl | assumption) ?_
  refine x_tb (fun hG => (hG.2.1.1 i hi).2.2.2) (vp_in_nI hk (by omega)) dJ1_charAt_3b067_8 ?_
  rw [nI_clamp (by omega)]
  refine x_sipush 255 dJ1_charAt_3b067_9 (by decide) ?_
  refine x_iand dJ1_charAt_3b067_12 ?_
  refine x_i2c dJ1_charAt_3b067_13 ?_
  refine x_iret rfl ?_ dJ1_charAt_3b067_14 (by decide) (by decide) ?_
  · exact pk_nc _
  · exact ⟨by rw [show (q_byt.getD i []).getD k 0 = q_ch i k from rfl, c1, c2], rfl⟩
theorem sp_schar {i k : Nat} (hi : i < 16) (hk : k < q_len.getD i 0) : q_SP G mJ0_charAt_5068e [.ref (q_aK G i), .int (nI k)] h 0 0 (fun o h' => o = some (.int (q_ch i k)) ∧ h' = h) := by
  obtain ⟨c1, c2, -⟩ := q_ch_ok hi hk
  refine q_enter (M := mJ0_charAt_5068e) (by decide +kernel) rfl (Nat.le_of_ble_eq_true rfl) ?_
  refine x_aload_n 0 dJ0_charAt_5068e_0 rfl (by first | rfl | assumption) ?_
  refine cl_J0_charAt_5068e_1 (sp_latin hi) hi (Nat.le_of_ble_eq_true rfl) ⟨Nat.le_of_ble_eq_true rfl, Nat.le_of_ble_eq_true rfl⟩ (fun r h1 hq => ?_)
  obtain ⟨rfl, rfl⟩ := hq
  refine x_if_eq 16 dJ0_charAt_5068e_4 (by decide) (fun z => absurd z (by decide)) (fun _ => ?_)
  refine x_aload_n 0 dJ0_charAt_5068e_7 rfl (by first | rfl | assumption) ?_
  refine sf_J0_charAt_5068e_9 (fun hG => (hG.2.1.1 i hi).2.2.1) dJ0_charAt_5068e_8 ?_
  refine x_iload_n 1 dJ0_charAt_5068e_11 rfl (by first | rfl | assumption) ?_
  refine cl_J0_charAt_5068e_12 (sp_lchar hi hk) (Nat.le_of_ble_eq_true rfl) ⟨Nat.le_of_ble_eq_true rfl, Nat.le_of_ble_eq_true rfl⟩ (fun r h1 hq => ?_)
  obtain ⟨rfl, rfl⟩ := hq
  refine x_iret rfl ?_ dJ0_charAt_5068e_15 (by decide) (by decide) ?_
  · have z := pk_nc (q_ch i k)
    rwa [c2] at z
  · exact ⟨rfl, rfl⟩
end JdkA
