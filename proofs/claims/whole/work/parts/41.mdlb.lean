/-! the reference: what it says, letters -/
section MdlC
variable {G : q_G} {h0 h : q_H} {B : Nat → Nat} {V : Nat → Value} {F : Nat → Nat → Int32}
theorem sm_small (b : Int32) : q_SP G mX7_small [.int b] h 0 0 (fun o h' => o = some (.int (z_small b)) ∧ h' = h) := by
  refine q_enter (M := mX7_small) (by decide +kernel) rfl (Nat.le_of_ble_eq_true rfl) ?_
  refine x_iload_n 0 dX7_small_0 rfl (by first | rfl | assumption) ?_
  refine x_bipush 65 dX7_small_1 (by decide) ?_
  refine x_icmp_lt 19 dX7_small_3 (by decide) (fun c3 => ?_) (fun c3 => ?_)
  · refine x_iload_n 0 dX7_small_19 rfl (by first | rfl | assumption) ?_
    refine x_iret rfl (by first | rfl | assumption | exact z_nb _ | decide) dX7_small_20 (by decide) (by decide) ?_
    exact ⟨by simp [z_small, *], rfl⟩
  · refine x_iload_n 0 dX7_small_6 rfl (by first | rfl | assumption) ?_
    refine x_bipush 90 dX7_small_7 (by decide) ?_
    refine x_icmp_gt 19 dX7_small_9 (by decide) (fun c9 => ?_) (fun c9 => ?_)
    · refine x_iload_n 0 dX7_small_19 rfl (by first | rfl | assumption) ?_
      refine x_iret rfl (by first | rfl | assumption | exact z_nb _ | decide) dX7_small_20 (by decide) (by decide) ?_
      exact ⟨by simp [z_small, *], rfl⟩
    · refine x_iload_n 0 dX7_small_12 rfl (by first | rfl | assumption) ?_
      refine x_bipush 32 dX7_small_13 (by decide) ?_
      refine x_iadd dX7_small_15 ?_
      refine x_goto 20 dX7_small_16 (by decide) ?_
      refine x_iret rfl (by first | rfl | assumption | exact z_nb _ | decide) dX7_small_20 (by decide) (by decide) ?_
      exact ⟨by simp [z_small, *], rfl⟩
def m_dig (b : Int32) : Bool := !decide (b < 48) && !decide (57 < b)
theorem sm_isDigit (b : Int32) : q_SP G mX7_isDigit [.int b] h 0 0 (fun o h' => o = some (.int (z_b (m_dig b))) ∧ h' = h) := by
  refine q_enter (M := mX7_isDigit) (by decide +kernel) rfl (Nat.le_of_ble_eq_true rfl) ?_
  refine x_iload_n 0 dX7_isDigit_0 rfl (by first | rfl | assumption) ?_
  refine x_bipush 48 dX7_isDigit_1 (by decide) ?_
  refine x_icmp_lt 16 dX7_isDigit_3 (by decide) (fun c3 => ?_) (fun c3 => ?_)
  · refine x_iconst 0 dX7_isDigit_16 (by decide) ?_
    refine x_iret rfl (by first | rfl | assumption | exact z_nb _ | decide) dX7_isDigit_17 (by decide) (by decide) ?_
    exact ⟨by simp [m_dig, z_b, *], rfl⟩
  · refine x_iload_n 0 dX7_isDigit_6 rfl (by first | rfl | assumption) ?_
    refine x_bipush 57 dX7_isDigit_7 (by decide) ?_
    refine x_icmp_gt 16 dX7_isDigit_9 (by decide) (fun c9 => ?_) (fun c9 => ?_)
    · refine x_iconst 0 dX7_isDigit_16 (by decide) ?_
      refine x_iret rfl (by first | rfl | assumption | exact z_nb _ | decide) dX7_isDigit_17 (by decide) (by decide) ?_
      exact ⟨by simp [m_dig, z_b, *], rfl⟩
    · refine x_iconst 1 dX7_isDigit_12 (by decide) ?_
      refine x_goto 17 dX7_isDigit_13 (by decide) ?_
      refine x_iret rfl (by first | rfl | assumption | exact z_nb _ | decide) dX7_isDigit_17 (by decide) (by decide) ?_
      exact ⟨by simp [m_dig, z_b, *], rfl⟩
def m_let (b : Int32) : Bool := !decide (z_small b < 97) && !decide (122 < z_small b)
theorem sm_isLetter (b : Int32) : q_SP G mX7_isLetter [.int b] h 0 0 (fun o h' => o = some (.int (z_b (m_let b))) ∧ h' = h) := by
  refine q_enter (M := mX7_isLetter) (by decide +kernel) rfl (Nat.le_of_ble_eq_true rfl) ?_
  refine x_iload_n 0 dX7_isLetter_0 rfl (by first | rfl | assumption) ?_
  refine cl_X7_isLetter_1 (sm_small b) (Nat.le_of_ble_eq_true rfl) ⟨Nat.le_of_ble_eq_true rfl, Nat.le_of_ble_eq_true rfl⟩ (fun r h1 hq => ?_)
  obtain ⟨rfl, rfl⟩ := hq
  refine x_bipush 97 dX7_isLetter_4 (by decide) ?_
  refine x_icmp_lt 22 dX7_isLetter_6 (by decide) (fun c6 => ?_) (fun c6 => ?_)
  · refine x_iconst 0 dX7_isLetter_22 (by decide) ?_
    refine x_iret rfl (by first | rfl | assumption | exact z_nb _ | decide) dX7_isLetter_23 (by decide) (by decide) ?_
    exact ⟨by simp [m_let, z_b, *], rfl⟩
  · refine x_iload_n 0 dX7_isLetter_9 rfl (by first | rfl | assumption) ?_
    refine cl_X7_isLetter_10 (sm_small b) (Nat.le_of_ble_eq_true rfl) ⟨Nat.le_of_ble_eq_true rfl, Nat.le_of_ble_eq_true rfl⟩ (fun r h1 hq => ?_)
    obtain ⟨rfl, rfl⟩ := hq
    refine x_bipush 122 dX7_isLetter_13 (by decide) ?_
    refine x_icmp_gt 22 dX7_isLetter_15 (by decide) (fun c15 => ?_) (fun c15 => ?_)
    · refine x_iconst 0 dX7_isLetter_22 (by decide) ?_
      refine x_iret rfl (by first | rfl | assumption | exact z_nb _ | decide) dX7_isLetter_23 (by decide) (by decide) ?_
      exact ⟨by simp [m_let, z_b, *], rfl⟩
    · refine x_iconst 1 dX7_isLetter_18 (by decide) ?_
      refine x_goto 23 dX7_isLetter_19 (by decide) ?_
      refine x_iret rfl (by first | rfl | assumption | exact z_nb _ | decide) dX7_isLetter_23 (by decide) (by decide) ?_
      exact ⟨by simp [m_let, z_b, *], rfl⟩
theorem m_ld (b : Int32) : z_ld b = (m_let b || m_dig b) := by
  have hb : ∀ x y : Int32, decide (x < y) = decide (x.toInt < y.toInt) := fun x y => by simp only [i32_lt]
  have hc : ∀ x y : Int32, decide (x ≤ y) = decide (x.toInt ≤ y.toInt) := fun x y => by simp only [i32_le]
  have e97 : (97 : Int32).toInt = 97 := rfl
  have e122 : (122 : Int32).toInt = 122 := rfl
  have e65 : (65 : Int32).toInt = 65 := rfl
  have e90 : (90 : Int32).toInt = 90 := rfl
  have e48 : (48 : Int32).toInt = 48 := rfl
  have e57 : (57 : Int32).toInt = 57 := rfl
  unfold z_ld m_let m_dig z_small
  by_cases h1 : ¬ b < 65 ∧ ¬ 90 < b
  · rw [if_pos h1]
    obtain ⟨h1, h2⟩ := h1
    rw [i32_lt] at h1 h2
    obtain ⟨j, hj, e⟩ := i32_in (x := b) (n := 90) (by omega) (by omega)
    have hj2 : (nI j).toInt = j := nI_toInt (by omega)
    have ea : b + 32 = nI (j + 32) := by rw [e]; exact nI_add j 32
    have h32 : (nI (j + 32)).toInt = (j + 32 : Nat) := nI_toInt (by omega)
    rw [e, hj2] at h1
    rw [ea]
    simp only [hb, hc, e, hj2, h32, e97, e122, e65, e90, e48, e57]
    have d1 : ¬ ((j : Int) < 65) := by omega
    have d2 : (j : Int) ≤ 90 := by omega
    have d3 : ¬ (((j + 32 : Nat) : Int) < 97) := by omega
    have d4 : ¬ (122 < ((j + 32 : Nat) : Int)) := by omega
    simp [d1, d2, d3, d4]
    omega
  · rw [if_neg h1]
    have hn : (!decide (b < 65) && decide (b ≤ 90)) = false := by
      by_cases h2 : b < 65
      · simp [h2]
      · have h3 : 90 < b := by
          by_cases h4 : 90 < b
          · exact h4
          · exact absurd ⟨h2, h4⟩ h1
        have h5 : ¬ b ≤ 90 := Int32.not_le.mpr h3
        simp [h5]
    rw [hn, Bool.or_false]
    have h6 : decide (b ≤ 122) = !decide (122 < b) := by
      by_cases h7 : 122 < b
      · rw [decide_eq_true h7, decide_eq_false (Int32.not_le.mpr h7)]; rfl
      · rw [decide_eq_false h7, decide_eq_true (Int32.not_lt.mp h7)]; rfl
    rw [h6]
theorem sm_isGap (b : Int32) : q_SP G mX7_isGap [.int b] h 0 0 (fun o h' => o = some (.int (z_b (z_blank b))) ∧ h' = h) := by
  refine q_enter (M := mX7_isGap) (by decide +kernel) rfl (Nat.le_of_ble_eq_true rfl) ?_
  refine x_iload_n 0 dX7_isGap_0 rfl (by first | rfl | assumption) ?_
  refine x_bipush 32 dX7_isGap_1 (by decide) ?_
  refine x_icmp_eq 12 dX7_isGap_3 (by decide) (fun c3 => ?_) (fun c3 => ?_)
  · refine x_iconst 1 dX7_isGap_12 (by decide) ?_
    refine x_goto 17 dX7_isGap_13 (by decide) ?_
    refine x_iret rfl (by first | rfl | assumption | exact z_nb _ | decide) dX7_isGap_17 (by decide) (by decide) ?_
    exact ⟨by simp [z_blank, z_b, *], rfl⟩
  · refine x_iload_n 0 dX7_isGap_6 rfl (by first | rfl | assumption) ?_
    refine x_bipush 9 dX7_isGap_7 (by decide) ?_
    refine x_icmp_ne 16 dX7_isGap_9 (by decide) (fun c9 => ?_) (fun c9 => ?_)
    · refine x_iconst 0 dX7_isGap_16 (by decide) ?_
      refine x_iret rfl (by first | rfl | assumption | exact z_nb _ | decide) dX7_isGap_17 (by decide) (by decide) ?_
      exact ⟨by simp [z_blank, z_b, *], rfl⟩
    · refine x_iconst 1 dX7_isGap_12 (by decide) ?_
      refine x_goto 17 dX7_isGap_13 (by decide) ?_
      refine x_iret rfl (by first | rfl | assumption | exact z_nb _ | decide) dX7_isGap_17 (by decide) (by decide) ?_
      exact ⟨by simp [z_blank, z_b, *], rfl⟩
theorem sm_isBase64 (b : Int32) : q_SP G mX7_isBase64 [.int b] h 0 0 (fun o h' => o = some (.int (z_b (z_64 b))) ∧ h' = h) := by
  refine q_enter (M := mX7_isBase64) (by decide +kernel) rfl (Nat.le_of_ble_eq_true rfl) ?_
  refine x_iload_n 0 dX7_isBase64_0 rfl (by first | rfl | assumption) ?_
  refine cl_X7_isBase64_1 (sm_isLetter b) (Nat.le_of_ble_eq_true rfl) ⟨Nat.le_of_ble_eq_true rfl, Nat.le_of_ble_eq_true rfl⟩ (fun r h1 hq => ?_)
  obtain ⟨rfl, rfl⟩ := hq
  refine x_if_ne 26 dX7_isBase64_4 (by decide) (fun c4 => ?_) (fun c4 => ?_)
  · refine x_iconst 1 dX7_isBase64_26 (by decide) ?_
    refine x_goto 31 dX7_isBase64_27 (by decide) ?_
    refine x_iret rfl (by first | rfl | assumption | exact z_nb _ | decide) dX7_isBase64_31 (by decide) (by decide) ?_
    exact ⟨by unfold z_64; rw [m_ld]; first | (rw [z_b1 c4]; rfl) | (rw [z_b0 c4, z_b1 c11]; rfl) | (rw [z_b0 c4, z_b0 c11]; simp [z_b, *]), rfl⟩
  · refine x_iload_n 0 dX7_isBase64_7 rfl (by first | rfl | assumption) ?_
    refine cl_X7_isBase64_8 (sm_isDigit b) (Nat.le_of_ble_eq_true rfl) ⟨Nat.le_of_ble_eq_true rfl, Nat.le_of_ble_eq_true rfl⟩ (fun r h1 hq => ?_)
    obtain ⟨rfl, rfl⟩ := hq
    refine x_if_ne 26 dX7_isBase64_11 (by decide) (fun c11 => ?_) (fun c11 => ?_)
    · refine x_iconst 1 dX7_isBase64_26 (by decide) ?_
      refine x_goto 31 dX7_isBase64_27 (by decide) ?_
      refine x_iret rfl (by first | rfl | assumption | exact z_nb _ | decide) dX7_isBase64_31 (by decide) (by decide) ?_
      exact ⟨by unfold z_64; rw [m_ld]; first | (rw [z_b1 c4]; rfl) | (rw [z_b0 c4, z_b1 c11]; rfl) | (rw [z_b0 c4, z_b0 c11]; simp [z_b, *]), rfl⟩
    · refine x_iload_n 0 dX7_isBase64_14 rfl (by first | rfl | assumption) ?_
      refine x_bipush 43 dX7_isBase64_15 (by decide) ?_
      refine x_icmp_eq 26 dX7_isBase64_17 (by decide) (fun c17 => ?_) (fun c17 => ?_)
      · refine x_iconst 1 dX7_isBase64_26 (by decide) ?_
        refine x_goto 31 dX7_isBase64_27 (by decide) ?_
        refine x_iret rfl (by first | rfl | assumption | exact z_nb _ | decide) dX7_isBase64_31 (by decide) (by decide) ?_
        exact ⟨by unfold z_64; rw [m_ld]; first | (rw [z_b1 c4]; rfl) | (rw [z_b0 c4, z_b1 c11]; rfl) | (rw [z_b0 c4, z_b0 c11]; simp [z_b, *]), rfl⟩
      · refine x_iload_n 0 dX7_isBase64_20 rfl (by first | rfl | assumption) ?_
        refine x_bipush 47 dX7_isBase64_21 (by decide) ?_
        refine x_icmp_ne 30 dX7_isBase64_23 (by decide) (fun c23 => ?_) (fun c23 => ?_)
        · refine x_iconst 0 dX7_isBase64_30 (by decide) ?_
          refine x_iret rfl (by first | rfl | assumption | exact z_nb _ | decide) dX7_isBase64_31 (by decide) (by decide) ?_
          exact ⟨by unfold z_64; rw [m_ld]; first | (rw [z_b1 c4]; rfl) | (rw [z_b0 c4, z_b1 c11]; rfl) | (rw [z_b0 c4, z_b0 c11]; simp [z_b, *]), rfl⟩
        · refine x_iconst 1 dX7_isBase64_26 (by decide) ?_
          refine x_goto 31 dX7_isBase64_27 (by decide) ?_
          refine x_iret rfl (by first | rfl | assumption | exact z_nb _ | decide) dX7_isBase64_31 (by decide) (by decide) ?_
          exact ⟨by unfold z_64; rw [m_ld]; first | (rw [z_b1 c4]; rfl) | (rw [z_b0 c4, z_b1 c11]; rfl) | (rw [z_b0 c4, z_b0 c11]; simp [z_b, *]), rfl⟩
theorem sm_rotated (x n : Int32) : q_SP G mX7_rotated [.int x, .int n] h 0 0 (fun o h' => o = some (.int (d_rot x n)) ∧ h' = h) := by
  refine q_enter (M := mX7_rotated) (by decide +kernel) rfl (Nat.le_of_ble_eq_true rfl) ?_
  refine x_iload_n 0 dX7_rotated_0 rfl (by first | rfl | assumption) ?_
  refine x_iload_n 1 dX7_rotated_1 rfl (by first | rfl | assumption) ?_
  refine x_ishl dX7_rotated_2 ?_
  refine x_iload_n 0 dX7_rotated_3 rfl (by first | rfl | assumption) ?_
  refine x_bipush 32 dX7_rotated_4 (by decide) ?_
  refine x_iload_n 1 dX7_rotated_6 rfl (by first | rfl | assumption) ?_
  refine x_isub dX7_rotated_7 ?_
  refine x_iushr dX7_rotated_8 ?_
  refine x_ior dX7_rotated_9 ?_
  refine x_iret rfl (by first | rfl | assumption | exact z_nb _ | decide) dX7_rotated_10 (by decide) (by decide) ?_
  exact ⟨rfl, rfl⟩
theorem sm_isCode (x : Int32) : q_SP G mX7_isCode [.int x] h 0 0 (fun o h' => o = some (.int (z_b (r_code x))) ∧ h' = h) := by
  refine q_enter (M := mX7_isCode) (by decide +kernel) rfl (Nat.le_of_ble_eq_true rfl) ?_
  refine x_iload_n 0 dX7_isCode_0 rfl (by first | rfl | assumption) ?_
  refine x_sipush 1000 dX7_isCode_1 (by decide) ?_
  refine x_icmp_lt 14 dX7_isCode_4 (by decide) (fun c4 => ?_) (fun c4 => ?_)
  · refine x_iload_n 0 dX7_isCode_14 rfl (by first | rfl | assumption) ?_
    refine x_sipush 1007 dX7_isCode_15 (by decide) ?_
    refine x_icmp_lt 28 dX7_isCode_18 (by decide) (fun c18 => ?_) (fun c18 => ?_)
    · refine x_iload_n 0 dX7_isCode_28 rfl (by first | rfl | assumption) ?_
      refine x_sipush 3000 dX7_isCode_29 (by decide) ?_
      refine x_icmp_lt 46 dX7_isCode_32 (by decide) (fun c32 => ?_) (fun c32 => ?_)
      · refine x_iconst 0 dX7_isCode_46 (by decide) ?_
        refine x_iret rfl (by first | rfl | assumption | exact z_nb _ | decide) dX7_isCode_47 (by decide) (by decide) ?_
        exact ⟨by simp [r_code, z_b, *], rfl⟩
      · refine x_iload_n 0 dX7_isCode_35 rfl (by first | rfl | assumption) ?_
        refine x_sipush 4999 dX7_isCode_36 (by decide) ?_
        refine x_icmp_gt 46 dX7_isCode_39 (by decide) (fun c39 => ?_) (fun c39 => ?_)
        · refine x_iconst 0 dX7_isCode_46 (by decide) ?_
          refine x_iret rfl (by first | rfl | assumption | exact z_nb _ | decide) dX7_isCode_47 (by decide) (by decide) ?_
          exact ⟨by simp [r_code, z_b, *], rfl⟩
        · refine x_iconst 1 dX7_isCode_42 (by decide) ?_
          refine x_goto 47 dX7_isCode_43 (by decide) ?_
          refine x_iret rfl (by first | rfl | assumption | exact z_nb _ | decide) dX7_isCode_47 (by decide) (by decide) ?_
          exact ⟨by simp [r_code, z_b, *], rfl⟩
    · refine x_iload_n 0 dX7_isCode_21 rfl (by first | rfl | assumption) ?_
      refine x_sipush 1011 dX7_isCode_22 (by decide) ?_
      refine x_icmp_le 42 dX7_isCode_25 (by decide) (fun c25 => ?_) (fun c25 => ?_)
      · refine x_iconst 1 dX7_isCode_42 (by decide) ?_
        refine x_goto 47 dX7_isCode_43 (by decide) ?_
        refine x_iret rfl (by first | rfl | assumption | exact z_nb _ | decide) dX7_isCode_47 (by decide) (by decide) ?_
        exact ⟨by simp [r_code, z_b, *], rfl⟩
      · refine x_iload_n 0 dX7_isCode_28 rfl (by first | rfl | assumption) ?_
        refine x_sipush 3000 dX7_isCode_29 (by decide) ?_
        refine x_icmp_lt 46 dX7_isCode_32 (by decide) (fun c32 => ?_) (fun c32 => ?_)
        · refine x_iconst 0 dX7_isCode_46 (by decide) ?_
          refine x_iret rfl (by first | rfl | assumption | exact z_nb _ | decide) dX7_isCode_47 (by decide) (by decide) ?_
          exact ⟨by simp [r_code, z_b, *], rfl⟩
        · refine x_iload_n 0 dX7_isCode_35 rfl (by first | rfl | assumption) ?_
          refine x_sipush 4999 dX7_isCode_36 (by decide) ?_
          refine x_icmp_gt 46 dX7_isCode_39 (by decide) (fun c39 => ?_) (fun c39 => ?_)
          · refine x_iconst 0 dX7_isCode_46 (by decide) ?_
            refine x_iret rfl (by first | rfl | assumption | exact z_nb _ | decide) dX7_isCode_47 (by decide) (by decide) ?_
            exact ⟨by simp [r_code, z_b, *], rfl⟩
          · refine x_iconst 1 dX7_isCode_42 (by decide) ?_
            refine x_goto 47 dX7_isCode_43 (by decide) ?_
            refine x_iret rfl (by first | rfl | assumption | exact z_nb _ | decide) dX7_isCode_47 (by decide) (by decide) ?_
            exact ⟨by simp [r_code, z_b, *], rfl⟩
  · refine x_iload_n 0 dX7_isCode_7 rfl (by first | rfl | assumption) ?_
    refine x_sipush 1003 dX7_isCode_8 (by decide) ?_
    refine x_icmp_le 42 dX7_isCode_11 (by decide) (fun c11 => ?_) (fun c11 => ?_)
    · refine x_iconst 1 dX7_isCode_42 (by decide) ?_
      refine x_goto 47 dX7_isCode_43 (by decide) ?_
      refine x_iret rfl (by first | rfl | assumption | exact z_nb _ | decide) dX7_isCode_47 (by decide) (by decide) ?_
      exact ⟨by simp [r_code, z_b, *], rfl⟩
    · refine x_iload_n 0 dX7_isCode_14 rfl (by first | rfl | assumption) ?_
      refine x_sipush 1007 dX7_isCode_15 (by decide) ?_
      refine x_icmp_lt 28 dX7_isCode_18 (by decide) (fun c18 => ?_) (fun c18 => ?_)
      · refine x_iload_n 0 dX7_isCode_28 rfl (by first | rfl | assumption) ?_
        refine x_sipush 3000 dX7_isCode_29 (by decide) ?_
        refine x_icmp_lt 46 dX7_isCode_32 (by decide) (fun c32 => ?_) (fun c32 => ?_)
        · refine x_iconst 0 dX7_isCode_46 (by decide) ?_
          refine x_iret rfl (by first | rfl | assumption | exact z_nb _ | decide) dX7_isCode_47 (by decide) (by decide) ?_
          exact ⟨by simp [r_code, z_b, *], rfl⟩
        · refine x_iload_n 0 dX7_isCode_35 rfl (by first | rfl | assumption) ?_
          refine x_sipush 4999 dX7_isCode_36 (by decide) ?_
          refine x_icmp_gt 46 dX7_isCode_39 (by decide) (fun c39 => ?_) (fun c39 => ?_)
          · refine x_iconst 0 dX7_isCode_46 (by decide) ?_
            refine x_iret rfl (by first | rfl | assumption | exact z_nb _ | decide) dX7_isCode_47 (by decide) (by decide) ?_
            exact ⟨by simp [r_code, z_b, *], rfl⟩
          · refine x_iconst 1 dX7_isCode_42 (by decide) ?_
            refine x_goto 47 dX7_isCode_43 (by decide) ?_
            refine x_iret rfl (by first | rfl | assumption | exact z_nb _ | decide) dX7_isCode_47 (by decide) (by decide) ?_
            exact ⟨by simp [r_code, z_b, *], rfl⟩
      · refine x_iload_n 0 dX7_isCode_21 rfl (by first | rfl | assumption) ?_
        refine x_sipush 1011 dX7_isCode_22 (by decide) ?_
        refine x_icmp_le 42 dX7_isCode_25 (by decide) (fun c25 => ?_) (fun c25 => ?_)
        · refine x_iconst 1 dX7_isCode_42 (by decide) ?_
          refine x_goto 47 dX7_isCode_43 (by decide) ?_
          refine x_iret rfl (by first | rfl | assumption | exact z_nb _ | decide) dX7_isCode_47 (by decide) (by decide) ?_
          exact ⟨by simp [r_code, z_b, *], rfl⟩
        · refine x_iload_n 0 dX7_isCode_28 rfl (by first | rfl | assumption) ?_
          refine x_sipush 3000 dX7_isCode_29 (by decide) ?_
          refine x_icmp_lt 46 dX7_isCode_32 (by decide) (fun c32 => ?_) (fun c32 => ?_)
          · refine x_iconst 0 dX7_isCode_46 (by decide) ?_
            refine x_iret rfl (by first | rfl | assumption | exact z_nb _ | decide) dX7_isCode_47 (by decide) (by decide) ?_
            exact ⟨by simp [r_code, z_b, *], rfl⟩
          · refine x_iload_n 0 dX7_isCode_35 rfl (by first | rfl | assumption) ?_
            refine x_sipush 4999 dX7_isCode_36 (by decide) ?_
            refine x_icmp_gt 46 dX7_isCode_39 (by decide) (fun c39 => ?_) (fun c39 => ?_)
            · refine x_iconst 0 dX7_isCode_46 (by decide) ?_
              refine x_iret rfl (by first | rfl | assumption | exact z_nb _ | decide) dX7_isCode_47 (by decide) (by decide) ?_
              exact ⟨by simp [r_code, z_b, *], rfl⟩
            · refine x_iconst 1 dX7_isCode_42 (by decide) ?_
              refine x_goto 47 dX7_isCode_43 (by decide) ?_
              refine x_iret rfl (by first | rfl | assumption | exact z_nb _ | decide) dX7_isCode_47 (by decide) (by decide) ?_
              exact ⟨by simp [r_code, z_b, *], rfl⟩
def m_sign (v : Int32) : Int32 := if 26 ≤ v then (if 52 ≤ v then (if 62 ≤ v then (if v = 62 then 43 else 47) else v - 4) else 71 + v) else 65 + v
theorem sm_sign (v : Int32) : q_SP G mX7_sign [.int v] h 0 0 (fun o h' => o = some (.int (m_sign v)) ∧ h' = h) := by
  refine q_enter (M := mX7_sign) (by decide +kernel) rfl (Nat.le_of_ble_eq_true rfl) ?_
  refine x_iload_n 0 dX7_sign_0 rfl (by first | rfl | assumption) ?_
  refine x_bipush 26 dX7_sign_1 (by decide) ?_
  refine x_icmp_ge 13 dX7_sign_3 (by decide) (fun c3 => ?_) (fun c3 => ?_)
  · refine x_iload_n 0 dX7_sign_13 rfl (by first | rfl | assumption) ?_
    refine x_bipush 52 dX7_sign_14 (by decide) ?_
    refine x_icmp_ge 26 dX7_sign_16 (by decide) (fun c16 => ?_) (fun c16 => ?_)
    · refine x_iload_n 0 dX7_sign_26 rfl (by first | rfl | assumption) ?_
      refine x_bipush 62 dX7_sign_27 (by decide) ?_
      refine x_icmp_ge 38 dX7_sign_29 (by decide) (fun c29 => ?_) (fun c29 => ?_)
      · refine x_iload_n 0 dX7_sign_38 rfl (by first | rfl | assumption) ?_
        refine x_bipush 62 dX7_sign_39 (by decide) ?_
        refine x_icmp_ne 49 dX7_sign_41 (by decide) (fun c41 => ?_) (fun c41 => ?_)
        · refine x_bipush 47 dX7_sign_49 (by decide) ?_
          refine x_iret rfl (by first | rfl | assumption | exact z_nb _ | decide) dX7_sign_51 (by decide) (by decide) ?_
          exact ⟨by simp [m_sign, *], rfl⟩
        · refine x_bipush 43 dX7_sign_44 (by decide) ?_
          refine x_goto 51 dX7_sign_46 (by decide) ?_
          refine x_iret rfl (by first | rfl | assumption | exact z_nb _ | decide) dX7_sign_51 (by decide) (by decide) ?_
          exact ⟨by simp [m_sign, *], rfl⟩
      · refine x_iload_n 0 dX7_sign_32 rfl (by first | rfl | assumption) ?_
        refine x_iconst 4 dX7_sign_33 (by decide) ?_
        refine x_isub dX7_sign_34 ?_
        refine x_goto 51 dX7_sign_35 (by decide) ?_
        refine x_iret rfl (by first | rfl | assumption | exact z_nb _ | decide) dX7_sign_51 (by decide) (by decide) ?_
        exact ⟨by simp [m_sign, *], rfl⟩
    · refine x_bipush 71 dX7_sign_19 (by decide) ?_
      refine x_iload_n 0 dX7_sign_21 rfl (by first | rfl | assumption) ?_
      refine x_iadd dX7_sign_22 ?_
      refine x_goto 51 dX7_sign_23 (by decide) ?_
      refine x_iret rfl (by first | rfl | assumption | exact z_nb _ | decide) dX7_sign_51 (by decide) (by decide) ?_
      exact ⟨by simp [m_sign, *], rfl⟩
  · refine x_bipush 65 dX7_sign_6 (by decide) ?_
    refine x_iload_n 0 dX7_sign_8 rfl (by first | rfl | assumption) ?_
    refine x_iadd dX7_sign_9 ?_
    refine x_goto 51 dX7_sign_10 (by decide) ?_
    refine x_iret rfl (by first | rfl | assumption | exact z_nb _ | decide) dX7_sign_51 (by decide) (by decide) ?_
    exact ⟨by simp [m_sign, *], rfl⟩
theorem m_sign_ch : ∀ j, j < 64 → m_sign (nI j) = q_ch 12 j := by decide +kernel
/-- the word v spells the bytes -/
def m_spl : List Int32 → Int64 → Bool
  | [], v => decide (v = 0)
  | b :: bs, v => (!decide (v = 0) && decide ((v &&& 255).toInt32 = b)) && m_spl bs (v >>> ((8 : Int32).toInt64 &&& 63))
theorem sm_text {l : List Int32} (hm : k_m h0 h B V F) (ho : m_o V F l) (bs : List Int32) {v : Int64} (hv : m_spl bs v = true) (hn : l.length + bs.length ≤ 800) : m_says G mX7_text [.ref (B 0), .long v] h0 h B V F (l ++ bs) := by
  unfold m_says
  refine q_enter (M := mX7_text) (by decide +kernel) rfl (Nat.le_of_ble_eq_true rfl) ?_
  refine x_lload_n 1 dX7_text_0 rfl (by first | rfl | assumption) ?_
  refine x_lstore_n 3 dX7_text_1 rfl (by decide) rfl ?_
  have loop : ∀ (bs : List Int32) (v v0 : Int64) (l1 : List Int32) (h1 : q_H) (V1 : Nat → Value) (F1 : Nat → Nat → Int32) (E : List Int32), l1 ++ bs = E → l1.length + bs.length ≤ 800 → m_spl bs v = true → k_m h0 h1 B V1 F1 → m_oo V F V1 F1 → m_o V1 F1 l1 →
      q_X G mX7_text (q_R mX7_text 0 0) (q_FN G (fun o h' => o = none ∧ ∃ V' F', k_m h0 h' B V' F' ∧ m_oo V F V' F' ∧ m_o V' F' E) 0 0) 2 [(0, .ref (B 0)), (1, .long v0), (3, .long v)] [] h1 0 0 := by
    intro bs
    induction bs with
    | nil =>
      intro v v0 l1 h1 V1 F1 E hE hl hv hm e1 o1
      have hv0 : v = 0 := of_decide_eq_true hv
      refine x_lload_n 3 dX7_text_2 rfl (by first | rfl | assumption) ?_
      refine x_lconst 0 dX7_text_3 (by decide) ?_
      refine x_lcmp dX7_text_4 ?_
      refine x_if_eq 26 dX7_text_5 (by decide) (fun _ => ?_) (fun z => absurd ((lg_cmp_eq _ _).mpr hv0) z)
      refine x_vret rfl dX7_text_26 (by decide) (by decide) ?_
      rw [List.append_nil] at hE
      exact ⟨rfl, V1, F1, hm, e1, hE ▸ o1⟩
    | cons b bs ih =>
      intro v v0 l1 h1 V1 F1 E hE hl hv hm e1 o1
      have hl2 : (b :: bs).length = bs.length + 1 := rfl
      rw [hl2] at hl
      unfold m_spl at hv
      simp only [Bool.and_eq_true, Bool.not_eq_true', decide_eq_false_iff_not, decide_eq_true_eq] at hv
      obtain ⟨⟨hv1, hv2⟩, hv3⟩ := hv
      refine x_lload_n 3 dX7_text_2 rfl (by first | rfl | assumption) ?_
      refine x_lconst 0 dX7_text_3 (by decide) ?_
      refine x_lcmp dX7_text_4 ?_
      refine x_if_eq 26 dX7_text_5 (by decide) (fun z => absurd z (fun z => hv1 ((lg_cmp_eq _ _).mp z))) (fun _ => ?_)
      refine x_aload_n 0 dX7_text_8 rfl (by first | rfl | assumption) ?_
      refine x_lload_n 3 dX7_text_9 rfl (by first | rfl | assumption) ?_
      refine k2_X7_text_62 dX7_text_10 ?_
      refine x_land dX7_text_13 ?_
      refine x_l2i dX7_text_14 ?_
      refine cl_X7_text_15 (sm_put1 hm o1 (by omega) _) hm.1 (Nat.le_of_ble_eq_true rfl) ⟨Nat.le_of_ble_eq_true rfl, Nat.le_of_ble_eq_true rfl⟩ (fun r g hq => ?_)
      obtain ⟨rfl, V2, F2, hm, e2, o2⟩ := hq
      rw [hv2] at o2
      refine x_lload_n 3 dX7_text_18 rfl (by first | rfl | assumption) ?_
      refine x_bipush 8 dX7_text_19 (by decide) ?_
      refine x_lshr dX7_text_21 ?_
      refine x_lstore_n 3 dX7_text_22 rfl (by decide) rfl ?_
      refine x_goto 2 dX7_text_23 (by decide) ?_
      refine ih _ v0 (l1 ++ [b]) g V2 F2 E ?_ ?_ hv3 hm (e1.tr e2) o2
      · rw [List.append_assoc]; exact hE
      · rw [List.length_append]; show _ + 1 + _ ≤ _; omega
  exact loop bs v v l h V F _ rfl hn hv hm m_oo.rf ho
theorem sm_line {l : List Int32} (hm : k_m h0 h B V F) (ho : m_o V F l) (hn : l.length + 2 ≤ 800) : m_says G mX7_line [.ref (B 0)] h0 h B V F (l ++ [13, 10]) := by
  unfold m_says
  refine q_enter (M := mX7_line) (by decide +kernel) rfl (Nat.le_of_ble_eq_true rfl) ?_
  refine x_aload_n 0 dX7_line_0 rfl (by first | rfl | assumption) ?_
  refine x_bipush 13 dX7_line_1 (by decide) ?_
  refine cl_X7_line_3 (sm_put1 hm ho (by omega) _) hm.1 (Nat.le_of_ble_eq_true rfl) ⟨Nat.le_of_ble_eq_true rfl, Nat.le_of_ble_eq_true rfl⟩ (fun r g hq => ?_)
  obtain ⟨rfl, V2, F2, hm, e2, o2⟩ := hq
  refine x_aload_n 0 dX7_line_6 rfl (by first | rfl | assumption) ?_
  refine x_bipush 10 dX7_line_7 (by decide) ?_
  refine cl_X7_line_9 (sm_put1 hm o2 (by rw [List.length_append]; show _ + 1 < _; omega) _) hm.1 (Nat.le_of_ble_eq_true rfl) ⟨Nat.le_of_ble_eq_true rfl, Nat.le_of_ble_eq_true rfl⟩ (fun r g hq => ?_)
  obtain ⟨rfl, V3, F3, hm, e3, o3⟩ := hq
  refine x_vret rfl dX7_line_12 (by decide) (by decide) ?_
  rw [List.append_assoc] at o3
  exact ⟨rfl, V3, F3, hm, e2.tr e3, o3⟩
/-- a frame's head; no frame here has more than 125 bytes -/
theorem sm_head {l : List Int32} (hm : k_m h0 h B V F) (ho : m_o V F l) (hn : l.length + 2 ≤ 800) (k : Int32) (w : Bool) {n : Nat} (hn2 : n ≤ 125) : m_says G mX7_head [.ref (B 0), .int k, .int (z_b w), .int (nI n)] h0 h B V F (l ++ [if w then 128 + k else k, nI n]) := by
  unfold m_says
  have tail : ∀ y : Int32, y = (if w then 128 + k else k) → q_X G mX7_head (q_R mX7_head 0 0) (q_FN G (fun o h' => o = none ∧ ∃ V' F', k_m h0 h' B V' F' ∧ m_oo V F V' F' ∧ m_o V' F' (l ++ [if w then 128 + k else k, nI n])) 0 0) 14 [(0, .ref (B 0)), (1, .int k), (2, .int (z_b w)), (3, .int (nI n))] [.int y, .ref (B 0)] h 0 0 := by
    intro y hy
    rw [← hy]
    refine cl_X7_head_14 (sm_put1 hm ho (by omega) y) hm.1 (Nat.le_of_ble_eq_true rfl) ⟨Nat.le_of_ble_eq_true rfl, Nat.le_of_ble_eq_true rfl⟩ (fun r g hq => ?_)
    obtain ⟨rfl, V2, F2, hm, e2, o2⟩ := hq
    refine x_aload_n 0 dX7_head_17 rfl (by first | rfl | assumption) ?_
    refine x_iload_n 3 dX7_head_18 rfl (by first | rfl | assumption) ?_
    refine x_bipush 126 dX7_head_19 (by decide) ?_
    refine x_icmp_ge 28 dX7_head_21 (by decide) (fun z => absurd z (nI_ge (b := 126) (by omega) (by omega))) (fun _ => ?_)
    refine x_iload_n 3 dX7_head_24 rfl (by first | rfl | assumption) ?_
    refine x_goto 30 dX7_head_25 (by decide) ?_
    refine cl_X7_head_30 (sm_put1 hm o2 (by rw [List.length_append]; show _ + 1 < _; omega) _) hm.1 (Nat.le_of_ble_eq_true rfl) ⟨Nat.le_of_ble_eq_true rfl, Nat.le_of_ble_eq_true rfl⟩ (fun r g hq => ?_)
    obtain ⟨rfl, V3, F3, hm, e3, o3⟩ := hq
    refine x_iload_n 3 dX7_head_33 rfl (by first | rfl | assumption) ?_
    refine x_bipush 125 dX7_head_34 (by decide) ?_
    refine x_icmp_le 57 dX7_head_36 (by decide) (fun _ => ?_) (fun z => absurd (nI_le (b := 125) hn2 (by omega)) z)
    refine x_vret rfl dX7_head_57 (by decide) (by decide) ?_
    rw [List.append_assoc] at o3
    exact ⟨rfl, V3, F3, hm, e2.tr e3, o3⟩
  refine q_enter (M := mX7_head) (by decide +kernel) rfl (Nat.le_of_ble_eq_true rfl) ?_
  refine x_aload_n 0 dX7_head_0 rfl (by first | rfl | assumption) ?_
  refine x_iload_n 2 dX7_head_1 rfl (by first | rfl | assumption) ?_
  cases w with
  | true =>
    refine x_if_eq 13 dX7_head_2 (by decide) (fun z => absurd z (by decide)) (fun _ => ?_)
    refine x_sipush 128 dX7_head_5 (by decide) ?_
    refine x_iload_n 1 dX7_head_8 rfl (by first | rfl | assumption) ?_
    refine x_iadd dX7_head_9 ?_
    refine x_goto 14 dX7_head_10 (by decide) ?_
    exact tail _ rfl
  | false =>
    refine x_if_eq 13 dX7_head_2 (by decide) (fun _ => ?_) (fun z => absurd (by decide) z)
    refine x_iload_n 1 dX7_head_13 rfl (by first | rfl | assumption) ?_
    exact tail _ rfl
theorem sm_sayClose {l : List Int32} (hm : k_m h0 h B V F) (ho : m_o V F l) (hn : l.length + 4 ≤ 800) (x : Int32) : m_says G mX7_sayClose [.ref (B 0), .int x] h0 h B V F (l ++ [136, 2] ++ [x / 256, x - x / 256 * 256]) := by
  unfold m_says
  refine q_enter (M := mX7_sayClose) (by decide +kernel) rfl (Nat.le_of_ble_eq_true rfl) ?_
  refine x_aload_n 0 dX7_sayClose_0 rfl (by first | rfl | assumption) ?_
  refine x_bipush 8 dX7_sayClose_1 (by decide) ?_
  refine x_iconst 1 dX7_sayClose_3 (by decide) ?_
  refine x_iconst 2 dX7_sayClose_4 (by decide) ?_
  refine cl_X7_sayClose_5 (sm_head hm ho (by omega) 8 true (n := 2) (by omega)) hm.1 (Nat.le_of_ble_eq_true rfl) ⟨Nat.le_of_ble_eq_true rfl, Nat.le_of_ble_eq_true rfl⟩ (fun r g hq => ?_)
  obtain ⟨rfl, V2, F2, hm, e2, o2⟩ := hq
  replace o2 : m_o V2 F2 (l ++ [136, 2]) := o2
  refine x_aload_n 0 dX7_sayClose_8 rfl (by first | rfl | assumption) ?_
  refine x_iload_n 1 dX7_sayClose_9 rfl (by first | rfl | assumption) ?_
  refine x_sipush 256 dX7_sayClose_10 (by decide) ?_
  refine x_idiv dX7_sayClose_13 (by decide) ?_
  refine cl_X7_sayClose_14 (sm_put1 hm o2 (by rw [List.length_append]; show _ + 2 < _; omega) _) hm.1 (Nat.le_of_ble_eq_true rfl) ⟨Nat.le_of_ble_eq_true rfl, Nat.le_of_ble_eq_true rfl⟩ (fun r g hq => ?_)
  obtain ⟨rfl, V3, F3, hm, e3, o3⟩ := hq
  refine x_aload_n 0 dX7_sayClose_17 rfl (by first | rfl | assumption) ?_
  refine x_iload_n 1 dX7_sayClose_18 rfl (by first | rfl | assumption) ?_
  refine x_sipush 256 dX7_sayClose_19 (by decide) ?_
  refine x_irem dX7_sayClose_22 (by decide) ?_
  refine cl_X7_sayClose_23 (sm_put1 hm o3 (by rw [List.length_append, List.length_append]; show _ + 2 + 1 < _; omega) _) hm.1 (Nat.le_of_ble_eq_true rfl) ⟨Nat.le_of_ble_eq_true rfl, Nat.le_of_ble_eq_true rfl⟩ (fun r g hq => ?_)
  obtain ⟨rfl, V4, F4, hm, e4, o4⟩ := hq
  refine x_vret rfl dX7_sayClose_26 (by decide) (by decide) ?_
  rw [List.append_assoc] at o4
  exact ⟨rfl, V4, F4, hm, (e2.tr e3).tr e4, o4⟩
end MdlC
