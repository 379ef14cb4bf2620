/-! FramedTalk$Request: what only reads -/
section ReqA
variable {G : q_G} {h : q_H} {a rb ra aS aT aE : Nat} {l : List Int32}
theorem sp_ld (b : Int32) : q_SP G mX3_isLetterOrDigit [.int b] h 0 0 (fun o h' => o = some (.int (z_b (z_ld b))) ∧ h' = h) := by
  refine q_enter (M := mX3_isLetterOrDigit) (by decide +kernel) rfl (Nat.le_of_ble_eq_true rfl) ?_
  refine x_iload_n 0 dX3_isLetterOrDigit_0 rfl (by first | rfl | assumption) ?_
  refine x_bipush 97 dX3_isLetterOrDigit_1 (by decide) ?_
  refine x_icmp_lt 12 dX3_isLetterOrDigit_3 (by decide) (fun c3 => ?_) (fun c3 => ?_)
  · refine x_iload_n 0 dX3_isLetterOrDigit_12 rfl (by first | rfl | assumption) ?_
    refine x_bipush 65 dX3_isLetterOrDigit_13 (by decide) ?_
    refine x_icmp_lt 24 dX3_isLetterOrDigit_15 (by decide) (fun c15 => ?_) (fun c15 => ?_)
    · refine x_iload_n 0 dX3_isLetterOrDigit_24 rfl (by first | rfl | assumption) ?_
      refine x_bipush 48 dX3_isLetterOrDigit_25 (by decide) ?_
      refine x_icmp_lt 40 dX3_isLetterOrDigit_27 (by decide) (fun c27 => ?_) (fun c27 => ?_)
      · refine x_iconst 0 dX3_isLetterOrDigit_40 (by decide) ?_
        refine x_iret rfl (by first | rfl | assumption | exact z_nb _ | decide) dX3_isLetterOrDigit_41 (by decide) (by decide) ?_
        exact ⟨by simp [z_ld, z_b, *], rfl⟩
      · refine x_iload_n 0 dX3_isLetterOrDigit_30 rfl (by first | rfl | assumption) ?_
        refine x_bipush 57 dX3_isLetterOrDigit_31 (by decide) ?_
        refine x_icmp_gt 40 dX3_isLetterOrDigit_33 (by decide) (fun c33 => ?_) (fun c33 => ?_)
        · refine x_iconst 0 dX3_isLetterOrDigit_40 (by decide) ?_
          refine x_iret rfl (by first | rfl | assumption | exact z_nb _ | decide) dX3_isLetterOrDigit_41 (by decide) (by decide) ?_
          exact ⟨by simp [z_ld, z_b, *], rfl⟩
        · refine x_iconst 1 dX3_isLetterOrDigit_36 (by decide) ?_
          refine x_goto 41 dX3_isLetterOrDigit_37 (by decide) ?_
          refine x_iret rfl (by first | rfl | assumption | exact z_nb _ | decide) dX3_isLetterOrDigit_41 (by decide) (by decide) ?_
          exact ⟨by simp [z_ld, z_b, *], rfl⟩
    · refine x_iload_n 0 dX3_isLetterOrDigit_18 rfl (by first | rfl | assumption) ?_
      refine x_bipush 90 dX3_isLetterOrDigit_19 (by decide) ?_
      refine x_icmp_le 36 dX3_isLetterOrDigit_21 (by decide) (fun c21 => ?_) (fun c21 => ?_)
      · refine x_iconst 1 dX3_isLetterOrDigit_36 (by decide) ?_
        refine x_goto 41 dX3_isLetterOrDigit_37 (by decide) ?_
        refine x_iret rfl (by first | rfl | assumption | exact z_nb _ | decide) dX3_isLetterOrDigit_41 (by decide) (by decide) ?_
        exact ⟨by simp [z_ld, z_b, *], rfl⟩
      · refine x_iload_n 0 dX3_isLetterOrDigit_24 rfl (by first | rfl | assumption) ?_
        refine x_bipush 48 dX3_isLetterOrDigit_25 (by decide) ?_
        refine x_icmp_lt 40 dX3_isLetterOrDigit_27 (by decide) (fun c27 => ?_) (fun c27 => ?_)
        · refine x_iconst 0 dX3_isLetterOrDigit_40 (by decide) ?_
          refine x_iret rfl (by first | rfl | assumption | exact z_nb _ | decide) dX3_isLetterOrDigit_41 (by decide) (by decide) ?_
          exact ⟨by simp [z_ld, z_b, *], rfl⟩
        · refine x_iload_n 0 dX3_isLetterOrDigit_30 rfl (by first | rfl | assumption) ?_
          refine x_bipush 57 dX3_isLetterOrDigit_31 (by decide) ?_
          refine x_icmp_gt 40 dX3_isLetterOrDigit_33 (by decide) (fun c33 => ?_) (fun c33 => ?_)
          · refine x_iconst 0 dX3_isLetterOrDigit_40 (by decide) ?_
            refine x_iret rfl (by first | rfl | assumption | exact z_nb _ | decide) dX3_isLetterOrDigit_41 (by decide) (by decide) ?_
            exact ⟨by simp [z_ld, z_b, *], rfl⟩
          · refine x_iconst 1 dX3_isLetterOrDigit_36 (by decide) ?_
            refine x_goto 41 dX3_isLetterOrDigit_37 (by decide) ?_
            refine x_iret rfl (by first | rfl | assumption | exact z_nb _ | decide) dX3_isLetterOrDigit_41 (by decide) (by decide) ?_
            exact ⟨by simp [z_ld, z_b, *], rfl⟩
  · refine x_iload_n 0 dX3_isLetterOrDigit_6 rfl (by first | rfl | assumption) ?_
    refine x_bipush 122 dX3_isLetterOrDigit_7 (by decide) ?_
    refine x_icmp_le 36 dX3_isLetterOrDigit_9 (by decide) (fun c9 => ?_) (fun c9 => ?_)
    · refine x_iconst 1 dX3_isLetterOrDigit_36 (by decide) ?_
      refine x_goto 41 dX3_isLetterOrDigit_37 (by decide) ?_
      refine x_iret rfl (by first | rfl | assumption | exact z_nb _ | decide) dX3_isLetterOrDigit_41 (by decide) (by decide) ?_
      exact ⟨by simp [z_ld, z_b, *], rfl⟩
    · refine x_iload_n 0 dX3_isLetterOrDigit_12 rfl (by first | rfl | assumption) ?_
      refine x_bipush 65 dX3_isLetterOrDigit_13 (by decide) ?_
      refine x_icmp_lt 24 dX3_isLetterOrDigit_15 (by decide) (fun c15 => ?_) (fun c15 => ?_)
      · refine x_iload_n 0 dX3_isLetterOrDigit_24 rfl (by first | rfl | assumption) ?_
        refine x_bipush 48 dX3_isLetterOrDigit_25 (by decide) ?_
        refine x_icmp_lt 40 dX3_isLetterOrDigit_27 (by decide) (fun c27 => ?_) (fun c27 => ?_)
        · refine x_iconst 0 dX3_isLetterOrDigit_40 (by decide) ?_
          refine x_iret rfl (by first | rfl | assumption | exact z_nb _ | decide) dX3_isLetterOrDigit_41 (by decide) (by decide) ?_
          exact ⟨by simp [z_ld, z_b, *], rfl⟩
        · refine x_iload_n 0 dX3_isLetterOrDigit_30 rfl (by first | rfl | assumption) ?_
          refine x_bipush 57 dX3_isLetterOrDigit_31 (by decide) ?_
          refine x_icmp_gt 40 dX3_isLetterOrDigit_33 (by decide) (fun c33 => ?_) (fun c33 => ?_)
          · refine x_iconst 0 dX3_isLetterOrDigit_40 (by decide) ?_
            refine x_iret rfl (by first | rfl | assumption | exact z_nb _ | decide) dX3_isLetterOrDigit_41 (by decide) (by decide) ?_
            exact ⟨by simp [z_ld, z_b, *], rfl⟩
          · refine x_iconst 1 dX3_isLetterOrDigit_36 (by decide) ?_
            refine x_goto 41 dX3_isLetterOrDigit_37 (by decide) ?_
            refine x_iret rfl (by first | rfl | assumption | exact z_nb _ | decide) dX3_isLetterOrDigit_41 (by decide) (by decide) ?_
            exact ⟨by simp [z_ld, z_b, *], rfl⟩
      · refine x_iload_n 0 dX3_isLetterOrDigit_18 rfl (by first | rfl | assumption) ?_
        refine x_bipush 90 dX3_isLetterOrDigit_19 (by decide) ?_
        refine x_icmp_le 36 dX3_isLetterOrDigit_21 (by decide) (fun c21 => ?_) (fun c21 => ?_)
        · refine x_iconst 1 dX3_isLetterOrDigit_36 (by decide) ?_
          refine x_goto 41 dX3_isLetterOrDigit_37 (by decide) ?_
          refine x_iret rfl (by first | rfl | assumption | exact z_nb _ | decide) dX3_isLetterOrDigit_41 (by decide) (by decide) ?_
          exact ⟨by simp [z_ld, z_b, *], rfl⟩
        · refine x_iload_n 0 dX3_isLetterOrDigit_24 rfl (by first | rfl | assumption) ?_
          refine x_bipush 48 dX3_isLetterOrDigit_25 (by decide) ?_
          refine x_icmp_lt 40 dX3_isLetterOrDigit_27 (by decide) (fun c27 => ?_) (fun c27 => ?_)
          · refine x_iconst 0 dX3_isLetterOrDigit_40 (by decide) ?_
            refine x_iret rfl (by first | rfl | assumption | exact z_nb _ | decide) dX3_isLetterOrDigit_41 (by decide) (by decide) ?_
            exact ⟨by simp [z_ld, z_b, *], rfl⟩
          · refine x_iload_n 0 dX3_isLetterOrDigit_30 rfl (by first | rfl | assumption) ?_
            refine x_bipush 57 dX3_isLetterOrDigit_31 (by decide) ?_
            refine x_icmp_gt 40 dX3_isLetterOrDigit_33 (by decide) (fun c33 => ?_) (fun c33 => ?_)
            · refine x_iconst 0 dX3_isLetterOrDigit_40 (by decide) ?_
              refine x_iret rfl (by first | rfl | assumption | exact z_nb _ | decide) dX3_isLetterOrDigit_41 (by decide) (by decide) ?_
              exact ⟨by simp [z_ld, z_b, *], rfl⟩
            · refine x_iconst 1 dX3_isLetterOrDigit_36 (by decide) ?_
              refine x_goto 41 dX3_isLetterOrDigit_37 (by decide) ?_
              refine x_iret rfl (by first | rfl | assumption | exact z_nb _ | decide) dX3_isLetterOrDigit_41 (by decide) (by decide) ?_
              exact ⟨by simp [z_ld, z_b, *], rfl⟩
theorem sp_ns (b : Int32) : q_SP G mX3_isNameSign [.int b] h 0 0 (fun o h' => o = some (.int (z_b (z_ns b))) ∧ h' = h) := by
  refine q_enter (M := mX3_isNameSign) (by decide +kernel) rfl (Nat.le_of_ble_eq_true rfl) ?_
  refine x_iload_n 0 dX3_isNameSign_0 rfl (by first | rfl | assumption) ?_
  refine cl_X3_isNameSign_1 (sp_ld b) (Nat.le_of_ble_eq_true rfl) ⟨Nat.le_of_ble_eq_true rfl, Nat.le_of_ble_eq_true rfl⟩ (fun r h1 hq => ?_)
  obtain ⟨rfl, rfl⟩ := hq
  refine x_if_ne 13 dX3_isNameSign_4 (by decide) (fun c4 => ?_) (fun c4 => ?_)
  · refine x_iconst 1 dX3_isNameSign_13 (by decide) ?_
    refine x_goto 18 dX3_isNameSign_14 (by decide) ?_
    refine x_iret rfl (by first | rfl | assumption | exact z_nb _ | decide) dX3_isNameSign_18 (by decide) (by decide) ?_
    exact ⟨by first | (rw [z_ns, z_b1 c4]; rfl) | (rw [z_ns, z_b0 c4]; simp [z_b, *]), rfl⟩
  · refine x_iload_n 0 dX3_isNameSign_7 rfl (by first | rfl | assumption) ?_
    refine x_bipush 45 dX3_isNameSign_8 (by decide) ?_
    refine x_icmp_ne 17 dX3_isNameSign_10 (by decide) (fun c10 => ?_) (fun c10 => ?_)
    · refine x_iconst 0 dX3_isNameSign_17 (by decide) ?_
      refine x_iret rfl (by first | rfl | assumption | exact z_nb _ | decide) dX3_isNameSign_18 (by decide) (by decide) ?_
      exact ⟨by first | (rw [z_ns, z_b1 c4]; rfl) | (rw [z_ns, z_b0 c4]; simp [z_b, *]), rfl⟩
    · refine x_iconst 1 dX3_isNameSign_13 (by decide) ?_
      refine x_goto 18 dX3_isNameSign_14 (by decide) ?_
      refine x_iret rfl (by first | rfl | assumption | exact z_nb _ | decide) dX3_isNameSign_18 (by decide) (by decide) ?_
      exact ⟨by first | (rw [z_ns, z_b1 c4]; rfl) | (rw [z_ns, z_b0 c4]; simp [z_b, *]), rfl⟩
theorem sp_small (b : Int32) : q_SP G mX3_asSmall [.int b] h 0 0 (fun o h' => o = some (.int (z_small b)) ∧ h' = h) := by
  refine q_enter (M := mX3_asSmall) (by decide +kernel) rfl (Nat.le_of_ble_eq_true rfl) ?_
  refine x_iload_n 0 dX3_asSmall_0 rfl (by first | rfl | assumption) ?_
  refine x_bipush 65 dX3_asSmall_1 (by decide) ?_
  refine x_icmp_lt 19 dX3_asSmall_3 (by decide) (fun c3 => ?_) (fun c3 => ?_)
  · refine x_iload_n 0 dX3_asSmall_19 rfl (by first | rfl | assumption) ?_
    refine x_iret rfl (by first | rfl | assumption | exact z_nb _ | decide) dX3_asSmall_20 (by decide) (by decide) ?_
    exact ⟨by simp [z_small, *], rfl⟩
  · refine x_iload_n 0 dX3_asSmall_6 rfl (by first | rfl | assumption) ?_
    refine x_bipush 90 dX3_asSmall_7 (by decide) ?_
    refine x_icmp_gt 19 dX3_asSmall_9 (by decide) (fun c9 => ?_) (fun c9 => ?_)
    · refine x_iload_n 0 dX3_asSmall_19 rfl (by first | rfl | assumption) ?_
      refine x_iret rfl (by first | rfl | assumption | exact z_nb _ | decide) dX3_asSmall_20 (by decide) (by decide) ?_
      exact ⟨by simp [z_small, *], rfl⟩
    · refine x_iload_n 0 dX3_asSmall_12 rfl (by first | rfl | assumption) ?_
      refine x_bipush 32 dX3_asSmall_13 (by decide) ?_
      refine x_iadd dX3_asSmall_15 ?_
      refine x_goto 20 dX3_asSmall_16 (by decide) ?_
      refine x_iret rfl (by first | rfl | assumption | exact z_nb _ | decide) dX3_asSmall_20 (by decide) (by decide) ?_
      exact ⟨by simp [z_small, *], rfl⟩
theorem sp_blank (b : Int32) : q_SP G mX3_isBlank [.int b] h 0 0 (fun o h' => o = some (.int (z_b (z_blank b))) ∧ h' = h) := by
  refine q_enter (M := mX3_isBlank) (by decide +kernel) rfl (Nat.le_of_ble_eq_true rfl) ?_
  refine x_iload_n 0 dX3_isBlank_0 rfl (by first | rfl | assumption) ?_
  refine x_bipush 32 dX3_isBlank_1 (by decide) ?_
  refine x_icmp_eq 12 dX3_isBlank_3 (by decide) (fun c3 => ?_) (fun c3 => ?_)
  · refine x_iconst 1 dX3_isBlank_12 (by decide) ?_
    refine x_goto 17 dX3_isBlank_13 (by decide) ?_
    refine x_iret rfl (by first | rfl | assumption | exact z_nb _ | decide) dX3_isBlank_17 (by decide) (by decide) ?_
    exact ⟨by simp [z_blank, z_b, *], rfl⟩
  · refine x_iload_n 0 dX3_isBlank_6 rfl (by first | rfl | assumption) ?_
    refine x_bipush 9 dX3_isBlank_7 (by decide) ?_
    refine x_icmp_ne 16 dX3_isBlank_9 (by decide) (fun c9 => ?_) (fun c9 => ?_)
    · refine x_iconst 0 dX3_isBlank_16 (by decide) ?_
      refine x_iret rfl (by first | rfl | assumption | exact z_nb _ | decide) dX3_isBlank_17 (by decide) (by decide) ?_
      exact ⟨by simp [z_blank, z_b, *], rfl⟩
    · refine x_iconst 1 dX3_isBlank_12 (by decide) ?_
      refine x_goto 17 dX3_isBlank_13 (by decide) ?_
      refine x_iret rfl (by first | rfl | assumption | exact z_nb _ | decide) dX3_isBlank_17 (by decide) (by decide) ?_
      exact ⟨by simp [z_blank, z_b, *], rfl⟩
/-- what 'at' answers -/
def z_at (l : List Int32) (i : Int32) : Int32 := if ¬ i < 0 ∧ ¬ nI l.length ≤ i then l.getD i.toNatClampNeg 0 else -1
theorem z_at_nI {k : Nat} (hk : k < l.length) (hl : l.length < 2 ^ 20) : z_at l (nI k) = l.getD k 0 := by
  unfold z_at
  rw [if_pos ⟨nI_pos (by omega), nI_ge hk (by omega)⟩, nI_clamp (by omega)]
theorem sp_atZ {r ra N : Nat} (hr : k_row h r ra N l) (i : Int32) : q_SP G mX0_at [.ref r, .int i] h 0 0 (fun o h' => o = some (.int (z_at l i)) ∧ h' = h) := sp_at hr i
theorem sp_isLineEnd (ho : h a = some (k_ob 3 [.ref rb, .ref aS, .ref aT, .ref aE])) (hr : k_row h rb ra 400 l) (i : Int32) : q_SP G mX3_isLineEnd [.ref a, .int i] h 0 0 (fun o h' => o = some (.int (z_b (decide (z_at l i = 13) && decide (z_at l (i + 1) = 10)))) ∧ h' = h) := by
  have hr0 := hr
  obtain ⟨f, h1, h2, h3, h4, h5⟩ := hr
  refine q_enter (M := mX3_isLineEnd) (by decide +kernel) rfl (Nat.le_of_ble_eq_true rfl) ?_
  refine x_aload_n 0 dX3_isLineEnd_0 rfl (by first | rfl | assumption) ?_
  refine gf_X3_isLineEnd_14 dX3_isLineEnd_1 (by first | assumption | exact va_up_self _ _ _) rfl ?_
  refine x_iload_n 1 dX3_isLineEnd_4 rfl (by first | rfl | assumption) ?_
  refine cl_X3_isLineEnd_5 (sp_atZ hr0 i) (by first | assumption | exact va_up_self _ _ _) (Nat.le_of_ble_eq_true rfl) ⟨Nat.le_of_ble_eq_true rfl, Nat.le_of_ble_eq_true rfl⟩ (fun r h1 hq => ?_)
  obtain ⟨rfl, rfl⟩ := hq
  refine x_bipush 13 dX3_isLineEnd_8 (by decide) ?_
  refine x_icmp_ne 32 dX3_isLineEnd_10 (by decide) (fun c10 => ?_) (fun c10 => ?_)
  · refine x_iconst 0 dX3_isLineEnd_32 (by decide) ?_
    refine x_iret rfl (by first | rfl | assumption | exact z_nb _ | decide) dX3_isLineEnd_33 (by decide) (by decide) ?_
    exact ⟨by simp [z_b, c10], rfl⟩
  · refine x_aload_n 0 dX3_isLineEnd_13 rfl (by first | rfl | assumption) ?_
    refine gf_X3_isLineEnd_14 dX3_isLineEnd_14 (by first | assumption | exact va_up_self _ _ _) rfl ?_
    refine x_iload_n 1 dX3_isLineEnd_17 rfl (by first | rfl | assumption) ?_
    refine x_iconst 1 dX3_isLineEnd_18 (by decide) ?_
    refine x_iadd dX3_isLineEnd_19 ?_
    refine cl_X3_isLineEnd_20 (sp_atZ hr0 (i + 1)) (by first | assumption | exact va_up_self _ _ _) (Nat.le_of_ble_eq_true rfl) ⟨Nat.le_of_ble_eq_true rfl, Nat.le_of_ble_eq_true rfl⟩ (fun r h1 hq => ?_)
    obtain ⟨rfl, rfl⟩ := hq
    refine x_bipush 10 dX3_isLineEnd_23 (by decide) ?_
    refine x_icmp_ne 32 dX3_isLineEnd_25 (by decide) (fun c25 => ?_) (fun c25 => ?_)
    · refine x_iconst 0 dX3_isLineEnd_32 (by decide) ?_
      refine x_iret rfl (by first | rfl | assumption | exact z_nb _ | decide) dX3_isLineEnd_33 (by decide) (by decide) ?_
      exact ⟨by simp [z_b, c10, c25], rfl⟩
    · refine x_iconst 1 dX3_isLineEnd_28 (by decide) ?_
      refine x_goto 33 dX3_isLineEnd_29 (by decide) ?_
      refine x_iret rfl (by first | rfl | assumption | exact z_nb _ | decide) dX3_isLineEnd_33 (by decide) (by decide) ?_
      exact ⟨by simp [z_b, c10, c25], rfl⟩
theorem sp_eol (ho : h a = some (k_ob 3 [.ref rb, .ref aS, .ref aT, .ref aE])) (hr : k_row h rb ra 400 l) {i : Nat} (hi : i + 1 < l.length) : q_SP G mX3_isLineEnd [.ref a, .int (nI i)] h 0 0 (fun o h' => o = some (.int (z_b (z_eol l i))) ∧ h' = h) := by
  have hl := hr.len
  refine (sp_isLineEnd ho hr (nI i)).to (fun o h' ⟨e1, e2⟩ => ⟨?_, e2⟩)
  rw [e1, nI_1, z_at_nI (by omega) (by omega), z_at_nI (by omega) (by omega)]
  rfl
theorem z_wl {i : Nat} (hi : i < 16) : q_len.getD i 0 = (z_w i).length ∧ (z_w i).length < 200 := ⟨(q_byt_ok i hi).1, (q_byt_ok i hi).2.1⟩
theorem z_wd {i k : Nat} (hi : i < 16) (hk : k < q_len.getD i 0) : (z_w i).drop k = q_ch i k :: (z_w i).drop (k + 1) := by
  have h1 := (z_wl hi).1
  have h2 : k < (q_byt.getD i []).length := h1 ▸ hk
  unfold q_ch
  rw [List.getD_eq_getElem?_getD (l := q_byt.getD i []), List.getElem?_eq_getElem h2]
  exact List.drop_eq_getElem_cons h2
theorem sp_isExactly (ho : h a = some (k_ob 3 [.ref rb, .ref aS, .ref aT, .ref aE])) (hr : k_row h rb ra 400 l) {i p : Nat} (hi : i < 16) (hp : p + q_len.getD i 0 ≤ l.length) : q_SP G mX3_isExactly [.ref a, .int (nI p), .ref (q_aK G i)] h 0 0 (fun o h' => o = some (.int (z_b (z_eqX l p (z_w i)))) ∧ h' = h) := by
  have hl := hr.len
  have hw := z_wl hi
  have hr0 := hr
  obtain ⟨f, h1, h2, h3, h4, h5⟩ := hr
  refine q_enter (M := mX3_isExactly) (by decide +kernel) rfl (Nat.le_of_ble_eq_true rfl) ?_
  refine x_iconst 0 dX3_isExactly_0 (by decide) ?_
  refine x_istore_n 3 dX3_isExactly_1 rfl (by decide) rfl ?_
  have loop : ∀ (n k : Nat) (x : Int32), x = nI k → k + n = q_len.getD i 0 → z_eqX l (p + k) ((z_w i).drop k) = z_eqX l p (z_w i) →
      q_X G mX3_isExactly (q_R mX3_isExactly 0 0) (q_FN G (fun o h' => o = some (.int (z_b (z_eqX l p (z_w i)))) ∧ h' = h) 0 0) 2 [(0, .ref a), (1, .int (nI p)), (2, .ref (q_aK G i)), (3, .int x)] [] h 0 0 := by
    intro n
    induction n with
    | zero =>
      intro k x hx hk he
      subst hx
      refine x_iload_n 3 dX3_isExactly_2 rfl (by first | rfl | assumption) ?_
      refine x_aload_n 2 dX3_isExactly_3 rfl (by first | rfl | assumption) ?_
      refine cl_X3_isExactly_4 (sp_slen hi) hi (Nat.le_of_ble_eq_true rfl) ⟨Nat.le_of_ble_eq_true rfl, Nat.le_of_ble_eq_true rfl⟩ (fun r1 g1 hq => ?_)
      obtain ⟨rfl, rfl⟩ := hq
      refine x_icmp_ge 36 dX3_isExactly_7 (by decide) (fun _ => ?_) (fun z => absurd (nI_le (by omega) (by omega)) z)
      refine x_iconst 1 dX3_isExactly_36 (by decide) ?_
      refine x_iret rfl (by first | rfl | assumption | exact z_nb _) dX3_isExactly_37 (by decide) (by decide) ?_
      rw [← he, List.drop_eq_nil_of_le (by omega)]
      exact ⟨rfl, rfl⟩
    | succ n ih =>
      intro k x hx hk he
      subst hx
      rw [z_wd hi (by omega)] at he
      refine x_iload_n 3 dX3_isExactly_2 rfl (by first | rfl | assumption) ?_
      refine x_aload_n 2 dX3_isExactly_3 rfl (by first | rfl | assumption) ?_
      refine cl_X3_isExactly_4 (sp_slen hi) hi (Nat.le_of_ble_eq_true rfl) ⟨Nat.le_of_ble_eq_true rfl, Nat.le_of_ble_eq_true rfl⟩ (fun r1 g1 hq => ?_)
      obtain ⟨rfl, rfl⟩ := hq
      refine x_icmp_ge 36 dX3_isExactly_7 (by decide) (fun z => absurd z (nI_ge (by omega) (by omega))) (fun _ => ?_)
      refine x_aload_n 0 dX3_isExactly_10 rfl (by first | rfl | assumption) ?_
      refine gf_X3_isExactly_14 dX3_isExactly_11 (by first | assumption | exact va_up_self _ _ _) rfl ?_
      refine x_iload_n 1 dX3_isExactly_14 rfl (by first | rfl | assumption) ?_
      refine x_iload_n 3 dX3_isExactly_15 rfl (by first | rfl | assumption) ?_
      refine x_iadd dX3_isExactly_16 ?_
      rw [nI_add]
      refine cl_X3_isExactly_17 (sp_atN hr0 (k := p + k) (by omega)) (by first | assumption | exact va_up_self _ _ _) (Nat.le_of_ble_eq_true rfl) ⟨Nat.le_of_ble_eq_true rfl, Nat.le_of_ble_eq_true rfl⟩ (fun r1 g1 hq => ?_)
      obtain ⟨rfl, rfl⟩ := hq
      refine x_aload_n 2 dX3_isExactly_20 rfl (by first | rfl | assumption) ?_
      refine x_iload_n 3 dX3_isExactly_21 rfl (by first | rfl | assumption) ?_
      refine cl_X3_isExactly_22 (sp_schar hi (k := k) (by omega)) hi (Nat.le_of_ble_eq_true rfl) ⟨Nat.le_of_ble_eq_true rfl, Nat.le_of_ble_eq_true rfl⟩ (fun r1 g1 hq => ?_)
      obtain ⟨rfl, rfl⟩ := hq
      refine x_icmp_eq 30 dX3_isExactly_25 (by decide) (fun c25 => ?_) (fun c25 => ?_)
      · refine x_iinc 1 dX3_isExactly_30 (by first | rfl | assumption) (by decide) (by decide) rfl ?_
        refine x_goto 2 dX3_isExactly_33 (by decide) ?_
        refine ih (k + 1) _ (nI_1 k) (by omega) ?_
        rw [← he]
        simp only [z_eqX, c25, decide_true, Bool.true_and]
        rfl
      · refine x_iconst 0 dX3_isExactly_28 (by decide) ?_
        refine x_iret rfl (by first | rfl | assumption | exact z_nb _) dX3_isExactly_29 (by decide) (by decide) ?_
        refine ⟨?_, rfl⟩
        rw [← he]
        simp only [z_eqX, decide_eq_false c25, Bool.false_and]
        rfl
  exact loop (q_len.getD i 0) 0 0 rfl (by omega) rfl
theorem sp_isSame (ho : h a = some (k_ob 3 [.ref rb, .ref aS, .ref aT, .ref aE])) (hr : k_row h rb ra 400 l) {i f t : Nat} (hi : i < 16) (hf : f ≤ l.length) (ht : t ≤ l.length) : q_SP G mX3_isSame [.ref a, .int (nI f), .int (nI t), .ref (q_aK G i)] h 0 0 (fun o h' => o = some (.int (z_b (z_same l f t (z_w i)))) ∧ h' = h) := by
  have hl := hr.len
  have hw := z_wl hi
  have hr0 := hr
  obtain ⟨f0, h1, h2, h3, h4, h5⟩ := hr
  refine q_enter (M := mX3_isSame) (by decide +kernel) rfl (Nat.le_of_ble_eq_true rfl) ?_
  refine x_iload_n 2 dX3_isSame_0 rfl (by first | rfl | assumption) ?_
  refine x_iload_n 1 dX3_isSame_1 rfl (by first | rfl | assumption) ?_
  refine x_isub dX3_isSame_2 ?_
  refine x_aload_n 3 dX3_isSame_3 rfl (by first | rfl | assumption) ?_
  refine cl_X3_isSame_4 (sp_slen hi) hi (Nat.le_of_ble_eq_true rfl) ⟨Nat.le_of_ble_eq_true rfl, Nat.le_of_ble_eq_true rfl⟩ (fun r1 g1 hq => ?_)
  obtain ⟨rfl, rfl⟩ := hq
  refine x_icmp_eq 12 dX3_isSame_7 (by decide) (fun c7 => ?_) (fun c7 => ?_)
  · have e0 : t = f + q_len.getD i 0 := (z_sub_eq (by omega) (by omega) (by omega)).mp c7
    have hg : z_same l f t (z_w i) = z_eqS l f (z_w i) := by
      unfold z_same
      rw [decide_eq_true (show t = f + (z_w i).length by omega), Bool.true_and]
    rw [hg]
    refine x_iconst 0 dX3_isSame_12 (by decide) ?_
    refine x_istore dX3_isSame_13 (by decide) rfl ?_
    have loop : ∀ (n k : Nat) (x : Int32), x = nI k → k + n = q_len.getD i 0 → z_eqS l (f + k) ((z_w i).drop k) = z_eqS l f (z_w i) →
        q_X G mX3_isSame (q_R mX3_isSame 0 0) (q_FN G (fun o h' => o = some (.int (z_b (z_eqS l f (z_w i)))) ∧ h' = g1) 0 0) 15 [(0, .ref a), (1, .int (nI f)), (2, .int (nI t)), (3, .ref (q_aK G i)), (4, .int x)] [] g1 0 0 := by
      intro n
      induction n with
      | zero =>
        intro k x hx hk he
        subst hx
        refine x_iload dX3_isSame_15 (by first | rfl | assumption) ?_
        refine x_aload_n 3 dX3_isSame_17 rfl (by first | rfl | assumption) ?_
        refine cl_X3_isSame_18 (sp_slen hi) hi (Nat.le_of_ble_eq_true rfl) ⟨Nat.le_of_ble_eq_true rfl, Nat.le_of_ble_eq_true rfl⟩ (fun r1 g1 hq => ?_)
        obtain ⟨rfl, rfl⟩ := hq
        refine x_icmp_ge 55 dX3_isSame_21 (by decide) (fun _ => ?_) (fun z => absurd (nI_le (by omega) (by omega)) z)
        refine x_iconst 1 dX3_isSame_55 (by decide) ?_
        refine x_iret rfl (by first | rfl | assumption | exact z_nb _) dX3_isSame_56 (by decide) (by decide) ?_
        rw [← he, List.drop_eq_nil_of_le (by omega)]
        exact ⟨rfl, rfl⟩
      | succ n ih =>
        intro k x hx hk he
        subst hx
        rw [z_wd hi (by omega)] at he
        refine x_iload dX3_isSame_15 (by first | rfl | assumption) ?_
        refine x_aload_n 3 dX3_isSame_17 rfl (by first | rfl | assumption) ?_
        refine cl_X3_isSame_18 (sp_slen hi) hi (Nat.le_of_ble_eq_true rfl) ⟨Nat.le_of_ble_eq_true rfl, Nat.le_of_ble_eq_true rfl⟩ (fun r1 g1 hq => ?_)
        obtain ⟨rfl, rfl⟩ := hq
        refine x_icmp_ge 55 dX3_isSame_21 (by decide) (fun z => absurd z (nI_ge (by omega) (by omega))) (fun _ => ?_)
        refine x_aload_n 0 dX3_isSame_24 rfl (by first | rfl | assumption) ?_
        refine gf_X3_isSame_14 dX3_isSame_25 (by first | assumption | exact va_up_self _ _ _) rfl ?_
        refine x_iload_n 1 dX3_isSame_28 rfl (by first | rfl | assumption) ?_
        refine x_iload dX3_isSame_29 (by first | rfl | assumption) ?_
        refine x_iadd dX3_isSame_31 ?_
        rw [nI_add]
        refine cl_X3_isSame_32 (sp_atN hr0 (k := f + k) (by omega)) (by first | assumption | exact va_up_self _ _ _) (Nat.le_of_ble_eq_true rfl) ⟨Nat.le_of_ble_eq_true rfl, Nat.le_of_ble_eq_true rfl⟩ (fun r1 g1 hq => ?_)
        obtain ⟨rfl, rfl⟩ := hq
        refine cl_X3_isSame_35 (sp_small _) (Nat.le_of_ble_eq_true rfl) ⟨Nat.le_of_ble_eq_true rfl, Nat.le_of_ble_eq_true rfl⟩ (fun r1 g1 hq => ?_)
        obtain ⟨rfl, rfl⟩ := hq
        refine x_aload_n 3 dX3_isSame_38 rfl (by first | rfl | assumption) ?_
        refine x_iload dX3_isSame_39 (by first | rfl | assumption) ?_
        refine cl_X3_isSame_41 (sp_schar hi (k := k) (by omega)) hi (Nat.le_of_ble_eq_true rfl) ⟨Nat.le_of_ble_eq_true rfl, Nat.le_of_ble_eq_true rfl⟩ (fun r1 g1 hq => ?_)
        obtain ⟨rfl, rfl⟩ := hq
        refine x_icmp_eq 49 dX3_isSame_44 (by decide) (fun c44 => ?_) (fun c44 => ?_)
        · refine x_iinc 1 dX3_isSame_49 (by first | rfl | assumption) (by decide) (by decide) rfl ?_
          refine x_goto 15 dX3_isSame_52 (by decide) ?_
          refine ih (k + 1) _ (nI_1 k) (by omega) ?_
          rw [← he]
          simp only [z_eqS, c44, decide_true, Bool.true_and]
          rfl
        · refine x_iconst 0 dX3_isSame_47 (by decide) ?_
          refine x_iret rfl (by first | rfl | assumption | exact z_nb _) dX3_isSame_48 (by decide) (by decide) ?_
          refine ⟨?_, rfl⟩
          rw [← he]
          simp only [z_eqS, decide_eq_false c44, Bool.false_and]
          rfl
    exact loop (q_len.getD i 0) 0 0 rfl (by omega) rfl
  · refine x_iconst 0 dX3_isSame_10 (by decide) ?_
    refine x_iret rfl (by first | rfl | assumption | exact z_nb _) dX3_isSame_11 (by decide) (by decide) ?_
    have e0 : ¬ t = f + (z_w i).length := fun z => c7 ((z_sub_eq (by omega) (by omega) (by omega)).mpr (by omega))
    unfold z_same
    rw [decide_eq_false e0, Bool.false_and]
    exact ⟨rfl, rfl⟩
theorem sp_allWithin (ho : h a = some (k_ob 3 [.ref rb, .ref aS, .ref aT, .ref aE])) (hr : k_row h rb ra 400 l) {f t : Nat} (hf : f ≤ t) (ht : t ≤ l.length) : q_SP G mX3_allWithin [.ref a, .int (nI f), .int (nI t), .int 33] h 0 0 (fun o h' => o = some (.int (z_b (z_in33 l (t - f) f))) ∧ h' = h) := by
  have hl := hr.len
  have hr0 := hr
  obtain ⟨f0, h1, h2, h3, h4, h5⟩ := hr
  refine q_enter (M := mX3_allWithin) (by decide +kernel) rfl (Nat.le_of_ble_eq_true rfl) ?_
  refine x_iload_n 1 dX3_allWithin_0 rfl (by first | rfl | assumption) ?_
  refine x_istore dX3_allWithin_1 (by decide) rfl ?_
  have loop : ∀ (n i : Nat) (x : Int32), x = nI i → i + n = t → z_in33 l n i = z_in33 l (t - f) f →
      q_X G mX3_allWithin (q_R mX3_allWithin 0 0) (q_FN G (fun o h' => o = some (.int (z_b (z_in33 l (t - f) f))) ∧ h' = h) 0 0) 3 [(0, .ref a), (1, .int (nI f)), (2, .int (nI t)), (3, .int 33), (4, .int x)] [] h 0 0 := by
    intro n
    induction n with
    | zero =>
      intro i x hx hk he
      subst hx
      refine x_iload dX3_allWithin_3 (by first | rfl | assumption) ?_
      refine x_iload_n 2 dX3_allWithin_5 rfl (by first | rfl | assumption) ?_
      refine x_icmp_ge 44 dX3_allWithin_6 (by decide) (fun _ => ?_) (fun z => absurd (nI_le (by omega) (by omega)) z)
      refine x_iconst 1 dX3_allWithin_44 (by decide) ?_
      refine x_iret rfl (by first | rfl | assumption | exact z_nb _) dX3_allWithin_45 (by decide) (by decide) ?_
      rw [← he]
      exact ⟨rfl, rfl⟩
    | succ n ih =>
      intro i x hx hk he
      subst hx
      refine x_iload dX3_allWithin_3 (by first | rfl | assumption) ?_
      refine x_iload_n 2 dX3_allWithin_5 rfl (by first | rfl | assumption) ?_
      refine x_icmp_ge 44 dX3_allWithin_6 (by decide) (fun z => absurd z (nI_ge (by omega) (by omega))) (fun _ => ?_)
      refine x_aload_n 0 dX3_allWithin_9 rfl (by first | rfl | assumption) ?_
      refine gf_X3_allWithin_14 dX3_allWithin_10 (by first | assumption | exact va_up_self _ _ _) rfl ?_
      refine x_iload dX3_allWithin_13 (by first | rfl | assumption) ?_
      refine cl_X3_allWithin_15 (sp_atN hr0 (k := i) (by omega)) (by first | assumption | exact va_up_self _ _ _) (Nat.le_of_ble_eq_true rfl) ⟨Nat.le_of_ble_eq_true rfl, Nat.le_of_ble_eq_true rfl⟩ (fun r1 g1 hq => ?_)
      obtain ⟨rfl, rfl⟩ := hq
      refine x_iload_n 3 dX3_allWithin_18 rfl (by first | rfl | assumption) ?_
      refine x_icmp_lt 36 dX3_allWithin_19 (by decide) (fun c19 => ?_) (fun c19 => ?_)
      · refine x_iconst 0 dX3_allWithin_36 (by decide) ?_
        refine x_iret rfl (by first | rfl | assumption | exact z_nb _) dX3_allWithin_37 (by decide) (by decide) ?_
        refine ⟨?_, rfl⟩
        rw [← he]
        simp only [z_in33, decide_eq_true c19, Bool.not_true, Bool.false_and]
        rfl
      · refine x_aload_n 0 dX3_allWithin_22 rfl (by first | rfl | assumption) ?_
        refine gf_X3_allWithin_14 dX3_allWithin_23 (by first | assumption | exact va_up_self _ _ _) rfl ?_
        refine x_iload dX3_allWithin_26 (by first | rfl | assumption) ?_
        refine cl_X3_allWithin_28 (sp_atN hr0 (k := i) (by omega)) (by first | assumption | exact va_up_self _ _ _) (Nat.le_of_ble_eq_true rfl) ⟨Nat.le_of_ble_eq_true rfl, Nat.le_of_ble_eq_true rfl⟩ (fun r1 g1 hq => ?_)
        obtain ⟨rfl, rfl⟩ := hq
        refine x_bipush 126 dX3_allWithin_31 (by decide) ?_
        refine x_icmp_le 38 dX3_allWithin_33 (by decide) (fun c33 => ?_) (fun c33 => ?_)
        · refine x_iinc 1 dX3_allWithin_38 (by first | rfl | assumption) (by decide) (by decide) rfl ?_
          refine x_goto 3 dX3_allWithin_41 (by decide) ?_
          refine ih (i + 1) _ (nI_1 i) (by omega) ?_
          rw [← he]
          simp only [z_in33, decide_eq_false c19, decide_eq_true c33, Bool.not_false, Bool.true_and]
        · refine x_iconst 0 dX3_allWithin_36 (by decide) ?_
          refine x_iret rfl (by first | rfl | assumption | exact z_nb _) dX3_allWithin_37 (by decide) (by decide) ?_
          refine ⟨?_, rfl⟩
          rw [← he]
          simp only [z_in33, decide_eq_false c19, decide_eq_false c33, Bool.not_false, Bool.true_and, Bool.false_and]
          rfl
  exact loop (t - f) f _ rfl (by omega) rfl
theorem sp_skF (ho : h a = some (k_ob 3 [.ref rb, .ref aS, .ref aT, .ref aE])) (hr : k_row h rb ra 400 l) {f t : Nat} (hf : f ≤ t) (ht : t ≤ l.length) : q_SP G mX3_skipBlanks [.ref a, .int (nI f), .int (nI t)] h 0 0 (fun o h' => o = some (.int (nI (z_skF l (t - f) f))) ∧ h' = h) := by
  have hl := hr.len
  have hr0 := hr
  obtain ⟨f0, h1, h2, h3, h4, h5⟩ := hr
  refine q_enter (M := mX3_skipBlanks) (by decide +kernel) rfl (Nat.le_of_ble_eq_true rfl) ?_
  refine x_iload_n 1 dX3_skipBlanks_0 rfl (by first | rfl | assumption) ?_
  refine x_istore_n 3 dX3_skipBlanks_1 rfl (by decide) rfl ?_
  have loop : ∀ (n i : Nat) (x : Int32), x = nI i → i + n = t → z_skF l n i = z_skF l (t - f) f →
      q_X G mX3_skipBlanks (q_R mX3_skipBlanks 0 0) (q_FN G (fun o h' => o = some (.int (nI (z_skF l (t - f) f))) ∧ h' = h) 0 0) 2 [(0, .ref a), (1, .int (nI f)), (2, .int (nI t)), (3, .int x)] [] h 0 0 := by
    intro n
    induction n with
    | zero =>
      intro i x hx hk he
      subst hx
      refine x_iload_n 3 dX3_skipBlanks_2 rfl (by first | rfl | assumption) ?_
      refine x_iload_n 2 dX3_skipBlanks_3 rfl (by first | rfl | assumption) ?_
      refine x_icmp_ge 27 dX3_skipBlanks_4 (by decide) (fun _ => ?_) (fun z => absurd (nI_le (by omega) (by omega)) z)
      refine x_iload_n 3 dX3_skipBlanks_27 rfl (by first | rfl | assumption) ?_
      refine x_iret rfl (by first | rfl | assumption | exact z_nb _) dX3_skipBlanks_28 (by decide) (by decide) ?_
      rw [← he]
      exact ⟨rfl, rfl⟩
    | succ n ih =>
      intro i x hx hk he
      subst hx
      refine x_iload_n 3 dX3_skipBlanks_2 rfl (by first | rfl | assumption) ?_
      refine x_iload_n 2 dX3_skipBlanks_3 rfl (by first | rfl | assumption) ?_
      refine x_icmp_ge 27 dX3_skipBlanks_4 (by decide) (fun z => absurd z (nI_ge (by omega) (by omega))) (fun _ => ?_)
      refine x_aload_n 0 dX3_skipBlanks_7 rfl (by first | rfl | assumption) ?_
      refine gf_X3_skipBlanks_14 dX3_skipBlanks_8 (by first | assumption | exact va_up_self _ _ _) rfl ?_
      refine x_iload_n 3 dX3_skipBlanks_11 rfl (by first | rfl | assumption) ?_
      refine cl_X3_skipBlanks_12 (sp_atN hr0 (k := i) (by omega)) (by first | assumption | exact va_up_self _ _ _) (Nat.le_of_ble_eq_true rfl) ⟨Nat.le_of_ble_eq_true rfl, Nat.le_of_ble_eq_true rfl⟩ (fun r1 g1 hq => ?_)
      obtain ⟨rfl, rfl⟩ := hq
      refine cl_X3_skipBlanks_15 (sp_blank _) (Nat.le_of_ble_eq_true rfl) ⟨Nat.le_of_ble_eq_true rfl, Nat.le_of_ble_eq_true rfl⟩ (fun r1 g1 hq => ?_)
      obtain ⟨rfl, rfl⟩ := hq
      refine x_if_eq 27 dX3_skipBlanks_18 (by decide) (fun c18 => ?_) (fun c18 => ?_)
      · refine x_iload_n 3 dX3_skipBlanks_27 rfl (by first | rfl | assumption) ?_
        refine x_iret rfl (by first | rfl | assumption | exact z_nb _) dX3_skipBlanks_28 (by decide) (by decide) ?_
        rw [← he, z_skF, if_neg (by rw [z_b0 c18]; decide)]
        exact ⟨rfl, rfl⟩
      · refine x_iinc 1 dX3_skipBlanks_21 (by first | rfl | assumption) (by decide) (by decide) rfl ?_
        refine x_goto 2 dX3_skipBlanks_24 (by decide) ?_
        refine ih (i + 1) _ (nI_1 i) (by omega) ?_
        rw [← he]
        conv => rhs; rw [z_skF, if_pos (z_b1 c18)]
  exact loop (t - f) f _ rfl (by omega) rfl
theorem sp_skB (ho : h a = some (k_ob 3 [.ref rb, .ref aS, .ref aT, .ref aE])) (hr : k_row h rb ra 400 l) {f t : Nat} (hf : f ≤ t) (ht : t ≤ l.length) : q_SP G mX3_skipBlanksBack [.ref a, .int (nI f), .int (nI t)] h 0 0 (fun o h' => o = some (.int (nI (z_skB l (t - f) t))) ∧ h' = h) := by
  have hl := hr.len
  have hr0 := hr
  obtain ⟨f0, h1, h2, h3, h4, h5⟩ := hr
  refine q_enter (M := mX3_skipBlanksBack) (by decide +kernel) rfl (Nat.le_of_ble_eq_true rfl) ?_
  refine x_iload_n 2 dX3_skipBlanksBack_0 rfl (by first | rfl | assumption) ?_
  refine x_istore_n 3 dX3_skipBlanksBack_1 rfl (by decide) rfl ?_
  have loop : ∀ (n i : Nat) (x : Int32), x = nI i → i = f + n → i ≤ t → z_skB l n i = z_skB l (t - f) t →
      q_X G mX3_skipBlanksBack (q_R mX3_skipBlanksBack 0 0) (q_FN G (fun o h' => o = some (.int (nI (z_skB l (t - f) t))) ∧ h' = h) 0 0) 2 [(0, .ref a), (1, .int (nI f)), (2, .int (nI t)), (3, .int x)] [] h 0 0 := by
    intro n
    induction n with
    | zero =>
      intro i x hx hk hit he
      subst hx
      refine x_iload_n 3 dX3_skipBlanksBack_2 rfl (by first | rfl | assumption) ?_
      refine x_iload_n 1 dX3_skipBlanksBack_3 rfl (by first | rfl | assumption) ?_
      refine x_icmp_le 29 dX3_skipBlanksBack_4 (by decide) (fun _ => ?_) (fun z => absurd (nI_le (by omega) (by omega)) z)
      refine x_iload_n 3 dX3_skipBlanksBack_29 rfl (by first | rfl | assumption) ?_
      refine x_iret rfl (by first | rfl | assumption | exact z_nb _) dX3_skipBlanksBack_30 (by decide) (by decide) ?_
      rw [← he]
      exact ⟨rfl, rfl⟩
    | succ n ih =>
      intro i x hx hk hit he
      subst hx
      refine x_iload_n 3 dX3_skipBlanksBack_2 rfl (by first | rfl | assumption) ?_
      refine x_iload_n 1 dX3_skipBlanksBack_3 rfl (by first | rfl | assumption) ?_
      refine x_icmp_le 29 dX3_skipBlanksBack_4 (by decide) (fun z => absurd z (nI_ge (by omega) (by omega))) (fun _ => ?_)
      refine x_aload_n 0 dX3_skipBlanksBack_7 rfl (by first | rfl | assumption) ?_
      refine gf_X3_skipBlanksBack_14 dX3_skipBlanksBack_8 (by first | assumption | exact va_up_self _ _ _) rfl ?_
      refine x_iload_n 3 dX3_skipBlanksBack_11 rfl (by first | rfl | assumption) ?_
      refine x_iconst 1 dX3_skipBlanksBack_12 (by decide) ?_
      refine x_isub dX3_skipBlanksBack_13 ?_
      rw [show nI i - 1 = nI (i - 1) from pk_sub (b := 1) (by omega)]
      refine cl_X3_skipBlanksBack_14 (sp_atN hr0 (k := i - 1) (by omega)) (by first | assumption | exact va_up_self _ _ _) (Nat.le_of_ble_eq_true rfl) ⟨Nat.le_of_ble_eq_true rfl, Nat.le_of_ble_eq_true rfl⟩ (fun r1 g1 hq => ?_)
      obtain ⟨rfl, rfl⟩ := hq
      refine cl_X3_skipBlanksBack_17 (sp_blank _) (Nat.le_of_ble_eq_true rfl) ⟨Nat.le_of_ble_eq_true rfl, Nat.le_of_ble_eq_true rfl⟩ (fun r1 g1 hq => ?_)
      obtain ⟨rfl, rfl⟩ := hq
      refine x_if_eq 29 dX3_skipBlanksBack_20 (by decide) (fun c20 => ?_) (fun c20 => ?_)
      · refine x_iload_n 3 dX3_skipBlanksBack_29 rfl (by first | rfl | assumption) ?_
        refine x_iret rfl (by first | rfl | assumption | exact z_nb _) dX3_skipBlanksBack_30 (by decide) (by decide) ?_
        rw [← he, z_skB, if_neg (by rw [z_b0 c20]; decide)]
        exact ⟨rfl, rfl⟩
      · refine x_iinc (-1) dX3_skipBlanksBack_23 (by first | rfl | assumption) (by decide) (by decide) rfl ?_
        refine x_goto 2 dX3_skipBlanksBack_26 (by decide) ?_
        refine ih (i - 1) _ ?_ (by omega) (by omega) ?_
        · rw [sb_m1 (by omega)]
        · rw [← he]
          conv => rhs; rw [z_skB, if_pos (z_b1 c20)]
  exact loop (t - f) t _ rfl (by omega) (Nat.le_refl _) rfl
end ReqA
