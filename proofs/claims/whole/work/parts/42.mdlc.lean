/-! the reference: words of the request -/
section MdlD
variable {G : q_G} {h0 h : q_H} {B : Nat → Nat} {V : Nat → Value} {F : Nat → Nat → Int32} {l : List Int32}
def m_known (n t : Nat) : Int64 := match n, t with
  | 0, 0 => 0x74736F68
  | 1, 0 => 0x65646172677075
  | 2, 0 => 0x697463656E6E6F63
  | 2, 1 => 0x6E6F
  | 3, 0 => 0x736265772D636573
  | 3, 1 => 0x656B2D74656B636F
  | 3, 2 => 0x79
  | 4, 0 => 0x736265772D636573
  | 4, 1 => 0x65762D74656B636F
  | 4, 2 => 0x6E6F697372
  | 5, 0 => 0x656B636F73626577
  | 5, 1 => 0x74
  | _, _ => 0
theorem sm_known {n t : Nat} (hn : n < 6) (ht : t < 3) : q_SP G mX7_known [.int (nI n), .int (nI t)] h 0 0 (fun o h' => o = some (.long (m_known n t)) ∧ h' = h) := by
  have c6 : n = 0 ∨ n = 1 ∨ n = 2 ∨ n = 3 ∨ n = 4 ∨ n = 5 := by omega
  have c3 : t = 0 ∨ t = 1 ∨ t = 2 := by omega
  refine q_enter (M := mX7_known) (by decide +kernel) rfl (Nat.le_of_ble_eq_true rfl) ?_
  refine x_iload_n 0 dX7_known_0 rfl (by first | rfl | assumption) ?_
  rcases c6 with rfl | rfl | rfl | rfl | rfl | rfl
  · refine x_tableIn 36 dX7_known_1 (by decide) (by decide) (off := 35) rfl (by decide) ?_
    rcases c3 with rfl | rfl | rfl
    · refine x_iload_n 1 dX7_known_36 rfl (by first | rfl | assumption) ?_
      refine x_if_ne 46 dX7_known_37 (by decide) (fun z => absurd (by decide) z) (fun _ => ?_)
      refine k2_X7_known_95 dX7_known_40 ?_
      refine x_goto 56 dX7_known_43 (by decide) ?_
      refine x_lret rfl dX7_known_56 (by decide) (by decide) ?_
      exact ⟨rfl, rfl⟩
    · refine x_iload_n 1 dX7_known_36 rfl (by first | rfl | assumption) ?_
      refine x_if_ne 46 dX7_known_37 (by decide) (fun _ => ?_) (fun z => absurd z (by decide))
      refine x_iload_n 1 dX7_known_46 rfl (by first | rfl | assumption) ?_
      refine x_iconst 1 dX7_known_47 (by decide) ?_
      refine x_icmp_ne 55 dX7_known_48 (by decide) (fun z => absurd (by decide) z) (fun _ => ?_)
      refine x_lconst 0 dX7_known_51 (by decide) ?_
      refine x_goto 56 dX7_known_52 (by decide) ?_
      refine x_lret rfl dX7_known_56 (by decide) (by decide) ?_
      exact ⟨rfl, rfl⟩
    · refine x_iload_n 1 dX7_known_36 rfl (by first | rfl | assumption) ?_
      refine x_if_ne 46 dX7_known_37 (by decide) (fun _ => ?_) (fun z => absurd z (by decide))
      refine x_iload_n 1 dX7_known_46 rfl (by first | rfl | assumption) ?_
      refine x_iconst 1 dX7_known_47 (by decide) ?_
      refine x_icmp_ne 55 dX7_known_48 (by decide) (fun _ => ?_) (fun z => absurd z (by decide))
      refine x_lconst 0 dX7_known_55 (by decide) ?_
      refine x_lret rfl dX7_known_56 (by decide) (by decide) ?_
      exact ⟨rfl, rfl⟩
  · refine x_tableIn 57 dX7_known_1 (by decide) (by decide) (off := 56) rfl (by decide) ?_
    rcases c3 with rfl | rfl | rfl
    · refine x_iload_n 1 dX7_known_57 rfl (by first | rfl | assumption) ?_
      refine x_if_ne 67 dX7_known_58 (by decide) (fun z => absurd (by decide) z) (fun _ => ?_)
      refine k2_X7_known_97 dX7_known_61 ?_
      refine x_goto 77 dX7_known_64 (by decide) ?_
      refine x_lret rfl dX7_known_77 (by decide) (by decide) ?_
      exact ⟨rfl, rfl⟩
    · refine x_iload_n 1 dX7_known_57 rfl (by first | rfl | assumption) ?_
      refine x_if_ne 67 dX7_known_58 (by decide) (fun _ => ?_) (fun z => absurd z (by decide))
      refine x_iload_n 1 dX7_known_67 rfl (by first | rfl | assumption) ?_
      refine x_iconst 1 dX7_known_68 (by decide) ?_
      refine x_icmp_ne 76 dX7_known_69 (by decide) (fun z => absurd (by decide) z) (fun _ => ?_)
      refine x_lconst 0 dX7_known_72 (by decide) ?_
      refine x_goto 77 dX7_known_73 (by decide) ?_
      refine x_lret rfl dX7_known_77 (by decide) (by decide) ?_
      exact ⟨rfl, rfl⟩
    · refine x_iload_n 1 dX7_known_57 rfl (by first | rfl | assumption) ?_
      refine x_if_ne 67 dX7_known_58 (by decide) (fun _ => ?_) (fun z => absurd z (by decide))
      refine x_iload_n 1 dX7_known_67 rfl (by first | rfl | assumption) ?_
      refine x_iconst 1 dX7_known_68 (by decide) ?_
      refine x_icmp_ne 76 dX7_known_69 (by decide) (fun _ => ?_) (fun z => absurd z (by decide))
      refine x_lconst 0 dX7_known_76 (by decide) ?_
      refine x_lret rfl dX7_known_77 (by decide) (by decide) ?_
      exact ⟨rfl, rfl⟩
  · refine x_tableIn 78 dX7_known_1 (by decide) (by decide) (off := 77) rfl (by decide) ?_
    rcases c3 with rfl | rfl | rfl
    · refine x_iload_n 1 dX7_known_78 rfl (by first | rfl | assumption) ?_
      refine x_if_ne 88 dX7_known_79 (by decide) (fun z => absurd (by decide) z) (fun _ => ?_)
      refine k2_X7_known_99 dX7_known_82 ?_
      refine x_goto 100 dX7_known_85 (by decide) ?_
      refine x_lret rfl dX7_known_100 (by decide) (by decide) ?_
      exact ⟨rfl, rfl⟩
    · refine x_iload_n 1 dX7_known_78 rfl (by first | rfl | assumption) ?_
      refine x_if_ne 88 dX7_known_79 (by decide) (fun _ => ?_) (fun z => absurd z (by decide))
      refine x_iload_n 1 dX7_known_88 rfl (by first | rfl | assumption) ?_
      refine x_iconst 1 dX7_known_89 (by decide) ?_
      refine x_icmp_ne 99 dX7_known_90 (by decide) (fun z => absurd (by decide) z) (fun _ => ?_)
      refine k2_X7_known_101 dX7_known_93 ?_
      refine x_goto 100 dX7_known_96 (by decide) ?_
      refine x_lret rfl dX7_known_100 (by decide) (by decide) ?_
      exact ⟨rfl, rfl⟩
    · refine x_iload_n 1 dX7_known_78 rfl (by first | rfl | assumption) ?_
      refine x_if_ne 88 dX7_known_79 (by decide) (fun _ => ?_) (fun z => absurd z (by decide))
      refine x_iload_n 1 dX7_known_88 rfl (by first | rfl | assumption) ?_
      refine x_iconst 1 dX7_known_89 (by decide) ?_
      refine x_icmp_ne 99 dX7_known_90 (by decide) (fun _ => ?_) (fun z => absurd z (by decide))
      refine x_lconst 0 dX7_known_99 (by decide) ?_
      refine x_lret rfl dX7_known_100 (by decide) (by decide) ?_
      exact ⟨rfl, rfl⟩
  · refine x_tableIn 101 dX7_known_1 (by decide) (by decide) (off := 100) rfl (by decide) ?_
    rcases c3 with rfl | rfl | rfl
    · refine x_iload_n 1 dX7_known_101 rfl (by first | rfl | assumption) ?_
      refine x_if_ne 111 dX7_known_102 (by decide) (fun z => absurd (by decide) z) (fun _ => ?_)
      refine k2_X7_known_103 dX7_known_105 ?_
      refine x_goto 125 dX7_known_108 (by decide) ?_
      refine x_lret rfl dX7_known_125 (by decide) (by decide) ?_
      exact ⟨rfl, rfl⟩
    · refine x_iload_n 1 dX7_known_101 rfl (by first | rfl | assumption) ?_
      refine x_if_ne 111 dX7_known_102 (by decide) (fun _ => ?_) (fun z => absurd z (by decide))
      refine x_iload_n 1 dX7_known_111 rfl (by first | rfl | assumption) ?_
      refine x_iconst 1 dX7_known_112 (by decide) ?_
      refine x_icmp_ne 122 dX7_known_113 (by decide) (fun z => absurd (by decide) z) (fun _ => ?_)
      refine k2_X7_known_105 dX7_known_116 ?_
      refine x_goto 125 dX7_known_119 (by decide) ?_
      refine x_lret rfl dX7_known_125 (by decide) (by decide) ?_
      exact ⟨rfl, rfl⟩
    · refine x_iload_n 1 dX7_known_101 rfl (by first | rfl | assumption) ?_
      refine x_if_ne 111 dX7_known_102 (by decide) (fun _ => ?_) (fun z => absurd z (by decide))
      refine x_iload_n 1 dX7_known_111 rfl (by first | rfl | assumption) ?_
      refine x_iconst 1 dX7_known_112 (by decide) ?_
      refine x_icmp_ne 122 dX7_known_113 (by decide) (fun _ => ?_) (fun z => absurd z (by decide))
      refine k2_X7_known_107 dX7_known_122 ?_
      refine x_lret rfl dX7_known_125 (by decide) (by decide) ?_
      exact ⟨rfl, rfl⟩
  · refine x_tableIn 126 dX7_known_1 (by decide) (by decide) (off := 125) rfl (by decide) ?_
    rcases c3 with rfl | rfl | rfl
    · refine x_iload_n 1 dX7_known_126 rfl (by first | rfl | assumption) ?_
      refine x_if_ne 136 dX7_known_127 (by decide) (fun z => absurd (by decide) z) (fun _ => ?_)
      refine k2_X7_known_103 dX7_known_130 ?_
      refine x_goto 150 dX7_known_133 (by decide) ?_
      refine x_lret rfl dX7_known_150 (by decide) (by decide) ?_
      exact ⟨rfl, rfl⟩
    · refine x_iload_n 1 dX7_known_126 rfl (by first | rfl | assumption) ?_
      refine x_if_ne 136 dX7_known_127 (by decide) (fun _ => ?_) (fun z => absurd z (by decide))
      refine x_iload_n 1 dX7_known_136 rfl (by first | rfl | assumption) ?_
      refine x_iconst 1 dX7_known_137 (by decide) ?_
      refine x_icmp_ne 147 dX7_known_138 (by decide) (fun z => absurd (by decide) z) (fun _ => ?_)
      refine k2_X7_known_109 dX7_known_141 ?_
      refine x_goto 150 dX7_known_144 (by decide) ?_
      refine x_lret rfl dX7_known_150 (by decide) (by decide) ?_
      exact ⟨rfl, rfl⟩
    · refine x_iload_n 1 dX7_known_126 rfl (by first | rfl | assumption) ?_
      refine x_if_ne 136 dX7_known_127 (by decide) (fun _ => ?_) (fun z => absurd z (by decide))
      refine x_iload_n 1 dX7_known_136 rfl (by first | rfl | assumption) ?_
      refine x_iconst 1 dX7_known_137 (by decide) ?_
      refine x_icmp_ne 147 dX7_known_138 (by decide) (fun _ => ?_) (fun z => absurd z (by decide))
      refine k2_X7_known_111 dX7_known_147 ?_
      refine x_lret rfl dX7_known_150 (by decide) (by decide) ?_
      exact ⟨rfl, rfl⟩
  · refine x_tableOut 151 dX7_known_1 (by decide) (by decide) ?_
    rcases c3 with rfl | rfl | rfl
    · refine x_iload_n 1 dX7_known_151 rfl (by first | rfl | assumption) ?_
      refine x_if_ne 161 dX7_known_152 (by decide) (fun z => absurd (by decide) z) (fun _ => ?_)
      refine k2_X7_known_113 dX7_known_155 ?_
      refine x_goto 173 dX7_known_158 (by decide) ?_
      refine x_lret rfl dX7_known_173 (by decide) (by decide) ?_
      exact ⟨rfl, rfl⟩
    · refine x_iload_n 1 dX7_known_151 rfl (by first | rfl | assumption) ?_
      refine x_if_ne 161 dX7_known_152 (by decide) (fun _ => ?_) (fun z => absurd z (by decide))
      refine x_iload_n 1 dX7_known_161 rfl (by first | rfl | assumption) ?_
      refine x_iconst 1 dX7_known_162 (by decide) ?_
      refine x_icmp_ne 172 dX7_known_163 (by decide) (fun z => absurd (by decide) z) (fun _ => ?_)
      refine k2_X7_known_115 dX7_known_166 ?_
      refine x_goto 173 dX7_known_169 (by decide) ?_
      refine x_lret rfl dX7_known_173 (by decide) (by decide) ?_
      exact ⟨rfl, rfl⟩
    · refine x_iload_n 1 dX7_known_151 rfl (by first | rfl | assumption) ?_
      refine x_if_ne 161 dX7_known_152 (by decide) (fun _ => ?_) (fun z => absurd z (by decide))
      refine x_iload_n 1 dX7_known_161 rfl (by first | rfl | assumption) ?_
      refine x_iconst 1 dX7_known_162 (by decide) ?_
      refine x_icmp_ne 172 dX7_known_163 (by decide) (fun _ => ?_) (fun z => absurd z (by decide))
      refine x_lconst 0 dX7_known_172 (by decide) ?_
      refine x_lret rfl dX7_known_173 (by decide) (by decide) ?_
      exact ⟨rfl, rfl⟩
def m_letter (n k : Nat) : Int32 := if 23 < k then 0 else ((m_known n (k / 8) >>> ((nI (8 * (k % 8))).toInt64 &&& 63)) &&& 255).toInt32
theorem m_letter_w : ∀ n, n < 6 → ∀ k, k < 24 → m_letter n k = (z_w (2 + n)).getD k 0 := by decide +kernel
theorem m_w_len : ∀ n, n < 6 → (z_w (2 + n)).length ≤ 21 ∧ ∀ k, k < (z_w (2 + n)).length → (z_w (2 + n)).getD k 0 ≠ 0 := by decide +kernel
theorem m_letter_all {n : Nat} (hn : n < 6) (k : Nat) : m_letter n k = (z_w (2 + n)).getD k 0 := by
  by_cases hk : k < 24
  · exact m_letter_w n hn k hk
  · unfold m_letter
    have := (m_w_len n hn).1
    rw [if_pos (by omega), List.getD_eq_getElem?_getD, List.getElem?_eq_none (by omega)]
    rfl
theorem sm_letter {n k : Nat} (hn : n < 6) (hk : k < 1000) : q_SP G mX7_letter [.int (nI n), .int (nI k)] h 0 0 (fun o h' => o = some (.int ((z_w (2 + n)).getD k 0)) ∧ h' = h) := by
  rw [← m_letter_all hn]
  unfold m_letter
  refine q_enter (M := mX7_letter) (by decide +kernel) rfl (Nat.le_of_ble_eq_true rfl) ?_
  refine x_iload_n 1 dX7_letter_0 rfl (by first | rfl | assumption) ?_
  refine x_bipush 23 dX7_letter_1 (by decide) ?_
  by_cases hc : 23 < k
  · rw [if_pos hc]
    refine x_icmp_le 10 dX7_letter_3 (by decide) (fun z => absurd z (nI_ge (b := k) (a := 23) hc (by omega))) (fun _ => ?_)
    refine x_iconst 0 dX7_letter_6 (by decide) ?_
    refine x_goto 31 dX7_letter_7 (by decide) ?_
    refine x_iret rfl (by first | rfl | assumption | exact z_nb _) dX7_letter_31 (by decide) (by decide) ?_
    exact ⟨rfl, rfl⟩
  · rw [if_neg hc]
    refine x_icmp_le 10 dX7_letter_3 (by decide) (fun _ => ?_) (fun z => absurd (nI_le (b := 23) (by omega) (by omega)) z)
    refine x_iload_n 0 dX7_letter_10 rfl (by first | rfl | assumption) ?_
    refine x_iload_n 1 dX7_letter_11 rfl (by first | rfl | assumption) ?_
    refine x_bipush 8 dX7_letter_12 (by decide) ?_
    refine x_idiv dX7_letter_14 (by decide) ?_
    rw [show nI k / 8 = nI (k / 8) from pk_div (d := 8) (by omega) (by omega) (by omega)]
    refine cl_X7_letter_15 (sm_known (t := k / 8) hn (by omega)) (Nat.le_of_ble_eq_true rfl) ⟨Nat.le_of_ble_eq_true rfl, Nat.le_of_ble_eq_true rfl⟩ (fun r g hq => ?_)
    obtain ⟨rfl, rfl⟩ := hq
    refine x_bipush 8 dX7_letter_18 (by decide) ?_
    refine x_iload_n 1 dX7_letter_20 rfl (by first | rfl | assumption) ?_
    refine x_bipush 8 dX7_letter_21 (by decide) ?_
    refine x_irem dX7_letter_23 (by decide) ?_
    refine x_imul dX7_letter_24 ?_
    rw [show nI k - nI k / 8 * 8 = nI (k % 8) from pk_rem (d := 8) (by omega) (by omega) (by omega), show 8 * nI (k % 8) = nI (8 * (k % 8)) from pk_mul 8 _]
    refine x_lshr dX7_letter_25 ?_
    refine k2_X7_letter_62 dX7_letter_26 ?_
    refine x_land dX7_letter_29 ?_
    refine x_l2i dX7_letter_30 ?_
    refine x_iret rfl (by first | rfl | assumption | exact z_nb _) dX7_letter_31 (by decide) (by decide) ?_
    exact ⟨rfl, rfl⟩
theorem m_get {k : Nat} (hl : m_l (F 1) l) (hk : k < l.length) (hN : l.length ≤ 400) : F 1 (nI k).toNatClampNeg = l.getD k 0 := by
  rw [nI_clamp (by omega)]; exact hl k hk
theorem sm_begin (hm : k_m h0 h B V F) (hl : m_l (F 1) l) (hN : l.length ≤ 400) {f t : Nat} (hf : f ≤ t) (ht : t ≤ l.length) : q_SP G mX7_begin [.ref (B 0), .int (nI f), .int (nI t)] h 0 0 (fun o h' => o = some (.int (nI (z_skF l (t - f) f))) ∧ h' = h) := by
  refine q_enter (M := mX7_begin) (by decide +kernel) rfl (Nat.le_of_ble_eq_true rfl) ?_
  refine x_iload_n 1 dX7_begin_0 rfl (by first | rfl | assumption) ?_
  refine x_istore_n 3 dX7_begin_1 rfl (by decide) rfl ?_
  have loop : ∀ (n i : Nat) (x : Int32), x = nI i → i + n = t → z_skF l n i = z_skF l (t - f) f → q_X G mX7_begin (q_R mX7_begin 0 0) (q_FN G (fun o h' => o = some (.int (nI (z_skF l (t - f) f))) ∧ h' = h) 0 0) 2 [(0, .ref (B 0)), (1, .int (nI f)), (2, .int (nI t)), (3, .int x)] [] h 0 0 := by
    intro n
    induction n with
    | zero =>
      intro i x hx hi hz
      subst hx
      have hi : i = t := by omega
      subst hi
      refine x_iload_n 3 dX7_begin_2 rfl (by first | rfl | assumption) ?_
      refine x_iload_n 2 dX7_begin_3 rfl (by first | rfl | assumption) ?_
      refine x_icmp_ge 25 dX7_begin_4 (by decide) (fun _ => ?_) (fun z => absurd (Int32.le_refl _) z)
      refine x_iload_n 3 dX7_begin_25 rfl (by first | rfl | assumption) ?_
      refine x_iret rfl (by first | rfl | assumption | exact z_nb _) dX7_begin_26 (by decide) (by decide) ?_
      rw [← hz]
      exact ⟨rfl, rfl⟩
    | succ n ih =>
      intro i x hx hi hz
      subst hx
      have v0 : vp_in (nI i) 400 := vp_in_nI (by omega) (by omega)
      refine x_iload_n 3 dX7_begin_2 rfl (by first | rfl | assumption) ?_
      refine x_iload_n 2 dX7_begin_3 rfl (by first | rfl | assumption) ?_
      refine x_icmp_ge 25 dX7_begin_4 (by decide) (fun z => absurd z (nI_ge (by omega) (by omega))) (fun _ => ?_)
      refine x_aload_n 0 dX7_begin_7 rfl (by first | rfl | assumption) ?_
      refine gf_X7_begin_7 dX7_begin_8 hm.1 (congrArg some hm.r3) ?_
      refine x_iload_n 3 dX7_begin_11 rfl (by first | rfl | assumption) ?_
      refine x_iald dX7_begin_12 (by first | exact hm.a1 | exact hm.a2 | exact hm.a3 | exact hm.a4 | exact hm.a5 | exact hm.a6 | exact hm.a7 | exact hm.a8 | exact hm.a9 | exact hm.a10 | exact hm.a11 | exact hm.a12 | exact hm.a13 | exact hm.a14 | exact hm.a15) (by assumption) ?_
      rw [m_get hl (by omega) hN]
      refine cl_X7_begin_13 (sm_isGap _) (Nat.le_of_ble_eq_true rfl) ⟨Nat.le_of_ble_eq_true rfl, Nat.le_of_ble_eq_true rfl⟩ (fun r g hq => ?_)
      obtain ⟨rfl, hg⟩ := hq
      rw [hg]
      replace hz : (if z_blank (l.getD i 0) then z_skF l n (i + 1) else i) = z_skF l (t - f) f := hz
      cases hb : z_blank (l.getD i 0) with
      | true =>
        rw [hb, if_pos rfl] at hz
        refine x_if_eq 25 dX7_begin_16 (by decide) (fun z => absurd z (show ¬ z_b true = 0 by decide)) (fun _ => ?_)
        refine x_iinc 1 dX7_begin_19 (by first | rfl | assumption) (by decide) (by decide) rfl ?_
        refine x_goto 2 dX7_begin_22 (by decide) ?_
        exact ih (i + 1) _ (nI_1 i) (by omega) hz
      | false =>
        rw [hb] at hz
        refine x_if_eq 25 dX7_begin_16 (by decide) (fun _ => ?_) (fun z => absurd (show z_b false = 0 from rfl) z)
        refine x_iload_n 3 dX7_begin_25 rfl (by first | rfl | assumption) ?_
        refine x_iret rfl (by first | rfl | assumption | exact z_nb _) dX7_begin_26 (by decide) (by decide) ?_
        rw [← hz]
        exact ⟨rfl, rfl⟩
  exact loop (t - f) f _ rfl (by omega) rfl
theorem sm_end (hm : k_m h0 h B V F) (hl : m_l (F 1) l) (hN : l.length ≤ 400) {f t : Nat} (hf : f ≤ t) (ht : t ≤ l.length) : q_SP G mX7_end [.ref (B 0), .int (nI f), .int (nI t)] h 0 0 (fun o h' => o = some (.int (nI (z_skB l (t - f) t))) ∧ h' = h) := by
  refine q_enter (M := mX7_end) (by decide +kernel) rfl (Nat.le_of_ble_eq_true rfl) ?_
  refine x_iload_n 2 dX7_end_0 rfl (by first | rfl | assumption) ?_
  refine x_istore_n 3 dX7_end_1 rfl (by decide) rfl ?_
  have loop : ∀ (n i : Nat) (x : Int32), x = nI i → f + n = i → i ≤ t → z_skB l n i = z_skB l (t - f) t → q_X G mX7_end (q_R mX7_end 0 0) (q_FN G (fun o h' => o = some (.int (nI (z_skB l (t - f) t))) ∧ h' = h) 0 0) 2 [(0, .ref (B 0)), (1, .int (nI f)), (2, .int (nI t)), (3, .int x)] [] h 0 0 := by
    intro n
    induction n with
    | zero =>
      intro i x hx hi hit hz
      subst hx
      have hi : i = f := by omega
      subst hi
      refine x_iload_n 3 dX7_end_2 rfl (by first | rfl | assumption) ?_
      refine x_iload_n 1 dX7_end_3 rfl (by first | rfl | assumption) ?_
      refine x_icmp_le 27 dX7_end_4 (by decide) (fun _ => ?_) (fun z => absurd (Int32.le_refl _) z)
      refine x_iload_n 3 dX7_end_27 rfl (by first | rfl | assumption) ?_
      refine x_iret rfl (by first | rfl | assumption | exact z_nb _) dX7_end_28 (by decide) (by decide) ?_
      rw [← hz]
      exact ⟨rfl, rfl⟩
    | succ n ih =>
      intro i x hx hi hit hz
      subst hx
      have e1 : nI i - 1 = nI (i - 1) := pk_sub (b := 1) (by omega)
      have v0 : vp_in (nI i - 1) 400 := by rw [e1]; exact vp_in_nI (by omega) (by omega)
      refine x_iload_n 3 dX7_end_2 rfl (by first | rfl | assumption) ?_
      refine x_iload_n 1 dX7_end_3 rfl (by first | rfl | assumption) ?_
      refine x_icmp_le 27 dX7_end_4 (by decide) (fun z => absurd z (nI_ge (by omega) (by omega))) (fun _ => ?_)
      refine x_aload_n 0 dX7_end_7 rfl (by first | rfl | assumption) ?_
      refine gf_X7_end_7 dX7_end_8 hm.1 (congrArg some hm.r3) ?_
      refine x_iload_n 3 dX7_end_11 rfl (by first | rfl | assumption) ?_
      refine x_iconst 1 dX7_end_12 (by decide) ?_
      refine x_isub dX7_end_13 ?_
      refine x_iald dX7_end_14 (by first | exact hm.a1 | exact hm.a2 | exact hm.a3 | exact hm.a4 | exact hm.a5 | exact hm.a6 | exact hm.a7 | exact hm.a8 | exact hm.a9 | exact hm.a10 | exact hm.a11 | exact hm.a12 | exact hm.a13 | exact hm.a14 | exact hm.a15) (by assumption) ?_
      rw [e1, m_get hl (by omega) hN]
      refine cl_X7_end_15 (sm_isGap _) (Nat.le_of_ble_eq_true rfl) ⟨Nat.le_of_ble_eq_true rfl, Nat.le_of_ble_eq_true rfl⟩ (fun r g hq => ?_)
      obtain ⟨rfl, hg⟩ := hq
      rw [hg]
      replace hz : (if z_blank (l.getD (i - 1) 0) then z_skB l n (i - 1) else i) = z_skB l (t - f) t := hz
      cases hb : z_blank (l.getD (i - 1) 0) with
      | true =>
        rw [hb, if_pos rfl] at hz
        refine x_if_eq 27 dX7_end_18 (by decide) (fun z => absurd z (show ¬ z_b true = 0 by decide)) (fun _ => ?_)
        refine x_iinc (-1) dX7_end_21 (by first | rfl | assumption) (by decide) (by decide) rfl ?_
        refine x_goto 2 dX7_end_24 (by decide) ?_
        exact ih (i - 1) _ (by rw [← e1]; exact (Int32.sub_eq_add_neg _ _).symm) (by omega) (by omega) hz
      | false =>
        rw [hb] at hz
        refine x_if_eq 27 dX7_end_18 (by decide) (fun _ => ?_) (fun z => absurd (show z_b false = 0 from rfl) z)
        refine x_iload_n 3 dX7_end_27 rfl (by first | rfl | assumption) ?_
        refine x_iret rfl (by first | rfl | assumption | exact z_nb _) dX7_end_28 (by decide) (by decide) ?_
        rw [← hz]
        exact ⟨rfl, rfl⟩
  exact loop (t - f) t _ rfl (by omega) (Nat.le_refl _) rfl
/-- w stands at a, letter by letter; letters past its end are 0 -/
def m_eq (l w : List Int32) (a : Nat) : Nat → Nat → Bool
  | 0, _ => true
  | n + 1, k => decide (z_small (l.getD k 0) = w.getD (k - a) 0) && m_eq l w a n (k + 1)
theorem z_small_0 {b : Int32} (hb : b ≠ 0) : z_small b ≠ 0 := by
  unfold z_small
  split
  · rename_i h1
    intro z
    have h2 : b = -32 := by
      have : b + 32 - 32 = 0 - 32 := by rw [z]
      rw [Int32.add_sub_cancel] at this
      exact this
    rw [h2] at h1
    exact absurd h1.1 (by decide)
  · exact hb
theorem m_eq_S (l : List Int32) : ∀ (w w0 : List Int32) (a k : Nat), a ≤ k → w0.drop (k - a) = w → m_eq l w0 a w.length k = z_eqS l k w := by
  intro w
  induction w with
  | nil => intro w0 a k ha hw; rfl
  | cons x w ih =>
    intro w0 a k ha hw
    show (decide (z_small (l.getD k 0) = w0.getD (k - a) 0) && m_eq l w0 a w.length (k + 1)) = (decide (z_small (l.getD k 0) = x) && z_eqS l (k + 1) w)
    have hx : w0.getD (k - a) 0 = x := by
      have : (w0.drop (k - a)).getD 0 0 = x := by rw [hw]; rfl
      rw [List.getD_eq_getElem?_getD, List.getElem?_drop, Nat.add_zero] at this
      rw [List.getD_eq_getElem?_getD]
      exact this
    rw [hx, ih w0 a (k + 1) (by omega) (by rw [show k + 1 - a = (k - a) + 1 by omega, ← List.drop_drop, hw]; rfl)]
theorem m_eq_long (l w : List Int32) (a : Nat) : ∀ (n k : Nat), a ≤ k → k ≤ a + w.length → a + w.length < k + n → l.getD (a + w.length) 0 ≠ 0 → m_eq l w a n k = false := by
  intro n
  induction n with
  | zero => intro k h1 h2 h3 h4; omega
  | succ n ih =>
    intro k h1 h2 h3 h4
    unfold m_eq
    by_cases hk : k = a + w.length
    · have e : w.getD (k - a) 0 = 0 := by
        rw [List.getD_eq_getElem?_getD, List.getElem?_eq_none (by omega)]; rfl
      rw [e, hk, decide_eq_false (z_small_0 h4)]
      rfl
    · rw [ih (k + 1) (by omega) (by omega) (by omega) h4, Bool.and_false]
theorem sm_isWord (hm : k_m h0 h B V F) (hl : m_l (F 1) l) (hN : l.length ≤ 400) {a b n : Nat} (hab : a ≤ b) (hb : b ≤ l.length) (hn : n < 6) (hz : ∀ k, a ≤ k → k < b → l.getD k 0 ≠ 0) : q_SP G mX7_isWord [.ref (B 0), .int (nI a), .int (nI b), .int (nI n)] h 0 0 (fun o h' => o = some (.int (z_b (z_same l a b (z_w (2 + n))))) ∧ h' = h) := by
  have hw := m_w_len n hn
  have key : z_same l a b (z_w (2 + n)) = (decide ((z_w (2 + n)).getD (b - a) 0 = 0) && m_eq l (z_w (2 + n)) a (b - a) a) := by
    unfold z_same
    by_cases h1 : b = a + (z_w (2 + n)).length
    · rw [decide_eq_true h1, Bool.true_and, show b - a = (z_w (2 + n)).length by omega, m_eq_S l _ _ a a (Nat.le_refl _) (by rw [Nat.sub_self, List.drop_zero])]
      rw [List.getD_eq_getElem?_getD, List.getElem?_eq_none (Nat.le_refl _)]
      rfl
    · rw [decide_eq_false h1, Bool.false_and]
      by_cases h2 : b - a < (z_w (2 + n)).length
      · rw [decide_eq_false (hw.2 _ h2)]; rfl
      · rw [m_eq_long l _ a _ a (Nat.le_refl _) (by omega) (by omega) (hz _ (by omega) (by omega)), Bool.and_false]
  rw [key]
  have loop : ∀ (m k : Nat) (x : Int32) (s : Bool), x = nI k → k + m = b → a ≤ k → q_X G mX7_isWord (q_R mX7_isWord 0 0) (q_FN G (fun o h' => o = some (.int (z_b (s && m_eq l (z_w (2 + n)) a m k))) ∧ h' = h) 0 0) 20 [(0, .ref (B 0)), (1, .int (nI a)), (2, .int (nI b)), (3, .int (nI n)), (4, .int (z_b s)), (5, .int x)] [] h 0 0 := by
    intro m
    induction m with
    | zero =>
      intro k x s hx hk ha
      subst hx
      have hk : k = b := by omega
      subst hk
      refine x_iload dX7_isWord_20 (by first | rfl | assumption) ?_
      refine x_iload_n 2 dX7_isWord_22 rfl (by first | rfl | assumption) ?_
      refine x_icmp_ge 65 dX7_isWord_23 (by decide) (fun _ => ?_) (fun z => absurd (Int32.le_refl _) z)
      refine x_iload dX7_isWord_65 (by first | rfl | assumption) ?_
      refine x_iret rfl (by first | rfl | assumption | exact z_nb _) dX7_isWord_67 (by decide) (by decide) ?_
      exact ⟨by rw [show m_eq l (z_w (2 + n)) a 0 k = true from rfl, Bool.and_true], rfl⟩
    | succ m ih =>
      intro k x s hx hk ha
      subst hx
      have v0 : vp_in (nI k) 400 := vp_in_nI (by omega) (by omega)
      refine x_iload dX7_isWord_20 (by first | rfl | assumption) ?_
      refine x_iload_n 2 dX7_isWord_22 rfl (by first | rfl | assumption) ?_
      refine x_icmp_ge 65 dX7_isWord_23 (by decide) (fun z => absurd z (nI_ge (by omega) (by omega))) (fun _ => ?_)
      refine x_iload dX7_isWord_26 (by first | rfl | assumption) ?_
      cases s with
      | false =>
        refine x_if_eq 65 dX7_isWord_28 (by decide) (fun _ => ?_) (fun z => absurd (show z_b false = 0 from rfl) z)
        refine x_iload dX7_isWord_65 (by first | rfl | assumption) ?_
        refine x_iret rfl (by first | rfl | assumption | exact z_nb _) dX7_isWord_67 (by decide) (by decide) ?_
        exact ⟨rfl, rfl⟩
      | true =>
        refine x_if_eq 65 dX7_isWord_28 (by decide) (fun z => absurd z (show ¬ z_b true = 0 by decide)) (fun _ => ?_)
        refine x_aload_n 0 dX7_isWord_31 rfl (by first | rfl | assumption) ?_
        refine gf_X7_isWord_7 dX7_isWord_32 hm.1 (congrArg some hm.r3) ?_
        refine x_iload dX7_isWord_35 (by first | rfl | assumption) ?_
        refine x_iald dX7_isWord_37 (by first | exact hm.a1 | exact hm.a2 | exact hm.a3 | exact hm.a4 | exact hm.a5 | exact hm.a6 | exact hm.a7 | exact hm.a8 | exact hm.a9 | exact hm.a10 | exact hm.a11 | exact hm.a12 | exact hm.a13 | exact hm.a14 | exact hm.a15) (by assumption) ?_
        rw [m_get hl (by omega) hN]
        refine cl_X7_isWord_38 (sm_small _) (Nat.le_of_ble_eq_true rfl) ⟨Nat.le_of_ble_eq_true rfl, Nat.le_of_ble_eq_true rfl⟩ (fun r g hq => ?_)
        obtain ⟨rfl, hg⟩ := hq
        rw [hg]
        refine x_iload_n 3 dX7_isWord_41 rfl (by first | rfl | assumption) ?_
        refine x_iload dX7_isWord_42 (by first | rfl | assumption) ?_
        refine x_iload_n 1 dX7_isWord_44 rfl (by first | rfl | assumption) ?_
        refine x_isub dX7_isWord_45 ?_
        rw [show nI k - nI a = nI (k - a) from pk_sub ha]
        refine cl_X7_isWord_46 (sm_letter (k := k - a) hn (by omega)) (Nat.le_of_ble_eq_true rfl) ⟨Nat.le_of_ble_eq_true rfl, Nat.le_of_ble_eq_true rfl⟩ (fun r g hq => ?_)
        obtain ⟨rfl, hg⟩ := hq
        rw [hg]
        by_cases hc : z_small (l.getD k 0) = (z_w (2 + n)).getD (k - a) 0
        · refine x_icmp_ne 56 dX7_isWord_49 (by decide) (fun z => absurd hc z) (fun _ => ?_)
          refine x_iconst 1 dX7_isWord_52 (by decide) ?_
          refine x_goto 57 dX7_isWord_53 (by decide) ?_
          refine x_istore dX7_isWord_57 (by decide) rfl ?_
          refine x_iinc 1 dX7_isWord_59 (by first | rfl | assumption) (by decide) (by decide) rfl ?_
          refine x_goto 20 dX7_isWord_62 (by decide) ?_
          have := ih (k + 1) _ true (nI_1 k) (by omega) (by omega)
          rw [show m_eq l (z_w (2 + n)) a (m + 1) k = m_eq l (z_w (2 + n)) a m (k + 1) by show (decide _ && _) = _; rw [decide_eq_true hc, Bool.true_and]]
          exact this
        · refine x_icmp_ne 56 dX7_isWord_49 (by decide) (fun _ => ?_) (fun z => absurd z hc)
          refine x_iconst 0 dX7_isWord_56 (by decide) ?_
          refine x_istore dX7_isWord_57 (by decide) rfl ?_
          refine x_iinc 1 dX7_isWord_59 (by first | rfl | assumption) (by decide) (by decide) rfl ?_
          refine x_goto 20 dX7_isWord_62 (by decide) ?_
          have := ih (k + 1) _ false (nI_1 k) (by omega) (by omega)
          rw [show (true && m_eq l (z_w (2 + n)) a (m + 1) k) = (false && m_eq l (z_w (2 + n)) a m (k + 1)) by show (true && (decide _ && _)) = _; rw [decide_eq_false hc]; rfl]
          exact this
  refine q_enter (M := mX7_isWord) (by decide +kernel) rfl (Nat.le_of_ble_eq_true rfl) ?_
  refine x_iload_n 3 dX7_isWord_0 rfl (by first | rfl | assumption) ?_
  refine x_iload_n 2 dX7_isWord_1 rfl (by first | rfl | assumption) ?_
  refine x_iload_n 1 dX7_isWord_2 rfl (by first | rfl | assumption) ?_
  refine x_isub dX7_isWord_3 ?_
  rw [show nI b - nI a = nI (b - a) from pk_sub hab]
  refine cl_X7_isWord_4 (sm_letter (k := b - a) hn (by omega)) (Nat.le_of_ble_eq_true rfl) ⟨Nat.le_of_ble_eq_true rfl, Nat.le_of_ble_eq_true rfl⟩ (fun r g hq => ?_)
  obtain ⟨rfl, hg⟩ := hq
  rw [hg]
  by_cases hc : (z_w (2 + n)).getD (b - a) 0 = 0
  · refine x_if_ne 14 dX7_isWord_7 (by decide) (fun z => absurd hc z) (fun _ => ?_)
    refine x_iconst 1 dX7_isWord_10 (by decide) ?_
    refine x_goto 15 dX7_isWord_11 (by decide) ?_
    refine x_istore dX7_isWord_15 (by decide) rfl ?_
    refine x_iload_n 1 dX7_isWord_17 rfl (by first | rfl | assumption) ?_
    refine x_istore dX7_isWord_18 (by decide) rfl ?_
    rw [decide_eq_true hc]
    exact loop (b - a) a _ true rfl (by omega) (Nat.le_refl _)
  · refine x_if_ne 14 dX7_isWord_7 (by decide) (fun _ => ?_) (fun z => absurd z hc)
    refine x_iconst 0 dX7_isWord_14 (by decide) ?_
    refine x_istore dX7_isWord_15 (by decide) rfl ?_
    refine x_iload_n 1 dX7_isWord_17 rfl (by first | rfl | assumption) ?_
    refine x_istore dX7_isWord_18 (by decide) rfl ?_
    rw [decide_eq_false hc]
    exact loop (b - a) a _ false rfl (by omega) (Nat.le_refl _)
end MdlD
