/-! the reference: whole texts -/
section MdlQ
variable {G : q_G} {h0 h : q_H} {B : Nat → Nat} {V : Nat → Value} {F : Nat → Nat → Int32} {l : List Int32}
def m_ok3 (c : z_T3) : Prop := c.1 = 0 ∨ c.1 = 1 ∨ c.1 = 2 ∨ c.1 = 3
theorem m_ok3_beg (b : Int32) : m_ok3 (z_beg b) := by
  unfold m_ok3 z_beg
  dsimp only
  split
  · split
    · split
      · exact Or.inr (Or.inr (Or.inr rfl))
      · exact Or.inr (Or.inr (Or.inl rfl))
    · exact Or.inr (Or.inl rfl)
  · exact Or.inl rfl
theorem m_u8 {c : z_T3} (hc : m_ok3 c) (b : Int32) : (m_chk c b = true → z_u8 c b = some (m_chr c b) ∧ m_ok3 (m_chr c b)) ∧ (m_chk c b = false → z_u8 c b = none) := by
  obtain ⟨d, lo, hi⟩ := c
  unfold m_chk m_chr z_u8
  dsimp only
  by_cases h0 : d = 0
  · subst h0
    have h00 : (0 : Int32) ≤ 0 := by decide
    rw [if_pos h00, if_pos h00, if_pos rfl]
    constructor
    · intro hz
      have hz2 : b < 128 ∨ 193 < b ∧ b < 245 := of_decide_eq_true hz
      rw [if_pos hz2]
      exact ⟨rfl, m_ok3_beg b⟩
    · intro hz
      have hz2 : ¬ (b < 128 ∨ 193 < b ∧ b < 245) := of_decide_eq_false hz
      rw [if_neg hz2]
  · have hd : ¬ d ≤ 0 := by
      rcases hc with hc | hc | hc | hc
      · exact absurd hc h0
      · have hc : d = 1 := hc
        rw [hc]; decide
      · have hc : d = 2 := hc
        rw [hc]; decide
      · have hc : d = 3 := hc
        rw [hc]; decide
    rw [if_neg hd, if_neg hd, if_neg h0]
    constructor
    · intro hz
      simp only [Bool.and_eq_true, Bool.not_eq_true', decide_eq_false_iff_not] at hz
      rw [if_pos ⟨Int32.not_lt.mp hz.1, Int32.not_lt.mp hz.2⟩]
      refine ⟨rfl, ?_⟩
      rcases hc with hc | hc | hc | hc
      · exact absurd hc h0
      · have hc : d = 1 := hc
        subst hc; exact Or.inl rfl
      · have hc : d = 2 := hc
        subst hc; exact Or.inr (Or.inl rfl)
      · have hc : d = 3 := hc
        subst hc; exact Or.inr (Or.inr (Or.inl rfl))
    · intro hz
      rw [if_neg]
      intro z
      rw [decide_eq_false (Int32.not_lt.mpr z.1), decide_eq_false (Int32.not_lt.mpr z.2)] at hz
      cases hz
theorem z_all_c (c : z_T3) (b : Int32) (l : List Int32) : z_all c (b :: l) = match z_u8 c b with | some c' => z_all c' l | none => none := rfl
def m_end (o : Option z_T3) : Bool := match o with
  | some c => c.1 == 0
  | none => false
theorem m_end_txt (x y : Int32) (l : List Int32) : m_end (z_all (0, x, y) l) = z_txt l := z_all_0 x y l
theorem m_back {c c0 : z_T3} (hc : m_c3 V c0) : m_u (m_u (m_u (m_s3 V c) 24 (.int c0.1)) 25 (.int c0.2.1)) 26 (.int c0.2.2) = V := by
  funext j
  unfold m_s3 m_u
  by_cases h26 : j = 26
  · rw [if_pos h26, h26]; exact hc.2.2.symm
  · by_cases h25 : j = 25
    · rw [if_neg h26, if_pos h25, h25]; exact hc.2.1.symm
    · by_cases h24 : j = 24
      · rw [if_neg h26, if_neg h25, if_pos h24, h24]; exact hc.1.symm
      · rw [if_neg h26, if_neg h25, if_neg h24, if_neg h26, if_neg h25, if_neg h24]
theorem m_s3_0 {c0 : z_T3} (hc : m_c3 V c0) : m_u V 24 (.int 0) = m_s3 V (0, c0.2.1, c0.2.2) := by
  funext j
  unfold m_s3 m_u
  by_cases h26 : j = 26
  · rw [if_pos h26, h26]; exact hc.2.2
  · by_cases h25 : j = 25
    · rw [if_neg h26, if_pos h25, h25]; exact hc.2.1
    · rw [if_neg h26, if_neg h25]
theorem m_s3s {c c' : z_T3} : m_s3 (m_s3 V c) c' = m_s3 V c' := by
  funext j
  unfold m_s3 m_u
  by_cases h26 : j = 26
  · rw [if_pos h26, if_pos h26]
  · by_cases h25 : j = 25
    · rw [if_neg h26, if_pos h25, if_neg h26, if_pos h25]
    · by_cases h24 : j = 24
      · rw [if_neg h26, if_neg h25, if_pos h24, if_neg h26, if_neg h25, if_pos h24]
      · rw [if_neg h26, if_neg h25, if_neg h24, if_neg h26, if_neg h25, if_neg h24, if_neg h26, if_neg h25, if_neg h24]

theorem sm_isDraftText {c0 : z_T3} (hm : k_m h0 h B V F) (hc0 : m_c3 V c0) (fc : V 11 = .int (nI l.length)) (hl : m_l (F 6) l) (hN : l.length ≤ 100) : q_SP G mX7_isDraftText [.ref (B 0)] h 0 0 (fun o h' => o = some (.int (z_b (z_txt (l.drop 0)))) ∧ k_m h0 h' B V F) := by
  have h58 : ∀ (g : Bool) (x : Int32) (c : z_T3) (h1 : q_H), (g && (c.1 == 0)) = z_txt (l.drop 0) → k_m h0 h1 B (m_s3 V c) F → q_X G mX7_isDraftText (q_R mX7_isDraftText 0 0) (q_FN G (fun o h' => o = some (.int (z_b (z_txt (l.drop 0)))) ∧ k_m h0 h' B V F) 0 0) 58 [(0, .ref (B 0)), (1, .int c0.1), (2, .int c0.2.1), (3, .int c0.2.2), (4, .int (z_b g)), (5, .int x)] [] h1 0 0 := by
    intro g x c h1 hz hm
    have st : ∀ g2 : Bool, g2 = z_txt (l.drop 0) → q_X G mX7_isDraftText (q_R mX7_isDraftText 0 0) (q_FN G (fun o h' => o = some (.int (z_b (z_txt (l.drop 0)))) ∧ k_m h0 h' B V F) 0 0) 75 [(0, .ref (B 0)), (1, .int c0.1), (2, .int c0.2.1), (3, .int c0.2.2), (4, .int (z_b g)), (5, .int x)] [.int (z_b g2)] h1 0 0 := by
      intro g2 hg2
      refine x_istore dX7_isDraftText_75 (by decide) rfl ?_
      refine x_aload_n 0 dX7_isDraftText_77 rfl (by first | rfl | assumption) ?_
      refine x_iload_n 1 dX7_isDraftText_78 rfl (by first | rfl | assumption) ?_
      refine pf_X7_isDraftText_72 dX7_isDraftText_79 hm.1 (Nat.le_of_ble_eq_true rfl) ?_
      refine x_gm hm (fun gm hm f24 => ?_)
      refine x_aload_n 0 dX7_isDraftText_82 rfl (by first | rfl | assumption) ?_
      refine x_iload_n 2 dX7_isDraftText_83 rfl (by first | rfl | assumption) ?_
      refine pf_X7_isDraftText_75 dX7_isDraftText_84 hm.1 (Nat.le_of_ble_eq_true rfl) ?_
      refine x_gm hm (fun gm hm f25 => ?_)
      refine x_aload_n 0 dX7_isDraftText_87 rfl (by first | rfl | assumption) ?_
      refine x_iload_n 3 dX7_isDraftText_88 rfl (by first | rfl | assumption) ?_
      refine pf_X7_isDraftText_78 dX7_isDraftText_89 hm.1 (Nat.le_of_ble_eq_true rfl) ?_
      refine x_gm hm (fun gm hm f26 => ?_)
      rw [m_back hc0] at hm
      refine x_iload dX7_isDraftText_92 (by first | rfl | assumption) ?_
      refine x_iret rfl (by first | rfl | assumption | exact z_nb _) dX7_isDraftText_94 (by decide) (by decide) ?_
      exact ⟨by rw [hg2], hm⟩
    have f24 : m_s3 V c 24 = .int c.1 := rfl
    refine x_iload dX7_isDraftText_58 (by first | rfl | assumption) ?_
    cases g with
    | false =>
      refine x_if_eq 74 dX7_isDraftText_60 (by decide) (fun _ => ?_) (fun z => absurd (show z_b false = 0 from rfl) z)
      refine x_iconst 0 dX7_isDraftText_74 (by decide) ?_
      exact st false hz
    | true =>
      refine x_if_eq 74 dX7_isDraftText_60 (by decide) (fun z => absurd z (show ¬ z_b true = 0 by decide)) (fun _ => ?_)
      refine x_aload_n 0 dX7_isDraftText_63 rfl (by first | rfl | assumption) ?_
      refine gf_X7_isDraftText_72 dX7_isDraftText_64 hm.1 (congrArg some f24) ?_
      rw [Bool.true_and] at hz
      by_cases c1 : c.1 = 0
      · refine x_if_ne 74 dX7_isDraftText_67 (by decide) (fun z => absurd c1 z) (fun _ => ?_)
        refine x_iconst 1 dX7_isDraftText_70 (by decide) ?_
        refine x_goto 75 dX7_isDraftText_71 (by decide) ?_
        exact st true (by rw [← hz, c1]; rfl)
      · refine x_if_ne 74 dX7_isDraftText_67 (by decide) (fun _ => ?_) (fun z => absurd z c1)
        refine x_iconst 0 dX7_isDraftText_74 (by decide) ?_
        exact st false (by rw [← hz]; exact (beq_eq_false_iff_ne.mpr c1).symm)
  have loop : ∀ (m k : Nat) (x : Int32) (g : Bool) (c : z_T3) (h1 : q_H), x = nI k → k + m = l.length ∨ (m = 0 ∧ l.length ≤ k) → k ≤ 1000 → m_ok3 c → (g && m_end (z_all c (l.drop k))) = z_txt (l.drop 0) → k_m h0 h1 B (m_s3 V c) F → q_X G mX7_isDraftText (q_R mX7_isDraftText 0 0) (q_FN G (fun o h' => o = some (.int (z_b (z_txt (l.drop 0)))) ∧ k_m h0 h' B V F) 0 0) 25 [(0, .ref (B 0)), (1, .int c0.1), (2, .int c0.2.1), (3, .int c0.2.2), (4, .int (z_b g)), (5, .int x)] [] h1 0 0 := by
    intro m
    induction m with
    | zero =>
      intro k x g c h1 hx hk hk1 hok hz hm
      subst hx
      have f11 : m_s3 V c 11 = .int (nI l.length) := fc
      refine x_iload dX7_isDraftText_25 (by first | rfl | assumption) ?_
      refine x_aload_n 0 dX7_isDraftText_27 rfl (by first | rfl | assumption) ?_
      refine gf_X7_isDraftText_84 dX7_isDraftText_28 hm.1 (congrArg some f11) ?_
      refine x_icmp_ge 58 dX7_isDraftText_31 (by decide) (fun _ => ?_) (fun z => absurd (nI_le (by omega) (by omega)) z)
      rw [List.drop_eq_nil_of_le (show l.length ≤ k by omega)] at hz
      exact h58 g _ c h1 hz hm
    | succ m ih =>
      intro k x g c h1 hx hk hk1 hok hz hm
      subst hx
      have f11 : m_s3 V c 11 = .int (nI l.length) := fc
      have v0 : vp_in (nI k) 100 := vp_in_nI (by omega) (by omega)
      refine x_iload dX7_isDraftText_25 (by first | rfl | assumption) ?_
      refine x_aload_n 0 dX7_isDraftText_27 rfl (by first | rfl | assumption) ?_
      refine gf_X7_isDraftText_84 dX7_isDraftText_28 hm.1 (congrArg some f11) ?_
      refine x_icmp_ge 58 dX7_isDraftText_31 (by decide) (fun z => absurd z (nI_ge (by omega) (by omega))) (fun _ => ?_)
      refine x_iload dX7_isDraftText_34 (by first | rfl | assumption) ?_
      cases g with
      | false =>
        refine x_if_eq 58 dX7_isDraftText_36 (by decide) (fun _ => ?_) (fun z => absurd (show z_b false = 0 from rfl) z)
        exact h58 false _ c h1 hz hm
      | true =>
        refine x_if_eq 58 dX7_isDraftText_36 (by decide) (fun z => absurd z (show ¬ z_b true = 0 by decide)) (fun _ => ?_)
        refine x_aload_n 0 dX7_isDraftText_39 rfl (by first | rfl | assumption) ?_
        refine x_aload_n 0 dX7_isDraftText_40 rfl (by first | rfl | assumption) ?_
        refine gf_X7_isDraftText_25 dX7_isDraftText_41 hm.1 (congrArg some hm.r10) ?_
        refine x_iload dX7_isDraftText_44 (by first | rfl | assumption) ?_
        refine x_iald dX7_isDraftText_46 (by first | exact hm.a1 | exact hm.a2 | exact hm.a3 | exact hm.a4 | exact hm.a5 | exact hm.a6 | exact hm.a7 | exact hm.a8 | exact hm.a9 | exact hm.a10 | exact hm.a11 | exact hm.a12 | exact hm.a13 | exact hm.a14 | exact hm.a15) (by assumption) ?_
        rw [nI_clamp (by omega), hl k (by omega)]
        refine cl_X7_isDraftText_47 (sm_character hm (c := c) ⟨rfl, rfl, rfl⟩ _) hm.1 (Nat.le_of_ble_eq_true rfl) ⟨Nat.le_of_ble_eq_true rfl, Nat.le_of_ble_eq_true rfl⟩ (fun r g2 hq => ?_)
        obtain ⟨rfl, hm⟩ := hq
        rw [m_s3s] at hm
        refine x_istore dX7_isDraftText_50 (by decide) rfl ?_
        refine x_iinc 1 dX7_isDraftText_52 (by first | rfl | assumption) (by decide) (by decide) rfl ?_
        refine x_goto 25 dX7_isDraftText_55 (by decide) ?_
        have hu := m_u8 hok (l.getD k 0)
        have hdr : l.drop k = l.getD k 0 :: l.drop (k + 1) := by
          rw [List.drop_eq_getElem_cons (show k < l.length by omega), List.getD_eq_getElem?_getD, List.getElem?_eq_getElem (show k < l.length by omega)]
          rfl
        rw [hdr, Bool.true_and] at hz
        cases hg : m_chk c (l.getD k 0) with
        | true =>
          obtain ⟨u1, u2⟩ := hu.1 hg
          refine ih (k + 1) _ true _ g2 (nI_1 k) (by omega) (by omega) u2 ?_ hm
          rw [← hz, z_all_c, u1, Bool.true_and]
        | false =>
          have u1 := hu.2 hg
          have hz2 : z_txt (l.drop 0) = false := by rw [← hz, z_all_c, u1]; rfl
          have f11 : m_s3 V (m_chr c (l.getD k 0)) 11 = .int (nI l.length) := fc
          rw [nI_1]
          refine x_iload dX7_isDraftText_25 (by first | rfl | assumption) ?_
          refine x_aload_n 0 dX7_isDraftText_27 rfl (by first | rfl | assumption) ?_
          refine gf_X7_isDraftText_84 dX7_isDraftText_28 hm.1 (congrArg some f11) ?_
          refine x_icmp_ge 58 dX7_isDraftText_31 (by decide) (fun c31 => ?_) (fun c31 => ?_)
          · exact h58 false _ _ g2 (by rw [hz2]; rfl) hm
          · refine x_iload dX7_isDraftText_34 (by first | rfl | assumption) ?_
            refine x_if_eq 58 dX7_isDraftText_36 (by decide) (fun _ => ?_) (fun z => absurd (show z_b false = 0 from rfl) z)
            exact h58 false _ _ g2 (by rw [hz2]; rfl) hm
  obtain ⟨f24, f25, f26⟩ := id hc0
  refine q_enter (M := mX7_isDraftText) (by decide +kernel) rfl (Nat.le_of_ble_eq_true rfl) ?_
  refine x_aload_n 0 dX7_isDraftText_0 rfl (by first | rfl | assumption) ?_
  refine gf_X7_isDraftText_72 dX7_isDraftText_1 hm.1 (congrArg some f24) ?_
  refine x_istore_n 1 dX7_isDraftText_4 rfl (by decide) rfl ?_
  refine x_aload_n 0 dX7_isDraftText_5 rfl (by first | rfl | assumption) ?_
  refine gf_X7_isDraftText_75 dX7_isDraftText_6 hm.1 (congrArg some f25) ?_
  refine x_istore_n 2 dX7_isDraftText_9 rfl (by decide) rfl ?_
  refine x_aload_n 0 dX7_isDraftText_10 rfl (by first | rfl | assumption) ?_
  refine gf_X7_isDraftText_78 dX7_isDraftText_11 hm.1 (congrArg some f26) ?_
  refine x_istore_n 3 dX7_isDraftText_14 rfl (by decide) rfl ?_
  refine x_iconst 1 dX7_isDraftText_15 (by decide) ?_
  refine x_istore dX7_isDraftText_16 (by decide) rfl ?_
  refine x_aload_n 0 dX7_isDraftText_18 rfl (by first | rfl | assumption) ?_
  refine cl_X7_isDraftText_19 (sm_beginCharacters hm) hm.1 (Nat.le_of_ble_eq_true rfl) ⟨Nat.le_of_ble_eq_true rfl, Nat.le_of_ble_eq_true rfl⟩ (fun r g2 hq => ?_)
  obtain ⟨rfl, hm⟩ := hq
  rw [m_s3_0 hc0] at hm
  refine x_iconst 0 dX7_isDraftText_22 (by decide) ?_
  refine x_istore dX7_isDraftText_23 (by decide) rfl ?_
  exact loop (l.length - 0) 0 _ true _ g2 rfl (by omega) (by omega) (Or.inl rfl) (by rw [Bool.true_and]; exact m_end_txt _ _ _) hm

theorem sm_isReason {c0 : z_T3} (hm : k_m h0 h B V F) (hc0 : m_c3 V c0) (fc : V 17 = .int (nI l.length)) (hl : m_l (F 8) l) (hN : l.length ≤ 125) : q_SP G mX7_isReason [.ref (B 0)] h 0 0 (fun o h' => o = some (.int (z_b (z_txt (l.drop 2)))) ∧ k_m h0 h' B V F) := by
  have h58 : ∀ (g : Bool) (x : Int32) (c : z_T3) (h1 : q_H), (g && (c.1 == 0)) = z_txt (l.drop 2) → k_m h0 h1 B (m_s3 V c) F → q_X G mX7_isReason (q_R mX7_isReason 0 0) (q_FN G (fun o h' => o = some (.int (z_b (z_txt (l.drop 2)))) ∧ k_m h0 h' B V F) 0 0) 58 [(0, .ref (B 0)), (1, .int c0.1), (2, .int c0.2.1), (3, .int c0.2.2), (4, .int (z_b g)), (5, .int x)] [] h1 0 0 := by
    intro g x c h1 hz hm
    have st : ∀ g2 : Bool, g2 = z_txt (l.drop 2) → q_X G mX7_isReason (q_R mX7_isReason 0 0) (q_FN G (fun o h' => o = some (.int (z_b (z_txt (l.drop 2)))) ∧ k_m h0 h' B V F) 0 0) 75 [(0, .ref (B 0)), (1, .int c0.1), (2, .int c0.2.1), (3, .int c0.2.2), (4, .int (z_b g)), (5, .int x)] [.int (z_b g2)] h1 0 0 := by
      intro g2 hg2
      refine x_istore dX7_isReason_75 (by decide) rfl ?_
      refine x_aload_n 0 dX7_isReason_77 rfl (by first | rfl | assumption) ?_
      refine x_iload_n 1 dX7_isReason_78 rfl (by first | rfl | assumption) ?_
      refine pf_X7_isReason_72 dX7_isReason_79 hm.1 (Nat.le_of_ble_eq_true rfl) ?_
      refine x_gm hm (fun gm hm f24 => ?_)
      refine x_aload_n 0 dX7_isReason_82 rfl (by first | rfl | assumption) ?_
      refine x_iload_n 2 dX7_isReason_83 rfl (by first | rfl | assumption) ?_
      refine pf_X7_isReason_75 dX7_isReason_84 hm.1 (Nat.le_of_ble_eq_true rfl) ?_
      refine x_gm hm (fun gm hm f25 => ?_)
      refine x_aload_n 0 dX7_isReason_87 rfl (by first | rfl | assumption) ?_
      refine x_iload_n 3 dX7_isReason_88 rfl (by first | rfl | assumption) ?_
      refine pf_X7_isReason_78 dX7_isReason_89 hm.1 (Nat.le_of_ble_eq_true rfl) ?_
      refine x_gm hm (fun gm hm f26 => ?_)
      rw [m_back hc0] at hm
      refine x_iload dX7_isReason_92 (by first | rfl | assumption) ?_
      refine x_iret rfl (by first | rfl | assumption | exact z_nb _) dX7_isReason_94 (by decide) (by decide) ?_
      exact ⟨by rw [hg2], hm⟩
    have f24 : m_s3 V c 24 = .int c.1 := rfl
    refine x_iload dX7_isReason_58 (by first | rfl | assumption) ?_
    cases g with
    | false =>
      refine x_if_eq 74 dX7_isReason_60 (by decide) (fun _ => ?_) (fun z => absurd (show z_b false = 0 from rfl) z)
      refine x_iconst 0 dX7_isReason_74 (by decide) ?_
      exact st false hz
    | true =>
      refine x_if_eq 74 dX7_isReason_60 (by decide) (fun z => absurd z (show ¬ z_b true = 0 by decide)) (fun _ => ?_)
      refine x_aload_n 0 dX7_isReason_63 rfl (by first | rfl | assumption) ?_
      refine gf_X7_isReason_72 dX7_isReason_64 hm.1 (congrArg some f24) ?_
      rw [Bool.true_and] at hz
      by_cases c1 : c.1 = 0
      · refine x_if_ne 74 dX7_isReason_67 (by decide) (fun z => absurd c1 z) (fun _ => ?_)
        refine x_iconst 1 dX7_isReason_70 (by decide) ?_
        refine x_goto 75 dX7_isReason_71 (by decide) ?_
        exact st true (by rw [← hz, c1]; rfl)
      · refine x_if_ne 74 dX7_isReason_67 (by decide) (fun _ => ?_) (fun z => absurd z c1)
        refine x_iconst 0 dX7_isReason_74 (by decide) ?_
        exact st false (by rw [← hz]; exact (beq_eq_false_iff_ne.mpr c1).symm)
  have loop : ∀ (m k : Nat) (x : Int32) (g : Bool) (c : z_T3) (h1 : q_H), x = nI k → k + m = l.length ∨ (m = 0 ∧ l.length ≤ k) → k ≤ 1000 → m_ok3 c → (g && m_end (z_all c (l.drop k))) = z_txt (l.drop 2) → k_m h0 h1 B (m_s3 V c) F → q_X G mX7_isReason (q_R mX7_isReason 0 0) (q_FN G (fun o h' => o = some (.int (z_b (z_txt (l.drop 2)))) ∧ k_m h0 h' B V F) 0 0) 25 [(0, .ref (B 0)), (1, .int c0.1), (2, .int c0.2.1), (3, .int c0.2.2), (4, .int (z_b g)), (5, .int x)] [] h1 0 0 := by
    intro m
    induction m with
    | zero =>
      intro k x g c h1 hx hk hk1 hok hz hm
      subst hx
      have f17 : m_s3 V c 17 = .int (nI l.length) := fc
      refine x_iload dX7_isReason_25 (by first | rfl | assumption) ?_
      refine x_aload_n 0 dX7_isReason_27 rfl (by first | rfl | assumption) ?_
      refine gf_X7_isReason_301 dX7_isReason_28 hm.1 (congrArg some f17) ?_
      refine x_icmp_ge 58 dX7_isReason_31 (by decide) (fun _ => ?_) (fun z => absurd (nI_le (by omega) (by omega)) z)
      rw [List.drop_eq_nil_of_le (show l.length ≤ k by omega)] at hz
      exact h58 g _ c h1 hz hm
    | succ m ih =>
      intro k x g c h1 hx hk hk1 hok hz hm
      subst hx
      have f17 : m_s3 V c 17 = .int (nI l.length) := fc
      have v0 : vp_in (nI k) 125 := vp_in_nI (by omega) (by omega)
      refine x_iload dX7_isReason_25 (by first | rfl | assumption) ?_
      refine x_aload_n 0 dX7_isReason_27 rfl (by first | rfl | assumption) ?_
      refine gf_X7_isReason_301 dX7_isReason_28 hm.1 (congrArg some f17) ?_
      refine x_icmp_ge 58 dX7_isReason_31 (by decide) (fun z => absurd z (nI_ge (by omega) (by omega))) (fun _ => ?_)
      refine x_iload dX7_isReason_34 (by first | rfl | assumption) ?_
      cases g with
      | false =>
        refine x_if_eq 58 dX7_isReason_36 (by decide) (fun _ => ?_) (fun z => absurd (show z_b false = 0 from rfl) z)
        exact h58 false _ c h1 hz hm
      | true =>
        refine x_if_eq 58 dX7_isReason_36 (by decide) (fun z => absurd z (show ¬ z_b true = 0 by decide)) (fun _ => ?_)
        refine x_aload_n 0 dX7_isReason_39 rfl (by first | rfl | assumption) ?_
        refine x_aload_n 0 dX7_isReason_40 rfl (by first | rfl | assumption) ?_
        refine gf_X7_isReason_31 dX7_isReason_41 hm.1 (congrArg some hm.r19) ?_
        refine x_iload dX7_isReason_44 (by first | rfl | assumption) ?_
        refine x_iald dX7_isReason_46 (by first | exact hm.a1 | exact hm.a2 | exact hm.a3 | exact hm.a4 | exact hm.a5 | exact hm.a6 | exact hm.a7 | exact hm.a8 | exact hm.a9 | exact hm.a10 | exact hm.a11 | exact hm.a12 | exact hm.a13 | exact hm.a14 | exact hm.a15) (by assumption) ?_
        rw [nI_clamp (by omega), hl k (by omega)]
        refine cl_X7_isReason_47 (sm_character hm (c := c) ⟨rfl, rfl, rfl⟩ _) hm.1 (Nat.le_of_ble_eq_true rfl) ⟨Nat.le_of_ble_eq_true rfl, Nat.le_of_ble_eq_true rfl⟩ (fun r g2 hq => ?_)
        obtain ⟨rfl, hm⟩ := hq
        rw [m_s3s] at hm
        refine x_istore dX7_isReason_50 (by decide) rfl ?_
        refine x_iinc 1 dX7_isReason_52 (by first | rfl | assumption) (by decide) (by decide) rfl ?_
        refine x_goto 25 dX7_isReason_55 (by decide) ?_
        have hu := m_u8 hok (l.getD k 0)
        have hdr : l.drop k = l.getD k 0 :: l.drop (k + 1) := by
          rw [List.drop_eq_getElem_cons (show k < l.length by omega), List.getD_eq_getElem?_getD, List.getElem?_eq_getElem (show k < l.length by omega)]
          rfl
        rw [hdr, Bool.true_and] at hz
        cases hg : m_chk c (l.getD k 0) with
        | true =>
          obtain ⟨u1, u2⟩ := hu.1 hg
          refine ih (k + 1) _ true _ g2 (nI_1 k) (by omega) (by omega) u2 ?_ hm
          rw [← hz, z_all_c, u1, Bool.true_and]
        | false =>
          have u1 := hu.2 hg
          have hz2 : z_txt (l.drop 2) = false := by rw [← hz, z_all_c, u1]; rfl
          have f17 : m_s3 V (m_chr c (l.getD k 0)) 17 = .int (nI l.length) := fc
          rw [nI_1]
          refine x_iload dX7_isReason_25 (by first | rfl | assumption) ?_
          refine x_aload_n 0 dX7_isReason_27 rfl (by first | rfl | assumption) ?_
          refine gf_X7_isReason_301 dX7_isReason_28 hm.1 (congrArg some f17) ?_
          refine x_icmp_ge 58 dX7_isReason_31 (by decide) (fun c31 => ?_) (fun c31 => ?_)
          · exact h58 false _ _ g2 (by rw [hz2]; rfl) hm
          · refine x_iload dX7_isReason_34 (by first | rfl | assumption) ?_
            refine x_if_eq 58 dX7_isReason_36 (by decide) (fun _ => ?_) (fun z => absurd (show z_b false = 0 from rfl) z)
            exact h58 false _ _ g2 (by rw [hz2]; rfl) hm
  obtain ⟨f24, f25, f26⟩ := id hc0
  refine q_enter (M := mX7_isReason) (by decide +kernel) rfl (Nat.le_of_ble_eq_true rfl) ?_
  refine x_aload_n 0 dX7_isReason_0 rfl (by first | rfl | assumption) ?_
  refine gf_X7_isReason_72 dX7_isReason_1 hm.1 (congrArg some f24) ?_
  refine x_istore_n 1 dX7_isReason_4 rfl (by decide) rfl ?_
  refine x_aload_n 0 dX7_isReason_5 rfl (by first | rfl | assumption) ?_
  refine gf_X7_isReason_75 dX7_isReason_6 hm.1 (congrArg some f25) ?_
  refine x_istore_n 2 dX7_isReason_9 rfl (by decide) rfl ?_
  refine x_aload_n 0 dX7_isReason_10 rfl (by first | rfl | assumption) ?_
  refine gf_X7_isReason_78 dX7_isReason_11 hm.1 (congrArg some f26) ?_
  refine x_istore_n 3 dX7_isReason_14 rfl (by decide) rfl ?_
  refine x_iconst 1 dX7_isReason_15 (by decide) ?_
  refine x_istore dX7_isReason_16 (by decide) rfl ?_
  refine x_aload_n 0 dX7_isReason_18 rfl (by first | rfl | assumption) ?_
  refine cl_X7_isReason_19 (sm_beginCharacters hm) hm.1 (Nat.le_of_ble_eq_true rfl) ⟨Nat.le_of_ble_eq_true rfl, Nat.le_of_ble_eq_true rfl⟩ (fun r g2 hq => ?_)
  obtain ⟨rfl, hm⟩ := hq
  rw [m_s3_0 hc0] at hm
  refine x_iconst 2 dX7_isReason_22 (by decide) ?_
  refine x_istore dX7_isReason_23 (by decide) rfl ?_
  exact loop (l.length - 2) 2 _ true _ g2 rfl (by omega) (by omega) (Or.inl rfl) (by rw [Bool.true_and]; exact m_end_txt _ _ _) hm

end MdlQ
