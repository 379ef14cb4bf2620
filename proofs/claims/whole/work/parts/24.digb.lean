/-! FramedTalk$Proof: blocks and base64 -/
section DigB
variable {G : q_G} {h : q_H} {p pb pba pw ph : Nat} {L : List Int32} {fw fh : Nat → Int32}
theorem sp_spread (hp : k_prf h p pb pba pw ph L fw fh) (hL : L.length = 128) {f : Nat} (hf : f + 64 ≤ 128) : q_SP G mX2_spread [.ref p, .int (nI f)] h 0 0 (fun o h' => o = none ∧ (∃ fw', k_prf h' p pb pba pw ph L fw' fh ∧ ∀ j, j < 80 → fw' j = d_W (fun i => L.getD (f + i) 0) j) ∧ k_same [pw] h h') := by
  refine q_enter (M := mX2_spread) (by decide +kernel) rfl (Nat.le_of_ble_eq_true rfl) ?_
  refine x_iconst 0 dX2_spread_0 (by decide) ?_
  refine x_istore_n 2 dX2_spread_1 rfl (by decide) rfl ?_
  have loop2 : ∀ (n t : Nat) (x : Int32) (h1 : q_H) (fw : Nat → Int32), x = nI t → t + n = 80 → 16 ≤ t → k_prf h1 p pb pba pw ph L fw fh → k_same [pw] h h1 → (∀ j, j < t → fw j = d_W (fun i => L.getD (f + i) 0) j) →
      q_X G mX2_spread (q_R mX2_spread 0 0) (q_FN G (fun o h' => o = none ∧ (∃ fw', k_prf h' p pb pba pw ph L fw' fh ∧ ∀ j, j < 80 → fw' j = d_W (fun i => L.getD (f + i) 0) j) ∧ k_same [pw] h h') 0 0) 79 [(0, .ref p), (1, .int (nI f)), (2, .int x)] [] h1 0 0 := by
    intro n
    induction n with
    | zero =>
      intro t x h1 fw hx ht h16 hp1 hs hw
      subst hx
      refine x_iload_n 2 dX2_spread_79 rfl (by first | rfl | assumption) ?_
      refine x_bipush 80 dX2_spread_80 (by decide) ?_
      refine x_icmp_ge 139 dX2_spread_82 (by decide) (fun _ => ?_) (fun z => absurd (nI_le (a := 80) (by omega) (by omega)) z)
      refine x_vret rfl dX2_spread_139 (by decide) (by decide) ?_
      exact ⟨rfl, ⟨fw, hp1, fun j hj => hw j (by omega)⟩, hs⟩
    | succ n ih =>
      intro t x h1 fw hx ht h16 hp1 hs hw
      subst hx
      have o1 := hp1.1
      have e1 := hp1.2.2.1
      have a3 : nI t - 3 = nI (t - 3) := pk_sub (b := 3) (by omega)
      have a8 : nI t - 8 = nI (t - 8) := pk_sub (b := 8) (by omega)
      have a14 : nI t - 14 = nI (t - 14) := pk_sub (b := 14) (by omega)
      have a16 : nI t - 16 = nI (t - 16) := pk_sub (b := 16) (by omega)
      have v0 : vp_in (nI t) 80 := vp_in_nI (by omega) (by omega)
      have v3 : vp_in (nI t - 3) 80 := by rw [a3]; exact vp_in_nI (by omega) (by omega)
      have v8 : vp_in (nI t - 8) 80 := by rw [a8]; exact vp_in_nI (by omega) (by omega)
      have v14 : vp_in (nI t - 14) 80 := by rw [a14]; exact vp_in_nI (by omega) (by omega)
      have v16 : vp_in (nI t - 16) 80 := by rw [a16]; exact vp_in_nI (by omega) (by omega)
      refine x_iload_n 2 dX2_spread_79 rfl (by first | rfl | assumption) ?_
      refine x_bipush 80 dX2_spread_80 (by decide) ?_
      refine x_icmp_ge 139 dX2_spread_82 (by decide) (fun z => absurd z (nI_ge (b := 80) (by omega) (by omega))) (fun _ => ?_)
      refine x_aload_n 0 dX2_spread_85 rfl (by first | rfl | assumption) ?_
      refine gf_X2_spread_20 dX2_spread_86 (by first | assumption | exact va_up_self _ _ _) rfl ?_
      refine x_iload_n 2 dX2_spread_89 rfl (by first | rfl | assumption) ?_
      refine x_aload_n 0 dX2_spread_90 rfl (by first | rfl | assumption) ?_
      refine gf_X2_spread_20 dX2_spread_91 (by first | assumption | exact va_up_self _ _ _) rfl ?_
      refine x_iload_n 2 dX2_spread_94 rfl (by first | rfl | assumption) ?_
      refine x_iconst 3 dX2_spread_95 (by decide) ?_
      refine x_isub dX2_spread_96 ?_
      refine x_iald dX2_spread_97 (by first | assumption | exact va_up_self _ _ _) (by assumption) ?_
      refine x_aload_n 0 dX2_spread_98 rfl (by first | rfl | assumption) ?_
      refine gf_X2_spread_20 dX2_spread_99 (by first | assumption | exact va_up_self _ _ _) rfl ?_
      refine x_iload_n 2 dX2_spread_102 rfl (by first | rfl | assumption) ?_
      refine x_bipush 8 dX2_spread_103 (by decide) ?_
      refine x_isub dX2_spread_105 ?_
      refine x_iald dX2_spread_106 (by first | assumption | exact va_up_self _ _ _) (by assumption) ?_
      refine x_ixor dX2_spread_107 ?_
      refine x_aload_n 0 dX2_spread_108 rfl (by first | rfl | assumption) ?_
      refine gf_X2_spread_20 dX2_spread_109 (by first | assumption | exact va_up_self _ _ _) rfl ?_
      refine x_iload_n 2 dX2_spread_112 rfl (by first | rfl | assumption) ?_
      refine x_bipush 14 dX2_spread_113 (by decide) ?_
      refine x_isub dX2_spread_115 ?_
      refine x_iald dX2_spread_116 (by first | assumption | exact va_up_self _ _ _) (by assumption) ?_
      refine x_ixor dX2_spread_117 ?_
      refine x_aload_n 0 dX2_spread_118 rfl (by first | rfl | assumption) ?_
      refine gf_X2_spread_20 dX2_spread_119 (by first | assumption | exact va_up_self _ _ _) rfl ?_
      refine x_iload_n 2 dX2_spread_122 rfl (by first | rfl | assumption) ?_
      refine x_bipush 16 dX2_spread_123 (by decide) ?_
      refine x_isub dX2_spread_125 ?_
      refine x_iald dX2_spread_126 (by first | assumption | exact va_up_self _ _ _) (by assumption) ?_
      refine x_ixor dX2_spread_127 ?_
      refine x_iconst 1 dX2_spread_128 (by decide) ?_
      rw [a3, a8, a14, a16, nI_clamp (by omega), nI_clamp (by omega), nI_clamp (by omega), nI_clamp (by omega), hw _ (by omega), hw _ (by omega), hw _ (by omega), hw _ (by omega)]
      refine cl_X2_spread_129 (sp_rotated _ 1) (Nat.le_of_ble_eq_true rfl) ⟨Nat.le_of_ble_eq_true rfl, Nat.le_of_ble_eq_true rfl⟩ (fun r g1 hq => ?_)
      obtain ⟨rfl, rfl⟩ := hq
      rw [← d_W_hi (show ¬ t < 16 by omega)]
      refine x_iast dX2_spread_132 (by first | assumption | exact va_up_self _ _ _) (by assumption) ?_
      rw [nI_clamp (by omega)]
      refine x_gen (fun gA oA sA => ?_)
      refine x_iinc 1 dX2_spread_133 (by first | rfl | assumption) (by decide) (by decide) rfl ?_
      refine x_goto 79 dX2_spread_136 (by decide) ?_
      refine ih (t + 1) _ gA _ (nI_1 t) (by omega) (by omega) (hp1.toW sA oA) (hs.tr sA) (fun j hj => ?_)
      by_cases hjt : j = t
      · rw [hjt, pk_us]
      · rw [pk_un hjt]; exact hw j (by omega)
  have loop1 : ∀ (n t : Nat) (x : Int32) (h1 : q_H) (fw : Nat → Int32) (lv : List (Nat × Value)), x = nI t → t + n = 16 → k_prf h1 p pb pba pw ph L fw fh → k_same [pw] h h1 → (∀ j, j < t → fw j = d_W (fun i => L.getD (f + i) 0) j) →
      q_X G mX2_spread (q_R mX2_spread 0 0) (q_FN G (fun o h' => o = none ∧ (∃ fw', k_prf h' p pb pba pw ph L fw' fh ∧ ∀ j, j < 80 → fw' j = d_W (fun i => L.getD (f + i) 0) j) ∧ k_same [pw] h h') 0 0) 2 ([(0, .ref p), (1, .int (nI f)), (2, .int x)] ++ lv) [] h1 0 0 := by
    intro n
    induction n with
    | zero =>
      intro t x h1 fw lv hx ht hp1 hs hw
      subst hx
      refine x_take 3 ?_
      refine x_iload_n 2 dX2_spread_2 rfl (by first | rfl | assumption) ?_
      refine x_bipush 16 dX2_spread_3 (by decide) ?_
      refine x_icmp_ge 76 dX2_spread_5 (by decide) (fun _ => ?_) (fun z => absurd (nI_le (a := 16) (by omega) (by omega)) z)
      refine x_bipush 16 dX2_spread_76 (by decide) ?_
      refine x_istore_n 2 dX2_spread_78 rfl (by decide) rfl ?_
      exact loop2 64 16 _ h1 fw rfl (by omega) (by omega) hp1 hs (fun j hj => hw j (by omega))
    | succ n ih =>
      intro t x h1 fw lv hx ht hp1 hs hw
      subst hx
      have o1 := hp1.1
      have r1 := hp1.2.1
      have e1 := hp1.2.2.1
      obtain ⟨f9, q9, -⟩ := id r1
      have v0 : vp_in (nI t) 80 := vp_in_nI (by omega) (by omega)
      refine x_take 3 ?_
      refine x_iload_n 2 dX2_spread_2 rfl (by first | rfl | assumption) ?_
      refine x_bipush 16 dX2_spread_3 (by decide) ?_
      refine x_icmp_ge 76 dX2_spread_5 (by decide) (fun z => absurd z (nI_ge (b := 16) (by omega) (by omega))) (fun _ => ?_)
      refine x_iload_n 1 dX2_spread_8 rfl (by first | rfl | assumption) ?_
      refine x_iconst 4 dX2_spread_9 (by decide) ?_
      refine x_iload_n 2 dX2_spread_10 rfl (by first | rfl | assumption) ?_
      refine x_imul dX2_spread_11 ?_
      refine x_iadd dX2_spread_12 ?_
      refine x_istore_n 3 dX2_spread_13 rfl (by decide) rfl ?_
      rw [show nI f + 4 * nI t = nI (f + 4 * t) from by rw [show (4 : Int32) = nI 4 from rfl, pk_mul, nI_add]]
      refine x_aload_n 0 dX2_spread_14 rfl (by first | rfl | assumption) ?_
      refine gf_X2_spread_20 dX2_spread_15 (by first | assumption | exact va_up_self _ _ _) rfl ?_
      refine x_iload_n 2 dX2_spread_18 rfl (by first | rfl | assumption) ?_
      refine x_aload_n 0 dX2_spread_19 rfl (by first | rfl | assumption) ?_
      refine gf_X2_spread_16 dX2_spread_20 (by first | assumption | exact va_up_self _ _ _) rfl ?_
      refine x_iload_n 3 dX2_spread_23 rfl (by first | rfl | assumption) ?_
      refine cl_X2_spread_24 (sp_atN r1 (k := f + 4 * t) (by omega)) (by first | assumption | exact va_up_self _ _ _) (Nat.le_of_ble_eq_true rfl) ⟨Nat.le_of_ble_eq_true rfl, Nat.le_of_ble_eq_true rfl⟩ (fun r g1 hq => ?_)
      obtain ⟨rfl, rfl⟩ := hq
      refine x_bipush 24 dX2_spread_27 (by decide) ?_
      refine x_ishl dX2_spread_29 ?_
      refine x_aload_n 0 dX2_spread_30 rfl (by first | rfl | assumption) ?_
      refine gf_X2_spread_16 dX2_spread_31 (by first | assumption | exact va_up_self _ _ _) rfl ?_
      refine x_iload_n 3 dX2_spread_34 rfl (by first | rfl | assumption) ?_
      refine x_iconst 1 dX2_spread_35 (by decide) ?_
      refine x_iadd dX2_spread_36 ?_
      rw [nI_1]
      refine cl_X2_spread_37 (sp_atN r1 (k := f + 4 * t + 1) (by omega)) (by first | assumption | exact va_up_self _ _ _) (Nat.le_of_ble_eq_true rfl) ⟨Nat.le_of_ble_eq_true rfl, Nat.le_of_ble_eq_true rfl⟩ (fun r g1 hq => ?_)
      obtain ⟨rfl, rfl⟩ := hq
      refine x_bipush 16 dX2_spread_40 (by decide) ?_
      refine x_ishl dX2_spread_42 ?_
      refine x_ior dX2_spread_43 ?_
      refine x_aload_n 0 dX2_spread_44 rfl (by first | rfl | assumption) ?_
      refine gf_X2_spread_16 dX2_spread_45 (by first | assumption | exact va_up_self _ _ _) rfl ?_
      refine x_iload_n 3 dX2_spread_48 rfl (by first | rfl | assumption) ?_
      refine x_iconst 2 dX2_spread_49 (by decide) ?_
      refine x_iadd dX2_spread_50 ?_
      rw [show nI (f + 4 * t) + 2 = nI (f + 4 * t + 2) from nI_add _ 2]
      refine cl_X2_spread_51 (sp_atN r1 (k := f + 4 * t + 2) (by omega)) (by first | assumption | exact va_up_self _ _ _) (Nat.le_of_ble_eq_true rfl) ⟨Nat.le_of_ble_eq_true rfl, Nat.le_of_ble_eq_true rfl⟩ (fun r g1 hq => ?_)
      obtain ⟨rfl, rfl⟩ := hq
      refine x_bipush 8 dX2_spread_54 (by decide) ?_
      refine x_ishl dX2_spread_56 ?_
      refine x_ior dX2_spread_57 ?_
      refine x_aload_n 0 dX2_spread_58 rfl (by first | rfl | assumption) ?_
      refine gf_X2_spread_16 dX2_spread_59 (by first | assumption | exact va_up_self _ _ _) rfl ?_
      refine x_iload_n 3 dX2_spread_62 rfl (by first | rfl | assumption) ?_
      refine x_iconst 3 dX2_spread_63 (by decide) ?_
      refine x_iadd dX2_spread_64 ?_
      rw [show nI (f + 4 * t) + 3 = nI (f + 4 * t + 3) from nI_add _ 3]
      refine cl_X2_spread_65 (sp_atN r1 (k := f + 4 * t + 3) (by omega)) (by first | assumption | exact va_up_self _ _ _) (Nat.le_of_ble_eq_true rfl) ⟨Nat.le_of_ble_eq_true rfl, Nat.le_of_ble_eq_true rfl⟩ (fun r g1 hq => ?_)
      obtain ⟨rfl, rfl⟩ := hq
      refine x_ior dX2_spread_68 ?_
      refine x_iast dX2_spread_69 (by first | assumption | exact va_up_self _ _ _) (by assumption) ?_
      rw [nI_clamp (by omega)]
      refine x_gen (fun gA oA sA => ?_)
      refine x_iinc 1 dX2_spread_70 (by first | rfl | assumption) (by decide) (by decide) rfl ?_
      refine x_goto 2 dX2_spread_73 (by decide) ?_
      refine ih (t + 1) _ gA _ [(3, _)] (nI_1 t) (by omega) (hp1.toW sA oA) (hs.tr sA) (fun j hj => ?_)
      by_cases hjt : j = t
      · rw [hjt, pk_us, d_W_lo (by omega)]
        rfl
      · rw [pk_un hjt]; exact hw j (by omega)
  exact loop1 16 0 0 h fw [] rfl (by omega) hp k_same.rf (fun j hj => absurd hj (by omega))
theorem sp_mix (hp : k_prf h p pb pba pw ph L fw fh) {W : Nat → Int32} (hw : ∀ j, j < 80 → fw j = W j) {s : d_5} (hh : ∀ j, j < 5 → fh j = d_sel s j) : q_SP G mX2_mix [.ref p] h 0 0 (fun o h' => o = none ∧ (∃ fh', k_prf h' p pb pba pw ph L fw fh' ∧ ∀ j, j < 5 → fh' j = d_sel (d_add s (d_run W 80 s)) j) ∧ k_same [ph] h h') := by
  have o1 := hp.1
  have e1 := hp.2.2.2.1
  have ew := hp.2.2.1
  have i0 : vp_in 0 5 := vp_in_nI (n := 0) (by omega) (by omega)
  have i1 : vp_in 1 5 := vp_in_nI (n := 1) (by omega) (by omega)
  have i2 : vp_in 2 5 := vp_in_nI (n := 2) (by omega) (by omega)
  have i3 : vp_in 3 5 := vp_in_nI (n := 3) (by omega) (by omega)
  have i4 : vp_in 4 5 := vp_in_nI (n := 4) (by omega) (by omega)
  have h0 : fh (0 : Int32).toNatClampNeg = s.1 := hh 0 (by omega)
  have h1 : fh (1 : Int32).toNatClampNeg = s.2.1 := hh 1 (by omega)
  have h2 : fh (2 : Int32).toNatClampNeg = s.2.2.1 := hh 2 (by omega)
  have h3 : fh (3 : Int32).toNatClampNeg = s.2.2.2.1 := hh 3 (by omega)
  have h4 : fh (4 : Int32).toNatClampNeg = s.2.2.2.2 := hh 4 (by omega)
  refine q_enter (M := mX2_mix) (by decide +kernel) rfl (Nat.le_of_ble_eq_true rfl) ?_
  refine x_aload_n 0 dX2_mix_0 rfl (by first | rfl | assumption) ?_
  refine gf_X2_mix_24 dX2_mix_1 (by first | assumption | exact va_up_self _ _ _) rfl ?_
  refine x_iconst 0 dX2_mix_4 (by decide) ?_
  refine x_iald dX2_mix_5 (by first | assumption | exact va_up_self _ _ _) (by assumption) ?_
  refine x_istore_n 1 dX2_mix_6 rfl (by decide) rfl ?_
  refine x_aload_n 0 dX2_mix_7 rfl (by first | rfl | assumption) ?_
  refine gf_X2_mix_24 dX2_mix_8 (by first | assumption | exact va_up_self _ _ _) rfl ?_
  refine x_iconst 1 dX2_mix_11 (by decide) ?_
  refine x_iald dX2_mix_12 (by first | assumption | exact va_up_self _ _ _) (by assumption) ?_
  refine x_istore_n 2 dX2_mix_13 rfl (by decide) rfl ?_
  refine x_aload_n 0 dX2_mix_14 rfl (by first | rfl | assumption) ?_
  refine gf_X2_mix_24 dX2_mix_15 (by first | assumption | exact va_up_self _ _ _) rfl ?_
  refine x_iconst 2 dX2_mix_18 (by decide) ?_
  refine x_iald dX2_mix_19 (by first | assumption | exact va_up_self _ _ _) (by assumption) ?_
  refine x_istore_n 3 dX2_mix_20 rfl (by decide) rfl ?_
  refine x_aload_n 0 dX2_mix_21 rfl (by first | rfl | assumption) ?_
  refine gf_X2_mix_24 dX2_mix_22 (by first | assumption | exact va_up_self _ _ _) rfl ?_
  refine x_iconst 3 dX2_mix_25 (by decide) ?_
  refine x_iald dX2_mix_26 (by first | assumption | exact va_up_self _ _ _) (by assumption) ?_
  refine x_istore dX2_mix_27 (by decide) rfl ?_
  refine x_aload_n 0 dX2_mix_29 rfl (by first | rfl | assumption) ?_
  refine gf_X2_mix_24 dX2_mix_30 (by first | assumption | exact va_up_self _ _ _) rfl ?_
  refine x_iconst 4 dX2_mix_33 (by decide) ?_
  refine x_iald dX2_mix_34 (by first | assumption | exact va_up_self _ _ _) (by assumption) ?_
  refine x_istore dX2_mix_35 (by decide) rfl ?_
  refine x_iconst 0 dX2_mix_37 (by decide) ?_
  refine x_istore dX2_mix_38 (by decide) rfl ?_
  rw [h0, h1, h2, h3, h4]
  have loop : ∀ (n t : Nat) (x a b c d e : Int32) (lv : List (Nat × Value)), x = nI t → t + n = 80 → d_run W t s = (a, b, c, d, e) →
      q_X G mX2_mix (q_R mX2_mix 0 0) (q_FN G (fun o h' => o = none ∧ (∃ fh', k_prf h' p pb pba pw ph L fw fh' ∧ ∀ j, j < 5 → fh' j = d_sel (d_add s (d_run W 80 s)) j) ∧ k_same [ph] h h') 0 0) 40 ([(0, .ref p), (1, .int a), (2, .int b), (3, .int c), (4, .int d), (5, .int e), (6, .int x)] ++ lv) [] h 0 0 := by
    intro n
    induction n with
    | zero =>
      intro t x a b c d e lv hx ht hrun
      subst hx
      have ht : t = 80 := by omega
      subst ht
      refine x_take 7 ?_
      refine x_iload dX2_mix_40 (by first | rfl | assumption) ?_
      refine x_bipush 80 dX2_mix_42 (by decide) ?_
      refine x_icmp_ge 100 dX2_mix_44 (by decide) (fun _ => ?_) (fun z => absurd (by decide) z)
      refine x_aload_n 0 dX2_mix_100 rfl (by first | rfl | assumption) ?_
      refine gf_X2_mix_24 dX2_mix_101 (by first | assumption | exact va_up_self _ _ _) rfl ?_
      refine x_iconst 0 dX2_mix_104 (by decide) ?_
      refine x_dup2 dX2_mix_105 rfl rfl ?_
      refine x_iald dX2_mix_106 (by first | assumption | exact va_up_self _ _ _) (by assumption) ?_
      refine x_iload_n 1 dX2_mix_107 rfl (by first | rfl | assumption) ?_
      refine x_iadd dX2_mix_108 ?_
      refine x_iast dX2_mix_109 (by first | assumption | exact va_up_self _ _ _) (by assumption) ?_
      refine x_gen (fun gA oA sA => ?_)
      have pA := hp.toH sA oA
      have o1 := pA.1
      refine x_aload_n 0 dX2_mix_110 rfl (by first | rfl | assumption) ?_
      refine gf_X2_mix_24 dX2_mix_111 (by first | assumption | exact va_up_self _ _ _) rfl ?_
      refine x_iconst 1 dX2_mix_114 (by decide) ?_
      refine x_dup2 dX2_mix_115 rfl rfl ?_
      refine x_iald dX2_mix_116 (by first | assumption | exact va_up_self _ _ _) (by assumption) ?_
      refine x_iload_n 2 dX2_mix_117 rfl (by first | rfl | assumption) ?_
      refine x_iadd dX2_mix_118 ?_
      refine x_iast dX2_mix_119 (by first | assumption | exact va_up_self _ _ _) (by assumption) ?_
      refine x_gen (fun gB oB sB => ?_)
      have pB := pA.toH sB oB
      have o1 := pB.1
      refine x_aload_n 0 dX2_mix_120 rfl (by first | rfl | assumption) ?_
      refine gf_X2_mix_24 dX2_mix_121 (by first | assumption | exact va_up_self _ _ _) rfl ?_
      refine x_iconst 2 dX2_mix_124 (by decide) ?_
      refine x_dup2 dX2_mix_125 rfl rfl ?_
      refine x_iald dX2_mix_126 (by first | assumption | exact va_up_self _ _ _) (by assumption) ?_
      refine x_iload_n 3 dX2_mix_127 rfl (by first | rfl | assumption) ?_
      refine x_iadd dX2_mix_128 ?_
      refine x_iast dX2_mix_129 (by first | assumption | exact va_up_self _ _ _) (by assumption) ?_
      refine x_gen (fun gC oC sC => ?_)
      have pC := pB.toH sC oC
      have o1 := pC.1
      refine x_aload_n 0 dX2_mix_130 rfl (by first | rfl | assumption) ?_
      refine gf_X2_mix_24 dX2_mix_131 (by first | assumption | exact va_up_self _ _ _) rfl ?_
      refine x_iconst 3 dX2_mix_134 (by decide) ?_
      refine x_dup2 dX2_mix_135 rfl rfl ?_
      refine x_iald dX2_mix_136 (by first | assumption | exact va_up_self _ _ _) (by assumption) ?_
      refine x_iload dX2_mix_137 (by first | rfl | assumption) ?_
      refine x_iadd dX2_mix_139 ?_
      refine x_iast dX2_mix_140 (by first | assumption | exact va_up_self _ _ _) (by assumption) ?_
      refine x_gen (fun gD oD sD => ?_)
      have pD := pC.toH sD oD
      have o1 := pD.1
      refine x_aload_n 0 dX2_mix_141 rfl (by first | rfl | assumption) ?_
      refine gf_X2_mix_24 dX2_mix_142 (by first | assumption | exact va_up_self _ _ _) rfl ?_
      refine x_iconst 4 dX2_mix_145 (by decide) ?_
      refine x_dup2 dX2_mix_146 rfl rfl ?_
      refine x_iald dX2_mix_147 (by first | assumption | exact va_up_self _ _ _) (by assumption) ?_
      refine x_iload dX2_mix_148 (by first | rfl | assumption) ?_
      refine x_iadd dX2_mix_150 ?_
      refine x_iast dX2_mix_151 (by first | assumption | exact va_up_self _ _ _) (by assumption) ?_
      refine x_gen (fun gE oE sE => ?_)
      have pE := pD.toH sE oE
      refine x_vret rfl dX2_mix_152 (by decide) (by decide) ?_
      refine ⟨rfl, ⟨_, pE, fun j hj => ?_⟩, (((k_same.tr sA sB).tr sC).tr sD).tr sE⟩
      rw [hrun]
      have five : j = 0 ∨ j = 1 ∨ j = 2 ∨ j = 3 ∨ j = 4 := by omega
      rcases five with rfl | rfl | rfl | rfl | rfl
      · show fh 0 + a = s.1 + a
        rw [← h0]; rfl
      · show fh 1 + b = s.2.1 + b
        rw [← h1]; rfl
      · show fh 2 + c = s.2.2.1 + c
        rw [← h2]; rfl
      · show fh 3 + d = s.2.2.2.1 + d
        rw [← h3]; rfl
      · show fh 4 + e = s.2.2.2.2 + e
        rw [← h4]; rfl
    | succ n ih =>
      intro t x a b c d e lv hx ht hrun
      subst hx
      have v0 : vp_in (nI t) 80 := vp_in_nI (by omega) (by omega)
      refine x_take 7 ?_
      refine x_iload dX2_mix_40 (by first | rfl | assumption) ?_
      refine x_bipush 80 dX2_mix_42 (by decide) ?_
      refine x_icmp_ge 100 dX2_mix_44 (by decide) (fun z => absurd z (nI_ge (b := 80) (by omega) (by omega))) (fun _ => ?_)
      refine x_iload_n 1 dX2_mix_47 rfl (by first | rfl | assumption) ?_
      refine x_iconst 5 dX2_mix_48 (by decide) ?_
      refine cl_X2_mix_49 (sp_rotated a 5) (Nat.le_of_ble_eq_true rfl) ⟨Nat.le_of_ble_eq_true rfl, Nat.le_of_ble_eq_true rfl⟩ (fun r g1 hq => ?_)
      obtain ⟨rfl, rfl⟩ := hq
      refine x_iload dX2_mix_52 (by first | rfl | assumption) ?_
      refine x_iload_n 2 dX2_mix_54 rfl (by first | rfl | assumption) ?_
      refine x_iload_n 3 dX2_mix_55 rfl (by first | rfl | assumption) ?_
      refine x_iload dX2_mix_56 (by first | rfl | assumption) ?_
      refine cl_X2_mix_58 (sp_blend (show t < 80 by omega) b c d) (Nat.le_of_ble_eq_true rfl) ⟨Nat.le_of_ble_eq_true rfl, Nat.le_of_ble_eq_true rfl⟩ (fun r g1 hq => ?_)
      obtain ⟨rfl, rfl⟩ := hq
      refine x_iadd dX2_mix_61 ?_
      refine x_iload dX2_mix_62 (by first | rfl | assumption) ?_
      refine x_iadd dX2_mix_64 ?_
      refine x_aload_n 0 dX2_mix_65 rfl (by first | rfl | assumption) ?_
      refine gf_X2_mix_20 dX2_mix_66 (by first | assumption | exact va_up_self _ _ _) rfl ?_
      refine x_iload dX2_mix_69 (by first | rfl | assumption) ?_
      refine x_iald dX2_mix_71 (by first | assumption | exact va_up_self _ _ _) (by assumption) ?_
      refine x_iadd dX2_mix_72 ?_
      refine x_istore dX2_mix_73 (by decide) rfl ?_
      refine x_iload dX2_mix_75 (by first | rfl | assumption) ?_
      refine x_istore dX2_mix_77 (by decide) rfl ?_
      refine x_iload_n 3 dX2_mix_79 rfl (by first | rfl | assumption) ?_
      refine x_istore dX2_mix_80 (by decide) rfl ?_
      refine x_iload_n 2 dX2_mix_82 rfl (by first | rfl | assumption) ?_
      refine x_bipush 30 dX2_mix_83 (by decide) ?_
      rw [nI_clamp (by omega), hw t (by omega)]
      refine cl_X2_mix_85 (sp_rotated b 30) (Nat.le_of_ble_eq_true rfl) ⟨Nat.le_of_ble_eq_true rfl, Nat.le_of_ble_eq_true rfl⟩ (fun r g1 hq => ?_)
      obtain ⟨rfl, rfl⟩ := hq
      refine x_istore_n 3 dX2_mix_88 rfl (by decide) rfl ?_
      refine x_iload_n 1 dX2_mix_89 rfl (by first | rfl | assumption) ?_
      refine x_istore_n 2 dX2_mix_90 rfl (by decide) rfl ?_
      refine x_iload dX2_mix_91 (by first | rfl | assumption) ?_
      refine x_istore_n 1 dX2_mix_93 rfl (by decide) rfl ?_
      refine x_iinc 1 dX2_mix_94 (by first | rfl | assumption) (by decide) (by decide) rfl ?_
      refine x_goto 40 dX2_mix_97 (by decide) ?_
      refine ih (t + 1) _ _ _ _ _ _ [(7, _)] (nI_1 t) (by omega) ?_
      show d_step W t (d_run W t s) = _
      rw [hrun]
      rfl
  exact loop 80 0 0 _ _ _ _ _ [] rfl (by omega) rfl
theorem d_byte_in (s : d_5) (i : Nat) : True := trivial
theorem sp_digestByte (hp : k_prf h p pb pba pw ph L fw fh) {s : d_5} (hh : ∀ j, j < 5 → fh j = d_sel s j) {i : Nat} (hi : i < 20) : q_SP G mX2_digestByte [.ref p, .int (nI i)] h 0 0 (fun o h' => o = some (.int (d_byte s i)) ∧ h' = h) := by
  have o1 := hp.1
  have e1 := hp.2.2.2.1
  have a1 : nI i >>> ((2 : Int32) &&& 31) = nI (i / 4) := pk_shrN (by omega) _ 2 (by decide)
  have a2 : nI i &&& 3 = nI (i % 4) := pk_andN (by omega) 2 (by decide)
  have v0 : vp_in (nI i >>> ((2 : Int32) &&& 31)) 5 := by rw [a1]; exact vp_in_nI (by omega) (by omega)
  refine q_enter (M := mX2_digestByte) (by decide +kernel) rfl (Nat.le_of_ble_eq_true rfl) ?_
  refine x_iload_n 1 dX2_digestByte_0 rfl (by first | rfl | assumption) ?_
  refine x_if_lt 10 dX2_digestByte_1 (by decide) (fun z => absurd z (nI_pos (by omega))) (fun _ => ?_)
  refine x_iload_n 1 dX2_digestByte_4 rfl (by first | rfl | assumption) ?_
  refine x_bipush 20 dX2_digestByte_5 (by decide) ?_
  refine x_icmp_lt 14 dX2_digestByte_7 (by decide) (fun _ => ?_) (fun z => absurd (nI_lt (b := 20) (by omega) (by omega)) z)
  refine x_aload_n 0 dX2_digestByte_14 rfl (by first | rfl | assumption) ?_
  refine gf_X2_digestByte_24 dX2_digestByte_15 (by first | assumption | exact va_up_self _ _ _) rfl ?_
  refine x_iload_n 1 dX2_digestByte_18 rfl (by first | rfl | assumption) ?_
  refine x_iconst 2 dX2_digestByte_19 (by decide) ?_
  refine x_ishr dX2_digestByte_20 ?_
  refine x_iald dX2_digestByte_21 (by first | assumption | exact va_up_self _ _ _) (by assumption) ?_
  refine x_bipush 24 dX2_digestByte_22 (by decide) ?_
  refine x_bipush 8 dX2_digestByte_24 (by decide) ?_
  refine x_iload_n 1 dX2_digestByte_26 rfl (by first | rfl | assumption) ?_
  refine x_iconst 3 dX2_digestByte_27 (by decide) ?_
  refine x_iand dX2_digestByte_28 ?_
  refine x_imul dX2_digestByte_29 ?_
  refine x_isub dX2_digestByte_30 ?_
  refine x_iushr dX2_digestByte_31 ?_
  refine x_sipush 255 dX2_digestByte_32 (by decide) ?_
  refine x_iand dX2_digestByte_35 ?_
  refine x_iret rfl (by first | rfl | assumption | exact z_nb _) dX2_digestByte_36 (by decide) (by decide) ?_
  refine ⟨?_, rfl⟩
  rw [a1, a2, nI_clamp (by omega), hh _ (by omega), show (24 : Int32) - 8 * nI (i % 4) = nI (24 - 8 * (i % 4)) from by rw [show (8 : Int32) = nI 8 from rfl, pk_mul]; exact pk_sub (a := 24) (by omega)]
  rfl
theorem d_six_in (x : Int32) (i : Nat) : ∃ j, j < 64 ∧ d_six x i = nI j := pk_andE _ 6 (by decide)
theorem sp_putSigns {r ra N : Nat} {l : List Int32} (hr : k_row h r ra N l) (x : Int32) {n : Nat} (hn : n ≤ 4) (hN : l.length + n ≤ N) : q_SP G mX2_putSigns [.ref r, .int x, .int (nI n)] h 0 0 (fun o h' => o = none ∧ k_row h' r ra N (l ++ d_signs x n) ∧ k_same [r, ra] h h') := by
  refine q_enter (M := mX2_putSigns) (by decide +kernel) rfl (Nat.le_of_ble_eq_true rfl) ?_
  refine x_iconst 0 dX2_putSigns_0 (by decide) ?_
  refine x_istore_n 3 dX2_putSigns_1 rfl (by decide) rfl ?_
  have loop : ∀ (m k : Nat) (y : Int32) (h1 : q_H), y = nI k → k + m = n → k_row h1 r ra N (l ++ d_signs x k) → k_same [r, ra] h h1 →
      q_X G mX2_putSigns (q_R mX2_putSigns 0 0) (q_FN G (fun o h' => o = none ∧ k_row h' r ra N (l ++ d_signs x n) ∧ k_same [r, ra] h h') 0 0) 2 [(0, .ref r), (1, .int x), (2, .int (nI n)), (3, .int y)] [] h1 0 0 := by
    intro m
    induction m with
    | zero =>
      intro k y h1 hy hk hr1 hs
      subst hy
      have hk : k = n := by omega
      subst hk
      refine x_iload_n 3 dX2_putSigns_2 rfl (by first | rfl | assumption) ?_
      refine x_iload_n 2 dX2_putSigns_3 rfl (by first | rfl | assumption) ?_
      refine x_icmp_ge 34 dX2_putSigns_4 (by decide) (fun _ => ?_) (fun z => absurd (nI_le (by omega) (by omega)) z)
      refine x_vret rfl dX2_putSigns_34 (by decide) (by decide) ?_
      exact ⟨rfl, hr1, hs⟩
    | succ m ih =>
      intro k y h1 hy hk hr1 hs
      subst hy
      obtain ⟨f9, q9, -⟩ := id hr1
      obtain ⟨j, hj, ej⟩ := d_six_in x k
      have e6 : (x.toUInt32 >>> ((18 - 6 * nI k : Int32).toUInt32 &&& Int32.toUInt32 31)).toInt32 &&& 63 = nI j := by
        rw [← ej, show (18 : Int32) - 6 * nI k = nI (18 - 6 * k) from by rw [show (6 : Int32) = nI 6 from rfl, pk_mul]; exact pk_sub (a := 18) (by omega)]
        rfl
      refine x_iload_n 3 dX2_putSigns_2 rfl (by first | rfl | assumption) ?_
      refine x_iload_n 2 dX2_putSigns_3 rfl (by first | rfl | assumption) ?_
      refine x_icmp_ge 34 dX2_putSigns_4 (by decide) (fun z => absurd z (nI_ge (by omega) (by omega))) (fun _ => ?_)
      refine x_aload_n 0 dX2_putSigns_7 rfl (by first | rfl | assumption) ?_
      refine ks_X2_putSigns_89 dX2_putSigns_8 ?_
      refine x_iload_n 1 dX2_putSigns_10 rfl (by first | rfl | assumption) ?_
      refine x_bipush 18 dX2_putSigns_11 (by decide) ?_
      refine x_bipush 6 dX2_putSigns_13 (by decide) ?_
      refine x_iload_n 3 dX2_putSigns_15 rfl (by first | rfl | assumption) ?_
      refine x_imul dX2_putSigns_16 ?_
      refine x_isub dX2_putSigns_17 ?_
      refine x_iushr dX2_putSigns_18 ?_
      refine x_bipush 63 dX2_putSigns_19 (by decide) ?_
      refine x_iand dX2_putSigns_21 ?_
      rw [e6]
      refine cl_X2_putSigns_22 (sp_schar (i := 12) (k := j) (by decide) (by show j < 64; exact hj)) (by decide) (Nat.le_of_ble_eq_true rfl) ⟨Nat.le_of_ble_eq_true rfl, Nat.le_of_ble_eq_true rfl⟩ (fun r1 g1 hq => ?_)
      obtain ⟨rfl, rfl⟩ := hq
      refine cl_X2_putSigns_25 (sp_add hr1 (q_ch 12 j)) (by first | assumption | exact va_up_self _ _ _) (Nat.le_of_ble_eq_true rfl) ⟨Nat.le_of_ble_eq_true rfl, Nat.le_of_ble_eq_true rfl⟩ (fun r1 g2 hq => ?_)
      obtain ⟨rfl, r2, s2⟩ := hq
      rw [if_pos (by rw [List.length_append, d_signs_len]; omega)] at r2
      refine x_iinc 1 dX2_putSigns_28 (by first | rfl | assumption) (by decide) (by decide) rfl ?_
      refine x_goto 2 dX2_putSigns_31 (by decide) ?_
      refine ih (k + 1) _ g2 (nI_1 k) (by omega) ?_ (hs.tr s2)
      have es : d_signs x (k + 1) = d_signs x k ++ [q_ch 12 j] := by
        unfold d_signs
        rw [List.range_succ, List.map_append]
        simp [d_sign, ej, nI_clamp (show j < 2 ^ 31 by omega)]
      rw [es, ← List.append_assoc]
      exact r2
  exact loop n 0 0 h rfl (by omega) (by simpa [d_signs] using hr) k_same.rf
theorem sp_putBase64 (hp : k_prf h p pb pba pw ph L fw fh) {s : d_5} (hh : ∀ j, j < 5 → fh j = d_sel s j) {r ra N : Nat} {l : List Int32} (hr : k_row h r ra N l) (hne : ∀ q ∈ [p, pb, pba, pw, ph], q ∉ [r, ra]) (hN : l.length + 28 ≤ N) : q_SP G mX2_putBase64 [.ref p, .ref r] h 0 0 (fun o h' => o = none ∧ k_row h' r ra N (l ++ d_b64 (d_byte s)) ∧ k_same [r, ra] h h') := by
  refine q_enter (M := mX2_putBase64) (by decide +kernel) rfl (Nat.le_of_ble_eq_true rfl) ?_
  refine x_iconst 0 dX2_putBase64_0 (by decide) ?_
  refine x_istore_n 2 dX2_putBase64_1 rfl (by decide) rfl ?_
  have loop : ∀ (m k : Nat) (y : Int32) (h1 : q_H) (lv : List (Nat × Value)), y = nI (3 * k) → k + m = 6 → k_row h1 r ra N (l ++ d_fours (d_byte s) k) → k_same [r, ra] h h1 →
      q_X G mX2_putBase64 (q_R mX2_putBase64 0 0) (q_FN G (fun o h' => o = none ∧ k_row h' r ra N (l ++ d_b64 (d_byte s)) ∧ k_same [r, ra] h h') 0 0) 2 ([(0, .ref p), (1, .ref r), (2, .int y)] ++ lv) [] h1 0 0 := by
    intro m
    induction m with
    | zero =>
      intro k y h1 lv hy hk hr1 hs
      subst hy
      have hk : k = 6 := by omega
      subst hk
      have p1 := hp.kept hs hne
      have o1 := p1.1
      refine x_take 3 ?_
      refine x_iload_n 2 dX2_putBase64_2 rfl (by first | rfl | assumption) ?_
      refine x_bipush 18 dX2_putBase64_3 (by decide) ?_
      refine x_icmp_ge 48 dX2_putBase64_5 (by decide) (fun _ => ?_) (fun z => absurd (by decide) z)
      refine x_aload_n 1 dX2_putBase64_48 rfl (by first | rfl | assumption) ?_
      refine x_aload_n 0 dX2_putBase64_49 rfl (by first | rfl | assumption) ?_
      refine x_bipush 18 dX2_putBase64_50 (by decide) ?_
      refine cl_X2_putBase64_52 (sp_digestByte p1 hh (i := 18) (by omega)) (by first | assumption | exact va_up_self _ _ _) (Nat.le_of_ble_eq_true rfl) ⟨Nat.le_of_ble_eq_true rfl, Nat.le_of_ble_eq_true rfl⟩ (fun r1 g1 hq => ?_)
      obtain ⟨rfl, rfl⟩ := hq
      refine x_bipush 16 dX2_putBase64_55 (by decide) ?_
      refine x_ishl dX2_putBase64_57 ?_
      refine x_aload_n 0 dX2_putBase64_58 rfl (by first | rfl | assumption) ?_
      refine x_bipush 19 dX2_putBase64_59 (by decide) ?_
      refine cl_X2_putBase64_61 (sp_digestByte p1 hh (i := 19) (by omega)) (by first | assumption | exact va_up_self _ _ _) (Nat.le_of_ble_eq_true rfl) ⟨Nat.le_of_ble_eq_true rfl, Nat.le_of_ble_eq_true rfl⟩ (fun r1 g1 hq => ?_)
      obtain ⟨rfl, rfl⟩ := hq
      refine x_bipush 8 dX2_putBase64_64 (by decide) ?_
      refine x_ishl dX2_putBase64_66 ?_
      refine x_ior dX2_putBase64_67 ?_
      refine x_iconst 3 dX2_putBase64_68 (by decide) ?_
      refine cl_X2_putBase64_69 (sp_putSigns hr1 (d_two (d_byte s)) (n := 3) (by omega) (by rw [List.length_append, d_fours_len]; omega)) (Nat.le_of_ble_eq_true rfl) ⟨Nat.le_of_ble_eq_true rfl, Nat.le_of_ble_eq_true rfl⟩ (fun r1 g2 hq => ?_)
      obtain ⟨rfl, r2, s2⟩ := hq
      obtain ⟨f9, q9, -⟩ := id r2
      refine x_aload_n 1 dX2_putBase64_72 rfl (by first | rfl | assumption) ?_
      refine x_bipush 61 dX2_putBase64_73 (by decide) ?_
      refine cl_X2_putBase64_75 (sp_add r2 61) (by first | assumption | exact va_up_self _ _ _) (Nat.le_of_ble_eq_true rfl) ⟨Nat.le_of_ble_eq_true rfl, Nat.le_of_ble_eq_true rfl⟩ (fun r1 g3 hq => ?_)
      obtain ⟨rfl, r3, s3⟩ := hq
      rw [if_pos (by rw [List.length_append, List.length_append, d_fours_len, d_signs_len]; omega)] at r3
      refine x_vret rfl dX2_putBase64_78 (by decide) (by decide) ?_
      refine ⟨rfl, ?_, (hs.tr s2).tr s3⟩
      unfold d_b64
      rw [← List.append_assoc, ← List.append_assoc]
      exact r3
    | succ m ih =>
      intro k y h1 lv hy hk hr1 hs
      subst hy
      have p1 := hp.kept hs hne
      have o1 := p1.1
      refine x_take 3 ?_
      refine x_iload_n 2 dX2_putBase64_2 rfl (by first | rfl | assumption) ?_
      refine x_bipush 18 dX2_putBase64_3 (by decide) ?_
      refine x_icmp_ge 48 dX2_putBase64_5 (by decide) (fun z => absurd z (nI_ge (b := 18) (by omega) (by omega))) (fun _ => ?_)
      refine x_aload_n 0 dX2_putBase64_8 rfl (by first | rfl | assumption) ?_
      refine x_iload_n 2 dX2_putBase64_9 rfl (by first | rfl | assumption) ?_
      refine cl_X2_putBase64_10 (sp_digestByte p1 hh (i := 3 * k) (by omega)) (by first | assumption | exact va_up_self _ _ _) (Nat.le_of_ble_eq_true rfl) ⟨Nat.le_of_ble_eq_true rfl, Nat.le_of_ble_eq_true rfl⟩ (fun r1 g1 hq => ?_)
      obtain ⟨rfl, rfl⟩ := hq
      refine x_bipush 16 dX2_putBase64_13 (by decide) ?_
      refine x_ishl dX2_putBase64_15 ?_
      refine x_aload_n 0 dX2_putBase64_16 rfl (by first | rfl | assumption) ?_
      refine x_iload_n 2 dX2_putBase64_17 rfl (by first | rfl | assumption) ?_
      refine x_iconst 1 dX2_putBase64_18 (by decide) ?_
      refine x_iadd dX2_putBase64_19 ?_
      rw [nI_1]
      refine cl_X2_putBase64_20 (sp_digestByte p1 hh (i := 3 * k + 1) (by omega)) (by first | assumption | exact va_up_self _ _ _) (Nat.le_of_ble_eq_true rfl) ⟨Nat.le_of_ble_eq_true rfl, Nat.le_of_ble_eq_true rfl⟩ (fun r1 g1 hq => ?_)
      obtain ⟨rfl, rfl⟩ := hq
      refine x_bipush 8 dX2_putBase64_23 (by decide) ?_
      refine x_ishl dX2_putBase64_25 ?_
      refine x_ior dX2_putBase64_26 ?_
      refine x_aload_n 0 dX2_putBase64_27 rfl (by first | rfl | assumption) ?_
      refine x_iload_n 2 dX2_putBase64_28 rfl (by first | rfl | assumption) ?_
      refine x_iconst 2 dX2_putBase64_29 (by decide) ?_
      refine x_iadd dX2_putBase64_30 ?_
      rw [show nI (3 * k) + 2 = nI (3 * k + 2) from nI_add _ 2]
      refine cl_X2_putBase64_31 (sp_digestByte p1 hh (i := 3 * k + 2) (by omega)) (by first | assumption | exact va_up_self _ _ _) (Nat.le_of_ble_eq_true rfl) ⟨Nat.le_of_ble_eq_true rfl, Nat.le_of_ble_eq_true rfl⟩ (fun r1 g1 hq => ?_)
      obtain ⟨rfl, rfl⟩ := hq
      refine x_ior dX2_putBase64_34 ?_
      refine x_istore_n 3 dX2_putBase64_35 rfl (by decide) rfl ?_
      refine x_aload_n 1 dX2_putBase64_36 rfl (by first | rfl | assumption) ?_
      refine x_iload_n 3 dX2_putBase64_37 rfl (by first | rfl | assumption) ?_
      refine x_iconst 4 dX2_putBase64_38 (by decide) ?_
      refine cl_X2_putBase64_39 (sp_putSigns hr1 (d_three (d_byte s) (3 * k)) (n := 4) (by omega) (by rw [List.length_append, d_fours_len]; omega)) (Nat.le_of_ble_eq_true rfl) ⟨Nat.le_of_ble_eq_true rfl, Nat.le_of_ble_eq_true rfl⟩ (fun r1 g2 hq => ?_)
      obtain ⟨rfl, r2, s2⟩ := hq
      refine x_iinc 3 dX2_putBase64_42 (by first | rfl | assumption) (by decide) (by decide) rfl ?_
      refine x_goto 2 dX2_putBase64_45 (by decide) ?_
      refine ih (k + 1) _ g2 [(3, _)] ?_ (by omega) ?_ (hs.tr s2)
      · rw [show (3 : Int32) = nI 3 from rfl, nI_add]; rfl
      · rw [d_fours_succ, ← List.append_assoc]
        exact r2
  exact loop 6 0 0 h [] rfl (by omega) (by simpa [d_fours] using hr) k_same.rf
end DigB
