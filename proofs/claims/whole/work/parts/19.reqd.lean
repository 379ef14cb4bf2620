/-! FramedTalk$Request: key, judge, and what the talk asks -/
section ReqD
variable {G : q_G} {h : q_H} {a rb ra aS aT aE : Nat} {l : List Int32} {sn ss es : Nat → Int32}
theorem sp_isKey (ho : h a = some (k_ob 3 [.ref rb, .ref aS, .ref aT, .ref aE])) (hr : k_row h rb ra 400 l) {s e' e : Nat} (hs : s ≤ l.length) (he' : e' ≤ l.length) (hee : e' = e ∨ (e' ≤ s ∧ e = s)) : q_SP G mX3_isKey [.ref a, .int (nI s), .int (nI e')] h 0 0 (fun o h' => o = some (.int (z_b (z_key l s e))) ∧ h' = h) := by
  have hl := hr.len
  have hr0 := hr
  obtain ⟨f0, h1, h2, h3, h4, h5⟩ := hr
  refine q_enter (M := mX3_isKey) (by decide +kernel) rfl (Nat.le_of_ble_eq_true rfl) ?_
  refine x_iload_n 2 dX3_isKey_0 rfl (by first | rfl | assumption) ?_
  refine x_iload_n 1 dX3_isKey_1 rfl (by first | rfl | assumption) ?_
  refine x_isub dX3_isKey_2 ?_
  refine x_bipush 24 dX3_isKey_3 (by decide) ?_
  refine x_icmp_ne 21 dX3_isKey_5 (by decide) (fun c5 => ?_) (fun c5 => ?_)
  · have hne : ¬ e' = s + 24 := fun z => c5 ((z_sub_eq (c := 24) (by omega) (by omega) (by omega)).mpr z)
    refine x_iconst 0 dX3_isKey_21 (by decide) ?_
    refine x_iret rfl (by first | rfl | assumption | exact z_nb _) dX3_isKey_22 (by decide) (by decide) ?_
    unfold z_key
    rw [decide_eq_false (by omega), Bool.false_and]
    exact ⟨rfl, rfl⟩
  · have heq : e' = s + 24 := (z_sub_eq (c := 24) (by omega) (by omega) (by omega)).mp c5
    have he : e = s + 24 := by omega
    have hz : z_key l s e = (z_eqX l (s + 22) (z_w 8) && (z_all64 l 22 s && z_agw (l.getD (s + 21) 0))) := by
      unfold z_key
      rw [decide_eq_true he, Bool.true_and]
    rw [hz]
    refine x_aload_n 0 dX3_isKey_8 rfl (by first | rfl | assumption) ?_
    refine x_iload_n 1 dX3_isKey_9 rfl (by first | rfl | assumption) ?_
    refine x_bipush 22 dX3_isKey_10 (by decide) ?_
    refine x_iadd dX3_isKey_12 ?_
    refine ks_X3_isKey_137 dX3_isKey_13 ?_
    rw [show nI s + 22 = nI (s + 22) from nI_add s 22]
    refine cl_X3_isKey_15 (sp_isExactly ho hr0 (i := 8) (p := s + 22) (by decide) (by show s + 22 + 2 ≤ _; omega)) (by first | assumption | exact va_up_self _ _ _) (Nat.le_of_ble_eq_true rfl) ⟨Nat.le_of_ble_eq_true rfl, Nat.le_of_ble_eq_true rfl⟩ (fun r1 g1 hq => ?_)
    obtain ⟨rfl, rfl⟩ := hq
    refine x_if_ne 23 dX3_isKey_18 (by decide) (fun c18 => ?_) (fun c18 => ?_)
    · rw [z_b1 c18, Bool.true_and]
      refine x_iload_n 1 dX3_isKey_23 rfl (by first | rfl | assumption) ?_
      refine x_istore_n 3 dX3_isKey_24 rfl (by decide) rfl ?_
      have loop : ∀ (n i : Nat) (x : Int32) (lv : List (Nat × Value)), x = nI i → i + n = s + 22 → z_all64 l n i = z_all64 l 22 s → (lv = [] ∨ ∃ v, lv = [(4, .int v)]) →
          q_X G mX3_isKey (q_R mX3_isKey 0 0) (q_FN G (fun o h' => o = some (.int (z_b (z_all64 l 22 s && z_agw (l.getD (s + 21) 0)))) ∧ h' = g1) 0 0) 25 ([(0, .ref a), (1, .int (nI s)), (2, .int (nI e')), (3, .int x)] ++ lv) [] g1 0 0 := by
        intro n
        induction n with
        | zero =>
          intro i x lv hx hi he hlv
          subst hx
          refine x_take 4 ?_
          refine x_iload_n 3 dX3_isKey_25 rfl (by first | rfl | assumption) ?_
          refine x_iload_n 1 dX3_isKey_26 rfl (by first | rfl | assumption) ?_
          refine x_bipush 22 dX3_isKey_27 (by decide) ?_
          refine x_iadd dX3_isKey_29 ?_
          rw [show nI s + 22 = nI (s + 22) from nI_add s 22]
          refine x_icmp_ge 73 dX3_isKey_30 (by decide) (fun _ => ?_) (fun z => absurd (nI_le (by omega) (by omega)) z)
          refine x_aload_n 0 dX3_isKey_73 rfl (by first | rfl | assumption) ?_
          refine gf_X3_isKey_14 dX3_isKey_74 (by first | assumption | exact va_up_self _ _ _) rfl ?_
          refine x_iload_n 1 dX3_isKey_77 rfl (by first | rfl | assumption) ?_
          refine x_bipush 22 dX3_isKey_78 (by decide) ?_
          refine x_iadd dX3_isKey_80 ?_
          refine x_iconst 1 dX3_isKey_81 (by decide) ?_
          refine x_isub dX3_isKey_82 ?_
          rw [show nI s + 22 = nI (s + 22) from nI_add s 22, show nI (s + 22) - 1 = nI (s + 21) from pk_sub (b := 1) (by omega)]
          refine cl_X3_isKey_83 (sp_atN hr0 (k := s + 21) (by omega)) (by first | assumption | exact va_up_self _ _ _) (Nat.le_of_ble_eq_true rfl) ⟨Nat.le_of_ble_eq_true rfl, Nat.le_of_ble_eq_true rfl⟩ (fun r1 g1 hq => ?_)
          obtain ⟨rfl, rfl⟩ := hq
          rw [← he, show z_all64 l 0 i = true from rfl, Bool.true_and]
          refine x_istore_n 3 dX3_isKey_86 rfl (by decide) rfl ?_
          refine x_iload_n 3 dX3_isKey_87 rfl (by first | rfl | assumption) ?_
          refine x_bipush 65 dX3_isKey_88 (by decide) ?_
          refine x_icmp_eq 111 dX3_isKey_90 (by decide) (fun c90 => ?_) (fun c90 => ?_)
          · refine x_iconst 1 dX3_isKey_111 (by decide) ?_
            refine x_goto 116 dX3_isKey_112 (by decide) ?_
            refine x_iret rfl (by first | rfl | assumption | exact z_nb _ | decide) dX3_isKey_116 (by decide) (by decide) ?_
            exact ⟨by simp only [z_agw, *, decide_true, Bool.true_or, Bool.or_true, z_b, if_true, decide_false, Bool.or_false, Bool.false_or, if_false] <;> (first | rfl | simp), rfl⟩
          · refine x_iload_n 3 dX3_isKey_93 rfl (by first | rfl | assumption) ?_
            refine x_bipush 81 dX3_isKey_94 (by decide) ?_
            refine x_icmp_eq 111 dX3_isKey_96 (by decide) (fun c96 => ?_) (fun c96 => ?_)
            · refine x_iconst 1 dX3_isKey_111 (by decide) ?_
              refine x_goto 116 dX3_isKey_112 (by decide) ?_
              refine x_iret rfl (by first | rfl | assumption | exact z_nb _ | decide) dX3_isKey_116 (by decide) (by decide) ?_
              exact ⟨by simp only [z_agw, *, decide_true, Bool.true_or, Bool.or_true, z_b, if_true, decide_false, Bool.or_false, Bool.false_or, if_false] <;> (first | rfl | simp), rfl⟩
            · refine x_iload_n 3 dX3_isKey_99 rfl (by first | rfl | assumption) ?_
              refine x_bipush 103 dX3_isKey_100 (by decide) ?_
              refine x_icmp_eq 111 dX3_isKey_102 (by decide) (fun c102 => ?_) (fun c102 => ?_)
              · refine x_iconst 1 dX3_isKey_111 (by decide) ?_
                refine x_goto 116 dX3_isKey_112 (by decide) ?_
                refine x_iret rfl (by first | rfl | assumption | exact z_nb _ | decide) dX3_isKey_116 (by decide) (by decide) ?_
                exact ⟨by simp only [z_agw, *, decide_true, Bool.true_or, Bool.or_true, z_b, if_true, decide_false, Bool.or_false, Bool.false_or, if_false] <;> (first | rfl | simp), rfl⟩
              · refine x_iload_n 3 dX3_isKey_105 rfl (by first | rfl | assumption) ?_
                refine x_bipush 119 dX3_isKey_106 (by decide) ?_
                refine x_icmp_ne 115 dX3_isKey_108 (by decide) (fun c108 => ?_) (fun c108 => ?_)
                · refine x_iconst 0 dX3_isKey_115 (by decide) ?_
                  refine x_iret rfl (by first | rfl | assumption | exact z_nb _ | decide) dX3_isKey_116 (by decide) (by decide) ?_
                  exact ⟨by simp only [z_agw, *, decide_true, Bool.true_or, Bool.or_true, z_b, if_true, decide_false, Bool.or_false, Bool.false_or, if_false] <;> (first | rfl | simp), rfl⟩
                · refine x_iconst 1 dX3_isKey_111 (by decide) ?_
                  refine x_goto 116 dX3_isKey_112 (by decide) ?_
                  refine x_iret rfl (by first | rfl | assumption | exact z_nb _ | decide) dX3_isKey_116 (by decide) (by decide) ?_
                  exact ⟨by simp only [z_agw, *, decide_true, Bool.true_or, Bool.or_true, z_b, if_true, decide_false, Bool.or_false, Bool.false_or, if_false] <;> (first | rfl | simp), rfl⟩
        | succ n ih =>
          intro i x lv hx hi he hlv
          subst hx
          refine x_take 4 ?_
          refine x_iload_n 3 dX3_isKey_25 rfl (by first | rfl | assumption) ?_
          refine x_iload_n 1 dX3_isKey_26 rfl (by first | rfl | assumption) ?_
          refine x_bipush 22 dX3_isKey_27 (by decide) ?_
          refine x_iadd dX3_isKey_29 ?_
          rw [show nI s + 22 = nI (s + 22) from nI_add s 22]
          refine x_icmp_ge 73 dX3_isKey_30 (by decide) (fun z => absurd z (nI_ge (by omega) (by omega))) (fun _ => ?_)
          refine x_aload_n 0 dX3_isKey_33 rfl (by first | rfl | assumption) ?_
          refine gf_X3_isKey_14 dX3_isKey_34 (by first | assumption | exact va_up_self _ _ _) rfl ?_
          refine x_iload_n 3 dX3_isKey_37 rfl (by first | rfl | assumption) ?_
          refine cl_X3_isKey_38 (sp_atN hr0 (k := i) (by omega)) (by first | assumption | exact va_up_self _ _ _) (Nat.le_of_ble_eq_true rfl) ⟨Nat.le_of_ble_eq_true rfl, Nat.le_of_ble_eq_true rfl⟩ (fun r1 g1 hq => ?_)
          obtain ⟨rfl, rfl⟩ := hq
          refine x_istore dX3_isKey_41 (by decide) rfl ?_
          refine x_iload dX3_isKey_43 (by first | rfl | assumption) ?_
          refine cl_X3_isKey_45 (sp_ld _) (Nat.le_of_ble_eq_true rfl) ⟨Nat.le_of_ble_eq_true rfl, Nat.le_of_ble_eq_true rfl⟩ (fun r1 g1 hq => ?_)
          obtain ⟨rfl, rfl⟩ := hq
          have go : z_64 (l.getD i 0) = true → z_all64 l n (i + 1) = z_all64 l 22 s := fun z => by
            rw [← he]
            conv => rhs; rw [z_all64, z, Bool.true_and]
          refine x_if_ne 67 dX3_isKey_48 (by decide) (fun c48 => ?_) (fun c48 => ?_)
          · refine x_iinc 1 dX3_isKey_67 (by first | rfl | assumption) (by decide) (by decide) rfl ?_
            refine x_goto 25 dX3_isKey_70 (by decide) ?_
            exact ih (i + 1) _ [(4, _)] (nI_1 i) (by omega) (go (by unfold z_64; rw [z_b1 c48, Bool.true_or])) (Or.inr ⟨_, rfl⟩)
          · refine x_iload dX3_isKey_51 (by first | rfl | assumption) ?_
            refine x_bipush 43 dX3_isKey_53 (by decide) ?_
            refine x_icmp_eq 67 dX3_isKey_55 (by decide) (fun c55 => ?_) (fun c55 => ?_)
            · refine x_iinc 1 dX3_isKey_67 (by first | rfl | assumption) (by decide) (by decide) rfl ?_
              refine x_goto 25 dX3_isKey_70 (by decide) ?_
              exact ih (i + 1) _ [(4, _)] (nI_1 i) (by omega) (go (by unfold z_64; rw [decide_eq_true c55, Bool.true_or, Bool.or_true])) (Or.inr ⟨_, rfl⟩)
            · refine x_iload dX3_isKey_58 (by first | rfl | assumption) ?_
              refine x_bipush 47 dX3_isKey_60 (by decide) ?_
              refine x_icmp_eq 67 dX3_isKey_62 (by decide) (fun c62 => ?_) (fun c62 => ?_)
              · refine x_iinc 1 dX3_isKey_67 (by first | rfl | assumption) (by decide) (by decide) rfl ?_
                refine x_goto 25 dX3_isKey_70 (by decide) ?_
                exact ih (i + 1) _ [(4, _)] (nI_1 i) (by omega) (go (by unfold z_64; rw [decide_eq_true c62, Bool.or_true, Bool.or_true])) (Or.inr ⟨_, rfl⟩)
              · refine x_iconst 0 dX3_isKey_65 (by decide) ?_
                refine x_iret rfl (by first | rfl | assumption | exact z_nb _) dX3_isKey_66 (by decide) (by decide) ?_
                have z : z_all64 l 22 s = false := by
                  rw [← he, z_all64]
                  have : z_64 (l.getD i 0) = false := by
                    unfold z_64
                    rw [z_b0 c48, decide_eq_false c55, decide_eq_false c62]
                    rfl
                  rw [this, Bool.false_and]
                rw [z, Bool.false_and]
                exact ⟨rfl, rfl⟩
      exact loop 22 s _ [] rfl (by omega) rfl (Or.inl rfl)
    · rw [z_b0 c18, Bool.false_and]
      refine x_iconst 0 dX3_isKey_21 (by decide) ?_
      refine x_iret rfl (by first | rfl | assumption | exact z_nb _) dX3_isKey_22 (by decide) (by decide) ?_
      exact ⟨rfl, rfl⟩
theorem sp_hasDue (hq0 : k_req h a rb ra aS aT aE l sn ss es) {K : Nat} {F : z_Fd} (hF : k_flds l.length K F sn ss es) (hK : K < 1000) : q_SP G mX3_hasDueFields [.ref a] h 0 0 (fun o h' => o = some (.int (z_b (z_due l F))) ∧ h' = h) := by
  have hq1 := hq0
  obtain ⟨ho, hr, e1, e2, e3, hd⟩ := hq1
  have hl := hr.len
  have ws := z_wl (i := 7) (by decide)
  have tail : (∀ n, n < 5 → (F n).1 = 1) → q_X G mX3_hasDueFields (q_R mX3_hasDueFields 0 0) (q_FN G (fun o h' => o = some (.int (z_b (z_due l F))) ∧ h' = h) 0 0) 25 [(0, .ref a)] [] h 0 0 := by
    intro hone
    have hz : z_due l F = (decide ((F 0).2.1 < (F 0).2.2) && (z_has l (F 1).2.1 (F 1).2.2 (z_w 7) && (z_has l (F 2).2.1 (F 2).2.2 (z_w 3) && z_key l (F 3).2.1 (F 3).2.2))) := by
      unfold z_due
      rw [decide_eq_true (hone 0 (by omega)), decide_eq_true (hone 1 (by omega)), decide_eq_true (hone 2 (by omega)), decide_eq_true (hone 3 (by omega)), decide_eq_true (hone 4 (by omega))]
      rfl
    rw [hz]
    have i0 : vp_in 0 5 := vp_in_nI (n := 0) (by omega) (by omega)
    have i3 : vp_in 3 5 := vp_in_nI (n := 3) (by omega) (by omega)
    obtain ⟨-, -, a3, a4, a5, x0, a6, a7, a8⟩ := hF 0 (by omega)
    obtain ⟨-, -, b3, b4, b5, x3, b6, b7, b8⟩ := hF 3 (by omega)
    refine x_aload_n 0 dX3_hasDueFields_25 rfl (by first | rfl | assumption) ?_
    refine gf_X3_hasDueFields_24 dX3_hasDueFields_26 (by first | assumption | exact va_up_self _ _ _) rfl ?_
    refine x_iconst 0 dX3_hasDueFields_29 (by decide) ?_
    refine x_iald dX3_hasDueFields_30 (by first | assumption | exact va_up_self _ _ _) (by assumption) ?_
    refine x_aload_n 0 dX3_hasDueFields_31 rfl (by first | rfl | assumption) ?_
    refine gf_X3_hasDueFields_27 dX3_hasDueFields_32 (by first | assumption | exact va_up_self _ _ _) rfl ?_
    refine x_iconst 0 dX3_hasDueFields_35 (by decide) ?_
    refine x_iald dX3_hasDueFields_36 (by first | assumption | exact va_up_self _ _ _) (by assumption) ?_
    rw [show ss (0 : Int32).toNatClampNeg = nI (F 0).2.1 from a3, show es (0 : Int32).toNatClampNeg = nI x0 from a6]
    refine x_icmp_ge 83 dX3_hasDueFields_37 (by decide) (fun c37 => ?_) (fun c37 => ?_)
    · have z := (nI_leI (by omega) (by omega)).mp c37
      refine x_iconst 0 dX3_hasDueFields_83 (by decide) ?_
      refine x_iret rfl (by first | rfl | assumption | exact z_nb _ | decide) dX3_hasDueFields_84 (by decide) (by decide) ?_
      exact ⟨by rw [decide_eq_false (by omega), Bool.false_and]; rfl, rfl⟩
    · have z : ¬ x0 ≤ (F 0).2.1 := fun z => c37 ((nI_leI (by omega) (by omega)).mpr z)
      rw [decide_eq_true (show (F 0).2.1 < (F 0).2.2 by omega), Bool.true_and]
      refine x_aload_n 0 dX3_hasDueFields_40 rfl (by first | rfl | assumption) ?_
      refine x_iconst 1 dX3_hasDueFields_41 (by decide) ?_
      refine ks_X3_hasDueFields_129 dX3_hasDueFields_42 ?_
      refine cl_X3_hasDueFields_44 (sp_hasWord hq0 hF (n := 1) (i := 7) (by omega) (by decide) (by decide)) (by first | assumption | exact va_up_self _ _ _) (Nat.le_of_ble_eq_true rfl) ⟨Nat.le_of_ble_eq_true rfl, Nat.le_of_ble_eq_true rfl⟩ (fun r1 g1 hq => ?_)
      obtain ⟨rfl, rfl⟩ := hq
      refine x_if_eq 83 dX3_hasDueFields_47 (by decide) (fun c47 => ?_) (fun c47 => ?_)
      · refine x_iconst 0 dX3_hasDueFields_83 (by decide) ?_
        refine x_iret rfl (by first | rfl | assumption | exact z_nb _ | decide) dX3_hasDueFields_84 (by decide) (by decide) ?_
        exact ⟨by rw [z_b0 c47, Bool.false_and]; rfl, rfl⟩
      · rw [z_b1 c47, Bool.true_and]
        refine x_aload_n 0 dX3_hasDueFields_50 rfl (by first | rfl | assumption) ?_
        refine x_iconst 2 dX3_hasDueFields_51 (by decide) ?_
        refine ks_X3_hasDueFields_109 dX3_hasDueFields_52 ?_
        refine cl_X3_hasDueFields_54 (sp_hasWord hq0 hF (n := 2) (i := 3) (by omega) (by decide) (by decide)) (by first | assumption | exact va_up_self _ _ _) (Nat.le_of_ble_eq_true rfl) ⟨Nat.le_of_ble_eq_true rfl, Nat.le_of_ble_eq_true rfl⟩ (fun r1 g1 hq => ?_)
        obtain ⟨rfl, rfl⟩ := hq
        refine x_if_eq 83 dX3_hasDueFields_57 (by decide) (fun c57 => ?_) (fun c57 => ?_)
        · refine x_iconst 0 dX3_hasDueFields_83 (by decide) ?_
          refine x_iret rfl (by first | rfl | assumption | exact z_nb _ | decide) dX3_hasDueFields_84 (by decide) (by decide) ?_
          exact ⟨by rw [z_b0 c57, Bool.false_and]; rfl, rfl⟩
        · rw [z_b1 c57, Bool.true_and]
          refine x_aload_n 0 dX3_hasDueFields_60 rfl (by first | rfl | assumption) ?_
          refine x_aload_n 0 dX3_hasDueFields_61 rfl (by first | rfl | assumption) ?_
          refine gf_X3_hasDueFields_24 dX3_hasDueFields_62 (by first | assumption | exact va_up_self _ _ _) rfl ?_
          refine x_iconst 3 dX3_hasDueFields_65 (by decide) ?_
          refine x_iald dX3_hasDueFields_66 (by first | assumption | exact va_up_self _ _ _) (by assumption) ?_
          refine x_aload_n 0 dX3_hasDueFields_67 rfl (by first | rfl | assumption) ?_
          refine gf_X3_hasDueFields_27 dX3_hasDueFields_68 (by first | assumption | exact va_up_self _ _ _) rfl ?_
          refine x_iconst 3 dX3_hasDueFields_71 (by decide) ?_
          refine x_iald dX3_hasDueFields_72 (by first | assumption | exact va_up_self _ _ _) (by assumption) ?_
          rw [show ss (3 : Int32).toNatClampNeg = nI (F 3).2.1 from b3, show es (3 : Int32).toNatClampNeg = nI x3 from b6]
          refine cl_X3_hasDueFields_73 (sp_isKey ho hr (s := (F 3).2.1) (e' := x3) (e := (F 3).2.2) b4 b7 b8) (by first | assumption | exact va_up_self _ _ _) (Nat.le_of_ble_eq_true rfl) ⟨Nat.le_of_ble_eq_true rfl, Nat.le_of_ble_eq_true rfl⟩ (fun r1 g1 hq => ?_)
          obtain ⟨rfl, rfl⟩ := hq
          refine x_if_eq 83 dX3_hasDueFields_76 (by decide) (fun c76 => ?_) (fun c76 => ?_)
          · refine x_iconst 0 dX3_hasDueFields_83 (by decide) ?_
            refine x_iret rfl (by first | rfl | assumption | exact z_nb _ | decide) dX3_hasDueFields_84 (by decide) (by decide) ?_
            exact ⟨by first | (rw [z_b0 c76]; rfl) | (rw [z_b1 c76]; rfl), rfl⟩
          · refine x_iconst 1 dX3_hasDueFields_79 (by decide) ?_
            refine x_goto 84 dX3_hasDueFields_80 (by decide) ?_
            refine x_iret rfl (by first | rfl | assumption | exact z_nb _ | decide) dX3_hasDueFields_84 (by decide) (by decide) ?_
            exact ⟨by first | (rw [z_b0 c76]; rfl) | (rw [z_b1 c76]; rfl), rfl⟩
  refine q_enter (M := mX3_hasDueFields) (by decide +kernel) rfl (Nat.le_of_ble_eq_true rfl) ?_
  refine x_iconst 0 dX3_hasDueFields_0 (by decide) ?_
  refine x_istore_n 1 dX3_hasDueFields_1 rfl (by decide) rfl ?_
  have loop : ∀ (m n : Nat) (x : Int32), x = nI n → n + m = 5 → (∀ j, j < n → (F j).1 = 1) →
      q_X G mX3_hasDueFields (q_R mX3_hasDueFields 0 0) (q_FN G (fun o h' => o = some (.int (z_b (z_due l F))) ∧ h' = h) 0 0) 2 [(0, .ref a), (1, .int x)] [] h 0 0 := by
    intro m
    induction m with
    | zero =>
      intro n x hx hn hone
      subst hx
      refine x_iload_n 1 dX3_hasDueFields_2 rfl (by first | rfl | assumption) ?_
      refine x_iconst 5 dX3_hasDueFields_3 (by decide) ?_
      refine x_icmp_ge 25 dX3_hasDueFields_4 (by decide) (fun _ => ?_) (fun z => absurd (nI_le (a := 5) (by omega) (by omega)) z)
      exact x_take 1 (tail (fun j hj => hone j (by omega)))
    | succ m ih =>
      intro n x hx hn hone
      subst hx
      have hin : vp_in (nI n) 5 := vp_in_nI (by omega) (by omega)
      obtain ⟨z1, z2, z3⟩ := hF n (by omega)
      refine x_iload_n 1 dX3_hasDueFields_2 rfl (by first | rfl | assumption) ?_
      refine x_iconst 5 dX3_hasDueFields_3 (by decide) ?_
      refine x_icmp_ge 25 dX3_hasDueFields_4 (by decide) (fun z => absurd z (nI_ge (b := 5) (by omega) (by omega))) (fun _ => ?_)
      refine x_aload_n 0 dX3_hasDueFields_7 rfl (by first | rfl | assumption) ?_
      refine gf_X3_hasDueFields_20 dX3_hasDueFields_8 (by first | assumption | exact va_up_self _ _ _) rfl ?_
      refine x_iload_n 1 dX3_hasDueFields_11 rfl (by first | rfl | assumption) ?_
      refine x_iald dX3_hasDueFields_12 (by first | assumption | exact va_up_self _ _ _) (by assumption) ?_
      refine x_iconst 1 dX3_hasDueFields_13 (by decide) ?_
      rw [nI_clamp (by omega), z1]
      refine x_icmp_eq 19 dX3_hasDueFields_14 (by decide) (fun c14 => ?_) (fun c14 => ?_)
      · have e : (F n).1 = 1 := (nI_eq (b := 1) (by omega) (by omega)).mp c14
        refine x_iinc 1 dX3_hasDueFields_19 (by first | rfl | assumption) (by decide) (by decide) rfl ?_
        refine x_goto 2 dX3_hasDueFields_22 (by decide) ?_
        refine ih (n + 1) _ (nI_1 n) (by omega) (fun j hj => ?_)
        by_cases hjn : j = n
        · rw [hjn]; exact e
        · exact hone j (by omega)
      · have e : ¬ (F n).1 = 1 := fun z => c14 ((nI_eq (b := 1) (by omega) (by omega)).mpr z)
        refine x_iconst 0 dX3_hasDueFields_17 (by decide) ?_
        refine x_iret rfl (by first | rfl | assumption | exact z_nb _) dX3_hasDueFields_18 (by decide) (by decide) ?_
        have hz : z_due l F = false := by
          unfold z_due
          have five : n = 0 ∨ n = 1 ∨ n = 2 ∨ n = 3 ∨ n = 4 := by omega
          rcases five with rfl | rfl | rfl | rfl | rfl <;> simp [e]
        rw [hz]
        exact ⟨rfl, rfl⟩
  exact loop 5 0 0 rfl (by omega) (fun j hj => absurd hj (by omega))
/-- what 'judge' answers -/
def z_verdict (o : Option (Bool × Nat)) : Int32 := match o with
  | none => 0
  | some (false, _) => 1
  | some (true, _) => 2
theorem sp_judge (hq0 : k_req h a rb ra aS aT aE l sn ss es) (h0 : k_flds l.length 0 (fun _ => (0, 0, 0)) sn ss es) (hn : 4 ≤ l.length) : q_SP G mX3_judge [.ref a] h 0 0 (fun o h' => o = some (.int (z_verdict (z_judge l))) ∧ k_same [aS, aT, aE] h h' ∧ ∃ sn' ss' es', k_req h' a rb ra aS aT aE l sn' ss' es' ∧ ∀ v p, z_judge l = some (v, p) → ss' 3 = nI p ∧ es' 3 = nI (p + 24) ∧ p + 24 ≤ l.length) := by
  have ho := hq0.1
  refine q_enter (M := mX3_judge) (by decide +kernel) rfl (Nat.le_of_ble_eq_true rfl) ?_
  refine x_aload_n 0 dX3_judge_0 rfl (by first | rfl | assumption) ?_
  refine cl_X3_judge_1 (sp_readLines hq0 h0 hn) (by first | assumption | exact va_up_self _ _ _) (Nat.le_of_ble_eq_true rfl) ⟨Nat.le_of_ble_eq_true rfl, Nat.le_of_ble_eq_true rfl⟩ (fun r1 g1 hq => ?_)
  obtain ⟨rfl, hs, sn', ss', es', hq1, hF1⟩ := hq
  obtain ⟨ho1, hr1, e1, e2, e3, hd⟩ := id hq1
  have hl := hr1.len
  cases hz : z_rl l (l.length - 3) 0 0 (fun _ => (0, 0, 0)) with
  | none =>
    have hj : z_judge l = none := by unfold z_judge; rw [hz]
    refine x_if_eq 14 dX3_judge_4 (by decide) (fun _ => ?_) (fun z => absurd rfl z)
    refine x_iconst 0 dX3_judge_14 (by decide) ?_
    refine x_iret rfl (by first | rfl | assumption | exact z_nb _) dX3_judge_15 (by decide) (by decide) ?_
    rw [hj]
    exact ⟨rfl, hs, sn', ss', es', hq1, fun v p z => by cases z⟩
  | some F =>
    have hF := hF1 F hz
    have hj : z_judge l = if z_due l F then some (z_same l (F 4).2.1 (F 4).2.2 (z_w 9), (F 3).2.1) else none := by unfold z_judge; rw [hz]
    refine x_if_eq 14 dX3_judge_4 (by decide) (fun z => absurd z (show ¬ (1 : Int32) = 0 by decide)) (fun _ => ?_)
    refine x_aload_n 0 dX3_judge_7 rfl (by first | rfl | assumption) ?_
    refine cl_X3_judge_8 (sp_hasDue hq1 hF (by omega)) (by first | assumption | exact va_up_self _ _ _) (Nat.le_of_ble_eq_true rfl) ⟨Nat.le_of_ble_eq_true rfl, Nat.le_of_ble_eq_true rfl⟩ (fun r1 g2 hq => ?_)
    obtain ⟨rfl, rfl⟩ := hq
    refine x_if_ne 16 dX3_judge_11 (by decide) (fun c11 => ?_) (fun c11 => ?_)
    · have hdue := z_b1 c11
      rw [hdue, if_pos rfl] at hj
      have i4 : vp_in 4 5 := vp_in_nI (n := 4) (by omega) (by omega)
      obtain ⟨-, -, a3, a4, a5, x4, a6, a7, a8⟩ := hF 4 (by omega)
      obtain ⟨-, -, b3, b4, b5, x3, b6, b7, b8⟩ := hF 3 (by omega)
      have hk : ∀ v p, z_judge l = some (v, p) → ss' 3 = nI p ∧ es' 3 = nI (p + 24) ∧ p + 24 ≤ l.length := by
        intro v p z
        rw [hj] at z
        cases z
        have hkey : z_key l (F 3).2.1 (F 3).2.2 = true := by
          unfold z_due at hdue
          simp only [Bool.and_eq_true] at hdue
          exact hdue.2.2.2.2
        unfold z_key at hkey
        rw [Bool.and_eq_true] at hkey
        have e := of_decide_eq_true hkey.1
        exact ⟨b3, by rw [b6]; congr 1; omega, by omega⟩
      rw [hj]
      refine x_aload_n 0 dX3_judge_16 rfl (by first | rfl | assumption) ?_
      refine x_aload_n 0 dX3_judge_17 rfl (by first | rfl | assumption) ?_
      refine gf_X3_judge_24 dX3_judge_18 (by first | assumption | exact va_up_self _ _ _) rfl ?_
      refine x_iconst 4 dX3_judge_21 (by decide) ?_
      refine x_iald dX3_judge_22 (by first | assumption | exact va_up_self _ _ _) (by assumption) ?_
      refine x_aload_n 0 dX3_judge_23 rfl (by first | rfl | assumption) ?_
      refine gf_X3_judge_27 dX3_judge_24 (by first | assumption | exact va_up_self _ _ _) rfl ?_
      refine x_iconst 4 dX3_judge_27 (by decide) ?_
      refine x_iald dX3_judge_28 (by first | assumption | exact va_up_self _ _ _) (by assumption) ?_
      refine ks_X3_judge_51 dX3_judge_29 ?_
      rw [show ss' (4 : Int32).toNatClampNeg = nI (F 4).2.1 from a3, show es' (4 : Int32).toNatClampNeg = nI x4 from a6]
      refine cl_X3_judge_31 (sp_isSame ho1 hr1 (i := 9) (f := (F 4).2.1) (t := x4) (by decide) a4 a7) (by first | assumption | exact va_up_self _ _ _) (Nat.le_of_ble_eq_true rfl) ⟨Nat.le_of_ble_eq_true rfl, Nat.le_of_ble_eq_true rfl⟩ (fun r1 g2 hq => ?_)
      obtain ⟨rfl, rfl⟩ := hq
      rw [z_same_e (by decide) a8]
      refine x_if_eq 41 dX3_judge_34 (by decide) (fun c34 => ?_) (fun c34 => ?_)
      · refine x_iconst 1 dX3_judge_41 (by decide) ?_
        refine x_iret rfl (by first | rfl | assumption | exact z_nb _ | decide) dX3_judge_42 (by decide) (by decide) ?_
        exact ⟨by first | (rw [z_b0 c34]; rfl) | (rw [z_b1 c34]; rfl), hs, sn', ss', es', hq1, hj ▸ hk⟩
      · refine x_iconst 2 dX3_judge_37 (by decide) ?_
        refine x_goto 42 dX3_judge_38 (by decide) ?_
        refine x_iret rfl (by first | rfl | assumption | exact z_nb _ | decide) dX3_judge_42 (by decide) (by decide) ?_
        exact ⟨by first | (rw [z_b0 c34]; rfl) | (rw [z_b1 c34]; rfl), hs, sn', ss', es', hq1, hj ▸ hk⟩
    · have hdue := z_b0 c11
      rw [hdue, if_neg (by decide)] at hj
      refine x_iconst 0 dX3_judge_14 (by decide) ?_
      refine x_iret rfl (by first | rfl | assumption | exact z_nb _) dX3_judge_15 (by decide) (by decide) ?_
      rw [hj]
      exact ⟨rfl, hs, sn', ss', es', hq1, fun v p z => by cases z⟩
theorem sp_gather (hq0 : k_req h a rb ra aS aT aE l sn ss es) (b : Int32) (hl : l.length < 400) : q_SP G mX3_gather [.ref a, .int b] h 0 0 (fun o h' => o = none ∧ k_req h' a rb ra aS aT aE (l ++ [b]) sn ss es ∧ k_same [rb, ra] h h') := by
  obtain ⟨ho, hr, e1, e2, e3, hd⟩ := hq0
  obtain ⟨f0, h1, -⟩ := id hr
  have hd0 := hd
  simp only [List.nodup_cons, List.mem_cons, List.not_mem_nil, not_or, or_false, not_false_eq_true, List.nodup_nil, and_true] at hd
  obtain ⟨⟨d01, d02, d03, d04, d05⟩, ⟨d12, d13, d14, d15⟩, ⟨d23, d24, d25⟩, ⟨d34, d35⟩, d45⟩ := hd
  refine q_enter (M := mX3_gather) (by decide +kernel) rfl (Nat.le_of_ble_eq_true rfl) ?_
  refine x_aload_n 0 dX3_gather_0 rfl (by first | rfl | assumption) ?_
  refine gf_X3_gather_14 dX3_gather_1 (by first | assumption | exact va_up_self _ _ _) rfl ?_
  refine x_iload_n 1 dX3_gather_4 rfl (by first | rfl | assumption) ?_
  refine cl_X3_gather_5 (sp_add hr b) (by first | assumption | exact va_up_self _ _ _) (Nat.le_of_ble_eq_true rfl) ⟨Nat.le_of_ble_eq_true rfl, Nat.le_of_ble_eq_true rfl⟩ (fun r1 g1 hq => ?_)
  obtain ⟨rfl, k1, k2⟩ := hq
  refine x_vret rfl dX3_gather_8 (by decide) (by decide) ?_
  rw [if_pos hl] at k1
  exact ⟨rfl, ⟨(k2 a (by simp [d01, d02])).trans ho, k1, (k2 aS (by simp [Ne.symm d13, Ne.symm d23])).trans e1, (k2 aT (by simp [Ne.symm d14, Ne.symm d24])).trans e2, (k2 aE (by simp [Ne.symm d15, Ne.symm d25])).trans e3, hd0⟩, k2⟩
theorem sp_isAtLimit (hq0 : k_req h a rb ra aS aT aE l sn ss es) : q_SP G mX3_isAtLimit [.ref a] h 0 0 (fun o h' => o = some (.int (z_b (decide (l.length = 400)))) ∧ h' = h) := by
  obtain ⟨ho, hr, e1, e2, e3, hd⟩ := hq0
  obtain ⟨f0, h1, -⟩ := id hr
  refine q_enter (M := mX3_isAtLimit) (by decide +kernel) rfl (Nat.le_of_ble_eq_true rfl) ?_
  refine x_aload_n 0 dX3_isAtLimit_0 rfl (by first | rfl | assumption) ?_
  refine gf_X3_isAtLimit_14 dX3_isAtLimit_1 (by first | assumption | exact va_up_self _ _ _) rfl ?_
  refine cl_X3_isAtLimit_4 (sp_isFull hr) (by first | assumption | exact va_up_self _ _ _) (Nat.le_of_ble_eq_true rfl) ⟨Nat.le_of_ble_eq_true rfl, Nat.le_of_ble_eq_true rfl⟩ (fun r1 g1 hq => ?_)
  obtain ⟨rfl, rfl⟩ := hq
  rw [z_bif]
  refine x_iret rfl (by first | rfl | assumption | exact z_nb _) dX3_isAtLimit_7 (by decide) (by decide) ?_
  exact ⟨rfl, rfl⟩
/-- the end of a request -/
def z_comp (l : List Int32) : Bool := decide (4 ≤ l.length) && (z_eol l (l.length - 4) && z_eol l (l.length - 2))
theorem z_at_neg {l : List Int32} {i : Int32} (h : i < 0) : z_at l i = -1 := by
  unfold z_at
  rw [if_neg (fun z => z.1 h)]
theorem sp_isComplete (hq0 : k_req h a rb ra aS aT aE l sn ss es) : q_SP G mX3_isComplete [.ref a] h 0 0 (fun o h' => o = some (.int (z_b (z_comp l))) ∧ h' = h) := by
  obtain ⟨ho, hr, e1, e2, e3, hd⟩ := hq0
  obtain ⟨f0, h1, -⟩ := id hr
  have hl := hr.len
  refine q_enter (M := mX3_isComplete) (by decide +kernel) rfl (Nat.le_of_ble_eq_true rfl) ?_
  refine x_aload_n 0 dX3_isComplete_0 rfl (by first | rfl | assumption) ?_
  refine gf_X3_isComplete_14 dX3_isComplete_1 (by first | assumption | exact va_up_self _ _ _) rfl ?_
  refine cl_X3_isComplete_4 (sp_size hr) (by first | assumption | exact va_up_self _ _ _) (Nat.le_of_ble_eq_true rfl) ⟨Nat.le_of_ble_eq_true rfl, Nat.le_of_ble_eq_true rfl⟩ (fun r1 g1 hq => ?_)
  obtain ⟨rfl, rfl⟩ := hq
  by_cases h4 : 4 ≤ l.length
  · have hz : z_comp l = (z_eol l (l.length - 4) && z_eol l (l.length - 2)) := by
      unfold z_comp
      rw [decide_eq_true h4, Bool.true_and]
    rw [hz]
    refine x_iconst 4 dX3_isComplete_7 (by decide) ?_
    refine x_isub dX3_isComplete_8 ?_
    refine x_istore_n 1 dX3_isComplete_9 rfl (by decide) rfl ?_
    refine x_aload_n 0 dX3_isComplete_10 rfl (by first | rfl | assumption) ?_
    refine x_iload_n 1 dX3_isComplete_11 rfl (by first | rfl | assumption) ?_
    rw [show nI l.length - 4 = nI (l.length - 4) from pk_sub (b := 4) h4]
    refine cl_X3_isComplete_12 (sp_eol ho hr (i := l.length - 4) (by omega)) (by first | assumption | exact va_up_self _ _ _) (Nat.le_of_ble_eq_true rfl) ⟨Nat.le_of_ble_eq_true rfl, Nat.le_of_ble_eq_true rfl⟩ (fun r1 g1 hq => ?_)
    obtain ⟨rfl, rfl⟩ := hq
    refine x_if_eq 32 dX3_isComplete_15 (by decide) (fun c15 => ?_) (fun c15 => ?_)
    · refine x_iconst 0 dX3_isComplete_32 (by decide) ?_
      refine x_iret rfl (by first | rfl | assumption | exact z_nb _ | decide) dX3_isComplete_33 (by decide) (by decide) ?_
      exact ⟨by rw [z_b0 c15, Bool.false_and]; rfl, rfl⟩
    · rw [z_b1 c15, Bool.true_and]
      refine x_aload_n 0 dX3_isComplete_18 rfl (by first | rfl | assumption) ?_
      refine x_iload_n 1 dX3_isComplete_19 rfl (by first | rfl | assumption) ?_
      refine x_iconst 2 dX3_isComplete_20 (by decide) ?_
      refine x_iadd dX3_isComplete_21 ?_
      rw [show nI (l.length - 4) + 2 = nI (l.length - 2) from by rw [show (2 : Int32) = nI 2 from rfl, nI_add]; congr 1; omega]
      refine cl_X3_isComplete_22 (sp_eol ho hr (i := l.length - 2) (by omega)) (by first | assumption | exact va_up_self _ _ _) (Nat.le_of_ble_eq_true rfl) ⟨Nat.le_of_ble_eq_true rfl, Nat.le_of_ble_eq_true rfl⟩ (fun r1 g1 hq => ?_)
      obtain ⟨rfl, rfl⟩ := hq
      refine x_if_eq 32 dX3_isComplete_25 (by decide) (fun c25 => ?_) (fun c25 => ?_)
      · refine x_iconst 0 dX3_isComplete_32 (by decide) ?_
        refine x_iret rfl (by first | rfl | assumption | exact z_nb _ | decide) dX3_isComplete_33 (by decide) (by decide) ?_
        exact ⟨by first | (rw [z_b0 c25]; rfl) | (rw [z_b1 c25]; rfl), rfl⟩
      · refine x_iconst 1 dX3_isComplete_28 (by decide) ?_
        refine x_goto 33 dX3_isComplete_29 (by decide) ?_
        refine x_iret rfl (by first | rfl | assumption | exact z_nb _ | decide) dX3_isComplete_33 (by decide) (by decide) ?_
        exact ⟨by first | (rw [z_b0 c25]; rfl) | (rw [z_b1 c25]; rfl), rfl⟩
  · have hz : z_comp l = false := by
      unfold z_comp
      rw [decide_eq_false h4, Bool.false_and]
    rw [hz]
    have hneg : nI l.length - 4 < 0 := pk_sneg (b := 4) (by omega) (by omega)
    refine x_iconst 4 dX3_isComplete_7 (by decide) ?_
    refine x_isub dX3_isComplete_8 ?_
    refine x_istore_n 1 dX3_isComplete_9 rfl (by decide) rfl ?_
    refine x_aload_n 0 dX3_isComplete_10 rfl (by first | rfl | assumption) ?_
    refine x_iload_n 1 dX3_isComplete_11 rfl (by first | rfl | assumption) ?_
    refine cl_X3_isComplete_12 (sp_isLineEnd ho hr (nI l.length - 4)) (by first | assumption | exact va_up_self _ _ _) (Nat.le_of_ble_eq_true rfl) ⟨Nat.le_of_ble_eq_true rfl, Nat.le_of_ble_eq_true rfl⟩ (fun r1 g1 hq => ?_)
    obtain ⟨rfl, rfl⟩ := hq
    refine x_if_eq 32 dX3_isComplete_15 (by decide) (fun _ => ?_) (fun z => absurd (by rw [z_at_neg hneg]; rfl) z)
    refine x_iconst 0 dX3_isComplete_32 (by decide) ?_
    refine x_iret rfl (by first | rfl | assumption | exact z_nb _ | decide) dX3_isComplete_33 (by decide) (by decide) ?_
    exact ⟨rfl, rfl⟩
theorem sp_putKey (hq0 : k_req h a rb ra aS aT aE l sn ss es) {r2 ra2 N2 p : Nat} {l2 : List Int32} (hr2 : k_row h r2 ra2 N2 l2) (hne : rb ∉ [r2, ra2] ∧ ra ∉ [r2, ra2]) (h1 : ss 3 = nI p) (h2 : es 3 = nI (p + 24)) (h3 : p + 24 ≤ l.length) (hN : l2.length + 24 ≤ N2) : q_SP G mX3_putKeyInto [.ref a, .ref r2] h 0 0 (fun o h' => o = none ∧ k_row h' r2 ra2 N2 (l2 ++ (l.drop p).take 24) ∧ k_same [r2, ra2] h h') := by
  obtain ⟨ho, hr, e1, e2, e3, hd⟩ := hq0
  obtain ⟨f2, h12, -⟩ := id hr2
  have i3 : vp_in 3 5 := vp_in_nI (n := 3) (by omega) (by omega)
  refine q_enter (M := mX3_putKeyInto) (by decide +kernel) rfl (Nat.le_of_ble_eq_true rfl) ?_
  refine x_aload_n 1 dX3_putKeyInto_0 rfl (by first | rfl | assumption) ?_
  refine x_aload_n 0 dX3_putKeyInto_1 rfl (by first | rfl | assumption) ?_
  refine gf_X3_putKeyInto_14 dX3_putKeyInto_2 (by first | assumption | exact va_up_self _ _ _) rfl ?_
  refine x_aload_n 0 dX3_putKeyInto_5 rfl (by first | rfl | assumption) ?_
  refine gf_X3_putKeyInto_24 dX3_putKeyInto_6 (by first | assumption | exact va_up_self _ _ _) rfl ?_
  refine x_iconst 3 dX3_putKeyInto_9 (by decide) ?_
  refine x_iald dX3_putKeyInto_10 (by first | assumption | exact va_up_self _ _ _) (by assumption) ?_
  refine x_aload_n 0 dX3_putKeyInto_11 rfl (by first | rfl | assumption) ?_
  refine gf_X3_putKeyInto_27 dX3_putKeyInto_12 (by first | assumption | exact va_up_self _ _ _) rfl ?_
  refine x_iconst 3 dX3_putKeyInto_15 (by decide) ?_
  refine x_iald dX3_putKeyInto_16 (by first | assumption | exact va_up_self _ _ _) (by assumption) ?_
  rw [show ss (3 : Int32).toNatClampNeg = nI p from h1, show es (3 : Int32).toNatClampNeg = nI (p + 24) from h2]
  refine cl_X3_putKeyInto_17 (sp_addPart hr2 hr hne (a := p) (b := p + 24) (by omega) h3 (by omega)) (by first | assumption | exact va_up_self _ _ _) (Nat.le_of_ble_eq_true rfl) ⟨Nat.le_of_ble_eq_true rfl, Nat.le_of_ble_eq_true rfl⟩ (fun r1 g1 hq => ?_)
  obtain ⟨rfl, k1, k2⟩ := hq
  refine x_vret rfl dX3_putKeyInto_20 (by decide) (by decide) ?_
  rw [show p + 24 - p = 24 by omega] at k1
  exact ⟨rfl, k1, k2⟩
end ReqD
