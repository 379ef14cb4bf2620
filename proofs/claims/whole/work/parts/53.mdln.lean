/-! the reference: a byte of the request -/
section MdlO
variable {G : q_G} {h0 h : q_H} {B : Nat → Nat} {V : Nat → Value} {F : Nat → Nat → Int32} {l out : List Int32}
theorem m_answer.ret {r : Option (Bool × Nat)} {o : Option Value} {h' : q_H} (hq : m_answer h0 B V F l out r o h') : o = none := by
  match r with
  | some (true, p) => exact hq.1
  | some (false, p) => exact hq.1
  | none => exact hq.1
theorem sm_ask (hm : k_m h0 h B V F) (f4 : V 4 = .int (nI l.length)) (hl : m_l (F 1) l) (hN : l.length < 400) (ho : m_o V F out) (hn : out.length ≤ 400) (b : Int32) : q_SP G mX7_ask [.ref (B 0), .int b] h 0 0 (fun o h' => if z_comp (l ++ [b]) then m_answer h0 B (m_u V 4 (.int (nI (l ++ [b]).length))) (m_u F 1 (upd (F 1) l.length b)) (l ++ [b]) out (z_judge (l ++ [b])) o h' else if (l ++ [b]).length = 400 then m_answer h0 B (m_u V 4 (.int (nI (l ++ [b]).length))) (m_u F 1 (upd (F 1) l.length b)) (l ++ [b]) out none o h' else o = none ∧ k_m h0 h' B (m_u V 4 (.int (nI (l ++ [b]).length))) (m_u F 1 (upd (F 1) l.length b))) := by
  have hlen : (l ++ [b]).length = l.length + 1 := by rw [List.length_append]; rfl
  have v0 : vp_in (nI l.length) 400 := vp_in_nI hN (by omega)
  have hl2 := hl.add b
  have hb : (l ++ [b]).getD l.length 0 = b := by
    rw [List.getD_eq_getElem?_getD, List.getElem?_append_right (Nat.le_refl _), Nat.sub_self]; rfl
  refine q_enter (M := mX7_ask) (by decide +kernel) rfl (Nat.le_of_ble_eq_true rfl) ?_
  refine x_aload_n 0 dX7_ask_0 rfl (by first | rfl | assumption) ?_
  refine gf_X7_ask_7 dX7_ask_1 hm.1 (congrArg some hm.r3) ?_
  refine x_aload_n 0 dX7_ask_4 rfl (by first | rfl | assumption) ?_
  refine gf_X7_ask_198 dX7_ask_5 hm.1 (congrArg some f4) ?_
  refine x_iload_n 1 dX7_ask_8 rfl (by first | rfl | assumption) ?_
  refine x_iast dX7_ask_9 (by first | exact hm.a1 | exact hm.a2 | exact hm.a3 | exact hm.a4 | exact hm.a5 | exact hm.a6 | exact hm.a7 | exact hm.a8 | exact hm.a9 | exact hm.a10 | exact hm.a11 | exact hm.a12 | exact hm.a13 | exact hm.a14 | exact hm.a15) (by assumption) ?_
  refine x_ga hm (by decide) rfl (fun gm hm => ?_)
  refine x_aload_n 0 dX7_ask_10 rfl (by first | rfl | assumption) ?_
  refine x_dup dX7_ask_11 rfl ?_
  refine gf_X7_ask_198 dX7_ask_12 hm.1 (congrArg some f4) ?_
  refine x_iconst 1 dX7_ask_15 (by decide) ?_
  refine x_iadd dX7_ask_16 ?_
  refine pf_X7_ask_198 dX7_ask_17 hm.1 (Nat.le_of_ble_eq_true rfl) ?_
  refine x_gm hm (fun gm hm f4 => ?_)
  rw [nI_clamp (by omega), nI_1, ← hlen] at hm
  rw [nI_1, ← hlen] at f4
  have ho2 : m_o (m_u V 4 (.int (nI (l ++ [b]).length))) (m_u F 1 (upd (F 1) l.length b)) out := ⟨ho.1, ho.2⟩
  generalize hL : l ++ [b] = L at hm f4 hl2 hb hlen ho2 ⊢
  generalize hV2 : m_u V 4 (.int (nI L.length)) = V2 at hm f4 ho2 ⊢
  generalize hF2 : m_u F 1 (upd (F 1) l.length b) = F2 at hm ho2 ⊢
  have hl3 : m_l (F2 1) L := by rw [← hF2]; exact hl2
  have h87 : ∀ c : Bool, c = z_comp L → q_X G mX7_ask (q_R mX7_ask 0 0) (q_FN G (fun o h' => if z_comp L then m_answer h0 B V2 F2 L out (z_judge L) o h' else if L.length = 400 then m_answer h0 B V2 F2 L out none o h' else o = none ∧ k_m h0 h' B V2 F2) 0 0) 87 [(0, .ref (B 0)), (1, .int b)] [.int (z_b c)] gm 0 0 := by
    intro c hc
    refine x_istore_n 2 dX7_ask_87 rfl (by decide) rfl ?_
    refine x_iload_n 2 dX7_ask_88 rfl (by first | rfl | assumption) ?_
    cases c with
    | true =>
      rw [← hc]
      refine x_if_ne 102 dX7_ask_89 (by decide) (fun _ => ?_) (fun z => absurd z (show ¬ z_b true = 0 by decide))
      refine x_aload_n 0 dX7_ask_102 rfl (by first | rfl | assumption) ?_
      refine x_iload_n 2 dX7_ask_103 rfl (by first | rfl | assumption) ?_
      refine cl_X7_ask_104 (sm_answerT hm f4 hl3 (by omega) hc.symm ho2 hn) hm.1 (Nat.le_of_ble_eq_true rfl) ⟨Nat.le_of_ble_eq_true rfl, Nat.le_of_ble_eq_true rfl⟩ (fun r g hq => ?_)
      have hr := hq.ret
      subst hr
      refine x_vret rfl dX7_ask_107 (by decide) (by decide) ?_
      exact hq
    | false =>
      rw [← hc]
      refine x_if_ne 102 dX7_ask_89 (by decide) (fun z => absurd (show z_b false = 0 from rfl) z) (fun _ => ?_)
      refine x_aload_n 0 dX7_ask_92 rfl (by first | rfl | assumption) ?_
      refine gf_X7_ask_198 dX7_ask_93 hm.1 (congrArg some f4) ?_
      refine x_sipush 400 dX7_ask_96 (by decide) ?_
      by_cases h400 : L.length = 400
      · refine x_icmp_ne 107 dX7_ask_99 (by decide) (fun z => absurd (by rw [h400]; rfl) z) (fun _ => ?_)
        refine x_aload_n 0 dX7_ask_102 rfl (by first | rfl | assumption) ?_
        refine x_iload_n 2 dX7_ask_103 rfl (by first | rfl | assumption) ?_
        refine cl_X7_ask_104 (sm_answerF (l := L) hm ho2 hn) hm.1 (Nat.le_of_ble_eq_true rfl) ⟨Nat.le_of_ble_eq_true rfl, Nat.le_of_ble_eq_true rfl⟩ (fun r g hq => ?_)
        have hr := hq.ret
        subst hr
        refine x_vret rfl dX7_ask_107 (by decide) (by decide) ?_
        show if L.length = 400 then _ else _
        rw [if_pos h400]
        exact hq
      · refine x_icmp_ne 107 dX7_ask_99 (by decide) (fun _ => ?_) (fun z => absurd z (fun z => h400 ((nI_eq (b := 400) (by omega) (by omega)).mp z)))
        refine x_vret rfl dX7_ask_107 (by decide) (by decide) ?_
        show if L.length = 400 then _ else _
        rw [if_neg h400]
        exact ⟨rfl, hm⟩
  have h86 : z_comp L = false → q_X G mX7_ask (q_R mX7_ask 0 0) (q_FN G (fun o h' => if z_comp L then m_answer h0 B V2 F2 L out (z_judge L) o h' else if L.length = 400 then m_answer h0 B V2 F2 L out none o h' else o = none ∧ k_m h0 h' B V2 F2) 0 0) 86 [(0, .ref (B 0)), (1, .int b)] [] gm 0 0 := by
    intro hc
    refine x_iconst 0 dX7_ask_86 (by decide) ?_
    exact h87 false hc.symm
  have hN2 : L.length ≤ 400 := by omega
  refine x_aload_n 0 dX7_ask_20 rfl (by first | rfl | assumption) ?_
  refine gf_X7_ask_198 dX7_ask_21 hm.1 (congrArg some f4) ?_
  refine x_iconst 3 dX7_ask_24 (by decide) ?_
  by_cases c0 : 4 ≤ L.length
  · refine x_icmp_le 86 dX7_ask_25 (by decide) (fun z => absurd z (nI_ge (b := L.length) (a := 3) (by omega) (by omega))) (fun _ => ?_)
    have ez : z_comp L = ((decide (L.getD (L.length - 4) 0 = 13) && decide (L.getD (L.length - 3) 0 = 10)) && (decide (L.getD (L.length - 2) 0 = 13) && decide (b = 10))) := by
      unfold z_comp z_eol
      rw [decide_eq_true c0, Bool.true_and, show L.length - 4 + 1 = L.length - 3 by omega, show L.length - 2 + 1 = l.length by omega, hb]
    have s4 : nI L.length - 4 = nI (L.length - 4) := pk_sub (b := 4) (by omega)
    have s3 : nI L.length - 3 = nI (L.length - 3) := pk_sub (b := 3) (by omega)
    have s2 : nI L.length - 2 = nI (L.length - 2) := pk_sub (b := 2) (by omega)
    have u4 : vp_in (nI L.length - 4) 400 := by rw [s4]; exact vp_in_nI (by omega) (by omega)
    have u3 : vp_in (nI L.length - 3) 400 := by rw [s3]; exact vp_in_nI (by omega) (by omega)
    have u2 : vp_in (nI L.length - 2) 400 := by rw [s2]; exact vp_in_nI (by omega) (by omega)
    refine x_aload_n 0 dX7_ask_28 rfl (by first | rfl | assumption) ?_
    refine gf_X7_ask_7 dX7_ask_29 hm.1 (congrArg some hm.r3) ?_
    refine x_aload_n 0 dX7_ask_32 rfl (by first | rfl | assumption) ?_
    refine gf_X7_ask_198 dX7_ask_33 hm.1 (congrArg some f4) ?_
    refine x_iconst 4 dX7_ask_36 (by decide) ?_
    refine x_isub dX7_ask_37 ?_
    refine x_iald dX7_ask_38 (by first | exact hm.a1 | exact hm.a2 | exact hm.a3 | exact hm.a4 | exact hm.a5 | exact hm.a6 | exact hm.a7 | exact hm.a8 | exact hm.a9 | exact hm.a10 | exact hm.a11 | exact hm.a12 | exact hm.a13 | exact hm.a14 | exact hm.a15) (by assumption) ?_
    refine x_bipush 13 dX7_ask_39 (by decide) ?_
    rw [s4, m_get hl3 (by omega) hN2]
    by_cases c1 : L.getD (L.length - 4) 0 = 13
    · refine x_icmp_ne 86 dX7_ask_41 (by decide) (fun z => absurd c1 z) (fun _ => ?_)
      refine x_aload_n 0 dX7_ask_44 rfl (by first | rfl | assumption) ?_
      refine gf_X7_ask_7 dX7_ask_45 hm.1 (congrArg some hm.r3) ?_
      refine x_aload_n 0 dX7_ask_48 rfl (by first | rfl | assumption) ?_
      refine gf_X7_ask_198 dX7_ask_49 hm.1 (congrArg some f4) ?_
      refine x_iconst 3 dX7_ask_52 (by decide) ?_
      refine x_isub dX7_ask_53 ?_
      refine x_iald dX7_ask_54 (by first | exact hm.a1 | exact hm.a2 | exact hm.a3 | exact hm.a4 | exact hm.a5 | exact hm.a6 | exact hm.a7 | exact hm.a8 | exact hm.a9 | exact hm.a10 | exact hm.a11 | exact hm.a12 | exact hm.a13 | exact hm.a14 | exact hm.a15) (by assumption) ?_
      refine x_bipush 10 dX7_ask_55 (by decide) ?_
      rw [s3, m_get hl3 (by omega) hN2]
      by_cases c2 : L.getD (L.length - 3) 0 = 10
      · refine x_icmp_ne 86 dX7_ask_57 (by decide) (fun z => absurd c2 z) (fun _ => ?_)
        refine x_aload_n 0 dX7_ask_60 rfl (by first | rfl | assumption) ?_
        refine gf_X7_ask_7 dX7_ask_61 hm.1 (congrArg some hm.r3) ?_
        refine x_aload_n 0 dX7_ask_64 rfl (by first | rfl | assumption) ?_
        refine gf_X7_ask_198 dX7_ask_65 hm.1 (congrArg some f4) ?_
        refine x_iconst 2 dX7_ask_68 (by decide) ?_
        refine x_isub dX7_ask_69 ?_
        refine x_iald dX7_ask_70 (by first | exact hm.a1 | exact hm.a2 | exact hm.a3 | exact hm.a4 | exact hm.a5 | exact hm.a6 | exact hm.a7 | exact hm.a8 | exact hm.a9 | exact hm.a10 | exact hm.a11 | exact hm.a12 | exact hm.a13 | exact hm.a14 | exact hm.a15) (by assumption) ?_
        refine x_bipush 13 dX7_ask_71 (by decide) ?_
        rw [s2, m_get hl3 (by omega) hN2]
        by_cases c3 : L.getD (L.length - 2) 0 = 13
        · refine x_icmp_ne 86 dX7_ask_73 (by decide) (fun z => absurd c3 z) (fun _ => ?_)
          refine x_iload_n 1 dX7_ask_76 rfl (by first | rfl | assumption) ?_
          refine x_bipush 10 dX7_ask_77 (by decide) ?_
          by_cases c4 : b = 10
          · refine x_icmp_ne 86 dX7_ask_79 (by decide) (fun z => absurd c4 z) (fun _ => ?_)
            refine x_iconst 1 dX7_ask_82 (by decide) ?_
            refine x_goto 87 dX7_ask_83 (by decide) ?_
            exact h87 true (by rw [ez, decide_eq_true c1, decide_eq_true c2, decide_eq_true c3, decide_eq_true c4]; rfl)
          · refine x_icmp_ne 86 dX7_ask_79 (by decide) (fun _ => ?_) (fun z => absurd z c4)
            exact h86 (by rw [ez, decide_eq_false c4]; simp only [Bool.and_false])
        · refine x_icmp_ne 86 dX7_ask_73 (by decide) (fun _ => ?_) (fun z => absurd z c3)
          exact h86 (by rw [ez, decide_eq_false c3]; simp only [Bool.false_and, Bool.and_false])
      · refine x_icmp_ne 86 dX7_ask_57 (by decide) (fun _ => ?_) (fun z => absurd z c2)
        exact h86 (by rw [ez, decide_eq_false c2]; simp only [Bool.false_and, Bool.and_false])
    · refine x_icmp_ne 86 dX7_ask_41 (by decide) (fun _ => ?_) (fun z => absurd z c1)
      exact h86 (by rw [ez, decide_eq_false c1]; simp only [Bool.false_and])
  · refine x_icmp_le 86 dX7_ask_25 (by decide) (fun _ => ?_) (fun z => absurd (nI_le (b := 3) (by omega) (by omega)) z)
    exact h86 (by unfold z_comp; rw [decide_eq_false c0, Bool.false_and])
end MdlO
