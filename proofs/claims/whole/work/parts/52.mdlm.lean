/-! the reference: answer -/
section MdlN
variable {G : q_G} {h0 h : q_H} {B : Nat → Nat} {V : Nat → Value} {F : Nat → Nat → Int32} {l out : List Int32}
def m_answer (h0 : q_H) (B : Nat → Nat) (V : Nat → Value) (F : Nat → Nat → Int32) (l out : List Int32) : Option (Bool × Nat) → q_Q
  | some (true, p) => m_ans h0 B V F 1 (out ++ q_byt.getD 10 [] ++ d_proof ((l.drop p).take 24) ++ q_byt.getD 13 [])
  | some (false, _) => m_ans h0 B V F 3 (out ++ q_byt.getD 14 [])
  | none => m_ans h0 B V F 3 (out ++ q_byt.getD 15 [])
theorem m_small_dig {x d : Int32} (hd : d = 49 ∨ d = 51) : z_small x = d ↔ x = d := by
  unfold z_small
  by_cases h1 : ¬ x < 65 ∧ ¬ 90 < x
  · rw [if_pos h1]
    have a65 : (65 : Int32).toInt = 65 := rfl
    have a90 : (90 : Int32).toInt = 90 := rfl
    rw [i32_lt, i32_lt] at h1
    obtain ⟨j, hj, e⟩ := i32_in (x := x) (n := 90) (by omega) (by omega)
    have hj2 : (nI j).toInt = j := nI_toInt (by omega)
    rw [e, hj2] at h1
    rw [e, show nI j + 32 = nI (j + 32) from nI_add j 32]
    rcases hd with rfl | rfl
    · exact ⟨fun z => absurd ((nI_eq (b := 49) (by omega) (by omega)).mp z) (by omega), fun z => absurd ((nI_eq (b := 49) (by omega) (by omega)).mp z) (by omega)⟩
    · exact ⟨fun z => absurd ((nI_eq (b := 51) (by omega) (by omega)).mp z) (by omega), fun z => absurd ((nI_eq (b := 51) (by omega) (by omega)).mp z) (by omega)⟩
  · rw [if_neg h1]
theorem sm_answerF (hm : k_m h0 h B V F) (ho : m_o V F out) (hn : out.length ≤ 400) : q_SP G mX7_answer [.ref (B 0), .int (z_b false)] h 0 0 (m_answer h0 B V F l out none) := by
  refine q_enter (M := mX7_answer) (by decide +kernel) rfl (Nat.le_of_ble_eq_true rfl) ?_
  refine x_iload_n 1 dX7_answer_0 rfl (by first | rfl | assumption) ?_
  refine x_if_eq 17 dX7_answer_1 (by decide) (fun _ => ?_) (fun z => absurd (show z_b false = 0 from rfl) z)
  exact sm_bad hm rfl (fun _ _ _ => rfl) ho hn
theorem sm_answerT (hm : k_m h0 h B V F) (f4 : V 4 = .int (nI l.length)) (hl : m_l (F 1) l) (hN : l.length ≤ 400) (hc : z_comp l = true) (ho : m_o V F out) (hn : out.length ≤ 400) : q_SP G mX7_answer [.ref (B 0), .int (z_b true)] h 0 0 (m_answer h0 B V F l out (z_judge l)) := by
  have h4 := z_comp_4 hc
  refine q_enter (M := mX7_answer) (by decide +kernel) rfl (Nat.le_of_ble_eq_true rfl) ?_
  refine x_iload_n 1 dX7_answer_0 rfl (by first | rfl | assumption) ?_
  refine x_if_eq 17 dX7_answer_1 (by decide) (fun z => absurd z (show ¬ z_b true = 0 by decide)) (fun _ => ?_)
  refine x_aload_n 0 dX7_answer_4 rfl (by first | rfl | assumption) ?_
  refine x_aload_n 0 dX7_answer_5 rfl (by first | rfl | assumption) ?_
  refine gf_X7_answer_198 dX7_answer_6 hm.1 (congrArg some f4) ?_
  refine x_iconst 4 dX7_answer_9 (by decide) ?_
  refine x_isub dX7_answer_10 ?_
  rw [show nI l.length - 4 = nI (l.length - 4) from pk_sub (b := 4) h4]
  refine cl_X7_answer_11 (sm_isRequest hm hl hN hc) hm.1 (Nat.le_of_ble_eq_true rfl) ⟨Nat.le_of_ble_eq_true rfl, Nat.le_of_ble_eq_true rfl⟩ (fun r g hq => ?_)
  obtain ⟨rfl, F1, hm, e1, d1⟩ := hq
  have eF : ∀ j, 4 < j → j < 13 → F1 j = F j := fun j h5 h13 => e1 j (by omega)
  have ej : z_judge l = match z_rl l (l.length - 3) 0 0 (fun _ => (0, 0, 0)) with
    | none => none
    | some F => if z_due l F then some (z_same l (F 4).2.1 (F 4).2.2 (z_w 9), (F 3).2.1) else none := rfl
  rw [ej]
  generalize z_rl l (l.length - 3) 0 0 (fun _ => (0, 0, 0)) = rr at d1 ⊢
  cases rr with
  | none =>
    refine x_if_ne 54 dX7_answer_14 (by decide) (fun z => absurd (show z_b false = 0 from rfl) z) (fun _ => ?_)
    exact sm_bad hm rfl eF ho hn
  | some Fd =>
    dsimp only
    cases hd : z_due l Fd with
    | false =>
      refine x_if_ne 54 dX7_answer_14 (by decide) (fun z => absurd (show z_b false = 0 from rfl) z) (fun _ => ?_)
      exact sm_bad hm rfl eF ho hn
    | true =>
      rw [if_pos rfl]
      have dd := d1 Fd rfl
      have hd2 := hd
      unfold z_due at hd2
      simp only [Bool.and_eq_true, decide_eq_true_eq] at hd2
      obtain ⟨⟨k0, k1, k2, k3, k4⟩, -, -, -, hkey⟩ := hd2
      have d3 := (dd 3 (by decide)).2.2 (by omega)
      have d4 := (dd 4 (by decide)).2.2 (by omega)
      unfold z_key at hkey
      simp only [Bool.and_eq_true, decide_eq_true_eq] at hkey
      have hp : (Fd 3).2.1 + 24 ≤ l.length := by have := hkey.1; have := d3.2.2.2.1; omega
      have hl1 : m_l (F1 1) l := by rw [e1 1 (by decide)]; exact hl
      have i4 : vp_in 4 5 := vp_in_nI (n := 4) (by omega) (by omega)
      have q4 : F1 4 (4 : Int32).toNatClampNeg = nI (Fd 4).2.2 := d4.2.1
      have q3 : F1 3 (4 : Int32).toNatClampNeg = nI (Fd 4).2.1 := d4.1
      have hle := d4.2.2.1
      have hlen := d4.2.2.2.1
      generalize (Fd 4).2.1 = a at q3 hle ⊢
      generalize (Fd 4).2.2 = b at q4 hle hlen ⊢
      refine x_if_ne 54 dX7_answer_14 (by decide) (fun _ => ?_) (fun z => absurd z (show ¬ z_b true = 0 by decide))
      refine x_aload_n 0 dX7_answer_54 rfl (by first | rfl | assumption) ?_
      refine gf_X7_answer_19 dX7_answer_55 hm.1 (congrArg some hm.r7) ?_
      refine x_iconst 4 dX7_answer_58 (by decide) ?_
      refine x_iald dX7_answer_59 (by first | exact hm.a1 | exact hm.a2 | exact hm.a3 | exact hm.a4 | exact hm.a5 | exact hm.a6 | exact hm.a7 | exact hm.a8 | exact hm.a9 | exact hm.a10 | exact hm.a11 | exact hm.a12 | exact hm.a13 | exact hm.a14 | exact hm.a15) (by assumption) ?_
      refine x_aload_n 0 dX7_answer_60 rfl (by first | rfl | assumption) ?_
      refine gf_X7_answer_16 dX7_answer_61 hm.1 (congrArg some hm.r6) ?_
      refine x_iconst 4 dX7_answer_64 (by decide) ?_
      refine x_iald dX7_answer_65 (by first | exact hm.a1 | exact hm.a2 | exact hm.a3 | exact hm.a4 | exact hm.a5 | exact hm.a6 | exact hm.a7 | exact hm.a8 | exact hm.a9 | exact hm.a10 | exact hm.a11 | exact hm.a12 | exact hm.a13 | exact hm.a14 | exact hm.a15) (by assumption) ?_
      refine x_isub dX7_answer_66 ?_
      refine x_iconst 2 dX7_answer_67 (by decide) ?_
      rw [q3, q4, show nI b - nI a = nI (b - a) from pk_sub hle]
      by_cases c1 : b = a + 2
      · refine x_icmp_ne 105 dX7_answer_68 (by decide) (fun z => absurd (by rw [c1, show a + 2 - a = 2 by omega]; rfl) z) (fun _ => ?_)
        have ez : z_same l a b (z_w 9) = (decide (z_small (l.getD a 0) = 49) && (decide (z_small (l.getD (a + 1) 0) = 51) && true)) := by
          unfold z_same
          rw [decide_eq_true (show b = a + (z_w 9).length from c1), Bool.true_and]
          rfl
        have va : vp_in (nI a) 400 := vp_in_nI (by omega) (by omega)
        have va1 : vp_in (nI a + 1) 400 := by rw [nI_1]; exact vp_in_nI (by omega) (by omega)
        refine x_aload_n 0 dX7_answer_71 rfl (by first | rfl | assumption) ?_
        refine gf_X7_answer_7 dX7_answer_72 hm.1 (congrArg some hm.r3) ?_
        refine x_aload_n 0 dX7_answer_75 rfl (by first | rfl | assumption) ?_
        refine gf_X7_answer_16 dX7_answer_76 hm.1 (congrArg some hm.r6) ?_
        refine x_iconst 4 dX7_answer_79 (by decide) ?_
        refine x_iald dX7_answer_80 (by first | exact hm.a1 | exact hm.a2 | exact hm.a3 | exact hm.a4 | exact hm.a5 | exact hm.a6 | exact hm.a7 | exact hm.a8 | exact hm.a9 | exact hm.a10 | exact hm.a11 | exact hm.a12 | exact hm.a13 | exact hm.a14 | exact hm.a15) (by assumption) ?_
        rw [q3]
        refine x_iald dX7_answer_81 (by first | exact hm.a1 | exact hm.a2 | exact hm.a3 | exact hm.a4 | exact hm.a5 | exact hm.a6 | exact hm.a7 | exact hm.a8 | exact hm.a9 | exact hm.a10 | exact hm.a11 | exact hm.a12 | exact hm.a13 | exact hm.a14 | exact hm.a15) (by assumption) ?_
        refine x_bipush 49 dX7_answer_82 (by decide) ?_
        rw [m_get hl1 (by omega) hN]
        by_cases c2 : l.getD a 0 = 49
        · refine x_icmp_ne 105 dX7_answer_84 (by decide) (fun z => absurd c2 z) (fun _ => ?_)
          refine x_aload_n 0 dX7_answer_87 rfl (by first | rfl | assumption) ?_
          refine gf_X7_answer_7 dX7_answer_88 hm.1 (congrArg some hm.r3) ?_
          refine x_aload_n 0 dX7_answer_91 rfl (by first | rfl | assumption) ?_
          refine gf_X7_answer_16 dX7_answer_92 hm.1 (congrArg some hm.r6) ?_
          refine x_iconst 4 dX7_answer_95 (by decide) ?_
          refine x_iald dX7_answer_96 (by first | exact hm.a1 | exact hm.a2 | exact hm.a3 | exact hm.a4 | exact hm.a5 | exact hm.a6 | exact hm.a7 | exact hm.a8 | exact hm.a9 | exact hm.a10 | exact hm.a11 | exact hm.a12 | exact hm.a13 | exact hm.a14 | exact hm.a15) (by assumption) ?_
          refine x_iconst 1 dX7_answer_97 (by decide) ?_
          refine x_iadd dX7_answer_98 ?_
          rw [q3]
          refine x_iald dX7_answer_99 (by first | exact hm.a1 | exact hm.a2 | exact hm.a3 | exact hm.a4 | exact hm.a5 | exact hm.a6 | exact hm.a7 | exact hm.a8 | exact hm.a9 | exact hm.a10 | exact hm.a11 | exact hm.a12 | exact hm.a13 | exact hm.a14 | exact hm.a15) (by assumption) ?_
          refine x_bipush 51 dX7_answer_100 (by decide) ?_
          rw [nI_1, m_get hl1 (by omega) hN]
          by_cases c3 : l.getD (a + 1) 0 = 51
          · refine x_icmp_eq 181 dX7_answer_102 (by decide) (fun _ => ?_) (fun z => absurd c3 z)
            rw [ez, decide_eq_true ((m_small_dig (Or.inl rfl)).mpr c2), decide_eq_true ((m_small_dig (Or.inr rfl)).mpr c3)]
            exact sm_good hm rfl eF ho hn hl1 hN d3.1 hp
          · refine x_icmp_eq 181 dX7_answer_102 (by decide) (fun z => absurd z c3) (fun _ => ?_)
            rw [ez, decide_eq_false (fun z => c3 ((m_small_dig (Or.inr rfl)).mp z)), Bool.false_and, Bool.and_false]
            exact sm_old hm rfl eF ho hn
        · refine x_icmp_ne 105 dX7_answer_84 (by decide) (fun _ => ?_) (fun z => absurd z c2)
          rw [ez, decide_eq_false (fun z => c2 ((m_small_dig (Or.inl rfl)).mp z)), Bool.false_and]
          exact sm_old hm rfl eF ho hn
      · refine x_icmp_ne 105 dX7_answer_68 (by decide) (fun _ => ?_) (fun z => absurd z (fun z => c1 (by have := (nI_eq (a := b - a) (b := 2) (by omega) (by omega)).mp z; omega)))
        rw [show z_same l a b (z_w 9) = false by unfold z_same; rw [decide_eq_false (show ¬ b = a + (z_w 9).length from c1), Bool.false_and]]
        exact sm_old hm rfl eF ho hn
end MdlN
