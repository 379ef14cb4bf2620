/-! the reference: lines of the request -/
section MdlE
variable {G : q_G} {h0 h : q_H} {B : Nat → Nat} {V : Nat → Value} {F : Nat → Nat → Int32} {l : List Int32}
theorem sm_isFirst (hm : k_m h0 h B V F) (hl : m_l (F 1) l) (hN : l.length ≤ 400) {t : Nat} (ht : t ≤ l.length) : q_SP G mX7_isFirst [.ref (B 0), .int (nI t)] h 0 0 (fun o h' => o = some (.int (z_b (z_first l t))) ∧ h' = h) := by
  have loop : ∀ (n k : Nat) (x : Int32) (s : Bool), x = nI k → k + n = t - 9 ∨ (n = 0 ∧ t - 9 ≤ k) → 4 ≤ k → k ≤ 1000 → q_X G mX7_isFirst (q_R mX7_isFirst 0 0) (q_FN G (fun o h' => o = some (.int (z_b (s && z_in33 l n k))) ∧ h' = h) 0 0) 179 [(0, .ref (B 0)), (1, .int (nI t)), (2, .int (z_b s)), (3, .int x)] [] h 0 0 := by
    intro n
    induction n with
    | zero =>
      intro k x s hx hk h4 hk1
      subst hx
      refine x_iload_n 3 dX7_isFirst_179 rfl (by first | rfl | assumption) ?_
      refine x_iload_n 1 dX7_isFirst_180 rfl (by first | rfl | assumption) ?_
      refine x_bipush 9 dX7_isFirst_181 (by decide) ?_
      refine x_isub dX7_isFirst_183 ?_
      have hc : nI t - 9 ≤ nI k := by
        rw [i32_le, show (9 : Int32) = nI 9 from rfl, pk_sub_toInt (by omega) (by omega), nI_toInt (by omega)]
        omega
      refine x_icmp_ge 225 dX7_isFirst_184 (by decide) (fun _ => ?_) (fun z => absurd hc z)
      refine x_iload_n 2 dX7_isFirst_225 rfl (by first | rfl | assumption) ?_
      refine x_iret rfl (by first | rfl | assumption | exact z_nb _) dX7_isFirst_226 (by decide) (by decide) ?_
      exact ⟨by rw [show z_in33 l 0 k = true from rfl, Bool.and_true], rfl⟩
    | succ n ih =>
      intro k x s hx hk h4 hk1
      subst hx
      have v0 : vp_in (nI k) 400 := vp_in_nI (by omega) (by omega)
      have e9 : nI t - 9 = nI (t - 9) := pk_sub (b := 9) (by omega)
      refine x_iload_n 3 dX7_isFirst_179 rfl (by first | rfl | assumption) ?_
      refine x_iload_n 1 dX7_isFirst_180 rfl (by first | rfl | assumption) ?_
      refine x_bipush 9 dX7_isFirst_181 (by decide) ?_
      refine x_isub dX7_isFirst_183 ?_
      rw [e9]
      refine x_icmp_ge 225 dX7_isFirst_184 (by decide) (fun z => absurd z (nI_ge (by omega) (by omega))) (fun _ => ?_)
      refine x_iload_n 2 dX7_isFirst_187 rfl (by first | rfl | assumption) ?_
      have stepF : q_X G mX7_isFirst (q_R mX7_isFirst 0 0) (q_FN G (fun o h' => o = some (.int (z_b false)) ∧ h' = h) 0 0) 217 [(0, .ref (B 0)), (1, .int (nI t)), (2, .int (z_b s)), (3, .int (nI k))] [] h 0 0 := by
        refine x_iconst 0 dX7_isFirst_217 (by decide) ?_
        refine x_istore_n 2 dX7_isFirst_218 rfl (by decide) rfl ?_
        refine x_iinc 1 dX7_isFirst_219 (by first | rfl | assumption) (by decide) (by decide) rfl ?_
        refine x_goto 179 dX7_isFirst_222 (by decide) ?_
        have := ih (k + 1) _ false (nI_1 k) (by omega) (by omega) (by omega)
        exact this
      cases s with
      | false =>
        refine x_if_eq 217 dX7_isFirst_188 (by decide) (fun _ => ?_) (fun z => absurd (show z_b false = 0 from rfl) z)
        exact stepF
      | true =>
        refine x_if_eq 217 dX7_isFirst_188 (by decide) (fun z => absurd z (show ¬ z_b true = 0 by decide)) (fun _ => ?_)
        refine x_aload_n 0 dX7_isFirst_191 rfl (by first | rfl | assumption) ?_
        refine gf_X7_isFirst_7 dX7_isFirst_192 hm.1 (congrArg some hm.r3) ?_
        refine x_iload_n 3 dX7_isFirst_195 rfl (by first | rfl | assumption) ?_
        refine x_iald dX7_isFirst_196 (by first | exact hm.a1 | exact hm.a2 | exact hm.a3 | exact hm.a4 | exact hm.a5 | exact hm.a6 | exact hm.a7 | exact hm.a8 | exact hm.a9 | exact hm.a10 | exact hm.a11 | exact hm.a12 | exact hm.a13 | exact hm.a14 | exact hm.a15) (by assumption) ?_
        refine x_bipush 32 dX7_isFirst_197 (by decide) ?_
        rw [m_get hl (by omega) hN]
        have ez : (true && z_in33 l (n + 1) k) = ((!decide (l.getD k 0 < 33) && decide (l.getD k 0 ≤ 126)) && z_in33 l n (k + 1)) := rfl
        by_cases c1 : l.getD k 0 ≤ 32
        · refine x_icmp_le 217 dX7_isFirst_199 (by decide) (fun _ => ?_) (fun z => absurd c1 z)
          rw [ez, show (decide (l.getD k 0 < 33)) = true from decide_eq_true (by rw [i32_lt]; rw [i32_le] at c1; have a1 : (33 : Int32).toInt = 33 := rfl; have a2 : (32 : Int32).toInt = 32 := rfl; omega)]
          exact stepF
        · refine x_icmp_le 217 dX7_isFirst_199 (by decide) (fun z => absurd z c1) (fun _ => ?_)
          refine x_aload_n 0 dX7_isFirst_202 rfl (by first | rfl | assumption) ?_
          refine gf_X7_isFirst_7 dX7_isFirst_203 hm.1 (congrArg some hm.r3) ?_
          refine x_iload_n 3 dX7_isFirst_206 rfl (by first | rfl | assumption) ?_
          refine x_iald dX7_isFirst_207 (by first | exact hm.a1 | exact hm.a2 | exact hm.a3 | exact hm.a4 | exact hm.a5 | exact hm.a6 | exact hm.a7 | exact hm.a8 | exact hm.a9 | exact hm.a10 | exact hm.a11 | exact hm.a12 | exact hm.a13 | exact hm.a14 | exact hm.a15) (by assumption) ?_
          refine x_bipush 127 dX7_isFirst_208 (by decide) ?_
          rw [m_get hl (by omega) hN]
          by_cases c2 : 127 ≤ l.getD k 0
          · refine x_icmp_ge 217 dX7_isFirst_210 (by decide) (fun _ => ?_) (fun z => absurd c2 z)
            rw [ez, show (decide (l.getD k 0 ≤ 126)) = false from decide_eq_false (by rw [i32_le]; rw [i32_le] at c2; have a1 : (127 : Int32).toInt = 127 := rfl; have a2 : (126 : Int32).toInt = 126 := rfl; omega), Bool.and_false]
            exact stepF
          · refine x_icmp_ge 217 dX7_isFirst_210 (by decide) (fun z => absurd z c2) (fun _ => ?_)
            refine x_iconst 1 dX7_isFirst_213 (by decide) ?_
            refine x_goto 218 dX7_isFirst_214 (by decide) ?_
            refine x_istore_n 2 dX7_isFirst_218 rfl (by decide) rfl ?_
            refine x_iinc 1 dX7_isFirst_219 (by first | rfl | assumption) (by decide) (by decide) rfl ?_
            refine x_goto 179 dX7_isFirst_222 (by decide) ?_
            rw [ez, show (decide (l.getD k 0 < 33)) = false from decide_eq_false (by rw [i32_lt]; rw [i32_le] at c1; have a1 : (33 : Int32).toInt = 33 := rfl; have a2 : (32 : Int32).toInt = 32 := rfl; omega), show (decide (l.getD k 0 ≤ 126)) = true from decide_eq_true (by rw [i32_le]; rw [i32_le] at c2; have a1 : (127 : Int32).toInt = 127 := rfl; have a2 : (126 : Int32).toInt = 126 := rfl; omega)]
            exact ih (k + 1) _ true (nI_1 k) (by omega) (by omega) (by omega)
  have h175 : z_first l t = false → q_X G mX7_isFirst (q_R mX7_isFirst 0 0) (q_FN G (fun o h' => o = some (.int (z_b (z_first l t))) ∧ h' = h) 0 0) 175 [(0, .ref (B 0)), (1, .int (nI t))] [] h 0 0 := by
    intro hz
    rw [hz]
    refine x_iconst 0 dX7_isFirst_175 (by decide) ?_
    refine x_istore_n 2 dX7_isFirst_176 rfl (by decide) rfl ?_
    refine x_iconst 4 dX7_isFirst_177 (by decide) ?_
    refine x_istore_n 3 dX7_isFirst_178 rfl (by decide) rfl ?_
    by_cases h13 : 13 ≤ t
    · exact loop (t - 13) 4 _ false rfl (Or.inl (by omega)) (by omega) (by omega)
    · exact loop 0 4 _ false rfl (Or.inr ⟨rfl, by omega⟩) (by omega) (by omega)
  refine q_enter (M := mX7_isFirst) (by decide +kernel) rfl (Nat.le_of_ble_eq_true rfl) ?_
  refine x_iload_n 1 dX7_isFirst_0 rfl (by first | rfl | assumption) ?_
  refine x_bipush 13 dX7_isFirst_1 (by decide) ?_
  by_cases h13 : 13 < t
  · refine x_icmp_le 175 dX7_isFirst_3 (by decide) (fun z => absurd z (nI_ge (b := t) (a := 13) h13 (by omega))) (fun _ => ?_)
    have w0 : vp_in 0 400 := vp_in_nI (n := 0) (by omega) (by omega)
    have w1 : vp_in 1 400 := vp_in_nI (n := 1) (by omega) (by omega)
    have w2 : vp_in 2 400 := vp_in_nI (n := 2) (by omega) (by omega)
    have w3 : vp_in 3 400 := vp_in_nI (n := 3) (by omega) (by omega)
    have r0 : F 1 (0 : Int32).toNatClampNeg = l.getD 0 0 := m_get (k := 0) hl (by omega) hN
    have r1 : F 1 (1 : Int32).toNatClampNeg = l.getD 1 0 := m_get (k := 1) hl (by omega) hN
    have r2 : F 1 (2 : Int32).toNatClampNeg = l.getD 2 0 := m_get (k := 2) hl (by omega) hN
    have r3 : F 1 (3 : Int32).toNatClampNeg = l.getD 3 0 := m_get (k := 3) hl (by omega) hN
    have s9 : nI t - 9 = nI (t - 9) := pk_sub (b := 9) (by omega)
    have u9 : vp_in (nI t - 9) 400 := by rw [s9]; exact vp_in_nI (by omega) (by omega)
    have q9 : F 1 (nI t - 9).toNatClampNeg = l.getD (t - 9) 0 := by rw [s9]; exact m_get hl (by omega) hN
    have s8 : nI t - 8 = nI (t - 8) := pk_sub (b := 8) (by omega)
    have u8 : vp_in (nI t - 8) 400 := by rw [s8]; exact vp_in_nI (by omega) (by omega)
    have q8 : F 1 (nI t - 8).toNatClampNeg = l.getD (t - 8) 0 := by rw [s8]; exact m_get hl (by omega) hN
    have s7 : nI t - 7 = nI (t - 7) := pk_sub (b := 7) (by omega)
    have u7 : vp_in (nI t - 7) 400 := by rw [s7]; exact vp_in_nI (by omega) (by omega)
    have q7 : F 1 (nI t - 7).toNatClampNeg = l.getD (t - 7) 0 := by rw [s7]; exact m_get hl (by omega) hN
    have s6 : nI t - 6 = nI (t - 6) := pk_sub (b := 6) (by omega)
    have u6 : vp_in (nI t - 6) 400 := by rw [s6]; exact vp_in_nI (by omega) (by omega)
    have q6 : F 1 (nI t - 6).toNatClampNeg = l.getD (t - 6) 0 := by rw [s6]; exact m_get hl (by omega) hN
    have s5 : nI t - 5 = nI (t - 5) := pk_sub (b := 5) (by omega)
    have u5 : vp_in (nI t - 5) 400 := by rw [s5]; exact vp_in_nI (by omega) (by omega)
    have q5 : F 1 (nI t - 5).toNatClampNeg = l.getD (t - 5) 0 := by rw [s5]; exact m_get hl (by omega) hN
    have s4 : nI t - 4 = nI (t - 4) := pk_sub (b := 4) (by omega)
    have u4 : vp_in (nI t - 4) 400 := by rw [s4]; exact vp_in_nI (by omega) (by omega)
    have q4 : F 1 (nI t - 4).toNatClampNeg = l.getD (t - 4) 0 := by rw [s4]; exact m_get hl (by omega) hN
    have s3 : nI t - 3 = nI (t - 3) := pk_sub (b := 3) (by omega)
    have u3 : vp_in (nI t - 3) 400 := by rw [s3]; exact vp_in_nI (by omega) (by omega)
    have q3 : F 1 (nI t - 3).toNatClampNeg = l.getD (t - 3) 0 := by rw [s3]; exact m_get hl (by omega) hN
    have s2 : nI t - 2 = nI (t - 2) := pk_sub (b := 2) (by omega)
    have u2 : vp_in (nI t - 2) 400 := by rw [s2]; exact vp_in_nI (by omega) (by omega)
    have q2 : F 1 (nI t - 2).toNatClampNeg = l.getD (t - 2) 0 := by rw [s2]; exact m_get hl (by omega) hN
    have s1 : nI t - 1 = nI (t - 1) := pk_sub (b := 1) (by omega)
    have u1 : vp_in (nI t - 1) 400 := by rw [s1]; exact vp_in_nI (by omega) (by omega)
    have q1 : F 1 (nI t - 1).toNatClampNeg = l.getD (t - 1) 0 := by rw [s1]; exact m_get hl (by omega) hN
    have ez : z_first l t = ((decide (F 1 (0 : Int32).toNatClampNeg = 71) && (decide (F 1 (1 : Int32).toNatClampNeg = 69) && (decide (F 1 (2 : Int32).toNatClampNeg = 84) && (decide (F 1 (3 : Int32).toNatClampNeg = 32) && true)))) && ((decide (F 1 (nI t - 9).toNatClampNeg = 32) && (decide (F 1 (nI t - 8).toNatClampNeg = 72) && (decide (F 1 (nI t - 7).toNatClampNeg = 84) && (decide (F 1 (nI t - 6).toNatClampNeg = 84) && (decide (F 1 (nI t - 5).toNatClampNeg = 80) && (decide (F 1 (nI t - 4).toNatClampNeg = 47) && (decide (F 1 (nI t - 3).toNatClampNeg = 49) && (decide (F 1 (nI t - 2).toNatClampNeg = 46) && (decide (F 1 (nI t - 1).toNatClampNeg = 49) && true))))))))) && z_in33 l (t - 13) 4)) := by
      rw [r0, r1, r2, r3, q9, q8, q7, q6, q5, q4, q3, q2, q1]
      rw [show t - 8 = t - 9 + 1 by omega, show t - 7 = t - 9 + 1 + 1 by omega, show t - 6 = t - 9 + 1 + 1 + 1 by omega, show t - 5 = t - 9 + 1 + 1 + 1 + 1 by omega, show t - 4 = t - 9 + 1 + 1 + 1 + 1 + 1 by omega, show t - 3 = t - 9 + 1 + 1 + 1 + 1 + 1 + 1 by omega, show t - 2 = t - 9 + 1 + 1 + 1 + 1 + 1 + 1 + 1 by omega, show t - 1 = t - 9 + 1 + 1 + 1 + 1 + 1 + 1 + 1 + 1 by omega]
      unfold z_first
      rw [decide_eq_true h13, Bool.true_and]
      rfl
    have h171 : z_first l t = z_in33 l (t - 13) 4 → q_X G mX7_isFirst (q_R mX7_isFirst 0 0) (q_FN G (fun o h' => o = some (.int (z_b (z_first l t))) ∧ h' = h) 0 0) 171 [(0, .ref (B 0)), (1, .int (nI t))] [] h 0 0 := by
      intro hz
      rw [hz, ← Bool.true_and (z_in33 l (t - 13) 4)]
      refine x_iconst 1 dX7_isFirst_171 (by decide) ?_
      refine x_goto 176 dX7_isFirst_172 (by decide) ?_
      refine x_istore_n 2 dX7_isFirst_176 rfl (by decide) rfl ?_
      refine x_iconst 4 dX7_isFirst_177 (by decide) ?_
      refine x_istore_n 3 dX7_isFirst_178 rfl (by decide) rfl ?_
      exact loop (t - 13) 4 _ true rfl (Or.inl (by omega)) (by omega) (by omega)
    refine x_aload_n 0 dX7_isFirst_6 rfl (by first | rfl | assumption) ?_
    refine gf_X7_isFirst_7 dX7_isFirst_7 hm.1 (congrArg some hm.r3) ?_
    refine x_iconst 0 dX7_isFirst_10 (by decide) ?_
    refine x_iald dX7_isFirst_11 (by first | exact hm.a1 | exact hm.a2 | exact hm.a3 | exact hm.a4 | exact hm.a5 | exact hm.a6 | exact hm.a7 | exact hm.a8 | exact hm.a9 | exact hm.a10 | exact hm.a11 | exact hm.a12 | exact hm.a13 | exact hm.a14 | exact hm.a15) (by assumption) ?_
    refine x_bipush 71 dX7_isFirst_12 (by decide) ?_
    refine x_icmp_ne 175 dX7_isFirst_14 (by decide) (fun c14 => ?_) (fun c14 => ?_)
    · first | exact h175 (by rw [ez, decide_eq_false c14]; simp only [Bool.false_and, Bool.and_false]) | exact h175 (by rw [ez, decide_eq_false c25]; simp only [Bool.false_and, Bool.and_false]) | exact h175 (by rw [ez, decide_eq_false c36]; simp only [Bool.false_and, Bool.and_false]) | exact h175 (by rw [ez, decide_eq_false c47]; simp only [Bool.false_and, Bool.and_false]) | exact h175 (by rw [ez, decide_eq_false c61]; simp only [Bool.false_and, Bool.and_false]) | exact h175 (by rw [ez, decide_eq_false c75]; simp only [Bool.false_and, Bool.and_false]) | exact h175 (by rw [ez, decide_eq_false c89]; simp only [Bool.false_and, Bool.and_false]) | exact h175 (by rw [ez, decide_eq_false c103]; simp only [Bool.false_and, Bool.and_false]) | exact h175 (by rw [ez, decide_eq_false c116]; simp only [Bool.false_and, Bool.and_false]) | exact h175 (by rw [ez, decide_eq_false c129]; simp only [Bool.false_and, Bool.and_false]) | exact h175 (by rw [ez, decide_eq_false c142]; simp only [Bool.false_and, Bool.and_false]) | exact h175 (by rw [ez, decide_eq_false c155]; simp only [Bool.false_and, Bool.and_false]) | exact h175 (by rw [ez, decide_eq_false c168]; simp only [Bool.false_and, Bool.and_false])
    · refine x_aload_n 0 dX7_isFirst_17 rfl (by first | rfl | assumption) ?_
      refine gf_X7_isFirst_7 dX7_isFirst_18 hm.1 (congrArg some hm.r3) ?_
      refine x_iconst 1 dX7_isFirst_21 (by decide) ?_
      refine x_iald dX7_isFirst_22 (by first | exact hm.a1 | exact hm.a2 | exact hm.a3 | exact hm.a4 | exact hm.a5 | exact hm.a6 | exact hm.a7 | exact hm.a8 | exact hm.a9 | exact hm.a10 | exact hm.a11 | exact hm.a12 | exact hm.a13 | exact hm.a14 | exact hm.a15) (by assumption) ?_
      refine x_bipush 69 dX7_isFirst_23 (by decide) ?_
      refine x_icmp_ne 175 dX7_isFirst_25 (by decide) (fun c25 => ?_) (fun c25 => ?_)
      · first | exact h175 (by rw [ez, decide_eq_false c14]; simp only [Bool.false_and, Bool.and_false]) | exact h175 (by rw [ez, decide_eq_false c25]; simp only [Bool.false_and, Bool.and_false]) | exact h175 (by rw [ez, decide_eq_false c36]; simp only [Bool.false_and, Bool.and_false]) | exact h175 (by rw [ez, decide_eq_false c47]; simp only [Bool.false_and, Bool.and_false]) | exact h175 (by rw [ez, decide_eq_false c61]; simp only [Bool.false_and, Bool.and_false]) | exact h175 (by rw [ez, decide_eq_false c75]; simp only [Bool.false_and, Bool.and_false]) | exact h175 (by rw [ez, decide_eq_false c89]; simp only [Bool.false_and, Bool.and_false]) | exact h175 (by rw [ez, decide_eq_false c103]; simp only [Bool.false_and, Bool.and_false]) | exact h175 (by rw [ez, decide_eq_false c116]; simp only [Bool.false_and, Bool.and_false]) | exact h175 (by rw [ez, decide_eq_false c129]; simp only [Bool.false_and, Bool.and_false]) | exact h175 (by rw [ez, decide_eq_false c142]; simp only [Bool.false_and, Bool.and_false]) | exact h175 (by rw [ez, decide_eq_false c155]; simp only [Bool.false_and, Bool.and_false]) | exact h175 (by rw [ez, decide_eq_false c168]; simp only [Bool.false_and, Bool.and_false])
      · refine x_aload_n 0 dX7_isFirst_28 rfl (by first | rfl | assumption) ?_
        refine gf_X7_isFirst_7 dX7_isFirst_29 hm.1 (congrArg some hm.r3) ?_
        refine x_iconst 2 dX7_isFirst_32 (by decide) ?_
        refine x_iald dX7_isFirst_33 (by first | exact hm.a1 | exact hm.a2 | exact hm.a3 | exact hm.a4 | exact hm.a5 | exact hm.a6 | exact hm.a7 | exact hm.a8 | exact hm.a9 | exact hm.a10 | exact hm.a11 | exact hm.a12 | exact hm.a13 | exact hm.a14 | exact hm.a15) (by assumption) ?_
        refine x_bipush 84 dX7_isFirst_34 (by decide) ?_
        refine x_icmp_ne 175 dX7_isFirst_36 (by decide) (fun c36 => ?_) (fun c36 => ?_)
        · first | exact h175 (by rw [ez, decide_eq_false c14]; simp only [Bool.false_and, Bool.and_false]) | exact h175 (by rw [ez, decide_eq_false c25]; simp only [Bool.false_and, Bool.and_false]) | exact h175 (by rw [ez, decide_eq_false c36]; simp only [Bool.false_and, Bool.and_false]) | exact h175 (by rw [ez, decide_eq_false c47]; simp only [Bool.false_and, Bool.and_false]) | exact h175 (by rw [ez, decide_eq_false c61]; simp only [Bool.false_and, Bool.and_false]) | exact h175 (by rw [ez, decide_eq_false c75]; simp only [Bool.false_and, Bool.and_false]) | exact h175 (by rw [ez, decide_eq_false c89]; simp only [Bool.false_and, Bool.and_false]) | exact h175 (by rw [ez, decide_eq_false c103]; simp only [Bool.false_and, Bool.and_false]) | exact h175 (by rw [ez, decide_eq_false c116]; simp only [Bool.false_and, Bool.and_false]) | exact h175 (by rw [ez, decide_eq_false c129]; simp only [Bool.false_and, Bool.and_false]) | exact h175 (by rw [ez, decide_eq_false c142]; simp only [Bool.false_and, Bool.and_false]) | exact h175 (by rw [ez, decide_eq_false c155]; simp only [Bool.false_and, Bool.and_false]) | exact h175 (by rw [ez, decide_eq_false c168]; simp only [Bool.false_and, Bool.and_false])
        · refine x_aload_n 0 dX7_isFirst_39 rfl (by first | rfl | assumption) ?_
          refine gf_X7_isFirst_7 dX7_isFirst_40 hm.1 (congrArg some hm.r3) ?_
          refine x_iconst 3 dX7_isFirst_43 (by decide) ?_
          refine x_iald dX7_isFirst_44 (by first | exact hm.a1 | exact hm.a2 | exact hm.a3 | exact hm.a4 | exact hm.a5 | exact hm.a6 | exact hm.a7 | exact hm.a8 | exact hm.a9 | exact hm.a10 | exact hm.a11 | exact hm.a12 | exact hm.a13 | exact hm.a14 | exact hm.a15) (by assumption) ?_
          refine x_bipush 32 dX7_isFirst_45 (by decide) ?_
          refine x_icmp_ne 175 dX7_isFirst_47 (by decide) (fun c47 => ?_) (fun c47 => ?_)
          · first | exact h175 (by rw [ez, decide_eq_false c14]; simp only [Bool.false_and, Bool.and_false]) | exact h175 (by rw [ez, decide_eq_false c25]; simp only [Bool.false_and, Bool.and_false]) | exact h175 (by rw [ez, decide_eq_false c36]; simp only [Bool.false_and, Bool.and_false]) | exact h175 (by rw [ez, decide_eq_false c47]; simp only [Bool.false_and, Bool.and_false]) | exact h175 (by rw [ez, decide_eq_false c61]; simp only [Bool.false_and, Bool.and_false]) | exact h175 (by rw [ez, decide_eq_false c75]; simp only [Bool.false_and, Bool.and_false]) | exact h175 (by rw [ez, decide_eq_false c89]; simp only [Bool.false_and, Bool.and_false]) | exact h175 (by rw [ez, decide_eq_false c103]; simp only [Bool.false_and, Bool.and_false]) | exact h175 (by rw [ez, decide_eq_false c116]; simp only [Bool.false_and, Bool.and_false]) | exact h175 (by rw [ez, decide_eq_false c129]; simp only [Bool.false_and, Bool.and_false]) | exact h175 (by rw [ez, decide_eq_false c142]; simp only [Bool.false_and, Bool.and_false]) | exact h175 (by rw [ez, decide_eq_false c155]; simp only [Bool.false_and, Bool.and_false]) | exact h175 (by rw [ez, decide_eq_false c168]; simp only [Bool.false_and, Bool.and_false])
          · refine x_aload_n 0 dX7_isFirst_50 rfl (by first | rfl | assumption) ?_
            refine gf_X7_isFirst_7 dX7_isFirst_51 hm.1 (congrArg some hm.r3) ?_
            refine x_iload_n 1 dX7_isFirst_54 rfl (by first | rfl | assumption) ?_
            refine x_bipush 9 dX7_isFirst_55 (by decide) ?_
            refine x_isub dX7_isFirst_57 ?_
            refine x_iald dX7_isFirst_58 (by first | exact hm.a1 | exact hm.a2 | exact hm.a3 | exact hm.a4 | exact hm.a5 | exact hm.a6 | exact hm.a7 | exact hm.a8 | exact hm.a9 | exact hm.a10 | exact hm.a11 | exact hm.a12 | exact hm.a13 | exact hm.a14 | exact hm.a15) (by assumption) ?_
            refine x_bipush 32 dX7_isFirst_59 (by decide) ?_
            refine x_icmp_ne 175 dX7_isFirst_61 (by decide) (fun c61 => ?_) (fun c61 => ?_)
            · first | exact h175 (by rw [ez, decide_eq_false c14]; simp only [Bool.false_and, Bool.and_false]) | exact h175 (by rw [ez, decide_eq_false c25]; simp only [Bool.false_and, Bool.and_false]) | exact h175 (by rw [ez, decide_eq_false c36]; simp only [Bool.false_and, Bool.and_false]) | exact h175 (by rw [ez, decide_eq_false c47]; simp only [Bool.false_and, Bool.and_false]) | exact h175 (by rw [ez, decide_eq_false c61]; simp only [Bool.false_and, Bool.and_false]) | exact h175 (by rw [ez, decide_eq_false c75]; simp only [Bool.false_and, Bool.and_false]) | exact h175 (by rw [ez, decide_eq_false c89]; simp only [Bool.false_and, Bool.and_false]) | exact h175 (by rw [ez, decide_eq_false c103]; simp only [Bool.false_and, Bool.and_false]) | exact h175 (by rw [ez, decide_eq_false c116]; simp only [Bool.false_and, Bool.and_false]) | exact h175 (by rw [ez, decide_eq_false c129]; simp only [Bool.false_and, Bool.and_false]) | exact h175 (by rw [ez, decide_eq_false c142]; simp only [Bool.false_and, Bool.and_false]) | exact h175 (by rw [ez, decide_eq_false c155]; simp only [Bool.false_and, Bool.and_false]) | exact h175 (by rw [ez, decide_eq_false c168]; simp only [Bool.false_and, Bool.and_false])
            · refine x_aload_n 0 dX7_isFirst_64 rfl (by first | rfl | assumption) ?_
              refine gf_X7_isFirst_7 dX7_isFirst_65 hm.1 (congrArg some hm.r3) ?_
              refine x_iload_n 1 dX7_isFirst_68 rfl (by first | rfl | assumption) ?_
              refine x_bipush 8 dX7_isFirst_69 (by decide) ?_
              refine x_isub dX7_isFirst_71 ?_
              refine x_iald dX7_isFirst_72 (by first | exact hm.a1 | exact hm.a2 | exact hm.a3 | exact hm.a4 | exact hm.a5 | exact hm.a6 | exact hm.a7 | exact hm.a8 | exact hm.a9 | exact hm.a10 | exact hm.a11 | exact hm.a12 | exact hm.a13 | exact hm.a14 | exact hm.a15) (by assumption) ?_
              refine x_bipush 72 dX7_isFirst_73 (by decide) ?_
              refine x_icmp_ne 175 dX7_isFirst_75 (by decide) (fun c75 => ?_) (fun c75 => ?_)
              · first | exact h175 (by rw [ez, decide_eq_false c14]; simp only [Bool.false_and, Bool.and_false]) | exact h175 (by rw [ez, decide_eq_false c25]; simp only [Bool.false_and, Bool.and_false]) | exact h175 (by rw [ez, decide_eq_false c36]; simp only [Bool.false_and, Bool.and_false]) | exact h175 (by rw [ez, decide_eq_false c47]; simp only [Bool.false_and, Bool.and_false]) | exact h175 (by rw [ez, decide_eq_false c61]; simp only [Bool.false_and, Bool.and_false]) | exact h175 (by rw [ez, decide_eq_false c75]; simp only [Bool.false_and, Bool.and_false]) | exact h175 (by rw [ez, decide_eq_false c89]; simp only [Bool.false_and, Bool.and_false]) | exact h175 (by rw [ez, decide_eq_false c103]; simp only [Bool.false_and, Bool.and_false]) | exact h175 (by rw [ez, decide_eq_false c116]; simp only [Bool.false_and, Bool.and_false]) | exact h175 (by rw [ez, decide_eq_false c129]; simp only [Bool.false_and, Bool.and_false]) | exact h175 (by rw [ez, decide_eq_false c142]; simp only [Bool.false_and, Bool.and_false]) | exact h175 (by rw [ez, decide_eq_false c155]; simp only [Bool.false_and, Bool.and_false]) | exact h175 (by rw [ez, decide_eq_false c168]; simp only [Bool.false_and, Bool.and_false])
              · refine x_aload_n 0 dX7_isFirst_78 rfl (by first | rfl | assumption) ?_
                refine gf_X7_isFirst_7 dX7_isFirst_79 hm.1 (congrArg some hm.r3) ?_
                refine x_iload_n 1 dX7_isFirst_82 rfl (by first | rfl | assumption) ?_
                refine x_bipush 7 dX7_isFirst_83 (by decide) ?_
                refine x_isub dX7_isFirst_85 ?_
                refine x_iald dX7_isFirst_86 (by first | exact hm.a1 | exact hm.a2 | exact hm.a3 | exact hm.a4 | exact hm.a5 | exact hm.a6 | exact hm.a7 | exact hm.a8 | exact hm.a9 | exact hm.a10 | exact hm.a11 | exact hm.a12 | exact hm.a13 | exact hm.a14 | exact hm.a15) (by assumption) ?_
                refine x_bipush 84 dX7_isFirst_87 (by decide) ?_
                refine x_icmp_ne 175 dX7_isFirst_89 (by decide) (fun c89 => ?_) (fun c89 => ?_)
                · first | exact h175 (by rw [ez, decide_eq_false c14]; simp only [Bool.false_and, Bool.and_false]) | exact h175 (by rw [ez, decide_eq_false c25]; simp only [Bool.false_and, Bool.and_false]) | exact h175 (by rw [ez, decide_eq_false c36]; simp only [Bool.false_and, Bool.and_false]) | exact h175 (by rw [ez, decide_eq_false c47]; simp only [Bool.false_and, Bool.and_false]) | exact h175 (by rw [ez, decide_eq_false c61]; simp only [Bool.false_and, Bool.and_false]) | exact h175 (by rw [ez, decide_eq_false c75]; simp only [Bool.false_and, Bool.and_false]) | exact h175 (by rw [ez, decide_eq_false c89]; simp only [Bool.false_and, Bool.and_false]) | exact h175 (by rw [ez, decide_eq_false c103]; simp only [Bool.false_and, Bool.and_false]) | exact h175 (by rw [ez, decide_eq_false c116]; simp only [Bool.false_and, Bool.and_false]) | exact h175 (by rw [ez, decide_eq_false c129]; simp only [Bool.false_and, Bool.and_false]) | exact h175 (by rw [ez, decide_eq_false c142]; simp only [Bool.false_and, Bool.and_false]) | exact h175 (by rw [ez, decide_eq_false c155]; simp only [Bool.false_and, Bool.and_false]) | exact h175 (by rw [ez, decide_eq_false c168]; simp only [Bool.false_and, Bool.and_false])
                · refine x_aload_n 0 dX7_isFirst_92 rfl (by first | rfl | assumption) ?_
                  refine gf_X7_isFirst_7 dX7_isFirst_93 hm.1 (congrArg some hm.r3) ?_
                  refine x_iload_n 1 dX7_isFirst_96 rfl (by first | rfl | assumption) ?_
                  refine x_bipush 6 dX7_isFirst_97 (by decide) ?_
                  refine x_isub dX7_isFirst_99 ?_
                  refine x_iald dX7_isFirst_100 (by first | exact hm.a1 | exact hm.a2 | exact hm.a3 | exact hm.a4 | exact hm.a5 | exact hm.a6 | exact hm.a7 | exact hm.a8 | exact hm.a9 | exact hm.a10 | exact hm.a11 | exact hm.a12 | exact hm.a13 | exact hm.a14 | exact hm.a15) (by assumption) ?_
                  refine x_bipush 84 dX7_isFirst_101 (by decide) ?_
                  refine x_icmp_ne 175 dX7_isFirst_103 (by decide) (fun c103 => ?_) (fun c103 => ?_)
                  · first | exact h175 (by rw [ez, decide_eq_false c14]; simp only [Bool.false_and, Bool.and_false]) | exact h175 (by rw [ez, decide_eq_false c25]; simp only [Bool.false_and, Bool.and_false]) | exact h175 (by rw [ez, decide_eq_false c36]; simp only [Bool.false_and, Bool.and_false]) | exact h175 (by rw [ez, decide_eq_false c47]; simp only [Bool.false_and, Bool.and_false]) | exact h175 (by rw [ez, decide_eq_false c61]; simp only [Bool.false_and, Bool.and_false]) | exact h175 (by rw [ez, decide_eq_false c75]; simp only [Bool.false_and, Bool.and_false]) | exact h175 (by rw [ez, decide_eq_false c89]; simp only [Bool.false_and, Bool.and_false]) | exact h175 (by rw [ez, decide_eq_false c103]; simp only [Bool.false_and, Bool.and_false]) | exact h175 (by rw [ez, decide_eq_false c116]; simp only [Bool.false_and, Bool.and_false]) | exact h175 (by rw [ez, decide_eq_false c129]; simp only [Bool.false_and, Bool.and_false]) | exact h175 (by rw [ez, decide_eq_false c142]; simp only [Bool.false_and, Bool.and_false]) | exact h175 (by rw [ez, decide_eq_false c155]; simp only [Bool.false_and, Bool.and_false]) | exact h175 (by rw [ez, decide_eq_false c168]; simp only [Bool.false_and, Bool.and_false])
                  · refine x_aload_n 0 dX7_isFirst_106 rfl (by first | rfl | assumption) ?_
                    refine gf_X7_isFirst_7 dX7_isFirst_107 hm.1 (congrArg some hm.r3) ?_
                    refine x_iload_n 1 dX7_isFirst_110 rfl (by first | rfl | assumption) ?_
                    refine x_iconst 5 dX7_isFirst_111 (by decide) ?_
                    refine x_isub dX7_isFirst_112 ?_
                    refine x_iald dX7_isFirst_113 (by first | exact hm.a1 | exact hm.a2 | exact hm.a3 | exact hm.a4 | exact hm.a5 | exact hm.a6 | exact hm.a7 | exact hm.a8 | exact hm.a9 | exact hm.a10 | exact hm.a11 | exact hm.a12 | exact hm.a13 | exact hm.a14 | exact hm.a15) (by assumption) ?_
                    refine x_bipush 80 dX7_isFirst_114 (by decide) ?_
                    refine x_icmp_ne 175 dX7_isFirst_116 (by decide) (fun c116 => ?_) (fun c116 => ?_)
                    · first | exact h175 (by rw [ez, decide_eq_false c14]; simp only [Bool.false_and, Bool.and_false]) | exact h175 (by rw [ez, decide_eq_false c25]; simp only [Bool.false_and, Bool.and_false]) | exact h175 (by rw [ez, decide_eq_false c36]; simp only [Bool.false_and, Bool.and_false]) | exact h175 (by rw [ez, decide_eq_false c47]; simp only [Bool.false_and, Bool.and_false]) | exact h175 (by rw [ez, decide_eq_false c61]; simp only [Bool.false_and, Bool.and_false]) | exact h175 (by rw [ez, decide_eq_false c75]; simp only [Bool.false_and, Bool.and_false]) | exact h175 (by rw [ez, decide_eq_false c89]; simp only [Bool.false_and, Bool.and_false]) | exact h175 (by rw [ez, decide_eq_false c103]; simp only [Bool.false_and, Bool.and_false]) | exact h175 (by rw [ez, decide_eq_false c116]; simp only [Bool.false_and, Bool.and_false]) | exact h175 (by rw [ez, decide_eq_false c129]; simp only [Bool.false_and, Bool.and_false]) | exact h175 (by rw [ez, decide_eq_false c142]; simp only [Bool.false_and, Bool.and_false]) | exact h175 (by rw [ez, decide_eq_false c155]; simp only [Bool.false_and, Bool.and_false]) | exact h175 (by rw [ez, decide_eq_false c168]; simp only [Bool.false_and, Bool.and_false])
                    · refine x_aload_n 0 dX7_isFirst_119 rfl (by first | rfl | assumption) ?_
                      refine gf_X7_isFirst_7 dX7_isFirst_120 hm.1 (congrArg some hm.r3) ?_
                      refine x_iload_n 1 dX7_isFirst_123 rfl (by first | rfl | assumption) ?_
                      refine x_iconst 4 dX7_isFirst_124 (by decide) ?_
                      refine x_isub dX7_isFirst_125 ?_
                      refine x_iald dX7_isFirst_126 (by first | exact hm.a1 | exact hm.a2 | exact hm.a3 | exact hm.a4 | exact hm.a5 | exact hm.a6 | exact hm.a7 | exact hm.a8 | exact hm.a9 | exact hm.a10 | exact hm.a11 | exact hm.a12 | exact hm.a13 | exact hm.a14 | exact hm.a15) (by assumption) ?_
                      refine x_bipush 47 dX7_isFirst_127 (by decide) ?_
                      refine x_icmp_ne 175 dX7_isFirst_129 (by decide) (fun c129 => ?_) (fun c129 => ?_)
                      · first | exact h175 (by rw [ez, decide_eq_false c14]; simp only [Bool.false_and, Bool.and_false]) | exact h175 (by rw [ez, decide_eq_false c25]; simp only [Bool.false_and, Bool.and_false]) | exact h175 (by rw [ez, decide_eq_false c36]; simp only [Bool.false_and, Bool.and_false]) | exact h175 (by rw [ez, decide_eq_false c47]; simp only [Bool.false_and, Bool.and_false]) | exact h175 (by rw [ez, decide_eq_false c61]; simp only [Bool.false_and, Bool.and_false]) | exact h175 (by rw [ez, decide_eq_false c75]; simp only [Bool.false_and, Bool.and_false]) | exact h175 (by rw [ez, decide_eq_false c89]; simp only [Bool.false_and, Bool.and_false]) | exact h175 (by rw [ez, decide_eq_false c103]; simp only [Bool.false_and, Bool.and_false]) | exact h175 (by rw [ez, decide_eq_false c116]; simp only [Bool.false_and, Bool.and_false]) | exact h175 (by rw [ez, decide_eq_false c129]; simp only [Bool.false_and, Bool.and_false]) | exact h175 (by rw [ez, decide_eq_false c142]; simp only [Bool.false_and, Bool.and_false]) | exact h175 (by rw [ez, decide_eq_false c155]; simp only [Bool.false_and, Bool.and_false]) | exact h175 (by rw [ez, decide_eq_false c168]; simp only [Bool.false_and, Bool.and_false])
                      · refine x_aload_n 0 dX7_isFirst_132 rfl (by first | rfl | assumption) ?_
                        refine gf_X7_isFirst_7 dX7_isFirst_133 hm.1 (congrArg some hm.r3) ?_
                        refine x_iload_n 1 dX7_isFirst_136 rfl (by first | rfl | assumption) ?_
                        refine x_iconst 3 dX7_isFirst_137 (by decide) ?_
                        refine x_isub dX7_isFirst_138 ?_
                        refine x_iald dX7_isFirst_139 (by first | exact hm.a1 | exact hm.a2 | exact hm.a3 | exact hm.a4 | exact hm.a5 | exact hm.a6 | exact hm.a7 | exact hm.a8 | exact hm.a9 | exact hm.a10 | exact hm.a11 | exact hm.a12 | exact hm.a13 | exact hm.a14 | exact hm.a15) (by assumption) ?_
                        refine x_bipush 49 dX7_isFirst_140 (by decide) ?_
                        refine x_icmp_ne 175 dX7_isFirst_142 (by decide) (fun c142 => ?_) (fun c142 => ?_)
                        · first | exact h175 (by rw [ez, decide_eq_false c14]; simp only [Bool.false_and, Bool.and_false]) | exact h175 (by rw [ez, decide_eq_false c25]; simp only [Bool.false_and, Bool.and_false]) | exact h175 (by rw [ez, decide_eq_false c36]; simp only [Bool.false_and, Bool.and_false]) | exact h175 (by rw [ez, decide_eq_false c47]; simp only [Bool.false_and, Bool.and_false]) | exact h175 (by rw [ez, decide_eq_false c61]; simp only [Bool.false_and, Bool.and_false]) | exact h175 (by rw [ez, decide_eq_false c75]; simp only [Bool.false_and, Bool.and_false]) | exact h175 (by rw [ez, decide_eq_false c89]; simp only [Bool.false_and, Bool.and_false]) | exact h175 (by rw [ez, decide_eq_false c103]; simp only [Bool.false_and, Bool.and_false]) | exact h175 (by rw [ez, decide_eq_false c116]; simp only [Bool.false_and, Bool.and_false]) | exact h175 (by rw [ez, decide_eq_false c129]; simp only [Bool.false_and, Bool.and_false]) | exact h175 (by rw [ez, decide_eq_false c142]; simp only [Bool.false_and, Bool.and_false]) | exact h175 (by rw [ez, decide_eq_false c155]; simp only [Bool.false_and, Bool.and_false]) | exact h175 (by rw [ez, decide_eq_false c168]; simp only [Bool.false_and, Bool.and_false])
                        · refine x_aload_n 0 dX7_isFirst_145 rfl (by first | rfl | assumption) ?_
                          refine gf_X7_isFirst_7 dX7_isFirst_146 hm.1 (congrArg some hm.r3) ?_
                          refine x_iload_n 1 dX7_isFirst_149 rfl (by first | rfl | assumption) ?_
                          refine x_iconst 2 dX7_isFirst_150 (by decide) ?_
                          refine x_isub dX7_isFirst_151 ?_
                          refine x_iald dX7_isFirst_152 (by first | exact hm.a1 | exact hm.a2 | exact hm.a3 | exact hm.a4 | exact hm.a5 | exact hm.a6 | exact hm.a7 | exact hm.a8 | exact hm.a9 | exact hm.a10 | exact hm.a11 | exact hm.a12 | exact hm.a13 | exact hm.a14 | exact hm.a15) (by assumption) ?_
                          refine x_bipush 46 dX7_isFirst_153 (by decide) ?_
                          refine x_icmp_ne 175 dX7_isFirst_155 (by decide) (fun c155 => ?_) (fun c155 => ?_)
                          · first | exact h175 (by rw [ez, decide_eq_false c14]; simp only [Bool.false_and, Bool.and_false]) | exact h175 (by rw [ez, decide_eq_false c25]; simp only [Bool.false_and, Bool.and_false]) | exact h175 (by rw [ez, decide_eq_false c36]; simp only [Bool.false_and, Bool.and_false]) | exact h175 (by rw [ez, decide_eq_false c47]; simp only [Bool.false_and, Bool.and_false]) | exact h175 (by rw [ez, decide_eq_false c61]; simp only [Bool.false_and, Bool.and_false]) | exact h175 (by rw [ez, decide_eq_false c75]; simp only [Bool.false_and, Bool.and_false]) | exact h175 (by rw [ez, decide_eq_false c89]; simp only [Bool.false_and, Bool.and_false]) | exact h175 (by rw [ez, decide_eq_false c103]; simp only [Bool.false_and, Bool.and_false]) | exact h175 (by rw [ez, decide_eq_false c116]; simp only [Bool.false_and, Bool.and_false]) | exact h175 (by rw [ez, decide_eq_false c129]; simp only [Bool.false_and, Bool.and_false]) | exact h175 (by rw [ez, decide_eq_false c142]; simp only [Bool.false_and, Bool.and_false]) | exact h175 (by rw [ez, decide_eq_false c155]; simp only [Bool.false_and, Bool.and_false]) | exact h175 (by rw [ez, decide_eq_false c168]; simp only [Bool.false_and, Bool.and_false])
                          · refine x_aload_n 0 dX7_isFirst_158 rfl (by first | rfl | assumption) ?_
                            refine gf_X7_isFirst_7 dX7_isFirst_159 hm.1 (congrArg some hm.r3) ?_
                            refine x_iload_n 1 dX7_isFirst_162 rfl (by first | rfl | assumption) ?_
                            refine x_iconst 1 dX7_isFirst_163 (by decide) ?_
                            refine x_isub dX7_isFirst_164 ?_
                            refine x_iald dX7_isFirst_165 (by first | exact hm.a1 | exact hm.a2 | exact hm.a3 | exact hm.a4 | exact hm.a5 | exact hm.a6 | exact hm.a7 | exact hm.a8 | exact hm.a9 | exact hm.a10 | exact hm.a11 | exact hm.a12 | exact hm.a13 | exact hm.a14 | exact hm.a15) (by assumption) ?_
                            refine x_bipush 49 dX7_isFirst_166 (by decide) ?_
                            refine x_icmp_ne 175 dX7_isFirst_168 (by decide) (fun c168 => ?_) (fun c168 => ?_)
                            · first | exact h175 (by rw [ez, decide_eq_false c14]; simp only [Bool.false_and, Bool.and_false]) | exact h175 (by rw [ez, decide_eq_false c25]; simp only [Bool.false_and, Bool.and_false]) | exact h175 (by rw [ez, decide_eq_false c36]; simp only [Bool.false_and, Bool.and_false]) | exact h175 (by rw [ez, decide_eq_false c47]; simp only [Bool.false_and, Bool.and_false]) | exact h175 (by rw [ez, decide_eq_false c61]; simp only [Bool.false_and, Bool.and_false]) | exact h175 (by rw [ez, decide_eq_false c75]; simp only [Bool.false_and, Bool.and_false]) | exact h175 (by rw [ez, decide_eq_false c89]; simp only [Bool.false_and, Bool.and_false]) | exact h175 (by rw [ez, decide_eq_false c103]; simp only [Bool.false_and, Bool.and_false]) | exact h175 (by rw [ez, decide_eq_false c116]; simp only [Bool.false_and, Bool.and_false]) | exact h175 (by rw [ez, decide_eq_false c129]; simp only [Bool.false_and, Bool.and_false]) | exact h175 (by rw [ez, decide_eq_false c142]; simp only [Bool.false_and, Bool.and_false]) | exact h175 (by rw [ez, decide_eq_false c155]; simp only [Bool.false_and, Bool.and_false]) | exact h175 (by rw [ez, decide_eq_false c168]; simp only [Bool.false_and, Bool.and_false])
                            · exact h171 (by rw [ez, decide_eq_true c14, decide_eq_true c25, decide_eq_true c36, decide_eq_true c47, decide_eq_true c61, decide_eq_true c75, decide_eq_true c89, decide_eq_true c103, decide_eq_true c116, decide_eq_true c129, decide_eq_true c142, decide_eq_true c155, decide_eq_true c168]; simp only [Bool.true_and, Bool.and_true])
  · refine x_icmp_le 175 dX7_isFirst_3 (by decide) (fun _ => ?_) (fun z => absurd (nI_le (b := 13) (by omega) (by omega)) z)
    exact h175 (by unfold z_first; rw [decide_eq_false h13]; rfl)
end MdlE
