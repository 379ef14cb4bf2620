/-! the reference: is it a request? -/
section MdlH
variable {G : q_G} {h0 h : q_H} {B : Nat → Nat} {V : Nat → Value} {F : Nat → Nat → Int32} {l : List Int32}
theorem m_fd.mono {K K' : Nat} {Fd : z_Fd} (hd : m_fd l K F Fd) (hK : K ≤ K') : m_fd l K' F Fd := fun n hn => ⟨(hd n hn).1, by have := (hd n hn).2.1; omega, (hd n hn).2.2⟩
/-- what isRequest leaves -/
def m_rq (G : q_G) (h0 : q_H) (B : Nat → Nat) (V : Nat → Value) (F : Nat → Nat → Int32) (l : List Int32) (r : Option z_Fd) : q_Q := fun o h' => o = some (.int (z_b (match r with | none => false | some Fd => z_due l Fd))) ∧ ∃ F', k_m h0 h' B V F' ∧ (∀ j, (j ≠ 2 ∧ j ≠ 3) ∧ j ≠ 4 → F' j = F j) ∧ ∀ Fd, r = some Fd → m_fd l 1000 F' Fd
theorem sm_due {Fd : z_Fd} {h1 : q_H} {F1 : Nat → Nat → Int32} (hm : k_m h0 h1 B V F1) (hl : m_l (F1 1) l) (hN : l.length ≤ 400) (hd : m_fd l 1000 F1 Fd) (hj : ∀ j, (j ≠ 2 ∧ j ≠ 3) ∧ j ≠ 4 → F1 j = F j) {x3 x4 x5 y : Int32} : q_X G mX7_isRequest (q_R mX7_isRequest 0 0) (q_FN G (m_rq G h0 B V F l (some Fd)) 0 0) 111 [(0, .ref (B 0)), (1, .int y), (2, .int (z_b true)), (3, .int x3), (4, .int x4), (5, .int x5)] [] h1 0 0 := by
  have h207 : z_due l Fd = false → ∀ b : Bool, q_X G mX7_isRequest (q_R mX7_isRequest 0 0) (q_FN G (m_rq G h0 B V F l (some Fd)) 0 0) 207 [(0, .ref (B 0)), (1, .int y), (2, .int (z_b b)), (3, .int x3), (4, .int x4), (5, .int 5)] [] h1 0 0 := by
    intro hz b
    refine x_iconst 0 dX7_isRequest_207 (by decide) ?_
    refine x_iret rfl (z_nb false) dX7_isRequest_208 (by decide) (by decide) ?_
    exact ⟨by show some (Value.int 0) = some (.int (z_b (z_due l Fd))); rw [hz]; rfl, F1, hm, hj, fun Fd' e => by cases e; exact hd⟩
  have cnt : ∀ n, n < 5 → (F1 2 n = 1 ↔ (Fd n).1 = 1) := fun n hn => by
    have := hd n hn
    rw [this.1]
    exact nI_eq (b := 1) (by have := this.2.1; omega) (by omega)
  have h147 : ∀ b : Bool, b = (decide ((Fd 0).1 = 1) && (decide ((Fd 1).1 = 1) && (decide ((Fd 2).1 = 1) && (decide ((Fd 3).1 = 1) && decide ((Fd 4).1 = 1))))) → q_X G mX7_isRequest (q_R mX7_isRequest 0 0) (q_FN G (m_rq G h0 B V F l (some Fd)) 0 0) 147 [(0, .ref (B 0)), (1, .int y), (2, .int (z_b b)), (3, .int x3), (4, .int x4), (5, .int 5)] [] h1 0 0 := by
    intro b hb
    refine x_iload_n 2 dX7_isRequest_147 rfl (by first | rfl | assumption) ?_
    cases b with
    | false =>
      refine x_if_eq 207 dX7_isRequest_148 (by decide) (fun _ => ?_) (fun z => absurd (show z_b false = 0 from rfl) z)
      exact h207 (by unfold z_due; rw [← hb]; rfl) false
    | true =>
      refine x_if_eq 207 dX7_isRequest_148 (by decide) (fun z => absurd z (show ¬ z_b true = 0 by decide)) (fun _ => ?_)
      have hb2 := hb.symm
      simp only [Bool.and_eq_true, decide_eq_true_eq] at hb2
      obtain ⟨k0, k1, k2, k3, k4⟩ := hb2
      have ez : z_due l Fd = (decide ((Fd 0).2.1 < (Fd 0).2.2) && (z_has l (Fd 1).2.1 (Fd 1).2.2 (z_w 7) && (z_has l (Fd 2).2.1 (Fd 2).2.2 (z_w 3) && z_key l (Fd 3).2.1 (Fd 3).2.2))) := by
        unfold z_due
        rw [← hb, Bool.true_and]
      have d0 := (hd 0 (by decide)).2.2 (by omega)
      have d1 := (hd 1 (by decide)).2.2 (by omega)
      have d2 := (hd 2 (by decide)).2.2 (by omega)
      have d3 := (hd 3 (by decide)).2.2 (by omega)
      have v0 : vp_in 0 5 := vp_in_nI (n := 0) (by omega) (by omega)
      have v3 : vp_in 3 5 := vp_in_nI (n := 3) (by omega) (by omega)
      have q0 : F1 4 (0 : Int32).toNatClampNeg = nI (Fd 0).2.2 := d0.2.1
      have q1 : F1 3 (0 : Int32).toNatClampNeg = nI (Fd 0).2.1 := d0.1
      have q2 : F1 3 (3 : Int32).toNatClampNeg = nI (Fd 3).2.1 := d3.1
      have q3 : F1 4 (3 : Int32).toNatClampNeg = nI (Fd 3).2.2 := d3.2.1
      refine x_aload_n 0 dX7_isRequest_151 rfl (by first | rfl | assumption) ?_
      refine gf_X7_isRequest_19 dX7_isRequest_152 hm.1 (congrArg some hm.r7) ?_
      refine x_iconst 0 dX7_isRequest_155 (by decide) ?_
      refine x_iald dX7_isRequest_156 (by first | exact hm.a1 | exact hm.a2 | exact hm.a3 | exact hm.a4 | exact hm.a5 | exact hm.a6 | exact hm.a7 | exact hm.a8 | exact hm.a9 | exact hm.a10 | exact hm.a11 | exact hm.a12 | exact hm.a13 | exact hm.a14 | exact hm.a15) (by assumption) ?_
      refine x_aload_n 0 dX7_isRequest_157 rfl (by first | rfl | assumption) ?_
      refine gf_X7_isRequest_16 dX7_isRequest_158 hm.1 (congrArg some hm.r6) ?_
      refine x_iconst 0 dX7_isRequest_161 (by decide) ?_
      refine x_iald dX7_isRequest_162 (by first | exact hm.a1 | exact hm.a2 | exact hm.a3 | exact hm.a4 | exact hm.a5 | exact hm.a6 | exact hm.a7 | exact hm.a8 | exact hm.a9 | exact hm.a10 | exact hm.a11 | exact hm.a12 | exact hm.a13 | exact hm.a14 | exact hm.a15) (by assumption) ?_
      rw [q0, q1]
      by_cases c1 : (Fd 0).2.1 < (Fd 0).2.2
      · refine x_icmp_le 207 dX7_isRequest_163 (by decide) (fun z => absurd z (nI_ge c1 (by omega))) (fun _ => ?_)
        refine x_aload_n 0 dX7_isRequest_166 rfl (by first | rfl | assumption) ?_
        refine x_iconst 1 dX7_isRequest_167 (by decide) ?_
        refine x_iconst 5 dX7_isRequest_168 (by decide) ?_
        refine cl_X7_isRequest_169 (sm_hasWord hm hl hN (n := 1) (wh := 5) (by decide) (by decide) d1.1 d1.2.1 d1.2.2.1 d1.2.2.2.1 d1.2.2.2.2) hm.1 (Nat.le_of_ble_eq_true rfl) ⟨Nat.le_of_ble_eq_true rfl, Nat.le_of_ble_eq_true rfl⟩ (fun r g hq => ?_)
        obtain ⟨rfl, hg⟩ := hq
        rw [hg]
        cases c2 : z_has l (Fd 1).2.1 (Fd 1).2.2 (z_w (2 + 5)) with
        | false =>
          refine x_if_eq 207 dX7_isRequest_172 (by decide) (fun _ => ?_) (fun z => absurd (show z_b false = 0 from rfl) z)
          exact h207 (by rw [ez, show z_has l (Fd 1).2.1 (Fd 1).2.2 (z_w 7) = false from c2, Bool.false_and, Bool.and_false]) true
        | true =>
          refine x_if_eq 207 dX7_isRequest_172 (by decide) (fun z => absurd z (show ¬ z_b true = 0 by decide)) (fun _ => ?_)
          refine x_aload_n 0 dX7_isRequest_175 rfl (by first | rfl | assumption) ?_
          refine x_iconst 2 dX7_isRequest_176 (by decide) ?_
          refine x_iconst 1 dX7_isRequest_177 (by decide) ?_
          refine cl_X7_isRequest_178 (sm_hasWord hm hl hN (n := 2) (wh := 1) (by decide) (by decide) d2.1 d2.2.1 d2.2.2.1 d2.2.2.2.1 d2.2.2.2.2) hm.1 (Nat.le_of_ble_eq_true rfl) ⟨Nat.le_of_ble_eq_true rfl, Nat.le_of_ble_eq_true rfl⟩ (fun r g hq => ?_)
          obtain ⟨rfl, hg⟩ := hq
          rw [hg]
          cases c3 : z_has l (Fd 2).2.1 (Fd 2).2.2 (z_w (2 + 1)) with
          | false =>
            refine x_if_eq 207 dX7_isRequest_181 (by decide) (fun _ => ?_) (fun z => absurd (show z_b false = 0 from rfl) z)
            exact h207 (by rw [ez, show z_has l (Fd 2).2.1 (Fd 2).2.2 (z_w 3) = false from c3, Bool.false_and, Bool.and_false, Bool.and_false]) true
          | true =>
            refine x_if_eq 207 dX7_isRequest_181 (by decide) (fun z => absurd z (show ¬ z_b true = 0 by decide)) (fun _ => ?_)
            refine x_aload_n 0 dX7_isRequest_184 rfl (by first | rfl | assumption) ?_
            refine x_aload_n 0 dX7_isRequest_185 rfl (by first | rfl | assumption) ?_
            refine gf_X7_isRequest_16 dX7_isRequest_186 hm.1 (congrArg some hm.r6) ?_
            refine x_iconst 3 dX7_isRequest_189 (by decide) ?_
            refine x_iald dX7_isRequest_190 (by first | exact hm.a1 | exact hm.a2 | exact hm.a3 | exact hm.a4 | exact hm.a5 | exact hm.a6 | exact hm.a7 | exact hm.a8 | exact hm.a9 | exact hm.a10 | exact hm.a11 | exact hm.a12 | exact hm.a13 | exact hm.a14 | exact hm.a15) (by assumption) ?_
            refine x_aload_n 0 dX7_isRequest_191 rfl (by first | rfl | assumption) ?_
            refine gf_X7_isRequest_19 dX7_isRequest_192 hm.1 (congrArg some hm.r7) ?_
            refine x_iconst 3 dX7_isRequest_195 (by decide) ?_
            refine x_iald dX7_isRequest_196 (by first | exact hm.a1 | exact hm.a2 | exact hm.a3 | exact hm.a4 | exact hm.a5 | exact hm.a6 | exact hm.a7 | exact hm.a8 | exact hm.a9 | exact hm.a10 | exact hm.a11 | exact hm.a12 | exact hm.a13 | exact hm.a14 | exact hm.a15) (by assumption) ?_
            rw [q2, q3]
            refine cl_X7_isRequest_197 (sm_isKey hm hl hN d3.2.2.1 d3.2.2.2.1) hm.1 (Nat.le_of_ble_eq_true rfl) ⟨Nat.le_of_ble_eq_true rfl, Nat.le_of_ble_eq_true rfl⟩ (fun r g hq => ?_)
            obtain ⟨rfl, hg⟩ := hq
            rw [hg]
            cases c4 : z_key l (Fd 3).2.1 (Fd 3).2.2 with
            | false =>
              refine x_if_eq 207 dX7_isRequest_200 (by decide) (fun _ => ?_) (fun z => absurd (show z_b false = 0 from rfl) z)
              exact h207 (by rw [ez, c4, Bool.and_false, Bool.and_false, Bool.and_false]) true
            | true =>
              refine x_if_eq 207 dX7_isRequest_200 (by decide) (fun z => absurd z (show ¬ z_b true = 0 by decide)) (fun _ => ?_)
              refine x_iconst 1 dX7_isRequest_203 (by decide) ?_
              refine x_goto 208 dX7_isRequest_204 (by decide) ?_
              refine x_iret rfl (z_nb true) dX7_isRequest_208 (by decide) (by decide) ?_
              have hz : z_due l Fd = true := by
                rw [ez, c4, show z_has l (Fd 2).2.1 (Fd 2).2.2 (z_w 3) = true from c3, show z_has l (Fd 1).2.1 (Fd 1).2.2 (z_w 7) = true from c2, decide_eq_true c1]; rfl
              exact ⟨by show some (Value.int 1) = some (.int (z_b (z_due l Fd))); rw [hz]; rfl, F1, hm, hj, fun Fd' e => by cases e; exact hd⟩
      · refine x_icmp_le 207 dX7_isRequest_163 (by decide) (fun _ => ?_) (fun z => absurd (nI_le (by omega) (by omega)) z)
        exact h207 (by rw [ez, decide_eq_false c1]; rfl) true
  have cstep : ∀ (n : Nat) (b : Bool), n < 5 → (∀ b' : Bool, b' = (b && decide ((Fd n).1 = 1)) → q_X G mX7_isRequest (q_R mX7_isRequest 0 0) (q_FN G (m_rq G h0 B V F l (some Fd)) 0 0) 114 [(0, .ref (B 0)), (1, .int y), (2, .int (z_b b')), (3, .int x3), (4, .int x4), (5, .int (nI (n + 1)))] [] h1 0 0) → q_X G mX7_isRequest (q_R mX7_isRequest 0 0) (q_FN G (m_rq G h0 B V F l (some Fd)) 0 0) 114 [(0, .ref (B 0)), (1, .int y), (2, .int (z_b b)), (3, .int x3), (4, .int x4), (5, .int (nI n))] [] h1 0 0 := by
    intro n b hn kk
    have v0 : vp_in (nI n) 5 := vp_in_nI hn (by omega)
    refine x_iload dX7_isRequest_114 (by first | rfl | assumption) ?_
    refine x_iconst 5 dX7_isRequest_116 (by decide) ?_
    refine x_icmp_ge 147 dX7_isRequest_117 (by decide) (fun z => absurd z (nI_ge (b := 5) hn (by omega))) (fun _ => ?_)
    refine x_iload_n 2 dX7_isRequest_120 rfl (by first | rfl | assumption) ?_
    cases b with
    | false =>
      refine x_if_eq 139 dX7_isRequest_121 (by decide) (fun _ => ?_) (fun z => absurd (show z_b false = 0 from rfl) z)
      refine x_iconst 0 dX7_isRequest_139 (by decide) ?_
      refine x_istore_n 2 dX7_isRequest_140 rfl (by decide) rfl ?_
      refine x_iinc 1 dX7_isRequest_141 (by first | rfl | assumption) (by decide) (by decide) rfl ?_
      rw [nI_1]
      refine x_goto 114 dX7_isRequest_144 (by decide) ?_
      exact kk false rfl
    | true =>
      refine x_if_eq 139 dX7_isRequest_121 (by decide) (fun z => absurd z (show ¬ z_b true = 0 by decide)) (fun _ => ?_)
      refine x_aload_n 0 dX7_isRequest_124 rfl (by first | rfl | assumption) ?_
      refine gf_X7_isRequest_13 dX7_isRequest_125 hm.1 (congrArg some hm.r5) ?_
      refine x_iload dX7_isRequest_128 (by first | rfl | assumption) ?_
      refine x_iald dX7_isRequest_130 (by first | exact hm.a1 | exact hm.a2 | exact hm.a3 | exact hm.a4 | exact hm.a5 | exact hm.a6 | exact hm.a7 | exact hm.a8 | exact hm.a9 | exact hm.a10 | exact hm.a11 | exact hm.a12 | exact hm.a13 | exact hm.a14 | exact hm.a15) (by assumption) ?_
      refine x_iconst 1 dX7_isRequest_131 (by decide) ?_
      rw [nI_clamp (by omega)]
      by_cases c1 : F1 2 n = 1
      · refine x_icmp_ne 139 dX7_isRequest_132 (by decide) (fun z => absurd c1 z) (fun _ => ?_)
        refine x_iconst 1 dX7_isRequest_135 (by decide) ?_
        refine x_goto 140 dX7_isRequest_136 (by decide) ?_
        refine x_istore_n 2 dX7_isRequest_140 rfl (by decide) rfl ?_
        refine x_iinc 1 dX7_isRequest_141 (by first | rfl | assumption) (by decide) (by decide) rfl ?_
        rw [nI_1]
        refine x_goto 114 dX7_isRequest_144 (by decide) ?_
        exact kk true (by rw [decide_eq_true ((cnt n hn).mp c1)]; rfl)
      · refine x_icmp_ne 139 dX7_isRequest_132 (by decide) (fun _ => ?_) (fun z => absurd z c1)
        refine x_iconst 0 dX7_isRequest_139 (by decide) ?_
        refine x_istore_n 2 dX7_isRequest_140 rfl (by decide) rfl ?_
        refine x_iinc 1 dX7_isRequest_141 (by first | rfl | assumption) (by decide) (by decide) rfl ?_
        rw [nI_1]
        refine x_goto 114 dX7_isRequest_144 (by decide) ?_
        exact kk false (by rw [decide_eq_false (fun z => c1 ((cnt n hn).mpr z))]; rfl)
  refine x_iconst 0 dX7_isRequest_111 (by decide) ?_
  refine x_istore dX7_isRequest_112 (by decide) rfl ?_
  refine cstep 0 true (by decide) (fun b0 e0 => ?_)
  refine cstep 1 b0 (by decide) (fun b1 e1 => ?_)
  refine cstep 2 b1 (by decide) (fun b2 e2 => ?_)
  refine cstep 3 b2 (by decide) (fun b3 e3 => ?_)
  refine cstep 4 b3 (by decide) (fun b4 e4 => ?_)
  refine x_iload dX7_isRequest_114 (by first | rfl | assumption) ?_
  refine x_iconst 5 dX7_isRequest_116 (by decide) ?_
  refine x_icmp_ge 147 dX7_isRequest_117 (by decide) (fun _ => ?_) (fun z => absurd (Int32.le_refl _) z)
  refine h147 b4 ?_
  rw [e4, e3, e2, e1, e0]
  simp only [Bool.true_and, Bool.and_assoc]
theorem sm_undue {h1 : q_H} {F1 : Nat → Nat → Int32} (hm : k_m h0 h1 B V F1) (hj : ∀ j, (j ≠ 2 ∧ j ≠ 3) ∧ j ≠ 4 → F1 j = F j) {x3 x4 x5 y : Int32} : q_X G mX7_isRequest (q_R mX7_isRequest 0 0) (q_FN G (m_rq G h0 B V F l none) 0 0) 111 [(0, .ref (B 0)), (1, .int y), (2, .int (z_b false)), (3, .int x3), (4, .int x4), (5, .int x5)] [] h1 0 0 := by
  have loop : ∀ (m n : Nat) (x : Int32), x = nI n → n + m = 5 → q_X G mX7_isRequest (q_R mX7_isRequest 0 0) (q_FN G (m_rq G h0 B V F l none) 0 0) 114 [(0, .ref (B 0)), (1, .int y), (2, .int (z_b false)), (3, .int x3), (4, .int x4), (5, .int x)] [] h1 0 0 := by
    intro m
    induction m with
    | zero =>
      intro n x hx hn
      subst hx
      refine x_iload dX7_isRequest_114 (by first | rfl | assumption) ?_
      refine x_iconst 5 dX7_isRequest_116 (by decide) ?_
      refine x_icmp_ge 147 dX7_isRequest_117 (by decide) (fun _ => ?_) (fun z => absurd (nI_le (a := 5) (by omega) (by omega)) z)
      refine x_iload_n 2 dX7_isRequest_147 rfl (by first | rfl | assumption) ?_
      refine x_if_eq 207 dX7_isRequest_148 (by decide) (fun _ => ?_) (fun z => absurd (show z_b false = 0 from rfl) z)
      refine x_iconst 0 dX7_isRequest_207 (by decide) ?_
      refine x_iret rfl (z_nb false) dX7_isRequest_208 (by decide) (by decide) ?_
      exact ⟨rfl, F1, hm, hj, fun Fd e => by cases e⟩
    | succ m ih =>
      intro n x hx hn
      subst hx
      refine x_iload dX7_isRequest_114 (by first | rfl | assumption) ?_
      refine x_iconst 5 dX7_isRequest_116 (by decide) ?_
      refine x_icmp_ge 147 dX7_isRequest_117 (by decide) (fun z => absurd z (nI_ge (b := 5) (by omega) (by omega))) (fun _ => ?_)
      refine x_iload_n 2 dX7_isRequest_120 rfl (by first | rfl | assumption) ?_
      refine x_if_eq 139 dX7_isRequest_121 (by decide) (fun _ => ?_) (fun z => absurd (show z_b false = 0 from rfl) z)
      refine x_iconst 0 dX7_isRequest_139 (by decide) ?_
      refine x_istore_n 2 dX7_isRequest_140 rfl (by decide) rfl ?_
      refine x_iinc 1 dX7_isRequest_141 (by first | rfl | assumption) (by decide) (by decide) rfl ?_
      refine x_goto 114 dX7_isRequest_144 (by decide) ?_
      exact ih (n + 1) _ (nI_1 n) (by omega)
  refine x_iconst 0 dX7_isRequest_111 (by decide) ?_
  refine x_istore dX7_isRequest_112 (by decide) rfl ?_
  exact loop 5 0 _ rfl rfl
theorem sm_isRequest (hm : k_m h0 h B V F) (hl : m_l (F 1) l) (hN : l.length ≤ 400) (hc : z_comp l = true) : q_SP G mX7_isRequest [.ref (B 0), .int (nI (l.length - 4))] h 0 0 (m_rq G h0 B V F l (z_rl l (l.length - 3) 0 0 (fun _ => (0, 0, 0)))) := by
  have h4 := z_comp_4 hc
  have heol : z_eol l (l.length - 4) = true := by
    unfold z_comp at hc
    rw [Bool.and_eq_true, Bool.and_eq_true] at hc
    exact hc.2.1
  have loopB : ∀ (m i f : Nat) (x y : Int32) (Fd : z_Fd) (h1 : q_H) (F1 : Nat → Nat → Int32), x = nI i → y = nI f → i + m = l.length - 3 → (f ≤ i ∨ (f = i + 1 ∧ l.getD i 0 = 10)) → k_m h0 h1 B V F1 → (∀ j, (j ≠ 2 ∧ j ≠ 3) ∧ j ≠ 4 → F1 j = F j) → m_fd l i F1 Fd →
      q_X G mX7_isRequest (q_R mX7_isRequest 0 0) (q_FN G (m_rq G h0 B V F l (z_rl l m i f Fd)) 0 0) 33 [(0, .ref (B 0)), (1, .int (nI (l.length - 4))), (2, .int (z_b true)), (3, .int (z_b (decide (f = 0)))), (4, .int y), (5, .int x)] [] h1 0 0 := by
    intro m
    induction m with
    | zero =>
      intro i f x y Fd h1 F1 hx hy hi hf hm e1 d1
      subst hx
      subst hy
      refine x_iload dX7_isRequest_33 (by first | rfl | assumption) ?_
      refine x_iload_n 1 dX7_isRequest_35 rfl (by first | rfl | assumption) ?_
      refine x_icmp_gt 111 dX7_isRequest_36 (by decide) (fun _ => ?_) (fun z => absurd (nI_lt (by omega) (by omega)) z)
      exact sm_due hm (by rw [e1 1 (by decide)]; exact hl) hN (d1.mono (by omega)) e1
    | succ m ih =>
      intro i f x y Fd h1 F1 hx hy hi hf hm e1 d1
      subst hx
      subst hy
      have hl1 : m_l (F1 1) l := by rw [e1 1 (by decide)]; exact hl
      refine x_iload dX7_isRequest_33 (by first | rfl | assumption) ?_
      refine x_iload_n 1 dX7_isRequest_35 rfl (by first | rfl | assumption) ?_
      refine x_icmp_gt 111 dX7_isRequest_36 (by decide) (fun z => absurd z (nI_nlt (by omega) (by omega))) (fun _ => ?_)
      refine x_iload_n 2 dX7_isRequest_39 rfl (by first | rfl | assumption) ?_
      refine x_if_eq 111 dX7_isRequest_40 (by decide) (fun z => absurd z (show ¬ z_b true = 0 by decide)) (fun _ => ?_)
      have ez : z_rl l (m + 1) i f Fd = (if z_eol l i then (if (if f = 0 then z_first l i else z_field l f i) then z_rl l m (i + 1) (i + 2) (if f = 0 then Fd else z_keep l f (z_col l (i - f) f) i Fd) else none) else z_rl l m (i + 1) f Fd) := rfl
      have h75 : z_eol l i = true → q_X G mX7_isRequest (q_R mX7_isRequest 0 0) (q_FN G (m_rq G h0 B V F l (z_rl l (m + 1) i f Fd)) 0 0) 75 [(0, .ref (B 0)), (1, .int (nI (l.length - 4))), (2, .int (z_b true)), (3, .int (z_b (decide (f = 0)))), (4, .int (nI f)), (5, .int (nI i))] [] h1 0 0 := by
        intro he
        have he2 := he
        unfold z_eol at he2
        rw [Bool.and_eq_true, decide_eq_true_eq, decide_eq_true_eq] at he2
        have hfi : f ≤ i := by
          rcases hf with hf | hf
          · exact hf
          · rw [hf.2] at he2; exact absurd he2.1 (by decide)
        rw [ez, if_pos he]
        have bad : ∀ (h2 : q_H) (F2 : Nat → Nat → Int32), k_m h0 h2 B V F2 → (∀ j, (j ≠ 2 ∧ j ≠ 3) ∧ j ≠ 4 → F2 j = F j) → q_X G mX7_isRequest (q_R mX7_isRequest 0 0) (q_FN G (m_rq G h0 B V F l none) 0 0) 96 [(0, .ref (B 0)), (1, .int (nI (l.length - 4))), (2, .int (z_b true)), (3, .int (z_b (decide (f = 0)))), (4, .int (nI f)), (5, .int (nI i))] [.int (z_b false)] h2 0 0 := by
          intro h2 F2 hm2 e2
          refine x_istore_n 2 dX7_isRequest_96 rfl (by decide) rfl ?_
          refine x_iconst 0 dX7_isRequest_97 (by decide) ?_
          refine x_istore_n 3 dX7_isRequest_98 rfl (by decide) rfl ?_
          refine x_iload dX7_isRequest_99 (by first | rfl | assumption) ?_
          refine x_iconst 2 dX7_isRequest_101 (by decide) ?_
          refine x_iadd dX7_isRequest_102 ?_
          refine x_istore dX7_isRequest_103 (by decide) rfl ?_
          refine x_iinc 1 dX7_isRequest_105 (by first | rfl | assumption) (by decide) (by decide) rfl ?_
          refine x_goto 33 dX7_isRequest_108 (by decide) ?_
          refine x_iload dX7_isRequest_33 (by first | rfl | assumption) ?_
          refine x_iload_n 1 dX7_isRequest_35 rfl (by first | rfl | assumption) ?_
          refine x_icmp_gt 111 dX7_isRequest_36 (by decide) (fun c36 => ?_) (fun c36 => ?_)
          · exact sm_undue hm2 e2
          · refine x_iload_n 2 dX7_isRequest_39 rfl (by first | rfl | assumption) ?_
            refine x_if_eq 111 dX7_isRequest_40 (by decide) (fun _ => ?_) (fun z => absurd (show z_b false = 0 from rfl) z)
            exact sm_undue hm2 e2
        refine x_iload_n 3 dX7_isRequest_75 rfl (by first | rfl | assumption) ?_
        by_cases f0 : f = 0
        · rw [if_pos f0, if_pos f0, decide_eq_true f0]
          refine x_if_eq 88 dX7_isRequest_76 (by decide) (fun z => absurd z (show ¬ z_b true = 0 by decide)) (fun _ => ?_)
          refine x_aload_n 0 dX7_isRequest_79 rfl (by first | rfl | assumption) ?_
          refine x_iload dX7_isRequest_80 (by first | rfl | assumption) ?_
          refine cl_X7_isRequest_82 (sm_isFirst hm hl1 hN (t := i) (by omega)) hm.1 (Nat.le_of_ble_eq_true rfl) ⟨Nat.le_of_ble_eq_true rfl, Nat.le_of_ble_eq_true rfl⟩ (fun r g hq => ?_)
          obtain ⟨rfl, hg⟩ := hq
          rw [hg]
          refine x_goto 96 dX7_isRequest_85 (by decide) ?_
          cases hz : z_first l i with
          | false =>
            have := bad h1 F1 hm e1
            rw [decide_eq_true f0] at this
            exact this
          | true =>
            refine x_istore_n 2 dX7_isRequest_96 rfl (by decide) rfl ?_
            refine x_iconst 0 dX7_isRequest_97 (by decide) ?_
            refine x_istore_n 3 dX7_isRequest_98 rfl (by decide) rfl ?_
            refine x_iload dX7_isRequest_99 (by first | rfl | assumption) ?_
            refine x_iconst 2 dX7_isRequest_101 (by decide) ?_
            refine x_iadd dX7_isRequest_102 ?_
            rw [show nI i + 2 = nI (i + 2) from nI_add i 2]
            refine x_istore dX7_isRequest_103 (by decide) rfl ?_
            refine x_iinc 1 dX7_isRequest_105 (by first | rfl | assumption) (by decide) (by decide) rfl ?_
            refine x_goto 33 dX7_isRequest_108 (by decide) ?_
            have := ih (i + 1) (i + 2) _ _ Fd h1 F1 (nI_1 i) rfl (by omega) (Or.inr ⟨rfl, he2.2⟩) hm e1 (d1.mono (by omega))
            rw [decide_eq_false (show ¬ i + 2 = 0 by omega)] at this
            exact this
        · rw [if_neg f0, if_neg f0, decide_eq_false f0]
          refine x_if_eq 88 dX7_isRequest_76 (by decide) (fun _ => ?_) (fun z => absurd (show z_b false = 0 from rfl) z)
          refine x_aload_n 0 dX7_isRequest_88 rfl (by first | rfl | assumption) ?_
          refine x_iload dX7_isRequest_89 (by first | rfl | assumption) ?_
          refine x_iload dX7_isRequest_91 (by first | rfl | assumption) ?_
          refine cl_X7_isRequest_93 (sm_takeLine hm hl1 hN (K := i) (by omega) d1 hfi (by omega)) hm.1 (Nat.le_of_ble_eq_true rfl) ⟨Nat.le_of_ble_eq_true rfl, Nat.le_of_ble_eq_true rfl⟩ (fun r g hq => ?_)
          obtain ⟨rfl, F2, hm2, e2, d2⟩ := hq
          have e3 : ∀ j, (j ≠ 2 ∧ j ≠ 3) ∧ j ≠ 4 → F2 j = F j := fun j hj => (e2 j hj).trans (e1 j hj)
          cases hz : z_field l f i with
          | false =>
            have := bad g F2 hm2 e3
            rw [decide_eq_false f0] at this
            exact this
          | true =>
            refine x_istore_n 2 dX7_isRequest_96 rfl (by decide) rfl ?_
            refine x_iconst 0 dX7_isRequest_97 (by decide) ?_
            refine x_istore_n 3 dX7_isRequest_98 rfl (by decide) rfl ?_
            refine x_iload dX7_isRequest_99 (by first | rfl | assumption) ?_
            refine x_iconst 2 dX7_isRequest_101 (by decide) ?_
            refine x_iadd dX7_isRequest_102 ?_
            rw [show nI i + 2 = nI (i + 2) from nI_add i 2]
            refine x_istore dX7_isRequest_103 (by decide) rfl ?_
            refine x_iinc 1 dX7_isRequest_105 (by first | rfl | assumption) (by decide) (by decide) rfl ?_
            refine x_goto 33 dX7_isRequest_108 (by decide) ?_
            have := ih (i + 1) (i + 2) _ _ _ g F2 (nI_1 i) rfl (by omega) (Or.inr ⟨rfl, he2.2⟩) hm2 e3 (d2 hz)
            rw [decide_eq_false (show ¬ i + 2 = 0 by omega)] at this
            exact this
      have h105 : z_eol l i = false → q_X G mX7_isRequest (q_R mX7_isRequest 0 0) (q_FN G (m_rq G h0 B V F l (z_rl l (m + 1) i f Fd)) 0 0) 105 [(0, .ref (B 0)), (1, .int (nI (l.length - 4))), (2, .int (z_b true)), (3, .int (z_b (decide (f = 0)))), (4, .int (nI f)), (5, .int (nI i))] [] h1 0 0 := by
        intro he
        rw [ez, he]
        refine x_iinc 1 dX7_isRequest_105 (by first | rfl | assumption) (by decide) (by decide) rfl ?_
        refine x_goto 33 dX7_isRequest_108 (by decide) ?_
        exact ih (i + 1) f _ _ Fd h1 F1 (nI_1 i) rfl (by omega) (Or.inl (by omega)) hm e1 (d1.mono (by omega))
      refine x_iload dX7_isRequest_43 (by first | rfl | assumption) ?_
      refine x_iload_n 1 dX7_isRequest_45 rfl (by first | rfl | assumption) ?_
      by_cases hit : i = l.length - 4
      · refine x_icmp_eq 75 dX7_isRequest_46 (by decide) (fun _ => ?_) (fun z => absurd (by rw [hit]) z)
        exact h75 (by rw [hit]; exact heol)
      · refine x_icmp_eq 75 dX7_isRequest_46 (by decide) (fun z => absurd z (fun z => hit ((nI_eq (by omega) (by omega)).mp z))) (fun _ => ?_)
        have v0 : vp_in (nI i) 400 := vp_in_nI (by omega) (by omega)
        have v1 : vp_in (nI i + 1) 400 := by rw [nI_1]; exact vp_in_nI (by omega) (by omega)
        refine x_aload_n 0 dX7_isRequest_49 rfl (by first | rfl | assumption) ?_
        refine gf_X7_isRequest_7 dX7_isRequest_50 hm.1 (congrArg some hm.r3) ?_
        refine x_iload dX7_isRequest_53 (by first | rfl | assumption) ?_
        refine x_iald dX7_isRequest_55 (by first | exact hm.a1 | exact hm.a2 | exact hm.a3 | exact hm.a4 | exact hm.a5 | exact hm.a6 | exact hm.a7 | exact hm.a8 | exact hm.a9 | exact hm.a10 | exact hm.a11 | exact hm.a12 | exact hm.a13 | exact hm.a14 | exact hm.a15) (by assumption) ?_
        refine x_bipush 13 dX7_isRequest_56 (by decide) ?_
        rw [m_get hl1 (by omega) hN]
        by_cases c1 : l.getD i 0 = 13
        · refine x_icmp_ne 105 dX7_isRequest_58 (by decide) (fun z => absurd c1 z) (fun _ => ?_)
          refine x_aload_n 0 dX7_isRequest_61 rfl (by first | rfl | assumption) ?_
          refine gf_X7_isRequest_7 dX7_isRequest_62 hm.1 (congrArg some hm.r3) ?_
          refine x_iload dX7_isRequest_65 (by first | rfl | assumption) ?_
          refine x_iconst 1 dX7_isRequest_67 (by decide) ?_
          refine x_iadd dX7_isRequest_68 ?_
          refine x_iald dX7_isRequest_69 (by first | exact hm.a1 | exact hm.a2 | exact hm.a3 | exact hm.a4 | exact hm.a5 | exact hm.a6 | exact hm.a7 | exact hm.a8 | exact hm.a9 | exact hm.a10 | exact hm.a11 | exact hm.a12 | exact hm.a13 | exact hm.a14 | exact hm.a15) (by assumption) ?_
          refine x_bipush 10 dX7_isRequest_70 (by decide) ?_
          rw [nI_1, m_get hl1 (by omega) hN]
          by_cases c2 : l.getD (i + 1) 0 = 10
          · refine x_icmp_ne 105 dX7_isRequest_72 (by decide) (fun z => absurd c2 z) (fun _ => ?_)
            exact h75 (by unfold z_eol; rw [decide_eq_true c1, decide_eq_true c2]; rfl)
          · refine x_icmp_ne 105 dX7_isRequest_72 (by decide) (fun _ => ?_) (fun z => absurd z c2)
            exact h105 (by unfold z_eol; rw [decide_eq_false c2, Bool.and_false])
        · refine x_icmp_ne 105 dX7_isRequest_58 (by decide) (fun _ => ?_) (fun z => absurd z c1)
          exact h105 (by unfold z_eol; rw [decide_eq_false c1, Bool.false_and])
  have loopA : ∀ (m n : Nat) (x : Int32) (h1 : q_H) (F1 : Nat → Nat → Int32), x = nI n → n + m = 5 → k_m h0 h1 B V F1 → (∀ j, (j ≠ 2 ∧ j ≠ 3) ∧ j ≠ 4 → F1 j = F j) → (∀ j, j < n → F1 2 j = 0) →
      q_X G mX7_isRequest (q_R mX7_isRequest 0 0) (q_FN G (m_rq G h0 B V F l (z_rl l (l.length - 3) 0 0 (fun _ => (0, 0, 0)))) 0 0) 10 [(0, .ref (B 0)), (1, .int (nI (l.length - 4))), (2, .int 1), (3, .int 1), (4, .int 0), (5, .int x)] [] h1 0 0 := by
    intro m
    induction m with
    | zero =>
      intro n x h1 F1 hx hn hm e1 hz
      subst hx
      refine x_iload dX7_isRequest_10 (by first | rfl | assumption) ?_
      refine x_iconst 5 dX7_isRequest_12 (by decide) ?_
      refine x_icmp_ge 30 dX7_isRequest_13 (by decide) (fun _ => ?_) (fun z => absurd (nI_le (a := 5) (by omega) (by omega)) z)
      refine x_iconst 0 dX7_isRequest_30 (by decide) ?_
      refine x_istore dX7_isRequest_31 (by decide) rfl ?_
      exact loopB (l.length - 3) 0 0 _ _ (fun _ => (0, 0, 0)) h1 F1 rfl rfl (by omega) (Or.inl (Nat.le_refl _)) hm e1 (fun j hj => ⟨hz j (by omega), Nat.le_refl _, fun z => absurd z (Nat.lt_irrefl 0)⟩)
    | succ m ih =>
      intro n x h1 F1 hx hn hm e1 hz
      subst hx
      have v0 : vp_in (nI n) 5 := vp_in_nI (by omega) (by omega)
      refine x_iload dX7_isRequest_10 (by first | rfl | assumption) ?_
      refine x_iconst 5 dX7_isRequest_12 (by decide) ?_
      refine x_icmp_ge 30 dX7_isRequest_13 (by decide) (fun z => absurd z (nI_ge (b := 5) (by omega) (by omega))) (fun _ => ?_)
      refine x_aload_n 0 dX7_isRequest_16 rfl (by first | rfl | assumption) ?_
      refine gf_X7_isRequest_13 dX7_isRequest_17 hm.1 (congrArg some hm.r5) ?_
      refine x_iload dX7_isRequest_20 (by first | rfl | assumption) ?_
      refine x_iconst 0 dX7_isRequest_22 (by decide) ?_
      refine x_iast dX7_isRequest_23 (by first | exact hm.a1 | exact hm.a2 | exact hm.a3 | exact hm.a4 | exact hm.a5 | exact hm.a6 | exact hm.a7 | exact hm.a8 | exact hm.a9 | exact hm.a10 | exact hm.a11 | exact hm.a12 | exact hm.a13 | exact hm.a14 | exact hm.a15) (by assumption) ?_
      refine x_ga hm (by decide) rfl (fun gm hm => ?_)
      rw [nI_clamp (by omega)] at hm
      refine x_iinc 1 dX7_isRequest_24 (by first | rfl | assumption) (by decide) (by decide) rfl ?_
      refine x_goto 10 dX7_isRequest_27 (by decide) ?_
      refine ih (n + 1) _ _ _ (nI_1 n) (by omega) hm (fun j hj => (m_un hj.1.1).trans (e1 j hj)) (fun j hj => ?_)
      show upd (F1 2) n 0 j = 0
      by_cases hjn : j = n
      · rw [hjn, pk_us]
      · rw [pk_un hjn]; exact hz j (by omega)
  refine q_enter (M := mX7_isRequest) (by decide +kernel) rfl (Nat.le_of_ble_eq_true rfl) ?_
  refine x_iconst 1 dX7_isRequest_0 (by decide) ?_
  refine x_istore_n 2 dX7_isRequest_1 rfl (by decide) rfl ?_
  refine x_iconst 1 dX7_isRequest_2 (by decide) ?_
  refine x_istore_n 3 dX7_isRequest_3 rfl (by decide) rfl ?_
  refine x_iconst 0 dX7_isRequest_4 (by decide) ?_
  refine x_istore dX7_isRequest_5 (by decide) rfl ?_
  refine x_iconst 0 dX7_isRequest_7 (by decide) ?_
  refine x_istore dX7_isRequest_8 (by decide) rfl ?_
  exact loopA 5 0 _ h F rfl rfl hm (fun _ _ => rfl) (fun j hj => absurd hj (Nat.not_lt_zero _))
end MdlH
