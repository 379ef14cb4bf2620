/-! the reference: a line with a name and a value -/
section MdlF
variable {G : q_G} {h0 h : q_H} {B : Nat → Nat} {V : Nat → Value} {F : Nat → Nat → Int32} {l : List Int32}
/-- the rows of lines and values show Fd -/
def m_fe (l : List Int32) (K : Nat) (F : Nat → Nat → Int32) (n : Nat) (e : Nat × Nat × Nat) : Prop := F 2 n = nI e.1 ∧ e.1 ≤ K ∧ (0 < e.1 → F 3 n = nI e.2.1 ∧ F 4 n = nI e.2.2 ∧ e.2.1 ≤ e.2.2 ∧ e.2.2 ≤ l.length ∧ ∀ k, e.2.1 ≤ k → k < e.2.2 → l.getD k 0 ≠ 0)
def m_fd (l : List Int32) (K : Nat) (F : Nat → Nat → Int32) (Fd : z_Fd) : Prop := ∀ n, n < 5 → m_fe l K F n (Fd n)
theorem m_col_le (l : List Int32) : ∀ (n i : Nat), i ≤ z_col l n i ∧ z_col l n i ≤ i + n ∧ ∀ k, i ≤ k → k < z_col l n i → z_ns (l.getD k 0) = true := by
  intro n
  induction n with
  | zero => intro i; exact ⟨Nat.le_refl _, Nat.le_refl _, fun k h1 h2 => absurd h2 (by show ¬ k < i; omega)⟩
  | succ n ih =>
    intro i
    unfold z_col
    cases hb : z_ns (l.getD i 0) with
    | true =>
      rw [if_pos rfl]
      obtain ⟨h1, h2, h3⟩ := ih (i + 1)
      refine ⟨by omega, by omega, fun k hk1 hk2 => ?_⟩
      by_cases hki : k = i
      · rw [hki]; exact hb
      · exact h3 k (by omega) hk2
    | false =>
      rw [if_neg (by decide)]
      exact ⟨Nat.le_refl _, by omega, fun k h1 h2 => absurd h2 (by omega)⟩
theorem z_val_all (l : List Int32) : ∀ (n i : Nat), z_val l n i = true → ∀ k, i ≤ k → k < i + n → l.getD k 0 ≠ 0 := by
  intro n
  induction n with
  | zero => intro i _ k h1 h2; omega
  | succ n ih =>
    intro i hv k h1 h2
    unfold z_val at hv
    rw [Bool.and_eq_true] at hv
    by_cases hk : k = i
    · rw [hk]
      intro z
      rw [z] at hv
      exact absurd hv.1 (by decide)
    · exact ih (i + 1) hv.2 k (by omega) (by omega)
theorem z_ns_0 {b : Int32} (hb : z_ns b = true) : b ≠ 0 := by
  intro z
  rw [z] at hb
  exact absurd hb (by decide)
theorem m_skB_le (l : List Int32) : ∀ (n t : Nat), n ≤ t → t - n ≤ z_skB l n t ∧ z_skB l n t ≤ t := by
  intro n
  induction n with
  | zero => intro t _; exact ⟨Nat.le_refl _, Nat.le_refl _⟩
  | succ n ih =>
    intro t ht
    unfold z_skB
    split
    · have := ih (t - 1) (by omega)
      omega
    · omega
/-- takeLine -/
theorem sm_takeLine {K : Nat} {Fd : z_Fd} (hm : k_m h0 h B V F) (hl : m_l (F 1) l) (hN : l.length ≤ 400) (hK : K ≤ 1000) (hd : m_fd l K F Fd) {f t : Nat} (hf : f ≤ t) (ht : t ≤ l.length) : q_SP G mX7_takeLine [.ref (B 0), .int (nI f), .int (nI t)] h 0 0 (fun o h' => o = some (.int (z_b (z_field l f t))) ∧ ∃ F', k_m h0 h' B V F' ∧ (∀ j, (j ≠ 2 ∧ j ≠ 3) ∧ j ≠ 4 → F' j = F j) ∧ (z_field l f t = true → m_fd l (K + 1) F' (z_keep l f (z_col l (t - f) f) t Fd))) := by
  have hcc := m_col_le l (t - f) f
  generalize hc : z_col l (t - f) f = c at hcc
  obtain ⟨hc1, hc2, hc3⟩ := hcc
  have hzf : z_field l f t = (decide (f < c) && (decide (c < t) && (decide (l.getD c 0 = 58) && z_val l (t - (c + 1)) (c + 1)))) := by unfold z_field; rw [hc]
  -- the names
  have loop3 : ∀ (m n : Nat) (x y : Int32) (h1 : q_H) (F1 : Nat → Nat → Int32), x = nI n → n + m = 5 → z_field l f t = true → k_m h0 h1 B V F1 → (∀ j, (j ≠ 2 ∧ j ≠ 3) ∧ j ≠ 4 → F1 j = F j) → m_fd l (K + 1) F1 (fun j => if j < n then z_keep l f c t Fd j else Fd j) →
      q_X G mX7_takeLine (q_R mX7_takeLine 0 0) (q_FN G (fun o h' => o = some (.int (z_b (z_field l f t))) ∧ ∃ F', k_m h0 h' B V F' ∧ (∀ j, (j ≠ 2 ∧ j ≠ 3) ∧ j ≠ 4 → F' j = F j) ∧ (z_field l f t = true → m_fd l (K + 1) F' (z_keep l f c t Fd))) 0 0) 144 [(0, .ref (B 0)), (1, .int (nI f)), (2, .int (nI t)), (3, .int (nI c)), (4, .int (z_b true)), (5, .int x)] [] h1 0 0 := by
    intro m
    induction m with
    | zero =>
      intro n x y h1 F1 hx hn hz hm e1 d1
      subst hx
      have hn : n = 5 := by omega
      subst hn
      refine x_iload dX7_takeLine_144 (by first | rfl | assumption) ?_
      refine x_iconst 5 dX7_takeLine_146 (by decide) ?_
      refine x_icmp_ge 217 dX7_takeLine_147 (by decide) (fun _ => ?_) (fun z => absurd (Int32.le_refl _) z)
      refine x_iload dX7_takeLine_217 (by first | rfl | assumption) ?_
      refine x_iret rfl (by first | rfl | assumption | exact z_nb _) dX7_takeLine_219 (by decide) (by decide) ?_
      refine ⟨by rw [hz], F1, hm, e1, fun _ n hn => ?_⟩
      have dj : m_fe l (K + 1) F1 n (if n < 5 then z_keep l f c t Fd n else Fd n) := d1 n hn
      rw [if_pos hn] at dj
      exact dj
    | succ m ih =>
      intro n x y h1 F1 hx hn hz hm e1 d1
      subst hx
      have hz' := hz
      rw [hzf] at hz
      simp only [Bool.and_eq_true, decide_eq_true_eq] at hz
      obtain ⟨z1, z2, z3, z4⟩ := hz
      have hl1 : m_l (F1 1) l := by rw [e1 1 (by decide)]; exact hl
      have v0 : vp_in (nI n) 5 := vp_in_nI (by omega) (by omega)
      have hcl : (nI n).toNatClampNeg = n := nI_clamp (by omega)
      refine x_iload dX7_takeLine_144 (by first | rfl | assumption) ?_
      refine x_iconst 5 dX7_takeLine_146 (by decide) ?_
      refine x_icmp_ge 217 dX7_takeLine_147 (by decide) (fun z => absurd z (nI_ge (b := 5) (by omega) (by omega))) (fun _ => ?_)
      refine x_iload dX7_takeLine_150 (by first | rfl | assumption) ?_
      refine x_if_eq 217 dX7_takeLine_152 (by decide) (fun z => absurd z (show ¬ z_b true = 0 by decide)) (fun _ => ?_)
      refine x_aload_n 0 dX7_takeLine_155 rfl (by first | rfl | assumption) ?_
      refine x_iload_n 1 dX7_takeLine_156 rfl (by first | rfl | assumption) ?_
      refine x_iload_n 3 dX7_takeLine_157 rfl (by first | rfl | assumption) ?_
      refine x_iload dX7_takeLine_158 (by first | rfl | assumption) ?_
      refine cl_X7_takeLine_160 (sm_isWord hm hl1 hN (n := n) hc1 (by omega) (by omega) (fun k hk1 hk2 => z_ns_0 (hc3 k hk1 hk2))) hm.1 (Nat.le_of_ble_eq_true rfl) ⟨Nat.le_of_ble_eq_true rfl, Nat.le_of_ble_eq_true rfl⟩ (fun r g hq => ?_)
      obtain ⟨rfl, hg⟩ := hq
      rw [hg]
      cases hs : z_same l f c (z_w (2 + n)) with
      | false =>
        refine x_if_eq 211 dX7_takeLine_163 (by decide) (fun _ => ?_) (fun z => absurd (show z_b false = 0 from rfl) z)
        refine x_iinc 1 dX7_takeLine_211 (by first | rfl | assumption) (by decide) (by decide) rfl ?_
        refine x_goto 144 dX7_takeLine_214 (by decide) ?_
        refine ih (n + 1) _ 0 h1 F1 (nI_1 n) (by omega) hz' hm e1 (fun j hj => ?_)
        have dj : m_fe l (K + 1) F1 j (if j < n then z_keep l f c t Fd j else Fd j) := d1 j hj
        show m_fe l (K + 1) F1 j (if j < n + 1 then z_keep l f c t Fd j else Fd j)
        by_cases hjn : j = n
        · rw [if_neg (by omega)] at dj
          rw [if_pos (by omega)]
          have ek : z_keep l f c t Fd j = Fd j := by
            unfold z_keep
            rw [hjn, hs]
            rfl
          rw [ek]
          exact dj
        · by_cases hlt : j < n
          · rw [if_pos hlt] at dj; rw [if_pos (by omega)]; exact dj
          · rw [if_neg hlt] at dj; rw [if_neg (by omega)]; exact dj
      | true =>
        refine x_if_eq 211 dX7_takeLine_163 (by decide) (fun z => absurd z (show ¬ z_b true = 0 by decide)) (fun _ => ?_)
        refine x_aload_n 0 dX7_takeLine_166 rfl (by first | rfl | assumption) ?_
        refine gf_X7_takeLine_13 dX7_takeLine_167 hm.1 (congrArg some hm.r5) ?_
        refine x_iload dX7_takeLine_170 (by first | rfl | assumption) ?_
        refine x_dup2 dX7_takeLine_172 rfl rfl ?_
        refine x_iald dX7_takeLine_173 (by first | exact hm.a1 | exact hm.a2 | exact hm.a3 | exact hm.a4 | exact hm.a5 | exact hm.a6 | exact hm.a7 | exact hm.a8 | exact hm.a9 | exact hm.a10 | exact hm.a11 | exact hm.a12 | exact hm.a13 | exact hm.a14 | exact hm.a15) (by assumption) ?_
        refine x_iconst 1 dX7_takeLine_174 (by decide) ?_
        refine x_iadd dX7_takeLine_175 ?_
        refine x_iast dX7_takeLine_176 (by first | exact hm.a1 | exact hm.a2 | exact hm.a3 | exact hm.a4 | exact hm.a5 | exact hm.a6 | exact hm.a7 | exact hm.a8 | exact hm.a9 | exact hm.a10 | exact hm.a11 | exact hm.a12 | exact hm.a13 | exact hm.a14 | exact hm.a15) (by assumption) ?_
        refine x_ga hm (by decide) rfl (fun gm hm => ?_)
        rw [hcl] at hm
        obtain ⟨F2, hF2, hm⟩ : ∃ F2, F2 = m_u F1 2 (upd (F1 2) n (F1 2 n + 1)) ∧ k_m h0 gm B V F2 := ⟨_, rfl, hm⟩
        have a1 : F2 1 = F1 1 := by rw [hF2]; rfl
        have a2 : F2 2 = upd (F1 2) n (F1 2 n + 1) := by rw [hF2]; rfl
        have a3 : F2 3 = F1 3 := by rw [hF2]; rfl
        have a4 : F2 4 = F1 4 := by rw [hF2]; rfl
        have a5 : ∀ j, (j ≠ 2 ∧ j ≠ 3) ∧ j ≠ 4 → F2 j = F j := fun j hj => by rw [hF2, m_un hj.1.1]; exact e1 j hj
        have hl2 : m_l (F2 1) l := by rw [a1]; exact hl1
        refine x_aload_n 0 dX7_takeLine_177 rfl (by first | rfl | assumption) ?_
        refine gf_X7_takeLine_16 dX7_takeLine_178 hm.1 (congrArg some hm.r6) ?_
        refine x_iload dX7_takeLine_181 (by first | rfl | assumption) ?_
        refine x_aload_n 0 dX7_takeLine_183 rfl (by first | rfl | assumption) ?_
        refine x_iload_n 3 dX7_takeLine_184 rfl (by first | rfl | assumption) ?_
        refine x_iconst 1 dX7_takeLine_185 (by decide) ?_
        refine x_iadd dX7_takeLine_186 ?_
        refine x_iload_n 2 dX7_takeLine_187 rfl (by first | rfl | assumption) ?_
        rw [nI_1]
        refine cl_X7_takeLine_188 (sm_begin hm hl2 hN (f := c + 1) (t := t) (by omega) ht) hm.1 (Nat.le_of_ble_eq_true rfl) ⟨Nat.le_of_ble_eq_true rfl, Nat.le_of_ble_eq_true rfl⟩ (fun r g hq => ?_)
        obtain ⟨rfl, hg⟩ := hq
        rw [hg]
        have hs1 := z_skF_le l (t - (c + 1)) (c + 1)
        generalize hvf : z_skF l (t - (c + 1)) (c + 1) = vf at hs1
        refine x_iast dX7_takeLine_191 (by first | exact hm.a1 | exact hm.a2 | exact hm.a3 | exact hm.a4 | exact hm.a5 | exact hm.a6 | exact hm.a7 | exact hm.a8 | exact hm.a9 | exact hm.a10 | exact hm.a11 | exact hm.a12 | exact hm.a13 | exact hm.a14 | exact hm.a15) (by assumption) ?_
        refine x_ga hm (by decide) rfl (fun gm hm => ?_)
        rw [hcl] at hm
        obtain ⟨F3, hF3, hm⟩ : ∃ F3, F3 = m_u F2 3 (upd (F2 3) n (nI vf)) ∧ k_m h0 gm B V F3 := ⟨_, rfl, hm⟩
        have b1 : F3 1 = F1 1 := by rw [hF3]; exact a1
        have b2 : F3 2 = upd (F1 2) n (F1 2 n + 1) := by rw [hF3]; exact a2
        have b3 : F3 3 = upd (F1 3) n (nI vf) := by rw [hF3, ← a3]; rfl
        have b4 : F3 4 = F1 4 := by rw [hF3]; exact a4
        have b5 : ∀ j, (j ≠ 2 ∧ j ≠ 3) ∧ j ≠ 4 → F3 j = F j := fun j hj => by rw [hF3, m_un hj.1.2]; exact a5 j hj
        have hl3 : m_l (F3 1) l := by rw [b1]; exact hl1
        refine x_aload_n 0 dX7_takeLine_192 rfl (by first | rfl | assumption) ?_
        refine gf_X7_takeLine_19 dX7_takeLine_193 hm.1 (congrArg some hm.r7) ?_
        refine x_iload dX7_takeLine_196 (by first | rfl | assumption) ?_
        refine x_aload_n 0 dX7_takeLine_198 rfl (by first | rfl | assumption) ?_
        refine x_aload_n 0 dX7_takeLine_199 rfl (by first | rfl | assumption) ?_
        refine gf_X7_takeLine_16 dX7_takeLine_200 hm.1 (congrArg some hm.r6) ?_
        refine x_iload dX7_takeLine_203 (by first | rfl | assumption) ?_
        refine x_iald dX7_takeLine_205 (by first | exact hm.a1 | exact hm.a2 | exact hm.a3 | exact hm.a4 | exact hm.a5 | exact hm.a6 | exact hm.a7 | exact hm.a8 | exact hm.a9 | exact hm.a10 | exact hm.a11 | exact hm.a12 | exact hm.a13 | exact hm.a14 | exact hm.a15) (by assumption) ?_
        refine x_iload_n 2 dX7_takeLine_206 rfl (by first | rfl | assumption) ?_
        rw [hcl, b3, pk_us]
        refine cl_X7_takeLine_207 (sm_end hm hl3 hN (f := vf) (t := t) (by omega) ht) hm.1 (Nat.le_of_ble_eq_true rfl) ⟨Nat.le_of_ble_eq_true rfl, Nat.le_of_ble_eq_true rfl⟩ (fun r g hq => ?_)
        obtain ⟨rfl, hg⟩ := hq
        rw [hg]
        have hs2 := m_skB_le l (t - vf) t (by omega)
        generalize hvt : z_skB l (t - vf) t = vt at hs2
        refine x_iast dX7_takeLine_210 (by first | exact hm.a1 | exact hm.a2 | exact hm.a3 | exact hm.a4 | exact hm.a5 | exact hm.a6 | exact hm.a7 | exact hm.a8 | exact hm.a9 | exact hm.a10 | exact hm.a11 | exact hm.a12 | exact hm.a13 | exact hm.a14 | exact hm.a15) (by assumption) ?_
        refine x_ga hm (by decide) rfl (fun gm hm => ?_)
        rw [hcl] at hm
        obtain ⟨F4, hF4, hm⟩ : ∃ F4, F4 = m_u F3 4 (upd (F3 4) n (nI vt)) ∧ k_m h0 gm B V F4 := ⟨_, rfl, hm⟩
        have g2 : F4 2 = upd (F1 2) n (F1 2 n + 1) := by rw [hF4]; exact b2
        have g3 : F4 3 = upd (F1 3) n (nI vf) := by rw [hF4]; exact b3
        have g4 : F4 4 = upd (F1 4) n (nI vt) := by rw [hF4, ← b4]; rfl
        have g5 : ∀ j, (j ≠ 2 ∧ j ≠ 3) ∧ j ≠ 4 → F4 j = F j := fun j hj => by rw [hF4, m_un hj.2]; exact b5 j hj
        refine x_iinc 1 dX7_takeLine_211 (by first | rfl | assumption) (by decide) (by decide) rfl ?_
        refine x_goto 144 dX7_takeLine_214 (by decide) ?_
        refine ih (n + 1) _ 0 _ F4 (nI_1 n) (by omega) hz' hm g5 (fun j hj => ?_)
        have dj : m_fe l (K + 1) F1 j (if j < n then z_keep l f c t Fd j else Fd j) := d1 j hj
        show m_fe l (K + 1) F4 j (if j < n + 1 then z_keep l f c t Fd j else Fd j)
        by_cases hjn : j = n
        · rw [if_neg (by omega)] at dj
          rw [if_pos (by omega)]
          have ek : z_keep l f c t Fd j = ((Fd j).1 + 1, vf, vt) := by
            unfold z_keep
            rw [hjn, hs, if_pos rfl, hvf, hvt]
          rw [ek]
          unfold m_fe
          rw [g2, g3, g4, hjn, pk_us, pk_us, pk_us]
          rw [hjn] at dj
          have dK := (hd n (by omega)).2.1
          refine ⟨by rw [dj.1, nI_1], by show _ + 1 ≤ _; omega, fun _ => ⟨rfl, rfl, by show vf ≤ vt; omega, by show vt ≤ _; omega, fun k k1 k2 => ?_⟩⟩
          exact z_val_all l _ _ z4 k (by have : vf ≤ k := k1; omega) (by have : k < vt := k2; omega)
        · have em : ∀ e, m_fe l (K + 1) F1 j e → m_fe l (K + 1) F4 j e := fun e he => by
            unfold m_fe at he ⊢
            rw [g2, g3, g4, pk_un hjn, pk_un hjn, pk_un hjn]
            exact he
          by_cases hlt : j < n
          · rw [if_pos hlt] at dj; rw [if_pos (by omega)]; exact em _ dj
          · rw [if_neg hlt] at dj; rw [if_neg (by omega)]; exact em _ dj
  -- the value's bytes
  have h141 : ∀ (s : Bool) (x : Int32), s = z_field l f t → q_X G mX7_takeLine (q_R mX7_takeLine 0 0) (q_FN G (fun o h' => o = some (.int (z_b (z_field l f t))) ∧ ∃ F', k_m h0 h' B V F' ∧ (∀ j, (j ≠ 2 ∧ j ≠ 3) ∧ j ≠ 4 → F' j = F j) ∧ (z_field l f t = true → m_fd l (K + 1) F' (z_keep l f c t Fd))) 0 0) 141 [(0, .ref (B 0)), (1, .int (nI f)), (2, .int (nI t)), (3, .int (nI c)), (4, .int (z_b s)), (5, .int x)] [] h 0 0 := by
    intro s x hs
    cases s with
    | true =>
      refine x_iconst 0 dX7_takeLine_141 (by decide) ?_
      refine x_istore dX7_takeLine_142 (by decide) rfl ?_
      refine loop3 5 0 0 0 h F rfl rfl hs.symm hm (fun j _ => rfl) (fun j hj => ?_)
      have := hd j hj
      show m_fe l (K + 1) F j (if j < 0 then z_keep l f c t Fd j else Fd j)
      rw [if_neg (by omega)]
      exact ⟨this.1, by have := this.2.1; omega, this.2.2⟩
    | false =>
      refine x_iconst 0 dX7_takeLine_141 (by decide) ?_
      refine x_istore dX7_takeLine_142 (by decide) rfl ?_
      refine x_iload dX7_takeLine_144 (by first | rfl | assumption) ?_
      refine x_iconst 5 dX7_takeLine_146 (by decide) ?_
      refine x_icmp_ge 217 dX7_takeLine_147 (by decide) (fun z => absurd z (by decide)) (fun _ => ?_)
      refine x_iload dX7_takeLine_150 (by first | rfl | assumption) ?_
      refine x_if_eq 217 dX7_takeLine_152 (by decide) (fun _ => ?_) (fun z => absurd (show z_b false = 0 from rfl) z)
      refine x_iload dX7_takeLine_217 (by first | rfl | assumption) ?_
      refine x_iret rfl (by first | rfl | assumption | exact z_nb _) dX7_takeLine_219 (by decide) (by decide) ?_
      exact ⟨by rw [← hs], F, hm, fun _ _ => rfl, fun z => by rw [← hs] at z; cases z⟩
  have loop2 : ∀ (m k : Nat) (x : Int32) (s : Bool), x = nI k → k + m = t ∨ (m = 0 ∧ t ≤ k) → k ≤ 1000 → (s && z_val l m k) = z_field l f t → q_X G mX7_takeLine (q_R mX7_takeLine 0 0) (q_FN G (fun o h' => o = some (.int (z_b (z_field l f t))) ∧ ∃ F', k_m h0 h' B V F' ∧ (∀ j, (j ≠ 2 ∧ j ≠ 3) ∧ j ≠ 4 → F' j = F j) ∧ (z_field l f t = true → m_fd l (K + 1) F' (z_keep l f c t Fd))) 0 0) 81 [(0, .ref (B 0)), (1, .int (nI f)), (2, .int (nI t)), (3, .int (nI c)), (4, .int (z_b s)), (5, .int x)] [] h 0 0 := by
    intro m
    induction m with
    | zero =>
      intro k x s hx hk hk1 hz
      subst hx
      refine x_iload dX7_takeLine_81 (by first | rfl | assumption) ?_
      refine x_iload_n 2 dX7_takeLine_83 rfl (by first | rfl | assumption) ?_
      refine x_icmp_ge 141 dX7_takeLine_84 (by decide) (fun _ => ?_) (fun z => absurd (nI_le (by omega) (by omega)) z)
      exact h141 s _ (by rw [← hz, show z_val l 0 k = true from rfl, Bool.and_true])
    | succ m ih =>
      intro k x s hx hk hk1 hz
      subst hx
      have v0 : vp_in (nI k) 400 := vp_in_nI (by omega) (by omega)
      refine x_iload dX7_takeLine_81 (by first | rfl | assumption) ?_
      refine x_iload_n 2 dX7_takeLine_83 rfl (by first | rfl | assumption) ?_
      refine x_icmp_ge 141 dX7_takeLine_84 (by decide) (fun z => absurd z (nI_ge (by omega) (by omega))) (fun _ => ?_)
      have ez : z_val l (m + 1) k = ((decide (l.getD k 0 = 9) || (!decide (l.getD k 0 < 32) && decide (l.getD k 0 ≤ 126))) && z_val l m (k + 1)) := rfl
      rw [ez] at hz
      have a31 : (31 : Int32).toInt = 31 := rfl
      have a32 : (32 : Int32).toInt = 32 := rfl
      have a126 : (126 : Int32).toInt = 126 := rfl
      have a127 : (127 : Int32).toInt = 127 := rfl
      have h132 : z_field l f t = false → q_X G mX7_takeLine (q_R mX7_takeLine 0 0) (q_FN G (fun o h' => o = some (.int (z_b (z_field l f t))) ∧ ∃ F', k_m h0 h' B V F' ∧ (∀ j, (j ≠ 2 ∧ j ≠ 3) ∧ j ≠ 4 → F' j = F j) ∧ (z_field l f t = true → m_fd l (K + 1) F' (z_keep l f c t Fd))) 0 0) 132 [(0, .ref (B 0)), (1, .int (nI f)), (2, .int (nI t)), (3, .int (nI c)), (4, .int (z_b s)), (5, .int (nI k))] [] h 0 0 := by
        intro hz
        refine x_iconst 0 dX7_takeLine_132 (by decide) ?_
        refine x_istore dX7_takeLine_133 (by decide) rfl ?_
        refine x_iinc 1 dX7_takeLine_135 (by first | rfl | assumption) (by decide) (by decide) rfl ?_
        refine x_goto 81 dX7_takeLine_138 (by decide) ?_
        exact ih (k + 1) _ false (nI_1 k) (by omega) (by omega) (by rw [hz]; rfl)
      have h128 : z_val l m (k + 1) = z_field l f t → q_X G mX7_takeLine (q_R mX7_takeLine 0 0) (q_FN G (fun o h' => o = some (.int (z_b (z_field l f t))) ∧ ∃ F', k_m h0 h' B V F' ∧ (∀ j, (j ≠ 2 ∧ j ≠ 3) ∧ j ≠ 4 → F' j = F j) ∧ (z_field l f t = true → m_fd l (K + 1) F' (z_keep l f c t Fd))) 0 0) 128 [(0, .ref (B 0)), (1, .int (nI f)), (2, .int (nI t)), (3, .int (nI c)), (4, .int (z_b s)), (5, .int (nI k))] [] h 0 0 := by
        intro hz
        refine x_iconst 1 dX7_takeLine_128 (by decide) ?_
        refine x_goto 133 dX7_takeLine_129 (by decide) ?_
        refine x_istore dX7_takeLine_133 (by decide) rfl ?_
        refine x_iinc 1 dX7_takeLine_135 (by first | rfl | assumption) (by decide) (by decide) rfl ?_
        refine x_goto 81 dX7_takeLine_138 (by decide) ?_
        exact ih (k + 1) _ true (nI_1 k) (by omega) (by omega) (by rw [← hz]; rfl)
      refine x_iload dX7_takeLine_87 (by first | rfl | assumption) ?_
      cases s with
      | false =>
        refine x_if_eq 132 dX7_takeLine_89 (by decide) (fun _ => ?_) (fun z => absurd (show z_b false = 0 from rfl) z)
        exact h132 hz.symm
      | true =>
        rw [Bool.true_and] at hz
        refine x_if_eq 132 dX7_takeLine_89 (by decide) (fun z => absurd z (show ¬ z_b true = 0 by decide)) (fun _ => ?_)
        refine x_aload_n 0 dX7_takeLine_92 rfl (by first | rfl | assumption) ?_
        refine gf_X7_takeLine_7 dX7_takeLine_93 hm.1 (congrArg some hm.r3) ?_
        refine x_iload dX7_takeLine_96 (by first | rfl | assumption) ?_
        refine x_iald dX7_takeLine_98 (by first | exact hm.a1 | exact hm.a2 | exact hm.a3 | exact hm.a4 | exact hm.a5 | exact hm.a6 | exact hm.a7 | exact hm.a8 | exact hm.a9 | exact hm.a10 | exact hm.a11 | exact hm.a12 | exact hm.a13 | exact hm.a14 | exact hm.a15) (by assumption) ?_
        refine x_bipush 9 dX7_takeLine_99 (by decide) ?_
        rw [m_get hl (by omega) hN]
        by_cases d1 : l.getD k 0 = 9
        · refine x_icmp_eq 128 dX7_takeLine_101 (by decide) (fun _ => ?_) (fun z => absurd d1 z)
          rw [decide_eq_true d1, Bool.true_or, Bool.true_and] at hz
          exact h128 hz
        · refine x_icmp_eq 128 dX7_takeLine_101 (by decide) (fun z => absurd z d1) (fun _ => ?_)
          rw [decide_eq_false d1, Bool.false_or] at hz
          refine x_aload_n 0 dX7_takeLine_104 rfl (by first | rfl | assumption) ?_
          refine gf_X7_takeLine_7 dX7_takeLine_105 hm.1 (congrArg some hm.r3) ?_
          refine x_iload dX7_takeLine_108 (by first | rfl | assumption) ?_
          refine x_iald dX7_takeLine_110 (by first | exact hm.a1 | exact hm.a2 | exact hm.a3 | exact hm.a4 | exact hm.a5 | exact hm.a6 | exact hm.a7 | exact hm.a8 | exact hm.a9 | exact hm.a10 | exact hm.a11 | exact hm.a12 | exact hm.a13 | exact hm.a14 | exact hm.a15) (by assumption) ?_
          refine x_bipush 31 dX7_takeLine_111 (by decide) ?_
          rw [m_get hl (by omega) hN]
          by_cases d2 : l.getD k 0 ≤ 31
          · refine x_icmp_le 132 dX7_takeLine_113 (by decide) (fun _ => ?_) (fun z => absurd d2 z)
            rw [decide_eq_true (show l.getD k 0 < 32 by rw [i32_lt]; rw [i32_le] at d2; omega)] at hz
            exact h132 hz.symm
          · refine x_icmp_le 132 dX7_takeLine_113 (by decide) (fun z => absurd z d2) (fun _ => ?_)
            rw [decide_eq_false (show ¬ l.getD k 0 < 32 by rw [i32_lt]; rw [i32_le] at d2; omega)] at hz
            refine x_aload_n 0 dX7_takeLine_116 rfl (by first | rfl | assumption) ?_
            refine gf_X7_takeLine_7 dX7_takeLine_117 hm.1 (congrArg some hm.r3) ?_
            refine x_iload dX7_takeLine_120 (by first | rfl | assumption) ?_
            refine x_iald dX7_takeLine_122 (by first | exact hm.a1 | exact hm.a2 | exact hm.a3 | exact hm.a4 | exact hm.a5 | exact hm.a6 | exact hm.a7 | exact hm.a8 | exact hm.a9 | exact hm.a10 | exact hm.a11 | exact hm.a12 | exact hm.a13 | exact hm.a14 | exact hm.a15) (by assumption) ?_
            refine x_bipush 127 dX7_takeLine_123 (by decide) ?_
            rw [m_get hl (by omega) hN]
            by_cases d3 : 127 ≤ l.getD k 0
            · refine x_icmp_ge 132 dX7_takeLine_125 (by decide) (fun _ => ?_) (fun z => absurd d3 z)
              rw [decide_eq_false (show ¬ l.getD k 0 ≤ 126 by rw [i32_le]; rw [i32_le] at d3; omega)] at hz
              exact h132 hz.symm
            · refine x_icmp_ge 132 dX7_takeLine_125 (by decide) (fun z => absurd z d3) (fun _ => ?_)
              rw [decide_eq_true (show l.getD k 0 ≤ 126 by rw [i32_le]; rw [i32_le] at d3; omega)] at hz
              exact h128 hz
  have h76 : ∀ s : Bool, (s && z_val l (t - (c + 1)) (c + 1)) = z_field l f t → q_X G mX7_takeLine (q_R mX7_takeLine 0 0) (q_FN G (fun o h' => o = some (.int (z_b (z_field l f t))) ∧ ∃ F', k_m h0 h' B V F' ∧ (∀ j, (j ≠ 2 ∧ j ≠ 3) ∧ j ≠ 4 → F' j = F j) ∧ (z_field l f t = true → m_fd l (K + 1) F' (z_keep l f c t Fd))) 0 0) 74 [(0, .ref (B 0)), (1, .int (nI f)), (2, .int (nI t)), (3, .int (nI c))] [.int (z_b s)] h 0 0 := by
    intro s hz
    refine x_istore dX7_takeLine_74 (by decide) rfl ?_
    refine x_iload_n 3 dX7_takeLine_76 rfl (by first | rfl | assumption) ?_
    refine x_iconst 1 dX7_takeLine_77 (by decide) ?_
    refine x_iadd dX7_takeLine_78 ?_
    rw [nI_1]
    refine x_istore dX7_takeLine_79 (by decide) rfl ?_
    exact loop2 (t - (c + 1)) (c + 1) _ s rfl (by omega) (by omega) hz
  have h73 : z_field l f t = false → q_X G mX7_takeLine (q_R mX7_takeLine 0 0) (q_FN G (fun o h' => o = some (.int (z_b (z_field l f t))) ∧ ∃ F', k_m h0 h' B V F' ∧ (∀ j, (j ≠ 2 ∧ j ≠ 3) ∧ j ≠ 4 → F' j = F j) ∧ (z_field l f t = true → m_fd l (K + 1) F' (z_keep l f c t Fd))) 0 0) 73 [(0, .ref (B 0)), (1, .int (nI f)), (2, .int (nI t)), (3, .int (nI c))] [] h 0 0 := by
    intro hz
    refine x_iconst 0 dX7_takeLine_73 (by decide) ?_
    exact h76 false hz.symm
  have h48 : q_X G mX7_takeLine (q_R mX7_takeLine 0 0) (q_FN G (fun o h' => o = some (.int (z_b (z_field l f t))) ∧ ∃ F', k_m h0 h' B V F' ∧ (∀ j, (j ≠ 2 ∧ j ≠ 3) ∧ j ≠ 4 → F' j = F j) ∧ (z_field l f t = true → m_fd l (K + 1) F' (z_keep l f c t Fd))) 0 0) 48 [(0, .ref (B 0)), (1, .int (nI f)), (2, .int (nI t)), (3, .int (nI c))] [] h 0 0 := by
    refine x_iload_n 3 dX7_takeLine_48 rfl (by first | rfl | assumption) ?_
    refine x_iload_n 1 dX7_takeLine_49 rfl (by first | rfl | assumption) ?_
    by_cases d1 : f < c
    · refine x_icmp_le 73 dX7_takeLine_50 (by decide) (fun z => absurd z (nI_ge d1 (by omega))) (fun _ => ?_)
      refine x_iload_n 3 dX7_takeLine_53 rfl (by first | rfl | assumption) ?_
      refine x_iload_n 2 dX7_takeLine_54 rfl (by first | rfl | assumption) ?_
      by_cases d2 : c < t
      · refine x_icmp_ge 73 dX7_takeLine_55 (by decide) (fun z => absurd z (nI_ge d2 (by omega))) (fun _ => ?_)
        have v0 : vp_in (nI c) 400 := vp_in_nI (by omega) (by omega)
        refine x_aload_n 0 dX7_takeLine_58 rfl (by first | rfl | assumption) ?_
        refine gf_X7_takeLine_7 dX7_takeLine_59 hm.1 (congrArg some hm.r3) ?_
        refine x_iload_n 3 dX7_takeLine_62 rfl (by first | rfl | assumption) ?_
        refine x_iald dX7_takeLine_63 (by first | exact hm.a1 | exact hm.a2 | exact hm.a3 | exact hm.a4 | exact hm.a5 | exact hm.a6 | exact hm.a7 | exact hm.a8 | exact hm.a9 | exact hm.a10 | exact hm.a11 | exact hm.a12 | exact hm.a13 | exact hm.a14 | exact hm.a15) (by assumption) ?_
        refine x_bipush 58 dX7_takeLine_64 (by decide) ?_
        rw [m_get hl (by omega) hN]
        by_cases d3 : l.getD c 0 = 58
        · refine x_icmp_ne 73 dX7_takeLine_66 (by decide) (fun z => absurd d3 z) (fun _ => ?_)
          refine x_iconst 1 dX7_takeLine_69 (by decide) ?_
          refine x_goto 74 dX7_takeLine_70 (by decide) ?_
          exact h76 true (by rw [hzf, decide_eq_true d1, decide_eq_true d2, decide_eq_true d3]; rfl)
        · refine x_icmp_ne 73 dX7_takeLine_66 (by decide) (fun _ => ?_) (fun z => absurd z d3)
          exact h73 (by rw [hzf, decide_eq_false d3, Bool.false_and, Bool.and_false, Bool.and_false])
      · refine x_icmp_ge 73 dX7_takeLine_55 (by decide) (fun _ => ?_) (fun z => absurd (nI_le (by omega) (by omega)) z)
        exact h73 (by rw [hzf, decide_eq_false d2, Bool.false_and, Bool.and_false])
    · refine x_icmp_le 73 dX7_takeLine_50 (by decide) (fun _ => ?_) (fun z => absurd (nI_le (by omega) (by omega)) z)
      exact h73 (by rw [hzf, decide_eq_false d1, Bool.false_and])
  have loop1 : ∀ (n i : Nat) (x : Int32), x = nI i → i + n = t → z_col l n i = c → q_X G mX7_takeLine (q_R mX7_takeLine 0 0) (q_FN G (fun o h' => o = some (.int (z_b (z_field l f t))) ∧ ∃ F', k_m h0 h' B V F' ∧ (∀ j, (j ≠ 2 ∧ j ≠ 3) ∧ j ≠ 4 → F' j = F j) ∧ (z_field l f t = true → m_fd l (K + 1) F' (z_keep l f c t Fd))) 0 0) 2 [(0, .ref (B 0)), (1, .int (nI f)), (2, .int (nI t)), (3, .int x)] [] h 0 0 := by
    intro n
    induction n with
    | zero =>
      intro i x hx hi hz
      subst hx
      have hz : i = c := hz
      subst hz
      refine x_iload_n 3 dX7_takeLine_2 rfl (by first | rfl | assumption) ?_
      refine x_iload_n 2 dX7_takeLine_3 rfl (by first | rfl | assumption) ?_
      refine x_icmp_ge 48 dX7_takeLine_4 (by decide) (fun _ => ?_) (fun z => absurd (nI_le (by omega) (by omega)) z)
      exact h48
    | succ n ih =>
      intro i x hx hi hz
      subst hx
      replace hz : (if z_ns (l.getD i 0) then z_col l n (i + 1) else i) = c := hz
      have v0 : vp_in (nI i) 400 := vp_in_nI (by omega) (by omega)
      have h42 : z_ns (l.getD i 0) = true → q_X G mX7_takeLine (q_R mX7_takeLine 0 0) (q_FN G (fun o h' => o = some (.int (z_b (z_field l f t))) ∧ ∃ F', k_m h0 h' B V F' ∧ (∀ j, (j ≠ 2 ∧ j ≠ 3) ∧ j ≠ 4 → F' j = F j) ∧ (z_field l f t = true → m_fd l (K + 1) F' (z_keep l f c t Fd))) 0 0) 42 [(0, .ref (B 0)), (1, .int (nI f)), (2, .int (nI t)), (3, .int (nI i))] [] h 0 0 := by
        intro hb
        rw [hb, if_pos rfl] at hz
        refine x_iinc 1 dX7_takeLine_42 (by first | rfl | assumption) (by decide) (by decide) rfl ?_
        refine x_goto 2 dX7_takeLine_45 (by decide) ?_
        exact ih (i + 1) _ (nI_1 i) (by omega) hz
      refine x_iload_n 3 dX7_takeLine_2 rfl (by first | rfl | assumption) ?_
      refine x_iload_n 2 dX7_takeLine_3 rfl (by first | rfl | assumption) ?_
      refine x_icmp_ge 48 dX7_takeLine_4 (by decide) (fun z => absurd z (nI_ge (by omega) (by omega))) (fun _ => ?_)
      refine x_aload_n 0 dX7_takeLine_7 rfl (by first | rfl | assumption) ?_
      refine gf_X7_takeLine_7 dX7_takeLine_8 hm.1 (congrArg some hm.r3) ?_
      refine x_iload_n 3 dX7_takeLine_11 rfl (by first | rfl | assumption) ?_
      refine x_iald dX7_takeLine_12 (by first | exact hm.a1 | exact hm.a2 | exact hm.a3 | exact hm.a4 | exact hm.a5 | exact hm.a6 | exact hm.a7 | exact hm.a8 | exact hm.a9 | exact hm.a10 | exact hm.a11 | exact hm.a12 | exact hm.a13 | exact hm.a14 | exact hm.a15) (by assumption) ?_
      rw [m_get hl (by omega) hN]
      refine cl_X7_takeLine_13 (sm_isLetter _) (Nat.le_of_ble_eq_true rfl) ⟨Nat.le_of_ble_eq_true rfl, Nat.le_of_ble_eq_true rfl⟩ (fun r g hq => ?_)
      obtain ⟨rfl, hg⟩ := hq
      rw [hg]
      cases hb1 : m_let (l.getD i 0) with
      | true =>
        refine x_if_ne 42 dX7_takeLine_16 (by decide) (fun _ => ?_) (fun z => absurd z (show ¬ z_b true = 0 by decide))
        exact h42 (by unfold z_ns; rw [m_ld, hb1]; rfl)
      | false =>
        refine x_if_ne 42 dX7_takeLine_16 (by decide) (fun z => absurd (show z_b false = 0 from rfl) z) (fun _ => ?_)
        refine x_aload_n 0 dX7_takeLine_19 rfl (by first | rfl | assumption) ?_
        refine gf_X7_takeLine_7 dX7_takeLine_20 hm.1 (congrArg some hm.r3) ?_
        refine x_iload_n 3 dX7_takeLine_23 rfl (by first | rfl | assumption) ?_
        refine x_iald dX7_takeLine_24 (by first | exact hm.a1 | exact hm.a2 | exact hm.a3 | exact hm.a4 | exact hm.a5 | exact hm.a6 | exact hm.a7 | exact hm.a8 | exact hm.a9 | exact hm.a10 | exact hm.a11 | exact hm.a12 | exact hm.a13 | exact hm.a14 | exact hm.a15) (by assumption) ?_
        rw [m_get hl (by omega) hN]
        refine cl_X7_takeLine_25 (sm_isDigit _) (Nat.le_of_ble_eq_true rfl) ⟨Nat.le_of_ble_eq_true rfl, Nat.le_of_ble_eq_true rfl⟩ (fun r g hq => ?_)
        obtain ⟨rfl, hg⟩ := hq
        rw [hg]
        cases hb2 : m_dig (l.getD i 0) with
        | true =>
          refine x_if_ne 42 dX7_takeLine_28 (by decide) (fun _ => ?_) (fun z => absurd z (show ¬ z_b true = 0 by decide))
          exact h42 (by unfold z_ns; rw [m_ld, hb1, hb2]; rfl)
        | false =>
          refine x_if_ne 42 dX7_takeLine_28 (by decide) (fun z => absurd (show z_b false = 0 from rfl) z) (fun _ => ?_)
          refine x_aload_n 0 dX7_takeLine_31 rfl (by first | rfl | assumption) ?_
          refine gf_X7_takeLine_7 dX7_takeLine_32 hm.1 (congrArg some hm.r3) ?_
          refine x_iload_n 3 dX7_takeLine_35 rfl (by first | rfl | assumption) ?_
          refine x_iald dX7_takeLine_36 (by first | exact hm.a1 | exact hm.a2 | exact hm.a3 | exact hm.a4 | exact hm.a5 | exact hm.a6 | exact hm.a7 | exact hm.a8 | exact hm.a9 | exact hm.a10 | exact hm.a11 | exact hm.a12 | exact hm.a13 | exact hm.a14 | exact hm.a15) (by assumption) ?_
          refine x_bipush 45 dX7_takeLine_37 (by decide) ?_
          rw [m_get hl (by omega) hN]
          by_cases hb3 : l.getD i 0 = 45
          · refine x_icmp_ne 48 dX7_takeLine_39 (by decide) (fun z => absurd hb3 z) (fun _ => ?_)
            exact h42 (by unfold z_ns; rw [decide_eq_true hb3, Bool.or_true])
          · refine x_icmp_ne 48 dX7_takeLine_39 (by decide) (fun _ => ?_) (fun z => absurd z hb3)
            rw [show z_ns (l.getD i 0) = false by unfold z_ns; rw [m_ld, hb1, hb2, decide_eq_false hb3]; rfl, if_neg (by decide)] at hz
            subst hz
            exact h48
  refine q_enter (M := mX7_takeLine) (by decide +kernel) rfl (Nat.le_of_ble_eq_true rfl) ?_
  refine x_iload_n 1 dX7_takeLine_0 rfl (by first | rfl | assumption) ?_
  refine x_istore_n 3 dX7_takeLine_1 rfl (by decide) rfl ?_
  exact loop1 (t - f) f _ rfl (by omega) hc
end MdlF
