/-! the reference: send -/
section MdlZg
variable {G : q_G} {h0 h : q_H} {B : Nat → Nat} {V V' V0 : Nat → Value} {F F' : Nat → Nat → Int32} {l : List Int32} {st ec dl pg : Int32} {rq out dr : List Int32} {R R0 : z_R} {w : List z_Ms} {σ : z_S}
theorem t_to_eq {L p f : Nat} (hp : 0 < p) (hf : f < t_ct L p) : t_to L p f = if f + 1 = t_ct L p then L else f * p + p := by
  unfold t_to
  unfold t_ct at hf ⊢
  by_cases h0 : L = 0
  · rw [if_pos h0] at hf ⊢
    rw [if_pos (by omega), if_pos (by omega)]
  · rw [if_neg h0] at hf ⊢
    have h1 : f + 1 ≤ (L + p - 1) / p := hf
    have h2 := (Nat.le_div_iff_mul_le hp).mp h1
    have hm : (f + 1) * p = f * p + p := Nat.succ_mul f p
    by_cases hc : f + 1 = (L + p - 1) / p
    · rw [if_pos hc]
      have h3 : L + p - 1 < (f + 1 + 1) * p := by rw [hc]; exact Nat.lt_mul_of_div_lt (Nat.lt_succ_self _) hp
      rw [Nat.succ_mul, hm] at h3
      split
      · rfl
      · omega
    · rw [if_neg hc]
      have h4 : f + 1 + 1 ≤ (L + p - 1) / p := by omega
      have h5 := (Nat.le_div_iff_mul_le hp).mp h4
      rw [Nat.succ_mul, hm] at h5
      rw [if_neg (by omega)]
theorem l_take_drop {l : List Int32} {a i : Nat} (h1 : a ≤ i) (h2 : i < l.length) : (l.drop a).take (i + 1 - a) = (l.drop a).take (i - a) ++ [l.getD i 0] := by
  rw [show i + 1 - a = (i - a) + 1 by omega, List.take_succ, List.getElem?_drop, show a + (i - a) = i by omega, List.getD_eq_getElem?_getD, List.getElem?_eq_getElem h2]
  rfl
theorem sn_send (hm : k_m h0 h B V F) (hr : m_rel V F σ) (kd size : Int32) : q_SP G mX7_send [.ref (B 0), .int kd, .int size] h 0 0 (m_ret h0 B (a_send σ kd size)) := by
  have hr := hr.v0 (v := .int 0)
  obtain ⟨st, ec, dl, pg, rq, out, dr, R, w⟩ := σ
  have hr0 := hr
  obtain ⟨hr, hf⟩ := hr
  have f1 := hr.1.1
  obtain ⟨f9, -⟩ := hr.2.2.1
  obtain ⟨f11, hl⟩ := hr.2.2.2.1
  obtain ⟨c0, hc0⟩ := hr.2.2.2.2.2.1
  have hN := hr.2.2.2.2.2.2.2
  have hO := hr.2.2.2.2.2.2.1
  refine q_enter (M := mX7_send) (by decide +kernel) rfl (Nat.le_of_ble_eq_true rfl) ?_
  refine x_aload_n 0 dX7_send_0 rfl (by first | rfl | assumption) ?_
  refine x_iconst 0 dX7_send_1 (by decide) ?_
  refine pf_X7_send_55 dX7_send_2 hm.1 (Nat.le_of_ble_eq_true rfl) ?_
  refine x_gm hm (fun gm hm f0 => ?_)
  generalize m_u V 0 (Value.int 0) = V at hm hr hf hr0 f11 f9 f1 f0 hc0
  generalize hA : a_send (st, ec, dl, pg, rq, out, dr, R, w) kd size = Ans
  have h37 : ∀ h1 : q_H, k_m h0 h1 B V F → Ans = (1, 0, (st, ec, dl, pg, rq, out, dr, R, w)) → q_X G mX7_send (q_R mX7_send 0 0) (q_FN G (m_ret h0 B Ans) 0 0) 37 [(0, .ref (B 0)), (1, .int kd), (2, .int size)] [] h1 0 0 := by
    intro h1 hm hc
    rw [hc]
    refine x_aload_n 0 dX7_send_37 rfl (by first | rfl | assumption) ?_
    refine x_iconst 1 dX7_send_38 (by decide) ?_
    refine cl_X7_send_39 (sm_fail hm 1) hm.1 (Nat.le_of_ble_eq_true rfl) ⟨Nat.le_of_ble_eq_true rfl, Nat.le_of_ble_eq_true rfl⟩ (fun r gq hq => ?_)
    obtain ⟨rfl, hm⟩ := hq
    refine x_iret rfl (by first | rfl | assumption | exact z_nb _) dX7_send_42 (by decide) (by decide) ?_
    exact ⟨rfl, _, _, hm, rfl, hr0.v0⟩
  dsimp only [a_send] at hA
  refine x_iload_n 1 dX7_send_5 rfl (by first | rfl | assumption) ?_
  refine x_iconst 1 dX7_send_6 (by decide) ?_
  by_cases d1 : kd < 1
  · refine x_icmp_lt 37 dX7_send_7 (by decide) (fun _ => ?_) (fun z => absurd d1 z)
    refine h37 _ hm ?_
    rw [← hA, if_neg]
    rintro ⟨z | z, -⟩ <;> (rw [z] at d1; revert d1; decide)
  · refine x_icmp_lt 37 dX7_send_7 (by decide) (fun z => absurd z d1) (fun _ => ?_)
    refine x_iload_n 1 dX7_send_10 rfl (by first | rfl | assumption) ?_
    refine x_iconst 2 dX7_send_11 (by decide) ?_
    by_cases d2 : 2 < kd
    · refine x_icmp_gt 37 dX7_send_12 (by decide) (fun _ => ?_) (fun z => absurd d2 z)
      refine h37 _ hm ?_
      rw [← hA, if_neg]
      rintro ⟨z | z, -⟩ <;> (rw [z] at d2; revert d2; decide)
    · refine x_icmp_gt 37 dX7_send_12 (by decide) (fun z => absurd z d2) (fun _ => ?_)
      have hkd : kd = 1 ∨ kd = 2 := by
        rw [i32_lt] at d1 d2
        rw [i32_eq, i32_eq]
        have a1 : (1 : Int32).toInt = 1 := rfl
        have a2 : (2 : Int32).toInt = 2 := rfl
        omega
      refine x_iload_n 2 dX7_send_15 rfl (by first | rfl | assumption) ?_
      by_cases d3 : size < 0
      · refine x_if_lt 37 dX7_send_16 (by decide) (fun _ => ?_) (fun z => absurd d3 z)
        exact h37 _ hm (by rw [← hA, if_neg (fun z => z.2.1 d3)])
      · refine x_if_lt 37 dX7_send_16 (by decide) (fun z => absurd z d3) (fun _ => ?_)
        refine x_iload_n 2 dX7_send_19 rfl (by first | rfl | assumption) ?_
        refine x_bipush 100 dX7_send_20 (by decide) ?_
        by_cases d4 : 100 < size
        · refine x_icmp_gt 37 dX7_send_22 (by decide) (fun _ => ?_) (fun z => absurd d4 z)
          exact h37 _ hm (by rw [← hA, if_neg (fun z => Int32.not_lt.mpr z.2.2 d4)])
        · refine x_icmp_gt 37 dX7_send_22 (by decide) (fun z => absurd z d4) (fun _ => ?_)
          rw [if_pos ⟨hkd, d3, Int32.not_lt.mp d4⟩] at hA
          obtain ⟨S, hS, rfl⟩ := nI_of2 (x := size) (M := 100) (n := 100) rfl d3 (Int32.not_lt.mp d4)
          have hp : 0 < t_pc (nI S) := by
            unfold t_pc
            split
            · decide
            · rename_i hz
              rw [nI_clamp (by omega)]
              rcases Nat.eq_zero_or_pos S with z | z
              · rw [z] at hz; exact absurd rfl hz
              · exact z
          obtain ⟨hct1, hct2⟩ := t_ct_ok (L := dr.length) hp hN
          have h43 : ∀ h1 : q_H, k_m h0 h1 B V F → ¬ (kd = 1 ∧ z_txt dr = false) → q_X G mX7_send (q_R mX7_send 0 0) (q_FN G (m_ret h0 B Ans) 0 0) 43 [(0, .ref (B 0)), (1, .int kd), (2, .int (nI S))] [] h1 0 0 := by
            intro h1 hm hc
            rw [if_neg hc] at hA
            have eCt : t_ct dr.length (t_pc (nI S)) = if S = 0 ∨ dr.length = 0 then 1 else (dr.length + S - 1) / S := by
              unfold t_ct t_pc
              rcases Nat.eq_zero_or_pos S with z | z
              · subst z
                rw [if_pos (Or.inl rfl)]
                split
                · rfl
                · rw [if_pos (show nI 0 = 0 from rfl)]
                  omega
              · rw [if_neg (nI_ne0 z (by omega)), nI_clamp (by omega)]
                by_cases z2 : dr.length = 0
                · rw [if_pos z2, if_pos (Or.inr z2)]
                · rw [if_neg z2, if_neg (fun y => y.elim (by omega) z2)]
            have hto := fun f hf => t_to_eq (L := dr.length) (f := f) hp hf
            have hE : ∀ f, f < t_ct dr.length (t_pc (nI S)) → f * (if S = 0 then dr.length else S) = f * t_pc (nI S) ∧ (¬ f + 1 = t_ct dr.length (t_pc (nI S)) → (if S = 0 then dr.length else S) = t_pc (nI S)) := by
              intro f hf
              by_cases z : S = 0
              · rw [if_pos z]
                rw [eCt, if_pos (Or.inl z)] at hf ⊢
                have : f = 0 := by omega
                rw [this]
                exact ⟨by rw [Nat.zero_mul, Nat.zero_mul], fun y => absurd rfl y⟩
              · rw [if_neg z]
                unfold t_pc
                rw [if_neg (nI_ne0 (by omega) (by omega)), nI_clamp (by omega)]
                exact ⟨rfl, fun _ => rfl⟩
            have hp100 : t_pc (nI S) ≤ 100 := by
              unfold t_pc
              split
              · decide
              · rw [nI_clamp (by omega)]; exact hS
            generalize hP : t_pc (nI S) = P at hA hct1 hct2 eCt hto hE hp hp100
            generalize hC : t_ct dr.length P = C at hA hct1 hct2 eCt hto hE
            generalize hEE : (if S = 0 then dr.length else S) = E at hE
            have hE100 : E ≤ 100 := by rw [← hEE]; split <;> omega
            have h68 : q_X G mX7_send (q_R mX7_send 0 0) (q_FN G (m_ret h0 B Ans) 0 0) 68 [(0, .ref (B 0)), (1, .int kd), (2, .int (nI S))] [.int (nI C)] h1 0 0 := by
              have h96 : ¬ (decide (st = 1) && decide (out.length + (C * 2 + dr.length) ≤ 400)) = true → q_X G mX7_send (q_R mX7_send 0 0) (q_FN G (m_ret h0 B Ans) 0 0) 96 [(0, .ref (B 0)), (1, .int kd), (2, .int (nI S)), (3, .int (nI C))] [] h1 0 0 := by
                intro hc
                rw [if_neg hc] at hA
                rw [← hA]
                refine x_aload_n 0 dX7_send_96 rfl (by first | rfl | assumption) ?_
                refine x_iconst 2 dX7_send_97 (by decide) ?_
                refine cl_X7_send_98 (sm_fail hm 2) hm.1 (Nat.le_of_ble_eq_true rfl) ⟨Nat.le_of_ble_eq_true rfl, Nat.le_of_ble_eq_true rfl⟩ (fun r gq hq => ?_)
                obtain ⟨rfl, hm⟩ := hq
                refine x_iret rfl (by first | rfl | assumption | exact z_nb _) dX7_send_101 (by decide) (by decide) ?_
                exact ⟨rfl, _, _, hm, rfl, hr0.v0⟩
              refine x_istore_n 3 dX7_send_68 rfl (by decide) rfl ?_
              refine x_aload_n 0 dX7_send_69 rfl (by first | rfl | assumption) ?_
              refine gf_X7_send_217 dX7_send_70 hm.1 (congrArg some f1) ?_
              refine x_iconst 1 dX7_send_73 (by decide) ?_
              by_cases s1 : st = 1
              · refine x_icmp_ne 96 dX7_send_74 (by decide) (fun z => absurd s1 z) (fun _ => ?_)
                refine x_aload_n 0 dX7_send_77 rfl (by first | rfl | assumption) ?_
                refine gf_X7_send_59 dX7_send_78 hm.1 (congrArg some f9) ?_
                refine x_aload_n 0 dX7_send_81 rfl (by first | rfl | assumption) ?_
                refine gf_X7_send_84 dX7_send_82 hm.1 (congrArg some f11) ?_
                refine x_iadd dX7_send_85 ?_
                refine x_iconst 2 dX7_send_86 (by decide) ?_
                refine x_iload_n 3 dX7_send_87 rfl (by first | rfl | assumption) ?_
                refine x_imul dX7_send_88 ?_
                refine x_iadd dX7_send_89 ?_
                refine x_sipush 400 dX7_send_90 (by decide) ?_
                rw [show nI out.length + nI dr.length + 2 * nI C = nI (out.length + dr.length + 2 * C) by rw [show (2 : Int32) = nI 2 from rfl, pk_mul, nI_add, nI_add]]
                by_cases c4 : out.length + dr.length + 2 * C ≤ 400
                · refine x_icmp_le 102 dX7_send_93 (by decide) (fun _ => ?_) (fun z => absurd (nI_le (b := 400) c4 (by omega)) z)
                  rw [if_pos (by rw [decide_eq_true s1, decide_eq_true (show out.length + (C * 2 + dr.length) ≤ 400 by omega)]; rfl)] at hA
                  rw [← hA]
                  have hpl := t_pieces_len dr kd P C (fun f hf => hct2 f hf)
                  have loop : ∀ (m f : Nat) (x : Int32) (h2 : q_H) (V1 : Nat → Value) (F1 : Nat → Nat → Int32) (lv : List (Nat × Value)), x = nI f → f + m = C → k_m h0 h2 B V1 F1 → m_oo V F V1 F1 → m_o V1 F1 (out ++ t_pieces dr kd P C f) →
                      q_X G mX7_send (q_R mX7_send 0 0) (q_FN G (m_ret h0 B (0, nI C, (st, ec, dl, pg, rq, out ++ t_pieces dr kd P C C, dr, R, w))) 0 0) 119 ([(0, .ref (B 0)), (1, .int kd), (2, .int (nI S)), (3, .int (nI C)), (4, .int (nI E)), (5, .int x)] ++ lv) [] h2 0 0 := by
                    intro m
                    induction m with
                    | zero =>
                      intro f x h2 V1 F1 lv hx hk hm q1 o1
                      subst hx
                      refine x_take 6 ?_
                      refine x_iload dX7_send_119 (by first | rfl | assumption) ?_
                      refine x_iload_n 3 dX7_send_121 rfl (by first | rfl | assumption) ?_
                      refine x_icmp_ge 220 dX7_send_122 (by decide) (fun _ => ?_) (fun z => absurd (nI_le (by omega) (by omega)) z)
                      refine x_iload_n 3 dX7_send_220 rfl (by first | rfl | assumption) ?_
                      refine x_iret rfl (by first | rfl | assumption | exact z_nb _) dX7_send_221 (by decide) (by decide) ?_
                      have hk : f = C := hk
                      subst hk
                      refine ⟨rfl, V1, F1, hm, (q1.1 0 (by decide)).trans f0, hr.said q1 o1 ?_, fun z => (hf z).cg (fun j h1 h2 => q1.1 j (by omega)) (fun i h1 h2 => q1.2 i (by omega))⟩
                      have := (hpl f (Nat.le_refl _)).1
                      rw [List.length_append]
                      omega
                    | succ m ih =>
                      intro f x h2 V1 F1 lv hx hk hm q1 o1
                      subst hx
                      refine x_take 6 ?_
                      have hfC : f < C := by omega
                      obtain ⟨hE1, hE2⟩ := hE f hfC
                      have hto1 := hto f hfC
                      obtain ⟨ht1, ht2⟩ := t_to_le (L := dr.length) (p := P) (f := f) (hct2 f hfC)
                      have f11 : V1 11 = .int (nI dr.length) := (q1.1 11 (by decide)).trans f11
                      have hpl1 := (hpl f (by omega)).2 hfC
                      have hpl2 := (hpl (f + 1) hfC).1
                      have hplS : (t_pieces dr kd P C (f + 1)).length = (t_pieces dr kd P C f).length + 2 + (t_to dr.length P f - f * P) := by
                        show (t_pieces dr kd P C f ++ ([t_fst kd C f, nI (t_to dr.length P f - f * P)] ++ (dr.drop (f * P)).take (t_to dr.length P f - f * P))).length = _
                        rw [List.length_append, List.length_append, List.length_take, List.length_drop]
                        show _ + (2 + _) = _
                        omega
                      refine x_iload dX7_send_119 (by first | rfl | assumption) ?_
                      refine x_iload_n 3 dX7_send_121 rfl (by first | rfl | assumption) ?_
                      refine x_icmp_ge 220 dX7_send_122 (by decide) (fun z => absurd z (nI_ge (by omega) (by omega))) (fun _ => ?_)
                      refine x_iload dX7_send_125 (by first | rfl | assumption) ?_
                      refine x_iload dX7_send_127 (by first | rfl | assumption) ?_
                      refine x_imul dX7_send_129 ?_
                      rw [pk_mul, hE1]
                      have h152 : q_X G mX7_send (q_R mX7_send 0 0) (q_FN G (m_ret h0 B (0, nI C, (st, ec, dl, pg, rq, out ++ t_pieces dr kd P C C, dr, R, w))) 0 0) 152 [(0, .ref (B 0)), (1, .int kd), (2, .int (nI S)), (3, .int (nI C)), (4, .int (nI E)), (5, .int (nI f)), (6, .int (nI (f * P)))] [.int (nI (t_to dr.length P f))] h2 0 0 := by
                        have h178 : ∀ (y : Int32) (bw : Bool), y = (if f = 0 then kd else 0) → bw = decide (f + 1 = C) → q_X G mX7_send (q_R mX7_send 0 0) (q_FN G (m_ret h0 B (0, nI C, (st, ec, dl, pg, rq, out ++ t_pieces dr kd P C C, dr, R, w))) 0 0) 178 [(0, .ref (B 0)), (1, .int kd), (2, .int (nI S)), (3, .int (nI C)), (4, .int (nI E)), (5, .int (nI f)), (6, .int (nI (f * P))), (7, .int (nI (t_to dr.length P f)))] [.int (z_b bw), .int y, .ref (B 0)] h2 0 0 := by
                          intro y bw hy hbw
                          refine x_iload dX7_send_178 (by first | rfl | assumption) ?_
                          refine x_iload dX7_send_180 (by first | rfl | assumption) ?_
                          refine x_isub dX7_send_182 ?_
                          rw [pk_sub ht1]
                          refine cl_X7_send_183 (sm_head hm o1 (by rw [List.length_append]; omega) y bw (n := t_to dr.length P f - f * P) (by omega)) hm.1 (Nat.le_of_ble_eq_true rfl) ⟨Nat.le_of_ble_eq_true rfl, Nat.le_of_ble_eq_true rfl⟩ (fun r gq hq => ?_)
                          obtain ⟨rfl, V2, F2, hm, q2, o2⟩ := hq
                          have efst : (if bw = true then 128 + y else y) = t_fst kd C f := by
                            unfold t_fst
                            rw [← hy, hbw]
                            by_cases zq : f + 1 = C
                            · rw [decide_eq_true zq, if_pos rfl, if_pos zq, Int32.add_comm]
                            · rw [decide_eq_false zq, if_neg (by decide), if_neg zq, Int32.add_zero]
                          rw [efst] at o2
                          refine x_iload dX7_send_186 (by first | rfl | assumption) ?_
                          refine x_istore dX7_send_188 (by decide) rfl ?_
                          have inner : ∀ (m2 i : Nat) (x2 : Int32) (h3 : q_H) (V3 : Nat → Value) (F3 : Nat → Nat → Int32), x2 = nI i → i + m2 = t_to dr.length P f → f * P ≤ i → k_m h0 h3 B V3 F3 → m_oo V F V3 F3 → m_o V3 F3 (out ++ t_pieces dr kd P C f ++ [t_fst kd C f, nI (t_to dr.length P f - f * P)] ++ (dr.drop (f * P)).take (i - f * P)) →
                              q_X G mX7_send (q_R mX7_send 0 0) (q_FN G (m_ret h0 B (0, nI C, (st, ec, dl, pg, rq, out ++ t_pieces dr kd P C C, dr, R, w))) 0 0) 190 [(0, .ref (B 0)), (1, .int kd), (2, .int (nI S)), (3, .int (nI C)), (4, .int (nI E)), (5, .int (nI f)), (6, .int (nI (f * P))), (7, .int (nI (t_to dr.length P f))), (8, .int x2)] [] h3 0 0 := by
                            intro m2
                            induction m2 with
                            | zero =>
                              intro i x2 h3 V3 F3 hx hi hi2 hm q3 o3
                              have hi : i = t_to dr.length P f := hi
                              subst hx
                              refine x_iload dX7_send_190 (by first | rfl | assumption) ?_
                              refine x_iload dX7_send_192 (by first | rfl | assumption) ?_
                              refine x_icmp_ge 214 dX7_send_194 (by decide) (fun _ => ?_) (fun z => absurd (nI_le (by omega) (by omega)) z)
                              refine x_iinc 1 dX7_send_214 (by first | rfl | assumption) (by decide) (by decide) rfl ?_
                              refine x_goto 119 dX7_send_217 (by decide) ?_
                              refine ih (f + 1) _ h3 V3 F3 [(6, .int (nI (f * P))), (7, .int (nI (t_to dr.length P f))), (8, .int (nI i))] (nI_1 f) (by omega) hm q3 ?_
                              rw [hi, List.append_assoc, List.append_assoc] at o3
                              exact o3
                            | succ m2 ih2 =>
                              intro i x2 h3 V3 F3 hx hi hi2 hm q3 o3
                              subst hx
                              have v0 : vp_in (nI i) 100 := vp_in_nI (by omega) (by omega)
                              refine x_iload dX7_send_190 (by first | rfl | assumption) ?_
                              refine x_iload dX7_send_192 (by first | rfl | assumption) ?_
                              refine x_icmp_ge 214 dX7_send_194 (by decide) (fun z => absurd z (nI_ge (by omega) (by omega))) (fun _ => ?_)
                              refine x_aload_n 0 dX7_send_197 rfl (by first | rfl | assumption) ?_
                              refine x_aload_n 0 dX7_send_198 rfl (by first | rfl | assumption) ?_
                              refine gf_X7_send_25 dX7_send_199 hm.1 (congrArg some hm.r10) ?_
                              refine x_iload dX7_send_202 (by first | rfl | assumption) ?_
                              refine x_iald dX7_send_204 (by first | exact hm.a1 | exact hm.a2 | exact hm.a3 | exact hm.a4 | exact hm.a5 | exact hm.a6 | exact hm.a7 | exact hm.a8 | exact hm.a9 | exact hm.a10 | exact hm.a11 | exact hm.a12 | exact hm.a13 | exact hm.a14 | exact hm.a15) (by assumption) ?_
                              rw [nI_clamp (by omega), q3.2 6 (by decide), hl i (by omega)]
                              refine cl_X7_send_205 (sm_put1 hm o3 (by rw [List.length_append, List.length_append, List.length_append, List.length_take, List.length_drop]; show _ + _ + 2 + _ < _; omega) _) hm.1 (Nat.le_of_ble_eq_true rfl) ⟨Nat.le_of_ble_eq_true rfl, Nat.le_of_ble_eq_true rfl⟩ (fun r gq hq => ?_)
                              obtain ⟨rfl, V4, F4, hm, q4, o4⟩ := hq
                              refine x_iinc 1 dX7_send_208 (by first | rfl | assumption) (by decide) (by decide) rfl ?_
                              refine x_goto 190 dX7_send_211 (by decide) ?_
                              refine ih2 (i + 1) _ _ V4 F4 (nI_1 i) (by omega) (by omega) hm (q3.tr q4) ?_
                              rw [l_take_drop hi2 (by omega), ← List.append_assoc]
                              exact o4
                          refine inner (t_to dr.length P f - f * P) (f * P) _ _ V2 F2 rfl (by omega) (Nat.le_refl _) hm (q1.tr q2) ?_
                          rw [Nat.sub_self, List.take_zero, List.append_nil]
                          exact o2
                        have h165 : ∀ y : Int32, y = (if f = 0 then kd else 0) → q_X G mX7_send (q_R mX7_send 0 0) (q_FN G (m_ret h0 B (0, nI C, (st, ec, dl, pg, rq, out ++ t_pieces dr kd P C C, dr, R, w))) 0 0) 165 [(0, .ref (B 0)), (1, .int kd), (2, .int (nI S)), (3, .int (nI C)), (4, .int (nI E)), (5, .int (nI f)), (6, .int (nI (f * P))), (7, .int (nI (t_to dr.length P f)))] [.int y, .ref (B 0)] h2 0 0 := by
                          intro y hy
                          refine x_iload dX7_send_165 (by first | rfl | assumption) ?_
                          refine x_iload_n 3 dX7_send_167 rfl (by first | rfl | assumption) ?_
                          refine x_iconst 1 dX7_send_168 (by decide) ?_
                          refine x_isub dX7_send_169 ?_
                          rw [show nI C - 1 = nI (C - 1) from pk_sub (b := 1) (by omega)]
                          by_cases zq : f + 1 = C
                          · refine x_icmp_ne 177 dX7_send_170 (by decide) (fun z => absurd (show nI f = nI (C - 1) by rw [show f = C - 1 by omega]) z) (fun _ => ?_)
                            refine x_iconst 1 dX7_send_173 (by decide) ?_
                            refine x_goto 178 dX7_send_174 (by decide) ?_
                            exact h178 y true hy (decide_eq_true zq).symm
                          · refine x_icmp_ne 177 dX7_send_170 (by decide) (fun _ => ?_) (fun z => absurd z (fun y => zq (by have := (nI_eq (by omega) (by omega)).mp y; omega)))
                            refine x_iconst 0 dX7_send_177 (by decide) ?_
                            exact h178 y false hy (decide_eq_false zq).symm
                        refine x_istore dX7_send_152 (by decide) rfl ?_
                        refine x_aload_n 0 dX7_send_154 rfl (by first | rfl | assumption) ?_
                        refine x_iload dX7_send_155 (by first | rfl | assumption) ?_
                        by_cases zq : f = 0
                        · refine x_if_ne 164 dX7_send_157 (by decide) (fun z => absurd (show nI f = 0 by rw [zq]; rfl) z) (fun _ => ?_)
                          refine x_iload_n 1 dX7_send_160 rfl (by first | rfl | assumption) ?_
                          refine x_goto 165 dX7_send_161 (by decide) ?_
                          exact h165 kd (by rw [if_pos zq])
                        · refine x_if_ne 164 dX7_send_157 (by decide) (fun _ => ?_) (fun z => absurd z (nI_ne0 (by omega) (by omega)))
                          refine x_iconst 0 dX7_send_164 (by decide) ?_
                          exact h165 0 (by rw [if_neg zq])
                      refine x_istore dX7_send_130 (by decide) rfl ?_
                      refine x_iload dX7_send_132 (by first | rfl | assumption) ?_
                      refine x_iload_n 3 dX7_send_134 rfl (by first | rfl | assumption) ?_
                      refine x_iconst 1 dX7_send_135 (by decide) ?_
                      refine x_isub dX7_send_136 ?_
                      rw [show nI C - 1 = nI (C - 1) from pk_sub (b := 1) (by omega)]
                      by_cases zq : f + 1 = C
                      · refine x_icmp_ne 147 dX7_send_137 (by decide) (fun z => absurd (show nI f = nI (C - 1) by rw [show f = C - 1 by omega]) z) (fun _ => ?_)
                        refine x_aload_n 0 dX7_send_140 rfl (by first | rfl | assumption) ?_
                        refine gf_X7_send_84 dX7_send_141 hm.1 (congrArg some f11) ?_
                        refine x_goto 152 dX7_send_144 (by decide) ?_
                        rw [if_pos zq] at hto1
                        rw [hto1] at h152
                        exact h152
                      · refine x_icmp_ne 147 dX7_send_137 (by decide) (fun _ => ?_) (fun z => absurd z (fun y => zq (by have := (nI_eq (by omega) (by omega)).mp y; omega)))
                        refine x_iload dX7_send_147 (by first | rfl | assumption) ?_
                        refine x_iload dX7_send_149 (by first | rfl | assumption) ?_
                        refine x_iadd dX7_send_151 ?_
                        rw [nI_add, hE2 zq]
                        rw [if_neg zq] at hto1
                        rw [hto1, hE2 zq] at h152
                        exact h152
                  have h114 : q_X G mX7_send (q_R mX7_send 0 0) (q_FN G (m_ret h0 B (0, nI C, (st, ec, dl, pg, rq, out ++ t_pieces dr kd P C C, dr, R, w))) 0 0) 114 [(0, .ref (B 0)), (1, .int kd), (2, .int (nI S)), (3, .int (nI C))] [.int (nI E)] h1 0 0 := by
                    refine x_istore dX7_send_114 (by decide) rfl ?_
                    refine x_iconst 0 dX7_send_116 (by decide) ?_
                    refine x_istore dX7_send_117 (by decide) rfl ?_
                    refine loop C 0 _ h1 V F [] rfl (by omega) hm m_oo.rf ?_
                    show m_o V F (out ++ [])
                    rw [List.append_nil]
                    exact hr.2.2.1
                  refine x_iload_n 2 dX7_send_102 rfl (by first | rfl | assumption) ?_
                  by_cases zq : S = 0
                  · refine x_if_ne 113 dX7_send_103 (by decide) (fun z => absurd (show nI S = 0 by rw [zq]; rfl) z) (fun _ => ?_)
                    refine x_aload_n 0 dX7_send_106 rfl (by first | rfl | assumption) ?_
                    refine gf_X7_send_84 dX7_send_107 hm.1 (congrArg some f11) ?_
                    refine x_goto 114 dX7_send_110 (by decide) ?_
                    rw [if_pos zq] at hEE
                    rw [hEE]
                    exact h114
                  · refine x_if_ne 113 dX7_send_103 (by decide) (fun _ => ?_) (fun z => absurd z (nI_ne0 (by omega) (by omega)))
                    refine x_iload_n 2 dX7_send_113 rfl (by first | rfl | assumption) ?_
                    rw [if_neg zq] at hEE
                    rw [hEE] at h114 ⊢
                    exact h114
                · refine x_icmp_le 102 dX7_send_93 (by decide) (fun z => absurd z (nI_ge (a := 400) (by omega) (by omega))) (fun _ => ?_)
                  exact h96 (by rw [decide_eq_false (show ¬ out.length + (C * 2 + dr.length) ≤ 400 by omega), Bool.and_false]; decide)
              · refine x_icmp_ne 96 dX7_send_74 (by decide) (fun _ => ?_) (fun z => absurd z s1)
                exact h96 (by rw [decide_eq_false s1, Bool.false_and]; decide)
            refine x_iload_n 2 dX7_send_43 rfl (by first | rfl | assumption) ?_
            by_cases zq : S = 0
            · refine x_if_eq 54 dX7_send_44 (by decide) (fun _ => ?_) (fun z => absurd (show nI S = 0 by rw [zq]; rfl) z)
              refine x_iconst 1 dX7_send_54 (by decide) ?_
              refine x_goto 68 dX7_send_55 (by decide) ?_
              rw [if_pos (Or.inl zq)] at eCt
              rw [eCt] at h68
              exact h68
            · refine x_if_eq 54 dX7_send_44 (by decide) (fun z => absurd z (nI_ne0 (by omega) (by omega))) (fun _ => ?_)
              refine x_aload_n 0 dX7_send_47 rfl (by first | rfl | assumption) ?_
              refine gf_X7_send_84 dX7_send_48 hm.1 (congrArg some f11) ?_
              by_cases z2 : dr.length = 0
              · refine x_if_ne 58 dX7_send_51 (by decide) (fun z => absurd (show nI dr.length = 0 by rw [z2]; rfl) z) (fun _ => ?_)
                refine x_iconst 1 dX7_send_54 (by decide) ?_
                refine x_goto 68 dX7_send_55 (by decide) ?_
                rw [if_pos (Or.inr z2)] at eCt
                rw [eCt] at h68
                exact h68
              · refine x_if_ne 58 dX7_send_51 (by decide) (fun _ => ?_) (fun z => absurd z (nI_ne0 (by omega) (by omega)))
                rw [if_neg (fun y => y.elim zq z2)] at eCt
                refine x_aload_n 0 dX7_send_58 rfl (by first | rfl | assumption) ?_
                refine gf_X7_send_84 dX7_send_59 hm.1 (congrArg some f11) ?_
                refine x_iload_n 2 dX7_send_62 rfl (by first | rfl | assumption) ?_
                refine x_iadd dX7_send_63 ?_
                refine x_iconst 1 dX7_send_64 (by decide) ?_
                refine x_isub dX7_send_65 ?_
                refine x_iload_n 2 dX7_send_66 rfl (by first | rfl | assumption) ?_
                rw [nI_add, show nI (dr.length + S) - 1 = nI (dr.length + S - 1) from pk_sub (b := 1) (by omega)]
                refine x_idiv dX7_send_67 (nI_ne0 (by omega) (by omega)) ?_
                rw [pk_div (by omega) (by omega) (by omega), ← eCt]
                exact h68
          refine x_iload_n 1 dX7_send_25 rfl (by first | rfl | assumption) ?_
          refine x_iconst 1 dX7_send_26 (by decide) ?_
          by_cases k1 : kd = 1
          · refine x_icmp_ne 43 dX7_send_27 (by decide) (fun z => absurd k1 z) (fun _ => ?_)
            refine x_aload_n 0 dX7_send_30 rfl (by first | rfl | assumption) ?_
            refine cl_X7_send_31 (sm_isDraftText hm hc0 f11 hl hN) hm.1 (Nat.le_of_ble_eq_true rfl) ⟨Nat.le_of_ble_eq_true rfl, Nat.le_of_ble_eq_true rfl⟩ (fun r gq hq => ?_)
            obtain ⟨rfl, hm⟩ := hq
            rw [List.drop_zero]
            cases ht : z_txt dr with
            | false =>
              refine x_if_ne 43 dX7_send_34 (by decide) (fun z => absurd (show z_b false = 0 from rfl) z) (fun _ => ?_)
              exact h37 _ hm (by rw [← hA, if_pos ⟨k1, ht⟩])
            | true =>
              refine x_if_ne 43 dX7_send_34 (by decide) (fun _ => ?_) (fun z => absurd z (show ¬ z_b true = 0 by decide))
              exact h43 _ hm (fun z => by rw [ht] at z; cases z.2)
          · refine x_icmp_ne 43 dX7_send_27 (by decide) (fun _ => ?_) (fun z => absurd z k1)
            exact h43 _ hm (fun z => k1 z.1)
end MdlZg
