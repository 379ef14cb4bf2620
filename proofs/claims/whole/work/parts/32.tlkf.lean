/-! FramedTalk: feed -/
section TlkF
variable {G : q_G} {h : q_H} {A : Nat → Nat} {st ec dl pg : Int32} {rq out dr : List Int32} {R : z_R} {w : List z_Ms}
def t_wf : z_S → Prop
  | (st, _, _, _, rq, out, _, _, _) => (st = 0 → rq.length < 400 ∧ out.length = 0) ∧ (st = 1 → out.length ≤ 470) ∧ (st = 0 ∨ st = 1 ∨ st = 2 ∨ st = 3)
theorem t_wf_answer {o : Option (Bool × Nat)} (hl : out.length = 0) : t_wf (t_answer (st, ec, dl, pg, rq, out, dr, R, w) o) := by
  match o with
  | some (true, p) =>
    refine ⟨fun z => absurd z (by decide), fun _ => ?_, Or.inr (Or.inl rfl)⟩
    rw [List.length_append, List.length_append, List.length_append, d_proof_len, hl]
    decide
  | some (false, p) => exact ⟨fun z => absurd z (by decide), fun z => absurd z (by decide), Or.inr (Or.inr (Or.inr rfl))⟩
  | none => exact ⟨fun z => absurd z (by decide), fun z => absurd z (by decide), Or.inr (Or.inr (Or.inr rfl))⟩
theorem t_wf_ask {b : Int32} (hw : t_wf (st, ec, dl, pg, rq, out, dr, R, w)) (hst : st = 0) : t_wf (t_ask (st, ec, dl, pg, rq, out, dr, R, w) b) := by
  have hw0 := hw
  obtain ⟨h1, h2, h3⟩ := hw
  obtain ⟨h4, h5⟩ := h1 hst
  dsimp only [t_ask]
  split
  · exact t_wf_answer h5
  · split
    · exact t_wf_answer h5
    · rename_i hn
      refine ⟨fun _ => ⟨?_, h5⟩, h2, h3⟩
      rw [List.length_append] at hn ⊢
      have : [b].length = 1 := rfl
      omega
theorem t_wf_finish (hw : t_wf (st, ec, dl, pg, rq, out, dr, R, w)) : t_wf (t_finish (st, ec, dl, pg, rq, out, dr, R, w)) := by
  obtain ⟨pl, kd, la, uw, mkd, lsz, lrd, ln, mrd, crd, fm, msg, sc, c⟩ := R
  have hw0 := hw
  obtain ⟨h1, h2, h3⟩ := hw
  dsimp only [t_finish]
  split
  · exact ⟨fun z => absurd z (by decide), fun z => absurd z (by decide), Or.inr (Or.inr (Or.inr rfl))⟩
  · split
    · split
      · rename_i hc
        refine ⟨fun z => absurd (z.symm.trans hc.1) (by decide), fun _ => ?_, h3⟩
        rw [List.length_append, List.length_append]
        show _ + 2 + _ ≤ _
        exact hc.2
      · exact hw0
    · split
      · exact hw0
      · split
        · exact hw0
        · exact hw0
theorem t_wf_byte {σ : z_S} {b : Int32} (hw : t_wf σ) : t_wf (t_byte σ b) := by
  obtain ⟨st, ec, dl, pg, rq, out, dr, R, w⟩ := σ
  unfold t_byte
  split
  · rename_i hst
    exact t_wf_ask hw hst
  · split
    · exact hw
    · unfold t_frame
      dsimp only [t_setR]
      split
      · exact t_wf_finish hw
      · split
        · exact hw
        · exact ⟨fun z => absurd z (by decide), fun z => absurd z (by decide), Or.inr (Or.inr (Or.inr rfl))⟩
/-- n bytes of a word, from byte i on -/
def t_feedN (W : Int64) : Nat → Nat → z_S → z_S
  | 0, _, σ => σ
  | n + 1, i, σ => t_feedN W n (i + 1) (t_byte σ (t_b W (nI i)))
theorem t_wf_feedN {W : Int64} : ∀ (n i : Nat) (σ : z_S), t_wf σ → t_wf (t_feedN W n i σ) := by
  intro n
  induction n with
  | zero => intro i σ hw; exact hw
  | succ n ih => intro i σ hw; exact ih (i + 1) _ (t_wf_byte hw)
abbrev z_A : Type := Int32 × Int32 × z_S
def a_feed (σ : z_S) (W : Int64) (n : Int32) : z_A := if t_cnt n then (if σ.1 = 3 then (2, 0, σ) else (0, (t_feedN W n.toNatClampNeg 0 σ).2.2.1 - σ.2.2.1, t_feedN W n.toNatClampNeg 0 σ)) else (1, 0, σ)
/-- the answer r, given as the method returns it -/
def k_ret (h : q_H) (A : Nat → Nat) (r : z_A) (o : Option Value) (h' : q_H) : Prop := (r.1 = 0 ∧ o = some (.int r.2.1)) ∧ k_tlk h' A r.2.2 ∧ k_ext (k_cells A) h h'
/-- the same where it throws -/
def k_thr (h : q_H) (A : Nat → Nat) (r : z_A) (E1 E2 : String) (x : String) (h' : q_H) : Prop := (r.1 = 1 ∧ x = E1 ∨ r.1 = 2 ∧ x = E2) ∧ k_tlk h' A r.2.2 ∧ k_ext (k_cells A) h h'
theorem k_ext.rf {S : List Nat} {h : q_H} : k_ext S h h := fun _ _ _ => rfl
theorem t_cnt_in {n : Int32} (hn : t_cnt n = true) : ∃ k, 1 ≤ k ∧ k ≤ 8 ∧ n = nI k := by
  unfold t_cnt at hn
  simp only [Bool.and_eq_true, Bool.not_eq_true', decide_eq_false_iff_not, i32_lt] at hn
  obtain ⟨h1, h2⟩ := hn
  obtain ⟨j, hj, e⟩ := i32_in (n := 8) (x := n) (by have : (1 : Int32).toInt = 1 := rfl; omega) h2
  refine ⟨j, ?_, hj, e⟩
  rcases Nat.eq_zero_or_pos j with hz | hp
  · rw [e, hz] at h1
    exact absurd (by decide) h1
  · exact hp
theorem sp_feed {σ : z_S} (ht : k_tlk h A σ) (hw : t_wf σ) (W : Int64) (n : Int32) : q_SX G mX6_feed [.ref (A 0), .long W, .int n] h 40 1744 (k_ret h A (a_feed σ W n)) (k_thr h A (a_feed σ W n) "java/lang/IllegalArgumentException" "java/lang/IllegalStateException") := by
  obtain ⟨st, ec, dl, pg, rq, out, dr, R, w⟩ := σ
  have o1 := ht.2.1
  refine q_enterX (M := mX6_feed) (by decide +kernel) rfl (Nat.le_of_ble_eq_true rfl) ?_
  refine x_iload_n 3 dX6_feed_0 rfl (by first | rfl | assumption) ?_
  refine cl_X6_feed_1 (sp_isByteCount n) (Nat.le_of_ble_eq_true rfl) ⟨Nat.le_of_ble_eq_true rfl, Nat.le_of_ble_eq_true rfl⟩ (fun r g hq => ?_)
  obtain ⟨rfl, hg⟩ := hq
  rw [hg]
  cases hn : t_cnt n with
  | false =>
    refine x_if_ne 15 dX6_feed_4 (by decide) (fun z => absurd (show z_b false = 0 from rfl) z) (fun _ => ?_)
    refine th_X6_feed_7 (by decide) (by decide) (by decide) (by decide) (by decide) ?_
    unfold a_feed
    rw [hn]
    exact ⟨Or.inl ⟨rfl, rfl⟩, ht, k_ext.rf⟩
  | true =>
    refine x_if_ne 15 dX6_feed_4 (by decide) (fun _ => ?_) (fun z => absurd z (show ¬ z_b true = 0 by decide))
    refine x_aload_n 0 dX6_feed_15 rfl (by first | rfl | assumption) ?_
    refine gf_X6_feed_49 dX6_feed_16 (by first | assumption | exact va_up_self _ _ _) rfl ?_
    refine x_iconst 3 dX6_feed_19 (by decide) ?_
    refine x_icmp_ne 31 dX6_feed_20 (by decide) (fun c20 => ?_) (fun c20 => ?_)
    · obtain ⟨k, hk1, hk8, rfl⟩ := t_cnt_in hn
      have hcl : (nI k).toNatClampNeg = k := nI_clamp (by omega)
      have ha : a_feed (st, ec, dl, pg, rq, out, dr, R, w) W (nI k) = (0, (t_feedN W k 0 (st, ec, dl, pg, rq, out, dr, R, w)).2.2.1 - dl, t_feedN W k 0 (st, ec, dl, pg, rq, out, dr, R, w)) := by
        unfold a_feed
        rw [hn, if_pos rfl, if_neg c20, hcl]
      rw [ha]
      refine x_aload_n 0 dX6_feed_31 rfl (by first | rfl | assumption) ?_
      refine gf_X6_feed_63 dX6_feed_32 (by first | assumption | exact va_up_self _ _ _) rfl ?_
      refine x_istore dX6_feed_35 (by decide) rfl ?_
      refine x_iconst 0 dX6_feed_37 (by decide) ?_
      refine x_istore dX6_feed_38 (by decide) rfl ?_
      have loop : ∀ (m i : Nat) (x : Int32) (σ1 : z_S) (h1 : q_H) (cs sl : Nat) (lv : List (Nat × Value)), x = nI i → i + m = k → t_feedN W m i σ1 = t_feedN W k 0 (st, ec, dl, pg, rq, out, dr, R, w) → k_tlk h1 A σ1 → t_wf σ1 → k_ext (k_cells A) h h1 → cs ≤ 5 * i → sl ≤ 218 * i →
          q_X G mX6_feed (q_R mX6_feed 40 1744) (q_FX G (k_ret h A (0, (t_feedN W k 0 (st, ec, dl, pg, rq, out, dr, R, w)).2.2.1 - dl, t_feedN W k 0 (st, ec, dl, pg, rq, out, dr, R, w))) (k_thr h A (0, (t_feedN W k 0 (st, ec, dl, pg, rq, out, dr, R, w)).2.2.1 - dl, t_feedN W k 0 (st, ec, dl, pg, rq, out, dr, R, w)) "java/lang/IllegalArgumentException" "java/lang/IllegalStateException") 40 1744) 40 ([(0, .ref (A 0)), (1, .long W), (3, .int (nI k)), (4, .int dl), (5, .int x)] ++ lv) [] h1 cs sl := by
        intro m
        induction m with
        | zero =>
          intro i x σ1 h1 cs sl lv hx hik hfd t1 w1 x1 hcs hsl
          subst hx
          have hik : i = k := by omega
          subst hik
          obtain ⟨st1, ec1, dl1, pg1, rq1, out1, dr1, R1, w1⟩ := σ1
          have o1 := t1.2.1
          refine x_take 5 ?_
          refine x_iload dX6_feed_40 (by first | rfl | assumption) ?_
          refine x_iload_n 3 dX6_feed_42 rfl (by first | rfl | assumption) ?_
          refine x_icmp_ge 90 dX6_feed_43 (by decide) (fun _ => ?_) (fun z => absurd (Int32.le_refl _) z)
          refine x_aload_n 0 dX6_feed_90 rfl (by first | rfl | assumption) ?_
          refine gf_X6_feed_63 dX6_feed_91 (by first | assumption | exact va_up_self _ _ _) rfl ?_
          refine x_iload dX6_feed_94 (by first | rfl | assumption) ?_
          refine x_isub dX6_feed_96 ?_
          refine x_fx ?_
          refine x_iret rfl rfl dX6_feed_97 (by omega) (by omega) ?_
          refine ⟨⟨rfl, ?_⟩, ?_, x1⟩
          · rw [← hfd]; rfl
          · show k_tlk _ _ (t_feedN _ _ _ _)
            rw [← hfd]; exact t1
        | succ m ih =>
          intro i x σ1 h1 cs sl lv hx hik hfd t1 w1 x1 hcs hsl
          subst hx
          have w2 : t_wf (t_byte σ1 (t_b W (nI i))) := t_wf_byte w1
          obtain ⟨st1, ec1, dl1, pg1, rq1, out1, dr1, R1, ww1⟩ := σ1
          have o1 := t1.2.1
          refine x_take 5 ?_
          refine x_iload dX6_feed_40 (by first | rfl | assumption) ?_
          refine x_iload_n 3 dX6_feed_42 rfl (by first | rfl | assumption) ?_
          refine x_icmp_ge 90 dX6_feed_43 (by decide) (fun z => absurd z (nI_ge (b := k) (by omega) (by omega))) (fun _ => ?_)
          refine x_lload_n 1 dX6_feed_46 rfl (by first | rfl | assumption) ?_
          refine x_iload dX6_feed_47 (by first | rfl | assumption) ?_
          refine cl_X6_feed_49 (sp_byteOf W (nI i)) (Nat.le_of_ble_eq_true rfl) ⟨by omega, by omega⟩ (fun r g hq => ?_)
          obtain ⟨rfl, rfl⟩ := hq
          refine x_istore dX6_feed_52 (by decide) rfl ?_
          refine x_aload_n 0 dX6_feed_54 rfl (by first | rfl | assumption) ?_
          refine gf_X6_feed_49 dX6_feed_55 (by first | assumption | exact va_up_self _ _ _) rfl ?_
          refine x_if_ne 70 dX6_feed_58 (by decide) (fun c58 => ?_) (fun c58 => ?_)
          · refine x_aload_n 0 dX6_feed_70 rfl (by first | rfl | assumption) ?_
            refine gf_X6_feed_49 dX6_feed_71 (by first | assumption | exact va_up_self _ _ _) rfl ?_
            refine x_iconst 3 dX6_feed_74 (by decide) ?_
            refine x_icmp_eq 84 dX6_feed_75 (by decide) (fun c75 => ?_) (fun c75 => ?_)
            · refine x_iinc 1 dX6_feed_84 (by first | rfl | assumption) (by decide) (by decide) rfl ?_
              refine x_goto 40 dX6_feed_87 (by decide) ?_
              refine ih (i + 1) _ _ _ _ _ [(6, _)] (nI_1 i) (by omega) hfd ?_ w2 x1 (by omega) (by omega)
              unfold t_byte
              rw [if_neg c58, if_pos c75]
              exact t1
            · refine x_aload_n 0 dX6_feed_78 rfl (by first | rfl | assumption) ?_
              refine x_iload dX6_feed_79 (by first | rfl | assumption) ?_
              refine cl_X6_feed_81 (sp_hearFrame t1 _ (fun z => by have := w1.2.1 z; omega)) o1 (Nat.le_of_ble_eq_true rfl) ⟨by omega, by omega⟩ (fun r g hq => ?_)
              obtain ⟨rfl, t3, s3⟩ := hq
              refine x_iinc 1 dX6_feed_84 (by first | rfl | assumption) (by decide) (by decide) rfl ?_
              refine x_goto 40 dX6_feed_87 (by decide) ?_
              refine ih (i + 1) _ _ _ _ _ [(6, _)] (nI_1 i) (by omega) hfd ?_ w2 (x1.tr (k_ext.of s3)) (by omega) (by omega)
              unfold t_byte
              rw [if_neg c58, if_neg c75]
              exact t3
          · refine x_aload_n 0 dX6_feed_61 rfl (by first | rfl | assumption) ?_
            refine x_iload dX6_feed_62 (by first | rfl | assumption) ?_
            obtain ⟨y1, y2⟩ := w1.1 c58
            refine cl_X6_feed_64 (sp_hearRequest t1 c58 y1 (by omega) _) o1 (Nat.le_of_ble_eq_true rfl) ⟨by omega, by omega⟩ (fun r g hq => ?_)
            obtain ⟨rfl, t3, s3⟩ := hq
            refine x_goto 84 dX6_feed_67 (by decide) ?_
            refine x_iinc 1 dX6_feed_84 (by first | rfl | assumption) (by decide) (by decide) rfl ?_
            refine x_goto 40 dX6_feed_87 (by decide) ?_
            refine ih (i + 1) _ _ _ _ _ [(6, _)] (nI_1 i) (by omega) hfd ?_ w2 (x1.tr s3) (by omega) (by omega)
            unfold t_byte
            rw [if_pos c58]
            exact t3
      exact loop k 0 0 _ h 0 0 [] rfl (by omega) rfl ht hw k_ext.rf (by omega) (by omega)
    · refine th_X6_feed_23 (by decide) (by decide) (by decide) (by decide) (by decide) ?_
      unfold a_feed
      rw [hn, if_pos rfl, if_pos c20]
      exact ⟨Or.inr ⟨rfl, rfl⟩, ht, k_ext.rf⟩
end TlkF
