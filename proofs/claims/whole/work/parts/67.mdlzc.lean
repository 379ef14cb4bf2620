/-! the reference: feed -/
section MdlZc
variable {G : q_G} {h0 h : q_H} {B : Nat → Nat} {V V' V0 : Nat → Value} {F F' : Nat → Nat → Int32} {l : List Int32} {st ec dl pg : Int32} {rq out dr : List Int32} {R R0 : z_R} {w : List z_Ms}
theorem m_bk (W : Int64) (k : Nat) (hk : k < 8) : (W >>> ((8 * nI k).toInt64 &&& 63) &&& 255).toInt32 = t_b W (nI k) := by
  have e1 := (show ∀ k, k < 8 → (((8 * nI k).toInt64 &&& 63).toBitVec.smod 64).toNat = 8 * k by decide +kernel) k hk
  have e2 := (show ∀ k, k < 8 → (((8 * nI k).toInt64.toUInt64 &&& 63).toBitVec % 64).toNat = 8 * k by decide +kernel) k hk
  have e3 : ∀ i, i < 32 → (255 : Int64).toBitVec.getLsbD i = decide (i < 8) := by decide +kernel
  have e4 : ∀ i, i < 32 → (255 : Int32).toBitVec.getLsbD i = decide (i < 8) := by decide +kernel
  unfold t_b
  apply Int32.toBitVec_inj.mp
  rw [Int64.toBitVec_toInt32, Int64.toBitVec_and, Int64.toBitVec_shiftRight, Int32.toBitVec_and, Int64.toBitVec_toInt32, UInt64.toBitVec_toInt64, UInt64.toBitVec_shiftRight]
  apply BitVec.eq_of_getLsbD_eq
  intro i hi
  rw [BitVec.getLsbD_signExtend, BitVec.getLsbD_and, BitVec.getLsbD_and, BitVec.getLsbD_signExtend, if_pos (by omega), if_pos (by omega), e3 i hi, e4 i hi, BitVec.sshiftRight', BitVec.getLsbD_sshiftRight, e1, BitVec.ushiftRight_eq', BitVec.getLsbD_ushiftRight, e2]
  by_cases h8 : i < 8
  · rw [if_pos (by omega)]
    simp [h8, hi]
    omega
  · simp [h8]
theorem m_by_b (W : Int64) (i : Int32) : m_by (t_b W i) := pk_andE _ 8 (by rfl)
/-- what a method of the reference that returns an int leaves -/
def m_ret (h0 : q_H) (B : Nat → Nat) (r : z_A) : q_Q := fun o h' => o = some (.int r.2.1) ∧ ∃ V' F', k_m h0 h' B V' F' ∧ V' 0 = .int r.1 ∧ m_rel V' F' r.2.2
def m_ret0 (h0 : q_H) (B : Nat → Nat) (r : z_A) : q_Q := fun o h' => o = none ∧ ∃ V' F', k_m h0 h' B V' F' ∧ V' 0 = .int r.1 ∧ m_rel V' F' r.2.2
def m_retb (h0 : q_H) (B : Nat → Nat) (r : Bool × z_S) : q_Q := fun o h' => o = some (.int (z_b r.1)) ∧ ∃ V' F', k_m h0 h' B V' F' ∧ V' 0 = .int 0 ∧ m_rel V' F' r.2
theorem t_feedN_3 {W : Int64} : ∀ (n i : Nat) (σ : z_S), σ.1 = 3 → t_feedN W n i σ = σ := by
  intro n
  induction n with
  | zero => intro i σ _; rfl
  | succ n ih =>
    intro i σ hs
    show t_feedN W n (i + 1) (t_byte σ (t_b W (nI i))) = σ
    have e : t_byte σ (t_b W (nI i)) = σ := by
      unfold t_byte
      rw [if_neg (by rw [hs]; decide), if_pos hs]
    rw [e]
    exact ih (i + 1) σ hs
theorem m_rel.v0 {v : Value} {σ : z_S} (hr : m_rel V F σ) : m_rel (m_u V 0 v) F σ := by
  obtain ⟨st, ec, dl, pg, rq, out, dr, R, w⟩ := σ
  obtain ⟨hr, hf⟩ := hr
  exact ⟨hr.cg (by rintro j (rfl | rfl | rfl | rfl | rfl | rfl | rfl | rfl) <;> rfl) (fun _ _ => rfl) (m_c3.ex hr.2.2.2.2.2.1 (by rintro j (rfl | rfl | rfl) <;> rfl)), fun z => (hf z).cg (fun j h1 h2 => m_un (by omega)) (fun _ _ _ => rfl)⟩
theorem m_rel.f1 {σ : z_S} (hr : m_rel V F σ) : V 1 = .int σ.1 := by
  obtain ⟨st, ec, dl, pg, rq, out, dr, R, w⟩ := σ
  exact hr.1.1.1
theorem m_rel.f31 {σ : z_S} (hr : m_rel V F σ) : V 31 = .int σ.2.2.1 := by
  obtain ⟨st, ec, dl, pg, rq, out, dr, R, w⟩ := σ
  exact hr.1.1.2.2.1
theorem sm_feed {σ : z_S} (hm : k_m h0 h B V F) (hr : m_rel V F σ) (hw : t_wf σ) (W : Int64) (n : Int32) : q_SP G mX7_feed [.ref (B 0), .long W, .int n] h 0 0 (m_ret h0 B (a_feed σ W n)) := by
  unfold a_feed t_cnt
  refine q_enter (M := mX7_feed) (by decide +kernel) rfl (Nat.le_of_ble_eq_true rfl) ?_
  refine x_aload_n 0 dX7_feed_0 rfl (by first | rfl | assumption) ?_
  refine x_iconst 0 dX7_feed_1 (by decide) ?_
  refine pf_X7_feed_55 dX7_feed_2 hm.1 (Nat.le_of_ble_eq_true rfl) ?_
  refine x_gm hm (fun gm hm f0 => ?_)
  have hr := hr.v0 (v := .int 0)
  have f1 := hr.f1
  have f31 := hr.f31
  have h16 : ∀ lv0 : List (Nat × Value), (!decide (n < 1) && !decide (8 < n)) = false → q_X G mX7_feed (q_R mX7_feed 0 0) (q_FN G (m_ret h0 B (if (!decide (n < 1) && !decide (8 < n)) = true then (if σ.1 = 3 then (2, 0, σ) else (0, (t_feedN W n.toNatClampNeg 0 σ).2.2.1 - σ.2.2.1, t_feedN W n.toNatClampNeg 0 σ)) else (1, 0, σ))) 0 0) 16 [(0, .ref (B 0)), (1, .long W), (3, .int n)] [] gm 0 0 := by
    intro lv0 hc
    rw [hc, if_neg (by decide)]
    refine x_aload_n 0 dX7_feed_16 rfl (by first | rfl | assumption) ?_
    refine x_iconst 1 dX7_feed_17 (by decide) ?_
    refine cl_X7_feed_18 (sm_fail hm 1) hm.1 (Nat.le_of_ble_eq_true rfl) ⟨Nat.le_of_ble_eq_true rfl, Nat.le_of_ble_eq_true rfl⟩ (fun r gq hq => ?_)
    obtain ⟨rfl, hm⟩ := hq
    refine x_iret rfl (by first | rfl | assumption | exact z_nb _) dX7_feed_21 (by decide) (by decide) ?_
    exact ⟨rfl, _, _, hm, rfl, hr.v0⟩
  refine x_iload_n 3 dX7_feed_5 rfl (by first | rfl | assumption) ?_
  refine x_iconst 1 dX7_feed_6 (by decide) ?_
  by_cases d1 : n < 1
  · refine x_icmp_lt 16 dX7_feed_7 (by decide) (fun _ => ?_) (fun z => absurd d1 z)
    exact h16 [] (by rw [decide_eq_true d1]; rfl)
  · refine x_icmp_lt 16 dX7_feed_7 (by decide) (fun z => absurd z d1) (fun _ => ?_)
    refine x_iload_n 3 dX7_feed_10 rfl (by first | rfl | assumption) ?_
    refine x_bipush 8 dX7_feed_11 (by decide) ?_
    by_cases d2 : 8 < n
    · refine x_icmp_le 22 dX7_feed_13 (by decide) (fun z => absurd z (Int32.not_le.mpr d2)) (fun _ => ?_)
      exact h16 [] (by rw [decide_eq_true d2, Bool.not_true, Bool.and_false])
    · refine x_icmp_le 22 dX7_feed_13 (by decide) (fun _ => ?_) (fun z => absurd (Int32.not_lt.mp d2) z)
      rw [decide_eq_false d1, decide_eq_false d2, if_pos (by decide)]
      refine x_aload_n 0 dX7_feed_22 rfl (by first | rfl | assumption) ?_
      refine gf_X7_feed_217 dX7_feed_23 hm.1 (congrArg some f1) ?_
      refine x_iconst 3 dX7_feed_26 (by decide) ?_
      by_cases s3 : σ.1 = 3
      · rw [if_pos s3]
        refine x_icmp_ne 36 dX7_feed_27 (by decide) (fun z => absurd s3 z) (fun _ => ?_)
        refine x_aload_n 0 dX7_feed_30 rfl (by first | rfl | assumption) ?_
        refine x_iconst 2 dX7_feed_31 (by decide) ?_
        refine cl_X7_feed_32 (sm_fail hm 2) hm.1 (Nat.le_of_ble_eq_true rfl) ⟨Nat.le_of_ble_eq_true rfl, Nat.le_of_ble_eq_true rfl⟩ (fun r gq hq => ?_)
        obtain ⟨rfl, hm⟩ := hq
        refine x_iret rfl (by first | rfl | assumption | exact z_nb _) dX7_feed_35 (by decide) (by decide) ?_
        exact ⟨rfl, _, _, hm, rfl, hr.v0⟩
      · rw [if_neg s3]
        refine x_icmp_ne 36 dX7_feed_27 (by decide) (fun _ => ?_) (fun z => absurd z s3)
        refine x_aload_n 0 dX7_feed_36 rfl (by first | rfl | assumption) ?_
        refine gf_X7_feed_323 dX7_feed_37 hm.1 (congrArg some f31) ?_
        refine x_istore dX7_feed_40 (by decide) rfl ?_
        refine x_iconst 0 dX7_feed_42 (by decide) ?_
        refine x_istore dX7_feed_43 (by decide) rfl ?_
        obtain ⟨N, hN, rfl⟩ := nI_of2 (x := n) (M := 8) (n := 8) rfl (by rw [i32_lt] at d1 ⊢; have a1 : (1 : Int32).toInt = 1 := rfl; have a2 : (0 : Int32).toInt = 0 := rfl; omega) (Int32.not_lt.mp d2)
        rw [nI_clamp (by omega)]
        generalize hE : t_feedN W N 0 σ = σE
        have h81 : ∀ (h1 : q_H) (V1 : Nat → Value) (F1 : Nat → Nat → Int32) (x : Int32), k_m h0 h1 B V1 F1 → m_rel V1 F1 σE → V1 0 = .int 0 → q_X G mX7_feed (q_R mX7_feed 0 0) (q_FN G (m_ret h0 B (0, σE.2.2.1 - σ.2.2.1, σE)) 0 0) 81 [(0, .ref (B 0)), (1, .long W), (3, .int (nI N)), (4, .int σ.2.2.1), (5, .int x)] [] h1 0 0 := by
          intro h1 V1 F1 x hm hr k0
          have f31 := hr.f31
          refine x_aload_n 0 dX7_feed_81 rfl (by first | rfl | assumption) ?_
          refine gf_X7_feed_323 dX7_feed_82 hm.1 (congrArg some f31) ?_
          refine x_iload dX7_feed_85 (by first | rfl | assumption) ?_
          refine x_isub dX7_feed_87 ?_
          refine x_iret rfl (by first | rfl | assumption | exact z_nb _) dX7_feed_88 (by decide) (by decide) ?_
          exact ⟨rfl, _, _, hm, k0, hr⟩
        have loop : ∀ (m k : Nat) (x : Int32) (σ1 : z_S) (h1 : q_H) (V1 : Nat → Value) (F1 : Nat → Nat → Int32), x = nI k → k + m = N → k_m h0 h1 B V1 F1 → m_rel V1 F1 σ1 → t_wf σ1 → V1 0 = .int 0 → t_feedN W m k σ1 = σE → q_X G mX7_feed (q_R mX7_feed 0 0) (q_FN G (m_ret h0 B (0, σE.2.2.1 - σ.2.2.1, σE)) 0 0) 45 [(0, .ref (B 0)), (1, .long W), (3, .int (nI N)), (4, .int σ.2.2.1), (5, .int x)] [] h1 0 0 := by
          intro m
          induction m with
          | zero =>
            intro k x σ1 h1 V1 F1 hx hk hm hr hw k0 he
            subst hx
            refine x_iload dX7_feed_45 (by first | rfl | assumption) ?_
            refine x_iload_n 3 dX7_feed_47 rfl (by first | rfl | assumption) ?_
            refine x_icmp_ge 81 dX7_feed_48 (by decide) (fun _ => ?_) (fun z => absurd (nI_le (by omega) (by omega)) z)
            have he : σ1 = σE := he
            subst he
            exact h81 _ _ _ _ hm hr k0
          | succ m ih =>
            intro k x σ1 h1 V1 F1 hx hk hm hr hw k0 he
            subst hx
            have f1 := hr.f1
            refine x_iload dX7_feed_45 (by first | rfl | assumption) ?_
            refine x_iload_n 3 dX7_feed_47 rfl (by first | rfl | assumption) ?_
            refine x_icmp_ge 81 dX7_feed_48 (by decide) (fun z => absurd z (nI_ge (by omega) (by omega))) (fun _ => ?_)
            refine x_aload_n 0 dX7_feed_51 rfl (by first | rfl | assumption) ?_
            refine gf_X7_feed_217 dX7_feed_52 hm.1 (congrArg some f1) ?_
            refine x_iconst 3 dX7_feed_55 (by decide) ?_
            by_cases s3 : σ1.1 = 3
            · refine x_icmp_eq 81 dX7_feed_56 (by decide) (fun _ => ?_) (fun z => absurd s3 z)
              rw [t_feedN_3 _ _ _ s3] at he
              subst he
              exact h81 _ _ _ _ hm hr k0
            · refine x_icmp_eq 81 dX7_feed_56 (by decide) (fun z => absurd z s3) (fun _ => ?_)
              refine x_aload_n 0 dX7_feed_59 rfl (by first | rfl | assumption) ?_
              refine x_lload_n 1 dX7_feed_60 rfl (by first | rfl | assumption) ?_
              refine x_bipush 8 dX7_feed_61 (by decide) ?_
              refine x_iload dX7_feed_63 (by first | rfl | assumption) ?_
              refine x_imul dX7_feed_65 ?_
              refine x_lshr dX7_feed_66 ?_
              refine k2_X7_feed_62 dX7_feed_67 ?_
              refine x_land dX7_feed_70 ?_
              refine x_l2i dX7_feed_71 ?_
              rw [m_bk W k (by omega)]
              refine cl_X7_feed_72 (sm_come hm hr hw s3 (m_by_b W (nI k))) hm.1 (Nat.le_of_ble_eq_true rfl) ⟨Nat.le_of_ble_eq_true rfl, Nat.le_of_ble_eq_true rfl⟩ (fun r gq hq => ?_)
              obtain ⟨rfl, V2, F2, hm, k2, hr2⟩ := hq
              refine x_iinc 1 dX7_feed_75 (by first | rfl | assumption) (by decide) (by decide) rfl ?_
              refine x_goto 45 dX7_feed_78 (by decide) ?_
              exact ih (k + 1) _ (t_byte σ1 (t_b W (nI k))) _ V2 F2 (nI_1 k) (by omega) hm hr2 (t_wf_byte hw) (k2.trans k0) he
        exact loop N 0 _ σ _ _ _ rfl (by omega) hm hr hw rfl hE
end MdlZc
