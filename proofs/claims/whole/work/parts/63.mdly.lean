/-! the reference: a message is whole; a frame is whole -/
section MdlY
variable {G : q_G} {h0 h : q_H} {B : Nat → Nat} {V V' V0 : Nat → Value} {F F' : Nat → Nat → Int32} {l : List Int32} {st ec dl pg : Int32} {rq out dr : List Int32} {R R0 : z_R} {w : List z_Ms} {pl kd mkd lsz lrd mrd crd : Int32} {la uw : Bool} {ln : Int64} {fm : Nat → Int32} {msg sc : List Int32} {c : z_T3}
/-- the next message of those that wait -/
theorem m_wt.add {f10 f11 f12 : Nat → Int32} (hw : m_wt V F w) (h4 : w.length < 4) (hl : msg.length ≤ 300) (e10 : ∀ k, k < w.length → f10 k = F 10 k) (e11 : ∀ k, k < w.length → f11 k = F 11 k) (e12 : ∀ i, i < 300 * w.length → f12 i = F 12 i) (a10 : f10 w.length = mkd) (a11 : f11 w.length = nI msg.length) (a12 : ∀ j, j < msg.length → f12 (300 * w.length + j) = msg.getD j 0) : m_wt (m_u V 27 (.int (nI (w.length + 1)))) (m_u (m_u (m_u F 10 f10) 11 f11) 12 f12) (w ++ [(mkd, msg)]) := by
  obtain ⟨x1, x2, x3⟩ := hw
  have hlen : (w ++ [(mkd, msg)]).length = w.length + 1 := by rw [List.length_append]; rfl
  refine ⟨by rw [hlen]; rfl, by omega, fun k hk => ?_⟩
  show f10 k = _ ∧ f11 k = _ ∧ _ ∧ ∀ j, _ → f12 _ = _
  by_cases hkw : k < w.length
  · have e : (w ++ [(mkd, msg)]).getD k (0, []) = w.getD k (0, []) := by
      rw [List.getD_eq_getElem?_getD, List.getD_eq_getElem?_getD, List.getElem?_append_left hkw]
    obtain ⟨y1, y2, y3, y4⟩ := x3 k hkw
    rw [e, e10 k hkw, e11 k hkw]
    refine ⟨y1, y2, y3, fun j hj => ?_⟩
    rw [e12 _ (by omega)]
    exact y4 j hj
  · have ek : k = w.length := by omega
    subst ek
    have e : (w ++ [(mkd, msg)]).getD w.length (0, []) = (mkd, msg) := by
      rw [List.getD_eq_getElem?_getD, List.getElem?_append_right (Nat.le_refl _), Nat.sub_self]
      rfl
    rw [e]
    exact ⟨a10, a11, hl, a12⟩
def m_dlv (h0 : q_H) (B : Nat → Nat) (V : Nat → Value) (st ec dl pg : Int32) (rq out dr : List Int32) (w : List z_Ms) : q_Q := fun o h' => o = none ∧ ∃ V' F', k_m h0 h' B V' F' ∧ V' 0 = V 0 ∧ V' 12 = V 12 ∧ V' 20 = .int 0 ∧ m_rs V' F' st ec dl pg rq out dr w
theorem sm_deliver (hm : k_m h0 h B V F) (hr : m_rs V F st ec dl pg rq out dr w) (hms : m_ms V F mkd msg c) : q_SP G mX7_deliver [.ref (B 0)] h 0 0 (m_dlv h0 B V st ec (dl + 1) pg rq out dr (if w.length < 4 then w ++ [(mkd, msg)] else w)) := by
  have f31 := hr.1.2.2.1
  have hwt := hr.2.2.2.2.1
  have f27 := hwt.1
  have h4 := hwt.2.1
  obtain ⟨f21, f22, hl, h300, -⟩ := hms
  refine q_enter (M := mX7_deliver) (by decide +kernel) rfl (Nat.le_of_ble_eq_true rfl) ?_
  refine x_aload_n 0 dX7_deliver_0 rfl (by first | rfl | assumption) ?_
  refine x_iconst 0 dX7_deliver_1 (by decide) ?_
  refine pf_X7_deliver_276 dX7_deliver_2 (by first | exact z_nb _ | decide) (by first | exact z_fb _ | decide) hm.1 (Nat.le_of_ble_eq_true rfl) ?_
  refine x_gm hm (fun gm hm f20 => ?_)
  refine x_aload_n 0 dX7_deliver_5 rfl (by first | rfl | assumption) ?_
  refine x_dup dX7_deliver_6 rfl ?_
  refine gf_X7_deliver_323 dX7_deliver_7 hm.1 (congrArg some f31) ?_
  refine x_iconst 1 dX7_deliver_10 (by decide) ?_
  refine x_iadd dX7_deliver_11 ?_
  refine pf_X7_deliver_323 dX7_deliver_12 hm.1 (Nat.le_of_ble_eq_true rfl) ?_
  refine x_gm hm (fun gm hm f31 => ?_)
  refine x_aload_n 0 dX7_deliver_15 rfl (by first | rfl | assumption) ?_
  refine gf_X7_deliver_326 dX7_deliver_16 hm.1 (congrArg some f27) ?_
  refine x_iconst 4 dX7_deliver_19 (by decide) ?_
  have hr1 : m_rs (m_u (m_u V 20 (.int 0)) 31 (.int (dl + 1))) F st ec (dl + 1) pg rq out dr w := ⟨⟨hr.1.1, hr.1.2.1, rfl, hr.1.2.2.2⟩, hr.2⟩
  generalize hV1 : m_u (m_u V 20 (.int 0)) 31 (.int (dl + 1)) = V1 at hm hr1
  have f21 : V1 21 = .int mkd := by rw [← hV1]; exact f21
  have f22 : V1 22 = .int (nI msg.length) := by rw [← hV1]; exact f22
  have f27 : V1 27 = .int (nI w.length) := by rw [← hV1]; exact f27
  have k0 : V1 0 = V 0 := by rw [← hV1]; rfl
  have k12 : V1 12 = V 12 := by rw [← hV1]; rfl
  have k20 : V1 20 = .int 0 := by rw [← hV1]; rfl
  by_cases c4 : w.length < 4
  · rw [if_pos c4]
    refine x_icmp_ne 24 dX7_deliver_20 (by decide) (fun _ => ?_) (fun z => absurd z (fun z => absurd ((nI_eq (b := 4) (by omega) (by omega)).mp z) (by omega)))
    have v0 : vp_in (nI w.length) 4 := vp_in_nI c4 (by omega)
    refine x_aload_n 0 dX7_deliver_24 rfl (by first | rfl | assumption) ?_
    refine gf_X7_deliver_37 dX7_deliver_25 hm.1 (congrArg some hm.r28) ?_
    refine x_aload_n 0 dX7_deliver_28 rfl (by first | rfl | assumption) ?_
    refine gf_X7_deliver_326 dX7_deliver_29 hm.1 (congrArg some f27) ?_
    refine x_aload_n 0 dX7_deliver_32 rfl (by first | rfl | assumption) ?_
    refine gf_X7_deliver_282 dX7_deliver_33 hm.1 (congrArg some f21) ?_
    refine x_iast dX7_deliver_36 (by first | exact hm.a1 | exact hm.a2 | exact hm.a3 | exact hm.a4 | exact hm.a5 | exact hm.a6 | exact hm.a7 | exact hm.a8 | exact hm.a9 | exact hm.a10 | exact hm.a11 | exact hm.a12 | exact hm.a13 | exact hm.a14 | exact hm.a15) (by assumption) ?_
    refine x_ga hm (by decide) rfl (fun gm hm => ?_)
    refine x_aload_n 0 dX7_deliver_37 rfl (by first | rfl | assumption) ?_
    refine gf_X7_deliver_40 dX7_deliver_38 hm.1 (congrArg some hm.r29) ?_
    refine x_aload_n 0 dX7_deliver_41 rfl (by first | rfl | assumption) ?_
    refine gf_X7_deliver_326 dX7_deliver_42 hm.1 (congrArg some f27) ?_
    refine x_aload_n 0 dX7_deliver_45 rfl (by first | rfl | assumption) ?_
    refine gf_X7_deliver_285 dX7_deliver_46 hm.1 (congrArg some f22) ?_
    refine x_iast dX7_deliver_49 (by first | exact hm.a1 | exact hm.a2 | exact hm.a3 | exact hm.a4 | exact hm.a5 | exact hm.a6 | exact hm.a7 | exact hm.a8 | exact hm.a9 | exact hm.a10 | exact hm.a11 | exact hm.a12 | exact hm.a13 | exact hm.a14 | exact hm.a15) (by assumption) ?_
    refine x_ga hm (by decide) rfl (fun gm hm => ?_)
    refine x_iconst 0 dX7_deliver_50 (by decide) ?_
    refine x_istore_n 1 dX7_deliver_51 rfl (by decide) rfl ?_
    rw [nI_clamp (by omega)] at hm
    have loop : ∀ (m k : Nat) (x : Int32) (h1 : q_H) (f : Nat → Int32), x = nI k → k + m = msg.length → k_m h0 h1 B V1 (m_u (m_u (m_u F 10 (upd (F 10) w.length mkd)) 11 (upd (F 11) w.length (nI msg.length))) 12 f) → (∀ i, i < 300 * w.length → f i = F 12 i) → (∀ j, j < k → f (300 * w.length + j) = msg.getD j 0) →
        q_X G mX7_deliver (q_R mX7_deliver 0 0) (q_FN G (m_dlv h0 B V st ec (dl + 1) pg rq out dr (w ++ [(mkd, msg)])) 0 0) 52 [(0, .ref (B 0)), (1, .int x)] [] h1 0 0 := by
      intro m
      induction m with
      | zero =>
        intro k x h1 f hx hk hm i1 i2
        subst hx
        refine x_iload_n 1 dX7_deliver_52 rfl (by first | rfl | assumption) ?_
        refine x_aload_n 0 dX7_deliver_53 rfl (by first | rfl | assumption) ?_
        refine gf_X7_deliver_285 dX7_deliver_54 hm.1 (congrArg some f22) ?_
        refine x_icmp_ge 87 dX7_deliver_57 (by decide) (fun _ => ?_) (fun z => absurd (nI_le (by omega) (by omega)) z)
        refine x_aload_n 0 dX7_deliver_87 rfl (by first | rfl | assumption) ?_
        refine x_dup dX7_deliver_88 rfl ?_
        refine gf_X7_deliver_326 dX7_deliver_89 hm.1 (congrArg some f27) ?_
        refine x_iconst 1 dX7_deliver_92 (by decide) ?_
        refine x_iadd dX7_deliver_93 ?_
        refine pf_X7_deliver_326 dX7_deliver_94 hm.1 (Nat.le_of_ble_eq_true rfl) ?_
        refine x_gm hm (fun gm hm f27 => ?_)
        refine x_vret rfl dX7_deliver_97 (by decide) (by decide) ?_
        rw [nI_1] at hm
        refine ⟨rfl, _, _, hm, k0, k12, k20, ⟨hr1.1, fun z => hr1.2.1 z, hr1.2.2.1, hr1.2.2.2.1, m_wt.add hr1.2.2.2.2.1 c4 h300 (fun k hk => pk_un (by omega)) (fun k hk => pk_un (by omega)) i1 pk_us pk_us (fun j hj => i2 j (by omega)), hr1.2.2.2.2.2⟩⟩
      | succ m ih =>
        intro k x h1 f hx hk hm i1 i2
        subst hx
        have e1 : 300 * nI w.length + nI k = nI (300 * w.length + k) := by
          rw [show (300 : Int32) = nI 300 from rfl, pk_mul, nI_add]
        have v1 : vp_in (nI k) 300 := vp_in_nI (by omega) (by omega)
        have v2 : vp_in (300 * nI w.length + nI k) 1200 := by rw [e1]; exact vp_in_nI (by omega) (by omega)
        refine x_iload_n 1 dX7_deliver_52 rfl (by first | rfl | assumption) ?_
        refine x_aload_n 0 dX7_deliver_53 rfl (by first | rfl | assumption) ?_
        refine gf_X7_deliver_285 dX7_deliver_54 hm.1 (congrArg some f22) ?_
        refine x_icmp_ge 87 dX7_deliver_57 (by decide) (fun z => absurd z (nI_ge (by omega) (by omega))) (fun _ => ?_)
        refine x_aload_n 0 dX7_deliver_60 rfl (by first | rfl | assumption) ?_
        refine gf_X7_deliver_43 dX7_deliver_61 hm.1 (congrArg some hm.r30) ?_
        refine x_sipush 300 dX7_deliver_64 (by decide) ?_
        refine x_aload_n 0 dX7_deliver_67 rfl (by first | rfl | assumption) ?_
        refine gf_X7_deliver_326 dX7_deliver_68 hm.1 (congrArg some f27) ?_
        refine x_imul dX7_deliver_71 ?_
        refine x_iload_n 1 dX7_deliver_72 rfl (by first | rfl | assumption) ?_
        refine x_iadd dX7_deliver_73 ?_
        refine x_aload_n 0 dX7_deliver_74 rfl (by first | rfl | assumption) ?_
        refine gf_X7_deliver_34 dX7_deliver_75 hm.1 (congrArg some hm.r23) ?_
        refine x_iload_n 1 dX7_deliver_78 rfl (by first | rfl | assumption) ?_
        refine x_iald dX7_deliver_79 (by first | exact hm.a1 | exact hm.a2 | exact hm.a3 | exact hm.a4 | exact hm.a5 | exact hm.a6 | exact hm.a7 | exact hm.a8 | exact hm.a9 | exact hm.a10 | exact hm.a11 | exact hm.a12 | exact hm.a13 | exact hm.a14 | exact hm.a15) (by assumption) ?_
        refine x_iast dX7_deliver_80 (by first | exact hm.a1 | exact hm.a2 | exact hm.a3 | exact hm.a4 | exact hm.a5 | exact hm.a6 | exact hm.a7 | exact hm.a8 | exact hm.a9 | exact hm.a10 | exact hm.a11 | exact hm.a12 | exact hm.a13 | exact hm.a14 | exact hm.a15) (by assumption) ?_
        refine x_ga hm (by decide) rfl (fun gm hm => ?_)
        refine x_iinc 1 dX7_deliver_81 (by first | rfl | assumption) (by decide) (by decide) rfl ?_
        refine x_goto 52 dX7_deliver_84 (by decide) ?_
        rw [e1, nI_clamp (by omega), nI_clamp (by omega), show (m_u (m_u (m_u F 10 (upd (F 10) w.length mkd)) 11 (upd (F 11) w.length (nI msg.length))) 12 f) 9 = F 9 from rfl, hl k (by omega)] at hm
        rw [m_uu] at hm
        refine ih (k + 1) _ _ _ (nI_1 k) (by omega) hm (fun i hi => ?_) (fun j hj => ?_)
        · rw [show (m_u (m_u (m_u F 10 (upd (F 10) w.length mkd)) 11 (upd (F 11) w.length (nI msg.length))) 12 f) 12 = f from rfl, pk_un (by omega)]
          exact i1 i hi
        · rw [show (m_u (m_u (m_u F 10 (upd (F 10) w.length mkd)) 11 (upd (F 11) w.length (nI msg.length))) 12 f) 12 = f from rfl]
          by_cases hjk : j = k
          · rw [hjk, pk_us]
          · rw [pk_un (by omega)]
            exact i2 j (by omega)
    have e12 : m_u (m_u (m_u F 10 (upd (F 10) w.length mkd)) 11 (upd (F 11) w.length (nI msg.length))) 12 (F 12) = m_u (m_u F 10 (upd (F 10) w.length mkd)) 11 (upd (F 11) w.length (nI msg.length)) := m_uself (f := m_u (m_u F 10 (upd (F 10) w.length mkd)) 11 (upd (F 11) w.length (nI msg.length)))
    refine loop msg.length 0 _ _ (F 12) rfl (by omega) ?_ (fun _ _ => rfl) (fun j hj => absurd hj (Nat.not_lt_zero j))
    rw [e12]
    exact hm
  · rw [if_neg c4]
    refine x_icmp_ne 24 dX7_deliver_20 (by decide) (fun z => absurd (show nI w.length = 4 by rw [show w.length = 4 by omega]; rfl) z) (fun _ => ?_)
    refine x_vret rfl dX7_deliver_23 (by decide) (by decide) ?_
    exact ⟨rfl, _, _, hm, k0, k12, k20, hr1⟩
end MdlY
