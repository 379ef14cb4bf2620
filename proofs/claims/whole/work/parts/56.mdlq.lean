/-! the reference: violations, short frames -/
section MdlR
variable {G : q_G} {h0 h : q_H} {B : Nat → Nat} {V : Nat → Value} {F : Nat → Nat → Int32} {l out : List Int32}
/-- what an end with a code leaves -/
def m_ends (h0 : q_H) (B : Nat → Nat) (V : Nat → Value) (F : Nat → Nat → Int32) (x : Int32) (out : List Int32) : q_Q := fun o h' => o = none ∧ ∃ V' F', k_m h0 h' B V' F' ∧ (∀ j, (j ≠ 9 ∧ j ≠ 1) ∧ j ≠ 2 → V' j = V j) ∧ V' 1 = .int 3 ∧ V' 2 = .int x ∧ (∀ j, j ≠ 5 → F' j = F j) ∧ m_o V' F' out
theorem sm_violate {st : Int32} (hm : k_m h0 h B V F) (f1 : V 1 = .int st) (ho : m_o V F out) (hn : out.length + 4 ≤ 800) (x : Int32) : q_SP G mX7_violate [.ref (B 0), .int x] h 0 0 (m_ends h0 B V F x (if st = 1 then out ++ [136, 2] ++ [x / 256, x - x / 256 * 256] else out)) := by
  refine q_enter (M := mX7_violate) (by decide +kernel) rfl (Nat.le_of_ble_eq_true rfl) ?_
  refine x_aload_n 0 dX7_violate_0 rfl (by first | rfl | assumption) ?_
  refine gf_X7_violate_217 dX7_violate_1 hm.1 (congrArg some f1) ?_
  refine x_iconst 1 dX7_violate_4 (by decide) ?_
  refine x_icmp_ne 13 dX7_violate_5 (by decide) (fun c5 => ?_) (fun c5 => ?_)
  · rw [if_neg c5]
    refine x_aload_n 0 dX7_violate_13 rfl (by first | rfl | assumption) ?_
    refine x_iconst 3 dX7_violate_14 (by decide) ?_
    refine pf_X7_violate_217 dX7_violate_15 hm.1 (Nat.le_of_ble_eq_true rfl) ?_
    refine x_gm hm (fun gm hm f1 => ?_)
    refine x_aload_n 0 dX7_violate_18 rfl (by first | rfl | assumption) ?_
    refine x_iload_n 1 dX7_violate_19 rfl (by first | rfl | assumption) ?_
    refine pf_X7_violate_266 dX7_violate_20 hm.1 (Nat.le_of_ble_eq_true rfl) ?_
    refine x_gm hm (fun gm hm f2 => ?_)
    refine x_vret rfl dX7_violate_23 (by decide) (by decide) ?_
    exact ⟨rfl, _, _, hm, fun j hj => by rw [m_un hj.2, m_un hj.1.2], rfl, rfl, fun _ _ => rfl, (ho.fld (by decide)).fld (by decide)⟩
  · rw [if_pos c5]
    refine x_aload_n 0 dX7_violate_8 rfl (by first | rfl | assumption) ?_
    refine x_iload_n 1 dX7_violate_9 rfl (by first | rfl | assumption) ?_
    refine cl_X7_violate_10 (sm_sayClose hm ho hn x) hm.1 (Nat.le_of_ble_eq_true rfl) ⟨Nat.le_of_ble_eq_true rfl, Nat.le_of_ble_eq_true rfl⟩ (fun r g hq => ?_)
    obtain ⟨rfl, V2, F2, hm, q2, o2⟩ := hq
    refine x_aload_n 0 dX7_violate_13 rfl (by first | rfl | assumption) ?_
    refine x_iconst 3 dX7_violate_14 (by decide) ?_
    refine pf_X7_violate_217 dX7_violate_15 hm.1 (Nat.le_of_ble_eq_true rfl) ?_
    refine x_gm hm (fun gm hm f1 => ?_)
    refine x_aload_n 0 dX7_violate_18 rfl (by first | rfl | assumption) ?_
    refine x_iload_n 1 dX7_violate_19 rfl (by first | rfl | assumption) ?_
    refine pf_X7_violate_266 dX7_violate_20 hm.1 (Nat.le_of_ble_eq_true rfl) ?_
    refine x_gm hm (fun gm hm f2 => ?_)
    refine x_vret rfl dX7_violate_23 (by decide) (by decide) ?_
    exact ⟨rfl, _, _, hm, fun j hj => by rw [m_un hj.2, m_un hj.1.2]; exact q2.1 j hj.1.1, rfl, rfl, fun j hj => q2.2 j hj, (o2.fld (by decide)).fld (by decide)⟩
theorem sm_isBrief {kd : Int32} (hm : k_m h0 h B V F) (f14 : V 14 = .int kd) : q_SP G mX7_isBrief [.ref (B 0)] h 0 0 (fun o h' => o = some (.int (z_b (r_short kd))) ∧ h' = h) := by
  refine q_enter (M := mX7_isBrief) (by decide +kernel) rfl (Nat.le_of_ble_eq_true rfl) ?_
  refine x_aload_n 0 dX7_isBrief_0 rfl (by first | rfl | assumption) ?_
  refine gf_X7_isBrief_273 dX7_isBrief_1 hm.1 (congrArg some f14) ?_
  refine x_bipush 8 dX7_isBrief_4 (by decide) ?_
  by_cases c1 : kd < 8
  · refine x_icmp_lt 13 dX7_isBrief_6 (by decide) (fun _ => ?_) (fun z => absurd c1 z)
    refine x_iconst 0 dX7_isBrief_13 (by decide) ?_
    refine x_iret rfl (z_nb false) dX7_isBrief_14 (by decide) (by decide) ?_
    exact ⟨by unfold r_short; rw [decide_eq_true c1]; rfl, rfl⟩
  · refine x_icmp_lt 13 dX7_isBrief_6 (by decide) (fun z => absurd z c1) (fun _ => ?_)
    refine x_iconst 1 dX7_isBrief_9 (by decide) ?_
    refine x_goto 14 dX7_isBrief_10 (by decide) ?_
    refine x_iret rfl (z_nb true) dX7_isBrief_14 (by decide) (by decide) ?_
    exact ⟨by unfold r_short; rw [decide_eq_false c1]; rfl, rfl⟩
theorem sm_putDraft (hm : k_m h0 h B V F) (f11 : V 11 = .int (nI l.length)) (hl : m_l (F 6) l) (hN : l.length ≤ 100) (ho : m_o V F out) (hn : out.length + l.length ≤ 800) : m_says G mX7_putDraft [.ref (B 0)] h0 h B V F (out ++ l) := by
  unfold m_says
  refine q_enter (M := mX7_putDraft) (by decide +kernel) rfl (Nat.le_of_ble_eq_true rfl) ?_
  refine x_iconst 0 dX7_putDraft_0 (by decide) ?_
  refine x_istore_n 1 dX7_putDraft_1 rfl (by decide) rfl ?_
  have loop : ∀ (m k : Nat) (x : Int32) (h1 : q_H) (V1 : Nat → Value) (F1 : Nat → Nat → Int32), x = nI k → k + m = l.length → k_m h0 h1 B V1 F1 → m_oo V F V1 F1 → m_o V1 F1 (out ++ l.take k) →
      q_X G mX7_putDraft (q_R mX7_putDraft 0 0) (q_FN G (fun o h' => o = none ∧ ∃ V' F', k_m h0 h' B V' F' ∧ m_oo V F V' F' ∧ m_o V' F' (out ++ l)) 0 0) 2 [(0, .ref (B 0)), (1, .int x)] [] h1 0 0 := by
    intro m
    induction m with
    | zero =>
      intro k x h1 V1 F1 hx hk hm q1 o1
      subst hx
      have f11 : V1 11 = .int (nI l.length) := (q1.1 11 (by decide)).trans f11
      refine x_iload_n 1 dX7_putDraft_2 rfl (by first | rfl | assumption) ?_
      refine x_aload_n 0 dX7_putDraft_3 rfl (by first | rfl | assumption) ?_
      refine gf_X7_putDraft_84 dX7_putDraft_4 hm.1 (congrArg some f11) ?_
      refine x_icmp_ge 26 dX7_putDraft_7 (by decide) (fun _ => ?_) (fun z => absurd (nI_le (by omega) (by omega)) z)
      refine x_vret rfl dX7_putDraft_26 (by decide) (by decide) ?_
      rw [List.take_of_length_le (by omega)] at o1
      exact ⟨rfl, V1, F1, hm, q1, o1⟩
    | succ m ih =>
      intro k x h1 V1 F1 hx hk hm q1 o1
      subst hx
      have f11 : V1 11 = .int (nI l.length) := (q1.1 11 (by decide)).trans f11
      have v0 : vp_in (nI k) 100 := vp_in_nI (by omega) (by omega)
      have hlk : (out ++ l.take k).length = out.length + k := by rw [List.length_append, List.length_take]; omega
      refine x_iload_n 1 dX7_putDraft_2 rfl (by first | rfl | assumption) ?_
      refine x_aload_n 0 dX7_putDraft_3 rfl (by first | rfl | assumption) ?_
      refine gf_X7_putDraft_84 dX7_putDraft_4 hm.1 (congrArg some f11) ?_
      refine x_icmp_ge 26 dX7_putDraft_7 (by decide) (fun z => absurd z (nI_ge (by omega) (by omega))) (fun _ => ?_)
      refine x_aload_n 0 dX7_putDraft_10 rfl (by first | rfl | assumption) ?_
      refine x_aload_n 0 dX7_putDraft_11 rfl (by first | rfl | assumption) ?_
      refine gf_X7_putDraft_25 dX7_putDraft_12 hm.1 (congrArg some hm.r10) ?_
      refine x_iload_n 1 dX7_putDraft_15 rfl (by first | rfl | assumption) ?_
      refine x_iald dX7_putDraft_16 (by first | exact hm.a1 | exact hm.a2 | exact hm.a3 | exact hm.a4 | exact hm.a5 | exact hm.a6 | exact hm.a7 | exact hm.a8 | exact hm.a9 | exact hm.a10 | exact hm.a11 | exact hm.a12 | exact hm.a13 | exact hm.a14 | exact hm.a15) (by assumption) ?_
      rw [nI_clamp (by omega), q1.2 6 (by decide), hl k (by omega)]
      refine cl_X7_putDraft_17 (sm_put1 hm o1 (by omega) _) hm.1 (Nat.le_of_ble_eq_true rfl) ⟨Nat.le_of_ble_eq_true rfl, Nat.le_of_ble_eq_true rfl⟩ (fun r g hq => ?_)
      obtain ⟨rfl, V2, F2, hm, q2, o2⟩ := hq
      refine x_iinc 1 dX7_putDraft_20 (by first | rfl | assumption) (by decide) (by decide) rfl ?_
      refine x_goto 2 dX7_putDraft_23 (by decide) ?_
      refine ih (k + 1) _ g V2 F2 (nI_1 k) (by omega) hm (q1.tr q2) ?_
      rw [List.take_succ, List.getElem?_eq_getElem (show k < l.length by omega), ← List.append_assoc]
      rw [List.getD_eq_getElem?_getD, List.getElem?_eq_getElem (show k < l.length by omega)] at o2
      exact o2
  exact loop l.length 0 _ h V F rfl (by omega) hm m_oo.rf (by rw [List.take_zero, List.append_nil]; exact ho)
end MdlR
