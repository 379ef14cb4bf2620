/-! the reference: the length is known -/
section MdlT
variable {G : q_G} {h0 h : q_H} {B : Nat → Nat} {V : Nat → Value} {F : Nat → Nat → Int32} {l out : List Int32}
theorem sm_measured {st kd wl : Int32} {ln : Int64} (hm : k_m h0 h B V F) (f1 : V 1 = .int st) (f14 : V 14 = .int kd) (f15 : V 15 = .long ln) (f22 : r_short kd = false → V 22 = .int wl) (ho : m_o V F out) (hn : out.length + 4 ≤ 800) : q_SP G mX7_measured [.ref (B 0)] h 0 0 (fun o h' => if r_short kd = false ∧ 300 - wl.toInt64 < ln then m_ends h0 B V F 1009 (if st = 1 then out ++ [136, 2] ++ [(1009 : Int32) / 256, (1009 : Int32) - (1009 : Int32) / 256 * 256] else out) o h' else o = none ∧ k_m h0 h' B (m_u (m_u V 12 (.int 3)) 17 (.int 0)) F) := by
  have h32 : ¬ (r_short kd = false ∧ 300 - wl.toInt64 < ln) → q_X G mX7_measured (q_R mX7_measured 0 0) (q_FN G (fun o h' => if r_short kd = false ∧ 300 - wl.toInt64 < ln then m_ends h0 B V F 1009 (if st = 1 then out ++ [136, 2] ++ [(1009 : Int32) / 256, (1009 : Int32) - (1009 : Int32) / 256 * 256] else out) o h' else o = none ∧ k_m h0 h' B (m_u (m_u V 12 (.int 3)) 17 (.int 0)) F) 0 0) 32 [(0, .ref (B 0))] [] h 0 0 := by
    intro hc
    refine x_aload_n 0 dX7_measured_32 rfl (by first | rfl | assumption) ?_
    refine x_iconst 3 dX7_measured_33 (by decide) ?_
    refine pf_X7_measured_288 dX7_measured_34 hm.1 (Nat.le_of_ble_eq_true rfl) ?_
    refine x_gm hm (fun gm hm f12 => ?_)
    refine x_aload_n 0 dX7_measured_37 rfl (by first | rfl | assumption) ?_
    refine x_iconst 0 dX7_measured_38 (by decide) ?_
    refine pf_X7_measured_301 dX7_measured_39 hm.1 (Nat.le_of_ble_eq_true rfl) ?_
    refine x_gm hm (fun gm hm f17 => ?_)
    refine x_vret rfl dX7_measured_42 (by decide) (by decide) ?_
    show if _ then _ else _
    rw [if_neg hc]
    exact ⟨rfl, hm⟩
  refine q_enter (M := mX7_measured) (by decide +kernel) rfl (Nat.le_of_ble_eq_true rfl) ?_
  refine x_aload_n 0 dX7_measured_0 rfl (by first | rfl | assumption) ?_
  refine cl_X7_measured_1 (sm_isBrief hm f14) hm.1 (Nat.le_of_ble_eq_true rfl) ⟨Nat.le_of_ble_eq_true rfl, Nat.le_of_ble_eq_true rfl⟩ (fun r g hq => ?_)
  obtain ⟨rfl, hg⟩ := hq
  rw [hg]
  cases hb : r_short kd with
  | true =>
    refine x_if_ne 32 dX7_measured_4 (by decide) (fun _ => ?_) (fun z => absurd z (show ¬ z_b true = 0 by decide))
    rw [hb] at h32
    exact h32 (fun z => by cases z.1)
  | false =>
    have f22 := f22 hb
    rw [hb] at h32
    refine x_if_ne 32 dX7_measured_4 (by decide) (fun z => absurd (show z_b false = 0 from rfl) z) (fun _ => ?_)
    refine x_aload_n 0 dX7_measured_7 rfl (by first | rfl | assumption) ?_
    refine gf_X7_measured_295 dX7_measured_8 hm.1 (congrArg some f15) ?_
    refine k2_X7_measured_299 dX7_measured_11 ?_
    refine x_aload_n 0 dX7_measured_14 rfl (by first | rfl | assumption) ?_
    refine gf_X7_measured_285 dX7_measured_15 hm.1 (congrArg some f22) ?_
    refine x_i2l dX7_measured_18 ?_
    refine x_lsub dX7_measured_19 ?_
    refine x_lcmp dX7_measured_20 ?_
    by_cases hc : 300 - wl.toInt64 < ln
    · refine x_if_le 32 dX7_measured_21 (by decide) (fun z => absurd z (fun z => Int64.not_lt.mpr ((lg_cmp_le _ _).mp z) hc)) (fun _ => ?_)
      refine x_aload_n 0 dX7_measured_24 rfl (by first | rfl | assumption) ?_
      refine x_sipush 1009 dX7_measured_25 (by decide) ?_
      refine cl_X7_measured_28 (sm_violate hm f1 ho hn 1009) hm.1 (Nat.le_of_ble_eq_true rfl) ⟨Nat.le_of_ble_eq_true rfl, Nat.le_of_ble_eq_true rfl⟩ (fun r g hq => ?_)
      have hr := hq.1
      subst hr
      refine x_vret rfl dX7_measured_31 (by decide) (by decide) ?_
      show if _ then _ else _
      rw [if_pos ⟨rfl, hc⟩]
      exact hq
    · refine x_if_le 32 dX7_measured_21 (by decide) (fun _ => ?_) (fun z => absurd ((lg_cmp_le _ _).mpr (Int64.not_lt.mp hc)) z)
      exact h32 (fun z => hc z.2)
end MdlT
