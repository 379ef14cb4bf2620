/-! the reference: what is asked of it, simple ones -/
section MdlS
variable {G : q_G} {h0 h : q_H} {B : Nat → Nat} {V : Nat → Value} {F : Nat → Nat → Int32} {l out : List Int32}
theorem sm_get_state {x : Int32} (hm : k_m h0 h B V F) (f1 : V 1 = .int x) : q_SP G mX7_state [.ref (B 0)] h 0 0 (fun o h' => o = some (.int x) ∧ k_m h0 h' B (m_u V 0 (.int 0)) F) := by
  refine q_enter (M := mX7_state) (by decide +kernel) rfl (Nat.le_of_ble_eq_true rfl) ?_
  refine x_aload_n 0 dX7_state_0 rfl (by first | rfl | assumption) ?_
  refine x_iconst 0 dX7_state_1 (by decide) ?_
  refine pf_X7_state_55 dX7_state_2 hm.1 (Nat.le_of_ble_eq_true rfl) ?_
  refine x_gm hm (fun gm hm f0 => ?_)
  refine x_aload_n 0 dX7_state_5 rfl (by first | rfl | assumption) ?_
  refine gf_X7_state_217 dX7_state_6 hm.1 (congrArg some f1) ?_
  refine x_iret rfl (by first | rfl | assumption | exact z_nb _) dX7_state_9 (by decide) (by decide) ?_
  exact ⟨rfl, hm⟩
theorem sm_get_endCode {x : Int32} (hm : k_m h0 h B V F) (f2 : V 2 = .int x) : q_SP G mX7_endCode [.ref (B 0)] h 0 0 (fun o h' => o = some (.int x) ∧ k_m h0 h' B (m_u V 0 (.int 0)) F) := by
  refine q_enter (M := mX7_endCode) (by decide +kernel) rfl (Nat.le_of_ble_eq_true rfl) ?_
  refine x_aload_n 0 dX7_endCode_0 rfl (by first | rfl | assumption) ?_
  refine x_iconst 0 dX7_endCode_1 (by decide) ?_
  refine pf_X7_endCode_55 dX7_endCode_2 hm.1 (Nat.le_of_ble_eq_true rfl) ?_
  refine x_gm hm (fun gm hm f0 => ?_)
  refine x_aload_n 0 dX7_endCode_5 rfl (by first | rfl | assumption) ?_
  refine gf_X7_endCode_266 dX7_endCode_6 hm.1 (congrArg some f2) ?_
  refine x_iret rfl (by first | rfl | assumption | exact z_nb _) dX7_endCode_9 (by decide) (by decide) ?_
  exact ⟨rfl, hm⟩
theorem sm_get_outLength {x : Int32} (hm : k_m h0 h B V F) (f9 : V 9 = .int x) : q_SP G mX7_outLength [.ref (B 0)] h 0 0 (fun o h' => o = some (.int x) ∧ k_m h0 h' B (m_u V 0 (.int 0)) F) := by
  refine q_enter (M := mX7_outLength) (by decide +kernel) rfl (Nat.le_of_ble_eq_true rfl) ?_
  refine x_aload_n 0 dX7_outLength_0 rfl (by first | rfl | assumption) ?_
  refine x_iconst 0 dX7_outLength_1 (by decide) ?_
  refine pf_X7_outLength_55 dX7_outLength_2 hm.1 (Nat.le_of_ble_eq_true rfl) ?_
  refine x_gm hm (fun gm hm f0 => ?_)
  refine x_aload_n 0 dX7_outLength_5 rfl (by first | rfl | assumption) ?_
  refine gf_X7_outLength_59 dX7_outLength_6 hm.1 (congrArg some f9) ?_
  refine x_iret rfl (by first | rfl | assumption | exact z_nb _) dX7_outLength_9 (by decide) (by decide) ?_
  exact ⟨rfl, hm⟩
theorem sm_get_messages {x : Int32} (hm : k_m h0 h B V F) (f27 : V 27 = .int x) : q_SP G mX7_messages [.ref (B 0)] h 0 0 (fun o h' => o = some (.int x) ∧ k_m h0 h' B (m_u V 0 (.int 0)) F) := by
  refine q_enter (M := mX7_messages) (by decide +kernel) rfl (Nat.le_of_ble_eq_true rfl) ?_
  refine x_aload_n 0 dX7_messages_0 rfl (by first | rfl | assumption) ?_
  refine x_iconst 0 dX7_messages_1 (by decide) ?_
  refine pf_X7_messages_55 dX7_messages_2 hm.1 (Nat.le_of_ble_eq_true rfl) ?_
  refine x_gm hm (fun gm hm f0 => ?_)
  refine x_aload_n 0 dX7_messages_5 rfl (by first | rfl | assumption) ?_
  refine gf_X7_messages_326 dX7_messages_6 hm.1 (congrArg some f27) ?_
  refine x_iret rfl (by first | rfl | assumption | exact z_nb _) dX7_messages_9 (by decide) (by decide) ?_
  exact ⟨rfl, hm⟩
theorem sm_get_delivered {x : Int32} (hm : k_m h0 h B V F) (f31 : V 31 = .int x) : q_SP G mX7_delivered [.ref (B 0)] h 0 0 (fun o h' => o = some (.int x) ∧ k_m h0 h' B (m_u V 0 (.int 0)) F) := by
  refine q_enter (M := mX7_delivered) (by decide +kernel) rfl (Nat.le_of_ble_eq_true rfl) ?_
  refine x_aload_n 0 dX7_delivered_0 rfl (by first | rfl | assumption) ?_
  refine x_iconst 0 dX7_delivered_1 (by decide) ?_
  refine pf_X7_delivered_55 dX7_delivered_2 hm.1 (Nat.le_of_ble_eq_true rfl) ?_
  refine x_gm hm (fun gm hm f0 => ?_)
  refine x_aload_n 0 dX7_delivered_5 rfl (by first | rfl | assumption) ?_
  refine gf_X7_delivered_323 dX7_delivered_6 hm.1 (congrArg some f31) ?_
  refine x_iret rfl (by first | rfl | assumption | exact z_nb _) dX7_delivered_9 (by decide) (by decide) ?_
  exact ⟨rfl, hm⟩
theorem sm_get_pongs {x : Int32} (hm : k_m h0 h B V F) (f32 : V 32 = .int x) : q_SP G mX7_pongs [.ref (B 0)] h 0 0 (fun o h' => o = some (.int x) ∧ k_m h0 h' B (m_u V 0 (.int 0)) F) := by
  refine q_enter (M := mX7_pongs) (by decide +kernel) rfl (Nat.le_of_ble_eq_true rfl) ?_
  refine x_aload_n 0 dX7_pongs_0 rfl (by first | rfl | assumption) ?_
  refine x_iconst 0 dX7_pongs_1 (by decide) ?_
  refine pf_X7_pongs_55 dX7_pongs_2 hm.1 (Nat.le_of_ble_eq_true rfl) ?_
  refine x_gm hm (fun gm hm f0 => ?_)
  refine x_aload_n 0 dX7_pongs_5 rfl (by first | rfl | assumption) ?_
  refine gf_X7_pongs_332 dX7_pongs_6 hm.1 (congrArg some f32) ?_
  refine x_iret rfl (by first | rfl | assumption | exact z_nb _) dX7_pongs_9 (by decide) (by decide) ?_
  exact ⟨rfl, hm⟩
theorem sm_clear (hm : k_m h0 h B V F) : q_SP G mX7_clear [.ref (B 0)] h 0 0 (fun o h' => o = none ∧ k_m h0 h' B (m_u (m_u V 0 (.int 0)) 11 (.int 0)) F) := by
  refine q_enter (M := mX7_clear) (by decide +kernel) rfl (Nat.le_of_ble_eq_true rfl) ?_
  refine x_aload_n 0 dX7_clear_0 rfl (by first | rfl | assumption) ?_
  refine x_iconst 0 dX7_clear_1 (by decide) ?_
  refine pf_X7_clear_55 dX7_clear_2 hm.1 (Nat.le_of_ble_eq_true rfl) ?_
  refine x_gm hm (fun gm hm f0 => ?_)
  refine x_aload_n 0 dX7_clear_5 rfl (by first | rfl | assumption) ?_
  refine x_iconst 0 dX7_clear_6 (by decide) ?_
  refine pf_X7_clear_84 dX7_clear_7 hm.1 (Nat.le_of_ble_eq_true rfl) ?_
  refine x_gm hm (fun gm hm f11 => ?_)
  refine x_vret rfl dX7_clear_10 (by decide) (by decide) ?_
  exact ⟨rfl, hm⟩
end MdlS
