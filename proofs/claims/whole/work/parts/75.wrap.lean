theorem tc_2 {w : Cond} (h : w ∈ tables_1_2) (g : (w.onTables && w.keepsFace) = true) : w ∈ q_TC := List.mem_filter.mpr ⟨List.mem_append_right _ (List.mem_append_right _ (List.mem_append_left _ h)), g⟩
theorem tc_4 {w : Cond} (h : w ∈ tables_1_4) (g : (w.onTables && w.keepsFace) = true) : w ∈ q_TC := List.mem_filter.mpr ⟨List.mem_append_right _ (List.mem_append_right _ (List.mem_append_right _ (List.mem_append_right _ (List.mem_append_left _ h)))), g⟩
/-! the law's own methods: each calls one of the class's and catches -/
section LawA
variable {G : q_G} {h : q_H} {A : Nat → Nat} {σ : z_S} {o : Nat}
def l_ret (h : q_H) (A : Nat → Nat) (o : Nat) (r : z_A) : q_Q := fun v h' => v = some (.int r.1) ∧ k_tlk h' A r.2.2 ∧ (∃ f, h' o = some (k_al 1 f) ∧ (r.1 = 0 → f 0 = r.2.1.toInt64)) ∧ k_ext (o :: k_cells A) h h'
def l_ret0 (h : q_H) (A : Nat → Nat) (r : z_A) : q_Q := fun v h' => v = some (.int r.1) ∧ k_tlk h' A r.2.2 ∧ k_ext (k_cells A) h h'
theorem k_ext.wid {S T : List Nat} {h h' : q_H} (e : k_ext S h h') (hs : ∀ q, q ∈ S → q ∈ T) : k_ext T h h' := fun q hq hn => e q (fun z => hq (hs q z)) hn
theorem k_cells_in {i : Nat} (hi : i < 24) : A i ∈ k_cells A := List.mem_map.mpr ⟨i, List.mem_range.mpr hi, rfl⟩
theorem k_tlk.ob {σ : z_S} (ht : k_tlk h A σ) : ∃ fs, h (A 0) = some (k_ob 6 fs) := by
  obtain ⟨st, ec, dl, pg, rq, out, dr, R, w⟩ := σ
  exact ⟨_, ht.2.1⟩
theorem a_no2 (n : Int32) : ¬ (a_outAt σ n).1 = 2 ∧ ¬ (a_kind σ n).1 = 2 ∧ ¬ (a_length σ n).1 = 2 ∧ ¬ (a_take σ).1 = 2 ∧ ¬ (a_ping σ).1 = 2 := by
  obtain ⟨st, ec, dl, pg, rq, out, dr, R, w⟩ := σ
  dsimp only [a_outAt, a_kind, a_length, a_take, a_ping]
  refine ⟨?_, ?_, ?_, ?_, ?_⟩
  · split
    · show ¬ (0 : Int32) = 2; decide
    · show ¬ (1 : Int32) = 2; decide
  · split
    · show ¬ (0 : Int32) = 2; decide
    · show ¬ (1 : Int32) = 2; decide
  · split
    · show ¬ (0 : Int32) = 2; decide
    · show ¬ (1 : Int32) = 2; decide
  · split
    · show ¬ (0 : Int32) = 2; decide
    · show ¬ (1 : Int32) = 2; decide
  · split
    · show ¬ (0 : Int32) = 2; decide
    · show ¬ (1 : Int32) = 2; decide
theorem tl_2_20 : Cond.methodLink RL 7 yX6_feed ∈ q_TB := tb_2 (List.mem_of_getElem? (i := 20) rfl) rfl
theorem tl_2_21 : Cond.instanceMethod yX6_feed ∈ q_TB := tb_2 (List.mem_of_getElem? (i := 21) rfl) rfl
theorem tl_2_22 : Cond.selects RX6 yX6_feed yX6_feed ∈ q_TB := tb_2 (List.mem_of_getElem? (i := 22) rfl) rfl
theorem tl_1_1 : Cond.initialized RX6 ∈ q_TB := tb_1 (List.mem_of_getElem? (i := 1) rfl) rfl
theorem tl_2_18 : Cond.classLink RL 13 "java/lang/IllegalArgumentException" ∈ q_TB := tb_2 (List.mem_of_getElem? (i := 18) rfl) rfl
theorem tl_2_19 : Cond.classLink RL 15 "java/lang/IllegalStateException" ∈ q_TB := tb_2 (List.mem_of_getElem? (i := 19) rfl) rfl
theorem tl_2_26 : Cond.castable "java/lang/IllegalArgumentException" "java/lang/IllegalArgumentException" ∈ q_TC := tc_2 (List.mem_of_getElem? (i := 26) rfl) rfl
theorem tl_2_90 : Cond.castable "java/lang/IllegalStateException" "java/lang/IllegalStateException" ∈ q_TC := tc_2 (List.mem_of_getElem? (i := 90) rfl) rfl
theorem sw_feed (ht : k_tlk h A σ) (hw : t_wf σ) {f : Nat → Int64} (ho : h o = some (k_al 1 f)) (hoA : o ∉ k_cells A) (W : Int64) (n : Int32) : q_SW G mL_feed [.ref (A 0), .long W, .int n, .ref o] h 40 1744 (l_ret h A o (a_feed σ W n)) := by
  obtain ⟨fs, ob⟩ := ht.ob
  refine q_enterW (M := mL_feed) rfl (Nat.le_of_ble_eq_true rfl) ?_
  refine x_aload dL_feed_0 (by first | rfl | assumption) ?_
  refine x_iconst 0 dL_feed_2 (by decide) ?_
  refine x_aload_n 0 dL_feed_3 rfl (by first | rfl | assumption) ?_
  refine x_lload_n 1 dL_feed_4 rfl (by first | rfl | assumption) ?_
  refine x_iload_n 3 dL_feed_5 rfl (by first | rfl | assumption) ?_
  have cat1 : q_cat G mL_feed 6 "java/lang/IllegalArgumentException" 14 := ⟨[], ⟨0, 11, 14, 13⟩, [⟨0, 11, 18, 15⟩], rfl, rfl, by decide, rfl, ⟨_, tl_2_18, tl_2_26⟩, fun z hz => absurd hz (by simp)⟩
  have cat2 : q_ok G → q_cat G mL_feed 6 "java/lang/IllegalStateException" 18 := fun hG => ⟨[⟨0, 11, 14, 13⟩], ⟨0, 11, 18, 15⟩, [], rfl, rfl, by decide, rfl, ⟨_, tl_2_19, tl_2_90⟩, fun z hz => by rw [List.mem_singleton.mp hz]; exact ⟨rfl, by decide, _, tl_2_18, hG.2.2.2.2.2.2.2.2.2.2.2.1⟩⟩
  refine x_callC (n := 2) (M := mL_feed) (M' := mX6_feed) (ci := 6) [.long W, .int n] (sp_feed ht hw W n) dL_feed_6 tl_2_20 tl_2_21 tl_2_22 tl_1_1 tw_cd_2_23 rfl (by decide +kernel) ⟨Nat.le_of_ble_eq_true rfl, Nat.le_of_ble_eq_true rfl⟩ rfl ob (Nat.le_of_ble_eq_true rfl) ⟨Nat.le_of_ble_eq_true rfl, Nat.le_of_ble_eq_true rfl⟩ (fun r g hq => ?_) (fun hG E g hq => ?_)
  · obtain ⟨⟨c0, rfl⟩, ht, ex⟩ := hq
    have ho : g o = some (k_al 1 f) := (ex o hoA (k_so ho)).trans ho
    refine x_i2l dL_feed_9 ?_
    refine x_last dL_feed_10 ho (show vp_in 0 1 by unfold vp_in; decide) ?_
    refine x_gen (fun g2 o2 s2 => ?_)
    refine x_goto 22 dL_feed_11 (by decide) ?_
    refine x_iconst 0 dL_feed_22 (by decide) ?_
    refine x_iret rfl rfl dL_feed_23 (by decide) (by decide) ?_
    have ne : ∀ i, i < 24 → A i ∉ [o] := fun i hi z => hoA (by rw [← List.mem_singleton.mp z]; exact k_cells_in hi)
    exact ⟨by rw [c0], ht.agree (fun i hi => s2 (A i) (ne i hi)), ⟨_, o2, fun _ => pk_uLs⟩, (ex.wid (fun q hq => List.mem_cons_of_mem _ hq)).tr (k_ext.of (fun q hq => s2 q (fun z => hq (by rw [List.mem_singleton.mp z]; exact List.mem_cons_self))))⟩
  · obtain ⟨hc, ht, ex⟩ := hq
    rcases hc with ⟨c0, rfl⟩ | ⟨c0, rfl⟩
    · refine ⟨14, cat1, fun q => ?_⟩
      refine x_astore dL_feed_14 (by decide) rfl ?_
      refine x_iconst 1 dL_feed_16 (by decide) ?_
      refine x_iret rfl rfl dL_feed_17 (by decide) (by decide) ?_
      exact ⟨by rw [c0], ht, ⟨f, (ex o hoA (k_so ho)).trans ho, fun z => by rw [c0] at z; exact absurd z (by decide)⟩, ex.wid (fun q hq => List.mem_cons_of_mem _ hq)⟩
    · refine ⟨18, cat2 hG, fun q => ?_⟩
      refine x_astore dL_feed_18 (by decide) rfl ?_
      refine x_iconst 2 dL_feed_20 (by decide) ?_
      refine x_iret rfl rfl dL_feed_21 (by decide) (by decide) ?_
      exact ⟨by rw [c0], ht, ⟨f, (ex o hoA (k_so ho)).trans ho, fun z => by rw [c0] at z; exact absurd z (by decide)⟩, ex.wid (fun q hq => List.mem_cons_of_mem _ hq)⟩
theorem tl_4_41 : Cond.methodLink RL 17 yX6_outAt ∈ q_TB := tb_4 (List.mem_of_getElem? (i := 41) rfl) rfl
theorem tl_4_42 : Cond.instanceMethod yX6_outAt ∈ q_TB := tb_4 (List.mem_of_getElem? (i := 42) rfl) rfl
theorem tl_4_43 : Cond.selects RX6 yX6_outAt yX6_outAt ∈ q_TB := tb_4 (List.mem_of_getElem? (i := 43) rfl) rfl
theorem tl_4_40 : Cond.classLink RL 21 "java/lang/IndexOutOfBoundsException" ∈ q_TB := tb_4 (List.mem_of_getElem? (i := 40) rfl) rfl
theorem tl_4_51 : Cond.castable "java/lang/IndexOutOfBoundsException" "java/lang/IndexOutOfBoundsException" ∈ q_TC := tc_4 (List.mem_of_getElem? (i := 51) rfl) rfl
theorem sw_outAt (ht : k_tlk h A σ) {f : Nat → Int64} (ho : h o = some (k_al 1 f)) (hoA : o ∉ k_cells A) (n : Int32) : q_SW G mL_outAt [.ref (A 0), .int n, .ref o] h 1 6 (l_ret h A o (a_outAt σ n)) := by
  obtain ⟨fs, ob⟩ := ht.ob
  refine q_enterW (M := mL_outAt) rfl (Nat.le_of_ble_eq_true rfl) ?_
  refine x_aload_n 2 dL_outAt_0 rfl (by first | rfl | assumption) ?_
  refine x_iconst 0 dL_outAt_1 (by decide) ?_
  refine x_aload_n 0 dL_outAt_2 rfl (by first | rfl | assumption) ?_
  refine x_iload_n 1 dL_outAt_3 rfl (by first | rfl | assumption) ?_
  have cat1 : q_cat G mL_outAt 4 "java/lang/IndexOutOfBoundsException" 12 := ⟨[], ⟨0, 9, 12, 21⟩, [], rfl, rfl, by decide, rfl, ⟨_, tl_4_40, tl_4_51⟩, fun z hz => absurd hz (by simp)⟩
  refine x_callC (n := 1) (M := mL_outAt) (M' := mX6_outAt) (ci := 6) [.int n] (sp_outAt ht n) dL_outAt_4 tl_4_41 tl_4_42 tl_4_43 tl_1_1 tw_cd_4_44 rfl (by decide +kernel) ⟨Nat.le_of_ble_eq_true rfl, Nat.le_of_ble_eq_true rfl⟩ rfl ob (Nat.le_of_ble_eq_true rfl) ⟨Nat.le_of_ble_eq_true rfl, Nat.le_of_ble_eq_true rfl⟩ (fun r g hq => ?_) (fun hG E g hq => ?_)
  · obtain ⟨⟨c0, rfl⟩, ht, ex⟩ := hq
    have ho : g o = some (k_al 1 f) := (ex o hoA (k_so ho)).trans ho
    refine x_i2l dL_outAt_7 ?_
    refine x_last dL_outAt_8 ho (show vp_in 0 1 by unfold vp_in; decide) ?_
    refine x_gen (fun g2 o2 s2 => ?_)
    refine x_goto 15 dL_outAt_9 (by decide) ?_
    refine x_iconst 0 dL_outAt_15 (by decide) ?_
    refine x_iret rfl rfl dL_outAt_16 (by decide) (by decide) ?_
    have ne : ∀ i, i < 24 → A i ∉ [o] := fun i hi z => hoA (by rw [← List.mem_singleton.mp z]; exact k_cells_in hi)
    exact ⟨by rw [c0], ht.agree (fun i hi => s2 (A i) (ne i hi)), ⟨_, o2, fun _ => pk_uLs⟩, (ex.wid (fun q hq => List.mem_cons_of_mem _ hq)).tr (k_ext.of (fun q hq => s2 q (fun z => hq (by rw [List.mem_singleton.mp z]; exact List.mem_cons_self))))⟩
  · obtain ⟨hc, ht, ex⟩ := hq
    rcases hc with ⟨c0, rfl⟩ | ⟨c0, rfl⟩
    · refine ⟨12, cat1, fun q => ?_⟩
      refine x_astore_n 3 dL_outAt_12 rfl (by decide) rfl ?_
      refine x_iconst 1 dL_outAt_13 (by decide) ?_
      refine x_iret rfl rfl dL_outAt_14 (by decide) (by decide) ?_
      exact ⟨by rw [c0], ht, ⟨f, (ex o hoA (k_so ho)).trans ho, fun z => by rw [c0] at z; exact absurd z (by decide)⟩, ex.wid (fun q hq => List.mem_cons_of_mem _ hq)⟩
    · exact absurd c0 (a_no2 n).1
theorem tl_4_69 : Cond.methodLink RL 23 yX6_kind ∈ q_TB := tb_4 (List.mem_of_getElem? (i := 69) rfl) rfl
theorem tl_4_70 : Cond.instanceMethod yX6_kind ∈ q_TB := tb_4 (List.mem_of_getElem? (i := 70) rfl) rfl
theorem tl_4_71 : Cond.selects RX6 yX6_kind yX6_kind ∈ q_TB := tb_4 (List.mem_of_getElem? (i := 71) rfl) rfl
theorem tl_4_68 : Cond.classLink RL 26 "java/util/NoSuchElementException" ∈ q_TB := tb_4 (List.mem_of_getElem? (i := 68) rfl) rfl
theorem tl_4_79 : Cond.castable "java/util/NoSuchElementException" "java/util/NoSuchElementException" ∈ q_TC := tc_4 (List.mem_of_getElem? (i := 79) rfl) rfl
theorem sw_kind (ht : k_tlk h A σ) {f : Nat → Int64} (ho : h o = some (k_al 1 f)) (hoA : o ∉ k_cells A) (n : Int32) : q_SW G mL_kind [.ref (A 0), .int n, .ref o] h 1 6 (l_ret h A o (a_kind σ n)) := by
  obtain ⟨fs, ob⟩ := ht.ob
  refine q_enterW (M := mL_kind) rfl (Nat.le_of_ble_eq_true rfl) ?_
  refine x_aload_n 2 dL_kind_0 rfl (by first | rfl | assumption) ?_
  refine x_iconst 0 dL_kind_1 (by decide) ?_
  refine x_aload_n 0 dL_kind_2 rfl (by first | rfl | assumption) ?_
  refine x_iload_n 1 dL_kind_3 rfl (by first | rfl | assumption) ?_
  have cat1 : q_cat G mL_kind 4 "java/util/NoSuchElementException" 12 := ⟨[], ⟨0, 9, 12, 26⟩, [], rfl, rfl, by decide, rfl, ⟨_, tl_4_68, tl_4_79⟩, fun z hz => absurd hz (by simp)⟩
  refine x_callC (n := 1) (M := mL_kind) (M' := mX6_kind) (ci := 6) [.int n] (sp_kind ht n) dL_kind_4 tl_4_69 tl_4_70 tl_4_71 tl_1_1 tw_cd_4_72 rfl (by decide +kernel) ⟨Nat.le_of_ble_eq_true rfl, Nat.le_of_ble_eq_true rfl⟩ rfl ob (Nat.le_of_ble_eq_true rfl) ⟨Nat.le_of_ble_eq_true rfl, Nat.le_of_ble_eq_true rfl⟩ (fun r g hq => ?_) (fun hG E g hq => ?_)
  · obtain ⟨⟨c0, rfl⟩, ht, ex⟩ := hq
    have ho : g o = some (k_al 1 f) := (ex o hoA (k_so ho)).trans ho
    refine x_i2l dL_kind_7 ?_
    refine x_last dL_kind_8 ho (show vp_in 0 1 by unfold vp_in; decide) ?_
    refine x_gen (fun g2 o2 s2 => ?_)
    refine x_goto 15 dL_kind_9 (by decide) ?_
    refine x_iconst 0 dL_kind_15 (by decide) ?_
    refine x_iret rfl rfl dL_kind_16 (by decide) (by decide) ?_
    have ne : ∀ i, i < 24 → A i ∉ [o] := fun i hi z => hoA (by rw [← List.mem_singleton.mp z]; exact k_cells_in hi)
    exact ⟨by rw [c0], ht.agree (fun i hi => s2 (A i) (ne i hi)), ⟨_, o2, fun _ => pk_uLs⟩, (ex.wid (fun q hq => List.mem_cons_of_mem _ hq)).tr (k_ext.of (fun q hq => s2 q (fun z => hq (by rw [List.mem_singleton.mp z]; exact List.mem_cons_self))))⟩
  · obtain ⟨hc, ht, ex⟩ := hq
    rcases hc with ⟨c0, rfl⟩ | ⟨c0, rfl⟩
    · refine ⟨12, cat1, fun q => ?_⟩
      refine x_astore_n 3 dL_kind_12 rfl (by decide) rfl ?_
      refine x_iconst 1 dL_kind_13 (by decide) ?_
      refine x_iret rfl rfl dL_kind_14 (by decide) (by decide) ?_
      exact ⟨by rw [c0], ht, ⟨f, (ex o hoA (k_so ho)).trans ho, fun z => by rw [c0] at z; exact absurd z (by decide)⟩, ex.wid (fun q hq => List.mem_cons_of_mem _ hq)⟩
    · exact absurd c0 (a_no2 n).2.1
theorem tl_4_99 : Cond.methodLink RL 28 yX6_length ∈ q_TB := tb_4 (List.mem_of_getElem? (i := 99) rfl) rfl
theorem tl_4_100 : Cond.instanceMethod yX6_length ∈ q_TB := tb_4 (List.mem_of_getElem? (i := 100) rfl) rfl
theorem tl_4_101 : Cond.selects RX6 yX6_length yX6_length ∈ q_TB := tb_4 (List.mem_of_getElem? (i := 101) rfl) rfl
theorem sw_length (ht : k_tlk h A σ) {f : Nat → Int64} (ho : h o = some (k_al 1 f)) (hoA : o ∉ k_cells A) (n : Int32) : q_SW G mL_length [.ref (A 0), .int n, .ref o] h 1 6 (l_ret h A o (a_length σ n)) := by
  obtain ⟨fs, ob⟩ := ht.ob
  refine q_enterW (M := mL_length) rfl (Nat.le_of_ble_eq_true rfl) ?_
  refine x_aload_n 2 dL_length_0 rfl (by first | rfl | assumption) ?_
  refine x_iconst 0 dL_length_1 (by decide) ?_
  refine x_aload_n 0 dL_length_2 rfl (by first | rfl | assumption) ?_
  refine x_iload_n 1 dL_length_3 rfl (by first | rfl | assumption) ?_
  have cat1 : q_cat G mL_length 4 "java/util/NoSuchElementException" 12 := ⟨[], ⟨0, 9, 12, 26⟩, [], rfl, rfl, by decide, rfl, ⟨_, tl_4_68, tl_4_79⟩, fun z hz => absurd hz (by simp)⟩
  refine x_callC (n := 1) (M := mL_length) (M' := mX6_length) (ci := 6) [.int n] (sp_length ht n) dL_length_4 tl_4_99 tl_4_100 tl_4_101 tl_1_1 tw_cd_4_102 rfl (by decide +kernel) ⟨Nat.le_of_ble_eq_true rfl, Nat.le_of_ble_eq_true rfl⟩ rfl ob (Nat.le_of_ble_eq_true rfl) ⟨Nat.le_of_ble_eq_true rfl, Nat.le_of_ble_eq_true rfl⟩ (fun r g hq => ?_) (fun hG E g hq => ?_)
  · obtain ⟨⟨c0, rfl⟩, ht, ex⟩ := hq
    have ho : g o = some (k_al 1 f) := (ex o hoA (k_so ho)).trans ho
    refine x_i2l dL_length_7 ?_
    refine x_last dL_length_8 ho (show vp_in 0 1 by unfold vp_in; decide) ?_
    refine x_gen (fun g2 o2 s2 => ?_)
    refine x_goto 15 dL_length_9 (by decide) ?_
    refine x_iconst 0 dL_length_15 (by decide) ?_
    refine x_iret rfl rfl dL_length_16 (by decide) (by decide) ?_
    have ne : ∀ i, i < 24 → A i ∉ [o] := fun i hi z => hoA (by rw [← List.mem_singleton.mp z]; exact k_cells_in hi)
    exact ⟨by rw [c0], ht.agree (fun i hi => s2 (A i) (ne i hi)), ⟨_, o2, fun _ => pk_uLs⟩, (ex.wid (fun q hq => List.mem_cons_of_mem _ hq)).tr (k_ext.of (fun q hq => s2 q (fun z => hq (by rw [List.mem_singleton.mp z]; exact List.mem_cons_self))))⟩
  · obtain ⟨hc, ht, ex⟩ := hq
    rcases hc with ⟨c0, rfl⟩ | ⟨c0, rfl⟩
    · refine ⟨12, cat1, fun q => ?_⟩
      refine x_astore_n 3 dL_length_12 rfl (by decide) rfl ?_
      refine x_iconst 1 dL_length_13 (by decide) ?_
      refine x_iret rfl rfl dL_length_14 (by decide) (by decide) ?_
      exact ⟨by rw [c0], ht, ⟨f, (ex o hoA (k_so ho)).trans ho, fun z => by rw [c0] at z; exact absurd z (by decide)⟩, ex.wid (fun q hq => List.mem_cons_of_mem _ hq)⟩
    · exact absurd c0 (a_no2 n).2.2.1
theorem tl_4_110 : Cond.methodLink RL 31 yX6_byteAt ∈ q_TB := tb_4 (List.mem_of_getElem? (i := 110) rfl) rfl
theorem tl_4_111 : Cond.instanceMethod yX6_byteAt ∈ q_TB := tb_4 (List.mem_of_getElem? (i := 111) rfl) rfl
theorem tl_4_112 : Cond.selects RX6 yX6_byteAt yX6_byteAt ∈ q_TB := tb_4 (List.mem_of_getElem? (i := 112) rfl) rfl
theorem sw_byteAt (ht : k_tlk h A σ) {f : Nat → Int64} (ho : h o = some (k_al 1 f)) (hoA : o ∉ k_cells A) (k : Int32) (n : Int32) : q_SW G mL_byteAt [.ref (A 0), .int k, .int n, .ref o] h 1 6 (l_ret h A o (a_byteAt σ k n)) := by
  obtain ⟨fs, ob⟩ := ht.ob
  refine q_enterW (M := mL_byteAt) rfl (Nat.le_of_ble_eq_true rfl) ?_
  refine x_aload_n 3 dL_byteAt_0 rfl (by first | rfl | assumption) ?_
  refine x_iconst 0 dL_byteAt_1 (by decide) ?_
  refine x_aload_n 0 dL_byteAt_2 rfl (by first | rfl | assumption) ?_
  refine x_iload_n 1 dL_byteAt_3 rfl (by first | rfl | assumption) ?_
  refine x_iload_n 2 dL_byteAt_4 rfl (by first | rfl | assumption) ?_
  have cat1 : q_cat G mL_byteAt 5 "java/util/NoSuchElementException" 13 := ⟨[], ⟨0, 10, 13, 26⟩, [⟨0, 10, 17, 21⟩], rfl, rfl, by decide, rfl, ⟨_, tl_4_68, tl_4_79⟩, fun z hz => absurd hz (by simp)⟩
  have cat2 : q_ok G → q_cat G mL_byteAt 5 "java/lang/IndexOutOfBoundsException" 17 := fun hG => ⟨[⟨0, 10, 13, 26⟩], ⟨0, 10, 17, 21⟩, [], rfl, rfl, by decide, rfl, ⟨_, tl_4_40, tl_4_51⟩, fun z hz => by rw [List.mem_singleton.mp hz]; exact ⟨rfl, by decide, _, tl_4_68, hG.2.2.2.2.2.2.2.2.2.2.2.2.1⟩⟩
  refine x_callC (n := 2) (M := mL_byteAt) (M' := mX6_byteAt) (ci := 6) [.int k, .int n] (sp_byteAt ht k n) dL_byteAt_5 tl_4_110 tl_4_111 tl_4_112 tl_1_1 tw_cd_4_113 rfl (by decide +kernel) ⟨Nat.le_of_ble_eq_true rfl, Nat.le_of_ble_eq_true rfl⟩ rfl ob (Nat.le_of_ble_eq_true rfl) ⟨Nat.le_of_ble_eq_true rfl, Nat.le_of_ble_eq_true rfl⟩ (fun r g hq => ?_) (fun hG E g hq => ?_)
  · obtain ⟨⟨c0, rfl⟩, ht, ex⟩ := hq
    have ho : g o = some (k_al 1 f) := (ex o hoA (k_so ho)).trans ho
    refine x_i2l dL_byteAt_8 ?_
    refine x_last dL_byteAt_9 ho (show vp_in 0 1 by unfold vp_in; decide) ?_
    refine x_gen (fun g2 o2 s2 => ?_)
    refine x_goto 21 dL_byteAt_10 (by decide) ?_
    refine x_iconst 0 dL_byteAt_21 (by decide) ?_
    refine x_iret rfl rfl dL_byteAt_22 (by decide) (by decide) ?_
    have ne : ∀ i, i < 24 → A i ∉ [o] := fun i hi z => hoA (by rw [← List.mem_singleton.mp z]; exact k_cells_in hi)
    exact ⟨by rw [c0], ht.agree (fun i hi => s2 (A i) (ne i hi)), ⟨_, o2, fun _ => pk_uLs⟩, (ex.wid (fun q hq => List.mem_cons_of_mem _ hq)).tr (k_ext.of (fun q hq => s2 q (fun z => hq (by rw [List.mem_singleton.mp z]; exact List.mem_cons_self))))⟩
  · obtain ⟨hc, ht, ex⟩ := hq
    rcases hc with ⟨c0, rfl⟩ | ⟨c0, rfl⟩
    · refine ⟨13, cat1, fun q => ?_⟩
      refine x_astore dL_byteAt_13 (by decide) rfl ?_
      refine x_iconst 1 dL_byteAt_15 (by decide) ?_
      refine x_iret rfl rfl dL_byteAt_16 (by decide) (by decide) ?_
      exact ⟨by rw [c0], ht, ⟨f, (ex o hoA (k_so ho)).trans ho, fun z => by rw [c0] at z; exact absurd z (by decide)⟩, ex.wid (fun q hq => List.mem_cons_of_mem _ hq)⟩
    · refine ⟨17, cat2 hG, fun q => ?_⟩
      refine x_astore dL_byteAt_17 (by decide) rfl ?_
      refine x_iconst 2 dL_byteAt_19 (by decide) ?_
      refine x_iret rfl rfl dL_byteAt_20 (by decide) (by decide) ?_
      exact ⟨by rw [c0], ht, ⟨f, (ex o hoA (k_so ho)).trans ho, fun z => by rw [c0] at z; exact absurd z (by decide)⟩, ex.wid (fun q hq => List.mem_cons_of_mem _ hq)⟩
theorem tl_4_121 : Cond.methodLink RL 35 yX6_take ∈ q_TB := tb_4 (List.mem_of_getElem? (i := 121) rfl) rfl
theorem tl_4_122 : Cond.instanceMethod yX6_take ∈ q_TB := tb_4 (List.mem_of_getElem? (i := 122) rfl) rfl
theorem tl_4_123 : Cond.selects RX6 yX6_take yX6_take ∈ q_TB := tb_4 (List.mem_of_getElem? (i := 123) rfl) rfl
theorem sw_take (ht : k_tlk h A σ) {f : Nat → Int64} (ho : h o = some (k_al 1 f)) (hoA : o ∉ k_cells A) : q_SW G mL_take [.ref (A 0), .ref o] h 1 6 (l_ret h A o (a_take σ)) := by
  obtain ⟨fs, ob⟩ := ht.ob
  refine q_enterW (M := mL_take) rfl (Nat.le_of_ble_eq_true rfl) ?_
  refine x_aload_n 1 dL_take_0 rfl (by first | rfl | assumption) ?_
  refine x_iconst 0 dL_take_1 (by decide) ?_
  refine x_aload_n 0 dL_take_2 rfl (by first | rfl | assumption) ?_
  have cat1 : q_cat G mL_take 3 "java/util/NoSuchElementException" 11 := ⟨[], ⟨0, 8, 11, 26⟩, [], rfl, rfl, by decide, rfl, ⟨_, tl_4_68, tl_4_79⟩, fun z hz => absurd hz (by simp)⟩
  refine x_callC (n := 0) (M := mL_take) (M' := mX6_take) (ci := 6) [] (sp_take ht) dL_take_3 tl_4_121 tl_4_122 tl_4_123 tl_1_1 tw_cd_4_124 rfl (by decide +kernel) ⟨Nat.le_of_ble_eq_true rfl, Nat.le_of_ble_eq_true rfl⟩ rfl ob (Nat.le_of_ble_eq_true rfl) ⟨Nat.le_of_ble_eq_true rfl, Nat.le_of_ble_eq_true rfl⟩ (fun r g hq => ?_) (fun hG E g hq => ?_)
  · obtain ⟨⟨c0, rfl⟩, ht, ex⟩ := hq
    have ho : g o = some (k_al 1 f) := (ex o hoA (k_so ho)).trans ho
    refine x_i2l dL_take_6 ?_
    refine x_last dL_take_7 ho (show vp_in 0 1 by unfold vp_in; decide) ?_
    refine x_gen (fun g2 o2 s2 => ?_)
    refine x_goto 14 dL_take_8 (by decide) ?_
    refine x_iconst 0 dL_take_14 (by decide) ?_
    refine x_iret rfl rfl dL_take_15 (by decide) (by decide) ?_
    have ne : ∀ i, i < 24 → A i ∉ [o] := fun i hi z => hoA (by rw [← List.mem_singleton.mp z]; exact k_cells_in hi)
    exact ⟨by rw [c0], ht.agree (fun i hi => s2 (A i) (ne i hi)), ⟨_, o2, fun _ => pk_uLs⟩, (ex.wid (fun q hq => List.mem_cons_of_mem _ hq)).tr (k_ext.of (fun q hq => s2 q (fun z => hq (by rw [List.mem_singleton.mp z]; exact List.mem_cons_self))))⟩
  · obtain ⟨hc, ht, ex⟩ := hq
    rcases hc with ⟨c0, rfl⟩ | ⟨c0, rfl⟩
    · refine ⟨11, cat1, fun q => ?_⟩
      refine x_astore_n 2 dL_take_11 rfl (by decide) rfl ?_
      refine x_iconst 1 dL_take_12 (by decide) ?_
      refine x_iret rfl rfl dL_take_13 (by decide) (by decide) ?_
      exact ⟨by rw [c0], ht, ⟨f, (ex o hoA (k_so ho)).trans ho, fun z => by rw [c0] at z; exact absurd z (by decide)⟩, ex.wid (fun q hq => List.mem_cons_of_mem _ hq)⟩
    · exact absurd c0 (a_no2 0).2.2.2.1
theorem tl_4_132 : Cond.methodLink RL 39 yX6_send ∈ q_TB := tb_4 (List.mem_of_getElem? (i := 132) rfl) rfl
theorem tl_4_133 : Cond.instanceMethod yX6_send ∈ q_TB := tb_4 (List.mem_of_getElem? (i := 133) rfl) rfl
theorem tl_4_134 : Cond.selects RX6 yX6_send yX6_send ∈ q_TB := tb_4 (List.mem_of_getElem? (i := 134) rfl) rfl
theorem sw_send (ht : k_tlk h A σ) {f : Nat → Int64} (ho : h o = some (k_al 1 f)) (hoA : o ∉ k_cells A) (k : Int32) (n : Int32) : q_SW G mL_send [.ref (A 0), .int k, .int n, .ref o] h 1 6 (l_ret h A o (a_send σ k n)) := by
  obtain ⟨fs, ob⟩ := ht.ob
  refine q_enterW (M := mL_send) rfl (Nat.le_of_ble_eq_true rfl) ?_
  refine x_aload_n 3 dL_send_0 rfl (by first | rfl | assumption) ?_
  refine x_iconst 0 dL_send_1 (by decide) ?_
  refine x_aload_n 0 dL_send_2 rfl (by first | rfl | assumption) ?_
  refine x_iload_n 1 dL_send_3 rfl (by first | rfl | assumption) ?_
  refine x_iload_n 2 dL_send_4 rfl (by first | rfl | assumption) ?_
  have cat1 : q_cat G mL_send 5 "java/lang/IllegalArgumentException" 13 := ⟨[], ⟨0, 10, 13, 13⟩, [⟨0, 10, 17, 15⟩], rfl, rfl, by decide, rfl, ⟨_, tl_2_18, tl_2_26⟩, fun z hz => absurd hz (by simp)⟩
  have cat2 : q_ok G → q_cat G mL_send 5 "java/lang/IllegalStateException" 17 := fun hG => ⟨[⟨0, 10, 13, 13⟩], ⟨0, 10, 17, 15⟩, [], rfl, rfl, by decide, rfl, ⟨_, tl_2_19, tl_2_90⟩, fun z hz => by rw [List.mem_singleton.mp hz]; exact ⟨rfl, by decide, _, tl_2_18, hG.2.2.2.2.2.2.2.2.2.2.2.1⟩⟩
  refine x_callC (n := 2) (M := mL_send) (M' := mX6_send) (ci := 6) [.int k, .int n] (sp_send ht k n) dL_send_5 tl_4_132 tl_4_133 tl_4_134 tl_1_1 tw_cd_4_135 rfl (by decide +kernel) ⟨Nat.le_of_ble_eq_true rfl, Nat.le_of_ble_eq_true rfl⟩ rfl ob (Nat.le_of_ble_eq_true rfl) ⟨Nat.le_of_ble_eq_true rfl, Nat.le_of_ble_eq_true rfl⟩ (fun r g hq => ?_) (fun hG E g hq => ?_)
  · obtain ⟨⟨c0, rfl⟩, ht, ex⟩ := hq
    have ho : g o = some (k_al 1 f) := (ex o hoA (k_so ho)).trans ho
    refine x_i2l dL_send_8 ?_
    refine x_last dL_send_9 ho (show vp_in 0 1 by unfold vp_in; decide) ?_
    refine x_gen (fun g2 o2 s2 => ?_)
    refine x_goto 21 dL_send_10 (by decide) ?_
    refine x_iconst 0 dL_send_21 (by decide) ?_
    refine x_iret rfl rfl dL_send_22 (by decide) (by decide) ?_
    have ne : ∀ i, i < 24 → A i ∉ [o] := fun i hi z => hoA (by rw [← List.mem_singleton.mp z]; exact k_cells_in hi)
    exact ⟨by rw [c0], ht.agree (fun i hi => s2 (A i) (ne i hi)), ⟨_, o2, fun _ => pk_uLs⟩, (ex.wid (fun q hq => List.mem_cons_of_mem _ hq)).tr (k_ext.of (fun q hq => s2 q (fun z => hq (by rw [List.mem_singleton.mp z]; exact List.mem_cons_self))))⟩
  · obtain ⟨hc, ht, ex⟩ := hq
    rcases hc with ⟨c0, rfl⟩ | ⟨c0, rfl⟩
    · refine ⟨13, cat1, fun q => ?_⟩
      refine x_astore dL_send_13 (by decide) rfl ?_
      refine x_iconst 1 dL_send_15 (by decide) ?_
      refine x_iret rfl rfl dL_send_16 (by decide) (by decide) ?_
      exact ⟨by rw [c0], ht, ⟨f, (ex o hoA (k_so ho)).trans ho, fun z => by rw [c0] at z; exact absurd z (by decide)⟩, ex.wid (fun q hq => List.mem_cons_of_mem _ hq)⟩
    · refine ⟨17, cat2 hG, fun q => ?_⟩
      refine x_astore dL_send_17 (by decide) rfl ?_
      refine x_iconst 2 dL_send_19 (by decide) ?_
      refine x_iret rfl rfl dL_send_20 (by decide) (by decide) ?_
      exact ⟨by rw [c0], ht, ⟨f, (ex o hoA (k_so ho)).trans ho, fun z => by rw [c0] at z; exact absurd z (by decide)⟩, ex.wid (fun q hq => List.mem_cons_of_mem _ hq)⟩
theorem tl_4_151 : Cond.methodLink RL 42 yX6_ping ∈ q_TB := tb_4 (List.mem_of_getElem? (i := 151) rfl) rfl
theorem tl_4_152 : Cond.instanceMethod yX6_ping ∈ q_TB := tb_4 (List.mem_of_getElem? (i := 152) rfl) rfl
theorem tl_4_153 : Cond.selects RX6 yX6_ping yX6_ping ∈ q_TB := tb_4 (List.mem_of_getElem? (i := 153) rfl) rfl
theorem sw_ping (ht : k_tlk h A σ) : q_SW G mL_ping [.ref (A 0)] h 1 6 (l_ret0 h A (a_ping σ)) := by
  obtain ⟨fs, ob⟩ := ht.ob
  refine q_enterW (M := mL_ping) rfl (Nat.le_of_ble_eq_true rfl) ?_
  refine x_aload_n 0 dL_ping_0 rfl (by first | rfl | assumption) ?_
  have cat1 : q_cat G mL_ping 1 "java/lang/IllegalStateException" 7 := ⟨[], ⟨0, 4, 7, 15⟩, [], rfl, rfl, by decide, rfl, ⟨_, tl_2_19, tl_2_90⟩, fun z hz => absurd hz (by simp)⟩
  refine x_callC (n := 0) (M := mL_ping) (M' := mX6_ping) (ci := 6) [] (sp_ping ht) dL_ping_1 tl_4_151 tl_4_152 tl_4_153 tl_1_1 tw_cd_4_154 rfl (by decide +kernel) ⟨Nat.le_of_ble_eq_true rfl, Nat.le_of_ble_eq_true rfl⟩ rfl ob (Nat.le_of_ble_eq_true rfl) ⟨Nat.le_of_ble_eq_true rfl, Nat.le_of_ble_eq_true rfl⟩ (fun r g hq => ?_) (fun hG E g hq => ?_)
  · obtain ⟨⟨c0, rfl⟩, ht, ex⟩ := hq
    refine x_goto 10 dL_ping_4 (by decide) ?_
    refine x_iconst 0 dL_ping_10 (by decide) ?_
    refine x_iret rfl rfl dL_ping_11 (by decide) (by decide) ?_
    exact ⟨by rw [c0], ht, ex⟩
  · obtain ⟨hc, ht, ex⟩ := hq
    rcases hc with ⟨c0, rfl⟩ | ⟨c0, rfl⟩
    · refine ⟨7, cat1, fun q => ?_⟩
      refine x_astore_n 1 dL_ping_7 rfl (by decide) rfl ?_
      refine x_iconst 1 dL_ping_8 (by decide) ?_
      refine x_iret rfl rfl dL_ping_9 (by decide) (by decide) ?_
      exact ⟨by rw [c0], ht, ex⟩
    · exact absurd c0 (a_no2 0).2.2.2.2
theorem tl_4_158 : Cond.methodLink RL 45 yX6_close ∈ q_TB := tb_4 (List.mem_of_getElem? (i := 158) rfl) rfl
theorem tl_4_159 : Cond.instanceMethod yX6_close ∈ q_TB := tb_4 (List.mem_of_getElem? (i := 159) rfl) rfl
theorem tl_4_160 : Cond.selects RX6 yX6_close yX6_close ∈ q_TB := tb_4 (List.mem_of_getElem? (i := 160) rfl) rfl
theorem sw_close (ht : k_tlk h A σ) (hw : t_wf σ) (n : Int32) : q_SW G mL_close [.ref (A 0), .int n] h 1 6 (l_ret0 h A (a_close σ n)) := by
  obtain ⟨fs, ob⟩ := ht.ob
  refine q_enterW (M := mL_close) rfl (Nat.le_of_ble_eq_true rfl) ?_
  refine x_aload_n 0 dL_close_0 rfl (by first | rfl | assumption) ?_
  refine x_iload_n 1 dL_close_1 rfl (by first | rfl | assumption) ?_
  have cat1 : q_cat G mL_close 2 "java/lang/IllegalArgumentException" 8 := ⟨[], ⟨0, 5, 8, 13⟩, [⟨0, 5, 11, 15⟩], rfl, rfl, by decide, rfl, ⟨_, tl_2_18, tl_2_26⟩, fun z hz => absurd hz (by simp)⟩
  have cat2 : q_ok G → q_cat G mL_close 2 "java/lang/IllegalStateException" 11 := fun hG => ⟨[⟨0, 5, 8, 13⟩], ⟨0, 5, 11, 15⟩, [], rfl, rfl, by decide, rfl, ⟨_, tl_2_19, tl_2_90⟩, fun z hz => by rw [List.mem_singleton.mp hz]; exact ⟨rfl, by decide, _, tl_2_18, hG.2.2.2.2.2.2.2.2.2.2.2.1⟩⟩
  refine x_callC (n := 1) (M := mL_close) (M' := mX6_close) (ci := 6) [.int n] (sp_close ht hw n) dL_close_2 tl_4_158 tl_4_159 tl_4_160 tl_1_1 tw_cd_4_161 rfl (by decide +kernel) ⟨Nat.le_of_ble_eq_true rfl, Nat.le_of_ble_eq_true rfl⟩ rfl ob (Nat.le_of_ble_eq_true rfl) ⟨Nat.le_of_ble_eq_true rfl, Nat.le_of_ble_eq_true rfl⟩ (fun r g hq => ?_) (fun hG E g hq => ?_)
  · obtain ⟨⟨c0, rfl⟩, ht, ex⟩ := hq
    refine x_goto 14 dL_close_5 (by decide) ?_
    refine x_iconst 0 dL_close_14 (by decide) ?_
    refine x_iret rfl rfl dL_close_15 (by decide) (by decide) ?_
    exact ⟨by rw [c0], ht, ex⟩
  · obtain ⟨hc, ht, ex⟩ := hq
    rcases hc with ⟨c0, rfl⟩ | ⟨c0, rfl⟩
    · refine ⟨8, cat1, fun q => ?_⟩
      refine x_astore_n 2 dL_close_8 rfl (by decide) rfl ?_
      refine x_iconst 1 dL_close_9 (by decide) ?_
      refine x_iret rfl rfl dL_close_10 (by decide) (by decide) ?_
      exact ⟨by rw [c0], ht, ex⟩
    · refine ⟨11, cat2 hG, fun q => ?_⟩
      refine x_astore_n 2 dL_close_11 rfl (by decide) rfl ?_
      refine x_iconst 2 dL_close_12 (by decide) ?_
      refine x_iret rfl rfl dL_close_13 (by decide) (by decide) ?_
      exact ⟨by rw [c0], ht, ex⟩
end LawA
section LawB
variable {G : q_G} {F : q_F} {lv : List (Nat × Value)} {st : List Value} {h : q_H} {cells slots mc ms : Nat} {Q : q_Q}
theorem tl_2_15 : Cond.methodLink RL 55 yL_feed ∈ q_TB := tb_2 (List.mem_of_getElem? (i := 15) rfl) rfl
theorem tl_2_16 : Cond.static yL_feed ∈ q_TB := tb_2 (List.mem_of_getElem? (i := 16) rfl) rfl
theorem tl_1_0 : Cond.initialized RL ∈ q_TB := tb_1 (List.mem_of_getElem? (i := 0) rfl) rfl
theorem cl_L_law_154 {v0 v1 v2 v3 : Value} (hs : q_SW G mL_feed [v0, v1, v2, v3] h mc ms Q) (hst : (st.map fun v => v.category).sum ≤ 8) (hf : cells + mc ≤ 600128 ∧ slots + ms ≤ 7301097) (kk : ∀ (r : Option Value) (h' : q_H), Q r h' → q_X G mL_law room_1 F 157 lv (r.toList ++ st) h' (cells + mc) (slots + ms)) : q_X G mL_law room_1 F 154 lv (v3 :: v2 :: v1 :: v0 :: st) h cells slots := x_callW (n := 4) (M := mL_law) (M' := mL_feed) [v0, v1, v2, v3] hs dL_law_154 tl_2_15 tl_2_16 tl_1_0 tw_cd_2_17 rfl (by decide +kernel) ⟨Nat.le_of_ble_eq_true rfl, Nat.le_of_ble_eq_true rfl⟩ hst hf kk
theorem tl_4_37 : Cond.methodLink RL 76 yL_outAt ∈ q_TB := tb_4 (List.mem_of_getElem? (i := 37) rfl) rfl
theorem tl_4_38 : Cond.static yL_outAt ∈ q_TB := tb_4 (List.mem_of_getElem? (i := 38) rfl) rfl
theorem cl_L_law_271 {v0 v1 v2 : Value} (hs : q_SW G mL_outAt [v0, v1, v2] h mc ms Q) (hst : (st.map fun v => v.category).sum ≤ 8) (hf : cells + mc ≤ 600128 ∧ slots + ms ≤ 7301097) (kk : ∀ (r : Option Value) (h' : q_H), Q r h' → q_X G mL_law room_1 F 274 lv (r.toList ++ st) h' (cells + mc) (slots + ms)) : q_X G mL_law room_1 F 271 lv (v2 :: v1 :: v0 :: st) h cells slots := x_callW (n := 3) (M := mL_law) (M' := mL_outAt) [v0, v1, v2] hs dL_law_271 tl_4_37 tl_4_38 tl_1_0 tw_cd_4_39 rfl (by decide +kernel) ⟨Nat.le_of_ble_eq_true rfl, Nat.le_of_ble_eq_true rfl⟩ hst hf kk
theorem tl_4_65 : Cond.methodLink RL 93 yL_kind ∈ q_TB := tb_4 (List.mem_of_getElem? (i := 65) rfl) rfl
theorem tl_4_66 : Cond.static yL_kind ∈ q_TB := tb_4 (List.mem_of_getElem? (i := 66) rfl) rfl
theorem cl_L_law_378 {v0 v1 v2 : Value} (hs : q_SW G mL_kind [v0, v1, v2] h mc ms Q) (hst : (st.map fun v => v.category).sum ≤ 8) (hf : cells + mc ≤ 600128 ∧ slots + ms ≤ 7301097) (kk : ∀ (r : Option Value) (h' : q_H), Q r h' → q_X G mL_law room_1 F 381 lv (r.toList ++ st) h' (cells + mc) (slots + ms)) : q_X G mL_law room_1 F 378 lv (v2 :: v1 :: v0 :: st) h cells slots := x_callW (n := 3) (M := mL_law) (M' := mL_kind) [v0, v1, v2] hs dL_law_378 tl_4_65 tl_4_66 tl_1_0 tw_cd_4_67 rfl (by decide +kernel) ⟨Nat.le_of_ble_eq_true rfl, Nat.le_of_ble_eq_true rfl⟩ hst hf kk
theorem tl_4_96 : Cond.methodLink RL 96 yL_length ∈ q_TB := tb_4 (List.mem_of_getElem? (i := 96) rfl) rfl
theorem tl_4_97 : Cond.static yL_length ∈ q_TB := tb_4 (List.mem_of_getElem? (i := 97) rfl) rfl
theorem cl_L_law_434 {v0 v1 v2 : Value} (hs : q_SW G mL_length [v0, v1, v2] h mc ms Q) (hst : (st.map fun v => v.category).sum ≤ 8) (hf : cells + mc ≤ 600128 ∧ slots + ms ≤ 7301097) (kk : ∀ (r : Option Value) (h' : q_H), Q r h' → q_X G mL_law room_1 F 437 lv (r.toList ++ st) h' (cells + mc) (slots + ms)) : q_X G mL_law room_1 F 434 lv (v2 :: v1 :: v0 :: st) h cells slots := x_callW (n := 3) (M := mL_law) (M' := mL_length) [v0, v1, v2] hs dL_law_434 tl_4_96 tl_4_97 tl_1_0 tw_cd_4_98 rfl (by decide +kernel) ⟨Nat.le_of_ble_eq_true rfl, Nat.le_of_ble_eq_true rfl⟩ hst hf kk
theorem tl_4_107 : Cond.methodLink RL 99 yL_byteAt ∈ q_TB := tb_4 (List.mem_of_getElem? (i := 107) rfl) rfl
theorem tl_4_108 : Cond.static yL_byteAt ∈ q_TB := tb_4 (List.mem_of_getElem? (i := 108) rfl) rfl
theorem cl_L_law_496 {v0 v1 v2 v3 : Value} (hs : q_SW G mL_byteAt [v0, v1, v2, v3] h mc ms Q) (hst : (st.map fun v => v.category).sum ≤ 8) (hf : cells + mc ≤ 600128 ∧ slots + ms ≤ 7301097) (kk : ∀ (r : Option Value) (h' : q_H), Q r h' → q_X G mL_law room_1 F 499 lv (r.toList ++ st) h' (cells + mc) (slots + ms)) : q_X G mL_law room_1 F 496 lv (v3 :: v2 :: v1 :: v0 :: st) h cells slots := x_callW (n := 4) (M := mL_law) (M' := mL_byteAt) [v0, v1, v2, v3] hs dL_law_496 tl_4_107 tl_4_108 tl_1_0 tw_cd_4_109 rfl (by decide +kernel) ⟨Nat.le_of_ble_eq_true rfl, Nat.le_of_ble_eq_true rfl⟩ hst hf kk
theorem tl_4_118 : Cond.methodLink RL 103 yL_take ∈ q_TB := tb_4 (List.mem_of_getElem? (i := 118) rfl) rfl
theorem tl_4_119 : Cond.static yL_take ∈ q_TB := tb_4 (List.mem_of_getElem? (i := 119) rfl) rfl
theorem cl_L_law_552 {v0 v1 : Value} (hs : q_SW G mL_take [v0, v1] h mc ms Q) (hst : (st.map fun v => v.category).sum ≤ 8) (hf : cells + mc ≤ 600128 ∧ slots + ms ≤ 7301097) (kk : ∀ (r : Option Value) (h' : q_H), Q r h' → q_X G mL_law room_1 F 555 lv (r.toList ++ st) h' (cells + mc) (slots + ms)) : q_X G mL_law room_1 F 552 lv (v1 :: v0 :: st) h cells slots := x_callW (n := 2) (M := mL_law) (M' := mL_take) [v0, v1] hs dL_law_552 tl_4_118 tl_4_119 tl_1_0 tw_cd_4_120 rfl (by decide +kernel) ⟨Nat.le_of_ble_eq_true rfl, Nat.le_of_ble_eq_true rfl⟩ hst hf kk
theorem tl_4_129 : Cond.methodLink RL 120 yL_send ∈ q_TB := tb_4 (List.mem_of_getElem? (i := 129) rfl) rfl
theorem tl_4_130 : Cond.static yL_send ∈ q_TB := tb_4 (List.mem_of_getElem? (i := 130) rfl) rfl
theorem cl_L_law_701 {v0 v1 v2 v3 : Value} (hs : q_SW G mL_send [v0, v1, v2, v3] h mc ms Q) (hst : (st.map fun v => v.category).sum ≤ 8) (hf : cells + mc ≤ 600128 ∧ slots + ms ≤ 7301097) (kk : ∀ (r : Option Value) (h' : q_H), Q r h' → q_X G mL_law room_1 F 704 lv (r.toList ++ st) h' (cells + mc) (slots + ms)) : q_X G mL_law room_1 F 701 lv (v3 :: v2 :: v1 :: v0 :: st) h cells slots := x_callW (n := 4) (M := mL_law) (M' := mL_send) [v0, v1, v2, v3] hs dL_law_701 tl_4_129 tl_4_130 tl_1_0 tw_cd_4_131 rfl (by decide +kernel) ⟨Nat.le_of_ble_eq_true rfl, Nat.le_of_ble_eq_true rfl⟩ hst hf kk
theorem tl_4_148 : Cond.methodLink RL 123 yL_ping ∈ q_TB := tb_4 (List.mem_of_getElem? (i := 148) rfl) rfl
theorem tl_4_149 : Cond.static yL_ping ∈ q_TB := tb_4 (List.mem_of_getElem? (i := 149) rfl) rfl
theorem cl_L_law_756 {v0 : Value} (hs : q_SW G mL_ping [v0] h mc ms Q) (hst : (st.map fun v => v.category).sum ≤ 8) (hf : cells + mc ≤ 600128 ∧ slots + ms ≤ 7301097) (kk : ∀ (r : Option Value) (h' : q_H), Q r h' → q_X G mL_law room_1 F 759 lv (r.toList ++ st) h' (cells + mc) (slots + ms)) : q_X G mL_law room_1 F 756 lv (v0 :: st) h cells slots := x_callW (n := 1) (M := mL_law) (M' := mL_ping) [v0] hs dL_law_756 tl_4_148 tl_4_149 tl_1_0 tw_cd_4_150 rfl (by decide +kernel) ⟨Nat.le_of_ble_eq_true rfl, Nat.le_of_ble_eq_true rfl⟩ hst hf kk
theorem tl_4_155 : Cond.methodLink RL 127 yL_close ∈ q_TB := tb_4 (List.mem_of_getElem? (i := 155) rfl) rfl
theorem tl_4_156 : Cond.static yL_close ∈ q_TB := tb_4 (List.mem_of_getElem? (i := 156) rfl) rfl
theorem cl_L_law_786 {v0 v1 : Value} (hs : q_SW G mL_close [v0, v1] h mc ms Q) (hst : (st.map fun v => v.category).sum ≤ 8) (hf : cells + mc ≤ 600128 ∧ slots + ms ≤ 7301097) (kk : ∀ (r : Option Value) (h' : q_H), Q r h' → q_X G mL_law room_1 F 789 lv (r.toList ++ st) h' (cells + mc) (slots + ms)) : q_X G mL_law room_1 F 786 lv (v1 :: v0 :: st) h cells slots := x_callW (n := 2) (M := mL_law) (M' := mL_close) [v0, v1] hs dL_law_786 tl_4_155 tl_4_156 tl_1_0 tw_cd_4_157 rfl (by decide +kernel) ⟨Nat.le_of_ble_eq_true rfl, Nat.le_of_ble_eq_true rfl⟩ hst hf kk
end LawB
