/-! constructors -/
section CtorA
variable {G : q_G} {h : q_H}
/-- what was there has not changed, but for the cells of S -/
def k_ext (S : List Nat) (h h' : q_H) : Prop := ∀ q, q ∉ S → h q ≠ none → h' q = h q
theorem k_ext.tr {S : List Nat} {h h1 h2 : q_H} (a : k_ext S h h1) (b : k_ext S h1 h2) : k_ext S h h2 := fun q hq hn => (b q hq (by rw [a q hq hn]; exact hn)).trans (a q hq hn)
theorem k_ext.of {S : List Nat} {h h1 : q_H} (a : ∀ q, q ∉ S → h1 q = h q) : k_ext S h h1 := fun q hq _ => a q hq
theorem k_ext.up {S : List Nat} {h : q_H} {x : Nat} {e : Option q_C} (hx : h x = none) : k_ext S h (va_up h x e) := fun q _ hn => va_up_ne _ _ (fun z => hn (by rw [z]; exact hx))
theorem k_ext.al {S : List Nat} {h h1 : q_H} (a : k_ext S h h1) {q : Nat} (hq : q ∉ S) (hn : h q ≠ none) : h1 q ≠ none := by rw [a q hq hn]; exact hn
theorem k_ext.new {S : List Nat} {g g' : q_H} {x : Nat} (hx : g x = none) (s : ∀ q, q ∉ [x] → g' q = g q) : k_ext S g g' := fun q _ hn => s q (fun z => hn (by rw [List.mem_singleton.mp z]; exact hx))
theorem k_ext.nn {a x : Nat} {h g : q_H} (E : k_ext [a] h g) (ha : g a ≠ none) (hx : g x = none) : h x = none := by
  cases hh : h x with
  | none => rfl
  | some e =>
    by_cases hxa : x = a
    · rw [hxa] at hx; exact absurd hx ha
    · have := E x (by simp [hxa]) (by rw [hh]; simp)
      rw [hx, hh] at this
      cases this
theorem k_ext.cal {a x : Nat} {h g g' : q_H} (E : k_ext [a] h g) (hx : h x = none) (e : k_ext [x] g g') : k_ext [a] h g' := fun q hq hn => by
  have h1 := E q hq hn
  exact (e q (fun z => hn (by rw [List.mem_singleton.mp z]; exact hx)) (by rw [h1]; exact hn)).trans h1
theorem k_so {g : q_H} {y : Nat} {e : q_C} (h1 : g y = some e) : g y ≠ none := by rw [h1]; simp
theorem k_nne {g : q_H} {x y : Nat} {e : q_C} (h1 : g y = some e) (h2 : g x = none) : y ≠ x := fun z => by rw [z, h2] at h1; cases h1
theorem k_row.ext {h1 : q_H} {S : List Nat} {r ra N : Nat} {l : List Int32} (hr : k_row h r ra N l) (hs : k_ext S h h1) (h0 : r ∉ S) (ha : ra ∉ S) : k_row h1 r ra N l := by
  obtain ⟨f, e1, e2, e3⟩ := hr
  exact ⟨f, (hs r h0 (by rw [e1]; simp)).trans e1, (hs ra ha (by rw [e2]; simp)).trans e2, e3⟩
theorem k_chk.ext {h1 : q_H} {S : List Nat} {a : Nat} {c : z_T3} (hc : k_chk h a c) (hs : k_ext S h h1) (h0 : a ∉ S) : k_chk h1 a c := (hs a h0 (by rw [show h a = _ from hc]; simp)).trans hc
theorem k_blk {Pre B : List Nat} {g g' : q_H} (hn : Pre.Nodup) (ha : ∀ q ∈ Pre, g q ≠ none) (hB : B.Nodup) (hf : ∀ q ∈ B, g q = none) (ha' : ∀ q ∈ B, g' q ≠ none) (hk : ∀ q ∈ Pre, g' q ≠ none) : (Pre ++ B).Nodup ∧ ∀ q ∈ Pre ++ B, g' q ≠ none := by
  refine ⟨List.nodup_append.mpr ⟨hn, hB, fun x hx y hy z => ha x hx (by rw [z]; exact hf y hy)⟩, fun q hq => ?_⟩
  rcases List.mem_append.mp hq with hq | hq
  · exact hk q hq
  · exact ha' q hq
theorem sp_rowInit {r N : Nat} (ho : h r = some (k_ob 0 [.null, .int 0])) (hN : N < 2 ^ 20) : q_SP G mX0_init [.ref r, .int (nI N)] h 1 N (fun o h' => o = none ∧ ∃ ra, k_row h' r ra N [] ∧ h ra = none ∧ [r, ra].Nodup ∧ k_ext [r] h h') := by
  refine q_enter (M := mX0_init) (by decide +kernel) rfl (Nat.le_of_ble_eq_true rfl) ?_
  refine x_aload_n 0 dX0_init_0 rfl (by first | rfl | assumption) ?_
  refine oi_X0_init (Nat.le_of_ble_eq_true rfl) ?_
  refine x_aload_n 0 dX0_init_4 rfl (by first | rfl | assumption) ?_
  refine x_iload_n 1 dX0_init_5 rfl (by first | rfl | assumption) ?_
  refine x_newI N tw_ac_int dX0_init_6 (nI_pos (by omega)) (nI_clamp (by omega)) (by omega) (Nat.le_refl _) (by show 0 + N ≤ N; omega) (fun ra hra => ?_)
  have hne : r ≠ ra := fun z => by rw [z, hra] at ho; cases ho
  refine x_gen (fun g1 o1 s1 => ?_)
  have o2 : g1 r = some (k_ob 0 [.null, .int 0]) := (s1 r (by simp [hne])).trans ho
  refine pf_X0_init_7 dX0_init_8 (by first | assumption | exact va_up_self _ _ _) (Nat.le_of_ble_eq_true rfl) ?_
  refine x_gen (fun g2 o3 s2 => ?_)
  refine x_vret rfl dX0_init_11 (Nat.le_refl _) (by show 0 + N ≤ N; omega) ?_
  refine ⟨rfl, ra, ⟨fun _ => 0, o3, (s2 ra (by simp [Ne.symm hne])).trans o1, Nat.zero_le _, hN, fun j hj => absurd hj (Nat.not_lt_zero _)⟩, hra, by simp [hne], fun q hq hn => ?_⟩
  rw [s2 q hq]
  exact s1 q (fun z => hn (by rw [List.mem_singleton.mp z]; exact hra))
theorem sp_chkInit {a : Nat} : q_SP G mX4_init [.ref a] h 0 0 (fun o h' => o = none ∧ h' = h) := by
  refine q_enter (M := mX4_init) (by decide +kernel) rfl (Nat.le_of_ble_eq_true rfl) ?_
  refine x_aload_n 0 dX4_init_0 rfl (by first | rfl | assumption) ?_
  refine oi_X4_init (Nat.le_of_ble_eq_true rfl) ?_
  refine x_vret rfl dX4_init_4 (by decide) (by decide) ?_
  exact ⟨rfl, rfl⟩
theorem sp_waitInit {a : Nat} (ho : h a = some (k_ob 5 [.null, .null, .null, .int 0, .int 0])) : q_SP G mX5_init [.ref a] h 3 1208 (fun o h' => o = none ∧ ∃ aC aK aL, k_wait h' a aC aK aL [] ∧ (∀ q ∈ [aC, aK, aL], h q = none) ∧ [a, aC, aK, aL].Nodup ∧ (∀ q ∈ [a, aC, aK, aL], h' q ≠ none) ∧ k_ext [a] h h') := by
  refine q_enter (M := mX5_init) (by decide +kernel) rfl (Nat.le_of_ble_eq_true rfl) ?_
  refine x_aload_n 0 dX5_init_0 rfl (by first | rfl | assumption) ?_
  refine oi_X5_init (Nat.le_of_ble_eq_true rfl) ?_
  refine x_aload_n 0 dX5_init_4 rfl (by first | rfl | assumption) ?_
  refine x_sipush 1200 dX5_init_5 (by decide) ?_
  refine x_newI 1200 tw_ac_int dX5_init_8 (by decide) rfl (by decide) (by decide) (by decide) (fun aC nC => ?_)
  have d1 : a ≠ aC := fun z => by rw [z, nC] at ho; cases ho
  refine x_gen (fun g1 c1 s1 => ?_)
  have ho : g1 a = some (k_ob 5 [.null, .null, .null, .int 0, .int 0]) := (s1 a (by simp [d1])).trans ho
  refine pf_X5_init_9 dX5_init_10 (by first | assumption | exact va_up_self _ _ _) (Nat.le_of_ble_eq_true rfl) ?_
  refine x_gen (fun g2 ho s2 => ?_)
  have c1 : g2 aC = some (k_ar 1200 (fun _ => 0)) := (s2 aC (by simp [Ne.symm d1])).trans c1
  refine x_aload_n 0 dX5_init_13 rfl (by first | rfl | assumption) ?_
  refine x_iconst 4 dX5_init_14 (by decide) ?_
  refine x_newI 4 tw_ac_int dX5_init_15 (by decide) rfl (by decide) (by decide) (by decide) (fun aK nK => ?_)
  have d2 : a ≠ aK := fun z => by rw [z, nK] at ho; cases ho
  have d4 : aC ≠ aK := fun z => by rw [z, nK] at c1; cases c1
  refine x_gen (fun g3 c2 s3 => ?_)
  have ho : g3 a = _ := (s3 a (by simp [d2])).trans ho
  have c1 : g3 aC = some (k_ar 1200 (fun _ => 0)) := (s3 aC (by simp [d4])).trans c1
  refine pf_X5_init_15 dX5_init_17 (by first | assumption | exact va_up_self _ _ _) (Nat.le_of_ble_eq_true rfl) ?_
  refine x_gen (fun g4 ho s4 => ?_)
  have c1 : g4 aC = some (k_ar 1200 (fun _ => 0)) := (s4 aC (by simp [Ne.symm d1])).trans c1
  have c2 : g4 aK = some (k_ar 4 (fun _ => 0)) := (s4 aK (by simp [Ne.symm d2])).trans c2
  refine x_aload_n 0 dX5_init_20 rfl (by first | rfl | assumption) ?_
  refine x_iconst 4 dX5_init_21 (by decide) ?_
  refine x_newI 4 tw_ac_int dX5_init_22 (by decide) rfl (by decide) (by decide) (by decide) (fun aL nL => ?_)
  have d3 : a ≠ aL := fun z => by rw [z, nL] at ho; cases ho
  have d5 : aC ≠ aL := fun z => by rw [z, nL] at c1; cases c1
  have d6 : aK ≠ aL := fun z => by rw [z, nL] at c2; cases c2
  refine x_gen (fun g5 c3 s5 => ?_)
  have ho : g5 a = _ := (s5 a (by simp [d3])).trans ho
  have c1 : g5 aC = some (k_ar 1200 (fun _ => 0)) := (s5 aC (by simp [d5])).trans c1
  have c2 : g5 aK = some (k_ar 4 (fun _ => 0)) := (s5 aK (by simp [d6])).trans c2
  refine pf_X5_init_18 dX5_init_24 (by first | assumption | exact va_up_self _ _ _) (Nat.le_of_ble_eq_true rfl) ?_
  refine x_gen (fun g6 ho s6 => ?_)
  have c1 : g6 aC = some (k_ar 1200 (fun _ => 0)) := (s6 aC (by simp [Ne.symm d1])).trans c1
  have c2 : g6 aK = some (k_ar 4 (fun _ => 0)) := (s6 aK (by simp [Ne.symm d2])).trans c2
  have c3 : g6 aL = some (k_ar 4 (fun _ => 0)) := (s6 aL (by simp [Ne.symm d3])).trans c3
  refine x_vret rfl dX5_init_27 (by decide) (by decide) ?_
  have nK0 : h aK = none := by rw [← s1 aK (by simp [Ne.symm d4]), ← s2 aK (by simp [Ne.symm d2])]; exact nK
  have nL0 : h aL = none := by rw [← s1 aL (by simp [Ne.symm d5]), ← s2 aL (by simp [Ne.symm d3]), ← s3 aL (by simp [Ne.symm d6]), ← s4 aL (by simp [Ne.symm d3])]; exact nL
  refine ⟨rfl, aC, aK, aL, ⟨0, _, _, _, ho, c1, c2, c3, by omega, by simp, ⟨d1, d2, d3, d4, d5, d6⟩, fun k hk => absurd hk (Nat.not_lt_zero _)⟩, ?_, by simp [d1, d2, d3, d4, d5, d6], ?_, fun q hq hn => ?_⟩
  · intro q hq
    simp at hq
    rcases hq with rfl | rfl | rfl
    · exact nC
    · exact nK0
    · exact nL0
  · intro q hq
    simp at hq
    rcases hq with rfl | rfl | rfl | rfl
    · rw [ho]; simp
    · rw [c1]; simp
    · rw [c2]; simp
    · rw [c3]; simp
  · have q1 : q ∉ [aC] := fun z => hn (by rw [List.mem_singleton.mp z]; exact nC)
    have q2 : q ∉ [aK] := fun z => hn (by rw [List.mem_singleton.mp z]; exact nK0)
    have q3 : q ∉ [aL] := fun z => hn (by rw [List.mem_singleton.mp z]; exact nL0)
    rw [s6 q hq, s5 q q3, s4 q hq, s3 q q2, s2 q hq, s1 q q1]
theorem sp_reqInit {a : Nat} (ho : h a = some (k_ob 3 [.null, .null, .null, .null])) : q_SP G mX3_init [.ref a] h 5 417 (fun o h' => o = none ∧ ∃ rb ra aS aT aE, k_req h' a rb ra aS aT aE [] (fun _ => 0) (fun _ => 0) (fun _ => 0) ∧ (∀ q ∈ [rb, ra, aS, aT, aE], h q = none) ∧ (∀ q ∈ [a, rb, ra, aS, aT, aE], h' q ≠ none) ∧ k_ext [a] h h') := by
  refine q_enter (M := mX3_init) (by decide +kernel) rfl (Nat.le_of_ble_eq_true rfl) ?_
  refine x_aload_n 0 dX3_init_0 rfl (by first | rfl | assumption) ?_
  refine oi_X3_init (Nat.le_of_ble_eq_true rfl) ?_
  refine x_aload_n 0 dX3_init_4 rfl (by first | rfl | assumption) ?_
  refine nw_X3_init_5 (by decide) (by decide) (fun rb nb => ?_)
  have d1 := k_nne ho nb
  refine x_gen (fun g1 b1 s1 => ?_)
  have E : k_ext [a] h g1 := k_ext.new nb s1
  have ho : g1 a = some (k_ob 3 [.null, .null, .null, .null]) := (s1 a (by simp [d1])).trans ho
  refine x_dup dX3_init_8 rfl ?_
  refine x_sipush 400 dX3_init_9 (by decide) ?_
  refine cl_X3_init_12 (sp_rowInit (N := 400) b1 (by decide)) (Nat.le_of_ble_eq_true rfl) ⟨Nat.le_of_ble_eq_true rfl, Nat.le_of_ble_eq_true rfl⟩ (fun r g2 hq => ?_)
  obtain ⟨rfl, ra, rr, nra, nd, ex⟩ := hq
  have mra := E.nn (k_so ho) nra
  have E := E.cal nb ex
  have d2 := k_nne ho nra
  have d3 : rb ≠ ra := by simpa using nd
  have ho : g2 a = _ := (ex a (by simp [d1]) (k_so ho)).trans ho
  refine pf_X3_init_14 dX3_init_15 (by first | assumption | exact va_up_self _ _ _) (Nat.le_of_ble_eq_true rfl) ?_
  refine x_gen (fun g3 ho s3 => ?_)
  have E := E.tr (k_ext.of s3)
  have rr := rr.kept s3 (by simp [Ne.symm d1]) (by simp [Ne.symm d2])
  refine x_aload_n 0 dX3_init_18 rfl (by first | rfl | assumption) ?_
  refine x_iconst 5 dX3_init_19 (by decide) ?_
  refine x_newI 5 tw_ac_int dX3_init_20 (by decide) rfl (by decide) (by decide) (by decide) (fun aS nS => ?_)
  have mS := E.nn (k_so ho) nS
  obtain ⟨f0, x1, x2, -⟩ := id rr
  have d4 := k_nne ho nS
  have d5 := k_nne x1 nS
  have d6 := k_nne x2 nS
  refine x_gen (fun g4 c1 s4 => ?_)
  have E := E.tr (k_ext.new nS s4)
  have ho : g4 a = _ := (s4 a (by simp [d4])).trans ho
  have rr := rr.kept s4 (by simp [d5]) (by simp [d6])
  refine pf_X3_init_20 dX3_init_22 (by first | assumption | exact va_up_self _ _ _) (Nat.le_of_ble_eq_true rfl) ?_
  refine x_gen (fun g5 ho s5 => ?_)
  have E := E.tr (k_ext.of s5)
  have rr := rr.kept s5 (by simp [Ne.symm d1]) (by simp [Ne.symm d2])
  have c1 : g5 aS = some (k_ar 5 (fun _ => 0)) := (s5 aS (by simp [Ne.symm d4])).trans c1
  refine x_aload_n 0 dX3_init_25 rfl (by first | rfl | assumption) ?_
  refine x_iconst 5 dX3_init_26 (by decide) ?_
  refine x_newI 5 tw_ac_int dX3_init_27 (by decide) rfl (by decide) (by decide) (by decide) (fun aT nT => ?_)
  have mT := E.nn (k_so ho) nT
  obtain ⟨f1, x1, x2, -⟩ := id rr
  have e4 := k_nne ho nT
  have e5 := k_nne x1 nT
  have e6 := k_nne x2 nT
  have e7 := k_nne c1 nT
  refine x_gen (fun g6 c2 s6 => ?_)
  have E := E.tr (k_ext.new nT s6)
  have ho : g6 a = _ := (s6 a (by simp [e4])).trans ho
  have rr := rr.kept s6 (by simp [e5]) (by simp [e6])
  have c1 : g6 aS = some (k_ar 5 (fun _ => 0)) := (s6 aS (by simp [e7])).trans c1
  refine pf_X3_init_24 dX3_init_29 (by first | assumption | exact va_up_self _ _ _) (Nat.le_of_ble_eq_true rfl) ?_
  refine x_gen (fun g7 ho s7 => ?_)
  have E := E.tr (k_ext.of s7)
  have rr := rr.kept s7 (by simp [Ne.symm d1]) (by simp [Ne.symm d2])
  have c1 : g7 aS = some (k_ar 5 (fun _ => 0)) := (s7 aS (by simp [Ne.symm d4])).trans c1
  have c2 : g7 aT = some (k_ar 5 (fun _ => 0)) := (s7 aT (by simp [Ne.symm e4])).trans c2
  refine x_aload_n 0 dX3_init_32 rfl (by first | rfl | assumption) ?_
  refine x_iconst 5 dX3_init_33 (by decide) ?_
  refine x_newI 5 tw_ac_int dX3_init_34 (by decide) rfl (by decide) (by decide) (by decide) (fun aE nE => ?_)
  have mE := E.nn (k_so ho) nE
  obtain ⟨f2, x1, x2, -⟩ := id rr
  have i4 := k_nne ho nE
  have i5 := k_nne x1 nE
  have i6 := k_nne x2 nE
  have i7 := k_nne c1 nE
  have i8 := k_nne c2 nE
  refine x_gen (fun g8 c3 s8 => ?_)
  have E := E.tr (k_ext.new nE s8)
  have ho : g8 a = _ := (s8 a (by simp [i4])).trans ho
  have rr := rr.kept s8 (by simp [i5]) (by simp [i6])
  have c1 : g8 aS = some (k_ar 5 (fun _ => 0)) := (s8 aS (by simp [i7])).trans c1
  have c2 : g8 aT = some (k_ar 5 (fun _ => 0)) := (s8 aT (by simp [i8])).trans c2
  refine pf_X3_init_27 dX3_init_36 (by first | assumption | exact va_up_self _ _ _) (Nat.le_of_ble_eq_true rfl) ?_
  refine x_gen (fun g9 ho s9 => ?_)
  have E := E.tr (k_ext.of s9)
  have rr := rr.kept s9 (by simp [Ne.symm d1]) (by simp [Ne.symm d2])
  have c1 : g9 aS = some (k_ar 5 (fun _ => 0)) := (s9 aS (by simp [Ne.symm d4])).trans c1
  have c2 : g9 aT = some (k_ar 5 (fun _ => 0)) := (s9 aT (by simp [Ne.symm e4])).trans c2
  have c3 : g9 aE = some (k_ar 5 (fun _ => 0)) := (s9 aE (by simp [Ne.symm i4])).trans c3
  obtain ⟨f3, x1, x2, -⟩ := id rr
  refine x_vret rfl dX3_init_39 (by decide) (by decide) ?_
  refine ⟨rfl, rb, ra, aS, aT, aE, ⟨ho, rr, c1, c2, c3, by simp [d1, d2, d3, d4, d5, d6, e4, e5, e6, e7, i4, i5, i6, i7, i8]⟩, ?_, ?_, E⟩
  · intro q hq
    simp at hq
    rcases hq with rfl | rfl | rfl | rfl | rfl <;> assumption
  · intro q hq
    simp at hq
    rcases hq with rfl | rfl | rfl | rfl | rfl | rfl
    · exact k_so ho
    · exact k_so x1
    · exact k_so x2
    · exact k_so c1
    · exact k_so c2
    · exact k_so c3
theorem sp_prfInit {a : Nat} (ho : h a = some (k_ob 2 [.null, .null, .null])) : q_SP G mX2_init [.ref a] h 4 215 (fun o h' => o = none ∧ ∃ rb ra aW aH fw fh, k_prf h' a rb ra aW aH [] fw fh ∧ (∀ q ∈ [rb, ra, aW, aH], h q = none) ∧ k_ext [a] h h') := by
  refine q_enter (M := mX2_init) (by decide +kernel) rfl (Nat.le_of_ble_eq_true rfl) ?_
  refine x_aload_n 0 dX2_init_0 rfl (by first | rfl | assumption) ?_
  refine oi_X2_init (Nat.le_of_ble_eq_true rfl) ?_
  refine x_aload_n 0 dX2_init_4 rfl (by first | rfl | assumption) ?_
  refine nw_X2_init_5 (by decide) (by decide) (fun rb nb => ?_)
  have d1 := k_nne ho nb
  refine x_gen (fun g1 b1 s1 => ?_)
  have E : k_ext [a] h g1 := k_ext.new nb s1
  have ho : g1 a = some (k_ob 2 [.null, .null, .null]) := (s1 a (by simp [d1])).trans ho
  refine x_dup dX2_init_8 rfl ?_
  refine x_sipush 128 dX2_init_9 (by decide) ?_
  refine cl_X2_init_12 (sp_rowInit (N := 128) b1 (by decide)) (Nat.le_of_ble_eq_true rfl) ⟨Nat.le_of_ble_eq_true rfl, Nat.le_of_ble_eq_true rfl⟩ (fun r g2 hq => ?_)
  obtain ⟨rfl, ra, rr, nra, nd, ex⟩ := hq
  have mra := E.nn (k_so ho) nra
  have E := E.cal nb ex
  have d2 := k_nne ho nra
  have d3 : rb ≠ ra := by simpa using nd
  have ho : g2 a = _ := (ex a (by simp [d1]) (k_so ho)).trans ho
  refine pf_X2_init_16 dX2_init_15 (by first | assumption | exact va_up_self _ _ _) (Nat.le_of_ble_eq_true rfl) ?_
  refine x_gen (fun g3 ho s3 => ?_)
  have E := E.tr (k_ext.of s3)
  have rr := rr.kept s3 (by simp [Ne.symm d1]) (by simp [Ne.symm d2])
  refine x_aload_n 0 dX2_init_18 rfl (by first | rfl | assumption) ?_
  refine x_bipush 80 dX2_init_19 (by decide) ?_
  refine x_newI 80 tw_ac_int dX2_init_21 (by decide) rfl (by decide) (by decide) (by decide) (fun aS nS => ?_)
  have mS := E.nn (k_so ho) nS
  obtain ⟨f0, x1, x2, -⟩ := id rr
  have d4 := k_nne ho nS
  have d5 := k_nne x1 nS
  have d6 := k_nne x2 nS
  refine x_gen (fun g4 c1 s4 => ?_)
  have E := E.tr (k_ext.new nS s4)
  have ho : g4 a = _ := (s4 a (by simp [d4])).trans ho
  have rr := rr.kept s4 (by simp [d5]) (by simp [d6])
  refine pf_X2_init_20 dX2_init_23 (by first | assumption | exact va_up_self _ _ _) (Nat.le_of_ble_eq_true rfl) ?_
  refine x_gen (fun g5 ho s5 => ?_)
  have E := E.tr (k_ext.of s5)
  have rr := rr.kept s5 (by simp [Ne.symm d1]) (by simp [Ne.symm d2])
  have c1 : g5 aS = some (k_ar 80 (fun _ => 0)) := (s5 aS (by simp [Ne.symm d4])).trans c1
  refine x_aload_n 0 dX2_init_26 rfl (by first | rfl | assumption) ?_
  refine x_iconst 5 dX2_init_27 (by decide) ?_
  refine x_newI 5 tw_ac_int dX2_init_28 (by decide) rfl (by decide) (by decide) (by decide) (fun aT nT => ?_)
  have mT := E.nn (k_so ho) nT
  obtain ⟨f1, x1, x2, -⟩ := id rr
  have e4 := k_nne ho nT
  have e5 := k_nne x1 nT
  have e6 := k_nne x2 nT
  have e7 := k_nne c1 nT
  refine x_gen (fun g6 c2 s6 => ?_)
  have E := E.tr (k_ext.new nT s6)
  have ho : g6 a = _ := (s6 a (by simp [e4])).trans ho
  have rr := rr.kept s6 (by simp [e5]) (by simp [e6])
  have c1 : g6 aS = some (k_ar 80 (fun _ => 0)) := (s6 aS (by simp [e7])).trans c1
  refine pf_X2_init_24 dX2_init_30 (by first | assumption | exact va_up_self _ _ _) (Nat.le_of_ble_eq_true rfl) ?_
  refine x_gen (fun g7 ho s7 => ?_)
  have E := E.tr (k_ext.of s7)
  have rr := rr.kept s7 (by simp [Ne.symm d1]) (by simp [Ne.symm d2])
  have c1 : g7 aS = some (k_ar 80 (fun _ => 0)) := (s7 aS (by simp [Ne.symm d4])).trans c1
  have c2 : g7 aT = some (k_ar 5 (fun _ => 0)) := (s7 aT (by simp [Ne.symm e4])).trans c2
  refine x_vret rfl dX2_init_33 (by decide) (by decide) ?_
  refine ⟨rfl, rb, ra, aS, aT, _, _, ⟨ho, rr, c1, c2, by simp [d1, d2, d3, d4, d5, d6, e4, e5, e6, e7]⟩, ?_, E⟩
  intro q hq
  simp at hq
  rcases hq with rfl | rfl | rfl | rfl <;> assumption
theorem sp_frmInit {a : Nat} (ho : h a = some (k_ob 1 [.null, .null, .null, .null, .null, .int 0, .int 0, .int 0, .int 0, .int 0, .int 0, .int 0, .long 0, .int 0, .int 0])) : q_SP G mX1_init [.ref a] h 7 439 (fun o h' => o = none ∧ ∃ aM rm rma rs rsa c1 c2, k_frm h' a aM rm rma rs rsa c1 c2 (0, 0, false, false, 0, 0, 0, 0, 0, 0, fun _ => 0, [], [], (0, 0, 0)) ∧ (∀ q ∈ [aM, rm, rma, rs, rsa, c1, c2], h q = none) ∧ (∀ q ∈ [a, aM, rm, rma, rs, rsa, c1, c2], h' q ≠ none) ∧ k_ext [a] h h') := by
  refine q_enter (M := mX1_init) (by decide +kernel) rfl (Nat.le_of_ble_eq_true rfl) ?_
  refine x_aload_n 0 dX1_init_0 rfl (by first | rfl | assumption) ?_
  refine oi_X1_init (Nat.le_of_ble_eq_true rfl) ?_
  refine x_aload_n 0 dX1_init_4 rfl (by first | rfl | assumption) ?_
  refine x_iconst 4 dX1_init_5 (by decide) ?_
  refine x_newI 4 tw_ac_int dX1_init_6 (by decide) rfl (by decide) (by decide) (by decide) (fun aM nM => ?_)
  have d1 := k_nne ho nM
  refine x_gen (fun g1 cM s1 => ?_)
  have E : k_ext [a] h g1 := k_ext.new nM s1
  have ho : g1 a = some (k_ob 1 [.null, .null, .null, .null, .null, .int 0, .int 0, .int 0, .int 0, .int 0, .int 0, .int 0, .long 0, .int 0, .int 0]) := (s1 a (by simp [d1])).trans ho
  refine pf_X1_init_9 dX1_init_8 (by first | assumption | exact va_up_self _ _ _) (Nat.le_of_ble_eq_true rfl) ?_
  refine x_gen (fun g2 ho s2 => ?_)
  have E := E.tr (k_ext.of s2)
  have cM : g2 aM = some (k_ar 4 (fun _ => 0)) := (s2 aM (by simp [Ne.symm d1])).trans cM
  refine x_aload_n 0 dX1_init_11 rfl (by first | rfl | assumption) ?_
  refine nw_X1_init_12 (by decide) (by decide) (fun rm nb => ?_)
  have mrm := E.nn (k_so ho) nb
  have d2 := k_nne ho nb
  have t2 := k_nne cM nb
  refine x_gen (fun g3 b1 s3 => ?_)
  have E := E.tr (k_ext.new nb s3)
  have ho : g3 a = _ := (s3 a (by simp [d2])).trans ho
  have cM : g3 aM = some (k_ar 4 (fun _ => 0)) := (s3 aM (by simp [t2])).trans cM
  refine x_dup dX1_init_15 rfl ?_
  refine x_sipush 300 dX1_init_16 (by decide) ?_
  refine cl_X1_init_19 (sp_rowInit (N := 300) b1 (by decide)) (Nat.le_of_ble_eq_true rfl) ⟨Nat.le_of_ble_eq_true rfl, Nat.le_of_ble_eq_true rfl⟩ (fun r g4 hq => ?_)
  obtain ⟨rfl, rma, rr, nra, nd, ex⟩ := hq
  have mrma := E.nn (k_so ho) nra
  have E := E.cal mrm ex
  have d3 := k_nne ho nra
  have t3 := k_nne cM nra
  have u3 : rm ≠ rma := by simpa using nd
  have cM : g4 aM = some (k_ar 4 (fun _ => 0)) := (ex aM (by simp [t2]) (k_so cM)).trans cM
  have ho : g4 a = _ := (ex a (by simp [d2]) (k_so ho)).trans ho
  refine pf_X1_init_20 dX1_init_22 (by first | assumption | exact va_up_self _ _ _) (Nat.le_of_ble_eq_true rfl) ?_
  refine x_gen (fun g5 ho s5 => ?_)
  have E := E.tr (k_ext.of s5)
  have rr := rr.kept s5 (by simp [Ne.symm d2]) (by simp [Ne.symm d3])
  have cM : g5 aM = some (k_ar 4 (fun _ => 0)) := (s5 aM (by simp [Ne.symm d1])).trans cM
  refine x_aload_n 0 dX1_init_25 rfl (by first | rfl | assumption) ?_
  refine nw_X1_init_26 (by decide) (by decide) (fun rs ns => ?_)
  have mrs := E.nn (k_so ho) ns
  obtain ⟨f0, x1, x2, -⟩ := id rr
  have d4 := k_nne ho ns
  have t4 := k_nne cM ns
  have u4 := k_nne x1 ns
  have v4 := k_nne x2 ns
  refine x_gen (fun g6 b1 s6 => ?_)
  have E := E.tr (k_ext.new ns s6)
  have ho : g6 a = _ := (s6 a (by simp [d4])).trans ho
  have cM : g6 aM = some (k_ar 4 (fun _ => 0)) := (s6 aM (by simp [t4])).trans cM
  have rr := rr.kept s6 (by simp [u4]) (by simp [v4])
  refine x_dup dX1_init_29 rfl ?_
  refine x_bipush 125 dX1_init_30 (by decide) ?_
  refine cl_X1_init_32 (sp_rowInit (N := 125) b1 (by decide)) (Nat.le_of_ble_eq_true rfl) ⟨Nat.le_of_ble_eq_true rfl, Nat.le_of_ble_eq_true rfl⟩ (fun r g7 hq => ?_)
  obtain ⟨rfl, rsa, rs2, nsa, nd, ex⟩ := hq
  have mrsa := E.nn (k_so ho) nsa
  have E := E.cal mrs ex
  obtain ⟨f0, x1, x2, -⟩ := id rr
  have d5 := k_nne ho nsa
  have t5 := k_nne cM nsa
  have u5 := k_nne x1 nsa
  have v5 := k_nne x2 nsa
  have w5 : rs ≠ rsa := by simpa using nd
  have cM : g7 aM = some (k_ar 4 (fun _ => 0)) := (ex aM (by simp [t4]) (k_so cM)).trans cM
  have ho : g7 a = _ := (ex a (by simp [d4]) (k_so ho)).trans ho
  have rr := rr.ext ex (by simp [u4]) (by simp [v4])
  refine pf_X1_init_24 dX1_init_35 (by first | assumption | exact va_up_self _ _ _) (Nat.le_of_ble_eq_true rfl) ?_
  refine x_gen (fun g8 ho s8 => ?_)
  have E := E.tr (k_ext.of s8)
  have rr := rr.kept s8 (by simp [Ne.symm d2]) (by simp [Ne.symm d3])
  have rs2 := rs2.kept s8 (by simp [Ne.symm d4]) (by simp [Ne.symm d5])
  have cM : g8 aM = some (k_ar 4 (fun _ => 0)) := (s8 aM (by simp [Ne.symm d1])).trans cM
  refine x_aload_n 0 dX1_init_38 rfl (by first | rfl | assumption) ?_
  refine nw_X1_init_39 (by decide) (by decide) (fun c1 n1 => ?_)
  have mc1 := E.nn (k_so ho) n1
  obtain ⟨f0, x1, x2, -⟩ := id rr
  obtain ⟨f1, x3, x4, -⟩ := id rs2
  have d6 := k_nne ho n1
  have t6 := k_nne cM n1
  have u6 := k_nne x1 n1
  have v6 := k_nne x2 n1
  have w6 := k_nne x3 n1
  have y6 := k_nne x4 n1
  refine x_gen (fun g9 k1 s9 => ?_)
  have E := E.tr (k_ext.new n1 s9)
  have ho : g9 a = _ := (s9 a (by simp [d6])).trans ho
  have cM : g9 aM = some (k_ar 4 (fun _ => 0)) := (s9 aM (by simp [t6])).trans cM
  have rr := rr.kept s9 (by simp [u6]) (by simp [v6])
  have rs2 := rs2.kept s9 (by simp [w6]) (by simp [y6])
  refine x_dup dX1_init_42 rfl ?_
  refine cl_X1_init_43 sp_chkInit (Nat.le_of_ble_eq_true rfl) ⟨Nat.le_of_ble_eq_true rfl, Nat.le_of_ble_eq_true rfl⟩ (fun r ga hq => ?_)
  obtain ⟨rfl, rfl⟩ := hq
  refine pf_X1_init_30 dX1_init_46 (by first | assumption | exact va_up_self _ _ _) (Nat.le_of_ble_eq_true rfl) ?_
  refine x_gen (fun gb ho sb => ?_)
  have E := E.tr (k_ext.of sb)
  have rr := rr.kept sb (by simp [Ne.symm d2]) (by simp [Ne.symm d3])
  have rs2 := rs2.kept sb (by simp [Ne.symm d4]) (by simp [Ne.symm d5])
  have cM : gb aM = some (k_ar 4 (fun _ => 0)) := (sb aM (by simp [Ne.symm d1])).trans cM
  have k1 : gb c1 = some (k_ob 4 [.int 0, .int 0, .int 0]) := (sb c1 (by simp [Ne.symm d6])).trans k1
  refine x_aload_n 0 dX1_init_49 rfl (by first | rfl | assumption) ?_
  refine nw_X1_init_50 (by decide) (by decide) (fun c2 n2 => ?_)
  have mc2 := E.nn (k_so ho) n2
  obtain ⟨f0, x1, x2, -⟩ := id rr
  obtain ⟨f1, x3, x4, -⟩ := id rs2
  have d7 := k_nne ho n2
  have t7 := k_nne cM n2
  have u7 := k_nne x1 n2
  have v7 := k_nne x2 n2
  have w7 := k_nne x3 n2
  have y7 := k_nne x4 n2
  have z7 := k_nne k1 n2
  refine x_gen (fun gc k2 s9 => ?_)
  have E := E.tr (k_ext.new n2 s9)
  have ho : gc a = _ := (s9 a (by simp [d7])).trans ho
  have cM : gc aM = some (k_ar 4 (fun _ => 0)) := (s9 aM (by simp [t7])).trans cM
  have rr := rr.kept s9 (by simp [u7]) (by simp [v7])
  have rs2 := rs2.kept s9 (by simp [w7]) (by simp [y7])
  have k1 : gc c1 = some (k_ob 4 [.int 0, .int 0, .int 0]) := (s9 c1 (by simp [z7])).trans k1
  refine x_dup dX1_init_53 rfl ?_
  refine cl_X1_init_54 sp_chkInit (Nat.le_of_ble_eq_true rfl) ⟨Nat.le_of_ble_eq_true rfl, Nat.le_of_ble_eq_true rfl⟩ (fun r gd hq => ?_)
  obtain ⟨rfl, rfl⟩ := hq
  refine pf_X1_init_34 dX1_init_57 (by first | assumption | exact va_up_self _ _ _) (Nat.le_of_ble_eq_true rfl) ?_
  refine x_aload_n 0 dX1_init_60 rfl (by first | rfl | assumption) ?_
  refine x_iconst 0 dX1_init_61 (by decide) ?_
  refine pf_X1_init_37 dX1_init_62 (by first | assumption | exact va_up_self _ _ _) (Nat.le_of_ble_eq_true rfl) ?_
  refine x_gen (fun ge ho s9 => ?_)
  have s9 : k_same [a] gd ge := k_up1.tr s9
  have E := E.tr (k_ext.of s9)
  have rr := rr.kept s9 (by simp [Ne.symm d2]) (by simp [Ne.symm d3])
  have rs2 := rs2.kept s9 (by simp [Ne.symm d4]) (by simp [Ne.symm d5])
  have cM : ge aM = some (k_ar 4 (fun _ => 0)) := (s9 aM (by simp [Ne.symm d1])).trans cM
  have k1 : ge c1 = some (k_ob 4 [.int 0, .int 0, .int 0]) := (s9 c1 (by simp [Ne.symm d6])).trans k1
  have k2 : ge c2 = some (k_ob 4 [.int 0, .int 0, .int 0]) := (s9 c2 (by simp [Ne.symm d7])).trans k2
  obtain ⟨f0, x1, x2, -⟩ := id rr
  obtain ⟨f1, x3, x4, -⟩ := id rs2
  refine x_vret rfl dX1_init_65 (by decide) (by decide) ?_
  refine ⟨rfl, aM, rm, rma, rs, rsa, c1, c2, ⟨ho, cM, rr, rs2, k1, ⟨(0, 0, 0), k2⟩, by simp [d1, d2, d3, d4, d5, d6, d7, t2, t3, t4, t5, t6, t7, u3, u4, u5, u6, u7, v4, v5, v6, v7, w5, w6, w7, y6, y7, z7]⟩, ?_, ?_, E⟩
  · intro q hq
    simp at hq
    rcases hq with rfl | rfl | rfl | rfl | rfl | rfl | rfl <;> assumption
  · intro q hq
    simp at hq
    rcases hq with rfl | rfl | rfl | rfl | rfl | rfl | rfl | rfl
    · exact k_so ho
    · exact k_so cM
    · exact k_so x1
    · exact k_so x2
    · exact k_so x3
    · exact k_so x4
    · exact k_so k1
    · exact k_so k2
end CtorA
