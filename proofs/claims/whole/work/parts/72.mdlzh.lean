/-! the reference: its constructor -/
section MdlZh
variable {G : q_G} {h : q_H}
def m_V0 (B : Nat → Nat) : Nat → Value := fun k => ([.int 0, .int 0, .int 0, .ref (B 1), .int 0, .ref (B 2), .ref (B 3), .ref (B 4), .ref (B 5), .int 0, .ref (B 6), .int 0, .int 0, .int 0, .int 0, .long 0, .int 0, .int 0, .ref (B 7), .ref (B 8), .int 0, .int 0, .int 0, .ref (B 9), .int 0, .int 0, .int 0, .int 0, .ref (B 10), .ref (B 11), .ref (B 12), .int 0, .int 0, .ref (B 13), .ref (B 14), .ref (B 15)] : List Value).getD k .null
theorem sm_init {t : Nat} (ho : h t = some (k_ob 7 [.int 0, .int 0, .int 0, .null, .int 0, .null, .null, .null, .null, .int 0, .null, .int 0, .int 0, .int 0, .int 0, .long 0, .int 0, .int 0, .null, .null, .int 0, .int 0, .int 0, .null, .int 0, .int 0, .int 0, .int 0, .null, .null, .null, .int 0, .int 0, .null, .null, .null])) : q_SP G mX7_init [.ref t] h 15 3165 (fun o h' => o = none ∧ ∃ B : Nat → Nat, B 0 = t ∧ k_m h' h' B (m_V0 B) (fun _ _ => 0) ∧ (∀ i, 1 ≤ i → i < 16 → h (B i) = none) ∧ k_ext [t] h h') := by
  refine q_enter (M := mX7_init) (by decide +kernel) rfl (Nat.le_of_ble_eq_true rfl) ?_
  refine x_aload_n 0 dX7_init_0 rfl (by first | rfl | assumption) ?_
  refine oi_X7_init (Nat.le_of_ble_eq_true rfl) ?_
  have P : [t].Nodup ∧ ∀ x ∈ [t], h x ≠ none := ⟨by simp, fun x hx => by rw [List.mem_singleton.mp hx]; exact k_so ho⟩
  refine x_aload_n 0 dX7_init_4 rfl (by first | rfl | assumption) ?_
  refine x_sipush 400 dX7_init_5 (by decide) ?_
  refine x_newI 400 tw_ac_int dX7_init_8 (by decide) rfl (by decide) (by decide) (by decide) (fun y1 ny1 => ?_)
  have ty1 : t ≠ y1 := k_nne ho ny1
  refine x_gen (fun g1a b1 s1 => ?_)
  have b0 := b1
  have ho : g1a t = some (k_ob 7 [.int 0, .int 0, .int 0, .null, .int 0, .null, .null, .null, .null, .int 0, .null, .int 0, .int 0, .int 0, .int 0, .long 0, .int 0, .int 0, .null, .null, .int 0, .int 0, .int 0, .null, .int 0, .int 0, .int 0, .int 0, .null, .null, .null, .int 0, .int 0, .null, .null, .null]) := (s1 t (by simp [ty1])).trans ho
  refine pf_X7_init_7 dX7_init_10 (by first | assumption | exact va_up_self _ _ _) (Nat.le_of_ble_eq_true rfl) ?_
  refine x_gen (fun g1b ho s3 => ?_)
  have b1 : g1b y1 = some (k_ar 400 (fun _ => 0)) := (s3 y1 (by simp [Ne.symm ty1])).trans b1
  have E := k_step ny1 s1 (k_ext.rf (S := [y1])) s3
  have X : ∀ x, h x ≠ none → x ≠ t → g1b x = h x := E
  have f1 : h y1 = none := ny1
  have X0 := X
  have a1 := b1
  have P := k_grow (t := t) P.1 P.2 (show (y1 :: ([] : List Nat)).Nodup by simp) ny1 (fun x hx => absurd hx (by simp)) s1 (k_ext.rf (S := [y1])) s3 (fun x hx => by rw [List.mem_singleton.mp hx]; exact k_so b0) (k_so ho)
  refine x_aload_n 0 dX7_init_13 rfl (by first | rfl | assumption) ?_
  refine x_iconst 5 dX7_init_14 (by decide) ?_
  refine x_newI 5 tw_ac_int dX7_init_15 (by decide) rfl (by decide) (by decide) (by decide) (fun y2 ny2 => ?_)
  have ty2 : t ≠ y2 := k_nne ho ny2
  refine x_gen (fun g2a b1 s1 => ?_)
  have b0 := b1
  have ho : g2a t = some (k_ob 7 [.int 0, .int 0, .int 0, .ref y1, .int 0, .null, .null, .null, .null, .int 0, .null, .int 0, .int 0, .int 0, .int 0, .long 0, .int 0, .int 0, .null, .null, .int 0, .int 0, .int 0, .null, .int 0, .int 0, .int 0, .int 0, .null, .null, .null, .int 0, .int 0, .null, .null, .null]) := (s1 t (by simp [ty2])).trans ho
  refine pf_X7_init_13 dX7_init_17 (by first | assumption | exact va_up_self _ _ _) (Nat.le_of_ble_eq_true rfl) ?_
  refine x_gen (fun g2b ho s3 => ?_)
  have b1 : g2b y2 = some (k_ar 5 (fun _ => 0)) := (s3 y2 (by simp [Ne.symm ty2])).trans b1
  have E := k_step ny2 s1 (k_ext.rf (S := [y2])) s3
  have X : ∀ x, h x ≠ none → x ≠ t → g2b x = h x := fun x hx hxt => (E x (by rw [X x hx hxt]; exact hx) hxt).trans (X x hx hxt)
  have f2 : h y2 = none := by
    cases hh : h y2 with
    | none => rfl
    | some e => exact absurd ny2 (by rw [X0 y2 (by rw [hh]; simp) (Ne.symm ty2), hh]; simp)
  have X0 := X
  have a1 : g2b y1 = some (k_ar 400 (fun _ => 0)) := (E y1 (P.2 y1 (by simp)) (Ne.symm ty1)).trans a1
  have a2 := b1
  have P := k_grow (t := t) P.1 P.2 (show (y2 :: ([] : List Nat)).Nodup by simp) ny2 (fun x hx => absurd hx (by simp)) s1 (k_ext.rf (S := [y2])) s3 (fun x hx => by rw [List.mem_singleton.mp hx]; exact k_so b0) (k_so ho)
  refine x_aload_n 0 dX7_init_20 rfl (by first | rfl | assumption) ?_
  refine x_iconst 5 dX7_init_21 (by decide) ?_
  refine x_newI 5 tw_ac_int dX7_init_22 (by decide) rfl (by decide) (by decide) (by decide) (fun y3 ny3 => ?_)
  have ty3 : t ≠ y3 := k_nne ho ny3
  refine x_gen (fun g3a b1 s1 => ?_)
  have b0 := b1
  have ho : g3a t = some (k_ob 7 [.int 0, .int 0, .int 0, .ref y1, .int 0, .ref y2, .null, .null, .null, .int 0, .null, .int 0, .int 0, .int 0, .int 0, .long 0, .int 0, .int 0, .null, .null, .int 0, .int 0, .int 0, .null, .int 0, .int 0, .int 0, .int 0, .null, .null, .null, .int 0, .int 0, .null, .null, .null]) := (s1 t (by simp [ty3])).trans ho
  refine pf_X7_init_16 dX7_init_24 (by first | assumption | exact va_up_self _ _ _) (Nat.le_of_ble_eq_true rfl) ?_
  refine x_gen (fun g3b ho s3 => ?_)
  have b1 : g3b y3 = some (k_ar 5 (fun _ => 0)) := (s3 y3 (by simp [Ne.symm ty3])).trans b1
  have E := k_step ny3 s1 (k_ext.rf (S := [y3])) s3
  have X : ∀ x, h x ≠ none → x ≠ t → g3b x = h x := fun x hx hxt => (E x (by rw [X x hx hxt]; exact hx) hxt).trans (X x hx hxt)
  have f3 : h y3 = none := by
    cases hh : h y3 with
    | none => rfl
    | some e => exact absurd ny3 (by rw [X0 y3 (by rw [hh]; simp) (Ne.symm ty3), hh]; simp)
  have X0 := X
  have a1 : g3b y1 = some (k_ar 400 (fun _ => 0)) := (E y1 (P.2 y1 (by simp)) (Ne.symm ty1)).trans a1
  have a2 : g3b y2 = some (k_ar 5 (fun _ => 0)) := (E y2 (P.2 y2 (by simp)) (Ne.symm ty2)).trans a2
  have a3 := b1
  have P := k_grow (t := t) P.1 P.2 (show (y3 :: ([] : List Nat)).Nodup by simp) ny3 (fun x hx => absurd hx (by simp)) s1 (k_ext.rf (S := [y3])) s3 (fun x hx => by rw [List.mem_singleton.mp hx]; exact k_so b0) (k_so ho)
  refine x_aload_n 0 dX7_init_27 rfl (by first | rfl | assumption) ?_
  refine x_iconst 5 dX7_init_28 (by decide) ?_
  refine x_newI 5 tw_ac_int dX7_init_29 (by decide) rfl (by decide) (by decide) (by decide) (fun y4 ny4 => ?_)
  have ty4 : t ≠ y4 := k_nne ho ny4
  refine x_gen (fun g4a b1 s1 => ?_)
  have b0 := b1
  have ho : g4a t = some (k_ob 7 [.int 0, .int 0, .int 0, .ref y1, .int 0, .ref y2, .ref y3, .null, .null, .int 0, .null, .int 0, .int 0, .int 0, .int 0, .long 0, .int 0, .int 0, .null, .null, .int 0, .int 0, .int 0, .null, .int 0, .int 0, .int 0, .int 0, .null, .null, .null, .int 0, .int 0, .null, .null, .null]) := (s1 t (by simp [ty4])).trans ho
  refine pf_X7_init_19 dX7_init_31 (by first | assumption | exact va_up_self _ _ _) (Nat.le_of_ble_eq_true rfl) ?_
  refine x_gen (fun g4b ho s3 => ?_)
  have b1 : g4b y4 = some (k_ar 5 (fun _ => 0)) := (s3 y4 (by simp [Ne.symm ty4])).trans b1
  have E := k_step ny4 s1 (k_ext.rf (S := [y4])) s3
  have X : ∀ x, h x ≠ none → x ≠ t → g4b x = h x := fun x hx hxt => (E x (by rw [X x hx hxt]; exact hx) hxt).trans (X x hx hxt)
  have f4 : h y4 = none := by
    cases hh : h y4 with
    | none => rfl
    | some e => exact absurd ny4 (by rw [X0 y4 (by rw [hh]; simp) (Ne.symm ty4), hh]; simp)
  have X0 := X
  have a1 : g4b y1 = some (k_ar 400 (fun _ => 0)) := (E y1 (P.2 y1 (by simp)) (Ne.symm ty1)).trans a1
  have a2 : g4b y2 = some (k_ar 5 (fun _ => 0)) := (E y2 (P.2 y2 (by simp)) (Ne.symm ty2)).trans a2
  have a3 : g4b y3 = some (k_ar 5 (fun _ => 0)) := (E y3 (P.2 y3 (by simp)) (Ne.symm ty3)).trans a3
  have a4 := b1
  have P := k_grow (t := t) P.1 P.2 (show (y4 :: ([] : List Nat)).Nodup by simp) ny4 (fun x hx => absurd hx (by simp)) s1 (k_ext.rf (S := [y4])) s3 (fun x hx => by rw [List.mem_singleton.mp hx]; exact k_so b0) (k_so ho)
  refine x_aload_n 0 dX7_init_34 rfl (by first | rfl | assumption) ?_
  refine x_sipush 800 dX7_init_35 (by decide) ?_
  refine x_newI 800 tw_ac_int dX7_init_38 (by decide) rfl (by decide) (by decide) (by decide) (fun y5 ny5 => ?_)
  have ty5 : t ≠ y5 := k_nne ho ny5
  refine x_gen (fun g5a b1 s1 => ?_)
  have b0 := b1
  have ho : g5a t = some (k_ob 7 [.int 0, .int 0, .int 0, .ref y1, .int 0, .ref y2, .ref y3, .ref y4, .null, .int 0, .null, .int 0, .int 0, .int 0, .int 0, .long 0, .int 0, .int 0, .null, .null, .int 0, .int 0, .int 0, .null, .int 0, .int 0, .int 0, .int 0, .null, .null, .null, .int 0, .int 0, .null, .null, .null]) := (s1 t (by simp [ty5])).trans ho
  refine pf_X7_init_22 dX7_init_40 (by first | assumption | exact va_up_self _ _ _) (Nat.le_of_ble_eq_true rfl) ?_
  refine x_gen (fun g5b ho s3 => ?_)
  have b1 : g5b y5 = some (k_ar 800 (fun _ => 0)) := (s3 y5 (by simp [Ne.symm ty5])).trans b1
  have E := k_step ny5 s1 (k_ext.rf (S := [y5])) s3
  have X : ∀ x, h x ≠ none → x ≠ t → g5b x = h x := fun x hx hxt => (E x (by rw [X x hx hxt]; exact hx) hxt).trans (X x hx hxt)
  have f5 : h y5 = none := by
    cases hh : h y5 with
    | none => rfl
    | some e => exact absurd ny5 (by rw [X0 y5 (by rw [hh]; simp) (Ne.symm ty5), hh]; simp)
  have X0 := X
  have a1 : g5b y1 = some (k_ar 400 (fun _ => 0)) := (E y1 (P.2 y1 (by simp)) (Ne.symm ty1)).trans a1
  have a2 : g5b y2 = some (k_ar 5 (fun _ => 0)) := (E y2 (P.2 y2 (by simp)) (Ne.symm ty2)).trans a2
  have a3 : g5b y3 = some (k_ar 5 (fun _ => 0)) := (E y3 (P.2 y3 (by simp)) (Ne.symm ty3)).trans a3
  have a4 : g5b y4 = some (k_ar 5 (fun _ => 0)) := (E y4 (P.2 y4 (by simp)) (Ne.symm ty4)).trans a4
  have a5 := b1
  have P := k_grow (t := t) P.1 P.2 (show (y5 :: ([] : List Nat)).Nodup by simp) ny5 (fun x hx => absurd hx (by simp)) s1 (k_ext.rf (S := [y5])) s3 (fun x hx => by rw [List.mem_singleton.mp hx]; exact k_so b0) (k_so ho)
  refine x_aload_n 0 dX7_init_43 rfl (by first | rfl | assumption) ?_
  refine x_bipush 100 dX7_init_44 (by decide) ?_
  refine x_newI 100 tw_ac_int dX7_init_46 (by decide) rfl (by decide) (by decide) (by decide) (fun y6 ny6 => ?_)
  have ty6 : t ≠ y6 := k_nne ho ny6
  refine x_gen (fun g6a b1 s1 => ?_)
  have b0 := b1
  have ho : g6a t = some (k_ob 7 [.int 0, .int 0, .int 0, .ref y1, .int 0, .ref y2, .ref y3, .ref y4, .ref y5, .int 0, .null, .int 0, .int 0, .int 0, .int 0, .long 0, .int 0, .int 0, .null, .null, .int 0, .int 0, .int 0, .null, .int 0, .int 0, .int 0, .int 0, .null, .null, .null, .int 0, .int 0, .null, .null, .null]) := (s1 t (by simp [ty6])).trans ho
  refine pf_X7_init_25 dX7_init_48 (by first | assumption | exact va_up_self _ _ _) (Nat.le_of_ble_eq_true rfl) ?_
  refine x_gen (fun g6b ho s3 => ?_)
  have b1 : g6b y6 = some (k_ar 100 (fun _ => 0)) := (s3 y6 (by simp [Ne.symm ty6])).trans b1
  have E := k_step ny6 s1 (k_ext.rf (S := [y6])) s3
  have X : ∀ x, h x ≠ none → x ≠ t → g6b x = h x := fun x hx hxt => (E x (by rw [X x hx hxt]; exact hx) hxt).trans (X x hx hxt)
  have f6 : h y6 = none := by
    cases hh : h y6 with
    | none => rfl
    | some e => exact absurd ny6 (by rw [X0 y6 (by rw [hh]; simp) (Ne.symm ty6), hh]; simp)
  have X0 := X
  have a1 : g6b y1 = some (k_ar 400 (fun _ => 0)) := (E y1 (P.2 y1 (by simp)) (Ne.symm ty1)).trans a1
  have a2 : g6b y2 = some (k_ar 5 (fun _ => 0)) := (E y2 (P.2 y2 (by simp)) (Ne.symm ty2)).trans a2
  have a3 : g6b y3 = some (k_ar 5 (fun _ => 0)) := (E y3 (P.2 y3 (by simp)) (Ne.symm ty3)).trans a3
  have a4 : g6b y4 = some (k_ar 5 (fun _ => 0)) := (E y4 (P.2 y4 (by simp)) (Ne.symm ty4)).trans a4
  have a5 : g6b y5 = some (k_ar 800 (fun _ => 0)) := (E y5 (P.2 y5 (by simp)) (Ne.symm ty5)).trans a5
  have a6 := b1
  have P := k_grow (t := t) P.1 P.2 (show (y6 :: ([] : List Nat)).Nodup by simp) ny6 (fun x hx => absurd hx (by simp)) s1 (k_ext.rf (S := [y6])) s3 (fun x hx => by rw [List.mem_singleton.mp hx]; exact k_so b0) (k_so ho)
  refine x_aload_n 0 dX7_init_51 rfl (by first | rfl | assumption) ?_
  refine x_iconst 4 dX7_init_52 (by decide) ?_
  refine x_newI 4 tw_ac_int dX7_init_53 (by decide) rfl (by decide) (by decide) (by decide) (fun y7 ny7 => ?_)
  have ty7 : t ≠ y7 := k_nne ho ny7
  refine x_gen (fun g7a b1 s1 => ?_)
  have b0 := b1
  have ho : g7a t = some (k_ob 7 [.int 0, .int 0, .int 0, .ref y1, .int 0, .ref y2, .ref y3, .ref y4, .ref y5, .int 0, .ref y6, .int 0, .int 0, .int 0, .int 0, .long 0, .int 0, .int 0, .null, .null, .int 0, .int 0, .int 0, .null, .int 0, .int 0, .int 0, .int 0, .null, .null, .null, .int 0, .int 0, .null, .null, .null]) := (s1 t (by simp [ty7])).trans ho
  refine pf_X7_init_28 dX7_init_55 (by first | assumption | exact va_up_self _ _ _) (Nat.le_of_ble_eq_true rfl) ?_
  refine x_gen (fun g7b ho s3 => ?_)
  have b1 : g7b y7 = some (k_ar 4 (fun _ => 0)) := (s3 y7 (by simp [Ne.symm ty7])).trans b1
  have E := k_step ny7 s1 (k_ext.rf (S := [y7])) s3
  have X : ∀ x, h x ≠ none → x ≠ t → g7b x = h x := fun x hx hxt => (E x (by rw [X x hx hxt]; exact hx) hxt).trans (X x hx hxt)
  have f7 : h y7 = none := by
    cases hh : h y7 with
    | none => rfl
    | some e => exact absurd ny7 (by rw [X0 y7 (by rw [hh]; simp) (Ne.symm ty7), hh]; simp)
  have X0 := X
  have a1 : g7b y1 = some (k_ar 400 (fun _ => 0)) := (E y1 (P.2 y1 (by simp)) (Ne.symm ty1)).trans a1
  have a2 : g7b y2 = some (k_ar 5 (fun _ => 0)) := (E y2 (P.2 y2 (by simp)) (Ne.symm ty2)).trans a2
  have a3 : g7b y3 = some (k_ar 5 (fun _ => 0)) := (E y3 (P.2 y3 (by simp)) (Ne.symm ty3)).trans a3
  have a4 : g7b y4 = some (k_ar 5 (fun _ => 0)) := (E y4 (P.2 y4 (by simp)) (Ne.symm ty4)).trans a4
  have a5 : g7b y5 = some (k_ar 800 (fun _ => 0)) := (E y5 (P.2 y5 (by simp)) (Ne.symm ty5)).trans a5
  have a6 : g7b y6 = some (k_ar 100 (fun _ => 0)) := (E y6 (P.2 y6 (by simp)) (Ne.symm ty6)).trans a6
  have a7 := b1
  have P := k_grow (t := t) P.1 P.2 (show (y7 :: ([] : List Nat)).Nodup by simp) ny7 (fun x hx => absurd hx (by simp)) s1 (k_ext.rf (S := [y7])) s3 (fun x hx => by rw [List.mem_singleton.mp hx]; exact k_so b0) (k_so ho)
  refine x_aload_n 0 dX7_init_58 rfl (by first | rfl | assumption) ?_
  refine x_bipush 125 dX7_init_59 (by decide) ?_
  refine x_newI 125 tw_ac_int dX7_init_61 (by decide) rfl (by decide) (by decide) (by decide) (fun y8 ny8 => ?_)
  have ty8 : t ≠ y8 := k_nne ho ny8
  refine x_gen (fun g8a b1 s1 => ?_)
  have b0 := b1
  have ho : g8a t = some (k_ob 7 [.int 0, .int 0, .int 0, .ref y1, .int 0, .ref y2, .ref y3, .ref y4, .ref y5, .int 0, .ref y6, .int 0, .int 0, .int 0, .int 0, .long 0, .int 0, .int 0, .ref y7, .null, .int 0, .int 0, .int 0, .null, .int 0, .int 0, .int 0, .int 0, .null, .null, .null, .int 0, .int 0, .null, .null, .null]) := (s1 t (by simp [ty8])).trans ho
  refine pf_X7_init_31 dX7_init_63 (by first | assumption | exact va_up_self _ _ _) (Nat.le_of_ble_eq_true rfl) ?_
  refine x_gen (fun g8b ho s3 => ?_)
  have b1 : g8b y8 = some (k_ar 125 (fun _ => 0)) := (s3 y8 (by simp [Ne.symm ty8])).trans b1
  have E := k_step ny8 s1 (k_ext.rf (S := [y8])) s3
  have X : ∀ x, h x ≠ none → x ≠ t → g8b x = h x := fun x hx hxt => (E x (by rw [X x hx hxt]; exact hx) hxt).trans (X x hx hxt)
  have f8 : h y8 = none := by
    cases hh : h y8 with
    | none => rfl
    | some e => exact absurd ny8 (by rw [X0 y8 (by rw [hh]; simp) (Ne.symm ty8), hh]; simp)
  have X0 := X
  have a1 : g8b y1 = some (k_ar 400 (fun _ => 0)) := (E y1 (P.2 y1 (by simp)) (Ne.symm ty1)).trans a1
  have a2 : g8b y2 = some (k_ar 5 (fun _ => 0)) := (E y2 (P.2 y2 (by simp)) (Ne.symm ty2)).trans a2
  have a3 : g8b y3 = some (k_ar 5 (fun _ => 0)) := (E y3 (P.2 y3 (by simp)) (Ne.symm ty3)).trans a3
  have a4 : g8b y4 = some (k_ar 5 (fun _ => 0)) := (E y4 (P.2 y4 (by simp)) (Ne.symm ty4)).trans a4
  have a5 : g8b y5 = some (k_ar 800 (fun _ => 0)) := (E y5 (P.2 y5 (by simp)) (Ne.symm ty5)).trans a5
  have a6 : g8b y6 = some (k_ar 100 (fun _ => 0)) := (E y6 (P.2 y6 (by simp)) (Ne.symm ty6)).trans a6
  have a7 : g8b y7 = some (k_ar 4 (fun _ => 0)) := (E y7 (P.2 y7 (by simp)) (Ne.symm ty7)).trans a7
  have a8 := b1
  have P := k_grow (t := t) P.1 P.2 (show (y8 :: ([] : List Nat)).Nodup by simp) ny8 (fun x hx => absurd hx (by simp)) s1 (k_ext.rf (S := [y8])) s3 (fun x hx => by rw [List.mem_singleton.mp hx]; exact k_so b0) (k_so ho)
  refine x_aload_n 0 dX7_init_66 rfl (by first | rfl | assumption) ?_
  refine x_sipush 300 dX7_init_67 (by decide) ?_
  refine x_newI 300 tw_ac_int dX7_init_70 (by decide) rfl (by decide) (by decide) (by decide) (fun y9 ny9 => ?_)
  have ty9 : t ≠ y9 := k_nne ho ny9
  refine x_gen (fun g9a b1 s1 => ?_)
  have b0 := b1
  have ho : g9a t = some (k_ob 7 [.int 0, .int 0, .int 0, .ref y1, .int 0, .ref y2, .ref y3, .ref y4, .ref y5, .int 0, .ref y6, .int 0, .int 0, .int 0, .int 0, .long 0, .int 0, .int 0, .ref y7, .ref y8, .int 0, .int 0, .int 0, .null, .int 0, .int 0, .int 0, .int 0, .null, .null, .null, .int 0, .int 0, .null, .null, .null]) := (s1 t (by simp [ty9])).trans ho
  refine pf_X7_init_34 dX7_init_72 (by first | assumption | exact va_up_self _ _ _) (Nat.le_of_ble_eq_true rfl) ?_
  refine x_gen (fun g9b ho s3 => ?_)
  have b1 : g9b y9 = some (k_ar 300 (fun _ => 0)) := (s3 y9 (by simp [Ne.symm ty9])).trans b1
  have E := k_step ny9 s1 (k_ext.rf (S := [y9])) s3
  have X : ∀ x, h x ≠ none → x ≠ t → g9b x = h x := fun x hx hxt => (E x (by rw [X x hx hxt]; exact hx) hxt).trans (X x hx hxt)
  have f9 : h y9 = none := by
    cases hh : h y9 with
    | none => rfl
    | some e => exact absurd ny9 (by rw [X0 y9 (by rw [hh]; simp) (Ne.symm ty9), hh]; simp)
  have X0 := X
  have a1 : g9b y1 = some (k_ar 400 (fun _ => 0)) := (E y1 (P.2 y1 (by simp)) (Ne.symm ty1)).trans a1
  have a2 : g9b y2 = some (k_ar 5 (fun _ => 0)) := (E y2 (P.2 y2 (by simp)) (Ne.symm ty2)).trans a2
  have a3 : g9b y3 = some (k_ar 5 (fun _ => 0)) := (E y3 (P.2 y3 (by simp)) (Ne.symm ty3)).trans a3
  have a4 : g9b y4 = some (k_ar 5 (fun _ => 0)) := (E y4 (P.2 y4 (by simp)) (Ne.symm ty4)).trans a4
  have a5 : g9b y5 = some (k_ar 800 (fun _ => 0)) := (E y5 (P.2 y5 (by simp)) (Ne.symm ty5)).trans a5
  have a6 : g9b y6 = some (k_ar 100 (fun _ => 0)) := (E y6 (P.2 y6 (by simp)) (Ne.symm ty6)).trans a6
  have a7 : g9b y7 = some (k_ar 4 (fun _ => 0)) := (E y7 (P.2 y7 (by simp)) (Ne.symm ty7)).trans a7
  have a8 : g9b y8 = some (k_ar 125 (fun _ => 0)) := (E y8 (P.2 y8 (by simp)) (Ne.symm ty8)).trans a8
  have a9 := b1
  have P := k_grow (t := t) P.1 P.2 (show (y9 :: ([] : List Nat)).Nodup by simp) ny9 (fun x hx => absurd hx (by simp)) s1 (k_ext.rf (S := [y9])) s3 (fun x hx => by rw [List.mem_singleton.mp hx]; exact k_so b0) (k_so ho)
  refine x_aload_n 0 dX7_init_75 rfl (by first | rfl | assumption) ?_
  refine x_iconst 4 dX7_init_76 (by decide) ?_
  refine x_newI 4 tw_ac_int dX7_init_77 (by decide) rfl (by decide) (by decide) (by decide) (fun y10 ny10 => ?_)
  have ty10 : t ≠ y10 := k_nne ho ny10
  refine x_gen (fun g10a b1 s1 => ?_)
  have b0 := b1
  have ho : g10a t = some (k_ob 7 [.int 0, .int 0, .int 0, .ref y1, .int 0, .ref y2, .ref y3, .ref y4, .ref y5, .int 0, .ref y6, .int 0, .int 0, .int 0, .int 0, .long 0, .int 0, .int 0, .ref y7, .ref y8, .int 0, .int 0, .int 0, .ref y9, .int 0, .int 0, .int 0, .int 0, .null, .null, .null, .int 0, .int 0, .null, .null, .null]) := (s1 t (by simp [ty10])).trans ho
  refine pf_X7_init_37 dX7_init_79 (by first | assumption | exact va_up_self _ _ _) (Nat.le_of_ble_eq_true rfl) ?_
  refine x_gen (fun g10b ho s3 => ?_)
  have b1 : g10b y10 = some (k_ar 4 (fun _ => 0)) := (s3 y10 (by simp [Ne.symm ty10])).trans b1
  have E := k_step ny10 s1 (k_ext.rf (S := [y10])) s3
  have X : ∀ x, h x ≠ none → x ≠ t → g10b x = h x := fun x hx hxt => (E x (by rw [X x hx hxt]; exact hx) hxt).trans (X x hx hxt)
  have f10 : h y10 = none := by
    cases hh : h y10 with
    | none => rfl
    | some e => exact absurd ny10 (by rw [X0 y10 (by rw [hh]; simp) (Ne.symm ty10), hh]; simp)
  have X0 := X
  have a1 : g10b y1 = some (k_ar 400 (fun _ => 0)) := (E y1 (P.2 y1 (by simp)) (Ne.symm ty1)).trans a1
  have a2 : g10b y2 = some (k_ar 5 (fun _ => 0)) := (E y2 (P.2 y2 (by simp)) (Ne.symm ty2)).trans a2
  have a3 : g10b y3 = some (k_ar 5 (fun _ => 0)) := (E y3 (P.2 y3 (by simp)) (Ne.symm ty3)).trans a3
  have a4 : g10b y4 = some (k_ar 5 (fun _ => 0)) := (E y4 (P.2 y4 (by simp)) (Ne.symm ty4)).trans a4
  have a5 : g10b y5 = some (k_ar 800 (fun _ => 0)) := (E y5 (P.2 y5 (by simp)) (Ne.symm ty5)).trans a5
  have a6 : g10b y6 = some (k_ar 100 (fun _ => 0)) := (E y6 (P.2 y6 (by simp)) (Ne.symm ty6)).trans a6
  have a7 : g10b y7 = some (k_ar 4 (fun _ => 0)) := (E y7 (P.2 y7 (by simp)) (Ne.symm ty7)).trans a7
  have a8 : g10b y8 = some (k_ar 125 (fun _ => 0)) := (E y8 (P.2 y8 (by simp)) (Ne.symm ty8)).trans a8
  have a9 : g10b y9 = some (k_ar 300 (fun _ => 0)) := (E y9 (P.2 y9 (by simp)) (Ne.symm ty9)).trans a9
  have a10 := b1
  have P := k_grow (t := t) P.1 P.2 (show (y10 :: ([] : List Nat)).Nodup by simp) ny10 (fun x hx => absurd hx (by simp)) s1 (k_ext.rf (S := [y10])) s3 (fun x hx => by rw [List.mem_singleton.mp hx]; exact k_so b0) (k_so ho)
  refine x_aload_n 0 dX7_init_82 rfl (by first | rfl | assumption) ?_
  refine x_iconst 4 dX7_init_83 (by decide) ?_
  refine x_newI 4 tw_ac_int dX7_init_84 (by decide) rfl (by decide) (by decide) (by decide) (fun y11 ny11 => ?_)
  have ty11 : t ≠ y11 := k_nne ho ny11
  refine x_gen (fun g11a b1 s1 => ?_)
  have b0 := b1
  have ho : g11a t = some (k_ob 7 [.int 0, .int 0, .int 0, .ref y1, .int 0, .ref y2, .ref y3, .ref y4, .ref y5, .int 0, .ref y6, .int 0, .int 0, .int 0, .int 0, .long 0, .int 0, .int 0, .ref y7, .ref y8, .int 0, .int 0, .int 0, .ref y9, .int 0, .int 0, .int 0, .int 0, .ref y10, .null, .null, .int 0, .int 0, .null, .null, .null]) := (s1 t (by simp [ty11])).trans ho
  refine pf_X7_init_40 dX7_init_86 (by first | assumption | exact va_up_self _ _ _) (Nat.le_of_ble_eq_true rfl) ?_
  refine x_gen (fun g11b ho s3 => ?_)
  have b1 : g11b y11 = some (k_ar 4 (fun _ => 0)) := (s3 y11 (by simp [Ne.symm ty11])).trans b1
  have E := k_step ny11 s1 (k_ext.rf (S := [y11])) s3
  have X : ∀ x, h x ≠ none → x ≠ t → g11b x = h x := fun x hx hxt => (E x (by rw [X x hx hxt]; exact hx) hxt).trans (X x hx hxt)
  have f11 : h y11 = none := by
    cases hh : h y11 with
    | none => rfl
    | some e => exact absurd ny11 (by rw [X0 y11 (by rw [hh]; simp) (Ne.symm ty11), hh]; simp)
  have X0 := X
  have a1 : g11b y1 = some (k_ar 400 (fun _ => 0)) := (E y1 (P.2 y1 (by simp)) (Ne.symm ty1)).trans a1
  have a2 : g11b y2 = some (k_ar 5 (fun _ => 0)) := (E y2 (P.2 y2 (by simp)) (Ne.symm ty2)).trans a2
  have a3 : g11b y3 = some (k_ar 5 (fun _ => 0)) := (E y3 (P.2 y3 (by simp)) (Ne.symm ty3)).trans a3
  have a4 : g11b y4 = some (k_ar 5 (fun _ => 0)) := (E y4 (P.2 y4 (by simp)) (Ne.symm ty4)).trans a4
  have a5 : g11b y5 = some (k_ar 800 (fun _ => 0)) := (E y5 (P.2 y5 (by simp)) (Ne.symm ty5)).trans a5
  have a6 : g11b y6 = some (k_ar 100 (fun _ => 0)) := (E y6 (P.2 y6 (by simp)) (Ne.symm ty6)).trans a6
  have a7 : g11b y7 = some (k_ar 4 (fun _ => 0)) := (E y7 (P.2 y7 (by simp)) (Ne.symm ty7)).trans a7
  have a8 : g11b y8 = some (k_ar 125 (fun _ => 0)) := (E y8 (P.2 y8 (by simp)) (Ne.symm ty8)).trans a8
  have a9 : g11b y9 = some (k_ar 300 (fun _ => 0)) := (E y9 (P.2 y9 (by simp)) (Ne.symm ty9)).trans a9
  have a10 : g11b y10 = some (k_ar 4 (fun _ => 0)) := (E y10 (P.2 y10 (by simp)) (Ne.symm ty10)).trans a10
  have a11 := b1
  have P := k_grow (t := t) P.1 P.2 (show (y11 :: ([] : List Nat)).Nodup by simp) ny11 (fun x hx => absurd hx (by simp)) s1 (k_ext.rf (S := [y11])) s3 (fun x hx => by rw [List.mem_singleton.mp hx]; exact k_so b0) (k_so ho)
  refine x_aload_n 0 dX7_init_89 rfl (by first | rfl | assumption) ?_
  refine x_sipush 1200 dX7_init_90 (by decide) ?_
  refine x_newI 1200 tw_ac_int dX7_init_93 (by decide) rfl (by decide) (by decide) (by decide) (fun y12 ny12 => ?_)
  have ty12 : t ≠ y12 := k_nne ho ny12
  refine x_gen (fun g12a b1 s1 => ?_)
  have b0 := b1
  have ho : g12a t = some (k_ob 7 [.int 0, .int 0, .int 0, .ref y1, .int 0, .ref y2, .ref y3, .ref y4, .ref y5, .int 0, .ref y6, .int 0, .int 0, .int 0, .int 0, .long 0, .int 0, .int 0, .ref y7, .ref y8, .int 0, .int 0, .int 0, .ref y9, .int 0, .int 0, .int 0, .int 0, .ref y10, .ref y11, .null, .int 0, .int 0, .null, .null, .null]) := (s1 t (by simp [ty12])).trans ho
  refine pf_X7_init_43 dX7_init_95 (by first | assumption | exact va_up_self _ _ _) (Nat.le_of_ble_eq_true rfl) ?_
  refine x_gen (fun g12b ho s3 => ?_)
  have b1 : g12b y12 = some (k_ar 1200 (fun _ => 0)) := (s3 y12 (by simp [Ne.symm ty12])).trans b1
  have E := k_step ny12 s1 (k_ext.rf (S := [y12])) s3
  have X : ∀ x, h x ≠ none → x ≠ t → g12b x = h x := fun x hx hxt => (E x (by rw [X x hx hxt]; exact hx) hxt).trans (X x hx hxt)
  have f12 : h y12 = none := by
    cases hh : h y12 with
    | none => rfl
    | some e => exact absurd ny12 (by rw [X0 y12 (by rw [hh]; simp) (Ne.symm ty12), hh]; simp)
  have X0 := X
  have a1 : g12b y1 = some (k_ar 400 (fun _ => 0)) := (E y1 (P.2 y1 (by simp)) (Ne.symm ty1)).trans a1
  have a2 : g12b y2 = some (k_ar 5 (fun _ => 0)) := (E y2 (P.2 y2 (by simp)) (Ne.symm ty2)).trans a2
  have a3 : g12b y3 = some (k_ar 5 (fun _ => 0)) := (E y3 (P.2 y3 (by simp)) (Ne.symm ty3)).trans a3
  have a4 : g12b y4 = some (k_ar 5 (fun _ => 0)) := (E y4 (P.2 y4 (by simp)) (Ne.symm ty4)).trans a4
  have a5 : g12b y5 = some (k_ar 800 (fun _ => 0)) := (E y5 (P.2 y5 (by simp)) (Ne.symm ty5)).trans a5
  have a6 : g12b y6 = some (k_ar 100 (fun _ => 0)) := (E y6 (P.2 y6 (by simp)) (Ne.symm ty6)).trans a6
  have a7 : g12b y7 = some (k_ar 4 (fun _ => 0)) := (E y7 (P.2 y7 (by simp)) (Ne.symm ty7)).trans a7
  have a8 : g12b y8 = some (k_ar 125 (fun _ => 0)) := (E y8 (P.2 y8 (by simp)) (Ne.symm ty8)).trans a8
  have a9 : g12b y9 = some (k_ar 300 (fun _ => 0)) := (E y9 (P.2 y9 (by simp)) (Ne.symm ty9)).trans a9
  have a10 : g12b y10 = some (k_ar 4 (fun _ => 0)) := (E y10 (P.2 y10 (by simp)) (Ne.symm ty10)).trans a10
  have a11 : g12b y11 = some (k_ar 4 (fun _ => 0)) := (E y11 (P.2 y11 (by simp)) (Ne.symm ty11)).trans a11
  have a12 := b1
  have P := k_grow (t := t) P.1 P.2 (show (y12 :: ([] : List Nat)).Nodup by simp) ny12 (fun x hx => absurd hx (by simp)) s1 (k_ext.rf (S := [y12])) s3 (fun x hx => by rw [List.mem_singleton.mp hx]; exact k_so b0) (k_so ho)
  refine x_aload_n 0 dX7_init_98 rfl (by first | rfl | assumption) ?_
  refine x_sipush 128 dX7_init_99 (by decide) ?_
  refine x_newI 128 tw_ac_int dX7_init_102 (by decide) rfl (by decide) (by decide) (by decide) (fun y13 ny13 => ?_)
  have ty13 : t ≠ y13 := k_nne ho ny13
  refine x_gen (fun g13a b1 s1 => ?_)
  have b0 := b1
  have ho : g13a t = some (k_ob 7 [.int 0, .int 0, .int 0, .ref y1, .int 0, .ref y2, .ref y3, .ref y4, .ref y5, .int 0, .ref y6, .int 0, .int 0, .int 0, .int 0, .long 0, .int 0, .int 0, .ref y7, .ref y8, .int 0, .int 0, .int 0, .ref y9, .int 0, .int 0, .int 0, .int 0, .ref y10, .ref y11, .ref y12, .int 0, .int 0, .null, .null, .null]) := (s1 t (by simp [ty13])).trans ho
  refine pf_X7_init_46 dX7_init_104 (by first | assumption | exact va_up_self _ _ _) (Nat.le_of_ble_eq_true rfl) ?_
  refine x_gen (fun g13b ho s3 => ?_)
  have b1 : g13b y13 = some (k_ar 128 (fun _ => 0)) := (s3 y13 (by simp [Ne.symm ty13])).trans b1
  have E := k_step ny13 s1 (k_ext.rf (S := [y13])) s3
  have X : ∀ x, h x ≠ none → x ≠ t → g13b x = h x := fun x hx hxt => (E x (by rw [X x hx hxt]; exact hx) hxt).trans (X x hx hxt)
  have f13 : h y13 = none := by
    cases hh : h y13 with
    | none => rfl
    | some e => exact absurd ny13 (by rw [X0 y13 (by rw [hh]; simp) (Ne.symm ty13), hh]; simp)
  have X0 := X
  have a1 : g13b y1 = some (k_ar 400 (fun _ => 0)) := (E y1 (P.2 y1 (by simp)) (Ne.symm ty1)).trans a1
  have a2 : g13b y2 = some (k_ar 5 (fun _ => 0)) := (E y2 (P.2 y2 (by simp)) (Ne.symm ty2)).trans a2
  have a3 : g13b y3 = some (k_ar 5 (fun _ => 0)) := (E y3 (P.2 y3 (by simp)) (Ne.symm ty3)).trans a3
  have a4 : g13b y4 = some (k_ar 5 (fun _ => 0)) := (E y4 (P.2 y4 (by simp)) (Ne.symm ty4)).trans a4
  have a5 : g13b y5 = some (k_ar 800 (fun _ => 0)) := (E y5 (P.2 y5 (by simp)) (Ne.symm ty5)).trans a5
  have a6 : g13b y6 = some (k_ar 100 (fun _ => 0)) := (E y6 (P.2 y6 (by simp)) (Ne.symm ty6)).trans a6
  have a7 : g13b y7 = some (k_ar 4 (fun _ => 0)) := (E y7 (P.2 y7 (by simp)) (Ne.symm ty7)).trans a7
  have a8 : g13b y8 = some (k_ar 125 (fun _ => 0)) := (E y8 (P.2 y8 (by simp)) (Ne.symm ty8)).trans a8
  have a9 : g13b y9 = some (k_ar 300 (fun _ => 0)) := (E y9 (P.2 y9 (by simp)) (Ne.symm ty9)).trans a9
  have a10 : g13b y10 = some (k_ar 4 (fun _ => 0)) := (E y10 (P.2 y10 (by simp)) (Ne.symm ty10)).trans a10
  have a11 : g13b y11 = some (k_ar 4 (fun _ => 0)) := (E y11 (P.2 y11 (by simp)) (Ne.symm ty11)).trans a11
  have a12 : g13b y12 = some (k_ar 1200 (fun _ => 0)) := (E y12 (P.2 y12 (by simp)) (Ne.symm ty12)).trans a12
  have a13 := b1
  have P := k_grow (t := t) P.1 P.2 (show (y13 :: ([] : List Nat)).Nodup by simp) ny13 (fun x hx => absurd hx (by simp)) s1 (k_ext.rf (S := [y13])) s3 (fun x hx => by rw [List.mem_singleton.mp hx]; exact k_so b0) (k_so ho)
  refine x_aload_n 0 dX7_init_107 rfl (by first | rfl | assumption) ?_
  refine x_bipush 80 dX7_init_108 (by decide) ?_
  refine x_newI 80 tw_ac_int dX7_init_110 (by decide) rfl (by decide) (by decide) (by decide) (fun y14 ny14 => ?_)
  have ty14 : t ≠ y14 := k_nne ho ny14
  refine x_gen (fun g14a b1 s1 => ?_)
  have b0 := b1
  have ho : g14a t = some (k_ob 7 [.int 0, .int 0, .int 0, .ref y1, .int 0, .ref y2, .ref y3, .ref y4, .ref y5, .int 0, .ref y6, .int 0, .int 0, .int 0, .int 0, .long 0, .int 0, .int 0, .ref y7, .ref y8, .int 0, .int 0, .int 0, .ref y9, .int 0, .int 0, .int 0, .int 0, .ref y10, .ref y11, .ref y12, .int 0, .int 0, .ref y13, .null, .null]) := (s1 t (by simp [ty14])).trans ho
  refine pf_X7_init_49 dX7_init_112 (by first | assumption | exact va_up_self _ _ _) (Nat.le_of_ble_eq_true rfl) ?_
  refine x_gen (fun g14b ho s3 => ?_)
  have b1 : g14b y14 = some (k_ar 80 (fun _ => 0)) := (s3 y14 (by simp [Ne.symm ty14])).trans b1
  have E := k_step ny14 s1 (k_ext.rf (S := [y14])) s3
  have X : ∀ x, h x ≠ none → x ≠ t → g14b x = h x := fun x hx hxt => (E x (by rw [X x hx hxt]; exact hx) hxt).trans (X x hx hxt)
  have f14 : h y14 = none := by
    cases hh : h y14 with
    | none => rfl
    | some e => exact absurd ny14 (by rw [X0 y14 (by rw [hh]; simp) (Ne.symm ty14), hh]; simp)
  have X0 := X
  have a1 : g14b y1 = some (k_ar 400 (fun _ => 0)) := (E y1 (P.2 y1 (by simp)) (Ne.symm ty1)).trans a1
  have a2 : g14b y2 = some (k_ar 5 (fun _ => 0)) := (E y2 (P.2 y2 (by simp)) (Ne.symm ty2)).trans a2
  have a3 : g14b y3 = some (k_ar 5 (fun _ => 0)) := (E y3 (P.2 y3 (by simp)) (Ne.symm ty3)).trans a3
  have a4 : g14b y4 = some (k_ar 5 (fun _ => 0)) := (E y4 (P.2 y4 (by simp)) (Ne.symm ty4)).trans a4
  have a5 : g14b y5 = some (k_ar 800 (fun _ => 0)) := (E y5 (P.2 y5 (by simp)) (Ne.symm ty5)).trans a5
  have a6 : g14b y6 = some (k_ar 100 (fun _ => 0)) := (E y6 (P.2 y6 (by simp)) (Ne.symm ty6)).trans a6
  have a7 : g14b y7 = some (k_ar 4 (fun _ => 0)) := (E y7 (P.2 y7 (by simp)) (Ne.symm ty7)).trans a7
  have a8 : g14b y8 = some (k_ar 125 (fun _ => 0)) := (E y8 (P.2 y8 (by simp)) (Ne.symm ty8)).trans a8
  have a9 : g14b y9 = some (k_ar 300 (fun _ => 0)) := (E y9 (P.2 y9 (by simp)) (Ne.symm ty9)).trans a9
  have a10 : g14b y10 = some (k_ar 4 (fun _ => 0)) := (E y10 (P.2 y10 (by simp)) (Ne.symm ty10)).trans a10
  have a11 : g14b y11 = some (k_ar 4 (fun _ => 0)) := (E y11 (P.2 y11 (by simp)) (Ne.symm ty11)).trans a11
  have a12 : g14b y12 = some (k_ar 1200 (fun _ => 0)) := (E y12 (P.2 y12 (by simp)) (Ne.symm ty12)).trans a12
  have a13 : g14b y13 = some (k_ar 128 (fun _ => 0)) := (E y13 (P.2 y13 (by simp)) (Ne.symm ty13)).trans a13
  have a14 := b1
  have P := k_grow (t := t) P.1 P.2 (show (y14 :: ([] : List Nat)).Nodup by simp) ny14 (fun x hx => absurd hx (by simp)) s1 (k_ext.rf (S := [y14])) s3 (fun x hx => by rw [List.mem_singleton.mp hx]; exact k_so b0) (k_so ho)
  refine x_aload_n 0 dX7_init_115 rfl (by first | rfl | assumption) ?_
  refine x_iconst 5 dX7_init_116 (by decide) ?_
  refine x_newI 5 tw_ac_int dX7_init_117 (by decide) rfl (by decide) (by decide) (by decide) (fun y15 ny15 => ?_)
  have ty15 : t ≠ y15 := k_nne ho ny15
  refine x_gen (fun g15a b1 s1 => ?_)
  have b0 := b1
  have ho : g15a t = some (k_ob 7 [.int 0, .int 0, .int 0, .ref y1, .int 0, .ref y2, .ref y3, .ref y4, .ref y5, .int 0, .ref y6, .int 0, .int 0, .int 0, .int 0, .long 0, .int 0, .int 0, .ref y7, .ref y8, .int 0, .int 0, .int 0, .ref y9, .int 0, .int 0, .int 0, .int 0, .ref y10, .ref y11, .ref y12, .int 0, .int 0, .ref y13, .ref y14, .null]) := (s1 t (by simp [ty15])).trans ho
  refine pf_X7_init_52 dX7_init_119 (by first | assumption | exact va_up_self _ _ _) (Nat.le_of_ble_eq_true rfl) ?_
  refine x_gen (fun g15b ho s3 => ?_)
  have b1 : g15b y15 = some (k_ar 5 (fun _ => 0)) := (s3 y15 (by simp [Ne.symm ty15])).trans b1
  have E := k_step ny15 s1 (k_ext.rf (S := [y15])) s3
  have X : ∀ x, h x ≠ none → x ≠ t → g15b x = h x := fun x hx hxt => (E x (by rw [X x hx hxt]; exact hx) hxt).trans (X x hx hxt)
  have f15 : h y15 = none := by
    cases hh : h y15 with
    | none => rfl
    | some e => exact absurd ny15 (by rw [X0 y15 (by rw [hh]; simp) (Ne.symm ty15), hh]; simp)
  have X0 := X
  have a1 : g15b y1 = some (k_ar 400 (fun _ => 0)) := (E y1 (P.2 y1 (by simp)) (Ne.symm ty1)).trans a1
  have a2 : g15b y2 = some (k_ar 5 (fun _ => 0)) := (E y2 (P.2 y2 (by simp)) (Ne.symm ty2)).trans a2
  have a3 : g15b y3 = some (k_ar 5 (fun _ => 0)) := (E y3 (P.2 y3 (by simp)) (Ne.symm ty3)).trans a3
  have a4 : g15b y4 = some (k_ar 5 (fun _ => 0)) := (E y4 (P.2 y4 (by simp)) (Ne.symm ty4)).trans a4
  have a5 : g15b y5 = some (k_ar 800 (fun _ => 0)) := (E y5 (P.2 y5 (by simp)) (Ne.symm ty5)).trans a5
  have a6 : g15b y6 = some (k_ar 100 (fun _ => 0)) := (E y6 (P.2 y6 (by simp)) (Ne.symm ty6)).trans a6
  have a7 : g15b y7 = some (k_ar 4 (fun _ => 0)) := (E y7 (P.2 y7 (by simp)) (Ne.symm ty7)).trans a7
  have a8 : g15b y8 = some (k_ar 125 (fun _ => 0)) := (E y8 (P.2 y8 (by simp)) (Ne.symm ty8)).trans a8
  have a9 : g15b y9 = some (k_ar 300 (fun _ => 0)) := (E y9 (P.2 y9 (by simp)) (Ne.symm ty9)).trans a9
  have a10 : g15b y10 = some (k_ar 4 (fun _ => 0)) := (E y10 (P.2 y10 (by simp)) (Ne.symm ty10)).trans a10
  have a11 : g15b y11 = some (k_ar 4 (fun _ => 0)) := (E y11 (P.2 y11 (by simp)) (Ne.symm ty11)).trans a11
  have a12 : g15b y12 = some (k_ar 1200 (fun _ => 0)) := (E y12 (P.2 y12 (by simp)) (Ne.symm ty12)).trans a12
  have a13 : g15b y13 = some (k_ar 128 (fun _ => 0)) := (E y13 (P.2 y13 (by simp)) (Ne.symm ty13)).trans a13
  have a14 : g15b y14 = some (k_ar 80 (fun _ => 0)) := (E y14 (P.2 y14 (by simp)) (Ne.symm ty14)).trans a14
  have a15 := b1
  have P := k_grow (t := t) P.1 P.2 (show (y15 :: ([] : List Nat)).Nodup by simp) ny15 (fun x hx => absurd hx (by simp)) s1 (k_ext.rf (S := [y15])) s3 (fun x hx => by rw [List.mem_singleton.mp hx]; exact k_so b0) (k_so ho)
  have X : ∀ q, q ∉ [t] → h q ≠ none → g15b q = h q := fun q hq hn => X q hn (fun z => hq (by simp [z]))
  refine x_vret rfl dX7_init_122 (by decide) (by decide) ?_
  have hT : [t, y1, y2, y3, y4, y5, y6, y7, y8, y9, y10, y11, y12, y13, y14, y15].Nodup := P.1
  refine ⟨rfl, fun i => [t, y1, y2, y3, y4, y5, y6, y7, y8, y9, y10, y11, y12, y13, y14, y15].getD i 0, rfl, ⟨ho, ?_, ⟨rfl, rfl, rfl, rfl, rfl, rfl, rfl, rfl, rfl, rfl, rfl, rfl, rfl, rfl, rfl⟩, ?_, fun q _ => rfl⟩, ?_, X⟩
  · intro i hi
    have all : i = 1 ∨ i = 2 ∨ i = 3 ∨ i = 4 ∨ i = 5 ∨ i = 6 ∨ i = 7 ∨ i = 8 ∨ i = 9 ∨ i = 10 ∨ i = 11 ∨ i = 12 ∨ i = 13 ∨ i = 14 ∨ i = 15 := by omega
    rcases all with rfl | rfl | rfl | rfl | rfl | rfl | rfl | rfl | rfl | rfl | rfl | rfl | rfl | rfl | rfl
    · exact a1
    · exact a2
    · exact a3
    · exact a4
    · exact a5
    · exact a6
    · exact a7
    · exact a8
    · exact a9
    · exact a10
    · exact a11
    · exact a12
    · exact a13
    · exact a14
    · exact a15
  · intro i j hi hj e
    have e' : [t, y1, y2, y3, y4, y5, y6, y7, y8, y9, y10, y11, y12, y13, y14, y15].getD i 0 = [t, y1, y2, y3, y4, y5, y6, y7, y8, y9, y10, y11, y12, y13, y14, y15].getD j 0 := e
    have hl : [t, y1, y2, y3, y4, y5, y6, y7, y8, y9, y10, y11, y12, y13, y14, y15].length = 16 := rfl
    rw [List.getD_eq_getElem?_getD, List.getD_eq_getElem?_getD, List.getElem?_eq_getElem (by omega), List.getElem?_eq_getElem (by omega)] at e'
    exact (List.getElem_inj hT).mp e'
  · intro i h1 h2
    have all : i = 1 ∨ i = 2 ∨ i = 3 ∨ i = 4 ∨ i = 5 ∨ i = 6 ∨ i = 7 ∨ i = 8 ∨ i = 9 ∨ i = 10 ∨ i = 11 ∨ i = 12 ∨ i = 13 ∨ i = 14 ∨ i = 15 := by omega
    rcases all with rfl | rfl | rfl | rfl | rfl | rfl | rfl | rfl | rfl | rfl | rfl | rfl | rfl | rfl | rfl
    · exact f1
    · exact f2
    · exact f3
    · exact f4
    · exact f5
    · exact f6
    · exact f7
    · exact f8
    · exact f9
    · exact f10
    · exact f11
    · exact f12
    · exact f13
    · exact f14
    · exact f15
theorem m_rel_0 (B : Nat → Nat) : m_rel (m_V0 B) (fun _ _ => 0) t_0 :=
  ⟨⟨⟨rfl, rfl, rfl, rfl⟩, fun _ => ⟨rfl, fun j hj => absurd hj (Nat.not_lt_zero j)⟩, ⟨rfl, fun j hj => absurd hj (Nat.not_lt_zero j)⟩, ⟨rfl, fun j hj => absurd hj (Nat.not_lt_zero j)⟩, ⟨rfl, Nat.zero_le _, fun k hk => absurd hk (Nat.not_lt_zero k)⟩, ⟨(0, 0, 0), rfl, rfl, rfl⟩, Nat.zero_le _, Nat.zero_le _⟩, fun _ => ⟨rfl, rfl, fun z => (by cases z), fun z => absurd rfl z⟩⟩
end MdlZh
