/-! the reference: its fields and rows -/
section MdlA
variable {G : q_G} {M : q_M} {R : Room} {Fq : q_F} {pc : Nat} {lv : List (Nat × Value)} {st : List Value} {cells slots : Nat} {h0 h : q_H} {B : Nat → Nat} {V : Nat → Value} {F : Nat → Nat → Int32}
def m_u {α : Type} (f : Nat → α) (k : Nat) (v : α) : Nat → α := fun j => if j = k then v else f j
theorem m_us {α : Type} {f : Nat → α} {k : Nat} {v : α} : m_u f k v k = v := if_pos rfl
theorem m_un {α : Type} {f : Nat → α} {k j : Nat} {v : α} (hj : j ≠ k) : m_u f k v j = f j := if_neg hj
theorem m_uu {α : Type} {f : Nat → α} {k : Nat} {v v' : α} : m_u (m_u f k v) k v' = m_u f k v' := by
  funext j
  unfold m_u
  by_cases hj : j = k
  · rw [if_pos hj, if_pos hj]
  · rw [if_neg hj, if_neg hj, if_neg hj]
theorem m_uself {α : Type} {f : Nat → α} {k : Nat} : m_u f k (f k) = f := by
  funext j
  unfold m_u
  by_cases hj : j = k
  · rw [if_pos hj, hj]
  · rw [if_neg hj]
theorem m_uc {α : Type} {f : Nat → α} {k k' : Nat} {v v' : α} (hk : k ≠ k') : m_u (m_u f k v) k' v' = m_u (m_u f k' v') k v := by
  funext j
  unfold m_u
  by_cases hj : j = k
  · rw [if_pos hj, if_neg (fun z => hk (hj.symm.trans z)), if_pos hj]
  · rw [if_neg hj, if_neg hj]
def m_fs (V : Nat → Value) : List Value := [V 0, V 1, V 2, V 3, V 4, V 5, V 6, V 7, V 8, V 9, V 10, V 11, V 12, V 13, V 14, V 15, V 16, V 17, V 18, V 19, V 20, V 21, V 22, V 23, V 24, V 25, V 26, V 27, V 28, V 29, V 30, V 31, V 32, V 33, V 34, V 35]
def m_N : Nat → Nat := fun i => [0, 400, 5, 5, 5, 800, 100, 4, 125, 300, 4, 4, 1200, 128, 80, 5].getD i 0
theorem m_set {k : Nat} {v : Value} (hk : k < 36) : (m_fs V).set k v = m_fs (m_u V k v) := by
  have all : k = 0 ∨ k = 1 ∨ k = 2 ∨ k = 3 ∨ k = 4 ∨ k = 5 ∨ k = 6 ∨ k = 7 ∨ k = 8 ∨ k = 9 ∨ k = 10 ∨ k = 11 ∨ k = 12 ∨ k = 13 ∨ k = 14 ∨ k = 15 ∨ k = 16 ∨ k = 17 ∨ k = 18 ∨ k = 19 ∨ k = 20 ∨ k = 21 ∨ k = 22 ∨ k = 23 ∨ k = 24 ∨ k = 25 ∨ k = 26 ∨ k = 27 ∨ k = 28 ∨ k = 29 ∨ k = 30 ∨ k = 31 ∨ k = 32 ∨ k = 33 ∨ k = 34 ∨ k = 35 := by omega
  rcases all with rfl | rfl | rfl | rfl | rfl | rfl | rfl | rfl | rfl | rfl | rfl | rfl | rfl | rfl | rfl | rfl | rfl | rfl | rfl | rfl | rfl | rfl | rfl | rfl | rfl | rfl | rfl | rfl | rfl | rfl | rfl | rfl | rfl | rfl | rfl | rfl <;> rfl
/-- the reference at B, seen from the heap h0: fields V, rows F -/
def k_m (h0 h : q_H) (B : Nat → Nat) (V : Nat → Value) (F : Nat → Nat → Int32) : Prop :=
  h (B 0) = some (k_ob 7 (m_fs V)) ∧ (∀ i, (1 ≤ i ∧ i < 16) → h (B i) = some (k_ar (m_N i) (F i))) ∧ (V 3 = .ref (B 1) ∧ V 5 = .ref (B 2) ∧ V 6 = .ref (B 3) ∧ V 7 = .ref (B 4) ∧ V 8 = .ref (B 5) ∧ V 10 = .ref (B 6) ∧ V 18 = .ref (B 7) ∧ V 19 = .ref (B 8) ∧ V 23 = .ref (B 9) ∧ V 28 = .ref (B 10) ∧ V 29 = .ref (B 11) ∧ V 30 = .ref (B 12) ∧ V 33 = .ref (B 13) ∧ V 34 = .ref (B 14) ∧ V 35 = .ref (B 15)) ∧ (∀ i j, i < 16 → j < 16 → B i = B j → i = j) ∧ ∀ q, (∀ i, i < 16 → q ≠ B i) → h q = h0 q
theorem k_m.r3 (hm : k_m h0 h B V F) : V 3 = .ref (B 1) := hm.2.2.1.1
theorem k_m.r5 (hm : k_m h0 h B V F) : V 5 = .ref (B 2) := hm.2.2.1.2.1
theorem k_m.r6 (hm : k_m h0 h B V F) : V 6 = .ref (B 3) := hm.2.2.1.2.2.1
theorem k_m.r7 (hm : k_m h0 h B V F) : V 7 = .ref (B 4) := hm.2.2.1.2.2.2.1
theorem k_m.r8 (hm : k_m h0 h B V F) : V 8 = .ref (B 5) := hm.2.2.1.2.2.2.2.1
theorem k_m.r10 (hm : k_m h0 h B V F) : V 10 = .ref (B 6) := hm.2.2.1.2.2.2.2.2.1
theorem k_m.r18 (hm : k_m h0 h B V F) : V 18 = .ref (B 7) := hm.2.2.1.2.2.2.2.2.2.1
theorem k_m.r19 (hm : k_m h0 h B V F) : V 19 = .ref (B 8) := hm.2.2.1.2.2.2.2.2.2.2.1
theorem k_m.r23 (hm : k_m h0 h B V F) : V 23 = .ref (B 9) := hm.2.2.1.2.2.2.2.2.2.2.2.1
theorem k_m.r28 (hm : k_m h0 h B V F) : V 28 = .ref (B 10) := hm.2.2.1.2.2.2.2.2.2.2.2.2.1
theorem k_m.r29 (hm : k_m h0 h B V F) : V 29 = .ref (B 11) := hm.2.2.1.2.2.2.2.2.2.2.2.2.2.1
theorem k_m.r30 (hm : k_m h0 h B V F) : V 30 = .ref (B 12) := hm.2.2.1.2.2.2.2.2.2.2.2.2.2.2.1
theorem k_m.r33 (hm : k_m h0 h B V F) : V 33 = .ref (B 13) := hm.2.2.1.2.2.2.2.2.2.2.2.2.2.2.2.1
theorem k_m.r34 (hm : k_m h0 h B V F) : V 34 = .ref (B 14) := hm.2.2.1.2.2.2.2.2.2.2.2.2.2.2.2.2.1
theorem k_m.r35 (hm : k_m h0 h B V F) : V 35 = .ref (B 15) := hm.2.2.1.2.2.2.2.2.2.2.2.2.2.2.2.2.2
theorem k_m.a1 (hm : k_m h0 h B V F) : h (B 1) = some (k_ar 400 (F 1)) := hm.2.1 1 (by decide)
theorem k_m.a2 (hm : k_m h0 h B V F) : h (B 2) = some (k_ar 5 (F 2)) := hm.2.1 2 (by decide)
theorem k_m.a3 (hm : k_m h0 h B V F) : h (B 3) = some (k_ar 5 (F 3)) := hm.2.1 3 (by decide)
theorem k_m.a4 (hm : k_m h0 h B V F) : h (B 4) = some (k_ar 5 (F 4)) := hm.2.1 4 (by decide)
theorem k_m.a5 (hm : k_m h0 h B V F) : h (B 5) = some (k_ar 800 (F 5)) := hm.2.1 5 (by decide)
theorem k_m.a6 (hm : k_m h0 h B V F) : h (B 6) = some (k_ar 100 (F 6)) := hm.2.1 6 (by decide)
theorem k_m.a7 (hm : k_m h0 h B V F) : h (B 7) = some (k_ar 4 (F 7)) := hm.2.1 7 (by decide)
theorem k_m.a8 (hm : k_m h0 h B V F) : h (B 8) = some (k_ar 125 (F 8)) := hm.2.1 8 (by decide)
theorem k_m.a9 (hm : k_m h0 h B V F) : h (B 9) = some (k_ar 300 (F 9)) := hm.2.1 9 (by decide)
theorem k_m.a10 (hm : k_m h0 h B V F) : h (B 10) = some (k_ar 4 (F 10)) := hm.2.1 10 (by decide)
theorem k_m.a11 (hm : k_m h0 h B V F) : h (B 11) = some (k_ar 4 (F 11)) := hm.2.1 11 (by decide)
theorem k_m.a12 (hm : k_m h0 h B V F) : h (B 12) = some (k_ar 1200 (F 12)) := hm.2.1 12 (by decide)
theorem k_m.a13 (hm : k_m h0 h B V F) : h (B 13) = some (k_ar 128 (F 13)) := hm.2.1 13 (by decide)
theorem k_m.a14 (hm : k_m h0 h B V F) : h (B 14) = some (k_ar 80 (F 14)) := hm.2.1 14 (by decide)
theorem k_m.a15 (hm : k_m h0 h B V F) : h (B 15) = some (k_ar 5 (F 15)) := hm.2.1 15 (by decide)
theorem k_m.ne (hm : k_m h0 h B V F) {i j : Nat} (hi : (i < 16 ∧ j < 16) ∧ i ≠ j) : B i ≠ B j := fun e => hi.2 (hm.2.2.2.1 i j hi.1.1 hi.1.2 e)
def m_ref (k : Nat) : Bool := k == 3 || k == 5 || k == 6 || k == 7 || k == 8 || k == 10 || k == 18 || k == 19 || k == 23 || k == 28 || k == 29 || k == 30 || k == 33 || k == 34 || k == 35
theorem k_m.fld {k : Nat} {v : Value} {g : q_H} (hm : k_m h0 h B V F) (hk : k < 36) (hr : m_ref k = false) (o : g (B 0) = some (k_ob 7 ((m_fs V).set k v))) (s : ∀ q, q ∉ [B 0] → g q = h q) : k_m h0 g B (m_u V k v) F := by
  refine ⟨by rw [o, m_set hk], fun i hi => (s _ (by simp [hm.ne (i := i) (j := 0) ⟨⟨hi.2, by decide⟩, by omega⟩])).trans (hm.2.1 i hi), ?_, hm.2.2.2.1, fun q hq => (s q (by simp [hq 0 (by decide)])).trans (hm.2.2.2.2 q hq)⟩
  have key : ∀ j, m_ref j = true → m_u V k v j = V j := fun j hj => m_un (fun z => by rw [z, hr] at hj; cases hj)
  refine ⟨(key 3 rfl).trans hm.r3, (key 5 rfl).trans hm.r5, (key 6 rfl).trans hm.r6, (key 7 rfl).trans hm.r7, (key 8 rfl).trans hm.r8, (key 10 rfl).trans hm.r10, (key 18 rfl).trans hm.r18, (key 19 rfl).trans hm.r19, (key 23 rfl).trans hm.r23, (key 28 rfl).trans hm.r28, (key 29 rfl).trans hm.r29, (key 30 rfl).trans hm.r30, (key 33 rfl).trans hm.r33, (key 34 rfl).trans hm.r34, (key 35 rfl).trans hm.r35⟩
theorem k_m.row {i N : Nat} {f : Nat → Int32} {g : q_H} (hm : k_m h0 h B V F) (hi : 1 ≤ i ∧ i < 16) (hN : N = m_N i) (o : g (B i) = some (k_ar N f)) (s : ∀ q, q ∉ [B i] → g q = h q) : k_m h0 g B V (m_u F i f) := by
  refine ⟨(s _ (by simp [hm.ne (i := 0) (j := i) ⟨⟨by decide, hi.2⟩, by omega⟩])).trans hm.1, fun j hj => ?_, hm.2.2.1, hm.2.2.2.1, fun q hq => (s q (by simp [hq i hi.2])).trans (hm.2.2.2.2 q hq)⟩
  by_cases hji : j = i
  · rw [hji, m_us, ← hN]; exact o
  · rw [m_un hji]
    exact (s _ (by simp [hm.ne (i := j) (j := i) ⟨⟨hj.2, hi.2⟩, hji⟩])).trans (hm.2.1 j hj)
theorem x_gm {k : Nat} {v : Value} (hm : k_m h0 h B V F) (kk : ∀ g : q_H, k_m h0 g B (m_u V k v) F → m_u V k v k = v → q_X G M R Fq pc lv st g cells slots) (hk : k < 36 := by decide) (hr : m_ref k = false := by rfl) : q_X G M R Fq pc lv st (va_up h (B 0) (some (k_ob 7 ((m_fs V).set k v)))) cells slots :=
  x_gen (fun g o s => kk g (hm.fld hk hr o s) m_us)
theorem x_ga {i N : Nat} {f : Nat → Int32} (hm : k_m h0 h B V F) (hi : 1 ≤ i ∧ i < 16) (hN : N = m_N i) (kk : ∀ g : q_H, k_m h0 g B V (m_u F i f) → q_X G M R Fq pc lv st g cells slots) : q_X G M R Fq pc lv st (va_up h (B i) (some (k_ar N f))) cells slots :=
  x_gen (fun g o s => kk g (hm.row hi hN o s))
end MdlA
section MdlB
variable {G : q_G} {h0 h : q_H} {B : Nat → Nat} {V : Nat → Value} {F : Nat → Nat → Int32}
theorem sm_put {n : Nat} (hm : k_m h0 h B V F) (f9 : V 9 = .int (nI n)) (hn : n < 800) (b : Int32) : q_SP G mX7_put [.ref (B 0), .int b] h 0 0 (fun o h' => o = none ∧ k_m h0 h' B (m_u V 9 (.int (nI (n + 1)))) (m_u F 5 (upd (F 5) n b))) := by
  have v0 : vp_in (nI n) 800 := vp_in_nI hn (by omega)
  refine q_enter (M := mX7_put) (by decide +kernel) rfl (Nat.le_of_ble_eq_true rfl) ?_
  refine x_aload_n 0 dX7_put_0 rfl (by first | rfl | assumption) ?_
  refine gf_X7_put_22 dX7_put_1 hm.1 (congrArg some hm.r8) ?_
  refine x_aload_n 0 dX7_put_4 rfl (by first | rfl | assumption) ?_
  refine gf_X7_put_59 dX7_put_5 hm.1 (congrArg some f9) ?_
  refine x_iload_n 1 dX7_put_8 rfl (by first | rfl | assumption) ?_
  refine x_iast dX7_put_9 (by first | exact hm.a1 | exact hm.a2 | exact hm.a3 | exact hm.a4 | exact hm.a5 | exact hm.a6 | exact hm.a7 | exact hm.a8 | exact hm.a9 | exact hm.a10 | exact hm.a11 | exact hm.a12 | exact hm.a13 | exact hm.a14 | exact hm.a15) (by assumption) ?_
  refine x_ga hm (by decide) rfl (fun gm hm => ?_)
  refine x_aload_n 0 dX7_put_10 rfl (by first | rfl | assumption) ?_
  refine x_dup dX7_put_11 rfl ?_
  refine gf_X7_put_59 dX7_put_12 hm.1 (congrArg some f9) ?_
  refine x_iconst 1 dX7_put_15 (by decide) ?_
  refine x_iadd dX7_put_16 ?_
  refine pf_X7_put_59 dX7_put_17 hm.1 (Nat.le_of_ble_eq_true rfl) ?_
  refine x_gm hm (fun gm hm f9 => ?_)
  refine x_vret rfl dX7_put_20 (by decide) (by decide) ?_
  rw [nI_clamp (by omega), nI_1] at hm
  exact ⟨rfl, hm⟩
theorem sm_beginCharacters (hm : k_m h0 h B V F) : q_SP G mX7_beginCharacters [.ref (B 0)] h 0 0 (fun o h' => o = none ∧ k_m h0 h' B (m_u V 24 (.int 0)) F) := by
  refine q_enter (M := mX7_beginCharacters) (by decide +kernel) rfl (Nat.le_of_ble_eq_true rfl) ?_
  refine x_aload_n 0 dX7_beginCharacters_0 rfl (by first | rfl | assumption) ?_
  refine x_iconst 0 dX7_beginCharacters_1 (by decide) ?_
  refine pf_X7_beginCharacters_72 dX7_beginCharacters_2 hm.1 (Nat.le_of_ble_eq_true rfl) ?_
  refine x_gm hm (fun gm hm f24 => ?_)
  refine x_vret rfl dX7_beginCharacters_5 (by decide) (by decide) ?_
  exact ⟨rfl, hm⟩
theorem sm_fail (hm : k_m h0 h B V F) (x : Int32) : q_SP G mX7_fail [.ref (B 0), .int x] h 0 0 (fun o h' => o = some (.int 0) ∧ k_m h0 h' B (m_u V 0 (.int x)) F) := by
  refine q_enter (M := mX7_fail) (by decide +kernel) rfl (Nat.le_of_ble_eq_true rfl) ?_
  refine x_aload_n 0 dX7_fail_0 rfl (by first | rfl | assumption) ?_
  refine x_iload_n 1 dX7_fail_1 rfl (by first | rfl | assumption) ?_
  refine pf_X7_fail_55 dX7_fail_2 hm.1 (Nat.le_of_ble_eq_true rfl) ?_
  refine x_gm hm (fun gm hm f0 => ?_)
  refine x_iconst 0 dX7_fail_5 (by decide) ?_
  refine x_iret rfl (by first | rfl | assumption | exact z_nb _) dX7_fail_6 (by decide) (by decide) ?_
  exact ⟨rfl, hm⟩
theorem sm_thrown (hm : k_m h0 h B V F) {x : Int32} (f0 : V 0 = .int x) : q_SP G mX7_thrown [.ref (B 0)] h 0 0 (fun o h' => o = some (.int x) ∧ h' = h) := by
  refine q_enter (M := mX7_thrown) (by decide +kernel) rfl (Nat.le_of_ble_eq_true rfl) ?_
  refine x_aload_n 0 dX7_thrown_0 rfl (by first | rfl | assumption) ?_
  refine gf_X7_thrown_55 dX7_thrown_1 hm.1 (congrArg some f0) ?_
  refine x_iret rfl (by first | rfl | assumption | exact z_nb _) dX7_thrown_4 (by decide) (by decide) ?_
  exact ⟨rfl, rfl⟩
/-- a row of the reference shows a list -/
def m_l (f : Nat → Int32) (l : List Int32) : Prop := ∀ j, j < l.length → f j = l.getD j 0
theorem m_l.add {f : Nat → Int32} {l : List Int32} (hl : m_l f l) (b : Int32) : m_l (upd f l.length b) (l ++ [b]) := by
  intro j hj
  rw [List.length_append] at hj
  have h1 : [b].length = 1 := rfl
  by_cases hjl : j = l.length
  · rw [hjl, pk_us, List.getD_eq_getElem?_getD, List.getElem?_append_right (Nat.le_refl _), Nat.sub_self]
    rfl
  · rw [pk_un hjl, hl j (by omega), List.getD_eq_getElem?_getD, List.getD_eq_getElem?_getD, List.getElem?_append_left (by omega)]
/-- out shows l -/
def m_o (V : Nat → Value) (F : Nat → Nat → Int32) (l : List Int32) : Prop := V 9 = .int (nI l.length) ∧ m_l (F 5) l
/-- only out may have changed -/
def m_oo (V : Nat → Value) (F : Nat → Nat → Int32) (V' : Nat → Value) (F' : Nat → Nat → Int32) : Prop := (∀ j, j ≠ 9 → V' j = V j) ∧ ∀ j, j ≠ 5 → F' j = F j
theorem m_oo.rf : m_oo V F V F := ⟨fun _ _ => rfl, fun _ _ => rfl⟩
theorem m_oo.tr {V1 V2 : Nat → Value} {F1 F2 : Nat → Nat → Int32} (a : m_oo V F V1 F1) (b : m_oo V1 F1 V2 F2) : m_oo V F V2 F2 := ⟨fun j hj => (b.1 j hj).trans (a.1 j hj), fun j hj => (b.2 j hj).trans (a.2 j hj)⟩
/-- it says x -/
def m_says (G : q_G) (M : q_M) (as : List Value) (h0 h : q_H) (B : Nat → Nat) (V : Nat → Value) (F : Nat → Nat → Int32) (l : List Int32) : Prop := q_SP G M as h 0 0 (fun o h' => o = none ∧ ∃ V' F', k_m h0 h' B V' F' ∧ m_oo V F V' F' ∧ m_o V' F' l)
theorem sm_put1 {l : List Int32} (hm : k_m h0 h B V F) (ho : m_o V F l) (hn : l.length < 800) (b : Int32) : m_says G mX7_put [.ref (B 0), .int b] h0 h B V F (l ++ [b]) := by
  refine q_SP.to (sm_put hm ho.1 hn b) ?_
  rintro o h' ⟨rfl, k⟩
  refine ⟨rfl, _, _, k, ⟨fun j hj => m_un hj, fun j hj => m_un hj⟩, ?_, ?_⟩
  · rw [List.length_append]; rfl
  · exact ho.2.add b
end MdlB
