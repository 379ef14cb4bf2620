/-! ROWS OF q_X: fields, rows of numbers, new cells, calls, ends -/
section QHeap
theorem q_P.at {G : q_G} {h : q_H} {H : Heap} (hP : q_P G h H) {a : Nat} {e : q_C} (ha : h a = some e) : va_P (q_D G) vwCl [(a, q_E (q_cI G) (q_cL G) e)] H := by
  intro k q hk
  have hz : k < 1 := (List.getElem?_eq_some_iff.mp hk).1
  rw [show k = 0 by omega] at hk
  cases hk
  exact (hP.1 a e ha).1
theorem q_P.lt {G : q_G} {h : q_H} {H : Heap} (hP : q_P G h H) {a : Nat} {e : q_C} (ha : h a = some e) : a < H.size := (hP.1 a e ha).1.lt
theorem q_P.put {G : q_G} {h : q_H} {H H1 : Heap} (hP : q_P G h H) {a : Nat} {e0 e : q_C} (ha : h a = some e0) (hz : H1.size = H.size) (ho : ∀ q : Nat, q ≠ a → H1[q]? = H[q]?) (he : va_at (q_D G) vwCl (a, q_E (q_cI G) (q_cL G) e) H1) : q_P G (va_up h a (some e)) H1 := by
  have hA := (hP.1 a e0 ha).2
  refine ⟨fun b x hb => ?_, by rw [hz]; exact hP.2.1, fun q h1 h2 => ?_, fun l hl => by cases hl⟩
  · unfold va_up at hb
    by_cases hba : b = a
    · subst hba
      rw [if_pos rfl] at hb
      cases hb
      exact ⟨he, hA⟩
    · rw [if_neg hba] at hb
      obtain ⟨h1, h2⟩ := hP.1 b x hb
      exact ⟨h1.kept (ho b hba), h2⟩
  · rw [ho q (fun z => h2 (z ▸ hA))]
    exact hP.2.2.1 q h1 h2
theorem q_P.new {G : q_G} {h : q_H} {H H1 : Heap} (hP : q_P G h H) {e : q_C} (hz : H1.size = H.size + 1) (ho : ∀ q : Nat, q < H.size → H1[q]? = H[q]?) (he : va_at (q_D G) vwCl (H.size, q_E (q_cI G) (q_cL G) e) H1) : h H.size = none ∧ q_P G (va_up h H.size (some e)) H1 := by
  have hn : h H.size = none := by
    cases hc : h H.size with
    | none => rfl
    | some x => exact absurd (hP.lt hc) (Nat.lt_irrefl _)
  refine ⟨hn, fun b x hb => ?_, by rw [hz]; exact Nat.le_succ_of_le hP.2.1, fun q h1 h2 => ?_, fun l hl => by cases hl⟩
  · unfold va_up at hb
    by_cases hba : b = H.size
    · subst hba
      rw [if_pos rfl] at hb
      cases hb
      exact ⟨he, hP.2.1⟩
    · rw [if_neg hba] at hb
      obtain ⟨h1, h2⟩ := hP.1 b x hb
      exact ⟨h1.kept (ho b (hP.lt hb)), h2⟩
  · rw [ho q (Nat.lt_of_lt_of_le h1 hP.2.1)]
    exact hP.2.2.1 q h1 h2
variable {G : q_G} {M : q_M} {R : Room} {F : q_F} {pc : Nat} {lv : List (Nat × Value)} {st : List Value} {h : q_H} {cells slots : Nat}
theorem x_getf {ci kf N idx a : Nat} {C : String} {T : u_T} {fs : List Value} {v : Value} (hc : vwCl[ci]? = some (C, T, N)) (hin : ∀ w ∈ u_ws C T N, w ∈ q_TB) (hk : kf < N) (hw : Cond.fieldLink (q_y M).cls idx (T kf).1 (T kf).2.1 (T kf).2.2.1 ∈ q_TB) (hd : decode (q_cc M) pc = .ok (.getfield idx, 3)) (ha : h a = some (k_ob ci fs)) (hv : fs[kf]? = some v) (k : q_X G M R F (pc + 3) lv (v :: st) h cells slots) : q_X G M R F pc lv (.ref a :: st) h cells slots := by
  intro p e s m args below meth c H locs ls C0 hP hS hl
  obtain ⟨hx, hb, -, hown, hts, -, -, -, hW, -, -, hG⟩ := id C0
  exact va_get hx hb hts hin hown (va_K.moved hW.alike hG.1) (hP.at ha) 0 rfl hc kf hk (hts _ hw) (fun _ h9 => h9) hv hd (k p e s m args below meth c H locs ls C0 hP hS hl)
theorem x_putf {ci kf N idx a : Nat} {C : String} {T : u_T} {fs : List Value} {v : Value} (ty0 : Nat → FieldType) (hty : ∀ k, k < N → parseFieldDescriptor (T k).2.2.1 = some (ty0 k)) (hnm : ∀ a, a < N → ∀ b, b < N → a ≠ b → (T a).2.1 ≠ (T b).2.1) (hc : vwCl[ci]? = some (C, T, N)) (hin : ∀ w ∈ u_ws C T N, w ∈ q_TB) (hk : kf < N) (hw : Cond.fieldLink (q_y M).cls idx (T kf).1 (T kf).2.1 (T kf).2.2.1 ∈ q_TB) (hfin : (T kf).2.2.2 = false) (hd : decode (q_cc M) pc = .ok (.putfield idx, 3)) (hn : narrow (ty0 kf) v = v) (hfit : fits (ty0 kf) v = true) (ha : h a = some (k_ob ci fs)) (hlen : kf < fs.length) (k : q_X G M R F (pc + 3) lv st (va_up h a (some (k_ob ci (fs.set kf v)))) cells slots) : q_X G M R F pc lv (v :: .ref a :: st) h cells slots := by
  intro p e s m args below meth c H locs ls C0 hP hS hl
  obtain ⟨hx, hb, -, hown, hts, -, -, -, hW, -, -, hG⟩ := id C0
  have hK := va_K.moved hW.alike hG.1
  have hap := va_apart (own := (q_y M).cls) hts hin ty0 hty hnm hK hc
  obtain ⟨⟨r, h1, cell, q1, q2, q3, q4⟩, hA⟩ := hP.1 a _ ha
  have hr : r = (C, T, N) := Option.some.inj (h1.symm.trans hc)
  subst hr
  obtain ⟨hSl, hfc, kC, hkC, hkind⟩ := hK.1 ci _ hc
  obtain ⟨cf, kf', fi, f, hi, hsl⟩ := hSl kf hk
  have hlay := hts _ (hin _ (u_in_lay hk))
  unfold u_lay at hlay
  rw [if_neg (by rw [hfin]; decide)] at hlay
  have hst := (u_facts hfc hkC (u_lays hts hin hk) hi).1
  have h6 := u_store hfc hkC hkind hlay hi (hty kf hk) hn hfit
  refine W.putK hx hb (f := f) ⟨hown, hts _ hw, ⟨_, _, _, hi⟩, hst⟩ (by rw [q2]; exact h6) q1 q3 (by rw [hsl]; exact k2_hasslot (q4 kf hk)) rfl rfl hd fun H' e1 e2 e3 => ?_
  rw [hsl] at e1 ⊢
  exact k p e s m args below meth c H' _ ls C0 (hP.put ha e2 e3 ⟨_, hc, t_OB.to (V := updV (vp_V fs) kf v) ⟨_, e1, q2, q3, t_set q4 hap hk v⟩ (fun j _ => vp_updV_set hlen v j)⟩) (hS.put e2 e3 hA) hl
theorem x_putF {ci kf N idx a : Nat} {C : String} {T : u_T} {fs : List Value} {v : Value} (ty0 : Nat → FieldType) (hty : ∀ k, k < N → parseFieldDescriptor (T k).2.2.1 = some (ty0 k)) (hnm : ∀ a, a < N → ∀ b, b < N → a ≠ b → (T a).2.1 ≠ (T b).2.1) (hc : vwCl[ci]? = some (C, T, N)) (hin : ∀ w ∈ u_ws C T N, w ∈ q_TB) (hk : kf < N) (hw : Cond.fieldLink (q_y M).cls idx (T kf).1 (T kf).2.1 (T kf).2.2.1 ∈ q_TB) (hfin : (T kf).2.2.2 = true) (hini : (q_y M).name = "<init>") (hdecl : (T kf).1 = (q_y M).cls) (hd : decode (q_cc M) pc = .ok (.putfield idx, 3)) (hn : narrow (ty0 kf) v = v) (hfit : fits (ty0 kf) v = true) (ha : h a = some (k_ob ci fs)) (hlen : kf < fs.length) (k : q_X G M R F (pc + 3) lv st (va_up h a (some (k_ob ci (fs.set kf v)))) cells slots) : q_X G M R F pc lv (v :: .ref a :: st) h cells slots := by
  intro p e s m args below meth c H locs ls C0 hP hS hl
  obtain ⟨hx, hb, -, hown, hts, -, -, hnam, hW, -, -, hG⟩ := id C0
  have hK := va_K.moved hW.alike hG.1
  have hap := va_apart (own := (q_y M).cls) hts hin ty0 hty hnm hK hc
  obtain ⟨⟨r, h1, cell, q1, q2, q3, q4⟩, hA⟩ := hP.1 a _ ha
  have hr : r = (C, T, N) := Option.some.inj (h1.symm.trans hc)
  subst hr
  obtain ⟨hSl, hfc, kC, hkC, hkind⟩ := hK.1 ci _ hc
  obtain ⟨cf, kf', fi, f, hi, hsl⟩ := hSl kf hk
  have hlay := hts _ (hin _ (u_in_lay hk))
  unfold u_lay at hlay
  rw [if_pos hfin] at hlay
  have hst := (u_facts hfc hkC (u_lays hts hin hk) hi).1
  have hcf : m.cls = cf := by
    obtain ⟨_, _, c', _, _, _, -, -, hf', -, -, -, hown2, -⟩ := Cond.laysFinal_spec hlay
    have e1 : c' = cf := by have := hi.symm.trans hf'; simp at this; exact this.1.symm
    rw [hdecl] at hown2
    rw [← e1]; exact Option.some.inj (hown.symm.trans hown2)
  have h6 := u_fits hfc hkC hkind (Or.inr hlay) hi (hty kf hk) hn hfit
  refine W.putFinK hx hb hown (hts _ hw) hi hst hcf (hnam.trans hini) (by rw [q2]; exact h6) q1 q3 (by rw [hsl]; exact k2_hasslot (q4 kf hk)) rfl rfl hd fun H' e1 e2 e3 => ?_
  rw [hsl] at e1 ⊢
  exact k p e s m args below meth c H' _ ls C0 (hP.put ha e2 e3 ⟨_, hc, t_OB.to (V := updV (vp_V fs) kf v) ⟨_, e1, q2, q3, t_set q4 hap hk v⟩ (fun j _ => vp_updV_set hlen v j)⟩) (hS.put e2 e3 hA) hl
theorem x_iald {a N : Nat} {f : Nat → Int32} {i : Int32} (hd : decode (q_cc M) pc = .ok (.iaload, 1)) (ha : h a = some (k_ar N f)) (hi : vp_in i N) (k : q_X G M R F (pc + 1) lv (.int (f i.toNatClampNeg) :: st) h cells slots) : q_X G M R F pc lv (.int i :: .ref a :: st) h cells slots := by
  intro p e s m args below meth c H locs ls C0 hP hS hl
  obtain ⟨hx, hb, -, -, -, -, -, -, hW, -, -, hG⟩ := id C0
  exact va_iald hx hb (va_K.moved hW.alike hG.1) (hP.at ha) 0 0 rfl rfl hi hd (k p e s m args below meth c H locs ls C0 hP hS hl)
theorem x_lald {a N : Nat} {f : Nat → Int64} {i : Int32} (hd : decode (q_cc M) pc = .ok (.laload, 1)) (ha : h a = some (k_al N f)) (hi : vp_in i N) (k : q_X G M R F (pc + 1) lv (.long (f i.toNatClampNeg) :: st) h cells slots) : q_X G M R F pc lv (.int i :: .ref a :: st) h cells slots := by
  intro p e s m args below meth c H locs ls C0 hP hS hl
  obtain ⟨hx, hb, -, -, -, -, -, -, hW, -, -, hG⟩ := id C0
  exact va_lald hx hb (va_K.moved hW.alike hG.1) (hP.at ha) 0 1 rfl rfl hi hd (k p e s m args below meth c H locs ls C0 hP hS hl)
theorem x_alen {a N : Nat} {f : Nat → Int32} (hd : decode (q_cc M) pc = .ok (.arraylength, 1)) (ha : h a = some (k_ar N f)) (k : q_X G M R F (pc + 1) lv (.int (nI N) :: st) h cells slots) : q_X G M R F pc lv (.ref a :: st) h cells slots := by
  intro p e s m args below meth c H locs ls C0 hP hS hl
  obtain ⟨hx, hb, -, -, -, -, -, -, hW, -, -, hG⟩ := id C0
  exact va_alen hx hb (va_K.moved hW.alike hG.1) (hP.at ha) 0 0 rfl rfl rfl hd (k p e s m args below meth c H locs ls C0 hP hS hl)
theorem x_iast {a N : Nat} {f : Nat → Int32} {i x : Int32} (hd : decode (q_cc M) pc = .ok (.iastore, 1)) (ha : h a = some (k_ar N f)) (hi : vp_in i N) (k : q_X G M R F (pc + 1) lv st (va_up h a (some (k_ar N (upd f i.toNatClampNeg x)))) cells slots) : q_X G M R F pc lv (.int x :: .int i :: .ref a :: st) h cells slots := by
  intro p e s m args below meth c H locs ls C0 hP hS hl
  obtain ⟨hx, hb, -, -, -, -, -, -, hW, -, -, hG⟩ := id C0
  have hK := va_K.moved hW.alike hG.1
  obtain ⟨hcell, hA⟩ := hP.1 a _ ha
  refine W.iast hx hb hcell ((hK.2 0 _ rfl).1 N (fun j => .int (f j))) (fun q => by cases q) (by show ¬ (i < 0 ∨ (arrV _ _ _).slots.size ≤ _); rw [arrV_size]; exact hi) rfl rfl hd fun H1 e9 z oq => ?_
  refine k p e s m args below meth c H1 _ ls C0 (hP.put ha z oq ?_) (hS.put z oq hA) hl
  show H1[a]? = some (vp_cell _ _)
  rw [e9]
  show some ((vp_cell (q_cI G) (N, .inl f)).setSlot _ _) = some (vp_cell (q_cI G) (N, .inl _))
  rw [vp_cell_i, vp_cell_i, arrV_store]
  congr 2
  funext q
  by_cases hq : q = i.toNatClampNeg
  · subst hq
    simp [updV, upd]
  · simp [updV, upd, hq]
theorem x_last {a N : Nat} {f : Nat → Int64} {i : Int32} {x : Int64} (hd : decode (q_cc M) pc = .ok (.lastore, 1)) (ha : h a = some (k_al N f)) (hi : vp_in i N) (k : q_X G M R F (pc + 1) lv st (va_up h a (some (k_al N (vp_updL f i.toNatClampNeg x)))) cells slots) : q_X G M R F pc lv (.long x :: .int i :: .ref a :: st) h cells slots := by
  intro p e s m args below meth c H locs ls C0 hP hS hl
  obtain ⟨hx, hb, -, -, -, -, -, -, hW, -, -, hG⟩ := id C0
  have hK := va_K.moved hW.alike hG.1
  obtain ⟨hcell, hA⟩ := hP.1 a _ ha
  refine W.last hx hb hcell ((hK.2 1 _ rfl).1 N (fun j => .long (f j))) (fun q => by cases q) (by show ¬ (i < 0 ∨ (arrV _ _ _).slots.size ≤ _); rw [arrV_size]; exact hi) rfl rfl hd fun H1 e9 z oq => ?_
  refine k p e s m args below meth c H1 _ ls C0 (hP.put ha z oq ?_) (hS.put z oq hA) hl
  show H1[a]? = some (vp_cell _ _)
  rw [e9]
  show some ((vp_cell (q_cL G) (N, .inr (.inl f))).setSlot _ _) = some (vp_cell (q_cL G) (N, .inr (.inl _)))
  rw [vp_cell_l, vp_cell_l, arrV_store]
  congr 2
  funext q
  by_cases hq : q = i.toNatClampNeg
  · subst hq
    simp [updV, vp_updL]
  · simp [updV, vp_updL, hq]
theorem x_new {ci N idx : Nat} {C : String} {T : u_T} (fs : List Value) (ty : Nat → FieldType) (hty : ∀ k, k < N → parseFieldDescriptor (T k).2.2.1 = some (ty k)) (hc : vwCl[ci]? = some (C, T, N)) (hin : ∀ w ∈ u_ws C T N, w ∈ q_TB) (hcl : Cond.classLink (q_y M).cls idx C ∈ q_TB) (hinst : Cond.instantiable C N ∈ q_TB) (hini : Cond.initialized C ∈ q_TB) (hfs : ∀ j, j < N → defaultValue (ty j) = vp_V fs j) (hd : decode (q_cc M) pc = .ok (.new idx, 3)) (hcells : cells + 1 ≤ R.cells) (hslots : slots + N ≤ R.slots) (k : ∀ q : Nat, h q = none → q_X G M R F (pc + 3) lv (.ref q :: st) (va_up h q (some (k_ob ci fs))) (cells + 1) (slots + N)) : q_X G M R F pc lv st h cells slots := by
  intro p e s m args below meth c H locs ls C0 hP hS hl
  obtain ⟨hx, hb, -, hown, hts, -, -, -, hW, -, -, hG⟩ := id C0
  have hK := va_K.moved hW.alike hG.1
  have hKn := hK.1 ci _ hc
  refine W.newcK hx hb hown (hts _ hcl) (hts _ hinst) (hts _ hini) rfl hd hcells hslots hKn.2.1 rfl fun H1 kC hkC e1 z1 o1 => ?_
  obtain ⟨hn, hP1⟩ := hP.new (e := k_ob ci fs) z1 o1 ⟨_, hc, (u_born ty hts hin hKn hkC e1 hty).to hfs⟩
  exact k H.size hn p e s m args below meth c H1 locs ls C0 hP1 ⟨Nat.le_trans hS.1 (by omega), fun x h1 h2 => (o1 x (Nat.lt_of_lt_of_le h1 hS.1)).trans (hS.2.1 x h1 h2), hS.2.2⟩ hl
theorem x_newI {n : Int32} (N : Nat) (hw : Cond.arrayClass .int ∈ q_TB) (hd : decode (q_cc M) pc = .ok (.newarray .int, 2)) (hn : ¬ n < 0) (hN : n.toNatClampNeg = N) (hbytes : N * 4 ≤ 536870912) (hcells : cells + 1 ≤ R.cells) (hslots : slots + N ≤ R.slots) (k : ∀ q : Nat, h q = none → q_X G M R F (pc + 2) lv (.ref q :: st) (va_up h q (some (k_ar N (fun _ => 0)))) (cells + 1) (slots + N)) : q_X G M R F pc lv (.int n :: st) h cells slots := by
  intro p e s m args below meth c H locs ls C0 hP hS hl
  obtain ⟨hx, hb, -, hown, hts, -, -, -, hW, -, -, hG⟩ := id C0
  have hK := va_K.moved hW.alike hG.1
  refine va_newaK (atype := .int) hx hb (hts _ hw) rfl hd rfl hn hN hbytes hcells hslots rfl fun H1 cA e1 z1 o1 hAr hNm => ?_
  have hcA : cA = q_cI G := Option.some.inj (hNm.symm.trans (show s.vm.findClass _ = some (q_cI G) from (hK.2 0 _ rfl).2))
  subst hcA
  obtain ⟨hno, hP1⟩ := hP.new (e := k_ar N (fun _ => 0)) z1 o1 e1
  exact k H.size hno p e s m args below meth c H1 locs ls C0 hP1 ⟨Nat.le_trans hS.1 (by omega), fun x h1 h2 => (o1 x (Nat.lt_of_lt_of_le h1 hS.1)).trans (hS.2.1 x h1 h2), hS.2.2⟩ hl
theorem x_newL {n : Int32} (N : Nat) (hw : Cond.arrayClass .long ∈ q_TB) (hd : decode (q_cc M) pc = .ok (.newarray .long, 2)) (hn : ¬ n < 0) (hN : n.toNatClampNeg = N) (hbytes : N * 8 ≤ 536870912) (hcells : cells + 1 ≤ R.cells) (hslots : slots + N ≤ R.slots) (k : ∀ q : Nat, h q = none → q_X G M R F (pc + 2) lv (.ref q :: st) (va_up h q (some (k_al N (fun _ => 0)))) (cells + 1) (slots + N)) : q_X G M R F pc lv (.int n :: st) h cells slots := by
  intro p e s m args below meth c H locs ls C0 hP hS hl
  obtain ⟨hx, hb, -, hown, hts, -, -, -, hW, -, -, hG⟩ := id C0
  have hK := va_K.moved hW.alike hG.1
  refine va_newaK (atype := .long) hx hb (hts _ hw) rfl hd rfl hn hN hbytes hcells hslots rfl fun H1 cA e1 z1 o1 hAr hNm => ?_
  have hcA : cA = q_cL G := Option.some.inj (hNm.symm.trans (show s.vm.findClass _ = some (q_cL G) from (hK.2 1 _ rfl).2))
  subst hcA
  obtain ⟨hno, hP1⟩ := hP.new (e := k_al N (fun _ => 0)) z1 o1 e1
  exact k H.size hno p e s m args below meth c H1 locs ls C0 hP1 ⟨Nat.le_trans hS.1 (by omega), fun x h1 h2 => (o1 x (Nat.lt_of_lt_of_le h1 hS.1)).trans (hS.2.1 x h1 h2), hS.2.2⟩ hl
theorem x_objInit {idx a : Nat} (h1 : Cond.methodLink (q_y M).cls idx objectInit ∈ q_TB) (h2 : Cond.instanceMethod objectInit ∈ q_TB) (h3 : Cond.code objectInit ⟨#[0xb1]⟩ 1 none ∈ q_TB) (hd : decode (q_cc M) pc = .ok (.invokespecial idx, 3)) (hf : 1 ≤ R.frames) (hlo : (st.map fun v => v.category).sum + 12 ≤ R.locals) (k : q_X G M R F (pc + 3) lv st h cells slots) : q_X G M R F pc lv (.ref a :: st) h cells slots := by
  intro p e s m args below meth c H locs ls C0 hP hS hl
  obtain ⟨hx, hb, hml, hown, hts, -⟩ := id C0
  refine W.objInit hx hb hown (hts _ h1) (hts _ h2) (hts _ h3) rfl (by rw [hml]; exact hl.1) rfl hd hf (by show 2 * 0 + _ + 12 ≤ _; omega) ?_
  exact k p e s m args below meth c H locs ls C0 hP hS hl
end QHeap
section QCalls
variable {G : q_G} {M M' : q_M} {R : Room} {F : q_F} {pc : Nat} {lv : List (Nat × Value)} {st : List Value} {h : q_H} {cells slots mc ms : Nat} {Q : q_Q}
theorem q_blind {as : List Value} : FrameBlind (q_Pc G as h) := fun a U g mk q => q
theorem q_paid {p : Program} {s : State} {m : MethodId} {args : Array Value} {meth : Method} {c : Code} (C0 : q_X0 G M p s m args meth c) (hc : q_hd M' ∈ q_TB) : ∀ w ∈ q_ws M', ∀ (a' : Array Value) (U : State), s.WarmedH U.vm → w.before a' U = true := by
  have hG : GoodIn q_TB (q_ws M') := by
    intro w hw
    have hin : w ∈ q_TB := by
      rcases List.mem_cons.mp hw with rfl | hw
      · exact hc
      · exact hw
    exact ⟨hin, good_of_word (List.mem_filter.mp hin).2⟩
  exact pay_in C0.2.2.2.2.1 hG
theorem q_pre {p : Program} {s : State} {m : MethodId} {args : Array Value} {meth : Method} {c : Code} {H : Heap} {as : List Value} (C0 : q_X0 G M p s m args meth c) (hP : q_P G h H) : ∀ U : State, U.heap = H → s.WarmedH U.vm → q_Pc G as h as.toArray U := by
  intro U hU hW
  obtain ⟨-, -, -, -, -, -, -, -, hW0, -, -, hG⟩ := id C0
  exact ⟨rfl, State.WarmedH.trans hW0 hW, by rw [hU]; exact hP, hG⟩
theorem q_ofRun {p : Program} {e : Env} {s : State} {m : MethodId} {args : Array Value} {below : List Frame} {meth : Method} {c : Code} {H : Heap} {locs : List Loc} {ls : Array Slot} {st0 : List Value} {a : Array Value}
    (hr : va_Run p (q_l G) e R s m args below meth c H locs cells slots mc ms (F0 m pc ls st0) st (q_Qc G Q a) (q_A G)) (C0 : q_X0 G M p s m args meth c) (hS : va_S (q_A G) s.heap H locs) (hl : lv_has ls (q_nL M) lv)
    (kk : ∀ (r : Option Value) (h' : q_H), Q r h' → q_X G M R F (pc + 3) lv (r.toList ++ st) h' (cells + mc) (slots + ms)) : W p (q_l G) e R s m args below meth c H locs cells slots (F s args below) (F0 m pc ls st0) := by
  intro T hT X
  obtain ⟨v, st₀, t, T', L, h0, X', hL, e1, e2, ⟨r, h', hv, hQ, hP', hsz⟩, stp⟩ := hr T hT X
  cases hv
  obtain ⟨-, -, -, -, -, -, -, -, -, hS0, -, -⟩ := id C0
  have hP2 : q_P G h' T'.heap := by rw [e1]; exact hP'
  have hS2 : va_S (q_A G) s.heap T'.heap (locs ++ L) := by
    refine ⟨Nat.le_trans hS.1 (by rw [e1, ← h0]; exact hsz), fun q h1 h2 => ?_, fun z hz => ?_⟩
    · have hq : q < (q_s G).heap.size := Nat.lt_of_not_le h2
      rw [hP2.2.2.1 q hq h2, hS0.2.1 q hq h2]
    · rcases List.mem_append.mp hz with hz | hz
      · exact hS.2.2 z hz
      · exact hL z hz
  obtain ⟨t2, a1, b1⟩ := kk v h' hQ p e s m args below meth c T'.heap (locs ++ L) ls C0 hP2 hS2 hl T' rfl X'
  exact ⟨t2, stp t2 a1, b1⟩
theorem q_recv {ci a N : Nat} {C : String} {T : u_T} {fs : List Value} {p : Program} {s : State} {m : MethodId} {args : Array Value} {meth : Method} {c : Code} {H : Heap} (C0 : q_X0 G M p s m args meth c) (hP : q_P G h H) (hc : vwCl[ci]? = some (C, T, N)) (ha : h a = some (k_ob ci fs)) : ∃ cellB : Cell, H[a]? = some cellB ∧ cellB.vm.isStatics = false ∧ s.vm.findClass C = some cellB.cls := by
  obtain ⟨-, -, -, -, -, -, -, -, hW, -, -, hG⟩ := id C0
  exact va_recv (va_K.moved hW.alike hG.1) (hP.at ha) hc (q0 := 0) rfl
/-- invokevirtual of a method of our own -/
theorem x_callV {idx n a ci N : Nat} {C : String} {T : u_T} {fs : List Value} (As : List Value) (hs : q_SP G M' (.ref a :: As) h mc ms Q) (hd : decode (q_cc M) pc = .ok (.invokevirtual idx, 3))
    (w1 : Cond.methodLink (q_y M).cls idx (q_y M') ∈ q_TB) (w2 : Cond.instanceMethod (q_y M') ∈ q_TB) (w3 : Cond.selects C (q_y M') (q_y M') ∈ q_TB) (w4 : Cond.initialized C ∈ q_TB) (w5 : q_hd M' ∈ q_TB)
    (hn : As.length = n) (hy : (q_y M').cls = C ∧ (q_y M').cls ≠ "java/lang/invoke/MethodHandle" ∧ (q_y M').cls ≠ "java/lang/invoke/VarHandle" ∧ (parseMethodDescriptor (q_y M').desc).map (fun d => d.parameters.length) = some n)
    (hR : q_fr M' + 1 ≤ R.frames ∧ 8 + (q_nL M' + 11) + q_lo M' ≤ R.locals) (hc : vwCl[ci]? = some (C, T, N)) (ha : h a = some (k_ob ci fs)) (hst : (st.map fun v => v.category).sum ≤ 8) (hf : cells + mc ≤ R.cells ∧ slots + ms ≤ R.slots)
    (kk : ∀ (r : Option Value) (h' : q_H), Q r h' → q_X G M R F (pc + 3) lv (r.toList ++ st) h' (cells + mc) (slots + ms)) : q_X G M R F pc lv (As.reverse ++ .ref a :: st) h cells slots := by
  intro p e s m args below meth c H locs ls C0 hP hS hl
  obtain ⟨hx, hb, hml, hown, hts, -⟩ := id C0
  obtain ⟨hyC, hy1, hy2, hy3⟩ := hy
  have cw : CallW R s args (q_y M).cls C idx (q_y M') (q_cc M') (q_nL M') (q_ret M') (q_ws M') (q_R M' mc ms) mc ms n :=
    ⟨⟨rfl, rfl, hR.1, hR.2, q_paid C0 w5, List.mem_cons_self, hts _ w5, by rw [hyC]; exact hts _ w4, ⟨hy1, hy2⟩, fun sig hsg => by rw [hsg] at hy3; exact (Option.some.inj hy3).symm, hts _ w1⟩, hts _ w2, hts _ w3⟩
  exact q_ofRun (va_runV (As := As) (rest := st) ⟨hx, hb, hml, hown, hts⟩ hs cw ⟨q_blind, q_recv C0 hP hc ha, q_pre C0 hP⟩ rfl hn hl.1 rfl (lv_room hst) hd hf) C0 hS hl kk
/-- invokespecial of a constructor of our own -/
theorem x_callI {idx n a : Nat} (As : List Value) (hs : q_SP G M' (.ref a :: As) h mc ms Q) (hd : decode (q_cc M) pc = .ok (.invokespecial idx, 3)) (hret : q_ret M' = none)
    (w1 : Cond.methodLink (q_y M).cls idx (q_y M') ∈ q_TB) (w2 : Cond.instanceMethod (q_y M') ∈ q_TB) (w4 : Cond.initialized (q_y M').cls ∈ q_TB) (w5 : q_hd M' ∈ q_TB)
    (hn : As.length = n) (hy : (q_y M').name = "<init>" ∧ (q_y M').cls ≠ "java/lang/invoke/MethodHandle" ∧ (q_y M').cls ≠ "java/lang/invoke/VarHandle" ∧ (parseMethodDescriptor (q_y M').desc).map (fun d => d.parameters.length) = some n)
    (hR : q_fr M' + 1 ≤ R.frames ∧ 8 + (q_nL M' + 11) + q_lo M' ≤ R.locals) (hst : (st.map fun v => v.category).sum ≤ 8) (hf : cells + mc ≤ R.cells ∧ slots + ms ≤ R.slots)
    (kk : ∀ (r : Option Value) (h' : q_H), Q r h' → q_X G M R F (pc + 3) lv (r.toList ++ st) h' (cells + mc) (slots + ms)) : q_X G M R F pc lv (As.reverse ++ .ref a :: st) h cells slots := by
  intro p e s m args below meth c H locs ls C0 hP hS hl
  obtain ⟨hx, hb, hml, hown, hts, -⟩ := id C0
  obtain ⟨hy0, hy1, hy2, hy3⟩ := hy
  have hc5 : Cond.code (q_y M') (q_cc M') (q_nL M') none ∈ q_ws M' := by rw [← hret]; exact List.mem_cons_self
  have cw : CallB R s args (q_y M).cls idx (q_y M') (q_cc M') (q_nL M') none (q_ws M') (q_R M' mc ms) mc ms n ∧ (q_y M').name = "<init>" ∧ (Cond.instanceMethod (q_y M')).before args s = true :=
    ⟨⟨rfl, rfl, hR.1, hR.2, q_paid C0 w5, hc5, by rw [← hret]; exact hts _ w5, hts _ w4, ⟨hy1, hy2⟩, fun sig hsg => by rw [hsg] at hy3; exact (Option.some.inj hy3).symm, hts _ w1⟩, hy0, hts _ w2⟩
  exact q_ofRun (va_runI (As := As) (rest := st) ⟨hx, hb, hml, hown, hts⟩ hs cw ⟨q_blind, q_pre C0 hP⟩ rfl hn hl.1 rfl (lv_room hst) hd hf) C0 hS hl kk
/-- invokestatic -/
theorem x_callS {idx n : Nat} (As : List Value) (hs : q_SP G M' As h mc ms Q) (hd : decode (q_cc M) pc = .ok (.invokestatic idx, 3))
    (w1 : Cond.methodLink (q_y M).cls idx (q_y M') ∈ q_TB) (w2 : Cond.static (q_y M') ∈ q_TB) (w4 : Cond.initialized (q_y M').cls ∈ q_TB) (w5 : q_hd M' ∈ q_TB)
    (hn : As.length = n) (hy : (q_y M').cls ≠ "java/lang/invoke/MethodHandle" ∧ (q_y M').cls ≠ "java/lang/invoke/VarHandle" ∧ (parseMethodDescriptor (q_y M').desc).map (fun d => d.parameters.length) = some n)
    (hR : q_fr M' + 1 ≤ R.frames ∧ 8 + (q_nL M' + 11) + q_lo M' ≤ R.locals) (hst : (st.map fun v => v.category).sum ≤ 8) (hf : cells + mc ≤ R.cells ∧ slots + ms ≤ R.slots)
    (kk : ∀ (r : Option Value) (h' : q_H), Q r h' → q_X G M R F (pc + 3) lv (r.toList ++ st) h' (cells + mc) (slots + ms)) : q_X G M R F pc lv (As.reverse ++ st) h cells slots := by
  intro p e s m args below meth c H locs ls C0 hP hS hl
  obtain ⟨hx, hb, hml, hown, hts, -⟩ := id C0
  obtain ⟨hy1, hy2, hy3⟩ := hy
  have cw : CallB R s args (q_y M).cls idx (q_y M') (q_cc M') (q_nL M') (q_ret M') (q_ws M') (q_R M' mc ms) mc ms n ∧ (Cond.static (q_y M')).before args s = true :=
    ⟨⟨rfl, rfl, hR.1, hR.2, q_paid C0 w5, List.mem_cons_self, hts _ w5, hts _ w4, ⟨hy1, hy2⟩, fun sig hsg => by rw [hsg] at hy3; exact (Option.some.inj hy3).symm, hts _ w1⟩, hts _ w2⟩
  exact q_ofRun (va_runS (As := As) (rest := st) ⟨hx, hb, hml, hown, hts⟩ hs cw ⟨q_blind, q_pre C0 hP⟩ rfl hn hl.1 rfl (lv_room hst) hd hf) C0 hS hl kk
/-- a private static of a nest mate -/
theorem x_callSN {idx n : Nat} {host : String} (As : List Value) (hs : q_SP G M' As h mc ms Q) (hd : decode (q_cc M) pc = .ok (.invokestatic idx, 3))
    (w1 : q_ok G → va_Nw (.methodLinkNest (q_y M).cls idx (q_y M') host) (q_s G)) (w2 : Cond.static (q_y M') ∈ q_TB) (w4 : Cond.initialized (q_y M').cls ∈ q_TB) (w5 : q_hd M' ∈ q_TB)
    (hn : As.length = n) (hy : (q_y M').cls ≠ "java/lang/invoke/MethodHandle" ∧ (q_y M').cls ≠ "java/lang/invoke/VarHandle" ∧ (parseMethodDescriptor (q_y M').desc).map (fun d => d.parameters.length) = some n)
    (hR : q_fr M' + 1 ≤ R.frames ∧ 8 + (q_nL M' + 11) + q_lo M' ≤ R.locals) (hst : (st.map fun v => v.category).sum ≤ 8) (hf : cells + mc ≤ R.cells ∧ slots + ms ≤ R.slots)
    (kk : ∀ (r : Option Value) (h' : q_H), Q r h' → q_X G M R F (pc + 3) lv (r.toList ++ st) h' (cells + mc) (slots + ms)) : q_X G M R F pc lv (As.reverse ++ st) h cells slots := by
  intro p e s m args below meth c H locs ls C0 hP hS hl
  obtain ⟨hx, hb, hml, hown, hts, -, -, -, hW, -, -, hG⟩ := id C0
  obtain ⟨hy1, hy2, hy3⟩ := hy
  have cw : va_CN R s args (q_y M).cls idx (q_y M') host (q_cc M') (q_nL M') (q_ret M') (q_ws M') (q_R M' mc ms) mc ms n ∧ (Cond.static (q_y M')).before args s = true ∧ True :=
    ⟨⟨⟨rfl, rfl, hR.1, hR.2, q_paid C0 w5, List.mem_cons_self⟩, hts _ w5, hts _ w4, ⟨hy1, hy2⟩, fun sig hsg => by rw [hsg] at hy3; exact (Option.some.inj hy3).symm, va_Nw.use rfl (va_Nw.warmM hW (w1 hG))⟩, hts _ w2, trivial⟩
  exact q_ofRun (va_runSN (As := As) (rest := st) ⟨hx, hb, hml, hown, hts⟩ hs cw ⟨q_blind, q_pre C0 hP⟩ rfl hn hl.1 rfl (lv_room hst) hd hf) C0 hS hl kk
/-- a private constructor of a nest mate -/
theorem x_callIN {idx n a : Nat} {host : String} (As : List Value) (hs : q_SP G M' (.ref a :: As) h mc ms Q) (hd : decode (q_cc M) pc = .ok (.invokespecial idx, 3)) (hret : q_ret M' = none)
    (w1 : q_ok G → va_Nw (.methodLinkNest (q_y M).cls idx (q_y M') host) (q_s G)) (w2 : Cond.instanceMethod (q_y M') ∈ q_TB) (w4 : Cond.initialized (q_y M').cls ∈ q_TB) (w5 : q_hd M' ∈ q_TB)
    (hn : As.length = n) (hy : (q_y M').name = "<init>" ∧ (q_y M').cls ≠ "java/lang/invoke/MethodHandle" ∧ (q_y M').cls ≠ "java/lang/invoke/VarHandle" ∧ (parseMethodDescriptor (q_y M').desc).map (fun d => d.parameters.length) = some n)
    (hR : q_fr M' + 1 ≤ R.frames ∧ 8 + (q_nL M' + 11) + q_lo M' ≤ R.locals) (hst : (st.map fun v => v.category).sum ≤ 8) (hf : cells + mc ≤ R.cells ∧ slots + ms ≤ R.slots)
    (kk : ∀ (r : Option Value) (h' : q_H), Q r h' → q_X G M R F (pc + 3) lv (r.toList ++ st) h' (cells + mc) (slots + ms)) : q_X G M R F pc lv (As.reverse ++ .ref a :: st) h cells slots := by
  intro p e s m args below meth c H locs ls C0 hP hS hl
  obtain ⟨hx, hb, hml, hown, hts, -, -, -, hW, -, -, hG⟩ := id C0
  obtain ⟨hy0, hy1, hy2, hy3⟩ := hy
  have hc5 : Cond.code (q_y M') (q_cc M') (q_nL M') none ∈ q_ws M' := by rw [← hret]; exact List.mem_cons_self
  have cw : va_CN R s args (q_y M).cls idx (q_y M') host (q_cc M') (q_nL M') none (q_ws M') (q_R M' mc ms) mc ms n ∧ (q_y M').name = "<init>" ∧ (Cond.instanceMethod (q_y M')).before args s = true :=
    ⟨⟨⟨rfl, rfl, hR.1, hR.2, q_paid C0 w5, hc5⟩, by rw [← hret]; exact hts _ w5, hts _ w4, ⟨hy1, hy2⟩, fun sig hsg => by rw [hsg] at hy3; exact (Option.some.inj hy3).symm, va_Nw.use rfl (va_Nw.warmM hW (w1 hG))⟩, hy0, hts _ w2⟩
  exact q_ofRun (va_runIN (As := As) (rest := st) ⟨hx, hb, hml, hown, hts⟩ hs cw ⟨q_blind, q_pre C0 hP⟩ rfl hn hl.1 rfl (lv_room hst) hd hf) C0 hS hl kk
end QCalls
section QEnds
variable {G : q_G} {M : q_M} {pc : Nat} {lv : List (Nat × Value)} {h : q_H} {cells slots mc ms : Nat} {Q : q_Q} {QX : String → q_H → Prop} {R : Room}
theorem q_end {H : Heap} {s : State} {locs : List Loc} {args : Array Value} {r : Option Value} (hQ : Q r h) (hP : q_P G h H) (hS : va_S (q_A G) s.heap H locs) : ∀ t : State, t.heap = H → s.WarmedH t.vm → q_Qc G Q args s (.returned r) t := by
  intro t ht _
  exact ⟨r, h, rfl, hQ, by rw [ht]; exact hP, by rw [ht]; exact hS.1⟩
theorem x_iret {x : Int32} {ty : FieldType} (hr : q_ret M = some ty) (hn : narrow ty (.int x) = .int x) (hd : decode (q_cc M) pc = .ok (.ireturn, 1)) (hc : cells ≤ mc) (hs : slots ≤ ms) (hQ : Q (some (.int x)) h) : q_X G M R (q_FN G Q mc ms) pc lv [.int x] h cells slots := by
  intro p e s m args below meth c H locs ls C0 hP hS hl
  obtain ⟨hx, hb, -, -, -, hret, hlocks, -⟩ := id C0
  exact W.widen hc hs (W.zret hx hb (hret.trans hr) hn (q_end hQ hP hS) hS.2.2 hd hlocks)
theorem x_vret (hr : q_ret M = none) (hd : decode (q_cc M) pc = .ok (.return_, 1)) (hc : cells ≤ mc) (hs : slots ≤ ms) (hQ : Q none h) : q_X G M R (q_FN G Q mc ms) pc lv [] h cells slots := by
  intro p e s m args below meth c H locs ls C0 hP hS hl
  obtain ⟨hx, hb, -, -, -, hret, hlocks, -⟩ := id C0
  exact W.widen hc hs (W.vret hx hb (hret.trans hr) (q_end hQ hP hS) hS.2.2 hd hlocks)
theorem x_lret {x : Int64} (hr : q_ret M = some .long) (hd : decode (q_cc M) pc = .ok (.lreturn, 1)) (hc : cells ≤ mc) (hs : slots ≤ ms) (hQ : Q (some (.long x)) h) : q_X G M R (q_FN G Q mc ms) pc lv [.long x] h cells slots := by
  intro p e s m args below meth c H locs ls C0 hP hS hl
  obtain ⟨hx, hb, -, -, -, hret, hlocks, -⟩ := id C0
  exact W.widen hc hs (W.lret hx hb (hret.trans hr) (q_end hQ hP hS) hS.2.2 hd hlocks)
theorem x_aret {a : Nat} {n : String} (hr : q_ret M = some (.object n)) (hd : decode (q_cc M) pc = .ok (.areturn, 1)) (hc : cells ≤ mc) (hs : slots ≤ ms) (hQ : Q (some (.ref a)) h) : q_X G M R (q_FN G Q mc ms) pc lv [.ref a] h cells slots := by
  intro p e s m args below meth c H locs ls C0 hP hS hl
  obtain ⟨hx, hb, -, -, -, hret, hlocks, -⟩ := id C0
  exact W.widen hc hs (W.aret hx hb (hret.trans hr) (Or.inl ⟨_, rfl⟩) (Or.inr ⟨_, rfl⟩) (q_end hQ hP hS) hS.2.2 hd hlocks)
/-- a body that may throw ends as one that doesn't -/
theorem x_fx {st : List Value} (k : q_X G M R (q_FN G Q mc ms) pc lv st h cells slots) : q_X G M R (q_FX G Q QX mc ms) pc lv st h cells slots := by
  intro p e s m args below meth c H locs ls C0 hP hS hl
  exact vx_ret (k p e s m args below meth c H locs ls C0 hP hS hl)
/-- the contract out of the body -/
theorem q_enter {as : List Value} (hy : plainFor (q_y M) = true) (hh : q_hh M = []) (hlen : (lg_sl as).length ≤ q_nL M) (body : q_X G M (q_R M mc ms) (q_FN G Q mc ms) 0 (lv_args 0 as) [] h 0 0) : q_SP G M as h mc ms Q := by
  refine va_MetF (cc := q_cc M) (maxL := q_nL M) (ret := q_ret M) (ws' := q_TB) hy rfl ?_
  intro p e s m args below meth c s₁ B hml hv
  obtain ⟨rfl, hW, hP, hG⟩ := hv
  have hts := atoms_spec (ws := q_ws M) B.pre
  have hin := (name_of_methodNamed B.named B.method).1
  have hl := lv_entry as (n := q_nL M) hlen
  rw [lg_entry_eq]
  have ht : c.exceptionTable.toList = tableOf (q_hh M) := by
    obtain ⟨meth9, c9, h1, h2, -, -, -, -, h7, -⟩ := Cond.code_spec B.named (hts _ List.mem_cons_self)
    cases Option.some.inj (h1.symm.trans B.method)
    cases Option.some.inj (h2.symm.trans (Stand.of_body B).code)
    rw [Array.isEmpty_iff.mp h7, hh]
    rfl
  exact body p e s m as.toArray below meth c s.heap [] _ ⟨B.exec, B.bytes, hml, findClass_of_methodNamed B.named, fun w hw => hts w (List.mem_cons_of_mem _ hw), B.returns, B.notSynchronized, hin, hW, hP.2, ht, hG⟩ hP va_S.rf hl
theorem q_enterX {as : List Value} (hy : plainName (q_y M).cls = true) (hh : q_hh M = []) (hlen : (lg_sl as).length ≤ q_nL M) (body : q_X G M (q_R M mc ms) (q_FX G Q QX mc ms) 0 (lv_args 0 as) [] h 0 0) : q_SX G M as h mc ms Q QX := by
  refine vx_ofW (cc := q_cc M) (maxL := q_nL M) (ret := q_ret M) (ws' := q_TB) hy rfl ?_
  intro p e s m args below meth c s₁ B hml htb hv
  obtain ⟨rfl, hW, hP, hG⟩ := hv
  have hts := atoms_spec (ws := q_ws M) B.pre
  have hin := (name_of_methodNamed B.named B.method).1
  have hl := lv_entry as (n := q_nL M) hlen
  rw [lg_entry_eq]
  have ht : c.exceptionTable.toList = tableOf (q_hh M) := by
    rw [hh]
    cases hc : c.exceptionTable.toList with
    | nil => rfl
    | cons x l => exact (htb x (by rw [hc]; exact List.mem_cons_self)).elim
  exact body p e s m as.toArray below meth c s.heap [] _ ⟨B.exec, B.bytes, hml, findClass_of_methodNamed B.named, fun w hw => hts w (List.mem_cons_of_mem _ hw), B.returns, B.notSynchronized, hin, hW, hP.2, ht, hG⟩ hP va_S.rf hl
/-- weaker ends -/
theorem q_SP.to {as : List Value} {Q' : q_Q} (hs : q_SP G M as h mc ms Q) (hq : ∀ r h', Q r h' → Q' r h') : q_SP G M as h mc ms Q' := by
  intro p e ha hc hk s m args below hf hsp hP hK
  obtain ⟨n, o, h1, h2, h3, h4, h5⟩ := hs p e ha hc hk s m args below hf hsp hP hK
  obtain ⟨r, h', e1, e2, e3⟩ := h4
  exact ⟨n, o, h1, h2, h3, ⟨r, h', e1, hq r h' e2, e3⟩, h5⟩
end QEnds
