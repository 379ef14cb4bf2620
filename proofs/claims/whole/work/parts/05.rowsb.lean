/-! more rows: the JDK's own objects, statics, arraycopy, throws -/
section QJdk
theorem q_warmC {w : Cond} {s U : State} {a : Array Value} (ho : w.onTables = true) (hk : w.keepsFace = true) (hW : s.WarmedH U.vm) (h : va_Nw w s) : w.before a U = true :=
  va_tabs ho (rfl : (s.setVm U.vm).vm = U.vm) (Cond.before_shiftedFace (State.Shifted.of_warmed hW) _ hk h)
variable {G : q_G} {M M' : q_M} {R : Room} {F : q_F} {pc : Nat} {lv : List (Nat × Value)} {st : List Value} {h : q_H} {cells slots mc ms : Nat} {Q : q_Q} {QX : String → q_H → Prop}
theorem x_gets {idx : Nat} {C n d : String} {v : Value} (hz : q_ok G → va_Z C n d v (q_A G) (q_s G) (q_s G).heap) (hw : Cond.fieldLink (q_y M).cls idx C n d ∈ q_TB) (hd : decode (q_cc M) pc = .ok (.getstatic idx, 3)) (k : q_X G M R F (pc + 3) lv (v :: st) h cells slots) : q_X G M R F pc lv st h cells slots := by
  intro p e s m args below meth c H locs ls C0 hP hS hl
  obtain ⟨hx, hb, -, hown, hts, -, -, -, hW, hS0, -, hG⟩ := id C0
  exact va_gets hx hb (((hz hG).moved hW.alike).kept hS0.2.1) hS hown (hts _ hw) (fun _ z => z) hd (k p e s m args below meth c H locs ls C0 hP hS hl)
/-- a static of which only 'a reference or null' is known -/
theorem x_getsq {idx : Nat} {C n d : String} (hz : q_ok G → va_Zq C n d (q_A G) (q_s G) (q_s G).heap) (hw : Cond.fieldLink (q_y M).cls idx C n d ∈ q_TB) (hd : decode (q_cc M) pc = .ok (.getstatic idx, 3)) (k : ∀ v : Value, (v = .null ∨ ∃ t, v = .ref t) → q_X G M R F (pc + 3) lv (v :: st) h cells slots) : q_X G M R F pc lv st h cells slots := by
  intro p e s m args below meth c H locs ls C0 hP hS hl
  obtain ⟨hx, hb, -, hown, hts, -, -, -, hW, hS0, -, hG⟩ := id C0
  rcases hz hG with z | ⟨t, z⟩
  · exact va_gets hx hb ((z.moved hW.alike).kept hS0.2.1) hS hown (hts _ hw) (fun _ z => z) hd (k _ (Or.inl rfl) p e s m args below meth c H locs ls C0 hP hS hl)
  · exact va_gets hx hb ((z.moved hW.alike).kept hS0.2.1) hS hown (hts _ hw) (fun _ z => z) hd (k _ (Or.inr ⟨t, rfl⟩) p e s m args below meth c H locs ls C0 hP hS hl)
theorem x_sget {idx a : Nat} {o n d : String} {v : Value} (hz : q_ok G → va_OF o n d v a (q_A G) (q_s G) (q_s G).heap) (hw : Cond.fieldLink (q_y M).cls idx o n d ∈ q_TB) (hd : decode (q_cc M) pc = .ok (.getfield idx, 3)) (k : q_X G M R F (pc + 3) lv (v :: st) h cells slots) : q_X G M R F pc lv (.ref a :: st) h cells slots := by
  intro p e s m args below meth c H locs ls C0 hP hS hl
  obtain ⟨hx, hb, -, hown, hts, -, -, -, hW, hS0, -, hG⟩ := id C0
  exact vk_getf hx hb (((hz hG).moved hW.alike).kept hS0.2.1) hS hown (hts _ hw) (fun _ z => z) hd (k p e s m args below meth c H locs ls C0 hP hS hl)
theorem x_tlen {a N : Nat} {ty : FieldType} {f : Nat → Value} (hz : q_ok G → va_T ty a N f (q_A G) (q_s G) (q_s G).heap) (hd : decode (q_cc M) pc = .ok (.arraylength, 1)) (k : q_X G M R F (pc + 1) lv (.int (nI N) :: st) h cells slots) : q_X G M R F pc lv (.ref a :: st) h cells slots := by
  intro p e s m args below meth c H locs ls C0 hP hS hl
  obtain ⟨hx, hb, -, hown, hts, -, -, -, hW, hS0, -, hG⟩ := id C0
  exact va_tlen hx hb (((hz hG).moved hW.alike).kept hS0.2.1) hS rfl hd (k p e s m args below meth c H locs ls C0 hP hS hl)
theorem x_tb {a N : Nat} {f : Nat → Value} {i : Int32} (hz : q_ok G → va_T .byte a N f (q_A G) (q_s G) (q_s G).heap) (hi : vp_in i N) (hd : decode (q_cc M) pc = .ok (.baload, 1)) (k : q_X G M R F (pc + 1) lv (f i.toNatClampNeg :: st) h cells slots) : q_X G M R F pc lv (.int i :: .ref a :: st) h cells slots := by
  intro p e s m args below meth c H locs ls C0 hP hS hl
  obtain ⟨hx, hb, -, hown, hts, -, -, -, hW, hS0, -, hG⟩ := id C0
  exact va_tb hx hb (((hz hG).moved hW.alike).kept hS0.2.1) hS hi rfl hd (k p e s m args below meth c H locs ls C0 hP hS hl)
/-- the law's script -/
theorem x_sld {i : Int32} (hi : vp_in i (q_L G)) (hd : decode (q_cc M) pc = .ok (.iaload, 1)) (k : q_X G M R F (pc + 1) lv (.int (q_xs G i.toNatClampNeg) :: st) h cells slots) : q_X G M R F pc lv (.int i :: .ref (q_b G) :: st) h cells slots := by
  intro p e s m args below meth c H locs ls C0 hP hS hl
  obtain ⟨hx, hb, -, hown, hts, -, -, -, hW, hS0, -, hG⟩ := id C0
  have hbl := hG.2.2.2.2.2.2.2.2.2.1
  have hA : ¬ q_A G (q_b G) := Nat.not_le.mpr hbl
  exact va_sld hx hb ((hG.2.2.2.2.2.2.2.2.1.moved hW.alike).kept (hS0.2.1 _ hbl hA)) (Nat.lt_of_lt_of_le hbl hS0.1) hA hS hi hd (k p e s m args below meth c H locs ls C0 hP hS hl)
theorem x_slen (hd : decode (q_cc M) pc = .ok (.arraylength, 1)) (k : q_X G M R F (pc + 1) lv (.int (nI (q_L G)) :: st) h cells slots) : q_X G M R F pc lv (.ref (q_b G) :: st) h cells slots := by
  intro p e s m args below meth c H locs ls C0 hP hS hl
  obtain ⟨hx, hb, -, hown, hts, -, -, -, hW, hS0, -, hG⟩ := id C0
  have hbl := hG.2.2.2.2.2.2.2.2.2.1
  have hA : ¬ q_A G (q_b G) := Nat.not_le.mpr hbl
  exact va_slen hx hb ((hG.2.2.2.2.2.2.2.2.1.moved hW.alike).kept (hS0.2.1 _ hbl hA)) (Nat.lt_of_lt_of_le hbl hS0.1) hA hS hd (k p e s m args below meth c H locs ls C0 hP hS hl)
/-- invokevirtual on a String constant -/
theorem x_callT {idx n i : Nat} (As : List Value) (hs : q_SP G M' (.ref (q_aK G i) :: As) h mc ms Q) (hi : i < 16) (hd : decode (q_cc M) pc = .ok (.invokevirtual idx, 3))
    (w1 : Cond.methodLink (q_y M).cls idx (q_y M') ∈ q_TB) (w2 : Cond.instanceMethod (q_y M') ∈ q_TB) (w3 : Cond.selects "java/lang/String" (q_y M') (q_y M') ∈ q_TB) (w4 : Cond.initialized "java/lang/String" ∈ q_TB) (w5 : q_hd M' ∈ q_TB)
    (hn : As.length = n) (hy : (q_y M').cls = "java/lang/String" ∧ (q_y M').cls ≠ "java/lang/invoke/MethodHandle" ∧ (q_y M').cls ≠ "java/lang/invoke/VarHandle" ∧ (parseMethodDescriptor (q_y M').desc).map (fun d => d.parameters.length) = some n)
    (hR : q_fr M' + 1 ≤ R.frames ∧ 8 + (q_nL M' + 11) + q_lo M' ≤ R.locals) (hst : (st.map fun v => v.category).sum ≤ 8) (hf : cells + mc ≤ R.cells ∧ slots + ms ≤ R.slots)
    (kk : ∀ (r : Option Value) (h' : q_H), Q r h' → q_X G M R F (pc + 3) lv (r.toList ++ st) h' (cells + mc) (slots + ms)) : q_X G M R F pc lv (As.reverse ++ .ref (q_aK G i) :: st) h cells slots := by
  intro p e s m args below meth c H locs ls C0 hP hS hl
  obtain ⟨hx, hb, hml, hown, hts, -, -, -, hW, hS0, -, hG⟩ := id C0
  obtain ⟨hyC, hy1, hy2, hy3⟩ := hy
  have cw : CallW R s args (q_y M).cls "java/lang/String" idx (q_y M') (q_cc M') (q_nL M') (q_ret M') (q_ws M') (q_R M' mc ms) mc ms n :=
    ⟨⟨rfl, rfl, hR.1, hR.2, q_paid C0 w5, List.mem_cons_self, hts _ w5, by rw [hyC]; exact hts _ w4, ⟨hy1, hy2⟩, fun sig hsg => by rw [hsg] at hy3; exact (Option.some.inj hy3).symm, hts _ w1⟩, hts _ w2, hts _ w3⟩
  have hrec : ∃ cellB : Cell, H[q_aK G i]? = some cellB ∧ cellB.vm.isStatics = false ∧ s.vm.findClass "java/lang/String" = some cellB.cls := by
    obtain ⟨cell, h1, h2, h3, -⟩ := ((((hG.2.1.1 i hi).1.moved hW.alike).kept hS0.2.1).kept hS.2.1)
    exact ⟨cell, h1, h2, h3⟩
  exact q_ofRun (va_runV (As := As) (rest := st) ⟨hx, hb, hml, hown, hts⟩ hs cw ⟨q_blind, hrec, q_pre C0 hP⟩ rfl hn hl.1 rfl (lv_room hst) hd hf) C0 hS hl kk
/-- System.arraycopy of ints -/
theorem x_copy {idx a0 a n0 n1 : Nat} {f g : Nat → Int32} {sp dp n : Int32} (w1 : Cond.methodLink (q_y M).cls idx arraycopyName ∈ q_TB) (w2 : Cond.native arraycopyName ∈ q_TB) (w3 : Cond.static arraycopyName ∈ q_TB) (w4 : Cond.initialized "java/lang/System" ∈ q_TB)
    (hd : decode (q_cc M) pc = .ok (.invokestatic idx, 3)) (ha0 : h a0 = some (k_ar n0 f)) (ha1 : h a = some (k_ar n1 g)) (h1 : ¬ sp < 0) (h2 : ¬ dp < 0) (h3 : ¬ n < 0) (h4 : sp.toNatClampNeg + n.toNatClampNeg ≤ n0) (h5 : dp.toNatClampNeg + n.toNatClampNeg ≤ n1)
    (hfr : 1 ≤ R.frames) (hlo : (st.map fun v => v.category).sum + 18 ≤ R.locals)
    (k : q_X G M R F (pc + 3) lv st (va_up h a (some (k_ar n1 (va_cpy f g sp.toNatClampNeg dp.toNatClampNeg n.toNatClampNeg)))) cells slots) : q_X G M R F pc lv (.int n :: .int dp :: .ref a :: .int sp :: .ref a0 :: st) h cells slots := by
  intro p e s m args below meth c H locs ls C0 hP hS hl
  obtain ⟨hx, hb, hml, hown, hts, -, -, -, hW, hS0, -, hG⟩ := id C0
  have hK := va_K.moved hW.alike hG.1
  have nn : ∀ z : Int32, ¬ z < 0 → z.toInt = (z.toNatClampNeg : Int) := by
    intro z hz
    have hz0 : (0 : Int) ≤ z.toInt := by
      have := Int32.not_lt.mp hz
      simpa using Int32.le_iff_toInt_le.mp this
    show z.toInt = ((z.toInt.toNat : Nat) : Int)
    omega
  intro T hT X
  have hc0 : H[a0]? = some (vp_cell (q_cI G) (n0, .inl f)) := (hP.1 a0 _ ha0).1
  have hc1 : H[a]? = some (vp_cell (q_cI G) (n1, .inl g)) := (hP.1 a _ ha1).1
  have hA := (hP.1 a _ ha1).2
  obtain ⟨-, k0, hk0, cm0, hkk0⟩ := (hK.2 0 _ rfl).1 n0 (fun j => .int (f j))
  obtain ⟨-, k1, hk1, cm1, hkk1⟩ := (hK.2 0 _ rfl).1 n1 (fun j => .int (g j))
  obtain ⟨vm', X', step⟩ := X.arraycopy hx hown (hts _ w1) (hts _ w2) (hts _ w3) (hts _ w4) (src := a0) (dst := a) (cs := vp_cell (q_cI G) (n0, .inl f)) (cd := vp_cell (q_cI G) (n1, .inl g)) (srcPos := sp) (destPos := dp) (n := n) (by rw [hT]; exact hc0) (by rw [hT]; exact hc1)
    (fun _ z => by cases z) (fun _ z => by cases z) (fun z => by cases z) (fun z => by cases z) hk0 hk1 hkk0 hkk1 rfl h1 h2 h3
    (by rw [nn sp h1, nn n h3]; show ¬ _ > ((arrV (q_cI G) n0 (fun j => .int (f j))).slots.size : Int); rw [arrV_size]; omega)
    (by rw [nn dp h2, nn n h3]; show ¬ _ > ((arrV (q_cI G) n1 (fun j => .int (g j))).slots.size : Int); rw [arrV_size]; omega)
    (fun vm₁ _ i hi => by
      have e : (vp_cell (q_cI G) (n0, .inl f)).slots.getD (sp.toNatClampNeg + i) .null = .int (f (sp.toNatClampNeg + i)) := by
        show (arrV (q_cI G) n0 (fun j => .int (f j))).slots.getD _ _ = _
        rw [Array.getD_eq_getD_getElem?, arrV_read _ _ (by omega)]
        rfl
      refine ⟨?_, ?_⟩
      · rw [e]
        rfl
      · rw [e]
        exact trivial)
    (g := F0 m pc ls (.int n :: .int dp :: .ref a :: .int sp :: .ref a0 :: st)) rfl (by rw [hml]; exact hl.1) (rest := st) rfl (by rw [hb]; exact hd) hfr (by show 2 * 0 + _ + (5 + 2 + 11) ≤ _; omega)
  have e1 : copied (vp_cell (q_cI G) (n0, .inl f)) (vp_cell (q_cI G) (n1, .inl g)) sp dp n = vp_cell (q_cI G) (n1, .inl (va_cpy f g sp.toNatClampNeg dp.toNatClampNeg n.toNatClampNeg)) := va_copied (fun z => .int z) (q_cI G) (q_cI G) f g h4
  rw [e1] at X' step
  have hlt : a < H.size := (Array.getElem?_eq_some_iff.mp hc1).1
  have hheap : ((T.setVm vm').setCell a (vp_cell (q_cI G) (n1, .inl (va_cpy f g sp.toNatClampNeg dp.toNatClampNeg n.toNatClampNeg)))).heap = H.setIfInBounds a (vp_cell (q_cI G) (n1, .inl (va_cpy f g sp.toNatClampNeg dp.toNatClampNeg n.toNatClampNeg))) := by rw [← hT]; rfl
  have oq : ∀ q : Nat, q ≠ a → (H.setIfInBounds a (vp_cell (q_cI G) (n1, .inl (va_cpy f g sp.toNatClampNeg dp.toNatClampNeg n.toNatClampNeg))))[q]? = H[q]? := fun q hq => by simp [Array.getElem?_setIfInBounds, Ne.symm hq]
  obtain ⟨t, a1, b1⟩ := k p e s m args below meth c _ _ ls C0 (hP.put ha1 (by simp) oq (show (H.setIfInBounds a _)[a]? = some _ by simp [Array.getElem?_setIfInBounds, hlt])) ⟨by simp; exact hS.1, fun q g1 g2 => by
      rw [oq q (fun z => g2 (by rw [z]; exact hA))]
      exact hS.2.1 q g1 g2, fun q hq => by
      rcases List.mem_append.mp hq with z | z
      · exact hS.2.2 q z
      · obtain ⟨y, -, hy⟩ := List.mem_map.mp z
        rw [← hy]
        exact hA⟩ hl _ hheap X'
  exact ⟨t, step t a1, b1⟩
/-- throw new E() -/
theorem x_throw {cls : String} {ik ic : Nat} (hcls : Bundle.fit cls = true) (w1 : Cond.classLink (q_y M).cls ik cls ∈ q_TB) (w2 : Cond.initialized cls ∈ q_TB) (hat : ∀ w ∈ vx_at0 (q_y M).cls ic cls ["java/lang/RuntimeException", "java/lang/Exception"], w ∈ lw_tbl ∧ (goodWord w || (w.onTables && w.keepsFace)) = true)
    (d0 : decode (q_cc M) pc = .ok (.new ik, 3)) (d3 : decode (q_cc M) (pc + 3) = .ok (.dup, 1)) (d4 : decode (q_cc M) (pc + 4) = .ok (.invokespecial ic, 3)) (d7 : decode (q_cc M) (pc + 7) = .ok (.athrow, 1)) (hh : q_hh M = [])
    (hfr : 5 < R.frames) (hlo : (st.map fun v => v.category).sum + 81 ≤ R.locals) (hRc : cells + 1 ≤ R.cells) (hRs : slots + 6 ≤ R.slots) (hc : cells + 1 ≤ mc) (hs : slots + 6 ≤ ms) (hQ : QX cls h) : q_X G M R (q_FX G Q QX mc ms) pc lv st h cells slots := by
  intro p e s m args below meth c H locs ls C0 hP hS hl
  obtain ⟨hx, hb, hml, hown, hts, -, hlocks, -, hW, hS0, htab, hG⟩ := id C0
  refine vx_throw0 (A := q_A G) (names := ["java/lang/RuntimeException", "java/lang/Exception"]) (ic := ic) hx hb hG.2.2.2.2.2.2.1 hown hcls (by decide) (hts _ w1) (hts _ w2) (fun w hw => ?_) (fun w hw => ?_) ((hG.2.2.2.2.1.moved hW.alike).kept hS0.2.1) ((hG.2.2.2.2.2.1.moved hW.alike).kept hS0.2.1) hS (hl.1.trans hml.symm) d0 d3 d4 d7 (fun x hx => by rw [htab, hh] at hx; cases hx) hfr (by show _ + (13 * (2 + 1) + 42) ≤ _; omega) hRc hRs hlocks (fun t ht hz hk => ?_) hS.2.2 hc hs
  · obtain ⟨hin, hg⟩ := hat w hw
    rcases Bool.or_eq_true _ _ ▸ hg with hg | hg
    · exact hts w (List.mem_filter.mpr ⟨hin, hg⟩)
    · have hg2 := hg
      rw [Bool.and_eq_true] at hg
      exact q_warmC hg.1 hg.2 hW (hG.2.2.2.2.2.2.2.2.2.2.2.2.2 w (List.mem_filter.mpr ⟨hin, hg2⟩))
  · show (w.onTables || goodWord w) = true
    rcases List.mem_cons.mp hw with rfl | hw
    · rfl
    · rcases List.mem_cons.mp hw with rfl | hw
      · rfl
      · obtain ⟨hin, hg⟩ := hat w hw
        rw [Bool.or_eq_true] at hg ⊢
        rcases hg with hg | hg
        · exact Or.inr hg
        · rw [Bool.and_eq_true] at hg
          exact Or.inl hg.1
  · refine ⟨h, hQ, ⟨fun a x ha => ⟨(hP.1 a x ha).1.kept (hk a (hP.lt ha)), (hP.1 a x ha).2⟩, Nat.le_trans hP.2.1 hz, fun q h1 h2 => ?_, fun l hl => by cases hl⟩, Nat.le_trans hS.1 hz⟩
    rw [hk q (Nat.lt_of_lt_of_le h1 hP.2.1)]
    exact hP.2.2.1 q h1 h2
end QJdk
theorem tw_at_IAE : ∀ w ∈ vx_at0 RX6 59 "java/lang/IllegalArgumentException" ["java/lang/RuntimeException", "java/lang/Exception"], w ∈ lw_tbl ∧ (goodWord w || (w.onTables && w.keepsFace)) = true := by decide +kernel
theorem tw_at_ISE : ∀ w ∈ vx_at0 RX6 62 "java/lang/IllegalStateException" ["java/lang/RuntimeException", "java/lang/Exception"], w ∈ lw_tbl ∧ (goodWord w || (w.onTables && w.keepsFace)) = true := by decide +kernel
theorem tw_at_IOB : ∀ w ∈ vx_at0 RX6 88 "java/lang/IndexOutOfBoundsException" ["java/lang/RuntimeException", "java/lang/Exception"], w ∈ lw_tbl ∧ (goodWord w || (w.onTables && w.keepsFace)) = true := by decide +kernel
theorem tw_at_NSE : ∀ w ∈ vx_at0 RX6 100 "java/util/NoSuchElementException" ["java/lang/RuntimeException", "java/lang/Exception"], w ∈ lw_tbl ∧ (goodWord w || (w.onTables && w.keepsFace)) = true := by decide +kernel
