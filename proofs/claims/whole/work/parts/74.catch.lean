/-! a throw that is caught in the method itself; methods with tables -/
section CatA
variable {e : Env} {S : State} {f : JFrame} {a : Addr}
/-- a row of the table that covers the place: its class is found; its handler, or the next row -/
theorem c_row {x : ExceptionTableEntry} {t : List ExceptionTableEntry} {k : ClassId} {ce : Cell} (hx : covers x f.pc = true) (h0 : x.catchType ≠ 0) (hl : S.vm.ClassLinks e.platform f.method.cls x.catchType k) (hc : S.heap[a]? = some ce) (ho : ∀ j, ce.vm ≠ .statics j) (h1 : ∃ z, S.vm.classes[ce.cls]? = some z) (h2 : ∃ z, S.vm.classes[k]? = some z) (Q : Handler → Pre) (E : CtlPost) (d : Bool) (acts : List Action) :
    Sem.wp (findHandler.go f a (x :: t)) Q E e d acts S ↔ if S.vm.assignable ce.cls k = true then Q (.found x.handlerPc) d acts (S.setVm (S.vm.noted f.method.cls x.catchType (.cls k))) else Sem.wp (findHandler.go f a t) Q E e d acts (S.setVm (S.vm.noted f.method.cls x.catchType (.cls k))) := by
  simp only [covers] at hx
  have hal : S.vm.Alike (S.vm.noted f.method.cls x.catchType (.cls k)) := (Vm.Alike.refl S.vm).noted _ _ _
  obtain ⟨z1, e1⟩ := h1
  obtain ⟨z2, e2⟩ := h2
  obtain ⟨y1, u1, -⟩ := hal.2.2 _ _ e1
  obtain ⟨y2, u2, -⟩ := hal.2.2 _ _ e2
  obtain ⟨r1, r2⟩ := (resolveClass_links e.toSetting hl).op (op := VmOp.resolveClass f.method.cls x.catchType) rfl
  have ha : (S.vm.noted f.method.cls x.catchType (.cls k)).assignable ce.cls k = S.vm.assignable ce.cls k := hal.assignable ..
  cases hb : S.vm.assignable ce.cls k with
  | true => simp [findHandler.go, hx, h0, r1, r2, hc, ho, u1, u2, ha, hb, VmOp.dirties, VmOp.acts]
  | false => simp [findHandler.go, hx, h0, r1, r2, hc, ho, u1, u2, ha, hb, VmOp.dirties, VmOp.acts]
/-- into the handler -/
theorem c_step {vm' : Vm} {pc : Nat} {r : List Frame} (hf : ∀ (Q : Handler → Pre) (E : CtlPost) (d : Bool) (acts : List Action), Sem.wp (findHandler f a) Q E e d acts S ↔ Q (.found pc) d acts (S.setVm vm')) :
    (stepThrowing e S a (.java f :: r)).1 = (S.setVm vm').setFrames (.java { f with pc := pc, stack := [.ref a] } :: r) := by
  simp only [stepThrowing, searchFrame, vmDo]
  generalize hr : Sem.go _ e false [] S = res
  obtain ⟨x, s', as, hgo, h1, h2⟩ := First.eq_ok_of' (P := fun x s' => x = Handler.found pc ∧ s' = S.setVm vm') hr (by simp [hf _ _ _ _])
  subst h1
  subst h2
  rw [hgo]
/-- where a throw of a class E goes on: behind rows that don't take it, one that does -/
def c_at (own : String) (tbl : List ExceptionTableEntry) (pc : Nat) (E : String) (s : State) (hp : Nat) : Prop :=
  ∃ pre x suf, tbl = pre ++ x :: suf ∧ covers x pc = true ∧ x.catchType ≠ 0 ∧ x.handlerPc = hp ∧ (∃ nm : String, (∀ args, (Cond.classLink own x.catchType nm).before args s = true) ∧ ∀ args, (Cond.castable E nm).before args s = true) ∧ ∀ z ∈ pre, covers z pc = true ∧ z.catchType ≠ 0 ∧ ∃ nm : String, (∀ args, (Cond.classLink own z.catchType nm).before args s = true) ∧ va_Nc E nm s
end CatA
section CatB
variable {p : Program} {l : Launch} {e : Env} {R : Room} {s : State} {m : MethodId} {args : Array Value} {below : List Frame} {meth : Method} {c : Code} {T : State} {locs : List Loc} {cells slots : Nat}
theorem c_into (X : Stand p l e R s m args below meth c T locs cells slots) {g : JFrame} (hg : g.method = m) {a : Addr} {pc : Nat} {vm' : Vm} (hf : ∀ (Q : Handler → Pre) (E : CtlPost) (d : Bool) (acts : List Action), Sem.wp (findHandler g a) Q E e d acts ((T.setTop g).pushFrame (.throwing a)) ↔ Q (.found pc) d acts (((T.setTop g).pushFrame (.throwing a)).setVm vm')) :
    Steps p.tables e below ((T.setTop g).pushFrame (.throwing a)) ((T.setVm vm').setTop { g with pc := pc, stack := [.ref a] }) := by
  have h : At T g.method c below := by rw [hg]; exact X.here
  obtain ⟨hgo, hw⟩ := h.throwing a
  refine Steps.head hgo hw ?_
  rw [stepThread_throwing (frames_entered h.top _), c_step hf]
  obtain ⟨g₀, hg0⟩ := Option.isSome_iff_exists.mp h.top
  obtain ⟨r, hr⟩ := State.topJava?_eq_some.mp hg0
  have hr2 : (T.setVm vm').frames = .java g₀ :: r := hr
  rw [State.setTop_of_frames _ hr2, State.pushFrame, State.setTop_of_frames _ hr, First.setVm_setFrames, First.setVm_setFrames, hr]
  exact Steps.refl _
theorem c_search {f : JFrame} {a : Addr} {ce : Cell} {own E : String} {x : ExceptionTableEntry} {suf : List ExceptionTableEntry} {nm : String} (hpl : e.platform.magicAccessors = ({} : Platform).magicAccessors) (hown : s.vm.findClass own = some f.method.cls) (ho : ∀ j, ce.vm ≠ .statics j) (hcl : s.vm.findClass E = some ce.cls) (hx : covers x f.pc = true) (h0 : x.catchType ≠ 0) (hl : (Cond.classLink own x.catchType nm).before args s = true) (hca : (Cond.castable E nm).before args s = true) :
    ∀ (pre : List ExceptionTableEntry) (S : State), s.WarmedH S.vm → S.heap[a]? = some ce → (∀ z ∈ pre, covers z f.pc = true ∧ z.catchType ≠ 0 ∧ ∃ nm : String, (Cond.classLink own z.catchType nm).before args s = true ∧ va_Nc E nm s) →
      ∃ vm', s.WarmedH vm' ∧ ∀ (Q : Handler → Pre) (K : CtlPost) (d : Bool) (acts : List Action), Sem.wp (findHandler.go f a (pre ++ x :: suf)) Q K e d acts S ↔ Q (.found x.handlerPc) d acts (S.setVm vm') := by
  obtain ⟨k0, hk0, -⟩ := Vm.findClass_spec hcl
  intro pre
  induction pre with
  | nil =>
    intro S hW hc _
    obtain ⟨c3, c4, hc3, hc4, has⟩ := Cond.castable_spec hca
    cases Option.some.inj (hc3.symm.trans hcl)
    obtain ⟨c5, hc5, hl5⟩ := Cond.classLink_spec hown hl e.platform hpl
    cases Option.some.inj (hc4.symm.trans hc5)
    obtain ⟨dk, _, _, kt, hd, _, _, _, _, hkt, _, hopen⟩ := hl5.here
    obtain ⟨k1, hk1, -⟩ := hW.alike.2.2 _ _ hk0
    obtain ⟨k2, hk2, -⟩ := hW.alike.2.2 _ _ hkt
    refine ⟨_, hW.noted hd hopen (State.rightAt_cls hl5), fun Q K d acts => ?_⟩
    rw [List.nil_append, c_row hx h0 (hW.classLinks hl5) hc ho ⟨k1, hk1⟩ ⟨k2, hk2⟩, if_pos (by rw [hW.alike.assignable]; exact has)]
  | cons z zs ih =>
    intro S hW hc hp
    obtain ⟨z1, z2, nm, z3, a8, b8, n1, n2, n3⟩ := hp z List.mem_cons_self
    cases Option.some.inj (n1.symm.trans hcl)
    obtain ⟨c5, hc5, hl5⟩ := Cond.classLink_spec hown z3 e.platform hpl
    cases Option.some.inj (n2.symm.trans hc5)
    obtain ⟨dk, _, _, kt, hd, _, _, _, _, hkt, _, hopen⟩ := hl5.here
    obtain ⟨k1, hk1, -⟩ := hW.alike.2.2 _ _ hk0
    obtain ⟨k2, hk2, -⟩ := hW.alike.2.2 _ _ hkt
    obtain ⟨vm', hW', hq⟩ := ih (S.setVm (S.vm.noted f.method.cls z.catchType (.cls _))) (hW.noted hd hopen (State.rightAt_cls hl5)) hc (fun y hy => hp y (List.mem_cons_of_mem _ hy))
    refine ⟨vm', hW', fun Q K d acts => ?_⟩
    rw [List.cons_append, c_row z1 z2 (hW.classLinks hl5) hc ho ⟨k1, hk1⟩ ⟨k2, hk2⟩, if_neg (by rw [hW.alike.assignable, n3]; decide)]
    exact hq Q K d acts
theorem c_caught (X : Stand p l e R s m args below meth c T locs cells slots) {g : JFrame} (hg : g.method = m) {a : Addr} {ce : Cell} {own E : String} {hp : Nat} (hown : s.vm.findClass own = some m.cls) (hc : T.heap[a]? = some ce) (hv : ce.vm = .none) (hcl : s.vm.findClass E = some ce.cls) (ha : c_at own c.exceptionTable.toList g.pc E s hp) :
    ∃ vm', Stand p l e R s m args below meth c (T.setVm vm') locs cells slots ∧ Steps p.tables e below ((T.setTop g).pushFrame (.throwing a)) ((T.setVm vm').setTop { g with pc := hp, stack := [.ref a] }) := by
  subst hg
  obtain ⟨pre, x, suf, ht, hx, h0, rfl, ⟨nm, hl, hca⟩, hpass⟩ := ha
  have hpl : e.platform.magicAccessors = ({} : Platform).magicAccessors := by rw [X.admits.platform]
  obtain ⟨vm', hW', hq⟩ := c_search (e := e) (args := args) (s := s) (f := g) (a := a) (suf := suf) hpl hown (fun j hj => by rw [hv] at hj; cases hj) hcl hx h0 (hl args) (hca args) pre ((T.setTop g).pushFrame (.throwing a)) X.warmed hc (fun z hz => ⟨(hpass z hz).1, (hpass z hz).2.1, (hpass z hz).2.2.choose, (hpass z hz).2.2.choose_spec.1 args, (hpass z hz).2.2.choose_spec.2⟩)
  refine ⟨vm', X.noted hW', c_into X rfl (fun Q K d acts => ?_)⟩
  rw [W.findHandler_eq (s := (T.setTop g).pushFrame (.throwing a)) X.method' X.code, ht]
  exact hq Q K d acts
end CatB
section CatC
variable {G : q_G} {M M' : q_M} {R : Room} {F : q_F} {pc : Nat} {lv : List (Nat × Value)} {st : List Value} {h : q_H} {cells slots mc ms : Nat} {Q : q_Q} {QX : String → q_H → Prop}
/-- where a throw of a class E is caught in M -/
def q_cat (G : q_G) (M : q_M) (pc : Nat) (E : String) (hp : Nat) : Prop :=
  ∃ pre x suf, tableOf (q_hh M) = pre ++ x :: suf ∧ covers x pc = true ∧ x.catchType ≠ 0 ∧ x.handlerPc = hp ∧ (∃ nm : String, Cond.classLink (q_y M).cls x.catchType nm ∈ q_TB ∧ Cond.castable E nm ∈ q_TC) ∧ ∀ z ∈ pre, covers z pc = true ∧ z.catchType ≠ 0 ∧ ∃ nm : String, Cond.classLink (q_y M).cls z.catchType nm ∈ q_TB ∧ va_Nc E nm (q_s G)
/-- invokevirtual of a method of our own that may throw, and the throw is caught here -/
theorem x_callC {idx n a ci N : Nat} {C : String} {T : u_T} {fs : List Value} (As : List Value) (hs : q_SX G M' (.ref a :: As) h mc ms Q QX) (hd : decode (q_cc M) pc = .ok (.invokevirtual idx, 3))
    (w1 : Cond.methodLink (q_y M).cls idx (q_y M') ∈ q_TB) (w2 : Cond.instanceMethod (q_y M') ∈ q_TB) (w3 : Cond.selects C (q_y M') (q_y M') ∈ q_TB) (w4 : Cond.initialized C ∈ q_TB) (w5 : q_hd M' ∈ q_TB)
    (hn : As.length = n) (hy : (q_y M').cls = C ∧ (q_y M').cls ≠ "java/lang/invoke/MethodHandle" ∧ (q_y M').cls ≠ "java/lang/invoke/VarHandle" ∧ (parseMethodDescriptor (q_y M').desc).map (fun d => d.parameters.length) = some n)
    (hR : q_fr M' + 1 ≤ R.frames ∧ 8 + (q_nL M' + 11) + q_lo M' ≤ R.locals) (hc : vwCl[ci]? = some (C, T, N)) (ha : h a = some (k_ob ci fs)) (hst : (st.map fun v => v.category).sum ≤ 8) (hf : cells + mc ≤ R.cells ∧ slots + ms ≤ R.slots)
    (kk : ∀ (r : Option Value) (h' : q_H), Q r h' → q_X G M R F (pc + 3) lv (r.toList ++ st) h' (cells + mc) (slots + ms))
    (kx : q_ok G → ∀ (E : String) (h' : q_H), QX E h' → ∃ hp, q_cat G M pc E hp ∧ ∀ q : Nat, q_X G M R F hp lv [.ref q] h' (cells + mc) (slots + ms)) : q_X G M R F pc lv (As.reverse ++ .ref a :: st) h cells slots := by
  intro p e s m args below meth c H locs ls C0 hP hS hl
  obtain ⟨hx, hb, hml, hown, hts, -, -, -, hW0, hS0, htab, hG⟩ := id C0
  obtain ⟨hyC, hy1, hy2, hy3⟩ := hy
  have cw : CallW R s args (q_y M).cls C idx (q_y M') (q_cc M') (q_nL M') (q_ret M') (q_ws M') (q_R M' mc ms) mc ms n :=
    ⟨⟨rfl, rfl, hR.1, hR.2, q_paid C0 w5, List.mem_cons_self, hts _ w5, by rw [hyC]; exact hts _ w4, ⟨hy1, hy2⟩, fun sig hsg => by rw [hsg] at hy3; exact (Option.some.inj hy3).symm, hts _ w1⟩, hts _ w2, hts _ w3⟩
  have hr := vx_runV (p := p) (e := e) (below := below) (meth := meth) (locs := locs) (g := F0 m pc ls (As.reverse ++ .ref a :: st)) (As := As) (rest := st) ⟨hx, hb, hml, hown, hts⟩ hs cw ⟨q_blind, q_recv C0 hP hc ha, q_pre C0 hP⟩ rfl hn hl.1 rfl (lv_room hst) hd hf
  intro T1 hT X
  have hS2 : ∀ (h' : q_H) (st₀ t T' : State) (L : List Loc), st₀.heap = H → T'.heap = t.heap → (∀ q ∈ L, q_A G q.base) → q_P G h' t.heap → st₀.heap.size ≤ t.heap.size → va_S (q_A G) s.heap T'.heap (locs ++ L) := by
    intro h' st₀ t T' L h0 e1 hL hP' hsz
    refine ⟨Nat.le_trans hS.1 (by rw [e1, ← h0]; exact hsz), fun q h1 h2 => ?_, fun z hz => ?_⟩
    · have hq : q < (q_s G).heap.size := Nat.lt_of_not_le h2
      rw [e1, hP'.2.2.1 q hq h2, hS0.2.1 q hq h2]
    · rcases List.mem_append.mp hz with hz | hz
      · exact hS.2.2 z hz
      · exact hL z hz
  rcases hr T1 hT X with ⟨v, st₀, t, T', L, h0, X', hL, e1, e2, ⟨r, h', hv, hQ, hP', hsz⟩, stp⟩ | ⟨q, st₀, t, T', L, E, ce, h0, X', hL, e1, e2, ⟨h', hQ, hP', hsz⟩, hce, hcv, hcl, stp⟩
  · cases hv
    have hP2 : q_P G h' T'.heap := by rw [e1]; exact hP'
    obtain ⟨t2, a1, b1⟩ := kk v h' hQ p e s m args below meth c T'.heap (locs ++ L) ls C0 hP2 (hS2 h' st₀ t T' L h0 e1 hL hP' hsz) hl T' rfl X'
    exact ⟨t2, stp t2 a1, b1⟩
  · have hP2 : q_P G h' T'.heap := by rw [e1]; exact hP'
    obtain ⟨hp, ⟨pre, x, suf, y1, y2, y3, y4, ⟨nm, y5, y6⟩, y7⟩, kq⟩ := kx hG E h' hQ
    have good : ∀ w ∈ q_TB, ∀ a' : Array Value, w.before a' s = true := fun w hw a' => pay_in hts (fun w hw => ⟨hw, good_of_word (List.mem_filter.mp hw).2⟩) w hw a' s (State.WarmedH.refl s)
    have hat : c_at (q_y M).cls c.exceptionTable.toList (F0 m pc ls st).pc E s hp :=
      ⟨pre, x, suf, by rw [htab]; exact y1, y2, y3, y4, ⟨nm, good _ y5, fun a' => q_warmC rfl rfl hW0 (hG.2.2.2.2.2.2.2.2.2.2.2.2.2 _ y6)⟩, fun z hz => ⟨(y7 z hz).1, (y7 z hz).2.1, (y7 z hz).2.2.choose, good _ (y7 z hz).2.2.choose_spec.1, (y7 z hz).2.2.choose_spec.2.moved hW0.alike⟩⟩
    obtain ⟨vm', X2, st2⟩ := c_caught X' (g := F0 m pc ls st) rfl hown (by rw [e1]; exact hce) hcv hcl hat
    obtain ⟨t2, a1, b1⟩ := kq q p e s m args below meth c T'.heap (locs ++ L) ls C0 hP2 (hS2 h' st₀ t T' L h0 e1 hL hP' hsz) hl (T'.setVm vm') rfl X2
    exact ⟨t2, (stp.trans st2).trans a1, b1⟩
/-- the contract of a method with a table -/
def q_SW (G : q_G) (M : q_M) (as : List Value) (h : q_H) (mc ms : Nat) (Q : q_Q) : Prop :=
  Met (q_l G) (q_y M) (q_wsH M) (q_R M mc ms) (q_Pc G as h) (q_Qc G Q) mc ms (q_A G)
theorem q_enterW {as : List Value} (hy : plainName (q_y M).cls = true) (hlen : (lg_sl as).length ≤ q_nL M) (body : q_X G M (q_R M mc ms) (q_FN G Q mc ms) 0 (lv_args 0 as) [] h 0 0) : q_SW G M as h mc ms Q := by
  have key : vx_Met (q_l G) (q_y M) (q_wsH M) (q_R M mc ms) (q_Pc G as h) (q_Qc G Q) (fun _ _ _ => False) mc ms (q_A G) := by
    refine vx_ofWH (cc := q_cc M) (maxL := q_nL M) (ret := q_ret M) (hh := q_hh M) (ws' := q_TB) hy rfl ?_
    intro p e s m args below meth c s₁ B hml hv
    obtain ⟨rfl, hW, hP, hG⟩ := hv
    have hts := atoms_spec (ws := q_wsH M) B.pre
    have hin := (name_of_methodNamed B.named B.method).1
    have hl := lv_entry as (n := q_nL M) hlen
    rw [lg_entry_eq]
    exact vx_ret (body p e s m as.toArray below meth c s.heap [] _ ⟨B.exec, B.bytes, hml, findClass_of_methodNamed B.named, fun w hw => hts w (List.mem_cons_of_mem _ hw), B.returns, B.notSynchronized, hin, hW, hP.2, vx_table (x := q_y M) B (hts _ List.mem_cons_self), hG⟩ hP va_S.rf hl)
  intro p e ha hc hk s m args below hf hsp hP hK
  obtain ⟨n, o, h1, h2, h3, h4⟩ := key p e ha hc hk s m args below hf hsp hP hK
  refine ⟨n, o, h1, h2, h3, ?_⟩
  rcases h4 with h4 | ⟨q, -, E, ce, L, hF, -⟩
  · exact h4
  · exact hF.elim
/-- invokestatic of a method with a table -/
theorem x_callW {idx n : Nat} (As : List Value) (hs : q_SW G M' As h mc ms Q) (hd : decode (q_cc M) pc = .ok (.invokestatic idx, 3))
    (w1 : Cond.methodLink (q_y M).cls idx (q_y M') ∈ q_TB) (w2 : Cond.static (q_y M') ∈ q_TB) (w4 : Cond.initialized (q_y M').cls ∈ q_TB) (w5 : Cond.codeWith (q_y M') (q_cc M') (q_nL M') (q_ret M') (q_hh M') ∈ q_TB)
    (hn : As.length = n) (hy : (q_y M').cls ≠ "java/lang/invoke/MethodHandle" ∧ (q_y M').cls ≠ "java/lang/invoke/VarHandle" ∧ (parseMethodDescriptor (q_y M').desc).map (fun d => d.parameters.length) = some n)
    (hR : q_fr M' + 1 ≤ R.frames ∧ 8 + (q_nL M' + 11) + q_lo M' ≤ R.locals) (hst : (st.map fun v => v.category).sum ≤ 8) (hf : cells + mc ≤ R.cells ∧ slots + ms ≤ R.slots)
    (kk : ∀ (r : Option Value) (h' : q_H), Q r h' → q_X G M R F (pc + 3) lv (r.toList ++ st) h' (cells + mc) (slots + ms)) : q_X G M R F pc lv (As.reverse ++ st) h cells slots := by
  intro p e s m args below meth c H locs ls C0 hP hS hl
  obtain ⟨hx, hb, hml, hown, hts, -⟩ := id C0
  obtain ⟨hy1, hy2, hy3⟩ := hy
  have hpaid : ∀ w ∈ q_wsH M', ∀ (a' : Array Value) (U : State), s.WarmedH U.vm → w.before a' U = true := by
    have hGd : GoodIn q_TB (q_wsH M') := by
      intro w hw
      have hin : w ∈ q_TB := by
        rcases List.mem_cons.mp hw with rfl | hw
        · exact w5
        · exact hw
      exact ⟨hin, good_of_word (List.mem_filter.mp hin).2⟩
    exact pay_in hts hGd
  have cw : vx_CSW R s args (q_y M).cls idx (q_y M') (q_cc M') (q_nL M') (q_ret M') (q_hh M') (q_wsH M') (q_R M' mc ms) mc ms n :=
    ⟨⟨rfl, rfl, hR.1, hR.2, hpaid, List.mem_cons_self⟩, hts _ w5, hts _ w4, ⟨hy1, hy2⟩, fun sig hsg => by rw [hsg] at hy3; exact (Option.some.inj hy3).symm, hts _ w1, hts _ w2⟩
  exact q_ofRun (vx_runSW (As := As) (rest := st) ⟨hx, hb, hml, hown, hts⟩ hs cw ⟨q_blind, q_pre C0 hP⟩ rfl hn hl.1 rfl (lv_room hst) hd hf) C0 hS hl kk
end CatC
