/-! THE PACKED JUDGEMENT: a heap as a partial map, a method's body as q_X, a method's contract as q_SP -/
section QBase
abbrev q_C : Type := vp_A ⊕ (Nat × List Value)
abbrev q_H : Type := Nat → Option q_C
abbrev k_ar (N : Nat) (f : Nat → Int32) : q_C := .inl (N, .inl f)
abbrev k_al (N : Nat) (f : Nat → Int64) : q_C := .inl (N, .inr (.inl f))
abbrev k_ob (ci : Nat) (fs : List Value) : q_C := .inr (ci, fs)
def q_E (cI cL : ClassId) (e : q_C) : va_E := match e with
  | .inl (n, .inl f) => .inl (cI, n, .inl f)
  | .inl (n, .inr x) => .inl (cL, n, .inr x)
  | .inr o => .inr o
/-- launch and start; class numbers and slots; the classes int[] and long[]; the String constants and their rows; the script -/
abbrev q_G : Type := (Launch × State) × va_G × (ClassId × ClassId) × ((Nat → Nat) × (Nat → Nat)) × (Nat × Nat × (Nat → Int32))
abbrev q_l (G : q_G) : Launch := G.1.1
abbrev q_s (G : q_G) : State := G.1.2
abbrev q_D (G : q_G) : va_G := G.2.1
abbrev q_cI (G : q_G) : ClassId := G.2.2.1.1
abbrev q_cL (G : q_G) : ClassId := G.2.2.1.2
abbrev q_aK (G : q_G) : Nat → Nat := G.2.2.2.1.1
abbrev q_aV (G : q_G) : Nat → Nat := G.2.2.2.1.2
abbrev q_b (G : q_G) : Nat := G.2.2.2.2.1
abbrev q_L (G : q_G) : Nat := G.2.2.2.2.2.1
abbrev q_xs (G : q_G) : Nat → Int32 := G.2.2.2.2.2.2
def q_A (G : q_G) : Nat → Prop := fun q => (q_s G).heap.size ≤ q
def q_tys (G : q_G) : List (ClassId × FieldType) := [(q_cI G, .int), (q_cL G, .long)]
/-- the String constants: class, entry, text -/
def q_str : List (String × Nat × String) := [(RX3, 72, "GET "), (RX3, 78, " HTTP/1.1"), (RX3, 107, "host"), (RX3, 109, "upgrade"), (RX3, 111, "connection"), (RX3, 113, "sec-websocket-key"), (RX3, 115, "sec-websocket-version"), (RX3, 129, "websocket"), (RX3, 137, "=="), (RX3, 51, "13"), (RX6, 168, "HTTP/1.1 101 Switching Protocols\r\nUpgrade: websocket\r\nConnection: Upgrade\r\nSec-WebSocket-Accept: "), (RX2, 33, "258EAFA5-E914-47DA-95CA-C5AB0DC85B11"), (RX2, 89, "ABCDEFGHIJKLMNOPQRSTUVWXYZabcdefghijklmnopqrstuvwxyz0123456789+/"), (RX6, 181, "\r\n\r\n"), (RX6, 183, "HTTP/1.1 426 Upgrade Required\r\nSec-WebSocket-Version: 13\r\n\r\n"), (RX6, 185, "HTTP/1.1 400 Bad Request\r\n\r\n")]
def q_len : List Nat := [4, 9, 4, 7, 10, 17, 21, 9, 2, 2, 97, 36, 64, 4, 60, 28]
def q_byt : List (List Int32) := [[71, 69, 84, 32], [32, 72, 84, 84, 80, 47, 49, 46, 49], [104, 111, 115, 116], [117, 112, 103, 114, 97, 100, 101], [99, 111, 110, 110, 101, 99, 116, 105, 111, 110], [115, 101, 99, 45, 119, 101, 98, 115, 111, 99, 107, 101, 116, 45, 107, 101, 121], [115, 101, 99, 45, 119, 101, 98, 115, 111, 99, 107, 101, 116, 45, 118, 101, 114, 115, 105, 111, 110], [119, 101, 98, 115, 111, 99, 107, 101, 116], [61, 61], [49, 51], [72, 84, 84, 80, 47, 49, 46, 49, 32, 49, 48, 49, 32, 83, 119, 105, 116, 99, 104, 105, 110, 103, 32, 80, 114, 111, 116, 111, 99, 111, 108, 115, 13, 10, 85, 112, 103, 114, 97, 100, 101, 58, 32, 119, 101, 98, 115, 111, 99, 107, 101, 116, 13, 10, 67, 111, 110, 110, 101, 99, 116, 105, 111, 110, 58, 32, 85, 112, 103, 114, 97, 100, 101, 13, 10, 83, 101, 99, 45, 87, 101, 98, 83, 111, 99, 107, 101, 116, 45, 65, 99, 99, 101, 112, 116, 58, 32], [50, 53, 56, 69, 65, 70, 65, 53, 45, 69, 57, 49, 52, 45, 52, 55, 68, 65, 45, 57, 53, 67, 65, 45, 67, 53, 65, 66, 48, 68, 67, 56, 53, 66, 49, 49], [65, 66, 67, 68, 69, 70, 71, 72, 73, 74, 75, 76, 77, 78, 79, 80, 81, 82, 83, 84, 85, 86, 87, 88, 89, 90, 97, 98, 99, 100, 101, 102, 103, 104, 105, 106, 107, 108, 109, 110, 111, 112, 113, 114, 115, 116, 117, 118, 119, 120, 121, 122, 48, 49, 50, 51, 52, 53, 54, 55, 56, 57, 43, 47], [13, 10, 13, 10], [72, 84, 84, 80, 47, 49, 46, 49, 32, 52, 50, 54, 32, 85, 112, 103, 114, 97, 100, 101, 32, 82, 101, 113, 117, 105, 114, 101, 100, 13, 10, 83, 101, 99, 45, 87, 101, 98, 83, 111, 99, 107, 101, 116, 45, 86, 101, 114, 115, 105, 111, 110, 58, 32, 49, 51, 13, 10, 13, 10], [72, 84, 84, 80, 47, 49, 46, 49, 32, 52, 48, 48, 32, 66, 97, 100, 32, 82, 101, 113, 117, 101, 115, 116, 13, 10, 13, 10]]
/-- words that the throws need beside the good ones -/
def q_TC : List Cond := lw_tbl.filter (fun w => w.onTables && w.keepsFace)
def q_ok (G : q_G) : Prop := va_K (q_D G) vwCl (q_tys G) (q_s G)
  ∧ vk_S 16 q_len q_byt (q_aK G) (q_aV G) (q_A G) (q_s G) (q_s G).heap
  ∧ (∀ (i : Nat) (z : String × Nat × String), q_str[i]? = some z → vk_R z.1 z.2.1 z.2.2 (q_aK G i) (q_s G))
  ∧ va_Z "java/lang/String" "COMPACT_STRINGS" "Z" (.int 1) (q_A G) (q_s G) (q_s G).heap
  ∧ vx_Zq Bundle.tN "UNASSIGNED_STACK" Bundle.steD (q_A G) (q_s G) (q_s G).heap
  ∧ vx_Zq Bundle.tN "SUPPRESSED_SENTINEL" Bundle.listD (q_A G) (q_s G) (q_s G).heap
  ∧ (q_l G).stackTraces = false
  ∧ (va_Nw (.methodLinkNest RX1 29 yX4_init RX6) (q_s G) ∧ va_Nw (.methodLinkNest RX6 44 yX4_init RX6) (q_s G) ∧ va_Nw (.methodLinkNest RX1 132 yX6_mayStandInClose RX6) (q_s G))
  ∧ va_X (q_b G) (q_L G) (q_xs G) (q_s G) (q_s G).heap ∧ q_b G < (q_s G).heap.size
  ∧ va_Zq "jdk/internal/util/Preconditions" "SIOOBE_FORMATTER" "Ljava/util/function/BiFunction;" (q_A G) (q_s G) (q_s G).heap
  ∧ va_Nc "java/lang/IllegalStateException" "java/lang/IllegalArgumentException" (q_s G) ∧ va_Nc "java/lang/IndexOutOfBoundsException" "java/util/NoSuchElementException" (q_s G)
  ∧ (∀ w ∈ q_TC, va_Nw w (q_s G))
/-- the heap H holds h; nothing below the start's end has changed -/
def q_P (G : q_G) (h : q_H) (H : Heap) : Prop := (∀ (a : Nat) (e : q_C), h a = some e → va_at (q_D G) vwCl (a, q_E (q_cI G) (q_cL G) e) H ∧ q_A G a) ∧ va_S (q_A G) (q_s G).heap H []
/-- the words that every method of ours is called with -/
def q_TB : List Cond := lw_tbl.filter goodWord
/-- a method: name, bytes, locals, answer, frames, words of locals below it, its table -/
abbrev q_M : Type := MethodName × ByteArray × Nat × Option FieldType × Nat × Nat × List (Nat × Nat × Nat × Nat)
abbrev q_y (M : q_M) : MethodName := M.1
abbrev q_cc (M : q_M) : ByteArray := M.2.1
abbrev q_nL (M : q_M) : Nat := M.2.2.1
abbrev q_ret (M : q_M) : Option FieldType := M.2.2.2.1
abbrev q_fr (M : q_M) : Nat := M.2.2.2.2.1
abbrev q_lo (M : q_M) : Nat := M.2.2.2.2.2.1
abbrev q_hh (M : q_M) : List (Nat × Nat × Nat × Nat) := M.2.2.2.2.2.2
abbrev q_hd (M : q_M) : Cond := .code (q_y M) (q_cc M) (q_nL M) (q_ret M)
abbrev q_ws (M : q_M) : List Cond := q_hd M :: q_TB
abbrev q_wsH (M : q_M) : List Cond := .codeWith (q_y M) (q_cc M) (q_nL M) (q_ret M) (q_hh M) :: q_TB
abbrev q_R (M : q_M) (mc ms : Nat) : Room := { frames := q_fr M, cells := mc, slots := ms, locals := q_lo M }
def q_X0 (G : q_G) (M : q_M) (p : Program) (s : State) (m : MethodId) (args : Array Value) (meth : Method) (c : Code) : Prop :=
  p.tables.exec = Jvm.exec ∧ c.code = q_cc M ∧ c.maxLocals = q_nL M ∧ s.vm.findClass (q_y M).cls = some m.cls ∧ (∀ w ∈ q_TB, w.before args s = true) ∧ meth.sig.returnType = q_ret M ∧ meth.locks = false ∧ meth.name = (q_y M).name
  ∧ (q_s G).WarmedH s.vm ∧ va_S (q_A G) (q_s G).heap s.heap [] ∧ c.exceptionTable.toList = tableOf (q_hh M) ∧ q_ok G
abbrev q_F : Type := State → Array Value → List Frame → State → Prop
def q_X (G : q_G) (M : q_M) (R : Room) (F : q_F) (pc : Nat) (lv : List (Nat × Value)) (st : List Value) (h : q_H) (cells slots : Nat) : Prop :=
  ∀ (p : Program) (e : Env) (s : State) (m : MethodId) (args : Array Value) (below : List Frame) (meth : Method) (c : Code) (H : Heap) (locs : List Loc) (ls : Array Slot),
    q_X0 G M p s m args meth c → q_P G h H → va_S (q_A G) s.heap H locs → lv_has ls (q_nL M) lv →
    W p (q_l G) e R s m args below meth c H locs cells slots (F s args below) (F0 m pc ls st)
abbrev q_Q : Type := Option Value → q_H → Prop
def q_Qc (G : q_G) (Q : q_Q) : Array Value → State → Outcome → State → Prop := fun _ st o t => ∃ (r : Option Value) (h' : q_H), o = .returned r ∧ Q r h' ∧ q_P G h' t.heap ∧ st.heap.size ≤ t.heap.size
def q_Xc (G : q_G) (QX : String → q_H → Prop) : String → State → State → Prop := fun E st t => ∃ h' : q_H, QX E h' ∧ q_P G h' t.heap ∧ st.heap.size ≤ t.heap.size
def q_Pc (G : q_G) (as : List Value) (h : q_H) : Array Value → State → Prop := fun a U => a = as.toArray ∧ (q_s G).WarmedH U.vm ∧ q_P G h U.heap ∧ q_ok G
/-- the final state of a body that returns -/
def q_FN (G : q_G) (Q : q_Q) (mc ms : Nat) : q_F := fun s args below => MQ below (q_Qc G Q) args s mc ms (q_A G)
/-- the final state of a body that returns or throws -/
def q_FX (G : q_G) (Q : q_Q) (QX : String → q_H → Prop) (mc ms : Nat) : q_F := fun s args below => vx_MQ below (q_Qc G Q) (q_Xc G QX) args s mc ms (q_A G)
/-- a method's contract: called with these arguments from the heap h, it returns and Q holds; at most mc cells of ms slots are new -/
def q_SP (G : q_G) (M : q_M) (as : List Value) (h : q_H) (mc ms : Nat) (Q : q_Q) : Prop :=
  Met (q_l G) (q_y M) (q_ws M) (q_R M mc ms) (q_Pc G as h) (q_Qc G Q) mc ms (q_A G)
/-- the same of one that may throw -/
def q_SX (G : q_G) (M : q_M) (as : List Value) (h : q_H) (mc ms : Nat) (Q : q_Q) (QX : String → q_H → Prop) : Prop :=
  vx_Met (q_l G) (q_y M) (q_ws M) (q_R M mc ms) (q_Pc G as h) (q_Qc G Q) (q_Xc G QX) mc ms (q_A G)
/-! locals -/
def q_get : List (Nat × Value) → Nat → Option Value
  | [], _ => none
  | q :: l, i => bif q.1 == i then some q.2 else q_get l i
def q_rep (i : Nat) (v : Value) : List (Nat × Value) → List (Nat × Value)
  | [] => []
  | q :: l => (bif q.1 == i then (i, v) else q) :: q_rep i v l
def q_in (i : Nat) : List (Nat × Value) → Bool
  | [] => false
  | q :: l => bif q.1 == i then true else q_in i l
def q_set (l : List (Nat × Value)) (i : Nat) (v : Value) : List (Nat × Value) := bif q_in i l then q_rep i v l else l ++ [(i, v)]
def q_fit1 (i : Nat) : List (Nat × Value) → Bool
  | [] => true
  | q :: l => !(q.1 + 1 == i && q.2.category == 2) && q_fit1 i l
def q_fit2 (i : Nat) : List (Nat × Value) → Bool
  | [] => true
  | q :: l => !(q.1 + 1 == i && q.2.category == 2) && !(q.1 == i + 1) && q_fit2 i l
theorem q_get_at {ls : Array Slot} {nL i : Nat} {lv : List (Nat × Value)} {v : Value} (hl : lv_has ls nL lv) (h : q_get lv i = some v) : ls[i]? = some (.val v) := by
  have key : ∀ l : List (Nat × Value), q_get l i = some v → (i, v) ∈ l := by
    intro l
    induction l with
    | nil => intro h; cases h
    | cons q l ih =>
      intro h
      unfold q_get at h
      by_cases hq : q.1 = i
      · rw [show (q.1 == i) = true by simpa using hq] at h
        cases h
        rw [← hq]
        exact List.mem_cons_self
      · rw [show (q.1 == i) = false by simpa using hq] at h
        exact List.mem_cons_of_mem _ (ih h)
  exact hl.2.2 (i, v) (key lv h)
theorem q_rep_mem {i : Nat} {v : Value} {q : Nat × Value} : ∀ l : List (Nat × Value), q ∈ q_rep i v l → q = (i, v) ∨ (q ∈ l ∧ q.1 ≠ i) := by
  intro l
  induction l with
  | nil => intro h; cases h
  | cons x l ih =>
    intro h
    rcases List.mem_cons.mp h with h | h
    · by_cases hx : x.1 = i
      · rw [show (x.1 == i) = true by simpa using hx] at h
        exact Or.inl h
      · rw [show (x.1 == i) = false by simpa using hx] at h
        subst h
        exact Or.inr ⟨List.mem_cons_self, hx⟩
    · rcases ih h with h | ⟨h1, h2⟩
      · exact Or.inl h
      · exact Or.inr ⟨List.mem_cons_of_mem _ h1, h2⟩
theorem q_in_no {i : Nat} : ∀ l : List (Nat × Value), q_in i l = false → ∀ q ∈ l, q.1 ≠ i := by
  intro l
  induction l with
  | nil => intro _ q h; cases h
  | cons x l ih =>
    intro h q hq
    unfold q_in at h
    by_cases hx : x.1 = i
    · rw [show (x.1 == i) = true by simpa using hx] at h
      cases h
    · rw [show (x.1 == i) = false by simpa using hx] at h
      rcases List.mem_cons.mp hq with rfl | hq
      · exact hx
      · exact ih h q hq
theorem q_set_mem {i : Nat} {v : Value} {l : List (Nat × Value)} {q : Nat × Value} (h : q ∈ q_set l i v) : q = (i, v) ∨ (q ∈ l ∧ q.1 ≠ i) := by
  unfold q_set at h
  cases hi : q_in i l with
  | true => rw [hi] at h; exact q_rep_mem l h
  | false =>
    rw [hi] at h
    rcases List.mem_append.mp h with h | h
    · exact Or.inr ⟨h, q_in_no l hi q h⟩
    · exact Or.inl (List.mem_singleton.mp h)
theorem q_fit1_at {i : Nat} : ∀ l : List (Nat × Value), q_fit1 i l = true → ∀ q ∈ l, (q.1 + 1 == i && q.2.category == 2) = false := by
  intro l
  induction l with
  | nil => intro _ q h; cases h
  | cons x l ih =>
    intro h q hq
    unfold q_fit1 at h
    rw [Bool.and_eq_true] at h
    rcases List.mem_cons.mp hq with rfl | hq
    · have z := h.1
      rwa [Bool.not_eq_true'] at z
    · exact ih h.2 q hq
theorem q_fit2_at {i : Nat} : ∀ l : List (Nat × Value), q_fit2 i l = true → ∀ q ∈ l, (q.1 + 1 == i && q.2.category == 2) = false ∧ (q.1 == i + 1) = false := by
  intro l
  induction l with
  | nil => intro _ q h; cases h
  | cons x l ih =>
    intro h q hq
    unfold q_fit2 at h
    rw [Bool.and_eq_true, Bool.and_eq_true] at h
    rcases List.mem_cons.mp hq with rfl | hq
    · exact ⟨by have z := h.1.1; rwa [Bool.not_eq_true'] at z, by have z := h.1.2; rwa [Bool.not_eq_true'] at z⟩
    · exact ih h.2 q hq
theorem q_has1 {ls : Array Slot} {nL i : Nat} {v : Value} {lv : List (Nat × Value)} (hf : q_fit1 i lv = true) (h : lv_has ls nL ((i, v) :: lv.filter (fun q => !(q.1 == i) && !(q.1 + 1 == i && q.2.category == 2)))) : lv_has ls nL (q_set lv i v) := by
  refine ⟨h.1, h.2.1, fun q hq => h.2.2 q ?_⟩
  rcases q_set_mem hq with rfl | ⟨h1, h2⟩
  · exact List.mem_cons_self
  · refine List.mem_cons_of_mem _ (List.mem_filter.mpr ⟨h1, ?_⟩)
    rw [q_fit1_at lv hf q h1, show (q.1 == i) = false by simpa using h2]
    rfl
theorem q_has2 {ls : Array Slot} {nL i : Nat} {v : Value} {lv : List (Nat × Value)} (hf : q_fit2 i lv = true) (h : lv_has ls nL ((i, v) :: lv.filter (fun q => !(q.1 == i) && (!(q.1 == i + 1) && !(q.1 + 1 == i && q.2.category == 2))))) : lv_has ls nL (q_set lv i v) := by
  refine ⟨h.1, h.2.1, fun q hq => h.2.2 q ?_⟩
  rcases q_set_mem hq with rfl | ⟨h1, h2⟩
  · exact List.mem_cons_self
  · refine List.mem_cons_of_mem _ (List.mem_filter.mpr ⟨h1, ?_⟩)
    obtain ⟨f1, f2⟩ := q_fit2_at lv hf q h1
    rw [f1, f2, show (q.1 == i) = false by simpa using h2]
    rfl
end QBase
section QRows
variable {G : q_G} {M : q_M} {R : Room} {F : q_F} {pc : Nat} {lv : List (Nat × Value)} {st : List Value} {h : q_H} {cells slots : Nat}
/-- fewer locals -/
theorem x_lv (lv' : List (Nat × Value)) (hs : ∀ q ∈ lv', q ∈ lv) (k : q_X G M R F pc lv' st h cells slots) : q_X G M R F pc lv st h cells slots := by
  intro p e s m args below meth c H locs ls C0 hP hS hl
  exact k p e s m args below meth c H locs ls C0 hP hS ⟨hl.1, hl.2.1, fun q hq => hl.2.2 q (hs q hq)⟩
/-- more room used -/
theorem x_widen (c' s' : Nat) (h1 : cells ≤ c') (h2 : slots ≤ s') (k : q_X G M R F pc lv st h c' s') : q_X G M R F pc lv st h cells slots := by
  intro p e s m args below meth c H locs ls C0 hP hS hl
  exact W.widen h1 h2 (k p e s m args below meth c H locs ls C0 hP hS hl)
theorem x_iconst {n : Int} (v : Int32) (hd : decode (q_cc M) pc = .ok (.iconst n, 1)) (hv : Int32.ofInt n = v) (k : q_X G M R F (pc + 1) lv (.int v :: st) h cells slots) : q_X G M R F pc lv st h cells slots := by
  intro p e s m args below meth c H locs ls C0 hP hS hl
  exact lv_iconst C0.1 C0.2.1 hd hv (k p e s m args below meth c H locs ls C0 hP hS hl)
theorem x_bipush {n : Int} (v : Int32) (hd : decode (q_cc M) pc = .ok (.bipush n, 2)) (hv : (Int8.ofInt n).toInt32 = v) (k : q_X G M R F (pc + 2) lv (.int v :: st) h cells slots) : q_X G M R F pc lv st h cells slots := by
  intro p e s m args below meth c H locs ls C0 hP hS hl
  exact lv_bipush C0.1 C0.2.1 hd hv (k p e s m args below meth c H locs ls C0 hP hS hl)
theorem x_sipush {n : Int} (v : Int32) (hd : decode (q_cc M) pc = .ok (.sipush n, 3)) (hv : (Int16.ofInt n).toInt32 = v) (k : q_X G M R F (pc + 3) lv (.int v :: st) h cells slots) : q_X G M R F pc lv st h cells slots := by
  intro p e s m args below meth c H locs ls C0 hP hS hl
  exact lv_sipush C0.1 C0.2.1 hd hv (k p e s m args below meth c H locs ls C0 hP hS hl)
theorem x_lconst {n : Fin 2} (v : Int64) (hd : decode (q_cc M) pc = .ok (.lconst n, 1)) (hv : Int64.ofNat (n : Nat) = v) (k : q_X G M R F (pc + 1) lv (.long v :: st) h cells slots) : q_X G M R F pc lv st h cells slots := by
  intro p e s m args below meth c H locs ls C0 hP hS hl
  exact lv_lconst C0.1 C0.2.1 hd hv (k p e s m args below meth c H locs ls C0 hP hS hl)
theorem x_iload_n {k9 : Fin 4} (i : Nat) {x : Int32} (hd : decode (q_cc M) pc = .ok (.iload_n k9, 1)) (hi : (k9 : Nat) = i) (hg : q_get lv i = some (.int x)) (k : q_X G M R F (pc + 1) lv (.int x :: st) h cells slots) : q_X G M R F pc lv st h cells slots := by
  intro p e s m args below meth c H locs ls C0 hP hS hl
  exact lv_iload_n C0.1 C0.2.1 hd hi (q_get_at hl hg) (k p e s m args below meth c H locs ls C0 hP hS hl)
theorem x_iload {i : Nat} {x : Int32} (hd : decode (q_cc M) pc = .ok (.iload i, 2)) (hg : q_get lv i = some (.int x)) (k : q_X G M R F (pc + 2) lv (.int x :: st) h cells slots) : q_X G M R F pc lv st h cells slots := by
  intro p e s m args below meth c H locs ls C0 hP hS hl
  exact lv_iload C0.1 C0.2.1 hd (q_get_at hl hg) (k p e s m args below meth c H locs ls C0 hP hS hl)
theorem x_istore_n {k9 : Fin 4} (i : Nat) {x : Int32} (hd : decode (q_cc M) pc = .ok (.istore_n k9, 1)) (hi : (k9 : Nat) = i) (hn : i < q_nL M) (hf : q_fit1 i lv = true) (k : q_X G M R F (pc + 1) (q_set lv i (.int x)) st h cells slots) : q_X G M R F pc lv (.int x :: st) h cells slots := by
  intro p e s m args below meth c H locs ls C0 hP hS hl
  exact lv_istore_n C0.1 C0.2.1 hd hi hl hn rfl (fun ls hl => k p e s m args below meth c H locs ls C0 hP hS (q_has1 hf hl))
theorem x_istore {i : Nat} {x : Int32} (hd : decode (q_cc M) pc = .ok (.istore i, 2)) (hn : i < q_nL M) (hf : q_fit1 i lv = true) (k : q_X G M R F (pc + 2) (q_set lv i (.int x)) st h cells slots) : q_X G M R F pc lv (.int x :: st) h cells slots := by
  intro p e s m args below meth c H locs ls C0 hP hS hl
  exact lv_istore C0.1 C0.2.1 hd hl hn rfl (fun ls hl => k p e s m args below meth c H locs ls C0 hP hS (q_has1 hf hl))
theorem x_lload_n {k9 : Fin 4} (i : Nat) {x : Int64} (hd : decode (q_cc M) pc = .ok (.lload_n k9, 1)) (hi : (k9 : Nat) = i) (hg : q_get lv i = some (.long x)) (k : q_X G M R F (pc + 1) lv (.long x :: st) h cells slots) : q_X G M R F pc lv st h cells slots := by
  intro p e s m args below meth c H locs ls C0 hP hS hl
  exact lv_lload_n C0.1 C0.2.1 hd hi (q_get_at hl hg) (k p e s m args below meth c H locs ls C0 hP hS hl)
theorem x_lload {i : Nat} {x : Int64} (hd : decode (q_cc M) pc = .ok (.lload i, 2)) (hg : q_get lv i = some (.long x)) (k : q_X G M R F (pc + 2) lv (.long x :: st) h cells slots) : q_X G M R F pc lv st h cells slots := by
  intro p e s m args below meth c H locs ls C0 hP hS hl
  exact lv_lload C0.1 C0.2.1 hd (q_get_at hl hg) (k p e s m args below meth c H locs ls C0 hP hS hl)
theorem x_lstore_n {k9 : Fin 4} (i : Nat) {x : Int64} (hd : decode (q_cc M) pc = .ok (.lstore_n k9, 1)) (hi : (k9 : Nat) = i) (hn : i + 1 < q_nL M) (hf : q_fit2 i lv = true) (k : q_X G M R F (pc + 1) (q_set lv i (.long x)) st h cells slots) : q_X G M R F pc lv (.long x :: st) h cells slots := by
  intro p e s m args below meth c H locs ls C0 hP hS hl
  exact lv_lstore_n C0.1 C0.2.1 hd hi hl hn rfl (fun ls hl => k p e s m args below meth c H locs ls C0 hP hS (q_has2 hf hl))
theorem x_lstore {i : Nat} {x : Int64} (hd : decode (q_cc M) pc = .ok (.lstore i, 2)) (hn : i + 1 < q_nL M) (hf : q_fit2 i lv = true) (k : q_X G M R F (pc + 2) (q_set lv i (.long x)) st h cells slots) : q_X G M R F pc lv (.long x :: st) h cells slots := by
  intro p e s m args below meth c H locs ls C0 hP hS hl
  exact lv_lstore C0.1 C0.2.1 hd hl hn rfl (fun ls hl => k p e s m args below meth c H locs ls C0 hP hS (q_has2 hf hl))
theorem x_aload_n {k9 : Fin 4} (i : Nat) {x : Nat} (hd : decode (q_cc M) pc = .ok (.aload_n k9, 1)) (hi : (k9 : Nat) = i) (hg : q_get lv i = some (.ref x)) (k : q_X G M R F (pc + 1) lv (.ref x :: st) h cells slots) : q_X G M R F pc lv st h cells slots := by
  intro p e s m args below meth c H locs ls C0 hP hS hl
  exact lv_aload_n C0.1 C0.2.1 hd hi (q_get_at hl hg) (k p e s m args below meth c H locs ls C0 hP hS hl)
theorem x_aload {i : Nat} {x : Nat} (hd : decode (q_cc M) pc = .ok (.aload i, 2)) (hg : q_get lv i = some (.ref x)) (k : q_X G M R F (pc + 2) lv (.ref x :: st) h cells slots) : q_X G M R F pc lv st h cells slots := by
  intro p e s m args below meth c H locs ls C0 hP hS hl
  exact lv_aload C0.1 C0.2.1 hd (q_get_at hl hg) (k p e s m args below meth c H locs ls C0 hP hS hl)
theorem x_astore_n {k9 : Fin 4} (i : Nat) {x : Nat} (hd : decode (q_cc M) pc = .ok (.astore_n k9, 1)) (hi : (k9 : Nat) = i) (hn : i < q_nL M) (hf : q_fit1 i lv = true) (k : q_X G M R F (pc + 1) (q_set lv i (.ref x)) st h cells slots) : q_X G M R F pc lv (.ref x :: st) h cells slots := by
  intro p e s m args below meth c H locs ls C0 hP hS hl
  exact lv_astore_n C0.1 C0.2.1 hd hi hl hn rfl (fun ls hl => k p e s m args below meth c H locs ls C0 hP hS (q_has1 hf hl))
theorem x_astore {i : Nat} {x : Nat} (hd : decode (q_cc M) pc = .ok (.astore i, 2)) (hn : i < q_nL M) (hf : q_fit1 i lv = true) (k : q_X G M R F (pc + 2) (q_set lv i (.ref x)) st h cells slots) : q_X G M R F pc lv (.ref x :: st) h cells slots := by
  intro p e s m args below meth c H locs ls C0 hP hS hl
  exact lv_astore C0.1 C0.2.1 hd hl hn rfl (fun ls hl => k p e s m args below meth c H locs ls C0 hP hS (q_has1 hf hl))
theorem x_iinc {i : Nat} {n : Int} {x : Int32} (v : Int32) (hd : decode (q_cc M) pc = .ok (.iinc i n, 3)) (hg : q_get lv i = some (.int x)) (hv : Int32.ofInt n = v) (hn : i < q_nL M) (hf : q_fit1 i lv = true) (k : q_X G M R F (pc + 3) (q_set lv i (.int (x + v))) st h cells slots) : q_X G M R F pc lv st h cells slots := by
  intro p e s m args below meth c H locs ls C0 hP hS hl
  have hl' : lv_has ls (q_nL M) ((i, .int x) :: lv) := ⟨hl.1, hl.2.1, fun q hq => by
    rcases List.mem_cons.mp hq with rfl | hq
    · exact q_get_at hl hg
    · exact hl.2.2 q hq⟩
  refine lv_iinc (k := 0) C0.1 C0.2.1 hd hl' rfl (by rw [hv]) hn rfl (fun ls hl => k p e s m args below meth c H locs ls C0 hP hS (q_has1 hf ?_))
  refine ⟨hl.1, hl.2.1, fun q hq => hl.2.2 q ?_⟩
  rcases List.mem_cons.mp hq with rfl | hq
  · exact List.mem_cons_self
  · refine List.mem_cons_of_mem _ ?_
    obtain ⟨a1, a2⟩ := List.mem_filter.mp hq
    exact List.mem_filter.mpr ⟨List.mem_cons_of_mem _ a1, a2⟩
theorem x_iadd {x y : Int32} (hd : decode (q_cc M) pc = .ok (.iadd, 1)) (k : q_X G M R F (pc + 1) lv (.int (x + y) :: st) h cells slots) : q_X G M R F pc lv (.int y :: .int x :: st) h cells slots := by
  intro p e s m args below meth c H locs ls C0 hP hS hl
  exact lv_iadd C0.1 C0.2.1 hd (k p e s m args below meth c H locs ls C0 hP hS hl)
theorem x_isub {x y : Int32} (hd : decode (q_cc M) pc = .ok (.isub, 1)) (k : q_X G M R F (pc + 1) lv (.int (x - y) :: st) h cells slots) : q_X G M R F pc lv (.int y :: .int x :: st) h cells slots := by
  intro p e s m args below meth c H locs ls C0 hP hS hl
  exact lv_isub C0.1 C0.2.1 hd (k p e s m args below meth c H locs ls C0 hP hS hl)
theorem x_imul {x y : Int32} (hd : decode (q_cc M) pc = .ok (.imul, 1)) (k : q_X G M R F (pc + 1) lv (.int (x * y) :: st) h cells slots) : q_X G M R F pc lv (.int y :: .int x :: st) h cells slots := by
  intro p e s m args below meth c H locs ls C0 hP hS hl
  exact lv_imul C0.1 C0.2.1 hd (k p e s m args below meth c H locs ls C0 hP hS hl)
theorem x_iand {x y : Int32} (hd : decode (q_cc M) pc = .ok (.iand, 1)) (k : q_X G M R F (pc + 1) lv (.int (x &&& y) :: st) h cells slots) : q_X G M R F pc lv (.int y :: .int x :: st) h cells slots := by
  intro p e s m args below meth c H locs ls C0 hP hS hl
  exact lv_iand C0.1 C0.2.1 hd (k p e s m args below meth c H locs ls C0 hP hS hl)
theorem x_ior {x y : Int32} (hd : decode (q_cc M) pc = .ok (.ior, 1)) (k : q_X G M R F (pc + 1) lv (.int (x ||| y) :: st) h cells slots) : q_X G M R F pc lv (.int y :: .int x :: st) h cells slots := by
  intro p e s m args below meth c H locs ls C0 hP hS hl
  exact lv_ior C0.1 C0.2.1 hd (k p e s m args below meth c H locs ls C0 hP hS hl)
theorem x_ixor {x y : Int32} (hd : decode (q_cc M) pc = .ok (.ixor, 1)) (k : q_X G M R F (pc + 1) lv (.int (x ^^^ y) :: st) h cells slots) : q_X G M R F pc lv (.int y :: .int x :: st) h cells slots := by
  intro p e s m args below meth c H locs ls C0 hP hS hl
  exact lv_ixor C0.1 C0.2.1 hd (k p e s m args below meth c H locs ls C0 hP hS hl)
theorem x_ishl {x y : Int32} (hd : decode (q_cc M) pc = .ok (.ishl, 1)) (k : q_X G M R F (pc + 1) lv (.int (x <<< (y &&& 31)) :: st) h cells slots) : q_X G M R F pc lv (.int y :: .int x :: st) h cells slots := by
  intro p e s m args below meth c H locs ls C0 hP hS hl
  exact lv_ishl C0.1 C0.2.1 hd (k p e s m args below meth c H locs ls C0 hP hS hl)
theorem x_ishr {x y : Int32} (hd : decode (q_cc M) pc = .ok (.ishr, 1)) (k : q_X G M R F (pc + 1) lv (.int (x >>> (y &&& 31)) :: st) h cells slots) : q_X G M R F pc lv (.int y :: .int x :: st) h cells slots := by
  intro p e s m args below meth c H locs ls C0 hP hS hl
  exact lv_ishr C0.1 C0.2.1 hd (k p e s m args below meth c H locs ls C0 hP hS hl)
theorem x_idiv {x y : Int32} (hd : decode (q_cc M) pc = .ok (.idiv, 1)) (hne : ¬ y = 0) (k : q_X G M R F (pc + 1) lv (.int (x / y) :: st) h cells slots) : q_X G M R F pc lv (.int y :: .int x :: st) h cells slots := by
  intro p e s m args below meth c H locs ls C0 hP hS hl
  exact lv_idiv C0.1 C0.2.1 hd hne (k p e s m args below meth c H locs ls C0 hP hS hl)
theorem x_irem {x y : Int32} (hd : decode (q_cc M) pc = .ok (.irem, 1)) (hne : ¬ y = 0) (k : q_X G M R F (pc + 1) lv (.int (x - x / y * y) :: st) h cells slots) : q_X G M R F pc lv (.int y :: .int x :: st) h cells slots := by
  intro p e s m args below meth c H locs ls C0 hP hS hl
  exact lv_irem C0.1 C0.2.1 hd hne (k p e s m args below meth c H locs ls C0 hP hS hl)
theorem x_iushr {x y : Int32} (hd : decode (q_cc M) pc = .ok (.iushr, 1)) (k : q_X G M R F (pc + 1) lv (.int (x.toUInt32 >>> (y.toUInt32 &&& Int32.toUInt32 31)).toInt32 :: st) h cells slots) : q_X G M R F pc lv (.int y :: .int x :: st) h cells slots := by
  intro p e s m args below meth c H locs ls C0 hP hS hl
  exact lv_iushr C0.1 C0.2.1 hd rfl (k p e s m args below meth c H locs ls C0 hP hS hl)
theorem x_ladd {x y : Int64} (hd : decode (q_cc M) pc = .ok (.ladd, 1)) (k : q_X G M R F (pc + 1) lv (.long (x + y) :: st) h cells slots) : q_X G M R F pc lv (.long y :: .long x :: st) h cells slots := by
  intro p e s m args below meth c H locs ls C0 hP hS hl
  exact lv_ladd C0.1 C0.2.1 hd (k p e s m args below meth c H locs ls C0 hP hS hl)
theorem x_lsub {x y : Int64} (hd : decode (q_cc M) pc = .ok (.lsub, 1)) (k : q_X G M R F (pc + 1) lv (.long (x - y) :: st) h cells slots) : q_X G M R F pc lv (.long y :: .long x :: st) h cells slots := by
  intro p e s m args below meth c H locs ls C0 hP hS hl
  exact lv_lsub C0.1 C0.2.1 hd (k p e s m args below meth c H locs ls C0 hP hS hl)
theorem x_land {x y : Int64} (hd : decode (q_cc M) pc = .ok (.land, 1)) (k : q_X G M R F (pc + 1) lv (.long (x &&& y) :: st) h cells slots) : q_X G M R F pc lv (.long y :: .long x :: st) h cells slots := by
  intro p e s m args below meth c H locs ls C0 hP hS hl
  exact lv_land C0.1 C0.2.1 hd (k p e s m args below meth c H locs ls C0 hP hS hl)
theorem x_lor {x y : Int64} (hd : decode (q_cc M) pc = .ok (.lor, 1)) (k : q_X G M R F (pc + 1) lv (.long (x ||| y) :: st) h cells slots) : q_X G M R F pc lv (.long y :: .long x :: st) h cells slots := by
  intro p e s m args below meth c H locs ls C0 hP hS hl
  exact lv_lor C0.1 C0.2.1 hd (k p e s m args below meth c H locs ls C0 hP hS hl)
theorem x_lxor {x y : Int64} (hd : decode (q_cc M) pc = .ok (.lxor, 1)) (k : q_X G M R F (pc + 1) lv (.long (x ^^^ y) :: st) h cells slots) : q_X G M R F pc lv (.long y :: .long x :: st) h cells slots := by
  intro p e s m args below meth c H locs ls C0 hP hS hl
  exact lv_lxor C0.1 C0.2.1 hd (k p e s m args below meth c H locs ls C0 hP hS hl)
theorem x_lshl {x : Int64} {y : Int32} (hd : decode (q_cc M) pc = .ok (.lshl, 1)) (k : q_X G M R F (pc + 1) lv (.long (x <<< (y.toInt64 &&& 63)) :: st) h cells slots) : q_X G M R F pc lv (.int y :: .long x :: st) h cells slots := by
  intro p e s m args below meth c H locs ls C0 hP hS hl
  exact lv_lshl C0.1 C0.2.1 hd rfl (k p e s m args below meth c H locs ls C0 hP hS hl)
theorem x_lshr {x : Int64} {y : Int32} (hd : decode (q_cc M) pc = .ok (.lshr, 1)) (k : q_X G M R F (pc + 1) lv (.long (x >>> (y.toInt64 &&& 63)) :: st) h cells slots) : q_X G M R F pc lv (.int y :: .long x :: st) h cells slots := by
  intro p e s m args below meth c H locs ls C0 hP hS hl
  exact lv_lshr C0.1 C0.2.1 hd rfl (k p e s m args below meth c H locs ls C0 hP hS hl)
theorem x_lushr {x : Int64} {y : Int32} (hd : decode (q_cc M) pc = .ok (.lushr, 1)) (k : q_X G M R F (pc + 1) lv (.long ((x.toUInt64 >>> (y.toInt64.toUInt64 &&& Int64.toUInt64 63)).toInt64) :: st) h cells slots) : q_X G M R F pc lv (.int y :: .long x :: st) h cells slots := by
  intro p e s m args below meth c H locs ls C0 hP hS hl
  exact lv_lushr C0.1 C0.2.1 hd rfl (k p e s m args below meth c H locs ls C0 hP hS hl)
theorem x_lcmp {x y : Int64} (hd : decode (q_cc M) pc = .ok (.lcmp, 1)) (k : q_X G M R F (pc + 1) lv (.int (lg_cmp x y) :: st) h cells slots) : q_X G M R F pc lv (.long y :: .long x :: st) h cells slots := by
  intro p e s m args below meth c H locs ls C0 hP hS hl
  exact W.lcmp C0.1 C0.2.1 hd (k p e s m args below meth c H locs ls C0 hP hS hl)
theorem x_i2l {x : Int32} (hd : decode (q_cc M) pc = .ok (.i2l, 1)) (k : q_X G M R F (pc + 1) lv (.long (x.toInt64) :: st) h cells slots) : q_X G M R F pc lv (.int x :: st) h cells slots := by
  intro p e s m args below meth c H locs ls C0 hP hS hl
  exact lv_i2l C0.1 C0.2.1 hd rfl (k p e s m args below meth c H locs ls C0 hP hS hl)
theorem x_l2i {x : Int64} (hd : decode (q_cc M) pc = .ok (.l2i, 1)) (k : q_X G M R F (pc + 1) lv (.int (x.toInt32) :: st) h cells slots) : q_X G M R F pc lv (.long x :: st) h cells slots := by
  intro p e s m args below meth c H locs ls C0 hP hS hl
  exact lv_l2i C0.1 C0.2.1 hd rfl (k p e s m args below meth c H locs ls C0 hP hS hl)
theorem x_i2b {x : Int32} (hd : decode (q_cc M) pc = .ok (.i2b, 1)) (k : q_X G M R F (pc + 1) lv (.int (x.toInt8.toInt32) :: st) h cells slots) : q_X G M R F pc lv (.int x :: st) h cells slots := by
  intro p e s m args below meth c H locs ls C0 hP hS hl
  exact lv_i2b C0.1 C0.2.1 hd rfl (k p e s m args below meth c H locs ls C0 hP hS hl)
theorem x_i2c {x : Int32} (hd : decode (q_cc M) pc = .ok (.i2c, 1)) (k : q_X G M R F (pc + 1) lv (.int ((x.toUInt32 % 65536).toInt32) :: st) h cells slots) : q_X G M R F pc lv (.int x :: st) h cells slots := by
  intro p e s m args below meth c H locs ls C0 hP hS hl
  exact lv_i2c C0.1 C0.2.1 hd rfl (k p e s m args below meth c H locs ls C0 hP hS hl)
theorem x_dup {va : Value} (hd : decode (q_cc M) pc = .ok (.dup, 1)) (hc : va.category = 1) (k : q_X G M R F (pc + 1) lv (va :: va :: st) h cells slots) : q_X G M R F pc lv (va :: st) h cells slots := by
  intro p e s m args below meth c H locs ls C0 hP hS hl
  exact lv_dup C0.1 C0.2.1 hd hc (k p e s m args below meth c H locs ls C0 hP hS hl)
theorem x_dup2 {va vb : Value} (hd : decode (q_cc M) pc = .ok (.dup2, 1)) (hc : va.category = 1) (hc2 : vb.category = 1) (k : q_X G M R F (pc + 1) lv (va :: vb :: va :: vb :: st) h cells slots) : q_X G M R F pc lv (va :: vb :: st) h cells slots := by
  intro p e s m args below meth c H locs ls C0 hP hS hl
  exact lv_dup2_11 C0.1 C0.2.1 hd hc hc2 (k p e s m args below meth c H locs ls C0 hP hS hl)
theorem x_pop {va : Value} (hd : decode (q_cc M) pc = .ok (.pop, 1)) (hc : va.category = 1) (k : q_X G M R F (pc + 1) lv st h cells slots) : q_X G M R F pc lv (va :: st) h cells slots := by
  intro p e s m args below meth c H locs ls C0 hP hS hl
  exact lv_pop C0.1 C0.2.1 hd hc (k p e s m args below meth c H locs ls C0 hP hS hl)
theorem x_goto {off : Int} (tgt : Nat) (hd : decode (q_cc M) pc = .ok (.goto off, 3)) (ht : (pc : Int) + off = (tgt : Int)) (k : q_X G M R F tgt lv st h cells slots) : q_X G M R F pc lv st h cells slots := by
  intro p e s m args below meth c H locs ls C0 hP hS hl
  exact lv_goto C0.1 C0.2.1 hd ht (k p e s m args below meth c H locs ls C0 hP hS hl)
theorem x_if_eq {x : Int32} {off : Int} (tgt : Nat) (hd : decode (q_cc M) pc = .ok (.ifCond .eq off, 3)) (ht : (pc : Int) + off = (tgt : Int)) (kt : x = 0 → q_X G M R F tgt lv st h cells slots) (kf : ¬ x = 0 → q_X G M R F (pc + 3) lv st h cells slots) : q_X G M R F pc lv (.int x :: st) h cells slots := by
  intro p e s m args below meth c H locs ls C0 hP hS hl
  exact lv_if_eq C0.1 C0.2.1 hd ht (fun z => kt z p e s m args below meth c H locs ls C0 hP hS hl) (fun z => kf z p e s m args below meth c H locs ls C0 hP hS hl)
theorem x_icmp_eq {x y : Int32} {off : Int} (tgt : Nat) (hd : decode (q_cc M) pc = .ok (.if_icmp .eq off, 3)) (ht : (pc : Int) + off = (tgt : Int)) (kt : x = y → q_X G M R F tgt lv st h cells slots) (kf : ¬ x = y → q_X G M R F (pc + 3) lv st h cells slots) : q_X G M R F pc lv (.int y :: .int x :: st) h cells slots := by
  intro p e s m args below meth c H locs ls C0 hP hS hl
  exact lv_icmp_eq C0.1 C0.2.1 hd ht (fun z => kt z p e s m args below meth c H locs ls C0 hP hS hl) (fun z => kf z p e s m args below meth c H locs ls C0 hP hS hl)
theorem x_if_ne {x : Int32} {off : Int} (tgt : Nat) (hd : decode (q_cc M) pc = .ok (.ifCond .ne off, 3)) (ht : (pc : Int) + off = (tgt : Int)) (kt : ¬ x = 0 → q_X G M R F tgt lv st h cells slots) (kf : x = 0 → q_X G M R F (pc + 3) lv st h cells slots) : q_X G M R F pc lv (.int x :: st) h cells slots := by
  intro p e s m args below meth c H locs ls C0 hP hS hl
  exact lv_if_ne C0.1 C0.2.1 hd ht (fun z => kt z p e s m args below meth c H locs ls C0 hP hS hl) (fun z => kf z p e s m args below meth c H locs ls C0 hP hS hl)
theorem x_icmp_ne {x y : Int32} {off : Int} (tgt : Nat) (hd : decode (q_cc M) pc = .ok (.if_icmp .ne off, 3)) (ht : (pc : Int) + off = (tgt : Int)) (kt : ¬ x = y → q_X G M R F tgt lv st h cells slots) (kf : x = y → q_X G M R F (pc + 3) lv st h cells slots) : q_X G M R F pc lv (.int y :: .int x :: st) h cells slots := by
  intro p e s m args below meth c H locs ls C0 hP hS hl
  exact lv_icmp_ne C0.1 C0.2.1 hd ht (fun z => kt z p e s m args below meth c H locs ls C0 hP hS hl) (fun z => kf z p e s m args below meth c H locs ls C0 hP hS hl)
theorem x_if_lt {x : Int32} {off : Int} (tgt : Nat) (hd : decode (q_cc M) pc = .ok (.ifCond .lt off, 3)) (ht : (pc : Int) + off = (tgt : Int)) (kt : x < 0 → q_X G M R F tgt lv st h cells slots) (kf : ¬ x < 0 → q_X G M R F (pc + 3) lv st h cells slots) : q_X G M R F pc lv (.int x :: st) h cells slots := by
  intro p e s m args below meth c H locs ls C0 hP hS hl
  exact lv_if_lt C0.1 C0.2.1 hd ht (fun z => kt z p e s m args below meth c H locs ls C0 hP hS hl) (fun z => kf z p e s m args below meth c H locs ls C0 hP hS hl)
theorem x_icmp_lt {x y : Int32} {off : Int} (tgt : Nat) (hd : decode (q_cc M) pc = .ok (.if_icmp .lt off, 3)) (ht : (pc : Int) + off = (tgt : Int)) (kt : x < y → q_X G M R F tgt lv st h cells slots) (kf : ¬ x < y → q_X G M R F (pc + 3) lv st h cells slots) : q_X G M R F pc lv (.int y :: .int x :: st) h cells slots := by
  intro p e s m args below meth c H locs ls C0 hP hS hl
  exact lv_icmp_lt C0.1 C0.2.1 hd ht (fun z => kt z p e s m args below meth c H locs ls C0 hP hS hl) (fun z => kf z p e s m args below meth c H locs ls C0 hP hS hl)
theorem x_if_ge {x : Int32} {off : Int} (tgt : Nat) (hd : decode (q_cc M) pc = .ok (.ifCond .ge off, 3)) (ht : (pc : Int) + off = (tgt : Int)) (kt : 0 ≤ x → q_X G M R F tgt lv st h cells slots) (kf : ¬ 0 ≤ x → q_X G M R F (pc + 3) lv st h cells slots) : q_X G M R F pc lv (.int x :: st) h cells slots := by
  intro p e s m args below meth c H locs ls C0 hP hS hl
  exact lv_if_ge C0.1 C0.2.1 hd ht (fun z => kt z p e s m args below meth c H locs ls C0 hP hS hl) (fun z => kf z p e s m args below meth c H locs ls C0 hP hS hl)
theorem x_icmp_ge {x y : Int32} {off : Int} (tgt : Nat) (hd : decode (q_cc M) pc = .ok (.if_icmp .ge off, 3)) (ht : (pc : Int) + off = (tgt : Int)) (kt : y ≤ x → q_X G M R F tgt lv st h cells slots) (kf : ¬ y ≤ x → q_X G M R F (pc + 3) lv st h cells slots) : q_X G M R F pc lv (.int y :: .int x :: st) h cells slots := by
  intro p e s m args below meth c H locs ls C0 hP hS hl
  exact lv_icmp_ge C0.1 C0.2.1 hd ht (fun z => kt z p e s m args below meth c H locs ls C0 hP hS hl) (fun z => kf z p e s m args below meth c H locs ls C0 hP hS hl)
theorem x_if_gt {x : Int32} {off : Int} (tgt : Nat) (hd : decode (q_cc M) pc = .ok (.ifCond .gt off, 3)) (ht : (pc : Int) + off = (tgt : Int)) (kt : 0 < x → q_X G M R F tgt lv st h cells slots) (kf : ¬ 0 < x → q_X G M R F (pc + 3) lv st h cells slots) : q_X G M R F pc lv (.int x :: st) h cells slots := by
  intro p e s m args below meth c H locs ls C0 hP hS hl
  exact lv_if_gt C0.1 C0.2.1 hd ht (fun z => kt z p e s m args below meth c H locs ls C0 hP hS hl) (fun z => kf z p e s m args below meth c H locs ls C0 hP hS hl)
theorem x_icmp_gt {x y : Int32} {off : Int} (tgt : Nat) (hd : decode (q_cc M) pc = .ok (.if_icmp .gt off, 3)) (ht : (pc : Int) + off = (tgt : Int)) (kt : y < x → q_X G M R F tgt lv st h cells slots) (kf : ¬ y < x → q_X G M R F (pc + 3) lv st h cells slots) : q_X G M R F pc lv (.int y :: .int x :: st) h cells slots := by
  intro p e s m args below meth c H locs ls C0 hP hS hl
  exact lv_icmp_gt C0.1 C0.2.1 hd ht (fun z => kt z p e s m args below meth c H locs ls C0 hP hS hl) (fun z => kf z p e s m args below meth c H locs ls C0 hP hS hl)
theorem x_if_le {x : Int32} {off : Int} (tgt : Nat) (hd : decode (q_cc M) pc = .ok (.ifCond .le off, 3)) (ht : (pc : Int) + off = (tgt : Int)) (kt : x ≤ 0 → q_X G M R F tgt lv st h cells slots) (kf : ¬ x ≤ 0 → q_X G M R F (pc + 3) lv st h cells slots) : q_X G M R F pc lv (.int x :: st) h cells slots := by
  intro p e s m args below meth c H locs ls C0 hP hS hl
  exact lv_if_le C0.1 C0.2.1 hd ht (fun z => kt z p e s m args below meth c H locs ls C0 hP hS hl) (fun z => kf z p e s m args below meth c H locs ls C0 hP hS hl)
theorem x_icmp_le {x y : Int32} {off : Int} (tgt : Nat) (hd : decode (q_cc M) pc = .ok (.if_icmp .le off, 3)) (ht : (pc : Int) + off = (tgt : Int)) (kt : x ≤ y → q_X G M R F tgt lv st h cells slots) (kf : ¬ x ≤ y → q_X G M R F (pc + 3) lv st h cells slots) : q_X G M R F pc lv (.int y :: .int x :: st) h cells slots := by
  intro p e s m args below meth c H locs ls C0 hP hS hl
  exact lv_icmp_le C0.1 C0.2.1 hd ht (fun z => kt z p e s m args below meth c H locs ls C0 hP hS hl) (fun z => kf z p e s m args below meth c H locs ls C0 hP hS hl)
theorem x_ldc {idx : Nat} (v : Int32) (hw : Cond.constant (q_y M).cls idx v ∈ q_TB) (hd : decode (q_cc M) pc = .ok (.ldc idx, 2)) (k : q_X G M R F (pc + 2) lv (.int v :: st) h cells slots) : q_X G M R F pc lv st h cells slots := by
  intro p e s m args below meth c H locs ls C0 hP hS hl
  exact lv_ldc C0.1 C0.2.1 C0.2.2.2.1 (C0.2.2.2.2.1 _ hw) hd (k p e s m args below meth c H locs ls C0 hP hS hl)
theorem x_ldc2 {idx : Nat} (v : Int64) (hw : Cond.constantLong (q_y M).cls idx v ∈ q_TB) (hd : decode (q_cc M) pc = .ok (.ldc2_w idx, 3)) (k : q_X G M R F (pc + 3) lv (.long v :: st) h cells slots) : q_X G M R F pc lv st h cells slots := by
  intro p e s m args below meth c H locs ls C0 hP hS hl
  exact lv_ldc2 C0.1 C0.2.1 C0.2.2.2.1 (C0.2.2.2.2.1 _ hw) hd (k p e s m args below meth c H locs ls C0 hP hS hl)
theorem x_ldcS (i : Nat) {idx : Nat} {tx : String} (hz : q_str[i]? = some ((q_y M).cls, idx, tx)) (hd : decode (q_cc M) pc = .ok (.ldc idx, 2)) (k : q_X G M R F (pc + 2) lv (.ref (q_aK G i) :: st) h cells slots) : q_X G M R F pc lv st h cells slots := by
  intro p e s m args below meth c H locs ls C0 hP hS hl
  obtain ⟨hx, hb, -, hown, -, -, -, -, hv, -, -, hG⟩ := id C0
  exact va_ldcS hx hb hown (vk_R.warm hv (hG.2.2.1 i _ hz)) hd (k p e s m args below meth c H locs ls C0 hP hS hl)
theorem x_tableIn {dflt lo hi : Int} {offs : Array Int} {len : Nat} {x : Int32} {off : Int} (tgt : Nat) (hd : decode (q_cc M) pc = .ok (.tableswitch dflt lo hi offs, len)) (h1 : ¬ x.toInt < lo) (h2 : ¬ hi < x.toInt) (ho : offs[(x.toInt - lo).toNat]? = some off) (ht : (pc : Int) + off = (tgt : Int)) (k : q_X G M R F tgt lv st h cells slots) : q_X G M R F pc lv (.int x :: st) h cells slots := by
  intro p e s m args below meth c H locs ls C0 hP hS hl
  exact lv_tableIn C0.1 C0.2.1 hd h1 h2 ho ht (k p e s m args below meth c H locs ls C0 hP hS hl)
theorem x_tableOut {dflt lo hi : Int} {offs : Array Int} {len : Nat} {x : Int32} (tgt : Nat) (hd : decode (q_cc M) pc = .ok (.tableswitch dflt lo hi offs, len)) (h1 : x.toInt < lo ∨ hi < x.toInt) (ht : (pc : Int) + dflt = (tgt : Int)) (k : q_X G M R F tgt lv st h cells slots) : q_X G M R F pc lv (.int x :: st) h cells slots := by
  intro p e s m args below meth c H locs ls C0 hP hS hl
  exact lv_tableOut C0.1 C0.2.1 hd h1 ht (k p e s m args below meth c H locs ls C0 hP hS hl)
end QRows
