/-! the law: from its entry to its end -/
def R_law : String := "FramedTalkLaw"
def lw_P (b : Addr) (xs : List Int32) (args : Array Value) (s : State) : Prop := args = #[.ref b] ∧ s.IntsAt b xs ∧ xs.length ≤ 256 ∧ (Jvm.Cond.and given_1 narrow_1).before args s = true
def lw_Q (_ : Array Value) (s : State) (o : Outcome) (t : State) : Prop := o = .returned (some (.int 1)) ∧ Framed s o t [] 600128 7301097
def lw_Z (below : List Frame) (a : Array Value) (s : State) : State → Prop := fun t => ∃ o, t.status = .running ∧ Ended t below o ∧ lw_Q a s o t
def lw_At (p : Program) (s : State) (m : MethodId) (meth : Method) (c : Code) (b L : Nat) (xs : Nat → Int32) : Prop :=
  p.tables.exec = Jvm.exec ∧ c.code = code ∧ meth.sig.returnType = ret ∧ c.maxLocals = 7 ∧ s.vm.findClass R_law = some m.cls ∧ (∀ w ∈ lw_tbl, w.before #[Value.ref b] s = true) ∧ va_X b L xs s s.heap ∧ b < s.heap.size ∧ meth.locks = false ∧ (Jvm.Cond.and given_1 narrow_1).before #[Value.ref b] s = true
theorem l_back {p : Program} {l : Launch} {e : Env} {s : State} {m : MethodId} {below : List Frame} {meth : Method} {c : Code} {args : Array Value} (hx : p.tables.exec = Jvm.exec) (hb : c.code = code) (hr : meth.sig.returnType = ret) (hlocks : meth.locks = false) {pc : Nat} {H : Heap} {ls : Array Slot} (hdg : decode code pc = .ok (.ireturn, 1)) : W p l e room_1 s m args below meth c H [] 600128 7301097 (lw_Z below args s) (F0 m pc ls [.int 1]) := by
  intro T hT X
  obtain ⟨fs, hret, hrun, hended, hW, hframe⟩ := X.leave (v := some (.int 1)) (hlocks := hlocks) (fun h => by rw [hr] at h; cases h)
  have hmeth' : T.vm.method? m = some meth := X.method'
  refine ⟨T.setFrames fs, ?_, .returned (some (.int 1)), hrun, hended, rfl, ⟨_, rfl⟩, hW, hframe⟩
  jvm_step X.here [X.here.top, hx, hb, hdg, hmeth', hr, ret, narrow_b1]
  (try refine ⟨rfl, ?_⟩); (try refine ⟨rfl, ?_⟩)
  first | (intro acts; rw [hret _ acts rfl rfl rfl]) | rw [hret _ _ rfl rfl rfl]
  exact Steps.refl _
section LawD
variable {G : q_G} {h : q_H} {A B : Nat → Nat} {σ : z_S} {o cells slots : Nat} {lv : List (Nat × Value)}
/-- how the law ends, where it was called at the start -/
def l_F (G : q_G) : q_F := fun s args below t => s.heap.size ≤ (q_s G).heap.size → lw_Z below args s t
theorem l_exit (hc : cells ≤ 600128) (hs : slots ≤ 7301097) : q_X G mL_law room_1 (l_F G) 821 lv [] h cells slots := by
  refine x_iconst 1 dL_law_821 (by decide) ?_
  intro p e s m args below meth c H locs ls C0 hP hS hl T hT X
  obtain ⟨hx, hb, -, -, -, hret, hlk, -⟩ := id C0
  by_cases hz : s.heap.size ≤ (q_s G).heap.size
  · have K : W p (q_l G) e room_1 s m args below meth c H locs cells slots (lw_Z below args s) (F0 m 822 ls [.int 1]) :=
      va_forget (fun q hq => Nat.le_trans hz (hS.2.2 q hq)) (W.widen hc hs (l_back hx hb hret hlk dL_law_822))
    obtain ⟨t, a1, b1⟩ := K T hT X
    exact ⟨t, a1, fun _ => b1⟩
  · exact ⟨_, Steps.refl _, fun z => absurd z hz⟩
theorem l_loop (hL : q_L G ≤ 256) : ∀ (m i : Nat) (x : Int32) (h : q_H) (σ : z_S) (cells slots : Nat) (lv : List (Nat × Value)), x = nI i → q_L G < i + 4 + 4 * m → i ≤ 256 → cells + 40 * m ≤ 600128 → slots + 1744 * m ≤ 7301097 → l_inv h A B o σ → q_X G mL_law room_1 (l_F G) 23 ([(0, .ref (q_b G)), (1, .ref (A 0)), (2, .ref (B 0)), (3, .ref o), (4, .int x)] ++ lv) [] h cells slots := by
  have es : (nI (q_L G) - 4).toInt = (q_L G : Int) - 4 := pk_sub_toInt (a := q_L G) (b := 4) (by omega) (by omega)
  intro m
  induction m with
  | zero =>
    intro i x h σ cells slots lv hx hm hi hc hs hI
    subst hx
    refine x_take 5 ?_
    refine x_iload dL_law_23 (by first | rfl | assumption) ?_
    refine x_aload_n 0 dL_law_25 rfl (by first | rfl | assumption) ?_
    refine x_slen dL_law_26 ?_
    refine x_iconst 4 dL_law_27 (by decide) ?_
    refine x_isub dL_law_28 ?_
    refine x_icmp_gt 821 dL_law_29 (by decide) (fun _ => l_exit (by omega) (by omega)) (fun z => absurd ?_ z)
    rw [i32_lt, es, nI_toInt (by omega)]
    omega
  | succ m ih =>
    intro i x h σ cells slots lv hx hm hi hc hs hI
    subst hx
    refine x_take 5 ?_
    refine x_iload dL_law_23 (by first | rfl | assumption) ?_
    refine x_aload_n 0 dL_law_25 rfl (by first | rfl | assumption) ?_
    refine x_slen dL_law_26 ?_
    refine x_iconst 4 dL_law_27 (by decide) ?_
    refine x_isub dL_law_28 ?_
    by_cases hgo : i + 4 ≤ q_L G
    · refine x_icmp_gt 821 dL_law_29 (by decide) (fun z => absurd z ?_) (fun _ => ?_)
      · rw [i32_lt, es, nI_toInt (by omega)]
        omega
      have v0 : vp_in (nI i) (q_L G) := vp_in_nI (by omega) (by omega)
      have v1 : vp_in (nI i + 1) (q_L G) := by rw [show nI i + 1 = nI (i + 1) from nI_add i 1]; exact vp_in_nI (by omega) (by omega)
      have v2 : vp_in (nI i + 2) (q_L G) := by rw [show nI i + 2 = nI (i + 2) from nI_add i 2]; exact vp_in_nI (by omega) (by omega)
      have v3 : vp_in (nI i + 3) (q_L G) := by rw [show nI i + 3 = nI (i + 3) from nI_add i 3]; exact vp_in_nI (by omega) (by omega)
      have hb : cells + 40 ≤ 600128 ∧ slots + 1744 ≤ 7301097 := ⟨by omega, Nat.le_trans (Nat.add_le_add_left (Nat.le_mul_of_pos_right 1744 (Nat.succ_pos m)) slots) hs⟩
      have next : l_next G (l_F G) A B o i cells slots := by
        intro h1 σ1 c1 s1 lv1 hI1 hc1 hs1
        refine x_take 5 ?_
        refine x_iinc 4 dL_law_815 (by first | rfl | assumption) (by decide) (by decide) rfl ?_
        refine x_goto 23 dL_law_818 (by decide) ?_
        exact ih (i + 4) _ h1 σ1 c1 s1 [] (nI_add i 4) (by omega) (by omega) (by omega) (by omega) hI1
      refine x_aload_n 0 dL_law_32 rfl (by first | rfl | assumption) ?_
      refine x_iload dL_law_33 (by first | rfl | assumption) ?_
      refine x_sld (by assumption) dL_law_35 ?_
      refine x_bipush 31 dL_law_36 (by decide) ?_
      refine x_iand dL_law_38 ?_
      obtain ⟨j, hj, ej⟩ := pk_andE (q_xs G (nI i).toNatClampNeg) (m := 31) 5 (by rfl)
      rw [ej]
      have h815 : q_X G mL_law room_1 (l_F G) 815 [(0, .ref (q_b G)), (1, .ref (A 0)), (2, .ref (B 0)), (3, .ref o), (4, .int (nI i))] [] h cells slots := next h σ cells slots [] hI (by omega) (by omega)
      by_cases h17 : j ≤ 17
      · have go : ∀ tgt : Nat, (∀ off : Int, (#[85, 185, 198, 211, 224, 280, 305, 318, 331, 387, 443, 511, 555, 568, 637, 648, 716, 740] : Array Int)[j]? = some off → (39 : Int) + off = (tgt : Int)) → q_X G mL_law room_1 (l_F G) tgt [(0, .ref (q_b G)), (1, .ref (A 0)), (2, .ref (B 0)), (3, .ref o), (4, .int (nI i))] [] h cells slots → q_X G mL_law room_1 (l_F G) 39 [(0, .ref (q_b G)), (1, .ref (A 0)), (2, .ref (B 0)), (3, .ref o), (4, .int (nI i))] [.int (nI j)] h cells slots := by
          intro tgt ht k
          have hlt : j < (#[85, 185, 198, 211, 224, 280, 305, 318, 331, 387, 443, 511, 555, 568, 637, 648, 716, 740] : Array Int).size := by show j < 18; omega
          refine x_tableIn tgt dL_law_39 (by rw [nI_toInt (by omega)]; omega) (by rw [nI_toInt (by omega)]; omega) (off := (#[85, 185, 198, 211, 224, 280, 305, 318, 331, 387, 443, 511, 555, 568, 637, 648, 716, 740] : Array Int)[j]) ?_ (ht _ (by rw [Array.getElem?_eq_getElem hlt])) k
          rw [nI_toInt (by omega), show ((j : Int) - 0).toNat = j by omega, Array.getElem?_eq_getElem hlt]
        have all : j = 0 ∨ j = 1 ∨ j = 2 ∨ j = 3 ∨ j = 4 ∨ j = 5 ∨ j = 6 ∨ j = 7 ∨ j = 8 ∨ j = 9 ∨ j = 10 ∨ j = 11 ∨ j = 12 ∨ j = 13 ∨ j = 14 ∨ j = 15 ∨ j = 16 ∨ j = 17 := by omega
        rcases all with rfl | rfl | rfl | rfl | rfl | rfl | rfl | rfl | rfl | rfl | rfl | rfl | rfl | rfl | rfl | rfl | rfl | rfl
        · exact go 124 (fun off z => by cases z; rfl) (l_case_0 hI v1 v2 v3 hb next)
        · exact go 224 (fun off z => by cases z; rfl) (l_case_1 hI v1 v2 v3 hb next)
        · exact go 237 (fun off z => by cases z; rfl) (l_case_2 hI v1 v2 v3 hb next)
        · exact go 250 (fun off z => by cases z; rfl) (l_case_3 hI v1 v2 v3 hb next)
        · exact go 263 (fun off z => by cases z; rfl) (l_case_4 hI v1 v2 v3 hb next)
        · exact go 319 (fun off z => by cases z; rfl) (l_case_5 hI v1 v2 v3 hb next)
        · exact go 344 (fun off z => by cases z; rfl) (l_case_6 hI v1 v2 v3 hb next)
        · exact go 357 (fun off z => by cases z; rfl) (l_case_7 hI v1 v2 v3 hb next)
        · exact go 370 (fun off z => by cases z; rfl) (l_case_8 hI v1 v2 v3 hb next)
        · exact go 426 (fun off z => by cases z; rfl) (l_case_9 hI v1 v2 v3 hb next)
        · exact go 482 (fun off z => by cases z; rfl) (l_case_10 hI v1 v2 v3 hb next)
        · exact go 550 (fun off z => by cases z; rfl) (l_case_11 hI v1 v2 v3 hb next)
        · exact go 594 (fun off z => by cases z; rfl) (l_case_12 hI v1 v2 v3 hb next)
        · exact go 607 (fun off z => by cases z; rfl) (l_case_13 hI v1 v2 v3 hb next)
        · exact go 676 (fun off z => by cases z; rfl) (l_case_14 hI v1 v2 v3 hb next)
        · exact go 687 (fun off z => by cases z; rfl) (l_case_15 hI v1 v2 v3 hb next)
        · exact go 755 (fun off z => by cases z; rfl) (l_case_16 hI v1 v2 v3 hb next)
        · exact go 779 (fun off z => by cases z; rfl) (l_case_17 hI v1 v2 v3 hb next)
      · refine x_tableOut 815 dL_law_39 (by rw [nI_toInt (by omega)]; omega) (by decide) ?_
        exact h815
    · refine x_icmp_gt 821 dL_law_29 (by decide) (fun _ => l_exit (by omega) (by omega)) (fun z => absurd ?_ z)
      rw [i32_lt, es, nI_toInt (by omega)]
      omega
theorem k_tlk.al' {σ : z_S} (ht : k_tlk h A σ) : ∀ i, i < 24 → h (A i) ≠ none := by
  intro i hi
  exact ht.al i hi
theorem l_start (hL : q_L G ≤ 256) : q_X G mL_law room_1 (l_F G) 0 [(0, .ref (q_b G))] [] (fun _ => none) 0 0 := by
  refine nw_L_law_0 (by decide) (by decide) (fun t nt => ?_)
  refine x_gen (fun g0 o0 s0 => ?_)
  refine x_dup dL_law_3 rfl ?_
  refine cl_L_law_4 (sp_tlkInit o0) (Nat.le_of_ble_eq_true rfl) ⟨by decide, by decide⟩ (fun r g1 hq => ?_)
  obtain ⟨rfl, A, hA0, ht, -⟩ := hq
  subst hA0
  refine x_astore_n 1 dL_law_7 rfl (by decide) rfl ?_
  refine nw_L_law_8 (by decide) (by decide) (fun t2 nt2 => ?_)
  refine x_gen (fun g2 o2 s2 => ?_)
  refine x_dup dL_law_11 rfl ?_
  refine cl_L_law_12 (sm_init o2) (Nat.le_of_ble_eq_true rfl) ⟨by decide, by decide⟩ (fun r g3 hq => ?_)
  obtain ⟨rfl, B, hB0, hm, nB, ex⟩ := hq
  subst hB0
  have hal := ht.al'
  have nAB : ∀ i j, i < 24 → j < 16 → A i ≠ B j := by
    intro i j hi hj e
    have h1 := hal i hi
    by_cases hj0 : j = 0
    · rw [e, hj0] at h1; exact h1 nt2
    · have hne : A i ∉ [B 0] := fun z => h1 (by rw [List.mem_singleton.mp z]; exact nt2)
      have h2 := nB j (by omega) hj
      rw [← e, s2 _ hne] at h2
      exact h1 h2
  have ht3 : k_tlk g3 A t_0 := by
    refine ht.agree (fun i hi => ?_)
    have hne : A i ∉ [B 0] := fun z => hal i hi (by rw [List.mem_singleton.mp z]; exact nt2)
    have e1 := s2 _ hne
    exact (ex (A i) hne (by rw [e1]; exact hal i hi)).trans e1
  refine x_astore_n 2 dL_law_15 rfl (by decide) rfl ?_
  refine x_iconst 1 dL_law_16 (by decide) ?_
  refine x_newL 1 tw_ac_long dL_law_17 (by decide) rfl (by decide) (by decide) (by decide) (fun o no => ?_)
  refine x_gen (fun g4 o4 s4 => ?_)
  refine x_astore_n 3 dL_law_19 rfl (by decide) rfl ?_
  refine x_iconst 0 dL_law_20 (by decide) ?_
  refine x_istore dL_law_21 (by decide) rfl ?_
  have hal3 := ht3.al'
  have hoA : o ∉ k_cells A := fun z => by
    obtain ⟨i, hi, e⟩ := List.mem_map.mp z
    exact hal3 i (List.mem_range.mp hi) (by rw [e]; exact no)
  have hBal : ∀ j, j < 16 → g3 (B j) ≠ none := by
    intro j hj
    by_cases hj0 : j = 0
    · rw [hj0, hm.1]; simp
    · rw [hm.2.1 j ⟨by omega, hj⟩]; simp
  have hoB : ∀ j, j < 16 → o ≠ B j := fun j hj e => hBal j hj (by rw [← e]; exact no)
  have hI : l_inv g4 A B o t_0 := by
    refine ⟨ht3.agree (fun i hi => s4 _ (fun z => hoA (by rw [← List.mem_singleton.mp z]; exact k_cells_in hi))), t_wf_0, ⟨_, _, hm.at' (fun j hj => s4 _ (fun z => hoB j hj (List.mem_singleton.mp z).symm)), m_rel_0 B⟩, ⟨_, o4⟩, nAB, hoA, hoB⟩
  exact l_loop hL 64 0 _ g4 t_0 _ _ [] rfl (by omega) (by omega) (by decide) (by decide) hI
end LawD
