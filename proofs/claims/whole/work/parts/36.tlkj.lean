/-! FramedTalk's constructor -/
section TlkJ
variable {G : q_G} {h : q_H}
theorem k_step {g0 g1 g2 g3 : q_H} {q t : Nat} (nq : g0 q = none) (s1 : ∀ x, x ∉ [q] → g1 x = g0 x) (ex : k_ext [q] g1 g2) (s3 : ∀ x, x ∉ [t] → g3 x = g2 x) : ∀ x, g0 x ≠ none → x ≠ t → g3 x = g0 x := by
  intro x hx hxt
  have hxq : x ≠ q := fun z => hx (by rw [z]; exact nq)
  have e1 := s1 x (by simp [hxq])
  exact (s3 x (by simp [hxt])).trans ((ex x (by simp [hxq]) (by rw [e1]; exact hx)).trans e1)
theorem k_grow {Pre B : List Nat} {g0 g1 g2 g3 : q_H} {q t : Nat} (hn : Pre.Nodup) (ha : ∀ x ∈ Pre, g0 x ≠ none) (hB : (q :: B).Nodup) (nq : g0 q = none) (nB : ∀ x ∈ B, g1 x = none) (s1 : ∀ x, x ∉ [q] → g1 x = g0 x) (ex : k_ext [q] g1 g2) (s3 : ∀ x, x ∉ [t] → g3 x = g2 x) (aB : ∀ x ∈ q :: B, g2 x ≠ none) (ht : g3 t ≠ none) : (Pre ++ (q :: B)).Nodup ∧ ∀ x ∈ Pre ++ (q :: B), g3 x ≠ none := by
  have nz : ∀ x ∈ q :: B, g0 x = none := by
    intro x hx
    rcases List.mem_cons.mp hx with hx | hx
    · rw [hx]; exact nq
    · have hxq : x ≠ q := fun z => (List.nodup_cons.mp hB).1 (z ▸ hx)
      rw [← s1 x (by simp [hxq])]
      exact nB x hx
  refine k_blk hn ha hB nz (fun x hx => ?_) (fun x hx => ?_)
  · by_cases hxt : x = t
    · rw [hxt]; exact ht
    · rw [s3 x (by simp [hxt])]; exact aB x hx
  · by_cases hxt : x = t
    · rw [hxt]; exact ht
    · rw [k_step nq s1 ex s3 x (ha x hx) hxt]; exact ha x hx
theorem k_inj_of {T : List Nat} (hl : T.length = 24) (hn : T.Nodup) : k_inj (fun i => T.getD i 0) := by
  intro i j hi hj e
  have e' : T.getD i 0 = T.getD j 0 := e
  rw [List.getD_eq_getElem?_getD, List.getD_eq_getElem?_getD, List.getElem?_eq_getElem (by omega), List.getElem?_eq_getElem (by omega)] at e'
  exact (List.getElem_inj hn).mp e'
def t_R0 : z_R := (0, 0, false, false, 0, 0, 0, 0, 0, 0, fun _ => 0, [], [], (0, 0, 0))
def t_0 : z_S := (0, 0, 0, 0, [], [], [], t_R0, [])
theorem t_wf_0 : t_wf t_0 := ⟨fun _ => ⟨by decide, rfl⟩, fun z => absurd z (by decide), Or.inl rfl⟩
theorem sp_tlkInit {t : Nat} (ho : h t = some (k_ob 6 [.null, .null, .null, .null, .null, .null, .int 0, .int 0, .int 0, .int 0])) : q_SP G mX6_init [.ref t] h 23 2769 (fun o h' => o = none ∧ ∃ A, A 0 = t ∧ k_tlk h' A t_0 ∧ k_ext [t] h h') := by
  refine q_enter (M := mX6_init) (by decide +kernel) rfl (Nat.le_of_ble_eq_true rfl) ?_
  refine x_aload_n 0 dX6_init_0 rfl (by first | rfl | assumption) ?_
  refine oi_X6_init (Nat.le_of_ble_eq_true rfl) ?_
  have P0 : [t].Nodup ∧ ∀ x ∈ [t], h x ≠ none := ⟨by simp, fun x hx => by rw [List.mem_singleton.mp hx]; exact k_so ho⟩

  refine x_aload_n 0 dX6_init_4 rfl (by first | rfl | assumption) ?_
  refine nw_X6_init_5 (by decide) (by decide) (fun a na => ?_)
  have ta := k_nne ho na
  refine x_gen (fun g0a b1 s1 => ?_)
  have ho : g0a t = some (k_ob 6 [.null, .null, .null, .null, .null, .null, .int 0, .int 0, .int 0, .int 0]) := (s1 t (by simp [ta])).trans ho
  refine x_dup dX6_init_8 rfl ?_
  refine cl_X6_init_9 (sp_reqInit b1) (Nat.le_of_ble_eq_true rfl) ⟨Nat.le_of_ble_eq_true rfl, Nat.le_of_ble_eq_true rfl⟩ (fun r0 g0b hq => ?_)
  obtain ⟨rfl, rb, ra, aS, aT, aE, kp, nB, aB, ex⟩ := hq
  have ho : g0b t = some (k_ob 6 [.null, .null, .null, .null, .null, .null, .int 0, .int 0, .int 0, .int 0]) := (ex t (by simp [ta]) (k_so ho)).trans ho
  refine pf_X6_init_12 dX6_init_12 (by first | assumption | exact va_up_self _ _ _) (Nat.le_of_ble_eq_true rfl) ?_
  refine x_gen (fun g0c ho s3 => ?_)
  have E := k_step na s1 ex s3
  have P1 := k_grow (t := t) P0.1 P0.2 (show (a :: [rb, ra, aS, aT, aE]).Nodup from kp.2.2.2.2.2) na nB s1 ex s3 aB (k_so ho)
  have X := E
  have d0 : ∀ x ∈ [a, rb, ra, aS, aT, aE], x ∉ [t] := fun x hx z => by
    have hz := List.nodup_append.mp P1.1
    exact hz.2.2 t (by simp) x hx (List.mem_singleton.mp z).symm
  have kq := kp.cg (s3 a (d0 _ (by simp))) (s3 rb (d0 _ (by simp))) (s3 ra (d0 _ (by simp))) (s3 aS (d0 _ (by simp))) (s3 aT (d0 _ (by simp))) (s3 aE (d0 _ (by simp)))
  refine x_aload_n 0 dX6_init_15 rfl (by first | rfl | assumption) ?_
  refine nw_X6_init_16 (by decide) (by decide) (fun f nf => ?_)
  have tf := k_nne ho nf
  refine x_gen (fun g1a b1 s1 => ?_)
  have ho : g1a t = some (k_ob 6 [.ref a, .null, .null, .null, .null, .null, .int 0, .int 0, .int 0, .int 0]) := (s1 t (by simp [tf])).trans ho
  refine x_dup dX6_init_19 rfl ?_
  refine cl_X6_init_20 (sp_frmInit b1) (Nat.le_of_ble_eq_true rfl) ⟨Nat.le_of_ble_eq_true rfl, Nat.le_of_ble_eq_true rfl⟩ (fun r0 g1b hq => ?_)
  obtain ⟨rfl, fM, fm, fma, fs, fsa, fc, fd, kp, nB, aB, ex⟩ := hq
  have ho : g1b t = some (k_ob 6 [.ref a, .null, .null, .null, .null, .null, .int 0, .int 0, .int 0, .int 0]) := (ex t (by simp [tf]) (k_so ho)).trans ho
  refine pf_X6_init_19 dX6_init_23 (by first | assumption | exact va_up_self _ _ _) (Nat.le_of_ble_eq_true rfl) ?_
  refine x_gen (fun g1c ho s3 => ?_)
  have E := k_step nf s1 ex s3
  have P2 := k_grow (t := t) P1.1 P1.2 (show (f :: [fM, fm, fma, fs, fsa, fc, fd]).Nodup from kp.2.2.2.2.2.2) nf nB s1 ex s3 aB (k_so ho)
  have X := fun x hx hxt => (E x (by rw [X x hx hxt]; exact hx) hxt).trans (X x hx hxt)
  have d1 : ∀ x ∈ [f, fM, fm, fma, fs, fsa, fc, fd], x ∉ [t] := fun x hx z => by
    have hz := List.nodup_append.mp P2.1
    exact hz.2.2 t (by simp) x hx (List.mem_singleton.mp z).symm
  have kf := kp.cg (s3 f (d1 _ (by simp))) (s3 fM (d1 _ (by simp))) (s3 fm (d1 _ (by simp))) (s3 fma (d1 _ (by simp))) (s3 fs (d1 _ (by simp))) (s3 fsa (d1 _ (by simp))) (s3 fc (d1 _ (by simp))) (s3 fd (d1 _ (by simp)))
  have kq := kq.cg (E a (P1.2 a (by simp)) (fun z => d0 a (by simp) (List.mem_singleton.mpr z))) (E rb (P1.2 rb (by simp)) (fun z => d0 rb (by simp) (List.mem_singleton.mpr z))) (E ra (P1.2 ra (by simp)) (fun z => d0 ra (by simp) (List.mem_singleton.mpr z))) (E aS (P1.2 aS (by simp)) (fun z => d0 aS (by simp) (List.mem_singleton.mpr z))) (E aT (P1.2 aT (by simp)) (fun z => d0 aT (by simp) (List.mem_singleton.mpr z))) (E aE (P1.2 aE (by simp)) (fun z => d0 aE (by simp) (List.mem_singleton.mpr z)))
  refine x_aload_n 0 dX6_init_26 rfl (by first | rfl | assumption) ?_
  refine nw_X6_init_27 (by decide) (by decide) (fun u nu => ?_)
  have tu := k_nne ho nu
  refine x_gen (fun g2a b1 s1 => ?_)
  have ho : g2a t = some (k_ob 6 [.ref a, .ref f, .null, .null, .null, .null, .int 0, .int 0, .int 0, .int 0]) := (s1 t (by simp [tu])).trans ho
  refine x_dup dX6_init_30 rfl ?_
  refine cl_X6_init_31 (sp_waitInit b1) (Nat.le_of_ble_eq_true rfl) ⟨Nat.le_of_ble_eq_true rfl, Nat.le_of_ble_eq_true rfl⟩ (fun r0 g2b hq => ?_)
  obtain ⟨rfl, uC, uK, uL, kp, nB, ndp, aB, ex⟩ := hq
  have ho : g2b t = some (k_ob 6 [.ref a, .ref f, .null, .null, .null, .null, .int 0, .int 0, .int 0, .int 0]) := (ex t (by simp [tu]) (k_so ho)).trans ho
  refine pf_X6_init_26 dX6_init_34 (by first | assumption | exact va_up_self _ _ _) (Nat.le_of_ble_eq_true rfl) ?_
  refine x_gen (fun g2c ho s3 => ?_)
  have E := k_step nu s1 ex s3
  have P3 := k_grow (t := t) P2.1 P2.2 (show (u :: [uC, uK, uL]).Nodup from ndp) nu nB s1 ex s3 aB (k_so ho)
  have X := fun x hx hxt => (E x (by rw [X x hx hxt]; exact hx) hxt).trans (X x hx hxt)
  have d2 : ∀ x ∈ [u, uC, uK, uL], x ∉ [t] := fun x hx z => by
    have hz := List.nodup_append.mp P3.1
    exact hz.2.2 t (by simp) x hx (List.mem_singleton.mp z).symm
  have kw := kp.cg (s3 u (d2 _ (by simp))) (s3 uC (d2 _ (by simp))) (s3 uK (d2 _ (by simp))) (s3 uL (d2 _ (by simp)))
  have kq := kq.cg (E a (P2.2 a (by simp)) (fun z => d0 a (by simp) (List.mem_singleton.mpr z))) (E rb (P2.2 rb (by simp)) (fun z => d0 rb (by simp) (List.mem_singleton.mpr z))) (E ra (P2.2 ra (by simp)) (fun z => d0 ra (by simp) (List.mem_singleton.mpr z))) (E aS (P2.2 aS (by simp)) (fun z => d0 aS (by simp) (List.mem_singleton.mpr z))) (E aT (P2.2 aT (by simp)) (fun z => d0 aT (by simp) (List.mem_singleton.mpr z))) (E aE (P2.2 aE (by simp)) (fun z => d0 aE (by simp) (List.mem_singleton.mpr z)))
  have kf := kf.cg (E f (P2.2 f (by simp)) (fun z => d1 f (by simp) (List.mem_singleton.mpr z))) (E fM (P2.2 fM (by simp)) (fun z => d1 fM (by simp) (List.mem_singleton.mpr z))) (E fm (P2.2 fm (by simp)) (fun z => d1 fm (by simp) (List.mem_singleton.mpr z))) (E fma (P2.2 fma (by simp)) (fun z => d1 fma (by simp) (List.mem_singleton.mpr z))) (E fs (P2.2 fs (by simp)) (fun z => d1 fs (by simp) (List.mem_singleton.mpr z))) (E fsa (P2.2 fsa (by simp)) (fun z => d1 fsa (by simp) (List.mem_singleton.mpr z))) (E fc (P2.2 fc (by simp)) (fun z => d1 fc (by simp) (List.mem_singleton.mpr z))) (E fd (P2.2 fd (by simp)) (fun z => d1 fd (by simp) (List.mem_singleton.mpr z)))
  refine x_aload_n 0 dX6_init_37 rfl (by first | rfl | assumption) ?_
  refine nw_X6_init_38 (by decide) (by decide) (fun r nr => ?_)
  have tr := k_nne ho nr
  refine x_gen (fun g3a b1 s1 => ?_)
  have ho : g3a t = some (k_ob 6 [.ref a, .ref f, .ref u, .null, .null, .null, .int 0, .int 0, .int 0, .int 0]) := (s1 t (by simp [tr])).trans ho
  refine x_dup dX6_init_41 rfl ?_
  refine x_sipush 574 dX6_init_42 (by decide) ?_
  refine cl_X6_init_45 (sp_rowInit (N := 574) b1 (by decide)) (Nat.le_of_ble_eq_true rfl) ⟨Nat.le_of_ble_eq_true rfl, Nat.le_of_ble_eq_true rfl⟩ (fun r0 g3b hq => ?_)
  obtain ⟨rfl, ra1, kp, nB, ndp, ex⟩ := hq
  have ho : g3b t = some (k_ob 6 [.ref a, .ref f, .ref u, .null, .null, .null, .int 0, .int 0, .int 0, .int 0]) := (ex t (by simp [tr]) (k_so ho)).trans ho
  have nB : ∀ x ∈ [ra1], g3a x = none := fun x hx => by rw [List.mem_singleton.mp hx]; exact nB
  have aB : ∀ x ∈ [r, ra1], g3b x ≠ none := by
    obtain ⟨f0, y1, y2, -⟩ := id kp
    intro x hx
    simp at hx
    rcases hx with rfl | rfl
    · exact k_so y1
    · exact k_so y2
  refine pf_X6_init_35 dX6_init_48 (by first | assumption | exact va_up_self _ _ _) (Nat.le_of_ble_eq_true rfl) ?_
  refine x_gen (fun g3c ho s3 => ?_)
  have E := k_step nr s1 ex s3
  have P4 := k_grow (t := t) P3.1 P3.2 (show (r :: [ra1]).Nodup from ndp) nr nB s1 ex s3 aB (k_so ho)
  have X := fun x hx hxt => (E x (by rw [X x hx hxt]; exact hx) hxt).trans (X x hx hxt)
  have d3 : ∀ x ∈ [r, ra1], x ∉ [t] := fun x hx z => by
    have hz := List.nodup_append.mp P4.1
    exact hz.2.2 t (by simp) x hx (List.mem_singleton.mp z).symm
  have ko := kp.cg (s3 r (d3 _ (by simp))) (s3 ra1 (d3 _ (by simp)))
  have kq := kq.cg (E a (P3.2 a (by simp)) (fun z => d0 a (by simp) (List.mem_singleton.mpr z))) (E rb (P3.2 rb (by simp)) (fun z => d0 rb (by simp) (List.mem_singleton.mpr z))) (E ra (P3.2 ra (by simp)) (fun z => d0 ra (by simp) (List.mem_singleton.mpr z))) (E aS (P3.2 aS (by simp)) (fun z => d0 aS (by simp) (List.mem_singleton.mpr z))) (E aT (P3.2 aT (by simp)) (fun z => d0 aT (by simp) (List.mem_singleton.mpr z))) (E aE (P3.2 aE (by simp)) (fun z => d0 aE (by simp) (List.mem_singleton.mpr z)))
  have kf := kf.cg (E f (P3.2 f (by simp)) (fun z => d1 f (by simp) (List.mem_singleton.mpr z))) (E fM (P3.2 fM (by simp)) (fun z => d1 fM (by simp) (List.mem_singleton.mpr z))) (E fm (P3.2 fm (by simp)) (fun z => d1 fm (by simp) (List.mem_singleton.mpr z))) (E fma (P3.2 fma (by simp)) (fun z => d1 fma (by simp) (List.mem_singleton.mpr z))) (E fs (P3.2 fs (by simp)) (fun z => d1 fs (by simp) (List.mem_singleton.mpr z))) (E fsa (P3.2 fsa (by simp)) (fun z => d1 fsa (by simp) (List.mem_singleton.mpr z))) (E fc (P3.2 fc (by simp)) (fun z => d1 fc (by simp) (List.mem_singleton.mpr z))) (E fd (P3.2 fd (by simp)) (fun z => d1 fd (by simp) (List.mem_singleton.mpr z)))
  have kw := kw.cg (E u (P3.2 u (by simp)) (fun z => d2 u (by simp) (List.mem_singleton.mpr z))) (E uC (P3.2 uC (by simp)) (fun z => d2 uC (by simp) (List.mem_singleton.mpr z))) (E uK (P3.2 uK (by simp)) (fun z => d2 uK (by simp) (List.mem_singleton.mpr z))) (E uL (P3.2 uL (by simp)) (fun z => d2 uL (by simp) (List.mem_singleton.mpr z)))
  refine x_aload_n 0 dX6_init_51 rfl (by first | rfl | assumption) ?_
  refine nw_X6_init_52 (by decide) (by decide) (fun d nd => ?_)
  have td := k_nne ho nd
  refine x_gen (fun g4a b1 s1 => ?_)
  have ho : g4a t = some (k_ob 6 [.ref a, .ref f, .ref u, .ref r, .null, .null, .int 0, .int 0, .int 0, .int 0]) := (s1 t (by simp [td])).trans ho
  refine x_dup dX6_init_55 rfl ?_
  refine x_bipush 100 dX6_init_56 (by decide) ?_
  refine cl_X6_init_58 (sp_rowInit (N := 100) b1 (by decide)) (Nat.le_of_ble_eq_true rfl) ⟨Nat.le_of_ble_eq_true rfl, Nat.le_of_ble_eq_true rfl⟩ (fun r0 g4b hq => ?_)
  obtain ⟨rfl, da, kp, nB, ndp, ex⟩ := hq
  have ho : g4b t = some (k_ob 6 [.ref a, .ref f, .ref u, .ref r, .null, .null, .int 0, .int 0, .int 0, .int 0]) := (ex t (by simp [td]) (k_so ho)).trans ho
  have nB : ∀ x ∈ [da], g4a x = none := fun x hx => by rw [List.mem_singleton.mp hx]; exact nB
  have aB : ∀ x ∈ [d, da], g4b x ≠ none := by
    obtain ⟨f0, y1, y2, -⟩ := id kp
    intro x hx
    simp at hx
    rcases hx with rfl | rfl
    · exact k_so y1
    · exact k_so y2
  refine pf_X6_init_39 dX6_init_61 (by first | assumption | exact va_up_self _ _ _) (Nat.le_of_ble_eq_true rfl) ?_
  refine x_gen (fun g4c ho s3 => ?_)
  have E := k_step nd s1 ex s3
  have P5 := k_grow (t := t) P4.1 P4.2 (show (d :: [da]).Nodup from ndp) nd nB s1 ex s3 aB (k_so ho)
  have X := fun x hx hxt => (E x (by rw [X x hx hxt]; exact hx) hxt).trans (X x hx hxt)
  have d4 : ∀ x ∈ [d, da], x ∉ [t] := fun x hx z => by
    have hz := List.nodup_append.mp P5.1
    exact hz.2.2 t (by simp) x hx (List.mem_singleton.mp z).symm
  have kd := kp.cg (s3 d (d4 _ (by simp))) (s3 da (d4 _ (by simp)))
  have kq := kq.cg (E a (P4.2 a (by simp)) (fun z => d0 a (by simp) (List.mem_singleton.mpr z))) (E rb (P4.2 rb (by simp)) (fun z => d0 rb (by simp) (List.mem_singleton.mpr z))) (E ra (P4.2 ra (by simp)) (fun z => d0 ra (by simp) (List.mem_singleton.mpr z))) (E aS (P4.2 aS (by simp)) (fun z => d0 aS (by simp) (List.mem_singleton.mpr z))) (E aT (P4.2 aT (by simp)) (fun z => d0 aT (by simp) (List.mem_singleton.mpr z))) (E aE (P4.2 aE (by simp)) (fun z => d0 aE (by simp) (List.mem_singleton.mpr z)))
  have kf := kf.cg (E f (P4.2 f (by simp)) (fun z => d1 f (by simp) (List.mem_singleton.mpr z))) (E fM (P4.2 fM (by simp)) (fun z => d1 fM (by simp) (List.mem_singleton.mpr z))) (E fm (P4.2 fm (by simp)) (fun z => d1 fm (by simp) (List.mem_singleton.mpr z))) (E fma (P4.2 fma (by simp)) (fun z => d1 fma (by simp) (List.mem_singleton.mpr z))) (E fs (P4.2 fs (by simp)) (fun z => d1 fs (by simp) (List.mem_singleton.mpr z))) (E fsa (P4.2 fsa (by simp)) (fun z => d1 fsa (by simp) (List.mem_singleton.mpr z))) (E fc (P4.2 fc (by simp)) (fun z => d1 fc (by simp) (List.mem_singleton.mpr z))) (E fd (P4.2 fd (by simp)) (fun z => d1 fd (by simp) (List.mem_singleton.mpr z)))
  have kw := kw.cg (E u (P4.2 u (by simp)) (fun z => d2 u (by simp) (List.mem_singleton.mpr z))) (E uC (P4.2 uC (by simp)) (fun z => d2 uC (by simp) (List.mem_singleton.mpr z))) (E uK (P4.2 uK (by simp)) (fun z => d2 uK (by simp) (List.mem_singleton.mpr z))) (E uL (P4.2 uL (by simp)) (fun z => d2 uL (by simp) (List.mem_singleton.mpr z)))
  have ko := ko.cg (E r (P4.2 r (by simp)) (fun z => d3 r (by simp) (List.mem_singleton.mpr z))) (E ra1 (P4.2 ra1 (by simp)) (fun z => d3 ra1 (by simp) (List.mem_singleton.mpr z)))
  refine x_aload_n 0 dX6_init_64 rfl (by first | rfl | assumption) ?_
  refine nw_X6_init_65 (by decide) (by decide) (fun dc ndc => ?_)
  have tdc := k_nne ho ndc
  refine x_gen (fun g5a b1 s1 => ?_)
  have ho : g5a t = some (k_ob 6 [.ref a, .ref f, .ref u, .ref r, .ref d, .null, .int 0, .int 0, .int 0, .int 0]) := (s1 t (by simp [tdc])).trans ho
  refine x_dup dX6_init_68 rfl ?_
  refine cl_X6_init_69 (sp_chkInit (h := g5a)) (Nat.le_of_ble_eq_true rfl) ⟨Nat.le_of_ble_eq_true rfl, Nat.le_of_ble_eq_true rfl⟩ (fun r0 g5b hq => ?_)
  obtain ⟨rfl, hg⟩ := hq
  have ex : k_ext [dc] g5a g5b := by rw [hg]; exact k_ext.rf
  have kp : k_chk g5b dc (0, 0, 0) := by rw [hg]; exact b1
  have nB : ∀ x ∈ ([] : List Nat), g5a x = none := fun x hx => absurd hx (by simp)
  have aB : ∀ x ∈ [dc], g5b x ≠ none := fun x hx => by rw [List.mem_singleton.mp hx]; exact k_so kp
  have ho : g5b t = some (k_ob 6 [.ref a, .ref f, .ref u, .ref r, .ref d, .null, .int 0, .int 0, .int 0, .int 0]) := by rw [hg]; exact ho
  refine pf_X6_init_45 dX6_init_72 (by first | assumption | exact va_up_self _ _ _) (Nat.le_of_ble_eq_true rfl) ?_
  refine x_gen (fun g5c ho s3 => ?_)
  have E := k_step ndc s1 ex s3
  have P6 := k_grow (t := t) P5.1 P5.2 (show (dc :: []).Nodup from (by simp)) ndc nB s1 ex s3 aB (k_so ho)
  have X := fun x hx hxt => (E x (by rw [X x hx hxt]; exact hx) hxt).trans (X x hx hxt)
  have d5 : ∀ x ∈ [dc], x ∉ [t] := fun x hx z => by
    have hz := List.nodup_append.mp P6.1
    exact hz.2.2 t (by simp) x hx (List.mem_singleton.mp z).symm
  have kc : k_chk g5c dc (0, 0, 0) := (s3 dc (d5 _ (by simp))).trans kp
  have kq := kq.cg (E a (P5.2 a (by simp)) (fun z => d0 a (by simp) (List.mem_singleton.mpr z))) (E rb (P5.2 rb (by simp)) (fun z => d0 rb (by simp) (List.mem_singleton.mpr z))) (E ra (P5.2 ra (by simp)) (fun z => d0 ra (by simp) (List.mem_singleton.mpr z))) (E aS (P5.2 aS (by simp)) (fun z => d0 aS (by simp) (List.mem_singleton.mpr z))) (E aT (P5.2 aT (by simp)) (fun z => d0 aT (by simp) (List.mem_singleton.mpr z))) (E aE (P5.2 aE (by simp)) (fun z => d0 aE (by simp) (List.mem_singleton.mpr z)))
  have kf := kf.cg (E f (P5.2 f (by simp)) (fun z => d1 f (by simp) (List.mem_singleton.mpr z))) (E fM (P5.2 fM (by simp)) (fun z => d1 fM (by simp) (List.mem_singleton.mpr z))) (E fm (P5.2 fm (by simp)) (fun z => d1 fm (by simp) (List.mem_singleton.mpr z))) (E fma (P5.2 fma (by simp)) (fun z => d1 fma (by simp) (List.mem_singleton.mpr z))) (E fs (P5.2 fs (by simp)) (fun z => d1 fs (by simp) (List.mem_singleton.mpr z))) (E fsa (P5.2 fsa (by simp)) (fun z => d1 fsa (by simp) (List.mem_singleton.mpr z))) (E fc (P5.2 fc (by simp)) (fun z => d1 fc (by simp) (List.mem_singleton.mpr z))) (E fd (P5.2 fd (by simp)) (fun z => d1 fd (by simp) (List.mem_singleton.mpr z)))
  have kw := kw.cg (E u (P5.2 u (by simp)) (fun z => d2 u (by simp) (List.mem_singleton.mpr z))) (E uC (P5.2 uC (by simp)) (fun z => d2 uC (by simp) (List.mem_singleton.mpr z))) (E uK (P5.2 uK (by simp)) (fun z => d2 uK (by simp) (List.mem_singleton.mpr z))) (E uL (P5.2 uL (by simp)) (fun z => d2 uL (by simp) (List.mem_singleton.mpr z)))
  have ko := ko.cg (E r (P5.2 r (by simp)) (fun z => d3 r (by simp) (List.mem_singleton.mpr z))) (E ra1 (P5.2 ra1 (by simp)) (fun z => d3 ra1 (by simp) (List.mem_singleton.mpr z)))
  have kd := kd.cg (E d (P5.2 d (by simp)) (fun z => d4 d (by simp) (List.mem_singleton.mpr z))) (E da (P5.2 da (by simp)) (fun z => d4 da (by simp) (List.mem_singleton.mpr z)))
  refine x_aload_n 0 dX6_init_75 rfl (by first | rfl | assumption) ?_
  refine x_iconst 0 dX6_init_76 (by decide) ?_
  refine pf_X6_init_49 dX6_init_77 (by first | assumption | exact va_up_self _ _ _) (Nat.le_of_ble_eq_true rfl) ?_
  refine x_gen (fun gz ho s3 => ?_)
  refine x_vret rfl dX6_init_80 (by decide) (by decide) ?_
  have kq := kq.cg (s3 a (d0 a (by simp))) (s3 rb (d0 rb (by simp))) (s3 ra (d0 ra (by simp))) (s3 aS (d0 aS (by simp))) (s3 aT (d0 aT (by simp))) (s3 aE (d0 aE (by simp)))
  have kf := kf.cg (s3 f (d1 f (by simp))) (s3 fM (d1 fM (by simp))) (s3 fm (d1 fm (by simp))) (s3 fma (d1 fma (by simp))) (s3 fs (d1 fs (by simp))) (s3 fsa (d1 fsa (by simp))) (s3 fc (d1 fc (by simp))) (s3 fd (d1 fd (by simp)))
  have kw := kw.cg (s3 u (d2 u (by simp))) (s3 uC (d2 uC (by simp))) (s3 uK (d2 uK (by simp))) (s3 uL (d2 uL (by simp)))
  have ko := ko.cg (s3 r (d3 r (by simp))) (s3 ra1 (d3 ra1 (by simp)))
  have kd := kd.cg (s3 d (d4 d (by simp))) (s3 da (d4 da (by simp)))
  have kc : k_chk gz dc (0, 0, 0) := (s3 dc (d5 dc (by simp))).trans kc
  refine ⟨rfl, fun i => [t, a, rb, ra, aS, aT, aE, f, fM, fm, fma, fs, fsa, fc, fd, u, uC, uK, uL, r, ra1, d, da, dc].getD i 0, rfl, ⟨k_inj_of rfl P6.1, ho, ⟨_, _, _, kq, fun _ => ?_⟩, kf, kw, ko, kd, ⟨_, kc⟩⟩, fun q hq hn => (s3 q hq).trans (X q hn (fun z => hq (by simp [z])))⟩
  intro n hn
  exact ⟨rfl, Nat.le_refl _, rfl, Nat.le_refl _, Nat.le_refl _, 0, rfl, Nat.le_refl _, Or.inl rfl⟩
end TlkJ
