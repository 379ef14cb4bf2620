/-! FramedTalk$Proof.putInto -/
section PutI
variable {G : q_G} {h : q_H} {p pb pba pw ph : Nat} {fw fh : Nat → Int32}
theorem d_msg_len {key : List Int32} (hk : key.length = 24) : (d_msg key).length = 128 := by
  simp only [d_msg, List.length_append, List.length_replicate, hk]
  rfl
theorem sp_putInto {a rb ra aS aT aE : Nat} {l : List Int32} {sn ss es : Nat → Int32} (hp : k_prf h p pb pba pw ph [] fw fh) (hq0 : k_req h a rb ra aS aT aE l sn ss es) {r ra2 N q : Nat} {l2 : List Int32} (hr : k_row h r ra2 N l2) (h1 : ss 3 = nI q) (h2 : es 3 = nI (q + 24)) (h3 : q + 24 ≤ l.length) (hN : l2.length + 28 ≤ N) (hne : ∀ x ∈ [p, pb, pba, pw, ph], x ∉ [r, ra2]) (hne2 : rb ∉ [pb, pba] ∧ ra ∉ [pb, pba]) : q_SP G mX2_putInto [.ref p, .ref r, .ref a] h 0 0 (fun o h' => o = none ∧ k_row h' r ra2 N (l2 ++ d_proof ((l.drop q).take 24)) ∧ k_same [p, pb, pba, pw, ph, r, ra2] h h') := by
  have nr : ∀ x ∈ [r, ra2], x ∉ [p, pb, pba, pw, ph] := fun x hx hy => hne x hy hx
  have nr0 := nr r (by simp)
  have nr1 := nr ra2 (by simp)
  simp only [List.mem_cons, List.not_mem_nil, or_false, not_or] at nr0 nr1
  obtain ⟨na0, na1, na2, na3, na4⟩ := nr0
  obtain ⟨nb0, nb1, nb2, nb3, nb4⟩ := nr1
  have hkey : ((l.drop q).take 24).length = 24 := by rw [List.length_take, List.length_drop]; omega
  have ho := hp.1
  have hoa := hq0.1
  have hnd := hp.2.2.2.2
  refine q_enter (M := mX2_putInto) (by decide +kernel) rfl (Nat.le_of_ble_eq_true rfl) ?_
  refine x_aload_n 2 dX2_putInto_0 rfl (by first | rfl | assumption) ?_
  refine x_aload_n 0 dX2_putInto_1 rfl (by first | rfl | assumption) ?_
  refine gf_X2_putInto_16 dX2_putInto_2 (by first | assumption | exact va_up_self _ _ _) rfl ?_
  refine cl_X2_putInto_5 (sp_putKey hq0 hp.2.1 hne2 h1 h2 h3 (by show 0 + 24 ≤ 128; omega)) (by first | assumption | exact va_up_self _ _ _) (Nat.le_of_ble_eq_true rfl) ⟨Nat.le_of_ble_eq_true rfl, Nat.le_of_ble_eq_true rfl⟩ (fun r0 g1 hq => ?_)
  obtain ⟨rfl, r1, s1⟩ := hq
  have p1 := hp.toL s1 r1
  have ho := p1.1
  refine x_aload_n 0 dX2_putInto_8 rfl (by first | rfl | assumption) ?_
  refine gf_X2_putInto_16 dX2_putInto_9 (by first | assumption | exact va_up_self _ _ _) rfl ?_
  refine ks_X2_putInto_33 dX2_putInto_12 ?_
  refine cl_X2_putInto_14 (sp_addText (i := 11) (by decide) r1 (by rw [List.nil_append, hkey]; decide)) (by exact (r1.choose_spec.1)) (Nat.le_of_ble_eq_true rfl) ⟨Nat.le_of_ble_eq_true rfl, Nat.le_of_ble_eq_true rfl⟩ (fun r0 g2 hq => ?_)
  obtain ⟨rfl, r2, s2⟩ := hq
  have p2 := p1.toL s2 r2
  have ho := p2.1
  have hl2 : ([] ++ (l.drop q).take 24 ++ q_byt.getD 11 []).length = 60 := by
    rw [List.length_append, List.nil_append, hkey]; rfl
  refine x_aload_n 0 dX2_putInto_17 rfl (by first | rfl | assumption) ?_
  refine cl_X2_putInto_18 (sp_pad p2 hl2) (by first | assumption | exact va_up_self _ _ _) (Nat.le_of_ble_eq_true rfl) ⟨Nat.le_of_ble_eq_true rfl, Nat.le_of_ble_eq_true rfl⟩ (fun r0 g3 hq => ?_)
  obtain ⟨rfl, p3, s3⟩ := hq
  rw [List.nil_append] at p3
  replace p3 : k_prf g3 p pb pba pw ph (d_msg ((l.drop q).take 24)) fw fh := p3
  have ho := p3.1
  refine x_aload_n 0 dX2_putInto_21 rfl (by first | rfl | assumption) ?_
  refine cl_X2_putInto_22 (sp_startWords p3) (by first | assumption | exact va_up_self _ _ _) (Nat.le_of_ble_eq_true rfl) ⟨Nat.le_of_ble_eq_true rfl, Nat.le_of_ble_eq_true rfl⟩ (fun r0 g4 hq => ?_)
  obtain ⟨rfl, ⟨fh1, p4, w4⟩, s4⟩ := hq
  have ho := p4.1
  refine x_iconst 0 dX2_putInto_25 (by decide) ?_
  refine x_istore_n 3 dX2_putInto_26 rfl (by decide) rfl ?_
  refine x_iload_n 3 dX2_putInto_27 rfl (by first | rfl | assumption) ?_
  refine x_sipush 128 dX2_putInto_28 (by decide) ?_
  refine x_icmp_ge 49 dX2_putInto_31 (by decide) (fun z => absurd z (by decide)) (fun _ => ?_)
  refine x_aload_n 0 dX2_putInto_34 rfl (by first | rfl | assumption) ?_
  refine x_iload_n 3 dX2_putInto_35 rfl (by first | rfl | assumption) ?_
  refine cl_X2_putInto_36 (sp_spread (f := 0) p4 (d_msg_len hkey) (by omega)) (by first | assumption | exact va_up_self _ _ _) (Nat.le_of_ble_eq_true rfl) ⟨Nat.le_of_ble_eq_true rfl, Nat.le_of_ble_eq_true rfl⟩ (fun r0 g5 hq => ?_)
  obtain ⟨rfl, ⟨fw1, p5, w5⟩, s5⟩ := hq
  have ho := p5.1
  refine x_aload_n 0 dX2_putInto_39 rfl (by first | rfl | assumption) ?_
  refine cl_X2_putInto_40 (sp_mix p5 w5 w4) (by first | assumption | exact va_up_self _ _ _) (Nat.le_of_ble_eq_true rfl) ⟨Nat.le_of_ble_eq_true rfl, Nat.le_of_ble_eq_true rfl⟩ (fun r0 g6 hq => ?_)
  obtain ⟨rfl, ⟨fh2, p6, w6⟩, s6⟩ := hq
  have ho := p6.1
  refine x_iinc 64 dX2_putInto_43 (by first | rfl | assumption) (by decide) (by decide) rfl ?_
  refine x_goto 27 dX2_putInto_46 (by decide) ?_
  refine x_iload_n 3 dX2_putInto_27 rfl (by first | rfl | assumption) ?_
  refine x_sipush 128 dX2_putInto_28 (by decide) ?_
  refine x_icmp_ge 49 dX2_putInto_31 (by decide) (fun z => absurd z (by decide)) (fun _ => ?_)
  refine x_aload_n 0 dX2_putInto_34 rfl (by first | rfl | assumption) ?_
  refine x_iload_n 3 dX2_putInto_35 rfl (by first | rfl | assumption) ?_
  refine cl_X2_putInto_36 (sp_spread (f := 64) p6 (d_msg_len hkey) (by omega)) (by first | assumption | exact va_up_self _ _ _) (Nat.le_of_ble_eq_true rfl) ⟨Nat.le_of_ble_eq_true rfl, Nat.le_of_ble_eq_true rfl⟩ (fun r0 g7 hq => ?_)
  obtain ⟨rfl, ⟨fw2, p7, w7⟩, s7⟩ := hq
  have ho := p7.1
  refine x_aload_n 0 dX2_putInto_39 rfl (by first | rfl | assumption) ?_
  refine cl_X2_putInto_40 (sp_mix p7 w7 w6) (by first | assumption | exact va_up_self _ _ _) (Nat.le_of_ble_eq_true rfl) ⟨Nat.le_of_ble_eq_true rfl, Nat.le_of_ble_eq_true rfl⟩ (fun r0 g8 hq => ?_)
  obtain ⟨rfl, ⟨fh3, p8, w8⟩, s8⟩ := hq
  have ho := p8.1
  refine x_iinc 64 dX2_putInto_43 (by first | rfl | assumption) (by decide) (by decide) rfl ?_
  refine x_goto 27 dX2_putInto_46 (by decide) ?_
  refine x_iload_n 3 dX2_putInto_27 rfl (by first | rfl | assumption) ?_
  refine x_sipush 128 dX2_putInto_28 (by decide) ?_
  refine x_icmp_ge 49 dX2_putInto_31 (by decide) (fun _ => ?_) (fun z => absurd (by decide) z)
  have s12 := (s1.tr s2)
  have t8 : k_same [p, pb, pba, pw, ph] h g8 := by
    refine ((((((k_same.tr (s12.mono ?_) (s3.mono ?_)).tr (s4.mono ?_)).tr (s5.mono ?_)).tr (s6.mono ?_)).tr (s7.mono ?_)).tr (s8.mono ?_)) <;> (intro x hx; simp at hx ⊢; omega)
  have hr8 := hr.kept t8 (nr r (by simp)) (nr ra2 (by simp))
  refine x_aload_n 0 dX2_putInto_49 rfl (by first | rfl | assumption) ?_
  refine x_aload_n 1 dX2_putInto_50 rfl (by first | rfl | assumption) ?_
  refine cl_X2_putInto_51 (sp_putBase64 p8 w8 hr8 hne hN) (by first | assumption | exact va_up_self _ _ _) (Nat.le_of_ble_eq_true rfl) ⟨Nat.le_of_ble_eq_true rfl, Nat.le_of_ble_eq_true rfl⟩ (fun r0 g9 hq => ?_)
  obtain ⟨rfl, r9, s9⟩ := hq
  refine x_vret rfl dX2_putInto_54 (by decide) (by decide) ?_
  refine ⟨rfl, ?_, (t8.mono ?_).tr (s9.mono ?_)⟩
  · have e : d_proof ((l.drop q).take 24) = d_b64 (d_byte (d_add (d_add d_H0 (d_run (d_W (fun i => (d_msg ((l.drop q).take 24)).getD (0 + i) 0)) 80 d_H0)) (d_run (d_W (fun i => (d_msg ((l.drop q).take 24)).getD (64 + i) 0)) 80 (d_add d_H0 (d_run (d_W (fun i => (d_msg ((l.drop q).take 24)).getD (0 + i) 0)) 80 d_H0))))) := by
      simp only [Nat.zero_add]
      rfl
    rw [e]
    exact r9
  · intro x hx; simp at hx ⊢; omega
  · intro x hx; simp at hx ⊢; omega
end PutI
