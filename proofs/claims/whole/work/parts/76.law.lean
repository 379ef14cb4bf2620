/-! the law: its cases -/
section LawC
variable {G : q_G} {h : q_H} {A B : Nat → Nat} {σ : z_S} {o i cells slots : Nat} {F : q_F}
theorem k_m.re {h0 h : q_H} {B : Nat → Nat} {V : Nat → Value} {F : Nat → Nat → Int32} (hm : k_m h0 h B V F) : k_m h h B V F := ⟨hm.1, hm.2.1, hm.2.2.1, hm.2.2.2.1, fun _ _ => rfl⟩
theorem k_m.at' {h0 h h' : q_H} {B : Nat → Nat} {V : Nat → Value} {F : Nat → Nat → Int32} (hm : k_m h0 h B V F) (e : ∀ j, j < 16 → h' (B j) = h (B j)) : k_m h' h' B V F := ⟨(e 0 (by decide)).trans hm.1, fun i hi => (e i hi.2).trans (hm.2.1 i hi), hm.2.2.1, hm.2.2.2.1, fun _ _ => rfl⟩
/-- what holds before each call of a script -/
def l_inv (h : q_H) (A B : Nat → Nat) (o : Nat) (σ : z_S) : Prop := k_tlk h A σ ∧ t_wf σ ∧ (∃ V F, k_m h h B V F ∧ m_rel V F σ) ∧ (∃ f, h o = some (k_al 1 f)) ∧ (∀ i j, i < 24 → j < 16 → A i ≠ B j) ∧ o ∉ k_cells A ∧ ∀ j, j < 16 → o ≠ B j
/-- the reference is as it was where only the class has worked -/
theorem l_inv.mdl {g : q_H} {V : Nat → Value} {F : Nat → Nat → Int32} (hi : l_inv h A B o σ) (ex : k_ext (o :: k_cells A) h g) (hm : k_m h h B V F) : k_m g g B V F := by
  obtain ⟨-, -, -, -, hd, -, ho⟩ := hi
  refine hm.at' (fun j hj => ex (B j) (fun z => ?_) ?_)
  · rcases List.mem_cons.mp z with z | z
    · exact ho j hj z.symm
    · obtain ⟨i, hi, e⟩ := List.mem_map.mp z
      exact hd i j (List.mem_range.mp hi) hj e
  · by_cases hj0 : j = 0
    · rw [hj0, hm.1]; simp
    · rw [hm.2.1 j ⟨by omega, hj⟩]; simp
/-- both have worked -/
theorem l_inv.two {g g2 : q_H} {σ' : z_S} {V : Nat → Value} {F : Nat → Nat → Int32} (hi : l_inv h A B o σ) (ht : k_tlk g A σ') (hw : t_wf σ') (ho : ∃ f, g o = some (k_al 1 f)) (hm : k_m g g2 B V F) (hr : m_rel V F σ') : l_inv g2 A B o σ' := by
  obtain ⟨-, -, -, -, hd, hoA, hoB⟩ := hi
  refine ⟨ht.agree (fun i hi => hm.2.2.2.2 _ (fun j hj => hd i j hi hj)), hw, ⟨V, F, hm.re, hr⟩, ?_, hd, hoA, hoB⟩
  obtain ⟨f, hf⟩ := ho
  exact ⟨f, (hm.2.2.2.2 o (fun j hj => hoB j hj)).trans hf⟩
theorem l_inv.dr {σ : z_S} (hi : l_inv h A B o σ) : σ.2.2.2.2.2.2.1.length ≤ 100 := by
  obtain ⟨-, -, ⟨V, F, -, hr⟩, -⟩ := hi
  obtain ⟨st, ec, dl, pg, rq, out, dr, R, w⟩ := σ
  exact hr.1.2.2.2.2.2.2.2
/-- what follows a call of the script -/
def l_next (G : q_G) (F : q_F) (A B : Nat → Nat) (o i cells slots : Nat) : Prop := ∀ (h1 : q_H) (σ1 : z_S) (c1 s1 : Nat) (lv1 : List (Nat × Value)), l_inv h1 A B o σ1 → c1 ≤ cells + 40 → s1 ≤ slots + 1744 → q_X G mL_law room_1 F 815 ([(0, .ref (q_b G)), (1, .ref (A 0)), (2, .ref (B 0)), (3, .ref o), (4, .int (nI i))] ++ lv1) [] h1 c1 s1
theorem l_case_1 (hi : l_inv h A B o σ) (v1 : vp_in (nI i + 1) (q_L G)) (v2 : vp_in (nI i + 2) (q_L G)) (v3 : vp_in (nI i + 3) (q_L G)) (hb : cells + 40 ≤ 600128 ∧ slots + 1744 ≤ 7301097) (k : l_next G F A B o i cells slots) : q_X G mL_law room_1 F 224 [(0, .ref (q_b G)), (1, .ref (A 0)), (2, .ref (B 0)), (3, .ref o), (4, .int (nI i))] [] h cells slots := by
  have hI := hi
  obtain ⟨ht, hw, ⟨V, FF, hm, hrel⟩, ⟨f, ho⟩, hd, hoA, hoB⟩ := hi
  obtain ⟨fs, ob⟩ := ht.ob
  obtain ⟨st, ec, dl, pg, rq, out, dr, R, w⟩ := σ
  refine x_aload_n 1 dL_law_224 rfl (by first | rfl | assumption) ?_
  refine cl_L_law_225 (sp_get_state ht) ob (Nat.le_of_ble_eq_true rfl) ⟨by omega, by omega⟩ (fun r g hq => ?_)
  obtain ⟨rfl, hg⟩ := hq
  rw [hg]
  refine x_aload_n 2 dL_law_228 rfl (by first | rfl | assumption) ?_
  refine cl_L_law_229 (sn_state hm hrel) hm.1 (Nat.le_of_ble_eq_true rfl) ⟨by omega, by omega⟩ (fun r g2 hq => ?_)
  obtain ⟨rfl, V2, F2, hm2, k0, hr2⟩ := hq
  refine x_icmp_eq 815 dL_law_232 (by decide) (fun _ => ?_) (fun z => absurd rfl z)
  exact k _ _ _ _ [] (hI.two ht hw ⟨f, ho⟩ hm2 hr2) (by omega) (by omega)
theorem l_case_2 (hi : l_inv h A B o σ) (v1 : vp_in (nI i + 1) (q_L G)) (v2 : vp_in (nI i + 2) (q_L G)) (v3 : vp_in (nI i + 3) (q_L G)) (hb : cells + 40 ≤ 600128 ∧ slots + 1744 ≤ 7301097) (k : l_next G F A B o i cells slots) : q_X G mL_law room_1 F 237 [(0, .ref (q_b G)), (1, .ref (A 0)), (2, .ref (B 0)), (3, .ref o), (4, .int (nI i))] [] h cells slots := by
  have hI := hi
  obtain ⟨ht, hw, ⟨V, FF, hm, hrel⟩, ⟨f, ho⟩, hd, hoA, hoB⟩ := hi
  obtain ⟨fs, ob⟩ := ht.ob
  obtain ⟨st, ec, dl, pg, rq, out, dr, R, w⟩ := σ
  refine x_aload_n 1 dL_law_237 rfl (by first | rfl | assumption) ?_
  refine cl_L_law_238 (sp_get_endCode ht) ob (Nat.le_of_ble_eq_true rfl) ⟨by omega, by omega⟩ (fun r g hq => ?_)
  obtain ⟨rfl, hg⟩ := hq
  rw [hg]
  refine x_aload_n 2 dL_law_241 rfl (by first | rfl | assumption) ?_
  refine cl_L_law_242 (sn_endCode hm hrel) hm.1 (Nat.le_of_ble_eq_true rfl) ⟨by omega, by omega⟩ (fun r g2 hq => ?_)
  obtain ⟨rfl, V2, F2, hm2, k0, hr2⟩ := hq
  refine x_icmp_eq 815 dL_law_245 (by decide) (fun _ => ?_) (fun z => absurd rfl z)
  exact k _ _ _ _ [] (hI.two ht hw ⟨f, ho⟩ hm2 hr2) (by omega) (by omega)
theorem l_case_3 (hi : l_inv h A B o σ) (v1 : vp_in (nI i + 1) (q_L G)) (v2 : vp_in (nI i + 2) (q_L G)) (v3 : vp_in (nI i + 3) (q_L G)) (hb : cells + 40 ≤ 600128 ∧ slots + 1744 ≤ 7301097) (k : l_next G F A B o i cells slots) : q_X G mL_law room_1 F 250 [(0, .ref (q_b G)), (1, .ref (A 0)), (2, .ref (B 0)), (3, .ref o), (4, .int (nI i))] [] h cells slots := by
  have hI := hi
  obtain ⟨ht, hw, ⟨V, FF, hm, hrel⟩, ⟨f, ho⟩, hd, hoA, hoB⟩ := hi
  obtain ⟨fs, ob⟩ := ht.ob
  obtain ⟨st, ec, dl, pg, rq, out, dr, R, w⟩ := σ
  refine x_aload_n 1 dL_law_250 rfl (by first | rfl | assumption) ?_
  refine cl_L_law_251 (sp_get_outLength ht) ob (Nat.le_of_ble_eq_true rfl) ⟨by omega, by omega⟩ (fun r g hq => ?_)
  obtain ⟨rfl, hg⟩ := hq
  rw [hg]
  refine x_aload_n 2 dL_law_254 rfl (by first | rfl | assumption) ?_
  refine cl_L_law_255 (sn_outLength hm hrel) hm.1 (Nat.le_of_ble_eq_true rfl) ⟨by omega, by omega⟩ (fun r g2 hq => ?_)
  obtain ⟨rfl, V2, F2, hm2, k0, hr2⟩ := hq
  refine x_icmp_eq 815 dL_law_258 (by decide) (fun _ => ?_) (fun z => absurd rfl z)
  exact k _ _ _ _ [] (hI.two ht hw ⟨f, ho⟩ hm2 hr2) (by omega) (by omega)
theorem l_case_6 (hi : l_inv h A B o σ) (v1 : vp_in (nI i + 1) (q_L G)) (v2 : vp_in (nI i + 2) (q_L G)) (v3 : vp_in (nI i + 3) (q_L G)) (hb : cells + 40 ≤ 600128 ∧ slots + 1744 ≤ 7301097) (k : l_next G F A B o i cells slots) : q_X G mL_law room_1 F 344 [(0, .ref (q_b G)), (1, .ref (A 0)), (2, .ref (B 0)), (3, .ref o), (4, .int (nI i))] [] h cells slots := by
  have hI := hi
  obtain ⟨ht, hw, ⟨V, FF, hm, hrel⟩, ⟨f, ho⟩, hd, hoA, hoB⟩ := hi
  obtain ⟨fs, ob⟩ := ht.ob
  obtain ⟨st, ec, dl, pg, rq, out, dr, R, w⟩ := σ
  refine x_aload_n 1 dL_law_344 rfl (by first | rfl | assumption) ?_
  refine cl_L_law_345 (sp_get_messages ht) ob (Nat.le_of_ble_eq_true rfl) ⟨by omega, by omega⟩ (fun r g hq => ?_)
  obtain ⟨rfl, hg⟩ := hq
  rw [hg]
  refine x_aload_n 2 dL_law_348 rfl (by first | rfl | assumption) ?_
  refine cl_L_law_349 (sn_messages hm hrel) hm.1 (Nat.le_of_ble_eq_true rfl) ⟨by omega, by omega⟩ (fun r g2 hq => ?_)
  obtain ⟨rfl, V2, F2, hm2, k0, hr2⟩ := hq
  refine x_icmp_eq 815 dL_law_352 (by decide) (fun _ => ?_) (fun z => absurd rfl z)
  exact k _ _ _ _ [] (hI.two ht hw ⟨f, ho⟩ hm2 hr2) (by omega) (by omega)
theorem l_case_7 (hi : l_inv h A B o σ) (v1 : vp_in (nI i + 1) (q_L G)) (v2 : vp_in (nI i + 2) (q_L G)) (v3 : vp_in (nI i + 3) (q_L G)) (hb : cells + 40 ≤ 600128 ∧ slots + 1744 ≤ 7301097) (k : l_next G F A B o i cells slots) : q_X G mL_law room_1 F 357 [(0, .ref (q_b G)), (1, .ref (A 0)), (2, .ref (B 0)), (3, .ref o), (4, .int (nI i))] [] h cells slots := by
  have hI := hi
  obtain ⟨ht, hw, ⟨V, FF, hm, hrel⟩, ⟨f, ho⟩, hd, hoA, hoB⟩ := hi
  obtain ⟨fs, ob⟩ := ht.ob
  obtain ⟨st, ec, dl, pg, rq, out, dr, R, w⟩ := σ
  refine x_aload_n 1 dL_law_357 rfl (by first | rfl | assumption) ?_
  refine cl_L_law_358 (sp_get_delivered ht) ob (Nat.le_of_ble_eq_true rfl) ⟨by omega, by omega⟩ (fun r g hq => ?_)
  obtain ⟨rfl, hg⟩ := hq
  rw [hg]
  refine x_aload_n 2 dL_law_361 rfl (by first | rfl | assumption) ?_
  refine cl_L_law_362 (sn_delivered hm hrel) hm.1 (Nat.le_of_ble_eq_true rfl) ⟨by omega, by omega⟩ (fun r g2 hq => ?_)
  obtain ⟨rfl, V2, F2, hm2, k0, hr2⟩ := hq
  refine x_icmp_eq 815 dL_law_365 (by decide) (fun _ => ?_) (fun z => absurd rfl z)
  exact k _ _ _ _ [] (hI.two ht hw ⟨f, ho⟩ hm2 hr2) (by omega) (by omega)
theorem l_case_12 (hi : l_inv h A B o σ) (v1 : vp_in (nI i + 1) (q_L G)) (v2 : vp_in (nI i + 2) (q_L G)) (v3 : vp_in (nI i + 3) (q_L G)) (hb : cells + 40 ≤ 600128 ∧ slots + 1744 ≤ 7301097) (k : l_next G F A B o i cells slots) : q_X G mL_law room_1 F 594 [(0, .ref (q_b G)), (1, .ref (A 0)), (2, .ref (B 0)), (3, .ref o), (4, .int (nI i))] [] h cells slots := by
  have hI := hi
  obtain ⟨ht, hw, ⟨V, FF, hm, hrel⟩, ⟨f, ho⟩, hd, hoA, hoB⟩ := hi
  obtain ⟨fs, ob⟩ := ht.ob
  obtain ⟨st, ec, dl, pg, rq, out, dr, R, w⟩ := σ
  refine x_aload_n 1 dL_law_594 rfl (by first | rfl | assumption) ?_
  refine cl_L_law_595 (sp_get_pongs ht) ob (Nat.le_of_ble_eq_true rfl) ⟨by omega, by omega⟩ (fun r g hq => ?_)
  obtain ⟨rfl, hg⟩ := hq
  rw [hg]
  refine x_aload_n 2 dL_law_598 rfl (by first | rfl | assumption) ?_
  refine cl_L_law_599 (sn_pongs hm hrel) hm.1 (Nat.le_of_ble_eq_true rfl) ⟨by omega, by omega⟩ (fun r g2 hq => ?_)
  obtain ⟨rfl, V2, F2, hm2, k0, hr2⟩ := hq
  refine x_icmp_eq 815 dL_law_602 (by decide) (fun _ => ?_) (fun z => absurd rfl z)
  exact k _ _ _ _ [] (hI.two ht hw ⟨f, ho⟩ hm2 hr2) (by omega) (by omega)
theorem l_case_0 (hi : l_inv h A B o σ) (v1 : vp_in (nI i + 1) (q_L G)) (v2 : vp_in (nI i + 2) (q_L G)) (v3 : vp_in (nI i + 3) (q_L G)) (hb : cells + 40 ≤ 600128 ∧ slots + 1744 ≤ 7301097) (k : l_next G F A B o i cells slots) : q_X G mL_law room_1 F 124 [(0, .ref (q_b G)), (1, .ref (A 0)), (2, .ref (B 0)), (3, .ref o), (4, .int (nI i))] [] h cells slots := by
  have hI := hi
  obtain ⟨ht, hw, ⟨V, FF, hm, hrel⟩, ⟨f, ho⟩, hd, hoA, hoB⟩ := hi
  obtain ⟨fs, ob⟩ := ht.ob
  refine x_aload_n 1 dL_law_124 rfl (by first | rfl | assumption) ?_
  refine x_aload_n 0 dL_law_125 rfl (by first | rfl | assumption) ?_
  refine x_iload dL_law_126 (by first | rfl | assumption) ?_
  refine x_iconst 1 dL_law_128 (by decide) ?_
  refine x_iadd dL_law_129 ?_
  refine x_sld (by assumption) dL_law_130 ?_
  refine x_i2l dL_law_131 ?_
  refine x_bipush 32 dL_law_132 (by decide) ?_
  refine x_lshl dL_law_134 ?_
  refine x_aload_n 0 dL_law_135 rfl (by first | rfl | assumption) ?_
  refine x_iload dL_law_136 (by first | rfl | assumption) ?_
  refine x_iconst 2 dL_law_138 (by decide) ?_
  refine x_iadd dL_law_139 ?_
  refine x_sld (by assumption) dL_law_140 ?_
  refine x_i2l dL_law_141 ?_
  refine k2_L_law_53 dL_law_142 ?_
  refine x_land dL_law_145 ?_
  refine x_lor dL_law_146 ?_
  refine x_aload_n 0 dL_law_147 rfl (by first | rfl | assumption) ?_
  refine x_iload dL_law_148 (by first | rfl | assumption) ?_
  refine x_iconst 3 dL_law_150 (by decide) ?_
  refine x_iadd dL_law_151 ?_
  refine x_sld (by assumption) dL_law_152 ?_
  refine x_aload_n 3 dL_law_153 rfl (by first | rfl | assumption) ?_
  refine cl_L_law_154 (sw_feed ht hw ho hoA _ _) (Nat.le_of_ble_eq_true rfl) ⟨by omega, by omega⟩ (fun r g hq => ?_)
  obtain ⟨rfl, ht2, ⟨f2, ho2, hf2⟩, ex⟩ := hq
  refine x_istore dL_law_157 (by decide) rfl ?_
  refine x_aload_n 2 dL_law_159 rfl (by first | rfl | assumption) ?_
  refine x_aload_n 0 dL_law_160 rfl (by first | rfl | assumption) ?_
  refine x_iload dL_law_161 (by first | rfl | assumption) ?_
  refine x_iconst 1 dL_law_163 (by decide) ?_
  refine x_iadd dL_law_164 ?_
  refine x_sld (by assumption) dL_law_165 ?_
  refine x_i2l dL_law_166 ?_
  refine x_bipush 32 dL_law_167 (by decide) ?_
  refine x_lshl dL_law_169 ?_
  refine x_aload_n 0 dL_law_170 rfl (by first | rfl | assumption) ?_
  refine x_iload dL_law_171 (by first | rfl | assumption) ?_
  refine x_iconst 2 dL_law_173 (by decide) ?_
  refine x_iadd dL_law_174 ?_
  refine x_sld (by assumption) dL_law_175 ?_
  refine x_i2l dL_law_176 ?_
  refine k2_L_law_53 dL_law_177 ?_
  refine x_land dL_law_180 ?_
  refine x_lor dL_law_181 ?_
  refine x_aload_n 0 dL_law_182 rfl (by first | rfl | assumption) ?_
  refine x_iload dL_law_183 (by first | rfl | assumption) ?_
  refine x_iconst 3 dL_law_185 (by decide) ?_
  refine x_iadd dL_law_186 ?_
  refine x_sld (by assumption) dL_law_187 ?_
  refine cl_L_law_188 (sm_feed (hI.mdl ex hm) hrel hw _ _) (hI.mdl ex hm).1 (Nat.le_of_ble_eq_true rfl) ⟨by omega, by omega⟩ (fun r g2 hq => ?_)
  obtain ⟨rfl, V2, F2, hm2, k0, hr2⟩ := hq
  have ho3 : g2 o = some (k_al 1 f2) := (hm2.2.2.2.2 o (fun j hj => hoB j hj)).trans ho2
  have hI2 := hI.two ht2 (w_feed hw _ _) ⟨f2, ho2⟩ hm2 hr2
  refine x_istore dL_law_191 (by decide) rfl ?_
  refine x_aload_n 2 dL_law_193 rfl (by first | rfl | assumption) ?_
  refine cl_L_law_194 (sm_thrown hm2 k0) hm2.1 (Nat.le_of_ble_eq_true rfl) ⟨by omega, by omega⟩ (fun r g3 hq => ?_)
  obtain ⟨rfl, hg⟩ := hq
  rw [hg]
  refine x_iload dL_law_197 (by first | rfl | assumption) ?_
  refine x_icmp_eq 204 dL_law_199 (by decide) (fun _ => ?_) (fun z => absurd rfl z)
  refine x_iload dL_law_204 (by first | rfl | assumption) ?_
  refine x_if_ne 221 dL_law_206 (by decide) (fun _ => ?_) (fun z0 => ?_)
  · refine x_goto 815 dL_law_221 (by decide) ?_
    exact k _ _ _ _ [_, _] hI2 (by omega) (by omega)
  · refine x_aload_n 3 dL_law_209 rfl (by first | rfl | assumption) ?_
    refine x_iconst 0 dL_law_210 (by decide) ?_
    refine x_lald dL_law_211 ho3 (show vp_in 0 1 by unfold vp_in; decide) ?_
    refine x_iload dL_law_212 (by first | rfl | assumption) ?_
    refine x_i2l dL_law_214 ?_
    refine x_lcmp dL_law_215 ?_
    refine x_if_eq 221 dL_law_216 (by decide) (fun _ => ?_) (fun z => absurd ((lg_cmp_eq _ _).mpr (hf2 z0)) z)
    refine x_goto 815 dL_law_221 (by decide) ?_
    exact k _ _ _ _ [_, _] hI2 (by omega) (by omega)
theorem l_case_4 (hi : l_inv h A B o σ) (v1 : vp_in (nI i + 1) (q_L G)) (v2 : vp_in (nI i + 2) (q_L G)) (v3 : vp_in (nI i + 3) (q_L G)) (hb : cells + 40 ≤ 600128 ∧ slots + 1744 ≤ 7301097) (k : l_next G F A B o i cells slots) : q_X G mL_law room_1 F 263 [(0, .ref (q_b G)), (1, .ref (A 0)), (2, .ref (B 0)), (3, .ref o), (4, .int (nI i))] [] h cells slots := by
  have hI := hi
  obtain ⟨ht, hw, ⟨V, FF, hm, hrel⟩, ⟨f, ho⟩, hd, hoA, hoB⟩ := hi
  obtain ⟨fs, ob⟩ := ht.ob
  refine x_aload_n 1 dL_law_263 rfl (by first | rfl | assumption) ?_
  refine x_aload_n 0 dL_law_264 rfl (by first | rfl | assumption) ?_
  refine x_iload dL_law_265 (by first | rfl | assumption) ?_
  refine x_iconst 1 dL_law_267 (by decide) ?_
  refine x_iadd dL_law_268 ?_
  refine x_sld (by assumption) dL_law_269 ?_
  refine x_aload_n 3 dL_law_270 rfl (by first | rfl | assumption) ?_
  refine cl_L_law_271 (sw_outAt ht ho hoA _) (Nat.le_of_ble_eq_true rfl) ⟨by omega, by omega⟩ (fun r g hq => ?_)
  obtain ⟨rfl, ht2, ⟨f2, ho2, hf2⟩, ex⟩ := hq
  refine x_istore dL_law_274 (by decide) rfl ?_
  refine x_aload_n 2 dL_law_276 rfl (by first | rfl | assumption) ?_
  refine x_aload_n 0 dL_law_277 rfl (by first | rfl | assumption) ?_
  refine x_iload dL_law_278 (by first | rfl | assumption) ?_
  refine x_iconst 1 dL_law_280 (by decide) ?_
  refine x_iadd dL_law_281 ?_
  refine x_sld (by assumption) dL_law_282 ?_
  refine cl_L_law_283 (sn_outAt (hI.mdl ex hm) hrel _) (hI.mdl ex hm).1 (Nat.le_of_ble_eq_true rfl) ⟨by omega, by omega⟩ (fun r g2 hq => ?_)
  obtain ⟨rfl, V2, F2, hm2, k0, hr2⟩ := hq
  have ho3 : g2 o = some (k_al 1 f2) := (hm2.2.2.2.2 o (fun j hj => hoB j hj)).trans ho2
  have hI2 := hI.two ht2 ((by rw [w_outAt hw]; exact hw)) ⟨f2, ho2⟩ hm2 hr2
  refine x_istore dL_law_286 (by decide) rfl ?_
  refine x_aload_n 2 dL_law_288 rfl (by first | rfl | assumption) ?_
  refine cl_L_law_289 (sm_thrown hm2 k0) hm2.1 (Nat.le_of_ble_eq_true rfl) ⟨by omega, by omega⟩ (fun r g3 hq => ?_)
  obtain ⟨rfl, hg⟩ := hq
  rw [hg]
  refine x_iload dL_law_292 (by first | rfl | assumption) ?_
  refine x_icmp_eq 299 dL_law_294 (by decide) (fun _ => ?_) (fun z => absurd rfl z)
  refine x_iload dL_law_299 (by first | rfl | assumption) ?_
  refine x_if_ne 316 dL_law_301 (by decide) (fun _ => ?_) (fun z0 => ?_)
  · refine x_goto 815 dL_law_316 (by decide) ?_
    exact k _ _ _ _ [_, _] hI2 (by omega) (by omega)
  · refine x_aload_n 3 dL_law_304 rfl (by first | rfl | assumption) ?_
    refine x_iconst 0 dL_law_305 (by decide) ?_
    refine x_lald dL_law_306 ho3 (show vp_in 0 1 by unfold vp_in; decide) ?_
    refine x_iload dL_law_307 (by first | rfl | assumption) ?_
    refine x_i2l dL_law_309 ?_
    refine x_lcmp dL_law_310 ?_
    refine x_if_eq 316 dL_law_311 (by decide) (fun _ => ?_) (fun z => absurd ((lg_cmp_eq _ _).mpr (hf2 z0)) z)
    refine x_goto 815 dL_law_316 (by decide) ?_
    exact k _ _ _ _ [_, _] hI2 (by omega) (by omega)
theorem l_case_8 (hi : l_inv h A B o σ) (v1 : vp_in (nI i + 1) (q_L G)) (v2 : vp_in (nI i + 2) (q_L G)) (v3 : vp_in (nI i + 3) (q_L G)) (hb : cells + 40 ≤ 600128 ∧ slots + 1744 ≤ 7301097) (k : l_next G F A B o i cells slots) : q_X G mL_law room_1 F 370 [(0, .ref (q_b G)), (1, .ref (A 0)), (2, .ref (B 0)), (3, .ref o), (4, .int (nI i))] [] h cells slots := by
  have hI := hi
  obtain ⟨ht, hw, ⟨V, FF, hm, hrel⟩, ⟨f, ho⟩, hd, hoA, hoB⟩ := hi
  obtain ⟨fs, ob⟩ := ht.ob
  refine x_aload_n 1 dL_law_370 rfl (by first | rfl | assumption) ?_
  refine x_aload_n 0 dL_law_371 rfl (by first | rfl | assumption) ?_
  refine x_iload dL_law_372 (by first | rfl | assumption) ?_
  refine x_iconst 1 dL_law_374 (by decide) ?_
  refine x_iadd dL_law_375 ?_
  refine x_sld (by assumption) dL_law_376 ?_
  refine x_aload_n 3 dL_law_377 rfl (by first | rfl | assumption) ?_
  refine cl_L_law_378 (sw_kind ht ho hoA _) (Nat.le_of_ble_eq_true rfl) ⟨by omega, by omega⟩ (fun r g hq => ?_)
  obtain ⟨rfl, ht2, ⟨f2, ho2, hf2⟩, ex⟩ := hq
  refine x_istore dL_law_381 (by decide) rfl ?_
  refine x_aload_n 2 dL_law_383 rfl (by first | rfl | assumption) ?_
  refine x_aload_n 0 dL_law_384 rfl (by first | rfl | assumption) ?_
  refine x_iload dL_law_385 (by first | rfl | assumption) ?_
  refine x_iconst 1 dL_law_387 (by decide) ?_
  refine x_iadd dL_law_388 ?_
  refine x_sld (by assumption) dL_law_389 ?_
  refine cl_L_law_390 (sn_kind (hI.mdl ex hm) hrel _) (hI.mdl ex hm).1 (Nat.le_of_ble_eq_true rfl) ⟨by omega, by omega⟩ (fun r g2 hq => ?_)
  obtain ⟨rfl, V2, F2, hm2, k0, hr2⟩ := hq
  have ho3 : g2 o = some (k_al 1 f2) := (hm2.2.2.2.2 o (fun j hj => hoB j hj)).trans ho2
  have hI2 := hI.two ht2 ((by rw [w_kind hw]; exact hw)) ⟨f2, ho2⟩ hm2 hr2
  refine x_istore dL_law_393 (by decide) rfl ?_
  refine x_aload_n 2 dL_law_395 rfl (by first | rfl | assumption) ?_
  refine cl_L_law_396 (sm_thrown hm2 k0) hm2.1 (Nat.le_of_ble_eq_true rfl) ⟨by omega, by omega⟩ (fun r g3 hq => ?_)
  obtain ⟨rfl, hg⟩ := hq
  rw [hg]
  refine x_iload dL_law_399 (by first | rfl | assumption) ?_
  refine x_icmp_eq 406 dL_law_401 (by decide) (fun _ => ?_) (fun z => absurd rfl z)
  refine x_iload dL_law_406 (by first | rfl | assumption) ?_
  refine x_if_ne 423 dL_law_408 (by decide) (fun _ => ?_) (fun z0 => ?_)
  · refine x_goto 815 dL_law_423 (by decide) ?_
    exact k _ _ _ _ [_, _] hI2 (by omega) (by omega)
  · refine x_aload_n 3 dL_law_411 rfl (by first | rfl | assumption) ?_
    refine x_iconst 0 dL_law_412 (by decide) ?_
    refine x_lald dL_law_413 ho3 (show vp_in 0 1 by unfold vp_in; decide) ?_
    refine x_iload dL_law_414 (by first | rfl | assumption) ?_
    refine x_i2l dL_law_416 ?_
    refine x_lcmp dL_law_417 ?_
    refine x_if_eq 423 dL_law_418 (by decide) (fun _ => ?_) (fun z => absurd ((lg_cmp_eq _ _).mpr (hf2 z0)) z)
    refine x_goto 815 dL_law_423 (by decide) ?_
    exact k _ _ _ _ [_, _] hI2 (by omega) (by omega)
theorem l_case_9 (hi : l_inv h A B o σ) (v1 : vp_in (nI i + 1) (q_L G)) (v2 : vp_in (nI i + 2) (q_L G)) (v3 : vp_in (nI i + 3) (q_L G)) (hb : cells + 40 ≤ 600128 ∧ slots + 1744 ≤ 7301097) (k : l_next G F A B o i cells slots) : q_X G mL_law room_1 F 426 [(0, .ref (q_b G)), (1, .ref (A 0)), (2, .ref (B 0)), (3, .ref o), (4, .int (nI i))] [] h cells slots := by
  have hI := hi
  obtain ⟨ht, hw, ⟨V, FF, hm, hrel⟩, ⟨f, ho⟩, hd, hoA, hoB⟩ := hi
  obtain ⟨fs, ob⟩ := ht.ob
  refine x_aload_n 1 dL_law_426 rfl (by first | rfl | assumption) ?_
  refine x_aload_n 0 dL_law_427 rfl (by first | rfl | assumption) ?_
  refine x_iload dL_law_428 (by first | rfl | assumption) ?_
  refine x_iconst 1 dL_law_430 (by decide) ?_
  refine x_iadd dL_law_431 ?_
  refine x_sld (by assumption) dL_law_432 ?_
  refine x_aload_n 3 dL_law_433 rfl (by first | rfl | assumption) ?_
  refine cl_L_law_434 (sw_length ht ho hoA _) (Nat.le_of_ble_eq_true rfl) ⟨by omega, by omega⟩ (fun r g hq => ?_)
  obtain ⟨rfl, ht2, ⟨f2, ho2, hf2⟩, ex⟩ := hq
  refine x_istore dL_law_437 (by decide) rfl ?_
  refine x_aload_n 2 dL_law_439 rfl (by first | rfl | assumption) ?_
  refine x_aload_n 0 dL_law_440 rfl (by first | rfl | assumption) ?_
  refine x_iload dL_law_441 (by first | rfl | assumption) ?_
  refine x_iconst 1 dL_law_443 (by decide) ?_
  refine x_iadd dL_law_444 ?_
  refine x_sld (by assumption) dL_law_445 ?_
  refine cl_L_law_446 (sn_length (hI.mdl ex hm) hrel _) (hI.mdl ex hm).1 (Nat.le_of_ble_eq_true rfl) ⟨by omega, by omega⟩ (fun r g2 hq => ?_)
  obtain ⟨rfl, V2, F2, hm2, k0, hr2⟩ := hq
  have ho3 : g2 o = some (k_al 1 f2) := (hm2.2.2.2.2 o (fun j hj => hoB j hj)).trans ho2
  have hI2 := hI.two ht2 ((by rw [w_length hw]; exact hw)) ⟨f2, ho2⟩ hm2 hr2
  refine x_istore dL_law_449 (by decide) rfl ?_
  refine x_aload_n 2 dL_law_451 rfl (by first | rfl | assumption) ?_
  refine cl_L_law_452 (sm_thrown hm2 k0) hm2.1 (Nat.le_of_ble_eq_true rfl) ⟨by omega, by omega⟩ (fun r g3 hq => ?_)
  obtain ⟨rfl, hg⟩ := hq
  rw [hg]
  refine x_iload dL_law_455 (by first | rfl | assumption) ?_
  refine x_icmp_eq 462 dL_law_457 (by decide) (fun _ => ?_) (fun z => absurd rfl z)
  refine x_iload dL_law_462 (by first | rfl | assumption) ?_
  refine x_if_ne 479 dL_law_464 (by decide) (fun _ => ?_) (fun z0 => ?_)
  · refine x_goto 815 dL_law_479 (by decide) ?_
    exact k _ _ _ _ [_, _] hI2 (by omega) (by omega)
  · refine x_aload_n 3 dL_law_467 rfl (by first | rfl | assumption) ?_
    refine x_iconst 0 dL_law_468 (by decide) ?_
    refine x_lald dL_law_469 ho3 (show vp_in 0 1 by unfold vp_in; decide) ?_
    refine x_iload dL_law_470 (by first | rfl | assumption) ?_
    refine x_i2l dL_law_472 ?_
    refine x_lcmp dL_law_473 ?_
    refine x_if_eq 479 dL_law_474 (by decide) (fun _ => ?_) (fun z => absurd ((lg_cmp_eq _ _).mpr (hf2 z0)) z)
    refine x_goto 815 dL_law_479 (by decide) ?_
    exact k _ _ _ _ [_, _] hI2 (by omega) (by omega)
theorem l_case_10 (hi : l_inv h A B o σ) (v1 : vp_in (nI i + 1) (q_L G)) (v2 : vp_in (nI i + 2) (q_L G)) (v3 : vp_in (nI i + 3) (q_L G)) (hb : cells + 40 ≤ 600128 ∧ slots + 1744 ≤ 7301097) (k : l_next G F A B o i cells slots) : q_X G mL_law room_1 F 482 [(0, .ref (q_b G)), (1, .ref (A 0)), (2, .ref (B 0)), (3, .ref o), (4, .int (nI i))] [] h cells slots := by
  have hI := hi
  obtain ⟨ht, hw, ⟨V, FF, hm, hrel⟩, ⟨f, ho⟩, hd, hoA, hoB⟩ := hi
  obtain ⟨fs, ob⟩ := ht.ob
  refine x_aload_n 1 dL_law_482 rfl (by first | rfl | assumption) ?_
  refine x_aload_n 0 dL_law_483 rfl (by first | rfl | assumption) ?_
  refine x_iload dL_law_484 (by first | rfl | assumption) ?_
  refine x_iconst 1 dL_law_486 (by decide) ?_
  refine x_iadd dL_law_487 ?_
  refine x_sld (by assumption) dL_law_488 ?_
  refine x_aload_n 0 dL_law_489 rfl (by first | rfl | assumption) ?_
  refine x_iload dL_law_490 (by first | rfl | assumption) ?_
  refine x_iconst 2 dL_law_492 (by decide) ?_
  refine x_iadd dL_law_493 ?_
  refine x_sld (by assumption) dL_law_494 ?_
  refine x_aload_n 3 dL_law_495 rfl (by first | rfl | assumption) ?_
  refine cl_L_law_496 (sw_byteAt ht ho hoA _ _) (Nat.le_of_ble_eq_true rfl) ⟨by omega, by omega⟩ (fun r g hq => ?_)
  obtain ⟨rfl, ht2, ⟨f2, ho2, hf2⟩, ex⟩ := hq
  refine x_istore dL_law_499 (by decide) rfl ?_
  refine x_aload_n 2 dL_law_501 rfl (by first | rfl | assumption) ?_
  refine x_aload_n 0 dL_law_502 rfl (by first | rfl | assumption) ?_
  refine x_iload dL_law_503 (by first | rfl | assumption) ?_
  refine x_iconst 1 dL_law_505 (by decide) ?_
  refine x_iadd dL_law_506 ?_
  refine x_sld (by assumption) dL_law_507 ?_
  refine x_aload_n 0 dL_law_508 rfl (by first | rfl | assumption) ?_
  refine x_iload dL_law_509 (by first | rfl | assumption) ?_
  refine x_iconst 2 dL_law_511 (by decide) ?_
  refine x_iadd dL_law_512 ?_
  refine x_sld (by assumption) dL_law_513 ?_
  refine cl_L_law_514 (sn_byteAt (hI.mdl ex hm) hrel _ _) (hI.mdl ex hm).1 (Nat.le_of_ble_eq_true rfl) ⟨by omega, by omega⟩ (fun r g2 hq => ?_)
  obtain ⟨rfl, V2, F2, hm2, k0, hr2⟩ := hq
  have ho3 : g2 o = some (k_al 1 f2) := (hm2.2.2.2.2 o (fun j hj => hoB j hj)).trans ho2
  have hI2 := hI.two ht2 ((by rw [w_byteAt hw]; exact hw)) ⟨f2, ho2⟩ hm2 hr2
  refine x_istore dL_law_517 (by decide) rfl ?_
  refine x_aload_n 2 dL_law_519 rfl (by first | rfl | assumption) ?_
  refine cl_L_law_520 (sm_thrown hm2 k0) hm2.1 (Nat.le_of_ble_eq_true rfl) ⟨by omega, by omega⟩ (fun r g3 hq => ?_)
  obtain ⟨rfl, hg⟩ := hq
  rw [hg]
  refine x_iload dL_law_523 (by first | rfl | assumption) ?_
  refine x_icmp_eq 530 dL_law_525 (by decide) (fun _ => ?_) (fun z => absurd rfl z)
  refine x_iload dL_law_530 (by first | rfl | assumption) ?_
  refine x_if_ne 547 dL_law_532 (by decide) (fun _ => ?_) (fun z0 => ?_)
  · refine x_goto 815 dL_law_547 (by decide) ?_
    exact k _ _ _ _ [_, _] hI2 (by omega) (by omega)
  · refine x_aload_n 3 dL_law_535 rfl (by first | rfl | assumption) ?_
    refine x_iconst 0 dL_law_536 (by decide) ?_
    refine x_lald dL_law_537 ho3 (show vp_in 0 1 by unfold vp_in; decide) ?_
    refine x_iload dL_law_538 (by first | rfl | assumption) ?_
    refine x_i2l dL_law_540 ?_
    refine x_lcmp dL_law_541 ?_
    refine x_if_eq 547 dL_law_542 (by decide) (fun _ => ?_) (fun z => absurd ((lg_cmp_eq _ _).mpr (hf2 z0)) z)
    refine x_goto 815 dL_law_547 (by decide) ?_
    exact k _ _ _ _ [_, _] hI2 (by omega) (by omega)
theorem l_case_11 (hi : l_inv h A B o σ) (v1 : vp_in (nI i + 1) (q_L G)) (v2 : vp_in (nI i + 2) (q_L G)) (v3 : vp_in (nI i + 3) (q_L G)) (hb : cells + 40 ≤ 600128 ∧ slots + 1744 ≤ 7301097) (k : l_next G F A B o i cells slots) : q_X G mL_law room_1 F 550 [(0, .ref (q_b G)), (1, .ref (A 0)), (2, .ref (B 0)), (3, .ref o), (4, .int (nI i))] [] h cells slots := by
  have hI := hi
  obtain ⟨ht, hw, ⟨V, FF, hm, hrel⟩, ⟨f, ho⟩, hd, hoA, hoB⟩ := hi
  obtain ⟨fs, ob⟩ := ht.ob
  refine x_aload_n 1 dL_law_550 rfl (by first | rfl | assumption) ?_
  refine x_aload_n 3 dL_law_551 rfl (by first | rfl | assumption) ?_
  refine cl_L_law_552 (sw_take ht ho hoA) (Nat.le_of_ble_eq_true rfl) ⟨by omega, by omega⟩ (fun r g hq => ?_)
  obtain ⟨rfl, ht2, ⟨f2, ho2, hf2⟩, ex⟩ := hq
  refine x_istore dL_law_555 (by decide) rfl ?_
  refine x_aload_n 2 dL_law_557 rfl (by first | rfl | assumption) ?_
  refine cl_L_law_558 (sn_take (hI.mdl ex hm) hrel) (hI.mdl ex hm).1 (Nat.le_of_ble_eq_true rfl) ⟨by omega, by omega⟩ (fun r g2 hq => ?_)
  obtain ⟨rfl, V2, F2, hm2, k0, hr2⟩ := hq
  have ho3 : g2 o = some (k_al 1 f2) := (hm2.2.2.2.2 o (fun j hj => hoB j hj)).trans ho2
  have hI2 := hI.two ht2 (w_take hw) ⟨f2, ho2⟩ hm2 hr2
  refine x_istore dL_law_561 (by decide) rfl ?_
  refine x_aload_n 2 dL_law_563 rfl (by first | rfl | assumption) ?_
  refine cl_L_law_564 (sm_thrown hm2 k0) hm2.1 (Nat.le_of_ble_eq_true rfl) ⟨by omega, by omega⟩ (fun r g3 hq => ?_)
  obtain ⟨rfl, hg⟩ := hq
  rw [hg]
  refine x_iload dL_law_567 (by first | rfl | assumption) ?_
  refine x_icmp_eq 574 dL_law_569 (by decide) (fun _ => ?_) (fun z => absurd rfl z)
  refine x_iload dL_law_574 (by first | rfl | assumption) ?_
  refine x_if_ne 591 dL_law_576 (by decide) (fun _ => ?_) (fun z0 => ?_)
  · refine x_goto 815 dL_law_591 (by decide) ?_
    exact k _ _ _ _ [_, _] hI2 (by omega) (by omega)
  · refine x_aload_n 3 dL_law_579 rfl (by first | rfl | assumption) ?_
    refine x_iconst 0 dL_law_580 (by decide) ?_
    refine x_lald dL_law_581 ho3 (show vp_in 0 1 by unfold vp_in; decide) ?_
    refine x_iload dL_law_582 (by first | rfl | assumption) ?_
    refine x_i2l dL_law_584 ?_
    refine x_lcmp dL_law_585 ?_
    refine x_if_eq 591 dL_law_586 (by decide) (fun _ => ?_) (fun z => absurd ((lg_cmp_eq _ _).mpr (hf2 z0)) z)
    refine x_goto 815 dL_law_591 (by decide) ?_
    exact k _ _ _ _ [_, _] hI2 (by omega) (by omega)
theorem l_case_15 (hi : l_inv h A B o σ) (v1 : vp_in (nI i + 1) (q_L G)) (v2 : vp_in (nI i + 2) (q_L G)) (v3 : vp_in (nI i + 3) (q_L G)) (hb : cells + 40 ≤ 600128 ∧ slots + 1744 ≤ 7301097) (k : l_next G F A B o i cells slots) : q_X G mL_law room_1 F 687 [(0, .ref (q_b G)), (1, .ref (A 0)), (2, .ref (B 0)), (3, .ref o), (4, .int (nI i))] [] h cells slots := by
  have hI := hi
  obtain ⟨ht, hw, ⟨V, FF, hm, hrel⟩, ⟨f, ho⟩, hd, hoA, hoB⟩ := hi
  obtain ⟨fs, ob⟩ := ht.ob
  refine x_aload_n 1 dL_law_687 rfl (by first | rfl | assumption) ?_
  refine x_aload_n 0 dL_law_688 rfl (by first | rfl | assumption) ?_
  refine x_iload dL_law_689 (by first | rfl | assumption) ?_
  refine x_iconst 1 dL_law_691 (by decide) ?_
  refine x_iadd dL_law_692 ?_
  refine x_sld (by assumption) dL_law_693 ?_
  refine x_aload_n 0 dL_law_694 rfl (by first | rfl | assumption) ?_
  refine x_iload dL_law_695 (by first | rfl | assumption) ?_
  refine x_iconst 2 dL_law_697 (by decide) ?_
  refine x_iadd dL_law_698 ?_
  refine x_sld (by assumption) dL_law_699 ?_
  refine x_aload_n 3 dL_law_700 rfl (by first | rfl | assumption) ?_
  refine cl_L_law_701 (sw_send ht ho hoA _ _) (Nat.le_of_ble_eq_true rfl) ⟨by omega, by omega⟩ (fun r g hq => ?_)
  obtain ⟨rfl, ht2, ⟨f2, ho2, hf2⟩, ex⟩ := hq
  refine x_istore dL_law_704 (by decide) rfl ?_
  refine x_aload_n 2 dL_law_706 rfl (by first | rfl | assumption) ?_
  refine x_aload_n 0 dL_law_707 rfl (by first | rfl | assumption) ?_
  refine x_iload dL_law_708 (by first | rfl | assumption) ?_
  refine x_iconst 1 dL_law_710 (by decide) ?_
  refine x_iadd dL_law_711 ?_
  refine x_sld (by assumption) dL_law_712 ?_
  refine x_aload_n 0 dL_law_713 rfl (by first | rfl | assumption) ?_
  refine x_iload dL_law_714 (by first | rfl | assumption) ?_
  refine x_iconst 2 dL_law_716 (by decide) ?_
  refine x_iadd dL_law_717 ?_
  refine x_sld (by assumption) dL_law_718 ?_
  refine cl_L_law_719 (sn_send (hI.mdl ex hm) hrel _ _) (hI.mdl ex hm).1 (Nat.le_of_ble_eq_true rfl) ⟨by omega, by omega⟩ (fun r g2 hq => ?_)
  obtain ⟨rfl, V2, F2, hm2, k0, hr2⟩ := hq
  have ho3 : g2 o = some (k_al 1 f2) := (hm2.2.2.2.2 o (fun j hj => hoB j hj)).trans ho2
  have hI2 := hI.two ht2 (w_send hw hI.dr _ _) ⟨f2, ho2⟩ hm2 hr2
  refine x_istore dL_law_722 (by decide) rfl ?_
  refine x_aload_n 2 dL_law_724 rfl (by first | rfl | assumption) ?_
  refine cl_L_law_725 (sm_thrown hm2 k0) hm2.1 (Nat.le_of_ble_eq_true rfl) ⟨by omega, by omega⟩ (fun r g3 hq => ?_)
  obtain ⟨rfl, hg⟩ := hq
  rw [hg]
  refine x_iload dL_law_728 (by first | rfl | assumption) ?_
  refine x_icmp_eq 735 dL_law_730 (by decide) (fun _ => ?_) (fun z => absurd rfl z)
  refine x_iload dL_law_735 (by first | rfl | assumption) ?_
  refine x_if_ne 752 dL_law_737 (by decide) (fun _ => ?_) (fun z0 => ?_)
  · refine x_goto 815 dL_law_752 (by decide) ?_
    exact k _ _ _ _ [_, _] hI2 (by omega) (by omega)
  · refine x_aload_n 3 dL_law_740 rfl (by first | rfl | assumption) ?_
    refine x_iconst 0 dL_law_741 (by decide) ?_
    refine x_lald dL_law_742 ho3 (show vp_in 0 1 by unfold vp_in; decide) ?_
    refine x_iload dL_law_743 (by first | rfl | assumption) ?_
    refine x_i2l dL_law_745 ?_
    refine x_lcmp dL_law_746 ?_
    refine x_if_eq 752 dL_law_747 (by decide) (fun _ => ?_) (fun z => absurd ((lg_cmp_eq _ _).mpr (hf2 z0)) z)
    refine x_goto 815 dL_law_752 (by decide) ?_
    exact k _ _ _ _ [_, _] hI2 (by omega) (by omega)
theorem l_case_5 (hi : l_inv h A B o σ) (v1 : vp_in (nI i + 1) (q_L G)) (v2 : vp_in (nI i + 2) (q_L G)) (v3 : vp_in (nI i + 3) (q_L G)) (hb : cells + 40 ≤ 600128 ∧ slots + 1744 ≤ 7301097) (k : l_next G F A B o i cells slots) : q_X G mL_law room_1 F 319 [(0, .ref (q_b G)), (1, .ref (A 0)), (2, .ref (B 0)), (3, .ref o), (4, .int (nI i))] [] h cells slots := by
  have hI := hi
  obtain ⟨ht, hw, ⟨V, FF, hm, hrel⟩, ⟨f, ho⟩, hd, hoA, hoB⟩ := hi
  obtain ⟨fs, ob⟩ := ht.ob
  refine x_aload_n 1 dL_law_319 rfl (by first | rfl | assumption) ?_
  refine x_aload_n 0 dL_law_320 rfl (by first | rfl | assumption) ?_
  refine x_iload dL_law_321 (by first | rfl | assumption) ?_
  refine x_iconst 1 dL_law_323 (by decide) ?_
  refine x_iadd dL_law_324 ?_
  refine x_sld (by assumption) dL_law_325 ?_
  refine cl_L_law_326 (sp_drop ht _) ob (Nat.le_of_ble_eq_true rfl) ⟨by omega, by omega⟩ (fun r g hq => ?_)
  obtain ⟨rfl, ht2, ex⟩ := hq
  have ho2 : g o = some (k_al 1 f) := (ex o hoA (k_so ho)).trans ho
  refine x_aload_n 2 dL_law_329 rfl (by first | rfl | assumption) ?_
  refine x_aload_n 0 dL_law_330 rfl (by first | rfl | assumption) ?_
  refine x_iload dL_law_331 (by first | rfl | assumption) ?_
  refine x_iconst 1 dL_law_333 (by decide) ?_
  refine x_iadd dL_law_334 ?_
  refine x_sld (by assumption) dL_law_335 ?_
  refine cl_L_law_336 (sn_drop (hI.mdl (ex.wid (fun q hq => List.mem_cons_of_mem _ hq)) hm) hrel _) (hI.mdl (ex.wid (fun q hq => List.mem_cons_of_mem _ hq)) hm).1 (Nat.le_of_ble_eq_true rfl) ⟨by omega, by omega⟩ (fun r g2 hq => ?_)
  obtain ⟨rfl, V2, F2, hm2, k0, hr2⟩ := hq
  refine x_icmp_eq 815 dL_law_339 (by decide) (fun _ => ?_) (fun z => absurd rfl z)
  exact k _ _ _ _ [] (hI.two ht2 (w_drop hw _) ⟨f, ho2⟩ hm2 hr2) (by omega) (by omega)
theorem l_case_13 (hi : l_inv h A B o σ) (v1 : vp_in (nI i + 1) (q_L G)) (v2 : vp_in (nI i + 2) (q_L G)) (v3 : vp_in (nI i + 3) (q_L G)) (hb : cells + 40 ≤ 600128 ∧ slots + 1744 ≤ 7301097) (k : l_next G F A B o i cells slots) : q_X G mL_law room_1 F 607 [(0, .ref (q_b G)), (1, .ref (A 0)), (2, .ref (B 0)), (3, .ref o), (4, .int (nI i))] [] h cells slots := by
  have hI := hi
  obtain ⟨ht, hw, ⟨V, FF, hm, hrel⟩, ⟨f, ho⟩, hd, hoA, hoB⟩ := hi
  obtain ⟨fs, ob⟩ := ht.ob
  refine x_aload_n 1 dL_law_607 rfl (by first | rfl | assumption) ?_
  refine x_aload_n 0 dL_law_608 rfl (by first | rfl | assumption) ?_
  refine x_iload dL_law_609 (by first | rfl | assumption) ?_
  refine x_iconst 1 dL_law_611 (by decide) ?_
  refine x_iadd dL_law_612 ?_
  refine x_sld (by assumption) dL_law_613 ?_
  refine x_i2l dL_law_614 ?_
  refine x_bipush 32 dL_law_615 (by decide) ?_
  refine x_lshl dL_law_617 ?_
  refine x_aload_n 0 dL_law_618 rfl (by first | rfl | assumption) ?_
  refine x_iload dL_law_619 (by first | rfl | assumption) ?_
  refine x_iconst 2 dL_law_621 (by decide) ?_
  refine x_iadd dL_law_622 ?_
  refine x_sld (by assumption) dL_law_623 ?_
  refine x_i2l dL_law_624 ?_
  refine k2_L_law_53 dL_law_625 ?_
  refine x_land dL_law_628 ?_
  refine x_lor dL_law_629 ?_
  refine x_aload_n 0 dL_law_630 rfl (by first | rfl | assumption) ?_
  refine x_iload dL_law_631 (by first | rfl | assumption) ?_
  refine x_iconst 3 dL_law_633 (by decide) ?_
  refine x_iadd dL_law_634 ?_
  refine x_sld (by assumption) dL_law_635 ?_
  refine cl_L_law_636 (sp_write ht _ _) ob (Nat.le_of_ble_eq_true rfl) ⟨by omega, by omega⟩ (fun r g hq => ?_)
  obtain ⟨rfl, ht2, ex⟩ := hq
  have ho2 : g o = some (k_al 1 f) := (ex o hoA (k_so ho)).trans ho
  refine x_aload_n 2 dL_law_639 rfl (by first | rfl | assumption) ?_
  refine x_aload_n 0 dL_law_640 rfl (by first | rfl | assumption) ?_
  refine x_iload dL_law_641 (by first | rfl | assumption) ?_
  refine x_iconst 1 dL_law_643 (by decide) ?_
  refine x_iadd dL_law_644 ?_
  refine x_sld (by assumption) dL_law_645 ?_
  refine x_i2l dL_law_646 ?_
  refine x_bipush 32 dL_law_647 (by decide) ?_
  refine x_lshl dL_law_649 ?_
  refine x_aload_n 0 dL_law_650 rfl (by first | rfl | assumption) ?_
  refine x_iload dL_law_651 (by first | rfl | assumption) ?_
  refine x_iconst 2 dL_law_653 (by decide) ?_
  refine x_iadd dL_law_654 ?_
  refine x_sld (by assumption) dL_law_655 ?_
  refine x_i2l dL_law_656 ?_
  refine k2_L_law_53 dL_law_657 ?_
  refine x_land dL_law_660 ?_
  refine x_lor dL_law_661 ?_
  refine x_aload_n 0 dL_law_662 rfl (by first | rfl | assumption) ?_
  refine x_iload dL_law_663 (by first | rfl | assumption) ?_
  refine x_iconst 3 dL_law_665 (by decide) ?_
  refine x_iadd dL_law_666 ?_
  refine x_sld (by assumption) dL_law_667 ?_
  refine cl_L_law_668 (sn_write (hI.mdl (ex.wid (fun q hq => List.mem_cons_of_mem _ hq)) hm) hrel _ _) (hI.mdl (ex.wid (fun q hq => List.mem_cons_of_mem _ hq)) hm).1 (Nat.le_of_ble_eq_true rfl) ⟨by omega, by omega⟩ (fun r g2 hq => ?_)
  obtain ⟨rfl, V2, F2, hm2, k0, hr2⟩ := hq
  refine x_icmp_eq 815 dL_law_671 (by decide) (fun _ => ?_) (fun z => absurd rfl z)
  exact k _ _ _ _ [] (hI.two ht2 (w_write hw _ _) ⟨f, ho2⟩ hm2 hr2) (by omega) (by omega)
theorem l_case_14 (hi : l_inv h A B o σ) (v1 : vp_in (nI i + 1) (q_L G)) (v2 : vp_in (nI i + 2) (q_L G)) (v3 : vp_in (nI i + 3) (q_L G)) (hb : cells + 40 ≤ 600128 ∧ slots + 1744 ≤ 7301097) (k : l_next G F A B o i cells slots) : q_X G mL_law room_1 F 676 [(0, .ref (q_b G)), (1, .ref (A 0)), (2, .ref (B 0)), (3, .ref o), (4, .int (nI i))] [] h cells slots := by
  have hI := hi
  obtain ⟨ht, hw, ⟨V, FF, hm, hrel⟩, ⟨f, ho⟩, hd, hoA, hoB⟩ := hi
  obtain ⟨fs, ob⟩ := ht.ob
  refine x_aload_n 1 dL_law_676 rfl (by first | rfl | assumption) ?_
  refine cl_L_law_677 (sp_clear ht) ob (Nat.le_of_ble_eq_true rfl) ⟨by omega, by omega⟩ (fun r g hq => ?_)
  obtain ⟨rfl, ht2, ex⟩ := hq
  have ho2 : g o = some (k_al 1 f) := (ex o hoA (k_so ho)).trans ho
  refine x_aload_n 2 dL_law_680 rfl (by first | rfl | assumption) ?_
  refine cl_L_law_681 (sn_clear (hI.mdl (ex.wid (fun q hq => List.mem_cons_of_mem _ hq)) hm) hrel) (hI.mdl (ex.wid (fun q hq => List.mem_cons_of_mem _ hq)) hm).1 (Nat.le_of_ble_eq_true rfl) ⟨by omega, by omega⟩ (fun r g2 hq => ?_)
  obtain ⟨rfl, V2, F2, hm2, k0, hr2⟩ := hq
  refine x_goto 815 dL_law_684 (by decide) ?_
  exact k _ _ _ _ [] (hI.two ht2 (w_clear hw) ⟨f, ho2⟩ hm2 hr2) (by omega) (by omega)
theorem l_case_16 (hi : l_inv h A B o σ) (v1 : vp_in (nI i + 1) (q_L G)) (v2 : vp_in (nI i + 2) (q_L G)) (v3 : vp_in (nI i + 3) (q_L G)) (hb : cells + 40 ≤ 600128 ∧ slots + 1744 ≤ 7301097) (k : l_next G F A B o i cells slots) : q_X G mL_law room_1 F 755 [(0, .ref (q_b G)), (1, .ref (A 0)), (2, .ref (B 0)), (3, .ref o), (4, .int (nI i))] [] h cells slots := by
  have hI := hi
  obtain ⟨ht, hw, ⟨V, FF, hm, hrel⟩, ⟨f, ho⟩, hd, hoA, hoB⟩ := hi
  obtain ⟨fs, ob⟩ := ht.ob
  refine x_aload_n 1 dL_law_755 rfl (by first | rfl | assumption) ?_
  refine cl_L_law_756 (sw_ping ht) (Nat.le_of_ble_eq_true rfl) ⟨by omega, by omega⟩ (fun r g hq => ?_)
  obtain ⟨rfl, ht2, ex⟩ := hq
  have ho2 : g o = some (k_al 1 f) := (ex o hoA (k_so ho)).trans ho
  refine x_istore dL_law_759 (by decide) rfl ?_
  refine x_aload_n 2 dL_law_761 rfl (by first | rfl | assumption) ?_
  refine cl_L_law_762 (sn_ping (hI.mdl (ex.wid (fun q hq => List.mem_cons_of_mem _ hq)) hm) hrel) (hI.mdl (ex.wid (fun q hq => List.mem_cons_of_mem _ hq)) hm).1 (Nat.le_of_ble_eq_true rfl) ⟨by omega, by omega⟩ (fun r g2 hq => ?_)
  obtain ⟨rfl, V2, F2, hm2, k0, hr2⟩ := hq
  have hI2 := hI.two ht2 (w_ping hw) ⟨f, ho2⟩ hm2 hr2
  refine x_aload_n 2 dL_law_765 rfl (by first | rfl | assumption) ?_
  refine cl_L_law_766 (sm_thrown hm2 k0) hm2.1 (Nat.le_of_ble_eq_true rfl) ⟨by omega, by omega⟩ (fun r g3 hq => ?_)
  obtain ⟨rfl, hg⟩ := hq
  rw [hg]
  refine x_iload dL_law_769 (by first | rfl | assumption) ?_
  refine x_icmp_eq 776 dL_law_771 (by decide) (fun _ => ?_) (fun z => absurd rfl z)
  refine x_goto 815 dL_law_776 (by decide) ?_
  exact k _ _ _ _ [_] hI2 (by omega) (by omega)
theorem l_case_17 (hi : l_inv h A B o σ) (v1 : vp_in (nI i + 1) (q_L G)) (v2 : vp_in (nI i + 2) (q_L G)) (v3 : vp_in (nI i + 3) (q_L G)) (hb : cells + 40 ≤ 600128 ∧ slots + 1744 ≤ 7301097) (k : l_next G F A B o i cells slots) : q_X G mL_law room_1 F 779 [(0, .ref (q_b G)), (1, .ref (A 0)), (2, .ref (B 0)), (3, .ref o), (4, .int (nI i))] [] h cells slots := by
  have hI := hi
  obtain ⟨ht, hw, ⟨V, FF, hm, hrel⟩, ⟨f, ho⟩, hd, hoA, hoB⟩ := hi
  obtain ⟨fs, ob⟩ := ht.ob
  refine x_aload_n 1 dL_law_779 rfl (by first | rfl | assumption) ?_
  refine x_aload_n 0 dL_law_780 rfl (by first | rfl | assumption) ?_
  refine x_iload dL_law_781 (by first | rfl | assumption) ?_
  refine x_iconst 1 dL_law_783 (by decide) ?_
  refine x_iadd dL_law_784 ?_
  refine x_sld (by assumption) dL_law_785 ?_
  refine cl_L_law_786 (sw_close ht hw _) (Nat.le_of_ble_eq_true rfl) ⟨by omega, by omega⟩ (fun r g hq => ?_)
  obtain ⟨rfl, ht2, ex⟩ := hq
  have ho2 : g o = some (k_al 1 f) := (ex o hoA (k_so ho)).trans ho
  refine x_istore dL_law_789 (by decide) rfl ?_
  refine x_aload_n 2 dL_law_791 rfl (by first | rfl | assumption) ?_
  refine x_aload_n 0 dL_law_792 rfl (by first | rfl | assumption) ?_
  refine x_iload dL_law_793 (by first | rfl | assumption) ?_
  refine x_iconst 1 dL_law_795 (by decide) ?_
  refine x_iadd dL_law_796 ?_
  refine x_sld (by assumption) dL_law_797 ?_
  refine cl_L_law_798 (sn_close (hI.mdl (ex.wid (fun q hq => List.mem_cons_of_mem _ hq)) hm) hrel hw _) (hI.mdl (ex.wid (fun q hq => List.mem_cons_of_mem _ hq)) hm).1 (Nat.le_of_ble_eq_true rfl) ⟨by omega, by omega⟩ (fun r g2 hq => ?_)
  obtain ⟨rfl, V2, F2, hm2, k0, hr2⟩ := hq
  have hI2 := hI.two ht2 (w_close hw _) ⟨f, ho2⟩ hm2 hr2
  refine x_aload_n 2 dL_law_801 rfl (by first | rfl | assumption) ?_
  refine cl_L_law_802 (sm_thrown hm2 k0) hm2.1 (Nat.le_of_ble_eq_true rfl) ⟨by omega, by omega⟩ (fun r g3 hq => ?_)
  obtain ⟨rfl, hg⟩ := hq
  rw [hg]
  refine x_iload dL_law_805 (by first | rfl | assumption) ?_
  refine x_icmp_eq 812 dL_law_807 (by decide) (fun _ => ?_) (fun z => absurd rfl z)
  refine x_goto 815 dL_law_812 (by decide) ?_
  exact k _ _ _ _ [_] hI2 (by omega) (by omega)
end LawC
