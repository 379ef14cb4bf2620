/-! the reference: the answer to a request -/
section MdlM
variable {G : q_G} {h0 h : q_H} {B : Nat → Nat} {V : Nat → Value} {F : Nat → Nat → Int32} {l out : List Int32}
/-- what an answer leaves: state, out; other fields and the rows of talk as they were -/
def m_ans (h0 : q_H) (B : Nat → Nat) (V : Nat → Value) (F : Nat → Nat → Int32) (st : Int32) (out : List Int32) : q_Q := fun o h' => o = none ∧ ∃ V' F', k_m h0 h' B V' F' ∧ (∀ j, j ≠ 9 → j ≠ 1 → V' j = V j) ∧ V' 1 = .int st ∧ (∀ j, 5 < j → j < 13 → F' j = F j) ∧ m_o V' F' out
theorem m_o.fld {k : Nat} {v : Value} (ho : m_o V F out) (hk : k ≠ 9) : m_o (m_u V k v) F out := ⟨(m_un (Ne.symm hk)).trans ho.1, ho.2⟩
theorem sm_bad {h1 : q_H} {V1 : Nat → Value} {F1 : Nat → Nat → Int32} {x : Int32} (hm : k_m h0 h1 B V1 F1) (hV : V1 = V) (hF : ∀ j, 4 < j → j < 13 → F1 j = F j) (o1 : m_o V F out) (hn : out.length ≤ 400) : q_X G mX7_answer (q_R mX7_answer 0 0) (q_FN G (m_ans h0 B V F 3 (out ++ q_byt.getD 15 [])) 0 0) 17 [(0, .ref (B 0)), (1, .int x)] [] h1 0 0 := by
  replace o1 : m_o V1 F1 out := by rw [hV]; exact ⟨o1.1, by rw [hF 5 (by decide) (by decide)]; exact o1.2⟩
  have q1 : m_oo V1 F1 V1 F1 := m_oo.rf
  refine x_aload_n 0 dX7_answer_17 rfl (by first | rfl | assumption) ?_
  refine k2_X7_answer_204 dX7_answer_18 ?_
  refine cl_X7_answer_21 (sm_text hm o1 [72, 84, 84, 80, 47, 49, 46, 49] (by decide +kernel) (by simp only [List.length_append, List.length_cons, List.length_nil]; omega)) hm.1 (Nat.le_of_ble_eq_true rfl) ⟨Nat.le_of_ble_eq_true rfl, Nat.le_of_ble_eq_true rfl⟩ (fun r gq hq => ?_)
  obtain ⟨rfl, V2, F2, hm, q2, o1⟩ := hq
  have q1 := q1.tr q2
  refine x_aload_n 0 dX7_answer_24 rfl (by first | rfl | assumption) ?_
  refine k2_X7_answer_210 dX7_answer_25 ?_
  refine cl_X7_answer_28 (sm_text hm o1 [32, 52, 48, 48, 32, 66, 97, 100] (by decide +kernel) (by simp only [List.length_append, List.length_cons, List.length_nil]; omega)) hm.1 (Nat.le_of_ble_eq_true rfl) ⟨Nat.le_of_ble_eq_true rfl, Nat.le_of_ble_eq_true rfl⟩ (fun r gq hq => ?_)
  obtain ⟨rfl, V2, F2, hm, q2, o1⟩ := hq
  have q1 := q1.tr q2
  refine x_aload_n 0 dX7_answer_31 rfl (by first | rfl | assumption) ?_
  refine k2_X7_answer_212 dX7_answer_32 ?_
  refine cl_X7_answer_35 (sm_text hm o1 [32, 82, 101, 113, 117, 101, 115, 116] (by decide +kernel) (by simp only [List.length_append, List.length_cons, List.length_nil]; omega)) hm.1 (Nat.le_of_ble_eq_true rfl) ⟨Nat.le_of_ble_eq_true rfl, Nat.le_of_ble_eq_true rfl⟩ (fun r gq hq => ?_)
  obtain ⟨rfl, V2, F2, hm, q2, o1⟩ := hq
  have q1 := q1.tr q2
  refine x_aload_n 0 dX7_answer_38 rfl (by first | rfl | assumption) ?_
  refine cl_X7_answer_39 (sm_line hm o1 (by simp only [List.length_append, List.length_cons, List.length_nil]; omega)) hm.1 (Nat.le_of_ble_eq_true rfl) ⟨Nat.le_of_ble_eq_true rfl, Nat.le_of_ble_eq_true rfl⟩ (fun r gq hq => ?_)
  obtain ⟨rfl, V2, F2, hm, q2, o1⟩ := hq
  have q1 := q1.tr q2
  refine x_aload_n 0 dX7_answer_42 rfl (by first | rfl | assumption) ?_
  refine cl_X7_answer_43 (sm_line hm o1 (by simp only [List.length_append, List.length_cons, List.length_nil]; omega)) hm.1 (Nat.le_of_ble_eq_true rfl) ⟨Nat.le_of_ble_eq_true rfl, Nat.le_of_ble_eq_true rfl⟩ (fun r gq hq => ?_)
  obtain ⟨rfl, V2, F2, hm, q2, o1⟩ := hq
  have q1 := q1.tr q2
  refine x_aload_n 0 dX7_answer_46 rfl (by first | rfl | assumption) ?_
  refine x_iconst 3 dX7_answer_47 (by decide) ?_
  refine pf_X7_answer_217 dX7_answer_48 hm.1 (Nat.le_of_ble_eq_true rfl) ?_
  refine x_gm hm (fun gm hm f1 => ?_)
  refine x_goto 301 dX7_answer_51 (by decide) ?_
  refine x_vret rfl dX7_answer_301 (by decide) (by decide) ?_
  refine ⟨rfl, _, _, hm, fun j h9 h1 => by rw [m_un h1, q1.1 j h9, hV], m_us, fun j h5 h13 => (q1.2 j (by omega)).trans (hF j (by omega) h13), ?_⟩
  refine m_o.fld ?_ (by decide)
  rw [show q_byt.getD 15 [] = [72, 84, 84, 80, 47, 49, 46, 49] ++ [32, 52, 48, 48, 32, 66, 97, 100] ++ [32, 82, 101, 113, 117, 101, 115, 116] ++ [13, 10] ++ [13, 10] from rfl]
  simp only [List.append_assoc] at o1 ⊢
  exact o1
theorem sm_old {h1 : q_H} {V1 : Nat → Value} {F1 : Nat → Nat → Int32} {x : Int32} (hm : k_m h0 h1 B V1 F1) (hV : V1 = V) (hF : ∀ j, 4 < j → j < 13 → F1 j = F j) (o1 : m_o V F out) (hn : out.length ≤ 400) : q_X G mX7_answer (q_R mX7_answer 0 0) (q_FN G (m_ans h0 B V F 3 (out ++ q_byt.getD 14 [])) 0 0) 105 [(0, .ref (B 0)), (1, .int x)] [] h1 0 0 := by
  replace o1 : m_o V1 F1 out := by rw [hV]; exact ⟨o1.1, by rw [hF 5 (by decide) (by decide)]; exact o1.2⟩
  have q1 : m_oo V1 F1 V1 F1 := m_oo.rf
  refine x_aload_n 0 dX7_answer_105 rfl (by first | rfl | assumption) ?_
  refine k2_X7_answer_204 dX7_answer_106 ?_
  refine cl_X7_answer_109 (sm_text hm o1 [72, 84, 84, 80, 47, 49, 46, 49] (by decide +kernel) (by simp only [List.length_append, List.length_cons, List.length_nil]; omega)) hm.1 (Nat.le_of_ble_eq_true rfl) ⟨Nat.le_of_ble_eq_true rfl, Nat.le_of_ble_eq_true rfl⟩ (fun r gq hq => ?_)
  obtain ⟨rfl, V2, F2, hm, q2, o1⟩ := hq
  have q1 := q1.tr q2
  refine x_aload_n 0 dX7_answer_112 rfl (by first | rfl | assumption) ?_
  refine k2_X7_answer_220 dX7_answer_113 ?_
  refine cl_X7_answer_116 (sm_text hm o1 [32, 52, 50, 54, 32, 85, 112, 103] (by decide +kernel) (by simp only [List.length_append, List.length_cons, List.length_nil]; omega)) hm.1 (Nat.le_of_ble_eq_true rfl) ⟨Nat.le_of_ble_eq_true rfl, Nat.le_of_ble_eq_true rfl⟩ (fun r gq hq => ?_)
  obtain ⟨rfl, V2, F2, hm, q2, o1⟩ := hq
  have q1 := q1.tr q2
  refine x_aload_n 0 dX7_answer_119 rfl (by first | rfl | assumption) ?_
  refine k2_X7_answer_222 dX7_answer_120 ?_
  refine cl_X7_answer_123 (sm_text hm o1 [114, 97, 100, 101, 32, 82, 101, 113] (by decide +kernel) (by simp only [List.length_append, List.length_cons, List.length_nil]; omega)) hm.1 (Nat.le_of_ble_eq_true rfl) ⟨Nat.le_of_ble_eq_true rfl, Nat.le_of_ble_eq_true rfl⟩ (fun r gq hq => ?_)
  obtain ⟨rfl, V2, F2, hm, q2, o1⟩ := hq
  have q1 := q1.tr q2
  refine x_aload_n 0 dX7_answer_126 rfl (by first | rfl | assumption) ?_
  refine k2_X7_answer_224 dX7_answer_127 ?_
  refine cl_X7_answer_130 (sm_text hm o1 [117, 105, 114, 101, 100] (by decide +kernel) (by simp only [List.length_append, List.length_cons, List.length_nil]; omega)) hm.1 (Nat.le_of_ble_eq_true rfl) ⟨Nat.le_of_ble_eq_true rfl, Nat.le_of_ble_eq_true rfl⟩ (fun r gq hq => ?_)
  obtain ⟨rfl, V2, F2, hm, q2, o1⟩ := hq
  have q1 := q1.tr q2
  refine x_aload_n 0 dX7_answer_133 rfl (by first | rfl | assumption) ?_
  refine cl_X7_answer_134 (sm_line hm o1 (by simp only [List.length_append, List.length_cons, List.length_nil]; omega)) hm.1 (Nat.le_of_ble_eq_true rfl) ⟨Nat.le_of_ble_eq_true rfl, Nat.le_of_ble_eq_true rfl⟩ (fun r gq hq => ?_)
  obtain ⟨rfl, V2, F2, hm, q2, o1⟩ := hq
  have q1 := q1.tr q2
  refine x_aload_n 0 dX7_answer_137 rfl (by first | rfl | assumption) ?_
  refine k2_X7_answer_226 dX7_answer_138 ?_
  refine cl_X7_answer_141 (sm_text hm o1 [83, 101, 99, 45, 87, 101, 98, 83] (by decide +kernel) (by simp only [List.length_append, List.length_cons, List.length_nil]; omega)) hm.1 (Nat.le_of_ble_eq_true rfl) ⟨Nat.le_of_ble_eq_true rfl, Nat.le_of_ble_eq_true rfl⟩ (fun r gq hq => ?_)
  obtain ⟨rfl, V2, F2, hm, q2, o1⟩ := hq
  have q1 := q1.tr q2
  refine x_aload_n 0 dX7_answer_144 rfl (by first | rfl | assumption) ?_
  refine k2_X7_answer_228 dX7_answer_145 ?_
  refine cl_X7_answer_148 (sm_text hm o1 [111, 99, 107, 101, 116, 45, 86, 101] (by decide +kernel) (by simp only [List.length_append, List.length_cons, List.length_nil]; omega)) hm.1 (Nat.le_of_ble_eq_true rfl) ⟨Nat.le_of_ble_eq_true rfl, Nat.le_of_ble_eq_true rfl⟩ (fun r gq hq => ?_)
  obtain ⟨rfl, V2, F2, hm, q2, o1⟩ := hq
  have q1 := q1.tr q2
  refine x_aload_n 0 dX7_answer_151 rfl (by first | rfl | assumption) ?_
  refine k2_X7_answer_230 dX7_answer_152 ?_
  refine cl_X7_answer_155 (sm_text hm o1 [114, 115, 105, 111, 110, 58, 32, 49] (by decide +kernel) (by simp only [List.length_append, List.length_cons, List.length_nil]; omega)) hm.1 (Nat.le_of_ble_eq_true rfl) ⟨Nat.le_of_ble_eq_true rfl, Nat.le_of_ble_eq_true rfl⟩ (fun r gq hq => ?_)
  obtain ⟨rfl, V2, F2, hm, q2, o1⟩ := hq
  have q1 := q1.tr q2
  refine x_aload_n 0 dX7_answer_158 rfl (by first | rfl | assumption) ?_
  refine k2_X7_answer_232 dX7_answer_159 ?_
  refine cl_X7_answer_162 (sm_text hm o1 [51] (by decide +kernel) (by simp only [List.length_append, List.length_cons, List.length_nil]; omega)) hm.1 (Nat.le_of_ble_eq_true rfl) ⟨Nat.le_of_ble_eq_true rfl, Nat.le_of_ble_eq_true rfl⟩ (fun r gq hq => ?_)
  obtain ⟨rfl, V2, F2, hm, q2, o1⟩ := hq
  have q1 := q1.tr q2
  refine x_aload_n 0 dX7_answer_165 rfl (by first | rfl | assumption) ?_
  refine cl_X7_answer_166 (sm_line hm o1 (by simp only [List.length_append, List.length_cons, List.length_nil]; omega)) hm.1 (Nat.le_of_ble_eq_true rfl) ⟨Nat.le_of_ble_eq_true rfl, Nat.le_of_ble_eq_true rfl⟩ (fun r gq hq => ?_)
  obtain ⟨rfl, V2, F2, hm, q2, o1⟩ := hq
  have q1 := q1.tr q2
  refine x_aload_n 0 dX7_answer_169 rfl (by first | rfl | assumption) ?_
  refine cl_X7_answer_170 (sm_line hm o1 (by simp only [List.length_append, List.length_cons, List.length_nil]; omega)) hm.1 (Nat.le_of_ble_eq_true rfl) ⟨Nat.le_of_ble_eq_true rfl, Nat.le_of_ble_eq_true rfl⟩ (fun r gq hq => ?_)
  obtain ⟨rfl, V2, F2, hm, q2, o1⟩ := hq
  have q1 := q1.tr q2
  refine x_aload_n 0 dX7_answer_173 rfl (by first | rfl | assumption) ?_
  refine x_iconst 3 dX7_answer_174 (by decide) ?_
  refine pf_X7_answer_217 dX7_answer_175 hm.1 (Nat.le_of_ble_eq_true rfl) ?_
  refine x_gm hm (fun gm hm f1 => ?_)
  refine x_goto 301 dX7_answer_178 (by decide) ?_
  refine x_vret rfl dX7_answer_301 (by decide) (by decide) ?_
  refine ⟨rfl, _, _, hm, fun j h9 h1 => by rw [m_un h1, q1.1 j h9, hV], m_us, fun j h5 h13 => (q1.2 j (by omega)).trans (hF j (by omega) h13), ?_⟩
  refine m_o.fld ?_ (by decide)
  rw [show q_byt.getD 14 [] = [72, 84, 84, 80, 47, 49, 46, 49] ++ [32, 52, 50, 54, 32, 85, 112, 103] ++ [114, 97, 100, 101, 32, 82, 101, 113] ++ [117, 105, 114, 101, 100] ++ [13, 10] ++ [83, 101, 99, 45, 87, 101, 98, 83] ++ [111, 99, 107, 101, 116, 45, 86, 101] ++ [114, 115, 105, 111, 110, 58, 32, 49] ++ [51] ++ [13, 10] ++ [13, 10] from rfl]
  simp only [List.append_assoc] at o1 ⊢
  exact o1
theorem sm_good {h1 : q_H} {V1 : Nat → Value} {F1 : Nat → Nat → Int32} {x : Int32} {p : Nat} (hm : k_m h0 h1 B V1 F1) (hV : V1 = V) (hF : ∀ j, 4 < j → j < 13 → F1 j = F j) (o1 : m_o V F out) (hn : out.length ≤ 400) (hl : m_l (F1 1) l) (hN : l.length ≤ 400) (f33 : F1 3 3 = nI p) (hp : p + 24 ≤ l.length) : q_X G mX7_answer (q_R mX7_answer 0 0) (q_FN G (m_ans h0 B V F 1 (out ++ q_byt.getD 10 [] ++ d_proof ((l.drop p).take 24) ++ q_byt.getD 13 [])) 0 0) 181 [(0, .ref (B 0)), (1, .int x)] [] h1 0 0 := by
  have hpl := d_proof_len ((l.drop p).take 24)
  replace o1 : m_o V1 F1 out := by rw [hV]; exact ⟨o1.1, by rw [hF 5 (by decide) (by decide)]; exact o1.2⟩
  have q1 : m_oo V1 F1 V1 F1 := m_oo.rf
  refine x_aload_n 0 dX7_answer_181 rfl (by first | rfl | assumption) ?_
  refine k2_X7_answer_204 dX7_answer_182 ?_
  refine cl_X7_answer_185 (sm_text hm o1 [72, 84, 84, 80, 47, 49, 46, 49] (by decide +kernel) (by simp only [List.length_append, List.length_cons, List.length_nil]; omega)) hm.1 (Nat.le_of_ble_eq_true rfl) ⟨Nat.le_of_ble_eq_true rfl, Nat.le_of_ble_eq_true rfl⟩ (fun r gq hq => ?_)
  obtain ⟨rfl, V2, F2, hm, q2, o1⟩ := hq
  have q1 := q1.tr q2
  refine x_aload_n 0 dX7_answer_188 rfl (by first | rfl | assumption) ?_
  refine k2_X7_answer_234 dX7_answer_189 ?_
  refine cl_X7_answer_192 (sm_text hm o1 [32, 49, 48, 49, 32, 83, 119, 105] (by decide +kernel) (by simp only [List.length_append, List.length_cons, List.length_nil]; omega)) hm.1 (Nat.le_of_ble_eq_true rfl) ⟨Nat.le_of_ble_eq_true rfl, Nat.le_of_ble_eq_true rfl⟩ (fun r gq hq => ?_)
  obtain ⟨rfl, V2, F2, hm, q2, o1⟩ := hq
  have q1 := q1.tr q2
  refine x_aload_n 0 dX7_answer_195 rfl (by first | rfl | assumption) ?_
  refine k2_X7_answer_236 dX7_answer_196 ?_
  refine cl_X7_answer_199 (sm_text hm o1 [116, 99, 104, 105, 110, 103, 32, 80] (by decide +kernel) (by simp only [List.length_append, List.length_cons, List.length_nil]; omega)) hm.1 (Nat.le_of_ble_eq_true rfl) ⟨Nat.le_of_ble_eq_true rfl, Nat.le_of_ble_eq_true rfl⟩ (fun r gq hq => ?_)
  obtain ⟨rfl, V2, F2, hm, q2, o1⟩ := hq
  have q1 := q1.tr q2
  refine x_aload_n 0 dX7_answer_202 rfl (by first | rfl | assumption) ?_
  refine k2_X7_answer_238 dX7_answer_203 ?_
  refine cl_X7_answer_206 (sm_text hm o1 [114, 111, 116, 111, 99, 111, 108, 115] (by decide +kernel) (by simp only [List.length_append, List.length_cons, List.length_nil]; omega)) hm.1 (Nat.le_of_ble_eq_true rfl) ⟨Nat.le_of_ble_eq_true rfl, Nat.le_of_ble_eq_true rfl⟩ (fun r gq hq => ?_)
  obtain ⟨rfl, V2, F2, hm, q2, o1⟩ := hq
  have q1 := q1.tr q2
  refine x_aload_n 0 dX7_answer_209 rfl (by first | rfl | assumption) ?_
  refine cl_X7_answer_210 (sm_line hm o1 (by simp only [List.length_append, List.length_cons, List.length_nil]; omega)) hm.1 (Nat.le_of_ble_eq_true rfl) ⟨Nat.le_of_ble_eq_true rfl, Nat.le_of_ble_eq_true rfl⟩ (fun r gq hq => ?_)
  obtain ⟨rfl, V2, F2, hm, q2, o1⟩ := hq
  have q1 := q1.tr q2
  refine x_aload_n 0 dX7_answer_213 rfl (by first | rfl | assumption) ?_
  refine k2_X7_answer_240 dX7_answer_214 ?_
  refine cl_X7_answer_217 (sm_text hm o1 [85, 112, 103, 114, 97, 100, 101, 58] (by decide +kernel) (by simp only [List.length_append, List.length_cons, List.length_nil]; omega)) hm.1 (Nat.le_of_ble_eq_true rfl) ⟨Nat.le_of_ble_eq_true rfl, Nat.le_of_ble_eq_true rfl⟩ (fun r gq hq => ?_)
  obtain ⟨rfl, V2, F2, hm, q2, o1⟩ := hq
  have q1 := q1.tr q2
  refine x_aload_n 0 dX7_answer_220 rfl (by first | rfl | assumption) ?_
  refine k2_X7_answer_242 dX7_answer_221 ?_
  refine cl_X7_answer_224 (sm_text hm o1 [32, 119, 101, 98, 115, 111, 99, 107] (by decide +kernel) (by simp only [List.length_append, List.length_cons, List.length_nil]; omega)) hm.1 (Nat.le_of_ble_eq_true rfl) ⟨Nat.le_of_ble_eq_true rfl, Nat.le_of_ble_eq_true rfl⟩ (fun r gq hq => ?_)
  obtain ⟨rfl, V2, F2, hm, q2, o1⟩ := hq
  have q1 := q1.tr q2
  refine x_aload_n 0 dX7_answer_227 rfl (by first | rfl | assumption) ?_
  refine k2_X7_answer_244 dX7_answer_228 ?_
  refine cl_X7_answer_231 (sm_text hm o1 [101, 116] (by decide +kernel) (by simp only [List.length_append, List.length_cons, List.length_nil]; omega)) hm.1 (Nat.le_of_ble_eq_true rfl) ⟨Nat.le_of_ble_eq_true rfl, Nat.le_of_ble_eq_true rfl⟩ (fun r gq hq => ?_)
  obtain ⟨rfl, V2, F2, hm, q2, o1⟩ := hq
  have q1 := q1.tr q2
  refine x_aload_n 0 dX7_answer_234 rfl (by first | rfl | assumption) ?_
  refine cl_X7_answer_235 (sm_line hm o1 (by simp only [List.length_append, List.length_cons, List.length_nil]; omega)) hm.1 (Nat.le_of_ble_eq_true rfl) ⟨Nat.le_of_ble_eq_true rfl, Nat.le_of_ble_eq_true rfl⟩ (fun r gq hq => ?_)
  obtain ⟨rfl, V2, F2, hm, q2, o1⟩ := hq
  have q1 := q1.tr q2
  refine x_aload_n 0 dX7_answer_238 rfl (by first | rfl | assumption) ?_
  refine k2_X7_answer_246 dX7_answer_239 ?_
  refine cl_X7_answer_242 (sm_text hm o1 [67, 111, 110, 110, 101, 99, 116, 105] (by decide +kernel) (by simp only [List.length_append, List.length_cons, List.length_nil]; omega)) hm.1 (Nat.le_of_ble_eq_true rfl) ⟨Nat.le_of_ble_eq_true rfl, Nat.le_of_ble_eq_true rfl⟩ (fun r gq hq => ?_)
  obtain ⟨rfl, V2, F2, hm, q2, o1⟩ := hq
  have q1 := q1.tr q2
  refine x_aload_n 0 dX7_answer_245 rfl (by first | rfl | assumption) ?_
  refine k2_X7_answer_248 dX7_answer_246 ?_
  refine cl_X7_answer_249 (sm_text hm o1 [111, 110, 58, 32, 85, 112, 103, 114] (by decide +kernel) (by simp only [List.length_append, List.length_cons, List.length_nil]; omega)) hm.1 (Nat.le_of_ble_eq_true rfl) ⟨Nat.le_of_ble_eq_true rfl, Nat.le_of_ble_eq_true rfl⟩ (fun r gq hq => ?_)
  obtain ⟨rfl, V2, F2, hm, q2, o1⟩ := hq
  have q1 := q1.tr q2
  refine x_aload_n 0 dX7_answer_252 rfl (by first | rfl | assumption) ?_
  refine k2_X7_answer_250 dX7_answer_253 ?_
  refine cl_X7_answer_256 (sm_text hm o1 [97, 100, 101] (by decide +kernel) (by simp only [List.length_append, List.length_cons, List.length_nil]; omega)) hm.1 (Nat.le_of_ble_eq_true rfl) ⟨Nat.le_of_ble_eq_true rfl, Nat.le_of_ble_eq_true rfl⟩ (fun r gq hq => ?_)
  obtain ⟨rfl, V2, F2, hm, q2, o1⟩ := hq
  have q1 := q1.tr q2
  refine x_aload_n 0 dX7_answer_259 rfl (by first | rfl | assumption) ?_
  refine cl_X7_answer_260 (sm_line hm o1 (by simp only [List.length_append, List.length_cons, List.length_nil]; omega)) hm.1 (Nat.le_of_ble_eq_true rfl) ⟨Nat.le_of_ble_eq_true rfl, Nat.le_of_ble_eq_true rfl⟩ (fun r gq hq => ?_)
  obtain ⟨rfl, V2, F2, hm, q2, o1⟩ := hq
  have q1 := q1.tr q2
  refine x_aload_n 0 dX7_answer_263 rfl (by first | rfl | assumption) ?_
  refine k2_X7_answer_226 dX7_answer_264 ?_
  refine cl_X7_answer_267 (sm_text hm o1 [83, 101, 99, 45, 87, 101, 98, 83] (by decide +kernel) (by simp only [List.length_append, List.length_cons, List.length_nil]; omega)) hm.1 (Nat.le_of_ble_eq_true rfl) ⟨Nat.le_of_ble_eq_true rfl, Nat.le_of_ble_eq_true rfl⟩ (fun r gq hq => ?_)
  obtain ⟨rfl, V2, F2, hm, q2, o1⟩ := hq
  have q1 := q1.tr q2
  refine x_aload_n 0 dX7_answer_270 rfl (by first | rfl | assumption) ?_
  refine k2_X7_answer_252 dX7_answer_271 ?_
  refine cl_X7_answer_274 (sm_text hm o1 [111, 99, 107, 101, 116, 45, 65, 99] (by decide +kernel) (by simp only [List.length_append, List.length_cons, List.length_nil]; omega)) hm.1 (Nat.le_of_ble_eq_true rfl) ⟨Nat.le_of_ble_eq_true rfl, Nat.le_of_ble_eq_true rfl⟩ (fun r gq hq => ?_)
  obtain ⟨rfl, V2, F2, hm, q2, o1⟩ := hq
  have q1 := q1.tr q2
  refine x_aload_n 0 dX7_answer_277 rfl (by first | rfl | assumption) ?_
  refine k2_X7_answer_254 dX7_answer_278 ?_
  refine cl_X7_answer_281 (sm_text hm o1 [99, 101, 112, 116, 58, 32] (by decide +kernel) (by simp only [List.length_append, List.length_cons, List.length_nil]; omega)) hm.1 (Nat.le_of_ble_eq_true rfl) ⟨Nat.le_of_ble_eq_true rfl, Nat.le_of_ble_eq_true rfl⟩ (fun r gq hq => ?_)
  obtain ⟨rfl, V2, F2, hm, q2, o1⟩ := hq
  have q1 := q1.tr q2
  refine x_aload_n 0 dX7_answer_284 rfl (by first | rfl | assumption) ?_
  refine cl_X7_answer_285 (sm_proof (l := l) hm (by rw [q1.2 1 (by decide)]; exact hl) hN (by rw [q1.2 3 (by decide)]; exact f33) hp o1 (by simp only [List.length_append, List.length_cons, List.length_nil]; omega)) hm.1 (Nat.le_of_ble_eq_true rfl) ⟨Nat.le_of_ble_eq_true rfl, Nat.le_of_ble_eq_true rfl⟩ (fun r gq hq => ?_)
  generalize d_proof ((l.drop p).take 24) = E at hq hpl ⊢
  obtain ⟨rfl, V3, F3, hm, q3, r3, o1⟩ := hq
  refine x_aload_n 0 dX7_answer_288 rfl (by first | rfl | assumption) ?_
  refine cl_X7_answer_289 (sm_line hm o1 (by simp only [List.length_append, hpl, List.length_cons, List.length_nil]; omega)) hm.1 (Nat.le_of_ble_eq_true rfl) ⟨Nat.le_of_ble_eq_true rfl, Nat.le_of_ble_eq_true rfl⟩ (fun r gq hq => ?_)
  obtain ⟨rfl, V4, F4, hm, q4, o1⟩ := hq
  refine x_aload_n 0 dX7_answer_292 rfl (by first | rfl | assumption) ?_
  refine cl_X7_answer_293 (sm_line hm o1 (by simp only [List.length_append, hpl, List.length_cons, List.length_nil]; omega)) hm.1 (Nat.le_of_ble_eq_true rfl) ⟨Nat.le_of_ble_eq_true rfl, Nat.le_of_ble_eq_true rfl⟩ (fun r gq hq => ?_)
  obtain ⟨rfl, V5, F5, hm, q5, o1⟩ := hq
  refine x_aload_n 0 dX7_answer_296 rfl (by first | rfl | assumption) ?_
  refine x_iconst 1 dX7_answer_297 (by decide) ?_
  refine pf_X7_answer_217 dX7_answer_298 hm.1 (Nat.le_of_ble_eq_true rfl) ?_
  refine x_gm hm (fun gm hm f1 => ?_)
  refine x_vret rfl dX7_answer_301 (by decide) (by decide) ?_
  refine ⟨rfl, _, _, hm, fun j h9 h1 => by rw [m_un h1, q5.1 j h9, q4.1 j h9, q3 j h9, q1.1 j h9, hV], m_us, fun j h5 h13 => (((q5.2 j (by omega)).trans (q4.2 j (by omega))).trans (r3 j h5 h13)).trans ((q1.2 j (by omega)).trans (hF j (by omega) h13)), ?_⟩
  refine m_o.fld ?_ (by decide)
  rw [show q_byt.getD 10 [] = [72, 84, 84, 80, 47, 49, 46, 49] ++ [32, 49, 48, 49, 32, 83, 119, 105] ++ [116, 99, 104, 105, 110, 103, 32, 80] ++ [114, 111, 116, 111, 99, 111, 108, 115] ++ [13, 10] ++ [85, 112, 103, 114, 97, 100, 101, 58] ++ [32, 119, 101, 98, 115, 111, 99, 107] ++ [101, 116] ++ [13, 10] ++ [67, 111, 110, 110, 101, 99, 116, 105] ++ [111, 110, 58, 32, 85, 112, 103, 114] ++ [97, 100, 101] ++ [13, 10] ++ [83, 101, 99, 45, 87, 101, 98, 83] ++ [111, 99, 107, 101, 116, 45, 65, 99] ++ [99, 101, 112, 116, 58, 32] from rfl]
  rw [show q_byt.getD 13 [] = [13, 10] ++ [13, 10] from rfl]
  simp only [List.append_assoc] at o1 ⊢
  exact o1
end MdlM
