/-! the reference: the digest -/
section MdlI
variable {G : q_G} {h0 h : q_H} {B : Nat → Nat} {V : Nat → Value} {F : Nat → Nat → Int32} {l : List Int32}
def m_f (t : Nat) (b c d : Int32) : Int32 := if t < 20 then b &&& c ||| (b ^^^ (-1)) &&& d else if 40 ≤ t ∧ t < 60 then b &&& c ||| b &&& d ||| c &&& d else b ^^^ c ^^^ d
def m_k (t : Nat) : Int32 := if t < 20 then 1518500249 else if t < 40 then 1859775393 else if t < 60 then -1894007588 else -899497514
theorem m_bl (t : Nat) (b c d : Int32) : d_bl t b c d = m_f t b c d + m_k t := by
  unfold d_bl m_f m_k
  by_cases h1 : t < 20
  · rw [if_pos h1, if_pos h1, if_pos h1]
  · rw [if_neg h1, if_neg h1, if_neg h1]
    by_cases h2 : t < 40
    · rw [if_pos h2, if_pos h2, if_neg (by omega)]
    · rw [if_neg h2, if_neg h2]
      by_cases h3 : t < 60
      · rw [if_pos h3, if_pos h3, if_pos (by omega), Int32.sub_eq_add_neg]
      · rw [if_neg h3, if_neg h3, if_neg (by omega), Int32.sub_eq_add_neg]
theorem m_sum (r f k e w : Int32) : r + f + e + k + w = r + (f + k) + e + w := by
  rw [Int32.add_assoc r f e, Int32.add_comm f e, ← Int32.add_assoc r e f, Int32.add_assoc (r + e) f k, Int32.add_assoc r e (f + k), Int32.add_comm e (f + k), ← Int32.add_assoc r (f + k) e]
theorem sm_mix {f : Nat} {s : d_5} (hm : k_m h0 h B V F) (hf : f + 64 ≤ 128) (hs : ∀ j, j < 5 → F 15 j = d_sel s j) : q_SP G mX7_mix [.ref (B 0), .int (nI f)] h 0 0 (fun o h' => o = none ∧ ∃ F', k_m h0 h' B V F' ∧ (∀ j, j ≠ 14 ∧ j ≠ 15 → F' j = F j) ∧ ∀ j, j < 5 → F' 15 j = d_sel (d_add s (d_run (d_W (fun i => F 13 (f + i))) 80 s)) j) := by
  generalize hW : d_W (fun i => F 13 (f + i)) = W
  generalize hD : d_add s (d_run W 80 s) = D
  have i0 : vp_in 0 5 := vp_in_nI (n := 0) (by omega) (by omega)
  have i1 : vp_in 1 5 := vp_in_nI (n := 1) (by omega) (by omega)
  have i2 : vp_in 2 5 := vp_in_nI (n := 2) (by omega) (by omega)
  have i3 : vp_in 3 5 := vp_in_nI (n := 3) (by omega) (by omega)
  have i4 : vp_in 4 5 := vp_in_nI (n := 4) (by omega) (by omega)
  have loop2 : ∀ (m t : Nat) (x a b c d e : Int32) (h1 : q_H) (F1 : Nat → Nat → Int32) (lv : List (Nat × Value)), x = nI t → t + m = 80 → d_run W t s = (a, b, c, d, e) → k_m h0 h1 B V F1 → (∀ j, j ≠ 14 ∧ j ≠ 15 → F1 j = F j) → (∀ j, j < 5 → F1 15 j = d_sel s j) → (∀ j, j < 80 → F1 14 j = W j) →
      q_X G mX7_mix (q_R mX7_mix 0 0) (q_FN G (fun o h' => o = none ∧ ∃ F', k_m h0 h' B V F' ∧ (∀ j, j ≠ 14 ∧ j ≠ 15 → F' j = F j) ∧ ∀ j, j < 5 → F' 15 j = d_sel D j) 0 0) 160 ([(0, .ref (B 0)), (1, .int (nI f)), (2, .int a), (3, .int b), (4, .int c), (5, .int d), (6, .int e), (7, .int x)] ++ lv) [] h1 0 0 := by
    intro m
    induction m with
    | zero =>
      intro t x a b c d e h1 F1 lv hx ht hr hm e1 s1 w1
      subst hx
      have ht : t = 80 := by omega
      subst ht
      refine x_take 8 ?_
      refine x_iload dX7_mix_160 (by first | rfl | assumption) ?_
      refine x_bipush 80 dX7_mix_162 (by decide) ?_
      refine x_icmp_ge 320 dX7_mix_164 (by decide) (fun _ => ?_) (fun z => absurd (Int32.le_refl _) z)
      refine x_aload_n 0 dX7_mix_320 rfl (by first | rfl | assumption) ?_
      refine gf_X7_mix_52 dX7_mix_321 hm.1 (congrArg some hm.r35) ?_
      refine x_iconst 0 dX7_mix_324 (by decide) ?_
      refine x_aload_n 0 dX7_mix_325 rfl (by first | rfl | assumption) ?_
      refine gf_X7_mix_52 dX7_mix_326 hm.1 (congrArg some hm.r35) ?_
      refine x_iconst 0 dX7_mix_329 (by decide) ?_
      refine x_iald dX7_mix_330 (by first | exact hm.a1 | exact hm.a2 | exact hm.a3 | exact hm.a4 | exact hm.a5 | exact hm.a6 | exact hm.a7 | exact hm.a8 | exact hm.a9 | exact hm.a10 | exact hm.a11 | exact hm.a12 | exact hm.a13 | exact hm.a14 | exact hm.a15) (by assumption) ?_
      refine x_iload_n 2 dX7_mix_331 rfl (by first | rfl | assumption) ?_
      refine x_iadd dX7_mix_332 ?_
      refine x_iast dX7_mix_333 (by first | exact hm.a1 | exact hm.a2 | exact hm.a3 | exact hm.a4 | exact hm.a5 | exact hm.a6 | exact hm.a7 | exact hm.a8 | exact hm.a9 | exact hm.a10 | exact hm.a11 | exact hm.a12 | exact hm.a13 | exact hm.a14 | exact hm.a15) (by assumption) ?_
      refine x_ga hm (by decide) rfl (fun gm hm => ?_)
      refine x_aload_n 0 dX7_mix_334 rfl (by first | rfl | assumption) ?_
      refine gf_X7_mix_52 dX7_mix_335 hm.1 (congrArg some hm.r35) ?_
      refine x_iconst 1 dX7_mix_338 (by decide) ?_
      refine x_aload_n 0 dX7_mix_339 rfl (by first | rfl | assumption) ?_
      refine gf_X7_mix_52 dX7_mix_340 hm.1 (congrArg some hm.r35) ?_
      refine x_iconst 1 dX7_mix_343 (by decide) ?_
      refine x_iald dX7_mix_344 (by first | exact hm.a1 | exact hm.a2 | exact hm.a3 | exact hm.a4 | exact hm.a5 | exact hm.a6 | exact hm.a7 | exact hm.a8 | exact hm.a9 | exact hm.a10 | exact hm.a11 | exact hm.a12 | exact hm.a13 | exact hm.a14 | exact hm.a15) (by assumption) ?_
      refine x_iload_n 3 dX7_mix_345 rfl (by first | rfl | assumption) ?_
      refine x_iadd dX7_mix_346 ?_
      refine x_iast dX7_mix_347 (by first | exact hm.a1 | exact hm.a2 | exact hm.a3 | exact hm.a4 | exact hm.a5 | exact hm.a6 | exact hm.a7 | exact hm.a8 | exact hm.a9 | exact hm.a10 | exact hm.a11 | exact hm.a12 | exact hm.a13 | exact hm.a14 | exact hm.a15) (by assumption) ?_
      refine x_ga hm (by decide) rfl (fun gm hm => ?_)
      refine x_aload_n 0 dX7_mix_348 rfl (by first | rfl | assumption) ?_
      refine gf_X7_mix_52 dX7_mix_349 hm.1 (congrArg some hm.r35) ?_
      refine x_iconst 2 dX7_mix_352 (by decide) ?_
      refine x_aload_n 0 dX7_mix_353 rfl (by first | rfl | assumption) ?_
      refine gf_X7_mix_52 dX7_mix_354 hm.1 (congrArg some hm.r35) ?_
      refine x_iconst 2 dX7_mix_357 (by decide) ?_
      refine x_iald dX7_mix_358 (by first | exact hm.a1 | exact hm.a2 | exact hm.a3 | exact hm.a4 | exact hm.a5 | exact hm.a6 | exact hm.a7 | exact hm.a8 | exact hm.a9 | exact hm.a10 | exact hm.a11 | exact hm.a12 | exact hm.a13 | exact hm.a14 | exact hm.a15) (by assumption) ?_
      refine x_iload dX7_mix_359 (by first | rfl | assumption) ?_
      refine x_iadd dX7_mix_361 ?_
      refine x_iast dX7_mix_362 (by first | exact hm.a1 | exact hm.a2 | exact hm.a3 | exact hm.a4 | exact hm.a5 | exact hm.a6 | exact hm.a7 | exact hm.a8 | exact hm.a9 | exact hm.a10 | exact hm.a11 | exact hm.a12 | exact hm.a13 | exact hm.a14 | exact hm.a15) (by assumption) ?_
      refine x_ga hm (by decide) rfl (fun gm hm => ?_)
      refine x_aload_n 0 dX7_mix_363 rfl (by first | rfl | assumption) ?_
      refine gf_X7_mix_52 dX7_mix_364 hm.1 (congrArg some hm.r35) ?_
      refine x_iconst 3 dX7_mix_367 (by decide) ?_
      refine x_aload_n 0 dX7_mix_368 rfl (by first | rfl | assumption) ?_
      refine gf_X7_mix_52 dX7_mix_369 hm.1 (congrArg some hm.r35) ?_
      refine x_iconst 3 dX7_mix_372 (by decide) ?_
      refine x_iald dX7_mix_373 (by first | exact hm.a1 | exact hm.a2 | exact hm.a3 | exact hm.a4 | exact hm.a5 | exact hm.a6 | exact hm.a7 | exact hm.a8 | exact hm.a9 | exact hm.a10 | exact hm.a11 | exact hm.a12 | exact hm.a13 | exact hm.a14 | exact hm.a15) (by assumption) ?_
      refine x_iload dX7_mix_374 (by first | rfl | assumption) ?_
      refine x_iadd dX7_mix_376 ?_
      refine x_iast dX7_mix_377 (by first | exact hm.a1 | exact hm.a2 | exact hm.a3 | exact hm.a4 | exact hm.a5 | exact hm.a6 | exact hm.a7 | exact hm.a8 | exact hm.a9 | exact hm.a10 | exact hm.a11 | exact hm.a12 | exact hm.a13 | exact hm.a14 | exact hm.a15) (by assumption) ?_
      refine x_ga hm (by decide) rfl (fun gm hm => ?_)
      refine x_aload_n 0 dX7_mix_378 rfl (by first | rfl | assumption) ?_
      refine gf_X7_mix_52 dX7_mix_379 hm.1 (congrArg some hm.r35) ?_
      refine x_iconst 4 dX7_mix_382 (by decide) ?_
      refine x_aload_n 0 dX7_mix_383 rfl (by first | rfl | assumption) ?_
      refine gf_X7_mix_52 dX7_mix_384 hm.1 (congrArg some hm.r35) ?_
      refine x_iconst 4 dX7_mix_387 (by decide) ?_
      refine x_iald dX7_mix_388 (by first | exact hm.a1 | exact hm.a2 | exact hm.a3 | exact hm.a4 | exact hm.a5 | exact hm.a6 | exact hm.a7 | exact hm.a8 | exact hm.a9 | exact hm.a10 | exact hm.a11 | exact hm.a12 | exact hm.a13 | exact hm.a14 | exact hm.a15) (by assumption) ?_
      refine x_iload dX7_mix_389 (by first | rfl | assumption) ?_
      refine x_iadd dX7_mix_391 ?_
      refine x_iast dX7_mix_392 (by first | exact hm.a1 | exact hm.a2 | exact hm.a3 | exact hm.a4 | exact hm.a5 | exact hm.a6 | exact hm.a7 | exact hm.a8 | exact hm.a9 | exact hm.a10 | exact hm.a11 | exact hm.a12 | exact hm.a13 | exact hm.a14 | exact hm.a15) (by assumption) ?_
      refine x_ga hm (by decide) rfl (fun gm hm => ?_)
      refine x_vret rfl dX7_mix_393 (by decide) (by decide) ?_
      refine ⟨rfl, _, hm, fun j hj => ?_, fun j hj => ?_⟩
      · rw [m_un hj.2, m_un hj.2, m_un hj.2, m_un hj.2, m_un hj.2]
        exact e1 j hj
      · rw [← hD, hr]
        have t0 := s1 0 (by decide)
        have t1 := s1 1 (by decide)
        have t2 := s1 2 (by decide)
        have t3 := s1 3 (by decide)
        have t4 := s1 4 (by decide)
        have five : j = 0 ∨ j = 1 ∨ j = 2 ∨ j = 3 ∨ j = 4 := by omega
        rcases five with rfl | rfl | rfl | rfl | rfl
        · show F1 15 0 + a = s.1 + a
          rw [t0]; rfl
        · show F1 15 1 + b = s.2.1 + b
          rw [t1]; rfl
        · show F1 15 2 + c = s.2.2.1 + c
          rw [t2]; rfl
        · show F1 15 3 + d = s.2.2.2.1 + d
          rw [t3]; rfl
        · show F1 15 4 + e = s.2.2.2.2 + e
          rw [t4]; rfl
    | succ m ih =>
      intro t x a b c d e h1 F1 lv hx ht hr hm e1 s1 w1
      subst hx
      have v0 : vp_in (nI t) 80 := vp_in_nI (by omega) (by omega)
      have h307 : ∀ (y z ff kk : Int32), d_step W t (a, b, c, d, e) = (y, a, z, c, d) → q_X G mX7_mix (q_R mX7_mix 0 0) (q_FN G (fun o h' => o = none ∧ ∃ F', k_m h0 h' B V F' ∧ (∀ j, j ≠ 14 ∧ j ≠ 15 → F' j = F j) ∧ ∀ j, j < 5 → F' 15 j = d_sel D j) 0 0) 307 [(0, .ref (B 0)), (1, .int (nI f)), (2, .int a), (3, .int b), (4, .int c), (5, .int c), (6, .int d), (7, .int (nI t)), (8, .int ff), (9, .int kk), (10, .int y)] [.int z] h1 0 0 := by
        intro y z ff kk hy
        refine x_istore dX7_mix_307 (by decide) rfl ?_
        refine x_iload_n 2 dX7_mix_309 rfl (by first | rfl | assumption) ?_
        refine x_istore_n 3 dX7_mix_310 rfl (by decide) rfl ?_
        refine x_iload dX7_mix_311 (by first | rfl | assumption) ?_
        refine x_istore_n 2 dX7_mix_313 rfl (by decide) rfl ?_
        refine x_iinc 1 dX7_mix_314 (by first | rfl | assumption) (by decide) (by decide) rfl ?_
        refine x_goto 160 dX7_mix_317 (by decide) ?_
        refine ih (t + 1) _ _ _ _ _ _ h1 F1 [(8, .int ff), (9, .int kk), (10, .int y)] (nI_1 t) (by omega) ?_ hm e1 s1 w1
        show d_step W t (d_run W t s) = _
        rw [hr]
        exact hy
      have h293 : ∀ (y ff kk : Int32), y = d_rot a 5 + d_bl t b c d + e + W t → q_X G mX7_mix (q_R mX7_mix 0 0) (q_FN G (fun o h' => o = none ∧ ∃ F', k_m h0 h' B V F' ∧ (∀ j, j ≠ 14 ∧ j ≠ 15 → F' j = F j) ∧ ∀ j, j < 5 → F' 15 j = d_sel D j) 0 0) 293 [(0, .ref (B 0)), (1, .int (nI f)), (2, .int a), (3, .int b), (4, .int c), (5, .int d), (6, .int e), (7, .int (nI t)), (8, .int ff), (9, .int kk), (10, .int y)] [] h1 0 0 := by
        intro y ff kk hy
        refine x_iload dX7_mix_293 (by first | rfl | assumption) ?_
        refine x_istore dX7_mix_295 (by decide) rfl ?_
        refine x_iload dX7_mix_297 (by first | rfl | assumption) ?_
        refine x_istore dX7_mix_299 (by decide) rfl ?_
        refine x_iload_n 3 dX7_mix_301 rfl (by first | rfl | assumption) ?_
        refine x_bipush 30 dX7_mix_302 (by decide) ?_
        refine cl_X7_mix_304 (sm_rotated b 30) (Nat.le_of_ble_eq_true rfl) ⟨Nat.le_of_ble_eq_true rfl, Nat.le_of_ble_eq_true rfl⟩ (fun r g hq => ?_)
        obtain ⟨rfl, hg⟩ := hq
        rw [hg]
        exact h307 y _ ff kk (by rw [hy]; rfl)
      have h269 : ∀ (ff kk : Int32), ff = m_f t b c d → kk = m_k t → q_X G mX7_mix (q_R mX7_mix 0 0) (q_FN G (fun o h' => o = none ∧ ∃ F', k_m h0 h' B V F' ∧ (∀ j, j ≠ 14 ∧ j ≠ 15 → F' j = F j) ∧ ∀ j, j < 5 → F' 15 j = d_sel D j) 0 0) 267 [(0, .ref (B 0)), (1, .int (nI f)), (2, .int a), (3, .int b), (4, .int c), (5, .int d), (6, .int e), (7, .int (nI t)), (8, .int ff)] [.int kk] h1 0 0 := by
        intro ff kk hff hkk
        refine x_istore dX7_mix_267 (by decide) rfl ?_
        refine x_iload_n 2 dX7_mix_269 rfl (by first | rfl | assumption) ?_
        refine x_iconst 5 dX7_mix_270 (by decide) ?_
        refine cl_X7_mix_271 (sm_rotated a 5) (Nat.le_of_ble_eq_true rfl) ⟨Nat.le_of_ble_eq_true rfl, Nat.le_of_ble_eq_true rfl⟩ (fun r g hq => ?_)
        obtain ⟨rfl, hg⟩ := hq
        rw [hg]
        refine x_iload dX7_mix_274 (by first | rfl | assumption) ?_
        refine x_iadd dX7_mix_276 ?_
        refine x_iload dX7_mix_277 (by first | rfl | assumption) ?_
        refine x_iadd dX7_mix_279 ?_
        refine x_iload dX7_mix_280 (by first | rfl | assumption) ?_
        refine x_iadd dX7_mix_282 ?_
        refine x_aload_n 0 dX7_mix_283 rfl (by first | rfl | assumption) ?_
        refine gf_X7_mix_49 dX7_mix_284 hm.1 (congrArg some hm.r34) ?_
        refine x_iload dX7_mix_287 (by first | rfl | assumption) ?_
        refine x_iald dX7_mix_289 (by first | exact hm.a1 | exact hm.a2 | exact hm.a3 | exact hm.a4 | exact hm.a5 | exact hm.a6 | exact hm.a7 | exact hm.a8 | exact hm.a9 | exact hm.a10 | exact hm.a11 | exact hm.a12 | exact hm.a13 | exact hm.a14 | exact hm.a15) (by assumption) ?_
        refine x_iadd dX7_mix_290 ?_
        rw [nI_clamp (by omega), w1 t (by omega), m_sum, hff, hkk, ← m_bl]
        refine x_istore dX7_mix_291 (by decide) rfl ?_
        exact h293 _ _ _ rfl
      have h229 : ∀ (ff : Int32), ff = m_f t b c d → q_X G mX7_mix (q_R mX7_mix 0 0) (q_FN G (fun o h' => o = none ∧ ∃ F', k_m h0 h' B V F' ∧ (∀ j, j ≠ 14 ∧ j ≠ 15 → F' j = F j) ∧ ∀ j, j < 5 → F' 15 j = d_sel D j) 0 0) 227 [(0, .ref (B 0)), (1, .int (nI f)), (2, .int a), (3, .int b), (4, .int c), (5, .int d), (6, .int e), (7, .int (nI t))] [.int ff] h1 0 0 := by
        intro ff hff
        refine x_istore dX7_mix_227 (by decide) rfl ?_
        refine x_iload dX7_mix_229 (by first | rfl | assumption) ?_
        refine x_bipush 20 dX7_mix_231 (by decide) ?_
        by_cases c1 : t < 20
        · refine x_icmp_ge 241 dX7_mix_233 (by decide) (fun z => absurd z (nI_ge (b := 20) c1 (by omega))) (fun _ => ?_)
          refine k1_X7_mix_163 dX7_mix_236 ?_
          refine x_goto 267 dX7_mix_238 (by decide) ?_
          exact h269 ff _ hff (by unfold m_k; rw [if_pos c1])
        · refine x_icmp_ge 241 dX7_mix_233 (by decide) (fun _ => ?_) (fun z => absurd (nI_le (a := 20) (by omega) (by omega)) z)
          refine x_iload dX7_mix_241 (by first | rfl | assumption) ?_
          refine x_bipush 40 dX7_mix_243 (by decide) ?_
          by_cases c2 : t < 40
          · refine x_icmp_ge 253 dX7_mix_245 (by decide) (fun z => absurd z (nI_ge (b := 40) c2 (by omega))) (fun _ => ?_)
            refine k1_X7_mix_164 dX7_mix_248 ?_
            refine x_goto 267 dX7_mix_250 (by decide) ?_
            exact h269 ff _ hff (by unfold m_k; rw [if_neg c1, if_pos c2])
          · refine x_icmp_ge 253 dX7_mix_245 (by decide) (fun _ => ?_) (fun z => absurd (nI_le (a := 40) (by omega) (by omega)) z)
            refine x_iload dX7_mix_253 (by first | rfl | assumption) ?_
            refine x_bipush 60 dX7_mix_255 (by decide) ?_
            by_cases c3 : t < 60
            · refine x_icmp_ge 265 dX7_mix_257 (by decide) (fun z => absurd z (nI_ge (b := 60) c3 (by omega))) (fun _ => ?_)
              refine k1_X7_mix_165 dX7_mix_260 ?_
              refine x_goto 267 dX7_mix_262 (by decide) ?_
              exact h269 ff _ hff (by unfold m_k; rw [if_neg c1, if_neg c2, if_pos c3])
            · refine x_icmp_ge 265 dX7_mix_257 (by decide) (fun _ => ?_) (fun z => absurd (nI_le (a := 60) (by omega) (by omega)) z)
              refine k1_X7_mix_166 dX7_mix_265 ?_
              exact h269 ff _ hff (by unfold m_k; rw [if_neg c1, if_neg c2, if_neg c3])
      refine x_take 8 ?_
      refine x_iload dX7_mix_160 (by first | rfl | assumption) ?_
      refine x_bipush 80 dX7_mix_162 (by decide) ?_
      refine x_icmp_ge 320 dX7_mix_164 (by decide) (fun z => absurd z (nI_ge (b := 80) (by omega) (by omega))) (fun _ => ?_)
      refine x_iload dX7_mix_167 (by first | rfl | assumption) ?_
      refine x_bipush 20 dX7_mix_169 (by decide) ?_
      by_cases c1 : t < 20
      · refine x_icmp_ge 188 dX7_mix_171 (by decide) (fun z => absurd z (nI_ge (b := 20) c1 (by omega))) (fun _ => ?_)
        refine x_iload_n 3 dX7_mix_174 rfl (by first | rfl | assumption) ?_
        refine x_iload dX7_mix_175 (by first | rfl | assumption) ?_
        refine x_iand dX7_mix_177 ?_
        refine x_iload_n 3 dX7_mix_178 rfl (by first | rfl | assumption) ?_
        refine x_iconst (-1) dX7_mix_179 (by decide) ?_
        refine x_ixor dX7_mix_180 ?_
        refine x_iload dX7_mix_181 (by first | rfl | assumption) ?_
        refine x_iand dX7_mix_183 ?_
        refine x_ior dX7_mix_184 ?_
        refine x_goto 227 dX7_mix_185 (by decide) ?_
        exact h229 _ (by unfold m_f; rw [if_pos c1])
      · refine x_icmp_ge 188 dX7_mix_171 (by decide) (fun _ => ?_) (fun z => absurd (nI_le (a := 20) (by omega) (by omega)) z)
        refine x_iload dX7_mix_188 (by first | rfl | assumption) ?_
        refine x_bipush 40 dX7_mix_190 (by decide) ?_
        by_cases c2 : t < 40
        · refine x_icmp_lt 220 dX7_mix_192 (by decide) (fun _ => ?_) (fun z => absurd (nI_lt (b := 40) c2 (by omega)) z)
          refine x_iload_n 3 dX7_mix_220 rfl (by first | rfl | assumption) ?_
          refine x_iload dX7_mix_221 (by first | rfl | assumption) ?_
          refine x_ixor dX7_mix_223 ?_
          refine x_iload dX7_mix_224 (by first | rfl | assumption) ?_
          refine x_ixor dX7_mix_226 ?_
          exact h229 _ (by unfold m_f; rw [if_neg c1, if_neg (by omega)])
        · refine x_icmp_lt 220 dX7_mix_192 (by decide) (fun z => absurd z (nI_nlt (b := 40) (by omega) (by omega))) (fun _ => ?_)
          refine x_iload dX7_mix_195 (by first | rfl | assumption) ?_
          refine x_bipush 60 dX7_mix_197 (by decide) ?_
          by_cases c3 : t < 60
          · refine x_icmp_ge 220 dX7_mix_199 (by decide) (fun z => absurd z (nI_ge (b := 60) c3 (by omega))) (fun _ => ?_)
            refine x_iload_n 3 dX7_mix_202 rfl (by first | rfl | assumption) ?_
            refine x_iload dX7_mix_203 (by first | rfl | assumption) ?_
            refine x_iand dX7_mix_205 ?_
            refine x_iload_n 3 dX7_mix_206 rfl (by first | rfl | assumption) ?_
            refine x_iload dX7_mix_207 (by first | rfl | assumption) ?_
            refine x_iand dX7_mix_209 ?_
            refine x_ior dX7_mix_210 ?_
            refine x_iload dX7_mix_211 (by first | rfl | assumption) ?_
            refine x_iload dX7_mix_213 (by first | rfl | assumption) ?_
            refine x_iand dX7_mix_215 ?_
            refine x_ior dX7_mix_216 ?_
            refine x_goto 227 dX7_mix_217 (by decide) ?_
            exact h229 _ (by unfold m_f; rw [if_neg c1, if_pos (by omega)])
          · refine x_icmp_ge 220 dX7_mix_199 (by decide) (fun _ => ?_) (fun z => absurd (nI_le (a := 60) (by omega) (by omega)) z)
            refine x_iload_n 3 dX7_mix_220 rfl (by first | rfl | assumption) ?_
            refine x_iload dX7_mix_221 (by first | rfl | assumption) ?_
            refine x_ixor dX7_mix_223 ?_
            refine x_iload dX7_mix_224 (by first | rfl | assumption) ?_
            refine x_ixor dX7_mix_226 ?_
            exact h229 _ (by unfold m_f; rw [if_neg c1, if_neg (by omega)])
  have loop1 : ∀ (m t : Nat) (x : Int32) (h1 : q_H) (F1 : Nat → Nat → Int32) (lv : List (Nat × Value)), x = nI t → t + m = 80 → k_m h0 h1 B V F1 → (∀ j, j ≠ 14 → F1 j = F j) → (∀ j, j < t → F1 14 j = W j) →
      q_X G mX7_mix (q_R mX7_mix 0 0) (q_FN G (fun o h' => o = none ∧ ∃ F', k_m h0 h' B V F' ∧ (∀ j, j ≠ 14 ∧ j ≠ 15 → F' j = F j) ∧ ∀ j, j < 5 → F' 15 j = d_sel D j) 0 0) 2 ([(0, .ref (B 0)), (1, .int (nI f)), (2, .int x)] ++ lv) [] h1 0 0 := by
    intro m
    induction m with
    | zero =>
      intro t x h1 F1 lv hx ht hm e1 w1
      subst hx
      have ht : t = 80 := by omega
      subst ht
      have s1 : ∀ j, j < 5 → F1 15 j = d_sel s j := fun j hj => by rw [e1 15 (by decide)]; exact hs j hj
      have t0 : F1 15 (0 : Int32).toNatClampNeg = s.1 := s1 0 (by decide)
      have t1 : F1 15 (1 : Int32).toNatClampNeg = s.2.1 := s1 1 (by decide)
      have t2 : F1 15 (2 : Int32).toNatClampNeg = s.2.2.1 := s1 2 (by decide)
      have t3 : F1 15 (3 : Int32).toNatClampNeg = s.2.2.2.1 := s1 3 (by decide)
      have t4 : F1 15 (4 : Int32).toNatClampNeg = s.2.2.2.2 := s1 4 (by decide)
      refine x_take 3 ?_
      refine x_iload_n 2 dX7_mix_2 rfl (by first | rfl | assumption) ?_
      refine x_bipush 80 dX7_mix_3 (by decide) ?_
      refine x_icmp_ge 119 dX7_mix_5 (by decide) (fun _ => ?_) (fun z => absurd (Int32.le_refl _) z)
      refine x_aload_n 0 dX7_mix_119 rfl (by first | rfl | assumption) ?_
      refine gf_X7_mix_52 dX7_mix_120 hm.1 (congrArg some hm.r35) ?_
      refine x_iconst 0 dX7_mix_123 (by decide) ?_
      refine x_iald dX7_mix_124 (by first | exact hm.a1 | exact hm.a2 | exact hm.a3 | exact hm.a4 | exact hm.a5 | exact hm.a6 | exact hm.a7 | exact hm.a8 | exact hm.a9 | exact hm.a10 | exact hm.a11 | exact hm.a12 | exact hm.a13 | exact hm.a14 | exact hm.a15) (by assumption) ?_
      refine x_istore_n 2 dX7_mix_125 rfl (by decide) rfl ?_
      refine x_aload_n 0 dX7_mix_126 rfl (by first | rfl | assumption) ?_
      refine gf_X7_mix_52 dX7_mix_127 hm.1 (congrArg some hm.r35) ?_
      refine x_iconst 1 dX7_mix_130 (by decide) ?_
      refine x_iald dX7_mix_131 (by first | exact hm.a1 | exact hm.a2 | exact hm.a3 | exact hm.a4 | exact hm.a5 | exact hm.a6 | exact hm.a7 | exact hm.a8 | exact hm.a9 | exact hm.a10 | exact hm.a11 | exact hm.a12 | exact hm.a13 | exact hm.a14 | exact hm.a15) (by assumption) ?_
      refine x_istore_n 3 dX7_mix_132 rfl (by decide) rfl ?_
      refine x_aload_n 0 dX7_mix_133 rfl (by first | rfl | assumption) ?_
      refine gf_X7_mix_52 dX7_mix_134 hm.1 (congrArg some hm.r35) ?_
      refine x_iconst 2 dX7_mix_137 (by decide) ?_
      refine x_iald dX7_mix_138 (by first | exact hm.a1 | exact hm.a2 | exact hm.a3 | exact hm.a4 | exact hm.a5 | exact hm.a6 | exact hm.a7 | exact hm.a8 | exact hm.a9 | exact hm.a10 | exact hm.a11 | exact hm.a12 | exact hm.a13 | exact hm.a14 | exact hm.a15) (by assumption) ?_
      refine x_istore dX7_mix_139 (by decide) rfl ?_
      refine x_aload_n 0 dX7_mix_141 rfl (by first | rfl | assumption) ?_
      refine gf_X7_mix_52 dX7_mix_142 hm.1 (congrArg some hm.r35) ?_
      refine x_iconst 3 dX7_mix_145 (by decide) ?_
      refine x_iald dX7_mix_146 (by first | exact hm.a1 | exact hm.a2 | exact hm.a3 | exact hm.a4 | exact hm.a5 | exact hm.a6 | exact hm.a7 | exact hm.a8 | exact hm.a9 | exact hm.a10 | exact hm.a11 | exact hm.a12 | exact hm.a13 | exact hm.a14 | exact hm.a15) (by assumption) ?_
      refine x_istore dX7_mix_147 (by decide) rfl ?_
      refine x_aload_n 0 dX7_mix_149 rfl (by first | rfl | assumption) ?_
      refine gf_X7_mix_52 dX7_mix_150 hm.1 (congrArg some hm.r35) ?_
      refine x_iconst 4 dX7_mix_153 (by decide) ?_
      refine x_iald dX7_mix_154 (by first | exact hm.a1 | exact hm.a2 | exact hm.a3 | exact hm.a4 | exact hm.a5 | exact hm.a6 | exact hm.a7 | exact hm.a8 | exact hm.a9 | exact hm.a10 | exact hm.a11 | exact hm.a12 | exact hm.a13 | exact hm.a14 | exact hm.a15) (by assumption) ?_
      refine x_istore dX7_mix_155 (by decide) rfl ?_
      refine x_iconst 0 dX7_mix_157 (by decide) ?_
      refine x_istore dX7_mix_158 (by decide) rfl ?_
      rw [t0, t1, t2, t3, t4]
      exact loop2 80 0 _ _ _ _ _ _ h1 F1 [] rfl (by omega) rfl hm (fun j hj => e1 j hj.1) s1 w1
    | succ m ih =>
      intro t x h1 F1 lv hx ht hm e1 w1
      subst hx
      have v0 : vp_in (nI t) 80 := vp_in_nI (by omega) (by omega)
      have h112 : ∀ y : Int32, y = W t → q_X G mX7_mix (q_R mX7_mix 0 0) (q_FN G (fun o h' => o = none ∧ ∃ F', k_m h0 h' B V F' ∧ (∀ j, j ≠ 14 ∧ j ≠ 15 → F' j = F j) ∧ ∀ j, j < 5 → F' 15 j = d_sel D j) 0 0) 112 [(0, .ref (B 0)), (1, .int (nI f)), (2, .int (nI t)), (3, .int (nI (f + 4 * t)))] [.int y, .int (nI t), .ref (B 14)] h1 0 0 := by
        intro y hy
        refine x_iast dX7_mix_112 (by first | exact hm.a1 | exact hm.a2 | exact hm.a3 | exact hm.a4 | exact hm.a5 | exact hm.a6 | exact hm.a7 | exact hm.a8 | exact hm.a9 | exact hm.a10 | exact hm.a11 | exact hm.a12 | exact hm.a13 | exact hm.a14 | exact hm.a15) (by assumption) ?_
        refine x_ga hm (by decide) rfl (fun gm hm => ?_)
        rw [nI_clamp (by omega)] at hm
        refine x_iinc 1 dX7_mix_113 (by first | rfl | assumption) (by decide) (by decide) rfl ?_
        refine x_goto 2 dX7_mix_116 (by decide) ?_
        refine ih (t + 1) _ _ _ [(3, _)] (nI_1 t) (by omega) hm (fun j hj => (m_un hj).trans (e1 j hj)) (fun j hj => ?_)
        show upd (F1 14) t y j = W j
        by_cases hjt : j = t
        · rw [hjt, pk_us]; exact hy
        · rw [pk_un hjt]; exact w1 j (by omega)
      refine x_take 3 ?_
      refine x_iload_n 2 dX7_mix_2 rfl (by first | rfl | assumption) ?_
      refine x_bipush 80 dX7_mix_3 (by decide) ?_
      refine x_icmp_ge 119 dX7_mix_5 (by decide) (fun z => absurd z (nI_ge (b := 80) (by omega) (by omega))) (fun _ => ?_)
      refine x_iload_n 1 dX7_mix_8 rfl (by first | rfl | assumption) ?_
      refine x_iconst 4 dX7_mix_9 (by decide) ?_
      refine x_iload_n 2 dX7_mix_10 rfl (by first | rfl | assumption) ?_
      refine x_imul dX7_mix_11 ?_
      refine x_iadd dX7_mix_12 ?_
      rw [show nI f + 4 * nI t = nI (f + 4 * t) from by rw [show (4 : Int32) = nI 4 from rfl, pk_mul, nI_add]]
      refine x_istore_n 3 dX7_mix_13 rfl (by decide) rfl ?_
      refine x_aload_n 0 dX7_mix_14 rfl (by first | rfl | assumption) ?_
      refine gf_X7_mix_49 dX7_mix_15 hm.1 (congrArg some hm.r34) ?_
      refine x_iload_n 2 dX7_mix_18 rfl (by first | rfl | assumption) ?_
      refine x_iload_n 2 dX7_mix_19 rfl (by first | rfl | assumption) ?_
      refine x_bipush 16 dX7_mix_20 (by decide) ?_
      by_cases c1 : t < 16
      · refine x_icmp_ge 70 dX7_mix_22 (by decide) (fun z => absurd z (nI_ge (b := 16) c1 (by omega))) (fun _ => ?_)
        have b0 : vp_in (nI (f + 4 * t)) 128 := vp_in_nI (by omega) (by omega)
        have x1 : nI (f + 4 * t) + 1 = nI (f + 4 * t + 1) := nI_1 _
        have x2 : nI (f + 4 * t) + 2 = nI (f + 4 * t + 2) := nI_add _ 2
        have x3 : nI (f + 4 * t) + 3 = nI (f + 4 * t + 3) := nI_add _ 3
        have b1 : vp_in (nI (f + 4 * t) + 1) 128 := by rw [x1]; exact vp_in_nI (by omega) (by omega)
        have b2 : vp_in (nI (f + 4 * t) + 2) 128 := by rw [x2]; exact vp_in_nI (by omega) (by omega)
        have b3 : vp_in (nI (f + 4 * t) + 3) 128 := by rw [x3]; exact vp_in_nI (by omega) (by omega)
        refine x_aload_n 0 dX7_mix_25 rfl (by first | rfl | assumption) ?_
        refine gf_X7_mix_46 dX7_mix_26 hm.1 (congrArg some hm.r33) ?_
        refine x_iload_n 3 dX7_mix_29 rfl (by first | rfl | assumption) ?_
        refine x_iald dX7_mix_30 (by first | exact hm.a1 | exact hm.a2 | exact hm.a3 | exact hm.a4 | exact hm.a5 | exact hm.a6 | exact hm.a7 | exact hm.a8 | exact hm.a9 | exact hm.a10 | exact hm.a11 | exact hm.a12 | exact hm.a13 | exact hm.a14 | exact hm.a15) (by assumption) ?_
        refine x_bipush 24 dX7_mix_31 (by decide) ?_
        refine x_ishl dX7_mix_33 ?_
        refine x_aload_n 0 dX7_mix_34 rfl (by first | rfl | assumption) ?_
        refine gf_X7_mix_46 dX7_mix_35 hm.1 (congrArg some hm.r33) ?_
        refine x_iload_n 3 dX7_mix_38 rfl (by first | rfl | assumption) ?_
        refine x_iconst 1 dX7_mix_39 (by decide) ?_
        refine x_iadd dX7_mix_40 ?_
        refine x_iald dX7_mix_41 (by first | exact hm.a1 | exact hm.a2 | exact hm.a3 | exact hm.a4 | exact hm.a5 | exact hm.a6 | exact hm.a7 | exact hm.a8 | exact hm.a9 | exact hm.a10 | exact hm.a11 | exact hm.a12 | exact hm.a13 | exact hm.a14 | exact hm.a15) (by assumption) ?_
        refine x_bipush 16 dX7_mix_42 (by decide) ?_
        refine x_ishl dX7_mix_44 ?_
        refine x_ior dX7_mix_45 ?_
        refine x_aload_n 0 dX7_mix_46 rfl (by first | rfl | assumption) ?_
        refine gf_X7_mix_46 dX7_mix_47 hm.1 (congrArg some hm.r33) ?_
        refine x_iload_n 3 dX7_mix_50 rfl (by first | rfl | assumption) ?_
        refine x_iconst 2 dX7_mix_51 (by decide) ?_
        refine x_iadd dX7_mix_52 ?_
        refine x_iald dX7_mix_53 (by first | exact hm.a1 | exact hm.a2 | exact hm.a3 | exact hm.a4 | exact hm.a5 | exact hm.a6 | exact hm.a7 | exact hm.a8 | exact hm.a9 | exact hm.a10 | exact hm.a11 | exact hm.a12 | exact hm.a13 | exact hm.a14 | exact hm.a15) (by assumption) ?_
        refine x_bipush 8 dX7_mix_54 (by decide) ?_
        refine x_ishl dX7_mix_56 ?_
        refine x_ior dX7_mix_57 ?_
        refine x_aload_n 0 dX7_mix_58 rfl (by first | rfl | assumption) ?_
        refine gf_X7_mix_46 dX7_mix_59 hm.1 (congrArg some hm.r33) ?_
        refine x_iload_n 3 dX7_mix_62 rfl (by first | rfl | assumption) ?_
        refine x_iconst 3 dX7_mix_63 (by decide) ?_
        refine x_iadd dX7_mix_64 ?_
        refine x_iald dX7_mix_65 (by first | exact hm.a1 | exact hm.a2 | exact hm.a3 | exact hm.a4 | exact hm.a5 | exact hm.a6 | exact hm.a7 | exact hm.a8 | exact hm.a9 | exact hm.a10 | exact hm.a11 | exact hm.a12 | exact hm.a13 | exact hm.a14 | exact hm.a15) (by assumption) ?_
        refine x_ior dX7_mix_66 ?_
        refine x_goto 112 dX7_mix_67 (by decide) ?_
        refine h112 _ ?_
        rw [x1, x2, x3, nI_clamp (by omega), nI_clamp (by omega), nI_clamp (by omega), nI_clamp (by omega), e1 13 (by decide), ← hW, d_W_lo c1]
        rfl
      · refine x_icmp_ge 70 dX7_mix_22 (by decide) (fun _ => ?_) (fun z => absurd (nI_le (a := 16) (by omega) (by omega)) z)
        have a3 : nI t - 3 = nI (t - 3) := pk_sub (b := 3) (by omega)
        have a8 : nI t - 8 = nI (t - 8) := pk_sub (b := 8) (by omega)
        have a14 : nI t - 14 = nI (t - 14) := pk_sub (b := 14) (by omega)
        have a16 : nI t - 16 = nI (t - 16) := pk_sub (b := 16) (by omega)
        have v3 : vp_in (nI t - 3) 80 := by rw [a3]; exact vp_in_nI (by omega) (by omega)
        have v8 : vp_in (nI t - 8) 80 := by rw [a8]; exact vp_in_nI (by omega) (by omega)
        have v14 : vp_in (nI t - 14) 80 := by rw [a14]; exact vp_in_nI (by omega) (by omega)
        have v16 : vp_in (nI t - 16) 80 := by rw [a16]; exact vp_in_nI (by omega) (by omega)
        refine x_aload_n 0 dX7_mix_70 rfl (by first | rfl | assumption) ?_
        refine gf_X7_mix_49 dX7_mix_71 hm.1 (congrArg some hm.r34) ?_
        refine x_iload_n 2 dX7_mix_74 rfl (by first | rfl | assumption) ?_
        refine x_iconst 3 dX7_mix_75 (by decide) ?_
        refine x_isub dX7_mix_76 ?_
        refine x_iald dX7_mix_77 (by first | exact hm.a1 | exact hm.a2 | exact hm.a3 | exact hm.a4 | exact hm.a5 | exact hm.a6 | exact hm.a7 | exact hm.a8 | exact hm.a9 | exact hm.a10 | exact hm.a11 | exact hm.a12 | exact hm.a13 | exact hm.a14 | exact hm.a15) (by assumption) ?_
        refine x_aload_n 0 dX7_mix_78 rfl (by first | rfl | assumption) ?_
        refine gf_X7_mix_49 dX7_mix_79 hm.1 (congrArg some hm.r34) ?_
        refine x_iload_n 2 dX7_mix_82 rfl (by first | rfl | assumption) ?_
        refine x_bipush 8 dX7_mix_83 (by decide) ?_
        refine x_isub dX7_mix_85 ?_
        refine x_iald dX7_mix_86 (by first | exact hm.a1 | exact hm.a2 | exact hm.a3 | exact hm.a4 | exact hm.a5 | exact hm.a6 | exact hm.a7 | exact hm.a8 | exact hm.a9 | exact hm.a10 | exact hm.a11 | exact hm.a12 | exact hm.a13 | exact hm.a14 | exact hm.a15) (by assumption) ?_
        refine x_ixor dX7_mix_87 ?_
        refine x_aload_n 0 dX7_mix_88 rfl (by first | rfl | assumption) ?_
        refine gf_X7_mix_49 dX7_mix_89 hm.1 (congrArg some hm.r34) ?_
        refine x_iload_n 2 dX7_mix_92 rfl (by first | rfl | assumption) ?_
        refine x_bipush 14 dX7_mix_93 (by decide) ?_
        refine x_isub dX7_mix_95 ?_
        refine x_iald dX7_mix_96 (by first | exact hm.a1 | exact hm.a2 | exact hm.a3 | exact hm.a4 | exact hm.a5 | exact hm.a6 | exact hm.a7 | exact hm.a8 | exact hm.a9 | exact hm.a10 | exact hm.a11 | exact hm.a12 | exact hm.a13 | exact hm.a14 | exact hm.a15) (by assumption) ?_
        refine x_ixor dX7_mix_97 ?_
        refine x_aload_n 0 dX7_mix_98 rfl (by first | rfl | assumption) ?_
        refine gf_X7_mix_49 dX7_mix_99 hm.1 (congrArg some hm.r34) ?_
        refine x_iload_n 2 dX7_mix_102 rfl (by first | rfl | assumption) ?_
        refine x_bipush 16 dX7_mix_103 (by decide) ?_
        refine x_isub dX7_mix_105 ?_
        refine x_iald dX7_mix_106 (by first | exact hm.a1 | exact hm.a2 | exact hm.a3 | exact hm.a4 | exact hm.a5 | exact hm.a6 | exact hm.a7 | exact hm.a8 | exact hm.a9 | exact hm.a10 | exact hm.a11 | exact hm.a12 | exact hm.a13 | exact hm.a14 | exact hm.a15) (by assumption) ?_
        refine x_ixor dX7_mix_107 ?_
        refine x_iconst 1 dX7_mix_108 (by decide) ?_
        rw [a3, a8, a14, a16, nI_clamp (by omega), nI_clamp (by omega), nI_clamp (by omega), nI_clamp (by omega), w1 _ (by omega), w1 _ (by omega), w1 _ (by omega), w1 _ (by omega)]
        refine cl_X7_mix_109 (sm_rotated _ 1) (Nat.le_of_ble_eq_true rfl) ⟨Nat.le_of_ble_eq_true rfl, Nat.le_of_ble_eq_true rfl⟩ (fun r g hq => ?_)
        obtain ⟨rfl, hg⟩ := hq
        rw [hg]
        refine h112 _ ?_
        rw [← hW, d_W_hi c1]
  refine q_enter (M := mX7_mix) (by decide +kernel) rfl (Nat.le_of_ble_eq_true rfl) ?_
  refine x_iconst 0 dX7_mix_0 (by decide) ?_
  refine x_istore_n 2 dX7_mix_1 rfl (by decide) rfl ?_
  exact loop1 80 0 _ h F [] rfl (by omega) hm (fun _ _ => rfl) (fun j hj => absurd hj (Nat.not_lt_zero _))
end MdlI
