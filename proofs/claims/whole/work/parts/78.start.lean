theorem tt_1 {w : Cond} (h : w ∈ tables_1_1) : w ∈ lw_tbl := List.mem_append_right _ (List.mem_append_left _ h)
theorem tt_2 {w : Cond} (h : w ∈ tables_1_2) : w ∈ lw_tbl := List.mem_append_right _ (List.mem_append_right _ (List.mem_append_left _ h))
theorem tt_3 {w : Cond} (h : w ∈ tables_1_3) : w ∈ lw_tbl := List.mem_append_right _ (List.mem_append_right _ (List.mem_append_right _ (List.mem_append_left _ h)))
theorem tt_4 {w : Cond} (h : w ∈ tables_1_4) : w ∈ lw_tbl := List.mem_append_right _ (List.mem_append_right _ (List.mem_append_right _ (List.mem_append_right _ (List.mem_append_left _ h))))
theorem tt_5 {w : Cond} (h : w ∈ tables_1_5) : w ∈ lw_tbl := List.mem_append_right _ (List.mem_append_right _ (List.mem_append_right _ (List.mem_append_right _ (List.mem_append_right _ (List.mem_append_left _ h)))))
theorem tt_6 {w : Cond} (h : w ∈ tables_1_6) : w ∈ lw_tbl := List.mem_append_right _ (List.mem_append_right _ (List.mem_append_right _ (List.mem_append_right _ (List.mem_append_right _ (List.mem_append_right _ (h))))))
/-! the law's start: what the claim gives is what the rows need -/
section StartA
def l_tm (i : Nat) : Term := .string ((q_str.getD i ("", 0, "")).1) ((q_str.getD i ("", 0, "")).2.1)
def l_we (i : Nat) : List Cond := (List.range (q_len.getD i 0)).map (fun j => .eq (.elem (.field (l_tm i) "java/lang/String" "value" "[B") (.int (Int32.ofNat j))) (.int ((q_byt.getD i []).getD j 0)))
def l_wn (i : Nat) : List Cond := (List.range i).map (fun j => .not (.eq (l_tm j) (l_tm i)))
def l_wd (i : Nat) : List Cond := [.exactly (l_tm i) "java/lang/String", .eq (.field (l_tm i) "java/lang/String" "coder" "B") (.int 0), .arrayOf (.field (l_tm i) "java/lang/String" "value" "[B") .byte, .eq (.length (.field (l_tm i) "java/lang/String" "value" "[B")) (.int (Int32.ofNat (q_len.getD i 0)))] ++ (l_we i ++ l_wn i)
theorem l_flat : (flatC (Jvm.Cond.and given_1 narrow_1)).drop 55 = (List.range 16).flatMap l_wd := by decide +kernel
theorem l_head : (flatC (Jvm.Cond.and given_1 narrow_1))[4]? = some (.isRef (.static Bundle.tN "UNASSIGNED_STACK" Bundle.steD)) ∧ (flatC (Jvm.Cond.and given_1 narrow_1))[5]? = some (.isRef (.static Bundle.tN "SUPPRESSED_SENTINEL" Bundle.listD)) ∧ (flatC (Jvm.Cond.and given_1 narrow_1))[6]? = some (.eq (.static "java/lang/String" "COMPACT_STRINGS" "Z") (.int 1)) ∧ (flatC (Jvm.Cond.and given_1 narrow_1))[7]? = some (.isRef (.static "jdk/internal/util/Preconditions" "SIOOBE_FORMATTER" "Ljava/util/function/BiFunction;")) ∧ (flatC (Jvm.Cond.and given_1 narrow_1))[18]? = some (.not (.castable "java/lang/IllegalStateException" "java/lang/IllegalArgumentException")) ∧ (flatC (Jvm.Cond.and given_1 narrow_1))[54]? = some (.not (.castable "java/lang/IndexOutOfBoundsException" "java/util/NoSuchElementException")) := by decide +kernel
theorem l_in {i : Nat} (hi : i < 16) {w : Cond} (hw : w ∈ l_wd i) : w ∈ flatC (Jvm.Cond.and given_1 narrow_1) := by
  refine List.mem_of_mem_drop (i := 55) ?_
  rw [l_flat]
  exact List.mem_flatMap.mpr ⟨i, List.mem_range.mpr hi, hw⟩
theorem l_lens : ∀ i : Nat, i < 16 → q_len.getD i 0 < 2 ^ 31 := by decide +kernel
variable {p : Program} {e : Env} {s : State} {m : MethodId} {below : List Frame} {meth : Method} {c : Code}
/-- all that the rows need of a start -/
theorem l_ok {l : Launch} (hst : l.stackTraces = false) {b L : Nat} {xs : Nat → Int32} (C0 : lw_At p s m meth c b L xs) : ∃ G : q_G, q_l G = l ∧ q_s G = s ∧ q_b G = b ∧ q_L G = L ∧ q_ok G := by
  obtain ⟨hx, hb, hr, hml, hown, hts, hX, hbl, hlocks, hgv⟩ := id C0
  have hfl := flat_of_before _ hgv
  have htb : ∀ w ∈ q_TB, w.before #[Value.ref b] s = true := fun w hw => hts w (List.mem_filter.mp hw).1
  have hA : ∀ q : Nat, q < s.heap.size → ¬ (fun q : Nat => s.heap.size ≤ q) q := fun q h1 h2 => Nat.not_le.mpr h1 h2
  obtain ⟨c0, iS0, hKn0⟩ := u_known (C := RX0) (T := TX0) (N := 2) (n := 2) htb inT_0 (hts (.instantiable RX0 2) (tt_1 (List.mem_of_getElem? (i := 37) rfl)))
  obtain ⟨c1, iS1, hKn1⟩ := u_known (C := RX1) (T := TX1) (N := 15) (n := 15) htb inT_1 (hts (.instantiable RX1 15) (tt_1 (List.mem_of_getElem? (i := 64) rfl)))
  obtain ⟨c2, iS2, hKn2⟩ := u_known (C := RX2) (T := TX2) (N := 3) (n := 3) htb inT_2 (hts (.instantiable RX2 3) (tt_3 (List.mem_of_getElem? (i := 24) rfl)))
  obtain ⟨c3, iS3, hKn3⟩ := u_known (C := RX3) (T := TX3) (N := 4) (n := 4) htb inT_3 (hts (.instantiable RX3 4) (tt_1 (List.mem_of_getElem? (i := 31) rfl)))
  obtain ⟨c4, iS4, hKn4⟩ := u_known (C := RX4) (T := TX4) (N := 3) (n := 3) htb inT_4 (hts (.instantiable RX4 3) (tt_1 (List.mem_of_getElem? (i := 72) rfl)))
  obtain ⟨c5, iS5, hKn5⟩ := u_known (C := RX5) (T := TX5) (N := 5) (n := 5) htb inT_5 (hts (.instantiable RX5 5) (tt_1 (List.mem_of_getElem? (i := 134) rfl)))
  obtain ⟨c6, iS6, hKn6⟩ := u_known (C := RX6) (T := TX6) (N := 10) (n := 10) htb inT_6 (hts (.instantiable RX6 10) (tt_1 (List.mem_of_getElem? (i := 23) rfl)))
  obtain ⟨c7, iS7, hKn7⟩ := u_known (C := RX7) (T := TX7) (N := 36) (n := 36) htb inT_7 (hts (.instantiable RX7 36) (tt_4 (List.mem_of_getElem? (i := 164) rfl)))
  obtain ⟨cI, kI, compI, i1, i2, i3⟩ := Cond.arrayClass_spec (htb _ tw_ac_int)
  obtain ⟨cL, kL, compL, j1, j2, j3⟩ := Cond.arrayClass_spec (htb _ tw_ac_long)
  obtain ⟨aK, aV, hvS, hev⟩ := vk_Sof (args := #[Value.ref b]) (s := s) (N := 16) (tm := l_tm) (len := q_len) (byt := q_byt) (A := fun q : Nat => s.heap.size ≤ q) l_lens
    (fun i hi => hfl _ (l_in hi (List.mem_append_left _ (List.mem_of_getElem? (i := 0) rfl))))
    (fun i hi => hfl _ (l_in hi (List.mem_append_left _ (List.mem_of_getElem? (i := 1) rfl))))
    (fun i hi => hfl _ (l_in hi (List.mem_append_left _ (List.mem_of_getElem? (i := 2) rfl))))
    (fun i hi => hfl _ (l_in hi (List.mem_append_left _ (List.mem_of_getElem? (i := 3) rfl))))
    (fun i hi j hj => hfl _ (l_in hi (List.mem_append_right _ (List.mem_append_left _ (List.mem_map.mpr ⟨j, List.mem_range.mpr hj, rfl⟩)))))
    (fun i j hi hj hne => by
      rcases Nat.lt_or_ge i j with h | h
      · exact Or.inl (hfl _ (l_in hj (List.mem_append_right _ (List.mem_append_right _ (List.mem_map.mpr ⟨i, List.mem_range.mpr h, rfl⟩)))))
      · exact Or.inr (hfl _ (l_in hi (List.mem_append_right _ (List.mem_append_right _ (List.mem_map.mpr ⟨j, List.mem_range.mpr (by omega), rfl⟩))))))
    hA
  obtain ⟨w4, w5, w6, w7, w18, w54⟩ := l_head
  have hat : ∀ {k : Nat} {w : Cond}, (flatC (Jvm.Cond.and given_1 narrow_1))[k]? = some w → w.before #[Value.ref b] s = true := fun h => hfl _ (List.mem_of_getElem? h)
  refine ⟨((l, s), (fun k => [c0, c1, c2, c3, c4, c5, c6, c7].getD k 0, fun k => [iS0, iS1, iS2, iS3, iS4, iS5, iS6, iS7].getD k iS0), (cI, cL), (aK, aV), (b, L, xs)), rfl, rfl, rfl, rfl, ?_⟩
  refine ⟨⟨?_, ?_⟩, hvS, ?_, va_Zof (hts _ (tt_2 (List.mem_of_getElem? (i := 151) rfl))) (hts (.initialized "java/lang/String") (tt_1 (List.mem_of_getElem? (i := 13) rfl))) (va_eqt (hat w6)) hA, vx_Zqof (hts _ (tt_2 (List.mem_of_getElem? (i := 51) rfl))) (hts (.initialized Bundle.tN) (tt_1 (List.mem_of_getElem? (i := 8) rfl))) (hat w4) hA, vx_Zqof (hts _ (tt_2 (List.mem_of_getElem? (i := 53) rfl))) (hts (.initialized Bundle.tN) (tt_1 (List.mem_of_getElem? (i := 8) rfl))) (hat w5) hA, hst, ⟨va_Nw.of rfl (hts _ (tt_1 (List.mem_of_getElem? (i := 73) rfl))), va_Nw.of rfl (hts _ (tt_1 (List.mem_of_getElem? (i := 158) rfl))), va_Nw.of rfl (hts _ (tt_3 (List.mem_of_getElem? (i := 191) rfl)))⟩, hX, hbl, va_Zqof (hts _ (tt_2 (List.mem_of_getElem? (i := 167) rfl))) (hts (.initialized "jdk/internal/util/Preconditions") (tt_1 (List.mem_of_getElem? (i := 15) rfl))) (hat w7) hA, va_Nc.of (hat w18), va_Nc.of (hat w54), fun w hw => ?_⟩
  · intro k q hq
    match k, hq with
    | 0, hq => cases hq; exact hKn0
    | 1, hq => cases hq; exact hKn1
    | 2, hq => cases hq; exact hKn2
    | 3, hq => cases hq; exact hKn3
    | 4, hq => cases hq; exact hKn4
    | 5, hq => cases hq; exact hKn5
    | 6, hq => cases hq; exact hKn6
    | 7, hq => cases hq; exact hKn7
    | k + 8, hq => simp [vwCl] at hq
  · intro k q hq
    match k, hq with
    | 0, hq => cases hq; exact ⟨fun n z => ⟨fun k h => (by cases h), kI, i2, compI, i3⟩, i1⟩
    | 1, hq => cases hq; exact ⟨fun n z => ⟨fun k h => (by cases h), kL, j2, compL, j3⟩, j1⟩
    | k + 2, hq => simp [q_tys] at hq
  · intro i z hz
    match i, hz with
    | 0, hz => cases hz; exact vk_R.of (hts _ (tt_2 (List.mem_of_getElem? (i := 137) rfl))) (hev 0 (by decide))
    | 1, hz => cases hz; exact vk_R.of (hts _ (tt_2 (List.mem_of_getElem? (i := 190) rfl))) (hev 1 (by decide))
    | 2, hz => cases hz; exact vk_R.of (hts _ (tt_2 (List.mem_of_getElem? (i := 209) rfl))) (hev 2 (by decide))
    | 3, hz => cases hz; exact vk_R.of (hts _ (tt_2 (List.mem_of_getElem? (i := 217) rfl))) (hev 3 (by decide))
    | 4, hz => cases hz; exact vk_R.of (hts _ (tt_2 (List.mem_of_getElem? (i := 218) rfl))) (hev 4 (by decide))
    | 5, hz => cases hz; exact vk_R.of (hts _ (tt_2 (List.mem_of_getElem? (i := 219) rfl))) (hev 5 (by decide))
    | 6, hz => cases hz; exact vk_R.of (hts _ (tt_2 (List.mem_of_getElem? (i := 220) rfl))) (hev 6 (by decide))
    | 7, hz => cases hz; exact vk_R.of (hts _ (tt_3 (List.mem_of_getElem? (i := 0) rfl))) (hev 7 (by decide))
    | 8, hz => cases hz; exact vk_R.of (hts _ (tt_3 (List.mem_of_getElem? (i := 9) rfl))) (hev 8 (by decide))
    | 9, hz => cases hz; exact vk_R.of (hts _ (tt_3 (List.mem_of_getElem? (i := 10) rfl))) (hev 9 (by decide))
    | 10, hz => cases hz; exact vk_R.of (hts _ (tt_3 (List.mem_of_getElem? (i := 15) rfl))) (hev 10 (by decide))
    | 11, hz => cases hz; exact vk_R.of (hts _ (tt_3 (List.mem_of_getElem? (i := 55) rfl))) (hev 11 (by decide))
    | 12, hz => cases hz; exact vk_R.of (hts _ (tt_3 (List.mem_of_getElem? (i := 102) rfl))) (hev 12 (by decide))
    | 13, hz => cases hz; exact vk_R.of (hts _ (tt_3 (List.mem_of_getElem? (i := 104) rfl))) (hev 13 (by decide))
    | 14, hz => cases hz; exact vk_R.of (hts _ (tt_3 (List.mem_of_getElem? (i := 105) rfl))) (hev 14 (by decide))
    | 15, hz => cases hz; exact vk_R.of (hts _ (tt_3 (List.mem_of_getElem? (i := 106) rfl))) (hev 15 (by decide))
    | i + 16, hz => simp [q_str] at hz
  · obtain ⟨h1, h2⟩ := List.mem_filter.mp hw
    rw [Bool.and_eq_true] at h2
    exact va_Nw.of h2.1 (hts w h1)
theorem whole_start {l : Launch} (hst : l.stackTraces = false) {b L : Nat} {xs : Nat → Int32} (hL : L ≤ 256) (C0 : lw_At p s m meth c b L xs) (hnm : meth.name = (q_y mL_law).name) (htab : c.exceptionTable.toList = []) : W p l e room_1 s m #[Value.ref b] below meth c s.heap [] 0 0 (lw_Z below #[Value.ref b] s) (entryFrame m ([Value.ref b] : List Value).toArray 7) := by
  obtain ⟨G, rfl, rfl, rfl, rfl, hG⟩ := l_ok hst C0
  obtain ⟨hx, hb, hr, hml, hown, hts, hX, hbl, hlocks, hgv⟩ := id C0
  have hl := lv_entry ([.ref (q_b G)]) (n := 7) (Nat.le_of_ble_eq_true rfl)
  rw [lg_entry_eq]
  intro T hT X
  have K := l_start (G := G) hL p e (q_s G) m #[Value.ref (q_b G)] below meth c (q_s G).heap [] _ ⟨hx, hb, hml, hown, fun w hw => hts w (List.mem_filter.mp hw).1, hr, hlocks, hnm, State.WarmedH.refl _, va_S.rf, htab, hG⟩ ⟨fun a e he => (by cases he), va_S.rf⟩ va_S.rf hl T hT X
  obtain ⟨t, a1, b1⟩ := K
  exact ⟨t, a1, b1 (Nat.le_refl _)⟩
end StartA
