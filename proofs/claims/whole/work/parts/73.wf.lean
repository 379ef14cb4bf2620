/-! the class's state stays well-formed -/
section WfA
variable {σ : z_S}
theorem w_feed (hw : t_wf σ) (W : Int64) (n : Int32) : t_wf (a_feed σ W n).2.2 := by
  unfold a_feed
  split
  · split
    · exact hw
    · exact t_wf_feedN _ _ _ hw
  · exact hw
theorem w_outAt (hw : t_wf σ) (i : Int32) : (a_outAt σ i).2.2 = σ := by
  obtain ⟨st, ec, dl, pg, rq, out, dr, R, w⟩ := σ
  dsimp only [a_outAt]
  split <;> rfl
theorem w_kind (hw : t_wf σ) (i : Int32) : (a_kind σ i).2.2 = σ := by
  obtain ⟨st, ec, dl, pg, rq, out, dr, R, w⟩ := σ
  dsimp only [a_kind]
  split <;> rfl
theorem w_length (hw : t_wf σ) (i : Int32) : (a_length σ i).2.2 = σ := by
  obtain ⟨st, ec, dl, pg, rq, out, dr, R, w⟩ := σ
  dsimp only [a_length]
  split <;> rfl
theorem w_byteAt (hw : t_wf σ) (k i : Int32) : (a_byteAt σ k i).2.2 = σ := by
  obtain ⟨st, ec, dl, pg, rq, out, dr, R, w⟩ := σ
  dsimp only [a_byteAt]
  split
  · split <;> rfl
  · rfl
theorem w_take (hw : t_wf σ) : t_wf (a_take σ).2.2 := by
  obtain ⟨st, ec, dl, pg, rq, out, dr, R, w⟩ := σ
  dsimp only [a_take]
  split <;> exact hw
theorem w_drop (hw : t_wf σ) (n : Int32) : t_wf (a_drop σ n).2 := by
  obtain ⟨st, ec, dl, pg, rq, out, dr, R, w⟩ := σ
  dsimp only [a_drop]
  split
  · obtain ⟨h1, h2, h3⟩ := hw
    exact ⟨fun z => ⟨(h1 z).1, by rw [List.length_drop, (h1 z).2, Nat.zero_sub]⟩, fun z => by rw [List.length_drop]; have := h2 z; omega, h3⟩
  · exact hw
theorem w_write (hw : t_wf σ) (W : Int64) (n : Int32) : t_wf (a_write σ W n).2 := by
  obtain ⟨st, ec, dl, pg, rq, out, dr, R, w⟩ := σ
  dsimp only [a_write]
  split <;> exact hw
theorem w_clear (hw : t_wf σ) : t_wf (a_clear σ) := by
  obtain ⟨st, ec, dl, pg, rq, out, dr, R, w⟩ := σ
  exact hw
theorem w_ping (hw : t_wf σ) : t_wf (a_ping σ).2.2 := by
  obtain ⟨st, ec, dl, pg, rq, out, dr, R, w⟩ := σ
  dsimp only [a_ping]
  split
  · rename_i hc
    rw [Bool.and_eq_true, decide_eq_true_iff, decide_eq_true_iff] at hc
    obtain ⟨h1, h2, h3⟩ := hw
    refine ⟨fun z => absurd (z.symm.trans hc.1) (by decide), fun _ => ?_, h3⟩
    rw [List.length_append, List.length_append]
    show _ + 2 + _ ≤ _
    omega
  · exact hw
theorem w_close (hw : t_wf σ) (x : Int32) : t_wf (a_close σ x).2.2 := by
  obtain ⟨st, ec, dl, pg, rq, out, dr, R, w⟩ := σ
  dsimp only [a_close]
  split
  · split
    · exact ⟨fun z => absurd z (by decide), fun z => absurd z (by decide), Or.inr (Or.inr (Or.inl rfl))⟩
    · exact hw
  · exact hw
theorem w_send (hw : t_wf σ) (hd : σ.2.2.2.2.2.2.1.length ≤ 100) (kd size : Int32) : t_wf (a_send σ kd size).2.2 := by
  obtain ⟨st, ec, dl, pg, rq, out, dr, R, w⟩ := σ
  have hd : dr.length ≤ 100 := hd
  dsimp only [a_send]
  split
  · rename_i h0
    split
    · exact hw
    · split
      · rename_i hc
        rw [Bool.and_eq_true, decide_eq_true_iff, decide_eq_true_iff] at hc
        obtain ⟨h1, h2, h3⟩ := hw
        refine ⟨fun z => absurd (z.symm.trans hc.1) (by decide), fun _ => ?_, h3⟩
        have hp : 0 < t_pc size := by
          unfold t_pc
          split
          · decide
          · rename_i hz
            obtain ⟨S, hS, rfl⟩ := nI_of h0.2.1
            rw [nI_clamp hS]
            rcases Nat.eq_zero_or_pos S with z | z
            · rw [z] at hz; exact absurd rfl hz
            · exact z
        have := (t_pieces_len dr kd (t_pc size) (t_ct dr.length (t_pc size)) (t_ct_ok hp hd).2 _ (Nat.le_refl _)).1
        rw [List.length_append]
        omega
      · exact hw
  · exact hw
end WfA
