/-! THE REQUEST, as numbers: what both sides compute -/
section ReqP
def z_blank (b : Int32) : Bool := decide (b = 32) || decide (b = 9)
/-- letters and digits -/
def z_ld (b : Int32) : Bool := (!decide (b < 97) && decide (b ≤ 122)) || (!decide (b < 65) && decide (b ≤ 90)) || (!decide (b < 48) && !decide (57 < b))
def z_ns (b : Int32) : Bool := z_ld b || decide (b = 45)
def z_small (b : Int32) : Int32 := if ¬ b < 65 ∧ ¬ 90 < b then b + 32 else b
/-- the first place at or behind i that is no blank, n places at most -/
def z_skF (l : List Int32) : Nat → Nat → Nat
  | 0, i => i
  | n + 1, i => if z_blank (l.getD i 0) then z_skF l n (i + 1) else i
/-- the place behind the last one ahead of t that is no blank, n places at most -/
def z_skB (l : List Int32) : Nat → Nat → Nat
  | 0, t => t
  | n + 1, t => if z_blank (l.getD (t - 1) 0) then z_skB l n (t - 1) else t
def z_eqX (l : List Int32) : Nat → List Int32 → Bool
  | _, [] => true
  | a, x :: w => decide (l.getD a 0 = x) && z_eqX l (a + 1) w
def z_eqS (l : List Int32) : Nat → List Int32 → Bool
  | _, [] => true
  | a, x :: w => decide (z_small (l.getD a 0) = x) && z_eqS l (a + 1) w
/-- a word that is known, in small letters, stands from a to b -/
def z_same (l : List Int32) (a b : Nat) (w : List Int32) : Bool := decide (b = a + w.length) && z_eqS l a w
def z_in33 (l : List Int32) : Nat → Nat → Bool
  | 0, _ => true
  | n + 1, i => (!decide (l.getD i 0 < 33) && decide (l.getD i 0 ≤ 126)) && z_in33 l n (i + 1)
def z_val (l : List Int32) : Nat → Nat → Bool
  | 0, _ => true
  | n + 1, i => (decide (l.getD i 0 = 9) || (!decide (l.getD i 0 < 32) && decide (l.getD i 0 ≤ 126))) && z_val l n (i + 1)
/-- where a name ends -/
def z_col (l : List Int32) : Nat → Nat → Nat
  | 0, i => i
  | n + 1, i => if z_ns (l.getD i 0) then z_col l n (i + 1) else i
abbrev z_w (i : Nat) : List Int32 := q_byt.getD i []
def z_first (l : List Int32) (t : Nat) : Bool := decide (13 < t) && (z_eqX l 0 (z_w 0) && (z_eqX l (t - 9) (z_w 1) && z_in33 l (t - 13) 4))
/-- of each of the five names: how often, and where its value begins and ends -/
abbrev z_Fd : Type := Nat → Nat × Nat × Nat
def z_keep (l : List Int32) (f c t : Nat) (F : z_Fd) : z_Fd := fun n => if z_same l f c (z_w (2 + n)) then ((F n).1 + 1, z_skF l (t - (c + 1)) (c + 1), z_skB l (t - z_skF l (t - (c + 1)) (c + 1)) t) else F n
/-- a line with a name and a value -/
def z_field (l : List Int32) (f t : Nat) : Bool := decide (f < z_col l (t - f) f) && (decide (z_col l (t - f) f < t) && (decide (l.getD (z_col l (t - f) f) 0 = 58) && z_val l (t - (z_col l (t - f) f + 1)) (z_col l (t - f) f + 1)))
def z_eol (l : List Int32) (i : Nat) : Bool := decide (l.getD i 0 = 13) && decide (l.getD (i + 1) 0 = 10)
/-- the lines: n places from i on, the line under way beginning at f -/
def z_rl (l : List Int32) : Nat → Nat → Nat → z_Fd → Option z_Fd
  | 0, _, _, F => some F
  | n + 1, i, f, F => if z_eol l i then (if (if f = 0 then z_first l i else z_field l f i) then z_rl l n (i + 1) (i + 2) (if f = 0 then F else z_keep l f (z_col l (i - f) f) i F) else none) else z_rl l n (i + 1) f F
/-- whether a word is among those of a value that ends at e -/
def z_hw (l : List Int32) (e : Nat) (w : List Int32) : Nat → Nat → Nat → Bool
  | 0, _, _ => false
  | n + 1, i, f => if decide (i = e) || decide (l.getD i 0 = 44) then z_same l (z_skF l (i - f) f) (z_skB l (i - z_skF l (i - f) f) i) w || z_hw l e w n (i + 1) (i + 1) else z_hw l e w n (i + 1) f
def z_has (l : List Int32) (s e : Nat) (w : List Int32) : Bool := z_hw l e w (e + 1 - s) s s
def z_64 (b : Int32) : Bool := z_ld b || (decide (b = 43) || decide (b = 47))
def z_all64 (l : List Int32) : Nat → Nat → Bool
  | 0, _ => true
  | n + 1, i => z_64 (l.getD i 0) && z_all64 l n (i + 1)
def z_agw (b : Int32) : Bool := decide (b = 65) || (decide (b = 81) || (decide (b = 103) || decide (b = 119)))
def z_key (l : List Int32) (s e : Nat) : Bool := decide (e = s + 24) && (z_eqX l (s + 22) (z_w 8) && (z_all64 l 22 s && z_agw (l.getD (s + 21) 0)))
def z_due (l : List Int32) (F : z_Fd) : Bool := (decide ((F 0).1 = 1) && (decide ((F 1).1 = 1) && (decide ((F 2).1 = 1) && (decide ((F 3).1 = 1) && decide ((F 4).1 = 1))))) && (decide ((F 0).2.1 < (F 0).2.2) && (z_has l (F 1).2.1 (F 1).2.2 (z_w 7) && (z_has l (F 2).2.1 (F 2).2.2 (z_w 3) && z_key l (F 3).2.1 (F 3).2.2)))
/-- the judgement: none: bad; else whether its version is 13, and where the key begins -/
def z_judge (l : List Int32) : Option (Bool × Nat) := match z_rl l (l.length - 3) 0 0 (fun _ => (0, 0, 0)) with
  | none => none
  | some F => if z_due l F then some (z_same l (F 4).2.1 (F 4).2.2 (z_w 9), (F 3).2.1) else none
theorem z_skF_le (l : List Int32) : ∀ (n i : Nat), i ≤ z_skF l n i ∧ z_skF l n i ≤ i + n := by
  intro n
  induction n with
  | zero => intro i; exact ⟨Nat.le_refl _, Nat.le_refl _⟩
  | succ n ih =>
    intro i
    unfold z_skF
    split
    · have := ih (i + 1)
      omega
    · omega
theorem z_skF_nb (l : List Int32) : ∀ (n i : Nat), z_skF l n i < i + n → z_blank (l.getD (z_skF l n i) 0) = false := by
  intro n
  induction n with
  | zero => intro i h; simp [z_skF] at h
  | succ n ih =>
    intro i h
    unfold z_skF at h ⊢
    split
    · rename_i hb
      rw [if_pos hb] at h
      exact ih (i + 1) (by omega)
    · rename_i hb
      simpa using hb
theorem z_skB_le (l : List Int32) : ∀ (n t : Nat), z_skB l n t ≤ t := by
  intro n
  induction n with
  | zero => intro t; exact Nat.le_refl _
  | succ n ih =>
    intro t
    unfold z_skB
    split
    · have := ih (t - 1)
      omega
    · omega
/-- from where the search backwards begins doesn't matter, where something stands -/
theorem z_skB_eq (l : List Int32) {a : Nat} (hb : z_blank (l.getD a 0) = false) : ∀ (n f t : Nat), t = a + 1 + n → f ≤ a → z_skB l (t - f) t = z_skB l (t - a) t := by
  intro n
  induction n with
  | zero =>
    intro f t ht hf
    subst ht
    rw [show a + 1 + 0 - f = (a - f) + 1 by omega, show a + 1 + 0 - a = 0 + 1 by omega]
    unfold z_skB
    rw [show a + 1 + 0 - 1 = a by omega, if_neg (by rw [hb]; decide), if_neg (by rw [hb]; decide)]
  | succ n ih =>
    intro f t ht hf
    rw [show t - f = (t - 1 - f) + 1 by omega, show t - a = (t - 1 - a) + 1 by omega]
    unfold z_skB
    split
    · exact ih f (t - 1) (by omega) hf
    · rfl
theorem z_skB_ge (l : List Int32) : ∀ (n t : Nat), t - n ≤ z_skB l n t := by
  intro n
  induction n with
  | zero => intro t; exact Nat.le_refl _
  | succ n ih =>
    intro t
    unfold z_skB
    split
    · have := ih (t - 1)
      omega
    · omega
/-- the two ways to end a stretch: the same, or both are empty -/
theorem z_ends (l : List Int32) {f t : Nat} (h : f ≤ t) : z_skB l (t - f) t = z_skB l (t - z_skF l (t - f) f) t ∨ (z_skB l (t - f) t ≤ z_skF l (t - f) f ∧ z_skB l (t - z_skF l (t - f) f) t = z_skF l (t - f) f) := by
  have h1 := z_skF_le l (t - f) f
  by_cases ha : z_skF l (t - f) f < t
  · left
    have hb := z_skF_nb l (t - f) f (by omega)
    exact z_skB_eq l hb (t - z_skF l (t - f) f - 1) f t (by omega) h1.1
  · right
    have e : z_skF l (t - f) f = t := by omega
    rw [e]
    refine ⟨z_skB_le l _ _, ?_⟩
    rw [Nat.sub_self]
    rfl
theorem z_same_e {l : List Int32} {s e e' : Nat} {w : List Int32} (hw : 0 < w.length) (h : e' = e ∨ (e' ≤ s ∧ e = s)) : z_same l s e' w = z_same l s e w := by
  rcases h with h | ⟨h1, h2⟩
  · rw [h]
  · unfold z_same
    rw [decide_eq_false (by omega), decide_eq_false (by omega)]
end ReqP
