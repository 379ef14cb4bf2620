/-! small laws of numbers -/
section NumsZ
/-- a truth as an int -/
def z_b (b : Bool) : Int32 := if b then 1 else 0
theorem z_nb (b : Bool) : narrow .boolean (.int (z_b b)) = .int (z_b b) := by cases b <;> rfl
theorem z_fb (b : Bool) : fits .boolean (.int (z_b b)) = true := by cases b <;> rfl
theorem z_b0 {b : Bool} (h : z_b b = 0) : b = false := by cases b with | false => rfl | true => exact absurd h (by decide)
theorem z_b1 {b : Bool} (h : ¬ z_b b = 0) : b = true := by cases b with | true => rfl | false => exact absurd rfl h
theorem z_bt : z_b true = 1 := rfl
theorem z_bf : z_b false = 0 := rfl
theorem z_bif {p : Prop} [Decidable p] : (if p then (1 : Int32) else 0) = z_b (decide p) := by by_cases h : p <;> simp [z_b, h]
/-- a difference against a count -/
theorem z_sub_eq {a b c : Nat} (ha : a < 2 ^ 20) (hb : b < 2 ^ 20) (hc : c < 2 ^ 20) : nI a - nI b = nI c ↔ a = b + c := by
  by_cases h : b ≤ a
  · rw [pk_sub h, nI_eq (by omega) (by omega)]
    omega
  · constructor
    · intro z
      have := pk_sneg (a := a) (b := b) (by omega) (by omega)
      rw [z] at this
      exact absurd this (nI_pos (by omega))
    · intro z
      omega
theorem i32_lt {x y : Int32} : x < y ↔ x.toInt < y.toInt := Int32.lt_iff_toInt_lt
theorem i32_le {x y : Int32} : x ≤ y ↔ x.toInt ≤ y.toInt := Int32.le_iff_toInt_le
theorem i32_eq {x y : Int32} : x = y ↔ x.toInt = y.toInt := Int32.toInt_inj.symm
end NumsZ
section LvZ
variable {G : q_G} {M : q_M} {R : Room} {F : q_F} {pc : Nat} {lv : List (Nat × Value)} {st : List Value} {h : q_H} {cells slots : Nat}
/-- the first n locals alone -/
theorem x_take (n : Nat) (k : q_X G M R F pc (lv.take n) st h cells slots) : q_X G M R F pc lv st h cells slots := x_lv _ (fun _ hq => List.mem_of_mem_take hq) k
end LvZ
section GenZ
variable {G : q_G} {M : q_M} {R : Room} {F : q_F} {pc : Nat} {lv : List (Nat × Value)} {st : List Value} {h : q_H} {cells slots : Nat}
/-- a heap with a new cell gets a name -/
theorem x_gen {a : Nat} {e : q_C} (k : ∀ g : q_H, g a = some e → (∀ q, q ∉ [a] → g q = h q) → q_X G M R F pc lv st g cells slots) : q_X G M R F pc lv st (va_up h a (some e)) cells slots :=
  k _ (va_up_self _ _ _) (fun q hq => va_up_ne _ _ (fun z => hq (by simp [z])))
end GenZ
