/-! the reference: base64 -/
section MdlK
variable {G : q_G} {h0 h : q_H} {B : Nat → Nat} {V : Nat → Value} {F : Nat → Nat → Int32} {l : List Int32}
theorem m_toInt (x : Int32) : x.toInt = if 2 * x.toBitVec.toNat < 2 ^ 32 then (x.toBitVec.toNat : Int) else (x.toBitVec.toNat : Int) - 2 ^ 32 := by
  have := BitVec.toInt_eq_toNat_cond x.toBitVec
  exact this
theorem m_lt32 (x : Int32) : x.toBitVec.toNat < 2 ^ 32 := x.toBitVec.isLt
/-- a shift that keeps the sign, masked, is one that does not -/
theorem m_shr (x s : Int32) (k b : Nat) {m : Int32} (hk : k ∈ [(0 : Nat), 6, 8, 12, 16, 18, 24]) (hb : b ∈ [(6 : Nat), 8]) (hm : m.toBitVec.toNat = 2 ^ b - 1) (hs : ((s &&& 31).toBitVec.smod 32).toNat = k) (hs2 : ((s.toUInt32 &&& Int32.toUInt32 31).toBitVec % 32).toNat = k) : x >>> (s &&& 31) &&& m = (x.toUInt32 >>> (s.toUInt32 &&& Int32.toUInt32 31)).toInt32 &&& m := by
  rw [pk_and _ b hm, pk_and _ b hm, pk_ushr x s k hs2]
  have h1 := pk_shr x (s &&& 31) k hs
  rw [m_toInt (x >>> (s &&& 31)), m_toInt x] at h1
  have l1 := m_lt32 x
  have l2 := m_lt32 (x >>> (s &&& 31))
  generalize (x >>> (s &&& 31)).toBitVec.toNat = p at h1 l2 ⊢
  generalize x.toBitVec.toNat = n at h1 l1 ⊢
  rw [Int.shiftRight_eq_div_pow] at h1
  congr 1
  simp only [List.mem_cons, List.not_mem_nil, or_false] at hk hb
  rcases hk with rfl | rfl | rfl | rfl | rfl | rfl | rfl <;> rcases hb with rfl | rfl <;> (simp only [Nat.reducePow, Int.reducePow, Nat.pow_zero, Nat.div_one] at h1 l1 l2 ⊢; omega)
end MdlK
