section BITS
/-- is the number k in the set x -/
def bitI (x : Int32) (k : Nat) : Bool := decide ((x >>> (nI k &&& 31)) &&& nI 1 = nI 1)
theorem bitI_P {x : Int32} {k : Nat} : ((x >>> (nI k &&& 31)) &&& nI 1 = nI 1) = (bitI x k = true) := by
  unfold bitI
  exact propext ⟨fun h => decide_eq_true h, fun h => of_decide_eq_true h⟩
theorem bitI_nI : ∀ b, b < 256 → ∀ k, k < 8 → bitI (nI b) k = b.testBit k := by decide +kernel
theorem sh8 : ∀ k, k < 8 → nI 1 <<< (nI k &&& 31) = nI (2 ^ k) := by decide +kernel
theorem p8 : ∀ k, k < 8 → 2 ^ k < 256 := by decide +kernel
theorem tb_nI {a : Nat} (h : a < 2 ^ 32) : (nI a).toBitVec.toNat = a := by
  show (BitVec.ofNat 32 a).toNat = a
  rw [BitVec.toNat_ofNat, Nat.mod_eq_of_lt h]
theorem nI_or {a b : Nat} (ha : a < 2 ^ 32) (hb : b < 2 ^ 32) : nI a ||| nI b = nI (a ||| b) := by
  apply Int32.toBitVec_inj.mp
  apply BitVec.eq_of_toNat_eq
  rw [Int32.toBitVec_or, BitVec.toNat_or, tb_nI ha, tb_nI hb, tb_nI (Nat.or_lt_two_pow ha hb)]
theorem nI_and {a b : Nat} (ha : a < 2 ^ 32) (hb : b < 2 ^ 32) : nI a &&& nI b = nI (a &&& b) := by
  apply Int32.toBitVec_inj.mp
  apply BitVec.eq_of_toNat_eq
  rw [Int32.toBitVec_and, BitVec.toNat_and, tb_nI ha, tb_nI hb, tb_nI (Nat.and_lt_two_pow _ hb)]
theorem nI_xor {a b : Nat} (ha : a < 2 ^ 32) (hb : b < 2 ^ 32) : nI a ^^^ nI b = nI (a ^^^ b) := by
  apply Int32.toBitVec_inj.mp
  apply BitVec.eq_of_toNat_eq
  rw [Int32.toBitVec_xor, BitVec.toNat_xor, tb_nI ha, tb_nI hb, tb_nI (Nat.xor_lt_two_pow ha hb)]
theorem m1_nI : (-1 : Int32) = nI (2 ^ 32 - 1) := by decide +kernel
theorem or8 {b k : Nat} (hb : b < 256) (hk : k < 8) : nI b ||| nI 1 <<< (nI k &&& 31) = nI (b ||| 2 ^ k) ∧ b ||| 2 ^ k < 256 := by
  have h2 := p8 k hk
  rw [sh8 k hk, nI_or (by omega) (by omega)]
  exact ⟨rfl, Nat.or_lt_two_pow (n := 8) hb h2⟩
theorem or0 {b : Nat} (hb : b < 256) : nI b ||| nI 0 = nI b := by
  rw [nI_or (by omega) (by omega), Nat.or_zero]
def lessN (b a : Nat) : Nat := b &&& (2 ^ 32 - 1 ^^^ a)
theorem less8 {a b : Nat} (ha : a < 256) (hb : b < 256) : nI b &&& (nI a ^^^ -1) = nI (lessN b a) ∧ lessN b a < 256 := by
  rw [m1_nI, nI_xor (by omega) (by omega), nI_and (by omega) (Nat.xor_lt_two_pow (by omega) (by omega)), Nat.xor_comm]
  refine ⟨rfl, ?_⟩
  unfold lessN
  exact Nat.lt_of_le_of_lt Nat.and_le_left hb
theorem less_bit {a b k : Nat} (hk : k < 8) : (lessN b a).testBit k = (b.testBit k && !a.testBit k) := by
  unfold lessN
  rw [Nat.testBit_and, Nat.testBit_xor, Nat.testBit_two_pow_sub_one]
  simp [show k < 32 by omega]
theorem or_bit {b j k : Nat} : (b ||| 2 ^ j).testBit k = (b.testBit k || decide (j = k)) := by
  rw [Nat.testBit_or, Nat.testBit_two_pow]
end BITS
