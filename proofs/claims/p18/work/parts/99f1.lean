/-! ===== a bit of a long: by a shift, by a mask ===== -/
theorem y_sc : ∀ k, k < 64 → (((Int32.ofInt ((k : Nat) : Int)).toInt64 &&& 63).toBitVec.smod 64).toNat = k := by decide +kernel
theorem y_shr0 {r : Int64} {k : Nat} (hk : k < 64) : (za_shr0 r (Int32.ofInt (k : Int)) &&& Int64.ofNat 1 = Int64.ofNat 1) ↔ r.toBitVec.toNat.testBit k = true := by
  have e1 : (za_shr0 r (Int32.ofInt (k : Int)) &&& Int64.ofNat 1).toBitVec = (r.toBitVec.sshiftRight k) &&& 1#64 := by
    rw [Int64.toBitVec_and]
    have : (za_shr0 r (Int32.ofInt (k : Int))).toBitVec = r.toBitVec.sshiftRight k := by
      show (r >>> ((Int32.ofInt (k : Int)).toInt64 &&& 63)).toBitVec = _
      rw [Int64.toBitVec_shiftRight]
      show r.toBitVec.sshiftRight (((Int32.ofInt (k : Int)).toInt64 &&& 63).toBitVec.smod 64).toNat = _
      rw [show (((Int32.ofInt (k : Int)).toInt64 &&& 63).toBitVec.smod 64).toNat = k from y_sc k hk]
    rw [this]
    rfl
  have e2 : ((r.toBitVec.sshiftRight k) &&& 1#64).toNat = (r.toBitVec.sshiftRight k).toNat % 2 := by
    rw [BitVec.toNat_and]
    exact Nat.and_two_pow_sub_one_eq_mod _ 1
  have e3 : (r.toBitVec.sshiftRight k).toNat % 2 = if r.toBitVec.toNat.testBit k then 1 else 0 := by
    have h1 : (r.toBitVec.sshiftRight k).getLsbD 0 = r.toBitVec.getLsbD k := by
      rw [BitVec.getLsbD_sshiftRight]
      simp [hk]
    have h2 : (r.toBitVec.sshiftRight k).toNat.testBit 0 = r.toBitVec.toNat.testBit k := h1
    rw [Nat.testBit_zero] at h2
    rw [← h2]
    by_cases h9 : (r.toBitVec.sshiftRight k).toNat % 2 = 1
    · rw [if_pos (decide_eq_true h9)]
      exact h9
    · rw [if_neg (by rw [decide_eq_false h9]; decide)]
      omega
  rw [← Int64.toBitVec_inj, e1, ← BitVec.toNat_inj, e2, e3]
  show (_ = 1) ↔ _
  cases r.toBitVec.toNat.testBit k <;> decide
theorem y_bit {r : Int64} {k : Nat} (hk : k < 64) : (r &&& yBit (k : Int) = 0) ↔ r.toBitVec.toNat.testBit k = false := by
  have e : (r &&& yBit (k : Int)).toBitVec.toNat = r.toBitVec.toNat &&& 2 ^ k := by rw [yN_and, yBit_n k hk]
  rw [← Int64.toBitVec_inj, ← BitVec.toNat_inj, e]
  show (r.toBitVec.toNat &&& 2 ^ k = 0) ↔ _
  constructor
  · intro h
    have h1 : (r.toBitVec.toNat &&& 2 ^ k).testBit k = false := by rw [h, Nat.zero_testBit]
    rw [Nat.testBit_and, Nat.testBit_two_pow_self, Bool.and_true] at h1
    exact h1
  · intro h
    apply Nat.eq_of_testBit_eq
    intro i
    rw [Nat.testBit_and, Nat.zero_testBit]
    by_cases hi : k = i
    · rw [← hi, h, Bool.false_and]
    · rw [Nat.testBit_two_pow_of_ne hi, Bool.and_false]
theorem y_shr {r : Int64} {c : Int32} (hc : 0 ≤ c.toInt ∧ c.toInt ≤ 63) : (za_shr0 r c &&& Int64.ofNat 1 = Int64.ofNat 1) ↔ ¬ (r &&& yBit c.toInt = 0) := by
  have e : c = Int32.ofInt ((c.toInt.toNat : Nat) : Int) := by rw [show ((c.toInt.toNat : Nat) : Int) = c.toInt by omega, Int32.ofInt_toInt]
  have h1 := y_shr0 (r := r) (k := c.toInt.toNat) (by omega)
  have h2 := y_bit (r := r) (k := c.toInt.toNat) (by omega)
  rw [← e] at h1
  rw [show ((c.toInt.toNat : Nat) : Int) = c.toInt by omega] at h2
  rw [h1, h2]
  cases r.toBitVec.toNat.testBit c.toInt.toNat <;> decide
theorem y_cmp {x y : Int64} : (lg_cmp x y).toInt = 0 ↔ x = y := by
  unfold lg_cmp
  constructor
  · intro h
    revert h
    split
    · intro h
      exact absurd h (by decide)
    · split
      · intro _
        assumption
      · intro h
        exact absurd h (by decide)
  · rintro rfl
    rw [if_neg (Int64.lt_irrefl)]
    first | rfl | (rw [if_pos rfl]; rfl)
