/-! ===== the bits that a mask has, counted ===== -/
theorem y_z {r : Int64} (h : ∀ c : Nat, c < 64 → r &&& yBit (c : Int) = 0) : r = 0 := by
  rw [← Int64.toBitVec_inj, ← BitVec.toNat_inj]
  show r.toBitVec.toNat = 0
  apply Nat.eq_of_testBit_eq
  intro i
  rw [Nat.zero_testBit]
  by_cases hi : i < 64
  · exact (y_bit hi).mp (h i hi)
  · exact Nat.testBit_lt_two_pow (Nat.lt_of_lt_of_le r.toBitVec.isLt (Nat.pow_le_pow_right (by decide) (by omega)))
theorem y_clr {r : Int64} {n c : Nat} (hn : n < 64) (hc : c < 64) : (r &&& ~~~ yBit (n : Int)).toBitVec.toNat.testBit c = (r.toBitVec.toNat.testBit c && !(decide (n = c))) := by
  have e : (r &&& ~~~ yBit (n : Int)).toBitVec = r.toBitVec &&& ~~~ (yBit (n : Int)).toBitVec := by rw [Int64.toBitVec_and, Int64.toBitVec_not]
  have e2 : (yBit (n : Int)).toBitVec.getLsbD c = decide (n = c) := by
    show (yBit (n : Int)).toBitVec.toNat.testBit c = _
    rw [yBit_n n hn, Nat.testBit_two_pow]
  show (r &&& ~~~ yBit (n : Int)).toBitVec.getLsbD c = (r.toBitVec.getLsbD c && !(decide (n = c)))
  rw [e, BitVec.getLsbD_and, BitVec.getLsbD_not, e2, decide_eq_true hc, Bool.true_and]
theorem y_orb {r : Int64} {n : Nat} (hn : n < 64) (h : ¬ (r &&& yBit (n : Int) = 0)) : (r &&& ~~~ yBit (n : Int)) ||| yBit (n : Int) = r := by
  rw [← Int64.toBitVec_inj]
  apply BitVec.eq_of_getLsbD_eq
  intro c hc
  rw [Int64.toBitVec_or, BitVec.getLsbD_or]
  show ((r &&& ~~~ yBit (n : Int)).toBitVec.toNat.testBit c || (yBit (n : Int)).toBitVec.toNat.testBit c) = r.toBitVec.toNat.testBit c
  rw [y_clr hn hc, yBit_n n hn, Nat.testBit_two_pow]
  by_cases hnc : n = c
  · have e : r.toBitVec.toNat.testBit n = true := by
      cases h9 : r.toBitVec.toNat.testBit n with
      | true => rfl
      | false => exact absurd ((y_bit hn).mpr h9) h
    rw [← hnc, e, decide_eq_true rfl]
    rfl
  · rw [decide_eq_false hnc, Bool.not_false, Bool.and_true, Bool.or_false]
theorem yBC_cnt0 : ∀ n : Nat, n ≤ 64 → ∀ (r : Int64) (f : Nat → Bool), (∀ c : Nat, c < 64 → (r &&& yBit (c : Int) = 0 ↔ f c = false)) → (∀ c : Nat, n ≤ c → c < 64 → f c = false) → (yBC r).toInt = yCnt f n := by
  intro n
  induction n with
  | zero =>
    intro _ r f h h2
    rw [y_z (fun c hc => (h c hc).mpr (h2 c (Nat.zero_le _) hc))]
    show (yBC 0).toInt = 0
    decide +kernel
  | succ n ih =>
    intro hn r f h h2
    by_cases hf : f n = true
    · have ht : ¬ (r &&& yBit (n : Int) = 0) := fun h9 => by
        have h8 := (h n (by omega)).mp h9
        rw [hf] at h8
        cases h8
      have hz : (r &&& ~~~ yBit (n : Int)) &&& yBit (n : Int) = 0 := by
        rw [y_bit (by omega), y_clr (by omega) (by omega), decide_eq_true rfl, Bool.not_true, Bool.and_false]
      have IH := ih (by omega) (r &&& ~~~ yBit (n : Int)) (fun j => if j = n then false else f j) (fun c hc => by
        show _ ↔ (if c = n then false else f c) = false
        by_cases hcn : c = n
        · rw [if_pos hcn, hcn]
          exact ⟨fun _ => rfl, fun _ => hz⟩
        · rw [if_neg hcn, y_bit hc, y_clr (by omega) hc, decide_eq_false (fun h9 => hcn h9.symm), Bool.not_false, Bool.and_true]
          exact (y_bit hc).symm.trans (h c hc)) (fun c h3 h4 => by
        show (if c = n then false else f c) = false
        by_cases hcn : c = n
        · exact if_pos hcn
        · rw [if_neg hcn]
          exact h2 c (by omega) h4)
      have u := yBCt (r &&& ~~~ yBit (n : Int)) n (by omega) hz
      rw [y_orb (by omega) ht] at u
      rw [u, IH, yCnt_s, if_pos hf, yCnt_c (f := fun j => if j = n then false else f j) (g := f) n (fun j hj => if_neg (by omega))]
    · have hf' : f n = false := by
        cases h9 : f n with
        | true => exact absurd h9 hf
        | false => rfl
      rw [yCnt_s, if_neg hf, Int.add_zero]
      exact ih (by omega) r f h (fun c h3 h4 => by
        by_cases hcn : c = n
        · rw [hcn]; exact hf'
        · exact h2 c (by omega) h4)
theorem yBC_cnt {r : Int64} {f : Nat → Bool} (h : ∀ c : Nat, c < 64 → (r &&& yBit (c : Int) = 0 ↔ f c = false)) : (yBC r).toInt = yCnt f 64 := yBC_cnt0 64 (Nat.le_refl _) r f h (fun c h1 h2 => by omega)
