/-! ===== a step at sea, said once for both sides ===== -/
def xBe (w h c d : Int) : Int := if c % w + (if d = 1 then 1 else if d = 3 then -1 else 0) < 0 ∨ c / w + (if d = 2 then 1 else if d = 0 then -1 else 0) < 0 ∨ w ≤ c % w + (if d = 1 then 1 else if d = 3 then -1 else 0) ∨ h ≤ c / w + (if d = 2 then 1 else if d = 0 then -1 else 0) then -1 else w * (c / w + (if d = 2 then 1 else if d = 0 then -1 else 0)) + (c % w + (if d = 1 then 1 else if d = 3 then -1 else 0))
/-- wide, high, rocks, currents -/
abbrev xSea : Type := Int × Int × Int64 × (Nat → Int)
def xS1 (S : xSea) (c d : Int) : Int × Int := if d = -1 then (0, c) else if xBe S.1 S.2.1 c d = -1 then (3, c) else ((if yTb S.2.2.1 (xBe S.1 S.2.1 c d).toNat = true then 1 else 0), xBe S.1 S.2.1 c d)
def xDr (S : xSea) (c hr : Int) (t : Bool) : Int := if t = true ∧ hr % 2 = 0 ∧ S.2.2.2 c.toNat ≠ -1 then xBe S.1 S.2.1 c (S.2.2.2 c.toNat) else -1
def xS2 (S : xSea) (c hr : Int) (t : Bool) : Int × Int := if xDr S c hr t = -1 then (0, c) else ((if yTb S.2.2.1 (xDr S c hr t).toNat = true then 2 else 0), xDr S c hr t)
def xSt (S : xSea) (c hr d : Int) (t : Bool) : Int × Int := if (xS1 S c d).1 = 0 then xS2 S (xS1 S c d).2 hr t else xS1 S c d
/-- a sea as told -/
def xOk (S : xSea) : Prop := (2 ≤ S.1 ∧ S.1 ≤ 8) ∧ (2 ≤ S.2.1 ∧ S.2.1 ≤ 8) ∧ ∀ k, -1 ≤ S.2.2.2 k ∧ S.2.2.2 k ≤ 3
def xIn (S : xSea) (c : Int) : Prop := 0 ≤ c ∧ c < S.1 * S.2.1
theorem xIn_64 {S : xSea} {c : Int} (hS : xOk S) (h : xIn S c) : 0 ≤ c ∧ c ≤ 63 := by
  have h2 : S.1 * S.2.1 ≤ 8 * 8 := Int.mul_le_mul hS.1.2 hS.2.1.2 (by have := hS.2.1; omega) (by omega)
  have h1 := h.2
  exact ⟨h.1, by omega⟩
theorem xBe_b {w h c d : Int} (hw : 2 ≤ w) : xBe w h c d = -1 ∨ (0 ≤ xBe w h c d ∧ xBe w h c d < w * h) := by
  unfold xBe
  generalize c % w + (if d = 1 then 1 else if d = 3 then -1 else 0) = x
  generalize c / w + (if d = 2 then 1 else if d = 0 then -1 else 0) = y
  by_cases k : x < 0 ∨ y < 0 ∨ w ≤ x ∨ h ≤ y
  · rw [if_pos k]; exact Or.inl rfl
  · rw [if_neg k]
    exact Or.inr (ycell hw (by omega) (by omega) (by omega) (by omega))
theorem xS1_b {S : xSea} {c d : Int} (hS : xOk S) (hc : xIn S c) : xIn S (xS1 S c d).2 ∧ 0 ≤ (xS1 S c d).1 ∧ (xS1 S c d).1 ≤ 3 := by
  unfold xS1
  by_cases h1 : d = -1
  · rw [if_pos h1]; exact ⟨hc, (by decide : (0 : Int) ≤ 0), (by decide : (0 : Int) ≤ 3)⟩
  rw [if_neg h1]
  by_cases h2 : xBe S.1 S.2.1 c d = -1
  · rw [if_pos h2]; exact ⟨hc, (by decide : (0 : Int) ≤ 3), (by decide : (3 : Int) ≤ 3)⟩
  rw [if_neg h2]
  refine ⟨(xBe_b hS.1.1).resolve_left h2, ?_, ?_⟩
  · show 0 ≤ (if _ then (1 : Int) else 0)
    by_cases h3 : yTb S.2.2.1 (xBe S.1 S.2.1 c d).toNat = true
    · rw [if_pos h3]; decide
    · rw [if_neg h3]; decide
  · show (if _ then (1 : Int) else 0) ≤ 3
    by_cases h3 : yTb S.2.2.1 (xBe S.1 S.2.1 c d).toNat = true
    · rw [if_pos h3]; decide
    · rw [if_neg h3]; decide
theorem xDr_b {S : xSea} {c hr : Int} {t : Bool} (hS : xOk S) : xDr S c hr t = -1 ∨ xIn S (xDr S c hr t) := by
  unfold xDr
  by_cases h1 : t = true ∧ hr % 2 = 0 ∧ S.2.2.2 c.toNat ≠ -1
  · rw [if_pos h1]
    exact xBe_b hS.1.1
  · rw [if_neg h1]; exact Or.inl rfl
theorem xS2_b {S : xSea} {c hr : Int} {t : Bool} (hS : xOk S) (hc : xIn S c) : xIn S (xS2 S c hr t).2 ∧ 0 ≤ (xS2 S c hr t).1 ∧ (xS2 S c hr t).1 ≤ 3 := by
  unfold xS2
  by_cases h2 : xDr S c hr t = -1
  · rw [if_pos h2]; exact ⟨hc, (by decide : (0 : Int) ≤ 0), (by decide : (0 : Int) ≤ 3)⟩
  rw [if_neg h2]
  refine ⟨(xDr_b hS).resolve_left h2, ?_, ?_⟩
  · show 0 ≤ (if _ then (2 : Int) else 0)
    by_cases h3 : yTb S.2.2.1 (xDr S c hr t).toNat = true
    · rw [if_pos h3]; decide
    · rw [if_neg h3]; decide
  · show (if _ then (2 : Int) else 0) ≤ 3
    by_cases h3 : yTb S.2.2.1 (xDr S c hr t).toNat = true
    · rw [if_pos h3]; decide
    · rw [if_neg h3]; decide
theorem xSt_b {S : xSea} {c hr d : Int} {t : Bool} (hS : xOk S) (hc : xIn S c) : xIn S (xSt S c hr d t).2 ∧ 0 ≤ (xSt S c hr d t).1 ∧ (xSt S c hr d t).1 ≤ 3 := by
  unfold xSt
  have h1 := xS1_b (d := d) hS hc
  by_cases h2 : (xS1 S c d).1 = 0
  · rw [if_pos h2]; exact xS2_b hS h1.1
  · rw [if_neg h2]; exact h1
/-- the class's masks say the same -/
def xNck (w h k c : Nat) : Bool := (decide (¬ c < (w + 2) * (h + 2))).or ((decide (zq_b (zq_o (Int32.ofNat (w + 2)) (Int32.ofNat (h + 2)) (zq_col (Int32.ofNat (w + 2)) (Int32.ofNat (h + 2))) k) (Int32.ofNat c) = 0 ∧ xBe (w + 2 : Nat) (h + 2 : Nat) c k = -1)).or (decide (zq_b (zq_o (Int32.ofNat (w + 2)) (Int32.ofNat (h + 2)) (zq_col (Int32.ofNat (w + 2)) (Int32.ofNat (h + 2))) k) (Int32.ofNat c) ≠ 0 ∧ xBe (w + 2 : Nat) (h + 2 : Nat) c k = zq_n k c (w + 2 : Nat) ∧ xBe (w + 2 : Nat) (h + 2 : Nat) c k ≠ -1)))
theorem xN_tab : (List.range 7).all (fun w => (List.range 7).all (fun h => (List.range 4).all (fun k => (List.range 64).all (fun c => xNck w h k c)))) = true := by decide +kernel
theorem xN_ok {w h c : Int32} {k : Nat} (hw : 2 ≤ w.toInt ∧ w.toInt ≤ 8) (hh : 2 ≤ h.toInt ∧ h.toInt ≤ 8) (hk : k < 4) (h0 : 0 ≤ c.toInt) (h1 : c.toInt < w.toInt * h.toInt) : (zq_b (zq_o w h (zq_col w h) k) c = 0 ∧ xBe w.toInt h.toInt c.toInt k = -1) ∨ (zq_b (zq_o w h (zq_col w h) k) c ≠ 0 ∧ xBe w.toInt h.toInt c.toInt k = zq_n k c.toInt w.toInt ∧ xBe w.toInt h.toInt c.toInt k ≠ -1) := by
  have h2 : w.toInt * h.toInt ≤ 8 * 8 := Int.mul_le_mul hw.2 hh.2 (by omega) (by omega)
  obtain ⟨a, a1, rfl⟩ := zq_i (n := 2) (m := 7) (x := w) (by omega) (by omega) (by decide)
  obtain ⟨b, b1, rfl⟩ := zq_i (n := 2) (m := 7) (x := h) (by omega) (by omega) (by decide)
  obtain ⟨e, e1, he⟩ := zq_i (n := 0) (m := 64) (x := c) (by omega) (by omega) (by decide)
  have he : c = Int32.ofNat e := he
  subst he
  have t := List.all_eq_true.mp (List.all_eq_true.mp (List.all_eq_true.mp (List.all_eq_true.mp xN_tab a (List.mem_range.mpr a1)) b (List.mem_range.mpr b1)) k (List.mem_range.mpr hk)) e (List.mem_range.mpr e1)
  have ea : (Int32.ofNat (a + 2)).toInt = ((a + 2 : Nat) : Int) := Int32.toInt_ofNat_of_lt (by show _ < 2147483648; omega)
  have eb : (Int32.ofNat (b + 2)).toInt = ((b + 2 : Nat) : Int) := Int32.toInt_ofNat_of_lt (by show _ < 2147483648; omega)
  have ee : (Int32.ofNat e).toInt = (e : Int) := Int32.toInt_ofNat_of_lt (by show _ < 2147483648; omega)
  rw [ea, eb, ee] at h1
  rw [ea, eb, ee]
  have h3 : e < (a + 2) * (b + 2) := by
    have : ((a + 2 : Nat) : Int) * ((b + 2 : Nat) : Int) = (((a + 2) * (b + 2) : Nat) : Int) := (Int.natCast_mul _ _).symm
    omega
  rcases Bool.or_eq_true_iff.mp t with t | t
  · exact absurd h3 (of_decide_eq_true t)
  rcases Bool.or_eq_true_iff.mp t with t | t
  · exact Or.inl (of_decide_eq_true t)
  · exact Or.inr (of_decide_eq_true t)
/-- even, as both ask it -/
theorem x_ev {x : Int32} : ((x &&& Int32.ofInt 1).toInt = 0 ↔ x.toInt % 2 = 0) := by
  have e : (x &&& Int32.ofInt 1).toBitVec.toNat = x.toBitVec.toNat % 2 := by
    rw [Int32.toBitVec_and, BitVec.toNat_and]
    exact Nat.and_two_pow_sub_one_eq_mod _ 1
  have e1 : (x &&& Int32.ofInt 1).toInt = ((x.toBitVec.toNat % 2 : Nat) : Int) := by
    rw [← Int32.toInt_toBitVec, BitVec.toInt_eq_toNat_of_lt (by rw [e]; omega), e]
  have e3 : x.toInt = (x.toBitVec.toNat : Int) ∨ x.toInt = (x.toBitVec.toNat : Int) - 4294967296 := by
    rw [← Int32.toInt_toBitVec, BitVec.toInt_eq_toNat_cond]
    split
    · exact Or.inl rfl
    · exact Or.inr rfl
  rw [e1]
  omega
theorem x_div {x y : Int32} (hx : 0 ≤ x.toInt) (hy : 0 < y.toInt) : (x / y).toInt = x.toInt / y.toInt := by
  have h1 : x.toInt.tdiv y.toInt = x.toInt / y.toInt := Int.tdiv_eq_ediv_of_nonneg hx
  have h2 : 0 ≤ x.toInt / y.toInt := Int.ediv_nonneg hx (by omega)
  have h3 : x.toInt / y.toInt ≤ x.toInt := Int.ediv_le_self _ hx
  have h4 := Int32.toInt_le x
  have h5 : x.toInt ≤ 2147483647 := h4
  rw [Int32.toInt_div, h1]
  exact Int.bmod_eq_of_le (by omega) (by omega)
theorem x_rem {x y : Int32} (hx : 0 ≤ x.toInt) (hy : 0 < y.toInt) : (x - x / y * y).toInt = x.toInt % y.toInt := by
  have h1 := x_div hx hy
  have h2 : 0 ≤ x.toInt / y.toInt := Int.ediv_nonneg hx (by omega)
  have h3 : y.toInt * (x.toInt / y.toInt) + x.toInt % y.toInt = x.toInt := Int.mul_ediv_add_emod _ _
  have h4 : 0 ≤ x.toInt % y.toInt := Int.emod_nonneg _ (by omega)
  have h5 := Int32.toInt_le x
  have h5 : x.toInt ≤ 2147483647 := h5
  have h6 : (x / y * y).toInt = x.toInt / y.toInt * y.toInt := by
    rw [Int32.toInt_mul, h1]
    have h7 : x.toInt / y.toInt * y.toInt = y.toInt * (x.toInt / y.toInt) := Int.mul_comm _ _
    have h8 : 0 ≤ y.toInt * (x.toInt / y.toInt) := Int.mul_nonneg (by omega) h2
    exact Int.bmod_eq_of_le (by omega) (by omega)
  have h7 : x.toInt / y.toInt * y.toInt = y.toInt * (x.toInt / y.toInt) := Int.mul_comm _ _
  have h8 : 0 ≤ y.toInt * (x.toInt / y.toInt) := Int.mul_nonneg (by omega) h2
  rw [zq_sub (by rw [h6]; omega) (by rw [h6]; omega), h6]
  omega
