section
/-! ===== mark ===== -/
def zm_109 : za_MI := (yL_mark, method_7_code, 6, (some FieldType.int), 13, 3, 18, [(0, 12, 15, 18)], za_i109)
theorem zm_109_t : za_MT 109 = some zm_109 := rfl
def zm_211 : za_MI := (yX12_mark, prog_14_method_51_code, 4, (some FieldType.int), 12, 0, 0, [], za_i211)
theorem zm_211_t : za_MT 211 = some zm_211 := rfl
theorem yc_wayOf13 {L : Nat} {σ : Nat → Int32} {d : Nat} {H : zp_H} (W : zw_W H) {x1 x2 : Int32} (h1 : 0 ≤ x1.toInt ∧ x1.toInt < 8) (h2 : 0 ≤ x2.toInt ∧ x2.toInt < 8) : zp_Call L σ (d + 1) 26 [.inr (.inr (some 14)), .inl x1, .inl x2] H (.inl (some (.inl (H.2.1 18 (8 * x1.toInt.toNat + x2.toInt.toNat)))), H) := by
  have m1 : (x1 * Int32.ofInt 8).toInt = x1.toInt * 8 := zq_mul rfl (by omega) (by omega)
  have m2 : (x1 * Int32.ofInt 8 + x2).toInt = x1.toInt * 8 + x2.toInt := by rw [zq_add (by rw [m1]; omega) (by rw [m1]; omega), m1]
  have m3 : (x1 * Int32.ofInt 8 + x2).toInt.toNat = 8 * x1.toInt.toNat + x2.toInt.toNat := by omega
  refine zw_ex (zw_met zm_26_t rfl rfl ?_)
  refine zw_ld (n := 1) (k := 0) (f := zp_isR) (pc' := 1) rfl rfl rfl rfl rfl ?_
  refine zw_gR (q := 13) (pc' := 4) W rfl rfl rfl rfl (W.2 13 5 _ rfl) rfl ?_
  refine zw_ld (n := 1) (k := 1) (f := zp_isI) (pc' := 5) rfl rfl rfl rfl rfl ?_
  refine zw_s (pc' := 7) rfl rfl ?_
  refine zw_imul (pc' := 8) rfl rfl ?_
  refine zw_ld (n := 1) (k := 2) (f := zp_isI) (pc' := 9) rfl rfl rfl rfl rfl ?_
  refine zw_iadd (pc' := 10) rfl rfl ?_
  refine zw_ia (q := 18) (pc' := 11) W rfl rfl (by decide) (⟨by omega, by show _ < ((64 : Nat) : Int); omega⟩) rfl rfl ?_
  refine zw_ri rfl rfl ?_
  rw [m3]

theorem yc_stepsOf13 {L : Nat} {σ : Nat → Int32} {d : Nat} {H : zp_H} (W : zw_W H) {x1 x2 : Int32} (h1 : 0 ≤ x1.toInt ∧ x1.toInt < 8) (h2 : 0 ≤ x2.toInt ∧ x2.toInt < 8) : zp_Call L σ (d + 1) 27 [.inr (.inr (some 14)), .inl x1, .inl x2] H (.inl (some (.inl (H.2.1 19 (8 * x1.toInt.toNat + x2.toInt.toNat)))), H) := by
  have m1 : (x1 * Int32.ofInt 8).toInt = x1.toInt * 8 := zq_mul rfl (by omega) (by omega)
  have m2 : (x1 * Int32.ofInt 8 + x2).toInt = x1.toInt * 8 + x2.toInt := by rw [zq_add (by rw [m1]; omega) (by rw [m1]; omega), m1]
  have m3 : (x1 * Int32.ofInt 8 + x2).toInt.toNat = 8 * x1.toInt.toNat + x2.toInt.toNat := by omega
  refine zw_ex (zw_met zm_27_t rfl rfl ?_)
  refine zw_ld (n := 1) (k := 0) (f := zp_isR) (pc' := 1) rfl rfl rfl rfl rfl ?_
  refine zw_gR (q := 13) (pc' := 4) W rfl rfl rfl rfl (W.2 13 6 _ rfl) rfl ?_
  refine zw_ld (n := 1) (k := 1) (f := zp_isI) (pc' := 5) rfl rfl rfl rfl rfl ?_
  refine zw_s (pc' := 7) rfl rfl ?_
  refine zw_imul (pc' := 8) rfl rfl ?_
  refine zw_ld (n := 1) (k := 2) (f := zp_isI) (pc' := 9) rfl rfl rfl rfl rfl ?_
  refine zw_iadd (pc' := 10) rfl rfl ?_
  refine zw_ia (q := 19) (pc' := 11) W rfl rfl (by decide) (⟨by omega, by show _ < ((64 : Nat) : Int); omega⟩) rfl rfl ?_
  refine zw_ri rfl rfl ?_
  rw [m3]

theorem yc_wayOf33 {L : Nat} {σ : Nat → Int32} {d : Nat} {H : zp_H} (W : zw_W H) {x1 x2 : Int32} (h1 : 0 ≤ x1.toInt ∧ x1.toInt < 8) (h2 : 0 ≤ x2.toInt ∧ x2.toInt < 8) : zp_Call L σ (d + 1) 26 [.inr (.inr (some 34)), .inl x1, .inl x2] H (.inl (some (.inl (H.2.1 38 (8 * x1.toInt.toNat + x2.toInt.toNat)))), H) := by
  have m1 : (x1 * Int32.ofInt 8).toInt = x1.toInt * 8 := zq_mul rfl (by omega) (by omega)
  have m2 : (x1 * Int32.ofInt 8 + x2).toInt = x1.toInt * 8 + x2.toInt := by rw [zq_add (by rw [m1]; omega) (by rw [m1]; omega), m1]
  have m3 : (x1 * Int32.ofInt 8 + x2).toInt.toNat = 8 * x1.toInt.toNat + x2.toInt.toNat := by omega
  refine zw_ex (zw_met zm_26_t rfl rfl ?_)
  refine zw_ld (n := 1) (k := 0) (f := zp_isR) (pc' := 1) rfl rfl rfl rfl rfl ?_
  refine zw_gR (q := 33) (pc' := 4) W rfl rfl rfl rfl (W.2 33 5 _ rfl) rfl ?_
  refine zw_ld (n := 1) (k := 1) (f := zp_isI) (pc' := 5) rfl rfl rfl rfl rfl ?_
  refine zw_s (pc' := 7) rfl rfl ?_
  refine zw_imul (pc' := 8) rfl rfl ?_
  refine zw_ld (n := 1) (k := 2) (f := zp_isI) (pc' := 9) rfl rfl rfl rfl rfl ?_
  refine zw_iadd (pc' := 10) rfl rfl ?_
  refine zw_ia (q := 38) (pc' := 11) W rfl rfl (by decide) (⟨by omega, by show _ < ((64 : Nat) : Int); omega⟩) rfl rfl ?_
  refine zw_ri rfl rfl ?_
  rw [m3]

theorem yc_stepsOf33 {L : Nat} {σ : Nat → Int32} {d : Nat} {H : zp_H} (W : zw_W H) {x1 x2 : Int32} (h1 : 0 ≤ x1.toInt ∧ x1.toInt < 8) (h2 : 0 ≤ x2.toInt ∧ x2.toInt < 8) : zp_Call L σ (d + 1) 27 [.inr (.inr (some 34)), .inl x1, .inl x2] H (.inl (some (.inl (H.2.1 39 (8 * x1.toInt.toNat + x2.toInt.toNat)))), H) := by
  have m1 : (x1 * Int32.ofInt 8).toInt = x1.toInt * 8 := zq_mul rfl (by omega) (by omega)
  have m2 : (x1 * Int32.ofInt 8 + x2).toInt = x1.toInt * 8 + x2.toInt := by rw [zq_add (by rw [m1]; omega) (by rw [m1]; omega), m1]
  have m3 : (x1 * Int32.ofInt 8 + x2).toInt.toNat = 8 * x1.toInt.toNat + x2.toInt.toNat := by omega
  refine zw_ex (zw_met zm_27_t rfl rfl ?_)
  refine zw_ld (n := 1) (k := 0) (f := zp_isR) (pc' := 1) rfl rfl rfl rfl rfl ?_
  refine zw_gR (q := 33) (pc' := 4) W rfl rfl rfl rfl (W.2 33 6 _ rfl) rfl ?_
  refine zw_ld (n := 1) (k := 1) (f := zp_isI) (pc' := 5) rfl rfl rfl rfl rfl ?_
  refine zw_s (pc' := 7) rfl rfl ?_
  refine zw_imul (pc' := 8) rfl rfl ?_
  refine zw_ld (n := 1) (k := 2) (f := zp_isI) (pc' := 9) rfl rfl rfl rfl rfl ?_
  refine zw_iadd (pc' := 10) rfl rfl ?_
  refine zw_ia (q := 39) (pc' := 11) W rfl rfl (by decide) (⟨by omega, by show _ < ((64 : Nat) : Int); omega⟩) rfl rfl ?_
  refine zw_ri rfl rfl ?_
  rw [m3]
end
section
/-! ===== a step at sea, said once for both sides ===== -/
def xBe (w h c d : Int) : Int := if c % w + (if d = 1 then 1 else if d = 3 then -1 else 0) < 0 ∨ c / w + (if d = 2 then 1 else if d = 0 then -1 else 0) < 0 ∨ w ≤ c % w + (if d = 1 then 1 else if d = 3 then -1 else 0) ∨ h ≤ c / w + (if d = 2 then 1 else if d = 0 then -1 else 0) then -1 else w * (c / w + (if d = 2 then 1 else if d = 0 then -1 else 0)) + (c % w + (if d = 1 then 1 else if d = 3 then -1 else 0))
/-- wide, high, rocks, currents -/
abbrev xSea : Type := Int × Int × Int64 × (Nat → Int)
def xS1 (S : xSea) (c d : Int) : Int × Int := if d = -1 then (0, c) else if xBe S.1 S.2.1 c d = -1 then (3, c) else ((if yTb S.2.2.1 (xBe S.1 S.2.1 c d).toNat = true then 1 else 0), xBe S.1 S.2.1 c d)
def xDr (S : xSea) (c hr : Int) (t : Bool) : Int := if t = true ∧ hr % 2 = 0 ∧ S.2.2.2 c.toNat ≠ -1 then xBe S.1 S.2.1 c (S.2.2.2 c.toNat) else -1
def xS2 (S : xSea) (c hr : Int) (t : Bool) : Int × Int := if xDr S c hr t = -1 then (0, c) else ((if yTb S.2.2.1 (xDr S c hr t).toNat = true then 2 else 0), xDr S c hr t)
def xSt (S : xSea) (c hr d : Int) (t : Bool) : Int × Int := if (xS1 S c d).1 = 0 then xS2 S (xS1 S c d).2 hr t else xS1 S c d
/-- a sea as told -/
def xOk (S : xSea) : Prop := (2 ≤ S.1 ∧ S.1 ≤ 8) ∧ (2 ≤ S.2.1 ∧ S.2.1 ≤ 8) ∧ ∀ k, -1 ≤ S.2.2.2 k ∧ S.2.2.2 k ≤ 3
def xIn (S : xSea) (c : Int) : Prop := 0 ≤ c ∧ c < S.1 * S.2.1
theorem xIn_64 {S : xSea} {c : Int} (hS : xOk S) (h : xIn S c) : 0 ≤ c ∧ c ≤ 63 := by
  have h2 : S.1 * S.2.1 ≤ 8 * 8 := Int.mul_le_mul hS.1.2 hS.2.1.2 (by have := hS.2.1; omega) (by omega)
  have h1 := h.2
  exact ⟨h.1, by omega⟩
theorem xBe_b {w h c d : Int} (hw : 2 ≤ w) : xBe w h c d = -1 ∨ (0 ≤ xBe w h c d ∧ xBe w h c d < w * h) := by
  unfold xBe
  generalize c % w + (if d = 1 then 1 else if d = 3 then -1 else 0) = x
  generalize c / w + (if d = 2 then 1 else if d = 0 then -1 else 0) = y
  by_cases k : x < 0 ∨ y < 0 ∨ w ≤ x ∨ h ≤ y
  · rw [if_pos k]; exact Or.inl rfl
  · rw [if_neg k]
    exact Or.inr (ycell hw (by omega) (by omega) (by omega) (by omega))
theorem xS1_b {S : xSea} {c d : Int} (hS : xOk S) (hc : xIn S c) : xIn S (xS1 S c d).2 ∧ 0 ≤ (xS1 S c d).1 ∧ (xS1 S c d).1 ≤ 3 := by
  unfold xS1
  by_cases h1 : d = -1
  · rw [if_pos h1]; exact ⟨hc, (by decide : (0 : Int) ≤ 0), (by decide : (0 : Int) ≤ 3)⟩
  rw [if_neg h1]
  by_cases h2 : xBe S.1 S.2.1 c d = -1
  · rw [if_pos h2]; exact ⟨hc, (by decide : (0 : Int) ≤ 3), (by decide : (3 : Int) ≤ 3)⟩
  rw [if_neg h2]
  refine ⟨(xBe_b hS.1.1).resolve_left h2, ?_, ?_⟩
  · show 0 ≤ (if _ then (1 : Int) else 0)
    by_cases h3 : yTb S.2.2.1 (xBe S.1 S.2.1 c d).toNat = true
    · rw [if_pos h3]; decide
    · rw [if_neg h3]; decide
  · show (if _ then (1 : Int) else 0) ≤ 3
    by_cases h3 : yTb S.2.2.1 (xBe S.1 S.2.1 c d).toNat = true
    · rw [if_pos h3]; decide
    · rw [if_neg h3]; decide
theorem xDr_b {S : xSea} {c hr : Int} {t : Bool} (hS : xOk S) : xDr S c hr t = -1 ∨ xIn S (xDr S c hr t) := by
  unfold xDr
  by_cases h1 : t = true ∧ hr % 2 = 0 ∧ S.2.2.2 c.toNat ≠ -1
  · rw [if_pos h1]
    exact xBe_b hS.1.1
  · rw [if_neg h1]; exact Or.inl rfl
theorem xS2_b {S : xSea} {c hr : Int} {t : Bool} (hS : xOk S) (hc : xIn S c) : xIn S (xS2 S c hr t).2 ∧ 0 ≤ (xS2 S c hr t).1 ∧ (xS2 S c hr t).1 ≤ 3 := by
  unfold xS2
  by_cases h2 : xDr S c hr t = -1
  · rw [if_pos h2]; exact ⟨hc, (by decide : (0 : Int) ≤ 0), (by decide : (0 : Int) ≤ 3)⟩
  rw [if_neg h2]
  refine ⟨(xDr_b hS).resolve_left h2, ?_, ?_⟩
  · show 0 ≤ (if _ then (2 : Int) else 0)
    by_cases h3 : yTb S.2.2.1 (xDr S c hr t).toNat = true
    · rw [if_pos h3]; decide
    · rw [if_neg h3]; decide
  · show (if _ then (2 : Int) else 0) ≤ 3
    by_cases h3 : yTb S.2.2.1 (xDr S c hr t).toNat = true
    · rw [if_pos h3]; decide
    · rw [if_neg h3]; decide
theorem xSt_b {S : xSea} {c hr d : Int} {t : Bool} (hS : xOk S) (hc : xIn S c) : xIn S (xSt S c hr d t).2 ∧ 0 ≤ (xSt S c hr d t).1 ∧ (xSt S c hr d t).1 ≤ 3 := by
  unfold xSt
  have h1 := xS1_b (d := d) hS hc
  by_cases h2 : (xS1 S c d).1 = 0
  · rw [if_pos h2]; exact xS2_b hS h1.1
  · rw [if_neg h2]; exact h1
/-- the class's masks say the same -/
def xNck (w h k c : Nat) : Bool := (decide (¬ c < (w + 2) * (h + 2))).or ((decide (zq_b (zq_o (Int32.ofNat (w + 2)) (Int32.ofNat (h + 2)) (zq_col (Int32.ofNat (w + 2)) (Int32.ofNat (h + 2))) k) (Int32.ofNat c) = 0 ∧ xBe (w + 2 : Nat) (h + 2 : Nat) c k = -1)).or (decide (zq_b (zq_o (Int32.ofNat (w + 2)) (Int32.ofNat (h + 2)) (zq_col (Int32.ofNat (w + 2)) (Int32.ofNat (h + 2))) k) (Int32.ofNat c) ≠ 0 ∧ xBe (w + 2 : Nat) (h + 2 : Nat) c k = zq_n k c (w + 2 : Nat) ∧ xBe (w + 2 : Nat) (h + 2 : Nat) c k ≠ -1)))
theorem xN_tab : (List.range 7).all (fun w => (List.range 7).all (fun h => (List.range 4).all (fun k => (List.range 64).all (fun c => xNck w h k c)))) = true := by decide +kernel
theorem xN_ok {w h c : Int32} {k : Nat} (hw : 2 ≤ w.toInt ∧ w.toInt ≤ 8) (hh : 2 ≤ h.toInt ∧ h.toInt ≤ 8) (hk : k < 4) (h0 : 0 ≤ c.toInt) (h1 : c.toInt < w.toInt * h.toInt) : (zq_b (zq_o w h (zq_col w h) k) c = 0 ∧ xBe w.toInt h.toInt c.toInt k = -1) ∨ (zq_b (zq_o w h (zq_col w h) k) c ≠ 0 ∧ xBe w.toInt h.toInt c.toInt k = zq_n k c.toInt w.toInt ∧ xBe w.toInt h.toInt c.toInt k ≠ -1) := by
  have h2 : w.toInt * h.toInt ≤ 8 * 8 := Int.mul_le_mul hw.2 hh.2 (by omega) (by omega)
  obtain ⟨a, a1, rfl⟩ := zq_i (n := 2) (m := 7) (x := w) (by omega) (by omega) (by decide)
  obtain ⟨b, b1, rfl⟩ := zq_i (n := 2) (m := 7) (x := h) (by omega) (by omega) (by decide)
  obtain ⟨e, e1, he⟩ := zq_i (n := 0) (m := 64) (x := c) (by omega) (by omega) (by decide)
  have he : c = Int32.ofNat e := he
  subst he
  have t := List.all_eq_true.mp (List.all_eq_true.mp (List.all_eq_true.mp (List.all_eq_true.mp xN_tab a (List.mem_range.mpr a1)) b (List.mem_range.mpr b1)) k (List.mem_range.mpr hk)) e (List.mem_range.mpr e1)
  have ea : (Int32.ofNat (a + 2)).toInt = ((a + 2 : Nat) : Int) := Int32.toInt_ofNat_of_lt (by show _ < 2147483648; omega)
  have eb : (Int32.ofNat (b + 2)).toInt = ((b + 2 : Nat) : Int) := Int32.toInt_ofNat_of_lt (by show _ < 2147483648; omega)
  have ee : (Int32.ofNat e).toInt = (e : Int) := Int32.toInt_ofNat_of_lt (by show _ < 2147483648; omega)
  rw [ea, eb, ee] at h1
  rw [ea, eb, ee]
  have h3 : e < (a + 2) * (b + 2) := by
    have : ((a + 2 : Nat) : Int) * ((b + 2 : Nat) : Int) = (((a + 2) * (b + 2) : Nat) : Int) := (Int.natCast_mul _ _).symm
    omega
  rcases Bool.or_eq_true_iff.mp t with t | t
  · exact absurd h3 (of_decide_eq_true t)
  rcases Bool.or_eq_true_iff.mp t with t | t
  · exact Or.inl (of_decide_eq_true t)
  · exact Or.inr (of_decide_eq_true t)
/-- even, as both ask it -/
theorem x_ev {x : Int32} : ((x &&& Int32.ofInt 1).toInt = 0 ↔ x.toInt % 2 = 0) := by
  have e : (x &&& Int32.ofInt 1).toBitVec.toNat = x.toBitVec.toNat % 2 := by
    rw [Int32.toBitVec_and, BitVec.toNat_and]
    exact Nat.and_two_pow_sub_one_eq_mod _ 1
  have e1 : (x &&& Int32.ofInt 1).toInt = ((x.toBitVec.toNat % 2 : Nat) : Int) := by
    rw [← Int32.toInt_toBitVec, BitVec.toInt_eq_toNat_of_lt (by rw [e]; omega), e]
  have e3 : x.toInt = (x.toBitVec.toNat : Int) ∨ x.toInt = (x.toBitVec.toNat : Int) - 4294967296 := by
    rw [← Int32.toInt_toBitVec, BitVec.toInt_eq_toNat_cond]
    split
    · exact Or.inl rfl
    · exact Or.inr rfl
  rw [e1]
  omega
theorem x_div {x y : Int32} (hx : 0 ≤ x.toInt) (hy : 0 < y.toInt) : (x / y).toInt = x.toInt / y.toInt := by
  have h1 : x.toInt.tdiv y.toInt = x.toInt / y.toInt := Int.tdiv_eq_ediv_of_nonneg hx
  have h2 : 0 ≤ x.toInt / y.toInt := Int.ediv_nonneg hx (by omega)
  have h3 : x.toInt / y.toInt ≤ x.toInt := Int.ediv_le_self _ hx
  have h4 := Int32.toInt_le x
  have h5 : x.toInt ≤ 2147483647 := h4
  rw [Int32.toInt_div, h1]
  exact Int.bmod_eq_of_le (by omega) (by omega)
theorem x_rem {x y : Int32} (hx : 0 ≤ x.toInt) (hy : 0 < y.toInt) : (x - x / y * y).toInt = x.toInt % y.toInt := by
  have h1 := x_div hx hy
  have h2 : 0 ≤ x.toInt / y.toInt := Int.ediv_nonneg hx (by omega)
  have h3 : y.toInt * (x.toInt / y.toInt) + x.toInt % y.toInt = x.toInt := Int.mul_ediv_add_emod _ _
  have h4 : 0 ≤ x.toInt % y.toInt := Int.emod_nonneg _ (by omega)
  have h5 := Int32.toInt_le x
  have h5 : x.toInt ≤ 2147483647 := h5
  have h6 : (x / y * y).toInt = x.toInt / y.toInt * y.toInt := by
    rw [Int32.toInt_mul, h1]
    have h7 : x.toInt / y.toInt * y.toInt = y.toInt * (x.toInt / y.toInt) := Int.mul_comm _ _
    have h8 : 0 ≤ y.toInt * (x.toInt / y.toInt) := Int.mul_nonneg (by omega) h2
    exact Int.bmod_eq_of_le (by omega) (by omega)
  have h7 : x.toInt / y.toInt * y.toInt = y.toInt * (x.toInt / y.toInt) := Int.mul_comm _ _
  have h8 : 0 ≤ y.toInt * (x.toInt / y.toInt) := Int.mul_nonneg (by omega) h2
  rw [zq_sub (by rw [h6]; omega) (by rw [h6]; omega), h6]
  omega
end
section
/-! ===== an hour at sea, of the class ===== -/
def zm_29 : za_MI := (yX8_sail, prog_10_method_3_code, 5, none, 8, 0, 0, [], za_i29)
theorem zm_29_t : za_MT 29 = some zm_29 := rfl
def zm_31 : za_MI := (yX8_goTo, prog_10_method_4_code, 4, none, 8, 0, 0, [], za_i31)
theorem zm_31_t : za_MT 31 = some zm_31 := rfl
def zm_33 : za_MI := (yX10_drivenTo, prog_12_method_11_code, 3, (some FieldType.int), 10, 0, 0, [], za_i33)
theorem zm_33_t : za_MT 33 = some zm_33 := rfl
/-- the class's sea -/
def xSC (p : Nat) (H : zp_H) (S : xSea) : Prop := (H.2.1 p 0).toInt = S.1 ∧ (H.2.1 p 1).toInt = S.2.1 ∧ H.2.2.1 p 3 = S.2.2.1 ∧ (∀ k, k < 64 → (H.2.1 (p + 2) k).toInt = S.2.2.2 k) ∧ ∀ k, k < 4 → H.2.2.1 (p + 1) k = zq_o (H.2.1 p 0) (H.2.1 p 1) (zq_col (H.2.1 p 0) (H.2.1 p 1)) k
/-- but a ship nothing is changed -/
def xFr (q : Nat) (H H1 : zp_H) : Prop := H1.1 = H.1 ∧ H1.2.2.2 = H.2.2.2 ∧ (∀ p k, ¬ (p = q ∧ (k = 0 ∨ k = 1 ∨ k = 2 ∨ k = 4)) → H1.2.1 p k = H.2.1 p k) ∧ ∀ p k, p ≠ q → H1.2.2.1 p k = H.2.2.1 p k
theorem xFr_r {q : Nat} (H : zp_H) : xFr q H H := ⟨rfl, rfl, fun _ _ _ => rfl, fun _ _ _ => rfl⟩
theorem xFr_t {q : Nat} {H H1 H2 : zp_H} (h1 : xFr q H H1) (h2 : xFr q H1 H2) : xFr q H H2 := ⟨h2.1.trans h1.1, h2.2.1.trans h1.2.1, fun p k h => (h2.2.2.1 p k h).trans (h1.2.2.1 p k h), fun p k h => (h2.2.2.2 p k h).trans (h1.2.2.2 p k h)⟩
theorem xFr_I {q k : Nat} {H H1 : zp_H} {x : Int32} (h : xFr q H H1) (hk : k = 0 ∨ k = 1 ∨ k = 2 ∨ k = 4) : xFr q H (zw_I H1 q k x) := ⟨h.1, h.2.1, fun p j hn => (y_ne (fun h9 : p = q ∧ j = k => hn ⟨h9.1, by rw [h9.2]; exact hk⟩)).trans (h.2.2.1 p j hn), h.2.2.2⟩
theorem xFr_J {q k : Nat} {H H1 : zp_H} {u : Int64} (h : xFr q H H1) : xFr q H (zw_J H1 q k u) := ⟨h.1, h.2.1, h.2.2.1, fun p j hn => (zp_u_ne (fun h9 => hn h9.1)).trans (h.2.2.2 p j hn)⟩
theorem xSC_f {q p : Nat} {H H1 : zp_H} {S : xSea} (h : xFr q H H1) (hp : p ≠ q ∧ p + 1 ≠ q ∧ p + 2 ≠ q) (hC : xSC p H S) : xSC p H1 S := by
  have e0 : H1.2.1 p 0 = H.2.1 p 0 := h.2.2.1 p 0 (fun h9 => hp.1 h9.1)
  have e1 : H1.2.1 p 1 = H.2.1 p 1 := h.2.2.1 p 1 (fun h9 => hp.1 h9.1)
  refine ⟨(congrArg Int32.toInt e0).trans hC.1, (congrArg Int32.toInt e1).trans hC.2.1, (h.2.2.2 p 3 hp.1).trans hC.2.2.1, fun k hk => (congrArg Int32.toInt (h.2.2.1 (p + 2) k (fun h9 => hp.2.2 h9.1))).trans (hC.2.2.2.1 k hk), fun k hk => ?_⟩
  rw [e0, e1]
  exact (h.2.2.2 (p + 1) k hp.2.1).trans (hC.2.2.2.2 k hk)
theorem x_of {z : Int} (h0 : -2147483648 ≤ z) (h1 : z ≤ 2147483647) : (Int32.ofInt z).toInt = z := by
  rw [Int32.toInt_ofInt]
  exact za_bmod (by omega) (by omega)
theorem x_oi (x : Int32) : Int32.ofInt x.toInt = x := Int32.toInt_inj.mp (x_of (by have h : -2147483648 ≤ x.toInt := Int32.le_toInt x; omega) (by have h : x.toInt ≤ 2147483647 := Int32.toInt_le x; omega))
theorem x_rv {u v : Int32} {H : zp_H} (h : u = v) : ((.inl (some (.inl u)), H) : zp_X) = (.inl (some (.inl v)), H) := by rw [h]
theorem xBe_64 {S : xSea} {c d : Int} (hS : xOk S) : -1 ≤ xBe S.1 S.2.1 c d ∧ xBe S.1 S.2.1 c d ≤ 63 := by
  rcases xBe_b (h := S.2.1) (c := c) (d := d) hS.1.1 with h | h
  · omega
  · have := xIn_64 hS h
    omega
theorem xDr_64 {S : xSea} {c hr : Int} {t : Bool} (hS : xOk S) : -1 ≤ xDr S c hr t ∧ xDr S c hr t ≤ 63 := by
  rcases xDr_b (c := c) (hr := hr) (t := t) hS with h | h
  · omega
  · have := xIn_64 hS h
    omega
theorem xSt_0 {S : xSea} {c hr d : Int} {t : Bool} (h : (xS1 S c d).1 = 0) : xSt S c hr d t = xS2 S (xS1 S c d).2 hr t := if_pos h
theorem xSt_1 {S : xSea} {c hr d : Int} {t : Bool} (h : ¬ (xS1 S c d).1 = 0) : xSt S c hr d t = xS1 S c d := if_neg h
theorem xS1_n {S : xSea} {c d : Int} (h : d = -1) : xS1 S c d = (0, c) := if_pos h
theorem xS1_l {S : xSea} {c d : Int} (h : d ≠ -1) (h2 : xBe S.1 S.2.1 c d = -1) : xS1 S c d = (3, c) := (if_neg h).trans (if_pos h2)
theorem xS1_r {S : xSea} {c d : Int} (h : d ≠ -1) (h2 : xBe S.1 S.2.1 c d ≠ -1) (h3 : yTb S.2.2.1 (xBe S.1 S.2.1 c d).toNat = true) : xS1 S c d = (1, xBe S.1 S.2.1 c d) := (if_neg h).trans ((if_neg h2).trans (congrArg (fun z : Int => (z, xBe S.1 S.2.1 c d)) (if_pos h3)))
theorem xS1_f {S : xSea} {c d : Int} (h : d ≠ -1) (h2 : xBe S.1 S.2.1 c d ≠ -1) (h3 : ¬ yTb S.2.2.1 (xBe S.1 S.2.1 c d).toNat = true) : xS1 S c d = (0, xBe S.1 S.2.1 c d) := (if_neg h).trans ((if_neg h2).trans (congrArg (fun z : Int => (z, xBe S.1 S.2.1 c d)) (if_neg h3)))
theorem xS2_n {S : xSea} {c hr : Int} {t : Bool} (h : xDr S c hr t = -1) : xS2 S c hr t = (0, c) := if_pos h
theorem xS2_r {S : xSea} {c hr : Int} {t : Bool} (h : xDr S c hr t ≠ -1) (h3 : yTb S.2.2.1 (xDr S c hr t).toNat = true) : xS2 S c hr t = (2, xDr S c hr t) := (if_neg h).trans (congrArg (fun z : Int => (z, xDr S c hr t)) (if_pos h3))
theorem xS2_f {S : xSea} {c hr : Int} {t : Bool} (h : xDr S c hr t ≠ -1) (h3 : ¬ yTb S.2.2.1 (xDr S c hr t).toNat = true) : xS2 S c hr t = (0, xDr S c hr t) := (if_neg h).trans (congrArg (fun z : Int => (z, xDr S c hr t)) (if_neg h3))
theorem xc_nc2_0 {L : Nat} {σ : Nat → Int32} {d : Nat} {H : zp_H} {xc : Int32} {S : xSea} (W : zw_W H) (hS : xOk S) (hC : xSC 2 H S) (hc : xIn S xc.toInt) : zp_Call L σ (d + 1) 30 [.inr (.inr (some 3)), .inl xc, .inl (Int32.ofInt 0)] H (.inl (some (.inl (Int32.ofInt (xBe S.1 S.2.1 xc.toInt 0)))), H) := by
  have hw := hC.1
  have hh := hC.2.1
  have h8 := xIn_64 hS hc
  have hw8 := hS.1
  have t := xN_ok (w := H.2.1 2 0) (h := H.2.1 2 1) (c := xc) (k := 0) (by rw [hw]; exact hS.1) (by rw [hh]; exact hS.2.1) (by decide) hc.1 (by rw [hw, hh]; exact hc.2)
  rw [← hC.2.2.2.2 0 (by decide), hw, hh] at t
  have t : (zq_b (H.2.2.1 3 0) xc = 0 ∧ xBe S.1 S.2.1 xc.toInt 0 = -1) ∨ (zq_b (H.2.2.1 3 0) xc ≠ 0 ∧ xBe S.1 S.2.1 xc.toInt 0 = xc.toInt - S.1 ∧ xBe S.1 S.2.1 xc.toInt 0 ≠ -1) := t
  refine zw_ex (zw_met zm_30_t rfl rfl ?_)
  refine zw_ld (n := 1) (k := 2) (f := zp_isI) (pc' := 1) rfl rfl rfl rfl rfl ?_
  refine zw_blt1 (g := 24) (pc' := 4) rfl rfl rfl (rfl : _ = (0 : Int)) (fun h9 => absurd h9 (by decide)) (fun hb => ?_)
  refine zw_ld (n := 1) (k := 2) (f := zp_isI) (pc' := 5) rfl rfl rfl rfl rfl ?_
  refine zw_s (pc' := 6) rfl rfl ?_
  refine zw_bge2 (g := 24) (pc' := 9) rfl rfl rfl (rfl : _ = (0 : Int)) (rfl : _ = (4 : Int)) (fun h9 => absurd h9 (by decide)) (fun hb => ?_)
  refine zw_ld (n := 1) (k := 0) (f := zp_isR) (pc' := 10) rfl rfl rfl rfl rfl ?_
  refine zw_gR (q := 2) (pc' := 13) W rfl rfl rfl rfl (W.2 2 4 _ rfl) rfl ?_
  refine zw_ld (n := 1) (k := 2) (f := zp_isI) (pc' := 14) rfl rfl rfl rfl rfl ?_
  refine zw_la (q := 3) (pc' := 15) W rfl rfl (⟨by decide, by decide⟩) rfl ?_
  refine zw_ld (n := 1) (k := 1) (f := zp_isI) (pc' := 16) rfl rfl rfl rfl rfl ?_
  refine zw_lushr (pc' := 17) rfl rfl ?_
  refine zw_s (pc' := 18) rfl rfl ?_
  refine zw_land (pc' := 19) rfl rfl ?_
  refine zw_s (pc' := 20) rfl rfl ?_
  refine zw_s (pc' := 21) rfl rfl ?_
  refine zw_bne1 (g := 26) (pc' := 24) rfl rfl rfl rfl (fun hb => ?_) (fun hb => ?_)
  · rcases t with t | t
    · exact absurd t.1 hb
    refine zw_ld (n := 1) (k := 2) (f := zp_isI) (pc' := 27) rfl rfl rfl rfl rfl ?_
    refine zw_s (pc' := 52) rfl rfl ?_
    refine zw_ld (n := 1) (k := 1) (f := zp_isI) (pc' := 53) rfl rfl rfl rfl rfl ?_
    refine zw_ld (n := 1) (k := 0) (f := zp_isR) (pc' := 54) rfl rfl rfl rfl rfl ?_
    refine zw_gI (q := 2) (pc' := 57) W rfl rfl rfl rfl rfl rfl ?_
    refine zw_isub (pc' := 58) rfl rfl ?_
    have e : (xc - H.2.1 2 0).toInt = xc.toInt - (H.2.1 2 0).toInt := zq_sub (by omega) (by omega)
    refine zw_ri rfl rfl ?_
    exact x_rv (Int32.toInt_inj.mp (by rw [x_of (by have := (xBe_64 (c := xc.toInt) (d := 0) hS).1; omega) (by have := (xBe_64 (c := xc.toInt) (d := 0) hS).2; omega), e, t.2.1, hw]))
  · refine zw_s (pc' := 25) rfl rfl ?_
    refine zw_ri rfl rfl ?_
    rcases t with t | t
    · exact x_rv (by rw [t.2])
    · exact absurd hb t.1

theorem xc_nc2_1 {L : Nat} {σ : Nat → Int32} {d : Nat} {H : zp_H} {xc : Int32} {S : xSea} (W : zw_W H) (hS : xOk S) (hC : xSC 2 H S) (hc : xIn S xc.toInt) : zp_Call L σ (d + 1) 30 [.inr (.inr (some 3)), .inl xc, .inl (Int32.ofInt 1)] H (.inl (some (.inl (Int32.ofInt (xBe S.1 S.2.1 xc.toInt 1)))), H) := by
  have hw := hC.1
  have hh := hC.2.1
  have h8 := xIn_64 hS hc
  have hw8 := hS.1
  have t := xN_ok (w := H.2.1 2 0) (h := H.2.1 2 1) (c := xc) (k := 1) (by rw [hw]; exact hS.1) (by rw [hh]; exact hS.2.1) (by decide) hc.1 (by rw [hw, hh]; exact hc.2)
  rw [← hC.2.2.2.2 1 (by decide), hw, hh] at t
  have t : (zq_b (H.2.2.1 3 1) xc = 0 ∧ xBe S.1 S.2.1 xc.toInt 1 = -1) ∨ (zq_b (H.2.2.1 3 1) xc ≠ 0 ∧ xBe S.1 S.2.1 xc.toInt 1 = xc.toInt + 1 ∧ xBe S.1 S.2.1 xc.toInt 1 ≠ -1) := t
  refine zw_ex (zw_met zm_30_t rfl rfl ?_)
  refine zw_ld (n := 1) (k := 2) (f := zp_isI) (pc' := 1) rfl rfl rfl rfl rfl ?_
  refine zw_blt1 (g := 24) (pc' := 4) rfl rfl rfl (rfl : _ = (1 : Int)) (fun h9 => absurd h9 (by decide)) (fun hb => ?_)
  refine zw_ld (n := 1) (k := 2) (f := zp_isI) (pc' := 5) rfl rfl rfl rfl rfl ?_
  refine zw_s (pc' := 6) rfl rfl ?_
  refine zw_bge2 (g := 24) (pc' := 9) rfl rfl rfl (rfl : _ = (1 : Int)) (rfl : _ = (4 : Int)) (fun h9 => absurd h9 (by decide)) (fun hb => ?_)
  refine zw_ld (n := 1) (k := 0) (f := zp_isR) (pc' := 10) rfl rfl rfl rfl rfl ?_
  refine zw_gR (q := 2) (pc' := 13) W rfl rfl rfl rfl (W.2 2 4 _ rfl) rfl ?_
  refine zw_ld (n := 1) (k := 2) (f := zp_isI) (pc' := 14) rfl rfl rfl rfl rfl ?_
  refine zw_la (q := 3) (pc' := 15) W rfl rfl (⟨by decide, by decide⟩) rfl ?_
  refine zw_ld (n := 1) (k := 1) (f := zp_isI) (pc' := 16) rfl rfl rfl rfl rfl ?_
  refine zw_lushr (pc' := 17) rfl rfl ?_
  refine zw_s (pc' := 18) rfl rfl ?_
  refine zw_land (pc' := 19) rfl rfl ?_
  refine zw_s (pc' := 20) rfl rfl ?_
  refine zw_s (pc' := 21) rfl rfl ?_
  refine zw_bne1 (g := 26) (pc' := 24) rfl rfl rfl rfl (fun hb => ?_) (fun hb => ?_)
  · rcases t with t | t
    · exact absurd t.1 hb
    refine zw_ld (n := 1) (k := 2) (f := zp_isI) (pc' := 27) rfl rfl rfl rfl rfl ?_
    refine zw_s (pc' := 59) rfl rfl ?_
    refine zw_ld (n := 1) (k := 1) (f := zp_isI) (pc' := 60) rfl rfl rfl rfl rfl ?_
    refine zw_s (pc' := 61) rfl rfl ?_
    refine zw_iadd (pc' := 62) rfl rfl ?_
    have e : (xc + Int32.ofInt 1).toInt = xc.toInt + 1 := zw_p1 (by omega)
    refine zw_ri rfl rfl ?_
    exact x_rv (Int32.toInt_inj.mp (by rw [x_of (by have := (xBe_64 (c := xc.toInt) (d := 1) hS).1; omega) (by have := (xBe_64 (c := xc.toInt) (d := 1) hS).2; omega), e, t.2.1]))
  · refine zw_s (pc' := 25) rfl rfl ?_
    refine zw_ri rfl rfl ?_
    rcases t with t | t
    · exact x_rv (by rw [t.2])
    · exact absurd hb t.1

theorem xc_nc2_2 {L : Nat} {σ : Nat → Int32} {d : Nat} {H : zp_H} {xc : Int32} {S : xSea} (W : zw_W H) (hS : xOk S) (hC : xSC 2 H S) (hc : xIn S xc.toInt) : zp_Call L σ (d + 1) 30 [.inr (.inr (some 3)), .inl xc, .inl (Int32.ofInt 2)] H (.inl (some (.inl (Int32.ofInt (xBe S.1 S.2.1 xc.toInt 2)))), H) := by
  have hw := hC.1
  have hh := hC.2.1
  have h8 := xIn_64 hS hc
  have hw8 := hS.1
  have t := xN_ok (w := H.2.1 2 0) (h := H.2.1 2 1) (c := xc) (k := 2) (by rw [hw]; exact hS.1) (by rw [hh]; exact hS.2.1) (by decide) hc.1 (by rw [hw, hh]; exact hc.2)
  rw [← hC.2.2.2.2 2 (by decide), hw, hh] at t
  have t : (zq_b (H.2.2.1 3 2) xc = 0 ∧ xBe S.1 S.2.1 xc.toInt 2 = -1) ∨ (zq_b (H.2.2.1 3 2) xc ≠ 0 ∧ xBe S.1 S.2.1 xc.toInt 2 = xc.toInt + S.1 ∧ xBe S.1 S.2.1 xc.toInt 2 ≠ -1) := t
  refine zw_ex (zw_met zm_30_t rfl rfl ?_)
  refine zw_ld (n := 1) (k := 2) (f := zp_isI) (pc' := 1) rfl rfl rfl rfl rfl ?_
  refine zw_blt1 (g := 24) (pc' := 4) rfl rfl rfl (rfl : _ = (2 : Int)) (fun h9 => absurd h9 (by decide)) (fun hb => ?_)
  refine zw_ld (n := 1) (k := 2) (f := zp_isI) (pc' := 5) rfl rfl rfl rfl rfl ?_
  refine zw_s (pc' := 6) rfl rfl ?_
  refine zw_bge2 (g := 24) (pc' := 9) rfl rfl rfl (rfl : _ = (2 : Int)) (rfl : _ = (4 : Int)) (fun h9 => absurd h9 (by decide)) (fun hb => ?_)
  refine zw_ld (n := 1) (k := 0) (f := zp_isR) (pc' := 10) rfl rfl rfl rfl rfl ?_
  refine zw_gR (q := 2) (pc' := 13) W rfl rfl rfl rfl (W.2 2 4 _ rfl) rfl ?_
  refine zw_ld (n := 1) (k := 2) (f := zp_isI) (pc' := 14) rfl rfl rfl rfl rfl ?_
  refine zw_la (q := 3) (pc' := 15) W rfl rfl (⟨by decide, by decide⟩) rfl ?_
  refine zw_ld (n := 1) (k := 1) (f := zp_isI) (pc' := 16) rfl rfl rfl rfl rfl ?_
  refine zw_lushr (pc' := 17) rfl rfl ?_
  refine zw_s (pc' := 18) rfl rfl ?_
  refine zw_land (pc' := 19) rfl rfl ?_
  refine zw_s (pc' := 20) rfl rfl ?_
  refine zw_s (pc' := 21) rfl rfl ?_
  refine zw_bne1 (g := 26) (pc' := 24) rfl rfl rfl rfl (fun hb => ?_) (fun hb => ?_)
  · rcases t with t | t
    · exact absurd t.1 hb
    refine zw_ld (n := 1) (k := 2) (f := zp_isI) (pc' := 27) rfl rfl rfl rfl rfl ?_
    refine zw_s (pc' := 63) rfl rfl ?_
    refine zw_ld (n := 1) (k := 1) (f := zp_isI) (pc' := 64) rfl rfl rfl rfl rfl ?_
    refine zw_ld (n := 1) (k := 0) (f := zp_isR) (pc' := 65) rfl rfl rfl rfl rfl ?_
    refine zw_gI (q := 2) (pc' := 68) W rfl rfl rfl rfl rfl rfl ?_
    refine zw_iadd (pc' := 69) rfl rfl ?_
    have e : (xc + H.2.1 2 0).toInt = xc.toInt + (H.2.1 2 0).toInt := zq_add (by omega) (by omega)
    refine zw_ri rfl rfl ?_
    exact x_rv (Int32.toInt_inj.mp (by rw [x_of (by have := (xBe_64 (c := xc.toInt) (d := 2) hS).1; omega) (by have := (xBe_64 (c := xc.toInt) (d := 2) hS).2; omega), e, t.2.1, hw]))
  · refine zw_s (pc' := 25) rfl rfl ?_
    refine zw_ri rfl rfl ?_
    rcases t with t | t
    · exact x_rv (by rw [t.2])
    · exact absurd hb t.1

theorem xc_nc2_3 {L : Nat} {σ : Nat → Int32} {d : Nat} {H : zp_H} {xc : Int32} {S : xSea} (W : zw_W H) (hS : xOk S) (hC : xSC 2 H S) (hc : xIn S xc.toInt) : zp_Call L σ (d + 1) 30 [.inr (.inr (some 3)), .inl xc, .inl (Int32.ofInt 3)] H (.inl (some (.inl (Int32.ofInt (xBe S.1 S.2.1 xc.toInt 3)))), H) := by
  have hw := hC.1
  have hh := hC.2.1
  have h8 := xIn_64 hS hc
  have hw8 := hS.1
  have t := xN_ok (w := H.2.1 2 0) (h := H.2.1 2 1) (c := xc) (k := 3) (by rw [hw]; exact hS.1) (by rw [hh]; exact hS.2.1) (by decide) hc.1 (by rw [hw, hh]; exact hc.2)
  rw [← hC.2.2.2.2 3 (by decide), hw, hh] at t
  have t : (zq_b (H.2.2.1 3 3) xc = 0 ∧ xBe S.1 S.2.1 xc.toInt 3 = -1) ∨ (zq_b (H.2.2.1 3 3) xc ≠ 0 ∧ xBe S.1 S.2.1 xc.toInt 3 = xc.toInt - 1 ∧ xBe S.1 S.2.1 xc.toInt 3 ≠ -1) := t
  refine zw_ex (zw_met zm_30_t rfl rfl ?_)
  refine zw_ld (n := 1) (k := 2) (f := zp_isI) (pc' := 1) rfl rfl rfl rfl rfl ?_
  refine zw_blt1 (g := 24) (pc' := 4) rfl rfl rfl (rfl : _ = (3 : Int)) (fun h9 => absurd h9 (by decide)) (fun hb => ?_)
  refine zw_ld (n := 1) (k := 2) (f := zp_isI) (pc' := 5) rfl rfl rfl rfl rfl ?_
  refine zw_s (pc' := 6) rfl rfl ?_
  refine zw_bge2 (g := 24) (pc' := 9) rfl rfl rfl (rfl : _ = (3 : Int)) (rfl : _ = (4 : Int)) (fun h9 => absurd h9 (by decide)) (fun hb => ?_)
  refine zw_ld (n := 1) (k := 0) (f := zp_isR) (pc' := 10) rfl rfl rfl rfl rfl ?_
  refine zw_gR (q := 2) (pc' := 13) W rfl rfl rfl rfl (W.2 2 4 _ rfl) rfl ?_
  refine zw_ld (n := 1) (k := 2) (f := zp_isI) (pc' := 14) rfl rfl rfl rfl rfl ?_
  refine zw_la (q := 3) (pc' := 15) W rfl rfl (⟨by decide, by decide⟩) rfl ?_
  refine zw_ld (n := 1) (k := 1) (f := zp_isI) (pc' := 16) rfl rfl rfl rfl rfl ?_
  refine zw_lushr (pc' := 17) rfl rfl ?_
  refine zw_s (pc' := 18) rfl rfl ?_
  refine zw_land (pc' := 19) rfl rfl ?_
  refine zw_s (pc' := 20) rfl rfl ?_
  refine zw_s (pc' := 21) rfl rfl ?_
  refine zw_bne1 (g := 26) (pc' := 24) rfl rfl rfl rfl (fun hb => ?_) (fun hb => ?_)
  · rcases t with t | t
    · exact absurd t.1 hb
    refine zw_ld (n := 1) (k := 2) (f := zp_isI) (pc' := 27) rfl rfl rfl rfl rfl ?_
    refine zw_s (pc' := 70) rfl rfl ?_
    refine zw_ld (n := 1) (k := 1) (f := zp_isI) (pc' := 71) rfl rfl rfl rfl rfl ?_
    refine zw_s (pc' := 72) rfl rfl ?_
    refine zw_isub (pc' := 73) rfl rfl ?_
    have e : (xc - Int32.ofInt 1).toInt = xc.toInt - 1 := zw_m1 (by omega)
    refine zw_ri rfl rfl ?_
    exact x_rv (Int32.toInt_inj.mp (by rw [x_of (by have := (xBe_64 (c := xc.toInt) (d := 3) hS).1; omega) (by have := (xBe_64 (c := xc.toInt) (d := 3) hS).2; omega), e, t.2.1]))
  · refine zw_s (pc' := 25) rfl rfl ?_
    refine zw_ri rfl rfl ?_
    rcases t with t | t
    · exact x_rv (by rw [t.2])
    · exact absurd hb t.1

theorem xc_nc2_x {L : Nat} {σ : Nat → Int32} {d : Nat} {H : zp_H} {xc : Int32} (W : zw_W H) : zp_Call L σ (d + 1) 30 [.inr (.inr (some 3)), .inl xc, .inl (Int32.ofInt (-1))] H (.inl (some (.inl (Int32.ofInt (-1)))), H) := by
  refine zw_ex (zw_met zm_30_t rfl rfl ?_)
  refine zw_ld (n := 1) (k := 2) (f := zp_isI) (pc' := 1) rfl rfl rfl rfl rfl ?_
  refine zw_blt1 (g := 24) (pc' := 4) rfl rfl rfl (rfl : _ = (-1 : Int)) (fun hb => ?_) (fun h9 => absurd h9 (by decide))
  refine zw_s (pc' := 25) rfl rfl ?_
  refine zw_ri rfl rfl ?_
  rfl

theorem xc_nc2 {L : Nat} {σ : Nat → Int32} {d : Nat} {H : zp_H} {xc xw : Int32} {S : xSea} (W : zw_W H) (hS : xOk S) (hC : xSC 2 H S) (hc : xIn S xc.toInt) (hd : -1 ≤ xw.toInt ∧ xw.toInt ≤ 3) : zp_Call L σ (d + 1) 30 [.inr (.inr (some 3)), .inl xc, .inl xw] H (.inl (some (.inl (Int32.ofInt (if xw.toInt = -1 then -1 else xBe S.1 S.2.1 xc.toInt xw.toInt)))), H) := by
  by_cases h0 : xw.toInt = -1
  · obtain rfl : xw = Int32.ofInt (-1) := Int32.toInt_inj.mp h0
    rw [h0]
    rw [if_pos rfl]
    exact xc_nc2_x W
  by_cases h1 : xw.toInt = 0
  · obtain rfl : xw = Int32.ofInt 0 := Int32.toInt_inj.mp h1
    rw [h1]
    rw [if_neg (by decide)]
    exact xc_nc2_0 W hS hC hc
  by_cases h2 : xw.toInt = 1
  · obtain rfl : xw = Int32.ofInt 1 := Int32.toInt_inj.mp h2
    rw [h2]
    rw [if_neg (by decide)]
    exact xc_nc2_1 W hS hC hc
  by_cases h3 : xw.toInt = 2
  · obtain rfl : xw = Int32.ofInt 2 := Int32.toInt_inj.mp h3
    rw [h3]
    rw [if_neg (by decide)]
    exact xc_nc2_2 W hS hC hc
  by_cases h4 : xw.toInt = 3
  · obtain rfl : xw = Int32.ofInt 3 := Int32.toInt_inj.mp h4
    rw [h4]
    rw [if_neg (by decide)]
    exact xc_nc2_3 W hS hC hc
  omega

theorem xc_dr2 {L : Nat} {σ : Nat → Int32} {d : Nat} {H : zp_H} {x1 x2 : Int32} {S : xSea} (W : zw_W H) (hS : xOk S) (hC : xSC 2 H S) (hc : xIn S x1.toInt) : zp_Call L σ (d + 2) 33 [.inr (.inr (some 3)), .inl x1, .inl x2] H (.inl (some (.inl (Int32.ofInt (xDr S x1.toInt x2.toInt true)))), H) := by
  have h8 := xIn_64 hS hc
  have hcu : (H.2.1 4 x1.toInt.toNat).toInt = S.2.2.2 x1.toInt.toNat := hC.2.2.2.1 _ (by omega)
  have hb := hS.2.2 x1.toInt.toNat
  refine zw_ex (zw_met zm_33_t rfl rfl ?_)
  refine zw_ld (n := 1) (k := 2) (f := zp_isI) (pc' := 1) rfl rfl rfl rfl rfl ?_
  refine zw_s (pc' := 2) rfl rfl ?_
  refine zw_iand (pc' := 3) rfl rfl ?_
  refine zw_bne1 (g := 20) (pc' := 6) rfl rfl rfl rfl (fun h1 => ?_) (fun h1 => ?_)
  · refine zw_s (pc' := 21) rfl rfl ?_
    refine zw_ri rfl rfl ?_
    exact x_rv (congrArg Int32.ofInt (show _ = xDr S x1.toInt x2.toInt true from (if_neg (fun h9 => h1 (x_ev.mpr h9.2.1))).symm))
  · refine zw_ld (n := 1) (k := 0) (f := zp_isR) (pc' := 7) rfl rfl rfl rfl rfl ?_
    refine zw_ld (n := 1) (k := 1) (f := zp_isI) (pc' := 8) rfl rfl rfl rfl rfl ?_
    refine zw_ld (n := 1) (k := 0) (f := zp_isR) (pc' := 9) rfl rfl rfl rfl rfl ?_
    refine zw_gR (q := 2) (pc' := 12) W rfl rfl rfl rfl (W.2 2 5 _ rfl) rfl ?_
    refine zw_ld (n := 1) (k := 1) (f := zp_isI) (pc' := 13) rfl rfl rfl rfl rfl ?_
    refine zw_ia (q := 4) (pc' := 14) W rfl rfl (by decide) (⟨hc.1, by show x1.toInt < ((64 : Nat) : Int); omega⟩) rfl rfl ?_
    refine zw_c (pc' := 17) (zw_cv (q := 2) (Y := zm_30) W.1 rfl rfl zm_30_t rfl rfl) rfl rfl rfl rfl rfl (xc_nc2 W hS hC hc (by rw [hcu]; exact hb)) ?_
    refine zw_s (pc' := 21) rfl rfl ?_
    refine zw_ri rfl rfl ?_
    refine x_rv (congrArg Int32.ofInt ?_)
    rw [hcu]
    by_cases h5 : S.2.2.2 x1.toInt.toNat = -1
    · rw [if_pos h5]
      exact (show xDr S x1.toInt x2.toInt true = -1 from if_neg (fun h9 => h9.2.2 h5)).symm
    · rw [if_neg h5]
      exact (show xDr S x1.toInt x2.toInt true = xBe S.1 S.2.1 x1.toInt (S.2.2.2 x1.toInt.toNat) from if_pos ⟨rfl, x_ev.mp h1, h5⟩).symm

theorem xc_nc22_0 {L : Nat} {σ : Nat → Int32} {d : Nat} {H : zp_H} {xc : Int32} {S : xSea} (W : zw_W H) (hS : xOk S) (hC : xSC 22 H S) (hc : xIn S xc.toInt) : zp_Call L σ (d + 1) 30 [.inr (.inr (some 23)), .inl xc, .inl (Int32.ofInt 0)] H (.inl (some (.inl (Int32.ofInt (xBe S.1 S.2.1 xc.toInt 0)))), H) := by
  have hw := hC.1
  have hh := hC.2.1
  have h8 := xIn_64 hS hc
  have hw8 := hS.1
  have t := xN_ok (w := H.2.1 22 0) (h := H.2.1 22 1) (c := xc) (k := 0) (by rw [hw]; exact hS.1) (by rw [hh]; exact hS.2.1) (by decide) hc.1 (by rw [hw, hh]; exact hc.2)
  rw [← hC.2.2.2.2 0 (by decide), hw, hh] at t
  have t : (zq_b (H.2.2.1 23 0) xc = 0 ∧ xBe S.1 S.2.1 xc.toInt 0 = -1) ∨ (zq_b (H.2.2.1 23 0) xc ≠ 0 ∧ xBe S.1 S.2.1 xc.toInt 0 = xc.toInt - S.1 ∧ xBe S.1 S.2.1 xc.toInt 0 ≠ -1) := t
  refine zw_ex (zw_met zm_30_t rfl rfl ?_)
  refine zw_ld (n := 1) (k := 2) (f := zp_isI) (pc' := 1) rfl rfl rfl rfl rfl ?_
  refine zw_blt1 (g := 24) (pc' := 4) rfl rfl rfl (rfl : _ = (0 : Int)) (fun h9 => absurd h9 (by decide)) (fun hb => ?_)
  refine zw_ld (n := 1) (k := 2) (f := zp_isI) (pc' := 5) rfl rfl rfl rfl rfl ?_
  refine zw_s (pc' := 6) rfl rfl ?_
  refine zw_bge2 (g := 24) (pc' := 9) rfl rfl rfl (rfl : _ = (0 : Int)) (rfl : _ = (4 : Int)) (fun h9 => absurd h9 (by decide)) (fun hb => ?_)
  refine zw_ld (n := 1) (k := 0) (f := zp_isR) (pc' := 10) rfl rfl rfl rfl rfl ?_
  refine zw_gR (q := 22) (pc' := 13) W rfl rfl rfl rfl (W.2 22 4 _ rfl) rfl ?_
  refine zw_ld (n := 1) (k := 2) (f := zp_isI) (pc' := 14) rfl rfl rfl rfl rfl ?_
  refine zw_la (q := 23) (pc' := 15) W rfl rfl (⟨by decide, by decide⟩) rfl ?_
  refine zw_ld (n := 1) (k := 1) (f := zp_isI) (pc' := 16) rfl rfl rfl rfl rfl ?_
  refine zw_lushr (pc' := 17) rfl rfl ?_
  refine zw_s (pc' := 18) rfl rfl ?_
  refine zw_land (pc' := 19) rfl rfl ?_
  refine zw_s (pc' := 20) rfl rfl ?_
  refine zw_s (pc' := 21) rfl rfl ?_
  refine zw_bne1 (g := 26) (pc' := 24) rfl rfl rfl rfl (fun hb => ?_) (fun hb => ?_)
  · rcases t with t | t
    · exact absurd t.1 hb
    refine zw_ld (n := 1) (k := 2) (f := zp_isI) (pc' := 27) rfl rfl rfl rfl rfl ?_
    refine zw_s (pc' := 52) rfl rfl ?_
    refine zw_ld (n := 1) (k := 1) (f := zp_isI) (pc' := 53) rfl rfl rfl rfl rfl ?_
    refine zw_ld (n := 1) (k := 0) (f := zp_isR) (pc' := 54) rfl rfl rfl rfl rfl ?_
    refine zw_gI (q := 22) (pc' := 57) W rfl rfl rfl rfl rfl rfl ?_
    refine zw_isub (pc' := 58) rfl rfl ?_
    have e : (xc - H.2.1 22 0).toInt = xc.toInt - (H.2.1 22 0).toInt := zq_sub (by omega) (by omega)
    refine zw_ri rfl rfl ?_
    exact x_rv (Int32.toInt_inj.mp (by rw [x_of (by have := (xBe_64 (c := xc.toInt) (d := 0) hS).1; omega) (by have := (xBe_64 (c := xc.toInt) (d := 0) hS).2; omega), e, t.2.1, hw]))
  · refine zw_s (pc' := 25) rfl rfl ?_
    refine zw_ri rfl rfl ?_
    rcases t with t | t
    · exact x_rv (by rw [t.2])
    · exact absurd hb t.1

theorem xc_nc22_1 {L : Nat} {σ : Nat → Int32} {d : Nat} {H : zp_H} {xc : Int32} {S : xSea} (W : zw_W H) (hS : xOk S) (hC : xSC 22 H S) (hc : xIn S xc.toInt) : zp_Call L σ (d + 1) 30 [.inr (.inr (some 23)), .inl xc, .inl (Int32.ofInt 1)] H (.inl (some (.inl (Int32.ofInt (xBe S.1 S.2.1 xc.toInt 1)))), H) := by
  have hw := hC.1
  have hh := hC.2.1
  have h8 := xIn_64 hS hc
  have hw8 := hS.1
  have t := xN_ok (w := H.2.1 22 0) (h := H.2.1 22 1) (c := xc) (k := 1) (by rw [hw]; exact hS.1) (by rw [hh]; exact hS.2.1) (by decide) hc.1 (by rw [hw, hh]; exact hc.2)
  rw [← hC.2.2.2.2 1 (by decide), hw, hh] at t
  have t : (zq_b (H.2.2.1 23 1) xc = 0 ∧ xBe S.1 S.2.1 xc.toInt 1 = -1) ∨ (zq_b (H.2.2.1 23 1) xc ≠ 0 ∧ xBe S.1 S.2.1 xc.toInt 1 = xc.toInt + 1 ∧ xBe S.1 S.2.1 xc.toInt 1 ≠ -1) := t
  refine zw_ex (zw_met zm_30_t rfl rfl ?_)
  refine zw_ld (n := 1) (k := 2) (f := zp_isI) (pc' := 1) rfl rfl rfl rfl rfl ?_
  refine zw_blt1 (g := 24) (pc' := 4) rfl rfl rfl (rfl : _ = (1 : Int)) (fun h9 => absurd h9 (by decide)) (fun hb => ?_)
  refine zw_ld (n := 1) (k := 2) (f := zp_isI) (pc' := 5) rfl rfl rfl rfl rfl ?_
  refine zw_s (pc' := 6) rfl rfl ?_
  refine zw_bge2 (g := 24) (pc' := 9) rfl rfl rfl (rfl : _ = (1 : Int)) (rfl : _ = (4 : Int)) (fun h9 => absurd h9 (by decide)) (fun hb => ?_)
  refine zw_ld (n := 1) (k := 0) (f := zp_isR) (pc' := 10) rfl rfl rfl rfl rfl ?_
  refine zw_gR (q := 22) (pc' := 13) W rfl rfl rfl rfl (W.2 22 4 _ rfl) rfl ?_
  refine zw_ld (n := 1) (k := 2) (f := zp_isI) (pc' := 14) rfl rfl rfl rfl rfl ?_
  refine zw_la (q := 23) (pc' := 15) W rfl rfl (⟨by decide, by decide⟩) rfl ?_
  refine zw_ld (n := 1) (k := 1) (f := zp_isI) (pc' := 16) rfl rfl rfl rfl rfl ?_
  refine zw_lushr (pc' := 17) rfl rfl ?_
  refine zw_s (pc' := 18) rfl rfl ?_
  refine zw_land (pc' := 19) rfl rfl ?_
  refine zw_s (pc' := 20) rfl rfl ?_
  refine zw_s (pc' := 21) rfl rfl ?_
  refine zw_bne1 (g := 26) (pc' := 24) rfl rfl rfl rfl (fun hb => ?_) (fun hb => ?_)
  · rcases t with t | t
    · exact absurd t.1 hb
    refine zw_ld (n := 1) (k := 2) (f := zp_isI) (pc' := 27) rfl rfl rfl rfl rfl ?_
    refine zw_s (pc' := 59) rfl rfl ?_
    refine zw_ld (n := 1) (k := 1) (f := zp_isI) (pc' := 60) rfl rfl rfl rfl rfl ?_
    refine zw_s (pc' := 61) rfl rfl ?_
    refine zw_iadd (pc' := 62) rfl rfl ?_
    have e : (xc + Int32.ofInt 1).toInt = xc.toInt + 1 := zw_p1 (by omega)
    refine zw_ri rfl rfl ?_
    exact x_rv (Int32.toInt_inj.mp (by rw [x_of (by have := (xBe_64 (c := xc.toInt) (d := 1) hS).1; omega) (by have := (xBe_64 (c := xc.toInt) (d := 1) hS).2; omega), e, t.2.1]))
  · refine zw_s (pc' := 25) rfl rfl ?_
    refine zw_ri rfl rfl ?_
    rcases t with t | t
    · exact x_rv (by rw [t.2])
    · exact absurd hb t.1

theorem xc_nc22_2 {L : Nat} {σ : Nat → Int32} {d : Nat} {H : zp_H} {xc : Int32} {S : xSea} (W : zw_W H) (hS : xOk S) (hC : xSC 22 H S) (hc : xIn S xc.toInt) : zp_Call L σ (d + 1) 30 [.inr (.inr (some 23)), .inl xc, .inl (Int32.ofInt 2)] H (.inl (some (.inl (Int32.ofInt (xBe S.1 S.2.1 xc.toInt 2)))), H) := by
  have hw := hC.1
  have hh := hC.2.1
  have h8 := xIn_64 hS hc
  have hw8 := hS.1
  have t := xN_ok (w := H.2.1 22 0) (h := H.2.1 22 1) (c := xc) (k := 2) (by rw [hw]; exact hS.1) (by rw [hh]; exact hS.2.1) (by decide) hc.1 (by rw [hw, hh]; exact hc.2)
  rw [← hC.2.2.2.2 2 (by decide), hw, hh] at t
  have t : (zq_b (H.2.2.1 23 2) xc = 0 ∧ xBe S.1 S.2.1 xc.toInt 2 = -1) ∨ (zq_b (H.2.2.1 23 2) xc ≠ 0 ∧ xBe S.1 S.2.1 xc.toInt 2 = xc.toInt + S.1 ∧ xBe S.1 S.2.1 xc.toInt 2 ≠ -1) := t
  refine zw_ex (zw_met zm_30_t rfl rfl ?_)
  refine zw_ld (n := 1) (k := 2) (f := zp_isI) (pc' := 1) rfl rfl rfl rfl rfl ?_
  refine zw_blt1 (g := 24) (pc' := 4) rfl rfl rfl (rfl : _ = (2 : Int)) (fun h9 => absurd h9 (by decide)) (fun hb => ?_)
  refine zw_ld (n := 1) (k := 2) (f := zp_isI) (pc' := 5) rfl rfl rfl rfl rfl ?_
  refine zw_s (pc' := 6) rfl rfl ?_
  refine zw_bge2 (g := 24) (pc' := 9) rfl rfl rfl (rfl : _ = (2 : Int)) (rfl : _ = (4 : Int)) (fun h9 => absurd h9 (by decide)) (fun hb => ?_)
  refine zw_ld (n := 1) (k := 0) (f := zp_isR) (pc' := 10) rfl rfl rfl rfl rfl ?_
  refine zw_gR (q := 22) (pc' := 13) W rfl rfl rfl rfl (W.2 22 4 _ rfl) rfl ?_
  refine zw_ld (n := 1) (k := 2) (f := zp_isI) (pc' := 14) rfl rfl rfl rfl rfl ?_
  refine zw_la (q := 23) (pc' := 15) W rfl rfl (⟨by decide, by decide⟩) rfl ?_
  refine zw_ld (n := 1) (k := 1) (f := zp_isI) (pc' := 16) rfl rfl rfl rfl rfl ?_
  refine zw_lushr (pc' := 17) rfl rfl ?_
  refine zw_s (pc' := 18) rfl rfl ?_
  refine zw_land (pc' := 19) rfl rfl ?_
  refine zw_s (pc' := 20) rfl rfl ?_
  refine zw_s (pc' := 21) rfl rfl ?_
  refine zw_bne1 (g := 26) (pc' := 24) rfl rfl rfl rfl (fun hb => ?_) (fun hb => ?_)
  · rcases t with t | t
    · exact absurd t.1 hb
    refine zw_ld (n := 1) (k := 2) (f := zp_isI) (pc' := 27) rfl rfl rfl rfl rfl ?_
    refine zw_s (pc' := 63) rfl rfl ?_
    refine zw_ld (n := 1) (k := 1) (f := zp_isI) (pc' := 64) rfl rfl rfl rfl rfl ?_
    refine zw_ld (n := 1) (k := 0) (f := zp_isR) (pc' := 65) rfl rfl rfl rfl rfl ?_
    refine zw_gI (q := 22) (pc' := 68) W rfl rfl rfl rfl rfl rfl ?_
    refine zw_iadd (pc' := 69) rfl rfl ?_
    have e : (xc + H.2.1 22 0).toInt = xc.toInt + (H.2.1 22 0).toInt := zq_add (by omega) (by omega)
    refine zw_ri rfl rfl ?_
    exact x_rv (Int32.toInt_inj.mp (by rw [x_of (by have := (xBe_64 (c := xc.toInt) (d := 2) hS).1; omega) (by have := (xBe_64 (c := xc.toInt) (d := 2) hS).2; omega), e, t.2.1, hw]))
  · refine zw_s (pc' := 25) rfl rfl ?_
    refine zw_ri rfl rfl ?_
    rcases t with t | t
    · exact x_rv (by rw [t.2])
    · exact absurd hb t.1

theorem xc_nc22_3 {L : Nat} {σ : Nat → Int32} {d : Nat} {H : zp_H} {xc : Int32} {S : xSea} (W : zw_W H) (hS : xOk S) (hC : xSC 22 H S) (hc : xIn S xc.toInt) : zp_Call L σ (d + 1) 30 [.inr (.inr (some 23)), .inl xc, .inl (Int32.ofInt 3)] H (.inl (some (.inl (Int32.ofInt (xBe S.1 S.2.1 xc.toInt 3)))), H) := by
  have hw := hC.1
  have hh := hC.2.1
  have h8 := xIn_64 hS hc
  have hw8 := hS.1
  have t := xN_ok (w := H.2.1 22 0) (h := H.2.1 22 1) (c := xc) (k := 3) (by rw [hw]; exact hS.1) (by rw [hh]; exact hS.2.1) (by decide) hc.1 (by rw [hw, hh]; exact hc.2)
  rw [← hC.2.2.2.2 3 (by decide), hw, hh] at t
  have t : (zq_b (H.2.2.1 23 3) xc = 0 ∧ xBe S.1 S.2.1 xc.toInt 3 = -1) ∨ (zq_b (H.2.2.1 23 3) xc ≠ 0 ∧ xBe S.1 S.2.1 xc.toInt 3 = xc.toInt - 1 ∧ xBe S.1 S.2.1 xc.toInt 3 ≠ -1) := t
  refine zw_ex (zw_met zm_30_t rfl rfl ?_)
  refine zw_ld (n := 1) (k := 2) (f := zp_isI) (pc' := 1) rfl rfl rfl rfl rfl ?_
  refine zw_blt1 (g := 24) (pc' := 4) rfl rfl rfl (rfl : _ = (3 : Int)) (fun h9 => absurd h9 (by decide)) (fun hb => ?_)
  refine zw_ld (n := 1) (k := 2) (f := zp_isI) (pc' := 5) rfl rfl rfl rfl rfl ?_
  refine zw_s (pc' := 6) rfl rfl ?_
  refine zw_bge2 (g := 24) (pc' := 9) rfl rfl rfl (rfl : _ = (3 : Int)) (rfl : _ = (4 : Int)) (fun h9 => absurd h9 (by decide)) (fun hb => ?_)
  refine zw_ld (n := 1) (k := 0) (f := zp_isR) (pc' := 10) rfl rfl rfl rfl rfl ?_
  refine zw_gR (q := 22) (pc' := 13) W rfl rfl rfl rfl (W.2 22 4 _ rfl) rfl ?_
  refine zw_ld (n := 1) (k := 2) (f := zp_isI) (pc' := 14) rfl rfl rfl rfl rfl ?_
  refine zw_la (q := 23) (pc' := 15) W rfl rfl (⟨by decide, by decide⟩) rfl ?_
  refine zw_ld (n := 1) (k := 1) (f := zp_isI) (pc' := 16) rfl rfl rfl rfl rfl ?_
  refine zw_lushr (pc' := 17) rfl rfl ?_
  refine zw_s (pc' := 18) rfl rfl ?_
  refine zw_land (pc' := 19) rfl rfl ?_
  refine zw_s (pc' := 20) rfl rfl ?_
  refine zw_s (pc' := 21) rfl rfl ?_
  refine zw_bne1 (g := 26) (pc' := 24) rfl rfl rfl rfl (fun hb => ?_) (fun hb => ?_)
  · rcases t with t | t
    · exact absurd t.1 hb
    refine zw_ld (n := 1) (k := 2) (f := zp_isI) (pc' := 27) rfl rfl rfl rfl rfl ?_
    refine zw_s (pc' := 70) rfl rfl ?_
    refine zw_ld (n := 1) (k := 1) (f := zp_isI) (pc' := 71) rfl rfl rfl rfl rfl ?_
    refine zw_s (pc' := 72) rfl rfl ?_
    refine zw_isub (pc' := 73) rfl rfl ?_
    have e : (xc - Int32.ofInt 1).toInt = xc.toInt - 1 := zw_m1 (by omega)
    refine zw_ri rfl rfl ?_
    exact x_rv (Int32.toInt_inj.mp (by rw [x_of (by have := (xBe_64 (c := xc.toInt) (d := 3) hS).1; omega) (by have := (xBe_64 (c := xc.toInt) (d := 3) hS).2; omega), e, t.2.1]))
  · refine zw_s (pc' := 25) rfl rfl ?_
    refine zw_ri rfl rfl ?_
    rcases t with t | t
    · exact x_rv (by rw [t.2])
    · exact absurd hb t.1

theorem xc_nc22_x {L : Nat} {σ : Nat → Int32} {d : Nat} {H : zp_H} {xc : Int32} (W : zw_W H) : zp_Call L σ (d + 1) 30 [.inr (.inr (some 23)), .inl xc, .inl (Int32.ofInt (-1))] H (.inl (some (.inl (Int32.ofInt (-1)))), H) := by
  refine zw_ex (zw_met zm_30_t rfl rfl ?_)
  refine zw_ld (n := 1) (k := 2) (f := zp_isI) (pc' := 1) rfl rfl rfl rfl rfl ?_
  refine zw_blt1 (g := 24) (pc' := 4) rfl rfl rfl (rfl : _ = (-1 : Int)) (fun hb => ?_) (fun h9 => absurd h9 (by decide))
  refine zw_s (pc' := 25) rfl rfl ?_
  refine zw_ri rfl rfl ?_
  rfl

theorem xc_nc22 {L : Nat} {σ : Nat → Int32} {d : Nat} {H : zp_H} {xc xw : Int32} {S : xSea} (W : zw_W H) (hS : xOk S) (hC : xSC 22 H S) (hc : xIn S xc.toInt) (hd : -1 ≤ xw.toInt ∧ xw.toInt ≤ 3) : zp_Call L σ (d + 1) 30 [.inr (.inr (some 23)), .inl xc, .inl xw] H (.inl (some (.inl (Int32.ofInt (if xw.toInt = -1 then -1 else xBe S.1 S.2.1 xc.toInt xw.toInt)))), H) := by
  by_cases h0 : xw.toInt = -1
  · obtain rfl : xw = Int32.ofInt (-1) := Int32.toInt_inj.mp h0
    rw [h0]
    rw [if_pos rfl]
    exact xc_nc22_x W
  by_cases h1 : xw.toInt = 0
  · obtain rfl : xw = Int32.ofInt 0 := Int32.toInt_inj.mp h1
    rw [h1]
    rw [if_neg (by decide)]
    exact xc_nc22_0 W hS hC hc
  by_cases h2 : xw.toInt = 1
  · obtain rfl : xw = Int32.ofInt 1 := Int32.toInt_inj.mp h2
    rw [h2]
    rw [if_neg (by decide)]
    exact xc_nc22_1 W hS hC hc
  by_cases h3 : xw.toInt = 2
  · obtain rfl : xw = Int32.ofInt 2 := Int32.toInt_inj.mp h3
    rw [h3]
    rw [if_neg (by decide)]
    exact xc_nc22_2 W hS hC hc
  by_cases h4 : xw.toInt = 3
  · obtain rfl : xw = Int32.ofInt 3 := Int32.toInt_inj.mp h4
    rw [h4]
    rw [if_neg (by decide)]
    exact xc_nc22_3 W hS hC hc
  omega

theorem xc_dr22 {L : Nat} {σ : Nat → Int32} {d : Nat} {H : zp_H} {x1 x2 : Int32} {S : xSea} (W : zw_W H) (hS : xOk S) (hC : xSC 22 H S) (hc : xIn S x1.toInt) : zp_Call L σ (d + 2) 33 [.inr (.inr (some 23)), .inl x1, .inl x2] H (.inl (some (.inl (Int32.ofInt (xDr S x1.toInt x2.toInt true)))), H) := by
  have h8 := xIn_64 hS hc
  have hcu : (H.2.1 24 x1.toInt.toNat).toInt = S.2.2.2 x1.toInt.toNat := hC.2.2.2.1 _ (by omega)
  have hb := hS.2.2 x1.toInt.toNat
  refine zw_ex (zw_met zm_33_t rfl rfl ?_)
  refine zw_ld (n := 1) (k := 2) (f := zp_isI) (pc' := 1) rfl rfl rfl rfl rfl ?_
  refine zw_s (pc' := 2) rfl rfl ?_
  refine zw_iand (pc' := 3) rfl rfl ?_
  refine zw_bne1 (g := 20) (pc' := 6) rfl rfl rfl rfl (fun h1 => ?_) (fun h1 => ?_)
  · refine zw_s (pc' := 21) rfl rfl ?_
    refine zw_ri rfl rfl ?_
    exact x_rv (congrArg Int32.ofInt (show _ = xDr S x1.toInt x2.toInt true from (if_neg (fun h9 => h1 (x_ev.mpr h9.2.1))).symm))
  · refine zw_ld (n := 1) (k := 0) (f := zp_isR) (pc' := 7) rfl rfl rfl rfl rfl ?_
    refine zw_ld (n := 1) (k := 1) (f := zp_isI) (pc' := 8) rfl rfl rfl rfl rfl ?_
    refine zw_ld (n := 1) (k := 0) (f := zp_isR) (pc' := 9) rfl rfl rfl rfl rfl ?_
    refine zw_gR (q := 22) (pc' := 12) W rfl rfl rfl rfl (W.2 22 5 _ rfl) rfl ?_
    refine zw_ld (n := 1) (k := 1) (f := zp_isI) (pc' := 13) rfl rfl rfl rfl rfl ?_
    refine zw_ia (q := 24) (pc' := 14) W rfl rfl (by decide) (⟨hc.1, by show x1.toInt < ((64 : Nat) : Int); omega⟩) rfl rfl ?_
    refine zw_c (pc' := 17) (zw_cv (q := 22) (Y := zm_30) W.1 rfl rfl zm_30_t rfl rfl) rfl rfl rfl rfl rfl (xc_nc22 W hS hC hc (by rw [hcu]; exact hb)) ?_
    refine zw_s (pc' := 21) rfl rfl ?_
    refine zw_ri rfl rfl ?_
    refine x_rv (congrArg Int32.ofInt ?_)
    rw [hcu]
    by_cases h5 : S.2.2.2 x1.toInt.toNat = -1
    · rw [if_pos h5]
      exact (show xDr S x1.toInt x2.toInt true = -1 from if_neg (fun h9 => h9.2.2 h5)).symm
    · rw [if_neg h5]
      exact (show xDr S x1.toInt x2.toInt true = xBe S.1 S.2.1 x1.toInt (S.2.2.2 x1.toInt.toNat) from if_pos ⟨rfl, x_ev.mp h1, h5⟩).symm

theorem xc54_g0_2 {L : Nat} {σ : Nat → Int32} {d : Nat} {H : zp_H} {x b : Int32} (W : zw_W H) (h : x.toInt = -1) : zp_Call L σ (d + 2) 31 [.inr (.inr (some 55)), .inr (.inr (some 3)), .inl x, .inl b] H (.inl none, zw_I H 54 2 (Int32.ofInt 3)) := by
  refine zw_ex (zw_met zm_31_t rfl rfl ?_)
  refine zw_ld (n := 1) (k := 2) (f := zp_isI) (pc' := 1) rfl rfl rfl rfl rfl ?_
  refine zw_s (pc' := 2) rfl rfl ?_
  refine zw_bne2 (g := 11) (pc' := 5) rfl rfl rfl rfl (rfl : _ = (-1 : Int)) (fun h1 => ?_) (fun h1 => ?_)
  · exact absurd h h1
  · refine zw_ld (n := 1) (k := 0) (f := zp_isR) (pc' := 6) rfl rfl rfl rfl rfl ?_
    refine zw_s (pc' := 7) rfl rfl ?_
    refine zw_pI (q := 54) (pc' := 10) W rfl rfl rfl rfl rfl rfl ?_
    refine zw_rn rfl rfl ?_
    rfl

theorem xc54_g1_2 {L : Nat} {σ : Nat → Int32} {d : Nat} {H : zp_H} {x b : Int32} (W : zw_W H) (hx : 0 ≤ x.toInt ∧ x.toInt ≤ 63) (hr : yTb (H.2.2.1 2 3) x.toInt.toNat = true) : zp_Call L σ (d + 2) 31 [.inr (.inr (some 55)), .inr (.inr (some 3)), .inl x, .inl b] H (.inl none, zw_I (zw_I H 54 0 x) 54 2 b) := by
  have q1 := yc_isr2 (L := L) (σ := σ) (d := d) (H := zw_I H 54 0 x) (zw_W_I W) hx
  rw [if_pos (show (yTb ((zw_I H 54 0 x).2.2.1 2 3) x.toInt.toNat = true) from hr)] at q1
  refine zw_ex (zw_met zm_31_t rfl rfl ?_)
  refine zw_ld (n := 1) (k := 2) (f := zp_isI) (pc' := 1) rfl rfl rfl rfl rfl ?_
  refine zw_s (pc' := 2) rfl rfl ?_
  refine zw_bne2 (g := 11) (pc' := 5) rfl rfl rfl rfl (rfl : _ = (-1 : Int)) (fun h1 => ?_) (fun h1 => ?_)
  · refine zw_ld (n := 1) (k := 0) (f := zp_isR) (pc' := 12) rfl rfl rfl rfl rfl ?_
    refine zw_ld (n := 1) (k := 2) (f := zp_isI) (pc' := 13) rfl rfl rfl rfl rfl ?_
    refine zw_pI (q := 54) (pc' := 16) W rfl rfl rfl rfl rfl rfl ?_
    refine zw_ld (n := 1) (k := 1) (f := zp_isR) (pc' := 17) rfl rfl rfl rfl rfl ?_
    refine zw_ld (n := 1) (k := 2) (f := zp_isI) (pc' := 18) rfl rfl rfl rfl rfl ?_
    refine zw_c (pc' := 21) (zw_cv (q := 2) (Y := zm_32) (zw_W_I W).1 rfl rfl zm_32_t rfl rfl) rfl rfl rfl rfl rfl (q1) ?_
    refine zw_beq1 (g := 32) (pc' := 24) rfl rfl rfl (rfl : _ = (1 : Int)) (fun h9 => absurd h9 (by decide)) (fun h2 => ?_)
    refine zw_ld (n := 1) (k := 0) (f := zp_isR) (pc' := 25) rfl rfl rfl rfl rfl ?_
    refine zw_ld (n := 1) (k := 3) (f := zp_isI) (pc' := 26) rfl rfl rfl rfl rfl ?_
    refine zw_pI (q := 54) (pc' := 29) (zw_W_I W) rfl rfl rfl rfl rfl rfl ?_
    refine zw_s (pc' := 45) rfl rfl ?_
    refine zw_rn rfl rfl ?_
    rfl
  · omega

theorem xc54_g2_2 {L : Nat} {σ : Nat → Int32} {d : Nat} {H : zp_H} {x b : Int32} (W : zw_W H) (hx : 0 ≤ x.toInt ∧ x.toInt ≤ 63) (hr : ¬ (yTb (H.2.2.1 2 3) x.toInt.toNat = true)) : zp_Call L σ (d + 2) 31 [.inr (.inr (some 55)), .inr (.inr (some 3)), .inl x, .inl b] H (.inl none, zw_J (zw_I H 54 0 x) 54 7 (H.2.2.1 54 7 ||| za_shl0 (Int64.ofNat 1) x)) := by
  have q1 := yc_isr2 (L := L) (σ := σ) (d := d) (H := zw_I H 54 0 x) (zw_W_I W) hx
  rw [if_neg (show ¬ (yTb ((zw_I H 54 0 x).2.2.1 2 3) x.toInt.toNat = true) from hr)] at q1
  refine zw_ex (zw_met zm_31_t rfl rfl ?_)
  refine zw_ld (n := 1) (k := 2) (f := zp_isI) (pc' := 1) rfl rfl rfl rfl rfl ?_
  refine zw_s (pc' := 2) rfl rfl ?_
  refine zw_bne2 (g := 11) (pc' := 5) rfl rfl rfl rfl (rfl : _ = (-1 : Int)) (fun h1 => ?_) (fun h1 => ?_)
  · refine zw_ld (n := 1) (k := 0) (f := zp_isR) (pc' := 12) rfl rfl rfl rfl rfl ?_
    refine zw_ld (n := 1) (k := 2) (f := zp_isI) (pc' := 13) rfl rfl rfl rfl rfl ?_
    refine zw_pI (q := 54) (pc' := 16) W rfl rfl rfl rfl rfl rfl ?_
    refine zw_ld (n := 1) (k := 1) (f := zp_isR) (pc' := 17) rfl rfl rfl rfl rfl ?_
    refine zw_ld (n := 1) (k := 2) (f := zp_isI) (pc' := 18) rfl rfl rfl rfl rfl ?_
    refine zw_c (pc' := 21) (zw_cv (q := 2) (Y := zm_32) (zw_W_I W).1 rfl rfl zm_32_t rfl rfl) rfl rfl rfl rfl rfl (q1) ?_
    refine zw_beq1 (g := 32) (pc' := 24) rfl rfl rfl (rfl : _ = (0 : Int)) (fun h2 => ?_) (fun h9 => absurd h9 (by decide))
    refine zw_ld (n := 1) (k := 0) (f := zp_isR) (pc' := 33) rfl rfl rfl rfl rfl ?_
    refine zw_s (pc' := 34) rfl rfl ?_
    refine zw_gL (q := 54) (pc' := 37) (zw_W_I W) rfl rfl rfl rfl rfl ?_
    refine zw_ld (n := 1) (k := 2) (f := zp_isI) (pc' := 38) rfl rfl rfl rfl rfl ?_
    refine zw_cx (pc' := 41) (zw_csx (Y := zm_4) rfl rfl zm_4_t) rfl rfl rfl rfl rfl (zn_bit) ?_
    refine zw_lor (pc' := 42) rfl rfl ?_
    refine zw_pL (q := 54) (pc' := 45) (zw_W_I W) rfl rfl rfl rfl rfl rfl ?_
    refine zw_rn rfl rfl ?_
    rfl
  · omega

theorem xc54_sn2_1 {L : Nat} {σ : Nat → Int32} {d : Nat} {H : zp_H} {P : zp_X → Prop} {lv : zp_LV} (W : zw_W H) (l0 : zp_get lv 0 = some (.inr (.inr (some 55)))) (l1 : zp_get lv 1 = some (.inr (.inr (some 3)))) (l3 : zp_get lv 3 = some (.inl (Int32.ofInt 1))) (he : ¬ (H.2.1 54 2).toInt = 0) (hP : P (.inl none, H)) : zs_Safe L σ P zm_29 [] (d + 2) (20, lv, [], H, (0, 0)) := by
  refine zw_ld (n := 1) (k := 3) (f := zp_isI) (pc' := 21) rfl rfl l3 rfl rfl ?_
  refine zw_beq1 (g := 46) (pc' := 24) rfl rfl rfl (rfl : _ = (1 : Int)) (fun h9 => absurd h9 (by decide)) (fun hb => ?_)
  refine zw_ld (n := 1) (k := 0) (f := zp_isR) (pc' := 25) rfl rfl l0 rfl rfl ?_
  refine zw_gI (q := 54) (pc' := 28) W rfl rfl rfl rfl rfl rfl ?_
  refine zw_bne1 (g := 46) (pc' := 31) rfl rfl rfl rfl (fun h1 => ?_) (fun h1 => ?_)
  · refine zw_s (pc' := 47) rfl rfl ?_
    refine zw_st (n := 2) (k := 4) (f := zp_isI) (pc' := 49) rfl rfl rfl rfl rfl ?_
    refine zw_ld (n := 2) (k := 4) (f := zp_isI) (pc' := 51) rfl rfl zw_g1 rfl rfl ?_
    refine zw_s (pc' := 52) rfl rfl ?_
    refine zw_beq2 (g := 63) (pc' := 55) rfl rfl rfl (rfl : _ = (-1 : Int)) (rfl : _ = (-1 : Int)) (fun hb => ?_) (fun h9 => absurd h9 (by decide))
    refine zw_ld (n := 1) (k := 0) (f := zp_isR) (pc' := 64) rfl rfl (zw_gt l0 rfl rfl) rfl rfl ?_
    refine zw_gI (q := 54) (pc' := 67) W rfl rfl rfl rfl rfl rfl ?_
    refine zw_bne1 (g := 80) (pc' := 70) rfl rfl rfl rfl (fun h2 => ?_) (fun h2 => ?_)
    · refine zw_rn rfl rfl ?_
      exact hP
    · exact absurd h2 he
  · exact absurd h1 he

theorem xc54_sy2_1 {L : Nat} {σ : Nat → Int32} {d : Nat} {H : zp_H} {P : zp_X → Prop} {lv : zp_LV} {S : xSea} (W : zw_W H) (hS : xOk S) (hC : xSC 2 H S) (hc : xIn S (H.2.1 54 0).toInt) (he : (H.2.1 54 2).toInt = 0) (l0 : zp_get lv 0 = some (.inr (.inr (some 55)))) (l1 : zp_get lv 1 = some (.inr (.inr (some 3)))) (l3 : zp_get lv 3 = some (.inl (Int32.ofInt 1))) (hP : ∀ H1, zw_W H1 → xFr 54 H H1 → H1.2.1 54 4 = H.2.1 54 4 → H1.2.1 54 0 = Int32.ofInt (xS2 S (H.2.1 54 0).toInt (H.2.1 54 1).toInt true).2 → H1.2.1 54 2 = Int32.ofInt (xS2 S (H.2.1 54 0).toInt (H.2.1 54 1).toInt true).1 → H1.2.1 54 1 = (if (xS2 S (H.2.1 54 0).toInt (H.2.1 54 1).toInt true).1 = 0 then H.2.1 54 1 + Int32.ofInt 1 else H.2.1 54 1) → P (.inl none, H1)) : zs_Safe L σ P zm_29 [] (d + 2) (20, lv, [], H, (0, 0)) := by
  have he0 : H.2.1 54 2 = Int32.ofInt 0 := Int32.toInt_inj.mp (he.trans (by decide))
  refine zw_ld (n := 1) (k := 3) (f := zp_isI) (pc' := 21) rfl rfl l3 rfl rfl ?_
  refine zw_beq1 (g := 46) (pc' := 24) rfl rfl rfl (rfl : _ = (1 : Int)) (fun h9 => absurd h9 (by decide)) (fun hb => ?_)
  refine zw_ld (n := 1) (k := 0) (f := zp_isR) (pc' := 25) rfl rfl l0 rfl rfl ?_
  refine zw_gI (q := 54) (pc' := 28) W rfl rfl rfl rfl rfl rfl ?_
  refine zw_bne1 (g := 46) (pc' := 31) rfl rfl rfl rfl (fun h1 => ?_) (fun h1 => ?_)
  · exact absurd he h1
  · refine zw_ld (n := 1) (k := 1) (f := zp_isR) (pc' := 32) rfl rfl l1 rfl rfl ?_
    refine zw_ld (n := 1) (k := 0) (f := zp_isR) (pc' := 33) rfl rfl l0 rfl rfl ?_
    refine zw_gI (q := 54) (pc' := 36) W rfl rfl rfl rfl rfl rfl ?_
    refine zw_ld (n := 1) (k := 0) (f := zp_isR) (pc' := 37) rfl rfl l0 rfl rfl ?_
    refine zw_gI (q := 54) (pc' := 40) W rfl rfl rfl rfl rfl rfl ?_
    refine zw_c (pc' := 43) (zw_cv (q := 2) (Y := zm_33) W.1 rfl rfl zm_33_t rfl rfl) rfl rfl rfl rfl rfl (xc_dr2 W hS hC hc) ?_
    refine zw_s (pc' := 47) rfl rfl ?_
    refine zw_st (n := 2) (k := 4) (f := zp_isI) (pc' := 49) rfl rfl rfl rfl rfl ?_
    have h6 := xDr_64 (c := (H.2.1 54 0).toInt) (hr := (H.2.1 54 1).toInt) (t := true) hS
    have eo : (Int32.ofInt (xDr S (H.2.1 54 0).toInt (H.2.1 54 1).toInt true)).toInt = (xDr S (H.2.1 54 0).toInt (H.2.1 54 1).toInt true) := x_of (by omega) (by omega)
    have n0 : (H.2.1 54 0).toInt = (H.2.1 54 0).toInt := rfl
    refine zw_ld (n := 2) (k := 4) (f := zp_isI) (pc' := 51) rfl rfl zw_g1 rfl rfl ?_
    refine zw_s (pc' := 52) rfl rfl ?_
    refine zw_beq2 (g := 63) (pc' := 55) rfl rfl rfl rfl (rfl : _ = (-1 : Int)) (fun h2 => ?_) (fun h2 => ?_)
    · have h2 : (Int32.ofInt (xDr S (H.2.1 54 0).toInt (H.2.1 54 1).toInt true)).toInt = -1 := h2
      have h3 : (xDr S (H.2.1 54 0).toInt (H.2.1 54 1).toInt true) = -1 := by omega
      refine zw_ld (n := 1) (k := 0) (f := zp_isR) (pc' := 64) rfl rfl (zw_gt l0 rfl rfl) rfl rfl ?_
      refine zw_gI (q := 54) (pc' := 67) W rfl rfl rfl rfl rfl rfl ?_
      refine zw_bne1 (g := 80) (pc' := 70) rfl rfl rfl rfl (fun h7 => ?_) (fun h7 => ?_)
      · exact absurd he h7
      · refine zw_ld (n := 1) (k := 0) (f := zp_isR) (pc' := 71) rfl rfl (zw_gt l0 rfl rfl) rfl rfl ?_
        refine zw_s (pc' := 72) rfl rfl ?_
        refine zw_gI (q := 54) (pc' := 75) W rfl rfl rfl rfl rfl rfl ?_
        refine zw_s (pc' := 76) rfl rfl ?_
        refine zw_iadd (pc' := 77) rfl rfl ?_
        refine zw_pI (q := 54) (pc' := 80) W rfl rfl rfl rfl rfl rfl ?_
        refine zw_rn rfl rfl ?_
        have es := xS2_n (S := S) (c := (H.2.1 54 0).toInt) (hr := (H.2.1 54 1).toInt) h3
        rw [es] at hP
        exact hP _ (zw_W_I W) (xFr_I (xFr_r H) (by decide)) (zw_ne rfl rfl) ((zw_ne rfl rfl).trans (x_oi _).symm) ((zw_ne rfl rfl).trans he0) (zw_eq.trans (if_pos rfl).symm)
    · have h2 : ¬ (Int32.ofInt (xDr S (H.2.1 54 0).toInt (H.2.1 54 1).toInt true)).toInt = -1 := h2
      have h3 : (xDr S (H.2.1 54 0).toInt (H.2.1 54 1).toInt true) ≠ -1 := by omega
      refine zw_ld (n := 1) (k := 0) (f := zp_isR) (pc' := 56) rfl rfl (zw_gt l0 rfl rfl) rfl rfl ?_
      refine zw_ld (n := 1) (k := 1) (f := zp_isR) (pc' := 57) rfl rfl (zw_gt l1 rfl rfl) rfl rfl ?_
      refine zw_ld (n := 2) (k := 4) (f := zp_isI) (pc' := 59) rfl rfl zw_g1 rfl rfl ?_
      refine zw_s (pc' := 60) rfl rfl ?_
      by_cases hr : yTb S.2.2.1 (xDr S (H.2.1 54 0).toInt (H.2.1 54 1).toInt true).toNat = true
      · refine zw_cn (pc' := 63) (zw_cv (q := 54) (Y := zm_31) W.1 rfl rfl zm_31_t rfl rfl) rfl rfl rfl rfl rfl (xc54_g1_2 (d := d) W (by omega) (by rw [eo, show H.2.2.1 2 3 = S.2.2.1 from hC.2.2.1]; exact hr)) ?_
        refine zw_ld (n := 1) (k := 0) (f := zp_isR) (pc' := 64) rfl rfl (zw_gt l0 rfl rfl) rfl rfl ?_
        refine zw_gI (q := 54) (pc' := 67) (zw_W_I (zw_W_I W)) rfl rfl rfl rfl zw_eq rfl ?_
        refine zw_bne1 (g := 80) (pc' := 70) rfl rfl rfl rfl (fun h7 => ?_) (fun h7 => ?_)
        · refine zw_rn rfl rfl ?_
          have es := xS2_r (S := S) (c := (H.2.1 54 0).toInt) (hr := (H.2.1 54 1).toInt) h3 hr
          rw [es] at hP
          exact hP _ (zw_W_I (zw_W_I W)) (xFr_I (xFr_I (xFr_r H) (by decide)) (by decide)) (zw_ne (zw_ne rfl rfl) rfl) ((zw_ne zw_eq rfl)) (zw_eq) ((zw_ne (zw_ne rfl rfl) rfl).trans (if_neg (fun h9 => absurd (show (2 : Int) = 0 from h9) (by decide))).symm)
        · exact absurd h7 (by decide)
      · refine zw_cn (pc' := 63) (zw_cv (q := 54) (Y := zm_31) W.1 rfl rfl zm_31_t rfl rfl) rfl rfl rfl rfl rfl (xc54_g2_2 (d := d) W (by omega) (by rw [eo, show H.2.2.1 2 3 = S.2.2.1 from hC.2.2.1]; exact hr)) ?_
        refine zw_ld (n := 1) (k := 0) (f := zp_isR) (pc' := 64) rfl rfl (zw_gt l0 rfl rfl) rfl rfl ?_
        refine zw_gI (q := 54) (pc' := 67) (zw_W_J (zw_W_I W)) rfl rfl rfl rfl (zw_nj (zw_ne rfl rfl)) rfl ?_
        refine zw_bne1 (g := 80) (pc' := 70) rfl rfl rfl rfl (fun h7 => ?_) (fun h7 => ?_)
        · exact absurd he h7
        · refine zw_ld (n := 1) (k := 0) (f := zp_isR) (pc' := 71) rfl rfl (zw_gt l0 rfl rfl) rfl rfl ?_
          refine zw_s (pc' := 72) rfl rfl ?_
          refine zw_gI (q := 54) (pc' := 75) (zw_W_J (zw_W_I W)) rfl rfl rfl rfl (zw_nj (zw_ne rfl rfl)) rfl ?_
          refine zw_s (pc' := 76) rfl rfl ?_
          refine zw_iadd (pc' := 77) rfl rfl ?_
          refine zw_pI (q := 54) (pc' := 80) (zw_W_J (zw_W_I W)) rfl rfl rfl rfl rfl rfl ?_
          refine zw_rn rfl rfl ?_
          have es := xS2_f (S := S) (c := (H.2.1 54 0).toInt) (hr := (H.2.1 54 1).toInt) h3 hr
          rw [es] at hP
          exact hP _ (zw_W_I (zw_W_J (zw_W_I W))) (xFr_I (xFr_J (xFr_I (xFr_r H) (by decide))) (by decide)) (zw_ne (zw_nj (zw_ne rfl rfl)) rfl) ((zw_ne (zw_nj zw_eq) rfl)) ((zw_ne (zw_nj (zw_ne rfl rfl)) rfl).trans he0) (zw_eq.trans (if_pos rfl).symm)

theorem xc54_sail2_1 {L : Nat} {σ : Nat → Int32} {d : Nat} {H : zp_H} {x2 : Int32} {S : xSea} (W : zw_W H) (hS : xOk S) (hC : xSC 2 H S) (hc : xIn S (H.2.1 54 0).toInt) (he : (H.2.1 54 2).toInt = 0) (hd : -1 ≤ x2.toInt ∧ x2.toInt ≤ 3) : ∃ X, zp_Call L σ (d + 3) 29 [.inr (.inr (some 55)), .inr (.inr (some 3)), .inl x2, .inl (Int32.ofInt 1)] H X ∧ ∃ H1, X = (.inl none, H1) ∧ zw_W H1 ∧ xFr 54 H H1 ∧ H1.2.1 54 4 = H.2.1 54 4 ∧ H1.2.1 54 0 = Int32.ofInt (xSt S (H.2.1 54 0).toInt (H.2.1 54 1).toInt x2.toInt true).2 ∧ H1.2.1 54 2 = Int32.ofInt (xSt S (H.2.1 54 0).toInt (H.2.1 54 1).toInt x2.toInt true).1 ∧ H1.2.1 54 1 = (if (xSt S (H.2.1 54 0).toInt (H.2.1 54 1).toInt x2.toInt true).1 = 0 then H.2.1 54 1 + Int32.ofInt 1 else H.2.1 54 1) := by
  refine zw_met zm_29_t rfl rfl ?_
  refine zw_ld (n := 1) (k := 2) (f := zp_isI) (pc' := 1) rfl rfl rfl rfl rfl ?_
  refine zw_s (pc' := 2) rfl rfl ?_
  refine zw_beq2 (g := 20) (pc' := 5) rfl rfl rfl rfl (rfl : _ = (-1 : Int)) (fun h1 => ?_) (fun h1 => ?_)
  · have e1 := xS1_n (S := S) (c := (H.2.1 54 0).toInt) h1
    have es : (xSt S (H.2.1 54 0).toInt (H.2.1 54 1).toInt x2.toInt true) = (xS2 S (H.2.1 54 0).toInt (H.2.1 54 1).toInt true) := (xSt_0 (congrArg Prod.fst e1)).trans (congrArg (fun z : Int × Int => xS2 S z.2 (H.2.1 54 1).toInt true) e1)
    refine xc54_sy2_1 W hS hC hc he rfl rfl rfl (fun H1 w1 w2 w3 w4 w5 w6 => ⟨H1, rfl, w1, w2, w3, ?_, ?_, ?_⟩) <;> rw [es]
    · exact w4
    · exact w5
    · exact w6
  · have h6 := xBe_64 (c := (H.2.1 54 0).toInt) (d := x2.toInt) hS
    have eo : (Int32.ofInt (xBe S.1 S.2.1 (H.2.1 54 0).toInt x2.toInt)).toInt = (xBe S.1 S.2.1 (H.2.1 54 0).toInt x2.toInt) := x_of (by omega) (by omega)
    have qn := xc_nc2 (L := L) (σ := σ) (d := d + 1) (xw := x2) W hS hC hc hd
    rw [if_neg h1] at qn
    refine zw_ld (n := 1) (k := 0) (f := zp_isR) (pc' := 6) rfl rfl rfl rfl rfl ?_
    refine zw_ld (n := 1) (k := 1) (f := zp_isR) (pc' := 7) rfl rfl rfl rfl rfl ?_
    refine zw_ld (n := 1) (k := 1) (f := zp_isR) (pc' := 8) rfl rfl rfl rfl rfl ?_
    refine zw_ld (n := 1) (k := 0) (f := zp_isR) (pc' := 9) rfl rfl rfl rfl rfl ?_
    refine zw_gI (q := 54) (pc' := 12) W rfl rfl rfl rfl rfl rfl ?_
    refine zw_ld (n := 1) (k := 2) (f := zp_isI) (pc' := 13) rfl rfl rfl rfl rfl ?_
    refine zw_c (pc' := 16) (zw_cv (q := 2) (Y := zm_30) W.1 rfl rfl zm_30_t rfl rfl) rfl rfl rfl rfl rfl (qn) ?_
    refine zw_s (pc' := 17) rfl rfl ?_
    by_cases h2 : (xBe S.1 S.2.1 (H.2.1 54 0).toInt x2.toInt) = -1
    · refine zw_cn (pc' := 20) (zw_cv (q := 54) (Y := zm_31) W.1 rfl rfl zm_31_t rfl rfl) rfl rfl rfl rfl rfl (xc54_g0_2 (d := d) W (eo.trans h2)) ?_
      have e1 := xS1_l (S := S) h1 h2
      have es : (xSt S (H.2.1 54 0).toInt (H.2.1 54 1).toInt x2.toInt true) = (3, (H.2.1 54 0).toInt) := (xSt_1 (fun h9 => absurd (show (3 : Int) = 0 from (congrArg Prod.fst e1).symm.trans h9) (by decide))).trans e1
      refine xc54_sn2_1 (zw_W_I W) rfl rfl rfl (by rw [show (zw_I H 54 2 (Int32.ofInt 3)).2.1 54 2 = Int32.ofInt 3 from zw_eq]; decide) ⟨_, rfl, zw_W_I W, xFr_I (xFr_r H) (by decide), zw_ne rfl rfl, ?_, ?_, ?_⟩ <;> rw [es]
      · exact (zw_ne rfl rfl).trans (x_oi _).symm
      · exact zw_eq
      · exact (zw_ne rfl rfl).trans (if_neg (fun h9 => absurd (show (3 : Int) = 0 from h9) (by decide))).symm
    · by_cases hr : yTb S.2.2.1 (xBe S.1 S.2.1 (H.2.1 54 0).toInt x2.toInt).toNat = true
      · refine zw_cn (pc' := 20) (zw_cv (q := 54) (Y := zm_31) W.1 rfl rfl zm_31_t rfl rfl) rfl rfl rfl rfl rfl (xc54_g1_2 (d := d) W (by omega) (by rw [eo, show H.2.2.1 2 3 = S.2.2.1 from hC.2.2.1]; exact hr)) ?_
        have e1 := xS1_r (S := S) h1 h2 hr
        have es : (xSt S (H.2.1 54 0).toInt (H.2.1 54 1).toInt x2.toInt true) = (1, (xBe S.1 S.2.1 (H.2.1 54 0).toInt x2.toInt)) := (xSt_1 (fun h9 => absurd (show (1 : Int) = 0 from (congrArg Prod.fst e1).symm.trans h9) (by decide))).trans e1
        refine xc54_sn2_1 (zw_W_I (zw_W_I W)) rfl rfl rfl (by rw [show (zw_I (zw_I H 54 0 (Int32.ofInt (xBe S.1 S.2.1 (H.2.1 54 0).toInt x2.toInt))) 54 2 (Int32.ofInt 1)).2.1 54 2 = Int32.ofInt 1 from zw_eq]; decide) ⟨_, rfl, zw_W_I (zw_W_I W), xFr_I (xFr_I (xFr_r H) (by decide)) (by decide), zw_ne (zw_ne rfl rfl) rfl, ?_, ?_, ?_⟩ <;> rw [es]
        · exact zw_ne zw_eq rfl
        · exact zw_eq
        · exact (zw_ne (zw_ne rfl rfl) rfl).trans (if_neg (fun h9 => absurd (show (1 : Int) = 0 from h9) (by decide))).symm
      · refine zw_cn (pc' := 20) (zw_cv (q := 54) (Y := zm_31) W.1 rfl rfl zm_31_t rfl rfl) rfl rfl rfl rfl rfl (xc54_g2_2 (d := d) W (by omega) (by rw [eo, show H.2.2.1 2 3 = S.2.2.1 from hC.2.2.1]; exact hr)) ?_
        have e1 := xS1_f (S := S) h1 h2 hr
        have es : (xSt S (H.2.1 54 0).toInt (H.2.1 54 1).toInt x2.toInt true) = xS2 S (xBe S.1 S.2.1 (H.2.1 54 0).toInt x2.toInt) (H.2.1 54 1).toInt true := (xSt_0 (congrArg Prod.fst e1)).trans (congrArg (fun z : Int × Int => xS2 S z.2 (H.2.1 54 1).toInt true) e1)
        have k0 : (zw_J (zw_I H 54 0 (Int32.ofInt (xBe S.1 S.2.1 (H.2.1 54 0).toInt x2.toInt))) 54 7 (H.2.2.1 54 7 ||| za_shl0 (Int64.ofNat 1) (Int32.ofInt (xBe S.1 S.2.1 (H.2.1 54 0).toInt x2.toInt)))).2.1 54 0 = Int32.ofInt (xBe S.1 S.2.1 (H.2.1 54 0).toInt x2.toInt) := zw_nj zw_eq
        have k1 : (zw_J (zw_I H 54 0 (Int32.ofInt (xBe S.1 S.2.1 (H.2.1 54 0).toInt x2.toInt))) 54 7 (H.2.2.1 54 7 ||| za_shl0 (Int64.ofNat 1) (Int32.ofInt (xBe S.1 S.2.1 (H.2.1 54 0).toInt x2.toInt)))).2.1 54 1 = H.2.1 54 1 := zw_nj (zw_ne rfl rfl)
        have k2 : (zw_J (zw_I H 54 0 (Int32.ofInt (xBe S.1 S.2.1 (H.2.1 54 0).toInt x2.toInt))) 54 7 (H.2.2.1 54 7 ||| za_shl0 (Int64.ofNat 1) (Int32.ofInt (xBe S.1 S.2.1 (H.2.1 54 0).toInt x2.toInt)))).2.1 54 2 = H.2.1 54 2 := zw_nj (zw_ne rfl rfl)
        have k4 : (zw_J (zw_I H 54 0 (Int32.ofInt (xBe S.1 S.2.1 (H.2.1 54 0).toInt x2.toInt))) 54 7 (H.2.2.1 54 7 ||| za_shl0 (Int64.ofNat 1) (Int32.ofInt (xBe S.1 S.2.1 (H.2.1 54 0).toInt x2.toInt)))).2.1 54 4 = H.2.1 54 4 := zw_nj (zw_ne rfl rfl)
        have fr : xFr 54 H (zw_J (zw_I H 54 0 (Int32.ofInt (xBe S.1 S.2.1 (H.2.1 54 0).toInt x2.toInt))) 54 7 (H.2.2.1 54 7 ||| za_shl0 (Int64.ofNat 1) (Int32.ofInt (xBe S.1 S.2.1 (H.2.1 54 0).toInt x2.toInt)))) := xFr_J (xFr_I (xFr_r H) (by decide))
        have hi : xIn S (xBe S.1 S.2.1 (H.2.1 54 0).toInt x2.toInt) := (xBe_b hS.1.1).resolve_left h2
        refine xc54_sy2_1 (S := S) (zw_W_J (zw_W_I W)) hS (xSC_f fr (by decide) hC) (by rw [k0, eo]; exact hi) (by rw [k2]; exact he) rfl rfl rfl (fun H1 w1 w2 w3 w4 w5 w6 => ?_)
        rw [k0, k1, eo] at w4 w5 w6
        rw [k4] at w3
        refine ⟨H1, rfl, w1, xFr_t fr w2, w3, ?_, ?_, ?_⟩ <;> rw [es]
        · exact w4
        · exact w5
        · exact w6

theorem xc54_g0_22 {L : Nat} {σ : Nat → Int32} {d : Nat} {H : zp_H} {x b : Int32} (W : zw_W H) (h : x.toInt = -1) : zp_Call L σ (d + 2) 31 [.inr (.inr (some 55)), .inr (.inr (some 23)), .inl x, .inl b] H (.inl none, zw_I H 54 2 (Int32.ofInt 3)) := by
  refine zw_ex (zw_met zm_31_t rfl rfl ?_)
  refine zw_ld (n := 1) (k := 2) (f := zp_isI) (pc' := 1) rfl rfl rfl rfl rfl ?_
  refine zw_s (pc' := 2) rfl rfl ?_
  refine zw_bne2 (g := 11) (pc' := 5) rfl rfl rfl rfl (rfl : _ = (-1 : Int)) (fun h1 => ?_) (fun h1 => ?_)
  · exact absurd h h1
  · refine zw_ld (n := 1) (k := 0) (f := zp_isR) (pc' := 6) rfl rfl rfl rfl rfl ?_
    refine zw_s (pc' := 7) rfl rfl ?_
    refine zw_pI (q := 54) (pc' := 10) W rfl rfl rfl rfl rfl rfl ?_
    refine zw_rn rfl rfl ?_
    rfl

theorem xc54_g1_22 {L : Nat} {σ : Nat → Int32} {d : Nat} {H : zp_H} {x b : Int32} (W : zw_W H) (hx : 0 ≤ x.toInt ∧ x.toInt ≤ 63) (hr : yTb (H.2.2.1 22 3) x.toInt.toNat = true) : zp_Call L σ (d + 2) 31 [.inr (.inr (some 55)), .inr (.inr (some 23)), .inl x, .inl b] H (.inl none, zw_I (zw_I H 54 0 x) 54 2 b) := by
  have q1 := yc_isr22 (L := L) (σ := σ) (d := d) (H := zw_I H 54 0 x) (zw_W_I W) hx
  rw [if_pos (show (yTb ((zw_I H 54 0 x).2.2.1 22 3) x.toInt.toNat = true) from hr)] at q1
  refine zw_ex (zw_met zm_31_t rfl rfl ?_)
  refine zw_ld (n := 1) (k := 2) (f := zp_isI) (pc' := 1) rfl rfl rfl rfl rfl ?_
  refine zw_s (pc' := 2) rfl rfl ?_
  refine zw_bne2 (g := 11) (pc' := 5) rfl rfl rfl rfl (rfl : _ = (-1 : Int)) (fun h1 => ?_) (fun h1 => ?_)
  · refine zw_ld (n := 1) (k := 0) (f := zp_isR) (pc' := 12) rfl rfl rfl rfl rfl ?_
    refine zw_ld (n := 1) (k := 2) (f := zp_isI) (pc' := 13) rfl rfl rfl rfl rfl ?_
    refine zw_pI (q := 54) (pc' := 16) W rfl rfl rfl rfl rfl rfl ?_
    refine zw_ld (n := 1) (k := 1) (f := zp_isR) (pc' := 17) rfl rfl rfl rfl rfl ?_
    refine zw_ld (n := 1) (k := 2) (f := zp_isI) (pc' := 18) rfl rfl rfl rfl rfl ?_
    refine zw_c (pc' := 21) (zw_cv (q := 22) (Y := zm_32) (zw_W_I W).1 rfl rfl zm_32_t rfl rfl) rfl rfl rfl rfl rfl (q1) ?_
    refine zw_beq1 (g := 32) (pc' := 24) rfl rfl rfl (rfl : _ = (1 : Int)) (fun h9 => absurd h9 (by decide)) (fun h2 => ?_)
    refine zw_ld (n := 1) (k := 0) (f := zp_isR) (pc' := 25) rfl rfl rfl rfl rfl ?_
    refine zw_ld (n := 1) (k := 3) (f := zp_isI) (pc' := 26) rfl rfl rfl rfl rfl ?_
    refine zw_pI (q := 54) (pc' := 29) (zw_W_I W) rfl rfl rfl rfl rfl rfl ?_
    refine zw_s (pc' := 45) rfl rfl ?_
    refine zw_rn rfl rfl ?_
    rfl
  · omega

theorem xc54_g2_22 {L : Nat} {σ : Nat → Int32} {d : Nat} {H : zp_H} {x b : Int32} (W : zw_W H) (hx : 0 ≤ x.toInt ∧ x.toInt ≤ 63) (hr : ¬ (yTb (H.2.2.1 22 3) x.toInt.toNat = true)) : zp_Call L σ (d + 2) 31 [.inr (.inr (some 55)), .inr (.inr (some 23)), .inl x, .inl b] H (.inl none, zw_J (zw_I H 54 0 x) 54 7 (H.2.2.1 54 7 ||| za_shl0 (Int64.ofNat 1) x)) := by
  have q1 := yc_isr22 (L := L) (σ := σ) (d := d) (H := zw_I H 54 0 x) (zw_W_I W) hx
  rw [if_neg (show ¬ (yTb ((zw_I H 54 0 x).2.2.1 22 3) x.toInt.toNat = true) from hr)] at q1
  refine zw_ex (zw_met zm_31_t rfl rfl ?_)
  refine zw_ld (n := 1) (k := 2) (f := zp_isI) (pc' := 1) rfl rfl rfl rfl rfl ?_
  refine zw_s (pc' := 2) rfl rfl ?_
  refine zw_bne2 (g := 11) (pc' := 5) rfl rfl rfl rfl (rfl : _ = (-1 : Int)) (fun h1 => ?_) (fun h1 => ?_)
  · refine zw_ld (n := 1) (k := 0) (f := zp_isR) (pc' := 12) rfl rfl rfl rfl rfl ?_
    refine zw_ld (n := 1) (k := 2) (f := zp_isI) (pc' := 13) rfl rfl rfl rfl rfl ?_
    refine zw_pI (q := 54) (pc' := 16) W rfl rfl rfl rfl rfl rfl ?_
    refine zw_ld (n := 1) (k := 1) (f := zp_isR) (pc' := 17) rfl rfl rfl rfl rfl ?_
    refine zw_ld (n := 1) (k := 2) (f := zp_isI) (pc' := 18) rfl rfl rfl rfl rfl ?_
    refine zw_c (pc' := 21) (zw_cv (q := 22) (Y := zm_32) (zw_W_I W).1 rfl rfl zm_32_t rfl rfl) rfl rfl rfl rfl rfl (q1) ?_
    refine zw_beq1 (g := 32) (pc' := 24) rfl rfl rfl (rfl : _ = (0 : Int)) (fun h2 => ?_) (fun h9 => absurd h9 (by decide))
    refine zw_ld (n := 1) (k := 0) (f := zp_isR) (pc' := 33) rfl rfl rfl rfl rfl ?_
    refine zw_s (pc' := 34) rfl rfl ?_
    refine zw_gL (q := 54) (pc' := 37) (zw_W_I W) rfl rfl rfl rfl rfl ?_
    refine zw_ld (n := 1) (k := 2) (f := zp_isI) (pc' := 38) rfl rfl rfl rfl rfl ?_
    refine zw_cx (pc' := 41) (zw_csx (Y := zm_4) rfl rfl zm_4_t) rfl rfl rfl rfl rfl (zn_bit) ?_
    refine zw_lor (pc' := 42) rfl rfl ?_
    refine zw_pL (q := 54) (pc' := 45) (zw_W_I W) rfl rfl rfl rfl rfl rfl ?_
    refine zw_rn rfl rfl ?_
    rfl
  · omega

theorem xc54_sn22_1 {L : Nat} {σ : Nat → Int32} {d : Nat} {H : zp_H} {P : zp_X → Prop} {lv : zp_LV} (W : zw_W H) (l0 : zp_get lv 0 = some (.inr (.inr (some 55)))) (l1 : zp_get lv 1 = some (.inr (.inr (some 23)))) (l3 : zp_get lv 3 = some (.inl (Int32.ofInt 1))) (he : ¬ (H.2.1 54 2).toInt = 0) (hP : P (.inl none, H)) : zs_Safe L σ P zm_29 [] (d + 2) (20, lv, [], H, (0, 0)) := by
  refine zw_ld (n := 1) (k := 3) (f := zp_isI) (pc' := 21) rfl rfl l3 rfl rfl ?_
  refine zw_beq1 (g := 46) (pc' := 24) rfl rfl rfl (rfl : _ = (1 : Int)) (fun h9 => absurd h9 (by decide)) (fun hb => ?_)
  refine zw_ld (n := 1) (k := 0) (f := zp_isR) (pc' := 25) rfl rfl l0 rfl rfl ?_
  refine zw_gI (q := 54) (pc' := 28) W rfl rfl rfl rfl rfl rfl ?_
  refine zw_bne1 (g := 46) (pc' := 31) rfl rfl rfl rfl (fun h1 => ?_) (fun h1 => ?_)
  · refine zw_s (pc' := 47) rfl rfl ?_
    refine zw_st (n := 2) (k := 4) (f := zp_isI) (pc' := 49) rfl rfl rfl rfl rfl ?_
    refine zw_ld (n := 2) (k := 4) (f := zp_isI) (pc' := 51) rfl rfl zw_g1 rfl rfl ?_
    refine zw_s (pc' := 52) rfl rfl ?_
    refine zw_beq2 (g := 63) (pc' := 55) rfl rfl rfl (rfl : _ = (-1 : Int)) (rfl : _ = (-1 : Int)) (fun hb => ?_) (fun h9 => absurd h9 (by decide))
    refine zw_ld (n := 1) (k := 0) (f := zp_isR) (pc' := 64) rfl rfl (zw_gt l0 rfl rfl) rfl rfl ?_
    refine zw_gI (q := 54) (pc' := 67) W rfl rfl rfl rfl rfl rfl ?_
    refine zw_bne1 (g := 80) (pc' := 70) rfl rfl rfl rfl (fun h2 => ?_) (fun h2 => ?_)
    · refine zw_rn rfl rfl ?_
      exact hP
    · exact absurd h2 he
  · exact absurd h1 he

theorem xc54_sy22_1 {L : Nat} {σ : Nat → Int32} {d : Nat} {H : zp_H} {P : zp_X → Prop} {lv : zp_LV} {S : xSea} (W : zw_W H) (hS : xOk S) (hC : xSC 22 H S) (hc : xIn S (H.2.1 54 0).toInt) (he : (H.2.1 54 2).toInt = 0) (l0 : zp_get lv 0 = some (.inr (.inr (some 55)))) (l1 : zp_get lv 1 = some (.inr (.inr (some 23)))) (l3 : zp_get lv 3 = some (.inl (Int32.ofInt 1))) (hP : ∀ H1, zw_W H1 → xFr 54 H H1 → H1.2.1 54 4 = H.2.1 54 4 → H1.2.1 54 0 = Int32.ofInt (xS2 S (H.2.1 54 0).toInt (H.2.1 54 1).toInt true).2 → H1.2.1 54 2 = Int32.ofInt (xS2 S (H.2.1 54 0).toInt (H.2.1 54 1).toInt true).1 → H1.2.1 54 1 = (if (xS2 S (H.2.1 54 0).toInt (H.2.1 54 1).toInt true).1 = 0 then H.2.1 54 1 + Int32.ofInt 1 else H.2.1 54 1) → P (.inl none, H1)) : zs_Safe L σ P zm_29 [] (d + 2) (20, lv, [], H, (0, 0)) := by
  have he0 : H.2.1 54 2 = Int32.ofInt 0 := Int32.toInt_inj.mp (he.trans (by decide))
  refine zw_ld (n := 1) (k := 3) (f := zp_isI) (pc' := 21) rfl rfl l3 rfl rfl ?_
  refine zw_beq1 (g := 46) (pc' := 24) rfl rfl rfl (rfl : _ = (1 : Int)) (fun h9 => absurd h9 (by decide)) (fun hb => ?_)
  refine zw_ld (n := 1) (k := 0) (f := zp_isR) (pc' := 25) rfl rfl l0 rfl rfl ?_
  refine zw_gI (q := 54) (pc' := 28) W rfl rfl rfl rfl rfl rfl ?_
  refine zw_bne1 (g := 46) (pc' := 31) rfl rfl rfl rfl (fun h1 => ?_) (fun h1 => ?_)
  · exact absurd he h1
  · refine zw_ld (n := 1) (k := 1) (f := zp_isR) (pc' := 32) rfl rfl l1 rfl rfl ?_
    refine zw_ld (n := 1) (k := 0) (f := zp_isR) (pc' := 33) rfl rfl l0 rfl rfl ?_
    refine zw_gI (q := 54) (pc' := 36) W rfl rfl rfl rfl rfl rfl ?_
    refine zw_ld (n := 1) (k := 0) (f := zp_isR) (pc' := 37) rfl rfl l0 rfl rfl ?_
    refine zw_gI (q := 54) (pc' := 40) W rfl rfl rfl rfl rfl rfl ?_
    refine zw_c (pc' := 43) (zw_cv (q := 22) (Y := zm_33) W.1 rfl rfl zm_33_t rfl rfl) rfl rfl rfl rfl rfl (xc_dr22 W hS hC hc) ?_
    refine zw_s (pc' := 47) rfl rfl ?_
    refine zw_st (n := 2) (k := 4) (f := zp_isI) (pc' := 49) rfl rfl rfl rfl rfl ?_
    have h6 := xDr_64 (c := (H.2.1 54 0).toInt) (hr := (H.2.1 54 1).toInt) (t := true) hS
    have eo : (Int32.ofInt (xDr S (H.2.1 54 0).toInt (H.2.1 54 1).toInt true)).toInt = (xDr S (H.2.1 54 0).toInt (H.2.1 54 1).toInt true) := x_of (by omega) (by omega)
    have n0 : (H.2.1 54 0).toInt = (H.2.1 54 0).toInt := rfl
    refine zw_ld (n := 2) (k := 4) (f := zp_isI) (pc' := 51) rfl rfl zw_g1 rfl rfl ?_
    refine zw_s (pc' := 52) rfl rfl ?_
    refine zw_beq2 (g := 63) (pc' := 55) rfl rfl rfl rfl (rfl : _ = (-1 : Int)) (fun h2 => ?_) (fun h2 => ?_)
    · have h2 : (Int32.ofInt (xDr S (H.2.1 54 0).toInt (H.2.1 54 1).toInt true)).toInt = -1 := h2
      have h3 : (xDr S (H.2.1 54 0).toInt (H.2.1 54 1).toInt true) = -1 := by omega
      refine zw_ld (n := 1) (k := 0) (f := zp_isR) (pc' := 64) rfl rfl (zw_gt l0 rfl rfl) rfl rfl ?_
      refine zw_gI (q := 54) (pc' := 67) W rfl rfl rfl rfl rfl rfl ?_
      refine zw_bne1 (g := 80) (pc' := 70) rfl rfl rfl rfl (fun h7 => ?_) (fun h7 => ?_)
      · exact absurd he h7
      · refine zw_ld (n := 1) (k := 0) (f := zp_isR) (pc' := 71) rfl rfl (zw_gt l0 rfl rfl) rfl rfl ?_
        refine zw_s (pc' := 72) rfl rfl ?_
        refine zw_gI (q := 54) (pc' := 75) W rfl rfl rfl rfl rfl rfl ?_
        refine zw_s (pc' := 76) rfl rfl ?_
        refine zw_iadd (pc' := 77) rfl rfl ?_
        refine zw_pI (q := 54) (pc' := 80) W rfl rfl rfl rfl rfl rfl ?_
        refine zw_rn rfl rfl ?_
        have es := xS2_n (S := S) (c := (H.2.1 54 0).toInt) (hr := (H.2.1 54 1).toInt) h3
        rw [es] at hP
        exact hP _ (zw_W_I W) (xFr_I (xFr_r H) (by decide)) (zw_ne rfl rfl) ((zw_ne rfl rfl).trans (x_oi _).symm) ((zw_ne rfl rfl).trans he0) (zw_eq.trans (if_pos rfl).symm)
    · have h2 : ¬ (Int32.ofInt (xDr S (H.2.1 54 0).toInt (H.2.1 54 1).toInt true)).toInt = -1 := h2
      have h3 : (xDr S (H.2.1 54 0).toInt (H.2.1 54 1).toInt true) ≠ -1 := by omega
      refine zw_ld (n := 1) (k := 0) (f := zp_isR) (pc' := 56) rfl rfl (zw_gt l0 rfl rfl) rfl rfl ?_
      refine zw_ld (n := 1) (k := 1) (f := zp_isR) (pc' := 57) rfl rfl (zw_gt l1 rfl rfl) rfl rfl ?_
      refine zw_ld (n := 2) (k := 4) (f := zp_isI) (pc' := 59) rfl rfl zw_g1 rfl rfl ?_
      refine zw_s (pc' := 60) rfl rfl ?_
      by_cases hr : yTb S.2.2.1 (xDr S (H.2.1 54 0).toInt (H.2.1 54 1).toInt true).toNat = true
      · refine zw_cn (pc' := 63) (zw_cv (q := 54) (Y := zm_31) W.1 rfl rfl zm_31_t rfl rfl) rfl rfl rfl rfl rfl (xc54_g1_22 (d := d) W (by omega) (by rw [eo, show H.2.2.1 22 3 = S.2.2.1 from hC.2.2.1]; exact hr)) ?_
        refine zw_ld (n := 1) (k := 0) (f := zp_isR) (pc' := 64) rfl rfl (zw_gt l0 rfl rfl) rfl rfl ?_
        refine zw_gI (q := 54) (pc' := 67) (zw_W_I (zw_W_I W)) rfl rfl rfl rfl zw_eq rfl ?_
        refine zw_bne1 (g := 80) (pc' := 70) rfl rfl rfl rfl (fun h7 => ?_) (fun h7 => ?_)
        · refine zw_rn rfl rfl ?_
          have es := xS2_r (S := S) (c := (H.2.1 54 0).toInt) (hr := (H.2.1 54 1).toInt) h3 hr
          rw [es] at hP
          exact hP _ (zw_W_I (zw_W_I W)) (xFr_I (xFr_I (xFr_r H) (by decide)) (by decide)) (zw_ne (zw_ne rfl rfl) rfl) ((zw_ne zw_eq rfl)) (zw_eq) ((zw_ne (zw_ne rfl rfl) rfl).trans (if_neg (fun h9 => absurd (show (2 : Int) = 0 from h9) (by decide))).symm)
        · exact absurd h7 (by decide)
      · refine zw_cn (pc' := 63) (zw_cv (q := 54) (Y := zm_31) W.1 rfl rfl zm_31_t rfl rfl) rfl rfl rfl rfl rfl (xc54_g2_22 (d := d) W (by omega) (by rw [eo, show H.2.2.1 22 3 = S.2.2.1 from hC.2.2.1]; exact hr)) ?_
        refine zw_ld (n := 1) (k := 0) (f := zp_isR) (pc' := 64) rfl rfl (zw_gt l0 rfl rfl) rfl rfl ?_
        refine zw_gI (q := 54) (pc' := 67) (zw_W_J (zw_W_I W)) rfl rfl rfl rfl (zw_nj (zw_ne rfl rfl)) rfl ?_
        refine zw_bne1 (g := 80) (pc' := 70) rfl rfl rfl rfl (fun h7 => ?_) (fun h7 => ?_)
        · exact absurd he h7
        · refine zw_ld (n := 1) (k := 0) (f := zp_isR) (pc' := 71) rfl rfl (zw_gt l0 rfl rfl) rfl rfl ?_
          refine zw_s (pc' := 72) rfl rfl ?_
          refine zw_gI (q := 54) (pc' := 75) (zw_W_J (zw_W_I W)) rfl rfl rfl rfl (zw_nj (zw_ne rfl rfl)) rfl ?_
          refine zw_s (pc' := 76) rfl rfl ?_
          refine zw_iadd (pc' := 77) rfl rfl ?_
          refine zw_pI (q := 54) (pc' := 80) (zw_W_J (zw_W_I W)) rfl rfl rfl rfl rfl rfl ?_
          refine zw_rn rfl rfl ?_
          have es := xS2_f (S := S) (c := (H.2.1 54 0).toInt) (hr := (H.2.1 54 1).toInt) h3 hr
          rw [es] at hP
          exact hP _ (zw_W_I (zw_W_J (zw_W_I W))) (xFr_I (xFr_J (xFr_I (xFr_r H) (by decide))) (by decide)) (zw_ne (zw_nj (zw_ne rfl rfl)) rfl) ((zw_ne (zw_nj zw_eq) rfl)) ((zw_ne (zw_nj (zw_ne rfl rfl)) rfl).trans he0) (zw_eq.trans (if_pos rfl).symm)

theorem xc54_sail22_1 {L : Nat} {σ : Nat → Int32} {d : Nat} {H : zp_H} {x2 : Int32} {S : xSea} (W : zw_W H) (hS : xOk S) (hC : xSC 22 H S) (hc : xIn S (H.2.1 54 0).toInt) (he : (H.2.1 54 2).toInt = 0) (hd : -1 ≤ x2.toInt ∧ x2.toInt ≤ 3) : ∃ X, zp_Call L σ (d + 3) 29 [.inr (.inr (some 55)), .inr (.inr (some 23)), .inl x2, .inl (Int32.ofInt 1)] H X ∧ ∃ H1, X = (.inl none, H1) ∧ zw_W H1 ∧ xFr 54 H H1 ∧ H1.2.1 54 4 = H.2.1 54 4 ∧ H1.2.1 54 0 = Int32.ofInt (xSt S (H.2.1 54 0).toInt (H.2.1 54 1).toInt x2.toInt true).2 ∧ H1.2.1 54 2 = Int32.ofInt (xSt S (H.2.1 54 0).toInt (H.2.1 54 1).toInt x2.toInt true).1 ∧ H1.2.1 54 1 = (if (xSt S (H.2.1 54 0).toInt (H.2.1 54 1).toInt x2.toInt true).1 = 0 then H.2.1 54 1 + Int32.ofInt 1 else H.2.1 54 1) := by
  refine zw_met zm_29_t rfl rfl ?_
  refine zw_ld (n := 1) (k := 2) (f := zp_isI) (pc' := 1) rfl rfl rfl rfl rfl ?_
  refine zw_s (pc' := 2) rfl rfl ?_
  refine zw_beq2 (g := 20) (pc' := 5) rfl rfl rfl rfl (rfl : _ = (-1 : Int)) (fun h1 => ?_) (fun h1 => ?_)
  · have e1 := xS1_n (S := S) (c := (H.2.1 54 0).toInt) h1
    have es : (xSt S (H.2.1 54 0).toInt (H.2.1 54 1).toInt x2.toInt true) = (xS2 S (H.2.1 54 0).toInt (H.2.1 54 1).toInt true) := (xSt_0 (congrArg Prod.fst e1)).trans (congrArg (fun z : Int × Int => xS2 S z.2 (H.2.1 54 1).toInt true) e1)
    refine xc54_sy22_1 W hS hC hc he rfl rfl rfl (fun H1 w1 w2 w3 w4 w5 w6 => ⟨H1, rfl, w1, w2, w3, ?_, ?_, ?_⟩) <;> rw [es]
    · exact w4
    · exact w5
    · exact w6
  · have h6 := xBe_64 (c := (H.2.1 54 0).toInt) (d := x2.toInt) hS
    have eo : (Int32.ofInt (xBe S.1 S.2.1 (H.2.1 54 0).toInt x2.toInt)).toInt = (xBe S.1 S.2.1 (H.2.1 54 0).toInt x2.toInt) := x_of (by omega) (by omega)
    have qn := xc_nc22 (L := L) (σ := σ) (d := d + 1) (xw := x2) W hS hC hc hd
    rw [if_neg h1] at qn
    refine zw_ld (n := 1) (k := 0) (f := zp_isR) (pc' := 6) rfl rfl rfl rfl rfl ?_
    refine zw_ld (n := 1) (k := 1) (f := zp_isR) (pc' := 7) rfl rfl rfl rfl rfl ?_
    refine zw_ld (n := 1) (k := 1) (f := zp_isR) (pc' := 8) rfl rfl rfl rfl rfl ?_
    refine zw_ld (n := 1) (k := 0) (f := zp_isR) (pc' := 9) rfl rfl rfl rfl rfl ?_
    refine zw_gI (q := 54) (pc' := 12) W rfl rfl rfl rfl rfl rfl ?_
    refine zw_ld (n := 1) (k := 2) (f := zp_isI) (pc' := 13) rfl rfl rfl rfl rfl ?_
    refine zw_c (pc' := 16) (zw_cv (q := 22) (Y := zm_30) W.1 rfl rfl zm_30_t rfl rfl) rfl rfl rfl rfl rfl (qn) ?_
    refine zw_s (pc' := 17) rfl rfl ?_
    by_cases h2 : (xBe S.1 S.2.1 (H.2.1 54 0).toInt x2.toInt) = -1
    · refine zw_cn (pc' := 20) (zw_cv (q := 54) (Y := zm_31) W.1 rfl rfl zm_31_t rfl rfl) rfl rfl rfl rfl rfl (xc54_g0_22 (d := d) W (eo.trans h2)) ?_
      have e1 := xS1_l (S := S) h1 h2
      have es : (xSt S (H.2.1 54 0).toInt (H.2.1 54 1).toInt x2.toInt true) = (3, (H.2.1 54 0).toInt) := (xSt_1 (fun h9 => absurd (show (3 : Int) = 0 from (congrArg Prod.fst e1).symm.trans h9) (by decide))).trans e1
      refine xc54_sn22_1 (zw_W_I W) rfl rfl rfl (by rw [show (zw_I H 54 2 (Int32.ofInt 3)).2.1 54 2 = Int32.ofInt 3 from zw_eq]; decide) ⟨_, rfl, zw_W_I W, xFr_I (xFr_r H) (by decide), zw_ne rfl rfl, ?_, ?_, ?_⟩ <;> rw [es]
      · exact (zw_ne rfl rfl).trans (x_oi _).symm
      · exact zw_eq
      · exact (zw_ne rfl rfl).trans (if_neg (fun h9 => absurd (show (3 : Int) = 0 from h9) (by decide))).symm
    · by_cases hr : yTb S.2.2.1 (xBe S.1 S.2.1 (H.2.1 54 0).toInt x2.toInt).toNat = true
      · refine zw_cn (pc' := 20) (zw_cv (q := 54) (Y := zm_31) W.1 rfl rfl zm_31_t rfl rfl) rfl rfl rfl rfl rfl (xc54_g1_22 (d := d) W (by omega) (by rw [eo, show H.2.2.1 22 3 = S.2.2.1 from hC.2.2.1]; exact hr)) ?_
        have e1 := xS1_r (S := S) h1 h2 hr
        have es : (xSt S (H.2.1 54 0).toInt (H.2.1 54 1).toInt x2.toInt true) = (1, (xBe S.1 S.2.1 (H.2.1 54 0).toInt x2.toInt)) := (xSt_1 (fun h9 => absurd (show (1 : Int) = 0 from (congrArg Prod.fst e1).symm.trans h9) (by decide))).trans e1
        refine xc54_sn22_1 (zw_W_I (zw_W_I W)) rfl rfl rfl (by rw [show (zw_I (zw_I H 54 0 (Int32.ofInt (xBe S.1 S.2.1 (H.2.1 54 0).toInt x2.toInt))) 54 2 (Int32.ofInt 1)).2.1 54 2 = Int32.ofInt 1 from zw_eq]; decide) ⟨_, rfl, zw_W_I (zw_W_I W), xFr_I (xFr_I (xFr_r H) (by decide)) (by decide), zw_ne (zw_ne rfl rfl) rfl, ?_, ?_, ?_⟩ <;> rw [es]
        · exact zw_ne zw_eq rfl
        · exact zw_eq
        · exact (zw_ne (zw_ne rfl rfl) rfl).trans (if_neg (fun h9 => absurd (show (1 : Int) = 0 from h9) (by decide))).symm
      · refine zw_cn (pc' := 20) (zw_cv (q := 54) (Y := zm_31) W.1 rfl rfl zm_31_t rfl rfl) rfl rfl rfl rfl rfl (xc54_g2_22 (d := d) W (by omega) (by rw [eo, show H.2.2.1 22 3 = S.2.2.1 from hC.2.2.1]; exact hr)) ?_
        have e1 := xS1_f (S := S) h1 h2 hr
        have es : (xSt S (H.2.1 54 0).toInt (H.2.1 54 1).toInt x2.toInt true) = xS2 S (xBe S.1 S.2.1 (H.2.1 54 0).toInt x2.toInt) (H.2.1 54 1).toInt true := (xSt_0 (congrArg Prod.fst e1)).trans (congrArg (fun z : Int × Int => xS2 S z.2 (H.2.1 54 1).toInt true) e1)
        have k0 : (zw_J (zw_I H 54 0 (Int32.ofInt (xBe S.1 S.2.1 (H.2.1 54 0).toInt x2.toInt))) 54 7 (H.2.2.1 54 7 ||| za_shl0 (Int64.ofNat 1) (Int32.ofInt (xBe S.1 S.2.1 (H.2.1 54 0).toInt x2.toInt)))).2.1 54 0 = Int32.ofInt (xBe S.1 S.2.1 (H.2.1 54 0).toInt x2.toInt) := zw_nj zw_eq
        have k1 : (zw_J (zw_I H 54 0 (Int32.ofInt (xBe S.1 S.2.1 (H.2.1 54 0).toInt x2.toInt))) 54 7 (H.2.2.1 54 7 ||| za_shl0 (Int64.ofNat 1) (Int32.ofInt (xBe S.1 S.2.1 (H.2.1 54 0).toInt x2.toInt)))).2.1 54 1 = H.2.1 54 1 := zw_nj (zw_ne rfl rfl)
        have k2 : (zw_J (zw_I H 54 0 (Int32.ofInt (xBe S.1 S.2.1 (H.2.1 54 0).toInt x2.toInt))) 54 7 (H.2.2.1 54 7 ||| za_shl0 (Int64.ofNat 1) (Int32.ofInt (xBe S.1 S.2.1 (H.2.1 54 0).toInt x2.toInt)))).2.1 54 2 = H.2.1 54 2 := zw_nj (zw_ne rfl rfl)
        have k4 : (zw_J (zw_I H 54 0 (Int32.ofInt (xBe S.1 S.2.1 (H.2.1 54 0).toInt x2.toInt))) 54 7 (H.2.2.1 54 7 ||| za_shl0 (Int64.ofNat 1) (Int32.ofInt (xBe S.1 S.2.1 (H.2.1 54 0).toInt x2.toInt)))).2.1 54 4 = H.2.1 54 4 := zw_nj (zw_ne rfl rfl)
        have fr : xFr 54 H (zw_J (zw_I H 54 0 (Int32.ofInt (xBe S.1 S.2.1 (H.2.1 54 0).toInt x2.toInt))) 54 7 (H.2.2.1 54 7 ||| za_shl0 (Int64.ofNat 1) (Int32.ofInt (xBe S.1 S.2.1 (H.2.1 54 0).toInt x2.toInt)))) := xFr_J (xFr_I (xFr_r H) (by decide))
        have hi : xIn S (xBe S.1 S.2.1 (H.2.1 54 0).toInt x2.toInt) := (xBe_b hS.1.1).resolve_left h2
        refine xc54_sy22_1 (S := S) (zw_W_J (zw_W_I W)) hS (xSC_f fr (by decide) hC) (by rw [k0, eo]; exact hi) (by rw [k2]; exact he) rfl rfl rfl (fun H1 w1 w2 w3 w4 w5 w6 => ?_)
        rw [k0, k1, eo] at w4 w5 w6
        rw [k4] at w3
        refine ⟨H1, rfl, w1, xFr_t fr w2, w3, ?_, ?_, ?_⟩ <;> rw [es]
        · exact w4
        · exact w5
        · exact w6
end
