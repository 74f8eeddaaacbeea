section
/-! ===== slate ===== -/
def zm_106 : za_MI := (yL_slate, method_6_code, 5, (some FieldType.int), 13, 2, 12, [(0, 10, 13, 18)], za_i106)
theorem zm_106_t : za_MT 106 = some zm_106 := rfl
def zm_209 : za_MI := (yX12_slate, prog_14_method_50_code, 3, (some FieldType.int), 12, 0, 0, [], za_i209)
theorem zm_209_t : za_MT 209 = some zm_209 := rfl
theorem y0123 {x : Int32} (h : 0 ≤ x.toInt ∧ x.toInt ≤ (Int32.ofInt 3).toInt) : x = Int32.ofInt 0 ∨ x = Int32.ofInt 1 ∨ x = Int32.ofInt 2 ∨ x = Int32.ofInt 3 := by
  have h2 : x.toInt ≤ 3 := h.2
  rcases (show x.toInt = 0 ∨ x.toInt = 1 ∨ x.toInt = 2 ∨ x.toInt = 3 by omega) with h9 | h9 | h9 | h9
  · exact Or.inl (Int32.toInt_inj.mp h9)
  · exact Or.inr (Or.inl (Int32.toInt_inj.mp h9))
  · exact Or.inr (Or.inr (Or.inl (Int32.toInt_inj.mp h9)))
  · exact Or.inr (Or.inr (Or.inr (Int32.toInt_inj.mp h9)))
end
section
/-! ===== mark ===== -/
def zm_109 : za_MI := (yL_mark, method_7_code, 6, (some FieldType.int), 13, 3, 18, [(0, 12, 15, 18)], za_i109)
theorem zm_109_t : za_MT 109 = some zm_109 := rfl
def zm_211 : za_MI := (yX12_mark, prog_14_method_51_code, 4, (some FieldType.int), 12, 0, 0, [], za_i211)
theorem zm_211_t : za_MT 211 = some zm_211 := rfl
theorem yc_wayOf13 {L : Nat} {σ : Nat → Int32} {d : Nat} {H : zp_H} (W : zw_W H) {x1 x2 : Int32} (h1 : 0 ≤ x1.toInt ∧ x1.toInt < 8) (h2 : 0 ≤ x2.toInt ∧ x2.toInt < 8) : zp_Call L σ (d + 1) 26 [.inr (.inr (some 14)), .inl x1, .inl x2] H (.inl (some (.inl (H.2.1 18 (8 * x1.toInt.toNat + x2.toInt.toNat)))), H) := by
  have m1 : (x1 * Int32.ofInt 8).toInt = x1.toInt * 8 := zq_mul rfl (by omega) (by omega)
  have m2 : (x1 * Int32.ofInt 8 + x2).toInt = x1.toInt * 8 + x2.toInt := by rw [zq_add (by rw [m1]; omega) (by rw [m1]; omega), m1]
  have m3 : (x1 * Int32.ofInt 8 + x2).toInt.toNat = 8 * x1.toInt.toNat + x2.toInt.toNat := by omega
  refine zw_ex (zw_met zm_26_t rfl rfl ?_)
  refine zw_ld (n := 1) (k := 0) (f := zp_isR) (pc' := 1) rfl rfl rfl rfl rfl ?_
  refine zw_gR (q := 13) (pc' := 4) W rfl rfl rfl rfl (W.2 13 5 _ rfl) rfl ?_
  refine zw_ld (n := 1) (k := 1) (f := zp_isI) (pc' := 5) rfl rfl rfl rfl rfl ?_
  refine zw_s (pc' := 7) rfl rfl ?_
  refine zw_imul (pc' := 8) rfl rfl ?_
  refine zw_ld (n := 1) (k := 2) (f := zp_isI) (pc' := 9) rfl rfl rfl rfl rfl ?_
  refine zw_iadd (pc' := 10) rfl rfl ?_
  refine zw_ia (q := 18) (pc' := 11) W rfl rfl (by decide) (⟨by omega, by show _ < ((64 : Nat) : Int); omega⟩) rfl rfl ?_
  refine zw_ri rfl rfl ?_
  rw [m3]

theorem yc_stepsOf13 {L : Nat} {σ : Nat → Int32} {d : Nat} {H : zp_H} (W : zw_W H) {x1 x2 : Int32} (h1 : 0 ≤ x1.toInt ∧ x1.toInt < 8) (h2 : 0 ≤ x2.toInt ∧ x2.toInt < 8) : zp_Call L σ (d + 1) 27 [.inr (.inr (some 14)), .inl x1, .inl x2] H (.inl (some (.inl (H.2.1 19 (8 * x1.toInt.toNat + x2.toInt.toNat)))), H) := by
  have m1 : (x1 * Int32.ofInt 8).toInt = x1.toInt * 8 := zq_mul rfl (by omega) (by omega)
  have m2 : (x1 * Int32.ofInt 8 + x2).toInt = x1.toInt * 8 + x2.toInt := by rw [zq_add (by rw [m1]; omega) (by rw [m1]; omega), m1]
  have m3 : (x1 * Int32.ofInt 8 + x2).toInt.toNat = 8 * x1.toInt.toNat + x2.toInt.toNat := by omega
  refine zw_ex (zw_met zm_27_t rfl rfl ?_)
  refine zw_ld (n := 1) (k := 0) (f := zp_isR) (pc' := 1) rfl rfl rfl rfl rfl ?_
  refine zw_gR (q := 13) (pc' := 4) W rfl rfl rfl rfl (W.2 13 6 _ rfl) rfl ?_
  refine zw_ld (n := 1) (k := 1) (f := zp_isI) (pc' := 5) rfl rfl rfl rfl rfl ?_
  refine zw_s (pc' := 7) rfl rfl ?_
  refine zw_imul (pc' := 8) rfl rfl ?_
  refine zw_ld (n := 1) (k := 2) (f := zp_isI) (pc' := 9) rfl rfl rfl rfl rfl ?_
  refine zw_iadd (pc' := 10) rfl rfl ?_
  refine zw_ia (q := 19) (pc' := 11) W rfl rfl (by decide) (⟨by omega, by show _ < ((64 : Nat) : Int); omega⟩) rfl rfl ?_
  refine zw_ri rfl rfl ?_
  rw [m3]

theorem yc_wayOf33 {L : Nat} {σ : Nat → Int32} {d : Nat} {H : zp_H} (W : zw_W H) {x1 x2 : Int32} (h1 : 0 ≤ x1.toInt ∧ x1.toInt < 8) (h2 : 0 ≤ x2.toInt ∧ x2.toInt < 8) : zp_Call L σ (d + 1) 26 [.inr (.inr (some 34)), .inl x1, .inl x2] H (.inl (some (.inl (H.2.1 38 (8 * x1.toInt.toNat + x2.toInt.toNat)))), H) := by
  have m1 : (x1 * Int32.ofInt 8).toInt = x1.toInt * 8 := zq_mul rfl (by omega) (by omega)
  have m2 : (x1 * Int32.ofInt 8 + x2).toInt = x1.toInt * 8 + x2.toInt := by rw [zq_add (by rw [m1]; omega) (by rw [m1]; omega), m1]
  have m3 : (x1 * Int32.ofInt 8 + x2).toInt.toNat = 8 * x1.toInt.toNat + x2.toInt.toNat := by omega
  refine zw_ex (zw_met zm_26_t rfl rfl ?_)
  refine zw_ld (n := 1) (k := 0) (f := zp_isR) (pc' := 1) rfl rfl rfl rfl rfl ?_
  refine zw_gR (q := 33) (pc' := 4) W rfl rfl rfl rfl (W.2 33 5 _ rfl) rfl ?_
  refine zw_ld (n := 1) (k := 1) (f := zp_isI) (pc' := 5) rfl rfl rfl rfl rfl ?_
  refine zw_s (pc' := 7) rfl rfl ?_
  refine zw_imul (pc' := 8) rfl rfl ?_
  refine zw_ld (n := 1) (k := 2) (f := zp_isI) (pc' := 9) rfl rfl rfl rfl rfl ?_
  refine zw_iadd (pc' := 10) rfl rfl ?_
  refine zw_ia (q := 38) (pc' := 11) W rfl rfl (by decide) (⟨by omega, by show _ < ((64 : Nat) : Int); omega⟩) rfl rfl ?_
  refine zw_ri rfl rfl ?_
  rw [m3]

theorem yc_stepsOf33 {L : Nat} {σ : Nat → Int32} {d : Nat} {H : zp_H} (W : zw_W H) {x1 x2 : Int32} (h1 : 0 ≤ x1.toInt ∧ x1.toInt < 8) (h2 : 0 ≤ x2.toInt ∧ x2.toInt < 8) : zp_Call L σ (d + 1) 27 [.inr (.inr (some 34)), .inl x1, .inl x2] H (.inl (some (.inl (H.2.1 39 (8 * x1.toInt.toNat + x2.toInt.toNat)))), H) := by
  have m1 : (x1 * Int32.ofInt 8).toInt = x1.toInt * 8 := zq_mul rfl (by omega) (by omega)
  have m2 : (x1 * Int32.ofInt 8 + x2).toInt = x1.toInt * 8 + x2.toInt := by rw [zq_add (by rw [m1]; omega) (by rw [m1]; omega), m1]
  have m3 : (x1 * Int32.ofInt 8 + x2).toInt.toNat = 8 * x1.toInt.toNat + x2.toInt.toNat := by omega
  refine zw_ex (zw_met zm_27_t rfl rfl ?_)
  refine zw_ld (n := 1) (k := 0) (f := zp_isR) (pc' := 1) rfl rfl rfl rfl rfl ?_
  refine zw_gR (q := 33) (pc' := 4) W rfl rfl rfl rfl (W.2 33 6 _ rfl) rfl ?_
  refine zw_ld (n := 1) (k := 1) (f := zp_isI) (pc' := 5) rfl rfl rfl rfl rfl ?_
  refine zw_s (pc' := 7) rfl rfl ?_
  refine zw_imul (pc' := 8) rfl rfl ?_
  refine zw_ld (n := 1) (k := 2) (f := zp_isI) (pc' := 9) rfl rfl rfl rfl rfl ?_
  refine zw_iadd (pc' := 10) rfl rfl ?_
  refine zw_ia (q := 39) (pc' := 11) W rfl rfl (by decide) (⟨by omega, by show _ < ((64 : Nat) : Int); omega⟩) rfl rfl ?_
  refine zw_ri rfl rfl ?_
  rw [m3]
end
section
/-! ===== a step at sea, said once for both sides ===== -/
def xBe (w h c d : Int) : Int := if c % w + (if d = 1 then 1 else if d = 3 then -1 else 0) < 0 ∨ c / w + (if d = 2 then 1 else if d = 0 then -1 else 0) < 0 ∨ w ≤ c % w + (if d = 1 then 1 else if d = 3 then -1 else 0) ∨ h ≤ c / w + (if d = 2 then 1 else if d = 0 then -1 else 0) then -1 else w * (c / w + (if d = 2 then 1 else if d = 0 then -1 else 0)) + (c % w + (if d = 1 then 1 else if d = 3 then -1 else 0))
/-- wide, high, rocks, currents -/
abbrev xSea : Type := Int × Int × Int64 × (Nat → Int)
def xS1 (S : xSea) (c d : Int) : Int × Int := if d = -1 then (0, c) else if xBe S.1 S.2.1 c d = -1 then (3, c) else ((if yTb S.2.2.1 (xBe S.1 S.2.1 c d).toNat = true then 1 else 0), xBe S.1 S.2.1 c d)
def xDr (S : xSea) (c hr : Int) (t : Bool) : Int := if t = true ∧ hr % 2 = 0 ∧ S.2.2.2 c.toNat ≠ -1 then xBe S.1 S.2.1 c (S.2.2.2 c.toNat) else -1
def xS2 (S : xSea) (c hr : Int) (t : Bool) : Int × Int := if xDr S c hr t = -1 then (0, c) else ((if yTb S.2.2.1 (xDr S c hr t).toNat = true then 2 else 0), xDr S c hr t)
def xSt (S : xSea) (c hr d : Int) (t : Bool) : Int × Int := if (xS1 S c d).1 = 0 then xS2 S (xS1 S c d).2 hr t else xS1 S c d
/-- a sea as told -/
def xOk (S : xSea) : Prop := (2 ≤ S.1 ∧ S.1 ≤ 8) ∧ (2 ≤ S.2.1 ∧ S.2.1 ≤ 8) ∧ ∀ k, -1 ≤ S.2.2.2 k ∧ S.2.2.2 k ≤ 3
def xIn (S : xSea) (c : Int) : Prop := 0 ≤ c ∧ c < S.1 * S.2.1
theorem xIn_64 {S : xSea} {c : Int} (hS : xOk S) (h : xIn S c) : 0 ≤ c ∧ c ≤ 63 := by
  have h2 : S.1 * S.2.1 ≤ 8 * 8 := Int.mul_le_mul hS.1.2 hS.2.1.2 (by have := hS.2.1; omega) (by omega)
  have h1 := h.2
  exact ⟨h.1, by omega⟩
theorem xBe_b {w h c d : Int} (hw : 2 ≤ w) : xBe w h c d = -1 ∨ (0 ≤ xBe w h c d ∧ xBe w h c d < w * h) := by
  unfold xBe
  generalize c % w + (if d = 1 then 1 else if d = 3 then -1 else 0) = x
  generalize c / w + (if d = 2 then 1 else if d = 0 then -1 else 0) = y
  by_cases k : x < 0 ∨ y < 0 ∨ w ≤ x ∨ h ≤ y
  · rw [if_pos k]; exact Or.inl rfl
  · rw [if_neg k]
    exact Or.inr (ycell hw (by omega) (by omega) (by omega) (by omega))
theorem xS1_b {S : xSea} {c d : Int} (hS : xOk S) (hc : xIn S c) : xIn S (xS1 S c d).2 ∧ 0 ≤ (xS1 S c d).1 ∧ (xS1 S c d).1 ≤ 3 := by
  unfold xS1
  by_cases h1 : d = -1
  · rw [if_pos h1]; exact ⟨hc, (by decide : (0 : Int) ≤ 0), (by decide : (0 : Int) ≤ 3)⟩
  rw [if_neg h1]
  by_cases h2 : xBe S.1 S.2.1 c d = -1
  · rw [if_pos h2]; exact ⟨hc, (by decide : (0 : Int) ≤ 3), (by decide : (3 : Int) ≤ 3)⟩
  rw [if_neg h2]
  refine ⟨(xBe_b hS.1.1).resolve_left h2, ?_, ?_⟩
  · show 0 ≤ (if _ then (1 : Int) else 0)
    by_cases h3 : yTb S.2.2.1 (xBe S.1 S.2.1 c d).toNat = true
    · rw [if_pos h3]; decide
    · rw [if_neg h3]; decide
  · show (if _ then (1 : Int) else 0) ≤ 3
    by_cases h3 : yTb S.2.2.1 (xBe S.1 S.2.1 c d).toNat = true
    · rw [if_pos h3]; decide
    · rw [if_neg h3]; decide
theorem xDr_b {S : xSea} {c hr : Int} {t : Bool} (hS : xOk S) : xDr S c hr t = -1 ∨ xIn S (xDr S c hr t) := by
  unfold xDr
  by_cases h1 : t = true ∧ hr % 2 = 0 ∧ S.2.2.2 c.toNat ≠ -1
  · rw [if_pos h1]
    exact xBe_b hS.1.1
  · rw [if_neg h1]; exact Or.inl rfl
theorem xS2_b {S : xSea} {c hr : Int} {t : Bool} (hS : xOk S) (hc : xIn S c) : xIn S (xS2 S c hr t).2 ∧ 0 ≤ (xS2 S c hr t).1 ∧ (xS2 S c hr t).1 ≤ 3 := by
  unfold xS2
  by_cases h2 : xDr S c hr t = -1
  · rw [if_pos h2]; exact ⟨hc, (by decide : (0 : Int) ≤ 0), (by decide : (0 : Int) ≤ 3)⟩
  rw [if_neg h2]
  refine ⟨(xDr_b hS).resolve_left h2, ?_, ?_⟩
  · show 0 ≤ (if _ then (2 : Int) else 0)
    by_cases h3 : yTb S.2.2.1 (xDr S c hr t).toNat = true
    · rw [if_pos h3]; decide
    · rw [if_neg h3]; decide
  · show (if _ then (2 : Int) else 0) ≤ 3
    by_cases h3 : yTb S.2.2.1 (xDr S c hr t).toNat = true
    · rw [if_pos h3]; decide
    · rw [if_neg h3]; decide
theorem xSt_b {S : xSea} {c hr d : Int} {t : Bool} (hS : xOk S) (hc : xIn S c) : xIn S (xSt S c hr d t).2 ∧ 0 ≤ (xSt S c hr d t).1 ∧ (xSt S c hr d t).1 ≤ 3 := by
  unfold xSt
  have h1 := xS1_b (d := d) hS hc
  by_cases h2 : (xS1 S c d).1 = 0
  · rw [if_pos h2]; exact xS2_b hS h1.1
  · rw [if_neg h2]; exact h1
/-- the class's masks say the same -/
def xNck (w h k c : Nat) : Bool := (decide (¬ c < (w + 2) * (h + 2))).or ((decide (zq_b (zq_o (Int32.ofNat (w + 2)) (Int32.ofNat (h + 2)) (zq_col (Int32.ofNat (w + 2)) (Int32.ofNat (h + 2))) k) (Int32.ofNat c) = 0 ∧ xBe (w + 2 : Nat) (h + 2 : Nat) c k = -1)).or (decide (zq_b (zq_o (Int32.ofNat (w + 2)) (Int32.ofNat (h + 2)) (zq_col (Int32.ofNat (w + 2)) (Int32.ofNat (h + 2))) k) (Int32.ofNat c) ≠ 0 ∧ xBe (w + 2 : Nat) (h + 2 : Nat) c k = zq_n k c (w + 2 : Nat) ∧ xBe (w + 2 : Nat) (h + 2 : Nat) c k ≠ -1)))
theorem xN_tab : (List.range 7).all (fun w => (List.range 7).all (fun h => (List.range 4).all (fun k => (List.range 64).all (fun c => xNck w h k c)))) = true := by decide +kernel
theorem xN_ok {w h c : Int32} {k : Nat} (hw : 2 ≤ w.toInt ∧ w.toInt ≤ 8) (hh : 2 ≤ h.toInt ∧ h.toInt ≤ 8) (hk : k < 4) (h0 : 0 ≤ c.toInt) (h1 : c.toInt < w.toInt * h.toInt) : (zq_b (zq_o w h (zq_col w h) k) c = 0 ∧ xBe w.toInt h.toInt c.toInt k = -1) ∨ (zq_b (zq_o w h (zq_col w h) k) c ≠ 0 ∧ xBe w.toInt h.toInt c.toInt k = zq_n k c.toInt w.toInt ∧ xBe w.toInt h.toInt c.toInt k ≠ -1) := by
  have h2 : w.toInt * h.toInt ≤ 8 * 8 := Int.mul_le_mul hw.2 hh.2 (by omega) (by omega)
  obtain ⟨a, a1, rfl⟩ := zq_i (n := 2) (m := 7) (x := w) (by omega) (by omega) (by decide)
  obtain ⟨b, b1, rfl⟩ := zq_i (n := 2) (m := 7) (x := h) (by omega) (by omega) (by decide)
  obtain ⟨e, e1, he⟩ := zq_i (n := 0) (m := 64) (x := c) (by omega) (by omega) (by decide)
  have he : c = Int32.ofNat e := he
  subst he
  have t := List.all_eq_true.mp (List.all_eq_true.mp (List.all_eq_true.mp (List.all_eq_true.mp xN_tab a (List.mem_range.mpr a1)) b (List.mem_range.mpr b1)) k (List.mem_range.mpr hk)) e (List.mem_range.mpr e1)
  have ea : (Int32.ofNat (a + 2)).toInt = ((a + 2 : Nat) : Int) := Int32.toInt_ofNat_of_lt (by show _ < 2147483648; omega)
  have eb : (Int32.ofNat (b + 2)).toInt = ((b + 2 : Nat) : Int) := Int32.toInt_ofNat_of_lt (by show _ < 2147483648; omega)
  have ee : (Int32.ofNat e).toInt = (e : Int) := Int32.toInt_ofNat_of_lt (by show _ < 2147483648; omega)
  rw [ea, eb, ee] at h1
  rw [ea, eb, ee]
  have h3 : e < (a + 2) * (b + 2) := by
    have : ((a + 2 : Nat) : Int) * ((b + 2 : Nat) : Int) = (((a + 2) * (b + 2) : Nat) : Int) := (Int.natCast_mul _ _).symm
    omega
  rcases Bool.or_eq_true_iff.mp t with t | t
  · exact absurd h3 (of_decide_eq_true t)
  rcases Bool.or_eq_true_iff.mp t with t | t
  · exact Or.inl (of_decide_eq_true t)
  · exact Or.inr (of_decide_eq_true t)
/-- even, as both ask it -/
theorem x_ev {x : Int32} : ((x &&& Int32.ofInt 1).toInt = 0 ↔ x.toInt % 2 = 0) := by
  have e : (x &&& Int32.ofInt 1).toBitVec.toNat = x.toBitVec.toNat % 2 := by
    rw [Int32.toBitVec_and, BitVec.toNat_and]
    exact Nat.and_two_pow_sub_one_eq_mod _ 1
  have e1 : (x &&& Int32.ofInt 1).toInt = ((x.toBitVec.toNat % 2 : Nat) : Int) := by
    rw [← Int32.toInt_toBitVec, BitVec.toInt_eq_toNat_of_lt (by rw [e]; omega), e]
  have e3 : x.toInt = (x.toBitVec.toNat : Int) ∨ x.toInt = (x.toBitVec.toNat : Int) - 4294967296 := by
    rw [← Int32.toInt_toBitVec, BitVec.toInt_eq_toNat_cond]
    split
    · exact Or.inl rfl
    · exact Or.inr rfl
  rw [e1]
  omega
theorem x_div {x y : Int32} (hx : 0 ≤ x.toInt) (hy : 0 < y.toInt) : (x / y).toInt = x.toInt / y.toInt := by
  have h1 : x.toInt.tdiv y.toInt = x.toInt / y.toInt := Int.tdiv_eq_ediv_of_nonneg hx
  have h2 : 0 ≤ x.toInt / y.toInt := Int.ediv_nonneg hx (by omega)
  have h3 : x.toInt / y.toInt ≤ x.toInt := Int.ediv_le_self _ hx
  have h4 := Int32.toInt_le x
  have h5 : x.toInt ≤ 2147483647 := h4
  rw [Int32.toInt_div, h1]
  exact Int.bmod_eq_of_le (by omega) (by omega)
theorem x_rem {x y : Int32} (hx : 0 ≤ x.toInt) (hy : 0 < y.toInt) : (x - x / y * y).toInt = x.toInt % y.toInt := by
  have h1 := x_div hx hy
  have h2 : 0 ≤ x.toInt / y.toInt := Int.ediv_nonneg hx (by omega)
  have h3 : y.toInt * (x.toInt / y.toInt) + x.toInt % y.toInt = x.toInt := Int.mul_ediv_add_emod _ _
  have h4 : 0 ≤ x.toInt % y.toInt := Int.emod_nonneg _ (by omega)
  have h5 := Int32.toInt_le x
  have h5 : x.toInt ≤ 2147483647 := h5
  have h6 : (x / y * y).toInt = x.toInt / y.toInt * y.toInt := by
    rw [Int32.toInt_mul, h1]
    have h7 : x.toInt / y.toInt * y.toInt = y.toInt * (x.toInt / y.toInt) := Int.mul_comm _ _
    have h8 : 0 ≤ y.toInt * (x.toInt / y.toInt) := Int.mul_nonneg (by omega) h2
    exact Int.bmod_eq_of_le (by omega) (by omega)
  have h7 : x.toInt / y.toInt * y.toInt = y.toInt * (x.toInt / y.toInt) := Int.mul_comm _ _
  have h8 : 0 ≤ y.toInt * (x.toInt / y.toInt) := Int.mul_nonneg (by omega) h2
  rw [zq_sub (by rw [h6]; omega) (by rw [h6]; omega), h6]
  omega
end
section
/-! ===== an hour at sea, of the class ===== -/
/-- the class's sea -/
def xSC (p : Nat) (H : zp_H) (S : xSea) : Prop := (H.2.1 p 0).toInt = S.1 ∧ (H.2.1 p 1).toInt = S.2.1 ∧ H.2.2.1 p 3 = S.2.2.1 ∧ (∀ k, k < 64 → (H.2.1 (p + 2) k).toInt = S.2.2.2 k) ∧ ∀ k, k < 4 → H.2.2.1 (p + 1) k = zq_o (H.2.1 p 0) (H.2.1 p 1) (zq_col (H.2.1 p 0) (H.2.1 p 1)) k
theorem x_of {z : Int} (h0 : -2147483648 ≤ z) (h1 : z ≤ 2147483647) : (Int32.ofInt z).toInt = z := by
  rw [Int32.toInt_ofInt]
  exact za_bmod (by omega) (by omega)
theorem x_oi (x : Int32) : Int32.ofInt x.toInt = x := Int32.toInt_inj.mp (x_of (by have h : -2147483648 ≤ x.toInt := Int32.le_toInt x; omega) (by have h : x.toInt ≤ 2147483647 := Int32.toInt_le x; omega))
theorem x_rv {u v : Int32} {H : zp_H} (h : u = v) : ((.inl (some (.inl u)), H) : zp_X) = (.inl (some (.inl v)), H) := by rw [h]
theorem xBe_64 {S : xSea} {c d : Int} (hS : xOk S) : -1 ≤ xBe S.1 S.2.1 c d ∧ xBe S.1 S.2.1 c d ≤ 63 := by
  rcases xBe_b (h := S.2.1) (c := c) (d := d) hS.1.1 with h | h
  · omega
  · have := xIn_64 hS h
    omega
theorem xDr_64 {S : xSea} {c hr : Int} {t : Bool} (hS : xOk S) : -1 ≤ xDr S c hr t ∧ xDr S c hr t ≤ 63 := by
  rcases xDr_b (c := c) (hr := hr) (t := t) hS with h | h
  · omega
  · have := xIn_64 hS h
    omega
theorem xSt_0 {S : xSea} {c hr d : Int} {t : Bool} (h : (xS1 S c d).1 = 0) : xSt S c hr d t = xS2 S (xS1 S c d).2 hr t := if_pos h
theorem xSt_1 {S : xSea} {c hr d : Int} {t : Bool} (h : ¬ (xS1 S c d).1 = 0) : xSt S c hr d t = xS1 S c d := if_neg h
theorem xS1_n {S : xSea} {c d : Int} (h : d = -1) : xS1 S c d = (0, c) := if_pos h
theorem xS1_l {S : xSea} {c d : Int} (h : d ≠ -1) (h2 : xBe S.1 S.2.1 c d = -1) : xS1 S c d = (3, c) := (if_neg h).trans (if_pos h2)
theorem xS1_r {S : xSea} {c d : Int} (h : d ≠ -1) (h2 : xBe S.1 S.2.1 c d ≠ -1) (h3 : yTb S.2.2.1 (xBe S.1 S.2.1 c d).toNat = true) : xS1 S c d = (1, xBe S.1 S.2.1 c d) := (if_neg h).trans ((if_neg h2).trans (congrArg (fun z : Int => (z, xBe S.1 S.2.1 c d)) (if_pos h3)))
theorem xS1_f {S : xSea} {c d : Int} (h : d ≠ -1) (h2 : xBe S.1 S.2.1 c d ≠ -1) (h3 : ¬ yTb S.2.2.1 (xBe S.1 S.2.1 c d).toNat = true) : xS1 S c d = (0, xBe S.1 S.2.1 c d) := (if_neg h).trans ((if_neg h2).trans (congrArg (fun z : Int => (z, xBe S.1 S.2.1 c d)) (if_neg h3)))
theorem xS2_n {S : xSea} {c hr : Int} {t : Bool} (h : xDr S c hr t = -1) : xS2 S c hr t = (0, c) := if_pos h
theorem xS2_r {S : xSea} {c hr : Int} {t : Bool} (h : xDr S c hr t ≠ -1) (h3 : yTb S.2.2.1 (xDr S c hr t).toNat = true) : xS2 S c hr t = (2, xDr S c hr t) := (if_neg h).trans (congrArg (fun z : Int => (z, xDr S c hr t)) (if_pos h3))
theorem xS2_f {S : xSea} {c hr : Int} {t : Bool} (h : xDr S c hr t ≠ -1) (h3 : ¬ yTb S.2.2.1 (xDr S c hr t).toNat = true) : xS2 S c hr t = (0, xDr S c hr t) := (if_neg h).trans (congrArg (fun z : Int => (z, xDr S c hr t)) (if_neg h3))
end
section
/-! ===== marks followed, a voyage: the class ===== -/
theorem xSt_o {S : xSea} {c hr d : Int} {t : Bool} (hS : xOk S) (hc : xIn S c) : (Int32.ofInt (xSt S c hr d t).1).toInt = (xSt S c hr d t).1 ∧ (Int32.ofInt (xSt S c hr d t).2).toInt = (xSt S c hr d t).2 := by
  have h := xSt_b (hr := hr) (d := d) (t := t) hS hc
  have h2 := xIn_64 hS h.1
  exact ⟨x_of (by omega) (by omega), x_of (by omega) (by omega)⟩
/-- but a ship nothing is changed -/
def xFv (q : Nat) (H H1 : zp_H) : Prop := H1.1 = H.1 ∧ H1.2.2.2 = H.2.2.2 ∧ (∀ p k, p ≠ q → H1.2.1 p k = H.2.1 p k) ∧ ∀ p k, p ≠ q → H1.2.2.1 p k = H.2.2.1 p k
theorem xFv_r {q : Nat} (H : zp_H) : xFv q H H := ⟨rfl, rfl, fun _ _ _ => rfl, fun _ _ _ => rfl⟩
theorem xFv_t {q : Nat} {H H1 H2 : zp_H} (h1 : xFv q H H1) (h2 : xFv q H1 H2) : xFv q H H2 := ⟨h2.1.trans h1.1, h2.2.1.trans h1.2.1, fun p k h => (h2.2.2.1 p k h).trans (h1.2.2.1 p k h), fun p k h => (h2.2.2.2 p k h).trans (h1.2.2.2 p k h)⟩
theorem xFv_J {q k : Nat} {H H1 : zp_H} {u : Int64} (h : xFv q H H1) : xFv q H (zw_J H1 q k u) := ⟨h.1, h.2.1, h.2.2.1, fun p j hn => (zp_u_ne (fun h9 => hn h9.1)).trans (h.2.2.2 p j hn)⟩
theorem xSC_v {q p : Nat} {H H1 : zp_H} {S : xSea} (h : xFv q H H1) (hp : p ≠ q ∧ p + 1 ≠ q ∧ p + 2 ≠ q) (hC : xSC p H S) : xSC p H1 S := by
  have e0 : H1.2.1 p 0 = H.2.1 p 0 := h.2.2.1 p 0 hp.1
  have e1 : H1.2.1 p 1 = H.2.1 p 1 := h.2.2.1 p 1 hp.1
  refine ⟨(congrArg Int32.toInt e0).trans hC.1, (congrArg Int32.toInt e1).trans hC.2.1, (h.2.2.2 p 3 hp.1).trans hC.2.2.1, fun k hk => (congrArg Int32.toInt (h.2.2.1 (p + 2) k hp.2.2)).trans (hC.2.2.2.1 k hk), fun k hk => ?_⟩
  rw [e0, e1]
  exact (h.2.2.2 (p + 1) k hp.2.1).trans (hC.2.2.2.2 k hk)
end
section
/-! ===== an hour at sea: the reference ===== -/
def zm_221 : za_MI := (yX12_steps, prog_14_method_59_code, 5, (some FieldType.int), 12, 0, 0, [], za_i221)
theorem zm_221_t : za_MT 221 = some zm_221 := rfl
def zm_222 : za_MI := (yX12_beside, prog_14_method_57_code, 5, (some FieldType.int), 12, 0, 0, [], za_i222)
theorem zm_222_t : za_MT 222 = some zm_222 := rfl
def zm_223 : za_MI := (yX12_isRock, prog_14_method_58_code, 2, (some FieldType.boolean), 12, 0, 0, [], za_i223)
theorem zm_223_t : za_MT 223 = some zm_223 := rfl
theorem zw_div {L : Nat} {σ : Nat → Int32} {P : zp_X → Prop} {M : za_MI} {fs : List zs_F} {d pc pc' : Nat} {lv : zp_LV} {st : List zp_V} {H : zp_H} {c : Nat × Nat} {x y : Int32} (hi : za_fe (za_is M) pc = some .idiv) (hy : y ≠ 0) (hp : pc + 1 = pc') (hS : zs_Safe L σ P M fs d (pc', lv, .inl (x / y) :: st, H, c)) : zs_Safe L σ P M fs d (pc, lv, .inl y :: .inl x :: st, H, c) := by
  refine zs_step (S := (pc, lv, .inl y :: .inl x :: st, H, c)) (S' := (pc', lv, .inl (x / y) :: st, H, c)) hi ?_ hS
  show (if y = 0 then none else zp_go lv (H, c) (pc + 1) (.inl (x / y) :: st)) = _
  rw [if_neg hy, ← hp]
  rfl
/-- the reference's sea -/
def xSR (H : zp_H) (S : xSea) : Prop := (H.2.1 72 1).toInt = S.1 ∧ (H.2.1 72 2).toInt = S.2.1 ∧ H.2.2.1 72 12 = S.2.2.1 ∧ ∀ k, k < 64 → (H.2.1 73 k).toInt = S.2.2.2 k
def xFs (a b : Nat) (H H1 : zp_H) : Prop := H1.1 = H.1 ∧ H1.2.2.2 = H.2.2.2 ∧ (∀ p k, ¬ (p = 72 ∧ a ≤ k ∧ k ≤ b) → H1.2.1 p k = H.2.1 p k) ∧ ∀ p k, ¬ (p = 72 ∧ k = 65) → H1.2.2.1 p k = H.2.2.1 p k
theorem xFs_r {a b : Nat} (H : zp_H) : xFs a b H H := ⟨rfl, rfl, fun _ _ _ => rfl, fun _ _ _ => rfl⟩
theorem xFs_t {a b : Nat} {H H1 H2 : zp_H} (h1 : xFs a b H H1) (h2 : xFs a b H1 H2) : xFs a b H H2 := ⟨h2.1.trans h1.1, h2.2.1.trans h1.2.1, fun p k h => (h2.2.2.1 p k h).trans (h1.2.2.1 p k h), fun p k h => (h2.2.2.2 p k h).trans (h1.2.2.2 p k h)⟩
theorem xFs_I {a b k : Nat} {H H1 : zp_H} {x : Int32} (h : xFs a b H H1) (ha : a ≤ k) (hb : k ≤ b) : xFs a b H (zw_I H1 72 k x) := ⟨h.1, h.2.1, fun p j hn => (y_ne (fun h9 => hn ⟨h9.1, by have := h9.2; omega⟩)).trans (h.2.2.1 p j hn), h.2.2.2⟩
theorem xFs_J {a b : Nat} {H H1 : zp_H} {u : Int64} (h : xFs a b H H1) : xFs a b H (zw_J H1 72 65 u) := ⟨h.1, h.2.1, h.2.2.1, fun p j hn => (zp_u_ne (fun h9 => hn h9)).trans (h.2.2.2 p j hn)⟩
theorem xSR_f {a b : Nat} {H H1 : zp_H} {S : xSea} (h : xFs a b H H1) (ha : 3 ≤ a) (hR : xSR H S) : xSR H1 S := ⟨(congrArg Int32.toInt (h.2.2.1 72 1 (fun h9 => by have := h9.2.1; omega))).trans hR.1, (congrArg Int32.toInt (h.2.2.1 72 2 (fun h9 => by have := h9.2.1; omega))).trans hR.2.1, (h.2.2.2 72 12 (fun h9 => absurd h9.2 (by decide))).trans hR.2.2.1, fun k hk => (congrArg Int32.toInt (h.2.2.1 73 k (fun h9 => absurd h9.1 (by decide)))).trans (hR.2.2.2 k hk)⟩
theorem x_ad {q : Int32} {n : Int} (hn : -1 ≤ n ∧ n ≤ 1) (h0 : 0 ≤ q.toInt) (h1 : q.toInt ≤ 1000) : (q + Int32.ofInt n).toInt = q.toInt + n := by
  have e : (Int32.ofInt n).toInt = n := x_of (by omega) (by omega)
  rw [zq_add (by rw [e]; omega) (by rw [e]; omega), e]
/-- even, as the reference asks it -/
theorem x_od {x : Int32} : ((x - x / Int32.ofInt 2 * Int32.ofInt 2).toInt = 0 ↔ x.toInt % 2 = 0) := by
  have e2 : (Int32.ofInt 2).toInt = 2 := by decide
  have b0 : -2147483648 ≤ x.toInt := Int32.le_toInt x
  have b1 : x.toInt ≤ 2147483647 := Int32.toInt_le x
  have h : ∃ q : Int, x.toInt.tdiv 2 = q ∧ (-1 ≤ x.toInt - 2 * q ∧ x.toInt - 2 * q ≤ 1) ∧ -1073741824 ≤ q ∧ q ≤ 1073741823 := by
    rcases Int.le_total 0 x.toInt with h | h
    · exact ⟨x.toInt / 2, Int.tdiv_eq_ediv_of_nonneg h, by omega, by omega, by omega⟩
    · have h3 : (-(-x.toInt)).tdiv 2 = -((-x.toInt).tdiv 2) := by rw [Int.neg_tdiv]
      rw [Int.neg_neg, Int.tdiv_eq_ediv_of_nonneg (a := -x.toInt) (by omega)] at h3
      exact ⟨-(-x.toInt / 2), h3, by omega, by omega, by omega⟩
  obtain ⟨q, hq, hb, q0, q1⟩ := h
  have d1 : (x / Int32.ofInt 2).toInt = q := by
    rw [Int32.toInt_div, e2, hq]
    exact Int.bmod_eq_of_le (by omega) (by omega)
  have d2 : (x / Int32.ofInt 2 * Int32.ofInt 2).toInt = q * 2 := by
    rw [Int32.toInt_mul, d1, e2]
    exact Int.bmod_eq_of_le (by omega) (by omega)
  have d3 : (x - x / Int32.ofInt 2 * Int32.ofInt 2).toInt = x.toInt - q * 2 := by
    rw [zq_sub (by rw [d2]; omega) (by rw [d2]; omega), d2]
  rw [d3]
  omega
def xBf (w h x y : Int) : Int := if x < 0 ∨ y < 0 ∨ w ≤ x ∨ h ≤ y then -1 else w * y + x
theorem xBe_f {w h c d : Int} : xBe w h c d = xBf w h (c % w + (if d = 1 then 1 else if d = 3 then -1 else 0)) (c / w + (if d = 2 then 1 else if d = 0 then -1 else 0)) := rfl

theorem xr_be54 {L : Nat} {σ : Nat → Int32} {d : Nat} {H : zp_H} {P : zp_X → Prop} {lv : zp_LV} {x y : Int32} {S : xSea} (W : zw_W H) (hS : xOk S) (hR : xSR H S) (l0 : zp_get lv 0 = some (.inr (.inr (some 73)))) (l3 : zp_get lv 3 = some (.inl x)) (l4 : zp_get lv 4 = some (.inl y)) (hx : -1 ≤ x.toInt ∧ x.toInt ≤ 64) (hy : -1 ≤ y.toInt ∧ y.toInt ≤ 64) (hP : P (.inl (some (.inl (Int32.ofInt (xBf S.1 S.2.1 x.toInt y.toInt)))), H)) : zs_Safe L σ P zm_222 [] d (54, lv, [], H, (0, 0)) := by
  have hw := hR.1
  have hh := hR.2.1
  have hS1 := hS.1
  have hS2 := hS.2.1
  refine zw_ld (n := 1) (k := 3) (f := zp_isI) (pc' := 55) rfl rfl l3 rfl rfl ?_
  refine zw_blt1 (g := 80) (pc' := 58) rfl rfl rfl rfl (fun h1 => ?_) (fun h1 => ?_)
  · refine zw_s (pc' := 81) rfl rfl ?_
    refine zw_s (pc' := 93) rfl rfl ?_
    refine zw_ri rfl rfl ?_
    have e : xBf S.1 S.2.1 x.toInt y.toInt = -1 := if_pos (show x.toInt < 0 ∨ y.toInt < 0 ∨ S.1 ≤ x.toInt ∨ S.2.1 ≤ y.toInt by omega)
    rw [e] at hP
    exact hP
  · refine zw_ld (n := 2) (k := 4) (f := zp_isI) (pc' := 60) rfl rfl l4 rfl rfl ?_
    refine zw_blt1 (g := 80) (pc' := 63) rfl rfl rfl rfl (fun h2 => ?_) (fun h2 => ?_)
    · refine zw_s (pc' := 81) rfl rfl ?_
      refine zw_s (pc' := 93) rfl rfl ?_
      refine zw_ri rfl rfl ?_
      have e : xBf S.1 S.2.1 x.toInt y.toInt = -1 := if_pos (show x.toInt < 0 ∨ y.toInt < 0 ∨ S.1 ≤ x.toInt ∨ S.2.1 ≤ y.toInt by omega)
      rw [e] at hP
      exact hP
    · refine zw_ld (n := 1) (k := 3) (f := zp_isI) (pc' := 64) rfl rfl l3 rfl rfl ?_
      refine zw_ld (n := 1) (k := 0) (f := zp_isR) (pc' := 65) rfl rfl l0 rfl rfl ?_
      refine zw_gI (q := 72) (pc' := 68) W rfl rfl rfl rfl rfl rfl ?_
      refine zw_bge2 (g := 80) (pc' := 71) rfl rfl rfl rfl rfl (fun h3 => ?_) (fun h3 => ?_)
      · refine zw_s (pc' := 81) rfl rfl ?_
        refine zw_s (pc' := 93) rfl rfl ?_
        refine zw_ri rfl rfl ?_
        have e : xBf S.1 S.2.1 x.toInt y.toInt = -1 := if_pos (show x.toInt < 0 ∨ y.toInt < 0 ∨ S.1 ≤ x.toInt ∨ S.2.1 ≤ y.toInt by omega)
        rw [e] at hP
        exact hP
      · refine zw_ld (n := 2) (k := 4) (f := zp_isI) (pc' := 73) rfl rfl l4 rfl rfl ?_
        refine zw_ld (n := 1) (k := 0) (f := zp_isR) (pc' := 74) rfl rfl l0 rfl rfl ?_
        refine zw_gI (q := 72) (pc' := 77) W rfl rfl rfl rfl rfl rfl ?_
        refine zw_blt2 (g := 84) (pc' := 80) rfl rfl rfl rfl rfl (fun h4 => ?_) (fun h4 => ?_)
        · refine zw_ld (n := 1) (k := 0) (f := zp_isR) (pc' := 85) rfl rfl l0 rfl rfl ?_
          refine zw_gI (q := 72) (pc' := 88) W rfl rfl rfl rfl rfl rfl ?_
          refine zw_ld (n := 2) (k := 4) (f := zp_isI) (pc' := 90) rfl rfl l4 rfl rfl ?_
          refine zw_imul (pc' := 91) rfl rfl ?_
          refine zw_ld (n := 1) (k := 3) (f := zp_isI) (pc' := 92) rfl rfl l3 rfl rfl ?_
          refine zw_iadd (pc' := 93) rfl rfl ?_
          refine zw_ri rfl rfl ?_
          have m0 : 0 ≤ S.1 * y.toInt := Int.mul_nonneg (by omega) (by omega)
          have m1 : S.1 * y.toInt ≤ 8 * 8 := Int.mul_le_mul (by omega) (by omega) (by omega) (by omega)
          have m2 : (H.2.1 72 1 * y).toInt = S.1 * y.toInt := by
            rw [Int32.toInt_mul, hw]
            exact Int.bmod_eq_of_le (by omega) (by omega)
          have m3 : (H.2.1 72 1 * y + x).toInt = S.1 * y.toInt + x.toInt := by rw [zq_add (by rw [m2]; omega) (by rw [m2]; omega), m2]
          have e : xBf S.1 S.2.1 x.toInt y.toInt = S.1 * y.toInt + x.toInt := if_neg (show ¬ (x.toInt < 0 ∨ y.toInt < 0 ∨ S.1 ≤ x.toInt ∨ S.2.1 ≤ y.toInt) by omega)
          rw [e] at hP
          rw [show H.2.1 72 1 * y + x = Int32.ofInt (S.1 * y.toInt + x.toInt) from Int32.toInt_inj.mp (by rw [x_of (by omega) (by omega), m3])]
          exact hP
        · refine zw_s (pc' := 81) rfl rfl ?_
          refine zw_s (pc' := 93) rfl rfl ?_
          refine zw_ri rfl rfl ?_
          have e : xBf S.1 S.2.1 x.toInt y.toInt = -1 := if_pos (show x.toInt < 0 ∨ y.toInt < 0 ∨ S.1 ≤ x.toInt ∨ S.2.1 ≤ y.toInt by omega)
          rw [e] at hP
          exact hP

theorem xr_be27 {L : Nat} {σ : Nat → Int32} {d : Nat} {H : zp_H} {P : zp_X → Prop} {lv : zp_LV} {x c k : Int32} {S : xSea} (W : zw_W H) (hS : xOk S) (hR : xSR H S) (hc : xIn S c.toInt) (l0 : zp_get lv 0 = some (.inr (.inr (some 73)))) (l1 : zp_get lv 1 = some (.inl c)) (l2 : zp_get lv 2 = some (.inl k)) (l3 : zp_get lv 3 = some (.inl x)) (hx : -1 ≤ x.toInt ∧ x.toInt ≤ 64) (hP : P (.inl (some (.inl (Int32.ofInt (xBf S.1 S.2.1 x.toInt (c.toInt / S.1 + (if k.toInt = 2 then 1 else if k.toInt = 0 then -1 else 0)))))), H)) : zs_Safe L σ P zm_222 [] d (27, lv, [], H, (0, 0)) := by
  have hw := hR.1
  have hS1 := hS.1
  have h8 := xIn_64 hS hc
  have w0 : H.2.1 72 1 ≠ 0 := fun h9 => by
    have : (H.2.1 72 1).toInt = 0 := congrArg Int32.toInt h9
    omega
  have hq : (c / H.2.1 72 1).toInt = c.toInt / S.1 := by rw [x_div h8.1 (by omega), hw]
  have b0 : 0 ≤ c.toInt / S.1 := Int.ediv_nonneg h8.1 (by omega)
  have b1 : c.toInt / S.1 ≤ c.toInt := Int.ediv_le_self _ h8.1
  refine zw_ld (n := 1) (k := 1) (f := zp_isI) (pc' := 28) rfl rfl l1 rfl rfl ?_
  refine zw_ld (n := 1) (k := 0) (f := zp_isR) (pc' := 29) rfl rfl l0 rfl rfl ?_
  refine zw_gI (q := 72) (pc' := 32) W rfl rfl rfl rfl rfl rfl ?_
  refine zw_div (pc' := 33) rfl (w0) rfl ?_
  refine zw_ld (n := 1) (k := 2) (f := zp_isI) (pc' := 34) rfl rfl l2 rfl rfl ?_
  refine zw_s (pc' := 35) rfl rfl ?_
  refine zw_bne2 (g := 42) (pc' := 38) rfl rfl rfl rfl (rfl : _ = (2 : Int)) (fun h1 => ?_) (fun h1 => ?_)
  · refine zw_ld (n := 1) (k := 2) (f := zp_isI) (pc' := 43) rfl rfl l2 rfl rfl ?_
    refine zw_bne1 (g := 50) (pc' := 46) rfl rfl rfl rfl (fun h2 => ?_) (fun h2 => ?_)
    · refine zw_s (pc' := 51) rfl rfl ?_
      refine zw_iadd (pc' := 52) rfl rfl ?_
      refine zw_st (n := 2) (k := 4) (f := zp_isI) (pc' := 54) rfl rfl rfl rfl rfl ?_
      have ey : (c / H.2.1 72 1 + Int32.ofInt 0).toInt = c.toInt / S.1 + 0 := by rw [x_ad ⟨by decide, by decide⟩ (by omega) (by omega), hq]
      have ez : (if k.toInt = 2 then 1 else if k.toInt = 0 then -1 else 0) = 0 := (if_neg h1).trans (if_neg h2)
      rw [ez] at hP
      exact xr_be54 W hS hR (zw_gt l0 rfl rfl) (zw_gt l3 rfl rfl) zw_g1 hx ⟨by omega, by omega⟩ (by rw [ey]; exact hP)
    · refine zw_s (pc' := 47) rfl rfl ?_
      refine zw_s (pc' := 51) rfl rfl ?_
      refine zw_iadd (pc' := 52) rfl rfl ?_
      refine zw_st (n := 2) (k := 4) (f := zp_isI) (pc' := 54) rfl rfl rfl rfl rfl ?_
      have ey : (c / H.2.1 72 1 + Int32.ofInt (-1)).toInt = c.toInt / S.1 + (-1) := by rw [x_ad ⟨by decide, by decide⟩ (by omega) (by omega), hq]
      have ez : (if k.toInt = 2 then 1 else if k.toInt = 0 then -1 else 0) = (-1) := (if_neg h1).trans (if_pos h2)
      rw [ez] at hP
      exact xr_be54 W hS hR (zw_gt l0 rfl rfl) (zw_gt l3 rfl rfl) zw_g1 hx ⟨by omega, by omega⟩ (by rw [ey]; exact hP)
  · refine zw_s (pc' := 39) rfl rfl ?_
    refine zw_s (pc' := 51) rfl rfl ?_
    refine zw_iadd (pc' := 52) rfl rfl ?_
    refine zw_st (n := 2) (k := 4) (f := zp_isI) (pc' := 54) rfl rfl rfl rfl rfl ?_
    have ey : (c / H.2.1 72 1 + Int32.ofInt 1).toInt = c.toInt / S.1 + 1 := by rw [x_ad ⟨by decide, by decide⟩ (by omega) (by omega), hq]
    have ez : (if k.toInt = 2 then 1 else if k.toInt = 0 then -1 else 0) = 1 := if_pos h1
    rw [ez] at hP
    exact xr_be54 W hS hR (zw_gt l0 rfl rfl) (zw_gt l3 rfl rfl) zw_g1 hx ⟨by omega, by omega⟩ (by rw [ey]; exact hP)

theorem xr_be {L : Nat} {σ : Nat → Int32} {d : Nat} {H : zp_H} {c k : Int32} {S : xSea} (W : zw_W H) (hS : xOk S) (hR : xSR H S) (hc : xIn S c.toInt) : zp_Call L σ (d + 1) 222 [.inr (.inr (some 73)), .inl c, .inl k] H (.inl (some (.inl (Int32.ofInt (xBe S.1 S.2.1 c.toInt k.toInt)))), H) := by
  have hw := hR.1
  have hS1 := hS.1
  have h8 := xIn_64 hS hc
  have w0 : H.2.1 72 1 ≠ 0 := fun h9 => by
    have : (H.2.1 72 1).toInt = 0 := congrArg Int32.toInt h9
    omega
  have hq : (c - c / H.2.1 72 1 * H.2.1 72 1).toInt = c.toInt % S.1 := by rw [x_rem h8.1 (by omega), hw]
  have b0 : 0 ≤ c.toInt % S.1 := Int.emod_nonneg _ (by omega)
  have b1 : c.toInt % S.1 < S.1 := Int.emod_lt_of_pos _ (by omega)
  refine zw_ex (zw_met zm_222_t rfl rfl ?_)
  refine zw_ld (n := 1) (k := 1) (f := zp_isI) (pc' := 1) rfl rfl rfl rfl rfl ?_
  refine zw_ld (n := 1) (k := 0) (f := zp_isR) (pc' := 2) rfl rfl rfl rfl rfl ?_
  refine zw_gI (q := 72) (pc' := 5) W rfl rfl rfl rfl rfl rfl ?_
  refine zw_rem (pc' := 6) rfl (w0) rfl ?_
  refine zw_ld (n := 1) (k := 2) (f := zp_isI) (pc' := 7) rfl rfl rfl rfl rfl ?_
  refine zw_s (pc' := 8) rfl rfl ?_
  refine zw_bne2 (g := 15) (pc' := 11) rfl rfl rfl rfl (rfl : _ = (1 : Int)) (fun h1 => ?_) (fun h1 => ?_)
  · refine zw_ld (n := 1) (k := 2) (f := zp_isI) (pc' := 16) rfl rfl rfl rfl rfl ?_
    refine zw_s (pc' := 17) rfl rfl ?_
    refine zw_bne2 (g := 24) (pc' := 20) rfl rfl rfl rfl (rfl : _ = (3 : Int)) (fun h2 => ?_) (fun h2 => ?_)
    · refine zw_s (pc' := 25) rfl rfl ?_
      refine zw_iadd (pc' := 26) rfl rfl ?_
      refine zw_st (n := 1) (k := 3) (f := zp_isI) (pc' := 27) rfl rfl rfl rfl rfl ?_
      have ey : (c - c / H.2.1 72 1 * H.2.1 72 1 + Int32.ofInt 0).toInt = c.toInt % S.1 + 0 := by rw [x_ad ⟨by decide, by decide⟩ (by omega) (by omega), hq]
      have ez : (if k.toInt = 1 then 1 else if k.toInt = 3 then -1 else 0) = 0 := (if_neg h1).trans (if_neg h2)
      exact xr_be27 W hS hR hc (zw_gt rfl rfl rfl) (zw_gt rfl rfl rfl) (zw_gt rfl rfl rfl) zw_g1 ⟨by omega, by omega⟩ (x_rv (congrArg Int32.ofInt (by rw [xBe_f, ez, ey])))
    · refine zw_s (pc' := 21) rfl rfl ?_
      refine zw_s (pc' := 25) rfl rfl ?_
      refine zw_iadd (pc' := 26) rfl rfl ?_
      refine zw_st (n := 1) (k := 3) (f := zp_isI) (pc' := 27) rfl rfl rfl rfl rfl ?_
      have ey : (c - c / H.2.1 72 1 * H.2.1 72 1 + Int32.ofInt (-1)).toInt = c.toInt % S.1 + (-1) := by rw [x_ad ⟨by decide, by decide⟩ (by omega) (by omega), hq]
      have ez : (if k.toInt = 1 then 1 else if k.toInt = 3 then -1 else 0) = (-1) := (if_neg h1).trans (if_pos h2)
      exact xr_be27 W hS hR hc (zw_gt rfl rfl rfl) (zw_gt rfl rfl rfl) (zw_gt rfl rfl rfl) zw_g1 ⟨by omega, by omega⟩ (x_rv (congrArg Int32.ofInt (by rw [xBe_f, ez, ey])))
  · refine zw_s (pc' := 12) rfl rfl ?_
    refine zw_s (pc' := 25) rfl rfl ?_
    refine zw_iadd (pc' := 26) rfl rfl ?_
    refine zw_st (n := 1) (k := 3) (f := zp_isI) (pc' := 27) rfl rfl rfl rfl rfl ?_
    have ey : (c - c / H.2.1 72 1 * H.2.1 72 1 + Int32.ofInt 1).toInt = c.toInt % S.1 + 1 := by rw [x_ad ⟨by decide, by decide⟩ (by omega) (by omega), hq]
    have ez : (if k.toInt = 1 then 1 else if k.toInt = 3 then -1 else 0) = 1 := if_pos h1
    exact xr_be27 W hS hR hc (zw_gt rfl rfl rfl) (zw_gt rfl rfl rfl) (zw_gt rfl rfl rfl) zw_g1 ⟨by omega, by omega⟩ (x_rv (congrArg Int32.ofInt (by rw [xBe_f, ez, ey])))

theorem xr_isr1 {L : Nat} {σ : Nat → Int32} {d : Nat} {H : zp_H} {x : Int32} (W : zw_W H) (hc : 0 ≤ x.toInt ∧ x.toInt ≤ 63) (hb : yTb (H.2.2.1 72 12) x.toInt.toNat = true) : zp_Call L σ (d + 1) 223 [.inr (.inr (some 73)), .inl x] H (.inl (some (.inl (Int32.ofInt 1))), H) := by
  have e := y_shv (r := H.2.2.1 72 12) hc
  rw [if_pos hb] at e
  refine zw_ex (zw_met zm_223_t rfl rfl ?_)
  refine zw_ld (n := 1) (k := 0) (f := zp_isR) (pc' := 1) rfl rfl rfl rfl rfl ?_
  refine zw_gL (q := 72) (pc' := 4) W rfl rfl rfl rfl rfl ?_
  refine zw_ld (n := 1) (k := 1) (f := zp_isI) (pc' := 5) rfl rfl rfl rfl rfl ?_
  refine zw_lshr (pc' := 6) rfl rfl ?_
  refine zw_s (pc' := 7) rfl rfl ?_
  refine zw_land (pc' := 8) rfl rfl ?_
  refine zw_s (pc' := 9) rfl rfl ?_
  refine zw_s (pc' := 10) rfl rfl ?_
  refine zw_bne1 (g := 17) (pc' := 13) rfl rfl rfl rfl (fun h1 => ?_) (fun h1 => ?_)
  · have h1 : (lg_cmp (za_shr0 (H.2.2.1 72 12) x &&& Int64.ofNat 1) (Int64.ofNat 1)).toInt ≠ 0 := h1
    rw [e] at h1
    exact absurd (by decide) h1
  · refine zw_s (pc' := 14) rfl rfl ?_
    refine zw_s (pc' := 18) rfl rfl ?_
    refine zw_rz rfl rfl (by decide) ?_
    rfl

theorem xr_isr0 {L : Nat} {σ : Nat → Int32} {d : Nat} {H : zp_H} {x : Int32} (W : zw_W H) (hc : 0 ≤ x.toInt ∧ x.toInt ≤ 63) (hb : ¬ (yTb (H.2.2.1 72 12) x.toInt.toNat = true)) : zp_Call L σ (d + 1) 223 [.inr (.inr (some 73)), .inl x] H (.inl (some (.inl (Int32.ofInt 0))), H) := by
  have e := y_shv (r := H.2.2.1 72 12) hc
  rw [if_neg hb] at e
  refine zw_ex (zw_met zm_223_t rfl rfl ?_)
  refine zw_ld (n := 1) (k := 0) (f := zp_isR) (pc' := 1) rfl rfl rfl rfl rfl ?_
  refine zw_gL (q := 72) (pc' := 4) W rfl rfl rfl rfl rfl ?_
  refine zw_ld (n := 1) (k := 1) (f := zp_isI) (pc' := 5) rfl rfl rfl rfl rfl ?_
  refine zw_lshr (pc' := 6) rfl rfl ?_
  refine zw_s (pc' := 7) rfl rfl ?_
  refine zw_land (pc' := 8) rfl rfl ?_
  refine zw_s (pc' := 9) rfl rfl ?_
  refine zw_s (pc' := 10) rfl rfl ?_
  refine zw_bne1 (g := 17) (pc' := 13) rfl rfl rfl rfl (fun h1 => ?_) (fun h1 => ?_)
  · refine zw_s (pc' := 18) rfl rfl ?_
    refine zw_rz rfl rfl (by decide) ?_
    rfl
  · have h1 : (lg_cmp (za_shr0 (H.2.2.1 72 12) x &&& Int64.ofNat 1) (Int64.ofNat 1)).toInt = 0 := h1
    rw [e] at h1
    exact absurd h1 (by decide)

theorem xr_s2_1 {L : Nat} {σ : Nat → Int32} {d : Nat} {H : zp_H} {P : zp_X → Prop} {lv : zp_LV} {x2 : Int32} {S : xSea} (W : zw_W H) (hS : xOk S) (hR : xSR H S) (hc : xIn S (H.2.1 72 64).toInt) (l0 : zp_get lv 0 = some (.inr (.inr (some 73)))) (l2 : zp_get lv 2 = some (.inl x2)) (l3 : zp_get lv 3 = some (.inl (Int32.ofInt 1))) (hP : ∀ H1, zw_W H1 → xFs 64 64 H H1 → H1.2.1 72 64 = Int32.ofInt (xS2 S (H.2.1 72 64).toInt x2.toInt true).2 → P (.inl (some (.inl (Int32.ofInt (xS2 S (H.2.1 72 64).toInt x2.toInt true).1))), H1)) : zs_Safe L σ P zm_221 [] (d + 1) (54, lv, [], H, (0, 0)) := by
  have h8 := xIn_64 hS hc
  have hcu : (H.2.1 73 (H.2.1 72 64).toInt.toNat).toInt = S.2.2.2 (H.2.1 72 64).toInt.toNat := hR.2.2.2 _ (by omega)
  have hcb := hS.2.2 (H.2.1 72 64).toInt.toNat
  refine zw_ld (n := 1) (k := 3) (f := zp_isI) (pc' := 55) rfl rfl l3 rfl rfl ?_
  refine zw_beq1 (g := 97) (pc' := 58) rfl rfl rfl (rfl : _ = (1 : Int)) (fun h9 => absurd h9 (by decide)) (fun h0 => ?_)
  refine zw_ld (n := 1) (k := 2) (f := zp_isI) (pc' := 59) rfl rfl l2 rfl rfl ?_
  refine zw_s (pc' := 60) rfl rfl ?_
  refine zw_rem (pc' := 61) rfl (by decide) rfl ?_
  refine zw_bne1 (g := 97) (pc' := 64) rfl rfl rfl rfl (fun h1 => ?_) (fun h1 => ?_)
  · refine zw_s (pc' := 98) rfl rfl ?_
    refine zw_st (n := 2) (k := 4) (f := zp_isI) (pc' := 100) rfl rfl rfl rfl rfl ?_
    refine zw_ld (n := 2) (k := 4) (f := zp_isI) (pc' := 102) rfl rfl zw_g1 rfl rfl ?_
    refine zw_s (pc' := 103) rfl rfl ?_
    refine zw_bne2 (g := 108) (pc' := 106) rfl rfl rfl (rfl : _ = (-1 : Int)) (rfl : _ = (-1 : Int)) (fun h9 => absurd h9 (by decide)) (fun hb => ?_)
    refine zw_s (pc' := 107) rfl rfl ?_
    refine zw_ri rfl rfl ?_
    have es := xS2_n (S := S) (c := (H.2.1 72 64).toInt) (hr := x2.toInt) (t := true) (if_neg (fun h9 => h1 (x_od.mpr h9.2.1)))
    rw [es] at hP
    exact hP H W (xFs_r H) (x_oi _).symm
  · refine zw_ld (n := 1) (k := 0) (f := zp_isR) (pc' := 65) rfl rfl l0 rfl rfl ?_
    refine zw_gR (q := 72) (pc' := 68) W rfl rfl rfl rfl (W.2 72 13 _ rfl) rfl ?_
    refine zw_ld (n := 1) (k := 0) (f := zp_isR) (pc' := 69) rfl rfl l0 rfl rfl ?_
    refine zw_gI (q := 72) (pc' := 72) W rfl rfl rfl rfl rfl rfl ?_
    refine zw_ia (q := 73) (pc' := 73) W rfl rfl (by decide) (⟨h8.1, by show _ < ((64 : Nat) : Int); omega⟩) rfl rfl ?_
    refine zw_s (pc' := 74) rfl rfl ?_
    refine zw_beq2 (g := 97) (pc' := 77) rfl rfl rfl rfl (rfl : _ = (-1 : Int)) (fun h2 => ?_) (fun h2 => ?_)
    · refine zw_s (pc' := 98) rfl rfl ?_
      refine zw_st (n := 2) (k := 4) (f := zp_isI) (pc' := 100) rfl rfl rfl rfl rfl ?_
      refine zw_ld (n := 2) (k := 4) (f := zp_isI) (pc' := 102) rfl rfl zw_g1 rfl rfl ?_
      refine zw_s (pc' := 103) rfl rfl ?_
      refine zw_bne2 (g := 108) (pc' := 106) rfl rfl rfl (rfl : _ = (-1 : Int)) (rfl : _ = (-1 : Int)) (fun h9 => absurd h9 (by decide)) (fun hb => ?_)
      refine zw_s (pc' := 107) rfl rfl ?_
      refine zw_ri rfl rfl ?_
      have es := xS2_n (S := S) (c := (H.2.1 72 64).toInt) (hr := x2.toInt) (t := true) (if_neg (fun h9 => h9.2.2 (hcu.symm.trans h2)))
      rw [es] at hP
      exact hP H W (xFs_r H) (x_oi _).symm
    · refine zw_ld (n := 1) (k := 0) (f := zp_isR) (pc' := 78) rfl rfl l0 rfl rfl ?_
      refine zw_ld (n := 1) (k := 0) (f := zp_isR) (pc' := 79) rfl rfl l0 rfl rfl ?_
      refine zw_gI (q := 72) (pc' := 82) W rfl rfl rfl rfl rfl rfl ?_
      refine zw_ld (n := 1) (k := 0) (f := zp_isR) (pc' := 83) rfl rfl l0 rfl rfl ?_
      refine zw_gR (q := 72) (pc' := 86) W rfl rfl rfl rfl (W.2 72 13 _ rfl) rfl ?_
      refine zw_ld (n := 1) (k := 0) (f := zp_isR) (pc' := 87) rfl rfl l0 rfl rfl ?_
      refine zw_gI (q := 72) (pc' := 90) W rfl rfl rfl rfl rfl rfl ?_
      refine zw_ia (q := 73) (pc' := 91) W rfl rfl (by decide) (⟨h8.1, by show _ < ((64 : Nat) : Int); omega⟩) rfl rfl ?_
      have ed : (xDr S (H.2.1 72 64).toInt x2.toInt true) = xBe S.1 S.2.1 (H.2.1 72 64).toInt (S.2.2.2 (H.2.1 72 64).toInt.toNat) := if_pos ⟨rfl, x_od.mp h1, fun h9 => h2 (hcu.trans h9)⟩
      have qb := xr_be (L := L) (σ := σ) (d := d) (c := H.2.1 72 64) (k := H.2.1 73 (H.2.1 72 64).toInt.toNat) W hS hR hc
      rw [hcu, ← ed] at qb
      have h6 := xDr_64 (c := (H.2.1 72 64).toInt) (hr := x2.toInt) (t := true) hS
      have eo : (Int32.ofInt (xDr S (H.2.1 72 64).toInt x2.toInt true)).toInt = (xDr S (H.2.1 72 64).toInt x2.toInt true) := x_of (by omega) (by omega)
      refine zw_c (pc' := 94) (zw_cv (q := 72) (Y := zm_222) W.1 rfl rfl zm_222_t rfl rfl) rfl rfl rfl rfl rfl (qb) ?_
      refine zw_s (pc' := 98) rfl rfl ?_
      refine zw_st (n := 2) (k := 4) (f := zp_isI) (pc' := 100) rfl rfl rfl rfl rfl ?_
      refine zw_ld (n := 2) (k := 4) (f := zp_isI) (pc' := 102) rfl rfl zw_g1 rfl rfl ?_
      refine zw_s (pc' := 103) rfl rfl ?_
      refine zw_bne2 (g := 108) (pc' := 106) rfl rfl rfl rfl (rfl : _ = (-1 : Int)) (fun h3 => ?_) (fun h3 => ?_)
      · have h3 : ¬ (Int32.ofInt (xDr S (H.2.1 72 64).toInt x2.toInt true)).toInt = -1 := h3
        have h4 : (xDr S (H.2.1 72 64).toInt x2.toInt true) ≠ -1 := by omega
        refine zw_ld (n := 1) (k := 0) (f := zp_isR) (pc' := 109) rfl rfl (zw_gt l0 rfl rfl) rfl rfl ?_
        refine zw_ld (n := 2) (k := 4) (f := zp_isI) (pc' := 111) rfl rfl zw_g1 rfl rfl ?_
        refine zw_pI (q := 72) (pc' := 114) W rfl rfl rfl rfl rfl rfl ?_
        refine zw_ld (n := 1) (k := 0) (f := zp_isR) (pc' := 115) rfl rfl (zw_gt l0 rfl rfl) rfl rfl ?_
        refine zw_ld (n := 2) (k := 4) (f := zp_isI) (pc' := 117) rfl rfl zw_g1 rfl rfl ?_
        by_cases hr : yTb S.2.2.1 (xDr S (H.2.1 72 64).toInt x2.toInt true).toNat = true
        · refine zw_c (pc' := 120) (zw_cv (q := 72) (Y := zm_223) (zw_W_I W).1 rfl rfl zm_223_t rfl rfl) rfl rfl rfl rfl rfl (xr_isr1 (H := zw_I H 72 64 (Int32.ofInt (xDr S (H.2.1 72 64).toInt x2.toInt true))) (zw_W_I W) (by omega) (by rw [eo, show (zw_I H 72 64 (Int32.ofInt (xDr S (H.2.1 72 64).toInt x2.toInt true))).2.2.1 72 12 = S.2.2.1 from hR.2.2.1]; exact hr)) ?_
          refine zw_beq1 (g := 125) (pc' := 123) rfl rfl rfl (rfl : _ = (1 : Int)) (fun h9 => absurd h9 (by decide)) (fun h8 => ?_)
          refine zw_s (pc' := 124) rfl rfl ?_
          refine zw_ri rfl rfl ?_
          have es := xS2_r (S := S) (c := (H.2.1 72 64).toInt) (hr := x2.toInt) (t := true) h4 hr
          rw [es] at hP
          exact hP _ (zw_W_I W) (xFs_I (xFs_r H) (by decide) (by decide)) zw_eq
        · refine zw_c (pc' := 120) (zw_cv (q := 72) (Y := zm_223) (zw_W_I W).1 rfl rfl zm_223_t rfl rfl) rfl rfl rfl rfl rfl (xr_isr0 (H := zw_I H 72 64 (Int32.ofInt (xDr S (H.2.1 72 64).toInt x2.toInt true))) (zw_W_I W) (by omega) (by rw [eo, show (zw_I H 72 64 (Int32.ofInt (xDr S (H.2.1 72 64).toInt x2.toInt true))).2.2.1 72 12 = S.2.2.1 from hR.2.2.1]; exact hr)) ?_
          refine zw_beq1 (g := 125) (pc' := 123) rfl rfl rfl (rfl : _ = (0 : Int)) (fun h8 => ?_) (fun h9 => absurd h9 (by decide))
          refine zw_ld (n := 1) (k := 0) (f := zp_isR) (pc' := 126) rfl rfl (zw_gt l0 rfl rfl) rfl rfl ?_
          refine zw_s (pc' := 127) rfl rfl ?_
          refine zw_gL (q := 72) (pc' := 130) (zw_W_I W) rfl rfl rfl rfl rfl ?_
          refine zw_s (pc' := 131) rfl rfl ?_
          refine zw_ld (n := 2) (k := 4) (f := zp_isI) (pc' := 133) rfl rfl zw_g1 rfl rfl ?_
          refine zw_lshl (pc' := 134) rfl rfl ?_
          refine zw_lor (pc' := 135) rfl rfl ?_
          refine zw_pL (q := 72) (pc' := 138) (zw_W_I W) rfl rfl rfl rfl rfl rfl ?_
          refine zw_s (pc' := 139) rfl rfl ?_
          refine zw_ri rfl rfl ?_
          have es := xS2_f (S := S) (c := (H.2.1 72 64).toInt) (hr := x2.toInt) (t := true) h4 hr
          rw [es] at hP
          exact hP _ (zw_W_J (zw_W_I W)) (xFs_J (xFs_I (xFs_r H) (by decide) (by decide))) (zw_nj zw_eq)
      · have h3 : (Int32.ofInt (xDr S (H.2.1 72 64).toInt x2.toInt true)).toInt = -1 := h3
        have h4 : (xDr S (H.2.1 72 64).toInt x2.toInt true) = -1 := by omega
        refine zw_s (pc' := 107) rfl rfl ?_
        refine zw_ri rfl rfl ?_
        have es := xS2_n (S := S) (c := (H.2.1 72 64).toInt) (hr := x2.toInt) (t := true) h4
        rw [es] at hP
        exact hP H W (xFs_r H) (x_oi _).symm

theorem xr_st1 {L : Nat} {σ : Nat → Int32} {d : Nat} {H : zp_H} {x1 x2 : Int32} {S : xSea} (W : zw_W H) (hS : xOk S) (hR : xSR H S) (hc : xIn S (H.2.1 72 64).toInt) : ∃ X, zp_Call L σ (d + 2) 221 [.inr (.inr (some 73)), .inl x1, .inl x2, .inl (Int32.ofInt 1)] H X ∧ ∃ H1, X = (.inl (some (.inl (Int32.ofInt (xSt S (H.2.1 72 64).toInt x2.toInt x1.toInt true).1))), H1) ∧ zw_W H1 ∧ xFs 64 64 H H1 ∧ H1.2.1 72 64 = Int32.ofInt (xSt S (H.2.1 72 64).toInt x2.toInt x1.toInt true).2 := by
  refine zw_met zm_221_t rfl rfl ?_
  refine zw_ld (n := 1) (k := 1) (f := zp_isI) (pc' := 1) rfl rfl rfl rfl rfl ?_
  refine zw_s (pc' := 2) rfl rfl ?_
  refine zw_beq2 (g := 54) (pc' := 5) rfl rfl rfl rfl (rfl : _ = (-1 : Int)) (fun h1 => ?_) (fun h1 => ?_)
  · have e1 := xS1_n (S := S) (c := (H.2.1 72 64).toInt) h1
    have es : (xSt S (H.2.1 72 64).toInt x2.toInt x1.toInt true) = (xS2 S (H.2.1 72 64).toInt x2.toInt true) := (xSt_0 (congrArg Prod.fst e1)).trans (congrArg (fun z : Int × Int => xS2 S z.2 x2.toInt true) e1)
    refine xr_s2_1 W hS hR hc rfl rfl rfl (fun H1 w1 w2 w3 => ⟨H1, ?_, w1, w2, ?_⟩) <;> rw [es]
    exact w3
  · have h6 := xBe_64 (c := (H.2.1 72 64).toInt) (d := x1.toInt) hS
    have eo : (Int32.ofInt (xBe S.1 S.2.1 (H.2.1 72 64).toInt x1.toInt)).toInt = (xBe S.1 S.2.1 (H.2.1 72 64).toInt x1.toInt) := x_of (by omega) (by omega)
    refine zw_ld (n := 1) (k := 0) (f := zp_isR) (pc' := 6) rfl rfl rfl rfl rfl ?_
    refine zw_ld (n := 1) (k := 0) (f := zp_isR) (pc' := 7) rfl rfl rfl rfl rfl ?_
    refine zw_gI (q := 72) (pc' := 10) W rfl rfl rfl rfl rfl rfl ?_
    refine zw_ld (n := 1) (k := 1) (f := zp_isI) (pc' := 11) rfl rfl rfl rfl rfl ?_
    refine zw_c (pc' := 14) (zw_cv (q := 72) (Y := zm_222) W.1 rfl rfl zm_222_t rfl rfl) rfl rfl rfl rfl rfl (xr_be W hS hR hc) ?_
    refine zw_st (n := 2) (k := 4) (f := zp_isI) (pc' := 16) rfl rfl rfl rfl rfl ?_
    refine zw_ld (n := 2) (k := 4) (f := zp_isI) (pc' := 18) rfl rfl zw_g1 rfl rfl ?_
    refine zw_s (pc' := 19) rfl rfl ?_
    refine zw_bne2 (g := 24) (pc' := 22) rfl rfl rfl rfl (rfl : _ = (-1 : Int)) (fun h3 => ?_) (fun h3 => ?_)
    · have h3 : ¬ (Int32.ofInt (xBe S.1 S.2.1 (H.2.1 72 64).toInt x1.toInt)).toInt = -1 := h3
      have h4 : (xBe S.1 S.2.1 (H.2.1 72 64).toInt x1.toInt) ≠ -1 := by omega
      refine zw_ld (n := 1) (k := 0) (f := zp_isR) (pc' := 25) rfl rfl (zw_gt rfl rfl rfl) rfl rfl ?_
      refine zw_ld (n := 2) (k := 4) (f := zp_isI) (pc' := 27) rfl rfl zw_g1 rfl rfl ?_
      refine zw_pI (q := 72) (pc' := 30) W rfl rfl rfl rfl rfl rfl ?_
      refine zw_ld (n := 1) (k := 0) (f := zp_isR) (pc' := 31) rfl rfl (zw_gt rfl rfl rfl) rfl rfl ?_
      refine zw_ld (n := 2) (k := 4) (f := zp_isI) (pc' := 33) rfl rfl zw_g1 rfl rfl ?_
      by_cases hr : yTb S.2.2.1 (xBe S.1 S.2.1 (H.2.1 72 64).toInt x1.toInt).toNat = true
      · refine zw_c (pc' := 36) (zw_cv (q := 72) (Y := zm_223) (zw_W_I W).1 rfl rfl zm_223_t rfl rfl) rfl rfl rfl rfl rfl (xr_isr1 (H := zw_I H 72 64 (Int32.ofInt (xBe S.1 S.2.1 (H.2.1 72 64).toInt x1.toInt))) (zw_W_I W) (by omega) (by rw [eo, show (zw_I H 72 64 (Int32.ofInt (xBe S.1 S.2.1 (H.2.1 72 64).toInt x1.toInt))).2.2.1 72 12 = S.2.2.1 from hR.2.2.1]; exact hr)) ?_
        refine zw_beq1 (g := 41) (pc' := 39) rfl rfl rfl (rfl : _ = (1 : Int)) (fun h9 => absurd h9 (by decide)) (fun h8 => ?_)
        refine zw_s (pc' := 40) rfl rfl ?_
        refine zw_ri rfl rfl ?_
        have e1 := xS1_r (S := S) h1 h4 hr
        have es : (xSt S (H.2.1 72 64).toInt x2.toInt x1.toInt true) = (1, (xBe S.1 S.2.1 (H.2.1 72 64).toInt x1.toInt)) := (xSt_1 (fun h9 => absurd (show (1 : Int) = 0 from (congrArg Prod.fst e1).symm.trans h9) (by decide))).trans e1
        rw [es]
        exact ⟨_, rfl, zw_W_I W, xFs_I (xFs_r H) (by decide) (by decide), zw_eq⟩
      · refine zw_c (pc' := 36) (zw_cv (q := 72) (Y := zm_223) (zw_W_I W).1 rfl rfl zm_223_t rfl rfl) rfl rfl rfl rfl rfl (xr_isr0 (H := zw_I H 72 64 (Int32.ofInt (xBe S.1 S.2.1 (H.2.1 72 64).toInt x1.toInt))) (zw_W_I W) (by omega) (by rw [eo, show (zw_I H 72 64 (Int32.ofInt (xBe S.1 S.2.1 (H.2.1 72 64).toInt x1.toInt))).2.2.1 72 12 = S.2.2.1 from hR.2.2.1]; exact hr)) ?_
        refine zw_beq1 (g := 41) (pc' := 39) rfl rfl rfl (rfl : _ = (0 : Int)) (fun h8 => ?_) (fun h9 => absurd h9 (by decide))
        refine zw_ld (n := 1) (k := 0) (f := zp_isR) (pc' := 42) rfl rfl (zw_gt rfl rfl rfl) rfl rfl ?_
        refine zw_s (pc' := 43) rfl rfl ?_
        refine zw_gL (q := 72) (pc' := 46) (zw_W_I W) rfl rfl rfl rfl rfl ?_
        refine zw_s (pc' := 47) rfl rfl ?_
        refine zw_ld (n := 2) (k := 4) (f := zp_isI) (pc' := 49) rfl rfl zw_g1 rfl rfl ?_
        refine zw_lshl (pc' := 50) rfl rfl ?_
        refine zw_lor (pc' := 51) rfl rfl ?_
        refine zw_pL (q := 72) (pc' := 54) (zw_W_I W) rfl rfl rfl rfl rfl rfl ?_
        have e1 := xS1_f (S := S) h1 h4 hr
        have es : (xSt S (H.2.1 72 64).toInt x2.toInt x1.toInt true) = xS2 S (xBe S.1 S.2.1 (H.2.1 72 64).toInt x1.toInt) x2.toInt true := (xSt_0 (congrArg Prod.fst e1)).trans (congrArg (fun z : Int × Int => xS2 S z.2 x2.toInt true) e1)
        have k0 : (zw_J (zw_I H 72 64 (Int32.ofInt (xBe S.1 S.2.1 (H.2.1 72 64).toInt x1.toInt))) 72 65 (H.2.2.1 72 65 ||| za_shl0 (Int64.ofNat 1) (Int32.ofInt (xBe S.1 S.2.1 (H.2.1 72 64).toInt x1.toInt)))).2.1 72 64 = Int32.ofInt (xBe S.1 S.2.1 (H.2.1 72 64).toInt x1.toInt) := zw_nj zw_eq
        have fr : xFs 64 64 H (zw_J (zw_I H 72 64 (Int32.ofInt (xBe S.1 S.2.1 (H.2.1 72 64).toInt x1.toInt))) 72 65 (H.2.2.1 72 65 ||| za_shl0 (Int64.ofNat 1) (Int32.ofInt (xBe S.1 S.2.1 (H.2.1 72 64).toInt x1.toInt)))) := xFs_J (xFs_I (xFs_r H) (by decide) (by decide))
        have hi : xIn S (xBe S.1 S.2.1 (H.2.1 72 64).toInt x1.toInt) := (xBe_b hS.1.1).resolve_left h4
        refine xr_s2_1 (S := S) (H := zw_J (zw_I H 72 64 (Int32.ofInt (xBe S.1 S.2.1 (H.2.1 72 64).toInt x1.toInt))) 72 65 (H.2.2.1 72 65 ||| za_shl0 (Int64.ofNat 1) (Int32.ofInt (xBe S.1 S.2.1 (H.2.1 72 64).toInt x1.toInt)))) (zw_W_J (zw_W_I W)) hS (xSR_f fr (by decide) hR) (by rw [k0, eo]; exact hi) (zw_gt rfl rfl rfl) (zw_gt rfl rfl rfl) (zw_gt rfl rfl rfl) (fun H1 w1 w2 w3 => ?_)
        rw [k0, eo] at w3
        rw [k0, eo, es]
        exact ⟨H1, rfl, w1, xFs_t fr w2, w3⟩
    · have h3 : (Int32.ofInt (xBe S.1 S.2.1 (H.2.1 72 64).toInt x1.toInt)).toInt = -1 := h3
      have h4 : (xBe S.1 S.2.1 (H.2.1 72 64).toInt x1.toInt) = -1 := by omega
      refine zw_s (pc' := 23) rfl rfl ?_
      refine zw_ri rfl rfl ?_
      have e1 := xS1_l (S := S) h1 h4
      have es : (xSt S (H.2.1 72 64).toInt x2.toInt x1.toInt true) = (3, (H.2.1 72 64).toInt) := (xSt_1 (fun h9 => absurd (show (3 : Int) = 0 from (congrArg Prod.fst e1).symm.trans h9) (by decide))).trans e1
      rw [es]
      exact ⟨H, rfl, W, xFs_r H, (x_oi _).symm⟩
end
section
/-! ===== voyage ===== -/
def zm_118 : za_MI := (yL_voyage, method_10_code, 5, (some FieldType.int), 13, 2, 12, [(0, 10, 13, 18)], za_i118)
theorem zm_118_t : za_MT 118 = some zm_118 := rfl
def zm_219 : za_MI := (yX12_voyage, prog_14_method_61_code, 3, (some FieldType.int), 12, 0, 0, [], za_i219)
theorem zm_219_t : za_MT 219 = some zm_219 := rfl
theorem xFv_W {q : Nat} {H H1 : zp_H} (h : xFv q H H1) (W : zw_W H) : zw_W H1 := ⟨h.1.trans W.1, fun p k r hr => (congrFun (congrFun h.2.1 p) k).trans (W.2 p k r hr)⟩
/-- the sea that both sides hold -/
def xSo (H : zp_H) : xSea := ((H.2.1 72 1).toInt, (H.2.1 72 2).toInt, H.2.2.1 72 12, fun k => if k < 64 then (H.2.1 73 k).toInt else -1)
theorem xSR_o (H : zp_H) : xSR H (xSo H) := ⟨rfl, rfl, rfl, fun k hk => (show _ = (if k < 64 then (H.2.1 73 k).toInt else -1) from (if_pos hk).symm)⟩
theorem xSR_0 {H : zp_H} {S : xSea} {x : Int32} (h : xSR H S) : xSR (zw_I H 72 0 x) S := ⟨(congrArg Int32.toInt (zw_ne rfl rfl)).trans h.1, (congrArg Int32.toInt (zw_ne rfl rfl)).trans h.2.1, h.2.2.1, fun k hk => (congrArg Int32.toInt (zw_ne rfl rfl)).trans (h.2.2.2 k hk)⟩
theorem xSR_J {H : zp_H} {S : xSea} {u : Int64} (h : xSR H S) : xSR (zw_J H 104 0 u) S := ⟨h.1, h.2.1, (show (zw_J H 104 0 u).2.2.1 72 12 = H.2.2.1 72 12 from by first | exact zp_u_ne (show ¬ ((72 : Nat) = 104 ∧ (12 : Nat) = 0) by decide) | rfl).trans h.2.2.1, h.2.2.2⟩
theorem xSR_v {q : Nat} {H H1 : zp_H} {S : xSea} (h : xFv q H H1) (hq : q < 72) (hR : xSR H S) : xSR H1 S := ⟨(congrArg Int32.toInt (h.2.2.1 72 1 (by omega))).trans hR.1, (congrArg Int32.toInt (h.2.2.1 72 2 (by omega))).trans hR.2.1, (h.2.2.2 72 12 (by omega)).trans hR.2.2.1, fun k hk => (congrArg Int32.toInt (h.2.2.1 73 k (by omega))).trans (hR.2.2.2 k hk)⟩

theorem xJ_S0 {t : Nat} {H : zp_H} (hJ : yJ 0 t H) : xOk (xSo H) ∧ xSC 2 H (xSo H) := by
  have hB := hJ.1.1.1
  obtain ⟨-, q2, q3, -, q5, -⟩ := hJ.1.2.2
  have e0 : H.2.1 2 0 = H.2.1 72 1 := q2 (0, 1) (by decide)
  have e1 : H.2.1 2 1 = H.2.1 72 2 := q2 (1, 2) (by decide)
  have e3 : H.2.2.1 2 3 = H.2.2.1 72 12 := q3
  have e5 : ∀ i, i < 64 → H.2.1 4 i = H.2.1 73 i := q5
  have b0 := zB_fr1 (zB_dn (zB_Bc hB)) (p := 2) (k := 0) (r := (2, 8)) rfl
  have b0 : 2 ≤ (H.2.1 2 0).toInt ∧ (H.2.1 2 0).toInt ≤ 8 := b0
  have b1 := zB_fr1 (zB_dn (zB_Bc hB)) (p := 2) (k := 1) (r := (2, 8)) rfl
  have b1 : 2 ≤ (H.2.1 2 1).toInt ∧ (H.2.1 2 1).toInt ≤ 8 := b1
  have hQ := hB.2.2.2.2.2.2.2
  refine ⟨⟨by show 2 ≤ (H.2.1 72 1).toInt ∧ (H.2.1 72 1).toInt ≤ 8; rw [← e0]; exact b0, by show 2 ≤ (H.2.1 72 2).toInt ∧ (H.2.1 72 2).toInt ≤ 8; rw [← e1]; exact b1, fun k => ?_⟩, congrArg Int32.toInt e0, congrArg Int32.toInt e1, e3, fun k hk => ?_, fun k hk => ?_⟩
  · show -1 ≤ (if k < 64 then (H.2.1 73 k).toInt else -1) ∧ (if k < 64 then (H.2.1 73 k).toInt else -1) ≤ 3
    by_cases hk : k < 64
    · rw [if_pos hk, ← e5 k hk]
      have b := zB_ar1 (zB_dn (zB_Bc hB)) (p := 4) (t := 0) (n := 64) (i := k) (r := (-1, 3)) rfl hk (by rw [show (zB_al zB_ar 4).1 = 1 from rfl, Nat.mod_one]; rfl)
      exact b
    · rw [if_neg hk]
      exact ⟨by decide, by decide⟩
  · show (H.2.1 4 k).toInt = (if k < 64 then (H.2.1 73 k).toInt else -1)
    rw [if_pos hk, e5 k hk]
  · exact hQ.1.2 k hk

theorem xJ_S3 {t : Nat} {H : zp_H} (hJ : yJ 3 t H) : xOk (xSo H) ∧ xSC 22 H (xSo H) := by
  have hB := hJ.1.1.1
  obtain ⟨-, q2, q3, -, q5, -⟩ := hJ.1.2.2
  have e0 : H.2.1 22 0 = H.2.1 72 1 := q2 (0, 1) (by decide)
  have e1 : H.2.1 22 1 = H.2.1 72 2 := q2 (1, 2) (by decide)
  have e3 : H.2.2.1 22 3 = H.2.2.1 72 12 := q3
  have e5 : ∀ i, i < 64 → H.2.1 24 i = H.2.1 73 i := q5
  have b0 := zB_fr1 (zB_dn (zB_Bc hB)) (p := 22) (k := 0) (r := (2, 8)) rfl
  have b0 : 2 ≤ (H.2.1 22 0).toInt ∧ (H.2.1 22 0).toInt ≤ 8 := b0
  have b1 := zB_fr1 (zB_dn (zB_Bc hB)) (p := 22) (k := 1) (r := (2, 8)) rfl
  have b1 : 2 ≤ (H.2.1 22 1).toInt ∧ (H.2.1 22 1).toInt ≤ 8 := b1
  have hQ := hB.2.2.2.2.2.2.2
  refine ⟨⟨by show 2 ≤ (H.2.1 72 1).toInt ∧ (H.2.1 72 1).toInt ≤ 8; rw [← e0]; exact b0, by show 2 ≤ (H.2.1 72 2).toInt ∧ (H.2.1 72 2).toInt ≤ 8; rw [← e1]; exact b1, fun k => ?_⟩, congrArg Int32.toInt e0, congrArg Int32.toInt e1, e3, fun k hk => ?_, fun k hk => ?_⟩
  · show -1 ≤ (if k < 64 then (H.2.1 73 k).toInt else -1) ∧ (if k < 64 then (H.2.1 73 k).toInt else -1) ≤ 3
    by_cases hk : k < 64
    · rw [if_pos hk, ← e5 k hk]
      have b := zB_ar1 (zB_dn (zB_Bc hB)) (p := 24) (t := 0) (n := 64) (i := k) (r := (-1, 3)) rfl hk (by rw [show (zB_al zB_ar 24).1 = 1 from rfl, Nat.mod_one]; rfl)
      exact b
    · rw [if_neg hk]
      exact ⟨by decide, by decide⟩
  · show (H.2.1 24 k).toInt = (if k < 64 then (H.2.1 73 k).toInt else -1)
    rw [if_pos hk, e5 k hk]
  · exact hQ.2.2 k hk
end
