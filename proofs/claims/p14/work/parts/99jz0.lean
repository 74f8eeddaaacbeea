/-! ===== where he may be: masks, sets of cells ===== -/
theorem tb_and {a b : Int64} {k : Nat} : yTb (a &&& b) k = (yTb a k && yTb b k) := by
  unfold yTb
  rw [yN_and, Nat.testBit_and]
theorem tb_or {a b : Int64} {k : Nat} : yTb (a ||| b) k = (yTb a k || yTb b k) := by
  unfold yTb
  rw [yN_or, Nat.testBit_or]
theorem tb_xor {a b : Int64} {k : Nat} : yTb (a ^^^ b) k = (yTb a k ^^ yTb b k) := by
  unfold yTb
  rw [Int64.toBitVec_xor, BitVec.toNat_xor, Nat.testBit_xor]
theorem tb_hi {a : Int64} {k : Nat} (hk : 64 ≤ k) : yTb a k = false := Nat.testBit_lt_two_pow (Nat.lt_of_lt_of_le a.toBitVec.isLt (Nat.pow_le_pow_right (by decide) hk))
theorem tb_m1 : ∀ k, k < 64 → yTb (Int64.ofInt (-1)) k = true := by decide +kernel
theorem tb_not {a : Int64} {k : Nat} (hk : k < 64) : yTb (a ^^^ Int64.ofInt (-1)) k = !yTb a k := by rw [tb_xor, tb_m1 k hk, Bool.xor_true]
theorem tb_0 {k : Nat} : yTb (Int64.ofNat 0) k = false := by
  have e : (Int64.ofNat 0).toBitVec.toNat = 0 := by decide
  unfold yTb
  rw [e, Nat.zero_testBit]
theorem tb_ext {a b : Int64} (h : ∀ k, k < 64 → (yTb a k = true ↔ yTb b k = true)) : a = b := by
  rw [← Int64.toBitVec_inj, ← BitVec.toNat_inj]
  apply Nat.eq_of_testBit_eq
  intro i
  show yTb a i = yTb b i
  by_cases hi : i < 64
  · exact Bool.eq_iff_iff.mpr (h i hi)
  · rw [tb_hi (Nat.le_of_not_lt hi), tb_hi (Nat.le_of_not_lt hi)]
theorem x_oN {c : Int32} (hc : 0 ≤ c.toInt ∧ c.toInt ≤ 63) : c = Int32.ofInt ((c.toInt.toNat : Nat) : Int) := by rw [show ((c.toInt.toNat : Nat) : Int) = c.toInt by omega, Int32.ofInt_toInt]
theorem tb_ush {r : Int64} {c : Int32} {k : Nat} (hc : 0 ≤ c.toInt ∧ c.toInt ≤ 63) : yTb (za_ushr0 r c) k = yTb r (k + c.toInt.toNat) := by
  have e := x_oN hc
  have h1 : (za_ushr0 r c).toBitVec.toNat = r.toBitVec.toNat / 2 ^ c.toInt.toNat := by
    refine yN_ushr (m := c.toInt.toNat) ?_ rfl
    have h2 := y_scu c.toInt.toNat (by omega)
    rw [← e] at h2
    exact h2
  unfold yTb
  rw [h1, Nat.testBit_div_two_pow]
theorem tb_shl {r : Int64} {c : Int32} {k : Nat} (hc : 0 ≤ c.toInt ∧ c.toInt ≤ 63) (hk : k < 64) : yTb (za_shl0 r c) k = (decide (c.toInt.toNat ≤ k) && yTb r (k - c.toInt.toNat)) := by
  have e := x_oN hc
  have h1 : (za_shl0 r c).toBitVec = r.toBitVec <<< c.toInt.toNat := by
    have h2 := y_sc c.toInt.toNat (by omega)
    rw [← e] at h2
    show (r <<< (c.toInt64 &&& 63)).toBitVec = _
    rw [Int64.toBitVec_shiftLeft]
    show r.toBitVec <<< ((c.toInt64 &&& 63).toBitVec.smod 64).toNat = _
    rw [h2]
  show (za_shl0 r c).toBitVec.getLsbD k = _
  rw [h1, BitVec.getLsbD_shiftLeft, decide_eq_true hk, Bool.true_and]
  by_cases h9 : c.toInt.toNat ≤ k
  · rw [decide_eq_true h9, decide_eq_false (Nat.not_lt.mpr h9)]
    rfl
  · rw [decide_eq_false h9, decide_eq_true (Nat.lt_of_not_le h9)]
    rfl
theorem tb_bit {c : Int32} {k : Nat} (hc : 0 ≤ c.toInt ∧ c.toInt ≤ 63) (hk : k < 64) : yTb (za_shl0 (Int64.ofNat 1) c) k = decide (k = c.toInt.toNat) := by
  rw [tb_shl hc hk]
  have e : (Int64.ofNat 1).toBitVec.toNat = 1 := by decide
  by_cases h9 : c.toInt.toNat ≤ k
  · rw [decide_eq_true h9, Bool.true_and]
    unfold yTb
    rw [e]
    by_cases h8 : k = c.toInt.toNat
    · rw [decide_eq_true h8, h8, Nat.sub_self]
      rfl
    · rw [decide_eq_false h8]
      exact Nat.testBit_lt_two_pow (Nat.lt_of_lt_of_le (by decide : 1 < 2) (Nat.le_trans (by decide : 2 ≤ 2 ^ 1) (Nat.pow_le_pow_right (by decide) (by omega))))
  · rw [decide_eq_false h9, Bool.false_and, decide_eq_false (by omega)]
/-- the cells from which there is one that way -/
def xOck (w h k c : Nat) : Bool := yTb (zq_o (Int32.ofNat (w + 2)) (Int32.ofNat (h + 2)) (zq_col (Int32.ofNat (w + 2)) (Int32.ofNat (h + 2))) k) c == decide (c < (w + 2) * (h + 2) ∧ xBe (w + 2 : Nat) (h + 2 : Nat) c k ≠ -1)
theorem xO_tab : (List.range 7).all (fun w => (List.range 7).all (fun h => (List.range 4).all (fun k => (List.range 64).all (fun c => xOck w h k c)))) = true := by decide +kernel
theorem xO_ok {w h : Int32} {k c : Nat} (hw : 2 ≤ w.toInt ∧ w.toInt ≤ 8) (hh : 2 ≤ h.toInt ∧ h.toInt ≤ 8) (hk : k < 4) (hc : c < 64) : yTb (zq_o w h (zq_col w h) k) c = true ↔ ((c : Int) < w.toInt * h.toInt ∧ xBe w.toInt h.toInt c k ≠ -1) := by
  obtain ⟨a, a1, rfl⟩ := zq_i (n := 2) (m := 7) (x := w) (by omega) (by omega) (by decide)
  obtain ⟨b, b1, rfl⟩ := zq_i (n := 2) (m := 7) (x := h) (by omega) (by omega) (by decide)
  have t := List.all_eq_true.mp (List.all_eq_true.mp (List.all_eq_true.mp (List.all_eq_true.mp xO_tab a (List.mem_range.mpr a1)) b (List.mem_range.mpr b1)) k (List.mem_range.mpr hk)) c (List.mem_range.mpr hc)
  have ea : (Int32.ofNat (a + 2)).toInt = ((a + 2 : Nat) : Int) := Int32.toInt_ofNat_of_lt (by show _ < 2147483648; omega)
  have eb : (Int32.ofNat (b + 2)).toInt = ((b + 2 : Nat) : Int) := Int32.toInt_ofNat_of_lt (by show _ < 2147483648; omega)
  have t : yTb (zq_o (Int32.ofNat (a + 2)) (Int32.ofNat (b + 2)) (zq_col (Int32.ofNat (a + 2)) (Int32.ofNat (b + 2))) k) c = decide (c < (a + 2) * (b + 2) ∧ xBe (a + 2 : Nat) (b + 2 : Nat) c k ≠ -1) := eq_of_beq t
  rw [t, ea, eb, decide_eq_true_iff]
  have e2 : ((a + 2 : Nat) : Int) * ((b + 2 : Nat) : Int) = (((a + 2) * (b + 2) : Nat) : Int) := (Int.natCast_mul _ _).symm
  rw [e2]
  exact ⟨fun h9 => ⟨by omega, h9.2⟩, fun h9 => ⟨by omega, h9.2⟩⟩
theorem xO_v {w h : Int32} {k c : Nat} (hw : 2 ≤ w.toInt ∧ w.toInt ≤ 8) (hh : 2 ≤ h.toInt ∧ h.toInt ≤ 8) (hk : k < 4) (h1 : (c : Int) < w.toInt * h.toInt) (h2 : xBe w.toInt h.toInt c k ≠ -1) : xBe w.toInt h.toInt c k = zq_n k c w.toInt := by
  have h3 : w.toInt * h.toInt ≤ 8 * 8 := Int.mul_le_mul hw.2 hh.2 (by omega) (by omega)
  have e : (Int32.ofNat c).toInt = (c : Int) := Int32.toInt_ofNat_of_lt (by show _ < 2147483648; omega)
  have t := xN_ok (w := w) (h := h) (c := Int32.ofNat c) hw hh hk (by rw [e]; omega) (by rw [e]; exact h1)
  rw [e] at t
  rcases t with t | t
  · exact absurd t.2 h2
  · exact t.2.1
/-- all these cells moved one that way -/
def xMw (S : xSea) (w : Int) (X Y : Int64) : Prop := ∀ k : Nat, k < 64 → (yTb Y k = true ↔ ∃ c : Nat, (c : Int) < S.1 * S.2.1 ∧ yTb X c = true ∧ xBe S.1 S.2.1 c w = (k : Int))
theorem xMw_of {S : xSea} {w : Int} {X Y O : Int64} {f : Nat → Nat} (hO : ∀ c : Nat, yTb O c = true ↔ ((c : Int) < S.1 * S.2.1 ∧ xBe S.1 S.2.1 c w ≠ -1)) (hY : ∀ k, k < 64 → (yTb Y k = true ↔ ∃ c, f c = k ∧ yTb X c = true ∧ yTb O c = true)) (hv : ∀ c : Nat, (c : Int) < S.1 * S.2.1 → xBe S.1 S.2.1 c w ≠ -1 → xBe S.1 S.2.1 c w = (f c : Int)) : xMw S w X Y := by
  intro k hk
  rw [hY k hk]
  constructor
  · rintro ⟨c, h1, h2, h3⟩
    obtain ⟨h4, h5⟩ := (hO c).mp h3
    exact ⟨c, h4, h2, (hv c h4 h5).trans (by rw [h1])⟩
  · rintro ⟨c, h1, h2, h3⟩
    have h5 : xBe S.1 S.2.1 c w ≠ -1 := by rw [h3]; omega
    refine ⟨c, ?_, h2, (hO c).mpr ⟨h1, h5⟩⟩
    have := hv c h1 h5
    omega
theorem xMw_r {S : xSea} {w : Int} {X O : Int64} {s : Int32} (hs : 0 ≤ s.toInt ∧ s.toInt ≤ 63) (hO : ∀ c : Nat, yTb O c = true ↔ ((c : Int) < S.1 * S.2.1 ∧ xBe S.1 S.2.1 c w ≠ -1)) (hv : ∀ c : Nat, (c : Int) < S.1 * S.2.1 → xBe S.1 S.2.1 c w ≠ -1 → xBe S.1 S.2.1 c w = (c : Int) - s.toInt) (h0 : ∀ c : Nat, 0 ≤ xBe S.1 S.2.1 c w ∨ xBe S.1 S.2.1 c w = -1) : xMw S w X (za_ushr0 (X &&& O) s) := by
  refine xMw_of (f := fun c => c - s.toInt.toNat) hO (fun k hk => ?_) (fun c h1 h2 => ?_)
  · rw [tb_ush hs, tb_and, Bool.and_eq_true_iff]
    constructor
    · rintro ⟨h1, h2⟩
      exact ⟨k + s.toInt.toNat, by show k + s.toInt.toNat - s.toInt.toNat = k; omega, h1, h2⟩
    · rintro ⟨c, h1, h2, h3⟩
      obtain ⟨h4, h5⟩ := (hO c).mp h3
      have h6 := hv c h4 h5
      have h7 := h0 c
      have h1 : c - s.toInt.toNat = k := h1
      have e : k + s.toInt.toNat = c := by omega
      rw [e]
      exact ⟨h2, h3⟩
  · show _ = ((c - s.toInt.toNat : Nat) : Int)
    have h6 := hv c h1 h2
    have h7 := h0 c
    omega
theorem xMw_l {S : xSea} {w : Int} {X O : Int64} {s : Int32} (hs : 0 ≤ s.toInt ∧ s.toInt ≤ 63) (hO : ∀ c : Nat, yTb O c = true ↔ ((c : Int) < S.1 * S.2.1 ∧ xBe S.1 S.2.1 c w ≠ -1)) (hv : ∀ c : Nat, (c : Int) < S.1 * S.2.1 → xBe S.1 S.2.1 c w ≠ -1 → xBe S.1 S.2.1 c w = (c : Int) + s.toInt) : xMw S w X (za_shl0 (X &&& O) s) := by
  refine xMw_of (f := fun c => c + s.toInt.toNat) hO (fun k hk => ?_) (fun c h1 h2 => ?_)
  · rw [tb_shl hs hk, Bool.and_eq_true_iff, decide_eq_true_iff, tb_and, Bool.and_eq_true_iff]
    constructor
    · rintro ⟨h0, h1, h2⟩
      exact ⟨k - s.toInt.toNat, by show k - s.toInt.toNat + s.toInt.toNat = k; omega, h1, h2⟩
    · rintro ⟨c, h1, h2, h3⟩
      have h1 : c + s.toInt.toNat = k := h1
      have e : k - s.toInt.toNat = c := by omega
      rw [e]
      exact ⟨by omega, h2, h3⟩
  · show _ = ((c + s.toInt.toNat : Nat) : Int)
    have h6 := hv c h1 h2
    omega
/-- ships in all these cells sail a step at once, or are driven at once -/
def xS1s (S : xSea) (w : Int) (X Y : Int64) : Prop := ∀ k : Nat, k < 64 → (yTb Y k = true ↔ ∃ c : Nat, (c : Int) < S.1 * S.2.1 ∧ yTb X c = true ∧ xS1 S c w = (0, (k : Int)))
def xS2s (S : xSea) (X Y : Int64) : Prop := ∀ k : Nat, k < 64 → (yTb Y k = true ↔ ∃ c : Nat, (c : Int) < S.1 * S.2.1 ∧ yTb X c = true ∧ xS2 S c 0 true = (0, (k : Int)))
def xSs (S : xSea) (w hr : Int) (X Y : Int64) : Prop := ∀ k : Nat, k < 64 → (yTb Y k = true ↔ ∃ c : Nat, (c : Int) < S.1 * S.2.1 ∧ yTb X c = true ∧ xSt S c hr w true = (0, (k : Int)))
theorem xS1s_of {S : xSea} {w : Int} {X Y : Int64} (hw : w ≠ -1) (h : xMw S w X Y) : xS1s S w X (Y &&& (S.2.2.1 ^^^ Int64.ofInt (-1))) := by
  intro k hk
  rw [tb_and, Bool.and_eq_true_iff, tb_not hk, h k hk]
  constructor
  · rintro ⟨⟨c, h1, h2, h3⟩, h4⟩
    refine ⟨c, h1, h2, ?_⟩
    have e : ¬ yTb S.2.2.1 (xBe S.1 S.2.1 c w).toNat = true := by
      rw [h3, Int.toNat_natCast]
      intro h9
      rw [h9] at h4
      cases h4
    rw [xS1_f hw (by rw [h3]; omega) e, h3]
  · rintro ⟨c, h1, h2, h3⟩
    by_cases hb : xBe S.1 S.2.1 c w = -1
    · rw [xS1_l hw hb] at h3
      exact absurd (show (3 : Int) = 0 from congrArg Prod.fst h3) (by decide)
    by_cases hr : yTb S.2.2.1 (xBe S.1 S.2.1 c w).toNat = true
    · rw [xS1_r hw hb hr] at h3
      exact absurd (show (1 : Int) = 0 from congrArg Prod.fst h3) (by decide)
    rw [xS1_f hw hb hr] at h3
    have e : xBe S.1 S.2.1 c w = (k : Int) := congrArg Prod.snd h3
    refine ⟨⟨c, h1, h2, e⟩, ?_⟩
    rw [e, Int.toNat_natCast] at hr
    cases h9 : yTb S.2.2.1 k with
    | true => exact absurd h9 hr
    | false => rfl
theorem xSs_e {S : xSea} {w : Int} {X Y Z : Int64} (hS : xOk S) (h1 : xS1s S w X Y) (h2 : xS2s S Y Z) : xSs S w 0 X Z := by
  intro k hk
  rw [h2 k hk]
  constructor
  · rintro ⟨b, b1, b2, b3⟩
    have h9 : S.1 * S.2.1 ≤ 8 * 8 := Int.mul_le_mul hS.1.2 hS.2.1.2 (by have := hS.2.1; omega) (by omega)
    obtain ⟨c, c1, c2, c3⟩ := (h1 b (by omega)).mp b2
    refine ⟨c, c1, c2, ?_⟩
    rw [xSt_0 (congrArg Prod.fst c3), c3]
    exact b3
  · rintro ⟨c, c1, c2, c3⟩
    by_cases h0 : (xS1 S c w).1 = 0
    · rw [xSt_0 h0] at c3
      have hb := xS1_b (d := w) hS (show xIn S c from ⟨Int.natCast_nonneg _, c1⟩)
      obtain ⟨b, eb⟩ : ∃ b : Nat, (xS1 S c w).2 = (b : Int) := ⟨(xS1 S c w).2.toNat, by have := hb.1.1; omega⟩
      have e1 : xS1 S c w = (0, (b : Int)) := Prod.ext h0 eb
      have hb2 : (b : Int) < S.1 * S.2.1 := by rw [← eb]; exact hb.1.2
      have h9 : S.1 * S.2.1 ≤ 8 * 8 := Int.mul_le_mul hS.1.2 hS.2.1.2 (by have := hS.2.1; omega) (by omega)
      rw [eb] at c3
      exact ⟨b, hb2, (h1 b (by omega)).mpr ⟨c, c1, c2, e1⟩, c3⟩
    · rw [xSt_1 h0] at c3
      exact absurd (congrArg Prod.fst c3) h0
theorem xS2_o {S : xSea} {c : Int} : xS2 S c 1 true = (0, c) := xS2_n (if_neg (fun h9 => absurd h9.2.1 (by decide)))
theorem xSs_o {S : xSea} {w : Int} {X Y : Int64} (h1 : xS1s S w X Y) : xSs S w 1 X Y := by
  intro k hk
  rw [h1 k hk]
  constructor
  · rintro ⟨c, c1, c2, c3⟩
    refine ⟨c, c1, c2, ?_⟩
    rw [xSt_0 (congrArg Prod.fst c3), c3, xS2_o]
  · rintro ⟨c, c1, c2, c3⟩
    refine ⟨c, c1, c2, ?_⟩
    by_cases h0 : (xS1 S c w).1 = 0
    · rw [xSt_0 h0, xS2_o] at c3
      exact Prod.ext h0 (Prod.mk.inj c3).2
    · rw [xSt_1 h0] at c3
      exact c3
theorem xSt_p {S : xSea} {c hr w : Int} {t : Bool} : xSt S c hr w t = xSt S c (hr % 2) w t := by
  have e : ∀ c, xDr S c hr t = xDr S c (hr % 2) t := fun c => by
    unfold xDr
    rw [Int.emod_emod_of_dvd hr (Int.dvd_refl 2)]
  have e2 : ∀ c, xS2 S c hr t = xS2 S c (hr % 2) t := fun c => by
    unfold xS2
    rw [e]
  unfold xSt
  rw [e2]
/-- where he may be after an hour more: Q says where after h hours -/
def xIm (S : xSea) (hr : Int) (Q : Nat → Nat → Prop) (w : Int) : Nat → Nat → Prop := fun h k => ∃ h' c : Nat, h = h' + 1 ∧ (c : Int) < S.1 * S.2.1 ∧ Q h' c ∧ xSt S c (hr + h') w true = (0, (k : Int))
def xItn (S : xSea) (hr : Int) (Q : Nat → Nat → Prop) (w : Int) : Nat → Nat → Nat → Prop
  | 0 => Q
  | n + 1 => xIm S hr (xItn S hr Q w n) w
/-- a rubbed mark: steps 1 to n of a way more -/
def xUf (S : xSea) (hr : Int) (P Q : Nat → Nat → Prop) (w : Int) : Nat → Nat → Nat → Prop
  | 0 => P
  | n + 1 => fun h k => xUf S hr P Q w n h k ∨ xItn S hr Q w (n + 1) h k
def xFa : Nat → Nat → Prop := fun _ _ => False
def xRub (S : xSea) (hr : Int) (Q : Nat → Nat → Prop) : Nat → Nat → Prop := xUf S hr (xUf S hr (xUf S hr (xUf S hr xFa Q 0 9) Q 1 9) Q 2 9) Q 3 9
def xMark (S : xSea) (hr : Int) (rub : Bool) (w : Int) (n : Nat) (Q : Nat → Nat → Prop) : Nat → Nat → Prop := if rub = true then xRub S hr Q else xItn S hr Q w n
def xMay (S : xSea) (hr : Int) (c0 : Nat) (rub : Nat → Bool) (wy st : Nat → Int32) : Nat → Nat → Nat → Prop
  | 0 => fun h k => h = 0 ∧ k = c0
  | m + 1 => xMark S hr (rub m) (wy m).toInt (st m).toInt.toNat (xMay S hr c0 rub wy st m)
theorem xItn_b {S : xSea} {hr w : Int} {Q : Nat → Nat → Prop} {B : Nat} (hQ : ∀ h k, Q h k → h ≤ B) : ∀ (n h k : Nat), xItn S hr Q w n h k → h ≤ B + n := by
  intro n
  induction n with
  | zero => exact fun h k h9 => hQ h k h9
  | succ n ih =>
    rintro h k ⟨h', c, rfl, -, h2, -⟩
    have := ih h' c h2
    omega
theorem xUf_b {S : xSea} {hr w : Int} {P Q : Nat → Nat → Prop} {B : Nat} (hP : ∀ h k, P h k → h ≤ B + 9) (hQ : ∀ h k, Q h k → h ≤ B) : ∀ (n : Nat), n ≤ 9 → ∀ h k, xUf S hr P Q w n h k → h ≤ B + 9 := by
  intro n
  induction n with
  | zero => exact fun _ h k h9 => hP h k h9
  | succ n ih =>
    rintro hn h k (h9 | h9)
    · exact ih (by omega) h k h9
    · have := xItn_b hQ (n + 1) h k h9
      omega
theorem xRub_b {S : xSea} {hr : Int} {Q : Nat → Nat → Prop} {B : Nat} (hQ : ∀ h k, Q h k → h ≤ B) : ∀ h k, xRub S hr Q h k → h ≤ B + 9 := xUf_b (xUf_b (xUf_b (xUf_b (fun _ _ h9 => h9.elim) hQ 9 (Nat.le_refl _)) hQ 9 (Nat.le_refl _)) hQ 9 (Nat.le_refl _)) hQ 9 (Nat.le_refl _)
theorem xMark_b {S : xSea} {hr w : Int} {rub : Bool} {n : Nat} {Q : Nat → Nat → Prop} {B : Nat} (hn : n ≤ 9) (hQ : ∀ h k, Q h k → h ≤ B) : ∀ h k, xMark S hr rub w n Q h k → h ≤ B + 9 := by
  intro h k h9
  unfold xMark at h9
  by_cases hr9 : rub = true
  · rw [if_pos hr9] at h9
    exact xRub_b hQ h k h9
  · rw [if_neg hr9] at h9
    have := xItn_b hQ n h k h9
    omega
theorem xMay_b {S : xSea} {hr : Int} {c0 : Nat} {rub : Nat → Bool} {wy st : Nat → Int32} {M : Nat} (hs : ∀ m, m < M → (st m).toInt.toNat ≤ 9) : ∀ m, m ≤ M → ∀ h k, xMay S hr c0 rub wy st m h k → h ≤ 9 * m := by
  intro m
  induction m with
  | zero => exact fun _ h k h9 => by have := h9.1; omega
  | succ m ih =>
    intro hm h k h9
    have := xMark_b (hs m (by omega)) (ih (by omega)) h k h9
    omega
theorem xMay_c {S : xSea} {hr : Int} {c0 : Nat} {rub rub' : Nat → Bool} {wy st wy' st' : Nat → Int32} : ∀ m, (∀ j, j < m → rub j = rub' j ∧ wy j = wy' j ∧ st j = st' j) → xMay S hr c0 rub wy st m = xMay S hr c0 rub' wy' st' m := by
  intro m
  induction m with
  | zero => exact fun _ => rfl
  | succ m ih =>
    intro h
    obtain ⟨e1, e2, e3⟩ := h m (by omega)
    show xMark S hr (rub m) (wy m).toInt (st m).toInt.toNat (xMay S hr c0 rub wy st m) = xMark S hr (rub' m) (wy' m).toInt (st' m).toInt.toNat (xMay S hr c0 rub' wy' st' m)
    rw [e1, e2, e3, ih (fun j hj => h j (by omega))]
/-- the class: cells of even hours, of odd ones -/
def xCL (hr : Int) (Q : Nat → Nat → Prop) (E O : Int64) : Prop := (∀ k, k < 64 → (yTb E k = true ↔ ∃ h : Nat, (hr + h) % 2 = 0 ∧ Q h k)) ∧ ∀ k, k < 64 → (yTb O k = true ↔ ∃ h : Nat, (hr + h) % 2 = 1 ∧ Q h k)
theorem xCL_s {S : xSea} {hr w : Int} {Q : Nat → Nat → Prop} {E O E' O' : Int64} (hS : xOk S) (h : xCL hr Q E O) (hE : xSs S w 1 O E') (hO : xSs S w 0 E O') : xCL hr (xIm S hr Q w) E' O' := by
  have h9 : S.1 * S.2.1 ≤ 8 * 8 := Int.mul_le_mul hS.1.2 hS.2.1.2 (by have := hS.2.1; omega) (by omega)
  refine ⟨fun k hk => ?_, fun k hk => ?_⟩
  · rw [hE k hk]
    constructor
    · rintro ⟨c, c1, c2, c3⟩
      obtain ⟨g, g1, g2⟩ := (h.2 c (by omega)).mp c2
      exact ⟨g + 1, by omega, g, c, rfl, c1, g2, by rw [xSt_p, g1]; exact c3⟩
    · rintro ⟨g, g1, g', c, rfl, c1, c2, c3⟩
      have e : (hr + g') % 2 = 1 := by omega
      rw [xSt_p, e] at c3
      exact ⟨c, c1, (h.2 c (by omega)).mpr ⟨g', e, c2⟩, c3⟩
  · rw [hO k hk]
    constructor
    · rintro ⟨c, c1, c2, c3⟩
      obtain ⟨g, g1, g2⟩ := (h.1 c (by omega)).mp c2
      exact ⟨g + 1, by omega, g, c, rfl, c1, g2, by rw [xSt_p, g1]; exact c3⟩
    · rintro ⟨g, g1, g', c, rfl, c1, c2, c3⟩
      have e : (hr + g') % 2 = 0 := by omega
      rw [xSt_p, e] at c3
      exact ⟨c, c1, (h.1 c (by omega)).mpr ⟨g', e, c2⟩, c3⟩
theorem xCL_o {hr : Int} {P Q : Nat → Nat → Prop} {E O E' O' : Int64} (h : xCL hr P E O) (h' : xCL hr Q E' O') : xCL hr (fun a b => P a b ∨ Q a b) (E ||| E') (O ||| O') := by
  refine ⟨fun k hk => ?_, fun k hk => ?_⟩
  · rw [tb_or, Bool.or_eq_true_iff, h.1 k hk, h'.1 k hk]
    constructor
    · rintro (⟨g, g1, g2⟩ | ⟨g, g1, g2⟩)
      · exact ⟨g, g1, Or.inl g2⟩
      · exact ⟨g, g1, Or.inr g2⟩
    · rintro ⟨g, g1, g2 | g2⟩
      · exact Or.inl ⟨g, g1, g2⟩
      · exact Or.inr ⟨g, g1, g2⟩
  · rw [tb_or, Bool.or_eq_true_iff, h.2 k hk, h'.2 k hk]
    constructor
    · rintro (⟨g, g1, g2⟩ | ⟨g, g1, g2⟩)
      · exact ⟨g, g1, Or.inl g2⟩
      · exact ⟨g, g1, Or.inr g2⟩
    · rintro ⟨g, g1, g2 | g2⟩
      · exact Or.inl ⟨g, g1, g2⟩
      · exact Or.inr ⟨g, g1, g2⟩
theorem xCL_f {hr : Int} : xCL hr xFa (Int64.ofNat 0) (Int64.ofNat 0) := by
  refine ⟨fun k _ => ?_, fun k _ => ?_⟩ <;> rw [tb_0]
  · exact ⟨fun h => (by cases h), fun ⟨_, _, h⟩ => h.elim⟩
  · exact ⟨fun h => (by cases h), fun ⟨_, _, h⟩ => h.elim⟩
theorem xCL_v {hr : Int} {Q : Nat → Nat → Prop} {E O : Int64} (h : xCL hr Q E O) : ∀ k, k < 64 → (yTb (E ||| O) k = true ↔ ∃ h : Nat, Q h k) := by
  intro k hk
  rw [tb_or, Bool.or_eq_true_iff, h.1 k hk, h.2 k hk]
  constructor
  · rintro (⟨g, g1, g2⟩ | ⟨g, g1, g2⟩)
    · exact ⟨g, g2⟩
    · exact ⟨g, g2⟩
  · rintro ⟨g, g2⟩
    rcases (show (hr + g) % 2 = 0 ∨ (hr + g) % 2 = 1 by omega) with e | e
    · exact Or.inl ⟨g, e, g2⟩
    · exact Or.inr ⟨g, e, g2⟩
/-- the reference: cells after h hours -/
def xML (Q : Nat → Nat → Prop) (M : Nat → Int64) : Prop := ∀ h, h ≤ 72 → ∀ k, k < 64 → (yTb (M h) k = true ↔ Q h k)
theorem xML_s {S : xSea} {hr w : Int} {Q : Nat → Nat → Prop} {M M' : Nat → Int64} (hS : xOk S) (h : xML Q M) (h0 : M' 0 = Int64.ofNat 0) (h1 : ∀ g : Nat, g < 72 → xSs S w ((hr + g) % 2) (M g) (M' (g + 1))) : xML (xIm S hr Q w) M' := by
  have h9 : S.1 * S.2.1 ≤ 8 * 8 := Int.mul_le_mul hS.1.2 hS.2.1.2 (by have := hS.2.1; omega) (by omega)
  intro g hg k hk
  match g, hg with
  | 0, _ =>
    rw [h0, tb_0]
    exact ⟨fun h => (by cases h), fun ⟨g', _, e, _⟩ => by omega⟩
  | g + 1, hg =>
    rw [h1 g (by omega) k hk]
    constructor
    · rintro ⟨c, c1, c2, c3⟩
      exact ⟨g, c, rfl, c1, (h g (by omega) c (by omega)).mp c2, by rw [xSt_p]; exact c3⟩
    · rintro ⟨g', c, e, c1, c2, c3⟩
      obtain rfl : g' = g := by omega
      rw [xSt_p] at c3
      exact ⟨c, c1, (h g' (by omega) c (by omega)).mpr c2, c3⟩
theorem xML_o {P Q : Nat → Nat → Prop} {M N : Nat → Int64} {K : Nat → Int64} (h : xML P M) (h' : xML Q N) (hK : ∀ g, g ≤ 72 → K g = M g ||| N g) : xML (fun a b => P a b ∨ Q a b) K := by
  intro g hg k hk
  rw [hK g hg, tb_or, Bool.or_eq_true_iff, h g hg k hk, h' g hg k hk]
theorem xML_f {M : Nat → Int64} (h : ∀ g, g ≤ 72 → M g = Int64.ofNat 0) : xML xFa M := by
  intro g hg k hk
  rw [h g hg, tb_0]
  exact ⟨fun h => (by cases h), fun h => h.elim⟩
