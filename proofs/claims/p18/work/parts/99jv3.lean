/-! ===== an hour at sea: the reference ===== -/
def zm_221 : za_MI := (yX12_steps, prog_14_method_59_code, 5, (some FieldType.int), 12, 0, 0, [], za_i221)
theorem zm_221_t : za_MT 221 = some zm_221 := rfl
def zm_222 : za_MI := (yX12_beside, prog_14_method_57_code, 5, (some FieldType.int), 12, 0, 0, [], za_i222)
theorem zm_222_t : za_MT 222 = some zm_222 := rfl
def zm_223 : za_MI := (yX12_isRock, prog_14_method_58_code, 2, (some FieldType.boolean), 12, 0, 0, [], za_i223)
theorem zm_223_t : za_MT 223 = some zm_223 := rfl
theorem zw_div {L : Nat} {σ : Nat → Int32} {P : zp_X → Prop} {M : za_MI} {fs : List zs_F} {d pc pc' : Nat} {lv : zp_LV} {st : List zp_V} {H : zp_H} {c : Nat × Nat} {x y : Int32} (hi : za_fe (za_is M) pc = some .idiv) (hy : y ≠ 0) (hp : pc + 1 = pc') (hS : zs_Safe L σ P M fs d (pc', lv, .inl (x / y) :: st, H, c)) : zs_Safe L σ P M fs d (pc, lv, .inl y :: .inl x :: st, H, c) := by
  refine zs_step (S := (pc, lv, .inl y :: .inl x :: st, H, c)) (S' := (pc', lv, .inl (x / y) :: st, H, c)) hi ?_ hS
  show (if y = 0 then none else zp_go lv (H, c) (pc + 1) (.inl (x / y) :: st)) = _
  rw [if_neg hy, ← hp]
  rfl
/-- the reference's sea -/
def xSR (H : zp_H) (S : xSea) : Prop := (H.2.1 72 1).toInt = S.1 ∧ (H.2.1 72 2).toInt = S.2.1 ∧ H.2.2.1 72 12 = S.2.2.1 ∧ ∀ k, k < 64 → (H.2.1 73 k).toInt = S.2.2.2 k
def xFs (a b : Nat) (H H1 : zp_H) : Prop := H1.1 = H.1 ∧ H1.2.2.2 = H.2.2.2 ∧ (∀ p k, ¬ (p = 72 ∧ a ≤ k ∧ k ≤ b) → H1.2.1 p k = H.2.1 p k) ∧ ∀ p k, ¬ (p = 72 ∧ k = 65) → H1.2.2.1 p k = H.2.2.1 p k
theorem xFs_r {a b : Nat} (H : zp_H) : xFs a b H H := ⟨rfl, rfl, fun _ _ _ => rfl, fun _ _ _ => rfl⟩
theorem xFs_t {a b : Nat} {H H1 H2 : zp_H} (h1 : xFs a b H H1) (h2 : xFs a b H1 H2) : xFs a b H H2 := ⟨h2.1.trans h1.1, h2.2.1.trans h1.2.1, fun p k h => (h2.2.2.1 p k h).trans (h1.2.2.1 p k h), fun p k h => (h2.2.2.2 p k h).trans (h1.2.2.2 p k h)⟩
theorem xFs_m {a b a' b' : Nat} {H H1 : zp_H} (h : xFs a b H H1) (ha : a' ≤ a) (hb : b ≤ b') : xFs a' b' H H1 := ⟨h.1, h.2.1, fun p k hn => h.2.2.1 p k (fun h9 => hn ⟨h9.1, Nat.le_trans ha h9.2.1, Nat.le_trans h9.2.2 hb⟩), h.2.2.2⟩
theorem xFs_I {a b k : Nat} {H H1 : zp_H} {x : Int32} (h : xFs a b H H1) (ha : a ≤ k) (hb : k ≤ b) : xFs a b H (zw_I H1 72 k x) := ⟨h.1, h.2.1, fun p j hn => (y_ne (fun h9 => hn ⟨h9.1, by have := h9.2; omega⟩)).trans (h.2.2.1 p j hn), h.2.2.2⟩
theorem xFs_J {a b : Nat} {H H1 : zp_H} {u : Int64} (h : xFs a b H H1) : xFs a b H (zw_J H1 72 65 u) := ⟨h.1, h.2.1, h.2.2.1, fun p j hn => (zp_u_ne (fun h9 => hn h9)).trans (h.2.2.2 p j hn)⟩
theorem xSR_f {a b : Nat} {H H1 : zp_H} {S : xSea} (h : xFs a b H H1) (ha : 3 ≤ a) (hR : xSR H S) : xSR H1 S := ⟨(congrArg Int32.toInt (h.2.2.1 72 1 (fun h9 => by have := h9.2.1; omega))).trans hR.1, (congrArg Int32.toInt (h.2.2.1 72 2 (fun h9 => by have := h9.2.1; omega))).trans hR.2.1, (h.2.2.2 72 12 (fun h9 => absurd h9.2 (by decide))).trans hR.2.2.1, fun k hk => (congrArg Int32.toInt (h.2.2.1 73 k (fun h9 => absurd h9.1 (by decide)))).trans (hR.2.2.2 k hk)⟩
theorem x_ad {q : Int32} {n : Int} (hn : -1 ≤ n ∧ n ≤ 1) (h0 : 0 ≤ q.toInt) (h1 : q.toInt ≤ 1000) : (q + Int32.ofInt n).toInt = q.toInt + n := by
  have e : (Int32.ofInt n).toInt = n := x_of (by omega) (by omega)
  rw [zq_add (by rw [e]; omega) (by rw [e]; omega), e]
/-- even, as the reference asks it -/
theorem x_od {x : Int32} : ((x - x / Int32.ofInt 2 * Int32.ofInt 2).toInt = 0 ↔ x.toInt % 2 = 0) := by
  have e2 : (Int32.ofInt 2).toInt = 2 := by decide
  have b0 : -2147483648 ≤ x.toInt := Int32.le_toInt x
  have b1 : x.toInt ≤ 2147483647 := Int32.toInt_le x
  have h : ∃ q : Int, x.toInt.tdiv 2 = q ∧ (-1 ≤ x.toInt - 2 * q ∧ x.toInt - 2 * q ≤ 1) ∧ -1073741824 ≤ q ∧ q ≤ 1073741823 := by
    rcases Int.le_total 0 x.toInt with h | h
    · exact ⟨x.toInt / 2, Int.tdiv_eq_ediv_of_nonneg h, by omega, by omega, by omega⟩
    · have h3 : (-(-x.toInt)).tdiv 2 = -((-x.toInt).tdiv 2) := by rw [Int.neg_tdiv]
      rw [Int.neg_neg, Int.tdiv_eq_ediv_of_nonneg (a := -x.toInt) (by omega)] at h3
      exact ⟨-(-x.toInt / 2), h3, by omega, by omega, by omega⟩
  obtain ⟨q, hq, hb, q0, q1⟩ := h
  have d1 : (x / Int32.ofInt 2).toInt = q := by
    rw [Int32.toInt_div, e2, hq]
    exact Int.bmod_eq_of_le (by omega) (by omega)
  have d2 : (x / Int32.ofInt 2 * Int32.ofInt 2).toInt = q * 2 := by
    rw [Int32.toInt_mul, d1, e2]
    exact Int.bmod_eq_of_le (by omega) (by omega)
  have d3 : (x - x / Int32.ofInt 2 * Int32.ofInt 2).toInt = x.toInt - q * 2 := by
    rw [zq_sub (by rw [d2]; omega) (by rw [d2]; omega), d2]
  rw [d3]
  omega
def xBf (w h x y : Int) : Int := if x < 0 ∨ y < 0 ∨ w ≤ x ∨ h ≤ y then -1 else w * y + x
theorem xBe_f {w h c d : Int} : xBe w h c d = xBf w h (c % w + (if d = 1 then 1 else if d = 3 then -1 else 0)) (c / w + (if d = 2 then 1 else if d = 0 then -1 else 0)) := rfl

theorem xr_be54 {L : Nat} {σ : Nat → Int32} {d : Nat} {H : zp_H} {P : zp_X → Prop} {lv : zp_LV} {x y : Int32} {S : xSea} (W : zw_W H) (hS : xOk S) (hR : xSR H S) (l0 : zp_get lv 0 = some (.inr (.inr (some 73)))) (l3 : zp_get lv 3 = some (.inl x)) (l4 : zp_get lv 4 = some (.inl y)) (hx : -1 ≤ x.toInt ∧ x.toInt ≤ 64) (hy : -1 ≤ y.toInt ∧ y.toInt ≤ 64) (hP : P (.inl (some (.inl (Int32.ofInt (xBf S.1 S.2.1 x.toInt y.toInt)))), H)) : zs_Safe L σ P zm_222 [] d (54, lv, [], H, (0, 0)) := by
  have hw := hR.1
  have hh := hR.2.1
  have hS1 := hS.1
  have hS2 := hS.2.1
  refine zw_ld (n := 1) (k := 3) (f := zp_isI) (pc' := 55) rfl rfl l3 rfl rfl ?_
  refine zw_blt1 (g := 80) (pc' := 58) rfl rfl rfl rfl (fun h1 => ?_) (fun h1 => ?_)
  · refine zw_s (pc' := 81) rfl rfl ?_
    refine zw_s (pc' := 93) rfl rfl ?_
    refine zw_ri rfl rfl ?_
    have e : xBf S.1 S.2.1 x.toInt y.toInt = -1 := if_pos (show x.toInt < 0 ∨ y.toInt < 0 ∨ S.1 ≤ x.toInt ∨ S.2.1 ≤ y.toInt by omega)
    rw [e] at hP
    exact hP
  · refine zw_ld (n := 2) (k := 4) (f := zp_isI) (pc' := 60) rfl rfl l4 rfl rfl ?_
    refine zw_blt1 (g := 80) (pc' := 63) rfl rfl rfl rfl (fun h2 => ?_) (fun h2 => ?_)
    · refine zw_s (pc' := 81) rfl rfl ?_
      refine zw_s (pc' := 93) rfl rfl ?_
      refine zw_ri rfl rfl ?_
      have e : xBf S.1 S.2.1 x.toInt y.toInt = -1 := if_pos (show x.toInt < 0 ∨ y.toInt < 0 ∨ S.1 ≤ x.toInt ∨ S.2.1 ≤ y.toInt by omega)
      rw [e] at hP
      exact hP
    · refine zw_ld (n := 1) (k := 3) (f := zp_isI) (pc' := 64) rfl rfl l3 rfl rfl ?_
      refine zw_ld (n := 1) (k := 0) (f := zp_isR) (pc' := 65) rfl rfl l0 rfl rfl ?_
      refine zw_gI (q := 72) (pc' := 68) W rfl rfl rfl rfl rfl rfl ?_
      refine zw_bge2 (g := 80) (pc' := 71) rfl rfl rfl rfl rfl (fun h3 => ?_) (fun h3 => ?_)
      · refine zw_s (pc' := 81) rfl rfl ?_
        refine zw_s (pc' := 93) rfl rfl ?_
        refine zw_ri rfl rfl ?_
        have e : xBf S.1 S.2.1 x.toInt y.toInt = -1 := if_pos (show x.toInt < 0 ∨ y.toInt < 0 ∨ S.1 ≤ x.toInt ∨ S.2.1 ≤ y.toInt by omega)
        rw [e] at hP
        exact hP
      · refine zw_ld (n := 2) (k := 4) (f := zp_isI) (pc' := 73) rfl rfl l4 rfl rfl ?_
        refine zw_ld (n := 1) (k := 0) (f := zp_isR) (pc' := 74) rfl rfl l0 rfl rfl ?_
        refine zw_gI (q := 72) (pc' := 77) W rfl rfl rfl rfl rfl rfl ?_
        refine zw_blt2 (g := 84) (pc' := 80) rfl rfl rfl rfl rfl (fun h4 => ?_) (fun h4 => ?_)
        · refine zw_ld (n := 1) (k := 0) (f := zp_isR) (pc' := 85) rfl rfl l0 rfl rfl ?_
          refine zw_gI (q := 72) (pc' := 88) W rfl rfl rfl rfl rfl rfl ?_
          refine zw_ld (n := 2) (k := 4) (f := zp_isI) (pc' := 90) rfl rfl l4 rfl rfl ?_
          refine zw_imul (pc' := 91) rfl rfl ?_
          refine zw_ld (n := 1) (k := 3) (f := zp_isI) (pc' := 92) rfl rfl l3 rfl rfl ?_
          refine zw_iadd (pc' := 93) rfl rfl ?_
          refine zw_ri rfl rfl ?_
          have m0 : 0 ≤ S.1 * y.toInt := Int.mul_nonneg (by omega) (by omega)
          have m1 : S.1 * y.toInt ≤ 8 * 8 := Int.mul_le_mul (by omega) (by omega) (by omega) (by omega)
          have m2 : (H.2.1 72 1 * y).toInt = S.1 * y.toInt := by
            rw [Int32.toInt_mul, hw]
            exact Int.bmod_eq_of_le (by omega) (by omega)
          have m3 : (H.2.1 72 1 * y + x).toInt = S.1 * y.toInt + x.toInt := by rw [zq_add (by rw [m2]; omega) (by rw [m2]; omega), m2]
          have e : xBf S.1 S.2.1 x.toInt y.toInt = S.1 * y.toInt + x.toInt := if_neg (show ¬ (x.toInt < 0 ∨ y.toInt < 0 ∨ S.1 ≤ x.toInt ∨ S.2.1 ≤ y.toInt) by omega)
          rw [e] at hP
          rw [show H.2.1 72 1 * y + x = Int32.ofInt (S.1 * y.toInt + x.toInt) from Int32.toInt_inj.mp (by rw [x_of (by omega) (by omega), m3])]
          exact hP
        · refine zw_s (pc' := 81) rfl rfl ?_
          refine zw_s (pc' := 93) rfl rfl ?_
          refine zw_ri rfl rfl ?_
          have e : xBf S.1 S.2.1 x.toInt y.toInt = -1 := if_pos (show x.toInt < 0 ∨ y.toInt < 0 ∨ S.1 ≤ x.toInt ∨ S.2.1 ≤ y.toInt by omega)
          rw [e] at hP
          exact hP

theorem xr_be27 {L : Nat} {σ : Nat → Int32} {d : Nat} {H : zp_H} {P : zp_X → Prop} {lv : zp_LV} {x c k : Int32} {S : xSea} (W : zw_W H) (hS : xOk S) (hR : xSR H S) (hc : xIn S c.toInt) (l0 : zp_get lv 0 = some (.inr (.inr (some 73)))) (l1 : zp_get lv 1 = some (.inl c)) (l2 : zp_get lv 2 = some (.inl k)) (l3 : zp_get lv 3 = some (.inl x)) (hx : -1 ≤ x.toInt ∧ x.toInt ≤ 64) (hP : P (.inl (some (.inl (Int32.ofInt (xBf S.1 S.2.1 x.toInt (c.toInt / S.1 + (if k.toInt = 2 then 1 else if k.toInt = 0 then -1 else 0)))))), H)) : zs_Safe L σ P zm_222 [] d (27, lv, [], H, (0, 0)) := by
  have hw := hR.1
  have hS1 := hS.1
  have h8 := xIn_64 hS hc
  have w0 : H.2.1 72 1 ≠ 0 := fun h9 => by
    have : (H.2.1 72 1).toInt = 0 := congrArg Int32.toInt h9
    omega
  have hq : (c / H.2.1 72 1).toInt = c.toInt / S.1 := by rw [x_div h8.1 (by omega), hw]
  have b0 : 0 ≤ c.toInt / S.1 := Int.ediv_nonneg h8.1 (by omega)
  have b1 : c.toInt / S.1 ≤ c.toInt := Int.ediv_le_self _ h8.1
  refine zw_ld (n := 1) (k := 1) (f := zp_isI) (pc' := 28) rfl rfl l1 rfl rfl ?_
  refine zw_ld (n := 1) (k := 0) (f := zp_isR) (pc' := 29) rfl rfl l0 rfl rfl ?_
  refine zw_gI (q := 72) (pc' := 32) W rfl rfl rfl rfl rfl rfl ?_
  refine zw_div (pc' := 33) rfl (w0) rfl ?_
  refine zw_ld (n := 1) (k := 2) (f := zp_isI) (pc' := 34) rfl rfl l2 rfl rfl ?_
  refine zw_s (pc' := 35) rfl rfl ?_
  refine zw_bne2 (g := 42) (pc' := 38) rfl rfl rfl rfl (rfl : _ = (2 : Int)) (fun h1 => ?_) (fun h1 => ?_)
  · refine zw_ld (n := 1) (k := 2) (f := zp_isI) (pc' := 43) rfl rfl l2 rfl rfl ?_
    refine zw_bne1 (g := 50) (pc' := 46) rfl rfl rfl rfl (fun h2 => ?_) (fun h2 => ?_)
    · refine zw_s (pc' := 51) rfl rfl ?_
      refine zw_iadd (pc' := 52) rfl rfl ?_
      refine zw_st (n := 2) (k := 4) (f := zp_isI) (pc' := 54) rfl rfl rfl rfl rfl ?_
      have ey : (c / H.2.1 72 1 + Int32.ofInt 0).toInt = c.toInt / S.1 + 0 := by rw [x_ad ⟨by decide, by decide⟩ (by omega) (by omega), hq]
      have ez : (if k.toInt = 2 then 1 else if k.toInt = 0 then -1 else 0) = 0 := (if_neg h1).trans (if_neg h2)
      rw [ez] at hP
      exact xr_be54 W hS hR (zw_gt l0 rfl rfl) (zw_gt l3 rfl rfl) zw_g1 hx ⟨by omega, by omega⟩ (by rw [ey]; exact hP)
    · refine zw_s (pc' := 47) rfl rfl ?_
      refine zw_s (pc' := 51) rfl rfl ?_
      refine zw_iadd (pc' := 52) rfl rfl ?_
      refine zw_st (n := 2) (k := 4) (f := zp_isI) (pc' := 54) rfl rfl rfl rfl rfl ?_
      have ey : (c / H.2.1 72 1 + Int32.ofInt (-1)).toInt = c.toInt / S.1 + (-1) := by rw [x_ad ⟨by decide, by decide⟩ (by omega) (by omega), hq]
      have ez : (if k.toInt = 2 then 1 else if k.toInt = 0 then -1 else 0) = (-1) := (if_neg h1).trans (if_pos h2)
      rw [ez] at hP
      exact xr_be54 W hS hR (zw_gt l0 rfl rfl) (zw_gt l3 rfl rfl) zw_g1 hx ⟨by omega, by omega⟩ (by rw [ey]; exact hP)
  · refine zw_s (pc' := 39) rfl rfl ?_
    refine zw_s (pc' := 51) rfl rfl ?_
    refine zw_iadd (pc' := 52) rfl rfl ?_
    refine zw_st (n := 2) (k := 4) (f := zp_isI) (pc' := 54) rfl rfl rfl rfl rfl ?_
    have ey : (c / H.2.1 72 1 + Int32.ofInt 1).toInt = c.toInt / S.1 + 1 := by rw [x_ad ⟨by decide, by decide⟩ (by omega) (by omega), hq]
    have ez : (if k.toInt = 2 then 1 else if k.toInt = 0 then -1 else 0) = 1 := if_pos h1
    rw [ez] at hP
    exact xr_be54 W hS hR (zw_gt l0 rfl rfl) (zw_gt l3 rfl rfl) zw_g1 hx ⟨by omega, by omega⟩ (by rw [ey]; exact hP)

theorem xr_be {L : Nat} {σ : Nat → Int32} {d : Nat} {H : zp_H} {c k : Int32} {S : xSea} (W : zw_W H) (hS : xOk S) (hR : xSR H S) (hc : xIn S c.toInt) : zp_Call L σ (d + 1) 222 [.inr (.inr (some 73)), .inl c, .inl k] H (.inl (some (.inl (Int32.ofInt (xBe S.1 S.2.1 c.toInt k.toInt)))), H) := by
  have hw := hR.1
  have hS1 := hS.1
  have h8 := xIn_64 hS hc
  have w0 : H.2.1 72 1 ≠ 0 := fun h9 => by
    have : (H.2.1 72 1).toInt = 0 := congrArg Int32.toInt h9
    omega
  have hq : (c - c / H.2.1 72 1 * H.2.1 72 1).toInt = c.toInt % S.1 := by rw [x_rem h8.1 (by omega), hw]
  have b0 : 0 ≤ c.toInt % S.1 := Int.emod_nonneg _ (by omega)
  have b1 : c.toInt % S.1 < S.1 := Int.emod_lt_of_pos _ (by omega)
  refine zw_ex (zw_met zm_222_t rfl rfl ?_)
  refine zw_ld (n := 1) (k := 1) (f := zp_isI) (pc' := 1) rfl rfl rfl rfl rfl ?_
  refine zw_ld (n := 1) (k := 0) (f := zp_isR) (pc' := 2) rfl rfl rfl rfl rfl ?_
  refine zw_gI (q := 72) (pc' := 5) W rfl rfl rfl rfl rfl rfl ?_
  refine zw_rem (pc' := 6) rfl (w0) rfl ?_
  refine zw_ld (n := 1) (k := 2) (f := zp_isI) (pc' := 7) rfl rfl rfl rfl rfl ?_
  refine zw_s (pc' := 8) rfl rfl ?_
  refine zw_bne2 (g := 15) (pc' := 11) rfl rfl rfl rfl (rfl : _ = (1 : Int)) (fun h1 => ?_) (fun h1 => ?_)
  · refine zw_ld (n := 1) (k := 2) (f := zp_isI) (pc' := 16) rfl rfl rfl rfl rfl ?_
    refine zw_s (pc' := 17) rfl rfl ?_
    refine zw_bne2 (g := 24) (pc' := 20) rfl rfl rfl rfl (rfl : _ = (3 : Int)) (fun h2 => ?_) (fun h2 => ?_)
    · refine zw_s (pc' := 25) rfl rfl ?_
      refine zw_iadd (pc' := 26) rfl rfl ?_
      refine zw_st (n := 1) (k := 3) (f := zp_isI) (pc' := 27) rfl rfl rfl rfl rfl ?_
      have ey : (c - c / H.2.1 72 1 * H.2.1 72 1 + Int32.ofInt 0).toInt = c.toInt % S.1 + 0 := by rw [x_ad ⟨by decide, by decide⟩ (by omega) (by omega), hq]
      have ez : (if k.toInt = 1 then 1 else if k.toInt = 3 then -1 else 0) = 0 := (if_neg h1).trans (if_neg h2)
      exact xr_be27 W hS hR hc (zw_gt rfl rfl rfl) (zw_gt rfl rfl rfl) (zw_gt rfl rfl rfl) zw_g1 ⟨by omega, by omega⟩ (x_rv (congrArg Int32.ofInt (by rw [xBe_f, ez, ey])))
    · refine zw_s (pc' := 21) rfl rfl ?_
      refine zw_s (pc' := 25) rfl rfl ?_
      refine zw_iadd (pc' := 26) rfl rfl ?_
      refine zw_st (n := 1) (k := 3) (f := zp_isI) (pc' := 27) rfl rfl rfl rfl rfl ?_
      have ey : (c - c / H.2.1 72 1 * H.2.1 72 1 + Int32.ofInt (-1)).toInt = c.toInt % S.1 + (-1) := by rw [x_ad ⟨by decide, by decide⟩ (by omega) (by omega), hq]
      have ez : (if k.toInt = 1 then 1 else if k.toInt = 3 then -1 else 0) = (-1) := (if_neg h1).trans (if_pos h2)
      exact xr_be27 W hS hR hc (zw_gt rfl rfl rfl) (zw_gt rfl rfl rfl) (zw_gt rfl rfl rfl) zw_g1 ⟨by omega, by omega⟩ (x_rv (congrArg Int32.ofInt (by rw [xBe_f, ez, ey])))
  · refine zw_s (pc' := 12) rfl rfl ?_
    refine zw_s (pc' := 25) rfl rfl ?_
    refine zw_iadd (pc' := 26) rfl rfl ?_
    refine zw_st (n := 1) (k := 3) (f := zp_isI) (pc' := 27) rfl rfl rfl rfl rfl ?_
    have ey : (c - c / H.2.1 72 1 * H.2.1 72 1 + Int32.ofInt 1).toInt = c.toInt % S.1 + 1 := by rw [x_ad ⟨by decide, by decide⟩ (by omega) (by omega), hq]
    have ez : (if k.toInt = 1 then 1 else if k.toInt = 3 then -1 else 0) = 1 := if_pos h1
    exact xr_be27 W hS hR hc (zw_gt rfl rfl rfl) (zw_gt rfl rfl rfl) (zw_gt rfl rfl rfl) zw_g1 ⟨by omega, by omega⟩ (x_rv (congrArg Int32.ofInt (by rw [xBe_f, ez, ey])))

theorem xr_isr1 {L : Nat} {σ : Nat → Int32} {d : Nat} {H : zp_H} {x : Int32} (W : zw_W H) (hc : 0 ≤ x.toInt ∧ x.toInt ≤ 63) (hb : yTb (H.2.2.1 72 12) x.toInt.toNat = true) : zp_Call L σ (d + 1) 223 [.inr (.inr (some 73)), .inl x] H (.inl (some (.inl (Int32.ofInt 1))), H) := by
  have e := y_shv (r := H.2.2.1 72 12) hc
  rw [if_pos hb] at e
  refine zw_ex (zw_met zm_223_t rfl rfl ?_)
  refine zw_ld (n := 1) (k := 0) (f := zp_isR) (pc' := 1) rfl rfl rfl rfl rfl ?_
  refine zw_gL (q := 72) (pc' := 4) W rfl rfl rfl rfl rfl ?_
  refine zw_ld (n := 1) (k := 1) (f := zp_isI) (pc' := 5) rfl rfl rfl rfl rfl ?_
  refine zw_lshr (pc' := 6) rfl rfl ?_
  refine zw_s (pc' := 7) rfl rfl ?_
  refine zw_land (pc' := 8) rfl rfl ?_
  refine zw_s (pc' := 9) rfl rfl ?_
  refine zw_s (pc' := 10) rfl rfl ?_
  refine zw_bne1 (g := 17) (pc' := 13) rfl rfl rfl rfl (fun h1 => ?_) (fun h1 => ?_)
  · have h1 : (lg_cmp (za_shr0 (H.2.2.1 72 12) x &&& Int64.ofNat 1) (Int64.ofNat 1)).toInt ≠ 0 := h1
    rw [e] at h1
    exact absurd (by decide) h1
  · refine zw_s (pc' := 14) rfl rfl ?_
    refine zw_s (pc' := 18) rfl rfl ?_
    refine zw_rz rfl rfl (by decide) ?_
    rfl

theorem xr_isr0 {L : Nat} {σ : Nat → Int32} {d : Nat} {H : zp_H} {x : Int32} (W : zw_W H) (hc : 0 ≤ x.toInt ∧ x.toInt ≤ 63) (hb : ¬ (yTb (H.2.2.1 72 12) x.toInt.toNat = true)) : zp_Call L σ (d + 1) 223 [.inr (.inr (some 73)), .inl x] H (.inl (some (.inl (Int32.ofInt 0))), H) := by
  have e := y_shv (r := H.2.2.1 72 12) hc
  rw [if_neg hb] at e
  refine zw_ex (zw_met zm_223_t rfl rfl ?_)
  refine zw_ld (n := 1) (k := 0) (f := zp_isR) (pc' := 1) rfl rfl rfl rfl rfl ?_
  refine zw_gL (q := 72) (pc' := 4) W rfl rfl rfl rfl rfl ?_
  refine zw_ld (n := 1) (k := 1) (f := zp_isI) (pc' := 5) rfl rfl rfl rfl rfl ?_
  refine zw_lshr (pc' := 6) rfl rfl ?_
  refine zw_s (pc' := 7) rfl rfl ?_
  refine zw_land (pc' := 8) rfl rfl ?_
  refine zw_s (pc' := 9) rfl rfl ?_
  refine zw_s (pc' := 10) rfl rfl ?_
  refine zw_bne1 (g := 17) (pc' := 13) rfl rfl rfl rfl (fun h1 => ?_) (fun h1 => ?_)
  · refine zw_s (pc' := 18) rfl rfl ?_
    refine zw_rz rfl rfl (by decide) ?_
    rfl
  · have h1 : (lg_cmp (za_shr0 (H.2.2.1 72 12) x &&& Int64.ofNat 1) (Int64.ofNat 1)).toInt = 0 := h1
    rw [e] at h1
    exact absurd h1 (by decide)

theorem xr_s2_0 {L : Nat} {σ : Nat → Int32} {d : Nat} {H : zp_H} {P : zp_X → Prop} {lv : zp_LV} {x2 : Int32} {S : xSea} (W : zw_W H) (hS : xOk S) (hR : xSR H S) (hc : xIn S (H.2.1 72 64).toInt) (l0 : zp_get lv 0 = some (.inr (.inr (some 73)))) (l2 : zp_get lv 2 = some (.inl x2)) (l3 : zp_get lv 3 = some (.inl (Int32.ofInt 0))) (hP : ∀ H1, zw_W H1 → xFs 64 64 H H1 → H1.2.1 72 64 = Int32.ofInt (xS2 S (H.2.1 72 64).toInt x2.toInt false).2 → P (.inl (some (.inl (Int32.ofInt (xS2 S (H.2.1 72 64).toInt x2.toInt false).1))), H1)) : zs_Safe L σ P zm_221 [] (d + 1) (54, lv, [], H, (0, 0)) := by
  have h8 := xIn_64 hS hc
  have hcu : (H.2.1 73 (H.2.1 72 64).toInt.toNat).toInt = S.2.2.2 (H.2.1 72 64).toInt.toNat := hR.2.2.2 _ (by omega)
  have hcb := hS.2.2 (H.2.1 72 64).toInt.toNat
  refine zw_ld (n := 1) (k := 3) (f := zp_isI) (pc' := 55) rfl rfl l3 rfl rfl ?_
  refine zw_beq1 (g := 97) (pc' := 58) rfl rfl rfl (rfl : _ = (0 : Int)) (fun h0 => ?_) (fun h9 => absurd h9 (by decide))
  refine zw_s (pc' := 98) rfl rfl ?_
  refine zw_st (n := 2) (k := 4) (f := zp_isI) (pc' := 100) rfl rfl rfl rfl rfl ?_
  refine zw_ld (n := 2) (k := 4) (f := zp_isI) (pc' := 102) rfl rfl zw_g1 rfl rfl ?_
  refine zw_s (pc' := 103) rfl rfl ?_
  refine zw_bne2 (g := 108) (pc' := 106) rfl rfl rfl (rfl : _ = (-1 : Int)) (rfl : _ = (-1 : Int)) (fun h9 => absurd h9 (by decide)) (fun hb => ?_)
  refine zw_s (pc' := 107) rfl rfl ?_
  refine zw_ri rfl rfl ?_
  have es := xS2_n (S := S) (c := (H.2.1 72 64).toInt) (hr := x2.toInt) (t := false) (xDr_f)
  rw [es] at hP
  exact hP H W (xFs_r H) (x_oi _).symm

theorem xr_st0 {L : Nat} {σ : Nat → Int32} {d : Nat} {H : zp_H} {x1 x2 : Int32} {S : xSea} (W : zw_W H) (hS : xOk S) (hR : xSR H S) (hc : xIn S (H.2.1 72 64).toInt) : ∃ X, zp_Call L σ (d + 2) 221 [.inr (.inr (some 73)), .inl x1, .inl x2, .inl (Int32.ofInt 0)] H X ∧ ∃ H1, X = (.inl (some (.inl (Int32.ofInt (xSt S (H.2.1 72 64).toInt x2.toInt x1.toInt false).1))), H1) ∧ zw_W H1 ∧ xFs 64 64 H H1 ∧ H1.2.1 72 64 = Int32.ofInt (xSt S (H.2.1 72 64).toInt x2.toInt x1.toInt false).2 := by
  refine zw_met zm_221_t rfl rfl ?_
  refine zw_ld (n := 1) (k := 1) (f := zp_isI) (pc' := 1) rfl rfl rfl rfl rfl ?_
  refine zw_s (pc' := 2) rfl rfl ?_
  refine zw_beq2 (g := 54) (pc' := 5) rfl rfl rfl rfl (rfl : _ = (-1 : Int)) (fun h1 => ?_) (fun h1 => ?_)
  · have e1 := xS1_n (S := S) (c := (H.2.1 72 64).toInt) h1
    have es : (xSt S (H.2.1 72 64).toInt x2.toInt x1.toInt false) = (xS2 S (H.2.1 72 64).toInt x2.toInt false) := (xSt_0 (congrArg Prod.fst e1)).trans (congrArg (fun z : Int × Int => xS2 S z.2 x2.toInt false) e1)
    refine xr_s2_0 W hS hR hc rfl rfl rfl (fun H1 w1 w2 w3 => ⟨H1, ?_, w1, w2, ?_⟩) <;> rw [es]
    exact w3
  · have h6 := xBe_64 (c := (H.2.1 72 64).toInt) (d := x1.toInt) hS
    have eo : (Int32.ofInt (xBe S.1 S.2.1 (H.2.1 72 64).toInt x1.toInt)).toInt = (xBe S.1 S.2.1 (H.2.1 72 64).toInt x1.toInt) := x_of (by omega) (by omega)
    refine zw_ld (n := 1) (k := 0) (f := zp_isR) (pc' := 6) rfl rfl rfl rfl rfl ?_
    refine zw_ld (n := 1) (k := 0) (f := zp_isR) (pc' := 7) rfl rfl rfl rfl rfl ?_
    refine zw_gI (q := 72) (pc' := 10) W rfl rfl rfl rfl rfl rfl ?_
    refine zw_ld (n := 1) (k := 1) (f := zp_isI) (pc' := 11) rfl rfl rfl rfl rfl ?_
    refine zw_c (pc' := 14) (zw_cv (q := 72) (Y := zm_222) W.1 rfl rfl zm_222_t rfl rfl) rfl rfl rfl rfl rfl (xr_be W hS hR hc) ?_
    refine zw_st (n := 2) (k := 4) (f := zp_isI) (pc' := 16) rfl rfl rfl rfl rfl ?_
    refine zw_ld (n := 2) (k := 4) (f := zp_isI) (pc' := 18) rfl rfl zw_g1 rfl rfl ?_
    refine zw_s (pc' := 19) rfl rfl ?_
    refine zw_bne2 (g := 24) (pc' := 22) rfl rfl rfl rfl (rfl : _ = (-1 : Int)) (fun h3 => ?_) (fun h3 => ?_)
    · have h3 : ¬ (Int32.ofInt (xBe S.1 S.2.1 (H.2.1 72 64).toInt x1.toInt)).toInt = -1 := h3
      have h4 : (xBe S.1 S.2.1 (H.2.1 72 64).toInt x1.toInt) ≠ -1 := by omega
      refine zw_ld (n := 1) (k := 0) (f := zp_isR) (pc' := 25) rfl rfl (zw_gt rfl rfl rfl) rfl rfl ?_
      refine zw_ld (n := 2) (k := 4) (f := zp_isI) (pc' := 27) rfl rfl zw_g1 rfl rfl ?_
      refine zw_pI (q := 72) (pc' := 30) W rfl rfl rfl rfl rfl rfl ?_
      refine zw_ld (n := 1) (k := 0) (f := zp_isR) (pc' := 31) rfl rfl (zw_gt rfl rfl rfl) rfl rfl ?_
      refine zw_ld (n := 2) (k := 4) (f := zp_isI) (pc' := 33) rfl rfl zw_g1 rfl rfl ?_
      by_cases hr : yTb S.2.2.1 (xBe S.1 S.2.1 (H.2.1 72 64).toInt x1.toInt).toNat = true
      · refine zw_c (pc' := 36) (zw_cv (q := 72) (Y := zm_223) (zw_W_I W).1 rfl rfl zm_223_t rfl rfl) rfl rfl rfl rfl rfl (xr_isr1 (H := zw_I H 72 64 (Int32.ofInt (xBe S.1 S.2.1 (H.2.1 72 64).toInt x1.toInt))) (zw_W_I W) (by omega) (by rw [eo, show (zw_I H 72 64 (Int32.ofInt (xBe S.1 S.2.1 (H.2.1 72 64).toInt x1.toInt))).2.2.1 72 12 = S.2.2.1 from hR.2.2.1]; exact hr)) ?_
        refine zw_beq1 (g := 41) (pc' := 39) rfl rfl rfl (rfl : _ = (1 : Int)) (fun h9 => absurd h9 (by decide)) (fun h8 => ?_)
        refine zw_s (pc' := 40) rfl rfl ?_
        refine zw_ri rfl rfl ?_
        have e1 := xS1_r (S := S) h1 h4 hr
        have es : (xSt S (H.2.1 72 64).toInt x2.toInt x1.toInt false) = (1, (xBe S.1 S.2.1 (H.2.1 72 64).toInt x1.toInt)) := (xSt_1 (fun h9 => absurd (show (1 : Int) = 0 from (congrArg Prod.fst e1).symm.trans h9) (by decide))).trans e1
        rw [es]
        exact ⟨_, rfl, zw_W_I W, xFs_I (xFs_r H) (by decide) (by decide), zw_eq⟩
      · refine zw_c (pc' := 36) (zw_cv (q := 72) (Y := zm_223) (zw_W_I W).1 rfl rfl zm_223_t rfl rfl) rfl rfl rfl rfl rfl (xr_isr0 (H := zw_I H 72 64 (Int32.ofInt (xBe S.1 S.2.1 (H.2.1 72 64).toInt x1.toInt))) (zw_W_I W) (by omega) (by rw [eo, show (zw_I H 72 64 (Int32.ofInt (xBe S.1 S.2.1 (H.2.1 72 64).toInt x1.toInt))).2.2.1 72 12 = S.2.2.1 from hR.2.2.1]; exact hr)) ?_
        refine zw_beq1 (g := 41) (pc' := 39) rfl rfl rfl (rfl : _ = (0 : Int)) (fun h8 => ?_) (fun h9 => absurd h9 (by decide))
        refine zw_ld (n := 1) (k := 0) (f := zp_isR) (pc' := 42) rfl rfl (zw_gt rfl rfl rfl) rfl rfl ?_
        refine zw_s (pc' := 43) rfl rfl ?_
        refine zw_gL (q := 72) (pc' := 46) (zw_W_I W) rfl rfl rfl rfl rfl ?_
        refine zw_s (pc' := 47) rfl rfl ?_
        refine zw_ld (n := 2) (k := 4) (f := zp_isI) (pc' := 49) rfl rfl zw_g1 rfl rfl ?_
        refine zw_lshl (pc' := 50) rfl rfl ?_
        refine zw_lor (pc' := 51) rfl rfl ?_
        refine zw_pL (q := 72) (pc' := 54) (zw_W_I W) rfl rfl rfl rfl rfl rfl ?_
        have e1 := xS1_f (S := S) h1 h4 hr
        have es : (xSt S (H.2.1 72 64).toInt x2.toInt x1.toInt false) = xS2 S (xBe S.1 S.2.1 (H.2.1 72 64).toInt x1.toInt) x2.toInt false := (xSt_0 (congrArg Prod.fst e1)).trans (congrArg (fun z : Int × Int => xS2 S z.2 x2.toInt false) e1)
        have k0 : (zw_J (zw_I H 72 64 (Int32.ofInt (xBe S.1 S.2.1 (H.2.1 72 64).toInt x1.toInt))) 72 65 (H.2.2.1 72 65 ||| za_shl0 (Int64.ofNat 1) (Int32.ofInt (xBe S.1 S.2.1 (H.2.1 72 64).toInt x1.toInt)))).2.1 72 64 = Int32.ofInt (xBe S.1 S.2.1 (H.2.1 72 64).toInt x1.toInt) := zw_nj zw_eq
        have fr : xFs 64 64 H (zw_J (zw_I H 72 64 (Int32.ofInt (xBe S.1 S.2.1 (H.2.1 72 64).toInt x1.toInt))) 72 65 (H.2.2.1 72 65 ||| za_shl0 (Int64.ofNat 1) (Int32.ofInt (xBe S.1 S.2.1 (H.2.1 72 64).toInt x1.toInt)))) := xFs_J (xFs_I (xFs_r H) (by decide) (by decide))
        have hi : xIn S (xBe S.1 S.2.1 (H.2.1 72 64).toInt x1.toInt) := (xBe_b hS.1.1).resolve_left h4
        refine xr_s2_0 (S := S) (H := zw_J (zw_I H 72 64 (Int32.ofInt (xBe S.1 S.2.1 (H.2.1 72 64).toInt x1.toInt))) 72 65 (H.2.2.1 72 65 ||| za_shl0 (Int64.ofNat 1) (Int32.ofInt (xBe S.1 S.2.1 (H.2.1 72 64).toInt x1.toInt)))) (zw_W_J (zw_W_I W)) hS (xSR_f fr (by decide) hR) (by rw [k0, eo]; exact hi) (zw_gt rfl rfl rfl) (zw_gt rfl rfl rfl) (zw_gt rfl rfl rfl) (fun H1 w1 w2 w3 => ?_)
        rw [k0, eo] at w3
        rw [k0, eo, es]
        exact ⟨H1, rfl, w1, xFs_t fr w2, w3⟩
    · have h3 : (Int32.ofInt (xBe S.1 S.2.1 (H.2.1 72 64).toInt x1.toInt)).toInt = -1 := h3
      have h4 : (xBe S.1 S.2.1 (H.2.1 72 64).toInt x1.toInt) = -1 := by omega
      refine zw_s (pc' := 23) rfl rfl ?_
      refine zw_ri rfl rfl ?_
      have e1 := xS1_l (S := S) h1 h4
      have es : (xSt S (H.2.1 72 64).toInt x2.toInt x1.toInt false) = (3, (H.2.1 72 64).toInt) := (xSt_1 (fun h9 => absurd (show (3 : Int) = 0 from (congrArg Prod.fst e1).symm.trans h9) (by decide))).trans e1
      rw [es]
      exact ⟨H, rfl, W, xFs_r H, (x_oi _).symm⟩

theorem xr_s2_1 {L : Nat} {σ : Nat → Int32} {d : Nat} {H : zp_H} {P : zp_X → Prop} {lv : zp_LV} {x2 : Int32} {S : xSea} (W : zw_W H) (hS : xOk S) (hR : xSR H S) (hc : xIn S (H.2.1 72 64).toInt) (l0 : zp_get lv 0 = some (.inr (.inr (some 73)))) (l2 : zp_get lv 2 = some (.inl x2)) (l3 : zp_get lv 3 = some (.inl (Int32.ofInt 1))) (hP : ∀ H1, zw_W H1 → xFs 64 64 H H1 → H1.2.1 72 64 = Int32.ofInt (xS2 S (H.2.1 72 64).toInt x2.toInt true).2 → P (.inl (some (.inl (Int32.ofInt (xS2 S (H.2.1 72 64).toInt x2.toInt true).1))), H1)) : zs_Safe L σ P zm_221 [] (d + 1) (54, lv, [], H, (0, 0)) := by
  have h8 := xIn_64 hS hc
  have hcu : (H.2.1 73 (H.2.1 72 64).toInt.toNat).toInt = S.2.2.2 (H.2.1 72 64).toInt.toNat := hR.2.2.2 _ (by omega)
  have hcb := hS.2.2 (H.2.1 72 64).toInt.toNat
  refine zw_ld (n := 1) (k := 3) (f := zp_isI) (pc' := 55) rfl rfl l3 rfl rfl ?_
  refine zw_beq1 (g := 97) (pc' := 58) rfl rfl rfl (rfl : _ = (1 : Int)) (fun h9 => absurd h9 (by decide)) (fun h0 => ?_)
  refine zw_ld (n := 1) (k := 2) (f := zp_isI) (pc' := 59) rfl rfl l2 rfl rfl ?_
  refine zw_s (pc' := 60) rfl rfl ?_
  refine zw_rem (pc' := 61) rfl (by decide) rfl ?_
  refine zw_bne1 (g := 97) (pc' := 64) rfl rfl rfl rfl (fun h1 => ?_) (fun h1 => ?_)
  · refine zw_s (pc' := 98) rfl rfl ?_
    refine zw_st (n := 2) (k := 4) (f := zp_isI) (pc' := 100) rfl rfl rfl rfl rfl ?_
    refine zw_ld (n := 2) (k := 4) (f := zp_isI) (pc' := 102) rfl rfl zw_g1 rfl rfl ?_
    refine zw_s (pc' := 103) rfl rfl ?_
    refine zw_bne2 (g := 108) (pc' := 106) rfl rfl rfl (rfl : _ = (-1 : Int)) (rfl : _ = (-1 : Int)) (fun h9 => absurd h9 (by decide)) (fun hb => ?_)
    refine zw_s (pc' := 107) rfl rfl ?_
    refine zw_ri rfl rfl ?_
    have es := xS2_n (S := S) (c := (H.2.1 72 64).toInt) (hr := x2.toInt) (t := true) (if_neg (fun h9 => h1 (x_od.mpr h9.2.1)))
    rw [es] at hP
    exact hP H W (xFs_r H) (x_oi _).symm
  · refine zw_ld (n := 1) (k := 0) (f := zp_isR) (pc' := 65) rfl rfl l0 rfl rfl ?_
    refine zw_gR (q := 72) (pc' := 68) W rfl rfl rfl rfl (W.2 72 13 _ rfl) rfl ?_
    refine zw_ld (n := 1) (k := 0) (f := zp_isR) (pc' := 69) rfl rfl l0 rfl rfl ?_
    refine zw_gI (q := 72) (pc' := 72) W rfl rfl rfl rfl rfl rfl ?_
    refine zw_ia (q := 73) (pc' := 73) W rfl rfl (by decide) (⟨h8.1, by show _ < ((64 : Nat) : Int); omega⟩) rfl rfl ?_
    refine zw_s (pc' := 74) rfl rfl ?_
    refine zw_beq2 (g := 97) (pc' := 77) rfl rfl rfl rfl (rfl : _ = (-1 : Int)) (fun h2 => ?_) (fun h2 => ?_)
    · refine zw_s (pc' := 98) rfl rfl ?_
      refine zw_st (n := 2) (k := 4) (f := zp_isI) (pc' := 100) rfl rfl rfl rfl rfl ?_
      refine zw_ld (n := 2) (k := 4) (f := zp_isI) (pc' := 102) rfl rfl zw_g1 rfl rfl ?_
      refine zw_s (pc' := 103) rfl rfl ?_
      refine zw_bne2 (g := 108) (pc' := 106) rfl rfl rfl (rfl : _ = (-1 : Int)) (rfl : _ = (-1 : Int)) (fun h9 => absurd h9 (by decide)) (fun hb => ?_)
      refine zw_s (pc' := 107) rfl rfl ?_
      refine zw_ri rfl rfl ?_
      have es := xS2_n (S := S) (c := (H.2.1 72 64).toInt) (hr := x2.toInt) (t := true) (if_neg (fun h9 => h9.2.2 (hcu.symm.trans h2)))
      rw [es] at hP
      exact hP H W (xFs_r H) (x_oi _).symm
    · refine zw_ld (n := 1) (k := 0) (f := zp_isR) (pc' := 78) rfl rfl l0 rfl rfl ?_
      refine zw_ld (n := 1) (k := 0) (f := zp_isR) (pc' := 79) rfl rfl l0 rfl rfl ?_
      refine zw_gI (q := 72) (pc' := 82) W rfl rfl rfl rfl rfl rfl ?_
      refine zw_ld (n := 1) (k := 0) (f := zp_isR) (pc' := 83) rfl rfl l0 rfl rfl ?_
      refine zw_gR (q := 72) (pc' := 86) W rfl rfl rfl rfl (W.2 72 13 _ rfl) rfl ?_
      refine zw_ld (n := 1) (k := 0) (f := zp_isR) (pc' := 87) rfl rfl l0 rfl rfl ?_
      refine zw_gI (q := 72) (pc' := 90) W rfl rfl rfl rfl rfl rfl ?_
      refine zw_ia (q := 73) (pc' := 91) W rfl rfl (by decide) (⟨h8.1, by show _ < ((64 : Nat) : Int); omega⟩) rfl rfl ?_
      have ed : (xDr S (H.2.1 72 64).toInt x2.toInt true) = xBe S.1 S.2.1 (H.2.1 72 64).toInt (S.2.2.2 (H.2.1 72 64).toInt.toNat) := if_pos ⟨rfl, x_od.mp h1, fun h9 => h2 (hcu.trans h9)⟩
      have qb := xr_be (L := L) (σ := σ) (d := d) (c := H.2.1 72 64) (k := H.2.1 73 (H.2.1 72 64).toInt.toNat) W hS hR hc
      rw [hcu, ← ed] at qb
      have h6 := xDr_64 (c := (H.2.1 72 64).toInt) (hr := x2.toInt) (t := true) hS
      have eo : (Int32.ofInt (xDr S (H.2.1 72 64).toInt x2.toInt true)).toInt = (xDr S (H.2.1 72 64).toInt x2.toInt true) := x_of (by omega) (by omega)
      refine zw_c (pc' := 94) (zw_cv (q := 72) (Y := zm_222) W.1 rfl rfl zm_222_t rfl rfl) rfl rfl rfl rfl rfl (qb) ?_
      refine zw_s (pc' := 98) rfl rfl ?_
      refine zw_st (n := 2) (k := 4) (f := zp_isI) (pc' := 100) rfl rfl rfl rfl rfl ?_
      refine zw_ld (n := 2) (k := 4) (f := zp_isI) (pc' := 102) rfl rfl zw_g1 rfl rfl ?_
      refine zw_s (pc' := 103) rfl rfl ?_
      refine zw_bne2 (g := 108) (pc' := 106) rfl rfl rfl rfl (rfl : _ = (-1 : Int)) (fun h3 => ?_) (fun h3 => ?_)
      · have h3 : ¬ (Int32.ofInt (xDr S (H.2.1 72 64).toInt x2.toInt true)).toInt = -1 := h3
        have h4 : (xDr S (H.2.1 72 64).toInt x2.toInt true) ≠ -1 := by omega
        refine zw_ld (n := 1) (k := 0) (f := zp_isR) (pc' := 109) rfl rfl (zw_gt l0 rfl rfl) rfl rfl ?_
        refine zw_ld (n := 2) (k := 4) (f := zp_isI) (pc' := 111) rfl rfl zw_g1 rfl rfl ?_
        refine zw_pI (q := 72) (pc' := 114) W rfl rfl rfl rfl rfl rfl ?_
        refine zw_ld (n := 1) (k := 0) (f := zp_isR) (pc' := 115) rfl rfl (zw_gt l0 rfl rfl) rfl rfl ?_
        refine zw_ld (n := 2) (k := 4) (f := zp_isI) (pc' := 117) rfl rfl zw_g1 rfl rfl ?_
        by_cases hr : yTb S.2.2.1 (xDr S (H.2.1 72 64).toInt x2.toInt true).toNat = true
        · refine zw_c (pc' := 120) (zw_cv (q := 72) (Y := zm_223) (zw_W_I W).1 rfl rfl zm_223_t rfl rfl) rfl rfl rfl rfl rfl (xr_isr1 (H := zw_I H 72 64 (Int32.ofInt (xDr S (H.2.1 72 64).toInt x2.toInt true))) (zw_W_I W) (by omega) (by rw [eo, show (zw_I H 72 64 (Int32.ofInt (xDr S (H.2.1 72 64).toInt x2.toInt true))).2.2.1 72 12 = S.2.2.1 from hR.2.2.1]; exact hr)) ?_
          refine zw_beq1 (g := 125) (pc' := 123) rfl rfl rfl (rfl : _ = (1 : Int)) (fun h9 => absurd h9 (by decide)) (fun h8 => ?_)
          refine zw_s (pc' := 124) rfl rfl ?_
          refine zw_ri rfl rfl ?_
          have es := xS2_r (S := S) (c := (H.2.1 72 64).toInt) (hr := x2.toInt) (t := true) h4 hr
          rw [es] at hP
          exact hP _ (zw_W_I W) (xFs_I (xFs_r H) (by decide) (by decide)) zw_eq
        · refine zw_c (pc' := 120) (zw_cv (q := 72) (Y := zm_223) (zw_W_I W).1 rfl rfl zm_223_t rfl rfl) rfl rfl rfl rfl rfl (xr_isr0 (H := zw_I H 72 64 (Int32.ofInt (xDr S (H.2.1 72 64).toInt x2.toInt true))) (zw_W_I W) (by omega) (by rw [eo, show (zw_I H 72 64 (Int32.ofInt (xDr S (H.2.1 72 64).toInt x2.toInt true))).2.2.1 72 12 = S.2.2.1 from hR.2.2.1]; exact hr)) ?_
          refine zw_beq1 (g := 125) (pc' := 123) rfl rfl rfl (rfl : _ = (0 : Int)) (fun h8 => ?_) (fun h9 => absurd h9 (by decide))
          refine zw_ld (n := 1) (k := 0) (f := zp_isR) (pc' := 126) rfl rfl (zw_gt l0 rfl rfl) rfl rfl ?_
          refine zw_s (pc' := 127) rfl rfl ?_
          refine zw_gL (q := 72) (pc' := 130) (zw_W_I W) rfl rfl rfl rfl rfl ?_
          refine zw_s (pc' := 131) rfl rfl ?_
          refine zw_ld (n := 2) (k := 4) (f := zp_isI) (pc' := 133) rfl rfl zw_g1 rfl rfl ?_
          refine zw_lshl (pc' := 134) rfl rfl ?_
          refine zw_lor (pc' := 135) rfl rfl ?_
          refine zw_pL (q := 72) (pc' := 138) (zw_W_I W) rfl rfl rfl rfl rfl rfl ?_
          refine zw_s (pc' := 139) rfl rfl ?_
          refine zw_ri rfl rfl ?_
          have es := xS2_f (S := S) (c := (H.2.1 72 64).toInt) (hr := x2.toInt) (t := true) h4 hr
          rw [es] at hP
          exact hP _ (zw_W_J (zw_W_I W)) (xFs_J (xFs_I (xFs_r H) (by decide) (by decide))) (zw_nj zw_eq)
      · have h3 : (Int32.ofInt (xDr S (H.2.1 72 64).toInt x2.toInt true)).toInt = -1 := h3
        have h4 : (xDr S (H.2.1 72 64).toInt x2.toInt true) = -1 := by omega
        refine zw_s (pc' := 107) rfl rfl ?_
        refine zw_ri rfl rfl ?_
        have es := xS2_n (S := S) (c := (H.2.1 72 64).toInt) (hr := x2.toInt) (t := true) h4
        rw [es] at hP
        exact hP H W (xFs_r H) (x_oi _).symm

theorem xr_st1 {L : Nat} {σ : Nat → Int32} {d : Nat} {H : zp_H} {x1 x2 : Int32} {S : xSea} (W : zw_W H) (hS : xOk S) (hR : xSR H S) (hc : xIn S (H.2.1 72 64).toInt) : ∃ X, zp_Call L σ (d + 2) 221 [.inr (.inr (some 73)), .inl x1, .inl x2, .inl (Int32.ofInt 1)] H X ∧ ∃ H1, X = (.inl (some (.inl (Int32.ofInt (xSt S (H.2.1 72 64).toInt x2.toInt x1.toInt true).1))), H1) ∧ zw_W H1 ∧ xFs 64 64 H H1 ∧ H1.2.1 72 64 = Int32.ofInt (xSt S (H.2.1 72 64).toInt x2.toInt x1.toInt true).2 := by
  refine zw_met zm_221_t rfl rfl ?_
  refine zw_ld (n := 1) (k := 1) (f := zp_isI) (pc' := 1) rfl rfl rfl rfl rfl ?_
  refine zw_s (pc' := 2) rfl rfl ?_
  refine zw_beq2 (g := 54) (pc' := 5) rfl rfl rfl rfl (rfl : _ = (-1 : Int)) (fun h1 => ?_) (fun h1 => ?_)
  · have e1 := xS1_n (S := S) (c := (H.2.1 72 64).toInt) h1
    have es : (xSt S (H.2.1 72 64).toInt x2.toInt x1.toInt true) = (xS2 S (H.2.1 72 64).toInt x2.toInt true) := (xSt_0 (congrArg Prod.fst e1)).trans (congrArg (fun z : Int × Int => xS2 S z.2 x2.toInt true) e1)
    refine xr_s2_1 W hS hR hc rfl rfl rfl (fun H1 w1 w2 w3 => ⟨H1, ?_, w1, w2, ?_⟩) <;> rw [es]
    exact w3
  · have h6 := xBe_64 (c := (H.2.1 72 64).toInt) (d := x1.toInt) hS
    have eo : (Int32.ofInt (xBe S.1 S.2.1 (H.2.1 72 64).toInt x1.toInt)).toInt = (xBe S.1 S.2.1 (H.2.1 72 64).toInt x1.toInt) := x_of (by omega) (by omega)
    refine zw_ld (n := 1) (k := 0) (f := zp_isR) (pc' := 6) rfl rfl rfl rfl rfl ?_
    refine zw_ld (n := 1) (k := 0) (f := zp_isR) (pc' := 7) rfl rfl rfl rfl rfl ?_
    refine zw_gI (q := 72) (pc' := 10) W rfl rfl rfl rfl rfl rfl ?_
    refine zw_ld (n := 1) (k := 1) (f := zp_isI) (pc' := 11) rfl rfl rfl rfl rfl ?_
    refine zw_c (pc' := 14) (zw_cv (q := 72) (Y := zm_222) W.1 rfl rfl zm_222_t rfl rfl) rfl rfl rfl rfl rfl (xr_be W hS hR hc) ?_
    refine zw_st (n := 2) (k := 4) (f := zp_isI) (pc' := 16) rfl rfl rfl rfl rfl ?_
    refine zw_ld (n := 2) (k := 4) (f := zp_isI) (pc' := 18) rfl rfl zw_g1 rfl rfl ?_
    refine zw_s (pc' := 19) rfl rfl ?_
    refine zw_bne2 (g := 24) (pc' := 22) rfl rfl rfl rfl (rfl : _ = (-1 : Int)) (fun h3 => ?_) (fun h3 => ?_)
    · have h3 : ¬ (Int32.ofInt (xBe S.1 S.2.1 (H.2.1 72 64).toInt x1.toInt)).toInt = -1 := h3
      have h4 : (xBe S.1 S.2.1 (H.2.1 72 64).toInt x1.toInt) ≠ -1 := by omega
      refine zw_ld (n := 1) (k := 0) (f := zp_isR) (pc' := 25) rfl rfl (zw_gt rfl rfl rfl) rfl rfl ?_
      refine zw_ld (n := 2) (k := 4) (f := zp_isI) (pc' := 27) rfl rfl zw_g1 rfl rfl ?_
      refine zw_pI (q := 72) (pc' := 30) W rfl rfl rfl rfl rfl rfl ?_
      refine zw_ld (n := 1) (k := 0) (f := zp_isR) (pc' := 31) rfl rfl (zw_gt rfl rfl rfl) rfl rfl ?_
      refine zw_ld (n := 2) (k := 4) (f := zp_isI) (pc' := 33) rfl rfl zw_g1 rfl rfl ?_
      by_cases hr : yTb S.2.2.1 (xBe S.1 S.2.1 (H.2.1 72 64).toInt x1.toInt).toNat = true
      · refine zw_c (pc' := 36) (zw_cv (q := 72) (Y := zm_223) (zw_W_I W).1 rfl rfl zm_223_t rfl rfl) rfl rfl rfl rfl rfl (xr_isr1 (H := zw_I H 72 64 (Int32.ofInt (xBe S.1 S.2.1 (H.2.1 72 64).toInt x1.toInt))) (zw_W_I W) (by omega) (by rw [eo, show (zw_I H 72 64 (Int32.ofInt (xBe S.1 S.2.1 (H.2.1 72 64).toInt x1.toInt))).2.2.1 72 12 = S.2.2.1 from hR.2.2.1]; exact hr)) ?_
        refine zw_beq1 (g := 41) (pc' := 39) rfl rfl rfl (rfl : _ = (1 : Int)) (fun h9 => absurd h9 (by decide)) (fun h8 => ?_)
        refine zw_s (pc' := 40) rfl rfl ?_
        refine zw_ri rfl rfl ?_
        have e1 := xS1_r (S := S) h1 h4 hr
        have es : (xSt S (H.2.1 72 64).toInt x2.toInt x1.toInt true) = (1, (xBe S.1 S.2.1 (H.2.1 72 64).toInt x1.toInt)) := (xSt_1 (fun h9 => absurd (show (1 : Int) = 0 from (congrArg Prod.fst e1).symm.trans h9) (by decide))).trans e1
        rw [es]
        exact ⟨_, rfl, zw_W_I W, xFs_I (xFs_r H) (by decide) (by decide), zw_eq⟩
      · refine zw_c (pc' := 36) (zw_cv (q := 72) (Y := zm_223) (zw_W_I W).1 rfl rfl zm_223_t rfl rfl) rfl rfl rfl rfl rfl (xr_isr0 (H := zw_I H 72 64 (Int32.ofInt (xBe S.1 S.2.1 (H.2.1 72 64).toInt x1.toInt))) (zw_W_I W) (by omega) (by rw [eo, show (zw_I H 72 64 (Int32.ofInt (xBe S.1 S.2.1 (H.2.1 72 64).toInt x1.toInt))).2.2.1 72 12 = S.2.2.1 from hR.2.2.1]; exact hr)) ?_
        refine zw_beq1 (g := 41) (pc' := 39) rfl rfl rfl (rfl : _ = (0 : Int)) (fun h8 => ?_) (fun h9 => absurd h9 (by decide))
        refine zw_ld (n := 1) (k := 0) (f := zp_isR) (pc' := 42) rfl rfl (zw_gt rfl rfl rfl) rfl rfl ?_
        refine zw_s (pc' := 43) rfl rfl ?_
        refine zw_gL (q := 72) (pc' := 46) (zw_W_I W) rfl rfl rfl rfl rfl ?_
        refine zw_s (pc' := 47) rfl rfl ?_
        refine zw_ld (n := 2) (k := 4) (f := zp_isI) (pc' := 49) rfl rfl zw_g1 rfl rfl ?_
        refine zw_lshl (pc' := 50) rfl rfl ?_
        refine zw_lor (pc' := 51) rfl rfl ?_
        refine zw_pL (q := 72) (pc' := 54) (zw_W_I W) rfl rfl rfl rfl rfl rfl ?_
        have e1 := xS1_f (S := S) h1 h4 hr
        have es : (xSt S (H.2.1 72 64).toInt x2.toInt x1.toInt true) = xS2 S (xBe S.1 S.2.1 (H.2.1 72 64).toInt x1.toInt) x2.toInt true := (xSt_0 (congrArg Prod.fst e1)).trans (congrArg (fun z : Int × Int => xS2 S z.2 x2.toInt true) e1)
        have k0 : (zw_J (zw_I H 72 64 (Int32.ofInt (xBe S.1 S.2.1 (H.2.1 72 64).toInt x1.toInt))) 72 65 (H.2.2.1 72 65 ||| za_shl0 (Int64.ofNat 1) (Int32.ofInt (xBe S.1 S.2.1 (H.2.1 72 64).toInt x1.toInt)))).2.1 72 64 = Int32.ofInt (xBe S.1 S.2.1 (H.2.1 72 64).toInt x1.toInt) := zw_nj zw_eq
        have fr : xFs 64 64 H (zw_J (zw_I H 72 64 (Int32.ofInt (xBe S.1 S.2.1 (H.2.1 72 64).toInt x1.toInt))) 72 65 (H.2.2.1 72 65 ||| za_shl0 (Int64.ofNat 1) (Int32.ofInt (xBe S.1 S.2.1 (H.2.1 72 64).toInt x1.toInt)))) := xFs_J (xFs_I (xFs_r H) (by decide) (by decide))
        have hi : xIn S (xBe S.1 S.2.1 (H.2.1 72 64).toInt x1.toInt) := (xBe_b hS.1.1).resolve_left h4
        refine xr_s2_1 (S := S) (H := zw_J (zw_I H 72 64 (Int32.ofInt (xBe S.1 S.2.1 (H.2.1 72 64).toInt x1.toInt))) 72 65 (H.2.2.1 72 65 ||| za_shl0 (Int64.ofNat 1) (Int32.ofInt (xBe S.1 S.2.1 (H.2.1 72 64).toInt x1.toInt)))) (zw_W_J (zw_W_I W)) hS (xSR_f fr (by decide) hR) (by rw [k0, eo]; exact hi) (zw_gt rfl rfl rfl) (zw_gt rfl rfl rfl) (zw_gt rfl rfl rfl) (fun H1 w1 w2 w3 => ?_)
        rw [k0, eo] at w3
        rw [k0, eo, es]
        exact ⟨H1, rfl, w1, xFs_t fr w2, w3⟩
    · have h3 : (Int32.ofInt (xBe S.1 S.2.1 (H.2.1 72 64).toInt x1.toInt)).toInt = -1 := h3
      have h4 : (xBe S.1 S.2.1 (H.2.1 72 64).toInt x1.toInt) = -1 := by omega
      refine zw_s (pc' := 23) rfl rfl ?_
      refine zw_ri rfl rfl ?_
      have e1 := xS1_l (S := S) h1 h4
      have es : (xSt S (H.2.1 72 64).toInt x2.toInt x1.toInt true) = (3, (H.2.1 72 64).toInt) := (xSt_1 (fun h9 => absurd (show (3 : Int) = 0 from (congrArg Prod.fst e1).symm.trans h9) (by decide))).trans e1
      rw [es]
      exact ⟨H, rfl, W, xFs_r H, (x_oi _).symm⟩
