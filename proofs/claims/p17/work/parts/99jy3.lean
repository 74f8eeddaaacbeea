/-! ===== the reference: pilots sail by rules ===== -/
def zm_231 : za_MI := (yX12_knownBy, prog_14_method_66_code, 5, (some FieldType.long), 12, 0, 0, [], za_i231)
theorem zm_231_t : za_MT 231 = some zm_231 := rfl
theorem xr_w4 {L : Nat} {σ : Nat → Int32} {d : Nat} {H : zp_H} {x y : Int32} : zp_Call L σ (d + 1) 235 [.inl (Int32.ofInt 4), .inl x, .inl y] H (.inl (some (.inl (xJn 4 x y))), H) := by
  refine zw_ex (zw_met zm_235_t rfl rfl ?_)
  refine zw_ld (n := 1) (k := 0) (f := zp_isI) (pc' := 1) rfl rfl rfl rfl rfl ?_
  refine zw_s (pc' := 44) rfl rfl ?_
  refine zw_ld (n := 1) (k := 1) (f := zp_isI) (pc' := 45) rfl rfl rfl rfl rfl ?_
  refine zw_beq1 (g := 56) (pc' := 48) rfl rfl rfl rfl (fun h1 => ?_) (fun h1 => ?_)
  · refine zw_s (pc' := 57) rfl rfl ?_
    refine zw_ri rfl rfl ?_
    exact x_rv (if_neg (fun h9 => h9.1 h1)).symm
  · refine zw_ld (n := 1) (k := 2) (f := zp_isI) (pc' := 49) rfl rfl rfl rfl rfl ?_
    refine zw_beq1 (g := 56) (pc' := 52) rfl rfl rfl rfl (fun h2 => ?_) (fun h2 => ?_)
    · refine zw_s (pc' := 57) rfl rfl ?_
      refine zw_ri rfl rfl ?_
      exact x_rv (if_neg (fun h9 => h9.2 h2)).symm
    · refine zw_s (pc' := 53) rfl rfl ?_
      refine zw_s (pc' := 57) rfl rfl ?_
      refine zw_ri rfl rfl ?_
      exact x_rv (if_pos ⟨h1, h2⟩).symm

theorem xr_w5 {L : Nat} {σ : Nat → Int32} {d : Nat} {H : zp_H} {x y : Int32} : zp_Call L σ (d + 1) 235 [.inl (Int32.ofInt 5), .inl x, .inl y] H (.inl (some (.inl (xJn 5 x y))), H) := by
  refine zw_ex (zw_met zm_235_t rfl rfl ?_)
  refine zw_ld (n := 1) (k := 0) (f := zp_isI) (pc' := 1) rfl rfl rfl rfl rfl ?_
  refine zw_s (pc' := 58) rfl rfl ?_
  refine zw_ld (n := 1) (k := 1) (f := zp_isI) (pc' := 59) rfl rfl rfl rfl rfl ?_
  refine zw_bne1 (g := 66) (pc' := 62) rfl rfl rfl rfl (fun h1 => ?_) (fun h1 => ?_)
  · refine zw_s (pc' := 67) rfl rfl ?_
    refine zw_s (pc' := 71) rfl rfl ?_
    refine zw_ri rfl rfl ?_
    exact x_rv (if_pos (Or.inl h1)).symm
  · refine zw_ld (n := 1) (k := 2) (f := zp_isI) (pc' := 63) rfl rfl rfl rfl rfl ?_
    refine zw_beq1 (g := 70) (pc' := 66) rfl rfl rfl rfl (fun h2 => ?_) (fun h2 => ?_)
    · refine zw_s (pc' := 71) rfl rfl ?_
      refine zw_ri rfl rfl ?_
      exact x_rv (if_neg (fun h9 => h9.elim (fun h8 => h8 h1) (fun h8 => h8 h2))).symm
    · refine zw_s (pc' := 67) rfl rfl ?_
      refine zw_s (pc' := 71) rfl rfl ?_
      refine zw_ri rfl rfl ?_
      exact x_rv (if_pos (Or.inr h2)).symm

theorem xr_w6 {L : Nat} {σ : Nat → Int32} {d : Nat} {H : zp_H} {x y : Int32} : zp_Call L σ (d + 1) 235 [.inl (Int32.ofInt 6), .inl x, .inl y] H (.inl (some (.inl (xJn 6 x y))), H) := by
  refine zw_ex (zw_met zm_235_t rfl rfl ?_)
  refine zw_ld (n := 1) (k := 0) (f := zp_isI) (pc' := 1) rfl rfl rfl rfl rfl ?_
  refine zw_s (pc' := 72) rfl rfl ?_
  refine zw_ld (n := 1) (k := 1) (f := zp_isI) (pc' := 73) rfl rfl rfl rfl rfl ?_
  refine zw_ld (n := 1) (k := 2) (f := zp_isI) (pc' := 74) rfl rfl rfl rfl rfl ?_
  refine zw_bge2 (g := 81) (pc' := 77) rfl rfl rfl rfl rfl (fun h1 => ?_) (fun h1 => ?_)
  · refine zw_s (pc' := 82) rfl rfl ?_
    refine zw_ri rfl rfl ?_
    exact x_rv (if_neg (show ¬ (x.toInt < y.toInt) by omega)).symm
  · refine zw_s (pc' := 78) rfl rfl ?_
    refine zw_s (pc' := 82) rfl rfl ?_
    refine zw_ri rfl rfl ?_
    exact x_rv (if_pos (show x.toInt < y.toInt by omega)).symm

theorem xr_w7 {L : Nat} {σ : Nat → Int32} {d : Nat} {H : zp_H} {x y : Int32} : zp_Call L σ (d + 1) 235 [.inl (Int32.ofInt 7), .inl x, .inl y] H (.inl (some (.inl (xJn 7 x y))), H) := by
  refine zw_ex (zw_met zm_235_t rfl rfl ?_)
  refine zw_ld (n := 1) (k := 0) (f := zp_isI) (pc' := 1) rfl rfl rfl rfl rfl ?_
  refine zw_s (pc' := 83) rfl rfl ?_
  refine zw_ld (n := 1) (k := 1) (f := zp_isI) (pc' := 84) rfl rfl rfl rfl rfl ?_
  refine zw_ld (n := 1) (k := 2) (f := zp_isI) (pc' := 85) rfl rfl rfl rfl rfl ?_
  refine zw_bne2 (g := 92) (pc' := 88) rfl rfl rfl rfl rfl (fun h1 => ?_) (fun h1 => ?_)
  · refine zw_s (pc' := 93) rfl rfl ?_
    refine zw_ri rfl rfl ?_
    exact x_rv (if_neg (show ¬ (x.toInt = y.toInt) by omega)).symm
  · refine zw_s (pc' := 89) rfl rfl ?_
    refine zw_s (pc' := 93) rfl rfl ?_
    refine zw_ri rfl rfl ?_
    exact x_rv (if_pos (show x.toInt = y.toInt by omega)).symm

theorem xr_w8 {L : Nat} {σ : Nat → Int32} {d : Nat} {H : zp_H} {x y : Int32} : zp_Call L σ (d + 1) 235 [.inl (Int32.ofInt 8), .inl x, .inl y] H (.inl (some (.inl (xJn 8 x y))), H) := by
  refine zw_ex (zw_met zm_235_t rfl rfl ?_)
  refine zw_ld (n := 1) (k := 0) (f := zp_isI) (pc' := 1) rfl rfl rfl rfl rfl ?_
  refine zw_s (pc' := 94) rfl rfl ?_
  refine zw_ld (n := 1) (k := 1) (f := zp_isI) (pc' := 95) rfl rfl rfl rfl rfl ?_
  refine zw_ld (n := 1) (k := 2) (f := zp_isI) (pc' := 96) rfl rfl rfl rfl rfl ?_
  refine zw_iadd (pc' := 97) rfl rfl ?_
  refine zw_ri rfl rfl ?_
  rfl

theorem xr_w9 {L : Nat} {σ : Nat → Int32} {d : Nat} {H : zp_H} {x y : Int32} : zp_Call L σ (d + 1) 235 [.inl (Int32.ofInt 9), .inl x, .inl y] H (.inl (some (.inl (xJn 9 x y))), H) := by
  refine zw_ex (zw_met zm_235_t rfl rfl ?_)
  refine zw_ld (n := 1) (k := 0) (f := zp_isI) (pc' := 1) rfl rfl rfl rfl rfl ?_
  refine zw_s (pc' := 98) rfl rfl ?_
  refine zw_ld (n := 1) (k := 1) (f := zp_isI) (pc' := 99) rfl rfl rfl rfl rfl ?_
  refine zw_ld (n := 1) (k := 2) (f := zp_isI) (pc' := 100) rfl rfl rfl rfl rfl ?_
  refine zw_isub (pc' := 101) rfl rfl ?_
  refine zw_ri rfl rfl ?_
  rfl

theorem xr_w10 {L : Nat} {σ : Nat → Int32} {d : Nat} {H : zp_H} {x y : Int32} : zp_Call L σ (d + 1) 235 [.inl (Int32.ofInt 10), .inl x, .inl y] H (.inl (some (.inl (xJn 10 x y))), H) := by
  refine zw_ex (zw_met zm_235_t rfl rfl ?_)
  refine zw_ld (n := 1) (k := 0) (f := zp_isI) (pc' := 1) rfl rfl rfl rfl rfl ?_
  refine zw_s (pc' := 102) rfl rfl ?_
  refine zw_ld (n := 1) (k := 1) (f := zp_isI) (pc' := 103) rfl rfl rfl rfl rfl ?_
  refine zw_ld (n := 1) (k := 2) (f := zp_isI) (pc' := 104) rfl rfl rfl rfl rfl ?_
  refine zw_imul (pc' := 105) rfl rfl ?_
  refine zw_ri rfl rfl ?_
  rfl

theorem xr_w11 {L : Nat} {σ : Nat → Int32} {d : Nat} {H : zp_H} {x y : Int32} : zp_Call L σ (d + 1) 235 [.inl (Int32.ofInt 11), .inl x, .inl y] H (.inl (some (.inl (xJn 11 x y))), H) := by
  refine zw_ex (zw_met zm_235_t rfl rfl ?_)
  refine zw_ld (n := 1) (k := 0) (f := zp_isI) (pc' := 1) rfl rfl rfl rfl rfl ?_
  refine zw_s (pc' := 106) rfl rfl ?_
  refine zw_ld (n := 1) (k := 2) (f := zp_isI) (pc' := 107) rfl rfl rfl rfl rfl ?_
  refine zw_bne1 (g := 114) (pc' := 110) rfl rfl rfl rfl (fun h1 => ?_) (fun h1 => ?_)
  · have h1 : ¬ y.toInt = 0 := h1
    have hz : y ≠ 0 := fun h9 => h1 (by rw [h9]; rfl)
    refine zw_ld (n := 1) (k := 1) (f := zp_isI) (pc' := 115) rfl rfl rfl rfl rfl ?_
    refine zw_ld (n := 1) (k := 2) (f := zp_isI) (pc' := 116) rfl rfl rfl rfl rfl ?_
    refine zw_div (pc' := 117) rfl (hz) rfl ?_
    refine zw_ri rfl rfl ?_
    exact x_rv (if_neg h1).symm
  · refine zw_s (pc' := 111) rfl rfl ?_
    refine zw_s (pc' := 117) rfl rfl ?_
    refine zw_ri rfl rfl ?_
    exact x_rv (if_pos (show y.toInt = 0 from h1)).symm

theorem xr_wk {L : Nat} {σ : Nat → Int32} {d : Nat} {H : zp_H} {x y z : Int32} {a : Nat} (ha : 3 < a ∧ a < 12) (hz : z.toInt = (a : Int)) : zp_Call L σ (d + 1) 235 [.inl z, .inl x, .inl y] H (.inl (some (.inl (xJn a x y))), H) := by
  rcases (show a = 4 ∨ a = 5 ∨ a = 6 ∨ a = 7 ∨ a = 8 ∨ a = 9 ∨ a = 10 ∨ a = 11 by omega) with rfl | rfl | rfl | rfl | rfl | rfl | rfl | rfl
  · obtain rfl : z = Int32.ofInt 4 := Int32.toInt_inj.mp (hz.trans (by decide))
    exact xr_w4
  · obtain rfl : z = Int32.ofInt 5 := Int32.toInt_inj.mp (hz.trans (by decide))
    exact xr_w5
  · obtain rfl : z = Int32.ofInt 6 := Int32.toInt_inj.mp (hz.trans (by decide))
    exact xr_w6
  · obtain rfl : z = Int32.ofInt 7 := Int32.toInt_inj.mp (hz.trans (by decide))
    exact xr_w7
  · obtain rfl : z = Int32.ofInt 8 := Int32.toInt_inj.mp (hz.trans (by decide))
    exact xr_w8
  · obtain rfl : z = Int32.ofInt 9 := Int32.toInt_inj.mp (hz.trans (by decide))
    exact xr_w9
  · obtain rfl : z = Int32.ofInt 10 := Int32.toInt_inj.mp (hz.trans (by decide))
    exact xr_w10
  · obtain rfl : z = Int32.ofInt 11 := Int32.toInt_inj.mp (hz.trans (by decide))
    exact xr_w11
theorem xr_v0 {L : Nat} {σ : Nat → Int32} {d : Nat} {H : zp_H} {S : xSea} {c h : Int32} {u : Int64} (W : zw_W H) (hS : xOk S) (hR : xSR H S) (hc : xIn S c.toInt) : zp_Call L σ (d + 2) 234 [.inr (.inr (some 73)), .inl (Int32.ofInt 0), .inl c, .inl h, .inr (.inl u)] H (.inl (some (.inl (xVl S c h u 0))), H) := by
  have h64 := xIn_64 hS hc
  have hw : (H.2.1 72 1).toInt = S.1 := hR.1
  have hs1 := hS.1
  have w0 : H.2.1 72 1 ≠ 0 := fun h9 => by
    have : (H.2.1 72 1).toInt = 0 := congrArg Int32.toInt h9
    omega
  refine zw_ex (zw_met zm_234_t rfl rfl ?_)
  refine zw_ld (n := 1) (k := 1) (f := zp_isI) (pc' := 1) rfl rfl rfl rfl rfl ?_
  refine zw_s (pc' := 85) rfl rfl ?_
  have q := xr_be (L := L) (σ := σ) (d := d) (H := H) (c := c) (k := Int32.ofInt 0) W hS hR hc
  rw [show (Int32.ofInt 0).toInt = 0 by decide] at q
  have hb := xBe_64 (c := c.toInt) (d := 0) hS
  have eb : (Int32.ofInt (xBe S.1 S.2.1 c.toInt 0)).toInt = (xBe S.1 S.2.1 c.toInt 0) := x_of (by omega) (by omega)
  refine zw_ld (n := 1) (k := 0) (f := zp_isR) (pc' := 86) rfl rfl rfl rfl rfl ?_
  refine zw_ld (n := 1) (k := 2) (f := zp_isI) (pc' := 87) rfl rfl rfl rfl rfl ?_
  refine zw_ld (n := 1) (k := 1) (f := zp_isI) (pc' := 88) rfl rfl rfl rfl rfl ?_
  refine zw_c (pc' := 91) (zw_cv (q := 72) (Y := zm_222) W.1 rfl rfl zm_222_t rfl rfl) rfl rfl rfl rfl rfl (q) ?_
  refine zw_st (n := 2) (k := 6) (f := zp_isI) (pc' := 93) rfl rfl rfl rfl rfl ?_
  refine zw_ld (n := 2) (k := 6) (f := zp_isI) (pc' := 95) rfl rfl zw_g1 rfl rfl ?_
  refine zw_s (pc' := 96) rfl rfl ?_
  refine zw_beq2 (g := 111) (pc' := 99) rfl rfl rfl rfl (rfl : _ = (-1 : Int)) (fun h1 => ?_) (fun h1 => ?_)
  · refine zw_s (pc' := 112) rfl rfl ?_
    refine zw_s (pc' := 116) rfl rfl ?_
    refine zw_ri rfl rfl ?_
    exact x_rv (if_pos (Or.inl (eb.symm.trans h1))).symm
  · have h1 : ¬ (Int32.ofInt (xBe S.1 S.2.1 c.toInt 0)).toInt = -1 := h1
    have h6 : 0 ≤ (Int32.ofInt (xBe S.1 S.2.1 c.toInt 0)).toInt ∧ (Int32.ofInt (xBe S.1 S.2.1 c.toInt 0)).toInt ≤ 63 := by omega
    have e := y_shv (r := u) h6
    rw [eb] at e
    refine zw_ld (n := 2) (k := 4) (f := zp_isL) (pc' := 101) rfl rfl (zw_gt rfl rfl rfl) rfl rfl ?_
    refine zw_ld (n := 2) (k := 6) (f := zp_isI) (pc' := 103) rfl rfl zw_g1 rfl rfl ?_
    refine zw_lshr (pc' := 104) rfl rfl ?_
    refine zw_s (pc' := 105) rfl rfl ?_
    refine zw_land (pc' := 106) rfl rfl ?_
    refine zw_s (pc' := 107) rfl rfl ?_
    refine zw_s (pc' := 108) rfl rfl ?_
    refine zw_bne1 (g := 115) (pc' := 111) rfl rfl rfl rfl (fun h2 => ?_) (fun h2 => ?_)
    · have h2 : ¬ (lg_cmp (za_shr0 u (Int32.ofInt (xBe S.1 S.2.1 c.toInt 0)) &&& Int64.ofNat 1) (Int64.ofNat 1)).toInt = 0 := h2
      have hn : ¬ yTb u (xBe S.1 S.2.1 c.toInt 0).toNat = true := fun h9 => by
        rw [if_pos h9] at e
        rw [e] at h2
        exact absurd (by decide) h2
      refine zw_s (pc' := 116) rfl rfl ?_
      refine zw_ri rfl rfl ?_
      exact x_rv (if_neg (fun h9 => h9.elim (fun h8 => h1 (eb.trans h8)) hn)).symm
    · have h2 : (lg_cmp (za_shr0 u (Int32.ofInt (xBe S.1 S.2.1 c.toInt 0)) &&& Int64.ofNat 1) (Int64.ofNat 1)).toInt = 0 := h2
      have hy : yTb u (xBe S.1 S.2.1 c.toInt 0).toNat = true := Classical.byContradiction (fun h9 => by
        rw [if_neg h9] at e
        rw [e] at h2
        exact absurd h2 (by decide))
      refine zw_s (pc' := 112) rfl rfl ?_
      refine zw_s (pc' := 116) rfl rfl ?_
      refine zw_ri rfl rfl ?_
      exact x_rv (if_pos (Or.inr hy)).symm

theorem xr_v1 {L : Nat} {σ : Nat → Int32} {d : Nat} {H : zp_H} {S : xSea} {c h : Int32} {u : Int64} (W : zw_W H) (hS : xOk S) (hR : xSR H S) (hc : xIn S c.toInt) : zp_Call L σ (d + 2) 234 [.inr (.inr (some 73)), .inl (Int32.ofInt 1), .inl c, .inl h, .inr (.inl u)] H (.inl (some (.inl (xVl S c h u 1))), H) := by
  have h64 := xIn_64 hS hc
  have hw : (H.2.1 72 1).toInt = S.1 := hR.1
  have hs1 := hS.1
  have w0 : H.2.1 72 1 ≠ 0 := fun h9 => by
    have : (H.2.1 72 1).toInt = 0 := congrArg Int32.toInt h9
    omega
  refine zw_ex (zw_met zm_234_t rfl rfl ?_)
  refine zw_ld (n := 1) (k := 1) (f := zp_isI) (pc' := 1) rfl rfl rfl rfl rfl ?_
  refine zw_s (pc' := 85) rfl rfl ?_
  have q := xr_be (L := L) (σ := σ) (d := d) (H := H) (c := c) (k := Int32.ofInt 1) W hS hR hc
  rw [show (Int32.ofInt 1).toInt = 1 by decide] at q
  have hb := xBe_64 (c := c.toInt) (d := 1) hS
  have eb : (Int32.ofInt (xBe S.1 S.2.1 c.toInt 1)).toInt = (xBe S.1 S.2.1 c.toInt 1) := x_of (by omega) (by omega)
  refine zw_ld (n := 1) (k := 0) (f := zp_isR) (pc' := 86) rfl rfl rfl rfl rfl ?_
  refine zw_ld (n := 1) (k := 2) (f := zp_isI) (pc' := 87) rfl rfl rfl rfl rfl ?_
  refine zw_ld (n := 1) (k := 1) (f := zp_isI) (pc' := 88) rfl rfl rfl rfl rfl ?_
  refine zw_c (pc' := 91) (zw_cv (q := 72) (Y := zm_222) W.1 rfl rfl zm_222_t rfl rfl) rfl rfl rfl rfl rfl (q) ?_
  refine zw_st (n := 2) (k := 6) (f := zp_isI) (pc' := 93) rfl rfl rfl rfl rfl ?_
  refine zw_ld (n := 2) (k := 6) (f := zp_isI) (pc' := 95) rfl rfl zw_g1 rfl rfl ?_
  refine zw_s (pc' := 96) rfl rfl ?_
  refine zw_beq2 (g := 111) (pc' := 99) rfl rfl rfl rfl (rfl : _ = (-1 : Int)) (fun h1 => ?_) (fun h1 => ?_)
  · refine zw_s (pc' := 112) rfl rfl ?_
    refine zw_s (pc' := 116) rfl rfl ?_
    refine zw_ri rfl rfl ?_
    exact x_rv (if_pos (Or.inl (eb.symm.trans h1))).symm
  · have h1 : ¬ (Int32.ofInt (xBe S.1 S.2.1 c.toInt 1)).toInt = -1 := h1
    have h6 : 0 ≤ (Int32.ofInt (xBe S.1 S.2.1 c.toInt 1)).toInt ∧ (Int32.ofInt (xBe S.1 S.2.1 c.toInt 1)).toInt ≤ 63 := by omega
    have e := y_shv (r := u) h6
    rw [eb] at e
    refine zw_ld (n := 2) (k := 4) (f := zp_isL) (pc' := 101) rfl rfl (zw_gt rfl rfl rfl) rfl rfl ?_
    refine zw_ld (n := 2) (k := 6) (f := zp_isI) (pc' := 103) rfl rfl zw_g1 rfl rfl ?_
    refine zw_lshr (pc' := 104) rfl rfl ?_
    refine zw_s (pc' := 105) rfl rfl ?_
    refine zw_land (pc' := 106) rfl rfl ?_
    refine zw_s (pc' := 107) rfl rfl ?_
    refine zw_s (pc' := 108) rfl rfl ?_
    refine zw_bne1 (g := 115) (pc' := 111) rfl rfl rfl rfl (fun h2 => ?_) (fun h2 => ?_)
    · have h2 : ¬ (lg_cmp (za_shr0 u (Int32.ofInt (xBe S.1 S.2.1 c.toInt 1)) &&& Int64.ofNat 1) (Int64.ofNat 1)).toInt = 0 := h2
      have hn : ¬ yTb u (xBe S.1 S.2.1 c.toInt 1).toNat = true := fun h9 => by
        rw [if_pos h9] at e
        rw [e] at h2
        exact absurd (by decide) h2
      refine zw_s (pc' := 116) rfl rfl ?_
      refine zw_ri rfl rfl ?_
      exact x_rv (if_neg (fun h9 => h9.elim (fun h8 => h1 (eb.trans h8)) hn)).symm
    · have h2 : (lg_cmp (za_shr0 u (Int32.ofInt (xBe S.1 S.2.1 c.toInt 1)) &&& Int64.ofNat 1) (Int64.ofNat 1)).toInt = 0 := h2
      have hy : yTb u (xBe S.1 S.2.1 c.toInt 1).toNat = true := Classical.byContradiction (fun h9 => by
        rw [if_neg h9] at e
        rw [e] at h2
        exact absurd h2 (by decide))
      refine zw_s (pc' := 112) rfl rfl ?_
      refine zw_s (pc' := 116) rfl rfl ?_
      refine zw_ri rfl rfl ?_
      exact x_rv (if_pos (Or.inr hy)).symm

theorem xr_v2 {L : Nat} {σ : Nat → Int32} {d : Nat} {H : zp_H} {S : xSea} {c h : Int32} {u : Int64} (W : zw_W H) (hS : xOk S) (hR : xSR H S) (hc : xIn S c.toInt) : zp_Call L σ (d + 2) 234 [.inr (.inr (some 73)), .inl (Int32.ofInt 2), .inl c, .inl h, .inr (.inl u)] H (.inl (some (.inl (xVl S c h u 2))), H) := by
  have h64 := xIn_64 hS hc
  have hw : (H.2.1 72 1).toInt = S.1 := hR.1
  have hs1 := hS.1
  have w0 : H.2.1 72 1 ≠ 0 := fun h9 => by
    have : (H.2.1 72 1).toInt = 0 := congrArg Int32.toInt h9
    omega
  refine zw_ex (zw_met zm_234_t rfl rfl ?_)
  refine zw_ld (n := 1) (k := 1) (f := zp_isI) (pc' := 1) rfl rfl rfl rfl rfl ?_
  refine zw_s (pc' := 85) rfl rfl ?_
  have q := xr_be (L := L) (σ := σ) (d := d) (H := H) (c := c) (k := Int32.ofInt 2) W hS hR hc
  rw [show (Int32.ofInt 2).toInt = 2 by decide] at q
  have hb := xBe_64 (c := c.toInt) (d := 2) hS
  have eb : (Int32.ofInt (xBe S.1 S.2.1 c.toInt 2)).toInt = (xBe S.1 S.2.1 c.toInt 2) := x_of (by omega) (by omega)
  refine zw_ld (n := 1) (k := 0) (f := zp_isR) (pc' := 86) rfl rfl rfl rfl rfl ?_
  refine zw_ld (n := 1) (k := 2) (f := zp_isI) (pc' := 87) rfl rfl rfl rfl rfl ?_
  refine zw_ld (n := 1) (k := 1) (f := zp_isI) (pc' := 88) rfl rfl rfl rfl rfl ?_
  refine zw_c (pc' := 91) (zw_cv (q := 72) (Y := zm_222) W.1 rfl rfl zm_222_t rfl rfl) rfl rfl rfl rfl rfl (q) ?_
  refine zw_st (n := 2) (k := 6) (f := zp_isI) (pc' := 93) rfl rfl rfl rfl rfl ?_
  refine zw_ld (n := 2) (k := 6) (f := zp_isI) (pc' := 95) rfl rfl zw_g1 rfl rfl ?_
  refine zw_s (pc' := 96) rfl rfl ?_
  refine zw_beq2 (g := 111) (pc' := 99) rfl rfl rfl rfl (rfl : _ = (-1 : Int)) (fun h1 => ?_) (fun h1 => ?_)
  · refine zw_s (pc' := 112) rfl rfl ?_
    refine zw_s (pc' := 116) rfl rfl ?_
    refine zw_ri rfl rfl ?_
    exact x_rv (if_pos (Or.inl (eb.symm.trans h1))).symm
  · have h1 : ¬ (Int32.ofInt (xBe S.1 S.2.1 c.toInt 2)).toInt = -1 := h1
    have h6 : 0 ≤ (Int32.ofInt (xBe S.1 S.2.1 c.toInt 2)).toInt ∧ (Int32.ofInt (xBe S.1 S.2.1 c.toInt 2)).toInt ≤ 63 := by omega
    have e := y_shv (r := u) h6
    rw [eb] at e
    refine zw_ld (n := 2) (k := 4) (f := zp_isL) (pc' := 101) rfl rfl (zw_gt rfl rfl rfl) rfl rfl ?_
    refine zw_ld (n := 2) (k := 6) (f := zp_isI) (pc' := 103) rfl rfl zw_g1 rfl rfl ?_
    refine zw_lshr (pc' := 104) rfl rfl ?_
    refine zw_s (pc' := 105) rfl rfl ?_
    refine zw_land (pc' := 106) rfl rfl ?_
    refine zw_s (pc' := 107) rfl rfl ?_
    refine zw_s (pc' := 108) rfl rfl ?_
    refine zw_bne1 (g := 115) (pc' := 111) rfl rfl rfl rfl (fun h2 => ?_) (fun h2 => ?_)
    · have h2 : ¬ (lg_cmp (za_shr0 u (Int32.ofInt (xBe S.1 S.2.1 c.toInt 2)) &&& Int64.ofNat 1) (Int64.ofNat 1)).toInt = 0 := h2
      have hn : ¬ yTb u (xBe S.1 S.2.1 c.toInt 2).toNat = true := fun h9 => by
        rw [if_pos h9] at e
        rw [e] at h2
        exact absurd (by decide) h2
      refine zw_s (pc' := 116) rfl rfl ?_
      refine zw_ri rfl rfl ?_
      exact x_rv (if_neg (fun h9 => h9.elim (fun h8 => h1 (eb.trans h8)) hn)).symm
    · have h2 : (lg_cmp (za_shr0 u (Int32.ofInt (xBe S.1 S.2.1 c.toInt 2)) &&& Int64.ofNat 1) (Int64.ofNat 1)).toInt = 0 := h2
      have hy : yTb u (xBe S.1 S.2.1 c.toInt 2).toNat = true := Classical.byContradiction (fun h9 => by
        rw [if_neg h9] at e
        rw [e] at h2
        exact absurd h2 (by decide))
      refine zw_s (pc' := 112) rfl rfl ?_
      refine zw_s (pc' := 116) rfl rfl ?_
      refine zw_ri rfl rfl ?_
      exact x_rv (if_pos (Or.inr hy)).symm

theorem xr_v3 {L : Nat} {σ : Nat → Int32} {d : Nat} {H : zp_H} {S : xSea} {c h : Int32} {u : Int64} (W : zw_W H) (hS : xOk S) (hR : xSR H S) (hc : xIn S c.toInt) : zp_Call L σ (d + 2) 234 [.inr (.inr (some 73)), .inl (Int32.ofInt 3), .inl c, .inl h, .inr (.inl u)] H (.inl (some (.inl (xVl S c h u 3))), H) := by
  have h64 := xIn_64 hS hc
  have hw : (H.2.1 72 1).toInt = S.1 := hR.1
  have hs1 := hS.1
  have w0 : H.2.1 72 1 ≠ 0 := fun h9 => by
    have : (H.2.1 72 1).toInt = 0 := congrArg Int32.toInt h9
    omega
  refine zw_ex (zw_met zm_234_t rfl rfl ?_)
  refine zw_ld (n := 1) (k := 1) (f := zp_isI) (pc' := 1) rfl rfl rfl rfl rfl ?_
  refine zw_s (pc' := 85) rfl rfl ?_
  have q := xr_be (L := L) (σ := σ) (d := d) (H := H) (c := c) (k := Int32.ofInt 3) W hS hR hc
  rw [show (Int32.ofInt 3).toInt = 3 by decide] at q
  have hb := xBe_64 (c := c.toInt) (d := 3) hS
  have eb : (Int32.ofInt (xBe S.1 S.2.1 c.toInt 3)).toInt = (xBe S.1 S.2.1 c.toInt 3) := x_of (by omega) (by omega)
  refine zw_ld (n := 1) (k := 0) (f := zp_isR) (pc' := 86) rfl rfl rfl rfl rfl ?_
  refine zw_ld (n := 1) (k := 2) (f := zp_isI) (pc' := 87) rfl rfl rfl rfl rfl ?_
  refine zw_ld (n := 1) (k := 1) (f := zp_isI) (pc' := 88) rfl rfl rfl rfl rfl ?_
  refine zw_c (pc' := 91) (zw_cv (q := 72) (Y := zm_222) W.1 rfl rfl zm_222_t rfl rfl) rfl rfl rfl rfl rfl (q) ?_
  refine zw_st (n := 2) (k := 6) (f := zp_isI) (pc' := 93) rfl rfl rfl rfl rfl ?_
  refine zw_ld (n := 2) (k := 6) (f := zp_isI) (pc' := 95) rfl rfl zw_g1 rfl rfl ?_
  refine zw_s (pc' := 96) rfl rfl ?_
  refine zw_beq2 (g := 111) (pc' := 99) rfl rfl rfl rfl (rfl : _ = (-1 : Int)) (fun h1 => ?_) (fun h1 => ?_)
  · refine zw_s (pc' := 112) rfl rfl ?_
    refine zw_s (pc' := 116) rfl rfl ?_
    refine zw_ri rfl rfl ?_
    exact x_rv (if_pos (Or.inl (eb.symm.trans h1))).symm
  · have h1 : ¬ (Int32.ofInt (xBe S.1 S.2.1 c.toInt 3)).toInt = -1 := h1
    have h6 : 0 ≤ (Int32.ofInt (xBe S.1 S.2.1 c.toInt 3)).toInt ∧ (Int32.ofInt (xBe S.1 S.2.1 c.toInt 3)).toInt ≤ 63 := by omega
    have e := y_shv (r := u) h6
    rw [eb] at e
    refine zw_ld (n := 2) (k := 4) (f := zp_isL) (pc' := 101) rfl rfl (zw_gt rfl rfl rfl) rfl rfl ?_
    refine zw_ld (n := 2) (k := 6) (f := zp_isI) (pc' := 103) rfl rfl zw_g1 rfl rfl ?_
    refine zw_lshr (pc' := 104) rfl rfl ?_
    refine zw_s (pc' := 105) rfl rfl ?_
    refine zw_land (pc' := 106) rfl rfl ?_
    refine zw_s (pc' := 107) rfl rfl ?_
    refine zw_s (pc' := 108) rfl rfl ?_
    refine zw_bne1 (g := 115) (pc' := 111) rfl rfl rfl rfl (fun h2 => ?_) (fun h2 => ?_)
    · have h2 : ¬ (lg_cmp (za_shr0 u (Int32.ofInt (xBe S.1 S.2.1 c.toInt 3)) &&& Int64.ofNat 1) (Int64.ofNat 1)).toInt = 0 := h2
      have hn : ¬ yTb u (xBe S.1 S.2.1 c.toInt 3).toNat = true := fun h9 => by
        rw [if_pos h9] at e
        rw [e] at h2
        exact absurd (by decide) h2
      refine zw_s (pc' := 116) rfl rfl ?_
      refine zw_ri rfl rfl ?_
      exact x_rv (if_neg (fun h9 => h9.elim (fun h8 => h1 (eb.trans h8)) hn)).symm
    · have h2 : (lg_cmp (za_shr0 u (Int32.ofInt (xBe S.1 S.2.1 c.toInt 3)) &&& Int64.ofNat 1) (Int64.ofNat 1)).toInt = 0 := h2
      have hy : yTb u (xBe S.1 S.2.1 c.toInt 3).toNat = true := Classical.byContradiction (fun h9 => by
        rw [if_neg h9] at e
        rw [e] at h2
        exact absurd h2 (by decide))
      refine zw_s (pc' := 112) rfl rfl ?_
      refine zw_s (pc' := 116) rfl rfl ?_
      refine zw_ri rfl rfl ?_
      exact x_rv (if_pos (Or.inr hy)).symm

theorem xr_v4 {L : Nat} {σ : Nat → Int32} {d : Nat} {H : zp_H} {S : xSea} {c h : Int32} {u : Int64} (W : zw_W H) (hS : xOk S) (hR : xSR H S) (hc : xIn S c.toInt) : zp_Call L σ (d + 2) 234 [.inr (.inr (some 73)), .inl (Int32.ofInt 4), .inl c, .inl h, .inr (.inl u)] H (.inl (some (.inl (xVl S c h u 4))), H) := by
  have h64 := xIn_64 hS hc
  have hw : (H.2.1 72 1).toInt = S.1 := hR.1
  have hs1 := hS.1
  have w0 : H.2.1 72 1 ≠ 0 := fun h9 => by
    have : (H.2.1 72 1).toInt = 0 := congrArg Int32.toInt h9
    omega
  refine zw_ex (zw_met zm_234_t rfl rfl ?_)
  refine zw_ld (n := 1) (k := 1) (f := zp_isI) (pc' := 1) rfl rfl rfl rfl rfl ?_
  refine zw_s (pc' := 32) rfl rfl ?_
  refine zw_ld (n := 1) (k := 2) (f := zp_isI) (pc' := 33) rfl rfl rfl rfl rfl ?_
  refine zw_ld (n := 1) (k := 0) (f := zp_isR) (pc' := 34) rfl rfl rfl rfl rfl ?_
  refine zw_gI (q := 72) (pc' := 37) W rfl rfl rfl rfl rfl rfl ?_
  refine zw_rem (pc' := 38) rfl (w0) rfl ?_
  refine zw_ri rfl rfl ?_
  exact x_rv (Int32.toInt_inj.mp ((x_rem h64.1 (by omega)).trans (by rw [hw]; exact (x_of (by have := Int.emod_nonneg c.toInt (show S.1 ≠ 0 by omega); omega) (by have := x_mle (w := S.1) h64.1 (by omega); omega)).symm)))

theorem xr_v5 {L : Nat} {σ : Nat → Int32} {d : Nat} {H : zp_H} {S : xSea} {c h : Int32} {u : Int64} (W : zw_W H) (hS : xOk S) (hR : xSR H S) (hc : xIn S c.toInt) : zp_Call L σ (d + 2) 234 [.inr (.inr (some 73)), .inl (Int32.ofInt 5), .inl c, .inl h, .inr (.inl u)] H (.inl (some (.inl (xVl S c h u 5))), H) := by
  have h64 := xIn_64 hS hc
  have hw : (H.2.1 72 1).toInt = S.1 := hR.1
  have hs1 := hS.1
  have w0 : H.2.1 72 1 ≠ 0 := fun h9 => by
    have : (H.2.1 72 1).toInt = 0 := congrArg Int32.toInt h9
    omega
  refine zw_ex (zw_met zm_234_t rfl rfl ?_)
  refine zw_ld (n := 1) (k := 1) (f := zp_isI) (pc' := 1) rfl rfl rfl rfl rfl ?_
  refine zw_s (pc' := 39) rfl rfl ?_
  refine zw_ld (n := 1) (k := 2) (f := zp_isI) (pc' := 40) rfl rfl rfl rfl rfl ?_
  refine zw_ld (n := 1) (k := 0) (f := zp_isR) (pc' := 41) rfl rfl rfl rfl rfl ?_
  refine zw_gI (q := 72) (pc' := 44) W rfl rfl rfl rfl rfl rfl ?_
  refine zw_div (pc' := 45) rfl (w0) rfl ?_
  refine zw_ri rfl rfl ?_
  exact x_rv (Int32.toInt_inj.mp ((x_div h64.1 (by omega)).trans (by rw [hw]; exact (x_of (by have := Int.ediv_nonneg h64.1 (show 0 ≤ S.1 by omega); omega) (by have := Int.ediv_le_self S.1 h64.1; omega)).symm)))

theorem xr_v6 {L : Nat} {σ : Nat → Int32} {d : Nat} {H : zp_H} {S : xSea} {c h : Int32} {u : Int64} (W : zw_W H) (hS : xOk S) (hR : xSR H S) (hc : xIn S c.toInt) : zp_Call L σ (d + 2) 234 [.inr (.inr (some 73)), .inl (Int32.ofInt 6), .inl c, .inl h, .inr (.inl u)] H (.inl (some (.inl (xVl S c h u 6))), H) := by
  have h64 := xIn_64 hS hc
  have hw : (H.2.1 72 1).toInt = S.1 := hR.1
  have hs1 := hS.1
  have w0 : H.2.1 72 1 ≠ 0 := fun h9 => by
    have : (H.2.1 72 1).toInt = 0 := congrArg Int32.toInt h9
    omega
  refine zw_ex (zw_met zm_234_t rfl rfl ?_)
  refine zw_ld (n := 1) (k := 1) (f := zp_isI) (pc' := 1) rfl rfl rfl rfl rfl ?_
  refine zw_s (pc' := 46) rfl rfl ?_
  refine zw_ld (n := 1) (k := 3) (f := zp_isI) (pc' := 47) rfl rfl rfl rfl rfl ?_
  refine zw_ri rfl rfl ?_
  rfl

theorem xr_v7 {L : Nat} {σ : Nat → Int32} {d : Nat} {H : zp_H} {S : xSea} {c h : Int32} {u : Int64} (W : zw_W H) (hS : xOk S) (hR : xSR H S) (hc : xIn S c.toInt) : zp_Call L σ (d + 2) 234 [.inr (.inr (some 73)), .inl (Int32.ofInt 7), .inl c, .inl h, .inr (.inl u)] H (.inl (some (.inl (xVl S c h u 7))), H) := by
  have h64 := xIn_64 hS hc
  have hw : (H.2.1 72 1).toInt = S.1 := hR.1
  have hs1 := hS.1
  have w0 : H.2.1 72 1 ≠ 0 := fun h9 => by
    have : (H.2.1 72 1).toInt = 0 := congrArg Int32.toInt h9
    omega
  refine zw_ex (zw_met zm_234_t rfl rfl ?_)
  refine zw_ld (n := 1) (k := 1) (f := zp_isI) (pc' := 1) rfl rfl rfl rfl rfl ?_
  refine zw_s (pc' := 48) rfl rfl ?_
  refine zw_ld (n := 1) (k := 3) (f := zp_isI) (pc' := 49) rfl rfl rfl rfl rfl ?_
  refine zw_s (pc' := 50) rfl rfl ?_
  refine zw_rem (pc' := 51) rfl (by decide) rfl ?_
  have hcu : (H.2.1 73 c.toInt.toNat).toInt = S.2.2.2 c.toInt.toNat := hR.2.2.2 _ (by omega)
  have q := xr_be (L := L) (σ := σ) (d := d) (H := H) (c := c) (k := H.2.1 73 c.toInt.toNat) W hS hR hc
  rw [hcu] at q
  refine zw_bne1 (g := 83) (pc' := 54) rfl rfl rfl rfl (fun h1 => ?_) (fun h1 => ?_)
  · refine zw_s (pc' := 84) rfl rfl ?_
    refine zw_ri rfl rfl ?_
    exact x_rv (if_pos (show xDr S c.toInt h.toInt true = -1 from if_neg (fun h9 => h1 (x_od.mpr h9.2.1)))).symm
  · refine zw_ld (n := 1) (k := 0) (f := zp_isR) (pc' := 55) rfl rfl rfl rfl rfl ?_
    refine zw_gR (q := 72) (pc' := 58) W rfl rfl rfl rfl (W.2 72 13 _ rfl) rfl ?_
    refine zw_ld (n := 1) (k := 2) (f := zp_isI) (pc' := 59) rfl rfl rfl rfl rfl ?_
    refine zw_ia (q := 73) (pc' := 60) W rfl rfl (by decide) (⟨h64.1, by show _ < ((64 : Nat) : Int); omega⟩) rfl rfl ?_
    refine zw_s (pc' := 61) rfl rfl ?_
    refine zw_beq2 (g := 83) (pc' := 64) rfl rfl rfl rfl (rfl : _ = (-1 : Int)) (fun h2 => ?_) (fun h2 => ?_)
    · refine zw_s (pc' := 84) rfl rfl ?_
      refine zw_ri rfl rfl ?_
      exact x_rv (if_pos (show xDr S c.toInt h.toInt true = -1 from if_neg (fun h9 => h9.2.2 (hcu.symm.trans h2)))).symm
    · have ed : xDr S c.toInt h.toInt true = xBe S.1 S.2.1 c.toInt (S.2.2.2 c.toInt.toNat) := if_pos ⟨rfl, x_od.mp h1, fun h9 => h2 (hcu.trans h9)⟩
      have hb := xBe_64 (c := c.toInt) (d := S.2.2.2 c.toInt.toNat) hS
      have eb : (Int32.ofInt (xBe S.1 S.2.1 c.toInt (S.2.2.2 c.toInt.toNat))).toInt = xBe S.1 S.2.1 c.toInt (S.2.2.2 c.toInt.toNat) := x_of (by omega) (by omega)
      refine zw_ld (n := 1) (k := 0) (f := zp_isR) (pc' := 65) rfl rfl rfl rfl rfl ?_
      refine zw_ld (n := 1) (k := 2) (f := zp_isI) (pc' := 66) rfl rfl rfl rfl rfl ?_
      refine zw_ld (n := 1) (k := 0) (f := zp_isR) (pc' := 67) rfl rfl rfl rfl rfl ?_
      refine zw_gR (q := 72) (pc' := 70) W rfl rfl rfl rfl (W.2 72 13 _ rfl) rfl ?_
      refine zw_ld (n := 1) (k := 2) (f := zp_isI) (pc' := 71) rfl rfl rfl rfl rfl ?_
      refine zw_ia (q := 73) (pc' := 72) W rfl rfl (by decide) (⟨h64.1, by show _ < ((64 : Nat) : Int); omega⟩) rfl rfl ?_
      refine zw_c (pc' := 75) (zw_cv (q := 72) (Y := zm_222) W.1 rfl rfl zm_222_t rfl rfl) rfl rfl rfl rfl rfl (q) ?_
      refine zw_s (pc' := 76) rfl rfl ?_
      refine zw_beq2 (g := 83) (pc' := 79) rfl rfl rfl rfl (rfl : _ = (-1 : Int)) (fun h3 => ?_) (fun h3 => ?_)
      · refine zw_s (pc' := 84) rfl rfl ?_
        refine zw_ri rfl rfl ?_
        exact x_rv (if_pos (show xDr S c.toInt h.toInt true = -1 from ed.trans (eb.symm.trans h3))).symm
      · refine zw_s (pc' := 80) rfl rfl ?_
        refine zw_s (pc' := 84) rfl rfl ?_
        refine zw_ri rfl rfl ?_
        exact x_rv (if_neg (fun h9 => h3 (eb.trans (ed.symm.trans h9)))).symm

theorem xr_va {L : Nat} {σ : Nat → Int32} {d : Nat} {H : zp_H} {S : xSea} {c h : Int32} {u : Int64} (W : zw_W H) (hS : xOk S) (hR : xSR H S) (hc : xIn S c.toInt) {k : Nat} (hk : k < 8) {y : Int32} (hy : y.toInt = (k : Int)) : zp_Call L σ (d + 2) 234 [.inr (.inr (some 73)), .inl y, .inl c, .inl h, .inr (.inl u)] H (.inl (some (.inl (xVl S c h u k))), H) := by
  rcases (show k = 0 ∨ k = 1 ∨ k = 2 ∨ k = 3 ∨ k = 4 ∨ k = 5 ∨ k = 6 ∨ k = 7 by omega) with rfl | rfl | rfl | rfl | rfl | rfl | rfl | rfl
  · obtain rfl : y = Int32.ofInt 0 := Int32.toInt_inj.mp (hy.trans (by decide))
    exact xr_v0 W hS hR hc
  · obtain rfl : y = Int32.ofInt 1 := Int32.toInt_inj.mp (hy.trans (by decide))
    exact xr_v1 W hS hR hc
  · obtain rfl : y = Int32.ofInt 2 := Int32.toInt_inj.mp (hy.trans (by decide))
    exact xr_v2 W hS hR hc
  · obtain rfl : y = Int32.ofInt 3 := Int32.toInt_inj.mp (hy.trans (by decide))
    exact xr_v3 W hS hR hc
  · obtain rfl : y = Int32.ofInt 4 := Int32.toInt_inj.mp (hy.trans (by decide))
    exact xr_v4 W hS hR hc
  · obtain rfl : y = Int32.ofInt 5 := Int32.toInt_inj.mp (hy.trans (by decide))
    exact xr_v5 W hS hR hc
  · obtain rfl : y = Int32.ofInt 6 := Int32.toInt_inj.mp (hy.trans (by decide))
    exact xr_v6 W hS hR hc
  · obtain rfl : y = Int32.ofInt 7 := Int32.toInt_inj.mp (hy.trans (by decide))
    exact xr_v7 W hS hR hc
theorem xSR_97 {H H1 : zp_H} {S : xSea} (h : xFv 97 H H1) (hR : xSR H S) : xSR H1 S := ⟨(congrArg Int32.toInt (h.2.2.1 72 1 (by decide))).trans hR.1, (congrArg Int32.toInt (h.2.2.1 72 2 (by decide))).trans hR.2.1, (h.2.2.2 72 12 (by decide)).trans hR.2.2.1, fun k hk => (congrArg Int32.toInt (h.2.2.1 73 k (by decide))).trans (hR.2.2.2 k hk)⟩
theorem xR2_i {i : xIt} {C : List xIt} (h : i.1 < 2) : xR2 (i :: C) ++ [0] = ((i.1 : Int) + 1) :: i.2 :: (xR2 C ++ [0]) := by
  show ((if i.1 < 2 then [(i.1 : Int) + 1, i.2] else [(i.1 : Int)]) ++ xR2 C) ++ [0] = _
  rw [if_pos h]
  rfl
theorem xR2_j {i : xIt} {C : List xIt} (h : ¬ i.1 < 2) : xR2 (i :: C) ++ [0] = (i.1 : Int) :: (xR2 C ++ [0]) := by
  show ((if i.1 < 2 then [(i.1 : Int) + 1, i.2] else [(i.1 : Int)]) ++ xR2 C) ++ [0] = _
  rw [if_neg h]
  rfl
theorem xq_ps {H : zp_H} {x m : Int32} {S : List Int32} (hm : m.toInt = (S.length : Int)) (hk : xSk (H.2.1 97) S) : xSk ((zw_I H 97 m.toInt.toNat x).2.1 97) (x :: S) := ⟨by
  rw [show S.length = m.toInt.toNat by omega]
  exact zw_eq, xSk_c (fun i hi => y_ne (fun h9 => by have := h9.2; omega)) hk⟩

theorem x_m1 {m : Int32} : m + Int32.ofInt (-1) = m - Int32.ofInt 1 := by
  rw [Int32.sub_eq_add_neg, show -(Int32.ofInt 1) = Int32.ofInt (-1) from Int32.toInt_inj.mp (by decide)]
theorem xr_reL {L : Nat} {σ : Nat → Int32} {d : Nat} {P : zp_X → Prop} {S : xSea} {c h v : Int32} {u : Int64} {H0 : zp_H} (hS : xOk S) (hR : xSR H0 S) (hc : xIn S c.toInt) : ∀ (C : List xIt) (T : List Int32) (H : zp_H) (lv : zp_LV) (m k : Int32), zw_W H → xFv 97 H0 H → 0 ≤ k.toInt → xRo (H0.2.1 80) k.toInt.toNat (xR2 C ++ [0]) → k.toInt + ((xR2 C ++ [0]).length : Int) ≤ 1600 → m.toInt = (T.length : Int) → xSk (H.2.1 97) T → xWf 64 C T.length → T.length ≤ 64 → xEv (xVl S c h u) C T = [v] → zp_get lv 0 = some (.inr (.inr (some 73))) → zp_get lv 2 = some (.inl c) → zp_get lv 3 = some (.inl h) → zp_get lv 4 = some (.inr (.inl u)) → zp_get lv 6 = some (.inl m) → zp_get lv 7 = some (.inl k) → (∀ H1, zw_W H1 → xFv 97 H0 H1 → P (.inl (some (.inl v)), H1)) → zs_Safe L σ P zm_233 [] (d + 2) (6, lv, [], H, (0, 0)) := by
  intro C
  induction C with
  | nil =>
    intro T H lv m k W hF h5 hM hl hm hk hw hl64 hv l0 l2 l3 l4 l6 l7 hP
    have hl : k.toInt + ((1 : Nat) : Int) ≤ 1600 := hl
    have f80 : ∀ j, H.2.1 80 j = H0.2.1 80 j := fun j => hF.2.2.1 80 j (by decide)
    refine zw_ld (n := 1) (k := 0) (f := zp_isR) (pc' := 7) rfl rfl l0 rfl rfl ?_
    refine zw_gR (q := 72) (pc' := 10) W rfl rfl rfl rfl (W.2 72 20 _ rfl) rfl ?_
    refine zw_ld (n := 2) (k := 7) (f := zp_isI) (pc' := 12) rfl rfl l7 rfl rfl ?_
    refine zw_ia (q := 80) (pc' := 13) W rfl rfl (by decide) (⟨h5, by show _ < ((1600 : Nat) : Int); omega⟩) rfl rfl ?_
    have hz : (H.2.1 80 k.toInt.toNat).toInt = 0 := by
      rw [f80]
      exact hM.1
    refine zw_beq1 (g := 158) (pc' := 16) rfl rfl rfl rfl (fun h1 => ?_) (fun h1 => ?_)
    · refine zw_ld (n := 1) (k := 0) (f := zp_isR) (pc' := 159) rfl rfl l0 rfl rfl ?_
      refine zw_gR (q := 72) (pc' := 162) W rfl rfl rfl rfl (W.2 72 75 _ rfl) rfl ?_
      refine zw_s (pc' := 163) rfl rfl ?_
      refine zw_ia (q := 97) (pc' := 164) W rfl rfl (by decide) (⟨by decide, by decide⟩) rfl rfl ?_
      refine zw_ri rfl rfl ?_
      rw [show (Int32.ofInt 0).toInt.toNat = 0 by decide]
      have e : xEv (xVl S c h u) [] T = T := rfl
      rw [e] at hv
      subst hv
      have e0 : H.2.1 97 0 = v := hk.1
      rw [e0]
      exact hP H W hF
    · exact absurd hz h1
  | cons it C ih =>
    intro T H lv m k W hF h5 hM hl hm hk hw hl64 hv l0 l2 l3 l4 l6 l7 hP
    have hlen : 1 ≤ (xR2 (it :: C) ++ [0]).length := by
      rw [List.length_append]
      exact Nat.le_add_left 1 _
    have hw : (if it.1 < 2 then ((T.length : Int) + 1 ≤ 64 ∧ 0 ≤ it.2 ∧ it.2 ≤ 9999 ∧ (it.1 = 1 → it.2 < 8)) ∧ xWf 64 C ((T.length : Int) + 1) else if it.1 = 3 then 1 ≤ (T.length : Int) ∧ xWf 64 C T.length else (2 ≤ (T.length : Int) ∧ 3 < it.1 ∧ it.1 < 12) ∧ xWf 64 C ((T.length : Int) - 1)) := hw
    by_cases k0 : it.1 = 0
    · rw [if_pos (show it.1 < 2 by rw [k0]; decide)] at hw
      obtain ⟨⟨hw1, hw2, hw3, -⟩, hw5⟩ := hw
      have f80 : ∀ j, H.2.1 80 j = H0.2.1 80 j := fun j => hF.2.2.1 80 j (by decide)
      refine zw_ld (n := 1) (k := 0) (f := zp_isR) (pc' := 7) rfl rfl l0 rfl rfl ?_
      refine zw_gR (q := 72) (pc' := 10) W rfl rfl rfl rfl (W.2 72 20 _ rfl) rfl ?_
      refine zw_ld (n := 2) (k := 7) (f := zp_isI) (pc' := 12) rfl rfl l7 rfl rfl ?_
      refine zw_ia (q := 80) (pc' := 13) W rfl rfl (by decide) (⟨h5, by show _ < ((1600 : Nat) : Int); omega⟩) rfl rfl ?_
      rw [xR2_i (by omega)] at hM hl
      obtain ⟨hM1, hM2, hM3⟩ := hM
      have hz : (H.2.1 80 k.toInt.toNat).toInt = ((it.1 : Nat) : Int) + 1 := by
        rw [f80]
        exact hM1
      have ek : (k + Int32.ofInt 1).toInt = k.toInt + 1 := zw_p1 (by omega)
      have hl : k.toInt + (((xR2 C ++ [0]).length + 1 + 1 : Nat) : Int) ≤ 1600 := hl
      have ekk : (k + Int32.ofInt 1 + Int32.ofInt 1).toInt = k.toInt + 2 := by rw [zw_p1 (by omega)]; omega
      have em : (m + Int32.ofInt 1).toInt = m.toInt + 1 := zw_p1 (by omega)
      have hz2 : (H.2.1 80 (k + Int32.ofInt 1).toInt.toNat).toInt = it.2 := by
        rw [f80, show (k + Int32.ofInt 1).toInt.toNat = k.toInt.toNat + 1 by omega]
        exact hM2
      refine zw_beq1 (g := 158) (pc' := 16) rfl rfl rfl rfl (fun h1 => ?_) (fun h1 => ?_)
      · have h1 : (H.2.1 80 k.toInt.toNat).toInt = 0 := h1
        omega
      · refine zw_ld (n := 1) (k := 0) (f := zp_isR) (pc' := 17) rfl rfl l0 rfl rfl ?_
        refine zw_gR (q := 72) (pc' := 20) W rfl rfl rfl rfl (W.2 72 20 _ rfl) rfl ?_
        refine zw_ld (n := 2) (k := 7) (f := zp_isI) (pc' := 22) rfl rfl l7 rfl rfl ?_
        refine zw_ia (q := 80) (pc' := 23) W rfl rfl (by decide) (⟨h5, by show _ < ((1600 : Nat) : Int); omega⟩) rfl rfl ?_
        refine zw_st (n := 2) (k := 8) (f := zp_isI) (pc' := 25) rfl rfl rfl rfl rfl ?_
        refine zw_ii (pc' := 28) rfl (zw_gt l7 rfl rfl) rfl rfl ?_
        refine zw_ld (n := 2) (k := 8) (f := zp_isI) (pc' := 30) rfl rfl (zw_gt zw_g1 rfl rfl) rfl rfl ?_
        refine zw_s (pc' := 31) rfl rfl ?_
        refine zw_beq2 (g := 40) (pc' := 34) rfl rfl rfl rfl (rfl : _ = (1 : Int)) (fun h2 => ?_) (fun h2 => ?_)
        · refine zw_ld (n := 1) (k := 0) (f := zp_isR) (pc' := 41) rfl rfl (zw_gt (zw_gt l0 rfl rfl) rfl rfl) rfl rfl ?_
          refine zw_gR (q := 72) (pc' := 44) W rfl rfl rfl rfl (W.2 72 75 _ rfl) rfl ?_
          refine zw_ld (n := 2) (k := 6) (f := zp_isI) (pc' := 46) rfl rfl (zw_gt (zw_gt l6 rfl rfl) rfl rfl) rfl rfl ?_
          refine zw_ld (n := 2) (k := 8) (f := zp_isI) (pc' := 48) rfl rfl (zw_gt zw_g1 rfl rfl) rfl rfl ?_
          refine zw_s (pc' := 49) rfl rfl ?_
          refine zw_bne2 (g := 62) (pc' := 52) rfl rfl rfl rfl (rfl : _ = (1 : Int)) (fun h4 => ?_) (fun h4 => ?_)
          · have h4 : ¬ (H.2.1 80 k.toInt.toNat).toInt = (1 : Int) := h4
            omega
          · have ev : H.2.1 80 (k + Int32.ofInt 1).toInt.toNat = Int32.ofInt it.2 := Int32.toInt_inj.mp (by rw [hz2, x_of (by omega) (by omega)])
            refine zw_ld (n := 1) (k := 0) (f := zp_isR) (pc' := 53) rfl rfl (zw_gt (zw_gt l0 rfl rfl) rfl rfl) rfl rfl ?_
            refine zw_gR (q := 72) (pc' := 56) W rfl rfl rfl rfl (W.2 72 20 _ rfl) rfl ?_
            refine zw_ld (n := 2) (k := 7) (f := zp_isI) (pc' := 58) rfl rfl zw_g1 rfl rfl ?_
            refine zw_ia (q := 80) (pc' := 59) W rfl rfl (by decide) (⟨by omega, by show _ < ((1600 : Nat) : Int); omega⟩) rfl rfl ?_
            rw [ev]
            refine zw_s (pc' := 77) rfl rfl ?_
            refine zw_is (q := 97) (pc' := 78) W rfl rfl (by decide) (⟨by omega, by show _ < ((800 : Nat) : Int); omega⟩) rfl ?_
            refine zw_ii (pc' := 81) rfl zw_g1 rfl rfl ?_
            refine zw_ii (pc' := 84) rfl (zw_gt (zw_gt (zw_gt l6 rfl rfl) rfl rfl) rfl rfl) rfl rfl ?_
            refine zw_s (pc' := 155) rfl rfl ?_
            refine zw_s (pc' := 6) rfl rfl ?_
            refine ih (Int32.ofInt it.2 :: T) _ _ (m + Int32.ofInt 1) (k + Int32.ofInt 1 + Int32.ofInt 1) (zw_W_I W) (xFv_I hF) (by omega) ?_ ?_ ?_ (xq_ps hm hk) ?_ ?_ ?_ (zw_gt (zw_gt (zw_gt (zw_gt l0 rfl rfl) rfl rfl) rfl rfl) rfl rfl) (zw_gt (zw_gt (zw_gt (zw_gt l2 rfl rfl) rfl rfl) rfl rfl) rfl rfl) (zw_gt (zw_gt (zw_gt (zw_gt l3 rfl rfl) rfl rfl) rfl rfl) rfl rfl) (zw_gt (zw_gt (zw_gt (zw_gt l4 rfl rfl) rfl rfl) rfl rfl) rfl rfl) zw_g1 (zw_gt zw_g1 rfl rfl) hP
            · rw [show (k + Int32.ofInt 1 + Int32.ofInt 1).toInt.toNat = k.toInt.toNat + 1 + 1 by omega]
              exact hM3
            · omega
            · show (m + Int32.ofInt 1).toInt = ((T.length + 1 : Nat) : Int)
              omega
            · have e : ((Int32.ofInt it.2 :: T).length : Int) = (T.length : Int) + 1 := by
                show ((T.length + 1 : Nat) : Int) = _
                omega
              rw [e]
              exact hw5
            · show T.length + 1 ≤ 64
              omega
            · rw [← xEv_0 k0]
              exact hv
        · have h2 : ¬ (H.2.1 80 k.toInt.toNat).toInt = (1 : Int) := h2
          omega
    by_cases k1 : it.1 = 1
    · rw [if_pos (show it.1 < 2 by rw [k1]; decide)] at hw
      obtain ⟨⟨hw1, hw2, hw3, hw4⟩, hw5⟩ := hw
      replace hw4 := hw4 k1
      have f80 : ∀ j, H.2.1 80 j = H0.2.1 80 j := fun j => hF.2.2.1 80 j (by decide)
      refine zw_ld (n := 1) (k := 0) (f := zp_isR) (pc' := 7) rfl rfl l0 rfl rfl ?_
      refine zw_gR (q := 72) (pc' := 10) W rfl rfl rfl rfl (W.2 72 20 _ rfl) rfl ?_
      refine zw_ld (n := 2) (k := 7) (f := zp_isI) (pc' := 12) rfl rfl l7 rfl rfl ?_
      refine zw_ia (q := 80) (pc' := 13) W rfl rfl (by decide) (⟨h5, by show _ < ((1600 : Nat) : Int); omega⟩) rfl rfl ?_
      rw [xR2_i (by omega)] at hM hl
      obtain ⟨hM1, hM2, hM3⟩ := hM
      have hz : (H.2.1 80 k.toInt.toNat).toInt = ((it.1 : Nat) : Int) + 1 := by
        rw [f80]
        exact hM1
      have ek : (k + Int32.ofInt 1).toInt = k.toInt + 1 := zw_p1 (by omega)
      have hl : k.toInt + (((xR2 C ++ [0]).length + 1 + 1 : Nat) : Int) ≤ 1600 := hl
      have ekk : (k + Int32.ofInt 1 + Int32.ofInt 1).toInt = k.toInt + 2 := by rw [zw_p1 (by omega)]; omega
      have em : (m + Int32.ofInt 1).toInt = m.toInt + 1 := zw_p1 (by omega)
      have hz2 : (H.2.1 80 (k + Int32.ofInt 1).toInt.toNat).toInt = it.2 := by
        rw [f80, show (k + Int32.ofInt 1).toInt.toNat = k.toInt.toNat + 1 by omega]
        exact hM2
      refine zw_beq1 (g := 158) (pc' := 16) rfl rfl rfl rfl (fun h1 => ?_) (fun h1 => ?_)
      · have h1 : (H.2.1 80 k.toInt.toNat).toInt = 0 := h1
        omega
      · refine zw_ld (n := 1) (k := 0) (f := zp_isR) (pc' := 17) rfl rfl l0 rfl rfl ?_
        refine zw_gR (q := 72) (pc' := 20) W rfl rfl rfl rfl (W.2 72 20 _ rfl) rfl ?_
        refine zw_ld (n := 2) (k := 7) (f := zp_isI) (pc' := 22) rfl rfl l7 rfl rfl ?_
        refine zw_ia (q := 80) (pc' := 23) W rfl rfl (by decide) (⟨h5, by show _ < ((1600 : Nat) : Int); omega⟩) rfl rfl ?_
        refine zw_st (n := 2) (k := 8) (f := zp_isI) (pc' := 25) rfl rfl rfl rfl rfl ?_
        refine zw_ii (pc' := 28) rfl (zw_gt l7 rfl rfl) rfl rfl ?_
        refine zw_ld (n := 2) (k := 8) (f := zp_isI) (pc' := 30) rfl rfl (zw_gt zw_g1 rfl rfl) rfl rfl ?_
        refine zw_s (pc' := 31) rfl rfl ?_
        refine zw_beq2 (g := 40) (pc' := 34) rfl rfl rfl rfl (rfl : _ = (1 : Int)) (fun h2 => ?_) (fun h2 => ?_)
        · have h2 : (H.2.1 80 k.toInt.toNat).toInt = (1 : Int) := h2
          omega
        · refine zw_ld (n := 2) (k := 8) (f := zp_isI) (pc' := 36) rfl rfl (zw_gt zw_g1 rfl rfl) rfl rfl ?_
          refine zw_s (pc' := 37) rfl rfl ?_
          refine zw_bne2 (g := 87) (pc' := 40) rfl rfl rfl rfl (rfl : _ = (2 : Int)) (fun h3 => ?_) (fun h3 => ?_)
          · have h3 : ¬ (H.2.1 80 k.toInt.toNat).toInt = (2 : Int) := h3
            omega
          · refine zw_ld (n := 1) (k := 0) (f := zp_isR) (pc' := 41) rfl rfl (zw_gt (zw_gt l0 rfl rfl) rfl rfl) rfl rfl ?_
            refine zw_gR (q := 72) (pc' := 44) W rfl rfl rfl rfl (W.2 72 75 _ rfl) rfl ?_
            refine zw_ld (n := 2) (k := 6) (f := zp_isI) (pc' := 46) rfl rfl (zw_gt (zw_gt l6 rfl rfl) rfl rfl) rfl rfl ?_
            refine zw_ld (n := 2) (k := 8) (f := zp_isI) (pc' := 48) rfl rfl (zw_gt zw_g1 rfl rfl) rfl rfl ?_
            refine zw_s (pc' := 49) rfl rfl ?_
            refine zw_bne2 (g := 62) (pc' := 52) rfl rfl rfl rfl (rfl : _ = (1 : Int)) (fun h4 => ?_) (fun h4 => ?_)
            · refine zw_ld (n := 1) (k := 0) (f := zp_isR) (pc' := 63) rfl rfl (zw_gt (zw_gt l0 rfl rfl) rfl rfl) rfl rfl ?_
              refine zw_ld (n := 1) (k := 0) (f := zp_isR) (pc' := 64) rfl rfl (zw_gt (zw_gt l0 rfl rfl) rfl rfl) rfl rfl ?_
              refine zw_gR (q := 72) (pc' := 67) W rfl rfl rfl rfl (W.2 72 20 _ rfl) rfl ?_
              refine zw_ld (n := 2) (k := 7) (f := zp_isI) (pc' := 69) rfl rfl zw_g1 rfl rfl ?_
              refine zw_ia (q := 80) (pc' := 70) W rfl rfl (by decide) (⟨by omega, by show _ < ((1600 : Nat) : Int); omega⟩) rfl rfl ?_
              have hi8 : it.2.toNat < 8 := by omega
              refine zw_ld (n := 1) (k := 2) (f := zp_isI) (pc' := 71) rfl rfl (zw_gt (zw_gt l2 rfl rfl) rfl rfl) rfl rfl ?_
              refine zw_ld (n := 1) (k := 3) (f := zp_isI) (pc' := 72) rfl rfl (zw_gt (zw_gt l3 rfl rfl) rfl rfl) rfl rfl ?_
              refine zw_ld (n := 2) (k := 4) (f := zp_isL) (pc' := 74) rfl rfl (zw_gt (zw_gt l4 rfl rfl) rfl rfl) rfl rfl ?_
              refine zw_c (pc' := 77) (zw_cv (q := 72) (Y := zm_234) W.1 rfl rfl zm_234_t rfl rfl) rfl rfl rfl rfl rfl (xr_va (d := d) W hS (xSR_97 hF hR) hc hi8 (by rw [hz2]; omega)) ?_
              refine zw_is (q := 97) (pc' := 78) W rfl rfl (by decide) (⟨by omega, by show _ < ((800 : Nat) : Int); omega⟩) rfl ?_
              refine zw_ii (pc' := 81) rfl zw_g1 rfl rfl ?_
              refine zw_ii (pc' := 84) rfl (zw_gt (zw_gt (zw_gt l6 rfl rfl) rfl rfl) rfl rfl) rfl rfl ?_
              refine zw_s (pc' := 155) rfl rfl ?_
              refine zw_s (pc' := 6) rfl rfl ?_
              refine ih (xVl S c h u it.2.toNat :: T) _ _ (m + Int32.ofInt 1) (k + Int32.ofInt 1 + Int32.ofInt 1) (zw_W_I W) (xFv_I hF) (by omega) ?_ ?_ ?_ (xq_ps hm hk) ?_ ?_ ?_ (zw_gt (zw_gt (zw_gt (zw_gt l0 rfl rfl) rfl rfl) rfl rfl) rfl rfl) (zw_gt (zw_gt (zw_gt (zw_gt l2 rfl rfl) rfl rfl) rfl rfl) rfl rfl) (zw_gt (zw_gt (zw_gt (zw_gt l3 rfl rfl) rfl rfl) rfl rfl) rfl rfl) (zw_gt (zw_gt (zw_gt (zw_gt l4 rfl rfl) rfl rfl) rfl rfl) rfl rfl) zw_g1 (zw_gt zw_g1 rfl rfl) hP
              · rw [show (k + Int32.ofInt 1 + Int32.ofInt 1).toInt.toNat = k.toInt.toNat + 1 + 1 by omega]
                exact hM3
              · omega
              · show (m + Int32.ofInt 1).toInt = ((T.length + 1 : Nat) : Int)
                omega
              · have e : ((xVl S c h u it.2.toNat :: T).length : Int) = (T.length : Int) + 1 := by
                  show ((T.length + 1 : Nat) : Int) = _
                  omega
                rw [e]
                exact hw5
              · show T.length + 1 ≤ 64
                omega
              · rw [← xEv_1 k1]
                exact hv
            · have h4 : (H.2.1 80 k.toInt.toNat).toInt = (1 : Int) := h4
              omega
    have k2 : ¬ it.1 < 2 := by
      clear hw
      omega
    rw [if_neg k2] at hw
    by_cases k3 : it.1 = 3
    · rw [if_pos k3] at hw
      match T, hm, hk, hw, hl64, hv with
      | x :: T, hm, hk, hw, hl64, hv =>
        have f80 : ∀ j, H.2.1 80 j = H0.2.1 80 j := fun j => hF.2.2.1 80 j (by decide)
        refine zw_ld (n := 1) (k := 0) (f := zp_isR) (pc' := 7) rfl rfl l0 rfl rfl ?_
        refine zw_gR (q := 72) (pc' := 10) W rfl rfl rfl rfl (W.2 72 20 _ rfl) rfl ?_
        refine zw_ld (n := 2) (k := 7) (f := zp_isI) (pc' := 12) rfl rfl l7 rfl rfl ?_
        refine zw_ia (q := 80) (pc' := 13) W rfl rfl (by decide) (⟨h5, by show _ < ((1600 : Nat) : Int); omega⟩) rfl rfl ?_
        rw [xR2_j (by omega)] at hM hl
        obtain ⟨hM1, hM2⟩ := hM
        have hz : (H.2.1 80 k.toInt.toNat).toInt = ((it.1 : Nat) : Int) := by
          rw [f80]
          exact hM1
        have ek : (k + Int32.ofInt 1).toInt = k.toInt + 1 := zw_p1 (by omega)
        have hl : k.toInt + (((xR2 C ++ [0]).length + 1 : Nat) : Int) ≤ 1600 := hl
        have hm : m.toInt = ((T.length + 1 : Nat) : Int) := hm
        have hl64 : T.length + 1 ≤ 64 := hl64
        have em : (m - Int32.ofInt 1).toInt = m.toInt - 1 := zw_m1 (by omega)
        have ex : H.2.1 97 (m - Int32.ofInt 1).toInt.toNat = x := by
          rw [show (m - Int32.ofInt 1).toInt.toNat = T.length by omega]
          exact hk.1
        refine zw_beq1 (g := 158) (pc' := 16) rfl rfl rfl rfl (fun h1 => ?_) (fun h1 => ?_)
        · have h1 : (H.2.1 80 k.toInt.toNat).toInt = 0 := h1
          omega
        · refine zw_ld (n := 1) (k := 0) (f := zp_isR) (pc' := 17) rfl rfl l0 rfl rfl ?_
          refine zw_gR (q := 72) (pc' := 20) W rfl rfl rfl rfl (W.2 72 20 _ rfl) rfl ?_
          refine zw_ld (n := 2) (k := 7) (f := zp_isI) (pc' := 22) rfl rfl l7 rfl rfl ?_
          refine zw_ia (q := 80) (pc' := 23) W rfl rfl (by decide) (⟨h5, by show _ < ((1600 : Nat) : Int); omega⟩) rfl rfl ?_
          refine zw_st (n := 2) (k := 8) (f := zp_isI) (pc' := 25) rfl rfl rfl rfl rfl ?_
          refine zw_ii (pc' := 28) rfl (zw_gt l7 rfl rfl) rfl rfl ?_
          refine zw_ld (n := 2) (k := 8) (f := zp_isI) (pc' := 30) rfl rfl (zw_gt zw_g1 rfl rfl) rfl rfl ?_
          refine zw_s (pc' := 31) rfl rfl ?_
          refine zw_beq2 (g := 40) (pc' := 34) rfl rfl rfl rfl (rfl : _ = (1 : Int)) (fun h2 => ?_) (fun h2 => ?_)
          · have h2 : (H.2.1 80 k.toInt.toNat).toInt = (1 : Int) := h2
            omega
          · refine zw_ld (n := 2) (k := 8) (f := zp_isI) (pc' := 36) rfl rfl (zw_gt zw_g1 rfl rfl) rfl rfl ?_
            refine zw_s (pc' := 37) rfl rfl ?_
            refine zw_bne2 (g := 87) (pc' := 40) rfl rfl rfl rfl (rfl : _ = (2 : Int)) (fun h3 => ?_) (fun h3 => ?_)
            · refine zw_ld (n := 2) (k := 8) (f := zp_isI) (pc' := 89) rfl rfl (zw_gt zw_g1 rfl rfl) rfl rfl ?_
              refine zw_s (pc' := 90) rfl rfl ?_
              refine zw_bne2 (g := 122) (pc' := 93) rfl rfl rfl rfl (rfl : _ = (3 : Int)) (fun h4 => ?_) (fun h4 => ?_)
              · have h4 : ¬ (H.2.1 80 k.toInt.toNat).toInt = (3 : Int) := h4
                omega
              · refine zw_ld (n := 1) (k := 0) (f := zp_isR) (pc' := 94) rfl rfl (zw_gt (zw_gt l0 rfl rfl) rfl rfl) rfl rfl ?_
                refine zw_gR (q := 72) (pc' := 97) W rfl rfl rfl rfl (W.2 72 75 _ rfl) rfl ?_
                refine zw_ld (n := 2) (k := 6) (f := zp_isI) (pc' := 99) rfl rfl (zw_gt (zw_gt l6 rfl rfl) rfl rfl) rfl rfl ?_
                refine zw_s (pc' := 100) rfl rfl ?_
                refine zw_isub (pc' := 101) rfl rfl ?_
                refine zw_ld (n := 1) (k := 0) (f := zp_isR) (pc' := 102) rfl rfl (zw_gt (zw_gt l0 rfl rfl) rfl rfl) rfl rfl ?_
                refine zw_gR (q := 72) (pc' := 105) W rfl rfl rfl rfl (W.2 72 75 _ rfl) rfl ?_
                refine zw_ld (n := 2) (k := 6) (f := zp_isI) (pc' := 107) rfl rfl (zw_gt (zw_gt l6 rfl rfl) rfl rfl) rfl rfl ?_
                refine zw_s (pc' := 108) rfl rfl ?_
                refine zw_isub (pc' := 109) rfl rfl ?_
                refine zw_ia (q := 97) (pc' := 110) W rfl rfl (by decide) (⟨by omega, by show _ < ((800 : Nat) : Int); omega⟩) rfl rfl ?_
                rw [ex]
                refine zw_bne1 (g := 117) (pc' := 113) rfl rfl rfl rfl (fun h5 => ?_) (fun h5 => ?_)
                · have e9 : (if x.toInt = 0 then Int32.ofInt 1 else Int32.ofInt 0) = Int32.ofInt 0 := if_neg h5
                  refine zw_s (pc' := 118) rfl rfl ?_
                  refine zw_is (q := 97) (pc' := 119) W rfl rfl (by decide) (⟨by omega, by show _ < ((800 : Nat) : Int); omega⟩) rfl ?_
                  refine zw_s (pc' := 155) rfl rfl ?_
                  refine zw_s (pc' := 6) rfl rfl ?_
                  refine ih (Int32.ofInt 0 :: T) _ _ m (k + Int32.ofInt 1) (zw_W_I W) (xFv_I hF) (by omega) ?_ ?_ ?_ (xq_ps (by omega) hk.2) ?_ ?_ ?_ (zw_gt (zw_gt l0 rfl rfl) rfl rfl) (zw_gt (zw_gt l2 rfl rfl) rfl rfl) (zw_gt (zw_gt l3 rfl rfl) rfl rfl) (zw_gt (zw_gt l4 rfl rfl) rfl rfl) (zw_gt (zw_gt l6 rfl rfl) rfl rfl) zw_g1 hP
                  · rw [show (k + Int32.ofInt 1).toInt.toNat = k.toInt.toNat + 1 by omega]
                    exact hM2
                  · omega
                  · exact hm
                  · exact hw.2
                  · exact hl64
                  · rw [← e9, ← xEv_3 k3]
                    exact hv
                · have e9 : (if x.toInt = 0 then Int32.ofInt 1 else Int32.ofInt 0) = Int32.ofInt 1 := if_pos h5
                  refine zw_s (pc' := 114) rfl rfl ?_
                  refine zw_s (pc' := 118) rfl rfl ?_
                  refine zw_is (q := 97) (pc' := 119) W rfl rfl (by decide) (⟨by omega, by show _ < ((800 : Nat) : Int); omega⟩) rfl ?_
                  refine zw_s (pc' := 155) rfl rfl ?_
                  refine zw_s (pc' := 6) rfl rfl ?_
                  refine ih (Int32.ofInt 1 :: T) _ _ m (k + Int32.ofInt 1) (zw_W_I W) (xFv_I hF) (by omega) ?_ ?_ ?_ (xq_ps (by omega) hk.2) ?_ ?_ ?_ (zw_gt (zw_gt l0 rfl rfl) rfl rfl) (zw_gt (zw_gt l2 rfl rfl) rfl rfl) (zw_gt (zw_gt l3 rfl rfl) rfl rfl) (zw_gt (zw_gt l4 rfl rfl) rfl rfl) (zw_gt (zw_gt l6 rfl rfl) rfl rfl) zw_g1 hP
                  · rw [show (k + Int32.ofInt 1).toInt.toNat = k.toInt.toNat + 1 by omega]
                    exact hM2
                  · omega
                  · exact hm
                  · exact hw.2
                  · exact hl64
                  · rw [← e9, ← xEv_3 k3]
                    exact hv
            · have h3 : (H.2.1 80 k.toInt.toNat).toInt = (2 : Int) := h3
              omega
      | [], hm, hk, hw, hl64, hv => exact absurd hw.1 (by decide)
    · rw [if_neg k3] at hw
      have k4 : 3 < it.1 := hw.1.2.1
      match T, hm, hk, hw, hl64, hv with
      | y :: x :: T, hm, hk, hw, hl64, hv =>
        have f80 : ∀ j, H.2.1 80 j = H0.2.1 80 j := fun j => hF.2.2.1 80 j (by decide)
        refine zw_ld (n := 1) (k := 0) (f := zp_isR) (pc' := 7) rfl rfl l0 rfl rfl ?_
        refine zw_gR (q := 72) (pc' := 10) W rfl rfl rfl rfl (W.2 72 20 _ rfl) rfl ?_
        refine zw_ld (n := 2) (k := 7) (f := zp_isI) (pc' := 12) rfl rfl l7 rfl rfl ?_
        refine zw_ia (q := 80) (pc' := 13) W rfl rfl (by decide) (⟨h5, by show _ < ((1600 : Nat) : Int); omega⟩) rfl rfl ?_
        rw [xR2_j (by omega)] at hM hl
        obtain ⟨hM1, hM2⟩ := hM
        have hz : (H.2.1 80 k.toInt.toNat).toInt = ((it.1 : Nat) : Int) := by
          rw [f80]
          exact hM1
        have ek : (k + Int32.ofInt 1).toInt = k.toInt + 1 := zw_p1 (by omega)
        have hl : k.toInt + (((xR2 C ++ [0]).length + 1 : Nat) : Int) ≤ 1600 := hl
        have hm : m.toInt = ((T.length + 1 + 1 : Nat) : Int) := hm
        have hl64 : T.length + 1 + 1 ≤ 64 := hl64
        have em : (m - Int32.ofInt 1).toInt = m.toInt - 1 := zw_m1 (by omega)
        have em1 : (m - Int32.ofInt 1 - Int32.ofInt 1).toInt = m.toInt - 2 := by
          rw [zw_m1 (by omega)]
          omega
        have ey : H.2.1 97 (m - Int32.ofInt 1).toInt.toNat = y := by
          rw [show (m - Int32.ofInt 1).toInt.toNat = (x :: T).length by show _ = T.length + 1; omega]
          exact hk.1
        have ex : H.2.1 97 (m - Int32.ofInt 1 - Int32.ofInt 1).toInt.toNat = x := by
          rw [show (m - Int32.ofInt 1 - Int32.ofInt 1).toInt.toNat = T.length by omega]
          exact hk.2.1
        refine zw_beq1 (g := 158) (pc' := 16) rfl rfl rfl rfl (fun h1 => ?_) (fun h1 => ?_)
        · have h1 : (H.2.1 80 k.toInt.toNat).toInt = 0 := h1
          omega
        · refine zw_ld (n := 1) (k := 0) (f := zp_isR) (pc' := 17) rfl rfl l0 rfl rfl ?_
          refine zw_gR (q := 72) (pc' := 20) W rfl rfl rfl rfl (W.2 72 20 _ rfl) rfl ?_
          refine zw_ld (n := 2) (k := 7) (f := zp_isI) (pc' := 22) rfl rfl l7 rfl rfl ?_
          refine zw_ia (q := 80) (pc' := 23) W rfl rfl (by decide) (⟨h5, by show _ < ((1600 : Nat) : Int); omega⟩) rfl rfl ?_
          refine zw_st (n := 2) (k := 8) (f := zp_isI) (pc' := 25) rfl rfl rfl rfl rfl ?_
          refine zw_ii (pc' := 28) rfl (zw_gt l7 rfl rfl) rfl rfl ?_
          refine zw_ld (n := 2) (k := 8) (f := zp_isI) (pc' := 30) rfl rfl (zw_gt zw_g1 rfl rfl) rfl rfl ?_
          refine zw_s (pc' := 31) rfl rfl ?_
          refine zw_beq2 (g := 40) (pc' := 34) rfl rfl rfl rfl (rfl : _ = (1 : Int)) (fun h2 => ?_) (fun h2 => ?_)
          · have h2 : (H.2.1 80 k.toInt.toNat).toInt = (1 : Int) := h2
            omega
          · refine zw_ld (n := 2) (k := 8) (f := zp_isI) (pc' := 36) rfl rfl (zw_gt zw_g1 rfl rfl) rfl rfl ?_
            refine zw_s (pc' := 37) rfl rfl ?_
            refine zw_bne2 (g := 87) (pc' := 40) rfl rfl rfl rfl (rfl : _ = (2 : Int)) (fun h3 => ?_) (fun h3 => ?_)
            · refine zw_ld (n := 2) (k := 8) (f := zp_isI) (pc' := 89) rfl rfl (zw_gt zw_g1 rfl rfl) rfl rfl ?_
              refine zw_s (pc' := 90) rfl rfl ?_
              refine zw_bne2 (g := 122) (pc' := 93) rfl rfl rfl rfl (rfl : _ = (3 : Int)) (fun h4 => ?_) (fun h4 => ?_)
              · refine zw_ii (pc' := 125) rfl (zw_gt (zw_gt l6 rfl rfl) rfl rfl) rfl rfl ?_
                rw [x_m1]
                refine zw_ld (n := 1) (k := 0) (f := zp_isR) (pc' := 126) rfl rfl (zw_gt (zw_gt (zw_gt l0 rfl rfl) rfl rfl) rfl rfl) rfl rfl ?_
                refine zw_gR (q := 72) (pc' := 129) W rfl rfl rfl rfl (W.2 72 75 _ rfl) rfl ?_
                refine zw_ld (n := 2) (k := 6) (f := zp_isI) (pc' := 131) rfl rfl zw_g1 rfl rfl ?_
                refine zw_s (pc' := 132) rfl rfl ?_
                refine zw_isub (pc' := 133) rfl rfl ?_
                refine zw_ld (n := 2) (k := 8) (f := zp_isI) (pc' := 135) rfl rfl (zw_gt (zw_gt zw_g1 rfl rfl) rfl rfl) rfl rfl ?_
                refine zw_ld (n := 1) (k := 0) (f := zp_isR) (pc' := 136) rfl rfl (zw_gt (zw_gt (zw_gt l0 rfl rfl) rfl rfl) rfl rfl) rfl rfl ?_
                refine zw_gR (q := 72) (pc' := 139) W rfl rfl rfl rfl (W.2 72 75 _ rfl) rfl ?_
                refine zw_ld (n := 2) (k := 6) (f := zp_isI) (pc' := 141) rfl rfl zw_g1 rfl rfl ?_
                refine zw_s (pc' := 142) rfl rfl ?_
                refine zw_isub (pc' := 143) rfl rfl ?_
                refine zw_ia (q := 97) (pc' := 144) W rfl rfl (by decide) (⟨by omega, by show _ < ((800 : Nat) : Int); omega⟩) rfl rfl ?_
                rw [ex]
                refine zw_ld (n := 1) (k := 0) (f := zp_isR) (pc' := 145) rfl rfl (zw_gt (zw_gt (zw_gt l0 rfl rfl) rfl rfl) rfl rfl) rfl rfl ?_
                refine zw_gR (q := 72) (pc' := 148) W rfl rfl rfl rfl (W.2 72 75 _ rfl) rfl ?_
                refine zw_ld (n := 2) (k := 6) (f := zp_isI) (pc' := 150) rfl rfl zw_g1 rfl rfl ?_
                refine zw_ia (q := 97) (pc' := 151) W rfl rfl (by decide) (⟨by omega, by show _ < ((800 : Nat) : Int); omega⟩) rfl rfl ?_
                rw [ey]
                refine zw_c (pc' := 154) (zw_cs (Y := zm_235) rfl rfl zm_235_t) rfl rfl rfl rfl rfl (xr_wk (d := d + 1) hw.1.2 hz) ?_
                refine zw_is (q := 97) (pc' := 155) W rfl rfl (by decide) (⟨by omega, by show _ < ((800 : Nat) : Int); omega⟩) rfl ?_
                refine zw_s (pc' := 6) rfl rfl ?_
                refine ih (xJn it.1 x y :: T) _ _ (m - Int32.ofInt 1) (k + Int32.ofInt 1) (zw_W_I W) (xFv_I hF) (by omega) ?_ ?_ ?_ (xq_ps (by omega) hk.2.2) ?_ ?_ ?_ (zw_gt (zw_gt (zw_gt l0 rfl rfl) rfl rfl) rfl rfl) (zw_gt (zw_gt (zw_gt l2 rfl rfl) rfl rfl) rfl rfl) (zw_gt (zw_gt (zw_gt l3 rfl rfl) rfl rfl) rfl rfl) (zw_gt (zw_gt (zw_gt l4 rfl rfl) rfl rfl) rfl rfl) zw_g1 (zw_gt zw_g1 rfl rfl) hP
                · rw [show (k + Int32.ofInt 1).toInt.toNat = k.toInt.toNat + 1 by omega]
                  exact hM2
                · omega
                · show (m - Int32.ofInt 1).toInt = ((T.length + 1 : Nat) : Int)
                  omega
                · have e : ((xJn it.1 x y :: T).length : Int) = ((y :: x :: T).length : Int) - 1 := by
                    show ((T.length + 1 : Nat) : Int) = ((T.length + 1 + 1 : Nat) : Int) - 1
                    omega
                  rw [e]
                  exact hw.2
                · show T.length + 1 ≤ 64
                  omega
                · rw [← xEv_4 k4]
                  exact hv
              · have h4 : (H.2.1 80 k.toInt.toNat).toInt = (3 : Int) := h4
                omega
            · have h3 : (H.2.1 80 k.toInt.toNat).toInt = (2 : Int) := h3
              omega
      | [x], hm, hk, hw, hl64, hv =>
        have h9 : (2 : Int) ≤ ((1 : Nat) : Int) := hw.1.1
        omega
      | [], hm, hk, hw, hl64, hv => exact absurd hw.1.1 (by decide)

theorem xr_re {L : Nat} {σ : Nat → Int32} {d : Nat} {H : zp_H} {S : xSea} {a c h : Int32} {u : Int64} {C : List xIt} (W : zw_W H) (hS : xOk S) (hR : xSR H S) (hc : xIn S c.toInt) (h5 : 0 ≤ a.toInt) (hM : xRo (H.2.1 80) a.toInt.toNat (xR2 C ++ [0])) (hl : a.toInt + ((xR2 C ++ [0]).length : Int) ≤ 1600) (hO : xOp 37 C) : ∃ X, zp_Call L σ (d + 3) 233 [.inr (.inr (some 73)), .inl a, .inl c, .inl h, .inr (.inl u)] H X ∧ ∃ H1, X = (.inl (some (.inl (xWo (xVl S c h u) C))), H1) ∧ zw_W H1 ∧ xFv 97 H H1 := by
  refine zw_met zm_233_t rfl rfl ?_
  refine zw_s (pc' := 1) rfl rfl ?_
  refine zw_st (n := 2) (k := 6) (f := zp_isI) (pc' := 3) rfl rfl rfl rfl rfl ?_
  refine zw_ld (n := 1) (k := 1) (f := zp_isI) (pc' := 4) rfl rfl (zw_gt rfl rfl rfl) rfl rfl ?_
  refine zw_st (n := 2) (k := 7) (f := zp_isI) (pc' := 6) rfl rfl rfl rfl rfl ?_
  exact xr_reL hS hR hc C [] _ _ (Int32.ofInt 0) a W (xFv_r H) h5 hM hl rfl trivial (xWf_m (by decide) (hO 0 (Int.le_refl _)).2) (Nat.zero_le _) (xEv_w hO) (zw_gt (zw_gt rfl rfl rfl) rfl rfl) (zw_gt (zw_gt rfl rfl rfl) rfl rfl) (zw_gt (zw_gt rfl rfl rfl) rfl rfl) (zw_gt (zw_gt rfl rfl rfl) rfl rfl) (zw_gt zw_g1 rfl rfl) zw_g1 (fun H1 w1 w2 => ⟨H1, rfl, w1, w2⟩)

/-- the reference holds the rules CC -/
def xCR (CC : Nat → List xIt) (H : zp_H) : Prop := (0 ≤ (H.2.1 72 8).toInt ∧ (H.2.1 72 8).toInt ≤ 8) ∧ ∀ r : Nat, (r : Int) < (H.2.1 72 8).toInt → xOp 37 (CC r) ∧ xRl 78 80 H r (CC r) ∧ (H.2.1 78 r).toInt + ((xR2 (CC r)).length : Int) + 1 ≤ 1600
theorem xCR_f {CC : Nat → List xIt} {H H1 : zp_H} (e8 : H1.2.1 72 8 = H.2.1 72 8) (e78 : ∀ k, H1.2.1 78 k = H.2.1 78 k) (e80 : ∀ k, H1.2.1 80 k = H.2.1 80 k) (h : xCR CC H) : xCR CC H1 := by
  obtain ⟨h1, h2⟩ := h
  unfold xCR
  rw [e8]
  refine ⟨h1, fun r hr => ?_⟩
  obtain ⟨a, ⟨b, b2⟩, c⟩ := h2 r hr
  exact ⟨a, ⟨by rw [e78]; exact b, by rw [e78]; exact xRo_c (fun i _ _ => e80 i) b2⟩, by rw [e78]; exact c⟩

theorem xr_wbL {L : Nat} {σ : Nat → Int32} {d : Nat} {P : zp_X → Prop} {S : xSea} {c h : Int32} {u : Int64} {CC : Nat → List xIt} {H0 : zp_H} (hS : xOk S) (hR : xSR H0 S) (hc : xIn S c.toInt) (hCR : xCR CC H0) : ∀ (n : Nat) (H : zp_H) (lv : zp_LV) (r : Int32), zw_W H → xFv 97 H0 H → 0 ≤ r.toInt → r.toInt + (n : Int) = (H0.2.1 72 8).toInt → zp_get lv 0 = some (.inr (.inr (some 73))) → zp_get lv 1 = some (.inl c) → zp_get lv 2 = some (.inl h) → zp_get lv 3 = some (.inr (.inl u)) → zp_get lv 5 = some (.inl r) → (∀ H1, zw_W H1 → xFv 97 H0 H1 → P (.inl (some (.inl (xWb (xVl S c h u) (H0.2.1 79) CC n r.toInt.toNat))), H1)) → zs_Safe L σ P zm_232 [] (d + 3) (3, lv, [], H, (0, 0)) := by
  intro n
  induction n with
  | zero =>
    intro H lv r W hF h5 hn l0 l1 l2 l3 l5 hP
    have hN : H.2.1 72 8 = H0.2.1 72 8 := hF.2.2.1 72 8 (by decide)
    have h18 := hCR.1
    refine zw_ld (n := 2) (k := 5) (f := zp_isI) (pc' := 5) rfl rfl l5 rfl rfl ?_
    refine zw_ld (n := 1) (k := 0) (f := zp_isR) (pc' := 6) rfl rfl l0 rfl rfl ?_
    refine zw_gI (q := 72) (pc' := 9) W rfl rfl rfl rfl rfl rfl ?_
    rw [hN]
    refine zw_bge2 (g := 43) (pc' := 12) rfl rfl rfl rfl rfl (fun h1 => ?_) (fun h1 => ?_)
    · refine zw_s (pc' := 44) rfl rfl ?_
      refine zw_ri rfl rfl ?_
      exact hP H W hF
    · have hn : r.toInt + ((0 : Nat) : Int) = (H0.2.1 72 8).toInt := hn
      omega
  | succ n ih =>
    intro H lv r W hF h5 hn l0 l1 l2 l3 l5 hP
    have hN : H.2.1 72 8 = H0.2.1 72 8 := hF.2.2.1 72 8 (by decide)
    have h18 := hCR.1
    refine zw_ld (n := 2) (k := 5) (f := zp_isI) (pc' := 5) rfl rfl l5 rfl rfl ?_
    refine zw_ld (n := 1) (k := 0) (f := zp_isR) (pc' := 6) rfl rfl l0 rfl rfl ?_
    refine zw_gI (q := 72) (pc' := 9) W rfl rfl rfl rfl rfl rfl ?_
    rw [hN]
    refine zw_bge2 (g := 43) (pc' := 12) rfl rfl rfl rfl rfl (fun h1 => ?_) (fun h1 => ?_)
    · omega
    · have er : (r + Int32.ofInt 1).toInt = r.toInt + 1 := zw_p1 (by omega)
      obtain ⟨o1, ⟨o2, o3⟩, o4⟩ := hCR.2 r.toInt.toNat (by omega)
      have f78 : ∀ k, H.2.1 78 k = H0.2.1 78 k := fun k => hF.2.2.1 78 k (by decide)
      have f80 : ∀ k, H.2.1 80 k = H0.2.1 80 k := fun k => hF.2.2.1 80 k (by decide)
      obtain ⟨_, c1, H1, rfl, W1, c2⟩ := xr_re (L := L) (σ := σ) (d := d) (H := H) (a := H.2.1 78 r.toInt.toNat) (c := c) (h := h) (u := u) (C := CC r.toInt.toNat) W hS (xSR_97 hF hR) hc (by rw [f78]; exact o2) (by rw [f78]; exact xRo_c (fun i _ _ => f80 i) o3) (by
        rw [f78, List.length_append]
        show _ + (((xR2 (CC r.toInt.toNat)).length + 1 : Nat) : Int) ≤ 1600
        omega) o1
      have F1 := xFv_t hF c2
      refine zw_ld (n := 1) (k := 0) (f := zp_isR) (pc' := 13) rfl rfl l0 rfl rfl ?_
      refine zw_ld (n := 1) (k := 0) (f := zp_isR) (pc' := 14) rfl rfl l0 rfl rfl ?_
      refine zw_gR (q := 72) (pc' := 17) W rfl rfl rfl rfl (W.2 72 18 _ rfl) rfl ?_
      refine zw_ld (n := 2) (k := 5) (f := zp_isI) (pc' := 19) rfl rfl l5 rfl rfl ?_
      refine zw_ia (q := 78) (pc' := 20) W rfl rfl (by decide) (⟨h5, by show _ < ((8 : Nat) : Int); omega⟩) rfl rfl ?_
      refine zw_ld (n := 1) (k := 1) (f := zp_isI) (pc' := 21) rfl rfl l1 rfl rfl ?_
      refine zw_ld (n := 1) (k := 2) (f := zp_isI) (pc' := 22) rfl rfl l2 rfl rfl ?_
      refine zw_ld (n := 1) (k := 3) (f := zp_isL) (pc' := 23) rfl rfl l3 rfl rfl ?_
      refine zw_c (pc' := 26) (zw_cv (q := 72) (Y := zm_233) W.1 rfl rfl zm_233_t rfl rfl) rfl rfl rfl rfl rfl (c1) ?_
      refine zw_beq1 (g := 37) (pc' := 29) rfl rfl rfl rfl (fun h2 => ?_) (fun h2 => ?_)
      · have h2 : (xWo (xVl S c h u) (CC r.toInt.toNat)).toInt = 0 := h2
        rw [xWb_n (n := n) h2, show r.toInt.toNat + 1 = (r + Int32.ofInt 1).toInt.toNat by omega] at hP
        refine zw_ii (pc' := 40) rfl l5 rfl rfl ?_
        refine zw_s (pc' := 3) rfl rfl ?_
        exact ih H1 _ (r + Int32.ofInt 1) W1 F1 (by omega) (by omega) (zw_gt l0 rfl rfl) (zw_gt l1 rfl rfl) (zw_gt l2 rfl rfl) (zw_gt l3 rfl rfl) zw_g1 hP
      · have h2 : ¬ (xWo (xVl S c h u) (CC r.toInt.toNat)).toInt = 0 := h2
        rw [xWb_y (n := n) h2] at hP
        have g8 : H1.2.1 79 r.toInt.toNat = H0.2.1 79 r.toInt.toNat := F1.2.2.1 79 _ (by decide)
        refine zw_ld (n := 1) (k := 0) (f := zp_isR) (pc' := 30) rfl rfl l0 rfl rfl ?_
        refine zw_gR (q := 72) (pc' := 33) W1 rfl rfl rfl rfl (W1.2 72 19 _ rfl) rfl ?_
        refine zw_ld (n := 2) (k := 5) (f := zp_isI) (pc' := 35) rfl rfl l5 rfl rfl ?_
        refine zw_ia (q := 79) (pc' := 36) W1 rfl rfl (by decide) (⟨h5, by show _ < ((8 : Nat) : Int); omega⟩) rfl rfl ?_
        refine zw_ri rfl rfl ?_
        rw [g8]
        exact hP H1 W1 F1

theorem xr_wb {L : Nat} {σ : Nat → Int32} {d : Nat} {S : xSea} {c h : Int32} {u : Int64} {CC : Nat → List xIt} {H0 : zp_H} (hS : xOk S) (hR : xSR H0 S) (hc : xIn S c.toInt) (hCR : xCR CC H0) (W : zw_W H0) : ∃ X, zp_Call L σ (d + 4) 232 [.inr (.inr (some 73)), .inl c, .inl h, .inr (.inl u)] H0 X ∧ ∃ H1, X = (.inl (some (.inl (xWb (xVl S c h u) (H0.2.1 79) CC (H0.2.1 72 8).toInt.toNat 0))), H1) ∧ zw_W H1 ∧ xFv 97 H0 H1 := by
  have h18 := hCR.1
  refine zw_met zm_232_t rfl rfl ?_
  refine zw_s (pc' := 1) rfl rfl ?_
  refine zw_st (n := 2) (k := 5) (f := zp_isI) (pc' := 3) rfl rfl rfl rfl rfl ?_
  exact xr_wbL hS hR hc hCR (H0.2.1 72 8).toInt.toNat _ _ (Int32.ofInt 0) W (xFv_r H0) (by decide) (by rw [show (Int32.ofInt 0).toInt = 0 by decide]; omega) (zw_gt rfl rfl rfl) (zw_gt rfl rfl rfl) (zw_gt rfl rfl rfl) (zw_gt rfl rfl rfl) zw_g1 (fun H1 w1 w2 => ⟨H1, rfl, w1, w2⟩)

theorem xr_knL {L : Nat} {σ : Nat → Int32} {d : Nat} {P : zp_X → Prop} {S : xSea} {set : Int32} {H0 : zp_H} (hS : xOk S) (hR : xSR H0 S) (hn0 : 0 ≤ (H0.2.1 72 5).toInt ∧ (H0.2.1 72 5).toInt ≤ 8) (hm : ∀ s : Nat, (s : Int) < (H0.2.1 72 5).toInt → 0 ≤ (H0.2.1 74 (4 * s + 2)).toInt ∧ (H0.2.1 74 (4 * s + 2)).toInt ≤ 8) (hc : ∀ s : Nat, (s : Int) < (H0.2.1 72 5).toInt → xIn S (H0.2.1 74 (4 * s)).toInt) : ∀ (n : Nat) (H : zp_H) (lv : zp_LV) (i : Int32) (u : Int64), zw_W H → xFs 64 71 H0 H → 0 ≤ i.toInt → i.toInt + (n : Int) = (H0.2.1 72 5).toInt → zp_get lv 0 = some (.inr (.inr (some 73))) → zp_get lv 1 = some (.inl set) → zp_get lv 2 = some (.inr (.inl u)) → zp_get lv 4 = some (.inl i) → (∀ H1, zw_W H1 → xFs 64 71 H0 H1 → P (.inl (some (.inr (.inl (xKn (fun s => xWk (xVyr S H0 s)) set n i u)))), H1)) → zs_Safe L σ P zm_231 [] (d + 3) (5, lv, [], H, (0, 0)) := by
  intro n
  induction n with
  | zero =>
    intro H lv i u W hF h5 hn l0 l1 l2 l4 hP
    have hN : H.2.1 72 5 = H0.2.1 72 5 := hF.2.2.1 72 5 (fun h9 => by have := h9.2; omega)
    refine zw_ld (n := 2) (k := 4) (f := zp_isI) (pc' := 7) rfl rfl l4 rfl rfl ?_
    refine zw_ld (n := 1) (k := 0) (f := zp_isR) (pc' := 8) rfl rfl l0 rfl rfl ?_
    refine zw_gI (q := 72) (pc' := 11) W rfl rfl rfl rfl rfl rfl ?_
    rw [hN]
    refine zw_bge2 (g := 63) (pc' := 14) rfl rfl rfl rfl rfl (fun h1 => ?_) (fun h1 => ?_)
    · refine zw_ld (n := 1) (k := 2) (f := zp_isL) (pc' := 64) rfl rfl l2 rfl rfl ?_
      refine zw_rl rfl rfl ?_
      exact hP H W hF
    · have hn : i.toInt + ((0 : Nat) : Int) = (H0.2.1 72 5).toInt := hn
      omega
  | succ n ih =>
    intro H lv i u W hF h5 hn l0 l1 l2 l4 hP
    have hN : H.2.1 72 5 = H0.2.1 72 5 := hF.2.2.1 72 5 (fun h9 => by have := h9.2; omega)
    refine zw_ld (n := 2) (k := 4) (f := zp_isI) (pc' := 7) rfl rfl l4 rfl rfl ?_
    refine zw_ld (n := 1) (k := 0) (f := zp_isR) (pc' := 8) rfl rfl l0 rfl rfl ?_
    refine zw_gI (q := 72) (pc' := 11) W rfl rfl rfl rfl rfl rfl ?_
    rw [hN]
    refine zw_bge2 (g := 63) (pc' := 14) rfl rfl rfl rfl rfl (fun h1 => ?_) (fun h1 => ?_)
    · omega
    · have ei : (i + Int32.ofInt 1).toInt = i.toInt + 1 := zw_p1 (by omega)
      refine zw_ld (n := 1) (k := 1) (f := zp_isI) (pc' := 15) rfl rfl l1 rfl rfl ?_
      refine zw_ld (n := 2) (k := 4) (f := zp_isI) (pc' := 17) rfl rfl l4 rfl rfl ?_
      refine zw_ishr (pc' := 18) rfl rfl ?_
      refine zw_s (pc' := 19) rfl rfl ?_
      refine zw_iand (pc' := 20) rfl rfl ?_
      refine zw_bne1 (g := 26) (pc' := 23) rfl rfl rfl rfl (fun h2 => ?_) (fun h2 => ?_)
      · rw [xKn_y h2] at hP
        have hi : ((i.toInt.toNat : Nat) : Int) < (H0.2.1 72 5).toInt := by omega
        have f4 : ∀ k, H.2.1 74 k = H0.2.1 74 k := fun k => hF.2.2.1 74 k (fun h9 => absurd h9.1 (by decide))
        have f5 : ∀ k, H.2.1 75 k = H0.2.1 75 k := fun k => hF.2.2.1 75 k (fun h9 => absurd h9.1 (by decide))
        obtain ⟨_, q1, H1, rfl, W1, q2, q3⟩ := xr_sails (L := L) (σ := σ) (d := d) (H := H) (s := i) W hS (xSR_f hF (by decide) hR) ⟨h5, by omega⟩ (by rw [f4]; exact hm _ hi) (by rw [f4]; exact hc _ hi)
        have q3 : xR7 H1 (xVyr S H i.toInt.toNat) := q3
        rw [xVyr_f f4 f5] at q3
        have F1 := xFs_t hF q2
        refine zw_ld (n := 1) (k := 0) (f := zp_isR) (pc' := 27) rfl rfl l0 rfl rfl ?_
        refine zw_ld (n := 2) (k := 4) (f := zp_isI) (pc' := 29) rfl rfl l4 rfl rfl ?_
        refine zw_cn (pc' := 32) (zw_cv (q := 72) (Y := zm_220) W.1 rfl rfl zm_220_t rfl rfl) rfl rfl rfl rfl rfl (q1) ?_
        refine zw_ld (n := 1) (k := 0) (f := zp_isR) (pc' := 33) rfl rfl l0 rfl rfl ?_
        refine zw_gI (q := 72) (pc' := 36) W1 rfl rfl rfl rfl rfl rfl ?_
        refine zw_s (pc' := 37) rfl rfl ?_
        refine zw_beq2 (g := 48) (pc' := 40) rfl rfl rfl rfl (rfl : _ = (1 : Int)) (fun h3 => ?_) (fun h3 => ?_)
        · have h3 : (H1.2.1 72 66).toInt = (1 : Int) := h3
          have ew : za_shl0 (Int64.ofNat 1) (H1.2.1 72 64) = xWk (xVyr S H0 i.toInt.toNat) := by
            unfold xWk
            rw [if_pos (xWr_t.mpr (Or.inl (by rw [← q3.2.2.1]; exact h3))), q3.1]
          refine zw_ld (n := 1) (k := 2) (f := zp_isL) (pc' := 49) rfl rfl l2 rfl rfl ?_
          refine zw_s (pc' := 50) rfl rfl ?_
          refine zw_ld (n := 1) (k := 0) (f := zp_isR) (pc' := 51) rfl rfl l0 rfl rfl ?_
          refine zw_gI (q := 72) (pc' := 54) W1 rfl rfl rfl rfl rfl rfl ?_
          refine zw_lshl (pc' := 55) rfl rfl ?_
          refine zw_lor (pc' := 56) rfl rfl ?_
          refine zw_sl (n := 1) (k := 2) (pc' := 57) rfl rfl rfl rfl ?_
          refine zw_ii (pc' := 60) rfl (zw_gt2 l4 rfl rfl) rfl rfl ?_
          refine zw_s (pc' := 5) rfl rfl ?_
          erw [ew]
          exact ih H1 _ (i + Int32.ofInt 1) _ W1 F1 (by omega) (by omega) (zw_gt (zw_gt2 l0 rfl rfl) rfl rfl) (zw_gt (zw_gt2 l1 rfl rfl) rfl rfl) (zw_gt zw_g2 rfl rfl) zw_g1 hP
        · have h3 : ¬ (H1.2.1 72 66).toInt = (1 : Int) := h3
          refine zw_ld (n := 1) (k := 0) (f := zp_isR) (pc' := 41) rfl rfl l0 rfl rfl ?_
          refine zw_gI (q := 72) (pc' := 44) W1 rfl rfl rfl rfl rfl rfl ?_
          refine zw_s (pc' := 45) rfl rfl ?_
          refine zw_bne2 (g := 57) (pc' := 48) rfl rfl rfl rfl (rfl : _ = (2 : Int)) (fun h4 => ?_) (fun h4 => ?_)
          · have h4 : ¬ (H1.2.1 72 66).toInt = (2 : Int) := h4
            have hn1 : ¬ (xVyr S H0 i.toInt.toNat).2.2.1.toInt = 1 := by rw [← q3.2.2.1]; exact h3
            have hn2 : ¬ (xVyr S H0 i.toInt.toNat).2.2.1.toInt = 2 := by rw [← q3.2.2.1]; exact h4
            have ew : u ||| xWk (xVyr S H0 i.toInt.toNat) = u := by
              unfold xWk
              rw [if_neg (fun h9 => (xWr_t.mp h9).elim hn1 hn2)]
              exact Int64.or_zero
            rw [ew] at hP
            refine zw_ii (pc' := 60) rfl l4 rfl rfl ?_
            refine zw_s (pc' := 5) rfl rfl ?_
            exact ih H1 _ (i + Int32.ofInt 1) _ W1 F1 (by omega) (by omega) (zw_gt l0 rfl rfl) (zw_gt l1 rfl rfl) (zw_gt l2 rfl rfl) zw_g1 hP
          · have h4 : (H1.2.1 72 66).toInt = (2 : Int) := h4
            have ew : za_shl0 (Int64.ofNat 1) (H1.2.1 72 64) = xWk (xVyr S H0 i.toInt.toNat) := by
              unfold xWk
              rw [if_pos (xWr_t.mpr (Or.inr (by rw [← q3.2.2.1]; exact h4))), q3.1]
            refine zw_ld (n := 1) (k := 2) (f := zp_isL) (pc' := 49) rfl rfl l2 rfl rfl ?_
            refine zw_s (pc' := 50) rfl rfl ?_
            refine zw_ld (n := 1) (k := 0) (f := zp_isR) (pc' := 51) rfl rfl l0 rfl rfl ?_
            refine zw_gI (q := 72) (pc' := 54) W1 rfl rfl rfl rfl rfl rfl ?_
            refine zw_lshl (pc' := 55) rfl rfl ?_
            refine zw_lor (pc' := 56) rfl rfl ?_
            refine zw_sl (n := 1) (k := 2) (pc' := 57) rfl rfl rfl rfl ?_
            refine zw_ii (pc' := 60) rfl (zw_gt2 l4 rfl rfl) rfl rfl ?_
            refine zw_s (pc' := 5) rfl rfl ?_
            erw [ew]
            exact ih H1 _ (i + Int32.ofInt 1) _ W1 F1 (by omega) (by omega) (zw_gt (zw_gt2 l0 rfl rfl) rfl rfl) (zw_gt (zw_gt2 l1 rfl rfl) rfl rfl) (zw_gt zw_g2 rfl rfl) zw_g1 hP
      · rw [xKn_n h2] at hP
        refine zw_s (pc' := 57) rfl rfl ?_
        refine zw_ii (pc' := 60) rfl l4 rfl rfl ?_
        refine zw_s (pc' := 5) rfl rfl ?_
        exact ih H _ (i + Int32.ofInt 1) u W hF (by omega) (by omega) (zw_gt l0 rfl rfl) (zw_gt l1 rfl rfl) (zw_gt l2 rfl rfl) zw_g1 hP

theorem xr_kn {L : Nat} {σ : Nat → Int32} {d : Nat} {S : xSea} {set : Int32} {H0 : zp_H} (hS : xOk S) (hR : xSR H0 S) (hn0 : 0 ≤ (H0.2.1 72 5).toInt ∧ (H0.2.1 72 5).toInt ≤ 8) (hm : ∀ s : Nat, (s : Int) < (H0.2.1 72 5).toInt → 0 ≤ (H0.2.1 74 (4 * s + 2)).toInt ∧ (H0.2.1 74 (4 * s + 2)).toInt ≤ 8) (hc : ∀ s : Nat, (s : Int) < (H0.2.1 72 5).toInt → xIn S (H0.2.1 74 (4 * s)).toInt) (W : zw_W H0) : ∃ X, zp_Call L σ (d + 4) 231 [.inr (.inr (some 73)), .inl set] H0 X ∧ ∃ H1, X = (.inl (some (.inr (.inl (xKn (fun s => xWk (xVyr S H0 s)) set (H0.2.1 72 5).toInt.toNat (Int32.ofInt 0) (Int64.ofNat 0))))), H1) ∧ zw_W H1 ∧ xFs 64 71 H0 H1 := by
  refine zw_met zm_231_t rfl rfl ?_
  refine zw_s (pc' := 1) rfl rfl ?_
  refine zw_sl (n := 1) (k := 2) (pc' := 2) rfl rfl rfl rfl ?_
  refine zw_s (pc' := 3) rfl rfl ?_
  refine zw_st (n := 2) (k := 4) (f := zp_isI) (pc' := 5) rfl rfl rfl rfl rfl ?_
  exact xr_knL hS hR hn0 hm hc (H0.2.1 72 5).toInt.toNat _ _ (Int32.ofInt 0) (Int64.ofNat 0) W (xFs_r H0) (by decide) (by rw [show (Int32.ofInt 0).toInt = 0 by decide]; omega) (zw_gt (zw_gt2 rfl rfl rfl) rfl rfl) (zw_gt (zw_gt2 rfl rfl rfl) rfl rfl) (zw_gt zw_g2 rfl rfl) zw_g1 (fun H1 w1 w2 => ⟨H1, rfl, w1, w2⟩)

/-- but a voyage's places and the pile nothing is changed -/
def xFp (H H1 : zp_H) : Prop := H1.1 = H.1 ∧ H1.2.2.2 = H.2.2.2 ∧ (∀ p k, ¬ (p = 72 ∧ 64 ≤ k ∧ k ≤ 71) → p ≠ 97 → H1.2.1 p k = H.2.1 p k) ∧ ∀ p k, ¬ (p = 72 ∧ k = 65) → p ≠ 97 → H1.2.2.1 p k = H.2.2.1 p k
theorem xFp_r (H : zp_H) : xFp H H := ⟨rfl, rfl, fun _ _ _ _ => rfl, fun _ _ _ _ => rfl⟩
theorem xFp_t {H H1 H2 : zp_H} (h1 : xFp H H1) (h2 : xFp H1 H2) : xFp H H2 := ⟨h2.1.trans h1.1, h2.2.1.trans h1.2.1, fun p k a b => (h2.2.2.1 p k a b).trans (h1.2.2.1 p k a b), fun p k a b => (h2.2.2.2 p k a b).trans (h1.2.2.2 p k a b)⟩
theorem xFp_s {a b : Nat} {H H1 : zp_H} (h : xFs a b H H1) (ha : 64 ≤ a) (hb : b ≤ 71) : xFp H H1 := ⟨h.1, h.2.1, fun p k hn _ => h.2.2.1 p k (fun h9 => hn ⟨h9.1, by omega, by omega⟩), fun p k hn _ => h.2.2.2 p k hn⟩
theorem xFp_v {H H1 : zp_H} (h : xFv 97 H H1) : xFp H H1 := ⟨h.1, h.2.1, fun p k _ a => h.2.2.1 p k a, fun p k _ a => h.2.2.2 p k a⟩
theorem xFp_I {k : Nat} {H H1 : zp_H} {x : Int32} (h : xFp H H1) (hk : 64 ≤ k ∧ k ≤ 71) : xFp H (zw_I H1 72 k x) := ⟨h.1, h.2.1, fun p j a b => (y_ne (fun h9 => a ⟨h9.1, by have := h9.2; omega⟩)).trans (h.2.2.1 p j a b), h.2.2.2⟩
theorem xSR_p {H H1 : zp_H} {S : xSea} (h : xFp H H1) (hR : xSR H S) : xSR H1 S := ⟨(congrArg Int32.toInt (h.2.2.1 72 1 (fun h9 => by have := h9.2; omega) (by decide))).trans hR.1, (congrArg Int32.toInt (h.2.2.1 72 2 (fun h9 => by have := h9.2; omega) (by decide))).trans hR.2.1, (h.2.2.2 72 12 (fun h9 => absurd h9.2 (by decide)) (by decide)).trans hR.2.2.1, fun k hk => (congrArg Int32.toInt (h.2.2.1 73 k (fun h9 => absurd h9.1 (by decide)) (by decide))).trans (hR.2.2.2 k hk)⟩
theorem xCR_p {CC : Nat → List xIt} {H H1 : zp_H} (h : xFp H H1) (hC : xCR CC H) : xCR CC H1 := xCR_f (h.2.2.1 72 8 (fun h9 => by have := h9.2; omega) (by decide)) (fun k => h.2.2.1 78 k (fun h9 => absurd h9.1 (by decide)) (by decide)) (fun k => h.2.2.1 80 k (fun h9 => absurd h9.1 (by decide)) (by decide)) hC

theorem xr_plL {L : Nat} {σ : Nat → Int32} {d : Nat} {P : zp_X → Prop} {S : xSea} {CC : Nat → List xIt} {H0 : zp_H} {u : Int64} (hS : xOk S) (hR : xSR H0 S) (hCR : xCR CC H0) : ∀ (n : Nat) (H : zp_H) (lv : zp_LV) (i : Int32), zw_W H → xFp H0 H → xIn S (H.2.1 72 64).toInt → 0 ≤ i.toInt → i.toInt + (n : Int) = 60 → zp_get lv 0 = some (.inr (.inr (some 73))) → zp_get lv 3 = some (.inr (.inl u)) → zp_get lv 5 = some (.inl i) → (∀ K, zw_W K → xFp H0 K → xIn S (K.2.1 72 64).toInt → (K.2.1 72 64, K.2.1 72 69, K.2.1 72 66) = xPl S (H0.2.1 72 11).toInt (fun c h => xWb (xVl S c h u) (H0.2.1 79) CC (H0.2.1 72 8).toInt.toNat 0) n (H.2.1 72 64) (H.2.1 72 69) (H.2.1 72 66) → P (.inl none, K)) → zs_Safe L σ P zm_230 [] (d + 4) (60, lv, [], H, (0, 0)) := by
  intro n
  induction n with
  | zero =>
    intro H lv i W hF hc h5 hn l0 l3 l5 hP
    refine zw_ld (n := 2) (k := 5) (f := zp_isI) (pc' := 62) rfl rfl l5 rfl rfl ?_
    refine zw_s (pc' := 64) rfl rfl ?_
    refine zw_bge2 (g := 145) (pc' := 67) rfl rfl rfl rfl (rfl : _ = (60 : Int)) (fun h1 => ?_) (fun h1 => ?_)
    · refine zw_rn rfl rfl ?_
      exact hP H W hF hc rfl
    · have h1 : i.toInt < (60 : Int) := h1
      omega
  | succ n ih =>
    intro H lv i W hF hc h5 hn l0 l3 l5 hP
    refine zw_ld (n := 2) (k := 5) (f := zp_isI) (pc' := 62) rfl rfl l5 rfl rfl ?_
    refine zw_s (pc' := 64) rfl rfl ?_
    refine zw_bge2 (g := 145) (pc' := 67) rfl rfl rfl rfl (rfl : _ = (60 : Int)) (fun h1 => ?_) (fun h1 => ?_)
    · have h1 : (60 : Int) ≤ i.toInt := h1
      omega
    · refine zw_ld (n := 1) (k := 0) (f := zp_isR) (pc' := 68) rfl rfl l0 rfl rfl ?_
      refine zw_gI (q := 72) (pc' := 71) W rfl rfl rfl rfl rfl rfl ?_
      refine zw_bne1 (g := 145) (pc' := 74) rfl rfl rfl rfl (fun h2 => ?_) (fun h2 => ?_)
      · refine zw_rn rfl rfl ?_
        exact hP H W hF hc (xPl_n h2 _).symm
      · have h2 : (H.2.1 72 66).toInt = 0 := h2
        have ei : (i + Int32.ofInt 1).toInt = i.toInt + 1 := zw_p1 (by omega)
        have f79 : H.2.1 79 = H0.2.1 79 := funext (fun k => hF.2.2.1 79 k (fun h9 => absurd h9.1 (by decide)) (by decide))
        have f8 : H.2.1 72 8 = H0.2.1 72 8 := hF.2.2.1 72 8 (fun h9 => by have := h9.2; omega) (by decide)
        obtain ⟨_, b1, H2, rfl, W2, b2⟩ := xr_wb (L := L) (σ := σ) (d := d) (c := H.2.1 72 64) (h := H.2.1 72 69) (u := u) hS (xSR_p hF hR) hc (xCR_p hF hCR) W
        rw [f79, f8] at b1
        have e0 : H2.2.1 72 64 = H.2.1 72 64 := b2.2.2.1 72 64 (by decide)
        have e1 : H2.2.1 72 69 = H.2.1 72 69 := b2.2.2.1 72 69 (by decide)
        have F2 := xFp_t hF (xFp_v b2)
        obtain ⟨_, s1, H3, rfl, W3, s2, s3⟩ := xr_st1 (L := L) (σ := σ) (d := d + 2) (H := H2) (x1 := (fun c h => xWb (xVl S c h u) (H0.2.1 79) CC (H0.2.1 72 8).toInt.toNat 0) (H.2.1 72 64) (H.2.1 72 69)) (x2 := H.2.1 72 69) W2 hS (xSR_p F2 hR) (by rw [e0]; exact hc)
        rw [e0] at s1 s3
        have hb := xSt_b (hr := (H.2.1 72 69).toInt) (d := ((fun c h => xWb (xVl S c h u) (H0.2.1 79) CC (H0.2.1 72 8).toInt.toNat 0) (H.2.1 72 64) (H.2.1 72 69)).toInt) (t := true) hS hc
        have ho := xSt_o (hr := (H.2.1 72 69).toInt) (d := ((fun c h => xWb (xVl S c h u) (H0.2.1 79) CC (H0.2.1 72 8).toInt.toNat 0) (H.2.1 72 64) (H.2.1 72 69)).toInt) (t := true) hS hc
        have s1 : zp_Call L σ (d + 2 + 2) 221 [.inr (.inr (some 73)), .inl ((fun c h => xWb (xVl S c h u) (H0.2.1 79) CC (H0.2.1 72 8).toInt.toNat 0) (H.2.1 72 64) (H.2.1 72 69)), .inl (H.2.1 72 69), .inl (Int32.ofInt 1)] H2 (.inl (some (.inl (Int32.ofInt (xSt S (H.2.1 72 64).toInt (H.2.1 72 69).toInt ((fun c h => xWb (xVl S c h u) (H0.2.1 79) CC (H0.2.1 72 8).toInt.toNat 0) (H.2.1 72 64) (H.2.1 72 69)).toInt true).1))), H3) := s1
        have s3 : H3.2.1 72 64 = Int32.ofInt (xSt S (H.2.1 72 64).toInt (H.2.1 72 69).toInt ((fun c h => xWb (xVl S c h u) (H0.2.1 79) CC (H0.2.1 72 8).toInt.toNat 0) (H.2.1 72 64) (H.2.1 72 69)).toInt true).2 := s3
        have F3 := xFp_t F2 (xFp_s s2 (by decide) (by decide))
        have e69 : H3.2.1 72 69 = H.2.1 72 69 := (s2.2.2.1 72 69 (by decide)).trans e1
        have e1w : H3.2.1 72 1 = H0.2.1 72 1 := F3.2.2.1 72 1 (fun h9 => by have := h9.2; omega) (by decide)
        have e11 : H3.2.1 72 11 = H0.2.1 72 11 := F3.2.2.1 72 11 (fun h9 => by have := h9.2; omega) (by decide)
        have hw1 : (H0.2.1 72 1).toInt = S.1 := hR.1
        have hs1 := hS.1
        have w0 : H0.2.1 72 1 ≠ 0 := fun h9 => by
          have : (H0.2.1 72 1).toInt = 0 := congrArg Int32.toInt h9
          omega
        refine zw_ld (n := 1) (k := 0) (f := zp_isR) (pc' := 75) rfl rfl l0 rfl rfl ?_
        refine zw_ld (n := 1) (k := 0) (f := zp_isR) (pc' := 76) rfl rfl l0 rfl rfl ?_
        refine zw_ld (n := 1) (k := 0) (f := zp_isR) (pc' := 77) rfl rfl l0 rfl rfl ?_
        refine zw_ld (n := 1) (k := 0) (f := zp_isR) (pc' := 78) rfl rfl l0 rfl rfl ?_
        refine zw_gI (q := 72) (pc' := 81) W rfl rfl rfl rfl rfl rfl ?_
        refine zw_ld (n := 1) (k := 0) (f := zp_isR) (pc' := 82) rfl rfl l0 rfl rfl ?_
        refine zw_gI (q := 72) (pc' := 85) W rfl rfl rfl rfl rfl rfl ?_
        refine zw_ld (n := 1) (k := 3) (f := zp_isL) (pc' := 86) rfl rfl l3 rfl rfl ?_
        refine zw_c (pc' := 89) (zw_cv (q := 72) (Y := zm_232) W.1 rfl rfl zm_232_t rfl rfl) rfl rfl rfl rfl rfl (b1) ?_
        refine zw_ld (n := 1) (k := 0) (f := zp_isR) (pc' := 90) rfl rfl l0 rfl rfl ?_
        refine zw_gI (q := 72) (pc' := 93) W2 rfl rfl rfl rfl rfl rfl ?_
        refine zw_s (pc' := 94) rfl rfl ?_
        rw [e1]
        refine zw_c (pc' := 97) (zw_cv (q := 72) (Y := zm_221) W2.1 rfl rfl zm_221_t rfl rfl) rfl rfl rfl rfl rfl (s1) ?_
        refine zw_pI (q := 72) (pc' := 100) W3 rfl rfl rfl rfl rfl rfl ?_
        refine zw_ld (n := 1) (k := 0) (f := zp_isR) (pc' := 101) rfl rfl l0 rfl rfl ?_
        refine zw_gI (q := 72) (pc' := 104) (zw_W_I W3) rfl rfl rfl rfl zw_eq rfl ?_
        refine zw_beq1 (g := 108) (pc' := 107) rfl rfl rfl rfl (fun h3 => ?_) (fun h3 => ?_)
        · have h3 : (Int32.ofInt (xSt S (H.2.1 72 64).toInt (H.2.1 72 69).toInt ((fun c h => xWb (xVl S c h u) (H0.2.1 79) CC (H0.2.1 72 8).toInt.toNat 0) (H.2.1 72 64) (H.2.1 72 69)).toInt true).1).toInt = 0 := h3
          rw [ho.1] at h3
          have k69 : (zw_I H3 72 66 (Int32.ofInt (xSt S (H.2.1 72 64).toInt (H.2.1 72 69).toInt ((fun c h => xWb (xVl S c h u) (H0.2.1 79) CC (H0.2.1 72 8).toInt.toNat 0) (H.2.1 72 64) (H.2.1 72 69)).toInt true).1)).2.1 72 69 = H.2.1 72 69 := (zw_ne rfl rfl).trans e69
          have xm := x_rem (x := Int32.ofInt (xSt S (H.2.1 72 64).toInt (H.2.1 72 69).toInt ((fun c h => xWb (xVl S c h u) (H0.2.1 79) CC (H0.2.1 72 8).toInt.toNat 0) (H.2.1 72 64) (H.2.1 72 69)).toInt true).2) (y := H0.2.1 72 1) (by rw [ho.2]; exact hb.1.1) (by omega)
          rw [ho.2, hw1] at xm
          refine zw_ld (n := 1) (k := 0) (f := zp_isR) (pc' := 109) rfl rfl l0 rfl rfl ?_
          refine zw_s (pc' := 110) rfl rfl ?_
          refine zw_gI (q := 72) (pc' := 113) (zw_W_I W3) rfl rfl rfl rfl (zw_ne rfl rfl) rfl ?_
          refine zw_s (pc' := 114) rfl rfl ?_
          refine zw_iadd (pc' := 115) rfl rfl ?_
          rw [e69]
          refine zw_pI (q := 72) (pc' := 118) (zw_W_I W3) rfl rfl rfl rfl rfl rfl ?_
          have k64 : (zw_I (zw_I H3 72 66 (Int32.ofInt (xSt S (H.2.1 72 64).toInt (H.2.1 72 69).toInt ((fun c h => xWb (xVl S c h u) (H0.2.1 79) CC (H0.2.1 72 8).toInt.toNat 0) (H.2.1 72 64) (H.2.1 72 69)).toInt true).1)) 72 69 (H.2.1 72 69 + Int32.ofInt 1)).2.1 72 64 = Int32.ofInt (xSt S (H.2.1 72 64).toInt (H.2.1 72 69).toInt ((fun c h => xWb (xVl S c h u) (H0.2.1 79) CC (H0.2.1 72 8).toInt.toNat 0) (H.2.1 72 64) (H.2.1 72 69)).toInt true).2 := (zw_ne (zw_ne rfl rfl) rfl).trans s3
          have k1 : (zw_I (zw_I H3 72 66 (Int32.ofInt (xSt S (H.2.1 72 64).toInt (H.2.1 72 69).toInt ((fun c h => xWb (xVl S c h u) (H0.2.1 79) CC (H0.2.1 72 8).toInt.toNat 0) (H.2.1 72 64) (H.2.1 72 69)).toInt true).1)) 72 69 (H.2.1 72 69 + Int32.ofInt 1)).2.1 72 1 = H0.2.1 72 1 := (zw_ne (zw_ne rfl rfl) rfl).trans e1w
          have k11 : (zw_I (zw_I H3 72 66 (Int32.ofInt (xSt S (H.2.1 72 64).toInt (H.2.1 72 69).toInt ((fun c h => xWb (xVl S c h u) (H0.2.1 79) CC (H0.2.1 72 8).toInt.toNat 0) (H.2.1 72 64) (H.2.1 72 69)).toInt true).1)) 72 69 (H.2.1 72 69 + Int32.ofInt 1)).2.1 72 11 = H0.2.1 72 11 := (zw_ne (zw_ne rfl rfl) rfl).trans e11
          refine zw_ld (n := 1) (k := 0) (f := zp_isR) (pc' := 119) rfl rfl l0 rfl rfl ?_
          refine zw_gI (q := 72) (pc' := 122) (zw_W_I (zw_W_I W3)) rfl rfl rfl rfl rfl rfl ?_
          refine zw_ld (n := 1) (k := 0) (f := zp_isR) (pc' := 123) rfl rfl l0 rfl rfl ?_
          refine zw_gI (q := 72) (pc' := 126) (zw_W_I (zw_W_I W3)) rfl rfl rfl rfl rfl rfl ?_
          rw [k64, k1]
          refine zw_rem (pc' := 127) rfl (w0) rfl ?_
          refine zw_ld (n := 1) (k := 0) (f := zp_isR) (pc' := 128) rfl rfl l0 rfl rfl ?_
          refine zw_gI (q := 72) (pc' := 131) (zw_W_I (zw_W_I W3)) rfl rfl rfl rfl rfl rfl ?_
          rw [k11]
          refine zw_blt2 (g := 139) (pc' := 134) rfl rfl rfl rfl rfl (fun h4 => ?_) (fun h4 => ?_)
          · have h4 : (Int32.ofInt (xSt S (H.2.1 72 64).toInt (H.2.1 72 69).toInt ((fun c h => xWb (xVl S c h u) (H0.2.1 79) CC (H0.2.1 72 8).toInt.toNat 0) (H.2.1 72 64) (H.2.1 72 69)).toInt true).2 - Int32.ofInt (xSt S (H.2.1 72 64).toInt (H.2.1 72 69).toInt ((fun c h => xWb (xVl S c h u) (H0.2.1 79) CC (H0.2.1 72 8).toInt.toNat 0) (H.2.1 72 64) (H.2.1 72 69)).toInt true).2 / H0.2.1 72 1 * H0.2.1 72 1).toInt < (H0.2.1 72 11).toInt := h4
            rw [xm] at h4
            refine zw_ii (pc' := 142) rfl l5 rfl rfl ?_
            refine zw_s (pc' := 60) rfl rfl ?_
            refine ih _ _ (i + Int32.ofInt 1) (zw_W_I (zw_W_I W3)) (xFp_I (xFp_I F3 (by decide)) (by decide)) (by rw [show (zw_I (zw_I H3 72 66 (Int32.ofInt (xSt S (H.2.1 72 64).toInt (H.2.1 72 69).toInt ((fun c h => xWb (xVl S c h u) (H0.2.1 79) CC (H0.2.1 72 8).toInt.toNat 0) (H.2.1 72 64) (H.2.1 72 69)).toInt true).1)) 72 69 (H.2.1 72 69 + Int32.ofInt 1)).2.1 72 64 = Int32.ofInt (xSt S (H.2.1 72 64).toInt (H.2.1 72 69).toInt ((fun c h => xWb (xVl S c h u) (H0.2.1 79) CC (H0.2.1 72 8).toInt.toNat 0) (H.2.1 72 64) (H.2.1 72 69)).toInt true).2 from k64, ho.2]; exact hb.1) (by omega) (by omega) (zw_gt l0 rfl rfl) (zw_gt l3 rfl rfl) zw_g1 (fun K w1 w2 w3 w4 => hP K w1 w2 w3 ?_)
            rw [xPl_y h2, w4, if_pos h3, if_neg (show ¬ ((xSt S (H.2.1 72 64).toInt (H.2.1 72 69).toInt ((fun c h => xWb (xVl S c h u) (H0.2.1 79) CC (H0.2.1 72 8).toInt.toNat 0) (H.2.1 72 64) (H.2.1 72 69)).toInt true).1 = 0 ∧ (H0.2.1 72 11).toInt ≤ (xSt S (H.2.1 72 64).toInt (H.2.1 72 69).toInt ((fun c h => xWb (xVl S c h u) (H0.2.1 79) CC (H0.2.1 72 8).toInt.toNat 0) (H.2.1 72 64) (H.2.1 72 69)).toInt true).2 % S.1) from fun h9 => absurd h9.2 (Int.not_le.mpr h4)), show (zw_I (zw_I H3 72 66 (Int32.ofInt (xSt S (H.2.1 72 64).toInt (H.2.1 72 69).toInt ((fun c h => xWb (xVl S c h u) (H0.2.1 79) CC (H0.2.1 72 8).toInt.toNat 0) (H.2.1 72 64) (H.2.1 72 69)).toInt true).1)) 72 69 (H.2.1 72 69 + Int32.ofInt 1)).2.1 72 64 = Int32.ofInt (xSt S (H.2.1 72 64).toInt (H.2.1 72 69).toInt ((fun c h => xWb (xVl S c h u) (H0.2.1 79) CC (H0.2.1 72 8).toInt.toNat 0) (H.2.1 72 64) (H.2.1 72 69)).toInt true).2 from k64, show (zw_I (zw_I H3 72 66 (Int32.ofInt (xSt S (H.2.1 72 64).toInt (H.2.1 72 69).toInt ((fun c h => xWb (xVl S c h u) (H0.2.1 79) CC (H0.2.1 72 8).toInt.toNat 0) (H.2.1 72 64) (H.2.1 72 69)).toInt true).1)) 72 69 (H.2.1 72 69 + Int32.ofInt 1)).2.1 72 69 = H.2.1 72 69 + Int32.ofInt 1 from zw_eq, show (zw_I (zw_I H3 72 66 (Int32.ofInt (xSt S (H.2.1 72 64).toInt (H.2.1 72 69).toInt ((fun c h => xWb (xVl S c h u) (H0.2.1 79) CC (H0.2.1 72 8).toInt.toNat 0) (H.2.1 72 64) (H.2.1 72 69)).toInt true).1)) 72 69 (H.2.1 72 69 + Int32.ofInt 1)).2.1 72 66 = Int32.ofInt (xSt S (H.2.1 72 64).toInt (H.2.1 72 69).toInt ((fun c h => xWb (xVl S c h u) (H0.2.1 79) CC (H0.2.1 72 8).toInt.toNat 0) (H.2.1 72 64) (H.2.1 72 69)).toInt true).1 from zw_ne zw_eq rfl]
          · have h4 : (H0.2.1 72 11).toInt ≤ (Int32.ofInt (xSt S (H.2.1 72 64).toInt (H.2.1 72 69).toInt ((fun c h => xWb (xVl S c h u) (H0.2.1 79) CC (H0.2.1 72 8).toInt.toNat 0) (H.2.1 72 64) (H.2.1 72 69)).toInt true).2 - Int32.ofInt (xSt S (H.2.1 72 64).toInt (H.2.1 72 69).toInt ((fun c h => xWb (xVl S c h u) (H0.2.1 79) CC (H0.2.1 72 8).toInt.toNat 0) (H.2.1 72 64) (H.2.1 72 69)).toInt true).2 / H0.2.1 72 1 * H0.2.1 72 1).toInt := h4
            rw [xm] at h4
            refine zw_ld (n := 1) (k := 0) (f := zp_isR) (pc' := 135) rfl rfl l0 rfl rfl ?_
            refine zw_s (pc' := 136) rfl rfl ?_
            refine zw_pI (q := 72) (pc' := 139) (zw_W_I (zw_W_I W3)) rfl rfl rfl rfl rfl rfl ?_
            refine zw_ii (pc' := 142) rfl l5 rfl rfl ?_
            refine zw_s (pc' := 60) rfl rfl ?_
            refine ih _ _ (i + Int32.ofInt 1) (zw_W_I (zw_W_I (zw_W_I W3))) (xFp_I (xFp_I (xFp_I F3 (by decide)) (by decide)) (by decide)) (by rw [show (zw_I (zw_I (zw_I H3 72 66 (Int32.ofInt (xSt S (H.2.1 72 64).toInt (H.2.1 72 69).toInt ((fun c h => xWb (xVl S c h u) (H0.2.1 79) CC (H0.2.1 72 8).toInt.toNat 0) (H.2.1 72 64) (H.2.1 72 69)).toInt true).1)) 72 69 (H.2.1 72 69 + Int32.ofInt 1)) 72 66 (Int32.ofInt 4)).2.1 72 64 = Int32.ofInt (xSt S (H.2.1 72 64).toInt (H.2.1 72 69).toInt ((fun c h => xWb (xVl S c h u) (H0.2.1 79) CC (H0.2.1 72 8).toInt.toNat 0) (H.2.1 72 64) (H.2.1 72 69)).toInt true).2 from (zw_ne rfl rfl).trans k64, ho.2]; exact hb.1) (by omega) (by omega) (zw_gt l0 rfl rfl) (zw_gt l3 rfl rfl) zw_g1 (fun K w1 w2 w3 w4 => hP K w1 w2 w3 ?_)
            rw [xPl_y h2, w4, if_pos h3, if_pos ⟨h3, h4⟩, show (zw_I (zw_I (zw_I H3 72 66 (Int32.ofInt (xSt S (H.2.1 72 64).toInt (H.2.1 72 69).toInt ((fun c h => xWb (xVl S c h u) (H0.2.1 79) CC (H0.2.1 72 8).toInt.toNat 0) (H.2.1 72 64) (H.2.1 72 69)).toInt true).1)) 72 69 (H.2.1 72 69 + Int32.ofInt 1)) 72 66 (Int32.ofInt 4)).2.1 72 64 = Int32.ofInt (xSt S (H.2.1 72 64).toInt (H.2.1 72 69).toInt ((fun c h => xWb (xVl S c h u) (H0.2.1 79) CC (H0.2.1 72 8).toInt.toNat 0) (H.2.1 72 64) (H.2.1 72 69)).toInt true).2 from (zw_ne rfl rfl).trans k64, show (zw_I (zw_I (zw_I H3 72 66 (Int32.ofInt (xSt S (H.2.1 72 64).toInt (H.2.1 72 69).toInt ((fun c h => xWb (xVl S c h u) (H0.2.1 79) CC (H0.2.1 72 8).toInt.toNat 0) (H.2.1 72 64) (H.2.1 72 69)).toInt true).1)) 72 69 (H.2.1 72 69 + Int32.ofInt 1)) 72 66 (Int32.ofInt 4)).2.1 72 69 = H.2.1 72 69 + Int32.ofInt 1 from (zw_ne zw_eq rfl), show (zw_I (zw_I (zw_I H3 72 66 (Int32.ofInt (xSt S (H.2.1 72 64).toInt (H.2.1 72 69).toInt ((fun c h => xWb (xVl S c h u) (H0.2.1 79) CC (H0.2.1 72 8).toInt.toNat 0) (H.2.1 72 64) (H.2.1 72 69)).toInt true).1)) 72 69 (H.2.1 72 69 + Int32.ofInt 1)) 72 66 (Int32.ofInt 4)).2.1 72 66 = Int32.ofInt 4 from zw_eq]
        · have h3 : ¬ (Int32.ofInt (xSt S (H.2.1 72 64).toInt (H.2.1 72 69).toInt ((fun c h => xWb (xVl S c h u) (H0.2.1 79) CC (H0.2.1 72 8).toInt.toNat 0) (H.2.1 72 64) (H.2.1 72 69)).toInt true).1).toInt = 0 := h3
          rw [ho.1] at h3
          refine zw_rn rfl rfl ?_
          refine hP _ (zw_W_I W3) (xFp_I F3 (by decide)) (by rw [show (zw_I H3 72 66 (Int32.ofInt (xSt S (H.2.1 72 64).toInt (H.2.1 72 69).toInt ((fun c h => xWb (xVl S c h u) (H0.2.1 79) CC (H0.2.1 72 8).toInt.toNat 0) (H.2.1 72 64) (H.2.1 72 69)).toInt true).1)).2.1 72 64 = H3.2.1 72 64 from zw_ne rfl rfl, s3, ho.2]; exact hb.1) ?_
          rw [xPl_y h2, if_neg h3, if_neg (fun h9 => h3 h9.1), xPl_n (by rw [ho.1]; exact h3), show (zw_I H3 72 66 (Int32.ofInt (xSt S (H.2.1 72 64).toInt (H.2.1 72 69).toInt ((fun c h => xWb (xVl S c h u) (H0.2.1 79) CC (H0.2.1 72 8).toInt.toNat 0) (H.2.1 72 64) (H.2.1 72 69)).toInt true).1)).2.1 72 64 = H3.2.1 72 64 from zw_ne rfl rfl, show (zw_I H3 72 66 (Int32.ofInt (xSt S (H.2.1 72 64).toInt (H.2.1 72 69).toInt ((fun c h => xWb (xVl S c h u) (H0.2.1 79) CC (H0.2.1 72 8).toInt.toNat 0) (H.2.1 72 64) (H.2.1 72 69)).toInt true).1)).2.1 72 69 = H3.2.1 72 69 from zw_ne rfl rfl, show (zw_I H3 72 66 (Int32.ofInt (xSt S (H.2.1 72 64).toInt (H.2.1 72 69).toInt ((fun c h => xWb (xVl S c h u) (H0.2.1 79) CC (H0.2.1 72 8).toInt.toNat 0) (H.2.1 72 64) (H.2.1 72 69)).toInt true).1)).2.1 72 66 = Int32.ofInt (xSt S (H.2.1 72 64).toInt (H.2.1 72 69).toInt ((fun c h => xWb (xVl S c h u) (H0.2.1 79) CC (H0.2.1 72 8).toInt.toNat 0) (H.2.1 72 64) (H.2.1 72 69)).toInt true).1 from zw_eq, s3, e69]

theorem xr_pl {L : Nat} {σ : Nat → Int32} {d : Nat} {p set : Int32} {S : xSea} {CC : Nat → List xIt} {H0 : zp_H} (hS : xOk S) (hR : xSR H0 S) (hCR : xCR CC H0) (hn0 : 0 ≤ (H0.2.1 72 5).toInt ∧ (H0.2.1 72 5).toInt ≤ 8) (hm : ∀ s : Nat, (s : Int) < (H0.2.1 72 5).toInt → 0 ≤ (H0.2.1 74 (4 * s + 2)).toInt ∧ (H0.2.1 74 (4 * s + 2)).toInt ≤ 8) (hc : ∀ s : Nat, (s : Int) < (H0.2.1 72 5).toInt → xIn S (H0.2.1 74 (4 * s)).toInt) (W : zw_W H0) (hp : 0 ≤ p.toInt ∧ p.toInt < 4) (hp2 : xIn S (H0.2.1 77 (3 * p.toInt.toNat)).toInt) : ∃ X, zp_Call L σ (d + 5) 230 [.inr (.inr (some 73)), .inl p, .inl set] H0 X ∧ ∃ K, X = (.inl none, K) ∧ zw_W K ∧ xFp H0 K ∧ (K.2.1 72 64, K.2.1 72 69, K.2.1 72 66) = xPl S (H0.2.1 72 11).toInt (fun c h => xWb (xVl S c h (xKn (fun s => xWk (xVyr S H0 s)) set (H0.2.1 72 5).toInt.toNat (Int32.ofInt 0) (Int64.ofNat 0))) (H0.2.1 79) CC (H0.2.1 72 8).toInt.toNat 0) 60 (H0.2.1 77 (3 * p.toInt.toNat)) (H0.2.1 77 (3 * p.toInt.toNat + 1)) (xP0 S (H0.2.1 72 11).toInt (H0.2.1 77 (3 * p.toInt.toNat))) := by
  obtain ⟨_, a1, H1, rfl, W1, a2⟩ := xr_kn (L := L) (σ := σ) (d := d) (set := set) hS hR hn0 hm hc W
  have F1 := xFp_s a2 (by decide) (by decide)
  have e3 : (Int32.ofInt 3 * p).toInt = 3 * p.toInt := by
    rcases (show p = Int32.ofInt 0 ∨ p = Int32.ofInt 1 ∨ p = Int32.ofInt 2 ∨ p = Int32.ofInt 3 from by
      rcases (show p.toInt = 0 ∨ p.toInt = 1 ∨ p.toInt = 2 ∨ p.toInt = 3 by omega) with e | e | e | e
      · exact Or.inl (Int32.toInt_inj.mp (e.trans (by decide)))
      · exact Or.inr (Or.inl (Int32.toInt_inj.mp (e.trans (by decide))))
      · exact Or.inr (Or.inr (Or.inl (Int32.toInt_inj.mp (e.trans (by decide)))))
      · exact Or.inr (Or.inr (Or.inr (Int32.toInt_inj.mp (e.trans (by decide)))))) with rfl | rfl | rfl | rfl <;> decide
  have e31 : (Int32.ofInt 3 * p + Int32.ofInt 1).toInt = 3 * p.toInt + 1 := by rw [zw_p1 (by omega), e3]
  have i3 : (Int32.ofInt 3 * p).toInt.toNat = 3 * p.toInt.toNat := by omega
  have i31 : (Int32.ofInt 3 * p + Int32.ofInt 1).toInt.toNat = 3 * p.toInt.toNat + 1 := by omega
  have f77 : ∀ k, H1.2.1 77 k = H0.2.1 77 k := fun k => F1.2.2.1 77 k (fun h9 => absurd h9.1 (by decide)) (by decide)
  have e1w : H1.2.1 72 1 = H0.2.1 72 1 := F1.2.2.1 72 1 (fun h9 => by have := h9.2; omega) (by decide)
  have e11 : H1.2.1 72 11 = H0.2.1 72 11 := F1.2.2.1 72 11 (fun h9 => by have := h9.2; omega) (by decide)
  have hw1 : (H0.2.1 72 1).toInt = S.1 := hR.1
  have hs1 := hS.1
  have w0 : H0.2.1 72 1 ≠ 0 := fun h9 => by
    have : (H0.2.1 72 1).toInt = 0 := congrArg Int32.toInt h9
    omega
  have xm := x_rem (x := (H0.2.1 77 (3 * p.toInt.toNat))) (y := H0.2.1 72 1) hp2.1 (by omega)
  rw [hw1] at xm
  refine zw_met zm_230_t rfl rfl ?_
  refine zw_ld (n := 1) (k := 0) (f := zp_isR) (pc' := 1) rfl rfl rfl rfl rfl ?_
  refine zw_ld (n := 1) (k := 2) (f := zp_isI) (pc' := 2) rfl rfl rfl rfl rfl ?_
  refine zw_c (pc' := 5) (zw_cv (q := 72) (Y := zm_231) W.1 rfl rfl zm_231_t rfl rfl) rfl rfl rfl rfl rfl (a1) ?_
  refine zw_sl (n := 1) (k := 3) (pc' := 6) rfl rfl rfl rfl ?_
  refine zw_ld (n := 1) (k := 0) (f := zp_isR) (pc' := 7) rfl rfl (zw_gt2 rfl rfl rfl) rfl rfl ?_
  refine zw_ld (n := 1) (k := 0) (f := zp_isR) (pc' := 8) rfl rfl (zw_gt2 rfl rfl rfl) rfl rfl ?_
  refine zw_gR (q := 72) (pc' := 11) W1 rfl rfl rfl rfl (W1.2 72 17 _ rfl) rfl ?_
  refine zw_s (pc' := 12) rfl rfl ?_
  refine zw_ld (n := 1) (k := 1) (f := zp_isI) (pc' := 13) rfl rfl (zw_gt2 rfl rfl rfl) rfl rfl ?_
  refine zw_imul (pc' := 14) rfl rfl ?_
  refine zw_ia (q := 77) (pc' := 15) W1 rfl rfl (by decide) (⟨by omega, by show _ < ((12 : Nat) : Int); omega⟩) rfl rfl ?_
  rw [i3, f77]
  refine zw_pI (q := 72) (pc' := 18) W1 rfl rfl rfl rfl rfl rfl ?_
  refine zw_ld (n := 1) (k := 0) (f := zp_isR) (pc' := 19) rfl rfl (zw_gt2 rfl rfl rfl) rfl rfl ?_
  refine zw_ld (n := 1) (k := 0) (f := zp_isR) (pc' := 20) rfl rfl (zw_gt2 rfl rfl rfl) rfl rfl ?_
  refine zw_gR (q := 72) (pc' := 23) (zw_W_I W1) rfl rfl rfl rfl ((zw_W_I W1).2 72 17 _ rfl) rfl ?_
  refine zw_s (pc' := 24) rfl rfl ?_
  refine zw_ld (n := 1) (k := 1) (f := zp_isI) (pc' := 25) rfl rfl (zw_gt2 rfl rfl rfl) rfl rfl ?_
  refine zw_imul (pc' := 26) rfl rfl ?_
  refine zw_s (pc' := 27) rfl rfl ?_
  refine zw_iadd (pc' := 28) rfl rfl ?_
  refine zw_ia (q := 77) (pc' := 29) (zw_W_I W1) rfl rfl (by decide) (⟨by omega, by show _ < ((12 : Nat) : Int); omega⟩) (zw_ne rfl rfl) rfl ?_
  rw [i31, f77]
  refine zw_pI (q := 72) (pc' := 32) (zw_W_I W1) rfl rfl rfl rfl rfl rfl ?_
  have k64 : (zw_I (zw_I H1 72 64 (H0.2.1 77 (3 * p.toInt.toNat))) 72 69 (H0.2.1 77 (3 * p.toInt.toNat + 1))).2.1 72 64 = (H0.2.1 77 (3 * p.toInt.toNat)) := zw_ne zw_eq rfl
  have k1 : (zw_I (zw_I H1 72 64 (H0.2.1 77 (3 * p.toInt.toNat))) 72 69 (H0.2.1 77 (3 * p.toInt.toNat + 1))).2.1 72 1 = H0.2.1 72 1 := (zw_ne (zw_ne rfl rfl) rfl).trans e1w
  have k11 : (zw_I (zw_I H1 72 64 (H0.2.1 77 (3 * p.toInt.toNat))) 72 69 (H0.2.1 77 (3 * p.toInt.toNat + 1))).2.1 72 11 = H0.2.1 72 11 := (zw_ne (zw_ne rfl rfl) rfl).trans e11
  refine zw_ld (n := 1) (k := 0) (f := zp_isR) (pc' := 33) rfl rfl (zw_gt2 rfl rfl rfl) rfl rfl ?_
  refine zw_ld (n := 1) (k := 0) (f := zp_isR) (pc' := 34) rfl rfl (zw_gt2 rfl rfl rfl) rfl rfl ?_
  refine zw_gI (q := 72) (pc' := 37) (zw_W_I (zw_W_I W1)) rfl rfl rfl rfl rfl rfl ?_
  refine zw_ld (n := 1) (k := 0) (f := zp_isR) (pc' := 38) rfl rfl (zw_gt2 rfl rfl rfl) rfl rfl ?_
  refine zw_gI (q := 72) (pc' := 41) (zw_W_I (zw_W_I W1)) rfl rfl rfl rfl rfl rfl ?_
  rw [k64, k1]
  refine zw_rem (pc' := 42) rfl (w0) rfl ?_
  refine zw_ld (n := 1) (k := 0) (f := zp_isR) (pc' := 43) rfl rfl (zw_gt2 rfl rfl rfl) rfl rfl ?_
  refine zw_gI (q := 72) (pc' := 46) (zw_W_I (zw_W_I W1)) rfl rfl rfl rfl rfl rfl ?_
  rw [k11]
  refine zw_blt2 (g := 53) (pc' := 49) rfl rfl rfl rfl rfl (fun h1 => ?_) (fun h1 => ?_)
  · have h1 : ((H0.2.1 77 (3 * p.toInt.toNat)) - (H0.2.1 77 (3 * p.toInt.toNat)) / H0.2.1 72 1 * H0.2.1 72 1).toInt < (H0.2.1 72 11).toInt := h1
    rw [xm] at h1
    refine zw_s (pc' := 54) rfl rfl ?_
    refine zw_pI (q := 72) (pc' := 57) (zw_W_I (zw_W_I W1)) rfl rfl rfl rfl rfl rfl ?_
    refine zw_s (pc' := 58) rfl rfl ?_
    refine zw_st (n := 2) (k := 5) (f := zp_isI) (pc' := 60) rfl rfl rfl rfl rfl ?_
    have e0 : xP0 S (H0.2.1 72 11).toInt (H0.2.1 77 (3 * p.toInt.toNat)) = Int32.ofInt 0 := if_neg (by omega)
    refine xr_plL (u := (xKn (fun s => xWk (xVyr S H0 s)) set (H0.2.1 72 5).toInt.toNat (Int32.ofInt 0) (Int64.ofNat 0))) hS hR hCR 60 _ _ (Int32.ofInt 0) (zw_W_I (zw_W_I (zw_W_I W1))) (xFp_I (xFp_I (xFp_I F1 (by decide)) (by decide)) (by decide)) (by rw [show (zw_I (zw_I (zw_I H1 72 64 (H0.2.1 77 (3 * p.toInt.toNat))) 72 69 (H0.2.1 77 (3 * p.toInt.toNat + 1))) 72 66 (Int32.ofInt 0)).2.1 72 64 = (H0.2.1 77 (3 * p.toInt.toNat)) from (zw_ne rfl rfl).trans k64]; exact hp2) (by decide) (by decide) (zw_gt (zw_gt2 rfl rfl rfl) rfl rfl) (zw_gt zw_g2 rfl rfl) zw_g1 (fun K w1 w2 w3 w4 => ⟨K, rfl, w1, w2, ?_⟩)
    rw [w4, e0, show (zw_I (zw_I (zw_I H1 72 64 (H0.2.1 77 (3 * p.toInt.toNat))) 72 69 (H0.2.1 77 (3 * p.toInt.toNat + 1))) 72 66 (Int32.ofInt 0)).2.1 72 64 = (H0.2.1 77 (3 * p.toInt.toNat)) from (zw_ne rfl rfl).trans k64, show (zw_I (zw_I (zw_I H1 72 64 (H0.2.1 77 (3 * p.toInt.toNat))) 72 69 (H0.2.1 77 (3 * p.toInt.toNat + 1))) 72 66 (Int32.ofInt 0)).2.1 72 69 = (H0.2.1 77 (3 * p.toInt.toNat + 1)) from zw_ne zw_eq rfl, show (zw_I (zw_I (zw_I H1 72 64 (H0.2.1 77 (3 * p.toInt.toNat))) 72 69 (H0.2.1 77 (3 * p.toInt.toNat + 1))) 72 66 (Int32.ofInt 0)).2.1 72 66 = Int32.ofInt 0 from zw_eq]
  · have h1 : (H0.2.1 72 11).toInt ≤ ((H0.2.1 77 (3 * p.toInt.toNat)) - (H0.2.1 77 (3 * p.toInt.toNat)) / H0.2.1 72 1 * H0.2.1 72 1).toInt := h1
    rw [xm] at h1
    refine zw_s (pc' := 50) rfl rfl ?_
    refine zw_s (pc' := 54) rfl rfl ?_
    refine zw_pI (q := 72) (pc' := 57) (zw_W_I (zw_W_I W1)) rfl rfl rfl rfl rfl rfl ?_
    refine zw_s (pc' := 58) rfl rfl ?_
    refine zw_st (n := 2) (k := 5) (f := zp_isI) (pc' := 60) rfl rfl rfl rfl rfl ?_
    have e0 : xP0 S (H0.2.1 72 11).toInt (H0.2.1 77 (3 * p.toInt.toNat)) = Int32.ofInt 4 := if_pos h1
    refine xr_plL (u := (xKn (fun s => xWk (xVyr S H0 s)) set (H0.2.1 72 5).toInt.toNat (Int32.ofInt 0) (Int64.ofNat 0))) hS hR hCR 60 _ _ (Int32.ofInt 0) (zw_W_I (zw_W_I (zw_W_I W1))) (xFp_I (xFp_I (xFp_I F1 (by decide)) (by decide)) (by decide)) (by rw [show (zw_I (zw_I (zw_I H1 72 64 (H0.2.1 77 (3 * p.toInt.toNat))) 72 69 (H0.2.1 77 (3 * p.toInt.toNat + 1))) 72 66 (Int32.ofInt 4)).2.1 72 64 = (H0.2.1 77 (3 * p.toInt.toNat)) from (zw_ne rfl rfl).trans k64]; exact hp2) (by decide) (by decide) (zw_gt (zw_gt2 rfl rfl rfl) rfl rfl) (zw_gt zw_g2 rfl rfl) zw_g1 (fun K w1 w2 w3 w4 => ⟨K, rfl, w1, w2, ?_⟩)
    rw [w4, e0, show (zw_I (zw_I (zw_I H1 72 64 (H0.2.1 77 (3 * p.toInt.toNat))) 72 69 (H0.2.1 77 (3 * p.toInt.toNat + 1))) 72 66 (Int32.ofInt 4)).2.1 72 64 = (H0.2.1 77 (3 * p.toInt.toNat)) from (zw_ne rfl rfl).trans k64, show (zw_I (zw_I (zw_I H1 72 64 (H0.2.1 77 (3 * p.toInt.toNat))) 72 69 (H0.2.1 77 (3 * p.toInt.toNat + 1))) 72 66 (Int32.ofInt 4)).2.1 72 69 = (H0.2.1 77 (3 * p.toInt.toNat + 1)) from zw_ne zw_eq rfl, show (zw_I (zw_I (zw_I H1 72 64 (H0.2.1 77 (3 * p.toInt.toNat))) 72 69 (H0.2.1 77 (3 * p.toInt.toNat + 1))) 72 66 (Int32.ofInt 4)).2.1 72 66 = Int32.ofInt 4 from zw_eq]
