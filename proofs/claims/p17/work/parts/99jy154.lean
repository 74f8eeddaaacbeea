/-! ===== an hour at sea, of the class ===== -/

theorem xc57_g0_2 {L : Nat} {σ : Nat → Int32} {d : Nat} {H : zp_H} {x b : Int32} (W : zw_W H) (h : x.toInt = -1) : zp_Call L σ (d + 2) 31 [.inr (.inr (some 58)), .inr (.inr (some 3)), .inl x, .inl b] H (.inl none, zw_I H 57 2 (Int32.ofInt 3)) := by
  refine zw_ex (zw_met zm_31_t rfl rfl ?_)
  refine zw_ld (n := 1) (k := 2) (f := zp_isI) (pc' := 1) rfl rfl rfl rfl rfl ?_
  refine zw_s (pc' := 2) rfl rfl ?_
  refine zw_bne2 (g := 11) (pc' := 5) rfl rfl rfl rfl (rfl : _ = (-1 : Int)) (fun h1 => ?_) (fun h1 => ?_)
  · exact absurd h h1
  · refine zw_ld (n := 1) (k := 0) (f := zp_isR) (pc' := 6) rfl rfl rfl rfl rfl ?_
    refine zw_s (pc' := 7) rfl rfl ?_
    refine zw_pI (q := 57) (pc' := 10) W rfl rfl rfl rfl rfl rfl ?_
    refine zw_rn rfl rfl ?_
    rfl

theorem xc57_g1_2 {L : Nat} {σ : Nat → Int32} {d : Nat} {H : zp_H} {x b : Int32} (W : zw_W H) (hx : 0 ≤ x.toInt ∧ x.toInt ≤ 63) (hr : yTb (H.2.2.1 2 3) x.toInt.toNat = true) : zp_Call L σ (d + 2) 31 [.inr (.inr (some 58)), .inr (.inr (some 3)), .inl x, .inl b] H (.inl none, zw_I (zw_I H 57 0 x) 57 2 b) := by
  have q1 := yc_isr2 (L := L) (σ := σ) (d := d) (H := zw_I H 57 0 x) (zw_W_I W) hx
  rw [if_pos (show (yTb ((zw_I H 57 0 x).2.2.1 2 3) x.toInt.toNat = true) from hr)] at q1
  refine zw_ex (zw_met zm_31_t rfl rfl ?_)
  refine zw_ld (n := 1) (k := 2) (f := zp_isI) (pc' := 1) rfl rfl rfl rfl rfl ?_
  refine zw_s (pc' := 2) rfl rfl ?_
  refine zw_bne2 (g := 11) (pc' := 5) rfl rfl rfl rfl (rfl : _ = (-1 : Int)) (fun h1 => ?_) (fun h1 => ?_)
  · refine zw_ld (n := 1) (k := 0) (f := zp_isR) (pc' := 12) rfl rfl rfl rfl rfl ?_
    refine zw_ld (n := 1) (k := 2) (f := zp_isI) (pc' := 13) rfl rfl rfl rfl rfl ?_
    refine zw_pI (q := 57) (pc' := 16) W rfl rfl rfl rfl rfl rfl ?_
    refine zw_ld (n := 1) (k := 1) (f := zp_isR) (pc' := 17) rfl rfl rfl rfl rfl ?_
    refine zw_ld (n := 1) (k := 2) (f := zp_isI) (pc' := 18) rfl rfl rfl rfl rfl ?_
    refine zw_c (pc' := 21) (zw_cv (q := 2) (Y := zm_32) (zw_W_I W).1 rfl rfl zm_32_t rfl rfl) rfl rfl rfl rfl rfl (q1) ?_
    refine zw_beq1 (g := 32) (pc' := 24) rfl rfl rfl (rfl : _ = (1 : Int)) (fun h9 => absurd h9 (by decide)) (fun h2 => ?_)
    refine zw_ld (n := 1) (k := 0) (f := zp_isR) (pc' := 25) rfl rfl rfl rfl rfl ?_
    refine zw_ld (n := 1) (k := 3) (f := zp_isI) (pc' := 26) rfl rfl rfl rfl rfl ?_
    refine zw_pI (q := 57) (pc' := 29) (zw_W_I W) rfl rfl rfl rfl rfl rfl ?_
    refine zw_s (pc' := 45) rfl rfl ?_
    refine zw_rn rfl rfl ?_
    rfl
  · omega

theorem xc57_g2_2 {L : Nat} {σ : Nat → Int32} {d : Nat} {H : zp_H} {x b : Int32} (W : zw_W H) (hx : 0 ≤ x.toInt ∧ x.toInt ≤ 63) (hr : ¬ (yTb (H.2.2.1 2 3) x.toInt.toNat = true)) : zp_Call L σ (d + 2) 31 [.inr (.inr (some 58)), .inr (.inr (some 3)), .inl x, .inl b] H (.inl none, zw_J (zw_I H 57 0 x) 57 7 (H.2.2.1 57 7 ||| za_shl0 (Int64.ofNat 1) x)) := by
  have q1 := yc_isr2 (L := L) (σ := σ) (d := d) (H := zw_I H 57 0 x) (zw_W_I W) hx
  rw [if_neg (show ¬ (yTb ((zw_I H 57 0 x).2.2.1 2 3) x.toInt.toNat = true) from hr)] at q1
  refine zw_ex (zw_met zm_31_t rfl rfl ?_)
  refine zw_ld (n := 1) (k := 2) (f := zp_isI) (pc' := 1) rfl rfl rfl rfl rfl ?_
  refine zw_s (pc' := 2) rfl rfl ?_
  refine zw_bne2 (g := 11) (pc' := 5) rfl rfl rfl rfl (rfl : _ = (-1 : Int)) (fun h1 => ?_) (fun h1 => ?_)
  · refine zw_ld (n := 1) (k := 0) (f := zp_isR) (pc' := 12) rfl rfl rfl rfl rfl ?_
    refine zw_ld (n := 1) (k := 2) (f := zp_isI) (pc' := 13) rfl rfl rfl rfl rfl ?_
    refine zw_pI (q := 57) (pc' := 16) W rfl rfl rfl rfl rfl rfl ?_
    refine zw_ld (n := 1) (k := 1) (f := zp_isR) (pc' := 17) rfl rfl rfl rfl rfl ?_
    refine zw_ld (n := 1) (k := 2) (f := zp_isI) (pc' := 18) rfl rfl rfl rfl rfl ?_
    refine zw_c (pc' := 21) (zw_cv (q := 2) (Y := zm_32) (zw_W_I W).1 rfl rfl zm_32_t rfl rfl) rfl rfl rfl rfl rfl (q1) ?_
    refine zw_beq1 (g := 32) (pc' := 24) rfl rfl rfl (rfl : _ = (0 : Int)) (fun h2 => ?_) (fun h9 => absurd h9 (by decide))
    refine zw_ld (n := 1) (k := 0) (f := zp_isR) (pc' := 33) rfl rfl rfl rfl rfl ?_
    refine zw_s (pc' := 34) rfl rfl ?_
    refine zw_gL (q := 57) (pc' := 37) (zw_W_I W) rfl rfl rfl rfl rfl ?_
    refine zw_ld (n := 1) (k := 2) (f := zp_isI) (pc' := 38) rfl rfl rfl rfl rfl ?_
    refine zw_cx (pc' := 41) (zw_csx (Y := zm_4) rfl rfl zm_4_t) rfl rfl rfl rfl rfl (zn_bit) ?_
    refine zw_lor (pc' := 42) rfl rfl ?_
    refine zw_pL (q := 57) (pc' := 45) (zw_W_I W) rfl rfl rfl rfl rfl rfl ?_
    refine zw_rn rfl rfl ?_
    rfl
  · omega

theorem xc57_sn2_1 {L : Nat} {σ : Nat → Int32} {d : Nat} {H : zp_H} {P : zp_X → Prop} {lv : zp_LV} (W : zw_W H) (l0 : zp_get lv 0 = some (.inr (.inr (some 58)))) (l1 : zp_get lv 1 = some (.inr (.inr (some 3)))) (l3 : zp_get lv 3 = some (.inl (Int32.ofInt 1))) (he : ¬ (H.2.1 57 2).toInt = 0) (hP : P (.inl none, H)) : zs_Safe L σ P zm_29 [] (d + 2) (20, lv, [], H, (0, 0)) := by
  refine zw_ld (n := 1) (k := 3) (f := zp_isI) (pc' := 21) rfl rfl l3 rfl rfl ?_
  refine zw_beq1 (g := 46) (pc' := 24) rfl rfl rfl (rfl : _ = (1 : Int)) (fun h9 => absurd h9 (by decide)) (fun hb => ?_)
  refine zw_ld (n := 1) (k := 0) (f := zp_isR) (pc' := 25) rfl rfl l0 rfl rfl ?_
  refine zw_gI (q := 57) (pc' := 28) W rfl rfl rfl rfl rfl rfl ?_
  refine zw_bne1 (g := 46) (pc' := 31) rfl rfl rfl rfl (fun h1 => ?_) (fun h1 => ?_)
  · refine zw_s (pc' := 47) rfl rfl ?_
    refine zw_st (n := 2) (k := 4) (f := zp_isI) (pc' := 49) rfl rfl rfl rfl rfl ?_
    refine zw_ld (n := 2) (k := 4) (f := zp_isI) (pc' := 51) rfl rfl zw_g1 rfl rfl ?_
    refine zw_s (pc' := 52) rfl rfl ?_
    refine zw_beq2 (g := 63) (pc' := 55) rfl rfl rfl (rfl : _ = (-1 : Int)) (rfl : _ = (-1 : Int)) (fun hb => ?_) (fun h9 => absurd h9 (by decide))
    refine zw_ld (n := 1) (k := 0) (f := zp_isR) (pc' := 64) rfl rfl (zw_gt l0 rfl rfl) rfl rfl ?_
    refine zw_gI (q := 57) (pc' := 67) W rfl rfl rfl rfl rfl rfl ?_
    refine zw_bne1 (g := 80) (pc' := 70) rfl rfl rfl rfl (fun h2 => ?_) (fun h2 => ?_)
    · refine zw_rn rfl rfl ?_
      exact hP
    · exact absurd h2 he
  · exact absurd h1 he

theorem xc57_sy2_1 {L : Nat} {σ : Nat → Int32} {d : Nat} {H : zp_H} {P : zp_X → Prop} {lv : zp_LV} {S : xSea} (W : zw_W H) (hS : xOk S) (hC : xSC 2 H S) (hc : xIn S (H.2.1 57 0).toInt) (he : (H.2.1 57 2).toInt = 0) (l0 : zp_get lv 0 = some (.inr (.inr (some 58)))) (l1 : zp_get lv 1 = some (.inr (.inr (some 3)))) (l3 : zp_get lv 3 = some (.inl (Int32.ofInt 1))) (hP : ∀ H1, zw_W H1 → xFr 57 H H1 → H1.2.1 57 4 = H.2.1 57 4 → H1.2.1 57 0 = Int32.ofInt (xS2 S (H.2.1 57 0).toInt (H.2.1 57 1).toInt true).2 → H1.2.1 57 2 = Int32.ofInt (xS2 S (H.2.1 57 0).toInt (H.2.1 57 1).toInt true).1 → H1.2.1 57 1 = (if (xS2 S (H.2.1 57 0).toInt (H.2.1 57 1).toInt true).1 = 0 then H.2.1 57 1 + Int32.ofInt 1 else H.2.1 57 1) → P (.inl none, H1)) : zs_Safe L σ P zm_29 [] (d + 2) (20, lv, [], H, (0, 0)) := by
  have he0 : H.2.1 57 2 = Int32.ofInt 0 := Int32.toInt_inj.mp (he.trans (by decide))
  refine zw_ld (n := 1) (k := 3) (f := zp_isI) (pc' := 21) rfl rfl l3 rfl rfl ?_
  refine zw_beq1 (g := 46) (pc' := 24) rfl rfl rfl (rfl : _ = (1 : Int)) (fun h9 => absurd h9 (by decide)) (fun hb => ?_)
  refine zw_ld (n := 1) (k := 0) (f := zp_isR) (pc' := 25) rfl rfl l0 rfl rfl ?_
  refine zw_gI (q := 57) (pc' := 28) W rfl rfl rfl rfl rfl rfl ?_
  refine zw_bne1 (g := 46) (pc' := 31) rfl rfl rfl rfl (fun h1 => ?_) (fun h1 => ?_)
  · exact absurd he h1
  · refine zw_ld (n := 1) (k := 1) (f := zp_isR) (pc' := 32) rfl rfl l1 rfl rfl ?_
    refine zw_ld (n := 1) (k := 0) (f := zp_isR) (pc' := 33) rfl rfl l0 rfl rfl ?_
    refine zw_gI (q := 57) (pc' := 36) W rfl rfl rfl rfl rfl rfl ?_
    refine zw_ld (n := 1) (k := 0) (f := zp_isR) (pc' := 37) rfl rfl l0 rfl rfl ?_
    refine zw_gI (q := 57) (pc' := 40) W rfl rfl rfl rfl rfl rfl ?_
    refine zw_c (pc' := 43) (zw_cv (q := 2) (Y := zm_33) W.1 rfl rfl zm_33_t rfl rfl) rfl rfl rfl rfl rfl (xc_dr2 W hS hC hc) ?_
    refine zw_s (pc' := 47) rfl rfl ?_
    refine zw_st (n := 2) (k := 4) (f := zp_isI) (pc' := 49) rfl rfl rfl rfl rfl ?_
    have h6 := xDr_64 (c := (H.2.1 57 0).toInt) (hr := (H.2.1 57 1).toInt) (t := true) hS
    have eo : (Int32.ofInt (xDr S (H.2.1 57 0).toInt (H.2.1 57 1).toInt true)).toInt = (xDr S (H.2.1 57 0).toInt (H.2.1 57 1).toInt true) := x_of (by omega) (by omega)
    have n0 : (H.2.1 57 0).toInt = (H.2.1 57 0).toInt := rfl
    refine zw_ld (n := 2) (k := 4) (f := zp_isI) (pc' := 51) rfl rfl zw_g1 rfl rfl ?_
    refine zw_s (pc' := 52) rfl rfl ?_
    refine zw_beq2 (g := 63) (pc' := 55) rfl rfl rfl rfl (rfl : _ = (-1 : Int)) (fun h2 => ?_) (fun h2 => ?_)
    · have h2 : (Int32.ofInt (xDr S (H.2.1 57 0).toInt (H.2.1 57 1).toInt true)).toInt = -1 := h2
      have h3 : (xDr S (H.2.1 57 0).toInt (H.2.1 57 1).toInt true) = -1 := by omega
      refine zw_ld (n := 1) (k := 0) (f := zp_isR) (pc' := 64) rfl rfl (zw_gt l0 rfl rfl) rfl rfl ?_
      refine zw_gI (q := 57) (pc' := 67) W rfl rfl rfl rfl rfl rfl ?_
      refine zw_bne1 (g := 80) (pc' := 70) rfl rfl rfl rfl (fun h7 => ?_) (fun h7 => ?_)
      · exact absurd he h7
      · refine zw_ld (n := 1) (k := 0) (f := zp_isR) (pc' := 71) rfl rfl (zw_gt l0 rfl rfl) rfl rfl ?_
        refine zw_s (pc' := 72) rfl rfl ?_
        refine zw_gI (q := 57) (pc' := 75) W rfl rfl rfl rfl rfl rfl ?_
        refine zw_s (pc' := 76) rfl rfl ?_
        refine zw_iadd (pc' := 77) rfl rfl ?_
        refine zw_pI (q := 57) (pc' := 80) W rfl rfl rfl rfl rfl rfl ?_
        refine zw_rn rfl rfl ?_
        have es := xS2_n (S := S) (c := (H.2.1 57 0).toInt) (hr := (H.2.1 57 1).toInt) h3
        rw [es] at hP
        exact hP _ (zw_W_I W) (xFr_I (xFr_r H) (by decide)) (zw_ne rfl rfl) ((zw_ne rfl rfl).trans (x_oi _).symm) ((zw_ne rfl rfl).trans he0) (zw_eq.trans (if_pos rfl).symm)
    · have h2 : ¬ (Int32.ofInt (xDr S (H.2.1 57 0).toInt (H.2.1 57 1).toInt true)).toInt = -1 := h2
      have h3 : (xDr S (H.2.1 57 0).toInt (H.2.1 57 1).toInt true) ≠ -1 := by omega
      refine zw_ld (n := 1) (k := 0) (f := zp_isR) (pc' := 56) rfl rfl (zw_gt l0 rfl rfl) rfl rfl ?_
      refine zw_ld (n := 1) (k := 1) (f := zp_isR) (pc' := 57) rfl rfl (zw_gt l1 rfl rfl) rfl rfl ?_
      refine zw_ld (n := 2) (k := 4) (f := zp_isI) (pc' := 59) rfl rfl zw_g1 rfl rfl ?_
      refine zw_s (pc' := 60) rfl rfl ?_
      by_cases hr : yTb S.2.2.1 (xDr S (H.2.1 57 0).toInt (H.2.1 57 1).toInt true).toNat = true
      · refine zw_cn (pc' := 63) (zw_cv (q := 57) (Y := zm_31) W.1 rfl rfl zm_31_t rfl rfl) rfl rfl rfl rfl rfl (xc57_g1_2 (d := d) W (by omega) (by rw [eo, show H.2.2.1 2 3 = S.2.2.1 from hC.2.2.1]; exact hr)) ?_
        refine zw_ld (n := 1) (k := 0) (f := zp_isR) (pc' := 64) rfl rfl (zw_gt l0 rfl rfl) rfl rfl ?_
        refine zw_gI (q := 57) (pc' := 67) (zw_W_I (zw_W_I W)) rfl rfl rfl rfl zw_eq rfl ?_
        refine zw_bne1 (g := 80) (pc' := 70) rfl rfl rfl rfl (fun h7 => ?_) (fun h7 => ?_)
        · refine zw_rn rfl rfl ?_
          have es := xS2_r (S := S) (c := (H.2.1 57 0).toInt) (hr := (H.2.1 57 1).toInt) h3 hr
          rw [es] at hP
          exact hP _ (zw_W_I (zw_W_I W)) (xFr_I (xFr_I (xFr_r H) (by decide)) (by decide)) (zw_ne (zw_ne rfl rfl) rfl) ((zw_ne zw_eq rfl)) (zw_eq) ((zw_ne (zw_ne rfl rfl) rfl).trans (if_neg (fun h9 => absurd (show (2 : Int) = 0 from h9) (by decide))).symm)
        · exact absurd h7 (by decide)
      · refine zw_cn (pc' := 63) (zw_cv (q := 57) (Y := zm_31) W.1 rfl rfl zm_31_t rfl rfl) rfl rfl rfl rfl rfl (xc57_g2_2 (d := d) W (by omega) (by rw [eo, show H.2.2.1 2 3 = S.2.2.1 from hC.2.2.1]; exact hr)) ?_
        refine zw_ld (n := 1) (k := 0) (f := zp_isR) (pc' := 64) rfl rfl (zw_gt l0 rfl rfl) rfl rfl ?_
        refine zw_gI (q := 57) (pc' := 67) (zw_W_J (zw_W_I W)) rfl rfl rfl rfl (zw_nj (zw_ne rfl rfl)) rfl ?_
        refine zw_bne1 (g := 80) (pc' := 70) rfl rfl rfl rfl (fun h7 => ?_) (fun h7 => ?_)
        · exact absurd he h7
        · refine zw_ld (n := 1) (k := 0) (f := zp_isR) (pc' := 71) rfl rfl (zw_gt l0 rfl rfl) rfl rfl ?_
          refine zw_s (pc' := 72) rfl rfl ?_
          refine zw_gI (q := 57) (pc' := 75) (zw_W_J (zw_W_I W)) rfl rfl rfl rfl (zw_nj (zw_ne rfl rfl)) rfl ?_
          refine zw_s (pc' := 76) rfl rfl ?_
          refine zw_iadd (pc' := 77) rfl rfl ?_
          refine zw_pI (q := 57) (pc' := 80) (zw_W_J (zw_W_I W)) rfl rfl rfl rfl rfl rfl ?_
          refine zw_rn rfl rfl ?_
          have es := xS2_f (S := S) (c := (H.2.1 57 0).toInt) (hr := (H.2.1 57 1).toInt) h3 hr
          rw [es] at hP
          exact hP _ (zw_W_I (zw_W_J (zw_W_I W))) (xFr_I (xFr_J (xFr_I (xFr_r H) (by decide))) (by decide)) (zw_ne (zw_nj (zw_ne rfl rfl)) rfl) ((zw_ne (zw_nj zw_eq) rfl)) ((zw_ne (zw_nj (zw_ne rfl rfl)) rfl).trans he0) (zw_eq.trans (if_pos rfl).symm)

theorem xc57_sail2_1 {L : Nat} {σ : Nat → Int32} {d : Nat} {H : zp_H} {x2 : Int32} {S : xSea} (W : zw_W H) (hS : xOk S) (hC : xSC 2 H S) (hc : xIn S (H.2.1 57 0).toInt) (he : (H.2.1 57 2).toInt = 0) (hd : -1 ≤ x2.toInt ∧ x2.toInt ≤ 3) : ∃ X, zp_Call L σ (d + 3) 29 [.inr (.inr (some 58)), .inr (.inr (some 3)), .inl x2, .inl (Int32.ofInt 1)] H X ∧ ∃ H1, X = (.inl none, H1) ∧ zw_W H1 ∧ xFr 57 H H1 ∧ H1.2.1 57 4 = H.2.1 57 4 ∧ H1.2.1 57 0 = Int32.ofInt (xSt S (H.2.1 57 0).toInt (H.2.1 57 1).toInt x2.toInt true).2 ∧ H1.2.1 57 2 = Int32.ofInt (xSt S (H.2.1 57 0).toInt (H.2.1 57 1).toInt x2.toInt true).1 ∧ H1.2.1 57 1 = (if (xSt S (H.2.1 57 0).toInt (H.2.1 57 1).toInt x2.toInt true).1 = 0 then H.2.1 57 1 + Int32.ofInt 1 else H.2.1 57 1) := by
  refine zw_met zm_29_t rfl rfl ?_
  refine zw_ld (n := 1) (k := 2) (f := zp_isI) (pc' := 1) rfl rfl rfl rfl rfl ?_
  refine zw_s (pc' := 2) rfl rfl ?_
  refine zw_beq2 (g := 20) (pc' := 5) rfl rfl rfl rfl (rfl : _ = (-1 : Int)) (fun h1 => ?_) (fun h1 => ?_)
  · have e1 := xS1_n (S := S) (c := (H.2.1 57 0).toInt) h1
    have es : (xSt S (H.2.1 57 0).toInt (H.2.1 57 1).toInt x2.toInt true) = (xS2 S (H.2.1 57 0).toInt (H.2.1 57 1).toInt true) := (xSt_0 (congrArg Prod.fst e1)).trans (congrArg (fun z : Int × Int => xS2 S z.2 (H.2.1 57 1).toInt true) e1)
    refine xc57_sy2_1 W hS hC hc he rfl rfl rfl (fun H1 w1 w2 w3 w4 w5 w6 => ⟨H1, rfl, w1, w2, w3, ?_, ?_, ?_⟩) <;> rw [es]
    · exact w4
    · exact w5
    · exact w6
  · have h6 := xBe_64 (c := (H.2.1 57 0).toInt) (d := x2.toInt) hS
    have eo : (Int32.ofInt (xBe S.1 S.2.1 (H.2.1 57 0).toInt x2.toInt)).toInt = (xBe S.1 S.2.1 (H.2.1 57 0).toInt x2.toInt) := x_of (by omega) (by omega)
    have qn := xc_nc2 (L := L) (σ := σ) (d := d + 1) (xw := x2) W hS hC hc hd
    rw [if_neg h1] at qn
    refine zw_ld (n := 1) (k := 0) (f := zp_isR) (pc' := 6) rfl rfl rfl rfl rfl ?_
    refine zw_ld (n := 1) (k := 1) (f := zp_isR) (pc' := 7) rfl rfl rfl rfl rfl ?_
    refine zw_ld (n := 1) (k := 1) (f := zp_isR) (pc' := 8) rfl rfl rfl rfl rfl ?_
    refine zw_ld (n := 1) (k := 0) (f := zp_isR) (pc' := 9) rfl rfl rfl rfl rfl ?_
    refine zw_gI (q := 57) (pc' := 12) W rfl rfl rfl rfl rfl rfl ?_
    refine zw_ld (n := 1) (k := 2) (f := zp_isI) (pc' := 13) rfl rfl rfl rfl rfl ?_
    refine zw_c (pc' := 16) (zw_cv (q := 2) (Y := zm_30) W.1 rfl rfl zm_30_t rfl rfl) rfl rfl rfl rfl rfl (qn) ?_
    refine zw_s (pc' := 17) rfl rfl ?_
    by_cases h2 : (xBe S.1 S.2.1 (H.2.1 57 0).toInt x2.toInt) = -1
    · refine zw_cn (pc' := 20) (zw_cv (q := 57) (Y := zm_31) W.1 rfl rfl zm_31_t rfl rfl) rfl rfl rfl rfl rfl (xc57_g0_2 (d := d) W (eo.trans h2)) ?_
      have e1 := xS1_l (S := S) h1 h2
      have es : (xSt S (H.2.1 57 0).toInt (H.2.1 57 1).toInt x2.toInt true) = (3, (H.2.1 57 0).toInt) := (xSt_1 (fun h9 => absurd (show (3 : Int) = 0 from (congrArg Prod.fst e1).symm.trans h9) (by decide))).trans e1
      refine xc57_sn2_1 (zw_W_I W) rfl rfl rfl (by rw [show (zw_I H 57 2 (Int32.ofInt 3)).2.1 57 2 = Int32.ofInt 3 from zw_eq]; decide) ⟨_, rfl, zw_W_I W, xFr_I (xFr_r H) (by decide), zw_ne rfl rfl, ?_, ?_, ?_⟩ <;> rw [es]
      · exact (zw_ne rfl rfl).trans (x_oi _).symm
      · exact zw_eq
      · exact (zw_ne rfl rfl).trans (if_neg (fun h9 => absurd (show (3 : Int) = 0 from h9) (by decide))).symm
    · by_cases hr : yTb S.2.2.1 (xBe S.1 S.2.1 (H.2.1 57 0).toInt x2.toInt).toNat = true
      · refine zw_cn (pc' := 20) (zw_cv (q := 57) (Y := zm_31) W.1 rfl rfl zm_31_t rfl rfl) rfl rfl rfl rfl rfl (xc57_g1_2 (d := d) W (by omega) (by rw [eo, show H.2.2.1 2 3 = S.2.2.1 from hC.2.2.1]; exact hr)) ?_
        have e1 := xS1_r (S := S) h1 h2 hr
        have es : (xSt S (H.2.1 57 0).toInt (H.2.1 57 1).toInt x2.toInt true) = (1, (xBe S.1 S.2.1 (H.2.1 57 0).toInt x2.toInt)) := (xSt_1 (fun h9 => absurd (show (1 : Int) = 0 from (congrArg Prod.fst e1).symm.trans h9) (by decide))).trans e1
        refine xc57_sn2_1 (zw_W_I (zw_W_I W)) rfl rfl rfl (by rw [show (zw_I (zw_I H 57 0 (Int32.ofInt (xBe S.1 S.2.1 (H.2.1 57 0).toInt x2.toInt))) 57 2 (Int32.ofInt 1)).2.1 57 2 = Int32.ofInt 1 from zw_eq]; decide) ⟨_, rfl, zw_W_I (zw_W_I W), xFr_I (xFr_I (xFr_r H) (by decide)) (by decide), zw_ne (zw_ne rfl rfl) rfl, ?_, ?_, ?_⟩ <;> rw [es]
        · exact zw_ne zw_eq rfl
        · exact zw_eq
        · exact (zw_ne (zw_ne rfl rfl) rfl).trans (if_neg (fun h9 => absurd (show (1 : Int) = 0 from h9) (by decide))).symm
      · refine zw_cn (pc' := 20) (zw_cv (q := 57) (Y := zm_31) W.1 rfl rfl zm_31_t rfl rfl) rfl rfl rfl rfl rfl (xc57_g2_2 (d := d) W (by omega) (by rw [eo, show H.2.2.1 2 3 = S.2.2.1 from hC.2.2.1]; exact hr)) ?_
        have e1 := xS1_f (S := S) h1 h2 hr
        have es : (xSt S (H.2.1 57 0).toInt (H.2.1 57 1).toInt x2.toInt true) = xS2 S (xBe S.1 S.2.1 (H.2.1 57 0).toInt x2.toInt) (H.2.1 57 1).toInt true := (xSt_0 (congrArg Prod.fst e1)).trans (congrArg (fun z : Int × Int => xS2 S z.2 (H.2.1 57 1).toInt true) e1)
        have k0 : (zw_J (zw_I H 57 0 (Int32.ofInt (xBe S.1 S.2.1 (H.2.1 57 0).toInt x2.toInt))) 57 7 (H.2.2.1 57 7 ||| za_shl0 (Int64.ofNat 1) (Int32.ofInt (xBe S.1 S.2.1 (H.2.1 57 0).toInt x2.toInt)))).2.1 57 0 = Int32.ofInt (xBe S.1 S.2.1 (H.2.1 57 0).toInt x2.toInt) := zw_nj zw_eq
        have k1 : (zw_J (zw_I H 57 0 (Int32.ofInt (xBe S.1 S.2.1 (H.2.1 57 0).toInt x2.toInt))) 57 7 (H.2.2.1 57 7 ||| za_shl0 (Int64.ofNat 1) (Int32.ofInt (xBe S.1 S.2.1 (H.2.1 57 0).toInt x2.toInt)))).2.1 57 1 = H.2.1 57 1 := zw_nj (zw_ne rfl rfl)
        have k2 : (zw_J (zw_I H 57 0 (Int32.ofInt (xBe S.1 S.2.1 (H.2.1 57 0).toInt x2.toInt))) 57 7 (H.2.2.1 57 7 ||| za_shl0 (Int64.ofNat 1) (Int32.ofInt (xBe S.1 S.2.1 (H.2.1 57 0).toInt x2.toInt)))).2.1 57 2 = H.2.1 57 2 := zw_nj (zw_ne rfl rfl)
        have k4 : (zw_J (zw_I H 57 0 (Int32.ofInt (xBe S.1 S.2.1 (H.2.1 57 0).toInt x2.toInt))) 57 7 (H.2.2.1 57 7 ||| za_shl0 (Int64.ofNat 1) (Int32.ofInt (xBe S.1 S.2.1 (H.2.1 57 0).toInt x2.toInt)))).2.1 57 4 = H.2.1 57 4 := zw_nj (zw_ne rfl rfl)
        have fr : xFr 57 H (zw_J (zw_I H 57 0 (Int32.ofInt (xBe S.1 S.2.1 (H.2.1 57 0).toInt x2.toInt))) 57 7 (H.2.2.1 57 7 ||| za_shl0 (Int64.ofNat 1) (Int32.ofInt (xBe S.1 S.2.1 (H.2.1 57 0).toInt x2.toInt)))) := xFr_J (xFr_I (xFr_r H) (by decide))
        have hi : xIn S (xBe S.1 S.2.1 (H.2.1 57 0).toInt x2.toInt) := (xBe_b hS.1.1).resolve_left h2
        refine xc57_sy2_1 (S := S) (zw_W_J (zw_W_I W)) hS (xSC_f fr (by decide) hC) (by rw [k0, eo]; exact hi) (by rw [k2]; exact he) rfl rfl rfl (fun H1 w1 w2 w3 w4 w5 w6 => ?_)
        rw [k0, k1, eo] at w4 w5 w6
        rw [k4] at w3
        refine ⟨H1, rfl, w1, xFr_t fr w2, w3, ?_, ?_, ?_⟩ <;> rw [es]
        · exact w4
        · exact w5
        · exact w6

theorem xc57_g0_22 {L : Nat} {σ : Nat → Int32} {d : Nat} {H : zp_H} {x b : Int32} (W : zw_W H) (h : x.toInt = -1) : zp_Call L σ (d + 2) 31 [.inr (.inr (some 58)), .inr (.inr (some 23)), .inl x, .inl b] H (.inl none, zw_I H 57 2 (Int32.ofInt 3)) := by
  refine zw_ex (zw_met zm_31_t rfl rfl ?_)
  refine zw_ld (n := 1) (k := 2) (f := zp_isI) (pc' := 1) rfl rfl rfl rfl rfl ?_
  refine zw_s (pc' := 2) rfl rfl ?_
  refine zw_bne2 (g := 11) (pc' := 5) rfl rfl rfl rfl (rfl : _ = (-1 : Int)) (fun h1 => ?_) (fun h1 => ?_)
  · exact absurd h h1
  · refine zw_ld (n := 1) (k := 0) (f := zp_isR) (pc' := 6) rfl rfl rfl rfl rfl ?_
    refine zw_s (pc' := 7) rfl rfl ?_
    refine zw_pI (q := 57) (pc' := 10) W rfl rfl rfl rfl rfl rfl ?_
    refine zw_rn rfl rfl ?_
    rfl

theorem xc57_g1_22 {L : Nat} {σ : Nat → Int32} {d : Nat} {H : zp_H} {x b : Int32} (W : zw_W H) (hx : 0 ≤ x.toInt ∧ x.toInt ≤ 63) (hr : yTb (H.2.2.1 22 3) x.toInt.toNat = true) : zp_Call L σ (d + 2) 31 [.inr (.inr (some 58)), .inr (.inr (some 23)), .inl x, .inl b] H (.inl none, zw_I (zw_I H 57 0 x) 57 2 b) := by
  have q1 := yc_isr22 (L := L) (σ := σ) (d := d) (H := zw_I H 57 0 x) (zw_W_I W) hx
  rw [if_pos (show (yTb ((zw_I H 57 0 x).2.2.1 22 3) x.toInt.toNat = true) from hr)] at q1
  refine zw_ex (zw_met zm_31_t rfl rfl ?_)
  refine zw_ld (n := 1) (k := 2) (f := zp_isI) (pc' := 1) rfl rfl rfl rfl rfl ?_
  refine zw_s (pc' := 2) rfl rfl ?_
  refine zw_bne2 (g := 11) (pc' := 5) rfl rfl rfl rfl (rfl : _ = (-1 : Int)) (fun h1 => ?_) (fun h1 => ?_)
  · refine zw_ld (n := 1) (k := 0) (f := zp_isR) (pc' := 12) rfl rfl rfl rfl rfl ?_
    refine zw_ld (n := 1) (k := 2) (f := zp_isI) (pc' := 13) rfl rfl rfl rfl rfl ?_
    refine zw_pI (q := 57) (pc' := 16) W rfl rfl rfl rfl rfl rfl ?_
    refine zw_ld (n := 1) (k := 1) (f := zp_isR) (pc' := 17) rfl rfl rfl rfl rfl ?_
    refine zw_ld (n := 1) (k := 2) (f := zp_isI) (pc' := 18) rfl rfl rfl rfl rfl ?_
    refine zw_c (pc' := 21) (zw_cv (q := 22) (Y := zm_32) (zw_W_I W).1 rfl rfl zm_32_t rfl rfl) rfl rfl rfl rfl rfl (q1) ?_
    refine zw_beq1 (g := 32) (pc' := 24) rfl rfl rfl (rfl : _ = (1 : Int)) (fun h9 => absurd h9 (by decide)) (fun h2 => ?_)
    refine zw_ld (n := 1) (k := 0) (f := zp_isR) (pc' := 25) rfl rfl rfl rfl rfl ?_
    refine zw_ld (n := 1) (k := 3) (f := zp_isI) (pc' := 26) rfl rfl rfl rfl rfl ?_
    refine zw_pI (q := 57) (pc' := 29) (zw_W_I W) rfl rfl rfl rfl rfl rfl ?_
    refine zw_s (pc' := 45) rfl rfl ?_
    refine zw_rn rfl rfl ?_
    rfl
  · omega

theorem xc57_g2_22 {L : Nat} {σ : Nat → Int32} {d : Nat} {H : zp_H} {x b : Int32} (W : zw_W H) (hx : 0 ≤ x.toInt ∧ x.toInt ≤ 63) (hr : ¬ (yTb (H.2.2.1 22 3) x.toInt.toNat = true)) : zp_Call L σ (d + 2) 31 [.inr (.inr (some 58)), .inr (.inr (some 23)), .inl x, .inl b] H (.inl none, zw_J (zw_I H 57 0 x) 57 7 (H.2.2.1 57 7 ||| za_shl0 (Int64.ofNat 1) x)) := by
  have q1 := yc_isr22 (L := L) (σ := σ) (d := d) (H := zw_I H 57 0 x) (zw_W_I W) hx
  rw [if_neg (show ¬ (yTb ((zw_I H 57 0 x).2.2.1 22 3) x.toInt.toNat = true) from hr)] at q1
  refine zw_ex (zw_met zm_31_t rfl rfl ?_)
  refine zw_ld (n := 1) (k := 2) (f := zp_isI) (pc' := 1) rfl rfl rfl rfl rfl ?_
  refine zw_s (pc' := 2) rfl rfl ?_
  refine zw_bne2 (g := 11) (pc' := 5) rfl rfl rfl rfl (rfl : _ = (-1 : Int)) (fun h1 => ?_) (fun h1 => ?_)
  · refine zw_ld (n := 1) (k := 0) (f := zp_isR) (pc' := 12) rfl rfl rfl rfl rfl ?_
    refine zw_ld (n := 1) (k := 2) (f := zp_isI) (pc' := 13) rfl rfl rfl rfl rfl ?_
    refine zw_pI (q := 57) (pc' := 16) W rfl rfl rfl rfl rfl rfl ?_
    refine zw_ld (n := 1) (k := 1) (f := zp_isR) (pc' := 17) rfl rfl rfl rfl rfl ?_
    refine zw_ld (n := 1) (k := 2) (f := zp_isI) (pc' := 18) rfl rfl rfl rfl rfl ?_
    refine zw_c (pc' := 21) (zw_cv (q := 22) (Y := zm_32) (zw_W_I W).1 rfl rfl zm_32_t rfl rfl) rfl rfl rfl rfl rfl (q1) ?_
    refine zw_beq1 (g := 32) (pc' := 24) rfl rfl rfl (rfl : _ = (0 : Int)) (fun h2 => ?_) (fun h9 => absurd h9 (by decide))
    refine zw_ld (n := 1) (k := 0) (f := zp_isR) (pc' := 33) rfl rfl rfl rfl rfl ?_
    refine zw_s (pc' := 34) rfl rfl ?_
    refine zw_gL (q := 57) (pc' := 37) (zw_W_I W) rfl rfl rfl rfl rfl ?_
    refine zw_ld (n := 1) (k := 2) (f := zp_isI) (pc' := 38) rfl rfl rfl rfl rfl ?_
    refine zw_cx (pc' := 41) (zw_csx (Y := zm_4) rfl rfl zm_4_t) rfl rfl rfl rfl rfl (zn_bit) ?_
    refine zw_lor (pc' := 42) rfl rfl ?_
    refine zw_pL (q := 57) (pc' := 45) (zw_W_I W) rfl rfl rfl rfl rfl rfl ?_
    refine zw_rn rfl rfl ?_
    rfl
  · omega

theorem xc57_sn22_1 {L : Nat} {σ : Nat → Int32} {d : Nat} {H : zp_H} {P : zp_X → Prop} {lv : zp_LV} (W : zw_W H) (l0 : zp_get lv 0 = some (.inr (.inr (some 58)))) (l1 : zp_get lv 1 = some (.inr (.inr (some 23)))) (l3 : zp_get lv 3 = some (.inl (Int32.ofInt 1))) (he : ¬ (H.2.1 57 2).toInt = 0) (hP : P (.inl none, H)) : zs_Safe L σ P zm_29 [] (d + 2) (20, lv, [], H, (0, 0)) := by
  refine zw_ld (n := 1) (k := 3) (f := zp_isI) (pc' := 21) rfl rfl l3 rfl rfl ?_
  refine zw_beq1 (g := 46) (pc' := 24) rfl rfl rfl (rfl : _ = (1 : Int)) (fun h9 => absurd h9 (by decide)) (fun hb => ?_)
  refine zw_ld (n := 1) (k := 0) (f := zp_isR) (pc' := 25) rfl rfl l0 rfl rfl ?_
  refine zw_gI (q := 57) (pc' := 28) W rfl rfl rfl rfl rfl rfl ?_
  refine zw_bne1 (g := 46) (pc' := 31) rfl rfl rfl rfl (fun h1 => ?_) (fun h1 => ?_)
  · refine zw_s (pc' := 47) rfl rfl ?_
    refine zw_st (n := 2) (k := 4) (f := zp_isI) (pc' := 49) rfl rfl rfl rfl rfl ?_
    refine zw_ld (n := 2) (k := 4) (f := zp_isI) (pc' := 51) rfl rfl zw_g1 rfl rfl ?_
    refine zw_s (pc' := 52) rfl rfl ?_
    refine zw_beq2 (g := 63) (pc' := 55) rfl rfl rfl (rfl : _ = (-1 : Int)) (rfl : _ = (-1 : Int)) (fun hb => ?_) (fun h9 => absurd h9 (by decide))
    refine zw_ld (n := 1) (k := 0) (f := zp_isR) (pc' := 64) rfl rfl (zw_gt l0 rfl rfl) rfl rfl ?_
    refine zw_gI (q := 57) (pc' := 67) W rfl rfl rfl rfl rfl rfl ?_
    refine zw_bne1 (g := 80) (pc' := 70) rfl rfl rfl rfl (fun h2 => ?_) (fun h2 => ?_)
    · refine zw_rn rfl rfl ?_
      exact hP
    · exact absurd h2 he
  · exact absurd h1 he

theorem xc57_sy22_1 {L : Nat} {σ : Nat → Int32} {d : Nat} {H : zp_H} {P : zp_X → Prop} {lv : zp_LV} {S : xSea} (W : zw_W H) (hS : xOk S) (hC : xSC 22 H S) (hc : xIn S (H.2.1 57 0).toInt) (he : (H.2.1 57 2).toInt = 0) (l0 : zp_get lv 0 = some (.inr (.inr (some 58)))) (l1 : zp_get lv 1 = some (.inr (.inr (some 23)))) (l3 : zp_get lv 3 = some (.inl (Int32.ofInt 1))) (hP : ∀ H1, zw_W H1 → xFr 57 H H1 → H1.2.1 57 4 = H.2.1 57 4 → H1.2.1 57 0 = Int32.ofInt (xS2 S (H.2.1 57 0).toInt (H.2.1 57 1).toInt true).2 → H1.2.1 57 2 = Int32.ofInt (xS2 S (H.2.1 57 0).toInt (H.2.1 57 1).toInt true).1 → H1.2.1 57 1 = (if (xS2 S (H.2.1 57 0).toInt (H.2.1 57 1).toInt true).1 = 0 then H.2.1 57 1 + Int32.ofInt 1 else H.2.1 57 1) → P (.inl none, H1)) : zs_Safe L σ P zm_29 [] (d + 2) (20, lv, [], H, (0, 0)) := by
  have he0 : H.2.1 57 2 = Int32.ofInt 0 := Int32.toInt_inj.mp (he.trans (by decide))
  refine zw_ld (n := 1) (k := 3) (f := zp_isI) (pc' := 21) rfl rfl l3 rfl rfl ?_
  refine zw_beq1 (g := 46) (pc' := 24) rfl rfl rfl (rfl : _ = (1 : Int)) (fun h9 => absurd h9 (by decide)) (fun hb => ?_)
  refine zw_ld (n := 1) (k := 0) (f := zp_isR) (pc' := 25) rfl rfl l0 rfl rfl ?_
  refine zw_gI (q := 57) (pc' := 28) W rfl rfl rfl rfl rfl rfl ?_
  refine zw_bne1 (g := 46) (pc' := 31) rfl rfl rfl rfl (fun h1 => ?_) (fun h1 => ?_)
  · exact absurd he h1
  · refine zw_ld (n := 1) (k := 1) (f := zp_isR) (pc' := 32) rfl rfl l1 rfl rfl ?_
    refine zw_ld (n := 1) (k := 0) (f := zp_isR) (pc' := 33) rfl rfl l0 rfl rfl ?_
    refine zw_gI (q := 57) (pc' := 36) W rfl rfl rfl rfl rfl rfl ?_
    refine zw_ld (n := 1) (k := 0) (f := zp_isR) (pc' := 37) rfl rfl l0 rfl rfl ?_
    refine zw_gI (q := 57) (pc' := 40) W rfl rfl rfl rfl rfl rfl ?_
    refine zw_c (pc' := 43) (zw_cv (q := 22) (Y := zm_33) W.1 rfl rfl zm_33_t rfl rfl) rfl rfl rfl rfl rfl (xc_dr22 W hS hC hc) ?_
    refine zw_s (pc' := 47) rfl rfl ?_
    refine zw_st (n := 2) (k := 4) (f := zp_isI) (pc' := 49) rfl rfl rfl rfl rfl ?_
    have h6 := xDr_64 (c := (H.2.1 57 0).toInt) (hr := (H.2.1 57 1).toInt) (t := true) hS
    have eo : (Int32.ofInt (xDr S (H.2.1 57 0).toInt (H.2.1 57 1).toInt true)).toInt = (xDr S (H.2.1 57 0).toInt (H.2.1 57 1).toInt true) := x_of (by omega) (by omega)
    have n0 : (H.2.1 57 0).toInt = (H.2.1 57 0).toInt := rfl
    refine zw_ld (n := 2) (k := 4) (f := zp_isI) (pc' := 51) rfl rfl zw_g1 rfl rfl ?_
    refine zw_s (pc' := 52) rfl rfl ?_
    refine zw_beq2 (g := 63) (pc' := 55) rfl rfl rfl rfl (rfl : _ = (-1 : Int)) (fun h2 => ?_) (fun h2 => ?_)
    · have h2 : (Int32.ofInt (xDr S (H.2.1 57 0).toInt (H.2.1 57 1).toInt true)).toInt = -1 := h2
      have h3 : (xDr S (H.2.1 57 0).toInt (H.2.1 57 1).toInt true) = -1 := by omega
      refine zw_ld (n := 1) (k := 0) (f := zp_isR) (pc' := 64) rfl rfl (zw_gt l0 rfl rfl) rfl rfl ?_
      refine zw_gI (q := 57) (pc' := 67) W rfl rfl rfl rfl rfl rfl ?_
      refine zw_bne1 (g := 80) (pc' := 70) rfl rfl rfl rfl (fun h7 => ?_) (fun h7 => ?_)
      · exact absurd he h7
      · refine zw_ld (n := 1) (k := 0) (f := zp_isR) (pc' := 71) rfl rfl (zw_gt l0 rfl rfl) rfl rfl ?_
        refine zw_s (pc' := 72) rfl rfl ?_
        refine zw_gI (q := 57) (pc' := 75) W rfl rfl rfl rfl rfl rfl ?_
        refine zw_s (pc' := 76) rfl rfl ?_
        refine zw_iadd (pc' := 77) rfl rfl ?_
        refine zw_pI (q := 57) (pc' := 80) W rfl rfl rfl rfl rfl rfl ?_
        refine zw_rn rfl rfl ?_
        have es := xS2_n (S := S) (c := (H.2.1 57 0).toInt) (hr := (H.2.1 57 1).toInt) h3
        rw [es] at hP
        exact hP _ (zw_W_I W) (xFr_I (xFr_r H) (by decide)) (zw_ne rfl rfl) ((zw_ne rfl rfl).trans (x_oi _).symm) ((zw_ne rfl rfl).trans he0) (zw_eq.trans (if_pos rfl).symm)
    · have h2 : ¬ (Int32.ofInt (xDr S (H.2.1 57 0).toInt (H.2.1 57 1).toInt true)).toInt = -1 := h2
      have h3 : (xDr S (H.2.1 57 0).toInt (H.2.1 57 1).toInt true) ≠ -1 := by omega
      refine zw_ld (n := 1) (k := 0) (f := zp_isR) (pc' := 56) rfl rfl (zw_gt l0 rfl rfl) rfl rfl ?_
      refine zw_ld (n := 1) (k := 1) (f := zp_isR) (pc' := 57) rfl rfl (zw_gt l1 rfl rfl) rfl rfl ?_
      refine zw_ld (n := 2) (k := 4) (f := zp_isI) (pc' := 59) rfl rfl zw_g1 rfl rfl ?_
      refine zw_s (pc' := 60) rfl rfl ?_
      by_cases hr : yTb S.2.2.1 (xDr S (H.2.1 57 0).toInt (H.2.1 57 1).toInt true).toNat = true
      · refine zw_cn (pc' := 63) (zw_cv (q := 57) (Y := zm_31) W.1 rfl rfl zm_31_t rfl rfl) rfl rfl rfl rfl rfl (xc57_g1_22 (d := d) W (by omega) (by rw [eo, show H.2.2.1 22 3 = S.2.2.1 from hC.2.2.1]; exact hr)) ?_
        refine zw_ld (n := 1) (k := 0) (f := zp_isR) (pc' := 64) rfl rfl (zw_gt l0 rfl rfl) rfl rfl ?_
        refine zw_gI (q := 57) (pc' := 67) (zw_W_I (zw_W_I W)) rfl rfl rfl rfl zw_eq rfl ?_
        refine zw_bne1 (g := 80) (pc' := 70) rfl rfl rfl rfl (fun h7 => ?_) (fun h7 => ?_)
        · refine zw_rn rfl rfl ?_
          have es := xS2_r (S := S) (c := (H.2.1 57 0).toInt) (hr := (H.2.1 57 1).toInt) h3 hr
          rw [es] at hP
          exact hP _ (zw_W_I (zw_W_I W)) (xFr_I (xFr_I (xFr_r H) (by decide)) (by decide)) (zw_ne (zw_ne rfl rfl) rfl) ((zw_ne zw_eq rfl)) (zw_eq) ((zw_ne (zw_ne rfl rfl) rfl).trans (if_neg (fun h9 => absurd (show (2 : Int) = 0 from h9) (by decide))).symm)
        · exact absurd h7 (by decide)
      · refine zw_cn (pc' := 63) (zw_cv (q := 57) (Y := zm_31) W.1 rfl rfl zm_31_t rfl rfl) rfl rfl rfl rfl rfl (xc57_g2_22 (d := d) W (by omega) (by rw [eo, show H.2.2.1 22 3 = S.2.2.1 from hC.2.2.1]; exact hr)) ?_
        refine zw_ld (n := 1) (k := 0) (f := zp_isR) (pc' := 64) rfl rfl (zw_gt l0 rfl rfl) rfl rfl ?_
        refine zw_gI (q := 57) (pc' := 67) (zw_W_J (zw_W_I W)) rfl rfl rfl rfl (zw_nj (zw_ne rfl rfl)) rfl ?_
        refine zw_bne1 (g := 80) (pc' := 70) rfl rfl rfl rfl (fun h7 => ?_) (fun h7 => ?_)
        · exact absurd he h7
        · refine zw_ld (n := 1) (k := 0) (f := zp_isR) (pc' := 71) rfl rfl (zw_gt l0 rfl rfl) rfl rfl ?_
          refine zw_s (pc' := 72) rfl rfl ?_
          refine zw_gI (q := 57) (pc' := 75) (zw_W_J (zw_W_I W)) rfl rfl rfl rfl (zw_nj (zw_ne rfl rfl)) rfl ?_
          refine zw_s (pc' := 76) rfl rfl ?_
          refine zw_iadd (pc' := 77) rfl rfl ?_
          refine zw_pI (q := 57) (pc' := 80) (zw_W_J (zw_W_I W)) rfl rfl rfl rfl rfl rfl ?_
          refine zw_rn rfl rfl ?_
          have es := xS2_f (S := S) (c := (H.2.1 57 0).toInt) (hr := (H.2.1 57 1).toInt) h3 hr
          rw [es] at hP
          exact hP _ (zw_W_I (zw_W_J (zw_W_I W))) (xFr_I (xFr_J (xFr_I (xFr_r H) (by decide))) (by decide)) (zw_ne (zw_nj (zw_ne rfl rfl)) rfl) ((zw_ne (zw_nj zw_eq) rfl)) ((zw_ne (zw_nj (zw_ne rfl rfl)) rfl).trans he0) (zw_eq.trans (if_pos rfl).symm)

theorem xc57_sail22_1 {L : Nat} {σ : Nat → Int32} {d : Nat} {H : zp_H} {x2 : Int32} {S : xSea} (W : zw_W H) (hS : xOk S) (hC : xSC 22 H S) (hc : xIn S (H.2.1 57 0).toInt) (he : (H.2.1 57 2).toInt = 0) (hd : -1 ≤ x2.toInt ∧ x2.toInt ≤ 3) : ∃ X, zp_Call L σ (d + 3) 29 [.inr (.inr (some 58)), .inr (.inr (some 23)), .inl x2, .inl (Int32.ofInt 1)] H X ∧ ∃ H1, X = (.inl none, H1) ∧ zw_W H1 ∧ xFr 57 H H1 ∧ H1.2.1 57 4 = H.2.1 57 4 ∧ H1.2.1 57 0 = Int32.ofInt (xSt S (H.2.1 57 0).toInt (H.2.1 57 1).toInt x2.toInt true).2 ∧ H1.2.1 57 2 = Int32.ofInt (xSt S (H.2.1 57 0).toInt (H.2.1 57 1).toInt x2.toInt true).1 ∧ H1.2.1 57 1 = (if (xSt S (H.2.1 57 0).toInt (H.2.1 57 1).toInt x2.toInt true).1 = 0 then H.2.1 57 1 + Int32.ofInt 1 else H.2.1 57 1) := by
  refine zw_met zm_29_t rfl rfl ?_
  refine zw_ld (n := 1) (k := 2) (f := zp_isI) (pc' := 1) rfl rfl rfl rfl rfl ?_
  refine zw_s (pc' := 2) rfl rfl ?_
  refine zw_beq2 (g := 20) (pc' := 5) rfl rfl rfl rfl (rfl : _ = (-1 : Int)) (fun h1 => ?_) (fun h1 => ?_)
  · have e1 := xS1_n (S := S) (c := (H.2.1 57 0).toInt) h1
    have es : (xSt S (H.2.1 57 0).toInt (H.2.1 57 1).toInt x2.toInt true) = (xS2 S (H.2.1 57 0).toInt (H.2.1 57 1).toInt true) := (xSt_0 (congrArg Prod.fst e1)).trans (congrArg (fun z : Int × Int => xS2 S z.2 (H.2.1 57 1).toInt true) e1)
    refine xc57_sy22_1 W hS hC hc he rfl rfl rfl (fun H1 w1 w2 w3 w4 w5 w6 => ⟨H1, rfl, w1, w2, w3, ?_, ?_, ?_⟩) <;> rw [es]
    · exact w4
    · exact w5
    · exact w6
  · have h6 := xBe_64 (c := (H.2.1 57 0).toInt) (d := x2.toInt) hS
    have eo : (Int32.ofInt (xBe S.1 S.2.1 (H.2.1 57 0).toInt x2.toInt)).toInt = (xBe S.1 S.2.1 (H.2.1 57 0).toInt x2.toInt) := x_of (by omega) (by omega)
    have qn := xc_nc22 (L := L) (σ := σ) (d := d + 1) (xw := x2) W hS hC hc hd
    rw [if_neg h1] at qn
    refine zw_ld (n := 1) (k := 0) (f := zp_isR) (pc' := 6) rfl rfl rfl rfl rfl ?_
    refine zw_ld (n := 1) (k := 1) (f := zp_isR) (pc' := 7) rfl rfl rfl rfl rfl ?_
    refine zw_ld (n := 1) (k := 1) (f := zp_isR) (pc' := 8) rfl rfl rfl rfl rfl ?_
    refine zw_ld (n := 1) (k := 0) (f := zp_isR) (pc' := 9) rfl rfl rfl rfl rfl ?_
    refine zw_gI (q := 57) (pc' := 12) W rfl rfl rfl rfl rfl rfl ?_
    refine zw_ld (n := 1) (k := 2) (f := zp_isI) (pc' := 13) rfl rfl rfl rfl rfl ?_
    refine zw_c (pc' := 16) (zw_cv (q := 22) (Y := zm_30) W.1 rfl rfl zm_30_t rfl rfl) rfl rfl rfl rfl rfl (qn) ?_
    refine zw_s (pc' := 17) rfl rfl ?_
    by_cases h2 : (xBe S.1 S.2.1 (H.2.1 57 0).toInt x2.toInt) = -1
    · refine zw_cn (pc' := 20) (zw_cv (q := 57) (Y := zm_31) W.1 rfl rfl zm_31_t rfl rfl) rfl rfl rfl rfl rfl (xc57_g0_22 (d := d) W (eo.trans h2)) ?_
      have e1 := xS1_l (S := S) h1 h2
      have es : (xSt S (H.2.1 57 0).toInt (H.2.1 57 1).toInt x2.toInt true) = (3, (H.2.1 57 0).toInt) := (xSt_1 (fun h9 => absurd (show (3 : Int) = 0 from (congrArg Prod.fst e1).symm.trans h9) (by decide))).trans e1
      refine xc57_sn22_1 (zw_W_I W) rfl rfl rfl (by rw [show (zw_I H 57 2 (Int32.ofInt 3)).2.1 57 2 = Int32.ofInt 3 from zw_eq]; decide) ⟨_, rfl, zw_W_I W, xFr_I (xFr_r H) (by decide), zw_ne rfl rfl, ?_, ?_, ?_⟩ <;> rw [es]
      · exact (zw_ne rfl rfl).trans (x_oi _).symm
      · exact zw_eq
      · exact (zw_ne rfl rfl).trans (if_neg (fun h9 => absurd (show (3 : Int) = 0 from h9) (by decide))).symm
    · by_cases hr : yTb S.2.2.1 (xBe S.1 S.2.1 (H.2.1 57 0).toInt x2.toInt).toNat = true
      · refine zw_cn (pc' := 20) (zw_cv (q := 57) (Y := zm_31) W.1 rfl rfl zm_31_t rfl rfl) rfl rfl rfl rfl rfl (xc57_g1_22 (d := d) W (by omega) (by rw [eo, show H.2.2.1 22 3 = S.2.2.1 from hC.2.2.1]; exact hr)) ?_
        have e1 := xS1_r (S := S) h1 h2 hr
        have es : (xSt S (H.2.1 57 0).toInt (H.2.1 57 1).toInt x2.toInt true) = (1, (xBe S.1 S.2.1 (H.2.1 57 0).toInt x2.toInt)) := (xSt_1 (fun h9 => absurd (show (1 : Int) = 0 from (congrArg Prod.fst e1).symm.trans h9) (by decide))).trans e1
        refine xc57_sn22_1 (zw_W_I (zw_W_I W)) rfl rfl rfl (by rw [show (zw_I (zw_I H 57 0 (Int32.ofInt (xBe S.1 S.2.1 (H.2.1 57 0).toInt x2.toInt))) 57 2 (Int32.ofInt 1)).2.1 57 2 = Int32.ofInt 1 from zw_eq]; decide) ⟨_, rfl, zw_W_I (zw_W_I W), xFr_I (xFr_I (xFr_r H) (by decide)) (by decide), zw_ne (zw_ne rfl rfl) rfl, ?_, ?_, ?_⟩ <;> rw [es]
        · exact zw_ne zw_eq rfl
        · exact zw_eq
        · exact (zw_ne (zw_ne rfl rfl) rfl).trans (if_neg (fun h9 => absurd (show (1 : Int) = 0 from h9) (by decide))).symm
      · refine zw_cn (pc' := 20) (zw_cv (q := 57) (Y := zm_31) W.1 rfl rfl zm_31_t rfl rfl) rfl rfl rfl rfl rfl (xc57_g2_22 (d := d) W (by omega) (by rw [eo, show H.2.2.1 22 3 = S.2.2.1 from hC.2.2.1]; exact hr)) ?_
        have e1 := xS1_f (S := S) h1 h2 hr
        have es : (xSt S (H.2.1 57 0).toInt (H.2.1 57 1).toInt x2.toInt true) = xS2 S (xBe S.1 S.2.1 (H.2.1 57 0).toInt x2.toInt) (H.2.1 57 1).toInt true := (xSt_0 (congrArg Prod.fst e1)).trans (congrArg (fun z : Int × Int => xS2 S z.2 (H.2.1 57 1).toInt true) e1)
        have k0 : (zw_J (zw_I H 57 0 (Int32.ofInt (xBe S.1 S.2.1 (H.2.1 57 0).toInt x2.toInt))) 57 7 (H.2.2.1 57 7 ||| za_shl0 (Int64.ofNat 1) (Int32.ofInt (xBe S.1 S.2.1 (H.2.1 57 0).toInt x2.toInt)))).2.1 57 0 = Int32.ofInt (xBe S.1 S.2.1 (H.2.1 57 0).toInt x2.toInt) := zw_nj zw_eq
        have k1 : (zw_J (zw_I H 57 0 (Int32.ofInt (xBe S.1 S.2.1 (H.2.1 57 0).toInt x2.toInt))) 57 7 (H.2.2.1 57 7 ||| za_shl0 (Int64.ofNat 1) (Int32.ofInt (xBe S.1 S.2.1 (H.2.1 57 0).toInt x2.toInt)))).2.1 57 1 = H.2.1 57 1 := zw_nj (zw_ne rfl rfl)
        have k2 : (zw_J (zw_I H 57 0 (Int32.ofInt (xBe S.1 S.2.1 (H.2.1 57 0).toInt x2.toInt))) 57 7 (H.2.2.1 57 7 ||| za_shl0 (Int64.ofNat 1) (Int32.ofInt (xBe S.1 S.2.1 (H.2.1 57 0).toInt x2.toInt)))).2.1 57 2 = H.2.1 57 2 := zw_nj (zw_ne rfl rfl)
        have k4 : (zw_J (zw_I H 57 0 (Int32.ofInt (xBe S.1 S.2.1 (H.2.1 57 0).toInt x2.toInt))) 57 7 (H.2.2.1 57 7 ||| za_shl0 (Int64.ofNat 1) (Int32.ofInt (xBe S.1 S.2.1 (H.2.1 57 0).toInt x2.toInt)))).2.1 57 4 = H.2.1 57 4 := zw_nj (zw_ne rfl rfl)
        have fr : xFr 57 H (zw_J (zw_I H 57 0 (Int32.ofInt (xBe S.1 S.2.1 (H.2.1 57 0).toInt x2.toInt))) 57 7 (H.2.2.1 57 7 ||| za_shl0 (Int64.ofNat 1) (Int32.ofInt (xBe S.1 S.2.1 (H.2.1 57 0).toInt x2.toInt)))) := xFr_J (xFr_I (xFr_r H) (by decide))
        have hi : xIn S (xBe S.1 S.2.1 (H.2.1 57 0).toInt x2.toInt) := (xBe_b hS.1.1).resolve_left h2
        refine xc57_sy22_1 (S := S) (zw_W_J (zw_W_I W)) hS (xSC_f fr (by decide) hC) (by rw [k0, eo]; exact hi) (by rw [k2]; exact he) rfl rfl rfl (fun H1 w1 w2 w3 w4 w5 w6 => ?_)
        rw [k0, k1, eo] at w4 w5 w6
        rw [k4] at w3
        refine ⟨H1, rfl, w1, xFr_t fr w2, w3, ?_, ?_, ?_⟩ <;> rw [es]
        · exact w4
        · exact w5
        · exact w6
