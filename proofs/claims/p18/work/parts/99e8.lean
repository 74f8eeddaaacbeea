/-! ===== the reference: slates ===== -/
def zm_187 : za_MI := (yX12_readsSlate, prog_14_method_38_code, 3, none, 12, 0, 0, [], za_i187)
theorem zm_187_t : za_MT 187 = some zm_187 := rfl
set_option maxRecDepth 8000 in
theorem yB_840 {j : Nat} {x : Int32} {H : zp_H} (hB : zk_Bs zR zg zJ H) (hj : j % 4 = 0) (hx : 0 ≤ x.toInt ∧ x.toInt ≤ 63) : zk_Bs zR zg zJ (zw_I H 84 j x) := yB_a hB (t := 0) (m := 32) rfl (fun r hr => by
  have hr : [((0 : Int), (63 : Int)), (((-2147483648) : Int), (2147483647 : Int)), ((0 : Int), (8 : Int)), ((0 : Int), (255 : Int))][j % 4]? = some r := hr
  rw [hj] at hr
  cases hr
  exact hx) rfl (by decide)
theorem yB_841 {j : Nat} {x : Int32} {H : zp_H} (hB : zk_Bs zR zg zJ H) (hj : j % 4 = 1) : zk_Bs zR zg zJ (zw_I H 84 j x) := yB_a hB (t := 0) (m := 32) rfl (fun r hr => by
  have hr : [((0 : Int), (63 : Int)), (((-2147483648) : Int), (2147483647 : Int)), ((0 : Int), (8 : Int)), ((0 : Int), (255 : Int))][j % 4]? = some r := hr
  rw [hj] at hr
  cases hr
  exact zl_full _) rfl (by decide)
theorem yB_842 {j : Nat} {x : Int32} {H : zp_H} (hB : zk_Bs zR zg zJ H) (hj : j % 4 = 2) (hx : 0 ≤ x.toInt ∧ x.toInt ≤ 8) : zk_Bs zR zg zJ (zw_I H 84 j x) := yB_a hB (t := 0) (m := 32) rfl (fun r hr => by
  have hr : [((0 : Int), (63 : Int)), (((-2147483648) : Int), (2147483647 : Int)), ((0 : Int), (8 : Int)), ((0 : Int), (255 : Int))][j % 4]? = some r := hr
  rw [hj] at hr
  cases hr
  exact hx) rfl (by decide)
theorem yB_843 {j : Nat} {x : Int32} {H : zp_H} (hB : zk_Bs zR zg zJ H) (hj : j % 4 = 3) (hx : 0 ≤ x.toInt ∧ x.toInt ≤ 255) : zk_Bs zR zg zJ (zw_I H 84 j x) := yB_a hB (t := 0) (m := 32) rfl (fun r hr => by
  have hr : [((0 : Int), (63 : Int)), (((-2147483648) : Int), (2147483647 : Int)), ((0 : Int), (8 : Int)), ((0 : Int), (255 : Int))][j % 4]? = some r := hr
  rw [hj] at hr
  cases hr
  exact hx) rfl (by decide)
theorem yB_850 {j : Nat} {x : Int32} {H : zp_H} (hB : zk_Bs zR zg zJ H) (hj : j % 2 = 0) (hx : 0 ≤ x.toInt ∧ x.toInt ≤ 3) : zk_Bs zR zg zJ (zw_I H 85 j x) := yB_a hB (t := 0) (m := 128) rfl (fun r hr => by
  have hr : [((0 : Int), (3 : Int)), (((-2147483648) : Int), (2147483647 : Int))][j % 2]? = some r := hr
  rw [hj] at hr
  cases hr
  exact hx) rfl (by decide)
theorem yB_851 {j : Nat} {x : Int32} {H : zp_H} (hB : zk_Bs zR zg zJ H) (hj : j % 2 = 1) : zk_Bs zR zg zJ (zw_I H 85 j x) := yB_a hB (t := 0) (m := 128) rfl (fun r hr => by
  have hr : [((0 : Int), (3 : Int)), (((-2147483648) : Int), (2147483647 : Int))][j % 2]? = some r := hr
  rw [hj] at hr
  cases hr
  exact zl_full _) rfl (by decide)
theorem yB_870 {j : Nat} {x : Int32} {H : zp_H} (hB : zk_Bs zR zg zJ H) (hj : j % 3 = 0) (hx : 0 ≤ x.toInt ∧ x.toInt ≤ 63) : zk_Bs zR zg zJ (zw_I H 87 j x) := yB_a hB (t := 0) (m := 12) rfl (fun r hr => by
  have hr : [((0 : Int), (63 : Int)), (((-2147483648) : Int), (2147483647 : Int)), (((-2147483648) : Int), (2147483647 : Int))][j % 3]? = some r := hr
  rw [hj] at hr
  cases hr
  exact hx) rfl (by decide)
theorem yB_871 {j : Nat} {x : Int32} {H : zp_H} (hB : zk_Bs zR zg zJ H) (hj : j % 3 = 1) : zk_Bs zR zg zJ (zw_I H 87 j x) := yB_a hB (t := 0) (m := 12) rfl (fun r hr => by
  have hr : [((0 : Int), (63 : Int)), (((-2147483648) : Int), (2147483647 : Int)), (((-2147483648) : Int), (2147483647 : Int))][j % 3]? = some r := hr
  rw [hj] at hr
  cases hr
  exact zl_full _) rfl (by decide)
theorem yB_872 {j : Nat} {x : Int32} {H : zp_H} (hB : zk_Bs zR zg zJ H) (hj : j % 3 = 2) : zk_Bs zR zg zJ (zw_I H 87 j x) := yB_a hB (t := 0) (m := 12) rfl (fun r hr => by
  have hr : [((0 : Int), (63 : Int)), (((-2147483648) : Int), (2147483647 : Int)), (((-2147483648) : Int), (2147483647 : Int))][j % 3]? = some r := hr
  rw [hj] at hr
  cases hr
  exact zl_full _) rfl (by decide)
theorem yB_g {k : Nat} {x : Int32} {H : zp_H} (hB : zk_Bs zR zg zJ H) (hr : ∀ r, zB_l2 zR_fr 72 k = some r → r.1 ≤ x.toInt ∧ x.toInt ≤ r.2) (hk : Nat.beq k 100 = false) (hz : zR_fz 72 k = false) (h3 : k ≠ 23 ∧ k ≠ 34 ∧ k ≠ 35) : zk_Bs zR zg zJ (zw_I H 72 k x) := by
  refine yB_f hB hr hk hz ?_
  have c := zR_cn hB
  unfold zR_cc at c ⊢
  rw [y_ne (fun h9 => h3.1 h9.2.symm), y_ne (fun h9 => h3.2.1 h9.2.symm), y_ne (fun h9 => h3.2.2 h9.2.symm)]
  exact c
theorem y_two {x : Int32} (hx : 0 ≤ x.toInt ∧ x.toInt ≤ 100) : (Int32.ofInt 2 * x).toInt = 2 * x.toInt := zt_mul (by decide) (by omega)
theorem y_b1 : ∀ z : Int32, (z &&& Int32.ofInt 1).toInt = 0 ∨ (z &&& Int32.ofInt 1).toInt = 1 := by
  intro z
  have e : (z &&& Int32.ofInt 1).toBitVec.toNat = z.toBitVec.toNat % 2 := by
    rw [Int32.toBitVec_and, BitVec.toNat_and, show (Int32.ofInt 1).toBitVec.toNat = 2 ^ 1 - 1 from by decide, Nat.and_two_pow_sub_one_eq_mod]
  rw [← Int32.toInt_toBitVec, BitVec.toInt_eq_toNat_of_lt (by rw [e]; omega), e]
  omega

set_option maxHeartbeats 4000000 in
set_option maxRecDepth 8000 in
theorem yx_slT {L : Nat} {σ : Nat → Int32} {d : Nat} {T : Nat → Int} {n p : Nat} {dd : yLD} {H : zp_H} {lv : zp_LV} {x1 x2 : Int32} (hB : zk_Bs zR zg zJ H) {dc : yLD} (hs : yS T n (0, [], 0, 0, 0, dd, p) (fun q => (50, [], 0, 0, 0, (yU dc.1 4 (dc.1 4 + 1), dc.2), q)) H) (hD : yDr dc H) (hX : xXr T n [220 + (dc.1 4).toNat, 230 + (dc.1 4).toNat] dc H) (hq : dc.1 (220 + (dc.1 4).toNat) = x2.toInt ∧ dc.1 (230 + (dc.1 4).toNat) = 0) (h4 : 0 ≤ dc.1 4 ∧ dc.1 4 < 8) (h1 : x1.toInt = 4 * dc.1 4) (h2 : 0 ≤ x2.toInt ∧ x2.toInt ≤ 8) (l0 : zp_get lv 0 = some (.inr (.inr (some 73)))) (l1 : zp_get lv 1 = some (.inl x1)) (l2 : zp_get lv 2 = some (.inl x2)) : zs_Safe L σ (yRr T n dd p) zm_187 [] (d + 5) (137, lv, [], H, (0, 0)) := by
  have W := zR_Wd (zR_dn hB)
  have e2 : (x1 + Int32.ofInt 2).toInt = x1.toInt + 2 := y_ad (by show _ ≤ _ + (2 : Int) ∧ _ + (2 : Int) ≤ _; omega)
  have e3 : (x1 + Int32.ofInt 3).toInt = x1.toInt + 3 := y_ad (by show _ ≤ _ + (3 : Int) ∧ _ + (3 : Int) ≤ _; omega)
  have b1 : zk_Bs zR zg zJ (zw_I H 84 (x1 + Int32.ofInt 2).toInt.toNat (zp_nar 0 x2)) := yB_842 (x := x2) hB (by omega) h2
  have b2 : zk_Bs zR zg zJ (zw_I (zw_I H 84 (x1 + Int32.ofInt 2).toInt.toNat (zp_nar 0 x2)) 84 (x1 + Int32.ofInt 3).toInt.toNat (zp_nar 0 (Int32.ofInt 0))) := yB_843 (x := Int32.ofInt 0) b1 (by omega) (by decide)
  have S2 := yS_a (p := 84) (k := (x1 + Int32.ofInt 3).toInt.toNat) (x := zp_nar 0 (Int32.ofInt 0)) (by decide) (yS_a (p := 84) (k := (x1 + Int32.ofInt 2).toInt.toNat) (x := zp_nar 0 x2) (by decide) hs)
  have s8 : (dc.1 4).toNat < 8 := by omega
  have X1 := xXr_wc (i0 := 220 + (dc.1 4).toNat) (x := zp_nar 0 x2) yRl_inj (by omega) (show yRl (220 + (dc.1 4).toNat) = (84, (x1 + Int32.ofInt 2).toInt.toNat) by
    rw [yQ_220 (by omega)]
    exact congrArg (Prod.mk _) (by omega)) (show x2.toInt = _ from hq.1.symm) hX
  have X2 := xXr_wc (i0 := 230 + (dc.1 4).toNat) (x := zp_nar 0 (Int32.ofInt 0)) yRl_inj (by omega) (show yRl (230 + (dc.1 4).toNat) = (84, (x1 + Int32.ofInt 3).toInt.toNat) by
    rw [yQ_230 (by omega)]
    exact congrArg (Prod.mk _) (by omega)) (show (0 : Int) = _ from hq.2.symm) X1
  have D2 := yDr_a (p := 84) (k := (x1 + Int32.ofInt 3).toInt.toNat) (x := zp_nar 0 (Int32.ofInt 0)) (by decide) (yDr_a (p := 84) (k := (x1 + Int32.ofInt 2).toInt.toNat) (x := zp_nar 0 x2) (by decide) hD)
  have W1 := zR_Wd (zR_dn b1)
  refine zw_ld (n := 1) (k := 0) (f := zp_isR) (pc' := 138) rfl rfl l0 rfl rfl ?_
  refine zw_gR (q := 72) (pc' := 141) W rfl rfl rfl rfl (W.2 72 53 _ rfl) rfl ?_
  refine zw_ld (n := 1) (k := 1) (f := zp_isI) (pc' := 142) rfl rfl l1 rfl rfl ?_
  refine zw_s (pc' := 143) rfl rfl ?_
  refine zw_iadd (pc' := 144) rfl rfl ?_
  refine zw_ld (n := 1) (k := 2) (f := zp_isI) (pc' := 145) rfl rfl l2 rfl rfl ?_
  refine zw_is (q := 84) (pc' := 146) W rfl rfl (by decide) (⟨by omega, by show _ < ((32 : Nat) : Int); omega⟩) rfl ?_
  refine zw_ld (n := 1) (k := 0) (f := zp_isR) (pc' := 147) rfl rfl l0 rfl rfl ?_
  refine zw_gR (q := 72) (pc' := 150) W1 rfl rfl rfl rfl (W1.2 72 53 _ rfl) rfl ?_
  refine zw_ld (n := 1) (k := 1) (f := zp_isI) (pc' := 151) rfl rfl l1 rfl rfl ?_
  refine zw_s (pc' := 152) rfl rfl ?_
  refine zw_iadd (pc' := 153) rfl rfl ?_
  refine zw_s (pc' := 154) rfl rfl ?_
  refine zw_is (q := 84) (pc' := 155) W1 rfl rfl (by decide) (⟨by omega, by show _ < ((32 : Nat) : Int); omega⟩) rfl ?_
  generalize zw_I (zw_I H 84 (x1 + Int32.ofInt 2).toInt.toNat (zp_nar 0 x2)) 84 (x1 + Int32.ofInt 3).toInt.toNat (zp_nar 0 (Int32.ofInt 0)) = K at b2 S2 D2 X2 ⊢
  have WK := zR_Wd (zR_dn b2)
  have k38 : (K.2.1 72 38).toInt = dc.1 4 := D2.2.2.2.1
  have e1 : (K.2.1 72 38 + Int32.ofInt 1).toInt = (K.2.1 72 38).toInt + 1 := zw_p1 (by omega)
  refine zw_ld (n := 1) (k := 0) (f := zp_isR) (pc' := 156) rfl rfl l0 rfl rfl ?_
  by_cases hg : (K.2.1 72 23).toInt = 0
  · refine zw_c (pc' := 159) (zw_cv (q := 72) (Y := zm_175) WK.1 rfl rfl zm_175_t rfl rfl) rfl rfl rfl rfl rfl (zq_good1 WK hg) ?_
    refine zw_beq1 (g := 172) (pc' := 162) rfl rfl rfl (rfl : _ = (1 : Int)) (fun h9 => absurd h9 (by decide)) (fun hb => ?_)
    refine zw_ld (n := 1) (k := 0) (f := zp_isR) (pc' := 163) rfl rfl l0 rfl rfl ?_
    refine zw_s (pc' := 164) rfl rfl ?_
    refine zw_gI (q := 72) (pc' := 167) WK rfl rfl rfl rfl rfl rfl ?_
    refine zw_s (pc' := 168) rfl rfl ?_
    refine zw_iadd (pc' := 169) rfl rfl ?_
    refine zw_pI (q := 72) (pc' := 172) WK rfl rfl rfl rfl rfl rfl ?_
    refine zw_rn rfl rfl ?_
    exact ⟨_, rfl, yB_g b2 (fun r hr => by cases hr; exact ⟨by show (0 : Int) ≤ _; omega, by show _ ≤ (8 : Int); omega⟩) rfl rfl (by decide), _, yS_f (by decide) S2, fun _ => ⟨yDr_38 D2 (by omega), xXr_k (by decide) (xXr_o (by decide) X2)⟩⟩
  · refine zw_c (pc' := 159) (zw_cv (q := 72) (Y := zm_175) WK.1 rfl rfl zm_175_t rfl rfl) rfl rfl rfl rfl rfl (zq_good0 WK hg) ?_
    refine zw_beq1 (g := 172) (pc' := 162) rfl rfl rfl (rfl : _ = (0 : Int)) (fun hb => ?_) (fun h9 => absurd h9 (by decide))
    refine zw_rn rfl rfl ?_
    exact ⟨K, rfl, b2, _, S2, fun h9 => absurd h9 hg⟩

set_option maxHeartbeats 4000000 in
set_option maxRecDepth 8000 in
theorem yx_slL {L : Nat} {σ : Nat → Int32} {d : Nat} {T : Nat → Int} {n p : Nat} {dd : yLD} {x1 : Int32} (hK : zx_KW L σ) (hby : ∀ k, k < n → -128 ≤ T k ∧ T k ≤ 127) : ∀ (m : Nat) (H : zp_H) (lv : zp_LV) (x2 : Int32) (dc : yLD), zk_Bs zR zg zJ H → yS T n (0, [], 0, 0, 0, dd, p) (fun q => (11, [], 0, x2.toInt, 0, dc, q)) H → yDr dc H → xXr T n [220 + (dc.1 4).toNat, 230 + (dc.1 4).toNat] dc H → (dc.1 (220 + (dc.1 4).toNat) = x2.toInt ∧ dc.1 (230 + (dc.1 4).toNat) = 0) → x1.toInt = 4 * dc.1 4 → (0 ≤ dc.1 4 ∧ dc.1 4 < 8) → (0 ≤ x2.toInt ∧ x2.toInt ≤ 8) → zp_get lv 0 = some (.inr (.inr (some 73))) → zp_get lv 1 = some (.inl x1) → zp_get lv 2 = some (.inl x2) → (8 - x2.toInt).toNat ≤ m → zs_Safe L σ (yRr T n dd p) zm_187 [] (d + 5) (60, lv, [], H, (0, 0)) := by
  intro m
  induction m with
  | zero =>
    intro H lv x2 dc hB hs hD hX hq h1 h4 h2 l0 l1 l2 hm
    have W := zR_Wd (zR_dn hB)
    have k38 : (H.2.1 72 38).toInt = dc.1 4 := hD.2.2.2.1
    refine zw_ld (n := 1) (k := 0) (f := zp_isR) (pc' := 61) rfl rfl l0 rfl rfl ?_
    rcases hs with ⟨hg, q, hP, hR⟩ | ⟨hg, r, hb1, hb2⟩
    · by_cases hw : ys_kd T n q = 3 ∧ ys_vl T n q < 4
      · refine zw_c (pc' := 64) (zw_cv (q := 72) (Y := zm_189) W.1 rfl rfl zm_189_t rfl rfl) rfl rfl rfl rfl rfl (yp_iw1 (d := d) hK hB hg hP hw) ?_
        refine zw_beq1 (g := 137) (pc' := 67) rfl rfl rfl (rfl : _ = (1 : Int)) (fun h9 => absurd h9 (by decide)) (fun hb => ?_)
        refine zw_ld (n := 1) (k := 2) (f := zp_isI) (pc' := 68) rfl rfl l2 rfl rfl ?_
        refine zw_s (pc' := 70) rfl rfl ?_
        refine zw_bne2 (g := 78) (pc' := 73) rfl rfl rfl rfl (rfl : _ = (8 : Int)) (fun h8 => ?_) (fun h8 => ?_)
        · omega
        · obtain ⟨H1, c1, c2, c3, c4, c5⟩ := yp_wr (L := L) (σ := σ) (d := d + 4) (y := Int32.ofInt 2) hB hg hP (by decide)
          have W1 := zR_Wd (zR_dn c2)
          refine zw_ld (n := 1) (k := 0) (f := zp_isR) (pc' := 74) rfl rfl l0 rfl rfl ?_
          refine zw_s (pc' := 75) rfl rfl ?_
          refine zw_cn (pc' := 78) (zw_cv (q := 72) (Y := zm_180) W.1 rfl rfl zm_180_t rfl rfl) rfl rfl rfl rfl rfl (c1) ?_
          refine zw_ld (n := 1) (k := 0) (f := zp_isR) (pc' := 79) rfl rfl l0 rfl rfl ?_
          refine zw_c (pc' := 82) (zw_cv (q := 72) (Y := zm_175) W1.1 rfl rfl zm_175_t rfl rfl) rfl rfl rfl rfl rfl (zq_good0 W1 c3) ?_
          refine zw_bne1 (g := 86) (pc' := 85) rfl rfl rfl (rfl : _ = (0 : Int)) (fun h9 => absurd h9 (by decide)) (fun hb => ?_)
          refine zw_rn rfl rfl ?_
          exact yRr_b c2 c3 c5 (yR2_a hR (yA2_done (yN2_11.trans ((if_pos hw).trans (if_pos h8)))))
      · refine zw_c (pc' := 64) (zw_cv (q := 72) (Y := zm_189) W.1 rfl rfl zm_189_t rfl rfl) rfl rfl rfl rfl rfl (yp_iw0 (d := d) hK hB hg hP hw) ?_
        refine zw_beq1 (g := 137) (pc' := 67) rfl rfl rfl (rfl : _ = (0 : Int)) (fun hb => ?_) (fun h9 => absurd h9 (by decide))
        exact yx_slT (d := d) hB (Or.inl ⟨hg, q, hP, yR2_t hR (yR2_s (yN2_11.trans (if_neg hw)))⟩) hD hX hq h4 h1 h2 l0 l1 l2
    · refine zw_c (pc' := 64) (zw_cv (q := 72) (Y := zm_189) W.1 rfl rfl zm_189_t rfl rfl) rfl rfl rfl rfl rfl (yp_iwb (d := d) hB hg) ?_
      refine zw_beq1 (g := 137) (pc' := 67) rfl rfl rfl (rfl : _ = (0 : Int)) (fun hb => ?_) (fun h9 => absurd h9 (by decide))
      exact yx_slT (d := d) hB (Or.inr ⟨hg, r, hb1, hb2⟩) hD hX hq h4 h1 h2 l0 l1 l2
  | succ m ih =>
    intro H lv x2 dc hB hs hD hX hq h1 h4 h2 l0 l1 l2 hm
    have W := zR_Wd (zR_dn hB)
    have k38 : (H.2.1 72 38).toInt = dc.1 4 := hD.2.2.2.1
    refine zw_ld (n := 1) (k := 0) (f := zp_isR) (pc' := 61) rfl rfl l0 rfl rfl ?_
    rcases hs with ⟨hg, q, hP, hR⟩ | ⟨hg, r, hb1, hb2⟩
    · by_cases hw : ys_kd T n q = 3 ∧ ys_vl T n q < 4
      · refine zw_c (pc' := 64) (zw_cv (q := 72) (Y := zm_189) W.1 rfl rfl zm_189_t rfl rfl) rfl rfl rfl rfl rfl (yp_iw1 (d := d) hK hB hg hP hw) ?_
        refine zw_beq1 (g := 137) (pc' := 67) rfl rfl rfl (rfl : _ = (1 : Int)) (fun h9 => absurd h9 (by decide)) (fun hb => ?_)
        refine zw_ld (n := 1) (k := 2) (f := zp_isI) (pc' := 68) rfl rfl l2 rfl rfl ?_
        refine zw_s (pc' := 70) rfl rfl ?_
        refine zw_bne2 (g := 78) (pc' := 73) rfl rfl rfl rfl (rfl : _ = (8 : Int)) (fun h8 => ?_) (fun h8 => ?_)
        · refine zw_ld (n := 1) (k := 0) (f := zp_isR) (pc' := 79) rfl rfl l0 rfl rfl ?_
          refine zw_c (pc' := 82) (zw_cv (q := 72) (Y := zm_175) W.1 rfl rfl zm_175_t rfl rfl) rfl rfl rfl rfl rfl (zq_good1 W hg) ?_
          refine zw_bne1 (g := 86) (pc' := 85) rfl rfl rfl (rfl : _ = (1 : Int)) (fun hb => ?_) (fun h9 => absurd h9 (by decide))
          obtain ⟨_, w1, v, M, rfl, w2, w3, w4, w5, w6, w7, w8⟩ := yS_way (L := L) (σ := σ) (d := d) (s0 := (0, [], 0, 0, 0, dd, p)) (s := fun q => (11, [], 0, x2.toInt, 0, dc, q)) (s' := fun q' => (12, [], zg H, x2.toInt, 0, dc, q')) hK hby hB (Or.inl ⟨hg, q, hP, hR⟩) (fun q' hP' => by
            have hw' := (yr_way hP').mp ((yr_way hP).mpr hw)
            rw [if_pos hw', ← yr_wv hP' hw']
            exact yN2_11.trans ((if_pos hw').trans (if_neg h8)))
          have v3 := w7 hg ((yr_way hP).mpr hw)
          have WM := zR_Wd (zR_dn w2)
          have DM := yDr_M w3 hD
          have XM := xXr_F w3 rfl hX
          have vq : v.toInt = zg H := w8 hg
          have s8 : (dc.1 4).toNat < 8 := by omega
          have a8 : x2.toInt.toNat < 8 := by omega
          have i1 : (Int32.ofInt 16 * H.2.1 72 38 + Int32.ofInt 2 * x2).toInt = 16 * dc.1 4 + 2 * x2.toInt := by rw [y_ix (by decide) (by omega) (by rw [y_two (by omega)]; omega), y_two (by omega), k38]
          have b1 : zk_Bs zR zg zJ (zw_I M 85 (Int32.ofInt 16 * H.2.1 72 38 + Int32.ofInt 2 * x2).toInt.toNat (zp_nar 0 v)) := yB_850 (x := v) w2 (by omega) v3
          have S1 := yS_a (p := 85) (k := (Int32.ofInt 16 * H.2.1 72 38 + Int32.ofInt 2 * x2).toInt.toNat) (x := zp_nar 0 v) (by decide) w4
          have D1 := yDr_a (p := 85) (k := (Int32.ofInt 16 * H.2.1 72 38 + Int32.ofInt 2 * x2).toInt.toNat) (x := zp_nar 0 v) (by decide) DM
          have l300 : yRl (300 + (8 * (dc.1 4).toNat + x2.toInt.toNat)) = (85, (Int32.ofInt 16 * H.2.1 72 38 + Int32.ofInt 2 * x2).toInt.toNat) := by
            rw [yQ_300 (by omega), i1]
            exact congrArg (Prod.mk _) (by omega)
          have X1 := xXr_w (x := zp_nar 0 v) yRl_inj (by omega) l300 XM
          have c1 : ((zw_I M 85 (Int32.ofInt 16 * H.2.1 72 38 + Int32.ofInt 2 * x2).toInt.toNat (zp_nar 0 v)).2.1 85 (2 * (8 * (dc.1 4).toNat + x2.toInt.toNat))).toInt = zg H := by
            rw [← vq, show 2 * (8 * (dc.1 4).toNat + x2.toInt.toNat) = (Int32.ofInt 16 * H.2.1 72 38 + Int32.ofInt 2 * x2).toInt.toNat by omega]
            exact congrArg Int32.toInt zw_eq
          refine zw_ld (n := 1) (k := 0) (f := zp_isR) (pc' := 87) rfl rfl l0 rfl rfl ?_
          refine zw_gR (q := 72) (pc' := 90) W rfl rfl rfl rfl (W.2 72 54 _ rfl) rfl ?_
          refine zw_s (pc' := 92) rfl rfl ?_
          refine zw_ld (n := 1) (k := 0) (f := zp_isR) (pc' := 93) rfl rfl l0 rfl rfl ?_
          refine zw_gI (q := 72) (pc' := 96) W rfl rfl rfl rfl rfl rfl ?_
          refine zw_imul (pc' := 97) rfl rfl ?_
          refine zw_s (pc' := 98) rfl rfl ?_
          refine zw_ld (n := 1) (k := 2) (f := zp_isI) (pc' := 99) rfl rfl l2 rfl rfl ?_
          refine zw_imul (pc' := 100) rfl rfl ?_
          refine zw_iadd (pc' := 101) rfl rfl ?_
          refine zw_ld (n := 1) (k := 0) (f := zp_isR) (pc' := 102) rfl rfl l0 rfl rfl ?_
          refine zw_c (pc' := 105) (zw_cv (q := 72) (Y := zm_184) W.1 rfl rfl zm_184_t rfl rfl) rfl rfl rfl rfl rfl (w1) ?_
          refine zw_is (q := 85) (pc' := 106) WM rfl rfl (by decide) (⟨by omega, by show _ < ((128 : Nat) : Int); omega⟩) rfl ?_
          generalize zw_I M 85 (Int32.ofInt 16 * H.2.1 72 38 + Int32.ofInt 2 * x2).toInt.toNat (zp_nar 0 v) = K at b1 S1 D1 X1 c1 ⊢
          have WK := zR_Wd (zR_dn b1)
          have j38 : (K.2.1 72 38).toInt = dc.1 4 := D1.2.2.2.1
          obtain ⟨u, N, n1, n2, n3, n4, n5, n6⟩ := yS_nu (L := L) (σ := σ) (d := d + 2) (x := Int32.ofInt 1) (y := Int32.ofInt 9) (ok := fun u q' => (11, [], 0, x2.toInt + 1, 0, yWmk dc x2.toInt (zg H) u, q')) hby b1 S1 (fun q => yN2_12) (by decide)
          have WN := zR_Wd (zR_dn n2)
          have DN := yDr_M n3 D1
          have XN := xXr_F n3 rfl X1
          have cN : (N.2.1 85 (2 * (8 * (dc.1 4).toNat + x2.toInt.toNat))).toInt = zg H := by
            rw [zx_ae n3 85 (fun _ => rfl) rfl rfl]
            exact c1
          have i2 : (Int32.ofInt 16 * K.2.1 72 38 + Int32.ofInt 2 * x2 + Int32.ofInt 1).toInt = 16 * dc.1 4 + 2 * x2.toInt + 1 := by
            have := y_ix (a := 16) (x := K.2.1 72 38) (k := Int32.ofInt 2 * x2) (by decide) (by omega) (by rw [y_two (by omega)]; omega)
            rw [y_two (by omega), j38] at this
            rw [zw_p1 (by omega), this]
          have b3 : zk_Bs zR zg zJ (zw_I N 85 (Int32.ofInt 16 * K.2.1 72 38 + Int32.ofInt 2 * x2 + Int32.ofInt 1).toInt.toNat (zp_nar 0 u)) := yB_851 (x := u) n2 (by omega)
          have S3 := yS_a (p := 85) (k := (Int32.ofInt 16 * K.2.1 72 38 + Int32.ofInt 2 * x2 + Int32.ofInt 1).toInt.toNat) (x := zp_nar 0 u) (by decide) n4
          have D3 := yDr_a (p := 85) (k := (Int32.ofInt 16 * K.2.1 72 38 + Int32.ofInt 2 * x2 + Int32.ofInt 1).toInt.toNat) (x := zp_nar 0 u) (by decide) DN
          have l400 : yRl (400 + (8 * (dc.1 4).toNat + x2.toInt.toNat)) = (85, (Int32.ofInt 16 * K.2.1 72 38 + Int32.ofInt 2 * x2 + Int32.ofInt 1).toInt.toNat) := by
            rw [yQ_400 (by omega), i2]
            exact congrArg (Prod.mk _) (by omega)
          have X3 := xXr_w (x := zp_nar 0 u) yRl_inj (by omega) l400 XN
          have X4 := xXr_D (i0 := 220 + (dc.1 4).toNat) (v := x2.toInt + 1) (xXr_D (i0 := 400 + (8 * (dc.1 4).toNat + x2.toInt.toNat)) (v := u.toInt) (xXr_D (i0 := 300 + (8 * (dc.1 4).toNat + x2.toInt.toNat)) (v := zg H) X3))
          have X5 : xXr T n [220 + (dc.1 4).toNat, 230 + (dc.1 4).toNat] (yWmk dc x2.toInt (zg H) u.toInt) (zw_I N 85 (Int32.ofInt 16 * K.2.1 72 38 + Int32.ofInt 2 * x2 + Int32.ofInt 1).toInt.toNat (zp_nar 0 u)) := by
            refine xXr_C (i0 := 300 + (8 * (dc.1 4).toNat + x2.toInt.toNat)) (xXr_C (i0 := 400 + (8 * (dc.1 4).toNat + x2.toInt.toNat)) (xXr_s (fun i h9 => ?_) X4) ?_) ?_
            · simp only [List.mem_cons, List.not_mem_nil, or_false] at h9 ⊢
              omega
            · rw [l400, show (yWmk dc x2.toInt (zg H) u.toInt).1 (400 + (8 * (dc.1 4).toNat + x2.toInt.toNat)) = u.toInt from (yW_n (by omega)).trans yW_e]
              exact congrArg Int32.toInt zw_eq
            · rw [yQ_300 (by omega), show (yWmk dc x2.toInt (zg H) u.toInt).1 (300 + (8 * (dc.1 4).toNat + x2.toInt.toNat)) = zg H from (yW_n (by omega)).trans ((yW_n (by omega)).trans yW_e)]
              rw [y_ne (fun h9 => by have := h9.2; omega)]
              exact cN
          have D5 : yDr (yWmk dc x2.toInt (zg H) u.toInt) _ := yDr_W (by omega) (yDr_W (by omega) (yDr_W (by omega) D3))
          have e4 : (yWmk dc x2.toInt (zg H) u.toInt).1 4 = dc.1 4 := (yW_n (by omega)).trans ((yW_n (by omega)).trans (yW_n (by omega)))
          have hq5 : (yWmk dc x2.toInt (zg H) u.toInt).1 (220 + (dc.1 4).toNat) = x2.toInt + 1 := yW_e
          have hq6 : (yWmk dc x2.toInt (zg H) u.toInt).1 (230 + (dc.1 4).toNat) = 0 := (yW_n (by omega)).trans ((yW_n (by omega)).trans ((yW_n (by omega)).trans hq.2))
          have e1 : (x2 + Int32.ofInt 1).toInt = x2.toInt + 1 := zw_p1 (by omega)
          refine zw_ld (n := 1) (k := 0) (f := zp_isR) (pc' := 107) rfl rfl l0 rfl rfl ?_
          refine zw_gR (q := 72) (pc' := 110) WK rfl rfl rfl rfl (WK.2 72 54 _ rfl) rfl ?_
          refine zw_s (pc' := 112) rfl rfl ?_
          refine zw_ld (n := 1) (k := 0) (f := zp_isR) (pc' := 113) rfl rfl l0 rfl rfl ?_
          refine zw_gI (q := 72) (pc' := 116) WK rfl rfl rfl rfl rfl rfl ?_
          refine zw_imul (pc' := 117) rfl rfl ?_
          refine zw_s (pc' := 118) rfl rfl ?_
          refine zw_ld (n := 1) (k := 2) (f := zp_isI) (pc' := 119) rfl rfl l2 rfl rfl ?_
          refine zw_imul (pc' := 120) rfl rfl ?_
          refine zw_iadd (pc' := 121) rfl rfl ?_
          refine zw_s (pc' := 122) rfl rfl ?_
          refine zw_iadd (pc' := 123) rfl rfl ?_
          refine zw_ld (n := 1) (k := 0) (f := zp_isR) (pc' := 124) rfl rfl l0 rfl rfl ?_
          refine zw_s (pc' := 125) rfl rfl ?_
          refine zw_s (pc' := 127) rfl rfl ?_
          refine zw_c (pc' := 130) (zw_cv (q := 72) (Y := zm_181) WK.1 rfl rfl zm_181_t rfl rfl) rfl rfl rfl rfl rfl (n1) ?_
          refine zw_is (q := 85) (pc' := 131) WN rfl rfl (by decide) (⟨by omega, by show _ < ((128 : Nat) : Int); omega⟩) rfl ?_
          refine zw_ii (pc' := 134) rfl l2 rfl rfl ?_
          refine zw_s (pc' := 60) rfl rfl ?_
          rw [← e1] at S3 hq5
          exact ih _ _ _ (yWmk dc x2.toInt (zg H) u.toInt) b3 S3 D5 (by rw [e4]; exact X5) (by rw [e4]; exact ⟨hq5, hq6⟩) (by rw [e4]; exact h1) (by rw [e4]; exact h4) (by omega) (zw_gt l0 rfl rfl) (zw_gt l1 rfl rfl) zw_g1 (by omega)
        · obtain ⟨H1, c1, c2, c3, c4, c5⟩ := yp_wr (L := L) (σ := σ) (d := d + 4) (y := Int32.ofInt 2) hB hg hP (by decide)
          have W1 := zR_Wd (zR_dn c2)
          refine zw_ld (n := 1) (k := 0) (f := zp_isR) (pc' := 74) rfl rfl l0 rfl rfl ?_
          refine zw_s (pc' := 75) rfl rfl ?_
          refine zw_cn (pc' := 78) (zw_cv (q := 72) (Y := zm_180) W.1 rfl rfl zm_180_t rfl rfl) rfl rfl rfl rfl rfl (c1) ?_
          refine zw_ld (n := 1) (k := 0) (f := zp_isR) (pc' := 79) rfl rfl l0 rfl rfl ?_
          refine zw_c (pc' := 82) (zw_cv (q := 72) (Y := zm_175) W1.1 rfl rfl zm_175_t rfl rfl) rfl rfl rfl rfl rfl (zq_good0 W1 c3) ?_
          refine zw_bne1 (g := 86) (pc' := 85) rfl rfl rfl (rfl : _ = (0 : Int)) (fun h9 => absurd h9 (by decide)) (fun hb => ?_)
          refine zw_rn rfl rfl ?_
          exact yRr_b c2 c3 c5 (yR2_a hR (yA2_done (yN2_11.trans ((if_pos hw).trans (if_pos h8)))))
      · refine zw_c (pc' := 64) (zw_cv (q := 72) (Y := zm_189) W.1 rfl rfl zm_189_t rfl rfl) rfl rfl rfl rfl rfl (yp_iw0 (d := d) hK hB hg hP hw) ?_
        refine zw_beq1 (g := 137) (pc' := 67) rfl rfl rfl (rfl : _ = (0 : Int)) (fun hb => ?_) (fun h9 => absurd h9 (by decide))
        exact yx_slT (d := d) hB (Or.inl ⟨hg, q, hP, yR2_t hR (yR2_s (yN2_11.trans (if_neg hw)))⟩) hD hX hq h4 h1 h2 l0 l1 l2
    · refine zw_c (pc' := 64) (zw_cv (q := 72) (Y := zm_189) W.1 rfl rfl zm_189_t rfl rfl) rfl rfl rfl rfl rfl (yp_iwb (d := d) hB hg) ?_
      refine zw_beq1 (g := 137) (pc' := 67) rfl rfl rfl (rfl : _ = (0 : Int)) (fun hb => ?_) (fun h9 => absurd h9 (by decide))
      exact yx_slT (d := d) hB (Or.inr ⟨hg, r, hb1, hb2⟩) hD hX hq h4 h1 h2 l0 l1 l2

set_option maxHeartbeats 4000000 in
set_option maxRecDepth 8000 in
theorem yx_slate {L : Nat} {σ : Nat → Int32} {d : Nat} {T : Nat → Int} {n p : Nat} {dd : yLD} {H : zp_H} (hK : zx_KW L σ) (hby : ∀ k, k < n → -128 ≤ T k ∧ T k ≤ 127) (hB : zk_Bs zR zg zJ H) (hg : (H.2.1 72 23).toInt = 0) (hP : yP T n p H) (hD : yDr dd H) (hX : xXr T n [] dd H) (hk : ys_kd T n p = 3 ∧ ys_vl T n p = 15) : ∃ X, zp_Call L σ (d + 6) 187 [.inr (.inr (some 73))] H X ∧ yRr T n dd p X := by
  have W := zR_Wd (zR_dn hB)
  have r38 : 0 ≤ (H.2.1 72 38).toInt ∧ (H.2.1 72 38).toInt ≤ 8 := zR_fr1 (zR_dn hB) (k := 38) (r := (0, 8)) rfl rfl
  have d38 : (H.2.1 72 38).toInt = dd.1 4 := hD.2.2.2.1
  refine zw_met zm_187_t rfl rfl ?_
  refine zw_ld (n := 1) (k := 0) (f := zp_isR) (pc' := 1) rfl rfl rfl rfl rfl ?_
  refine zw_gI (q := 72) (pc' := 4) W rfl rfl rfl rfl rfl rfl ?_
  refine zw_s (pc' := 6) rfl rfl ?_
  refine zw_bne2 (g := 14) (pc' := 9) rfl rfl rfl rfl (rfl : _ = (8 : Int)) (fun h8 => ?_) (fun h8 => ?_)
  · refine zw_ld (n := 1) (k := 0) (f := zp_isR) (pc' := 15) rfl rfl rfl rfl rfl ?_
    refine zw_c (pc' := 18) (zw_cv (q := 72) (Y := zm_175) W.1 rfl rfl zm_175_t rfl rfl) rfl rfl rfl rfl rfl (zq_good1 W hg) ?_
    refine zw_bne1 (g := 22) (pc' := 21) rfl rfl rfl (rfl : _ = (1 : Int)) (fun hb => ?_) (fun h9 => absurd h9 (by decide))
    obtain ⟨K0, g1, g2, g3, g4⟩ := yp_go (L := L) (σ := σ) (d := d + 3) hby hB hP
    have W0 := zR_Wd (zR_dn g2)
    have D0 := yDr_m g3 hD
    have X0 := xXr_F g3 rfl hX
    have S0 : yS T n (0, [], 0, 0, 0, dd, p) (fun q => (8, [], 0, 0, 0, dd, q)) K0 := Or.inl ⟨(zx_fe g3 23 rfl rfl rfl).trans hg, _, g4, yR2_s (yN2_0.trans ((y0w_15 hk).trans (if_pos (by omega))))⟩
    refine zw_ld (n := 1) (k := 0) (f := zp_isR) (pc' := 23) rfl rfl rfl rfl rfl ?_
    refine zw_cn (pc' := 26) (zw_cv (q := 72) (Y := zm_171) W.1 rfl rfl zm_171_t rfl rfl) rfl rfl rfl rfl rfl (g1) ?_
    have f38 : (K0.2.1 72 38).toInt = dd.1 4 := D0.2.2.2.1
    have i0 : (Int32.ofInt 4 * K0.2.1 72 38).toInt = 4 * dd.1 4 := by rw [zt_mul (by decide) (by omega), f38]
    obtain ⟨_, n1, v, M, rfl, n2, n3, n4, n5, n6⟩ := yS_cr (L := L) (σ := σ) (d := d) (s2 := fun c q => (10, [], c, 0, 0, dd, q)) (s1 := fun x q => (9, [], x, 0, 0, dd, q)) hby g2 S0 D0.1 D0.2.1 (fun q => yN2_8) (fun x q => yN2_9)
    have WM := zR_Wd (zR_dn n2)
    have DM := yDr_M n3 D0
    have XM := xXr_F n3 rfl X0
    have s8 : (dd.1 4).toNat < 8 := by omega
    have l200 : yRl (200 + (dd.1 4).toNat) = (84, (Int32.ofInt 4 * K0.2.1 72 38).toInt.toNat) := by
      rw [yQ_200 (by omega), i0]
      exact congrArg (Prod.mk _) (by omega)
    have X1 := xXr_w (x := zp_nar 0 v) yRl_inj (by omega) l200 XM
    have c1 : ((zw_I M 84 (Int32.ofInt 4 * K0.2.1 72 38).toInt.toNat (zp_nar 0 v)).2.1 84 (4 * (dd.1 4).toNat)).toInt = v.toInt := by
      rw [show 4 * (dd.1 4).toNat = (Int32.ofInt 4 * K0.2.1 72 38).toInt.toNat by omega]
      exact congrArg Int32.toInt zw_eq
    have b1 : zk_Bs zR zg zJ (zw_I M 84 (Int32.ofInt 4 * K0.2.1 72 38).toInt.toNat (zp_nar 0 v)) := yB_840 (x := v) n2 (by omega) n5
    have S1 := yS_a (p := 84) (k := (Int32.ofInt 4 * K0.2.1 72 38).toInt.toNat) (x := zp_nar 0 v) (by decide) n4
    have D1 := yDr_a (p := 84) (k := (Int32.ofInt 4 * K0.2.1 72 38).toInt.toNat) (x := zp_nar 0 v) (by decide) DM
    refine zw_s (pc' := 27) rfl rfl ?_
    refine zw_ld (n := 1) (k := 0) (f := zp_isR) (pc' := 28) rfl rfl rfl rfl rfl ?_
    refine zw_gI (q := 72) (pc' := 31) W0 rfl rfl rfl rfl rfl rfl ?_
    refine zw_imul (pc' := 32) rfl rfl ?_
    refine zw_st (n := 1) (k := 1) (f := zp_isI) (pc' := 33) rfl rfl rfl rfl rfl ?_
    refine zw_ld (n := 1) (k := 0) (f := zp_isR) (pc' := 34) rfl rfl (zw_gt rfl rfl rfl) rfl rfl ?_
    refine zw_gR (q := 72) (pc' := 37) W0 rfl rfl rfl rfl (W0.2 72 53 _ rfl) rfl ?_
    refine zw_ld (n := 1) (k := 1) (f := zp_isI) (pc' := 38) rfl rfl zw_g1 rfl rfl ?_
    refine zw_ld (n := 1) (k := 0) (f := zp_isR) (pc' := 39) rfl rfl (zw_gt rfl rfl rfl) rfl rfl ?_
    refine zw_c (pc' := 42) (zw_cv (q := 72) (Y := zm_188) W0.1 rfl rfl zm_188_t rfl rfl) rfl rfl rfl rfl rfl (n1) ?_
    refine zw_is (q := 84) (pc' := 43) WM rfl rfl (by decide) (⟨by omega, by show _ < ((32 : Nat) : Int); omega⟩) rfl ?_
    generalize zw_I M 84 (Int32.ofInt 4 * K0.2.1 72 38).toInt.toNat (zp_nar 0 v) = K at b1 S1 D1 X1 c1 ⊢
    have WK := zR_Wd (zR_dn b1)
    obtain ⟨u, N, m1, m2, m3, m4, m5, m6⟩ := yS_nu (L := L) (σ := σ) (d := d + 2) (x := Int32.ofInt 0) (y := Int32.ofInt 99) (ok := fun u q => (11, [], 0, 0, 0, yWsl dd v.toInt u, q)) hby b1 S1 (fun q => yN2_10) (by decide)
    have WN := zR_Wd (zR_dn m2)
    have DN := yDr_M m3 D1
    have XN := xXr_F m3 rfl X1
    have cN : (N.2.1 84 (4 * (dd.1 4).toNat)).toInt = v.toInt := by
      rw [zx_ae m3 84 (fun _ => rfl) rfl rfl]
      exact c1
    have i2 : (Int32.ofInt 4 * K0.2.1 72 38 + Int32.ofInt 1).toInt = 4 * dd.1 4 + 1 := by rw [zw_p1 (by omega), i0]
    have b3 : zk_Bs zR zg zJ (zw_I N 84 (Int32.ofInt 4 * K0.2.1 72 38 + Int32.ofInt 1).toInt.toNat (zp_nar 0 u)) := yB_841 (x := u) m2 (by omega)
    have S3 := yS_a (p := 84) (k := (Int32.ofInt 4 * K0.2.1 72 38 + Int32.ofInt 1).toInt.toNat) (x := zp_nar 0 u) (by decide) m4
    have D3 := yDr_a (p := 84) (k := (Int32.ofInt 4 * K0.2.1 72 38 + Int32.ofInt 1).toInt.toNat) (x := zp_nar 0 u) (by decide) DN
    have l210 : yRl (210 + (dd.1 4).toNat) = (84, (Int32.ofInt 4 * K0.2.1 72 38 + Int32.ofInt 1).toInt.toNat) := by
      rw [yQ_210 (by omega), i2]
      exact congrArg (Prod.mk _) (by omega)
    have X3 := xXr_w (x := zp_nar 0 u) yRl_inj (by omega) l210 XN
    have X4 := xXr_D (i0 := 230 + (dd.1 4).toNat) (v := 0) (xXr_D (i0 := 220 + (dd.1 4).toNat) (v := 0) (xXr_D (i0 := 210 + (dd.1 4).toNat) (v := u.toInt) (xXr_D (i0 := 200 + (dd.1 4).toNat) (v := v.toInt) X3)))
    have X5 : xXr T n [220 + (dd.1 4).toNat, 230 + (dd.1 4).toNat] (yWsl dd v.toInt u.toInt) (zw_I N 84 (Int32.ofInt 4 * K0.2.1 72 38 + Int32.ofInt 1).toInt.toNat (zp_nar 0 u)) := by
      refine xXr_C (i0 := 200 + (dd.1 4).toNat) (xXr_C (i0 := 210 + (dd.1 4).toNat) (xXr_s (fun i h9 => ?_) X4) ?_) ?_
      · simp only [List.mem_cons, List.not_mem_nil, or_false] at h9 ⊢
        omega
      · rw [l210, show (yWsl dd v.toInt u.toInt).1 (210 + (dd.1 4).toNat) = u.toInt from (yW_n (by omega)).trans ((yW_n (by omega)).trans yW_e)]
        exact congrArg Int32.toInt zw_eq
      · rw [yQ_200 (by omega), show (yWsl dd v.toInt u.toInt).1 (200 + (dd.1 4).toNat) = v.toInt from (yW_n (by omega)).trans ((yW_n (by omega)).trans ((yW_n (by omega)).trans yW_e))]
        rw [y_ne (fun h9 => by have := h9.2; omega)]
        exact cN
    have D5 : yDr (yWsl dd v.toInt u.toInt) _ := yDr_W (by omega) (yDr_W (by omega) (yDr_W (by omega) (yDr_W (by omega) D3)))
    have e4 : (yWsl dd v.toInt u.toInt).1 4 = dd.1 4 := (yW_n (by omega)).trans ((yW_n (by omega)).trans ((yW_n (by omega)).trans (yW_n (by omega))))
    have hq5 : (yWsl dd v.toInt u.toInt).1 (220 + (dd.1 4).toNat) = 0 := (yW_n (by omega)).trans yW_e
    have hq6 : (yWsl dd v.toInt u.toInt).1 (230 + (dd.1 4).toNat) = 0 := yW_e
    refine zw_ld (n := 1) (k := 0) (f := zp_isR) (pc' := 44) rfl rfl (zw_gt rfl rfl rfl) rfl rfl ?_
    refine zw_gR (q := 72) (pc' := 47) WK rfl rfl rfl rfl (WK.2 72 53 _ rfl) rfl ?_
    refine zw_ld (n := 1) (k := 1) (f := zp_isI) (pc' := 48) rfl rfl zw_g1 rfl rfl ?_
    refine zw_s (pc' := 49) rfl rfl ?_
    refine zw_iadd (pc' := 50) rfl rfl ?_
    refine zw_ld (n := 1) (k := 0) (f := zp_isR) (pc' := 51) rfl rfl (zw_gt rfl rfl rfl) rfl rfl ?_
    refine zw_s (pc' := 52) rfl rfl ?_
    refine zw_s (pc' := 54) rfl rfl ?_
    refine zw_c (pc' := 57) (zw_cv (q := 72) (Y := zm_181) WK.1 rfl rfl zm_181_t rfl rfl) rfl rfl rfl rfl rfl (m1) ?_
    refine zw_is (q := 84) (pc' := 58) WN rfl rfl (by decide) (⟨by omega, by show _ < ((32 : Nat) : Int); omega⟩) rfl ?_
    refine zw_s (pc' := 59) rfl rfl ?_
    refine zw_st (n := 1) (k := 2) (f := zp_isI) (pc' := 60) rfl rfl rfl rfl rfl ?_
    exact yx_slL hK hby 8 _ _ (Int32.ofInt 0) (yWsl dd v.toInt u.toInt) b3 S3 D5 (by rw [e4]; exact X5) (by rw [e4]; exact ⟨hq5, hq6⟩) (by rw [e4]; exact i0) (by rw [e4]; omega) (by decide) (zw_gt (zw_gt rfl rfl rfl) rfl rfl) (zw_gt zw_g1 rfl rfl) zw_g1 (by decide)
  · obtain ⟨H1, c1, c2, c3, c4, c5⟩ := yp_wr (L := L) (σ := σ) (d := d + 4) (y := Int32.ofInt 2) hB hg hP (by decide)
    have W1 := zR_Wd (zR_dn c2)
    refine zw_ld (n := 1) (k := 0) (f := zp_isR) (pc' := 10) rfl rfl rfl rfl rfl ?_
    refine zw_s (pc' := 11) rfl rfl ?_
    refine zw_cn (pc' := 14) (zw_cv (q := 72) (Y := zm_180) W.1 rfl rfl zm_180_t rfl rfl) rfl rfl rfl rfl rfl (c1) ?_
    refine zw_ld (n := 1) (k := 0) (f := zp_isR) (pc' := 15) rfl rfl rfl rfl rfl ?_
    refine zw_c (pc' := 18) (zw_cv (q := 72) (Y := zm_175) W1.1 rfl rfl zm_175_t rfl rfl) rfl rfl rfl rfl rfl (zq_good0 W1 c3) ?_
    refine zw_bne1 (g := 22) (pc' := 21) rfl rfl rfl (rfl : _ = (0 : Int)) (fun h9 => absurd h9 (by decide)) (fun hb => ?_)
    refine zw_rn rfl rfl ?_
    exact yRr_b c2 c3 c5 (yA2_done (yN2_0.trans ((y0w_15 hk).trans (if_neg (by omega)))))
