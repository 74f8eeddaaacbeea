section
/-! ===== the reference: slates ===== -/
def zm_187 : za_MI := (yX12_readsSlate, prog_14_method_38_code, 3, none, 12, 0, 0, [], za_i187)
theorem zm_187_t : za_MT 187 = some zm_187 := rfl
set_option maxRecDepth 8000 in
theorem yB_840 {j : Nat} {x : Int32} {H : zp_H} (hB : zk_Bs zR zg zJ H) (hj : j % 4 = 0) (hx : 0 ≤ x.toInt ∧ x.toInt ≤ 63) : zk_Bs zR zg zJ (zw_I H 84 j x) := yB_a hB (t := 0) (m := 32) rfl (fun r hr => by
  have hr : [((0 : Int), (63 : Int)), (((-2147483648) : Int), (2147483647 : Int)), ((0 : Int), (8 : Int)), ((0 : Int), (255 : Int))][j % 4]? = some r := hr
  rw [hj] at hr
  cases hr
  exact hx) rfl (by decide)
theorem yB_841 {j : Nat} {x : Int32} {H : zp_H} (hB : zk_Bs zR zg zJ H) (hj : j % 4 = 1) : zk_Bs zR zg zJ (zw_I H 84 j x) := yB_a hB (t := 0) (m := 32) rfl (fun r hr => by
  have hr : [((0 : Int), (63 : Int)), (((-2147483648) : Int), (2147483647 : Int)), ((0 : Int), (8 : Int)), ((0 : Int), (255 : Int))][j % 4]? = some r := hr
  rw [hj] at hr
  cases hr
  exact zl_full _) rfl (by decide)
theorem yB_842 {j : Nat} {x : Int32} {H : zp_H} (hB : zk_Bs zR zg zJ H) (hj : j % 4 = 2) (hx : 0 ≤ x.toInt ∧ x.toInt ≤ 8) : zk_Bs zR zg zJ (zw_I H 84 j x) := yB_a hB (t := 0) (m := 32) rfl (fun r hr => by
  have hr : [((0 : Int), (63 : Int)), (((-2147483648) : Int), (2147483647 : Int)), ((0 : Int), (8 : Int)), ((0 : Int), (255 : Int))][j % 4]? = some r := hr
  rw [hj] at hr
  cases hr
  exact hx) rfl (by decide)
theorem yB_843 {j : Nat} {x : Int32} {H : zp_H} (hB : zk_Bs zR zg zJ H) (hj : j % 4 = 3) (hx : 0 ≤ x.toInt ∧ x.toInt ≤ 255) : zk_Bs zR zg zJ (zw_I H 84 j x) := yB_a hB (t := 0) (m := 32) rfl (fun r hr => by
  have hr : [((0 : Int), (63 : Int)), (((-2147483648) : Int), (2147483647 : Int)), ((0 : Int), (8 : Int)), ((0 : Int), (255 : Int))][j % 4]? = some r := hr
  rw [hj] at hr
  cases hr
  exact hx) rfl (by decide)
theorem yB_850 {j : Nat} {x : Int32} {H : zp_H} (hB : zk_Bs zR zg zJ H) (hj : j % 2 = 0) (hx : 0 ≤ x.toInt ∧ x.toInt ≤ 3) : zk_Bs zR zg zJ (zw_I H 85 j x) := yB_a hB (t := 0) (m := 128) rfl (fun r hr => by
  have hr : [((0 : Int), (3 : Int)), (((-2147483648) : Int), (2147483647 : Int))][j % 2]? = some r := hr
  rw [hj] at hr
  cases hr
  exact hx) rfl (by decide)
theorem yB_851 {j : Nat} {x : Int32} {H : zp_H} (hB : zk_Bs zR zg zJ H) (hj : j % 2 = 1) : zk_Bs zR zg zJ (zw_I H 85 j x) := yB_a hB (t := 0) (m := 128) rfl (fun r hr => by
  have hr : [((0 : Int), (3 : Int)), (((-2147483648) : Int), (2147483647 : Int))][j % 2]? = some r := hr
  rw [hj] at hr
  cases hr
  exact zl_full _) rfl (by decide)
theorem yB_870 {j : Nat} {x : Int32} {H : zp_H} (hB : zk_Bs zR zg zJ H) (hj : j % 3 = 0) (hx : 0 ≤ x.toInt ∧ x.toInt ≤ 63) : zk_Bs zR zg zJ (zw_I H 87 j x) := yB_a hB (t := 0) (m := 12) rfl (fun r hr => by
  have hr : [((0 : Int), (63 : Int)), (((-2147483648) : Int), (2147483647 : Int)), (((-2147483648) : Int), (2147483647 : Int))][j % 3]? = some r := hr
  rw [hj] at hr
  cases hr
  exact hx) rfl (by decide)
theorem yB_871 {j : Nat} {x : Int32} {H : zp_H} (hB : zk_Bs zR zg zJ H) (hj : j % 3 = 1) : zk_Bs zR zg zJ (zw_I H 87 j x) := yB_a hB (t := 0) (m := 12) rfl (fun r hr => by
  have hr : [((0 : Int), (63 : Int)), (((-2147483648) : Int), (2147483647 : Int)), (((-2147483648) : Int), (2147483647 : Int))][j % 3]? = some r := hr
  rw [hj] at hr
  cases hr
  exact zl_full _) rfl (by decide)
theorem yB_872 {j : Nat} {x : Int32} {H : zp_H} (hB : zk_Bs zR zg zJ H) (hj : j % 3 = 2) : zk_Bs zR zg zJ (zw_I H 87 j x) := yB_a hB (t := 0) (m := 12) rfl (fun r hr => by
  have hr : [((0 : Int), (63 : Int)), (((-2147483648) : Int), (2147483647 : Int)), (((-2147483648) : Int), (2147483647 : Int))][j % 3]? = some r := hr
  rw [hj] at hr
  cases hr
  exact zl_full _) rfl (by decide)
theorem yB_g {k : Nat} {x : Int32} {H : zp_H} (hB : zk_Bs zR zg zJ H) (hr : ∀ r, zB_l2 zR_fr 72 k = some r → r.1 ≤ x.toInt ∧ x.toInt ≤ r.2) (hk : Nat.beq k 100 = false) (hz : zR_fz 72 k = false) (h3 : k ≠ 23 ∧ k ≠ 34 ∧ k ≠ 35) : zk_Bs zR zg zJ (zw_I H 72 k x) := by
  refine yB_f hB hr hk hz ?_
  have c := zR_cn hB
  unfold zR_cc at c ⊢
  rw [y_ne (fun h9 => h3.1 h9.2.symm), y_ne (fun h9 => h3.2.1 h9.2.symm), y_ne (fun h9 => h3.2.2 h9.2.symm)]
  exact c
theorem y_two {x : Int32} (hx : 0 ≤ x.toInt ∧ x.toInt ≤ 100) : (Int32.ofInt 2 * x).toInt = 2 * x.toInt := zt_mul (by decide) (by omega)
theorem y_b1 : ∀ z : Int32, (z &&& Int32.ofInt 1).toInt = 0 ∨ (z &&& Int32.ofInt 1).toInt = 1 := by
  intro z
  have e : (z &&& Int32.ofInt 1).toBitVec.toNat = z.toBitVec.toNat % 2 := by
    rw [Int32.toBitVec_and, BitVec.toNat_and, show (Int32.ofInt 1).toBitVec.toNat = 2 ^ 1 - 1 from by decide, Nat.and_two_pow_sub_one_eq_mod]
  rw [← Int32.toInt_toBitVec, BitVec.toInt_eq_toNat_of_lt (by rw [e]; omega), e]
  omega

set_option maxHeartbeats 4000000 in
set_option maxRecDepth 8000 in
theorem yx_slT {L : Nat} {σ : Nat → Int32} {d : Nat} {T : Nat → Int} {n p : Nat} {dd : yLD} {H : zp_H} {lv : zp_LV} {x1 x2 : Int32} (hB : zk_Bs zR zg zJ H) {dc : yLD} (hs : yS T n (0, [], 0, 0, 0, dd, p) (fun q => (50, [], 0, 0, 0, (yU dc.1 4 (dc.1 4 + 1), dc.2), q)) H) (hD : yDr dc H) (hX : yXd yRl [220 + (dc.1 4).toNat, 230 + (dc.1 4).toNat] dc H) (hq : dc.1 (220 + (dc.1 4).toNat) = x2.toInt ∧ dc.1 (230 + (dc.1 4).toNat) = 0) (h4 : 0 ≤ dc.1 4 ∧ dc.1 4 < 8) (h1 : x1.toInt = 4 * dc.1 4) (h2 : 0 ≤ x2.toInt ∧ x2.toInt ≤ 8) (l0 : zp_get lv 0 = some (.inr (.inr (some 73)))) (l1 : zp_get lv 1 = some (.inl x1)) (l2 : zp_get lv 2 = some (.inl x2)) : zs_Safe L σ (yRr T n dd p) zm_187 [] (d + 5) (137, lv, [], H, (0, 0)) := by
  have W := zR_Wd (zR_dn hB)
  have e2 : (x1 + Int32.ofInt 2).toInt = x1.toInt + 2 := y_ad (by show _ ≤ _ + (2 : Int) ∧ _ + (2 : Int) ≤ _; omega)
  have e3 : (x1 + Int32.ofInt 3).toInt = x1.toInt + 3 := y_ad (by show _ ≤ _ + (3 : Int) ∧ _ + (3 : Int) ≤ _; omega)
  have b1 : zk_Bs zR zg zJ (zw_I H 84 (x1 + Int32.ofInt 2).toInt.toNat (zp_nar 0 x2)) := yB_842 (x := x2) hB (by omega) h2
  have b2 : zk_Bs zR zg zJ (zw_I (zw_I H 84 (x1 + Int32.ofInt 2).toInt.toNat (zp_nar 0 x2)) 84 (x1 + Int32.ofInt 3).toInt.toNat (zp_nar 0 (Int32.ofInt 0))) := yB_843 (x := Int32.ofInt 0) b1 (by omega) (by decide)
  have S2 := yS_a (p := 84) (k := (x1 + Int32.ofInt 3).toInt.toNat) (x := zp_nar 0 (Int32.ofInt 0)) (by decide) (yS_a (p := 84) (k := (x1 + Int32.ofInt 2).toInt.toNat) (x := zp_nar 0 x2) (by decide) hs)
  have s8 : (dc.1 4).toNat < 8 := by omega
  have X1 := yXd_wc (i0 := 220 + (dc.1 4).toNat) (x := zp_nar 0 x2) yRl_inj (by omega) (show yRl (220 + (dc.1 4).toNat) = (84, (x1 + Int32.ofInt 2).toInt.toNat) by
    rw [yQ_220 (by omega)]
    exact congrArg (Prod.mk _) (by omega)) (show x2.toInt = _ from hq.1.symm) hX
  have X2 := yXd_wc (i0 := 230 + (dc.1 4).toNat) (x := zp_nar 0 (Int32.ofInt 0)) yRl_inj (by omega) (show yRl (230 + (dc.1 4).toNat) = (84, (x1 + Int32.ofInt 3).toInt.toNat) by
    rw [yQ_230 (by omega)]
    exact congrArg (Prod.mk _) (by omega)) (show (0 : Int) = _ from hq.2.symm) X1
  have D2 := yDr_a (p := 84) (k := (x1 + Int32.ofInt 3).toInt.toNat) (x := zp_nar 0 (Int32.ofInt 0)) (by decide) (yDr_a (p := 84) (k := (x1 + Int32.ofInt 2).toInt.toNat) (x := zp_nar 0 x2) (by decide) hD)
  have W1 := zR_Wd (zR_dn b1)
  refine zw_ld (n := 1) (k := 0) (f := zp_isR) (pc' := 138) rfl rfl l0 rfl rfl ?_
  refine zw_gR (q := 72) (pc' := 141) W rfl rfl rfl rfl (W.2 72 53 _ rfl) rfl ?_
  refine zw_ld (n := 1) (k := 1) (f := zp_isI) (pc' := 142) rfl rfl l1 rfl rfl ?_
  refine zw_s (pc' := 143) rfl rfl ?_
  refine zw_iadd (pc' := 144) rfl rfl ?_
  refine zw_ld (n := 1) (k := 2) (f := zp_isI) (pc' := 145) rfl rfl l2 rfl rfl ?_
  refine zw_is (q := 84) (pc' := 146) W rfl rfl (by decide) (⟨by omega, by show _ < ((32 : Nat) : Int); omega⟩) rfl ?_
  refine zw_ld (n := 1) (k := 0) (f := zp_isR) (pc' := 147) rfl rfl l0 rfl rfl ?_
  refine zw_gR (q := 72) (pc' := 150) W1 rfl rfl rfl rfl (W1.2 72 53 _ rfl) rfl ?_
  refine zw_ld (n := 1) (k := 1) (f := zp_isI) (pc' := 151) rfl rfl l1 rfl rfl ?_
  refine zw_s (pc' := 152) rfl rfl ?_
  refine zw_iadd (pc' := 153) rfl rfl ?_
  refine zw_s (pc' := 154) rfl rfl ?_
  refine zw_is (q := 84) (pc' := 155) W1 rfl rfl (by decide) (⟨by omega, by show _ < ((32 : Nat) : Int); omega⟩) rfl ?_
  generalize zw_I (zw_I H 84 (x1 + Int32.ofInt 2).toInt.toNat (zp_nar 0 x2)) 84 (x1 + Int32.ofInt 3).toInt.toNat (zp_nar 0 (Int32.ofInt 0)) = K at b2 S2 D2 X2 ⊢
  have WK := zR_Wd (zR_dn b2)
  have k38 : (K.2.1 72 38).toInt = dc.1 4 := D2.2.2.2.1
  have e1 : (K.2.1 72 38 + Int32.ofInt 1).toInt = (K.2.1 72 38).toInt + 1 := zw_p1 (by omega)
  refine zw_ld (n := 1) (k := 0) (f := zp_isR) (pc' := 156) rfl rfl l0 rfl rfl ?_
  by_cases hg : (K.2.1 72 23).toInt = 0
  · refine zw_c (pc' := 159) (zw_cv (q := 72) (Y := zm_175) WK.1 rfl rfl zm_175_t rfl rfl) rfl rfl rfl rfl rfl (zq_good1 WK hg) ?_
    refine zw_beq1 (g := 172) (pc' := 162) rfl rfl rfl (rfl : _ = (1 : Int)) (fun h9 => absurd h9 (by decide)) (fun hb => ?_)
    refine zw_ld (n := 1) (k := 0) (f := zp_isR) (pc' := 163) rfl rfl l0 rfl rfl ?_
    refine zw_s (pc' := 164) rfl rfl ?_
    refine zw_gI (q := 72) (pc' := 167) WK rfl rfl rfl rfl rfl rfl ?_
    refine zw_s (pc' := 168) rfl rfl ?_
    refine zw_iadd (pc' := 169) rfl rfl ?_
    refine zw_pI (q := 72) (pc' := 172) WK rfl rfl rfl rfl rfl rfl ?_
    refine zw_rn rfl rfl ?_
    exact ⟨_, rfl, yB_g b2 (fun r hr => by cases hr; exact ⟨by show (0 : Int) ≤ _; omega, by show _ ≤ (8 : Int); omega⟩) rfl rfl (by decide), _, yS_f (by decide) S2, fun _ => ⟨yDr_38 D2 (by omega), yXd_k (by decide) (yXr_o (by decide) X2)⟩⟩
  · refine zw_c (pc' := 159) (zw_cv (q := 72) (Y := zm_175) WK.1 rfl rfl zm_175_t rfl rfl) rfl rfl rfl rfl rfl (zq_good0 WK hg) ?_
    refine zw_beq1 (g := 172) (pc' := 162) rfl rfl rfl (rfl : _ = (0 : Int)) (fun hb => ?_) (fun h9 => absurd h9 (by decide))
    refine zw_rn rfl rfl ?_
    exact ⟨K, rfl, b2, _, S2, fun h9 => absurd h9 hg⟩

set_option maxHeartbeats 4000000 in
set_option maxRecDepth 8000 in
theorem yx_slL {L : Nat} {σ : Nat → Int32} {d : Nat} {T : Nat → Int} {n p : Nat} {dd : yLD} {x1 : Int32} (hK : zx_KW L σ) (hby : ∀ k, k < n → -128 ≤ T k ∧ T k ≤ 127) : ∀ (m : Nat) (H : zp_H) (lv : zp_LV) (x2 : Int32) (dc : yLD), zk_Bs zR zg zJ H → yS T n (0, [], 0, 0, 0, dd, p) (fun q => (11, [], 0, x2.toInt, 0, dc, q)) H → yDr dc H → yXd yRl [220 + (dc.1 4).toNat, 230 + (dc.1 4).toNat] dc H → (dc.1 (220 + (dc.1 4).toNat) = x2.toInt ∧ dc.1 (230 + (dc.1 4).toNat) = 0) → x1.toInt = 4 * dc.1 4 → (0 ≤ dc.1 4 ∧ dc.1 4 < 8) → (0 ≤ x2.toInt ∧ x2.toInt ≤ 8) → zp_get lv 0 = some (.inr (.inr (some 73))) → zp_get lv 1 = some (.inl x1) → zp_get lv 2 = some (.inl x2) → (8 - x2.toInt).toNat ≤ m → zs_Safe L σ (yRr T n dd p) zm_187 [] (d + 5) (60, lv, [], H, (0, 0)) := by
  intro m
  induction m with
  | zero =>
    intro H lv x2 dc hB hs hD hX hq h1 h4 h2 l0 l1 l2 hm
    have W := zR_Wd (zR_dn hB)
    have k38 : (H.2.1 72 38).toInt = dc.1 4 := hD.2.2.2.1
    refine zw_ld (n := 1) (k := 0) (f := zp_isR) (pc' := 61) rfl rfl l0 rfl rfl ?_
    rcases hs with ⟨hg, q, hP, hR⟩ | ⟨hg, r, hb1, hb2⟩
    · by_cases hw : ys_kd T n q = 3 ∧ ys_vl T n q < 4
      · refine zw_c (pc' := 64) (zw_cv (q := 72) (Y := zm_189) W.1 rfl rfl zm_189_t rfl rfl) rfl rfl rfl rfl rfl (yp_iw1 (d := d) hK hB hg hP hw) ?_
        refine zw_beq1 (g := 137) (pc' := 67) rfl rfl rfl (rfl : _ = (1 : Int)) (fun h9 => absurd h9 (by decide)) (fun hb => ?_)
        refine zw_ld (n := 1) (k := 2) (f := zp_isI) (pc' := 68) rfl rfl l2 rfl rfl ?_
        refine zw_s (pc' := 70) rfl rfl ?_
        refine zw_bne2 (g := 78) (pc' := 73) rfl rfl rfl rfl (rfl : _ = (8 : Int)) (fun h8 => ?_) (fun h8 => ?_)
        · omega
        · obtain ⟨H1, c1, c2, c3, c4, c5⟩ := yp_wr (L := L) (σ := σ) (d := d + 4) (y := Int32.ofInt 2) hB hg hP (by decide)
          have W1 := zR_Wd (zR_dn c2)
          refine zw_ld (n := 1) (k := 0) (f := zp_isR) (pc' := 74) rfl rfl l0 rfl rfl ?_
          refine zw_s (pc' := 75) rfl rfl ?_
          refine zw_cn (pc' := 78) (zw_cv (q := 72) (Y := zm_180) W.1 rfl rfl zm_180_t rfl rfl) rfl rfl rfl rfl rfl (c1) ?_
          refine zw_ld (n := 1) (k := 0) (f := zp_isR) (pc' := 79) rfl rfl l0 rfl rfl ?_
          refine zw_c (pc' := 82) (zw_cv (q := 72) (Y := zm_175) W1.1 rfl rfl zm_175_t rfl rfl) rfl rfl rfl rfl rfl (zq_good0 W1 c3) ?_
          refine zw_bne1 (g := 86) (pc' := 85) rfl rfl rfl (rfl : _ = (0 : Int)) (fun h9 => absurd h9 (by decide)) (fun hb => ?_)
          refine zw_rn rfl rfl ?_
          exact yRr_b c2 c3 c5 (yR2_a hR (yA2_done (yN2_11.trans ((if_pos hw).trans (if_pos h8)))))
      · refine zw_c (pc' := 64) (zw_cv (q := 72) (Y := zm_189) W.1 rfl rfl zm_189_t rfl rfl) rfl rfl rfl rfl rfl (yp_iw0 (d := d) hK hB hg hP hw) ?_
        refine zw_beq1 (g := 137) (pc' := 67) rfl rfl rfl (rfl : _ = (0 : Int)) (fun hb => ?_) (fun h9 => absurd h9 (by decide))
        exact yx_slT (d := d) hB (Or.inl ⟨hg, q, hP, yR2_t hR (yR2_s (yN2_11.trans (if_neg hw)))⟩) hD hX hq h4 h1 h2 l0 l1 l2
    · refine zw_c (pc' := 64) (zw_cv (q := 72) (Y := zm_189) W.1 rfl rfl zm_189_t rfl rfl) rfl rfl rfl rfl rfl (yp_iwb (d := d) hB hg) ?_
      refine zw_beq1 (g := 137) (pc' := 67) rfl rfl rfl (rfl : _ = (0 : Int)) (fun hb => ?_) (fun h9 => absurd h9 (by decide))
      exact yx_slT (d := d) hB (Or.inr ⟨hg, r, hb1, hb2⟩) hD hX hq h4 h1 h2 l0 l1 l2
  | succ m ih =>
    intro H lv x2 dc hB hs hD hX hq h1 h4 h2 l0 l1 l2 hm
    have W := zR_Wd (zR_dn hB)
    have k38 : (H.2.1 72 38).toInt = dc.1 4 := hD.2.2.2.1
    refine zw_ld (n := 1) (k := 0) (f := zp_isR) (pc' := 61) rfl rfl l0 rfl rfl ?_
    rcases hs with ⟨hg, q, hP, hR⟩ | ⟨hg, r, hb1, hb2⟩
    · by_cases hw : ys_kd T n q = 3 ∧ ys_vl T n q < 4
      · refine zw_c (pc' := 64) (zw_cv (q := 72) (Y := zm_189) W.1 rfl rfl zm_189_t rfl rfl) rfl rfl rfl rfl rfl (yp_iw1 (d := d) hK hB hg hP hw) ?_
        refine zw_beq1 (g := 137) (pc' := 67) rfl rfl rfl (rfl : _ = (1 : Int)) (fun h9 => absurd h9 (by decide)) (fun hb => ?_)
        refine zw_ld (n := 1) (k := 2) (f := zp_isI) (pc' := 68) rfl rfl l2 rfl rfl ?_
        refine zw_s (pc' := 70) rfl rfl ?_
        refine zw_bne2 (g := 78) (pc' := 73) rfl rfl rfl rfl (rfl : _ = (8 : Int)) (fun h8 => ?_) (fun h8 => ?_)
        · refine zw_ld (n := 1) (k := 0) (f := zp_isR) (pc' := 79) rfl rfl l0 rfl rfl ?_
          refine zw_c (pc' := 82) (zw_cv (q := 72) (Y := zm_175) W.1 rfl rfl zm_175_t rfl rfl) rfl rfl rfl rfl rfl (zq_good1 W hg) ?_
          refine zw_bne1 (g := 86) (pc' := 85) rfl rfl rfl (rfl : _ = (1 : Int)) (fun hb => ?_) (fun h9 => absurd h9 (by decide))
          obtain ⟨_, w1, v, M, rfl, w2, w3, w4, w5, w6, w7, w8⟩ := yS_way (L := L) (σ := σ) (d := d) (s0 := (0, [], 0, 0, 0, dd, p)) (s := fun q => (11, [], 0, x2.toInt, 0, dc, q)) (s' := fun q' => (12, [], zg H, x2.toInt, 0, dc, q')) hK hby hB (Or.inl ⟨hg, q, hP, hR⟩) (fun q' hP' => by
            have hw' := (yr_way hP').mp ((yr_way hP).mpr hw)
            rw [if_pos hw', ← yr_wv hP' hw']
            exact yN2_11.trans ((if_pos hw').trans (if_neg h8)))
          have v3 := w7 hg ((yr_way hP).mpr hw)
          have WM := zR_Wd (zR_dn w2)
          have DM := yDr_M w3 hD
          have XM := yXr_F w3 rfl hX
          have vq : v.toInt = zg H := w8 hg
          have s8 : (dc.1 4).toNat < 8 := by omega
          have a8 : x2.toInt.toNat < 8 := by omega
          have i1 : (Int32.ofInt 16 * H.2.1 72 38 + Int32.ofInt 2 * x2).toInt = 16 * dc.1 4 + 2 * x2.toInt := by rw [y_ix (by decide) (by omega) (by rw [y_two (by omega)]; omega), y_two (by omega), k38]
          have b1 : zk_Bs zR zg zJ (zw_I M 85 (Int32.ofInt 16 * H.2.1 72 38 + Int32.ofInt 2 * x2).toInt.toNat (zp_nar 0 v)) := yB_850 (x := v) w2 (by omega) v3
          have S1 := yS_a (p := 85) (k := (Int32.ofInt 16 * H.2.1 72 38 + Int32.ofInt 2 * x2).toInt.toNat) (x := zp_nar 0 v) (by decide) w4
          have D1 := yDr_a (p := 85) (k := (Int32.ofInt 16 * H.2.1 72 38 + Int32.ofInt 2 * x2).toInt.toNat) (x := zp_nar 0 v) (by decide) DM
          have l300 : yRl (300 + (8 * (dc.1 4).toNat + x2.toInt.toNat)) = (85, (Int32.ofInt 16 * H.2.1 72 38 + Int32.ofInt 2 * x2).toInt.toNat) := by
            rw [yQ_300 (by omega), i1]
            exact congrArg (Prod.mk _) (by omega)
          have X1 := yXd_w (x := zp_nar 0 v) yRl_inj (by omega) l300 XM
          have c1 : ((zw_I M 85 (Int32.ofInt 16 * H.2.1 72 38 + Int32.ofInt 2 * x2).toInt.toNat (zp_nar 0 v)).2.1 85 (2 * (8 * (dc.1 4).toNat + x2.toInt.toNat))).toInt = zg H := by
            rw [← vq, show 2 * (8 * (dc.1 4).toNat + x2.toInt.toNat) = (Int32.ofInt 16 * H.2.1 72 38 + Int32.ofInt 2 * x2).toInt.toNat by omega]
            exact congrArg Int32.toInt zw_eq
          refine zw_ld (n := 1) (k := 0) (f := zp_isR) (pc' := 87) rfl rfl l0 rfl rfl ?_
          refine zw_gR (q := 72) (pc' := 90) W rfl rfl rfl rfl (W.2 72 54 _ rfl) rfl ?_
          refine zw_s (pc' := 92) rfl rfl ?_
          refine zw_ld (n := 1) (k := 0) (f := zp_isR) (pc' := 93) rfl rfl l0 rfl rfl ?_
          refine zw_gI (q := 72) (pc' := 96) W rfl rfl rfl rfl rfl rfl ?_
          refine zw_imul (pc' := 97) rfl rfl ?_
          refine zw_s (pc' := 98) rfl rfl ?_
          refine zw_ld (n := 1) (k := 2) (f := zp_isI) (pc' := 99) rfl rfl l2 rfl rfl ?_
          refine zw_imul (pc' := 100) rfl rfl ?_
          refine zw_iadd (pc' := 101) rfl rfl ?_
          refine zw_ld (n := 1) (k := 0) (f := zp_isR) (pc' := 102) rfl rfl l0 rfl rfl ?_
          refine zw_c (pc' := 105) (zw_cv (q := 72) (Y := zm_184) W.1 rfl rfl zm_184_t rfl rfl) rfl rfl rfl rfl rfl (w1) ?_
          refine zw_is (q := 85) (pc' := 106) WM rfl rfl (by decide) (⟨by omega, by show _ < ((128 : Nat) : Int); omega⟩) rfl ?_
          generalize zw_I M 85 (Int32.ofInt 16 * H.2.1 72 38 + Int32.ofInt 2 * x2).toInt.toNat (zp_nar 0 v) = K at b1 S1 D1 X1 c1 ⊢
          have WK := zR_Wd (zR_dn b1)
          have j38 : (K.2.1 72 38).toInt = dc.1 4 := D1.2.2.2.1
          obtain ⟨u, N, n1, n2, n3, n4, n5, n6⟩ := yS_nu (L := L) (σ := σ) (d := d + 2) (x := Int32.ofInt 1) (y := Int32.ofInt 9) (ok := fun u q' => (11, [], 0, x2.toInt + 1, 0, yWmk dc x2.toInt (zg H) u, q')) hby b1 S1 (fun q => yN2_12) (by decide)
          have WN := zR_Wd (zR_dn n2)
          have DN := yDr_M n3 D1
          have XN := yXr_F n3 rfl X1
          have cN : (N.2.1 85 (2 * (8 * (dc.1 4).toNat + x2.toInt.toNat))).toInt = zg H := by
            rw [zx_ae n3 85 (fun _ => rfl) rfl rfl]
            exact c1
          have i2 : (Int32.ofInt 16 * K.2.1 72 38 + Int32.ofInt 2 * x2 + Int32.ofInt 1).toInt = 16 * dc.1 4 + 2 * x2.toInt + 1 := by
            have := y_ix (a := 16) (x := K.2.1 72 38) (k := Int32.ofInt 2 * x2) (by decide) (by omega) (by rw [y_two (by omega)]; omega)
            rw [y_two (by omega), j38] at this
            rw [zw_p1 (by omega), this]
          have b3 : zk_Bs zR zg zJ (zw_I N 85 (Int32.ofInt 16 * K.2.1 72 38 + Int32.ofInt 2 * x2 + Int32.ofInt 1).toInt.toNat (zp_nar 0 u)) := yB_851 (x := u) n2 (by omega)
          have S3 := yS_a (p := 85) (k := (Int32.ofInt 16 * K.2.1 72 38 + Int32.ofInt 2 * x2 + Int32.ofInt 1).toInt.toNat) (x := zp_nar 0 u) (by decide) n4
          have D3 := yDr_a (p := 85) (k := (Int32.ofInt 16 * K.2.1 72 38 + Int32.ofInt 2 * x2 + Int32.ofInt 1).toInt.toNat) (x := zp_nar 0 u) (by decide) DN
          have l400 : yRl (400 + (8 * (dc.1 4).toNat + x2.toInt.toNat)) = (85, (Int32.ofInt 16 * K.2.1 72 38 + Int32.ofInt 2 * x2 + Int32.ofInt 1).toInt.toNat) := by
            rw [yQ_400 (by omega), i2]
            exact congrArg (Prod.mk _) (by omega)
          have X3 := yXd_w (x := zp_nar 0 u) yRl_inj (by omega) l400 XN
          have X4 := yXd_D (i0 := 220 + (dc.1 4).toNat) (v := x2.toInt + 1) (yXd_D (i0 := 400 + (8 * (dc.1 4).toNat + x2.toInt.toNat)) (v := u.toInt) (yXd_D (i0 := 300 + (8 * (dc.1 4).toNat + x2.toInt.toNat)) (v := zg H) X3))
          have X5 : yXd yRl [220 + (dc.1 4).toNat, 230 + (dc.1 4).toNat] (yWmk dc x2.toInt (zg H) u.toInt) (zw_I N 85 (Int32.ofInt 16 * K.2.1 72 38 + Int32.ofInt 2 * x2 + Int32.ofInt 1).toInt.toNat (zp_nar 0 u)) := by
            refine yXd_C (i0 := 300 + (8 * (dc.1 4).toNat + x2.toInt.toNat)) (yXd_C (i0 := 400 + (8 * (dc.1 4).toNat + x2.toInt.toNat)) (yXd_s (fun i h9 => ?_) X4) ?_) ?_
            · simp only [List.mem_cons, List.not_mem_nil, or_false] at h9 ⊢
              omega
            · rw [l400, show (yWmk dc x2.toInt (zg H) u.toInt).1 (400 + (8 * (dc.1 4).toNat + x2.toInt.toNat)) = u.toInt from (yW_n (by omega)).trans yW_e]
              exact congrArg Int32.toInt zw_eq
            · rw [yQ_300 (by omega), show (yWmk dc x2.toInt (zg H) u.toInt).1 (300 + (8 * (dc.1 4).toNat + x2.toInt.toNat)) = zg H from (yW_n (by omega)).trans ((yW_n (by omega)).trans yW_e)]
              rw [y_ne (fun h9 => by have := h9.2; omega)]
              exact cN
          have D5 : yDr (yWmk dc x2.toInt (zg H) u.toInt) _ := yDr_W (by omega) (yDr_W (by omega) (yDr_W (by omega) D3))
          have e4 : (yWmk dc x2.toInt (zg H) u.toInt).1 4 = dc.1 4 := (yW_n (by omega)).trans ((yW_n (by omega)).trans (yW_n (by omega)))
          have hq5 : (yWmk dc x2.toInt (zg H) u.toInt).1 (220 + (dc.1 4).toNat) = x2.toInt + 1 := yW_e
          have hq6 : (yWmk dc x2.toInt (zg H) u.toInt).1 (230 + (dc.1 4).toNat) = 0 := (yW_n (by omega)).trans ((yW_n (by omega)).trans ((yW_n (by omega)).trans hq.2))
          have e1 : (x2 + Int32.ofInt 1).toInt = x2.toInt + 1 := zw_p1 (by omega)
          refine zw_ld (n := 1) (k := 0) (f := zp_isR) (pc' := 107) rfl rfl l0 rfl rfl ?_
          refine zw_gR (q := 72) (pc' := 110) WK rfl rfl rfl rfl (WK.2 72 54 _ rfl) rfl ?_
          refine zw_s (pc' := 112) rfl rfl ?_
          refine zw_ld (n := 1) (k := 0) (f := zp_isR) (pc' := 113) rfl rfl l0 rfl rfl ?_
          refine zw_gI (q := 72) (pc' := 116) WK rfl rfl rfl rfl rfl rfl ?_
          refine zw_imul (pc' := 117) rfl rfl ?_
          refine zw_s (pc' := 118) rfl rfl ?_
          refine zw_ld (n := 1) (k := 2) (f := zp_isI) (pc' := 119) rfl rfl l2 rfl rfl ?_
          refine zw_imul (pc' := 120) rfl rfl ?_
          refine zw_iadd (pc' := 121) rfl rfl ?_
          refine zw_s (pc' := 122) rfl rfl ?_
          refine zw_iadd (pc' := 123) rfl rfl ?_
          refine zw_ld (n := 1) (k := 0) (f := zp_isR) (pc' := 124) rfl rfl l0 rfl rfl ?_
          refine zw_s (pc' := 125) rfl rfl ?_
          refine zw_s (pc' := 127) rfl rfl ?_
          refine zw_c (pc' := 130) (zw_cv (q := 72) (Y := zm_181) WK.1 rfl rfl zm_181_t rfl rfl) rfl rfl rfl rfl rfl (n1) ?_
          refine zw_is (q := 85) (pc' := 131) WN rfl rfl (by decide) (⟨by omega, by show _ < ((128 : Nat) : Int); omega⟩) rfl ?_
          refine zw_ii (pc' := 134) rfl l2 rfl rfl ?_
          refine zw_s (pc' := 60) rfl rfl ?_
          rw [← e1] at S3 hq5
          exact ih _ _ _ (yWmk dc x2.toInt (zg H) u.toInt) b3 S3 D5 (by rw [e4]; exact X5) (by rw [e4]; exact ⟨hq5, hq6⟩) (by rw [e4]; exact h1) (by rw [e4]; exact h4) (by omega) (zw_gt l0 rfl rfl) (zw_gt l1 rfl rfl) zw_g1 (by omega)
        · obtain ⟨H1, c1, c2, c3, c4, c5⟩ := yp_wr (L := L) (σ := σ) (d := d + 4) (y := Int32.ofInt 2) hB hg hP (by decide)
          have W1 := zR_Wd (zR_dn c2)
          refine zw_ld (n := 1) (k := 0) (f := zp_isR) (pc' := 74) rfl rfl l0 rfl rfl ?_
          refine zw_s (pc' := 75) rfl rfl ?_
          refine zw_cn (pc' := 78) (zw_cv (q := 72) (Y := zm_180) W.1 rfl rfl zm_180_t rfl rfl) rfl rfl rfl rfl rfl (c1) ?_
          refine zw_ld (n := 1) (k := 0) (f := zp_isR) (pc' := 79) rfl rfl l0 rfl rfl ?_
          refine zw_c (pc' := 82) (zw_cv (q := 72) (Y := zm_175) W1.1 rfl rfl zm_175_t rfl rfl) rfl rfl rfl rfl rfl (zq_good0 W1 c3) ?_
          refine zw_bne1 (g := 86) (pc' := 85) rfl rfl rfl (rfl : _ = (0 : Int)) (fun h9 => absurd h9 (by decide)) (fun hb => ?_)
          refine zw_rn rfl rfl ?_
          exact yRr_b c2 c3 c5 (yR2_a hR (yA2_done (yN2_11.trans ((if_pos hw).trans (if_pos h8)))))
      · refine zw_c (pc' := 64) (zw_cv (q := 72) (Y := zm_189) W.1 rfl rfl zm_189_t rfl rfl) rfl rfl rfl rfl rfl (yp_iw0 (d := d) hK hB hg hP hw) ?_
        refine zw_beq1 (g := 137) (pc' := 67) rfl rfl rfl (rfl : _ = (0 : Int)) (fun hb => ?_) (fun h9 => absurd h9 (by decide))
        exact yx_slT (d := d) hB (Or.inl ⟨hg, q, hP, yR2_t hR (yR2_s (yN2_11.trans (if_neg hw)))⟩) hD hX hq h4 h1 h2 l0 l1 l2
    · refine zw_c (pc' := 64) (zw_cv (q := 72) (Y := zm_189) W.1 rfl rfl zm_189_t rfl rfl) rfl rfl rfl rfl rfl (yp_iwb (d := d) hB hg) ?_
      refine zw_beq1 (g := 137) (pc' := 67) rfl rfl rfl (rfl : _ = (0 : Int)) (fun hb => ?_) (fun h9 => absurd h9 (by decide))
      exact yx_slT (d := d) hB (Or.inr ⟨hg, r, hb1, hb2⟩) hD hX hq h4 h1 h2 l0 l1 l2

set_option maxHeartbeats 4000000 in
set_option maxRecDepth 8000 in
theorem yx_slate {L : Nat} {σ : Nat → Int32} {d : Nat} {T : Nat → Int} {n p : Nat} {dd : yLD} {H : zp_H} (hK : zx_KW L σ) (hby : ∀ k, k < n → -128 ≤ T k ∧ T k ≤ 127) (hB : zk_Bs zR zg zJ H) (hg : (H.2.1 72 23).toInt = 0) (hP : yP T n p H) (hD : yDr dd H) (hX : yXd yRl [] dd H) (hk : ys_kd T n p = 3 ∧ ys_vl T n p = 15) : ∃ X, zp_Call L σ (d + 6) 187 [.inr (.inr (some 73))] H X ∧ yRr T n dd p X := by
  have W := zR_Wd (zR_dn hB)
  have r38 : 0 ≤ (H.2.1 72 38).toInt ∧ (H.2.1 72 38).toInt ≤ 8 := zR_fr1 (zR_dn hB) (k := 38) (r := (0, 8)) rfl rfl
  have d38 : (H.2.1 72 38).toInt = dd.1 4 := hD.2.2.2.1
  refine zw_met zm_187_t rfl rfl ?_
  refine zw_ld (n := 1) (k := 0) (f := zp_isR) (pc' := 1) rfl rfl rfl rfl rfl ?_
  refine zw_gI (q := 72) (pc' := 4) W rfl rfl rfl rfl rfl rfl ?_
  refine zw_s (pc' := 6) rfl rfl ?_
  refine zw_bne2 (g := 14) (pc' := 9) rfl rfl rfl rfl (rfl : _ = (8 : Int)) (fun h8 => ?_) (fun h8 => ?_)
  · refine zw_ld (n := 1) (k := 0) (f := zp_isR) (pc' := 15) rfl rfl rfl rfl rfl ?_
    refine zw_c (pc' := 18) (zw_cv (q := 72) (Y := zm_175) W.1 rfl rfl zm_175_t rfl rfl) rfl rfl rfl rfl rfl (zq_good1 W hg) ?_
    refine zw_bne1 (g := 22) (pc' := 21) rfl rfl rfl (rfl : _ = (1 : Int)) (fun hb => ?_) (fun h9 => absurd h9 (by decide))
    obtain ⟨K0, g1, g2, g3, g4⟩ := yp_go (L := L) (σ := σ) (d := d + 3) hby hB hP
    have W0 := zR_Wd (zR_dn g2)
    have D0 := yDr_m g3 hD
    have X0 := yXr_F g3 rfl hX
    have S0 : yS T n (0, [], 0, 0, 0, dd, p) (fun q => (8, [], 0, 0, 0, dd, q)) K0 := Or.inl ⟨(zx_fe g3 23 rfl rfl rfl).trans hg, _, g4, yR2_s (yN2_0.trans ((y0w_15 hk).trans (if_pos (by omega))))⟩
    refine zw_ld (n := 1) (k := 0) (f := zp_isR) (pc' := 23) rfl rfl rfl rfl rfl ?_
    refine zw_cn (pc' := 26) (zw_cv (q := 72) (Y := zm_171) W.1 rfl rfl zm_171_t rfl rfl) rfl rfl rfl rfl rfl (g1) ?_
    have f38 : (K0.2.1 72 38).toInt = dd.1 4 := D0.2.2.2.1
    have i0 : (Int32.ofInt 4 * K0.2.1 72 38).toInt = 4 * dd.1 4 := by rw [zt_mul (by decide) (by omega), f38]
    obtain ⟨_, n1, v, M, rfl, n2, n3, n4, n5, n6⟩ := yS_cr (L := L) (σ := σ) (d := d) (s2 := fun c q => (10, [], c, 0, 0, dd, q)) (s1 := fun x q => (9, [], x, 0, 0, dd, q)) hby g2 S0 D0.1 D0.2.1 (fun q => yN2_8) (fun x q => yN2_9)
    have WM := zR_Wd (zR_dn n2)
    have DM := yDr_M n3 D0
    have XM := yXr_F n3 rfl X0
    have s8 : (dd.1 4).toNat < 8 := by omega
    have l200 : yRl (200 + (dd.1 4).toNat) = (84, (Int32.ofInt 4 * K0.2.1 72 38).toInt.toNat) := by
      rw [yQ_200 (by omega), i0]
      exact congrArg (Prod.mk _) (by omega)
    have X1 := yXd_w (x := zp_nar 0 v) yRl_inj (by omega) l200 XM
    have c1 : ((zw_I M 84 (Int32.ofInt 4 * K0.2.1 72 38).toInt.toNat (zp_nar 0 v)).2.1 84 (4 * (dd.1 4).toNat)).toInt = v.toInt := by
      rw [show 4 * (dd.1 4).toNat = (Int32.ofInt 4 * K0.2.1 72 38).toInt.toNat by omega]
      exact congrArg Int32.toInt zw_eq
    have b1 : zk_Bs zR zg zJ (zw_I M 84 (Int32.ofInt 4 * K0.2.1 72 38).toInt.toNat (zp_nar 0 v)) := yB_840 (x := v) n2 (by omega) n5
    have S1 := yS_a (p := 84) (k := (Int32.ofInt 4 * K0.2.1 72 38).toInt.toNat) (x := zp_nar 0 v) (by decide) n4
    have D1 := yDr_a (p := 84) (k := (Int32.ofInt 4 * K0.2.1 72 38).toInt.toNat) (x := zp_nar 0 v) (by decide) DM
    refine zw_s (pc' := 27) rfl rfl ?_
    refine zw_ld (n := 1) (k := 0) (f := zp_isR) (pc' := 28) rfl rfl rfl rfl rfl ?_
    refine zw_gI (q := 72) (pc' := 31) W0 rfl rfl rfl rfl rfl rfl ?_
    refine zw_imul (pc' := 32) rfl rfl ?_
    refine zw_st (n := 1) (k := 1) (f := zp_isI) (pc' := 33) rfl rfl rfl rfl rfl ?_
    refine zw_ld (n := 1) (k := 0) (f := zp_isR) (pc' := 34) rfl rfl (zw_gt rfl rfl rfl) rfl rfl ?_
    refine zw_gR (q := 72) (pc' := 37) W0 rfl rfl rfl rfl (W0.2 72 53 _ rfl) rfl ?_
    refine zw_ld (n := 1) (k := 1) (f := zp_isI) (pc' := 38) rfl rfl zw_g1 rfl rfl ?_
    refine zw_ld (n := 1) (k := 0) (f := zp_isR) (pc' := 39) rfl rfl (zw_gt rfl rfl rfl) rfl rfl ?_
    refine zw_c (pc' := 42) (zw_cv (q := 72) (Y := zm_188) W0.1 rfl rfl zm_188_t rfl rfl) rfl rfl rfl rfl rfl (n1) ?_
    refine zw_is (q := 84) (pc' := 43) WM rfl rfl (by decide) (⟨by omega, by show _ < ((32 : Nat) : Int); omega⟩) rfl ?_
    generalize zw_I M 84 (Int32.ofInt 4 * K0.2.1 72 38).toInt.toNat (zp_nar 0 v) = K at b1 S1 D1 X1 c1 ⊢
    have WK := zR_Wd (zR_dn b1)
    obtain ⟨u, N, m1, m2, m3, m4, m5, m6⟩ := yS_nu (L := L) (σ := σ) (d := d + 2) (x := Int32.ofInt 0) (y := Int32.ofInt 99) (ok := fun u q => (11, [], 0, 0, 0, yWsl dd v.toInt u, q)) hby b1 S1 (fun q => yN2_10) (by decide)
    have WN := zR_Wd (zR_dn m2)
    have DN := yDr_M m3 D1
    have XN := yXr_F m3 rfl X1
    have cN : (N.2.1 84 (4 * (dd.1 4).toNat)).toInt = v.toInt := by
      rw [zx_ae m3 84 (fun _ => rfl) rfl rfl]
      exact c1
    have i2 : (Int32.ofInt 4 * K0.2.1 72 38 + Int32.ofInt 1).toInt = 4 * dd.1 4 + 1 := by rw [zw_p1 (by omega), i0]
    have b3 : zk_Bs zR zg zJ (zw_I N 84 (Int32.ofInt 4 * K0.2.1 72 38 + Int32.ofInt 1).toInt.toNat (zp_nar 0 u)) := yB_841 (x := u) m2 (by omega)
    have S3 := yS_a (p := 84) (k := (Int32.ofInt 4 * K0.2.1 72 38 + Int32.ofInt 1).toInt.toNat) (x := zp_nar 0 u) (by decide) m4
    have D3 := yDr_a (p := 84) (k := (Int32.ofInt 4 * K0.2.1 72 38 + Int32.ofInt 1).toInt.toNat) (x := zp_nar 0 u) (by decide) DN
    have l210 : yRl (210 + (dd.1 4).toNat) = (84, (Int32.ofInt 4 * K0.2.1 72 38 + Int32.ofInt 1).toInt.toNat) := by
      rw [yQ_210 (by omega), i2]
      exact congrArg (Prod.mk _) (by omega)
    have X3 := yXd_w (x := zp_nar 0 u) yRl_inj (by omega) l210 XN
    have X4 := yXd_D (i0 := 230 + (dd.1 4).toNat) (v := 0) (yXd_D (i0 := 220 + (dd.1 4).toNat) (v := 0) (yXd_D (i0 := 210 + (dd.1 4).toNat) (v := u.toInt) (yXd_D (i0 := 200 + (dd.1 4).toNat) (v := v.toInt) X3)))
    have X5 : yXd yRl [220 + (dd.1 4).toNat, 230 + (dd.1 4).toNat] (yWsl dd v.toInt u.toInt) (zw_I N 84 (Int32.ofInt 4 * K0.2.1 72 38 + Int32.ofInt 1).toInt.toNat (zp_nar 0 u)) := by
      refine yXd_C (i0 := 200 + (dd.1 4).toNat) (yXd_C (i0 := 210 + (dd.1 4).toNat) (yXd_s (fun i h9 => ?_) X4) ?_) ?_
      · simp only [List.mem_cons, List.not_mem_nil, or_false] at h9 ⊢
        omega
      · rw [l210, show (yWsl dd v.toInt u.toInt).1 (210 + (dd.1 4).toNat) = u.toInt from (yW_n (by omega)).trans ((yW_n (by omega)).trans yW_e)]
        exact congrArg Int32.toInt zw_eq
      · rw [yQ_200 (by omega), show (yWsl dd v.toInt u.toInt).1 (200 + (dd.1 4).toNat) = v.toInt from (yW_n (by omega)).trans ((yW_n (by omega)).trans ((yW_n (by omega)).trans yW_e))]
        rw [y_ne (fun h9 => by have := h9.2; omega)]
        exact cN
    have D5 : yDr (yWsl dd v.toInt u.toInt) _ := yDr_W (by omega) (yDr_W (by omega) (yDr_W (by omega) (yDr_W (by omega) D3)))
    have e4 : (yWsl dd v.toInt u.toInt).1 4 = dd.1 4 := (yW_n (by omega)).trans ((yW_n (by omega)).trans ((yW_n (by omega)).trans (yW_n (by omega))))
    have hq5 : (yWsl dd v.toInt u.toInt).1 (220 + (dd.1 4).toNat) = 0 := (yW_n (by omega)).trans yW_e
    have hq6 : (yWsl dd v.toInt u.toInt).1 (230 + (dd.1 4).toNat) = 0 := yW_e
    refine zw_ld (n := 1) (k := 0) (f := zp_isR) (pc' := 44) rfl rfl (zw_gt rfl rfl rfl) rfl rfl ?_
    refine zw_gR (q := 72) (pc' := 47) WK rfl rfl rfl rfl (WK.2 72 53 _ rfl) rfl ?_
    refine zw_ld (n := 1) (k := 1) (f := zp_isI) (pc' := 48) rfl rfl zw_g1 rfl rfl ?_
    refine zw_s (pc' := 49) rfl rfl ?_
    refine zw_iadd (pc' := 50) rfl rfl ?_
    refine zw_ld (n := 1) (k := 0) (f := zp_isR) (pc' := 51) rfl rfl (zw_gt rfl rfl rfl) rfl rfl ?_
    refine zw_s (pc' := 52) rfl rfl ?_
    refine zw_s (pc' := 54) rfl rfl ?_
    refine zw_c (pc' := 57) (zw_cv (q := 72) (Y := zm_181) WK.1 rfl rfl zm_181_t rfl rfl) rfl rfl rfl rfl rfl (m1) ?_
    refine zw_is (q := 84) (pc' := 58) WN rfl rfl (by decide) (⟨by omega, by show _ < ((32 : Nat) : Int); omega⟩) rfl ?_
    refine zw_s (pc' := 59) rfl rfl ?_
    refine zw_st (n := 1) (k := 2) (f := zp_isI) (pc' := 60) rfl rfl rfl rfl rfl ?_
    exact yx_slL hK hby 8 _ _ (Int32.ofInt 0) (yWsl dd v.toInt u.toInt) b3 S3 D5 (by rw [e4]; exact X5) (by rw [e4]; exact ⟨hq5, hq6⟩) (by rw [e4]; exact i0) (by rw [e4]; omega) (by decide) (zw_gt (zw_gt rfl rfl rfl) rfl rfl) (zw_gt zw_g1 rfl rfl) zw_g1 (by decide)
  · obtain ⟨H1, c1, c2, c3, c4, c5⟩ := yp_wr (L := L) (σ := σ) (d := d + 4) (y := Int32.ofInt 2) hB hg hP (by decide)
    have W1 := zR_Wd (zR_dn c2)
    refine zw_ld (n := 1) (k := 0) (f := zp_isR) (pc' := 10) rfl rfl rfl rfl rfl ?_
    refine zw_s (pc' := 11) rfl rfl ?_
    refine zw_cn (pc' := 14) (zw_cv (q := 72) (Y := zm_180) W.1 rfl rfl zm_180_t rfl rfl) rfl rfl rfl rfl rfl (c1) ?_
    refine zw_ld (n := 1) (k := 0) (f := zp_isR) (pc' := 15) rfl rfl rfl rfl rfl ?_
    refine zw_c (pc' := 18) (zw_cv (q := 72) (Y := zm_175) W1.1 rfl rfl zm_175_t rfl rfl) rfl rfl rfl rfl rfl (zq_good0 W1 c3) ?_
    refine zw_bne1 (g := 22) (pc' := 21) rfl rfl rfl (rfl : _ = (0 : Int)) (fun h9 => absurd h9 (by decide)) (fun hb => ?_)
    refine zw_rn rfl rfl ?_
    exact yRr_b c2 c3 c5 (yA2_done (yN2_0.trans ((y0w_15 hk).trans (if_neg (by omega)))))
end
section
/-! ===== the reference: pilots ===== -/
def zm_191 : za_MI := (yX12_readsPilot, prog_14_method_40_code, 2, none, 12, 0, 0, [], za_i191)
theorem zm_191_t : za_MT 191 = some zm_191 := rfl
set_option maxHeartbeats 4000000 in
set_option maxRecDepth 8000 in
theorem yx_piT {L : Nat} {σ : Nat → Int32} {d : Nat} {T : Nat → Int} {n p : Nat} {dd : yLD} {H : zp_H} {lv : zp_LV} {x1 xc xh : Int32} (hB : zk_Bs zR zg zJ H) (hs : yS T n (0, [], 0, 0, 0, dd, p) (fun q => (50, [], 0, 0, 0, yWpi dd xc.toInt xh.toInt x1, q)) H) (hD : yDr dd H) (hX : yXd yRl [610 + (dd.1 6).toNat, 600 + (dd.1 6).toNat] dd H) (c600 : (H.2.1 87 (3 * (dd.1 6).toNat)).toInt = xc.toInt) (c610 : (H.2.1 87 (3 * (dd.1 6).toNat + 1)).toInt = xh.toInt) (h4 : 0 ≤ dd.1 6 ∧ dd.1 6 < 4) (l0 : zp_get lv 0 = some (.inr (.inr (some 73)))) (l1 : zp_get lv 1 = some (.inl x1)) : zs_Safe L σ (yRr T n dd p) zm_191 [] (d + 5) (153, lv, [], H, (0, 0)) := by
  have W := zR_Wd (zR_dn hB)
  have f40 : (H.2.1 72 40).toInt = dd.1 6 := hD.2.2.2.2.2.1
  have e2 : (Int32.ofInt 3 * H.2.1 72 40 + Int32.ofInt 2).toInt = 3 * (H.2.1 72 40).toInt + 2 := y_ix (by decide) (by omega) (by decide)
  have b2 : zk_Bs zR zg zJ (zw_I H 87 (Int32.ofInt 3 * H.2.1 72 40 + Int32.ofInt 2).toInt.toNat (zp_nar 0 x1)) := yB_872 (x := x1) hB (by omega)
  have S2 := yS_a (p := 87) (k := (Int32.ofInt 3 * H.2.1 72 40 + Int32.ofInt 2).toInt.toNat) (x := zp_nar 0 x1) (by decide) hs
  have D2 := yDr_a (p := 87) (k := (Int32.ofInt 3 * H.2.1 72 40 + Int32.ofInt 2).toInt.toNat) (x := zp_nar 0 x1) (by decide) hD
  have p4 : (dd.1 6).toNat < 4 := by omega
  have l620 : yRl (620 + (dd.1 6).toNat) = (87, (Int32.ofInt 3 * H.2.1 72 40 + Int32.ofInt 2).toInt.toNat) := by
    rw [yQ_620 (by omega), e2, f40]
    exact congrArg (Prod.mk _) (by omega)
  have X2 := yXd_w (x := zp_nar 0 x1) yRl_inj (by omega) l620 hX
  have X3 : yXd yRl [] (yWpi dd xc.toInt xh.toInt x1) (zw_I H 87 (Int32.ofInt 3 * H.2.1 72 40 + Int32.ofInt 2).toInt.toNat (zp_nar 0 x1)) := by
    have X4 := yXd_D (i0 := 620 + (dd.1 6).toNat) (v := x1.toInt) (yXd_D (i0 := 610 + (dd.1 6).toNat) (v := xh.toInt) (yXd_D (i0 := 600 + (dd.1 6).toNat) (v := xc.toInt) (yXd_k (k := 6) (v := dd.1 6 + 1) (by decide) X2)))
    refine yXd_C (i0 := 600 + (dd.1 6).toNat) (yXd_C (i0 := 610 + (dd.1 6).toNat) (yXd_C (i0 := 620 + (dd.1 6).toNat) (yXd_s (fun i h9 => ?_) X4) ?_) ?_) ?_
    · simp only [List.mem_cons, List.not_mem_nil, or_false] at h9 ⊢
      omega
    · rw [l620, show (yWpi dd xc.toInt xh.toInt x1).1 (620 + (dd.1 6).toNat) = x1.toInt from yW_e]
      exact congrArg Int32.toInt zw_eq
    · rw [yQ_610 (by omega), show (yWpi dd xc.toInt xh.toInt x1).1 (610 + (dd.1 6).toNat) = xh.toInt from (yW_n (by omega)).trans yW_e]
      rw [y_ne (fun h9 => by have := h9.2; omega)]
      exact c610
    · rw [yQ_600 (by omega), show (yWpi dd xc.toInt xh.toInt x1).1 (600 + (dd.1 6).toNat) = xc.toInt from (yW_n (by omega)).trans ((yW_n (by omega)).trans yW_e)]
      rw [y_ne (fun h9 => by have := h9.2; omega)]
      exact c600
  refine zw_ld (n := 1) (k := 0) (f := zp_isR) (pc' := 154) rfl rfl l0 rfl rfl ?_
  refine zw_gR (q := 72) (pc' := 157) W rfl rfl rfl rfl (W.2 72 56 _ rfl) rfl ?_
  refine zw_s (pc' := 158) rfl rfl ?_
  refine zw_ld (n := 1) (k := 0) (f := zp_isR) (pc' := 159) rfl rfl l0 rfl rfl ?_
  refine zw_gI (q := 72) (pc' := 162) W rfl rfl rfl rfl rfl rfl ?_
  refine zw_imul (pc' := 163) rfl rfl ?_
  refine zw_s (pc' := 164) rfl rfl ?_
  refine zw_iadd (pc' := 165) rfl rfl ?_
  refine zw_ld (n := 1) (k := 1) (f := zp_isI) (pc' := 166) rfl rfl l1 rfl rfl ?_
  refine zw_is (q := 87) (pc' := 167) W rfl rfl (by decide) (⟨by omega, by show _ < ((12 : Nat) : Int); omega⟩) rfl ?_
  generalize zw_I H 87 (Int32.ofInt 3 * H.2.1 72 40 + Int32.ofInt 2).toInt.toNat (zp_nar 0 x1) = K at b2 S2 D2 X3 ⊢
  have WK := zR_Wd (zR_dn b2)
  have k40 : (K.2.1 72 40).toInt = dd.1 6 := D2.2.2.2.2.2.1
  have e1 : (K.2.1 72 40 + Int32.ofInt 1).toInt = (K.2.1 72 40).toInt + 1 := zw_p1 (by omega)
  refine zw_ld (n := 1) (k := 0) (f := zp_isR) (pc' := 168) rfl rfl l0 rfl rfl ?_
  by_cases hg : (K.2.1 72 23).toInt = 0
  · refine zw_c (pc' := 171) (zw_cv (q := 72) (Y := zm_175) WK.1 rfl rfl zm_175_t rfl rfl) rfl rfl rfl rfl rfl (zq_good1 WK hg) ?_
    refine zw_beq1 (g := 184) (pc' := 174) rfl rfl rfl (rfl : _ = (1 : Int)) (fun h9 => absurd h9 (by decide)) (fun hb => ?_)
    refine zw_ld (n := 1) (k := 0) (f := zp_isR) (pc' := 175) rfl rfl l0 rfl rfl ?_
    refine zw_s (pc' := 176) rfl rfl ?_
    refine zw_gI (q := 72) (pc' := 179) WK rfl rfl rfl rfl rfl rfl ?_
    refine zw_s (pc' := 180) rfl rfl ?_
    refine zw_iadd (pc' := 181) rfl rfl ?_
    refine zw_pI (q := 72) (pc' := 184) WK rfl rfl rfl rfl rfl rfl ?_
    refine zw_rn rfl rfl ?_
    exact ⟨_, rfl, yB_g b2 (fun r hr => by cases hr; exact ⟨by show (0 : Int) ≤ _; omega, by show _ ≤ (4 : Int); omega⟩) rfl rfl (by decide), _, yS_f (by decide) S2, fun _ => ⟨yDr_W (by omega) (yDr_W (by omega) (yDr_W (by omega) (yDr_40 D2 (by omega)))), yXr_o (by decide) X3⟩⟩
  · refine zw_c (pc' := 171) (zw_cv (q := 72) (Y := zm_175) WK.1 rfl rfl zm_175_t rfl rfl) rfl rfl rfl rfl rfl (zq_good0 WK hg) ?_
    refine zw_beq1 (g := 184) (pc' := 174) rfl rfl rfl (rfl : _ = (0 : Int)) (fun hb => ?_) (fun h9 => absurd h9 (by decide))
    refine zw_rn rfl rfl ?_
    exact ⟨K, rfl, b2, _, S2, fun h9 => absurd h9 hg⟩

set_option maxHeartbeats 4000000 in
set_option maxRecDepth 8000 in
theorem yx_piL {L : Nat} {σ : Nat → Int32} {d : Nat} {T : Nat → Int} {n p : Nat} {dd : yLD} {xc xh : Int32} (hby : ∀ k, k < n → -128 ≤ T k ∧ T k ≤ 127) (h4 : 0 ≤ dd.1 6 ∧ dd.1 6 < 4) : ∀ (m q : Nat) (H : zp_H) (lv : zp_LV) (x1 : Int32), zk_Bs zR zg zJ H → (H.2.1 72 23).toInt = 0 → yP T n q H → yR2 T n (0, [], 0, 0, 0, dd, p) (22, [], xc.toInt, xh.toInt, x1, dd, q) → yDr dd H → yXd yRl [610 + (dd.1 6).toNat, 600 + (dd.1 6).toNat] dd H → (H.2.1 87 (3 * (dd.1 6).toNat)).toInt = xc.toInt → (H.2.1 87 (3 * (dd.1 6).toNat + 1)).toInt = xh.toInt → zp_get lv 0 = some (.inr (.inr (some 73))) → zp_get lv 1 = some (.inl x1) → n - q ≤ m → zs_Safe L σ (yRr T n dd p) zm_191 [] (d + 5) (62, lv, [], H, (0, 0)) := by
  intro m
  induction m with
  | zero =>
    intro q H lv x1 hB hg hP hR hD hX c600 c610 l0 l1 hm
    have W := zR_Wd (zR_dn hB)
    have f38 : (H.2.1 72 38).toInt = dd.1 4 := hD.2.2.2.1
    have k28 : (H.2.1 72 28).toInt = yr_s (ys_kd T n q) := hP.2.1.2.2.1
    have qb := ys_nxb (T := T) hP.2.2
    refine zw_ld (n := 1) (k := 0) (f := zp_isR) (pc' := 63) rfl rfl l0 rfl rfl ?_
    refine zw_c (pc' := 66) (zw_cv (q := 72) (Y := zm_175) W.1 rfl rfl zm_175_t rfl rfl) rfl rfl rfl rfl rfl (zq_good1 W hg) ?_
    refine zw_beq1 (g := 153) (pc' := 69) rfl rfl rfl (rfl : _ = (1 : Int)) (fun h9 => absurd h9 (by decide)) (fun hb => ?_)
    refine zw_ld (n := 1) (k := 0) (f := zp_isR) (pc' := 70) rfl rfl l0 rfl rfl ?_
    refine zw_gI (q := 72) (pc' := 73) W rfl rfl rfl rfl rfl rfl ?_
    refine zw_s (pc' := 74) rfl rfl ?_
    refine zw_bne2 (g := 153) (pc' := 77) rfl rfl rfl rfl (rfl : _ = (2 : Int)) (fun hb => ?_) (fun hb => ?_)
    · have hk : ys_kd T n q ≠ 2 := fun h9 => hb (k28.trans (yr_s_2.mpr h9))
      exact yx_piT (d := d) hB (Or.inl ⟨hg, q, hP, yR2_t hR (yR2_s (yN2_22.trans (if_neg hk)))⟩) hD hX c600 c610 h4 l0 l1
    · have hk : ys_kd T n q = 2 := yr_s_2.mp (k28.symm.trans hb)
      have nm := yr_nm hP.2.2 hP.2.1 hk
      have lt1 := qb.2.2.2 (by omega)
      omega
  | succ m ih =>
    intro q H lv x1 hB hg hP hR hD hX c600 c610 l0 l1 hm
    have W := zR_Wd (zR_dn hB)
    have f38 : (H.2.1 72 38).toInt = dd.1 4 := hD.2.2.2.1
    have k28 : (H.2.1 72 28).toInt = yr_s (ys_kd T n q) := hP.2.1.2.2.1
    have qb := ys_nxb (T := T) hP.2.2
    refine zw_ld (n := 1) (k := 0) (f := zp_isR) (pc' := 63) rfl rfl l0 rfl rfl ?_
    refine zw_c (pc' := 66) (zw_cv (q := 72) (Y := zm_175) W.1 rfl rfl zm_175_t rfl rfl) rfl rfl rfl rfl rfl (zq_good1 W hg) ?_
    refine zw_beq1 (g := 153) (pc' := 69) rfl rfl rfl (rfl : _ = (1 : Int)) (fun h9 => absurd h9 (by decide)) (fun hb => ?_)
    refine zw_ld (n := 1) (k := 0) (f := zp_isR) (pc' := 70) rfl rfl l0 rfl rfl ?_
    refine zw_gI (q := 72) (pc' := 73) W rfl rfl rfl rfl rfl rfl ?_
    refine zw_s (pc' := 74) rfl rfl ?_
    refine zw_bne2 (g := 153) (pc' := 77) rfl rfl rfl rfl (rfl : _ = (2 : Int)) (fun hb => ?_) (fun hb => ?_)
    · have hk : ys_kd T n q ≠ 2 := fun h9 => hb (k28.trans (yr_s_2.mpr h9))
      exact yx_piT (d := d) hB (Or.inl ⟨hg, q, hP, yR2_t hR (yR2_s (yN2_22.trans (if_neg hk)))⟩) hD hX c600 c610 h4 l0 l1
    · have hk : ys_kd T n q = 2 := yr_s_2.mp (k28.symm.trans hb)
      have nm := yr_nm hP.2.2 hP.2.1 hk
      have lt1 := qb.2.2.2 (by omega)
      refine zw_ld (n := 1) (k := 0) (f := zp_isR) (pc' := 78) rfl rfl l0 rfl rfl ?_
      refine zw_gI (q := 72) (pc' := 81) W rfl rfl rfl rfl rfl rfl ?_
      refine zw_s (pc' := 82) rfl rfl ?_
      refine zw_ble2 (g := 93) (pc' := 85) rfl rfl rfl rfl (rfl : _ = (4 : Int)) (fun h4b => ?_) (fun h4b => ?_)
      · have nm : (H.2.1 72 31).toInt = ys_vl T n q ∧ 0 ≤ ys_vl T n q ∧ ys_vl T n q ≤ 9999 := by
          rcases nm with nm | nm
          · omega
          · exact nm.2
        have ev : Int32.ofInt (ys_vl T n q) = H.2.1 72 31 := by rw [← nm.1, Int32.ofInt_toInt]
        refine zw_ld (n := 1) (k := 0) (f := zp_isR) (pc' := 94) rfl rfl l0 rfl rfl ?_
        refine zw_gI (q := 72) (pc' := 97) W rfl rfl rfl rfl rfl rfl ?_
        refine zw_ld (n := 1) (k := 0) (f := zp_isR) (pc' := 98) rfl rfl l0 rfl rfl ?_
        refine zw_gI (q := 72) (pc' := 101) W rfl rfl rfl rfl rfl rfl ?_
        refine zw_blt2 (g := 112) (pc' := 104) rfl rfl rfl rfl rfl (fun h5 => ?_) (fun h5 => ?_)
        · refine zw_ld (n := 1) (k := 1) (f := zp_isI) (pc' := 113) rfl rfl l1 rfl rfl ?_
          refine zw_ld (n := 1) (k := 0) (f := zp_isR) (pc' := 114) rfl rfl l0 rfl rfl ?_
          refine zw_gI (q := 72) (pc' := 117) W rfl rfl rfl rfl rfl rfl ?_
          refine zw_ishr (pc' := 118) rfl rfl ?_
          refine zw_s (pc' := 119) rfl rfl ?_
          refine zw_iand (pc' := 120) rfl rfl ?_
          refine zw_s (pc' := 121) rfl rfl ?_
          refine zw_bne2 (g := 129) (pc' := 124) rfl rfl rfl rfl (rfl : _ = (1 : Int)) (fun h6 => ?_) (fun h6 => ?_)
          · have z0 : x1 >>> (Int32.ofInt (ys_vl T n q) &&& 31) &&& Int32.ofInt 1 = Int32.ofInt 0 := by
              rw [ev]
              rcases y_b1 (x1 >>> (H.2.1 72 31 &&& 31)) with h9 | h9
              · exact Int32.toInt_inj.mp h9
              · exact absurd h9 h6
            obtain ⟨K, g1, g2, g3, g4⟩ := yp_go (L := L) (σ := σ) (d := d + 3) hby hB hP
            refine zw_ld (n := 1) (k := 0) (f := zp_isR) (pc' := 130) rfl rfl l0 rfl rfl ?_
            refine zw_c (pc' := 133) (zw_cv (q := 72) (Y := zm_175) W.1 rfl rfl zm_175_t rfl rfl) rfl rfl rfl rfl rfl (zq_good1 W hg) ?_
            refine zw_bne1 (g := 137) (pc' := 136) rfl rfl rfl (rfl : _ = (1 : Int)) (fun hb => ?_) (fun h9 => absurd h9 (by decide))
            refine zw_ld (n := 1) (k := 1) (f := zp_isI) (pc' := 138) rfl rfl l1 rfl rfl ?_
            refine zw_s (pc' := 139) rfl rfl ?_
            refine zw_ld (n := 1) (k := 0) (f := zp_isR) (pc' := 140) rfl rfl l0 rfl rfl ?_
            refine zw_gI (q := 72) (pc' := 143) W rfl rfl rfl rfl rfl rfl ?_
            refine zw_ishl (pc' := 144) rfl rfl ?_
            refine zw_ior (pc' := 145) rfl rfl ?_
            refine zw_st (n := 1) (k := 1) (f := zp_isI) (pc' := 146) rfl rfl rfl rfl rfl ?_
            refine zw_ld (n := 1) (k := 0) (f := zp_isR) (pc' := 147) rfl rfl (zw_gt l0 rfl rfl) rfl rfl ?_
            refine zw_cn (pc' := 150) (zw_cv (q := 72) (Y := zm_171) W.1 rfl rfl zm_171_t rfl rfl) rfl rfl rfl rfl rfl (g1) ?_
            refine zw_s (pc' := 62) rfl rfl ?_
            refine ih (ys_nx T n q) K _ _ g2 ((zx_fe g3 23 rfl rfl rfl).trans hg) g4 (yR2_t hR (yR2_s (yN2_22.trans ((if_pos hk).trans ((if_neg (by omega)).trans ((if_neg (by omega)).trans ((if_neg (fun h9 => h9 z0)).trans ?_))))))) (yDr_m g3 hD) (yXr_F g3 rfl hX) (by rw [zx_ae g3 87 (fun _ => rfl) rfl rfl]; exact c600) (by rw [zx_ae g3 87 (fun _ => rfl) rfl rfl]; exact c610) (zw_gt l0 rfl rfl) zw_g1 (by omega)
            rw [ev]
          · obtain ⟨H1, c1, c2, c3, c4, c5⟩ := yp_wr (L := L) (σ := σ) (d := d + 4) (y := Int32.ofInt 4) hB hg hP (by decide)
            have W1 := zR_Wd (zR_dn c2)
            refine zw_ld (n := 1) (k := 0) (f := zp_isR) (pc' := 125) rfl rfl l0 rfl rfl ?_
            refine zw_s (pc' := 126) rfl rfl ?_
            refine zw_cn (pc' := 129) (zw_cv (q := 72) (Y := zm_180) W.1 rfl rfl zm_180_t rfl rfl) rfl rfl rfl rfl rfl (c1) ?_
            refine zw_ld (n := 1) (k := 0) (f := zp_isR) (pc' := 130) rfl rfl l0 rfl rfl ?_
            refine zw_c (pc' := 133) (zw_cv (q := 72) (Y := zm_175) W1.1 rfl rfl zm_175_t rfl rfl) rfl rfl rfl rfl rfl (zq_good0 W1 c3) ?_
            refine zw_bne1 (g := 137) (pc' := 136) rfl rfl rfl (rfl : _ = (0 : Int)) (fun h9 => absurd h9 (by decide)) (fun hb => ?_)
            refine zw_rn rfl rfl ?_
            exact yRr_b c2 c3 c5 (yR2_a hR (yA2_done (yN2_22.trans ((if_pos hk).trans ((if_neg (by omega)).trans ((if_neg (by omega)).trans (if_pos (by
                rw [ev]
                intro h9
                rw [h9] at h6
                exact absurd h6 (by decide)))))))))
        · obtain ⟨H1, c1, c2, c3, c4, c5⟩ := yp_wr (L := L) (σ := σ) (d := d + 4) (y := Int32.ofInt 3) hB hg hP (by decide)
          have W1 := zR_Wd (zR_dn c2)
          refine zw_ld (n := 1) (k := 0) (f := zp_isR) (pc' := 105) rfl rfl l0 rfl rfl ?_
          refine zw_s (pc' := 106) rfl rfl ?_
          refine zw_cn (pc' := 109) (zw_cv (q := 72) (Y := zm_180) W.1 rfl rfl zm_180_t rfl rfl) rfl rfl rfl rfl rfl (c1) ?_
          refine zw_s (pc' := 129) rfl rfl ?_
          refine zw_ld (n := 1) (k := 0) (f := zp_isR) (pc' := 130) rfl rfl l0 rfl rfl ?_
          refine zw_c (pc' := 133) (zw_cv (q := 72) (Y := zm_175) W1.1 rfl rfl zm_175_t rfl rfl) rfl rfl rfl rfl rfl (zq_good0 W1 c3) ?_
          refine zw_bne1 (g := 137) (pc' := 136) rfl rfl rfl (rfl : _ = (0 : Int)) (fun h9 => absurd h9 (by decide)) (fun hb => ?_)
          refine zw_rn rfl rfl ?_
          exact yRr_b c2 c3 c5 (yR2_a hR (yA2_done (yN2_22.trans ((if_pos hk).trans ((if_neg (by omega)).trans (if_pos (by omega)))))))
      · obtain ⟨H1, c1, c2, c3, c4, c5⟩ := yp_wr (L := L) (σ := σ) (d := d + 4) (y := Int32.ofInt 2) hB hg hP (by decide)
        have W1 := zR_Wd (zR_dn c2)
        refine zw_ld (n := 1) (k := 0) (f := zp_isR) (pc' := 86) rfl rfl l0 rfl rfl ?_
        refine zw_s (pc' := 87) rfl rfl ?_
        refine zw_cn (pc' := 90) (zw_cv (q := 72) (Y := zm_180) W.1 rfl rfl zm_180_t rfl rfl) rfl rfl rfl rfl rfl (c1) ?_
        refine zw_s (pc' := 129) rfl rfl ?_
        refine zw_ld (n := 1) (k := 0) (f := zp_isR) (pc' := 130) rfl rfl l0 rfl rfl ?_
        refine zw_c (pc' := 133) (zw_cv (q := 72) (Y := zm_175) W1.1 rfl rfl zm_175_t rfl rfl) rfl rfl rfl rfl rfl (zq_good0 W1 c3) ?_
        refine zw_bne1 (g := 137) (pc' := 136) rfl rfl rfl (rfl : _ = (0 : Int)) (fun h9 => absurd h9 (by decide)) (fun hb => ?_)
        refine zw_rn rfl rfl ?_
        exact yRr_b c2 c3 c5 (yR2_a hR (yA2_done (yN2_22.trans ((if_pos hk).trans (if_pos (by rcases nm with nm | nm <;> omega))))))

set_option maxHeartbeats 4000000 in
set_option maxRecDepth 8000 in
theorem yx_pilot {L : Nat} {σ : Nat → Int32} {d : Nat} {T : Nat → Int} {n p : Nat} {dd : yLD} {H : zp_H} (hby : ∀ k, k < n → -128 ≤ T k ∧ T k ≤ 127) (hB : zk_Bs zR zg zJ H) (hg : (H.2.1 72 23).toInt = 0) (hP : yP T n p H) (hD : yDr dd H) (hX : yXd yRl [] dd H) (hk : ys_kd T n p = 3 ∧ ys_vl T n p = 19) : ∃ X, zp_Call L σ (d + 6) 191 [.inr (.inr (some 73))] H X ∧ yRr T n dd p X := by
  have W := zR_Wd (zR_dn hB)
  have r40 : 0 ≤ (H.2.1 72 40).toInt ∧ (H.2.1 72 40).toInt ≤ 4 := zR_fr1 (zR_dn hB) (k := 40) (r := (0, 4)) rfl rfl
  have d40 : (H.2.1 72 40).toInt = dd.1 6 := hD.2.2.2.2.2.1
  refine zw_met zm_191_t rfl rfl ?_
  refine zw_ld (n := 1) (k := 0) (f := zp_isR) (pc' := 1) rfl rfl rfl rfl rfl ?_
  refine zw_gI (q := 72) (pc' := 4) W rfl rfl rfl rfl rfl rfl ?_
  refine zw_s (pc' := 5) rfl rfl ?_
  refine zw_bne2 (g := 13) (pc' := 8) rfl rfl rfl rfl (rfl : _ = (4 : Int)) (fun h8 => ?_) (fun h8 => ?_)
  · refine zw_ld (n := 1) (k := 0) (f := zp_isR) (pc' := 14) rfl rfl rfl rfl rfl ?_
    refine zw_c (pc' := 17) (zw_cv (q := 72) (Y := zm_175) W.1 rfl rfl zm_175_t rfl rfl) rfl rfl rfl rfl rfl (zq_good1 W hg) ?_
    refine zw_bne1 (g := 21) (pc' := 20) rfl rfl rfl (rfl : _ = (1 : Int)) (fun hb => ?_) (fun h9 => absurd h9 (by decide))
    obtain ⟨K0, g1, g2, g3, g4⟩ := yp_go (L := L) (σ := σ) (d := d + 3) hby hB hP
    have W0 := zR_Wd (zR_dn g2)
    have D0 := yDr_m g3 hD
    have X0 := yXr_F g3 rfl hX
    have S0 : yS T n (0, [], 0, 0, 0, dd, p) (fun q => (19, [], 0, 0, 0, dd, q)) K0 := Or.inl ⟨(zx_fe g3 23 rfl rfl rfl).trans hg, _, g4, yR2_s (yN2_0.trans ((y0w_19 hk).trans (if_pos (by omega))))⟩
    refine zw_ld (n := 1) (k := 0) (f := zp_isR) (pc' := 22) rfl rfl rfl rfl rfl ?_
    refine zw_cn (pc' := 25) (zw_cv (q := 72) (Y := zm_171) W.1 rfl rfl zm_171_t rfl rfl) rfl rfl rfl rfl rfl (g1) ?_
    have f40 : (K0.2.1 72 40).toInt = dd.1 6 := D0.2.2.2.2.2.1
    have i0 : (Int32.ofInt 3 * K0.2.1 72 40).toInt = 3 * dd.1 6 := by rw [zt_mul (by decide) (by omega), f40]
    obtain ⟨_, n1, v, M, rfl, n2, n3, n4, n5, n6⟩ := yS_cr (L := L) (σ := σ) (d := d) (s2 := fun c q => (21, [], c, 0, 0, dd, q)) (s1 := fun x q => (20, [], x, 0, 0, dd, q)) hby g2 S0 D0.1 D0.2.1 (fun q => yN2_19) (fun x q => yN2_20)
    have WM := zR_Wd (zR_dn n2)
    have DM := yDr_M n3 D0
    have XM := yXr_F n3 rfl X0
    have p4 : (dd.1 6).toNat < 4 := by omega
    have l600 : yRl (600 + (dd.1 6).toNat) = (87, (Int32.ofInt 3 * K0.2.1 72 40).toInt.toNat) := by
      rw [yQ_600 (by omega), i0]
      exact congrArg (Prod.mk _) (by omega)
    have X1 := yXd_w (x := zp_nar 0 v) yRl_inj (by omega) l600 XM
    have c1 : ((zw_I M 87 (Int32.ofInt 3 * K0.2.1 72 40).toInt.toNat (zp_nar 0 v)).2.1 87 (3 * (dd.1 6).toNat)).toInt = v.toInt := by
      rw [show 3 * (dd.1 6).toNat = (Int32.ofInt 3 * K0.2.1 72 40).toInt.toNat by omega]
      exact congrArg Int32.toInt zw_eq
    have b1 : zk_Bs zR zg zJ (zw_I M 87 (Int32.ofInt 3 * K0.2.1 72 40).toInt.toNat (zp_nar 0 v)) := yB_870 (x := v) n2 (by omega) n5
    have S1 := yS_a (p := 87) (k := (Int32.ofInt 3 * K0.2.1 72 40).toInt.toNat) (x := zp_nar 0 v) (by decide) n4
    have D1 := yDr_a (p := 87) (k := (Int32.ofInt 3 * K0.2.1 72 40).toInt.toNat) (x := zp_nar 0 v) (by decide) DM
    refine zw_ld (n := 1) (k := 0) (f := zp_isR) (pc' := 26) rfl rfl rfl rfl rfl ?_
    refine zw_gR (q := 72) (pc' := 29) W0 rfl rfl rfl rfl (W0.2 72 56 _ rfl) rfl ?_
    refine zw_s (pc' := 30) rfl rfl ?_
    refine zw_ld (n := 1) (k := 0) (f := zp_isR) (pc' := 31) rfl rfl rfl rfl rfl ?_
    refine zw_gI (q := 72) (pc' := 34) W0 rfl rfl rfl rfl rfl rfl ?_
    refine zw_imul (pc' := 35) rfl rfl ?_
    refine zw_ld (n := 1) (k := 0) (f := zp_isR) (pc' := 36) rfl rfl rfl rfl rfl ?_
    refine zw_c (pc' := 39) (zw_cv (q := 72) (Y := zm_188) W0.1 rfl rfl zm_188_t rfl rfl) rfl rfl rfl rfl rfl (n1) ?_
    refine zw_is (q := 87) (pc' := 40) WM rfl rfl (by decide) (⟨by omega, by show _ < ((12 : Nat) : Int); omega⟩) rfl ?_
    generalize zw_I M 87 (Int32.ofInt 3 * K0.2.1 72 40).toInt.toNat (zp_nar 0 v) = K at b1 S1 D1 X1 c1 ⊢
    have WK := zR_Wd (zR_dn b1)
    have h40 : (K.2.1 72 40).toInt = dd.1 6 := D1.2.2.2.2.2.1
    obtain ⟨u, N, m1, m2, m3, m4, m5, m6⟩ := yS_nu (L := L) (σ := σ) (d := d + 2) (x := Int32.ofInt 0) (y := Int32.ofInt 99) (ok := fun u q => (22, [], v.toInt, u, 0, dd, q)) hby b1 S1 (fun q => yN2_21) (by decide)
    have WN := zR_Wd (zR_dn m2)
    have DN := yDr_M m3 D1
    have XN := yXr_F m3 rfl X1
    have cN : (N.2.1 87 (3 * (dd.1 6).toNat)).toInt = v.toInt := by
      rw [zx_ae m3 87 (fun _ => rfl) rfl rfl]
      exact c1
    have i2 : (Int32.ofInt 3 * K.2.1 72 40 + Int32.ofInt 1).toInt = 3 * (K.2.1 72 40).toInt + 1 := y_ix (by decide) (by omega) (by decide)
    have b3 : zk_Bs zR zg zJ (zw_I N 87 (Int32.ofInt 3 * K.2.1 72 40 + Int32.ofInt 1).toInt.toNat (zp_nar 0 u)) := yB_871 (x := u) m2 (by omega)
    have S3 := yS_a (p := 87) (k := (Int32.ofInt 3 * K.2.1 72 40 + Int32.ofInt 1).toInt.toNat) (x := zp_nar 0 u) (by decide) m4
    have D3 := yDr_a (p := 87) (k := (Int32.ofInt 3 * K.2.1 72 40 + Int32.ofInt 1).toInt.toNat) (x := zp_nar 0 u) (by decide) DN
    have l610 : yRl (610 + (dd.1 6).toNat) = (87, (Int32.ofInt 3 * K.2.1 72 40 + Int32.ofInt 1).toInt.toNat) := by
      rw [yQ_610 (by omega), i2, h40]
      exact congrArg (Prod.mk _) (by omega)
    have X3 := yXd_w (x := zp_nar 0 u) yRl_inj (by omega) l610 XN
    have c3 : ((zw_I N 87 (Int32.ofInt 3 * K.2.1 72 40 + Int32.ofInt 1).toInt.toNat (zp_nar 0 u)).2.1 87 (3 * (dd.1 6).toNat)).toInt = v.toInt := by
      rw [y_ne (fun h9 => by have := h9.2; omega)]
      exact cN
    have c4 : ((zw_I N 87 (Int32.ofInt 3 * K.2.1 72 40 + Int32.ofInt 1).toInt.toNat (zp_nar 0 u)).2.1 87 (3 * (dd.1 6).toNat + 1)).toInt = u.toInt := by
      rw [show 3 * (dd.1 6).toNat + 1 = (Int32.ofInt 3 * K.2.1 72 40 + Int32.ofInt 1).toInt.toNat by omega]
      exact congrArg Int32.toInt zw_eq
    refine zw_ld (n := 1) (k := 0) (f := zp_isR) (pc' := 41) rfl rfl rfl rfl rfl ?_
    refine zw_gR (q := 72) (pc' := 44) WK rfl rfl rfl rfl (WK.2 72 56 _ rfl) rfl ?_
    refine zw_s (pc' := 45) rfl rfl ?_
    refine zw_ld (n := 1) (k := 0) (f := zp_isR) (pc' := 46) rfl rfl rfl rfl rfl ?_
    refine zw_gI (q := 72) (pc' := 49) WK rfl rfl rfl rfl rfl rfl ?_
    refine zw_imul (pc' := 50) rfl rfl ?_
    refine zw_s (pc' := 51) rfl rfl ?_
    refine zw_iadd (pc' := 52) rfl rfl ?_
    refine zw_ld (n := 1) (k := 0) (f := zp_isR) (pc' := 53) rfl rfl rfl rfl rfl ?_
    refine zw_s (pc' := 54) rfl rfl ?_
    refine zw_s (pc' := 56) rfl rfl ?_
    refine zw_c (pc' := 59) (zw_cv (q := 72) (Y := zm_181) WK.1 rfl rfl zm_181_t rfl rfl) rfl rfl rfl rfl rfl (m1) ?_
    refine zw_is (q := 87) (pc' := 60) WN rfl rfl (by decide) (⟨by omega, by show _ < ((12 : Nat) : Int); omega⟩) rfl ?_
    refine zw_s (pc' := 61) rfl rfl ?_
    refine zw_st (n := 1) (k := 1) (f := zp_isI) (pc' := 62) rfl rfl rfl rfl rfl ?_
    generalize zw_I N 87 (Int32.ofInt 3 * K.2.1 72 40 + Int32.ofInt 1).toInt.toNat (zp_nar 0 u) = R at b3 S3 D3 X3 c3 c4 ⊢
    have WR := zR_Wd (zR_dn b3)
    rcases S3 with ⟨hg3, q, hP3, hR3⟩ | ⟨hg3, r, hb1, hb2⟩
    · exact yx_piL (d := d) hby (by omega) (n - q) q _ _ (Int32.ofInt 0) b3 hg3 hP3 hR3 D3 X3 c3 c4 (zw_gt rfl rfl rfl) zw_g1 (Nat.le_refl _)
    · refine zw_ld (n := 1) (k := 0) (f := zp_isR) (pc' := 63) rfl rfl (zw_gt rfl rfl rfl) rfl rfl ?_
      refine zw_c (pc' := 66) (zw_cv (q := 72) (Y := zm_175) WR.1 rfl rfl zm_175_t rfl rfl) rfl rfl rfl rfl rfl (zq_good0 WR hg3) ?_
      refine zw_beq1 (g := 153) (pc' := 69) rfl rfl rfl (rfl : _ = (0 : Int)) (fun hb => ?_) (fun h9 => absurd h9 (by decide))
      exact yx_piT (d := d) (xc := v) (xh := u) b3 (Or.inr ⟨hg3, r, hb1, hb2⟩) D3 X3 c3 c4 (by omega) (zw_gt rfl rfl rfl) zw_g1
  · obtain ⟨H1, c1, c2, c3, c4, c5⟩ := yp_wr (L := L) (σ := σ) (d := d + 4) (y := Int32.ofInt 2) hB hg hP (by decide)
    have W1 := zR_Wd (zR_dn c2)
    refine zw_ld (n := 1) (k := 0) (f := zp_isR) (pc' := 9) rfl rfl rfl rfl rfl ?_
    refine zw_s (pc' := 10) rfl rfl ?_
    refine zw_cn (pc' := 13) (zw_cv (q := 72) (Y := zm_180) W.1 rfl rfl zm_180_t rfl rfl) rfl rfl rfl rfl rfl (c1) ?_
    refine zw_ld (n := 1) (k := 0) (f := zp_isR) (pc' := 14) rfl rfl rfl rfl rfl ?_
    refine zw_c (pc' := 17) (zw_cv (q := 72) (Y := zm_175) W1.1 rfl rfl zm_175_t rfl rfl) rfl rfl rfl rfl rfl (zq_good0 W1 c3) ?_
    refine zw_bne1 (g := 21) (pc' := 20) rfl rfl rfl (rfl : _ = (0 : Int)) (fun h9 => absurd h9 (by decide)) (fun hb => ?_)
    refine zw_rn rfl rfl ?_
    exact yRr_b c2 c3 c5 (yA2_done (yN2_0.trans ((y0w_19 hk).trans (if_neg (by omega)))))
end
section
/-! ===== the reference: a line, in parts ===== -/

/-- a line is read, its end too -/
def yLr (T : Nat → Int) (n : Nat) (dd : yLD) (p : Nat) (X : zp_X) : Prop := ∃ H1, X = (.inl none, H1) ∧ zk_Bs zR zg zJ H1 ∧ ∃ d', yS T n (0, [], 0, 0, 0, dd, p) (fun q => (0, [], 0, 0, 0, d', q)) H1 ∧ ((H1.2.1 72 23).toInt = 0 → (yDr d' H1 ∧ yXd yRl [] d' H1) ∧ d'.1 0 = 0)
theorem yLr_b {T : Nat → Int} {n p : Nat} {dd : yLD} {r : Int × Nat} {H1 : zp_H} (h1 : zk_Bs zR zg zJ H1) (h2 : (H1.2.1 72 23).toInt ≠ 0) (h3 : yD T n r H1) (h4 : yA2 T n (0, [], 0, 0, 0, dd, p) r) : yLr T n dd p (.inl none, H1) := ⟨H1, rfl, h1, dd, Or.inr ⟨h2, r, h3, h4⟩, fun h9 => absurd h9 h2⟩
theorem yDr_0 {d : yLD} {v : Int} {H : zp_H} (h : yDr d H) : yDr (yU d.1 0 v, d.2) H := by
  obtain ⟨a0, a1, a2, a3, a4, a5, a6, a7, a8, a9, a11, a12, a13⟩ := h
  exact ⟨a0, a1, a2, a3, a4, a5, a6, a7, a8, a9, a11, a12, a13⟩
theorem yDr_34s {d : yLD} {x : Int32} {v : Int} {H : zp_H} (h : yDr d H) (hx : x.toInt = v) : yDr (yU d.1 1 v, d.2) (zw_I H 72 34 x) := by
  obtain ⟨a0, a1, a2, a3, a4, a5, a6, a7, a8, a9, a11, a12, a13⟩ := h
  exact ⟨hx, a1, a2, a3, a4, a5, a6, a7, a8, a9, a11, a12, a13⟩
theorem yDr_35s {d : yLD} {x : Int32} {v : Int} {H : zp_H} (h : yDr d H) (hx : x.toInt = v) : yDr (yU d.1 2 v, d.2) (zw_I H 72 35 x) := by
  obtain ⟨a0, a1, a2, a3, a4, a5, a6, a7, a8, a9, a11, a12, a13⟩ := h
  exact ⟨a0, hx, a2, a3, a4, a5, a6, a7, a8, a9, a11, a12, a13⟩
theorem yw_h : ∀ j, j < 22 → ∀ k, k < 17 → 8 ≤ k → (yw_m (j : Nat) = ((k : Nat) : Int) ↔ ((j : Nat) : Int) = ((k : Nat) : Int) + 4) := by decide
theorem yr_hd {T : Nat → Int} {n p : Nat} {H : zp_H} (h : yP T n p H) {k : Int} (hk : 8 ≤ k ∧ k ≤ 16) : zg H = k ↔ (ys_kd T n p = 3 ∧ ys_vl T n p = k + 4) := by
  rw [yr_zg h.2.2 h.2.1]
  by_cases hk3 : ys_kd T n p = 3
  · rw [if_pos hk3]
    have hv := ys_vl_b hk3
    have e := yw_h (ys_vl T n p).toNat (by omega) k.toNat (by omega) (by omega)
    rw [show (((ys_vl T n p).toNat : Nat) : Int) = ys_vl T n p by omega, show ((k.toNat : Nat) : Int) = k by omega] at e
    exact e.trans ⟨fun h9 => ⟨hk3, h9⟩, fun h9 => h9.2⟩
  · rw [if_neg hk3]
    exact ⟨fun h9 => by omega, fun h9 => absurd h9.1 hk3⟩
theorem y0w_no {T : Nat → Int} {n p : Nat} {d : yLD} (h0 : ys_kd T n p ≠ 0) (h : ¬ (ys_kd T n p = 3 ∧ 12 ≤ ys_vl T n p ∧ ys_vl T n p ≤ 20)) : y0 T n d p = .inr (1, p) := by
  unfold y0
  rw [if_neg h0]
  by_cases h3 : ys_kd T n p = 3
  · rw [if_neg (by omega), if_neg (by omega), if_neg (by omega), if_neg (by omega), if_neg (by omega), if_neg (by omega), if_neg (by omega), if_neg (by omega), if_neg (by omega), if_neg (by omega)]
  · rw [if_pos h3]

set_option maxHeartbeats 4000000 in
set_option maxRecDepth 8000 in
theorem yx_lE {L : Nat} {σ : Nat → Int32} {d : Nat} {T : Nat → Int} {n p : Nat} {dd : yLD} {H : zp_H} {lv : zp_LV} {d' : yLD} (hby : ∀ k, k < n → -128 ≤ T k ∧ T k ≤ 127) (hB : zk_Bs zR zg zJ H) (hs : yS T n (0, [], 0, 0, 0, dd, p) (fun q => (50, [], 0, 0, 0, d', q)) H) (hD : (H.2.1 72 23).toInt = 0 → yDr d' H ∧ yXd yRl [] d' H) (l0 : zp_get lv 0 = some (.inr (.inr (some 73)))) : zs_Safe L σ (yLr T n dd p) zm_176 [] (d + 8) (483, lv, [], H, (0, 0)) := by
  have W := zR_Wd (zR_dn hB)
  refine zw_ld (n := 1) (k := 0) (f := zp_isR) (pc' := 484) rfl rfl l0 rfl rfl ?_
  refine zw_ld (n := 1) (k := 0) (f := zp_isR) (pc' := 485) rfl rfl l0 rfl rfl ?_
  refine zw_s (pc' := 487) rfl rfl ?_
  by_cases h59 : (H.2.1 72 28).toInt = 3 ∧ (H.2.1 72 32).toInt = (Int32.ofInt 59).toInt
  · refine zw_c (pc' := 490) (zw_cv (q := 72) (Y := zm_194) W.1 rfl rfl zm_194_t rfl rfl) rfl rfl rfl rfl rfl (zq_sign1 W h59) ?_
    obtain ⟨H1, n1, n2, n3, n4, n5⟩ := yS_need (L := L) (σ := σ) (d := d + 5) (y := Int32.ofInt 1) (s' := fun q => (0, [], 0, 0, 0, (yU d'.1 0 0, d'.2), q)) hby hB hs (fun _ q hP => yN2_50.trans (if_pos ((yr_sg hP.2.1).mp h59))) (fun h9 => absurd h9 (by decide))
    refine zw_cn (pc' := 493) (zw_cv (q := 72) (Y := zm_186) W.1 rfl rfl zm_186_t rfl rfl) rfl rfl rfl rfl rfl (n1) ?_
    refine zw_rn rfl rfl ?_
    exact ⟨H1, rfl, n2, _, n4, fun h9 => ⟨⟨yDr_0 (yDr_M n3 (hD (n5 h9).1).1), yXd_k (by decide) (yXr_F n3 rfl (hD (n5 h9).1).2)⟩, rfl⟩⟩
  · refine zw_c (pc' := 490) (zw_cv (q := 72) (Y := zm_194) W.1 rfl rfl zm_194_t rfl rfl) rfl rfl rfl rfl rfl (zq_sign0 W h59) ?_
    obtain ⟨H1, n1, n2, n3, n4, n5⟩ := yS_need (L := L) (σ := σ) (d := d + 5) (y := Int32.ofInt 0) (s' := fun q => (0, [], 0, 0, 0, (yU d'.1 0 0, d'.2), q)) hby hB hs (fun h9 => absurd rfl h9) (fun _ q _ hP => yN2_50.trans (if_neg (fun h9 => h59 ((yr_sg hP.2.1).mpr h9))))
    refine zw_cn (pc' := 493) (zw_cv (q := 72) (Y := zm_186) W.1 rfl rfl zm_186_t rfl rfl) rfl rfl rfl rfl rfl (n1) ?_
    refine zw_rn rfl rfl ?_
    exact ⟨H1, rfl, n2, _, n4, fun h9 => ⟨⟨yDr_0 (yDr_M n3 (hD (n5 h9).1).1), yXd_k (by decide) (yXr_F n3 rfl (hD (n5 h9).1).2)⟩, rfl⟩⟩

set_option maxHeartbeats 4000000 in
set_option maxRecDepth 8000 in
theorem yx_l11 {L : Nat} {σ : Nat → Int32} {d : Nat} {T : Nat → Int} {n p : Nat} {dd : yLD} {H : zp_H} {lv : zp_LV} (hK : zx_KW L σ) (hby : ∀ k, k < n → -128 ≤ T k ∧ T k ≤ 127) (hB : zk_Bs zR zg zJ H) (hg : (H.2.1 72 23).toInt = 0) (hP : yP T n p H) (hD : yDr dd H) (hX : yXd yRl [] dd H) (hk : ys_kd T n p = 3 ∧ ys_vl T n p = 15) (l0 : zp_get lv 0 = some (.inr (.inr (some 73)))) : zs_Safe L σ (yLr T n dd p) zm_176 [] (d + 8) (246, lv, [], H, (0, 0)) := by
  have W := zR_Wd (zR_dn hB)
  obtain ⟨_, c1, H1, rfl, c2, d', c3, c4⟩ := yx_slate (L := L) (σ := σ) (d := d + 2) hK hby hB hg hP hD hX hk
  refine zw_ld (n := 1) (k := 0) (f := zp_isR) (pc' := 247) rfl rfl l0 rfl rfl ?_
  refine zw_cn (pc' := 250) (zw_cv (q := 72) (Y := zm_187) W.1 rfl rfl zm_187_t rfl rfl) rfl rfl rfl rfl rfl (c1) ?_
  refine zw_s (pc' := 483) rfl rfl ?_
  exact yx_lE hby c2 c3 c4 l0

set_option maxHeartbeats 4000000 in
set_option maxRecDepth 8000 in
theorem yx_l12 {L : Nat} {σ : Nat → Int32} {d : Nat} {T : Nat → Int} {n p : Nat} {dd : yLD} {H : zp_H} {lv : zp_LV} (hK : zx_KW L σ) (hby : ∀ k, k < n → -128 ≤ T k ∧ T k ≤ 127) (hB : zk_Bs zR zg zJ H) (hg : (H.2.1 72 23).toInt = 0) (hP : yP T n p H) (hD : yDr dd H) (hX : yXd yRl [] dd H) (hk : ys_kd T n p = 3 ∧ ys_vl T n p = 16) (l0 : zp_get lv 0 = some (.inr (.inr (some 73)))) : zs_Safe L σ (yLr T n dd p) zm_176 [] (d + 8) (259, lv, [], H, (0, 0)) := by
  have W := zR_Wd (zR_dn hB)
  obtain ⟨_, c1, H1, rfl, c2, d', c3, c4⟩ := yx_hand (L := L) (σ := σ) (d := d + 4) hby hB hg hP hD hX hk
  refine zw_ld (n := 1) (k := 0) (f := zp_isR) (pc' := 260) rfl rfl l0 rfl rfl ?_
  refine zw_cn (pc' := 263) (zw_cv (q := 72) (Y := zm_190) W.1 rfl rfl zm_190_t rfl rfl) rfl rfl rfl rfl rfl (c1) ?_
  refine zw_s (pc' := 483) rfl rfl ?_
  exact yx_lE hby c2 c3 c4 l0

set_option maxHeartbeats 4000000 in
set_option maxRecDepth 8000 in
theorem yx_l15 {L : Nat} {σ : Nat → Int32} {d : Nat} {T : Nat → Int} {n p : Nat} {dd : yLD} {H : zp_H} {lv : zp_LV} (hK : zx_KW L σ) (hby : ∀ k, k < n → -128 ≤ T k ∧ T k ≤ 127) (hB : zk_Bs zR zg zJ H) (hg : (H.2.1 72 23).toInt = 0) (hP : yP T n p H) (hD : yDr dd H) (hX : yXd yRl [] dd H) (hk : ys_kd T n p = 3 ∧ ys_vl T n p = 19) (l0 : zp_get lv 0 = some (.inr (.inr (some 73)))) : zs_Safe L σ (yLr T n dd p) zm_176 [] (d + 8) (378, lv, [], H, (0, 0)) := by
  have W := zR_Wd (zR_dn hB)
  obtain ⟨_, c1, H1, rfl, c2, d', c3, c4⟩ := yx_pilot (L := L) (σ := σ) (d := d + 2) hby hB hg hP hD hX hk
  refine zw_ld (n := 1) (k := 0) (f := zp_isR) (pc' := 379) rfl rfl l0 rfl rfl ?_
  refine zw_cn (pc' := 382) (zw_cv (q := 72) (Y := zm_191) W.1 rfl rfl zm_191_t rfl rfl) rfl rfl rfl rfl rfl (c1) ?_
  refine zw_s (pc' := 483) rfl rfl ?_
  exact yx_lE hby c2 c3 c4 l0

set_option maxHeartbeats 4000000 in
set_option maxRecDepth 8000 in
theorem yx_l8 {L : Nat} {σ : Nat → Int32} {d : Nat} {T : Nat → Int} {n p : Nat} {dd : yLD} {H : zp_H} {lv : zp_LV} (hby : ∀ k, k < n → -128 ≤ T k ∧ T k ≤ 127) (hB : zk_Bs zR zg zJ H) (hg : (H.2.1 72 23).toInt = 0) (hP : yP T n p H) (hD : yDr dd H) (hX : yXd yRl [] dd H) (hf0 : (H.2.1 72 50).toInt = dd.1 0) (hk : ys_kd T n p = 3 ∧ ys_vl T n p = 12) (l0 : zp_get lv 0 = some (.inr (.inr (some 73)))) : zs_Safe L σ (yLr T n dd p) zm_176 [] (d + 8) (11, lv, [], H, (0, 0)) := by
  have W := zR_Wd (zR_dn hB)
  refine zw_ld (n := 1) (k := 0) (f := zp_isR) (pc' := 12) rfl rfl l0 rfl rfl ?_
  refine zw_gI (q := 72) (pc' := 15) W rfl rfl rfl rfl rfl rfl ?_
  refine zw_bne1 (g := 23) (pc' := 18) rfl rfl rfl rfl (fun hf => ?_) (fun hf => ?_)
  · refine zw_ld (n := 1) (k := 0) (f := zp_isR) (pc' := 24) rfl rfl l0 rfl rfl ?_
    refine zw_c (pc' := 27) (zw_cv (q := 72) (Y := zm_175) W.1 rfl rfl zm_175_t rfl rfl) rfl rfl rfl rfl rfl (zq_good1 W hg) ?_
    refine zw_bne1 (g := 31) (pc' := 30) rfl rfl rfl (rfl : _ = (1 : Int)) (fun hb => ?_) (fun h9 => absurd h9 (by decide))
    obtain ⟨K0, g1, g2, g3, g4⟩ := yp_go (L := L) (σ := σ) (d := d + 6) hby hB hP
    have W0 := zR_Wd (zR_dn g2)
    have D0 := yDr_m g3 hD
    have X0 := yXr_F g3 rfl hX
    have S0 : yS T n (0, [], 0, 0, 0, dd, p) (fun q => (1, [], 0, 0, 0, dd, q)) K0 := Or.inl ⟨(zx_fe g3 23 rfl rfl rfl).trans hg, _, g4, yR2_s (yN2_0.trans ((y0w_12 hk).trans (if_pos (by omega))))⟩
    refine zw_ld (n := 1) (k := 0) (f := zp_isR) (pc' := 32) rfl rfl l0 rfl rfl ?_
    refine zw_cn (pc' := 35) (zw_cv (q := 72) (Y := zm_171) W.1 rfl rfl zm_171_t rfl rfl) rfl rfl rfl rfl rfl (g1) ?_
    obtain ⟨v, M, n1, n2, n3, n4, n5, n6⟩ := yS_nu (L := L) (σ := σ) (d := d + 5) (x := Int32.ofInt 2) (y := Int32.ofInt 8) (ok := fun v q => (2, [], v, 0, 0, dd, q)) hby g2 S0 (fun q => yN2_1) (by decide)
    have WM := zR_Wd (zR_dn n2)
    have DM := yDr_34s (x := v) (yDr_M n3 D0) rfl
    have XM := yXd_k (k := 1) (v := v.toInt) (by decide) (yXr_o (p := 72) (k := 34) (x := v) (by decide) (yXr_F n3 rfl X0))
    have cM := zR_cn n2
    have b1 : zk_Bs zR zg zJ (zw_I M 72 34 v) := by
      by_cases h9 : (M.2.1 72 23).toInt = 0
      · obtain ⟨_, y1, y2⟩ := n5 h9
        have y1 : (2 : Int) ≤ v.toInt := y1
        have y2 : v.toInt ≤ (8 : Int) := y2
        exact yB_f n2 (fun r hr => by cases hr; exact ⟨by show (0 : Int) ≤ _; omega, by show _ ≤ (8 : Int); omega⟩) rfl rfl (fun _ => ⟨⟨y1, y2⟩, (cM h9).2⟩)
      · have y1 := n6 h9
        exact yB_f n2 (fun r hr => by cases hr; rw [y1]; exact ⟨by decide, by decide⟩) rfl rfl (fun h8 => absurd h8 h9)
    have S1 := yS_f (k := 34) (x := v) (by decide) n4
    refine zw_ld (n := 1) (k := 0) (f := zp_isR) (pc' := 36) rfl rfl l0 rfl rfl ?_
    refine zw_ld (n := 1) (k := 0) (f := zp_isR) (pc' := 37) rfl rfl l0 rfl rfl ?_
    refine zw_s (pc' := 38) rfl rfl ?_
    refine zw_s (pc' := 40) rfl rfl ?_
    refine zw_c (pc' := 43) (zw_cv (q := 72) (Y := zm_181) W0.1 rfl rfl zm_181_t rfl rfl) rfl rfl rfl rfl rfl (n1) ?_
    refine zw_pI (q := 72) (pc' := 46) WM rfl rfl rfl rfl rfl rfl ?_
    generalize zw_I M 72 34 v = K at b1 S1 DM XM ⊢
    have WK := zR_Wd (zR_dn b1)
    obtain ⟨u, N, m1, m2, m3, m4, m5, m6⟩ := yS_nu (L := L) (σ := σ) (d := d + 5) (x := Int32.ofInt 2) (y := Int32.ofInt 8) (ok := fun u q => (50, [], 0, 0, 0, (yU (yU dd.1 1 v.toInt) 2 u, dd.2), q)) hby b1 S1 (fun q => yN2_2) (by decide)
    have WN := zR_Wd (zR_dn m2)
    have DN := yDr_35s (x := u) (yDr_M m3 DM) rfl
    have XN := yXd_k (d := (yU dd.1 1 v.toInt, dd.2)) (k := 2) (v := u.toInt) (by decide) (yXr_o (p := 72) (k := 35) (x := u) (by decide) (yXr_F m3 rfl XM))
    have cN := zR_cn m2
    have b3 : zk_Bs zR zg zJ (zw_I N 72 35 u) := by
      by_cases h9 : (N.2.1 72 23).toInt = 0
      · obtain ⟨_, y1, y2⟩ := m5 h9
        have y1 : (2 : Int) ≤ u.toInt := y1
        have y2 : u.toInt ≤ (8 : Int) := y2
        exact yB_f m2 (fun r hr => by cases hr; exact ⟨by show (0 : Int) ≤ _; omega, by show _ ≤ (8 : Int); omega⟩) rfl rfl (fun _ => ⟨(cN h9).1, ⟨y1, y2⟩⟩)
      · have y1 := m6 h9
        exact yB_f m2 (fun r hr => by cases hr; rw [y1]; exact ⟨by decide, by decide⟩) rfl rfl (fun h8 => absurd h8 h9)
    have S3 := yS_f (k := 35) (x := u) (by decide) m4
    refine zw_ld (n := 1) (k := 0) (f := zp_isR) (pc' := 47) rfl rfl l0 rfl rfl ?_
    refine zw_ld (n := 1) (k := 0) (f := zp_isR) (pc' := 48) rfl rfl l0 rfl rfl ?_
    refine zw_s (pc' := 49) rfl rfl ?_
    refine zw_s (pc' := 51) rfl rfl ?_
    refine zw_c (pc' := 54) (zw_cv (q := 72) (Y := zm_181) WK.1 rfl rfl zm_181_t rfl rfl) rfl rfl rfl rfl rfl (m1) ?_
    refine zw_pI (q := 72) (pc' := 57) WN rfl rfl rfl rfl rfl rfl ?_
    refine zw_s (pc' := 483) rfl rfl ?_
    exact yx_lE hby b3 S3 (fun _ => ⟨DN, XN⟩) l0
  · obtain ⟨H1, c1, c2, c3, c4, c5⟩ := yp_wr (L := L) (σ := σ) (d := d + 7) (y := Int32.ofInt 5) hB hg hP (by decide)
    have W1 := zR_Wd (zR_dn c2)
    refine zw_ld (n := 1) (k := 0) (f := zp_isR) (pc' := 19) rfl rfl l0 rfl rfl ?_
    refine zw_s (pc' := 20) rfl rfl ?_
    refine zw_cn (pc' := 23) (zw_cv (q := 72) (Y := zm_180) W.1 rfl rfl zm_180_t rfl rfl) rfl rfl rfl rfl rfl (c1) ?_
    refine zw_ld (n := 1) (k := 0) (f := zp_isR) (pc' := 24) rfl rfl l0 rfl rfl ?_
    refine zw_c (pc' := 27) (zw_cv (q := 72) (Y := zm_175) W1.1 rfl rfl zm_175_t rfl rfl) rfl rfl rfl rfl rfl (zq_good0 W1 c3) ?_
    refine zw_bne1 (g := 31) (pc' := 30) rfl rfl rfl (rfl : _ = (0 : Int)) (fun h9 => absurd h9 (by decide)) (fun hb => ?_)
    refine zw_rn rfl rfl ?_
    exact yLr_b c2 c3 c5 (yA2_done (yN2_0.trans ((y0w_12 hk).trans (if_neg (by omega)))))

set_option maxHeartbeats 4000000 in
set_option maxRecDepth 8000 in
theorem yx_l13 {L : Nat} {σ : Nat → Int32} {d : Nat} {T : Nat → Int} {n p : Nat} {dd : yLD} {H : zp_H} {lv : zp_LV} (hby : ∀ k, k < n → -128 ≤ T k ∧ T k ≤ 127) (hB : zk_Bs zR zg zJ H) (hg : (H.2.1 72 23).toInt = 0) (hP : yP T n p H) (hD : yDr dd H) (hX : yXd yRl [] dd H) (hk : ys_kd T n p = 3 ∧ ys_vl T n p = 17) (l0 : zp_get lv 0 = some (.inr (.inr (some 73)))) : zs_Safe L σ (yLr T n dd p) zm_176 [] (d + 8) (272, lv, [], H, (0, 0)) := by
  have W := zR_Wd (zR_dn hB)
  have d48 : (H.2.1 72 48).toInt = dd.1 8 := hD.2.2.2.2.2.2.2.1
  refine zw_ld (n := 1) (k := 0) (f := zp_isR) (pc' := 273) rfl rfl l0 rfl rfl ?_
  refine zw_gI (q := 72) (pc' := 276) W rfl rfl rfl rfl rfl rfl ?_
  refine zw_beq1 (g := 284) (pc' := 279) rfl rfl rfl rfl (fun hf => ?_) (fun hf => ?_)
  · refine zw_ld (n := 1) (k := 0) (f := zp_isR) (pc' := 285) rfl rfl l0 rfl rfl ?_
    refine zw_c (pc' := 288) (zw_cv (q := 72) (Y := zm_175) W.1 rfl rfl zm_175_t rfl rfl) rfl rfl rfl rfl rfl (zq_good1 W hg) ?_
    refine zw_bne1 (g := 292) (pc' := 291) rfl rfl rfl (rfl : _ = (1 : Int)) (fun hb => ?_) (fun h9 => absurd h9 (by decide))
    have b0 : zk_Bs zR zg zJ (zw_I H 72 48 (Int32.ofInt 1)) := yB_g hB (fun r hr => by cases hr; exact ⟨by decide, by decide⟩) rfl rfl (by decide)
    have D8 := yDr_48 (x := Int32.ofInt 1) (v := 1) hD rfl
    have X8 := yXr_o (p := 72) (k := 48) (x := Int32.ofInt 1) (by decide) hX
    have P8 : yP T n p (zw_I H 72 48 (Int32.ofInt 1)) := ⟨yr_T_c (H := H) rfl rfl rfl rfl hP.1, yr_k_c (H := H) (fun j hj => y_ne (fun h9 => by have := h9.2; omega)) rfl hP.2.1, hP.2.2⟩
    have G8 : ((zw_I H 72 48 (Int32.ofInt 1)).2.1 72 23).toInt = 0 := hg
    refine zw_ld (n := 1) (k := 0) (f := zp_isR) (pc' := 293) rfl rfl l0 rfl rfl ?_
    refine zw_s (pc' := 294) rfl rfl ?_
    refine zw_pI (q := 72) (pc' := 297) W rfl rfl rfl rfl (rfl) rfl ?_
    generalize zw_I H 72 48 (Int32.ofInt 1) = H8 at b0 D8 X8 P8 G8 ⊢
    have W8 := zR_Wd (zR_dn b0)
    obtain ⟨K0, g1, g2, g3, g4⟩ := yp_go (L := L) (σ := σ) (d := d + 6) hby b0 P8
    have W0 := zR_Wd (zR_dn g2)
    have D0 := yDr_m g3 D8
    have X0 := yXr_F g3 rfl X8
    have S0 : yS T n (0, [], 0, 0, 0, dd, p) (fun q => (15, [], 0, 0, 0, dd, q)) K0 := Or.inl ⟨(zx_fe g3 23 rfl rfl rfl).trans G8, _, g4, yR2_s (yN2_0.trans ((y0w_17 hk).trans (if_pos (by omega))))⟩
    refine zw_ld (n := 1) (k := 0) (f := zp_isR) (pc' := 298) rfl rfl l0 rfl rfl ?_
    refine zw_cn (pc' := 301) (zw_cv (q := 72) (Y := zm_171) W8.1 rfl rfl zm_171_t rfl rfl) rfl rfl rfl rfl rfl (g1) ?_
    obtain ⟨_, n1, v, M, rfl, n2, n3, n4, n5, n6⟩ := yS_cr (L := L) (σ := σ) (d := d + 3) (w := dd.1 1) (hh := dd.1 2) (s2 := fun c q => (17, [], c, 0, 0, dd, q)) (s1 := fun x q => (16, [], x, 0, 0, dd, q)) hby g2 S0 D0.1 D0.2.1 (fun q => yN2_15) (fun x q => yN2_16)
    have WM := zR_Wd (zR_dn n2)
    have DM := yDr_42 (k := 42) (x := v) (by decide) (yDr_M n3 D0)
    have XM := yXd_w (i0 := 20) (p := 72) (k := 42) (x := v) yRl_inj (by decide) rfl (yXr_F n3 rfl X0)
    have c1 : ((zw_I M 72 42 v).2.1 72 42).toInt = v.toInt := congrArg Int32.toInt zw_eq
    have b1 : zk_Bs zR zg zJ (zw_I M 72 42 v) := yB_g n2 (fun r hr => by cases hr; exact n5) rfl rfl (by decide)
    have S1 := yS_f (k := 42) (x := v) (by decide) n4
    refine zw_ld (n := 1) (k := 0) (f := zp_isR) (pc' := 302) rfl rfl l0 rfl rfl ?_
    refine zw_ld (n := 1) (k := 0) (f := zp_isR) (pc' := 303) rfl rfl l0 rfl rfl ?_
    refine zw_c (pc' := 306) (zw_cv (q := 72) (Y := zm_188) W0.1 rfl rfl zm_188_t rfl rfl) rfl rfl rfl rfl rfl (n1) ?_
    refine zw_pI (q := 72) (pc' := 309) WM rfl rfl rfl rfl rfl rfl ?_
    generalize zw_I M 72 42 v = K at b1 S1 DM XM c1 ⊢
    have WK := zR_Wd (zR_dn b1)
    obtain ⟨u, N, m1, m2, m3, m4, m5, m6⟩ := yS_nu (L := L) (σ := σ) (d := d + 5) (x := Int32.ofInt 0) (y := Int32.ofInt 9) (ok := fun u q => (50, [], 0, 0, 0, yW (yW (yU dd.1 8 1, dd.2) 20 v.toInt) 21 u, q)) hby b1 S1 (fun q => yN2_17) (by decide)
    have WN := zR_Wd (zR_dn m2)
    have DN := yDr_W (i := 21) (v := u.toInt) (by decide) (yDr_W (i := 20) (v := v.toInt) (by decide) (yDr_42 (k := 43) (x := u) (by decide) (yDr_M m3 DM)))
    have cN : (N.2.1 72 42).toInt = v.toInt := (zx_fe m3 42 rfl rfl rfl).trans c1
    have XN : yXd yRl [] (yW (yW (yU dd.1 8 1, dd.2) 20 v.toInt) 21 u.toInt) (zw_I N 72 43 u) := by
      refine yXd_wD (yRl_inj) (by decide) rfl rfl ?_
      have X4 := yXd_D (i0 := 20) (v := v.toInt) (yXd_k (k := 8) (v := 1) (by decide) (yXr_F m3 rfl XM))
      refine yXd_C (i0 := 20) (yXd_s (fun i h9 => ?_) X4) cN
      simp only [List.mem_cons, List.not_mem_nil, or_false] at h9 ⊢
      omega
    have b3 : zk_Bs zR zg zJ (zw_I N 72 43 u) := yB_g m2 (fun r hr => by cases hr) rfl rfl (by decide)
    have S3 := yS_f (k := 43) (x := u) (by decide) m4
    refine zw_ld (n := 1) (k := 0) (f := zp_isR) (pc' := 310) rfl rfl l0 rfl rfl ?_
    refine zw_ld (n := 1) (k := 0) (f := zp_isR) (pc' := 311) rfl rfl l0 rfl rfl ?_
    refine zw_s (pc' := 312) rfl rfl ?_
    refine zw_s (pc' := 314) rfl rfl ?_
    refine zw_c (pc' := 317) (zw_cv (q := 72) (Y := zm_181) WK.1 rfl rfl zm_181_t rfl rfl) rfl rfl rfl rfl rfl (m1) ?_
    refine zw_pI (q := 72) (pc' := 320) WN rfl rfl rfl rfl rfl rfl ?_
    refine zw_s (pc' := 483) rfl rfl ?_
    exact yx_lE hby b3 S3 (fun _ => ⟨DN, XN⟩) l0
  · obtain ⟨H1, c1, c2, c3, c4, c5⟩ := yp_wr (L := L) (σ := σ) (d := d + 7) (y := Int32.ofInt 5) hB hg hP (by decide)
    have W1 := zR_Wd (zR_dn c2)
    refine zw_ld (n := 1) (k := 0) (f := zp_isR) (pc' := 280) rfl rfl l0 rfl rfl ?_
    refine zw_s (pc' := 281) rfl rfl ?_
    refine zw_cn (pc' := 284) (zw_cv (q := 72) (Y := zm_180) W.1 rfl rfl zm_180_t rfl rfl) rfl rfl rfl rfl rfl (c1) ?_
    refine zw_ld (n := 1) (k := 0) (f := zp_isR) (pc' := 285) rfl rfl l0 rfl rfl ?_
    refine zw_c (pc' := 288) (zw_cv (q := 72) (Y := zm_175) W1.1 rfl rfl zm_175_t rfl rfl) rfl rfl rfl rfl rfl (zq_good0 W1 c3) ?_
    refine zw_bne1 (g := 292) (pc' := 291) rfl rfl rfl (rfl : _ = (0 : Int)) (fun h9 => absurd h9 (by decide)) (fun hb => ?_)
    refine zw_rn rfl rfl ?_
    exact yLr_b c2 c3 c5 (yA2_done (yN2_0.trans ((y0w_17 hk).trans (if_neg (by omega)))))

set_option maxHeartbeats 4000000 in
set_option maxRecDepth 8000 in
theorem yx_l14 {L : Nat} {σ : Nat → Int32} {d : Nat} {T : Nat → Int} {n p : Nat} {dd : yLD} {H : zp_H} {lv : zp_LV} (hby : ∀ k, k < n → -128 ≤ T k ∧ T k ≤ 127) (hB : zk_Bs zR zg zJ H) (hg : (H.2.1 72 23).toInt = 0) (hP : yP T n p H) (hD : yDr dd H) (hX : yXd yRl [] dd H) (hk : ys_kd T n p = 3 ∧ ys_vl T n p = 18) (l0 : zp_get lv 0 = some (.inr (.inr (some 73)))) : zs_Safe L σ (yLr T n dd p) zm_176 [] (d + 8) (329, lv, [], H, (0, 0)) := by
  have W := zR_Wd (zR_dn hB)
  have d49 : (H.2.1 72 49).toInt = dd.1 9 := hD.2.2.2.2.2.2.2.2.1
  refine zw_ld (n := 1) (k := 0) (f := zp_isR) (pc' := 330) rfl rfl l0 rfl rfl ?_
  refine zw_gI (q := 72) (pc' := 333) W rfl rfl rfl rfl rfl rfl ?_
  refine zw_beq1 (g := 341) (pc' := 336) rfl rfl rfl rfl (fun hf => ?_) (fun hf => ?_)
  · refine zw_ld (n := 1) (k := 0) (f := zp_isR) (pc' := 342) rfl rfl l0 rfl rfl ?_
    refine zw_c (pc' := 345) (zw_cv (q := 72) (Y := zm_175) W.1 rfl rfl zm_175_t rfl rfl) rfl rfl rfl rfl rfl (zq_good1 W hg) ?_
    refine zw_bne1 (g := 349) (pc' := 348) rfl rfl rfl (rfl : _ = (1 : Int)) (fun hb => ?_) (fun h9 => absurd h9 (by decide))
    have b0 : zk_Bs zR zg zJ (zw_I H 72 49 (Int32.ofInt 1)) := yB_g hB (fun r hr => by cases hr; exact ⟨by decide, by decide⟩) rfl rfl (by decide)
    have D8 := yDr_49 (x := Int32.ofInt 1) (v := 1) hD rfl
    have X8 := yXr_o (p := 72) (k := 49) (x := Int32.ofInt 1) (by decide) hX
    have P8 : yP T n p (zw_I H 72 49 (Int32.ofInt 1)) := ⟨yr_T_c (H := H) rfl rfl rfl rfl hP.1, yr_k_c (H := H) (fun j hj => y_ne (fun h9 => by have := h9.2; omega)) rfl hP.2.1, hP.2.2⟩
    have G8 : ((zw_I H 72 49 (Int32.ofInt 1)).2.1 72 23).toInt = 0 := hg
    refine zw_ld (n := 1) (k := 0) (f := zp_isR) (pc' := 350) rfl rfl l0 rfl rfl ?_
    refine zw_s (pc' := 351) rfl rfl ?_
    refine zw_pI (q := 72) (pc' := 354) W rfl rfl rfl rfl (rfl) rfl ?_
    generalize zw_I H 72 49 (Int32.ofInt 1) = H8 at b0 D8 X8 P8 G8 ⊢
    have W8 := zR_Wd (zR_dn b0)
    obtain ⟨K0, g1, g2, g3, g4⟩ := yp_go (L := L) (σ := σ) (d := d + 6) hby b0 P8
    have W0 := zR_Wd (zR_dn g2)
    have D0 := yDr_m g3 D8
    have X0 := yXr_F g3 rfl X8
    have S0 : yS T n (0, [], 0, 0, 0, dd, p) (fun q => (18, [], 0, 0, 0, dd, q)) K0 := Or.inl ⟨(zx_fe g3 23 rfl rfl rfl).trans G8, _, g4, yR2_s (yN2_0.trans ((y0w_18 hk).trans (if_pos (by omega))))⟩
    refine zw_ld (n := 1) (k := 0) (f := zp_isR) (pc' := 355) rfl rfl l0 rfl rfl ?_
    refine zw_cn (pc' := 358) (zw_cv (q := 72) (Y := zm_171) W8.1 rfl rfl zm_171_t rfl rfl) rfl rfl rfl rfl rfl (g1) ?_
    obtain ⟨u, N, m1, m2, m3, m4, m5, m6⟩ := yS_nu (L := L) (σ := σ) (d := d + 5) (x := Int32.ofInt 0) (y := Int32.ofInt 7) (ok := fun u q => (50, [], 0, 0, 0, yW (yU dd.1 9 1, dd.2) 22 u, q)) hby g2 S0 (fun q => yN2_18) (by decide)
    have WN := zR_Wd (zR_dn m2)
    have DN := yDr_W (i := 22) (v := u.toInt) (by decide) (yDr_42 (k := 44) (x := u) (by decide) (yDr_M m3 D0))
    have XN := yXd_wD (i0 := 22) (p := 72) (k := 44) (x := u) (v := u.toInt) yRl_inj (by decide) rfl rfl (yXd_k (k := 9) (v := 1) (by decide) (yXr_F m3 rfl X0))
    have b3 : zk_Bs zR zg zJ (zw_I N 72 44 u) := yB_g m2 (fun r hr => by cases hr) rfl rfl (by decide)
    have S3 := yS_f (k := 44) (x := u) (by decide) m4
    refine zw_ld (n := 1) (k := 0) (f := zp_isR) (pc' := 359) rfl rfl l0 rfl rfl ?_
    refine zw_ld (n := 1) (k := 0) (f := zp_isR) (pc' := 360) rfl rfl l0 rfl rfl ?_
    refine zw_s (pc' := 361) rfl rfl ?_
    refine zw_s (pc' := 363) rfl rfl ?_
    refine zw_c (pc' := 366) (zw_cv (q := 72) (Y := zm_181) W0.1 rfl rfl zm_181_t rfl rfl) rfl rfl rfl rfl rfl (m1) ?_
    refine zw_pI (q := 72) (pc' := 369) WN rfl rfl rfl rfl rfl rfl ?_
    refine zw_s (pc' := 483) rfl rfl ?_
    exact yx_lE hby b3 S3 (fun _ => ⟨DN, XN⟩) l0
  · obtain ⟨H1, c1, c2, c3, c4, c5⟩ := yp_wr (L := L) (σ := σ) (d := d + 7) (y := Int32.ofInt 5) hB hg hP (by decide)
    have W1 := zR_Wd (zR_dn c2)
    refine zw_ld (n := 1) (k := 0) (f := zp_isR) (pc' := 337) rfl rfl l0 rfl rfl ?_
    refine zw_s (pc' := 338) rfl rfl ?_
    refine zw_cn (pc' := 341) (zw_cv (q := 72) (Y := zm_180) W.1 rfl rfl zm_180_t rfl rfl) rfl rfl rfl rfl rfl (c1) ?_
    refine zw_ld (n := 1) (k := 0) (f := zp_isR) (pc' := 342) rfl rfl l0 rfl rfl ?_
    refine zw_c (pc' := 345) (zw_cv (q := 72) (Y := zm_175) W1.1 rfl rfl zm_175_t rfl rfl) rfl rfl rfl rfl rfl (zq_good0 W1 c3) ?_
    refine zw_bne1 (g := 349) (pc' := 348) rfl rfl rfl (rfl : _ = (0 : Int)) (fun h9 => absurd h9 (by decide)) (fun hb => ?_)
    refine zw_rn rfl rfl ?_
    exact yLr_b c2 c3 c5 (yA2_done (yN2_0.trans ((y0w_18 hk).trans (if_neg (by omega)))))
end
section
/-! ===== a bit of a long: by a shift, by a mask ===== -/
theorem y_sc : ∀ k, k < 64 → (((Int32.ofInt ((k : Nat) : Int)).toInt64 &&& 63).toBitVec.smod 64).toNat = k := by decide +kernel
theorem y_shr0 {r : Int64} {k : Nat} (hk : k < 64) : (za_shr0 r (Int32.ofInt (k : Int)) &&& Int64.ofNat 1 = Int64.ofNat 1) ↔ r.toBitVec.toNat.testBit k = true := by
  have e1 : (za_shr0 r (Int32.ofInt (k : Int)) &&& Int64.ofNat 1).toBitVec = (r.toBitVec.sshiftRight k) &&& 1#64 := by
    rw [Int64.toBitVec_and]
    have : (za_shr0 r (Int32.ofInt (k : Int))).toBitVec = r.toBitVec.sshiftRight k := by
      show (r >>> ((Int32.ofInt (k : Int)).toInt64 &&& 63)).toBitVec = _
      rw [Int64.toBitVec_shiftRight]
      show r.toBitVec.sshiftRight (((Int32.ofInt (k : Int)).toInt64 &&& 63).toBitVec.smod 64).toNat = _
      rw [show (((Int32.ofInt (k : Int)).toInt64 &&& 63).toBitVec.smod 64).toNat = k from y_sc k hk]
    rw [this]
    rfl
  have e2 : ((r.toBitVec.sshiftRight k) &&& 1#64).toNat = (r.toBitVec.sshiftRight k).toNat % 2 := by
    rw [BitVec.toNat_and]
    exact Nat.and_two_pow_sub_one_eq_mod _ 1
  have e3 : (r.toBitVec.sshiftRight k).toNat % 2 = if r.toBitVec.toNat.testBit k then 1 else 0 := by
    have h1 : (r.toBitVec.sshiftRight k).getLsbD 0 = r.toBitVec.getLsbD k := by
      rw [BitVec.getLsbD_sshiftRight]
      simp [hk]
    have h2 : (r.toBitVec.sshiftRight k).toNat.testBit 0 = r.toBitVec.toNat.testBit k := h1
    rw [Nat.testBit_zero] at h2
    rw [← h2]
    by_cases h9 : (r.toBitVec.sshiftRight k).toNat % 2 = 1
    · rw [if_pos (decide_eq_true h9)]
      exact h9
    · rw [if_neg (by rw [decide_eq_false h9]; decide)]
      omega
  rw [← Int64.toBitVec_inj, e1, ← BitVec.toNat_inj, e2, e3]
  show (_ = 1) ↔ _
  cases r.toBitVec.toNat.testBit k <;> decide
theorem y_bit {r : Int64} {k : Nat} (hk : k < 64) : (r &&& yBit (k : Int) = 0) ↔ r.toBitVec.toNat.testBit k = false := by
  have e : (r &&& yBit (k : Int)).toBitVec.toNat = r.toBitVec.toNat &&& 2 ^ k := by rw [yN_and, yBit_n k hk]
  rw [← Int64.toBitVec_inj, ← BitVec.toNat_inj, e]
  show (r.toBitVec.toNat &&& 2 ^ k = 0) ↔ _
  constructor
  · intro h
    have h1 : (r.toBitVec.toNat &&& 2 ^ k).testBit k = false := by rw [h, Nat.zero_testBit]
    rw [Nat.testBit_and, Nat.testBit_two_pow_self, Bool.and_true] at h1
    exact h1
  · intro h
    apply Nat.eq_of_testBit_eq
    intro i
    rw [Nat.testBit_and, Nat.zero_testBit]
    by_cases hi : k = i
    · rw [← hi, h, Bool.false_and]
    · rw [Nat.testBit_two_pow_of_ne hi, Bool.and_false]
theorem y_shr {r : Int64} {c : Int32} (hc : 0 ≤ c.toInt ∧ c.toInt ≤ 63) : (za_shr0 r c &&& Int64.ofNat 1 = Int64.ofNat 1) ↔ ¬ (r &&& yBit c.toInt = 0) := by
  have e : c = Int32.ofInt ((c.toInt.toNat : Nat) : Int) := by rw [show ((c.toInt.toNat : Nat) : Int) = c.toInt by omega, Int32.ofInt_toInt]
  have h1 := y_shr0 (r := r) (k := c.toInt.toNat) (by omega)
  have h2 := y_bit (r := r) (k := c.toInt.toNat) (by omega)
  rw [← e] at h1
  rw [show ((c.toInt.toNat : Nat) : Int) = c.toInt by omega] at h2
  rw [h1, h2]
  cases r.toBitVec.toNat.testBit c.toInt.toNat <;> decide
theorem y_cmp {x y : Int64} : (lg_cmp x y).toInt = 0 ↔ x = y := by
  unfold lg_cmp
  constructor
  · intro h
    revert h
    split
    · intro h
      exact absurd h (by decide)
    · split
      · intro _
        assumption
      · intro h
        exact absurd h (by decide)
  · rintro rfl
    rw [if_neg (Int64.lt_irrefl)]
    first | rfl | (rw [if_pos rfl]; rfl)
end
