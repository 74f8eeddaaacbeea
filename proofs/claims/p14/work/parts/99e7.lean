/-! ===== the reference: hands ===== -/
def zm_190 : za_MI := (yX12_readsHand, prog_14_method_39_code, 4, none, 12, 0, 0, [], za_i190)
theorem zm_190_t : za_MT 190 = some zm_190 := rfl
set_option maxRecDepth 8000 in
theorem ys_vl_0 {T : Nat → Int} {n p : Nat} (hk : ys_kd T n p = 2) : 0 ≤ ys_vl T n p := by
  obtain ⟨g1, g2, g3, g4⟩ := ys_vl_n hk
  by_cases hl : 4 < ys_nx T n p - ys_st T n p
  · rw [if_pos hl] at g4
    omega
  · rw [if_neg hl] at g4
    rw [g4]
    exact (ys_nm_b (T := T) (s := ys_st T n p) (ys_nx T n p - ys_st T n p) (by omega) (fun t ht => by rw [g3] at ht; exact of_decide_eq_true (ys_run_p _ _ t ht))).1
theorem y_sb {a b : Int32} (h : -2147483648 ≤ a.toInt - b.toInt ∧ a.toInt - b.toInt ≤ 2147483647) : (a - b).toInt = a.toInt - b.toInt := by
  rw [Int32.toInt_sub]
  exact Int.bmod_eq_of_le (by omega) (by omega)
theorem y_ad {a b : Int32} (h : -2147483648 ≤ a.toInt + b.toInt ∧ a.toInt + b.toInt ≤ 2147483647) : (a + b).toInt = a.toInt + b.toInt := by
  rw [Int32.toInt_add]
  exact Int.bmod_eq_of_le (by omega) (by omega)
theorem y_ix {a : Int} {x k : Int32} (ha : 0 ≤ a ∧ a ≤ 100) (hx : 0 ≤ x.toInt ∧ x.toInt ≤ 1000) (hk : 0 ≤ k.toInt ∧ k.toInt ≤ 1000) : (Int32.ofInt a * x + k).toInt = a * x.toInt + k.toInt := by
  have h1 : 0 ≤ a * x.toInt := Int.mul_nonneg ha.1 hx.1
  have h2 : a * x.toInt ≤ 100 * 1000 := Int.mul_le_mul ha.2 hx.2 hx.1 (by decide)
  have e := zt_mul ha hx
  rw [y_ad (by rw [e]; omega), e]
theorem y_any {x : Int32} {j : Nat} {r : Int × Int} (hr : [((-2147483648 : Int), (2147483647 : Int))][j % 1]? = some r) : r.1 ≤ x.toInt ∧ x.toInt ≤ r.2 := by
  rw [Nat.mod_one] at hr
  cases hr
  exact zl_full _
theorem yDr_38 {d : yLD} {x : Int32} {v : Int} {H : zp_H} (h : yDr d H) (hx : x.toInt = v) : yDr (yU d.1 4 v, d.2) (zw_I H 72 38 x) := by
  obtain ⟨a0, a1, a2, a3, a4, a5, a6, a7, a8, a9, a11, a12, a13⟩ := h
  exact ⟨a0, a1, a2, hx, a4, a5, a6, a7, a8, a9, a11, a12, a13⟩
theorem yDr_39 {d : yLD} {x : Int32} {v : Int} {H : zp_H} (h : yDr d H) (hx : x.toInt = v) : yDr (yU d.1 5 v, d.2) (zw_I H 72 39 x) := by
  obtain ⟨a0, a1, a2, a3, a4, a5, a6, a7, a8, a9, a11, a12, a13⟩ := h
  exact ⟨a0, a1, a2, a3, hx, a5, a6, a7, a8, a9, a11, a12, a13⟩
theorem yDr_40 {d : yLD} {x : Int32} {v : Int} {H : zp_H} (h : yDr d H) (hx : x.toInt = v) : yDr (yU d.1 6 v, d.2) (zw_I H 72 40 x) := by
  obtain ⟨a0, a1, a2, a3, a4, a5, a6, a7, a8, a9, a11, a12, a13⟩ := h
  exact ⟨a0, a1, a2, a3, a4, hx, a6, a7, a8, a9, a11, a12, a13⟩
theorem yDr_41 {d : yLD} {x : Int32} {v : Int} {H : zp_H} (h : yDr d H) (hx : x.toInt = v) : yDr (yU d.1 7 v, d.2) (zw_I H 72 41 x) := by
  obtain ⟨a0, a1, a2, a3, a4, a5, a6, a7, a8, a9, a11, a12, a13⟩ := h
  exact ⟨a0, a1, a2, a3, a4, a5, hx, a7, a8, a9, a11, a12, a13⟩
theorem yDr_48 {d : yLD} {x : Int32} {v : Int} {H : zp_H} (h : yDr d H) (hx : x.toInt = v) : yDr (yU d.1 8 v, d.2) (zw_I H 72 48 x) := by
  obtain ⟨a0, a1, a2, a3, a4, a5, a6, a7, a8, a9, a11, a12, a13⟩ := h
  exact ⟨a0, a1, a2, a3, a4, a5, a6, hx, a8, a9, a11, a12, a13⟩
theorem yDr_49 {d : yLD} {x : Int32} {v : Int} {H : zp_H} (h : yDr d H) (hx : x.toInt = v) : yDr (yU d.1 9 v, d.2) (zw_I H 72 49 x) := by
  obtain ⟨a0, a1, a2, a3, a4, a5, a6, a7, a8, a9, a11, a12, a13⟩ := h
  exact ⟨a0, a1, a2, a3, a4, a5, a6, a7, hx, a9, a11, a12, a13⟩
theorem yDr_42 {d : yLD} {x : Int32} {k : Nat} {H : zp_H} (hk : k = 42 ∨ (42 ≤ k ∧ k ≤ 47) ∨ 50 ≤ k) (h : yDr d H) : yDr d (zw_I H 72 k x) := yDr_c (H := H) (fun j h1 h2 h3 => congrArg Int32.toInt (zp_u_ne (fun h9 => by have := h9.2; omega))) rfl (funext (fun j => y_ne (fun h9 => absurd h9.1 (by decide)))) h
theorem y0w_12 {T : Nat → Int} {n p : Nat} {d : yLD} (hk : ys_kd T n p = 3 ∧ ys_vl T n p = 12) : y0 T n d p = (if d.1 0 ≠ 0 then .inl (1, [], 0, 0, 0, d, ys_nx T n p) else .inr (5, p)) := by
  unfold y0
  rw [if_neg (by omega), if_neg (by omega), hk.2]
  rfl
theorem y0w_13 {T : Nat → Int} {n p : Nat} {d : yLD} (hk : ys_kd T n p = 3 ∧ ys_vl T n p = 13) : y0 T n d p = (if d.1 3 < 20 then .inl (3, [], 0, 0, 0, d, ys_nx T n p) else .inr (2, p)) := by
  unfold y0
  rw [if_neg (by omega), if_neg (by omega), hk.2]
  rfl
theorem y0w_15 {T : Nat → Int} {n p : Nat} {d : yLD} (hk : ys_kd T n p = 3 ∧ ys_vl T n p = 15) : y0 T n d p = (if d.1 4 < 8 then .inl (8, [], 0, 0, 0, d, ys_nx T n p) else .inr (2, p)) := by
  unfold y0
  rw [if_neg (by omega), if_neg (by omega), hk.2]
  rfl
theorem y0w_16 {T : Nat → Int} {n p : Nat} {d : yLD} (hk : ys_kd T n p = 3 ∧ ys_vl T n p = 16) : y0 T n d p = (if d.1 5 < 5 then .inl (13, [], 0, 12, 0, d, ys_nx T n p) else .inr (2, p)) := by
  unfold y0
  rw [if_neg (by omega), if_neg (by omega), hk.2]
  rfl
theorem y0w_17 {T : Nat → Int} {n p : Nat} {d : yLD} (hk : ys_kd T n p = 3 ∧ ys_vl T n p = 17) : y0 T n d p = (if d.1 8 = 0 then .inl (15, [], 0, 0, 0, d, ys_nx T n p) else .inr (5, p)) := by
  unfold y0
  rw [if_neg (by omega), if_neg (by omega), hk.2]
  rfl
theorem y0w_18 {T : Nat → Int} {n p : Nat} {d : yLD} (hk : ys_kd T n p = 3 ∧ ys_vl T n p = 18) : y0 T n d p = (if d.1 9 = 0 then .inl (18, [], 0, 0, 0, d, ys_nx T n p) else .inr (5, p)) := by
  unfold y0
  rw [if_neg (by omega), if_neg (by omega), hk.2]
  rfl
theorem y0w_19 {T : Nat → Int} {n p : Nat} {d : yLD} (hk : ys_kd T n p = 3 ∧ ys_vl T n p = 19) : y0 T n d p = (if d.1 6 < 4 then .inl (19, [], 0, 0, 0, d, ys_nx T n p) else .inr (2, p)) := by
  unfold y0
  rw [if_neg (by omega), if_neg (by omega), hk.2]
  rfl
theorem y0w_20 {T : Nat → Int} {n p : Nat} {d : yLD} (hk : ys_kd T n p = 3 ∧ ys_vl T n p = 20) : y0 T n d p = (if d.1 7 < 8 then .inl (102, [false], 0, 0, 0, d, ys_nx T n p) else .inr (2, p)) := by
  unfold y0
  rw [if_neg (by omega), if_neg (by omega), hk.2]
  rfl
theorem y0w_14 {T : Nat → Int} {n p : Nat} {d : yLD} (hk : ys_kd T n p = 3 ∧ ys_vl T n p = 14) : y0 T n d p = .inl (5, [], 0, 0, 0, d, ys_nx T n p) := by
  unfold y0
  rw [if_neg (by omega), if_neg (by omega), hk.2]
  rfl
/-- a line is read, up to its end -/
def yRr (T : Nat → Int) (n : Nat) (dd : yLD) (p : Nat) (X : zp_X) : Prop := ∃ H1, X = (.inl none, H1) ∧ zk_Bs zR zg zJ H1 ∧ ∃ d', yS T n (0, [], 0, 0, 0, dd, p) (fun q => (50, [], 0, 0, 0, d', q)) H1 ∧ ((H1.2.1 72 23).toInt = 0 → yDr d' H1 ∧ yXd yRl [] d' H1)
theorem yRr_b {T : Nat → Int} {n p : Nat} {dd : yLD} {r : Int × Nat} {H1 : zp_H} (h1 : zk_Bs zR zg zJ H1) (h2 : (H1.2.1 72 23).toInt ≠ 0) (h3 : yD T n r H1) (h4 : yA2 T n (0, [], 0, 0, 0, dd, p) r) : yRr T n dd p (.inl none, H1) := ⟨H1, rfl, h1, dd, Or.inr ⟨h2, r, h3, h4⟩, fun h9 => absurd h9 h2⟩

set_option maxHeartbeats 4000000 in
set_option maxRecDepth 8000 in
theorem yx_hand {L : Nat} {σ : Nat → Int32} {d : Nat} {T : Nat → Int} {n p : Nat} {dd : yLD} {H : zp_H} (hby : ∀ k, k < n → -128 ≤ T k ∧ T k ≤ 127) (hB : zk_Bs zR zg zJ H) (hg : (H.2.1 72 23).toInt = 0) (hP : yP T n p H) (hD : yDr dd H) (hX : yXd yRl [] dd H) (hk : ys_kd T n p = 3 ∧ ys_vl T n p = 16) : ∃ X, zp_Call L σ (d + 4) 190 [.inr (.inr (some 73))] H X ∧ yRr T n dd p X := by
  have W := zR_Wd (zR_dn hB)
  have r39 : 0 ≤ (H.2.1 72 39).toInt ∧ (H.2.1 72 39).toInt ≤ 5 := zR_fr1 (zR_dn hB) (k := 39) (r := (0, 5)) rfl rfl
  have d39 : (H.2.1 72 39).toInt = dd.1 5 := hD.2.2.2.2.1
  refine zw_met zm_190_t rfl rfl ?_
  refine zw_ld (n := 1) (k := 0) (f := zp_isR) (pc' := 1) rfl rfl rfl rfl rfl ?_
  refine zw_gI (q := 72) (pc' := 4) W rfl rfl rfl rfl rfl rfl ?_
  refine zw_s (pc' := 5) rfl rfl ?_
  refine zw_bne2 (g := 13) (pc' := 8) rfl rfl rfl rfl (rfl : _ = (5 : Int)) (fun h8 => ?_) (fun h8 => ?_)
  · refine zw_ld (n := 1) (k := 0) (f := zp_isR) (pc' := 14) rfl rfl rfl rfl rfl ?_
    refine zw_c (pc' := 17) (zw_cv (q := 72) (Y := zm_175) W.1 rfl rfl zm_175_t rfl rfl) rfl rfl rfl rfl rfl (zq_good1 W hg) ?_
    refine zw_bne1 (g := 21) (pc' := 20) rfl rfl rfl (rfl : _ = (1 : Int)) (fun hb => ?_) (fun h9 => absurd h9 (by decide))
    obtain ⟨K0, g1, g2, g3, g4⟩ := yp_go (L := L) (σ := σ) (d := d + 1) hby hB hP
    have W0 := zR_Wd (zR_dn g2)
    have D0 := yDr_m g3 hD
    have X0 := yXr_F g3 rfl hX
    have S0 : yS T n (0, [], 0, 0, 0, dd, p) (fun q => (13, [], 0, 12, 0, dd, q)) K0 := Or.inl ⟨(zx_fe g3 23 rfl rfl rfl).trans hg, _, g4, yR2_s (yN2_0.trans ((y0w_16 hk).trans (if_pos (by omega))))⟩
    refine zw_ld (n := 1) (k := 0) (f := zp_isR) (pc' := 22) rfl rfl rfl rfl rfl ?_
    refine zw_cn (pc' := 25) (zw_cv (q := 72) (Y := zm_171) W.1 rfl rfl zm_171_t rfl rfl) rfl rfl rfl rfl rfl (g1) ?_
    have A0 : (Int32.ofInt 12).toInt = (12 : Int) := rfl
    have B0 : -24 ≤ (12 : Int) ∧ (12 : Int) ≤ 12 := by decide
    obtain ⟨d0, hd0⟩ : ∃ d0, d0 = dd := ⟨dd, rfl⟩
    have q0 : d0.1 5 = dd.1 5 := by rw [hd0]
    rw [← hd0] at D0 X0
    have S0 : yS T n (0, [], 0, 0, 0, dd, p) (fun q => (13, [], 0, 12, 0, d0, q)) K0 := by rw [hd0]; exact S0
    refine zw_s (pc' := 27) rfl rfl ?_
    refine zw_st (n := 1) (k := 1) (f := zp_isI) (pc' := 28) rfl rfl rfl rfl rfl ?_
    refine zw_s (pc' := 29) rfl rfl ?_
    refine zw_st (n := 1) (k := 2) (f := zp_isI) (pc' := 30) rfl rfl rfl rfl rfl ?_
    refine zw_ld (n := 1) (k := 2) (f := zp_isI) (pc' := 31) rfl rfl zw_g1 rfl rfl ?_
    refine zw_s (pc' := 32) rfl rfl ?_
    refine zw_bge2 (g := 103) (pc' := 35) rfl rfl rfl (rfl : _ = (0 : Int)) (rfl : _ = (4 : Int)) (fun h9 => absurd h9 (by decide)) (fun hb => ?_)
    refine zw_ld (n := 1) (k := 0) (f := zp_isR) (pc' := 36) rfl rfl (zw_gt (zw_gt rfl rfl rfl) rfl rfl) rfl rfl ?_
    refine zw_ld (n := 1) (k := 2) (f := zp_isI) (pc' := 37) rfl rfl zw_g1 rfl rfl ?_
    refine zw_s (pc' := 38) rfl rfl ?_
    refine zw_bge2 (g := 45) (pc' := 41) rfl rfl rfl (rfl : _ = (0 : Int)) (rfl : _ = (3 : Int)) (fun h9 => absurd h9 (by decide)) (fun hb => ?_)
    refine zw_s (pc' := 42) rfl rfl ?_
    refine zw_s (pc' := 55) rfl rfl ?_
    refine zw_ld (n := 1) (k := 2) (f := zp_isI) (pc' := 56) rfl rfl zw_g1 rfl rfl ?_
    refine zw_s (pc' := 57) rfl rfl ?_
    refine zw_bge2 (g := 65) (pc' := 60) rfl rfl rfl (rfl : _ = (0 : Int)) (rfl : _ = (3 : Int)) (fun h9 => absurd h9 (by decide)) (fun hb => ?_)
    refine zw_s (pc' := 62) rfl rfl ?_
    refine zw_s (pc' := 75) rfl rfl ?_
    obtain ⟨v0, M0, n1, n2, n3, n4, n5, n6⟩ := yS_nu (L := L) (σ := σ) (d := d) (x := Int32.ofInt 0) (y := Int32.ofInt 12) (ok := (fun v q => (13, [], (0 : Int) + 1, 12 - v, 0, yW d0 (500 + (4 * (d0.1 5).toNat + ((0 : Int)).toNat)) v, q))) hby (g2) S0 (fun q => yN2_13.trans (if_pos (by decide))) (by decide)
    have WM0 := zR_Wd (zR_dn n2)
    have DM0 := yDr_M n3 D0
    have XM0 := yXr_F n3 rfl X0
    have m39 : (M0.2.1 72 39).toInt = d0.1 5 := DM0.2.2.2.2.1
    refine zw_c (pc' := 78) (zw_cv (q := 72) (Y := zm_181) W0.1 rfl rfl zm_181_t rfl rfl) rfl rfl rfl rfl rfl (n1) ?_
    have vb0 : 0 ≤ v0.toInt ∧ v0.toInt ≤ 12 := by
      by_cases h9 : (M0.2.1 72 23).toInt = 0
      · obtain ⟨_, y1, y2⟩ := n5 h9
        exact ⟨y1, y2⟩
      · rw [n6 h9]
        decide
    have ix0 : (Int32.ofInt 4 * M0.2.1 72 39 + (Int32.ofInt 0)).toInt = 4 * (M0.2.1 72 39).toInt + 0 := y_ix (by decide) (by omega) (by decide)
    refine zw_st (n := 1) (k := 3) (f := zp_isI) (pc' := 79) rfl rfl rfl rfl rfl ?_
    refine zw_ld (n := 1) (k := 0) (f := zp_isR) (pc' := 80) rfl rfl (zw_gt (zw_gt (zw_gt rfl rfl rfl) rfl rfl) rfl rfl) rfl rfl ?_
    refine zw_gR (q := 72) (pc' := 83) WM0 rfl rfl rfl rfl (WM0.2 72 55 _ rfl) rfl ?_
    refine zw_s (pc' := 84) rfl rfl ?_
    refine zw_ld (n := 1) (k := 0) (f := zp_isR) (pc' := 85) rfl rfl (zw_gt (zw_gt (zw_gt rfl rfl rfl) rfl rfl) rfl rfl) rfl rfl ?_
    refine zw_gI (q := 72) (pc' := 88) WM0 rfl rfl rfl rfl rfl rfl ?_
    refine zw_imul (pc' := 89) rfl rfl ?_
    refine zw_ld (n := 1) (k := 2) (f := zp_isI) (pc' := 90) rfl rfl (zw_gt zw_g1 rfl rfl) rfl rfl ?_
    refine zw_iadd (pc' := 91) rfl rfl ?_
    refine zw_ld (n := 1) (k := 3) (f := zp_isI) (pc' := 92) rfl rfl zw_g1 rfl rfl ?_
    refine zw_is (q := 86) (pc' := 93) WM0 rfl rfl (by decide) (⟨by omega, by show _ < ((20 : Nat) : Int); omega⟩) rfl ?_
    have b1 : zk_Bs zR zg zJ (zw_I M0 86 (Int32.ofInt 4 * M0.2.1 72 39 + (Int32.ofInt 0)).toInt.toNat (zp_nar 0 v0)) := yB_a n2 (t := 0) (m := 20) rfl (fun r hr => y_any hr) rfl (by decide)
    have S1 : yS T n (0, [], 0, 0, 0, dd, p) (fun q => (13, [], (0 : Int) + 1, 12 - v0.toInt, 0, yW d0 (500 + (4 * (d0.1 5).toNat + ((0 : Int)).toNat)) v0.toInt, q)) _ := yS_a (p := 86) (k := (Int32.ofInt 4 * M0.2.1 72 39 + (Int32.ofInt 0)).toInt.toNat) (x := zp_nar 0 v0) (by decide) n4
    have D1 := yDr_W (i := 500 + (4 * (d0.1 5).toNat + ((0 : Int)).toNat)) (v := v0.toInt) (by omega) (yDr_a (p := 86) (k := (Int32.ofInt 4 * M0.2.1 72 39 + (Int32.ofInt 0)).toInt.toNat) (x := zp_nar 0 v0) (by decide) DM0)
    have X1 := yXd_wD (i0 := 500 + (4 * (d0.1 5).toNat + ((0 : Int)).toNat)) (v := v0.toInt) (x := zp_nar 0 v0) yRl_inj (by omega) (show yRl (500 + (4 * (d0.1 5).toNat + ((0 : Int)).toNat)) = (86, (Int32.ofInt 4 * M0.2.1 72 39 + (Int32.ofInt 0)).toInt.toNat) by
      rw [yQ_500 (by omega), ix0, m39]
      exact congrArg (Prod.mk _) (by omega)) rfl XM0
    have q1 : (yW d0 (500 + (4 * (d0.1 5).toNat + ((0 : Int)).toNat)) v0.toInt).1 5 = dd.1 5 := (yW_n (by omega)).trans q0
    generalize yW d0 (500 + (4 * (d0.1 5).toNat + ((0 : Int)).toNat)) v0.toInt = d1 at S1 D1 X1 q1
    generalize zw_I M0 86 (Int32.ofInt 4 * M0.2.1 72 39 + (Int32.ofInt 0)).toInt.toNat (zp_nar 0 v0) = K1 at b1 S1 D1 X1 ⊢
    have W1 := zR_Wd (zR_dn b1)
    clear n1 n2 n3 n4 n5 n6 m39
    have A1 : (Int32.ofInt 12 - v0).toInt = 12 - v0.toInt := by rw [y_sb (by omega), A0]
    refine zw_ld (n := 1) (k := 1) (f := zp_isI) (pc' := 94) rfl rfl (zw_gt (zw_gt zw_g1 rfl rfl) rfl rfl) rfl rfl ?_
    refine zw_ld (n := 1) (k := 3) (f := zp_isI) (pc' := 95) rfl rfl zw_g1 rfl rfl ?_
    refine zw_isub (pc' := 96) rfl rfl ?_
    refine zw_st (n := 1) (k := 1) (f := zp_isI) (pc' := 97) rfl rfl rfl rfl rfl ?_
    refine zw_ii (pc' := 100) rfl (zw_gt (zw_gt zw_g1 rfl rfl) rfl rfl) rfl rfl ?_
    refine zw_s (pc' := 30) rfl rfl ?_
    refine zw_ld (n := 1) (k := 2) (f := zp_isI) (pc' := 31) rfl rfl zw_g1 rfl rfl ?_
    refine zw_s (pc' := 32) rfl rfl ?_
    refine zw_bge2 (g := 103) (pc' := 35) rfl rfl rfl (rfl : _ = (1 : Int)) (rfl : _ = (4 : Int)) (fun h9 => absurd h9 (by decide)) (fun hb => ?_)
    refine zw_ld (n := 1) (k := 0) (f := zp_isR) (pc' := 36) rfl rfl (zw_gt (zw_gt (zw_gt (zw_gt (zw_gt rfl rfl rfl) rfl rfl) rfl rfl) rfl rfl) rfl rfl) rfl rfl ?_
    refine zw_ld (n := 1) (k := 2) (f := zp_isI) (pc' := 37) rfl rfl zw_g1 rfl rfl ?_
    refine zw_s (pc' := 38) rfl rfl ?_
    refine zw_bge2 (g := 45) (pc' := 41) rfl rfl rfl (rfl : _ = (1 : Int)) (rfl : _ = (3 : Int)) (fun h9 => absurd h9 (by decide)) (fun hb => ?_)
    refine zw_s (pc' := 42) rfl rfl ?_
    refine zw_s (pc' := 55) rfl rfl ?_
    refine zw_ld (n := 1) (k := 2) (f := zp_isI) (pc' := 56) rfl rfl zw_g1 rfl rfl ?_
    refine zw_s (pc' := 57) rfl rfl ?_
    refine zw_bge2 (g := 65) (pc' := 60) rfl rfl rfl (rfl : _ = (1 : Int)) (rfl : _ = (3 : Int)) (fun h9 => absurd h9 (by decide)) (fun hb => ?_)
    refine zw_s (pc' := 62) rfl rfl ?_
    refine zw_s (pc' := 75) rfl rfl ?_
    obtain ⟨v1, M1, n1, n2, n3, n4, n5, n6⟩ := yS_nu (L := L) (σ := σ) (d := d) (x := Int32.ofInt 0) (y := Int32.ofInt 12) (ok := (fun v q => (13, [], (0 : Int) + 1 + 1, 12 - v0.toInt - v, 0, yW d1 (500 + (4 * (d1.1 5).toNat + ((0 : Int) + 1).toNat)) v, q))) hby (b1) S1 (fun q => yN2_13.trans (if_pos (by decide))) (by decide)
    have WM1 := zR_Wd (zR_dn n2)
    have DM1 := yDr_M n3 D1
    have XM1 := yXr_F n3 rfl X1
    have m39 : (M1.2.1 72 39).toInt = d1.1 5 := DM1.2.2.2.2.1
    refine zw_c (pc' := 78) (zw_cv (q := 72) (Y := zm_181) W1.1 rfl rfl zm_181_t rfl rfl) rfl rfl rfl rfl rfl (n1) ?_
    have vb1 : 0 ≤ v1.toInt ∧ v1.toInt ≤ 12 := by
      by_cases h9 : (M1.2.1 72 23).toInt = 0
      · obtain ⟨_, y1, y2⟩ := n5 h9
        exact ⟨y1, y2⟩
      · rw [n6 h9]
        decide
    have ix1 : (Int32.ofInt 4 * M1.2.1 72 39 + (Int32.ofInt 0 + Int32.ofInt 1)).toInt = 4 * (M1.2.1 72 39).toInt + 1 := y_ix (by decide) (by omega) (by decide)
    refine zw_st (n := 1) (k := 3) (f := zp_isI) (pc' := 79) rfl rfl rfl rfl rfl ?_
    refine zw_ld (n := 1) (k := 0) (f := zp_isR) (pc' := 80) rfl rfl (zw_gt (zw_gt (zw_gt (zw_gt (zw_gt (zw_gt rfl rfl rfl) rfl rfl) rfl rfl) rfl rfl) rfl rfl) rfl rfl) rfl rfl ?_
    refine zw_gR (q := 72) (pc' := 83) WM1 rfl rfl rfl rfl (WM1.2 72 55 _ rfl) rfl ?_
    refine zw_s (pc' := 84) rfl rfl ?_
    refine zw_ld (n := 1) (k := 0) (f := zp_isR) (pc' := 85) rfl rfl (zw_gt (zw_gt (zw_gt (zw_gt (zw_gt (zw_gt rfl rfl rfl) rfl rfl) rfl rfl) rfl rfl) rfl rfl) rfl rfl) rfl rfl ?_
    refine zw_gI (q := 72) (pc' := 88) WM1 rfl rfl rfl rfl rfl rfl ?_
    refine zw_imul (pc' := 89) rfl rfl ?_
    refine zw_ld (n := 1) (k := 2) (f := zp_isI) (pc' := 90) rfl rfl (zw_gt zw_g1 rfl rfl) rfl rfl ?_
    refine zw_iadd (pc' := 91) rfl rfl ?_
    refine zw_ld (n := 1) (k := 3) (f := zp_isI) (pc' := 92) rfl rfl zw_g1 rfl rfl ?_
    refine zw_is (q := 86) (pc' := 93) WM1 rfl rfl (by decide) (⟨by omega, by show _ < ((20 : Nat) : Int); omega⟩) rfl ?_
    have b2 : zk_Bs zR zg zJ (zw_I M1 86 (Int32.ofInt 4 * M1.2.1 72 39 + (Int32.ofInt 0 + Int32.ofInt 1)).toInt.toNat (zp_nar 0 v1)) := yB_a n2 (t := 0) (m := 20) rfl (fun r hr => y_any hr) rfl (by decide)
    have S2 : yS T n (0, [], 0, 0, 0, dd, p) (fun q => (13, [], (0 : Int) + 1 + 1, 12 - v0.toInt - v1.toInt, 0, yW d1 (500 + (4 * (d1.1 5).toNat + ((0 : Int) + 1).toNat)) v1.toInt, q)) _ := yS_a (p := 86) (k := (Int32.ofInt 4 * M1.2.1 72 39 + (Int32.ofInt 0 + Int32.ofInt 1)).toInt.toNat) (x := zp_nar 0 v1) (by decide) n4
    have D2 := yDr_W (i := 500 + (4 * (d1.1 5).toNat + ((0 : Int) + 1).toNat)) (v := v1.toInt) (by omega) (yDr_a (p := 86) (k := (Int32.ofInt 4 * M1.2.1 72 39 + (Int32.ofInt 0 + Int32.ofInt 1)).toInt.toNat) (x := zp_nar 0 v1) (by decide) DM1)
    have X2 := yXd_wD (i0 := 500 + (4 * (d1.1 5).toNat + ((0 : Int) + 1).toNat)) (v := v1.toInt) (x := zp_nar 0 v1) yRl_inj (by omega) (show yRl (500 + (4 * (d1.1 5).toNat + ((0 : Int) + 1).toNat)) = (86, (Int32.ofInt 4 * M1.2.1 72 39 + (Int32.ofInt 0 + Int32.ofInt 1)).toInt.toNat) by
      rw [yQ_500 (by omega), ix1, m39]
      exact congrArg (Prod.mk _) (by omega)) rfl XM1
    have q2 : (yW d1 (500 + (4 * (d1.1 5).toNat + ((0 : Int) + 1).toNat)) v1.toInt).1 5 = dd.1 5 := (yW_n (by omega)).trans q1
    generalize yW d1 (500 + (4 * (d1.1 5).toNat + ((0 : Int) + 1).toNat)) v1.toInt = d2 at S2 D2 X2 q2
    generalize zw_I M1 86 (Int32.ofInt 4 * M1.2.1 72 39 + (Int32.ofInt 0 + Int32.ofInt 1)).toInt.toNat (zp_nar 0 v1) = K2 at b2 S2 D2 X2 ⊢
    have W2 := zR_Wd (zR_dn b2)
    clear n1 n2 n3 n4 n5 n6 m39
    have A2 : (Int32.ofInt 12 - v0 - v1).toInt = 12 - v0.toInt - v1.toInt := by rw [y_sb (by omega), A1]
    refine zw_ld (n := 1) (k := 1) (f := zp_isI) (pc' := 94) rfl rfl (zw_gt (zw_gt zw_g1 rfl rfl) rfl rfl) rfl rfl ?_
    refine zw_ld (n := 1) (k := 3) (f := zp_isI) (pc' := 95) rfl rfl zw_g1 rfl rfl ?_
    refine zw_isub (pc' := 96) rfl rfl ?_
    refine zw_st (n := 1) (k := 1) (f := zp_isI) (pc' := 97) rfl rfl rfl rfl rfl ?_
    refine zw_ii (pc' := 100) rfl (zw_gt (zw_gt zw_g1 rfl rfl) rfl rfl) rfl rfl ?_
    refine zw_s (pc' := 30) rfl rfl ?_
    refine zw_ld (n := 1) (k := 2) (f := zp_isI) (pc' := 31) rfl rfl zw_g1 rfl rfl ?_
    refine zw_s (pc' := 32) rfl rfl ?_
    refine zw_bge2 (g := 103) (pc' := 35) rfl rfl rfl (rfl : _ = (2 : Int)) (rfl : _ = (4 : Int)) (fun h9 => absurd h9 (by decide)) (fun hb => ?_)
    refine zw_ld (n := 1) (k := 0) (f := zp_isR) (pc' := 36) rfl rfl (zw_gt (zw_gt (zw_gt (zw_gt (zw_gt (zw_gt (zw_gt (zw_gt rfl rfl rfl) rfl rfl) rfl rfl) rfl rfl) rfl rfl) rfl rfl) rfl rfl) rfl rfl) rfl rfl ?_
    refine zw_ld (n := 1) (k := 2) (f := zp_isI) (pc' := 37) rfl rfl zw_g1 rfl rfl ?_
    refine zw_s (pc' := 38) rfl rfl ?_
    refine zw_bge2 (g := 45) (pc' := 41) rfl rfl rfl (rfl : _ = (2 : Int)) (rfl : _ = (3 : Int)) (fun h9 => absurd h9 (by decide)) (fun hb => ?_)
    refine zw_s (pc' := 42) rfl rfl ?_
    refine zw_s (pc' := 55) rfl rfl ?_
    refine zw_ld (n := 1) (k := 2) (f := zp_isI) (pc' := 56) rfl rfl zw_g1 rfl rfl ?_
    refine zw_s (pc' := 57) rfl rfl ?_
    refine zw_bge2 (g := 65) (pc' := 60) rfl rfl rfl (rfl : _ = (2 : Int)) (rfl : _ = (3 : Int)) (fun h9 => absurd h9 (by decide)) (fun hb => ?_)
    refine zw_s (pc' := 62) rfl rfl ?_
    refine zw_s (pc' := 75) rfl rfl ?_
    obtain ⟨v2, M2, n1, n2, n3, n4, n5, n6⟩ := yS_nu (L := L) (σ := σ) (d := d) (x := Int32.ofInt 0) (y := Int32.ofInt 12) (ok := (fun v q => (13, [], (0 : Int) + 1 + 1 + 1, 12 - v0.toInt - v1.toInt - v, 0, yW d2 (500 + (4 * (d2.1 5).toNat + ((0 : Int) + 1 + 1).toNat)) v, q))) hby (b2) S2 (fun q => yN2_13.trans (if_pos (by decide))) (by decide)
    have WM2 := zR_Wd (zR_dn n2)
    have DM2 := yDr_M n3 D2
    have XM2 := yXr_F n3 rfl X2
    have m39 : (M2.2.1 72 39).toInt = d2.1 5 := DM2.2.2.2.2.1
    refine zw_c (pc' := 78) (zw_cv (q := 72) (Y := zm_181) W2.1 rfl rfl zm_181_t rfl rfl) rfl rfl rfl rfl rfl (n1) ?_
    have vb2 : 0 ≤ v2.toInt ∧ v2.toInt ≤ 12 := by
      by_cases h9 : (M2.2.1 72 23).toInt = 0
      · obtain ⟨_, y1, y2⟩ := n5 h9
        exact ⟨y1, y2⟩
      · rw [n6 h9]
        decide
    have ix2 : (Int32.ofInt 4 * M2.2.1 72 39 + (Int32.ofInt 0 + Int32.ofInt 1 + Int32.ofInt 1)).toInt = 4 * (M2.2.1 72 39).toInt + 2 := y_ix (by decide) (by omega) (by decide)
    refine zw_st (n := 1) (k := 3) (f := zp_isI) (pc' := 79) rfl rfl rfl rfl rfl ?_
    refine zw_ld (n := 1) (k := 0) (f := zp_isR) (pc' := 80) rfl rfl (zw_gt (zw_gt (zw_gt (zw_gt (zw_gt (zw_gt (zw_gt (zw_gt (zw_gt rfl rfl rfl) rfl rfl) rfl rfl) rfl rfl) rfl rfl) rfl rfl) rfl rfl) rfl rfl) rfl rfl) rfl rfl ?_
    refine zw_gR (q := 72) (pc' := 83) WM2 rfl rfl rfl rfl (WM2.2 72 55 _ rfl) rfl ?_
    refine zw_s (pc' := 84) rfl rfl ?_
    refine zw_ld (n := 1) (k := 0) (f := zp_isR) (pc' := 85) rfl rfl (zw_gt (zw_gt (zw_gt (zw_gt (zw_gt (zw_gt (zw_gt (zw_gt (zw_gt rfl rfl rfl) rfl rfl) rfl rfl) rfl rfl) rfl rfl) rfl rfl) rfl rfl) rfl rfl) rfl rfl) rfl rfl ?_
    refine zw_gI (q := 72) (pc' := 88) WM2 rfl rfl rfl rfl rfl rfl ?_
    refine zw_imul (pc' := 89) rfl rfl ?_
    refine zw_ld (n := 1) (k := 2) (f := zp_isI) (pc' := 90) rfl rfl (zw_gt zw_g1 rfl rfl) rfl rfl ?_
    refine zw_iadd (pc' := 91) rfl rfl ?_
    refine zw_ld (n := 1) (k := 3) (f := zp_isI) (pc' := 92) rfl rfl zw_g1 rfl rfl ?_
    refine zw_is (q := 86) (pc' := 93) WM2 rfl rfl (by decide) (⟨by omega, by show _ < ((20 : Nat) : Int); omega⟩) rfl ?_
    have b3 : zk_Bs zR zg zJ (zw_I M2 86 (Int32.ofInt 4 * M2.2.1 72 39 + (Int32.ofInt 0 + Int32.ofInt 1 + Int32.ofInt 1)).toInt.toNat (zp_nar 0 v2)) := yB_a n2 (t := 0) (m := 20) rfl (fun r hr => y_any hr) rfl (by decide)
    have S3 : yS T n (0, [], 0, 0, 0, dd, p) (fun q => (13, [], (0 : Int) + 1 + 1 + 1, 12 - v0.toInt - v1.toInt - v2.toInt, 0, yW d2 (500 + (4 * (d2.1 5).toNat + ((0 : Int) + 1 + 1).toNat)) v2.toInt, q)) _ := yS_a (p := 86) (k := (Int32.ofInt 4 * M2.2.1 72 39 + (Int32.ofInt 0 + Int32.ofInt 1 + Int32.ofInt 1)).toInt.toNat) (x := zp_nar 0 v2) (by decide) n4
    have D3 := yDr_W (i := 500 + (4 * (d2.1 5).toNat + ((0 : Int) + 1 + 1).toNat)) (v := v2.toInt) (by omega) (yDr_a (p := 86) (k := (Int32.ofInt 4 * M2.2.1 72 39 + (Int32.ofInt 0 + Int32.ofInt 1 + Int32.ofInt 1)).toInt.toNat) (x := zp_nar 0 v2) (by decide) DM2)
    have X3 := yXd_wD (i0 := 500 + (4 * (d2.1 5).toNat + ((0 : Int) + 1 + 1).toNat)) (v := v2.toInt) (x := zp_nar 0 v2) yRl_inj (by omega) (show yRl (500 + (4 * (d2.1 5).toNat + ((0 : Int) + 1 + 1).toNat)) = (86, (Int32.ofInt 4 * M2.2.1 72 39 + (Int32.ofInt 0 + Int32.ofInt 1 + Int32.ofInt 1)).toInt.toNat) by
      rw [yQ_500 (by omega), ix2, m39]
      exact congrArg (Prod.mk _) (by omega)) rfl XM2
    have q3 : (yW d2 (500 + (4 * (d2.1 5).toNat + ((0 : Int) + 1 + 1).toNat)) v2.toInt).1 5 = dd.1 5 := (yW_n (by omega)).trans q2
    generalize yW d2 (500 + (4 * (d2.1 5).toNat + ((0 : Int) + 1 + 1).toNat)) v2.toInt = d3 at S3 D3 X3 q3
    generalize zw_I M2 86 (Int32.ofInt 4 * M2.2.1 72 39 + (Int32.ofInt 0 + Int32.ofInt 1 + Int32.ofInt 1)).toInt.toNat (zp_nar 0 v2) = K3 at b3 S3 D3 X3 ⊢
    have W3 := zR_Wd (zR_dn b3)
    clear n1 n2 n3 n4 n5 n6 m39
    have A3 : (Int32.ofInt 12 - v0 - v1 - v2).toInt = 12 - v0.toInt - v1.toInt - v2.toInt := by rw [y_sb (by omega), A2]
    refine zw_ld (n := 1) (k := 1) (f := zp_isI) (pc' := 94) rfl rfl (zw_gt (zw_gt zw_g1 rfl rfl) rfl rfl) rfl rfl ?_
    refine zw_ld (n := 1) (k := 3) (f := zp_isI) (pc' := 95) rfl rfl zw_g1 rfl rfl ?_
    refine zw_isub (pc' := 96) rfl rfl ?_
    refine zw_st (n := 1) (k := 1) (f := zp_isI) (pc' := 97) rfl rfl rfl rfl rfl ?_
    refine zw_ii (pc' := 100) rfl (zw_gt (zw_gt zw_g1 rfl rfl) rfl rfl) rfl rfl ?_
    refine zw_s (pc' := 30) rfl rfl ?_
    refine zw_ld (n := 1) (k := 2) (f := zp_isI) (pc' := 31) rfl rfl zw_g1 rfl rfl ?_
    refine zw_s (pc' := 32) rfl rfl ?_
    refine zw_bge2 (g := 103) (pc' := 35) rfl rfl rfl (rfl : _ = (3 : Int)) (rfl : _ = (4 : Int)) (fun h9 => absurd h9 (by decide)) (fun hb => ?_)
    refine zw_ld (n := 1) (k := 0) (f := zp_isR) (pc' := 36) rfl rfl (zw_gt (zw_gt (zw_gt (zw_gt (zw_gt (zw_gt (zw_gt (zw_gt (zw_gt (zw_gt (zw_gt rfl rfl rfl) rfl rfl) rfl rfl) rfl rfl) rfl rfl) rfl rfl) rfl rfl) rfl rfl) rfl rfl) rfl rfl) rfl rfl) rfl rfl ?_
    refine zw_ld (n := 1) (k := 2) (f := zp_isI) (pc' := 37) rfl rfl zw_g1 rfl rfl ?_
    refine zw_s (pc' := 38) rfl rfl ?_
    refine zw_bge2 (g := 45) (pc' := 41) rfl rfl rfl (rfl : _ = (3 : Int)) (rfl : _ = (3 : Int)) (fun hb => ?_) (fun h9 => absurd h9 (by decide))
    generalize hx1 : Int32.ofInt 12 - v0 - v1 - v2 = x1 at A3 ⊢
    generalize ha1 : 12 - v0.toInt - v1.toInt - v2.toInt = a1 at A3 S3
    refine zw_ld (n := 1) (k := 1) (f := zp_isI) (pc' := 46) rfl rfl (zw_gt zw_g1 rfl rfl) rfl rfl ?_
    refine zw_bge1 (g := 54) (pc' := 49) rfl rfl rfl rfl (fun hl => ?_) (fun hl => ?_)
    · refine zw_ld (n := 1) (k := 1) (f := zp_isI) (pc' := 55) rfl rfl (zw_gt zw_g1 rfl rfl) rfl rfl ?_
      refine zw_ld (n := 1) (k := 2) (f := zp_isI) (pc' := 56) rfl rfl zw_g1 rfl rfl ?_
      refine zw_s (pc' := 57) rfl rfl ?_
      refine zw_bge2 (g := 65) (pc' := 60) rfl rfl rfl (rfl : _ = (3 : Int)) (rfl : _ = (3 : Int)) (fun hb => ?_) (fun h9 => absurd h9 (by decide))
      refine zw_ld (n := 1) (k := 1) (f := zp_isI) (pc' := 66) rfl rfl (zw_gt zw_g1 rfl rfl) rfl rfl ?_
      refine zw_bge1 (g := 74) (pc' := 69) rfl rfl rfl rfl (fun hl2 => ?_) (fun hl2 => ?_)
      · refine zw_ld (n := 1) (k := 1) (f := zp_isI) (pc' := 75) rfl rfl (zw_gt zw_g1 rfl rfl) rfl rfl ?_
        obtain ⟨v3, M3, n1, n2, n3, n4, n5, n6⟩ := yS_nu (L := L) (σ := σ) (d := d) (x := x1) (y := x1) (ok := (fun v q => (50, [], 0, 0, 0, yWha d3 v, q))) hby (b3) S3 (fun q => by rw [A3]; exact yN2_13.trans (if_neg (by decide))) (by omega)
        have WM3 := zR_Wd (zR_dn n2)
        have DM3 := yDr_M n3 D3
        have XM3 := yXr_F n3 rfl X3
        have m39 : (M3.2.1 72 39).toInt = d3.1 5 := DM3.2.2.2.2.1
        refine zw_c (pc' := 78) (zw_cv (q := 72) (Y := zm_181) W3.1 rfl rfl zm_181_t rfl rfl) rfl rfl rfl rfl rfl (n1) ?_
        have ix3 : (Int32.ofInt 4 * M3.2.1 72 39 + (Int32.ofInt 0 + Int32.ofInt 1 + Int32.ofInt 1 + Int32.ofInt 1)).toInt = 4 * (M3.2.1 72 39).toInt + 3 := y_ix (by decide) (by omega) (by decide)
        refine zw_st (n := 1) (k := 3) (f := zp_isI) (pc' := 79) rfl rfl rfl rfl rfl ?_
        refine zw_ld (n := 1) (k := 0) (f := zp_isR) (pc' := 80) rfl rfl (zw_gt (zw_gt (zw_gt (zw_gt (zw_gt (zw_gt (zw_gt (zw_gt (zw_gt (zw_gt (zw_gt (zw_gt rfl rfl rfl) rfl rfl) rfl rfl) rfl rfl) rfl rfl) rfl rfl) rfl rfl) rfl rfl) rfl rfl) rfl rfl) rfl rfl) rfl rfl) rfl rfl ?_
        refine zw_gR (q := 72) (pc' := 83) WM3 rfl rfl rfl rfl (WM3.2 72 55 _ rfl) rfl ?_
        refine zw_s (pc' := 84) rfl rfl ?_
        refine zw_ld (n := 1) (k := 0) (f := zp_isR) (pc' := 85) rfl rfl (zw_gt (zw_gt (zw_gt (zw_gt (zw_gt (zw_gt (zw_gt (zw_gt (zw_gt (zw_gt (zw_gt (zw_gt rfl rfl rfl) rfl rfl) rfl rfl) rfl rfl) rfl rfl) rfl rfl) rfl rfl) rfl rfl) rfl rfl) rfl rfl) rfl rfl) rfl rfl) rfl rfl ?_
        refine zw_gI (q := 72) (pc' := 88) WM3 rfl rfl rfl rfl rfl rfl ?_
        refine zw_imul (pc' := 89) rfl rfl ?_
        refine zw_ld (n := 1) (k := 2) (f := zp_isI) (pc' := 90) rfl rfl (zw_gt zw_g1 rfl rfl) rfl rfl ?_
        refine zw_iadd (pc' := 91) rfl rfl ?_
        refine zw_ld (n := 1) (k := 3) (f := zp_isI) (pc' := 92) rfl rfl zw_g1 rfl rfl ?_
        refine zw_is (q := 86) (pc' := 93) WM3 rfl rfl (by decide) (⟨by omega, by show _ < ((20 : Nat) : Int); omega⟩) rfl ?_
        have b4 : zk_Bs zR zg zJ (zw_I M3 86 (Int32.ofInt 4 * M3.2.1 72 39 + (Int32.ofInt 0 + Int32.ofInt 1 + Int32.ofInt 1 + Int32.ofInt 1)).toInt.toNat (zp_nar 0 v3)) := yB_a n2 (t := 0) (m := 20) rfl (fun r hr => y_any hr) rfl (by decide)
        have S4 : yS T n (0, [], 0, 0, 0, dd, p) (fun q => (50, [], 0, 0, 0, yWha d3 v3.toInt, q)) _ := yS_a (p := 86) (k := (Int32.ofInt 4 * M3.2.1 72 39 + (Int32.ofInt 0 + Int32.ofInt 1 + Int32.ofInt 1 + Int32.ofInt 1)).toInt.toNat) (x := zp_nar 0 v3) (by decide) n4
        have D4 := yDr_W (i := 500 + (4 * (d3.1 5).toNat + 3)) (v := v3.toInt) (by omega) (yDr_a (p := 86) (k := (Int32.ofInt 4 * M3.2.1 72 39 + (Int32.ofInt 0 + Int32.ofInt 1 + Int32.ofInt 1 + Int32.ofInt 1)).toInt.toNat) (x := zp_nar 0 v3) (by decide) DM3)
        have X4 := yXd_wD (i0 := 500 + (4 * (d3.1 5).toNat + 3)) (v := v3.toInt) (x := zp_nar 0 v3) yRl_inj (by omega) (show yRl (500 + (4 * (d3.1 5).toNat + 3)) = (86, (Int32.ofInt 4 * M3.2.1 72 39 + (Int32.ofInt 0 + Int32.ofInt 1 + Int32.ofInt 1 + Int32.ofInt 1)).toInt.toNat) by
          rw [yQ_500 (by omega), ix3, m39]
          exact congrArg (Prod.mk _) (by omega)) rfl XM3
        have q4 : (yW d3 (500 + (4 * (d3.1 5).toNat + 3)) v3.toInt).1 5 = dd.1 5 := (yW_n (by omega)).trans q3
        generalize zw_I M3 86 (Int32.ofInt 4 * M3.2.1 72 39 + (Int32.ofInt 0 + Int32.ofInt 1 + Int32.ofInt 1 + Int32.ofInt 1)).toInt.toNat (zp_nar 0 v3) = K4 at b4 S4 D4 X4 ⊢
        have W4 := zR_Wd (zR_dn b4)
        have q39 : (K4.2.1 72 39).toInt = dd.1 5 := D4.2.2.2.2.1.trans q4
        refine zw_ld (n := 1) (k := 1) (f := zp_isI) (pc' := 94) rfl rfl (zw_gt (zw_gt zw_g1 rfl rfl) rfl rfl) rfl rfl ?_
        refine zw_ld (n := 1) (k := 3) (f := zp_isI) (pc' := 95) rfl rfl zw_g1 rfl rfl ?_
        refine zw_isub (pc' := 96) rfl rfl ?_
        refine zw_st (n := 1) (k := 1) (f := zp_isI) (pc' := 97) rfl rfl rfl rfl rfl ?_
        refine zw_ii (pc' := 100) rfl (zw_gt (zw_gt zw_g1 rfl rfl) rfl rfl) rfl rfl ?_
        refine zw_s (pc' := 30) rfl rfl ?_
        refine zw_ld (n := 1) (k := 2) (f := zp_isI) (pc' := 31) rfl rfl zw_g1 rfl rfl ?_
        refine zw_s (pc' := 32) rfl rfl ?_
        refine zw_bge2 (g := 103) (pc' := 35) rfl rfl rfl (rfl : _ = (4 : Int)) (rfl : _ = (4 : Int)) (fun hb => ?_) (fun h9 => absurd h9 (by decide))
        refine zw_ld (n := 1) (k := 0) (f := zp_isR) (pc' := 104) rfl rfl (zw_gt (zw_gt (zw_gt (zw_gt (zw_gt (zw_gt (zw_gt (zw_gt (zw_gt (zw_gt (zw_gt (zw_gt (zw_gt (zw_gt rfl rfl rfl) rfl rfl) rfl rfl) rfl rfl) rfl rfl) rfl rfl) rfl rfl) rfl rfl) rfl rfl) rfl rfl) rfl rfl) rfl rfl) rfl rfl) rfl rfl) rfl rfl ?_
        by_cases hg4 : (K4.2.1 72 23).toInt = 0
        · refine zw_c (pc' := 107) (zw_cv (q := 72) (Y := zm_175) W4.1 rfl rfl zm_175_t rfl rfl) rfl rfl rfl rfl rfl (zq_good1 W4 hg4) ?_
          refine zw_beq1 (g := 120) (pc' := 110) rfl rfl rfl (rfl : _ = (1 : Int)) (fun h9 => absurd h9 (by decide)) (fun hb => ?_)
          have e1 : (K4.2.1 72 39 + Int32.ofInt 1).toInt = (K4.2.1 72 39).toInt + 1 := zw_p1 (by omega)
          refine zw_ld (n := 1) (k := 0) (f := zp_isR) (pc' := 111) rfl rfl (zw_gt (zw_gt (zw_gt (zw_gt (zw_gt (zw_gt (zw_gt (zw_gt (zw_gt (zw_gt (zw_gt (zw_gt (zw_gt (zw_gt rfl rfl rfl) rfl rfl) rfl rfl) rfl rfl) rfl rfl) rfl rfl) rfl rfl) rfl rfl) rfl rfl) rfl rfl) rfl rfl) rfl rfl) rfl rfl) rfl rfl) rfl rfl ?_
          refine zw_s (pc' := 112) rfl rfl ?_
          refine zw_gI (q := 72) (pc' := 115) W4 rfl rfl rfl rfl rfl rfl ?_
          refine zw_s (pc' := 116) rfl rfl ?_
          refine zw_iadd (pc' := 117) rfl rfl ?_
          refine zw_pI (q := 72) (pc' := 120) W4 rfl rfl rfl rfl rfl rfl ?_
          refine zw_rn rfl rfl ?_
          exact ⟨_, rfl, yB_f b4 (fun r hr => by cases hr; exact ⟨by show (0 : Int) ≤ _; omega, by show _ ≤ (5 : Int); omega⟩) rfl rfl (fun h9 => zR_cn (H := K4) b4 h9), _, yS_f (by decide) S4, fun _ => ⟨yDr_39 D4 (by rw [q4]; omega), yXd_k (by decide) (yXr_o (by decide) X4)⟩⟩
        · refine zw_c (pc' := 107) (zw_cv (q := 72) (Y := zm_175) W4.1 rfl rfl zm_175_t rfl rfl) rfl rfl rfl rfl rfl (zq_good0 W4 hg4) ?_
          refine zw_beq1 (g := 120) (pc' := 110) rfl rfl rfl (rfl : _ = (0 : Int)) (fun hb => ?_) (fun h9 => absurd h9 (by decide))
          refine zw_rn rfl rfl ?_
          exact ⟨K4, rfl, b4, _, S4, fun h9 => absurd h9 hg4⟩
      · omega
    · refine zw_s (pc' := 51) rfl rfl ?_
      refine zw_s (pc' := 55) rfl rfl ?_
      refine zw_ld (n := 1) (k := 2) (f := zp_isI) (pc' := 56) rfl rfl zw_g1 rfl rfl ?_
      refine zw_s (pc' := 57) rfl rfl ?_
      refine zw_bge2 (g := 65) (pc' := 60) rfl rfl rfl (rfl : _ = (3 : Int)) (rfl : _ = (3 : Int)) (fun hb => ?_) (fun h9 => absurd h9 (by decide))
      refine zw_ld (n := 1) (k := 1) (f := zp_isI) (pc' := 66) rfl rfl (zw_gt zw_g1 rfl rfl) rfl rfl ?_
      refine zw_bge1 (g := 74) (pc' := 69) rfl rfl rfl rfl (fun hl2 => ?_) (fun hl2 => ?_)
      · omega
      · refine zw_s (pc' := 71) rfl rfl ?_
        refine zw_s (pc' := 75) rfl rfl ?_
        obtain ⟨v3, M3, n1, n2, n3, n4, n5, n6⟩ := yS_nu (L := L) (σ := σ) (d := d) (x := Int32.ofInt 13) (y := Int32.ofInt 12) (ok := (fun v q => (50, [], 0, 0, 0, yWha d3 v, q))) hby (b3) S3 (fun q => by
          refine (yN2_13.trans (if_neg (by decide))).trans ?_
          unfold yNu
          by_cases hk9 : ys_kd T n q = 2
          · have := ys_vl_0 hk9
            rw [if_pos hk9, if_pos hk9, if_neg (by omega), if_neg (by show ¬ ((13 : Int) ≤ _ ∧ _ ≤ (12 : Int)); omega)]
          · rw [if_neg hk9, if_neg hk9]) (by decide)
        have WM3 := zR_Wd (zR_dn n2)
        have DM3 := yDr_M n3 D3
        have XM3 := yXr_F n3 rfl X3
        have m39 : (M3.2.1 72 39).toInt = d3.1 5 := DM3.2.2.2.2.1
        refine zw_c (pc' := 78) (zw_cv (q := 72) (Y := zm_181) W3.1 rfl rfl zm_181_t rfl rfl) rfl rfl rfl rfl rfl (n1) ?_
        have ix3 : (Int32.ofInt 4 * M3.2.1 72 39 + (Int32.ofInt 0 + Int32.ofInt 1 + Int32.ofInt 1 + Int32.ofInt 1)).toInt = 4 * (M3.2.1 72 39).toInt + 3 := y_ix (by decide) (by omega) (by decide)
        refine zw_st (n := 1) (k := 3) (f := zp_isI) (pc' := 79) rfl rfl rfl rfl rfl ?_
        refine zw_ld (n := 1) (k := 0) (f := zp_isR) (pc' := 80) rfl rfl (zw_gt (zw_gt (zw_gt (zw_gt (zw_gt (zw_gt (zw_gt (zw_gt (zw_gt (zw_gt (zw_gt (zw_gt rfl rfl rfl) rfl rfl) rfl rfl) rfl rfl) rfl rfl) rfl rfl) rfl rfl) rfl rfl) rfl rfl) rfl rfl) rfl rfl) rfl rfl) rfl rfl ?_
        refine zw_gR (q := 72) (pc' := 83) WM3 rfl rfl rfl rfl (WM3.2 72 55 _ rfl) rfl ?_
        refine zw_s (pc' := 84) rfl rfl ?_
        refine zw_ld (n := 1) (k := 0) (f := zp_isR) (pc' := 85) rfl rfl (zw_gt (zw_gt (zw_gt (zw_gt (zw_gt (zw_gt (zw_gt (zw_gt (zw_gt (zw_gt (zw_gt (zw_gt rfl rfl rfl) rfl rfl) rfl rfl) rfl rfl) rfl rfl) rfl rfl) rfl rfl) rfl rfl) rfl rfl) rfl rfl) rfl rfl) rfl rfl) rfl rfl ?_
        refine zw_gI (q := 72) (pc' := 88) WM3 rfl rfl rfl rfl rfl rfl ?_
        refine zw_imul (pc' := 89) rfl rfl ?_
        refine zw_ld (n := 1) (k := 2) (f := zp_isI) (pc' := 90) rfl rfl (zw_gt zw_g1 rfl rfl) rfl rfl ?_
        refine zw_iadd (pc' := 91) rfl rfl ?_
        refine zw_ld (n := 1) (k := 3) (f := zp_isI) (pc' := 92) rfl rfl zw_g1 rfl rfl ?_
        refine zw_is (q := 86) (pc' := 93) WM3 rfl rfl (by decide) (⟨by omega, by show _ < ((20 : Nat) : Int); omega⟩) rfl ?_
        have b4 : zk_Bs zR zg zJ (zw_I M3 86 (Int32.ofInt 4 * M3.2.1 72 39 + (Int32.ofInt 0 + Int32.ofInt 1 + Int32.ofInt 1 + Int32.ofInt 1)).toInt.toNat (zp_nar 0 v3)) := yB_a n2 (t := 0) (m := 20) rfl (fun r hr => y_any hr) rfl (by decide)
        have S4 : yS T n (0, [], 0, 0, 0, dd, p) (fun q => (50, [], 0, 0, 0, yWha d3 v3.toInt, q)) _ := yS_a (p := 86) (k := (Int32.ofInt 4 * M3.2.1 72 39 + (Int32.ofInt 0 + Int32.ofInt 1 + Int32.ofInt 1 + Int32.ofInt 1)).toInt.toNat) (x := zp_nar 0 v3) (by decide) n4
        have D4 := yDr_W (i := 500 + (4 * (d3.1 5).toNat + 3)) (v := v3.toInt) (by omega) (yDr_a (p := 86) (k := (Int32.ofInt 4 * M3.2.1 72 39 + (Int32.ofInt 0 + Int32.ofInt 1 + Int32.ofInt 1 + Int32.ofInt 1)).toInt.toNat) (x := zp_nar 0 v3) (by decide) DM3)
        have X4 := yXd_wD (i0 := 500 + (4 * (d3.1 5).toNat + 3)) (v := v3.toInt) (x := zp_nar 0 v3) yRl_inj (by omega) (show yRl (500 + (4 * (d3.1 5).toNat + 3)) = (86, (Int32.ofInt 4 * M3.2.1 72 39 + (Int32.ofInt 0 + Int32.ofInt 1 + Int32.ofInt 1 + Int32.ofInt 1)).toInt.toNat) by
          rw [yQ_500 (by omega), ix3, m39]
          exact congrArg (Prod.mk _) (by omega)) rfl XM3
        have q4 : (yW d3 (500 + (4 * (d3.1 5).toNat + 3)) v3.toInt).1 5 = dd.1 5 := (yW_n (by omega)).trans q3
        generalize zw_I M3 86 (Int32.ofInt 4 * M3.2.1 72 39 + (Int32.ofInt 0 + Int32.ofInt 1 + Int32.ofInt 1 + Int32.ofInt 1)).toInt.toNat (zp_nar 0 v3) = K4 at b4 S4 D4 X4 ⊢
        have W4 := zR_Wd (zR_dn b4)
        have q39 : (K4.2.1 72 39).toInt = dd.1 5 := D4.2.2.2.2.1.trans q4
        refine zw_ld (n := 1) (k := 1) (f := zp_isI) (pc' := 94) rfl rfl (zw_gt (zw_gt zw_g1 rfl rfl) rfl rfl) rfl rfl ?_
        refine zw_ld (n := 1) (k := 3) (f := zp_isI) (pc' := 95) rfl rfl zw_g1 rfl rfl ?_
        refine zw_isub (pc' := 96) rfl rfl ?_
        refine zw_st (n := 1) (k := 1) (f := zp_isI) (pc' := 97) rfl rfl rfl rfl rfl ?_
        refine zw_ii (pc' := 100) rfl (zw_gt (zw_gt zw_g1 rfl rfl) rfl rfl) rfl rfl ?_
        refine zw_s (pc' := 30) rfl rfl ?_
        refine zw_ld (n := 1) (k := 2) (f := zp_isI) (pc' := 31) rfl rfl zw_g1 rfl rfl ?_
        refine zw_s (pc' := 32) rfl rfl ?_
        refine zw_bge2 (g := 103) (pc' := 35) rfl rfl rfl (rfl : _ = (4 : Int)) (rfl : _ = (4 : Int)) (fun hb => ?_) (fun h9 => absurd h9 (by decide))
        refine zw_ld (n := 1) (k := 0) (f := zp_isR) (pc' := 104) rfl rfl (zw_gt (zw_gt (zw_gt (zw_gt (zw_gt (zw_gt (zw_gt (zw_gt (zw_gt (zw_gt (zw_gt (zw_gt (zw_gt (zw_gt rfl rfl rfl) rfl rfl) rfl rfl) rfl rfl) rfl rfl) rfl rfl) rfl rfl) rfl rfl) rfl rfl) rfl rfl) rfl rfl) rfl rfl) rfl rfl) rfl rfl) rfl rfl ?_
        by_cases hg4 : (K4.2.1 72 23).toInt = 0
        · refine zw_c (pc' := 107) (zw_cv (q := 72) (Y := zm_175) W4.1 rfl rfl zm_175_t rfl rfl) rfl rfl rfl rfl rfl (zq_good1 W4 hg4) ?_
          refine zw_beq1 (g := 120) (pc' := 110) rfl rfl rfl (rfl : _ = (1 : Int)) (fun h9 => absurd h9 (by decide)) (fun hb => ?_)
          have e1 : (K4.2.1 72 39 + Int32.ofInt 1).toInt = (K4.2.1 72 39).toInt + 1 := zw_p1 (by omega)
          refine zw_ld (n := 1) (k := 0) (f := zp_isR) (pc' := 111) rfl rfl (zw_gt (zw_gt (zw_gt (zw_gt (zw_gt (zw_gt (zw_gt (zw_gt (zw_gt (zw_gt (zw_gt (zw_gt (zw_gt (zw_gt rfl rfl rfl) rfl rfl) rfl rfl) rfl rfl) rfl rfl) rfl rfl) rfl rfl) rfl rfl) rfl rfl) rfl rfl) rfl rfl) rfl rfl) rfl rfl) rfl rfl) rfl rfl ?_
          refine zw_s (pc' := 112) rfl rfl ?_
          refine zw_gI (q := 72) (pc' := 115) W4 rfl rfl rfl rfl rfl rfl ?_
          refine zw_s (pc' := 116) rfl rfl ?_
          refine zw_iadd (pc' := 117) rfl rfl ?_
          refine zw_pI (q := 72) (pc' := 120) W4 rfl rfl rfl rfl rfl rfl ?_
          refine zw_rn rfl rfl ?_
          exact ⟨_, rfl, yB_f b4 (fun r hr => by cases hr; exact ⟨by show (0 : Int) ≤ _; omega, by show _ ≤ (5 : Int); omega⟩) rfl rfl (fun h9 => zR_cn (H := K4) b4 h9), _, yS_f (by decide) S4, fun _ => ⟨yDr_39 D4 (by rw [q4]; omega), yXd_k (by decide) (yXr_o (by decide) X4)⟩⟩
        · refine zw_c (pc' := 107) (zw_cv (q := 72) (Y := zm_175) W4.1 rfl rfl zm_175_t rfl rfl) rfl rfl rfl rfl rfl (zq_good0 W4 hg4) ?_
          refine zw_beq1 (g := 120) (pc' := 110) rfl rfl rfl (rfl : _ = (0 : Int)) (fun hb => ?_) (fun h9 => absurd h9 (by decide))
          refine zw_rn rfl rfl ?_
          exact ⟨K4, rfl, b4, _, S4, fun h9 => absurd h9 hg4⟩
  · obtain ⟨H1, c1, c2, c3, c4, c5⟩ := yp_wr (L := L) (σ := σ) (d := d + 2) (y := Int32.ofInt 2) hB hg hP (by decide)
    have W1 := zR_Wd (zR_dn c2)
    refine zw_ld (n := 1) (k := 0) (f := zp_isR) (pc' := 9) rfl rfl rfl rfl rfl ?_
    refine zw_s (pc' := 10) rfl rfl ?_
    refine zw_cn (pc' := 13) (zw_cv (q := 72) (Y := zm_180) W.1 rfl rfl zm_180_t rfl rfl) rfl rfl rfl rfl rfl (c1) ?_
    refine zw_ld (n := 1) (k := 0) (f := zp_isR) (pc' := 14) rfl rfl rfl rfl rfl ?_
    refine zw_c (pc' := 17) (zw_cv (q := 72) (Y := zm_175) W1.1 rfl rfl zm_175_t rfl rfl) rfl rfl rfl rfl rfl (zq_good0 W1 c3) ?_
    refine zw_bne1 (g := 21) (pc' := 20) rfl rfl rfl (rfl : _ = (0 : Int)) (fun h9 => absurd h9 (by decide)) (fun hb => ?_)
    refine zw_rn rfl rfl ?_
    exact yRr_b c2 c3 c5 (yA2_done (yN2_0.trans ((y0w_16 hk).trans (if_neg (by omega)))))
