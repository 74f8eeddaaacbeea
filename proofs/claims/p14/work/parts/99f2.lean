/-! ===== the reference: a line ===== -/

set_option maxRecDepth 8000 in
theorem yB_J {x : Int64} {H : zp_H} (hB : zk_Bs zR zg zJ H) : zk_Bs zR zg zJ (zw_J H 72 51 x) := by
  have t := zT_J2 (k := 51) (x := x) (zR_T hB)
  exact zR_up ⟨t.1, t.2.1, t.2.2.1, t.2.2.2.1, t.2.2.2.2.1, t.2.2.2.2.2.1, t.2.2.2.2.2.2.1, hB.2.2.2.2.2.2.2⟩ (zR_cn (H := H) hB)
theorem yDr_r {d : yLD} {u : Int64} {x : Int32} {H : zp_H} (h : yDr d H) (hx : x.toInt = d.1 3 + 1) (h20 : d.1 3 < 20) : yDr (yU d.1 3 (d.1 3 + 1), u, d.2.2) (zw_I (zw_J H 72 51 u) 72 36 x) := by
  obtain ⟨a0, a1, a2, a3, a4, a5, a6, a7, a8, a9, a11, a12, a13⟩ := h
  exact ⟨a0, a1, hx, a3, a4, a5, a6, a7, a8, rfl, a11, (by show 0 ≤ d.1 3 + 1; omega), ⟨(by show d.1 3 + 1 ≤ 20; omega), a13.2⟩⟩
theorem yDr_83 {d : yLD} {c : Int} {x y : Int32} {H : zp_H} (h : yDr d H) (hx : x.toInt ≠ -1) (hc : 0 ≤ c ∧ c < 64) (hf : d.2.2 c.toNat = false) (hy : y.toInt = (H.2.1 72 37).toInt + 1) : yDr (d.1, d.2.1, yUb d.2.2 c) (zw_I (zw_I H 83 c.toNat x) 72 37 y) := by
  obtain ⟨a0, a1, a2, a3, a4, a5, a6, a7, a8, a9, a11, a12, a13⟩ := h
  refine ⟨a0, a1, a2, a3, a4, a5, a6, a7, a8, a9, fun j hj => ?_, a12, a13.1, (congrArg Int32.toInt zw_eq).trans (hy.trans (by rw [a13.2]; exact (yCnt_u hc.1 64 hc.2 hf).symm))⟩
  show ((zw_I H 83 c.toNat x).2.1 83 j).toInt = -1 ↔ yUb d.2.2 c j = false
  unfold yUb
  by_cases h9 : j = c.toNat
  · rw [h9, show (zw_I H 83 c.toNat x).2.1 83 c.toNat = x from zw_eq, if_pos (by omega)]
    exact ⟨fun h8 => absurd h8 hx, fun h8 => by cases h8⟩
  · rw [y_ne (fun h8 => h9 h8.2), if_neg (by omega)]
    exact a11 j hj
theorem yP_c {T : Nat → Int} {n q : Nat} {H H1 : zp_H} (e : ∀ k, (23 ≤ k ∧ k ≤ 32) → H1.2.1 72 k = H.2.1 72 k) (e1 : H1.2.1 81 = H.2.1 81) (e2 : H1.2.2.1 72 33 = H.2.2.1 72 33) (h : yP T n q H) : yP T n q H1 := ⟨yr_T_c (e 26 (by decide)) e1 (e 23 (by decide)) (e 24 (by decide)) h.1, yr_k_c (fun k hk => e k (by omega)) e2 h.2.1, h.2.2⟩

set_option maxHeartbeats 4000000 in
set_option maxRecDepth 8000 in
theorem yx_l9 {L : Nat} {σ : Nat → Int32} {d : Nat} {T : Nat → Int} {n p : Nat} {dd : yLD} {H : zp_H} {lv : zp_LV} (hby : ∀ k, k < n → -128 ≤ T k ∧ T k ≤ 127) (hB : zk_Bs zR zg zJ H) (hg : (H.2.1 72 23).toInt = 0) (hP : yP T n p H) (hD : yDr dd H) (hX : yXd yRl [] dd H) (hk : ys_kd T n p = 3 ∧ ys_vl T n p = 13) (l0 : zp_get lv 0 = some (.inr (.inr (some 73)))) : zs_Safe L σ (yLr T n dd p) zm_176 [] (d + 8) (66, lv, [], H, (0, 0)) := by
  have W := zR_Wd (zR_dn hB)
  have d36 : (H.2.1 72 36).toInt = dd.1 3 := hD.2.2.1
  have dm : 0 ≤ dd.1 3 ∧ dd.1 3 ≤ 20 := ⟨hD.2.2.2.2.2.2.2.2.2.2.2.1, hD.2.2.2.2.2.2.2.2.2.2.2.2.1⟩
  refine zw_ld (n := 1) (k := 0) (f := zp_isR) (pc' := 67) rfl rfl l0 rfl rfl ?_
  refine zw_gI (q := 72) (pc' := 70) W rfl rfl rfl rfl rfl rfl ?_
  refine zw_s (pc' := 72) rfl rfl ?_
  refine zw_bne2 (g := 80) (pc' := 75) rfl rfl rfl rfl (rfl : _ = (20 : Int)) (fun h20 => ?_) (fun h20 => ?_)
  · refine zw_ld (n := 1) (k := 0) (f := zp_isR) (pc' := 81) rfl rfl l0 rfl rfl ?_
    refine zw_c (pc' := 84) (zw_cv (q := 72) (Y := zm_175) W.1 rfl rfl zm_175_t rfl rfl) rfl rfl rfl rfl rfl (zq_good1 W hg) ?_
    refine zw_bne1 (g := 88) (pc' := 87) rfl rfl rfl (rfl : _ = (1 : Int)) (fun hb => ?_) (fun h9 => absurd h9 (by decide))
    obtain ⟨K0, g1, g2, g3, g4⟩ := yp_go (L := L) (σ := σ) (d := d + 6) hby hB hP
    have W0 := zR_Wd (zR_dn g2)
    have D0 := yDr_m g3 hD
    have X0 := yXr_F g3 rfl hX
    have S0 : yS T n (0, [], 0, 0, 0, dd, p) (fun q => (3, [], 0, 0, 0, dd, q)) K0 := Or.inl ⟨(zx_fe g3 23 rfl rfl rfl).trans hg, _, g4, yR2_s (yN2_0.trans ((y0w_13 hk).trans (if_pos (by omega))))⟩
    refine zw_ld (n := 1) (k := 0) (f := zp_isR) (pc' := 89) rfl rfl l0 rfl rfl ?_
    refine zw_cn (pc' := 92) (zw_cv (q := 72) (Y := zm_171) W.1 rfl rfl zm_171_t rfl rfl) rfl rfl rfl rfl rfl (g1) ?_
    refine zw_ld (n := 1) (k := 0) (f := zp_isR) (pc' := 93) rfl rfl l0 rfl rfl ?_
    obtain ⟨_, n1, v, M, rfl, n2, n3, ⟨g, g0, q, x, hP3, hR3, k1, k2, k3, k4, k5, k6, k7, k8⟩ | ⟨b, rfl, r, hb1, hb2⟩⟩ := yS_ch (L := L) (σ := σ) (d := d + 4) (w := dd.1 1) (hh := dd.1 2) (s1 := fun x q => (4, [], x, 0, 0, dd, q)) hby g2 S0 D0.1 D0.2.1 (fun q => yN2_3) (fun x q r h9 => by rw [yN2_4, h9 _])
    · have WM := zR_Wd (zR_dn n2)
      have DM := yDr_M n3 D0
      have r51 : M.2.2.1 72 51 = dd.2.1 := DM.2.2.2.2.2.2.2.2.2.1
      have f36 : (M.2.1 72 36).toInt = dd.1 3 := DM.2.2.1
      have eN : ∀ ok : Int → yL, yNu T n q 0 (dd.1 2 - 1) ok = .inl (ok (ys_vl T n q)) := fun ok => by
        unfold yNu
        rw [if_pos k1, if_pos ⟨k2, k3⟩]
      refine zw_c (pc' := 96) (zw_cv (q := 72) (Y := zm_183) W0.1 rfl rfl zm_183_t rfl rfl) rfl rfl rfl rfl rfl (n1) ?_
      refine zw_st (n := 1) (k := 2) (f := zp_isI) (pc' := 97) rfl rfl rfl rfl rfl ?_
      refine zw_ld (n := 1) (k := 0) (f := zp_isR) (pc' := 98) rfl rfl (zw_gt l0 rfl rfl) rfl rfl ?_
      refine zw_c (pc' := 101) (zw_cv (q := 72) (Y := zm_175) WM.1 rfl rfl zm_175_t rfl rfl) rfl rfl rfl rfl rfl (zq_good1 WM g) ?_
      refine zw_beq1 (g := 122) (pc' := 104) rfl rfl rfl (rfl : _ = (1 : Int)) (fun h9 => absurd h9 (by decide)) (fun hb => ?_)
      refine zw_ld (n := 1) (k := 0) (f := zp_isR) (pc' := 105) rfl rfl (zw_gt l0 rfl rfl) rfl rfl ?_
      refine zw_gL (q := 72) (pc' := 108) WM rfl rfl rfl rfl rfl ?_
      refine zw_ld (n := 1) (k := 2) (f := zp_isI) (pc' := 109) rfl rfl zw_g1 rfl rfl ?_
      refine zw_lshr (pc' := 110) rfl rfl ?_
      refine zw_s (pc' := 111) rfl rfl ?_
      refine zw_land (pc' := 112) rfl rfl ?_
      refine zw_s (pc' := 113) rfl rfl ?_
      refine zw_s (pc' := 114) rfl rfl ?_
      refine zw_bne1 (g := 122) (pc' := 117) rfl rfl rfl rfl (fun hb => ?_) (fun hb => ?_)
      · have hfree : dd.2.1 &&& yBit v.toInt = 0 := by
          rw [← r51]
          exact Decidable.byContradiction (fun h9 => hb (y_cmp.mpr ((y_shr (r := M.2.2.1 72 51) ⟨k7, k8⟩).mpr h9)))
        have e1 : (M.2.1 72 36 + Int32.ofInt 1).toInt = dd.1 3 + 1 := by rw [zw_p1 (by omega), f36]
        have eu : (M.2.2.1 72 51 ||| za_shl0 (Int64.ofNat 1) v) = dd.2.1 ||| yBit v.toInt := by
          unfold yBit
          rw [Int32.ofInt_toInt, r51]
        have b2 : zk_Bs zR zg zJ (zw_I (zw_J M 72 51 (M.2.2.1 72 51 ||| za_shl0 (Int64.ofNat 1) v)) 72 36 (M.2.1 72 36 + Int32.ofInt 1)) := yB_g (yB_J n2) (fun r hr => by cases hr) rfl rfl (by decide)
        have D2 := yDr_r (u := (M.2.2.1 72 51 ||| za_shl0 (Int64.ofNat 1) v)) (x := M.2.1 72 36 + Int32.ofInt 1) DM e1 (by omega)
        have XM9 : yXd yRl [] dd M := yXr_F n3 rfl X0
        have X2 : yXd yRl [] (yU dd.1 3 (dd.1 3 + 1), (M.2.2.1 72 51 ||| za_shl0 (Int64.ofNat 1) v), dd.2.2) (zw_I (zw_J M 72 51 (M.2.2.1 72 51 ||| za_shl0 (Int64.ofNat 1) v)) 72 36 (M.2.1 72 36 + Int32.ofInt 1)) := yXd_k (d := (dd.1, (M.2.2.1 72 51 ||| za_shl0 (Int64.ofNat 1) v), dd.2.2)) (k := 3) (v := dd.1 3 + 1) (by decide) (yXr_o (p := 72) (k := 36) (H := zw_J M 72 51 (M.2.2.1 72 51 ||| za_shl0 (Int64.ofNat 1) v)) (by decide) (fun i i1 i2 i3 => XM9 i i1 i2 i3))
        have P2 : yP T n q (zw_I (zw_J M 72 51 (M.2.2.1 72 51 ||| za_shl0 (Int64.ofNat 1) v)) 72 36 (M.2.1 72 36 + Int32.ofInt 1)) := yP_c (H := M) (fun j hj => (y_ne (fun h9 => by have := h9.2; omega)).trans rfl) (funext (fun j => (y_ne (fun h9 => absurd h9.1 (by decide))).trans rfl)) rfl hP3
        have G2 : ((zw_I (zw_J M 72 51 (M.2.2.1 72 51 ||| za_shl0 (Int64.ofNat 1) v)) 72 36 (M.2.1 72 36 + Int32.ofInt 1)).2.1 72 23).toInt = 0 := g
        refine zw_ld (n := 1) (k := 0) (f := zp_isR) (pc' := 123) rfl rfl (zw_gt l0 rfl rfl) rfl rfl ?_
        refine zw_c (pc' := 126) (zw_cv (q := 72) (Y := zm_175) WM.1 rfl rfl zm_175_t rfl rfl) rfl rfl rfl rfl rfl (zq_good1 WM g) ?_
        refine zw_bne1 (g := 130) (pc' := 129) rfl rfl rfl (rfl : _ = (1 : Int)) (fun hb => ?_) (fun h9 => absurd h9 (by decide))
        refine zw_ld (n := 1) (k := 0) (f := zp_isR) (pc' := 131) rfl rfl (zw_gt l0 rfl rfl) rfl rfl ?_
        refine zw_s (pc' := 132) rfl rfl ?_
        refine zw_gL (q := 72) (pc' := 135) WM rfl rfl rfl rfl rfl ?_
        refine zw_s (pc' := 136) rfl rfl ?_
        refine zw_ld (n := 1) (k := 2) (f := zp_isI) (pc' := 137) rfl rfl zw_g1 rfl rfl ?_
        refine zw_lshl (pc' := 138) rfl rfl ?_
        refine zw_lor (pc' := 139) rfl rfl ?_
        refine zw_pL (q := 72) (pc' := 142) WM rfl rfl rfl rfl rfl rfl ?_
        refine zw_ld (n := 1) (k := 0) (f := zp_isR) (pc' := 143) rfl rfl (zw_gt l0 rfl rfl) rfl rfl ?_
        refine zw_s (pc' := 144) rfl rfl ?_
        refine zw_gI (q := 72) (pc' := 147) WM rfl rfl rfl rfl (zw_nj rfl) rfl ?_
        refine zw_s (pc' := 148) rfl rfl ?_
        refine zw_iadd (pc' := 149) rfl rfl ?_
        refine zw_pI (q := 72) (pc' := 152) WM rfl rfl rfl rfl rfl rfl ?_
        change zs_Safe L σ (yLr T n dd p) zm_176 [] (d + 8) (152, _, _, zw_I (zw_J M 72 51 (M.2.2.1 72 51 ||| za_shl0 (Int64.ofNat 1) v)) 72 36 (M.2.1 72 36 + Int32.ofInt 1), _)
        generalize zw_I (zw_J M 72 51 (M.2.2.1 72 51 ||| za_shl0 (Int64.ofNat 1) v)) 72 36 (M.2.1 72 36 + Int32.ofInt 1) = K at b2 D2 X2 P2 G2 ⊢
        have WK := zR_Wd (zR_dn b2)
        obtain ⟨R, q1, q2, q3, q4⟩ := yp_go (L := L) (σ := σ) (d := d + 6) hby b2 P2
        refine zw_ld (n := 1) (k := 0) (f := zp_isR) (pc' := 153) rfl rfl (zw_gt l0 rfl rfl) rfl rfl ?_
        refine zw_cn (pc' := 156) (zw_cv (q := 72) (Y := zm_171) WK.1 rfl rfl zm_171_t rfl rfl) rfl rfl rfl rfl rfl (q1) ?_
        refine zw_s (pc' := 483) rfl rfl ?_
        rw [eu] at D2 X2
        refine yx_lE (d' := (yU dd.1 3 (dd.1 3 + 1), dd.2.1 ||| yBit v.toInt, dd.2.2)) hby q2 (Or.inl ⟨(zx_fe q3 23 rfl rfl rfl).trans G2, _, q4, yR2_t hR3 (yR2_s ?_)⟩) (fun _ => ⟨yDr_m q3 D2, yXr_F q3 rfl X2⟩) (zw_gt l0 rfl rfl)
        rw [yN2_4, eN]
        show (if dd.2.1 &&& yBit (dd.1 1 * ys_vl T n q + x) = 0 then _ else _) = _
        rw [← k6, if_pos hfree]
      · have hbit := (y_shr (r := M.2.2.1 72 51) ⟨k7, k8⟩).mp (y_cmp.mp hb)
        obtain ⟨H1, c1, c2, c3, c4, c5⟩ := yp_wr (L := L) (σ := σ) (d := d + 7) (y := Int32.ofInt 4) n2 g hP3 (by decide)
        have W1 := zR_Wd (zR_dn c2)
        refine zw_ld (n := 1) (k := 0) (f := zp_isR) (pc' := 118) rfl rfl (zw_gt l0 rfl rfl) rfl rfl ?_
        refine zw_s (pc' := 119) rfl rfl ?_
        refine zw_cn (pc' := 122) (zw_cv (q := 72) (Y := zm_180) WM.1 rfl rfl zm_180_t rfl rfl) rfl rfl rfl rfl rfl (c1) ?_
        refine zw_ld (n := 1) (k := 0) (f := zp_isR) (pc' := 123) rfl rfl (zw_gt l0 rfl rfl) rfl rfl ?_
        refine zw_c (pc' := 126) (zw_cv (q := 72) (Y := zm_175) W1.1 rfl rfl zm_175_t rfl rfl) rfl rfl rfl rfl rfl (zq_good0 W1 c3) ?_
        refine zw_bne1 (g := 130) (pc' := 129) rfl rfl rfl (rfl : _ = (0 : Int)) (fun h9 => absurd h9 (by decide)) (fun hb => ?_)
        refine zw_rn rfl rfl ?_
        refine yLr_b c2 c3 c5 (yR2_a hR3 (yA2_done ?_))
        rw [yN2_4, eN]
        show (if dd.2.1 &&& yBit (dd.1 1 * ys_vl T n q + x) = 0 then _ else _) = _
        rw [if_neg (by rw [← k6, ← r51]; exact hbit)]
        rfl
    · have WM := zR_Wd (zR_dn n2)
      refine zw_c (pc' := 96) (zw_cv (q := 72) (Y := zm_183) W0.1 rfl rfl zm_183_t rfl rfl) rfl rfl rfl rfl rfl (n1) ?_
      refine zw_st (n := 1) (k := 2) (f := zp_isI) (pc' := 97) rfl rfl rfl rfl rfl ?_
      refine zw_ld (n := 1) (k := 0) (f := zp_isR) (pc' := 98) rfl rfl (zw_gt l0 rfl rfl) rfl rfl ?_
      refine zw_c (pc' := 101) (zw_cv (q := 72) (Y := zm_175) WM.1 rfl rfl zm_175_t rfl rfl) rfl rfl rfl rfl rfl (zq_good0 WM b) ?_
      refine zw_beq1 (g := 122) (pc' := 104) rfl rfl rfl (rfl : _ = (0 : Int)) (fun hb => ?_) (fun h9 => absurd h9 (by decide))
      refine zw_ld (n := 1) (k := 0) (f := zp_isR) (pc' := 123) rfl rfl (zw_gt l0 rfl rfl) rfl rfl ?_
      refine zw_c (pc' := 126) (zw_cv (q := 72) (Y := zm_175) WM.1 rfl rfl zm_175_t rfl rfl) rfl rfl rfl rfl rfl (zq_good0 WM b) ?_
      refine zw_bne1 (g := 130) (pc' := 129) rfl rfl rfl (rfl : _ = (0 : Int)) (fun h9 => absurd h9 (by decide)) (fun hb => ?_)
      refine zw_rn rfl rfl ?_
      exact yLr_b n2 b hb1 hb2
  · obtain ⟨H1, c1, c2, c3, c4, c5⟩ := yp_wr (L := L) (σ := σ) (d := d + 7) (y := Int32.ofInt 2) hB hg hP (by decide)
    have W1 := zR_Wd (zR_dn c2)
    refine zw_ld (n := 1) (k := 0) (f := zp_isR) (pc' := 76) rfl rfl l0 rfl rfl ?_
    refine zw_s (pc' := 77) rfl rfl ?_
    refine zw_cn (pc' := 80) (zw_cv (q := 72) (Y := zm_180) W.1 rfl rfl zm_180_t rfl rfl) rfl rfl rfl rfl rfl (c1) ?_
    refine zw_ld (n := 1) (k := 0) (f := zp_isR) (pc' := 81) rfl rfl l0 rfl rfl ?_
    refine zw_c (pc' := 84) (zw_cv (q := 72) (Y := zm_175) W1.1 rfl rfl zm_175_t rfl rfl) rfl rfl rfl rfl rfl (zq_good0 W1 c3) ?_
    refine zw_bne1 (g := 88) (pc' := 87) rfl rfl rfl (rfl : _ = (0 : Int)) (fun h9 => absurd h9 (by decide)) (fun hb => ?_)
    refine zw_rn rfl rfl ?_
    exact yLr_b c2 c3 c5 (yA2_done (yN2_0.trans ((y0w_13 hk).trans (if_neg (by omega)))))

set_option maxHeartbeats 4000000 in
set_option maxRecDepth 8000 in
theorem yx_l207 {L : Nat} {σ : Nat → Int32} {d : Nat} {T : Nat → Int} {n p : Nat} {dd : yLD} {H : zp_H} {lv : zp_LV} {xc : Int32} (hK : zx_KW L σ) (hby : ∀ k, k < n → -128 ≤ T k ∧ T k ≤ 127) (hB : zk_Bs zR zg zJ H) (hs : yS T n (0, [], 0, 0, 0, dd, p) (fun q => (7, [], xc.toInt, 0, 0, dd, q)) H) (hD : yDr dd H) (hX : yXd yRl [] dd H) (hc : 0 ≤ xc.toInt ∧ xc.toInt ≤ 63) (hnf : (H.2.1 72 23).toInt = 0 → dd.2.2 xc.toInt.toNat = false) (l0 : zp_get lv 0 = some (.inr (.inr (some 73)))) (l2 : zp_get lv 2 = some (.inl xc)) : zs_Safe L σ (yLr T n dd p) zm_176 [] (d + 8) (207, lv, [], H, (0, 0)) := by
  have W := zR_Wd (zR_dn hB)
  obtain ⟨_, w1, v, M, rfl, w2, w3, w4, w5, w6, w7, w8⟩ := yS_way (L := L) (σ := σ) (d := d + 3) (s' := fun q => (50, [], 0, 0, 0, yWcu dd xc.toInt (zg H), q)) hK hby hB hs (fun q hP9 => by
    rw [yN2_7]
    by_cases h9 : ys_kd T n q = 3 ∧ ys_vl T n q < 4
    · rw [if_pos h9, if_pos h9, yr_wv hP9 h9]
    · rw [if_neg h9, if_neg h9])
  have WM := zR_Wd (zR_dn w2)
  have DM := yDr_M w3 hD
  have XM := yXr_F w3 rfl hX
  refine zw_ld (n := 1) (k := 0) (f := zp_isR) (pc' := 208) rfl rfl l0 rfl rfl ?_
  refine zw_c (pc' := 211) (zw_cv (q := 72) (Y := zm_184) W.1 rfl rfl zm_184_t rfl rfl) rfl rfl rfl rfl rfl (w1) ?_
  refine zw_st (n := 1) (k := 3) (f := zp_isI) (pc' := 212) rfl rfl rfl rfl rfl ?_
  refine zw_ld (n := 1) (k := 0) (f := zp_isR) (pc' := 213) rfl rfl (zw_gt l0 rfl rfl) rfl rfl ?_
  by_cases hg1 : (M.2.1 72 23).toInt = 0
  · refine zw_c (pc' := 216) (zw_cv (q := 72) (Y := zm_175) WM.1 rfl rfl zm_175_t rfl rfl) rfl rfl rfl rfl rfl (zq_good1 WM hg1) ?_
    refine zw_bne1 (g := 220) (pc' := 219) rfl rfl rfl (rfl : _ = (1 : Int)) (fun hb => ?_) (fun h9 => absurd h9 (by decide))
    have vb := (w5 hg1).2
    have b1 : zk_Bs zR zg zJ (zw_I M 83 xc.toInt.toNat (zp_nar 0 v)) := yB_a (x := v) w2 (t := 0) (m := 64) rfl (fun r hr => by
      have hr : [((-1 : Int), (3 : Int))][xc.toInt.toNat % 1]? = some r := hr
      rw [Nat.mod_one] at hr
      cases hr
      exact ⟨by show (-1 : Int) ≤ _; omega, by show _ ≤ (3 : Int); omega⟩) rfl (by decide)
    have b2 : zk_Bs zR zg zJ (zw_I (zw_I M 83 xc.toInt.toNat (zp_nar 0 v)) 72 37 (M.2.1 72 37 + Int32.ofInt 1)) := yB_g b1 (fun r hr => by cases hr) rfl rfl (by decide)
    have hb9 := yCnt_b (f := dd.2.2) 64
    have h37 : (M.2.1 72 37).toInt = yCnt dd.2.2 64 := DM.2.2.2.2.2.2.2.2.2.2.2.2.2
    have D2 : yDr (yWcu dd xc.toInt (zg H)) (zw_I (zw_I M 83 xc.toInt.toNat (zp_nar 0 v)) 72 37 (M.2.1 72 37 + Int32.ofInt 1)) := yDr_cu (v := zg H) (yDr_83 (x := v) (y := M.2.1 72 37 + Int32.ofInt 1) DM (by omega) ⟨hc.1, by omega⟩ (hnf (w5 hg1).1) (zw_p1 (by omega)))
    have X2 : yXd yRl [] (yWcu dd xc.toInt (zg H)) (zw_I (zw_I M 83 xc.toInt.toNat (zp_nar 0 v)) 72 37 (M.2.1 72 37 + Int32.ofInt 1)) := by rw [yWcu_e (by omega)]; exact yXr_o (by decide) (yXd_b (d := (yU (yW dd (100 + xc.toInt.toNat) (zg H)).1 13 (dd.1 13 + 1), (yW dd (100 + xc.toInt.toNat) (zg H)).2)) (by omega) (yXd_k (by decide) (yXd_wD (x := zp_nar 0 v) yRl_inj (by omega) (by rw [yQ_100 (by omega)]) (w8 (w5 hg1).1) XM)))
    have S2 := yS_f (k := 37) (x := M.2.1 72 37 + Int32.ofInt 1) (by decide) (yS_a (p := 83) (k := xc.toInt.toNat) (x := zp_nar 0 v) (by decide) w4)
    refine zw_ld (n := 1) (k := 0) (f := zp_isR) (pc' := 221) rfl rfl (zw_gt l0 rfl rfl) rfl rfl ?_
    refine zw_gR (q := 72) (pc' := 224) WM rfl rfl rfl rfl (WM.2 72 52 _ rfl) rfl ?_
    refine zw_ld (n := 1) (k := 2) (f := zp_isI) (pc' := 225) rfl rfl (zw_gt l2 rfl rfl) rfl rfl ?_
    refine zw_ld (n := 1) (k := 3) (f := zp_isI) (pc' := 226) rfl rfl zw_g1 rfl rfl ?_
    refine zw_is (q := 83) (pc' := 227) WM rfl rfl (by decide) (⟨by omega, by show _ < ((64 : Nat) : Int); omega⟩) rfl ?_
    refine zw_ld (n := 1) (k := 0) (f := zp_isR) (pc' := 228) rfl rfl (zw_gt l0 rfl rfl) rfl rfl ?_
    refine zw_s (pc' := 229) rfl rfl ?_
    refine zw_gI (q := 72) (pc' := 232) WM rfl rfl rfl rfl (zw_ne rfl rfl) rfl ?_
    refine zw_s (pc' := 233) rfl rfl ?_
    refine zw_iadd (pc' := 234) rfl rfl ?_
    refine zw_pI (q := 72) (pc' := 237) WM rfl rfl rfl rfl rfl rfl ?_
    refine zw_s (pc' := 483) rfl rfl ?_
    exact yx_lE hby b2 S2 (fun _ => ⟨D2, X2⟩) (zw_gt l0 rfl rfl)
  · refine zw_c (pc' := 216) (zw_cv (q := 72) (Y := zm_175) WM.1 rfl rfl zm_175_t rfl rfl) rfl rfl rfl rfl rfl (zq_good0 WM hg1) ?_
    refine zw_bne1 (g := 220) (pc' := 219) rfl rfl rfl (rfl : _ = (0 : Int)) (fun h9 => absurd h9 (by decide)) (fun hb => ?_)
    refine zw_rn rfl rfl ?_
    rcases w4 with ⟨h9, _⟩ | ⟨_, r, h8, h7⟩
    · exact absurd h9 hg1
    · exact yLr_b w2 hg1 h8 h7

set_option maxHeartbeats 4000000 in
set_option maxRecDepth 8000 in
theorem yx_l10 {L : Nat} {σ : Nat → Int32} {d : Nat} {T : Nat → Int} {n p : Nat} {dd : yLD} {H : zp_H} {lv : zp_LV} (hK : zx_KW L σ) (hby : ∀ k, k < n → -128 ≤ T k ∧ T k ≤ 127) (hB : zk_Bs zR zg zJ H) (hg : (H.2.1 72 23).toInt = 0) (hP : yP T n p H) (hD : yDr dd H) (hX : yXd yRl [] dd H) (hk : ys_kd T n p = 3 ∧ ys_vl T n p = 14) (l0 : zp_get lv 0 = some (.inr (.inr (some 73)))) : zs_Safe L σ (yLr T n dd p) zm_176 [] (d + 8) (165, lv, [], H, (0, 0)) := by
  have W := zR_Wd (zR_dn hB)
  obtain ⟨K0, g1, g2, g3, g4⟩ := yp_go (L := L) (σ := σ) (d := d + 6) hby hB hP
  have W0 := zR_Wd (zR_dn g2)
  have D0 := yDr_m g3 hD
  have X0 := yXr_F g3 rfl hX
  have S0 : yS T n (0, [], 0, 0, 0, dd, p) (fun q => (5, [], 0, 0, 0, dd, q)) K0 := Or.inl ⟨(zx_fe g3 23 rfl rfl rfl).trans hg, _, g4, yR2_s (yN2_0.trans ((y0w_14 hk).trans rfl))⟩
  refine zw_ld (n := 1) (k := 0) (f := zp_isR) (pc' := 166) rfl rfl l0 rfl rfl ?_
  refine zw_cn (pc' := 169) (zw_cv (q := 72) (Y := zm_171) W.1 rfl rfl zm_171_t rfl rfl) rfl rfl rfl rfl rfl (g1) ?_
  refine zw_ld (n := 1) (k := 0) (f := zp_isR) (pc' := 170) rfl rfl l0 rfl rfl ?_
  obtain ⟨_, n1, v, M, rfl, n2, n3, ⟨g, g0, q, x, hP3, hR3, k1, k2, k3, k4, k5, k6, k7, k8⟩ | ⟨b, rfl, r, hb1, hb2⟩⟩ := yS_ch (L := L) (σ := σ) (d := d + 4) (w := dd.1 1) (hh := dd.1 2) (s1 := fun x q => (6, [], x, 0, 0, dd, q)) hby g2 S0 D0.1 D0.2.1 (fun q => yN2_5) (fun x q r h9 => by rw [yN2_6, h9 _])
  · have WM := zR_Wd (zR_dn n2)
    have DM := yDr_M n3 D0
    have XM := yXr_F n3 rfl X0
    have r83 := DM.2.2.2.2.2.2.2.2.2.2.1 v.toInt.toNat (by omega)
    have eN : ∀ ok : Int → yL, yNu T n q 0 (dd.1 2 - 1) ok = .inl (ok (ys_vl T n q)) := fun ok => by
      unfold yNu
      rw [if_pos k1, if_pos ⟨k2, k3⟩]
    refine zw_c (pc' := 173) (zw_cv (q := 72) (Y := zm_183) W0.1 rfl rfl zm_183_t rfl rfl) rfl rfl rfl rfl rfl (n1) ?_
    refine zw_st (n := 1) (k := 2) (f := zp_isI) (pc' := 174) rfl rfl rfl rfl rfl ?_
    refine zw_ld (n := 1) (k := 0) (f := zp_isR) (pc' := 175) rfl rfl (zw_gt l0 rfl rfl) rfl rfl ?_
    refine zw_c (pc' := 178) (zw_cv (q := 72) (Y := zm_175) WM.1 rfl rfl zm_175_t rfl rfl) rfl rfl rfl rfl rfl (zq_good1 WM g) ?_
    refine zw_beq1 (g := 196) (pc' := 181) rfl rfl rfl (rfl : _ = (1 : Int)) (fun h9 => absurd h9 (by decide)) (fun hb => ?_)
    refine zw_ld (n := 1) (k := 0) (f := zp_isR) (pc' := 182) rfl rfl (zw_gt l0 rfl rfl) rfl rfl ?_
    refine zw_gR (q := 72) (pc' := 185) WM rfl rfl rfl rfl (WM.2 72 52 _ rfl) rfl ?_
    refine zw_ld (n := 1) (k := 2) (f := zp_isI) (pc' := 186) rfl rfl zw_g1 rfl rfl ?_
    refine zw_ia (q := 83) (pc' := 187) WM rfl rfl (by decide) (⟨k7, by show _ < ((64 : Nat) : Int); omega⟩) rfl rfl ?_
    refine zw_s (pc' := 188) rfl rfl ?_
    refine zw_beq2 (g := 196) (pc' := 191) rfl rfl rfl rfl (rfl : _ = (-1 : Int)) (fun hb => ?_) (fun hb => ?_)
    · have ht : dd.2.2 v.toInt.toNat = false := r83.mp hb
      obtain ⟨K, q1, q2, q3, q4⟩ := yp_go (L := L) (σ := σ) (d := d + 6) hby n2 hP3
      have WK := zR_Wd (zR_dn q2)
      refine zw_ld (n := 1) (k := 0) (f := zp_isR) (pc' := 197) rfl rfl (zw_gt l0 rfl rfl) rfl rfl ?_
      refine zw_c (pc' := 200) (zw_cv (q := 72) (Y := zm_175) WM.1 rfl rfl zm_175_t rfl rfl) rfl rfl rfl rfl rfl (zq_good1 WM g) ?_
      refine zw_beq1 (g := 207) (pc' := 203) rfl rfl rfl (rfl : _ = (1 : Int)) (fun h9 => absurd h9 (by decide)) (fun hb => ?_)
      refine zw_ld (n := 1) (k := 0) (f := zp_isR) (pc' := 204) rfl rfl (zw_gt l0 rfl rfl) rfl rfl ?_
      refine zw_cn (pc' := 207) (zw_cv (q := 72) (Y := zm_171) WM.1 rfl rfl zm_171_t rfl rfl) rfl rfl rfl rfl rfl (q1) ?_
      refine yx_l207 hK hby q2 (Or.inl ⟨(zx_fe q3 23 rfl rfl rfl).trans g, _, q4, yR2_t hR3 (yR2_s ?_)⟩) (yDr_m q3 DM) (yXr_F q3 rfl XM) ⟨k7, k8⟩ (fun _ => ht) (zw_gt l0 rfl rfl) zw_g1
      rw [yN2_6, eN]
      show (if dd.2.2 (dd.1 1 * ys_vl T n q + x).toNat = true then _ else _) = _
      rw [← k6, if_neg (by rw [ht]; decide)]
    · have ht : dd.2.2 v.toInt.toNat = true := by
        cases h9 : dd.2.2 v.toInt.toNat with
        | true => rfl
        | false => exact absurd (r83.mpr h9) hb
      obtain ⟨H1, c1, c2, c3, c4, c5⟩ := yp_wr (L := L) (σ := σ) (d := d + 7) (y := Int32.ofInt 4) n2 g hP3 (by decide)
      have W1 := zR_Wd (zR_dn c2)
      refine zw_ld (n := 1) (k := 0) (f := zp_isR) (pc' := 192) rfl rfl (zw_gt l0 rfl rfl) rfl rfl ?_
      refine zw_s (pc' := 193) rfl rfl ?_
      refine zw_cn (pc' := 196) (zw_cv (q := 72) (Y := zm_180) WM.1 rfl rfl zm_180_t rfl rfl) rfl rfl rfl rfl rfl (c1) ?_
      refine zw_ld (n := 1) (k := 0) (f := zp_isR) (pc' := 197) rfl rfl (zw_gt l0 rfl rfl) rfl rfl ?_
      refine zw_c (pc' := 200) (zw_cv (q := 72) (Y := zm_175) W1.1 rfl rfl zm_175_t rfl rfl) rfl rfl rfl rfl rfl (zq_good0 W1 c3) ?_
      refine zw_beq1 (g := 207) (pc' := 203) rfl rfl rfl (rfl : _ = (0 : Int)) (fun hb => ?_) (fun h9 => absurd h9 (by decide))
      refine yx_l207 hK hby c2 (Or.inr ⟨c3, _, c5, yR2_a hR3 (yA2_done ?_)⟩) (yDr_M c4 DM) (yXr_F c4 rfl XM) ⟨k7, k8⟩ (fun h9 => absurd h9 c3) (zw_gt l0 rfl rfl) zw_g1
      rw [yN2_6, eN]
      show (if dd.2.2 (dd.1 1 * ys_vl T n q + x).toNat = true then _ else _) = _
      rw [← k6, if_pos ht]
      rfl
  · have WM := zR_Wd (zR_dn n2)
    have DM := yDr_M n3 D0
    have XM := yXr_F n3 rfl X0
    refine zw_c (pc' := 173) (zw_cv (q := 72) (Y := zm_183) W0.1 rfl rfl zm_183_t rfl rfl) rfl rfl rfl rfl rfl (n1) ?_
    refine zw_st (n := 1) (k := 2) (f := zp_isI) (pc' := 174) rfl rfl rfl rfl rfl ?_
    refine zw_ld (n := 1) (k := 0) (f := zp_isR) (pc' := 175) rfl rfl (zw_gt l0 rfl rfl) rfl rfl ?_
    refine zw_c (pc' := 178) (zw_cv (q := 72) (Y := zm_175) WM.1 rfl rfl zm_175_t rfl rfl) rfl rfl rfl rfl rfl (zq_good0 WM b) ?_
    refine zw_beq1 (g := 196) (pc' := 181) rfl rfl rfl (rfl : _ = (0 : Int)) (fun hb => ?_) (fun h9 => absurd h9 (by decide))
    refine zw_ld (n := 1) (k := 0) (f := zp_isR) (pc' := 197) rfl rfl (zw_gt l0 rfl rfl) rfl rfl ?_
    refine zw_c (pc' := 200) (zw_cv (q := 72) (Y := zm_175) WM.1 rfl rfl zm_175_t rfl rfl) rfl rfl rfl rfl rfl (zq_good0 WM b) ?_
    refine zw_beq1 (g := 207) (pc' := 203) rfl rfl rfl (rfl : _ = (0 : Int)) (fun hb => ?_) (fun h9 => absurd h9 (by decide))
    exact yx_l207 hK hby n2 (Or.inr ⟨b, r, hb1, hb2⟩) DM XM (by decide) (fun h9 => absurd h9 b) (zw_gt l0 rfl rfl) zw_g1

set_option maxHeartbeats 4000000 in
set_option maxRecDepth 8000 in
theorem yx_l16 {L : Nat} {σ : Nat → Int32} {d : Nat} {T : Nat → Int} {n p : Nat} {dd : yLD} {H : zp_H} {lv : zp_LV} (hK : zx_KW L σ) (hby : ∀ k, k < n → -128 ≤ T k ∧ T k ≤ 127) (hB : zk_Bs zR zg zJ H) (hg : (H.2.1 72 23).toInt = 0) (hP : yP T n p H) (hD : yDr dd H) (hX : yXd yRl [] dd H) (ht : (H.2.1 72 45).toInt ≤ zx_phi H) (h16 : zg H = 16) (hk : ys_kd T n p = 3 ∧ ys_vl T n p = 20) (l0 : zp_get lv 0 = some (.inr (.inr (some 73)))) : zs_Safe L σ (yLr T n dd p) zm_176 [] (d + 8) (391, lv, [], H, (0, 0)) := by
  have W := zR_Wd (zR_dn hB)
  have n0 : 0 ≤ (H.2.1 72 41).toInt ∧ (H.2.1 72 41).toInt ≤ 8 := zR_fr1 (zR_dn hB) (k := 41) (r := (0, 8)) rfl rfl
  have t0 : 0 ≤ (H.2.1 72 45).toInt ∧ (H.2.1 72 45).toInt ≤ 1600 := zR_fr1 (zR_dn hB) (k := 45) (r := (0, 1600)) rfl rfl
  have d41 : (H.2.1 72 41).toInt = dd.1 7 := hD.2.2.2.2.2.2.1
  have hs1 := zg_s (H := H) (by omega)
  have ps := zx_phi_s (H := H) (by omega)
  refine zw_ld (n := 1) (k := 0) (f := zp_isR) (pc' := 392) rfl rfl l0 rfl rfl ?_
  refine zw_gI (q := 72) (pc' := 395) W rfl rfl rfl rfl rfl rfl ?_
  refine zw_s (pc' := 397) rfl rfl ?_
  refine zw_bne2 (g := 405) (pc' := 400) rfl rfl rfl rfl (rfl : _ = (8 : Int)) (fun h8 => ?_) (fun h8 => ?_)
  · refine zw_ld (n := 1) (k := 0) (f := zp_isR) (pc' := 406) rfl rfl l0 rfl rfl ?_
    refine zw_c (pc' := 409) (zw_cv (q := 72) (Y := zm_175) W.1 rfl rfl zm_175_t rfl rfl) rfl rfl rfl rfl rfl (zq_good1 W hg) ?_
    refine zw_bne1 (g := 413) (pc' := 412) rfl rfl rfl (rfl : _ = (1 : Int)) (fun hb => ?_) (fun h9 => absurd h9 (by decide))
    obtain ⟨K0, g1, g2, g3, g4⟩ := yp_go (L := L) (σ := σ) (d := d + 6) hby hB hP
    have W0 := zR_Wd (zR_dn g2)
    have D0 := yDr_m g3 hD
    have X0 := yXr_F g3 rfl hX
    have S0 : yS T n (0, [], 0, 0, 0, dd, p) (fun q => (102, [false], 0, 0, 0, dd, q)) K0 := Or.inl ⟨(zx_fe g3 23 rfl rfl rfl).trans hg, _, g4, yR2_s (yN2_0.trans ((y0w_20 hk).trans (if_pos (by omega))))⟩
    refine zw_ld (n := 1) (k := 0) (f := zp_isR) (pc' := 414) rfl rfl l0 rfl rfl ?_
    refine zw_cn (pc' := 417) (zw_cv (q := 72) (Y := zm_171) W.1 rfl rfl zm_171_t rfl rfl) rfl rfl rfl rfl rfl (g1) ?_
    obtain ⟨K1, x1, _, _, x4, _⟩ := zx_goes (L := L) (σ := σ) (d := d + 6) hB
    have eK : K1 = K0 := by
      have e := zp_Call_u x1 g1
      cases e
      rfl
    rw [eK] at x4
    have f41 : (K0.2.1 72 41).toInt = dd.1 7 := D0.2.2.2.2.2.2.1
    have f45 := zx_fe g3 45 rfl rfl rfl
    have hR2 : yR2 T n (0, [], 0, 0, 0, dd, p) (102, [false], 0, 0, 0, dd, ys_nx T n p) := yR2_s (yN2_0.trans ((y0w_20 hk).trans (if_pos (by omega))))
    have b1 : zk_Bs zR zg zJ (zw_I K0 88 (K0.2.1 72 41).toInt.toNat (zp_nar 0 (K0.2.1 72 45))) := yB_a (x := K0.2.1 72 45) g2 (t := 0) (m := 8) rfl (fun r hr => by
      have hr : [((0 : Int), (1600 : Int))][(K0.2.1 72 41).toInt.toNat % 1]? = some r := hr
      rw [Nat.mod_one] at hr
      cases hr
      exact ⟨by show (0 : Int) ≤ _; omega, by show _ ≤ (1600 : Int); omega⟩) rfl (by decide)
    have D1 := yDr_a (p := 88) (k := (K0.2.1 72 41).toInt.toNat) (x := zp_nar 0 (K0.2.1 72 45)) (by decide) D0
    have X1 := yXr_o (p := 88) (k := (K0.2.1 72 41).toInt.toNat) (x := zp_nar 0 (K0.2.1 72 45)) (by unfold yNr; omega) X0
    have P1 : yP T n (ys_nx T n p) (zw_I K0 88 (K0.2.1 72 41).toInt.toNat (zp_nar 0 (K0.2.1 72 45))) := yP_c (H := K0) (fun j hj => y_ne (fun h9 => absurd h9.1 (by decide))) (funext (fun j => y_ne (fun h9 => absurd h9.1 (by decide)))) rfl g4
    refine zw_ld (n := 1) (k := 0) (f := zp_isR) (pc' := 418) rfl rfl l0 rfl rfl ?_
    refine zw_gR (q := 72) (pc' := 421) W0 rfl rfl rfl rfl (W0.2 72 57 _ rfl) rfl ?_
    refine zw_ld (n := 1) (k := 0) (f := zp_isR) (pc' := 422) rfl rfl l0 rfl rfl ?_
    refine zw_gI (q := 72) (pc' := 425) W0 rfl rfl rfl rfl rfl rfl ?_
    refine zw_ld (n := 1) (k := 0) (f := zp_isR) (pc' := 426) rfl rfl l0 rfl rfl ?_
    refine zw_gI (q := 72) (pc' := 429) W0 rfl rfl rfl rfl rfl rfl ?_
    refine zw_is (q := 88) (pc' := 430) W0 rfl rfl (by decide) (⟨by omega, by show _ < ((8 : Nat) : Int); omega⟩) rfl ?_
    generalize hH2 : (zw_I K0 88 (K0.2.1 72 41).toInt.toNat (zp_nar 0 (K0.2.1 72 45))) = H2 at b1 D1 X1 P1 ⊢
    have f2 : ∀ k, H2.2.1 72 k = K0.2.1 72 k := fun k => by rw [← hH2]; exact zw_ne rfl rfl
    have W2 := zR_Wd (zR_dn b1)
    have G2 : (H2.2.1 72 23).toInt = 0 := by rw [f2, zx_fe g3 23 rfl rfl rfl]; exact hg
    have ph : zx_phi H2 = zx_phi K0 := zx_phi_e (f2 27) (f2 28)
    have g45 : (H2.2.1 72 45).toInt = (H.2.1 72 45).toInt := by rw [f2, f45]
    obtain ⟨_, x5, H3, rfl, x6, x7, x8, x9⟩ := yx_expr (L := L) (σ := σ) (d := d + 1) hby hK b1 G2 (by omega) P1
    have S3 : yS T n (0, [], 0, 0, 0, dd, p) (fun q => (40, [], 0, 0, 0, dd, q)) H3 := by
      rcases x9 with ⟨g9, lv9, q9, hV9, hA9⟩ | ⟨r9, hD9, hA9⟩
      · exact Or.inl ⟨g9, q9, ⟨hV9.1, hV9.2.1, hV9.2.2.1⟩, yR2_t hR2 (yA_20 hA9)⟩
      · exact Or.inr ⟨by rw [hD9.2.1]; exact hD9.2.2.1, r9, hD9, yR2_a hR2 (yA_2k hA9 hD9.2.2.1)⟩
    have D3 := yDr_F x7.1 rfl (fun _ => rfl) rfl D1
    have X3 := yXr_F x7.1 rfl X1
    have W3 := zR_Wd (zR_dn x6)
    clear x9
    obtain ⟨v3, y1, y2⟩ := hK (d + 4) H3 x6
    refine zw_ld (n := 1) (k := 0) (f := zp_isR) (pc' := 431) rfl rfl l0 rfl rfl ?_
    refine zw_cn (pc' := 434) (zw_cv (q := 72) (Y := zm_192) W2.1 rfl rfl zm_192_t rfl rfl) rfl rfl rfl rfl rfl (x5) ?_
    refine zw_ld (n := 1) (k := 0) (f := zp_isR) (pc' := 435) rfl rfl l0 rfl rfl ?_
    refine zw_ld (n := 1) (k := 0) (f := zp_isR) (pc' := 436) rfl rfl l0 rfl rfl ?_
    refine zw_c (pc' := 439) (zw_cv (q := 72) (Y := zm_177) W3.1 rfl rfl zm_177_t rfl rfl) rfl rfl rfl rfl rfl (y1) ?_
    refine zw_s (pc' := 441) rfl rfl ?_
    refine zw_bne2 (g := 448) (pc' := 444) rfl rfl rfl rfl (rfl : _ = (17 : Int)) (fun h17 => ?_) (fun h17 => ?_)
    · obtain ⟨H4, q1, q2, q3, q4, q5⟩ := yS_need (L := L) (σ := σ) (d := d + 5) (y := Int32.ofInt 0) (s' := fun q => (41, [], 0, 0, 0, dd, q)) hby x6 S3 (fun h9 => absurd rfl h9) (fun _ q _ hP9 => yN2_40.trans (if_neg (fun h9 => h17 (by have := (yr_wd hP9.2.2 hP9.2.1).2.2.2.mpr h9; omega))))
      have W4 := zR_Wd (zR_dn q2)
      have D4 := yDr_M q3 D3
      have X4 := yXr_F q3 rfl X3
      have f4 : (H4.2.1 72 41).toInt = dd.1 7 := D4.2.2.2.2.2.2.1
      obtain ⟨_, w1, v5, H5, rfl, w2, w3, w4, w5, w6, w7, w8⟩ := yS_way (L := L) (σ := σ) (d := d + 3) (s' := fun q => (50, [], 0, 0, 0, yW (yU dd.1 7 (dd.1 7 + 1), dd.2) (700 + (dd.1 7).toNat) (zg H4), q)) hK hby q2 q4 (fun q hP9 => by
        rw [yN2_41]
        by_cases h9 : ys_kd T n q = 3 ∧ ys_vl T n q < 4
        · rw [if_pos h9, if_pos h9, yr_wv hP9 h9]
        · rw [if_neg h9, if_neg h9])
      have W5 := zR_Wd (zR_dn w2)
      have D5 := yDr_M w3 D4
      have f5 : (H5.2.1 72 41).toInt = dd.1 7 := D5.2.2.2.2.2.2.1
      have e41 : (H5.2.1 72 41 + Int32.ofInt 1).toInt = dd.1 7 + 1 := by rw [zw_p1 (by omega), f5]
      have b6 : zk_Bs zR zg zJ (zw_I H5 89 (H4.2.1 72 41).toInt.toNat (zp_nar 0 v5)) := yB_a w2 (t := 0) (m := 8) rfl (fun r hr => y_any hr) rfl (by decide)
      have b7 : zk_Bs zR zg zJ (zw_I (zw_I H5 89 (H4.2.1 72 41).toInt.toNat (zp_nar 0 v5)) 72 41 (H5.2.1 72 41 + Int32.ofInt 1)) := yB_g b6 (fun r hr => by cases hr; exact ⟨by show (0 : Int) ≤ _; omega, by show _ ≤ (8 : Int); omega⟩) rfl rfl (by decide)
      have S7 := yS_f (k := 41) (x := H5.2.1 72 41 + Int32.ofInt 1) (by decide) (yS_a (p := 89) (k := (H4.2.1 72 41).toInt.toNat) (x := zp_nar 0 v5) (by decide) w4)
      have D7 := yDr_41 (x := H5.2.1 72 41 + Int32.ofInt 1) (yDr_a (p := 89) (k := (H4.2.1 72 41).toInt.toNat) (x := zp_nar 0 v5) (by decide) D5) e41
      have X7 : (H5.2.1 72 23).toInt = 0 → yXd yRl [] (yW (yU dd.1 7 (dd.1 7 + 1), dd.2) (700 + (dd.1 7).toNat) (zg H4)) (zw_I (zw_I H5 89 (H4.2.1 72 41).toInt.toNat (zp_nar 0 v5)) 72 41 (H5.2.1 72 41 + Int32.ofInt 1)) := fun h9 => yXr_o (by decide) (yXd_wD (x := zp_nar 0 v5) yRl_inj (by omega) (by rw [yQ_700, f4]) (w8 (w5 h9).1) (yXd_k (by decide) (yXr_F w3 rfl X4)))
      refine zw_s (pc' := 449) rfl rfl ?_
      refine zw_cn (pc' := 452) (zw_cv (q := 72) (Y := zm_186) W3.1 rfl rfl zm_186_t rfl rfl) rfl rfl rfl rfl rfl (q1) ?_
      refine zw_ld (n := 1) (k := 0) (f := zp_isR) (pc' := 453) rfl rfl l0 rfl rfl ?_
      refine zw_gR (q := 72) (pc' := 456) W4 rfl rfl rfl rfl (W4.2 72 58 _ rfl) rfl ?_
      refine zw_ld (n := 1) (k := 0) (f := zp_isR) (pc' := 457) rfl rfl l0 rfl rfl ?_
      refine zw_gI (q := 72) (pc' := 460) W4 rfl rfl rfl rfl rfl rfl ?_
      refine zw_ld (n := 1) (k := 0) (f := zp_isR) (pc' := 461) rfl rfl l0 rfl rfl ?_
      refine zw_c (pc' := 464) (zw_cv (q := 72) (Y := zm_184) W4.1 rfl rfl zm_184_t rfl rfl) rfl rfl rfl rfl rfl (w1) ?_
      refine zw_is (q := 89) (pc' := 465) W5 rfl rfl (by decide) (⟨by omega, by show _ < ((8 : Nat) : Int); omega⟩) rfl ?_
      refine zw_ld (n := 1) (k := 0) (f := zp_isR) (pc' := 466) rfl rfl l0 rfl rfl ?_
      refine zw_s (pc' := 467) rfl rfl ?_
      refine zw_gI (q := 72) (pc' := 470) W5 rfl rfl rfl rfl (zw_ne rfl rfl) rfl ?_
      refine zw_s (pc' := 471) rfl rfl ?_
      refine zw_iadd (pc' := 472) rfl rfl ?_
      refine zw_pI (q := 72) (pc' := 475) W5 rfl rfl rfl rfl rfl rfl ?_
      refine zw_s (pc' := 483) rfl rfl ?_
      exact yx_lE hby b7 S7 (fun h9 => ⟨yDr_W (by omega) D7, X7 h9⟩) l0
    · obtain ⟨H4, q1, q2, q3, q4, q5⟩ := yS_need (L := L) (σ := σ) (d := d + 5) (y := Int32.ofInt 1) (s' := fun q => (41, [], 0, 0, 0, dd, q)) hby x6 S3 (fun _ q hP9 => yN2_40.trans (if_pos ((yr_wd hP9.2.2 hP9.2.1).2.2.2.mp (by omega)))) (fun h9 => absurd h9 (by decide))
      have W4 := zR_Wd (zR_dn q2)
      have D4 := yDr_M q3 D3
      have X4 := yXr_F q3 rfl X3
      have f4 : (H4.2.1 72 41).toInt = dd.1 7 := D4.2.2.2.2.2.2.1
      obtain ⟨_, w1, v5, H5, rfl, w2, w3, w4, w5, w6, w7, w8⟩ := yS_way (L := L) (σ := σ) (d := d + 3) (s' := fun q => (50, [], 0, 0, 0, yW (yU dd.1 7 (dd.1 7 + 1), dd.2) (700 + (dd.1 7).toNat) (zg H4), q)) hK hby q2 q4 (fun q hP9 => by
        rw [yN2_41]
        by_cases h9 : ys_kd T n q = 3 ∧ ys_vl T n q < 4
        · rw [if_pos h9, if_pos h9, yr_wv hP9 h9]
        · rw [if_neg h9, if_neg h9])
      have W5 := zR_Wd (zR_dn w2)
      have D5 := yDr_M w3 D4
      have f5 : (H5.2.1 72 41).toInt = dd.1 7 := D5.2.2.2.2.2.2.1
      have e41 : (H5.2.1 72 41 + Int32.ofInt 1).toInt = dd.1 7 + 1 := by rw [zw_p1 (by omega), f5]
      have b6 : zk_Bs zR zg zJ (zw_I H5 89 (H4.2.1 72 41).toInt.toNat (zp_nar 0 v5)) := yB_a w2 (t := 0) (m := 8) rfl (fun r hr => y_any hr) rfl (by decide)
      have b7 : zk_Bs zR zg zJ (zw_I (zw_I H5 89 (H4.2.1 72 41).toInt.toNat (zp_nar 0 v5)) 72 41 (H5.2.1 72 41 + Int32.ofInt 1)) := yB_g b6 (fun r hr => by cases hr; exact ⟨by show (0 : Int) ≤ _; omega, by show _ ≤ (8 : Int); omega⟩) rfl rfl (by decide)
      have S7 := yS_f (k := 41) (x := H5.2.1 72 41 + Int32.ofInt 1) (by decide) (yS_a (p := 89) (k := (H4.2.1 72 41).toInt.toNat) (x := zp_nar 0 v5) (by decide) w4)
      have D7 := yDr_41 (x := H5.2.1 72 41 + Int32.ofInt 1) (yDr_a (p := 89) (k := (H4.2.1 72 41).toInt.toNat) (x := zp_nar 0 v5) (by decide) D5) e41
      have X7 : (H5.2.1 72 23).toInt = 0 → yXd yRl [] (yW (yU dd.1 7 (dd.1 7 + 1), dd.2) (700 + (dd.1 7).toNat) (zg H4)) (zw_I (zw_I H5 89 (H4.2.1 72 41).toInt.toNat (zp_nar 0 v5)) 72 41 (H5.2.1 72 41 + Int32.ofInt 1)) := fun h9 => yXr_o (by decide) (yXd_wD (x := zp_nar 0 v5) yRl_inj (by omega) (by rw [yQ_700, f4]) (w8 (w5 h9).1) (yXd_k (by decide) (yXr_F w3 rfl X4)))
      refine zw_s (pc' := 445) rfl rfl ?_
      refine zw_s (pc' := 449) rfl rfl ?_
      refine zw_cn (pc' := 452) (zw_cv (q := 72) (Y := zm_186) W3.1 rfl rfl zm_186_t rfl rfl) rfl rfl rfl rfl rfl (q1) ?_
      refine zw_ld (n := 1) (k := 0) (f := zp_isR) (pc' := 453) rfl rfl l0 rfl rfl ?_
      refine zw_gR (q := 72) (pc' := 456) W4 rfl rfl rfl rfl (W4.2 72 58 _ rfl) rfl ?_
      refine zw_ld (n := 1) (k := 0) (f := zp_isR) (pc' := 457) rfl rfl l0 rfl rfl ?_
      refine zw_gI (q := 72) (pc' := 460) W4 rfl rfl rfl rfl rfl rfl ?_
      refine zw_ld (n := 1) (k := 0) (f := zp_isR) (pc' := 461) rfl rfl l0 rfl rfl ?_
      refine zw_c (pc' := 464) (zw_cv (q := 72) (Y := zm_184) W4.1 rfl rfl zm_184_t rfl rfl) rfl rfl rfl rfl rfl (w1) ?_
      refine zw_is (q := 89) (pc' := 465) W5 rfl rfl (by decide) (⟨by omega, by show _ < ((8 : Nat) : Int); omega⟩) rfl ?_
      refine zw_ld (n := 1) (k := 0) (f := zp_isR) (pc' := 466) rfl rfl l0 rfl rfl ?_
      refine zw_s (pc' := 467) rfl rfl ?_
      refine zw_gI (q := 72) (pc' := 470) W5 rfl rfl rfl rfl (zw_ne rfl rfl) rfl ?_
      refine zw_s (pc' := 471) rfl rfl ?_
      refine zw_iadd (pc' := 472) rfl rfl ?_
      refine zw_pI (q := 72) (pc' := 475) W5 rfl rfl rfl rfl rfl rfl ?_
      refine zw_s (pc' := 483) rfl rfl ?_
      exact yx_lE hby b7 S7 (fun h9 => ⟨yDr_W (by omega) D7, X7 h9⟩) l0
  · obtain ⟨H1, c1, c2, c3, c4, c5⟩ := yp_wr (L := L) (σ := σ) (d := d + 7) (y := Int32.ofInt 2) hB hg hP (by decide)
    have W1 := zR_Wd (zR_dn c2)
    refine zw_ld (n := 1) (k := 0) (f := zp_isR) (pc' := 401) rfl rfl l0 rfl rfl ?_
    refine zw_s (pc' := 402) rfl rfl ?_
    refine zw_cn (pc' := 405) (zw_cv (q := 72) (Y := zm_180) W.1 rfl rfl zm_180_t rfl rfl) rfl rfl rfl rfl rfl (c1) ?_
    refine zw_ld (n := 1) (k := 0) (f := zp_isR) (pc' := 406) rfl rfl l0 rfl rfl ?_
    refine zw_c (pc' := 409) (zw_cv (q := 72) (Y := zm_175) W1.1 rfl rfl zm_175_t rfl rfl) rfl rfl rfl rfl rfl (zq_good0 W1 c3) ?_
    refine zw_bne1 (g := 413) (pc' := 412) rfl rfl rfl (rfl : _ = (0 : Int)) (fun h9 => absurd h9 (by decide)) (fun hb => ?_)
    refine zw_rn rfl rfl ?_
    exact yLr_b c2 c3 c5 (yA2_done (yN2_0.trans ((y0w_20 hk).trans (if_neg (by omega)))))

set_option maxHeartbeats 4000000 in
set_option maxRecDepth 8000 in
theorem yx_lN {L : Nat} {σ : Nat → Int32} {d : Nat} {T : Nat → Int} {n p : Nat} {dd : yLD} {H : zp_H} {lv : zp_LV} (hby : ∀ k, k < n → -128 ≤ T k ∧ T k ≤ 127) (hB : zk_Bs zR zg zJ H) (hg : (H.2.1 72 23).toInt = 0) (hP : yP T n p H) (hD : yDr dd H) (hX : yXd yRl [] dd H) (h0 : ys_kd T n p ≠ 0) (hno : ¬ (ys_kd T n p = 3 ∧ 12 ≤ ys_vl T n p ∧ ys_vl T n p ≤ 20)) (l0 : zp_get lv 0 = some (.inr (.inr (some 73)))) : zs_Safe L σ (yLr T n dd p) zm_176 [] (d + 8) (478, lv, [], H, (0, 0)) := by
  have W := zR_Wd (zR_dn hB)
  obtain ⟨H1, c1, c2, c3, c4, c5⟩ := yp_wr (L := L) (σ := σ) (d := d + 7) (y := Int32.ofInt 1) hB hg hP (by decide)
  refine zw_ld (n := 1) (k := 0) (f := zp_isR) (pc' := 479) rfl rfl l0 rfl rfl ?_
  refine zw_s (pc' := 480) rfl rfl ?_
  refine zw_cn (pc' := 483) (zw_cv (q := 72) (Y := zm_180) W.1 rfl rfl zm_180_t rfl rfl) rfl rfl rfl rfl rfl (c1) ?_
  exact yx_lE (d' := dd) hby c2 (Or.inr ⟨c3, _, c5, yA2_done (yN2_0.trans (y0w_no h0 hno))⟩) (fun h9 => absurd h9 c3) l0

set_option maxHeartbeats 4000000 in
set_option maxRecDepth 8000 in
theorem yx_line {L : Nat} {σ : Nat → Int32} {d : Nat} {T : Nat → Int} {n p : Nat} {dd : yLD} {H : zp_H} (hK : zx_KW L σ) (hby : ∀ k, k < n → -128 ≤ T k ∧ T k ≤ 127) (hB : zk_Bs zR zg zJ H) (hg : (H.2.1 72 23).toInt = 0) (hP : yP T n p H) (hD : yDr dd H) (hX : yXd yRl [] dd H) (hf0 : (H.2.1 72 50).toInt = dd.1 0) (h0 : ys_kd T n p ≠ 0) (ht : (H.2.1 72 45).toInt ≤ zx_phi H) : ∃ X, zp_Call L σ (d + 9) 176 [.inr (.inr (some 73))] H X ∧ yLr T n dd p X := by
  have W := zR_Wd (zR_dn hB)
  obtain ⟨v, v1, v2⟩ := hK (d + 4) H hB
  refine zw_met zm_176_t rfl rfl ?_
  refine zw_ld (n := 1) (k := 0) (f := zp_isR) (pc' := 1) rfl rfl rfl rfl rfl ?_
  refine zw_c (pc' := 4) (zw_cv (q := 72) (Y := zm_177) W.1 rfl rfl zm_177_t rfl rfl) rfl rfl rfl rfl rfl (v1) ?_
  refine zw_st (n := 1) (k := 1) (f := zp_isI) (pc' := 5) rfl rfl rfl rfl rfl ?_
  refine zw_ld (n := 1) (k := 1) (f := zp_isI) (pc' := 6) rfl rfl zw_g1 rfl rfl ?_
  refine zw_s (pc' := 8) rfl rfl ?_
  refine zw_bne2 (g := 60) (pc' := 11) rfl rfl rfl rfl (rfl : _ = (8 : Int)) (fun hv8 => ?_) (fun hv8 => ?_)
  · refine zw_ld (n := 1) (k := 1) (f := zp_isI) (pc' := 61) rfl rfl zw_g1 rfl rfl ?_
    refine zw_s (pc' := 63) rfl rfl ?_
    refine zw_bne2 (g := 159) (pc' := 66) rfl rfl rfl rfl (rfl : _ = (9 : Int)) (fun hv9 => ?_) (fun hv9 => ?_)
    · refine zw_ld (n := 1) (k := 1) (f := zp_isI) (pc' := 160) rfl rfl zw_g1 rfl rfl ?_
      refine zw_s (pc' := 162) rfl rfl ?_
      refine zw_bne2 (g := 240) (pc' := 165) rfl rfl rfl rfl (rfl : _ = (10 : Int)) (fun hv10 => ?_) (fun hv10 => ?_)
      · refine zw_ld (n := 1) (k := 1) (f := zp_isI) (pc' := 241) rfl rfl zw_g1 rfl rfl ?_
        refine zw_s (pc' := 243) rfl rfl ?_
        refine zw_bne2 (g := 253) (pc' := 246) rfl rfl rfl rfl (rfl : _ = (11 : Int)) (fun hv11 => ?_) (fun hv11 => ?_)
        · refine zw_ld (n := 1) (k := 1) (f := zp_isI) (pc' := 254) rfl rfl zw_g1 rfl rfl ?_
          refine zw_s (pc' := 256) rfl rfl ?_
          refine zw_bne2 (g := 266) (pc' := 259) rfl rfl rfl rfl (rfl : _ = (12 : Int)) (fun hv12 => ?_) (fun hv12 => ?_)
          · refine zw_ld (n := 1) (k := 1) (f := zp_isI) (pc' := 267) rfl rfl zw_g1 rfl rfl ?_
            refine zw_s (pc' := 269) rfl rfl ?_
            refine zw_bne2 (g := 323) (pc' := 272) rfl rfl rfl rfl (rfl : _ = (13 : Int)) (fun hv13 => ?_) (fun hv13 => ?_)
            · refine zw_ld (n := 1) (k := 1) (f := zp_isI) (pc' := 324) rfl rfl zw_g1 rfl rfl ?_
              refine zw_s (pc' := 326) rfl rfl ?_
              refine zw_bne2 (g := 372) (pc' := 329) rfl rfl rfl rfl (rfl : _ = (14 : Int)) (fun hv14 => ?_) (fun hv14 => ?_)
              · refine zw_ld (n := 1) (k := 1) (f := zp_isI) (pc' := 373) rfl rfl zw_g1 rfl rfl ?_
                refine zw_s (pc' := 375) rfl rfl ?_
                refine zw_bne2 (g := 385) (pc' := 378) rfl rfl rfl rfl (rfl : _ = (15 : Int)) (fun hv15 => ?_) (fun hv15 => ?_)
                · refine zw_ld (n := 1) (k := 1) (f := zp_isI) (pc' := 386) rfl rfl zw_g1 rfl rfl ?_
                  refine zw_s (pc' := 388) rfl rfl ?_
                  refine zw_bne2 (g := 478) (pc' := 391) rfl rfl rfl rfl (rfl : _ = (16 : Int)) (fun hv16 => ?_) (fun hv16 => ?_)
                  · refine yx_lN (d := d) hby hB hg hP hD hX h0 (fun h9 => ?_) (zw_gt rfl rfl rfl)
                    have := (yr_hd hP (k := ys_vl T n p - 4) (by omega)).mpr ⟨h9.1, by omega⟩
                    omega
                  · exact yx_l16 (d := d) hK hby hB hg hP hD hX ht (by omega) ((yr_hd hP (k := 16) (by decide)).mp (by omega)) (zw_gt rfl rfl rfl)
                · exact yx_l15 (d := d) hK hby hB hg hP hD hX ((yr_hd hP (k := 15) (by decide)).mp (by omega)) (zw_gt rfl rfl rfl)
              · exact yx_l14 (d := d) hby hB hg hP hD hX ((yr_hd hP (k := 14) (by decide)).mp (by omega)) (zw_gt rfl rfl rfl)
            · exact yx_l13 (d := d) hby hB hg hP hD hX ((yr_hd hP (k := 13) (by decide)).mp (by omega)) (zw_gt rfl rfl rfl)
          · exact yx_l12 (d := d) hK hby hB hg hP hD hX ((yr_hd hP (k := 12) (by decide)).mp (by omega)) (zw_gt rfl rfl rfl)
        · exact yx_l11 (d := d) hK hby hB hg hP hD hX ((yr_hd hP (k := 11) (by decide)).mp (by omega)) (zw_gt rfl rfl rfl)
      · exact yx_l10 (d := d) hK hby hB hg hP hD hX ((yr_hd hP (k := 10) (by decide)).mp (by omega)) (zw_gt rfl rfl rfl)
    · exact yx_l9 (d := d) hby hB hg hP hD hX ((yr_hd hP (k := 9) (by decide)).mp (by omega)) (zw_gt rfl rfl rfl)
  · exact yx_l8 (d := d) hby hB hg hP hD hX hf0 ((yr_hd hP (k := 8) (by decide)).mp (by omega)) (zw_gt rfl rfl rfl)
