section
/-! ===== the reference: a line ===== -/

set_option maxRecDepth 8000 in
theorem yB_J {x : Int64} {H : zp_H} (hB : zk_Bs zR zg zJ H) : zk_Bs zR zg zJ (zw_J H 72 51 x) := by
  have t := zT_J2 (k := 51) (x := x) (zR_T hB)
  exact zR_up ⟨t.1, t.2.1, t.2.2.1, t.2.2.2.1, t.2.2.2.2.1, t.2.2.2.2.2.1, t.2.2.2.2.2.2.1, hB.2.2.2.2.2.2.2⟩ (zR_cn (H := H) hB)
theorem yDr_r {d : yLD} {u : Int64} {x : Int32} {H : zp_H} (h : yDr d H) (hx : x.toInt = d.1 3 + 1) (h20 : d.1 3 < 20) : yDr (yU d.1 3 (d.1 3 + 1), u, d.2.2) (zw_I (zw_J H 72 51 u) 72 36 x) := by
  obtain ⟨a0, a1, a2, a3, a4, a5, a6, a7, a8, a9, a11, a12, a13⟩ := h
  exact ⟨a0, a1, hx, a3, a4, a5, a6, a7, a8, rfl, a11, (by show 0 ≤ d.1 3 + 1; omega), (by show d.1 3 + 1 ≤ 20; omega)⟩
theorem yDr_83 {d : yLD} {c : Int} {x : Int32} {H : zp_H} (h : yDr d H) (hx : x.toInt ≠ -1) (hc : 0 ≤ c) : yDr (d.1, d.2.1, yUb d.2.2 c) (zw_I H 83 c.toNat x) := by
  obtain ⟨a0, a1, a2, a3, a4, a5, a6, a7, a8, a9, a11, a12, a13⟩ := h
  refine ⟨a0, a1, a2, a3, a4, a5, a6, a7, a8, a9, fun j hj => ?_, a12, a13⟩
  show ((zw_I H 83 c.toNat x).2.1 83 j).toInt = -1 ↔ yUb d.2.2 c j = false
  unfold yUb
  by_cases h9 : j = c.toNat
  · rw [h9, show (zw_I H 83 c.toNat x).2.1 83 c.toNat = x from zw_eq, if_pos (by omega)]
    exact ⟨fun h8 => absurd h8 hx, fun h8 => by cases h8⟩
  · rw [y_ne (fun h8 => h9 h8.2), if_neg (by omega)]
    exact a11 j hj
theorem yP_c {T : Nat → Int} {n q : Nat} {H H1 : zp_H} (e : ∀ k, (23 ≤ k ∧ k ≤ 32) → H1.2.1 72 k = H.2.1 72 k) (e1 : H1.2.1 81 = H.2.1 81) (e2 : H1.2.2.1 72 33 = H.2.2.1 72 33) (h : yP T n q H) : yP T n q H1 := ⟨yr_T_c (e 26 (by decide)) e1 (e 23 (by decide)) (e 24 (by decide)) h.1, yr_k_c (fun k hk => e k (by omega)) e2 h.2.1, h.2.2⟩

set_option maxHeartbeats 4000000 in
set_option maxRecDepth 8000 in
theorem yx_l9 {L : Nat} {σ : Nat → Int32} {d : Nat} {T : Nat → Int} {n p : Nat} {dd : yLD} {H : zp_H} {lv : zp_LV} (hby : ∀ k, k < n → -128 ≤ T k ∧ T k ≤ 127) (hB : zk_Bs zR zg zJ H) (hg : (H.2.1 72 23).toInt = 0) (hP : yP T n p H) (hD : yDr dd H) (hX : yXd yRl [] dd H) (hk : ys_kd T n p = 3 ∧ ys_vl T n p = 13) (l0 : zp_get lv 0 = some (.inr (.inr (some 73)))) : zs_Safe L σ (yLr T n dd p) zm_176 [] (d + 8) (66, lv, [], H, (0, 0)) := by
  have W := zR_Wd (zR_dn hB)
  have d36 : (H.2.1 72 36).toInt = dd.1 3 := hD.2.2.1
  have dm : 0 ≤ dd.1 3 ∧ dd.1 3 ≤ 20 := hD.2.2.2.2.2.2.2.2.2.2.2
  refine zw_ld (n := 1) (k := 0) (f := zp_isR) (pc' := 67) rfl rfl l0 rfl rfl ?_
  refine zw_gI (q := 72) (pc' := 70) W rfl rfl rfl rfl rfl rfl ?_
  refine zw_s (pc' := 72) rfl rfl ?_
  refine zw_bne2 (g := 80) (pc' := 75) rfl rfl rfl rfl (rfl : _ = (20 : Int)) (fun h20 => ?_) (fun h20 => ?_)
  · refine zw_ld (n := 1) (k := 0) (f := zp_isR) (pc' := 81) rfl rfl l0 rfl rfl ?_
    refine zw_c (pc' := 84) (zw_cv (q := 72) (Y := zm_175) W.1 rfl rfl zm_175_t rfl rfl) rfl rfl rfl rfl rfl (zq_good1 W hg) ?_
    refine zw_bne1 (g := 88) (pc' := 87) rfl rfl rfl (rfl : _ = (1 : Int)) (fun hb => ?_) (fun h9 => absurd h9 (by decide))
    obtain ⟨K0, g1, g2, g3, g4⟩ := yp_go (L := L) (σ := σ) (d := d + 6) hby hB hP
    have W0 := zR_Wd (zR_dn g2)
    have D0 := yDr_m g3 hD
    have X0 := yXr_F g3 rfl hX
    have S0 : yS T n (0, [], 0, 0, 0, dd, p) (fun q => (3, [], 0, 0, 0, dd, q)) K0 := Or.inl ⟨(zx_fe g3 23 rfl rfl rfl).trans hg, _, g4, yR2_s (yN2_0.trans ((y0w_13 hk).trans (if_pos (by omega))))⟩
    refine zw_ld (n := 1) (k := 0) (f := zp_isR) (pc' := 89) rfl rfl l0 rfl rfl ?_
    refine zw_cn (pc' := 92) (zw_cv (q := 72) (Y := zm_171) W.1 rfl rfl zm_171_t rfl rfl) rfl rfl rfl rfl rfl (g1) ?_
    refine zw_ld (n := 1) (k := 0) (f := zp_isR) (pc' := 93) rfl rfl l0 rfl rfl ?_
    obtain ⟨_, n1, v, M, rfl, n2, n3, ⟨g, g0, q, x, hP3, hR3, k1, k2, k3, k4, k5, k6, k7, k8⟩ | ⟨b, rfl, r, hb1, hb2⟩⟩ := yS_ch (L := L) (σ := σ) (d := d + 4) (w := dd.1 1) (hh := dd.1 2) (s1 := fun x q => (4, [], x, 0, 0, dd, q)) hby g2 S0 D0.1 D0.2.1 (fun q => yN2_3) (fun x q r h9 => by rw [yN2_4, h9 _])
    · have WM := zR_Wd (zR_dn n2)
      have DM := yDr_M n3 D0
      have r51 : M.2.2.1 72 51 = dd.2.1 := DM.2.2.2.2.2.2.2.2.2.1
      have f36 : (M.2.1 72 36).toInt = dd.1 3 := DM.2.2.1
      have eN : ∀ ok : Int → yL, yNu T n q 0 (dd.1 2 - 1) ok = .inl (ok (ys_vl T n q)) := fun ok => by
        unfold yNu
        rw [if_pos k1, if_pos ⟨k2, k3⟩]
      refine zw_c (pc' := 96) (zw_cv (q := 72) (Y := zm_183) W0.1 rfl rfl zm_183_t rfl rfl) rfl rfl rfl rfl rfl (n1) ?_
      refine zw_st (n := 1) (k := 2) (f := zp_isI) (pc' := 97) rfl rfl rfl rfl rfl ?_
      refine zw_ld (n := 1) (k := 0) (f := zp_isR) (pc' := 98) rfl rfl (zw_gt l0 rfl rfl) rfl rfl ?_
      refine zw_c (pc' := 101) (zw_cv (q := 72) (Y := zm_175) WM.1 rfl rfl zm_175_t rfl rfl) rfl rfl rfl rfl rfl (zq_good1 WM g) ?_
      refine zw_beq1 (g := 122) (pc' := 104) rfl rfl rfl (rfl : _ = (1 : Int)) (fun h9 => absurd h9 (by decide)) (fun hb => ?_)
      refine zw_ld (n := 1) (k := 0) (f := zp_isR) (pc' := 105) rfl rfl (zw_gt l0 rfl rfl) rfl rfl ?_
      refine zw_gL (q := 72) (pc' := 108) WM rfl rfl rfl rfl rfl ?_
      refine zw_ld (n := 1) (k := 2) (f := zp_isI) (pc' := 109) rfl rfl zw_g1 rfl rfl ?_
      refine zw_lshr (pc' := 110) rfl rfl ?_
      refine zw_s (pc' := 111) rfl rfl ?_
      refine zw_land (pc' := 112) rfl rfl ?_
      refine zw_s (pc' := 113) rfl rfl ?_
      refine zw_s (pc' := 114) rfl rfl ?_
      refine zw_bne1 (g := 122) (pc' := 117) rfl rfl rfl rfl (fun hb => ?_) (fun hb => ?_)
      · have hfree : dd.2.1 &&& yBit v.toInt = 0 := by
          rw [← r51]
          exact Decidable.byContradiction (fun h9 => hb (y_cmp.mpr ((y_shr (r := M.2.2.1 72 51) ⟨k7, k8⟩).mpr h9)))
        have e1 : (M.2.1 72 36 + Int32.ofInt 1).toInt = dd.1 3 + 1 := by rw [zw_p1 (by omega), f36]
        have eu : (M.2.2.1 72 51 ||| za_shl0 (Int64.ofNat 1) v) = dd.2.1 ||| yBit v.toInt := by
          unfold yBit
          rw [Int32.ofInt_toInt, r51]
        have b2 : zk_Bs zR zg zJ (zw_I (zw_J M 72 51 (M.2.2.1 72 51 ||| za_shl0 (Int64.ofNat 1) v)) 72 36 (M.2.1 72 36 + Int32.ofInt 1)) := yB_g (yB_J n2) (fun r hr => by cases hr) rfl rfl (by decide)
        have D2 := yDr_r (u := (M.2.2.1 72 51 ||| za_shl0 (Int64.ofNat 1) v)) (x := M.2.1 72 36 + Int32.ofInt 1) DM e1 (by omega)
        have XM9 : yXd yRl [] dd M := yXr_F n3 rfl X0
        have X2 : yXd yRl [] (yU dd.1 3 (dd.1 3 + 1), (M.2.2.1 72 51 ||| za_shl0 (Int64.ofNat 1) v), dd.2.2) (zw_I (zw_J M 72 51 (M.2.2.1 72 51 ||| za_shl0 (Int64.ofNat 1) v)) 72 36 (M.2.1 72 36 + Int32.ofInt 1)) := yXd_k (d := (dd.1, (M.2.2.1 72 51 ||| za_shl0 (Int64.ofNat 1) v), dd.2.2)) (k := 3) (v := dd.1 3 + 1) (by decide) (yXr_o (p := 72) (k := 36) (H := zw_J M 72 51 (M.2.2.1 72 51 ||| za_shl0 (Int64.ofNat 1) v)) (by decide) (fun i i1 i2 i3 => XM9 i i1 i2 i3))
        have P2 : yP T n q (zw_I (zw_J M 72 51 (M.2.2.1 72 51 ||| za_shl0 (Int64.ofNat 1) v)) 72 36 (M.2.1 72 36 + Int32.ofInt 1)) := yP_c (H := M) (fun j hj => (y_ne (fun h9 => by have := h9.2; omega)).trans rfl) (funext (fun j => (y_ne (fun h9 => absurd h9.1 (by decide))).trans rfl)) rfl hP3
        have G2 : ((zw_I (zw_J M 72 51 (M.2.2.1 72 51 ||| za_shl0 (Int64.ofNat 1) v)) 72 36 (M.2.1 72 36 + Int32.ofInt 1)).2.1 72 23).toInt = 0 := g
        refine zw_ld (n := 1) (k := 0) (f := zp_isR) (pc' := 123) rfl rfl (zw_gt l0 rfl rfl) rfl rfl ?_
        refine zw_c (pc' := 126) (zw_cv (q := 72) (Y := zm_175) WM.1 rfl rfl zm_175_t rfl rfl) rfl rfl rfl rfl rfl (zq_good1 WM g) ?_
        refine zw_bne1 (g := 130) (pc' := 129) rfl rfl rfl (rfl : _ = (1 : Int)) (fun hb => ?_) (fun h9 => absurd h9 (by decide))
        refine zw_ld (n := 1) (k := 0) (f := zp_isR) (pc' := 131) rfl rfl (zw_gt l0 rfl rfl) rfl rfl ?_
        refine zw_s (pc' := 132) rfl rfl ?_
        refine zw_gL (q := 72) (pc' := 135) WM rfl rfl rfl rfl rfl ?_
        refine zw_s (pc' := 136) rfl rfl ?_
        refine zw_ld (n := 1) (k := 2) (f := zp_isI) (pc' := 137) rfl rfl zw_g1 rfl rfl ?_
        refine zw_lshl (pc' := 138) rfl rfl ?_
        refine zw_lor (pc' := 139) rfl rfl ?_
        refine zw_pL (q := 72) (pc' := 142) WM rfl rfl rfl rfl rfl rfl ?_
        refine zw_ld (n := 1) (k := 0) (f := zp_isR) (pc' := 143) rfl rfl (zw_gt l0 rfl rfl) rfl rfl ?_
        refine zw_s (pc' := 144) rfl rfl ?_
        refine zw_gI (q := 72) (pc' := 147) WM rfl rfl rfl rfl (zw_nj rfl) rfl ?_
        refine zw_s (pc' := 148) rfl rfl ?_
        refine zw_iadd (pc' := 149) rfl rfl ?_
        refine zw_pI (q := 72) (pc' := 152) WM rfl rfl rfl rfl rfl rfl ?_
        change zs_Safe L σ (yLr T n dd p) zm_176 [] (d + 8) (152, _, _, zw_I (zw_J M 72 51 (M.2.2.1 72 51 ||| za_shl0 (Int64.ofNat 1) v)) 72 36 (M.2.1 72 36 + Int32.ofInt 1), _)
        generalize zw_I (zw_J M 72 51 (M.2.2.1 72 51 ||| za_shl0 (Int64.ofNat 1) v)) 72 36 (M.2.1 72 36 + Int32.ofInt 1) = K at b2 D2 X2 P2 G2 ⊢
        have WK := zR_Wd (zR_dn b2)
        obtain ⟨R, q1, q2, q3, q4⟩ := yp_go (L := L) (σ := σ) (d := d + 6) hby b2 P2
        refine zw_ld (n := 1) (k := 0) (f := zp_isR) (pc' := 153) rfl rfl (zw_gt l0 rfl rfl) rfl rfl ?_
        refine zw_cn (pc' := 156) (zw_cv (q := 72) (Y := zm_171) WK.1 rfl rfl zm_171_t rfl rfl) rfl rfl rfl rfl rfl (q1) ?_
        refine zw_s (pc' := 483) rfl rfl ?_
        rw [eu] at D2 X2
        refine yx_lE (d' := (yU dd.1 3 (dd.1 3 + 1), dd.2.1 ||| yBit v.toInt, dd.2.2)) hby q2 (Or.inl ⟨(zx_fe q3 23 rfl rfl rfl).trans G2, _, q4, yR2_t hR3 (yR2_s ?_)⟩) (fun _ => ⟨yDr_m q3 D2, yXr_F q3 rfl X2⟩) (zw_gt l0 rfl rfl)
        rw [yN2_4, eN]
        show (if dd.2.1 &&& yBit (dd.1 1 * ys_vl T n q + x) = 0 then _ else _) = _
        rw [← k6, if_pos hfree]
      · have hbit := (y_shr (r := M.2.2.1 72 51) ⟨k7, k8⟩).mp (y_cmp.mp hb)
        obtain ⟨H1, c1, c2, c3, c4, c5⟩ := yp_wr (L := L) (σ := σ) (d := d + 7) (y := Int32.ofInt 4) n2 g hP3 (by decide)
        have W1 := zR_Wd (zR_dn c2)
        refine zw_ld (n := 1) (k := 0) (f := zp_isR) (pc' := 118) rfl rfl (zw_gt l0 rfl rfl) rfl rfl ?_
        refine zw_s (pc' := 119) rfl rfl ?_
        refine zw_cn (pc' := 122) (zw_cv (q := 72) (Y := zm_180) WM.1 rfl rfl zm_180_t rfl rfl) rfl rfl rfl rfl rfl (c1) ?_
        refine zw_ld (n := 1) (k := 0) (f := zp_isR) (pc' := 123) rfl rfl (zw_gt l0 rfl rfl) rfl rfl ?_
        refine zw_c (pc' := 126) (zw_cv (q := 72) (Y := zm_175) W1.1 rfl rfl zm_175_t rfl rfl) rfl rfl rfl rfl rfl (zq_good0 W1 c3) ?_
        refine zw_bne1 (g := 130) (pc' := 129) rfl rfl rfl (rfl : _ = (0 : Int)) (fun h9 => absurd h9 (by decide)) (fun hb => ?_)
        refine zw_rn rfl rfl ?_
        refine yLr_b c2 c3 c5 (yR2_a hR3 (yA2_done ?_))
        rw [yN2_4, eN]
        show (if dd.2.1 &&& yBit (dd.1 1 * ys_vl T n q + x) = 0 then _ else _) = _
        rw [if_neg (by rw [← k6, ← r51]; exact hbit)]
        rfl
    · have WM := zR_Wd (zR_dn n2)
      refine zw_c (pc' := 96) (zw_cv (q := 72) (Y := zm_183) W0.1 rfl rfl zm_183_t rfl rfl) rfl rfl rfl rfl rfl (n1) ?_
      refine zw_st (n := 1) (k := 2) (f := zp_isI) (pc' := 97) rfl rfl rfl rfl rfl ?_
      refine zw_ld (n := 1) (k := 0) (f := zp_isR) (pc' := 98) rfl rfl (zw_gt l0 rfl rfl) rfl rfl ?_
      refine zw_c (pc' := 101) (zw_cv (q := 72) (Y := zm_175) WM.1 rfl rfl zm_175_t rfl rfl) rfl rfl rfl rfl rfl (zq_good0 WM b) ?_
      refine zw_beq1 (g := 122) (pc' := 104) rfl rfl rfl (rfl : _ = (0 : Int)) (fun hb => ?_) (fun h9 => absurd h9 (by decide))
      refine zw_ld (n := 1) (k := 0) (f := zp_isR) (pc' := 123) rfl rfl (zw_gt l0 rfl rfl) rfl rfl ?_
      refine zw_c (pc' := 126) (zw_cv (q := 72) (Y := zm_175) WM.1 rfl rfl zm_175_t rfl rfl) rfl rfl rfl rfl rfl (zq_good0 WM b) ?_
      refine zw_bne1 (g := 130) (pc' := 129) rfl rfl rfl (rfl : _ = (0 : Int)) (fun h9 => absurd h9 (by decide)) (fun hb => ?_)
      refine zw_rn rfl rfl ?_
      exact yLr_b n2 b hb1 hb2
  · obtain ⟨H1, c1, c2, c3, c4, c5⟩ := yp_wr (L := L) (σ := σ) (d := d + 7) (y := Int32.ofInt 2) hB hg hP (by decide)
    have W1 := zR_Wd (zR_dn c2)
    refine zw_ld (n := 1) (k := 0) (f := zp_isR) (pc' := 76) rfl rfl l0 rfl rfl ?_
    refine zw_s (pc' := 77) rfl rfl ?_
    refine zw_cn (pc' := 80) (zw_cv (q := 72) (Y := zm_180) W.1 rfl rfl zm_180_t rfl rfl) rfl rfl rfl rfl rfl (c1) ?_
    refine zw_ld (n := 1) (k := 0) (f := zp_isR) (pc' := 81) rfl rfl l0 rfl rfl ?_
    refine zw_c (pc' := 84) (zw_cv (q := 72) (Y := zm_175) W1.1 rfl rfl zm_175_t rfl rfl) rfl rfl rfl rfl rfl (zq_good0 W1 c3) ?_
    refine zw_bne1 (g := 88) (pc' := 87) rfl rfl rfl (rfl : _ = (0 : Int)) (fun h9 => absurd h9 (by decide)) (fun hb => ?_)
    refine zw_rn rfl rfl ?_
    exact yLr_b c2 c3 c5 (yA2_done (yN2_0.trans ((y0w_13 hk).trans (if_neg (by omega)))))

set_option maxHeartbeats 4000000 in
set_option maxRecDepth 8000 in
theorem yx_l207 {L : Nat} {σ : Nat → Int32} {d : Nat} {T : Nat → Int} {n p : Nat} {dd : yLD} {H : zp_H} {lv : zp_LV} {xc : Int32} (hK : zx_KW L σ) (hby : ∀ k, k < n → -128 ≤ T k ∧ T k ≤ 127) (hB : zk_Bs zR zg zJ H) (hs : yS T n (0, [], 0, 0, 0, dd, p) (fun q => (7, [], xc.toInt, 0, 0, dd, q)) H) (hD : yDr dd H) (hX : yXd yRl [] dd H) (hc : 0 ≤ xc.toInt ∧ xc.toInt ≤ 63) (l0 : zp_get lv 0 = some (.inr (.inr (some 73)))) (l2 : zp_get lv 2 = some (.inl xc)) : zs_Safe L σ (yLr T n dd p) zm_176 [] (d + 8) (207, lv, [], H, (0, 0)) := by
  have W := zR_Wd (zR_dn hB)
  obtain ⟨_, w1, v, M, rfl, w2, w3, w4, w5, w6, w7, w8⟩ := yS_way (L := L) (σ := σ) (d := d + 3) (s' := fun q => (50, [], 0, 0, 0, yWcu dd xc.toInt (zg H), q)) hK hby hB hs (fun q hP9 => by
    rw [yN2_7]
    by_cases h9 : ys_kd T n q = 3 ∧ ys_vl T n q < 4
    · rw [if_pos h9, if_pos h9, yr_wv hP9 h9]
    · rw [if_neg h9, if_neg h9])
  have WM := zR_Wd (zR_dn w2)
  have DM := yDr_M w3 hD
  have XM := yXr_F w3 rfl hX
  refine zw_ld (n := 1) (k := 0) (f := zp_isR) (pc' := 208) rfl rfl l0 rfl rfl ?_
  refine zw_c (pc' := 211) (zw_cv (q := 72) (Y := zm_184) W.1 rfl rfl zm_184_t rfl rfl) rfl rfl rfl rfl rfl (w1) ?_
  refine zw_st (n := 1) (k := 3) (f := zp_isI) (pc' := 212) rfl rfl rfl rfl rfl ?_
  refine zw_ld (n := 1) (k := 0) (f := zp_isR) (pc' := 213) rfl rfl (zw_gt l0 rfl rfl) rfl rfl ?_
  by_cases hg1 : (M.2.1 72 23).toInt = 0
  · refine zw_c (pc' := 216) (zw_cv (q := 72) (Y := zm_175) WM.1 rfl rfl zm_175_t rfl rfl) rfl rfl rfl rfl rfl (zq_good1 WM hg1) ?_
    refine zw_bne1 (g := 220) (pc' := 219) rfl rfl rfl (rfl : _ = (1 : Int)) (fun hb => ?_) (fun h9 => absurd h9 (by decide))
    have vb := (w5 hg1).2
    have b1 : zk_Bs zR zg zJ (zw_I M 83 xc.toInt.toNat (zp_nar 0 v)) := yB_a (x := v) w2 (t := 0) (m := 64) rfl (fun r hr => by
      have hr : [((-1 : Int), (3 : Int))][xc.toInt.toNat % 1]? = some r := hr
      rw [Nat.mod_one] at hr
      cases hr
      exact ⟨by show (-1 : Int) ≤ _; omega, by show _ ≤ (3 : Int); omega⟩) rfl (by decide)
    have b2 : zk_Bs zR zg zJ (zw_I (zw_I M 83 xc.toInt.toNat (zp_nar 0 v)) 72 37 (M.2.1 72 37 + Int32.ofInt 1)) := yB_g b1 (fun r hr => by cases hr) rfl rfl (by decide)
    have D1 : yDr (dd.1, dd.2.1, yUb dd.2.2 xc.toInt) (zw_I M 83 xc.toInt.toNat (zp_nar 0 v)) := yDr_83 (x := v) DM (by omega) hc.1
    have D2 := yDr_42 (k := 37) (x := M.2.1 72 37 + Int32.ofInt 1) (by decide) (yDr_cu (v := zg H) D1)
    have X2 : yXd yRl [] (yWcu dd xc.toInt (zg H)) (zw_I (zw_I M 83 xc.toInt.toNat (zp_nar 0 v)) 72 37 (M.2.1 72 37 + Int32.ofInt 1)) := by rw [yWcu_e (by omega)]; exact yXr_o (by decide) (yXd_b (d := (yU (yW dd (100 + xc.toInt.toNat) (zg H)).1 13 (dd.1 13 + 1), (yW dd (100 + xc.toInt.toNat) (zg H)).2)) (by omega) (yXd_k (by decide) (yXd_wD (x := zp_nar 0 v) yRl_inj (by omega) (by rw [yQ_100 (by omega)]) (w8 (w5 hg1).1) XM)))
    have S2 := yS_f (k := 37) (x := M.2.1 72 37 + Int32.ofInt 1) (by decide) (yS_a (p := 83) (k := xc.toInt.toNat) (x := zp_nar 0 v) (by decide) w4)
    refine zw_ld (n := 1) (k := 0) (f := zp_isR) (pc' := 221) rfl rfl (zw_gt l0 rfl rfl) rfl rfl ?_
    refine zw_gR (q := 72) (pc' := 224) WM rfl rfl rfl rfl (WM.2 72 52 _ rfl) rfl ?_
    refine zw_ld (n := 1) (k := 2) (f := zp_isI) (pc' := 225) rfl rfl (zw_gt l2 rfl rfl) rfl rfl ?_
    refine zw_ld (n := 1) (k := 3) (f := zp_isI) (pc' := 226) rfl rfl zw_g1 rfl rfl ?_
    refine zw_is (q := 83) (pc' := 227) WM rfl rfl (by decide) (⟨by omega, by show _ < ((64 : Nat) : Int); omega⟩) rfl ?_
    refine zw_ld (n := 1) (k := 0) (f := zp_isR) (pc' := 228) rfl rfl (zw_gt l0 rfl rfl) rfl rfl ?_
    refine zw_s (pc' := 229) rfl rfl ?_
    refine zw_gI (q := 72) (pc' := 232) WM rfl rfl rfl rfl (zw_ne rfl rfl) rfl ?_
    refine zw_s (pc' := 233) rfl rfl ?_
    refine zw_iadd (pc' := 234) rfl rfl ?_
    refine zw_pI (q := 72) (pc' := 237) WM rfl rfl rfl rfl rfl rfl ?_
    refine zw_s (pc' := 483) rfl rfl ?_
    exact yx_lE hby b2 S2 (fun _ => ⟨D2, X2⟩) (zw_gt l0 rfl rfl)
  · refine zw_c (pc' := 216) (zw_cv (q := 72) (Y := zm_175) WM.1 rfl rfl zm_175_t rfl rfl) rfl rfl rfl rfl rfl (zq_good0 WM hg1) ?_
    refine zw_bne1 (g := 220) (pc' := 219) rfl rfl rfl (rfl : _ = (0 : Int)) (fun h9 => absurd h9 (by decide)) (fun hb => ?_)
    refine zw_rn rfl rfl ?_
    rcases w4 with ⟨h9, _⟩ | ⟨_, r, h8, h7⟩
    · exact absurd h9 hg1
    · exact yLr_b w2 hg1 h8 h7

set_option maxHeartbeats 4000000 in
set_option maxRecDepth 8000 in
theorem yx_l10 {L : Nat} {σ : Nat → Int32} {d : Nat} {T : Nat → Int} {n p : Nat} {dd : yLD} {H : zp_H} {lv : zp_LV} (hK : zx_KW L σ) (hby : ∀ k, k < n → -128 ≤ T k ∧ T k ≤ 127) (hB : zk_Bs zR zg zJ H) (hg : (H.2.1 72 23).toInt = 0) (hP : yP T n p H) (hD : yDr dd H) (hX : yXd yRl [] dd H) (hk : ys_kd T n p = 3 ∧ ys_vl T n p = 14) (l0 : zp_get lv 0 = some (.inr (.inr (some 73)))) : zs_Safe L σ (yLr T n dd p) zm_176 [] (d + 8) (165, lv, [], H, (0, 0)) := by
  have W := zR_Wd (zR_dn hB)
  obtain ⟨K0, g1, g2, g3, g4⟩ := yp_go (L := L) (σ := σ) (d := d + 6) hby hB hP
  have W0 := zR_Wd (zR_dn g2)
  have D0 := yDr_m g3 hD
  have X0 := yXr_F g3 rfl hX
  have S0 : yS T n (0, [], 0, 0, 0, dd, p) (fun q => (5, [], 0, 0, 0, dd, q)) K0 := Or.inl ⟨(zx_fe g3 23 rfl rfl rfl).trans hg, _, g4, yR2_s (yN2_0.trans ((y0w_14 hk).trans rfl))⟩
  refine zw_ld (n := 1) (k := 0) (f := zp_isR) (pc' := 166) rfl rfl l0 rfl rfl ?_
  refine zw_cn (pc' := 169) (zw_cv (q := 72) (Y := zm_171) W.1 rfl rfl zm_171_t rfl rfl) rfl rfl rfl rfl rfl (g1) ?_
  refine zw_ld (n := 1) (k := 0) (f := zp_isR) (pc' := 170) rfl rfl l0 rfl rfl ?_
  obtain ⟨_, n1, v, M, rfl, n2, n3, ⟨g, g0, q, x, hP3, hR3, k1, k2, k3, k4, k5, k6, k7, k8⟩ | ⟨b, rfl, r, hb1, hb2⟩⟩ := yS_ch (L := L) (σ := σ) (d := d + 4) (w := dd.1 1) (hh := dd.1 2) (s1 := fun x q => (6, [], x, 0, 0, dd, q)) hby g2 S0 D0.1 D0.2.1 (fun q => yN2_5) (fun x q r h9 => by rw [yN2_6, h9 _])
  · have WM := zR_Wd (zR_dn n2)
    have DM := yDr_M n3 D0
    have XM := yXr_F n3 rfl X0
    have r83 := DM.2.2.2.2.2.2.2.2.2.2.1 v.toInt.toNat (by omega)
    have eN : ∀ ok : Int → yL, yNu T n q 0 (dd.1 2 - 1) ok = .inl (ok (ys_vl T n q)) := fun ok => by
      unfold yNu
      rw [if_pos k1, if_pos ⟨k2, k3⟩]
    refine zw_c (pc' := 173) (zw_cv (q := 72) (Y := zm_183) W0.1 rfl rfl zm_183_t rfl rfl) rfl rfl rfl rfl rfl (n1) ?_
    refine zw_st (n := 1) (k := 2) (f := zp_isI) (pc' := 174) rfl rfl rfl rfl rfl ?_
    refine zw_ld (n := 1) (k := 0) (f := zp_isR) (pc' := 175) rfl rfl (zw_gt l0 rfl rfl) rfl rfl ?_
    refine zw_c (pc' := 178) (zw_cv (q := 72) (Y := zm_175) WM.1 rfl rfl zm_175_t rfl rfl) rfl rfl rfl rfl rfl (zq_good1 WM g) ?_
    refine zw_beq1 (g := 196) (pc' := 181) rfl rfl rfl (rfl : _ = (1 : Int)) (fun h9 => absurd h9 (by decide)) (fun hb => ?_)
    refine zw_ld (n := 1) (k := 0) (f := zp_isR) (pc' := 182) rfl rfl (zw_gt l0 rfl rfl) rfl rfl ?_
    refine zw_gR (q := 72) (pc' := 185) WM rfl rfl rfl rfl (WM.2 72 52 _ rfl) rfl ?_
    refine zw_ld (n := 1) (k := 2) (f := zp_isI) (pc' := 186) rfl rfl zw_g1 rfl rfl ?_
    refine zw_ia (q := 83) (pc' := 187) WM rfl rfl (by decide) (⟨k7, by show _ < ((64 : Nat) : Int); omega⟩) rfl rfl ?_
    refine zw_s (pc' := 188) rfl rfl ?_
    refine zw_beq2 (g := 196) (pc' := 191) rfl rfl rfl rfl (rfl : _ = (-1 : Int)) (fun hb => ?_) (fun hb => ?_)
    · have ht : dd.2.2 v.toInt.toNat = false := r83.mp hb
      obtain ⟨K, q1, q2, q3, q4⟩ := yp_go (L := L) (σ := σ) (d := d + 6) hby n2 hP3
      have WK := zR_Wd (zR_dn q2)
      refine zw_ld (n := 1) (k := 0) (f := zp_isR) (pc' := 197) rfl rfl (zw_gt l0 rfl rfl) rfl rfl ?_
      refine zw_c (pc' := 200) (zw_cv (q := 72) (Y := zm_175) WM.1 rfl rfl zm_175_t rfl rfl) rfl rfl rfl rfl rfl (zq_good1 WM g) ?_
      refine zw_beq1 (g := 207) (pc' := 203) rfl rfl rfl (rfl : _ = (1 : Int)) (fun h9 => absurd h9 (by decide)) (fun hb => ?_)
      refine zw_ld (n := 1) (k := 0) (f := zp_isR) (pc' := 204) rfl rfl (zw_gt l0 rfl rfl) rfl rfl ?_
      refine zw_cn (pc' := 207) (zw_cv (q := 72) (Y := zm_171) WM.1 rfl rfl zm_171_t rfl rfl) rfl rfl rfl rfl rfl (q1) ?_
      refine yx_l207 hK hby q2 (Or.inl ⟨(zx_fe q3 23 rfl rfl rfl).trans g, _, q4, yR2_t hR3 (yR2_s ?_)⟩) (yDr_m q3 DM) (yXr_F q3 rfl XM) ⟨k7, k8⟩ (zw_gt l0 rfl rfl) zw_g1
      rw [yN2_6, eN]
      show (if dd.2.2 (dd.1 1 * ys_vl T n q + x).toNat = true then _ else _) = _
      rw [← k6, if_neg (by rw [ht]; decide)]
    · have ht : dd.2.2 v.toInt.toNat = true := by
        cases h9 : dd.2.2 v.toInt.toNat with
        | true => rfl
        | false => exact absurd (r83.mpr h9) hb
      obtain ⟨H1, c1, c2, c3, c4, c5⟩ := yp_wr (L := L) (σ := σ) (d := d + 7) (y := Int32.ofInt 4) n2 g hP3 (by decide)
      have W1 := zR_Wd (zR_dn c2)
      refine zw_ld (n := 1) (k := 0) (f := zp_isR) (pc' := 192) rfl rfl (zw_gt l0 rfl rfl) rfl rfl ?_
      refine zw_s (pc' := 193) rfl rfl ?_
      refine zw_cn (pc' := 196) (zw_cv (q := 72) (Y := zm_180) WM.1 rfl rfl zm_180_t rfl rfl) rfl rfl rfl rfl rfl (c1) ?_
      refine zw_ld (n := 1) (k := 0) (f := zp_isR) (pc' := 197) rfl rfl (zw_gt l0 rfl rfl) rfl rfl ?_
      refine zw_c (pc' := 200) (zw_cv (q := 72) (Y := zm_175) W1.1 rfl rfl zm_175_t rfl rfl) rfl rfl rfl rfl rfl (zq_good0 W1 c3) ?_
      refine zw_beq1 (g := 207) (pc' := 203) rfl rfl rfl (rfl : _ = (0 : Int)) (fun hb => ?_) (fun h9 => absurd h9 (by decide))
      refine yx_l207 hK hby c2 (Or.inr ⟨c3, _, c5, yR2_a hR3 (yA2_done ?_)⟩) (yDr_M c4 DM) (yXr_F c4 rfl XM) ⟨k7, k8⟩ (zw_gt l0 rfl rfl) zw_g1
      rw [yN2_6, eN]
      show (if dd.2.2 (dd.1 1 * ys_vl T n q + x).toNat = true then _ else _) = _
      rw [← k6, if_pos ht]
      rfl
  · have WM := zR_Wd (zR_dn n2)
    have DM := yDr_M n3 D0
    have XM := yXr_F n3 rfl X0
    refine zw_c (pc' := 173) (zw_cv (q := 72) (Y := zm_183) W0.1 rfl rfl zm_183_t rfl rfl) rfl rfl rfl rfl rfl (n1) ?_
    refine zw_st (n := 1) (k := 2) (f := zp_isI) (pc' := 174) rfl rfl rfl rfl rfl ?_
    refine zw_ld (n := 1) (k := 0) (f := zp_isR) (pc' := 175) rfl rfl (zw_gt l0 rfl rfl) rfl rfl ?_
    refine zw_c (pc' := 178) (zw_cv (q := 72) (Y := zm_175) WM.1 rfl rfl zm_175_t rfl rfl) rfl rfl rfl rfl rfl (zq_good0 WM b) ?_
    refine zw_beq1 (g := 196) (pc' := 181) rfl rfl rfl (rfl : _ = (0 : Int)) (fun hb => ?_) (fun h9 => absurd h9 (by decide))
    refine zw_ld (n := 1) (k := 0) (f := zp_isR) (pc' := 197) rfl rfl (zw_gt l0 rfl rfl) rfl rfl ?_
    refine zw_c (pc' := 200) (zw_cv (q := 72) (Y := zm_175) WM.1 rfl rfl zm_175_t rfl rfl) rfl rfl rfl rfl rfl (zq_good0 WM b) ?_
    refine zw_beq1 (g := 207) (pc' := 203) rfl rfl rfl (rfl : _ = (0 : Int)) (fun hb => ?_) (fun h9 => absurd h9 (by decide))
    exact yx_l207 hK hby n2 (Or.inr ⟨b, r, hb1, hb2⟩) DM XM (by decide) (zw_gt l0 rfl rfl) zw_g1

set_option maxHeartbeats 4000000 in
set_option maxRecDepth 8000 in
theorem yx_l16 {L : Nat} {σ : Nat → Int32} {d : Nat} {T : Nat → Int} {n p : Nat} {dd : yLD} {H : zp_H} {lv : zp_LV} (hK : zx_KW L σ) (hby : ∀ k, k < n → -128 ≤ T k ∧ T k ≤ 127) (hB : zk_Bs zR zg zJ H) (hg : (H.2.1 72 23).toInt = 0) (hP : yP T n p H) (hD : yDr dd H) (hX : yXd yRl [] dd H) (ht : (H.2.1 72 45).toInt ≤ zx_phi H) (h16 : zg H = 16) (hk : ys_kd T n p = 3 ∧ ys_vl T n p = 20) (l0 : zp_get lv 0 = some (.inr (.inr (some 73)))) : zs_Safe L σ (yLr T n dd p) zm_176 [] (d + 8) (391, lv, [], H, (0, 0)) := by
  have W := zR_Wd (zR_dn hB)
  have n0 : 0 ≤ (H.2.1 72 41).toInt ∧ (H.2.1 72 41).toInt ≤ 8 := zR_fr1 (zR_dn hB) (k := 41) (r := (0, 8)) rfl rfl
  have t0 : 0 ≤ (H.2.1 72 45).toInt ∧ (H.2.1 72 45).toInt ≤ 1600 := zR_fr1 (zR_dn hB) (k := 45) (r := (0, 1600)) rfl rfl
  have d41 : (H.2.1 72 41).toInt = dd.1 7 := hD.2.2.2.2.2.2.1
  have hs1 := zg_s (H := H) (by omega)
  have ps := zx_phi_s (H := H) (by omega)
  refine zw_ld (n := 1) (k := 0) (f := zp_isR) (pc' := 392) rfl rfl l0 rfl rfl ?_
  refine zw_gI (q := 72) (pc' := 395) W rfl rfl rfl rfl rfl rfl ?_
  refine zw_s (pc' := 397) rfl rfl ?_
  refine zw_bne2 (g := 405) (pc' := 400) rfl rfl rfl rfl (rfl : _ = (8 : Int)) (fun h8 => ?_) (fun h8 => ?_)
  · refine zw_ld (n := 1) (k := 0) (f := zp_isR) (pc' := 406) rfl rfl l0 rfl rfl ?_
    refine zw_c (pc' := 409) (zw_cv (q := 72) (Y := zm_175) W.1 rfl rfl zm_175_t rfl rfl) rfl rfl rfl rfl rfl (zq_good1 W hg) ?_
    refine zw_bne1 (g := 413) (pc' := 412) rfl rfl rfl (rfl : _ = (1 : Int)) (fun hb => ?_) (fun h9 => absurd h9 (by decide))
    obtain ⟨K0, g1, g2, g3, g4⟩ := yp_go (L := L) (σ := σ) (d := d + 6) hby hB hP
    have W0 := zR_Wd (zR_dn g2)
    have D0 := yDr_m g3 hD
    have X0 := yXr_F g3 rfl hX
    have S0 : yS T n (0, [], 0, 0, 0, dd, p) (fun q => (102, [false], 0, 0, 0, dd, q)) K0 := Or.inl ⟨(zx_fe g3 23 rfl rfl rfl).trans hg, _, g4, yR2_s (yN2_0.trans ((y0w_20 hk).trans (if_pos (by omega))))⟩
    refine zw_ld (n := 1) (k := 0) (f := zp_isR) (pc' := 414) rfl rfl l0 rfl rfl ?_
    refine zw_cn (pc' := 417) (zw_cv (q := 72) (Y := zm_171) W.1 rfl rfl zm_171_t rfl rfl) rfl rfl rfl rfl rfl (g1) ?_
    obtain ⟨K1, x1, _, _, x4, _⟩ := zx_goes (L := L) (σ := σ) (d := d + 6) hB
    have eK : K1 = K0 := by
      have e := zp_Call_u x1 g1
      cases e
      rfl
    rw [eK] at x4
    have f41 : (K0.2.1 72 41).toInt = dd.1 7 := D0.2.2.2.2.2.2.1
    have f45 := zx_fe g3 45 rfl rfl rfl
    have hR2 : yR2 T n (0, [], 0, 0, 0, dd, p) (102, [false], 0, 0, 0, dd, ys_nx T n p) := yR2_s (yN2_0.trans ((y0w_20 hk).trans (if_pos (by omega))))
    have b1 : zk_Bs zR zg zJ (zw_I K0 88 (K0.2.1 72 41).toInt.toNat (zp_nar 0 (K0.2.1 72 45))) := yB_a (x := K0.2.1 72 45) g2 (t := 0) (m := 8) rfl (fun r hr => by
      have hr : [((0 : Int), (1600 : Int))][(K0.2.1 72 41).toInt.toNat % 1]? = some r := hr
      rw [Nat.mod_one] at hr
      cases hr
      exact ⟨by show (0 : Int) ≤ _; omega, by show _ ≤ (1600 : Int); omega⟩) rfl (by decide)
    have D1 := yDr_a (p := 88) (k := (K0.2.1 72 41).toInt.toNat) (x := zp_nar 0 (K0.2.1 72 45)) (by decide) D0
    have X1 := yXr_o (p := 88) (k := (K0.2.1 72 41).toInt.toNat) (x := zp_nar 0 (K0.2.1 72 45)) (by unfold yNr; omega) X0
    have P1 : yP T n (ys_nx T n p) (zw_I K0 88 (K0.2.1 72 41).toInt.toNat (zp_nar 0 (K0.2.1 72 45))) := yP_c (H := K0) (fun j hj => y_ne (fun h9 => absurd h9.1 (by decide))) (funext (fun j => y_ne (fun h9 => absurd h9.1 (by decide)))) rfl g4
    refine zw_ld (n := 1) (k := 0) (f := zp_isR) (pc' := 418) rfl rfl l0 rfl rfl ?_
    refine zw_gR (q := 72) (pc' := 421) W0 rfl rfl rfl rfl (W0.2 72 57 _ rfl) rfl ?_
    refine zw_ld (n := 1) (k := 0) (f := zp_isR) (pc' := 422) rfl rfl l0 rfl rfl ?_
    refine zw_gI (q := 72) (pc' := 425) W0 rfl rfl rfl rfl rfl rfl ?_
    refine zw_ld (n := 1) (k := 0) (f := zp_isR) (pc' := 426) rfl rfl l0 rfl rfl ?_
    refine zw_gI (q := 72) (pc' := 429) W0 rfl rfl rfl rfl rfl rfl ?_
    refine zw_is (q := 88) (pc' := 430) W0 rfl rfl (by decide) (⟨by omega, by show _ < ((8 : Nat) : Int); omega⟩) rfl ?_
    generalize hH2 : (zw_I K0 88 (K0.2.1 72 41).toInt.toNat (zp_nar 0 (K0.2.1 72 45))) = H2 at b1 D1 X1 P1 ⊢
    have f2 : ∀ k, H2.2.1 72 k = K0.2.1 72 k := fun k => by rw [← hH2]; exact zw_ne rfl rfl
    have W2 := zR_Wd (zR_dn b1)
    have G2 : (H2.2.1 72 23).toInt = 0 := by rw [f2, zx_fe g3 23 rfl rfl rfl]; exact hg
    have ph : zx_phi H2 = zx_phi K0 := zx_phi_e (f2 27) (f2 28)
    have g45 : (H2.2.1 72 45).toInt = (H.2.1 72 45).toInt := by rw [f2, f45]
    obtain ⟨_, x5, H3, rfl, x6, x7, x8, x9⟩ := yx_expr (L := L) (σ := σ) (d := d + 1) hby hK b1 G2 (by omega) P1
    have S3 : yS T n (0, [], 0, 0, 0, dd, p) (fun q => (40, [], 0, 0, 0, dd, q)) H3 := by
      rcases x9 with ⟨g9, lv9, q9, hV9, hA9⟩ | ⟨r9, hD9, hA9⟩
      · exact Or.inl ⟨g9, q9, ⟨hV9.1, hV9.2.1, hV9.2.2.1⟩, yR2_t hR2 (yA_20 hA9)⟩
      · exact Or.inr ⟨by rw [hD9.2.1]; exact hD9.2.2.1, r9, hD9, yR2_a hR2 (yA_2k hA9 hD9.2.2.1)⟩
    have D3 := yDr_F x7.1 rfl (fun _ => rfl) rfl D1
    have X3 := yXr_F x7.1 rfl X1
    have W3 := zR_Wd (zR_dn x6)
    clear x9
    obtain ⟨v3, y1, y2⟩ := hK (d + 4) H3 x6
    refine zw_ld (n := 1) (k := 0) (f := zp_isR) (pc' := 431) rfl rfl l0 rfl rfl ?_
    refine zw_cn (pc' := 434) (zw_cv (q := 72) (Y := zm_192) W2.1 rfl rfl zm_192_t rfl rfl) rfl rfl rfl rfl rfl (x5) ?_
    refine zw_ld (n := 1) (k := 0) (f := zp_isR) (pc' := 435) rfl rfl l0 rfl rfl ?_
    refine zw_ld (n := 1) (k := 0) (f := zp_isR) (pc' := 436) rfl rfl l0 rfl rfl ?_
    refine zw_c (pc' := 439) (zw_cv (q := 72) (Y := zm_177) W3.1 rfl rfl zm_177_t rfl rfl) rfl rfl rfl rfl rfl (y1) ?_
    refine zw_s (pc' := 441) rfl rfl ?_
    refine zw_bne2 (g := 448) (pc' := 444) rfl rfl rfl rfl (rfl : _ = (17 : Int)) (fun h17 => ?_) (fun h17 => ?_)
    · obtain ⟨H4, q1, q2, q3, q4, q5⟩ := yS_need (L := L) (σ := σ) (d := d + 5) (y := Int32.ofInt 0) (s' := fun q => (41, [], 0, 0, 0, dd, q)) hby x6 S3 (fun h9 => absurd rfl h9) (fun _ q _ hP9 => yN2_40.trans (if_neg (fun h9 => h17 (by have := (yr_wd hP9.2.2 hP9.2.1).2.2.2.mpr h9; omega))))
      have W4 := zR_Wd (zR_dn q2)
      have D4 := yDr_M q3 D3
      have X4 := yXr_F q3 rfl X3
      have f4 : (H4.2.1 72 41).toInt = dd.1 7 := D4.2.2.2.2.2.2.1
      obtain ⟨_, w1, v5, H5, rfl, w2, w3, w4, w5, w6, w7, w8⟩ := yS_way (L := L) (σ := σ) (d := d + 3) (s' := fun q => (50, [], 0, 0, 0, yW (yU dd.1 7 (dd.1 7 + 1), dd.2) (700 + (dd.1 7).toNat) (zg H4), q)) hK hby q2 q4 (fun q hP9 => by
        rw [yN2_41]
        by_cases h9 : ys_kd T n q = 3 ∧ ys_vl T n q < 4
        · rw [if_pos h9, if_pos h9, yr_wv hP9 h9]
        · rw [if_neg h9, if_neg h9])
      have W5 := zR_Wd (zR_dn w2)
      have D5 := yDr_M w3 D4
      have f5 : (H5.2.1 72 41).toInt = dd.1 7 := D5.2.2.2.2.2.2.1
      have e41 : (H5.2.1 72 41 + Int32.ofInt 1).toInt = dd.1 7 + 1 := by rw [zw_p1 (by omega), f5]
      have b6 : zk_Bs zR zg zJ (zw_I H5 89 (H4.2.1 72 41).toInt.toNat (zp_nar 0 v5)) := yB_a w2 (t := 0) (m := 8) rfl (fun r hr => y_any hr) rfl (by decide)
      have b7 : zk_Bs zR zg zJ (zw_I (zw_I H5 89 (H4.2.1 72 41).toInt.toNat (zp_nar 0 v5)) 72 41 (H5.2.1 72 41 + Int32.ofInt 1)) := yB_g b6 (fun r hr => by cases hr; exact ⟨by show (0 : Int) ≤ _; omega, by show _ ≤ (8 : Int); omega⟩) rfl rfl (by decide)
      have S7 := yS_f (k := 41) (x := H5.2.1 72 41 + Int32.ofInt 1) (by decide) (yS_a (p := 89) (k := (H4.2.1 72 41).toInt.toNat) (x := zp_nar 0 v5) (by decide) w4)
      have D7 := yDr_41 (x := H5.2.1 72 41 + Int32.ofInt 1) (yDr_a (p := 89) (k := (H4.2.1 72 41).toInt.toNat) (x := zp_nar 0 v5) (by decide) D5) e41
      have X7 : (H5.2.1 72 23).toInt = 0 → yXd yRl [] (yW (yU dd.1 7 (dd.1 7 + 1), dd.2) (700 + (dd.1 7).toNat) (zg H4)) (zw_I (zw_I H5 89 (H4.2.1 72 41).toInt.toNat (zp_nar 0 v5)) 72 41 (H5.2.1 72 41 + Int32.ofInt 1)) := fun h9 => yXr_o (by decide) (yXd_wD (x := zp_nar 0 v5) yRl_inj (by omega) (by rw [yQ_700, f4]) (w8 (w5 h9).1) (yXd_k (by decide) (yXr_F w3 rfl X4)))
      refine zw_s (pc' := 449) rfl rfl ?_
      refine zw_cn (pc' := 452) (zw_cv (q := 72) (Y := zm_186) W3.1 rfl rfl zm_186_t rfl rfl) rfl rfl rfl rfl rfl (q1) ?_
      refine zw_ld (n := 1) (k := 0) (f := zp_isR) (pc' := 453) rfl rfl l0 rfl rfl ?_
      refine zw_gR (q := 72) (pc' := 456) W4 rfl rfl rfl rfl (W4.2 72 58 _ rfl) rfl ?_
      refine zw_ld (n := 1) (k := 0) (f := zp_isR) (pc' := 457) rfl rfl l0 rfl rfl ?_
      refine zw_gI (q := 72) (pc' := 460) W4 rfl rfl rfl rfl rfl rfl ?_
      refine zw_ld (n := 1) (k := 0) (f := zp_isR) (pc' := 461) rfl rfl l0 rfl rfl ?_
      refine zw_c (pc' := 464) (zw_cv (q := 72) (Y := zm_184) W4.1 rfl rfl zm_184_t rfl rfl) rfl rfl rfl rfl rfl (w1) ?_
      refine zw_is (q := 89) (pc' := 465) W5 rfl rfl (by decide) (⟨by omega, by show _ < ((8 : Nat) : Int); omega⟩) rfl ?_
      refine zw_ld (n := 1) (k := 0) (f := zp_isR) (pc' := 466) rfl rfl l0 rfl rfl ?_
      refine zw_s (pc' := 467) rfl rfl ?_
      refine zw_gI (q := 72) (pc' := 470) W5 rfl rfl rfl rfl (zw_ne rfl rfl) rfl ?_
      refine zw_s (pc' := 471) rfl rfl ?_
      refine zw_iadd (pc' := 472) rfl rfl ?_
      refine zw_pI (q := 72) (pc' := 475) W5 rfl rfl rfl rfl rfl rfl ?_
      refine zw_s (pc' := 483) rfl rfl ?_
      exact yx_lE hby b7 S7 (fun h9 => ⟨yDr_W (by omega) D7, X7 h9⟩) l0
    · obtain ⟨H4, q1, q2, q3, q4, q5⟩ := yS_need (L := L) (σ := σ) (d := d + 5) (y := Int32.ofInt 1) (s' := fun q => (41, [], 0, 0, 0, dd, q)) hby x6 S3 (fun _ q hP9 => yN2_40.trans (if_pos ((yr_wd hP9.2.2 hP9.2.1).2.2.2.mp (by omega)))) (fun h9 => absurd h9 (by decide))
      have W4 := zR_Wd (zR_dn q2)
      have D4 := yDr_M q3 D3
      have X4 := yXr_F q3 rfl X3
      have f4 : (H4.2.1 72 41).toInt = dd.1 7 := D4.2.2.2.2.2.2.1
      obtain ⟨_, w1, v5, H5, rfl, w2, w3, w4, w5, w6, w7, w8⟩ := yS_way (L := L) (σ := σ) (d := d + 3) (s' := fun q => (50, [], 0, 0, 0, yW (yU dd.1 7 (dd.1 7 + 1), dd.2) (700 + (dd.1 7).toNat) (zg H4), q)) hK hby q2 q4 (fun q hP9 => by
        rw [yN2_41]
        by_cases h9 : ys_kd T n q = 3 ∧ ys_vl T n q < 4
        · rw [if_pos h9, if_pos h9, yr_wv hP9 h9]
        · rw [if_neg h9, if_neg h9])
      have W5 := zR_Wd (zR_dn w2)
      have D5 := yDr_M w3 D4
      have f5 : (H5.2.1 72 41).toInt = dd.1 7 := D5.2.2.2.2.2.2.1
      have e41 : (H5.2.1 72 41 + Int32.ofInt 1).toInt = dd.1 7 + 1 := by rw [zw_p1 (by omega), f5]
      have b6 : zk_Bs zR zg zJ (zw_I H5 89 (H4.2.1 72 41).toInt.toNat (zp_nar 0 v5)) := yB_a w2 (t := 0) (m := 8) rfl (fun r hr => y_any hr) rfl (by decide)
      have b7 : zk_Bs zR zg zJ (zw_I (zw_I H5 89 (H4.2.1 72 41).toInt.toNat (zp_nar 0 v5)) 72 41 (H5.2.1 72 41 + Int32.ofInt 1)) := yB_g b6 (fun r hr => by cases hr; exact ⟨by show (0 : Int) ≤ _; omega, by show _ ≤ (8 : Int); omega⟩) rfl rfl (by decide)
      have S7 := yS_f (k := 41) (x := H5.2.1 72 41 + Int32.ofInt 1) (by decide) (yS_a (p := 89) (k := (H4.2.1 72 41).toInt.toNat) (x := zp_nar 0 v5) (by decide) w4)
      have D7 := yDr_41 (x := H5.2.1 72 41 + Int32.ofInt 1) (yDr_a (p := 89) (k := (H4.2.1 72 41).toInt.toNat) (x := zp_nar 0 v5) (by decide) D5) e41
      have X7 : (H5.2.1 72 23).toInt = 0 → yXd yRl [] (yW (yU dd.1 7 (dd.1 7 + 1), dd.2) (700 + (dd.1 7).toNat) (zg H4)) (zw_I (zw_I H5 89 (H4.2.1 72 41).toInt.toNat (zp_nar 0 v5)) 72 41 (H5.2.1 72 41 + Int32.ofInt 1)) := fun h9 => yXr_o (by decide) (yXd_wD (x := zp_nar 0 v5) yRl_inj (by omega) (by rw [yQ_700, f4]) (w8 (w5 h9).1) (yXd_k (by decide) (yXr_F w3 rfl X4)))
      refine zw_s (pc' := 445) rfl rfl ?_
      refine zw_s (pc' := 449) rfl rfl ?_
      refine zw_cn (pc' := 452) (zw_cv (q := 72) (Y := zm_186) W3.1 rfl rfl zm_186_t rfl rfl) rfl rfl rfl rfl rfl (q1) ?_
      refine zw_ld (n := 1) (k := 0) (f := zp_isR) (pc' := 453) rfl rfl l0 rfl rfl ?_
      refine zw_gR (q := 72) (pc' := 456) W4 rfl rfl rfl rfl (W4.2 72 58 _ rfl) rfl ?_
      refine zw_ld (n := 1) (k := 0) (f := zp_isR) (pc' := 457) rfl rfl l0 rfl rfl ?_
      refine zw_gI (q := 72) (pc' := 460) W4 rfl rfl rfl rfl rfl rfl ?_
      refine zw_ld (n := 1) (k := 0) (f := zp_isR) (pc' := 461) rfl rfl l0 rfl rfl ?_
      refine zw_c (pc' := 464) (zw_cv (q := 72) (Y := zm_184) W4.1 rfl rfl zm_184_t rfl rfl) rfl rfl rfl rfl rfl (w1) ?_
      refine zw_is (q := 89) (pc' := 465) W5 rfl rfl (by decide) (⟨by omega, by show _ < ((8 : Nat) : Int); omega⟩) rfl ?_
      refine zw_ld (n := 1) (k := 0) (f := zp_isR) (pc' := 466) rfl rfl l0 rfl rfl ?_
      refine zw_s (pc' := 467) rfl rfl ?_
      refine zw_gI (q := 72) (pc' := 470) W5 rfl rfl rfl rfl (zw_ne rfl rfl) rfl ?_
      refine zw_s (pc' := 471) rfl rfl ?_
      refine zw_iadd (pc' := 472) rfl rfl ?_
      refine zw_pI (q := 72) (pc' := 475) W5 rfl rfl rfl rfl rfl rfl ?_
      refine zw_s (pc' := 483) rfl rfl ?_
      exact yx_lE hby b7 S7 (fun h9 => ⟨yDr_W (by omega) D7, X7 h9⟩) l0
  · obtain ⟨H1, c1, c2, c3, c4, c5⟩ := yp_wr (L := L) (σ := σ) (d := d + 7) (y := Int32.ofInt 2) hB hg hP (by decide)
    have W1 := zR_Wd (zR_dn c2)
    refine zw_ld (n := 1) (k := 0) (f := zp_isR) (pc' := 401) rfl rfl l0 rfl rfl ?_
    refine zw_s (pc' := 402) rfl rfl ?_
    refine zw_cn (pc' := 405) (zw_cv (q := 72) (Y := zm_180) W.1 rfl rfl zm_180_t rfl rfl) rfl rfl rfl rfl rfl (c1) ?_
    refine zw_ld (n := 1) (k := 0) (f := zp_isR) (pc' := 406) rfl rfl l0 rfl rfl ?_
    refine zw_c (pc' := 409) (zw_cv (q := 72) (Y := zm_175) W1.1 rfl rfl zm_175_t rfl rfl) rfl rfl rfl rfl rfl (zq_good0 W1 c3) ?_
    refine zw_bne1 (g := 413) (pc' := 412) rfl rfl rfl (rfl : _ = (0 : Int)) (fun h9 => absurd h9 (by decide)) (fun hb => ?_)
    refine zw_rn rfl rfl ?_
    exact yLr_b c2 c3 c5 (yA2_done (yN2_0.trans ((y0w_20 hk).trans (if_neg (by omega)))))

set_option maxHeartbeats 4000000 in
set_option maxRecDepth 8000 in
theorem yx_lN {L : Nat} {σ : Nat → Int32} {d : Nat} {T : Nat → Int} {n p : Nat} {dd : yLD} {H : zp_H} {lv : zp_LV} (hby : ∀ k, k < n → -128 ≤ T k ∧ T k ≤ 127) (hB : zk_Bs zR zg zJ H) (hg : (H.2.1 72 23).toInt = 0) (hP : yP T n p H) (hD : yDr dd H) (hX : yXd yRl [] dd H) (h0 : ys_kd T n p ≠ 0) (hno : ¬ (ys_kd T n p = 3 ∧ 12 ≤ ys_vl T n p ∧ ys_vl T n p ≤ 20)) (l0 : zp_get lv 0 = some (.inr (.inr (some 73)))) : zs_Safe L σ (yLr T n dd p) zm_176 [] (d + 8) (478, lv, [], H, (0, 0)) := by
  have W := zR_Wd (zR_dn hB)
  obtain ⟨H1, c1, c2, c3, c4, c5⟩ := yp_wr (L := L) (σ := σ) (d := d + 7) (y := Int32.ofInt 1) hB hg hP (by decide)
  refine zw_ld (n := 1) (k := 0) (f := zp_isR) (pc' := 479) rfl rfl l0 rfl rfl ?_
  refine zw_s (pc' := 480) rfl rfl ?_
  refine zw_cn (pc' := 483) (zw_cv (q := 72) (Y := zm_180) W.1 rfl rfl zm_180_t rfl rfl) rfl rfl rfl rfl rfl (c1) ?_
  exact yx_lE (d' := dd) hby c2 (Or.inr ⟨c3, _, c5, yA2_done (yN2_0.trans (y0w_no h0 hno))⟩) (fun h9 => absurd h9 c3) l0

set_option maxHeartbeats 4000000 in
set_option maxRecDepth 8000 in
theorem yx_line {L : Nat} {σ : Nat → Int32} {d : Nat} {T : Nat → Int} {n p : Nat} {dd : yLD} {H : zp_H} (hK : zx_KW L σ) (hby : ∀ k, k < n → -128 ≤ T k ∧ T k ≤ 127) (hB : zk_Bs zR zg zJ H) (hg : (H.2.1 72 23).toInt = 0) (hP : yP T n p H) (hD : yDr dd H) (hX : yXd yRl [] dd H) (hf0 : (H.2.1 72 50).toInt = dd.1 0) (h0 : ys_kd T n p ≠ 0) (ht : (H.2.1 72 45).toInt ≤ zx_phi H) : ∃ X, zp_Call L σ (d + 9) 176 [.inr (.inr (some 73))] H X ∧ yLr T n dd p X := by
  have W := zR_Wd (zR_dn hB)
  obtain ⟨v, v1, v2⟩ := hK (d + 4) H hB
  refine zw_met zm_176_t rfl rfl ?_
  refine zw_ld (n := 1) (k := 0) (f := zp_isR) (pc' := 1) rfl rfl rfl rfl rfl ?_
  refine zw_c (pc' := 4) (zw_cv (q := 72) (Y := zm_177) W.1 rfl rfl zm_177_t rfl rfl) rfl rfl rfl rfl rfl (v1) ?_
  refine zw_st (n := 1) (k := 1) (f := zp_isI) (pc' := 5) rfl rfl rfl rfl rfl ?_
  refine zw_ld (n := 1) (k := 1) (f := zp_isI) (pc' := 6) rfl rfl zw_g1 rfl rfl ?_
  refine zw_s (pc' := 8) rfl rfl ?_
  refine zw_bne2 (g := 60) (pc' := 11) rfl rfl rfl rfl (rfl : _ = (8 : Int)) (fun hv8 => ?_) (fun hv8 => ?_)
  · refine zw_ld (n := 1) (k := 1) (f := zp_isI) (pc' := 61) rfl rfl zw_g1 rfl rfl ?_
    refine zw_s (pc' := 63) rfl rfl ?_
    refine zw_bne2 (g := 159) (pc' := 66) rfl rfl rfl rfl (rfl : _ = (9 : Int)) (fun hv9 => ?_) (fun hv9 => ?_)
    · refine zw_ld (n := 1) (k := 1) (f := zp_isI) (pc' := 160) rfl rfl zw_g1 rfl rfl ?_
      refine zw_s (pc' := 162) rfl rfl ?_
      refine zw_bne2 (g := 240) (pc' := 165) rfl rfl rfl rfl (rfl : _ = (10 : Int)) (fun hv10 => ?_) (fun hv10 => ?_)
      · refine zw_ld (n := 1) (k := 1) (f := zp_isI) (pc' := 241) rfl rfl zw_g1 rfl rfl ?_
        refine zw_s (pc' := 243) rfl rfl ?_
        refine zw_bne2 (g := 253) (pc' := 246) rfl rfl rfl rfl (rfl : _ = (11 : Int)) (fun hv11 => ?_) (fun hv11 => ?_)
        · refine zw_ld (n := 1) (k := 1) (f := zp_isI) (pc' := 254) rfl rfl zw_g1 rfl rfl ?_
          refine zw_s (pc' := 256) rfl rfl ?_
          refine zw_bne2 (g := 266) (pc' := 259) rfl rfl rfl rfl (rfl : _ = (12 : Int)) (fun hv12 => ?_) (fun hv12 => ?_)
          · refine zw_ld (n := 1) (k := 1) (f := zp_isI) (pc' := 267) rfl rfl zw_g1 rfl rfl ?_
            refine zw_s (pc' := 269) rfl rfl ?_
            refine zw_bne2 (g := 323) (pc' := 272) rfl rfl rfl rfl (rfl : _ = (13 : Int)) (fun hv13 => ?_) (fun hv13 => ?_)
            · refine zw_ld (n := 1) (k := 1) (f := zp_isI) (pc' := 324) rfl rfl zw_g1 rfl rfl ?_
              refine zw_s (pc' := 326) rfl rfl ?_
              refine zw_bne2 (g := 372) (pc' := 329) rfl rfl rfl rfl (rfl : _ = (14 : Int)) (fun hv14 => ?_) (fun hv14 => ?_)
              · refine zw_ld (n := 1) (k := 1) (f := zp_isI) (pc' := 373) rfl rfl zw_g1 rfl rfl ?_
                refine zw_s (pc' := 375) rfl rfl ?_
                refine zw_bne2 (g := 385) (pc' := 378) rfl rfl rfl rfl (rfl : _ = (15 : Int)) (fun hv15 => ?_) (fun hv15 => ?_)
                · refine zw_ld (n := 1) (k := 1) (f := zp_isI) (pc' := 386) rfl rfl zw_g1 rfl rfl ?_
                  refine zw_s (pc' := 388) rfl rfl ?_
                  refine zw_bne2 (g := 478) (pc' := 391) rfl rfl rfl rfl (rfl : _ = (16 : Int)) (fun hv16 => ?_) (fun hv16 => ?_)
                  · refine yx_lN (d := d) hby hB hg hP hD hX h0 (fun h9 => ?_) (zw_gt rfl rfl rfl)
                    have := (yr_hd hP (k := ys_vl T n p - 4) (by omega)).mpr ⟨h9.1, by omega⟩
                    omega
                  · exact yx_l16 (d := d) hK hby hB hg hP hD hX ht (by omega) ((yr_hd hP (k := 16) (by decide)).mp (by omega)) (zw_gt rfl rfl rfl)
                · exact yx_l15 (d := d) hK hby hB hg hP hD hX ((yr_hd hP (k := 15) (by decide)).mp (by omega)) (zw_gt rfl rfl rfl)
              · exact yx_l14 (d := d) hby hB hg hP hD hX ((yr_hd hP (k := 14) (by decide)).mp (by omega)) (zw_gt rfl rfl rfl)
            · exact yx_l13 (d := d) hby hB hg hP hD hX ((yr_hd hP (k := 13) (by decide)).mp (by omega)) (zw_gt rfl rfl rfl)
          · exact yx_l12 (d := d) hK hby hB hg hP hD hX ((yr_hd hP (k := 12) (by decide)).mp (by omega)) (zw_gt rfl rfl rfl)
        · exact yx_l11 (d := d) hK hby hB hg hP hD hX ((yr_hd hP (k := 11) (by decide)).mp (by omega)) (zw_gt rfl rfl rfl)
      · exact yx_l10 (d := d) hK hby hB hg hP hD hX ((yr_hd hP (k := 10) (by decide)).mp (by omega)) (zw_gt rfl rfl rfl)
    · exact yx_l9 (d := d) hby hB hg hP hD hX ((yr_hd hP (k := 9) (by decide)).mp (by omega)) (zw_gt rfl rfl rfl)
  · exact yx_l8 (d := d) hby hB hg hP hD hX hf0 ((yr_hd hP (k := 8) (by decide)).mp (by omega)) (zw_gt rfl rfl rfl)
end
section
/-! ===== a field that no method of a set writes stays as it is ===== -/
/-- the shape is kept, the fields F (a kind, a slot) of every object of the kind, and all arrays of the types A -/
def ykF (A : List Nat) (F : List (Nat × Nat)) (h h' : zp_H) : Prop := h'.1 = h.1 ∧ (∀ f ∈ F, ∀ q, h.1[q]? = some (.inl f.1) → h'.2.1 q f.2 = h.2.1 q f.2 ∧ h'.2.2.1 q f.2 = h.2.2.1 q f.2) ∧ ∀ a ∈ A, ∀ q n, h.1[q]? = some (.inr (a, n)) → ∀ i, h'.2.1 q i = h.2.1 q i ∧ h'.2.2.1 q i = h.2.2.1 q i
theorem ykF_r {A : List Nat} {F : List (Nat × Nat)} {h : zp_H} : ykF A F h h := ⟨rfl, fun _ _ _ _ => ⟨rfl, rfl⟩, fun _ _ _ _ _ _ => ⟨rfl, rfl⟩⟩
theorem ykF_t {A : List Nat} {F : List (Nat × Nat)} {h h' h'' : zp_H} (h1 : ykF A F h h') (h2 : ykF A F h' h'') : ykF A F h h'' := ⟨h2.1.trans h1.1, fun f hf q hq => ⟨(h2.2.1 f hf q (by rw [h1.1]; exact hq)).1.trans (h1.2.1 f hf q hq).1, (h2.2.1 f hf q (by rw [h1.1]; exact hq)).2.trans (h1.2.1 f hf q hq).2⟩, fun a ha q n hq i => ⟨(h2.2.2 a ha q n (by rw [h1.1]; exact hq) i).1.trans (h1.2.2 a ha q n hq i).1, (h2.2.2 a ha q n (by rw [h1.1]; exact hq) i).2.trans (h1.2.2 a ha q n hq i).2⟩⟩
theorem ykF_ar {A : List Nat} {F : List (Nat × Nat)} {h : zp_H} {q j t n : Nat} {x : Int32} (hq : h.1[q]? = some (.inr (t, n))) (hA : ∀ a ∈ A, a ≠ t) : ykF A F h (h.1, zp_u h.2.1 q j x, h.2.2) := ⟨rfl, fun f _ q' hq' => ⟨zp_u_ne (fun h9 => by rw [h9.1, hq] at hq'; cases hq'), rfl⟩, fun a ha q' n' hq' i => ⟨zp_u_ne (fun h9 => by rw [h9.1, hq] at hq'; cases hq'; exact hA _ ha rfl), rfl⟩⟩
theorem ykF_al {A : List Nat} {F : List (Nat × Nat)} {h : zp_H} {q j t n : Nat} {x : Int64} (hq : h.1[q]? = some (.inr (t, n))) (hA : ∀ a ∈ A, a ≠ t) : ykF A F h (h.1, h.2.1, zp_u h.2.2.1 q j x, h.2.2.2) := ⟨rfl, fun f _ q' hq' => ⟨rfl, zp_u_ne (fun h9 => by rw [h9.1, hq] at hq'; cases hq')⟩, fun a ha q' n' hq' i => ⟨rfl, zp_u_ne (fun h9 => by rw [h9.1, hq] at hq'; cases hq'; exact hA _ ha rfl)⟩⟩
theorem ykF_aa {A : List Nat} {F : List (Nat × Nat)} {h : zp_H} {q t n : Nat} {g : Nat → Int32} (hq : h.1[q]? = some (.inr (t, n))) (hA : ∀ a ∈ A, a ≠ t) : ykF A F h (h.1, zp_ua h.2.1 q g, h.2.2) := ⟨rfl, fun f _ q' hq' => ⟨by
  show (if q' = q then _ else _) = _
  rw [if_neg (fun h9 => by rw [h9, hq] at hq'; cases hq')], rfl⟩, fun a ha q' n' hq' i => ⟨by
  show (if q' = q then _ else _) = _
  rw [if_neg (fun h9 => by rw [h9, hq] at hq'; cases hq'; exact hA _ ha rfl)], rfl⟩⟩
theorem ykF_pf {A : List Nat} {F : List (Nat × Nat)} {h : zp_H} {q k c : Nat} {v : zp_V} (hq : h.1[q]? = some (.inl c)) (hn : ∀ f ∈ F, ¬ (f.1 = c ∧ f.2 = k)) : ykF A F h (zp_wf h q k v) := by
  have e : ∀ f ∈ F, ∀ q', h.1[q']? = some (.inl f.1) → ¬ (q' = q ∧ f.2 = k) := fun f hf q' hq' h9 => hn f hf ⟨by
    rw [h9.1, hq] at hq'
    cases hq'
    rfl, h9.2⟩
  have e2 : ∀ (a q' n' : Nat) (i : Nat), h.1[q']? = some (.inr (a, n')) → ¬ (q' = q ∧ i = k) := fun a q' n' i hq' h9 => by
    rw [h9.1, hq] at hq'
    cases hq'
  match v with
  | .inl x => exact ⟨rfl, fun f hf q' hq' => ⟨zp_u_ne (e f hf q' hq'), rfl⟩, fun a _ q' n' hq' i => ⟨zp_u_ne (e2 a q' n' i hq'), rfl⟩⟩
  | .inr (.inl x) => exact ⟨rfl, fun f hf q' hq' => ⟨rfl, zp_u_ne (e f hf q' hq')⟩, fun a _ q' n' hq' i => ⟨rfl, zp_u_ne (e2 a q' n' i hq')⟩⟩
  | .inr (.inr x) => exact ⟨rfl, fun f hf q' hq' => ⟨rfl, rfl⟩, fun _ _ _ _ _ _ => ⟨rfl, rfl⟩⟩
/-- what a step leaves -/
def ykN (A : List Nat) (F : List (Nat × Nat)) (h : zp_H) (o : zp_N) : Prop := ∀ S', o = some (.inl S') → ykF A F h S'.2.2.2.1
section
variable {A : List Nat} {F : List (Nat × Nat)} {pc : Nat} {lv : zp_LV} {st : List zp_V} {t : zp_T}
theorem ykN_go : ykN A F t.1 (zp_go lv t pc st) := fun S' e => by
  have e : (some (Sum.inl (pc, lv, st, t)) : zp_N) = some (.inl S') := e
  cases e
  exact ykF_r
theorem ykN_n {h : zp_H} : ykN A F h none := fun _ e => by cases e
theorem ykN_b {h : zp_H} {b : Bool} {x y : zp_N} (h1 : ykN A F h x) (h2 : ykN A F h y) : ykN A F h (bif b then x else y) := by
  cases b
  · exact h2
  · exact h1
theorem ykN_i {h : zp_H} {p : Prop} {_ : Decidable p} {x y : zp_N} (h1 : ykN A F h x) (h2 : ykN A F h y) : ykN A F h (if p then x else y) := by
  split
  · exact h1
  · exact h2
theorem ykN_binI (g : Int32 → Int32 → Int32) : ykN A F t.1 (zp_binI g pc lv st t) := by
  unfold zp_binI
  repeat' (first | exact ykN_go | exact ykN_n | apply ykN_b | apply ykN_i | split)
theorem ykN_divI (g : Int32 → Int32 → Int32) : ykN A F t.1 (zp_divI g pc lv st t) := by
  unfold zp_divI
  repeat' (first | exact ykN_go | exact ykN_n | apply ykN_b | apply ykN_i | split)
theorem ykN_binL (g : Int64 → Int64 → Int64) : ykN A F t.1 (zp_binL g pc lv st t) := by
  unfold zp_binL
  repeat' (first | exact ykN_go | exact ykN_n | apply ykN_b | apply ykN_i | split)
theorem ykN_shL (g : Int64 → Int32 → Int64) : ykN A F t.1 (zp_shL g pc lv st t) := by
  unfold zp_shL
  repeat' (first | exact ykN_go | exact ykN_n | apply ykN_b | apply ykN_i | split)
theorem ykN_getf (r : Option za_row) : ykN A F t.1 (zp_getf r pc lv st t) := by
  unfold zp_getf
  repeat' (first | exact ykN_go | exact ykN_n | apply ykN_b | apply ykN_i | split)
theorem ykN_ald (L : Nat) (σ : Nat → Int32) (b : Bool) : ykN A F t.1 (zp_ald L σ b pc lv st t) := by
  unfold zp_ald
  repeat' (first | exact ykN_go | exact ykN_n | apply ykN_b | apply ykN_i | split)
theorem ykN_lld  : ykN A F t.1 (zp_lld  pc lv st t) := by
  unfold zp_lld
  repeat' (first | exact ykN_go | exact ykN_n | apply ykN_b | apply ykN_i | split)
theorem ykN_alen (L : Nat) : ykN A F t.1 (zp_alen L pc lv st t) := by
  unfold zp_alen
  repeat' (first | exact ykN_go | exact ykN_n | apply ykN_b | apply ykN_i | split)
theorem ykN_iinc (i nL : Nat) (d : Int) : ykN A F t.1 (zp_iinc i nL d pc lv st t) := by
  unfold zp_iinc
  repeat' (first | exact ykN_go | exact ykN_n | apply ykN_b | apply ykN_i | split)
theorem ykN_jmp (o : Int) : ykN A F t.1 (zp_jmp o pc lv st t) := by
  unfold zp_jmp
  repeat' (first | exact ykN_go | exact ykN_n | apply ykN_b | apply ykN_i | split)
theorem ykN_br (b : Bool) (o : Int) : ykN A F t.1 (zp_br b o pc lv st t) := by
  unfold zp_br
  repeat' (first | exact ykN_go | exact ykN_n | apply ykN_b | apply ykN_i | split)
theorem ykN_if1 (f : Int32 → Bool) (o : Int) : ykN A F t.1 (zp_if1 f o pc lv st t) := by
  unfold zp_if1
  repeat' (first | exact ykN_br _ _ | exact ykN_go | exact ykN_n | apply ykN_b | apply ykN_i | split)
theorem ykN_if2 (f : Int32 → Int32 → Bool) (o : Int) : ykN A F t.1 (zp_if2 f o pc lv st t) := by
  unfold zp_if2
  repeat' (first | exact ykN_br _ _ | exact ykN_go | exact ykN_n | apply ykN_b | apply ykN_i | split)
theorem ykN_tsw (dflt lo hi : Int) (offs : Array Int) : ykN A F t.1 (zp_tsw dflt lo hi offs pc lv st t) := by
  unfold zp_tsw
  repeat' (first | exact ykN_jmp _ | exact ykN_go | exact ykN_n | apply ykN_b | apply ykN_i | split)
theorem ykN_lsw (dflt : Int) (ps : Array (Int × Int)) : ykN A F t.1 (zp_lsw dflt ps pc lv st t) := by
  unfold zp_lsw
  repeat' (first | exact ykN_jmp _ | exact ykN_go | exact ykN_n | apply ykN_b | apply ykN_i | split)
theorem ykN_unI (g : Int32 → Int32) : ykN A F t.1 (zp_unI g pc lv st t) := by
  unfold zp_unI
  repeat' (first | exact ykN_go | exact ykN_n | apply ykN_b | apply ykN_i | split)
theorem ykN_i2l  : ykN A F t.1 (zp_i2l  pc lv st t) := by
  unfold zp_i2l
  repeat' (first | exact ykN_go | exact ykN_n | apply ykN_b | apply ykN_i | split)
theorem ykN_l2i  : ykN A F t.1 (zp_l2i  pc lv st t) := by
  unfold zp_l2i
  repeat' (first | exact ykN_go | exact ykN_n | apply ykN_b | apply ykN_i | split)
theorem ykN_lcmp  : ykN A F t.1 (zp_lcmp  pc lv st t) := by
  unfold zp_lcmp
  repeat' (first | exact ykN_go | exact ykN_n | apply ykN_b | apply ykN_i | split)
theorem ykN_dup  : ykN A F t.1 (zp_dup  pc lv st t) := by
  unfold zp_dup
  repeat' (first | exact ykN_go | exact ykN_n | apply ykN_b | apply ykN_i | split)
theorem ykN_pop  : ykN A F t.1 (zp_pop  pc lv st t) := by
  unfold zp_pop
  repeat' (first | exact ykN_go | exact ykN_n | apply ykN_b | apply ykN_i | split)
theorem ykN_dup2  : ykN A F t.1 (zp_dup2  pc lv st t) := by
  unfold zp_dup2
  repeat' (first | exact ykN_go | exact ykN_n | apply ykN_b | apply ykN_i | split)
theorem ykN_str (cl k : Nat) (is : List (Nat × Instr)) : ykN A F t.1 (zp_str cl k is pc lv st t) := by
  unfold zp_str
  repeat' (first | exact ykN_go | exact ykN_n | apply ykN_b | apply ykN_i | split)
theorem ykN_ldc (n : Nat) (r : Option za_row) : ykN A F t.1 (zp_ldc n r pc lv st t) := by
  unfold zp_ldc
  repeat' (first | exact ykN_go | exact ykN_n | apply ykN_b | apply ykN_i | split)
theorem ykN_ldc2 (r : Option za_row) : ykN A F t.1 (zp_ldc2 r pc lv st t) := by
  unfold zp_ldc2
  repeat' (first | exact ykN_go | exact ykN_n | apply ykN_b | apply ykN_i | split)
theorem ykN_load (k i : Nat) (f : zp_V → Bool) : ykN A F t.1 (zp_load k i f pc lv st t) := by
  unfold zp_load
  repeat' (first | exact ykN_go | exact ykN_n | apply ykN_b | apply ykN_i | split)
theorem ykN_stor1 (k i nL : Nat) (f : zp_V → Bool) : ykN A F t.1 (zp_stor1 k i nL f pc lv st t) := by
  unfold zp_stor1
  repeat' (first | exact ykN_go | exact ykN_n | apply ykN_b | apply ykN_i | split)
theorem ykN_stor2 (k i nL : Nat) : ykN A F t.1 (zp_stor2 k i nL pc lv st t) := by
  unfold zp_stor2
  repeat' (first | exact ykN_go | exact ykN_n | apply ykN_b | apply ykN_i | split)
theorem ykN_ast (b : Bool) (hA : ∀ a ∈ A, ¬ ((b = false ↔ a = 0) ∧ a < 3)) : ykN A F t.1 (zp_ast b pc lv st t) := by
  intro S' e
  unfold zp_ast at e
  split at e
  · split at e
    · rename_i hq
      split at e
      · rename_i hc
        cases e
        exact ykF_ar hq (fun a ha h9 => hA a ha (by rw [h9]; exact ⟨hc.1, hc.2.1⟩))
      · cases e
    · cases e
  · cases e
theorem ykN_lst (hA : ∀ a ∈ A, a ≠ 3) : ykN A F t.1 (zp_lst pc lv st t) := by
  intro S' e
  unfold zp_lst at e
  split at e
  · split at e
    · rename_i hq
      split at e
      · cases e
        exact ykF_al hq hA
      · cases e
    · cases e
  · cases e
theorem ykN_acp (hA : ∀ a ∈ A, a ≠ 0) : ykN A F t.1 (zp_acp pc lv st t) := by
  intro S' e
  unfold zp_acp at e
  split at e
  · split at e
    · rename_i hq0 hq1
      split at e
      · cases e
        exact ykF_aa hq1 hA
      · cases e
    · cases e
  · cases e
theorem ykN_putf {r : Option za_row} {own : Nat} {ini : Bool} (hn : ∀ c k z, r = some (0, c, k, z) → ∀ f ∈ F, ¬ (f.1 = c ∧ f.2 = k)) : ykN A F t.1 (zp_putf r own ini pc lv st t) := by
  intro S' e
  unfold zp_putf at e
  split at e
  · rename_i c k z v q rest
    split at e
    · rename_i cj hq
      cases h1 : Nat.beq cj c with
      | false => rw [h1] at e; cases e
      | true =>
        rw [h1] at e
        have e1 := za_beq h1
        subst e1
        cases h2 : Nat.blt k (za_nX cj) with
        | false => rw [h2] at e; cases e
        | true =>
          rw [h2] at e
          cases h3 : zp_fit (za_tyX cj k) v with
          | false => rw [h3] at e; cases e
          | true =>
            rw [h3] at e
            simp only [cond_true] at e
            split at e
            · cases e
              exact ykF_pf hq (hn _ _ _ rfl)
            · cases e
    · cases e
  · cases e
end
/-- an instruction puts none of the fields, no such array; it calls methods of S alone -/
def ykP (cl : Nat) (A : List Nat) (F : List (Nat × Nat)) (i : Instr) : Bool := match i with
  | .putfield n => (match za_CP cl n with
    | some (0, c, k, _) => F.all (fun f => ((Nat.beq f.1 c).and (Nat.beq f.2 k)).not)
    | _ => true)
  | .iastore => A.all (fun a => (Nat.beq a 0).not)
  | .bastore => A.all (fun a => (Nat.beq a 0).or (Nat.ble 3 a))
  | .lastore => A.all (fun a => (Nat.beq a 3).not)
  | .invokestatic n => (match za_CP cl n with
    | some (14, _, _, _) => A.all (fun a => (Nat.beq a 0).not)
    | _ => true)
  | _ => true
theorem ykP_n {A : List Nat} {k : Nat} (h : A.all (fun a => (Nat.beq a k).not) = true) : ∀ a ∈ A, a ≠ k := fun a ha h9 => by
  have h8 := List.all_eq_true.mp h a ha
  rw [h9, Nat.beq_refl] at h8
  cases h8
def ykC (cl : Nat) (S : List Nat) (i : Instr) : Bool := match i with
  | .invokevirtual n => (match za_CP cl n with
    | some (1, j, _, _) => S.any (Nat.beq j)
    | some (11, j, _, _) => S.any (Nat.beq j)
    | _ => true)
  | .invokestatic n => (match za_CP cl n with
    | some (2, j, _, _) => S.any (Nat.beq j)
    | some (12, j, _, _) => S.any (Nat.beq j)
    | _ => true)
  | _ => true
def ykS (A : List Nat) (F : List (Nat × Nat)) (S : List Nat) : Bool := S.all (fun j => match za_MT j with
  | some M => (za_is M).all (fun q => (ykP (za_cl M) A F q.2).and (ykC (za_cl M) S q.2))
  | none => false)
theorem ykN_ins {A : List Nat} {F : List (Nat × Nat)} {L : Nat} {σ : Nat → Int32} {M : za_MI} {i : Instr} {pc : Nat} {lv : zp_LV} {st : List zp_V} {t : zp_T} (hi : ykP (za_cl M) A F i = true) : ykN A F t.1 (zp_ins L σ M (za_CP (za_cl M)) i pc lv st t) := by
  cases i with
  | iconst k => exact ykN_go
  | bipush k => exact ykN_b (ykN_b ykN_go ykN_n) ykN_n
  | sipush k => exact ykN_go
  | lconst k => exact ykN_go
  | ldc k => exact ykN_b (ykN_str _ _ _) (ykN_ldc _ _)
  | ldc_w k => exact ykN_ldc _ _
  | ldc2_w k => exact ykN_ldc2 _
  | iload k => exact ykN_load _ _ _
  | iload_n k => exact ykN_load _ _ _
  | lload k => exact ykN_load _ _ _
  | lload_n k => exact ykN_load _ _ _
  | aload k => exact ykN_load _ _ _
  | aload_n k => exact ykN_load _ _ _
  | istore k => exact ykN_stor1 _ _ _ _
  | istore_n k => exact ykN_stor1 _ _ _ _
  | astore k => exact ykN_stor1 _ _ _ _
  | astore_n k => exact ykN_stor1 _ _ _ _
  | lstore k => exact ykN_stor2 _ _ _
  | lstore_n k => exact ykN_stor2 _ _ _
  | iinc k d => exact ykN_iinc _ _ _
  | iadd => exact ykN_binI _
  | isub => exact ykN_binI _
  | imul => exact ykN_binI _
  | iand => exact ykN_binI _
  | ior => exact ykN_binI _
  | ixor => exact ykN_binI _
  | ishl => exact ykN_binI _
  | ishr => exact ykN_binI _
  | iushr => exact ykN_binI _
  | idiv => exact ykN_divI _
  | irem => exact ykN_divI _
  | i2b => exact ykN_unI _
  | ineg => exact ykN_unI _
  | ladd => exact ykN_binL _
  | lsub => exact ykN_binL _
  | lmul => exact ykN_binL _
  | land => exact ykN_binL _
  | lor => exact ykN_binL _
  | lxor => exact ykN_binL _
  | lshl => exact ykN_shL _
  | lshr => exact ykN_shL _
  | lushr => exact ykN_shL _
  | i2l => exact ykN_i2l
  | l2i => exact ykN_l2i
  | lcmp => exact ykN_lcmp
  | dup => exact ykN_dup
  | pop => exact ykN_pop
  | dup2 => exact ykN_dup2
  | laload => exact ykN_lld
  | lastore => exact ykN_lst (ykP_n hi)
  | ifCond c o => cases c <;> exact ykN_if1 _ _
  | if_icmp c o => cases c <;> exact ykN_if2 _ _
  | goto o => exact ykN_jmp _
  | tableswitch d lo hi os => exact ykN_tsw _ _ _ _
  | lookupswitch d ps => exact ykN_lsw _ _
  | getfield k => exact ykN_getf _
  | putfield k =>
    refine ykN_putf (fun c k9 z hr f hf h9 => ?_)
    unfold ykP at hi
    simp only [hr] at hi
    have h8 := List.all_eq_true.mp hi f hf
    rw [h9.1, h9.2, Nat.beq_refl, Nat.beq_refl] at h8
    cases h8
  | iaload => exact ykN_ald _ _ _
  | baload => exact ykN_ald _ _ _
  | iastore => exact ykN_ast _ (fun a ha h9 => ykP_n (k := 0) hi a ha (h9.1.mp rfl))
  | bastore => exact ykN_ast _ (fun a ha h9 => by
      rcases Bool.or_eq_true_iff.mp (List.all_eq_true.mp hi a ha) with h8 | h8
      · cases h9.1.mpr (za_beq h8)
      · have := za_ble h8
        omega)
  | arraylength => exact ykN_alen _
  | invokestatic k =>
    unfold zp_ins
    unfold ykP at hi
    dsimp only at hi ⊢
    split
    · rename_i hr
      simp only [hr] at hi
      exact ykN_acp (ykP_n hi)
    · exact ykN_n
  | _ => exact ykN_n
theorem ykX_end {M : za_MI} {cp : Nat → Option za_row} {i : Instr} {pc : Nat} {st : List zp_V} {t : zp_T} {X : zp_X} (h : zp_end M cp i pc st t = some X) : X.2 = t.1 := by
  unfold zp_end at h
  split at h
  · unfold zp_iret at h
    split at h
    · split at h <;> cases h <;> rfl
    · split at h <;> cases h <;> rfl
    · cases h
  · unfold zp_lret at h
    split at h
    · split at h <;> cases h <;> rfl
    · cases h
  · unfold zp_vret at h
    split at h
    · split at h <;> cases h <;> rfl
    · cases h
  · split at h
    · unfold zp_thr at h
      split at h
      · split at h
        · split at h
          · split at h <;> cases h <;> rfl
          · cases h
        · cases h
      · split at h
        · split at h
          · split at h <;> cases h <;> rfl
          · cases h
        · cases h
      · cases h
    · cases h
  · cases h
theorem ykC_m {j : Nat} {S : List Nat} (h : S.any (Nat.beq j) = true) : j ∈ S := by
  obtain ⟨x, h1, h2⟩ := List.any_eq_true.mp h
  rw [za_beq h2]
  exact h1
theorem ykC_cl {M : za_MI} {i : Instr} {st : List zp_V} {t : zp_T} {nx : Bool} {j k : Nat} {Y : za_MI} {S : List Nat} (h : zp_cl (za_CP (za_cl M)) i st t = some (nx, j, k, Y)) (hc : ykC (za_cl M) S i = true) : j ∈ S := by
  unfold zp_cl at h
  split at h
  · unfold ykC at hc
    split at h
    · rename_i hr
      simp only [hr] at hc
      split at h
      · cases hb : zp_isRk st _ t.1 _ with
        | false => rw [hb] at h; cases h
        | true => rw [hb] at h; cases h; exact ykC_m hc
      · cases h
    · rename_i hr
      simp only [hr] at hc
      split at h
      · cases hb : zp_isRk st _ t.1 _ with
        | false => rw [hb] at h; cases h
        | true => rw [hb] at h; cases h; exact ykC_m hc
      · cases h
    · cases h
  · unfold ykC at hc
    split at h
    · rename_i hr
      simp only [hr] at hc
      split at h
      · cases h; exact ykC_m hc
      · cases h
    · rename_i hr
      simp only [hr] at hc
      split at h
      · cases h; exact ykC_m hc
      · cases h
    · cases h
  · cases h
theorem ykA {A : List Nat} {M : za_MI} {cp : Nat → Option za_row} {pc cs sl : Nat} {lv : zp_LV} {rest : List zp_V} {X1 : zp_X} {F : List (Nat × Nat)} {R : zp_S → zp_X → Prop} {X : zp_X} (hR : ∀ S, R S X → ykF A F S.2.2.2.1 X.2) (h : zp_K1 R (zp_aft M cp pc lv rest cs sl X1) X) : ykF A F X1.2 X.2 := by
  unfold zp_aft at h
  split at h
  · exact hR _ h
  · exact hR _ h
  · split at h
    · exact h.elim
    · rw [← (show _ = X from h)]
      exact ykF_r
    · split at h
      · rename_i k9 _
        cases hb : Nat.blt k9.val (za_nL M) with
        | false => rw [hb] at h; exact h.elim
        | true => rw [hb] at h; exact hR _ h
      · rename_i k9 _
        cases hb : Nat.blt k9 (za_nL M) with
        | false => rw [hb] at h; exact h.elim
        | true => rw [hb] at h; exact hR _ h
      · exact h.elim
theorem ykF_run {A : List Nat} {F : List (Nat × Nat)} {L : Nat} {σ : Nat → Int32} {M : za_MI} {C : zp_C} {S : List Nat} (hM : (za_is M).all (fun q => (ykP (za_cl M) A F q.2).and (ykC (za_cl M) S q.2)) = true) (hC : ∀ j as h X, j ∈ S → C j as h X → ykF A F h X.2) : ∀ (n : Nat) (s : zp_S) (X : zp_X), zp_RunN L σ M C n s X → ykF A F s.2.2.2.1 X.2
  | 0, _, _, h => h.elim
  | n + 1, s, X, h => by
    obtain ⟨i, hi, h⟩ := h
    have hm := Bool.and_eq_true_iff.mp (List.all_eq_true.mp hM _ (za_fe_mem hi))
    rcases h with ⟨s', h1, h2⟩ | h1 | ⟨nx, j, k, Y, X1, h1, h2, h3, h4, h5⟩
    · exact ykF_t (ykN_ins hm.1 s' h1) (ykF_run hM hC n s' X h2)
    · rw [ykX_end h1]
      exact ykF_r
    · exact ykF_t (hC _ _ _ _ (ykC_cl h1 hm.2) h3) (ykA (fun s9 h9 => ykF_run hM hC n s9 X h9) h5)
theorem ykF_call {A : List Nat} {F : List (Nat × Nat)} {L : Nat} {σ : Nat → Int32} {S : List Nat} (hS : ykS A F S = true) : ∀ (d j : Nat) (as : List zp_V) (h : zp_H) (X : zp_X), j ∈ S → zp_Call L σ d j as h X → ykF A F h X.2
  | 0, _, _, _, _, _, h => h.elim
  | d + 1, j, as, h, X, hj, hc => by
    obtain ⟨Y, n, h1, h2, h3⟩ := hc
    have hM := List.all_eq_true.mp hS j hj
    rw [h1] at hM
    exact ykF_run hM (fun j as h X hj hc => ykF_call hS d j as h X hj hc) n _ X h3
/-- line and all that it calls -/
def ykS_line : List Nat := [171, 172, 173, 174, 175, 176, 177, 178, 179, 180, 181, 182, 183, 184, 185, 186, 187, 188, 189, 190, 191, 192, 193, 194, 195, 196, 197, 198, 199, 200, 201, 202, 203]
theorem ykS_line_t : ykS [] [(12, 0), (12, 80)] ykS_line = true := by decide +kernel
theorem ykF_line {L : Nat} {σ : Nat → Int32} {d : Nat} {as : List zp_V} {H : zp_H} {X : zp_X} (W : zw_W H) (h : zp_Call L σ d 176 as H X) : X.2.2.1 72 0 = H.2.1 72 0 := ((ykF_call ykS_line_t d 176 as H X (by decide) h).2.1 (12, 0) (by decide) 72 (by rw [W.1]; rfl)).1
/-- sea of the reference and all that it calls: no long array, and no object but its own is written -/
def ykS_sea : List Nat := [169, 170, 171, 172, 173, 174, 175, 176, 177, 178, 179, 180, 181, 182, 183, 184, 185, 186, 187, 188, 189, 190, 191, 192, 193, 194, 195, 196, 197, 198, 199, 200, 201, 202, 203, 204]
theorem ykS_sea_t : ykS [3] [] ykS_sea = true := by decide +kernel
theorem ykF_sea {L : Nat} {σ : Nat → Int32} {d : Nat} {as : List zp_V} {H : zp_H} {X : zp_X} (W : zw_W H) (h : zp_Call L σ d 169 as H X) : ∀ i, X.2.2.2.1 104 i = H.2.2.1 104 i := fun i => ((ykF_call ykS_sea_t d 169 as H X (by decide) h).2.2 3 (by decide) 104 1 (by rw [W.1]; rfl) i).2
end
section
/-! ===== what reading leaves untouched in the reference ===== -/
def yQb (q : Nat × Nat) : Bool := ((Nat.beq q.1 72).and (((Nat.ble 1 q.2).and (Nat.ble q.2 21)).or ((Nat.beq q.2 62).or ((Nat.ble 79 q.2).and (Nat.ble q.2 81))))).or (((Nat.ble 73 q.1).and (Nat.ble q.1 80)).or ((Nat.beq q.1 82).or ((Nat.beq q.1 93).or ((Nat.ble 98 q.1).and (Nat.ble q.1 103)))))
theorem yQb_0 {p k : Nat} (h : yQb (p, k) = true) : 72 ≤ p ∧ ¬ (p = 72 ∧ k = 100) ∧ p ≠ 83 ∧ p ≠ 81 := by
  rcases Bool.or_eq_true_iff.mp h with h | h
  · obtain ⟨a, b⟩ := Bool.and_eq_true_iff.mp h
    have a : p = 72 := za_beq a
    refine ⟨by omega, fun h9 => ?_, by omega, by omega⟩
    have e := h9.2
    subst e
    exact absurd (show false = true from b) (by decide)
  rcases Bool.or_eq_true_iff.mp h with h | h
  · obtain ⟨a, b⟩ := Bool.and_eq_true_iff.mp h
    have a : 73 ≤ p := Nat.le_of_ble_eq_true a
    have b : p ≤ 80 := Nat.le_of_ble_eq_true b
    omega
  rcases Bool.or_eq_true_iff.mp h with h | h
  · have a : p = 82 := za_beq h
    omega
  rcases Bool.or_eq_true_iff.mp h with h | h
  · have a : p = 93 := za_beq h
    omega
  · obtain ⟨a, b⟩ := Bool.and_eq_true_iff.mp h
    have a : 98 ≤ p := Nat.le_of_ble_eq_true a
    have b : p ≤ 103 := Nat.le_of_ble_eq_true b
    omega
def yQr (H H' : zp_H) : Prop := (∀ p k, yQb (p, k) = true → H'.2.1 p k = H.2.1 p k) ∧ H'.2.2.1 72 12 = H.2.2.1 72 12
theorem yQr_r {H : zp_H} : yQr H H := ⟨fun _ _ _ => rfl, rfl⟩
theorem yQr_t {H H' H'' : zp_H} (h1 : yQr H H') (h2 : yQr H' H'') : yQr H H'' := ⟨fun p k h => (h2.1 p k h).trans (h1.1 p k h), h2.2.trans h1.2⟩
theorem yQr_I {H0 H : zp_H} {p k : Nat} {x : Int32} (h : yQr H0 H) (hp : yQb (p, k) = false) : yQr H0 (zw_I H p k x) := ⟨fun q j hq => (zp_u_ne (fun h9 => by
  obtain ⟨rfl, rfl⟩ := h9
  rw [hp] at hq
  cases hq)).trans (h.1 q j hq), h.2⟩
theorem yQr_J {H0 H : zp_H} {p k : Nat} {x : Int64} (h : yQr H0 H) (hp : (Nat.beq p 72).and (Nat.beq k 12) = false) : yQr H0 (zw_J H p k x) := ⟨h.1, (zp_u_ne (fun h9 => by
  obtain ⟨rfl, rfl⟩ := h9
  cases hp)).trans h.2⟩
theorem yQr_F {mods : List (Nat × Nat)} {am : List Nat} {H H1 : zp_H} (h : zk_Fr zg mods am H H1) (hm : mods.all (fun q => (yQb q).not) = true) (hl : mods.all (fun q => ((Nat.beq q.1 72).and (Nat.beq q.2 12)).not) = true) (ha : am.all (fun q => ((yQb (q, 0)).or (Nat.beq q 72)).not) = true) : yQr H H1 := by
  have na : ∀ p k, yQb (p, k) = true → zk_ina am p = false := fun p k hp => by
    refine zI_na (P := fun q => ((yQb (q, 0)).or (Nat.beq q 72)).not) ha ?_
    show ((yQb (p, 0)).or (Nat.beq p 72)).not = false
    rcases Bool.or_eq_true_iff.mp hp with h | h
    · have e : Nat.beq p 72 = true := (Bool.and_eq_true_iff.mp h).1
      rw [e, Bool.or_true]
      rfl
    · have e : yQb (p, 0) = true := Bool.or_eq_true_iff.mpr (Or.inr h)
      rw [e]
      rfl
  refine ⟨fun p k hp => (zI_in h (zI_nm (P := fun q => (yQb q).not) hm (by show (yQb (p, k)).not = false; rw [hp]; rfl)) (na p k hp) (yQb_0 hp).2.1).1, (zI_in h (zI_nm hl rfl) (na 72 12 rfl) (by decide)).2⟩
/-- a line -/
theorem yQr_line {L : Nat} {σ : Nat → Int32} {d : Nat} {H : zp_H} {X : zp_X} (hB : zk_Bs zR zg zJ H) (h0 : (H.2.1 72 23).toInt = 0) (hJ : zl_J H) (ht : (H.2.1 72 45).toInt ≤ zx_phi H) (c1 : zp_Call L σ d 176 [.inr (.inr (some 73))] H X) : yQr H X.2 := by
  have g := zg_in H
  have g : -1 ≤ zg H ∧ zg H ≤ 20 := g
  have key : ∀ {lo hi : Int} {pr : List (Nat × Nat × Int × Int)} {oc : List zk_Oc}, zk_Ct L σ zR zg zJ (176, [.inr (some (some 73))], [(72, 23, 0, 0), (72, 100, lo, hi)], zr_e38.2.2.2.1, zr_e38.2.2.2.2.1, oc, 12) → lo ≤ zg H ∧ zg H ≤ hi → yQr H X.2 := fun {lo hi pr oc} hct hg => by
    obtain ⟨Y, x1, x2, x3, _⟩ := hct (12 + 0) (Nat.le_add_right 12 0) [.inr (.inr (some 73))] H ⟨rfl, trivial⟩ hB (fun f hf => by
      rcases List.mem_cons.mp hf with rfl | hf
      · exact ⟨by show (0 : Int) ≤ (H.2.1 72 23).toInt; omega, by show (H.2.1 72 23).toInt ≤ (0 : Int); omega⟩
      · rcases List.mem_cons.mp hf with rfl | hf
        · exact hg
        · exact absurd hf List.not_mem_nil)
    obtain rfl := zp_Call_u c1 x1
    exact yQr_F x3 (show zr_e38.2.2.2.1.all (fun q => (yQb q).not) = true by decide +kernel) (show zr_e38.2.2.2.1.all (fun q => ((Nat.beq q.1 72).and (Nat.beq q.2 12)).not) = true by decide +kernel) (show zr_e38.2.2.2.2.1.all (fun q => ((yQb (q, 0)).or (Nat.beq q 72)).not) = true by decide +kernel)
  by_cases h1 : zg H ≤ 15
  · exact key (pr := []) zro_e38 ⟨g.1, h1⟩
  · by_cases h2 : zg H = 16
    · obtain ⟨_, c2, H1, rfl, _, c5⟩ := zl_line16 (L := L) (σ := σ) (d := 0) zx_KWt hB h0 h2 hJ ht
      obtain rfl := zp_Call_u c1 c2
      exact yQr_F c5 (by decide +kernel) (by decide +kernel) (by decide +kernel)
    · exact key (pr := []) zro_e39 ⟨by omega, g.2⟩
end
