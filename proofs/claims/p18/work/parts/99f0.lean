/-! ===== the reference: a line, in parts ===== -/

/-- a line is read, its end too -/
def yLr (T : Nat → Int) (n : Nat) (dd : yLD) (p : Nat) (X : zp_X) : Prop := ∃ H1, X = (.inl none, H1) ∧ zk_Bs zR zg zJ H1 ∧ ∃ d', yS T n (0, [], 0, 0, 0, dd, p) (fun q => (0, [], 0, 0, 0, d', q)) H1 ∧ ((H1.2.1 72 23).toInt = 0 → (yDr d' H1 ∧ xXr T n [] d' H1) ∧ d'.1 0 = 0)
theorem yLr_b {T : Nat → Int} {n p : Nat} {dd : yLD} {r : Int × Nat} {H1 : zp_H} (h1 : zk_Bs zR zg zJ H1) (h2 : (H1.2.1 72 23).toInt ≠ 0) (h3 : yD T n r H1) (h4 : yA2 T n (0, [], 0, 0, 0, dd, p) r) : yLr T n dd p (.inl none, H1) := ⟨H1, rfl, h1, dd, Or.inr ⟨h2, r, h3, h4⟩, fun h9 => absurd h9 h2⟩
theorem yDr_0 {d : yLD} {v : Int} {H : zp_H} (h : yDr d H) : yDr (yU d.1 0 v, d.2) H := by
  obtain ⟨a0, a1, a2, a3, a4, a5, a6, a7, a8, a9, a11, a12, a13⟩ := h
  exact ⟨a0, a1, a2, a3, a4, a5, a6, a7, a8, a9, a11, a12, a13⟩
theorem yDr_34s {d : yLD} {x : Int32} {v : Int} {H : zp_H} (h : yDr d H) (hx : x.toInt = v) : yDr (yU d.1 1 v, d.2) (zw_I H 72 34 x) := by
  obtain ⟨a0, a1, a2, a3, a4, a5, a6, a7, a8, a9, a11, a12, a13⟩ := h
  exact ⟨hx, a1, a2, a3, a4, a5, a6, a7, a8, a9, a11, a12, a13⟩
theorem yDr_35s {d : yLD} {x : Int32} {v : Int} {H : zp_H} (h : yDr d H) (hx : x.toInt = v) : yDr (yU d.1 2 v, d.2) (zw_I H 72 35 x) := by
  obtain ⟨a0, a1, a2, a3, a4, a5, a6, a7, a8, a9, a11, a12, a13⟩ := h
  exact ⟨a0, hx, a2, a3, a4, a5, a6, a7, a8, a9, a11, a12, a13⟩
theorem yw_h : ∀ j, j < 22 → ∀ k, k < 17 → 8 ≤ k → (yw_m (j : Nat) = ((k : Nat) : Int) ↔ ((j : Nat) : Int) = ((k : Nat) : Int) + 4) := by decide
theorem yr_hd {T : Nat → Int} {n p : Nat} {H : zp_H} (h : yP T n p H) {k : Int} (hk : 8 ≤ k ∧ k ≤ 16) : zg H = k ↔ (ys_kd T n p = 3 ∧ ys_vl T n p = k + 4) := by
  rw [yr_zg h.2.2 h.2.1]
  by_cases hk3 : ys_kd T n p = 3
  · rw [if_pos hk3]
    have hv := ys_vl_b hk3
    have e := yw_h (ys_vl T n p).toNat (by omega) k.toNat (by omega) (by omega)
    rw [show (((ys_vl T n p).toNat : Nat) : Int) = ys_vl T n p by omega, show ((k.toNat : Nat) : Int) = k by omega] at e
    exact e.trans ⟨fun h9 => ⟨hk3, h9⟩, fun h9 => h9.2⟩
  · rw [if_neg hk3]
    exact ⟨fun h9 => by omega, fun h9 => absurd h9.1 hk3⟩
theorem y0w_no {T : Nat → Int} {n p : Nat} {d : yLD} (h0 : ys_kd T n p ≠ 0) (h : ¬ (ys_kd T n p = 3 ∧ 12 ≤ ys_vl T n p ∧ ys_vl T n p ≤ 20)) : y0 T n d p = .inr (1, p) := by
  unfold y0
  rw [if_neg h0]
  by_cases h3 : ys_kd T n p = 3
  · rw [if_neg (by omega), if_neg (by omega), if_neg (by omega), if_neg (by omega), if_neg (by omega), if_neg (by omega), if_neg (by omega), if_neg (by omega), if_neg (by omega), if_neg (by omega)]
  · rw [if_pos h3]

set_option maxHeartbeats 4000000 in
set_option maxRecDepth 8000 in
theorem yx_lE {L : Nat} {σ : Nat → Int32} {d : Nat} {T : Nat → Int} {n p : Nat} {dd : yLD} {H : zp_H} {lv : zp_LV} {d' : yLD} (hby : ∀ k, k < n → -128 ≤ T k ∧ T k ≤ 127) (hB : zk_Bs zR zg zJ H) (hs : yS T n (0, [], 0, 0, 0, dd, p) (fun q => (50, [], 0, 0, 0, d', q)) H) (hD : (H.2.1 72 23).toInt = 0 → yDr d' H ∧ xXr T n [] d' H) (l0 : zp_get lv 0 = some (.inr (.inr (some 73)))) : zs_Safe L σ (yLr T n dd p) zm_176 [] (d + 8) (483, lv, [], H, (0, 0)) := by
  have W := zR_Wd (zR_dn hB)
  refine zw_ld (n := 1) (k := 0) (f := zp_isR) (pc' := 484) rfl rfl l0 rfl rfl ?_
  refine zw_ld (n := 1) (k := 0) (f := zp_isR) (pc' := 485) rfl rfl l0 rfl rfl ?_
  refine zw_s (pc' := 487) rfl rfl ?_
  by_cases h59 : (H.2.1 72 28).toInt = 3 ∧ (H.2.1 72 32).toInt = (Int32.ofInt 59).toInt
  · refine zw_c (pc' := 490) (zw_cv (q := 72) (Y := zm_194) W.1 rfl rfl zm_194_t rfl rfl) rfl rfl rfl rfl rfl (zq_sign1 W h59) ?_
    obtain ⟨H1, n1, n2, n3, n4, n5⟩ := yS_need (L := L) (σ := σ) (d := d + 5) (y := Int32.ofInt 1) (s' := fun q => (0, [], 0, 0, 0, (yU d'.1 0 0, d'.2), q)) hby hB hs (fun _ q hP => yN2_50.trans (if_pos ((yr_sg hP.2.1).mp h59))) (fun h9 => absurd h9 (by decide))
    refine zw_cn (pc' := 493) (zw_cv (q := 72) (Y := zm_186) W.1 rfl rfl zm_186_t rfl rfl) rfl rfl rfl rfl rfl (n1) ?_
    refine zw_rn rfl rfl ?_
    exact ⟨H1, rfl, n2, _, n4, fun h9 => ⟨⟨yDr_0 (yDr_M n3 (hD (n5 h9).1).1), xXr_k (by decide) (xXr_F n3 rfl (hD (n5 h9).1).2)⟩, rfl⟩⟩
  · refine zw_c (pc' := 490) (zw_cv (q := 72) (Y := zm_194) W.1 rfl rfl zm_194_t rfl rfl) rfl rfl rfl rfl rfl (zq_sign0 W h59) ?_
    obtain ⟨H1, n1, n2, n3, n4, n5⟩ := yS_need (L := L) (σ := σ) (d := d + 5) (y := Int32.ofInt 0) (s' := fun q => (0, [], 0, 0, 0, (yU d'.1 0 0, d'.2), q)) hby hB hs (fun h9 => absurd rfl h9) (fun _ q _ hP => yN2_50.trans (if_neg (fun h9 => h59 ((yr_sg hP.2.1).mpr h9))))
    refine zw_cn (pc' := 493) (zw_cv (q := 72) (Y := zm_186) W.1 rfl rfl zm_186_t rfl rfl) rfl rfl rfl rfl rfl (n1) ?_
    refine zw_rn rfl rfl ?_
    exact ⟨H1, rfl, n2, _, n4, fun h9 => ⟨⟨yDr_0 (yDr_M n3 (hD (n5 h9).1).1), xXr_k (by decide) (xXr_F n3 rfl (hD (n5 h9).1).2)⟩, rfl⟩⟩

set_option maxHeartbeats 4000000 in
set_option maxRecDepth 8000 in
theorem yx_l11 {L : Nat} {σ : Nat → Int32} {d : Nat} {T : Nat → Int} {n p : Nat} {dd : yLD} {H : zp_H} {lv : zp_LV} (hK : zx_KW L σ) (hby : ∀ k, k < n → -128 ≤ T k ∧ T k ≤ 127) (hB : zk_Bs zR zg zJ H) (hg : (H.2.1 72 23).toInt = 0) (hP : yP T n p H) (hD : yDr dd H) (hX : xXr T n [] dd H) (hk : ys_kd T n p = 3 ∧ ys_vl T n p = 15) (l0 : zp_get lv 0 = some (.inr (.inr (some 73)))) : zs_Safe L σ (yLr T n dd p) zm_176 [] (d + 8) (246, lv, [], H, (0, 0)) := by
  have W := zR_Wd (zR_dn hB)
  obtain ⟨_, c1, H1, rfl, c2, d', c3, c4⟩ := yx_slate (L := L) (σ := σ) (d := d + 2) hK hby hB hg hP hD hX hk
  refine zw_ld (n := 1) (k := 0) (f := zp_isR) (pc' := 247) rfl rfl l0 rfl rfl ?_
  refine zw_cn (pc' := 250) (zw_cv (q := 72) (Y := zm_187) W.1 rfl rfl zm_187_t rfl rfl) rfl rfl rfl rfl rfl (c1) ?_
  refine zw_s (pc' := 483) rfl rfl ?_
  exact yx_lE hby c2 c3 c4 l0

set_option maxHeartbeats 4000000 in
set_option maxRecDepth 8000 in
theorem yx_l12 {L : Nat} {σ : Nat → Int32} {d : Nat} {T : Nat → Int} {n p : Nat} {dd : yLD} {H : zp_H} {lv : zp_LV} (hK : zx_KW L σ) (hby : ∀ k, k < n → -128 ≤ T k ∧ T k ≤ 127) (hB : zk_Bs zR zg zJ H) (hg : (H.2.1 72 23).toInt = 0) (hP : yP T n p H) (hD : yDr dd H) (hX : xXr T n [] dd H) (hk : ys_kd T n p = 3 ∧ ys_vl T n p = 16) (l0 : zp_get lv 0 = some (.inr (.inr (some 73)))) : zs_Safe L σ (yLr T n dd p) zm_176 [] (d + 8) (259, lv, [], H, (0, 0)) := by
  have W := zR_Wd (zR_dn hB)
  obtain ⟨_, c1, H1, rfl, c2, d', c3, c4⟩ := yx_hand (L := L) (σ := σ) (d := d + 4) hby hB hg hP hD hX hk
  refine zw_ld (n := 1) (k := 0) (f := zp_isR) (pc' := 260) rfl rfl l0 rfl rfl ?_
  refine zw_cn (pc' := 263) (zw_cv (q := 72) (Y := zm_190) W.1 rfl rfl zm_190_t rfl rfl) rfl rfl rfl rfl rfl (c1) ?_
  refine zw_s (pc' := 483) rfl rfl ?_
  exact yx_lE hby c2 c3 c4 l0

set_option maxHeartbeats 4000000 in
set_option maxRecDepth 8000 in
theorem yx_l15 {L : Nat} {σ : Nat → Int32} {d : Nat} {T : Nat → Int} {n p : Nat} {dd : yLD} {H : zp_H} {lv : zp_LV} (hK : zx_KW L σ) (hby : ∀ k, k < n → -128 ≤ T k ∧ T k ≤ 127) (hB : zk_Bs zR zg zJ H) (hg : (H.2.1 72 23).toInt = 0) (hP : yP T n p H) (hD : yDr dd H) (hX : xXr T n [] dd H) (hk : ys_kd T n p = 3 ∧ ys_vl T n p = 19) (l0 : zp_get lv 0 = some (.inr (.inr (some 73)))) : zs_Safe L σ (yLr T n dd p) zm_176 [] (d + 8) (378, lv, [], H, (0, 0)) := by
  have W := zR_Wd (zR_dn hB)
  obtain ⟨_, c1, H1, rfl, c2, d', c3, c4⟩ := yx_pilot (L := L) (σ := σ) (d := d + 2) hby hB hg hP hD hX hk
  refine zw_ld (n := 1) (k := 0) (f := zp_isR) (pc' := 379) rfl rfl l0 rfl rfl ?_
  refine zw_cn (pc' := 382) (zw_cv (q := 72) (Y := zm_191) W.1 rfl rfl zm_191_t rfl rfl) rfl rfl rfl rfl rfl (c1) ?_
  refine zw_s (pc' := 483) rfl rfl ?_
  exact yx_lE hby c2 c3 c4 l0

set_option maxHeartbeats 4000000 in
set_option maxRecDepth 8000 in
theorem yx_l8 {L : Nat} {σ : Nat → Int32} {d : Nat} {T : Nat → Int} {n p : Nat} {dd : yLD} {H : zp_H} {lv : zp_LV} (hby : ∀ k, k < n → -128 ≤ T k ∧ T k ≤ 127) (hB : zk_Bs zR zg zJ H) (hg : (H.2.1 72 23).toInt = 0) (hP : yP T n p H) (hD : yDr dd H) (hX : xXr T n [] dd H) (hf0 : (H.2.1 72 50).toInt = dd.1 0) (hk : ys_kd T n p = 3 ∧ ys_vl T n p = 12) (l0 : zp_get lv 0 = some (.inr (.inr (some 73)))) : zs_Safe L σ (yLr T n dd p) zm_176 [] (d + 8) (11, lv, [], H, (0, 0)) := by
  have W := zR_Wd (zR_dn hB)
  refine zw_ld (n := 1) (k := 0) (f := zp_isR) (pc' := 12) rfl rfl l0 rfl rfl ?_
  refine zw_gI (q := 72) (pc' := 15) W rfl rfl rfl rfl rfl rfl ?_
  refine zw_bne1 (g := 23) (pc' := 18) rfl rfl rfl rfl (fun hf => ?_) (fun hf => ?_)
  · refine zw_ld (n := 1) (k := 0) (f := zp_isR) (pc' := 24) rfl rfl l0 rfl rfl ?_
    refine zw_c (pc' := 27) (zw_cv (q := 72) (Y := zm_175) W.1 rfl rfl zm_175_t rfl rfl) rfl rfl rfl rfl rfl (zq_good1 W hg) ?_
    refine zw_bne1 (g := 31) (pc' := 30) rfl rfl rfl (rfl : _ = (1 : Int)) (fun hb => ?_) (fun h9 => absurd h9 (by decide))
    obtain ⟨K0, g1, g2, g3, g4⟩ := yp_go (L := L) (σ := σ) (d := d + 6) hby hB hP
    have W0 := zR_Wd (zR_dn g2)
    have D0 := yDr_m g3 hD
    have X0 := xXr_F g3 rfl hX
    have S0 : yS T n (0, [], 0, 0, 0, dd, p) (fun q => (1, [], 0, 0, 0, dd, q)) K0 := Or.inl ⟨(zx_fe g3 23 rfl rfl rfl).trans hg, _, g4, yR2_s (yN2_0.trans ((y0w_12 hk).trans (if_pos (by omega))))⟩
    refine zw_ld (n := 1) (k := 0) (f := zp_isR) (pc' := 32) rfl rfl l0 rfl rfl ?_
    refine zw_cn (pc' := 35) (zw_cv (q := 72) (Y := zm_171) W.1 rfl rfl zm_171_t rfl rfl) rfl rfl rfl rfl rfl (g1) ?_
    obtain ⟨v, M, n1, n2, n3, n4, n5, n6⟩ := yS_nu (L := L) (σ := σ) (d := d + 5) (x := Int32.ofInt 2) (y := Int32.ofInt 8) (ok := fun v q => (2, [], v, 0, 0, dd, q)) hby g2 S0 (fun q => yN2_1) (by decide)
    have WM := zR_Wd (zR_dn n2)
    have DM := yDr_34s (x := v) (yDr_M n3 D0) rfl
    have XM := xXr_k (k := 1) (v := v.toInt) (by decide) (xXr_o (p := 72) (k := 34) (x := v) (by decide) (xXr_F n3 rfl X0))
    have cM := zR_cn n2
    have b1 : zk_Bs zR zg zJ (zw_I M 72 34 v) := by
      by_cases h9 : (M.2.1 72 23).toInt = 0
      · obtain ⟨_, y1, y2⟩ := n5 h9
        have y1 : (2 : Int) ≤ v.toInt := y1
        have y2 : v.toInt ≤ (8 : Int) := y2
        exact yB_f n2 (fun r hr => by cases hr; exact ⟨by show (0 : Int) ≤ _; omega, by show _ ≤ (8 : Int); omega⟩) rfl rfl (fun _ => ⟨⟨y1, y2⟩, (cM h9).2⟩)
      · have y1 := n6 h9
        exact yB_f n2 (fun r hr => by cases hr; rw [y1]; exact ⟨by decide, by decide⟩) rfl rfl (fun h8 => absurd h8 h9)
    have S1 := yS_f (k := 34) (x := v) (by decide) n4
    refine zw_ld (n := 1) (k := 0) (f := zp_isR) (pc' := 36) rfl rfl l0 rfl rfl ?_
    refine zw_ld (n := 1) (k := 0) (f := zp_isR) (pc' := 37) rfl rfl l0 rfl rfl ?_
    refine zw_s (pc' := 38) rfl rfl ?_
    refine zw_s (pc' := 40) rfl rfl ?_
    refine zw_c (pc' := 43) (zw_cv (q := 72) (Y := zm_181) W0.1 rfl rfl zm_181_t rfl rfl) rfl rfl rfl rfl rfl (n1) ?_
    refine zw_pI (q := 72) (pc' := 46) WM rfl rfl rfl rfl rfl rfl ?_
    generalize zw_I M 72 34 v = K at b1 S1 DM XM ⊢
    have WK := zR_Wd (zR_dn b1)
    obtain ⟨u, N, m1, m2, m3, m4, m5, m6⟩ := yS_nu (L := L) (σ := σ) (d := d + 5) (x := Int32.ofInt 2) (y := Int32.ofInt 8) (ok := fun u q => (50, [], 0, 0, 0, (yU (yU dd.1 1 v.toInt) 2 u, dd.2), q)) hby b1 S1 (fun q => yN2_2) (by decide)
    have WN := zR_Wd (zR_dn m2)
    have DN := yDr_35s (x := u) (yDr_M m3 DM) rfl
    have XN := xXr_k (d := (yU dd.1 1 v.toInt, dd.2)) (k := 2) (v := u.toInt) (by decide) (xXr_o (p := 72) (k := 35) (x := u) (by decide) (xXr_F m3 rfl XM))
    have cN := zR_cn m2
    have b3 : zk_Bs zR zg zJ (zw_I N 72 35 u) := by
      by_cases h9 : (N.2.1 72 23).toInt = 0
      · obtain ⟨_, y1, y2⟩ := m5 h9
        have y1 : (2 : Int) ≤ u.toInt := y1
        have y2 : u.toInt ≤ (8 : Int) := y2
        exact yB_f m2 (fun r hr => by cases hr; exact ⟨by show (0 : Int) ≤ _; omega, by show _ ≤ (8 : Int); omega⟩) rfl rfl (fun _ => ⟨(cN h9).1, ⟨y1, y2⟩⟩)
      · have y1 := m6 h9
        exact yB_f m2 (fun r hr => by cases hr; rw [y1]; exact ⟨by decide, by decide⟩) rfl rfl (fun h8 => absurd h8 h9)
    have S3 := yS_f (k := 35) (x := u) (by decide) m4
    refine zw_ld (n := 1) (k := 0) (f := zp_isR) (pc' := 47) rfl rfl l0 rfl rfl ?_
    refine zw_ld (n := 1) (k := 0) (f := zp_isR) (pc' := 48) rfl rfl l0 rfl rfl ?_
    refine zw_s (pc' := 49) rfl rfl ?_
    refine zw_s (pc' := 51) rfl rfl ?_
    refine zw_c (pc' := 54) (zw_cv (q := 72) (Y := zm_181) WK.1 rfl rfl zm_181_t rfl rfl) rfl rfl rfl rfl rfl (m1) ?_
    refine zw_pI (q := 72) (pc' := 57) WN rfl rfl rfl rfl rfl rfl ?_
    refine zw_s (pc' := 483) rfl rfl ?_
    exact yx_lE hby b3 S3 (fun _ => ⟨DN, XN⟩) l0
  · obtain ⟨H1, c1, c2, c3, c4, c5⟩ := yp_wr (L := L) (σ := σ) (d := d + 7) (y := Int32.ofInt 5) hB hg hP (by decide)
    have W1 := zR_Wd (zR_dn c2)
    refine zw_ld (n := 1) (k := 0) (f := zp_isR) (pc' := 19) rfl rfl l0 rfl rfl ?_
    refine zw_s (pc' := 20) rfl rfl ?_
    refine zw_cn (pc' := 23) (zw_cv (q := 72) (Y := zm_180) W.1 rfl rfl zm_180_t rfl rfl) rfl rfl rfl rfl rfl (c1) ?_
    refine zw_ld (n := 1) (k := 0) (f := zp_isR) (pc' := 24) rfl rfl l0 rfl rfl ?_
    refine zw_c (pc' := 27) (zw_cv (q := 72) (Y := zm_175) W1.1 rfl rfl zm_175_t rfl rfl) rfl rfl rfl rfl rfl (zq_good0 W1 c3) ?_
    refine zw_bne1 (g := 31) (pc' := 30) rfl rfl rfl (rfl : _ = (0 : Int)) (fun h9 => absurd h9 (by decide)) (fun hb => ?_)
    refine zw_rn rfl rfl ?_
    exact yLr_b c2 c3 c5 (yA2_done (yN2_0.trans ((y0w_12 hk).trans (if_neg (by omega)))))

set_option maxHeartbeats 4000000 in
set_option maxRecDepth 8000 in
theorem yx_l13 {L : Nat} {σ : Nat → Int32} {d : Nat} {T : Nat → Int} {n p : Nat} {dd : yLD} {H : zp_H} {lv : zp_LV} (hby : ∀ k, k < n → -128 ≤ T k ∧ T k ≤ 127) (hB : zk_Bs zR zg zJ H) (hg : (H.2.1 72 23).toInt = 0) (hP : yP T n p H) (hD : yDr dd H) (hX : xXr T n [] dd H) (hk : ys_kd T n p = 3 ∧ ys_vl T n p = 17) (l0 : zp_get lv 0 = some (.inr (.inr (some 73)))) : zs_Safe L σ (yLr T n dd p) zm_176 [] (d + 8) (272, lv, [], H, (0, 0)) := by
  have W := zR_Wd (zR_dn hB)
  have d48 : (H.2.1 72 48).toInt = dd.1 8 := hD.2.2.2.2.2.2.2.1
  refine zw_ld (n := 1) (k := 0) (f := zp_isR) (pc' := 273) rfl rfl l0 rfl rfl ?_
  refine zw_gI (q := 72) (pc' := 276) W rfl rfl rfl rfl rfl rfl ?_
  refine zw_beq1 (g := 284) (pc' := 279) rfl rfl rfl rfl (fun hf => ?_) (fun hf => ?_)
  · refine zw_ld (n := 1) (k := 0) (f := zp_isR) (pc' := 285) rfl rfl l0 rfl rfl ?_
    refine zw_c (pc' := 288) (zw_cv (q := 72) (Y := zm_175) W.1 rfl rfl zm_175_t rfl rfl) rfl rfl rfl rfl rfl (zq_good1 W hg) ?_
    refine zw_bne1 (g := 292) (pc' := 291) rfl rfl rfl (rfl : _ = (1 : Int)) (fun hb => ?_) (fun h9 => absurd h9 (by decide))
    have b0 : zk_Bs zR zg zJ (zw_I H 72 48 (Int32.ofInt 1)) := yB_g hB (fun r hr => by cases hr; exact ⟨by decide, by decide⟩) rfl rfl (by decide)
    have D8 := yDr_48 (x := Int32.ofInt 1) (v := 1) hD rfl
    have X8 := xXr_o (p := 72) (k := 48) (x := Int32.ofInt 1) (by decide) hX
    have P8 : yP T n p (zw_I H 72 48 (Int32.ofInt 1)) := ⟨yr_T_c (H := H) rfl rfl rfl rfl hP.1, yr_k_c (H := H) (fun j hj => y_ne (fun h9 => by have := h9.2; omega)) rfl hP.2.1, hP.2.2⟩
    have G8 : ((zw_I H 72 48 (Int32.ofInt 1)).2.1 72 23).toInt = 0 := hg
    refine zw_ld (n := 1) (k := 0) (f := zp_isR) (pc' := 293) rfl rfl l0 rfl rfl ?_
    refine zw_s (pc' := 294) rfl rfl ?_
    refine zw_pI (q := 72) (pc' := 297) W rfl rfl rfl rfl (rfl) rfl ?_
    generalize zw_I H 72 48 (Int32.ofInt 1) = H8 at b0 D8 X8 P8 G8 ⊢
    have W8 := zR_Wd (zR_dn b0)
    obtain ⟨K0, g1, g2, g3, g4⟩ := yp_go (L := L) (σ := σ) (d := d + 6) hby b0 P8
    have W0 := zR_Wd (zR_dn g2)
    have D0 := yDr_m g3 D8
    have X0 := xXr_F g3 rfl X8
    have S0 : yS T n (0, [], 0, 0, 0, dd, p) (fun q => (15, [], 0, 0, 0, dd, q)) K0 := Or.inl ⟨(zx_fe g3 23 rfl rfl rfl).trans G8, _, g4, yR2_s (yN2_0.trans ((y0w_17 hk).trans (if_pos (by omega))))⟩
    refine zw_ld (n := 1) (k := 0) (f := zp_isR) (pc' := 298) rfl rfl l0 rfl rfl ?_
    refine zw_cn (pc' := 301) (zw_cv (q := 72) (Y := zm_171) W8.1 rfl rfl zm_171_t rfl rfl) rfl rfl rfl rfl rfl (g1) ?_
    obtain ⟨_, n1, v, M, rfl, n2, n3, n4, n5, n6⟩ := yS_cr (L := L) (σ := σ) (d := d + 3) (w := dd.1 1) (hh := dd.1 2) (s2 := fun c q => (17, [], c, 0, 0, dd, q)) (s1 := fun x q => (16, [], x, 0, 0, dd, q)) hby g2 S0 D0.1 D0.2.1 (fun q => yN2_15) (fun x q => yN2_16)
    have WM := zR_Wd (zR_dn n2)
    have DM := yDr_42 (k := 42) (x := v) (by decide) (yDr_M n3 D0)
    have XM := xXr_w (i0 := 20) (p := 72) (k := 42) (x := v) yRl_inj (by decide) rfl (xXr_F n3 rfl X0)
    have c1 : ((zw_I M 72 42 v).2.1 72 42).toInt = v.toInt := congrArg Int32.toInt zw_eq
    have b1 : zk_Bs zR zg zJ (zw_I M 72 42 v) := yB_g n2 (fun r hr => by cases hr; exact n5) rfl rfl (by decide)
    have S1 := yS_f (k := 42) (x := v) (by decide) n4
    refine zw_ld (n := 1) (k := 0) (f := zp_isR) (pc' := 302) rfl rfl l0 rfl rfl ?_
    refine zw_ld (n := 1) (k := 0) (f := zp_isR) (pc' := 303) rfl rfl l0 rfl rfl ?_
    refine zw_c (pc' := 306) (zw_cv (q := 72) (Y := zm_188) W0.1 rfl rfl zm_188_t rfl rfl) rfl rfl rfl rfl rfl (n1) ?_
    refine zw_pI (q := 72) (pc' := 309) WM rfl rfl rfl rfl rfl rfl ?_
    generalize zw_I M 72 42 v = K at b1 S1 DM XM c1 ⊢
    have WK := zR_Wd (zR_dn b1)
    obtain ⟨u, N, m1, m2, m3, m4, m5, m6⟩ := yS_nu (L := L) (σ := σ) (d := d + 5) (x := Int32.ofInt 0) (y := Int32.ofInt 9) (ok := fun u q => (50, [], 0, 0, 0, yW (yW (yU dd.1 8 1, dd.2) 20 v.toInt) 21 u, q)) hby b1 S1 (fun q => yN2_17) (by decide)
    have WN := zR_Wd (zR_dn m2)
    have DN := yDr_W (i := 21) (v := u.toInt) (by decide) (yDr_W (i := 20) (v := v.toInt) (by decide) (yDr_42 (k := 43) (x := u) (by decide) (yDr_M m3 DM)))
    have cN : (N.2.1 72 42).toInt = v.toInt := (zx_fe m3 42 rfl rfl rfl).trans c1
    have XN : xXr T n [] (yW (yW (yU dd.1 8 1, dd.2) 20 v.toInt) 21 u.toInt) (zw_I N 72 43 u) := by
      refine xXr_wD (yRl_inj) (by decide) rfl rfl ?_
      have X4 := xXr_D (i0 := 20) (v := v.toInt) (xXr_k (k := 8) (v := 1) (by decide) (xXr_F m3 rfl XM))
      refine xXr_C (i0 := 20) (xXr_s (fun i h9 => ?_) X4) cN
      simp only [List.mem_cons, List.not_mem_nil, or_false] at h9 ⊢
      omega
    have b3 : zk_Bs zR zg zJ (zw_I N 72 43 u) := yB_g m2 (fun r hr => by cases hr) rfl rfl (by decide)
    have S3 := yS_f (k := 43) (x := u) (by decide) m4
    refine zw_ld (n := 1) (k := 0) (f := zp_isR) (pc' := 310) rfl rfl l0 rfl rfl ?_
    refine zw_ld (n := 1) (k := 0) (f := zp_isR) (pc' := 311) rfl rfl l0 rfl rfl ?_
    refine zw_s (pc' := 312) rfl rfl ?_
    refine zw_s (pc' := 314) rfl rfl ?_
    refine zw_c (pc' := 317) (zw_cv (q := 72) (Y := zm_181) WK.1 rfl rfl zm_181_t rfl rfl) rfl rfl rfl rfl rfl (m1) ?_
    refine zw_pI (q := 72) (pc' := 320) WN rfl rfl rfl rfl rfl rfl ?_
    refine zw_s (pc' := 483) rfl rfl ?_
    exact yx_lE hby b3 S3 (fun _ => ⟨DN, XN⟩) l0
  · obtain ⟨H1, c1, c2, c3, c4, c5⟩ := yp_wr (L := L) (σ := σ) (d := d + 7) (y := Int32.ofInt 5) hB hg hP (by decide)
    have W1 := zR_Wd (zR_dn c2)
    refine zw_ld (n := 1) (k := 0) (f := zp_isR) (pc' := 280) rfl rfl l0 rfl rfl ?_
    refine zw_s (pc' := 281) rfl rfl ?_
    refine zw_cn (pc' := 284) (zw_cv (q := 72) (Y := zm_180) W.1 rfl rfl zm_180_t rfl rfl) rfl rfl rfl rfl rfl (c1) ?_
    refine zw_ld (n := 1) (k := 0) (f := zp_isR) (pc' := 285) rfl rfl l0 rfl rfl ?_
    refine zw_c (pc' := 288) (zw_cv (q := 72) (Y := zm_175) W1.1 rfl rfl zm_175_t rfl rfl) rfl rfl rfl rfl rfl (zq_good0 W1 c3) ?_
    refine zw_bne1 (g := 292) (pc' := 291) rfl rfl rfl (rfl : _ = (0 : Int)) (fun h9 => absurd h9 (by decide)) (fun hb => ?_)
    refine zw_rn rfl rfl ?_
    exact yLr_b c2 c3 c5 (yA2_done (yN2_0.trans ((y0w_17 hk).trans (if_neg (by omega)))))

set_option maxHeartbeats 4000000 in
set_option maxRecDepth 8000 in
theorem yx_l14 {L : Nat} {σ : Nat → Int32} {d : Nat} {T : Nat → Int} {n p : Nat} {dd : yLD} {H : zp_H} {lv : zp_LV} (hby : ∀ k, k < n → -128 ≤ T k ∧ T k ≤ 127) (hB : zk_Bs zR zg zJ H) (hg : (H.2.1 72 23).toInt = 0) (hP : yP T n p H) (hD : yDr dd H) (hX : xXr T n [] dd H) (hk : ys_kd T n p = 3 ∧ ys_vl T n p = 18) (l0 : zp_get lv 0 = some (.inr (.inr (some 73)))) : zs_Safe L σ (yLr T n dd p) zm_176 [] (d + 8) (329, lv, [], H, (0, 0)) := by
  have W := zR_Wd (zR_dn hB)
  have d49 : (H.2.1 72 49).toInt = dd.1 9 := hD.2.2.2.2.2.2.2.2.1
  refine zw_ld (n := 1) (k := 0) (f := zp_isR) (pc' := 330) rfl rfl l0 rfl rfl ?_
  refine zw_gI (q := 72) (pc' := 333) W rfl rfl rfl rfl rfl rfl ?_
  refine zw_beq1 (g := 341) (pc' := 336) rfl rfl rfl rfl (fun hf => ?_) (fun hf => ?_)
  · refine zw_ld (n := 1) (k := 0) (f := zp_isR) (pc' := 342) rfl rfl l0 rfl rfl ?_
    refine zw_c (pc' := 345) (zw_cv (q := 72) (Y := zm_175) W.1 rfl rfl zm_175_t rfl rfl) rfl rfl rfl rfl rfl (zq_good1 W hg) ?_
    refine zw_bne1 (g := 349) (pc' := 348) rfl rfl rfl (rfl : _ = (1 : Int)) (fun hb => ?_) (fun h9 => absurd h9 (by decide))
    have b0 : zk_Bs zR zg zJ (zw_I H 72 49 (Int32.ofInt 1)) := yB_g hB (fun r hr => by cases hr; exact ⟨by decide, by decide⟩) rfl rfl (by decide)
    have D8 := yDr_49 (x := Int32.ofInt 1) (v := 1) hD rfl
    have X8 := xXr_o (p := 72) (k := 49) (x := Int32.ofInt 1) (by decide) hX
    have P8 : yP T n p (zw_I H 72 49 (Int32.ofInt 1)) := ⟨yr_T_c (H := H) rfl rfl rfl rfl hP.1, yr_k_c (H := H) (fun j hj => y_ne (fun h9 => by have := h9.2; omega)) rfl hP.2.1, hP.2.2⟩
    have G8 : ((zw_I H 72 49 (Int32.ofInt 1)).2.1 72 23).toInt = 0 := hg
    refine zw_ld (n := 1) (k := 0) (f := zp_isR) (pc' := 350) rfl rfl l0 rfl rfl ?_
    refine zw_s (pc' := 351) rfl rfl ?_
    refine zw_pI (q := 72) (pc' := 354) W rfl rfl rfl rfl (rfl) rfl ?_
    generalize zw_I H 72 49 (Int32.ofInt 1) = H8 at b0 D8 X8 P8 G8 ⊢
    have W8 := zR_Wd (zR_dn b0)
    obtain ⟨K0, g1, g2, g3, g4⟩ := yp_go (L := L) (σ := σ) (d := d + 6) hby b0 P8
    have W0 := zR_Wd (zR_dn g2)
    have D0 := yDr_m g3 D8
    have X0 := xXr_F g3 rfl X8
    have S0 : yS T n (0, [], 0, 0, 0, dd, p) (fun q => (18, [], 0, 0, 0, dd, q)) K0 := Or.inl ⟨(zx_fe g3 23 rfl rfl rfl).trans G8, _, g4, yR2_s (yN2_0.trans ((y0w_18 hk).trans (if_pos (by omega))))⟩
    refine zw_ld (n := 1) (k := 0) (f := zp_isR) (pc' := 355) rfl rfl l0 rfl rfl ?_
    refine zw_cn (pc' := 358) (zw_cv (q := 72) (Y := zm_171) W8.1 rfl rfl zm_171_t rfl rfl) rfl rfl rfl rfl rfl (g1) ?_
    obtain ⟨u, N, m1, m2, m3, m4, m5, m6⟩ := yS_nu (L := L) (σ := σ) (d := d + 5) (x := Int32.ofInt 0) (y := Int32.ofInt 7) (ok := fun u q => (50, [], 0, 0, 0, yW (yU dd.1 9 1, dd.2) 22 u, q)) hby g2 S0 (fun q => yN2_18) (by decide)
    have WN := zR_Wd (zR_dn m2)
    have DN := yDr_W (i := 22) (v := u.toInt) (by decide) (yDr_42 (k := 44) (x := u) (by decide) (yDr_M m3 D0))
    have XN := xXr_wD (i0 := 22) (p := 72) (k := 44) (x := u) (v := u.toInt) yRl_inj (by decide) rfl rfl (xXr_k (k := 9) (v := 1) (by decide) (xXr_F m3 rfl X0))
    have b3 : zk_Bs zR zg zJ (zw_I N 72 44 u) := yB_g m2 (fun r hr => by cases hr) rfl rfl (by decide)
    have S3 := yS_f (k := 44) (x := u) (by decide) m4
    refine zw_ld (n := 1) (k := 0) (f := zp_isR) (pc' := 359) rfl rfl l0 rfl rfl ?_
    refine zw_ld (n := 1) (k := 0) (f := zp_isR) (pc' := 360) rfl rfl l0 rfl rfl ?_
    refine zw_s (pc' := 361) rfl rfl ?_
    refine zw_s (pc' := 363) rfl rfl ?_
    refine zw_c (pc' := 366) (zw_cv (q := 72) (Y := zm_181) W0.1 rfl rfl zm_181_t rfl rfl) rfl rfl rfl rfl rfl (m1) ?_
    refine zw_pI (q := 72) (pc' := 369) WN rfl rfl rfl rfl rfl rfl ?_
    refine zw_s (pc' := 483) rfl rfl ?_
    exact yx_lE hby b3 S3 (fun _ => ⟨DN, XN⟩) l0
  · obtain ⟨H1, c1, c2, c3, c4, c5⟩ := yp_wr (L := L) (σ := σ) (d := d + 7) (y := Int32.ofInt 5) hB hg hP (by decide)
    have W1 := zR_Wd (zR_dn c2)
    refine zw_ld (n := 1) (k := 0) (f := zp_isR) (pc' := 337) rfl rfl l0 rfl rfl ?_
    refine zw_s (pc' := 338) rfl rfl ?_
    refine zw_cn (pc' := 341) (zw_cv (q := 72) (Y := zm_180) W.1 rfl rfl zm_180_t rfl rfl) rfl rfl rfl rfl rfl (c1) ?_
    refine zw_ld (n := 1) (k := 0) (f := zp_isR) (pc' := 342) rfl rfl l0 rfl rfl ?_
    refine zw_c (pc' := 345) (zw_cv (q := 72) (Y := zm_175) W1.1 rfl rfl zm_175_t rfl rfl) rfl rfl rfl rfl rfl (zq_good0 W1 c3) ?_
    refine zw_bne1 (g := 349) (pc' := 348) rfl rfl rfl (rfl : _ = (0 : Int)) (fun h9 => absurd h9 (by decide)) (fun hb => ?_)
    refine zw_rn rfl rfl ?_
    exact yLr_b c2 c3 c5 (yA2_done (yN2_0.trans ((y0w_18 hk).trans (if_neg (by omega)))))
