/-! ===== the reference reads an operand, exactly ===== -/

theorem yx_part0 {L : Nat} {σ : Nat → Int32} {d : Nat} {H : zp_H} (W : zw_W H) (hg : (H.2.1 72 23).toInt ≠ 0) : zp_Call L σ (d + 2) 197 [.inr (.inr (some 73))] H (.inl none, H) := by
  refine zw_ex (zw_met zm_197_t rfl rfl ?_)
  refine zw_ld (n := 1) (k := 0) (f := zp_isR) (pc' := 1) rfl rfl rfl rfl rfl ?_
  refine zw_c (pc' := 4) (zw_cv (q := 72) (Y := zm_175) W.1 rfl rfl zm_175_t rfl rfl) rfl rfl rfl rfl rfl (zq_good0 W hg) ?_
  refine zw_bne1 (g := 8) (pc' := 7) rfl rfl rfl (rfl : _ = (0 : Int)) (fun h9 => absurd h9 (by decide)) (fun hb => ?_)
  refine zw_rn rfl rfl ?_
  rfl

theorem yV_wt {T : Nat → Int} {n p : Nat} {lv : List Bool} {H : zp_H} {c : Int32} (h : yV T n lv p H) : yV T n lv p (zx_wt H c) := by
  refine ⟨yr_T_c (zx_wt_f 26 rfl) ?_ (zx_wt_f 23 rfl) (zx_wt_f 24 rfl) h.1, yr_k_c (fun k hk => zx_wt_f k ?_) rfl h.2.1, h.2.2.1, ?_, yt_c ?_ h.2.2.2.2⟩
  · funext i
    exact zw_ne (zw_ne rfl rfl) rfl
  · rcases (show k = 27 ∨ k = 28 ∨ k = 29 ∨ k = 30 ∨ k = 31 ∨ k = 32 by omega) with rfl | rfl | rfl | rfl | rfl | rfl <;> rfl
  · rw [zx_wt_f 47 rfl]
    exact h.2.2.2.1
  · funext i
    exact zw_ne (zw_ne rfl rfl) rfl
theorem yw_mv {v c : Int} (h : 0 ≤ v ∧ v ≤ 21) : (yw_m v = 20 ↔ v = 10) ∧ (yw_m v = 18 ↔ v = 9) ∧ (yw_m v = 19 ↔ v = 8) ∧ (yw_m v = 17 ↔ v = 11) := by
  obtain ⟨j, hj, rfl⟩ : ∃ j : Nat, j < 22 ∧ v = (j : Int) := ⟨v.toNat, by omega, by omega⟩
  revert j
  decide
/-- which word: in both counts -/
theorem yr_wd {T : Nat → Int} {n p : Nat} {H : zp_H} (hp : p ≤ n) (h : yr_k T n p H) : (zg H = 20 ↔ (ys_kd T n p = 3 ∧ ys_vl T n p = 10)) ∧ (zg H = 18 ↔ (ys_kd T n p = 3 ∧ ys_vl T n p = 9)) ∧ (zg H = 19 ↔ (ys_kd T n p = 3 ∧ ys_vl T n p = 8)) ∧ (zg H = 17 ↔ (ys_kd T n p = 3 ∧ ys_vl T n p = 11)) := by
  rw [yr_zg hp h]
  by_cases hk : ys_kd T n p = 3
  · rw [if_pos hk]
    have := yw_mv (c := 0) (ys_vl_b hk)
    exact ⟨⟨fun h9 => ⟨hk, this.1.mp h9⟩, fun h9 => this.1.mpr h9.2⟩, ⟨fun h9 => ⟨hk, this.2.1.mp h9⟩, fun h9 => this.2.1.mpr h9.2⟩, ⟨fun h9 => ⟨hk, this.2.2.1.mp h9⟩, fun h9 => this.2.2.1.mpr h9.2⟩, ⟨fun h9 => ⟨hk, this.2.2.2.mp h9⟩, fun h9 => this.2.2.2.mpr h9.2⟩⟩
  · rw [if_neg hk]
    exact ⟨⟨fun h9 => by omega, fun h9 => absurd h9.1 hk⟩, ⟨fun h9 => by omega, fun h9 => absurd h9.1 hk⟩, ⟨fun h9 => by omega, fun h9 => absurd h9.1 hk⟩, ⟨fun h9 => by omega, fun h9 => absurd h9.1 hk⟩⟩
def yBad (T : Nat → Int) (n : Nat) (s0 : yM) (H : zp_H) : Prop := ∃ r, yD T n r H ∧ yA T n s0 r
theorem yBad_g {T : Nat → Int} {n : Nat} {s0 : yM} {H : zp_H} (h : yBad T n s0 H) : (H.2.1 72 23).toInt ≠ 0 := by
  obtain ⟨r, h, _⟩ := h
  rw [h.2.1]
  exact h.2.2.1
/-- in mode m -/
def yGd (T : Nat → Int) (n : Nat) (s0 : yM) (m : Nat) (H0 H : zp_H) : Prop := (H.2.1 72 23).toInt = 0 ∧ ∃ lv p, lv ≠ [] ∧ yV T n lv p H ∧ xRR T n s0 (m, lv, p) H0 H
/-- before a part: no bracket opens -/
def yGp (T : Nat → Int) (n : Nat) (s0 : yM) (H0 H : zp_H) : Prop := (H.2.1 72 23).toInt = 0 ∧ ∃ lv p, lv ≠ [] ∧ yV T n lv p H ∧ xRR T n s0 (1, lv, p) H0 H ∧ ¬ (ys_kd T n p = 4 ∧ ys_vl T n p = 40)

theorem yx_opE {L : Nat} {σ : Nat → Int32} {d a : Nat} {T : Nat → Int} {n : Nat} {s0 : yM} {H0 : zp_H} (hby : ∀ k, k < n → -128 ≤ T k ∧ T k ≤ 127) {H : zp_H} {lv : zp_LV} (hK : zx_KW L σ) (l0 : zp_get lv 0 = some (.inr (.inr (some 73)))) (h : zx_S a 0 0 H) (hF : zx_F a H0 H) (ha : (a : Int) ≤ (H.2.1 72 45).toInt) (hp : zx_phi H0 ≤ zx_phi H) (hJ : yGp T n s0 H0 H ∨ yBad T n s0 H) : zs_Safe L σ (fun X => ∃ H1, X = (.inl none, H1) ∧ zx_S a 1 0 H1 ∧ zx_F a H0 H1 ∧ ((H1.2.1 72 23).toInt = 0 → zx_phi H0 + 2 ≤ zx_phi H1) ∧ (a : Int) ≤ (H1.2.1 72 45).toInt ∧ zx_phi H0 ≤ zx_phi H1 ∧ yO T n s0 H0 H1) zm_195 [] (d + 5) (120, lv, [], H, (0, 0)) := by
  have W := zR_Wd (zR_dn h.1)
  rcases hJ with ⟨hg, lvb, p, hlv, hV, hR, h40⟩ | hJ
  · obtain ⟨_, c1, H1, rfl, c2, c3, c4, c5, c6, c7⟩ := yx_part (L := L) (σ := σ) (d := d) hby hK h ha hg hV hlv h40
    refine zw_ld (n := 1) (k := 0) (f := zp_isR) (pc' := 121) rfl rfl l0 rfl rfl ?_
    refine zw_cn (pc' := 124) (zw_cv (q := 72) (Y := zm_197) W.1 rfl rfl zm_197_t rfl rfl) rfl rfl rfl rfl rfl (c1) ?_
    refine zw_rn rfl rfl ?_
    exact ⟨H1, rfl, c2, zx_F_t hF c3, fun h9 => by have := c4 h9; omega, c5, by omega, yO_R hR c7⟩
  · have hg := yBad_g hJ
    refine zw_ld (n := 1) (k := 0) (f := zp_isR) (pc' := 121) rfl rfl l0 rfl rfl ?_
    refine zw_cn (pc' := 124) (zw_cv (q := 72) (Y := zm_197) W.1 rfl rfl zm_197_t rfl rfl) rfl rfl rfl rfl rfl (yx_part0 (d := d + 3) W hg) ?_
    refine zw_rn rfl rfl ?_
    exact ⟨H, rfl, zx_S_b h hg, hF, fun h9 => absurd h9 hg, ha, hp, Or.inr hJ⟩

set_option maxRecDepth 8000 in
theorem yx_opI {L : Nat} {σ : Nat → Int32} {d a : Nat} {T : Nat → Int} {n : Nat} {s0 : yM} {H0 : zp_H} (hby : ∀ k, k < n → -128 ≤ T k ∧ T k ≤ 127) {x2 : Int32} (hK : zx_KW L σ) : ∀ (m : Nat) (H : zp_H) (lv : zp_LV) (x4 : Int32) (k : Nat), (1401 - zx_phi H).toNat = m → zp_get lv 0 = some (.inr (.inr (some 73))) → zp_get lv 2 = some (.inl x2) → zp_get lv 4 = some (.inl x4) → zx_S a 0 0 H → zx_F a H0 H → (a : Int) ≤ (H.2.1 72 45).toInt → zx_phi H0 ≤ zx_phi H → x4.toInt = k → k ≤ 6 → (yGd T n s0 (if x2.toInt = 0 then 1 else 2 + k) H0 H ∨ yBad T n s0 H) → (∀ (H1 : zp_H) (lv1 : zp_LV), zp_get lv1 0 = some (.inr (.inr (some 73))) → zp_get lv1 2 = some (.inl x2) → zx_S a 0 0 H1 → zx_F a H0 H1 → (a : Int) ≤ (H1.2.1 72 45).toInt → zx_phi H ≤ zx_phi H1 → (yGd T n s0 1 H0 H1 ∨ yBad T n s0 H1) → zs_Safe L σ (fun X => ∃ H1, X = (.inl none, H1) ∧ zx_S a 1 0 H1 ∧ zx_F a H0 H1 ∧ ((H1.2.1 72 23).toInt = 0 → zx_phi H0 + 2 ≤ zx_phi H1) ∧ (a : Int) ≤ (H1.2.1 72 45).toInt ∧ zx_phi H0 ≤ zx_phi H1 ∧ yO T n s0 H0 H1) zm_195 [] (d + 5) (75, lv1, [], H1, (0, 0))) → zs_Safe L σ (fun X => ∃ H1, X = (.inl none, H1) ∧ zx_S a 1 0 H1 ∧ zx_F a H0 H1 ∧ ((H1.2.1 72 23).toInt = 0 → zx_phi H0 + 2 ≤ zx_phi H1) ∧ (a : Int) ≤ (H1.2.1 72 45).toInt ∧ zx_phi H0 ≤ zx_phi H1 ∧ yO T n s0 H0 H1) zm_195 [] (d + 5) (18, lv, [], H, (0, 0)) := by
  intro m
  induction m using Nat.strongRecOn with
  | ind m ih =>
    intro H lv x4 k hm l0 l2 l4 h hF ha hp hx4 hk6 hJ hk
    have W := zR_Wd (zR_dn h.1)
    refine zw_ld (n := 1) (k := 0) (f := zp_isR) (pc' := 19) rfl rfl l0 rfl rfl ?_
    by_cases hg : (H.2.1 72 23).toInt = 0
    · refine zw_c (pc' := 22) (zw_cv (q := 72) (Y := zm_175) W.1 rfl rfl zm_175_t rfl rfl) rfl rfl rfl rfl rfl (zq_good1 W hg) ?_
      obtain ⟨_, lvb, p, hlv, hV, hR⟩ := hJ.resolve_right (fun h9 => yBad_g h9 hg)
      refine zw_beq1 (g := 75) (pc' := 25) rfl rfl rfl (rfl : _ = (1 : Int)) (fun h9 => absurd h9 (by decide)) (fun hb => ?_)
      refine zw_ld (n := 1) (k := 2) (f := zp_isI) (pc' := 26) rfl rfl l2 rfl rfl ?_
      refine zw_beq1 (g := 75) (pc' := 29) rfl rfl rfl rfl (fun h2 => ?_) (fun h2 => ?_)
      · rw [if_pos h2] at hR
        exact hk H lv l0 l2 h hF ha (Int.le_refl _) (Or.inl ⟨hg, lvb, p, hlv, hV, hR⟩)
      · rw [if_neg h2] at hR
        have hwd := (yr_wd hV.2.2.1 hV.2.1).1
        refine zw_ld (n := 1) (k := 0) (f := zp_isR) (pc' := 30) rfl rfl l0 rfl rfl ?_
        obtain ⟨v, v1, v2⟩ := hK (d + 1) H h.1
        refine zw_c (pc' := 33) (zw_cv (q := 72) (Y := zm_177) W.1 rfl rfl zm_177_t rfl rfl) rfl rfl rfl rfl rfl (v1) ?_
        refine zw_s (pc' := 35) rfl rfl ?_
        refine zw_bne2 (g := 75) (pc' := 38) rfl rfl rfl rfl (rfl : _ = (20 : Int)) (fun h3 => ?_) (fun h3 => ?_)
        · have hno : ¬ (ys_kd T n p = 3 ∧ ys_vl T n p = 10) := fun h9 => h3 (v2.trans (hwd.mpr h9))
          exact hk H lv l0 l2 h hF ha (Int.le_refl _) (Or.inl ⟨hg, lvb, p, hlv, hV, xRR_t hR (xRR_e hno)⟩)
        · have hs := zg_s (H := H) (by omega)
          have hno := hwd.mp (v2.symm.trans h3)
          refine zw_ld (n := 2) (k := 4) (f := zp_isI) (pc' := 40) rfl rfl l4 rfl rfl ?_
          refine zw_s (pc' := 42) rfl rfl ?_
          refine zw_bne2 (g := 50) (pc' := 45) rfl rfl rfl rfl (rfl : _ = (6 : Int)) (fun h4 => ?_) (fun h4 => ?_)
          · refine zw_ii (pc' := 53) rfl l4 rfl rfl ?_
            refine zw_ld (n := 1) (k := 0) (f := zp_isR) (pc' := 54) rfl rfl (zw_gt l0 rfl rfl) rfl rfl ?_
            refine zw_c (pc' := 57) (zw_cv (q := 72) (Y := zm_175) W.1 rfl rfl zm_175_t rfl rfl) rfl rfl rfl rfl rfl (zq_good1 W hg) ?_
            refine zw_bne1 (g := 63) (pc' := 60) rfl rfl rfl (rfl : _ = (1 : Int)) (fun hb => ?_) (fun h9 => absurd h9 (by decide))
            obtain ⟨k1, k2, k3, k4⟩ := zx_wait (y := Int32.ofInt 3) h hg (by omega) (by decide)
            have hT := k4 0 0 rfl rfl
            have f45 : (zx_wt H (Int32.ofInt 3)).2.1 72 45 = H.2.1 72 45 := zx_wt_f 45 rfl
            obtain ⟨t0, w0⟩ := zx_top h
            have wb := h.2.2.1
            refine zw_ld (n := 1) (k := 0) (f := zp_isR) (pc' := 64) rfl rfl (zw_gt l0 rfl rfl) rfl rfl ?_
            refine zw_s (pc' := 65) rfl rfl ?_
            refine zw_cn (pc' := 68) (zw_cv (q := 72) (Y := zm_196) W.1 rfl rfl zm_196_t rfl rfl) rfl rfl rfl rfl rfl (zq_waits W ⟨w0, by show _ < ((800 : Nat) : Int); omega⟩) ?_
            obtain ⟨K, c1, c2, c3, c4, c5, c6⟩ := zx_T_goes (L := L) (σ := σ) (d := d + 3) hT
            have pK := zx_phi_le c2.1
            have hgo := (yx_goes hby hT.1 (yV_wt hV) c1).1
            have e4 : (x4 + Int32.ofInt 1).toInt = x4.toInt + 1 := zw_p1 (by omega)
            refine zw_ld (n := 1) (k := 0) (f := zp_isR) (pc' := 69) rfl rfl (zw_gt l0 rfl rfl) rfl rfl ?_
            refine zw_cn (pc' := 72) (zw_cv (q := 72) (Y := zm_171) W.1 rfl rfl zm_171_t rfl rfl) rfl rfl rfl rfl rfl (c1) ?_
            refine zw_s (pc' := 18) rfl rfl ?_
            refine ih (1401 - zx_phi K).toNat (by omega) K _ _ (k + 1) rfl (zw_gt l0 rfl rfl) (zw_gt l2 rfl rfl) zw_g1 c2 (zx_F_t (zx_F_t hF k1) c3) (by rw [c6, f45]; exact ha) (by omega) (by omega) (by omega) (Or.inl ⟨c4, lvb, _, hlv, hgo, ?_⟩) ?_
            · rw [if_neg h2]
              exact xRR_t hR (xRR_s (yN_no hno.1 hno.2 (by omega)) (fun a' W' O' k' => by
                show xV a' (xWO T n (2 + k) p W' O').1 (xWO T n (2 + k) p W' O').2 K
                rw [xWO_no hno.1 hno.2 (by omega)]
                exact xV_goes hT.1 c1 (xVn_wt (b := 3) (by decide) (by decide) (by omega) k')))
            · intro H1 lv1 m0 m2 mS mF ma mp mJ
              exact hk H1 lv1 m0 m2 mS mF ma (by omega) mJ
          · refine zw_ld (n := 1) (k := 0) (f := zp_isR) (pc' := 46) rfl rfl l0 rfl rfl ?_
            refine zw_s (pc' := 47) rfl rfl ?_
            obtain ⟨K, c1, c2, c3, c4, c5, c6, c7⟩ := zx_wrong (L := L) (σ := σ) (d := d + 4) (y := Int32.ofInt 2) h (by decide)
            have WK := zR_Wd (zR_dn (c3 0 0).1)
            have hw := yx_wrong h.1 hg hV (by decide) c1
            obtain rfl : k = 6 := by omega
            have hbad : yBad T n s0 K := ⟨_, hw, hR.1 _ (yA_done (yN_no6 hno.1 hno.2))⟩
            refine zw_cn (pc' := 50) (zw_cv (q := 72) (Y := zm_180) W.1 rfl rfl zm_180_t rfl rfl) rfl rfl rfl rfl rfl (c1) ?_
            refine zw_ii (pc' := 53) rfl l4 rfl rfl ?_
            refine zw_ld (n := 1) (k := 0) (f := zp_isR) (pc' := 54) rfl rfl (zw_gt l0 rfl rfl) rfl rfl ?_
            refine zw_c (pc' := 57) (zw_cv (q := 72) (Y := zm_175) WK.1 rfl rfl zm_175_t rfl rfl) rfl rfl rfl rfl rfl (zq_good0 (H := K) WK c2) ?_
            refine zw_bne1 (g := 63) (pc' := 60) rfl rfl rfl (rfl : _ = (0 : Int)) (fun h9 => absurd h9 (by decide)) (fun hb => ?_)
            refine zw_s (pc' := 18) rfl rfl ?_
            refine zw_ld (n := 1) (k := 0) (f := zp_isR) (pc' := 19) rfl rfl (zw_gt l0 rfl rfl) rfl rfl ?_
            refine zw_c (pc' := 22) (zw_cv (q := 72) (Y := zm_175) WK.1 rfl rfl zm_175_t rfl rfl) rfl rfl rfl rfl rfl (zq_good0 (H := K) WK c2) ?_
            refine zw_beq1 (g := 75) (pc' := 25) rfl rfl rfl (rfl : _ = (0 : Int)) (fun hb => ?_) (fun h9 => absurd h9 (by decide))
            exact hk K _ (zw_gt l0 rfl rfl) (zw_gt l2 rfl rfl) (c3 0 0) (zx_F_t hF c4) (by omega) (by omega) (Or.inr hbad)
    · refine zw_c (pc' := 22) (zw_cv (q := 72) (Y := zm_175) W.1 rfl rfl zm_175_t rfl rfl) rfl rfl rfl rfl rfl (zq_good0 W hg) ?_
      refine zw_beq1 (g := 75) (pc' := 25) rfl rfl rfl (rfl : _ = (0 : Int)) (fun hb => ?_) (fun h9 => absurd h9 (by decide))
      exact hk H lv l0 l2 h hF ha (Int.le_refl _) (Or.inr (hJ.resolve_left (fun h9 => hg h9.1)))

set_option maxRecDepth 8000 in
theorem yx_opO {L : Nat} {σ : Nat → Int32} {d a : Nat} {T : Nat → Int} {n : Nat} {s0 : yM} {H0 : zp_H} (hby : ∀ k, k < n → -128 ≤ T k ∧ T k ≤ 127) (hK : zx_KW L σ) : ∀ (m : Nat) (H : zp_H) (lv : zp_LV) (x2 x3 : Int32), 2 * (1401 - zx_phi H).toNat + (if x3.toInt = 0 then 0 else 1) = m → zp_get lv 0 = some (.inr (.inr (some 73))) → zp_get lv 2 = some (.inl x2) → zp_get lv 3 = some (.inl x3) → zx_S a 0 0 H → zx_F a H0 H → (a : Int) ≤ (H.2.1 72 45).toInt → zx_phi H0 ≤ zx_phi H → ((((x3.toInt ≠ 0 → yGd T n s0 (if x2.toInt = 0 then 1 else 2) H0 H) ∧ (x3.toInt = 0 → yGp T n s0 H0 H))) ∨ yBad T n s0 H) → zs_Safe L σ (fun X => ∃ H1, X = (.inl none, H1) ∧ zx_S a 1 0 H1 ∧ zx_F a H0 H1 ∧ ((H1.2.1 72 23).toInt = 0 → zx_phi H0 + 2 ≤ zx_phi H1) ∧ (a : Int) ≤ (H1.2.1 72 45).toInt ∧ zx_phi H0 ≤ zx_phi H1 ∧ yO T n s0 H0 H1) zm_195 [] (d + 5) (4, lv, [], H, (0, 0)) := by
  intro m
  induction m using Nat.strongRecOn with
  | ind m ih =>
    intro H lv x2 x3 hm l0 l2 l3 h hF ha hp hJ
    have W := zR_Wd (zR_dn h.1)
    have pH := zx_phi_le h.1
    refine zw_ld (n := 1) (k := 3) (f := zp_isI) (pc' := 5) rfl rfl l3 rfl rfl ?_
    refine zw_beq1 (g := 120) (pc' := 8) rfl rfl rfl rfl (fun h3 => ?_) (fun h3 => ?_)
    · exact yx_opE hby hK l0 h hF ha hp (hJ.imp_left (fun h9 => h9.2 h3))
    · rw [if_neg h3] at hm
      refine zw_ld (n := 1) (k := 0) (f := zp_isR) (pc' := 9) rfl rfl l0 rfl rfl ?_
      by_cases hg : (H.2.1 72 23).toInt = 0
      · refine zw_c (pc' := 12) (zw_cv (q := 72) (Y := zm_175) W.1 rfl rfl zm_175_t rfl rfl) rfl rfl rfl rfl rfl (zq_good1 W hg) ?_
        refine zw_beq1 (g := 120) (pc' := 15) rfl rfl rfl (rfl : _ = (1 : Int)) (fun h9 => absurd h9 (by decide)) (fun hb => ?_)
        refine zw_s (pc' := 16) rfl rfl ?_
        refine zw_st (n := 2) (k := 4) (f := zp_isI) (pc' := 18) rfl rfl rfl rfl rfl ?_
        refine yx_opI hby hK _ H _ _ 0 rfl (zw_gt l0 rfl rfl) (zw_gt l2 rfl rfl) zw_g1 h hF ha hp rfl (by decide) (hJ.imp_left (fun h9 => h9.1 h3)) ?_
        clear l0 l2 l3
        intro K lv l0 l2 k1 k2 k3 k4 kJ
        have WK := zR_Wd (zR_dn k1.1)
        have pK := zx_phi_le k1.1
        refine zw_ld (n := 1) (k := 0) (f := zp_isR) (pc' := 76) rfl rfl l0 rfl rfl ?_
        by_cases hK0 : (K.2.1 72 23).toInt = 0
        · refine zw_c (pc' := 79) (zw_cv (q := 72) (Y := zm_175) WK.1 rfl rfl zm_175_t rfl rfl) rfl rfl rfl rfl rfl (zq_good1 WK hK0) ?_
          obtain ⟨_, lvb, p, hlv, hV, hR⟩ := kJ.resolve_right (fun h9 => yBad_g h9 hK0)
          refine zw_beq1 (g := 95) (pc' := 82) rfl rfl rfl (rfl : _ = (1 : Int)) (fun h9 => absurd h9 (by decide)) (fun hb => ?_)
          refine zw_ld (n := 1) (k := 0) (f := zp_isR) (pc' := 83) rfl rfl l0 rfl rfl ?_
          refine zw_s (pc' := 85) rfl rfl ?_
          by_cases hsg : (K.2.1 72 28).toInt = 3 ∧ (K.2.1 72 32).toInt = (Int32.ofInt 40).toInt
          · refine zw_c (pc' := 88) (zw_cv (q := 72) (Y := zm_194) WK.1 rfl rfl zm_194_t rfl rfl) rfl rfl rfl rfl rfl (zq_sign1 WK hsg) ?_
            have h40 := (yr_sg hV.2.1 (c := 40)).mp hsg
            have hN := yN_op (lv := lvb) h40.1 h40.2
            refine zw_beq1 (g := 95) (pc' := 91) rfl rfl rfl (rfl : _ = (1 : Int)) (fun h9 => absurd h9 (by decide)) (fun hb => ?_)
            refine zw_s (pc' := 92) rfl rfl ?_
            refine zw_s (pc' := 96) rfl rfl ?_
            refine zw_st (n := 1) (k := 3) (f := zp_isI) (pc' := 97) rfl rfl rfl rfl rfl ?_
            refine zw_ld (n := 1) (k := 3) (f := zp_isI) (pc' := 98) rfl rfl zw_g1 rfl rfl ?_
            refine zw_beq1 (g := 117) (pc' := 101) rfl rfl rfl (rfl : _ = (1 : Int)) (fun h9 => absurd h9 (by decide)) (fun hb => ?_)
            obtain ⟨m1, m2, m3, m4⟩ := zx_wait (y := Int32.ofInt 14) k1 hK0 (by omega) (by decide)
            have hT := m4 0 1 rfl rfl
            have f45 : (zx_wt K (Int32.ofInt 14)).2.1 72 45 = K.2.1 72 45 := zx_wt_f 45 rfl
            obtain ⟨t0, w0⟩ := zx_top k1
            have wb := k1.2.2.1
            refine zw_ld (n := 1) (k := 0) (f := zp_isR) (pc' := 102) rfl rfl (zw_gt l0 rfl rfl) rfl rfl ?_
            refine zw_s (pc' := 104) rfl rfl ?_
            refine zw_cn (pc' := 107) (zw_cv (q := 72) (Y := zm_196) WK.1 rfl rfl zm_196_t rfl rfl) rfl rfl rfl rfl rfl (zq_waits WK ⟨w0, by show _ < ((800 : Nat) : Int); omega⟩) ?_
            obtain ⟨K2, c1, c2, c3, c4, c5, c6⟩ := zx_T_goes (L := L) (σ := σ) (d := d + 3) hT
            have pK2 := zx_phi_le c2.1
            have hgo := (yx_goes hby hT.1 (yV_wt hV) c1).1
            refine zw_ld (n := 1) (k := 0) (f := zp_isR) (pc' := 108) rfl rfl (zw_gt l0 rfl rfl) rfl rfl ?_
            refine zw_cn (pc' := 111) (zw_cv (q := 72) (Y := zm_171) WK.1 rfl rfl zm_171_t rfl rfl) rfl rfl rfl rfl rfl (c1) ?_
            obtain ⟨_, e1, K3, rfl, e2, e3, e4, e5, e6⟩ := yx_deeper (L := L) (σ := σ) (d := d + 2) hby c2 c4 hgo
            have WK2 := zR_Wd (zR_dn c2.1)
            refine zw_ld (n := 1) (k := 0) (f := zp_isR) (pc' := 112) rfl rfl (zw_gt l0 rfl rfl) rfl rfl ?_
            refine zw_cn (pc' := 115) (zw_cv (q := 72) (Y := zm_193) WK2.1 rfl rfl zm_193_t rfl rfl) rfl rfl rfl rfl rfl (e1) ?_
            refine zw_s (pc' := 116) rfl rfl ?_
            refine zw_st (n := 1) (k := 2) (f := zp_isI) (pc' := 117) rfl rfl rfl rfl rfl ?_
            refine zw_s (pc' := 4) rfl rfl ?_
            refine ih _ (by rw [if_neg (by decide)]; omega) K3 _ _ _ rfl (zw_gt (zw_gt l0 rfl rfl) rfl rfl) zw_g1 (zw_gt zw_g1 rfl rfl) e2 (zx_F_t (zx_F_t (zx_F_t k2 m1) c3) e3) (by rw [e5, c6, f45]; exact k3) (by omega) ?_
            rcases e6 with ⟨f1, f2, f3⟩ | ⟨f1, f2⟩
            · rw [if_pos f2] at hN
              refine Or.inl ⟨fun _ => ⟨f1, false :: lvb, _, List.cons_ne_nil _ _, f3, ?_⟩, fun h9 => absurd h9 (by decide)⟩
              rw [if_neg (by decide)]
              exact xRR_t hR (xRR_s hN (fun a' W' O' k' => by
                show xV a' (xWO T n 1 p W' O').1 (xWO T n 1 p W' O').2 K3
                rw [xWO_op h40.1 (by decide)]
                have d47 : (K2.2.1 72 47).toInt = (lvb.length : Int) := hgo.2.2.2.1
                exact xV_deep (d := d + 4) WK2 (by rw [d47]; exact ⟨by omega, by omega⟩) e1 (xV_goes hT.1 c1 (xVn_wt (b := 14) (by decide) (by decide) (by omega) k'))))
            · rw [if_neg f1] at hN
              exact Or.inr ⟨_, f2, hR.1 _ (yA_done hN)⟩
          · refine zw_c (pc' := 88) (zw_cv (q := 72) (Y := zm_194) WK.1 rfl rfl zm_194_t rfl rfl) rfl rfl rfl rfl rfl (zq_sign0 WK hsg) ?_
            refine zw_beq1 (g := 95) (pc' := 91) rfl rfl rfl (rfl : _ = (0 : Int)) (fun hb => ?_) (fun h9 => absurd h9 (by decide))
            refine zw_s (pc' := 96) rfl rfl ?_
            refine zw_st (n := 1) (k := 3) (f := zp_isI) (pc' := 97) rfl rfl rfl rfl rfl ?_
            refine zw_ld (n := 1) (k := 3) (f := zp_isI) (pc' := 98) rfl rfl zw_g1 rfl rfl ?_
            refine zw_beq1 (g := 117) (pc' := 101) rfl rfl rfl (rfl : _ = (0 : Int)) (fun hb => ?_) (fun h9 => absurd h9 (by decide))
            refine zw_s (pc' := 4) rfl rfl ?_
            exact ih _ (by rw [if_pos (by decide)]; omega) K _ _ _ rfl (zw_gt l0 rfl rfl) (zw_gt l2 rfl rfl) zw_g1 k1 k2 k3 (by omega) (Or.inl ⟨fun h9 => absurd rfl h9, fun _ => ⟨hK0, lvb, p, hlv, hV, hR, fun h9 => hsg ((yr_sg hV.2.1 (c := 40)).mpr h9)⟩⟩)
        · refine zw_c (pc' := 79) (zw_cv (q := 72) (Y := zm_175) WK.1 rfl rfl zm_175_t rfl rfl) rfl rfl rfl rfl rfl (zq_good0 WK hK0) ?_
          refine zw_beq1 (g := 95) (pc' := 82) rfl rfl rfl (rfl : _ = (0 : Int)) (fun hb => ?_) (fun h9 => absurd h9 (by decide))
          refine zw_s (pc' := 96) rfl rfl ?_
          refine zw_st (n := 1) (k := 3) (f := zp_isI) (pc' := 97) rfl rfl rfl rfl rfl ?_
          refine zw_ld (n := 1) (k := 3) (f := zp_isI) (pc' := 98) rfl rfl zw_g1 rfl rfl ?_
          refine zw_beq1 (g := 117) (pc' := 101) rfl rfl rfl (rfl : _ = (0 : Int)) (fun hb => ?_) (fun h9 => absurd h9 (by decide))
          refine zw_s (pc' := 4) rfl rfl ?_
          exact ih _ (by rw [if_pos (by decide)]; omega) K _ _ _ rfl (zw_gt l0 rfl rfl) (zw_gt l2 rfl rfl) zw_g1 k1 k2 k3 (by omega) (Or.inr (kJ.resolve_left (fun h9 => hK0 h9.1)))
      · refine zw_c (pc' := 12) (zw_cv (q := 72) (Y := zm_175) W.1 rfl rfl zm_175_t rfl rfl) rfl rfl rfl rfl rfl (zq_good0 W hg) ?_
        refine zw_beq1 (g := 120) (pc' := 15) rfl rfl rfl (rfl : _ = (0 : Int)) (fun hb => ?_) (fun h9 => absurd h9 (by decide))
        refine yx_opE hby hK l0 h hF ha hp (Or.inr ?_)
        rcases hJ with hJ | hJ
        · exact absurd (hJ.1 h3).1 hg
        · exact hJ

theorem yx_operand {L : Nat} {σ : Nat → Int32} {d a : Nat} {T : Nat → Int} {n p : Nat} {lv : List Bool} {H : zp_H} {y : Int32} (hby : ∀ k, k < n → -128 ≤ T k ∧ T k ≤ 127) (hK : zx_KW L σ) (h : zx_S a 0 0 H) (ha : (a : Int) ≤ (H.2.1 72 45).toInt) (hg : (H.2.1 72 23).toInt = 0) (hV : yV T n lv p H) (hlv : lv ≠ []) : ∃ X, zp_Call L σ (d + 6) 195 [.inr (.inr (some 73)), .inl y] H X ∧ (fun X => ∃ H1, X = (.inl none, H1) ∧ zx_S a 1 0 H1 ∧ zx_F a H H1 ∧ ((H1.2.1 72 23).toInt = 0 → zx_phi H + 2 ≤ zx_phi H1) ∧ (a : Int) ≤ (H1.2.1 72 45).toInt ∧ zx_phi H ≤ zx_phi H1 ∧ yO T n (if y.toInt = 0 then 1 else 2, lv, p) H H1) X := by
  refine zw_met zm_195_t rfl rfl ?_
  refine zw_ld (n := 1) (k := 1) (f := zp_isI) (pc' := 1) rfl rfl rfl rfl rfl ?_
  refine zw_st (n := 1) (k := 2) (f := zp_isI) (pc' := 2) rfl rfl rfl rfl rfl ?_
  refine zw_s (pc' := 3) rfl rfl ?_
  refine zw_st (n := 1) (k := 3) (f := zp_isI) (pc' := 4) rfl rfl rfl rfl rfl ?_
  exact yx_opO hby hK _ H _ _ _ rfl (zw_gt (zw_gt rfl rfl rfl) rfl rfl) (zw_gt zw_g1 rfl rfl) zw_g1 h (zx_F_r H) ha (Int.le_refl _) (Or.inl ⟨fun _ => ⟨hg, lv, p, hlv, hV, xRR_r⟩, fun h9 => absurd h9 (by decide)⟩)
