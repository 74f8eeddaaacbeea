section
/-! ===== the reference reads an operand, exactly ===== -/

theorem yx_part0 {L : Nat} {σ : Nat → Int32} {d : Nat} {H : zp_H} (W : zw_W H) (hg : (H.2.1 72 23).toInt ≠ 0) : zp_Call L σ (d + 2) 197 [.inr (.inr (some 73))] H (.inl none, H) := by
  refine zw_ex (zw_met zm_197_t rfl rfl ?_)
  refine zw_ld (n := 1) (k := 0) (f := zp_isR) (pc' := 1) rfl rfl rfl rfl rfl ?_
  refine zw_c (pc' := 4) (zw_cv (q := 72) (Y := zm_175) W.1 rfl rfl zm_175_t rfl rfl) rfl rfl rfl rfl rfl (zq_good0 W hg) ?_
  refine zw_bne1 (g := 8) (pc' := 7) rfl rfl rfl (rfl : _ = (0 : Int)) (fun h9 => absurd h9 (by decide)) (fun hb => ?_)
  refine zw_rn rfl rfl ?_
  rfl

theorem yV_wt {T : Nat → Int} {n p : Nat} {lv : List Bool} {H : zp_H} {c : Int32} (h : yV T n lv p H) : yV T n lv p (zx_wt H c) := by
  refine ⟨yr_T_c (zx_wt_f 26 rfl) ?_ (zx_wt_f 23 rfl) (zx_wt_f 24 rfl) h.1, yr_k_c (fun k hk => zx_wt_f k ?_) rfl h.2.1, h.2.2.1, ?_, yt_c ?_ h.2.2.2.2⟩
  · funext i
    exact zw_ne (zw_ne rfl rfl) rfl
  · rcases (show k = 27 ∨ k = 28 ∨ k = 29 ∨ k = 30 ∨ k = 31 ∨ k = 32 by omega) with rfl | rfl | rfl | rfl | rfl | rfl <;> rfl
  · rw [zx_wt_f 47 rfl]
    exact h.2.2.2.1
  · funext i
    exact zw_ne (zw_ne rfl rfl) rfl
theorem yw_mv {v c : Int} (h : 0 ≤ v ∧ v ≤ 21) : (yw_m v = 20 ↔ v = 10) ∧ (yw_m v = 18 ↔ v = 9) ∧ (yw_m v = 19 ↔ v = 8) ∧ (yw_m v = 17 ↔ v = 11) := by
  obtain ⟨j, hj, rfl⟩ : ∃ j : Nat, j < 22 ∧ v = (j : Int) := ⟨v.toNat, by omega, by omega⟩
  revert j
  decide
/-- which word: in both counts -/
theorem yr_wd {T : Nat → Int} {n p : Nat} {H : zp_H} (hp : p ≤ n) (h : yr_k T n p H) : (zg H = 20 ↔ (ys_kd T n p = 3 ∧ ys_vl T n p = 10)) ∧ (zg H = 18 ↔ (ys_kd T n p = 3 ∧ ys_vl T n p = 9)) ∧ (zg H = 19 ↔ (ys_kd T n p = 3 ∧ ys_vl T n p = 8)) ∧ (zg H = 17 ↔ (ys_kd T n p = 3 ∧ ys_vl T n p = 11)) := by
  rw [yr_zg hp h]
  by_cases hk : ys_kd T n p = 3
  · rw [if_pos hk]
    have := yw_mv (c := 0) (ys_vl_b hk)
    exact ⟨⟨fun h9 => ⟨hk, this.1.mp h9⟩, fun h9 => this.1.mpr h9.2⟩, ⟨fun h9 => ⟨hk, this.2.1.mp h9⟩, fun h9 => this.2.1.mpr h9.2⟩, ⟨fun h9 => ⟨hk, this.2.2.1.mp h9⟩, fun h9 => this.2.2.1.mpr h9.2⟩, ⟨fun h9 => ⟨hk, this.2.2.2.mp h9⟩, fun h9 => this.2.2.2.mpr h9.2⟩⟩
  · rw [if_neg hk]
    exact ⟨⟨fun h9 => by omega, fun h9 => absurd h9.1 hk⟩, ⟨fun h9 => by omega, fun h9 => absurd h9.1 hk⟩, ⟨fun h9 => by omega, fun h9 => absurd h9.1 hk⟩, ⟨fun h9 => by omega, fun h9 => absurd h9.1 hk⟩⟩
def yBad (T : Nat → Int) (n : Nat) (s0 : yM) (H : zp_H) : Prop := ∃ r, yD T n r H ∧ yA T n s0 r
theorem yBad_g {T : Nat → Int} {n : Nat} {s0 : yM} {H : zp_H} (h : yBad T n s0 H) : (H.2.1 72 23).toInt ≠ 0 := by
  obtain ⟨r, h, _⟩ := h
  rw [h.2.1]
  exact h.2.2.1
/-- in mode m -/
def yGd (T : Nat → Int) (n : Nat) (s0 : yM) (m : Nat) (H : zp_H) : Prop := (H.2.1 72 23).toInt = 0 ∧ ∃ lv p, lv ≠ [] ∧ yV T n lv p H ∧ yR T n s0 (m, lv, p)
/-- before a part: no bracket opens -/
def yGp (T : Nat → Int) (n : Nat) (s0 : yM) (H : zp_H) : Prop := (H.2.1 72 23).toInt = 0 ∧ ∃ lv p, lv ≠ [] ∧ yV T n lv p H ∧ yR T n s0 (1, lv, p) ∧ ¬ (ys_kd T n p = 4 ∧ ys_vl T n p = 40)

theorem yx_opE {L : Nat} {σ : Nat → Int32} {d a : Nat} {T : Nat → Int} {n : Nat} {s0 : yM} {H0 : zp_H} (hby : ∀ k, k < n → -128 ≤ T k ∧ T k ≤ 127) {H : zp_H} {lv : zp_LV} (hK : zx_KW L σ) (l0 : zp_get lv 0 = some (.inr (.inr (some 73)))) (h : zx_S a 0 0 H) (hF : zx_F a H0 H) (ha : (a : Int) ≤ (H.2.1 72 45).toInt) (hp : zx_phi H0 ≤ zx_phi H) (hJ : yGp T n s0 H ∨ yBad T n s0 H) : zs_Safe L σ (fun X => ∃ H1, X = (.inl none, H1) ∧ zx_S a 1 0 H1 ∧ zx_F a H0 H1 ∧ ((H1.2.1 72 23).toInt = 0 → zx_phi H0 + 2 ≤ zx_phi H1) ∧ (a : Int) ≤ (H1.2.1 72 45).toInt ∧ zx_phi H0 ≤ zx_phi H1 ∧ yO T n s0 H1) zm_195 [] (d + 5) (120, lv, [], H, (0, 0)) := by
  have W := zR_Wd (zR_dn h.1)
  rcases hJ with ⟨hg, lvb, p, hlv, hV, hR, h40⟩ | hJ
  · obtain ⟨_, c1, H1, rfl, c2, c3, c4, c5, c6, c7⟩ := yx_part (L := L) (σ := σ) (d := d) hby hK h ha hg hV hlv h40
    refine zw_ld (n := 1) (k := 0) (f := zp_isR) (pc' := 121) rfl rfl l0 rfl rfl ?_
    refine zw_cn (pc' := 124) (zw_cv (q := 72) (Y := zm_197) W.1 rfl rfl zm_197_t rfl rfl) rfl rfl rfl rfl rfl (c1) ?_
    refine zw_rn rfl rfl ?_
    exact ⟨H1, rfl, c2, zx_F_t hF c3, fun h9 => by have := c4 h9; omega, c5, by omega, yO_R hR c7⟩
  · have hg := yBad_g hJ
    refine zw_ld (n := 1) (k := 0) (f := zp_isR) (pc' := 121) rfl rfl l0 rfl rfl ?_
    refine zw_cn (pc' := 124) (zw_cv (q := 72) (Y := zm_197) W.1 rfl rfl zm_197_t rfl rfl) rfl rfl rfl rfl rfl (yx_part0 (d := d + 3) W hg) ?_
    refine zw_rn rfl rfl ?_
    exact ⟨H, rfl, zx_S_b h hg, hF, fun h9 => absurd h9 hg, ha, hp, Or.inr hJ⟩

set_option maxRecDepth 8000 in
theorem yx_opI {L : Nat} {σ : Nat → Int32} {d a : Nat} {T : Nat → Int} {n : Nat} {s0 : yM} {H0 : zp_H} (hby : ∀ k, k < n → -128 ≤ T k ∧ T k ≤ 127) {x2 : Int32} (hK : zx_KW L σ) : ∀ (m : Nat) (H : zp_H) (lv : zp_LV) (x4 : Int32) (k : Nat), (1401 - zx_phi H).toNat = m → zp_get lv 0 = some (.inr (.inr (some 73))) → zp_get lv 2 = some (.inl x2) → zp_get lv 4 = some (.inl x4) → zx_S a 0 0 H → zx_F a H0 H → (a : Int) ≤ (H.2.1 72 45).toInt → zx_phi H0 ≤ zx_phi H → x4.toInt = k → k ≤ 6 → (yGd T n s0 (if x2.toInt = 0 then 1 else 2 + k) H ∨ yBad T n s0 H) → (∀ (H1 : zp_H) (lv1 : zp_LV), zp_get lv1 0 = some (.inr (.inr (some 73))) → zp_get lv1 2 = some (.inl x2) → zx_S a 0 0 H1 → zx_F a H0 H1 → (a : Int) ≤ (H1.2.1 72 45).toInt → zx_phi H ≤ zx_phi H1 → (yGd T n s0 1 H1 ∨ yBad T n s0 H1) → zs_Safe L σ (fun X => ∃ H1, X = (.inl none, H1) ∧ zx_S a 1 0 H1 ∧ zx_F a H0 H1 ∧ ((H1.2.1 72 23).toInt = 0 → zx_phi H0 + 2 ≤ zx_phi H1) ∧ (a : Int) ≤ (H1.2.1 72 45).toInt ∧ zx_phi H0 ≤ zx_phi H1 ∧ yO T n s0 H1) zm_195 [] (d + 5) (75, lv1, [], H1, (0, 0))) → zs_Safe L σ (fun X => ∃ H1, X = (.inl none, H1) ∧ zx_S a 1 0 H1 ∧ zx_F a H0 H1 ∧ ((H1.2.1 72 23).toInt = 0 → zx_phi H0 + 2 ≤ zx_phi H1) ∧ (a : Int) ≤ (H1.2.1 72 45).toInt ∧ zx_phi H0 ≤ zx_phi H1 ∧ yO T n s0 H1) zm_195 [] (d + 5) (18, lv, [], H, (0, 0)) := by
  intro m
  induction m using Nat.strongRecOn with
  | ind m ih =>
    intro H lv x4 k hm l0 l2 l4 h hF ha hp hx4 hk6 hJ hk
    have W := zR_Wd (zR_dn h.1)
    refine zw_ld (n := 1) (k := 0) (f := zp_isR) (pc' := 19) rfl rfl l0 rfl rfl ?_
    by_cases hg : (H.2.1 72 23).toInt = 0
    · refine zw_c (pc' := 22) (zw_cv (q := 72) (Y := zm_175) W.1 rfl rfl zm_175_t rfl rfl) rfl rfl rfl rfl rfl (zq_good1 W hg) ?_
      obtain ⟨_, lvb, p, hlv, hV, hR⟩ := hJ.resolve_right (fun h9 => yBad_g h9 hg)
      refine zw_beq1 (g := 75) (pc' := 25) rfl rfl rfl (rfl : _ = (1 : Int)) (fun h9 => absurd h9 (by decide)) (fun hb => ?_)
      refine zw_ld (n := 1) (k := 2) (f := zp_isI) (pc' := 26) rfl rfl l2 rfl rfl ?_
      refine zw_beq1 (g := 75) (pc' := 29) rfl rfl rfl rfl (fun h2 => ?_) (fun h2 => ?_)
      · rw [if_pos h2] at hR
        exact hk H lv l0 l2 h hF ha (Int.le_refl _) (Or.inl ⟨hg, lvb, p, hlv, hV, hR⟩)
      · rw [if_neg h2] at hR
        have hwd := (yr_wd hV.2.2.1 hV.2.1).1
        refine zw_ld (n := 1) (k := 0) (f := zp_isR) (pc' := 30) rfl rfl l0 rfl rfl ?_
        obtain ⟨v, v1, v2⟩ := hK (d + 1) H h.1
        refine zw_c (pc' := 33) (zw_cv (q := 72) (Y := zm_177) W.1 rfl rfl zm_177_t rfl rfl) rfl rfl rfl rfl rfl (v1) ?_
        refine zw_s (pc' := 35) rfl rfl ?_
        refine zw_bne2 (g := 75) (pc' := 38) rfl rfl rfl rfl (rfl : _ = (20 : Int)) (fun h3 => ?_) (fun h3 => ?_)
        · have hno : ¬ (ys_kd T n p = 3 ∧ ys_vl T n p = 10) := fun h9 => h3 (v2.trans (hwd.mpr h9))
          exact hk H lv l0 l2 h hF ha (Int.le_refl _) (Or.inl ⟨hg, lvb, p, hlv, hV, yR_t hR (yR_e (yN_nn hno))⟩)
        · have hs := zg_s (H := H) (by omega)
          have hno := hwd.mp (v2.symm.trans h3)
          refine zw_ld (n := 2) (k := 4) (f := zp_isI) (pc' := 40) rfl rfl l4 rfl rfl ?_
          refine zw_s (pc' := 42) rfl rfl ?_
          refine zw_bne2 (g := 50) (pc' := 45) rfl rfl rfl rfl (rfl : _ = (6 : Int)) (fun h4 => ?_) (fun h4 => ?_)
          · refine zw_ii (pc' := 53) rfl l4 rfl rfl ?_
            refine zw_ld (n := 1) (k := 0) (f := zp_isR) (pc' := 54) rfl rfl (zw_gt l0 rfl rfl) rfl rfl ?_
            refine zw_c (pc' := 57) (zw_cv (q := 72) (Y := zm_175) W.1 rfl rfl zm_175_t rfl rfl) rfl rfl rfl rfl rfl (zq_good1 W hg) ?_
            refine zw_bne1 (g := 63) (pc' := 60) rfl rfl rfl (rfl : _ = (1 : Int)) (fun hb => ?_) (fun h9 => absurd h9 (by decide))
            obtain ⟨k1, k2, k3, k4⟩ := zx_wait (y := Int32.ofInt 3) h hg (by omega) (by decide)
            have hT := k4 0 0 rfl rfl
            have f45 : (zx_wt H (Int32.ofInt 3)).2.1 72 45 = H.2.1 72 45 := zx_wt_f 45 rfl
            obtain ⟨t0, w0⟩ := zx_top h
            have wb := h.2.2.1
            refine zw_ld (n := 1) (k := 0) (f := zp_isR) (pc' := 64) rfl rfl (zw_gt l0 rfl rfl) rfl rfl ?_
            refine zw_s (pc' := 65) rfl rfl ?_
            refine zw_cn (pc' := 68) (zw_cv (q := 72) (Y := zm_196) W.1 rfl rfl zm_196_t rfl rfl) rfl rfl rfl rfl rfl (zq_waits W ⟨w0, by show _ < ((800 : Nat) : Int); omega⟩) ?_
            obtain ⟨K, c1, c2, c3, c4, c5, c6⟩ := zx_T_goes (L := L) (σ := σ) (d := d + 3) hT
            have pK := zx_phi_le c2.1
            have hgo := (yx_goes hby hT.1 (yV_wt hV) c1).1
            have e4 : (x4 + Int32.ofInt 1).toInt = x4.toInt + 1 := zw_p1 (by omega)
            refine zw_ld (n := 1) (k := 0) (f := zp_isR) (pc' := 69) rfl rfl (zw_gt l0 rfl rfl) rfl rfl ?_
            refine zw_cn (pc' := 72) (zw_cv (q := 72) (Y := zm_171) W.1 rfl rfl zm_171_t rfl rfl) rfl rfl rfl rfl rfl (c1) ?_
            refine zw_s (pc' := 18) rfl rfl ?_
            refine ih (1401 - zx_phi K).toNat (by omega) K _ _ (k + 1) rfl (zw_gt l0 rfl rfl) (zw_gt l2 rfl rfl) zw_g1 c2 (zx_F_t (zx_F_t hF k1) c3) (by rw [c6, f45]; exact ha) (by omega) (by omega) (by omega) (Or.inl ⟨c4, lvb, _, hlv, hgo, ?_⟩) ?_
            · rw [if_neg h2]
              exact yR_t hR (yR_s (yN_no hno.1 hno.2 (by omega)))
            · intro H1 lv1 m0 m2 mS mF ma mp mJ
              exact hk H1 lv1 m0 m2 mS mF ma (by omega) mJ
          · refine zw_ld (n := 1) (k := 0) (f := zp_isR) (pc' := 46) rfl rfl l0 rfl rfl ?_
            refine zw_s (pc' := 47) rfl rfl ?_
            obtain ⟨K, c1, c2, c3, c4, c5, c6, c7⟩ := zx_wrong (L := L) (σ := σ) (d := d + 4) (y := Int32.ofInt 2) h (by decide)
            have WK := zR_Wd (zR_dn (c3 0 0).1)
            have hw := yx_wrong h.1 hg hV (by decide) c1
            obtain rfl : k = 6 := by omega
            have hbad : yBad T n s0 K := ⟨_, hw, hR _ (yA_done (yN_no6 hno.1 hno.2))⟩
            refine zw_cn (pc' := 50) (zw_cv (q := 72) (Y := zm_180) W.1 rfl rfl zm_180_t rfl rfl) rfl rfl rfl rfl rfl (c1) ?_
            refine zw_ii (pc' := 53) rfl l4 rfl rfl ?_
            refine zw_ld (n := 1) (k := 0) (f := zp_isR) (pc' := 54) rfl rfl (zw_gt l0 rfl rfl) rfl rfl ?_
            refine zw_c (pc' := 57) (zw_cv (q := 72) (Y := zm_175) WK.1 rfl rfl zm_175_t rfl rfl) rfl rfl rfl rfl rfl (zq_good0 (H := K) WK c2) ?_
            refine zw_bne1 (g := 63) (pc' := 60) rfl rfl rfl (rfl : _ = (0 : Int)) (fun h9 => absurd h9 (by decide)) (fun hb => ?_)
            refine zw_s (pc' := 18) rfl rfl ?_
            refine zw_ld (n := 1) (k := 0) (f := zp_isR) (pc' := 19) rfl rfl (zw_gt l0 rfl rfl) rfl rfl ?_
            refine zw_c (pc' := 22) (zw_cv (q := 72) (Y := zm_175) WK.1 rfl rfl zm_175_t rfl rfl) rfl rfl rfl rfl rfl (zq_good0 (H := K) WK c2) ?_
            refine zw_beq1 (g := 75) (pc' := 25) rfl rfl rfl (rfl : _ = (0 : Int)) (fun hb => ?_) (fun h9 => absurd h9 (by decide))
            exact hk K _ (zw_gt l0 rfl rfl) (zw_gt l2 rfl rfl) (c3 0 0) (zx_F_t hF c4) (by omega) (by omega) (Or.inr hbad)
    · refine zw_c (pc' := 22) (zw_cv (q := 72) (Y := zm_175) W.1 rfl rfl zm_175_t rfl rfl) rfl rfl rfl rfl rfl (zq_good0 W hg) ?_
      refine zw_beq1 (g := 75) (pc' := 25) rfl rfl rfl (rfl : _ = (0 : Int)) (fun hb => ?_) (fun h9 => absurd h9 (by decide))
      exact hk H lv l0 l2 h hF ha (Int.le_refl _) (Or.inr (hJ.resolve_left (fun h9 => hg h9.1)))

set_option maxRecDepth 8000 in
theorem yx_opO {L : Nat} {σ : Nat → Int32} {d a : Nat} {T : Nat → Int} {n : Nat} {s0 : yM} {H0 : zp_H} (hby : ∀ k, k < n → -128 ≤ T k ∧ T k ≤ 127) (hK : zx_KW L σ) : ∀ (m : Nat) (H : zp_H) (lv : zp_LV) (x2 x3 : Int32), 2 * (1401 - zx_phi H).toNat + (if x3.toInt = 0 then 0 else 1) = m → zp_get lv 0 = some (.inr (.inr (some 73))) → zp_get lv 2 = some (.inl x2) → zp_get lv 3 = some (.inl x3) → zx_S a 0 0 H → zx_F a H0 H → (a : Int) ≤ (H.2.1 72 45).toInt → zx_phi H0 ≤ zx_phi H → ((((x3.toInt ≠ 0 → yGd T n s0 (if x2.toInt = 0 then 1 else 2) H) ∧ (x3.toInt = 0 → yGp T n s0 H))) ∨ yBad T n s0 H) → zs_Safe L σ (fun X => ∃ H1, X = (.inl none, H1) ∧ zx_S a 1 0 H1 ∧ zx_F a H0 H1 ∧ ((H1.2.1 72 23).toInt = 0 → zx_phi H0 + 2 ≤ zx_phi H1) ∧ (a : Int) ≤ (H1.2.1 72 45).toInt ∧ zx_phi H0 ≤ zx_phi H1 ∧ yO T n s0 H1) zm_195 [] (d + 5) (4, lv, [], H, (0, 0)) := by
  intro m
  induction m using Nat.strongRecOn with
  | ind m ih =>
    intro H lv x2 x3 hm l0 l2 l3 h hF ha hp hJ
    have W := zR_Wd (zR_dn h.1)
    have pH := zx_phi_le h.1
    refine zw_ld (n := 1) (k := 3) (f := zp_isI) (pc' := 5) rfl rfl l3 rfl rfl ?_
    refine zw_beq1 (g := 120) (pc' := 8) rfl rfl rfl rfl (fun h3 => ?_) (fun h3 => ?_)
    · exact yx_opE hby hK l0 h hF ha hp (hJ.imp_left (fun h9 => h9.2 h3))
    · rw [if_neg h3] at hm
      refine zw_ld (n := 1) (k := 0) (f := zp_isR) (pc' := 9) rfl rfl l0 rfl rfl ?_
      by_cases hg : (H.2.1 72 23).toInt = 0
      · refine zw_c (pc' := 12) (zw_cv (q := 72) (Y := zm_175) W.1 rfl rfl zm_175_t rfl rfl) rfl rfl rfl rfl rfl (zq_good1 W hg) ?_
        refine zw_beq1 (g := 120) (pc' := 15) rfl rfl rfl (rfl : _ = (1 : Int)) (fun h9 => absurd h9 (by decide)) (fun hb => ?_)
        refine zw_s (pc' := 16) rfl rfl ?_
        refine zw_st (n := 2) (k := 4) (f := zp_isI) (pc' := 18) rfl rfl rfl rfl rfl ?_
        refine yx_opI hby hK _ H _ _ 0 rfl (zw_gt l0 rfl rfl) (zw_gt l2 rfl rfl) zw_g1 h hF ha hp rfl (by decide) (hJ.imp_left (fun h9 => h9.1 h3)) ?_
        clear l0 l2 l3
        intro K lv l0 l2 k1 k2 k3 k4 kJ
        have WK := zR_Wd (zR_dn k1.1)
        have pK := zx_phi_le k1.1
        refine zw_ld (n := 1) (k := 0) (f := zp_isR) (pc' := 76) rfl rfl l0 rfl rfl ?_
        by_cases hK0 : (K.2.1 72 23).toInt = 0
        · refine zw_c (pc' := 79) (zw_cv (q := 72) (Y := zm_175) WK.1 rfl rfl zm_175_t rfl rfl) rfl rfl rfl rfl rfl (zq_good1 WK hK0) ?_
          obtain ⟨_, lvb, p, hlv, hV, hR⟩ := kJ.resolve_right (fun h9 => yBad_g h9 hK0)
          refine zw_beq1 (g := 95) (pc' := 82) rfl rfl rfl (rfl : _ = (1 : Int)) (fun h9 => absurd h9 (by decide)) (fun hb => ?_)
          refine zw_ld (n := 1) (k := 0) (f := zp_isR) (pc' := 83) rfl rfl l0 rfl rfl ?_
          refine zw_s (pc' := 85) rfl rfl ?_
          by_cases hsg : (K.2.1 72 28).toInt = 3 ∧ (K.2.1 72 32).toInt = (Int32.ofInt 40).toInt
          · refine zw_c (pc' := 88) (zw_cv (q := 72) (Y := zm_194) WK.1 rfl rfl zm_194_t rfl rfl) rfl rfl rfl rfl rfl (zq_sign1 WK hsg) ?_
            have h40 := (yr_sg hV.2.1 (c := 40)).mp hsg
            have hN := yN_op (lv := lvb) h40.1 h40.2
            refine zw_beq1 (g := 95) (pc' := 91) rfl rfl rfl (rfl : _ = (1 : Int)) (fun h9 => absurd h9 (by decide)) (fun hb => ?_)
            refine zw_s (pc' := 92) rfl rfl ?_
            refine zw_s (pc' := 96) rfl rfl ?_
            refine zw_st (n := 1) (k := 3) (f := zp_isI) (pc' := 97) rfl rfl rfl rfl rfl ?_
            refine zw_ld (n := 1) (k := 3) (f := zp_isI) (pc' := 98) rfl rfl zw_g1 rfl rfl ?_
            refine zw_beq1 (g := 117) (pc' := 101) rfl rfl rfl (rfl : _ = (1 : Int)) (fun h9 => absurd h9 (by decide)) (fun hb => ?_)
            obtain ⟨m1, m2, m3, m4⟩ := zx_wait (y := Int32.ofInt 14) k1 hK0 (by omega) (by decide)
            have hT := m4 0 1 rfl rfl
            have f45 : (zx_wt K (Int32.ofInt 14)).2.1 72 45 = K.2.1 72 45 := zx_wt_f 45 rfl
            obtain ⟨t0, w0⟩ := zx_top k1
            have wb := k1.2.2.1
            refine zw_ld (n := 1) (k := 0) (f := zp_isR) (pc' := 102) rfl rfl (zw_gt l0 rfl rfl) rfl rfl ?_
            refine zw_s (pc' := 104) rfl rfl ?_
            refine zw_cn (pc' := 107) (zw_cv (q := 72) (Y := zm_196) WK.1 rfl rfl zm_196_t rfl rfl) rfl rfl rfl rfl rfl (zq_waits WK ⟨w0, by show _ < ((800 : Nat) : Int); omega⟩) ?_
            obtain ⟨K2, c1, c2, c3, c4, c5, c6⟩ := zx_T_goes (L := L) (σ := σ) (d := d + 3) hT
            have pK2 := zx_phi_le c2.1
            have hgo := (yx_goes hby hT.1 (yV_wt hV) c1).1
            refine zw_ld (n := 1) (k := 0) (f := zp_isR) (pc' := 108) rfl rfl (zw_gt l0 rfl rfl) rfl rfl ?_
            refine zw_cn (pc' := 111) (zw_cv (q := 72) (Y := zm_171) WK.1 rfl rfl zm_171_t rfl rfl) rfl rfl rfl rfl rfl (c1) ?_
            obtain ⟨_, e1, K3, rfl, e2, e3, e4, e5, e6⟩ := yx_deeper (L := L) (σ := σ) (d := d + 2) hby c2 c4 hgo
            have WK2 := zR_Wd (zR_dn c2.1)
            refine zw_ld (n := 1) (k := 0) (f := zp_isR) (pc' := 112) rfl rfl (zw_gt l0 rfl rfl) rfl rfl ?_
            refine zw_cn (pc' := 115) (zw_cv (q := 72) (Y := zm_193) WK2.1 rfl rfl zm_193_t rfl rfl) rfl rfl rfl rfl rfl (e1) ?_
            refine zw_s (pc' := 116) rfl rfl ?_
            refine zw_st (n := 1) (k := 2) (f := zp_isI) (pc' := 117) rfl rfl rfl rfl rfl ?_
            refine zw_s (pc' := 4) rfl rfl ?_
            refine ih _ (by rw [if_neg (by decide)]; omega) K3 _ _ _ rfl (zw_gt (zw_gt l0 rfl rfl) rfl rfl) zw_g1 (zw_gt zw_g1 rfl rfl) e2 (zx_F_t (zx_F_t (zx_F_t k2 m1) c3) e3) (by rw [e5, c6, f45]; exact k3) (by omega) ?_
            rcases e6 with ⟨f1, f2, f3⟩ | ⟨f1, f2⟩
            · rw [if_pos f2] at hN
              refine Or.inl ⟨fun _ => ⟨f1, false :: lvb, _, List.cons_ne_nil _ _, f3, ?_⟩, fun h9 => absurd h9 (by decide)⟩
              rw [if_neg (by decide)]
              exact yR_t hR (yR_s hN)
            · rw [if_neg f1] at hN
              exact Or.inr ⟨_, f2, hR _ (yA_done hN)⟩
          · refine zw_c (pc' := 88) (zw_cv (q := 72) (Y := zm_194) WK.1 rfl rfl zm_194_t rfl rfl) rfl rfl rfl rfl rfl (zq_sign0 WK hsg) ?_
            refine zw_beq1 (g := 95) (pc' := 91) rfl rfl rfl (rfl : _ = (0 : Int)) (fun hb => ?_) (fun h9 => absurd h9 (by decide))
            refine zw_s (pc' := 96) rfl rfl ?_
            refine zw_st (n := 1) (k := 3) (f := zp_isI) (pc' := 97) rfl rfl rfl rfl rfl ?_
            refine zw_ld (n := 1) (k := 3) (f := zp_isI) (pc' := 98) rfl rfl zw_g1 rfl rfl ?_
            refine zw_beq1 (g := 117) (pc' := 101) rfl rfl rfl (rfl : _ = (0 : Int)) (fun hb => ?_) (fun h9 => absurd h9 (by decide))
            refine zw_s (pc' := 4) rfl rfl ?_
            exact ih _ (by rw [if_pos (by decide)]; omega) K _ _ _ rfl (zw_gt l0 rfl rfl) (zw_gt l2 rfl rfl) zw_g1 k1 k2 k3 (by omega) (Or.inl ⟨fun h9 => absurd rfl h9, fun _ => ⟨hK0, lvb, p, hlv, hV, hR, fun h9 => hsg ((yr_sg hV.2.1 (c := 40)).mpr h9)⟩⟩)
        · refine zw_c (pc' := 79) (zw_cv (q := 72) (Y := zm_175) WK.1 rfl rfl zm_175_t rfl rfl) rfl rfl rfl rfl rfl (zq_good0 WK hK0) ?_
          refine zw_beq1 (g := 95) (pc' := 82) rfl rfl rfl (rfl : _ = (0 : Int)) (fun hb => ?_) (fun h9 => absurd h9 (by decide))
          refine zw_s (pc' := 96) rfl rfl ?_
          refine zw_st (n := 1) (k := 3) (f := zp_isI) (pc' := 97) rfl rfl rfl rfl rfl ?_
          refine zw_ld (n := 1) (k := 3) (f := zp_isI) (pc' := 98) rfl rfl zw_g1 rfl rfl ?_
          refine zw_beq1 (g := 117) (pc' := 101) rfl rfl rfl (rfl : _ = (0 : Int)) (fun hb => ?_) (fun h9 => absurd h9 (by decide))
          refine zw_s (pc' := 4) rfl rfl ?_
          exact ih _ (by rw [if_pos (by decide)]; omega) K _ _ _ rfl (zw_gt l0 rfl rfl) (zw_gt l2 rfl rfl) zw_g1 k1 k2 k3 (by omega) (Or.inr (kJ.resolve_left (fun h9 => hK0 h9.1)))
      · refine zw_c (pc' := 12) (zw_cv (q := 72) (Y := zm_175) W.1 rfl rfl zm_175_t rfl rfl) rfl rfl rfl rfl rfl (zq_good0 W hg) ?_
        refine zw_beq1 (g := 120) (pc' := 15) rfl rfl rfl (rfl : _ = (0 : Int)) (fun hb => ?_) (fun h9 => absurd h9 (by decide))
        refine yx_opE hby hK l0 h hF ha hp (Or.inr ?_)
        rcases hJ with hJ | hJ
        · exact absurd (hJ.1 h3).1 hg
        · exact hJ

theorem yx_operand {L : Nat} {σ : Nat → Int32} {d a : Nat} {T : Nat → Int} {n p : Nat} {lv : List Bool} {H : zp_H} {y : Int32} (hby : ∀ k, k < n → -128 ≤ T k ∧ T k ≤ 127) (hK : zx_KW L σ) (h : zx_S a 0 0 H) (ha : (a : Int) ≤ (H.2.1 72 45).toInt) (hg : (H.2.1 72 23).toInt = 0) (hV : yV T n lv p H) (hlv : lv ≠ []) : ∃ X, zp_Call L σ (d + 6) 195 [.inr (.inr (some 73)), .inl y] H X ∧ (fun X => ∃ H1, X = (.inl none, H1) ∧ zx_S a 1 0 H1 ∧ zx_F a H H1 ∧ ((H1.2.1 72 23).toInt = 0 → zx_phi H + 2 ≤ zx_phi H1) ∧ (a : Int) ≤ (H1.2.1 72 45).toInt ∧ zx_phi H ≤ zx_phi H1 ∧ yO T n (if y.toInt = 0 then 1 else 2, lv, p) H1) X := by
  refine zw_met zm_195_t rfl rfl ?_
  refine zw_ld (n := 1) (k := 1) (f := zp_isI) (pc' := 1) rfl rfl rfl rfl rfl ?_
  refine zw_st (n := 1) (k := 2) (f := zp_isI) (pc' := 2) rfl rfl rfl rfl rfl ?_
  refine zw_s (pc' := 3) rfl rfl ?_
  refine zw_st (n := 1) (k := 3) (f := zp_isI) (pc' := 4) rfl rfl rfl rfl rfl ?_
  exact yx_opO hby hK _ H _ _ _ rfl (zw_gt (zw_gt rfl rfl rfl) rfl rfl) (zw_gt zw_g1 rfl rfl) zw_g1 h (zx_F_r H) ha (Int.le_refl _) (Or.inl ⟨fun _ => ⟨hg, lv, p, hlv, hV, yR_r⟩, fun h9 => absurd h9 (by decide)⟩)
end
section
/-! ===== the reference closes a bracket, exactly ===== -/

theorem yr_opn_0 {w : Nat → Int32} : ∀ {n : Nat}, (∀ i, i < n → (w i).toInt < 14) → zr_opn w n = 0
  | 0, _ => rfl
  | n + 1, h => by
    unfold zr_opn
    rw [yr_opn_0 (fun i hi => h i (Nat.lt_succ_of_lt hi)), if_neg (by have := h n (Nat.lt_succ_self n); omega)]

theorem yx_isoL {L : Nat} {σ : Nat → Int32} {d : Nat} {H : zp_H} (W : zw_W H) (hw : 0 ≤ (H.2.1 72 46).toInt ∧ (H.2.1 72 46).toInt ≤ 700) : ∀ (n : Nat) (lv : zp_LV) (x : Int32), (x.toInt + 1).toNat = n → zp_get lv 0 = some (.inr (.inr (some 73))) → zp_get lv 1 = some (.inl x) → -1 ≤ x.toInt ∧ x.toInt < (H.2.1 72 46).toInt → (∀ i : Nat, x.toInt < i → i < (H.2.1 72 46).toInt.toNat → (H.2.1 91 i).toInt < 14) → zs_Safe L σ (fun X => ∃ v, X = (.inl (some (.inl v)), H) ∧ ((v = Int32.ofInt 1 ∧ ∃ i, i < (H.2.1 72 46).toInt.toNat ∧ 14 ≤ (H.2.1 91 i).toInt) ∨ (v = Int32.ofInt 0 ∧ ∀ i, i < (H.2.1 72 46).toInt.toNat → (H.2.1 91 i).toInt < 14))) zm_202 [] (d + 1) (7, lv, [], H, (0, 0)) := by
  intro n
  induction n with
  | zero =>
    intro lv x hn l0 l1 hx hno
    refine zw_ld (n := 1) (k := 1) (f := zp_isI) (pc' := 8) rfl rfl l1 rfl rfl ?_
    refine zw_blt1 (g := 29) (pc' := 11) rfl rfl rfl rfl (fun hb => ?_) (fun hb => ?_)
    · refine zw_ld (n := 1) (k := 1) (f := zp_isI) (pc' := 30) rfl rfl l1 rfl rfl ?_
      refine zw_blt1 (g := 37) (pc' := 33) rfl rfl rfl rfl (fun hc => ?_) (fun hc => ?_)
      · refine zw_s (pc' := 38) rfl rfl ?_
        refine zw_rz rfl rfl (by decide) ?_
        exact ⟨_, rfl, Or.inr ⟨rfl, fun i hi => hno i (by omega) hi⟩⟩
      · omega
    · omega
  | succ n ih =>
    intro lv x hn l0 l1 hx hno
    have e1 : (x + Int32.ofInt (-1)).toInt = x.toInt - 1 := by
      have h1 : (Int32.ofInt (-1)).toInt = -1 := rfl
      rw [zn_add (by omega) (by omega), h1]
      omega
    refine zw_ld (n := 1) (k := 1) (f := zp_isI) (pc' := 8) rfl rfl l1 rfl rfl ?_
    refine zw_blt1 (g := 29) (pc' := 11) rfl rfl rfl rfl (fun hb => ?_) (fun hb => ?_)
    · omega
    · refine zw_ld (n := 1) (k := 0) (f := zp_isR) (pc' := 12) rfl rfl l0 rfl rfl ?_
      refine zw_gR (q := 72) (pc' := 15) W rfl rfl rfl rfl (W.2 72 60 _ rfl) rfl ?_
      refine zw_ld (n := 1) (k := 1) (f := zp_isI) (pc' := 16) rfl rfl l1 rfl rfl ?_
      refine zw_ia (q := 91) (pc' := 17) W rfl rfl (by decide) (⟨hb, by show _ < ((800 : Nat) : Int); omega⟩) rfl rfl ?_
      by_cases ho : 14 ≤ (H.2.1 91 x.toInt.toNat).toInt
      · refine zw_c (pc' := 20) (zw_cs (Y := zm_200) rfl rfl zm_200_t) rfl rfl rfl rfl rfl (zq_open1 W ho) ?_
        refine zw_bne1 (g := 29) (pc' := 23) rfl rfl rfl (rfl : _ = (1 : Int)) (fun hb => ?_) (fun h9 => absurd h9 (by decide))
        refine zw_ld (n := 1) (k := 1) (f := zp_isI) (pc' := 30) rfl rfl l1 rfl rfl ?_
        refine zw_blt1 (g := 37) (pc' := 33) rfl rfl rfl rfl (fun hc => ?_) (fun hc => ?_)
        · omega
        · refine zw_s (pc' := 34) rfl rfl ?_
          refine zw_s (pc' := 38) rfl rfl ?_
          refine zw_rz rfl rfl (by decide) ?_
          exact ⟨_, rfl, Or.inl ⟨rfl, x.toInt.toNat, by omega, ho⟩⟩
      · refine zw_c (pc' := 20) (zw_cs (Y := zm_200) rfl rfl zm_200_t) rfl rfl rfl rfl rfl (zq_open0 W (by omega)) ?_
        refine zw_bne1 (g := 29) (pc' := 23) rfl rfl rfl (rfl : _ = (0 : Int)) (fun h9 => absurd h9 (by decide)) (fun hb => ?_)
        refine zw_ii (pc' := 26) rfl l1 rfl rfl ?_
        refine zw_s (pc' := 7) rfl rfl ?_
        refine ih _ _ (by omega) (zw_gt l0 rfl rfl) zw_g1 (by omega) ?_
        intro i hi hi2
        by_cases h9 : i = x.toInt.toNat
        · rw [h9]
          omega
        · exact hno i (by omega) hi2

theorem yx_isOpened {L : Nat} {σ : Nat → Int32} {d : Nat} {H : zp_H} (W : zw_W H) (hw : 0 ≤ (H.2.1 72 46).toInt ∧ (H.2.1 72 46).toInt ≤ 700) : ∃ X, zp_Call L σ (d + 2) 202 [.inr (.inr (some 73))] H X ∧ (fun X => ∃ v, X = (.inl (some (.inl v)), H) ∧ ((v = Int32.ofInt 1 ∧ ∃ i, i < (H.2.1 72 46).toInt.toNat ∧ 14 ≤ (H.2.1 91 i).toInt) ∨ (v = Int32.ofInt 0 ∧ ∀ i, i < (H.2.1 72 46).toInt.toNat → (H.2.1 91 i).toInt < 14))) X := by
  have e1 : (H.2.1 72 46 - Int32.ofInt 1).toInt = (H.2.1 72 46).toInt - 1 := zw_m1 (by omega)
  refine zw_met zm_202_t rfl rfl ?_
  refine zw_ld (n := 1) (k := 0) (f := zp_isR) (pc' := 1) rfl rfl rfl rfl rfl ?_
  refine zw_gI (q := 72) (pc' := 4) W rfl rfl rfl rfl rfl rfl ?_
  refine zw_s (pc' := 5) rfl rfl ?_
  refine zw_isub (pc' := 6) rfl rfl ?_
  refine zw_st (n := 1) (k := 1) (f := zp_isI) (pc' := 7) rfl rfl rfl rfl rfl ?_
  exact yx_isoL W hw _ _ _ rfl (zw_gt rfl rfl rfl) zw_g1 ⟨by omega, by omega⟩ (fun i h1 h2 => by omega)

theorem yx_closes {L : Nat} {σ : Nat → Int32} {d a : Nat} {T : Nat → Int} {n p : Nat} {b : Bool} {lv : List Bool} {H : zp_H} (hby : ∀ k, k < n → -128 ≤ T k ∧ T k ≤ 127) (h : zx_S a 1 0 H) (h0 : (H.2.1 72 23).toInt = 0) (hs : (H.2.1 72 28).toInt ≠ 0) (hop : 1 ≤ zr_opn (H.2.1 91) (H.2.1 72 46).toInt.toNat) (hV : yV T n (b :: lv) p H) : ∃ X, zp_Call L σ (d + 4) 203 [.inr (.inr (some 73))] H X ∧ ∃ H1, X = (.inl none, H1) ∧ zx_S a 1 0 H1 ∧ zx_F a H H1 ∧ (H1.2.1 72 23).toInt = 0 ∧ zx_phi H + 2 ≤ zx_phi H1 ∧ yV T n lv (ys_nx T n p) H1 := by
  have W := zR_Wd (zR_dn h.1)
  refine zw_met zm_203_t rfl rfl ?_
  obtain ⟨_, c1, K, rfl, c2, c3, c4, c5, c6⟩ := zx_drops (L := L) (σ := σ) (d := d) (y := Int32.ofInt 0) h (zx_S_a h h0)
  have WK := zR_Wd (zR_dn c2.1)
  have k23 := zx_fe c3.1 23 rfl rfl rfl
  have k27 := zx_fe c3.1 27 rfl rfl rfl
  have k28 := zx_fe c3.1 28 rfl rfl rfl
  have hphi := zx_phi_i k27 k28
  obtain ⟨t0, w0⟩ := zx_top c2
  have hw : 0 < (K.2.1 72 46).toInt := by
    by_cases h9 : (K.2.1 72 46).toInt = 0
    · have h8 : zr_opn (K.2.1 91) (K.2.1 72 46).toInt.toNat = 0 := by rw [h9]; rfl
      omega
    · omega
  have ho : 14 ≤ (K.2.1 91 ((K.2.1 72 46).toInt - 1).toNat).toInt := by
    rcases c6 (by decide) with h9 | h9
    · omega
    · exact h9
  have hT := zx_clT c2 (by omega) (by omega) hw ho
  obtain ⟨K1, d1, d2, d3, d4, d5, d6⟩ := zx_T_goes (L := L) (σ := σ) (d := d + 1) hT
  have e45 : (zw_I (zw_I K 72 46 (K.2.1 72 46 - Int32.ofInt 1)) 72 47 (K.2.1 72 47 - Int32.ofInt 1)).2.1 72 45 = K.2.1 72 45 := zw_ne (zw_ne rfl rfl) rfl
  have eph : zx_phi (zw_I (zw_I K 72 46 (K.2.1 72 46 - Int32.ofInt 1)) 72 47 (K.2.1 72 47 - Int32.ofInt 1)) = zx_phi K := zx_phi_e (zw_ne (zw_ne rfl rfl) rfl) (zw_ne (zw_ne rfl rfl) rfl)
  have hVK : yV T n (b :: lv) p K := yV_F hV c3.1 rfl ⟨fun k => rfl, fun k => rfl⟩ rfl
  have e47 : (K.2.1 72 47).toInt = ((lv.length + 1 : Nat) : Int) := hVK.2.2.2.1
  have hVC : yV T n lv p (zw_I (zw_I K 72 46 (K.2.1 72 46 - Int32.ofInt 1)) 72 47 (K.2.1 72 47 - Int32.ofInt 1)) := by
    refine ⟨yr_T_I (yr_T_I hVK.1 rfl) rfl, yr_k_c (fun k hk => zw_ne (zw_ne rfl ?_) ?_) rfl hVK.2.1, hVK.2.2.1, ?_, yt_c (funext fun i => zw_ne (zw_ne rfl rfl) rfl) hVK.2.2.2.2.2⟩
    · rcases (show k = 27 ∨ k = 28 ∨ k = 29 ∨ k = 30 ∨ k = 31 ∨ k = 32 by omega) with rfl | rfl | rfl | rfl | rfl | rfl <;> rfl
    · rcases (show k = 27 ∨ k = 28 ∨ k = 29 ∨ k = 30 ∨ k = 31 ∨ k = 32 by omega) with rfl | rfl | rfl | rfl | rfl | rfl <;> rfl
    · refine (congrArg Int32.toInt zw_eq).trans ?_
      rw [zw_m1 (by omega)]
      omega
  have hgo := (yx_goes hby hT.1 hVC d1).1
  refine zw_ld (n := 1) (k := 0) (f := zp_isR) (pc' := 1) rfl rfl rfl rfl rfl ?_
  refine zw_s (pc' := 2) rfl rfl ?_
  refine zw_cn (pc' := 5) (zw_cv (q := 72) (Y := zm_199) W.1 rfl rfl zm_199_t rfl rfl) rfl rfl rfl rfl rfl (c1) ?_
  refine zw_ld (n := 1) (k := 0) (f := zp_isR) (pc' := 6) rfl rfl rfl rfl rfl ?_
  refine zw_s (pc' := 7) rfl rfl ?_
  refine zw_gI (q := 72) (pc' := 10) WK rfl rfl rfl rfl rfl rfl ?_
  refine zw_s (pc' := 11) rfl rfl ?_
  refine zw_isub (pc' := 12) rfl rfl ?_
  refine zw_pI (q := 72) (pc' := 15) WK rfl rfl rfl rfl rfl rfl ?_
  refine zw_ld (n := 1) (k := 0) (f := zp_isR) (pc' := 16) rfl rfl rfl rfl rfl ?_
  refine zw_s (pc' := 17) rfl rfl ?_
  refine zw_gI (q := 72) (pc' := 20) WK rfl rfl rfl rfl (zw_ne rfl rfl) rfl ?_
  refine zw_s (pc' := 21) rfl rfl ?_
  refine zw_isub (pc' := 22) rfl rfl ?_
  refine zw_pI (q := 72) (pc' := 25) WK rfl rfl rfl rfl rfl rfl ?_
  refine zw_ld (n := 1) (k := 0) (f := zp_isR) (pc' := 26) rfl rfl rfl rfl rfl ?_
  refine zw_cn (pc' := 29) (zw_cv (q := 72) (Y := zm_171) WK.1 rfl rfl zm_171_t rfl rfl) rfl rfl rfl rfl rfl (d1) ?_
  refine zw_rn rfl rfl ?_
  exact ⟨K1, rfl, d2, zx_F_t (zx_Fd_F c3) (zx_F_t ⟨zk_Fr_I (zk_Fr_I (zk_Fr_r K) rfl rfl) rfl rfl, fun i _ => zw_ne (zw_ne rfl rfl) rfl⟩ d3), d4, by omega, hgo⟩
end
section
/-! ===== the reference reads an expression, exactly ===== -/

/-- behind the expression -/
def yFin (T : Nat → Int) (n : Nat) (s0 : yM) (H : zp_H) : Prop := ((H.2.1 72 23).toInt = 0 ∧ ∃ lv q, yV T n lv q H ∧ yA T n s0 (0, q)) ∨ yBad T n s0 H
/-- it stops here -/
def yZ (T : Nat → Int) (n : Nat) (s0 : yM) (H : zp_H) : Prop := ((H.2.1 72 23).toInt = 0 ∧ ∃ lv q, lv ≠ [] ∧ yV T n lv q H ∧ yR T n s0 (0, lv, q) ∧ yN T n (0, lv, q) = (if 1 < lv.length then .inr (1, q) else .inr (0, q))) ∨ yBad T n s0 H
theorem yV_92 {T : Nat → Int} {n p j : Nat} {b t : Bool} {l : List Bool} {x : Int32} {H : zp_H} (h : yV T n (b :: l) p H) (hj : j = l.length + 1) (hx : (zp_nar 2 x).toInt = if t then 1 else 0) : yV T n (t :: l) p (zw_I H 92 j (zp_nar 2 x)) := by
  subst hj
  refine ⟨yr_T_I h.1 rfl, yr_k_c (fun k hk => zw_ne rfl rfl) rfl h.2.1, h.2.2.1, ?_, ?_, ?_⟩
  · exact (congrArg Int32.toInt (zw_ne rfl rfl)).trans h.2.2.2.1
  · exact (congrArg Int32.toInt zw_eq).trans hx
  · refine yt_u (m := l.length) (fun k hk => zw_ne rfl ?_) (Nat.le_refl _) h.2.2.2.2.2
    have hkk : Nat.beq k (l.length + 1) = false := by
      cases h9 : Nat.beq k (l.length + 1) with
      | false => rfl
      | true => exact absurd (Nat.eq_of_beq_eq_true h9) (by omega)
    rw [hkk]
    rfl

set_option maxRecDepth 8000 in
theorem yx_exE {L : Nat} {σ : Nat → Int32} {d a : Nat} {T : Nat → Int} {n : Nat} {s0 : yM} {H0 : zp_H} (hby : ∀ k, k < n → -128 ≤ T k ∧ T k ≤ 127) {H : zp_H} {lv : zp_LV} (l0 : zp_get lv 0 = some (.inr (.inr (some 73)))) (h : zx_S a 1 0 H) (hF : zx_F a H0 H) (ha : (a : Int) ≤ (H.2.1 72 45).toInt) (hJ : yZ T n s0 H) : zs_Safe L σ (fun X : zp_X => ∃ H1, X = (.inl none, H1) ∧ zk_Bs zR zg zJ H1 ∧ zx_F a H0 H1 ∧ (a : Int) ≤ (H1.2.1 72 45).toInt ∧ yFin T n s0 H1) zm_192 [] (d + 6) (325, lv, [], H, (0, 0)) := by
  have W := zR_Wd (zR_dn h.1)
  obtain ⟨t0, w0⟩ := zx_top h
  refine zw_ld (n := 1) (k := 0) (f := zp_isR) (pc' := 326) rfl rfl l0 rfl rfl ?_
  by_cases hg : (H.2.1 72 23).toInt = 0
  · refine zw_c (pc' := 329) (zw_cv (q := 72) (Y := zm_175) W.1 rfl rfl zm_175_t rfl rfl) rfl rfl rfl rfl rfl (zq_good1 W hg) ?_
    obtain ⟨_, lvb, q, hlv, hV, hR, hN⟩ := hJ.resolve_right (fun h9 => yBad_g h9 hg)
    have hdl := hV.2.2.2.1
    refine zw_beq1 (g := 345) (pc' := 332) rfl rfl rfl (rfl : _ = (1 : Int)) (fun h9 => absurd h9 (by decide)) (fun hb => ?_)
    refine zw_ld (n := 1) (k := 0) (f := zp_isR) (pc' := 333) rfl rfl l0 rfl rfl ?_
    refine zw_gI (q := 72) (pc' := 336) W rfl rfl rfl rfl rfl rfl ?_
    refine zw_s (pc' := 337) rfl rfl ?_
    refine zw_ble2 (g := 345) (pc' := 340) rfl rfl rfl rfl (rfl : _ = (1 : Int)) (fun hd => ?_) (fun hd => ?_)
    · rw [if_neg (by omega)] at hN
      obtain ⟨_, p1, Q, rfl, p2, p3, p4, p5, p6⟩ := zx_drops (L := L) (σ := σ) (d := d + 3) (y := Int32.ofInt 0) h ha
      have WQ := zR_Wd (zR_dn p2.1)
      have q23 := zx_fe p3.1 23 rfl rfl rfl
      obtain ⟨u0, u1⟩ := zx_top p2
      have u2 := p2.2.1
      refine zw_ld (n := 1) (k := 0) (f := zp_isR) (pc' := 346) rfl rfl l0 rfl rfl ?_
      refine zw_s (pc' := 347) rfl rfl ?_
      refine zw_cn (pc' := 350) (zw_cv (q := 72) (Y := zm_199) W.1 rfl rfl zm_199_t rfl rfl) rfl rfl rfl rfl rfl (p1) ?_
      refine zw_ld (n := 1) (k := 0) (f := zp_isR) (pc' := 351) rfl rfl l0 rfl rfl ?_
      refine zw_s (pc' := 352) rfl rfl ?_
      refine zw_cn (pc' := 355) (zw_cv (q := 72) (Y := zm_198) WQ.1 rfl rfl zm_198_t rfl rfl) rfl rfl rfl rfl rfl (zq_puts WQ ⟨u0, by show _ < ((1600 : Nat) : Int); omega⟩) ?_
      refine zw_rn rfl rfl ?_
      refine ⟨zx_pt Q (Int32.ofInt 0), rfl, zx_pt_B p2.1 (by omega), zx_F_t (zx_F_t hF (zx_Fd_F p3)) (zx_pt_F (by omega)), ?_, ?_⟩
      · have e1 : ((zx_pt Q (Int32.ofInt 0)).2.1 72 45).toInt = (Q.2.1 72 45).toInt + 1 := zx_pt_t (by omega)
        omega
      · exact Or.inl ⟨by rw [zx_pt_f 23 rfl]; omega, lvb, q, yV_pt (yV_F hV p3.1 rfl ⟨fun k => rfl, fun k => rfl⟩ rfl), hR _ (yA_done hN)⟩
    · refine zw_ld (n := 1) (k := 0) (f := zp_isR) (pc' := 341) rfl rfl l0 rfl rfl ?_
      refine zw_s (pc' := 342) rfl rfl ?_
      rw [if_pos (by omega)] at hN
      obtain ⟨K, c1, c2, c3, c4, c5, c6, c7⟩ := zx_wrong (L := L) (σ := σ) (d := d + 5) (y := Int32.ofInt 1) h (by decide)
      have WK := zR_Wd (zR_dn (c3 0 0).1)
      have hw := yx_wrong h.1 hg hV (by decide) c1
      refine zw_cn (pc' := 345) (zw_cv (q := 72) (Y := zm_180) W.1 rfl rfl zm_180_t rfl rfl) rfl rfl rfl rfl rfl (c1) ?_
      obtain ⟨_, p1, Q, rfl, p2, p3, p4, p5, p6⟩ := zx_drops (L := L) (σ := σ) (d := d + 3) (y := Int32.ofInt 0) (c3 1 0) (by omega)
      have WQ := zR_Wd (zR_dn p2.1)
      have q23 := zx_fe p3.1 23 rfl rfl rfl
      obtain ⟨u0, u1⟩ := zx_top p2
      have u2 := p2.2.1
      refine zw_ld (n := 1) (k := 0) (f := zp_isR) (pc' := 346) rfl rfl l0 rfl rfl ?_
      refine zw_s (pc' := 347) rfl rfl ?_
      refine zw_cn (pc' := 350) (zw_cv (q := 72) (Y := zm_199) WK.1 rfl rfl zm_199_t rfl rfl) rfl rfl rfl rfl rfl (p1) ?_
      refine zw_ld (n := 1) (k := 0) (f := zp_isR) (pc' := 351) rfl rfl l0 rfl rfl ?_
      refine zw_s (pc' := 352) rfl rfl ?_
      refine zw_cn (pc' := 355) (zw_cv (q := 72) (Y := zm_198) WQ.1 rfl rfl zm_198_t rfl rfl) rfl rfl rfl rfl rfl (zq_puts WQ ⟨u0, by show _ < ((1600 : Nat) : Int); omega⟩) ?_
      refine zw_rn rfl rfl ?_
      refine ⟨zx_pt Q (Int32.ofInt 0), rfl, zx_pt_B p2.1 (by omega), zx_F_t (zx_F_t (zx_F_t hF c4) (zx_Fd_F p3)) (zx_pt_F (by omega)), ?_, ?_⟩
      · have e1 : ((zx_pt Q (Int32.ofInt 0)).2.1 72 45).toInt = (Q.2.1 72 45).toInt + 1 := zx_pt_t (by omega)
        omega
      · obtain ⟨r, r1, r2⟩ := (show yBad T n s0 K from ⟨_, hw, hR _ (yA_done hN)⟩)
        exact Or.inr ⟨r, yD_pt (yD_F r1 p3.1 rfl (fun k => rfl) rfl), r2⟩
  · refine zw_c (pc' := 329) (zw_cv (q := 72) (Y := zm_175) W.1 rfl rfl zm_175_t rfl rfl) rfl rfl rfl rfl rfl (zq_good0 W hg) ?_
    refine zw_beq1 (g := 345) (pc' := 332) rfl rfl rfl (rfl : _ = (0 : Int)) (fun hb => ?_) (fun h9 => absurd h9 (by decide))
    have hbd := hJ.resolve_left (fun h9 => hg h9.1)
    obtain ⟨_, p1, Q, rfl, p2, p3, p4, p5, p6⟩ := zx_drops (L := L) (σ := σ) (d := d + 3) (y := Int32.ofInt 0) h ha
    have WQ := zR_Wd (zR_dn p2.1)
    have q23 := zx_fe p3.1 23 rfl rfl rfl
    obtain ⟨u0, u1⟩ := zx_top p2
    have u2 := p2.2.1
    refine zw_ld (n := 1) (k := 0) (f := zp_isR) (pc' := 346) rfl rfl l0 rfl rfl ?_
    refine zw_s (pc' := 347) rfl rfl ?_
    refine zw_cn (pc' := 350) (zw_cv (q := 72) (Y := zm_199) W.1 rfl rfl zm_199_t rfl rfl) rfl rfl rfl rfl rfl (p1) ?_
    refine zw_ld (n := 1) (k := 0) (f := zp_isR) (pc' := 351) rfl rfl l0 rfl rfl ?_
    refine zw_s (pc' := 352) rfl rfl ?_
    refine zw_cn (pc' := 355) (zw_cv (q := 72) (Y := zm_198) WQ.1 rfl rfl zm_198_t rfl rfl) rfl rfl rfl rfl rfl (zq_puts WQ ⟨u0, by show _ < ((1600 : Nat) : Int); omega⟩) ?_
    refine zw_rn rfl rfl ?_
    refine ⟨zx_pt Q (Int32.ofInt 0), rfl, zx_pt_B p2.1 (by omega), zx_F_t (zx_F_t hF (zx_Fd_F p3)) (zx_pt_F (by omega)), ?_, ?_⟩
    · have e1 : ((zx_pt Q (Int32.ofInt 0)).2.1 72 45).toInt = (Q.2.1 72 45).toInt + 1 := zx_pt_t (by omega)
      omega
    · obtain ⟨r, r1, r2⟩ := hbd
      exact Or.inr ⟨r, yD_pt (yD_F r1 p3.1 rfl (fun k => rfl) rfl), r2⟩

set_option maxRecDepth 8000 in
set_option maxHeartbeats 4000000 in
theorem yx_ex297 {L : Nat} {σ : Nat → Int32} {d a : Nat} {T : Nat → Int} {n : Nat} {s0 : yM} {H0 : zp_H} (hby : ∀ k, k < n → -128 ≤ T k ∧ T k ≤ 127) {H : zp_H} {lv : zp_LV} {x1 : Int32} {lvb : List Bool} {p : Nat} (hK : zx_KW L σ) (l0 : zp_get lv 0 = some (.inr (.inr (some 73)))) (l1 : zp_get lv 1 = some (.inl x1)) (hx1 : x1.toInt ≠ 0) (h : zx_S a 1 0 H) (hF : zx_F a H0 H) (ha : (a : Int) ≤ (H.2.1 72 45).toInt) (hp : zx_phi H0 ≤ zx_phi H) (hg : (H.2.1 72 23).toInt = 0) (hlv : lvb ≠ []) (hV : yV T n lvb p H) (hR : yR T n s0 (0, lvb, p)) (n1 : ¬ (ys_kd T n p = 3 ∧ (ys_vl T n p = 9 ∨ ys_vl T n p = 8))) (n2 : ¬ (ys_kd T n p = 4 ∧ (ys_vl T n p = 60 ∨ ys_vl T n p = 61) ∧ lvb.head? = some false)) (n3 : ¬ (ys_kd T n p = 4 ∧ (ys_vl T n p = 43 ∨ ys_vl T n p = 45))) (n4 : ¬ (ys_kd T n p = 4 ∧ (ys_vl T n p = 42 ∨ ys_vl T n p = 47))) (bk : ∀ (R : zp_H) (lv1 : zp_LV) (x : Int32), zp_get lv1 0 = some (.inr (.inr (some 73))) → zp_get lv1 1 = some (.inl x) → zx_S a 1 0 R → zx_F a H0 R → (a : Int) ≤ (R.2.1 72 45).toInt → zx_phi H0 ≤ zx_phi R → (zx_phi H + 2 ≤ zx_phi R ∨ (x.toInt = 0 ∧ zx_phi H ≤ zx_phi R)) → ((x.toInt ≠ 0 ∧ yO T n s0 R) ∨ (x.toInt = 0 ∧ yZ T n s0 R)) → zs_Safe L σ (fun X : zp_X => ∃ H1, X = (.inl none, H1) ∧ zk_Bs zR zg zJ H1 ∧ zx_F a H0 H1 ∧ (a : Int) ≤ (H1.2.1 72 45).toInt ∧ yFin T n s0 H1) zm_192 [] (d + 6) (29, lv1, [], R, (0, 0))) : zs_Safe L σ (fun X : zp_X => ∃ H1, X = (.inl none, H1) ∧ zk_Bs zR zg zJ H1 ∧ zx_F a H0 H1 ∧ (a : Int) ≤ (H1.2.1 72 45).toInt ∧ yFin T n s0 H1) zm_192 [] (d + 6) (297, lv, [], H, (0, 0)) := by
  have W := zR_Wd (zR_dn h.1)
  have pH := zx_phi_le h.1
  have wb := h.2.2.1
  have hdp := zR_fr1 (zR_dn h.1) (k := 47) (r := (0, 6)) rfl rfl
  have hdp : 0 ≤ (H.2.1 72 47).toInt ∧ (H.2.1 72 47).toInt ≤ 6 := hdp
  refine zw_ld (n := 1) (k := 0) (f := zp_isR) (pc' := 298) rfl rfl l0 rfl rfl ?_
  refine zw_s (pc' := 300) rfl rfl ?_
  by_cases h41 : (H.2.1 72 28).toInt = 3 ∧ (H.2.1 72 32).toInt = (Int32.ofInt 41).toInt
  · refine zw_c (pc' := 303) (zw_cv (q := 72) (Y := zm_194) W.1 rfl rfl zm_194_t rfl rfl) rfl rfl rfl rfl rfl (zq_sign1 W h41) ?_
    refine zw_beq1 (g := 320) (pc' := 306) rfl rfl rfl (rfl : _ = (1 : Int)) (fun h9 => absurd h9 (by decide)) (fun hb => ?_)
    refine zw_ld (n := 1) (k := 0) (f := zp_isR) (pc' := 307) rfl rfl l0 rfl rfl ?_
    have k41 := (yr_sg hV.2.1 (c := 41)).mp h41
    have g3 := (h.2.2.2 hg).2.2.1
    have hdl := hV.2.2.2.1
    obtain ⟨_, i1, u, rfl, i2⟩ := yx_isOpened (L := L) (σ := σ) (d := d + 4) W ⟨(zx_top h).2, wb⟩
    rcases i2 with ⟨rfl, ii, i3, i4⟩ | ⟨rfl, i3⟩
    · refine zw_c (pc' := 310) (zw_cv (q := 72) (Y := zm_202) W.1 rfl rfl zm_202_t rfl rfl) rfl rfl rfl rfl rfl (i1) ?_
      refine zw_beq1 (g := 320) (pc' := 313) rfl rfl rfl (rfl : _ = (1 : Int)) (fun h9 => absurd h9 (by decide)) (fun hb => ?_)
      obtain ⟨b0, l0b, rfl⟩ : ∃ b0 l0b, lvb = b0 :: l0b := by
        match lvb, hlv with
        | b0 :: l0b, _ => exact ⟨b0, l0b, rfl⟩
      have hop := zr_opn_1 (w := H.2.1 91) (n := (H.2.1 72 46).toInt.toNat) (i := ii) i3 i4
      have hl1 : 1 < (b0 :: l0b).length := by omega
      have hN9 := yN_cl (lv := b0 :: l0b) k41.1 k41.2 hl1
      have hl0 : l0b ≠ [] := by
        match l0b, hl1 with
        | _ :: _, _ => exact List.cons_ne_nil _ _
      obtain ⟨_, c1, R, rfl, c2, c3, c4, c5, c6⟩ := yx_closes (L := L) (σ := σ) (d := d + 2) hby h hg (by omega) hop hV
      refine zw_ld (n := 1) (k := 0) (f := zp_isR) (pc' := 314) rfl rfl l0 rfl rfl ?_
      refine zw_cn (pc' := 317) (zw_cv (q := 72) (Y := zm_203) W.1 rfl rfl zm_203_t rfl rfl) rfl rfl rfl rfl rfl (c1) ?_
      refine zw_s (pc' := 322) rfl rfl ?_
      refine zw_s (pc' := 29) rfl rfl ?_
      exact bk R _ _ l0 l1 c2 (zx_F_t hF c3) (zx_S_a c2 c4) (by omega) (Or.inl c5) (Or.inl ⟨hx1, Or.inl ⟨c4, l0b, _, hl0, c6, yR_t hR (yR_s hN9)⟩⟩)
    · have ho0 := yr_opn_0 i3
      refine zw_c (pc' := 310) (zw_cv (q := 72) (Y := zm_202) W.1 rfl rfl zm_202_t rfl rfl) rfl rfl rfl rfl rfl (i1) ?_
      refine zw_beq1 (g := 320) (pc' := 313) rfl rfl rfl (rfl : _ = (0 : Int)) (fun hb => ?_) (fun h9 => absurd h9 (by decide))
      refine zw_s (pc' := 321) rfl rfl ?_
      refine zw_st (n := 1) (k := 1) (f := zp_isI) (pc' := 322) rfl rfl rfl rfl rfl ?_
      refine zw_s (pc' := 29) rfl rfl ?_
      exact bk H _ _ (zw_gt l0 rfl rfl) zw_g1 h hF ha hp (Or.inr ⟨rfl, Int.le_refl _⟩) (Or.inr ⟨rfl, Or.inl ⟨hg, lvb, p, hlv, hV, hR, yN_en ⟨n1, n3, n4⟩ n2 (fun h9 => by have := h9.2.2; omega)⟩⟩)
  · refine zw_c (pc' := 303) (zw_cv (q := 72) (Y := zm_194) W.1 rfl rfl zm_194_t rfl rfl) rfl rfl rfl rfl rfl (zq_sign0 W h41) ?_
    refine zw_beq1 (g := 320) (pc' := 306) rfl rfl rfl (rfl : _ = (0 : Int)) (fun hb => ?_) (fun h9 => absurd h9 (by decide))
    refine zw_s (pc' := 321) rfl rfl ?_
    refine zw_st (n := 1) (k := 1) (f := zp_isI) (pc' := 322) rfl rfl rfl rfl rfl ?_
    refine zw_s (pc' := 29) rfl rfl ?_
    exact bk H _ _ (zw_gt l0 rfl rfl) zw_g1 h hF ha hp (Or.inr ⟨rfl, Int.le_refl _⟩) (Or.inr ⟨rfl, Or.inl ⟨hg, lvb, p, hlv, hV, hR, yN_en ⟨n1, n3, n4⟩ n2 (fun h9 => h41 ((yr_sg hV.2.1 (c := 41)).mpr ⟨h9.1, h9.2.1⟩))⟩⟩)

set_option maxRecDepth 8000 in
set_option maxHeartbeats 4000000 in
theorem yx_ex241d {L : Nat} {σ : Nat → Int32} {d a : Nat} {T : Nat → Int} {n : Nat} {s0 : yM} {H0 : zp_H} (hby : ∀ k, k < n → -128 ≤ T k ∧ T k ≤ 127) {H : zp_H} {lv : zp_LV} {x1 : Int32} {lvb : List Bool} {p : Nat} (hK : zx_KW L σ) (l0 : zp_get lv 0 = some (.inr (.inr (some 73)))) (l1 : zp_get lv 1 = some (.inl x1)) (hx1 : x1.toInt ≠ 0) (hs : (H.2.1 72 28).toInt = 3) (hs2 : ys_kd T n p = 4 ∧ (ys_vl T n p = 42 ∨ ys_vl T n p = 47)) (h : zx_S a 1 0 H) (hF : zx_F a H0 H) (ha : (a : Int) ≤ (H.2.1 72 45).toInt) (hp : zx_phi H0 ≤ zx_phi H) (hg : (H.2.1 72 23).toInt = 0) (hlv : lvb ≠ []) (hV : yV T n lvb p H) (hR : yR T n s0 (0, lvb, p)) (n1 : ¬ (ys_kd T n p = 3 ∧ (ys_vl T n p = 9 ∨ ys_vl T n p = 8))) (n2 : ¬ (ys_kd T n p = 4 ∧ (ys_vl T n p = 60 ∨ ys_vl T n p = 61) ∧ lvb.head? = some false)) (n3 : ¬ (ys_kd T n p = 4 ∧ (ys_vl T n p = 43 ∨ ys_vl T n p = 45))) (bk : ∀ (R : zp_H) (lv1 : zp_LV) (x : Int32), zp_get lv1 0 = some (.inr (.inr (some 73))) → zp_get lv1 1 = some (.inl x) → zx_S a 1 0 R → zx_F a H0 R → (a : Int) ≤ (R.2.1 72 45).toInt → zx_phi H0 ≤ zx_phi R → (zx_phi H + 2 ≤ zx_phi R ∨ (x.toInt = 0 ∧ zx_phi H ≤ zx_phi R)) → ((x.toInt ≠ 0 ∧ yO T n s0 R) ∨ (x.toInt = 0 ∧ yZ T n s0 R)) → zs_Safe L σ (fun X : zp_X => ∃ H1, X = (.inl none, H1) ∧ zk_Bs zR zg zJ H1 ∧ zx_F a H0 H1 ∧ (a : Int) ≤ (H1.2.1 72 45).toInt ∧ yFin T n s0 H1) zm_192 [] (d + 6) (29, lv1, [], R, (0, 0))) : zs_Safe L σ (fun X : zp_X => ∃ H1, X = (.inl none, H1) ∧ zk_Bs zR zg zJ H1 ∧ zx_F a H0 H1 ∧ (a : Int) ≤ (H1.2.1 72 45).toInt ∧ yFin T n s0 H1) zm_192 [] (d + 6) (259, lv, [], H, (0, 0)) := by
  have W := zR_Wd (zR_dn h.1)
  have pH := zx_phi_le h.1
  have wb := h.2.2.1
  have hdp := zR_fr1 (zR_dn h.1) (k := 47) (r := (0, 6)) rfl rfl
  have hdp : 0 ≤ (H.2.1 72 47).toInt ∧ (H.2.1 72 47).toInt ≤ 6 := hdp
  refine zw_ld (n := 1) (k := 0) (f := zp_isR) (pc' := 260) rfl rfl l0 rfl rfl ?_
  refine zw_s (pc' := 262) rfl rfl ?_
  obtain ⟨_, p1, Q, rfl, p2, p3, p4, p5, p6⟩ := zx_drops (L := L) (σ := σ) (d := d + 3) (y := Int32.ofInt 6) h ha
  have WQ := zR_Wd (zR_dn p2.1)
  have q23 := zx_fe p3.1 23 rfl rfl rfl
  have q28 := zx_fe p3.1 28 rfl rfl rfl
  have q47 := zx_fe p3.1 47 rfl rfl rfl
  have hphQ := zx_phi_i (zx_fe p3.1 27 rfl rfl rfl) q28
  obtain ⟨u0, u1⟩ := zx_top p2
  have u2 := p2.2.2.1
  have hVQ : yV T n lvb p Q := yV_F hV p3.1 rfl ⟨fun k => rfl, fun k => rfl⟩ rfl
  refine zw_cn (pc' := 265) (zw_cv (q := 72) (Y := zm_199) W.1 rfl rfl zm_199_t rfl rfl) rfl rfl rfl rfl rfl (p1) ?_
  refine zw_ld (n := 1) (k := 0) (f := zp_isR) (pc' := 266) rfl rfl l0 rfl rfl ?_
  refine zw_ld (n := 1) (k := 0) (f := zp_isR) (pc' := 267) rfl rfl l0 rfl rfl ?_
  refine zw_s (pc' := 269) rfl rfl ?_
  by_cases hch : (Q.2.1 72 28).toInt = 3 ∧ (Q.2.1 72 32).toInt = (Int32.ofInt 42).toInt
  · refine zw_c (pc' := 272) (zw_cv (q := 72) (Y := zm_194) WQ.1 rfl rfl zm_194_t rfl rfl) rfl rfl rfl rfl rfl (zq_sign1 WQ hch) ?_
    refine zw_beq1 (g := 280) (pc' := 275) rfl rfl rfl (rfl : _ = (1 : Int)) (fun h9 => absurd h9 (by decide)) (fun hb => ?_)
    refine zw_s (pc' := 277) rfl rfl ?_
    refine zw_s (pc' := 282) rfl rfl ?_
    obtain ⟨m1, m2, m3, m4⟩ := zx_wait (y := Int32.ofInt 10) p2 (by omega) (by omega) (by decide)
    have hT := m4 0 0 rfl rfl
    have f45 : (zx_wt Q (Int32.ofInt 10)).2.1 72 45 = Q.2.1 72 45 := zx_wt_f 45 rfl
    have hVw : yV T n lvb p (zx_wt Q (Int32.ofInt 10)) := yV_wt hVQ
    refine zw_cn (pc' := 285) (zw_cv (q := 72) (Y := zm_196) WQ.1 rfl rfl zm_196_t rfl rfl) rfl rfl rfl rfl rfl (zq_waits WQ ⟨u1, by show _ < ((800 : Nat) : Int); omega⟩) ?_
    have hN9 := yN_md (lv := lvb) hs2.1 hs2.2
    have hlv9 := hlv
    refine zw_ld (n := 1) (k := 0) (f := zp_isR) (pc' := 286) rfl rfl l0 rfl rfl ?_
    obtain ⟨K, c1, c2, c3, c4, c5, c6⟩ := zx_T_goes (L := L) (σ := σ) (d := d + 4) hT
    have hgo := (yx_goes hby hT.1 hVw c1).1
    have WK := zR_Wd (zR_dn c2.1)
    have aK : (a : Int) ≤ (K.2.1 72 45).toInt := zx_S_a c2 c4
    refine zw_cn (pc' := 289) (zw_cv (q := 72) (Y := zm_171) WQ.1 rfl rfl zm_171_t rfl rfl) rfl rfl rfl rfl rfl (c1) ?_
    obtain ⟨_, d1, R, rfl, d2, d3, d4, d5, d6, d7⟩ := yx_operand (L := L) (σ := σ) (d := d) (y := Int32.ofInt 0) hby hK c2 aK c4 hgo hlv9
    rw [if_pos (by decide)] at d7
    refine zw_ld (n := 1) (k := 0) (f := zp_isR) (pc' := 290) rfl rfl l0 rfl rfl ?_
    refine zw_s (pc' := 291) rfl rfl ?_
    refine zw_cn (pc' := 294) (zw_cv (q := 72) (Y := zm_195) WK.1 rfl rfl zm_195_t rfl rfl) rfl rfl rfl rfl rfl (d1) ?_
    refine zw_s (pc' := 322) rfl rfl ?_
    refine zw_s (pc' := 29) rfl rfl ?_
    exact bk R _ _ l0 l1 d2 (zx_F_t (zx_F_t (zx_F_t (zx_F_t hF (zx_Fd_F p3)) m1) c3) d3) d5 (by omega) (Or.inl (by omega)) (Or.inl ⟨hx1, yO_R (yR_t hR (yR_s hN9)) d7⟩)
  · refine zw_c (pc' := 272) (zw_cv (q := 72) (Y := zm_194) WQ.1 rfl rfl zm_194_t rfl rfl) rfl rfl rfl rfl rfl (zq_sign0 WQ hch) ?_
    refine zw_beq1 (g := 280) (pc' := 275) rfl rfl rfl (rfl : _ = (0 : Int)) (fun hb => ?_) (fun h9 => absurd h9 (by decide))
    refine zw_s (pc' := 282) rfl rfl ?_
    obtain ⟨m1, m2, m3, m4⟩ := zx_wait (y := Int32.ofInt 11) p2 (by omega) (by omega) (by decide)
    have hT := m4 0 0 rfl rfl
    have f45 : (zx_wt Q (Int32.ofInt 11)).2.1 72 45 = Q.2.1 72 45 := zx_wt_f 45 rfl
    have hVw : yV T n lvb p (zx_wt Q (Int32.ofInt 11)) := yV_wt hVQ
    refine zw_cn (pc' := 285) (zw_cv (q := 72) (Y := zm_196) WQ.1 rfl rfl zm_196_t rfl rfl) rfl rfl rfl rfl rfl (zq_waits WQ ⟨u1, by show _ < ((800 : Nat) : Int); omega⟩) ?_
    have hN9 := yN_md (lv := lvb) hs2.1 hs2.2
    have hlv9 := hlv
    refine zw_ld (n := 1) (k := 0) (f := zp_isR) (pc' := 286) rfl rfl l0 rfl rfl ?_
    obtain ⟨K, c1, c2, c3, c4, c5, c6⟩ := zx_T_goes (L := L) (σ := σ) (d := d + 4) hT
    have hgo := (yx_goes hby hT.1 hVw c1).1
    have WK := zR_Wd (zR_dn c2.1)
    have aK : (a : Int) ≤ (K.2.1 72 45).toInt := zx_S_a c2 c4
    refine zw_cn (pc' := 289) (zw_cv (q := 72) (Y := zm_171) WQ.1 rfl rfl zm_171_t rfl rfl) rfl rfl rfl rfl rfl (c1) ?_
    obtain ⟨_, d1, R, rfl, d2, d3, d4, d5, d6, d7⟩ := yx_operand (L := L) (σ := σ) (d := d) (y := Int32.ofInt 0) hby hK c2 aK c4 hgo hlv9
    rw [if_pos (by decide)] at d7
    refine zw_ld (n := 1) (k := 0) (f := zp_isR) (pc' := 290) rfl rfl l0 rfl rfl ?_
    refine zw_s (pc' := 291) rfl rfl ?_
    refine zw_cn (pc' := 294) (zw_cv (q := 72) (Y := zm_195) WK.1 rfl rfl zm_195_t rfl rfl) rfl rfl rfl rfl rfl (d1) ?_
    refine zw_s (pc' := 322) rfl rfl ?_
    refine zw_s (pc' := 29) rfl rfl ?_
    exact bk R _ _ l0 l1 d2 (zx_F_t (zx_F_t (zx_F_t (zx_F_t hF (zx_Fd_F p3)) m1) c3) d3) d5 (by omega) (Or.inl (by omega)) (Or.inl ⟨hx1, yO_R (yR_t hR (yR_s hN9)) d7⟩)

set_option maxRecDepth 8000 in
set_option maxHeartbeats 4000000 in
theorem yx_ex241 {L : Nat} {σ : Nat → Int32} {d a : Nat} {T : Nat → Int} {n : Nat} {s0 : yM} {H0 : zp_H} (hby : ∀ k, k < n → -128 ≤ T k ∧ T k ≤ 127) {H : zp_H} {lv : zp_LV} {x1 : Int32} {lvb : List Bool} {p : Nat} (hK : zx_KW L σ) (l0 : zp_get lv 0 = some (.inr (.inr (some 73)))) (l1 : zp_get lv 1 = some (.inl x1)) (hx1 : x1.toInt ≠ 0) (h : zx_S a 1 0 H) (hF : zx_F a H0 H) (ha : (a : Int) ≤ (H.2.1 72 45).toInt) (hp : zx_phi H0 ≤ zx_phi H) (hg : (H.2.1 72 23).toInt = 0) (hlv : lvb ≠ []) (hV : yV T n lvb p H) (hR : yR T n s0 (0, lvb, p)) (n1 : ¬ (ys_kd T n p = 3 ∧ (ys_vl T n p = 9 ∨ ys_vl T n p = 8))) (n2 : ¬ (ys_kd T n p = 4 ∧ (ys_vl T n p = 60 ∨ ys_vl T n p = 61) ∧ lvb.head? = some false)) (n3 : ¬ (ys_kd T n p = 4 ∧ (ys_vl T n p = 43 ∨ ys_vl T n p = 45))) (bk : ∀ (R : zp_H) (lv1 : zp_LV) (x : Int32), zp_get lv1 0 = some (.inr (.inr (some 73))) → zp_get lv1 1 = some (.inl x) → zx_S a 1 0 R → zx_F a H0 R → (a : Int) ≤ (R.2.1 72 45).toInt → zx_phi H0 ≤ zx_phi R → (zx_phi H + 2 ≤ zx_phi R ∨ (x.toInt = 0 ∧ zx_phi H ≤ zx_phi R)) → ((x.toInt ≠ 0 ∧ yO T n s0 R) ∨ (x.toInt = 0 ∧ yZ T n s0 R)) → zs_Safe L σ (fun X : zp_X => ∃ H1, X = (.inl none, H1) ∧ zk_Bs zR zg zJ H1 ∧ zx_F a H0 H1 ∧ (a : Int) ≤ (H1.2.1 72 45).toInt ∧ yFin T n s0 H1) zm_192 [] (d + 6) (29, lv1, [], R, (0, 0))) : zs_Safe L σ (fun X : zp_X => ∃ H1, X = (.inl none, H1) ∧ zk_Bs zR zg zJ H1 ∧ zx_F a H0 H1 ∧ (a : Int) ≤ (H1.2.1 72 45).toInt ∧ yFin T n s0 H1) zm_192 [] (d + 6) (241, lv, [], H, (0, 0)) := by
  have W := zR_Wd (zR_dn h.1)
  have pH := zx_phi_le h.1
  have wb := h.2.2.1
  have hdp := zR_fr1 (zR_dn h.1) (k := 47) (r := (0, 6)) rfl rfl
  have hdp : 0 ≤ (H.2.1 72 47).toInt ∧ (H.2.1 72 47).toInt ≤ 6 := hdp
  refine zw_ld (n := 1) (k := 0) (f := zp_isR) (pc' := 242) rfl rfl l0 rfl rfl ?_
  refine zw_s (pc' := 244) rfl rfl ?_
  by_cases ha1 : (H.2.1 72 28).toInt = 3 ∧ (H.2.1 72 32).toInt = (Int32.ofInt 42).toInt
  · refine zw_c (pc' := 247) (zw_cv (q := 72) (Y := zm_194) W.1 rfl rfl zm_194_t rfl rfl) rfl rfl rfl rfl rfl (zq_sign1 W ha1) ?_
    have q1 := (yr_sg hV.2.1 (c := 42)).mp ha1
    refine zw_bne1 (g := 259) (pc' := 250) rfl rfl rfl (rfl : _ = (1 : Int)) (fun hb => ?_) (fun h9 => absurd h9 (by decide))
    exact yx_ex241d hby hK l0 l1 hx1 ha1.1 ⟨q1.1, Or.inl q1.2⟩ h hF ha hp hg hlv hV hR n1 n2 n3 bk
  · refine zw_c (pc' := 247) (zw_cv (q := 72) (Y := zm_194) W.1 rfl rfl zm_194_t rfl rfl) rfl rfl rfl rfl rfl (zq_sign0 W ha1) ?_
    refine zw_bne1 (g := 259) (pc' := 250) rfl rfl rfl (rfl : _ = (0 : Int)) (fun h9 => absurd h9 (by decide)) (fun hb => ?_)
    refine zw_ld (n := 1) (k := 0) (f := zp_isR) (pc' := 251) rfl rfl l0 rfl rfl ?_
    refine zw_s (pc' := 253) rfl rfl ?_
    by_cases ha2 : (H.2.1 72 28).toInt = 3 ∧ (H.2.1 72 32).toInt = (Int32.ofInt 47).toInt
    · refine zw_c (pc' := 256) (zw_cv (q := 72) (Y := zm_194) W.1 rfl rfl zm_194_t rfl rfl) rfl rfl rfl rfl rfl (zq_sign1 W ha2) ?_
      have q1 := (yr_sg hV.2.1 (c := 47)).mp ha2
      refine zw_beq1 (g := 297) (pc' := 259) rfl rfl rfl (rfl : _ = (1 : Int)) (fun h9 => absurd h9 (by decide)) (fun hb => ?_)
      exact yx_ex241d hby hK l0 l1 hx1 ha2.1 ⟨q1.1, Or.inr q1.2⟩ h hF ha hp hg hlv hV hR n1 n2 n3 bk
    · refine zw_c (pc' := 256) (zw_cv (q := 72) (Y := zm_194) W.1 rfl rfl zm_194_t rfl rfl) rfl rfl rfl rfl rfl (zq_sign0 W ha2) ?_
      have n4 : ¬ (ys_kd T n p = 4 ∧ (ys_vl T n p = 42 ∨ ys_vl T n p = 47)) := by
        rintro ⟨h8, h9 | h9⟩
        · exact ha1 ((yr_sg hV.2.1 (c := 42)).mpr ⟨h8, h9⟩)
        · exact ha2 ((yr_sg hV.2.1 (c := 47)).mpr ⟨h8, h9⟩)
      refine zw_beq1 (g := 297) (pc' := 259) rfl rfl rfl (rfl : _ = (0 : Int)) (fun hb => ?_) (fun h9 => absurd h9 (by decide))
      exact yx_ex297 hby hK l0 l1 hx1 h hF ha hp hg hlv hV hR n1 n2 n3 n4  bk

set_option maxRecDepth 8000 in
set_option maxHeartbeats 4000000 in
theorem yx_ex186d {L : Nat} {σ : Nat → Int32} {d a : Nat} {T : Nat → Int} {n : Nat} {s0 : yM} {H0 : zp_H} (hby : ∀ k, k < n → -128 ≤ T k ∧ T k ≤ 127) {H : zp_H} {lv : zp_LV} {x1 : Int32} {lvb : List Bool} {p : Nat} (hK : zx_KW L σ) (l0 : zp_get lv 0 = some (.inr (.inr (some 73)))) (l1 : zp_get lv 1 = some (.inl x1)) (hx1 : x1.toInt ≠ 0) (hs : (H.2.1 72 28).toInt = 3) (hs2 : ys_kd T n p = 4 ∧ (ys_vl T n p = 43 ∨ ys_vl T n p = 45)) (h : zx_S a 1 0 H) (hF : zx_F a H0 H) (ha : (a : Int) ≤ (H.2.1 72 45).toInt) (hp : zx_phi H0 ≤ zx_phi H) (hg : (H.2.1 72 23).toInt = 0) (hlv : lvb ≠ []) (hV : yV T n lvb p H) (hR : yR T n s0 (0, lvb, p)) (n1 : ¬ (ys_kd T n p = 3 ∧ (ys_vl T n p = 9 ∨ ys_vl T n p = 8))) (n2 : ¬ (ys_kd T n p = 4 ∧ (ys_vl T n p = 60 ∨ ys_vl T n p = 61) ∧ lvb.head? = some false)) (bk : ∀ (R : zp_H) (lv1 : zp_LV) (x : Int32), zp_get lv1 0 = some (.inr (.inr (some 73))) → zp_get lv1 1 = some (.inl x) → zx_S a 1 0 R → zx_F a H0 R → (a : Int) ≤ (R.2.1 72 45).toInt → zx_phi H0 ≤ zx_phi R → (zx_phi H + 2 ≤ zx_phi R ∨ (x.toInt = 0 ∧ zx_phi H ≤ zx_phi R)) → ((x.toInt ≠ 0 ∧ yO T n s0 R) ∨ (x.toInt = 0 ∧ yZ T n s0 R)) → zs_Safe L σ (fun X : zp_X => ∃ H1, X = (.inl none, H1) ∧ zk_Bs zR zg zJ H1 ∧ zx_F a H0 H1 ∧ (a : Int) ≤ (H1.2.1 72 45).toInt ∧ yFin T n s0 H1) zm_192 [] (d + 6) (29, lv1, [], R, (0, 0))) : zs_Safe L σ (fun X : zp_X => ∃ H1, X = (.inl none, H1) ∧ zk_Bs zR zg zJ H1 ∧ zx_F a H0 H1 ∧ (a : Int) ≤ (H1.2.1 72 45).toInt ∧ yFin T n s0 H1) zm_192 [] (d + 6) (204, lv, [], H, (0, 0)) := by
  have W := zR_Wd (zR_dn h.1)
  have pH := zx_phi_le h.1
  have wb := h.2.2.1
  have hdp := zR_fr1 (zR_dn h.1) (k := 47) (r := (0, 6)) rfl rfl
  have hdp : 0 ≤ (H.2.1 72 47).toInt ∧ (H.2.1 72 47).toInt ≤ 6 := hdp
  refine zw_ld (n := 1) (k := 0) (f := zp_isR) (pc' := 205) rfl rfl l0 rfl rfl ?_
  refine zw_s (pc' := 206) rfl rfl ?_
  obtain ⟨_, p1, Q, rfl, p2, p3, p4, p5, p6⟩ := zx_drops (L := L) (σ := σ) (d := d + 3) (y := Int32.ofInt 5) h ha
  have WQ := zR_Wd (zR_dn p2.1)
  have q23 := zx_fe p3.1 23 rfl rfl rfl
  have q28 := zx_fe p3.1 28 rfl rfl rfl
  have q47 := zx_fe p3.1 47 rfl rfl rfl
  have hphQ := zx_phi_i (zx_fe p3.1 27 rfl rfl rfl) q28
  obtain ⟨u0, u1⟩ := zx_top p2
  have u2 := p2.2.2.1
  have hVQ : yV T n lvb p Q := yV_F hV p3.1 rfl ⟨fun k => rfl, fun k => rfl⟩ rfl
  refine zw_cn (pc' := 209) (zw_cv (q := 72) (Y := zm_199) W.1 rfl rfl zm_199_t rfl rfl) rfl rfl rfl rfl rfl (p1) ?_
  refine zw_ld (n := 1) (k := 0) (f := zp_isR) (pc' := 210) rfl rfl l0 rfl rfl ?_
  refine zw_ld (n := 1) (k := 0) (f := zp_isR) (pc' := 211) rfl rfl l0 rfl rfl ?_
  refine zw_s (pc' := 213) rfl rfl ?_
  by_cases hch : (Q.2.1 72 28).toInt = 3 ∧ (Q.2.1 72 32).toInt = (Int32.ofInt 43).toInt
  · refine zw_c (pc' := 216) (zw_cv (q := 72) (Y := zm_194) WQ.1 rfl rfl zm_194_t rfl rfl) rfl rfl rfl rfl rfl (zq_sign1 WQ hch) ?_
    refine zw_beq1 (g := 224) (pc' := 219) rfl rfl rfl (rfl : _ = (1 : Int)) (fun h9 => absurd h9 (by decide)) (fun hb => ?_)
    refine zw_s (pc' := 221) rfl rfl ?_
    refine zw_s (pc' := 226) rfl rfl ?_
    obtain ⟨m1, m2, m3, m4⟩ := zx_wait (y := Int32.ofInt 8) p2 (by omega) (by omega) (by decide)
    have hT := m4 0 0 rfl rfl
    have f45 : (zx_wt Q (Int32.ofInt 8)).2.1 72 45 = Q.2.1 72 45 := zx_wt_f 45 rfl
    have hVw : yV T n lvb p (zx_wt Q (Int32.ofInt 8)) := yV_wt hVQ
    refine zw_cn (pc' := 229) (zw_cv (q := 72) (Y := zm_196) WQ.1 rfl rfl zm_196_t rfl rfl) rfl rfl rfl rfl rfl (zq_waits WQ ⟨u1, by show _ < ((800 : Nat) : Int); omega⟩) ?_
    have hN9 := yN_pm (lv := lvb) hs2.1 hs2.2
    have hlv9 := hlv
    refine zw_ld (n := 1) (k := 0) (f := zp_isR) (pc' := 230) rfl rfl l0 rfl rfl ?_
    obtain ⟨K, c1, c2, c3, c4, c5, c6⟩ := zx_T_goes (L := L) (σ := σ) (d := d + 4) hT
    have hgo := (yx_goes hby hT.1 hVw c1).1
    have WK := zR_Wd (zR_dn c2.1)
    have aK : (a : Int) ≤ (K.2.1 72 45).toInt := zx_S_a c2 c4
    refine zw_cn (pc' := 233) (zw_cv (q := 72) (Y := zm_171) WQ.1 rfl rfl zm_171_t rfl rfl) rfl rfl rfl rfl rfl (c1) ?_
    obtain ⟨_, d1, R, rfl, d2, d3, d4, d5, d6, d7⟩ := yx_operand (L := L) (σ := σ) (d := d) (y := Int32.ofInt 0) hby hK c2 aK c4 hgo hlv9
    rw [if_pos (by decide)] at d7
    refine zw_ld (n := 1) (k := 0) (f := zp_isR) (pc' := 234) rfl rfl l0 rfl rfl ?_
    refine zw_s (pc' := 235) rfl rfl ?_
    refine zw_cn (pc' := 238) (zw_cv (q := 72) (Y := zm_195) WK.1 rfl rfl zm_195_t rfl rfl) rfl rfl rfl rfl rfl (d1) ?_
    refine zw_s (pc' := 322) rfl rfl ?_
    refine zw_s (pc' := 29) rfl rfl ?_
    exact bk R _ _ l0 l1 d2 (zx_F_t (zx_F_t (zx_F_t (zx_F_t hF (zx_Fd_F p3)) m1) c3) d3) d5 (by omega) (Or.inl (by omega)) (Or.inl ⟨hx1, yO_R (yR_t hR (yR_s hN9)) d7⟩)
  · refine zw_c (pc' := 216) (zw_cv (q := 72) (Y := zm_194) WQ.1 rfl rfl zm_194_t rfl rfl) rfl rfl rfl rfl rfl (zq_sign0 WQ hch) ?_
    refine zw_beq1 (g := 224) (pc' := 219) rfl rfl rfl (rfl : _ = (0 : Int)) (fun hb => ?_) (fun h9 => absurd h9 (by decide))
    refine zw_s (pc' := 226) rfl rfl ?_
    obtain ⟨m1, m2, m3, m4⟩ := zx_wait (y := Int32.ofInt 9) p2 (by omega) (by omega) (by decide)
    have hT := m4 0 0 rfl rfl
    have f45 : (zx_wt Q (Int32.ofInt 9)).2.1 72 45 = Q.2.1 72 45 := zx_wt_f 45 rfl
    have hVw : yV T n lvb p (zx_wt Q (Int32.ofInt 9)) := yV_wt hVQ
    refine zw_cn (pc' := 229) (zw_cv (q := 72) (Y := zm_196) WQ.1 rfl rfl zm_196_t rfl rfl) rfl rfl rfl rfl rfl (zq_waits WQ ⟨u1, by show _ < ((800 : Nat) : Int); omega⟩) ?_
    have hN9 := yN_pm (lv := lvb) hs2.1 hs2.2
    have hlv9 := hlv
    refine zw_ld (n := 1) (k := 0) (f := zp_isR) (pc' := 230) rfl rfl l0 rfl rfl ?_
    obtain ⟨K, c1, c2, c3, c4, c5, c6⟩ := zx_T_goes (L := L) (σ := σ) (d := d + 4) hT
    have hgo := (yx_goes hby hT.1 hVw c1).1
    have WK := zR_Wd (zR_dn c2.1)
    have aK : (a : Int) ≤ (K.2.1 72 45).toInt := zx_S_a c2 c4
    refine zw_cn (pc' := 233) (zw_cv (q := 72) (Y := zm_171) WQ.1 rfl rfl zm_171_t rfl rfl) rfl rfl rfl rfl rfl (c1) ?_
    obtain ⟨_, d1, R, rfl, d2, d3, d4, d5, d6, d7⟩ := yx_operand (L := L) (σ := σ) (d := d) (y := Int32.ofInt 0) hby hK c2 aK c4 hgo hlv9
    rw [if_pos (by decide)] at d7
    refine zw_ld (n := 1) (k := 0) (f := zp_isR) (pc' := 234) rfl rfl l0 rfl rfl ?_
    refine zw_s (pc' := 235) rfl rfl ?_
    refine zw_cn (pc' := 238) (zw_cv (q := 72) (Y := zm_195) WK.1 rfl rfl zm_195_t rfl rfl) rfl rfl rfl rfl rfl (d1) ?_
    refine zw_s (pc' := 322) rfl rfl ?_
    refine zw_s (pc' := 29) rfl rfl ?_
    exact bk R _ _ l0 l1 d2 (zx_F_t (zx_F_t (zx_F_t (zx_F_t hF (zx_Fd_F p3)) m1) c3) d3) d5 (by omega) (Or.inl (by omega)) (Or.inl ⟨hx1, yO_R (yR_t hR (yR_s hN9)) d7⟩)

set_option maxRecDepth 8000 in
set_option maxHeartbeats 4000000 in
theorem yx_ex186 {L : Nat} {σ : Nat → Int32} {d a : Nat} {T : Nat → Int} {n : Nat} {s0 : yM} {H0 : zp_H} (hby : ∀ k, k < n → -128 ≤ T k ∧ T k ≤ 127) {H : zp_H} {lv : zp_LV} {x1 : Int32} {lvb : List Bool} {p : Nat} (hK : zx_KW L σ) (l0 : zp_get lv 0 = some (.inr (.inr (some 73)))) (l1 : zp_get lv 1 = some (.inl x1)) (hx1 : x1.toInt ≠ 0) (h : zx_S a 1 0 H) (hF : zx_F a H0 H) (ha : (a : Int) ≤ (H.2.1 72 45).toInt) (hp : zx_phi H0 ≤ zx_phi H) (hg : (H.2.1 72 23).toInt = 0) (hlv : lvb ≠ []) (hV : yV T n lvb p H) (hR : yR T n s0 (0, lvb, p)) (n1 : ¬ (ys_kd T n p = 3 ∧ (ys_vl T n p = 9 ∨ ys_vl T n p = 8))) (n2 : ¬ (ys_kd T n p = 4 ∧ (ys_vl T n p = 60 ∨ ys_vl T n p = 61) ∧ lvb.head? = some false)) (bk : ∀ (R : zp_H) (lv1 : zp_LV) (x : Int32), zp_get lv1 0 = some (.inr (.inr (some 73))) → zp_get lv1 1 = some (.inl x) → zx_S a 1 0 R → zx_F a H0 R → (a : Int) ≤ (R.2.1 72 45).toInt → zx_phi H0 ≤ zx_phi R → (zx_phi H + 2 ≤ zx_phi R ∨ (x.toInt = 0 ∧ zx_phi H ≤ zx_phi R)) → ((x.toInt ≠ 0 ∧ yO T n s0 R) ∨ (x.toInt = 0 ∧ yZ T n s0 R)) → zs_Safe L σ (fun X : zp_X => ∃ H1, X = (.inl none, H1) ∧ zk_Bs zR zg zJ H1 ∧ zx_F a H0 H1 ∧ (a : Int) ≤ (H1.2.1 72 45).toInt ∧ yFin T n s0 H1) zm_192 [] (d + 6) (29, lv1, [], R, (0, 0))) : zs_Safe L σ (fun X : zp_X => ∃ H1, X = (.inl none, H1) ∧ zk_Bs zR zg zJ H1 ∧ zx_F a H0 H1 ∧ (a : Int) ≤ (H1.2.1 72 45).toInt ∧ yFin T n s0 H1) zm_192 [] (d + 6) (186, lv, [], H, (0, 0)) := by
  have W := zR_Wd (zR_dn h.1)
  have pH := zx_phi_le h.1
  have wb := h.2.2.1
  have hdp := zR_fr1 (zR_dn h.1) (k := 47) (r := (0, 6)) rfl rfl
  have hdp : 0 ≤ (H.2.1 72 47).toInt ∧ (H.2.1 72 47).toInt ≤ 6 := hdp
  refine zw_ld (n := 1) (k := 0) (f := zp_isR) (pc' := 187) rfl rfl l0 rfl rfl ?_
  refine zw_s (pc' := 189) rfl rfl ?_
  by_cases ha1 : (H.2.1 72 28).toInt = 3 ∧ (H.2.1 72 32).toInt = (Int32.ofInt 43).toInt
  · refine zw_c (pc' := 192) (zw_cv (q := 72) (Y := zm_194) W.1 rfl rfl zm_194_t rfl rfl) rfl rfl rfl rfl rfl (zq_sign1 W ha1) ?_
    have q1 := (yr_sg hV.2.1 (c := 43)).mp ha1
    refine zw_bne1 (g := 204) (pc' := 195) rfl rfl rfl (rfl : _ = (1 : Int)) (fun hb => ?_) (fun h9 => absurd h9 (by decide))
    exact yx_ex186d hby hK l0 l1 hx1 ha1.1 ⟨q1.1, Or.inl q1.2⟩ h hF ha hp hg hlv hV hR n1 n2 bk
  · refine zw_c (pc' := 192) (zw_cv (q := 72) (Y := zm_194) W.1 rfl rfl zm_194_t rfl rfl) rfl rfl rfl rfl rfl (zq_sign0 W ha1) ?_
    refine zw_bne1 (g := 204) (pc' := 195) rfl rfl rfl (rfl : _ = (0 : Int)) (fun h9 => absurd h9 (by decide)) (fun hb => ?_)
    refine zw_ld (n := 1) (k := 0) (f := zp_isR) (pc' := 196) rfl rfl l0 rfl rfl ?_
    refine zw_s (pc' := 198) rfl rfl ?_
    by_cases ha2 : (H.2.1 72 28).toInt = 3 ∧ (H.2.1 72 32).toInt = (Int32.ofInt 45).toInt
    · refine zw_c (pc' := 201) (zw_cv (q := 72) (Y := zm_194) W.1 rfl rfl zm_194_t rfl rfl) rfl rfl rfl rfl rfl (zq_sign1 W ha2) ?_
      have q1 := (yr_sg hV.2.1 (c := 45)).mp ha2
      refine zw_beq1 (g := 241) (pc' := 204) rfl rfl rfl (rfl : _ = (1 : Int)) (fun h9 => absurd h9 (by decide)) (fun hb => ?_)
      exact yx_ex186d hby hK l0 l1 hx1 ha2.1 ⟨q1.1, Or.inr q1.2⟩ h hF ha hp hg hlv hV hR n1 n2 bk
    · refine zw_c (pc' := 201) (zw_cv (q := 72) (Y := zm_194) W.1 rfl rfl zm_194_t rfl rfl) rfl rfl rfl rfl rfl (zq_sign0 W ha2) ?_
      have n3 : ¬ (ys_kd T n p = 4 ∧ (ys_vl T n p = 43 ∨ ys_vl T n p = 45)) := by
        rintro ⟨h8, h9 | h9⟩
        · exact ha1 ((yr_sg hV.2.1 (c := 43)).mpr ⟨h8, h9⟩)
        · exact ha2 ((yr_sg hV.2.1 (c := 45)).mpr ⟨h8, h9⟩)
      refine zw_beq1 (g := 241) (pc' := 204) rfl rfl rfl (rfl : _ = (0 : Int)) (fun hb => ?_) (fun h9 => absurd h9 (by decide))
      exact yx_ex241 hby hK l0 l1 hx1 h hF ha hp hg hlv hV hR n1 n2 n3  bk

set_option maxRecDepth 8000 in
set_option maxHeartbeats 4000000 in
theorem yx_ex127 {L : Nat} {σ : Nat → Int32} {d a : Nat} {T : Nat → Int} {n : Nat} {s0 : yM} {H0 : zp_H} (hby : ∀ k, k < n → -128 ≤ T k ∧ T k ≤ 127) {H : zp_H} {lv : zp_LV} {x1 : Int32} {lvb : List Bool} {p : Nat} (hK : zx_KW L σ) (l0 : zp_get lv 0 = some (.inr (.inr (some 73)))) (l1 : zp_get lv 1 = some (.inl x1)) (hx1 : x1.toInt ≠ 0) (hs : (H.2.1 72 28).toInt = 3) (hs2 : ys_kd T n p = 4 ∧ (ys_vl T n p = 60 ∨ ys_vl T n p = 61)) (h : zx_S a 1 0 H) (hF : zx_F a H0 H) (ha : (a : Int) ≤ (H.2.1 72 45).toInt) (hp : zx_phi H0 ≤ zx_phi H) (hg : (H.2.1 72 23).toInt = 0) (hlv : lvb ≠ []) (hV : yV T n lvb p H) (hR : yR T n s0 (0, lvb, p)) (n1 : ¬ (ys_kd T n p = 3 ∧ (ys_vl T n p = 9 ∨ ys_vl T n p = 8))) (bk : ∀ (R : zp_H) (lv1 : zp_LV) (x : Int32), zp_get lv1 0 = some (.inr (.inr (some 73))) → zp_get lv1 1 = some (.inl x) → zx_S a 1 0 R → zx_F a H0 R → (a : Int) ≤ (R.2.1 72 45).toInt → zx_phi H0 ≤ zx_phi R → (zx_phi H + 2 ≤ zx_phi R ∨ (x.toInt = 0 ∧ zx_phi H ≤ zx_phi R)) → ((x.toInt ≠ 0 ∧ yO T n s0 R) ∨ (x.toInt = 0 ∧ yZ T n s0 R)) → zs_Safe L σ (fun X : zp_X => ∃ H1, X = (.inl none, H1) ∧ zk_Bs zR zg zJ H1 ∧ zx_F a H0 H1 ∧ (a : Int) ≤ (H1.2.1 72 45).toInt ∧ yFin T n s0 H1) zm_192 [] (d + 6) (29, lv1, [], R, (0, 0))) : zs_Safe L σ (fun X : zp_X => ∃ H1, X = (.inl none, H1) ∧ zk_Bs zR zg zJ H1 ∧ zx_F a H0 H1 ∧ (a : Int) ≤ (H1.2.1 72 45).toInt ∧ yFin T n s0 H1) zm_192 [] (d + 6) (127, lv, [], H, (0, 0)) := by
  have W := zR_Wd (zR_dn h.1)
  have pH := zx_phi_le h.1
  have wb := h.2.2.1
  have hdp := zR_fr1 (zR_dn h.1) (k := 47) (r := (0, 6)) rfl rfl
  have hdp : 0 ≤ (H.2.1 72 47).toInt ∧ (H.2.1 72 47).toInt ≤ 6 := hdp
  obtain ⟨b1, l1b, hlb⟩ : ∃ b0 l0b, lvb = b0 :: l0b := by
    match lvb, hlv with
    | b0 :: l0b, _ => exact ⟨b0, l0b, rfl⟩
  have hV1 := hV
  rw [hlb] at hV1
  have hd47 : (H.2.1 72 47).toInt = ((l1b.length + 1 : Nat) : Int) := hV1.2.2.2.1
  have ht92 := hV1.2.2.2.2.1
  have hj47 : (H.2.1 72 47).toInt.toNat = l1b.length + 1 := by omega
  refine zw_ld (n := 1) (k := 0) (f := zp_isR) (pc' := 128) rfl rfl l0 rfl rfl ?_
  refine zw_gR (q := 72) (pc' := 131) W rfl rfl rfl rfl (W.2 72 61 _ rfl) rfl ?_
  refine zw_ld (n := 1) (k := 0) (f := zp_isR) (pc' := 132) rfl rfl l0 rfl rfl ?_
  refine zw_gI (q := 72) (pc' := 135) W rfl rfl rfl rfl rfl rfl ?_
  refine zw_ba (q := 92) (pc' := 136) W rfl rfl (by decide) (⟨hdp.1, by show _ < ((9 : Nat) : Int); omega⟩) rfl rfl ?_
  refine zw_bne1 (g := 186) (pc' := 139) rfl rfl rfl rfl (fun ht => ?_) (fun ht => ?_)
  · rw [hj47, ht92] at ht
    have n2 : ¬ (ys_kd T n p = 4 ∧ (ys_vl T n p = 60 ∨ ys_vl T n p = 61) ∧ lvb.head? = some false) := by
      rintro ⟨_, _, h9⟩
      rw [hlb] at h9
      have h9 : b1 = false := Option.some.inj h9
      rw [h9] at ht
      exact absurd rfl ht
    exact yx_ex186 hby hK l0 l1 hx1 h hF ha hp hg hlv hV hR n1 n2  bk
  · rw [hj47, ht92] at ht
    have hb1f : b1 = false := by
      cases b1 with
      | false => rfl
      | true => exact absurd ht (by decide)
    refine zw_ld (n := 1) (k := 0) (f := zp_isR) (pc' := 140) rfl rfl l0 rfl rfl ?_
    refine zw_s (pc' := 141) rfl rfl ?_
    obtain ⟨_, p1, Q, rfl, p2, p3, p4, p5, p6⟩ := zx_drops (L := L) (σ := σ) (d := d + 3) (y := Int32.ofInt 4) h ha
    have WQ := zR_Wd (zR_dn p2.1)
    have q23 := zx_fe p3.1 23 rfl rfl rfl
    have q28 := zx_fe p3.1 28 rfl rfl rfl
    have q47 := zx_fe p3.1 47 rfl rfl rfl
    have hphQ := zx_phi_i (zx_fe p3.1 27 rfl rfl rfl) q28
    obtain ⟨u0, u1⟩ := zx_top p2
    have u2 := p2.2.2.1
    have hVQ : yV T n lvb p Q := yV_F hV p3.1 rfl ⟨fun k => rfl, fun k => rfl⟩ rfl
    refine zw_cn (pc' := 144) (zw_cv (q := 72) (Y := zm_199) W.1 rfl rfl zm_199_t rfl rfl) rfl rfl rfl rfl rfl (p1) ?_
    refine zw_ld (n := 1) (k := 0) (f := zp_isR) (pc' := 145) rfl rfl l0 rfl rfl ?_
    refine zw_ld (n := 1) (k := 0) (f := zp_isR) (pc' := 146) rfl rfl l0 rfl rfl ?_
    refine zw_s (pc' := 148) rfl rfl ?_
    by_cases hch : (Q.2.1 72 28).toInt = 3 ∧ (Q.2.1 72 32).toInt = (Int32.ofInt 60).toInt
    · refine zw_c (pc' := 151) (zw_cv (q := 72) (Y := zm_194) WQ.1 rfl rfl zm_194_t rfl rfl) rfl rfl rfl rfl rfl (zq_sign1 WQ hch) ?_
      refine zw_beq1 (g := 159) (pc' := 154) rfl rfl rfl (rfl : _ = (1 : Int)) (fun h9 => absurd h9 (by decide)) (fun hb => ?_)
      refine zw_s (pc' := 156) rfl rfl ?_
      refine zw_s (pc' := 161) rfl rfl ?_
      obtain ⟨m1, m2, m3, m4⟩ := zx_wait (y := Int32.ofInt 6) p2 (by omega) (by omega) (by decide)
      have hT := m4 0 0 rfl rfl
      have f45 : (zx_wt Q (Int32.ofInt 6)).2.1 72 45 = Q.2.1 72 45 := zx_wt_f 45 rfl
      have hVw : yV T n lvb p (zx_wt Q (Int32.ofInt 6)) := yV_wt hVQ
      refine zw_cn (pc' := 164) (zw_cv (q := 72) (Y := zm_196) WQ.1 rfl rfl zm_196_t rfl rfl) rfl rfl rfl rfl rfl (zq_waits WQ ⟨u1, by show _ < ((800 : Nat) : Int); omega⟩) ?_
      have f47 : (zx_wt Q (Int32.ofInt 6)).2.1 72 47 = Q.2.1 72 47 := zx_wt_f 47 rfl
      obtain ⟨n1_, n2_, n3_, n4_⟩ := zx_T_92 (j := ((zx_wt Q (Int32.ofInt 6)).2.1 72 47).toInt.toNat) (x := Int32.ofInt 1) hT (Or.inr rfl)
      obtain ⟨b0, l0b, rfl⟩ : ∃ b0 l0b, lvb = b0 :: l0b := by
        match lvb, hlv with
        | b0 :: l0b, _ => exact ⟨b0, l0b, rfl⟩
      have hl47 : ((zx_wt Q (Int32.ofInt 6)).2.1 72 47).toInt = ((l0b.length + 1 : Nat) : Int) := hVw.2.2.2.1
      have hV9 := yV_92 (t := true) (x := Int32.ofInt 1) (j := ((zx_wt Q (Int32.ofInt 6)).2.1 72 47).toInt.toNat) hVw (by omega) (by decide)
      have hN9 := (by obtain rfl : b0 = false := (List.cons.inj hlb).1.trans hb1f; exact yN_lt (lv := l0b) hs2.1 hs2.2 : yN T n (0, b0 :: l0b, p) = .inl (1, true :: l0b, ys_nx T n p))
      refine zw_ld (n := 1) (k := 0) (f := zp_isR) (pc' := 165) rfl rfl l0 rfl rfl ?_
      refine zw_gR (q := 72) (pc' := 168) WQ rfl rfl rfl rfl (WQ.2 72 61 _ rfl) rfl ?_
      refine zw_ld (n := 1) (k := 0) (f := zp_isR) (pc' := 169) rfl rfl l0 rfl rfl ?_
      refine zw_gI (q := 72) (pc' := 172) WQ rfl rfl rfl rfl rfl rfl ?_
      refine zw_s (pc' := 173) rfl rfl ?_
      refine zw_bs (q := 92) (pc' := 174) WQ rfl rfl (by decide) (show 0 ≤ ((zx_wt Q (Int32.ofInt 6)).2.1 72 47).toInt ∧ ((zx_wt Q (Int32.ofInt 6)).2.1 72 47).toInt < ((9 : Nat) : Int) from by rw [f47]; exact ⟨by omega, by omega⟩) rfl ?_
      refine zw_ld (n := 1) (k := 0) (f := zp_isR) (pc' := 175) rfl rfl l0 rfl rfl ?_
      obtain ⟨K, c1, c2, c3, c4, c5, c6⟩ := zx_T_goes (L := L) (σ := σ) (d := d + 4) n1_
      rw [n3_] at c5
      have hgo := (yx_goes hby n1_.1 hV9 c1).1
      have hlv9 : true :: l0b ≠ [] := List.cons_ne_nil _ _
      have WK := zR_Wd (zR_dn c2.1)
      have aK : (a : Int) ≤ (K.2.1 72 45).toInt := zx_S_a c2 c4
      refine zw_cn (pc' := 178) (zw_cv (q := 72) (Y := zm_171) WQ.1 rfl rfl zm_171_t rfl rfl) rfl rfl rfl rfl rfl (c1) ?_
      obtain ⟨_, d1, R, rfl, d2, d3, d4, d5, d6, d7⟩ := yx_operand (L := L) (σ := σ) (d := d) (y := Int32.ofInt 0) hby hK c2 aK c4 hgo hlv9
      rw [if_pos (by decide)] at d7
      refine zw_ld (n := 1) (k := 0) (f := zp_isR) (pc' := 179) rfl rfl l0 rfl rfl ?_
      refine zw_s (pc' := 180) rfl rfl ?_
      refine zw_cn (pc' := 183) (zw_cv (q := 72) (Y := zm_195) WK.1 rfl rfl zm_195_t rfl rfl) rfl rfl rfl rfl rfl (d1) ?_
      refine zw_s (pc' := 322) rfl rfl ?_
      refine zw_s (pc' := 29) rfl rfl ?_
      exact bk R _ _ l0 l1 d2 (zx_F_t (zx_F_t (zx_F_t (zx_F_t (zx_F_t hF (zx_Fd_F p3)) m1) n2_) c3) d3) d5 (by omega) (Or.inl (by omega)) (Or.inl ⟨hx1, yO_R (yR_t hR (yR_s hN9)) d7⟩)
    · refine zw_c (pc' := 151) (zw_cv (q := 72) (Y := zm_194) WQ.1 rfl rfl zm_194_t rfl rfl) rfl rfl rfl rfl rfl (zq_sign0 WQ hch) ?_
      refine zw_beq1 (g := 159) (pc' := 154) rfl rfl rfl (rfl : _ = (0 : Int)) (fun hb => ?_) (fun h9 => absurd h9 (by decide))
      refine zw_s (pc' := 161) rfl rfl ?_
      obtain ⟨m1, m2, m3, m4⟩ := zx_wait (y := Int32.ofInt 7) p2 (by omega) (by omega) (by decide)
      have hT := m4 0 0 rfl rfl
      have f45 : (zx_wt Q (Int32.ofInt 7)).2.1 72 45 = Q.2.1 72 45 := zx_wt_f 45 rfl
      have hVw : yV T n lvb p (zx_wt Q (Int32.ofInt 7)) := yV_wt hVQ
      refine zw_cn (pc' := 164) (zw_cv (q := 72) (Y := zm_196) WQ.1 rfl rfl zm_196_t rfl rfl) rfl rfl rfl rfl rfl (zq_waits WQ ⟨u1, by show _ < ((800 : Nat) : Int); omega⟩) ?_
      have f47 : (zx_wt Q (Int32.ofInt 7)).2.1 72 47 = Q.2.1 72 47 := zx_wt_f 47 rfl
      obtain ⟨n1_, n2_, n3_, n4_⟩ := zx_T_92 (j := ((zx_wt Q (Int32.ofInt 7)).2.1 72 47).toInt.toNat) (x := Int32.ofInt 1) hT (Or.inr rfl)
      obtain ⟨b0, l0b, rfl⟩ : ∃ b0 l0b, lvb = b0 :: l0b := by
        match lvb, hlv with
        | b0 :: l0b, _ => exact ⟨b0, l0b, rfl⟩
      have hl47 : ((zx_wt Q (Int32.ofInt 7)).2.1 72 47).toInt = ((l0b.length + 1 : Nat) : Int) := hVw.2.2.2.1
      have hV9 := yV_92 (t := true) (x := Int32.ofInt 1) (j := ((zx_wt Q (Int32.ofInt 7)).2.1 72 47).toInt.toNat) hVw (by omega) (by decide)
      have hN9 := (by obtain rfl : b0 = false := (List.cons.inj hlb).1.trans hb1f; exact yN_lt (lv := l0b) hs2.1 hs2.2 : yN T n (0, b0 :: l0b, p) = .inl (1, true :: l0b, ys_nx T n p))
      refine zw_ld (n := 1) (k := 0) (f := zp_isR) (pc' := 165) rfl rfl l0 rfl rfl ?_
      refine zw_gR (q := 72) (pc' := 168) WQ rfl rfl rfl rfl (WQ.2 72 61 _ rfl) rfl ?_
      refine zw_ld (n := 1) (k := 0) (f := zp_isR) (pc' := 169) rfl rfl l0 rfl rfl ?_
      refine zw_gI (q := 72) (pc' := 172) WQ rfl rfl rfl rfl rfl rfl ?_
      refine zw_s (pc' := 173) rfl rfl ?_
      refine zw_bs (q := 92) (pc' := 174) WQ rfl rfl (by decide) (show 0 ≤ ((zx_wt Q (Int32.ofInt 7)).2.1 72 47).toInt ∧ ((zx_wt Q (Int32.ofInt 7)).2.1 72 47).toInt < ((9 : Nat) : Int) from by rw [f47]; exact ⟨by omega, by omega⟩) rfl ?_
      refine zw_ld (n := 1) (k := 0) (f := zp_isR) (pc' := 175) rfl rfl l0 rfl rfl ?_
      obtain ⟨K, c1, c2, c3, c4, c5, c6⟩ := zx_T_goes (L := L) (σ := σ) (d := d + 4) n1_
      rw [n3_] at c5
      have hgo := (yx_goes hby n1_.1 hV9 c1).1
      have hlv9 : true :: l0b ≠ [] := List.cons_ne_nil _ _
      have WK := zR_Wd (zR_dn c2.1)
      have aK : (a : Int) ≤ (K.2.1 72 45).toInt := zx_S_a c2 c4
      refine zw_cn (pc' := 178) (zw_cv (q := 72) (Y := zm_171) WQ.1 rfl rfl zm_171_t rfl rfl) rfl rfl rfl rfl rfl (c1) ?_
      obtain ⟨_, d1, R, rfl, d2, d3, d4, d5, d6, d7⟩ := yx_operand (L := L) (σ := σ) (d := d) (y := Int32.ofInt 0) hby hK c2 aK c4 hgo hlv9
      rw [if_pos (by decide)] at d7
      refine zw_ld (n := 1) (k := 0) (f := zp_isR) (pc' := 179) rfl rfl l0 rfl rfl ?_
      refine zw_s (pc' := 180) rfl rfl ?_
      refine zw_cn (pc' := 183) (zw_cv (q := 72) (Y := zm_195) WK.1 rfl rfl zm_195_t rfl rfl) rfl rfl rfl rfl rfl (d1) ?_
      refine zw_s (pc' := 322) rfl rfl ?_
      refine zw_s (pc' := 29) rfl rfl ?_
      exact bk R _ _ l0 l1 d2 (zx_F_t (zx_F_t (zx_F_t (zx_F_t (zx_F_t hF (zx_Fd_F p3)) m1) n2_) c3) d3) d5 (by omega) (Or.inl (by omega)) (Or.inl ⟨hx1, yO_R (yR_t hR (yR_s hN9)) d7⟩)

set_option maxRecDepth 8000 in
set_option maxHeartbeats 4000000 in
theorem yx_ex109 {L : Nat} {σ : Nat → Int32} {d a : Nat} {T : Nat → Int} {n : Nat} {s0 : yM} {H0 : zp_H} (hby : ∀ k, k < n → -128 ≤ T k ∧ T k ≤ 127) {H : zp_H} {lv : zp_LV} {x1 : Int32} {lvb : List Bool} {p : Nat} (hK : zx_KW L σ) (l0 : zp_get lv 0 = some (.inr (.inr (some 73)))) (l1 : zp_get lv 1 = some (.inl x1)) (hx1 : x1.toInt ≠ 0) (h : zx_S a 1 0 H) (hF : zx_F a H0 H) (ha : (a : Int) ≤ (H.2.1 72 45).toInt) (hp : zx_phi H0 ≤ zx_phi H) (hg : (H.2.1 72 23).toInt = 0) (hlv : lvb ≠ []) (hV : yV T n lvb p H) (hR : yR T n s0 (0, lvb, p)) (n1 : ¬ (ys_kd T n p = 3 ∧ (ys_vl T n p = 9 ∨ ys_vl T n p = 8))) (bk : ∀ (R : zp_H) (lv1 : zp_LV) (x : Int32), zp_get lv1 0 = some (.inr (.inr (some 73))) → zp_get lv1 1 = some (.inl x) → zx_S a 1 0 R → zx_F a H0 R → (a : Int) ≤ (R.2.1 72 45).toInt → zx_phi H0 ≤ zx_phi R → (zx_phi H + 2 ≤ zx_phi R ∨ (x.toInt = 0 ∧ zx_phi H ≤ zx_phi R)) → ((x.toInt ≠ 0 ∧ yO T n s0 R) ∨ (x.toInt = 0 ∧ yZ T n s0 R)) → zs_Safe L σ (fun X : zp_X => ∃ H1, X = (.inl none, H1) ∧ zk_Bs zR zg zJ H1 ∧ zx_F a H0 H1 ∧ (a : Int) ≤ (H1.2.1 72 45).toInt ∧ yFin T n s0 H1) zm_192 [] (d + 6) (29, lv1, [], R, (0, 0))) : zs_Safe L σ (fun X : zp_X => ∃ H1, X = (.inl none, H1) ∧ zk_Bs zR zg zJ H1 ∧ zx_F a H0 H1 ∧ (a : Int) ≤ (H1.2.1 72 45).toInt ∧ yFin T n s0 H1) zm_192 [] (d + 6) (109, lv, [], H, (0, 0)) := by
  have W := zR_Wd (zR_dn h.1)
  have pH := zx_phi_le h.1
  have wb := h.2.2.1
  have hdp := zR_fr1 (zR_dn h.1) (k := 47) (r := (0, 6)) rfl rfl
  have hdp : 0 ≤ (H.2.1 72 47).toInt ∧ (H.2.1 72 47).toInt ≤ 6 := hdp
  refine zw_ld (n := 1) (k := 0) (f := zp_isR) (pc' := 110) rfl rfl l0 rfl rfl ?_
  refine zw_s (pc' := 112) rfl rfl ?_
  by_cases h60 : (H.2.1 72 28).toInt = 3 ∧ (H.2.1 72 32).toInt = (Int32.ofInt 60).toInt
  · refine zw_c (pc' := 115) (zw_cv (q := 72) (Y := zm_194) W.1 rfl rfl zm_194_t rfl rfl) rfl rfl rfl rfl rfl (zq_sign1 W h60) ?_
    have q1 := (yr_sg hV.2.1 (c := 60)).mp h60
    refine zw_bne1 (g := 127) (pc' := 118) rfl rfl rfl (rfl : _ = (1 : Int)) (fun hb => ?_) (fun h9 => absurd h9 (by decide))
    exact yx_ex127 hby hK l0 l1 hx1 h60.1 ⟨q1.1, Or.inl q1.2⟩ h hF ha hp hg hlv hV hR n1 bk
  · refine zw_c (pc' := 115) (zw_cv (q := 72) (Y := zm_194) W.1 rfl rfl zm_194_t rfl rfl) rfl rfl rfl rfl rfl (zq_sign0 W h60) ?_
    refine zw_bne1 (g := 127) (pc' := 118) rfl rfl rfl (rfl : _ = (0 : Int)) (fun h9 => absurd h9 (by decide)) (fun hb => ?_)
    refine zw_ld (n := 1) (k := 0) (f := zp_isR) (pc' := 119) rfl rfl l0 rfl rfl ?_
    refine zw_s (pc' := 121) rfl rfl ?_
    by_cases h61 : (H.2.1 72 28).toInt = 3 ∧ (H.2.1 72 32).toInt = (Int32.ofInt 61).toInt
    · refine zw_c (pc' := 124) (zw_cv (q := 72) (Y := zm_194) W.1 rfl rfl zm_194_t rfl rfl) rfl rfl rfl rfl rfl (zq_sign1 W h61) ?_
      have q1 := (yr_sg hV.2.1 (c := 61)).mp h61
      refine zw_beq1 (g := 186) (pc' := 127) rfl rfl rfl (rfl : _ = (1 : Int)) (fun h9 => absurd h9 (by decide)) (fun hb => ?_)
      exact yx_ex127 hby hK l0 l1 hx1 h61.1 ⟨q1.1, Or.inr q1.2⟩ h hF ha hp hg hlv hV hR n1 bk
    · refine zw_c (pc' := 124) (zw_cv (q := 72) (Y := zm_194) W.1 rfl rfl zm_194_t rfl rfl) rfl rfl rfl rfl rfl (zq_sign0 W h61) ?_
      have n2 : ¬ (ys_kd T n p = 4 ∧ (ys_vl T n p = 60 ∨ ys_vl T n p = 61) ∧ lvb.head? = some false) := by
        rintro ⟨h8, h9 | h9, _⟩
        · exact h60 ((yr_sg hV.2.1 (c := 60)).mpr ⟨h8, h9⟩)
        · exact h61 ((yr_sg hV.2.1 (c := 61)).mpr ⟨h8, h9⟩)
      refine zw_beq1 (g := 186) (pc' := 127) rfl rfl rfl (rfl : _ = (0 : Int)) (fun hb => ?_) (fun h9 => absurd h9 (by decide))
      exact yx_ex186 hby hK l0 l1 hx1 h hF ha hp hg hlv hV hR n1 n2  bk

set_option maxRecDepth 8000 in
set_option maxHeartbeats 4000000 in
theorem yx_ex57 {L : Nat} {σ : Nat → Int32} {d a : Nat} {T : Nat → Int} {n : Nat} {s0 : yM} {H0 : zp_H} (hby : ∀ k, k < n → -128 ≤ T k ∧ T k ≤ 127) {H : zp_H} {lv : zp_LV} {x1 : Int32} {lvb : List Bool} {p : Nat} (hK : zx_KW L σ) (l0 : zp_get lv 0 = some (.inr (.inr (some 73)))) (l1 : zp_get lv 1 = some (.inl x1)) (hx1 : x1.toInt ≠ 0) {x2 : Int32} (l2 : zp_get lv 2 = some (.inl x2)) (hs : (H.2.1 72 28).toInt = 1) (hs2 : ys_kd T n p = 3 ∧ (ys_vl T n p = 9 ∨ ys_vl T n p = 8)) (h : zx_S a 1 0 H) (hF : zx_F a H0 H) (ha : (a : Int) ≤ (H.2.1 72 45).toInt) (hp : zx_phi H0 ≤ zx_phi H) (hg : (H.2.1 72 23).toInt = 0) (hlv : lvb ≠ []) (hV : yV T n lvb p H) (hR : yR T n s0 (0, lvb, p))  (bk : ∀ (R : zp_H) (lv1 : zp_LV) (x : Int32), zp_get lv1 0 = some (.inr (.inr (some 73))) → zp_get lv1 1 = some (.inl x) → zx_S a 1 0 R → zx_F a H0 R → (a : Int) ≤ (R.2.1 72 45).toInt → zx_phi H0 ≤ zx_phi R → (zx_phi H + 2 ≤ zx_phi R ∨ (x.toInt = 0 ∧ zx_phi H ≤ zx_phi R)) → ((x.toInt ≠ 0 ∧ yO T n s0 R) ∨ (x.toInt = 0 ∧ yZ T n s0 R)) → zs_Safe L σ (fun X : zp_X => ∃ H1, X = (.inl none, H1) ∧ zk_Bs zR zg zJ H1 ∧ zx_F a H0 H1 ∧ (a : Int) ≤ (H1.2.1 72 45).toInt ∧ yFin T n s0 H1) zm_192 [] (d + 6) (29, lv1, [], R, (0, 0))) : zs_Safe L σ (fun X : zp_X => ∃ H1, X = (.inl none, H1) ∧ zk_Bs zR zg zJ H1 ∧ zx_F a H0 H1 ∧ (a : Int) ≤ (H1.2.1 72 45).toInt ∧ yFin T n s0 H1) zm_192 [] (d + 6) (57, lv, [], H, (0, 0)) := by
  have W := zR_Wd (zR_dn h.1)
  have pH := zx_phi_le h.1
  have wb := h.2.2.1
  have hdp := zR_fr1 (zR_dn h.1) (k := 47) (r := (0, 6)) rfl rfl
  have hdp : 0 ≤ (H.2.1 72 47).toInt ∧ (H.2.1 72 47).toInt ≤ 6 := hdp
  refine zw_ld (n := 1) (k := 0) (f := zp_isR) (pc' := 58) rfl rfl l0 rfl rfl ?_
  refine zw_ld (n := 1) (k := 2) (f := zp_isI) (pc' := 59) rfl rfl l2 rfl rfl ?_
  refine zw_s (pc' := 61) rfl rfl ?_
  refine zw_bne2 (g := 68) (pc' := 64) rfl rfl rfl rfl (rfl : _ = (18 : Int)) (fun hB => ?_) (fun hB => ?_)
  · refine zw_s (pc' := 69) rfl rfl ?_
    obtain ⟨_, p1, Q, rfl, p2, p3, p4, p5, p6⟩ := zx_drops (L := L) (σ := σ) (d := d + 3) (y := Int32.ofInt 1) h ha
    have WQ := zR_Wd (zR_dn p2.1)
    have q23 := zx_fe p3.1 23 rfl rfl rfl
    have q28 := zx_fe p3.1 28 rfl rfl rfl
    have q47 := zx_fe p3.1 47 rfl rfl rfl
    have hphQ := zx_phi_i (zx_fe p3.1 27 rfl rfl rfl) q28
    obtain ⟨u0, u1⟩ := zx_top p2
    have u2 := p2.2.2.1
    have hVQ : yV T n lvb p Q := yV_F hV p3.1 rfl ⟨fun k => rfl, fun k => rfl⟩ rfl
    refine zw_cn (pc' := 72) (zw_cv (q := 72) (Y := zm_199) W.1 rfl rfl zm_199_t rfl rfl) rfl rfl rfl rfl rfl (p1) ?_
    refine zw_ld (n := 1) (k := 0) (f := zp_isR) (pc' := 73) rfl rfl l0 rfl rfl ?_
    refine zw_ld (n := 1) (k := 2) (f := zp_isI) (pc' := 74) rfl rfl l2 rfl rfl ?_
    refine zw_s (pc' := 76) rfl rfl ?_
    refine zw_bne2 (g := 83) (pc' := 79) rfl rfl rfl rfl (rfl : _ = (18 : Int)) (fun hC => ?_) (fun hC => ?_)
    · refine zw_s (pc' := 84) rfl rfl ?_
      obtain ⟨m1, m2, m3, m4⟩ := zx_wait (y := Int32.ofInt 5) p2 (by omega) (by omega) (by decide)
      have hT := m4 0 0 rfl rfl
      have f45 : (zx_wt Q (Int32.ofInt 5)).2.1 72 45 = Q.2.1 72 45 := zx_wt_f 45 rfl
      have hVw : yV T n lvb p (zx_wt Q (Int32.ofInt 5)) := yV_wt hVQ
      refine zw_cn (pc' := 87) (zw_cv (q := 72) (Y := zm_196) WQ.1 rfl rfl zm_196_t rfl rfl) rfl rfl rfl rfl rfl (zq_waits WQ ⟨u1, by show _ < ((800 : Nat) : Int); omega⟩) ?_
      have f47 : (zx_wt Q (Int32.ofInt 5)).2.1 72 47 = Q.2.1 72 47 := zx_wt_f 47 rfl
      obtain ⟨n1_, n2_, n3_, n4_⟩ := zx_T_92 (j := ((zx_wt Q (Int32.ofInt 5)).2.1 72 47).toInt.toNat) (x := Int32.ofInt 0) hT (Or.inl rfl)
      obtain ⟨b0, l0b, rfl⟩ : ∃ b0 l0b, lvb = b0 :: l0b := by
        match lvb, hlv with
        | b0 :: l0b, _ => exact ⟨b0, l0b, rfl⟩
      have hl47 : ((zx_wt Q (Int32.ofInt 5)).2.1 72 47).toInt = ((l0b.length + 1 : Nat) : Int) := hVw.2.2.2.1
      have hV9 := yV_92 (t := false) (x := Int32.ofInt 0) (j := ((zx_wt Q (Int32.ofInt 5)).2.1 72 47).toInt.toNat) hVw (by omega) (by decide)
      have hN9 := yN_ao (lv := b0 :: l0b) hs2.1 hs2.2
      refine zw_ld (n := 1) (k := 0) (f := zp_isR) (pc' := 88) rfl rfl l0 rfl rfl ?_
      refine zw_gR (q := 72) (pc' := 91) WQ rfl rfl rfl rfl (WQ.2 72 61 _ rfl) rfl ?_
      refine zw_ld (n := 1) (k := 0) (f := zp_isR) (pc' := 92) rfl rfl l0 rfl rfl ?_
      refine zw_gI (q := 72) (pc' := 95) WQ rfl rfl rfl rfl rfl rfl ?_
      refine zw_s (pc' := 96) rfl rfl ?_
      refine zw_bs (q := 92) (pc' := 97) WQ rfl rfl (by decide) (show 0 ≤ ((zx_wt Q (Int32.ofInt 5)).2.1 72 47).toInt ∧ ((zx_wt Q (Int32.ofInt 5)).2.1 72 47).toInt < ((9 : Nat) : Int) from by rw [f47]; exact ⟨by omega, by omega⟩) rfl ?_
      refine zw_ld (n := 1) (k := 0) (f := zp_isR) (pc' := 98) rfl rfl l0 rfl rfl ?_
      obtain ⟨K, c1, c2, c3, c4, c5, c6⟩ := zx_T_goes (L := L) (σ := σ) (d := d + 4) n1_
      rw [n3_] at c5
      have hgo := (yx_goes hby n1_.1 hV9 c1).1
      have hlv9 : false :: l0b ≠ [] := List.cons_ne_nil _ _
      have WK := zR_Wd (zR_dn c2.1)
      have aK : (a : Int) ≤ (K.2.1 72 45).toInt := zx_S_a c2 c4
      refine zw_cn (pc' := 101) (zw_cv (q := 72) (Y := zm_171) WQ.1 rfl rfl zm_171_t rfl rfl) rfl rfl rfl rfl rfl (c1) ?_
      obtain ⟨_, d1, R, rfl, d2, d3, d4, d5, d6, d7⟩ := yx_operand (L := L) (σ := σ) (d := d) (y := Int32.ofInt 1) hby hK c2 aK c4 hgo hlv9
      rw [if_neg (by decide)] at d7
      refine zw_ld (n := 1) (k := 0) (f := zp_isR) (pc' := 102) rfl rfl l0 rfl rfl ?_
      refine zw_s (pc' := 103) rfl rfl ?_
      refine zw_cn (pc' := 106) (zw_cv (q := 72) (Y := zm_195) WK.1 rfl rfl zm_195_t rfl rfl) rfl rfl rfl rfl rfl (d1) ?_
      refine zw_s (pc' := 322) rfl rfl ?_
      refine zw_s (pc' := 29) rfl rfl ?_
      exact bk R _ _ l0 l1 d2 (zx_F_t (zx_F_t (zx_F_t (zx_F_t (zx_F_t hF (zx_Fd_F p3)) m1) n2_) c3) d3) d5 (by omega) (Or.inl (by omega)) (Or.inl ⟨hx1, yO_R (yR_t hR (yR_s hN9)) d7⟩)
    · omega
  · refine zw_s (pc' := 65) rfl rfl ?_
    refine zw_s (pc' := 69) rfl rfl ?_
    obtain ⟨_, p1, Q, rfl, p2, p3, p4, p5, p6⟩ := zx_drops (L := L) (σ := σ) (d := d + 3) (y := Int32.ofInt 2) h ha
    have WQ := zR_Wd (zR_dn p2.1)
    have q23 := zx_fe p3.1 23 rfl rfl rfl
    have q28 := zx_fe p3.1 28 rfl rfl rfl
    have q47 := zx_fe p3.1 47 rfl rfl rfl
    have hphQ := zx_phi_i (zx_fe p3.1 27 rfl rfl rfl) q28
    obtain ⟨u0, u1⟩ := zx_top p2
    have u2 := p2.2.2.1
    have hVQ : yV T n lvb p Q := yV_F hV p3.1 rfl ⟨fun k => rfl, fun k => rfl⟩ rfl
    refine zw_cn (pc' := 72) (zw_cv (q := 72) (Y := zm_199) W.1 rfl rfl zm_199_t rfl rfl) rfl rfl rfl rfl rfl (p1) ?_
    refine zw_ld (n := 1) (k := 0) (f := zp_isR) (pc' := 73) rfl rfl l0 rfl rfl ?_
    refine zw_ld (n := 1) (k := 2) (f := zp_isI) (pc' := 74) rfl rfl l2 rfl rfl ?_
    refine zw_s (pc' := 76) rfl rfl ?_
    refine zw_bne2 (g := 83) (pc' := 79) rfl rfl rfl rfl (rfl : _ = (18 : Int)) (fun hC => ?_) (fun hC => ?_)
    · omega
    · refine zw_s (pc' := 80) rfl rfl ?_
      refine zw_s (pc' := 84) rfl rfl ?_
      obtain ⟨m1, m2, m3, m4⟩ := zx_wait (y := Int32.ofInt 4) p2 (by omega) (by omega) (by decide)
      have hT := m4 0 0 rfl rfl
      have f45 : (zx_wt Q (Int32.ofInt 4)).2.1 72 45 = Q.2.1 72 45 := zx_wt_f 45 rfl
      have hVw : yV T n lvb p (zx_wt Q (Int32.ofInt 4)) := yV_wt hVQ
      refine zw_cn (pc' := 87) (zw_cv (q := 72) (Y := zm_196) WQ.1 rfl rfl zm_196_t rfl rfl) rfl rfl rfl rfl rfl (zq_waits WQ ⟨u1, by show _ < ((800 : Nat) : Int); omega⟩) ?_
      have f47 : (zx_wt Q (Int32.ofInt 4)).2.1 72 47 = Q.2.1 72 47 := zx_wt_f 47 rfl
      obtain ⟨n1_, n2_, n3_, n4_⟩ := zx_T_92 (j := ((zx_wt Q (Int32.ofInt 4)).2.1 72 47).toInt.toNat) (x := Int32.ofInt 0) hT (Or.inl rfl)
      obtain ⟨b0, l0b, rfl⟩ : ∃ b0 l0b, lvb = b0 :: l0b := by
        match lvb, hlv with
        | b0 :: l0b, _ => exact ⟨b0, l0b, rfl⟩
      have hl47 : ((zx_wt Q (Int32.ofInt 4)).2.1 72 47).toInt = ((l0b.length + 1 : Nat) : Int) := hVw.2.2.2.1
      have hV9 := yV_92 (t := false) (x := Int32.ofInt 0) (j := ((zx_wt Q (Int32.ofInt 4)).2.1 72 47).toInt.toNat) hVw (by omega) (by decide)
      have hN9 := yN_ao (lv := b0 :: l0b) hs2.1 hs2.2
      refine zw_ld (n := 1) (k := 0) (f := zp_isR) (pc' := 88) rfl rfl l0 rfl rfl ?_
      refine zw_gR (q := 72) (pc' := 91) WQ rfl rfl rfl rfl (WQ.2 72 61 _ rfl) rfl ?_
      refine zw_ld (n := 1) (k := 0) (f := zp_isR) (pc' := 92) rfl rfl l0 rfl rfl ?_
      refine zw_gI (q := 72) (pc' := 95) WQ rfl rfl rfl rfl rfl rfl ?_
      refine zw_s (pc' := 96) rfl rfl ?_
      refine zw_bs (q := 92) (pc' := 97) WQ rfl rfl (by decide) (show 0 ≤ ((zx_wt Q (Int32.ofInt 4)).2.1 72 47).toInt ∧ ((zx_wt Q (Int32.ofInt 4)).2.1 72 47).toInt < ((9 : Nat) : Int) from by rw [f47]; exact ⟨by omega, by omega⟩) rfl ?_
      refine zw_ld (n := 1) (k := 0) (f := zp_isR) (pc' := 98) rfl rfl l0 rfl rfl ?_
      obtain ⟨K, c1, c2, c3, c4, c5, c6⟩ := zx_T_goes (L := L) (σ := σ) (d := d + 4) n1_
      rw [n3_] at c5
      have hgo := (yx_goes hby n1_.1 hV9 c1).1
      have hlv9 : false :: l0b ≠ [] := List.cons_ne_nil _ _
      have WK := zR_Wd (zR_dn c2.1)
      have aK : (a : Int) ≤ (K.2.1 72 45).toInt := zx_S_a c2 c4
      refine zw_cn (pc' := 101) (zw_cv (q := 72) (Y := zm_171) WQ.1 rfl rfl zm_171_t rfl rfl) rfl rfl rfl rfl rfl (c1) ?_
      obtain ⟨_, d1, R, rfl, d2, d3, d4, d5, d6, d7⟩ := yx_operand (L := L) (σ := σ) (d := d) (y := Int32.ofInt 1) hby hK c2 aK c4 hgo hlv9
      rw [if_neg (by decide)] at d7
      refine zw_ld (n := 1) (k := 0) (f := zp_isR) (pc' := 102) rfl rfl l0 rfl rfl ?_
      refine zw_s (pc' := 103) rfl rfl ?_
      refine zw_cn (pc' := 106) (zw_cv (q := 72) (Y := zm_195) WK.1 rfl rfl zm_195_t rfl rfl) rfl rfl rfl rfl rfl (d1) ?_
      refine zw_s (pc' := 322) rfl rfl ?_
      refine zw_s (pc' := 29) rfl rfl ?_
      exact bk R _ _ l0 l1 d2 (zx_F_t (zx_F_t (zx_F_t (zx_F_t (zx_F_t hF (zx_Fd_F p3)) m1) n2_) c3) d3) d5 (by omega) (Or.inl (by omega)) (Or.inl ⟨hx1, yO_R (yR_t hR (yR_s hN9)) d7⟩)

set_option maxRecDepth 8000 in
set_option maxHeartbeats 4000000 in
theorem yx_exL {L : Nat} {σ : Nat → Int32} {d a : Nat} {T : Nat → Int} {n : Nat} {s0 : yM} {H0 : zp_H} (hby : ∀ k, k < n → -128 ≤ T k ∧ T k ≤ 127) (hK : zx_KW L σ) : ∀ (m : Nat) (H : zp_H) (lv : zp_LV) (x1 : Int32), 2 * (1401 - zx_phi H).toNat + (if x1.toInt = 0 then 0 else 1) = m → zp_get lv 0 = some (.inr (.inr (some 73))) → zp_get lv 1 = some (.inl x1) → zx_S a 1 0 H → zx_F a H0 H → (a : Int) ≤ (H.2.1 72 45).toInt → zx_phi H0 ≤ zx_phi H → ((x1.toInt ≠ 0 ∧ yO T n s0 H) ∨ (x1.toInt = 0 ∧ yZ T n s0 H)) → zs_Safe L σ (fun X : zp_X => ∃ H1, X = (.inl none, H1) ∧ zk_Bs zR zg zJ H1 ∧ zx_F a H0 H1 ∧ (a : Int) ≤ (H1.2.1 72 45).toInt ∧ yFin T n s0 H1) zm_192 [] (d + 6) (29, lv, [], H, (0, 0)) := by
  intro m
  induction m using Nat.strongRecOn with
  | ind m ih =>
    intro H lv x1 hm l0 l1 h hF ha hp hJ
    have W := zR_Wd (zR_dn h.1)
    have pH := zx_phi_le h.1
    refine zw_ld (n := 1) (k := 1) (f := zp_isI) (pc' := 30) rfl rfl l1 rfl rfl ?_
    refine zw_beq1 (g := 325) (pc' := 33) rfl rfl rfl rfl (fun h1 => ?_) (fun h1 => ?_)
    · exact yx_exE hby l0 h hF ha (hJ.resolve_left (fun h9 => h9.1 h1)).2
    · rw [if_neg h1] at hm
      have hO := (hJ.resolve_right (fun h9 => h1 h9.1)).2
      refine zw_ld (n := 1) (k := 0) (f := zp_isR) (pc' := 34) rfl rfl l0 rfl rfl ?_
      by_cases hg : (H.2.1 72 23).toInt = 0
      · refine zw_c (pc' := 37) (zw_cv (q := 72) (Y := zm_175) W.1 rfl rfl zm_175_t rfl rfl) rfl rfl rfl rfl rfl (zq_good1 W hg) ?_
        refine zw_beq1 (g := 325) (pc' := 40) rfl rfl rfl (rfl : _ = (1 : Int)) (fun h9 => absurd h9 (by decide)) (fun hb => ?_)
        refine zw_ld (n := 1) (k := 0) (f := zp_isR) (pc' := 41) rfl rfl l0 rfl rfl ?_
        have bk : ∀ (R : zp_H) (lv1 : zp_LV) (x : Int32), zp_get lv1 0 = some (.inr (.inr (some 73))) → zp_get lv1 1 = some (.inl x) → zx_S a 1 0 R → zx_F a H0 R → (a : Int) ≤ (R.2.1 72 45).toInt → zx_phi H0 ≤ zx_phi R → (zx_phi H + 2 ≤ zx_phi R ∨ (x.toInt = 0 ∧ zx_phi H ≤ zx_phi R)) → ((x.toInt ≠ 0 ∧ yO T n s0 R) ∨ (x.toInt = 0 ∧ yZ T n s0 R)) → zs_Safe L σ (fun X : zp_X => ∃ H1, X = (.inl none, H1) ∧ zk_Bs zR zg zJ H1 ∧ zx_F a H0 H1 ∧ (a : Int) ≤ (H1.2.1 72 45).toInt ∧ yFin T n s0 H1) zm_192 [] (d + 6) (29, lv1, [], R, (0, 0)) := by
          intro R lv1 x m0 m1 mS mF ma mp mq mJ
          have pR := zx_phi_le mS.1
          refine ih _ ?_ R lv1 x rfl m0 m1 mS mF ma mp mJ
          rcases mq with mq | ⟨mq, mr⟩
          · split <;> omega
          · rw [if_pos mq]; omega
        obtain ⟨_, lvb, p, hlv, hV, hR⟩ := hO.resolve_right (fun h9 => yBad_g h9 hg)
        have hwd := yr_wd hV.2.2.1 hV.2.1
        obtain ⟨v, v1, v2⟩ := hK (d + 2) H h.1
        refine zw_c (pc' := 44) (zw_cv (q := 72) (Y := zm_177) W.1 rfl rfl zm_177_t rfl rfl) rfl rfl rfl rfl rfl (v1) ?_
        refine zw_st (n := 1) (k := 2) (f := zp_isI) (pc' := 45) rfl rfl rfl rfl rfl ?_
        refine zw_ld (n := 1) (k := 2) (f := zp_isI) (pc' := 46) rfl rfl zw_g1 rfl rfl ?_
        refine zw_s (pc' := 48) rfl rfl ?_
        refine zw_beq2 (g := 57) (pc' := 51) rfl rfl rfl rfl (rfl : _ = (18 : Int)) (fun hA => ?_) (fun hA => ?_)
        · have q1 := hwd.2.1.mp (v2.symm.trans hA)
          exact yx_ex57 hby hK (zw_gt l0 rfl rfl) (zw_gt l1 rfl rfl) h1 zw_g1 (zg_s (by omega)) ⟨q1.1, Or.inl q1.2⟩ h hF ha hp hg hlv hV hR bk
        · refine zw_ld (n := 1) (k := 2) (f := zp_isI) (pc' := 52) rfl rfl zw_g1 rfl rfl ?_
          refine zw_s (pc' := 54) rfl rfl ?_
          refine zw_bne2 (g := 109) (pc' := 57) rfl rfl rfl rfl (rfl : _ = (19 : Int)) (fun hO2 => ?_) (fun hO2 => ?_)
          · have n1 : ¬ (ys_kd T n p = 3 ∧ (ys_vl T n p = 9 ∨ ys_vl T n p = 8)) := by
              rintro ⟨h8, h9 | h9⟩
              · exact hA (v2.trans (hwd.2.1.mpr ⟨h8, h9⟩))
              · exact hO2 (v2.trans (hwd.2.2.1.mpr ⟨h8, h9⟩))
            exact yx_ex109 hby hK (zw_gt l0 rfl rfl) (zw_gt l1 rfl rfl) h1 h hF ha hp hg hlv hV hR n1 bk
          · have q1 := hwd.2.2.1.mp (v2.symm.trans hO2)
            exact yx_ex57 hby hK (zw_gt l0 rfl rfl) (zw_gt l1 rfl rfl) h1 zw_g1 (zg_s (by omega)) ⟨q1.1, Or.inr q1.2⟩ h hF ha hp hg hlv hV hR bk
      · refine zw_c (pc' := 37) (zw_cv (q := 72) (Y := zm_175) W.1 rfl rfl zm_175_t rfl rfl) rfl rfl rfl rfl rfl (zq_good0 W hg) ?_
        refine zw_beq1 (g := 325) (pc' := 40) rfl rfl rfl (rfl : _ = (0 : Int)) (fun hb => ?_) (fun h9 => absurd h9 (by decide))
        exact yx_exE hby l0 h hF ha (Or.inr (hO.resolve_left (fun h9 => hg h9.1)))

set_option maxRecDepth 8000 in
theorem yx_expr {L : Nat} {σ : Nat → Int32} {d : Nat} {T : Nat → Int} {n p : Nat} {H : zp_H} (hby : ∀ k, k < n → -128 ≤ T k ∧ T k ≤ 127) (hK : zx_KW L σ) (hB : zk_Bs zR zg zJ H) (h0 : (H.2.1 72 23).toInt = 0) (ht : (H.2.1 72 45).toInt + 2 ≤ zx_phi H) (hV : yr_T T n H ∧ yr_k T n p H ∧ p ≤ n) : ∃ X, zp_Call L σ (d + 7) 192 [.inr (.inr (some 73))] H X ∧ (fun X : zp_X => ∃ H1, X = (.inl none, H1) ∧ zk_Bs zR zg zJ H1 ∧ zx_F (H.2.1 72 45).toInt.toNat H H1 ∧ ((H.2.1 72 45).toInt.toNat : Int) ≤ (H1.2.1 72 45).toInt ∧ yFin T n (2, [false], p) H1) X := by
  have W := zR_Wd (zR_dn hB)
  have t0 := zR_fr1 (zR_dn hB) (k := 45) (r := (0, 1600)) rfl rfl
  have t0 : 0 ≤ (H.2.1 72 45).toInt ∧ _ := t0
  have pH := zx_phi_le hB
  refine zw_met zm_192_t rfl rfl ?_
  refine zw_ld (n := 1) (k := 0) (f := zp_isR) (pc' := 1) rfl rfl rfl rfl rfl ?_
  refine zw_c (pc' := 4) (zw_cv (q := 72) (Y := zm_175) W.1 rfl rfl zm_175_t rfl rfl) rfl rfl rfl rfl rfl (zq_good1 W h0) ?_
  refine zw_bne1 (g := 8) (pc' := 7) rfl rfl rfl (rfl : _ = (1 : Int)) (fun hb => ?_) (fun h9 => absurd h9 (by decide))
  refine zw_ld (n := 1) (k := 0) (f := zp_isR) (pc' := 9) rfl rfl rfl rfl rfl ?_
  refine zw_s (pc' := 10) rfl rfl ?_
  refine zw_pI (q := 72) (pc' := 13) W rfl rfl rfl rfl rfl rfl ?_
  refine zw_ld (n := 1) (k := 0) (f := zp_isR) (pc' := 14) rfl rfl rfl rfl rfl ?_
  refine zw_s (pc' := 15) rfl rfl ?_
  refine zw_pI (q := 72) (pc' := 18) W rfl rfl rfl rfl rfl rfl ?_
  refine zw_ld (n := 1) (k := 0) (f := zp_isR) (pc' := 19) rfl rfl rfl rfl rfl ?_
  have hS : zx_S (H.2.1 72 45).toInt.toNat 0 1 (zw_I (zw_I H 72 46 (Int32.ofInt 0)) 72 47 (Int32.ofInt 0)) := by
    generalize hK9 : zw_I (zw_I H 72 46 (Int32.ofInt 0)) 72 47 (Int32.ofInt 0) = K
    have b0 := zR_dn hB
    have b1 := zR_putf (k := 46) (x := Int32.ofInt 0) b0 (fun r hr => by cases hr; exact ⟨by decide, by decide⟩) rfl (zJ_I rfl b0.2.2.2.2.2.2.2)
    have b2 := zR_putf (k := 47) (x := Int32.ofInt 0) b1 (fun r hr => by cases hr; exact ⟨by decide, by decide⟩) rfl (zJ_I rfl b1.2.2.2.2.2.2.2)
    rw [hK9] at b2
    have f : ∀ k, Nat.beq k 46 = false → Nat.beq k 47 = false → K.2.1 72 k = H.2.1 72 k := fun k hk hk2 => by rw [← hK9]; exact zw_ne (zw_ne rfl (by rw [hk]; rfl)) (by rw [hk2]; rfl)
    have f46 : K.2.1 72 46 = Int32.ofInt 0 := by rw [← hK9]; exact zw_ne zw_eq rfl
    have f47 : K.2.1 72 47 = Int32.ofInt 0 := by rw [← hK9]; exact zw_eq
    have e0 : (Int32.ofInt 0).toInt = 0 := rfl
    have hphi : zx_phi K = zx_phi H := zx_phi_e (f 27 rfl rfl) (f 28 rfl rfl)
    refine ⟨zR_up b2 ?_, by rw [f 45 rfl rfl, f46, e0]; omega, by rw [f46, e0]; omega, fun _ => ⟨by rw [hphi, f 45 rfl rfl, f46, e0]; omega, by rw [hphi, f46, e0]; omega, ?_, ?_, 0, ?_⟩⟩
    · have c := zR_cn hB
      unfold zR_cc
      rw [f 23 rfl rfl, f 34 rfl rfl, f 35 rfl rfl]
      exact c
    · rw [f46, f47, e0]; rfl
    · rw [f46, e0]
      intro i hi
      exact absurd hi (Nat.not_lt_zero _)
    · rw [f46, f 45 rfl rfl, e0]; rfl
  have hF : zx_F (H.2.1 72 45).toInt.toNat H (zw_I (zw_I H 72 46 (Int32.ofInt 0)) 72 47 (Int32.ofInt 0)) := ⟨zk_Fr_I (zk_Fr_I (zk_Fr_r H) rfl rfl) rfl rfl, fun i _ => zw_ne (zw_ne rfl rfl) rfl⟩
  have hph : zx_phi (zw_I (zw_I H 72 46 (Int32.ofInt 0)) 72 47 (Int32.ofInt 0)) = zx_phi H := zx_phi_e (zw_ne (zw_ne rfl rfl) rfl) (zw_ne (zw_ne rfl rfl) rfl)
  have e45 : (zw_I (zw_I H 72 46 (Int32.ofInt 0)) 72 47 (Int32.ofInt 0)).2.1 72 45 = H.2.1 72 45 := zw_ne (zw_ne rfl rfl) rfl
  have hVs : yV T n [] p (zw_I (zw_I H 72 46 (Int32.ofInt 0)) 72 47 (Int32.ofInt 0)) := by
    refine ⟨yr_T_I (yr_T_I hV.1 rfl) rfl, yr_k_c (fun k hk => zw_ne (zw_ne rfl ?_) ?_) rfl hV.2.1, hV.2.2, congrArg Int32.toInt zw_eq, trivial⟩
    · rcases (show k = 27 ∨ k = 28 ∨ k = 29 ∨ k = 30 ∨ k = 31 ∨ k = 32 by omega) with rfl | rfl | rfl | rfl | rfl | rfl <;> rfl
    · rcases (show k = 27 ∨ k = 28 ∨ k = 29 ∨ k = 30 ∨ k = 31 ∨ k = 32 by omega) with rfl | rfl | rfl | rfl | rfl | rfl <;> rfl
  have hg0 : ((zw_I (zw_I H 72 46 (Int32.ofInt 0)) 72 47 (Int32.ofInt 0)).2.1 72 23).toInt = 0 := (congrArg Int32.toInt (zw_ne (zw_ne rfl rfl) rfl)).trans h0
  obtain ⟨_, c1, K, rfl, c2, c3, c4, c5, c6⟩ := yx_deeper (L := L) (σ := σ) (d := d + 3) hby hS hg0 hVs
  rw [e45] at c5
  have WK := zR_Wd (zR_dn c2.1)
  obtain ⟨cg, _, cV⟩ := c6.resolve_right (fun h9 => h9.1 (by decide))
  obtain ⟨_, d1, R, rfl, d2, d3, d4, d5, d6, d7⟩ := yx_operand (L := L) (σ := σ) (d := d) (y := Int32.ofInt 1) hby hK c2 (by omega) cg cV (List.cons_ne_nil _ _)
  rw [if_neg (by decide)] at d7
  have WR := zR_Wd (zR_dn d2.1)
  refine zw_cn (pc' := 22) (zw_cv (q := 72) (Y := zm_193) W.1 rfl rfl zm_193_t rfl rfl) rfl rfl rfl rfl rfl (c1) ?_
  refine zw_ld (n := 1) (k := 0) (f := zp_isR) (pc' := 23) rfl rfl rfl rfl rfl ?_
  refine zw_s (pc' := 24) rfl rfl ?_
  refine zw_cn (pc' := 27) (zw_cv (q := 72) (Y := zm_195) WK.1 rfl rfl zm_195_t rfl rfl) rfl rfl rfl rfl rfl (d1) ?_
  refine zw_s (pc' := 28) rfl rfl ?_
  refine zw_st (n := 1) (k := 1) (f := zp_isI) (pc' := 29) rfl rfl rfl rfl rfl ?_
  exact yx_exL hby hK _ R _ _ rfl (zw_gt rfl rfl rfl) zw_g1 d2 (zx_F_t hF (zx_F_t c3 d3)) d5 (by omega) (Or.inl ⟨by decide, d7⟩)
end
