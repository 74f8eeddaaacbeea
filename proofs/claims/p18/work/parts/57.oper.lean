/-! ===== the reference reads an expression: an operand ===== -/
def zm_195 : za_MI := (yX12_operand, prog_14_method_32_code, 5, none, 12, 0, 0, [], za_i195)
theorem zm_195_t : za_MT 195 = some zm_195 := rfl
theorem zx_opE {L : Nat} {σ : Nat → Int32} {d a : Nat} {H0 : zp_H} {H : zp_H} {lv : zp_LV} (hK : zx_KW L σ) (l0 : zp_get lv 0 = some (.inr (.inr (some 73)))) (h : zx_S a 0 0 H) (hF : zx_F a H0 H) (ha : (a : Int) ≤ (H.2.1 72 45).toInt) (hp : zx_phi H0 ≤ zx_phi H) : zs_Safe L σ (fun X => ∃ H1, X = (.inl none, H1) ∧ zx_S a 1 0 H1 ∧ zx_F a H0 H1 ∧ ((H1.2.1 72 23).toInt = 0 → zx_phi H0 + 2 ≤ zx_phi H1) ∧ (a : Int) ≤ (H1.2.1 72 45).toInt ∧ zx_phi H0 ≤ zx_phi H1) zm_195 [] (d + 5) (120, lv, [], H, (0, 0)) := by
  have W := zR_Wd (zR_dn h.1)
  obtain ⟨_, c1, H1, rfl, c2, c3, c4, c5, c6⟩ := zx_part (L := L) (σ := σ) (d := d) hK h ha
  refine zw_ld (n := 1) (k := 0) (f := zp_isR) (pc' := 121) rfl rfl l0 rfl rfl ?_
  refine zw_cn (pc' := 124) (zw_cv (q := 72) (Y := zm_197) W.1 rfl rfl zm_197_t rfl rfl) rfl rfl rfl rfl rfl (c1) ?_
  refine zw_rn rfl rfl ?_
  exact ⟨H1, rfl, c2, zx_F_t hF c3, fun h9 => by have := c4 h9; omega, c5, by omega⟩

theorem zx_opI {L : Nat} {σ : Nat → Int32} {d a : Nat} {H0 : zp_H} {x2 : Int32} (hK : zx_KW L σ) : ∀ (n : Nat) (H : zp_H) (lv : zp_LV) (x4 : Int32), (1401 - zx_phi H).toNat = n → zp_get lv 0 = some (.inr (.inr (some 73))) → zp_get lv 2 = some (.inl x2) → zp_get lv 4 = some (.inl x4) → zx_S a 0 0 H → zx_F a H0 H → (a : Int) ≤ (H.2.1 72 45).toInt → zx_phi H0 ≤ zx_phi H → (∀ (H1 : zp_H) (lv1 : zp_LV), zp_get lv1 0 = some (.inr (.inr (some 73))) → zp_get lv1 2 = some (.inl x2) → zx_S a 0 0 H1 → zx_F a H0 H1 → (a : Int) ≤ (H1.2.1 72 45).toInt → zx_phi H ≤ zx_phi H1 → zs_Safe L σ (fun X => ∃ H1, X = (.inl none, H1) ∧ zx_S a 1 0 H1 ∧ zx_F a H0 H1 ∧ ((H1.2.1 72 23).toInt = 0 → zx_phi H0 + 2 ≤ zx_phi H1) ∧ (a : Int) ≤ (H1.2.1 72 45).toInt ∧ zx_phi H0 ≤ zx_phi H1) zm_195 [] (d + 5) (75, lv1, [], H1, (0, 0))) → zs_Safe L σ (fun X => ∃ H1, X = (.inl none, H1) ∧ zx_S a 1 0 H1 ∧ zx_F a H0 H1 ∧ ((H1.2.1 72 23).toInt = 0 → zx_phi H0 + 2 ≤ zx_phi H1) ∧ (a : Int) ≤ (H1.2.1 72 45).toInt ∧ zx_phi H0 ≤ zx_phi H1) zm_195 [] (d + 5) (18, lv, [], H, (0, 0)) := by
  intro n
  induction n using Nat.strongRecOn with
  | ind n ih =>
    intro H lv x4 hn l0 l2 l4 h hF ha hp hk
    have W := zR_Wd (zR_dn h.1)
    refine zw_ld (n := 1) (k := 0) (f := zp_isR) (pc' := 19) rfl rfl l0 rfl rfl ?_
    by_cases hg : (H.2.1 72 23).toInt = 0
    · refine zw_c (pc' := 22) (zw_cv (q := 72) (Y := zm_175) W.1 rfl rfl zm_175_t rfl rfl) rfl rfl rfl rfl rfl (zq_good1 W hg) ?_
      refine zw_beq1 (g := 75) (pc' := 25) rfl rfl rfl (rfl : _ = (1 : Int)) (fun h9 => absurd h9 (by decide)) (fun hb => ?_)
      refine zw_ld (n := 1) (k := 2) (f := zp_isI) (pc' := 26) rfl rfl l2 rfl rfl ?_
      refine zw_beq1 (g := 75) (pc' := 29) rfl rfl rfl rfl (fun h2 => ?_) (fun h2 => ?_)
      · exact hk H lv l0 l2 h hF ha (Int.le_refl _)
      · refine zw_ld (n := 1) (k := 0) (f := zp_isR) (pc' := 30) rfl rfl l0 rfl rfl ?_
        obtain ⟨v, v1, v2⟩ := hK (d + 1) H h.1
        refine zw_c (pc' := 33) (zw_cv (q := 72) (Y := zm_177) W.1 rfl rfl zm_177_t rfl rfl) rfl rfl rfl rfl rfl (v1) ?_
        refine zw_s (pc' := 35) rfl rfl ?_
        refine zw_bne2 (g := 75) (pc' := 38) rfl rfl rfl rfl (rfl : _ = (20 : Int)) (fun h3 => ?_) (fun h3 => ?_)
        · exact hk H lv l0 l2 h hF ha (Int.le_refl _)
        · have hs := zg_s (H := H) (by omega)
          refine zw_ld (n := 2) (k := 4) (f := zp_isI) (pc' := 40) rfl rfl l4 rfl rfl ?_
          refine zw_s (pc' := 42) rfl rfl ?_
          refine zw_bne2 (g := 50) (pc' := 45) rfl rfl rfl rfl (rfl : _ = (6 : Int)) (fun h4 => ?_) (fun h4 => ?_)
          · refine zw_ii (pc' := 53) rfl l4 rfl rfl ?_
            refine zw_ld (n := 1) (k := 0) (f := zp_isR) (pc' := 54) rfl rfl (zw_gt l0 rfl rfl) rfl rfl ?_
            refine zw_c (pc' := 57) (zw_cv (q := 72) (Y := zm_175) W.1 rfl rfl zm_175_t rfl rfl) rfl rfl rfl rfl rfl (zq_good1 W hg) ?_
            refine zw_bne1 (g := 63) (pc' := 60) rfl rfl rfl (rfl : _ = (1 : Int)) (fun hb => ?_) (fun h9 => absurd h9 (by decide))
            obtain ⟨k1, k2, k3, k4⟩ := zx_wait (y := Int32.ofInt 3) h hg (by omega) (by decide)
            have hT := k4 0 0 rfl rfl
            have f45 : (zx_wt H (Int32.ofInt 3)).2.1 72 45 = H.2.1 72 45 := zx_wt_f 45 rfl
            obtain ⟨t0, w0⟩ := zx_top h
            have wb := h.2.2.1
            refine zw_ld (n := 1) (k := 0) (f := zp_isR) (pc' := 64) rfl rfl (zw_gt l0 rfl rfl) rfl rfl ?_
            refine zw_s (pc' := 65) rfl rfl ?_
            refine zw_cn (pc' := 68) (zw_cv (q := 72) (Y := zm_196) W.1 rfl rfl zm_196_t rfl rfl) rfl rfl rfl rfl rfl (zq_waits W ⟨w0, by show _ < ((800 : Nat) : Int); omega⟩) ?_
            obtain ⟨K, c1, c2, c3, c4, c5, c6⟩ := zx_T_goes (L := L) (σ := σ) (d := d + 3) hT
            have pK := zx_phi_le c2.1
            refine zw_ld (n := 1) (k := 0) (f := zp_isR) (pc' := 69) rfl rfl (zw_gt l0 rfl rfl) rfl rfl ?_
            refine zw_cn (pc' := 72) (zw_cv (q := 72) (Y := zm_171) W.1 rfl rfl zm_171_t rfl rfl) rfl rfl rfl rfl rfl (c1) ?_
            refine zw_s (pc' := 18) rfl rfl ?_
            refine ih (1401 - zx_phi K).toNat (by omega) K _ _ rfl (zw_gt l0 rfl rfl) (zw_gt l2 rfl rfl) zw_g1 c2 (zx_F_t (zx_F_t hF k1) c3) (by rw [c6, f45]; exact ha) (by omega) ?_
            intro H1 lv1 m0 m2 mS mF ma mp
            exact hk H1 lv1 m0 m2 mS mF ma (by omega)
          · refine zw_ld (n := 1) (k := 0) (f := zp_isR) (pc' := 46) rfl rfl l0 rfl rfl ?_
            refine zw_s (pc' := 47) rfl rfl ?_
            obtain ⟨K, c1, c2, c3, c4, c5, c6, c7⟩ := zx_wrong (L := L) (σ := σ) (d := d + 4) (y := Int32.ofInt 2) h (by decide)
            have WK := zR_Wd (zR_dn (c3 0 0).1)
            refine zw_cn (pc' := 50) (zw_cv (q := 72) (Y := zm_180) W.1 rfl rfl zm_180_t rfl rfl) rfl rfl rfl rfl rfl (c1) ?_
            refine zw_ii (pc' := 53) rfl l4 rfl rfl ?_
            refine zw_ld (n := 1) (k := 0) (f := zp_isR) (pc' := 54) rfl rfl (zw_gt l0 rfl rfl) rfl rfl ?_
            refine zw_c (pc' := 57) (zw_cv (q := 72) (Y := zm_175) WK.1 rfl rfl zm_175_t rfl rfl) rfl rfl rfl rfl rfl (zq_good0 (H := K) WK c2) ?_
            refine zw_bne1 (g := 63) (pc' := 60) rfl rfl rfl (rfl : _ = (0 : Int)) (fun h9 => absurd h9 (by decide)) (fun hb => ?_)
            refine zw_s (pc' := 18) rfl rfl ?_
            refine zw_ld (n := 1) (k := 0) (f := zp_isR) (pc' := 19) rfl rfl (zw_gt l0 rfl rfl) rfl rfl ?_
            refine zw_c (pc' := 22) (zw_cv (q := 72) (Y := zm_175) WK.1 rfl rfl zm_175_t rfl rfl) rfl rfl rfl rfl rfl (zq_good0 (H := K) WK c2) ?_
            refine zw_beq1 (g := 75) (pc' := 25) rfl rfl rfl (rfl : _ = (0 : Int)) (fun hb => ?_) (fun h9 => absurd h9 (by decide))
            exact hk K _ (zw_gt l0 rfl rfl) (zw_gt l2 rfl rfl) (c3 0 0) (zx_F_t hF c4) (by omega) (by omega)
    · refine zw_c (pc' := 22) (zw_cv (q := 72) (Y := zm_175) W.1 rfl rfl zm_175_t rfl rfl) rfl rfl rfl rfl rfl (zq_good0 W hg) ?_
      refine zw_beq1 (g := 75) (pc' := 25) rfl rfl rfl (rfl : _ = (0 : Int)) (fun hb => ?_) (fun h9 => absurd h9 (by decide))
      exact hk H lv l0 l2 h hF ha (Int.le_refl _)

theorem zx_opO {L : Nat} {σ : Nat → Int32} {d a : Nat} {H0 : zp_H} (hK : zx_KW L σ) : ∀ (n : Nat) (H : zp_H) (lv : zp_LV) (x2 x3 : Int32), 2 * (1401 - zx_phi H).toNat + (if x3.toInt = 0 then 0 else 1) = n → zp_get lv 0 = some (.inr (.inr (some 73))) → zp_get lv 2 = some (.inl x2) → zp_get lv 3 = some (.inl x3) → zx_S a 0 0 H → zx_F a H0 H → (a : Int) ≤ (H.2.1 72 45).toInt → zx_phi H0 ≤ zx_phi H → zs_Safe L σ (fun X => ∃ H1, X = (.inl none, H1) ∧ zx_S a 1 0 H1 ∧ zx_F a H0 H1 ∧ ((H1.2.1 72 23).toInt = 0 → zx_phi H0 + 2 ≤ zx_phi H1) ∧ (a : Int) ≤ (H1.2.1 72 45).toInt ∧ zx_phi H0 ≤ zx_phi H1) zm_195 [] (d + 5) (4, lv, [], H, (0, 0)) := by
  intro n
  induction n using Nat.strongRecOn with
  | ind n ih =>
    intro H lv x2 x3 hn l0 l2 l3 h hF ha hp
    have W := zR_Wd (zR_dn h.1)
    have pH := zx_phi_le h.1
    refine zw_ld (n := 1) (k := 3) (f := zp_isI) (pc' := 5) rfl rfl l3 rfl rfl ?_
    refine zw_beq1 (g := 120) (pc' := 8) rfl rfl rfl rfl (fun h3 => ?_) (fun h3 => ?_)
    · exact zx_opE hK l0 h hF ha hp
    · rw [if_neg h3] at hn
      refine zw_ld (n := 1) (k := 0) (f := zp_isR) (pc' := 9) rfl rfl l0 rfl rfl ?_
      by_cases hg : (H.2.1 72 23).toInt = 0
      · refine zw_c (pc' := 12) (zw_cv (q := 72) (Y := zm_175) W.1 rfl rfl zm_175_t rfl rfl) rfl rfl rfl rfl rfl (zq_good1 W hg) ?_
        refine zw_beq1 (g := 120) (pc' := 15) rfl rfl rfl (rfl : _ = (1 : Int)) (fun h9 => absurd h9 (by decide)) (fun hb => ?_)
        refine zw_s (pc' := 16) rfl rfl ?_
        refine zw_st (n := 2) (k := 4) (f := zp_isI) (pc' := 18) rfl rfl rfl rfl rfl ?_
        refine zx_opI hK _ H _ _ rfl (zw_gt l0 rfl rfl) (zw_gt l2 rfl rfl) zw_g1 h hF ha hp ?_
        clear l0 l2 l3
        intro K lv l0 l2 k1 k2 k3 k4
        have WK := zR_Wd (zR_dn k1.1)
        have pK := zx_phi_le k1.1
        refine zw_ld (n := 1) (k := 0) (f := zp_isR) (pc' := 76) rfl rfl l0 rfl rfl ?_
        by_cases hK0 : (K.2.1 72 23).toInt = 0
        · refine zw_c (pc' := 79) (zw_cv (q := 72) (Y := zm_175) WK.1 rfl rfl zm_175_t rfl rfl) rfl rfl rfl rfl rfl (zq_good1 WK hK0) ?_
          refine zw_beq1 (g := 95) (pc' := 82) rfl rfl rfl (rfl : _ = (1 : Int)) (fun h9 => absurd h9 (by decide)) (fun hb => ?_)
          refine zw_ld (n := 1) (k := 0) (f := zp_isR) (pc' := 83) rfl rfl l0 rfl rfl ?_
          refine zw_s (pc' := 85) rfl rfl ?_
          by_cases hsg : (K.2.1 72 28).toInt = 3 ∧ (K.2.1 72 32).toInt = (Int32.ofInt 40).toInt
          · refine zw_c (pc' := 88) (zw_cv (q := 72) (Y := zm_194) WK.1 rfl rfl zm_194_t rfl rfl) rfl rfl rfl rfl rfl (zq_sign1 WK hsg) ?_
            refine zw_beq1 (g := 95) (pc' := 91) rfl rfl rfl (rfl : _ = (1 : Int)) (fun h9 => absurd h9 (by decide)) (fun hb => ?_)
            refine zw_s (pc' := 92) rfl rfl ?_
            refine zw_s (pc' := 96) rfl rfl ?_
            refine zw_st (n := 1) (k := 3) (f := zp_isI) (pc' := 97) rfl rfl rfl rfl rfl ?_
            refine zw_ld (n := 1) (k := 3) (f := zp_isI) (pc' := 98) rfl rfl zw_g1 rfl rfl ?_
            refine zw_beq1 (g := 117) (pc' := 101) rfl rfl rfl (rfl : _ = (1 : Int)) (fun h9 => absurd h9 (by decide)) (fun hb => ?_)
            obtain ⟨m1, m2, m3, m4⟩ := zx_wait (y := Int32.ofInt 14) k1 hK0 (by omega) (by decide)
            have hT := m4 0 1 rfl rfl
            have f45 : (zx_wt K (Int32.ofInt 14)).2.1 72 45 = K.2.1 72 45 := zx_wt_f 45 rfl
            obtain ⟨t0, w0⟩ := zx_top k1
            have wb := k1.2.2.1
            refine zw_ld (n := 1) (k := 0) (f := zp_isR) (pc' := 102) rfl rfl (zw_gt l0 rfl rfl) rfl rfl ?_
            refine zw_s (pc' := 104) rfl rfl ?_
            refine zw_cn (pc' := 107) (zw_cv (q := 72) (Y := zm_196) WK.1 rfl rfl zm_196_t rfl rfl) rfl rfl rfl rfl rfl (zq_waits WK ⟨w0, by show _ < ((800 : Nat) : Int); omega⟩) ?_
            obtain ⟨K2, c1, c2, c3, c4, c5, c6⟩ := zx_T_goes (L := L) (σ := σ) (d := d + 3) hT
            have pK2 := zx_phi_le c2.1
            refine zw_ld (n := 1) (k := 0) (f := zp_isR) (pc' := 108) rfl rfl (zw_gt l0 rfl rfl) rfl rfl ?_
            refine zw_cn (pc' := 111) (zw_cv (q := 72) (Y := zm_171) WK.1 rfl rfl zm_171_t rfl rfl) rfl rfl rfl rfl rfl (c1) ?_
            obtain ⟨_, e1, K3, rfl, e2, e3, e4, e5⟩ := zx_deeper (L := L) (σ := σ) (d := d + 2) c2
            have WK2 := zR_Wd (zR_dn c2.1)
            refine zw_ld (n := 1) (k := 0) (f := zp_isR) (pc' := 112) rfl rfl (zw_gt l0 rfl rfl) rfl rfl ?_
            refine zw_cn (pc' := 115) (zw_cv (q := 72) (Y := zm_193) WK2.1 rfl rfl zm_193_t rfl rfl) rfl rfl rfl rfl rfl (e1) ?_
            refine zw_s (pc' := 116) rfl rfl ?_
            refine zw_st (n := 1) (k := 2) (f := zp_isI) (pc' := 117) rfl rfl rfl rfl rfl ?_
            refine zw_s (pc' := 4) rfl rfl ?_
            exact ih _ (by rw [if_neg (by decide)]; omega) K3 _ _ _ rfl (zw_gt (zw_gt l0 rfl rfl) rfl rfl) zw_g1 (zw_gt zw_g1 rfl rfl) e2 (zx_F_t (zx_F_t (zx_F_t k2 m1) c3) e3) (by rw [e5, c6, f45]; exact k3) (by omega)
          · refine zw_c (pc' := 88) (zw_cv (q := 72) (Y := zm_194) WK.1 rfl rfl zm_194_t rfl rfl) rfl rfl rfl rfl rfl (zq_sign0 WK hsg) ?_
            refine zw_beq1 (g := 95) (pc' := 91) rfl rfl rfl (rfl : _ = (0 : Int)) (fun hb => ?_) (fun h9 => absurd h9 (by decide))
            refine zw_s (pc' := 96) rfl rfl ?_
            refine zw_st (n := 1) (k := 3) (f := zp_isI) (pc' := 97) rfl rfl rfl rfl rfl ?_
            refine zw_ld (n := 1) (k := 3) (f := zp_isI) (pc' := 98) rfl rfl zw_g1 rfl rfl ?_
            refine zw_beq1 (g := 117) (pc' := 101) rfl rfl rfl (rfl : _ = (0 : Int)) (fun hb => ?_) (fun h9 => absurd h9 (by decide))
            refine zw_s (pc' := 4) rfl rfl ?_
            exact ih _ (by rw [if_pos (by decide)]; omega) K _ _ _ rfl (zw_gt l0 rfl rfl) (zw_gt l2 rfl rfl) zw_g1 k1 k2 k3 (by omega)
        · refine zw_c (pc' := 79) (zw_cv (q := 72) (Y := zm_175) WK.1 rfl rfl zm_175_t rfl rfl) rfl rfl rfl rfl rfl (zq_good0 WK hK0) ?_
          refine zw_beq1 (g := 95) (pc' := 82) rfl rfl rfl (rfl : _ = (0 : Int)) (fun hb => ?_) (fun h9 => absurd h9 (by decide))
          refine zw_s (pc' := 96) rfl rfl ?_
          refine zw_st (n := 1) (k := 3) (f := zp_isI) (pc' := 97) rfl rfl rfl rfl rfl ?_
          refine zw_ld (n := 1) (k := 3) (f := zp_isI) (pc' := 98) rfl rfl zw_g1 rfl rfl ?_
          refine zw_beq1 (g := 117) (pc' := 101) rfl rfl rfl (rfl : _ = (0 : Int)) (fun hb => ?_) (fun h9 => absurd h9 (by decide))
          refine zw_s (pc' := 4) rfl rfl ?_
          exact ih _ (by rw [if_pos (by decide)]; omega) K _ _ _ rfl (zw_gt l0 rfl rfl) (zw_gt l2 rfl rfl) zw_g1 k1 k2 k3 (by omega)
      · refine zw_c (pc' := 12) (zw_cv (q := 72) (Y := zm_175) W.1 rfl rfl zm_175_t rfl rfl) rfl rfl rfl rfl rfl (zq_good0 W hg) ?_
        refine zw_beq1 (g := 120) (pc' := 15) rfl rfl rfl (rfl : _ = (0 : Int)) (fun hb => ?_) (fun h9 => absurd h9 (by decide))
        exact zx_opE hK l0 h hF ha hp

theorem zx_operand {L : Nat} {σ : Nat → Int32} {d a : Nat} {H : zp_H} {y : Int32} (hK : zx_KW L σ) (h : zx_S a 0 0 H) (ha : (a : Int) ≤ (H.2.1 72 45).toInt) : ∃ X, zp_Call L σ (d + 6) 195 [.inr (.inr (some 73)), .inl y] H X ∧ (fun X => ∃ H1, X = (.inl none, H1) ∧ zx_S a 1 0 H1 ∧ zx_F a H H1 ∧ ((H1.2.1 72 23).toInt = 0 → zx_phi H + 2 ≤ zx_phi H1) ∧ (a : Int) ≤ (H1.2.1 72 45).toInt ∧ zx_phi H ≤ zx_phi H1) X := by
  refine zw_met zm_195_t rfl rfl ?_
  refine zw_ld (n := 1) (k := 1) (f := zp_isI) (pc' := 1) rfl rfl rfl rfl rfl ?_
  refine zw_st (n := 1) (k := 2) (f := zp_isI) (pc' := 2) rfl rfl rfl rfl rfl ?_
  refine zw_s (pc' := 3) rfl rfl ?_
  refine zw_st (n := 1) (k := 3) (f := zp_isI) (pc' := 4) rfl rfl rfl rfl rfl ?_
  exact zx_opO hK _ H _ _ _ rfl (zw_gt (zw_gt rfl rfl rfl) rfl rfl) (zw_gt zw_g1 rfl rfl) zw_g1 h (zx_F_r H) ha (Int.le_refl _)
