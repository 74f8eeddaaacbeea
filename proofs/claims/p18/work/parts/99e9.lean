/-! ===== the reference: pilots ===== -/
def zm_191 : za_MI := (yX12_readsPilot, prog_14_method_40_code, 2, none, 12, 0, 0, [], za_i191)
theorem zm_191_t : za_MT 191 = some zm_191 := rfl
set_option maxHeartbeats 4000000 in
set_option maxRecDepth 8000 in
theorem yx_piT {L : Nat} {σ : Nat → Int32} {d : Nat} {T : Nat → Int} {n p : Nat} {dd : yLD} {H : zp_H} {lv : zp_LV} {x1 xc xh : Int32} (hB : zk_Bs zR zg zJ H) (hs : yS T n (0, [], 0, 0, 0, dd, p) (fun q => (50, [], 0, 0, 0, yWpi dd xc.toInt xh.toInt x1, q)) H) (hD : yDr dd H) (hX : xXr T n [610 + (dd.1 6).toNat, 600 + (dd.1 6).toNat] dd H) (c600 : (H.2.1 87 (3 * (dd.1 6).toNat)).toInt = xc.toInt) (c610 : (H.2.1 87 (3 * (dd.1 6).toNat + 1)).toInt = xh.toInt) (h4 : 0 ≤ dd.1 6 ∧ dd.1 6 < 4) (l0 : zp_get lv 0 = some (.inr (.inr (some 73)))) (l1 : zp_get lv 1 = some (.inl x1)) : zs_Safe L σ (yRr T n dd p) zm_191 [] (d + 5) (153, lv, [], H, (0, 0)) := by
  have W := zR_Wd (zR_dn hB)
  have f40 : (H.2.1 72 40).toInt = dd.1 6 := hD.2.2.2.2.2.1
  have e2 : (Int32.ofInt 3 * H.2.1 72 40 + Int32.ofInt 2).toInt = 3 * (H.2.1 72 40).toInt + 2 := y_ix (by decide) (by omega) (by decide)
  have b2 : zk_Bs zR zg zJ (zw_I H 87 (Int32.ofInt 3 * H.2.1 72 40 + Int32.ofInt 2).toInt.toNat (zp_nar 0 x1)) := yB_872 (x := x1) hB (by omega)
  have S2 := yS_a (p := 87) (k := (Int32.ofInt 3 * H.2.1 72 40 + Int32.ofInt 2).toInt.toNat) (x := zp_nar 0 x1) (by decide) hs
  have D2 := yDr_a (p := 87) (k := (Int32.ofInt 3 * H.2.1 72 40 + Int32.ofInt 2).toInt.toNat) (x := zp_nar 0 x1) (by decide) hD
  have p4 : (dd.1 6).toNat < 4 := by omega
  have l620 : yRl (620 + (dd.1 6).toNat) = (87, (Int32.ofInt 3 * H.2.1 72 40 + Int32.ofInt 2).toInt.toNat) := by
    rw [yQ_620 (by omega), e2, f40]
    exact congrArg (Prod.mk _) (by omega)
  have X2 := xXr_w (x := zp_nar 0 x1) yRl_inj (by omega) l620 hX
  have X3 : xXr T n [] (yWpi dd xc.toInt xh.toInt x1) (zw_I H 87 (Int32.ofInt 3 * H.2.1 72 40 + Int32.ofInt 2).toInt.toNat (zp_nar 0 x1)) := by
    have X4 := xXr_D (i0 := 620 + (dd.1 6).toNat) (v := x1.toInt) (xXr_D (i0 := 610 + (dd.1 6).toNat) (v := xh.toInt) (xXr_D (i0 := 600 + (dd.1 6).toNat) (v := xc.toInt) (xXr_k (k := 6) (v := dd.1 6 + 1) (by decide) X2)))
    refine xXr_C (i0 := 600 + (dd.1 6).toNat) (xXr_C (i0 := 610 + (dd.1 6).toNat) (xXr_C (i0 := 620 + (dd.1 6).toNat) (xXr_s (fun i h9 => ?_) X4) ?_) ?_) ?_
    · simp only [List.mem_cons, List.not_mem_nil, or_false] at h9 ⊢
      omega
    · rw [l620, show (yWpi dd xc.toInt xh.toInt x1).1 (620 + (dd.1 6).toNat) = x1.toInt from yW_e]
      exact congrArg Int32.toInt zw_eq
    · rw [yQ_610 (by omega), show (yWpi dd xc.toInt xh.toInt x1).1 (610 + (dd.1 6).toNat) = xh.toInt from (yW_n (by omega)).trans yW_e]
      rw [y_ne (fun h9 => by have := h9.2; omega)]
      exact c610
    · rw [yQ_600 (by omega), show (yWpi dd xc.toInt xh.toInt x1).1 (600 + (dd.1 6).toNat) = xc.toInt from (yW_n (by omega)).trans ((yW_n (by omega)).trans yW_e)]
      rw [y_ne (fun h9 => by have := h9.2; omega)]
      exact c600
  refine zw_ld (n := 1) (k := 0) (f := zp_isR) (pc' := 154) rfl rfl l0 rfl rfl ?_
  refine zw_gR (q := 72) (pc' := 157) W rfl rfl rfl rfl (W.2 72 56 _ rfl) rfl ?_
  refine zw_s (pc' := 158) rfl rfl ?_
  refine zw_ld (n := 1) (k := 0) (f := zp_isR) (pc' := 159) rfl rfl l0 rfl rfl ?_
  refine zw_gI (q := 72) (pc' := 162) W rfl rfl rfl rfl rfl rfl ?_
  refine zw_imul (pc' := 163) rfl rfl ?_
  refine zw_s (pc' := 164) rfl rfl ?_
  refine zw_iadd (pc' := 165) rfl rfl ?_
  refine zw_ld (n := 1) (k := 1) (f := zp_isI) (pc' := 166) rfl rfl l1 rfl rfl ?_
  refine zw_is (q := 87) (pc' := 167) W rfl rfl (by decide) (⟨by omega, by show _ < ((12 : Nat) : Int); omega⟩) rfl ?_
  generalize zw_I H 87 (Int32.ofInt 3 * H.2.1 72 40 + Int32.ofInt 2).toInt.toNat (zp_nar 0 x1) = K at b2 S2 D2 X3 ⊢
  have WK := zR_Wd (zR_dn b2)
  have k40 : (K.2.1 72 40).toInt = dd.1 6 := D2.2.2.2.2.2.1
  have e1 : (K.2.1 72 40 + Int32.ofInt 1).toInt = (K.2.1 72 40).toInt + 1 := zw_p1 (by omega)
  refine zw_ld (n := 1) (k := 0) (f := zp_isR) (pc' := 168) rfl rfl l0 rfl rfl ?_
  by_cases hg : (K.2.1 72 23).toInt = 0
  · refine zw_c (pc' := 171) (zw_cv (q := 72) (Y := zm_175) WK.1 rfl rfl zm_175_t rfl rfl) rfl rfl rfl rfl rfl (zq_good1 WK hg) ?_
    refine zw_beq1 (g := 184) (pc' := 174) rfl rfl rfl (rfl : _ = (1 : Int)) (fun h9 => absurd h9 (by decide)) (fun hb => ?_)
    refine zw_ld (n := 1) (k := 0) (f := zp_isR) (pc' := 175) rfl rfl l0 rfl rfl ?_
    refine zw_s (pc' := 176) rfl rfl ?_
    refine zw_gI (q := 72) (pc' := 179) WK rfl rfl rfl rfl rfl rfl ?_
    refine zw_s (pc' := 180) rfl rfl ?_
    refine zw_iadd (pc' := 181) rfl rfl ?_
    refine zw_pI (q := 72) (pc' := 184) WK rfl rfl rfl rfl rfl rfl ?_
    refine zw_rn rfl rfl ?_
    exact ⟨_, rfl, yB_g b2 (fun r hr => by cases hr; exact ⟨by show (0 : Int) ≤ _; omega, by show _ ≤ (4 : Int); omega⟩) rfl rfl (by decide), _, yS_f (by decide) S2, fun _ => ⟨yDr_W (by omega) (yDr_W (by omega) (yDr_W (by omega) (yDr_40 D2 (by omega)))), xXr_o (by decide) X3⟩⟩
  · refine zw_c (pc' := 171) (zw_cv (q := 72) (Y := zm_175) WK.1 rfl rfl zm_175_t rfl rfl) rfl rfl rfl rfl rfl (zq_good0 WK hg) ?_
    refine zw_beq1 (g := 184) (pc' := 174) rfl rfl rfl (rfl : _ = (0 : Int)) (fun hb => ?_) (fun h9 => absurd h9 (by decide))
    refine zw_rn rfl rfl ?_
    exact ⟨K, rfl, b2, _, S2, fun h9 => absurd h9 hg⟩

set_option maxHeartbeats 4000000 in
set_option maxRecDepth 8000 in
theorem yx_piL {L : Nat} {σ : Nat → Int32} {d : Nat} {T : Nat → Int} {n p : Nat} {dd : yLD} {xc xh : Int32} (hby : ∀ k, k < n → -128 ≤ T k ∧ T k ≤ 127) (h4 : 0 ≤ dd.1 6 ∧ dd.1 6 < 4) : ∀ (m q : Nat) (H : zp_H) (lv : zp_LV) (x1 : Int32), zk_Bs zR zg zJ H → (H.2.1 72 23).toInt = 0 → yP T n q H → yR2 T n (0, [], 0, 0, 0, dd, p) (22, [], xc.toInt, xh.toInt, x1, dd, q) → yDr dd H → xXr T n [610 + (dd.1 6).toNat, 600 + (dd.1 6).toNat] dd H → (H.2.1 87 (3 * (dd.1 6).toNat)).toInt = xc.toInt → (H.2.1 87 (3 * (dd.1 6).toNat + 1)).toInt = xh.toInt → zp_get lv 0 = some (.inr (.inr (some 73))) → zp_get lv 1 = some (.inl x1) → n - q ≤ m → zs_Safe L σ (yRr T n dd p) zm_191 [] (d + 5) (62, lv, [], H, (0, 0)) := by
  intro m
  induction m with
  | zero =>
    intro q H lv x1 hB hg hP hR hD hX c600 c610 l0 l1 hm
    have W := zR_Wd (zR_dn hB)
    have f38 : (H.2.1 72 38).toInt = dd.1 4 := hD.2.2.2.1
    have k28 : (H.2.1 72 28).toInt = yr_s (ys_kd T n q) := hP.2.1.2.2.1
    have qb := ys_nxb (T := T) hP.2.2
    refine zw_ld (n := 1) (k := 0) (f := zp_isR) (pc' := 63) rfl rfl l0 rfl rfl ?_
    refine zw_c (pc' := 66) (zw_cv (q := 72) (Y := zm_175) W.1 rfl rfl zm_175_t rfl rfl) rfl rfl rfl rfl rfl (zq_good1 W hg) ?_
    refine zw_beq1 (g := 153) (pc' := 69) rfl rfl rfl (rfl : _ = (1 : Int)) (fun h9 => absurd h9 (by decide)) (fun hb => ?_)
    refine zw_ld (n := 1) (k := 0) (f := zp_isR) (pc' := 70) rfl rfl l0 rfl rfl ?_
    refine zw_gI (q := 72) (pc' := 73) W rfl rfl rfl rfl rfl rfl ?_
    refine zw_s (pc' := 74) rfl rfl ?_
    refine zw_bne2 (g := 153) (pc' := 77) rfl rfl rfl rfl (rfl : _ = (2 : Int)) (fun hb => ?_) (fun hb => ?_)
    · have hk : ys_kd T n q ≠ 2 := fun h9 => hb (k28.trans (yr_s_2.mpr h9))
      exact yx_piT (d := d) hB (Or.inl ⟨hg, q, hP, yR2_t hR (yR2_s (yN2_22.trans (if_neg hk)))⟩) hD hX c600 c610 h4 l0 l1
    · have hk : ys_kd T n q = 2 := yr_s_2.mp (k28.symm.trans hb)
      have nm := yr_nm hP.2.2 hP.2.1 hk
      have lt1 := qb.2.2.2 (by omega)
      omega
  | succ m ih =>
    intro q H lv x1 hB hg hP hR hD hX c600 c610 l0 l1 hm
    have W := zR_Wd (zR_dn hB)
    have f38 : (H.2.1 72 38).toInt = dd.1 4 := hD.2.2.2.1
    have k28 : (H.2.1 72 28).toInt = yr_s (ys_kd T n q) := hP.2.1.2.2.1
    have qb := ys_nxb (T := T) hP.2.2
    refine zw_ld (n := 1) (k := 0) (f := zp_isR) (pc' := 63) rfl rfl l0 rfl rfl ?_
    refine zw_c (pc' := 66) (zw_cv (q := 72) (Y := zm_175) W.1 rfl rfl zm_175_t rfl rfl) rfl rfl rfl rfl rfl (zq_good1 W hg) ?_
    refine zw_beq1 (g := 153) (pc' := 69) rfl rfl rfl (rfl : _ = (1 : Int)) (fun h9 => absurd h9 (by decide)) (fun hb => ?_)
    refine zw_ld (n := 1) (k := 0) (f := zp_isR) (pc' := 70) rfl rfl l0 rfl rfl ?_
    refine zw_gI (q := 72) (pc' := 73) W rfl rfl rfl rfl rfl rfl ?_
    refine zw_s (pc' := 74) rfl rfl ?_
    refine zw_bne2 (g := 153) (pc' := 77) rfl rfl rfl rfl (rfl : _ = (2 : Int)) (fun hb => ?_) (fun hb => ?_)
    · have hk : ys_kd T n q ≠ 2 := fun h9 => hb (k28.trans (yr_s_2.mpr h9))
      exact yx_piT (d := d) hB (Or.inl ⟨hg, q, hP, yR2_t hR (yR2_s (yN2_22.trans (if_neg hk)))⟩) hD hX c600 c610 h4 l0 l1
    · have hk : ys_kd T n q = 2 := yr_s_2.mp (k28.symm.trans hb)
      have nm := yr_nm hP.2.2 hP.2.1 hk
      have lt1 := qb.2.2.2 (by omega)
      refine zw_ld (n := 1) (k := 0) (f := zp_isR) (pc' := 78) rfl rfl l0 rfl rfl ?_
      refine zw_gI (q := 72) (pc' := 81) W rfl rfl rfl rfl rfl rfl ?_
      refine zw_s (pc' := 82) rfl rfl ?_
      refine zw_ble2 (g := 93) (pc' := 85) rfl rfl rfl rfl (rfl : _ = (4 : Int)) (fun h4b => ?_) (fun h4b => ?_)
      · have nm : (H.2.1 72 31).toInt = ys_vl T n q ∧ 0 ≤ ys_vl T n q ∧ ys_vl T n q ≤ 9999 := by
          rcases nm with nm | nm
          · omega
          · exact nm.2
        have ev : Int32.ofInt (ys_vl T n q) = H.2.1 72 31 := by rw [← nm.1, Int32.ofInt_toInt]
        refine zw_ld (n := 1) (k := 0) (f := zp_isR) (pc' := 94) rfl rfl l0 rfl rfl ?_
        refine zw_gI (q := 72) (pc' := 97) W rfl rfl rfl rfl rfl rfl ?_
        refine zw_ld (n := 1) (k := 0) (f := zp_isR) (pc' := 98) rfl rfl l0 rfl rfl ?_
        refine zw_gI (q := 72) (pc' := 101) W rfl rfl rfl rfl rfl rfl ?_
        refine zw_blt2 (g := 112) (pc' := 104) rfl rfl rfl rfl rfl (fun h5 => ?_) (fun h5 => ?_)
        · refine zw_ld (n := 1) (k := 1) (f := zp_isI) (pc' := 113) rfl rfl l1 rfl rfl ?_
          refine zw_ld (n := 1) (k := 0) (f := zp_isR) (pc' := 114) rfl rfl l0 rfl rfl ?_
          refine zw_gI (q := 72) (pc' := 117) W rfl rfl rfl rfl rfl rfl ?_
          refine zw_ishr (pc' := 118) rfl rfl ?_
          refine zw_s (pc' := 119) rfl rfl ?_
          refine zw_iand (pc' := 120) rfl rfl ?_
          refine zw_s (pc' := 121) rfl rfl ?_
          refine zw_bne2 (g := 129) (pc' := 124) rfl rfl rfl rfl (rfl : _ = (1 : Int)) (fun h6 => ?_) (fun h6 => ?_)
          · have z0 : x1 >>> (Int32.ofInt (ys_vl T n q) &&& 31) &&& Int32.ofInt 1 = Int32.ofInt 0 := by
              rw [ev]
              rcases y_b1 (x1 >>> (H.2.1 72 31 &&& 31)) with h9 | h9
              · exact Int32.toInt_inj.mp h9
              · exact absurd h9 h6
            obtain ⟨K, g1, g2, g3, g4⟩ := yp_go (L := L) (σ := σ) (d := d + 3) hby hB hP
            refine zw_ld (n := 1) (k := 0) (f := zp_isR) (pc' := 130) rfl rfl l0 rfl rfl ?_
            refine zw_c (pc' := 133) (zw_cv (q := 72) (Y := zm_175) W.1 rfl rfl zm_175_t rfl rfl) rfl rfl rfl rfl rfl (zq_good1 W hg) ?_
            refine zw_bne1 (g := 137) (pc' := 136) rfl rfl rfl (rfl : _ = (1 : Int)) (fun hb => ?_) (fun h9 => absurd h9 (by decide))
            refine zw_ld (n := 1) (k := 1) (f := zp_isI) (pc' := 138) rfl rfl l1 rfl rfl ?_
            refine zw_s (pc' := 139) rfl rfl ?_
            refine zw_ld (n := 1) (k := 0) (f := zp_isR) (pc' := 140) rfl rfl l0 rfl rfl ?_
            refine zw_gI (q := 72) (pc' := 143) W rfl rfl rfl rfl rfl rfl ?_
            refine zw_ishl (pc' := 144) rfl rfl ?_
            refine zw_ior (pc' := 145) rfl rfl ?_
            refine zw_st (n := 1) (k := 1) (f := zp_isI) (pc' := 146) rfl rfl rfl rfl rfl ?_
            refine zw_ld (n := 1) (k := 0) (f := zp_isR) (pc' := 147) rfl rfl (zw_gt l0 rfl rfl) rfl rfl ?_
            refine zw_cn (pc' := 150) (zw_cv (q := 72) (Y := zm_171) W.1 rfl rfl zm_171_t rfl rfl) rfl rfl rfl rfl rfl (g1) ?_
            refine zw_s (pc' := 62) rfl rfl ?_
            refine ih (ys_nx T n q) K _ _ g2 ((zx_fe g3 23 rfl rfl rfl).trans hg) g4 (yR2_t hR (yR2_s (yN2_22.trans ((if_pos hk).trans ((if_neg (by omega)).trans ((if_neg (by omega)).trans ((if_neg (fun h9 => h9 z0)).trans ?_))))))) (yDr_m g3 hD) (xXr_F g3 rfl hX) (by rw [zx_ae g3 87 (fun _ => rfl) rfl rfl]; exact c600) (by rw [zx_ae g3 87 (fun _ => rfl) rfl rfl]; exact c610) (zw_gt l0 rfl rfl) zw_g1 (by omega)
            rw [ev]
          · obtain ⟨H1, c1, c2, c3, c4, c5⟩ := yp_wr (L := L) (σ := σ) (d := d + 4) (y := Int32.ofInt 4) hB hg hP (by decide)
            have W1 := zR_Wd (zR_dn c2)
            refine zw_ld (n := 1) (k := 0) (f := zp_isR) (pc' := 125) rfl rfl l0 rfl rfl ?_
            refine zw_s (pc' := 126) rfl rfl ?_
            refine zw_cn (pc' := 129) (zw_cv (q := 72) (Y := zm_180) W.1 rfl rfl zm_180_t rfl rfl) rfl rfl rfl rfl rfl (c1) ?_
            refine zw_ld (n := 1) (k := 0) (f := zp_isR) (pc' := 130) rfl rfl l0 rfl rfl ?_
            refine zw_c (pc' := 133) (zw_cv (q := 72) (Y := zm_175) W1.1 rfl rfl zm_175_t rfl rfl) rfl rfl rfl rfl rfl (zq_good0 W1 c3) ?_
            refine zw_bne1 (g := 137) (pc' := 136) rfl rfl rfl (rfl : _ = (0 : Int)) (fun h9 => absurd h9 (by decide)) (fun hb => ?_)
            refine zw_rn rfl rfl ?_
            exact yRr_b c2 c3 c5 (yR2_a hR (yA2_done (yN2_22.trans ((if_pos hk).trans ((if_neg (by omega)).trans ((if_neg (by omega)).trans (if_pos (by
                rw [ev]
                intro h9
                rw [h9] at h6
                exact absurd h6 (by decide)))))))))
        · obtain ⟨H1, c1, c2, c3, c4, c5⟩ := yp_wr (L := L) (σ := σ) (d := d + 4) (y := Int32.ofInt 3) hB hg hP (by decide)
          have W1 := zR_Wd (zR_dn c2)
          refine zw_ld (n := 1) (k := 0) (f := zp_isR) (pc' := 105) rfl rfl l0 rfl rfl ?_
          refine zw_s (pc' := 106) rfl rfl ?_
          refine zw_cn (pc' := 109) (zw_cv (q := 72) (Y := zm_180) W.1 rfl rfl zm_180_t rfl rfl) rfl rfl rfl rfl rfl (c1) ?_
          refine zw_s (pc' := 129) rfl rfl ?_
          refine zw_ld (n := 1) (k := 0) (f := zp_isR) (pc' := 130) rfl rfl l0 rfl rfl ?_
          refine zw_c (pc' := 133) (zw_cv (q := 72) (Y := zm_175) W1.1 rfl rfl zm_175_t rfl rfl) rfl rfl rfl rfl rfl (zq_good0 W1 c3) ?_
          refine zw_bne1 (g := 137) (pc' := 136) rfl rfl rfl (rfl : _ = (0 : Int)) (fun h9 => absurd h9 (by decide)) (fun hb => ?_)
          refine zw_rn rfl rfl ?_
          exact yRr_b c2 c3 c5 (yR2_a hR (yA2_done (yN2_22.trans ((if_pos hk).trans ((if_neg (by omega)).trans (if_pos (by omega)))))))
      · obtain ⟨H1, c1, c2, c3, c4, c5⟩ := yp_wr (L := L) (σ := σ) (d := d + 4) (y := Int32.ofInt 2) hB hg hP (by decide)
        have W1 := zR_Wd (zR_dn c2)
        refine zw_ld (n := 1) (k := 0) (f := zp_isR) (pc' := 86) rfl rfl l0 rfl rfl ?_
        refine zw_s (pc' := 87) rfl rfl ?_
        refine zw_cn (pc' := 90) (zw_cv (q := 72) (Y := zm_180) W.1 rfl rfl zm_180_t rfl rfl) rfl rfl rfl rfl rfl (c1) ?_
        refine zw_s (pc' := 129) rfl rfl ?_
        refine zw_ld (n := 1) (k := 0) (f := zp_isR) (pc' := 130) rfl rfl l0 rfl rfl ?_
        refine zw_c (pc' := 133) (zw_cv (q := 72) (Y := zm_175) W1.1 rfl rfl zm_175_t rfl rfl) rfl rfl rfl rfl rfl (zq_good0 W1 c3) ?_
        refine zw_bne1 (g := 137) (pc' := 136) rfl rfl rfl (rfl : _ = (0 : Int)) (fun h9 => absurd h9 (by decide)) (fun hb => ?_)
        refine zw_rn rfl rfl ?_
        exact yRr_b c2 c3 c5 (yR2_a hR (yA2_done (yN2_22.trans ((if_pos hk).trans (if_pos (by rcases nm with nm | nm <;> omega))))))

set_option maxHeartbeats 4000000 in
set_option maxRecDepth 8000 in
theorem yx_pilot {L : Nat} {σ : Nat → Int32} {d : Nat} {T : Nat → Int} {n p : Nat} {dd : yLD} {H : zp_H} (hby : ∀ k, k < n → -128 ≤ T k ∧ T k ≤ 127) (hB : zk_Bs zR zg zJ H) (hg : (H.2.1 72 23).toInt = 0) (hP : yP T n p H) (hD : yDr dd H) (hX : xXr T n [] dd H) (hk : ys_kd T n p = 3 ∧ ys_vl T n p = 19) : ∃ X, zp_Call L σ (d + 6) 191 [.inr (.inr (some 73))] H X ∧ yRr T n dd p X := by
  have W := zR_Wd (zR_dn hB)
  have r40 : 0 ≤ (H.2.1 72 40).toInt ∧ (H.2.1 72 40).toInt ≤ 4 := zR_fr1 (zR_dn hB) (k := 40) (r := (0, 4)) rfl rfl
  have d40 : (H.2.1 72 40).toInt = dd.1 6 := hD.2.2.2.2.2.1
  refine zw_met zm_191_t rfl rfl ?_
  refine zw_ld (n := 1) (k := 0) (f := zp_isR) (pc' := 1) rfl rfl rfl rfl rfl ?_
  refine zw_gI (q := 72) (pc' := 4) W rfl rfl rfl rfl rfl rfl ?_
  refine zw_s (pc' := 5) rfl rfl ?_
  refine zw_bne2 (g := 13) (pc' := 8) rfl rfl rfl rfl (rfl : _ = (4 : Int)) (fun h8 => ?_) (fun h8 => ?_)
  · refine zw_ld (n := 1) (k := 0) (f := zp_isR) (pc' := 14) rfl rfl rfl rfl rfl ?_
    refine zw_c (pc' := 17) (zw_cv (q := 72) (Y := zm_175) W.1 rfl rfl zm_175_t rfl rfl) rfl rfl rfl rfl rfl (zq_good1 W hg) ?_
    refine zw_bne1 (g := 21) (pc' := 20) rfl rfl rfl (rfl : _ = (1 : Int)) (fun hb => ?_) (fun h9 => absurd h9 (by decide))
    obtain ⟨K0, g1, g2, g3, g4⟩ := yp_go (L := L) (σ := σ) (d := d + 3) hby hB hP
    have W0 := zR_Wd (zR_dn g2)
    have D0 := yDr_m g3 hD
    have X0 := xXr_F g3 rfl hX
    have S0 : yS T n (0, [], 0, 0, 0, dd, p) (fun q => (19, [], 0, 0, 0, dd, q)) K0 := Or.inl ⟨(zx_fe g3 23 rfl rfl rfl).trans hg, _, g4, yR2_s (yN2_0.trans ((y0w_19 hk).trans (if_pos (by omega))))⟩
    refine zw_ld (n := 1) (k := 0) (f := zp_isR) (pc' := 22) rfl rfl rfl rfl rfl ?_
    refine zw_cn (pc' := 25) (zw_cv (q := 72) (Y := zm_171) W.1 rfl rfl zm_171_t rfl rfl) rfl rfl rfl rfl rfl (g1) ?_
    have f40 : (K0.2.1 72 40).toInt = dd.1 6 := D0.2.2.2.2.2.1
    have i0 : (Int32.ofInt 3 * K0.2.1 72 40).toInt = 3 * dd.1 6 := by rw [zt_mul (by decide) (by omega), f40]
    obtain ⟨_, n1, v, M, rfl, n2, n3, n4, n5, n6⟩ := yS_cr (L := L) (σ := σ) (d := d) (s2 := fun c q => (21, [], c, 0, 0, dd, q)) (s1 := fun x q => (20, [], x, 0, 0, dd, q)) hby g2 S0 D0.1 D0.2.1 (fun q => yN2_19) (fun x q => yN2_20)
    have WM := zR_Wd (zR_dn n2)
    have DM := yDr_M n3 D0
    have XM := xXr_F n3 rfl X0
    have p4 : (dd.1 6).toNat < 4 := by omega
    have l600 : yRl (600 + (dd.1 6).toNat) = (87, (Int32.ofInt 3 * K0.2.1 72 40).toInt.toNat) := by
      rw [yQ_600 (by omega), i0]
      exact congrArg (Prod.mk _) (by omega)
    have X1 := xXr_w (x := zp_nar 0 v) yRl_inj (by omega) l600 XM
    have c1 : ((zw_I M 87 (Int32.ofInt 3 * K0.2.1 72 40).toInt.toNat (zp_nar 0 v)).2.1 87 (3 * (dd.1 6).toNat)).toInt = v.toInt := by
      rw [show 3 * (dd.1 6).toNat = (Int32.ofInt 3 * K0.2.1 72 40).toInt.toNat by omega]
      exact congrArg Int32.toInt zw_eq
    have b1 : zk_Bs zR zg zJ (zw_I M 87 (Int32.ofInt 3 * K0.2.1 72 40).toInt.toNat (zp_nar 0 v)) := yB_870 (x := v) n2 (by omega) n5
    have S1 := yS_a (p := 87) (k := (Int32.ofInt 3 * K0.2.1 72 40).toInt.toNat) (x := zp_nar 0 v) (by decide) n4
    have D1 := yDr_a (p := 87) (k := (Int32.ofInt 3 * K0.2.1 72 40).toInt.toNat) (x := zp_nar 0 v) (by decide) DM
    refine zw_ld (n := 1) (k := 0) (f := zp_isR) (pc' := 26) rfl rfl rfl rfl rfl ?_
    refine zw_gR (q := 72) (pc' := 29) W0 rfl rfl rfl rfl (W0.2 72 56 _ rfl) rfl ?_
    refine zw_s (pc' := 30) rfl rfl ?_
    refine zw_ld (n := 1) (k := 0) (f := zp_isR) (pc' := 31) rfl rfl rfl rfl rfl ?_
    refine zw_gI (q := 72) (pc' := 34) W0 rfl rfl rfl rfl rfl rfl ?_
    refine zw_imul (pc' := 35) rfl rfl ?_
    refine zw_ld (n := 1) (k := 0) (f := zp_isR) (pc' := 36) rfl rfl rfl rfl rfl ?_
    refine zw_c (pc' := 39) (zw_cv (q := 72) (Y := zm_188) W0.1 rfl rfl zm_188_t rfl rfl) rfl rfl rfl rfl rfl (n1) ?_
    refine zw_is (q := 87) (pc' := 40) WM rfl rfl (by decide) (⟨by omega, by show _ < ((12 : Nat) : Int); omega⟩) rfl ?_
    generalize zw_I M 87 (Int32.ofInt 3 * K0.2.1 72 40).toInt.toNat (zp_nar 0 v) = K at b1 S1 D1 X1 c1 ⊢
    have WK := zR_Wd (zR_dn b1)
    have h40 : (K.2.1 72 40).toInt = dd.1 6 := D1.2.2.2.2.2.1
    obtain ⟨u, N, m1, m2, m3, m4, m5, m6⟩ := yS_nu (L := L) (σ := σ) (d := d + 2) (x := Int32.ofInt 0) (y := Int32.ofInt 99) (ok := fun u q => (22, [], v.toInt, u, 0, dd, q)) hby b1 S1 (fun q => yN2_21) (by decide)
    have WN := zR_Wd (zR_dn m2)
    have DN := yDr_M m3 D1
    have XN := xXr_F m3 rfl X1
    have cN : (N.2.1 87 (3 * (dd.1 6).toNat)).toInt = v.toInt := by
      rw [zx_ae m3 87 (fun _ => rfl) rfl rfl]
      exact c1
    have i2 : (Int32.ofInt 3 * K.2.1 72 40 + Int32.ofInt 1).toInt = 3 * (K.2.1 72 40).toInt + 1 := y_ix (by decide) (by omega) (by decide)
    have b3 : zk_Bs zR zg zJ (zw_I N 87 (Int32.ofInt 3 * K.2.1 72 40 + Int32.ofInt 1).toInt.toNat (zp_nar 0 u)) := yB_871 (x := u) m2 (by omega)
    have S3 := yS_a (p := 87) (k := (Int32.ofInt 3 * K.2.1 72 40 + Int32.ofInt 1).toInt.toNat) (x := zp_nar 0 u) (by decide) m4
    have D3 := yDr_a (p := 87) (k := (Int32.ofInt 3 * K.2.1 72 40 + Int32.ofInt 1).toInt.toNat) (x := zp_nar 0 u) (by decide) DN
    have l610 : yRl (610 + (dd.1 6).toNat) = (87, (Int32.ofInt 3 * K.2.1 72 40 + Int32.ofInt 1).toInt.toNat) := by
      rw [yQ_610 (by omega), i2, h40]
      exact congrArg (Prod.mk _) (by omega)
    have X3 := xXr_w (x := zp_nar 0 u) yRl_inj (by omega) l610 XN
    have c3 : ((zw_I N 87 (Int32.ofInt 3 * K.2.1 72 40 + Int32.ofInt 1).toInt.toNat (zp_nar 0 u)).2.1 87 (3 * (dd.1 6).toNat)).toInt = v.toInt := by
      rw [y_ne (fun h9 => by have := h9.2; omega)]
      exact cN
    have c4 : ((zw_I N 87 (Int32.ofInt 3 * K.2.1 72 40 + Int32.ofInt 1).toInt.toNat (zp_nar 0 u)).2.1 87 (3 * (dd.1 6).toNat + 1)).toInt = u.toInt := by
      rw [show 3 * (dd.1 6).toNat + 1 = (Int32.ofInt 3 * K.2.1 72 40 + Int32.ofInt 1).toInt.toNat by omega]
      exact congrArg Int32.toInt zw_eq
    refine zw_ld (n := 1) (k := 0) (f := zp_isR) (pc' := 41) rfl rfl rfl rfl rfl ?_
    refine zw_gR (q := 72) (pc' := 44) WK rfl rfl rfl rfl (WK.2 72 56 _ rfl) rfl ?_
    refine zw_s (pc' := 45) rfl rfl ?_
    refine zw_ld (n := 1) (k := 0) (f := zp_isR) (pc' := 46) rfl rfl rfl rfl rfl ?_
    refine zw_gI (q := 72) (pc' := 49) WK rfl rfl rfl rfl rfl rfl ?_
    refine zw_imul (pc' := 50) rfl rfl ?_
    refine zw_s (pc' := 51) rfl rfl ?_
    refine zw_iadd (pc' := 52) rfl rfl ?_
    refine zw_ld (n := 1) (k := 0) (f := zp_isR) (pc' := 53) rfl rfl rfl rfl rfl ?_
    refine zw_s (pc' := 54) rfl rfl ?_
    refine zw_s (pc' := 56) rfl rfl ?_
    refine zw_c (pc' := 59) (zw_cv (q := 72) (Y := zm_181) WK.1 rfl rfl zm_181_t rfl rfl) rfl rfl rfl rfl rfl (m1) ?_
    refine zw_is (q := 87) (pc' := 60) WN rfl rfl (by decide) (⟨by omega, by show _ < ((12 : Nat) : Int); omega⟩) rfl ?_
    refine zw_s (pc' := 61) rfl rfl ?_
    refine zw_st (n := 1) (k := 1) (f := zp_isI) (pc' := 62) rfl rfl rfl rfl rfl ?_
    generalize zw_I N 87 (Int32.ofInt 3 * K.2.1 72 40 + Int32.ofInt 1).toInt.toNat (zp_nar 0 u) = R at b3 S3 D3 X3 c3 c4 ⊢
    have WR := zR_Wd (zR_dn b3)
    rcases S3 with ⟨hg3, q, hP3, hR3⟩ | ⟨hg3, r, hb1, hb2⟩
    · exact yx_piL (d := d) hby (by omega) (n - q) q _ _ (Int32.ofInt 0) b3 hg3 hP3 hR3 D3 X3 c3 c4 (zw_gt rfl rfl rfl) zw_g1 (Nat.le_refl _)
    · refine zw_ld (n := 1) (k := 0) (f := zp_isR) (pc' := 63) rfl rfl (zw_gt rfl rfl rfl) rfl rfl ?_
      refine zw_c (pc' := 66) (zw_cv (q := 72) (Y := zm_175) WR.1 rfl rfl zm_175_t rfl rfl) rfl rfl rfl rfl rfl (zq_good0 WR hg3) ?_
      refine zw_beq1 (g := 153) (pc' := 69) rfl rfl rfl (rfl : _ = (0 : Int)) (fun hb => ?_) (fun h9 => absurd h9 (by decide))
      exact yx_piT (d := d) (xc := v) (xh := u) b3 (Or.inr ⟨hg3, r, hb1, hb2⟩) D3 X3 c3 c4 (by omega) (zw_gt rfl rfl rfl) zw_g1
  · obtain ⟨H1, c1, c2, c3, c4, c5⟩ := yp_wr (L := L) (σ := σ) (d := d + 4) (y := Int32.ofInt 2) hB hg hP (by decide)
    have W1 := zR_Wd (zR_dn c2)
    refine zw_ld (n := 1) (k := 0) (f := zp_isR) (pc' := 9) rfl rfl rfl rfl rfl ?_
    refine zw_s (pc' := 10) rfl rfl ?_
    refine zw_cn (pc' := 13) (zw_cv (q := 72) (Y := zm_180) W.1 rfl rfl zm_180_t rfl rfl) rfl rfl rfl rfl rfl (c1) ?_
    refine zw_ld (n := 1) (k := 0) (f := zp_isR) (pc' := 14) rfl rfl rfl rfl rfl ?_
    refine zw_c (pc' := 17) (zw_cv (q := 72) (Y := zm_175) W1.1 rfl rfl zm_175_t rfl rfl) rfl rfl rfl rfl rfl (zq_good0 W1 c3) ?_
    refine zw_bne1 (g := 21) (pc' := 20) rfl rfl rfl (rfl : _ = (0 : Int)) (fun h9 => absurd h9 (by decide)) (fun hb => ?_)
    refine zw_rn rfl rfl ?_
    exact yRr_b c2 c3 c5 (yA2_done (yN2_0.trans ((y0w_19 hk).trans (if_neg (by omega)))))
