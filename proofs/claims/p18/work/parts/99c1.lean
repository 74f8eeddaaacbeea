/-! ===== the reference reads a part, exactly ===== -/

theorem yx_deeper {L : Nat} {σ : Nat → Int32} {d a : Nat} {T : Nat → Int} {n p : Nat} {lv : List Bool} {H : zp_H} (hby : ∀ k, k < n → -128 ≤ T k ∧ T k ≤ 127) {e : Nat} (h : zx_S a e 1 H) (hg : (H.2.1 72 23).toInt = 0) (hV : yV T n lv p H) : ∃ X, zp_Call L σ (d + 3) 193 [.inr (.inr (some 73))] H X ∧ ∃ H1, X = (.inl none, H1) ∧ zx_S a e 0 H1 ∧ zx_F a H H1 ∧ zx_phi H1 = zx_phi H ∧ (H1.2.1 72 45).toInt = (H.2.1 72 45).toInt ∧ (((H1.2.1 72 23).toInt = 0 ∧ lv.length < 6 ∧ yV T n (false :: lv) p H1) ∨ (¬ lv.length < 6 ∧ yD T n (if yB T n p then 2 else 1, p) H1)) := by
  have W := zR_Wd (zR_dn h.1)
  have hd := zR_fr1 (zR_dn h.1) (k := 47) (r := (0, 6)) rfl rfl
  have hd : 0 ≤ (H.2.1 72 47).toInt ∧ (H.2.1 72 47).toInt ≤ 6 := hd
  have hdl := hV.2.2.2.1
  have e1 : (H.2.1 72 47 + Int32.ofInt 1).toInt = (H.2.1 72 47).toInt + 1 := zw_p1 (by omega)
  have s28 := hV.2.1.2.2.1
  refine zw_met zm_193_t rfl rfl ?_
  refine zw_ld (n := 1) (k := 0) (f := zp_isR) (pc' := 1) rfl rfl rfl rfl rfl ?_
  refine zw_gI (q := 72) (pc' := 4) W rfl rfl rfl rfl rfl rfl ?_
  refine zw_s (pc' := 6) rfl rfl ?_
  refine zw_bge2 (g := 30) (pc' := 9) rfl rfl rfl rfl (rfl : _ = (6 : Int)) (fun hb => ?_) (fun hb => ?_)
  · refine zw_ld (n := 1) (k := 0) (f := zp_isR) (pc' := 31) rfl rfl rfl rfl rfl ?_
    refine zw_ld (n := 1) (k := 0) (f := zp_isR) (pc' := 32) rfl rfl rfl rfl rfl ?_
    refine zw_gI (q := 72) (pc' := 35) W rfl rfl rfl rfl rfl rfl ?_
    refine zw_s (pc' := 36) rfl rfl ?_
    refine zw_beq2 (g := 56) (pc' := 39) rfl rfl rfl rfl (rfl : _ = (2 : Int)) (fun h1 => ?_) (fun h1 => ?_)
    · refine zw_s (pc' := 57) rfl rfl ?_
      refine zw_s (pc' := 61) rfl rfl ?_
      obtain ⟨H1, c1, c2, c3, c4, c5, c6, c7⟩ := zx_wrong (L := L) (σ := σ) (d := d + 1) (y := Int32.ofInt 2) h (by decide)
      refine zw_cn (pc' := 64) (zw_cv (q := 72) (Y := zm_180) W.1 rfl rfl zm_180_t rfl rfl) rfl rfl rfl rfl rfl (c1) ?_
      refine zw_rn rfl rfl ?_
      have hw := yx_wrong h.1 hg hV (by decide) c1
      exact ⟨H1, rfl, c3 _ _, c4, c7, c5, Or.inr ⟨by omega, by rw [if_pos (show yB T n p from Or.inl (yr_s_2.mp (s28.symm.trans h1)))]; exact hw⟩⟩
    · refine zw_ld (n := 1) (k := 0) (f := zp_isR) (pc' := 40) rfl rfl rfl rfl rfl ?_
      refine zw_gI (q := 72) (pc' := 43) W rfl rfl rfl rfl rfl rfl ?_
      refine zw_s (pc' := 44) rfl rfl ?_
      refine zw_beq2 (g := 56) (pc' := 47) rfl rfl rfl rfl (rfl : _ = (1 : Int)) (fun h2 => ?_) (fun h2 => ?_)
      · refine zw_s (pc' := 57) rfl rfl ?_
        refine zw_s (pc' := 61) rfl rfl ?_
        obtain ⟨H1, c1, c2, c3, c4, c5, c6, c7⟩ := zx_wrong (L := L) (σ := σ) (d := d + 1) (y := Int32.ofInt 2) h (by decide)
        refine zw_cn (pc' := 64) (zw_cv (q := 72) (Y := zm_180) W.1 rfl rfl zm_180_t rfl rfl) rfl rfl rfl rfl rfl (c1) ?_
        refine zw_rn rfl rfl ?_
        have hw := yx_wrong h.1 hg hV (by decide) c1
        exact ⟨H1, rfl, c3 _ _, c4, c7, c5, Or.inr ⟨by omega, by rw [if_pos (show yB T n p from Or.inr (Or.inl (yr_s_3.mp (s28.symm.trans h2))))]; exact hw⟩⟩
      · refine zw_ld (n := 1) (k := 0) (f := zp_isR) (pc' := 48) rfl rfl rfl rfl rfl ?_
        refine zw_s (pc' := 50) rfl rfl ?_
        by_cases h3 : (H.2.1 72 28).toInt = 3 ∧ (H.2.1 72 32).toInt = (Int32.ofInt 40).toInt
        · refine zw_c (pc' := 53) (zw_cv (q := 72) (Y := zm_194) W.1 rfl rfl zm_194_t rfl rfl) rfl rfl rfl rfl rfl (zq_sign1 W h3) ?_
          refine zw_beq1 (g := 60) (pc' := 56) rfl rfl rfl (rfl : _ = (1 : Int)) (fun h9 => absurd h9 (by decide)) (fun hb => ?_)
          refine zw_s (pc' := 57) rfl rfl ?_
          refine zw_s (pc' := 61) rfl rfl ?_
          obtain ⟨H1, c1, c2, c3, c4, c5, c6, c7⟩ := zx_wrong (L := L) (σ := σ) (d := d + 1) (y := Int32.ofInt 2) h (by decide)
          refine zw_cn (pc' := 64) (zw_cv (q := 72) (Y := zm_180) W.1 rfl rfl zm_180_t rfl rfl) rfl rfl rfl rfl rfl (c1) ?_
          refine zw_rn rfl rfl ?_
          have hw := yx_wrong h.1 hg hV (by decide) c1
          exact ⟨H1, rfl, c3 _ _, c4, c7, c5, Or.inr ⟨by omega, by rw [if_pos (show yB T n p from Or.inr (Or.inr ((yr_sg hV.2.1 (c := 40)).mp h3)))]; exact hw⟩⟩
        · refine zw_c (pc' := 53) (zw_cv (q := 72) (Y := zm_194) W.1 rfl rfl zm_194_t rfl rfl) rfl rfl rfl rfl rfl (zq_sign0 W h3) ?_
          refine zw_beq1 (g := 60) (pc' := 56) rfl rfl rfl (rfl : _ = (0 : Int)) (fun hb => ?_) (fun h9 => absurd h9 (by decide))
          refine zw_s (pc' := 61) rfl rfl ?_
          have hnB : ¬ yB T n p := by
            rintro (h9 | h9 | h9)
            · exact h1 (s28.trans (yr_s_2.mpr h9))
            · exact h2 (s28.trans (yr_s_3.mpr h9))
            · exact h3 ((yr_sg hV.2.1 (c := 40)).mpr h9)
          obtain ⟨H1, c1, c2, c3, c4, c5, c6, c7⟩ := zx_wrong (L := L) (σ := σ) (d := d + 1) (y := Int32.ofInt 1) h (by decide)
          refine zw_cn (pc' := 64) (zw_cv (q := 72) (Y := zm_180) W.1 rfl rfl zm_180_t rfl rfl) rfl rfl rfl rfl rfl (c1) ?_
          refine zw_rn rfl rfl ?_
          have hw := yx_wrong h.1 hg hV (by decide) c1
          exact ⟨H1, rfl, c3 _ _, c4, c7, c5, Or.inr ⟨by omega, by rw [if_neg hnB]; exact hw⟩⟩
  · refine zw_ld (n := 1) (k := 0) (f := zp_isR) (pc' := 10) rfl rfl rfl rfl rfl ?_
    refine zw_s (pc' := 11) rfl rfl ?_
    refine zw_gI (q := 72) (pc' := 14) W rfl rfl rfl rfl rfl rfl ?_
    refine zw_s (pc' := 15) rfl rfl ?_
    refine zw_iadd (pc' := 16) rfl rfl ?_
    refine zw_pI (q := 72) (pc' := 19) W rfl rfl rfl rfl rfl rfl ?_
    refine zw_ld (n := 1) (k := 0) (f := zp_isR) (pc' := 20) rfl rfl rfl rfl rfl ?_
    refine zw_gR (q := 72) (pc' := 23) W rfl rfl rfl rfl (W.2 72 61 _ rfl) rfl ?_
    refine zw_ld (n := 1) (k := 0) (f := zp_isR) (pc' := 24) rfl rfl rfl rfl rfl ?_
    refine zw_gI (q := 72) (pc' := 27) W rfl rfl rfl rfl zw_eq rfl ?_
    refine zw_s (pc' := 28) rfl rfl ?_
    refine zw_bs (q := 92) (pc' := 29) W rfl rfl (by decide) (⟨by rw [e1]; omega, by rw [e1]; omega⟩) rfl ?_
    refine zw_rn rfl rfl ?_
    refine ⟨_, rfl, zx_deep h (by omega), ⟨zk_Fr_I (zk_Fr_I (zk_Fr_r H) rfl rfl) rfl rfl, fun i hi => zw_ne (zw_ne rfl rfl) rfl⟩, zx_phi_e (zw_ne (zw_ne rfl rfl) rfl) (zw_ne (zw_ne rfl rfl) rfl), congrArg Int32.toInt (zw_ne (zw_ne rfl rfl) rfl), Or.inl ⟨?_, by omega, ?_⟩⟩
    · exact (congrArg Int32.toInt (zw_ne (zw_ne rfl rfl) rfl)).trans hg
    · have ej : (H.2.1 72 47 + Int32.ofInt 1).toInt.toNat = lv.length + 1 := by omega
      rw [ej]
      refine ⟨yr_T_I (yr_T_I hV.1 rfl) rfl, yr_k_c (fun k hk => zw_ne (zw_ne rfl ?_) rfl) rfl hV.2.1, hV.2.2.1, ?_, ?_, ?_⟩
      · rcases (show k = 27 ∨ k = 28 ∨ k = 29 ∨ k = 30 ∨ k = 31 ∨ k = 32 by omega) with rfl | rfl | rfl | rfl | rfl | rfl <;> rfl
      · refine (congrArg Int32.toInt (zw_ne zw_eq rfl)).trans ?_
        rw [e1, List.length_cons]
        omega
      · exact (congrArg Int32.toInt zw_eq).trans (by decide)
      · refine yt_u (m := lv.length) (fun k hk => zw_ne (zw_ne rfl rfl) ?_) (Nat.le_refl _) hV.2.2.2.2
        have hkk : Nat.beq k (lv.length + 1) = false := by
          cases h9 : Nat.beq k (lv.length + 1) with
          | false => rfl
          | true => exact absurd (Nat.eq_of_beq_eq_true h9) (by omega)
        rw [hkk]
        rfl

theorem yV_pt {T : Nat → Int} {n p : Nat} {lv : List Bool} {H : zp_H} {c : Int32} (h : yV T n lv p H) : yV T n lv p (zx_pt H c) := by
  refine ⟨yr_T_c (zx_pt_f 26 rfl) ?_ (zx_pt_f 23 rfl) (zx_pt_f 24 rfl) h.1, yr_k_c (fun k hk => zx_pt_f k ?_) rfl h.2.1, h.2.2.1, ?_, yt_c ?_ h.2.2.2.2⟩
  · funext i
    exact zw_ne (zw_ne rfl rfl) rfl
  · rcases (show k = 27 ∨ k = 28 ∨ k = 29 ∨ k = 30 ∨ k = 31 ∨ k = 32 by omega) with rfl | rfl | rfl | rfl | rfl | rfl <;> rfl
  · rw [zx_pt_f 47 rfl]
    exact h.2.2.2.1
  · funext i
    exact zw_ne (zw_ne rfl rfl) rfl
theorem yD_pt {T : Nat → Int} {n : Nat} {r : Int × Nat} {H : zp_H} {c : Int32} (h : yD T n r H) : yD T n r (zx_pt H c) := by
  refine ⟨yr_T_c (zx_pt_f 26 rfl) ?_ (zx_pt_f 23 rfl) (zx_pt_f 24 rfl) h.1, ?_, h.2.2.1, ?_⟩
  · funext i
    exact zw_ne (zw_ne rfl rfl) rfl
  · rw [zx_pt_f 23 rfl]
    exact h.2.1
  · rw [zx_pt_f 24 rfl]
    exact h.2.2.2
/-- behind something that reads from s on -/
def yO (T : Nat → Int) (n : Nat) (s : yM) (H0 H1 : zp_H) : Prop := ((H1.2.1 72 23).toInt = 0 ∧ ∃ lv' q, lv' ≠ [] ∧ yV T n lv' q H1 ∧ xRR T n s (0, lv', q) H0 H1) ∨ (∃ r, yD T n r H1 ∧ yA T n s r)
theorem yO_R {T : Nat → Int} {n : Nat} {s s' : yM} {H0 H H1 : zp_H} (hR : xRR T n s s' H0 H) (h : yO T n s' H H1) : yO T n s H0 H1 := by
  rcases h with ⟨h1, lv', q, h2, h3, h4⟩ | ⟨r, h1, h2⟩
  · exact Or.inl ⟨h1, lv', q, h2, h3, xRR_t hR h4⟩
  · exact Or.inr ⟨r, h1, hR.1 r h2⟩

theorem yw_m8 {v : Int} (h : 0 ≤ v ∧ v ≤ 21) : (v < 8 ∧ yw_m v = v) ∨ (8 ≤ v ∧ (yw_m v = -1 ∨ 8 ≤ yw_m v)) := by
  obtain ⟨j, hj, rfl⟩ : ∃ j : Nat, j < 22 ∧ v = (j : Int) := ⟨v.toNat, by omega, by omega⟩
  revert j
  decide
theorem yx_part {L : Nat} {σ : Nat → Int32} {d a : Nat} {T : Nat → Int} {n p : Nat} {lv : List Bool} {H : zp_H} (hby : ∀ k, k < n → -128 ≤ T k ∧ T k ≤ 127) (hK : zx_KW L σ) (h : zx_S a 0 0 H) (ha : (a : Int) ≤ (H.2.1 72 45).toInt) (hg : (H.2.1 72 23).toInt = 0) (hV : yV T n lv p H) (hlv : lv ≠ []) (h40 : ¬ (ys_kd T n p = 4 ∧ ys_vl T n p = 40)) : ∃ X, zp_Call L σ (d + 5) 197 [.inr (.inr (some 73))] H X ∧ ∃ H1, X = (.inl none, H1) ∧ zx_S a 1 0 H1 ∧ zx_F a H H1 ∧ ((H1.2.1 72 23).toInt = 0 → zx_phi H + 2 ≤ zx_phi H1) ∧ (a : Int) ≤ (H1.2.1 72 45).toInt ∧ zx_phi H ≤ zx_phi H1 ∧ yO T n (1, lv, p) H H1 := by
  have W := zR_Wd (zR_dn h.1)
  obtain ⟨t0, w0⟩ := zx_top h
  have p1 := zx_phi_le h.1
  have s28 := hV.2.1.2.2.1
  refine zw_met zm_197_t rfl rfl ?_
  refine zw_ld (n := 1) (k := 0) (f := zp_isR) (pc' := 1) rfl rfl rfl rfl rfl ?_
  refine zw_c (pc' := 4) (zw_cv (q := 72) (Y := zm_175) W.1 rfl rfl zm_175_t rfl rfl) rfl rfl rfl rfl rfl (zq_good1 W hg) ?_
  have g1 := (h.2.2.2 hg).1
  refine zw_bne1 (g := 8) (pc' := 7) rfl rfl rfl (rfl : _ = (1 : Int)) (fun hb => ?_) (fun h9 => absurd h9 (by decide))
  refine zw_ld (n := 1) (k := 0) (f := zp_isR) (pc' := 9) rfl rfl rfl rfl rfl ?_
  refine zw_gI (q := 72) (pc' := 12) W rfl rfl rfl rfl rfl rfl ?_
  refine zw_s (pc' := 13) rfl rfl ?_
  refine zw_bne2 (g := 45) (pc' := 16) rfl rfl rfl rfl (rfl : _ = (2 : Int)) (fun h1 => ?_) (fun h1 => ?_)
  · refine zw_ld (n := 1) (k := 0) (f := zp_isR) (pc' := 46) rfl rfl rfl rfl rfl ?_
    refine zw_gI (q := 72) (pc' := 49) W rfl rfl rfl rfl rfl rfl ?_
    refine zw_s (pc' := 50) rfl rfl ?_
    refine zw_bne2 (g := 86) (pc' := 53) rfl rfl rfl rfl (rfl : _ = (1 : Int)) (fun h2 => ?_) (fun h2 => ?_)
    · obtain ⟨K, c1, c2, c3, c4, c5, c6, c7⟩ := zx_wrong (L := L) (σ := σ) (d := d + 3) (y := Int32.ofInt 1) h (by decide)
      have WK := zR_Wd (zR_dn (c3 0 0).1)
      have hw := yx_wrong h.1 hg hV (by decide) c1
      have hN := yN_un (T := T) (n := n) (p := p) (lv := lv) h40 (fun h9 => h1 (s28.trans (yr_s_2.mpr h9))) (fun h9 => h2 (s28.trans (yr_s_3.mpr h9)))
      refine zw_ld (n := 1) (k := 0) (f := zp_isR) (pc' := 87) rfl rfl rfl rfl rfl ?_
      refine zw_s (pc' := 88) rfl rfl ?_
      refine zw_cn (pc' := 91) (zw_cv (q := 72) (Y := zm_180) W.1 rfl rfl zm_180_t rfl rfl) rfl rfl rfl rfl rfl (c1) ?_
      refine zw_ld (n := 1) (k := 0) (f := zp_isR) (pc' := 92) rfl rfl rfl rfl rfl ?_
      refine zw_c (pc' := 95) (zw_cv (q := 72) (Y := zm_175) WK.1 rfl rfl zm_175_t rfl rfl) rfl rfl rfl rfl rfl (zq_good0 (H := K) WK c2) ?_
      refine zw_beq1 (g := 102) (pc' := 98) rfl rfl rfl (rfl : _ = (0 : Int)) (fun hb => ?_) (fun h9 => absurd h9 (by decide))
      refine zw_rn rfl rfl ?_
      exact ⟨K, rfl, c3 1 0, c4, fun h9 => absurd h9 c2, by omega, by omega, Or.inr ⟨_, hw, yA_done hN⟩⟩
    · refine zw_ld (n := 1) (k := 0) (f := zp_isR) (pc' := 54) rfl rfl rfl rfl rfl ?_
      obtain ⟨v, v1, v2⟩ := hK d H h.1
      have v3 := zg_in H
      have v3 : -1 ≤ zg H ∧ zg H ≤ 20 := v3
      have k3 : ys_kd T n p = 3 := yr_s_3.mp (s28.symm.trans h2)
      have hN := yN_wo (T := T) (n := n) (p := p) (lv := lv) k3
      have hz := yr_zg hV.2.2.1 hV.2.1
      rw [if_pos k3] at hz
      have hvb := ys_vl_b k3
      have hm := yw_m8 hvb
      refine zw_c (pc' := 57) (zw_cv (q := 72) (Y := zm_177) W.1 rfl rfl zm_177_t rfl rfl) rfl rfl rfl rfl rfl (v1) ?_
      refine zw_st (n := 1) (k := 1) (f := zp_isI) (pc' := 58) rfl rfl rfl rfl rfl ?_
      refine zw_ld (n := 1) (k := 1) (f := zp_isI) (pc' := 59) rfl rfl zw_g1 rfl rfl ?_
      refine zw_blt1 (g := 68) (pc' := 62) rfl rfl rfl rfl (fun h3 => ?_) (fun h3 => ?_)
      · rw [if_neg (by omega)] at hN
        refine zw_ld (n := 1) (k := 0) (f := zp_isR) (pc' := 69) rfl rfl (zw_gt rfl rfl rfl) rfl rfl ?_
        refine zw_s (pc' := 70) rfl rfl ?_
        obtain ⟨K, c1, c2, c3, c4, c5, c6, c7⟩ := zx_wrong (L := L) (σ := σ) (d := d + 3) (y := Int32.ofInt 3) h (by decide)
        have WK := zR_Wd (zR_dn (c3 0 0).1)
        obtain ⟨u0, u1⟩ := zx_top (c3 0 0)
        have hw := yx_wrong h.1 hg hV (by decide) c1
        refine zw_cn (pc' := 73) (zw_cv (q := 72) (Y := zm_180) W.1 rfl rfl zm_180_t rfl rfl) rfl rfl rfl rfl rfl (c1) ?_
        refine zw_ld (n := 1) (k := 0) (f := zp_isR) (pc' := 74) rfl rfl (zw_gt rfl rfl rfl) rfl rfl ?_
        refine zw_s (pc' := 75) rfl rfl ?_
        refine zw_cn (pc' := 78) (zw_cv (q := 72) (Y := zm_198) WK.1 rfl rfl zm_198_t rfl rfl) rfl rfl rfl rfl rfl (zq_puts (H := K) WK ⟨u0, by show _ < ((1600 : Nat) : Int); omega⟩) ?_
        have e1 : ((zx_pt K (Int32.ofInt 2)).2.1 72 45).toInt = (K.2.1 72 45).toInt + 1 := zx_pt_t (by omega)
        refine zw_ld (n := 1) (k := 0) (f := zp_isR) (pc' := 79) rfl rfl (zw_gt rfl rfl rfl) rfl rfl ?_
        refine zw_ld (n := 1) (k := 1) (f := zp_isI) (pc' := 80) rfl rfl zw_g1 rfl rfl ?_
        refine zw_cn (pc' := 83) (zw_cv (q := 72) (Y := zm_198) WK.1 rfl rfl zm_198_t rfl rfl) rfl rfl rfl rfl rfl (zq_puts (H := zx_pt K (Int32.ofInt 2)) WK ⟨by omega, by show _ < ((1600 : Nat) : Int); omega⟩) ?_
        have hS : ∀ e o, zx_S a e o (zx_pt (zx_pt K (Int32.ofInt 2)) (v)) := fun e o => zx_pp_b (c3 0 0) c2 (by omega)
        have hb9 : ((zx_pt (zx_pt K (Int32.ofInt 2)) (v)).2.1 72 23).toInt ≠ 0 := by rw [zx_pt_f 23 rfl, zx_pt_f 23 rfl]; exact c2
        refine zw_s (pc' := 91) rfl rfl ?_
        refine zw_ld (n := 1) (k := 0) (f := zp_isR) (pc' := 92) rfl rfl (zw_gt rfl rfl rfl) rfl rfl ?_
        refine zw_c (pc' := 95) (zw_cv (q := 72) (Y := zm_175) WK.1 rfl rfl zm_175_t rfl rfl) rfl rfl rfl rfl rfl (zq_good0 (H := zx_pt (zx_pt K (Int32.ofInt 2)) (v)) WK hb9) ?_
        refine zw_beq1 (g := 102) (pc' := 98) rfl rfl rfl (rfl : _ = (0 : Int)) (fun hb => ?_) (fun h9 => absurd h9 (by decide))
        refine zw_rn rfl rfl ?_
        have hp : zx_phi (zx_pt (zx_pt K (Int32.ofInt 2)) (v)) = zx_phi K := by
          unfold zx_phi
          rw [zx_pt_f 27 rfl, zx_pt_f 28 rfl, zx_pt_f 27 rfl, zx_pt_f 28 rfl]
        have e2 : ((zx_pt (zx_pt K (Int32.ofInt 2)) (v)).2.1 72 45).toInt = ((zx_pt K (Int32.ofInt 2)).2.1 72 45).toInt + 1 := zx_pt_t (by omega)
        exact ⟨_, rfl, hS 1 0, zx_F_t c4 (zx_F_t (zx_pt_F (by omega)) (zx_pt_F (by omega))), fun h9 => absurd h9 hb9, by omega, by omega, Or.inr ⟨_, yD_pt (yD_pt hw), yA_done (hN)⟩⟩
      · refine zw_ld (n := 1) (k := 1) (f := zp_isI) (pc' := 63) rfl rfl zw_g1 rfl rfl ?_
        refine zw_s (pc' := 65) rfl rfl ?_
        refine zw_ble2 (g := 73) (pc' := 68) rfl rfl rfl rfl (rfl : _ = (7 : Int)) (fun h4 => ?_) (fun h4 => ?_)
        · rw [if_pos (by omega)] at hN
          refine zw_ld (n := 1) (k := 0) (f := zp_isR) (pc' := 74) rfl rfl (zw_gt rfl rfl rfl) rfl rfl ?_
          refine zw_s (pc' := 75) rfl rfl ?_
          refine zw_cn (pc' := 78) (zw_cv (q := 72) (Y := zm_198) W.1 rfl rfl zm_198_t rfl rfl) rfl rfl rfl rfl rfl (zq_puts (H := H) W ⟨t0, by show _ < ((1600 : Nat) : Int); omega⟩) ?_
          have e1 : ((zx_pt H (Int32.ofInt 2)).2.1 72 45).toInt = (H.2.1 72 45).toInt + 1 := zx_pt_t (by omega)
          refine zw_ld (n := 1) (k := 0) (f := zp_isR) (pc' := 79) rfl rfl (zw_gt rfl rfl rfl) rfl rfl ?_
          refine zw_ld (n := 1) (k := 1) (f := zp_isI) (pc' := 80) rfl rfl zw_g1 rfl rfl ?_
          refine zw_cn (pc' := 83) (zw_cv (q := 72) (Y := zm_198) W.1 rfl rfl zm_198_t rfl rfl) rfl rfl rfl rfl rfl (zq_puts (H := zx_pt H (Int32.ofInt 2)) W ⟨by omega, by show _ < ((1600 : Nat) : Int); omega⟩) ?_
          have hT := zx_pp (c := Int32.ofInt 2) (y := v) h hg (by omega) (by decide)
          refine zw_s (pc' := 91) rfl rfl ?_
          refine zw_ld (n := 1) (k := 0) (f := zp_isR) (pc' := 92) rfl rfl (zw_gt rfl rfl rfl) rfl rfl ?_
          refine zw_c (pc' := 95) (zw_cv (q := 72) (Y := zm_175) W.1 rfl rfl zm_175_t rfl rfl) rfl rfl rfl rfl rfl (zq_good1 (H := zx_pt (zx_pt H (Int32.ofInt 2)) (v)) W hT.2.1) ?_
          refine zw_beq1 (g := 102) (pc' := 98) rfl rfl rfl (rfl : _ = (1 : Int)) (fun h9 => absurd h9 (by decide)) (fun hb => ?_)
          obtain ⟨H1, c1, c2, c3, c4, c5, c6⟩ := zx_T_goes (L := L) (σ := σ) (d := d + 2) hT
          refine zw_ld (n := 1) (k := 0) (f := zp_isR) (pc' := 99) rfl rfl (zw_gt rfl rfl rfl) rfl rfl ?_
          refine zw_cn (pc' := 102) (zw_cv (q := 72) (Y := zm_171) W.1 rfl rfl zm_171_t rfl rfl) rfl rfl rfl rfl rfl (c1) ?_
          refine zw_rn rfl rfl ?_
          have hp : zx_phi (zx_pt (zx_pt H (Int32.ofInt 2)) (v)) = zx_phi H := by
            unfold zx_phi
            rw [zx_pt_f 27 rfl, zx_pt_f 28 rfl, zx_pt_f 27 rfl, zx_pt_f 28 rfl]
          have e2 : ((zx_pt (zx_pt H (Int32.ofInt 2)) (v)).2.1 72 45).toInt = ((zx_pt H (Int32.ofInt 2)).2.1 72 45).toInt + 1 := zx_pt_t (by omega)
          have hgo := (yx_goes hby hT.1 (yV_pt (yV_pt hV)) c1).1
          exact ⟨H1, rfl, c2, zx_F_t (zx_F_t (zx_pt_F ha) (zx_pt_F (by omega))) c3, fun _ => by omega, by omega, by omega, Or.inl ⟨c4, lv, _, hlv, hgo, xRR_s hN (fun a' W' O' k' => by
            show xV a' (xWO T n 1 p W' O').1 (xWO T n 1 p W' O').2 H1
            rw [xWO_vl k3 (by omega) (by decide)]
            exact xV_goes hT.1 c1 (xV_2 (k := 1) (by decide) (by decide) (by omega) (by have := h.2.1; omega) k'))⟩⟩
        · rw [if_neg (by omega)] at hN
          refine zw_ld (n := 1) (k := 0) (f := zp_isR) (pc' := 69) rfl rfl (zw_gt rfl rfl rfl) rfl rfl ?_
          refine zw_s (pc' := 70) rfl rfl ?_
          obtain ⟨K, c1, c2, c3, c4, c5, c6, c7⟩ := zx_wrong (L := L) (σ := σ) (d := d + 3) (y := Int32.ofInt 3) h (by decide)
          have WK := zR_Wd (zR_dn (c3 0 0).1)
          obtain ⟨u0, u1⟩ := zx_top (c3 0 0)
          have hw := yx_wrong h.1 hg hV (by decide) c1
          refine zw_cn (pc' := 73) (zw_cv (q := 72) (Y := zm_180) W.1 rfl rfl zm_180_t rfl rfl) rfl rfl rfl rfl rfl (c1) ?_
          refine zw_ld (n := 1) (k := 0) (f := zp_isR) (pc' := 74) rfl rfl (zw_gt rfl rfl rfl) rfl rfl ?_
          refine zw_s (pc' := 75) rfl rfl ?_
          refine zw_cn (pc' := 78) (zw_cv (q := 72) (Y := zm_198) WK.1 rfl rfl zm_198_t rfl rfl) rfl rfl rfl rfl rfl (zq_puts (H := K) WK ⟨u0, by show _ < ((1600 : Nat) : Int); omega⟩) ?_
          have e1 : ((zx_pt K (Int32.ofInt 2)).2.1 72 45).toInt = (K.2.1 72 45).toInt + 1 := zx_pt_t (by omega)
          refine zw_ld (n := 1) (k := 0) (f := zp_isR) (pc' := 79) rfl rfl (zw_gt rfl rfl rfl) rfl rfl ?_
          refine zw_ld (n := 1) (k := 1) (f := zp_isI) (pc' := 80) rfl rfl zw_g1 rfl rfl ?_
          refine zw_cn (pc' := 83) (zw_cv (q := 72) (Y := zm_198) WK.1 rfl rfl zm_198_t rfl rfl) rfl rfl rfl rfl rfl (zq_puts (H := zx_pt K (Int32.ofInt 2)) WK ⟨by omega, by show _ < ((1600 : Nat) : Int); omega⟩) ?_
          have hS : ∀ e o, zx_S a e o (zx_pt (zx_pt K (Int32.ofInt 2)) (v)) := fun e o => zx_pp_b (c3 0 0) c2 (by omega)
          have hb9 : ((zx_pt (zx_pt K (Int32.ofInt 2)) (v)).2.1 72 23).toInt ≠ 0 := by rw [zx_pt_f 23 rfl, zx_pt_f 23 rfl]; exact c2
          refine zw_s (pc' := 91) rfl rfl ?_
          refine zw_ld (n := 1) (k := 0) (f := zp_isR) (pc' := 92) rfl rfl (zw_gt rfl rfl rfl) rfl rfl ?_
          refine zw_c (pc' := 95) (zw_cv (q := 72) (Y := zm_175) WK.1 rfl rfl zm_175_t rfl rfl) rfl rfl rfl rfl rfl (zq_good0 (H := zx_pt (zx_pt K (Int32.ofInt 2)) (v)) WK hb9) ?_
          refine zw_beq1 (g := 102) (pc' := 98) rfl rfl rfl (rfl : _ = (0 : Int)) (fun hb => ?_) (fun h9 => absurd h9 (by decide))
          refine zw_rn rfl rfl ?_
          have hp : zx_phi (zx_pt (zx_pt K (Int32.ofInt 2)) (v)) = zx_phi K := by
            unfold zx_phi
            rw [zx_pt_f 27 rfl, zx_pt_f 28 rfl, zx_pt_f 27 rfl, zx_pt_f 28 rfl]
          have e2 : ((zx_pt (zx_pt K (Int32.ofInt 2)) (v)).2.1 72 45).toInt = ((zx_pt K (Int32.ofInt 2)).2.1 72 45).toInt + 1 := zx_pt_t (by omega)
          exact ⟨_, rfl, hS 1 0, zx_F_t c4 (zx_F_t (zx_pt_F (by omega)) (zx_pt_F (by omega))), fun h9 => absurd h9 hb9, by omega, by omega, Or.inr ⟨_, yD_pt (yD_pt hw), yA_done (hN)⟩⟩
  · have k2 : ys_kd T n p = 2 := yr_s_2.mp (s28.symm.trans h1)
    have hN := yN_nu (T := T) (n := n) (p := p) (lv := lv) k2
    have hnm := yr_nm hV.2.2.1 hV.2.1 k2
    refine zw_ld (n := 1) (k := 0) (f := zp_isR) (pc' := 17) rfl rfl rfl rfl rfl ?_
    refine zw_gI (q := 72) (pc' := 20) W rfl rfl rfl rfl rfl rfl ?_
    refine zw_s (pc' := 21) rfl rfl ?_
    refine zw_ble2 (g := 29) (pc' := 24) rfl rfl rfl rfl (rfl : _ = (4 : Int)) (fun h2 => ?_) (fun h2 => ?_)
    · rw [if_neg (by omega)] at hN
      refine zw_ld (n := 1) (k := 0) (f := zp_isR) (pc' := 30) rfl rfl rfl rfl rfl ?_
      refine zw_s (pc' := 31) rfl rfl ?_
      refine zw_cn (pc' := 34) (zw_cv (q := 72) (Y := zm_198) W.1 rfl rfl zm_198_t rfl rfl) rfl rfl rfl rfl rfl (zq_puts (H := H) W ⟨t0, by show _ < ((1600 : Nat) : Int); omega⟩) ?_
      have e1 : ((zx_pt H (Int32.ofInt 1)).2.1 72 45).toInt = (H.2.1 72 45).toInt + 1 := zx_pt_t (by omega)
      refine zw_ld (n := 1) (k := 0) (f := zp_isR) (pc' := 35) rfl rfl rfl rfl rfl ?_
      refine zw_ld (n := 1) (k := 0) (f := zp_isR) (pc' := 36) rfl rfl rfl rfl rfl ?_
      refine zw_gI (q := 72) (pc' := 39) W rfl rfl rfl rfl rfl rfl ?_
      refine zw_cn (pc' := 42) (zw_cv (q := 72) (Y := zm_198) W.1 rfl rfl zm_198_t rfl rfl) rfl rfl rfl rfl rfl (zq_puts (H := zx_pt H (Int32.ofInt 1)) W ⟨by omega, by show _ < ((1600 : Nat) : Int); omega⟩) ?_
      have hT := zx_pp (c := Int32.ofInt 1) (y := H.2.1 72 31) h hg (by omega) (by decide)
      refine zw_s (pc' := 91) rfl rfl ?_
      refine zw_ld (n := 1) (k := 0) (f := zp_isR) (pc' := 92) rfl rfl rfl rfl rfl ?_
      refine zw_c (pc' := 95) (zw_cv (q := 72) (Y := zm_175) W.1 rfl rfl zm_175_t rfl rfl) rfl rfl rfl rfl rfl (zq_good1 (H := zx_pt (zx_pt H (Int32.ofInt 1)) (H.2.1 72 31)) W hT.2.1) ?_
      refine zw_beq1 (g := 102) (pc' := 98) rfl rfl rfl (rfl : _ = (1 : Int)) (fun h9 => absurd h9 (by decide)) (fun hb => ?_)
      obtain ⟨H1, c1, c2, c3, c4, c5, c6⟩ := zx_T_goes (L := L) (σ := σ) (d := d + 2) hT
      refine zw_ld (n := 1) (k := 0) (f := zp_isR) (pc' := 99) rfl rfl rfl rfl rfl ?_
      refine zw_cn (pc' := 102) (zw_cv (q := 72) (Y := zm_171) W.1 rfl rfl zm_171_t rfl rfl) rfl rfl rfl rfl rfl (c1) ?_
      refine zw_rn rfl rfl ?_
      have hp : zx_phi (zx_pt (zx_pt H (Int32.ofInt 1)) (H.2.1 72 31)) = zx_phi H := by
        unfold zx_phi
        rw [zx_pt_f 27 rfl, zx_pt_f 28 rfl, zx_pt_f 27 rfl, zx_pt_f 28 rfl]
      have e2 : ((zx_pt (zx_pt H (Int32.ofInt 1)) (H.2.1 72 31)).2.1 72 45).toInt = ((zx_pt H (Int32.ofInt 1)).2.1 72 45).toInt + 1 := zx_pt_t (by omega)
      have hgo := (yx_goes hby hT.1 (yV_pt (yV_pt hV)) c1).1
      exact ⟨H1, rfl, c2, zx_F_t (zx_F_t (zx_pt_F ha) (zx_pt_F (by omega))) c3, fun _ => by omega, by omega, by omega, Or.inl ⟨c4, lv, _, hlv, hgo, xRR_s hN (fun a' W' O' k' => by
            show xV a' (xWO T n 1 p W' O').1 (xWO T n 1 p W' O').2 H1
            rw [xWO_nu k2 (by decide)]
            exact xV_goes hT.1 c1 (xV_2 (k := 0) (by decide) (by decide) (by omega) (by have := h.2.1; omega) k'))⟩⟩
    · rw [if_pos (by omega)] at hN
      refine zw_ld (n := 1) (k := 0) (f := zp_isR) (pc' := 25) rfl rfl rfl rfl rfl ?_
      refine zw_s (pc' := 26) rfl rfl ?_
      obtain ⟨K, c1, c2, c3, c4, c5, c6, c7⟩ := zx_wrong (L := L) (σ := σ) (d := d + 3) (y := Int32.ofInt 2) h (by decide)
      have WK := zR_Wd (zR_dn (c3 0 0).1)
      obtain ⟨u0, u1⟩ := zx_top (c3 0 0)
      have hw := yx_wrong h.1 hg hV (by decide) c1
      refine zw_cn (pc' := 29) (zw_cv (q := 72) (Y := zm_180) W.1 rfl rfl zm_180_t rfl rfl) rfl rfl rfl rfl rfl (c1) ?_
      refine zw_ld (n := 1) (k := 0) (f := zp_isR) (pc' := 30) rfl rfl rfl rfl rfl ?_
      refine zw_s (pc' := 31) rfl rfl ?_
      refine zw_cn (pc' := 34) (zw_cv (q := 72) (Y := zm_198) WK.1 rfl rfl zm_198_t rfl rfl) rfl rfl rfl rfl rfl (zq_puts (H := K) WK ⟨u0, by show _ < ((1600 : Nat) : Int); omega⟩) ?_
      have e1 : ((zx_pt K (Int32.ofInt 1)).2.1 72 45).toInt = (K.2.1 72 45).toInt + 1 := zx_pt_t (by omega)
      refine zw_ld (n := 1) (k := 0) (f := zp_isR) (pc' := 35) rfl rfl rfl rfl rfl ?_
      refine zw_ld (n := 1) (k := 0) (f := zp_isR) (pc' := 36) rfl rfl rfl rfl rfl ?_
      refine zw_gI (q := 72) (pc' := 39) WK rfl rfl rfl rfl rfl rfl ?_
      refine zw_cn (pc' := 42) (zw_cv (q := 72) (Y := zm_198) WK.1 rfl rfl zm_198_t rfl rfl) rfl rfl rfl rfl rfl (zq_puts (H := zx_pt K (Int32.ofInt 1)) WK ⟨by omega, by show _ < ((1600 : Nat) : Int); omega⟩) ?_
      have hS : ∀ e o, zx_S a e o (zx_pt (zx_pt K (Int32.ofInt 1)) (K.2.1 72 31)) := fun e o => zx_pp_b (c3 0 0) c2 (by omega)
      have hb9 : ((zx_pt (zx_pt K (Int32.ofInt 1)) (K.2.1 72 31)).2.1 72 23).toInt ≠ 0 := by rw [zx_pt_f 23 rfl, zx_pt_f 23 rfl]; exact c2
      refine zw_s (pc' := 91) rfl rfl ?_
      refine zw_ld (n := 1) (k := 0) (f := zp_isR) (pc' := 92) rfl rfl rfl rfl rfl ?_
      refine zw_c (pc' := 95) (zw_cv (q := 72) (Y := zm_175) WK.1 rfl rfl zm_175_t rfl rfl) rfl rfl rfl rfl rfl (zq_good0 (H := zx_pt (zx_pt K (Int32.ofInt 1)) (K.2.1 72 31)) WK hb9) ?_
      refine zw_beq1 (g := 102) (pc' := 98) rfl rfl rfl (rfl : _ = (0 : Int)) (fun hb => ?_) (fun h9 => absurd h9 (by decide))
      refine zw_rn rfl rfl ?_
      have hp : zx_phi (zx_pt (zx_pt K (Int32.ofInt 1)) (K.2.1 72 31)) = zx_phi K := by
        unfold zx_phi
        rw [zx_pt_f 27 rfl, zx_pt_f 28 rfl, zx_pt_f 27 rfl, zx_pt_f 28 rfl]
      have e2 : ((zx_pt (zx_pt K (Int32.ofInt 1)) (K.2.1 72 31)).2.1 72 45).toInt = ((zx_pt K (Int32.ofInt 1)).2.1 72 45).toInt + 1 := zx_pt_t (by omega)
      exact ⟨_, rfl, hS 1 0, zx_F_t c4 (zx_F_t (zx_pt_F (by omega)) (zx_pt_F (by omega))), fun h9 => absurd h9 hb9, by omega, by omega, Or.inr ⟨_, yD_pt (yD_pt hw), yA_done (hN)⟩⟩
