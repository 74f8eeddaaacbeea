section
/-! ===== the reference reads an expression ===== -/
def zm_192 : za_MI := (yX12_expression, prog_14_method_35_code, 3, none, 12, 0, 0, [], za_i192)
theorem zm_192_t : za_MT 192 = some zm_192 := rfl
theorem zx_enT {a : Nat} {H0 H : zp_H} (h : zx_S a 1 0 H) (hF : zx_F a H0 H) (ha : (a : Int) ≤ (H.2.1 72 45).toInt) (hp : zx_phi H0 ≤ zx_phi H) (hw : (H.2.1 72 23).toInt = 0 → (H.2.1 72 46).toInt = 0) : (fun X : zp_X => ∃ H1, X = (.inl none, H1) ∧ zk_Bs zR zg zJ H1 ∧ zx_F a H0 H1 ∧ (a : Int) ≤ (H1.2.1 72 45).toInt ∧ (H1.2.1 72 45).toInt ≤ 1402 ∧ ((H1.2.1 72 23).toInt = 0 → zx_phi H0 ≤ zx_phi H1 ∧ (H1.2.1 72 45).toInt + 1 ≤ zx_phi H1 ∧ ∃ n b m, zr_run (H1.2.1 90) n a 0 = some (b, m) ∧ (b : Int) + 1 = (H1.2.1 72 45).toInt ∧ (H1.2.1 90 b).toInt = 0)) (Sum.inl none, zx_pt H (Int32.ofInt 0)) := by
  obtain ⟨t0, w0⟩ := zx_top h
  obtain ⟨hB, h2, h3, hg⟩ := h
  have e1 : ((zx_pt H (Int32.ofInt 0)).2.1 72 45).toInt = (H.2.1 72 45).toInt + 1 := zx_pt_t (by omega)
  refine ⟨zx_pt H (Int32.ofInt 0), rfl, zx_pt_B hB (by omega), zx_F_t hF (zx_pt_F ha), by omega, by omega, fun h9 => ?_⟩
  rw [zx_pt_f 23 rfl] at h9
  obtain ⟨g1, g2, g3, g4, n, g5⟩ := hg h9
  have hphi : zx_phi (zx_pt H (Int32.ofInt 0)) = zx_phi H := zx_phi_e (zx_pt_f 27 rfl) (zx_pt_f 28 rfl)
  have hw := hw h9
  refine ⟨by omega, by omega, n, (H.2.1 72 45).toInt.toNat, _, zr_run_c (c := H.2.1 90) (b := (H.2.1 72 45).toInt.toNat) (fun i hi => zx_pt_c (by omega)) g5 (Nat.le_refl _), by omega, ?_⟩
  rw [zx_pt_y]
  rfl

set_option maxRecDepth 8000 in
set_option maxHeartbeats 4000000 in
theorem zx_exE {L : Nat} {σ : Nat → Int32} {d a : Nat} {H0 : zp_H} {H : zp_H} {lv : zp_LV} (l0 : zp_get lv 0 = some (.inr (.inr (some 73)))) (h : zx_S a 1 0 H) (hF : zx_F a H0 H) (ha : (a : Int) ≤ (H.2.1 72 45).toInt) (hp : zx_phi H0 ≤ zx_phi H) : zs_Safe L σ (fun X : zp_X => ∃ H1, X = (.inl none, H1) ∧ zk_Bs zR zg zJ H1 ∧ zx_F a H0 H1 ∧ (a : Int) ≤ (H1.2.1 72 45).toInt ∧ (H1.2.1 72 45).toInt ≤ 1402 ∧ ((H1.2.1 72 23).toInt = 0 → zx_phi H0 ≤ zx_phi H1 ∧ (H1.2.1 72 45).toInt + 1 ≤ zx_phi H1 ∧ ∃ n b m, zr_run (H1.2.1 90) n a 0 = some (b, m) ∧ (b : Int) + 1 = (H1.2.1 72 45).toInt ∧ (H1.2.1 90 b).toInt = 0)) zm_192 [] (d + 6) (325, lv, [], H, (0, 0)) := by
  have W := zR_Wd (zR_dn h.1)
  obtain ⟨t0, w0⟩ := zx_top h
  refine zw_ld (n := 1) (k := 0) (f := zp_isR) (pc' := 326) rfl rfl l0 rfl rfl ?_
  by_cases hg : (H.2.1 72 23).toInt = 0
  · refine zw_c (pc' := 329) (zw_cv (q := 72) (Y := zm_175) W.1 rfl rfl zm_175_t rfl rfl) rfl rfl rfl rfl rfl (zq_good1 W hg) ?_
    refine zw_beq1 (g := 345) (pc' := 332) rfl rfl rfl (rfl : _ = (1 : Int)) (fun h9 => absurd h9 (by decide)) (fun hb => ?_)
    refine zw_ld (n := 1) (k := 0) (f := zp_isR) (pc' := 333) rfl rfl l0 rfl rfl ?_
    refine zw_gI (q := 72) (pc' := 336) W rfl rfl rfl rfl rfl rfl ?_
    refine zw_s (pc' := 337) rfl rfl ?_
    refine zw_ble2 (g := 345) (pc' := 340) rfl rfl rfl rfl (rfl : _ = (1 : Int)) (fun hd => ?_) (fun hd => ?_)
    · obtain ⟨_, p1, Q, rfl, p2, p3, p4, p5, p6⟩ := zx_drops (L := L) (σ := σ) (d := d + 3) (y := Int32.ofInt 0) h ha
      have WQ := zR_Wd (zR_dn p2.1)
      have q23 := zx_fe p3.1 23 rfl rfl rfl
      have hphQ := zx_phi_i (zx_fe p3.1 27 rfl rfl rfl) (zx_fe p3.1 28 rfl rfl rfl)
      obtain ⟨u0, u1⟩ := zx_top p2
      have u2 := p2.2.1
      refine zw_ld (n := 1) (k := 0) (f := zp_isR) (pc' := 346) rfl rfl l0 rfl rfl ?_
      refine zw_s (pc' := 347) rfl rfl ?_
      refine zw_cn (pc' := 350) (zw_cv (q := 72) (Y := zm_199) W.1 rfl rfl zm_199_t rfl rfl) rfl rfl rfl rfl rfl (p1) ?_
      refine zw_ld (n := 1) (k := 0) (f := zp_isR) (pc' := 351) rfl rfl l0 rfl rfl ?_
      refine zw_s (pc' := 352) rfl rfl ?_
      refine zw_cn (pc' := 355) (zw_cv (q := 72) (Y := zm_198) WQ.1 rfl rfl zm_198_t rfl rfl) rfl rfl rfl rfl rfl (zq_puts WQ ⟨u0, by show _ < ((1600 : Nat) : Int); omega⟩) ?_
      refine zw_rn rfl rfl ?_
      refine zx_enT p2 (zx_F_t hF (zx_Fd_F p3)) (by omega) (by omega) ?_
      intro h9
      have g3 := (h.2.2.2 hg).2.2.1
      rcases p6 (by decide) with h8 | h8
      · exact h8
      · by_cases h7 : (Q.2.1 72 46).toInt = 0
        · exact h7
        · have := zr_opn_1 (w := Q.2.1 91) (n := (Q.2.1 72 46).toInt.toNat) (i := ((Q.2.1 72 46).toInt - 1).toNat) (by omega) h8
          omega
    · refine zw_ld (n := 1) (k := 0) (f := zp_isR) (pc' := 341) rfl rfl l0 rfl rfl ?_
      refine zw_s (pc' := 342) rfl rfl ?_
      obtain ⟨K, c1, c2, c3, c4, c5, c6, c7⟩ := zx_wrong (L := L) (σ := σ) (d := d + 5) (y := Int32.ofInt 1) h (by decide)
      have WK := zR_Wd (zR_dn (c3 0 0).1)
      refine zw_cn (pc' := 345) (zw_cv (q := 72) (Y := zm_180) W.1 rfl rfl zm_180_t rfl rfl) rfl rfl rfl rfl rfl (c1) ?_
      obtain ⟨_, p1, Q, rfl, p2, p3, p4, p5, p6⟩ := zx_drops (L := L) (σ := σ) (d := d + 3) (y := Int32.ofInt 0) (c3 1 0) (by omega)
      have WQ := zR_Wd (zR_dn p2.1)
      have q23 := zx_fe p3.1 23 rfl rfl rfl
      have hphQ := zx_phi_i (zx_fe p3.1 27 rfl rfl rfl) (zx_fe p3.1 28 rfl rfl rfl)
      obtain ⟨u0, u1⟩ := zx_top p2
      have u2 := p2.2.1
      refine zw_ld (n := 1) (k := 0) (f := zp_isR) (pc' := 346) rfl rfl l0 rfl rfl ?_
      refine zw_s (pc' := 347) rfl rfl ?_
      refine zw_cn (pc' := 350) (zw_cv (q := 72) (Y := zm_199) WK.1 rfl rfl zm_199_t rfl rfl) rfl rfl rfl rfl rfl (p1) ?_
      refine zw_ld (n := 1) (k := 0) (f := zp_isR) (pc' := 351) rfl rfl l0 rfl rfl ?_
      refine zw_s (pc' := 352) rfl rfl ?_
      refine zw_cn (pc' := 355) (zw_cv (q := 72) (Y := zm_198) WQ.1 rfl rfl zm_198_t rfl rfl) rfl rfl rfl rfl rfl (zq_puts WQ ⟨u0, by show _ < ((1600 : Nat) : Int); omega⟩) ?_
      refine zw_rn rfl rfl ?_
      refine zx_enT p2 (zx_F_t (zx_F_t hF c4) (zx_Fd_F p3)) (by omega) (by omega) ?_
      exact fun h9 => absurd (by omega) c2
  · refine zw_c (pc' := 329) (zw_cv (q := 72) (Y := zm_175) W.1 rfl rfl zm_175_t rfl rfl) rfl rfl rfl rfl rfl (zq_good0 W hg) ?_
    refine zw_beq1 (g := 345) (pc' := 332) rfl rfl rfl (rfl : _ = (0 : Int)) (fun hb => ?_) (fun h9 => absurd h9 (by decide))
    obtain ⟨_, p1, Q, rfl, p2, p3, p4, p5, p6⟩ := zx_drops (L := L) (σ := σ) (d := d + 3) (y := Int32.ofInt 0) h ha
    have WQ := zR_Wd (zR_dn p2.1)
    have q23 := zx_fe p3.1 23 rfl rfl rfl
    have hphQ := zx_phi_i (zx_fe p3.1 27 rfl rfl rfl) (zx_fe p3.1 28 rfl rfl rfl)
    obtain ⟨u0, u1⟩ := zx_top p2
    have u2 := p2.2.1
    refine zw_ld (n := 1) (k := 0) (f := zp_isR) (pc' := 346) rfl rfl l0 rfl rfl ?_
    refine zw_s (pc' := 347) rfl rfl ?_
    refine zw_cn (pc' := 350) (zw_cv (q := 72) (Y := zm_199) W.1 rfl rfl zm_199_t rfl rfl) rfl rfl rfl rfl rfl (p1) ?_
    refine zw_ld (n := 1) (k := 0) (f := zp_isR) (pc' := 351) rfl rfl l0 rfl rfl ?_
    refine zw_s (pc' := 352) rfl rfl ?_
    refine zw_cn (pc' := 355) (zw_cv (q := 72) (Y := zm_198) WQ.1 rfl rfl zm_198_t rfl rfl) rfl rfl rfl rfl rfl (zq_puts WQ ⟨u0, by show _ < ((1600 : Nat) : Int); omega⟩) ?_
    refine zw_rn rfl rfl ?_
    refine zx_enT p2 (zx_F_t hF (zx_Fd_F p3)) (by omega) (by omega) ?_
    exact fun h9 => absurd (by omega) hg

set_option maxRecDepth 8000 in
set_option maxHeartbeats 4000000 in
theorem zx_ex297 {L : Nat} {σ : Nat → Int32} {d a : Nat} {H0 : zp_H} {H : zp_H} {lv : zp_LV} {x1 : Int32} (hK : zx_KW L σ) (l0 : zp_get lv 0 = some (.inr (.inr (some 73)))) (l1 : zp_get lv 1 = some (.inl x1)) (h : zx_S a 1 0 H) (hF : zx_F a H0 H) (ha : (a : Int) ≤ (H.2.1 72 45).toInt) (hp : zx_phi H0 ≤ zx_phi H) (hg : (H.2.1 72 23).toInt = 0) (bk : ∀ (R : zp_H) (lv1 : zp_LV) (x : Int32), zp_get lv1 0 = some (.inr (.inr (some 73))) → zp_get lv1 1 = some (.inl x) → zx_S a 1 0 R → zx_F a H0 R → (a : Int) ≤ (R.2.1 72 45).toInt → zx_phi H0 ≤ zx_phi R → (zx_phi H + 2 ≤ zx_phi R ∨ (x.toInt = 0 ∧ zx_phi H ≤ zx_phi R)) → zs_Safe L σ (fun X : zp_X => ∃ H1, X = (.inl none, H1) ∧ zk_Bs zR zg zJ H1 ∧ zx_F a H0 H1 ∧ (a : Int) ≤ (H1.2.1 72 45).toInt ∧ (H1.2.1 72 45).toInt ≤ 1402 ∧ ((H1.2.1 72 23).toInt = 0 → zx_phi H0 ≤ zx_phi H1 ∧ (H1.2.1 72 45).toInt + 1 ≤ zx_phi H1 ∧ ∃ n b m, zr_run (H1.2.1 90) n a 0 = some (b, m) ∧ (b : Int) + 1 = (H1.2.1 72 45).toInt ∧ (H1.2.1 90 b).toInt = 0)) zm_192 [] (d + 6) (29, lv1, [], R, (0, 0))) : zs_Safe L σ (fun X : zp_X => ∃ H1, X = (.inl none, H1) ∧ zk_Bs zR zg zJ H1 ∧ zx_F a H0 H1 ∧ (a : Int) ≤ (H1.2.1 72 45).toInt ∧ (H1.2.1 72 45).toInt ≤ 1402 ∧ ((H1.2.1 72 23).toInt = 0 → zx_phi H0 ≤ zx_phi H1 ∧ (H1.2.1 72 45).toInt + 1 ≤ zx_phi H1 ∧ ∃ n b m, zr_run (H1.2.1 90) n a 0 = some (b, m) ∧ (b : Int) + 1 = (H1.2.1 72 45).toInt ∧ (H1.2.1 90 b).toInt = 0)) zm_192 [] (d + 6) (297, lv, [], H, (0, 0)) := by
  have W := zR_Wd (zR_dn h.1)
  have pH := zx_phi_le h.1
  have wb := h.2.2.1
  have hdp := zR_fr1 (zR_dn h.1) (k := 47) (r := (0, 6)) rfl rfl
  have hdp : 0 ≤ (H.2.1 72 47).toInt ∧ (H.2.1 72 47).toInt ≤ 6 := hdp
  refine zw_ld (n := 1) (k := 0) (f := zp_isR) (pc' := 298) rfl rfl l0 rfl rfl ?_
  refine zw_s (pc' := 300) rfl rfl ?_
  by_cases h41 : (H.2.1 72 28).toInt = 3 ∧ (H.2.1 72 32).toInt = (Int32.ofInt 41).toInt
  · refine zw_c (pc' := 303) (zw_cv (q := 72) (Y := zm_194) W.1 rfl rfl zm_194_t rfl rfl) rfl rfl rfl rfl rfl (zq_sign1 W h41) ?_
    refine zw_beq1 (g := 320) (pc' := 306) rfl rfl rfl (rfl : _ = (1 : Int)) (fun h9 => absurd h9 (by decide)) (fun hb => ?_)
    refine zw_ld (n := 1) (k := 0) (f := zp_isR) (pc' := 307) rfl rfl l0 rfl rfl ?_
    obtain ⟨_, i1, u, rfl, i2⟩ := zx_isOpened (L := L) (σ := σ) (d := d + 4) W ⟨(zx_top h).2, wb⟩
    rcases i2 with ⟨rfl, ii, i3, i4⟩ | rfl
    · refine zw_c (pc' := 310) (zw_cv (q := 72) (Y := zm_202) W.1 rfl rfl zm_202_t rfl rfl) rfl rfl rfl rfl rfl (i1) ?_
      refine zw_beq1 (g := 320) (pc' := 313) rfl rfl rfl (rfl : _ = (1 : Int)) (fun h9 => absurd h9 (by decide)) (fun hb => ?_)
      obtain ⟨_, c1, R, rfl, c2, c3, c4, c5⟩ := zx_closes (L := L) (σ := σ) (d := d + 2) h hg (by omega) (zr_opn_1 i3 i4)
      refine zw_ld (n := 1) (k := 0) (f := zp_isR) (pc' := 314) rfl rfl l0 rfl rfl ?_
      refine zw_cn (pc' := 317) (zw_cv (q := 72) (Y := zm_203) W.1 rfl rfl zm_203_t rfl rfl) rfl rfl rfl rfl rfl (c1) ?_
      refine zw_s (pc' := 322) rfl rfl ?_
      refine zw_s (pc' := 29) rfl rfl ?_
      exact bk R _ _ l0 l1 c2 (zx_F_t hF c3) (zx_S_a c2 c4) (by omega) (Or.inl c5)
    · refine zw_c (pc' := 310) (zw_cv (q := 72) (Y := zm_202) W.1 rfl rfl zm_202_t rfl rfl) rfl rfl rfl rfl rfl (i1) ?_
      refine zw_beq1 (g := 320) (pc' := 313) rfl rfl rfl (rfl : _ = (0 : Int)) (fun hb => ?_) (fun h9 => absurd h9 (by decide))
      refine zw_s (pc' := 321) rfl rfl ?_
      refine zw_st (n := 1) (k := 1) (f := zp_isI) (pc' := 322) rfl rfl rfl rfl rfl ?_
      refine zw_s (pc' := 29) rfl rfl ?_
      exact bk H _ _ (zw_gt l0 rfl rfl) zw_g1 h hF ha hp (Or.inr ⟨rfl, Int.le_refl _⟩)
  · refine zw_c (pc' := 303) (zw_cv (q := 72) (Y := zm_194) W.1 rfl rfl zm_194_t rfl rfl) rfl rfl rfl rfl rfl (zq_sign0 W h41) ?_
    refine zw_beq1 (g := 320) (pc' := 306) rfl rfl rfl (rfl : _ = (0 : Int)) (fun hb => ?_) (fun h9 => absurd h9 (by decide))
    refine zw_s (pc' := 321) rfl rfl ?_
    refine zw_st (n := 1) (k := 1) (f := zp_isI) (pc' := 322) rfl rfl rfl rfl rfl ?_
    refine zw_s (pc' := 29) rfl rfl ?_
    exact bk H _ _ (zw_gt l0 rfl rfl) zw_g1 h hF ha hp (Or.inr ⟨rfl, Int.le_refl _⟩)

set_option maxRecDepth 8000 in
set_option maxHeartbeats 4000000 in
theorem zx_ex241d {L : Nat} {σ : Nat → Int32} {d a : Nat} {H0 : zp_H} {H : zp_H} {lv : zp_LV} {x1 : Int32} (hK : zx_KW L σ) (l0 : zp_get lv 0 = some (.inr (.inr (some 73)))) (l1 : zp_get lv 1 = some (.inl x1)) (hs : (H.2.1 72 28).toInt = 3) (h : zx_S a 1 0 H) (hF : zx_F a H0 H) (ha : (a : Int) ≤ (H.2.1 72 45).toInt) (hp : zx_phi H0 ≤ zx_phi H) (hg : (H.2.1 72 23).toInt = 0) (bk : ∀ (R : zp_H) (lv1 : zp_LV) (x : Int32), zp_get lv1 0 = some (.inr (.inr (some 73))) → zp_get lv1 1 = some (.inl x) → zx_S a 1 0 R → zx_F a H0 R → (a : Int) ≤ (R.2.1 72 45).toInt → zx_phi H0 ≤ zx_phi R → (zx_phi H + 2 ≤ zx_phi R ∨ (x.toInt = 0 ∧ zx_phi H ≤ zx_phi R)) → zs_Safe L σ (fun X : zp_X => ∃ H1, X = (.inl none, H1) ∧ zk_Bs zR zg zJ H1 ∧ zx_F a H0 H1 ∧ (a : Int) ≤ (H1.2.1 72 45).toInt ∧ (H1.2.1 72 45).toInt ≤ 1402 ∧ ((H1.2.1 72 23).toInt = 0 → zx_phi H0 ≤ zx_phi H1 ∧ (H1.2.1 72 45).toInt + 1 ≤ zx_phi H1 ∧ ∃ n b m, zr_run (H1.2.1 90) n a 0 = some (b, m) ∧ (b : Int) + 1 = (H1.2.1 72 45).toInt ∧ (H1.2.1 90 b).toInt = 0)) zm_192 [] (d + 6) (29, lv1, [], R, (0, 0))) : zs_Safe L σ (fun X : zp_X => ∃ H1, X = (.inl none, H1) ∧ zk_Bs zR zg zJ H1 ∧ zx_F a H0 H1 ∧ (a : Int) ≤ (H1.2.1 72 45).toInt ∧ (H1.2.1 72 45).toInt ≤ 1402 ∧ ((H1.2.1 72 23).toInt = 0 → zx_phi H0 ≤ zx_phi H1 ∧ (H1.2.1 72 45).toInt + 1 ≤ zx_phi H1 ∧ ∃ n b m, zr_run (H1.2.1 90) n a 0 = some (b, m) ∧ (b : Int) + 1 = (H1.2.1 72 45).toInt ∧ (H1.2.1 90 b).toInt = 0)) zm_192 [] (d + 6) (259, lv, [], H, (0, 0)) := by
  have W := zR_Wd (zR_dn h.1)
  have pH := zx_phi_le h.1
  have wb := h.2.2.1
  have hdp := zR_fr1 (zR_dn h.1) (k := 47) (r := (0, 6)) rfl rfl
  have hdp : 0 ≤ (H.2.1 72 47).toInt ∧ (H.2.1 72 47).toInt ≤ 6 := hdp
  refine zw_ld (n := 1) (k := 0) (f := zp_isR) (pc' := 260) rfl rfl l0 rfl rfl ?_
  refine zw_s (pc' := 262) rfl rfl ?_
  obtain ⟨_, p1, Q, rfl, p2, p3, p4, p5, p6⟩ := zx_drops (L := L) (σ := σ) (d := d + 3) (y := Int32.ofInt 6) h ha
  have WQ := zR_Wd (zR_dn p2.1)
  have q23 := zx_fe p3.1 23 rfl rfl rfl
  have q28 := zx_fe p3.1 28 rfl rfl rfl
  have q47 := zx_fe p3.1 47 rfl rfl rfl
  have hphQ := zx_phi_i (zx_fe p3.1 27 rfl rfl rfl) q28
  obtain ⟨u0, u1⟩ := zx_top p2
  have u2 := p2.2.2.1
  refine zw_cn (pc' := 265) (zw_cv (q := 72) (Y := zm_199) W.1 rfl rfl zm_199_t rfl rfl) rfl rfl rfl rfl rfl (p1) ?_
  refine zw_ld (n := 1) (k := 0) (f := zp_isR) (pc' := 266) rfl rfl l0 rfl rfl ?_
  refine zw_ld (n := 1) (k := 0) (f := zp_isR) (pc' := 267) rfl rfl l0 rfl rfl ?_
  refine zw_s (pc' := 269) rfl rfl ?_
  by_cases hch : (Q.2.1 72 28).toInt = 3 ∧ (Q.2.1 72 32).toInt = (Int32.ofInt 42).toInt
  · refine zw_c (pc' := 272) (zw_cv (q := 72) (Y := zm_194) WQ.1 rfl rfl zm_194_t rfl rfl) rfl rfl rfl rfl rfl (zq_sign1 WQ hch) ?_
    refine zw_beq1 (g := 280) (pc' := 275) rfl rfl rfl (rfl : _ = (1 : Int)) (fun h9 => absurd h9 (by decide)) (fun hb => ?_)
    refine zw_s (pc' := 277) rfl rfl ?_
    refine zw_s (pc' := 282) rfl rfl ?_
    obtain ⟨m1, m2, m3, m4⟩ := zx_wait (y := Int32.ofInt 10) p2 (by omega) (by omega) (by decide)
    have hT := m4 0 0 rfl rfl
    have f45 : (zx_wt Q (Int32.ofInt 10)).2.1 72 45 = Q.2.1 72 45 := zx_wt_f 45 rfl
    refine zw_cn (pc' := 285) (zw_cv (q := 72) (Y := zm_196) WQ.1 rfl rfl zm_196_t rfl rfl) rfl rfl rfl rfl rfl (zq_waits WQ ⟨u1, by show _ < ((800 : Nat) : Int); omega⟩) ?_
    refine zw_ld (n := 1) (k := 0) (f := zp_isR) (pc' := 286) rfl rfl l0 rfl rfl ?_
    obtain ⟨K, c1, c2, c3, c4, c5, c6⟩ := zx_T_goes (L := L) (σ := σ) (d := d + 4) hT
    have WK := zR_Wd (zR_dn c2.1)
    have aK : (a : Int) ≤ (K.2.1 72 45).toInt := zx_S_a c2 c4
    refine zw_cn (pc' := 289) (zw_cv (q := 72) (Y := zm_171) WQ.1 rfl rfl zm_171_t rfl rfl) rfl rfl rfl rfl rfl (c1) ?_
    obtain ⟨_, d1, R, rfl, d2, d3, d4, d5, d6⟩ := zx_operand (L := L) (σ := σ) (d := d) (y := Int32.ofInt 0) hK c2 aK
    refine zw_ld (n := 1) (k := 0) (f := zp_isR) (pc' := 290) rfl rfl l0 rfl rfl ?_
    refine zw_s (pc' := 291) rfl rfl ?_
    refine zw_cn (pc' := 294) (zw_cv (q := 72) (Y := zm_195) WK.1 rfl rfl zm_195_t rfl rfl) rfl rfl rfl rfl rfl (d1) ?_
    refine zw_s (pc' := 322) rfl rfl ?_
    refine zw_s (pc' := 29) rfl rfl ?_
    exact bk R _ _ l0 l1 d2 (zx_F_t (zx_F_t (zx_F_t (zx_F_t hF (zx_Fd_F p3)) m1) c3) d3) d5 (by omega) (Or.inl (by omega))
  · refine zw_c (pc' := 272) (zw_cv (q := 72) (Y := zm_194) WQ.1 rfl rfl zm_194_t rfl rfl) rfl rfl rfl rfl rfl (zq_sign0 WQ hch) ?_
    refine zw_beq1 (g := 280) (pc' := 275) rfl rfl rfl (rfl : _ = (0 : Int)) (fun hb => ?_) (fun h9 => absurd h9 (by decide))
    refine zw_s (pc' := 282) rfl rfl ?_
    obtain ⟨m1, m2, m3, m4⟩ := zx_wait (y := Int32.ofInt 11) p2 (by omega) (by omega) (by decide)
    have hT := m4 0 0 rfl rfl
    have f45 : (zx_wt Q (Int32.ofInt 11)).2.1 72 45 = Q.2.1 72 45 := zx_wt_f 45 rfl
    refine zw_cn (pc' := 285) (zw_cv (q := 72) (Y := zm_196) WQ.1 rfl rfl zm_196_t rfl rfl) rfl rfl rfl rfl rfl (zq_waits WQ ⟨u1, by show _ < ((800 : Nat) : Int); omega⟩) ?_
    refine zw_ld (n := 1) (k := 0) (f := zp_isR) (pc' := 286) rfl rfl l0 rfl rfl ?_
    obtain ⟨K, c1, c2, c3, c4, c5, c6⟩ := zx_T_goes (L := L) (σ := σ) (d := d + 4) hT
    have WK := zR_Wd (zR_dn c2.1)
    have aK : (a : Int) ≤ (K.2.1 72 45).toInt := zx_S_a c2 c4
    refine zw_cn (pc' := 289) (zw_cv (q := 72) (Y := zm_171) WQ.1 rfl rfl zm_171_t rfl rfl) rfl rfl rfl rfl rfl (c1) ?_
    obtain ⟨_, d1, R, rfl, d2, d3, d4, d5, d6⟩ := zx_operand (L := L) (σ := σ) (d := d) (y := Int32.ofInt 0) hK c2 aK
    refine zw_ld (n := 1) (k := 0) (f := zp_isR) (pc' := 290) rfl rfl l0 rfl rfl ?_
    refine zw_s (pc' := 291) rfl rfl ?_
    refine zw_cn (pc' := 294) (zw_cv (q := 72) (Y := zm_195) WK.1 rfl rfl zm_195_t rfl rfl) rfl rfl rfl rfl rfl (d1) ?_
    refine zw_s (pc' := 322) rfl rfl ?_
    refine zw_s (pc' := 29) rfl rfl ?_
    exact bk R _ _ l0 l1 d2 (zx_F_t (zx_F_t (zx_F_t (zx_F_t hF (zx_Fd_F p3)) m1) c3) d3) d5 (by omega) (Or.inl (by omega))

set_option maxRecDepth 8000 in
set_option maxHeartbeats 4000000 in
theorem zx_ex241 {L : Nat} {σ : Nat → Int32} {d a : Nat} {H0 : zp_H} {H : zp_H} {lv : zp_LV} {x1 : Int32} (hK : zx_KW L σ) (l0 : zp_get lv 0 = some (.inr (.inr (some 73)))) (l1 : zp_get lv 1 = some (.inl x1)) (h : zx_S a 1 0 H) (hF : zx_F a H0 H) (ha : (a : Int) ≤ (H.2.1 72 45).toInt) (hp : zx_phi H0 ≤ zx_phi H) (hg : (H.2.1 72 23).toInt = 0) (bk : ∀ (R : zp_H) (lv1 : zp_LV) (x : Int32), zp_get lv1 0 = some (.inr (.inr (some 73))) → zp_get lv1 1 = some (.inl x) → zx_S a 1 0 R → zx_F a H0 R → (a : Int) ≤ (R.2.1 72 45).toInt → zx_phi H0 ≤ zx_phi R → (zx_phi H + 2 ≤ zx_phi R ∨ (x.toInt = 0 ∧ zx_phi H ≤ zx_phi R)) → zs_Safe L σ (fun X : zp_X => ∃ H1, X = (.inl none, H1) ∧ zk_Bs zR zg zJ H1 ∧ zx_F a H0 H1 ∧ (a : Int) ≤ (H1.2.1 72 45).toInt ∧ (H1.2.1 72 45).toInt ≤ 1402 ∧ ((H1.2.1 72 23).toInt = 0 → zx_phi H0 ≤ zx_phi H1 ∧ (H1.2.1 72 45).toInt + 1 ≤ zx_phi H1 ∧ ∃ n b m, zr_run (H1.2.1 90) n a 0 = some (b, m) ∧ (b : Int) + 1 = (H1.2.1 72 45).toInt ∧ (H1.2.1 90 b).toInt = 0)) zm_192 [] (d + 6) (29, lv1, [], R, (0, 0))) : zs_Safe L σ (fun X : zp_X => ∃ H1, X = (.inl none, H1) ∧ zk_Bs zR zg zJ H1 ∧ zx_F a H0 H1 ∧ (a : Int) ≤ (H1.2.1 72 45).toInt ∧ (H1.2.1 72 45).toInt ≤ 1402 ∧ ((H1.2.1 72 23).toInt = 0 → zx_phi H0 ≤ zx_phi H1 ∧ (H1.2.1 72 45).toInt + 1 ≤ zx_phi H1 ∧ ∃ n b m, zr_run (H1.2.1 90) n a 0 = some (b, m) ∧ (b : Int) + 1 = (H1.2.1 72 45).toInt ∧ (H1.2.1 90 b).toInt = 0)) zm_192 [] (d + 6) (241, lv, [], H, (0, 0)) := by
  have W := zR_Wd (zR_dn h.1)
  have pH := zx_phi_le h.1
  have wb := h.2.2.1
  have hdp := zR_fr1 (zR_dn h.1) (k := 47) (r := (0, 6)) rfl rfl
  have hdp : 0 ≤ (H.2.1 72 47).toInt ∧ (H.2.1 72 47).toInt ≤ 6 := hdp
  refine zw_ld (n := 1) (k := 0) (f := zp_isR) (pc' := 242) rfl rfl l0 rfl rfl ?_
  refine zw_s (pc' := 244) rfl rfl ?_
  by_cases ha1 : (H.2.1 72 28).toInt = 3 ∧ (H.2.1 72 32).toInt = (Int32.ofInt 42).toInt
  · refine zw_c (pc' := 247) (zw_cv (q := 72) (Y := zm_194) W.1 rfl rfl zm_194_t rfl rfl) rfl rfl rfl rfl rfl (zq_sign1 W ha1) ?_
    refine zw_bne1 (g := 259) (pc' := 250) rfl rfl rfl (rfl : _ = (1 : Int)) (fun hb => ?_) (fun h9 => absurd h9 (by decide))
    exact zx_ex241d hK l0 l1 ha1.1 h hF ha hp hg bk
  · refine zw_c (pc' := 247) (zw_cv (q := 72) (Y := zm_194) W.1 rfl rfl zm_194_t rfl rfl) rfl rfl rfl rfl rfl (zq_sign0 W ha1) ?_
    refine zw_bne1 (g := 259) (pc' := 250) rfl rfl rfl (rfl : _ = (0 : Int)) (fun h9 => absurd h9 (by decide)) (fun hb => ?_)
    refine zw_ld (n := 1) (k := 0) (f := zp_isR) (pc' := 251) rfl rfl l0 rfl rfl ?_
    refine zw_s (pc' := 253) rfl rfl ?_
    by_cases ha2 : (H.2.1 72 28).toInt = 3 ∧ (H.2.1 72 32).toInt = (Int32.ofInt 47).toInt
    · refine zw_c (pc' := 256) (zw_cv (q := 72) (Y := zm_194) W.1 rfl rfl zm_194_t rfl rfl) rfl rfl rfl rfl rfl (zq_sign1 W ha2) ?_
      refine zw_beq1 (g := 297) (pc' := 259) rfl rfl rfl (rfl : _ = (1 : Int)) (fun h9 => absurd h9 (by decide)) (fun hb => ?_)
      exact zx_ex241d hK l0 l1 ha2.1 h hF ha hp hg bk
    · refine zw_c (pc' := 256) (zw_cv (q := 72) (Y := zm_194) W.1 rfl rfl zm_194_t rfl rfl) rfl rfl rfl rfl rfl (zq_sign0 W ha2) ?_
      refine zw_beq1 (g := 297) (pc' := 259) rfl rfl rfl (rfl : _ = (0 : Int)) (fun hb => ?_) (fun h9 => absurd h9 (by decide))
      exact zx_ex297 hK l0 l1 h hF ha hp hg bk

set_option maxRecDepth 8000 in
set_option maxHeartbeats 4000000 in
theorem zx_ex186d {L : Nat} {σ : Nat → Int32} {d a : Nat} {H0 : zp_H} {H : zp_H} {lv : zp_LV} {x1 : Int32} (hK : zx_KW L σ) (l0 : zp_get lv 0 = some (.inr (.inr (some 73)))) (l1 : zp_get lv 1 = some (.inl x1)) (hs : (H.2.1 72 28).toInt = 3) (h : zx_S a 1 0 H) (hF : zx_F a H0 H) (ha : (a : Int) ≤ (H.2.1 72 45).toInt) (hp : zx_phi H0 ≤ zx_phi H) (hg : (H.2.1 72 23).toInt = 0) (bk : ∀ (R : zp_H) (lv1 : zp_LV) (x : Int32), zp_get lv1 0 = some (.inr (.inr (some 73))) → zp_get lv1 1 = some (.inl x) → zx_S a 1 0 R → zx_F a H0 R → (a : Int) ≤ (R.2.1 72 45).toInt → zx_phi H0 ≤ zx_phi R → (zx_phi H + 2 ≤ zx_phi R ∨ (x.toInt = 0 ∧ zx_phi H ≤ zx_phi R)) → zs_Safe L σ (fun X : zp_X => ∃ H1, X = (.inl none, H1) ∧ zk_Bs zR zg zJ H1 ∧ zx_F a H0 H1 ∧ (a : Int) ≤ (H1.2.1 72 45).toInt ∧ (H1.2.1 72 45).toInt ≤ 1402 ∧ ((H1.2.1 72 23).toInt = 0 → zx_phi H0 ≤ zx_phi H1 ∧ (H1.2.1 72 45).toInt + 1 ≤ zx_phi H1 ∧ ∃ n b m, zr_run (H1.2.1 90) n a 0 = some (b, m) ∧ (b : Int) + 1 = (H1.2.1 72 45).toInt ∧ (H1.2.1 90 b).toInt = 0)) zm_192 [] (d + 6) (29, lv1, [], R, (0, 0))) : zs_Safe L σ (fun X : zp_X => ∃ H1, X = (.inl none, H1) ∧ zk_Bs zR zg zJ H1 ∧ zx_F a H0 H1 ∧ (a : Int) ≤ (H1.2.1 72 45).toInt ∧ (H1.2.1 72 45).toInt ≤ 1402 ∧ ((H1.2.1 72 23).toInt = 0 → zx_phi H0 ≤ zx_phi H1 ∧ (H1.2.1 72 45).toInt + 1 ≤ zx_phi H1 ∧ ∃ n b m, zr_run (H1.2.1 90) n a 0 = some (b, m) ∧ (b : Int) + 1 = (H1.2.1 72 45).toInt ∧ (H1.2.1 90 b).toInt = 0)) zm_192 [] (d + 6) (204, lv, [], H, (0, 0)) := by
  have W := zR_Wd (zR_dn h.1)
  have pH := zx_phi_le h.1
  have wb := h.2.2.1
  have hdp := zR_fr1 (zR_dn h.1) (k := 47) (r := (0, 6)) rfl rfl
  have hdp : 0 ≤ (H.2.1 72 47).toInt ∧ (H.2.1 72 47).toInt ≤ 6 := hdp
  refine zw_ld (n := 1) (k := 0) (f := zp_isR) (pc' := 205) rfl rfl l0 rfl rfl ?_
  refine zw_s (pc' := 206) rfl rfl ?_
  obtain ⟨_, p1, Q, rfl, p2, p3, p4, p5, p6⟩ := zx_drops (L := L) (σ := σ) (d := d + 3) (y := Int32.ofInt 5) h ha
  have WQ := zR_Wd (zR_dn p2.1)
  have q23 := zx_fe p3.1 23 rfl rfl rfl
  have q28 := zx_fe p3.1 28 rfl rfl rfl
  have q47 := zx_fe p3.1 47 rfl rfl rfl
  have hphQ := zx_phi_i (zx_fe p3.1 27 rfl rfl rfl) q28
  obtain ⟨u0, u1⟩ := zx_top p2
  have u2 := p2.2.2.1
  refine zw_cn (pc' := 209) (zw_cv (q := 72) (Y := zm_199) W.1 rfl rfl zm_199_t rfl rfl) rfl rfl rfl rfl rfl (p1) ?_
  refine zw_ld (n := 1) (k := 0) (f := zp_isR) (pc' := 210) rfl rfl l0 rfl rfl ?_
  refine zw_ld (n := 1) (k := 0) (f := zp_isR) (pc' := 211) rfl rfl l0 rfl rfl ?_
  refine zw_s (pc' := 213) rfl rfl ?_
  by_cases hch : (Q.2.1 72 28).toInt = 3 ∧ (Q.2.1 72 32).toInt = (Int32.ofInt 43).toInt
  · refine zw_c (pc' := 216) (zw_cv (q := 72) (Y := zm_194) WQ.1 rfl rfl zm_194_t rfl rfl) rfl rfl rfl rfl rfl (zq_sign1 WQ hch) ?_
    refine zw_beq1 (g := 224) (pc' := 219) rfl rfl rfl (rfl : _ = (1 : Int)) (fun h9 => absurd h9 (by decide)) (fun hb => ?_)
    refine zw_s (pc' := 221) rfl rfl ?_
    refine zw_s (pc' := 226) rfl rfl ?_
    obtain ⟨m1, m2, m3, m4⟩ := zx_wait (y := Int32.ofInt 8) p2 (by omega) (by omega) (by decide)
    have hT := m4 0 0 rfl rfl
    have f45 : (zx_wt Q (Int32.ofInt 8)).2.1 72 45 = Q.2.1 72 45 := zx_wt_f 45 rfl
    refine zw_cn (pc' := 229) (zw_cv (q := 72) (Y := zm_196) WQ.1 rfl rfl zm_196_t rfl rfl) rfl rfl rfl rfl rfl (zq_waits WQ ⟨u1, by show _ < ((800 : Nat) : Int); omega⟩) ?_
    refine zw_ld (n := 1) (k := 0) (f := zp_isR) (pc' := 230) rfl rfl l0 rfl rfl ?_
    obtain ⟨K, c1, c2, c3, c4, c5, c6⟩ := zx_T_goes (L := L) (σ := σ) (d := d + 4) hT
    have WK := zR_Wd (zR_dn c2.1)
    have aK : (a : Int) ≤ (K.2.1 72 45).toInt := zx_S_a c2 c4
    refine zw_cn (pc' := 233) (zw_cv (q := 72) (Y := zm_171) WQ.1 rfl rfl zm_171_t rfl rfl) rfl rfl rfl rfl rfl (c1) ?_
    obtain ⟨_, d1, R, rfl, d2, d3, d4, d5, d6⟩ := zx_operand (L := L) (σ := σ) (d := d) (y := Int32.ofInt 0) hK c2 aK
    refine zw_ld (n := 1) (k := 0) (f := zp_isR) (pc' := 234) rfl rfl l0 rfl rfl ?_
    refine zw_s (pc' := 235) rfl rfl ?_
    refine zw_cn (pc' := 238) (zw_cv (q := 72) (Y := zm_195) WK.1 rfl rfl zm_195_t rfl rfl) rfl rfl rfl rfl rfl (d1) ?_
    refine zw_s (pc' := 322) rfl rfl ?_
    refine zw_s (pc' := 29) rfl rfl ?_
    exact bk R _ _ l0 l1 d2 (zx_F_t (zx_F_t (zx_F_t (zx_F_t hF (zx_Fd_F p3)) m1) c3) d3) d5 (by omega) (Or.inl (by omega))
  · refine zw_c (pc' := 216) (zw_cv (q := 72) (Y := zm_194) WQ.1 rfl rfl zm_194_t rfl rfl) rfl rfl rfl rfl rfl (zq_sign0 WQ hch) ?_
    refine zw_beq1 (g := 224) (pc' := 219) rfl rfl rfl (rfl : _ = (0 : Int)) (fun hb => ?_) (fun h9 => absurd h9 (by decide))
    refine zw_s (pc' := 226) rfl rfl ?_
    obtain ⟨m1, m2, m3, m4⟩ := zx_wait (y := Int32.ofInt 9) p2 (by omega) (by omega) (by decide)
    have hT := m4 0 0 rfl rfl
    have f45 : (zx_wt Q (Int32.ofInt 9)).2.1 72 45 = Q.2.1 72 45 := zx_wt_f 45 rfl
    refine zw_cn (pc' := 229) (zw_cv (q := 72) (Y := zm_196) WQ.1 rfl rfl zm_196_t rfl rfl) rfl rfl rfl rfl rfl (zq_waits WQ ⟨u1, by show _ < ((800 : Nat) : Int); omega⟩) ?_
    refine zw_ld (n := 1) (k := 0) (f := zp_isR) (pc' := 230) rfl rfl l0 rfl rfl ?_
    obtain ⟨K, c1, c2, c3, c4, c5, c6⟩ := zx_T_goes (L := L) (σ := σ) (d := d + 4) hT
    have WK := zR_Wd (zR_dn c2.1)
    have aK : (a : Int) ≤ (K.2.1 72 45).toInt := zx_S_a c2 c4
    refine zw_cn (pc' := 233) (zw_cv (q := 72) (Y := zm_171) WQ.1 rfl rfl zm_171_t rfl rfl) rfl rfl rfl rfl rfl (c1) ?_
    obtain ⟨_, d1, R, rfl, d2, d3, d4, d5, d6⟩ := zx_operand (L := L) (σ := σ) (d := d) (y := Int32.ofInt 0) hK c2 aK
    refine zw_ld (n := 1) (k := 0) (f := zp_isR) (pc' := 234) rfl rfl l0 rfl rfl ?_
    refine zw_s (pc' := 235) rfl rfl ?_
    refine zw_cn (pc' := 238) (zw_cv (q := 72) (Y := zm_195) WK.1 rfl rfl zm_195_t rfl rfl) rfl rfl rfl rfl rfl (d1) ?_
    refine zw_s (pc' := 322) rfl rfl ?_
    refine zw_s (pc' := 29) rfl rfl ?_
    exact bk R _ _ l0 l1 d2 (zx_F_t (zx_F_t (zx_F_t (zx_F_t hF (zx_Fd_F p3)) m1) c3) d3) d5 (by omega) (Or.inl (by omega))

set_option maxRecDepth 8000 in
set_option maxHeartbeats 4000000 in
theorem zx_ex186 {L : Nat} {σ : Nat → Int32} {d a : Nat} {H0 : zp_H} {H : zp_H} {lv : zp_LV} {x1 : Int32} (hK : zx_KW L σ) (l0 : zp_get lv 0 = some (.inr (.inr (some 73)))) (l1 : zp_get lv 1 = some (.inl x1)) (h : zx_S a 1 0 H) (hF : zx_F a H0 H) (ha : (a : Int) ≤ (H.2.1 72 45).toInt) (hp : zx_phi H0 ≤ zx_phi H) (hg : (H.2.1 72 23).toInt = 0) (bk : ∀ (R : zp_H) (lv1 : zp_LV) (x : Int32), zp_get lv1 0 = some (.inr (.inr (some 73))) → zp_get lv1 1 = some (.inl x) → zx_S a 1 0 R → zx_F a H0 R → (a : Int) ≤ (R.2.1 72 45).toInt → zx_phi H0 ≤ zx_phi R → (zx_phi H + 2 ≤ zx_phi R ∨ (x.toInt = 0 ∧ zx_phi H ≤ zx_phi R)) → zs_Safe L σ (fun X : zp_X => ∃ H1, X = (.inl none, H1) ∧ zk_Bs zR zg zJ H1 ∧ zx_F a H0 H1 ∧ (a : Int) ≤ (H1.2.1 72 45).toInt ∧ (H1.2.1 72 45).toInt ≤ 1402 ∧ ((H1.2.1 72 23).toInt = 0 → zx_phi H0 ≤ zx_phi H1 ∧ (H1.2.1 72 45).toInt + 1 ≤ zx_phi H1 ∧ ∃ n b m, zr_run (H1.2.1 90) n a 0 = some (b, m) ∧ (b : Int) + 1 = (H1.2.1 72 45).toInt ∧ (H1.2.1 90 b).toInt = 0)) zm_192 [] (d + 6) (29, lv1, [], R, (0, 0))) : zs_Safe L σ (fun X : zp_X => ∃ H1, X = (.inl none, H1) ∧ zk_Bs zR zg zJ H1 ∧ zx_F a H0 H1 ∧ (a : Int) ≤ (H1.2.1 72 45).toInt ∧ (H1.2.1 72 45).toInt ≤ 1402 ∧ ((H1.2.1 72 23).toInt = 0 → zx_phi H0 ≤ zx_phi H1 ∧ (H1.2.1 72 45).toInt + 1 ≤ zx_phi H1 ∧ ∃ n b m, zr_run (H1.2.1 90) n a 0 = some (b, m) ∧ (b : Int) + 1 = (H1.2.1 72 45).toInt ∧ (H1.2.1 90 b).toInt = 0)) zm_192 [] (d + 6) (186, lv, [], H, (0, 0)) := by
  have W := zR_Wd (zR_dn h.1)
  have pH := zx_phi_le h.1
  have wb := h.2.2.1
  have hdp := zR_fr1 (zR_dn h.1) (k := 47) (r := (0, 6)) rfl rfl
  have hdp : 0 ≤ (H.2.1 72 47).toInt ∧ (H.2.1 72 47).toInt ≤ 6 := hdp
  refine zw_ld (n := 1) (k := 0) (f := zp_isR) (pc' := 187) rfl rfl l0 rfl rfl ?_
  refine zw_s (pc' := 189) rfl rfl ?_
  by_cases ha1 : (H.2.1 72 28).toInt = 3 ∧ (H.2.1 72 32).toInt = (Int32.ofInt 43).toInt
  · refine zw_c (pc' := 192) (zw_cv (q := 72) (Y := zm_194) W.1 rfl rfl zm_194_t rfl rfl) rfl rfl rfl rfl rfl (zq_sign1 W ha1) ?_
    refine zw_bne1 (g := 204) (pc' := 195) rfl rfl rfl (rfl : _ = (1 : Int)) (fun hb => ?_) (fun h9 => absurd h9 (by decide))
    exact zx_ex186d hK l0 l1 ha1.1 h hF ha hp hg bk
  · refine zw_c (pc' := 192) (zw_cv (q := 72) (Y := zm_194) W.1 rfl rfl zm_194_t rfl rfl) rfl rfl rfl rfl rfl (zq_sign0 W ha1) ?_
    refine zw_bne1 (g := 204) (pc' := 195) rfl rfl rfl (rfl : _ = (0 : Int)) (fun h9 => absurd h9 (by decide)) (fun hb => ?_)
    refine zw_ld (n := 1) (k := 0) (f := zp_isR) (pc' := 196) rfl rfl l0 rfl rfl ?_
    refine zw_s (pc' := 198) rfl rfl ?_
    by_cases ha2 : (H.2.1 72 28).toInt = 3 ∧ (H.2.1 72 32).toInt = (Int32.ofInt 45).toInt
    · refine zw_c (pc' := 201) (zw_cv (q := 72) (Y := zm_194) W.1 rfl rfl zm_194_t rfl rfl) rfl rfl rfl rfl rfl (zq_sign1 W ha2) ?_
      refine zw_beq1 (g := 241) (pc' := 204) rfl rfl rfl (rfl : _ = (1 : Int)) (fun h9 => absurd h9 (by decide)) (fun hb => ?_)
      exact zx_ex186d hK l0 l1 ha2.1 h hF ha hp hg bk
    · refine zw_c (pc' := 201) (zw_cv (q := 72) (Y := zm_194) W.1 rfl rfl zm_194_t rfl rfl) rfl rfl rfl rfl rfl (zq_sign0 W ha2) ?_
      refine zw_beq1 (g := 241) (pc' := 204) rfl rfl rfl (rfl : _ = (0 : Int)) (fun hb => ?_) (fun h9 => absurd h9 (by decide))
      exact zx_ex241 hK l0 l1 h hF ha hp hg bk

set_option maxRecDepth 8000 in
set_option maxHeartbeats 4000000 in
theorem zx_ex127 {L : Nat} {σ : Nat → Int32} {d a : Nat} {H0 : zp_H} {H : zp_H} {lv : zp_LV} {x1 : Int32} (hK : zx_KW L σ) (l0 : zp_get lv 0 = some (.inr (.inr (some 73)))) (l1 : zp_get lv 1 = some (.inl x1)) (hs : (H.2.1 72 28).toInt = 3) (h : zx_S a 1 0 H) (hF : zx_F a H0 H) (ha : (a : Int) ≤ (H.2.1 72 45).toInt) (hp : zx_phi H0 ≤ zx_phi H) (hg : (H.2.1 72 23).toInt = 0) (bk : ∀ (R : zp_H) (lv1 : zp_LV) (x : Int32), zp_get lv1 0 = some (.inr (.inr (some 73))) → zp_get lv1 1 = some (.inl x) → zx_S a 1 0 R → zx_F a H0 R → (a : Int) ≤ (R.2.1 72 45).toInt → zx_phi H0 ≤ zx_phi R → (zx_phi H + 2 ≤ zx_phi R ∨ (x.toInt = 0 ∧ zx_phi H ≤ zx_phi R)) → zs_Safe L σ (fun X : zp_X => ∃ H1, X = (.inl none, H1) ∧ zk_Bs zR zg zJ H1 ∧ zx_F a H0 H1 ∧ (a : Int) ≤ (H1.2.1 72 45).toInt ∧ (H1.2.1 72 45).toInt ≤ 1402 ∧ ((H1.2.1 72 23).toInt = 0 → zx_phi H0 ≤ zx_phi H1 ∧ (H1.2.1 72 45).toInt + 1 ≤ zx_phi H1 ∧ ∃ n b m, zr_run (H1.2.1 90) n a 0 = some (b, m) ∧ (b : Int) + 1 = (H1.2.1 72 45).toInt ∧ (H1.2.1 90 b).toInt = 0)) zm_192 [] (d + 6) (29, lv1, [], R, (0, 0))) : zs_Safe L σ (fun X : zp_X => ∃ H1, X = (.inl none, H1) ∧ zk_Bs zR zg zJ H1 ∧ zx_F a H0 H1 ∧ (a : Int) ≤ (H1.2.1 72 45).toInt ∧ (H1.2.1 72 45).toInt ≤ 1402 ∧ ((H1.2.1 72 23).toInt = 0 → zx_phi H0 ≤ zx_phi H1 ∧ (H1.2.1 72 45).toInt + 1 ≤ zx_phi H1 ∧ ∃ n b m, zr_run (H1.2.1 90) n a 0 = some (b, m) ∧ (b : Int) + 1 = (H1.2.1 72 45).toInt ∧ (H1.2.1 90 b).toInt = 0)) zm_192 [] (d + 6) (127, lv, [], H, (0, 0)) := by
  have W := zR_Wd (zR_dn h.1)
  have pH := zx_phi_le h.1
  have wb := h.2.2.1
  have hdp := zR_fr1 (zR_dn h.1) (k := 47) (r := (0, 6)) rfl rfl
  have hdp : 0 ≤ (H.2.1 72 47).toInt ∧ (H.2.1 72 47).toInt ≤ 6 := hdp
  refine zw_ld (n := 1) (k := 0) (f := zp_isR) (pc' := 128) rfl rfl l0 rfl rfl ?_
  refine zw_gR (q := 72) (pc' := 131) W rfl rfl rfl rfl (W.2 72 61 _ rfl) rfl ?_
  refine zw_ld (n := 1) (k := 0) (f := zp_isR) (pc' := 132) rfl rfl l0 rfl rfl ?_
  refine zw_gI (q := 72) (pc' := 135) W rfl rfl rfl rfl rfl rfl ?_
  refine zw_ba (q := 92) (pc' := 136) W rfl rfl (by decide) (⟨hdp.1, by show _ < ((9 : Nat) : Int); omega⟩) rfl rfl ?_
  refine zw_bne1 (g := 186) (pc' := 139) rfl rfl rfl rfl (fun ht => ?_) (fun ht => ?_)
  · exact zx_ex186 hK l0 l1 h hF ha hp hg bk
  · refine zw_ld (n := 1) (k := 0) (f := zp_isR) (pc' := 140) rfl rfl l0 rfl rfl ?_
    refine zw_s (pc' := 141) rfl rfl ?_
    obtain ⟨_, p1, Q, rfl, p2, p3, p4, p5, p6⟩ := zx_drops (L := L) (σ := σ) (d := d + 3) (y := Int32.ofInt 4) h ha
    have WQ := zR_Wd (zR_dn p2.1)
    have q23 := zx_fe p3.1 23 rfl rfl rfl
    have q28 := zx_fe p3.1 28 rfl rfl rfl
    have q47 := zx_fe p3.1 47 rfl rfl rfl
    have hphQ := zx_phi_i (zx_fe p3.1 27 rfl rfl rfl) q28
    obtain ⟨u0, u1⟩ := zx_top p2
    have u2 := p2.2.2.1
    refine zw_cn (pc' := 144) (zw_cv (q := 72) (Y := zm_199) W.1 rfl rfl zm_199_t rfl rfl) rfl rfl rfl rfl rfl (p1) ?_
    refine zw_ld (n := 1) (k := 0) (f := zp_isR) (pc' := 145) rfl rfl l0 rfl rfl ?_
    refine zw_ld (n := 1) (k := 0) (f := zp_isR) (pc' := 146) rfl rfl l0 rfl rfl ?_
    refine zw_s (pc' := 148) rfl rfl ?_
    by_cases hch : (Q.2.1 72 28).toInt = 3 ∧ (Q.2.1 72 32).toInt = (Int32.ofInt 60).toInt
    · refine zw_c (pc' := 151) (zw_cv (q := 72) (Y := zm_194) WQ.1 rfl rfl zm_194_t rfl rfl) rfl rfl rfl rfl rfl (zq_sign1 WQ hch) ?_
      refine zw_beq1 (g := 159) (pc' := 154) rfl rfl rfl (rfl : _ = (1 : Int)) (fun h9 => absurd h9 (by decide)) (fun hb => ?_)
      refine zw_s (pc' := 156) rfl rfl ?_
      refine zw_s (pc' := 161) rfl rfl ?_
      obtain ⟨m1, m2, m3, m4⟩ := zx_wait (y := Int32.ofInt 6) p2 (by omega) (by omega) (by decide)
      have hT := m4 0 0 rfl rfl
      have f45 : (zx_wt Q (Int32.ofInt 6)).2.1 72 45 = Q.2.1 72 45 := zx_wt_f 45 rfl
      refine zw_cn (pc' := 164) (zw_cv (q := 72) (Y := zm_196) WQ.1 rfl rfl zm_196_t rfl rfl) rfl rfl rfl rfl rfl (zq_waits WQ ⟨u1, by show _ < ((800 : Nat) : Int); omega⟩) ?_
      have f47 : (zx_wt Q (Int32.ofInt 6)).2.1 72 47 = Q.2.1 72 47 := zx_wt_f 47 rfl
      obtain ⟨n1, n2, n3, n4⟩ := zx_T_92 (j := ((zx_wt Q (Int32.ofInt 6)).2.1 72 47).toInt.toNat) (x := Int32.ofInt 1) hT (Or.inr rfl)
      refine zw_ld (n := 1) (k := 0) (f := zp_isR) (pc' := 165) rfl rfl l0 rfl rfl ?_
      refine zw_gR (q := 72) (pc' := 168) WQ rfl rfl rfl rfl (WQ.2 72 61 _ rfl) rfl ?_
      refine zw_ld (n := 1) (k := 0) (f := zp_isR) (pc' := 169) rfl rfl l0 rfl rfl ?_
      refine zw_gI (q := 72) (pc' := 172) WQ rfl rfl rfl rfl rfl rfl ?_
      refine zw_s (pc' := 173) rfl rfl ?_
      refine zw_bs (q := 92) (pc' := 174) WQ rfl rfl (by decide) (show 0 ≤ ((zx_wt Q (Int32.ofInt 6)).2.1 72 47).toInt ∧ ((zx_wt Q (Int32.ofInt 6)).2.1 72 47).toInt < ((9 : Nat) : Int) from by rw [f47]; exact ⟨by omega, by omega⟩) rfl ?_
      refine zw_ld (n := 1) (k := 0) (f := zp_isR) (pc' := 175) rfl rfl l0 rfl rfl ?_
      obtain ⟨K, c1, c2, c3, c4, c5, c6⟩ := zx_T_goes (L := L) (σ := σ) (d := d + 4) n1
      rw [n3] at c5
      have WK := zR_Wd (zR_dn c2.1)
      have aK : (a : Int) ≤ (K.2.1 72 45).toInt := zx_S_a c2 c4
      refine zw_cn (pc' := 178) (zw_cv (q := 72) (Y := zm_171) WQ.1 rfl rfl zm_171_t rfl rfl) rfl rfl rfl rfl rfl (c1) ?_
      obtain ⟨_, d1, R, rfl, d2, d3, d4, d5, d6⟩ := zx_operand (L := L) (σ := σ) (d := d) (y := Int32.ofInt 0) hK c2 aK
      refine zw_ld (n := 1) (k := 0) (f := zp_isR) (pc' := 179) rfl rfl l0 rfl rfl ?_
      refine zw_s (pc' := 180) rfl rfl ?_
      refine zw_cn (pc' := 183) (zw_cv (q := 72) (Y := zm_195) WK.1 rfl rfl zm_195_t rfl rfl) rfl rfl rfl rfl rfl (d1) ?_
      refine zw_s (pc' := 322) rfl rfl ?_
      refine zw_s (pc' := 29) rfl rfl ?_
      exact bk R _ _ l0 l1 d2 (zx_F_t (zx_F_t (zx_F_t (zx_F_t (zx_F_t hF (zx_Fd_F p3)) m1) n2) c3) d3) d5 (by omega) (Or.inl (by omega))
    · refine zw_c (pc' := 151) (zw_cv (q := 72) (Y := zm_194) WQ.1 rfl rfl zm_194_t rfl rfl) rfl rfl rfl rfl rfl (zq_sign0 WQ hch) ?_
      refine zw_beq1 (g := 159) (pc' := 154) rfl rfl rfl (rfl : _ = (0 : Int)) (fun hb => ?_) (fun h9 => absurd h9 (by decide))
      refine zw_s (pc' := 161) rfl rfl ?_
      obtain ⟨m1, m2, m3, m4⟩ := zx_wait (y := Int32.ofInt 7) p2 (by omega) (by omega) (by decide)
      have hT := m4 0 0 rfl rfl
      have f45 : (zx_wt Q (Int32.ofInt 7)).2.1 72 45 = Q.2.1 72 45 := zx_wt_f 45 rfl
      refine zw_cn (pc' := 164) (zw_cv (q := 72) (Y := zm_196) WQ.1 rfl rfl zm_196_t rfl rfl) rfl rfl rfl rfl rfl (zq_waits WQ ⟨u1, by show _ < ((800 : Nat) : Int); omega⟩) ?_
      have f47 : (zx_wt Q (Int32.ofInt 7)).2.1 72 47 = Q.2.1 72 47 := zx_wt_f 47 rfl
      obtain ⟨n1, n2, n3, n4⟩ := zx_T_92 (j := ((zx_wt Q (Int32.ofInt 7)).2.1 72 47).toInt.toNat) (x := Int32.ofInt 1) hT (Or.inr rfl)
      refine zw_ld (n := 1) (k := 0) (f := zp_isR) (pc' := 165) rfl rfl l0 rfl rfl ?_
      refine zw_gR (q := 72) (pc' := 168) WQ rfl rfl rfl rfl (WQ.2 72 61 _ rfl) rfl ?_
      refine zw_ld (n := 1) (k := 0) (f := zp_isR) (pc' := 169) rfl rfl l0 rfl rfl ?_
      refine zw_gI (q := 72) (pc' := 172) WQ rfl rfl rfl rfl rfl rfl ?_
      refine zw_s (pc' := 173) rfl rfl ?_
      refine zw_bs (q := 92) (pc' := 174) WQ rfl rfl (by decide) (show 0 ≤ ((zx_wt Q (Int32.ofInt 7)).2.1 72 47).toInt ∧ ((zx_wt Q (Int32.ofInt 7)).2.1 72 47).toInt < ((9 : Nat) : Int) from by rw [f47]; exact ⟨by omega, by omega⟩) rfl ?_
      refine zw_ld (n := 1) (k := 0) (f := zp_isR) (pc' := 175) rfl rfl l0 rfl rfl ?_
      obtain ⟨K, c1, c2, c3, c4, c5, c6⟩ := zx_T_goes (L := L) (σ := σ) (d := d + 4) n1
      rw [n3] at c5
      have WK := zR_Wd (zR_dn c2.1)
      have aK : (a : Int) ≤ (K.2.1 72 45).toInt := zx_S_a c2 c4
      refine zw_cn (pc' := 178) (zw_cv (q := 72) (Y := zm_171) WQ.1 rfl rfl zm_171_t rfl rfl) rfl rfl rfl rfl rfl (c1) ?_
      obtain ⟨_, d1, R, rfl, d2, d3, d4, d5, d6⟩ := zx_operand (L := L) (σ := σ) (d := d) (y := Int32.ofInt 0) hK c2 aK
      refine zw_ld (n := 1) (k := 0) (f := zp_isR) (pc' := 179) rfl rfl l0 rfl rfl ?_
      refine zw_s (pc' := 180) rfl rfl ?_
      refine zw_cn (pc' := 183) (zw_cv (q := 72) (Y := zm_195) WK.1 rfl rfl zm_195_t rfl rfl) rfl rfl rfl rfl rfl (d1) ?_
      refine zw_s (pc' := 322) rfl rfl ?_
      refine zw_s (pc' := 29) rfl rfl ?_
      exact bk R _ _ l0 l1 d2 (zx_F_t (zx_F_t (zx_F_t (zx_F_t (zx_F_t hF (zx_Fd_F p3)) m1) n2) c3) d3) d5 (by omega) (Or.inl (by omega))

set_option maxRecDepth 8000 in
set_option maxHeartbeats 4000000 in
theorem zx_ex109 {L : Nat} {σ : Nat → Int32} {d a : Nat} {H0 : zp_H} {H : zp_H} {lv : zp_LV} {x1 : Int32} (hK : zx_KW L σ) (l0 : zp_get lv 0 = some (.inr (.inr (some 73)))) (l1 : zp_get lv 1 = some (.inl x1)) (h : zx_S a 1 0 H) (hF : zx_F a H0 H) (ha : (a : Int) ≤ (H.2.1 72 45).toInt) (hp : zx_phi H0 ≤ zx_phi H) (hg : (H.2.1 72 23).toInt = 0) (bk : ∀ (R : zp_H) (lv1 : zp_LV) (x : Int32), zp_get lv1 0 = some (.inr (.inr (some 73))) → zp_get lv1 1 = some (.inl x) → zx_S a 1 0 R → zx_F a H0 R → (a : Int) ≤ (R.2.1 72 45).toInt → zx_phi H0 ≤ zx_phi R → (zx_phi H + 2 ≤ zx_phi R ∨ (x.toInt = 0 ∧ zx_phi H ≤ zx_phi R)) → zs_Safe L σ (fun X : zp_X => ∃ H1, X = (.inl none, H1) ∧ zk_Bs zR zg zJ H1 ∧ zx_F a H0 H1 ∧ (a : Int) ≤ (H1.2.1 72 45).toInt ∧ (H1.2.1 72 45).toInt ≤ 1402 ∧ ((H1.2.1 72 23).toInt = 0 → zx_phi H0 ≤ zx_phi H1 ∧ (H1.2.1 72 45).toInt + 1 ≤ zx_phi H1 ∧ ∃ n b m, zr_run (H1.2.1 90) n a 0 = some (b, m) ∧ (b : Int) + 1 = (H1.2.1 72 45).toInt ∧ (H1.2.1 90 b).toInt = 0)) zm_192 [] (d + 6) (29, lv1, [], R, (0, 0))) : zs_Safe L σ (fun X : zp_X => ∃ H1, X = (.inl none, H1) ∧ zk_Bs zR zg zJ H1 ∧ zx_F a H0 H1 ∧ (a : Int) ≤ (H1.2.1 72 45).toInt ∧ (H1.2.1 72 45).toInt ≤ 1402 ∧ ((H1.2.1 72 23).toInt = 0 → zx_phi H0 ≤ zx_phi H1 ∧ (H1.2.1 72 45).toInt + 1 ≤ zx_phi H1 ∧ ∃ n b m, zr_run (H1.2.1 90) n a 0 = some (b, m) ∧ (b : Int) + 1 = (H1.2.1 72 45).toInt ∧ (H1.2.1 90 b).toInt = 0)) zm_192 [] (d + 6) (109, lv, [], H, (0, 0)) := by
  have W := zR_Wd (zR_dn h.1)
  have pH := zx_phi_le h.1
  have wb := h.2.2.1
  have hdp := zR_fr1 (zR_dn h.1) (k := 47) (r := (0, 6)) rfl rfl
  have hdp : 0 ≤ (H.2.1 72 47).toInt ∧ (H.2.1 72 47).toInt ≤ 6 := hdp
  refine zw_ld (n := 1) (k := 0) (f := zp_isR) (pc' := 110) rfl rfl l0 rfl rfl ?_
  refine zw_s (pc' := 112) rfl rfl ?_
  by_cases h60 : (H.2.1 72 28).toInt = 3 ∧ (H.2.1 72 32).toInt = (Int32.ofInt 60).toInt
  · refine zw_c (pc' := 115) (zw_cv (q := 72) (Y := zm_194) W.1 rfl rfl zm_194_t rfl rfl) rfl rfl rfl rfl rfl (zq_sign1 W h60) ?_
    refine zw_bne1 (g := 127) (pc' := 118) rfl rfl rfl (rfl : _ = (1 : Int)) (fun hb => ?_) (fun h9 => absurd h9 (by decide))
    exact zx_ex127 hK l0 l1 h60.1 h hF ha hp hg bk
  · refine zw_c (pc' := 115) (zw_cv (q := 72) (Y := zm_194) W.1 rfl rfl zm_194_t rfl rfl) rfl rfl rfl rfl rfl (zq_sign0 W h60) ?_
    refine zw_bne1 (g := 127) (pc' := 118) rfl rfl rfl (rfl : _ = (0 : Int)) (fun h9 => absurd h9 (by decide)) (fun hb => ?_)
    refine zw_ld (n := 1) (k := 0) (f := zp_isR) (pc' := 119) rfl rfl l0 rfl rfl ?_
    refine zw_s (pc' := 121) rfl rfl ?_
    by_cases h61 : (H.2.1 72 28).toInt = 3 ∧ (H.2.1 72 32).toInt = (Int32.ofInt 61).toInt
    · refine zw_c (pc' := 124) (zw_cv (q := 72) (Y := zm_194) W.1 rfl rfl zm_194_t rfl rfl) rfl rfl rfl rfl rfl (zq_sign1 W h61) ?_
      refine zw_beq1 (g := 186) (pc' := 127) rfl rfl rfl (rfl : _ = (1 : Int)) (fun h9 => absurd h9 (by decide)) (fun hb => ?_)
      exact zx_ex127 hK l0 l1 h61.1 h hF ha hp hg bk
    · refine zw_c (pc' := 124) (zw_cv (q := 72) (Y := zm_194) W.1 rfl rfl zm_194_t rfl rfl) rfl rfl rfl rfl rfl (zq_sign0 W h61) ?_
      refine zw_beq1 (g := 186) (pc' := 127) rfl rfl rfl (rfl : _ = (0 : Int)) (fun hb => ?_) (fun h9 => absurd h9 (by decide))
      exact zx_ex186 hK l0 l1 h hF ha hp hg bk

set_option maxRecDepth 8000 in
set_option maxHeartbeats 4000000 in
theorem zx_ex57 {L : Nat} {σ : Nat → Int32} {d a : Nat} {H0 : zp_H} {H : zp_H} {lv : zp_LV} {x1 : Int32} (hK : zx_KW L σ) (l0 : zp_get lv 0 = some (.inr (.inr (some 73)))) (l1 : zp_get lv 1 = some (.inl x1)) {x2 : Int32} (l2 : zp_get lv 2 = some (.inl x2)) (hs : (H.2.1 72 28).toInt = 1) (h : zx_S a 1 0 H) (hF : zx_F a H0 H) (ha : (a : Int) ≤ (H.2.1 72 45).toInt) (hp : zx_phi H0 ≤ zx_phi H) (hg : (H.2.1 72 23).toInt = 0) (bk : ∀ (R : zp_H) (lv1 : zp_LV) (x : Int32), zp_get lv1 0 = some (.inr (.inr (some 73))) → zp_get lv1 1 = some (.inl x) → zx_S a 1 0 R → zx_F a H0 R → (a : Int) ≤ (R.2.1 72 45).toInt → zx_phi H0 ≤ zx_phi R → (zx_phi H + 2 ≤ zx_phi R ∨ (x.toInt = 0 ∧ zx_phi H ≤ zx_phi R)) → zs_Safe L σ (fun X : zp_X => ∃ H1, X = (.inl none, H1) ∧ zk_Bs zR zg zJ H1 ∧ zx_F a H0 H1 ∧ (a : Int) ≤ (H1.2.1 72 45).toInt ∧ (H1.2.1 72 45).toInt ≤ 1402 ∧ ((H1.2.1 72 23).toInt = 0 → zx_phi H0 ≤ zx_phi H1 ∧ (H1.2.1 72 45).toInt + 1 ≤ zx_phi H1 ∧ ∃ n b m, zr_run (H1.2.1 90) n a 0 = some (b, m) ∧ (b : Int) + 1 = (H1.2.1 72 45).toInt ∧ (H1.2.1 90 b).toInt = 0)) zm_192 [] (d + 6) (29, lv1, [], R, (0, 0))) : zs_Safe L σ (fun X : zp_X => ∃ H1, X = (.inl none, H1) ∧ zk_Bs zR zg zJ H1 ∧ zx_F a H0 H1 ∧ (a : Int) ≤ (H1.2.1 72 45).toInt ∧ (H1.2.1 72 45).toInt ≤ 1402 ∧ ((H1.2.1 72 23).toInt = 0 → zx_phi H0 ≤ zx_phi H1 ∧ (H1.2.1 72 45).toInt + 1 ≤ zx_phi H1 ∧ ∃ n b m, zr_run (H1.2.1 90) n a 0 = some (b, m) ∧ (b : Int) + 1 = (H1.2.1 72 45).toInt ∧ (H1.2.1 90 b).toInt = 0)) zm_192 [] (d + 6) (57, lv, [], H, (0, 0)) := by
  have W := zR_Wd (zR_dn h.1)
  have pH := zx_phi_le h.1
  have wb := h.2.2.1
  have hdp := zR_fr1 (zR_dn h.1) (k := 47) (r := (0, 6)) rfl rfl
  have hdp : 0 ≤ (H.2.1 72 47).toInt ∧ (H.2.1 72 47).toInt ≤ 6 := hdp
  refine zw_ld (n := 1) (k := 0) (f := zp_isR) (pc' := 58) rfl rfl l0 rfl rfl ?_
  refine zw_ld (n := 1) (k := 2) (f := zp_isI) (pc' := 59) rfl rfl l2 rfl rfl ?_
  refine zw_s (pc' := 61) rfl rfl ?_
  refine zw_bne2 (g := 68) (pc' := 64) rfl rfl rfl rfl (rfl : _ = (18 : Int)) (fun hB => ?_) (fun hB => ?_)
  · refine zw_s (pc' := 69) rfl rfl ?_
    obtain ⟨_, p1, Q, rfl, p2, p3, p4, p5, p6⟩ := zx_drops (L := L) (σ := σ) (d := d + 3) (y := Int32.ofInt 1) h ha
    have WQ := zR_Wd (zR_dn p2.1)
    have q23 := zx_fe p3.1 23 rfl rfl rfl
    have q28 := zx_fe p3.1 28 rfl rfl rfl
    have q47 := zx_fe p3.1 47 rfl rfl rfl
    have hphQ := zx_phi_i (zx_fe p3.1 27 rfl rfl rfl) q28
    obtain ⟨u0, u1⟩ := zx_top p2
    have u2 := p2.2.2.1
    refine zw_cn (pc' := 72) (zw_cv (q := 72) (Y := zm_199) W.1 rfl rfl zm_199_t rfl rfl) rfl rfl rfl rfl rfl (p1) ?_
    refine zw_ld (n := 1) (k := 0) (f := zp_isR) (pc' := 73) rfl rfl l0 rfl rfl ?_
    refine zw_ld (n := 1) (k := 2) (f := zp_isI) (pc' := 74) rfl rfl l2 rfl rfl ?_
    refine zw_s (pc' := 76) rfl rfl ?_
    refine zw_bne2 (g := 83) (pc' := 79) rfl rfl rfl rfl (rfl : _ = (18 : Int)) (fun hC => ?_) (fun hC => ?_)
    · refine zw_s (pc' := 84) rfl rfl ?_
      obtain ⟨m1, m2, m3, m4⟩ := zx_wait (y := Int32.ofInt 5) p2 (by omega) (by omega) (by decide)
      have hT := m4 0 0 rfl rfl
      have f45 : (zx_wt Q (Int32.ofInt 5)).2.1 72 45 = Q.2.1 72 45 := zx_wt_f 45 rfl
      refine zw_cn (pc' := 87) (zw_cv (q := 72) (Y := zm_196) WQ.1 rfl rfl zm_196_t rfl rfl) rfl rfl rfl rfl rfl (zq_waits WQ ⟨u1, by show _ < ((800 : Nat) : Int); omega⟩) ?_
      have f47 : (zx_wt Q (Int32.ofInt 5)).2.1 72 47 = Q.2.1 72 47 := zx_wt_f 47 rfl
      obtain ⟨n1, n2, n3, n4⟩ := zx_T_92 (j := ((zx_wt Q (Int32.ofInt 5)).2.1 72 47).toInt.toNat) (x := Int32.ofInt 0) hT (Or.inl rfl)
      refine zw_ld (n := 1) (k := 0) (f := zp_isR) (pc' := 88) rfl rfl l0 rfl rfl ?_
      refine zw_gR (q := 72) (pc' := 91) WQ rfl rfl rfl rfl (WQ.2 72 61 _ rfl) rfl ?_
      refine zw_ld (n := 1) (k := 0) (f := zp_isR) (pc' := 92) rfl rfl l0 rfl rfl ?_
      refine zw_gI (q := 72) (pc' := 95) WQ rfl rfl rfl rfl rfl rfl ?_
      refine zw_s (pc' := 96) rfl rfl ?_
      refine zw_bs (q := 92) (pc' := 97) WQ rfl rfl (by decide) (show 0 ≤ ((zx_wt Q (Int32.ofInt 5)).2.1 72 47).toInt ∧ ((zx_wt Q (Int32.ofInt 5)).2.1 72 47).toInt < ((9 : Nat) : Int) from by rw [f47]; exact ⟨by omega, by omega⟩) rfl ?_
      refine zw_ld (n := 1) (k := 0) (f := zp_isR) (pc' := 98) rfl rfl l0 rfl rfl ?_
      obtain ⟨K, c1, c2, c3, c4, c5, c6⟩ := zx_T_goes (L := L) (σ := σ) (d := d + 4) n1
      rw [n3] at c5
      have WK := zR_Wd (zR_dn c2.1)
      have aK : (a : Int) ≤ (K.2.1 72 45).toInt := zx_S_a c2 c4
      refine zw_cn (pc' := 101) (zw_cv (q := 72) (Y := zm_171) WQ.1 rfl rfl zm_171_t rfl rfl) rfl rfl rfl rfl rfl (c1) ?_
      obtain ⟨_, d1, R, rfl, d2, d3, d4, d5, d6⟩ := zx_operand (L := L) (σ := σ) (d := d) (y := Int32.ofInt 1) hK c2 aK
      refine zw_ld (n := 1) (k := 0) (f := zp_isR) (pc' := 102) rfl rfl l0 rfl rfl ?_
      refine zw_s (pc' := 103) rfl rfl ?_
      refine zw_cn (pc' := 106) (zw_cv (q := 72) (Y := zm_195) WK.1 rfl rfl zm_195_t rfl rfl) rfl rfl rfl rfl rfl (d1) ?_
      refine zw_s (pc' := 322) rfl rfl ?_
      refine zw_s (pc' := 29) rfl rfl ?_
      exact bk R _ _ l0 l1 d2 (zx_F_t (zx_F_t (zx_F_t (zx_F_t (zx_F_t hF (zx_Fd_F p3)) m1) n2) c3) d3) d5 (by omega) (Or.inl (by omega))
    · omega
  · refine zw_s (pc' := 65) rfl rfl ?_
    refine zw_s (pc' := 69) rfl rfl ?_
    obtain ⟨_, p1, Q, rfl, p2, p3, p4, p5, p6⟩ := zx_drops (L := L) (σ := σ) (d := d + 3) (y := Int32.ofInt 2) h ha
    have WQ := zR_Wd (zR_dn p2.1)
    have q23 := zx_fe p3.1 23 rfl rfl rfl
    have q28 := zx_fe p3.1 28 rfl rfl rfl
    have q47 := zx_fe p3.1 47 rfl rfl rfl
    have hphQ := zx_phi_i (zx_fe p3.1 27 rfl rfl rfl) q28
    obtain ⟨u0, u1⟩ := zx_top p2
    have u2 := p2.2.2.1
    refine zw_cn (pc' := 72) (zw_cv (q := 72) (Y := zm_199) W.1 rfl rfl zm_199_t rfl rfl) rfl rfl rfl rfl rfl (p1) ?_
    refine zw_ld (n := 1) (k := 0) (f := zp_isR) (pc' := 73) rfl rfl l0 rfl rfl ?_
    refine zw_ld (n := 1) (k := 2) (f := zp_isI) (pc' := 74) rfl rfl l2 rfl rfl ?_
    refine zw_s (pc' := 76) rfl rfl ?_
    refine zw_bne2 (g := 83) (pc' := 79) rfl rfl rfl rfl (rfl : _ = (18 : Int)) (fun hC => ?_) (fun hC => ?_)
    · omega
    · refine zw_s (pc' := 80) rfl rfl ?_
      refine zw_s (pc' := 84) rfl rfl ?_
      obtain ⟨m1, m2, m3, m4⟩ := zx_wait (y := Int32.ofInt 4) p2 (by omega) (by omega) (by decide)
      have hT := m4 0 0 rfl rfl
      have f45 : (zx_wt Q (Int32.ofInt 4)).2.1 72 45 = Q.2.1 72 45 := zx_wt_f 45 rfl
      refine zw_cn (pc' := 87) (zw_cv (q := 72) (Y := zm_196) WQ.1 rfl rfl zm_196_t rfl rfl) rfl rfl rfl rfl rfl (zq_waits WQ ⟨u1, by show _ < ((800 : Nat) : Int); omega⟩) ?_
      have f47 : (zx_wt Q (Int32.ofInt 4)).2.1 72 47 = Q.2.1 72 47 := zx_wt_f 47 rfl
      obtain ⟨n1, n2, n3, n4⟩ := zx_T_92 (j := ((zx_wt Q (Int32.ofInt 4)).2.1 72 47).toInt.toNat) (x := Int32.ofInt 0) hT (Or.inl rfl)
      refine zw_ld (n := 1) (k := 0) (f := zp_isR) (pc' := 88) rfl rfl l0 rfl rfl ?_
      refine zw_gR (q := 72) (pc' := 91) WQ rfl rfl rfl rfl (WQ.2 72 61 _ rfl) rfl ?_
      refine zw_ld (n := 1) (k := 0) (f := zp_isR) (pc' := 92) rfl rfl l0 rfl rfl ?_
      refine zw_gI (q := 72) (pc' := 95) WQ rfl rfl rfl rfl rfl rfl ?_
      refine zw_s (pc' := 96) rfl rfl ?_
      refine zw_bs (q := 92) (pc' := 97) WQ rfl rfl (by decide) (show 0 ≤ ((zx_wt Q (Int32.ofInt 4)).2.1 72 47).toInt ∧ ((zx_wt Q (Int32.ofInt 4)).2.1 72 47).toInt < ((9 : Nat) : Int) from by rw [f47]; exact ⟨by omega, by omega⟩) rfl ?_
      refine zw_ld (n := 1) (k := 0) (f := zp_isR) (pc' := 98) rfl rfl l0 rfl rfl ?_
      obtain ⟨K, c1, c2, c3, c4, c5, c6⟩ := zx_T_goes (L := L) (σ := σ) (d := d + 4) n1
      rw [n3] at c5
      have WK := zR_Wd (zR_dn c2.1)
      have aK : (a : Int) ≤ (K.2.1 72 45).toInt := zx_S_a c2 c4
      refine zw_cn (pc' := 101) (zw_cv (q := 72) (Y := zm_171) WQ.1 rfl rfl zm_171_t rfl rfl) rfl rfl rfl rfl rfl (c1) ?_
      obtain ⟨_, d1, R, rfl, d2, d3, d4, d5, d6⟩ := zx_operand (L := L) (σ := σ) (d := d) (y := Int32.ofInt 1) hK c2 aK
      refine zw_ld (n := 1) (k := 0) (f := zp_isR) (pc' := 102) rfl rfl l0 rfl rfl ?_
      refine zw_s (pc' := 103) rfl rfl ?_
      refine zw_cn (pc' := 106) (zw_cv (q := 72) (Y := zm_195) WK.1 rfl rfl zm_195_t rfl rfl) rfl rfl rfl rfl rfl (d1) ?_
      refine zw_s (pc' := 322) rfl rfl ?_
      refine zw_s (pc' := 29) rfl rfl ?_
      exact bk R _ _ l0 l1 d2 (zx_F_t (zx_F_t (zx_F_t (zx_F_t (zx_F_t hF (zx_Fd_F p3)) m1) n2) c3) d3) d5 (by omega) (Or.inl (by omega))

set_option maxRecDepth 8000 in
set_option maxHeartbeats 4000000 in
theorem zx_exL {L : Nat} {σ : Nat → Int32} {d a : Nat} {H0 : zp_H} (hK : zx_KW L σ) : ∀ (n : Nat) (H : zp_H) (lv : zp_LV) (x1 : Int32), 2 * (1401 - zx_phi H).toNat + (if x1.toInt = 0 then 0 else 1) = n → zp_get lv 0 = some (.inr (.inr (some 73))) → zp_get lv 1 = some (.inl x1) → zx_S a 1 0 H → zx_F a H0 H → (a : Int) ≤ (H.2.1 72 45).toInt → zx_phi H0 ≤ zx_phi H → zs_Safe L σ (fun X : zp_X => ∃ H1, X = (.inl none, H1) ∧ zk_Bs zR zg zJ H1 ∧ zx_F a H0 H1 ∧ (a : Int) ≤ (H1.2.1 72 45).toInt ∧ (H1.2.1 72 45).toInt ≤ 1402 ∧ ((H1.2.1 72 23).toInt = 0 → zx_phi H0 ≤ zx_phi H1 ∧ (H1.2.1 72 45).toInt + 1 ≤ zx_phi H1 ∧ ∃ n b m, zr_run (H1.2.1 90) n a 0 = some (b, m) ∧ (b : Int) + 1 = (H1.2.1 72 45).toInt ∧ (H1.2.1 90 b).toInt = 0)) zm_192 [] (d + 6) (29, lv, [], H, (0, 0)) := by
  intro n
  induction n using Nat.strongRecOn with
  | ind n ih =>
    intro H lv x1 hn l0 l1 h hF ha hp
    have W := zR_Wd (zR_dn h.1)
    have pH := zx_phi_le h.1
    refine zw_ld (n := 1) (k := 1) (f := zp_isI) (pc' := 30) rfl rfl l1 rfl rfl ?_
    refine zw_beq1 (g := 325) (pc' := 33) rfl rfl rfl rfl (fun h1 => ?_) (fun h1 => ?_)
    · exact zx_exE l0 h hF ha hp
    · rw [if_neg h1] at hn
      refine zw_ld (n := 1) (k := 0) (f := zp_isR) (pc' := 34) rfl rfl l0 rfl rfl ?_
      by_cases hg : (H.2.1 72 23).toInt = 0
      · refine zw_c (pc' := 37) (zw_cv (q := 72) (Y := zm_175) W.1 rfl rfl zm_175_t rfl rfl) rfl rfl rfl rfl rfl (zq_good1 W hg) ?_
        refine zw_beq1 (g := 325) (pc' := 40) rfl rfl rfl (rfl : _ = (1 : Int)) (fun h9 => absurd h9 (by decide)) (fun hb => ?_)
        refine zw_ld (n := 1) (k := 0) (f := zp_isR) (pc' := 41) rfl rfl l0 rfl rfl ?_
        have bk : ∀ (R : zp_H) (lv1 : zp_LV) (x : Int32), zp_get lv1 0 = some (.inr (.inr (some 73))) → zp_get lv1 1 = some (.inl x) → zx_S a 1 0 R → zx_F a H0 R → (a : Int) ≤ (R.2.1 72 45).toInt → zx_phi H0 ≤ zx_phi R → (zx_phi H + 2 ≤ zx_phi R ∨ (x.toInt = 0 ∧ zx_phi H ≤ zx_phi R)) → zs_Safe L σ (fun X : zp_X => ∃ H1, X = (.inl none, H1) ∧ zk_Bs zR zg zJ H1 ∧ zx_F a H0 H1 ∧ (a : Int) ≤ (H1.2.1 72 45).toInt ∧ (H1.2.1 72 45).toInt ≤ 1402 ∧ ((H1.2.1 72 23).toInt = 0 → zx_phi H0 ≤ zx_phi H1 ∧ (H1.2.1 72 45).toInt + 1 ≤ zx_phi H1 ∧ ∃ n b m, zr_run (H1.2.1 90) n a 0 = some (b, m) ∧ (b : Int) + 1 = (H1.2.1 72 45).toInt ∧ (H1.2.1 90 b).toInt = 0)) zm_192 [] (d + 6) (29, lv1, [], R, (0, 0)) := by
          intro R lv1 x m0 m1 mS mF ma mp mq
          have pR := zx_phi_le mS.1
          refine ih _ ?_ R lv1 x rfl m0 m1 mS mF ma mp
          rcases mq with mq | ⟨mq, mr⟩
          · split <;> omega
          · rw [if_pos mq]; omega
        obtain ⟨v, v1, v2⟩ := hK (d + 2) H h.1
        refine zw_c (pc' := 44) (zw_cv (q := 72) (Y := zm_177) W.1 rfl rfl zm_177_t rfl rfl) rfl rfl rfl rfl rfl (v1) ?_
        refine zw_st (n := 1) (k := 2) (f := zp_isI) (pc' := 45) rfl rfl rfl rfl rfl ?_
        refine zw_ld (n := 1) (k := 2) (f := zp_isI) (pc' := 46) rfl rfl zw_g1 rfl rfl ?_
        refine zw_s (pc' := 48) rfl rfl ?_
        refine zw_beq2 (g := 57) (pc' := 51) rfl rfl rfl rfl (rfl : _ = (18 : Int)) (fun hA => ?_) (fun hA => ?_)
        · exact zx_ex57 hK (zw_gt l0 rfl rfl) (zw_gt l1 rfl rfl) zw_g1 (zg_s (by omega)) h hF ha hp hg bk
        · refine zw_ld (n := 1) (k := 2) (f := zp_isI) (pc' := 52) rfl rfl zw_g1 rfl rfl ?_
          refine zw_s (pc' := 54) rfl rfl ?_
          refine zw_bne2 (g := 109) (pc' := 57) rfl rfl rfl rfl (rfl : _ = (19 : Int)) (fun hO => ?_) (fun hO => ?_)
          · exact zx_ex109 hK (zw_gt l0 rfl rfl) (zw_gt l1 rfl rfl) h hF ha hp hg bk
          · exact zx_ex57 hK (zw_gt l0 rfl rfl) (zw_gt l1 rfl rfl) zw_g1 (zg_s (by omega)) h hF ha hp hg bk
      · refine zw_c (pc' := 37) (zw_cv (q := 72) (Y := zm_175) W.1 rfl rfl zm_175_t rfl rfl) rfl rfl rfl rfl rfl (zq_good0 W hg) ?_
        refine zw_beq1 (g := 325) (pc' := 40) rfl rfl rfl (rfl : _ = (0 : Int)) (fun hb => ?_) (fun h9 => absurd h9 (by decide))
        exact zx_exE l0 h hF ha hp

set_option maxRecDepth 8000 in
set_option maxHeartbeats 4000000 in
theorem zx_expr {L : Nat} {σ : Nat → Int32} {d : Nat} {H : zp_H} (hK : zx_KW L σ) (hB : zk_Bs zR zg zJ H) (h0 : (H.2.1 72 23).toInt = 0) (ht : (H.2.1 72 45).toInt + 2 ≤ zx_phi H) : ∃ X, zp_Call L σ (d + 7) 192 [.inr (.inr (some 73))] H X ∧ (fun X : zp_X => ∃ H1, X = (.inl none, H1) ∧ zk_Bs zR zg zJ H1 ∧ zx_F (H.2.1 72 45).toInt.toNat H H1 ∧ ((H.2.1 72 45).toInt.toNat : Int) ≤ (H1.2.1 72 45).toInt ∧ (H1.2.1 72 45).toInt ≤ 1402 ∧ ((H1.2.1 72 23).toInt = 0 → zx_phi H ≤ zx_phi H1 ∧ (H1.2.1 72 45).toInt + 1 ≤ zx_phi H1 ∧ ∃ n b m, zr_run (H1.2.1 90) n (H.2.1 72 45).toInt.toNat 0 = some (b, m) ∧ (b : Int) + 1 = (H1.2.1 72 45).toInt ∧ (H1.2.1 90 b).toInt = 0)) X := by
  have W := zR_Wd (zR_dn hB)
  have t0 := zR_fr1 (zR_dn hB) (k := 45) (r := (0, 1600)) rfl rfl
  have t0 : 0 ≤ (H.2.1 72 45).toInt ∧ _ := t0
  have pH := zx_phi_le hB
  refine zw_met zm_192_t rfl rfl ?_
  refine zw_ld (n := 1) (k := 0) (f := zp_isR) (pc' := 1) rfl rfl rfl rfl rfl ?_
  refine zw_c (pc' := 4) (zw_cv (q := 72) (Y := zm_175) W.1 rfl rfl zm_175_t rfl rfl) rfl rfl rfl rfl rfl (zq_good1 W h0) ?_
  refine zw_bne1 (g := 8) (pc' := 7) rfl rfl rfl (rfl : _ = (1 : Int)) (fun hb => ?_) (fun h9 => absurd h9 (by decide))
  refine zw_ld (n := 1) (k := 0) (f := zp_isR) (pc' := 9) rfl rfl rfl rfl rfl ?_
  refine zw_s (pc' := 10) rfl rfl ?_
  refine zw_pI (q := 72) (pc' := 13) W rfl rfl rfl rfl rfl rfl ?_
  refine zw_ld (n := 1) (k := 0) (f := zp_isR) (pc' := 14) rfl rfl rfl rfl rfl ?_
  refine zw_s (pc' := 15) rfl rfl ?_
  refine zw_pI (q := 72) (pc' := 18) W rfl rfl rfl rfl rfl rfl ?_
  refine zw_ld (n := 1) (k := 0) (f := zp_isR) (pc' := 19) rfl rfl rfl rfl rfl ?_
  have hS : zx_S (H.2.1 72 45).toInt.toNat 0 1 (zw_I (zw_I H 72 46 (Int32.ofInt 0)) 72 47 (Int32.ofInt 0)) := by
    generalize hK9 : zw_I (zw_I H 72 46 (Int32.ofInt 0)) 72 47 (Int32.ofInt 0) = K
    have b0 := zR_dn hB
    have b1 := zR_putf (k := 46) (x := Int32.ofInt 0) b0 (fun r hr => by cases hr; exact ⟨by decide, by decide⟩) rfl (zJ_I rfl b0.2.2.2.2.2.2.2)
    have b2 := zR_putf (k := 47) (x := Int32.ofInt 0) b1 (fun r hr => by cases hr; exact ⟨by decide, by decide⟩) rfl (zJ_I rfl b1.2.2.2.2.2.2.2)
    rw [hK9] at b2
    have f : ∀ k, Nat.beq k 46 = false → Nat.beq k 47 = false → K.2.1 72 k = H.2.1 72 k := fun k hk hk2 => by rw [← hK9]; exact zw_ne (zw_ne rfl (by rw [hk]; rfl)) (by rw [hk2]; rfl)
    have f46 : K.2.1 72 46 = Int32.ofInt 0 := by rw [← hK9]; exact zw_ne zw_eq rfl
    have f47 : K.2.1 72 47 = Int32.ofInt 0 := by rw [← hK9]; exact zw_eq
    have e0 : (Int32.ofInt 0).toInt = 0 := rfl
    have hphi : zx_phi K = zx_phi H := zx_phi_e (f 27 rfl rfl) (f 28 rfl rfl)
    refine ⟨zR_up b2 ?_, by rw [f 45 rfl rfl, f46, e0]; omega, by rw [f46, e0]; omega, fun _ => ⟨by rw [hphi, f 45 rfl rfl, f46, e0]; omega, by rw [hphi, f46, e0]; omega, ?_, ?_, 0, ?_⟩⟩
    · have c := zR_cn hB
      unfold zR_cc
      rw [f 23 rfl rfl, f 34 rfl rfl, f 35 rfl rfl]
      exact c
    · rw [f46, f47, e0]; rfl
    · rw [f46, e0]
      intro i hi
      exact absurd hi (Nat.not_lt_zero _)
    · rw [f46, f 45 rfl rfl, e0]; rfl
  have hF : zx_F (H.2.1 72 45).toInt.toNat H (zw_I (zw_I H 72 46 (Int32.ofInt 0)) 72 47 (Int32.ofInt 0)) := ⟨zk_Fr_I (zk_Fr_I (zk_Fr_r H) rfl rfl) rfl rfl, fun i _ => zw_ne (zw_ne rfl rfl) rfl⟩
  have hph : zx_phi (zw_I (zw_I H 72 46 (Int32.ofInt 0)) 72 47 (Int32.ofInt 0)) = zx_phi H := zx_phi_e (zw_ne (zw_ne rfl rfl) rfl) (zw_ne (zw_ne rfl rfl) rfl)
  have e45 : (zw_I (zw_I H 72 46 (Int32.ofInt 0)) 72 47 (Int32.ofInt 0)).2.1 72 45 = H.2.1 72 45 := zw_ne (zw_ne rfl rfl) rfl
  obtain ⟨_, c1, K, rfl, c2, c3, c4, c5⟩ := zx_deeper (L := L) (σ := σ) (d := d + 3) hS
  rw [e45] at c5
  have WK := zR_Wd (zR_dn c2.1)
  obtain ⟨_, d1, R, rfl, d2, d3, d4, d5, d6⟩ := zx_operand (L := L) (σ := σ) (d := d) (y := Int32.ofInt 1) hK c2 (by omega)
  have WR := zR_Wd (zR_dn d2.1)
  refine zw_cn (pc' := 22) (zw_cv (q := 72) (Y := zm_193) W.1 rfl rfl zm_193_t rfl rfl) rfl rfl rfl rfl rfl (c1) ?_
  refine zw_ld (n := 1) (k := 0) (f := zp_isR) (pc' := 23) rfl rfl rfl rfl rfl ?_
  refine zw_s (pc' := 24) rfl rfl ?_
  refine zw_cn (pc' := 27) (zw_cv (q := 72) (Y := zm_195) WK.1 rfl rfl zm_195_t rfl rfl) rfl rfl rfl rfl rfl (d1) ?_
  refine zw_s (pc' := 28) rfl rfl ?_
  refine zw_st (n := 1) (k := 1) (f := zp_isI) (pc' := 29) rfl rfl rfl rfl rfl ?_
  exact zx_exL hK _ R _ _ rfl (zw_gt rfl rfl rfl) zw_g1 d2 (zx_F_t hF (zx_F_t c3 d3)) d5 (by omega)
end
section
/-! ===== the reference reads a rule's line ===== -/
def zl_opq (P : Prop) : Prop := P
def zl_M : List (Nat × Nat) := [(72, 23), (72, 24), (72, 27), (72, 28), (72, 29), (72, 30), (72, 31), (72, 32), (72, 33), (72, 100)]
theorem zl_wrong {L : Nat} {σ : Nat → Int32} {d : Nat} {H : zp_H} {y : Int32} (h : zk_Bs zR zg zJ H) (hy : 1 ≤ y.toInt ∧ y.toInt ≤ 5) : ∃ H1, zp_Call L σ (d + 1) 180 [.inr (.inr (some 73)), .inl y] H (.inl none, H1) ∧ zk_Bs zR zg zJ H1 ∧ (H1.2.1 72 23).toInt ≠ 0 ∧ zk_Fr zg zl_M [] H H1 := by
  have W := zR_Wd (zR_dn h)
  by_cases hg : (H.2.1 72 23).toInt = 0
  · have e1 : (zw_I (zw_I H 72 23 y) 72 24 (H.2.1 72 29)).2.1 72 23 = y := zw_ne zw_eq rfl
    have b0 := zR_dn h
    have b1 := zR_putf (k := 23) (x := y) b0 (fun r hr => by cases hr; exact ⟨by show (0 : Int) ≤ _; omega, hy.2⟩) rfl (zJ_I rfl b0.2.2.2.2.2.2.2)
    have b2 := zR_putf (k := 24) (x := H.2.1 72 29) b1 (fun r hr => by cases hr) rfl (zJ_I rfl b1.2.2.2.2.2.2.2)
    refine ⟨_, zq_wrong0 W hg, zR_up b2 (fun h9 => ?_), ?_, zk_Fr_I (zk_Fr_I (zk_Fr_r H) rfl rfl) rfl rfl⟩
    · rw [e1] at h9; omega
    · rw [e1]; omega
  · exact ⟨H, zq_wrong1 W hg, h, hg, zk_Fr_r H⟩
theorem zl_phi {H : zp_H} : zx_phi H ≤ 2 * (H.2.1 72 27).toInt := by
  unfold zx_phi
  split <;> omega
def zm_176 : za_MI := (yX12_line, prog_14_method_41_code, 4, none, 12, 0, 0, [], za_i176)
theorem zm_176_t : za_MT 176 = some zm_176 := rfl
def zm_184 : za_MI := (yX12_way, prog_14_method_24_code, 2, (some FieldType.int), 12, 0, 0, [], za_i184)
theorem zm_184_t : za_MT 184 = some zm_184 := rfl
def zm_185 : za_MI := (yX12_within, prog_14_method_4_code, 3, (some FieldType.boolean), 12, 0, 0, [], za_i185)
theorem zm_185_t : za_MT 185 = some zm_185 := rfl
def zm_186 : za_MI := (yX12_need, prog_14_method_20_code, 2, none, 12, 0, 0, [], za_i186)
theorem zm_186_t : za_MT 186 = some zm_186 := rfl
theorem zl_need {L : Nat} {σ : Nat → Int32} {d : Nat} {H : zp_H} {y : Int32} (h : zk_Bs zR zg zJ H) : ∃ X, zp_Call L σ (d + 3) 186 [.inr (.inr (some 73)), .inl y] H X ∧ ∃ H1, X = (.inl none, H1) ∧ zk_Bs zR zg zJ H1 ∧ zk_Fr zg zl_M [] H H1 ∧ ((H1.2.1 72 23).toInt = 0 → (H.2.1 72 23).toInt = 0 ∧ 2 * (H.2.1 72 27).toInt ≤ zx_phi H1) := by
  have W := zR_Wd (zR_dn h)
  refine zw_met zm_186_t rfl rfl ?_
  refine zw_ld (n := 1) (k := 0) (f := zp_isR) (pc' := 1) rfl rfl rfl rfl rfl ?_
  by_cases hg : (H.2.1 72 23).toInt = 0
  · refine zw_c (pc' := 4) (zw_cv (q := 72) (Y := zm_175) W.1 rfl rfl zm_175_t rfl rfl) rfl rfl rfl rfl rfl (zq_good1 W hg) ?_
    refine zw_bne1 (g := 8) (pc' := 7) rfl rfl rfl (rfl : _ = (1 : Int)) (fun hb => ?_) (fun h9 => absurd h9 (by decide))
    refine zw_ld (n := 1) (k := 1) (f := zp_isI) (pc' := 9) rfl rfl rfl rfl rfl ?_
    refine zw_beq1 (g := 19) (pc' := 12) rfl rfl rfl rfl (fun hy => ?_) (fun hy => ?_)
    · obtain ⟨H1, c1, c2, c3, c4⟩ := zl_wrong (L := L) (σ := σ) (d := d + 1) (y := Int32.ofInt 1) h (by decide)
      refine zw_ld (n := 1) (k := 0) (f := zp_isR) (pc' := 20) rfl rfl rfl rfl rfl ?_
      refine zw_s (pc' := 21) rfl rfl ?_
      refine zw_cn (pc' := 24) (zw_cv (q := 72) (Y := zm_180) W.1 rfl rfl zm_180_t rfl rfl) rfl rfl rfl rfl rfl (c1) ?_
      refine zw_rn rfl rfl ?_
      exact ⟨H1, rfl, c2, c4, fun h9 => absurd h9 c3⟩
    · obtain ⟨H1, c1, c2, c3, c4, c5⟩ := zx_goes (L := L) (σ := σ) (d := d) h
      refine zw_ld (n := 1) (k := 0) (f := zp_isR) (pc' := 13) rfl rfl rfl rfl rfl ?_
      refine zw_cn (pc' := 16) (zw_cv (q := 72) (Y := zm_171) W.1 rfl rfl zm_171_t rfl rfl) rfl rfl rfl rfl rfl (c1) ?_
      refine zw_s (pc' := 24) rfl rfl ?_
      refine zw_rn rfl rfl ?_
      exact ⟨H1, rfl, c2, zk_Fr_w rfl rfl c3, fun _ => ⟨hg, c4⟩⟩
  · refine zw_c (pc' := 4) (zw_cv (q := 72) (Y := zm_175) W.1 rfl rfl zm_175_t rfl rfl) rfl rfl rfl rfl rfl (zq_good0 W hg) ?_
    refine zw_bne1 (g := 8) (pc' := 7) rfl rfl rfl (rfl : _ = (0 : Int)) (fun h9 => absurd h9 (by decide)) (fun hb => ?_)
    refine zw_rn rfl rfl ?_
    exact ⟨H, rfl, h, zk_Fr_r H, fun h9 => absurd h9 hg⟩

theorem zl_within {L : Nat} {σ : Nat → Int32} {d : Nat} {H : zp_H} {x y z : Int32} : ∃ X, zp_Call L σ (d + 1) 185 [.inl x, .inl y, .inl z] H X ∧ ∃ v : Int32, X = (.inl (some (.inl v)), H) := by
  refine zw_met zm_185_t rfl rfl ?_
  refine zw_ld (n := 1) (k := 0) (f := zp_isI) (pc' := 1) rfl rfl rfl rfl rfl ?_
  refine zw_ld (n := 1) (k := 1) (f := zp_isI) (pc' := 2) rfl rfl rfl rfl rfl ?_
  refine zw_blt2 (g := 14) (pc' := 5) rfl rfl rfl rfl rfl (fun h1 => ?_) (fun h1 => ?_)
  · refine zw_s (pc' := 15) rfl rfl ?_
    refine zw_rz rfl rfl (by decide) ?_
    exact ⟨_, rfl⟩
  · refine zw_ld (n := 1) (k := 0) (f := zp_isI) (pc' := 6) rfl rfl rfl rfl rfl ?_
    refine zw_ld (n := 1) (k := 2) (f := zp_isI) (pc' := 7) rfl rfl rfl rfl rfl ?_
    refine zw_bgt2 (g := 14) (pc' := 10) rfl rfl rfl rfl rfl (fun h2 => ?_) (fun h2 => ?_)
    · refine zw_s (pc' := 15) rfl rfl ?_
      refine zw_rz rfl rfl (by decide) ?_
      exact ⟨_, rfl⟩
    · refine zw_s (pc' := 11) rfl rfl ?_
      refine zw_s (pc' := 15) rfl rfl ?_
      refine zw_rz rfl rfl (by decide) ?_
      exact ⟨_, rfl⟩

theorem zl_way {L : Nat} {σ : Nat → Int32} {d : Nat} {H : zp_H} (hK : zx_KW L σ) (h : zk_Bs zR zg zJ H) : ∃ X, zp_Call L σ (d + 5) 184 [.inr (.inr (some 73))] H X ∧ ∃ H1 v, X = (.inl (some (.inl v)), H1) ∧ zk_Bs zR zg zJ H1 ∧ zk_Fr zg zl_M [] H H1 ∧ ((H1.2.1 72 23).toInt = 0 → (H.2.1 72 23).toInt = 0 ∧ 2 * (H.2.1 72 27).toInt ≤ zx_phi H1) := by
  have W := zR_Wd (zR_dn h)
  refine zw_met zm_184_t rfl rfl ?_
  refine zw_ld (n := 1) (k := 0) (f := zp_isR) (pc' := 1) rfl rfl rfl rfl rfl ?_
  by_cases hg : (H.2.1 72 23).toInt = 0
  · refine zw_c (pc' := 4) (zw_cv (q := 72) (Y := zm_175) W.1 rfl rfl zm_175_t rfl rfl) rfl rfl rfl rfl rfl (zq_good1 W hg) ?_
    refine zw_beq1 (g := 14) (pc' := 7) rfl rfl rfl (rfl : _ = (1 : Int)) (fun h9 => absurd h9 (by decide)) (fun hb => ?_)
    refine zw_ld (n := 1) (k := 0) (f := zp_isR) (pc' := 8) rfl rfl rfl rfl rfl ?_
    obtain ⟨v, v1, v2⟩ := hK d H h
    refine zw_c (pc' := 11) (zw_cv (q := 72) (Y := zm_177) W.1 rfl rfl zm_177_t rfl rfl) rfl rfl rfl rfl rfl (v1) ?_
    refine zw_s (pc' := 15) rfl rfl ?_
    refine zw_st (n := 1) (k := 1) (f := zp_isI) (pc' := 16) rfl rfl rfl rfl rfl ?_
    refine zw_ld (n := 1) (k := 0) (f := zp_isR) (pc' := 17) rfl rfl (zw_gt rfl rfl rfl) rfl rfl ?_
    refine zw_ld (n := 1) (k := 1) (f := zp_isI) (pc' := 18) rfl rfl zw_g1 rfl rfl ?_
    refine zw_s (pc' := 19) rfl rfl ?_
    refine zw_s (pc' := 20) rfl rfl ?_
    obtain ⟨_, w1, u, rfl⟩ := zl_within (L := L) (σ := σ) (d := d + 3) (H := H) (x := v) (y := Int32.ofInt 0) (z := Int32.ofInt 3)
    obtain ⟨_, n1, H1, rfl, n2, n3, n4⟩ := zl_need (L := L) (σ := σ) (d := d + 1) (y := u) h
    refine zw_c (pc' := 23) (zw_cs (Y := zm_185) rfl rfl zm_185_t) rfl rfl rfl rfl rfl (w1) ?_
    refine zw_cn (pc' := 26) (zw_cv (q := 72) (Y := zm_186) W.1 rfl rfl zm_186_t rfl rfl) rfl rfl rfl rfl rfl (n1) ?_
    refine zw_ld (n := 1) (k := 1) (f := zp_isI) (pc' := 27) rfl rfl zw_g1 rfl rfl ?_
    refine zw_ri rfl rfl ?_
    exact ⟨H1, _, rfl, n2, n3, n4⟩
  · refine zw_c (pc' := 4) (zw_cv (q := 72) (Y := zm_175) W.1 rfl rfl zm_175_t rfl rfl) rfl rfl rfl rfl rfl (zq_good0 W hg) ?_
    refine zw_beq1 (g := 14) (pc' := 7) rfl rfl rfl (rfl : _ = (0 : Int)) (fun hb => ?_) (fun h9 => absurd h9 (by decide))
    refine zw_s (pc' := 15) rfl rfl ?_
    refine zw_st (n := 1) (k := 1) (f := zp_isI) (pc' := 16) rfl rfl rfl rfl rfl ?_
    refine zw_ld (n := 1) (k := 0) (f := zp_isR) (pc' := 17) rfl rfl (zw_gt rfl rfl rfl) rfl rfl ?_
    refine zw_ld (n := 1) (k := 1) (f := zp_isI) (pc' := 18) rfl rfl zw_g1 rfl rfl ?_
    refine zw_s (pc' := 19) rfl rfl ?_
    refine zw_s (pc' := 20) rfl rfl ?_
    obtain ⟨_, w1, u, rfl⟩ := zl_within (L := L) (σ := σ) (d := d + 3) (H := H) (x := Int32.ofInt (-1)) (y := Int32.ofInt 0) (z := Int32.ofInt 3)
    obtain ⟨_, n1, H1, rfl, n2, n3, n4⟩ := zl_need (L := L) (σ := σ) (d := d + 1) (y := u) h
    refine zw_c (pc' := 23) (zw_cs (Y := zm_185) rfl rfl zm_185_t) rfl rfl rfl rfl rfl (w1) ?_
    refine zw_cn (pc' := 26) (zw_cv (q := 72) (Y := zm_186) W.1 rfl rfl zm_186_t rfl rfl) rfl rfl rfl rfl rfl (n1) ?_
    refine zw_ld (n := 1) (k := 1) (f := zp_isI) (pc' := 27) rfl rfl zw_g1 rfl rfl ?_
    refine zw_ri rfl rfl ?_
    exact ⟨H1, _, rfl, n2, n3, n4⟩

/-- the rules read so far can be reckoned -/
def zl_J (H : zp_H) : Prop := ∀ r : Nat, (r : Int) < (H.2.1 72 41).toInt → 0 ≤ (H.2.1 88 r).toInt ∧ ∃ n b m, zr_run (H.2.1 90) n (H.2.1 88 r).toInt.toNat 0 = some (b, m) ∧ (b : Int) < (H.2.1 72 45).toInt ∧ (H.2.1 90 b).toInt = 0
def zl_LM : List (Nat × Nat) := [(72, 23), (72, 24), (72, 27), (72, 28), (72, 29), (72, 30), (72, 31), (72, 32), (72, 33), (72, 41), (72, 45), (72, 46), (72, 47), (72, 100)]
def zl_LA : List Nat := [88, 89, 90, 91, 92]
def zl_R (H H1 : zp_H) : Prop := zk_Bs zR zg zJ H1 ∧ (H1.2.1 72 45).toInt ≤ 1402 ∧ ((H1.2.1 72 23).toInt = 0 → zl_J H1 ∧ (H1.2.1 72 45).toInt ≤ zx_phi H1 ∧ zx_phi H + 2 ≤ zx_phi H1)
theorem zl_J1 {H H2 H3 H8 : zp_H} (hJ : zl_J H) (n0 : 0 ≤ (H.2.1 72 41).toInt) (t0 : 0 ≤ (H.2.1 72 45).toInt)
    (a88 : ∀ r, r ≠ (H.2.1 72 41).toInt.toNat → H2.2.1 88 r = H.2.1 88 r) (b88 : H2.2.1 88 (H.2.1 72 41).toInt.toNat = H.2.1 72 45) (c90 : H2.2.1 90 = H.2.1 90)
    (d90 : ∀ i, i < (H.2.1 72 45).toInt.toNat → H3.2.1 90 i = H2.2.1 90 i) (e88 : H8.2.1 88 = H2.2.1 88) (e90 : H8.2.1 90 = H3.2.1 90) (e41 : (H8.2.1 72 41).toInt = (H.2.1 72 41).toInt + 1) (e45 : (H8.2.1 72 45).toInt = (H3.2.1 72 45).toInt) (t3 : (H.2.1 72 45).toInt ≤ (H3.2.1 72 45).toInt)
    (hr : ∃ n b m, zr_run (H3.2.1 90) n (H.2.1 72 45).toInt.toNat 0 = some (b, m) ∧ (b : Int) + 1 = (H3.2.1 72 45).toInt ∧ (H3.2.1 90 b).toInt = 0) : zl_J H8 := by
  intro r hr9
  rw [e88, e90, e45]
  by_cases h9 : r = (H.2.1 72 41).toInt.toNat
  · rw [h9, b88]
    obtain ⟨n, b, m, r1, r2, r3⟩ := hr
    exact ⟨t0, n, b, m, r1, by omega, r3⟩
  · rw [a88 r h9]
    obtain ⟨g0, n, b, m, r1, r2, r3⟩ := hJ r (by omega)
    have hb : b < (H.2.1 72 45).toInt.toNat := by omega
    refine ⟨g0, n, b, m, ?_, by omega, ?_⟩
    · refine zr_run_c (c := H.2.1 90) (b := (H.2.1 72 45).toInt.toNat) (fun i hi => ?_) r1 (Nat.le_of_lt hb)
      rw [d90 i hi, c90]
    · rw [d90 b hb, c90]
      exact r3

set_option maxRecDepth 8000 in
set_option maxHeartbeats 4000000 in
theorem zl_line16 {L : Nat} {σ : Nat → Int32} {d : Nat} {H : zp_H} (hK : zx_KW L σ) (hB : zk_Bs zR zg zJ H) (h0 : (H.2.1 72 23).toInt = 0) (h16 : zg H = 16) (hJ : zl_J H) (ht : (H.2.1 72 45).toInt ≤ zx_phi H) : ∃ X, zp_Call L σ (d + 10) 176 [.inr (.inr (some 73))] H X ∧ ∃ H1, X = (.inl none, H1) ∧ zl_R H H1 ∧ zk_Fr zg zl_LM zl_LA H H1 := by
  have W := zR_Wd (zR_dn hB)
  have n0 := zR_fr1 (zR_dn hB) (k := 41) (r := (0, 8)) rfl rfl
  have n0 : 0 ≤ (H.2.1 72 41).toInt ∧ (H.2.1 72 41).toInt ≤ 8 := n0
  have t0 := zR_fr1 (zR_dn hB) (k := 45) (r := (0, 1600)) rfl rfl
  have t0 : 0 ≤ (H.2.1 72 45).toInt ∧ (H.2.1 72 45).toInt ≤ 1600 := t0
  have pH := zx_phi_le hB
  have hs := zg_s (H := H) (by omega)
  have ps := zx_phi_s (H := H) (by omega)
  refine zw_met zm_176_t rfl rfl ?_
  obtain ⟨v, v1, v2⟩ := hK (d + 5) H hB
  refine zw_ld (n := 1) (k := 0) (f := zp_isR) (pc' := 1) rfl rfl rfl rfl rfl ?_
  refine zw_c (pc' := 4) (zw_cv (q := 72) (Y := zm_177) W.1 rfl rfl zm_177_t rfl rfl) rfl rfl rfl rfl rfl (v1) ?_
  refine zw_st (n := 1) (k := 1) (f := zp_isI) (pc' := 5) rfl rfl rfl rfl rfl ?_
  refine zw_ld (n := 1) (k := 1) (f := zp_isI) (pc' := 6) rfl rfl zw_g1 rfl rfl ?_
  refine zw_s (pc' := 8) rfl rfl ?_
  refine zw_bne2 (g := 60) (pc' := 11) rfl rfl rfl rfl (rfl : _ = (8 : Int)) (fun hv => ?_) (fun hv => ?_)
  · refine zw_ld (n := 1) (k := 1) (f := zp_isI) (pc' := 61) rfl rfl zw_g1 rfl rfl ?_
    refine zw_s (pc' := 63) rfl rfl ?_
    refine zw_bne2 (g := 159) (pc' := 66) rfl rfl rfl rfl (rfl : _ = (9 : Int)) (fun hv => ?_) (fun hv => ?_)
    · refine zw_ld (n := 1) (k := 1) (f := zp_isI) (pc' := 160) rfl rfl zw_g1 rfl rfl ?_
      refine zw_s (pc' := 162) rfl rfl ?_
      refine zw_bne2 (g := 240) (pc' := 165) rfl rfl rfl rfl (rfl : _ = (10 : Int)) (fun hv => ?_) (fun hv => ?_)
      · refine zw_ld (n := 1) (k := 1) (f := zp_isI) (pc' := 241) rfl rfl zw_g1 rfl rfl ?_
        refine zw_s (pc' := 243) rfl rfl ?_
        refine zw_bne2 (g := 253) (pc' := 246) rfl rfl rfl rfl (rfl : _ = (11 : Int)) (fun hv => ?_) (fun hv => ?_)
        · refine zw_ld (n := 1) (k := 1) (f := zp_isI) (pc' := 254) rfl rfl zw_g1 rfl rfl ?_
          refine zw_s (pc' := 256) rfl rfl ?_
          refine zw_bne2 (g := 266) (pc' := 259) rfl rfl rfl rfl (rfl : _ = (12 : Int)) (fun hv => ?_) (fun hv => ?_)
          · refine zw_ld (n := 1) (k := 1) (f := zp_isI) (pc' := 267) rfl rfl zw_g1 rfl rfl ?_
            refine zw_s (pc' := 269) rfl rfl ?_
            refine zw_bne2 (g := 323) (pc' := 272) rfl rfl rfl rfl (rfl : _ = (13 : Int)) (fun hv => ?_) (fun hv => ?_)
            · refine zw_ld (n := 1) (k := 1) (f := zp_isI) (pc' := 324) rfl rfl zw_g1 rfl rfl ?_
              refine zw_s (pc' := 326) rfl rfl ?_
              refine zw_bne2 (g := 372) (pc' := 329) rfl rfl rfl rfl (rfl : _ = (14 : Int)) (fun hv => ?_) (fun hv => ?_)
              · refine zw_ld (n := 1) (k := 1) (f := zp_isI) (pc' := 373) rfl rfl zw_g1 rfl rfl ?_
                refine zw_s (pc' := 375) rfl rfl ?_
                refine zw_bne2 (g := 385) (pc' := 378) rfl rfl rfl rfl (rfl : _ = (15 : Int)) (fun hv => ?_) (fun hv => ?_)
                · refine zw_ld (n := 1) (k := 1) (f := zp_isI) (pc' := 386) rfl rfl zw_g1 rfl rfl ?_
                  refine zw_s (pc' := 388) rfl rfl ?_
                  refine zw_bne2 (g := 478) (pc' := 391) rfl rfl rfl rfl (rfl : _ = (16 : Int)) (fun hv => ?_) (fun hv => ?_)
                  · omega
                  · refine zw_ld (n := 1) (k := 0) (f := zp_isR) (pc' := 392) rfl rfl (zw_gt rfl rfl rfl) rfl rfl ?_
                    refine zw_gI (q := 72) (pc' := 395) W rfl rfl rfl rfl rfl rfl ?_
                    refine zw_s (pc' := 397) rfl rfl ?_
                    refine zw_bne2 (g := 405) (pc' := 400) rfl rfl rfl rfl (rfl : _ = (8 : Int)) (fun h8 => ?_) (fun h8 => ?_)
                    · refine zw_ld (n := 1) (k := 0) (f := zp_isR) (pc' := 406) rfl rfl (zw_gt rfl rfl rfl) rfl rfl ?_
                      refine zw_c (pc' := 409) (zw_cv (q := 72) (Y := zm_175) W.1 rfl rfl zm_175_t rfl rfl) rfl rfl rfl rfl rfl (zq_good1 W h0) ?_
                      refine zw_bne1 (g := 413) (pc' := 412) rfl rfl rfl (rfl : _ = (1 : Int)) (fun hb => ?_) (fun h9 => absurd h9 (by decide))
                      obtain ⟨H1, c1, c2, c3, c4, c5⟩ := zx_goes (L := L) (σ := σ) (d := d + 7) hB
                      have W1 := zR_Wd (zR_dn c2)
                      have a41 := zx_fe c3 41 rfl rfl rfl
                      have a45 := zx_fe c3 45 rfl rfl rfl
                      have a23 := zx_fe c3 23 rfl rfl rfl
                      have a88 := zx_ae c3 88 (fun _ => rfl) rfl rfl
                      have a90 := zx_ae c3 90 (fun _ => rfl) rfl rfl
                      refine zw_ld (n := 1) (k := 0) (f := zp_isR) (pc' := 414) rfl rfl (zw_gt rfl rfl rfl) rfl rfl ?_
                      refine zw_cn (pc' := 417) (zw_cv (q := 72) (Y := zm_171) W.1 rfl rfl zm_171_t rfl rfl) rfl rfl rfl rfl rfl (c1) ?_
                      refine zw_ld (n := 1) (k := 0) (f := zp_isR) (pc' := 418) rfl rfl (zw_gt rfl rfl rfl) rfl rfl ?_
                      refine zw_gR (q := 72) (pc' := 421) W1 rfl rfl rfl rfl (W1.2 72 57 _ rfl) rfl ?_
                      refine zw_ld (n := 1) (k := 0) (f := zp_isR) (pc' := 422) rfl rfl (zw_gt rfl rfl rfl) rfl rfl ?_
                      refine zw_gI (q := 72) (pc' := 425) W1 rfl rfl rfl rfl rfl rfl ?_
                      refine zw_ld (n := 1) (k := 0) (f := zp_isR) (pc' := 426) rfl rfl (zw_gt rfl rfl rfl) rfl rfl ?_
                      refine zw_gI (q := 72) (pc' := 429) W1 rfl rfl rfl rfl rfl rfl ?_
                      refine zw_is (q := 88) (pc' := 430) W1 rfl rfl (by decide) (⟨by omega, by show _ < ((8 : Nat) : Int); omega⟩) rfl ?_
                      have hB2 : zk_Bs zR zg zJ (zw_I H1 88 (H1.2.1 72 41).toInt.toNat (zp_nar 0 (H1.2.1 72 45))) := by
                        have b0 := zR_dn c2
                        have b1 := zR_puta (p := 88) (j := (H1.2.1 72 41).toInt.toNat) (x := H1.2.1 72 45) (t := 0) (n := 8) b0 rfl (fun r hr => by
                          have hr : [((0 : Int), (1600 : Int))][(H1.2.1 72 41).toInt.toNat % 1]? = some r := hr
                          rw [Nat.mod_one] at hr
                          cases hr
                          exact ⟨by show (0 : Int) ≤ _; omega, by show _ ≤ (1600 : Int); omega⟩) (zJ_I rfl b0.2.2.2.2.2.2.2)
                        refine zR_up b1 ?_
                        have c := zR_cn c2
                        intro h9
                        exact c h9
                      generalize hH2 : zw_I H1 88 (H1.2.1 72 41).toInt.toNat (zp_nar 0 (H1.2.1 72 45)) = H2 at hB2 ⊢
                      have f2 : ∀ k, H2.2.1 72 k = H1.2.1 72 k := fun k => by rw [← hH2]; exact zw_ne rfl rfl
                      have f90 : H2.2.1 90 = H1.2.1 90 := by rw [← hH2]; exact funext (fun i => zw_ne rfl rfl)
                      have f88 : ∀ r, r ≠ (H1.2.1 72 41).toInt.toNat → H2.2.1 88 r = H1.2.1 88 r := fun r h9 => by rw [← hH2]; exact zp_u_ne (fun h8 => h9 h8.2)
                      have f88t : H2.2.1 88 (H1.2.1 72 41).toInt.toNat = H1.2.1 72 45 := by rw [← hH2]; exact zw_eq
                      have F2 : zk_Fr zg zl_LM zl_LA H H2 := by rw [← hH2]; exact zk_Fr_I (zk_Fr_w rfl rfl c3) rfl rfl
                      have W2 := zR_Wd (zR_dn hB2)
                      have hph2 : zx_phi H2 = zx_phi H1 := zx_phi_e (f2 27) (f2 28)
                      have g45 : (H2.2.1 72 45).toInt = (H.2.1 72 45).toInt := by rw [f2, a45]
                      have g41 : (H2.2.1 72 41).toInt = (H.2.1 72 41).toInt := by rw [f2, a41]
                      have g23 : (H2.2.1 72 23).toInt = 0 := by rw [f2]; omega
                      obtain ⟨_, x1, H3, rfl, x2, x3, x4, x5, x6⟩ := zx_expr (L := L) (σ := σ) (d := d + 2) hK hB2 g23 (by omega)
                      rw [g45] at x3 x4 x6
                      replace x6 : zl_opq _ := x6
                      have W3 := zR_Wd (zR_dn x2)
                      have i41 := zx_fe x3.1 41 rfl rfl rfl
                      have i88 := zx_ae x3.1 88 (fun _ => rfl) rfl rfl
                      obtain ⟨v3, y1, y2⟩ := hK (d + 5) H3 x2
                      refine zw_ld (n := 1) (k := 0) (f := zp_isR) (pc' := 431) rfl rfl (zw_gt rfl rfl rfl) rfl rfl ?_
                      refine zw_cn (pc' := 434) (zw_cv (q := 72) (Y := zm_192) W2.1 rfl rfl zm_192_t rfl rfl) rfl rfl rfl rfl rfl (x1) ?_
                      refine zw_ld (n := 1) (k := 0) (f := zp_isR) (pc' := 435) rfl rfl (zw_gt rfl rfl rfl) rfl rfl ?_
                      refine zw_ld (n := 1) (k := 0) (f := zp_isR) (pc' := 436) rfl rfl (zw_gt rfl rfl rfl) rfl rfl ?_
                      refine zw_c (pc' := 439) (zw_cv (q := 72) (Y := zm_177) W3.1 rfl rfl zm_177_t rfl rfl) rfl rfl rfl rfl rfl (y1) ?_
                      refine zw_s (pc' := 441) rfl rfl ?_
                      refine zw_bne2 (g := 448) (pc' := 444) rfl rfl rfl rfl (rfl : _ = (17 : Int)) (fun h17 => ?_) (fun h17 => ?_)
                      · refine zw_s (pc' := 449) rfl rfl ?_
                        obtain ⟨_, q1, H4, rfl, q2, q3, q4⟩ := zl_need (L := L) (σ := σ) (d := d + 6) (y := Int32.ofInt 0) x2
                        have W4 := zR_Wd (zR_dn q2)
                        obtain ⟨_, r1, H5, v5, rfl, r2, r3, r4⟩ := zl_way (L := L) (σ := σ) (d := d + 4) hK q2
                        have W5 := zR_Wd (zR_dn r2)
                        have j41 := zx_fe q3 41 rfl rfl rfl
                        have k41 := zx_fe r3 41 rfl rfl rfl
                        have j45 := zx_fe q3 45 rfl rfl rfl
                        have k45 := zx_fe r3 45 rfl rfl rfl
                        have j88 := zx_ae q3 88 (fun _ => rfl) rfl rfl
                        have k88 := zx_ae r3 88 (fun _ => rfl) rfl rfl
                        have j90 := zx_ae q3 90 (fun _ => rfl) rfl rfl
                        have k90 := zx_ae r3 90 (fun _ => rfl) rfl rfl
                        have e41 : (H5.2.1 72 41 + Int32.ofInt 1).toInt = (H5.2.1 72 41).toInt + 1 := zw_p1 (by omega)
                        refine zw_cn (pc' := 452) (zw_cv (q := 72) (Y := zm_186) W3.1 rfl rfl zm_186_t rfl rfl) rfl rfl rfl rfl rfl (q1) ?_
                        refine zw_ld (n := 1) (k := 0) (f := zp_isR) (pc' := 453) rfl rfl (zw_gt rfl rfl rfl) rfl rfl ?_
                        refine zw_gR (q := 72) (pc' := 456) W4 rfl rfl rfl rfl (W4.2 72 58 _ rfl) rfl ?_
                        refine zw_ld (n := 1) (k := 0) (f := zp_isR) (pc' := 457) rfl rfl (zw_gt rfl rfl rfl) rfl rfl ?_
                        refine zw_gI (q := 72) (pc' := 460) W4 rfl rfl rfl rfl rfl rfl ?_
                        refine zw_ld (n := 1) (k := 0) (f := zp_isR) (pc' := 461) rfl rfl (zw_gt rfl rfl rfl) rfl rfl ?_
                        refine zw_c (pc' := 464) (zw_cv (q := 72) (Y := zm_184) W4.1 rfl rfl zm_184_t rfl rfl) rfl rfl rfl rfl rfl (r1) ?_
                        refine zw_is (q := 89) (pc' := 465) W5 rfl rfl (by decide) (⟨by omega, by show _ < ((8 : Nat) : Int); omega⟩) rfl ?_
                        refine zw_ld (n := 1) (k := 0) (f := zp_isR) (pc' := 466) rfl rfl (zw_gt rfl rfl rfl) rfl rfl ?_
                        refine zw_s (pc' := 467) rfl rfl ?_
                        refine zw_gI (q := 72) (pc' := 470) W5 rfl rfl rfl rfl (zw_ne rfl rfl) rfl ?_
                        refine zw_s (pc' := 471) rfl rfl ?_
                        refine zw_iadd (pc' := 472) rfl rfl ?_
                        refine zw_pI (q := 72) (pc' := 475) W5 rfl rfl rfl rfl rfl rfl ?_
                        refine zw_s (pc' := 483) rfl rfl ?_
                        have hB7 : zk_Bs zR zg zJ (zw_I (zw_I H5 89 (H4.2.1 72 41).toInt.toNat (zp_nar 0 v5)) 72 41 (H5.2.1 72 41 + Int32.ofInt 1)) := by
                          have b0 := zR_dn r2
                          have b1 := zR_puta (p := 89) (j := (H4.2.1 72 41).toInt.toNat) (x := v5) (t := 0) (n := 8) b0 rfl (fun r hr => by
                            have e : r = (-2147483648, 2147483647) := by
                              have hr : [((-2147483648 : Int), (2147483647 : Int))][(H4.2.1 72 41).toInt.toNat % 1]? = some r := hr
                              rw [Nat.mod_one] at hr
                              exact (Option.some.inj hr).symm
                            rw [e]
                            exact ⟨Int32.le_toInt _, Int32.toInt_le _⟩) (zJ_I rfl b0.2.2.2.2.2.2.2)
                          have b2 := zR_putf (k := 41) (x := H5.2.1 72 41 + Int32.ofInt 1) b1 (fun r hr => by cases hr; exact ⟨by show (0 : Int) ≤ _; omega, by show _ ≤ (8 : Int); omega⟩) rfl (zJ_I rfl b1.2.2.2.2.2.2.2)
                          refine zR_up b2 ?_
                          have c := zR_cn r2
                          intro h9
                          exact c h9
                        generalize hH7 : zw_I (zw_I H5 89 (H4.2.1 72 41).toInt.toNat (zp_nar 0 v5)) 72 41 (H5.2.1 72 41 + Int32.ofInt 1) = H7 at hB7 ⊢
                        have f7 : ∀ k, Nat.beq k 41 = false → H7.2.1 72 k = H5.2.1 72 k := fun k hk => by rw [← hH7]; exact zw_ne (zw_ne rfl rfl) (by rw [hk]; rfl)
                        have f741 : H7.2.1 72 41 = H5.2.1 72 41 + Int32.ofInt 1 := by rw [← hH7]; exact zw_eq
                        have f788 : H7.2.1 88 = H5.2.1 88 := by rw [← hH7]; exact funext (fun i => zw_ne (zw_ne rfl rfl) rfl)
                        have f790 : H7.2.1 90 = H5.2.1 90 := by rw [← hH7]; exact funext (fun i => zw_ne (zw_ne rfl rfl) rfl)
                        have F5 : zk_Fr zg zl_LM zl_LA H H5 := zk_Fr_t (zk_Fr_t (zk_Fr_t F2 (zk_Fr_w rfl rfl x3.1)) (zk_Fr_w rfl rfl q3)) (zk_Fr_w rfl rfl r3)
                        have F7 : zk_Fr zg zl_LM zl_LA H H7 := by rw [← hH7]; exact zk_Fr_I (zk_Fr_I F5 rfl rfl) rfl rfl
                        have W7 := zR_Wd (zR_dn hB7)
                        have m23 : (H7.2.1 72 23).toInt = (H5.2.1 72 23).toInt := by rw [f7 23 rfl]
                        have m27 : (H7.2.1 72 27).toInt = (H5.2.1 72 27).toInt := by rw [f7 27 rfl]
                        have m45 : (H7.2.1 72 45).toInt = (H5.2.1 72 45).toInt := by rw [f7 45 rfl]
                        have m41 : (H7.2.1 72 41).toInt = (H5.2.1 72 41).toInt + 1 := by rw [f741, e41]
                        have ph3 := zl_phi (H := H3)
                        have ph4 := zl_phi (H := H4)
                        have ph5 := zl_phi (H := H5)
                        refine zw_ld (n := 1) (k := 0) (f := zp_isR) (pc' := 484) rfl rfl (zw_gt rfl rfl rfl) rfl rfl ?_
                        refine zw_ld (n := 1) (k := 0) (f := zp_isR) (pc' := 485) rfl rfl (zw_gt rfl rfl rfl) rfl rfl ?_
                        refine zw_s (pc' := 487) rfl rfl ?_
                        by_cases h59 : (H7.2.1 72 28).toInt = 3 ∧ (H7.2.1 72 32).toInt = (Int32.ofInt 59).toInt
                        · refine zw_c (pc' := 490) (zw_cv (q := 72) (Y := zm_194) W7.1 rfl rfl zm_194_t rfl rfl) rfl rfl rfl rfl rfl (zq_sign1 W7 h59) ?_
                          obtain ⟨_, s1, H8, rfl, s2, s3, s4⟩ := zl_need (L := L) (σ := σ) (d := d + 6) (y := Int32.ofInt 1) hB7
                          have l41 := zx_fe s3 41 rfl rfl rfl
                          have l45 := zx_fe s3 45 rfl rfl rfl
                          have l88 := zx_ae s3 88 (fun _ => rfl) rfl rfl
                          have l90 := zx_ae s3 90 (fun _ => rfl) rfl rfl
                          refine zw_cn (pc' := 493) (zw_cv (q := 72) (Y := zm_186) W7.1 rfl rfl zm_186_t rfl rfl) rfl rfl rfl rfl rfl (s1) ?_
                          refine zw_rn rfl rfl ?_
                          refine ⟨H8, rfl, ⟨s2, by omega, fun h9 => ?_⟩, zk_Fr_t F7 (zk_Fr_w rfl rfl s3)⟩
                          obtain ⟨s5, s6⟩ := s4 h9
                          obtain ⟨s7, s8⟩ := r4 (by omega)
                          obtain ⟨s9, s10⟩ := q4 s7
                          obtain ⟨z1, z2, z3⟩ := (show _ → _ from x6) s9
                          refine ⟨zl_J1 (H2 := H2) (H3 := H3) hJ n0.1 t0.1 ?_ ?_ (by rw [f90, a90]) (fun i hi => x3.2 i hi) (by rw [l88, f788, k88, j88, i88]) (by rw [l90, f790, k90, j90]) (by omega) (by omega) (by omega) z3, by omega, by omega⟩
                          · intro r hr
                            rw [f88 r (by omega), a88]
                          · have e9 : (H.2.1 72 41).toInt.toNat = (H1.2.1 72 41).toInt.toNat := by omega
                            rw [e9, f88t]
                            exact Int32.toInt_inj.mp a45
                        · refine zw_c (pc' := 490) (zw_cv (q := 72) (Y := zm_194) W7.1 rfl rfl zm_194_t rfl rfl) rfl rfl rfl rfl rfl (zq_sign0 W7 h59) ?_
                          obtain ⟨_, s1, H8, rfl, s2, s3, s4⟩ := zl_need (L := L) (σ := σ) (d := d + 6) (y := Int32.ofInt 0) hB7
                          have l41 := zx_fe s3 41 rfl rfl rfl
                          have l45 := zx_fe s3 45 rfl rfl rfl
                          have l88 := zx_ae s3 88 (fun _ => rfl) rfl rfl
                          have l90 := zx_ae s3 90 (fun _ => rfl) rfl rfl
                          refine zw_cn (pc' := 493) (zw_cv (q := 72) (Y := zm_186) W7.1 rfl rfl zm_186_t rfl rfl) rfl rfl rfl rfl rfl (s1) ?_
                          refine zw_rn rfl rfl ?_
                          refine ⟨H8, rfl, ⟨s2, by omega, fun h9 => ?_⟩, zk_Fr_t F7 (zk_Fr_w rfl rfl s3)⟩
                          obtain ⟨s5, s6⟩ := s4 h9
                          obtain ⟨s7, s8⟩ := r4 (by omega)
                          obtain ⟨s9, s10⟩ := q4 s7
                          obtain ⟨z1, z2, z3⟩ := (show _ → _ from x6) s9
                          refine ⟨zl_J1 (H2 := H2) (H3 := H3) hJ n0.1 t0.1 ?_ ?_ (by rw [f90, a90]) (fun i hi => x3.2 i hi) (by rw [l88, f788, k88, j88, i88]) (by rw [l90, f790, k90, j90]) (by omega) (by omega) (by omega) z3, by omega, by omega⟩
                          · intro r hr
                            rw [f88 r (by omega), a88]
                          · have e9 : (H.2.1 72 41).toInt.toNat = (H1.2.1 72 41).toInt.toNat := by omega
                            rw [e9, f88t]
                            exact Int32.toInt_inj.mp a45
                      · refine zw_s (pc' := 445) rfl rfl ?_
                        refine zw_s (pc' := 449) rfl rfl ?_
                        obtain ⟨_, q1, H4, rfl, q2, q3, q4⟩ := zl_need (L := L) (σ := σ) (d := d + 6) (y := Int32.ofInt 1) x2
                        have W4 := zR_Wd (zR_dn q2)
                        obtain ⟨_, r1, H5, v5, rfl, r2, r3, r4⟩ := zl_way (L := L) (σ := σ) (d := d + 4) hK q2
                        have W5 := zR_Wd (zR_dn r2)
                        have j41 := zx_fe q3 41 rfl rfl rfl
                        have k41 := zx_fe r3 41 rfl rfl rfl
                        have j45 := zx_fe q3 45 rfl rfl rfl
                        have k45 := zx_fe r3 45 rfl rfl rfl
                        have j88 := zx_ae q3 88 (fun _ => rfl) rfl rfl
                        have k88 := zx_ae r3 88 (fun _ => rfl) rfl rfl
                        have j90 := zx_ae q3 90 (fun _ => rfl) rfl rfl
                        have k90 := zx_ae r3 90 (fun _ => rfl) rfl rfl
                        have e41 : (H5.2.1 72 41 + Int32.ofInt 1).toInt = (H5.2.1 72 41).toInt + 1 := zw_p1 (by omega)
                        refine zw_cn (pc' := 452) (zw_cv (q := 72) (Y := zm_186) W3.1 rfl rfl zm_186_t rfl rfl) rfl rfl rfl rfl rfl (q1) ?_
                        refine zw_ld (n := 1) (k := 0) (f := zp_isR) (pc' := 453) rfl rfl (zw_gt rfl rfl rfl) rfl rfl ?_
                        refine zw_gR (q := 72) (pc' := 456) W4 rfl rfl rfl rfl (W4.2 72 58 _ rfl) rfl ?_
                        refine zw_ld (n := 1) (k := 0) (f := zp_isR) (pc' := 457) rfl rfl (zw_gt rfl rfl rfl) rfl rfl ?_
                        refine zw_gI (q := 72) (pc' := 460) W4 rfl rfl rfl rfl rfl rfl ?_
                        refine zw_ld (n := 1) (k := 0) (f := zp_isR) (pc' := 461) rfl rfl (zw_gt rfl rfl rfl) rfl rfl ?_
                        refine zw_c (pc' := 464) (zw_cv (q := 72) (Y := zm_184) W4.1 rfl rfl zm_184_t rfl rfl) rfl rfl rfl rfl rfl (r1) ?_
                        refine zw_is (q := 89) (pc' := 465) W5 rfl rfl (by decide) (⟨by omega, by show _ < ((8 : Nat) : Int); omega⟩) rfl ?_
                        refine zw_ld (n := 1) (k := 0) (f := zp_isR) (pc' := 466) rfl rfl (zw_gt rfl rfl rfl) rfl rfl ?_
                        refine zw_s (pc' := 467) rfl rfl ?_
                        refine zw_gI (q := 72) (pc' := 470) W5 rfl rfl rfl rfl (zw_ne rfl rfl) rfl ?_
                        refine zw_s (pc' := 471) rfl rfl ?_
                        refine zw_iadd (pc' := 472) rfl rfl ?_
                        refine zw_pI (q := 72) (pc' := 475) W5 rfl rfl rfl rfl rfl rfl ?_
                        refine zw_s (pc' := 483) rfl rfl ?_
                        have hB7 : zk_Bs zR zg zJ (zw_I (zw_I H5 89 (H4.2.1 72 41).toInt.toNat (zp_nar 0 v5)) 72 41 (H5.2.1 72 41 + Int32.ofInt 1)) := by
                          have b0 := zR_dn r2
                          have b1 := zR_puta (p := 89) (j := (H4.2.1 72 41).toInt.toNat) (x := v5) (t := 0) (n := 8) b0 rfl (fun r hr => by
                            have e : r = (-2147483648, 2147483647) := by
                              have hr : [((-2147483648 : Int), (2147483647 : Int))][(H4.2.1 72 41).toInt.toNat % 1]? = some r := hr
                              rw [Nat.mod_one] at hr
                              exact (Option.some.inj hr).symm
                            rw [e]
                            exact ⟨Int32.le_toInt _, Int32.toInt_le _⟩) (zJ_I rfl b0.2.2.2.2.2.2.2)
                          have b2 := zR_putf (k := 41) (x := H5.2.1 72 41 + Int32.ofInt 1) b1 (fun r hr => by cases hr; exact ⟨by show (0 : Int) ≤ _; omega, by show _ ≤ (8 : Int); omega⟩) rfl (zJ_I rfl b1.2.2.2.2.2.2.2)
                          refine zR_up b2 ?_
                          have c := zR_cn r2
                          intro h9
                          exact c h9
                        generalize hH7 : zw_I (zw_I H5 89 (H4.2.1 72 41).toInt.toNat (zp_nar 0 v5)) 72 41 (H5.2.1 72 41 + Int32.ofInt 1) = H7 at hB7 ⊢
                        have f7 : ∀ k, Nat.beq k 41 = false → H7.2.1 72 k = H5.2.1 72 k := fun k hk => by rw [← hH7]; exact zw_ne (zw_ne rfl rfl) (by rw [hk]; rfl)
                        have f741 : H7.2.1 72 41 = H5.2.1 72 41 + Int32.ofInt 1 := by rw [← hH7]; exact zw_eq
                        have f788 : H7.2.1 88 = H5.2.1 88 := by rw [← hH7]; exact funext (fun i => zw_ne (zw_ne rfl rfl) rfl)
                        have f790 : H7.2.1 90 = H5.2.1 90 := by rw [← hH7]; exact funext (fun i => zw_ne (zw_ne rfl rfl) rfl)
                        have F5 : zk_Fr zg zl_LM zl_LA H H5 := zk_Fr_t (zk_Fr_t (zk_Fr_t F2 (zk_Fr_w rfl rfl x3.1)) (zk_Fr_w rfl rfl q3)) (zk_Fr_w rfl rfl r3)
                        have F7 : zk_Fr zg zl_LM zl_LA H H7 := by rw [← hH7]; exact zk_Fr_I (zk_Fr_I F5 rfl rfl) rfl rfl
                        have W7 := zR_Wd (zR_dn hB7)
                        have m23 : (H7.2.1 72 23).toInt = (H5.2.1 72 23).toInt := by rw [f7 23 rfl]
                        have m27 : (H7.2.1 72 27).toInt = (H5.2.1 72 27).toInt := by rw [f7 27 rfl]
                        have m45 : (H7.2.1 72 45).toInt = (H5.2.1 72 45).toInt := by rw [f7 45 rfl]
                        have m41 : (H7.2.1 72 41).toInt = (H5.2.1 72 41).toInt + 1 := by rw [f741, e41]
                        have ph3 := zl_phi (H := H3)
                        have ph4 := zl_phi (H := H4)
                        have ph5 := zl_phi (H := H5)
                        refine zw_ld (n := 1) (k := 0) (f := zp_isR) (pc' := 484) rfl rfl (zw_gt rfl rfl rfl) rfl rfl ?_
                        refine zw_ld (n := 1) (k := 0) (f := zp_isR) (pc' := 485) rfl rfl (zw_gt rfl rfl rfl) rfl rfl ?_
                        refine zw_s (pc' := 487) rfl rfl ?_
                        by_cases h59 : (H7.2.1 72 28).toInt = 3 ∧ (H7.2.1 72 32).toInt = (Int32.ofInt 59).toInt
                        · refine zw_c (pc' := 490) (zw_cv (q := 72) (Y := zm_194) W7.1 rfl rfl zm_194_t rfl rfl) rfl rfl rfl rfl rfl (zq_sign1 W7 h59) ?_
                          obtain ⟨_, s1, H8, rfl, s2, s3, s4⟩ := zl_need (L := L) (σ := σ) (d := d + 6) (y := Int32.ofInt 1) hB7
                          have l41 := zx_fe s3 41 rfl rfl rfl
                          have l45 := zx_fe s3 45 rfl rfl rfl
                          have l88 := zx_ae s3 88 (fun _ => rfl) rfl rfl
                          have l90 := zx_ae s3 90 (fun _ => rfl) rfl rfl
                          refine zw_cn (pc' := 493) (zw_cv (q := 72) (Y := zm_186) W7.1 rfl rfl zm_186_t rfl rfl) rfl rfl rfl rfl rfl (s1) ?_
                          refine zw_rn rfl rfl ?_
                          refine ⟨H8, rfl, ⟨s2, by omega, fun h9 => ?_⟩, zk_Fr_t F7 (zk_Fr_w rfl rfl s3)⟩
                          obtain ⟨s5, s6⟩ := s4 h9
                          obtain ⟨s7, s8⟩ := r4 (by omega)
                          obtain ⟨s9, s10⟩ := q4 s7
                          obtain ⟨z1, z2, z3⟩ := (show _ → _ from x6) s9
                          refine ⟨zl_J1 (H2 := H2) (H3 := H3) hJ n0.1 t0.1 ?_ ?_ (by rw [f90, a90]) (fun i hi => x3.2 i hi) (by rw [l88, f788, k88, j88, i88]) (by rw [l90, f790, k90, j90]) (by omega) (by omega) (by omega) z3, by omega, by omega⟩
                          · intro r hr
                            rw [f88 r (by omega), a88]
                          · have e9 : (H.2.1 72 41).toInt.toNat = (H1.2.1 72 41).toInt.toNat := by omega
                            rw [e9, f88t]
                            exact Int32.toInt_inj.mp a45
                        · refine zw_c (pc' := 490) (zw_cv (q := 72) (Y := zm_194) W7.1 rfl rfl zm_194_t rfl rfl) rfl rfl rfl rfl rfl (zq_sign0 W7 h59) ?_
                          obtain ⟨_, s1, H8, rfl, s2, s3, s4⟩ := zl_need (L := L) (σ := σ) (d := d + 6) (y := Int32.ofInt 0) hB7
                          have l41 := zx_fe s3 41 rfl rfl rfl
                          have l45 := zx_fe s3 45 rfl rfl rfl
                          have l88 := zx_ae s3 88 (fun _ => rfl) rfl rfl
                          have l90 := zx_ae s3 90 (fun _ => rfl) rfl rfl
                          refine zw_cn (pc' := 493) (zw_cv (q := 72) (Y := zm_186) W7.1 rfl rfl zm_186_t rfl rfl) rfl rfl rfl rfl rfl (s1) ?_
                          refine zw_rn rfl rfl ?_
                          refine ⟨H8, rfl, ⟨s2, by omega, fun h9 => ?_⟩, zk_Fr_t F7 (zk_Fr_w rfl rfl s3)⟩
                          obtain ⟨s5, s6⟩ := s4 h9
                          obtain ⟨s7, s8⟩ := r4 (by omega)
                          obtain ⟨s9, s10⟩ := q4 s7
                          obtain ⟨z1, z2, z3⟩ := (show _ → _ from x6) s9
                          refine ⟨zl_J1 (H2 := H2) (H3 := H3) hJ n0.1 t0.1 ?_ ?_ (by rw [f90, a90]) (fun i hi => x3.2 i hi) (by rw [l88, f788, k88, j88, i88]) (by rw [l90, f790, k90, j90]) (by omega) (by omega) (by omega) z3, by omega, by omega⟩
                          · intro r hr
                            rw [f88 r (by omega), a88]
                          · have e9 : (H.2.1 72 41).toInt.toNat = (H1.2.1 72 41).toInt.toNat := by omega
                            rw [e9, f88t]
                            exact Int32.toInt_inj.mp a45
                    · obtain ⟨H1, c1, c2, c3, c4⟩ := zl_wrong (L := L) (σ := σ) (d := d + 8) (y := Int32.ofInt 2) hB (by decide)
                      have W1 := zR_Wd (zR_dn c2)
                      have e45 := zx_fe c4 45 rfl rfl rfl
                      refine zw_ld (n := 1) (k := 0) (f := zp_isR) (pc' := 401) rfl rfl (zw_gt rfl rfl rfl) rfl rfl ?_
                      refine zw_s (pc' := 402) rfl rfl ?_
                      refine zw_cn (pc' := 405) (zw_cv (q := 72) (Y := zm_180) W.1 rfl rfl zm_180_t rfl rfl) rfl rfl rfl rfl rfl (c1) ?_
                      refine zw_ld (n := 1) (k := 0) (f := zp_isR) (pc' := 406) rfl rfl (zw_gt rfl rfl rfl) rfl rfl ?_
                      refine zw_c (pc' := 409) (zw_cv (q := 72) (Y := zm_175) W1.1 rfl rfl zm_175_t rfl rfl) rfl rfl rfl rfl rfl (zq_good0 W1 c3) ?_
                      refine zw_bne1 (g := 413) (pc' := 412) rfl rfl rfl (rfl : _ = (0 : Int)) (fun h9 => absurd h9 (by decide)) (fun hb => ?_)
                      refine zw_rn rfl rfl ?_
                      exact ⟨H1, rfl, ⟨c2, by omega, fun h9 => absurd h9 c3⟩, zk_Fr_w rfl rfl c4⟩
                · omega
              · omega
            · omega
          · omega
        · omega
      · omega
    · omega
  · omega
end
section
/-! ===== more summaries of the reference (printed) ===== -/
/-- yX12_valueOf -/
def zr_v : zk_T := (234, [.inr (some (some 73)), .inl ((-2147483648), 2147483647), .inl (0, 63), .inl ((-2147483648), 2147483647), .inr none], [], [], [], [(.inl (some (.inl ((-2147483648), 2147483647))), [], [])], 4)
/-- yX12_works -/
def zr_w : zk_T := (235, [.inl ((-2147483648), 2147483647), .inl ((-2147483648), 2147483647), .inl ((-2147483648), 2147483647)], [], [], [], [(.inl (some (.inl ((-2147483648), 2147483647))), [], [])], 1)
end
