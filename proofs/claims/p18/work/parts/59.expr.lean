/-! ===== the reference reads an expression ===== -/
def zm_192 : za_MI := (yX12_expression, prog_14_method_35_code, 3, none, 12, 0, 0, [], za_i192)
theorem zm_192_t : za_MT 192 = some zm_192 := rfl
theorem zx_F_a {a : Nat} {H H1 : zp_H} (h : zx_F a H H1) : zx_F a H H1 := h
theorem zx_enT {a : Nat} {H0 H : zp_H} (h : zx_S a 1 0 H) (hF : zx_F a H0 H) (ha : (a : Int) ≤ (H.2.1 72 45).toInt) (hp : zx_phi H0 ≤ zx_phi H) (hw : (H.2.1 72 23).toInt = 0 → (H.2.1 72 46).toInt = 0) : (fun X : zp_X => ∃ H1, X = (.inl none, H1) ∧ zk_Bs zR zg zJ H1 ∧ zx_F a H0 H1 ∧ (a : Int) ≤ (H1.2.1 72 45).toInt ∧ (H1.2.1 72 45).toInt ≤ 1402 ∧ ((H1.2.1 72 23).toInt = 0 → zx_phi H0 ≤ zx_phi H1 ∧ (H1.2.1 72 45).toInt + 1 ≤ zx_phi H1 ∧ ∃ n b m, zr_run (H1.2.1 90) n a 0 = some (b, m) ∧ (b : Int) + 1 = (H1.2.1 72 45).toInt ∧ (H1.2.1 90 b).toInt = 0)) (Sum.inl none, zx_pt H (Int32.ofInt 0)) := by
  obtain ⟨t0, w0⟩ := zx_top h
  obtain ⟨hB, h2, h3, hg⟩ := h
  have e1 : ((zx_pt H (Int32.ofInt 0)).2.1 72 45).toInt = (H.2.1 72 45).toInt + 1 := zx_pt_t (by omega)
  refine ⟨zx_pt H (Int32.ofInt 0), rfl, zx_pt_B hB (by omega), zx_F_t hF (zx_pt_F ha), by omega, by omega, fun h9 => ?_⟩
  rw [zx_pt_f 23 rfl] at h9
  obtain ⟨g1, g2, g3, g4, n, g5⟩ := hg h9
  have hphi : zx_phi (zx_pt H (Int32.ofInt 0)) = zx_phi H := zx_phi_e (zx_pt_f 27 rfl) (zx_pt_f 28 rfl)
  have hw := hw h9
  refine ⟨by omega, by omega, n, (H.2.1 72 45).toInt.toNat, _, zr_run_c (c := H.2.1 90) (b := (H.2.1 72 45).toInt.toNat) (fun i hi => zx_pt_c (by omega)) g5 (Nat.le_refl _), by omega, ?_⟩
  rw [zx_pt_y]
  rfl

theorem zx_drA {a : Nat} {H Q : zp_H} (h : zx_S a 1 0 H) (ha : (a : Int) ≤ (H.2.1 72 45).toInt) (hQ : zx_S a 1 0 Q) (hF : zx_Fd a H Q) (ht : (H.2.1 72 45).toInt ≤ (Q.2.1 72 45).toInt) : (a : Int) ≤ (Q.2.1 72 45).toInt := by omega

set_option maxRecDepth 8000 in
set_option maxHeartbeats 4000000 in
theorem zx_exE {L : Nat} {σ : Nat → Int32} {d a : Nat} {H0 : zp_H} {H : zp_H} {lv : zp_LV} (l0 : zp_get lv 0 = some (.inr (.inr (some 73)))) (h : zx_S a 1 0 H) (hF : zx_F a H0 H) (ha : (a : Int) ≤ (H.2.1 72 45).toInt) (hp : zx_phi H0 ≤ zx_phi H) : zs_Safe L σ (fun X : zp_X => ∃ H1, X = (.inl none, H1) ∧ zk_Bs zR zg zJ H1 ∧ zx_F a H0 H1 ∧ (a : Int) ≤ (H1.2.1 72 45).toInt ∧ (H1.2.1 72 45).toInt ≤ 1402 ∧ ((H1.2.1 72 23).toInt = 0 → zx_phi H0 ≤ zx_phi H1 ∧ (H1.2.1 72 45).toInt + 1 ≤ zx_phi H1 ∧ ∃ n b m, zr_run (H1.2.1 90) n a 0 = some (b, m) ∧ (b : Int) + 1 = (H1.2.1 72 45).toInt ∧ (H1.2.1 90 b).toInt = 0)) zm_192 [] (d + 6) (325, lv, [], H, (0, 0)) := by
  have W := zR_Wd (zR_dn h.1)
  obtain ⟨t0, w0⟩ := zx_top h
  refine zw_ld (n := 1) (k := 0) (f := zp_isR) (pc' := 326) rfl rfl l0 rfl rfl ?_
  by_cases hg : (H.2.1 72 23).toInt = 0
  · refine zw_c (pc' := 329) (zw_cv (q := 72) (Y := zm_175) W.1 rfl rfl zm_175_t rfl rfl) rfl rfl rfl rfl rfl (zq_good1 W hg) ?_
    refine zw_beq1 (g := 345) (pc' := 332) rfl rfl rfl (rfl : _ = (1 : Int)) (fun h9 => absurd h9 (by decide)) (fun hb => ?_)
    refine zw_ld (n := 1) (k := 0) (f := zp_isR) (pc' := 333) rfl rfl l0 rfl rfl ?_
    refine zw_gI (q := 72) (pc' := 336) W rfl rfl rfl rfl rfl rfl ?_
    refine zw_s (pc' := 337) rfl rfl ?_
    refine zw_ble2 (g := 345) (pc' := 340) rfl rfl rfl rfl (rfl : _ = (1 : Int)) (fun hd => ?_) (fun hd => ?_)
    · obtain ⟨_, p1, Q, rfl, p2, p3, p4, p5, p6⟩ := zx_drops (L := L) (σ := σ) (d := d + 3) (y := Int32.ofInt 0) h ha
      have WQ := zR_Wd (zR_dn p2.1)
      have q23 := zx_fe p3.1 23 rfl rfl rfl
      have hphQ := zx_phi_i (zx_fe p3.1 27 rfl rfl rfl) (zx_fe p3.1 28 rfl rfl rfl)
      obtain ⟨u0, u1⟩ := zx_top p2
      have u2 := p2.2.1
      refine zw_ld (n := 1) (k := 0) (f := zp_isR) (pc' := 346) rfl rfl l0 rfl rfl ?_
      refine zw_s (pc' := 347) rfl rfl ?_
      refine zw_cn (pc' := 350) (zw_cv (q := 72) (Y := zm_199) W.1 rfl rfl zm_199_t rfl rfl) rfl rfl rfl rfl rfl (p1) ?_
      refine zw_ld (n := 1) (k := 0) (f := zp_isR) (pc' := 351) rfl rfl l0 rfl rfl ?_
      refine zw_s (pc' := 352) rfl rfl ?_
      refine zw_cn (pc' := 355) (zw_cv (q := 72) (Y := zm_198) WQ.1 rfl rfl zm_198_t rfl rfl) rfl rfl rfl rfl rfl (zq_puts WQ ⟨u0, by show _ < ((1600 : Nat) : Int); omega⟩) ?_
      refine zw_rn rfl rfl ?_
      refine zx_enT p2 (zx_F_t hF (zx_Fd_F p3)) (by omega) (by omega) ?_
      intro h9
      have g3 := (h.2.2.2 hg).2.2.1
      rcases p6 (by decide) with h8 | h8
      · exact h8
      · by_cases h7 : (Q.2.1 72 46).toInt = 0
        · exact h7
        · have := zr_opn_1 (w := Q.2.1 91) (n := (Q.2.1 72 46).toInt.toNat) (i := ((Q.2.1 72 46).toInt - 1).toNat) (by omega) h8
          omega
    · refine zw_ld (n := 1) (k := 0) (f := zp_isR) (pc' := 341) rfl rfl l0 rfl rfl ?_
      refine zw_s (pc' := 342) rfl rfl ?_
      obtain ⟨K, c1, c2, c3, c4, c5, c6, c7⟩ := zx_wrong (L := L) (σ := σ) (d := d + 5) (y := Int32.ofInt 1) h (by decide)
      have WK := zR_Wd (zR_dn (c3 0 0).1)
      refine zw_cn (pc' := 345) (zw_cv (q := 72) (Y := zm_180) W.1 rfl rfl zm_180_t rfl rfl) rfl rfl rfl rfl rfl (c1) ?_
      obtain ⟨_, p1, Q, rfl, p2, p3, p4, p5, p6⟩ := zx_drops (L := L) (σ := σ) (d := d + 3) (y := Int32.ofInt 0) (c3 1 0) (by omega)
      have WQ := zR_Wd (zR_dn p2.1)
      have q23 := zx_fe p3.1 23 rfl rfl rfl
      have hphQ := zx_phi_i (zx_fe p3.1 27 rfl rfl rfl) (zx_fe p3.1 28 rfl rfl rfl)
      obtain ⟨u0, u1⟩ := zx_top p2
      have u2 := p2.2.1
      refine zw_ld (n := 1) (k := 0) (f := zp_isR) (pc' := 346) rfl rfl l0 rfl rfl ?_
      refine zw_s (pc' := 347) rfl rfl ?_
      refine zw_cn (pc' := 350) (zw_cv (q := 72) (Y := zm_199) WK.1 rfl rfl zm_199_t rfl rfl) rfl rfl rfl rfl rfl (p1) ?_
      refine zw_ld (n := 1) (k := 0) (f := zp_isR) (pc' := 351) rfl rfl l0 rfl rfl ?_
      refine zw_s (pc' := 352) rfl rfl ?_
      refine zw_cn (pc' := 355) (zw_cv (q := 72) (Y := zm_198) WQ.1 rfl rfl zm_198_t rfl rfl) rfl rfl rfl rfl rfl (zq_puts WQ ⟨u0, by show _ < ((1600 : Nat) : Int); omega⟩) ?_
      refine zw_rn rfl rfl ?_
      refine zx_enT p2 (zx_F_t (zx_F_t hF c4) (zx_Fd_F p3)) (by omega) (by omega) ?_
      exact fun h9 => absurd (by omega) c2
  · refine zw_c (pc' := 329) (zw_cv (q := 72) (Y := zm_175) W.1 rfl rfl zm_175_t rfl rfl) rfl rfl rfl rfl rfl (zq_good0 W hg) ?_
    refine zw_beq1 (g := 345) (pc' := 332) rfl rfl rfl (rfl : _ = (0 : Int)) (fun hb => ?_) (fun h9 => absurd h9 (by decide))
    obtain ⟨_, p1, Q, rfl, p2, p3, p4, p5, p6⟩ := zx_drops (L := L) (σ := σ) (d := d + 3) (y := Int32.ofInt 0) h ha
    have WQ := zR_Wd (zR_dn p2.1)
    have q23 := zx_fe p3.1 23 rfl rfl rfl
    have hphQ := zx_phi_i (zx_fe p3.1 27 rfl rfl rfl) (zx_fe p3.1 28 rfl rfl rfl)
    obtain ⟨u0, u1⟩ := zx_top p2
    have u2 := p2.2.1
    refine zw_ld (n := 1) (k := 0) (f := zp_isR) (pc' := 346) rfl rfl l0 rfl rfl ?_
    refine zw_s (pc' := 347) rfl rfl ?_
    refine zw_cn (pc' := 350) (zw_cv (q := 72) (Y := zm_199) W.1 rfl rfl zm_199_t rfl rfl) rfl rfl rfl rfl rfl (p1) ?_
    refine zw_ld (n := 1) (k := 0) (f := zp_isR) (pc' := 351) rfl rfl l0 rfl rfl ?_
    refine zw_s (pc' := 352) rfl rfl ?_
    refine zw_cn (pc' := 355) (zw_cv (q := 72) (Y := zm_198) WQ.1 rfl rfl zm_198_t rfl rfl) rfl rfl rfl rfl rfl (zq_puts WQ ⟨u0, by show _ < ((1600 : Nat) : Int); omega⟩) ?_
    refine zw_rn rfl rfl ?_
    refine zx_enT p2 (zx_F_t hF (zx_Fd_F p3)) (by omega) (by omega) ?_
    exact fun h9 => absurd (by omega) hg

set_option maxRecDepth 8000 in
set_option maxHeartbeats 4000000 in
theorem zx_ex297 {L : Nat} {σ : Nat → Int32} {d a : Nat} {H0 : zp_H} {H : zp_H} {lv : zp_LV} {x1 : Int32} (hK : zx_KW L σ) (l0 : zp_get lv 0 = some (.inr (.inr (some 73)))) (l1 : zp_get lv 1 = some (.inl x1)) (h : zx_S a 1 0 H) (hF : zx_F a H0 H) (ha : (a : Int) ≤ (H.2.1 72 45).toInt) (hp : zx_phi H0 ≤ zx_phi H) (hg : (H.2.1 72 23).toInt = 0) (bk : ∀ (R : zp_H) (lv1 : zp_LV) (x : Int32), zp_get lv1 0 = some (.inr (.inr (some 73))) → zp_get lv1 1 = some (.inl x) → zx_S a 1 0 R → zx_F a H0 R → (a : Int) ≤ (R.2.1 72 45).toInt → zx_phi H0 ≤ zx_phi R → (zx_phi H + 2 ≤ zx_phi R ∨ (x.toInt = 0 ∧ zx_phi H ≤ zx_phi R)) → zs_Safe L σ (fun X : zp_X => ∃ H1, X = (.inl none, H1) ∧ zk_Bs zR zg zJ H1 ∧ zx_F a H0 H1 ∧ (a : Int) ≤ (H1.2.1 72 45).toInt ∧ (H1.2.1 72 45).toInt ≤ 1402 ∧ ((H1.2.1 72 23).toInt = 0 → zx_phi H0 ≤ zx_phi H1 ∧ (H1.2.1 72 45).toInt + 1 ≤ zx_phi H1 ∧ ∃ n b m, zr_run (H1.2.1 90) n a 0 = some (b, m) ∧ (b : Int) + 1 = (H1.2.1 72 45).toInt ∧ (H1.2.1 90 b).toInt = 0)) zm_192 [] (d + 6) (29, lv1, [], R, (0, 0))) : zs_Safe L σ (fun X : zp_X => ∃ H1, X = (.inl none, H1) ∧ zk_Bs zR zg zJ H1 ∧ zx_F a H0 H1 ∧ (a : Int) ≤ (H1.2.1 72 45).toInt ∧ (H1.2.1 72 45).toInt ≤ 1402 ∧ ((H1.2.1 72 23).toInt = 0 → zx_phi H0 ≤ zx_phi H1 ∧ (H1.2.1 72 45).toInt + 1 ≤ zx_phi H1 ∧ ∃ n b m, zr_run (H1.2.1 90) n a 0 = some (b, m) ∧ (b : Int) + 1 = (H1.2.1 72 45).toInt ∧ (H1.2.1 90 b).toInt = 0)) zm_192 [] (d + 6) (297, lv, [], H, (0, 0)) := by
  have W := zR_Wd (zR_dn h.1)
  have pH := zx_phi_le h.1
  have wb := h.2.2.1
  have hdp := zR_fr1 (zR_dn h.1) (k := 47) (r := (0, 6)) rfl rfl
  have hdp : 0 ≤ (H.2.1 72 47).toInt ∧ (H.2.1 72 47).toInt ≤ 6 := hdp
  refine zw_ld (n := 1) (k := 0) (f := zp_isR) (pc' := 298) rfl rfl l0 rfl rfl ?_
  refine zw_s (pc' := 300) rfl rfl ?_
  by_cases h41 : (H.2.1 72 28).toInt = 3 ∧ (H.2.1 72 32).toInt = (Int32.ofInt 41).toInt
  · refine zw_c (pc' := 303) (zw_cv (q := 72) (Y := zm_194) W.1 rfl rfl zm_194_t rfl rfl) rfl rfl rfl rfl rfl (zq_sign1 W h41) ?_
    refine zw_beq1 (g := 320) (pc' := 306) rfl rfl rfl (rfl : _ = (1 : Int)) (fun h9 => absurd h9 (by decide)) (fun hb => ?_)
    refine zw_ld (n := 1) (k := 0) (f := zp_isR) (pc' := 307) rfl rfl l0 rfl rfl ?_
    obtain ⟨_, i1, u, rfl, i2⟩ := zx_isOpened (L := L) (σ := σ) (d := d + 4) W ⟨(zx_top h).2, wb⟩
    rcases i2 with ⟨rfl, ii, i3, i4⟩ | rfl
    · refine zw_c (pc' := 310) (zw_cv (q := 72) (Y := zm_202) W.1 rfl rfl zm_202_t rfl rfl) rfl rfl rfl rfl rfl (i1) ?_
      refine zw_beq1 (g := 320) (pc' := 313) rfl rfl rfl (rfl : _ = (1 : Int)) (fun h9 => absurd h9 (by decide)) (fun hb => ?_)
      obtain ⟨_, c1, R, rfl, c2, c3, c4, c5⟩ := zx_closes (L := L) (σ := σ) (d := d + 2) h hg (by omega) (zr_opn_1 i3 i4)
      refine zw_ld (n := 1) (k := 0) (f := zp_isR) (pc' := 314) rfl rfl l0 rfl rfl ?_
      refine zw_cn (pc' := 317) (zw_cv (q := 72) (Y := zm_203) W.1 rfl rfl zm_203_t rfl rfl) rfl rfl rfl rfl rfl (c1) ?_
      refine zw_s (pc' := 322) rfl rfl ?_
      refine zw_s (pc' := 29) rfl rfl ?_
      exact bk R _ _ l0 l1 c2 (zx_F_t hF c3) (zx_S_a c2 c4) (by omega) (Or.inl c5)
    · refine zw_c (pc' := 310) (zw_cv (q := 72) (Y := zm_202) W.1 rfl rfl zm_202_t rfl rfl) rfl rfl rfl rfl rfl (i1) ?_
      refine zw_beq1 (g := 320) (pc' := 313) rfl rfl rfl (rfl : _ = (0 : Int)) (fun hb => ?_) (fun h9 => absurd h9 (by decide))
      refine zw_s (pc' := 321) rfl rfl ?_
      refine zw_st (n := 1) (k := 1) (f := zp_isI) (pc' := 322) rfl rfl rfl rfl rfl ?_
      refine zw_s (pc' := 29) rfl rfl ?_
      exact bk H _ _ (zw_gt l0 rfl rfl) zw_g1 h hF ha hp (Or.inr ⟨rfl, Int.le_refl _⟩)
  · refine zw_c (pc' := 303) (zw_cv (q := 72) (Y := zm_194) W.1 rfl rfl zm_194_t rfl rfl) rfl rfl rfl rfl rfl (zq_sign0 W h41) ?_
    refine zw_beq1 (g := 320) (pc' := 306) rfl rfl rfl (rfl : _ = (0 : Int)) (fun hb => ?_) (fun h9 => absurd h9 (by decide))
    refine zw_s (pc' := 321) rfl rfl ?_
    refine zw_st (n := 1) (k := 1) (f := zp_isI) (pc' := 322) rfl rfl rfl rfl rfl ?_
    refine zw_s (pc' := 29) rfl rfl ?_
    exact bk H _ _ (zw_gt l0 rfl rfl) zw_g1 h hF ha hp (Or.inr ⟨rfl, Int.le_refl _⟩)

set_option maxRecDepth 8000 in
set_option maxHeartbeats 4000000 in
theorem zx_ex241d {L : Nat} {σ : Nat → Int32} {d a : Nat} {H0 : zp_H} {H : zp_H} {lv : zp_LV} {x1 : Int32} (hK : zx_KW L σ) (l0 : zp_get lv 0 = some (.inr (.inr (some 73)))) (l1 : zp_get lv 1 = some (.inl x1)) (hs : (H.2.1 72 28).toInt = 3) (h : zx_S a 1 0 H) (hF : zx_F a H0 H) (ha : (a : Int) ≤ (H.2.1 72 45).toInt) (hp : zx_phi H0 ≤ zx_phi H) (hg : (H.2.1 72 23).toInt = 0) (bk : ∀ (R : zp_H) (lv1 : zp_LV) (x : Int32), zp_get lv1 0 = some (.inr (.inr (some 73))) → zp_get lv1 1 = some (.inl x) → zx_S a 1 0 R → zx_F a H0 R → (a : Int) ≤ (R.2.1 72 45).toInt → zx_phi H0 ≤ zx_phi R → (zx_phi H + 2 ≤ zx_phi R ∨ (x.toInt = 0 ∧ zx_phi H ≤ zx_phi R)) → zs_Safe L σ (fun X : zp_X => ∃ H1, X = (.inl none, H1) ∧ zk_Bs zR zg zJ H1 ∧ zx_F a H0 H1 ∧ (a : Int) ≤ (H1.2.1 72 45).toInt ∧ (H1.2.1 72 45).toInt ≤ 1402 ∧ ((H1.2.1 72 23).toInt = 0 → zx_phi H0 ≤ zx_phi H1 ∧ (H1.2.1 72 45).toInt + 1 ≤ zx_phi H1 ∧ ∃ n b m, zr_run (H1.2.1 90) n a 0 = some (b, m) ∧ (b : Int) + 1 = (H1.2.1 72 45).toInt ∧ (H1.2.1 90 b).toInt = 0)) zm_192 [] (d + 6) (29, lv1, [], R, (0, 0))) : zs_Safe L σ (fun X : zp_X => ∃ H1, X = (.inl none, H1) ∧ zk_Bs zR zg zJ H1 ∧ zx_F a H0 H1 ∧ (a : Int) ≤ (H1.2.1 72 45).toInt ∧ (H1.2.1 72 45).toInt ≤ 1402 ∧ ((H1.2.1 72 23).toInt = 0 → zx_phi H0 ≤ zx_phi H1 ∧ (H1.2.1 72 45).toInt + 1 ≤ zx_phi H1 ∧ ∃ n b m, zr_run (H1.2.1 90) n a 0 = some (b, m) ∧ (b : Int) + 1 = (H1.2.1 72 45).toInt ∧ (H1.2.1 90 b).toInt = 0)) zm_192 [] (d + 6) (259, lv, [], H, (0, 0)) := by
  have W := zR_Wd (zR_dn h.1)
  have pH := zx_phi_le h.1
  have wb := h.2.2.1
  have hdp := zR_fr1 (zR_dn h.1) (k := 47) (r := (0, 6)) rfl rfl
  have hdp : 0 ≤ (H.2.1 72 47).toInt ∧ (H.2.1 72 47).toInt ≤ 6 := hdp
  refine zw_ld (n := 1) (k := 0) (f := zp_isR) (pc' := 260) rfl rfl l0 rfl rfl ?_
  refine zw_s (pc' := 262) rfl rfl ?_
  obtain ⟨_, p1, Q, rfl, p2, p3, p4, p5, p6⟩ := zx_drops (L := L) (σ := σ) (d := d + 3) (y := Int32.ofInt 6) h ha
  have WQ := zR_Wd (zR_dn p2.1)
  have q23 := zx_fe p3.1 23 rfl rfl rfl
  have q28 := zx_fe p3.1 28 rfl rfl rfl
  have q47 := zx_fe p3.1 47 rfl rfl rfl
  have hphQ := zx_phi_i (zx_fe p3.1 27 rfl rfl rfl) q28
  obtain ⟨u0, u1⟩ := zx_top p2
  have u2 := p2.2.2.1
  refine zw_cn (pc' := 265) (zw_cv (q := 72) (Y := zm_199) W.1 rfl rfl zm_199_t rfl rfl) rfl rfl rfl rfl rfl (p1) ?_
  refine zw_ld (n := 1) (k := 0) (f := zp_isR) (pc' := 266) rfl rfl l0 rfl rfl ?_
  refine zw_ld (n := 1) (k := 0) (f := zp_isR) (pc' := 267) rfl rfl l0 rfl rfl ?_
  refine zw_s (pc' := 269) rfl rfl ?_
  by_cases hch : (Q.2.1 72 28).toInt = 3 ∧ (Q.2.1 72 32).toInt = (Int32.ofInt 42).toInt
  · refine zw_c (pc' := 272) (zw_cv (q := 72) (Y := zm_194) WQ.1 rfl rfl zm_194_t rfl rfl) rfl rfl rfl rfl rfl (zq_sign1 WQ hch) ?_
    refine zw_beq1 (g := 280) (pc' := 275) rfl rfl rfl (rfl : _ = (1 : Int)) (fun h9 => absurd h9 (by decide)) (fun hb => ?_)
    refine zw_s (pc' := 277) rfl rfl ?_
    refine zw_s (pc' := 282) rfl rfl ?_
    obtain ⟨m1, m2, m3, m4⟩ := zx_wait (y := Int32.ofInt 10) p2 (by omega) (by omega) (by decide)
    have hT := m4 0 0 rfl rfl
    have f45 : (zx_wt Q (Int32.ofInt 10)).2.1 72 45 = Q.2.1 72 45 := zx_wt_f 45 rfl
    refine zw_cn (pc' := 285) (zw_cv (q := 72) (Y := zm_196) WQ.1 rfl rfl zm_196_t rfl rfl) rfl rfl rfl rfl rfl (zq_waits WQ ⟨u1, by show _ < ((800 : Nat) : Int); omega⟩) ?_
    refine zw_ld (n := 1) (k := 0) (f := zp_isR) (pc' := 286) rfl rfl l0 rfl rfl ?_
    obtain ⟨K, c1, c2, c3, c4, c5, c6⟩ := zx_T_goes (L := L) (σ := σ) (d := d + 4) hT
    have WK := zR_Wd (zR_dn c2.1)
    have aK : (a : Int) ≤ (K.2.1 72 45).toInt := zx_S_a c2 c4
    refine zw_cn (pc' := 289) (zw_cv (q := 72) (Y := zm_171) WQ.1 rfl rfl zm_171_t rfl rfl) rfl rfl rfl rfl rfl (c1) ?_
    obtain ⟨_, d1, R, rfl, d2, d3, d4, d5, d6⟩ := zx_operand (L := L) (σ := σ) (d := d) (y := Int32.ofInt 0) hK c2 aK
    refine zw_ld (n := 1) (k := 0) (f := zp_isR) (pc' := 290) rfl rfl l0 rfl rfl ?_
    refine zw_s (pc' := 291) rfl rfl ?_
    refine zw_cn (pc' := 294) (zw_cv (q := 72) (Y := zm_195) WK.1 rfl rfl zm_195_t rfl rfl) rfl rfl rfl rfl rfl (d1) ?_
    refine zw_s (pc' := 322) rfl rfl ?_
    refine zw_s (pc' := 29) rfl rfl ?_
    exact bk R _ _ l0 l1 d2 (zx_F_t (zx_F_t (zx_F_t (zx_F_t hF (zx_Fd_F p3)) m1) c3) d3) d5 (by omega) (Or.inl (by omega))
  · refine zw_c (pc' := 272) (zw_cv (q := 72) (Y := zm_194) WQ.1 rfl rfl zm_194_t rfl rfl) rfl rfl rfl rfl rfl (zq_sign0 WQ hch) ?_
    refine zw_beq1 (g := 280) (pc' := 275) rfl rfl rfl (rfl : _ = (0 : Int)) (fun hb => ?_) (fun h9 => absurd h9 (by decide))
    refine zw_s (pc' := 282) rfl rfl ?_
    obtain ⟨m1, m2, m3, m4⟩ := zx_wait (y := Int32.ofInt 11) p2 (by omega) (by omega) (by decide)
    have hT := m4 0 0 rfl rfl
    have f45 : (zx_wt Q (Int32.ofInt 11)).2.1 72 45 = Q.2.1 72 45 := zx_wt_f 45 rfl
    refine zw_cn (pc' := 285) (zw_cv (q := 72) (Y := zm_196) WQ.1 rfl rfl zm_196_t rfl rfl) rfl rfl rfl rfl rfl (zq_waits WQ ⟨u1, by show _ < ((800 : Nat) : Int); omega⟩) ?_
    refine zw_ld (n := 1) (k := 0) (f := zp_isR) (pc' := 286) rfl rfl l0 rfl rfl ?_
    obtain ⟨K, c1, c2, c3, c4, c5, c6⟩ := zx_T_goes (L := L) (σ := σ) (d := d + 4) hT
    have WK := zR_Wd (zR_dn c2.1)
    have aK : (a : Int) ≤ (K.2.1 72 45).toInt := zx_S_a c2 c4
    refine zw_cn (pc' := 289) (zw_cv (q := 72) (Y := zm_171) WQ.1 rfl rfl zm_171_t rfl rfl) rfl rfl rfl rfl rfl (c1) ?_
    obtain ⟨_, d1, R, rfl, d2, d3, d4, d5, d6⟩ := zx_operand (L := L) (σ := σ) (d := d) (y := Int32.ofInt 0) hK c2 aK
    refine zw_ld (n := 1) (k := 0) (f := zp_isR) (pc' := 290) rfl rfl l0 rfl rfl ?_
    refine zw_s (pc' := 291) rfl rfl ?_
    refine zw_cn (pc' := 294) (zw_cv (q := 72) (Y := zm_195) WK.1 rfl rfl zm_195_t rfl rfl) rfl rfl rfl rfl rfl (d1) ?_
    refine zw_s (pc' := 322) rfl rfl ?_
    refine zw_s (pc' := 29) rfl rfl ?_
    exact bk R _ _ l0 l1 d2 (zx_F_t (zx_F_t (zx_F_t (zx_F_t hF (zx_Fd_F p3)) m1) c3) d3) d5 (by omega) (Or.inl (by omega))

set_option maxRecDepth 8000 in
set_option maxHeartbeats 4000000 in
theorem zx_ex241 {L : Nat} {σ : Nat → Int32} {d a : Nat} {H0 : zp_H} {H : zp_H} {lv : zp_LV} {x1 : Int32} (hK : zx_KW L σ) (l0 : zp_get lv 0 = some (.inr (.inr (some 73)))) (l1 : zp_get lv 1 = some (.inl x1)) (h : zx_S a 1 0 H) (hF : zx_F a H0 H) (ha : (a : Int) ≤ (H.2.1 72 45).toInt) (hp : zx_phi H0 ≤ zx_phi H) (hg : (H.2.1 72 23).toInt = 0) (bk : ∀ (R : zp_H) (lv1 : zp_LV) (x : Int32), zp_get lv1 0 = some (.inr (.inr (some 73))) → zp_get lv1 1 = some (.inl x) → zx_S a 1 0 R → zx_F a H0 R → (a : Int) ≤ (R.2.1 72 45).toInt → zx_phi H0 ≤ zx_phi R → (zx_phi H + 2 ≤ zx_phi R ∨ (x.toInt = 0 ∧ zx_phi H ≤ zx_phi R)) → zs_Safe L σ (fun X : zp_X => ∃ H1, X = (.inl none, H1) ∧ zk_Bs zR zg zJ H1 ∧ zx_F a H0 H1 ∧ (a : Int) ≤ (H1.2.1 72 45).toInt ∧ (H1.2.1 72 45).toInt ≤ 1402 ∧ ((H1.2.1 72 23).toInt = 0 → zx_phi H0 ≤ zx_phi H1 ∧ (H1.2.1 72 45).toInt + 1 ≤ zx_phi H1 ∧ ∃ n b m, zr_run (H1.2.1 90) n a 0 = some (b, m) ∧ (b : Int) + 1 = (H1.2.1 72 45).toInt ∧ (H1.2.1 90 b).toInt = 0)) zm_192 [] (d + 6) (29, lv1, [], R, (0, 0))) : zs_Safe L σ (fun X : zp_X => ∃ H1, X = (.inl none, H1) ∧ zk_Bs zR zg zJ H1 ∧ zx_F a H0 H1 ∧ (a : Int) ≤ (H1.2.1 72 45).toInt ∧ (H1.2.1 72 45).toInt ≤ 1402 ∧ ((H1.2.1 72 23).toInt = 0 → zx_phi H0 ≤ zx_phi H1 ∧ (H1.2.1 72 45).toInt + 1 ≤ zx_phi H1 ∧ ∃ n b m, zr_run (H1.2.1 90) n a 0 = some (b, m) ∧ (b : Int) + 1 = (H1.2.1 72 45).toInt ∧ (H1.2.1 90 b).toInt = 0)) zm_192 [] (d + 6) (241, lv, [], H, (0, 0)) := by
  have W := zR_Wd (zR_dn h.1)
  have pH := zx_phi_le h.1
  have wb := h.2.2.1
  have hdp := zR_fr1 (zR_dn h.1) (k := 47) (r := (0, 6)) rfl rfl
  have hdp : 0 ≤ (H.2.1 72 47).toInt ∧ (H.2.1 72 47).toInt ≤ 6 := hdp
  refine zw_ld (n := 1) (k := 0) (f := zp_isR) (pc' := 242) rfl rfl l0 rfl rfl ?_
  refine zw_s (pc' := 244) rfl rfl ?_
  by_cases ha1 : (H.2.1 72 28).toInt = 3 ∧ (H.2.1 72 32).toInt = (Int32.ofInt 42).toInt
  · refine zw_c (pc' := 247) (zw_cv (q := 72) (Y := zm_194) W.1 rfl rfl zm_194_t rfl rfl) rfl rfl rfl rfl rfl (zq_sign1 W ha1) ?_
    refine zw_bne1 (g := 259) (pc' := 250) rfl rfl rfl (rfl : _ = (1 : Int)) (fun hb => ?_) (fun h9 => absurd h9 (by decide))
    exact zx_ex241d hK l0 l1 ha1.1 h hF ha hp hg bk
  · refine zw_c (pc' := 247) (zw_cv (q := 72) (Y := zm_194) W.1 rfl rfl zm_194_t rfl rfl) rfl rfl rfl rfl rfl (zq_sign0 W ha1) ?_
    refine zw_bne1 (g := 259) (pc' := 250) rfl rfl rfl (rfl : _ = (0 : Int)) (fun h9 => absurd h9 (by decide)) (fun hb => ?_)
    refine zw_ld (n := 1) (k := 0) (f := zp_isR) (pc' := 251) rfl rfl l0 rfl rfl ?_
    refine zw_s (pc' := 253) rfl rfl ?_
    by_cases ha2 : (H.2.1 72 28).toInt = 3 ∧ (H.2.1 72 32).toInt = (Int32.ofInt 47).toInt
    · refine zw_c (pc' := 256) (zw_cv (q := 72) (Y := zm_194) W.1 rfl rfl zm_194_t rfl rfl) rfl rfl rfl rfl rfl (zq_sign1 W ha2) ?_
      refine zw_beq1 (g := 297) (pc' := 259) rfl rfl rfl (rfl : _ = (1 : Int)) (fun h9 => absurd h9 (by decide)) (fun hb => ?_)
      exact zx_ex241d hK l0 l1 ha2.1 h hF ha hp hg bk
    · refine zw_c (pc' := 256) (zw_cv (q := 72) (Y := zm_194) W.1 rfl rfl zm_194_t rfl rfl) rfl rfl rfl rfl rfl (zq_sign0 W ha2) ?_
      refine zw_beq1 (g := 297) (pc' := 259) rfl rfl rfl (rfl : _ = (0 : Int)) (fun hb => ?_) (fun h9 => absurd h9 (by decide))
      exact zx_ex297 hK l0 l1 h hF ha hp hg bk

set_option maxRecDepth 8000 in
set_option maxHeartbeats 4000000 in
theorem zx_ex186d {L : Nat} {σ : Nat → Int32} {d a : Nat} {H0 : zp_H} {H : zp_H} {lv : zp_LV} {x1 : Int32} (hK : zx_KW L σ) (l0 : zp_get lv 0 = some (.inr (.inr (some 73)))) (l1 : zp_get lv 1 = some (.inl x1)) (hs : (H.2.1 72 28).toInt = 3) (h : zx_S a 1 0 H) (hF : zx_F a H0 H) (ha : (a : Int) ≤ (H.2.1 72 45).toInt) (hp : zx_phi H0 ≤ zx_phi H) (hg : (H.2.1 72 23).toInt = 0) (bk : ∀ (R : zp_H) (lv1 : zp_LV) (x : Int32), zp_get lv1 0 = some (.inr (.inr (some 73))) → zp_get lv1 1 = some (.inl x) → zx_S a 1 0 R → zx_F a H0 R → (a : Int) ≤ (R.2.1 72 45).toInt → zx_phi H0 ≤ zx_phi R → (zx_phi H + 2 ≤ zx_phi R ∨ (x.toInt = 0 ∧ zx_phi H ≤ zx_phi R)) → zs_Safe L σ (fun X : zp_X => ∃ H1, X = (.inl none, H1) ∧ zk_Bs zR zg zJ H1 ∧ zx_F a H0 H1 ∧ (a : Int) ≤ (H1.2.1 72 45).toInt ∧ (H1.2.1 72 45).toInt ≤ 1402 ∧ ((H1.2.1 72 23).toInt = 0 → zx_phi H0 ≤ zx_phi H1 ∧ (H1.2.1 72 45).toInt + 1 ≤ zx_phi H1 ∧ ∃ n b m, zr_run (H1.2.1 90) n a 0 = some (b, m) ∧ (b : Int) + 1 = (H1.2.1 72 45).toInt ∧ (H1.2.1 90 b).toInt = 0)) zm_192 [] (d + 6) (29, lv1, [], R, (0, 0))) : zs_Safe L σ (fun X : zp_X => ∃ H1, X = (.inl none, H1) ∧ zk_Bs zR zg zJ H1 ∧ zx_F a H0 H1 ∧ (a : Int) ≤ (H1.2.1 72 45).toInt ∧ (H1.2.1 72 45).toInt ≤ 1402 ∧ ((H1.2.1 72 23).toInt = 0 → zx_phi H0 ≤ zx_phi H1 ∧ (H1.2.1 72 45).toInt + 1 ≤ zx_phi H1 ∧ ∃ n b m, zr_run (H1.2.1 90) n a 0 = some (b, m) ∧ (b : Int) + 1 = (H1.2.1 72 45).toInt ∧ (H1.2.1 90 b).toInt = 0)) zm_192 [] (d + 6) (204, lv, [], H, (0, 0)) := by
  have W := zR_Wd (zR_dn h.1)
  have pH := zx_phi_le h.1
  have wb := h.2.2.1
  have hdp := zR_fr1 (zR_dn h.1) (k := 47) (r := (0, 6)) rfl rfl
  have hdp : 0 ≤ (H.2.1 72 47).toInt ∧ (H.2.1 72 47).toInt ≤ 6 := hdp
  refine zw_ld (n := 1) (k := 0) (f := zp_isR) (pc' := 205) rfl rfl l0 rfl rfl ?_
  refine zw_s (pc' := 206) rfl rfl ?_
  obtain ⟨_, p1, Q, rfl, p2, p3, p4, p5, p6⟩ := zx_drops (L := L) (σ := σ) (d := d + 3) (y := Int32.ofInt 5) h ha
  have WQ := zR_Wd (zR_dn p2.1)
  have q23 := zx_fe p3.1 23 rfl rfl rfl
  have q28 := zx_fe p3.1 28 rfl rfl rfl
  have q47 := zx_fe p3.1 47 rfl rfl rfl
  have hphQ := zx_phi_i (zx_fe p3.1 27 rfl rfl rfl) q28
  obtain ⟨u0, u1⟩ := zx_top p2
  have u2 := p2.2.2.1
  refine zw_cn (pc' := 209) (zw_cv (q := 72) (Y := zm_199) W.1 rfl rfl zm_199_t rfl rfl) rfl rfl rfl rfl rfl (p1) ?_
  refine zw_ld (n := 1) (k := 0) (f := zp_isR) (pc' := 210) rfl rfl l0 rfl rfl ?_
  refine zw_ld (n := 1) (k := 0) (f := zp_isR) (pc' := 211) rfl rfl l0 rfl rfl ?_
  refine zw_s (pc' := 213) rfl rfl ?_
  by_cases hch : (Q.2.1 72 28).toInt = 3 ∧ (Q.2.1 72 32).toInt = (Int32.ofInt 43).toInt
  · refine zw_c (pc' := 216) (zw_cv (q := 72) (Y := zm_194) WQ.1 rfl rfl zm_194_t rfl rfl) rfl rfl rfl rfl rfl (zq_sign1 WQ hch) ?_
    refine zw_beq1 (g := 224) (pc' := 219) rfl rfl rfl (rfl : _ = (1 : Int)) (fun h9 => absurd h9 (by decide)) (fun hb => ?_)
    refine zw_s (pc' := 221) rfl rfl ?_
    refine zw_s (pc' := 226) rfl rfl ?_
    obtain ⟨m1, m2, m3, m4⟩ := zx_wait (y := Int32.ofInt 8) p2 (by omega) (by omega) (by decide)
    have hT := m4 0 0 rfl rfl
    have f45 : (zx_wt Q (Int32.ofInt 8)).2.1 72 45 = Q.2.1 72 45 := zx_wt_f 45 rfl
    refine zw_cn (pc' := 229) (zw_cv (q := 72) (Y := zm_196) WQ.1 rfl rfl zm_196_t rfl rfl) rfl rfl rfl rfl rfl (zq_waits WQ ⟨u1, by show _ < ((800 : Nat) : Int); omega⟩) ?_
    refine zw_ld (n := 1) (k := 0) (f := zp_isR) (pc' := 230) rfl rfl l0 rfl rfl ?_
    obtain ⟨K, c1, c2, c3, c4, c5, c6⟩ := zx_T_goes (L := L) (σ := σ) (d := d + 4) hT
    have WK := zR_Wd (zR_dn c2.1)
    have aK : (a : Int) ≤ (K.2.1 72 45).toInt := zx_S_a c2 c4
    refine zw_cn (pc' := 233) (zw_cv (q := 72) (Y := zm_171) WQ.1 rfl rfl zm_171_t rfl rfl) rfl rfl rfl rfl rfl (c1) ?_
    obtain ⟨_, d1, R, rfl, d2, d3, d4, d5, d6⟩ := zx_operand (L := L) (σ := σ) (d := d) (y := Int32.ofInt 0) hK c2 aK
    refine zw_ld (n := 1) (k := 0) (f := zp_isR) (pc' := 234) rfl rfl l0 rfl rfl ?_
    refine zw_s (pc' := 235) rfl rfl ?_
    refine zw_cn (pc' := 238) (zw_cv (q := 72) (Y := zm_195) WK.1 rfl rfl zm_195_t rfl rfl) rfl rfl rfl rfl rfl (d1) ?_
    refine zw_s (pc' := 322) rfl rfl ?_
    refine zw_s (pc' := 29) rfl rfl ?_
    exact bk R _ _ l0 l1 d2 (zx_F_t (zx_F_t (zx_F_t (zx_F_t hF (zx_Fd_F p3)) m1) c3) d3) d5 (by omega) (Or.inl (by omega))
  · refine zw_c (pc' := 216) (zw_cv (q := 72) (Y := zm_194) WQ.1 rfl rfl zm_194_t rfl rfl) rfl rfl rfl rfl rfl (zq_sign0 WQ hch) ?_
    refine zw_beq1 (g := 224) (pc' := 219) rfl rfl rfl (rfl : _ = (0 : Int)) (fun hb => ?_) (fun h9 => absurd h9 (by decide))
    refine zw_s (pc' := 226) rfl rfl ?_
    obtain ⟨m1, m2, m3, m4⟩ := zx_wait (y := Int32.ofInt 9) p2 (by omega) (by omega) (by decide)
    have hT := m4 0 0 rfl rfl
    have f45 : (zx_wt Q (Int32.ofInt 9)).2.1 72 45 = Q.2.1 72 45 := zx_wt_f 45 rfl
    refine zw_cn (pc' := 229) (zw_cv (q := 72) (Y := zm_196) WQ.1 rfl rfl zm_196_t rfl rfl) rfl rfl rfl rfl rfl (zq_waits WQ ⟨u1, by show _ < ((800 : Nat) : Int); omega⟩) ?_
    refine zw_ld (n := 1) (k := 0) (f := zp_isR) (pc' := 230) rfl rfl l0 rfl rfl ?_
    obtain ⟨K, c1, c2, c3, c4, c5, c6⟩ := zx_T_goes (L := L) (σ := σ) (d := d + 4) hT
    have WK := zR_Wd (zR_dn c2.1)
    have aK : (a : Int) ≤ (K.2.1 72 45).toInt := zx_S_a c2 c4
    refine zw_cn (pc' := 233) (zw_cv (q := 72) (Y := zm_171) WQ.1 rfl rfl zm_171_t rfl rfl) rfl rfl rfl rfl rfl (c1) ?_
    obtain ⟨_, d1, R, rfl, d2, d3, d4, d5, d6⟩ := zx_operand (L := L) (σ := σ) (d := d) (y := Int32.ofInt 0) hK c2 aK
    refine zw_ld (n := 1) (k := 0) (f := zp_isR) (pc' := 234) rfl rfl l0 rfl rfl ?_
    refine zw_s (pc' := 235) rfl rfl ?_
    refine zw_cn (pc' := 238) (zw_cv (q := 72) (Y := zm_195) WK.1 rfl rfl zm_195_t rfl rfl) rfl rfl rfl rfl rfl (d1) ?_
    refine zw_s (pc' := 322) rfl rfl ?_
    refine zw_s (pc' := 29) rfl rfl ?_
    exact bk R _ _ l0 l1 d2 (zx_F_t (zx_F_t (zx_F_t (zx_F_t hF (zx_Fd_F p3)) m1) c3) d3) d5 (by omega) (Or.inl (by omega))

set_option maxRecDepth 8000 in
set_option maxHeartbeats 4000000 in
theorem zx_ex186 {L : Nat} {σ : Nat → Int32} {d a : Nat} {H0 : zp_H} {H : zp_H} {lv : zp_LV} {x1 : Int32} (hK : zx_KW L σ) (l0 : zp_get lv 0 = some (.inr (.inr (some 73)))) (l1 : zp_get lv 1 = some (.inl x1)) (h : zx_S a 1 0 H) (hF : zx_F a H0 H) (ha : (a : Int) ≤ (H.2.1 72 45).toInt) (hp : zx_phi H0 ≤ zx_phi H) (hg : (H.2.1 72 23).toInt = 0) (bk : ∀ (R : zp_H) (lv1 : zp_LV) (x : Int32), zp_get lv1 0 = some (.inr (.inr (some 73))) → zp_get lv1 1 = some (.inl x) → zx_S a 1 0 R → zx_F a H0 R → (a : Int) ≤ (R.2.1 72 45).toInt → zx_phi H0 ≤ zx_phi R → (zx_phi H + 2 ≤ zx_phi R ∨ (x.toInt = 0 ∧ zx_phi H ≤ zx_phi R)) → zs_Safe L σ (fun X : zp_X => ∃ H1, X = (.inl none, H1) ∧ zk_Bs zR zg zJ H1 ∧ zx_F a H0 H1 ∧ (a : Int) ≤ (H1.2.1 72 45).toInt ∧ (H1.2.1 72 45).toInt ≤ 1402 ∧ ((H1.2.1 72 23).toInt = 0 → zx_phi H0 ≤ zx_phi H1 ∧ (H1.2.1 72 45).toInt + 1 ≤ zx_phi H1 ∧ ∃ n b m, zr_run (H1.2.1 90) n a 0 = some (b, m) ∧ (b : Int) + 1 = (H1.2.1 72 45).toInt ∧ (H1.2.1 90 b).toInt = 0)) zm_192 [] (d + 6) (29, lv1, [], R, (0, 0))) : zs_Safe L σ (fun X : zp_X => ∃ H1, X = (.inl none, H1) ∧ zk_Bs zR zg zJ H1 ∧ zx_F a H0 H1 ∧ (a : Int) ≤ (H1.2.1 72 45).toInt ∧ (H1.2.1 72 45).toInt ≤ 1402 ∧ ((H1.2.1 72 23).toInt = 0 → zx_phi H0 ≤ zx_phi H1 ∧ (H1.2.1 72 45).toInt + 1 ≤ zx_phi H1 ∧ ∃ n b m, zr_run (H1.2.1 90) n a 0 = some (b, m) ∧ (b : Int) + 1 = (H1.2.1 72 45).toInt ∧ (H1.2.1 90 b).toInt = 0)) zm_192 [] (d + 6) (186, lv, [], H, (0, 0)) := by
  have W := zR_Wd (zR_dn h.1)
  have pH := zx_phi_le h.1
  have wb := h.2.2.1
  have hdp := zR_fr1 (zR_dn h.1) (k := 47) (r := (0, 6)) rfl rfl
  have hdp : 0 ≤ (H.2.1 72 47).toInt ∧ (H.2.1 72 47).toInt ≤ 6 := hdp
  refine zw_ld (n := 1) (k := 0) (f := zp_isR) (pc' := 187) rfl rfl l0 rfl rfl ?_
  refine zw_s (pc' := 189) rfl rfl ?_
  by_cases ha1 : (H.2.1 72 28).toInt = 3 ∧ (H.2.1 72 32).toInt = (Int32.ofInt 43).toInt
  · refine zw_c (pc' := 192) (zw_cv (q := 72) (Y := zm_194) W.1 rfl rfl zm_194_t rfl rfl) rfl rfl rfl rfl rfl (zq_sign1 W ha1) ?_
    refine zw_bne1 (g := 204) (pc' := 195) rfl rfl rfl (rfl : _ = (1 : Int)) (fun hb => ?_) (fun h9 => absurd h9 (by decide))
    exact zx_ex186d hK l0 l1 ha1.1 h hF ha hp hg bk
  · refine zw_c (pc' := 192) (zw_cv (q := 72) (Y := zm_194) W.1 rfl rfl zm_194_t rfl rfl) rfl rfl rfl rfl rfl (zq_sign0 W ha1) ?_
    refine zw_bne1 (g := 204) (pc' := 195) rfl rfl rfl (rfl : _ = (0 : Int)) (fun h9 => absurd h9 (by decide)) (fun hb => ?_)
    refine zw_ld (n := 1) (k := 0) (f := zp_isR) (pc' := 196) rfl rfl l0 rfl rfl ?_
    refine zw_s (pc' := 198) rfl rfl ?_
    by_cases ha2 : (H.2.1 72 28).toInt = 3 ∧ (H.2.1 72 32).toInt = (Int32.ofInt 45).toInt
    · refine zw_c (pc' := 201) (zw_cv (q := 72) (Y := zm_194) W.1 rfl rfl zm_194_t rfl rfl) rfl rfl rfl rfl rfl (zq_sign1 W ha2) ?_
      refine zw_beq1 (g := 241) (pc' := 204) rfl rfl rfl (rfl : _ = (1 : Int)) (fun h9 => absurd h9 (by decide)) (fun hb => ?_)
      exact zx_ex186d hK l0 l1 ha2.1 h hF ha hp hg bk
    · refine zw_c (pc' := 201) (zw_cv (q := 72) (Y := zm_194) W.1 rfl rfl zm_194_t rfl rfl) rfl rfl rfl rfl rfl (zq_sign0 W ha2) ?_
      refine zw_beq1 (g := 241) (pc' := 204) rfl rfl rfl (rfl : _ = (0 : Int)) (fun hb => ?_) (fun h9 => absurd h9 (by decide))
      exact zx_ex241 hK l0 l1 h hF ha hp hg bk

set_option maxRecDepth 8000 in
set_option maxHeartbeats 4000000 in
theorem zx_ex127 {L : Nat} {σ : Nat → Int32} {d a : Nat} {H0 : zp_H} {H : zp_H} {lv : zp_LV} {x1 : Int32} (hK : zx_KW L σ) (l0 : zp_get lv 0 = some (.inr (.inr (some 73)))) (l1 : zp_get lv 1 = some (.inl x1)) (hs : (H.2.1 72 28).toInt = 3) (h : zx_S a 1 0 H) (hF : zx_F a H0 H) (ha : (a : Int) ≤ (H.2.1 72 45).toInt) (hp : zx_phi H0 ≤ zx_phi H) (hg : (H.2.1 72 23).toInt = 0) (bk : ∀ (R : zp_H) (lv1 : zp_LV) (x : Int32), zp_get lv1 0 = some (.inr (.inr (some 73))) → zp_get lv1 1 = some (.inl x) → zx_S a 1 0 R → zx_F a H0 R → (a : Int) ≤ (R.2.1 72 45).toInt → zx_phi H0 ≤ zx_phi R → (zx_phi H + 2 ≤ zx_phi R ∨ (x.toInt = 0 ∧ zx_phi H ≤ zx_phi R)) → zs_Safe L σ (fun X : zp_X => ∃ H1, X = (.inl none, H1) ∧ zk_Bs zR zg zJ H1 ∧ zx_F a H0 H1 ∧ (a : Int) ≤ (H1.2.1 72 45).toInt ∧ (H1.2.1 72 45).toInt ≤ 1402 ∧ ((H1.2.1 72 23).toInt = 0 → zx_phi H0 ≤ zx_phi H1 ∧ (H1.2.1 72 45).toInt + 1 ≤ zx_phi H1 ∧ ∃ n b m, zr_run (H1.2.1 90) n a 0 = some (b, m) ∧ (b : Int) + 1 = (H1.2.1 72 45).toInt ∧ (H1.2.1 90 b).toInt = 0)) zm_192 [] (d + 6) (29, lv1, [], R, (0, 0))) : zs_Safe L σ (fun X : zp_X => ∃ H1, X = (.inl none, H1) ∧ zk_Bs zR zg zJ H1 ∧ zx_F a H0 H1 ∧ (a : Int) ≤ (H1.2.1 72 45).toInt ∧ (H1.2.1 72 45).toInt ≤ 1402 ∧ ((H1.2.1 72 23).toInt = 0 → zx_phi H0 ≤ zx_phi H1 ∧ (H1.2.1 72 45).toInt + 1 ≤ zx_phi H1 ∧ ∃ n b m, zr_run (H1.2.1 90) n a 0 = some (b, m) ∧ (b : Int) + 1 = (H1.2.1 72 45).toInt ∧ (H1.2.1 90 b).toInt = 0)) zm_192 [] (d + 6) (127, lv, [], H, (0, 0)) := by
  have W := zR_Wd (zR_dn h.1)
  have pH := zx_phi_le h.1
  have wb := h.2.2.1
  have hdp := zR_fr1 (zR_dn h.1) (k := 47) (r := (0, 6)) rfl rfl
  have hdp : 0 ≤ (H.2.1 72 47).toInt ∧ (H.2.1 72 47).toInt ≤ 6 := hdp
  refine zw_ld (n := 1) (k := 0) (f := zp_isR) (pc' := 128) rfl rfl l0 rfl rfl ?_
  refine zw_gR (q := 72) (pc' := 131) W rfl rfl rfl rfl (W.2 72 61 _ rfl) rfl ?_
  refine zw_ld (n := 1) (k := 0) (f := zp_isR) (pc' := 132) rfl rfl l0 rfl rfl ?_
  refine zw_gI (q := 72) (pc' := 135) W rfl rfl rfl rfl rfl rfl ?_
  refine zw_ba (q := 92) (pc' := 136) W rfl rfl (by decide) (⟨hdp.1, by show _ < ((9 : Nat) : Int); omega⟩) rfl rfl ?_
  refine zw_bne1 (g := 186) (pc' := 139) rfl rfl rfl rfl (fun ht => ?_) (fun ht => ?_)
  · exact zx_ex186 hK l0 l1 h hF ha hp hg bk
  · refine zw_ld (n := 1) (k := 0) (f := zp_isR) (pc' := 140) rfl rfl l0 rfl rfl ?_
    refine zw_s (pc' := 141) rfl rfl ?_
    obtain ⟨_, p1, Q, rfl, p2, p3, p4, p5, p6⟩ := zx_drops (L := L) (σ := σ) (d := d + 3) (y := Int32.ofInt 4) h ha
    have WQ := zR_Wd (zR_dn p2.1)
    have q23 := zx_fe p3.1 23 rfl rfl rfl
    have q28 := zx_fe p3.1 28 rfl rfl rfl
    have q47 := zx_fe p3.1 47 rfl rfl rfl
    have hphQ := zx_phi_i (zx_fe p3.1 27 rfl rfl rfl) q28
    obtain ⟨u0, u1⟩ := zx_top p2
    have u2 := p2.2.2.1
    refine zw_cn (pc' := 144) (zw_cv (q := 72) (Y := zm_199) W.1 rfl rfl zm_199_t rfl rfl) rfl rfl rfl rfl rfl (p1) ?_
    refine zw_ld (n := 1) (k := 0) (f := zp_isR) (pc' := 145) rfl rfl l0 rfl rfl ?_
    refine zw_ld (n := 1) (k := 0) (f := zp_isR) (pc' := 146) rfl rfl l0 rfl rfl ?_
    refine zw_s (pc' := 148) rfl rfl ?_
    by_cases hch : (Q.2.1 72 28).toInt = 3 ∧ (Q.2.1 72 32).toInt = (Int32.ofInt 60).toInt
    · refine zw_c (pc' := 151) (zw_cv (q := 72) (Y := zm_194) WQ.1 rfl rfl zm_194_t rfl rfl) rfl rfl rfl rfl rfl (zq_sign1 WQ hch) ?_
      refine zw_beq1 (g := 159) (pc' := 154) rfl rfl rfl (rfl : _ = (1 : Int)) (fun h9 => absurd h9 (by decide)) (fun hb => ?_)
      refine zw_s (pc' := 156) rfl rfl ?_
      refine zw_s (pc' := 161) rfl rfl ?_
      obtain ⟨m1, m2, m3, m4⟩ := zx_wait (y := Int32.ofInt 6) p2 (by omega) (by omega) (by decide)
      have hT := m4 0 0 rfl rfl
      have f45 : (zx_wt Q (Int32.ofInt 6)).2.1 72 45 = Q.2.1 72 45 := zx_wt_f 45 rfl
      refine zw_cn (pc' := 164) (zw_cv (q := 72) (Y := zm_196) WQ.1 rfl rfl zm_196_t rfl rfl) rfl rfl rfl rfl rfl (zq_waits WQ ⟨u1, by show _ < ((800 : Nat) : Int); omega⟩) ?_
      have f47 : (zx_wt Q (Int32.ofInt 6)).2.1 72 47 = Q.2.1 72 47 := zx_wt_f 47 rfl
      obtain ⟨n1, n2, n3, n4⟩ := zx_T_92 (j := ((zx_wt Q (Int32.ofInt 6)).2.1 72 47).toInt.toNat) (x := Int32.ofInt 1) hT (Or.inr rfl)
      refine zw_ld (n := 1) (k := 0) (f := zp_isR) (pc' := 165) rfl rfl l0 rfl rfl ?_
      refine zw_gR (q := 72) (pc' := 168) WQ rfl rfl rfl rfl (WQ.2 72 61 _ rfl) rfl ?_
      refine zw_ld (n := 1) (k := 0) (f := zp_isR) (pc' := 169) rfl rfl l0 rfl rfl ?_
      refine zw_gI (q := 72) (pc' := 172) WQ rfl rfl rfl rfl rfl rfl ?_
      refine zw_s (pc' := 173) rfl rfl ?_
      refine zw_bs (q := 92) (pc' := 174) WQ rfl rfl (by decide) (show 0 ≤ ((zx_wt Q (Int32.ofInt 6)).2.1 72 47).toInt ∧ ((zx_wt Q (Int32.ofInt 6)).2.1 72 47).toInt < ((9 : Nat) : Int) from by rw [f47]; exact ⟨by omega, by omega⟩) rfl ?_
      refine zw_ld (n := 1) (k := 0) (f := zp_isR) (pc' := 175) rfl rfl l0 rfl rfl ?_
      obtain ⟨K, c1, c2, c3, c4, c5, c6⟩ := zx_T_goes (L := L) (σ := σ) (d := d + 4) n1
      rw [n3] at c5
      have WK := zR_Wd (zR_dn c2.1)
      have aK : (a : Int) ≤ (K.2.1 72 45).toInt := zx_S_a c2 c4
      refine zw_cn (pc' := 178) (zw_cv (q := 72) (Y := zm_171) WQ.1 rfl rfl zm_171_t rfl rfl) rfl rfl rfl rfl rfl (c1) ?_
      obtain ⟨_, d1, R, rfl, d2, d3, d4, d5, d6⟩ := zx_operand (L := L) (σ := σ) (d := d) (y := Int32.ofInt 0) hK c2 aK
      refine zw_ld (n := 1) (k := 0) (f := zp_isR) (pc' := 179) rfl rfl l0 rfl rfl ?_
      refine zw_s (pc' := 180) rfl rfl ?_
      refine zw_cn (pc' := 183) (zw_cv (q := 72) (Y := zm_195) WK.1 rfl rfl zm_195_t rfl rfl) rfl rfl rfl rfl rfl (d1) ?_
      refine zw_s (pc' := 322) rfl rfl ?_
      refine zw_s (pc' := 29) rfl rfl ?_
      exact bk R _ _ l0 l1 d2 (zx_F_t (zx_F_t (zx_F_t (zx_F_t (zx_F_t hF (zx_Fd_F p3)) m1) n2) c3) d3) d5 (by omega) (Or.inl (by omega))
    · refine zw_c (pc' := 151) (zw_cv (q := 72) (Y := zm_194) WQ.1 rfl rfl zm_194_t rfl rfl) rfl rfl rfl rfl rfl (zq_sign0 WQ hch) ?_
      refine zw_beq1 (g := 159) (pc' := 154) rfl rfl rfl (rfl : _ = (0 : Int)) (fun hb => ?_) (fun h9 => absurd h9 (by decide))
      refine zw_s (pc' := 161) rfl rfl ?_
      obtain ⟨m1, m2, m3, m4⟩ := zx_wait (y := Int32.ofInt 7) p2 (by omega) (by omega) (by decide)
      have hT := m4 0 0 rfl rfl
      have f45 : (zx_wt Q (Int32.ofInt 7)).2.1 72 45 = Q.2.1 72 45 := zx_wt_f 45 rfl
      refine zw_cn (pc' := 164) (zw_cv (q := 72) (Y := zm_196) WQ.1 rfl rfl zm_196_t rfl rfl) rfl rfl rfl rfl rfl (zq_waits WQ ⟨u1, by show _ < ((800 : Nat) : Int); omega⟩) ?_
      have f47 : (zx_wt Q (Int32.ofInt 7)).2.1 72 47 = Q.2.1 72 47 := zx_wt_f 47 rfl
      obtain ⟨n1, n2, n3, n4⟩ := zx_T_92 (j := ((zx_wt Q (Int32.ofInt 7)).2.1 72 47).toInt.toNat) (x := Int32.ofInt 1) hT (Or.inr rfl)
      refine zw_ld (n := 1) (k := 0) (f := zp_isR) (pc' := 165) rfl rfl l0 rfl rfl ?_
      refine zw_gR (q := 72) (pc' := 168) WQ rfl rfl rfl rfl (WQ.2 72 61 _ rfl) rfl ?_
      refine zw_ld (n := 1) (k := 0) (f := zp_isR) (pc' := 169) rfl rfl l0 rfl rfl ?_
      refine zw_gI (q := 72) (pc' := 172) WQ rfl rfl rfl rfl rfl rfl ?_
      refine zw_s (pc' := 173) rfl rfl ?_
      refine zw_bs (q := 92) (pc' := 174) WQ rfl rfl (by decide) (show 0 ≤ ((zx_wt Q (Int32.ofInt 7)).2.1 72 47).toInt ∧ ((zx_wt Q (Int32.ofInt 7)).2.1 72 47).toInt < ((9 : Nat) : Int) from by rw [f47]; exact ⟨by omega, by omega⟩) rfl ?_
      refine zw_ld (n := 1) (k := 0) (f := zp_isR) (pc' := 175) rfl rfl l0 rfl rfl ?_
      obtain ⟨K, c1, c2, c3, c4, c5, c6⟩ := zx_T_goes (L := L) (σ := σ) (d := d + 4) n1
      rw [n3] at c5
      have WK := zR_Wd (zR_dn c2.1)
      have aK : (a : Int) ≤ (K.2.1 72 45).toInt := zx_S_a c2 c4
      refine zw_cn (pc' := 178) (zw_cv (q := 72) (Y := zm_171) WQ.1 rfl rfl zm_171_t rfl rfl) rfl rfl rfl rfl rfl (c1) ?_
      obtain ⟨_, d1, R, rfl, d2, d3, d4, d5, d6⟩ := zx_operand (L := L) (σ := σ) (d := d) (y := Int32.ofInt 0) hK c2 aK
      refine zw_ld (n := 1) (k := 0) (f := zp_isR) (pc' := 179) rfl rfl l0 rfl rfl ?_
      refine zw_s (pc' := 180) rfl rfl ?_
      refine zw_cn (pc' := 183) (zw_cv (q := 72) (Y := zm_195) WK.1 rfl rfl zm_195_t rfl rfl) rfl rfl rfl rfl rfl (d1) ?_
      refine zw_s (pc' := 322) rfl rfl ?_
      refine zw_s (pc' := 29) rfl rfl ?_
      exact bk R _ _ l0 l1 d2 (zx_F_t (zx_F_t (zx_F_t (zx_F_t (zx_F_t hF (zx_Fd_F p3)) m1) n2) c3) d3) d5 (by omega) (Or.inl (by omega))

set_option maxRecDepth 8000 in
set_option maxHeartbeats 4000000 in
theorem zx_ex109 {L : Nat} {σ : Nat → Int32} {d a : Nat} {H0 : zp_H} {H : zp_H} {lv : zp_LV} {x1 : Int32} (hK : zx_KW L σ) (l0 : zp_get lv 0 = some (.inr (.inr (some 73)))) (l1 : zp_get lv 1 = some (.inl x1)) (h : zx_S a 1 0 H) (hF : zx_F a H0 H) (ha : (a : Int) ≤ (H.2.1 72 45).toInt) (hp : zx_phi H0 ≤ zx_phi H) (hg : (H.2.1 72 23).toInt = 0) (bk : ∀ (R : zp_H) (lv1 : zp_LV) (x : Int32), zp_get lv1 0 = some (.inr (.inr (some 73))) → zp_get lv1 1 = some (.inl x) → zx_S a 1 0 R → zx_F a H0 R → (a : Int) ≤ (R.2.1 72 45).toInt → zx_phi H0 ≤ zx_phi R → (zx_phi H + 2 ≤ zx_phi R ∨ (x.toInt = 0 ∧ zx_phi H ≤ zx_phi R)) → zs_Safe L σ (fun X : zp_X => ∃ H1, X = (.inl none, H1) ∧ zk_Bs zR zg zJ H1 ∧ zx_F a H0 H1 ∧ (a : Int) ≤ (H1.2.1 72 45).toInt ∧ (H1.2.1 72 45).toInt ≤ 1402 ∧ ((H1.2.1 72 23).toInt = 0 → zx_phi H0 ≤ zx_phi H1 ∧ (H1.2.1 72 45).toInt + 1 ≤ zx_phi H1 ∧ ∃ n b m, zr_run (H1.2.1 90) n a 0 = some (b, m) ∧ (b : Int) + 1 = (H1.2.1 72 45).toInt ∧ (H1.2.1 90 b).toInt = 0)) zm_192 [] (d + 6) (29, lv1, [], R, (0, 0))) : zs_Safe L σ (fun X : zp_X => ∃ H1, X = (.inl none, H1) ∧ zk_Bs zR zg zJ H1 ∧ zx_F a H0 H1 ∧ (a : Int) ≤ (H1.2.1 72 45).toInt ∧ (H1.2.1 72 45).toInt ≤ 1402 ∧ ((H1.2.1 72 23).toInt = 0 → zx_phi H0 ≤ zx_phi H1 ∧ (H1.2.1 72 45).toInt + 1 ≤ zx_phi H1 ∧ ∃ n b m, zr_run (H1.2.1 90) n a 0 = some (b, m) ∧ (b : Int) + 1 = (H1.2.1 72 45).toInt ∧ (H1.2.1 90 b).toInt = 0)) zm_192 [] (d + 6) (109, lv, [], H, (0, 0)) := by
  have W := zR_Wd (zR_dn h.1)
  have pH := zx_phi_le h.1
  have wb := h.2.2.1
  have hdp := zR_fr1 (zR_dn h.1) (k := 47) (r := (0, 6)) rfl rfl
  have hdp : 0 ≤ (H.2.1 72 47).toInt ∧ (H.2.1 72 47).toInt ≤ 6 := hdp
  refine zw_ld (n := 1) (k := 0) (f := zp_isR) (pc' := 110) rfl rfl l0 rfl rfl ?_
  refine zw_s (pc' := 112) rfl rfl ?_
  by_cases h60 : (H.2.1 72 28).toInt = 3 ∧ (H.2.1 72 32).toInt = (Int32.ofInt 60).toInt
  · refine zw_c (pc' := 115) (zw_cv (q := 72) (Y := zm_194) W.1 rfl rfl zm_194_t rfl rfl) rfl rfl rfl rfl rfl (zq_sign1 W h60) ?_
    refine zw_bne1 (g := 127) (pc' := 118) rfl rfl rfl (rfl : _ = (1 : Int)) (fun hb => ?_) (fun h9 => absurd h9 (by decide))
    exact zx_ex127 hK l0 l1 h60.1 h hF ha hp hg bk
  · refine zw_c (pc' := 115) (zw_cv (q := 72) (Y := zm_194) W.1 rfl rfl zm_194_t rfl rfl) rfl rfl rfl rfl rfl (zq_sign0 W h60) ?_
    refine zw_bne1 (g := 127) (pc' := 118) rfl rfl rfl (rfl : _ = (0 : Int)) (fun h9 => absurd h9 (by decide)) (fun hb => ?_)
    refine zw_ld (n := 1) (k := 0) (f := zp_isR) (pc' := 119) rfl rfl l0 rfl rfl ?_
    refine zw_s (pc' := 121) rfl rfl ?_
    by_cases h61 : (H.2.1 72 28).toInt = 3 ∧ (H.2.1 72 32).toInt = (Int32.ofInt 61).toInt
    · refine zw_c (pc' := 124) (zw_cv (q := 72) (Y := zm_194) W.1 rfl rfl zm_194_t rfl rfl) rfl rfl rfl rfl rfl (zq_sign1 W h61) ?_
      refine zw_beq1 (g := 186) (pc' := 127) rfl rfl rfl (rfl : _ = (1 : Int)) (fun h9 => absurd h9 (by decide)) (fun hb => ?_)
      exact zx_ex127 hK l0 l1 h61.1 h hF ha hp hg bk
    · refine zw_c (pc' := 124) (zw_cv (q := 72) (Y := zm_194) W.1 rfl rfl zm_194_t rfl rfl) rfl rfl rfl rfl rfl (zq_sign0 W h61) ?_
      refine zw_beq1 (g := 186) (pc' := 127) rfl rfl rfl (rfl : _ = (0 : Int)) (fun hb => ?_) (fun h9 => absurd h9 (by decide))
      exact zx_ex186 hK l0 l1 h hF ha hp hg bk

set_option maxRecDepth 8000 in
set_option maxHeartbeats 4000000 in
theorem zx_ex57 {L : Nat} {σ : Nat → Int32} {d a : Nat} {H0 : zp_H} {H : zp_H} {lv : zp_LV} {x1 : Int32} (hK : zx_KW L σ) (l0 : zp_get lv 0 = some (.inr (.inr (some 73)))) (l1 : zp_get lv 1 = some (.inl x1)) {x2 : Int32} (l2 : zp_get lv 2 = some (.inl x2)) (hs : (H.2.1 72 28).toInt = 1) (h : zx_S a 1 0 H) (hF : zx_F a H0 H) (ha : (a : Int) ≤ (H.2.1 72 45).toInt) (hp : zx_phi H0 ≤ zx_phi H) (hg : (H.2.1 72 23).toInt = 0) (bk : ∀ (R : zp_H) (lv1 : zp_LV) (x : Int32), zp_get lv1 0 = some (.inr (.inr (some 73))) → zp_get lv1 1 = some (.inl x) → zx_S a 1 0 R → zx_F a H0 R → (a : Int) ≤ (R.2.1 72 45).toInt → zx_phi H0 ≤ zx_phi R → (zx_phi H + 2 ≤ zx_phi R ∨ (x.toInt = 0 ∧ zx_phi H ≤ zx_phi R)) → zs_Safe L σ (fun X : zp_X => ∃ H1, X = (.inl none, H1) ∧ zk_Bs zR zg zJ H1 ∧ zx_F a H0 H1 ∧ (a : Int) ≤ (H1.2.1 72 45).toInt ∧ (H1.2.1 72 45).toInt ≤ 1402 ∧ ((H1.2.1 72 23).toInt = 0 → zx_phi H0 ≤ zx_phi H1 ∧ (H1.2.1 72 45).toInt + 1 ≤ zx_phi H1 ∧ ∃ n b m, zr_run (H1.2.1 90) n a 0 = some (b, m) ∧ (b : Int) + 1 = (H1.2.1 72 45).toInt ∧ (H1.2.1 90 b).toInt = 0)) zm_192 [] (d + 6) (29, lv1, [], R, (0, 0))) : zs_Safe L σ (fun X : zp_X => ∃ H1, X = (.inl none, H1) ∧ zk_Bs zR zg zJ H1 ∧ zx_F a H0 H1 ∧ (a : Int) ≤ (H1.2.1 72 45).toInt ∧ (H1.2.1 72 45).toInt ≤ 1402 ∧ ((H1.2.1 72 23).toInt = 0 → zx_phi H0 ≤ zx_phi H1 ∧ (H1.2.1 72 45).toInt + 1 ≤ zx_phi H1 ∧ ∃ n b m, zr_run (H1.2.1 90) n a 0 = some (b, m) ∧ (b : Int) + 1 = (H1.2.1 72 45).toInt ∧ (H1.2.1 90 b).toInt = 0)) zm_192 [] (d + 6) (57, lv, [], H, (0, 0)) := by
  have W := zR_Wd (zR_dn h.1)
  have pH := zx_phi_le h.1
  have wb := h.2.2.1
  have hdp := zR_fr1 (zR_dn h.1) (k := 47) (r := (0, 6)) rfl rfl
  have hdp : 0 ≤ (H.2.1 72 47).toInt ∧ (H.2.1 72 47).toInt ≤ 6 := hdp
  refine zw_ld (n := 1) (k := 0) (f := zp_isR) (pc' := 58) rfl rfl l0 rfl rfl ?_
  refine zw_ld (n := 1) (k := 2) (f := zp_isI) (pc' := 59) rfl rfl l2 rfl rfl ?_
  refine zw_s (pc' := 61) rfl rfl ?_
  refine zw_bne2 (g := 68) (pc' := 64) rfl rfl rfl rfl (rfl : _ = (18 : Int)) (fun hB => ?_) (fun hB => ?_)
  · refine zw_s (pc' := 69) rfl rfl ?_
    obtain ⟨_, p1, Q, rfl, p2, p3, p4, p5, p6⟩ := zx_drops (L := L) (σ := σ) (d := d + 3) (y := Int32.ofInt 1) h ha
    have WQ := zR_Wd (zR_dn p2.1)
    have q23 := zx_fe p3.1 23 rfl rfl rfl
    have q28 := zx_fe p3.1 28 rfl rfl rfl
    have q47 := zx_fe p3.1 47 rfl rfl rfl
    have hphQ := zx_phi_i (zx_fe p3.1 27 rfl rfl rfl) q28
    obtain ⟨u0, u1⟩ := zx_top p2
    have u2 := p2.2.2.1
    refine zw_cn (pc' := 72) (zw_cv (q := 72) (Y := zm_199) W.1 rfl rfl zm_199_t rfl rfl) rfl rfl rfl rfl rfl (p1) ?_
    refine zw_ld (n := 1) (k := 0) (f := zp_isR) (pc' := 73) rfl rfl l0 rfl rfl ?_
    refine zw_ld (n := 1) (k := 2) (f := zp_isI) (pc' := 74) rfl rfl l2 rfl rfl ?_
    refine zw_s (pc' := 76) rfl rfl ?_
    refine zw_bne2 (g := 83) (pc' := 79) rfl rfl rfl rfl (rfl : _ = (18 : Int)) (fun hC => ?_) (fun hC => ?_)
    · refine zw_s (pc' := 84) rfl rfl ?_
      obtain ⟨m1, m2, m3, m4⟩ := zx_wait (y := Int32.ofInt 5) p2 (by omega) (by omega) (by decide)
      have hT := m4 0 0 rfl rfl
      have f45 : (zx_wt Q (Int32.ofInt 5)).2.1 72 45 = Q.2.1 72 45 := zx_wt_f 45 rfl
      refine zw_cn (pc' := 87) (zw_cv (q := 72) (Y := zm_196) WQ.1 rfl rfl zm_196_t rfl rfl) rfl rfl rfl rfl rfl (zq_waits WQ ⟨u1, by show _ < ((800 : Nat) : Int); omega⟩) ?_
      have f47 : (zx_wt Q (Int32.ofInt 5)).2.1 72 47 = Q.2.1 72 47 := zx_wt_f 47 rfl
      obtain ⟨n1, n2, n3, n4⟩ := zx_T_92 (j := ((zx_wt Q (Int32.ofInt 5)).2.1 72 47).toInt.toNat) (x := Int32.ofInt 0) hT (Or.inl rfl)
      refine zw_ld (n := 1) (k := 0) (f := zp_isR) (pc' := 88) rfl rfl l0 rfl rfl ?_
      refine zw_gR (q := 72) (pc' := 91) WQ rfl rfl rfl rfl (WQ.2 72 61 _ rfl) rfl ?_
      refine zw_ld (n := 1) (k := 0) (f := zp_isR) (pc' := 92) rfl rfl l0 rfl rfl ?_
      refine zw_gI (q := 72) (pc' := 95) WQ rfl rfl rfl rfl rfl rfl ?_
      refine zw_s (pc' := 96) rfl rfl ?_
      refine zw_bs (q := 92) (pc' := 97) WQ rfl rfl (by decide) (show 0 ≤ ((zx_wt Q (Int32.ofInt 5)).2.1 72 47).toInt ∧ ((zx_wt Q (Int32.ofInt 5)).2.1 72 47).toInt < ((9 : Nat) : Int) from by rw [f47]; exact ⟨by omega, by omega⟩) rfl ?_
      refine zw_ld (n := 1) (k := 0) (f := zp_isR) (pc' := 98) rfl rfl l0 rfl rfl ?_
      obtain ⟨K, c1, c2, c3, c4, c5, c6⟩ := zx_T_goes (L := L) (σ := σ) (d := d + 4) n1
      rw [n3] at c5
      have WK := zR_Wd (zR_dn c2.1)
      have aK : (a : Int) ≤ (K.2.1 72 45).toInt := zx_S_a c2 c4
      refine zw_cn (pc' := 101) (zw_cv (q := 72) (Y := zm_171) WQ.1 rfl rfl zm_171_t rfl rfl) rfl rfl rfl rfl rfl (c1) ?_
      obtain ⟨_, d1, R, rfl, d2, d3, d4, d5, d6⟩ := zx_operand (L := L) (σ := σ) (d := d) (y := Int32.ofInt 1) hK c2 aK
      refine zw_ld (n := 1) (k := 0) (f := zp_isR) (pc' := 102) rfl rfl l0 rfl rfl ?_
      refine zw_s (pc' := 103) rfl rfl ?_
      refine zw_cn (pc' := 106) (zw_cv (q := 72) (Y := zm_195) WK.1 rfl rfl zm_195_t rfl rfl) rfl rfl rfl rfl rfl (d1) ?_
      refine zw_s (pc' := 322) rfl rfl ?_
      refine zw_s (pc' := 29) rfl rfl ?_
      exact bk R _ _ l0 l1 d2 (zx_F_t (zx_F_t (zx_F_t (zx_F_t (zx_F_t hF (zx_Fd_F p3)) m1) n2) c3) d3) d5 (by omega) (Or.inl (by omega))
    · omega
  · refine zw_s (pc' := 65) rfl rfl ?_
    refine zw_s (pc' := 69) rfl rfl ?_
    obtain ⟨_, p1, Q, rfl, p2, p3, p4, p5, p6⟩ := zx_drops (L := L) (σ := σ) (d := d + 3) (y := Int32.ofInt 2) h ha
    have WQ := zR_Wd (zR_dn p2.1)
    have q23 := zx_fe p3.1 23 rfl rfl rfl
    have q28 := zx_fe p3.1 28 rfl rfl rfl
    have q47 := zx_fe p3.1 47 rfl rfl rfl
    have hphQ := zx_phi_i (zx_fe p3.1 27 rfl rfl rfl) q28
    obtain ⟨u0, u1⟩ := zx_top p2
    have u2 := p2.2.2.1
    refine zw_cn (pc' := 72) (zw_cv (q := 72) (Y := zm_199) W.1 rfl rfl zm_199_t rfl rfl) rfl rfl rfl rfl rfl (p1) ?_
    refine zw_ld (n := 1) (k := 0) (f := zp_isR) (pc' := 73) rfl rfl l0 rfl rfl ?_
    refine zw_ld (n := 1) (k := 2) (f := zp_isI) (pc' := 74) rfl rfl l2 rfl rfl ?_
    refine zw_s (pc' := 76) rfl rfl ?_
    refine zw_bne2 (g := 83) (pc' := 79) rfl rfl rfl rfl (rfl : _ = (18 : Int)) (fun hC => ?_) (fun hC => ?_)
    · omega
    · refine zw_s (pc' := 80) rfl rfl ?_
      refine zw_s (pc' := 84) rfl rfl ?_
      obtain ⟨m1, m2, m3, m4⟩ := zx_wait (y := Int32.ofInt 4) p2 (by omega) (by omega) (by decide)
      have hT := m4 0 0 rfl rfl
      have f45 : (zx_wt Q (Int32.ofInt 4)).2.1 72 45 = Q.2.1 72 45 := zx_wt_f 45 rfl
      refine zw_cn (pc' := 87) (zw_cv (q := 72) (Y := zm_196) WQ.1 rfl rfl zm_196_t rfl rfl) rfl rfl rfl rfl rfl (zq_waits WQ ⟨u1, by show _ < ((800 : Nat) : Int); omega⟩) ?_
      have f47 : (zx_wt Q (Int32.ofInt 4)).2.1 72 47 = Q.2.1 72 47 := zx_wt_f 47 rfl
      obtain ⟨n1, n2, n3, n4⟩ := zx_T_92 (j := ((zx_wt Q (Int32.ofInt 4)).2.1 72 47).toInt.toNat) (x := Int32.ofInt 0) hT (Or.inl rfl)
      refine zw_ld (n := 1) (k := 0) (f := zp_isR) (pc' := 88) rfl rfl l0 rfl rfl ?_
      refine zw_gR (q := 72) (pc' := 91) WQ rfl rfl rfl rfl (WQ.2 72 61 _ rfl) rfl ?_
      refine zw_ld (n := 1) (k := 0) (f := zp_isR) (pc' := 92) rfl rfl l0 rfl rfl ?_
      refine zw_gI (q := 72) (pc' := 95) WQ rfl rfl rfl rfl rfl rfl ?_
      refine zw_s (pc' := 96) rfl rfl ?_
      refine zw_bs (q := 92) (pc' := 97) WQ rfl rfl (by decide) (show 0 ≤ ((zx_wt Q (Int32.ofInt 4)).2.1 72 47).toInt ∧ ((zx_wt Q (Int32.ofInt 4)).2.1 72 47).toInt < ((9 : Nat) : Int) from by rw [f47]; exact ⟨by omega, by omega⟩) rfl ?_
      refine zw_ld (n := 1) (k := 0) (f := zp_isR) (pc' := 98) rfl rfl l0 rfl rfl ?_
      obtain ⟨K, c1, c2, c3, c4, c5, c6⟩ := zx_T_goes (L := L) (σ := σ) (d := d + 4) n1
      rw [n3] at c5
      have WK := zR_Wd (zR_dn c2.1)
      have aK : (a : Int) ≤ (K.2.1 72 45).toInt := zx_S_a c2 c4
      refine zw_cn (pc' := 101) (zw_cv (q := 72) (Y := zm_171) WQ.1 rfl rfl zm_171_t rfl rfl) rfl rfl rfl rfl rfl (c1) ?_
      obtain ⟨_, d1, R, rfl, d2, d3, d4, d5, d6⟩ := zx_operand (L := L) (σ := σ) (d := d) (y := Int32.ofInt 1) hK c2 aK
      refine zw_ld (n := 1) (k := 0) (f := zp_isR) (pc' := 102) rfl rfl l0 rfl rfl ?_
      refine zw_s (pc' := 103) rfl rfl ?_
      refine zw_cn (pc' := 106) (zw_cv (q := 72) (Y := zm_195) WK.1 rfl rfl zm_195_t rfl rfl) rfl rfl rfl rfl rfl (d1) ?_
      refine zw_s (pc' := 322) rfl rfl ?_
      refine zw_s (pc' := 29) rfl rfl ?_
      exact bk R _ _ l0 l1 d2 (zx_F_t (zx_F_t (zx_F_t (zx_F_t (zx_F_t hF (zx_Fd_F p3)) m1) n2) c3) d3) d5 (by omega) (Or.inl (by omega))

set_option maxRecDepth 8000 in
set_option maxHeartbeats 4000000 in
theorem zx_exL {L : Nat} {σ : Nat → Int32} {d a : Nat} {H0 : zp_H} (hK : zx_KW L σ) : ∀ (n : Nat) (H : zp_H) (lv : zp_LV) (x1 : Int32), 2 * (1401 - zx_phi H).toNat + (if x1.toInt = 0 then 0 else 1) = n → zp_get lv 0 = some (.inr (.inr (some 73))) → zp_get lv 1 = some (.inl x1) → zx_S a 1 0 H → zx_F a H0 H → (a : Int) ≤ (H.2.1 72 45).toInt → zx_phi H0 ≤ zx_phi H → zs_Safe L σ (fun X : zp_X => ∃ H1, X = (.inl none, H1) ∧ zk_Bs zR zg zJ H1 ∧ zx_F a H0 H1 ∧ (a : Int) ≤ (H1.2.1 72 45).toInt ∧ (H1.2.1 72 45).toInt ≤ 1402 ∧ ((H1.2.1 72 23).toInt = 0 → zx_phi H0 ≤ zx_phi H1 ∧ (H1.2.1 72 45).toInt + 1 ≤ zx_phi H1 ∧ ∃ n b m, zr_run (H1.2.1 90) n a 0 = some (b, m) ∧ (b : Int) + 1 = (H1.2.1 72 45).toInt ∧ (H1.2.1 90 b).toInt = 0)) zm_192 [] (d + 6) (29, lv, [], H, (0, 0)) := by
  intro n
  induction n using Nat.strongRecOn with
  | ind n ih =>
    intro H lv x1 hn l0 l1 h hF ha hp
    have W := zR_Wd (zR_dn h.1)
    have pH := zx_phi_le h.1
    refine zw_ld (n := 1) (k := 1) (f := zp_isI) (pc' := 30) rfl rfl l1 rfl rfl ?_
    refine zw_beq1 (g := 325) (pc' := 33) rfl rfl rfl rfl (fun h1 => ?_) (fun h1 => ?_)
    · exact zx_exE l0 h hF ha hp
    · rw [if_neg h1] at hn
      refine zw_ld (n := 1) (k := 0) (f := zp_isR) (pc' := 34) rfl rfl l0 rfl rfl ?_
      by_cases hg : (H.2.1 72 23).toInt = 0
      · refine zw_c (pc' := 37) (zw_cv (q := 72) (Y := zm_175) W.1 rfl rfl zm_175_t rfl rfl) rfl rfl rfl rfl rfl (zq_good1 W hg) ?_
        refine zw_beq1 (g := 325) (pc' := 40) rfl rfl rfl (rfl : _ = (1 : Int)) (fun h9 => absurd h9 (by decide)) (fun hb => ?_)
        refine zw_ld (n := 1) (k := 0) (f := zp_isR) (pc' := 41) rfl rfl l0 rfl rfl ?_
        have bk : ∀ (R : zp_H) (lv1 : zp_LV) (x : Int32), zp_get lv1 0 = some (.inr (.inr (some 73))) → zp_get lv1 1 = some (.inl x) → zx_S a 1 0 R → zx_F a H0 R → (a : Int) ≤ (R.2.1 72 45).toInt → zx_phi H0 ≤ zx_phi R → (zx_phi H + 2 ≤ zx_phi R ∨ (x.toInt = 0 ∧ zx_phi H ≤ zx_phi R)) → zs_Safe L σ (fun X : zp_X => ∃ H1, X = (.inl none, H1) ∧ zk_Bs zR zg zJ H1 ∧ zx_F a H0 H1 ∧ (a : Int) ≤ (H1.2.1 72 45).toInt ∧ (H1.2.1 72 45).toInt ≤ 1402 ∧ ((H1.2.1 72 23).toInt = 0 → zx_phi H0 ≤ zx_phi H1 ∧ (H1.2.1 72 45).toInt + 1 ≤ zx_phi H1 ∧ ∃ n b m, zr_run (H1.2.1 90) n a 0 = some (b, m) ∧ (b : Int) + 1 = (H1.2.1 72 45).toInt ∧ (H1.2.1 90 b).toInt = 0)) zm_192 [] (d + 6) (29, lv1, [], R, (0, 0)) := by
          intro R lv1 x m0 m1 mS mF ma mp mq
          have pR := zx_phi_le mS.1
          refine ih _ ?_ R lv1 x rfl m0 m1 mS mF ma mp
          rcases mq with mq | ⟨mq, mr⟩
          · split <;> omega
          · rw [if_pos mq]; omega
        obtain ⟨v, v1, v2⟩ := hK (d + 2) H h.1
        refine zw_c (pc' := 44) (zw_cv (q := 72) (Y := zm_177) W.1 rfl rfl zm_177_t rfl rfl) rfl rfl rfl rfl rfl (v1) ?_
        refine zw_st (n := 1) (k := 2) (f := zp_isI) (pc' := 45) rfl rfl rfl rfl rfl ?_
        refine zw_ld (n := 1) (k := 2) (f := zp_isI) (pc' := 46) rfl rfl zw_g1 rfl rfl ?_
        refine zw_s (pc' := 48) rfl rfl ?_
        refine zw_beq2 (g := 57) (pc' := 51) rfl rfl rfl rfl (rfl : _ = (18 : Int)) (fun hA => ?_) (fun hA => ?_)
        · exact zx_ex57 hK (zw_gt l0 rfl rfl) (zw_gt l1 rfl rfl) zw_g1 (zg_s (by omega)) h hF ha hp hg bk
        · refine zw_ld (n := 1) (k := 2) (f := zp_isI) (pc' := 52) rfl rfl zw_g1 rfl rfl ?_
          refine zw_s (pc' := 54) rfl rfl ?_
          refine zw_bne2 (g := 109) (pc' := 57) rfl rfl rfl rfl (rfl : _ = (19 : Int)) (fun hO => ?_) (fun hO => ?_)
          · exact zx_ex109 hK (zw_gt l0 rfl rfl) (zw_gt l1 rfl rfl) h hF ha hp hg bk
          · exact zx_ex57 hK (zw_gt l0 rfl rfl) (zw_gt l1 rfl rfl) zw_g1 (zg_s (by omega)) h hF ha hp hg bk
      · refine zw_c (pc' := 37) (zw_cv (q := 72) (Y := zm_175) W.1 rfl rfl zm_175_t rfl rfl) rfl rfl rfl rfl rfl (zq_good0 W hg) ?_
        refine zw_beq1 (g := 325) (pc' := 40) rfl rfl rfl (rfl : _ = (0 : Int)) (fun hb => ?_) (fun h9 => absurd h9 (by decide))
        exact zx_exE l0 h hF ha hp

set_option maxRecDepth 8000 in
set_option maxHeartbeats 4000000 in
theorem zx_expr {L : Nat} {σ : Nat → Int32} {d : Nat} {H : zp_H} (hK : zx_KW L σ) (hB : zk_Bs zR zg zJ H) (h0 : (H.2.1 72 23).toInt = 0) (ht : (H.2.1 72 45).toInt + 2 ≤ zx_phi H) : ∃ X, zp_Call L σ (d + 7) 192 [.inr (.inr (some 73))] H X ∧ (fun X : zp_X => ∃ H1, X = (.inl none, H1) ∧ zk_Bs zR zg zJ H1 ∧ zx_F (H.2.1 72 45).toInt.toNat H H1 ∧ ((H.2.1 72 45).toInt.toNat : Int) ≤ (H1.2.1 72 45).toInt ∧ (H1.2.1 72 45).toInt ≤ 1402 ∧ ((H1.2.1 72 23).toInt = 0 → zx_phi H ≤ zx_phi H1 ∧ (H1.2.1 72 45).toInt + 1 ≤ zx_phi H1 ∧ ∃ n b m, zr_run (H1.2.1 90) n (H.2.1 72 45).toInt.toNat 0 = some (b, m) ∧ (b : Int) + 1 = (H1.2.1 72 45).toInt ∧ (H1.2.1 90 b).toInt = 0)) X := by
  have W := zR_Wd (zR_dn hB)
  have t0 := zR_fr1 (zR_dn hB) (k := 45) (r := (0, 1600)) rfl rfl
  have t0 : 0 ≤ (H.2.1 72 45).toInt ∧ _ := t0
  have pH := zx_phi_le hB
  refine zw_met zm_192_t rfl rfl ?_
  refine zw_ld (n := 1) (k := 0) (f := zp_isR) (pc' := 1) rfl rfl rfl rfl rfl ?_
  refine zw_c (pc' := 4) (zw_cv (q := 72) (Y := zm_175) W.1 rfl rfl zm_175_t rfl rfl) rfl rfl rfl rfl rfl (zq_good1 W h0) ?_
  refine zw_bne1 (g := 8) (pc' := 7) rfl rfl rfl (rfl : _ = (1 : Int)) (fun hb => ?_) (fun h9 => absurd h9 (by decide))
  refine zw_ld (n := 1) (k := 0) (f := zp_isR) (pc' := 9) rfl rfl rfl rfl rfl ?_
  refine zw_s (pc' := 10) rfl rfl ?_
  refine zw_pI (q := 72) (pc' := 13) W rfl rfl rfl rfl rfl rfl ?_
  refine zw_ld (n := 1) (k := 0) (f := zp_isR) (pc' := 14) rfl rfl rfl rfl rfl ?_
  refine zw_s (pc' := 15) rfl rfl ?_
  refine zw_pI (q := 72) (pc' := 18) W rfl rfl rfl rfl rfl rfl ?_
  refine zw_ld (n := 1) (k := 0) (f := zp_isR) (pc' := 19) rfl rfl rfl rfl rfl ?_
  have hS : zx_S (H.2.1 72 45).toInt.toNat 0 1 (zw_I (zw_I H 72 46 (Int32.ofInt 0)) 72 47 (Int32.ofInt 0)) := by
    generalize hK9 : zw_I (zw_I H 72 46 (Int32.ofInt 0)) 72 47 (Int32.ofInt 0) = K
    have b0 := zR_dn hB
    have b1 := zR_putf (k := 46) (x := Int32.ofInt 0) b0 (fun r hr => by cases hr; exact ⟨by decide, by decide⟩) rfl (zJ_I rfl b0.2.2.2.2.2.2.2)
    have b2 := zR_putf (k := 47) (x := Int32.ofInt 0) b1 (fun r hr => by cases hr; exact ⟨by decide, by decide⟩) rfl (zJ_I rfl b1.2.2.2.2.2.2.2)
    rw [hK9] at b2
    have f : ∀ k, Nat.beq k 46 = false → Nat.beq k 47 = false → K.2.1 72 k = H.2.1 72 k := fun k hk hk2 => by rw [← hK9]; exact zw_ne (zw_ne rfl (by rw [hk]; rfl)) (by rw [hk2]; rfl)
    have f46 : K.2.1 72 46 = Int32.ofInt 0 := by rw [← hK9]; exact zw_ne zw_eq rfl
    have f47 : K.2.1 72 47 = Int32.ofInt 0 := by rw [← hK9]; exact zw_eq
    have e0 : (Int32.ofInt 0).toInt = 0 := rfl
    have hphi : zx_phi K = zx_phi H := zx_phi_e (f 27 rfl rfl) (f 28 rfl rfl)
    refine ⟨zR_up b2 ?_, by rw [f 45 rfl rfl, f46, e0]; omega, by rw [f46, e0]; omega, fun _ => ⟨by rw [hphi, f 45 rfl rfl, f46, e0]; omega, by rw [hphi, f46, e0]; omega, ?_, ?_, 0, ?_⟩⟩
    · have c := zR_cn hB
      unfold zR_cc
      rw [f 23 rfl rfl, f 34 rfl rfl, f 35 rfl rfl]
      exact c
    · rw [f46, f47, e0]; rfl
    · rw [f46, e0]
      intro i hi
      exact absurd hi (Nat.not_lt_zero _)
    · rw [f46, f 45 rfl rfl, e0]; rfl
  have hF : zx_F (H.2.1 72 45).toInt.toNat H (zw_I (zw_I H 72 46 (Int32.ofInt 0)) 72 47 (Int32.ofInt 0)) := ⟨zk_Fr_I (zk_Fr_I (zk_Fr_r H) rfl rfl) rfl rfl, fun i _ => zw_ne (zw_ne rfl rfl) rfl⟩
  have hph : zx_phi (zw_I (zw_I H 72 46 (Int32.ofInt 0)) 72 47 (Int32.ofInt 0)) = zx_phi H := zx_phi_e (zw_ne (zw_ne rfl rfl) rfl) (zw_ne (zw_ne rfl rfl) rfl)
  have e45 : (zw_I (zw_I H 72 46 (Int32.ofInt 0)) 72 47 (Int32.ofInt 0)).2.1 72 45 = H.2.1 72 45 := zw_ne (zw_ne rfl rfl) rfl
  obtain ⟨_, c1, K, rfl, c2, c3, c4, c5⟩ := zx_deeper (L := L) (σ := σ) (d := d + 3) hS
  rw [e45] at c5
  have WK := zR_Wd (zR_dn c2.1)
  obtain ⟨_, d1, R, rfl, d2, d3, d4, d5, d6⟩ := zx_operand (L := L) (σ := σ) (d := d) (y := Int32.ofInt 1) hK c2 (by omega)
  have WR := zR_Wd (zR_dn d2.1)
  refine zw_cn (pc' := 22) (zw_cv (q := 72) (Y := zm_193) W.1 rfl rfl zm_193_t rfl rfl) rfl rfl rfl rfl rfl (c1) ?_
  refine zw_ld (n := 1) (k := 0) (f := zp_isR) (pc' := 23) rfl rfl rfl rfl rfl ?_
  refine zw_s (pc' := 24) rfl rfl ?_
  refine zw_cn (pc' := 27) (zw_cv (q := 72) (Y := zm_195) WK.1 rfl rfl zm_195_t rfl rfl) rfl rfl rfl rfl rfl (d1) ?_
  refine zw_s (pc' := 28) rfl rfl ?_
  refine zw_st (n := 1) (k := 1) (f := zp_isI) (pc' := 29) rfl rfl rfl rfl rfl ?_
  exact zx_exL hK _ R _ _ rfl (zw_gt rfl rfl rfl) zw_g1 d2 (zx_F_t hF (zx_F_t c3 d3)) d5 (by omega)
