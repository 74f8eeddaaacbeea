section
/-! ===== the reference reads an expression, exactly ===== -/

/-- behind the expression -/
def yFin (T : Nat → Int) (n : Nat) (s0 : yM) (H0 H : zp_H) : Prop := ((H.2.1 72 23).toInt = 0 ∧ ∃ lv q, yV T n lv q H ∧ yA T n s0 (0, q) ∧ ∀ a' W' O', xV a' W' O' H0 → ∃ C W2, yTA T n s0 W' O' (q, C) ∧ xVn a' W2 (xR2 C ++ [0]) H) ∨ yBad T n s0 H
/-- it stops here -/
def yZ (T : Nat → Int) (n : Nat) (s0 : yM) (H0 H : zp_H) : Prop := ((H.2.1 72 23).toInt = 0 ∧ ∃ lv q, lv ≠ [] ∧ yV T n lv q H ∧ xRR T n s0 (0, lv, q) H0 H ∧ yN T n (0, lv, q) = (if 1 < lv.length then .inr (1, q) else .inr (0, q))) ∨ yBad T n s0 H
theorem yV_92 {T : Nat → Int} {n p j : Nat} {b t : Bool} {l : List Bool} {x : Int32} {H : zp_H} (h : yV T n (b :: l) p H) (hj : j = l.length + 1) (hx : (zp_nar 2 x).toInt = if t then 1 else 0) : yV T n (t :: l) p (zw_I H 92 j (zp_nar 2 x)) := by
  subst hj
  refine ⟨yr_T_I h.1 rfl, yr_k_c (fun k hk => zw_ne rfl rfl) rfl h.2.1, h.2.2.1, ?_, ?_, ?_⟩
  · exact (congrArg Int32.toInt (zw_ne rfl rfl)).trans h.2.2.2.1
  · exact (congrArg Int32.toInt zw_eq).trans hx
  · refine yt_u (m := l.length) (fun k hk => zw_ne rfl ?_) (Nat.le_refl _) h.2.2.2.2.2
    have hkk : Nat.beq k (l.length + 1) = false := by
      cases h9 : Nat.beq k (l.length + 1) with
      | false => rfl
      | true => exact absurd (Nat.eq_of_beq_eq_true h9) (by omega)
    rw [hkk]
    rfl

set_option maxRecDepth 8000 in
theorem yx_exE {L : Nat} {σ : Nat → Int32} {d a : Nat} {T : Nat → Int} {n : Nat} {s0 : yM} {H0 Hq : zp_H} (hby : ∀ k, k < n → -128 ≤ T k ∧ T k ≤ 127) {H : zp_H} {lv : zp_LV} (l0 : zp_get lv 0 = some (.inr (.inr (some 73)))) (h : zx_S a 1 0 H) (hF : zx_F a H0 H) (ha : (a : Int) ≤ (H.2.1 72 45).toInt) (hJ : yZ T n s0 Hq H) : zs_Safe L σ (fun X : zp_X => ∃ H1, X = (.inl none, H1) ∧ zk_Bs zR zg zJ H1 ∧ zx_F a H0 H1 ∧ (a : Int) ≤ (H1.2.1 72 45).toInt ∧ yFin T n s0 Hq H1) zm_192 [] (d + 6) (325, lv, [], H, (0, 0)) := by
  have W := zR_Wd (zR_dn h.1)
  obtain ⟨t0, w0⟩ := zx_top h
  refine zw_ld (n := 1) (k := 0) (f := zp_isR) (pc' := 326) rfl rfl l0 rfl rfl ?_
  by_cases hg : (H.2.1 72 23).toInt = 0
  · refine zw_c (pc' := 329) (zw_cv (q := 72) (Y := zm_175) W.1 rfl rfl zm_175_t rfl rfl) rfl rfl rfl rfl rfl (zq_good1 W hg) ?_
    obtain ⟨_, lvb, q, hlv, hV, hR, hN⟩ := hJ.resolve_right (fun h9 => yBad_g h9 hg)
    have hdl := hV.2.2.2.1
    refine zw_beq1 (g := 345) (pc' := 332) rfl rfl rfl (rfl : _ = (1 : Int)) (fun h9 => absurd h9 (by decide)) (fun hb => ?_)
    refine zw_ld (n := 1) (k := 0) (f := zp_isR) (pc' := 333) rfl rfl l0 rfl rfl ?_
    refine zw_gI (q := 72) (pc' := 336) W rfl rfl rfl rfl rfl rfl ?_
    refine zw_s (pc' := 337) rfl rfl ?_
    refine zw_ble2 (g := 345) (pc' := 340) rfl rfl rfl rfl (rfl : _ = (1 : Int)) (fun hd => ?_) (fun hd => ?_)
    · rw [if_neg (by omega)] at hN
      obtain ⟨_, p1, Q, rfl, p2, p3, p4, p5, p6⟩ := zx_drops (L := L) (σ := σ) (d := d + 3) (y := Int32.ofInt 0) h ha
      have WQ := zR_Wd (zR_dn p2.1)
      have q23 := zx_fe p3.1 23 rfl rfl rfl
      obtain ⟨u0, u1⟩ := zx_top p2
      have u2 := p2.2.1
      refine zw_ld (n := 1) (k := 0) (f := zp_isR) (pc' := 346) rfl rfl l0 rfl rfl ?_
      refine zw_s (pc' := 347) rfl rfl ?_
      refine zw_cn (pc' := 350) (zw_cv (q := 72) (Y := zm_199) W.1 rfl rfl zm_199_t rfl rfl) rfl rfl rfl rfl rfl (p1) ?_
      refine zw_ld (n := 1) (k := 0) (f := zp_isR) (pc' := 351) rfl rfl l0 rfl rfl ?_
      refine zw_s (pc' := 352) rfl rfl ?_
      refine zw_cn (pc' := 355) (zw_cv (q := 72) (Y := zm_198) WQ.1 rfl rfl zm_198_t rfl rfl) rfl rfl rfl rfl rfl (zq_puts WQ ⟨u0, by show _ < ((1600 : Nat) : Int); omega⟩) ?_
      refine zw_rn rfl rfl ?_
      refine ⟨zx_pt Q (Int32.ofInt 0), rfl, zx_pt_B p2.1 (by omega), zx_F_t (zx_F_t hF (zx_Fd_F p3)) (zx_pt_F (by omega)), ?_, ?_⟩
      · have e1 : ((zx_pt Q (Int32.ofInt 0)).2.1 72 45).toInt = (Q.2.1 72 45).toInt + 1 := zx_pt_t (by omega)
        omega
      · exact Or.inl ⟨by rw [zx_pt_f 23 rfl]; omega, lvb, q, yV_pt (yV_F hV p3.1 rfl ⟨fun k => rfl, fun k => rfl⟩ rfl), hR.1 _ (yA_done hN), fun a' W' O' k' => by
          obtain ⟨W2, O2, v1, v2⟩ := hR.2 a' W' O' k'
          have kd := xV_dr (l := 0) h (by decide) p1 v1
          exact ⟨O2 ++ (xDp 0 W2).1.map xAc, (xDp 0 W2).2, v2 _ (yTA_end hN), xVn_pt (by decide) (by omega) kd⟩⟩
    · refine zw_ld (n := 1) (k := 0) (f := zp_isR) (pc' := 341) rfl rfl l0 rfl rfl ?_
      refine zw_s (pc' := 342) rfl rfl ?_
      rw [if_pos (by omega)] at hN
      obtain ⟨K, c1, c2, c3, c4, c5, c6, c7⟩ := zx_wrong (L := L) (σ := σ) (d := d + 5) (y := Int32.ofInt 1) h (by decide)
      have WK := zR_Wd (zR_dn (c3 0 0).1)
      have hw := yx_wrong h.1 hg hV (by decide) c1
      refine zw_cn (pc' := 345) (zw_cv (q := 72) (Y := zm_180) W.1 rfl rfl zm_180_t rfl rfl) rfl rfl rfl rfl rfl (c1) ?_
      obtain ⟨_, p1, Q, rfl, p2, p3, p4, p5, p6⟩ := zx_drops (L := L) (σ := σ) (d := d + 3) (y := Int32.ofInt 0) (c3 1 0) (by omega)
      have WQ := zR_Wd (zR_dn p2.1)
      have q23 := zx_fe p3.1 23 rfl rfl rfl
      obtain ⟨u0, u1⟩ := zx_top p2
      have u2 := p2.2.1
      refine zw_ld (n := 1) (k := 0) (f := zp_isR) (pc' := 346) rfl rfl l0 rfl rfl ?_
      refine zw_s (pc' := 347) rfl rfl ?_
      refine zw_cn (pc' := 350) (zw_cv (q := 72) (Y := zm_199) WK.1 rfl rfl zm_199_t rfl rfl) rfl rfl rfl rfl rfl (p1) ?_
      refine zw_ld (n := 1) (k := 0) (f := zp_isR) (pc' := 351) rfl rfl l0 rfl rfl ?_
      refine zw_s (pc' := 352) rfl rfl ?_
      refine zw_cn (pc' := 355) (zw_cv (q := 72) (Y := zm_198) WQ.1 rfl rfl zm_198_t rfl rfl) rfl rfl rfl rfl rfl (zq_puts WQ ⟨u0, by show _ < ((1600 : Nat) : Int); omega⟩) ?_
      refine zw_rn rfl rfl ?_
      refine ⟨zx_pt Q (Int32.ofInt 0), rfl, zx_pt_B p2.1 (by omega), zx_F_t (zx_F_t (zx_F_t hF c4) (zx_Fd_F p3)) (zx_pt_F (by omega)), ?_, ?_⟩
      · have e1 : ((zx_pt Q (Int32.ofInt 0)).2.1 72 45).toInt = (Q.2.1 72 45).toInt + 1 := zx_pt_t (by omega)
        omega
      · obtain ⟨r, r1, r2⟩ := (show yBad T n s0 K from ⟨_, hw, hR.1 _ (yA_done hN)⟩)
        exact Or.inr ⟨r, yD_pt (yD_F r1 p3.1 rfl (fun k => rfl) rfl), r2⟩
  · refine zw_c (pc' := 329) (zw_cv (q := 72) (Y := zm_175) W.1 rfl rfl zm_175_t rfl rfl) rfl rfl rfl rfl rfl (zq_good0 W hg) ?_
    refine zw_beq1 (g := 345) (pc' := 332) rfl rfl rfl (rfl : _ = (0 : Int)) (fun hb => ?_) (fun h9 => absurd h9 (by decide))
    have hbd := hJ.resolve_left (fun h9 => hg h9.1)
    obtain ⟨_, p1, Q, rfl, p2, p3, p4, p5, p6⟩ := zx_drops (L := L) (σ := σ) (d := d + 3) (y := Int32.ofInt 0) h ha
    have WQ := zR_Wd (zR_dn p2.1)
    have q23 := zx_fe p3.1 23 rfl rfl rfl
    obtain ⟨u0, u1⟩ := zx_top p2
    have u2 := p2.2.1
    refine zw_ld (n := 1) (k := 0) (f := zp_isR) (pc' := 346) rfl rfl l0 rfl rfl ?_
    refine zw_s (pc' := 347) rfl rfl ?_
    refine zw_cn (pc' := 350) (zw_cv (q := 72) (Y := zm_199) W.1 rfl rfl zm_199_t rfl rfl) rfl rfl rfl rfl rfl (p1) ?_
    refine zw_ld (n := 1) (k := 0) (f := zp_isR) (pc' := 351) rfl rfl l0 rfl rfl ?_
    refine zw_s (pc' := 352) rfl rfl ?_
    refine zw_cn (pc' := 355) (zw_cv (q := 72) (Y := zm_198) WQ.1 rfl rfl zm_198_t rfl rfl) rfl rfl rfl rfl rfl (zq_puts WQ ⟨u0, by show _ < ((1600 : Nat) : Int); omega⟩) ?_
    refine zw_rn rfl rfl ?_
    refine ⟨zx_pt Q (Int32.ofInt 0), rfl, zx_pt_B p2.1 (by omega), zx_F_t (zx_F_t hF (zx_Fd_F p3)) (zx_pt_F (by omega)), ?_, ?_⟩
    · have e1 : ((zx_pt Q (Int32.ofInt 0)).2.1 72 45).toInt = (Q.2.1 72 45).toInt + 1 := zx_pt_t (by omega)
      omega
    · obtain ⟨r, r1, r2⟩ := hbd
      exact Or.inr ⟨r, yD_pt (yD_F r1 p3.1 rfl (fun k => rfl) rfl), r2⟩

set_option maxRecDepth 8000 in
set_option maxHeartbeats 4000000 in
theorem yx_ex297 {L : Nat} {σ : Nat → Int32} {d a : Nat} {T : Nat → Int} {n : Nat} {s0 : yM} {H0 Hq : zp_H} (hby : ∀ k, k < n → -128 ≤ T k ∧ T k ≤ 127) {H : zp_H} {lv : zp_LV} {x1 : Int32} {lvb : List Bool} {p : Nat} (hK : zx_KW L σ) (l0 : zp_get lv 0 = some (.inr (.inr (some 73)))) (l1 : zp_get lv 1 = some (.inl x1)) (hx1 : x1.toInt ≠ 0) (h : zx_S a 1 0 H) (hF : zx_F a H0 H) (ha : (a : Int) ≤ (H.2.1 72 45).toInt) (hp : zx_phi H0 ≤ zx_phi H) (hg : (H.2.1 72 23).toInt = 0) (hlv : lvb ≠ []) (hV : yV T n lvb p H) (hR : xRR T n s0 (0, lvb, p) Hq H) (n1 : ¬ (ys_kd T n p = 3 ∧ (ys_vl T n p = 9 ∨ ys_vl T n p = 8))) (n2 : ¬ (ys_kd T n p = 4 ∧ (ys_vl T n p = 60 ∨ ys_vl T n p = 61) ∧ lvb.head? = some false)) (n3 : ¬ (ys_kd T n p = 4 ∧ (ys_vl T n p = 43 ∨ ys_vl T n p = 45))) (n4 : ¬ (ys_kd T n p = 4 ∧ (ys_vl T n p = 42 ∨ ys_vl T n p = 47))) (bk : ∀ (R : zp_H) (lv1 : zp_LV) (x : Int32), zp_get lv1 0 = some (.inr (.inr (some 73))) → zp_get lv1 1 = some (.inl x) → zx_S a 1 0 R → zx_F a H0 R → (a : Int) ≤ (R.2.1 72 45).toInt → zx_phi H0 ≤ zx_phi R → (zx_phi H + 2 ≤ zx_phi R ∨ (x.toInt = 0 ∧ zx_phi H ≤ zx_phi R)) → ((x.toInt ≠ 0 ∧ yO T n s0 Hq R) ∨ (x.toInt = 0 ∧ yZ T n s0 Hq R)) → zs_Safe L σ (fun X : zp_X => ∃ H1, X = (.inl none, H1) ∧ zk_Bs zR zg zJ H1 ∧ zx_F a H0 H1 ∧ (a : Int) ≤ (H1.2.1 72 45).toInt ∧ yFin T n s0 Hq H1) zm_192 [] (d + 6) (29, lv1, [], R, (0, 0))) : zs_Safe L σ (fun X : zp_X => ∃ H1, X = (.inl none, H1) ∧ zk_Bs zR zg zJ H1 ∧ zx_F a H0 H1 ∧ (a : Int) ≤ (H1.2.1 72 45).toInt ∧ yFin T n s0 Hq H1) zm_192 [] (d + 6) (297, lv, [], H, (0, 0)) := by
  have W := zR_Wd (zR_dn h.1)
  have pH := zx_phi_le h.1
  have wb := h.2.2.1
  have hdp := zR_fr1 (zR_dn h.1) (k := 47) (r := (0, 6)) rfl rfl
  have hdp : 0 ≤ (H.2.1 72 47).toInt ∧ (H.2.1 72 47).toInt ≤ 6 := hdp
  refine zw_ld (n := 1) (k := 0) (f := zp_isR) (pc' := 298) rfl rfl l0 rfl rfl ?_
  refine zw_s (pc' := 300) rfl rfl ?_
  by_cases h41 : (H.2.1 72 28).toInt = 3 ∧ (H.2.1 72 32).toInt = (Int32.ofInt 41).toInt
  · refine zw_c (pc' := 303) (zw_cv (q := 72) (Y := zm_194) W.1 rfl rfl zm_194_t rfl rfl) rfl rfl rfl rfl rfl (zq_sign1 W h41) ?_
    refine zw_beq1 (g := 320) (pc' := 306) rfl rfl rfl (rfl : _ = (1 : Int)) (fun h9 => absurd h9 (by decide)) (fun hb => ?_)
    refine zw_ld (n := 1) (k := 0) (f := zp_isR) (pc' := 307) rfl rfl l0 rfl rfl ?_
    have k41 := (yr_sg hV.2.1 (c := 41)).mp h41
    have g3 := (h.2.2.2 hg).2.2.1
    have hdl := hV.2.2.2.1
    obtain ⟨_, i1, u, rfl, i2⟩ := yx_isOpened (L := L) (σ := σ) (d := d + 4) W ⟨(zx_top h).2, wb⟩
    rcases i2 with ⟨rfl, ii, i3, i4⟩ | ⟨rfl, i3⟩
    · refine zw_c (pc' := 310) (zw_cv (q := 72) (Y := zm_202) W.1 rfl rfl zm_202_t rfl rfl) rfl rfl rfl rfl rfl (i1) ?_
      refine zw_beq1 (g := 320) (pc' := 313) rfl rfl rfl (rfl : _ = (1 : Int)) (fun h9 => absurd h9 (by decide)) (fun hb => ?_)
      obtain ⟨b0, l0b, rfl⟩ : ∃ b0 l0b, lvb = b0 :: l0b := by
        match lvb, hlv with
        | b0 :: l0b, _ => exact ⟨b0, l0b, rfl⟩
      have hop := zr_opn_1 (w := H.2.1 91) (n := (H.2.1 72 46).toInt.toNat) (i := ii) i3 i4
      have hl1 : 1 < (b0 :: l0b).length := by omega
      have hN9 := yN_cl (lv := b0 :: l0b) k41.1 k41.2 hl1
      have hl0 : l0b ≠ [] := by
        match l0b, hl1 with
        | _ :: _, _ => exact List.cons_ne_nil _ _
      obtain ⟨_, c1, R, rfl, c2, c3, c4, c5, c6, c7⟩ := yx_closes (L := L) (σ := σ) (d := d + 2) hby h hg (by omega) hop hV
      refine zw_ld (n := 1) (k := 0) (f := zp_isR) (pc' := 314) rfl rfl l0 rfl rfl ?_
      refine zw_cn (pc' := 317) (zw_cv (q := 72) (Y := zm_203) W.1 rfl rfl zm_203_t rfl rfl) rfl rfl rfl rfl rfl (c1) ?_
      refine zw_s (pc' := 322) rfl rfl ?_
      refine zw_s (pc' := 29) rfl rfl ?_
      exact bk R _ _ l0 l1 c2 (zx_F_t hF c3) (zx_S_a c2 c4) (by omega) (Or.inl c5) (Or.inl ⟨hx1, Or.inl ⟨c4, l0b, _, hl0, c6, xRR_t hR (xRR_s hN9 (fun a' W' O' k' => by
        show xV a' (xWO T n 0 p W' O').1 (xWO T n 0 p W' O').2 R
        rw [xWO_cl k41.1 k41.2]
        exact c7 a' W' O' k'))⟩⟩)
    · have ho0 := yr_opn_0 i3
      refine zw_c (pc' := 310) (zw_cv (q := 72) (Y := zm_202) W.1 rfl rfl zm_202_t rfl rfl) rfl rfl rfl rfl rfl (i1) ?_
      refine zw_beq1 (g := 320) (pc' := 313) rfl rfl rfl (rfl : _ = (0 : Int)) (fun hb => ?_) (fun h9 => absurd h9 (by decide))
      refine zw_s (pc' := 321) rfl rfl ?_
      refine zw_st (n := 1) (k := 1) (f := zp_isI) (pc' := 322) rfl rfl rfl rfl rfl ?_
      refine zw_s (pc' := 29) rfl rfl ?_
      exact bk H _ _ (zw_gt l0 rfl rfl) zw_g1 h hF ha hp (Or.inr ⟨rfl, Int.le_refl _⟩) (Or.inr ⟨rfl, Or.inl ⟨hg, lvb, p, hlv, hV, hR, yN_en ⟨n1, n3, n4⟩ n2 (fun h9 => by have := h9.2.2; omega)⟩⟩)
  · refine zw_c (pc' := 303) (zw_cv (q := 72) (Y := zm_194) W.1 rfl rfl zm_194_t rfl rfl) rfl rfl rfl rfl rfl (zq_sign0 W h41) ?_
    refine zw_beq1 (g := 320) (pc' := 306) rfl rfl rfl (rfl : _ = (0 : Int)) (fun hb => ?_) (fun h9 => absurd h9 (by decide))
    refine zw_s (pc' := 321) rfl rfl ?_
    refine zw_st (n := 1) (k := 1) (f := zp_isI) (pc' := 322) rfl rfl rfl rfl rfl ?_
    refine zw_s (pc' := 29) rfl rfl ?_
    exact bk H _ _ (zw_gt l0 rfl rfl) zw_g1 h hF ha hp (Or.inr ⟨rfl, Int.le_refl _⟩) (Or.inr ⟨rfl, Or.inl ⟨hg, lvb, p, hlv, hV, hR, yN_en ⟨n1, n3, n4⟩ n2 (fun h9 => h41 ((yr_sg hV.2.1 (c := 41)).mpr ⟨h9.1, h9.2.1⟩))⟩⟩)

set_option maxRecDepth 8000 in
set_option maxHeartbeats 4000000 in
theorem yx_ex241d {L : Nat} {σ : Nat → Int32} {d a : Nat} {T : Nat → Int} {n : Nat} {s0 : yM} {H0 Hq : zp_H} (hby : ∀ k, k < n → -128 ≤ T k ∧ T k ≤ 127) {H : zp_H} {lv : zp_LV} {x1 : Int32} {lvb : List Bool} {p : Nat} (hK : zx_KW L σ) (l0 : zp_get lv 0 = some (.inr (.inr (some 73)))) (l1 : zp_get lv 1 = some (.inl x1)) (hx1 : x1.toInt ≠ 0) (hs : (H.2.1 72 28).toInt = 3) (hs2 : ys_kd T n p = 4 ∧ (ys_vl T n p = 42 ∨ ys_vl T n p = 47)) (h : zx_S a 1 0 H) (hF : zx_F a H0 H) (ha : (a : Int) ≤ (H.2.1 72 45).toInt) (hp : zx_phi H0 ≤ zx_phi H) (hg : (H.2.1 72 23).toInt = 0) (hlv : lvb ≠ []) (hV : yV T n lvb p H) (hR : xRR T n s0 (0, lvb, p) Hq H) (n1 : ¬ (ys_kd T n p = 3 ∧ (ys_vl T n p = 9 ∨ ys_vl T n p = 8))) (n2 : ¬ (ys_kd T n p = 4 ∧ (ys_vl T n p = 60 ∨ ys_vl T n p = 61) ∧ lvb.head? = some false)) (n3 : ¬ (ys_kd T n p = 4 ∧ (ys_vl T n p = 43 ∨ ys_vl T n p = 45))) (bk : ∀ (R : zp_H) (lv1 : zp_LV) (x : Int32), zp_get lv1 0 = some (.inr (.inr (some 73))) → zp_get lv1 1 = some (.inl x) → zx_S a 1 0 R → zx_F a H0 R → (a : Int) ≤ (R.2.1 72 45).toInt → zx_phi H0 ≤ zx_phi R → (zx_phi H + 2 ≤ zx_phi R ∨ (x.toInt = 0 ∧ zx_phi H ≤ zx_phi R)) → ((x.toInt ≠ 0 ∧ yO T n s0 Hq R) ∨ (x.toInt = 0 ∧ yZ T n s0 Hq R)) → zs_Safe L σ (fun X : zp_X => ∃ H1, X = (.inl none, H1) ∧ zk_Bs zR zg zJ H1 ∧ zx_F a H0 H1 ∧ (a : Int) ≤ (H1.2.1 72 45).toInt ∧ yFin T n s0 Hq H1) zm_192 [] (d + 6) (29, lv1, [], R, (0, 0))) : zs_Safe L σ (fun X : zp_X => ∃ H1, X = (.inl none, H1) ∧ zk_Bs zR zg zJ H1 ∧ zx_F a H0 H1 ∧ (a : Int) ≤ (H1.2.1 72 45).toInt ∧ yFin T n s0 Hq H1) zm_192 [] (d + 6) (259, lv, [], H, (0, 0)) := by
  have W := zR_Wd (zR_dn h.1)
  have pH := zx_phi_le h.1
  have wb := h.2.2.1
  have hdp := zR_fr1 (zR_dn h.1) (k := 47) (r := (0, 6)) rfl rfl
  have hdp : 0 ≤ (H.2.1 72 47).toInt ∧ (H.2.1 72 47).toInt ≤ 6 := hdp
  refine zw_ld (n := 1) (k := 0) (f := zp_isR) (pc' := 260) rfl rfl l0 rfl rfl ?_
  refine zw_s (pc' := 262) rfl rfl ?_
  obtain ⟨_, p1, Q, rfl, p2, p3, p4, p5, p6⟩ := zx_drops (L := L) (σ := σ) (d := d + 3) (y := Int32.ofInt 6) h ha
  have WQ := zR_Wd (zR_dn p2.1)
  have q23 := zx_fe p3.1 23 rfl rfl rfl
  have q28 := zx_fe p3.1 28 rfl rfl rfl
  have q47 := zx_fe p3.1 47 rfl rfl rfl
  have hphQ := zx_phi_i (zx_fe p3.1 27 rfl rfl rfl) q28
  obtain ⟨u0, u1⟩ := zx_top p2
  have u2 := p2.2.2.1
  have hVQ : yV T n lvb p Q := yV_F hV p3.1 rfl ⟨fun k => rfl, fun k => rfl⟩ rfl
  refine zw_cn (pc' := 265) (zw_cv (q := 72) (Y := zm_199) W.1 rfl rfl zm_199_t rfl rfl) rfl rfl rfl rfl rfl (p1) ?_
  refine zw_ld (n := 1) (k := 0) (f := zp_isR) (pc' := 266) rfl rfl l0 rfl rfl ?_
  refine zw_ld (n := 1) (k := 0) (f := zp_isR) (pc' := 267) rfl rfl l0 rfl rfl ?_
  refine zw_s (pc' := 269) rfl rfl ?_
  by_cases hch : (Q.2.1 72 28).toInt = 3 ∧ (Q.2.1 72 32).toInt = (Int32.ofInt 42).toInt
  · refine zw_c (pc' := 272) (zw_cv (q := 72) (Y := zm_194) WQ.1 rfl rfl zm_194_t rfl rfl) rfl rfl rfl rfl rfl (zq_sign1 WQ hch) ?_
    refine zw_beq1 (g := 280) (pc' := 275) rfl rfl rfl (rfl : _ = (1 : Int)) (fun h9 => absurd h9 (by decide)) (fun hb => ?_)
    refine zw_s (pc' := 277) rfl rfl ?_
    refine zw_s (pc' := 282) rfl rfl ?_
    obtain ⟨m1, m2, m3, m4⟩ := zx_wait (y := Int32.ofInt 10) p2 (by omega) (by omega) (by decide)
    have hT := m4 0 0 rfl rfl
    have f45 : (zx_wt Q (Int32.ofInt 10)).2.1 72 45 = Q.2.1 72 45 := zx_wt_f 45 rfl
    have hVw : yV T n lvb p (zx_wt Q (Int32.ofInt 10)) := yV_wt hVQ
    refine zw_cn (pc' := 285) (zw_cv (q := 72) (Y := zm_196) WQ.1 rfl rfl zm_196_t rfl rfl) rfl rfl rfl rfl rfl (zq_waits WQ ⟨u1, by show _ < ((800 : Nat) : Int); omega⟩) ?_
    have hN9 := yN_md (lv := lvb) hs2.1 hs2.2
    have hlv9 := hlv
    refine zw_ld (n := 1) (k := 0) (f := zp_isR) (pc' := 286) rfl rfl l0 rfl rfl ?_
    obtain ⟨K, c1, c2, c3, c4, c5, c6⟩ := zx_T_goes (L := L) (σ := σ) (d := d + 4) hT
    have hgo := (yx_goes hby hT.1 hVw c1).1
    have WK := zR_Wd (zR_dn c2.1)
    have aK : (a : Int) ≤ (K.2.1 72 45).toInt := zx_S_a c2 c4
    refine zw_cn (pc' := 289) (zw_cv (q := 72) (Y := zm_171) WQ.1 rfl rfl zm_171_t rfl rfl) rfl rfl rfl rfl rfl (c1) ?_
    obtain ⟨_, d1, R, rfl, d2, d3, d4, d5, d6, d7⟩ := yx_operand (L := L) (σ := σ) (d := d) (y := Int32.ofInt 0) hby hK c2 aK c4 hgo hlv9
    rw [if_pos (by decide)] at d7
    refine zw_ld (n := 1) (k := 0) (f := zp_isR) (pc' := 290) rfl rfl l0 rfl rfl ?_
    refine zw_s (pc' := 291) rfl rfl ?_
    refine zw_cn (pc' := 294) (zw_cv (q := 72) (Y := zm_195) WK.1 rfl rfl zm_195_t rfl rfl) rfl rfl rfl rfl rfl (d1) ?_
    refine zw_s (pc' := 322) rfl rfl ?_
    refine zw_s (pc' := 29) rfl rfl ?_
    exact bk R _ _ l0 l1 d2 (zx_F_t (zx_F_t (zx_F_t (zx_F_t hF (zx_Fd_F p3)) m1) c3) d3) d5 (by omega) (Or.inl (by omega)) (Or.inl ⟨hx1, yO_R (xRR_t hR (xRR_op (l := 6) (act := 10) (z := Int32.ofInt 10) h (by decide) p1 (by decide) (by decide) (by have := p2.2.2.1; omega) (fun _ _ _ k9 => k9) hT.1 c1 hN9 (fun W9 O9 => xWO_ti ((yr_sg hVQ.2.1 (c := 42)).mp hch).1 ((yr_sg hVQ.2.1 (c := 42)).mp hch).2))) d7⟩)
  · refine zw_c (pc' := 272) (zw_cv (q := 72) (Y := zm_194) WQ.1 rfl rfl zm_194_t rfl rfl) rfl rfl rfl rfl rfl (zq_sign0 WQ hch) ?_
    refine zw_beq1 (g := 280) (pc' := 275) rfl rfl rfl (rfl : _ = (0 : Int)) (fun hb => ?_) (fun h9 => absurd h9 (by decide))
    refine zw_s (pc' := 282) rfl rfl ?_
    obtain ⟨m1, m2, m3, m4⟩ := zx_wait (y := Int32.ofInt 11) p2 (by omega) (by omega) (by decide)
    have hT := m4 0 0 rfl rfl
    have f45 : (zx_wt Q (Int32.ofInt 11)).2.1 72 45 = Q.2.1 72 45 := zx_wt_f 45 rfl
    have hVw : yV T n lvb p (zx_wt Q (Int32.ofInt 11)) := yV_wt hVQ
    refine zw_cn (pc' := 285) (zw_cv (q := 72) (Y := zm_196) WQ.1 rfl rfl zm_196_t rfl rfl) rfl rfl rfl rfl rfl (zq_waits WQ ⟨u1, by show _ < ((800 : Nat) : Int); omega⟩) ?_
    have hN9 := yN_md (lv := lvb) hs2.1 hs2.2
    have hlv9 := hlv
    refine zw_ld (n := 1) (k := 0) (f := zp_isR) (pc' := 286) rfl rfl l0 rfl rfl ?_
    obtain ⟨K, c1, c2, c3, c4, c5, c6⟩ := zx_T_goes (L := L) (σ := σ) (d := d + 4) hT
    have hgo := (yx_goes hby hT.1 hVw c1).1
    have WK := zR_Wd (zR_dn c2.1)
    have aK : (a : Int) ≤ (K.2.1 72 45).toInt := zx_S_a c2 c4
    refine zw_cn (pc' := 289) (zw_cv (q := 72) (Y := zm_171) WQ.1 rfl rfl zm_171_t rfl rfl) rfl rfl rfl rfl rfl (c1) ?_
    obtain ⟨_, d1, R, rfl, d2, d3, d4, d5, d6, d7⟩ := yx_operand (L := L) (σ := σ) (d := d) (y := Int32.ofInt 0) hby hK c2 aK c4 hgo hlv9
    rw [if_pos (by decide)] at d7
    refine zw_ld (n := 1) (k := 0) (f := zp_isR) (pc' := 290) rfl rfl l0 rfl rfl ?_
    refine zw_s (pc' := 291) rfl rfl ?_
    refine zw_cn (pc' := 294) (zw_cv (q := 72) (Y := zm_195) WK.1 rfl rfl zm_195_t rfl rfl) rfl rfl rfl rfl rfl (d1) ?_
    refine zw_s (pc' := 322) rfl rfl ?_
    refine zw_s (pc' := 29) rfl rfl ?_
    exact bk R _ _ l0 l1 d2 (zx_F_t (zx_F_t (zx_F_t (zx_F_t hF (zx_Fd_F p3)) m1) c3) d3) d5 (by omega) (Or.inl (by omega)) (Or.inl ⟨hx1, yO_R (xRR_t hR (xRR_op (l := 6) (act := 11) (z := Int32.ofInt 11) h (by decide) p1 (by decide) (by decide) (by have := p2.2.2.1; omega) (fun _ _ _ k9 => k9) hT.1 c1 hN9 (fun W9 O9 => xWO_di hs2.1 (by rcases hs2.2 with h7 | h7; exact absurd ((yr_sg hVQ.2.1 (c := 42)).mpr ⟨hs2.1, h7⟩) hch; exact h7)))) d7⟩)

set_option maxRecDepth 8000 in
set_option maxHeartbeats 4000000 in
theorem yx_ex241 {L : Nat} {σ : Nat → Int32} {d a : Nat} {T : Nat → Int} {n : Nat} {s0 : yM} {H0 Hq : zp_H} (hby : ∀ k, k < n → -128 ≤ T k ∧ T k ≤ 127) {H : zp_H} {lv : zp_LV} {x1 : Int32} {lvb : List Bool} {p : Nat} (hK : zx_KW L σ) (l0 : zp_get lv 0 = some (.inr (.inr (some 73)))) (l1 : zp_get lv 1 = some (.inl x1)) (hx1 : x1.toInt ≠ 0) (h : zx_S a 1 0 H) (hF : zx_F a H0 H) (ha : (a : Int) ≤ (H.2.1 72 45).toInt) (hp : zx_phi H0 ≤ zx_phi H) (hg : (H.2.1 72 23).toInt = 0) (hlv : lvb ≠ []) (hV : yV T n lvb p H) (hR : xRR T n s0 (0, lvb, p) Hq H) (n1 : ¬ (ys_kd T n p = 3 ∧ (ys_vl T n p = 9 ∨ ys_vl T n p = 8))) (n2 : ¬ (ys_kd T n p = 4 ∧ (ys_vl T n p = 60 ∨ ys_vl T n p = 61) ∧ lvb.head? = some false)) (n3 : ¬ (ys_kd T n p = 4 ∧ (ys_vl T n p = 43 ∨ ys_vl T n p = 45))) (bk : ∀ (R : zp_H) (lv1 : zp_LV) (x : Int32), zp_get lv1 0 = some (.inr (.inr (some 73))) → zp_get lv1 1 = some (.inl x) → zx_S a 1 0 R → zx_F a H0 R → (a : Int) ≤ (R.2.1 72 45).toInt → zx_phi H0 ≤ zx_phi R → (zx_phi H + 2 ≤ zx_phi R ∨ (x.toInt = 0 ∧ zx_phi H ≤ zx_phi R)) → ((x.toInt ≠ 0 ∧ yO T n s0 Hq R) ∨ (x.toInt = 0 ∧ yZ T n s0 Hq R)) → zs_Safe L σ (fun X : zp_X => ∃ H1, X = (.inl none, H1) ∧ zk_Bs zR zg zJ H1 ∧ zx_F a H0 H1 ∧ (a : Int) ≤ (H1.2.1 72 45).toInt ∧ yFin T n s0 Hq H1) zm_192 [] (d + 6) (29, lv1, [], R, (0, 0))) : zs_Safe L σ (fun X : zp_X => ∃ H1, X = (.inl none, H1) ∧ zk_Bs zR zg zJ H1 ∧ zx_F a H0 H1 ∧ (a : Int) ≤ (H1.2.1 72 45).toInt ∧ yFin T n s0 Hq H1) zm_192 [] (d + 6) (241, lv, [], H, (0, 0)) := by
  have W := zR_Wd (zR_dn h.1)
  have pH := zx_phi_le h.1
  have wb := h.2.2.1
  have hdp := zR_fr1 (zR_dn h.1) (k := 47) (r := (0, 6)) rfl rfl
  have hdp : 0 ≤ (H.2.1 72 47).toInt ∧ (H.2.1 72 47).toInt ≤ 6 := hdp
  refine zw_ld (n := 1) (k := 0) (f := zp_isR) (pc' := 242) rfl rfl l0 rfl rfl ?_
  refine zw_s (pc' := 244) rfl rfl ?_
  by_cases ha1 : (H.2.1 72 28).toInt = 3 ∧ (H.2.1 72 32).toInt = (Int32.ofInt 42).toInt
  · refine zw_c (pc' := 247) (zw_cv (q := 72) (Y := zm_194) W.1 rfl rfl zm_194_t rfl rfl) rfl rfl rfl rfl rfl (zq_sign1 W ha1) ?_
    have q1 := (yr_sg hV.2.1 (c := 42)).mp ha1
    refine zw_bne1 (g := 259) (pc' := 250) rfl rfl rfl (rfl : _ = (1 : Int)) (fun hb => ?_) (fun h9 => absurd h9 (by decide))
    exact yx_ex241d hby hK l0 l1 hx1 ha1.1 ⟨q1.1, Or.inl q1.2⟩ h hF ha hp hg hlv hV hR n1 n2 n3 bk
  · refine zw_c (pc' := 247) (zw_cv (q := 72) (Y := zm_194) W.1 rfl rfl zm_194_t rfl rfl) rfl rfl rfl rfl rfl (zq_sign0 W ha1) ?_
    refine zw_bne1 (g := 259) (pc' := 250) rfl rfl rfl (rfl : _ = (0 : Int)) (fun h9 => absurd h9 (by decide)) (fun hb => ?_)
    refine zw_ld (n := 1) (k := 0) (f := zp_isR) (pc' := 251) rfl rfl l0 rfl rfl ?_
    refine zw_s (pc' := 253) rfl rfl ?_
    by_cases ha2 : (H.2.1 72 28).toInt = 3 ∧ (H.2.1 72 32).toInt = (Int32.ofInt 47).toInt
    · refine zw_c (pc' := 256) (zw_cv (q := 72) (Y := zm_194) W.1 rfl rfl zm_194_t rfl rfl) rfl rfl rfl rfl rfl (zq_sign1 W ha2) ?_
      have q1 := (yr_sg hV.2.1 (c := 47)).mp ha2
      refine zw_beq1 (g := 297) (pc' := 259) rfl rfl rfl (rfl : _ = (1 : Int)) (fun h9 => absurd h9 (by decide)) (fun hb => ?_)
      exact yx_ex241d hby hK l0 l1 hx1 ha2.1 ⟨q1.1, Or.inr q1.2⟩ h hF ha hp hg hlv hV hR n1 n2 n3 bk
    · refine zw_c (pc' := 256) (zw_cv (q := 72) (Y := zm_194) W.1 rfl rfl zm_194_t rfl rfl) rfl rfl rfl rfl rfl (zq_sign0 W ha2) ?_
      have n4 : ¬ (ys_kd T n p = 4 ∧ (ys_vl T n p = 42 ∨ ys_vl T n p = 47)) := by
        rintro ⟨h8, h9 | h9⟩
        · exact ha1 ((yr_sg hV.2.1 (c := 42)).mpr ⟨h8, h9⟩)
        · exact ha2 ((yr_sg hV.2.1 (c := 47)).mpr ⟨h8, h9⟩)
      refine zw_beq1 (g := 297) (pc' := 259) rfl rfl rfl (rfl : _ = (0 : Int)) (fun hb => ?_) (fun h9 => absurd h9 (by decide))
      exact yx_ex297 hby hK l0 l1 hx1 h hF ha hp hg hlv hV hR n1 n2 n3 n4  bk

set_option maxRecDepth 8000 in
set_option maxHeartbeats 4000000 in
theorem yx_ex186d {L : Nat} {σ : Nat → Int32} {d a : Nat} {T : Nat → Int} {n : Nat} {s0 : yM} {H0 Hq : zp_H} (hby : ∀ k, k < n → -128 ≤ T k ∧ T k ≤ 127) {H : zp_H} {lv : zp_LV} {x1 : Int32} {lvb : List Bool} {p : Nat} (hK : zx_KW L σ) (l0 : zp_get lv 0 = some (.inr (.inr (some 73)))) (l1 : zp_get lv 1 = some (.inl x1)) (hx1 : x1.toInt ≠ 0) (hs : (H.2.1 72 28).toInt = 3) (hs2 : ys_kd T n p = 4 ∧ (ys_vl T n p = 43 ∨ ys_vl T n p = 45)) (h : zx_S a 1 0 H) (hF : zx_F a H0 H) (ha : (a : Int) ≤ (H.2.1 72 45).toInt) (hp : zx_phi H0 ≤ zx_phi H) (hg : (H.2.1 72 23).toInt = 0) (hlv : lvb ≠ []) (hV : yV T n lvb p H) (hR : xRR T n s0 (0, lvb, p) Hq H) (n1 : ¬ (ys_kd T n p = 3 ∧ (ys_vl T n p = 9 ∨ ys_vl T n p = 8))) (n2 : ¬ (ys_kd T n p = 4 ∧ (ys_vl T n p = 60 ∨ ys_vl T n p = 61) ∧ lvb.head? = some false)) (bk : ∀ (R : zp_H) (lv1 : zp_LV) (x : Int32), zp_get lv1 0 = some (.inr (.inr (some 73))) → zp_get lv1 1 = some (.inl x) → zx_S a 1 0 R → zx_F a H0 R → (a : Int) ≤ (R.2.1 72 45).toInt → zx_phi H0 ≤ zx_phi R → (zx_phi H + 2 ≤ zx_phi R ∨ (x.toInt = 0 ∧ zx_phi H ≤ zx_phi R)) → ((x.toInt ≠ 0 ∧ yO T n s0 Hq R) ∨ (x.toInt = 0 ∧ yZ T n s0 Hq R)) → zs_Safe L σ (fun X : zp_X => ∃ H1, X = (.inl none, H1) ∧ zk_Bs zR zg zJ H1 ∧ zx_F a H0 H1 ∧ (a : Int) ≤ (H1.2.1 72 45).toInt ∧ yFin T n s0 Hq H1) zm_192 [] (d + 6) (29, lv1, [], R, (0, 0))) : zs_Safe L σ (fun X : zp_X => ∃ H1, X = (.inl none, H1) ∧ zk_Bs zR zg zJ H1 ∧ zx_F a H0 H1 ∧ (a : Int) ≤ (H1.2.1 72 45).toInt ∧ yFin T n s0 Hq H1) zm_192 [] (d + 6) (204, lv, [], H, (0, 0)) := by
  have W := zR_Wd (zR_dn h.1)
  have pH := zx_phi_le h.1
  have wb := h.2.2.1
  have hdp := zR_fr1 (zR_dn h.1) (k := 47) (r := (0, 6)) rfl rfl
  have hdp : 0 ≤ (H.2.1 72 47).toInt ∧ (H.2.1 72 47).toInt ≤ 6 := hdp
  refine zw_ld (n := 1) (k := 0) (f := zp_isR) (pc' := 205) rfl rfl l0 rfl rfl ?_
  refine zw_s (pc' := 206) rfl rfl ?_
  obtain ⟨_, p1, Q, rfl, p2, p3, p4, p5, p6⟩ := zx_drops (L := L) (σ := σ) (d := d + 3) (y := Int32.ofInt 5) h ha
  have WQ := zR_Wd (zR_dn p2.1)
  have q23 := zx_fe p3.1 23 rfl rfl rfl
  have q28 := zx_fe p3.1 28 rfl rfl rfl
  have q47 := zx_fe p3.1 47 rfl rfl rfl
  have hphQ := zx_phi_i (zx_fe p3.1 27 rfl rfl rfl) q28
  obtain ⟨u0, u1⟩ := zx_top p2
  have u2 := p2.2.2.1
  have hVQ : yV T n lvb p Q := yV_F hV p3.1 rfl ⟨fun k => rfl, fun k => rfl⟩ rfl
  refine zw_cn (pc' := 209) (zw_cv (q := 72) (Y := zm_199) W.1 rfl rfl zm_199_t rfl rfl) rfl rfl rfl rfl rfl (p1) ?_
  refine zw_ld (n := 1) (k := 0) (f := zp_isR) (pc' := 210) rfl rfl l0 rfl rfl ?_
  refine zw_ld (n := 1) (k := 0) (f := zp_isR) (pc' := 211) rfl rfl l0 rfl rfl ?_
  refine zw_s (pc' := 213) rfl rfl ?_
  by_cases hch : (Q.2.1 72 28).toInt = 3 ∧ (Q.2.1 72 32).toInt = (Int32.ofInt 43).toInt
  · refine zw_c (pc' := 216) (zw_cv (q := 72) (Y := zm_194) WQ.1 rfl rfl zm_194_t rfl rfl) rfl rfl rfl rfl rfl (zq_sign1 WQ hch) ?_
    refine zw_beq1 (g := 224) (pc' := 219) rfl rfl rfl (rfl : _ = (1 : Int)) (fun h9 => absurd h9 (by decide)) (fun hb => ?_)
    refine zw_s (pc' := 221) rfl rfl ?_
    refine zw_s (pc' := 226) rfl rfl ?_
    obtain ⟨m1, m2, m3, m4⟩ := zx_wait (y := Int32.ofInt 8) p2 (by omega) (by omega) (by decide)
    have hT := m4 0 0 rfl rfl
    have f45 : (zx_wt Q (Int32.ofInt 8)).2.1 72 45 = Q.2.1 72 45 := zx_wt_f 45 rfl
    have hVw : yV T n lvb p (zx_wt Q (Int32.ofInt 8)) := yV_wt hVQ
    refine zw_cn (pc' := 229) (zw_cv (q := 72) (Y := zm_196) WQ.1 rfl rfl zm_196_t rfl rfl) rfl rfl rfl rfl rfl (zq_waits WQ ⟨u1, by show _ < ((800 : Nat) : Int); omega⟩) ?_
    have hN9 := yN_pm (lv := lvb) hs2.1 hs2.2
    have hlv9 := hlv
    refine zw_ld (n := 1) (k := 0) (f := zp_isR) (pc' := 230) rfl rfl l0 rfl rfl ?_
    obtain ⟨K, c1, c2, c3, c4, c5, c6⟩ := zx_T_goes (L := L) (σ := σ) (d := d + 4) hT
    have hgo := (yx_goes hby hT.1 hVw c1).1
    have WK := zR_Wd (zR_dn c2.1)
    have aK : (a : Int) ≤ (K.2.1 72 45).toInt := zx_S_a c2 c4
    refine zw_cn (pc' := 233) (zw_cv (q := 72) (Y := zm_171) WQ.1 rfl rfl zm_171_t rfl rfl) rfl rfl rfl rfl rfl (c1) ?_
    obtain ⟨_, d1, R, rfl, d2, d3, d4, d5, d6, d7⟩ := yx_operand (L := L) (σ := σ) (d := d) (y := Int32.ofInt 0) hby hK c2 aK c4 hgo hlv9
    rw [if_pos (by decide)] at d7
    refine zw_ld (n := 1) (k := 0) (f := zp_isR) (pc' := 234) rfl rfl l0 rfl rfl ?_
    refine zw_s (pc' := 235) rfl rfl ?_
    refine zw_cn (pc' := 238) (zw_cv (q := 72) (Y := zm_195) WK.1 rfl rfl zm_195_t rfl rfl) rfl rfl rfl rfl rfl (d1) ?_
    refine zw_s (pc' := 322) rfl rfl ?_
    refine zw_s (pc' := 29) rfl rfl ?_
    exact bk R _ _ l0 l1 d2 (zx_F_t (zx_F_t (zx_F_t (zx_F_t hF (zx_Fd_F p3)) m1) c3) d3) d5 (by omega) (Or.inl (by omega)) (Or.inl ⟨hx1, yO_R (xRR_t hR (xRR_op (l := 5) (act := 8) (z := Int32.ofInt 8) h (by decide) p1 (by decide) (by decide) (by have := p2.2.2.1; omega) (fun _ _ _ k9 => k9) hT.1 c1 hN9 (fun W9 O9 => xWO_pl ((yr_sg hVQ.2.1 (c := 43)).mp hch).1 ((yr_sg hVQ.2.1 (c := 43)).mp hch).2))) d7⟩)
  · refine zw_c (pc' := 216) (zw_cv (q := 72) (Y := zm_194) WQ.1 rfl rfl zm_194_t rfl rfl) rfl rfl rfl rfl rfl (zq_sign0 WQ hch) ?_
    refine zw_beq1 (g := 224) (pc' := 219) rfl rfl rfl (rfl : _ = (0 : Int)) (fun hb => ?_) (fun h9 => absurd h9 (by decide))
    refine zw_s (pc' := 226) rfl rfl ?_
    obtain ⟨m1, m2, m3, m4⟩ := zx_wait (y := Int32.ofInt 9) p2 (by omega) (by omega) (by decide)
    have hT := m4 0 0 rfl rfl
    have f45 : (zx_wt Q (Int32.ofInt 9)).2.1 72 45 = Q.2.1 72 45 := zx_wt_f 45 rfl
    have hVw : yV T n lvb p (zx_wt Q (Int32.ofInt 9)) := yV_wt hVQ
    refine zw_cn (pc' := 229) (zw_cv (q := 72) (Y := zm_196) WQ.1 rfl rfl zm_196_t rfl rfl) rfl rfl rfl rfl rfl (zq_waits WQ ⟨u1, by show _ < ((800 : Nat) : Int); omega⟩) ?_
    have hN9 := yN_pm (lv := lvb) hs2.1 hs2.2
    have hlv9 := hlv
    refine zw_ld (n := 1) (k := 0) (f := zp_isR) (pc' := 230) rfl rfl l0 rfl rfl ?_
    obtain ⟨K, c1, c2, c3, c4, c5, c6⟩ := zx_T_goes (L := L) (σ := σ) (d := d + 4) hT
    have hgo := (yx_goes hby hT.1 hVw c1).1
    have WK := zR_Wd (zR_dn c2.1)
    have aK : (a : Int) ≤ (K.2.1 72 45).toInt := zx_S_a c2 c4
    refine zw_cn (pc' := 233) (zw_cv (q := 72) (Y := zm_171) WQ.1 rfl rfl zm_171_t rfl rfl) rfl rfl rfl rfl rfl (c1) ?_
    obtain ⟨_, d1, R, rfl, d2, d3, d4, d5, d6, d7⟩ := yx_operand (L := L) (σ := σ) (d := d) (y := Int32.ofInt 0) hby hK c2 aK c4 hgo hlv9
    rw [if_pos (by decide)] at d7
    refine zw_ld (n := 1) (k := 0) (f := zp_isR) (pc' := 234) rfl rfl l0 rfl rfl ?_
    refine zw_s (pc' := 235) rfl rfl ?_
    refine zw_cn (pc' := 238) (zw_cv (q := 72) (Y := zm_195) WK.1 rfl rfl zm_195_t rfl rfl) rfl rfl rfl rfl rfl (d1) ?_
    refine zw_s (pc' := 322) rfl rfl ?_
    refine zw_s (pc' := 29) rfl rfl ?_
    exact bk R _ _ l0 l1 d2 (zx_F_t (zx_F_t (zx_F_t (zx_F_t hF (zx_Fd_F p3)) m1) c3) d3) d5 (by omega) (Or.inl (by omega)) (Or.inl ⟨hx1, yO_R (xRR_t hR (xRR_op (l := 5) (act := 9) (z := Int32.ofInt 9) h (by decide) p1 (by decide) (by decide) (by have := p2.2.2.1; omega) (fun _ _ _ k9 => k9) hT.1 c1 hN9 (fun W9 O9 => xWO_mi hs2.1 (by rcases hs2.2 with h7 | h7; exact absurd ((yr_sg hVQ.2.1 (c := 43)).mpr ⟨hs2.1, h7⟩) hch; exact h7)))) d7⟩)

set_option maxRecDepth 8000 in
set_option maxHeartbeats 4000000 in
theorem yx_ex186 {L : Nat} {σ : Nat → Int32} {d a : Nat} {T : Nat → Int} {n : Nat} {s0 : yM} {H0 Hq : zp_H} (hby : ∀ k, k < n → -128 ≤ T k ∧ T k ≤ 127) {H : zp_H} {lv : zp_LV} {x1 : Int32} {lvb : List Bool} {p : Nat} (hK : zx_KW L σ) (l0 : zp_get lv 0 = some (.inr (.inr (some 73)))) (l1 : zp_get lv 1 = some (.inl x1)) (hx1 : x1.toInt ≠ 0) (h : zx_S a 1 0 H) (hF : zx_F a H0 H) (ha : (a : Int) ≤ (H.2.1 72 45).toInt) (hp : zx_phi H0 ≤ zx_phi H) (hg : (H.2.1 72 23).toInt = 0) (hlv : lvb ≠ []) (hV : yV T n lvb p H) (hR : xRR T n s0 (0, lvb, p) Hq H) (n1 : ¬ (ys_kd T n p = 3 ∧ (ys_vl T n p = 9 ∨ ys_vl T n p = 8))) (n2 : ¬ (ys_kd T n p = 4 ∧ (ys_vl T n p = 60 ∨ ys_vl T n p = 61) ∧ lvb.head? = some false)) (bk : ∀ (R : zp_H) (lv1 : zp_LV) (x : Int32), zp_get lv1 0 = some (.inr (.inr (some 73))) → zp_get lv1 1 = some (.inl x) → zx_S a 1 0 R → zx_F a H0 R → (a : Int) ≤ (R.2.1 72 45).toInt → zx_phi H0 ≤ zx_phi R → (zx_phi H + 2 ≤ zx_phi R ∨ (x.toInt = 0 ∧ zx_phi H ≤ zx_phi R)) → ((x.toInt ≠ 0 ∧ yO T n s0 Hq R) ∨ (x.toInt = 0 ∧ yZ T n s0 Hq R)) → zs_Safe L σ (fun X : zp_X => ∃ H1, X = (.inl none, H1) ∧ zk_Bs zR zg zJ H1 ∧ zx_F a H0 H1 ∧ (a : Int) ≤ (H1.2.1 72 45).toInt ∧ yFin T n s0 Hq H1) zm_192 [] (d + 6) (29, lv1, [], R, (0, 0))) : zs_Safe L σ (fun X : zp_X => ∃ H1, X = (.inl none, H1) ∧ zk_Bs zR zg zJ H1 ∧ zx_F a H0 H1 ∧ (a : Int) ≤ (H1.2.1 72 45).toInt ∧ yFin T n s0 Hq H1) zm_192 [] (d + 6) (186, lv, [], H, (0, 0)) := by
  have W := zR_Wd (zR_dn h.1)
  have pH := zx_phi_le h.1
  have wb := h.2.2.1
  have hdp := zR_fr1 (zR_dn h.1) (k := 47) (r := (0, 6)) rfl rfl
  have hdp : 0 ≤ (H.2.1 72 47).toInt ∧ (H.2.1 72 47).toInt ≤ 6 := hdp
  refine zw_ld (n := 1) (k := 0) (f := zp_isR) (pc' := 187) rfl rfl l0 rfl rfl ?_
  refine zw_s (pc' := 189) rfl rfl ?_
  by_cases ha1 : (H.2.1 72 28).toInt = 3 ∧ (H.2.1 72 32).toInt = (Int32.ofInt 43).toInt
  · refine zw_c (pc' := 192) (zw_cv (q := 72) (Y := zm_194) W.1 rfl rfl zm_194_t rfl rfl) rfl rfl rfl rfl rfl (zq_sign1 W ha1) ?_
    have q1 := (yr_sg hV.2.1 (c := 43)).mp ha1
    refine zw_bne1 (g := 204) (pc' := 195) rfl rfl rfl (rfl : _ = (1 : Int)) (fun hb => ?_) (fun h9 => absurd h9 (by decide))
    exact yx_ex186d hby hK l0 l1 hx1 ha1.1 ⟨q1.1, Or.inl q1.2⟩ h hF ha hp hg hlv hV hR n1 n2 bk
  · refine zw_c (pc' := 192) (zw_cv (q := 72) (Y := zm_194) W.1 rfl rfl zm_194_t rfl rfl) rfl rfl rfl rfl rfl (zq_sign0 W ha1) ?_
    refine zw_bne1 (g := 204) (pc' := 195) rfl rfl rfl (rfl : _ = (0 : Int)) (fun h9 => absurd h9 (by decide)) (fun hb => ?_)
    refine zw_ld (n := 1) (k := 0) (f := zp_isR) (pc' := 196) rfl rfl l0 rfl rfl ?_
    refine zw_s (pc' := 198) rfl rfl ?_
    by_cases ha2 : (H.2.1 72 28).toInt = 3 ∧ (H.2.1 72 32).toInt = (Int32.ofInt 45).toInt
    · refine zw_c (pc' := 201) (zw_cv (q := 72) (Y := zm_194) W.1 rfl rfl zm_194_t rfl rfl) rfl rfl rfl rfl rfl (zq_sign1 W ha2) ?_
      have q1 := (yr_sg hV.2.1 (c := 45)).mp ha2
      refine zw_beq1 (g := 241) (pc' := 204) rfl rfl rfl (rfl : _ = (1 : Int)) (fun h9 => absurd h9 (by decide)) (fun hb => ?_)
      exact yx_ex186d hby hK l0 l1 hx1 ha2.1 ⟨q1.1, Or.inr q1.2⟩ h hF ha hp hg hlv hV hR n1 n2 bk
    · refine zw_c (pc' := 201) (zw_cv (q := 72) (Y := zm_194) W.1 rfl rfl zm_194_t rfl rfl) rfl rfl rfl rfl rfl (zq_sign0 W ha2) ?_
      have n3 : ¬ (ys_kd T n p = 4 ∧ (ys_vl T n p = 43 ∨ ys_vl T n p = 45)) := by
        rintro ⟨h8, h9 | h9⟩
        · exact ha1 ((yr_sg hV.2.1 (c := 43)).mpr ⟨h8, h9⟩)
        · exact ha2 ((yr_sg hV.2.1 (c := 45)).mpr ⟨h8, h9⟩)
      refine zw_beq1 (g := 241) (pc' := 204) rfl rfl rfl (rfl : _ = (0 : Int)) (fun hb => ?_) (fun h9 => absurd h9 (by decide))
      exact yx_ex241 hby hK l0 l1 hx1 h hF ha hp hg hlv hV hR n1 n2 n3  bk

set_option maxRecDepth 8000 in
set_option maxHeartbeats 4000000 in
theorem yx_ex127 {L : Nat} {σ : Nat → Int32} {d a : Nat} {T : Nat → Int} {n : Nat} {s0 : yM} {H0 Hq : zp_H} (hby : ∀ k, k < n → -128 ≤ T k ∧ T k ≤ 127) {H : zp_H} {lv : zp_LV} {x1 : Int32} {lvb : List Bool} {p : Nat} (hK : zx_KW L σ) (l0 : zp_get lv 0 = some (.inr (.inr (some 73)))) (l1 : zp_get lv 1 = some (.inl x1)) (hx1 : x1.toInt ≠ 0) (hs : (H.2.1 72 28).toInt = 3) (hs2 : ys_kd T n p = 4 ∧ (ys_vl T n p = 60 ∨ ys_vl T n p = 61)) (h : zx_S a 1 0 H) (hF : zx_F a H0 H) (ha : (a : Int) ≤ (H.2.1 72 45).toInt) (hp : zx_phi H0 ≤ zx_phi H) (hg : (H.2.1 72 23).toInt = 0) (hlv : lvb ≠ []) (hV : yV T n lvb p H) (hR : xRR T n s0 (0, lvb, p) Hq H) (n1 : ¬ (ys_kd T n p = 3 ∧ (ys_vl T n p = 9 ∨ ys_vl T n p = 8))) (bk : ∀ (R : zp_H) (lv1 : zp_LV) (x : Int32), zp_get lv1 0 = some (.inr (.inr (some 73))) → zp_get lv1 1 = some (.inl x) → zx_S a 1 0 R → zx_F a H0 R → (a : Int) ≤ (R.2.1 72 45).toInt → zx_phi H0 ≤ zx_phi R → (zx_phi H + 2 ≤ zx_phi R ∨ (x.toInt = 0 ∧ zx_phi H ≤ zx_phi R)) → ((x.toInt ≠ 0 ∧ yO T n s0 Hq R) ∨ (x.toInt = 0 ∧ yZ T n s0 Hq R)) → zs_Safe L σ (fun X : zp_X => ∃ H1, X = (.inl none, H1) ∧ zk_Bs zR zg zJ H1 ∧ zx_F a H0 H1 ∧ (a : Int) ≤ (H1.2.1 72 45).toInt ∧ yFin T n s0 Hq H1) zm_192 [] (d + 6) (29, lv1, [], R, (0, 0))) : zs_Safe L σ (fun X : zp_X => ∃ H1, X = (.inl none, H1) ∧ zk_Bs zR zg zJ H1 ∧ zx_F a H0 H1 ∧ (a : Int) ≤ (H1.2.1 72 45).toInt ∧ yFin T n s0 Hq H1) zm_192 [] (d + 6) (127, lv, [], H, (0, 0)) := by
  have W := zR_Wd (zR_dn h.1)
  have pH := zx_phi_le h.1
  have wb := h.2.2.1
  have hdp := zR_fr1 (zR_dn h.1) (k := 47) (r := (0, 6)) rfl rfl
  have hdp : 0 ≤ (H.2.1 72 47).toInt ∧ (H.2.1 72 47).toInt ≤ 6 := hdp
  obtain ⟨b1, l1b, hlb⟩ : ∃ b0 l0b, lvb = b0 :: l0b := by
    match lvb, hlv with
    | b0 :: l0b, _ => exact ⟨b0, l0b, rfl⟩
  have hV1 := hV
  rw [hlb] at hV1
  have hd47 : (H.2.1 72 47).toInt = ((l1b.length + 1 : Nat) : Int) := hV1.2.2.2.1
  have ht92 := hV1.2.2.2.2.1
  have hj47 : (H.2.1 72 47).toInt.toNat = l1b.length + 1 := by omega
  refine zw_ld (n := 1) (k := 0) (f := zp_isR) (pc' := 128) rfl rfl l0 rfl rfl ?_
  refine zw_gR (q := 72) (pc' := 131) W rfl rfl rfl rfl (W.2 72 61 _ rfl) rfl ?_
  refine zw_ld (n := 1) (k := 0) (f := zp_isR) (pc' := 132) rfl rfl l0 rfl rfl ?_
  refine zw_gI (q := 72) (pc' := 135) W rfl rfl rfl rfl rfl rfl ?_
  refine zw_ba (q := 92) (pc' := 136) W rfl rfl (by decide) (⟨hdp.1, by show _ < ((9 : Nat) : Int); omega⟩) rfl rfl ?_
  refine zw_bne1 (g := 186) (pc' := 139) rfl rfl rfl rfl (fun ht => ?_) (fun ht => ?_)
  · rw [hj47, ht92] at ht
    have n2 : ¬ (ys_kd T n p = 4 ∧ (ys_vl T n p = 60 ∨ ys_vl T n p = 61) ∧ lvb.head? = some false) := by
      rintro ⟨_, _, h9⟩
      rw [hlb] at h9
      have h9 : b1 = false := Option.some.inj h9
      rw [h9] at ht
      exact absurd rfl ht
    exact yx_ex186 hby hK l0 l1 hx1 h hF ha hp hg hlv hV hR n1 n2  bk
  · rw [hj47, ht92] at ht
    have hb1f : b1 = false := by
      cases b1 with
      | false => rfl
      | true => exact absurd ht (by decide)
    refine zw_ld (n := 1) (k := 0) (f := zp_isR) (pc' := 140) rfl rfl l0 rfl rfl ?_
    refine zw_s (pc' := 141) rfl rfl ?_
    obtain ⟨_, p1, Q, rfl, p2, p3, p4, p5, p6⟩ := zx_drops (L := L) (σ := σ) (d := d + 3) (y := Int32.ofInt 4) h ha
    have WQ := zR_Wd (zR_dn p2.1)
    have q23 := zx_fe p3.1 23 rfl rfl rfl
    have q28 := zx_fe p3.1 28 rfl rfl rfl
    have q47 := zx_fe p3.1 47 rfl rfl rfl
    have hphQ := zx_phi_i (zx_fe p3.1 27 rfl rfl rfl) q28
    obtain ⟨u0, u1⟩ := zx_top p2
    have u2 := p2.2.2.1
    have hVQ : yV T n lvb p Q := yV_F hV p3.1 rfl ⟨fun k => rfl, fun k => rfl⟩ rfl
    refine zw_cn (pc' := 144) (zw_cv (q := 72) (Y := zm_199) W.1 rfl rfl zm_199_t rfl rfl) rfl rfl rfl rfl rfl (p1) ?_
    refine zw_ld (n := 1) (k := 0) (f := zp_isR) (pc' := 145) rfl rfl l0 rfl rfl ?_
    refine zw_ld (n := 1) (k := 0) (f := zp_isR) (pc' := 146) rfl rfl l0 rfl rfl ?_
    refine zw_s (pc' := 148) rfl rfl ?_
    by_cases hch : (Q.2.1 72 28).toInt = 3 ∧ (Q.2.1 72 32).toInt = (Int32.ofInt 60).toInt
    · refine zw_c (pc' := 151) (zw_cv (q := 72) (Y := zm_194) WQ.1 rfl rfl zm_194_t rfl rfl) rfl rfl rfl rfl rfl (zq_sign1 WQ hch) ?_
      refine zw_beq1 (g := 159) (pc' := 154) rfl rfl rfl (rfl : _ = (1 : Int)) (fun h9 => absurd h9 (by decide)) (fun hb => ?_)
      refine zw_s (pc' := 156) rfl rfl ?_
      refine zw_s (pc' := 161) rfl rfl ?_
      obtain ⟨m1, m2, m3, m4⟩ := zx_wait (y := Int32.ofInt 6) p2 (by omega) (by omega) (by decide)
      have hT := m4 0 0 rfl rfl
      have f45 : (zx_wt Q (Int32.ofInt 6)).2.1 72 45 = Q.2.1 72 45 := zx_wt_f 45 rfl
      have hVw : yV T n lvb p (zx_wt Q (Int32.ofInt 6)) := yV_wt hVQ
      refine zw_cn (pc' := 164) (zw_cv (q := 72) (Y := zm_196) WQ.1 rfl rfl zm_196_t rfl rfl) rfl rfl rfl rfl rfl (zq_waits WQ ⟨u1, by show _ < ((800 : Nat) : Int); omega⟩) ?_
      have f47 : (zx_wt Q (Int32.ofInt 6)).2.1 72 47 = Q.2.1 72 47 := zx_wt_f 47 rfl
      obtain ⟨n1_, n2_, n3_, n4_⟩ := zx_T_92 (j := ((zx_wt Q (Int32.ofInt 6)).2.1 72 47).toInt.toNat) (x := Int32.ofInt 1) hT (Or.inr rfl)
      obtain ⟨b0, l0b, rfl⟩ : ∃ b0 l0b, lvb = b0 :: l0b := by
        match lvb, hlv with
        | b0 :: l0b, _ => exact ⟨b0, l0b, rfl⟩
      have hl47 : ((zx_wt Q (Int32.ofInt 6)).2.1 72 47).toInt = ((l0b.length + 1 : Nat) : Int) := hVw.2.2.2.1
      have hV9 := yV_92 (t := true) (x := Int32.ofInt 1) (j := ((zx_wt Q (Int32.ofInt 6)).2.1 72 47).toInt.toNat) hVw (by omega) (by decide)
      have hN9 := (by obtain rfl : b0 = false := (List.cons.inj hlb).1.trans hb1f; exact yN_lt (lv := l0b) hs2.1 hs2.2 : yN T n (0, b0 :: l0b, p) = .inl (1, true :: l0b, ys_nx T n p))
      refine zw_ld (n := 1) (k := 0) (f := zp_isR) (pc' := 165) rfl rfl l0 rfl rfl ?_
      refine zw_gR (q := 72) (pc' := 168) WQ rfl rfl rfl rfl (WQ.2 72 61 _ rfl) rfl ?_
      refine zw_ld (n := 1) (k := 0) (f := zp_isR) (pc' := 169) rfl rfl l0 rfl rfl ?_
      refine zw_gI (q := 72) (pc' := 172) WQ rfl rfl rfl rfl rfl rfl ?_
      refine zw_s (pc' := 173) rfl rfl ?_
      refine zw_bs (q := 92) (pc' := 174) WQ rfl rfl (by decide) (show 0 ≤ ((zx_wt Q (Int32.ofInt 6)).2.1 72 47).toInt ∧ ((zx_wt Q (Int32.ofInt 6)).2.1 72 47).toInt < ((9 : Nat) : Int) from by rw [f47]; exact ⟨by omega, by omega⟩) rfl ?_
      refine zw_ld (n := 1) (k := 0) (f := zp_isR) (pc' := 175) rfl rfl l0 rfl rfl ?_
      obtain ⟨K, c1, c2, c3, c4, c5, c6⟩ := zx_T_goes (L := L) (σ := σ) (d := d + 4) n1_
      rw [n3_] at c5
      have hgo := (yx_goes hby n1_.1 hV9 c1).1
      have hlv9 : true :: l0b ≠ [] := List.cons_ne_nil _ _
      have WK := zR_Wd (zR_dn c2.1)
      have aK : (a : Int) ≤ (K.2.1 72 45).toInt := zx_S_a c2 c4
      refine zw_cn (pc' := 178) (zw_cv (q := 72) (Y := zm_171) WQ.1 rfl rfl zm_171_t rfl rfl) rfl rfl rfl rfl rfl (c1) ?_
      obtain ⟨_, d1, R, rfl, d2, d3, d4, d5, d6, d7⟩ := yx_operand (L := L) (σ := σ) (d := d) (y := Int32.ofInt 0) hby hK c2 aK c4 hgo hlv9
      rw [if_pos (by decide)] at d7
      refine zw_ld (n := 1) (k := 0) (f := zp_isR) (pc' := 179) rfl rfl l0 rfl rfl ?_
      refine zw_s (pc' := 180) rfl rfl ?_
      refine zw_cn (pc' := 183) (zw_cv (q := 72) (Y := zm_195) WK.1 rfl rfl zm_195_t rfl rfl) rfl rfl rfl rfl rfl (d1) ?_
      refine zw_s (pc' := 322) rfl rfl ?_
      refine zw_s (pc' := 29) rfl rfl ?_
      exact bk R _ _ l0 l1 d2 (zx_F_t (zx_F_t (zx_F_t (zx_F_t (zx_F_t hF (zx_Fd_F p3)) m1) n2_) c3) d3) d5 (by omega) (Or.inl (by omega)) (Or.inl ⟨hx1, yO_R (xRR_t hR (xRR_op (l := 4) (act := 6) (z := Int32.ofInt 6) h (by decide) p1 (by decide) (by decide) (by have := p2.2.2.1; omega) (fun _ _ _ k9 => xV_92 k9) n1_.1 c1 hN9 (fun W9 O9 => xWO_lt ((yr_sg hVQ.2.1 (c := 60)).mp hch).1 ((yr_sg hVQ.2.1 (c := 60)).mp hch).2))) d7⟩)
    · refine zw_c (pc' := 151) (zw_cv (q := 72) (Y := zm_194) WQ.1 rfl rfl zm_194_t rfl rfl) rfl rfl rfl rfl rfl (zq_sign0 WQ hch) ?_
      refine zw_beq1 (g := 159) (pc' := 154) rfl rfl rfl (rfl : _ = (0 : Int)) (fun hb => ?_) (fun h9 => absurd h9 (by decide))
      refine zw_s (pc' := 161) rfl rfl ?_
      obtain ⟨m1, m2, m3, m4⟩ := zx_wait (y := Int32.ofInt 7) p2 (by omega) (by omega) (by decide)
      have hT := m4 0 0 rfl rfl
      have f45 : (zx_wt Q (Int32.ofInt 7)).2.1 72 45 = Q.2.1 72 45 := zx_wt_f 45 rfl
      have hVw : yV T n lvb p (zx_wt Q (Int32.ofInt 7)) := yV_wt hVQ
      refine zw_cn (pc' := 164) (zw_cv (q := 72) (Y := zm_196) WQ.1 rfl rfl zm_196_t rfl rfl) rfl rfl rfl rfl rfl (zq_waits WQ ⟨u1, by show _ < ((800 : Nat) : Int); omega⟩) ?_
      have f47 : (zx_wt Q (Int32.ofInt 7)).2.1 72 47 = Q.2.1 72 47 := zx_wt_f 47 rfl
      obtain ⟨n1_, n2_, n3_, n4_⟩ := zx_T_92 (j := ((zx_wt Q (Int32.ofInt 7)).2.1 72 47).toInt.toNat) (x := Int32.ofInt 1) hT (Or.inr rfl)
      obtain ⟨b0, l0b, rfl⟩ : ∃ b0 l0b, lvb = b0 :: l0b := by
        match lvb, hlv with
        | b0 :: l0b, _ => exact ⟨b0, l0b, rfl⟩
      have hl47 : ((zx_wt Q (Int32.ofInt 7)).2.1 72 47).toInt = ((l0b.length + 1 : Nat) : Int) := hVw.2.2.2.1
      have hV9 := yV_92 (t := true) (x := Int32.ofInt 1) (j := ((zx_wt Q (Int32.ofInt 7)).2.1 72 47).toInt.toNat) hVw (by omega) (by decide)
      have hN9 := (by obtain rfl : b0 = false := (List.cons.inj hlb).1.trans hb1f; exact yN_lt (lv := l0b) hs2.1 hs2.2 : yN T n (0, b0 :: l0b, p) = .inl (1, true :: l0b, ys_nx T n p))
      refine zw_ld (n := 1) (k := 0) (f := zp_isR) (pc' := 165) rfl rfl l0 rfl rfl ?_
      refine zw_gR (q := 72) (pc' := 168) WQ rfl rfl rfl rfl (WQ.2 72 61 _ rfl) rfl ?_
      refine zw_ld (n := 1) (k := 0) (f := zp_isR) (pc' := 169) rfl rfl l0 rfl rfl ?_
      refine zw_gI (q := 72) (pc' := 172) WQ rfl rfl rfl rfl rfl rfl ?_
      refine zw_s (pc' := 173) rfl rfl ?_
      refine zw_bs (q := 92) (pc' := 174) WQ rfl rfl (by decide) (show 0 ≤ ((zx_wt Q (Int32.ofInt 7)).2.1 72 47).toInt ∧ ((zx_wt Q (Int32.ofInt 7)).2.1 72 47).toInt < ((9 : Nat) : Int) from by rw [f47]; exact ⟨by omega, by omega⟩) rfl ?_
      refine zw_ld (n := 1) (k := 0) (f := zp_isR) (pc' := 175) rfl rfl l0 rfl rfl ?_
      obtain ⟨K, c1, c2, c3, c4, c5, c6⟩ := zx_T_goes (L := L) (σ := σ) (d := d + 4) n1_
      rw [n3_] at c5
      have hgo := (yx_goes hby n1_.1 hV9 c1).1
      have hlv9 : true :: l0b ≠ [] := List.cons_ne_nil _ _
      have WK := zR_Wd (zR_dn c2.1)
      have aK : (a : Int) ≤ (K.2.1 72 45).toInt := zx_S_a c2 c4
      refine zw_cn (pc' := 178) (zw_cv (q := 72) (Y := zm_171) WQ.1 rfl rfl zm_171_t rfl rfl) rfl rfl rfl rfl rfl (c1) ?_
      obtain ⟨_, d1, R, rfl, d2, d3, d4, d5, d6, d7⟩ := yx_operand (L := L) (σ := σ) (d := d) (y := Int32.ofInt 0) hby hK c2 aK c4 hgo hlv9
      rw [if_pos (by decide)] at d7
      refine zw_ld (n := 1) (k := 0) (f := zp_isR) (pc' := 179) rfl rfl l0 rfl rfl ?_
      refine zw_s (pc' := 180) rfl rfl ?_
      refine zw_cn (pc' := 183) (zw_cv (q := 72) (Y := zm_195) WK.1 rfl rfl zm_195_t rfl rfl) rfl rfl rfl rfl rfl (d1) ?_
      refine zw_s (pc' := 322) rfl rfl ?_
      refine zw_s (pc' := 29) rfl rfl ?_
      exact bk R _ _ l0 l1 d2 (zx_F_t (zx_F_t (zx_F_t (zx_F_t (zx_F_t hF (zx_Fd_F p3)) m1) n2_) c3) d3) d5 (by omega) (Or.inl (by omega)) (Or.inl ⟨hx1, yO_R (xRR_t hR (xRR_op (l := 4) (act := 7) (z := Int32.ofInt 7) h (by decide) p1 (by decide) (by decide) (by have := p2.2.2.1; omega) (fun _ _ _ k9 => xV_92 k9) n1_.1 c1 hN9 (fun W9 O9 => xWO_eq hs2.1 (by rcases hs2.2 with h7 | h7; exact absurd ((yr_sg hVQ.2.1 (c := 60)).mpr ⟨hs2.1, h7⟩) hch; exact h7)))) d7⟩)

set_option maxRecDepth 8000 in
set_option maxHeartbeats 4000000 in
theorem yx_ex109 {L : Nat} {σ : Nat → Int32} {d a : Nat} {T : Nat → Int} {n : Nat} {s0 : yM} {H0 Hq : zp_H} (hby : ∀ k, k < n → -128 ≤ T k ∧ T k ≤ 127) {H : zp_H} {lv : zp_LV} {x1 : Int32} {lvb : List Bool} {p : Nat} (hK : zx_KW L σ) (l0 : zp_get lv 0 = some (.inr (.inr (some 73)))) (l1 : zp_get lv 1 = some (.inl x1)) (hx1 : x1.toInt ≠ 0) (h : zx_S a 1 0 H) (hF : zx_F a H0 H) (ha : (a : Int) ≤ (H.2.1 72 45).toInt) (hp : zx_phi H0 ≤ zx_phi H) (hg : (H.2.1 72 23).toInt = 0) (hlv : lvb ≠ []) (hV : yV T n lvb p H) (hR : xRR T n s0 (0, lvb, p) Hq H) (n1 : ¬ (ys_kd T n p = 3 ∧ (ys_vl T n p = 9 ∨ ys_vl T n p = 8))) (bk : ∀ (R : zp_H) (lv1 : zp_LV) (x : Int32), zp_get lv1 0 = some (.inr (.inr (some 73))) → zp_get lv1 1 = some (.inl x) → zx_S a 1 0 R → zx_F a H0 R → (a : Int) ≤ (R.2.1 72 45).toInt → zx_phi H0 ≤ zx_phi R → (zx_phi H + 2 ≤ zx_phi R ∨ (x.toInt = 0 ∧ zx_phi H ≤ zx_phi R)) → ((x.toInt ≠ 0 ∧ yO T n s0 Hq R) ∨ (x.toInt = 0 ∧ yZ T n s0 Hq R)) → zs_Safe L σ (fun X : zp_X => ∃ H1, X = (.inl none, H1) ∧ zk_Bs zR zg zJ H1 ∧ zx_F a H0 H1 ∧ (a : Int) ≤ (H1.2.1 72 45).toInt ∧ yFin T n s0 Hq H1) zm_192 [] (d + 6) (29, lv1, [], R, (0, 0))) : zs_Safe L σ (fun X : zp_X => ∃ H1, X = (.inl none, H1) ∧ zk_Bs zR zg zJ H1 ∧ zx_F a H0 H1 ∧ (a : Int) ≤ (H1.2.1 72 45).toInt ∧ yFin T n s0 Hq H1) zm_192 [] (d + 6) (109, lv, [], H, (0, 0)) := by
  have W := zR_Wd (zR_dn h.1)
  have pH := zx_phi_le h.1
  have wb := h.2.2.1
  have hdp := zR_fr1 (zR_dn h.1) (k := 47) (r := (0, 6)) rfl rfl
  have hdp : 0 ≤ (H.2.1 72 47).toInt ∧ (H.2.1 72 47).toInt ≤ 6 := hdp
  refine zw_ld (n := 1) (k := 0) (f := zp_isR) (pc' := 110) rfl rfl l0 rfl rfl ?_
  refine zw_s (pc' := 112) rfl rfl ?_
  by_cases h60 : (H.2.1 72 28).toInt = 3 ∧ (H.2.1 72 32).toInt = (Int32.ofInt 60).toInt
  · refine zw_c (pc' := 115) (zw_cv (q := 72) (Y := zm_194) W.1 rfl rfl zm_194_t rfl rfl) rfl rfl rfl rfl rfl (zq_sign1 W h60) ?_
    have q1 := (yr_sg hV.2.1 (c := 60)).mp h60
    refine zw_bne1 (g := 127) (pc' := 118) rfl rfl rfl (rfl : _ = (1 : Int)) (fun hb => ?_) (fun h9 => absurd h9 (by decide))
    exact yx_ex127 hby hK l0 l1 hx1 h60.1 ⟨q1.1, Or.inl q1.2⟩ h hF ha hp hg hlv hV hR n1 bk
  · refine zw_c (pc' := 115) (zw_cv (q := 72) (Y := zm_194) W.1 rfl rfl zm_194_t rfl rfl) rfl rfl rfl rfl rfl (zq_sign0 W h60) ?_
    refine zw_bne1 (g := 127) (pc' := 118) rfl rfl rfl (rfl : _ = (0 : Int)) (fun h9 => absurd h9 (by decide)) (fun hb => ?_)
    refine zw_ld (n := 1) (k := 0) (f := zp_isR) (pc' := 119) rfl rfl l0 rfl rfl ?_
    refine zw_s (pc' := 121) rfl rfl ?_
    by_cases h61 : (H.2.1 72 28).toInt = 3 ∧ (H.2.1 72 32).toInt = (Int32.ofInt 61).toInt
    · refine zw_c (pc' := 124) (zw_cv (q := 72) (Y := zm_194) W.1 rfl rfl zm_194_t rfl rfl) rfl rfl rfl rfl rfl (zq_sign1 W h61) ?_
      have q1 := (yr_sg hV.2.1 (c := 61)).mp h61
      refine zw_beq1 (g := 186) (pc' := 127) rfl rfl rfl (rfl : _ = (1 : Int)) (fun h9 => absurd h9 (by decide)) (fun hb => ?_)
      exact yx_ex127 hby hK l0 l1 hx1 h61.1 ⟨q1.1, Or.inr q1.2⟩ h hF ha hp hg hlv hV hR n1 bk
    · refine zw_c (pc' := 124) (zw_cv (q := 72) (Y := zm_194) W.1 rfl rfl zm_194_t rfl rfl) rfl rfl rfl rfl rfl (zq_sign0 W h61) ?_
      have n2 : ¬ (ys_kd T n p = 4 ∧ (ys_vl T n p = 60 ∨ ys_vl T n p = 61) ∧ lvb.head? = some false) := by
        rintro ⟨h8, h9 | h9, _⟩
        · exact h60 ((yr_sg hV.2.1 (c := 60)).mpr ⟨h8, h9⟩)
        · exact h61 ((yr_sg hV.2.1 (c := 61)).mpr ⟨h8, h9⟩)
      refine zw_beq1 (g := 186) (pc' := 127) rfl rfl rfl (rfl : _ = (0 : Int)) (fun hb => ?_) (fun h9 => absurd h9 (by decide))
      exact yx_ex186 hby hK l0 l1 hx1 h hF ha hp hg hlv hV hR n1 n2  bk

set_option maxRecDepth 8000 in
set_option maxHeartbeats 4000000 in
theorem yx_ex57 {L : Nat} {σ : Nat → Int32} {d a : Nat} {T : Nat → Int} {n : Nat} {s0 : yM} {H0 Hq : zp_H} (hby : ∀ k, k < n → -128 ≤ T k ∧ T k ≤ 127) {H : zp_H} {lv : zp_LV} {x1 : Int32} {lvb : List Bool} {p : Nat} (hK : zx_KW L σ) (l0 : zp_get lv 0 = some (.inr (.inr (some 73)))) (l1 : zp_get lv 1 = some (.inl x1)) (hx1 : x1.toInt ≠ 0) {x2 : Int32} (l2 : zp_get lv 2 = some (.inl x2)) (hs : (H.2.1 72 28).toInt = 1) (hs2 : ys_kd T n p = 3 ∧ (ys_vl T n p = 9 ∨ ys_vl T n p = 8)) (hA9 : x2.toInt = 18 ↔ ys_vl T n p = 9) (h : zx_S a 1 0 H) (hF : zx_F a H0 H) (ha : (a : Int) ≤ (H.2.1 72 45).toInt) (hp : zx_phi H0 ≤ zx_phi H) (hg : (H.2.1 72 23).toInt = 0) (hlv : lvb ≠ []) (hV : yV T n lvb p H) (hR : xRR T n s0 (0, lvb, p) Hq H)  (bk : ∀ (R : zp_H) (lv1 : zp_LV) (x : Int32), zp_get lv1 0 = some (.inr (.inr (some 73))) → zp_get lv1 1 = some (.inl x) → zx_S a 1 0 R → zx_F a H0 R → (a : Int) ≤ (R.2.1 72 45).toInt → zx_phi H0 ≤ zx_phi R → (zx_phi H + 2 ≤ zx_phi R ∨ (x.toInt = 0 ∧ zx_phi H ≤ zx_phi R)) → ((x.toInt ≠ 0 ∧ yO T n s0 Hq R) ∨ (x.toInt = 0 ∧ yZ T n s0 Hq R)) → zs_Safe L σ (fun X : zp_X => ∃ H1, X = (.inl none, H1) ∧ zk_Bs zR zg zJ H1 ∧ zx_F a H0 H1 ∧ (a : Int) ≤ (H1.2.1 72 45).toInt ∧ yFin T n s0 Hq H1) zm_192 [] (d + 6) (29, lv1, [], R, (0, 0))) : zs_Safe L σ (fun X : zp_X => ∃ H1, X = (.inl none, H1) ∧ zk_Bs zR zg zJ H1 ∧ zx_F a H0 H1 ∧ (a : Int) ≤ (H1.2.1 72 45).toInt ∧ yFin T n s0 Hq H1) zm_192 [] (d + 6) (57, lv, [], H, (0, 0)) := by
  have W := zR_Wd (zR_dn h.1)
  have pH := zx_phi_le h.1
  have wb := h.2.2.1
  have hdp := zR_fr1 (zR_dn h.1) (k := 47) (r := (0, 6)) rfl rfl
  have hdp : 0 ≤ (H.2.1 72 47).toInt ∧ (H.2.1 72 47).toInt ≤ 6 := hdp
  refine zw_ld (n := 1) (k := 0) (f := zp_isR) (pc' := 58) rfl rfl l0 rfl rfl ?_
  refine zw_ld (n := 1) (k := 2) (f := zp_isI) (pc' := 59) rfl rfl l2 rfl rfl ?_
  refine zw_s (pc' := 61) rfl rfl ?_
  refine zw_bne2 (g := 68) (pc' := 64) rfl rfl rfl rfl (rfl : _ = (18 : Int)) (fun hB => ?_) (fun hB => ?_)
  · refine zw_s (pc' := 69) rfl rfl ?_
    obtain ⟨_, p1, Q, rfl, p2, p3, p4, p5, p6⟩ := zx_drops (L := L) (σ := σ) (d := d + 3) (y := Int32.ofInt 1) h ha
    have WQ := zR_Wd (zR_dn p2.1)
    have q23 := zx_fe p3.1 23 rfl rfl rfl
    have q28 := zx_fe p3.1 28 rfl rfl rfl
    have q47 := zx_fe p3.1 47 rfl rfl rfl
    have hphQ := zx_phi_i (zx_fe p3.1 27 rfl rfl rfl) q28
    obtain ⟨u0, u1⟩ := zx_top p2
    have u2 := p2.2.2.1
    have hVQ : yV T n lvb p Q := yV_F hV p3.1 rfl ⟨fun k => rfl, fun k => rfl⟩ rfl
    refine zw_cn (pc' := 72) (zw_cv (q := 72) (Y := zm_199) W.1 rfl rfl zm_199_t rfl rfl) rfl rfl rfl rfl rfl (p1) ?_
    refine zw_ld (n := 1) (k := 0) (f := zp_isR) (pc' := 73) rfl rfl l0 rfl rfl ?_
    refine zw_ld (n := 1) (k := 2) (f := zp_isI) (pc' := 74) rfl rfl l2 rfl rfl ?_
    refine zw_s (pc' := 76) rfl rfl ?_
    refine zw_bne2 (g := 83) (pc' := 79) rfl rfl rfl rfl (rfl : _ = (18 : Int)) (fun hC => ?_) (fun hC => ?_)
    · refine zw_s (pc' := 84) rfl rfl ?_
      obtain ⟨m1, m2, m3, m4⟩ := zx_wait (y := Int32.ofInt 5) p2 (by omega) (by omega) (by decide)
      have hT := m4 0 0 rfl rfl
      have f45 : (zx_wt Q (Int32.ofInt 5)).2.1 72 45 = Q.2.1 72 45 := zx_wt_f 45 rfl
      have hVw : yV T n lvb p (zx_wt Q (Int32.ofInt 5)) := yV_wt hVQ
      refine zw_cn (pc' := 87) (zw_cv (q := 72) (Y := zm_196) WQ.1 rfl rfl zm_196_t rfl rfl) rfl rfl rfl rfl rfl (zq_waits WQ ⟨u1, by show _ < ((800 : Nat) : Int); omega⟩) ?_
      have f47 : (zx_wt Q (Int32.ofInt 5)).2.1 72 47 = Q.2.1 72 47 := zx_wt_f 47 rfl
      obtain ⟨n1_, n2_, n3_, n4_⟩ := zx_T_92 (j := ((zx_wt Q (Int32.ofInt 5)).2.1 72 47).toInt.toNat) (x := Int32.ofInt 0) hT (Or.inl rfl)
      obtain ⟨b0, l0b, rfl⟩ : ∃ b0 l0b, lvb = b0 :: l0b := by
        match lvb, hlv with
        | b0 :: l0b, _ => exact ⟨b0, l0b, rfl⟩
      have hl47 : ((zx_wt Q (Int32.ofInt 5)).2.1 72 47).toInt = ((l0b.length + 1 : Nat) : Int) := hVw.2.2.2.1
      have hV9 := yV_92 (t := false) (x := Int32.ofInt 0) (j := ((zx_wt Q (Int32.ofInt 5)).2.1 72 47).toInt.toNat) hVw (by omega) (by decide)
      have hN9 := yN_ao (lv := b0 :: l0b) hs2.1 hs2.2
      refine zw_ld (n := 1) (k := 0) (f := zp_isR) (pc' := 88) rfl rfl l0 rfl rfl ?_
      refine zw_gR (q := 72) (pc' := 91) WQ rfl rfl rfl rfl (WQ.2 72 61 _ rfl) rfl ?_
      refine zw_ld (n := 1) (k := 0) (f := zp_isR) (pc' := 92) rfl rfl l0 rfl rfl ?_
      refine zw_gI (q := 72) (pc' := 95) WQ rfl rfl rfl rfl rfl rfl ?_
      refine zw_s (pc' := 96) rfl rfl ?_
      refine zw_bs (q := 92) (pc' := 97) WQ rfl rfl (by decide) (show 0 ≤ ((zx_wt Q (Int32.ofInt 5)).2.1 72 47).toInt ∧ ((zx_wt Q (Int32.ofInt 5)).2.1 72 47).toInt < ((9 : Nat) : Int) from by rw [f47]; exact ⟨by omega, by omega⟩) rfl ?_
      refine zw_ld (n := 1) (k := 0) (f := zp_isR) (pc' := 98) rfl rfl l0 rfl rfl ?_
      obtain ⟨K, c1, c2, c3, c4, c5, c6⟩ := zx_T_goes (L := L) (σ := σ) (d := d + 4) n1_
      rw [n3_] at c5
      have hgo := (yx_goes hby n1_.1 hV9 c1).1
      have hlv9 : false :: l0b ≠ [] := List.cons_ne_nil _ _
      have WK := zR_Wd (zR_dn c2.1)
      have aK : (a : Int) ≤ (K.2.1 72 45).toInt := zx_S_a c2 c4
      refine zw_cn (pc' := 101) (zw_cv (q := 72) (Y := zm_171) WQ.1 rfl rfl zm_171_t rfl rfl) rfl rfl rfl rfl rfl (c1) ?_
      obtain ⟨_, d1, R, rfl, d2, d3, d4, d5, d6, d7⟩ := yx_operand (L := L) (σ := σ) (d := d) (y := Int32.ofInt 1) hby hK c2 aK c4 hgo hlv9
      rw [if_neg (by decide)] at d7
      refine zw_ld (n := 1) (k := 0) (f := zp_isR) (pc' := 102) rfl rfl l0 rfl rfl ?_
      refine zw_s (pc' := 103) rfl rfl ?_
      refine zw_cn (pc' := 106) (zw_cv (q := 72) (Y := zm_195) WK.1 rfl rfl zm_195_t rfl rfl) rfl rfl rfl rfl rfl (d1) ?_
      refine zw_s (pc' := 322) rfl rfl ?_
      refine zw_s (pc' := 29) rfl rfl ?_
      exact bk R _ _ l0 l1 d2 (zx_F_t (zx_F_t (zx_F_t (zx_F_t (zx_F_t hF (zx_Fd_F p3)) m1) n2_) c3) d3) d5 (by omega) (Or.inl (by omega)) (Or.inl ⟨hx1, yO_R (xRR_t hR (xRR_op (l := 1) (act := 5) (z := Int32.ofInt 5) h (by decide) p1 (by decide) (by decide) (by have := p2.2.2.1; omega) (fun _ _ _ k9 => xV_92 k9) n1_.1 c1 hN9 (fun W9 O9 => xWO_or hs2.1 (by rcases hs2.2 with h7 | h7; exact absurd (hA9.mpr h7) hB; exact h7)))) d7⟩)
    · omega
  · refine zw_s (pc' := 65) rfl rfl ?_
    refine zw_s (pc' := 69) rfl rfl ?_
    obtain ⟨_, p1, Q, rfl, p2, p3, p4, p5, p6⟩ := zx_drops (L := L) (σ := σ) (d := d + 3) (y := Int32.ofInt 2) h ha
    have WQ := zR_Wd (zR_dn p2.1)
    have q23 := zx_fe p3.1 23 rfl rfl rfl
    have q28 := zx_fe p3.1 28 rfl rfl rfl
    have q47 := zx_fe p3.1 47 rfl rfl rfl
    have hphQ := zx_phi_i (zx_fe p3.1 27 rfl rfl rfl) q28
    obtain ⟨u0, u1⟩ := zx_top p2
    have u2 := p2.2.2.1
    have hVQ : yV T n lvb p Q := yV_F hV p3.1 rfl ⟨fun k => rfl, fun k => rfl⟩ rfl
    refine zw_cn (pc' := 72) (zw_cv (q := 72) (Y := zm_199) W.1 rfl rfl zm_199_t rfl rfl) rfl rfl rfl rfl rfl (p1) ?_
    refine zw_ld (n := 1) (k := 0) (f := zp_isR) (pc' := 73) rfl rfl l0 rfl rfl ?_
    refine zw_ld (n := 1) (k := 2) (f := zp_isI) (pc' := 74) rfl rfl l2 rfl rfl ?_
    refine zw_s (pc' := 76) rfl rfl ?_
    refine zw_bne2 (g := 83) (pc' := 79) rfl rfl rfl rfl (rfl : _ = (18 : Int)) (fun hC => ?_) (fun hC => ?_)
    · omega
    · refine zw_s (pc' := 80) rfl rfl ?_
      refine zw_s (pc' := 84) rfl rfl ?_
      obtain ⟨m1, m2, m3, m4⟩ := zx_wait (y := Int32.ofInt 4) p2 (by omega) (by omega) (by decide)
      have hT := m4 0 0 rfl rfl
      have f45 : (zx_wt Q (Int32.ofInt 4)).2.1 72 45 = Q.2.1 72 45 := zx_wt_f 45 rfl
      have hVw : yV T n lvb p (zx_wt Q (Int32.ofInt 4)) := yV_wt hVQ
      refine zw_cn (pc' := 87) (zw_cv (q := 72) (Y := zm_196) WQ.1 rfl rfl zm_196_t rfl rfl) rfl rfl rfl rfl rfl (zq_waits WQ ⟨u1, by show _ < ((800 : Nat) : Int); omega⟩) ?_
      have f47 : (zx_wt Q (Int32.ofInt 4)).2.1 72 47 = Q.2.1 72 47 := zx_wt_f 47 rfl
      obtain ⟨n1_, n2_, n3_, n4_⟩ := zx_T_92 (j := ((zx_wt Q (Int32.ofInt 4)).2.1 72 47).toInt.toNat) (x := Int32.ofInt 0) hT (Or.inl rfl)
      obtain ⟨b0, l0b, rfl⟩ : ∃ b0 l0b, lvb = b0 :: l0b := by
        match lvb, hlv with
        | b0 :: l0b, _ => exact ⟨b0, l0b, rfl⟩
      have hl47 : ((zx_wt Q (Int32.ofInt 4)).2.1 72 47).toInt = ((l0b.length + 1 : Nat) : Int) := hVw.2.2.2.1
      have hV9 := yV_92 (t := false) (x := Int32.ofInt 0) (j := ((zx_wt Q (Int32.ofInt 4)).2.1 72 47).toInt.toNat) hVw (by omega) (by decide)
      have hN9 := yN_ao (lv := b0 :: l0b) hs2.1 hs2.2
      refine zw_ld (n := 1) (k := 0) (f := zp_isR) (pc' := 88) rfl rfl l0 rfl rfl ?_
      refine zw_gR (q := 72) (pc' := 91) WQ rfl rfl rfl rfl (WQ.2 72 61 _ rfl) rfl ?_
      refine zw_ld (n := 1) (k := 0) (f := zp_isR) (pc' := 92) rfl rfl l0 rfl rfl ?_
      refine zw_gI (q := 72) (pc' := 95) WQ rfl rfl rfl rfl rfl rfl ?_
      refine zw_s (pc' := 96) rfl rfl ?_
      refine zw_bs (q := 92) (pc' := 97) WQ rfl rfl (by decide) (show 0 ≤ ((zx_wt Q (Int32.ofInt 4)).2.1 72 47).toInt ∧ ((zx_wt Q (Int32.ofInt 4)).2.1 72 47).toInt < ((9 : Nat) : Int) from by rw [f47]; exact ⟨by omega, by omega⟩) rfl ?_
      refine zw_ld (n := 1) (k := 0) (f := zp_isR) (pc' := 98) rfl rfl l0 rfl rfl ?_
      obtain ⟨K, c1, c2, c3, c4, c5, c6⟩ := zx_T_goes (L := L) (σ := σ) (d := d + 4) n1_
      rw [n3_] at c5
      have hgo := (yx_goes hby n1_.1 hV9 c1).1
      have hlv9 : false :: l0b ≠ [] := List.cons_ne_nil _ _
      have WK := zR_Wd (zR_dn c2.1)
      have aK : (a : Int) ≤ (K.2.1 72 45).toInt := zx_S_a c2 c4
      refine zw_cn (pc' := 101) (zw_cv (q := 72) (Y := zm_171) WQ.1 rfl rfl zm_171_t rfl rfl) rfl rfl rfl rfl rfl (c1) ?_
      obtain ⟨_, d1, R, rfl, d2, d3, d4, d5, d6, d7⟩ := yx_operand (L := L) (σ := σ) (d := d) (y := Int32.ofInt 1) hby hK c2 aK c4 hgo hlv9
      rw [if_neg (by decide)] at d7
      refine zw_ld (n := 1) (k := 0) (f := zp_isR) (pc' := 102) rfl rfl l0 rfl rfl ?_
      refine zw_s (pc' := 103) rfl rfl ?_
      refine zw_cn (pc' := 106) (zw_cv (q := 72) (Y := zm_195) WK.1 rfl rfl zm_195_t rfl rfl) rfl rfl rfl rfl rfl (d1) ?_
      refine zw_s (pc' := 322) rfl rfl ?_
      refine zw_s (pc' := 29) rfl rfl ?_
      exact bk R _ _ l0 l1 d2 (zx_F_t (zx_F_t (zx_F_t (zx_F_t (zx_F_t hF (zx_Fd_F p3)) m1) n2_) c3) d3) d5 (by omega) (Or.inl (by omega)) (Or.inl ⟨hx1, yO_R (xRR_t hR (xRR_op (l := 2) (act := 4) (z := Int32.ofInt 4) h (by decide) p1 (by decide) (by decide) (by have := p2.2.2.1; omega) (fun _ _ _ k9 => xV_92 k9) n1_.1 c1 hN9 (fun W9 O9 => xWO_an hs2.1 (hA9.mp hB)))) d7⟩)

set_option maxRecDepth 8000 in
set_option maxHeartbeats 4000000 in
theorem yx_exL {L : Nat} {σ : Nat → Int32} {d a : Nat} {T : Nat → Int} {n : Nat} {s0 : yM} {H0 Hq : zp_H} (hby : ∀ k, k < n → -128 ≤ T k ∧ T k ≤ 127) (hK : zx_KW L σ) : ∀ (m : Nat) (H : zp_H) (lv : zp_LV) (x1 : Int32), 2 * (1401 - zx_phi H).toNat + (if x1.toInt = 0 then 0 else 1) = m → zp_get lv 0 = some (.inr (.inr (some 73))) → zp_get lv 1 = some (.inl x1) → zx_S a 1 0 H → zx_F a H0 H → (a : Int) ≤ (H.2.1 72 45).toInt → zx_phi H0 ≤ zx_phi H → ((x1.toInt ≠ 0 ∧ yO T n s0 Hq H) ∨ (x1.toInt = 0 ∧ yZ T n s0 Hq H)) → zs_Safe L σ (fun X : zp_X => ∃ H1, X = (.inl none, H1) ∧ zk_Bs zR zg zJ H1 ∧ zx_F a H0 H1 ∧ (a : Int) ≤ (H1.2.1 72 45).toInt ∧ yFin T n s0 Hq H1) zm_192 [] (d + 6) (29, lv, [], H, (0, 0)) := by
  intro m
  induction m using Nat.strongRecOn with
  | ind m ih =>
    intro H lv x1 hm l0 l1 h hF ha hp hJ
    have W := zR_Wd (zR_dn h.1)
    have pH := zx_phi_le h.1
    refine zw_ld (n := 1) (k := 1) (f := zp_isI) (pc' := 30) rfl rfl l1 rfl rfl ?_
    refine zw_beq1 (g := 325) (pc' := 33) rfl rfl rfl rfl (fun h1 => ?_) (fun h1 => ?_)
    · exact yx_exE hby l0 h hF ha (hJ.resolve_left (fun h9 => h9.1 h1)).2
    · rw [if_neg h1] at hm
      have hO := (hJ.resolve_right (fun h9 => h1 h9.1)).2
      refine zw_ld (n := 1) (k := 0) (f := zp_isR) (pc' := 34) rfl rfl l0 rfl rfl ?_
      by_cases hg : (H.2.1 72 23).toInt = 0
      · refine zw_c (pc' := 37) (zw_cv (q := 72) (Y := zm_175) W.1 rfl rfl zm_175_t rfl rfl) rfl rfl rfl rfl rfl (zq_good1 W hg) ?_
        refine zw_beq1 (g := 325) (pc' := 40) rfl rfl rfl (rfl : _ = (1 : Int)) (fun h9 => absurd h9 (by decide)) (fun hb => ?_)
        refine zw_ld (n := 1) (k := 0) (f := zp_isR) (pc' := 41) rfl rfl l0 rfl rfl ?_
        have bk : ∀ (R : zp_H) (lv1 : zp_LV) (x : Int32), zp_get lv1 0 = some (.inr (.inr (some 73))) → zp_get lv1 1 = some (.inl x) → zx_S a 1 0 R → zx_F a H0 R → (a : Int) ≤ (R.2.1 72 45).toInt → zx_phi H0 ≤ zx_phi R → (zx_phi H + 2 ≤ zx_phi R ∨ (x.toInt = 0 ∧ zx_phi H ≤ zx_phi R)) → ((x.toInt ≠ 0 ∧ yO T n s0 Hq R) ∨ (x.toInt = 0 ∧ yZ T n s0 Hq R)) → zs_Safe L σ (fun X : zp_X => ∃ H1, X = (.inl none, H1) ∧ zk_Bs zR zg zJ H1 ∧ zx_F a H0 H1 ∧ (a : Int) ≤ (H1.2.1 72 45).toInt ∧ yFin T n s0 Hq H1) zm_192 [] (d + 6) (29, lv1, [], R, (0, 0)) := by
          intro R lv1 x m0 m1 mS mF ma mp mq mJ
          have pR := zx_phi_le mS.1
          refine ih _ ?_ R lv1 x rfl m0 m1 mS mF ma mp mJ
          rcases mq with mq | ⟨mq, mr⟩
          · split <;> omega
          · rw [if_pos mq]; omega
        obtain ⟨_, lvb, p, hlv, hV, hR⟩ := hO.resolve_right (fun h9 => yBad_g h9 hg)
        have hwd := yr_wd hV.2.2.1 hV.2.1
        obtain ⟨v, v1, v2⟩ := hK (d + 2) H h.1
        refine zw_c (pc' := 44) (zw_cv (q := 72) (Y := zm_177) W.1 rfl rfl zm_177_t rfl rfl) rfl rfl rfl rfl rfl (v1) ?_
        refine zw_st (n := 1) (k := 2) (f := zp_isI) (pc' := 45) rfl rfl rfl rfl rfl ?_
        refine zw_ld (n := 1) (k := 2) (f := zp_isI) (pc' := 46) rfl rfl zw_g1 rfl rfl ?_
        refine zw_s (pc' := 48) rfl rfl ?_
        refine zw_beq2 (g := 57) (pc' := 51) rfl rfl rfl rfl (rfl : _ = (18 : Int)) (fun hA => ?_) (fun hA => ?_)
        · have q1 := hwd.2.1.mp (v2.symm.trans hA)
          exact yx_ex57 hby hK (zw_gt l0 rfl rfl) (zw_gt l1 rfl rfl) h1 zw_g1 (zg_s (by omega)) ⟨q1.1, Or.inl q1.2⟩ ⟨fun _ => q1.2, fun _ => hA⟩ h hF ha hp hg hlv hV hR bk
        · refine zw_ld (n := 1) (k := 2) (f := zp_isI) (pc' := 52) rfl rfl zw_g1 rfl rfl ?_
          refine zw_s (pc' := 54) rfl rfl ?_
          refine zw_bne2 (g := 109) (pc' := 57) rfl rfl rfl rfl (rfl : _ = (19 : Int)) (fun hO2 => ?_) (fun hO2 => ?_)
          · have n1 : ¬ (ys_kd T n p = 3 ∧ (ys_vl T n p = 9 ∨ ys_vl T n p = 8)) := by
              rintro ⟨h8, h9 | h9⟩
              · exact hA (v2.trans (hwd.2.1.mpr ⟨h8, h9⟩))
              · exact hO2 (v2.trans (hwd.2.2.1.mpr ⟨h8, h9⟩))
            exact yx_ex109 hby hK (zw_gt l0 rfl rfl) (zw_gt l1 rfl rfl) h1 h hF ha hp hg hlv hV hR n1 bk
          · have q1 := hwd.2.2.1.mp (v2.symm.trans hO2)
            exact yx_ex57 hby hK (zw_gt l0 rfl rfl) (zw_gt l1 rfl rfl) h1 zw_g1 (zg_s (by omega)) ⟨q1.1, Or.inr q1.2⟩ ⟨fun h7 => absurd h7 hA, fun h7 => by have := q1.2; omega⟩ h hF ha hp hg hlv hV hR bk
      · refine zw_c (pc' := 37) (zw_cv (q := 72) (Y := zm_175) W.1 rfl rfl zm_175_t rfl rfl) rfl rfl rfl rfl rfl (zq_good0 W hg) ?_
        refine zw_beq1 (g := 325) (pc' := 40) rfl rfl rfl (rfl : _ = (0 : Int)) (fun hb => ?_) (fun h9 => absurd h9 (by decide))
        exact yx_exE hby l0 h hF ha (Or.inr (hO.resolve_left (fun h9 => hg h9.1)))

set_option maxRecDepth 8000 in
theorem yx_expr {L : Nat} {σ : Nat → Int32} {d : Nat} {T : Nat → Int} {n p : Nat} {H : zp_H} (hby : ∀ k, k < n → -128 ≤ T k ∧ T k ≤ 127) (hK : zx_KW L σ) (hB : zk_Bs zR zg zJ H) (h0 : (H.2.1 72 23).toInt = 0) (ht : (H.2.1 72 45).toInt + 2 ≤ zx_phi H) (hV : yr_T T n H ∧ yr_k T n p H ∧ p ≤ n) : ∃ X, zp_Call L σ (d + 7) 192 [.inr (.inr (some 73))] H X ∧ (fun X : zp_X => ∃ H1, X = (.inl none, H1) ∧ zk_Bs zR zg zJ H1 ∧ zx_F (H.2.1 72 45).toInt.toNat H H1 ∧ ((H.2.1 72 45).toInt.toNat : Int) ≤ (H1.2.1 72 45).toInt ∧ yFin T n (2, [false], p) (zw_I (zw_I H 72 46 (Int32.ofInt 0)) 72 47 (Int32.ofInt 0)) H1) X := by
  have W := zR_Wd (zR_dn hB)
  have t0 := zR_fr1 (zR_dn hB) (k := 45) (r := (0, 1600)) rfl rfl
  have t0 : 0 ≤ (H.2.1 72 45).toInt ∧ _ := t0
  have pH := zx_phi_le hB
  refine zw_met zm_192_t rfl rfl ?_
  refine zw_ld (n := 1) (k := 0) (f := zp_isR) (pc' := 1) rfl rfl rfl rfl rfl ?_
  refine zw_c (pc' := 4) (zw_cv (q := 72) (Y := zm_175) W.1 rfl rfl zm_175_t rfl rfl) rfl rfl rfl rfl rfl (zq_good1 W h0) ?_
  refine zw_bne1 (g := 8) (pc' := 7) rfl rfl rfl (rfl : _ = (1 : Int)) (fun hb => ?_) (fun h9 => absurd h9 (by decide))
  refine zw_ld (n := 1) (k := 0) (f := zp_isR) (pc' := 9) rfl rfl rfl rfl rfl ?_
  refine zw_s (pc' := 10) rfl rfl ?_
  refine zw_pI (q := 72) (pc' := 13) W rfl rfl rfl rfl rfl rfl ?_
  refine zw_ld (n := 1) (k := 0) (f := zp_isR) (pc' := 14) rfl rfl rfl rfl rfl ?_
  refine zw_s (pc' := 15) rfl rfl ?_
  refine zw_pI (q := 72) (pc' := 18) W rfl rfl rfl rfl rfl rfl ?_
  refine zw_ld (n := 1) (k := 0) (f := zp_isR) (pc' := 19) rfl rfl rfl rfl rfl ?_
  have hS : zx_S (H.2.1 72 45).toInt.toNat 0 1 (zw_I (zw_I H 72 46 (Int32.ofInt 0)) 72 47 (Int32.ofInt 0)) := by
    generalize hK9 : zw_I (zw_I H 72 46 (Int32.ofInt 0)) 72 47 (Int32.ofInt 0) = K
    have b0 := zR_dn hB
    have b1 := zR_putf (k := 46) (x := Int32.ofInt 0) b0 (fun r hr => by cases hr; exact ⟨by decide, by decide⟩) rfl (zJ_I rfl b0.2.2.2.2.2.2.2)
    have b2 := zR_putf (k := 47) (x := Int32.ofInt 0) b1 (fun r hr => by cases hr; exact ⟨by decide, by decide⟩) rfl (zJ_I rfl b1.2.2.2.2.2.2.2)
    rw [hK9] at b2
    have f : ∀ k, Nat.beq k 46 = false → Nat.beq k 47 = false → K.2.1 72 k = H.2.1 72 k := fun k hk hk2 => by rw [← hK9]; exact zw_ne (zw_ne rfl (by rw [hk]; rfl)) (by rw [hk2]; rfl)
    have f46 : K.2.1 72 46 = Int32.ofInt 0 := by rw [← hK9]; exact zw_ne zw_eq rfl
    have f47 : K.2.1 72 47 = Int32.ofInt 0 := by rw [← hK9]; exact zw_eq
    have e0 : (Int32.ofInt 0).toInt = 0 := rfl
    have hphi : zx_phi K = zx_phi H := zx_phi_e (f 27 rfl rfl) (f 28 rfl rfl)
    refine ⟨zR_up b2 ?_, by rw [f 45 rfl rfl, f46, e0]; omega, by rw [f46, e0]; omega, fun _ => ⟨by rw [hphi, f 45 rfl rfl, f46, e0]; omega, by rw [hphi, f46, e0]; omega, ?_, ?_, 0, ?_⟩⟩
    · have c := zR_cn hB
      unfold zR_cc
      rw [f 23 rfl rfl, f 34 rfl rfl, f 35 rfl rfl]
      exact c
    · rw [f46, f47, e0]; rfl
    · rw [f46, e0]
      intro i hi
      exact absurd hi (Nat.not_lt_zero _)
    · rw [f46, f 45 rfl rfl, e0]; rfl
  have hF : zx_F (H.2.1 72 45).toInt.toNat H (zw_I (zw_I H 72 46 (Int32.ofInt 0)) 72 47 (Int32.ofInt 0)) := ⟨zk_Fr_I (zk_Fr_I (zk_Fr_r H) rfl rfl) rfl rfl, fun i _ => zw_ne (zw_ne rfl rfl) rfl⟩
  have hph : zx_phi (zw_I (zw_I H 72 46 (Int32.ofInt 0)) 72 47 (Int32.ofInt 0)) = zx_phi H := zx_phi_e (zw_ne (zw_ne rfl rfl) rfl) (zw_ne (zw_ne rfl rfl) rfl)
  have e45 : (zw_I (zw_I H 72 46 (Int32.ofInt 0)) 72 47 (Int32.ofInt 0)).2.1 72 45 = H.2.1 72 45 := zw_ne (zw_ne rfl rfl) rfl
  have hVs : yV T n [] p (zw_I (zw_I H 72 46 (Int32.ofInt 0)) 72 47 (Int32.ofInt 0)) := by
    refine ⟨yr_T_I (yr_T_I hV.1 rfl) rfl, yr_k_c (fun k hk => zw_ne (zw_ne rfl ?_) ?_) rfl hV.2.1, hV.2.2, congrArg Int32.toInt zw_eq, trivial⟩
    · rcases (show k = 27 ∨ k = 28 ∨ k = 29 ∨ k = 30 ∨ k = 31 ∨ k = 32 by omega) with rfl | rfl | rfl | rfl | rfl | rfl <;> rfl
    · rcases (show k = 27 ∨ k = 28 ∨ k = 29 ∨ k = 30 ∨ k = 31 ∨ k = 32 by omega) with rfl | rfl | rfl | rfl | rfl | rfl <;> rfl
  have hg0 : ((zw_I (zw_I H 72 46 (Int32.ofInt 0)) 72 47 (Int32.ofInt 0)).2.1 72 23).toInt = 0 := (congrArg Int32.toInt (zw_ne (zw_ne rfl rfl) rfl)).trans h0
  obtain ⟨_, c1, K, rfl, c2, c3, c4, c5, c6⟩ := yx_deeper (L := L) (σ := σ) (d := d + 3) hby hS hg0 hVs
  rw [e45] at c5
  have WK := zR_Wd (zR_dn c2.1)
  obtain ⟨cg, _, cV⟩ := c6.resolve_right (fun h9 => h9.1 (by decide))
  obtain ⟨_, d1, R, rfl, d2, d3, d4, d5, d6, d7⟩ := yx_operand (L := L) (σ := σ) (d := d) (y := Int32.ofInt 1) hby hK c2 (by omega) cg cV (List.cons_ne_nil _ _)
  rw [if_neg (by decide)] at d7
  have WR := zR_Wd (zR_dn d2.1)
  refine zw_cn (pc' := 22) (zw_cv (q := 72) (Y := zm_193) W.1 rfl rfl zm_193_t rfl rfl) rfl rfl rfl rfl rfl (c1) ?_
  refine zw_ld (n := 1) (k := 0) (f := zp_isR) (pc' := 23) rfl rfl rfl rfl rfl ?_
  refine zw_s (pc' := 24) rfl rfl ?_
  refine zw_cn (pc' := 27) (zw_cv (q := 72) (Y := zm_195) WK.1 rfl rfl zm_195_t rfl rfl) rfl rfl rfl rfl rfl (d1) ?_
  refine zw_s (pc' := 28) rfl rfl ?_
  refine zw_st (n := 1) (k := 1) (f := zp_isI) (pc' := 29) rfl rfl rfl rfl rfl ?_
  exact yx_exL hby hK _ R _ _ rfl (zw_gt rfl rfl rfl) zw_g1 d2 (zx_F_t hF (zx_F_t c3 d3)) d5 (by omega) (Or.inl ⟨by decide, yO_R ⟨yR_r, fun a' W' O' k' => ⟨W', O', xV_deep (d := d + 5) (zw_W_I (zw_W_I W)) (by rw [show (zw_I (zw_I H 72 46 (Int32.ofInt 0)) 72 47 (Int32.ofInt 0)).2.1 72 47 = Int32.ofInt 0 from zw_eq]; exact ⟨by decide, by decide⟩) c1 k', yTR_r⟩⟩ d7⟩)
end
section
/-! ===== a whole text, said once for both sides: a machine over tokens ===== -/
/-- 0 first, 1 wide, 2 high, 3 rocks, 4 slates, 5 hands, 6 pilots, 7 rules, 8 school told, 9 goal told; the rocks; cells with a current -/
abbrev yLD : Type := (Nat → Int) × Int64 × (Nat → Bool)
/-- mode, brackets, a number kept, a count, bits, what was told, place -/
abbrev yL : Type := Nat × List Bool × Int × Int × Int32 × yLD × Nat
def yU (f : Nat → Int) (k : Nat) (v : Int) : Nat → Int := fun j => if j = k then v else f j
def yUb (f : Nat → Bool) (k : Int) : Nat → Bool := fun j => if (j : Int) = k then true else f j
/-- a number from lo to hi, or the fault -/
def yNu (T : Nat → Int) (n p : Nat) (lo hi : Int) (ok : Int → yL) : yL ⊕ (Int × Nat) := if ys_kd T n p = 2 then (if lo ≤ ys_vl T n p ∧ ys_vl T n p ≤ hi then .inl (ok (ys_vl T n p)) else .inr (2, p)) else .inr (1, p)
def yBit (c : Int) : Int64 := za_shl0 (Int64.ofNat 1) (Int32.ofInt c)
/-- datum i is told: v -/
def yW (d : yLD) (i : Nat) (v : Int) : yLD := (yU d.1 i v, d.2.1, yUb d.2.2 (1000 + (i : Int)))
def yWcu (d : yLD) (x v : Int) : yLD := (yU (yU d.1 (100 + x.toNat % 64) v) 13 (d.1 13 + 1), d.2.1, yUb (yUb d.2.2 (1000 + ((100 + x.toNat % 64 : Nat) : Int))) x)
theorem yWcu_e {d : yLD} {x v : Int} (h : 0 ≤ x ∧ x < 64) : yWcu d x v = (yU (yU d.1 (100 + x.toNat) v) 13 (d.1 13 + 1), d.2.1, yUb (yUb d.2.2 (1000 + ((100 + x.toNat : Nat) : Int))) x) := by
  unfold yWcu
  rw [Nat.mod_eq_of_lt (by omega)]
def yWsl (d : yLD) (x v : Int) : yLD := yW (yW (yW (yW d (200 + (d.1 4).toNat) x) (210 + (d.1 4).toNat) v) (220 + (d.1 4).toNat) 0) (230 + (d.1 4).toNat) 0
def yWmk (d : yLD) (a x v : Int) : yLD := yW (yW (yW d (300 + (8 * (d.1 4).toNat + a.toNat)) x) (400 + (8 * (d.1 4).toNat + a.toNat)) v) (220 + (d.1 4).toNat) (a + 1)
def yWpi (d : yLD) (x a : Int) (y : Int32) : yLD := yW (yW (yW (yU d.1 6 (d.1 6 + 1), d.2) (600 + (d.1 6).toNat) x) (610 + (d.1 6).toNat) a) (620 + (d.1 6).toNat) y.toInt
def yWha (d : yLD) (v : Int) : yLD := (yU (yW d (500 + (4 * (d.1 5).toNat + 3)) v).1 5 ((yW d (500 + (4 * (d.1 5).toNat + 3)) v).1 5 + 1), (yW d (500 + (4 * (d.1 5).toNat + 3)) v).2)
/-- a rule's row begins at place p; it ends at place p -/
def yDR (d : yLD) (p : Nat) : yLD := (yU d.1 14 (d.1 14 * 1024 + (p : Int)), d.2)
def yDG (d : yLD) (p : Nat) : yLD := (yU d.1 15 (p : Int), d.2)
def y0 (T : Nat → Int) (n : Nat) (d : yLD) (p : Nat) : yL ⊕ (Int × Nat) :=
  if ys_kd T n p = 0 then .inr (0, p)
  else if ys_kd T n p ≠ 3 then .inr (1, p)
  else if ys_vl T n p = 12 then (if d.1 0 ≠ 0 then .inl (1, [], 0, 0, 0, d, ys_nx T n p) else .inr (5, p))
  else if ys_vl T n p = 13 then (if d.1 3 < 20 then .inl (3, [], 0, 0, 0, d, ys_nx T n p) else .inr (2, p))
  else if ys_vl T n p = 14 then .inl (5, [], 0, 0, 0, d, ys_nx T n p)
  else if ys_vl T n p = 15 then (if d.1 4 < 8 then .inl (8, [], 0, 0, 0, d, ys_nx T n p) else .inr (2, p))
  else if ys_vl T n p = 16 then (if d.1 5 < 5 then .inl (13, [], 0, 12, 0, d, ys_nx T n p) else .inr (2, p))
  else if ys_vl T n p = 17 then (if d.1 8 = 0 then .inl (15, [], 0, 0, 0, d, ys_nx T n p) else .inr (5, p))
  else if ys_vl T n p = 18 then (if d.1 9 = 0 then .inl (18, [], 0, 0, 0, d, ys_nx T n p) else .inr (5, p))
  else if ys_vl T n p = 19 then (if d.1 6 < 4 then .inl (19, [], 0, 0, 0, d, ys_nx T n p) else .inr (2, p))
  else if ys_vl T n p = 20 then (if d.1 7 < 8 then .inl (102, [false], 0, 0, 0, yDR d (ys_nx T n p), ys_nx T n p) else .inr (2, p))
  else .inr (1, p)
def yN2 (T : Nat → Int) (n : Nat) (s : yL) : yL ⊕ (Int × Nat) :=
  let lv := s.2.1; let x := s.2.2.1; let a := s.2.2.2.1; let y := s.2.2.2.2.1; let d := s.2.2.2.2.2.1; let p := s.2.2.2.2.2.2
  if 100 ≤ s.1 then
    (match yN T n (s.1 - 100, lv, p) with
    | .inl m => .inl (100 + m.1, m.2.1, 0, 0, 0, d, m.2.2)
    | .inr r => if r.1 = 0 then .inl (40, [], 0, 0, 0, d, r.2) else .inr r)
  else if s.1 = 0 then y0 T n d p
  else if s.1 = 1 then yNu T n p 2 8 (fun v => (2, [], v, 0, 0, d, ys_nx T n p))
  else if s.1 = 2 then yNu T n p 2 8 (fun v => (50, [], 0, 0, 0, (yU (yU d.1 1 x) 2 v, d.2), ys_nx T n p))
  else if s.1 = 3 then yNu T n p 0 (d.1 1 - 1) (fun v => (4, [], v, 0, 0, d, ys_nx T n p))
  else if s.1 = 4 then
    (match yNu T n p 0 (d.1 2 - 1) (fun v => (50, [], d.1 1 * v + x, 0, 0, d, ys_nx T n p)) with
    | .inr r => .inr r
    | .inl t => if d.2.1 &&& yBit t.2.2.1 = 0 then .inl (50, [], 0, 0, 0, (yU d.1 3 (d.1 3 + 1), d.2.1 ||| yBit t.2.2.1, d.2.2), ys_nx T n p) else .inr (4, p))
  else if s.1 = 5 then yNu T n p 0 (d.1 1 - 1) (fun v => (6, [], v, 0, 0, d, ys_nx T n p))
  else if s.1 = 6 then
    (match yNu T n p 0 (d.1 2 - 1) (fun v => (7, [], d.1 1 * v + x, 0, 0, d, ys_nx T n p)) with
    | .inr r => .inr r
    | .inl t => if d.2.2 t.2.2.1.toNat then .inr (4, p) else .inl t)
  else if s.1 = 7 then (if ys_kd T n p = 3 ∧ ys_vl T n p < 4 then .inl (50, [], 0, 0, 0, yWcu d x (ys_vl T n p), ys_nx T n p) else .inr (1, p))
  else if s.1 = 8 then yNu T n p 0 (d.1 1 - 1) (fun v => (9, [], v, 0, 0, d, ys_nx T n p))
  else if s.1 = 9 then yNu T n p 0 (d.1 2 - 1) (fun v => (10, [], d.1 1 * v + x, 0, 0, d, ys_nx T n p))
  else if s.1 = 10 then yNu T n p 0 99 (fun v => (11, [], 0, 0, 0, yWsl d x v, ys_nx T n p))
  else if s.1 = 11 then
    (if ys_kd T n p = 3 ∧ ys_vl T n p < 4 then (if a = 8 then .inr (2, p) else .inl (12, [], ys_vl T n p, a, 0, d, ys_nx T n p))
    else .inl (50, [], 0, 0, 0, (yU d.1 4 (d.1 4 + 1), d.2), p))
  else if s.1 = 12 then yNu T n p 1 9 (fun v => (11, [], 0, a + 1, 0, yWmk d a x v, ys_nx T n p))
  else if s.1 = 13 then
    (if x < 3 then yNu T n p 0 12 (fun v => (13, [], x + 1, a - v, 0, yW d (500 + (4 * (d.1 5).toNat + x.toNat)) v, ys_nx T n p))
    else yNu T n p a a (fun v => (50, [], 0, 0, 0, yWha d v, ys_nx T n p)))
  else if s.1 = 15 then yNu T n p 0 (d.1 1 - 1) (fun v => (16, [], v, 0, 0, d, ys_nx T n p))
  else if s.1 = 16 then yNu T n p 0 (d.1 2 - 1) (fun v => (17, [], d.1 1 * v + x, 0, 0, d, ys_nx T n p))
  else if s.1 = 17 then yNu T n p 0 9 (fun v => (50, [], 0, 0, 0, yW (yW (yU d.1 8 1, d.2) 20 x) 21 v, ys_nx T n p))
  else if s.1 = 18 then yNu T n p 0 7 (fun v => (50, [], 0, 0, 0, yW (yU d.1 9 1, d.2) 22 v, ys_nx T n p))
  else if s.1 = 19 then yNu T n p 0 (d.1 1 - 1) (fun v => (20, [], v, 0, 0, d, ys_nx T n p))
  else if s.1 = 20 then yNu T n p 0 (d.1 2 - 1) (fun v => (21, [], d.1 1 * v + x, 0, 0, d, ys_nx T n p))
  else if s.1 = 21 then yNu T n p 0 99 (fun v => (22, [], x, v, 0, d, ys_nx T n p))
  else if s.1 = 22 then
    (if ys_kd T n p = 2 then
      (if 9999 < ys_vl T n p then .inr (2, p)
      else if d.1 4 ≤ ys_vl T n p then .inr (3, p)
      else if y >>> (Int32.ofInt (ys_vl T n p) &&& 31) &&& Int32.ofInt 1 ≠ Int32.ofInt 0 then .inr (4, p)
      else .inl (22, [], x, a, y ||| Int32.ofInt 1 <<< (Int32.ofInt (ys_vl T n p) &&& 31), d, ys_nx T n p))
    else .inl (50, [], 0, 0, 0, yWpi d x a y, p))
  else if s.1 = 40 then (if ys_kd T n p = 3 ∧ ys_vl T n p = 11 then .inl (41, [], 0, 0, 0, yDG d (ys_nx T n p), ys_nx T n p) else .inr (1, p))
  else if s.1 = 41 then (if ys_kd T n p = 3 ∧ ys_vl T n p < 4 then .inl (50, [], 0, 0, 0, yW (yU d.1 7 (d.1 7 + 1), d.2) (700 + (d.1 7).toNat) (ys_vl T n p), ys_nx T n p) else .inr (1, p))
  else (if ys_kd T n p = 4 ∧ ys_vl T n p = 59 then .inl (0, [], 0, 0, 0, (yU d.1 0 0, d.2), ys_nx T n p) else .inr (1, p))
def yA2f (T : Nat → Int) (n : Nat) : Nat → yL → Option (Int × Nat)
  | 0, _ => none
  | f + 1, s => match yN2 T n s with
    | .inr r => some r
    | .inl s' => yA2f T n f s'
def yA2 (T : Nat → Int) (n : Nat) (s : yL) (r : Int × Nat) : Prop := ∃ f, yA2f T n f s = some r
theorem yA2f_d {T : Nat → Int} {n f : Nat} {s : yL} {r : Int × Nat} (h : yN2 T n s = .inr r) : yA2f T n (f + 1) s = some r := by
  unfold yA2f
  rw [h]
theorem yA2f_s {T : Nat → Int} {n f : Nat} {s s' : yL} (h : yN2 T n s = .inl s') : yA2f T n (f + 1) s = yA2f T n f s' := by
  show (match yN2 T n s with
    | .inr r => some r
    | .inl s' => yA2f T n f s') = _
  rw [h]
theorem yA2_done {T : Nat → Int} {n : Nat} {s : yL} {r : Int × Nat} (h : yN2 T n s = .inr r) : yA2 T n s r := ⟨1, yA2f_d h⟩
theorem yA2_step {T : Nat → Int} {n : Nat} {s s' : yL} {r : Int × Nat} (h : yN2 T n s = .inl s') (h1 : yA2 T n s' r) : yA2 T n s r := by
  obtain ⟨f, hf⟩ := h1
  exact ⟨f + 1, (yA2f_s h).trans hf⟩
theorem yA2f_u {T : Nat → Int} {n : Nat} {r r' : Int × Nat} : ∀ (f f' : Nat) (s : yL), yA2f T n f s = some r → yA2f T n f' s = some r' → r = r'
  | 0, _, _, h, _ => by cases h
  | _ + 1, 0, _, _, h => by cases h
  | f + 1, f' + 1, s, h, h' => by
    cases hN : yN2 T n s with
    | inr r9 =>
      rw [yA2f_d hN] at h h'
      exact (Option.some.inj h).symm.trans (Option.some.inj h')
    | inl s' =>
      rw [yA2f_s hN] at h h'
      exact yA2f_u f f' s' h h'
theorem yA2_u {T : Nat → Int} {n : Nat} {s : yL} {r r' : Int × Nat} (h : yA2 T n s r) (h' : yA2 T n s r') : r = r' := by
  obtain ⟨f, h⟩ := h
  obtain ⟨f', h'⟩ := h'
  exact yA2f_u f f' s h h'
/-- s' is reached from s -/
def yIt (T : Nat → Int) (n : Nat) : Nat → yL → Option yL
  | 0, s => some s
  | f + 1, s => match yN2 T n s with
    | .inr _ => none
    | .inl s' => yIt T n f s'
def yO2 (T : Nat → Int) (n : Nat) (s : yL) (o : (Int × Nat) ⊕ yL) : Prop := match o with
  | .inl r => yA2 T n s r
  | .inr t => ∃ f, yIt T n f s = some t
def yR2 (T : Nat → Int) (n : Nat) (s s' : yL) : Prop := ∀ o, yO2 T n s' o → yO2 T n s o
theorem yR2_a {T : Nat → Int} {n : Nat} {s s' : yL} {r : Int × Nat} (h : yR2 T n s s') (h1 : yA2 T n s' r) : yA2 T n s r := h (.inl r) h1
theorem yR2_r {T : Nat → Int} {n : Nat} {s : yL} : yR2 T n s s := fun _ h => h
theorem yR2_t {T : Nat → Int} {n : Nat} {s s' s'' : yL} (h1 : yR2 T n s s') (h2 : yR2 T n s' s'') : yR2 T n s s'' := fun o h => h1 o (h2 o h)
theorem yR2_s {T : Nat → Int} {n : Nat} {s s' : yL} (h : yN2 T n s = .inl s') : yR2 T n s s' := fun o h1 => by
  match o, h1 with
  | .inl r, h1 => exact yA2_step h h1
  | .inr t, ⟨f, h1⟩ =>
    refine ⟨f + 1, ?_⟩
    show (match yN2 T n s with
      | .inr _ => none
      | .inl s' => yIt T n f s') = _
    rw [h]
    exact h1
theorem yIt_u {T : Nat → Int} {n : Nat} {t t' : yL} {r r' : Int × Nat} (e : yN2 T n t = .inr r) (e' : yN2 T n t' = .inr r') : ∀ (f f' : Nat) (s : yL), yIt T n f s = some t → yIt T n f' s = some t' → t = t'
  | 0, 0, _, h, h' => (Option.some.inj h).symm.trans (Option.some.inj h')
  | 0, f' + 1, s, h, h' => by
    have h : s = t := Option.some.inj h
    subst h
    have h' : (match yN2 T n s with
      | .inr _ => none
      | .inl s' => yIt T n f' s') = some t' := h'
    rw [e] at h'
    cases h'
  | f + 1, 0, s, h, h' => by
    have h' : s = t' := Option.some.inj h'
    subst h'
    have h : (match yN2 T n s with
      | .inr _ => none
      | .inl s' => yIt T n f s') = some t := h
    rw [e'] at h
    cases h
  | f + 1, f' + 1, s, h, h' => by
    have h : (match yN2 T n s with
      | .inr _ => none
      | .inl s' => yIt T n f s') = some t := h
    have h' : (match yN2 T n s with
      | .inr _ => none
      | .inl s' => yIt T n f' s') = some t' := h'
    cases hN : yN2 T n s with
    | inr r9 =>
      rw [hN] at h
      cases h
    | inl s' =>
      rw [hN] at h h'
      exact yIt_u e e' f f' s' h h'
/-- both ends of a text are one -/
theorem yR2_u {T : Nat → Int} {n : Nat} {s t t' : yL} {r r' : Int × Nat} (e : yN2 T n t = .inr r) (e' : yN2 T n t' = .inr r') (h : yR2 T n s t) (h' : yR2 T n s t') : t = t' := by
  obtain ⟨f, h⟩ := h (.inr t) ⟨0, rfl⟩
  obtain ⟨f', h'⟩ := h' (.inr t') ⟨0, rfl⟩
  exact yIt_u e e' f f' s h h'
/-- an expression within a text -/
theorem yN2_x {T : Nat → Int} {n m p : Nat} {lv : List Bool} {d : yLD} : yN2 T n (100 + m, lv, 0, 0, 0, d, p) = (match yN T n (m, lv, p) with
    | .inl m => .inl (100 + m.1, m.2.1, 0, 0, 0, d, m.2.2)
    | .inr r => if r.1 = 0 then .inl (40, [], 0, 0, 0, d, r.2) else .inr r) := by
  unfold yN2
  rw [if_pos (show 100 ≤ (100 + m, lv, (0 : Int), (0 : Int), (0 : Int32), d, p).1 from Nat.le_add_right _ _), show (100 + m, lv, (0 : Int), (0 : Int), (0 : Int32), d, p).1 - 100 = m from Nat.add_sub_cancel_left 100 m]
theorem yA_2 {T : Nat → Int} {n : Nat} {d : yLD} {r : Int × Nat} : ∀ (f : Nat) (s : yM), yAf T n f s = some r → (r.1 = 0 → yR2 T n (100 + s.1, s.2.1, 0, 0, 0, d, s.2.2) (40, [], 0, 0, 0, d, r.2)) ∧ (r.1 ≠ 0 → yA2 T n (100 + s.1, s.2.1, 0, 0, 0, d, s.2.2) r)
  | 0, _, h => by cases h
  | f + 1, (m, lv, p), h => by
    have e := yN2_x (T := T) (n := n) (m := m) (p := p) (lv := lv) (d := d)
    cases hN : yN T n (m, lv, p) with
    | inr r9 =>
      rw [yAf_d hN] at h
      obtain rfl := Option.some.inj h
      rw [hN] at e
      constructor
      · intro h0
        refine yR2_s (e.trans ?_)
        show (if r9.1 = 0 then _ else _) = _
        rw [if_pos h0]
      · intro h0
        refine yA2_done (e.trans ?_)
        show (if r9.1 = 0 then _ else _) = _
        rw [if_neg h0]
    | inl s' =>
      rw [yAf_s hN] at h
      rw [hN] at e
      obtain ⟨k1, k2⟩ := yA_2 f s' h
      exact ⟨fun h0 => yR2_t (yR2_s e) (k1 h0), fun h0 => yA2_step e (k2 h0)⟩
theorem yA_20 {T : Nat → Int} {n p q : Nat} {d : yLD} (h : yA T n (2, [false], p) (0, q)) : yR2 T n (102, [false], 0, 0, 0, d, p) (40, [], 0, 0, 0, d, q) := by
  obtain ⟨f, h⟩ := h
  exact (yA_2 f _ h).1 rfl
theorem yA_2k {T : Nat → Int} {n p : Nat} {d : yLD} {r : Int × Nat} (h : yA T n (2, [false], p) r) (hr : r.1 ≠ 0) : yA2 T n (102, [false], 0, 0, 0, d, p) r := by
  obtain ⟨f, h⟩ := h
  exact (yA_2 f _ h).2 hr
/-! told data stand at their places, but those of a list -/
def yXd (loc : Nat → Nat × Nat) (e : List Nat) (d : yLD) (H : zp_H) : Prop := ∀ i, 20 ≤ i → d.2.2 (1000 + i) = true → i ∉ e → (H.2.1 (loc i).1 (loc i).2).toInt = d.1 i
def yInj (loc : Nat → Nat × Nat) : Prop := ∀ i j, 20 ≤ i → 20 ≤ j → loc i = loc j → i = j
theorem yW_n {d : yLD} {i j : Nat} {v : Int} (h : j ≠ i) : (yW d i v).1 j = d.1 j := if_neg h
theorem yW_e {d : yLD} {i : Nat} {v : Int} : (yW d i v).1 i = v := if_pos rfl
theorem yW_fn {d : yLD} {i j : Nat} {v : Int} (h : j ≠ 1000 + i) : (yW d i v).2.2 j = d.2.2 j := if_neg (by omega)
theorem yW_fe {d : yLD} {i : Nat} {v : Int} : (yW d i v).2.2 (1000 + i) = true := if_pos (by omega)
section
variable {loc : Nat → Nat × Nat} {e : List Nat} {d : yLD} {H H1 : zp_H}
theorem yXd_w {i0 p k : Nat} {x : Int32} (hi : yInj loc) (h20 : 20 ≤ i0) (hl : loc i0 = (p, k)) (h : yXd loc e d H) : yXd loc (i0 :: e) d (zw_I H p k x) := by
  intro i h1 h2 h3
  have h4 : i ≠ i0 := fun h9 => h3 (by rw [h9]; exact List.mem_cons_self)
  have e1 : (zw_I H p k x).2.1 (loc i).1 (loc i).2 = H.2.1 (loc i).1 (loc i).2 := zp_u_ne (fun h9 => h4 (hi i i0 h1 h20 (by rw [hl]; exact Prod.ext h9.1 h9.2)))
  rw [e1]
  exact h i h1 h2 (fun h9 => h3 (List.mem_cons_of_mem _ h9))
theorem yXd_D {i0 : Nat} {v : Int} (h : yXd loc e d H) : yXd loc (i0 :: e) (yW d i0 v) H := by
  intro i h1 h2 h3
  have h4 : i ≠ i0 := fun h9 => h3 (by rw [h9]; exact List.mem_cons_self)
  rw [yW_fn (by omega)] at h2
  rw [yW_n h4]
  exact h i h1 h2 (fun h9 => h3 (List.mem_cons_of_mem _ h9))
theorem yXd_C {i0 : Nat} (h : yXd loc (i0 :: e) d H) (hv : (H.2.1 (loc i0).1 (loc i0).2).toInt = d.1 i0) : yXd loc e d H := by
  intro i h1 h2 h3
  by_cases h4 : i = i0
  · rw [h4]
    exact hv
  · exact h i h1 h2 (fun h9 => (List.mem_cons.mp h9).elim h4 h3)
theorem yXd_s {e' : List Nat} (hs : ∀ i, i ∈ e → i ∈ e') (h : yXd loc e d H) : yXd loc e' d H := fun i h1 h2 h3 => h i h1 h2 (fun h9 => h3 (hs i h9))
theorem yXd_k {k : Nat} {v : Int} (hk : k < 20) (h : yXd loc e d H) : yXd loc e (yU d.1 k v, d.2) H := by
  intro i h1 h2 h3
  show _ = yU d.1 k v i
  rw [show yU d.1 k v i = d.1 i from if_neg (by omega)]
  exact h i h1 h2 h3
theorem yXd_b {x : Int} (hx : x < 1000) (h : yXd loc e d H) : yXd loc e (d.1, d.2.1, yUb d.2.2 x) H := by
  intro i h1 h2 h3
  have e1 : yUb d.2.2 x (1000 + i) = d.2.2 (1000 + i) := if_neg (by omega)
  exact h i h1 (e1.symm.trans h2) h3
theorem yXd_c (hc : ∀ i, 20 ≤ i → H1.2.1 (loc i).1 (loc i).2 = H.2.1 (loc i).1 (loc i).2) (h : yXd loc e d H) : yXd loc e d H1 := by
  intro i h1 h2 h3
  rw [hc i h1]
  exact h i h1 h2 h3
/-- a write that closes a gap -/
theorem yXd_wc {i0 p k : Nat} {x : Int32} (hi : yInj loc) (h20 : 20 ≤ i0) (hl : loc i0 = (p, k)) (hv : x.toInt = d.1 i0) (h : yXd loc (i0 :: e) d H) : yXd loc e d (zw_I H p k x) := by
  intro i h1 h2 h3
  by_cases h4 : i = i0
  · rw [h4, hl]
    exact (congrArg Int32.toInt zw_eq).trans hv
  · have e1 : (zw_I H p k x).2.1 (loc i).1 (loc i).2 = H.2.1 (loc i).1 (loc i).2 := zp_u_ne (fun h9 => h4 (hi i i0 h1 h20 (by rw [hl]; exact Prod.ext h9.1 h9.2)))
    rw [e1]
    exact h i h1 h2 (fun h9 => (List.mem_cons.mp h9).elim h4 h3)
/-- a write and the datum -/
theorem yXd_wD {i0 p k : Nat} {x : Int32} {v : Int} (hi : yInj loc) (h20 : 20 ≤ i0) (hl : loc i0 = (p, k)) (hv : x.toInt = v) (h : yXd loc e d H) : yXd loc e (yW d i0 v) (zw_I H p k x) := by
  have h1 := yXd_D (i0 := i0) (v := v) (yXd_w (x := x) hi h20 hl h)
  refine yXd_C (i0 := i0) (yXd_s (fun i h9 => ?_) h1) ?_
  · rcases List.mem_cons.mp h9 with h9 | h9
    · rw [h9]; exact List.mem_cons_self
    · exact h9
  · rw [hl, yW_e]
    exact (congrArg Int32.toInt zw_eq).trans hv
end
end
