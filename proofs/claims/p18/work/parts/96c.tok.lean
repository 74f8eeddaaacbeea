/-! ===== the class goes on to its next token ===== -/
def zm_55 : za_MI := (yX9_advance, prog_11_method_3_code, 1, none, 9, 0, 0, [], za_i55)
theorem zm_55_t : za_MT 55 = some zm_55 := rfl
theorem yc_adC {L : Nat} {σ : Nat → Int32} {d : Nat} {T : Nat → Int} {n : Nat} {p : Nat} {H0 H : zp_H} {lv : zp_LV} {s : Nat} (hZ : yc_Z T n H) (hF : zk_Fr zg yc_m [] H0 H) (l0 : zp_get lv 0 = some (.inr (.inr (some 53)))) (h2 : (H.2.1 52 2).toInt = s) (hs : s ≤ n) (hp : s = ys_st T n p) : zs_Safe L σ (fun X : zp_X => ∃ H1, X = (.inl none, H1) ∧ yc_Z T n H1 ∧ zk_Fr zg yc_m [] H0 H1 ∧ yc_k T n p H1) zm_55 [] (d + 2) (52, lv, [], H, (0, 0)) := by
  have W := zB_Wd hZ.1
  have hn7 := hZ.2.1
  have r1 := hZ.2.2.1
  have b1 := zB_putf (p := 52) (k := 3) (x := H.2.1 52 2) hZ.1 rfl (fun r hr => by cases hr; exact ⟨by show (0 : Int) ≤ _; omega, by show _ ≤ (700 : Int); omega⟩) (zJc_I rfl hZ.1.2.2.2.2.2.2.2)
  have hZ1 : yc_Z T n (zw_I H 52 3 (H.2.1 52 2)) := ⟨b1, yc_T_I hZ.2 rfl⟩
  have hF1 : zk_Fr zg yc_m [] H0 (zw_I H 52 3 (H.2.1 52 2)) := zk_Fr_I hF rfl rfl
  have g3 : ((zw_I H 52 3 (H.2.1 52 2)).2.1 52 3).toInt = s := (congrArg Int32.toInt zw_eq).trans h2
  have g2 : ((zw_I H 52 3 (H.2.1 52 2)).2.1 52 2).toInt = s := (congrArg Int32.toInt (zw_ne rfl rfl)).trans h2
  have tq : s < n → ((zw_I H 52 3 (H.2.1 52 2)).2.1 1 (H.2.1 52 2).toInt.toNat).toInt = T s := by
    intro hsn
    rw [show (H.2.1 52 2).toInt.toNat = s by omega]
    exact hZ1.2.2.2 s hsn
  refine zw_ld (n := 1) (k := 0) (f := zp_isR) (pc' := 53) rfl rfl l0 rfl rfl ?_
  refine zw_ld (n := 1) (k := 0) (f := zp_isR) (pc' := 54) rfl rfl l0 rfl rfl ?_
  refine zw_gI (q := 52) (pc' := 57) W rfl rfl rfl rfl rfl rfl ?_
  refine zw_pI (q := 52) (pc' := 60) W rfl rfl rfl rfl rfl rfl ?_
  refine zw_ld (n := 1) (k := 0) (f := zp_isR) (pc' := 61) rfl rfl l0 rfl rfl ?_
  refine zw_gI (q := 52) (pc' := 64) W rfl rfl rfl rfl (zw_ne rfl rfl) rfl ?_
  refine zw_ld (n := 1) (k := 0) (f := zp_isR) (pc' := 65) rfl rfl l0 rfl rfl ?_
  refine zw_gI (q := 52) (pc' := 68) W rfl rfl rfl rfl (zw_ne rfl rfl) rfl ?_
  refine zw_blt2 (g := 79) (pc' := 71) rfl rfl rfl rfl rfl (fun hb1 => ?_) (fun hb1 => ?_)
  · have hsn : s < n := by omega
    have tq := tq hsn
    have hes : ys_nx T n p = ys_es T n s := by
      unfold ys_nx
      rw [← hp]
    have hks : ys_kd T n p = ys_ks T n s := by
      unfold ys_kd
      rw [← hp]
    have hvs : ys_vl T n p = ys_vs T s (ys_nx T n p) := by
      unfold ys_vl
      rw [← hp]
    unfold ys_es at hes
    unfold ys_ks at hks
    rw [if_neg (by omega)] at hes hks
    refine zw_ld (n := 1) (k := 0) (f := zp_isR) (pc' := 80) rfl rfl l0 rfl rfl ?_
    refine zw_gR (q := 52) (pc' := 83) W rfl rfl rfl rfl (W.2 52 0 _ rfl) rfl ?_
    refine zw_ld (n := 1) (k := 0) (f := zp_isR) (pc' := 84) rfl rfl l0 rfl rfl ?_
    refine zw_gI (q := 52) (pc' := 87) W rfl rfl rfl rfl (zw_ne rfl rfl) rfl ?_
    refine zw_ba (q := 1) (pc' := 88) W rfl rfl (by decide) (⟨by omega, by show _ < ((700 : Nat) : Int); omega⟩) (zw_ne rfl rfl) rfl ?_
    by_cases hL : 97 ≤ ((zw_I H 52 3 (H.2.1 52 2)).2.1 1 (H.2.1 52 2).toInt.toNat).toInt ∧ ((zw_I H 52 3 (H.2.1 52 2)).2.1 1 (H.2.1 52 2).toInt.toNat).toInt ≤ 122
    · refine zw_c (pc' := 91) (zw_cs (Y := zm_56) rfl rfl zm_56_t) rfl rfl rfl rfl rfl (yc_l1 hL) ?_
      refine zw_beq1 (g := 101) (pc' := 94) rfl rfl rfl (rfl : _ = (1 : Int)) (fun h9 => absurd h9 (by decide)) (fun h9 => ?_)
      have hP : ys_L (T s) = true := decide_eq_true (by rw [← tq]; exact hL)
      rw [hP] at hes hks
      have hes : ys_nx T n p = ys_run ys_L T (n - s) s := hes
      have hks : ys_kd T n p = 3 := hks
      obtain ⟨_, c1, H1, rfl, c2, c3, c4, c5, c6, c7⟩ := yc_tw (L := L) (σ := σ) (d := d) hZ1 g3 g2 (by omega) hes.symm
      refine zw_ld (n := 1) (k := 0) (f := zp_isR) (pc' := 95) rfl rfl l0 rfl rfl ?_
      refine zw_cn (pc' := 98) (zw_cv (q := 52) (Y := zm_57) W.1 rfl rfl zm_57_t rfl rfl) rfl rfl rfl rfl rfl (c1) ?_
      refine zw_s (pc' := 127) rfl rfl ?_
      refine zw_rn rfl rfl ?_
      refine ⟨H1, rfl, c2, zk_Fr_t hF1 c3, by rw [c4, ← hp], c5, by rw [c6, hks], fun _ => ?_⟩
      rw [c7, hvs]
      unfold ys_vs
      rw [hP]
      rfl
    · refine zw_c (pc' := 91) (zw_cs (Y := zm_56) rfl rfl zm_56_t) rfl rfl rfl rfl rfl (yc_l0 hL) ?_
      refine zw_beq1 (g := 101) (pc' := 94) rfl rfl rfl (rfl : _ = (0 : Int)) (fun h9 => ?_) (fun h9 => absurd h9 (by decide))
      have hP : ys_L (T s) = false := decide_eq_false (by rw [← tq]; exact hL)
      rw [hP] at hes hks
      have hes : ys_nx T n p = (bif ys_D (T s) then ys_run ys_D T (n - s) s else s + 1) := hes
      have hks : ys_kd T n p = (bif ys_D (T s) then 2 else bif ys_G (T s) then 4 else 1) := hks
      have hvs : ys_vl T n p = (bif ys_D (T s) then (if 4 < ys_nx T n p - s then 2147483647 else ys_nm T s (ys_nx T n p - s)) else T s) := by
        rw [hvs]
        unfold ys_vs
        rw [hP]
        rfl
      refine zw_ld (n := 1) (k := 0) (f := zp_isR) (pc' := 102) rfl rfl l0 rfl rfl ?_
      refine zw_gR (q := 52) (pc' := 105) W rfl rfl rfl rfl (W.2 52 0 _ rfl) rfl ?_
      refine zw_ld (n := 1) (k := 0) (f := zp_isR) (pc' := 106) rfl rfl l0 rfl rfl ?_
      refine zw_gI (q := 52) (pc' := 109) W rfl rfl rfl rfl (zw_ne rfl rfl) rfl ?_
      refine zw_ba (q := 1) (pc' := 110) W rfl rfl (by decide) (⟨by omega, by show _ < ((700 : Nat) : Int); omega⟩) (zw_ne rfl rfl) rfl ?_
      by_cases hD : 48 ≤ ((zw_I H 52 3 (H.2.1 52 2)).2.1 1 (H.2.1 52 2).toInt.toNat).toInt ∧ ((zw_I H 52 3 (H.2.1 52 2)).2.1 1 (H.2.1 52 2).toInt.toNat).toInt ≤ 57
      · refine zw_c (pc' := 113) (zw_cs (Y := zm_58) rfl rfl zm_58_t) rfl rfl rfl rfl rfl (yc_g1 hD) ?_
        refine zw_beq1 (g := 123) (pc' := 116) rfl rfl rfl (rfl : _ = (1 : Int)) (fun h9 => absurd h9 (by decide)) (fun h9 => ?_)
        have hQ : ys_D (T s) = true := decide_eq_true (by rw [← tq]; exact hD)
        rw [hQ] at hes hks hvs
        have hes : ys_nx T n p = ys_run ys_D T (n - s) s := hes
        have hks : ys_kd T n p = 2 := hks
        obtain ⟨_, c1, H1, rfl, c2, c3, c4, c5, c6, c7⟩ := yc_tn (L := L) (σ := σ) (d := d) hZ1 g3 g2 (by omega) hes.symm
        refine zw_ld (n := 1) (k := 0) (f := zp_isR) (pc' := 117) rfl rfl l0 rfl rfl ?_
        refine zw_cn (pc' := 120) (zw_cv (q := 52) (Y := zm_59) W.1 rfl rfl zm_59_t rfl rfl) rfl rfl rfl rfl rfl (c1) ?_
        refine zw_s (pc' := 127) rfl rfl ?_
        refine zw_rn rfl rfl ?_
        exact ⟨H1, rfl, c2, zk_Fr_t hF1 c3, by rw [c4, ← hp], c5, by rw [c6, hks], fun _ => c7.trans hvs.symm⟩
      · refine zw_c (pc' := 113) (zw_cs (Y := zm_58) rfl rfl zm_58_t) rfl rfl rfl rfl rfl (yc_g0 hD) ?_
        refine zw_beq1 (g := 123) (pc' := 116) rfl rfl rfl (rfl : _ = (0 : Int)) (fun h9 => ?_) (fun h9 => absurd h9 (by decide))
        have hQ : ys_D (T s) = false := decide_eq_false (by rw [← tq]; exact hD)
        rw [hQ] at hes hks hvs
        have hes : ys_nx T n p = s + 1 := hes
        obtain ⟨_, c1, H1, rfl, c2, c3, c4, c5, c6, c7⟩ := yc_ts (L := L) (σ := σ) (d := d + 1) hZ1 g3 g2 hsn
        refine zw_ld (n := 1) (k := 0) (f := zp_isR) (pc' := 124) rfl rfl l0 rfl rfl ?_
        refine zw_cn (pc' := 127) (zw_cv (q := 52) (Y := zm_60) W.1 rfl rfl zm_60_t rfl rfl) rfl rfl rfl rfl rfl (c1) ?_
        refine zw_rn rfl rfl ?_
        exact ⟨H1, rfl, c2, zk_Fr_t hF1 c3, by rw [c4, ← hp], by rw [c5, hes], c6.trans hks.symm, fun _ => c7.trans hvs.symm⟩
  · have b2 := zB_putf (p := 52) (k := 4) (x := Int32.ofInt 0) b1 rfl (fun r hr => by cases hr) (zJc_I rfl b1.2.2.2.2.2.2.2)
    have hk : ys_kd T n p = 0 := by
      unfold ys_kd ys_ks
      rw [← hp, if_pos (by omega)]
    refine zw_ld (n := 1) (k := 0) (f := zp_isR) (pc' := 72) rfl rfl l0 rfl rfl ?_
    refine zw_s (pc' := 73) rfl rfl ?_
    refine zw_pI (q := 52) (pc' := 76) W rfl rfl rfl rfl rfl rfl ?_
    refine zw_s (pc' := 127) rfl rfl ?_
    refine zw_rn rfl rfl ?_
    refine ⟨_, rfl, ⟨b2, yc_T_I hZ1.2 rfl⟩, zk_Fr_I hF1 rfl rfl, ?_, ?_, ?_, fun h9 => absurd hk h9⟩
    · exact (congrArg Int32.toInt (zw_ne rfl rfl)).trans (g3.trans (by rw [← hp]))
    · refine (congrArg Int32.toInt (zw_ne rfl rfl)).trans (g2.trans ?_)
      unfold ys_nx ys_es
      rw [← hp, if_pos (by omega)]
    · rw [hk]
      exact (congrArg Int32.toInt zw_eq).trans (by decide)

theorem yc_adL {L : Nat} {σ : Nat → Int32} {d : Nat} {T : Nat → Int} {n : Nat} {p : Nat} {H0 : zp_H} : ∀ (m : Nat) (H : zp_H) (lv : zp_LV) (q : Nat), yc_Z T n H → zk_Fr zg yc_m [] H0 H → zp_get lv 0 = some (.inr (.inr (some 53))) → (H.2.1 52 2).toInt = q → q ≤ n → ys_run ys_sp T (n - q) q = ys_st T n p → n - q ≤ m → zs_Safe L σ (fun X : zp_X => ∃ H1, X = (.inl none, H1) ∧ yc_Z T n H1 ∧ zk_Fr zg yc_m [] H0 H1 ∧ yc_k T n p H1) zm_55 [] (d + 2) (0, lv, [], H, (0, 0)) := by
  intro m
  induction m with
  | zero =>
    intro H lv q hZ hF l0 h2 hq he hm
    have W := zB_Wd hZ.1
    have hn7 := hZ.2.1
    have r1 := hZ.2.2.1
    refine zw_ld (n := 1) (k := 0) (f := zp_isR) (pc' := 1) rfl rfl l0 rfl rfl ?_
    refine zw_gI (q := 52) (pc' := 4) W rfl rfl rfl rfl rfl rfl ?_
    refine zw_ld (n := 1) (k := 0) (f := zp_isR) (pc' := 5) rfl rfl l0 rfl rfl ?_
    refine zw_gI (q := 52) (pc' := 8) W rfl rfl rfl rfl rfl rfl ?_
    refine zw_bge2 (g := 52) (pc' := 11) rfl rfl rfl rfl rfl (fun hb1 => ?_) (fun hb1 => ?_)
    · have hqe : q = ys_st T n p := by
        rw [← he, ys_run_n (by omega)]
      exact yc_adC hZ hF l0 h2 (by omega) hqe
    · omega
  | succ m ih =>
    intro H lv q hZ hF l0 h2 hq he hm
    have W := zB_Wd hZ.1
    have hn7 := hZ.2.1
    have r1 := hZ.2.2.1
    refine zw_ld (n := 1) (k := 0) (f := zp_isR) (pc' := 1) rfl rfl l0 rfl rfl ?_
    refine zw_gI (q := 52) (pc' := 4) W rfl rfl rfl rfl rfl rfl ?_
    refine zw_ld (n := 1) (k := 0) (f := zp_isR) (pc' := 5) rfl rfl l0 rfl rfl ?_
    refine zw_gI (q := 52) (pc' := 8) W rfl rfl rfl rfl rfl rfl ?_
    refine zw_bge2 (g := 52) (pc' := 11) rfl rfl rfl rfl rfl (fun hb1 => ?_) (fun hb1 => ?_)
    · have hqe : q = ys_st T n p := by
        rw [← he, ys_run_n (by omega)]
      exact yc_adC hZ hF l0 h2 (by omega) hqe
    · have tq : (H.2.1 1 (H.2.1 52 2).toInt.toNat).toInt = T q := by
        rw [show (H.2.1 52 2).toInt.toNat = q by omega]
        exact hZ.2.2.2 q (by omega)
      refine zw_ld (n := 1) (k := 0) (f := zp_isR) (pc' := 12) rfl rfl l0 rfl rfl ?_
      refine zw_gR (q := 52) (pc' := 15) W rfl rfl rfl rfl (W.2 52 0 _ rfl) rfl ?_
      refine zw_ld (n := 1) (k := 0) (f := zp_isR) (pc' := 16) rfl rfl l0 rfl rfl ?_
      refine zw_gI (q := 52) (pc' := 19) W rfl rfl rfl rfl rfl rfl ?_
      refine zw_ba (q := 1) (pc' := 20) W rfl rfl (by decide) (⟨by omega, by show _ < ((700 : Nat) : Int); omega⟩) rfl rfl ?_
      refine zw_s (pc' := 22) rfl rfl ?_
      refine zw_beq2 (g := 39) (pc' := 25) rfl rfl rfl rfl (rfl : _ = (32 : Int)) (fun h32 => ?_) (fun h32 => ?_)
      · have hP : ys_sp (T q) = true := decide_eq_true (by rw [← tq]; exact Or.inl h32)
        rw [ys_run_t (by omega) hP] at he
        have e1 : (H.2.1 52 2 + Int32.ofInt 1).toInt = (H.2.1 52 2).toInt + 1 := zw_p1 (by omega)
        have b2 := zB_putf (p := 52) (k := 2) (x := H.2.1 52 2 + Int32.ofInt 1) hZ.1 rfl (fun r hr => by cases hr; exact ⟨by show (0 : Int) ≤ _; omega, by show _ ≤ (700 : Int); omega⟩) (zJc_I rfl hZ.1.2.2.2.2.2.2.2)
        have g2 : ((zw_I H 52 2 (H.2.1 52 2 + Int32.ofInt 1)).2.1 52 2).toInt = ((q + 1 : Nat) : Int) := by
          rw [zw_eq, e1]
          omega
        refine zw_ld (n := 1) (k := 0) (f := zp_isR) (pc' := 40) rfl rfl l0 rfl rfl ?_
        refine zw_s (pc' := 41) rfl rfl ?_
        refine zw_gI (q := 52) (pc' := 44) W rfl rfl rfl rfl rfl rfl ?_
        refine zw_s (pc' := 45) rfl rfl ?_
        refine zw_iadd (pc' := 46) rfl rfl ?_
        refine zw_pI (q := 52) (pc' := 49) W rfl rfl rfl rfl rfl rfl ?_
        refine zw_s (pc' := 0) rfl rfl ?_
        exact ih _ _ (q + 1) ⟨b2, yc_T_I hZ.2 rfl⟩ (zk_Fr_I hF rfl rfl) l0 g2 (by omega) he (by omega)
      · refine zw_ld (n := 1) (k := 0) (f := zp_isR) (pc' := 26) rfl rfl l0 rfl rfl ?_
        refine zw_gR (q := 52) (pc' := 29) W rfl rfl rfl rfl (W.2 52 0 _ rfl) rfl ?_
        refine zw_ld (n := 1) (k := 0) (f := zp_isR) (pc' := 30) rfl rfl l0 rfl rfl ?_
        refine zw_gI (q := 52) (pc' := 33) W rfl rfl rfl rfl rfl rfl ?_
        refine zw_ba (q := 1) (pc' := 34) W rfl rfl (by decide) (⟨by omega, by show _ < ((700 : Nat) : Int); omega⟩) rfl rfl ?_
        refine zw_s (pc' := 36) rfl rfl ?_
        refine zw_bne2 (g := 52) (pc' := 39) rfl rfl rfl rfl (rfl : _ = (10 : Int)) (fun h10 => ?_) (fun h10 => ?_)
        · have hP : ys_sp (T q) = false := decide_eq_false (by rw [← tq]; omega)
          have hqe : q = ys_st T n p := by
            rw [← he, ys_run_f hP]
          exact yc_adC hZ hF l0 h2 (by omega) hqe
        · have hP : ys_sp (T q) = true := decide_eq_true (by rw [← tq]; exact Or.inr h10)
          rw [ys_run_t (by omega) hP] at he
          have e1 : (H.2.1 52 2 + Int32.ofInt 1).toInt = (H.2.1 52 2).toInt + 1 := zw_p1 (by omega)
          have b2 := zB_putf (p := 52) (k := 2) (x := H.2.1 52 2 + Int32.ofInt 1) hZ.1 rfl (fun r hr => by cases hr; exact ⟨by show (0 : Int) ≤ _; omega, by show _ ≤ (700 : Int); omega⟩) (zJc_I rfl hZ.1.2.2.2.2.2.2.2)
          have g2 : ((zw_I H 52 2 (H.2.1 52 2 + Int32.ofInt 1)).2.1 52 2).toInt = ((q + 1 : Nat) : Int) := by
            rw [zw_eq, e1]
            omega
          refine zw_ld (n := 1) (k := 0) (f := zp_isR) (pc' := 40) rfl rfl l0 rfl rfl ?_
          refine zw_s (pc' := 41) rfl rfl ?_
          refine zw_gI (q := 52) (pc' := 44) W rfl rfl rfl rfl rfl rfl ?_
          refine zw_s (pc' := 45) rfl rfl ?_
          refine zw_iadd (pc' := 46) rfl rfl ?_
          refine zw_pI (q := 52) (pc' := 49) W rfl rfl rfl rfl rfl rfl ?_
          refine zw_s (pc' := 0) rfl rfl ?_
          exact ih _ _ (q + 1) ⟨b2, yc_T_I hZ.2 rfl⟩ (zk_Fr_I hF rfl rfl) l0 g2 (by omega) he (by omega)

/-- the next token -/
theorem yc_adv {L : Nat} {σ : Nat → Int32} {d : Nat} {T : Nat → Int} {n : Nat} {p : Nat} {H : zp_H} (hZ : yc_Z T n H) (h2 : (H.2.1 52 2).toInt = p) (hp : p ≤ n) : ∃ X, zp_Call L σ (d + 3) 55 [.inr (.inr (some 53))] H X ∧ (fun X : zp_X => ∃ H1, X = (.inl none, H1) ∧ yc_Z T n H1 ∧ zk_Fr zg yc_m [] H H1 ∧ yc_k T n p H1) X := by
  refine zw_met zm_55_t rfl rfl ?_
  exact yc_adL _ H _ p hZ (zk_Fr_r H) rfl h2 hp rfl (Nat.le_refl _)
