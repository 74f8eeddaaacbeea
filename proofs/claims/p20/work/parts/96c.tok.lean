section
/-! ===== the class goes on to its next token ===== -/
def zm_55 : za_MI := (yX9_advance, prog_11_method_3_code, 1, none, 9, 0, 0, [], za_i55)
theorem zm_55_t : za_MT 55 = some zm_55 := rfl
theorem yc_adC {L : Nat} {σ : Nat → Int32} {d : Nat} {T : Nat → Int} {n : Nat} {p : Nat} {H0 H : zp_H} {lv : zp_LV} {s : Nat} (hZ : yc_Z T n H) (hF : zk_Fr zg yc_m [] H0 H) (l0 : zp_get lv 0 = some (.inr (.inr (some 53)))) (h2 : (H.2.1 52 2).toInt = s) (hs : s ≤ n) (hp : s = ys_st T n p) : zs_Safe L σ (fun X : zp_X => ∃ H1, X = (.inl none, H1) ∧ yc_Z T n H1 ∧ zk_Fr zg yc_m [] H0 H1 ∧ yc_k T n p H1) zm_55 [] (d + 2) (52, lv, [], H, (0, 0)) := by
  have W := zB_Wd hZ.1
  have hn7 := hZ.2.1
  have r1 := hZ.2.2.1
  have b1 := zB_putf (p := 52) (k := 3) (x := H.2.1 52 2) hZ.1 rfl (fun r hr => by cases hr; exact ⟨by show (0 : Int) ≤ _; omega, by show _ ≤ (700 : Int); omega⟩) (zJc_I rfl hZ.1.2.2.2.2.2.2.2)
  have hZ1 : yc_Z T n (zw_I H 52 3 (H.2.1 52 2)) := ⟨b1, yc_T_I hZ.2 rfl⟩
  have hF1 : zk_Fr zg yc_m [] H0 (zw_I H 52 3 (H.2.1 52 2)) := zk_Fr_I hF rfl rfl
  have g3 : ((zw_I H 52 3 (H.2.1 52 2)).2.1 52 3).toInt = s := (congrArg Int32.toInt zw_eq).trans h2
  have g2 : ((zw_I H 52 3 (H.2.1 52 2)).2.1 52 2).toInt = s := (congrArg Int32.toInt (zw_ne rfl rfl)).trans h2
  have tq : s < n → ((zw_I H 52 3 (H.2.1 52 2)).2.1 1 (H.2.1 52 2).toInt.toNat).toInt = T s := by
    intro hsn
    rw [show (H.2.1 52 2).toInt.toNat = s by omega]
    exact hZ1.2.2.2 s hsn
  refine zw_ld (n := 1) (k := 0) (f := zp_isR) (pc' := 53) rfl rfl l0 rfl rfl ?_
  refine zw_ld (n := 1) (k := 0) (f := zp_isR) (pc' := 54) rfl rfl l0 rfl rfl ?_
  refine zw_gI (q := 52) (pc' := 57) W rfl rfl rfl rfl rfl rfl ?_
  refine zw_pI (q := 52) (pc' := 60) W rfl rfl rfl rfl rfl rfl ?_
  refine zw_ld (n := 1) (k := 0) (f := zp_isR) (pc' := 61) rfl rfl l0 rfl rfl ?_
  refine zw_gI (q := 52) (pc' := 64) W rfl rfl rfl rfl (zw_ne rfl rfl) rfl ?_
  refine zw_ld (n := 1) (k := 0) (f := zp_isR) (pc' := 65) rfl rfl l0 rfl rfl ?_
  refine zw_gI (q := 52) (pc' := 68) W rfl rfl rfl rfl (zw_ne rfl rfl) rfl ?_
  refine zw_blt2 (g := 79) (pc' := 71) rfl rfl rfl rfl rfl (fun hb1 => ?_) (fun hb1 => ?_)
  · have hsn : s < n := by omega
    have tq := tq hsn
    have hes : ys_nx T n p = ys_es T n s := by
      unfold ys_nx
      rw [← hp]
    have hks : ys_kd T n p = ys_ks T n s := by
      unfold ys_kd
      rw [← hp]
    have hvs : ys_vl T n p = ys_vs T s (ys_nx T n p) := by
      unfold ys_vl
      rw [← hp]
    unfold ys_es at hes
    unfold ys_ks at hks
    rw [if_neg (by omega)] at hes hks
    refine zw_ld (n := 1) (k := 0) (f := zp_isR) (pc' := 80) rfl rfl l0 rfl rfl ?_
    refine zw_gR (q := 52) (pc' := 83) W rfl rfl rfl rfl (W.2 52 0 _ rfl) rfl ?_
    refine zw_ld (n := 1) (k := 0) (f := zp_isR) (pc' := 84) rfl rfl l0 rfl rfl ?_
    refine zw_gI (q := 52) (pc' := 87) W rfl rfl rfl rfl (zw_ne rfl rfl) rfl ?_
    refine zw_ba (q := 1) (pc' := 88) W rfl rfl (by decide) (⟨by omega, by show _ < ((700 : Nat) : Int); omega⟩) (zw_ne rfl rfl) rfl ?_
    by_cases hL : 97 ≤ ((zw_I H 52 3 (H.2.1 52 2)).2.1 1 (H.2.1 52 2).toInt.toNat).toInt ∧ ((zw_I H 52 3 (H.2.1 52 2)).2.1 1 (H.2.1 52 2).toInt.toNat).toInt ≤ 122
    · refine zw_c (pc' := 91) (zw_cs (Y := zm_56) rfl rfl zm_56_t) rfl rfl rfl rfl rfl (yc_l1 hL) ?_
      refine zw_beq1 (g := 101) (pc' := 94) rfl rfl rfl (rfl : _ = (1 : Int)) (fun h9 => absurd h9 (by decide)) (fun h9 => ?_)
      have hP : ys_L (T s) = true := decide_eq_true (by rw [← tq]; exact hL)
      rw [hP] at hes hks
      have hes : ys_nx T n p = ys_run ys_L T (n - s) s := hes
      have hks : ys_kd T n p = 3 := hks
      obtain ⟨_, c1, H1, rfl, c2, c3, c4, c5, c6, c7⟩ := yc_tw (L := L) (σ := σ) (d := d) hZ1 g3 g2 (by omega) hes.symm
      refine zw_ld (n := 1) (k := 0) (f := zp_isR) (pc' := 95) rfl rfl l0 rfl rfl ?_
      refine zw_cn (pc' := 98) (zw_cv (q := 52) (Y := zm_57) W.1 rfl rfl zm_57_t rfl rfl) rfl rfl rfl rfl rfl (c1) ?_
      refine zw_s (pc' := 127) rfl rfl ?_
      refine zw_rn rfl rfl ?_
      refine ⟨H1, rfl, c2, zk_Fr_t hF1 c3, by rw [c4, ← hp], c5, by rw [c6, hks], fun _ => ?_⟩
      rw [c7, hvs]
      unfold ys_vs
      rw [hP]
      rfl
    · refine zw_c (pc' := 91) (zw_cs (Y := zm_56) rfl rfl zm_56_t) rfl rfl rfl rfl rfl (yc_l0 hL) ?_
      refine zw_beq1 (g := 101) (pc' := 94) rfl rfl rfl (rfl : _ = (0 : Int)) (fun h9 => ?_) (fun h9 => absurd h9 (by decide))
      have hP : ys_L (T s) = false := decide_eq_false (by rw [← tq]; exact hL)
      rw [hP] at hes hks
      have hes : ys_nx T n p = (bif ys_D (T s) then ys_run ys_D T (n - s) s else s + 1) := hes
      have hks : ys_kd T n p = (bif ys_D (T s) then 2 else bif ys_G (T s) then 4 else 1) := hks
      have hvs : ys_vl T n p = (bif ys_D (T s) then (if 4 < ys_nx T n p - s then 2147483647 else ys_nm T s (ys_nx T n p - s)) else T s) := by
        rw [hvs]
        unfold ys_vs
        rw [hP]
        rfl
      refine zw_ld (n := 1) (k := 0) (f := zp_isR) (pc' := 102) rfl rfl l0 rfl rfl ?_
      refine zw_gR (q := 52) (pc' := 105) W rfl rfl rfl rfl (W.2 52 0 _ rfl) rfl ?_
      refine zw_ld (n := 1) (k := 0) (f := zp_isR) (pc' := 106) rfl rfl l0 rfl rfl ?_
      refine zw_gI (q := 52) (pc' := 109) W rfl rfl rfl rfl (zw_ne rfl rfl) rfl ?_
      refine zw_ba (q := 1) (pc' := 110) W rfl rfl (by decide) (⟨by omega, by show _ < ((700 : Nat) : Int); omega⟩) (zw_ne rfl rfl) rfl ?_
      by_cases hD : 48 ≤ ((zw_I H 52 3 (H.2.1 52 2)).2.1 1 (H.2.1 52 2).toInt.toNat).toInt ∧ ((zw_I H 52 3 (H.2.1 52 2)).2.1 1 (H.2.1 52 2).toInt.toNat).toInt ≤ 57
      · refine zw_c (pc' := 113) (zw_cs (Y := zm_58) rfl rfl zm_58_t) rfl rfl rfl rfl rfl (yc_g1 hD) ?_
        refine zw_beq1 (g := 123) (pc' := 116) rfl rfl rfl (rfl : _ = (1 : Int)) (fun h9 => absurd h9 (by decide)) (fun h9 => ?_)
        have hQ : ys_D (T s) = true := decide_eq_true (by rw [← tq]; exact hD)
        rw [hQ] at hes hks hvs
        have hes : ys_nx T n p = ys_run ys_D T (n - s) s := hes
        have hks : ys_kd T n p = 2 := hks
        obtain ⟨_, c1, H1, rfl, c2, c3, c4, c5, c6, c7⟩ := yc_tn (L := L) (σ := σ) (d := d) hZ1 g3 g2 (by omega) hes.symm
        refine zw_ld (n := 1) (k := 0) (f := zp_isR) (pc' := 117) rfl rfl l0 rfl rfl ?_
        refine zw_cn (pc' := 120) (zw_cv (q := 52) (Y := zm_59) W.1 rfl rfl zm_59_t rfl rfl) rfl rfl rfl rfl rfl (c1) ?_
        refine zw_s (pc' := 127) rfl rfl ?_
        refine zw_rn rfl rfl ?_
        exact ⟨H1, rfl, c2, zk_Fr_t hF1 c3, by rw [c4, ← hp], c5, by rw [c6, hks], fun _ => c7.trans hvs.symm⟩
      · refine zw_c (pc' := 113) (zw_cs (Y := zm_58) rfl rfl zm_58_t) rfl rfl rfl rfl rfl (yc_g0 hD) ?_
        refine zw_beq1 (g := 123) (pc' := 116) rfl rfl rfl (rfl : _ = (0 : Int)) (fun h9 => ?_) (fun h9 => absurd h9 (by decide))
        have hQ : ys_D (T s) = false := decide_eq_false (by rw [← tq]; exact hD)
        rw [hQ] at hes hks hvs
        have hes : ys_nx T n p = s + 1 := hes
        obtain ⟨_, c1, H1, rfl, c2, c3, c4, c5, c6, c7⟩ := yc_ts (L := L) (σ := σ) (d := d + 1) hZ1 g3 g2 hsn
        refine zw_ld (n := 1) (k := 0) (f := zp_isR) (pc' := 124) rfl rfl l0 rfl rfl ?_
        refine zw_cn (pc' := 127) (zw_cv (q := 52) (Y := zm_60) W.1 rfl rfl zm_60_t rfl rfl) rfl rfl rfl rfl rfl (c1) ?_
        refine zw_rn rfl rfl ?_
        exact ⟨H1, rfl, c2, zk_Fr_t hF1 c3, by rw [c4, ← hp], by rw [c5, hes], c6.trans hks.symm, fun _ => c7.trans hvs.symm⟩
  · have b2 := zB_putf (p := 52) (k := 4) (x := Int32.ofInt 0) b1 rfl (fun r hr => by cases hr) (zJc_I rfl b1.2.2.2.2.2.2.2)
    have hk : ys_kd T n p = 0 := by
      unfold ys_kd ys_ks
      rw [← hp, if_pos (by omega)]
    refine zw_ld (n := 1) (k := 0) (f := zp_isR) (pc' := 72) rfl rfl l0 rfl rfl ?_
    refine zw_s (pc' := 73) rfl rfl ?_
    refine zw_pI (q := 52) (pc' := 76) W rfl rfl rfl rfl rfl rfl ?_
    refine zw_s (pc' := 127) rfl rfl ?_
    refine zw_rn rfl rfl ?_
    refine ⟨_, rfl, ⟨b2, yc_T_I hZ1.2 rfl⟩, zk_Fr_I hF1 rfl rfl, ?_, ?_, ?_, fun h9 => absurd hk h9⟩
    · exact (congrArg Int32.toInt (zw_ne rfl rfl)).trans (g3.trans (by rw [← hp]))
    · refine (congrArg Int32.toInt (zw_ne rfl rfl)).trans (g2.trans ?_)
      unfold ys_nx ys_es
      rw [← hp, if_pos (by omega)]
    · rw [hk]
      exact (congrArg Int32.toInt zw_eq).trans (by decide)

theorem yc_adL {L : Nat} {σ : Nat → Int32} {d : Nat} {T : Nat → Int} {n : Nat} {p : Nat} {H0 : zp_H} : ∀ (m : Nat) (H : zp_H) (lv : zp_LV) (q : Nat), yc_Z T n H → zk_Fr zg yc_m [] H0 H → zp_get lv 0 = some (.inr (.inr (some 53))) → (H.2.1 52 2).toInt = q → q ≤ n → ys_run ys_sp T (n - q) q = ys_st T n p → n - q ≤ m → zs_Safe L σ (fun X : zp_X => ∃ H1, X = (.inl none, H1) ∧ yc_Z T n H1 ∧ zk_Fr zg yc_m [] H0 H1 ∧ yc_k T n p H1) zm_55 [] (d + 2) (0, lv, [], H, (0, 0)) := by
  intro m
  induction m with
  | zero =>
    intro H lv q hZ hF l0 h2 hq he hm
    have W := zB_Wd hZ.1
    have hn7 := hZ.2.1
    have r1 := hZ.2.2.1
    refine zw_ld (n := 1) (k := 0) (f := zp_isR) (pc' := 1) rfl rfl l0 rfl rfl ?_
    refine zw_gI (q := 52) (pc' := 4) W rfl rfl rfl rfl rfl rfl ?_
    refine zw_ld (n := 1) (k := 0) (f := zp_isR) (pc' := 5) rfl rfl l0 rfl rfl ?_
    refine zw_gI (q := 52) (pc' := 8) W rfl rfl rfl rfl rfl rfl ?_
    refine zw_bge2 (g := 52) (pc' := 11) rfl rfl rfl rfl rfl (fun hb1 => ?_) (fun hb1 => ?_)
    · have hqe : q = ys_st T n p := by
        rw [← he, ys_run_n (by omega)]
      exact yc_adC hZ hF l0 h2 (by omega) hqe
    · omega
  | succ m ih =>
    intro H lv q hZ hF l0 h2 hq he hm
    have W := zB_Wd hZ.1
    have hn7 := hZ.2.1
    have r1 := hZ.2.2.1
    refine zw_ld (n := 1) (k := 0) (f := zp_isR) (pc' := 1) rfl rfl l0 rfl rfl ?_
    refine zw_gI (q := 52) (pc' := 4) W rfl rfl rfl rfl rfl rfl ?_
    refine zw_ld (n := 1) (k := 0) (f := zp_isR) (pc' := 5) rfl rfl l0 rfl rfl ?_
    refine zw_gI (q := 52) (pc' := 8) W rfl rfl rfl rfl rfl rfl ?_
    refine zw_bge2 (g := 52) (pc' := 11) rfl rfl rfl rfl rfl (fun hb1 => ?_) (fun hb1 => ?_)
    · have hqe : q = ys_st T n p := by
        rw [← he, ys_run_n (by omega)]
      exact yc_adC hZ hF l0 h2 (by omega) hqe
    · have tq : (H.2.1 1 (H.2.1 52 2).toInt.toNat).toInt = T q := by
        rw [show (H.2.1 52 2).toInt.toNat = q by omega]
        exact hZ.2.2.2 q (by omega)
      refine zw_ld (n := 1) (k := 0) (f := zp_isR) (pc' := 12) rfl rfl l0 rfl rfl ?_
      refine zw_gR (q := 52) (pc' := 15) W rfl rfl rfl rfl (W.2 52 0 _ rfl) rfl ?_
      refine zw_ld (n := 1) (k := 0) (f := zp_isR) (pc' := 16) rfl rfl l0 rfl rfl ?_
      refine zw_gI (q := 52) (pc' := 19) W rfl rfl rfl rfl rfl rfl ?_
      refine zw_ba (q := 1) (pc' := 20) W rfl rfl (by decide) (⟨by omega, by show _ < ((700 : Nat) : Int); omega⟩) rfl rfl ?_
      refine zw_s (pc' := 22) rfl rfl ?_
      refine zw_beq2 (g := 39) (pc' := 25) rfl rfl rfl rfl (rfl : _ = (32 : Int)) (fun h32 => ?_) (fun h32 => ?_)
      · have hP : ys_sp (T q) = true := decide_eq_true (by rw [← tq]; exact Or.inl h32)
        rw [ys_run_t (by omega) hP] at he
        have e1 : (H.2.1 52 2 + Int32.ofInt 1).toInt = (H.2.1 52 2).toInt + 1 := zw_p1 (by omega)
        have b2 := zB_putf (p := 52) (k := 2) (x := H.2.1 52 2 + Int32.ofInt 1) hZ.1 rfl (fun r hr => by cases hr; exact ⟨by show (0 : Int) ≤ _; omega, by show _ ≤ (700 : Int); omega⟩) (zJc_I rfl hZ.1.2.2.2.2.2.2.2)
        have g2 : ((zw_I H 52 2 (H.2.1 52 2 + Int32.ofInt 1)).2.1 52 2).toInt = ((q + 1 : Nat) : Int) := by
          rw [zw_eq, e1]
          omega
        refine zw_ld (n := 1) (k := 0) (f := zp_isR) (pc' := 40) rfl rfl l0 rfl rfl ?_
        refine zw_s (pc' := 41) rfl rfl ?_
        refine zw_gI (q := 52) (pc' := 44) W rfl rfl rfl rfl rfl rfl ?_
        refine zw_s (pc' := 45) rfl rfl ?_
        refine zw_iadd (pc' := 46) rfl rfl ?_
        refine zw_pI (q := 52) (pc' := 49) W rfl rfl rfl rfl rfl rfl ?_
        refine zw_s (pc' := 0) rfl rfl ?_
        exact ih _ _ (q + 1) ⟨b2, yc_T_I hZ.2 rfl⟩ (zk_Fr_I hF rfl rfl) l0 g2 (by omega) he (by omega)
      · refine zw_ld (n := 1) (k := 0) (f := zp_isR) (pc' := 26) rfl rfl l0 rfl rfl ?_
        refine zw_gR (q := 52) (pc' := 29) W rfl rfl rfl rfl (W.2 52 0 _ rfl) rfl ?_
        refine zw_ld (n := 1) (k := 0) (f := zp_isR) (pc' := 30) rfl rfl l0 rfl rfl ?_
        refine zw_gI (q := 52) (pc' := 33) W rfl rfl rfl rfl rfl rfl ?_
        refine zw_ba (q := 1) (pc' := 34) W rfl rfl (by decide) (⟨by omega, by show _ < ((700 : Nat) : Int); omega⟩) rfl rfl ?_
        refine zw_s (pc' := 36) rfl rfl ?_
        refine zw_bne2 (g := 52) (pc' := 39) rfl rfl rfl rfl (rfl : _ = (10 : Int)) (fun h10 => ?_) (fun h10 => ?_)
        · have hP : ys_sp (T q) = false := decide_eq_false (by rw [← tq]; omega)
          have hqe : q = ys_st T n p := by
            rw [← he, ys_run_f hP]
          exact yc_adC hZ hF l0 h2 (by omega) hqe
        · have hP : ys_sp (T q) = true := decide_eq_true (by rw [← tq]; exact Or.inr h10)
          rw [ys_run_t (by omega) hP] at he
          have e1 : (H.2.1 52 2 + Int32.ofInt 1).toInt = (H.2.1 52 2).toInt + 1 := zw_p1 (by omega)
          have b2 := zB_putf (p := 52) (k := 2) (x := H.2.1 52 2 + Int32.ofInt 1) hZ.1 rfl (fun r hr => by cases hr; exact ⟨by show (0 : Int) ≤ _; omega, by show _ ≤ (700 : Int); omega⟩) (zJc_I rfl hZ.1.2.2.2.2.2.2.2)
          have g2 : ((zw_I H 52 2 (H.2.1 52 2 + Int32.ofInt 1)).2.1 52 2).toInt = ((q + 1 : Nat) : Int) := by
            rw [zw_eq, e1]
            omega
          refine zw_ld (n := 1) (k := 0) (f := zp_isR) (pc' := 40) rfl rfl l0 rfl rfl ?_
          refine zw_s (pc' := 41) rfl rfl ?_
          refine zw_gI (q := 52) (pc' := 44) W rfl rfl rfl rfl rfl rfl ?_
          refine zw_s (pc' := 45) rfl rfl ?_
          refine zw_iadd (pc' := 46) rfl rfl ?_
          refine zw_pI (q := 52) (pc' := 49) W rfl rfl rfl rfl rfl rfl ?_
          refine zw_s (pc' := 0) rfl rfl ?_
          exact ih _ _ (q + 1) ⟨b2, yc_T_I hZ.2 rfl⟩ (zk_Fr_I hF rfl rfl) l0 g2 (by omega) he (by omega)

/-- the next token -/
theorem yc_adv {L : Nat} {σ : Nat → Int32} {d : Nat} {T : Nat → Int} {n : Nat} {p : Nat} {H : zp_H} (hZ : yc_Z T n H) (h2 : (H.2.1 52 2).toInt = p) (hp : p ≤ n) : ∃ X, zp_Call L σ (d + 3) 55 [.inr (.inr (some 53))] H X ∧ (fun X : zp_X => ∃ H1, X = (.inl none, H1) ∧ yc_Z T n H1 ∧ zk_Fr zg yc_m [] H H1 ∧ yc_k T n p H1) X := by
  refine zw_met zm_55_t rfl rfl ?_
  exact yc_adL _ H _ p hZ (zk_Fr_r H) rfl h2 hp rfl (Nat.le_refl _)
end
section
/-! ===== a call has but one end ===== -/
theorem zp_ex1 {L : Nat} {σ : Nat → Int32} {M : za_MI} {cp : Nat → Option za_row} {i : Instr} {pc : Nat} {lv : zp_LV} {st : List zp_V} {t : zp_T} {r : zp_S ⊕ zp_X} (h : zp_ins L σ M cp i pc lv st t = some r) : zp_end M cp i pc st t = none ∧ zp_cl cp i st t = none := by
  cases i with
  | invokestatic k =>
    refine ⟨rfl, ?_⟩
    have h : (match cp k with
      | some (14, _, _, _) => zp_acp pc lv st t
      | _ => none) = some r := h
    split at h
    · rename_i hcp
      show (match cp k with
        | some (2, j, n, _) => match za_MT j with
          | some Y => some (false, j, n, Y)
          | none => none
        | some (12, j, n, _) => match za_MT j with
          | some Y => some (true, j, n, Y)
          | none => none
        | _ => none) = none
      rw [hcp]
      rfl
    · cases h
  | _ => first | exact ⟨rfl, rfl⟩ | cases h
theorem zp_ex2 {M : za_MI} {cp : Nat → Option za_row} {i : Instr} {pc : Nat} {st : List zp_V} {t : zp_T} {X : zp_X} (h : zp_end M cp i pc st t = some X) : zp_cl cp i st t = none := by
  cases i <;> first | rfl | cases h
theorem zp_det {L : Nat} {σ : Nat → Int32} {M : za_MI} {C : zp_C} (hC : ∀ (j : Nat) (as : List zp_V) (h : zp_H) (X X' : zp_X), C j as h X → C j as h X' → X = X') : ∀ (n n' : Nat) (S : zp_S) (X X' : zp_X), zp_RunN L σ M C n S X → zp_RunN L σ M C n' S X' → X = X'
  | 0, _, _, _, _, h, _ => h.elim
  | _ + 1, 0, _, _, _, _, h => h.elim
  | n + 1, n' + 1, S, X, X', h, h' => by
    obtain ⟨i, hi, h⟩ := h
    obtain ⟨i', hi', h'⟩ := h'
    have e : i' = i := Option.some.inj (hi'.symm.trans hi)
    subst e
    rcases h with ⟨S1, h1, h2⟩ | h | ⟨nx, j, k, Y, X1, h1, h2, h3, h4, h5⟩
    · rcases h' with ⟨S1', h1', h2'⟩ | h' | ⟨nx', j', k', Y', X1', h1', h2', h3', h4', h5'⟩
      · have e : S1' = S1 := by
          have := h1'.symm.trans h1
          cases this
          rfl
        subst e
        exact zp_det hC n n' _ _ _ h2 h2'
      · rw [(zp_ex1 h1).1] at h'
        cases h'
      · rw [(zp_ex1 h1).2] at h1'
        cases h1'
    · rcases h' with ⟨S1', h1', h2'⟩ | h' | ⟨nx', j', k', Y', X1', h1', h2', h3', h4', h5'⟩
      · rw [(zp_ex1 h1').1] at h
        cases h
      · exact Option.some.inj (h.symm.trans h')
      · rw [zp_ex2 h] at h1'
        cases h1'
    · rcases h' with ⟨S1', h1', h2'⟩ | h' | ⟨nx', j', k', Y', X1', h1', h2', h3', h4', h5'⟩
      · rw [(zp_ex1 h1').2] at h1
        cases h1
      · rw [zp_ex2 h'] at h1
        cases h1
      · have e := h1.symm.trans h1'
        cases e
        have e1 := hC _ _ _ _ _ h3 h3'
        subst e1
        generalize zp_aft M (za_CP (za_cl M)) S.1 S.2.1 (S.2.2.1.drop k) (S.2.2.2.2.1 + za_mc Y) (S.2.2.2.2.2 + za_ms Y) X1 = o at h5 h5'
        match o, h5, h5' with
        | some (.inl S2), h5, h5' => exact zp_det hC n n' _ _ _ h5 h5'
        | some (.inr X2), h5, h5' => exact (show X2 = X from h5).symm.trans (show X2 = X' from h5')
theorem zp_Call_d {L : Nat} {σ : Nat → Int32} : ∀ (d j : Nat) (as : List zp_V) (h : zp_H) (X X' : zp_X), zp_Call L σ d j as h X → zp_Call L σ d j as h X' → X = X'
  | 0, _, _, _, _, _, h, _ => h.elim
  | d + 1, j, as, h, X, X', ⟨Y, n, h1, h2, h3⟩, ⟨Y', n', h1', h2', h3'⟩ => by
    have e : Y' = Y := Option.some.inj (h1'.symm.trans h1)
    subst e
    exact zp_det (zp_Call_d d) n n' _ _ _ h3 h3'
/-- whatever the depth -/
theorem zp_Call_u {L : Nat} {σ : Nat → Int32} {d d' j : Nat} {as : List zp_V} {h : zp_H} {X X' : zp_X} (h1 : zp_Call L σ d j as h X) (h2 : zp_Call L σ d' j as h X') : X = X' := zp_Call_d (max d d') j as h X X' (zp_Call_le (Nat.le_max_left _ _) h1) (zp_Call_le (Nat.le_max_right _ _) h2)
end
section
/-! ===== the reference's tokens, exactly ===== -/
def ys_u (c : Int) : Int := if c < 0 then c + 256 else c
def ys_pk (T : Nat → Int) (s : Nat) : Nat → Int64
  | 0 => Int64.ofNat 0
  | k + 1 => za_shl0 (ys_pk T s k) (Int32.ofInt 5) ||| (Int32.ofInt (T (s + k)) - Int32.ofInt 96).toInt64
/-- a token's kind as the reference numbers it -/
def yr_s (k : Int) : Int := if k = 3 then 1 else if k = 2 then 2 else if k = 4 then 3 else if k = 1 then 4 else 0
def yr_m : List (Nat × Nat) := [(72, 27), (72, 28), (72, 29), (72, 30), (72, 31), (72, 32), (72, 33), (72, 100)]
def yr_F (H : zp_H) : Prop := (H.2.1 72 24).toInt = -1 ∨ (H.2.1 72 23).toInt ≠ 0
def yr_T (T : Nat → Int) (n : Nat) (H : zp_H) : Prop := n ≤ 700 ∧ (H.2.1 72 26).toInt = n ∧ (∀ k, k < n → (H.2.1 81 k).toInt = ys_u (T k)) ∧ yr_F H
def yr_Z (T : Nat → Int) (n : Nat) (H : zp_H) : Prop := zk_Bs zR0 zg zT H ∧ yr_T T n H
def yr_k (T : Nat → Int) (n p : Nat) (H : zp_H) : Prop := (H.2.1 72 29).toInt = ys_st T n p ∧ (H.2.1 72 27).toInt = ys_nx T n p ∧ (H.2.1 72 28).toInt = yr_s (ys_kd T n p) ∧ (H.2.1 72 30).toInt = (ys_nx T n p : Int) - ys_st T n p ∧ (ys_kd T n p = 2 → (H.2.1 72 31).toInt = ys_nm T (ys_st T n p) (min (ys_nx T n p - ys_st T n p) 4)) ∧ (ys_kd T n p ≠ 0 → (H.2.1 72 32).toInt = ys_u (T (ys_st T n p))) ∧ (ys_kd T n p = 3 → H.2.2.1 72 33 = ys_pk T (ys_st T n p) (min (ys_nx T n p - ys_st T n p) 7))
theorem yr_T_I {T : Nat → Int} {n : Nat} {H : zp_H} {p k : Nat} {x : Int32} (h : yr_T T n H) (hp : ((Nat.beq p 81).or ((Nat.beq p 72).and ((Nat.beq k 26).or ((Nat.beq k 23).or (Nat.beq k 24))))) = false) : yr_T T n (zw_I H p k x) := by
  obtain ⟨h1, h2, h3, h4⟩ := h
  refine ⟨h1, ?_, fun j hj => ?_, ?_⟩
  · rw [show (zw_I H p k x).2.1 72 26 = H.2.1 72 26 from zp_u_ne (fun h9 => by rw [← h9.1, ← h9.2] at hp; cases hp)]
    exact h2
  · rw [show (zw_I H p k x).2.1 81 j = H.2.1 81 j from zp_u_ne (fun h9 => by rw [← h9.1] at hp; cases hp)]
    exact h3 j hj
  · unfold yr_F
    rw [show (zw_I H p k x).2.1 72 23 = H.2.1 72 23 from zp_u_ne (fun h9 => by rw [← h9.1, ← h9.2] at hp; cases hp), show (zw_I H p k x).2.1 72 24 = H.2.1 72 24 from zp_u_ne (fun h9 => by rw [← h9.1, ← h9.2] at hp; cases hp)]
    exact h4
/-- a fault is noted -/
theorem yr_T_w {T : Nat → Int} {n : Nat} {H : zp_H} {x y : Int32} (h : yr_T T n H) (hx : x.toInt ≠ 0) : yr_T T n (zw_I (zw_I H 72 23 x) 72 24 y) := by
  obtain ⟨h1, h2, h3, h4⟩ := h
  refine ⟨h1, ?_, fun j hj => ?_, Or.inr ?_⟩
  · rw [show (zw_I (zw_I H 72 23 x) 72 24 y).2.1 72 26 = H.2.1 72 26 from zw_ne (zw_ne rfl rfl) rfl]
    exact h2
  · rw [show (zw_I (zw_I H 72 23 x) 72 24 y).2.1 81 j = H.2.1 81 j from zw_ne (zw_ne rfl rfl) rfl]
    exact h3 j hj
  · rw [show (zw_I (zw_I H 72 23 x) 72 24 y).2.1 72 23 = x from zw_ne zw_eq rfl]
    exact hx
theorem yr_T_J {T : Nat → Int} {n : Nat} {H : zp_H} {p k : Nat} {x : Int64} (h : yr_T T n H) : yr_T T n (zw_J H p k x) := h
/-- what is written is among what may change; the ghost may change too -/
theorem zk_Fr_I' {mods : List (Nat × Nat)} {am : List Nat} {H0 H : zp_H} {p k : Nat} {x : Int32} (h : zk_Fr zg mods am H0 H) (hm : ((zk_inm mods p k).or (zk_ina am p)).and (zk_inm mods 72 100) = true) : zk_Fr zg mods am H0 (zw_I H p k x) := by
  obtain ⟨hm, hg⟩ := Bool.and_eq_true_iff.mp hm
  refine ⟨h.1, fun q j h1 h2 => ?_⟩
  have hne : ¬ (q = p ∧ j = k) := by
    rintro ⟨rfl, rfl⟩
    rw [h1, h2] at hm
    cases hm
  refine ⟨?_, (h.2 q j h1 h2).2⟩
  rw [← (h.2 q j h1 h2).1]
  unfold zk_fv
  by_cases h9 : q = 72 ∧ j = 100
  · rw [h9.1, h9.2, hg] at h1
    cases h1
  · rw [if_neg h9, if_neg h9]
    exact congrArg Int32.toInt (zp_u_ne hne)
theorem zk_Fr_J' {mods : List (Nat × Nat)} {am : List Nat} {H0 H : zp_H} {p k : Nat} {u : Int64} (h : zk_Fr zg mods am H0 H) (hm : ((zk_inm mods p k).or (zk_ina am p)).and (zk_inm mods 72 100) = true) : zk_Fr zg mods am H0 (zw_J H p k u) := by
  obtain ⟨hm, hg⟩ := Bool.and_eq_true_iff.mp hm
  refine ⟨h.1, fun q j h1 h2 => ?_⟩
  have hne : ¬ (q = p ∧ j = k) := by
    rintro ⟨rfl, rfl⟩
    rw [h1, h2] at hm
    cases hm
  refine ⟨?_, (zp_u_ne hne).trans (h.2 q j h1 h2).2⟩
  rw [← (h.2 q j h1 h2).1]
  unfold zk_fv
  by_cases h9 : q = 72 ∧ j = 100
  · rw [h9.1, h9.2, hg] at h1
    cases h1
  · rw [if_neg h9, if_neg h9]
    rfl
def zm_172 : za_MI := (yX12_byteAt, prog_14_method_10_code, 2, (some FieldType.int), 12, 0, 0, [], za_i172)
theorem zm_172_t : za_MT 172 = some zm_172 := rfl
def zm_173 : za_MI := (yX12_isLetter, prog_14_method_11_code, 1, (some FieldType.boolean), 12, 0, 0, [], za_i173)
theorem zm_173_t : za_MT 173 = some zm_173 := rfl
def zm_174 : za_MI := (yX12_isDigit, prog_14_method_12_code, 1, (some FieldType.boolean), 12, 0, 0, [], za_i174)
theorem zm_174_t : za_MT 174 = some zm_174 := rfl
theorem yr_by {L : Nat} {σ : Nat → Int32} {d : Nat} {T : Nat → Int} {n : Nat} {H : zp_H} {x : Int32} {q : Nat} (hZ : yr_Z T n H) (hx : x.toInt = q) (hq : q < n) (hn : n ≤ 700) : zp_Call L σ (d + 1) 172 [.inr (.inr (some 73)), .inl x] H (.inl (some (.inl (H.2.1 81 q))), H) := by
  have W := zT_Wd hZ.1
  have r1 := hZ.2.2.1
  refine zw_ex (zw_met zm_172_t rfl rfl ?_)
  refine zw_ld (n := 1) (k := 1) (f := zp_isI) (pc' := 1) rfl rfl rfl rfl rfl ?_
  refine zw_ld (n := 1) (k := 0) (f := zp_isR) (pc' := 2) rfl rfl rfl rfl rfl ?_
  refine zw_gI (q := 72) (pc' := 5) W rfl rfl rfl rfl rfl rfl ?_
  refine zw_bge2 (g := 17) (pc' := 8) rfl rfl rfl rfl rfl (fun h1 => ?_) (fun h1 => ?_)
  · omega
  · refine zw_ld (n := 1) (k := 0) (f := zp_isR) (pc' := 9) rfl rfl rfl rfl rfl ?_
    refine zw_gR (q := 72) (pc' := 12) W rfl rfl rfl rfl (W.2 72 21 _ rfl) rfl ?_
    refine zw_ld (n := 1) (k := 1) (f := zp_isI) (pc' := 13) rfl rfl rfl rfl rfl ?_
    refine zw_ia (q := 81) (pc' := 14) W rfl rfl (by decide) (⟨by omega, by show _ < ((700 : Nat) : Int); omega⟩) rfl rfl ?_
    refine zw_s (pc' := 18) rfl rfl ?_
    refine zw_ri rfl rfl ?_
    rw [show x.toInt.toNat = q by omega]

theorem yr_by0 {L : Nat} {σ : Nat → Int32} {d : Nat} {T : Nat → Int} {n : Nat} {H : zp_H} {x : Int32} (hZ : yr_Z T n H) (hx : (n : Int) ≤ x.toInt) : zp_Call L σ (d + 1) 172 [.inr (.inr (some 73)), .inl x] H (.inl (some (.inl (Int32.ofInt 0))), H) := by
  have W := zT_Wd hZ.1
  have r1 := hZ.2.2.1
  refine zw_ex (zw_met zm_172_t rfl rfl ?_)
  refine zw_ld (n := 1) (k := 1) (f := zp_isI) (pc' := 1) rfl rfl rfl rfl rfl ?_
  refine zw_ld (n := 1) (k := 0) (f := zp_isR) (pc' := 2) rfl rfl rfl rfl rfl ?_
  refine zw_gI (q := 72) (pc' := 5) W rfl rfl rfl rfl rfl rfl ?_
  refine zw_bge2 (g := 17) (pc' := 8) rfl rfl rfl rfl rfl (fun h1 => ?_) (fun h1 => ?_)
  · refine zw_s (pc' := 18) rfl rfl ?_
    refine zw_ri rfl rfl ?_
    rfl
  · omega

theorem yr_l1 {L : Nat} {σ : Nat → Int32} {d : Nat} {H : zp_H} {x : Int32} (h : 97 ≤ x.toInt ∧ x.toInt ≤ 122) : zp_Call L σ (d + 1) 173 [.inl x] H (.inl (some (.inl (Int32.ofInt 1))), H) := by
  refine zw_ex (zw_met zm_173_t rfl rfl ?_)
  refine zw_ld (n := 1) (k := 0) (f := zp_isI) (pc' := 1) rfl rfl rfl rfl rfl ?_
  refine zw_s (pc' := 3) rfl rfl ?_
  refine zw_blt2 (g := 16) (pc' := 6) rfl rfl rfl rfl (rfl : _ = (97 : Int)) (fun h1 => ?_) (fun h1 => ?_)
  · omega
  · refine zw_ld (n := 1) (k := 0) (f := zp_isI) (pc' := 7) rfl rfl rfl rfl rfl ?_
    refine zw_s (pc' := 9) rfl rfl ?_
    refine zw_bgt2 (g := 16) (pc' := 12) rfl rfl rfl rfl (rfl : _ = (122 : Int)) (fun h2 => ?_) (fun h2 => ?_)
    · omega
    · refine zw_s (pc' := 13) rfl rfl ?_
      refine zw_s (pc' := 17) rfl rfl ?_
      refine zw_rz rfl rfl (by decide) ?_
      rfl

theorem yr_l0 {L : Nat} {σ : Nat → Int32} {d : Nat} {H : zp_H} {x : Int32} (h : ¬ (97 ≤ x.toInt ∧ x.toInt ≤ 122)) : zp_Call L σ (d + 1) 173 [.inl x] H (.inl (some (.inl (Int32.ofInt 0))), H) := by
  refine zw_ex (zw_met zm_173_t rfl rfl ?_)
  refine zw_ld (n := 1) (k := 0) (f := zp_isI) (pc' := 1) rfl rfl rfl rfl rfl ?_
  refine zw_s (pc' := 3) rfl rfl ?_
  refine zw_blt2 (g := 16) (pc' := 6) rfl rfl rfl rfl (rfl : _ = (97 : Int)) (fun h1 => ?_) (fun h1 => ?_)
  · refine zw_s (pc' := 17) rfl rfl ?_
    refine zw_rz rfl rfl (by decide) ?_
    rfl
  · refine zw_ld (n := 1) (k := 0) (f := zp_isI) (pc' := 7) rfl rfl rfl rfl rfl ?_
    refine zw_s (pc' := 9) rfl rfl ?_
    refine zw_bgt2 (g := 16) (pc' := 12) rfl rfl rfl rfl (rfl : _ = (122 : Int)) (fun h2 => ?_) (fun h2 => ?_)
    · refine zw_s (pc' := 17) rfl rfl ?_
      refine zw_rz rfl rfl (by decide) ?_
      rfl
    · omega

theorem yr_g1 {L : Nat} {σ : Nat → Int32} {d : Nat} {H : zp_H} {x : Int32} (h : 48 ≤ x.toInt ∧ x.toInt ≤ 57) : zp_Call L σ (d + 1) 174 [.inl x] H (.inl (some (.inl (Int32.ofInt 1))), H) := by
  refine zw_ex (zw_met zm_174_t rfl rfl ?_)
  refine zw_ld (n := 1) (k := 0) (f := zp_isI) (pc' := 1) rfl rfl rfl rfl rfl ?_
  refine zw_s (pc' := 3) rfl rfl ?_
  refine zw_blt2 (g := 16) (pc' := 6) rfl rfl rfl rfl (rfl : _ = (48 : Int)) (fun h1 => ?_) (fun h1 => ?_)
  · omega
  · refine zw_ld (n := 1) (k := 0) (f := zp_isI) (pc' := 7) rfl rfl rfl rfl rfl ?_
    refine zw_s (pc' := 9) rfl rfl ?_
    refine zw_bgt2 (g := 16) (pc' := 12) rfl rfl rfl rfl (rfl : _ = (57 : Int)) (fun h2 => ?_) (fun h2 => ?_)
    · omega
    · refine zw_s (pc' := 13) rfl rfl ?_
      refine zw_s (pc' := 17) rfl rfl ?_
      refine zw_rz rfl rfl (by decide) ?_
      rfl

theorem yr_g0 {L : Nat} {σ : Nat → Int32} {d : Nat} {H : zp_H} {x : Int32} (h : ¬ (48 ≤ x.toInt ∧ x.toInt ≤ 57)) : zp_Call L σ (d + 1) 174 [.inl x] H (.inl (some (.inl (Int32.ofInt 0))), H) := by
  refine zw_ex (zw_met zm_174_t rfl rfl ?_)
  refine zw_ld (n := 1) (k := 0) (f := zp_isI) (pc' := 1) rfl rfl rfl rfl rfl ?_
  refine zw_s (pc' := 3) rfl rfl ?_
  refine zw_blt2 (g := 16) (pc' := 6) rfl rfl rfl rfl (rfl : _ = (48 : Int)) (fun h1 => ?_) (fun h1 => ?_)
  · refine zw_s (pc' := 17) rfl rfl ?_
    refine zw_rz rfl rfl (by decide) ?_
    rfl
  · refine zw_ld (n := 1) (k := 0) (f := zp_isI) (pc' := 7) rfl rfl rfl rfl rfl ?_
    refine zw_s (pc' := 9) rfl rfl ?_
    refine zw_bgt2 (g := 16) (pc' := 12) rfl rfl rfl rfl (rfl : _ = (57 : Int)) (fun h2 => ?_) (fun h2 => ?_)
    · refine zw_s (pc' := 17) rfl rfl ?_
      refine zw_rz rfl rfl (by decide) ?_
      rfl
    · omega

set_option maxRecDepth 8000 in
theorem yr_gE {L : Nat} {σ : Nat → Int32} {d : Nat} {T : Nat → Int} {n : Nat} {p : Nat} {H0 H : zp_H} {lv : zp_LV} (hp : p ≤ n) (hZ : yr_Z T n H) (hF : zk_Fr zg yr_m [] H0 H) (l0 : zp_get lv 0 = some (.inr (.inr (some 73)))) (h29 : (H.2.1 72 29).toInt = ys_st T n p) (h27 : (H.2.1 72 27).toInt = ys_nx T n p) (h28 : (H.2.1 72 28).toInt = yr_s (ys_kd T n p)) (h31 : ys_kd T n p = 2 → (H.2.1 72 31).toInt = ys_nm T (ys_st T n p) (min (ys_nx T n p - ys_st T n p) 4)) (h32 : ys_kd T n p ≠ 0 → (H.2.1 72 32).toInt = ys_u (T (ys_st T n p))) (h33 : ys_kd T n p = 3 → H.2.2.1 72 33 = ys_pk T (ys_st T n p) (min (ys_nx T n p - ys_st T n p) 7)) : zs_Safe L σ (fun X : zp_X => ∃ H1, X = (.inl none, H1) ∧ yr_Z T n H1 ∧ zk_Fr zg yr_m [] H0 H1 ∧ yr_k T n p H1) zm_171 [] (d + 2) (331, lv, [], H, (0, 0)) := by
  have W := zT_Wd hZ.1
  have hn7 := hZ.2.1
  have r1 := hZ.2.2.1
  have nb := ys_nxb (T := T) hp
  have hd : (H.2.1 72 27 - H.2.1 72 29).toInt = (H.2.1 72 27).toInt - (H.2.1 72 29).toInt := zq_sub (by omega) (by omega)
  have b := zT_putf (k := 30) (x := H.2.1 72 27 - H.2.1 72 29) hZ.1 (fun r hr => by cases hr) rfl trivial
  refine zw_ld (n := 1) (k := 0) (f := zp_isR) (pc' := 332) rfl rfl l0 rfl rfl ?_
  refine zw_ld (n := 1) (k := 0) (f := zp_isR) (pc' := 333) rfl rfl l0 rfl rfl ?_
  refine zw_gI (q := 72) (pc' := 336) W rfl rfl rfl rfl rfl rfl ?_
  refine zw_ld (n := 1) (k := 0) (f := zp_isR) (pc' := 337) rfl rfl l0 rfl rfl ?_
  refine zw_gI (q := 72) (pc' := 340) W rfl rfl rfl rfl rfl rfl ?_
  refine zw_isub (pc' := 341) rfl rfl ?_
  refine zw_pI (q := 72) (pc' := 344) W rfl rfl rfl rfl rfl rfl ?_
  refine zw_rn rfl rfl ?_
  refine ⟨_, rfl, ⟨b, yr_T_I hZ.2 rfl⟩, zk_Fr_I' hF rfl, ?_⟩
  have f28 : (zw_I H 72 30 (H.2.1 72 27 - H.2.1 72 29)).2.1 72 28 = H.2.1 72 28 := zw_ne rfl rfl
  have f29 : (zw_I H 72 30 (H.2.1 72 27 - H.2.1 72 29)).2.1 72 29 = H.2.1 72 29 := zw_ne rfl rfl
  have f27 : (zw_I H 72 30 (H.2.1 72 27 - H.2.1 72 29)).2.1 72 27 = H.2.1 72 27 := zw_ne rfl rfl
  have f30 : (zw_I H 72 30 (H.2.1 72 27 - H.2.1 72 29)).2.1 72 30 = H.2.1 72 27 - H.2.1 72 29 := zw_eq
  have f31 : (zw_I H 72 30 (H.2.1 72 27 - H.2.1 72 29)).2.1 72 31 = H.2.1 72 31 := zw_ne rfl rfl
  have f32 : (zw_I H 72 30 (H.2.1 72 27 - H.2.1 72 29)).2.1 72 32 = H.2.1 72 32 := zw_ne rfl rfl
  refine ⟨by rw [f29]; exact h29, by rw [f27]; exact h27, by rw [f28]; exact h28, by rw [f30, hd, h29, h27], fun h9 => by rw [f31]; exact h31 h9, fun h9 => by rw [f32]; exact h32 h9, fun h9 => h33 h9⟩

set_option maxRecDepth 8000 in
theorem yr_gW {L : Nat} {σ : Nat → Int32} {d : Nat} {T : Nat → Int} {n : Nat} {p s e : Nat} {H0 : zp_H} (hp : p ≤ n) (hb : ∀ k, k < n → -128 ≤ T k ∧ T k ≤ 127) (hs : s = ys_st T n p) (hk : ys_kd T n p = 3) (hnx : ys_nx T n p = e) : ∀ (m : Nat) (H : zp_H) (lv : zp_LV) (c : Int32) (q : Nat), yr_Z T n H → zk_Fr zg yr_m [] H0 H → zp_get lv 0 = some (.inr (.inr (some 73))) → zp_get lv 1 = some (.inl c) → (H.2.1 72 29).toInt = ys_st T n p → (H.2.1 72 27).toInt = q → s ≤ q ∧ q ≤ n → (H.2.1 72 32).toInt = ys_u (T (ys_st T n p)) → H.2.2.1 72 33 = ys_pk T s (min (q - s) 7) → ys_run ys_L T (n - q) q = e → n - q ≤ m → zs_Safe L σ (fun X : zp_X => ∃ H1, X = (.inl none, H1) ∧ yr_Z T n H1 ∧ zk_Fr zg yr_m [] H0 H1 ∧ yr_k T n p H1) zm_171 [] (d + 2) (108, lv, [], H, (0, 0)) := by
  intro m
  induction m with
  | zero =>
    intro H lv c q hZ hF l0 l1 h29 h27 hq h32 h33 he hm
    have W := zT_Wd hZ.1
    have hn7 := hZ.2.1
    have r1 := hZ.2.2.1
    have hs : s = ys_st T n p := hs
    refine zw_ld (n := 1) (k := 0) (f := zp_isR) (pc' := 109) rfl rfl l0 rfl rfl ?_
    refine zw_ld (n := 1) (k := 0) (f := zp_isR) (pc' := 110) rfl rfl l0 rfl rfl ?_
    refine zw_gI (q := 72) (pc' := 113) W rfl rfl rfl rfl rfl rfl ?_
    by_cases hqn : q < n
    · omega
    · refine zw_c (pc' := 116) (zw_cv (q := 72) (Y := zm_172) W.1 rfl rfl zm_172_t rfl rfl) rfl rfl rfl rfl rfl (yr_by0 hZ (by omega)) ?_
      refine zw_c (pc' := 119) (zw_cs (Y := zm_173) rfl rfl zm_173_t) rfl rfl rfl rfl rfl (yr_l0 (by decide)) ?_
      refine zw_beq1 (g := 172) (pc' := 122) rfl rfl rfl (rfl : _ = (0 : Int)) (fun h9 => ?_) (fun h9 => absurd h9 (by decide))
      have hqe : q = e := by
        rw [← he, ys_run_n (by omega)]
      have b := zT_putf (k := 28) (x := Int32.ofInt 1) hZ.1 (fun r hr => by cases hr) rfl trivial
      have f29 : (zw_I H 72 28 (Int32.ofInt 1)).2.1 72 29 = H.2.1 72 29 := zw_ne rfl rfl
      have f27 : (zw_I H 72 28 (Int32.ofInt 1)).2.1 72 27 = H.2.1 72 27 := zw_ne rfl rfl
      have f32 : (zw_I H 72 28 (Int32.ofInt 1)).2.1 72 32 = H.2.1 72 32 := zw_ne rfl rfl
      refine zw_ld (n := 1) (k := 0) (f := zp_isR) (pc' := 173) rfl rfl l0 rfl rfl ?_
      refine zw_s (pc' := 174) rfl rfl ?_
      refine zw_pI (q := 72) (pc' := 177) W rfl rfl rfl rfl rfl rfl ?_
      refine zw_s (pc' := 331) rfl rfl ?_
      refine yr_gE hp ⟨b, yr_T_I hZ.2 rfl⟩ (zk_Fr_I' hF rfl) l0 (by rw [f29]; exact h29) (by rw [f27, hnx]; exact h27.trans (by rw [hqe])) ?_ (fun h9 => by rw [hk] at h9; cases h9) (fun _ => by rw [f32]; exact h32) (fun _ => ?_)
      · rw [hk]
        exact (congrArg Int32.toInt zw_eq).trans (by decide)
      · show H.2.2.1 72 33 = _
        rw [h33, hnx, ← hqe, ← hs]
  | succ m ih =>
    intro H lv c q hZ hF l0 l1 h29 h27 hq h32 h33 he hm
    have W := zT_Wd hZ.1
    have hn7 := hZ.2.1
    have r1 := hZ.2.2.1
    have hs : s = ys_st T n p := hs
    refine zw_ld (n := 1) (k := 0) (f := zp_isR) (pc' := 109) rfl rfl l0 rfl rfl ?_
    refine zw_ld (n := 1) (k := 0) (f := zp_isR) (pc' := 110) rfl rfl l0 rfl rfl ?_
    refine zw_gI (q := 72) (pc' := 113) W rfl rfl rfl rfl rfl rfl ?_
    by_cases hqn : q < n
    · have tq : (H.2.1 81 q).toInt = ys_u (T q) := hZ.2.2.2.1 q hqn
      refine zw_c (pc' := 116) (zw_cv (q := 72) (Y := zm_172) W.1 rfl rfl zm_172_t rfl rfl) rfl rfl rfl rfl rfl (yr_by hZ h27 hqn hn7) ?_
      by_cases hL : 97 ≤ (H.2.1 81 q).toInt ∧ (H.2.1 81 q).toInt ≤ 122
      · refine zw_c (pc' := 119) (zw_cs (Y := zm_173) rfl rfl zm_173_t) rfl rfl rfl rfl rfl (yr_l1 hL) ?_
        refine zw_beq1 (g := 172) (pc' := 122) rfl rfl rfl (rfl : _ = (1 : Int)) (fun h9 => absurd h9 (by decide)) (fun h9 => ?_)
        have tq2 : (H.2.1 81 q).toInt = T q := by
          rw [tq]
          unfold ys_u at tq ⊢
          by_cases h8 : T q < 0
          · rw [if_pos h8] at tq ⊢
            have := hb q hqn
            omega
          · rw [if_neg h8]
        have hP : ys_L (T q) = true := decide_eq_true (by rw [← tq2]; exact hL)
        rw [ys_run_t (by omega) hP] at he
        have hd : (H.2.1 72 27 - H.2.1 72 29).toInt = (H.2.1 72 27).toInt - (H.2.1 72 29).toInt := zq_sub (by omega) (by omega)
        have e1 : (H.2.1 72 27 + Int32.ofInt 1).toInt = (H.2.1 72 27).toInt + 1 := zw_p1 (by omega)
        refine zw_ld (n := 1) (k := 0) (f := zp_isR) (pc' := 123) rfl rfl l0 rfl rfl ?_
        refine zw_gI (q := 72) (pc' := 126) W rfl rfl rfl rfl rfl rfl ?_
        refine zw_ld (n := 1) (k := 0) (f := zp_isR) (pc' := 127) rfl rfl l0 rfl rfl ?_
        refine zw_gI (q := 72) (pc' := 130) W rfl rfl rfl rfl rfl rfl ?_
        refine zw_isub (pc' := 131) rfl rfl ?_
        refine zw_s (pc' := 133) rfl rfl ?_
        refine zw_bge2 (g := 159) (pc' := 136) rfl rfl rfl rfl (rfl : _ = (7 : Int)) (fun h7 => ?_) (fun h7 => ?_)
        · rw [hd] at h7
          have b2 := zT_putf (k := 27) (x := H.2.1 72 27 + Int32.ofInt 1) hZ.1 (fun r hr => by cases hr; exact ⟨by show (0 : Int) ≤ _; omega, by show _ ≤ (700 : Int); omega⟩) rfl trivial
          refine zw_ld (n := 1) (k := 0) (f := zp_isR) (pc' := 160) rfl rfl l0 rfl rfl ?_
          refine zw_s (pc' := 161) rfl rfl ?_
          refine zw_gI (q := 72) (pc' := 164) W rfl rfl rfl rfl rfl rfl ?_
          refine zw_s (pc' := 165) rfl rfl ?_
          refine zw_iadd (pc' := 166) rfl rfl ?_
          refine zw_pI (q := 72) (pc' := 169) W rfl rfl rfl rfl rfl rfl ?_
          refine zw_s (pc' := 108) rfl rfl ?_
          refine ih _ _ _ (q + 1) ⟨b2, yr_T_I hZ.2 rfl⟩ (zk_Fr_I' hF rfl) l0 l1 ((congrArg Int32.toInt (zw_ne rfl rfl)).trans h29) ?_ (by omega) ((congrArg Int32.toInt (zw_ne rfl rfl)).trans h32) ?_ he (by omega)
          · exact (congrArg Int32.toInt zw_eq).trans (by rw [e1]; omega)
          · show H.2.2.1 72 33 = _
            rw [h33, show min (q - s) 7 = 7 by omega, show min (q + 1 - s) 7 = 7 by omega]
        · rw [hd] at h7
          refine zw_ld (n := 1) (k := 0) (f := zp_isR) (pc' := 137) rfl rfl l0 rfl rfl ?_
          refine zw_ld (n := 1) (k := 0) (f := zp_isR) (pc' := 138) rfl rfl l0 rfl rfl ?_
          refine zw_gL (q := 72) (pc' := 141) W rfl rfl rfl rfl rfl ?_
          refine zw_s (pc' := 142) rfl rfl ?_
          refine zw_lshl (pc' := 143) rfl rfl ?_
          refine zw_ld (n := 1) (k := 0) (f := zp_isR) (pc' := 144) rfl rfl l0 rfl rfl ?_
          refine zw_ld (n := 1) (k := 0) (f := zp_isR) (pc' := 145) rfl rfl l0 rfl rfl ?_
          refine zw_gI (q := 72) (pc' := 148) W rfl rfl rfl rfl rfl rfl ?_
          refine zw_c (pc' := 151) (zw_cv (q := 72) (Y := zm_172) W.1 rfl rfl zm_172_t rfl rfl) rfl rfl rfl rfl rfl (yr_by hZ h27 hqn hn7) ?_
          have b1 := zT_J2 (k := 33) (x := za_shl0 (H.2.2.1 72 33) (Int32.ofInt 5) ||| (H.2.1 81 q - Int32.ofInt 96).toInt64) hZ.1
          have b2 := zT_putf (k := 27) (x := H.2.1 72 27 + Int32.ofInt 1) b1 (fun r hr => by cases hr; exact ⟨by show (0 : Int) ≤ _; omega, by show _ ≤ (700 : Int); omega⟩) rfl trivial
          refine zw_s (pc' := 153) rfl rfl ?_
          refine zw_isub (pc' := 154) rfl rfl ?_
          refine zw_s (pc' := 155) rfl rfl ?_
          refine zw_lor (pc' := 156) rfl rfl ?_
          refine zw_pL (q := 72) (pc' := 159) W rfl rfl rfl rfl rfl rfl ?_
          refine zw_ld (n := 1) (k := 0) (f := zp_isR) (pc' := 160) rfl rfl l0 rfl rfl ?_
          refine zw_s (pc' := 161) rfl rfl ?_
          refine zw_gI (q := 72) (pc' := 164) W rfl rfl rfl rfl (zw_nj rfl) rfl ?_
          refine zw_s (pc' := 165) rfl rfl ?_
          refine zw_iadd (pc' := 166) rfl rfl ?_
          refine zw_pI (q := 72) (pc' := 169) W rfl rfl rfl rfl rfl rfl ?_
          refine zw_s (pc' := 108) rfl rfl ?_
          refine ih _ _ _ (q + 1) ⟨b2, yr_T_I (yr_T_J hZ.2) rfl⟩ (zk_Fr_I' (zk_Fr_J' hF rfl) rfl) l0 l1 ((congrArg Int32.toInt (zw_ne (zw_nj rfl) rfl)).trans h29) ?_ (by omega) ((congrArg Int32.toInt (zw_ne (zw_nj rfl) rfl)).trans h32) ?_ he (by omega)
          · exact (congrArg Int32.toInt zw_eq).trans (by rw [e1]; omega)
          · show zp_u H.2.2.1 72 33 (za_shl0 (H.2.2.1 72 33) (Int32.ofInt 5) ||| (H.2.1 81 q - Int32.ofInt 96).toInt64) 72 33 = _
            rw [zp_u_self, show min (q + 1 - s) 7 = (q - s) + 1 by omega]
            show _ = za_shl0 (ys_pk T s (q - s)) (Int32.ofInt 5) ||| (Int32.ofInt (T (s + (q - s))) - Int32.ofInt 96).toInt64
            rw [show s + (q - s) = q by omega, ← tq2, Int32.ofInt_toInt, h33, show min (q - s) 7 = q - s by omega]
      · refine zw_c (pc' := 119) (zw_cs (Y := zm_173) rfl rfl zm_173_t) rfl rfl rfl rfl rfl (yr_l0 hL) ?_
        refine zw_beq1 (g := 172) (pc' := 122) rfl rfl rfl (rfl : _ = (0 : Int)) (fun h9 => ?_) (fun h9 => absurd h9 (by decide))
        have hP : ys_L (T q) = false := decide_eq_false (fun h8 => hL (by rw [tq]; unfold ys_u; rw [if_neg (by omega)]; exact h8))
        have hqe : q = e := by
          rw [← he, ys_run_f hP]
        have b := zT_putf (k := 28) (x := Int32.ofInt 1) hZ.1 (fun r hr => by cases hr) rfl trivial
        have f29 : (zw_I H 72 28 (Int32.ofInt 1)).2.1 72 29 = H.2.1 72 29 := zw_ne rfl rfl
        have f27 : (zw_I H 72 28 (Int32.ofInt 1)).2.1 72 27 = H.2.1 72 27 := zw_ne rfl rfl
        have f32 : (zw_I H 72 28 (Int32.ofInt 1)).2.1 72 32 = H.2.1 72 32 := zw_ne rfl rfl
        refine zw_ld (n := 1) (k := 0) (f := zp_isR) (pc' := 173) rfl rfl l0 rfl rfl ?_
        refine zw_s (pc' := 174) rfl rfl ?_
        refine zw_pI (q := 72) (pc' := 177) W rfl rfl rfl rfl rfl rfl ?_
        refine zw_s (pc' := 331) rfl rfl ?_
        refine yr_gE hp ⟨b, yr_T_I hZ.2 rfl⟩ (zk_Fr_I' hF rfl) l0 (by rw [f29]; exact h29) (by rw [f27, hnx]; exact h27.trans (by rw [hqe])) ?_ (fun h9 => by rw [hk] at h9; cases h9) (fun _ => by rw [f32]; exact h32) (fun _ => ?_)
        · rw [hk]
          exact (congrArg Int32.toInt zw_eq).trans (by decide)
        · show H.2.2.1 72 33 = _
          rw [h33, hnx, ← hqe, ← hs]
    · refine zw_c (pc' := 116) (zw_cv (q := 72) (Y := zm_172) W.1 rfl rfl zm_172_t rfl rfl) rfl rfl rfl rfl rfl (yr_by0 hZ (by omega)) ?_
      refine zw_c (pc' := 119) (zw_cs (Y := zm_173) rfl rfl zm_173_t) rfl rfl rfl rfl rfl (yr_l0 (by decide)) ?_
      refine zw_beq1 (g := 172) (pc' := 122) rfl rfl rfl (rfl : _ = (0 : Int)) (fun h9 => ?_) (fun h9 => absurd h9 (by decide))
      have hqe : q = e := by
        rw [← he, ys_run_n (by omega)]
      have b := zT_putf (k := 28) (x := Int32.ofInt 1) hZ.1 (fun r hr => by cases hr) rfl trivial
      have f29 : (zw_I H 72 28 (Int32.ofInt 1)).2.1 72 29 = H.2.1 72 29 := zw_ne rfl rfl
      have f27 : (zw_I H 72 28 (Int32.ofInt 1)).2.1 72 27 = H.2.1 72 27 := zw_ne rfl rfl
      have f32 : (zw_I H 72 28 (Int32.ofInt 1)).2.1 72 32 = H.2.1 72 32 := zw_ne rfl rfl
      refine zw_ld (n := 1) (k := 0) (f := zp_isR) (pc' := 173) rfl rfl l0 rfl rfl ?_
      refine zw_s (pc' := 174) rfl rfl ?_
      refine zw_pI (q := 72) (pc' := 177) W rfl rfl rfl rfl rfl rfl ?_
      refine zw_s (pc' := 331) rfl rfl ?_
      refine yr_gE hp ⟨b, yr_T_I hZ.2 rfl⟩ (zk_Fr_I' hF rfl) l0 (by rw [f29]; exact h29) (by rw [f27, hnx]; exact h27.trans (by rw [hqe])) ?_ (fun h9 => by rw [hk] at h9; cases h9) (fun _ => by rw [f32]; exact h32) (fun _ => ?_)
      · rw [hk]
        exact (congrArg Int32.toInt zw_eq).trans (by decide)
      · show H.2.2.1 72 33 = _
        rw [h33, hnx, ← hqe, ← hs]

set_option maxRecDepth 8000 in
theorem yr_gN {L : Nat} {σ : Nat → Int32} {d : Nat} {T : Nat → Int} {n : Nat} {p s e : Nat} {H0 : zp_H} (hp : p ≤ n) (hb : ∀ k, k < n → -128 ≤ T k ∧ T k ≤ 127) (hs : s = ys_st T n p) (hk : ys_kd T n p = 2) (hnx : ys_nx T n p = e) : ∀ (m : Nat) (H : zp_H) (lv : zp_LV) (c : Int32) (q : Nat), yr_Z T n H → zk_Fr zg yr_m [] H0 H → zp_get lv 0 = some (.inr (.inr (some 73))) → zp_get lv 1 = some (.inl c) → (H.2.1 72 29).toInt = ys_st T n p → (H.2.1 72 27).toInt = q → s ≤ q ∧ q ≤ n → (H.2.1 72 32).toInt = ys_u (T (ys_st T n p)) → (H.2.1 72 31).toInt = ys_nm T s (min (q - s) 4) → 0 ≤ (H.2.1 72 31).toInt ∧ (H.2.1 72 31).toInt ≤ ys_10 (min (q - s) 4) → ys_run ys_D T (n - q) q = e → n - q ≤ m → zs_Safe L σ (fun X : zp_X => ∃ H1, X = (.inl none, H1) ∧ yr_Z T n H1 ∧ zk_Fr zg yr_m [] H0 H1 ∧ yr_k T n p H1) zm_171 [] (d + 2) (187, lv, [], H, (0, 0)) := by
  intro m
  induction m with
  | zero =>
    intro H lv c q hZ hF l0 l1 h29 h27 hq h32 hx hxb he hm
    have W := zT_Wd hZ.1
    have hn7 := hZ.2.1
    have r1 := hZ.2.2.1
    have hs : s = ys_st T n p := hs
    refine zw_ld (n := 1) (k := 0) (f := zp_isR) (pc' := 188) rfl rfl l0 rfl rfl ?_
    refine zw_ld (n := 1) (k := 0) (f := zp_isR) (pc' := 189) rfl rfl l0 rfl rfl ?_
    refine zw_gI (q := 72) (pc' := 192) W rfl rfl rfl rfl rfl rfl ?_
    by_cases hqn : q < n
    · omega
    · refine zw_c (pc' := 195) (zw_cv (q := 72) (Y := zm_172) W.1 rfl rfl zm_172_t rfl rfl) rfl rfl rfl rfl rfl (yr_by0 hZ (by omega)) ?_
      refine zw_c (pc' := 198) (zw_cs (Y := zm_174) rfl rfl zm_174_t) rfl rfl rfl rfl rfl (yr_g0 (by decide)) ?_
      refine zw_beq1 (g := 250) (pc' := 201) rfl rfl rfl (rfl : _ = (0 : Int)) (fun h9 => ?_) (fun h9 => absurd h9 (by decide))
      have hqe : q = e := by
        rw [← he, ys_run_n (by omega)]
      have b := zT_putf (k := 28) (x := Int32.ofInt 2) hZ.1 (fun r hr => by cases hr) rfl trivial
      have f29 : (zw_I H 72 28 (Int32.ofInt 2)).2.1 72 29 = H.2.1 72 29 := zw_ne rfl rfl
      have f27 : (zw_I H 72 28 (Int32.ofInt 2)).2.1 72 27 = H.2.1 72 27 := zw_ne rfl rfl
      have f31 : (zw_I H 72 28 (Int32.ofInt 2)).2.1 72 31 = H.2.1 72 31 := zw_ne rfl rfl
      have f32 : (zw_I H 72 28 (Int32.ofInt 2)).2.1 72 32 = H.2.1 72 32 := zw_ne rfl rfl
      refine zw_ld (n := 1) (k := 0) (f := zp_isR) (pc' := 251) rfl rfl l0 rfl rfl ?_
      refine zw_s (pc' := 252) rfl rfl ?_
      refine zw_pI (q := 72) (pc' := 255) W rfl rfl rfl rfl rfl rfl ?_
      refine zw_s (pc' := 331) rfl rfl ?_
      refine yr_gE hp ⟨b, yr_T_I hZ.2 rfl⟩ (zk_Fr_I' hF rfl) l0 (by rw [f29]; exact h29) (by rw [f27, hnx]; exact h27.trans (by rw [hqe])) ?_ (fun _ => ?_) (fun _ => by rw [f32]; exact h32) (fun h9 => by rw [hk] at h9; cases h9)
      · rw [hk]
        exact (congrArg Int32.toInt zw_eq).trans (by decide)
      · rw [f31, hx, hnx, ← hqe, ← hs]
  | succ m ih =>
    intro H lv c q hZ hF l0 l1 h29 h27 hq h32 hx hxb he hm
    have W := zT_Wd hZ.1
    have hn7 := hZ.2.1
    have r1 := hZ.2.2.1
    have hs : s = ys_st T n p := hs
    refine zw_ld (n := 1) (k := 0) (f := zp_isR) (pc' := 188) rfl rfl l0 rfl rfl ?_
    refine zw_ld (n := 1) (k := 0) (f := zp_isR) (pc' := 189) rfl rfl l0 rfl rfl ?_
    refine zw_gI (q := 72) (pc' := 192) W rfl rfl rfl rfl rfl rfl ?_
    by_cases hqn : q < n
    · have tq : (H.2.1 81 q).toInt = ys_u (T q) := hZ.2.2.2.1 q hqn
      refine zw_c (pc' := 195) (zw_cv (q := 72) (Y := zm_172) W.1 rfl rfl zm_172_t rfl rfl) rfl rfl rfl rfl rfl (yr_by hZ h27 hqn hn7) ?_
      by_cases hL : 48 ≤ (H.2.1 81 q).toInt ∧ (H.2.1 81 q).toInt ≤ 57
      · refine zw_c (pc' := 198) (zw_cs (Y := zm_174) rfl rfl zm_174_t) rfl rfl rfl rfl rfl (yr_g1 hL) ?_
        refine zw_beq1 (g := 250) (pc' := 201) rfl rfl rfl (rfl : _ = (1 : Int)) (fun h9 => absurd h9 (by decide)) (fun h9 => ?_)
        have tq2 : (H.2.1 81 q).toInt = T q := by
          rw [tq]
          unfold ys_u at tq ⊢
          by_cases h8 : T q < 0
          · rw [if_pos h8] at tq ⊢
            have := hb q hqn
            omega
          · rw [if_neg h8]
        have hP : ys_D (T q) = true := decide_eq_true (by rw [← tq2]; exact hL)
        rw [ys_run_t (by omega) hP] at he
        have hd : (H.2.1 72 27 - H.2.1 72 29).toInt = (H.2.1 72 27).toInt - (H.2.1 72 29).toInt := zq_sub (by omega) (by omega)
        have e1 : (H.2.1 72 27 + Int32.ofInt 1).toInt = (H.2.1 72 27).toInt + 1 := zw_p1 (by omega)
        refine zw_ld (n := 1) (k := 0) (f := zp_isR) (pc' := 202) rfl rfl l0 rfl rfl ?_
        refine zw_gI (q := 72) (pc' := 205) W rfl rfl rfl rfl rfl rfl ?_
        refine zw_ld (n := 1) (k := 0) (f := zp_isR) (pc' := 206) rfl rfl l0 rfl rfl ?_
        refine zw_gI (q := 72) (pc' := 209) W rfl rfl rfl rfl rfl rfl ?_
        refine zw_isub (pc' := 210) rfl rfl ?_
        refine zw_s (pc' := 211) rfl rfl ?_
        refine zw_bge2 (g := 237) (pc' := 214) rfl rfl rfl rfl (rfl : _ = (4 : Int)) (fun h7 => ?_) (fun h7 => ?_)
        · rw [hd] at h7
          have b2 := zT_putf (k := 27) (x := H.2.1 72 27 + Int32.ofInt 1) hZ.1 (fun r hr => by cases hr; exact ⟨by show (0 : Int) ≤ _; omega, by show _ ≤ (700 : Int); omega⟩) rfl trivial
          refine zw_ld (n := 1) (k := 0) (f := zp_isR) (pc' := 238) rfl rfl l0 rfl rfl ?_
          refine zw_s (pc' := 239) rfl rfl ?_
          refine zw_gI (q := 72) (pc' := 242) W rfl rfl rfl rfl rfl rfl ?_
          refine zw_s (pc' := 243) rfl rfl ?_
          refine zw_iadd (pc' := 244) rfl rfl ?_
          refine zw_pI (q := 72) (pc' := 247) W rfl rfl rfl rfl rfl rfl ?_
          refine zw_s (pc' := 187) rfl rfl ?_
          refine ih _ _ _ (q + 1) ⟨b2, yr_T_I hZ.2 rfl⟩ (zk_Fr_I' hF rfl) l0 l1 ((congrArg Int32.toInt (zw_ne rfl rfl)).trans h29) ?_ (by omega) ((congrArg Int32.toInt (zw_ne rfl rfl)).trans h32) ?_ ?_ he (by omega)
          · exact (congrArg Int32.toInt zw_eq).trans (by rw [e1]; omega)
          · refine (congrArg Int32.toInt (zw_ne rfl rfl)).trans ?_
            rw [hx, show min (q - s) 4 = 4 by omega, show min (q + 1 - s) 4 = 4 by omega]
          · rw [show (zw_I H 72 27 (H.2.1 72 27 + Int32.ofInt 1)).2.1 72 31 = H.2.1 72 31 from zw_ne rfl rfl, show min (q + 1 - s) 4 = 4 by omega]
            rw [show min (q - s) 4 = 4 by omega] at hxb
            exact hxb
        · rw [hd] at h7
          rw [show min (q - s) 4 = q - s by omega] at hx hxb
          obtain ⟨hb1, hb2⟩ := ys_10b hxb (by omega) hL
          have m1 : (Int32.ofInt 10 * H.2.1 72 31).toInt = (H.2.1 72 31).toInt * 10 := by
            rw [Int32.mul_comm]
            exact zq_mul (y := Int32.ofInt 10) (z := 10) (by decide) (by omega) (by omega)
          have m2 : (Int32.ofInt 10 * H.2.1 72 31 + H.2.1 81 q).toInt = (H.2.1 72 31).toInt * 10 + (H.2.1 81 q).toInt := (zq_add (by omega) (by omega)).trans (by rw [m1])
          have m3 : (Int32.ofInt 10 * H.2.1 72 31 + H.2.1 81 q - Int32.ofInt 48).toInt = (H.2.1 72 31).toInt * 10 + (H.2.1 81 q).toInt - 48 := (zq_sub (by rw [m2]; show _ ≤ _ - (48 : Int); omega) (by rw [m2]; show _ - (48 : Int) ≤ _; omega)).trans (by rw [m2]; rfl)
          refine zw_ld (n := 1) (k := 0) (f := zp_isR) (pc' := 215) rfl rfl l0 rfl rfl ?_
          refine zw_s (pc' := 217) rfl rfl ?_
          refine zw_ld (n := 1) (k := 0) (f := zp_isR) (pc' := 218) rfl rfl l0 rfl rfl ?_
          refine zw_gI (q := 72) (pc' := 221) W rfl rfl rfl rfl rfl rfl ?_
          refine zw_imul (pc' := 222) rfl rfl ?_
          refine zw_ld (n := 1) (k := 0) (f := zp_isR) (pc' := 223) rfl rfl l0 rfl rfl ?_
          refine zw_ld (n := 1) (k := 0) (f := zp_isR) (pc' := 224) rfl rfl l0 rfl rfl ?_
          refine zw_gI (q := 72) (pc' := 227) W rfl rfl rfl rfl rfl rfl ?_
          refine zw_c (pc' := 230) (zw_cv (q := 72) (Y := zm_172) W.1 rfl rfl zm_172_t rfl rfl) rfl rfl rfl rfl rfl (yr_by hZ h27 hqn hn7) ?_
          have b1 := zT_putf (k := 31) (x := Int32.ofInt 10 * H.2.1 72 31 + H.2.1 81 q - Int32.ofInt 48) hZ.1 (fun r hr => by cases hr) rfl trivial
          have b2 := zT_putf (k := 27) (x := H.2.1 72 27 + Int32.ofInt 1) b1 (fun r hr => by cases hr; exact ⟨by show (0 : Int) ≤ _; omega, by show _ ≤ (700 : Int); omega⟩) rfl trivial
          refine zw_iadd (pc' := 231) rfl rfl ?_
          refine zw_s (pc' := 233) rfl rfl ?_
          refine zw_isub (pc' := 234) rfl rfl ?_
          refine zw_pI (q := 72) (pc' := 237) W rfl rfl rfl rfl rfl rfl ?_
          refine zw_ld (n := 1) (k := 0) (f := zp_isR) (pc' := 238) rfl rfl l0 rfl rfl ?_
          refine zw_s (pc' := 239) rfl rfl ?_
          refine zw_gI (q := 72) (pc' := 242) W rfl rfl rfl rfl (zw_ne rfl rfl) rfl ?_
          refine zw_s (pc' := 243) rfl rfl ?_
          refine zw_iadd (pc' := 244) rfl rfl ?_
          refine zw_pI (q := 72) (pc' := 247) W rfl rfl rfl rfl rfl rfl ?_
          refine zw_s (pc' := 187) rfl rfl ?_
          have f31 : (zw_I (zw_I H 72 31 (Int32.ofInt 10 * H.2.1 72 31 + H.2.1 81 q - Int32.ofInt 48)) 72 27 (H.2.1 72 27 + Int32.ofInt 1)).2.1 72 31 = Int32.ofInt 10 * H.2.1 72 31 + H.2.1 81 q - Int32.ofInt 48 := zw_ne zw_eq rfl
          refine ih _ _ _ (q + 1) ⟨b2, yr_T_I (yr_T_I hZ.2 rfl) rfl⟩ (zk_Fr_I' (zk_Fr_I' hF rfl) rfl) l0 l1 ((congrArg Int32.toInt (zw_ne (zw_ne rfl rfl) rfl)).trans h29) ?_ (by omega) ((congrArg Int32.toInt (zw_ne (zw_ne rfl rfl) rfl)).trans h32) ?_ ?_ he (by omega)
          · exact (congrArg Int32.toInt zw_eq).trans (by rw [e1]; omega)
          · rw [f31, m3, show min (q + 1 - s) 4 = (q - s) + 1 by omega]
            show _ = ys_nm T s (q - s) * 10 + T (s + (q - s)) - 48
            rw [← hx, show s + (q - s) = q by omega, tq2]
          · rw [f31, m3, show min (q + 1 - s) 4 = (q - s) + 1 by omega]
            exact hb2
      · refine zw_c (pc' := 198) (zw_cs (Y := zm_174) rfl rfl zm_174_t) rfl rfl rfl rfl rfl (yr_g0 hL) ?_
        refine zw_beq1 (g := 250) (pc' := 201) rfl rfl rfl (rfl : _ = (0 : Int)) (fun h9 => ?_) (fun h9 => absurd h9 (by decide))
        have hP : ys_D (T q) = false := decide_eq_false (fun h8 => hL (by rw [tq]; unfold ys_u; rw [if_neg (by omega)]; exact h8))
        have hqe : q = e := by
          rw [← he, ys_run_f hP]
        have b := zT_putf (k := 28) (x := Int32.ofInt 2) hZ.1 (fun r hr => by cases hr) rfl trivial
        have f29 : (zw_I H 72 28 (Int32.ofInt 2)).2.1 72 29 = H.2.1 72 29 := zw_ne rfl rfl
        have f27 : (zw_I H 72 28 (Int32.ofInt 2)).2.1 72 27 = H.2.1 72 27 := zw_ne rfl rfl
        have f31 : (zw_I H 72 28 (Int32.ofInt 2)).2.1 72 31 = H.2.1 72 31 := zw_ne rfl rfl
        have f32 : (zw_I H 72 28 (Int32.ofInt 2)).2.1 72 32 = H.2.1 72 32 := zw_ne rfl rfl
        refine zw_ld (n := 1) (k := 0) (f := zp_isR) (pc' := 251) rfl rfl l0 rfl rfl ?_
        refine zw_s (pc' := 252) rfl rfl ?_
        refine zw_pI (q := 72) (pc' := 255) W rfl rfl rfl rfl rfl rfl ?_
        refine zw_s (pc' := 331) rfl rfl ?_
        refine yr_gE hp ⟨b, yr_T_I hZ.2 rfl⟩ (zk_Fr_I' hF rfl) l0 (by rw [f29]; exact h29) (by rw [f27, hnx]; exact h27.trans (by rw [hqe])) ?_ (fun _ => ?_) (fun _ => by rw [f32]; exact h32) (fun h9 => by rw [hk] at h9; cases h9)
        · rw [hk]
          exact (congrArg Int32.toInt zw_eq).trans (by decide)
        · rw [f31, hx, hnx, ← hqe, ← hs]
    · refine zw_c (pc' := 195) (zw_cv (q := 72) (Y := zm_172) W.1 rfl rfl zm_172_t rfl rfl) rfl rfl rfl rfl rfl (yr_by0 hZ (by omega)) ?_
      refine zw_c (pc' := 198) (zw_cs (Y := zm_174) rfl rfl zm_174_t) rfl rfl rfl rfl rfl (yr_g0 (by decide)) ?_
      refine zw_beq1 (g := 250) (pc' := 201) rfl rfl rfl (rfl : _ = (0 : Int)) (fun h9 => ?_) (fun h9 => absurd h9 (by decide))
      have hqe : q = e := by
        rw [← he, ys_run_n (by omega)]
      have b := zT_putf (k := 28) (x := Int32.ofInt 2) hZ.1 (fun r hr => by cases hr) rfl trivial
      have f29 : (zw_I H 72 28 (Int32.ofInt 2)).2.1 72 29 = H.2.1 72 29 := zw_ne rfl rfl
      have f27 : (zw_I H 72 28 (Int32.ofInt 2)).2.1 72 27 = H.2.1 72 27 := zw_ne rfl rfl
      have f31 : (zw_I H 72 28 (Int32.ofInt 2)).2.1 72 31 = H.2.1 72 31 := zw_ne rfl rfl
      have f32 : (zw_I H 72 28 (Int32.ofInt 2)).2.1 72 32 = H.2.1 72 32 := zw_ne rfl rfl
      refine zw_ld (n := 1) (k := 0) (f := zp_isR) (pc' := 251) rfl rfl l0 rfl rfl ?_
      refine zw_s (pc' := 252) rfl rfl ?_
      refine zw_pI (q := 72) (pc' := 255) W rfl rfl rfl rfl rfl rfl ?_
      refine zw_s (pc' := 331) rfl rfl ?_
      refine yr_gE hp ⟨b, yr_T_I hZ.2 rfl⟩ (zk_Fr_I' hF rfl) l0 (by rw [f29]; exact h29) (by rw [f27, hnx]; exact h27.trans (by rw [hqe])) ?_ (fun _ => ?_) (fun _ => by rw [f32]; exact h32) (fun h9 => by rw [hk] at h9; cases h9)
      · rw [hk]
        exact (congrArg Int32.toInt zw_eq).trans (by decide)
      · rw [f31, hx, hnx, ← hqe, ← hs]

set_option maxRecDepth 8000 in
theorem yr_gS {L : Nat} {σ : Nat → Int32} {d : Nat} {T : Nat → Int} {n : Nat} {p s : Nat} {H0 H : zp_H} {lv : zp_LV} {c : Int32} (hp : p ≤ n) (hsn : s < n) (hs : s = ys_st T n p) (hk : ys_kd T n p = (bif ys_G (T s) then 4 else 1)) (hnx : ys_nx T n p = s + 1) (hZ : yr_Z T n H) (hF : zk_Fr zg yr_m [] H0 H) (l0 : zp_get lv 0 = some (.inr (.inr (some 73)))) (l1 : zp_get lv 1 = some (.inl c)) (hc : c.toInt = ys_u (T s)) (hu : 0 ≤ T s ∧ ys_u (T s) = T s ∨ T s < 0 ∧ 128 ≤ ys_u (T s)) (h29 : (H.2.1 72 29).toInt = ys_st T n p) (h27 : (H.2.1 72 27).toInt = s) (h32 : (H.2.1 72 32).toInt = ys_u (T (ys_st T n p))) : zs_Safe L σ (fun X : zp_X => ∃ H1, X = (.inl none, H1) ∧ yr_Z T n H1 ∧ zk_Fr zg yr_m [] H0 H1 ∧ yr_k T n p H1) zm_171 [] (d + 2) (258, lv, [], H, (0, 0)) := by
  have W := zT_Wd hZ.1
  have hn7 := hZ.2.1
  have r1 := hZ.2.2.1
  have e1 : (H.2.1 72 27 + Int32.ofInt 1).toInt = (H.2.1 72 27).toInt + 1 := zw_p1 (by omega)
  have b1 := zT_putf (k := 27) (x := H.2.1 72 27 + Int32.ofInt 1) hZ.1 (fun r hr => by cases hr; exact ⟨by show (0 : Int) ≤ _; omega, by show _ ≤ (700 : Int); omega⟩) rfl trivial
  refine zw_ld (n := 1) (k := 0) (f := zp_isR) (pc' := 259) rfl rfl l0 rfl rfl ?_
  refine zw_s (pc' := 260) rfl rfl ?_
  refine zw_gI (q := 72) (pc' := 263) W rfl rfl rfl rfl rfl rfl ?_
  refine zw_s (pc' := 264) rfl rfl ?_
  refine zw_iadd (pc' := 265) rfl rfl ?_
  refine zw_pI (q := 72) (pc' := 268) W rfl rfl rfl rfl rfl rfl ?_
  refine zw_ld (n := 1) (k := 0) (f := zp_isR) (pc' := 269) rfl rfl l0 rfl rfl ?_
  refine zw_ld (n := 1) (k := 1) (f := zp_isI) (pc' := 270) rfl rfl l1 rfl rfl ?_
  refine zw_s (pc' := 272) rfl rfl ?_
  refine zw_beq2 (g := 323) (pc' := 275) rfl rfl rfl rfl (rfl : _ = (59 : Int)) (fun h59 => ?_) (fun h59 => ?_)
  · rw [hc] at h59
    have b2 := zT_putf (k := 28) (x := Int32.ofInt 3) b1 (fun r hr => by cases hr) rfl trivial
    have f29 : (zw_I (zw_I H 72 27 (H.2.1 72 27 + Int32.ofInt 1)) 72 28 (Int32.ofInt 3)).2.1 72 29 = H.2.1 72 29 := zw_ne (zw_ne rfl rfl) rfl
    have f27 : (zw_I (zw_I H 72 27 (H.2.1 72 27 + Int32.ofInt 1)) 72 28 (Int32.ofInt 3)).2.1 72 27 = H.2.1 72 27 + Int32.ofInt 1 := zw_ne zw_eq rfl
    have f32 : (zw_I (zw_I H 72 27 (H.2.1 72 27 + Int32.ofInt 1)) 72 28 (Int32.ofInt 3)).2.1 72 32 = H.2.1 72 32 := zw_ne (zw_ne rfl rfl) rfl
    refine zw_s (pc' := 324) rfl rfl ?_
    refine zw_s (pc' := 328) rfl rfl ?_
    refine zw_pI (q := 72) (pc' := 331) W rfl rfl rfl rfl rfl rfl ?_
    refine yr_gE hp ⟨b2, yr_T_I (yr_T_I hZ.2 rfl) rfl⟩ (zk_Fr_I' (zk_Fr_I' hF rfl) rfl) l0 (by rw [f29]; exact h29) (by rw [f27, e1, hnx]; omega) ?_ (fun h9 => by rw [hk] at h9; cases hG : ys_G (T s) <;> rw [hG] at h9 <;> cases h9) (fun _ => by rw [f32]; exact h32) (fun h9 => by rw [hk] at h9; cases hG : ys_G (T s) <;> rw [hG] at h9 <;> cases h9)
    refine (congrArg Int32.toInt zw_eq).trans ?_
    rw [hk, show ys_G (T s) = true from decide_eq_true (by omega)]
    decide
  · rw [hc] at h59
    refine zw_ld (n := 1) (k := 1) (f := zp_isI) (pc' := 276) rfl rfl l1 rfl rfl ?_
    refine zw_s (pc' := 278) rfl rfl ?_
    refine zw_beq2 (g := 323) (pc' := 281) rfl rfl rfl rfl (rfl : _ = (40 : Int)) (fun h40 => ?_) (fun h40 => ?_)
    · rw [hc] at h40
      have b2 := zT_putf (k := 28) (x := Int32.ofInt 3) b1 (fun r hr => by cases hr) rfl trivial
      have f29 : (zw_I (zw_I H 72 27 (H.2.1 72 27 + Int32.ofInt 1)) 72 28 (Int32.ofInt 3)).2.1 72 29 = H.2.1 72 29 := zw_ne (zw_ne rfl rfl) rfl
      have f27 : (zw_I (zw_I H 72 27 (H.2.1 72 27 + Int32.ofInt 1)) 72 28 (Int32.ofInt 3)).2.1 72 27 = H.2.1 72 27 + Int32.ofInt 1 := zw_ne zw_eq rfl
      have f32 : (zw_I (zw_I H 72 27 (H.2.1 72 27 + Int32.ofInt 1)) 72 28 (Int32.ofInt 3)).2.1 72 32 = H.2.1 72 32 := zw_ne (zw_ne rfl rfl) rfl
      refine zw_s (pc' := 324) rfl rfl ?_
      refine zw_s (pc' := 328) rfl rfl ?_
      refine zw_pI (q := 72) (pc' := 331) W rfl rfl rfl rfl rfl rfl ?_
      refine yr_gE hp ⟨b2, yr_T_I (yr_T_I hZ.2 rfl) rfl⟩ (zk_Fr_I' (zk_Fr_I' hF rfl) rfl) l0 (by rw [f29]; exact h29) (by rw [f27, e1, hnx]; omega) ?_ (fun h9 => by rw [hk] at h9; cases hG : ys_G (T s) <;> rw [hG] at h9 <;> cases h9) (fun _ => by rw [f32]; exact h32) (fun h9 => by rw [hk] at h9; cases hG : ys_G (T s) <;> rw [hG] at h9 <;> cases h9)
      refine (congrArg Int32.toInt zw_eq).trans ?_
      rw [hk, show ys_G (T s) = true from decide_eq_true (by omega)]
      decide
    · rw [hc] at h40
      refine zw_ld (n := 1) (k := 1) (f := zp_isI) (pc' := 282) rfl rfl l1 rfl rfl ?_
      refine zw_s (pc' := 284) rfl rfl ?_
      refine zw_beq2 (g := 323) (pc' := 287) rfl rfl rfl rfl (rfl : _ = (41 : Int)) (fun h41 => ?_) (fun h41 => ?_)
      · rw [hc] at h41
        have b2 := zT_putf (k := 28) (x := Int32.ofInt 3) b1 (fun r hr => by cases hr) rfl trivial
        have f29 : (zw_I (zw_I H 72 27 (H.2.1 72 27 + Int32.ofInt 1)) 72 28 (Int32.ofInt 3)).2.1 72 29 = H.2.1 72 29 := zw_ne (zw_ne rfl rfl) rfl
        have f27 : (zw_I (zw_I H 72 27 (H.2.1 72 27 + Int32.ofInt 1)) 72 28 (Int32.ofInt 3)).2.1 72 27 = H.2.1 72 27 + Int32.ofInt 1 := zw_ne zw_eq rfl
        have f32 : (zw_I (zw_I H 72 27 (H.2.1 72 27 + Int32.ofInt 1)) 72 28 (Int32.ofInt 3)).2.1 72 32 = H.2.1 72 32 := zw_ne (zw_ne rfl rfl) rfl
        refine zw_s (pc' := 324) rfl rfl ?_
        refine zw_s (pc' := 328) rfl rfl ?_
        refine zw_pI (q := 72) (pc' := 331) W rfl rfl rfl rfl rfl rfl ?_
        refine yr_gE hp ⟨b2, yr_T_I (yr_T_I hZ.2 rfl) rfl⟩ (zk_Fr_I' (zk_Fr_I' hF rfl) rfl) l0 (by rw [f29]; exact h29) (by rw [f27, e1, hnx]; omega) ?_ (fun h9 => by rw [hk] at h9; cases hG : ys_G (T s) <;> rw [hG] at h9 <;> cases h9) (fun _ => by rw [f32]; exact h32) (fun h9 => by rw [hk] at h9; cases hG : ys_G (T s) <;> rw [hG] at h9 <;> cases h9)
        refine (congrArg Int32.toInt zw_eq).trans ?_
        rw [hk, show ys_G (T s) = true from decide_eq_true (by omega)]
        decide
      · rw [hc] at h41
        refine zw_ld (n := 1) (k := 1) (f := zp_isI) (pc' := 288) rfl rfl l1 rfl rfl ?_
        refine zw_s (pc' := 290) rfl rfl ?_
        refine zw_beq2 (g := 323) (pc' := 293) rfl rfl rfl rfl (rfl : _ = (43 : Int)) (fun h43 => ?_) (fun h43 => ?_)
        · rw [hc] at h43
          have b2 := zT_putf (k := 28) (x := Int32.ofInt 3) b1 (fun r hr => by cases hr) rfl trivial
          have f29 : (zw_I (zw_I H 72 27 (H.2.1 72 27 + Int32.ofInt 1)) 72 28 (Int32.ofInt 3)).2.1 72 29 = H.2.1 72 29 := zw_ne (zw_ne rfl rfl) rfl
          have f27 : (zw_I (zw_I H 72 27 (H.2.1 72 27 + Int32.ofInt 1)) 72 28 (Int32.ofInt 3)).2.1 72 27 = H.2.1 72 27 + Int32.ofInt 1 := zw_ne zw_eq rfl
          have f32 : (zw_I (zw_I H 72 27 (H.2.1 72 27 + Int32.ofInt 1)) 72 28 (Int32.ofInt 3)).2.1 72 32 = H.2.1 72 32 := zw_ne (zw_ne rfl rfl) rfl
          refine zw_s (pc' := 324) rfl rfl ?_
          refine zw_s (pc' := 328) rfl rfl ?_
          refine zw_pI (q := 72) (pc' := 331) W rfl rfl rfl rfl rfl rfl ?_
          refine yr_gE hp ⟨b2, yr_T_I (yr_T_I hZ.2 rfl) rfl⟩ (zk_Fr_I' (zk_Fr_I' hF rfl) rfl) l0 (by rw [f29]; exact h29) (by rw [f27, e1, hnx]; omega) ?_ (fun h9 => by rw [hk] at h9; cases hG : ys_G (T s) <;> rw [hG] at h9 <;> cases h9) (fun _ => by rw [f32]; exact h32) (fun h9 => by rw [hk] at h9; cases hG : ys_G (T s) <;> rw [hG] at h9 <;> cases h9)
          refine (congrArg Int32.toInt zw_eq).trans ?_
          rw [hk, show ys_G (T s) = true from decide_eq_true (by omega)]
          decide
        · rw [hc] at h43
          refine zw_ld (n := 1) (k := 1) (f := zp_isI) (pc' := 294) rfl rfl l1 rfl rfl ?_
          refine zw_s (pc' := 296) rfl rfl ?_
          refine zw_beq2 (g := 323) (pc' := 299) rfl rfl rfl rfl (rfl : _ = (45 : Int)) (fun h45 => ?_) (fun h45 => ?_)
          · rw [hc] at h45
            have b2 := zT_putf (k := 28) (x := Int32.ofInt 3) b1 (fun r hr => by cases hr) rfl trivial
            have f29 : (zw_I (zw_I H 72 27 (H.2.1 72 27 + Int32.ofInt 1)) 72 28 (Int32.ofInt 3)).2.1 72 29 = H.2.1 72 29 := zw_ne (zw_ne rfl rfl) rfl
            have f27 : (zw_I (zw_I H 72 27 (H.2.1 72 27 + Int32.ofInt 1)) 72 28 (Int32.ofInt 3)).2.1 72 27 = H.2.1 72 27 + Int32.ofInt 1 := zw_ne zw_eq rfl
            have f32 : (zw_I (zw_I H 72 27 (H.2.1 72 27 + Int32.ofInt 1)) 72 28 (Int32.ofInt 3)).2.1 72 32 = H.2.1 72 32 := zw_ne (zw_ne rfl rfl) rfl
            refine zw_s (pc' := 324) rfl rfl ?_
            refine zw_s (pc' := 328) rfl rfl ?_
            refine zw_pI (q := 72) (pc' := 331) W rfl rfl rfl rfl rfl rfl ?_
            refine yr_gE hp ⟨b2, yr_T_I (yr_T_I hZ.2 rfl) rfl⟩ (zk_Fr_I' (zk_Fr_I' hF rfl) rfl) l0 (by rw [f29]; exact h29) (by rw [f27, e1, hnx]; omega) ?_ (fun h9 => by rw [hk] at h9; cases hG : ys_G (T s) <;> rw [hG] at h9 <;> cases h9) (fun _ => by rw [f32]; exact h32) (fun h9 => by rw [hk] at h9; cases hG : ys_G (T s) <;> rw [hG] at h9 <;> cases h9)
            refine (congrArg Int32.toInt zw_eq).trans ?_
            rw [hk, show ys_G (T s) = true from decide_eq_true (by omega)]
            decide
          · rw [hc] at h45
            refine zw_ld (n := 1) (k := 1) (f := zp_isI) (pc' := 300) rfl rfl l1 rfl rfl ?_
            refine zw_s (pc' := 302) rfl rfl ?_
            refine zw_beq2 (g := 323) (pc' := 305) rfl rfl rfl rfl (rfl : _ = (42 : Int)) (fun h42 => ?_) (fun h42 => ?_)
            · rw [hc] at h42
              have b2 := zT_putf (k := 28) (x := Int32.ofInt 3) b1 (fun r hr => by cases hr) rfl trivial
              have f29 : (zw_I (zw_I H 72 27 (H.2.1 72 27 + Int32.ofInt 1)) 72 28 (Int32.ofInt 3)).2.1 72 29 = H.2.1 72 29 := zw_ne (zw_ne rfl rfl) rfl
              have f27 : (zw_I (zw_I H 72 27 (H.2.1 72 27 + Int32.ofInt 1)) 72 28 (Int32.ofInt 3)).2.1 72 27 = H.2.1 72 27 + Int32.ofInt 1 := zw_ne zw_eq rfl
              have f32 : (zw_I (zw_I H 72 27 (H.2.1 72 27 + Int32.ofInt 1)) 72 28 (Int32.ofInt 3)).2.1 72 32 = H.2.1 72 32 := zw_ne (zw_ne rfl rfl) rfl
              refine zw_s (pc' := 324) rfl rfl ?_
              refine zw_s (pc' := 328) rfl rfl ?_
              refine zw_pI (q := 72) (pc' := 331) W rfl rfl rfl rfl rfl rfl ?_
              refine yr_gE hp ⟨b2, yr_T_I (yr_T_I hZ.2 rfl) rfl⟩ (zk_Fr_I' (zk_Fr_I' hF rfl) rfl) l0 (by rw [f29]; exact h29) (by rw [f27, e1, hnx]; omega) ?_ (fun h9 => by rw [hk] at h9; cases hG : ys_G (T s) <;> rw [hG] at h9 <;> cases h9) (fun _ => by rw [f32]; exact h32) (fun h9 => by rw [hk] at h9; cases hG : ys_G (T s) <;> rw [hG] at h9 <;> cases h9)
              refine (congrArg Int32.toInt zw_eq).trans ?_
              rw [hk, show ys_G (T s) = true from decide_eq_true (by omega)]
              decide
            · rw [hc] at h42
              refine zw_ld (n := 1) (k := 1) (f := zp_isI) (pc' := 306) rfl rfl l1 rfl rfl ?_
              refine zw_s (pc' := 308) rfl rfl ?_
              refine zw_beq2 (g := 323) (pc' := 311) rfl rfl rfl rfl (rfl : _ = (47 : Int)) (fun h47 => ?_) (fun h47 => ?_)
              · rw [hc] at h47
                have b2 := zT_putf (k := 28) (x := Int32.ofInt 3) b1 (fun r hr => by cases hr) rfl trivial
                have f29 : (zw_I (zw_I H 72 27 (H.2.1 72 27 + Int32.ofInt 1)) 72 28 (Int32.ofInt 3)).2.1 72 29 = H.2.1 72 29 := zw_ne (zw_ne rfl rfl) rfl
                have f27 : (zw_I (zw_I H 72 27 (H.2.1 72 27 + Int32.ofInt 1)) 72 28 (Int32.ofInt 3)).2.1 72 27 = H.2.1 72 27 + Int32.ofInt 1 := zw_ne zw_eq rfl
                have f32 : (zw_I (zw_I H 72 27 (H.2.1 72 27 + Int32.ofInt 1)) 72 28 (Int32.ofInt 3)).2.1 72 32 = H.2.1 72 32 := zw_ne (zw_ne rfl rfl) rfl
                refine zw_s (pc' := 324) rfl rfl ?_
                refine zw_s (pc' := 328) rfl rfl ?_
                refine zw_pI (q := 72) (pc' := 331) W rfl rfl rfl rfl rfl rfl ?_
                refine yr_gE hp ⟨b2, yr_T_I (yr_T_I hZ.2 rfl) rfl⟩ (zk_Fr_I' (zk_Fr_I' hF rfl) rfl) l0 (by rw [f29]; exact h29) (by rw [f27, e1, hnx]; omega) ?_ (fun h9 => by rw [hk] at h9; cases hG : ys_G (T s) <;> rw [hG] at h9 <;> cases h9) (fun _ => by rw [f32]; exact h32) (fun h9 => by rw [hk] at h9; cases hG : ys_G (T s) <;> rw [hG] at h9 <;> cases h9)
                refine (congrArg Int32.toInt zw_eq).trans ?_
                rw [hk, show ys_G (T s) = true from decide_eq_true (by omega)]
                decide
              · rw [hc] at h47
                refine zw_ld (n := 1) (k := 1) (f := zp_isI) (pc' := 312) rfl rfl l1 rfl rfl ?_
                refine zw_s (pc' := 314) rfl rfl ?_
                refine zw_beq2 (g := 323) (pc' := 317) rfl rfl rfl rfl (rfl : _ = (60 : Int)) (fun h60 => ?_) (fun h60 => ?_)
                · rw [hc] at h60
                  have b2 := zT_putf (k := 28) (x := Int32.ofInt 3) b1 (fun r hr => by cases hr) rfl trivial
                  have f29 : (zw_I (zw_I H 72 27 (H.2.1 72 27 + Int32.ofInt 1)) 72 28 (Int32.ofInt 3)).2.1 72 29 = H.2.1 72 29 := zw_ne (zw_ne rfl rfl) rfl
                  have f27 : (zw_I (zw_I H 72 27 (H.2.1 72 27 + Int32.ofInt 1)) 72 28 (Int32.ofInt 3)).2.1 72 27 = H.2.1 72 27 + Int32.ofInt 1 := zw_ne zw_eq rfl
                  have f32 : (zw_I (zw_I H 72 27 (H.2.1 72 27 + Int32.ofInt 1)) 72 28 (Int32.ofInt 3)).2.1 72 32 = H.2.1 72 32 := zw_ne (zw_ne rfl rfl) rfl
                  refine zw_s (pc' := 324) rfl rfl ?_
                  refine zw_s (pc' := 328) rfl rfl ?_
                  refine zw_pI (q := 72) (pc' := 331) W rfl rfl rfl rfl rfl rfl ?_
                  refine yr_gE hp ⟨b2, yr_T_I (yr_T_I hZ.2 rfl) rfl⟩ (zk_Fr_I' (zk_Fr_I' hF rfl) rfl) l0 (by rw [f29]; exact h29) (by rw [f27, e1, hnx]; omega) ?_ (fun h9 => by rw [hk] at h9; cases hG : ys_G (T s) <;> rw [hG] at h9 <;> cases h9) (fun _ => by rw [f32]; exact h32) (fun h9 => by rw [hk] at h9; cases hG : ys_G (T s) <;> rw [hG] at h9 <;> cases h9)
                  refine (congrArg Int32.toInt zw_eq).trans ?_
                  rw [hk, show ys_G (T s) = true from decide_eq_true (by omega)]
                  decide
                · rw [hc] at h60
                  refine zw_ld (n := 1) (k := 1) (f := zp_isI) (pc' := 318) rfl rfl l1 rfl rfl ?_
                  refine zw_s (pc' := 320) rfl rfl ?_
                  refine zw_bne2 (g := 327) (pc' := 323) rfl rfl rfl rfl (rfl : _ = (61 : Int)) (fun h61 => ?_) (fun h61 => ?_)
                  · rw [hc] at h61
                    have b2 := zT_putf (k := 28) (x := Int32.ofInt 4) b1 (fun r hr => by cases hr) rfl trivial
                    have f29 : (zw_I (zw_I H 72 27 (H.2.1 72 27 + Int32.ofInt 1)) 72 28 (Int32.ofInt 4)).2.1 72 29 = H.2.1 72 29 := zw_ne (zw_ne rfl rfl) rfl
                    have f27 : (zw_I (zw_I H 72 27 (H.2.1 72 27 + Int32.ofInt 1)) 72 28 (Int32.ofInt 4)).2.1 72 27 = H.2.1 72 27 + Int32.ofInt 1 := zw_ne zw_eq rfl
                    have f32 : (zw_I (zw_I H 72 27 (H.2.1 72 27 + Int32.ofInt 1)) 72 28 (Int32.ofInt 4)).2.1 72 32 = H.2.1 72 32 := zw_ne (zw_ne rfl rfl) rfl
                    refine zw_s (pc' := 328) rfl rfl ?_
                    refine zw_pI (q := 72) (pc' := 331) W rfl rfl rfl rfl rfl rfl ?_
                    refine yr_gE hp ⟨b2, yr_T_I (yr_T_I hZ.2 rfl) rfl⟩ (zk_Fr_I' (zk_Fr_I' hF rfl) rfl) l0 (by rw [f29]; exact h29) (by rw [f27, e1, hnx]; omega) ?_ (fun h9 => by rw [hk] at h9; cases hG : ys_G (T s) <;> rw [hG] at h9 <;> cases h9) (fun _ => by rw [f32]; exact h32) (fun h9 => by rw [hk] at h9; cases hG : ys_G (T s) <;> rw [hG] at h9 <;> cases h9)
                    refine (congrArg Int32.toInt zw_eq).trans ?_
                    rw [hk, show ys_G (T s) = false from decide_eq_false (by omega)]
                    decide
                  · rw [hc] at h61
                    have b2 := zT_putf (k := 28) (x := Int32.ofInt 3) b1 (fun r hr => by cases hr) rfl trivial
                    have f29 : (zw_I (zw_I H 72 27 (H.2.1 72 27 + Int32.ofInt 1)) 72 28 (Int32.ofInt 3)).2.1 72 29 = H.2.1 72 29 := zw_ne (zw_ne rfl rfl) rfl
                    have f27 : (zw_I (zw_I H 72 27 (H.2.1 72 27 + Int32.ofInt 1)) 72 28 (Int32.ofInt 3)).2.1 72 27 = H.2.1 72 27 + Int32.ofInt 1 := zw_ne zw_eq rfl
                    have f32 : (zw_I (zw_I H 72 27 (H.2.1 72 27 + Int32.ofInt 1)) 72 28 (Int32.ofInt 3)).2.1 72 32 = H.2.1 72 32 := zw_ne (zw_ne rfl rfl) rfl
                    refine zw_s (pc' := 324) rfl rfl ?_
                    refine zw_s (pc' := 328) rfl rfl ?_
                    refine zw_pI (q := 72) (pc' := 331) W rfl rfl rfl rfl rfl rfl ?_
                    refine yr_gE hp ⟨b2, yr_T_I (yr_T_I hZ.2 rfl) rfl⟩ (zk_Fr_I' (zk_Fr_I' hF rfl) rfl) l0 (by rw [f29]; exact h29) (by rw [f27, e1, hnx]; omega) ?_ (fun h9 => by rw [hk] at h9; cases hG : ys_G (T s) <;> rw [hG] at h9 <;> cases h9) (fun _ => by rw [f32]; exact h32) (fun h9 => by rw [hk] at h9; cases hG : ys_G (T s) <;> rw [hG] at h9 <;> cases h9)
                    refine (congrArg Int32.toInt zw_eq).trans ?_
                    rw [hk, show ys_G (T s) = true from decide_eq_true (by omega)]
                    decide
end
section
/-! ===== the reference goes on to its next token ===== -/
set_option maxRecDepth 8000 in
theorem yr_gM {L : Nat} {σ : Nat → Int32} {d : Nat} {T : Nat → Int} {n : Nat} {p s : Nat} {H0 H : zp_H} {lv : zp_LV} (hp : p ≤ n) (hb : ∀ k, k < n → -128 ≤ T k ∧ T k ≤ 127) (hs : s = ys_st T n p) (hsn0 : s ≤ n) (hZ : yr_Z T n H) (hF : zk_Fr zg yr_m [] H0 H) (l0 : zp_get lv 0 = some (.inr (.inr (some 73)))) (h27 : (H.2.1 72 27).toInt = s) : zs_Safe L σ (fun X : zp_X => ∃ H1, X = (.inl none, H1) ∧ yr_Z T n H1 ∧ zk_Fr zg yr_m [] H0 H1 ∧ yr_k T n p H1) zm_171 [] (d + 2) (50, lv, [], H, (0, 0)) := by
  have W := zT_Wd hZ.1
  have hn7 := hZ.2.1
  have r1 := hZ.2.2.1
  have b1 := zT_putf (k := 29) (x := H.2.1 72 27) hZ.1 (fun r hr => by cases hr; exact ⟨by show (0 : Int) ≤ _; omega, by show _ ≤ (700 : Int); omega⟩) rfl trivial
  have b3 := zT_putf (k := 31) (x := Int32.ofInt 0) (zT_J2 (k := 33) (x := Int64.ofNat 0) b1) (fun r hr => by cases hr) rfl trivial
  have hZA : yr_Z T n (zw_I (zw_J (zw_I H 72 29 (H.2.1 72 27)) 72 33 (Int64.ofNat 0)) 72 31 (Int32.ofInt 0)) := ⟨b3, yr_T_I (yr_T_J (yr_T_I hZ.2 rfl)) rfl⟩
  have hFA : zk_Fr zg yr_m [] H0 (zw_I (zw_J (zw_I H 72 29 (H.2.1 72 27)) 72 33 (Int64.ofNat 0)) 72 31 (Int32.ofInt 0)) := zk_Fr_I' (zk_Fr_J' (zk_Fr_I' hF rfl) rfl) rfl
  have a27 : ((zw_I (zw_J (zw_I H 72 29 (H.2.1 72 27)) 72 33 (Int64.ofNat 0)) 72 31 (Int32.ofInt 0)).2.1 72 27) = H.2.1 72 27 := zw_ne (zw_nj (zw_ne rfl rfl)) rfl
  have a29 : ((zw_I (zw_J (zw_I H 72 29 (H.2.1 72 27)) 72 33 (Int64.ofNat 0)) 72 31 (Int32.ofInt 0)).2.1 72 29) = H.2.1 72 27 := zw_ne (zw_nj zw_eq) rfl
  have a31 : ((zw_I (zw_J (zw_I H 72 29 (H.2.1 72 27)) 72 33 (Int64.ofNat 0)) 72 31 (Int32.ofInt 0)).2.1 72 31) = Int32.ofInt 0 := zw_eq
  have a33 : (zw_I (zw_J (zw_I H 72 29 (H.2.1 72 27)) 72 33 (Int64.ofNat 0)) 72 31 (Int32.ofInt 0)).2.2.1 72 33 = Int64.ofNat 0 := show zp_u H.2.2.1 72 33 (Int64.ofNat 0) 72 33 = _ from zp_u_self _ _ _ _
  refine zw_ld (n := 1) (k := 0) (f := zp_isR) (pc' := 51) rfl rfl l0 rfl rfl ?_
  refine zw_ld (n := 1) (k := 0) (f := zp_isR) (pc' := 52) rfl rfl l0 rfl rfl ?_
  refine zw_gI (q := 72) (pc' := 55) W rfl rfl rfl rfl rfl rfl ?_
  refine zw_pI (q := 72) (pc' := 58) W rfl rfl rfl rfl rfl rfl ?_
  refine zw_ld (n := 1) (k := 0) (f := zp_isR) (pc' := 59) rfl rfl l0 rfl rfl ?_
  refine zw_s (pc' := 60) rfl rfl ?_
  refine zw_pL (q := 72) (pc' := 63) W rfl rfl rfl rfl rfl rfl ?_
  refine zw_ld (n := 1) (k := 0) (f := zp_isR) (pc' := 64) rfl rfl l0 rfl rfl ?_
  refine zw_s (pc' := 65) rfl rfl ?_
  refine zw_pI (q := 72) (pc' := 68) W rfl rfl rfl rfl rfl rfl ?_
  refine zw_ld (n := 1) (k := 0) (f := zp_isR) (pc' := 69) rfl rfl l0 rfl rfl ?_
  refine zw_ld (n := 1) (k := 0) (f := zp_isR) (pc' := 70) rfl rfl l0 rfl rfl ?_
  refine zw_gI (q := 72) (pc' := 73) W rfl rfl rfl rfl (zw_ne (zw_nj (zw_ne rfl rfl)) rfl) rfl ?_
  by_cases hsn : s < n
  · have tq : ((zw_I (zw_J (zw_I H 72 29 (H.2.1 72 27)) 72 33 (Int64.ofNat 0)) 72 31 (Int32.ofInt 0)).2.1 81 s).toInt = ys_u (T s) := hZA.2.2.2.1 s hsn
    refine zw_c (pc' := 76) (zw_cv (q := 72) (Y := zm_172) W.1 rfl rfl zm_172_t rfl rfl) rfl rfl rfl rfl rfl (yr_by hZA h27 hsn hn7) ?_
    have b4 := zT_putf (k := 32) (x := (zw_I (zw_J (zw_I H 72 29 (H.2.1 72 27)) 72 33 (Int64.ofNat 0)) 72 31 (Int32.ofInt 0)).2.1 81 s) b3 (fun r hr => by cases hr) rfl trivial
    have c27 : (zw_I (zw_I (zw_J (zw_I H 72 29 (H.2.1 72 27)) 72 33 (Int64.ofNat 0)) 72 31 (Int32.ofInt 0)) 72 32 ((zw_I (zw_J (zw_I H 72 29 (H.2.1 72 27)) 72 33 (Int64.ofNat 0)) 72 31 (Int32.ofInt 0)).2.1 81 s)).2.1 72 27 = H.2.1 72 27 := zw_ne a27 rfl
    have c29 : (zw_I (zw_I (zw_J (zw_I H 72 29 (H.2.1 72 27)) 72 33 (Int64.ofNat 0)) 72 31 (Int32.ofInt 0)) 72 32 ((zw_I (zw_J (zw_I H 72 29 (H.2.1 72 27)) 72 33 (Int64.ofNat 0)) 72 31 (Int32.ofInt 0)).2.1 81 s)).2.1 72 29 = H.2.1 72 27 := zw_ne a29 rfl
    have c31 : (zw_I (zw_I (zw_J (zw_I H 72 29 (H.2.1 72 27)) 72 33 (Int64.ofNat 0)) 72 31 (Int32.ofInt 0)) 72 32 ((zw_I (zw_J (zw_I H 72 29 (H.2.1 72 27)) 72 33 (Int64.ofNat 0)) 72 31 (Int32.ofInt 0)).2.1 81 s)).2.1 72 31 = Int32.ofInt 0 := zw_ne a31 rfl
    have c32 : (zw_I (zw_I (zw_J (zw_I H 72 29 (H.2.1 72 27)) 72 33 (Int64.ofNat 0)) 72 31 (Int32.ofInt 0)) 72 32 ((zw_I (zw_J (zw_I H 72 29 (H.2.1 72 27)) 72 33 (Int64.ofNat 0)) 72 31 (Int32.ofInt 0)).2.1 81 s)).2.1 72 32 = (zw_I (zw_J (zw_I H 72 29 (H.2.1 72 27)) 72 33 (Int64.ofNat 0)) 72 31 (Int32.ofInt 0)).2.1 81 s := zw_eq
    have c33 : (zw_I (zw_I (zw_J (zw_I H 72 29 (H.2.1 72 27)) 72 33 (Int64.ofNat 0)) 72 31 (Int32.ofInt 0)) 72 32 ((zw_I (zw_J (zw_I H 72 29 (H.2.1 72 27)) 72 33 (Int64.ofNat 0)) 72 31 (Int32.ofInt 0)).2.1 81 s)).2.2.1 72 33 = Int64.ofNat 0 := a33
    have hZB : yr_Z T n (zw_I (zw_I (zw_J (zw_I H 72 29 (H.2.1 72 27)) 72 33 (Int64.ofNat 0)) 72 31 (Int32.ofInt 0)) 72 32 ((zw_I (zw_J (zw_I H 72 29 (H.2.1 72 27)) 72 33 (Int64.ofNat 0)) 72 31 (Int32.ofInt 0)).2.1 81 s)) := ⟨b4, yr_T_I hZA.2 rfl⟩
    have hFB : zk_Fr zg yr_m [] H0 (zw_I (zw_I (zw_J (zw_I H 72 29 (H.2.1 72 27)) 72 33 (Int64.ofNat 0)) 72 31 (Int32.ofInt 0)) 72 32 ((zw_I (zw_J (zw_I H 72 29 (H.2.1 72 27)) 72 33 (Int64.ofNat 0)) 72 31 (Int32.ofInt 0)).2.1 81 s)) := zk_Fr_I' hFA rfl
    have hks : ys_kd T n p = ys_ks T n s := by
      unfold ys_kd
      rw [← hs]
    have hes : ys_nx T n p = ys_es T n s := by
      unfold ys_nx
      rw [← hs]
    unfold ys_ks at hks
    unfold ys_es at hes
    rw [if_neg (by omega)] at hks hes
    have hbs := hb s hsn
    have hu : 0 ≤ T s ∧ ys_u (T s) = T s ∨ T s < 0 ∧ 128 ≤ ys_u (T s) := by
      unfold ys_u
      by_cases h8 : T s < 0
      · rw [if_pos h8]
        exact Or.inr ⟨h8, by omega⟩
      · rw [if_neg h8]
        exact Or.inl ⟨by omega, rfl⟩
    have h32 : ((zw_I (zw_I (zw_J (zw_I H 72 29 (H.2.1 72 27)) 72 33 (Int64.ofNat 0)) 72 31 (Int32.ofInt 0)) 72 32 ((zw_I (zw_J (zw_I H 72 29 (H.2.1 72 27)) 72 33 (Int64.ofNat 0)) 72 31 (Int32.ofInt 0)).2.1 81 s)).2.1 72 32).toInt = ys_u (T (ys_st T n p)) := by rw [c32, tq, hs]
    have h29 : ((zw_I (zw_I (zw_J (zw_I H 72 29 (H.2.1 72 27)) 72 33 (Int64.ofNat 0)) 72 31 (Int32.ofInt 0)) 72 32 ((zw_I (zw_J (zw_I H 72 29 (H.2.1 72 27)) 72 33 (Int64.ofNat 0)) 72 31 (Int32.ofInt 0)).2.1 81 s)).2.1 72 29).toInt = ys_st T n p := by rw [c29, h27, hs]
    have h27' : ((zw_I (zw_I (zw_J (zw_I H 72 29 (H.2.1 72 27)) 72 33 (Int64.ofNat 0)) 72 31 (Int32.ofInt 0)) 72 32 ((zw_I (zw_J (zw_I H 72 29 (H.2.1 72 27)) 72 33 (Int64.ofNat 0)) 72 31 (Int32.ofInt 0)).2.1 81 s)).2.1 72 27).toInt = s := by rw [c27, h27]
    have h31 : ((zw_I (zw_I (zw_J (zw_I H 72 29 (H.2.1 72 27)) 72 33 (Int64.ofNat 0)) 72 31 (Int32.ofInt 0)) 72 32 ((zw_I (zw_J (zw_I H 72 29 (H.2.1 72 27)) 72 33 (Int64.ofNat 0)) 72 31 (Int32.ofInt 0)).2.1 81 s)).2.1 72 31).toInt = ys_nm T s (min 0 4) := by rw [c31]; rfl
    have h31b : 0 ≤ ((zw_I (zw_I (zw_J (zw_I H 72 29 (H.2.1 72 27)) 72 33 (Int64.ofNat 0)) 72 31 (Int32.ofInt 0)) 72 32 ((zw_I (zw_J (zw_I H 72 29 (H.2.1 72 27)) 72 33 (Int64.ofNat 0)) 72 31 (Int32.ofInt 0)).2.1 81 s)).2.1 72 31).toInt ∧ ((zw_I (zw_I (zw_J (zw_I H 72 29 (H.2.1 72 27)) 72 33 (Int64.ofNat 0)) 72 31 (Int32.ofInt 0)) 72 32 ((zw_I (zw_J (zw_I H 72 29 (H.2.1 72 27)) 72 33 (Int64.ofNat 0)) 72 31 (Int32.ofInt 0)).2.1 81 s)).2.1 72 31).toInt ≤ ys_10 (min 0 4) := by rw [c31]; decide
    refine zw_st (n := 1) (k := 1) (f := zp_isI) (pc' := 77) rfl rfl rfl rfl rfl ?_
    refine zw_ld (n := 1) (k := 0) (f := zp_isR) (pc' := 78) rfl rfl (zw_gt l0 rfl rfl) rfl rfl ?_
    refine zw_ld (n := 1) (k := 1) (f := zp_isI) (pc' := 79) rfl rfl zw_g1 rfl rfl ?_
    refine zw_pI (q := 72) (pc' := 82) W rfl rfl rfl rfl rfl rfl ?_
    refine zw_ld (n := 1) (k := 0) (f := zp_isR) (pc' := 83) rfl rfl (zw_gt l0 rfl rfl) rfl rfl ?_
    refine zw_gI (q := 72) (pc' := 86) W rfl rfl rfl rfl (zw_ne (zw_ne (zw_nj (zw_ne rfl rfl)) rfl) rfl) rfl ?_
    refine zw_ld (n := 1) (k := 0) (f := zp_isR) (pc' := 87) rfl rfl (zw_gt l0 rfl rfl) rfl rfl ?_
    refine zw_gI (q := 72) (pc' := 90) W rfl rfl rfl rfl (zw_ne (zw_ne (zw_nj (zw_ne rfl rfl)) rfl) rfl) rfl ?_
    refine zw_blt2 (g := 101) (pc' := 93) rfl rfl rfl rfl rfl (fun hb1 => ?_) (fun hb1 => ?_)
    · refine zw_ld (n := 1) (k := 1) (f := zp_isI) (pc' := 102) rfl rfl zw_g1 rfl rfl ?_
      by_cases hL : 97 ≤ ((zw_I (zw_J (zw_I H 72 29 (H.2.1 72 27)) 72 33 (Int64.ofNat 0)) 72 31 (Int32.ofInt 0)).2.1 81 s).toInt ∧ ((zw_I (zw_J (zw_I H 72 29 (H.2.1 72 27)) 72 33 (Int64.ofNat 0)) 72 31 (Int32.ofInt 0)).2.1 81 s).toInt ≤ 122
      · refine zw_c (pc' := 105) (zw_cs (Y := zm_173) rfl rfl zm_173_t) rfl rfl rfl rfl rfl (yr_l1 hL) ?_
        refine zw_beq1 (g := 180) (pc' := 108) rfl rfl rfl (rfl : _ = (1 : Int)) (fun h9 => absurd h9 (by decide)) (fun h9 => ?_)
        have hP : ys_L (T s) = true := decide_eq_true (by omega)
        rw [hP] at hks hes
        have hks : ys_kd T n p = 3 := hks
        have hes : ys_nx T n p = ys_run ys_L T (n - s) s := hes
        exact yr_gW hp hb hs hks hes n _ _ _ s hZB hFB (zw_gt l0 rfl rfl) zw_g1 h29 h27' ⟨Nat.le_refl _, by omega⟩ h32 (by rw [Nat.sub_self]; exact c33) rfl (by omega)
      · refine zw_c (pc' := 105) (zw_cs (Y := zm_173) rfl rfl zm_173_t) rfl rfl rfl rfl rfl (yr_l0 hL) ?_
        refine zw_beq1 (g := 180) (pc' := 108) rfl rfl rfl (rfl : _ = (0 : Int)) (fun h9 => ?_) (fun h9 => absurd h9 (by decide))
        have hP : ys_L (T s) = false := decide_eq_false (by omega)
        rw [hP] at hks hes
        have hks : ys_kd T n p = (bif ys_D (T s) then 2 else bif ys_G (T s) then 4 else 1) := hks
        have hes : ys_nx T n p = (bif ys_D (T s) then ys_run ys_D T (n - s) s else s + 1) := hes
        refine zw_ld (n := 1) (k := 1) (f := zp_isI) (pc' := 181) rfl rfl zw_g1 rfl rfl ?_
        by_cases hD : 48 ≤ ((zw_I (zw_J (zw_I H 72 29 (H.2.1 72 27)) 72 33 (Int64.ofNat 0)) 72 31 (Int32.ofInt 0)).2.1 81 s).toInt ∧ ((zw_I (zw_J (zw_I H 72 29 (H.2.1 72 27)) 72 33 (Int64.ofNat 0)) 72 31 (Int32.ofInt 0)).2.1 81 s).toInt ≤ 57
        · refine zw_c (pc' := 184) (zw_cs (Y := zm_174) rfl rfl zm_174_t) rfl rfl rfl rfl rfl (yr_g1 hD) ?_
          refine zw_beq1 (g := 258) (pc' := 187) rfl rfl rfl (rfl : _ = (1 : Int)) (fun h9 => absurd h9 (by decide)) (fun h9 => ?_)
          have hQ : ys_D (T s) = true := decide_eq_true (by omega)
          rw [hQ] at hks hes
          have hks : ys_kd T n p = 2 := hks
          have hes : ys_nx T n p = ys_run ys_D T (n - s) s := hes
          exact yr_gN hp hb hs hks hes n _ _ _ s hZB hFB (zw_gt l0 rfl rfl) zw_g1 h29 h27' ⟨Nat.le_refl _, by omega⟩ h32 (by rw [Nat.sub_self]; exact h31) (by rw [Nat.sub_self]; exact h31b) rfl (by omega)
        · refine zw_c (pc' := 184) (zw_cs (Y := zm_174) rfl rfl zm_174_t) rfl rfl rfl rfl rfl (yr_g0 hD) ?_
          refine zw_beq1 (g := 258) (pc' := 187) rfl rfl rfl (rfl : _ = (0 : Int)) (fun h9 => ?_) (fun h9 => absurd h9 (by decide))
          have hQ : ys_D (T s) = false := decide_eq_false (by omega)
          rw [hQ] at hks hes
          have hks : ys_kd T n p = (bif ys_G (T s) then 4 else 1) := hks
          have hes : ys_nx T n p = s + 1 := hes
          exact yr_gS hp hsn hs hks hes hZB hFB (zw_gt l0 rfl rfl) zw_g1 tq hu h29 h27' h32
    · exfalso
      have q1 : (H.2.1 72 27).toInt = s := h27
      omega
  · refine zw_c (pc' := 76) (zw_cv (q := 72) (Y := zm_172) W.1 rfl rfl zm_172_t rfl rfl) rfl rfl rfl rfl rfl (yr_by0 hZA (by omega)) ?_
    have b4 := zT_putf (k := 32) (x := Int32.ofInt 0) b3 (fun r hr => by cases hr) rfl trivial
    have c27 : (zw_I (zw_I (zw_J (zw_I H 72 29 (H.2.1 72 27)) 72 33 (Int64.ofNat 0)) 72 31 (Int32.ofInt 0)) 72 32 (Int32.ofInt 0)).2.1 72 27 = H.2.1 72 27 := zw_ne a27 rfl
    have c29 : (zw_I (zw_I (zw_J (zw_I H 72 29 (H.2.1 72 27)) 72 33 (Int64.ofNat 0)) 72 31 (Int32.ofInt 0)) 72 32 (Int32.ofInt 0)).2.1 72 29 = H.2.1 72 27 := zw_ne a29 rfl
    have c31 : (zw_I (zw_I (zw_J (zw_I H 72 29 (H.2.1 72 27)) 72 33 (Int64.ofNat 0)) 72 31 (Int32.ofInt 0)) 72 32 (Int32.ofInt 0)).2.1 72 31 = Int32.ofInt 0 := zw_ne a31 rfl
    have c32 : (zw_I (zw_I (zw_J (zw_I H 72 29 (H.2.1 72 27)) 72 33 (Int64.ofNat 0)) 72 31 (Int32.ofInt 0)) 72 32 (Int32.ofInt 0)).2.1 72 32 = Int32.ofInt 0 := zw_eq
    have c33 : (zw_I (zw_I (zw_J (zw_I H 72 29 (H.2.1 72 27)) 72 33 (Int64.ofNat 0)) 72 31 (Int32.ofInt 0)) 72 32 (Int32.ofInt 0)).2.2.1 72 33 = Int64.ofNat 0 := a33
    have hZB : yr_Z T n (zw_I (zw_I (zw_J (zw_I H 72 29 (H.2.1 72 27)) 72 33 (Int64.ofNat 0)) 72 31 (Int32.ofInt 0)) 72 32 (Int32.ofInt 0)) := ⟨b4, yr_T_I hZA.2 rfl⟩
    have hFB : zk_Fr zg yr_m [] H0 (zw_I (zw_I (zw_J (zw_I H 72 29 (H.2.1 72 27)) 72 33 (Int64.ofNat 0)) 72 31 (Int32.ofInt 0)) 72 32 (Int32.ofInt 0)) := zk_Fr_I' hFA rfl
    refine zw_st (n := 1) (k := 1) (f := zp_isI) (pc' := 77) rfl rfl rfl rfl rfl ?_
    refine zw_ld (n := 1) (k := 0) (f := zp_isR) (pc' := 78) rfl rfl (zw_gt l0 rfl rfl) rfl rfl ?_
    refine zw_ld (n := 1) (k := 1) (f := zp_isI) (pc' := 79) rfl rfl zw_g1 rfl rfl ?_
    refine zw_pI (q := 72) (pc' := 82) W rfl rfl rfl rfl rfl rfl ?_
    refine zw_ld (n := 1) (k := 0) (f := zp_isR) (pc' := 83) rfl rfl (zw_gt l0 rfl rfl) rfl rfl ?_
    refine zw_gI (q := 72) (pc' := 86) W rfl rfl rfl rfl (zw_ne (zw_ne (zw_nj (zw_ne rfl rfl)) rfl) rfl) rfl ?_
    refine zw_ld (n := 1) (k := 0) (f := zp_isR) (pc' := 87) rfl rfl (zw_gt l0 rfl rfl) rfl rfl ?_
    refine zw_gI (q := 72) (pc' := 90) W rfl rfl rfl rfl (zw_ne (zw_ne (zw_nj (zw_ne rfl rfl)) rfl) rfl) rfl ?_
    refine zw_blt2 (g := 101) (pc' := 93) rfl rfl rfl rfl rfl (fun hb1 => ?_) (fun hb1 => ?_)
    · exfalso
      have q1 : (H.2.1 72 27).toInt = s := h27
      omega
    · have hk : ys_kd T n p = 0 := by
        unfold ys_kd ys_ks
        rw [← hs, if_pos (by omega)]
      have hes : ys_nx T n p = s := by
        unfold ys_nx ys_es
        rw [← hs, if_pos (by omega)]
      have b5 := zT_putf (k := 28) (x := Int32.ofInt 0) b4 (fun r hr => by cases hr) rfl trivial
      have d27 : (zw_I (zw_I (zw_I (zw_J (zw_I H 72 29 (H.2.1 72 27)) 72 33 (Int64.ofNat 0)) 72 31 (Int32.ofInt 0)) 72 32 (Int32.ofInt 0)) 72 28 (Int32.ofInt 0)).2.1 72 27 = H.2.1 72 27 := zw_ne c27 rfl
      have d29 : (zw_I (zw_I (zw_I (zw_J (zw_I H 72 29 (H.2.1 72 27)) 72 33 (Int64.ofNat 0)) 72 31 (Int32.ofInt 0)) 72 32 (Int32.ofInt 0)) 72 28 (Int32.ofInt 0)).2.1 72 29 = H.2.1 72 27 := zw_ne c29 rfl
      refine zw_ld (n := 1) (k := 0) (f := zp_isR) (pc' := 94) rfl rfl (zw_gt l0 rfl rfl) rfl rfl ?_
      refine zw_s (pc' := 95) rfl rfl ?_
      refine zw_pI (q := 72) (pc' := 98) W rfl rfl rfl rfl rfl rfl ?_
      refine zw_s (pc' := 331) rfl rfl ?_
      refine yr_gE hp ⟨b5, yr_T_I hZB.2 rfl⟩ (zk_Fr_I' hFB rfl) (zw_gt l0 rfl rfl) ((congrArg Int32.toInt d29).trans (by rw [h27, hs])) ((congrArg Int32.toInt d27).trans (by rw [h27, hes])) ?_ (fun h9 => by rw [hk] at h9; cases h9) (fun h9 => absurd hk h9) (fun h9 => by rw [hk] at h9; cases h9)
      rw [hk]
      exact (congrArg Int32.toInt zw_eq).trans (by decide)

set_option maxRecDepth 8000 in
theorem yr_gL {L : Nat} {σ : Nat → Int32} {d : Nat} {T : Nat → Int} {n : Nat} {p : Nat} {H0 : zp_H} (hp : p ≤ n) (hb : ∀ k, k < n → -128 ≤ T k ∧ T k ≤ 127) : ∀ (m : Nat) (H : zp_H) (lv : zp_LV) (q : Nat), yr_Z T n H → zk_Fr zg yr_m [] H0 H → zp_get lv 0 = some (.inr (.inr (some 73))) → (H.2.1 72 27).toInt = q → q ≤ n → ys_run ys_sp T (n - q) q = ys_st T n p → n - q ≤ m → zs_Safe L σ (fun X : zp_X => ∃ H1, X = (.inl none, H1) ∧ yr_Z T n H1 ∧ zk_Fr zg yr_m [] H0 H1 ∧ yr_k T n p H1) zm_171 [] (d + 2) (0, lv, [], H, (0, 0)) := by
  intro m
  induction m with
  | zero =>
    intro H lv q hZ hF l0 h27 hq he hm
    have W := zT_Wd hZ.1
    have hn7 := hZ.2.1
    have r1 := hZ.2.2.1
    refine zw_ld (n := 1) (k := 0) (f := zp_isR) (pc' := 1) rfl rfl l0 rfl rfl ?_
    refine zw_gI (q := 72) (pc' := 4) W rfl rfl rfl rfl rfl rfl ?_
    refine zw_ld (n := 1) (k := 0) (f := zp_isR) (pc' := 5) rfl rfl l0 rfl rfl ?_
    refine zw_gI (q := 72) (pc' := 8) W rfl rfl rfl rfl rfl rfl ?_
    refine zw_bge2 (g := 50) (pc' := 11) rfl rfl rfl rfl rfl (fun hb1 => ?_) (fun hb1 => ?_)
    · have hqe : q = ys_st T n p := by
        rw [← he, ys_run_n (by omega)]
      exact yr_gM hp hb hqe (by omega) hZ hF l0 h27
    · omega
  | succ m ih =>
    intro H lv q hZ hF l0 h27 hq he hm
    have W := zT_Wd hZ.1
    have hn7 := hZ.2.1
    have r1 := hZ.2.2.1
    refine zw_ld (n := 1) (k := 0) (f := zp_isR) (pc' := 1) rfl rfl l0 rfl rfl ?_
    refine zw_gI (q := 72) (pc' := 4) W rfl rfl rfl rfl rfl rfl ?_
    refine zw_ld (n := 1) (k := 0) (f := zp_isR) (pc' := 5) rfl rfl l0 rfl rfl ?_
    refine zw_gI (q := 72) (pc' := 8) W rfl rfl rfl rfl rfl rfl ?_
    refine zw_bge2 (g := 50) (pc' := 11) rfl rfl rfl rfl rfl (fun hb1 => ?_) (fun hb1 => ?_)
    · have hqe : q = ys_st T n p := by
        rw [← he, ys_run_n (by omega)]
      exact yr_gM hp hb hqe (by omega) hZ hF l0 h27
    · have hqn : q < n := by omega
      have tq : (H.2.1 81 q).toInt = ys_u (T q) := hZ.2.2.2.1 q hqn
      have hbq := hb q hqn
      have hu : 0 ≤ T q ∧ ys_u (T q) = T q ∨ T q < 0 ∧ 128 ≤ ys_u (T q) := by
        unfold ys_u
        by_cases h8 : T q < 0
        · rw [if_pos h8]
          exact Or.inr ⟨h8, by omega⟩
        · rw [if_neg h8]
          exact Or.inl ⟨by omega, rfl⟩
      refine zw_ld (n := 1) (k := 0) (f := zp_isR) (pc' := 12) rfl rfl l0 rfl rfl ?_
      refine zw_ld (n := 1) (k := 0) (f := zp_isR) (pc' := 13) rfl rfl l0 rfl rfl ?_
      refine zw_gI (q := 72) (pc' := 16) W rfl rfl rfl rfl rfl rfl ?_
      refine zw_c (pc' := 19) (zw_cv (q := 72) (Y := zm_172) W.1 rfl rfl zm_172_t rfl rfl) rfl rfl rfl rfl rfl (yr_by hZ h27 hqn hn7) ?_
      refine zw_s (pc' := 21) rfl rfl ?_
      refine zw_beq2 (g := 37) (pc' := 24) rfl rfl rfl rfl (rfl : _ = (32 : Int)) (fun h32 => ?_) (fun h32 => ?_)
      · have hP : ys_sp (T q) = true := decide_eq_true (by omega)
        rw [ys_run_t (by omega) hP] at he
        have e1 : (H.2.1 72 27 + Int32.ofInt 1).toInt = (H.2.1 72 27).toInt + 1 := zw_p1 (by omega)
        have b2 := zT_putf (k := 27) (x := H.2.1 72 27 + Int32.ofInt 1) hZ.1 (fun r hr => by cases hr; exact ⟨by show (0 : Int) ≤ _; omega, by show _ ≤ (700 : Int); omega⟩) rfl trivial
        have g2 : ((zw_I H 72 27 (H.2.1 72 27 + Int32.ofInt 1)).2.1 72 27).toInt = ((q + 1 : Nat) : Int) := by
          rw [zw_eq, e1]
          omega
        refine zw_ld (n := 1) (k := 0) (f := zp_isR) (pc' := 38) rfl rfl l0 rfl rfl ?_
        refine zw_s (pc' := 39) rfl rfl ?_
        refine zw_gI (q := 72) (pc' := 42) W rfl rfl rfl rfl rfl rfl ?_
        refine zw_s (pc' := 43) rfl rfl ?_
        refine zw_iadd (pc' := 44) rfl rfl ?_
        refine zw_pI (q := 72) (pc' := 47) W rfl rfl rfl rfl rfl rfl ?_
        refine zw_s (pc' := 0) rfl rfl ?_
        exact ih _ _ (q + 1) ⟨b2, yr_T_I hZ.2 rfl⟩ (zk_Fr_I' hF rfl) l0 g2 (by omega) he (by omega)
      · refine zw_ld (n := 1) (k := 0) (f := zp_isR) (pc' := 25) rfl rfl l0 rfl rfl ?_
        refine zw_ld (n := 1) (k := 0) (f := zp_isR) (pc' := 26) rfl rfl l0 rfl rfl ?_
        refine zw_gI (q := 72) (pc' := 29) W rfl rfl rfl rfl rfl rfl ?_
        refine zw_c (pc' := 32) (zw_cv (q := 72) (Y := zm_172) W.1 rfl rfl zm_172_t rfl rfl) rfl rfl rfl rfl rfl (yr_by hZ h27 hqn hn7) ?_
        refine zw_s (pc' := 34) rfl rfl ?_
        refine zw_bne2 (g := 50) (pc' := 37) rfl rfl rfl rfl (rfl : _ = (10 : Int)) (fun h10 => ?_) (fun h10 => ?_)
        · have hP : ys_sp (T q) = false := decide_eq_false (by omega)
          have hqe : q = ys_st T n p := by
            rw [← he, ys_run_f hP]
          exact yr_gM hp hb hqe (by omega) hZ hF l0 h27
        · have hP : ys_sp (T q) = true := decide_eq_true (by omega)
          rw [ys_run_t (by omega) hP] at he
          have e1 : (H.2.1 72 27 + Int32.ofInt 1).toInt = (H.2.1 72 27).toInt + 1 := zw_p1 (by omega)
          have b2 := zT_putf (k := 27) (x := H.2.1 72 27 + Int32.ofInt 1) hZ.1 (fun r hr => by cases hr; exact ⟨by show (0 : Int) ≤ _; omega, by show _ ≤ (700 : Int); omega⟩) rfl trivial
          have g2 : ((zw_I H 72 27 (H.2.1 72 27 + Int32.ofInt 1)).2.1 72 27).toInt = ((q + 1 : Nat) : Int) := by
            rw [zw_eq, e1]
            omega
          refine zw_ld (n := 1) (k := 0) (f := zp_isR) (pc' := 38) rfl rfl l0 rfl rfl ?_
          refine zw_s (pc' := 39) rfl rfl ?_
          refine zw_gI (q := 72) (pc' := 42) W rfl rfl rfl rfl rfl rfl ?_
          refine zw_s (pc' := 43) rfl rfl ?_
          refine zw_iadd (pc' := 44) rfl rfl ?_
          refine zw_pI (q := 72) (pc' := 47) W rfl rfl rfl rfl rfl rfl ?_
          refine zw_s (pc' := 0) rfl rfl ?_
          exact ih _ _ (q + 1) ⟨b2, yr_T_I hZ.2 rfl⟩ (zk_Fr_I' hF rfl) l0 g2 (by omega) he (by omega)

/-- the next token -/
theorem yr_goes {L : Nat} {σ : Nat → Int32} {d : Nat} {T : Nat → Int} {n : Nat} {p : Nat} {H : zp_H} (hb : ∀ k, k < n → -128 ≤ T k ∧ T k ≤ 127) (hZ : yr_Z T n H) (h27 : (H.2.1 72 27).toInt = p) (hp : p ≤ n) : ∃ X, zp_Call L σ (d + 3) 171 [.inr (.inr (some 73))] H X ∧ (fun X : zp_X => ∃ H1, X = (.inl none, H1) ∧ yr_Z T n H1 ∧ zk_Fr zg yr_m [] H H1 ∧ yr_k T n p H1) X := by
  refine zw_met zm_171_t rfl rfl ?_
  exact yr_gL hp hb _ H _ p hZ (zk_Fr_r H) rfl h27 hp rfl (Nat.le_refl _)
end
