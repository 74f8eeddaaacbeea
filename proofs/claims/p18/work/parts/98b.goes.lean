/-! ===== the reference goes on to its next token ===== -/
set_option maxRecDepth 8000 in
theorem yr_gM {L : Nat} {σ : Nat → Int32} {d : Nat} {T : Nat → Int} {n : Nat} {p s : Nat} {H0 H : zp_H} {lv : zp_LV} (hp : p ≤ n) (hb : ∀ k, k < n → -128 ≤ T k ∧ T k ≤ 127) (hs : s = ys_st T n p) (hsn0 : s ≤ n) (hZ : yr_Z T n H) (hF : zk_Fr zg yr_m [] H0 H) (l0 : zp_get lv 0 = some (.inr (.inr (some 73)))) (h27 : (H.2.1 72 27).toInt = s) : zs_Safe L σ (fun X : zp_X => ∃ H1, X = (.inl none, H1) ∧ yr_Z T n H1 ∧ zk_Fr zg yr_m [] H0 H1 ∧ yr_k T n p H1) zm_171 [] (d + 2) (50, lv, [], H, (0, 0)) := by
  have W := zT_Wd hZ.1
  have hn7 := hZ.2.1
  have r1 := hZ.2.2.1
  have b1 := zT_putf (k := 29) (x := H.2.1 72 27) hZ.1 (fun r hr => by cases hr; exact ⟨by show (0 : Int) ≤ _; omega, by show _ ≤ (700 : Int); omega⟩) rfl trivial
  have b3 := zT_putf (k := 31) (x := Int32.ofInt 0) (zT_J2 (k := 33) (x := Int64.ofNat 0) b1) (fun r hr => by cases hr) rfl trivial
  have hZA : yr_Z T n (zw_I (zw_J (zw_I H 72 29 (H.2.1 72 27)) 72 33 (Int64.ofNat 0)) 72 31 (Int32.ofInt 0)) := ⟨b3, yr_T_I (yr_T_J (yr_T_I hZ.2 rfl)) rfl⟩
  have hFA : zk_Fr zg yr_m [] H0 (zw_I (zw_J (zw_I H 72 29 (H.2.1 72 27)) 72 33 (Int64.ofNat 0)) 72 31 (Int32.ofInt 0)) := zk_Fr_I' (zk_Fr_J' (zk_Fr_I' hF rfl) rfl) rfl
  have a27 : ((zw_I (zw_J (zw_I H 72 29 (H.2.1 72 27)) 72 33 (Int64.ofNat 0)) 72 31 (Int32.ofInt 0)).2.1 72 27) = H.2.1 72 27 := zw_ne (zw_nj (zw_ne rfl rfl)) rfl
  have a29 : ((zw_I (zw_J (zw_I H 72 29 (H.2.1 72 27)) 72 33 (Int64.ofNat 0)) 72 31 (Int32.ofInt 0)).2.1 72 29) = H.2.1 72 27 := zw_ne (zw_nj zw_eq) rfl
  have a31 : ((zw_I (zw_J (zw_I H 72 29 (H.2.1 72 27)) 72 33 (Int64.ofNat 0)) 72 31 (Int32.ofInt 0)).2.1 72 31) = Int32.ofInt 0 := zw_eq
  have a33 : (zw_I (zw_J (zw_I H 72 29 (H.2.1 72 27)) 72 33 (Int64.ofNat 0)) 72 31 (Int32.ofInt 0)).2.2.1 72 33 = Int64.ofNat 0 := show zp_u H.2.2.1 72 33 (Int64.ofNat 0) 72 33 = _ from zp_u_self _ _ _ _
  refine zw_ld (n := 1) (k := 0) (f := zp_isR) (pc' := 51) rfl rfl l0 rfl rfl ?_
  refine zw_ld (n := 1) (k := 0) (f := zp_isR) (pc' := 52) rfl rfl l0 rfl rfl ?_
  refine zw_gI (q := 72) (pc' := 55) W rfl rfl rfl rfl rfl rfl ?_
  refine zw_pI (q := 72) (pc' := 58) W rfl rfl rfl rfl rfl rfl ?_
  refine zw_ld (n := 1) (k := 0) (f := zp_isR) (pc' := 59) rfl rfl l0 rfl rfl ?_
  refine zw_s (pc' := 60) rfl rfl ?_
  refine zw_pL (q := 72) (pc' := 63) W rfl rfl rfl rfl rfl rfl ?_
  refine zw_ld (n := 1) (k := 0) (f := zp_isR) (pc' := 64) rfl rfl l0 rfl rfl ?_
  refine zw_s (pc' := 65) rfl rfl ?_
  refine zw_pI (q := 72) (pc' := 68) W rfl rfl rfl rfl rfl rfl ?_
  refine zw_ld (n := 1) (k := 0) (f := zp_isR) (pc' := 69) rfl rfl l0 rfl rfl ?_
  refine zw_ld (n := 1) (k := 0) (f := zp_isR) (pc' := 70) rfl rfl l0 rfl rfl ?_
  refine zw_gI (q := 72) (pc' := 73) W rfl rfl rfl rfl (zw_ne (zw_nj (zw_ne rfl rfl)) rfl) rfl ?_
  by_cases hsn : s < n
  · have tq : ((zw_I (zw_J (zw_I H 72 29 (H.2.1 72 27)) 72 33 (Int64.ofNat 0)) 72 31 (Int32.ofInt 0)).2.1 81 s).toInt = ys_u (T s) := hZA.2.2.2.1 s hsn
    refine zw_c (pc' := 76) (zw_cv (q := 72) (Y := zm_172) W.1 rfl rfl zm_172_t rfl rfl) rfl rfl rfl rfl rfl (yr_by hZA h27 hsn hn7) ?_
    have b4 := zT_putf (k := 32) (x := (zw_I (zw_J (zw_I H 72 29 (H.2.1 72 27)) 72 33 (Int64.ofNat 0)) 72 31 (Int32.ofInt 0)).2.1 81 s) b3 (fun r hr => by cases hr) rfl trivial
    have c27 : (zw_I (zw_I (zw_J (zw_I H 72 29 (H.2.1 72 27)) 72 33 (Int64.ofNat 0)) 72 31 (Int32.ofInt 0)) 72 32 ((zw_I (zw_J (zw_I H 72 29 (H.2.1 72 27)) 72 33 (Int64.ofNat 0)) 72 31 (Int32.ofInt 0)).2.1 81 s)).2.1 72 27 = H.2.1 72 27 := zw_ne a27 rfl
    have c29 : (zw_I (zw_I (zw_J (zw_I H 72 29 (H.2.1 72 27)) 72 33 (Int64.ofNat 0)) 72 31 (Int32.ofInt 0)) 72 32 ((zw_I (zw_J (zw_I H 72 29 (H.2.1 72 27)) 72 33 (Int64.ofNat 0)) 72 31 (Int32.ofInt 0)).2.1 81 s)).2.1 72 29 = H.2.1 72 27 := zw_ne a29 rfl
    have c31 : (zw_I (zw_I (zw_J (zw_I H 72 29 (H.2.1 72 27)) 72 33 (Int64.ofNat 0)) 72 31 (Int32.ofInt 0)) 72 32 ((zw_I (zw_J (zw_I H 72 29 (H.2.1 72 27)) 72 33 (Int64.ofNat 0)) 72 31 (Int32.ofInt 0)).2.1 81 s)).2.1 72 31 = Int32.ofInt 0 := zw_ne a31 rfl
    have c32 : (zw_I (zw_I (zw_J (zw_I H 72 29 (H.2.1 72 27)) 72 33 (Int64.ofNat 0)) 72 31 (Int32.ofInt 0)) 72 32 ((zw_I (zw_J (zw_I H 72 29 (H.2.1 72 27)) 72 33 (Int64.ofNat 0)) 72 31 (Int32.ofInt 0)).2.1 81 s)).2.1 72 32 = (zw_I (zw_J (zw_I H 72 29 (H.2.1 72 27)) 72 33 (Int64.ofNat 0)) 72 31 (Int32.ofInt 0)).2.1 81 s := zw_eq
    have c33 : (zw_I (zw_I (zw_J (zw_I H 72 29 (H.2.1 72 27)) 72 33 (Int64.ofNat 0)) 72 31 (Int32.ofInt 0)) 72 32 ((zw_I (zw_J (zw_I H 72 29 (H.2.1 72 27)) 72 33 (Int64.ofNat 0)) 72 31 (Int32.ofInt 0)).2.1 81 s)).2.2.1 72 33 = Int64.ofNat 0 := a33
    have hZB : yr_Z T n (zw_I (zw_I (zw_J (zw_I H 72 29 (H.2.1 72 27)) 72 33 (Int64.ofNat 0)) 72 31 (Int32.ofInt 0)) 72 32 ((zw_I (zw_J (zw_I H 72 29 (H.2.1 72 27)) 72 33 (Int64.ofNat 0)) 72 31 (Int32.ofInt 0)).2.1 81 s)) := ⟨b4, yr_T_I hZA.2 rfl⟩
    have hFB : zk_Fr zg yr_m [] H0 (zw_I (zw_I (zw_J (zw_I H 72 29 (H.2.1 72 27)) 72 33 (Int64.ofNat 0)) 72 31 (Int32.ofInt 0)) 72 32 ((zw_I (zw_J (zw_I H 72 29 (H.2.1 72 27)) 72 33 (Int64.ofNat 0)) 72 31 (Int32.ofInt 0)).2.1 81 s)) := zk_Fr_I' hFA rfl
    have hks : ys_kd T n p = ys_ks T n s := by
      unfold ys_kd
      rw [← hs]
    have hes : ys_nx T n p = ys_es T n s := by
      unfold ys_nx
      rw [← hs]
    unfold ys_ks at hks
    unfold ys_es at hes
    rw [if_neg (by omega)] at hks hes
    have hbs := hb s hsn
    have hu : 0 ≤ T s ∧ ys_u (T s) = T s ∨ T s < 0 ∧ 128 ≤ ys_u (T s) := by
      unfold ys_u
      by_cases h8 : T s < 0
      · rw [if_pos h8]
        exact Or.inr ⟨h8, by omega⟩
      · rw [if_neg h8]
        exact Or.inl ⟨by omega, rfl⟩
    have h32 : ((zw_I (zw_I (zw_J (zw_I H 72 29 (H.2.1 72 27)) 72 33 (Int64.ofNat 0)) 72 31 (Int32.ofInt 0)) 72 32 ((zw_I (zw_J (zw_I H 72 29 (H.2.1 72 27)) 72 33 (Int64.ofNat 0)) 72 31 (Int32.ofInt 0)).2.1 81 s)).2.1 72 32).toInt = ys_u (T (ys_st T n p)) := by rw [c32, tq, hs]
    have h29 : ((zw_I (zw_I (zw_J (zw_I H 72 29 (H.2.1 72 27)) 72 33 (Int64.ofNat 0)) 72 31 (Int32.ofInt 0)) 72 32 ((zw_I (zw_J (zw_I H 72 29 (H.2.1 72 27)) 72 33 (Int64.ofNat 0)) 72 31 (Int32.ofInt 0)).2.1 81 s)).2.1 72 29).toInt = ys_st T n p := by rw [c29, h27, hs]
    have h27' : ((zw_I (zw_I (zw_J (zw_I H 72 29 (H.2.1 72 27)) 72 33 (Int64.ofNat 0)) 72 31 (Int32.ofInt 0)) 72 32 ((zw_I (zw_J (zw_I H 72 29 (H.2.1 72 27)) 72 33 (Int64.ofNat 0)) 72 31 (Int32.ofInt 0)).2.1 81 s)).2.1 72 27).toInt = s := by rw [c27, h27]
    have h31 : ((zw_I (zw_I (zw_J (zw_I H 72 29 (H.2.1 72 27)) 72 33 (Int64.ofNat 0)) 72 31 (Int32.ofInt 0)) 72 32 ((zw_I (zw_J (zw_I H 72 29 (H.2.1 72 27)) 72 33 (Int64.ofNat 0)) 72 31 (Int32.ofInt 0)).2.1 81 s)).2.1 72 31).toInt = ys_nm T s (min 0 4) := by rw [c31]; rfl
    have h31b : 0 ≤ ((zw_I (zw_I (zw_J (zw_I H 72 29 (H.2.1 72 27)) 72 33 (Int64.ofNat 0)) 72 31 (Int32.ofInt 0)) 72 32 ((zw_I (zw_J (zw_I H 72 29 (H.2.1 72 27)) 72 33 (Int64.ofNat 0)) 72 31 (Int32.ofInt 0)).2.1 81 s)).2.1 72 31).toInt ∧ ((zw_I (zw_I (zw_J (zw_I H 72 29 (H.2.1 72 27)) 72 33 (Int64.ofNat 0)) 72 31 (Int32.ofInt 0)) 72 32 ((zw_I (zw_J (zw_I H 72 29 (H.2.1 72 27)) 72 33 (Int64.ofNat 0)) 72 31 (Int32.ofInt 0)).2.1 81 s)).2.1 72 31).toInt ≤ ys_10 (min 0 4) := by rw [c31]; decide
    refine zw_st (n := 1) (k := 1) (f := zp_isI) (pc' := 77) rfl rfl rfl rfl rfl ?_
    refine zw_ld (n := 1) (k := 0) (f := zp_isR) (pc' := 78) rfl rfl (zw_gt l0 rfl rfl) rfl rfl ?_
    refine zw_ld (n := 1) (k := 1) (f := zp_isI) (pc' := 79) rfl rfl zw_g1 rfl rfl ?_
    refine zw_pI (q := 72) (pc' := 82) W rfl rfl rfl rfl rfl rfl ?_
    refine zw_ld (n := 1) (k := 0) (f := zp_isR) (pc' := 83) rfl rfl (zw_gt l0 rfl rfl) rfl rfl ?_
    refine zw_gI (q := 72) (pc' := 86) W rfl rfl rfl rfl (zw_ne (zw_ne (zw_nj (zw_ne rfl rfl)) rfl) rfl) rfl ?_
    refine zw_ld (n := 1) (k := 0) (f := zp_isR) (pc' := 87) rfl rfl (zw_gt l0 rfl rfl) rfl rfl ?_
    refine zw_gI (q := 72) (pc' := 90) W rfl rfl rfl rfl (zw_ne (zw_ne (zw_nj (zw_ne rfl rfl)) rfl) rfl) rfl ?_
    refine zw_blt2 (g := 101) (pc' := 93) rfl rfl rfl rfl rfl (fun hb1 => ?_) (fun hb1 => ?_)
    · refine zw_ld (n := 1) (k := 1) (f := zp_isI) (pc' := 102) rfl rfl zw_g1 rfl rfl ?_
      by_cases hL : 97 ≤ ((zw_I (zw_J (zw_I H 72 29 (H.2.1 72 27)) 72 33 (Int64.ofNat 0)) 72 31 (Int32.ofInt 0)).2.1 81 s).toInt ∧ ((zw_I (zw_J (zw_I H 72 29 (H.2.1 72 27)) 72 33 (Int64.ofNat 0)) 72 31 (Int32.ofInt 0)).2.1 81 s).toInt ≤ 122
      · refine zw_c (pc' := 105) (zw_cs (Y := zm_173) rfl rfl zm_173_t) rfl rfl rfl rfl rfl (yr_l1 hL) ?_
        refine zw_beq1 (g := 180) (pc' := 108) rfl rfl rfl (rfl : _ = (1 : Int)) (fun h9 => absurd h9 (by decide)) (fun h9 => ?_)
        have hP : ys_L (T s) = true := decide_eq_true (by omega)
        rw [hP] at hks hes
        have hks : ys_kd T n p = 3 := hks
        have hes : ys_nx T n p = ys_run ys_L T (n - s) s := hes
        exact yr_gW hp hb hs hks hes n _ _ _ s hZB hFB (zw_gt l0 rfl rfl) zw_g1 h29 h27' ⟨Nat.le_refl _, by omega⟩ h32 (by rw [Nat.sub_self]; exact c33) rfl (by omega)
      · refine zw_c (pc' := 105) (zw_cs (Y := zm_173) rfl rfl zm_173_t) rfl rfl rfl rfl rfl (yr_l0 hL) ?_
        refine zw_beq1 (g := 180) (pc' := 108) rfl rfl rfl (rfl : _ = (0 : Int)) (fun h9 => ?_) (fun h9 => absurd h9 (by decide))
        have hP : ys_L (T s) = false := decide_eq_false (by omega)
        rw [hP] at hks hes
        have hks : ys_kd T n p = (bif ys_D (T s) then 2 else bif ys_G (T s) then 4 else 1) := hks
        have hes : ys_nx T n p = (bif ys_D (T s) then ys_run ys_D T (n - s) s else s + 1) := hes
        refine zw_ld (n := 1) (k := 1) (f := zp_isI) (pc' := 181) rfl rfl zw_g1 rfl rfl ?_
        by_cases hD : 48 ≤ ((zw_I (zw_J (zw_I H 72 29 (H.2.1 72 27)) 72 33 (Int64.ofNat 0)) 72 31 (Int32.ofInt 0)).2.1 81 s).toInt ∧ ((zw_I (zw_J (zw_I H 72 29 (H.2.1 72 27)) 72 33 (Int64.ofNat 0)) 72 31 (Int32.ofInt 0)).2.1 81 s).toInt ≤ 57
        · refine zw_c (pc' := 184) (zw_cs (Y := zm_174) rfl rfl zm_174_t) rfl rfl rfl rfl rfl (yr_g1 hD) ?_
          refine zw_beq1 (g := 258) (pc' := 187) rfl rfl rfl (rfl : _ = (1 : Int)) (fun h9 => absurd h9 (by decide)) (fun h9 => ?_)
          have hQ : ys_D (T s) = true := decide_eq_true (by omega)
          rw [hQ] at hks hes
          have hks : ys_kd T n p = 2 := hks
          have hes : ys_nx T n p = ys_run ys_D T (n - s) s := hes
          exact yr_gN hp hb hs hks hes n _ _ _ s hZB hFB (zw_gt l0 rfl rfl) zw_g1 h29 h27' ⟨Nat.le_refl _, by omega⟩ h32 (by rw [Nat.sub_self]; exact h31) (by rw [Nat.sub_self]; exact h31b) rfl (by omega)
        · refine zw_c (pc' := 184) (zw_cs (Y := zm_174) rfl rfl zm_174_t) rfl rfl rfl rfl rfl (yr_g0 hD) ?_
          refine zw_beq1 (g := 258) (pc' := 187) rfl rfl rfl (rfl : _ = (0 : Int)) (fun h9 => ?_) (fun h9 => absurd h9 (by decide))
          have hQ : ys_D (T s) = false := decide_eq_false (by omega)
          rw [hQ] at hks hes
          have hks : ys_kd T n p = (bif ys_G (T s) then 4 else 1) := hks
          have hes : ys_nx T n p = s + 1 := hes
          exact yr_gS hp hsn hs hks hes hZB hFB (zw_gt l0 rfl rfl) zw_g1 tq hu h29 h27' h32
    · exfalso
      have q1 : (H.2.1 72 27).toInt = s := h27
      omega
  · refine zw_c (pc' := 76) (zw_cv (q := 72) (Y := zm_172) W.1 rfl rfl zm_172_t rfl rfl) rfl rfl rfl rfl rfl (yr_by0 hZA (by omega)) ?_
    have b4 := zT_putf (k := 32) (x := Int32.ofInt 0) b3 (fun r hr => by cases hr) rfl trivial
    have c27 : (zw_I (zw_I (zw_J (zw_I H 72 29 (H.2.1 72 27)) 72 33 (Int64.ofNat 0)) 72 31 (Int32.ofInt 0)) 72 32 (Int32.ofInt 0)).2.1 72 27 = H.2.1 72 27 := zw_ne a27 rfl
    have c29 : (zw_I (zw_I (zw_J (zw_I H 72 29 (H.2.1 72 27)) 72 33 (Int64.ofNat 0)) 72 31 (Int32.ofInt 0)) 72 32 (Int32.ofInt 0)).2.1 72 29 = H.2.1 72 27 := zw_ne a29 rfl
    have c31 : (zw_I (zw_I (zw_J (zw_I H 72 29 (H.2.1 72 27)) 72 33 (Int64.ofNat 0)) 72 31 (Int32.ofInt 0)) 72 32 (Int32.ofInt 0)).2.1 72 31 = Int32.ofInt 0 := zw_ne a31 rfl
    have c32 : (zw_I (zw_I (zw_J (zw_I H 72 29 (H.2.1 72 27)) 72 33 (Int64.ofNat 0)) 72 31 (Int32.ofInt 0)) 72 32 (Int32.ofInt 0)).2.1 72 32 = Int32.ofInt 0 := zw_eq
    have c33 : (zw_I (zw_I (zw_J (zw_I H 72 29 (H.2.1 72 27)) 72 33 (Int64.ofNat 0)) 72 31 (Int32.ofInt 0)) 72 32 (Int32.ofInt 0)).2.2.1 72 33 = Int64.ofNat 0 := a33
    have hZB : yr_Z T n (zw_I (zw_I (zw_J (zw_I H 72 29 (H.2.1 72 27)) 72 33 (Int64.ofNat 0)) 72 31 (Int32.ofInt 0)) 72 32 (Int32.ofInt 0)) := ⟨b4, yr_T_I hZA.2 rfl⟩
    have hFB : zk_Fr zg yr_m [] H0 (zw_I (zw_I (zw_J (zw_I H 72 29 (H.2.1 72 27)) 72 33 (Int64.ofNat 0)) 72 31 (Int32.ofInt 0)) 72 32 (Int32.ofInt 0)) := zk_Fr_I' hFA rfl
    refine zw_st (n := 1) (k := 1) (f := zp_isI) (pc' := 77) rfl rfl rfl rfl rfl ?_
    refine zw_ld (n := 1) (k := 0) (f := zp_isR) (pc' := 78) rfl rfl (zw_gt l0 rfl rfl) rfl rfl ?_
    refine zw_ld (n := 1) (k := 1) (f := zp_isI) (pc' := 79) rfl rfl zw_g1 rfl rfl ?_
    refine zw_pI (q := 72) (pc' := 82) W rfl rfl rfl rfl rfl rfl ?_
    refine zw_ld (n := 1) (k := 0) (f := zp_isR) (pc' := 83) rfl rfl (zw_gt l0 rfl rfl) rfl rfl ?_
    refine zw_gI (q := 72) (pc' := 86) W rfl rfl rfl rfl (zw_ne (zw_ne (zw_nj (zw_ne rfl rfl)) rfl) rfl) rfl ?_
    refine zw_ld (n := 1) (k := 0) (f := zp_isR) (pc' := 87) rfl rfl (zw_gt l0 rfl rfl) rfl rfl ?_
    refine zw_gI (q := 72) (pc' := 90) W rfl rfl rfl rfl (zw_ne (zw_ne (zw_nj (zw_ne rfl rfl)) rfl) rfl) rfl ?_
    refine zw_blt2 (g := 101) (pc' := 93) rfl rfl rfl rfl rfl (fun hb1 => ?_) (fun hb1 => ?_)
    · exfalso
      have q1 : (H.2.1 72 27).toInt = s := h27
      omega
    · have hk : ys_kd T n p = 0 := by
        unfold ys_kd ys_ks
        rw [← hs, if_pos (by omega)]
      have hes : ys_nx T n p = s := by
        unfold ys_nx ys_es
        rw [← hs, if_pos (by omega)]
      have b5 := zT_putf (k := 28) (x := Int32.ofInt 0) b4 (fun r hr => by cases hr) rfl trivial
      have d27 : (zw_I (zw_I (zw_I (zw_J (zw_I H 72 29 (H.2.1 72 27)) 72 33 (Int64.ofNat 0)) 72 31 (Int32.ofInt 0)) 72 32 (Int32.ofInt 0)) 72 28 (Int32.ofInt 0)).2.1 72 27 = H.2.1 72 27 := zw_ne c27 rfl
      have d29 : (zw_I (zw_I (zw_I (zw_J (zw_I H 72 29 (H.2.1 72 27)) 72 33 (Int64.ofNat 0)) 72 31 (Int32.ofInt 0)) 72 32 (Int32.ofInt 0)) 72 28 (Int32.ofInt 0)).2.1 72 29 = H.2.1 72 27 := zw_ne c29 rfl
      refine zw_ld (n := 1) (k := 0) (f := zp_isR) (pc' := 94) rfl rfl (zw_gt l0 rfl rfl) rfl rfl ?_
      refine zw_s (pc' := 95) rfl rfl ?_
      refine zw_pI (q := 72) (pc' := 98) W rfl rfl rfl rfl rfl rfl ?_
      refine zw_s (pc' := 331) rfl rfl ?_
      refine yr_gE hp ⟨b5, yr_T_I hZB.2 rfl⟩ (zk_Fr_I' hFB rfl) (zw_gt l0 rfl rfl) ((congrArg Int32.toInt d29).trans (by rw [h27, hs])) ((congrArg Int32.toInt d27).trans (by rw [h27, hes])) ?_ (fun h9 => by rw [hk] at h9; cases h9) (fun h9 => absurd hk h9) (fun h9 => by rw [hk] at h9; cases h9)
      rw [hk]
      exact (congrArg Int32.toInt zw_eq).trans (by decide)

set_option maxRecDepth 8000 in
theorem yr_gL {L : Nat} {σ : Nat → Int32} {d : Nat} {T : Nat → Int} {n : Nat} {p : Nat} {H0 : zp_H} (hp : p ≤ n) (hb : ∀ k, k < n → -128 ≤ T k ∧ T k ≤ 127) : ∀ (m : Nat) (H : zp_H) (lv : zp_LV) (q : Nat), yr_Z T n H → zk_Fr zg yr_m [] H0 H → zp_get lv 0 = some (.inr (.inr (some 73))) → (H.2.1 72 27).toInt = q → q ≤ n → ys_run ys_sp T (n - q) q = ys_st T n p → n - q ≤ m → zs_Safe L σ (fun X : zp_X => ∃ H1, X = (.inl none, H1) ∧ yr_Z T n H1 ∧ zk_Fr zg yr_m [] H0 H1 ∧ yr_k T n p H1) zm_171 [] (d + 2) (0, lv, [], H, (0, 0)) := by
  intro m
  induction m with
  | zero =>
    intro H lv q hZ hF l0 h27 hq he hm
    have W := zT_Wd hZ.1
    have hn7 := hZ.2.1
    have r1 := hZ.2.2.1
    refine zw_ld (n := 1) (k := 0) (f := zp_isR) (pc' := 1) rfl rfl l0 rfl rfl ?_
    refine zw_gI (q := 72) (pc' := 4) W rfl rfl rfl rfl rfl rfl ?_
    refine zw_ld (n := 1) (k := 0) (f := zp_isR) (pc' := 5) rfl rfl l0 rfl rfl ?_
    refine zw_gI (q := 72) (pc' := 8) W rfl rfl rfl rfl rfl rfl ?_
    refine zw_bge2 (g := 50) (pc' := 11) rfl rfl rfl rfl rfl (fun hb1 => ?_) (fun hb1 => ?_)
    · have hqe : q = ys_st T n p := by
        rw [← he, ys_run_n (by omega)]
      exact yr_gM hp hb hqe (by omega) hZ hF l0 h27
    · omega
  | succ m ih =>
    intro H lv q hZ hF l0 h27 hq he hm
    have W := zT_Wd hZ.1
    have hn7 := hZ.2.1
    have r1 := hZ.2.2.1
    refine zw_ld (n := 1) (k := 0) (f := zp_isR) (pc' := 1) rfl rfl l0 rfl rfl ?_
    refine zw_gI (q := 72) (pc' := 4) W rfl rfl rfl rfl rfl rfl ?_
    refine zw_ld (n := 1) (k := 0) (f := zp_isR) (pc' := 5) rfl rfl l0 rfl rfl ?_
    refine zw_gI (q := 72) (pc' := 8) W rfl rfl rfl rfl rfl rfl ?_
    refine zw_bge2 (g := 50) (pc' := 11) rfl rfl rfl rfl rfl (fun hb1 => ?_) (fun hb1 => ?_)
    · have hqe : q = ys_st T n p := by
        rw [← he, ys_run_n (by omega)]
      exact yr_gM hp hb hqe (by omega) hZ hF l0 h27
    · have hqn : q < n := by omega
      have tq : (H.2.1 81 q).toInt = ys_u (T q) := hZ.2.2.2.1 q hqn
      have hbq := hb q hqn
      have hu : 0 ≤ T q ∧ ys_u (T q) = T q ∨ T q < 0 ∧ 128 ≤ ys_u (T q) := by
        unfold ys_u
        by_cases h8 : T q < 0
        · rw [if_pos h8]
          exact Or.inr ⟨h8, by omega⟩
        · rw [if_neg h8]
          exact Or.inl ⟨by omega, rfl⟩
      refine zw_ld (n := 1) (k := 0) (f := zp_isR) (pc' := 12) rfl rfl l0 rfl rfl ?_
      refine zw_ld (n := 1) (k := 0) (f := zp_isR) (pc' := 13) rfl rfl l0 rfl rfl ?_
      refine zw_gI (q := 72) (pc' := 16) W rfl rfl rfl rfl rfl rfl ?_
      refine zw_c (pc' := 19) (zw_cv (q := 72) (Y := zm_172) W.1 rfl rfl zm_172_t rfl rfl) rfl rfl rfl rfl rfl (yr_by hZ h27 hqn hn7) ?_
      refine zw_s (pc' := 21) rfl rfl ?_
      refine zw_beq2 (g := 37) (pc' := 24) rfl rfl rfl rfl (rfl : _ = (32 : Int)) (fun h32 => ?_) (fun h32 => ?_)
      · have hP : ys_sp (T q) = true := decide_eq_true (by omega)
        rw [ys_run_t (by omega) hP] at he
        have e1 : (H.2.1 72 27 + Int32.ofInt 1).toInt = (H.2.1 72 27).toInt + 1 := zw_p1 (by omega)
        have b2 := zT_putf (k := 27) (x := H.2.1 72 27 + Int32.ofInt 1) hZ.1 (fun r hr => by cases hr; exact ⟨by show (0 : Int) ≤ _; omega, by show _ ≤ (700 : Int); omega⟩) rfl trivial
        have g2 : ((zw_I H 72 27 (H.2.1 72 27 + Int32.ofInt 1)).2.1 72 27).toInt = ((q + 1 : Nat) : Int) := by
          rw [zw_eq, e1]
          omega
        refine zw_ld (n := 1) (k := 0) (f := zp_isR) (pc' := 38) rfl rfl l0 rfl rfl ?_
        refine zw_s (pc' := 39) rfl rfl ?_
        refine zw_gI (q := 72) (pc' := 42) W rfl rfl rfl rfl rfl rfl ?_
        refine zw_s (pc' := 43) rfl rfl ?_
        refine zw_iadd (pc' := 44) rfl rfl ?_
        refine zw_pI (q := 72) (pc' := 47) W rfl rfl rfl rfl rfl rfl ?_
        refine zw_s (pc' := 0) rfl rfl ?_
        exact ih _ _ (q + 1) ⟨b2, yr_T_I hZ.2 rfl⟩ (zk_Fr_I' hF rfl) l0 g2 (by omega) he (by omega)
      · refine zw_ld (n := 1) (k := 0) (f := zp_isR) (pc' := 25) rfl rfl l0 rfl rfl ?_
        refine zw_ld (n := 1) (k := 0) (f := zp_isR) (pc' := 26) rfl rfl l0 rfl rfl ?_
        refine zw_gI (q := 72) (pc' := 29) W rfl rfl rfl rfl rfl rfl ?_
        refine zw_c (pc' := 32) (zw_cv (q := 72) (Y := zm_172) W.1 rfl rfl zm_172_t rfl rfl) rfl rfl rfl rfl rfl (yr_by hZ h27 hqn hn7) ?_
        refine zw_s (pc' := 34) rfl rfl ?_
        refine zw_bne2 (g := 50) (pc' := 37) rfl rfl rfl rfl (rfl : _ = (10 : Int)) (fun h10 => ?_) (fun h10 => ?_)
        · have hP : ys_sp (T q) = false := decide_eq_false (by omega)
          have hqe : q = ys_st T n p := by
            rw [← he, ys_run_f hP]
          exact yr_gM hp hb hqe (by omega) hZ hF l0 h27
        · have hP : ys_sp (T q) = true := decide_eq_true (by omega)
          rw [ys_run_t (by omega) hP] at he
          have e1 : (H.2.1 72 27 + Int32.ofInt 1).toInt = (H.2.1 72 27).toInt + 1 := zw_p1 (by omega)
          have b2 := zT_putf (k := 27) (x := H.2.1 72 27 + Int32.ofInt 1) hZ.1 (fun r hr => by cases hr; exact ⟨by show (0 : Int) ≤ _; omega, by show _ ≤ (700 : Int); omega⟩) rfl trivial
          have g2 : ((zw_I H 72 27 (H.2.1 72 27 + Int32.ofInt 1)).2.1 72 27).toInt = ((q + 1 : Nat) : Int) := by
            rw [zw_eq, e1]
            omega
          refine zw_ld (n := 1) (k := 0) (f := zp_isR) (pc' := 38) rfl rfl l0 rfl rfl ?_
          refine zw_s (pc' := 39) rfl rfl ?_
          refine zw_gI (q := 72) (pc' := 42) W rfl rfl rfl rfl rfl rfl ?_
          refine zw_s (pc' := 43) rfl rfl ?_
          refine zw_iadd (pc' := 44) rfl rfl ?_
          refine zw_pI (q := 72) (pc' := 47) W rfl rfl rfl rfl rfl rfl ?_
          refine zw_s (pc' := 0) rfl rfl ?_
          exact ih _ _ (q + 1) ⟨b2, yr_T_I hZ.2 rfl⟩ (zk_Fr_I' hF rfl) l0 g2 (by omega) he (by omega)

/-- the next token -/
theorem yr_goes {L : Nat} {σ : Nat → Int32} {d : Nat} {T : Nat → Int} {n : Nat} {p : Nat} {H : zp_H} (hb : ∀ k, k < n → -128 ≤ T k ∧ T k ≤ 127) (hZ : yr_Z T n H) (h27 : (H.2.1 72 27).toInt = p) (hp : p ≤ n) : ∃ X, zp_Call L σ (d + 3) 171 [.inr (.inr (some 73))] H X ∧ (fun X : zp_X => ∃ H1, X = (.inl none, H1) ∧ yr_Z T n H1 ∧ zk_Fr zg yr_m [] H H1 ∧ yr_k T n p H1) X := by
  refine zw_met zm_171_t rfl rfl ?_
  exact yr_gL hp hb _ H _ p hZ (zk_Fr_r H) rfl h27 hp rfl (Nat.le_refl _)
