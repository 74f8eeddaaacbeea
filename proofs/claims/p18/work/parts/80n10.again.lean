/-! ===== the reference once more, without the condition on what it reads (printed from the parts above) ===== -/
theorem z0rt_n : zk_chk z0R zR_fz [] [] 5000 zr_n = true := by decide +kernel
theorem z0t_near {L : Nat} {σ : Nat → Int32} {d : Nat} {H : zp_H} {x y z : Int32} (h : zk_Bs z0R zg zJ H) (hx : 0 ≤ x.toInt ∧ x.toInt ≤ 63) (hy : 0 ≤ y.toInt ∧ y.toInt ≤ 63) : ∃ H1 v, zp_Call L σ (d + 3) 240 [.inr (.inr (some 73)), .inl x, .inl y, .inl z] H (.inl (some (.inl v)), H1) ∧ zk_Bs z0R zg zJ H1 ∧ zk_Fr zg [] [] H H1 ∧ (v = 0 ∨ v = 1) := by
  have hct : zk_Ct L σ z0R zg zJ zr_n := zk_chk_ok z0R_W (fun _ h => absurd h List.not_mem_nil) z0rt_n
  obtain ⟨X, x1, x2, x3, o, o1, o2, o3, o4⟩ := hct (d + 3) (Nat.le_add_left 3 d) [.inr (.inr (some 73)), .inl x, .inl y, .inl z] H ⟨rfl, hx, hy, zl_full z, trivial⟩ h (fun f hf => absurd hf List.not_mem_nil)
  rcases List.mem_cons.mp o1 with rfl | o1
  · obtain ⟨X1, X2⟩ := X
    obtain ⟨v, e, hv⟩ := zk_rv_i o2
    have e : X1 = .inl (some (.inl v)) := e
    subst e
    have hv : 0 ≤ v.toInt ∧ v.toInt ≤ 1 := hv
    refine ⟨X2, v, x1, x2, x3, ?_⟩
    by_cases h0 : v.toInt = 0
    · exact Or.inl (Int32.toInt_inj.mp h0)
    · exact Or.inr (Int32.toInt_inj.mp (by show v.toInt = 1; omega))
  · exact absurd o1 List.not_mem_nil
def z0t_iP (H0 : zp_H) (X : zp_X) : Prop := ∃ H1 v, X = (.inl (some (.inl v)), H1) ∧ zk_Bs z0R zg zJ H1 ∧ zk_Fr zg [] [] H0 H1 ∧ (v = 0 ∨ v = 1)
theorem z0t_irL {L : Nat} {σ : Nat → Int32} {d : Nat} {H0 : zp_H} {row : Nat → Int32} {xk : Int32} (hk : 0 ≤ xk.toInt ∧ xk.toInt ≤ 7) (hrow : ∀ j : Nat, (j : Int) ≤ xk.toInt → 0 ≤ (row j).toInt ∧ (row j).toInt ≤ 7) : ∀ (n : Nat) (H : zp_H) (lv : zp_LV) (x2 x3 : Int32), zk_Bs z0R zg zJ H → zk_Fr zg [] [] H0 H → H.2.1 98 = row → zp_get lv 0 = some (.inr (.inr (some 73))) → zp_get lv 1 = some (.inl xk) → zp_get lv 2 = some (.inl x2) → zp_get lv 3 = some (.inl x3) → (x2 = 0 ∨ x2 = 1) → 0 ≤ x3.toInt → (xk.toInt - x3.toInt).toNat ≤ n → zs_Safe L σ (z0t_iP H0) zm_239 [] (d + 3) (58, lv, [], H, (0, 0)) := by
  intro n
  induction n with
  | zero =>
    intro H lv x2 x3 hB hF hrw l0 l1 l2 l3 h2 h3 hn
    have W := zR_Wd (z0R_dn hB)
    refine zw_ld (n := 1) (k := 3) (f := zp_isI) (pc' := 59) rfl rfl l3 rfl rfl ?_
    refine zw_ld (n := 1) (k := 1) (f := zp_isI) (pc' := 60) rfl rfl l1 rfl rfl ?_
    refine zw_bge2 (g := 114) (pc' := 63) rfl rfl rfl rfl rfl (fun hb => ?_) (fun hb => ?_)
    · refine zw_ld (n := 1) (k := 2) (f := zp_isI) (pc' := 115) rfl rfl l2 rfl rfl ?_
      refine zw_rz rfl rfl (h2) ?_
      exact ⟨H, x2, rfl, hB, hF, h2⟩
    · omega
  | succ n ih =>
    intro H lv x2 x3 hB hF hrw l0 l1 l2 l3 h2 h3 hn
    have W := zR_Wd (z0R_dn hB)
    refine zw_ld (n := 1) (k := 3) (f := zp_isI) (pc' := 59) rfl rfl l3 rfl rfl ?_
    refine zw_ld (n := 1) (k := 1) (f := zp_isI) (pc' := 60) rfl rfl l1 rfl rfl ?_
    refine zw_bge2 (g := 114) (pc' := 63) rfl rfl rfl rfl rfl (fun hb => ?_) (fun hb => ?_)
    · refine zw_ld (n := 1) (k := 2) (f := zp_isI) (pc' := 115) rfl rfl l2 rfl rfl ?_
      refine zw_rz rfl rfl (h2) ?_
      exact ⟨H, x2, rfl, hB, hF, h2⟩
    · have e1 : (x3 + Int32.ofInt 1).toInt = x3.toInt + 1 := zw_p1 (by omega)
      have rk := hrow xk.toInt.toNat (by omega)
      have r3 := hrow x3.toInt.toNat (by omega)
      rw [← hrw] at rk r3
      have a5 : (Int32.ofInt 4 * H.2.1 98 xk.toInt.toNat).toInt = 4 * (H.2.1 98 xk.toInt.toNat).toInt := zt_mul (by decide) (by omega)
      have c5 : (Int32.ofInt 4 * H.2.1 98 xk.toInt.toNat).toInt.toNat = 4 * (H.2.1 98 xk.toInt.toNat).toInt.toNat := by omega
      have s0 := zt_s0 (z0T_dn hB) (k := (H.2.1 98 xk.toInt.toNat).toInt.toNat) (by omega)
      have n0 := zt_en (z0T_dn hB) (k := (H.2.1 98 x3.toInt.toNat).toInt.toNat) (by omega)
      rw [← c5] at s0
      refine zw_ld (n := 1) (k := 2) (f := zp_isI) (pc' := 64) rfl rfl l2 rfl rfl ?_
      refine zw_bne1 (g := 102) (pc' := 67) rfl rfl rfl rfl (fun hc => ?_) (fun hc => ?_)
      · refine zw_s (pc' := 103) rfl rfl ?_
        refine zw_s (pc' := 107) rfl rfl ?_
        refine zw_st (n := 1) (k := 2) (f := zp_isI) (pc' := 108) rfl rfl rfl rfl rfl ?_
        refine zw_ii (pc' := 111) rfl (zw_gt l3 rfl rfl) rfl rfl ?_
        refine zw_s (pc' := 58) rfl rfl ?_
        exact ih H _ _ _ hB hF hrw (zw_gt (zw_gt l0 rfl rfl) rfl rfl) (zw_gt (zw_gt l1 rfl rfl) rfl rfl) (zw_gt zw_g1 rfl rfl) zw_g1 (Or.inr rfl) (by omega) (by omega)
      · refine zw_ld (n := 1) (k := 0) (f := zp_isR) (pc' := 68) rfl rfl l0 rfl rfl ?_
        refine zw_ld (n := 1) (k := 0) (f := zp_isR) (pc' := 69) rfl rfl l0 rfl rfl ?_
        refine zw_gR (q := 72) (pc' := 72) W rfl rfl rfl rfl (W.2 72 14 _ rfl) rfl ?_
        refine zw_s (pc' := 73) rfl rfl ?_
        refine zw_ld (n := 1) (k := 0) (f := zp_isR) (pc' := 74) rfl rfl l0 rfl rfl ?_
        refine zw_gR (q := 72) (pc' := 77) W rfl rfl rfl rfl (W.2 72 76 _ rfl) rfl ?_
        refine zw_ld (n := 1) (k := 1) (f := zp_isI) (pc' := 78) rfl rfl l1 rfl rfl ?_
        refine zw_ia (q := 98) (pc' := 79) W rfl rfl (by decide) (⟨by omega, by show _ < ((8 : Nat) : Int); omega⟩) rfl rfl ?_
        refine zw_imul (pc' := 80) rfl rfl ?_
        refine zw_ia (q := 74) (pc' := 81) W rfl rfl (by decide) (⟨by omega, by show _ < ((32 : Nat) : Int); omega⟩) rfl rfl ?_
        refine zw_ld (n := 1) (k := 0) (f := zp_isR) (pc' := 82) rfl rfl l0 rfl rfl ?_
        refine zw_gR (q := 72) (pc' := 85) W rfl rfl rfl rfl (W.2 72 77 _ rfl) rfl ?_
        refine zw_ld (n := 1) (k := 0) (f := zp_isR) (pc' := 86) rfl rfl l0 rfl rfl ?_
        refine zw_gR (q := 72) (pc' := 89) W rfl rfl rfl rfl (W.2 72 76 _ rfl) rfl ?_
        refine zw_ld (n := 1) (k := 3) (f := zp_isI) (pc' := 90) rfl rfl l3 rfl rfl ?_
        refine zw_ia (q := 98) (pc' := 91) W rfl rfl (by decide) (⟨by omega, by show _ < ((8 : Nat) : Int); omega⟩) rfl rfl ?_
        refine zw_ia (q := 99) (pc' := 92) W rfl rfl (by decide) (⟨by omega, by show _ < ((8 : Nat) : Int); omega⟩) rfl rfl ?_
        refine zw_ld (n := 1) (k := 0) (f := zp_isR) (pc' := 93) rfl rfl l0 rfl rfl ?_
        refine zw_gI (q := 72) (pc' := 96) W rfl rfl rfl rfl rfl rfl ?_
        obtain ⟨K, v, c1, c2, c3, c4⟩ := z0t_near (L := L) (σ := σ) (d := d) (z := H.2.1 72 10) hB s0 n0
        have WK := zR_Wd (z0R_dn c2)
        have k98 := zx_ae c3 98 (fun _ => rfl) rfl rfl
        refine zw_c (pc' := 99) (zw_cv (q := 72) (Y := zm_240) W.1 rfl rfl zm_240_t rfl rfl) rfl rfl rfl rfl rfl (c1) ?_
        refine zw_beq1 (g := 106) (pc' := 102) rfl rfl rfl rfl (fun hd => ?_) (fun hd => ?_)
        · refine zw_s (pc' := 107) rfl rfl ?_
          refine zw_st (n := 1) (k := 2) (f := zp_isI) (pc' := 108) rfl rfl rfl rfl rfl ?_
          refine zw_ii (pc' := 111) rfl (zw_gt l3 rfl rfl) rfl rfl ?_
          refine zw_s (pc' := 58) rfl rfl ?_
          exact ih K _ _ _ c2 (zk_Fr_t hF c3) (by rw [k98]; exact hrw) (zw_gt (zw_gt l0 rfl rfl) rfl rfl) (zw_gt (zw_gt l1 rfl rfl) rfl rfl) (zw_gt zw_g1 rfl rfl) zw_g1 (Or.inl rfl) (by omega) (by omega)
        · refine zw_s (pc' := 103) rfl rfl ?_
          refine zw_s (pc' := 107) rfl rfl ?_
          refine zw_st (n := 1) (k := 2) (f := zp_isI) (pc' := 108) rfl rfl rfl rfl rfl ?_
          refine zw_ii (pc' := 111) rfl (zw_gt l3 rfl rfl) rfl rfl ?_
          refine zw_s (pc' := 58) rfl rfl ?_
          exact ih K _ _ _ c2 (zk_Fr_t hF c3) (by rw [k98]; exact hrw) (zw_gt (zw_gt l0 rfl rfl) rfl rfl) (zw_gt (zw_gt l1 rfl rfl) rfl rfl) (zw_gt zw_g1 rfl rfl) zw_g1 (Or.inr rfl) (by omega) (by omega)
theorem z0t_irA {L : Nat} {σ : Nat → Int32} {d : Nat} {H : zp_H} {xk : Int32} (hB : zk_Bs z0R zg zJ H) (hk : 0 ≤ xk.toInt ∧ xk.toInt ≤ 7) (hrow : ∀ j : Nat, (j : Int) ≤ xk.toInt → 0 ≤ (H.2.1 98 j).toInt ∧ (H.2.1 98 j).toInt ≤ 7) : ∀ (n : Nat) (lv : zp_LV) (x2 : Int32), zp_get lv 0 = some (.inr (.inr (some 73))) → zp_get lv 1 = some (.inl xk) → zp_get lv 2 = some (.inl x2) → 0 ≤ x2.toInt → (xk.toInt - x2.toInt).toNat ≤ n → zs_Safe L σ (z0t_iP H) zm_239 [] (d + 3) (2, lv, [], H, (0, 0)) := by
  intro n
  induction n with
  | zero =>
    intro lv x2 l0 l1 l2 h2 hn
    have W := zR_Wd (z0R_dn hB)
    have rk := hrow xk.toInt.toNat (by omega)
    have a5 : (Int32.ofInt 4 * H.2.1 98 xk.toInt.toNat).toInt = 4 * (H.2.1 98 xk.toInt.toNat).toInt := zt_mul (by decide) (by omega)
    have c5 : (Int32.ofInt 4 * H.2.1 98 xk.toInt.toNat).toInt.toNat = 4 * (H.2.1 98 xk.toInt.toNat).toInt.toNat := by omega
    have s0 := zt_s0 (z0T_dn hB) (k := (H.2.1 98 xk.toInt.toNat).toInt.toNat) (by omega)
    rw [← c5] at s0
    have sc := zR_fr1 (z0R_dn hB) (k := 9) (r := (0, 63)) rfl rfl
    refine zw_ld (n := 1) (k := 2) (f := zp_isI) (pc' := 3) rfl rfl l2 rfl rfl ?_
    refine zw_ld (n := 1) (k := 1) (f := zp_isI) (pc' := 4) rfl rfl l1 rfl rfl ?_
    refine zw_bge2 (g := 30) (pc' := 7) rfl rfl rfl rfl rfl (fun hb => ?_) (fun hb => ?_)
    · refine zw_ld (n := 1) (k := 0) (f := zp_isR) (pc' := 31) rfl rfl l0 rfl rfl ?_
      refine zw_ld (n := 1) (k := 0) (f := zp_isR) (pc' := 32) rfl rfl l0 rfl rfl ?_
      refine zw_gR (q := 72) (pc' := 35) W rfl rfl rfl rfl (W.2 72 14 _ rfl) rfl ?_
      refine zw_s (pc' := 36) rfl rfl ?_
      refine zw_ld (n := 1) (k := 0) (f := zp_isR) (pc' := 37) rfl rfl l0 rfl rfl ?_
      refine zw_gR (q := 72) (pc' := 40) W rfl rfl rfl rfl (W.2 72 76 _ rfl) rfl ?_
      refine zw_ld (n := 1) (k := 1) (f := zp_isI) (pc' := 41) rfl rfl l1 rfl rfl ?_
      refine zw_ia (q := 98) (pc' := 42) W rfl rfl (by decide) (⟨by omega, by show _ < ((8 : Nat) : Int); omega⟩) rfl rfl ?_
      refine zw_imul (pc' := 43) rfl rfl ?_
      refine zw_ia (q := 74) (pc' := 44) W rfl rfl (by decide) (⟨by omega, by show _ < ((32 : Nat) : Int); omega⟩) rfl rfl ?_
      refine zw_ld (n := 1) (k := 0) (f := zp_isR) (pc' := 45) rfl rfl l0 rfl rfl ?_
      refine zw_gI (q := 72) (pc' := 48) W rfl rfl rfl rfl rfl rfl ?_
      refine zw_ld (n := 1) (k := 0) (f := zp_isR) (pc' := 49) rfl rfl l0 rfl rfl ?_
      refine zw_gI (q := 72) (pc' := 52) W rfl rfl rfl rfl rfl rfl ?_
      obtain ⟨K, v, c1, c2, c3, c4⟩ := z0t_near (L := L) (σ := σ) (d := d) (z := H.2.1 72 10) hB s0 sc
      have k98 := zx_ae c3 98 (fun _ => rfl) rfl rfl
      refine zw_c (pc' := 55) (zw_cv (q := 72) (Y := zm_240) W.1 rfl rfl zm_240_t rfl rfl) rfl rfl rfl rfl rfl (c1) ?_
      refine zw_st (n := 1) (k := 2) (f := zp_isI) (pc' := 56) rfl rfl rfl rfl rfl ?_
      refine zw_s (pc' := 57) rfl rfl ?_
      refine zw_st (n := 1) (k := 3) (f := zp_isI) (pc' := 58) rfl rfl rfl rfl rfl ?_
      exact z0t_irL hk hrow 8 K _ _ _ c2 c3 k98 (zw_gt (zw_gt l0 rfl rfl) rfl rfl) (zw_gt (zw_gt l1 rfl rfl) rfl rfl) (zw_gt zw_g1 rfl rfl) zw_g1 c4 (by decide) (by show (xk.toInt - 0).toNat ≤ 8; omega)
    · omega
  | succ n ih =>
    intro lv x2 l0 l1 l2 h2 hn
    have W := zR_Wd (z0R_dn hB)
    have rk := hrow xk.toInt.toNat (by omega)
    have a5 : (Int32.ofInt 4 * H.2.1 98 xk.toInt.toNat).toInt = 4 * (H.2.1 98 xk.toInt.toNat).toInt := zt_mul (by decide) (by omega)
    have c5 : (Int32.ofInt 4 * H.2.1 98 xk.toInt.toNat).toInt.toNat = 4 * (H.2.1 98 xk.toInt.toNat).toInt.toNat := by omega
    have s0 := zt_s0 (z0T_dn hB) (k := (H.2.1 98 xk.toInt.toNat).toInt.toNat) (by omega)
    rw [← c5] at s0
    have sc := zR_fr1 (z0R_dn hB) (k := 9) (r := (0, 63)) rfl rfl
    refine zw_ld (n := 1) (k := 2) (f := zp_isI) (pc' := 3) rfl rfl l2 rfl rfl ?_
    refine zw_ld (n := 1) (k := 1) (f := zp_isI) (pc' := 4) rfl rfl l1 rfl rfl ?_
    refine zw_bge2 (g := 30) (pc' := 7) rfl rfl rfl rfl rfl (fun hb => ?_) (fun hb => ?_)
    · refine zw_ld (n := 1) (k := 0) (f := zp_isR) (pc' := 31) rfl rfl l0 rfl rfl ?_
      refine zw_ld (n := 1) (k := 0) (f := zp_isR) (pc' := 32) rfl rfl l0 rfl rfl ?_
      refine zw_gR (q := 72) (pc' := 35) W rfl rfl rfl rfl (W.2 72 14 _ rfl) rfl ?_
      refine zw_s (pc' := 36) rfl rfl ?_
      refine zw_ld (n := 1) (k := 0) (f := zp_isR) (pc' := 37) rfl rfl l0 rfl rfl ?_
      refine zw_gR (q := 72) (pc' := 40) W rfl rfl rfl rfl (W.2 72 76 _ rfl) rfl ?_
      refine zw_ld (n := 1) (k := 1) (f := zp_isI) (pc' := 41) rfl rfl l1 rfl rfl ?_
      refine zw_ia (q := 98) (pc' := 42) W rfl rfl (by decide) (⟨by omega, by show _ < ((8 : Nat) : Int); omega⟩) rfl rfl ?_
      refine zw_imul (pc' := 43) rfl rfl ?_
      refine zw_ia (q := 74) (pc' := 44) W rfl rfl (by decide) (⟨by omega, by show _ < ((32 : Nat) : Int); omega⟩) rfl rfl ?_
      refine zw_ld (n := 1) (k := 0) (f := zp_isR) (pc' := 45) rfl rfl l0 rfl rfl ?_
      refine zw_gI (q := 72) (pc' := 48) W rfl rfl rfl rfl rfl rfl ?_
      refine zw_ld (n := 1) (k := 0) (f := zp_isR) (pc' := 49) rfl rfl l0 rfl rfl ?_
      refine zw_gI (q := 72) (pc' := 52) W rfl rfl rfl rfl rfl rfl ?_
      obtain ⟨K, v, c1, c2, c3, c4⟩ := z0t_near (L := L) (σ := σ) (d := d) (z := H.2.1 72 10) hB s0 sc
      have k98 := zx_ae c3 98 (fun _ => rfl) rfl rfl
      refine zw_c (pc' := 55) (zw_cv (q := 72) (Y := zm_240) W.1 rfl rfl zm_240_t rfl rfl) rfl rfl rfl rfl rfl (c1) ?_
      refine zw_st (n := 1) (k := 2) (f := zp_isI) (pc' := 56) rfl rfl rfl rfl rfl ?_
      refine zw_s (pc' := 57) rfl rfl ?_
      refine zw_st (n := 1) (k := 3) (f := zp_isI) (pc' := 58) rfl rfl rfl rfl rfl ?_
      exact z0t_irL hk hrow 8 K _ _ _ c2 c3 k98 (zw_gt (zw_gt l0 rfl rfl) rfl rfl) (zw_gt (zw_gt l1 rfl rfl) rfl rfl) (zw_gt zw_g1 rfl rfl) zw_g1 c4 (by decide) (by show (xk.toInt - 0).toNat ≤ 8; omega)
    · have e1 : (x2 + Int32.ofInt 1).toInt = x2.toInt + 1 := zw_p1 (by omega)
      refine zw_ld (n := 1) (k := 0) (f := zp_isR) (pc' := 8) rfl rfl l0 rfl rfl ?_
      refine zw_gR (q := 72) (pc' := 11) W rfl rfl rfl rfl (W.2 72 76 _ rfl) rfl ?_
      refine zw_ld (n := 1) (k := 2) (f := zp_isI) (pc' := 12) rfl rfl l2 rfl rfl ?_
      refine zw_ia (q := 98) (pc' := 13) W rfl rfl (by decide) (⟨by omega, by show _ < ((8 : Nat) : Int); omega⟩) rfl rfl ?_
      refine zw_ld (n := 1) (k := 0) (f := zp_isR) (pc' := 14) rfl rfl l0 rfl rfl ?_
      refine zw_gR (q := 72) (pc' := 17) W rfl rfl rfl rfl (W.2 72 76 _ rfl) rfl ?_
      refine zw_ld (n := 1) (k := 1) (f := zp_isI) (pc' := 18) rfl rfl l1 rfl rfl ?_
      refine zw_ia (q := 98) (pc' := 19) W rfl rfl (by decide) (⟨by omega, by show _ < ((8 : Nat) : Int); omega⟩) rfl rfl ?_
      refine zw_bne2 (g := 24) (pc' := 22) rfl rfl rfl rfl rfl (fun hc => ?_) (fun hc => ?_)
      · refine zw_ii (pc' := 27) rfl l2 rfl rfl ?_
        refine zw_s (pc' := 2) rfl rfl ?_
        exact ih _ _ (zw_gt l0 rfl rfl) (zw_gt l1 rfl rfl) zw_g1 (by omega) (by omega)
      · refine zw_s (pc' := 23) rfl rfl ?_
        refine zw_rz rfl rfl (by decide) ?_
        exact ⟨H, _, rfl, hB, zk_Fr_r H, Or.inl rfl⟩
theorem z0t_isRead {L : Nat} {σ : Nat → Int32} {d : Nat} {H : zp_H} {xk : Int32} (hB : zk_Bs z0R zg zJ H) (hk : 0 ≤ xk.toInt ∧ xk.toInt ≤ 7) (hrow : ∀ j : Nat, (j : Int) ≤ xk.toInt → 0 ≤ (H.2.1 98 j).toInt ∧ (H.2.1 98 j).toInt ≤ 7) : ∃ X, zp_Call L σ (d + 4) 239 [.inr (.inr (some 73)), .inl xk] H X ∧ z0t_iP H X := by
  refine zw_met zm_239_t rfl rfl ?_
  refine zw_s (pc' := 1) rfl rfl ?_
  refine zw_st (n := 1) (k := 2) (f := zp_isI) (pc' := 2) rfl rfl rfl rfl rfl ?_
  exact z0t_irA hB hk hrow 8 _ _ (zw_gt rfl rfl rfl) (zw_gt rfl rfl rfl) zw_g1 (by decide) (by show (xk.toInt - 0).toNat ≤ 8; omega)
