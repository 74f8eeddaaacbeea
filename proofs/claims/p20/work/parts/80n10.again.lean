section
/-! ===== the reference once more, without the condition on what it reads (printed from the parts above) ===== -/
theorem z0rt_n : zk_chk z0R zR_fz [] [] 5000 zr_n = true := by decide +kernel
theorem z0t_near {L : Nat} {σ : Nat → Int32} {d : Nat} {H : zp_H} {x y z : Int32} (h : zk_Bs z0R zg zJ H) (hx : 0 ≤ x.toInt ∧ x.toInt ≤ 63) (hy : 0 ≤ y.toInt ∧ y.toInt ≤ 63) : ∃ H1 v, zp_Call L σ (d + 3) 240 [.inr (.inr (some 73)), .inl x, .inl y, .inl z] H (.inl (some (.inl v)), H1) ∧ zk_Bs z0R zg zJ H1 ∧ zk_Fr zg [] [] H H1 ∧ (v = 0 ∨ v = 1) := by
  have hct : zk_Ct L σ z0R zg zJ zr_n := zk_chk_ok z0R_W (fun _ h => absurd h List.not_mem_nil) z0rt_n
  obtain ⟨X, x1, x2, x3, o, o1, o2, o3, o4⟩ := hct (d + 3) (Nat.le_add_left 3 d) [.inr (.inr (some 73)), .inl x, .inl y, .inl z] H ⟨rfl, hx, hy, zl_full z, trivial⟩ h (fun f hf => absurd hf List.not_mem_nil)
  rcases List.mem_cons.mp o1 with rfl | o1
  · obtain ⟨X1, X2⟩ := X
    obtain ⟨v, e, hv⟩ := zk_rv_i o2
    have e : X1 = .inl (some (.inl v)) := e
    subst e
    have hv : 0 ≤ v.toInt ∧ v.toInt ≤ 1 := hv
    refine ⟨X2, v, x1, x2, x3, ?_⟩
    by_cases h0 : v.toInt = 0
    · exact Or.inl (Int32.toInt_inj.mp h0)
    · exact Or.inr (Int32.toInt_inj.mp (by show v.toInt = 1; omega))
  · exact absurd o1 List.not_mem_nil
def z0t_iP (H0 : zp_H) (X : zp_X) : Prop := ∃ H1 v, X = (.inl (some (.inl v)), H1) ∧ zk_Bs z0R zg zJ H1 ∧ zk_Fr zg [] [] H0 H1 ∧ (v = 0 ∨ v = 1)
theorem z0t_irL {L : Nat} {σ : Nat → Int32} {d : Nat} {H0 : zp_H} {row : Nat → Int32} {xk : Int32} (hk : 0 ≤ xk.toInt ∧ xk.toInt ≤ 7) (hrow : ∀ j : Nat, (j : Int) ≤ xk.toInt → 0 ≤ (row j).toInt ∧ (row j).toInt ≤ 7) : ∀ (n : Nat) (H : zp_H) (lv : zp_LV) (x2 x3 : Int32), zk_Bs z0R zg zJ H → zk_Fr zg [] [] H0 H → H.2.1 98 = row → zp_get lv 0 = some (.inr (.inr (some 73))) → zp_get lv 1 = some (.inl xk) → zp_get lv 2 = some (.inl x2) → zp_get lv 3 = some (.inl x3) → (x2 = 0 ∨ x2 = 1) → 0 ≤ x3.toInt → (xk.toInt - x3.toInt).toNat ≤ n → zs_Safe L σ (z0t_iP H0) zm_239 [] (d + 3) (58, lv, [], H, (0, 0)) := by
  intro n
  induction n with
  | zero =>
    intro H lv x2 x3 hB hF hrw l0 l1 l2 l3 h2 h3 hn
    have W := zR_Wd (z0R_dn hB)
    refine zw_ld (n := 1) (k := 3) (f := zp_isI) (pc' := 59) rfl rfl l3 rfl rfl ?_
    refine zw_ld (n := 1) (k := 1) (f := zp_isI) (pc' := 60) rfl rfl l1 rfl rfl ?_
    refine zw_bge2 (g := 114) (pc' := 63) rfl rfl rfl rfl rfl (fun hb => ?_) (fun hb => ?_)
    · refine zw_ld (n := 1) (k := 2) (f := zp_isI) (pc' := 115) rfl rfl l2 rfl rfl ?_
      refine zw_rz rfl rfl (h2) ?_
      exact ⟨H, x2, rfl, hB, hF, h2⟩
    · omega
  | succ n ih =>
    intro H lv x2 x3 hB hF hrw l0 l1 l2 l3 h2 h3 hn
    have W := zR_Wd (z0R_dn hB)
    refine zw_ld (n := 1) (k := 3) (f := zp_isI) (pc' := 59) rfl rfl l3 rfl rfl ?_
    refine zw_ld (n := 1) (k := 1) (f := zp_isI) (pc' := 60) rfl rfl l1 rfl rfl ?_
    refine zw_bge2 (g := 114) (pc' := 63) rfl rfl rfl rfl rfl (fun hb => ?_) (fun hb => ?_)
    · refine zw_ld (n := 1) (k := 2) (f := zp_isI) (pc' := 115) rfl rfl l2 rfl rfl ?_
      refine zw_rz rfl rfl (h2) ?_
      exact ⟨H, x2, rfl, hB, hF, h2⟩
    · have e1 : (x3 + Int32.ofInt 1).toInt = x3.toInt + 1 := zw_p1 (by omega)
      have rk := hrow xk.toInt.toNat (by omega)
      have r3 := hrow x3.toInt.toNat (by omega)
      rw [← hrw] at rk r3
      have a5 : (Int32.ofInt 4 * H.2.1 98 xk.toInt.toNat).toInt = 4 * (H.2.1 98 xk.toInt.toNat).toInt := zt_mul (by decide) (by omega)
      have c5 : (Int32.ofInt 4 * H.2.1 98 xk.toInt.toNat).toInt.toNat = 4 * (H.2.1 98 xk.toInt.toNat).toInt.toNat := by omega
      have s0 := zt_s0 (z0T_dn hB) (k := (H.2.1 98 xk.toInt.toNat).toInt.toNat) (by omega)
      have n0 := zt_en (z0T_dn hB) (k := (H.2.1 98 x3.toInt.toNat).toInt.toNat) (by omega)
      rw [← c5] at s0
      refine zw_ld (n := 1) (k := 2) (f := zp_isI) (pc' := 64) rfl rfl l2 rfl rfl ?_
      refine zw_bne1 (g := 102) (pc' := 67) rfl rfl rfl rfl (fun hc => ?_) (fun hc => ?_)
      · refine zw_s (pc' := 103) rfl rfl ?_
        refine zw_s (pc' := 107) rfl rfl ?_
        refine zw_st (n := 1) (k := 2) (f := zp_isI) (pc' := 108) rfl rfl rfl rfl rfl ?_
        refine zw_ii (pc' := 111) rfl (zw_gt l3 rfl rfl) rfl rfl ?_
        refine zw_s (pc' := 58) rfl rfl ?_
        exact ih H _ _ _ hB hF hrw (zw_gt (zw_gt l0 rfl rfl) rfl rfl) (zw_gt (zw_gt l1 rfl rfl) rfl rfl) (zw_gt zw_g1 rfl rfl) zw_g1 (Or.inr rfl) (by omega) (by omega)
      · refine zw_ld (n := 1) (k := 0) (f := zp_isR) (pc' := 68) rfl rfl l0 rfl rfl ?_
        refine zw_ld (n := 1) (k := 0) (f := zp_isR) (pc' := 69) rfl rfl l0 rfl rfl ?_
        refine zw_gR (q := 72) (pc' := 72) W rfl rfl rfl rfl (W.2 72 14 _ rfl) rfl ?_
        refine zw_s (pc' := 73) rfl rfl ?_
        refine zw_ld (n := 1) (k := 0) (f := zp_isR) (pc' := 74) rfl rfl l0 rfl rfl ?_
        refine zw_gR (q := 72) (pc' := 77) W rfl rfl rfl rfl (W.2 72 76 _ rfl) rfl ?_
        refine zw_ld (n := 1) (k := 1) (f := zp_isI) (pc' := 78) rfl rfl l1 rfl rfl ?_
        refine zw_ia (q := 98) (pc' := 79) W rfl rfl (by decide) (⟨by omega, by show _ < ((8 : Nat) : Int); omega⟩) rfl rfl ?_
        refine zw_imul (pc' := 80) rfl rfl ?_
        refine zw_ia (q := 74) (pc' := 81) W rfl rfl (by decide) (⟨by omega, by show _ < ((32 : Nat) : Int); omega⟩) rfl rfl ?_
        refine zw_ld (n := 1) (k := 0) (f := zp_isR) (pc' := 82) rfl rfl l0 rfl rfl ?_
        refine zw_gR (q := 72) (pc' := 85) W rfl rfl rfl rfl (W.2 72 77 _ rfl) rfl ?_
        refine zw_ld (n := 1) (k := 0) (f := zp_isR) (pc' := 86) rfl rfl l0 rfl rfl ?_
        refine zw_gR (q := 72) (pc' := 89) W rfl rfl rfl rfl (W.2 72 76 _ rfl) rfl ?_
        refine zw_ld (n := 1) (k := 3) (f := zp_isI) (pc' := 90) rfl rfl l3 rfl rfl ?_
        refine zw_ia (q := 98) (pc' := 91) W rfl rfl (by decide) (⟨by omega, by show _ < ((8 : Nat) : Int); omega⟩) rfl rfl ?_
        refine zw_ia (q := 99) (pc' := 92) W rfl rfl (by decide) (⟨by omega, by show _ < ((8 : Nat) : Int); omega⟩) rfl rfl ?_
        refine zw_ld (n := 1) (k := 0) (f := zp_isR) (pc' := 93) rfl rfl l0 rfl rfl ?_
        refine zw_gI (q := 72) (pc' := 96) W rfl rfl rfl rfl rfl rfl ?_
        obtain ⟨K, v, c1, c2, c3, c4⟩ := z0t_near (L := L) (σ := σ) (d := d) (z := H.2.1 72 10) hB s0 n0
        have WK := zR_Wd (z0R_dn c2)
        have k98 := zx_ae c3 98 (fun _ => rfl) rfl rfl
        refine zw_c (pc' := 99) (zw_cv (q := 72) (Y := zm_240) W.1 rfl rfl zm_240_t rfl rfl) rfl rfl rfl rfl rfl (c1) ?_
        refine zw_beq1 (g := 106) (pc' := 102) rfl rfl rfl rfl (fun hd => ?_) (fun hd => ?_)
        · refine zw_s (pc' := 107) rfl rfl ?_
          refine zw_st (n := 1) (k := 2) (f := zp_isI) (pc' := 108) rfl rfl rfl rfl rfl ?_
          refine zw_ii (pc' := 111) rfl (zw_gt l3 rfl rfl) rfl rfl ?_
          refine zw_s (pc' := 58) rfl rfl ?_
          exact ih K _ _ _ c2 (zk_Fr_t hF c3) (by rw [k98]; exact hrw) (zw_gt (zw_gt l0 rfl rfl) rfl rfl) (zw_gt (zw_gt l1 rfl rfl) rfl rfl) (zw_gt zw_g1 rfl rfl) zw_g1 (Or.inl rfl) (by omega) (by omega)
        · refine zw_s (pc' := 103) rfl rfl ?_
          refine zw_s (pc' := 107) rfl rfl ?_
          refine zw_st (n := 1) (k := 2) (f := zp_isI) (pc' := 108) rfl rfl rfl rfl rfl ?_
          refine zw_ii (pc' := 111) rfl (zw_gt l3 rfl rfl) rfl rfl ?_
          refine zw_s (pc' := 58) rfl rfl ?_
          exact ih K _ _ _ c2 (zk_Fr_t hF c3) (by rw [k98]; exact hrw) (zw_gt (zw_gt l0 rfl rfl) rfl rfl) (zw_gt (zw_gt l1 rfl rfl) rfl rfl) (zw_gt zw_g1 rfl rfl) zw_g1 (Or.inr rfl) (by omega) (by omega)
theorem z0t_irA {L : Nat} {σ : Nat → Int32} {d : Nat} {H : zp_H} {xk : Int32} (hB : zk_Bs z0R zg zJ H) (hk : 0 ≤ xk.toInt ∧ xk.toInt ≤ 7) (hrow : ∀ j : Nat, (j : Int) ≤ xk.toInt → 0 ≤ (H.2.1 98 j).toInt ∧ (H.2.1 98 j).toInt ≤ 7) : ∀ (n : Nat) (lv : zp_LV) (x2 : Int32), zp_get lv 0 = some (.inr (.inr (some 73))) → zp_get lv 1 = some (.inl xk) → zp_get lv 2 = some (.inl x2) → 0 ≤ x2.toInt → (xk.toInt - x2.toInt).toNat ≤ n → zs_Safe L σ (z0t_iP H) zm_239 [] (d + 3) (2, lv, [], H, (0, 0)) := by
  intro n
  induction n with
  | zero =>
    intro lv x2 l0 l1 l2 h2 hn
    have W := zR_Wd (z0R_dn hB)
    have rk := hrow xk.toInt.toNat (by omega)
    have a5 : (Int32.ofInt 4 * H.2.1 98 xk.toInt.toNat).toInt = 4 * (H.2.1 98 xk.toInt.toNat).toInt := zt_mul (by decide) (by omega)
    have c5 : (Int32.ofInt 4 * H.2.1 98 xk.toInt.toNat).toInt.toNat = 4 * (H.2.1 98 xk.toInt.toNat).toInt.toNat := by omega
    have s0 := zt_s0 (z0T_dn hB) (k := (H.2.1 98 xk.toInt.toNat).toInt.toNat) (by omega)
    rw [← c5] at s0
    have sc := zR_fr1 (z0R_dn hB) (k := 9) (r := (0, 63)) rfl rfl
    refine zw_ld (n := 1) (k := 2) (f := zp_isI) (pc' := 3) rfl rfl l2 rfl rfl ?_
    refine zw_ld (n := 1) (k := 1) (f := zp_isI) (pc' := 4) rfl rfl l1 rfl rfl ?_
    refine zw_bge2 (g := 30) (pc' := 7) rfl rfl rfl rfl rfl (fun hb => ?_) (fun hb => ?_)
    · refine zw_ld (n := 1) (k := 0) (f := zp_isR) (pc' := 31) rfl rfl l0 rfl rfl ?_
      refine zw_ld (n := 1) (k := 0) (f := zp_isR) (pc' := 32) rfl rfl l0 rfl rfl ?_
      refine zw_gR (q := 72) (pc' := 35) W rfl rfl rfl rfl (W.2 72 14 _ rfl) rfl ?_
      refine zw_s (pc' := 36) rfl rfl ?_
      refine zw_ld (n := 1) (k := 0) (f := zp_isR) (pc' := 37) rfl rfl l0 rfl rfl ?_
      refine zw_gR (q := 72) (pc' := 40) W rfl rfl rfl rfl (W.2 72 76 _ rfl) rfl ?_
      refine zw_ld (n := 1) (k := 1) (f := zp_isI) (pc' := 41) rfl rfl l1 rfl rfl ?_
      refine zw_ia (q := 98) (pc' := 42) W rfl rfl (by decide) (⟨by omega, by show _ < ((8 : Nat) : Int); omega⟩) rfl rfl ?_
      refine zw_imul (pc' := 43) rfl rfl ?_
      refine zw_ia (q := 74) (pc' := 44) W rfl rfl (by decide) (⟨by omega, by show _ < ((32 : Nat) : Int); omega⟩) rfl rfl ?_
      refine zw_ld (n := 1) (k := 0) (f := zp_isR) (pc' := 45) rfl rfl l0 rfl rfl ?_
      refine zw_gI (q := 72) (pc' := 48) W rfl rfl rfl rfl rfl rfl ?_
      refine zw_ld (n := 1) (k := 0) (f := zp_isR) (pc' := 49) rfl rfl l0 rfl rfl ?_
      refine zw_gI (q := 72) (pc' := 52) W rfl rfl rfl rfl rfl rfl ?_
      obtain ⟨K, v, c1, c2, c3, c4⟩ := z0t_near (L := L) (σ := σ) (d := d) (z := H.2.1 72 10) hB s0 sc
      have k98 := zx_ae c3 98 (fun _ => rfl) rfl rfl
      refine zw_c (pc' := 55) (zw_cv (q := 72) (Y := zm_240) W.1 rfl rfl zm_240_t rfl rfl) rfl rfl rfl rfl rfl (c1) ?_
      refine zw_st (n := 1) (k := 2) (f := zp_isI) (pc' := 56) rfl rfl rfl rfl rfl ?_
      refine zw_s (pc' := 57) rfl rfl ?_
      refine zw_st (n := 1) (k := 3) (f := zp_isI) (pc' := 58) rfl rfl rfl rfl rfl ?_
      exact z0t_irL hk hrow 8 K _ _ _ c2 c3 k98 (zw_gt (zw_gt l0 rfl rfl) rfl rfl) (zw_gt (zw_gt l1 rfl rfl) rfl rfl) (zw_gt zw_g1 rfl rfl) zw_g1 c4 (by decide) (by show (xk.toInt - 0).toNat ≤ 8; omega)
    · omega
  | succ n ih =>
    intro lv x2 l0 l1 l2 h2 hn
    have W := zR_Wd (z0R_dn hB)
    have rk := hrow xk.toInt.toNat (by omega)
    have a5 : (Int32.ofInt 4 * H.2.1 98 xk.toInt.toNat).toInt = 4 * (H.2.1 98 xk.toInt.toNat).toInt := zt_mul (by decide) (by omega)
    have c5 : (Int32.ofInt 4 * H.2.1 98 xk.toInt.toNat).toInt.toNat = 4 * (H.2.1 98 xk.toInt.toNat).toInt.toNat := by omega
    have s0 := zt_s0 (z0T_dn hB) (k := (H.2.1 98 xk.toInt.toNat).toInt.toNat) (by omega)
    rw [← c5] at s0
    have sc := zR_fr1 (z0R_dn hB) (k := 9) (r := (0, 63)) rfl rfl
    refine zw_ld (n := 1) (k := 2) (f := zp_isI) (pc' := 3) rfl rfl l2 rfl rfl ?_
    refine zw_ld (n := 1) (k := 1) (f := zp_isI) (pc' := 4) rfl rfl l1 rfl rfl ?_
    refine zw_bge2 (g := 30) (pc' := 7) rfl rfl rfl rfl rfl (fun hb => ?_) (fun hb => ?_)
    · refine zw_ld (n := 1) (k := 0) (f := zp_isR) (pc' := 31) rfl rfl l0 rfl rfl ?_
      refine zw_ld (n := 1) (k := 0) (f := zp_isR) (pc' := 32) rfl rfl l0 rfl rfl ?_
      refine zw_gR (q := 72) (pc' := 35) W rfl rfl rfl rfl (W.2 72 14 _ rfl) rfl ?_
      refine zw_s (pc' := 36) rfl rfl ?_
      refine zw_ld (n := 1) (k := 0) (f := zp_isR) (pc' := 37) rfl rfl l0 rfl rfl ?_
      refine zw_gR (q := 72) (pc' := 40) W rfl rfl rfl rfl (W.2 72 76 _ rfl) rfl ?_
      refine zw_ld (n := 1) (k := 1) (f := zp_isI) (pc' := 41) rfl rfl l1 rfl rfl ?_
      refine zw_ia (q := 98) (pc' := 42) W rfl rfl (by decide) (⟨by omega, by show _ < ((8 : Nat) : Int); omega⟩) rfl rfl ?_
      refine zw_imul (pc' := 43) rfl rfl ?_
      refine zw_ia (q := 74) (pc' := 44) W rfl rfl (by decide) (⟨by omega, by show _ < ((32 : Nat) : Int); omega⟩) rfl rfl ?_
      refine zw_ld (n := 1) (k := 0) (f := zp_isR) (pc' := 45) rfl rfl l0 rfl rfl ?_
      refine zw_gI (q := 72) (pc' := 48) W rfl rfl rfl rfl rfl rfl ?_
      refine zw_ld (n := 1) (k := 0) (f := zp_isR) (pc' := 49) rfl rfl l0 rfl rfl ?_
      refine zw_gI (q := 72) (pc' := 52) W rfl rfl rfl rfl rfl rfl ?_
      obtain ⟨K, v, c1, c2, c3, c4⟩ := z0t_near (L := L) (σ := σ) (d := d) (z := H.2.1 72 10) hB s0 sc
      have k98 := zx_ae c3 98 (fun _ => rfl) rfl rfl
      refine zw_c (pc' := 55) (zw_cv (q := 72) (Y := zm_240) W.1 rfl rfl zm_240_t rfl rfl) rfl rfl rfl rfl rfl (c1) ?_
      refine zw_st (n := 1) (k := 2) (f := zp_isI) (pc' := 56) rfl rfl rfl rfl rfl ?_
      refine zw_s (pc' := 57) rfl rfl ?_
      refine zw_st (n := 1) (k := 3) (f := zp_isI) (pc' := 58) rfl rfl rfl rfl rfl ?_
      exact z0t_irL hk hrow 8 K _ _ _ c2 c3 k98 (zw_gt (zw_gt l0 rfl rfl) rfl rfl) (zw_gt (zw_gt l1 rfl rfl) rfl rfl) (zw_gt zw_g1 rfl rfl) zw_g1 c4 (by decide) (by show (xk.toInt - 0).toNat ≤ 8; omega)
    · have e1 : (x2 + Int32.ofInt 1).toInt = x2.toInt + 1 := zw_p1 (by omega)
      refine zw_ld (n := 1) (k := 0) (f := zp_isR) (pc' := 8) rfl rfl l0 rfl rfl ?_
      refine zw_gR (q := 72) (pc' := 11) W rfl rfl rfl rfl (W.2 72 76 _ rfl) rfl ?_
      refine zw_ld (n := 1) (k := 2) (f := zp_isI) (pc' := 12) rfl rfl l2 rfl rfl ?_
      refine zw_ia (q := 98) (pc' := 13) W rfl rfl (by decide) (⟨by omega, by show _ < ((8 : Nat) : Int); omega⟩) rfl rfl ?_
      refine zw_ld (n := 1) (k := 0) (f := zp_isR) (pc' := 14) rfl rfl l0 rfl rfl ?_
      refine zw_gR (q := 72) (pc' := 17) W rfl rfl rfl rfl (W.2 72 76 _ rfl) rfl ?_
      refine zw_ld (n := 1) (k := 1) (f := zp_isI) (pc' := 18) rfl rfl l1 rfl rfl ?_
      refine zw_ia (q := 98) (pc' := 19) W rfl rfl (by decide) (⟨by omega, by show _ < ((8 : Nat) : Int); omega⟩) rfl rfl ?_
      refine zw_bne2 (g := 24) (pc' := 22) rfl rfl rfl rfl rfl (fun hc => ?_) (fun hc => ?_)
      · refine zw_ii (pc' := 27) rfl l2 rfl rfl ?_
        refine zw_s (pc' := 2) rfl rfl ?_
        exact ih _ _ (zw_gt l0 rfl rfl) (zw_gt l1 rfl rfl) zw_g1 (by omega) (by omega)
      · refine zw_s (pc' := 23) rfl rfl ?_
        refine zw_rz rfl rfl (by decide) ?_
        exact ⟨H, _, rfl, hB, zk_Fr_r H, Or.inl rfl⟩
theorem z0t_isRead {L : Nat} {σ : Nat → Int32} {d : Nat} {H : zp_H} {xk : Int32} (hB : zk_Bs z0R zg zJ H) (hk : 0 ≤ xk.toInt ∧ xk.toInt ≤ 7) (hrow : ∀ j : Nat, (j : Int) ≤ xk.toInt → 0 ≤ (H.2.1 98 j).toInt ∧ (H.2.1 98 j).toInt ≤ 7) : ∃ X, zp_Call L σ (d + 4) 239 [.inr (.inr (some 73)), .inl xk] H X ∧ z0t_iP H X := by
  refine zw_met zm_239_t rfl rfl ?_
  refine zw_s (pc' := 1) rfl rfl ?_
  refine zw_st (n := 1) (k := 2) (f := zp_isI) (pc' := 2) rfl rfl rfl rfl rfl ?_
  exact z0t_irA hB hk hrow 8 _ _ (zw_gt rfl rfl rfl) (zw_gt rfl rfl rfl) zw_g1 (by decide) (by show (xk.toInt - 0).toNat ≤ 8; omega)
end
section
/-! ===== the reference once more, without the condition on what it reads (printed from the parts above) ===== -/
theorem z0ro_e6 {L : Nat} {σ : Nat → Int32} : zk_Ct L σ z0R zg zJ zr_e6 := zk_chk_ok z0R_W (fun _ h => absurd h List.not_mem_nil) z0rt_e6
theorem z0ro_e7 {L : Nat} {σ : Nat → Int32} : zk_Ct L σ z0R zg zJ zr_e7 := zk_chk_ok z0R_W (List.forall_mem_cons.mpr ⟨z0ro_e6, fun _ h => absurd h List.not_mem_nil⟩) z0rt_e7
theorem z0ro_e8 {L : Nat} {σ : Nat → Int32} : zk_Ct L σ z0R zg zJ zr_e8 := zk_chk_ok z0R_W (List.forall_mem_cons.mpr ⟨z0ro_e7, fun _ h => absurd h List.not_mem_nil⟩) z0rt_e8
theorem z0ro_e14 {L : Nat} {σ : Nat → Int32} : zk_Ct L σ z0R zg zJ zr_e14 := zk_chk_ok z0R_W (List.forall_mem_cons.mpr ⟨z0ro_e8, fun _ h => absurd h List.not_mem_nil⟩) z0rt_e14
theorem z0ro_e15 {L : Nat} {σ : Nat → Int32} : zk_Ct L σ z0R zg zJ zr_e15 := zk_chk_ok z0R_W (List.forall_mem_cons.mpr ⟨z0rc_h4, List.forall_mem_cons.mpr ⟨z0ro_e14, List.forall_mem_cons.mpr ⟨z0ro_e7, fun _ h => absurd h List.not_mem_nil⟩⟩⟩) z0rt_e15
theorem z0t_pilots {L : Nat} {σ : Nat → Int32} {d : Nat} {H : zp_H} {x y : Int32} (h : zk_Bs z0R zg zJ H) (hx : 0 ≤ x.toInt ∧ x.toInt ≤ 3) : ∃ H1, zp_Call L σ (d + 9) 230 [.inr (.inr (some 73)), .inl x, .inl y] H (.inl none, H1) ∧ zk_Bs z0R zg zJ H1 ∧ zk_Fr zg zs_SM [97] H H1 := by
  have hct : zk_Ct L σ z0R zg zJ zr_e15 := z0ro_e15
  obtain ⟨X, x1, x2, x3, o, o1, o2, o3, o4⟩ := hct (d + 9) (Nat.le_add_left 9 d) [.inr (.inr (some 73)), .inl x, .inl y] H ⟨rfl, hx, zl_full y, trivial⟩ h (fun f hf => absurd hf List.not_mem_nil)
  rcases List.mem_cons.mp o1 with rfl | o1
  · obtain ⟨X1, X2⟩ := X
    have e : X1 = .inl none := zk_rv_n o2
    subst e
    exact ⟨X2, x1, x2, x3⟩
  · exact absurd o1 List.not_mem_nil
/-- what holds at the head -/
def z0s_I (H0 H : zp_H) (k m : Int) : Prop := zk_Bs z0R zg zJ H ∧ zk_Fr zg zs_SM [97, 98] H0 H ∧ (-1 ≤ k ∧ k ≤ m) ∧ (∀ j : Nat, (j : Int) < k → 0 ≤ (H.2.1 98 j).toInt ∧ (H.2.1 98 j).toInt < (H.2.1 72 5).toInt) ∧ (0 ≤ k → k < m → -1 ≤ (H.2.1 98 k.toNat).toInt ∧ (H.2.1 98 k.toNat).toInt < (H.2.1 72 5).toInt)
/-- row is written -/
theorem z0s_w {H : zp_H} {j : Nat} {x : Int32} (hB : zk_Bs z0R zg zJ H) (hx : -1 ≤ x.toInt ∧ x.toInt ≤ 8) : zk_Bs z0R zg zJ (zw_I H 98 j (zp_nar 0 x)) := by
  have b1 := zR_puta (p := 98) (j := j) (x := zp_nar 0 x) (t := 0) (n := 8) (z0R_dn hB) rfl (fun r hr => by
    have hr : [((-1 : Int), (8 : Int))][j % 1]? = some r := hr
    rw [Nat.mod_one] at hr
    cases hr
    exact hx) (zJ_I rfl hB.2.2.2.2.2.2.2)
  exact z0R_up b1 (fun h9 => z0R_cn (H := H) hB h9)
def z0t_iQ (H0 : zp_H) (X : zp_X) : Prop := ∃ H1 v, X = (.inl (some (.inl v)), H1) ∧ zk_Bs z0R zg zJ H1 ∧ zk_Fr zg zs_SM [97, 98] H0 H1 ∧ (v = Int32.ofInt 0 ∨ v = Int32.ofInt 1)
theorem z0s_set {L : Nat} {σ : Nat → Int32} {d : Nat} {H0 H : zp_H} {xp xm xk : Int32} (W : zw_W H) (hm : xm.toInt ≤ 8) (hk : ∀ (lv : zp_LV) (x4 : Int32), zp_get lv 0 = some (.inr (.inr (some 73))) → zp_get lv 1 = some (.inl xp) → zp_get lv 2 = some (.inl xm) → zp_get lv 3 = some (.inl xk) → zp_get lv 4 = some (.inl x4) → zs_Safe L σ (z0t_iQ H0) zm_238 [] (d + 9) (50, lv, [], H, (0, 0))) : ∀ (n : Nat) (lv : zp_LV) (x4 x5 : Int32), zp_get lv 0 = some (.inr (.inr (some 73))) → zp_get lv 1 = some (.inl xp) → zp_get lv 2 = some (.inl xm) → zp_get lv 3 = some (.inl xk) → zp_get lv 4 = some (.inl x4) → zp_get lv 5 = some (.inl x5) → 0 ≤ x5.toInt → (xm.toInt - x5.toInt).toNat ≤ n → zs_Safe L σ (z0t_iQ H0) zm_238 [] (d + 9) (24, lv, [], H, (0, 0)) := by
  intro n
  induction n with
  | zero =>
    intro lv x4 x5 l0 l1 l2 l3 l4 l5 h5 hn
    refine zw_ld (n := 2) (k := 5) (f := zp_isI) (pc' := 26) rfl rfl l5 rfl rfl ?_
    refine zw_ld (n := 1) (k := 2) (f := zp_isI) (pc' := 27) rfl rfl l2 rfl rfl ?_
    refine zw_bge2 (g := 50) (pc' := 30) rfl rfl rfl rfl rfl (fun hb => ?_) (fun hb => ?_)
    · exact hk lv x4 l0 l1 l2 l3 l4
    · omega
  | succ n ih =>
    intro lv x4 x5 l0 l1 l2 l3 l4 l5 h5 hn
    refine zw_ld (n := 2) (k := 5) (f := zp_isI) (pc' := 26) rfl rfl l5 rfl rfl ?_
    refine zw_ld (n := 1) (k := 2) (f := zp_isI) (pc' := 27) rfl rfl l2 rfl rfl ?_
    refine zw_bge2 (g := 50) (pc' := 30) rfl rfl rfl rfl rfl (fun hb => ?_) (fun hb => ?_)
    · exact hk lv x4 l0 l1 l2 l3 l4
    · have e1 : (x5 + Int32.ofInt 1).toInt = x5.toInt + 1 := zw_p1 (by omega)
      refine zw_ld (n := 2) (k := 4) (f := zp_isI) (pc' := 32) rfl rfl l4 rfl rfl ?_
      refine zw_s (pc' := 33) rfl rfl ?_
      refine zw_ld (n := 1) (k := 0) (f := zp_isR) (pc' := 34) rfl rfl l0 rfl rfl ?_
      refine zw_gR (q := 72) (pc' := 37) W rfl rfl rfl rfl (W.2 72 76 _ rfl) rfl ?_
      refine zw_ld (n := 2) (k := 5) (f := zp_isI) (pc' := 39) rfl rfl l5 rfl rfl ?_
      refine zw_ia (q := 98) (pc' := 40) W rfl rfl (by decide) (⟨by omega, by show _ < ((8 : Nat) : Int); omega⟩) rfl rfl ?_
      refine zw_ishl (pc' := 41) rfl rfl ?_
      refine zw_ior (pc' := 42) rfl rfl ?_
      refine zw_st (n := 2) (k := 4) (f := zp_isI) (pc' := 44) rfl rfl rfl rfl rfl ?_
      refine zw_ii (pc' := 47) rfl (zw_gt l5 rfl rfl) rfl rfl ?_
      refine zw_s (pc' := 24) rfl rfl ?_
      exact ih _ _ _ (zw_gt (zw_gt l0 rfl rfl) rfl rfl) (zw_gt (zw_gt l1 rfl rfl) rfl rfl) (zw_gt (zw_gt l2 rfl rfl) rfl rfl) (zw_gt (zw_gt l3 rfl rfl) rfl rfl) (zw_gt zw_g1 rfl rfl) zw_g1 (by omega) (by omega)
theorem z0s_inn {L : Nat} {σ : Nat → Int32} {d : Nat} {H0 : zp_H} {lv : zp_LV} {row0 : Nat → Int32} {S r0 : Int} {xk : Int32} (hk7 : 0 ≤ xk.toInt ∧ xk.toInt ≤ 7) (l0 : zp_get lv 0 = some (.inr (.inr (some 73)))) (l3 : zp_get lv 3 = some (.inl xk)) (hk : ∀ H : zp_H, zk_Bs z0R zg zJ H → zk_Fr zg zs_SM [97, 98] H0 H → (H.2.1 72 5).toInt = S → (∀ j : Nat, (j : Int) < xk.toInt → H.2.1 98 j = row0 j ∧ 0 ≤ (H.2.1 98 j).toInt ∧ (H.2.1 98 j).toInt < (H.2.1 72 5).toInt) → r0 < (H.2.1 98 xk.toInt.toNat).toInt ∧ 0 ≤ (H.2.1 98 xk.toInt.toNat).toInt ∧ (H.2.1 98 xk.toInt.toNat).toInt ≤ (H.2.1 72 5).toInt → zs_Safe L σ (z0t_iQ H0) zm_238 [] (d + 9) (117, lv, [], H, (0, 0))) : ∀ (n : Nat) (H : zp_H), zk_Bs z0R zg zJ H → zk_Fr zg zs_SM [97, 98] H0 H → (H.2.1 72 5).toInt = S → (∀ j : Nat, (j : Int) < xk.toInt → H.2.1 98 j = row0 j ∧ 0 ≤ (H.2.1 98 j).toInt ∧ (H.2.1 98 j).toInt < (H.2.1 72 5).toInt) → r0 < (H.2.1 98 xk.toInt.toNat).toInt ∧ 0 ≤ (H.2.1 98 xk.toInt.toNat).toInt ∧ (H.2.1 98 xk.toInt.toNat).toInt ≤ (H.2.1 72 5).toInt → ((H.2.1 72 5).toInt - (H.2.1 98 xk.toInt.toNat).toInt).toNat ≤ n → zs_Safe L σ (z0t_iQ H0) zm_238 [] (d + 9) (83, lv, [], H, (0, 0)) := by
  intro n
  induction n with
  | zero =>
    intro H hB hF h5 hlow hr hn
    have W := zR_Wd (z0R_dn hB)
    have S8 := zR_fr1 (z0R_dn hB) (k := 5) (r := (0, 8)) rfl rfl
    have S8 : 0 ≤ (H.2.1 72 5).toInt ∧ (H.2.1 72 5).toInt ≤ 8 := S8
    refine zw_ld (n := 1) (k := 0) (f := zp_isR) (pc' := 84) rfl rfl l0 rfl rfl ?_
    refine zw_gR (q := 72) (pc' := 87) W rfl rfl rfl rfl (W.2 72 76 _ rfl) rfl ?_
    refine zw_ld (n := 1) (k := 3) (f := zp_isI) (pc' := 88) rfl rfl l3 rfl rfl ?_
    refine zw_ia (q := 98) (pc' := 89) W rfl rfl (by decide) (⟨by omega, by show _ < ((8 : Nat) : Int); omega⟩) rfl rfl ?_
    refine zw_ld (n := 1) (k := 0) (f := zp_isR) (pc' := 90) rfl rfl l0 rfl rfl ?_
    refine zw_gI (q := 72) (pc' := 93) W rfl rfl rfl rfl rfl rfl ?_
    refine zw_bge2 (g := 117) (pc' := 96) rfl rfl rfl rfl rfl (fun hb => ?_) (fun hb => ?_)
    · exact hk H hB hF h5 hlow hr
    · omega
  | succ n ih =>
    intro H hB hF h5 hlow hr hn
    have W := zR_Wd (z0R_dn hB)
    have S8 := zR_fr1 (z0R_dn hB) (k := 5) (r := (0, 8)) rfl rfl
    have S8 : 0 ≤ (H.2.1 72 5).toInt ∧ (H.2.1 72 5).toInt ≤ 8 := S8
    refine zw_ld (n := 1) (k := 0) (f := zp_isR) (pc' := 84) rfl rfl l0 rfl rfl ?_
    refine zw_gR (q := 72) (pc' := 87) W rfl rfl rfl rfl (W.2 72 76 _ rfl) rfl ?_
    refine zw_ld (n := 1) (k := 3) (f := zp_isI) (pc' := 88) rfl rfl l3 rfl rfl ?_
    refine zw_ia (q := 98) (pc' := 89) W rfl rfl (by decide) (⟨by omega, by show _ < ((8 : Nat) : Int); omega⟩) rfl rfl ?_
    refine zw_ld (n := 1) (k := 0) (f := zp_isR) (pc' := 90) rfl rfl l0 rfl rfl ?_
    refine zw_gI (q := 72) (pc' := 93) W rfl rfl rfl rfl rfl rfl ?_
    refine zw_bge2 (g := 117) (pc' := 96) rfl rfl rfl rfl rfl (fun hb => ?_) (fun hb => ?_)
    · exact hk H hB hF h5 hlow hr
    · obtain ⟨_, c1, K, v, rfl, c2, c3, c4⟩ := z0t_isRead (L := L) (σ := σ) (d := d + 5) (xk := xk) hB (by omega) (fun j hj => by
        by_cases h9 : (j : Int) = xk.toInt
        · rw [show j = xk.toInt.toNat by omega]
          omega
        · have := hlow j (by omega)
          omega)
      have WK := zR_Wd (z0R_dn c2)
      have k98 := zx_ae c3 98 (fun _ => rfl) rfl rfl
      have k5 := zx_fe c3 5 rfl rfl rfl
      have kr : (K.2.1 98 xk.toInt.toNat).toInt = (H.2.1 98 xk.toInt.toNat).toInt := by rw [k98]
      have FK := zk_Fr_t hF (zk_Fr_w (mods := zs_SM) (am := [97, 98]) rfl rfl c3)
      have e1 : (K.2.1 98 xk.toInt.toNat + Int32.ofInt 1).toInt = (K.2.1 98 xk.toInt.toNat).toInt + 1 := zw_p1 (by rw [k98]; omega)
      have hlK : ∀ j : Nat, (j : Int) < xk.toInt → K.2.1 98 j = row0 j ∧ 0 ≤ (K.2.1 98 j).toInt ∧ (K.2.1 98 j).toInt < (K.2.1 72 5).toInt := fun j hj => by rw [k98, k5]; exact hlow j hj
      have hrK : r0 < (K.2.1 98 xk.toInt.toNat).toInt ∧ 0 ≤ (K.2.1 98 xk.toInt.toNat).toInt ∧ (K.2.1 98 xk.toInt.toNat).toInt ≤ (K.2.1 72 5).toInt := by rw [k98, k5]; exact hr
      have bK : (K.2.1 98 xk.toInt.toNat).toInt < (H.2.1 72 5).toInt := by rw [k98]; exact hb
      refine zw_ld (n := 1) (k := 0) (f := zp_isR) (pc' := 97) rfl rfl l0 rfl rfl ?_
      refine zw_ld (n := 1) (k := 3) (f := zp_isI) (pc' := 98) rfl rfl l3 rfl rfl ?_
      refine zw_c (pc' := 101) (zw_cv (q := 72) (Y := zm_239) W.1 rfl rfl zm_239_t rfl rfl) rfl rfl rfl rfl rfl (c1) ?_
      refine zw_bne1 (g := 117) (pc' := 104) rfl rfl rfl rfl (fun hc => ?_) (fun hc => ?_)
      · exact hk K c2 FK (by omega) hlK hrK
      · refine zw_ld (n := 1) (k := 0) (f := zp_isR) (pc' := 105) rfl rfl l0 rfl rfl ?_
        refine zw_gR (q := 72) (pc' := 108) WK rfl rfl rfl rfl (WK.2 72 76 _ rfl) rfl ?_
        refine zw_ld (n := 1) (k := 3) (f := zp_isI) (pc' := 109) rfl rfl l3 rfl rfl ?_
        refine zw_s (pc' := 110) rfl rfl ?_
        refine zw_ia (q := 98) (pc' := 111) WK rfl rfl (by decide) (⟨by omega, by show _ < ((8 : Nat) : Int); omega⟩) rfl rfl ?_
        refine zw_s (pc' := 112) rfl rfl ?_
        refine zw_iadd (pc' := 113) rfl rfl ?_
        refine zw_is (q := 98) (pc' := 114) WK rfl rfl (by decide) (⟨by omega, by show _ < ((8 : Nat) : Int); omega⟩) rfl ?_
        refine zw_s (pc' := 83) rfl rfl ?_
        have f98 : (zw_I K 98 xk.toInt.toNat (zp_nar 0 (K.2.1 98 xk.toInt.toNat + Int32.ofInt 1))).2.1 98 xk.toInt.toNat = K.2.1 98 xk.toInt.toNat + Int32.ofInt 1 := zw_eq
        have f5 : (zw_I K 98 xk.toInt.toNat (zp_nar 0 (K.2.1 98 xk.toInt.toNat + Int32.ofInt 1))).2.1 72 5 = K.2.1 72 5 := zw_ne rfl rfl
        refine ih _ (z0s_w c2 ⟨by omega, by omega⟩) (zk_Fr_I FK rfl rfl) (by rw [f5]; omega) (fun j hj => ?_) (by rw [f98, f5]; omega) (by rw [f98, f5]; omega)
        rw [zs_w98 (by omega), f5]
        exact hlK j hj
end
section
/-! ===== the reference once more, without the condition on what it reads (printed from the parts above) ===== -/
set_option maxRecDepth 4000 in
set_option maxHeartbeats 800000 in
theorem z0s_head {L : Nat} {σ : Nat → Int32} {d : Nat} {H0 : zp_H} {xp xm : Int32} (hp : 0 ≤ xp.toInt ∧ xp.toInt ≤ 3) (hm8 : xm.toInt ≤ 8) : ∀ (n : Nat) (H : zp_H) (lv : zp_LV) (xk : Int32), zs_ms (H.2.1 98) (H.2.1 72 5).toInt xk.toInt xm.toInt = n → z0s_I H0 H xk.toInt xm.toInt → zp_get lv 0 = some (.inr (.inr (some 73))) → zp_get lv 1 = some (.inl xp) → zp_get lv 2 = some (.inl xm) → zp_get lv 3 = some (.inl xk) → zs_Safe L σ (z0t_iQ H0) zm_238 [] (d + 9) (9, lv, [], H, (0, 0)) := by
  intro n
  induction n using Nat.strongRecOn with
  | ind n ih =>
    intro H lv xk hn hI l0 l1 l2 l3
    obtain ⟨hB, hF, hk, hlow, hr⟩ := hI
    have W := zR_Wd (z0R_dn hB)
    have S8 := zR_fr1 (z0R_dn hB) (k := 5) (r := (0, 8)) rfl rfl
    have S8 : 0 ≤ (H.2.1 72 5).toInt ∧ (H.2.1 72 5).toInt ≤ 8 := S8
    obtain ⟨xk1, hk1⟩ : ∃ xk1 : Int32, xk + Int32.ofInt (-1) = xk1 := ⟨_, rfl⟩
    have ek1 : -1 < xk.toInt → xk1.toInt = xk.toInt - 1 := fun h => by
      have h1 : (Int32.ofInt (-1)).toInt = -1 := rfl
      rw [← hk1, zn_add (by omega) (by omega), h1]
      omega
    refine zw_ld (n := 1) (k := 3) (f := zp_isI) (pc' := 10) rfl rfl l3 rfl rfl ?_
    refine zw_blt1 (g := 154) (pc' := 13) rfl rfl rfl rfl (fun h0 => ?_) (fun h0 => ?_)
    · refine zw_s (pc' := 155) rfl rfl ?_
      refine zw_rz rfl rfl (by decide) ?_
      exact ⟨H, _, rfl, hB, hF, Or.inl rfl⟩
    · refine zw_ld (n := 1) (k := 3) (f := zp_isI) (pc' := 14) rfl rfl l3 rfl rfl ?_
      refine zw_ld (n := 1) (k := 2) (f := zp_isI) (pc' := 15) rfl rfl l2 rfl rfl ?_
      refine zw_bne2 (g := 73) (pc' := 18) rfl rfl rfl rfl rfl (fun hm => ?_) (fun hm => ?_)
      · have r := hr h0 (by omega)
        have e1 : (H.2.1 98 xk.toInt.toNat + Int32.ofInt 1).toInt = (H.2.1 98 xk.toInt.toNat).toInt + 1 := zw_p1 (by omega)
        have f98 : (zw_I H 98 xk.toInt.toNat (zp_nar 0 (H.2.1 98 xk.toInt.toNat + Int32.ofInt 1))).2.1 98 xk.toInt.toNat = H.2.1 98 xk.toInt.toNat + Int32.ofInt 1 := zw_eq
        have f5 : (zw_I H 98 xk.toInt.toNat (zp_nar 0 (H.2.1 98 xk.toInt.toNat + Int32.ofInt 1))).2.1 72 5 = H.2.1 72 5 := zw_ne rfl rfl
        refine zw_ld (n := 1) (k := 0) (f := zp_isR) (pc' := 74) rfl rfl l0 rfl rfl ?_
        refine zw_gR (q := 72) (pc' := 77) W rfl rfl rfl rfl (W.2 72 76 _ rfl) rfl ?_
        refine zw_ld (n := 1) (k := 3) (f := zp_isI) (pc' := 78) rfl rfl l3 rfl rfl ?_
        refine zw_s (pc' := 79) rfl rfl ?_
        refine zw_ia (q := 98) (pc' := 80) W rfl rfl (by decide) (⟨by omega, by show _ < ((8 : Nat) : Int); omega⟩) rfl rfl ?_
        refine zw_s (pc' := 81) rfl rfl ?_
        refine zw_iadd (pc' := 82) rfl rfl ?_
        refine zw_is (q := 98) (pc' := 83) W rfl rfl (by decide) (⟨by omega, by show _ < ((8 : Nat) : Int); omega⟩) rfl ?_
        refine z0s_inn (row0 := H.2.1 98) (S := (H.2.1 72 5).toInt) (r0 := (H.2.1 98 xk.toInt.toNat).toInt) ⟨h0, by omega⟩ l0 l3 ?_ 10 _ (z0s_w hB ⟨by omega, by omega⟩) (zk_Fr_I hF rfl rfl) (by rw [f5]) (fun j hj => ?_) (by rw [f98, f5]; omega) (by rw [f98, f5]; omega)
        rotate_left
        · rw [zs_w98 (by omega), f5]
          exact ⟨rfl, hlow j hj⟩
        intro K c2 c3 k5 klow kr
        have WK := zR_Wd (z0R_dn c2)
        have km := zs_mu_c (row := H.2.1 98) (row' := K.2.1 98) (S := (H.2.1 72 5).toInt) (n := xk.toInt.toNat) (fun i hi => (klow i (by omega)).1)
        have hd1 := zs_d1 (S := (H.2.1 72 5).toInt) (S0 := S8.1) (row := H.2.1 98) (row' := K.2.1 98) (k := xk.toInt.toNat) S8.2 (by omega) (fun i hi => (klow i (by omega)).1) (by omega) kr.1
        refine zw_ld (n := 1) (k := 0) (f := zp_isR) (pc' := 118) rfl rfl l0 rfl rfl ?_
        refine zw_gR (q := 72) (pc' := 121) WK rfl rfl rfl rfl (WK.2 72 76 _ rfl) rfl ?_
        refine zw_ld (n := 1) (k := 3) (f := zp_isI) (pc' := 122) rfl rfl l3 rfl rfl ?_
        refine zw_ia (q := 98) (pc' := 123) WK rfl rfl (by decide) (⟨by omega, by show _ < ((8 : Nat) : Int); omega⟩) rfl rfl ?_
        refine zw_ld (n := 1) (k := 0) (f := zp_isR) (pc' := 124) rfl rfl l0 rfl rfl ?_
        refine zw_gI (q := 72) (pc' := 127) WK rfl rfl rfl rfl rfl rfl ?_
        refine zw_blt2 (g := 136) (pc' := 130) rfl rfl rfl rfl rfl (fun hx => ?_) (fun hx => ?_)
        · have e3 : (xk + Int32.ofInt 1).toInt = xk.toInt + 1 := zw_p1 (by omega)
          have e4 : (xk + Int32.ofInt 1).toInt.toNat = xk.toInt.toNat + 1 := by omega
          have hpos : 0 < 11 ^ (7 - xk.toInt.toNat) := Nat.pow_pos (by decide)
          refine zw_ii (pc' := 139) rfl l3 rfl rfl ?_
          refine zw_ld (n := 1) (k := 3) (f := zp_isI) (pc' := 140) rfl rfl zw_g1 rfl rfl ?_
          refine zw_ld (n := 1) (k := 2) (f := zp_isI) (pc' := 141) rfl rfl (zw_gt l2 rfl rfl) rfl rfl ?_
          refine zw_bge2 (g := 9) (pc' := 144) rfl rfl rfl rfl rfl (fun hy => ?_) (fun hy => ?_)
          · refine ih _ ?_ K _ (xk + Int32.ofInt 1) rfl ⟨c2, c3, ⟨by omega, by omega⟩, ?_, fun _ h9 => by omega⟩ (zw_gt l0 rfl rfl) (zw_gt l1 rfl rfl) (zw_gt l2 rfl rfl) zw_g1
            · rw [← hn]
              unfold zs_ms
              rw [k5, if_pos (by omega), if_pos (by omega), if_neg hm, if_neg hm, e4, show (xk.toInt + 1).toNat = xk.toInt.toNat + 1 by omega]
              omega
            · intro j hj
              by_cases h9 : (j : Int) = xk.toInt
              · rw [show j = xk.toInt.toNat by omega]
                omega
              · exact (klow j (by omega)).2
          · refine zw_ld (n := 1) (k := 0) (f := zp_isR) (pc' := 145) rfl rfl (zw_gt l0 rfl rfl) rfl rfl ?_
            refine zw_gR (q := 72) (pc' := 148) WK rfl rfl rfl rfl (WK.2 72 76 _ rfl) rfl ?_
            refine zw_ld (n := 1) (k := 3) (f := zp_isI) (pc' := 149) rfl rfl zw_g1 rfl rfl ?_
            refine zw_s (pc' := 150) rfl rfl ?_
            refine zw_is (q := 98) (pc' := 151) WK rfl rfl (by decide) (⟨by omega, by show _ < ((8 : Nat) : Int); omega⟩) rfl ?_
            refine zw_s (pc' := 9) rfl rfl ?_
            have g98 : ∀ i, i ≠ xk.toInt.toNat + 1 → (zw_I K 98 (xk + Int32.ofInt 1).toInt.toNat (zp_nar 0 (Int32.ofInt (-1)))).2.1 98 i = K.2.1 98 i := fun i hi => zs_w98 (by omega)
            have g98t : (zw_I K 98 (xk + Int32.ofInt 1).toInt.toNat (zp_nar 0 (Int32.ofInt (-1)))).2.1 98 (xk.toInt.toNat + 1) = Int32.ofInt (-1) := by rw [e4]; exact zw_eq
            have g5 : (zw_I K 98 (xk + Int32.ofInt 1).toInt.toNat (zp_nar 0 (Int32.ofInt (-1)))).2.1 72 5 = K.2.1 72 5 := zw_ne rfl rfl
            have m1 : (Int32.ofInt (-1)).toInt = -1 := rfl
            refine ih _ ?_ _ _ (xk + Int32.ofInt 1) rfl ⟨z0s_w c2 (by decide), zk_Fr_I c3 rfl rfl, ⟨by omega, by omega⟩, ?_, ?_⟩ (zw_gt l0 rfl rfl) (zw_gt l1 rfl rfl) (zw_gt l2 rfl rfl) zw_g1
            · rw [← hn]
              unfold zs_ms
              rw [g5, k5, if_neg (by omega), if_neg (by omega), if_neg hm, if_neg hm, show ((xk + Int32.ofInt 1).toInt + 1).toNat = xk.toInt.toNat + 1 + 1 by omega, show (xk.toInt + 1).toNat = xk.toInt.toNat + 1 by omega]
              have h9 : zs_mu ((zw_I K 98 (xk + Int32.ofInt 1).toInt.toNat (zp_nar 0 (Int32.ofInt (-1)))).2.1 98) (H.2.1 72 5).toInt (xk.toInt.toNat + 1 + 1) = zs_mu (K.2.1 98) (H.2.1 72 5).toInt (xk.toInt.toNat + 1) + ((H.2.1 72 5).toInt + 1 - -1).toNat * 11 ^ (7 - (xk.toInt.toNat + 1)) := by
                show zs_mu _ _ (xk.toInt.toNat + 1) + _ = _
                rw [zs_mu_c (row := K.2.1 98) (fun i hi => g98 i (by omega)), g98t, m1]
              have hp7 : 11 ^ (7 - xk.toInt.toNat) = 11 ^ (7 - (xk.toInt.toNat + 1)) * 11 := by
                rw [← Nat.pow_succ]
                congr 1
                omega
              have h8 : ((H.2.1 72 5).toInt + 1 - -1).toNat * 11 ^ (7 - (xk.toInt.toNat + 1)) ≤ 10 * 11 ^ (7 - (xk.toInt.toNat + 1)) := Nat.mul_le_mul_right _ (by omega)
              rw [h9]
              omega
            · intro j hj
              rw [g98 j (by omega), g5]
              by_cases h9 : (j : Int) = xk.toInt
              · rw [show j = xk.toInt.toNat by omega]
                omega
              · exact (klow j (by omega)).2
            · intro h1 h2
              have g2 : (zw_I K 98 (xk + Int32.ofInt 1).toInt.toNat (zp_nar 0 (Int32.ofInt (-1)))).2.1 98 (xk + Int32.ofInt 1).toInt.toNat = Int32.ofInt (-1) := zw_eq
              rw [g2, g5, m1]
              omega
        · refine zw_iiy (pc' := 133) rfl l3 rfl rfl hk1 ?_
          refine zw_s (pc' := 9) rfl rfl ?_
          have e2 := ek1 (by omega)
          refine ih _ ?_ K _ xk1 rfl ⟨c2, c3, ⟨by omega, by omega⟩, ?_, ?_⟩ (zw_gt l0 rfl rfl) (zw_gt l1 rfl rfl) (zw_gt l2 rfl rfl) zw_g1
          · rw [← hn]
            unfold zs_ms
            rw [k5, if_neg (by omega), if_neg (by omega), if_neg hm, if_neg hm, show (xk1.toInt + 1).toNat = xk.toInt.toNat by omega, show (xk.toInt + 1).toNat = xk.toInt.toNat + 1 by omega, km]
            have hpos : 0 < 11 ^ (7 - xk.toInt.toNat) := Nat.pow_pos (by decide)
            have h9 : zs_mu (H.2.1 98) (H.2.1 72 5).toInt (xk.toInt.toNat + 1) = zs_mu (H.2.1 98) (H.2.1 72 5).toInt xk.toInt.toNat + ((H.2.1 72 5).toInt + 1 - (H.2.1 98 xk.toInt.toNat).toInt).toNat * 11 ^ (7 - xk.toInt.toNat) := rfl
            have h8 : 1 * 11 ^ (7 - xk.toInt.toNat) ≤ ((H.2.1 72 5).toInt + 1 - (H.2.1 98 xk.toInt.toNat).toInt).toNat * 11 ^ (7 - xk.toInt.toNat) := Nat.mul_le_mul_right _ (by omega)
            omega
          · intro j hj
            exact (klow j (by omega)).2
          · intro h1 h2
            have := (klow xk1.toInt.toNat (by omega)).2
            omega
      · refine zw_s (pc' := 19) rfl rfl ?_
        refine zw_st (n := 2) (k := 4) (f := zp_isI) (pc' := 21) rfl rfl rfl rfl rfl ?_
        refine zw_s (pc' := 22) rfl rfl ?_
        refine zw_st (n := 2) (k := 5) (f := zp_isI) (pc' := 24) rfl rfl rfl rfl rfl ?_
        refine z0s_set W hm8 ?_ 8 _ _ _ (zw_gt (zw_gt l0 rfl rfl) rfl rfl) (zw_gt (zw_gt l1 rfl rfl) rfl rfl) (zw_gt (zw_gt l2 rfl rfl) rfl rfl) (zw_gt (zw_gt l3 rfl rfl) rfl rfl) (zw_gt zw_g1 rfl rfl) zw_g1 (by decide) (by show (xm.toInt - 0).toNat ≤ 8; omega)
        clear l0 l1 l2 l3
        intro lv x4 l0 l1 l2 l3 l4
        obtain ⟨K, c1, c2, c3⟩ := z0t_pilots (L := L) (σ := σ) (d := d) (y := x4) hB hp
        have WK := zR_Wd (z0R_dn c2)
        have k98 := zx_ae c3 98 (fun _ => rfl) rfl rfl
        have k5 := zx_fe c3 5 rfl rfl rfl
        refine zw_ld (n := 1) (k := 0) (f := zp_isR) (pc' := 51) rfl rfl l0 rfl rfl ?_
        refine zw_ld (n := 1) (k := 1) (f := zp_isI) (pc' := 52) rfl rfl l1 rfl rfl ?_
        refine zw_ld (n := 2) (k := 4) (f := zp_isI) (pc' := 54) rfl rfl l4 rfl rfl ?_
        refine zw_cn (pc' := 57) (zw_cv (q := 72) (Y := zm_230) W.1 rfl rfl zm_230_t rfl rfl) rfl rfl rfl rfl rfl (c1) ?_
        refine zw_ld (n := 1) (k := 0) (f := zp_isR) (pc' := 58) rfl rfl l0 rfl rfl ?_
        refine zw_gI (q := 72) (pc' := 61) WK rfl rfl rfl rfl rfl rfl ?_
        refine zw_s (pc' := 62) rfl rfl ?_
        refine zw_bne2 (g := 67) (pc' := 65) rfl rfl rfl rfl (rfl : _ = (4 : Int)) (fun he => ?_) (fun he => ?_)
        · refine zw_iiy (pc' := 70) rfl l3 rfl rfl hk1 ?_
          refine zw_s (pc' := 9) rfl rfl ?_
          have e1 := ek1 (by omega)
          refine ih _ ?_ K _ xk1 rfl ⟨c2, zk_Fr_t hF (zk_Fr_w rfl rfl c3), ⟨by omega, by omega⟩, ?_, ?_⟩ (zw_gt l0 rfl rfl) (zw_gt l1 rfl rfl) (zw_gt l2 rfl rfl) zw_g1
          · rw [← hn]
            unfold zs_ms
            rw [k98, k5, if_pos hm, if_pos hm, if_neg (by omega), if_neg (by omega), show (xk1.toInt + 1).toNat = xk.toInt.toNat by omega]
            omega
          · intro j hj
            rw [k98, k5]
            exact hlow j (by omega)
          · intro h1 h2
            rw [k98, k5]
            have := hlow xk1.toInt.toNat (by omega)
            omega
        · refine zw_s (pc' := 66) rfl rfl ?_
          refine zw_rz rfl rfl (by decide) ?_
          exact ⟨K, _, rfl, c2, zk_Fr_t hF (zk_Fr_w rfl rfl c3), Or.inr rfl⟩
theorem z0t_studies {L : Nat} {σ : Nat → Int32} {d : Nat} {H : zp_H} {xp xm : Int32} (hB : zk_Bs z0R zg zJ H) (hp : 0 ≤ xp.toInt ∧ xp.toInt ≤ 3) (hm : 0 ≤ xm.toInt ∧ xm.toInt ≤ 8) : ∃ X, zp_Call L σ (d + 10) 238 [.inr (.inr (some 73)), .inl xp, .inl xm] H X ∧ z0t_iQ H X := by
  have W := zR_Wd (z0R_dn hB)
  have S8 := zR_fr1 (z0R_dn hB) (k := 5) (r := (0, 8)) rfl rfl
  have S8 : 0 ≤ (H.2.1 72 5).toInt ∧ (H.2.1 72 5).toInt ≤ 8 := S8
  have m1 : (Int32.ofInt (-1)).toInt = -1 := rfl
  have z0 : (Int32.ofInt 0).toInt = 0 := rfl
  refine zw_met zm_238_t rfl rfl ?_
  refine zw_s (pc' := 1) rfl rfl ?_
  refine zw_st (n := 1) (k := 3) (f := zp_isI) (pc' := 2) rfl rfl rfl rfl rfl ?_
  refine zw_ld (n := 1) (k := 0) (f := zp_isR) (pc' := 3) rfl rfl (zw_gt rfl rfl rfl) rfl rfl ?_
  refine zw_gR (q := 72) (pc' := 6) W rfl rfl rfl rfl (W.2 72 76 _ rfl) rfl ?_
  refine zw_s (pc' := 7) rfl rfl ?_
  refine zw_s (pc' := 8) rfl rfl ?_
  refine zw_is (q := 98) (pc' := 9) W rfl rfl (by decide) (⟨by decide, by decide⟩) rfl ?_
  have g98t : (zw_I H 98 (Int32.ofInt 0).toInt.toNat (zp_nar 0 (Int32.ofInt (-1)))).2.1 98 (Int32.ofInt 0).toInt.toNat = Int32.ofInt (-1) := zw_eq
  have g5 : (zw_I H 98 (Int32.ofInt 0).toInt.toNat (zp_nar 0 (Int32.ofInt (-1)))).2.1 72 5 = H.2.1 72 5 := zw_ne rfl rfl
  refine z0s_head hp hm.2 _ _ _ _ rfl ⟨z0s_w hB (by decide), zk_Fr_I (zk_Fr_r H) rfl rfl, ⟨by decide, by omega⟩, fun j hj => by omega, fun _ _ => ?_⟩ (zw_gt rfl rfl rfl) (zw_gt rfl rfl rfl) (zw_gt rfl rfl rfl) zw_g1
  rw [g98t, g5, m1]
  omega
/-- as the checker takes it -/
theorem z0rc_h5 {L : Nat} {σ : Nat → Int32} : zk_Ct L σ z0R zg zJ zr_h5 := by
  intro d hd as H ha hB hp
  have hd : 24 ≤ d := hd
  obtain ⟨d0, rfl⟩ : ∃ d0, d = d0 + 10 := ⟨d - 10, by omega⟩
  match as, ha with
  | [.inr (.inr r), .inl x, .inl y], ha =>
    obtain ⟨h1, h2, h3, h4⟩ := ha
    have h1 : r = some 73 := h1
    subst h1
    obtain ⟨_, c1, H1, v, rfl, c2, c3, c4⟩ := z0t_studies (L := L) (σ := σ) (d := d0) hB h2 h3
    refine ⟨_, c1, c2, c3, _, List.mem_cons_self, ?_, fun f hf => absurd hf List.not_mem_nil, fun f hf => absurd hf List.not_mem_nil⟩
    rcases c4 with rfl | rfl
    · exact ⟨by decide, by decide⟩
    · exact ⟨by decide, by decide⟩
end
section
/-! ===== the reference once more, without the condition on what it reads (printed from the parts above) ===== -/
theorem z0rc_h6 {L : Nat} {σ : Nat → Int32} : zk_Ct L σ z0R zg zJ zr_h6 := by
  intro d hd as H ha hB hp
  have hd : 1 ≤ d := hd
  obtain ⟨d0, rfl⟩ : ∃ d0, d = d0 + 1 := ⟨d - 1, by omega⟩
  match as, ha with
  | [.inr (.inr r), .inr (.inr r1), .inr (.inr r2)], ha =>
    obtain ⟨h1, h2, h3, h4⟩ := ha
    have h1 : r = some 73 := h1
    have h2 : r1 = some (98 + 1) := h2
    have h3 : r2 = some (100 + 1) := h3
    subst h1 h2 h3
    have W := zR_Wd (z0R_dn hB)
    have c1 := zc_copies (L := L) (σ := σ) (d := d0) (H := H) (q1 := 98) (q2 := 100) (n := 8) W rfl rfl (by decide) (by decide) rfl
    have f : ∀ p k, p ≠ 100 → (zc_k H 98 100 8).2.1 p k = H.2.1 p k := fun p k h => zc_ne h
    refine ⟨_, c1, ?_, zc_F (zk_Fr_r H) rfl rfl, _, List.mem_cons_self, trivial, fun f hf => absurd hf List.not_mem_nil, fun f hf => absurd hf List.not_mem_nil⟩
    have b0 := z0T_dn hB
    have b1 : zk_Bs zR0 zg zT (zc_k H 98 100 8) := by
      refine ⟨b0.1, b0.2.1, fun q hq => absurd hq List.not_mem_nil, fun q hq => absurd hq List.not_mem_nil, fun p j r hr => Or.inr ?_, fun p t m i r hp hi hr => ?_, fun c hc => absurd hc List.not_mem_nil, trivial⟩
      · rcases b0.2.2.2.2.1 p j r hr with ⟨q, q1, _⟩ | h9
        · exact absurd q1 List.not_mem_nil
        have hp72 : p = 72 := by
          cases hb : Nat.beq 72 p with
          | true => exact (za_beq hb).symm
          | false =>
            have hr : zB_l2 zR_fr p j = some r := hr
            unfold zR_fr zB_l2 at hr
            rw [hb] at hr
            cases hr
        subst hp72
        unfold zk_fv at h9 ⊢
        by_cases h1 : (72 : Nat) = 72 ∧ j = 100
        · rw [if_pos h1]
          obtain ⟨_, e2⟩ := h1
          subst e2
          have e : r = (-1, 20) := (Option.some.inj hr).symm
          rw [e]
          exact zg_in _
        · rw [if_neg h1] at h9 ⊢
          rw [f 72 j (by decide)]
          exact h9
      · by_cases h9 : p = 100
        · subst h9
          have hr : [((-2147483648 : Int), (2147483647 : Int))][i % 1]? = some r := hr
          rw [Nat.mod_one] at hr
          cases hr
          exact ⟨Int32.le_toInt _, Int32.toInt_le _⟩
        · rw [f p i h9]
          exact b0.2.2.2.2.2.1 p t m i r hp hi hr
    refine z0T_up b1 (zJ_c (fun p k hf => f p k ?_) hB.2.2.2.2.2.2.2) ?_
    · rintro rfl
      cases hf
    · unfold z0R_cc
      rw [f 72 23 (by decide), f 72 34 (by decide), f 72 35 (by decide)]
      exact z0R_cn hB
/-- all summaries that were shown by hand -/
theorem z0r_all {L : Nat} {σ : Nat → Int32} : ∀ s ∈ zr_l, zk_Ct L σ z0R zg zJ s := by
  unfold zr_l
  exact List.forall_mem_cons.mpr ⟨z0rc_h0, List.forall_mem_cons.mpr ⟨z0rc_h1, List.forall_mem_cons.mpr ⟨z0rc_h2, List.forall_mem_cons.mpr ⟨z0rc_h3, List.forall_mem_cons.mpr ⟨z0rc_h4, List.forall_mem_cons.mpr ⟨z0rc_h5, List.forall_mem_cons.mpr ⟨z0rc_h6, fun _ h => absurd h List.not_mem_nil⟩⟩⟩⟩⟩⟩⟩
end
section
/-! ===== the reference once more, without the condition on what it reads (printed from the parts above) ===== -/
set_option maxRecDepth 8000 in
theorem z0se_no {L : Nat} {σ : Nat → Int32} {d : Nat} {H : zp_H} {x : Int32} (hB : zk_Bs z0R zg zJ H) (hx : ¬ (0 ≤ x.toInt ∧ x.toInt ≤ (H.2.1 72 22).toInt)) : ∃ X, zp_Call L σ (d + 2) 169 [.inr (.inr (some 73)), .inl x] H X ∧ ∃ H1 v, X = (.inl (some (.inl v)), H1) ∧ zk_Bs z0R zg zJ H1 ∧ zf_72 H H1 ∧ (H1.2.1 72 22).toInt = (H.2.1 72 22).toInt := by
  have W := zR_Wd (z0R_dn hB)
  have t1 : (zw_I H 72 0 (Int32.ofInt 0)).2.1 72 0 = Int32.ofInt 0 := zw_eq
  have h0 : ((zw_I H 72 0 (Int32.ofInt 0)).2.1 72 0).toInt = 0 := by rw [t1]; rfl
  refine zw_met zm_169_t rfl rfl ?_
  refine zw_ld (n := 1) (k := 0) (f := zp_isR) (pc' := 1) rfl rfl rfl rfl rfl ?_
  refine zw_s (pc' := 2) rfl rfl ?_
  refine zw_pI (q := 72) (pc' := 5) W rfl rfl rfl rfl rfl rfl ?_
  refine zw_ld (n := 1) (k := 0) (f := zp_isR) (pc' := 6) rfl rfl rfl rfl rfl ?_
  refine zw_ld (n := 1) (k := 1) (f := zp_isI) (pc' := 7) rfl rfl rfl rfl rfl ?_
  refine zw_blt1 (g := 22) (pc' := 10) rfl rfl rfl rfl (fun h1 => ?_) (fun h1 => ?_)
  · refine zw_s (pc' := 23) rfl rfl ?_
    refine zw_s (pc' := 24) rfl rfl ?_
    refine zw_c (pc' := 27) (zw_cv (q := 72) (Y := zm_170) W.1 rfl rfl zm_170_t rfl rfl) rfl rfl rfl rfl rfl (zq_right0 (H := zw_I H 72 0 (Int32.ofInt 0)) W h0 (by decide)) ?_
    refine zw_bne1 (g := 32) (pc' := 30) rfl rfl rfl (rfl : _ = (0 : Int)) (fun h9 => absurd h9 (by decide)) (fun hb => ?_)
    refine zw_s (pc' := 31) rfl rfl ?_
    refine zw_ri rfl rfl ?_
    exact ⟨_, _, rfl, z0t_thr (z0t_thr hB), zf_I (zf_I (zf_r H) rfl) rfl, congrArg Int32.toInt (zw_ne (zw_ne rfl rfl) rfl)⟩
  · refine zw_ld (n := 1) (k := 1) (f := zp_isI) (pc' := 11) rfl rfl rfl rfl rfl ?_
    refine zw_ld (n := 1) (k := 0) (f := zp_isR) (pc' := 12) rfl rfl rfl rfl rfl ?_
    refine zw_gI (q := 72) (pc' := 15) W rfl rfl rfl rfl (zw_ne rfl rfl) rfl ?_
    refine zw_bgt2 (g := 22) (pc' := 18) rfl rfl rfl rfl rfl (fun h2 => ?_) (fun h2 => ?_)
    · refine zw_s (pc' := 23) rfl rfl ?_
      refine zw_s (pc' := 24) rfl rfl ?_
      refine zw_c (pc' := 27) (zw_cv (q := 72) (Y := zm_170) W.1 rfl rfl zm_170_t rfl rfl) rfl rfl rfl rfl rfl (zq_right0 (H := zw_I H 72 0 (Int32.ofInt 0)) W h0 (by decide)) ?_
      refine zw_bne1 (g := 32) (pc' := 30) rfl rfl rfl (rfl : _ = (0 : Int)) (fun h9 => absurd h9 (by decide)) (fun hb => ?_)
      refine zw_s (pc' := 31) rfl rfl ?_
      refine zw_ri rfl rfl ?_
      exact ⟨_, _, rfl, z0t_thr (z0t_thr hB), zf_I (zf_I (zf_r H) rfl) rfl, congrArg Int32.toInt (zw_ne (zw_ne rfl rfl) rfl)⟩
    · exact absurd ⟨h1, h2⟩ hx
end
section
/-! ===== the reference once more, without the condition on what it reads (printed from the parts above) ===== -/
theorem z0rt_fd : (List.range 36).all (fun c => zk_chk z0R zR_fz [] [] 3000 (zr_fd c)) = true := by decide +kernel
theorem z0ro_fd {L : Nat} {σ : Nat → Int32} {c : Nat} (hc : c < 36) : zk_Ct L σ z0R zg zJ (zr_fd c) := zk_chk_ok z0R_W (fun _ h => absurd h List.not_mem_nil) (List.all_eq_true.mp z0rt_fd c (List.mem_range.mpr hc))
end
section
/-! ===== the class's world: the ways of the waters stay within the sea ===== -/
/-- is this bit set? as the program asks -/
def zq_b (g : Int64) (c : Int32) : Int := (lg_cmp (za_ushr0 g c &&& Int64.ofNat 1) (Int64.ofNat 0)).toInt
def zq_n (k : Nat) (c w : Int) : Int := match k with
  | 0 => c - w
  | 1 => c + 1
  | 2 => c + w
  | _ => c - 1
/-- the leftmost cells of the rows -/
def zq_lp (w : Int32) : Nat → Int32 → Int64 → Int64
  | 0, _, u => u
  | n + 1, y, u => zq_lp w n (y + Int32.ofInt 1) (u ||| za_shl0 (Int64.ofNat 1) (w * y))
def zq_all (w h : Int32) : Int64 := za_ushr0 (Int64.ofInt (-1)) (Int32.ofInt 64 - w * h)
def zq_o (w h : Int32) (col : Int64) (k : Nat) : Int64 := match k with
  | 0 => zq_all w h &&& za_shl0 (zq_all w h) w
  | 1 => zq_all w h &&& (za_shl0 col (w - Int32.ofInt 1) ^^^ Int64.ofInt (-1))
  | 2 => za_ushr0 (zq_all w h) w
  | _ => zq_all w h &&& (col ^^^ Int64.ofInt (-1))
def zq_col (w h : Int32) : Int64 := zq_lp w h.toInt.toNat (Int32.ofInt 0) (Int64.ofNat 0)
def zQ (p a : Nat) (H : zp_H) : Prop := (∀ (k : Nat) (c : Int32), k < 4 → 0 ≤ c.toInt → c.toInt ≤ 63 → zq_b (H.2.2.1 a k) c ≠ 0 → 0 ≤ zq_n k c.toInt (H.2.1 p 0).toInt ∧ zq_n k c.toInt (H.2.1 p 0).toInt ≤ 63) ∧ ∀ k, k < 4 → H.2.2.1 a k = zq_o (H.2.1 p 0) (H.2.1 p 1) (zq_col (H.2.1 p 0) (H.2.1 p 1)) k
def zJc (H : zp_H) : Prop := zQ 2 3 H ∧ zQ 22 23 H
theorem zQ_c {p a : Nat} {H H' : zp_H} (h0 : H'.2.1 p 0 = H.2.1 p 0) (h1 : H'.2.1 p 1 = H.2.1 p 1) (ha : ∀ k, H'.2.2.1 a k = H.2.2.1 a k) (h : zQ p a H) : zQ p a H' := by
  refine ⟨fun k c k1 k2 k3 => ?_, fun k hk => ?_⟩
  · rw [h0, ha k]
    exact h.1 k c k1 k2 k3
  · rw [h0, h1, ha k]
    exact h.2 k hk
theorem zJc_c {H H' : zp_H} (h : ∀ p k, zB_fz p k = true → H'.2.1 p k = H.2.1 p k ∧ H'.2.2.1 p k = H.2.2.1 p k) (hJ : zJc H) : zJc H' := ⟨zQ_c (h 2 0 rfl).1 (h 2 1 rfl).1 (fun k => (h 3 k rfl).2) hJ.1, zQ_c (h 22 0 rfl).1 (h 22 1 rfl).1 (fun k => (h 23 k rfl).2) hJ.2⟩
theorem zB_l2_m {α : Type} {p k : Nat} {r : α} : ∀ {l : List (Nat × List (Nat × α))}, zB_l2 l p k = some r → ∃ q ∈ l, q.1 = p
  | [], h => by cases h
  | q :: l, h => by
    unfold zB_l2 at h
    cases hb : Nat.beq q.1 p with
    | true => exact ⟨q, List.mem_cons_self, za_beq hb⟩
    | false =>
      rw [hb] at h
      obtain ⟨q', h1, h2⟩ := zB_l2_m h
      exact ⟨q', List.mem_cons_of_mem _ h1, h2⟩
theorem zR_o_t {p : Nat} (h : zR_o p = true) : ∃ ci, zB_sh[p]? = some (.inl ci) := by
  unfold zR_o at h
  split at h
  · rename_i ci hc
    exact ⟨ci, hc⟩
  · cases h
theorem zB_fr_o {p k : Nat} {r : Int × Int} (h : zB_l2 zB_fr p k = some r) : ∃ ci, zB_sh[p]? = some (.inl ci) := by
  obtain ⟨q, h1, h2⟩ := zB_l2_m h
  have h3 : zB_fr.all (fun q => zR_o q.1) = true := by decide +kernel
  have h4 := List.all_eq_true.mp h3 q h1
  rw [h2] at h4
  exact zR_o_t h4
theorem zg_k {H H' : zp_H} (h : ∀ p k, zB_gk p k = true → H'.2.1 p k = H.2.1 p k ∧ H'.2.2.1 p k = H.2.2.1 p k) : zg H' = zg H := by
  have a1 := (h 72 28 rfl).1
  have a2 := (h 72 30 rfl).1
  have a3 := (h 72 33 rfl).2
  unfold zg
  rw [a1, a2, a3]
theorem zB_W : zk_W zB zg zJc zB_fz := by
  refine ⟨fun H H' _ h hJ => zJc_c h hJ, fun H H' h => zg_k h, ?_, ?_, ?_, ?_, ?_, ⟨12, rfl⟩⟩
  · intro H r hr
    have hr : (none : Option (Int × Int)) = some r := hr
    cases hr
  · intro p k r hr
    exact zB_fr_o hr
  · intro c hc
    have hc : c ∈ zB_cd := hc
    unfold zB_cd at hc
    rcases List.mem_cons.mp hc with rfl | hc
    · exact ⟨⟨9, rfl⟩, by decide, by decide⟩
    · exact absurd hc List.not_mem_nil
  · intro p k h
    have h : (Nat.beq p 72).and _ = true := h
    have e := za_beq (Bool.and_eq_true_iff.mp h).1
    subst e
    exact ⟨12, rfl⟩
  · intro p k t n hp
    have hp : zB_sh[p]? = some (.inr (t, n)) := hp
    unfold zB_fz
    have hk : ∀ k, zk_inm zB_fl p k = false := by
      intro k
      cases hb : zk_inm zB_fl p k with
      | false => rfl
      | true =>
        obtain ⟨q, q1, q2⟩ := List.any_eq_true.mp hb
        have q3 := za_beq (Bool.and_eq_true_iff.mp q2).1
        have h3 : zB_fl.all (fun q => zR_o q.1) = true := by decide +kernel
        have h4 := List.all_eq_true.mp h3 q q1
        obtain ⟨ci, h5⟩ := zR_o_t h4
        rw [q3, hp] at h5
        cases h5
    rw [hk k, hk 0]
/-! what always holds, without the condition -/
def zB0 : zk_B := (zB_sh, zB_l2 zB_rf, zB_l2 zB_fr, zB_al zB_ar, [], zB_gk)
theorem zB_dn {H : zp_H} (h : zk_Bs zB zg zJc H) : zk_Bs zB0 zg zJc H := ⟨h.1, h.2.1, h.2.2.1, h.2.2.2.1, h.2.2.2.2.1, h.2.2.2.2.2.1, fun c hc => absurd hc List.not_mem_nil, h.2.2.2.2.2.2.2⟩
theorem zB_up {H : zp_H} (h : zk_Bs zB0 zg zJc H) (hc : (H.2.1 52 4).toInt = 3 → 0 ≤ (H.2.1 52 5).toInt ∧ (H.2.1 52 5).toInt ≤ 21) : zk_Bs zB zg zJc H := by
  refine ⟨h.1, h.2.1, h.2.2.1, h.2.2.2.1, h.2.2.2.2.1, h.2.2.2.2.2.1, fun c hm => Or.inr ?_, h.2.2.2.2.2.2.2⟩
  have hm : c ∈ zB_cd := hm
  unfold zB_cd at hm
  rcases List.mem_cons.mp hm with rfl | hm
  · exact fun h9 => hc h9
  · exact absurd hm List.not_mem_nil
theorem zB_cn {H : zp_H} (h : zk_Bs zB zg zJc H) : (H.2.1 52 4).toInt = 3 → 0 ≤ (H.2.1 52 5).toInt ∧ (H.2.1 52 5).toInt ≤ 21 := by
  intro h9
  have a := h.2.2.2.2.2.2.1 (52, 4, 3, 5, 0, 21) List.mem_cons_self
  rcases a with ⟨q, q1, _⟩ | a
  · exact absurd q1 List.not_mem_nil
  exact a h9
theorem zB_fr1 {H : zp_H} (h : zk_Bs zB0 zg zJc H) {p k : Nat} {r : Int × Int} (hr : zB_l2 zB_fr p k = some r) : r.1 ≤ (H.2.1 p k).toInt ∧ (H.2.1 p k).toInt ≤ r.2 := by
  rcases h.2.2.2.2.1 p k r hr with ⟨q, q1, _⟩ | h9
  · exact absurd q1 List.not_mem_nil
  · have e : zk_fv zg H p k = (H.2.1 p k).toInt := by
      unfold zk_fv
      rw [if_neg]
      rintro ⟨rfl, rfl⟩
      cases hr
    rw [e] at h9
    exact h9
theorem zB_ar1 {H : zp_H} (h : zk_Bs zB0 zg zJc H) {p t n i : Nat} {r : Int × Int} (hp : zB_sh[p]? = some (.inr (t, n))) (hi : i < n) (hr : (zB_al zB_ar p).2[i % (zB_al zB_ar p).1]? = some r) : r.1 ≤ (H.2.1 p i).toInt ∧ (H.2.1 p i).toInt ≤ r.2 := h.2.2.2.2.2.1 p t n i r hp hi hr
/-- a number is written into a field -/
theorem zB_putf {H : zp_H} (h : zk_Bs zB0 zg zJc H) {p k : Nat} {x : Int32} (ho : zR_o p = true) (hr : ∀ r, zB_l2 zB_fr p k = some r → r.1 ≤ x.toInt ∧ x.toInt ≤ r.2) (hJ : zJc (zw_I H p k x)) : zk_Bs zB0 zg zJc (zw_I H p k x) := by
  refine ⟨h.1, h.2.1, fun q hq => absurd hq List.not_mem_nil, fun q hq => absurd hq List.not_mem_nil, fun p' j r hr' => Or.inr ?_, fun p' t n i r hp hi hr' => ?_, fun c hc => absurd hc List.not_mem_nil, hJ⟩
  · have h9 := zB_fr1 h hr'
    have e0 : zk_fv zg (zw_I H p k x) p' j = ((zw_I H p k x).2.1 p' j).toInt := by
      unfold zk_fv
      rw [if_neg]
      rintro ⟨rfl, rfl⟩
      cases hr'
    rw [e0]
    by_cases h2 : p' = p ∧ j = k
    · obtain ⟨e1, e2⟩ := h2
      subst e1 e2
      rw [zw_eq]
      exact hr r hr'
    · have e : (zw_I H p k x).2.1 p' j = H.2.1 p' j := zp_u_ne h2
      rw [e]
      exact h9
  · have e : (zw_I H p k x).2.1 p' i = H.2.1 p' i := zp_u_ne (fun h9 => by
      have hp : zB_sh[p']? = some (.inr (t, n)) := hp
      obtain ⟨ci, h5⟩ := zR_o_t ho
      rw [h9.1, h5] at hp
      cases hp)
    rw [e]
    exact h.2.2.2.2.2.1 p' t n i r hp hi hr'
/-- a long is written -/
theorem zB_putl {H : zp_H} (h : zk_Bs zB0 zg zJc H) {p k : Nat} {u : Int64} (hJ : zJc (zw_J H p k u)) : zk_Bs zB0 zg zJc (zw_J H p k u) := by
  refine ⟨h.1, h.2.1, fun q hq => absurd hq List.not_mem_nil, fun q hq => absurd hq List.not_mem_nil, fun p' j r hr' => Or.inr ?_, h.2.2.2.2.2.1, fun c hc => absurd hc List.not_mem_nil, hJ⟩
  have h9 := zB_fr1 h hr'
  have e0 : zk_fv zg (zw_J H p k u) p' j = (H.2.1 p' j).toInt := by
    unfold zk_fv
    rw [if_neg]
    · rfl
    rintro ⟨rfl, rfl⟩
    cases hr'
  rw [e0]
  exact h9
theorem zJc_I {H : zp_H} {p j : Nat} {x : Int32} (hf : zB_fz p j = false) (h : zJc H) : zJc (zw_I H p j x) := by
  refine zJc_c (fun q k hq => ⟨zp_u_ne (fun h9 => ?_), rfl⟩) h
  rw [h9.1, h9.2, hf] at hq
  cases hq
theorem zB_Wd {H : zp_H} (h : zk_Bs zB0 zg zJc H) : zw_W H := ⟨h.1, h.2.1⟩
theorem zk_Fr_J {mods : List (Nat × Nat)} {am : List Nat} {H0 H : zp_H} {p k : Nat} {u : Int64} (h : zk_Fr zg mods am H0 H) (hm : (zk_inm mods p k).or (zk_ina am p) = true) (hg : zB_gk p k = false) : zk_Fr zg mods am H0 (zw_J H p k u) := by
  refine ⟨h.1, fun q j h1 h2 => ?_⟩
  have hne : ¬ (q = p ∧ j = k) := by
    rintro ⟨rfl, rfl⟩
    rw [h1, h2] at hm
    cases hm
  refine ⟨?_, (zp_u_ne hne).trans (h.2 q j h1 h2).2⟩
  rw [← (h.2 q j h1 h2).1]
  unfold zk_fv
  by_cases h9 : q = 72 ∧ j = 100
  · rw [if_pos h9, if_pos h9]
    refine zg_k (fun p' k' h' => ⟨rfl, zp_u_ne ?_⟩)
    rintro ⟨rfl, rfl⟩
    rw [hg] at h'
    cases h'
  · rw [if_neg h9, if_neg h9]
    rfl
section WX
variable {L : Nat} {σ : Nat → Int32} {P : zp_X → Prop} {M Y : za_MI} {fs : List zs_F} {d : Nat} {pc pc' : Nat} {lv lv' : zp_LV} {st st' : List zp_V} {H H1 : zp_H} {c : Nat × Nat} {x y : Int32} {u v : Int64} {a b : Int} {i : Instr}
theorem zw_csx {k j n : Nat} {z : Int} (hi : za_fe (za_is M) pc = some (.invokestatic k)) (hr : za_CP (za_cl M) k = some (12, j, n, z)) (hY : za_MT j = some Y) : za_fe (za_is M) pc = some (.invokestatic k) ∧ zp_cl (za_CP (za_cl M)) (.invokestatic k) st (H, c) = some (true, j, n, Y) := by
  refine ⟨hi, ?_⟩
  show (match za_CP (za_cl M) k with
    | some (2, j, n, _) => match za_MT j with
      | some Y => some (false, j, n, Y)
      | none => none
    | some (12, j, n, _) => match za_MT j with
      | some Y => some (true, j, n, Y)
      | none => none
    | _ => none) = _
  rw [hr]
  show (match za_MT j with
      | some Y => some (true, j, n, Y)
      | none => none) = _
  rw [hY]
theorem zw_cvx {k j n q : Nat} {z : Int} (W : H.1 = zB_sh) (hi : za_fe (za_is M) pc = some (.invokevirtual k)) (hr : za_CP (za_cl M) k = some (11, j, n, z)) (hY : za_MT j = some Y) (hq : st[n]? = some (.inr (.inr (some (q + 1))))) (hs : zB_sh[q]? = some (.inl (za_cl Y))) : za_fe (za_is M) pc = some (.invokevirtual k) ∧ zp_cl (za_CP (za_cl M)) (.invokevirtual k) st (H, c) = some (true, j, n + 1, Y) := by
  refine ⟨hi, ?_⟩
  have e : zp_isRk st n H (za_cl Y) = true := by
    unfold zp_isRk
    rw [hq]
    show (match H.1[q]? with
      | some (.inl ci) => Nat.beq ci (za_cl Y)
      | _ => false) = true
    rw [W, hs]
    exact Nat.beq_refl _
  show (match za_CP (za_cl M) k with
    | some (1, j, n, _) => match za_MT j with
      | some Y => bif zp_isRk st n H (za_cl Y) then some (false, j, n + 1, Y) else none
      | none => none
    | some (11, j, n, _) => match za_MT j with
      | some Y => bif zp_isRk st n H (za_cl Y) then some (true, j, n + 1, Y) else none
      | none => none
    | _ => none) = _
  rw [hr]
  show (match za_MT j with
      | some Y => bif zp_isRk st n H (za_cl Y) then some (true, j, n + 1, Y) else none
      | none => none) = _
  rw [hY]
  show (bif zp_isRk st n H (za_cl Y) then some (true, j, n + 1, Y) else none) = _
  rw [e]
  rfl
/-- it returns a value, and never throws -/
theorem zw_cx {k j : Nat} {as : List zp_V} {w : zp_V} (h : za_fe (za_is M) pc = some i ∧ zp_cl (za_CP (za_cl M)) i st (H, c) = some (true, j, k, Y)) (hp : zw_pb M Y k st c = true) (ha : (st.take k).reverse = as) (hst : st.drop k = st') (hc : (c.1 + za_mc Y, c.2 + za_ms Y) = c) (hpc : pc + 3 = pc') (hC : zp_Call L σ d j as H (.inl (some w), H1)) (hS : zs_Safe L σ P M fs d (pc', lv, w :: st', H1, c)) : zs_Safe L σ P M fs d (pc, lv, st, H, c) := by
  subst ha hst hpc
  refine zs_sum (S := (pc, lv, st, H, c)) h.1 h.2 (zw_pb_ok hp) hC (fun _ => trivial) (Or.inl ⟨(pc + 3, lv, w :: st.drop k, H1, c), ?_, hS⟩)
  show some (Sum.inl (pc + 3, lv, w :: st.drop k, H1, (c.1 + za_mc Y, c.2 + za_ms Y))) = _
  rw [hc]
theorem zw_cnx {k j : Nat} {as : List zp_V} (h : za_fe (za_is M) pc = some i ∧ zp_cl (za_CP (za_cl M)) i st (H, c) = some (true, j, k, Y)) (hp : zw_pb M Y k st c = true) (ha : (st.take k).reverse = as) (hst : st.drop k = st') (hc : (c.1 + za_mc Y, c.2 + za_ms Y) = c) (hpc : pc + 3 = pc') (hC : zp_Call L σ d j as H (.inl none, H1)) (hS : zs_Safe L σ P M fs d (pc', lv, st', H1, c)) : zs_Safe L σ P M fs d (pc, lv, st, H, c) := by
  subst ha hst hpc
  refine zs_sum (S := (pc, lv, st, H, c)) h.1 h.2 (zw_pb_ok hp) hC (fun _ => trivial) (Or.inl ⟨(pc + 3, lv, st.drop k, H1, c), ?_, hS⟩)
  show some (Sum.inl (pc + 3, lv, st.drop k, H1, (c.1 + za_mc Y, c.2 + za_ms Y))) = _
  rw [hc]
/-- a letter of the words that are known -/
theorem zw_ch {k : Nat} {i2 : Fin 4} (hi : za_fe (za_is M) pc = some (.ldc 56)) (hcl : za_cl M = 9) (hwt : Nat.ble (zp_wt st) 8 = true) (h2 : za_fe (za_is M) (pc + 2) = some (.iload_n i2)) (h3 : za_fe (za_is M) (pc + 3) = some (.invokevirtual 63)) (hk : i2.val = k) (hv : zp_get lv k = some (.inl x)) (hx : 0 ≤ x.toInt ∧ x.toInt < 101) (hp : pc + 6 = pc') (hS : zs_Safe L σ P M fs d (pc', lv, .inl (Int32.ofNat (zp_spell.getD x.toInt.toNat 0)) :: st, H, c)) : zs_Safe L σ P M fs d (pc, lv, st, H, c) := by
  refine zs_step (S := (pc, lv, st, H, c)) (S' := (pc', lv, .inl (Int32.ofNat (zp_spell.getD x.toInt.toNat 0)) :: st, H, c)) hi ?_ hS
  show zp_str (za_cl M) 56 (za_is M) pc lv st (H, c) = _
  subst hk
  unfold zp_str
  rw [hcl, hwt, h2, h3]
  show (match (some (Instr.invokevirtual 63) : Option Instr), zp_get lv i2.val with
      | some (.invokevirtual j), some (.inl x) => bif Nat.beq j 63 then if 0 ≤ x.toInt ∧ x.toInt < ((zp_spell.length : Nat) : Int) then zp_go lv (H, c) (pc + 6) (.inl (Int32.ofNat (zp_spell.getD x.toInt.toNat 0)) :: st) else none else none
      | _, _ => none) = _
  rw [hv]
  show (if 0 ≤ x.toInt ∧ x.toInt < ((zp_spell.length : Nat) : Int) then _ else _) = _
  have e : ((zp_spell.length : Nat) : Int) = 101 := rfl
  rw [e, if_pos hx, ← hp]
  rfl
end WX
end
