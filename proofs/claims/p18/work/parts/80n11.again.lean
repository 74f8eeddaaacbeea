/-! ===== the reference once more, without the condition on what it reads (printed from the parts above) ===== -/
theorem z0ro_e6 {L : Nat} {σ : Nat → Int32} : zk_Ct L σ z0R zg zJ zr_e6 := zk_chk_ok z0R_W (fun _ h => absurd h List.not_mem_nil) z0rt_e6
theorem z0ro_e7 {L : Nat} {σ : Nat → Int32} : zk_Ct L σ z0R zg zJ zr_e7 := zk_chk_ok z0R_W (List.forall_mem_cons.mpr ⟨z0ro_e6, fun _ h => absurd h List.not_mem_nil⟩) z0rt_e7
theorem z0ro_e8 {L : Nat} {σ : Nat → Int32} : zk_Ct L σ z0R zg zJ zr_e8 := zk_chk_ok z0R_W (List.forall_mem_cons.mpr ⟨z0ro_e7, fun _ h => absurd h List.not_mem_nil⟩) z0rt_e8
theorem z0ro_e14 {L : Nat} {σ : Nat → Int32} : zk_Ct L σ z0R zg zJ zr_e14 := zk_chk_ok z0R_W (List.forall_mem_cons.mpr ⟨z0ro_e8, fun _ h => absurd h List.not_mem_nil⟩) z0rt_e14
theorem z0ro_e15 {L : Nat} {σ : Nat → Int32} : zk_Ct L σ z0R zg zJ zr_e15 := zk_chk_ok z0R_W (List.forall_mem_cons.mpr ⟨z0rc_h4, List.forall_mem_cons.mpr ⟨z0ro_e14, List.forall_mem_cons.mpr ⟨z0ro_e7, fun _ h => absurd h List.not_mem_nil⟩⟩⟩) z0rt_e15
theorem z0t_pilots {L : Nat} {σ : Nat → Int32} {d : Nat} {H : zp_H} {x y : Int32} (h : zk_Bs z0R zg zJ H) (hx : 0 ≤ x.toInt ∧ x.toInt ≤ 3) : ∃ H1, zp_Call L σ (d + 9) 230 [.inr (.inr (some 73)), .inl x, .inl y] H (.inl none, H1) ∧ zk_Bs z0R zg zJ H1 ∧ zk_Fr zg zs_SM [97] H H1 := by
  have hct : zk_Ct L σ z0R zg zJ zr_e15 := z0ro_e15
  obtain ⟨X, x1, x2, x3, o, o1, o2, o3, o4⟩ := hct (d + 9) (Nat.le_add_left 9 d) [.inr (.inr (some 73)), .inl x, .inl y] H ⟨rfl, hx, zl_full y, trivial⟩ h (fun f hf => absurd hf List.not_mem_nil)
  rcases List.mem_cons.mp o1 with rfl | o1
  · obtain ⟨X1, X2⟩ := X
    have e : X1 = .inl none := zk_rv_n o2
    subst e
    exact ⟨X2, x1, x2, x3⟩
  · exact absurd o1 List.not_mem_nil
/-- what holds at the head -/
def z0s_I (H0 H : zp_H) (k m : Int) : Prop := zk_Bs z0R zg zJ H ∧ zk_Fr zg zs_SM [97, 98] H0 H ∧ (-1 ≤ k ∧ k ≤ m) ∧ (∀ j : Nat, (j : Int) < k → 0 ≤ (H.2.1 98 j).toInt ∧ (H.2.1 98 j).toInt < (H.2.1 72 5).toInt) ∧ (0 ≤ k → k < m → -1 ≤ (H.2.1 98 k.toNat).toInt ∧ (H.2.1 98 k.toNat).toInt < (H.2.1 72 5).toInt)
/-- row is written -/
theorem z0s_w {H : zp_H} {j : Nat} {x : Int32} (hB : zk_Bs z0R zg zJ H) (hx : -1 ≤ x.toInt ∧ x.toInt ≤ 8) : zk_Bs z0R zg zJ (zw_I H 98 j (zp_nar 0 x)) := by
  have b1 := zR_puta (p := 98) (j := j) (x := zp_nar 0 x) (t := 0) (n := 8) (z0R_dn hB) rfl (fun r hr => by
    have hr : [((-1 : Int), (8 : Int))][j % 1]? = some r := hr
    rw [Nat.mod_one] at hr
    cases hr
    exact hx) (zJ_I rfl hB.2.2.2.2.2.2.2)
  exact z0R_up b1 (fun h9 => z0R_cn (H := H) hB h9)
def z0t_iQ (H0 : zp_H) (X : zp_X) : Prop := ∃ H1 v, X = (.inl (some (.inl v)), H1) ∧ zk_Bs z0R zg zJ H1 ∧ zk_Fr zg zs_SM [97, 98] H0 H1 ∧ (v = Int32.ofInt 0 ∨ v = Int32.ofInt 1)
theorem z0s_set {L : Nat} {σ : Nat → Int32} {d : Nat} {H0 H : zp_H} {xp xm xk : Int32} (W : zw_W H) (hm : xm.toInt ≤ 8) (hk : ∀ (lv : zp_LV) (x4 : Int32), zp_get lv 0 = some (.inr (.inr (some 73))) → zp_get lv 1 = some (.inl xp) → zp_get lv 2 = some (.inl xm) → zp_get lv 3 = some (.inl xk) → zp_get lv 4 = some (.inl x4) → zs_Safe L σ (z0t_iQ H0) zm_238 [] (d + 9) (50, lv, [], H, (0, 0))) : ∀ (n : Nat) (lv : zp_LV) (x4 x5 : Int32), zp_get lv 0 = some (.inr (.inr (some 73))) → zp_get lv 1 = some (.inl xp) → zp_get lv 2 = some (.inl xm) → zp_get lv 3 = some (.inl xk) → zp_get lv 4 = some (.inl x4) → zp_get lv 5 = some (.inl x5) → 0 ≤ x5.toInt → (xm.toInt - x5.toInt).toNat ≤ n → zs_Safe L σ (z0t_iQ H0) zm_238 [] (d + 9) (24, lv, [], H, (0, 0)) := by
  intro n
  induction n with
  | zero =>
    intro lv x4 x5 l0 l1 l2 l3 l4 l5 h5 hn
    refine zw_ld (n := 2) (k := 5) (f := zp_isI) (pc' := 26) rfl rfl l5 rfl rfl ?_
    refine zw_ld (n := 1) (k := 2) (f := zp_isI) (pc' := 27) rfl rfl l2 rfl rfl ?_
    refine zw_bge2 (g := 50) (pc' := 30) rfl rfl rfl rfl rfl (fun hb => ?_) (fun hb => ?_)
    · exact hk lv x4 l0 l1 l2 l3 l4
    · omega
  | succ n ih =>
    intro lv x4 x5 l0 l1 l2 l3 l4 l5 h5 hn
    refine zw_ld (n := 2) (k := 5) (f := zp_isI) (pc' := 26) rfl rfl l5 rfl rfl ?_
    refine zw_ld (n := 1) (k := 2) (f := zp_isI) (pc' := 27) rfl rfl l2 rfl rfl ?_
    refine zw_bge2 (g := 50) (pc' := 30) rfl rfl rfl rfl rfl (fun hb => ?_) (fun hb => ?_)
    · exact hk lv x4 l0 l1 l2 l3 l4
    · have e1 : (x5 + Int32.ofInt 1).toInt = x5.toInt + 1 := zw_p1 (by omega)
      refine zw_ld (n := 2) (k := 4) (f := zp_isI) (pc' := 32) rfl rfl l4 rfl rfl ?_
      refine zw_s (pc' := 33) rfl rfl ?_
      refine zw_ld (n := 1) (k := 0) (f := zp_isR) (pc' := 34) rfl rfl l0 rfl rfl ?_
      refine zw_gR (q := 72) (pc' := 37) W rfl rfl rfl rfl (W.2 72 76 _ rfl) rfl ?_
      refine zw_ld (n := 2) (k := 5) (f := zp_isI) (pc' := 39) rfl rfl l5 rfl rfl ?_
      refine zw_ia (q := 98) (pc' := 40) W rfl rfl (by decide) (⟨by omega, by show _ < ((8 : Nat) : Int); omega⟩) rfl rfl ?_
      refine zw_ishl (pc' := 41) rfl rfl ?_
      refine zw_ior (pc' := 42) rfl rfl ?_
      refine zw_st (n := 2) (k := 4) (f := zp_isI) (pc' := 44) rfl rfl rfl rfl rfl ?_
      refine zw_ii (pc' := 47) rfl (zw_gt l5 rfl rfl) rfl rfl ?_
      refine zw_s (pc' := 24) rfl rfl ?_
      exact ih _ _ _ (zw_gt (zw_gt l0 rfl rfl) rfl rfl) (zw_gt (zw_gt l1 rfl rfl) rfl rfl) (zw_gt (zw_gt l2 rfl rfl) rfl rfl) (zw_gt (zw_gt l3 rfl rfl) rfl rfl) (zw_gt zw_g1 rfl rfl) zw_g1 (by omega) (by omega)
theorem z0s_inn {L : Nat} {σ : Nat → Int32} {d : Nat} {H0 : zp_H} {lv : zp_LV} {row0 : Nat → Int32} {S r0 : Int} {xk : Int32} (hk7 : 0 ≤ xk.toInt ∧ xk.toInt ≤ 7) (l0 : zp_get lv 0 = some (.inr (.inr (some 73)))) (l3 : zp_get lv 3 = some (.inl xk)) (hk : ∀ H : zp_H, zk_Bs z0R zg zJ H → zk_Fr zg zs_SM [97, 98] H0 H → (H.2.1 72 5).toInt = S → (∀ j : Nat, (j : Int) < xk.toInt → H.2.1 98 j = row0 j ∧ 0 ≤ (H.2.1 98 j).toInt ∧ (H.2.1 98 j).toInt < (H.2.1 72 5).toInt) → r0 < (H.2.1 98 xk.toInt.toNat).toInt ∧ 0 ≤ (H.2.1 98 xk.toInt.toNat).toInt ∧ (H.2.1 98 xk.toInt.toNat).toInt ≤ (H.2.1 72 5).toInt → zs_Safe L σ (z0t_iQ H0) zm_238 [] (d + 9) (117, lv, [], H, (0, 0))) : ∀ (n : Nat) (H : zp_H), zk_Bs z0R zg zJ H → zk_Fr zg zs_SM [97, 98] H0 H → (H.2.1 72 5).toInt = S → (∀ j : Nat, (j : Int) < xk.toInt → H.2.1 98 j = row0 j ∧ 0 ≤ (H.2.1 98 j).toInt ∧ (H.2.1 98 j).toInt < (H.2.1 72 5).toInt) → r0 < (H.2.1 98 xk.toInt.toNat).toInt ∧ 0 ≤ (H.2.1 98 xk.toInt.toNat).toInt ∧ (H.2.1 98 xk.toInt.toNat).toInt ≤ (H.2.1 72 5).toInt → ((H.2.1 72 5).toInt - (H.2.1 98 xk.toInt.toNat).toInt).toNat ≤ n → zs_Safe L σ (z0t_iQ H0) zm_238 [] (d + 9) (83, lv, [], H, (0, 0)) := by
  intro n
  induction n with
  | zero =>
    intro H hB hF h5 hlow hr hn
    have W := zR_Wd (z0R_dn hB)
    have S8 := zR_fr1 (z0R_dn hB) (k := 5) (r := (0, 8)) rfl rfl
    have S8 : 0 ≤ (H.2.1 72 5).toInt ∧ (H.2.1 72 5).toInt ≤ 8 := S8
    refine zw_ld (n := 1) (k := 0) (f := zp_isR) (pc' := 84) rfl rfl l0 rfl rfl ?_
    refine zw_gR (q := 72) (pc' := 87) W rfl rfl rfl rfl (W.2 72 76 _ rfl) rfl ?_
    refine zw_ld (n := 1) (k := 3) (f := zp_isI) (pc' := 88) rfl rfl l3 rfl rfl ?_
    refine zw_ia (q := 98) (pc' := 89) W rfl rfl (by decide) (⟨by omega, by show _ < ((8 : Nat) : Int); omega⟩) rfl rfl ?_
    refine zw_ld (n := 1) (k := 0) (f := zp_isR) (pc' := 90) rfl rfl l0 rfl rfl ?_
    refine zw_gI (q := 72) (pc' := 93) W rfl rfl rfl rfl rfl rfl ?_
    refine zw_bge2 (g := 117) (pc' := 96) rfl rfl rfl rfl rfl (fun hb => ?_) (fun hb => ?_)
    · exact hk H hB hF h5 hlow hr
    · omega
  | succ n ih =>
    intro H hB hF h5 hlow hr hn
    have W := zR_Wd (z0R_dn hB)
    have S8 := zR_fr1 (z0R_dn hB) (k := 5) (r := (0, 8)) rfl rfl
    have S8 : 0 ≤ (H.2.1 72 5).toInt ∧ (H.2.1 72 5).toInt ≤ 8 := S8
    refine zw_ld (n := 1) (k := 0) (f := zp_isR) (pc' := 84) rfl rfl l0 rfl rfl ?_
    refine zw_gR (q := 72) (pc' := 87) W rfl rfl rfl rfl (W.2 72 76 _ rfl) rfl ?_
    refine zw_ld (n := 1) (k := 3) (f := zp_isI) (pc' := 88) rfl rfl l3 rfl rfl ?_
    refine zw_ia (q := 98) (pc' := 89) W rfl rfl (by decide) (⟨by omega, by show _ < ((8 : Nat) : Int); omega⟩) rfl rfl ?_
    refine zw_ld (n := 1) (k := 0) (f := zp_isR) (pc' := 90) rfl rfl l0 rfl rfl ?_
    refine zw_gI (q := 72) (pc' := 93) W rfl rfl rfl rfl rfl rfl ?_
    refine zw_bge2 (g := 117) (pc' := 96) rfl rfl rfl rfl rfl (fun hb => ?_) (fun hb => ?_)
    · exact hk H hB hF h5 hlow hr
    · obtain ⟨_, c1, K, v, rfl, c2, c3, c4⟩ := z0t_isRead (L := L) (σ := σ) (d := d + 5) (xk := xk) hB (by omega) (fun j hj => by
        by_cases h9 : (j : Int) = xk.toInt
        · rw [show j = xk.toInt.toNat by omega]
          omega
        · have := hlow j (by omega)
          omega)
      have WK := zR_Wd (z0R_dn c2)
      have k98 := zx_ae c3 98 (fun _ => rfl) rfl rfl
      have k5 := zx_fe c3 5 rfl rfl rfl
      have kr : (K.2.1 98 xk.toInt.toNat).toInt = (H.2.1 98 xk.toInt.toNat).toInt := by rw [k98]
      have FK := zk_Fr_t hF (zk_Fr_w (mods := zs_SM) (am := [97, 98]) rfl rfl c3)
      have e1 : (K.2.1 98 xk.toInt.toNat + Int32.ofInt 1).toInt = (K.2.1 98 xk.toInt.toNat).toInt + 1 := zw_p1 (by rw [k98]; omega)
      have hlK : ∀ j : Nat, (j : Int) < xk.toInt → K.2.1 98 j = row0 j ∧ 0 ≤ (K.2.1 98 j).toInt ∧ (K.2.1 98 j).toInt < (K.2.1 72 5).toInt := fun j hj => by rw [k98, k5]; exact hlow j hj
      have hrK : r0 < (K.2.1 98 xk.toInt.toNat).toInt ∧ 0 ≤ (K.2.1 98 xk.toInt.toNat).toInt ∧ (K.2.1 98 xk.toInt.toNat).toInt ≤ (K.2.1 72 5).toInt := by rw [k98, k5]; exact hr
      have bK : (K.2.1 98 xk.toInt.toNat).toInt < (H.2.1 72 5).toInt := by rw [k98]; exact hb
      refine zw_ld (n := 1) (k := 0) (f := zp_isR) (pc' := 97) rfl rfl l0 rfl rfl ?_
      refine zw_ld (n := 1) (k := 3) (f := zp_isI) (pc' := 98) rfl rfl l3 rfl rfl ?_
      refine zw_c (pc' := 101) (zw_cv (q := 72) (Y := zm_239) W.1 rfl rfl zm_239_t rfl rfl) rfl rfl rfl rfl rfl (c1) ?_
      refine zw_bne1 (g := 117) (pc' := 104) rfl rfl rfl rfl (fun hc => ?_) (fun hc => ?_)
      · exact hk K c2 FK (by omega) hlK hrK
      · refine zw_ld (n := 1) (k := 0) (f := zp_isR) (pc' := 105) rfl rfl l0 rfl rfl ?_
        refine zw_gR (q := 72) (pc' := 108) WK rfl rfl rfl rfl (WK.2 72 76 _ rfl) rfl ?_
        refine zw_ld (n := 1) (k := 3) (f := zp_isI) (pc' := 109) rfl rfl l3 rfl rfl ?_
        refine zw_s (pc' := 110) rfl rfl ?_
        refine zw_ia (q := 98) (pc' := 111) WK rfl rfl (by decide) (⟨by omega, by show _ < ((8 : Nat) : Int); omega⟩) rfl rfl ?_
        refine zw_s (pc' := 112) rfl rfl ?_
        refine zw_iadd (pc' := 113) rfl rfl ?_
        refine zw_is (q := 98) (pc' := 114) WK rfl rfl (by decide) (⟨by omega, by show _ < ((8 : Nat) : Int); omega⟩) rfl ?_
        refine zw_s (pc' := 83) rfl rfl ?_
        have f98 : (zw_I K 98 xk.toInt.toNat (zp_nar 0 (K.2.1 98 xk.toInt.toNat + Int32.ofInt 1))).2.1 98 xk.toInt.toNat = K.2.1 98 xk.toInt.toNat + Int32.ofInt 1 := zw_eq
        have f5 : (zw_I K 98 xk.toInt.toNat (zp_nar 0 (K.2.1 98 xk.toInt.toNat + Int32.ofInt 1))).2.1 72 5 = K.2.1 72 5 := zw_ne rfl rfl
        refine ih _ (z0s_w c2 ⟨by omega, by omega⟩) (zk_Fr_I FK rfl rfl) (by rw [f5]; omega) (fun j hj => ?_) (by rw [f98, f5]; omega) (by rw [f98, f5]; omega)
        rw [zs_w98 (by omega), f5]
        exact hlK j hj
