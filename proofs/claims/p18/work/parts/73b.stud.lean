/-! ===== the reference: studies end ===== -/
def zs_SM : List (Nat × Nat) := [(72, 64), (72, 65), (72, 66), (72, 67), (72, 68), (72, 69), (72, 70), (72, 71)]
theorem zt_pilots {L : Nat} {σ : Nat → Int32} {d : Nat} {H : zp_H} {x y : Int32} (h : zk_Bs zR zg zJ H) (hx : 0 ≤ x.toInt ∧ x.toInt ≤ 3) : ∃ H1, zp_Call L σ (d + 9) 230 [.inr (.inr (some 73)), .inl x, .inl y] H (.inl none, H1) ∧ zk_Bs zR zg zJ H1 ∧ zk_Fr zg zs_SM [97] H H1 := by
  have hct : zk_Ct L σ zR zg zJ zr_e15 := zro_e15
  obtain ⟨X, x1, x2, x3, o, o1, o2, o3, o4⟩ := hct (d + 9) (Nat.le_add_left 9 d) [.inr (.inr (some 73)), .inl x, .inl y] H ⟨rfl, hx, zl_full y, trivial⟩ h (fun f hf => absurd hf List.not_mem_nil)
  rcases List.mem_cons.mp o1 with rfl | o1
  · obtain ⟨X1, X2⟩ := X
    have e : X1 = .inl none := zk_rv_n o2
    subst e
    exact ⟨X2, x1, x2, x3⟩
  · exact absurd o1 List.not_mem_nil
/-- a row's measure: what is left at each place -/
def zs_mu (row : Nat → Int32) (S : Int) : Nat → Nat
  | 0 => 0
  | n + 1 => zs_mu row S n + (S + 1 - (row n).toInt).toNat * 11 ^ (7 - n)
theorem zs_mu_c {row row' : Nat → Int32} {S : Int} : ∀ {n : Nat}, (∀ i, i < n → row' i = row i) → zs_mu row' S n = zs_mu row S n
  | 0, _ => rfl
  | n + 1, h => by
    unfold zs_mu
    rw [zs_mu_c (fun i hi => h i (Nat.lt_succ_of_lt hi)), h n (Nat.lt_succ_self n)]
def zs_ms (row : Nat → Int32) (S k m : Int) : Nat := 2 * zs_mu row S (if k = m then k else k + 1).toNat + (if k = m then 1 else 0)
/-- what holds at the head -/
def zs_I (H0 H : zp_H) (k m : Int) : Prop := zk_Bs zR zg zJ H ∧ zk_Fr zg zs_SM [97, 98] H0 H ∧ (-1 ≤ k ∧ k ≤ m) ∧ (∀ j : Nat, (j : Int) < k → 0 ≤ (H.2.1 98 j).toInt ∧ (H.2.1 98 j).toInt < (H.2.1 72 5).toInt) ∧ (0 ≤ k → k < m → -1 ≤ (H.2.1 98 k.toNat).toInt ∧ (H.2.1 98 k.toNat).toInt < (H.2.1 72 5).toInt)
theorem zs_d1 {S : Int} {row row' : Nat → Int32} {k : Nat} {S0 : 0 ≤ S} (hS : S ≤ 8) (hk : k ≤ 7) (hr : ∀ i, i < k → row' i = row i) (h0 : (row k).toInt ≤ S) (h1 : (row k).toInt < (row' k).toInt) : zs_mu row' S (k + 1) + 11 ^ (7 - k) ≤ zs_mu row S (k + 1) := by
  show zs_mu row' S k + (S + 1 - (row' k).toInt).toNat * 11 ^ (7 - k) + 11 ^ (7 - k) ≤ zs_mu row S k + (S + 1 - (row k).toInt).toNat * 11 ^ (7 - k)
  rw [zs_mu_c hr]
  have h2 : (S + 1 - (row' k).toInt).toNat + 1 ≤ (S + 1 - (row k).toInt).toNat := by omega
  have h3 := Nat.mul_le_mul_right (11 ^ (7 - k)) h2
  rw [Nat.add_mul, Nat.one_mul] at h3
  omega
/-- row is written -/
theorem zs_w {H : zp_H} {j : Nat} {x : Int32} (hB : zk_Bs zR zg zJ H) (hx : -1 ≤ x.toInt ∧ x.toInt ≤ 8) : zk_Bs zR zg zJ (zw_I H 98 j (zp_nar 0 x)) := by
  have b1 := zR_puta (p := 98) (j := j) (x := zp_nar 0 x) (t := 0) (n := 8) (zR_dn hB) rfl (fun r hr => by
    have hr : [((-1 : Int), (8 : Int))][j % 1]? = some r := hr
    rw [Nat.mod_one] at hr
    cases hr
    exact hx) (zJ_I rfl hB.2.2.2.2.2.2.2)
  exact zR_up b1 (fun h9 => zR_cn (H := H) hB h9)
theorem zs_w98 {H : zp_H} {j i : Nat} {x : Int32} (h : i ≠ j) : (zw_I H 98 j (zp_nar 0 x)).2.1 98 i = H.2.1 98 i := zp_u_ne (fun h8 => h h8.2)
def zm_230 : za_MI := (yX12_pilots, prog_14_method_71_code, 6, none, 12, 0, 0, [], za_i230)
theorem zm_230_t : za_MT 230 = some zm_230 := rfl
def zm_238 : za_MI := (yX12_studies, prog_14_method_76_code, 6, (some FieldType.boolean), 12, 0, 0, [], za_i238)
theorem zm_238_t : za_MT 238 = some zm_238 := rfl
def zt_iQ (H0 : zp_H) (X : zp_X) : Prop := ∃ H1 v, X = (.inl (some (.inl v)), H1) ∧ zk_Bs zR zg zJ H1 ∧ zk_Fr zg zs_SM [97, 98] H0 H1 ∧ (v = Int32.ofInt 0 ∨ v = Int32.ofInt 1)

theorem zs_set {L : Nat} {σ : Nat → Int32} {d : Nat} {H0 H : zp_H} {xp xm xk : Int32} (W : zw_W H) (hm : xm.toInt ≤ 8) (hk : ∀ (lv : zp_LV) (x4 : Int32), zp_get lv 0 = some (.inr (.inr (some 73))) → zp_get lv 1 = some (.inl xp) → zp_get lv 2 = some (.inl xm) → zp_get lv 3 = some (.inl xk) → zp_get lv 4 = some (.inl x4) → zs_Safe L σ (zt_iQ H0) zm_238 [] (d + 9) (50, lv, [], H, (0, 0))) : ∀ (n : Nat) (lv : zp_LV) (x4 x5 : Int32), zp_get lv 0 = some (.inr (.inr (some 73))) → zp_get lv 1 = some (.inl xp) → zp_get lv 2 = some (.inl xm) → zp_get lv 3 = some (.inl xk) → zp_get lv 4 = some (.inl x4) → zp_get lv 5 = some (.inl x5) → 0 ≤ x5.toInt → (xm.toInt - x5.toInt).toNat ≤ n → zs_Safe L σ (zt_iQ H0) zm_238 [] (d + 9) (24, lv, [], H, (0, 0)) := by
  intro n
  induction n with
  | zero =>
    intro lv x4 x5 l0 l1 l2 l3 l4 l5 h5 hn
    refine zw_ld (n := 2) (k := 5) (f := zp_isI) (pc' := 26) rfl rfl l5 rfl rfl ?_
    refine zw_ld (n := 1) (k := 2) (f := zp_isI) (pc' := 27) rfl rfl l2 rfl rfl ?_
    refine zw_bge2 (g := 50) (pc' := 30) rfl rfl rfl rfl rfl (fun hb => ?_) (fun hb => ?_)
    · exact hk lv x4 l0 l1 l2 l3 l4
    · omega
  | succ n ih =>
    intro lv x4 x5 l0 l1 l2 l3 l4 l5 h5 hn
    refine zw_ld (n := 2) (k := 5) (f := zp_isI) (pc' := 26) rfl rfl l5 rfl rfl ?_
    refine zw_ld (n := 1) (k := 2) (f := zp_isI) (pc' := 27) rfl rfl l2 rfl rfl ?_
    refine zw_bge2 (g := 50) (pc' := 30) rfl rfl rfl rfl rfl (fun hb => ?_) (fun hb => ?_)
    · exact hk lv x4 l0 l1 l2 l3 l4
    · have e1 : (x5 + Int32.ofInt 1).toInt = x5.toInt + 1 := zw_p1 (by omega)
      refine zw_ld (n := 2) (k := 4) (f := zp_isI) (pc' := 32) rfl rfl l4 rfl rfl ?_
      refine zw_s (pc' := 33) rfl rfl ?_
      refine zw_ld (n := 1) (k := 0) (f := zp_isR) (pc' := 34) rfl rfl l0 rfl rfl ?_
      refine zw_gR (q := 72) (pc' := 37) W rfl rfl rfl rfl (W.2 72 76 _ rfl) rfl ?_
      refine zw_ld (n := 2) (k := 5) (f := zp_isI) (pc' := 39) rfl rfl l5 rfl rfl ?_
      refine zw_ia (q := 98) (pc' := 40) W rfl rfl (by decide) (⟨by omega, by show _ < ((8 : Nat) : Int); omega⟩) rfl rfl ?_
      refine zw_ishl (pc' := 41) rfl rfl ?_
      refine zw_ior (pc' := 42) rfl rfl ?_
      refine zw_st (n := 2) (k := 4) (f := zp_isI) (pc' := 44) rfl rfl rfl rfl rfl ?_
      refine zw_ii (pc' := 47) rfl (zw_gt l5 rfl rfl) rfl rfl ?_
      refine zw_s (pc' := 24) rfl rfl ?_
      exact ih _ _ _ (zw_gt (zw_gt l0 rfl rfl) rfl rfl) (zw_gt (zw_gt l1 rfl rfl) rfl rfl) (zw_gt (zw_gt l2 rfl rfl) rfl rfl) (zw_gt (zw_gt l3 rfl rfl) rfl rfl) (zw_gt zw_g1 rfl rfl) zw_g1 (by omega) (by omega)

theorem zs_inn {L : Nat} {σ : Nat → Int32} {d : Nat} {H0 : zp_H} {lv : zp_LV} {row0 : Nat → Int32} {S r0 : Int} {xk : Int32} (hk7 : 0 ≤ xk.toInt ∧ xk.toInt ≤ 7) (l0 : zp_get lv 0 = some (.inr (.inr (some 73)))) (l3 : zp_get lv 3 = some (.inl xk)) (hk : ∀ H : zp_H, zk_Bs zR zg zJ H → zk_Fr zg zs_SM [97, 98] H0 H → (H.2.1 72 5).toInt = S → (∀ j : Nat, (j : Int) < xk.toInt → H.2.1 98 j = row0 j ∧ 0 ≤ (H.2.1 98 j).toInt ∧ (H.2.1 98 j).toInt < (H.2.1 72 5).toInt) → r0 < (H.2.1 98 xk.toInt.toNat).toInt ∧ 0 ≤ (H.2.1 98 xk.toInt.toNat).toInt ∧ (H.2.1 98 xk.toInt.toNat).toInt ≤ (H.2.1 72 5).toInt → zs_Safe L σ (zt_iQ H0) zm_238 [] (d + 9) (117, lv, [], H, (0, 0))) : ∀ (n : Nat) (H : zp_H), zk_Bs zR zg zJ H → zk_Fr zg zs_SM [97, 98] H0 H → (H.2.1 72 5).toInt = S → (∀ j : Nat, (j : Int) < xk.toInt → H.2.1 98 j = row0 j ∧ 0 ≤ (H.2.1 98 j).toInt ∧ (H.2.1 98 j).toInt < (H.2.1 72 5).toInt) → r0 < (H.2.1 98 xk.toInt.toNat).toInt ∧ 0 ≤ (H.2.1 98 xk.toInt.toNat).toInt ∧ (H.2.1 98 xk.toInt.toNat).toInt ≤ (H.2.1 72 5).toInt → ((H.2.1 72 5).toInt - (H.2.1 98 xk.toInt.toNat).toInt).toNat ≤ n → zs_Safe L σ (zt_iQ H0) zm_238 [] (d + 9) (83, lv, [], H, (0, 0)) := by
  intro n
  induction n with
  | zero =>
    intro H hB hF h5 hlow hr hn
    have W := zR_Wd (zR_dn hB)
    have S8 := zR_fr1 (zR_dn hB) (k := 5) (r := (0, 8)) rfl rfl
    have S8 : 0 ≤ (H.2.1 72 5).toInt ∧ (H.2.1 72 5).toInt ≤ 8 := S8
    refine zw_ld (n := 1) (k := 0) (f := zp_isR) (pc' := 84) rfl rfl l0 rfl rfl ?_
    refine zw_gR (q := 72) (pc' := 87) W rfl rfl rfl rfl (W.2 72 76 _ rfl) rfl ?_
    refine zw_ld (n := 1) (k := 3) (f := zp_isI) (pc' := 88) rfl rfl l3 rfl rfl ?_
    refine zw_ia (q := 98) (pc' := 89) W rfl rfl (by decide) (⟨by omega, by show _ < ((8 : Nat) : Int); omega⟩) rfl rfl ?_
    refine zw_ld (n := 1) (k := 0) (f := zp_isR) (pc' := 90) rfl rfl l0 rfl rfl ?_
    refine zw_gI (q := 72) (pc' := 93) W rfl rfl rfl rfl rfl rfl ?_
    refine zw_bge2 (g := 117) (pc' := 96) rfl rfl rfl rfl rfl (fun hb => ?_) (fun hb => ?_)
    · exact hk H hB hF h5 hlow hr
    · omega
  | succ n ih =>
    intro H hB hF h5 hlow hr hn
    have W := zR_Wd (zR_dn hB)
    have S8 := zR_fr1 (zR_dn hB) (k := 5) (r := (0, 8)) rfl rfl
    have S8 : 0 ≤ (H.2.1 72 5).toInt ∧ (H.2.1 72 5).toInt ≤ 8 := S8
    refine zw_ld (n := 1) (k := 0) (f := zp_isR) (pc' := 84) rfl rfl l0 rfl rfl ?_
    refine zw_gR (q := 72) (pc' := 87) W rfl rfl rfl rfl (W.2 72 76 _ rfl) rfl ?_
    refine zw_ld (n := 1) (k := 3) (f := zp_isI) (pc' := 88) rfl rfl l3 rfl rfl ?_
    refine zw_ia (q := 98) (pc' := 89) W rfl rfl (by decide) (⟨by omega, by show _ < ((8 : Nat) : Int); omega⟩) rfl rfl ?_
    refine zw_ld (n := 1) (k := 0) (f := zp_isR) (pc' := 90) rfl rfl l0 rfl rfl ?_
    refine zw_gI (q := 72) (pc' := 93) W rfl rfl rfl rfl rfl rfl ?_
    refine zw_bge2 (g := 117) (pc' := 96) rfl rfl rfl rfl rfl (fun hb => ?_) (fun hb => ?_)
    · exact hk H hB hF h5 hlow hr
    · obtain ⟨_, c1, K, v, rfl, c2, c3, c4⟩ := zt_isRead (L := L) (σ := σ) (d := d + 5) (xk := xk) hB (by omega) (fun j hj => by
        by_cases h9 : (j : Int) = xk.toInt
        · rw [show j = xk.toInt.toNat by omega]
          omega
        · have := hlow j (by omega)
          omega)
      have WK := zR_Wd (zR_dn c2)
      have k98 := zx_ae c3 98 (fun _ => rfl) rfl rfl
      have k5 := zx_fe c3 5 rfl rfl rfl
      have kr : (K.2.1 98 xk.toInt.toNat).toInt = (H.2.1 98 xk.toInt.toNat).toInt := by rw [k98]
      have FK := zk_Fr_t hF (zk_Fr_w (mods := zs_SM) (am := [97, 98]) rfl rfl c3)
      have e1 : (K.2.1 98 xk.toInt.toNat + Int32.ofInt 1).toInt = (K.2.1 98 xk.toInt.toNat).toInt + 1 := zw_p1 (by rw [k98]; omega)
      have hlK : ∀ j : Nat, (j : Int) < xk.toInt → K.2.1 98 j = row0 j ∧ 0 ≤ (K.2.1 98 j).toInt ∧ (K.2.1 98 j).toInt < (K.2.1 72 5).toInt := fun j hj => by rw [k98, k5]; exact hlow j hj
      have hrK : r0 < (K.2.1 98 xk.toInt.toNat).toInt ∧ 0 ≤ (K.2.1 98 xk.toInt.toNat).toInt ∧ (K.2.1 98 xk.toInt.toNat).toInt ≤ (K.2.1 72 5).toInt := by rw [k98, k5]; exact hr
      have bK : (K.2.1 98 xk.toInt.toNat).toInt < (H.2.1 72 5).toInt := by rw [k98]; exact hb
      refine zw_ld (n := 1) (k := 0) (f := zp_isR) (pc' := 97) rfl rfl l0 rfl rfl ?_
      refine zw_ld (n := 1) (k := 3) (f := zp_isI) (pc' := 98) rfl rfl l3 rfl rfl ?_
      refine zw_c (pc' := 101) (zw_cv (q := 72) (Y := zm_239) W.1 rfl rfl zm_239_t rfl rfl) rfl rfl rfl rfl rfl (c1) ?_
      refine zw_bne1 (g := 117) (pc' := 104) rfl rfl rfl rfl (fun hc => ?_) (fun hc => ?_)
      · exact hk K c2 FK (by omega) hlK hrK
      · refine zw_ld (n := 1) (k := 0) (f := zp_isR) (pc' := 105) rfl rfl l0 rfl rfl ?_
        refine zw_gR (q := 72) (pc' := 108) WK rfl rfl rfl rfl (WK.2 72 76 _ rfl) rfl ?_
        refine zw_ld (n := 1) (k := 3) (f := zp_isI) (pc' := 109) rfl rfl l3 rfl rfl ?_
        refine zw_s (pc' := 110) rfl rfl ?_
        refine zw_ia (q := 98) (pc' := 111) WK rfl rfl (by decide) (⟨by omega, by show _ < ((8 : Nat) : Int); omega⟩) rfl rfl ?_
        refine zw_s (pc' := 112) rfl rfl ?_
        refine zw_iadd (pc' := 113) rfl rfl ?_
        refine zw_is (q := 98) (pc' := 114) WK rfl rfl (by decide) (⟨by omega, by show _ < ((8 : Nat) : Int); omega⟩) rfl ?_
        refine zw_s (pc' := 83) rfl rfl ?_
        have f98 : (zw_I K 98 xk.toInt.toNat (zp_nar 0 (K.2.1 98 xk.toInt.toNat + Int32.ofInt 1))).2.1 98 xk.toInt.toNat = K.2.1 98 xk.toInt.toNat + Int32.ofInt 1 := zw_eq
        have f5 : (zw_I K 98 xk.toInt.toNat (zp_nar 0 (K.2.1 98 xk.toInt.toNat + Int32.ofInt 1))).2.1 72 5 = K.2.1 72 5 := zw_ne rfl rfl
        refine ih _ (zs_w c2 ⟨by omega, by omega⟩) (zk_Fr_I FK rfl rfl) (by rw [f5]; omega) (fun j hj => ?_) (by rw [f98, f5]; omega) (by rw [f98, f5]; omega)
        rw [zs_w98 (by omega), f5]
        exact hlK j hj
