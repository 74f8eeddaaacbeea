/-! ===== the reference closes a bracket, exactly ===== -/

theorem yr_opn_0 {w : Nat → Int32} : ∀ {n : Nat}, (∀ i, i < n → (w i).toInt < 14) → zr_opn w n = 0
  | 0, _ => rfl
  | n + 1, h => by
    unfold zr_opn
    rw [yr_opn_0 (fun i hi => h i (Nat.lt_succ_of_lt hi)), if_neg (by have := h n (Nat.lt_succ_self n); omega)]

theorem yx_isoL {L : Nat} {σ : Nat → Int32} {d : Nat} {H : zp_H} (W : zw_W H) (hw : 0 ≤ (H.2.1 72 46).toInt ∧ (H.2.1 72 46).toInt ≤ 700) : ∀ (n : Nat) (lv : zp_LV) (x : Int32), (x.toInt + 1).toNat = n → zp_get lv 0 = some (.inr (.inr (some 73))) → zp_get lv 1 = some (.inl x) → -1 ≤ x.toInt ∧ x.toInt < (H.2.1 72 46).toInt → (∀ i : Nat, x.toInt < i → i < (H.2.1 72 46).toInt.toNat → (H.2.1 91 i).toInt < 14) → zs_Safe L σ (fun X => ∃ v, X = (.inl (some (.inl v)), H) ∧ ((v = Int32.ofInt 1 ∧ ∃ i, i < (H.2.1 72 46).toInt.toNat ∧ 14 ≤ (H.2.1 91 i).toInt) ∨ (v = Int32.ofInt 0 ∧ ∀ i, i < (H.2.1 72 46).toInt.toNat → (H.2.1 91 i).toInt < 14))) zm_202 [] (d + 1) (7, lv, [], H, (0, 0)) := by
  intro n
  induction n with
  | zero =>
    intro lv x hn l0 l1 hx hno
    refine zw_ld (n := 1) (k := 1) (f := zp_isI) (pc' := 8) rfl rfl l1 rfl rfl ?_
    refine zw_blt1 (g := 29) (pc' := 11) rfl rfl rfl rfl (fun hb => ?_) (fun hb => ?_)
    · refine zw_ld (n := 1) (k := 1) (f := zp_isI) (pc' := 30) rfl rfl l1 rfl rfl ?_
      refine zw_blt1 (g := 37) (pc' := 33) rfl rfl rfl rfl (fun hc => ?_) (fun hc => ?_)
      · refine zw_s (pc' := 38) rfl rfl ?_
        refine zw_rz rfl rfl (by decide) ?_
        exact ⟨_, rfl, Or.inr ⟨rfl, fun i hi => hno i (by omega) hi⟩⟩
      · omega
    · omega
  | succ n ih =>
    intro lv x hn l0 l1 hx hno
    have e1 : (x + Int32.ofInt (-1)).toInt = x.toInt - 1 := by
      have h1 : (Int32.ofInt (-1)).toInt = -1 := rfl
      rw [zn_add (by omega) (by omega), h1]
      omega
    refine zw_ld (n := 1) (k := 1) (f := zp_isI) (pc' := 8) rfl rfl l1 rfl rfl ?_
    refine zw_blt1 (g := 29) (pc' := 11) rfl rfl rfl rfl (fun hb => ?_) (fun hb => ?_)
    · omega
    · refine zw_ld (n := 1) (k := 0) (f := zp_isR) (pc' := 12) rfl rfl l0 rfl rfl ?_
      refine zw_gR (q := 72) (pc' := 15) W rfl rfl rfl rfl (W.2 72 60 _ rfl) rfl ?_
      refine zw_ld (n := 1) (k := 1) (f := zp_isI) (pc' := 16) rfl rfl l1 rfl rfl ?_
      refine zw_ia (q := 91) (pc' := 17) W rfl rfl (by decide) (⟨hb, by show _ < ((800 : Nat) : Int); omega⟩) rfl rfl ?_
      by_cases ho : 14 ≤ (H.2.1 91 x.toInt.toNat).toInt
      · refine zw_c (pc' := 20) (zw_cs (Y := zm_200) rfl rfl zm_200_t) rfl rfl rfl rfl rfl (zq_open1 W ho) ?_
        refine zw_bne1 (g := 29) (pc' := 23) rfl rfl rfl (rfl : _ = (1 : Int)) (fun hb => ?_) (fun h9 => absurd h9 (by decide))
        refine zw_ld (n := 1) (k := 1) (f := zp_isI) (pc' := 30) rfl rfl l1 rfl rfl ?_
        refine zw_blt1 (g := 37) (pc' := 33) rfl rfl rfl rfl (fun hc => ?_) (fun hc => ?_)
        · omega
        · refine zw_s (pc' := 34) rfl rfl ?_
          refine zw_s (pc' := 38) rfl rfl ?_
          refine zw_rz rfl rfl (by decide) ?_
          exact ⟨_, rfl, Or.inl ⟨rfl, x.toInt.toNat, by omega, ho⟩⟩
      · refine zw_c (pc' := 20) (zw_cs (Y := zm_200) rfl rfl zm_200_t) rfl rfl rfl rfl rfl (zq_open0 W (by omega)) ?_
        refine zw_bne1 (g := 29) (pc' := 23) rfl rfl rfl (rfl : _ = (0 : Int)) (fun h9 => absurd h9 (by decide)) (fun hb => ?_)
        refine zw_ii (pc' := 26) rfl l1 rfl rfl ?_
        refine zw_s (pc' := 7) rfl rfl ?_
        refine ih _ _ (by omega) (zw_gt l0 rfl rfl) zw_g1 (by omega) ?_
        intro i hi hi2
        by_cases h9 : i = x.toInt.toNat
        · rw [h9]
          omega
        · exact hno i (by omega) hi2

theorem yx_isOpened {L : Nat} {σ : Nat → Int32} {d : Nat} {H : zp_H} (W : zw_W H) (hw : 0 ≤ (H.2.1 72 46).toInt ∧ (H.2.1 72 46).toInt ≤ 700) : ∃ X, zp_Call L σ (d + 2) 202 [.inr (.inr (some 73))] H X ∧ (fun X => ∃ v, X = (.inl (some (.inl v)), H) ∧ ((v = Int32.ofInt 1 ∧ ∃ i, i < (H.2.1 72 46).toInt.toNat ∧ 14 ≤ (H.2.1 91 i).toInt) ∨ (v = Int32.ofInt 0 ∧ ∀ i, i < (H.2.1 72 46).toInt.toNat → (H.2.1 91 i).toInt < 14))) X := by
  have e1 : (H.2.1 72 46 - Int32.ofInt 1).toInt = (H.2.1 72 46).toInt - 1 := zw_m1 (by omega)
  refine zw_met zm_202_t rfl rfl ?_
  refine zw_ld (n := 1) (k := 0) (f := zp_isR) (pc' := 1) rfl rfl rfl rfl rfl ?_
  refine zw_gI (q := 72) (pc' := 4) W rfl rfl rfl rfl rfl rfl ?_
  refine zw_s (pc' := 5) rfl rfl ?_
  refine zw_isub (pc' := 6) rfl rfl ?_
  refine zw_st (n := 1) (k := 1) (f := zp_isI) (pc' := 7) rfl rfl rfl rfl rfl ?_
  exact yx_isoL W hw _ _ _ rfl (zw_gt rfl rfl rfl) zw_g1 ⟨by omega, by omega⟩ (fun i h1 h2 => by omega)

theorem yx_closes {L : Nat} {σ : Nat → Int32} {d a : Nat} {T : Nat → Int} {n p : Nat} {b : Bool} {lv : List Bool} {H : zp_H} (hby : ∀ k, k < n → -128 ≤ T k ∧ T k ≤ 127) (h : zx_S a 1 0 H) (h0 : (H.2.1 72 23).toInt = 0) (hs : (H.2.1 72 28).toInt ≠ 0) (hop : 1 ≤ zr_opn (H.2.1 91) (H.2.1 72 46).toInt.toNat) (hV : yV T n (b :: lv) p H) : ∃ X, zp_Call L σ (d + 4) 203 [.inr (.inr (some 73))] H X ∧ ∃ H1, X = (.inl none, H1) ∧ zx_S a 1 0 H1 ∧ zx_F a H H1 ∧ (H1.2.1 72 23).toInt = 0 ∧ zx_phi H + 2 ≤ zx_phi H1 ∧ yV T n lv (ys_nx T n p) H1 ∧ ∀ a' W' O', xV a' W' O' H → xV a' (xDp 0 W').2.tail (O' ++ (xDp 0 W').1.map xAc) H1 := by
  have W := zR_Wd (zR_dn h.1)
  refine zw_met zm_203_t rfl rfl ?_
  obtain ⟨_, c1, K, rfl, c2, c3, c4, c5, c6⟩ := zx_drops (L := L) (σ := σ) (d := d) (y := Int32.ofInt 0) h (zx_S_a h h0)
  have WK := zR_Wd (zR_dn c2.1)
  have k23 := zx_fe c3.1 23 rfl rfl rfl
  have k27 := zx_fe c3.1 27 rfl rfl rfl
  have k28 := zx_fe c3.1 28 rfl rfl rfl
  have hphi := zx_phi_i k27 k28
  obtain ⟨t0, w0⟩ := zx_top c2
  have hw : 0 < (K.2.1 72 46).toInt := by
    by_cases h9 : (K.2.1 72 46).toInt = 0
    · have h8 : zr_opn (K.2.1 91) (K.2.1 72 46).toInt.toNat = 0 := by rw [h9]; rfl
      omega
    · omega
  have ho : 14 ≤ (K.2.1 91 ((K.2.1 72 46).toInt - 1).toNat).toInt := by
    rcases c6 (by decide) with h9 | h9
    · omega
    · exact h9
  have hT := zx_clT c2 (by omega) (by omega) hw ho
  obtain ⟨K1, d1, d2, d3, d4, d5, d6⟩ := zx_T_goes (L := L) (σ := σ) (d := d + 1) hT
  have e45 : (zw_I (zw_I K 72 46 (K.2.1 72 46 - Int32.ofInt 1)) 72 47 (K.2.1 72 47 - Int32.ofInt 1)).2.1 72 45 = K.2.1 72 45 := zw_ne (zw_ne rfl rfl) rfl
  have eph : zx_phi (zw_I (zw_I K 72 46 (K.2.1 72 46 - Int32.ofInt 1)) 72 47 (K.2.1 72 47 - Int32.ofInt 1)) = zx_phi K := zx_phi_e (zw_ne (zw_ne rfl rfl) rfl) (zw_ne (zw_ne rfl rfl) rfl)
  have hVK : yV T n (b :: lv) p K := yV_F hV c3.1 rfl ⟨fun k => rfl, fun k => rfl⟩ rfl
  have e47 : (K.2.1 72 47).toInt = ((lv.length + 1 : Nat) : Int) := hVK.2.2.2.1
  have hVC : yV T n lv p (zw_I (zw_I K 72 46 (K.2.1 72 46 - Int32.ofInt 1)) 72 47 (K.2.1 72 47 - Int32.ofInt 1)) := by
    refine ⟨yr_T_I (yr_T_I hVK.1 rfl) rfl, yr_k_c (fun k hk => zw_ne (zw_ne rfl ?_) ?_) rfl hVK.2.1, hVK.2.2.1, ?_, yt_c (funext fun i => zw_ne (zw_ne rfl rfl) rfl) hVK.2.2.2.2.2⟩
    · rcases (show k = 27 ∨ k = 28 ∨ k = 29 ∨ k = 30 ∨ k = 31 ∨ k = 32 by omega) with rfl | rfl | rfl | rfl | rfl | rfl <;> rfl
    · rcases (show k = 27 ∨ k = 28 ∨ k = 29 ∨ k = 30 ∨ k = 31 ∨ k = 32 by omega) with rfl | rfl | rfl | rfl | rfl | rfl <;> rfl
    · refine (congrArg Int32.toInt zw_eq).trans ?_
      rw [zw_m1 (by omega)]
      omega
  have hgo := (yx_goes hby hT.1 hVC d1).1
  refine zw_ld (n := 1) (k := 0) (f := zp_isR) (pc' := 1) rfl rfl rfl rfl rfl ?_
  refine zw_s (pc' := 2) rfl rfl ?_
  refine zw_cn (pc' := 5) (zw_cv (q := 72) (Y := zm_199) W.1 rfl rfl zm_199_t rfl rfl) rfl rfl rfl rfl rfl (c1) ?_
  refine zw_ld (n := 1) (k := 0) (f := zp_isR) (pc' := 6) rfl rfl rfl rfl rfl ?_
  refine zw_s (pc' := 7) rfl rfl ?_
  refine zw_gI (q := 72) (pc' := 10) WK rfl rfl rfl rfl rfl rfl ?_
  refine zw_s (pc' := 11) rfl rfl ?_
  refine zw_isub (pc' := 12) rfl rfl ?_
  refine zw_pI (q := 72) (pc' := 15) WK rfl rfl rfl rfl rfl rfl ?_
  refine zw_ld (n := 1) (k := 0) (f := zp_isR) (pc' := 16) rfl rfl rfl rfl rfl ?_
  refine zw_s (pc' := 17) rfl rfl ?_
  refine zw_gI (q := 72) (pc' := 20) WK rfl rfl rfl rfl (zw_ne rfl rfl) rfl ?_
  refine zw_s (pc' := 21) rfl rfl ?_
  refine zw_isub (pc' := 22) rfl rfl ?_
  refine zw_pI (q := 72) (pc' := 25) WK rfl rfl rfl rfl rfl rfl ?_
  refine zw_ld (n := 1) (k := 0) (f := zp_isR) (pc' := 26) rfl rfl rfl rfl rfl ?_
  refine zw_cn (pc' := 29) (zw_cv (q := 72) (Y := zm_171) WK.1 rfl rfl zm_171_t rfl rfl) rfl rfl rfl rfl rfl (d1) ?_
  refine zw_rn rfl rfl ?_
  refine ⟨K1, rfl, d2, zx_F_t (zx_Fd_F c3) (zx_F_t ⟨zk_Fr_I (zk_Fr_I (zk_Fr_r K) rfl rfl) rfl rfl, fun i _ => zw_ne (zw_ne rfl rfl) rfl⟩ d3), d4, by omega, hgo, fun a' W' O' k' => ?_⟩
  have kd := xV_dr (l := 0) h (by decide) c1 k'
  have n46 := kd.1
  have f : ∀ V O9, xV a' V O9 K → 0 < V.length → xV a' V.tail O9 (zw_I (zw_I K 72 46 (K.2.1 72 46 - Int32.ofInt 1)) 72 47 (K.2.1 72 47 - Int32.ofInt 1)) := fun V O9 k9 hl => by
    match V, hl with
    | b9 :: V9, _ =>
      have k8 := k9.1
      have k8 : (K.2.1 72 46).toInt = ((V9.length + 1 : Nat) : Int) := k8
      exact xV_47 (xVn_pop (by show _ = ((V9.length : Nat) : Int); rw [zw_m1 (by omega)]; omega) k9)
  exact xV_goes hT.1 d1 (f _ _ kd (by omega))
