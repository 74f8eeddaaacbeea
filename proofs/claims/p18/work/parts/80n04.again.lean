/-! ===== the reference once more, without the condition on what it reads (printed from the parts above) ===== -/
theorem z0l_woL {L : Nat} {σ : Nat → Int32} {d : Nat} {H0 : zp_H} {xc xh : Int32} {xu : Int64} (hcell : 0 ≤ xc.toInt ∧ xc.toInt ≤ 63) : ∀ (n : Nat) (H : zp_H) (lv : zp_LV) (r : Int32), zk_Bs z0R zg zJ H → zk_Fr zg [] [97] H0 H → zp_get lv 0 = some (.inr (.inr (some 73))) → zp_get lv 1 = some (.inl xc) → zp_get lv 2 = some (.inl xh) → zp_get lv 3 = some (.inr (.inl xu)) → zp_get lv 5 = some (.inl r) → 0 ≤ r.toInt → ((H.2.1 72 8).toInt - r.toInt).toNat ≤ n → zs_Safe L σ (fun X : zp_X => ∃ H1 v, X = (.inl (some (.inl v)), H1) ∧ zk_Bs z0R zg zJ H1 ∧ zk_Fr zg [] [97] H0 H1) zm_232 [] (d + 5) (3, lv, [], H, (0, 0)) := by
  intro n
  induction n with
  | zero =>
    intro H lv r hB hF l0 l1 l2 l3 l5 hr hn
    have W := zR_Wd (z0R_dn hB)
    refine zw_ld (n := 2) (k := 5) (f := zp_isI) (pc' := 5) rfl rfl l5 rfl rfl ?_
    refine zw_ld (n := 1) (k := 0) (f := zp_isR) (pc' := 6) rfl rfl l0 rfl rfl ?_
    refine zw_gI (q := 72) (pc' := 9) W rfl rfl rfl rfl rfl rfl ?_
    refine zw_bge2 (g := 43) (pc' := 12) rfl rfl rfl rfl rfl (fun hb => ?_) (fun hb => ?_)
    · refine zw_s (pc' := 44) rfl rfl ?_
      refine zw_ri rfl rfl ?_
      exact ⟨H, _, rfl, hB, hF⟩
    · omega
  | succ n ih =>
    intro H lv r hB hF l0 l1 l2 l3 l5 hr hn
    have W := zR_Wd (z0R_dn hB)
    have r8 := zR_fr1 (z0R_dn hB) (k := 8) (r := (0, 8)) rfl rfl
    have r8 : 0 ≤ (H.2.1 72 8).toInt ∧ (H.2.1 72 8).toInt ≤ 8 := r8
    refine zw_ld (n := 2) (k := 5) (f := zp_isI) (pc' := 5) rfl rfl l5 rfl rfl ?_
    refine zw_ld (n := 1) (k := 0) (f := zp_isR) (pc' := 6) rfl rfl l0 rfl rfl ?_
    refine zw_gI (q := 72) (pc' := 9) W rfl rfl rfl rfl rfl rfl ?_
    refine zw_bge2 (g := 43) (pc' := 12) rfl rfl rfl rfl rfl (fun hb => ?_) (fun hb => ?_)
    · refine zw_s (pc' := 44) rfl rfl ?_
      refine zw_ri rfl rfl ?_
      exact ⟨H, _, rfl, hB, hF⟩
    · refine zw_ld (n := 1) (k := 0) (f := zp_isR) (pc' := 13) rfl rfl l0 rfl rfl ?_
      refine zw_ld (n := 1) (k := 0) (f := zp_isR) (pc' := 14) rfl rfl l0 rfl rfl ?_
      refine zw_gR (q := 72) (pc' := 17) W rfl rfl rfl rfl (W.2 72 18 _ rfl) rfl ?_
      refine zw_ld (n := 2) (k := 5) (f := zp_isI) (pc' := 19) rfl rfl l5 rfl rfl ?_
      refine zw_ia (q := 78) (pc' := 20) W rfl rfl (by decide) (⟨by omega, by show _ < ((8 : Nat) : Int); omega⟩) rfl rfl ?_
      refine zw_ld (n := 1) (k := 1) (f := zp_isI) (pc' := 21) rfl rfl l1 rfl rfl ?_
      refine zw_ld (n := 1) (k := 2) (f := zp_isI) (pc' := 22) rfl rfl l2 rfl rfl ?_
      refine zw_ld (n := 1) (k := 3) (f := zp_isL) (pc' := 23) rfl rfl l3 rfl rfl ?_
      have e1 : (r + Int32.ofInt 1).toInt = r.toInt + 1 := zw_p1 (by omega)
      obtain ⟨j0, j1⟩ := hB.2.2.2.2.2.2.2.1 r.toInt.toNat (by omega)
      obtain ⟨_, c1, K, v, rfl, c2, c3⟩ := z0l_reckons (L := L) (σ := σ) (d := d) (xh := xh) (xu := xu) hB hcell j0 j1
      have WK := zR_Wd (z0R_dn c2)
      have k8 := zx_fe c3 8 rfl rfl rfl
      refine zw_c (pc' := 26) (zw_cv (q := 72) (Y := zm_233) W.1 rfl rfl zm_233_t rfl rfl) rfl rfl rfl rfl rfl (c1) ?_
      refine zw_beq1 (g := 37) (pc' := 29) rfl rfl rfl rfl (fun h0 => ?_) (fun h0 => ?_)
      · refine zw_ii (pc' := 40) rfl l5 rfl rfl ?_
        refine zw_s (pc' := 3) rfl rfl ?_
        exact ih K _ _ c2 (zk_Fr_t hF c3) (zw_gt l0 rfl rfl) (zw_gt l1 rfl rfl) (zw_gt l2 rfl rfl) (zw_gt l3 rfl rfl) zw_g1 (by omega) (by omega)
      · refine zw_ld (n := 1) (k := 0) (f := zp_isR) (pc' := 30) rfl rfl l0 rfl rfl ?_
        refine zw_gR (q := 72) (pc' := 33) WK rfl rfl rfl rfl (WK.2 72 19 _ rfl) rfl ?_
        refine zw_ld (n := 2) (k := 5) (f := zp_isI) (pc' := 35) rfl rfl l5 rfl rfl ?_
        refine zw_ia (q := 79) (pc' := 36) WK rfl rfl (by decide) (⟨by omega, by show _ < ((8 : Nat) : Int); omega⟩) rfl rfl ?_
        refine zw_ri rfl rfl ?_
        exact ⟨K, _, rfl, c2, zk_Fr_t hF c3⟩
theorem z0l_wayOf {L : Nat} {σ : Nat → Int32} {d : Nat} {H : zp_H} {xc xh : Int32} {xu : Int64} (hB : zk_Bs z0R zg zJ H) (hcell : 0 ≤ xc.toInt ∧ xc.toInt ≤ 63) : ∃ X, zp_Call L σ (d + 6) 232 [.inr (.inr (some 73)), .inl xc, .inl xh, .inr (.inl xu)] H X ∧ (fun X : zp_X => ∃ H1 v, X = (.inl (some (.inl v)), H1) ∧ zk_Bs z0R zg zJ H1 ∧ zk_Fr zg [] [97] H H1) X := by
  refine zw_met zm_232_t rfl rfl ?_
  refine zw_s (pc' := 1) rfl rfl ?_
  refine zw_st (n := 2) (k := 5) (f := zp_isI) (pc' := 3) rfl rfl rfl rfl rfl ?_
  exact z0l_woL hcell _ H _ _ hB (zk_Fr_r H) (zw_gt rfl rfl rfl) (zw_gt rfl rfl rfl) (zw_gt rfl rfl rfl) (zw_gt rfl rfl rfl) zw_g1 (by decide) (Nat.le_refl _)
/-- as the checker takes it -/
theorem z0rc_h4 {L : Nat} {σ : Nat → Int32} : zk_Ct L σ z0R zg zJ zr_h4 := by
  intro d hd as H ha hB hp
  have hd : 8 ≤ d := hd
  obtain ⟨d0, rfl⟩ : ∃ d0, d = d0 + 6 := ⟨d - 6, by omega⟩
  match as, ha with
  | [.inr (.inr r), .inl x, .inl y, .inr (.inl u)], ha =>
    obtain ⟨h1, h2, h3, h4, h5⟩ := ha
    have h1 : r = some 73 := h1
    subst h1
    obtain ⟨_, c1, H1, v, rfl, c2, c3⟩ := z0l_wayOf (L := L) (σ := σ) (d := d0) (xh := y) (xu := u) hB h2
    exact ⟨_, c1, c2, c3, _, List.mem_cons_self, zl_full v, fun f hf => absurd hf List.not_mem_nil, fun f hf => absurd hf List.not_mem_nil⟩
