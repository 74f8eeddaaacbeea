/-! ===== the class opens a text, exactly ===== -/
def zm_53 : za_MI := (yX9_open, prog_11_method_2_code, 2, none, 9, 0, 0, [], za_i53)
theorem zm_53_t : za_MT 53 = some zm_53 := rfl
set_option maxRecDepth 8000 in
theorem yc_min {L : Nat} {σ : Nat → Int32} {d : Nat} {H : zp_H} {x y : Int32} (h : x.toInt ≤ y.toInt) : zp_Call L σ (d + 1) 54 [.inl x, .inl y] H (.inl (some (.inl x)), H) := by
  refine zw_ex (zw_met zm_54_t rfl rfl ?_)
  refine zw_ld (n := 1) (k := 0) (f := zp_isI) (pc' := 1) rfl rfl rfl rfl rfl ?_
  refine zw_ld (n := 1) (k := 1) (f := zp_isI) (pc' := 2) rfl rfl rfl rfl rfl ?_
  refine zw_bgt2 (g := 9) (pc' := 5) rfl rfl rfl rfl rfl (fun h1 => ?_) (fun h1 => ?_)
  · omega
  · refine zw_ld (n := 1) (k := 0) (f := zp_isI) (pc' := 6) rfl rfl rfl rfl rfl ?_
    refine zw_s (pc' := 10) rfl rfl ?_
    refine zw_ri rfl rfl ?_
    rfl

set_option maxRecDepth 8000 in
theorem yc_open {L : Nat} {σ : Nat → Int32} {d : Nat} {T : Nat → Int} {n : Nat} {H : zp_H} {x : Int32} (hB : zk_Bs zB0 zg zJc H) (hn : n ≤ 700) (hx : x.toInt = n) (hT : ∀ k, k < n → (H.2.1 1 k).toInt = T k) : ∃ X, zp_Call L σ (d + 4) 53 [.inr (.inr (some 53)), .inl x] H X ∧ ∃ H1, X = (.inl none, H1) ∧ yE T n 0 H1 ∧ zk_Fr zg [(52, 1), (52, 2), (52, 3), (52, 4), (52, 5)] [] H H1 := by
  have W := zB_Wd hB
  have b1 := zB_putf (p := 52) (k := 1) (x := x) hB rfl (fun r hr => by cases hr; exact ⟨by show (0 : Int) ≤ _; omega, by show _ ≤ (700 : Int); omega⟩) (zJc_I rfl hB.2.2.2.2.2.2.2)
  have b2 := zB_putf (p := 52) (k := 2) (x := Int32.ofInt 0) b1 rfl (fun r hr => by cases hr; exact ⟨by decide, by decide⟩) (zJc_I rfl b1.2.2.2.2.2.2.2)
  have hZ : yc_Z T n (zw_I (zw_I H 52 1 x) 52 2 (Int32.ofInt 0)) := ⟨b2, hn, (congrArg Int32.toInt (zw_ne zw_eq rfl)).trans hx, fun k hk => (congrArg Int32.toInt (zw_ne (zw_ne rfl rfl) rfl)).trans (hT k hk)⟩
  obtain ⟨_, c1, H1, rfl, c2, c3, c4⟩ := yc_adv (L := L) (σ := σ) (d := d) (p := 0) hZ (congrArg Int32.toInt zw_eq) (Nat.zero_le _)
  refine zw_met zm_53_t rfl rfl ?_
  refine zw_ld (n := 1) (k := 0) (f := zp_isR) (pc' := 1) rfl rfl rfl rfl rfl ?_
  refine zw_ld (n := 1) (k := 1) (f := zp_isI) (pc' := 2) rfl rfl rfl rfl rfl ?_
  refine zw_ld (n := 1) (k := 0) (f := zp_isR) (pc' := 3) rfl rfl rfl rfl rfl ?_
  refine zw_gR (q := 52) (pc' := 6) W rfl rfl rfl rfl (W.2 52 0 _ rfl) rfl ?_
  refine zw_al (q := 1) (pc' := 7) W rfl rfl rfl ?_
  refine zw_c (pc' := 10) (zw_cs (Y := zm_54) rfl rfl zm_54_t) rfl rfl rfl rfl rfl (yc_min (d := d + 2) (by show x.toInt ≤ 700; omega)) ?_
  refine zw_pI (q := 52) (pc' := 13) W rfl rfl rfl rfl rfl rfl ?_
  refine zw_ld (n := 1) (k := 0) (f := zp_isR) (pc' := 14) rfl rfl rfl rfl rfl ?_
  refine zw_s (pc' := 15) rfl rfl ?_
  refine zw_pI (q := 52) (pc' := 18) W rfl rfl rfl rfl rfl rfl ?_
  refine zw_ld (n := 1) (k := 0) (f := zp_isR) (pc' := 19) rfl rfl rfl rfl rfl ?_
  refine zw_cn (pc' := 22) (zw_cv (q := 52) (Y := zm_55) W.1 rfl rfl zm_55_t rfl rfl) rfl rfl rfl rfl rfl (c1) ?_
  refine zw_rn rfl rfl ?_
  exact ⟨H1, rfl, ⟨c2, c4, Nat.zero_le _⟩, zk_Fr_t (zk_Fr_I (zk_Fr_I (zk_Fr_r H) rfl rfl) rfl rfl) (zk_Fr_w rfl rfl c3)⟩
