/-! ===== the reference once more, without the condition on what it reads (printed from the parts above) ===== -/
set_option maxRecDepth 8000 in
theorem z0se_no {L : Nat} {σ : Nat → Int32} {d : Nat} {H : zp_H} {x : Int32} (hB : zk_Bs z0R zg zJ H) (hx : ¬ (0 ≤ x.toInt ∧ x.toInt ≤ (H.2.1 72 22).toInt)) : ∃ X, zp_Call L σ (d + 2) 169 [.inr (.inr (some 73)), .inl x] H X ∧ ∃ H1 v, X = (.inl (some (.inl v)), H1) ∧ zk_Bs z0R zg zJ H1 ∧ zf_72 H H1 ∧ (H1.2.1 72 22).toInt = (H.2.1 72 22).toInt := by
  have W := zR_Wd (z0R_dn hB)
  have t1 : (zw_I H 72 0 (Int32.ofInt 0)).2.1 72 0 = Int32.ofInt 0 := zw_eq
  have h0 : ((zw_I H 72 0 (Int32.ofInt 0)).2.1 72 0).toInt = 0 := by rw [t1]; rfl
  refine zw_met zm_169_t rfl rfl ?_
  refine zw_ld (n := 1) (k := 0) (f := zp_isR) (pc' := 1) rfl rfl rfl rfl rfl ?_
  refine zw_s (pc' := 2) rfl rfl ?_
  refine zw_pI (q := 72) (pc' := 5) W rfl rfl rfl rfl rfl rfl ?_
  refine zw_ld (n := 1) (k := 0) (f := zp_isR) (pc' := 6) rfl rfl rfl rfl rfl ?_
  refine zw_ld (n := 1) (k := 1) (f := zp_isI) (pc' := 7) rfl rfl rfl rfl rfl ?_
  refine zw_blt1 (g := 22) (pc' := 10) rfl rfl rfl rfl (fun h1 => ?_) (fun h1 => ?_)
  · refine zw_s (pc' := 23) rfl rfl ?_
    refine zw_s (pc' := 24) rfl rfl ?_
    refine zw_c (pc' := 27) (zw_cv (q := 72) (Y := zm_170) W.1 rfl rfl zm_170_t rfl rfl) rfl rfl rfl rfl rfl (zq_right0 (H := zw_I H 72 0 (Int32.ofInt 0)) W h0 (by decide)) ?_
    refine zw_bne1 (g := 32) (pc' := 30) rfl rfl rfl (rfl : _ = (0 : Int)) (fun h9 => absurd h9 (by decide)) (fun hb => ?_)
    refine zw_s (pc' := 31) rfl rfl ?_
    refine zw_ri rfl rfl ?_
    exact ⟨_, _, rfl, z0t_thr (z0t_thr hB), zf_I (zf_I (zf_r H) rfl) rfl, congrArg Int32.toInt (zw_ne (zw_ne rfl rfl) rfl)⟩
  · refine zw_ld (n := 1) (k := 1) (f := zp_isI) (pc' := 11) rfl rfl rfl rfl rfl ?_
    refine zw_ld (n := 1) (k := 0) (f := zp_isR) (pc' := 12) rfl rfl rfl rfl rfl ?_
    refine zw_gI (q := 72) (pc' := 15) W rfl rfl rfl rfl (zw_ne rfl rfl) rfl ?_
    refine zw_bgt2 (g := 22) (pc' := 18) rfl rfl rfl rfl rfl (fun h2 => ?_) (fun h2 => ?_)
    · refine zw_s (pc' := 23) rfl rfl ?_
      refine zw_s (pc' := 24) rfl rfl ?_
      refine zw_c (pc' := 27) (zw_cv (q := 72) (Y := zm_170) W.1 rfl rfl zm_170_t rfl rfl) rfl rfl rfl rfl rfl (zq_right0 (H := zw_I H 72 0 (Int32.ofInt 0)) W h0 (by decide)) ?_
      refine zw_bne1 (g := 32) (pc' := 30) rfl rfl rfl (rfl : _ = (0 : Int)) (fun h9 => absurd h9 (by decide)) (fun hb => ?_)
      refine zw_s (pc' := 31) rfl rfl ?_
      refine zw_ri rfl rfl ?_
      exact ⟨_, _, rfl, z0t_thr (z0t_thr hB), zf_I (zf_I (zf_r H) rfl) rfl, congrArg Int32.toInt (zw_ne (zw_ne rfl rfl) rfl)⟩
    · exact absurd ⟨h1, h2⟩ hx
