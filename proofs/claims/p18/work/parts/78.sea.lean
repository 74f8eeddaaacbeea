/-! ===== the reference: sea ===== -/
theorem zT_J2 {H : zp_H} {k : Nat} {x : Int64} (h : zk_Bs zR0 zg zT H) : zk_Bs zR0 zg zT (zw_J H 72 k x) := by
  refine ⟨h.1, h.2.1, fun q hq => absurd hq List.not_mem_nil, fun q hq => absurd hq List.not_mem_nil, fun p j r hr => Or.inr ?_, h.2.2.2.2.2.1, fun c hc => absurd hc List.not_mem_nil, trivial⟩
  rcases h.2.2.2.2.1 p j r hr with ⟨q, q1, _⟩ | h9
  · exact absurd q1 List.not_mem_nil
  unfold zk_fv at h9 ⊢
  by_cases h1 : p = 72 ∧ j = 100
  · rw [if_pos h1]
    obtain ⟨e1, e2⟩ := h1
    subst e1 e2
    have e : r = (-1, 20) := (Option.some.inj hr).symm
    rw [e]
    exact zg_in _
  · rw [if_neg h1] at h9 ⊢
    exact h9
def zse_N (H0 H1 H : zp_H) : Prop := zk_Bs zR0 zg zT H ∧ zJ H ∧ zf_72 H0 H ∧ ∀ j, H.2.1 72 j = H1.2.1 72 j

set_option maxRecDepth 8000 in
theorem zse_fill {L : Nat} {σ : Nat → Int32} {d : Nat} {H0 H1 : zp_H} (hk : ∀ (H : zp_H) (lv : zp_LV), zse_N H0 H1 H → zp_get lv 0 = some (.inr (.inr (some 73))) → zs_Safe L σ (zse_P H0) zm_169 [] (d + 12) (155, lv, [], H, (0, 0))) : ∀ (n : Nat) (H : zp_H) (lv : zp_LV) (x : Int32), zse_N H0 H1 H → zp_get lv 0 = some (.inr (.inr (some 73))) → zp_get lv 2 = some (.inl x) → 0 ≤ x.toInt → (64 - x.toInt).toNat ≤ n → zs_Safe L σ (zse_P H0) zm_169 [] (d + 12) (136, lv, [], H, (0, 0)) := by
  intro n
  induction n with
  | zero =>
    intro H lv x hN l0 l2 hx hn
    obtain ⟨b, hJ, hF, h72⟩ := hN
    have W := zT_Wd b
    refine zw_ld (n := 1) (k := 2) (f := zp_isI) (pc' := 137) rfl rfl l2 rfl rfl ?_
    refine zw_s (pc' := 139) rfl rfl ?_
    refine zw_bge2 (g := 155) (pc' := 142) rfl rfl rfl rfl (rfl : _ = (64 : Int)) (fun hb => ?_) (fun hb => ?_)
    · exact hk H lv ⟨b, hJ, hF, h72⟩ l0
    · omega
  | succ n ih =>
    intro H lv x hN l0 l2 hx hn
    obtain ⟨b, hJ, hF, h72⟩ := hN
    have W := zT_Wd b
    refine zw_ld (n := 1) (k := 2) (f := zp_isI) (pc' := 137) rfl rfl l2 rfl rfl ?_
    refine zw_s (pc' := 139) rfl rfl ?_
    refine zw_bge2 (g := 155) (pc' := 142) rfl rfl rfl rfl (rfl : _ = (64 : Int)) (fun hb => ?_) (fun hb => ?_)
    · exact hk H lv ⟨b, hJ, hF, h72⟩ l0
    · have e1 : (x + Int32.ofInt 1).toInt = x.toInt + 1 := zw_p1 (by omega)
      refine zw_ld (n := 1) (k := 0) (f := zp_isR) (pc' := 143) rfl rfl l0 rfl rfl ?_
      refine zw_gR (q := 72) (pc' := 146) W rfl rfl rfl rfl (W.2 72 52 _ rfl) rfl ?_
      refine zw_ld (n := 1) (k := 2) (f := zp_isI) (pc' := 147) rfl rfl l2 rfl rfl ?_
      refine zw_s (pc' := 148) rfl rfl ?_
      refine zw_is (q := 83) (pc' := 149) W rfl rfl (by decide) (⟨by omega, by show _ < ((64 : Nat) : Int); omega⟩) rfl ?_
      refine zw_ii (pc' := 152) rfl l2 rfl rfl ?_
      refine zw_s (pc' := 136) rfl rfl ?_
      refine ih _ _ _ ⟨zT_puta (p := 83) (j := x.toInt.toNat) (x := zp_nar 0 (Int32.ofInt (-1))) (t := 0) (n := 64) b rfl (fun r hr => by
        have hr : [((-1 : Int), (3 : Int))][x.toInt.toNat % 1]? = some r := hr
        rw [Nat.mod_one] at hr
        cases hr
        exact ⟨by decide, by decide⟩) trivial, zJ_I rfl hJ, zf_I hF rfl, fun j => (zw_ne rfl rfl).trans (h72 j)⟩ (zw_gt l0 rfl rfl) zw_g1 (by omega) (by omega)

set_option maxRecDepth 8000 in
theorem zse_no {L : Nat} {σ : Nat → Int32} {d : Nat} {H : zp_H} {x : Int32} (hB : zk_Bs zR zg zJ H) (hx : ¬ (0 ≤ x.toInt ∧ x.toInt ≤ (H.2.1 72 22).toInt)) : ∃ X, zp_Call L σ (d + 2) 169 [.inr (.inr (some 73)), .inl x] H X ∧ ∃ H1 v, X = (.inl (some (.inl v)), H1) ∧ zk_Bs zR zg zJ H1 ∧ zf_72 H H1 ∧ (H1.2.1 72 22).toInt = (H.2.1 72 22).toInt := by
  have W := zR_Wd (zR_dn hB)
  have t1 : (zw_I H 72 0 (Int32.ofInt 0)).2.1 72 0 = Int32.ofInt 0 := zw_eq
  have h0 : ((zw_I H 72 0 (Int32.ofInt 0)).2.1 72 0).toInt = 0 := by rw [t1]; rfl
  refine zw_met zm_169_t rfl rfl ?_
  refine zw_ld (n := 1) (k := 0) (f := zp_isR) (pc' := 1) rfl rfl rfl rfl rfl ?_
  refine zw_s (pc' := 2) rfl rfl ?_
  refine zw_pI (q := 72) (pc' := 5) W rfl rfl rfl rfl rfl rfl ?_
  refine zw_ld (n := 1) (k := 0) (f := zp_isR) (pc' := 6) rfl rfl rfl rfl rfl ?_
  refine zw_ld (n := 1) (k := 1) (f := zp_isI) (pc' := 7) rfl rfl rfl rfl rfl ?_
  refine zw_blt1 (g := 22) (pc' := 10) rfl rfl rfl rfl (fun h1 => ?_) (fun h1 => ?_)
  · refine zw_s (pc' := 23) rfl rfl ?_
    refine zw_s (pc' := 24) rfl rfl ?_
    refine zw_c (pc' := 27) (zw_cv (q := 72) (Y := zm_170) W.1 rfl rfl zm_170_t rfl rfl) rfl rfl rfl rfl rfl (zq_right0 (H := zw_I H 72 0 (Int32.ofInt 0)) W h0 (by decide)) ?_
    refine zw_bne1 (g := 32) (pc' := 30) rfl rfl rfl (rfl : _ = (0 : Int)) (fun h9 => absurd h9 (by decide)) (fun hb => ?_)
    refine zw_s (pc' := 31) rfl rfl ?_
    refine zw_ri rfl rfl ?_
    exact ⟨_, _, rfl, zt_thr (zt_thr hB), zf_I (zf_I (zf_r H) rfl) rfl, congrArg Int32.toInt (zw_ne (zw_ne rfl rfl) rfl)⟩
  · refine zw_ld (n := 1) (k := 1) (f := zp_isI) (pc' := 11) rfl rfl rfl rfl rfl ?_
    refine zw_ld (n := 1) (k := 0) (f := zp_isR) (pc' := 12) rfl rfl rfl rfl rfl ?_
    refine zw_gI (q := 72) (pc' := 15) W rfl rfl rfl rfl (zw_ne rfl rfl) rfl ?_
    refine zw_bgt2 (g := 22) (pc' := 18) rfl rfl rfl rfl rfl (fun h2 => ?_) (fun h2 => ?_)
    · refine zw_s (pc' := 23) rfl rfl ?_
      refine zw_s (pc' := 24) rfl rfl ?_
      refine zw_c (pc' := 27) (zw_cv (q := 72) (Y := zm_170) W.1 rfl rfl zm_170_t rfl rfl) rfl rfl rfl rfl rfl (zq_right0 (H := zw_I H 72 0 (Int32.ofInt 0)) W h0 (by decide)) ?_
      refine zw_bne1 (g := 32) (pc' := 30) rfl rfl rfl (rfl : _ = (0 : Int)) (fun h9 => absurd h9 (by decide)) (fun hb => ?_)
      refine zw_s (pc' := 31) rfl rfl ?_
      refine zw_ri rfl rfl ?_
      exact ⟨_, _, rfl, zt_thr (zt_thr hB), zf_I (zf_I (zf_r H) rfl) rfl, congrArg Int32.toInt (zw_ne (zw_ne rfl rfl) rfl)⟩
    · exact absurd ⟨h1, h2⟩ hx

set_option maxRecDepth 8000 in
set_option maxHeartbeats 1000000 in
theorem zse_yes {L : Nat} {σ : Nat → Int32} {d : Nat} {H : zp_H} {x : Int32} (hB : zk_Bs zR zg zJ H) (hx : 0 ≤ x.toInt ∧ x.toInt ≤ (H.2.1 72 22).toInt) : ∃ X, zp_Call L σ (d + 13) 169 [.inr (.inr (some 73)), .inl x] H X ∧ zse_P H X := by
  have W := zR_Wd (zR_dn hB)
  have hJ := hB.2.2.2.2.2.2.2
  have tp := zR_fr1 (zR_dn hB) (k := 22) (r := (0, 700)) rfl rfl
  have tp : 0 ≤ (H.2.1 72 22).toInt ∧ (H.2.1 72 22).toInt ≤ 700 := tp
  have t1 : (zw_I H 72 0 (Int32.ofInt 0)).2.1 72 0 = Int32.ofInt 0 := zw_eq
  have h0 : ((zw_I H 72 0 (Int32.ofInt 0)).2.1 72 0).toInt = 0 := by rw [t1]; rfl
  have b0 := zT_putf (k := 0) (x := Int32.ofInt 0) (zT_dn hB) (fun r hr => by cases hr) rfl trivial
  have d0 := zT_putf (k := 22) (x := Int32.ofInt 0) b0 (fun r hr => by cases hr; exact ⟨by decide, by decide⟩) rfl trivial
  have d1 := zT_putf (k := 24) (x := Int32.ofInt (-1)) d0 (fun r hr => by cases hr) rfl trivial
  have d2 := zT_putf (k := 23) (x := Int32.ofInt 0) d1 (fun r hr => by cases hr; exact ⟨by decide, by decide⟩) rfl trivial
  have d3 := zT_putf (k := 26) (x := x) d2 (fun r hr => by cases hr; exact ⟨hx.1, by show x.toInt ≤ (700 : Int); omega⟩) rfl trivial
  have d4 := zT_putf (k := 27) (x := Int32.ofInt 0) d3 (fun r hr => by cases hr; exact ⟨by decide, by decide⟩) rfl trivial
  have d5 := zT_putf (k := 34) (x := Int32.ofInt 6) d4 (fun r hr => by cases hr; exact ⟨by decide, by decide⟩) rfl trivial
  have d6 := zT_putf (k := 35) (x := Int32.ofInt 6) d5 (fun r hr => by cases hr; exact ⟨by decide, by decide⟩) rfl trivial
  have d7 := zT_putf (k := 36) (x := Int32.ofInt 0) d6 (fun r hr => by cases hr) rfl trivial
  have d8 := zT_putf (k := 37) (x := Int32.ofInt 0) d7 (fun r hr => by cases hr) rfl trivial
  have d9 := zT_putf (k := 38) (x := Int32.ofInt 0) d8 (fun r hr => by cases hr; exact ⟨by decide, by decide⟩) rfl trivial
  have d10 := zT_putf (k := 39) (x := Int32.ofInt 0) d9 (fun r hr => by cases hr; exact ⟨by decide, by decide⟩) rfl trivial
  have d11 := zT_putf (k := 40) (x := Int32.ofInt 0) d10 (fun r hr => by cases hr; exact ⟨by decide, by decide⟩) rfl trivial
  have d12 := zT_putf (k := 41) (x := Int32.ofInt 0) d11 (fun r hr => by cases hr; exact ⟨by decide, by decide⟩) rfl trivial
  have d13 := zT_putf (k := 42) (x := Int32.ofInt 0) d12 (fun r hr => by cases hr; exact ⟨by decide, by decide⟩) rfl trivial
  have d14 := zT_putf (k := 43) (x := Int32.ofInt 2) d13 (fun r hr => by cases hr) rfl trivial
  have d15 := zT_putf (k := 44) (x := Int32.ofInt 5) d14 (fun r hr => by cases hr) rfl trivial
  have d16 := zT_putf (k := 48) (x := Int32.ofInt 0) d15 (fun r hr => by cases hr; exact ⟨by decide, by decide⟩) rfl trivial
  have d17 := zT_putf (k := 49) (x := Int32.ofInt 0) d16 (fun r hr => by cases hr; exact ⟨by decide, by decide⟩) rfl trivial
  have dJ := zT_J2 (k := 51) (x := Int64.ofNat 0) d17
  have dT := zT_putf (k := 45) (x := Int32.ofInt 0) dJ (fun r hr => by cases hr; exact ⟨by decide, by decide⟩) rfl trivial
  have jT : zJ (zw_I (zw_J (zw_I (zw_I (zw_I (zw_I (zw_I (zw_I (zw_I (zw_I (zw_I (zw_I (zw_I (zw_I (zw_I (zw_I (zw_I (zw_I (zw_I (zw_I (zw_I H 72 0 (Int32.ofInt 0)) 72 22 (Int32.ofInt 0)) 72 24 (Int32.ofInt (-1))) 72 23 (Int32.ofInt 0)) 72 26 (x)) 72 27 (Int32.ofInt 0)) 72 34 (Int32.ofInt 6)) 72 35 (Int32.ofInt 6)) 72 36 (Int32.ofInt 0)) 72 37 (Int32.ofInt 0)) 72 38 (Int32.ofInt 0)) 72 39 (Int32.ofInt 0)) 72 40 (Int32.ofInt 0)) 72 41 (Int32.ofInt 0)) 72 42 (Int32.ofInt 0)) 72 43 (Int32.ofInt 2)) 72 44 (Int32.ofInt 5)) 72 48 (Int32.ofInt 0)) 72 49 (Int32.ofInt 0)) 72 51 (Int64.ofNat 0)) 72 45 (Int32.ofInt 0)) := zJ_I rfl (show zJ (zw_J _ 72 51 (Int64.ofNat 0)) from (zJ_I rfl (zJ_I rfl (zJ_I rfl (zJ_I rfl (zJ_I rfl (zJ_I rfl (zJ_I rfl (zJ_I rfl (zJ_I rfl (zJ_I rfl (zJ_I rfl (zJ_I rfl (zJ_I rfl (zJ_I rfl (zJ_I rfl (zJ_I rfl (zJ_I rfl (zJ_I rfl (zJ_I rfl hJ))))))))))))))))))))
  have fT : zf_72 H (zw_I (zw_J (zw_I (zw_I (zw_I (zw_I (zw_I (zw_I (zw_I (zw_I (zw_I (zw_I (zw_I (zw_I (zw_I (zw_I (zw_I (zw_I (zw_I (zw_I (zw_I H 72 0 (Int32.ofInt 0)) 72 22 (Int32.ofInt 0)) 72 24 (Int32.ofInt (-1))) 72 23 (Int32.ofInt 0)) 72 26 (x)) 72 27 (Int32.ofInt 0)) 72 34 (Int32.ofInt 6)) 72 35 (Int32.ofInt 6)) 72 36 (Int32.ofInt 0)) 72 37 (Int32.ofInt 0)) 72 38 (Int32.ofInt 0)) 72 39 (Int32.ofInt 0)) 72 40 (Int32.ofInt 0)) 72 41 (Int32.ofInt 0)) 72 42 (Int32.ofInt 0)) 72 43 (Int32.ofInt 2)) 72 44 (Int32.ofInt 5)) 72 48 (Int32.ofInt 0)) 72 49 (Int32.ofInt 0)) 72 51 (Int64.ofNat 0)) 72 45 (Int32.ofInt 0)) := zf_I (zf_J (zf_I (zf_I (zf_I (zf_I (zf_I (zf_I (zf_I (zf_I (zf_I (zf_I (zf_I (zf_I (zf_I (zf_I (zf_I (zf_I (zf_I (zf_I (zf_I (zf_r H) rfl) rfl) rfl) rfl) rfl) rfl) rfl) rfl) rfl) rfl) rfl) rfl) rfl) rfl) rfl) rfl) rfl) rfl) rfl) rfl) rfl
  refine zw_met zm_169_t rfl rfl ?_
  refine zw_ld (n := 1) (k := 0) (f := zp_isR) (pc' := 1) rfl rfl rfl rfl rfl ?_
  refine zw_s (pc' := 2) rfl rfl ?_
  refine zw_pI (q := 72) (pc' := 5) W rfl rfl rfl rfl rfl rfl ?_
  refine zw_ld (n := 1) (k := 0) (f := zp_isR) (pc' := 6) rfl rfl rfl rfl rfl ?_
  refine zw_ld (n := 1) (k := 1) (f := zp_isI) (pc' := 7) rfl rfl rfl rfl rfl ?_
  refine zw_blt1 (g := 22) (pc' := 10) rfl rfl rfl rfl (fun h1 => ?_) (fun h1 => ?_)
  · omega
  · refine zw_ld (n := 1) (k := 1) (f := zp_isI) (pc' := 11) rfl rfl rfl rfl rfl ?_
    refine zw_ld (n := 1) (k := 0) (f := zp_isR) (pc' := 12) rfl rfl rfl rfl rfl ?_
    refine zw_gI (q := 72) (pc' := 15) W rfl rfl rfl rfl (zw_ne rfl rfl) rfl ?_
    refine zw_bgt2 (g := 22) (pc' := 18) rfl rfl rfl rfl rfl (fun h2 => ?_) (fun h2 => ?_)
    · omega
    · refine zw_s (pc' := 19) rfl rfl ?_
      refine zw_s (pc' := 23) rfl rfl ?_
      refine zw_s (pc' := 24) rfl rfl ?_
      refine zw_c (pc' := 27) (zw_cv (q := 72) (Y := zm_170) W.1 rfl rfl zm_170_t rfl rfl) rfl rfl rfl rfl rfl (zq_right1 (H := zw_I H 72 0 (Int32.ofInt 0)) W h0) ?_
      refine zw_bne1 (g := 32) (pc' := 30) rfl rfl rfl (rfl : _ = (1 : Int)) (fun hb => ?_) (fun h9 => absurd h9 (by decide))
      refine zw_ld (n := 1) (k := 0) (f := zp_isR) (pc' := 33) rfl rfl rfl rfl rfl ?_
      refine zw_s (pc' := 34) rfl rfl ?_
      refine zw_pI (q := 72) (pc' := 37) (zw_W_I W) rfl rfl rfl rfl rfl rfl ?_
      refine zw_ld (n := 1) (k := 0) (f := zp_isR) (pc' := 38) rfl rfl rfl rfl rfl ?_
      refine zw_s (pc' := 39) rfl rfl ?_
      refine zw_pI (q := 72) (pc' := 42) (zw_W_I (zw_W_I W)) rfl rfl rfl rfl rfl rfl ?_
      refine zw_ld (n := 1) (k := 0) (f := zp_isR) (pc' := 43) rfl rfl rfl rfl rfl ?_
      refine zw_s (pc' := 44) rfl rfl ?_
      refine zw_pI (q := 72) (pc' := 47) (zw_W_I (zw_W_I (zw_W_I W))) rfl rfl rfl rfl rfl rfl ?_
      refine zw_ld (n := 1) (k := 0) (f := zp_isR) (pc' := 48) rfl rfl rfl rfl rfl ?_
      refine zw_ld (n := 1) (k := 1) (f := zp_isI) (pc' := 49) rfl rfl rfl rfl rfl ?_
      refine zw_pI (q := 72) (pc' := 52) (zw_W_I (zw_W_I (zw_W_I (zw_W_I W)))) rfl rfl rfl rfl rfl rfl ?_
      refine zw_ld (n := 1) (k := 0) (f := zp_isR) (pc' := 53) rfl rfl rfl rfl rfl ?_
      refine zw_s (pc' := 54) rfl rfl ?_
      refine zw_pI (q := 72) (pc' := 57) (zw_W_I (zw_W_I (zw_W_I (zw_W_I (zw_W_I W))))) rfl rfl rfl rfl rfl rfl ?_
      refine zw_ld (n := 1) (k := 0) (f := zp_isR) (pc' := 58) rfl rfl rfl rfl rfl ?_
      refine zw_s (pc' := 60) rfl rfl ?_
      refine zw_pI (q := 72) (pc' := 63) (zw_W_I (zw_W_I (zw_W_I (zw_W_I (zw_W_I (zw_W_I W)))))) rfl rfl rfl rfl rfl rfl ?_
      refine zw_ld (n := 1) (k := 0) (f := zp_isR) (pc' := 64) rfl rfl rfl rfl rfl ?_
      refine zw_s (pc' := 66) rfl rfl ?_
      refine zw_pI (q := 72) (pc' := 69) (zw_W_I (zw_W_I (zw_W_I (zw_W_I (zw_W_I (zw_W_I (zw_W_I W))))))) rfl rfl rfl rfl rfl rfl ?_
      refine zw_ld (n := 1) (k := 0) (f := zp_isR) (pc' := 70) rfl rfl rfl rfl rfl ?_
      refine zw_s (pc' := 71) rfl rfl ?_
      refine zw_pI (q := 72) (pc' := 74) (zw_W_I (zw_W_I (zw_W_I (zw_W_I (zw_W_I (zw_W_I (zw_W_I (zw_W_I W)))))))) rfl rfl rfl rfl rfl rfl ?_
      refine zw_ld (n := 1) (k := 0) (f := zp_isR) (pc' := 75) rfl rfl rfl rfl rfl ?_
      refine zw_s (pc' := 76) rfl rfl ?_
      refine zw_pI (q := 72) (pc' := 79) (zw_W_I (zw_W_I (zw_W_I (zw_W_I (zw_W_I (zw_W_I (zw_W_I (zw_W_I (zw_W_I W))))))))) rfl rfl rfl rfl rfl rfl ?_
      refine zw_ld (n := 1) (k := 0) (f := zp_isR) (pc' := 80) rfl rfl rfl rfl rfl ?_
      refine zw_s (pc' := 81) rfl rfl ?_
      refine zw_pI (q := 72) (pc' := 84) (zw_W_I (zw_W_I (zw_W_I (zw_W_I (zw_W_I (zw_W_I (zw_W_I (zw_W_I (zw_W_I (zw_W_I W)))))))))) rfl rfl rfl rfl rfl rfl ?_
      refine zw_ld (n := 1) (k := 0) (f := zp_isR) (pc' := 85) rfl rfl rfl rfl rfl ?_
      refine zw_s (pc' := 86) rfl rfl ?_
      refine zw_pI (q := 72) (pc' := 89) (zw_W_I (zw_W_I (zw_W_I (zw_W_I (zw_W_I (zw_W_I (zw_W_I (zw_W_I (zw_W_I (zw_W_I (zw_W_I W))))))))))) rfl rfl rfl rfl rfl rfl ?_
      refine zw_ld (n := 1) (k := 0) (f := zp_isR) (pc' := 90) rfl rfl rfl rfl rfl ?_
      refine zw_s (pc' := 91) rfl rfl ?_
      refine zw_pI (q := 72) (pc' := 94) (zw_W_I (zw_W_I (zw_W_I (zw_W_I (zw_W_I (zw_W_I (zw_W_I (zw_W_I (zw_W_I (zw_W_I (zw_W_I (zw_W_I W)))))))))))) rfl rfl rfl rfl rfl rfl ?_
      refine zw_ld (n := 1) (k := 0) (f := zp_isR) (pc' := 95) rfl rfl rfl rfl rfl ?_
      refine zw_s (pc' := 96) rfl rfl ?_
      refine zw_pI (q := 72) (pc' := 99) (zw_W_I (zw_W_I (zw_W_I (zw_W_I (zw_W_I (zw_W_I (zw_W_I (zw_W_I (zw_W_I (zw_W_I (zw_W_I (zw_W_I (zw_W_I W))))))))))))) rfl rfl rfl rfl rfl rfl ?_
      refine zw_ld (n := 1) (k := 0) (f := zp_isR) (pc' := 100) rfl rfl rfl rfl rfl ?_
      refine zw_s (pc' := 101) rfl rfl ?_
      refine zw_pI (q := 72) (pc' := 104) (zw_W_I (zw_W_I (zw_W_I (zw_W_I (zw_W_I (zw_W_I (zw_W_I (zw_W_I (zw_W_I (zw_W_I (zw_W_I (zw_W_I (zw_W_I (zw_W_I W)))))))))))))) rfl rfl rfl rfl rfl rfl ?_
      refine zw_ld (n := 1) (k := 0) (f := zp_isR) (pc' := 105) rfl rfl rfl rfl rfl ?_
      refine zw_s (pc' := 106) rfl rfl ?_
      refine zw_pI (q := 72) (pc' := 109) (zw_W_I (zw_W_I (zw_W_I (zw_W_I (zw_W_I (zw_W_I (zw_W_I (zw_W_I (zw_W_I (zw_W_I (zw_W_I (zw_W_I (zw_W_I (zw_W_I (zw_W_I W))))))))))))))) rfl rfl rfl rfl rfl rfl ?_
      refine zw_ld (n := 1) (k := 0) (f := zp_isR) (pc' := 110) rfl rfl rfl rfl rfl ?_
      refine zw_s (pc' := 111) rfl rfl ?_
      refine zw_pI (q := 72) (pc' := 114) (zw_W_I (zw_W_I (zw_W_I (zw_W_I (zw_W_I (zw_W_I (zw_W_I (zw_W_I (zw_W_I (zw_W_I (zw_W_I (zw_W_I (zw_W_I (zw_W_I (zw_W_I (zw_W_I W)))))))))))))))) rfl rfl rfl rfl rfl rfl ?_
      refine zw_ld (n := 1) (k := 0) (f := zp_isR) (pc' := 115) rfl rfl rfl rfl rfl ?_
      refine zw_s (pc' := 116) rfl rfl ?_
      refine zw_pI (q := 72) (pc' := 119) (zw_W_I (zw_W_I (zw_W_I (zw_W_I (zw_W_I (zw_W_I (zw_W_I (zw_W_I (zw_W_I (zw_W_I (zw_W_I (zw_W_I (zw_W_I (zw_W_I (zw_W_I (zw_W_I (zw_W_I W))))))))))))))))) rfl rfl rfl rfl (rfl) rfl ?_
      refine zw_ld (n := 1) (k := 0) (f := zp_isR) (pc' := 120) rfl rfl rfl rfl rfl ?_
      refine zw_s (pc' := 121) rfl rfl ?_
      refine zw_pI (q := 72) (pc' := 124) (zw_W_I (zw_W_I (zw_W_I (zw_W_I (zw_W_I (zw_W_I (zw_W_I (zw_W_I (zw_W_I (zw_W_I (zw_W_I (zw_W_I (zw_W_I (zw_W_I (zw_W_I (zw_W_I (zw_W_I (zw_W_I W)))))))))))))))))) rfl rfl rfl rfl (rfl) rfl ?_
      refine zw_ld (n := 1) (k := 0) (f := zp_isR) (pc' := 125) rfl rfl rfl rfl rfl ?_
      refine zw_s (pc' := 126) rfl rfl ?_
      refine zw_pL (q := 72) (pc' := 129) (zw_W_I (zw_W_I (zw_W_I (zw_W_I (zw_W_I (zw_W_I (zw_W_I (zw_W_I (zw_W_I (zw_W_I (zw_W_I (zw_W_I (zw_W_I (zw_W_I (zw_W_I (zw_W_I (zw_W_I (zw_W_I (zw_W_I W))))))))))))))))))) rfl rfl rfl rfl rfl rfl ?_
      refine zw_ld (n := 1) (k := 0) (f := zp_isR) (pc' := 130) rfl rfl rfl rfl rfl ?_
      refine zw_s (pc' := 131) rfl rfl ?_
      refine zw_pI (q := 72) (pc' := 134) (zw_W_J (zw_W_I (zw_W_I (zw_W_I (zw_W_I (zw_W_I (zw_W_I (zw_W_I (zw_W_I (zw_W_I (zw_W_I (zw_W_I (zw_W_I (zw_W_I (zw_W_I (zw_W_I (zw_W_I (zw_W_I (zw_W_I (zw_W_I W)))))))))))))))))))) rfl rfl rfl rfl rfl rfl ?_
      refine zw_s (pc' := 135) rfl rfl ?_
      refine zw_st (n := 1) (k := 2) (f := zp_isI) (pc' := 136) rfl rfl rfl rfl rfl ?_
      have v22 : (zw_I (zw_J (zw_I (zw_I (zw_I (zw_I (zw_I (zw_I (zw_I (zw_I (zw_I (zw_I (zw_I (zw_I (zw_I (zw_I (zw_I (zw_I (zw_I (zw_I (zw_I H 72 0 (Int32.ofInt 0)) 72 22 (Int32.ofInt 0)) 72 24 (Int32.ofInt (-1))) 72 23 (Int32.ofInt 0)) 72 26 (x)) 72 27 (Int32.ofInt 0)) 72 34 (Int32.ofInt 6)) 72 35 (Int32.ofInt 6)) 72 36 (Int32.ofInt 0)) 72 37 (Int32.ofInt 0)) 72 38 (Int32.ofInt 0)) 72 39 (Int32.ofInt 0)) 72 40 (Int32.ofInt 0)) 72 41 (Int32.ofInt 0)) 72 42 (Int32.ofInt 0)) 72 43 (Int32.ofInt 2)) 72 44 (Int32.ofInt 5)) 72 48 (Int32.ofInt 0)) 72 49 (Int32.ofInt 0)) 72 51 (Int64.ofNat 0)) 72 45 (Int32.ofInt 0)).2.1 72 22 = Int32.ofInt 0 := (zw_ne (zw_nj (zw_ne (zw_ne (zw_ne (zw_ne (zw_ne (zw_ne (zw_ne (zw_ne (zw_ne (zw_ne (zw_ne (zw_ne (zw_ne (zw_ne (zw_ne (zw_ne (zw_ne zw_eq rfl) rfl) rfl) rfl) rfl) rfl) rfl) rfl) rfl) rfl) rfl) rfl) rfl) rfl) rfl) rfl) rfl)) rfl)
      have v23 : (zw_I (zw_J (zw_I (zw_I (zw_I (zw_I (zw_I (zw_I (zw_I (zw_I (zw_I (zw_I (zw_I (zw_I (zw_I (zw_I (zw_I (zw_I (zw_I (zw_I (zw_I H 72 0 (Int32.ofInt 0)) 72 22 (Int32.ofInt 0)) 72 24 (Int32.ofInt (-1))) 72 23 (Int32.ofInt 0)) 72 26 (x)) 72 27 (Int32.ofInt 0)) 72 34 (Int32.ofInt 6)) 72 35 (Int32.ofInt 6)) 72 36 (Int32.ofInt 0)) 72 37 (Int32.ofInt 0)) 72 38 (Int32.ofInt 0)) 72 39 (Int32.ofInt 0)) 72 40 (Int32.ofInt 0)) 72 41 (Int32.ofInt 0)) 72 42 (Int32.ofInt 0)) 72 43 (Int32.ofInt 2)) 72 44 (Int32.ofInt 5)) 72 48 (Int32.ofInt 0)) 72 49 (Int32.ofInt 0)) 72 51 (Int64.ofNat 0)) 72 45 (Int32.ofInt 0)).2.1 72 23 = Int32.ofInt 0 := (zw_ne (zw_nj (zw_ne (zw_ne (zw_ne (zw_ne (zw_ne (zw_ne (zw_ne (zw_ne (zw_ne (zw_ne (zw_ne (zw_ne (zw_ne (zw_ne (zw_ne zw_eq rfl) rfl) rfl) rfl) rfl) rfl) rfl) rfl) rfl) rfl) rfl) rfl) rfl) rfl) rfl)) rfl)
      have v27 : (zw_I (zw_J (zw_I (zw_I (zw_I (zw_I (zw_I (zw_I (zw_I (zw_I (zw_I (zw_I (zw_I (zw_I (zw_I (zw_I (zw_I (zw_I (zw_I (zw_I (zw_I H 72 0 (Int32.ofInt 0)) 72 22 (Int32.ofInt 0)) 72 24 (Int32.ofInt (-1))) 72 23 (Int32.ofInt 0)) 72 26 (x)) 72 27 (Int32.ofInt 0)) 72 34 (Int32.ofInt 6)) 72 35 (Int32.ofInt 6)) 72 36 (Int32.ofInt 0)) 72 37 (Int32.ofInt 0)) 72 38 (Int32.ofInt 0)) 72 39 (Int32.ofInt 0)) 72 40 (Int32.ofInt 0)) 72 41 (Int32.ofInt 0)) 72 42 (Int32.ofInt 0)) 72 43 (Int32.ofInt 2)) 72 44 (Int32.ofInt 5)) 72 48 (Int32.ofInt 0)) 72 49 (Int32.ofInt 0)) 72 51 (Int64.ofNat 0)) 72 45 (Int32.ofInt 0)).2.1 72 27 = Int32.ofInt 0 := (zw_ne (zw_nj (zw_ne (zw_ne (zw_ne (zw_ne (zw_ne (zw_ne (zw_ne (zw_ne (zw_ne (zw_ne (zw_ne (zw_ne (zw_ne zw_eq rfl) rfl) rfl) rfl) rfl) rfl) rfl) rfl) rfl) rfl) rfl) rfl) rfl)) rfl)
      have v34 : (zw_I (zw_J (zw_I (zw_I (zw_I (zw_I (zw_I (zw_I (zw_I (zw_I (zw_I (zw_I (zw_I (zw_I (zw_I (zw_I (zw_I (zw_I (zw_I (zw_I (zw_I H 72 0 (Int32.ofInt 0)) 72 22 (Int32.ofInt 0)) 72 24 (Int32.ofInt (-1))) 72 23 (Int32.ofInt 0)) 72 26 (x)) 72 27 (Int32.ofInt 0)) 72 34 (Int32.ofInt 6)) 72 35 (Int32.ofInt 6)) 72 36 (Int32.ofInt 0)) 72 37 (Int32.ofInt 0)) 72 38 (Int32.ofInt 0)) 72 39 (Int32.ofInt 0)) 72 40 (Int32.ofInt 0)) 72 41 (Int32.ofInt 0)) 72 42 (Int32.ofInt 0)) 72 43 (Int32.ofInt 2)) 72 44 (Int32.ofInt 5)) 72 48 (Int32.ofInt 0)) 72 49 (Int32.ofInt 0)) 72 51 (Int64.ofNat 0)) 72 45 (Int32.ofInt 0)).2.1 72 34 = Int32.ofInt 6 := (zw_ne (zw_nj (zw_ne (zw_ne (zw_ne (zw_ne (zw_ne (zw_ne (zw_ne (zw_ne (zw_ne (zw_ne (zw_ne (zw_ne zw_eq rfl) rfl) rfl) rfl) rfl) rfl) rfl) rfl) rfl) rfl) rfl) rfl)) rfl)
      have v35 : (zw_I (zw_J (zw_I (zw_I (zw_I (zw_I (zw_I (zw_I (zw_I (zw_I (zw_I (zw_I (zw_I (zw_I (zw_I (zw_I (zw_I (zw_I (zw_I (zw_I (zw_I H 72 0 (Int32.ofInt 0)) 72 22 (Int32.ofInt 0)) 72 24 (Int32.ofInt (-1))) 72 23 (Int32.ofInt 0)) 72 26 (x)) 72 27 (Int32.ofInt 0)) 72 34 (Int32.ofInt 6)) 72 35 (Int32.ofInt 6)) 72 36 (Int32.ofInt 0)) 72 37 (Int32.ofInt 0)) 72 38 (Int32.ofInt 0)) 72 39 (Int32.ofInt 0)) 72 40 (Int32.ofInt 0)) 72 41 (Int32.ofInt 0)) 72 42 (Int32.ofInt 0)) 72 43 (Int32.ofInt 2)) 72 44 (Int32.ofInt 5)) 72 48 (Int32.ofInt 0)) 72 49 (Int32.ofInt 0)) 72 51 (Int64.ofNat 0)) 72 45 (Int32.ofInt 0)).2.1 72 35 = Int32.ofInt 6 := (zw_ne (zw_nj (zw_ne (zw_ne (zw_ne (zw_ne (zw_ne (zw_ne (zw_ne (zw_ne (zw_ne (zw_ne (zw_ne zw_eq rfl) rfl) rfl) rfl) rfl) rfl) rfl) rfl) rfl) rfl) rfl)) rfl)
      have v41 : (zw_I (zw_J (zw_I (zw_I (zw_I (zw_I (zw_I (zw_I (zw_I (zw_I (zw_I (zw_I (zw_I (zw_I (zw_I (zw_I (zw_I (zw_I (zw_I (zw_I (zw_I H 72 0 (Int32.ofInt 0)) 72 22 (Int32.ofInt 0)) 72 24 (Int32.ofInt (-1))) 72 23 (Int32.ofInt 0)) 72 26 (x)) 72 27 (Int32.ofInt 0)) 72 34 (Int32.ofInt 6)) 72 35 (Int32.ofInt 6)) 72 36 (Int32.ofInt 0)) 72 37 (Int32.ofInt 0)) 72 38 (Int32.ofInt 0)) 72 39 (Int32.ofInt 0)) 72 40 (Int32.ofInt 0)) 72 41 (Int32.ofInt 0)) 72 42 (Int32.ofInt 0)) 72 43 (Int32.ofInt 2)) 72 44 (Int32.ofInt 5)) 72 48 (Int32.ofInt 0)) 72 49 (Int32.ofInt 0)) 72 51 (Int64.ofNat 0)) 72 45 (Int32.ofInt 0)).2.1 72 41 = Int32.ofInt 0 := (zw_ne (zw_nj (zw_ne (zw_ne (zw_ne (zw_ne (zw_ne zw_eq rfl) rfl) rfl) rfl) rfl)) rfl)
      have v45 : (zw_I (zw_J (zw_I (zw_I (zw_I (zw_I (zw_I (zw_I (zw_I (zw_I (zw_I (zw_I (zw_I (zw_I (zw_I (zw_I (zw_I (zw_I (zw_I (zw_I (zw_I H 72 0 (Int32.ofInt 0)) 72 22 (Int32.ofInt 0)) 72 24 (Int32.ofInt (-1))) 72 23 (Int32.ofInt 0)) 72 26 (x)) 72 27 (Int32.ofInt 0)) 72 34 (Int32.ofInt 6)) 72 35 (Int32.ofInt 6)) 72 36 (Int32.ofInt 0)) 72 37 (Int32.ofInt 0)) 72 38 (Int32.ofInt 0)) 72 39 (Int32.ofInt 0)) 72 40 (Int32.ofInt 0)) 72 41 (Int32.ofInt 0)) 72 42 (Int32.ofInt 0)) 72 43 (Int32.ofInt 2)) 72 44 (Int32.ofInt 5)) 72 48 (Int32.ofInt 0)) 72 49 (Int32.ofInt 0)) 72 51 (Int64.ofNat 0)) 72 45 (Int32.ofInt 0)).2.1 72 45 = Int32.ofInt 0 := zw_eq
      show zs_Safe L σ (zse_P H) zm_169 [] (d + 12) (136, zp_st1 (zp_args 0 [.inr (.inr (some 73)), .inl x]) 2 (.inl (Int32.ofInt 0)), [], zw_I (zw_J (zw_I (zw_I (zw_I (zw_I (zw_I (zw_I (zw_I (zw_I (zw_I (zw_I (zw_I (zw_I (zw_I (zw_I (zw_I (zw_I (zw_I (zw_I (zw_I H 72 0 (Int32.ofInt 0)) 72 22 (Int32.ofInt 0)) 72 24 (Int32.ofInt (-1))) 72 23 (Int32.ofInt 0)) 72 26 (x)) 72 27 (Int32.ofInt 0)) 72 34 (Int32.ofInt 6)) 72 35 (Int32.ofInt 6)) 72 36 (Int32.ofInt 0)) 72 37 (Int32.ofInt 0)) 72 38 (Int32.ofInt 0)) 72 39 (Int32.ofInt 0)) 72 40 (Int32.ofInt 0)) 72 41 (Int32.ofInt 0)) 72 42 (Int32.ofInt 0)) 72 43 (Int32.ofInt 2)) 72 44 (Int32.ofInt 5)) 72 48 (Int32.ofInt 0)) 72 49 (Int32.ofInt 0)) 72 51 (Int64.ofNat 0)) 72 45 (Int32.ofInt 0), (0, 0))
      generalize hT : zw_I (zw_J (zw_I (zw_I (zw_I (zw_I (zw_I (zw_I (zw_I (zw_I (zw_I (zw_I (zw_I (zw_I (zw_I (zw_I (zw_I (zw_I (zw_I (zw_I (zw_I H 72 0 (Int32.ofInt 0)) 72 22 (Int32.ofInt 0)) 72 24 (Int32.ofInt (-1))) 72 23 (Int32.ofInt 0)) 72 26 (x)) 72 27 (Int32.ofInt 0)) 72 34 (Int32.ofInt 6)) 72 35 (Int32.ofInt 6)) 72 36 (Int32.ofInt 0)) 72 37 (Int32.ofInt 0)) 72 38 (Int32.ofInt 0)) 72 39 (Int32.ofInt 0)) 72 40 (Int32.ofInt 0)) 72 41 (Int32.ofInt 0)) 72 42 (Int32.ofInt 0)) 72 43 (Int32.ofInt 2)) 72 44 (Int32.ofInt 5)) 72 48 (Int32.ofInt 0)) 72 49 (Int32.ofInt 0)) 72 51 (Int64.ofNat 0)) 72 45 (Int32.ofInt 0) = H1 at dT jT fT v22 v23 v27 v34 v35 v41 v45 ⊢
      refine zse_fill (H0 := H) (H1 := H1) ?_ 64 H1 (zp_st1 (zp_args 0 [.inr (.inr (some 73)), .inl x]) 2 (.inl (Int32.ofInt 0))) (Int32.ofInt 0) ⟨dT, jT, fT, fun _ => rfl⟩ (zw_gt rfl rfl rfl) zw_g1 (by decide) (by decide)
      intro K lv hN l0
      obtain ⟨b, kJ, kF, k72⟩ := hN
      have WK := zT_Wd b
      have b2 := zT_putf (k := 50) (x := Int32.ofInt 1) b (fun r hr => by cases hr; exact ⟨by decide, by decide⟩) rfl trivial
      have f : ∀ k, Nat.beq k 50 = false → (zw_I K 72 50 (Int32.ofInt 1)).2.1 72 k = H1.2.1 72 k := fun k hk => (zw_ne rfl (by rw [hk]; rfl)).trans (k72 k)
      have hBK : zk_Bs zR zg zJ (zw_I K 72 50 (Int32.ofInt 1)) := zT_up b2 (zJ_I rfl kJ) (by
        unfold zR_cc
        rw [f 34 rfl, f 35 rfl, v34, v35]
        exact fun _ => by decide)
      obtain ⟨R, c1, c2, c3, c4, c5⟩ := zx_goes (L := L) (σ := σ) (d := d + 10) hBK
      have e45 := zx_fe c3 45 rfl rfl rfl
      have e22 := zx_fe c3 22 rfl rfl rfl
      have e41 := zx_fe c3 41 rfl rfl rfl
      rw [f 45 rfl, v45] at e45
      rw [f 22 rfl, v22] at e22
      rw [f 41 rfl, v41] at e41
      rw [f 27 rfl, v27] at c4
      have z0 : (Int32.ofInt 0).toInt = 0 := rfl
      have WR := zR_Wd (zR_dn c2)
      refine zw_ld (n := 1) (k := 0) (f := zp_isR) (pc' := 156) rfl rfl l0 rfl rfl ?_
      refine zw_s (pc' := 157) rfl rfl ?_
      refine zw_pI (q := 72) (pc' := 160) WK rfl rfl rfl rfl (rfl) rfl ?_
      refine zw_ld (n := 1) (k := 0) (f := zp_isR) (pc' := 161) rfl rfl l0 rfl rfl ?_
      refine zw_cn (pc' := 164) (zw_cv (q := 72) (Y := zm_171) WK.1 rfl rfl zm_171_t rfl rfl) rfl rfl rfl rfl rfl (c1) ?_
      refine zse_L (fun H2 lv2 => zse_fin (d := d + 11) H2 lv2) _ R _ rfl ⟨c2, zf_t (zf_I kF rfl) (zf_of c3 rfl rfl), by omega, by omega, fun _ => ⟨fun r hr => ?_, fun _ => by omega⟩⟩ l0
      omega
