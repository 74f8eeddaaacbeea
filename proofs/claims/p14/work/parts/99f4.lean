/-! ===== the reference: sea, exactly ===== -/

def ysr_N (H0 H1 : zp_H) (x : Int) (H : zp_H) : Prop := zse_N H0 H1 H ∧ (∀ p, p ≠ 83 → H.2.1 p = H1.2.1 p) ∧ H.2.2.1 = H1.2.2.1 ∧ ∀ c : Nat, (c : Int) < x → (H.2.1 83 c).toInt = -1

set_option maxHeartbeats 4000000 in
set_option maxRecDepth 8000 in
theorem ysr_fill {L : Nat} {σ : Nat → Int32} {d : Nat} {Tx : Nat → Int} {nx : Nat} {H0 H1 : zp_H} (hk : ∀ (H : zp_H) (lv : zp_LV), ysr_N H0 H1 64 H → zp_get lv 0 = some (.inr (.inr (some 73))) → zs_Safe L σ (ysr_P Tx nx H0) zm_169 [] (d + 12) (155, lv, [], H, (0, 0))) : ∀ (n : Nat) (H : zp_H) (lv : zp_LV) (x : Int32), ysr_N H0 H1 x.toInt H → zp_get lv 0 = some (.inr (.inr (some 73))) → zp_get lv 2 = some (.inl x) → 0 ≤ x.toInt → (64 - x.toInt).toNat ≤ n → zs_Safe L σ (ysr_P Tx nx H0) zm_169 [] (d + 12) (136, lv, [], H, (0, 0)) := by
  intro n
  induction n with
  | zero =>
    intro H lv x hN l0 l2 hx hn
    obtain ⟨⟨b, hJ, hF, h72⟩, k81, kL, k83⟩ := hN
    have W := zT_Wd b
    refine zw_ld (n := 1) (k := 2) (f := zp_isI) (pc' := 137) rfl rfl l2 rfl rfl ?_
    refine zw_s (pc' := 139) rfl rfl ?_
    refine zw_bge2 (g := 155) (pc' := 142) rfl rfl rfl rfl (rfl : _ = (64 : Int)) (fun hb => ?_) (fun hb => ?_)
    · exact hk H lv ⟨⟨b, hJ, hF, h72⟩, k81, kL, fun c hc => k83 c (by omega)⟩ l0
    · omega
  | succ n ih =>
    intro H lv x hN l0 l2 hx hn
    obtain ⟨⟨b, hJ, hF, h72⟩, k81, kL, k83⟩ := hN
    have W := zT_Wd b
    refine zw_ld (n := 1) (k := 2) (f := zp_isI) (pc' := 137) rfl rfl l2 rfl rfl ?_
    refine zw_s (pc' := 139) rfl rfl ?_
    refine zw_bge2 (g := 155) (pc' := 142) rfl rfl rfl rfl (rfl : _ = (64 : Int)) (fun hb => ?_) (fun hb => ?_)
    · exact hk H lv ⟨⟨b, hJ, hF, h72⟩, k81, kL, fun c hc => k83 c (by omega)⟩ l0
    · have e1 : (x + Int32.ofInt 1).toInt = x.toInt + 1 := zw_p1 (by omega)
      refine zw_ld (n := 1) (k := 0) (f := zp_isR) (pc' := 143) rfl rfl l0 rfl rfl ?_
      refine zw_gR (q := 72) (pc' := 146) W rfl rfl rfl rfl (W.2 72 52 _ rfl) rfl ?_
      refine zw_ld (n := 1) (k := 2) (f := zp_isI) (pc' := 147) rfl rfl l2 rfl rfl ?_
      refine zw_s (pc' := 148) rfl rfl ?_
      refine zw_is (q := 83) (pc' := 149) W rfl rfl (by decide) (⟨by omega, by show _ < ((64 : Nat) : Int); omega⟩) rfl ?_
      refine zw_ii (pc' := 152) rfl l2 rfl rfl ?_
      refine zw_s (pc' := 136) rfl rfl ?_
      refine ih _ _ _ ⟨⟨zT_puta (p := 83) (j := x.toInt.toNat) (x := zp_nar 0 (Int32.ofInt (-1))) (t := 0) (n := 64) b rfl (fun r hr => by
        have hr : [((-1 : Int), (3 : Int))][x.toInt.toNat % 1]? = some r := hr
        rw [Nat.mod_one] at hr
        cases hr
        exact ⟨by decide, by decide⟩) trivial, zJ_I rfl hJ, zf_I hF rfl, fun j => (zw_ne rfl rfl).trans (h72 j)⟩, fun p hp => (funext (fun j => y_ne (fun h9 => hp h9.1))).trans (k81 p hp), kL, fun c hc => ?_⟩ (zw_gt l0 rfl rfl) zw_g1 (by omega) (by omega)
      by_cases h9 : c = x.toInt.toNat
      · rw [h9, show (zw_I H 83 x.toInt.toNat (zp_nar 0 (Int32.ofInt (-1)))).2.1 83 x.toInt.toNat = zp_nar 0 (Int32.ofInt (-1)) from zw_eq]
        rfl
      · rw [y_ne (fun h8 => h9 h8.2)]
        exact k83 c (by omega)

set_option maxHeartbeats 4000000 in
set_option maxRecDepth 8000 in
theorem ysr_yes {L : Nat} {σ : Nat → Int32} {d : Nat} {Tx : Nat → Int} {nx : Nat} {H : zp_H} {x : Int32} (hby : ∀ k, k < nx → -128 ≤ Tx k ∧ Tx k ≤ 127) (hB : zk_Bs z0R zg zJ H) (hn : x.toInt = nx) (hTx : ∀ k, k < nx → (H.2.1 81 k).toInt = ys_u (Tx k)) (hx : 0 ≤ x.toInt ∧ x.toInt ≤ (H.2.1 72 22).toInt) : ∃ X, zp_Call L σ (d + 13) 169 [.inr (.inr (some 73)), .inl x] H X ∧ ysr_P Tx nx H X := by
  have W := zR_Wd (z0R_dn hB)
  have hJ := hB.2.2.2.2.2.2.2
  have tp := zR_fr1 (z0R_dn hB) (k := 22) (r := (0, 700)) rfl rfl
  have tp : 0 ≤ (H.2.1 72 22).toInt ∧ (H.2.1 72 22).toInt ≤ 700 := tp
  have t1 : (zw_I H 72 0 (Int32.ofInt 0)).2.1 72 0 = Int32.ofInt 0 := zw_eq
  have h0 : ((zw_I H 72 0 (Int32.ofInt 0)).2.1 72 0).toInt = 0 := by rw [t1]; rfl
  have b0 := zT_putf (k := 0) (x := Int32.ofInt 0) (z0T_dn hB) (fun r hr => by cases hr) rfl trivial
  have d0 := zT_putf (k := 22) (x := Int32.ofInt 0) b0 (fun r hr => by cases hr; exact ⟨by decide, by decide⟩) rfl trivial
  have d1 := zT_putf (k := 24) (x := Int32.ofInt (-1)) d0 (fun r hr => by cases hr) rfl trivial
  have d2 := zT_putf (k := 23) (x := Int32.ofInt 0) d1 (fun r hr => by cases hr; exact ⟨by decide, by decide⟩) rfl trivial
  have d3 := zT_putf (k := 26) (x := x) d2 (fun r hr => by cases hr; exact ⟨hx.1, by show x.toInt ≤ (700 : Int); omega⟩) rfl trivial
  have d4 := zT_putf (k := 27) (x := Int32.ofInt 0) d3 (fun r hr => by cases hr; exact ⟨by decide, by decide⟩) rfl trivial
  have d5 := zT_putf (k := 34) (x := Int32.ofInt 6) d4 (fun r hr => by cases hr; exact ⟨by decide, by decide⟩) rfl trivial
  have d6 := zT_putf (k := 35) (x := Int32.ofInt 6) d5 (fun r hr => by cases hr; exact ⟨by decide, by decide⟩) rfl trivial
  have d7 := zT_putf (k := 36) (x := Int32.ofInt 0) d6 (fun r hr => by cases hr) rfl trivial
  have d8 := zT_putf (k := 37) (x := Int32.ofInt 0) d7 (fun r hr => by cases hr) rfl trivial
  have d9 := zT_putf (k := 38) (x := Int32.ofInt 0) d8 (fun r hr => by cases hr; exact ⟨by decide, by decide⟩) rfl trivial
  have d10 := zT_putf (k := 39) (x := Int32.ofInt 0) d9 (fun r hr => by cases hr; exact ⟨by decide, by decide⟩) rfl trivial
  have d11 := zT_putf (k := 40) (x := Int32.ofInt 0) d10 (fun r hr => by cases hr; exact ⟨by decide, by decide⟩) rfl trivial
  have d12 := zT_putf (k := 41) (x := Int32.ofInt 0) d11 (fun r hr => by cases hr; exact ⟨by decide, by decide⟩) rfl trivial
  have d13 := zT_putf (k := 42) (x := Int32.ofInt 0) d12 (fun r hr => by cases hr; exact ⟨by decide, by decide⟩) rfl trivial
  have d14 := zT_putf (k := 43) (x := Int32.ofInt 2) d13 (fun r hr => by cases hr) rfl trivial
  have d15 := zT_putf (k := 44) (x := Int32.ofInt 5) d14 (fun r hr => by cases hr) rfl trivial
  have d16 := zT_putf (k := 48) (x := Int32.ofInt 0) d15 (fun r hr => by cases hr; exact ⟨by decide, by decide⟩) rfl trivial
  have d17 := zT_putf (k := 49) (x := Int32.ofInt 0) d16 (fun r hr => by cases hr; exact ⟨by decide, by decide⟩) rfl trivial
  have dJ := zT_J2 (k := 51) (x := Int64.ofNat 0) d17
  have dT := zT_putf (k := 45) (x := Int32.ofInt 0) dJ (fun r hr => by cases hr; exact ⟨by decide, by decide⟩) rfl trivial
  have jT : zJ (zw_I (zw_J (zw_I (zw_I (zw_I (zw_I (zw_I (zw_I (zw_I (zw_I (zw_I (zw_I (zw_I (zw_I (zw_I (zw_I (zw_I (zw_I (zw_I (zw_I (zw_I H 72 0 (Int32.ofInt 0)) 72 22 (Int32.ofInt 0)) 72 24 (Int32.ofInt (-1))) 72 23 (Int32.ofInt 0)) 72 26 (x)) 72 27 (Int32.ofInt 0)) 72 34 (Int32.ofInt 6)) 72 35 (Int32.ofInt 6)) 72 36 (Int32.ofInt 0)) 72 37 (Int32.ofInt 0)) 72 38 (Int32.ofInt 0)) 72 39 (Int32.ofInt 0)) 72 40 (Int32.ofInt 0)) 72 41 (Int32.ofInt 0)) 72 42 (Int32.ofInt 0)) 72 43 (Int32.ofInt 2)) 72 44 (Int32.ofInt 5)) 72 48 (Int32.ofInt 0)) 72 49 (Int32.ofInt 0)) 72 51 (Int64.ofNat 0)) 72 45 (Int32.ofInt 0)) := zJ_I rfl (show zJ (zw_J _ 72 51 (Int64.ofNat 0)) from (zJ_I rfl (zJ_I rfl (zJ_I rfl (zJ_I rfl (zJ_I rfl (zJ_I rfl (zJ_I rfl (zJ_I rfl (zJ_I rfl (zJ_I rfl (zJ_I rfl (zJ_I rfl (zJ_I rfl (zJ_I rfl (zJ_I rfl (zJ_I rfl (zJ_I rfl (zJ_I rfl (zJ_I rfl hJ))))))))))))))))))))
  have fT : zf_72 H (zw_I (zw_J (zw_I (zw_I (zw_I (zw_I (zw_I (zw_I (zw_I (zw_I (zw_I (zw_I (zw_I (zw_I (zw_I (zw_I (zw_I (zw_I (zw_I (zw_I (zw_I H 72 0 (Int32.ofInt 0)) 72 22 (Int32.ofInt 0)) 72 24 (Int32.ofInt (-1))) 72 23 (Int32.ofInt 0)) 72 26 (x)) 72 27 (Int32.ofInt 0)) 72 34 (Int32.ofInt 6)) 72 35 (Int32.ofInt 6)) 72 36 (Int32.ofInt 0)) 72 37 (Int32.ofInt 0)) 72 38 (Int32.ofInt 0)) 72 39 (Int32.ofInt 0)) 72 40 (Int32.ofInt 0)) 72 41 (Int32.ofInt 0)) 72 42 (Int32.ofInt 0)) 72 43 (Int32.ofInt 2)) 72 44 (Int32.ofInt 5)) 72 48 (Int32.ofInt 0)) 72 49 (Int32.ofInt 0)) 72 51 (Int64.ofNat 0)) 72 45 (Int32.ofInt 0)) := zf_I (zf_J (zf_I (zf_I (zf_I (zf_I (zf_I (zf_I (zf_I (zf_I (zf_I (zf_I (zf_I (zf_I (zf_I (zf_I (zf_I (zf_I (zf_I (zf_I (zf_I (zf_r H) rfl) rfl) rfl) rfl) rfl) rfl) rfl) rfl) rfl) rfl) rfl) rfl) rfl) rfl) rfl) rfl) rfl) rfl) rfl) rfl) rfl
  have fQ : yQr H (zw_I (zw_J (zw_I (zw_I (zw_I (zw_I (zw_I (zw_I (zw_I (zw_I (zw_I (zw_I (zw_I (zw_I (zw_I (zw_I (zw_I (zw_I (zw_I (zw_I (zw_I H 72 0 (Int32.ofInt 0)) 72 22 (Int32.ofInt 0)) 72 24 (Int32.ofInt (-1))) 72 23 (Int32.ofInt 0)) 72 26 (x)) 72 27 (Int32.ofInt 0)) 72 34 (Int32.ofInt 6)) 72 35 (Int32.ofInt 6)) 72 36 (Int32.ofInt 0)) 72 37 (Int32.ofInt 0)) 72 38 (Int32.ofInt 0)) 72 39 (Int32.ofInt 0)) 72 40 (Int32.ofInt 0)) 72 41 (Int32.ofInt 0)) 72 42 (Int32.ofInt 0)) 72 43 (Int32.ofInt 2)) 72 44 (Int32.ofInt 5)) 72 48 (Int32.ofInt 0)) 72 49 (Int32.ofInt 0)) 72 51 (Int64.ofNat 0)) 72 45 (Int32.ofInt 0)) := yQr_I (yQr_J (yQr_I (yQr_I (yQr_I (yQr_I (yQr_I (yQr_I (yQr_I (yQr_I (yQr_I (yQr_I (yQr_I (yQr_I (yQr_I (yQr_I (yQr_I (yQr_I (yQr_I (yQr_I (yQr_I yQr_r rfl) rfl) rfl) rfl) rfl) rfl) rfl) rfl) rfl) rfl) rfl) rfl) rfl) rfl) rfl) rfl) rfl) rfl) rfl) rfl) rfl
  refine zw_met zm_169_t rfl rfl ?_
  refine zw_ld (n := 1) (k := 0) (f := zp_isR) (pc' := 1) rfl rfl rfl rfl rfl ?_
  refine zw_s (pc' := 2) rfl rfl ?_
  refine zw_pI (q := 72) (pc' := 5) W rfl rfl rfl rfl rfl rfl ?_
  refine zw_ld (n := 1) (k := 0) (f := zp_isR) (pc' := 6) rfl rfl rfl rfl rfl ?_
  refine zw_ld (n := 1) (k := 1) (f := zp_isI) (pc' := 7) rfl rfl rfl rfl rfl ?_
  refine zw_blt1 (g := 22) (pc' := 10) rfl rfl rfl rfl (fun h1 => ?_) (fun h1 => ?_)
  · omega
  · refine zw_ld (n := 1) (k := 1) (f := zp_isI) (pc' := 11) rfl rfl rfl rfl rfl ?_
    refine zw_ld (n := 1) (k := 0) (f := zp_isR) (pc' := 12) rfl rfl rfl rfl rfl ?_
    refine zw_gI (q := 72) (pc' := 15) W rfl rfl rfl rfl (zw_ne rfl rfl) rfl ?_
    refine zw_bgt2 (g := 22) (pc' := 18) rfl rfl rfl rfl rfl (fun h2 => ?_) (fun h2 => ?_)
    · omega
    · refine zw_s (pc' := 19) rfl rfl ?_
      refine zw_s (pc' := 23) rfl rfl ?_
      refine zw_s (pc' := 24) rfl rfl ?_
      refine zw_c (pc' := 27) (zw_cv (q := 72) (Y := zm_170) W.1 rfl rfl zm_170_t rfl rfl) rfl rfl rfl rfl rfl (zq_right1 (H := zw_I H 72 0 (Int32.ofInt 0)) W h0) ?_
      refine zw_bne1 (g := 32) (pc' := 30) rfl rfl rfl (rfl : _ = (1 : Int)) (fun hb => ?_) (fun h9 => absurd h9 (by decide))
      refine zw_ld (n := 1) (k := 0) (f := zp_isR) (pc' := 33) rfl rfl rfl rfl rfl ?_
      refine zw_s (pc' := 34) rfl rfl ?_
      refine zw_pI (q := 72) (pc' := 37) (zw_W_I W) rfl rfl rfl rfl rfl rfl ?_
      refine zw_ld (n := 1) (k := 0) (f := zp_isR) (pc' := 38) rfl rfl rfl rfl rfl ?_
      refine zw_s (pc' := 39) rfl rfl ?_
      refine zw_pI (q := 72) (pc' := 42) (zw_W_I (zw_W_I W)) rfl rfl rfl rfl rfl rfl ?_
      refine zw_ld (n := 1) (k := 0) (f := zp_isR) (pc' := 43) rfl rfl rfl rfl rfl ?_
      refine zw_s (pc' := 44) rfl rfl ?_
      refine zw_pI (q := 72) (pc' := 47) (zw_W_I (zw_W_I (zw_W_I W))) rfl rfl rfl rfl rfl rfl ?_
      refine zw_ld (n := 1) (k := 0) (f := zp_isR) (pc' := 48) rfl rfl rfl rfl rfl ?_
      refine zw_ld (n := 1) (k := 1) (f := zp_isI) (pc' := 49) rfl rfl rfl rfl rfl ?_
      refine zw_pI (q := 72) (pc' := 52) (zw_W_I (zw_W_I (zw_W_I (zw_W_I W)))) rfl rfl rfl rfl rfl rfl ?_
      refine zw_ld (n := 1) (k := 0) (f := zp_isR) (pc' := 53) rfl rfl rfl rfl rfl ?_
      refine zw_s (pc' := 54) rfl rfl ?_
      refine zw_pI (q := 72) (pc' := 57) (zw_W_I (zw_W_I (zw_W_I (zw_W_I (zw_W_I W))))) rfl rfl rfl rfl rfl rfl ?_
      refine zw_ld (n := 1) (k := 0) (f := zp_isR) (pc' := 58) rfl rfl rfl rfl rfl ?_
      refine zw_s (pc' := 60) rfl rfl ?_
      refine zw_pI (q := 72) (pc' := 63) (zw_W_I (zw_W_I (zw_W_I (zw_W_I (zw_W_I (zw_W_I W)))))) rfl rfl rfl rfl rfl rfl ?_
      refine zw_ld (n := 1) (k := 0) (f := zp_isR) (pc' := 64) rfl rfl rfl rfl rfl ?_
      refine zw_s (pc' := 66) rfl rfl ?_
      refine zw_pI (q := 72) (pc' := 69) (zw_W_I (zw_W_I (zw_W_I (zw_W_I (zw_W_I (zw_W_I (zw_W_I W))))))) rfl rfl rfl rfl rfl rfl ?_
      refine zw_ld (n := 1) (k := 0) (f := zp_isR) (pc' := 70) rfl rfl rfl rfl rfl ?_
      refine zw_s (pc' := 71) rfl rfl ?_
      refine zw_pI (q := 72) (pc' := 74) (zw_W_I (zw_W_I (zw_W_I (zw_W_I (zw_W_I (zw_W_I (zw_W_I (zw_W_I W)))))))) rfl rfl rfl rfl rfl rfl ?_
      refine zw_ld (n := 1) (k := 0) (f := zp_isR) (pc' := 75) rfl rfl rfl rfl rfl ?_
      refine zw_s (pc' := 76) rfl rfl ?_
      refine zw_pI (q := 72) (pc' := 79) (zw_W_I (zw_W_I (zw_W_I (zw_W_I (zw_W_I (zw_W_I (zw_W_I (zw_W_I (zw_W_I W))))))))) rfl rfl rfl rfl rfl rfl ?_
      refine zw_ld (n := 1) (k := 0) (f := zp_isR) (pc' := 80) rfl rfl rfl rfl rfl ?_
      refine zw_s (pc' := 81) rfl rfl ?_
      refine zw_pI (q := 72) (pc' := 84) (zw_W_I (zw_W_I (zw_W_I (zw_W_I (zw_W_I (zw_W_I (zw_W_I (zw_W_I (zw_W_I (zw_W_I W)))))))))) rfl rfl rfl rfl rfl rfl ?_
      refine zw_ld (n := 1) (k := 0) (f := zp_isR) (pc' := 85) rfl rfl rfl rfl rfl ?_
      refine zw_s (pc' := 86) rfl rfl ?_
      refine zw_pI (q := 72) (pc' := 89) (zw_W_I (zw_W_I (zw_W_I (zw_W_I (zw_W_I (zw_W_I (zw_W_I (zw_W_I (zw_W_I (zw_W_I (zw_W_I W))))))))))) rfl rfl rfl rfl rfl rfl ?_
      refine zw_ld (n := 1) (k := 0) (f := zp_isR) (pc' := 90) rfl rfl rfl rfl rfl ?_
      refine zw_s (pc' := 91) rfl rfl ?_
      refine zw_pI (q := 72) (pc' := 94) (zw_W_I (zw_W_I (zw_W_I (zw_W_I (zw_W_I (zw_W_I (zw_W_I (zw_W_I (zw_W_I (zw_W_I (zw_W_I (zw_W_I W)))))))))))) rfl rfl rfl rfl rfl rfl ?_
      refine zw_ld (n := 1) (k := 0) (f := zp_isR) (pc' := 95) rfl rfl rfl rfl rfl ?_
      refine zw_s (pc' := 96) rfl rfl ?_
      refine zw_pI (q := 72) (pc' := 99) (zw_W_I (zw_W_I (zw_W_I (zw_W_I (zw_W_I (zw_W_I (zw_W_I (zw_W_I (zw_W_I (zw_W_I (zw_W_I (zw_W_I (zw_W_I W))))))))))))) rfl rfl rfl rfl rfl rfl ?_
      refine zw_ld (n := 1) (k := 0) (f := zp_isR) (pc' := 100) rfl rfl rfl rfl rfl ?_
      refine zw_s (pc' := 101) rfl rfl ?_
      refine zw_pI (q := 72) (pc' := 104) (zw_W_I (zw_W_I (zw_W_I (zw_W_I (zw_W_I (zw_W_I (zw_W_I (zw_W_I (zw_W_I (zw_W_I (zw_W_I (zw_W_I (zw_W_I (zw_W_I W)))))))))))))) rfl rfl rfl rfl rfl rfl ?_
      refine zw_ld (n := 1) (k := 0) (f := zp_isR) (pc' := 105) rfl rfl rfl rfl rfl ?_
      refine zw_s (pc' := 106) rfl rfl ?_
      refine zw_pI (q := 72) (pc' := 109) (zw_W_I (zw_W_I (zw_W_I (zw_W_I (zw_W_I (zw_W_I (zw_W_I (zw_W_I (zw_W_I (zw_W_I (zw_W_I (zw_W_I (zw_W_I (zw_W_I (zw_W_I W))))))))))))))) rfl rfl rfl rfl rfl rfl ?_
      refine zw_ld (n := 1) (k := 0) (f := zp_isR) (pc' := 110) rfl rfl rfl rfl rfl ?_
      refine zw_s (pc' := 111) rfl rfl ?_
      refine zw_pI (q := 72) (pc' := 114) (zw_W_I (zw_W_I (zw_W_I (zw_W_I (zw_W_I (zw_W_I (zw_W_I (zw_W_I (zw_W_I (zw_W_I (zw_W_I (zw_W_I (zw_W_I (zw_W_I (zw_W_I (zw_W_I W)))))))))))))))) rfl rfl rfl rfl rfl rfl ?_
      refine zw_ld (n := 1) (k := 0) (f := zp_isR) (pc' := 115) rfl rfl rfl rfl rfl ?_
      refine zw_s (pc' := 116) rfl rfl ?_
      refine zw_pI (q := 72) (pc' := 119) (zw_W_I (zw_W_I (zw_W_I (zw_W_I (zw_W_I (zw_W_I (zw_W_I (zw_W_I (zw_W_I (zw_W_I (zw_W_I (zw_W_I (zw_W_I (zw_W_I (zw_W_I (zw_W_I (zw_W_I W))))))))))))))))) rfl rfl rfl rfl (rfl) rfl ?_
      refine zw_ld (n := 1) (k := 0) (f := zp_isR) (pc' := 120) rfl rfl rfl rfl rfl ?_
      refine zw_s (pc' := 121) rfl rfl ?_
      refine zw_pI (q := 72) (pc' := 124) (zw_W_I (zw_W_I (zw_W_I (zw_W_I (zw_W_I (zw_W_I (zw_W_I (zw_W_I (zw_W_I (zw_W_I (zw_W_I (zw_W_I (zw_W_I (zw_W_I (zw_W_I (zw_W_I (zw_W_I (zw_W_I W)))))))))))))))))) rfl rfl rfl rfl (rfl) rfl ?_
      refine zw_ld (n := 1) (k := 0) (f := zp_isR) (pc' := 125) rfl rfl rfl rfl rfl ?_
      refine zw_s (pc' := 126) rfl rfl ?_
      refine zw_pL (q := 72) (pc' := 129) (zw_W_I (zw_W_I (zw_W_I (zw_W_I (zw_W_I (zw_W_I (zw_W_I (zw_W_I (zw_W_I (zw_W_I (zw_W_I (zw_W_I (zw_W_I (zw_W_I (zw_W_I (zw_W_I (zw_W_I (zw_W_I (zw_W_I W))))))))))))))))))) rfl rfl rfl rfl rfl rfl ?_
      refine zw_ld (n := 1) (k := 0) (f := zp_isR) (pc' := 130) rfl rfl rfl rfl rfl ?_
      refine zw_s (pc' := 131) rfl rfl ?_
      refine zw_pI (q := 72) (pc' := 134) (zw_W_J (zw_W_I (zw_W_I (zw_W_I (zw_W_I (zw_W_I (zw_W_I (zw_W_I (zw_W_I (zw_W_I (zw_W_I (zw_W_I (zw_W_I (zw_W_I (zw_W_I (zw_W_I (zw_W_I (zw_W_I (zw_W_I (zw_W_I W)))))))))))))))))))) rfl rfl rfl rfl rfl rfl ?_
      refine zw_s (pc' := 135) rfl rfl ?_
      refine zw_st (n := 1) (k := 2) (f := zp_isI) (pc' := 136) rfl rfl rfl rfl rfl ?_
      have v22 : (zw_I (zw_J (zw_I (zw_I (zw_I (zw_I (zw_I (zw_I (zw_I (zw_I (zw_I (zw_I (zw_I (zw_I (zw_I (zw_I (zw_I (zw_I (zw_I (zw_I (zw_I H 72 0 (Int32.ofInt 0)) 72 22 (Int32.ofInt 0)) 72 24 (Int32.ofInt (-1))) 72 23 (Int32.ofInt 0)) 72 26 (x)) 72 27 (Int32.ofInt 0)) 72 34 (Int32.ofInt 6)) 72 35 (Int32.ofInt 6)) 72 36 (Int32.ofInt 0)) 72 37 (Int32.ofInt 0)) 72 38 (Int32.ofInt 0)) 72 39 (Int32.ofInt 0)) 72 40 (Int32.ofInt 0)) 72 41 (Int32.ofInt 0)) 72 42 (Int32.ofInt 0)) 72 43 (Int32.ofInt 2)) 72 44 (Int32.ofInt 5)) 72 48 (Int32.ofInt 0)) 72 49 (Int32.ofInt 0)) 72 51 (Int64.ofNat 0)) 72 45 (Int32.ofInt 0)).2.1 72 22 = Int32.ofInt 0 := (zw_ne (zw_nj (zw_ne (zw_ne (zw_ne (zw_ne (zw_ne (zw_ne (zw_ne (zw_ne (zw_ne (zw_ne (zw_ne (zw_ne (zw_ne (zw_ne (zw_ne (zw_ne (zw_ne zw_eq rfl) rfl) rfl) rfl) rfl) rfl) rfl) rfl) rfl) rfl) rfl) rfl) rfl) rfl) rfl) rfl) rfl)) rfl)
      have v23 : (zw_I (zw_J (zw_I (zw_I (zw_I (zw_I (zw_I (zw_I (zw_I (zw_I (zw_I (zw_I (zw_I (zw_I (zw_I (zw_I (zw_I (zw_I (zw_I (zw_I (zw_I H 72 0 (Int32.ofInt 0)) 72 22 (Int32.ofInt 0)) 72 24 (Int32.ofInt (-1))) 72 23 (Int32.ofInt 0)) 72 26 (x)) 72 27 (Int32.ofInt 0)) 72 34 (Int32.ofInt 6)) 72 35 (Int32.ofInt 6)) 72 36 (Int32.ofInt 0)) 72 37 (Int32.ofInt 0)) 72 38 (Int32.ofInt 0)) 72 39 (Int32.ofInt 0)) 72 40 (Int32.ofInt 0)) 72 41 (Int32.ofInt 0)) 72 42 (Int32.ofInt 0)) 72 43 (Int32.ofInt 2)) 72 44 (Int32.ofInt 5)) 72 48 (Int32.ofInt 0)) 72 49 (Int32.ofInt 0)) 72 51 (Int64.ofNat 0)) 72 45 (Int32.ofInt 0)).2.1 72 23 = Int32.ofInt 0 := (zw_ne (zw_nj (zw_ne (zw_ne (zw_ne (zw_ne (zw_ne (zw_ne (zw_ne (zw_ne (zw_ne (zw_ne (zw_ne (zw_ne (zw_ne (zw_ne (zw_ne zw_eq rfl) rfl) rfl) rfl) rfl) rfl) rfl) rfl) rfl) rfl) rfl) rfl) rfl) rfl) rfl)) rfl)
      have v27 : (zw_I (zw_J (zw_I (zw_I (zw_I (zw_I (zw_I (zw_I (zw_I (zw_I (zw_I (zw_I (zw_I (zw_I (zw_I (zw_I (zw_I (zw_I (zw_I (zw_I (zw_I H 72 0 (Int32.ofInt 0)) 72 22 (Int32.ofInt 0)) 72 24 (Int32.ofInt (-1))) 72 23 (Int32.ofInt 0)) 72 26 (x)) 72 27 (Int32.ofInt 0)) 72 34 (Int32.ofInt 6)) 72 35 (Int32.ofInt 6)) 72 36 (Int32.ofInt 0)) 72 37 (Int32.ofInt 0)) 72 38 (Int32.ofInt 0)) 72 39 (Int32.ofInt 0)) 72 40 (Int32.ofInt 0)) 72 41 (Int32.ofInt 0)) 72 42 (Int32.ofInt 0)) 72 43 (Int32.ofInt 2)) 72 44 (Int32.ofInt 5)) 72 48 (Int32.ofInt 0)) 72 49 (Int32.ofInt 0)) 72 51 (Int64.ofNat 0)) 72 45 (Int32.ofInt 0)).2.1 72 27 = Int32.ofInt 0 := (zw_ne (zw_nj (zw_ne (zw_ne (zw_ne (zw_ne (zw_ne (zw_ne (zw_ne (zw_ne (zw_ne (zw_ne (zw_ne (zw_ne (zw_ne zw_eq rfl) rfl) rfl) rfl) rfl) rfl) rfl) rfl) rfl) rfl) rfl) rfl) rfl)) rfl)
      have v34 : (zw_I (zw_J (zw_I (zw_I (zw_I (zw_I (zw_I (zw_I (zw_I (zw_I (zw_I (zw_I (zw_I (zw_I (zw_I (zw_I (zw_I (zw_I (zw_I (zw_I (zw_I H 72 0 (Int32.ofInt 0)) 72 22 (Int32.ofInt 0)) 72 24 (Int32.ofInt (-1))) 72 23 (Int32.ofInt 0)) 72 26 (x)) 72 27 (Int32.ofInt 0)) 72 34 (Int32.ofInt 6)) 72 35 (Int32.ofInt 6)) 72 36 (Int32.ofInt 0)) 72 37 (Int32.ofInt 0)) 72 38 (Int32.ofInt 0)) 72 39 (Int32.ofInt 0)) 72 40 (Int32.ofInt 0)) 72 41 (Int32.ofInt 0)) 72 42 (Int32.ofInt 0)) 72 43 (Int32.ofInt 2)) 72 44 (Int32.ofInt 5)) 72 48 (Int32.ofInt 0)) 72 49 (Int32.ofInt 0)) 72 51 (Int64.ofNat 0)) 72 45 (Int32.ofInt 0)).2.1 72 34 = Int32.ofInt 6 := (zw_ne (zw_nj (zw_ne (zw_ne (zw_ne (zw_ne (zw_ne (zw_ne (zw_ne (zw_ne (zw_ne (zw_ne (zw_ne (zw_ne zw_eq rfl) rfl) rfl) rfl) rfl) rfl) rfl) rfl) rfl) rfl) rfl) rfl)) rfl)
      have v35 : (zw_I (zw_J (zw_I (zw_I (zw_I (zw_I (zw_I (zw_I (zw_I (zw_I (zw_I (zw_I (zw_I (zw_I (zw_I (zw_I (zw_I (zw_I (zw_I (zw_I (zw_I H 72 0 (Int32.ofInt 0)) 72 22 (Int32.ofInt 0)) 72 24 (Int32.ofInt (-1))) 72 23 (Int32.ofInt 0)) 72 26 (x)) 72 27 (Int32.ofInt 0)) 72 34 (Int32.ofInt 6)) 72 35 (Int32.ofInt 6)) 72 36 (Int32.ofInt 0)) 72 37 (Int32.ofInt 0)) 72 38 (Int32.ofInt 0)) 72 39 (Int32.ofInt 0)) 72 40 (Int32.ofInt 0)) 72 41 (Int32.ofInt 0)) 72 42 (Int32.ofInt 0)) 72 43 (Int32.ofInt 2)) 72 44 (Int32.ofInt 5)) 72 48 (Int32.ofInt 0)) 72 49 (Int32.ofInt 0)) 72 51 (Int64.ofNat 0)) 72 45 (Int32.ofInt 0)).2.1 72 35 = Int32.ofInt 6 := (zw_ne (zw_nj (zw_ne (zw_ne (zw_ne (zw_ne (zw_ne (zw_ne (zw_ne (zw_ne (zw_ne (zw_ne (zw_ne zw_eq rfl) rfl) rfl) rfl) rfl) rfl) rfl) rfl) rfl) rfl) rfl)) rfl)
      have v41 : (zw_I (zw_J (zw_I (zw_I (zw_I (zw_I (zw_I (zw_I (zw_I (zw_I (zw_I (zw_I (zw_I (zw_I (zw_I (zw_I (zw_I (zw_I (zw_I (zw_I (zw_I H 72 0 (Int32.ofInt 0)) 72 22 (Int32.ofInt 0)) 72 24 (Int32.ofInt (-1))) 72 23 (Int32.ofInt 0)) 72 26 (x)) 72 27 (Int32.ofInt 0)) 72 34 (Int32.ofInt 6)) 72 35 (Int32.ofInt 6)) 72 36 (Int32.ofInt 0)) 72 37 (Int32.ofInt 0)) 72 38 (Int32.ofInt 0)) 72 39 (Int32.ofInt 0)) 72 40 (Int32.ofInt 0)) 72 41 (Int32.ofInt 0)) 72 42 (Int32.ofInt 0)) 72 43 (Int32.ofInt 2)) 72 44 (Int32.ofInt 5)) 72 48 (Int32.ofInt 0)) 72 49 (Int32.ofInt 0)) 72 51 (Int64.ofNat 0)) 72 45 (Int32.ofInt 0)).2.1 72 41 = Int32.ofInt 0 := (zw_ne (zw_nj (zw_ne (zw_ne (zw_ne (zw_ne (zw_ne zw_eq rfl) rfl) rfl) rfl) rfl)) rfl)
      have v45 : (zw_I (zw_J (zw_I (zw_I (zw_I (zw_I (zw_I (zw_I (zw_I (zw_I (zw_I (zw_I (zw_I (zw_I (zw_I (zw_I (zw_I (zw_I (zw_I (zw_I (zw_I H 72 0 (Int32.ofInt 0)) 72 22 (Int32.ofInt 0)) 72 24 (Int32.ofInt (-1))) 72 23 (Int32.ofInt 0)) 72 26 (x)) 72 27 (Int32.ofInt 0)) 72 34 (Int32.ofInt 6)) 72 35 (Int32.ofInt 6)) 72 36 (Int32.ofInt 0)) 72 37 (Int32.ofInt 0)) 72 38 (Int32.ofInt 0)) 72 39 (Int32.ofInt 0)) 72 40 (Int32.ofInt 0)) 72 41 (Int32.ofInt 0)) 72 42 (Int32.ofInt 0)) 72 43 (Int32.ofInt 2)) 72 44 (Int32.ofInt 5)) 72 48 (Int32.ofInt 0)) 72 49 (Int32.ofInt 0)) 72 51 (Int64.ofNat 0)) 72 45 (Int32.ofInt 0)).2.1 72 45 = Int32.ofInt 0 := zw_eq
      have v26 : (zw_I (zw_J (zw_I (zw_I (zw_I (zw_I (zw_I (zw_I (zw_I (zw_I (zw_I (zw_I (zw_I (zw_I (zw_I (zw_I (zw_I (zw_I (zw_I (zw_I (zw_I H 72 0 (Int32.ofInt 0)) 72 22 (Int32.ofInt 0)) 72 24 (Int32.ofInt (-1))) 72 23 (Int32.ofInt 0)) 72 26 (x)) 72 27 (Int32.ofInt 0)) 72 34 (Int32.ofInt 6)) 72 35 (Int32.ofInt 6)) 72 36 (Int32.ofInt 0)) 72 37 (Int32.ofInt 0)) 72 38 (Int32.ofInt 0)) 72 39 (Int32.ofInt 0)) 72 40 (Int32.ofInt 0)) 72 41 (Int32.ofInt 0)) 72 42 (Int32.ofInt 0)) 72 43 (Int32.ofInt 2)) 72 44 (Int32.ofInt 5)) 72 48 (Int32.ofInt 0)) 72 49 (Int32.ofInt 0)) 72 51 (Int64.ofNat 0)) 72 45 (Int32.ofInt 0)).2.1 72 26 = x := (zw_ne (zw_nj (zw_ne (zw_ne (zw_ne (zw_ne (zw_ne (zw_ne (zw_ne (zw_ne (zw_ne (zw_ne (zw_ne (zw_ne (zw_ne (zw_ne zw_eq rfl) rfl) rfl) rfl) rfl) rfl) rfl) rfl) rfl) rfl) rfl) rfl) rfl) rfl)) rfl)
      have v36 : (zw_I (zw_J (zw_I (zw_I (zw_I (zw_I (zw_I (zw_I (zw_I (zw_I (zw_I (zw_I (zw_I (zw_I (zw_I (zw_I (zw_I (zw_I (zw_I (zw_I (zw_I H 72 0 (Int32.ofInt 0)) 72 22 (Int32.ofInt 0)) 72 24 (Int32.ofInt (-1))) 72 23 (Int32.ofInt 0)) 72 26 (x)) 72 27 (Int32.ofInt 0)) 72 34 (Int32.ofInt 6)) 72 35 (Int32.ofInt 6)) 72 36 (Int32.ofInt 0)) 72 37 (Int32.ofInt 0)) 72 38 (Int32.ofInt 0)) 72 39 (Int32.ofInt 0)) 72 40 (Int32.ofInt 0)) 72 41 (Int32.ofInt 0)) 72 42 (Int32.ofInt 0)) 72 43 (Int32.ofInt 2)) 72 44 (Int32.ofInt 5)) 72 48 (Int32.ofInt 0)) 72 49 (Int32.ofInt 0)) 72 51 (Int64.ofNat 0)) 72 45 (Int32.ofInt 0)).2.1 72 36 = Int32.ofInt 0 := (zw_ne (zw_nj (zw_ne (zw_ne (zw_ne (zw_ne (zw_ne (zw_ne (zw_ne (zw_ne (zw_ne (zw_ne zw_eq rfl) rfl) rfl) rfl) rfl) rfl) rfl) rfl) rfl) rfl)) rfl)
      have v37 : (zw_I (zw_J (zw_I (zw_I (zw_I (zw_I (zw_I (zw_I (zw_I (zw_I (zw_I (zw_I (zw_I (zw_I (zw_I (zw_I (zw_I (zw_I (zw_I (zw_I (zw_I H 72 0 (Int32.ofInt 0)) 72 22 (Int32.ofInt 0)) 72 24 (Int32.ofInt (-1))) 72 23 (Int32.ofInt 0)) 72 26 (x)) 72 27 (Int32.ofInt 0)) 72 34 (Int32.ofInt 6)) 72 35 (Int32.ofInt 6)) 72 36 (Int32.ofInt 0)) 72 37 (Int32.ofInt 0)) 72 38 (Int32.ofInt 0)) 72 39 (Int32.ofInt 0)) 72 40 (Int32.ofInt 0)) 72 41 (Int32.ofInt 0)) 72 42 (Int32.ofInt 0)) 72 43 (Int32.ofInt 2)) 72 44 (Int32.ofInt 5)) 72 48 (Int32.ofInt 0)) 72 49 (Int32.ofInt 0)) 72 51 (Int64.ofNat 0)) 72 45 (Int32.ofInt 0)).2.1 72 37 = Int32.ofInt 0 := (zw_ne (zw_nj (zw_ne (zw_ne (zw_ne (zw_ne (zw_ne (zw_ne (zw_ne (zw_ne (zw_ne zw_eq rfl) rfl) rfl) rfl) rfl) rfl) rfl) rfl) rfl)) rfl)
      have v38 : (zw_I (zw_J (zw_I (zw_I (zw_I (zw_I (zw_I (zw_I (zw_I (zw_I (zw_I (zw_I (zw_I (zw_I (zw_I (zw_I (zw_I (zw_I (zw_I (zw_I (zw_I H 72 0 (Int32.ofInt 0)) 72 22 (Int32.ofInt 0)) 72 24 (Int32.ofInt (-1))) 72 23 (Int32.ofInt 0)) 72 26 (x)) 72 27 (Int32.ofInt 0)) 72 34 (Int32.ofInt 6)) 72 35 (Int32.ofInt 6)) 72 36 (Int32.ofInt 0)) 72 37 (Int32.ofInt 0)) 72 38 (Int32.ofInt 0)) 72 39 (Int32.ofInt 0)) 72 40 (Int32.ofInt 0)) 72 41 (Int32.ofInt 0)) 72 42 (Int32.ofInt 0)) 72 43 (Int32.ofInt 2)) 72 44 (Int32.ofInt 5)) 72 48 (Int32.ofInt 0)) 72 49 (Int32.ofInt 0)) 72 51 (Int64.ofNat 0)) 72 45 (Int32.ofInt 0)).2.1 72 38 = Int32.ofInt 0 := (zw_ne (zw_nj (zw_ne (zw_ne (zw_ne (zw_ne (zw_ne (zw_ne (zw_ne (zw_ne zw_eq rfl) rfl) rfl) rfl) rfl) rfl) rfl) rfl)) rfl)
      have v39 : (zw_I (zw_J (zw_I (zw_I (zw_I (zw_I (zw_I (zw_I (zw_I (zw_I (zw_I (zw_I (zw_I (zw_I (zw_I (zw_I (zw_I (zw_I (zw_I (zw_I (zw_I H 72 0 (Int32.ofInt 0)) 72 22 (Int32.ofInt 0)) 72 24 (Int32.ofInt (-1))) 72 23 (Int32.ofInt 0)) 72 26 (x)) 72 27 (Int32.ofInt 0)) 72 34 (Int32.ofInt 6)) 72 35 (Int32.ofInt 6)) 72 36 (Int32.ofInt 0)) 72 37 (Int32.ofInt 0)) 72 38 (Int32.ofInt 0)) 72 39 (Int32.ofInt 0)) 72 40 (Int32.ofInt 0)) 72 41 (Int32.ofInt 0)) 72 42 (Int32.ofInt 0)) 72 43 (Int32.ofInt 2)) 72 44 (Int32.ofInt 5)) 72 48 (Int32.ofInt 0)) 72 49 (Int32.ofInt 0)) 72 51 (Int64.ofNat 0)) 72 45 (Int32.ofInt 0)).2.1 72 39 = Int32.ofInt 0 := (zw_ne (zw_nj (zw_ne (zw_ne (zw_ne (zw_ne (zw_ne (zw_ne (zw_ne zw_eq rfl) rfl) rfl) rfl) rfl) rfl) rfl)) rfl)
      have v40 : (zw_I (zw_J (zw_I (zw_I (zw_I (zw_I (zw_I (zw_I (zw_I (zw_I (zw_I (zw_I (zw_I (zw_I (zw_I (zw_I (zw_I (zw_I (zw_I (zw_I (zw_I H 72 0 (Int32.ofInt 0)) 72 22 (Int32.ofInt 0)) 72 24 (Int32.ofInt (-1))) 72 23 (Int32.ofInt 0)) 72 26 (x)) 72 27 (Int32.ofInt 0)) 72 34 (Int32.ofInt 6)) 72 35 (Int32.ofInt 6)) 72 36 (Int32.ofInt 0)) 72 37 (Int32.ofInt 0)) 72 38 (Int32.ofInt 0)) 72 39 (Int32.ofInt 0)) 72 40 (Int32.ofInt 0)) 72 41 (Int32.ofInt 0)) 72 42 (Int32.ofInt 0)) 72 43 (Int32.ofInt 2)) 72 44 (Int32.ofInt 5)) 72 48 (Int32.ofInt 0)) 72 49 (Int32.ofInt 0)) 72 51 (Int64.ofNat 0)) 72 45 (Int32.ofInt 0)).2.1 72 40 = Int32.ofInt 0 := (zw_ne (zw_nj (zw_ne (zw_ne (zw_ne (zw_ne (zw_ne (zw_ne zw_eq rfl) rfl) rfl) rfl) rfl) rfl)) rfl)
      have v48 : (zw_I (zw_J (zw_I (zw_I (zw_I (zw_I (zw_I (zw_I (zw_I (zw_I (zw_I (zw_I (zw_I (zw_I (zw_I (zw_I (zw_I (zw_I (zw_I (zw_I (zw_I H 72 0 (Int32.ofInt 0)) 72 22 (Int32.ofInt 0)) 72 24 (Int32.ofInt (-1))) 72 23 (Int32.ofInt 0)) 72 26 (x)) 72 27 (Int32.ofInt 0)) 72 34 (Int32.ofInt 6)) 72 35 (Int32.ofInt 6)) 72 36 (Int32.ofInt 0)) 72 37 (Int32.ofInt 0)) 72 38 (Int32.ofInt 0)) 72 39 (Int32.ofInt 0)) 72 40 (Int32.ofInt 0)) 72 41 (Int32.ofInt 0)) 72 42 (Int32.ofInt 0)) 72 43 (Int32.ofInt 2)) 72 44 (Int32.ofInt 5)) 72 48 (Int32.ofInt 0)) 72 49 (Int32.ofInt 0)) 72 51 (Int64.ofNat 0)) 72 45 (Int32.ofInt 0)).2.1 72 48 = Int32.ofInt 0 := (zw_ne (zw_nj (zw_ne zw_eq rfl)) rfl)
      have v49 : (zw_I (zw_J (zw_I (zw_I (zw_I (zw_I (zw_I (zw_I (zw_I (zw_I (zw_I (zw_I (zw_I (zw_I (zw_I (zw_I (zw_I (zw_I (zw_I (zw_I (zw_I H 72 0 (Int32.ofInt 0)) 72 22 (Int32.ofInt 0)) 72 24 (Int32.ofInt (-1))) 72 23 (Int32.ofInt 0)) 72 26 (x)) 72 27 (Int32.ofInt 0)) 72 34 (Int32.ofInt 6)) 72 35 (Int32.ofInt 6)) 72 36 (Int32.ofInt 0)) 72 37 (Int32.ofInt 0)) 72 38 (Int32.ofInt 0)) 72 39 (Int32.ofInt 0)) 72 40 (Int32.ofInt 0)) 72 41 (Int32.ofInt 0)) 72 42 (Int32.ofInt 0)) 72 43 (Int32.ofInt 2)) 72 44 (Int32.ofInt 5)) 72 48 (Int32.ofInt 0)) 72 49 (Int32.ofInt 0)) 72 51 (Int64.ofNat 0)) 72 45 (Int32.ofInt 0)).2.1 72 49 = Int32.ofInt 0 := (zw_ne (zw_nj zw_eq) rfl)
      have v0 : (zw_I (zw_J (zw_I (zw_I (zw_I (zw_I (zw_I (zw_I (zw_I (zw_I (zw_I (zw_I (zw_I (zw_I (zw_I (zw_I (zw_I (zw_I (zw_I (zw_I (zw_I H 72 0 (Int32.ofInt 0)) 72 22 (Int32.ofInt 0)) 72 24 (Int32.ofInt (-1))) 72 23 (Int32.ofInt 0)) 72 26 (x)) 72 27 (Int32.ofInt 0)) 72 34 (Int32.ofInt 6)) 72 35 (Int32.ofInt 6)) 72 36 (Int32.ofInt 0)) 72 37 (Int32.ofInt 0)) 72 38 (Int32.ofInt 0)) 72 39 (Int32.ofInt 0)) 72 40 (Int32.ofInt 0)) 72 41 (Int32.ofInt 0)) 72 42 (Int32.ofInt 0)) 72 43 (Int32.ofInt 2)) 72 44 (Int32.ofInt 5)) 72 48 (Int32.ofInt 0)) 72 49 (Int32.ofInt 0)) 72 51 (Int64.ofNat 0)) 72 45 (Int32.ofInt 0)).2.1 72 0 = Int32.ofInt 0 := (zw_ne (zw_nj (zw_ne (zw_ne (zw_ne (zw_ne (zw_ne (zw_ne (zw_ne (zw_ne (zw_ne (zw_ne (zw_ne (zw_ne (zw_ne (zw_ne (zw_ne (zw_ne (zw_ne (zw_ne zw_eq rfl) rfl) rfl) rfl) rfl) rfl) rfl) rfl) rfl) rfl) rfl) rfl) rfl) rfl) rfl) rfl) rfl) rfl)) rfl)
      have v42 : (zw_I (zw_J (zw_I (zw_I (zw_I (zw_I (zw_I (zw_I (zw_I (zw_I (zw_I (zw_I (zw_I (zw_I (zw_I (zw_I (zw_I (zw_I (zw_I (zw_I (zw_I H 72 0 (Int32.ofInt 0)) 72 22 (Int32.ofInt 0)) 72 24 (Int32.ofInt (-1))) 72 23 (Int32.ofInt 0)) 72 26 (x)) 72 27 (Int32.ofInt 0)) 72 34 (Int32.ofInt 6)) 72 35 (Int32.ofInt 6)) 72 36 (Int32.ofInt 0)) 72 37 (Int32.ofInt 0)) 72 38 (Int32.ofInt 0)) 72 39 (Int32.ofInt 0)) 72 40 (Int32.ofInt 0)) 72 41 (Int32.ofInt 0)) 72 42 (Int32.ofInt 0)) 72 43 (Int32.ofInt 2)) 72 44 (Int32.ofInt 5)) 72 48 (Int32.ofInt 0)) 72 49 (Int32.ofInt 0)) 72 51 (Int64.ofNat 0)) 72 45 (Int32.ofInt 0)).2.1 72 42 = Int32.ofInt 0 := (zw_ne (zw_nj (zw_ne (zw_ne (zw_ne (zw_ne zw_eq rfl) rfl) rfl) rfl)) rfl)
      have v43 : (zw_I (zw_J (zw_I (zw_I (zw_I (zw_I (zw_I (zw_I (zw_I (zw_I (zw_I (zw_I (zw_I (zw_I (zw_I (zw_I (zw_I (zw_I (zw_I (zw_I (zw_I H 72 0 (Int32.ofInt 0)) 72 22 (Int32.ofInt 0)) 72 24 (Int32.ofInt (-1))) 72 23 (Int32.ofInt 0)) 72 26 (x)) 72 27 (Int32.ofInt 0)) 72 34 (Int32.ofInt 6)) 72 35 (Int32.ofInt 6)) 72 36 (Int32.ofInt 0)) 72 37 (Int32.ofInt 0)) 72 38 (Int32.ofInt 0)) 72 39 (Int32.ofInt 0)) 72 40 (Int32.ofInt 0)) 72 41 (Int32.ofInt 0)) 72 42 (Int32.ofInt 0)) 72 43 (Int32.ofInt 2)) 72 44 (Int32.ofInt 5)) 72 48 (Int32.ofInt 0)) 72 49 (Int32.ofInt 0)) 72 51 (Int64.ofNat 0)) 72 45 (Int32.ofInt 0)).2.1 72 43 = Int32.ofInt 2 := (zw_ne (zw_nj (zw_ne (zw_ne (zw_ne zw_eq rfl) rfl) rfl)) rfl)
      have v44 : (zw_I (zw_J (zw_I (zw_I (zw_I (zw_I (zw_I (zw_I (zw_I (zw_I (zw_I (zw_I (zw_I (zw_I (zw_I (zw_I (zw_I (zw_I (zw_I (zw_I (zw_I H 72 0 (Int32.ofInt 0)) 72 22 (Int32.ofInt 0)) 72 24 (Int32.ofInt (-1))) 72 23 (Int32.ofInt 0)) 72 26 (x)) 72 27 (Int32.ofInt 0)) 72 34 (Int32.ofInt 6)) 72 35 (Int32.ofInt 6)) 72 36 (Int32.ofInt 0)) 72 37 (Int32.ofInt 0)) 72 38 (Int32.ofInt 0)) 72 39 (Int32.ofInt 0)) 72 40 (Int32.ofInt 0)) 72 41 (Int32.ofInt 0)) 72 42 (Int32.ofInt 0)) 72 43 (Int32.ofInt 2)) 72 44 (Int32.ofInt 5)) 72 48 (Int32.ofInt 0)) 72 49 (Int32.ofInt 0)) 72 51 (Int64.ofNat 0)) 72 45 (Int32.ofInt 0)).2.1 72 44 = Int32.ofInt 5 := (zw_ne (zw_nj (zw_ne (zw_ne zw_eq rfl) rfl)) rfl)
      have v24 : (zw_I (zw_J (zw_I (zw_I (zw_I (zw_I (zw_I (zw_I (zw_I (zw_I (zw_I (zw_I (zw_I (zw_I (zw_I (zw_I (zw_I (zw_I (zw_I (zw_I (zw_I H 72 0 (Int32.ofInt 0)) 72 22 (Int32.ofInt 0)) 72 24 (Int32.ofInt (-1))) 72 23 (Int32.ofInt 0)) 72 26 (x)) 72 27 (Int32.ofInt 0)) 72 34 (Int32.ofInt 6)) 72 35 (Int32.ofInt 6)) 72 36 (Int32.ofInt 0)) 72 37 (Int32.ofInt 0)) 72 38 (Int32.ofInt 0)) 72 39 (Int32.ofInt 0)) 72 40 (Int32.ofInt 0)) 72 41 (Int32.ofInt 0)) 72 42 (Int32.ofInt 0)) 72 43 (Int32.ofInt 2)) 72 44 (Int32.ofInt 5)) 72 48 (Int32.ofInt 0)) 72 49 (Int32.ofInt 0)) 72 51 (Int64.ofNat 0)) 72 45 (Int32.ofInt 0)).2.1 72 24 = Int32.ofInt (-1) := (zw_ne (zw_nj (zw_ne (zw_ne (zw_ne (zw_ne (zw_ne (zw_ne (zw_ne (zw_ne (zw_ne (zw_ne (zw_ne (zw_ne (zw_ne (zw_ne (zw_ne (zw_ne zw_eq rfl) rfl) rfl) rfl) rfl) rfl) rfl) rfl) rfl) rfl) rfl) rfl) rfl) rfl) rfl) rfl)) rfl)
      have v80 : (zw_I (zw_J (zw_I (zw_I (zw_I (zw_I (zw_I (zw_I (zw_I (zw_I (zw_I (zw_I (zw_I (zw_I (zw_I (zw_I (zw_I (zw_I (zw_I (zw_I (zw_I H 72 0 (Int32.ofInt 0)) 72 22 (Int32.ofInt 0)) 72 24 (Int32.ofInt (-1))) 72 23 (Int32.ofInt 0)) 72 26 (x)) 72 27 (Int32.ofInt 0)) 72 34 (Int32.ofInt 6)) 72 35 (Int32.ofInt 6)) 72 36 (Int32.ofInt 0)) 72 37 (Int32.ofInt 0)) 72 38 (Int32.ofInt 0)) 72 39 (Int32.ofInt 0)) 72 40 (Int32.ofInt 0)) 72 41 (Int32.ofInt 0)) 72 42 (Int32.ofInt 0)) 72 43 (Int32.ofInt 2)) 72 44 (Int32.ofInt 5)) 72 48 (Int32.ofInt 0)) 72 49 (Int32.ofInt 0)) 72 51 (Int64.ofNat 0)) 72 45 (Int32.ofInt 0)).2.1 72 80 = H.2.1 72 80 := (zw_ne (zw_nj (zw_ne (zw_ne (zw_ne (zw_ne (zw_ne (zw_ne (zw_ne (zw_ne (zw_ne (zw_ne (zw_ne (zw_ne (zw_ne (zw_ne (zw_ne (zw_ne (zw_ne (zw_ne (zw_ne rfl rfl) rfl) rfl) rfl) rfl) rfl) rfl) rfl) rfl) rfl) rfl) rfl) rfl) rfl) rfl) rfl) rfl) rfl) rfl)) rfl)
      have v51 : (zw_I (zw_J (zw_I (zw_I (zw_I (zw_I (zw_I (zw_I (zw_I (zw_I (zw_I (zw_I (zw_I (zw_I (zw_I (zw_I (zw_I (zw_I (zw_I (zw_I (zw_I H 72 0 (Int32.ofInt 0)) 72 22 (Int32.ofInt 0)) 72 24 (Int32.ofInt (-1))) 72 23 (Int32.ofInt 0)) 72 26 (x)) 72 27 (Int32.ofInt 0)) 72 34 (Int32.ofInt 6)) 72 35 (Int32.ofInt 6)) 72 36 (Int32.ofInt 0)) 72 37 (Int32.ofInt 0)) 72 38 (Int32.ofInt 0)) 72 39 (Int32.ofInt 0)) 72 40 (Int32.ofInt 0)) 72 41 (Int32.ofInt 0)) 72 42 (Int32.ofInt 0)) 72 43 (Int32.ofInt 2)) 72 44 (Int32.ofInt 5)) 72 48 (Int32.ofInt 0)) 72 49 (Int32.ofInt 0)) 72 51 (Int64.ofNat 0)) 72 45 (Int32.ofInt 0)).2.2.1 72 51 = 0 := rfl
      have v81 : (zw_I (zw_J (zw_I (zw_I (zw_I (zw_I (zw_I (zw_I (zw_I (zw_I (zw_I (zw_I (zw_I (zw_I (zw_I (zw_I (zw_I (zw_I (zw_I (zw_I (zw_I H 72 0 (Int32.ofInt 0)) 72 22 (Int32.ofInt 0)) 72 24 (Int32.ofInt (-1))) 72 23 (Int32.ofInt 0)) 72 26 (x)) 72 27 (Int32.ofInt 0)) 72 34 (Int32.ofInt 6)) 72 35 (Int32.ofInt 6)) 72 36 (Int32.ofInt 0)) 72 37 (Int32.ofInt 0)) 72 38 (Int32.ofInt 0)) 72 39 (Int32.ofInt 0)) 72 40 (Int32.ofInt 0)) 72 41 (Int32.ofInt 0)) 72 42 (Int32.ofInt 0)) 72 43 (Int32.ofInt 2)) 72 44 (Int32.ofInt 5)) 72 48 (Int32.ofInt 0)) 72 49 (Int32.ofInt 0)) 72 51 (Int64.ofNat 0)) 72 45 (Int32.ofInt 0)).2.1 81 = H.2.1 81 := funext (fun j => (zw_ne (zw_nj (zw_ne (zw_ne (zw_ne (zw_ne (zw_ne (zw_ne (zw_ne (zw_ne (zw_ne (zw_ne (zw_ne (zw_ne (zw_ne (zw_ne (zw_ne (zw_ne (zw_ne (zw_ne (zw_ne rfl rfl) rfl) rfl) rfl) rfl) rfl) rfl) rfl) rfl) rfl) rfl) rfl) rfl) rfl) rfl) rfl) rfl) rfl) rfl)) rfl))
      show zs_Safe L σ (ysr_P Tx nx H) zm_169 [] (d + 12) (136, zp_st1 (zp_args 0 [.inr (.inr (some 73)), .inl x]) 2 (.inl (Int32.ofInt 0)), [], zw_I (zw_J (zw_I (zw_I (zw_I (zw_I (zw_I (zw_I (zw_I (zw_I (zw_I (zw_I (zw_I (zw_I (zw_I (zw_I (zw_I (zw_I (zw_I (zw_I (zw_I H 72 0 (Int32.ofInt 0)) 72 22 (Int32.ofInt 0)) 72 24 (Int32.ofInt (-1))) 72 23 (Int32.ofInt 0)) 72 26 (x)) 72 27 (Int32.ofInt 0)) 72 34 (Int32.ofInt 6)) 72 35 (Int32.ofInt 6)) 72 36 (Int32.ofInt 0)) 72 37 (Int32.ofInt 0)) 72 38 (Int32.ofInt 0)) 72 39 (Int32.ofInt 0)) 72 40 (Int32.ofInt 0)) 72 41 (Int32.ofInt 0)) 72 42 (Int32.ofInt 0)) 72 43 (Int32.ofInt 2)) 72 44 (Int32.ofInt 5)) 72 48 (Int32.ofInt 0)) 72 49 (Int32.ofInt 0)) 72 51 (Int64.ofNat 0)) 72 45 (Int32.ofInt 0), (0, 0))
      generalize hT : zw_I (zw_J (zw_I (zw_I (zw_I (zw_I (zw_I (zw_I (zw_I (zw_I (zw_I (zw_I (zw_I (zw_I (zw_I (zw_I (zw_I (zw_I (zw_I (zw_I (zw_I H 72 0 (Int32.ofInt 0)) 72 22 (Int32.ofInt 0)) 72 24 (Int32.ofInt (-1))) 72 23 (Int32.ofInt 0)) 72 26 (x)) 72 27 (Int32.ofInt 0)) 72 34 (Int32.ofInt 6)) 72 35 (Int32.ofInt 6)) 72 36 (Int32.ofInt 0)) 72 37 (Int32.ofInt 0)) 72 38 (Int32.ofInt 0)) 72 39 (Int32.ofInt 0)) 72 40 (Int32.ofInt 0)) 72 41 (Int32.ofInt 0)) 72 42 (Int32.ofInt 0)) 72 43 (Int32.ofInt 2)) 72 44 (Int32.ofInt 5)) 72 48 (Int32.ofInt 0)) 72 49 (Int32.ofInt 0)) 72 51 (Int64.ofNat 0)) 72 45 (Int32.ofInt 0) = H1 at dT jT fT v22 v23 v27 v34 v35 v41 v45 v26 v36 v37 v38 v39 v40 v48 v49 v51 v81 v0 v24 v80 v42 v43 v44 fQ ⊢
      refine ysr_fill (H0 := H) (H1 := H1) ?_ 64 H1 (zp_st1 (zp_args 0 [.inr (.inr (some 73)), .inl x]) 2 (.inl (Int32.ofInt 0))) (Int32.ofInt 0) ⟨⟨dT, jT, fT, fun _ => rfl⟩, fun _ _ => rfl, rfl, fun c hc => absurd hc (by show ¬ ((c : Int) < 0); omega)⟩ (zw_gt rfl rfl rfl) zw_g1 (by decide) (by decide)
      intro K lv hN l0
      obtain ⟨⟨b, kJ, kF, k72⟩, k81, kL, k83⟩ := hN
      have WK := zT_Wd b
      have b2 := zT_putf (k := 50) (x := Int32.ofInt 1) b (fun r hr => by cases hr; exact ⟨by decide, by decide⟩) rfl trivial
      have f : ∀ k, Nat.beq k 50 = false → (zw_I K 72 50 (Int32.ofInt 1)).2.1 72 k = H1.2.1 72 k := fun k hk => (zw_ne rfl (by rw [hk]; rfl)).trans (k72 k)
      have hBK : zk_Bs zR zg zJ (zw_I K 72 50 (Int32.ofInt 1)) := zT_up b2 (zJ_I rfl kJ) (by
        unfold zR_cc
        rw [f 34 rfl, f 35 rfl, v34, v35]
        exact fun _ => by decide)
      obtain ⟨R, c1, c2, c3, c4, c5⟩ := zx_goes (L := L) (σ := σ) (d := d + 10) hBK
      have e45 := zx_fe c3 45 rfl rfl rfl
      have e22 := zx_fe c3 22 rfl rfl rfl
      have e41 := zx_fe c3 41 rfl rfl rfl
      rw [f 45 rfl, v45] at e45
      rw [f 22 rfl, v22] at e22
      rw [f 41 rfl, v41] at e41
      rw [f 27 rfl, v27] at c4
      have z0 : (Int32.ofInt 0).toInt = 0 := rfl
      have WR := zR_Wd (zR_dn c2)
      have g23 : ((zw_I K 72 50 (Int32.ofInt 1)).2.1 72 23).toInt = 0 := by rw [f 23 rfl, v23]; rfl
      have hTT : yr_T Tx nx (zw_I K 72 50 (Int32.ofInt 1)) := by
        refine ⟨by omega, ?_, fun k hk => ?_, Or.inl ?_⟩
        · rw [f 26 rfl, v26]
          exact hn
        · rw [y_ne (fun h9 => absurd h9.1 (by decide)), k81 81 (by decide), v81]
          exact hTx k hk
        · rw [f 24 rfl, v24]
          rfl
      obtain ⟨_, y1, R9, rfl, y2, y3, y4⟩ := yr_goes (L := L) (σ := σ) (d := d) (p := 0) hby ⟨zR_T hBK, hTT⟩ (by rw [f 27 rfl, v27]; rfl) (Nat.zero_le _)
      have e9 := zp_Call_u c1 y1
      have e9 : R = R9 := by cases e9; rfl
      subst e9
      have D0 : yDr y00d (zw_I K 72 50 (Int32.ofInt 1)) := by
        refine ⟨?_, ?_, ?_, ?_, ?_, ?_, ?_, ?_, ?_, ?_, fun c hc => ?_, by decide, by decide, ?_⟩
        · rw [f 34 rfl, v34]; rfl
        · rw [f 35 rfl, v35]; rfl
        · rw [f 36 rfl, v36]; rfl
        · rw [f 38 rfl, v38]; rfl
        · rw [f 39 rfl, v39]; rfl
        · rw [f 40 rfl, v40]; rfl
        · rw [f 41 rfl, v41]; rfl
        · rw [f 48 rfl, v48]; rfl
        · rw [f 49 rfl, v49]; rfl
        · show K.2.2.1 72 51 = 0
          rw [kL]
          exact v51
        · rw [y_ne (fun h9 => absurd h9.1 (by decide)), k83 c (by omega)]
          exact ⟨fun _ => y00d_f (by omega), fun _ => rfl⟩
        · rw [f 37 rfl, v37, yCnt_0 64 (fun j hj => y00d_f hj)]; rfl
      have X0 : yXd yRl [] y00d (zw_I K 72 50 (Int32.ofInt 1)) := by
        intro i i1 i2 _
        rcases y00d_i i2 with rfl | rfl | rfl | ⟨i3, i4⟩
        · show ((zw_I K 72 50 (Int32.ofInt 1)).2.1 72 42).toInt = 0
          rw [f 42 rfl, v42]
          rfl
        · show ((zw_I K 72 50 (Int32.ofInt 1)).2.1 72 43).toInt = 2
          rw [f 43 rfl, v43]
          rfl
        · show ((zw_I K 72 50 (Int32.ofInt 1)).2.1 72 44).toInt = 5
          rw [f 44 rfl, v44]
          rfl
        · obtain ⟨c, rfl⟩ : ∃ c, i = 100 + c := ⟨i - 100, by omega⟩
          rw [yQ_100 (by omega), y00d_c (by omega), y_ne (fun h9 => absurd (show (83 : Nat) = 72 from h9.1) (by decide))]
          exact k83 c (by omega)
      have hJR : ysr_J Tx nx H R := ⟨⟨y00d, Or.inl ⟨(zx_fe y3 23 rfl rfl rfl).trans g23, 0, ⟨y2.2, y4, Nat.zero_le _⟩, yR2_r⟩, fun _ => ⟨⟨yDr_m y3 D0, yXr_F y3 rfl X0⟩, by
        rw [zx_fe y3 50 rfl rfl rfl, show (zw_I K 72 50 (Int32.ofInt 1)).2.1 72 50 = Int32.ofInt 1 from zw_eq]
        rfl⟩⟩, (zx_fe y3 0 rfl rfl rfl).trans (by rw [f 0 rfl, v0]; rfl), yQr_t (yQr_I (p := 72) (k := 50) (x := Int32.ofInt 1) ⟨fun p k hp => (congrFun (k81 p (yQb_0 hp).2.2.1) k).trans (fQ.1 p k hp), (congrFun (congrFun kL 72) 12).trans fQ.2⟩ rfl) (yQr_F y3 rfl rfl rfl)⟩
      refine zw_ld (n := 1) (k := 0) (f := zp_isR) (pc' := 156) rfl rfl l0 rfl rfl ?_
      refine zw_s (pc' := 157) rfl rfl ?_
      refine zw_pI (q := 72) (pc' := 160) WK rfl rfl rfl rfl (rfl) rfl ?_
      refine zw_ld (n := 1) (k := 0) (f := zp_isR) (pc' := 161) rfl rfl l0 rfl rfl ?_
      refine zw_cn (pc' := 164) (zw_cv (q := 72) (Y := zm_171) WK.1 rfl rfl zm_171_t rfl rfl) rfl rfl rfl rfl rfl (c1) ?_
      refine ysr_L hby (fun H2 lv2 => ysr_fin (d := d + 11) H2 lv2) _ R _ rfl ⟨c2, zf_t (zf_I kF rfl) (zf_of c3 rfl rfl), by omega, by omega, fun _ => ⟨fun r hr => ?_, fun _ => by omega⟩⟩ hJR l0
      omega

set_option maxHeartbeats 4000000 in
set_option maxRecDepth 8000 in
theorem ysr_no {L : Nat} {σ : Nat → Int32} {d : Nat} {H : zp_H} {x : Int32} (W : zw_W H) (hx : ¬ (0 ≤ x.toInt ∧ x.toInt ≤ (H.2.1 72 22).toInt)) : ∃ X, zp_Call L σ (d + 2) 169 [.inr (.inr (some 73)), .inl x] H X ∧ ∃ H1 v, X = (.inl (some (.inl v)), H1) ∧ (H1.2.1 72 0).toInt = 1 ∧ H1.2.2.1 = H.2.2.1 ∧ ∀ p k, ¬ (p = 72 ∧ k = 0) → H1.2.1 p k = H.2.1 p k := by
  have t1 : (zw_I H 72 0 (Int32.ofInt 0)).2.1 72 0 = Int32.ofInt 0 := zw_eq
  have h0 : ((zw_I H 72 0 (Int32.ofInt 0)).2.1 72 0).toInt = 0 := by rw [t1]; rfl
  refine zw_met zm_169_t rfl rfl ?_
  refine zw_ld (n := 1) (k := 0) (f := zp_isR) (pc' := 1) rfl rfl rfl rfl rfl ?_
  refine zw_s (pc' := 2) rfl rfl ?_
  refine zw_pI (q := 72) (pc' := 5) W rfl rfl rfl rfl rfl rfl ?_
  refine zw_ld (n := 1) (k := 0) (f := zp_isR) (pc' := 6) rfl rfl rfl rfl rfl ?_
  refine zw_ld (n := 1) (k := 1) (f := zp_isI) (pc' := 7) rfl rfl rfl rfl rfl ?_
  refine zw_blt1 (g := 22) (pc' := 10) rfl rfl rfl rfl (fun h1 => ?_) (fun h1 => ?_)
  · refine zw_s (pc' := 23) rfl rfl ?_
    refine zw_s (pc' := 24) rfl rfl ?_
    refine zw_c (pc' := 27) (zw_cv (q := 72) (Y := zm_170) W.1 rfl rfl zm_170_t rfl rfl) rfl rfl rfl rfl rfl (zq_right0 (H := zw_I H 72 0 (Int32.ofInt 0)) W h0 (by decide)) ?_
    refine zw_bne1 (g := 32) (pc' := 30) rfl rfl rfl (rfl : _ = (0 : Int)) (fun h9 => absurd h9 (by decide)) (fun hb => ?_)
    refine zw_s (pc' := 31) rfl rfl ?_
    refine zw_ri rfl rfl ?_
    exact ⟨_, _, rfl, congrArg Int32.toInt zw_eq, rfl, fun p k hp => (y_ne (fun h9 => hp h9)).trans (y_ne (fun h9 => hp h9))⟩
  · refine zw_ld (n := 1) (k := 1) (f := zp_isI) (pc' := 11) rfl rfl rfl rfl rfl ?_
    refine zw_ld (n := 1) (k := 0) (f := zp_isR) (pc' := 12) rfl rfl rfl rfl rfl ?_
    refine zw_gI (q := 72) (pc' := 15) W rfl rfl rfl rfl (zw_ne rfl rfl) rfl ?_
    refine zw_bgt2 (g := 22) (pc' := 18) rfl rfl rfl rfl rfl (fun h2 => ?_) (fun h2 => ?_)
    · refine zw_s (pc' := 23) rfl rfl ?_
      refine zw_s (pc' := 24) rfl rfl ?_
      refine zw_c (pc' := 27) (zw_cv (q := 72) (Y := zm_170) W.1 rfl rfl zm_170_t rfl rfl) rfl rfl rfl rfl rfl (zq_right0 (H := zw_I H 72 0 (Int32.ofInt 0)) W h0 (by decide)) ?_
      refine zw_bne1 (g := 32) (pc' := 30) rfl rfl rfl (rfl : _ = (0 : Int)) (fun h9 => absurd h9 (by decide)) (fun hb => ?_)
      refine zw_s (pc' := 31) rfl rfl ?_
      refine zw_ri rfl rfl ?_
      exact ⟨_, _, rfl, congrArg Int32.toInt zw_eq, rfl, fun p k hp => (y_ne (fun h9 => hp h9)).trans (y_ne (fun h9 => hp h9))⟩
    · exact absurd ⟨h1, h2⟩ hx
