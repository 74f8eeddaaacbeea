/-! ===== the reference: image and restore, exactly ===== -/

def yIm (H : zp_H) : zp_H := zc_k (zc_k (zc_k (zw_I (zw_I (zw_I H 72 0 (Int32.ofInt 0)) 72 80 (Int32.ofInt 1)) 72 81 (H.2.1 72 62)) 74 101 32) 75 102 128) 93 103 60

def yRs (H : zp_H) : zp_H := zc_k (zc_k (zc_k (zw_I (zw_I H 72 0 (Int32.ofInt 0)) 72 62 (H.2.1 72 81)) 101 74 32) 102 75 128) 103 93 60

set_option maxRecDepth 8000 in
theorem yx_image {L : Nat} {σ : Nat → Int32} {d : Nat} {H : zp_H} (W : zw_W H) : zp_Call L σ (d + 2) 249 [.inr (.inr (some 73))] H (.inl none, yIm H) := by
  refine zw_ex (zw_met zm_249_t rfl rfl ?_)
  refine zw_ld (n := 1) (k := 0) (f := zp_isR) (pc' := 1) rfl rfl rfl rfl rfl ?_
  refine zw_s (pc' := 2) rfl rfl ?_
  refine zw_pI (q := 72) (pc' := 5) W rfl rfl rfl rfl rfl rfl ?_
  refine zw_ld (n := 1) (k := 0) (f := zp_isR) (pc' := 6) rfl rfl rfl rfl rfl ?_
  refine zw_s (pc' := 7) rfl rfl ?_
  refine zw_pI (q := 72) (pc' := 10) (zw_W_I W) rfl rfl rfl rfl (rfl) rfl ?_
  refine zw_ld (n := 1) (k := 0) (f := zp_isR) (pc' := 11) rfl rfl rfl rfl rfl ?_
  refine zw_ld (n := 1) (k := 0) (f := zp_isR) (pc' := 12) rfl rfl rfl rfl rfl ?_
  refine zw_gI (q := 72) (pc' := 15) (zw_W_I (zw_W_I W)) rfl rfl rfl rfl (zw_ne (zw_ne rfl rfl) rfl) rfl ?_
  refine zw_pI (q := 72) (pc' := 18) (zw_W_I (zw_W_I W)) rfl rfl rfl rfl rfl rfl ?_
  have W3 : zw_W (zw_I (zw_I (zw_I H 72 0 (Int32.ofInt 0)) 72 80 (Int32.ofInt 1)) 72 81 (H.2.1 72 62)) := W
  refine zw_ld (n := 1) (k := 0) (f := zp_isR) (pc' := 19) rfl rfl rfl rfl rfl ?_
  refine zw_ld (n := 1) (k := 0) (f := zp_isR) (pc' := 20) rfl rfl rfl rfl rfl ?_
  refine zw_gR (q := 72) (pc' := 23) W3 rfl rfl rfl rfl (W3.2 72 14 _ rfl) rfl ?_
  refine zw_ld (n := 1) (k := 0) (f := zp_isR) (pc' := 24) rfl rfl rfl rfl rfl ?_
  refine zw_gR (q := 72) (pc' := 27) W3 rfl rfl rfl rfl (W3.2 72 82 _ rfl) rfl ?_
  refine zw_cn (pc' := 30) (zw_cv (q := 72) (Y := zm_204) W3.1 rfl rfl zm_204_t rfl rfl) rfl rfl rfl rfl rfl (zc_copies (H := zw_I (zw_I (zw_I H 72 0 (Int32.ofInt 0)) 72 80 (Int32.ofInt 1)) 72 81 (H.2.1 72 62)) (q1 := 74) (q2 := 101) (n := 32) W3 rfl rfl (by decide) (by decide) rfl) ?_
  refine zw_ld (n := 1) (k := 0) (f := zp_isR) (pc' := 31) rfl rfl rfl rfl rfl ?_
  refine zw_ld (n := 1) (k := 0) (f := zp_isR) (pc' := 32) rfl rfl rfl rfl rfl ?_
  refine zw_gR (q := 72) (pc' := 35) W3 rfl rfl rfl rfl (W3.2 72 15 _ rfl) rfl ?_
  refine zw_ld (n := 1) (k := 0) (f := zp_isR) (pc' := 36) rfl rfl rfl rfl rfl ?_
  refine zw_gR (q := 72) (pc' := 39) W3 rfl rfl rfl rfl (W3.2 72 83 _ rfl) rfl ?_
  refine zw_cn (pc' := 42) (zw_cv (q := 72) (Y := zm_204) W3.1 rfl rfl zm_204_t rfl rfl) rfl rfl rfl rfl rfl (zc_copies (H := zc_k (zw_I (zw_I (zw_I H 72 0 (Int32.ofInt 0)) 72 80 (Int32.ofInt 1)) 72 81 (H.2.1 72 62)) 74 101 32) (q1 := 75) (q2 := 102) (n := 128) W3 rfl rfl (by decide) (by decide) rfl) ?_
  refine zw_ld (n := 1) (k := 0) (f := zp_isR) (pc' := 43) rfl rfl rfl rfl rfl ?_
  refine zw_ld (n := 1) (k := 0) (f := zp_isR) (pc' := 44) rfl rfl rfl rfl rfl ?_
  refine zw_gR (q := 72) (pc' := 47) W3 rfl rfl rfl rfl (W3.2 72 63 _ rfl) rfl ?_
  refine zw_ld (n := 1) (k := 0) (f := zp_isR) (pc' := 48) rfl rfl rfl rfl rfl ?_
  refine zw_gR (q := 72) (pc' := 51) W3 rfl rfl rfl rfl (W3.2 72 84 _ rfl) rfl ?_
  refine zw_cn (pc' := 54) (zw_cv (q := 72) (Y := zm_204) W3.1 rfl rfl zm_204_t rfl rfl) rfl rfl rfl rfl rfl (zc_copies (H := zc_k (zc_k (zw_I (zw_I (zw_I H 72 0 (Int32.ofInt 0)) 72 80 (Int32.ofInt 1)) 72 81 (H.2.1 72 62)) 74 101 32) 75 102 128) (q1 := 93) (q2 := 103) (n := 60) W3 rfl rfl (by decide) (by decide) rfl) ?_
  refine zw_rn rfl rfl ?_
  rfl

set_option maxRecDepth 8000 in
theorem yx_res0 {L : Nat} {σ : Nat → Int32} {d : Nat} {H : zp_H} (W : zw_W H) (h : (H.2.1 72 80).toInt = 0) : zp_Call L σ (d + 2) 250 [.inr (.inr (some 73))] H (.inl (some (.inl (Int32.ofInt 0))), zw_I H 72 0 (Int32.ofInt 0)) := by
  have e80 : (zw_I H 72 0 (Int32.ofInt 0)).2.1 72 80 = H.2.1 72 80 := zw_ne rfl rfl
  refine zw_ex (zw_met zm_250_t rfl rfl ?_)
  refine zw_ld (n := 1) (k := 0) (f := zp_isR) (pc' := 1) rfl rfl rfl rfl rfl ?_
  refine zw_s (pc' := 2) rfl rfl ?_
  refine zw_pI (q := 72) (pc' := 5) W rfl rfl rfl rfl rfl rfl ?_
  refine zw_ld (n := 1) (k := 0) (f := zp_isR) (pc' := 6) rfl rfl rfl rfl rfl ?_
  refine zw_gI (q := 72) (pc' := 9) (zw_W_I W) rfl rfl rfl rfl (zw_ne rfl rfl) rfl ?_
  refine zw_bne1 (g := 14) (pc' := 12) rfl rfl rfl rfl (fun hb => ?_) (fun hb => ?_)
  · exact absurd h hb
  · refine zw_s (pc' := 13) rfl rfl ?_
    refine zw_rz rfl rfl (by decide) ?_
    rfl

set_option maxRecDepth 8000 in
theorem yx_res1 {L : Nat} {σ : Nat → Int32} {d : Nat} {H : zp_H} (W : zw_W H) (h : (H.2.1 72 80).toInt ≠ 0) : zp_Call L σ (d + 2) 250 [.inr (.inr (some 73))] H (.inl (some (.inl (Int32.ofInt 1))), yRs H) := by
  refine zw_ex (zw_met zm_250_t rfl rfl ?_)
  refine zw_ld (n := 1) (k := 0) (f := zp_isR) (pc' := 1) rfl rfl rfl rfl rfl ?_
  refine zw_s (pc' := 2) rfl rfl ?_
  refine zw_pI (q := 72) (pc' := 5) W rfl rfl rfl rfl rfl rfl ?_
  refine zw_ld (n := 1) (k := 0) (f := zp_isR) (pc' := 6) rfl rfl rfl rfl rfl ?_
  refine zw_gI (q := 72) (pc' := 9) (zw_W_I W) rfl rfl rfl rfl (zw_ne rfl rfl) rfl ?_
  refine zw_bne1 (g := 14) (pc' := 12) rfl rfl rfl rfl (fun hb => ?_) (fun hb => ?_)
  · refine zw_ld (n := 1) (k := 0) (f := zp_isR) (pc' := 15) rfl rfl rfl rfl rfl ?_
    refine zw_ld (n := 1) (k := 0) (f := zp_isR) (pc' := 16) rfl rfl rfl rfl rfl ?_
    refine zw_gI (q := 72) (pc' := 19) (zw_W_I W) rfl rfl rfl rfl (zw_ne rfl rfl) rfl ?_
    refine zw_pI (q := 72) (pc' := 22) (zw_W_I W) rfl rfl rfl rfl rfl rfl ?_
    have W3 : zw_W (zw_I (zw_I H 72 0 (Int32.ofInt 0)) 72 62 (H.2.1 72 81)) := W
    refine zw_ld (n := 1) (k := 0) (f := zp_isR) (pc' := 23) rfl rfl rfl rfl rfl ?_
    refine zw_ld (n := 1) (k := 0) (f := zp_isR) (pc' := 24) rfl rfl rfl rfl rfl ?_
    refine zw_gR (q := 72) (pc' := 27) W3 rfl rfl rfl rfl (W3.2 72 82 _ rfl) rfl ?_
    refine zw_ld (n := 1) (k := 0) (f := zp_isR) (pc' := 28) rfl rfl rfl rfl rfl ?_
    refine zw_gR (q := 72) (pc' := 31) W3 rfl rfl rfl rfl (W3.2 72 14 _ rfl) rfl ?_
    refine zw_cn (pc' := 34) (zw_cv (q := 72) (Y := zm_204) W3.1 rfl rfl zm_204_t rfl rfl) rfl rfl rfl rfl rfl (zc_copies (H := zw_I (zw_I H 72 0 (Int32.ofInt 0)) 72 62 (H.2.1 72 81)) (q1 := 101) (q2 := 74) (n := 32) W3 rfl rfl (by decide) (by decide) rfl) ?_
    refine zw_ld (n := 1) (k := 0) (f := zp_isR) (pc' := 35) rfl rfl rfl rfl rfl ?_
    refine zw_ld (n := 1) (k := 0) (f := zp_isR) (pc' := 36) rfl rfl rfl rfl rfl ?_
    refine zw_gR (q := 72) (pc' := 39) W3 rfl rfl rfl rfl (W3.2 72 83 _ rfl) rfl ?_
    refine zw_ld (n := 1) (k := 0) (f := zp_isR) (pc' := 40) rfl rfl rfl rfl rfl ?_
    refine zw_gR (q := 72) (pc' := 43) W3 rfl rfl rfl rfl (W3.2 72 15 _ rfl) rfl ?_
    refine zw_cn (pc' := 46) (zw_cv (q := 72) (Y := zm_204) W3.1 rfl rfl zm_204_t rfl rfl) rfl rfl rfl rfl rfl (zc_copies (H := zc_k (zw_I (zw_I H 72 0 (Int32.ofInt 0)) 72 62 (H.2.1 72 81)) 101 74 32) (q1 := 102) (q2 := 75) (n := 128) W3 rfl rfl (by decide) (by decide) rfl) ?_
    refine zw_ld (n := 1) (k := 0) (f := zp_isR) (pc' := 47) rfl rfl rfl rfl rfl ?_
    refine zw_ld (n := 1) (k := 0) (f := zp_isR) (pc' := 48) rfl rfl rfl rfl rfl ?_
    refine zw_gR (q := 72) (pc' := 51) W3 rfl rfl rfl rfl (W3.2 72 84 _ rfl) rfl ?_
    refine zw_ld (n := 1) (k := 0) (f := zp_isR) (pc' := 52) rfl rfl rfl rfl rfl ?_
    refine zw_gR (q := 72) (pc' := 55) W3 rfl rfl rfl rfl (W3.2 72 63 _ rfl) rfl ?_
    refine zw_cn (pc' := 58) (zw_cv (q := 72) (Y := zm_204) W3.1 rfl rfl zm_204_t rfl rfl) rfl rfl rfl rfl rfl (zc_copies (H := zc_k (zc_k (zw_I (zw_I H 72 0 (Int32.ofInt 0)) 72 62 (H.2.1 72 81)) 101 74 32) 102 75 128) (q1 := 103) (q2 := 93) (n := 60) W3 rfl rfl (by decide) (by decide) rfl) ?_
    refine zw_s (pc' := 59) rfl rfl ?_
    refine zw_rz rfl rfl (by decide) ?_
    rfl
  · exact absurd hb h
