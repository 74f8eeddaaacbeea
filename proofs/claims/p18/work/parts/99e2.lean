/-! ===== the class fills its currents, exactly ===== -/
def zm_6 : za_MI := (yJ7_fill_d0a16, prog_31_method_101_code, 5, none, 17, 0, 0, [], za_i6)
theorem zm_6_t : za_MT 6 = some zm_6 := rfl
set_option maxRecDepth 8000 in
theorem yc_fill5 {L : Nat} {σ : Nat → Int32} {d : Nat} {H : zp_H} {u : Int64} (W : zw_W H) : ∃ X, zp_Call L σ (d + 1) 6 [.inr (.inr (some 6)), .inr (.inl u)] H X ∧ ∃ H1, X = (.inl none, H1) ∧ (∀ k, k < 4 → H1.2.2.1 5 k = u) ∧ H1.2.1 = H.2.1 := by
  refine zw_met zm_6_t rfl rfl ?_
  refine zw_s (pc' := 1) rfl rfl ?_
  refine zw_st (n := 1) (k := 3) (f := zp_isI) (pc' := 2) rfl rfl rfl rfl rfl ?_
  refine zw_ld (n := 1) (k := 0) (f := zp_isR) (pc' := 3) rfl rfl (zw_gt rfl rfl rfl) rfl rfl ?_
  refine zw_al (q := 5) (pc' := 4) W rfl rfl rfl ?_
  refine zw_st (n := 2) (k := 4) (f := zp_isI) (pc' := 6) rfl rfl rfl rfl rfl ?_
  refine zw_ld (n := 1) (k := 3) (f := zp_isI) (pc' := 7) rfl rfl (zw_gt zw_g1 rfl rfl) rfl rfl ?_
  refine zw_ld (n := 2) (k := 4) (f := zp_isI) (pc' := 9) rfl rfl zw_g1 rfl rfl ?_
  refine zw_bge2 (g := 22) (pc' := 12) rfl rfl rfl (rfl : _ = (0 : Int)) (rfl : _ = (4 : Int)) (fun h9 => absurd h9 (by decide)) (fun h0 => ?_)
  refine zw_ld (n := 1) (k := 0) (f := zp_isR) (pc' := 13) rfl rfl (zw_gt (zw_gt rfl rfl rfl) rfl rfl) rfl rfl ?_
  refine zw_ld (n := 1) (k := 3) (f := zp_isI) (pc' := 14) rfl rfl (zw_gt zw_g1 rfl rfl) rfl rfl ?_
  refine zw_ld (n := 1) (k := 1) (f := zp_isL) (pc' := 15) rfl rfl (zw_gt (zw_gt rfl rfl rfl) rfl rfl) rfl rfl ?_
  refine zw_ls (q := 5) (pc' := 16) W rfl rfl (⟨by decide, by decide⟩) rfl ?_
  refine zw_ii (pc' := 19) rfl (zw_gt zw_g1 rfl rfl) rfl rfl ?_
  refine zw_s (pc' := 6) rfl rfl ?_
  refine zw_ld (n := 1) (k := 3) (f := zp_isI) (pc' := 7) rfl rfl zw_g1 rfl rfl ?_
  refine zw_ld (n := 2) (k := 4) (f := zp_isI) (pc' := 9) rfl rfl (zw_gt zw_g1 rfl rfl) rfl rfl ?_
  refine zw_bge2 (g := 22) (pc' := 12) rfl rfl rfl rfl (rfl : _ = (4 : Int)) (fun h1 => ?_) (fun h1 => ?_)
  · exact absurd h1 (by decide)
  · refine zw_ld (n := 1) (k := 0) (f := zp_isR) (pc' := 13) rfl rfl (zw_gt (zw_gt (zw_gt rfl rfl rfl) rfl rfl) rfl rfl) rfl rfl ?_
    refine zw_ld (n := 1) (k := 3) (f := zp_isI) (pc' := 14) rfl rfl zw_g1 rfl rfl ?_
    refine zw_ld (n := 1) (k := 1) (f := zp_isL) (pc' := 15) rfl rfl (zw_gt (zw_gt (zw_gt rfl rfl rfl) rfl rfl) rfl rfl) rfl rfl ?_
    refine zw_ls (q := 5) (pc' := 16) W rfl rfl (⟨by decide, by decide⟩) rfl ?_
    refine zw_ii (pc' := 19) rfl zw_g1 rfl rfl ?_
    refine zw_s (pc' := 6) rfl rfl ?_
    refine zw_ld (n := 1) (k := 3) (f := zp_isI) (pc' := 7) rfl rfl zw_g1 rfl rfl ?_
    refine zw_ld (n := 2) (k := 4) (f := zp_isI) (pc' := 9) rfl rfl (zw_gt (zw_gt zw_g1 rfl rfl) rfl rfl) rfl rfl ?_
    refine zw_bge2 (g := 22) (pc' := 12) rfl rfl rfl rfl (rfl : _ = (4 : Int)) (fun h2 => ?_) (fun h2 => ?_)
    · exact absurd h2 (by decide)
    · refine zw_ld (n := 1) (k := 0) (f := zp_isR) (pc' := 13) rfl rfl (zw_gt (zw_gt (zw_gt (zw_gt rfl rfl rfl) rfl rfl) rfl rfl) rfl rfl) rfl rfl ?_
      refine zw_ld (n := 1) (k := 3) (f := zp_isI) (pc' := 14) rfl rfl zw_g1 rfl rfl ?_
      refine zw_ld (n := 1) (k := 1) (f := zp_isL) (pc' := 15) rfl rfl (zw_gt (zw_gt (zw_gt (zw_gt rfl rfl rfl) rfl rfl) rfl rfl) rfl rfl) rfl rfl ?_
      refine zw_ls (q := 5) (pc' := 16) W rfl rfl (⟨by decide, by decide⟩) rfl ?_
      refine zw_ii (pc' := 19) rfl zw_g1 rfl rfl ?_
      refine zw_s (pc' := 6) rfl rfl ?_
      refine zw_ld (n := 1) (k := 3) (f := zp_isI) (pc' := 7) rfl rfl zw_g1 rfl rfl ?_
      refine zw_ld (n := 2) (k := 4) (f := zp_isI) (pc' := 9) rfl rfl (zw_gt (zw_gt (zw_gt zw_g1 rfl rfl) rfl rfl) rfl rfl) rfl rfl ?_
      refine zw_bge2 (g := 22) (pc' := 12) rfl rfl rfl rfl (rfl : _ = (4 : Int)) (fun h3 => ?_) (fun h3 => ?_)
      · exact absurd h3 (by decide)
      · refine zw_ld (n := 1) (k := 0) (f := zp_isR) (pc' := 13) rfl rfl (zw_gt (zw_gt (zw_gt (zw_gt (zw_gt rfl rfl rfl) rfl rfl) rfl rfl) rfl rfl) rfl rfl) rfl rfl ?_
        refine zw_ld (n := 1) (k := 3) (f := zp_isI) (pc' := 14) rfl rfl zw_g1 rfl rfl ?_
        refine zw_ld (n := 1) (k := 1) (f := zp_isL) (pc' := 15) rfl rfl (zw_gt (zw_gt (zw_gt (zw_gt (zw_gt rfl rfl rfl) rfl rfl) rfl rfl) rfl rfl) rfl rfl) rfl rfl ?_
        refine zw_ls (q := 5) (pc' := 16) W rfl rfl (⟨by decide, by decide⟩) rfl ?_
        refine zw_ii (pc' := 19) rfl zw_g1 rfl rfl ?_
        refine zw_s (pc' := 6) rfl rfl ?_
        refine zw_ld (n := 1) (k := 3) (f := zp_isI) (pc' := 7) rfl rfl zw_g1 rfl rfl ?_
        refine zw_ld (n := 2) (k := 4) (f := zp_isI) (pc' := 9) rfl rfl (zw_gt (zw_gt (zw_gt (zw_gt zw_g1 rfl rfl) rfl rfl) rfl rfl) rfl rfl) rfl rfl ?_
        refine zw_bge2 (g := 22) (pc' := 12) rfl rfl rfl rfl (rfl : _ = (4 : Int)) (fun h4 => ?_) (fun h4 => ?_)
        · refine zw_rn rfl rfl ?_
          refine ⟨_, rfl, ?_, rfl⟩
          intro k hk
          rcases (show k = 0 ∨ k = 1 ∨ k = 2 ∨ k = 3 by omega) with rfl | rfl | rfl | rfl <;> rfl
        · exact absurd h4 (by decide)

set_option maxRecDepth 8000 in
theorem yc_fill25 {L : Nat} {σ : Nat → Int32} {d : Nat} {H : zp_H} {u : Int64} (W : zw_W H) : ∃ X, zp_Call L σ (d + 1) 6 [.inr (.inr (some 26)), .inr (.inl u)] H X ∧ ∃ H1, X = (.inl none, H1) ∧ (∀ k, k < 4 → H1.2.2.1 25 k = u) ∧ H1.2.1 = H.2.1 := by
  refine zw_met zm_6_t rfl rfl ?_
  refine zw_s (pc' := 1) rfl rfl ?_
  refine zw_st (n := 1) (k := 3) (f := zp_isI) (pc' := 2) rfl rfl rfl rfl rfl ?_
  refine zw_ld (n := 1) (k := 0) (f := zp_isR) (pc' := 3) rfl rfl (zw_gt rfl rfl rfl) rfl rfl ?_
  refine zw_al (q := 25) (pc' := 4) W rfl rfl rfl ?_
  refine zw_st (n := 2) (k := 4) (f := zp_isI) (pc' := 6) rfl rfl rfl rfl rfl ?_
  refine zw_ld (n := 1) (k := 3) (f := zp_isI) (pc' := 7) rfl rfl (zw_gt zw_g1 rfl rfl) rfl rfl ?_
  refine zw_ld (n := 2) (k := 4) (f := zp_isI) (pc' := 9) rfl rfl zw_g1 rfl rfl ?_
  refine zw_bge2 (g := 22) (pc' := 12) rfl rfl rfl (rfl : _ = (0 : Int)) (rfl : _ = (4 : Int)) (fun h9 => absurd h9 (by decide)) (fun h0 => ?_)
  refine zw_ld (n := 1) (k := 0) (f := zp_isR) (pc' := 13) rfl rfl (zw_gt (zw_gt rfl rfl rfl) rfl rfl) rfl rfl ?_
  refine zw_ld (n := 1) (k := 3) (f := zp_isI) (pc' := 14) rfl rfl (zw_gt zw_g1 rfl rfl) rfl rfl ?_
  refine zw_ld (n := 1) (k := 1) (f := zp_isL) (pc' := 15) rfl rfl (zw_gt (zw_gt rfl rfl rfl) rfl rfl) rfl rfl ?_
  refine zw_ls (q := 25) (pc' := 16) W rfl rfl (⟨by decide, by decide⟩) rfl ?_
  refine zw_ii (pc' := 19) rfl (zw_gt zw_g1 rfl rfl) rfl rfl ?_
  refine zw_s (pc' := 6) rfl rfl ?_
  refine zw_ld (n := 1) (k := 3) (f := zp_isI) (pc' := 7) rfl rfl zw_g1 rfl rfl ?_
  refine zw_ld (n := 2) (k := 4) (f := zp_isI) (pc' := 9) rfl rfl (zw_gt zw_g1 rfl rfl) rfl rfl ?_
  refine zw_bge2 (g := 22) (pc' := 12) rfl rfl rfl rfl (rfl : _ = (4 : Int)) (fun h1 => ?_) (fun h1 => ?_)
  · exact absurd h1 (by decide)
  · refine zw_ld (n := 1) (k := 0) (f := zp_isR) (pc' := 13) rfl rfl (zw_gt (zw_gt (zw_gt rfl rfl rfl) rfl rfl) rfl rfl) rfl rfl ?_
    refine zw_ld (n := 1) (k := 3) (f := zp_isI) (pc' := 14) rfl rfl zw_g1 rfl rfl ?_
    refine zw_ld (n := 1) (k := 1) (f := zp_isL) (pc' := 15) rfl rfl (zw_gt (zw_gt (zw_gt rfl rfl rfl) rfl rfl) rfl rfl) rfl rfl ?_
    refine zw_ls (q := 25) (pc' := 16) W rfl rfl (⟨by decide, by decide⟩) rfl ?_
    refine zw_ii (pc' := 19) rfl zw_g1 rfl rfl ?_
    refine zw_s (pc' := 6) rfl rfl ?_
    refine zw_ld (n := 1) (k := 3) (f := zp_isI) (pc' := 7) rfl rfl zw_g1 rfl rfl ?_
    refine zw_ld (n := 2) (k := 4) (f := zp_isI) (pc' := 9) rfl rfl (zw_gt (zw_gt zw_g1 rfl rfl) rfl rfl) rfl rfl ?_
    refine zw_bge2 (g := 22) (pc' := 12) rfl rfl rfl rfl (rfl : _ = (4 : Int)) (fun h2 => ?_) (fun h2 => ?_)
    · exact absurd h2 (by decide)
    · refine zw_ld (n := 1) (k := 0) (f := zp_isR) (pc' := 13) rfl rfl (zw_gt (zw_gt (zw_gt (zw_gt rfl rfl rfl) rfl rfl) rfl rfl) rfl rfl) rfl rfl ?_
      refine zw_ld (n := 1) (k := 3) (f := zp_isI) (pc' := 14) rfl rfl zw_g1 rfl rfl ?_
      refine zw_ld (n := 1) (k := 1) (f := zp_isL) (pc' := 15) rfl rfl (zw_gt (zw_gt (zw_gt (zw_gt rfl rfl rfl) rfl rfl) rfl rfl) rfl rfl) rfl rfl ?_
      refine zw_ls (q := 25) (pc' := 16) W rfl rfl (⟨by decide, by decide⟩) rfl ?_
      refine zw_ii (pc' := 19) rfl zw_g1 rfl rfl ?_
      refine zw_s (pc' := 6) rfl rfl ?_
      refine zw_ld (n := 1) (k := 3) (f := zp_isI) (pc' := 7) rfl rfl zw_g1 rfl rfl ?_
      refine zw_ld (n := 2) (k := 4) (f := zp_isI) (pc' := 9) rfl rfl (zw_gt (zw_gt (zw_gt zw_g1 rfl rfl) rfl rfl) rfl rfl) rfl rfl ?_
      refine zw_bge2 (g := 22) (pc' := 12) rfl rfl rfl rfl (rfl : _ = (4 : Int)) (fun h3 => ?_) (fun h3 => ?_)
      · exact absurd h3 (by decide)
      · refine zw_ld (n := 1) (k := 0) (f := zp_isR) (pc' := 13) rfl rfl (zw_gt (zw_gt (zw_gt (zw_gt (zw_gt rfl rfl rfl) rfl rfl) rfl rfl) rfl rfl) rfl rfl) rfl rfl ?_
        refine zw_ld (n := 1) (k := 3) (f := zp_isI) (pc' := 14) rfl rfl zw_g1 rfl rfl ?_
        refine zw_ld (n := 1) (k := 1) (f := zp_isL) (pc' := 15) rfl rfl (zw_gt (zw_gt (zw_gt (zw_gt (zw_gt rfl rfl rfl) rfl rfl) rfl rfl) rfl rfl) rfl rfl) rfl rfl ?_
        refine zw_ls (q := 25) (pc' := 16) W rfl rfl (⟨by decide, by decide⟩) rfl ?_
        refine zw_ii (pc' := 19) rfl zw_g1 rfl rfl ?_
        refine zw_s (pc' := 6) rfl rfl ?_
        refine zw_ld (n := 1) (k := 3) (f := zp_isI) (pc' := 7) rfl rfl zw_g1 rfl rfl ?_
        refine zw_ld (n := 2) (k := 4) (f := zp_isI) (pc' := 9) rfl rfl (zw_gt (zw_gt (zw_gt (zw_gt zw_g1 rfl rfl) rfl rfl) rfl rfl) rfl rfl) rfl rfl ?_
        refine zw_bge2 (g := 22) (pc' := 12) rfl rfl rfl rfl (rfl : _ = (4 : Int)) (fun h4 => ?_) (fun h4 => ?_)
        · refine zw_rn rfl rfl ?_
          refine ⟨_, rfl, ?_, rfl⟩
          intro k hk
          rcases (show k = 0 ∨ k = 1 ∨ k = 2 ∨ k = 3 by omega) with rfl | rfl | rfl | rfl <;> rfl
        · exact absurd h4 (by decide)
