section
/-! ===== write of the class, exactly ===== -/
def zm_108 : za_MI := (yX11_needSlate, prog_1_method_28_code, 2, none, 11, 1, 6, [], za_i108)
theorem zm_108_t : za_MT 108 = some zm_108 := rfl
def zm_111 : za_MI := (yL_write, method_8_code, 6, (some FieldType.int), 13, 1, 6, [(0, 12, 15, 18)], za_i111)
theorem zm_111_t : za_MT 111 = some zm_111 := rfl
def zm_112 : za_MI := (yX11_write, prog_1_method_11_code, 5, (some FieldType.int), 11, 1, 6, [], za_i112)
theorem zm_112_t : za_MT 112 = some zm_112 := rfl
theorem yc_ns1_0 {L : Nat} {σ : Nat → Int32} {d : Nat} {H : zp_H} {x : Int32} (hB : zk_Bs (zB_c 0) zg zJc H) (h : (0 ≤ x.toInt ∧ x.toInt < (H.2.1 13 0).toInt)) : zp_Call L σ (d + 1) 108 [.inr (.inr (some 1)), .inl x] H (.inl none, H) := by
  have W := zB_Wd (zB_dn (zB_Bc hB))
  have g5 : H.2.2.2 0 5 = some 3 := hB.2.1 0 5 _ rfl
  have g6 : H.2.2.2 0 6 = some 14 := hB.2.1 0 6 _ rfl
  have g7 : H.2.2.2 0 7 = some 23 := hB.2.1 0 7 _ rfl
  have g8 : H.2.2.2 0 8 = some 34 := hB.2.1 0 8 _ rfl
  refine zw_ex (zw_met zm_108_t rfl rfl ?_)
  refine zw_ld (n := 1) (k := 1) (f := zp_isI) (pc' := 1) rfl rfl rfl rfl rfl ?_
  refine zw_blt1 (g := 15) (pc' := 4) rfl rfl rfl rfl (fun h1 => ?_) (fun h1 => ?_)
  · omega
  · refine zw_ld (n := 1) (k := 1) (f := zp_isI) (pc' := 5) rfl rfl rfl rfl rfl ?_
    refine zw_ld (n := 1) (k := 0) (f := zp_isR) (pc' := 6) rfl rfl rfl rfl rfl ?_
    refine zw_gR (q := 0) (pc' := 9) W rfl rfl rfl rfl g6 rfl ?_
    refine zw_gI (q := 13) (pc' := 12) W rfl rfl rfl rfl rfl rfl ?_
    refine zw_blt2 (g := 26) (pc' := 15) rfl rfl rfl rfl rfl (fun h2 => ?_) (fun h2 => ?_)
    · refine zw_rn rfl rfl ?_
      rfl
    · omega

theorem yc_ns0_0 {L : Nat} {σ : Nat → Int32} {d : Nat} {H : zp_H} {x : Int32} (hB : zk_Bs (zB_c 0) zg zJc H) (h : ¬ (0 ≤ x.toInt ∧ x.toInt < (H.2.1 13 0).toInt)) : zp_Call L σ (d + 1) 108 [.inr (.inr (some 1)), .inl x] H (.inr 0, H) := by
  have W := zB_Wd (zB_dn (zB_Bc hB))
  have g5 : H.2.2.2 0 5 = some 3 := hB.2.1 0 5 _ rfl
  have g6 : H.2.2.2 0 6 = some 14 := hB.2.1 0 6 _ rfl
  have g7 : H.2.2.2 0 7 = some 23 := hB.2.1 0 7 _ rfl
  have g8 : H.2.2.2 0 8 = some 34 := hB.2.1 0 8 _ rfl
  refine zw_ex (zw_met zm_108_t rfl rfl ?_)
  refine zw_ld (n := 1) (k := 1) (f := zp_isI) (pc' := 1) rfl rfl rfl rfl rfl ?_
  refine zw_blt1 (g := 15) (pc' := 4) rfl rfl rfl rfl (fun h1 => ?_) (fun h1 => ?_)
  · exact zs_end (S := (15, _, [], H, (0, 0))) (X := (.inr 0, H)) rfl rfl rfl
  · refine zw_ld (n := 1) (k := 1) (f := zp_isI) (pc' := 5) rfl rfl rfl rfl rfl ?_
    refine zw_ld (n := 1) (k := 0) (f := zp_isR) (pc' := 6) rfl rfl rfl rfl rfl ?_
    refine zw_gR (q := 0) (pc' := 9) W rfl rfl rfl rfl g6 rfl ?_
    refine zw_gI (q := 13) (pc' := 12) W rfl rfl rfl rfl rfl rfl ?_
    refine zw_blt2 (g := 26) (pc' := 15) rfl rfl rfl rfl rfl (fun h2 => ?_) (fun h2 => ?_)
    · omega
    · exact zs_end (S := (15, _, [], H, (0, 0))) (X := (.inr 0, H)) rfl rfl rfl

theorem yc_ns1_3 {L : Nat} {σ : Nat → Int32} {d : Nat} {H : zp_H} {x : Int32} (hB : zk_Bs (zB_c 3) zg zJc H) (h : (0 ≤ x.toInt ∧ x.toInt < (H.2.1 33 0).toInt)) : zp_Call L σ (d + 1) 108 [.inr (.inr (some 1)), .inl x] H (.inl none, H) := by
  have W := zB_Wd (zB_dn (zB_Bc hB))
  have g5 : H.2.2.2 0 5 = some 23 := hB.2.1 0 5 _ rfl
  have g6 : H.2.2.2 0 6 = some 34 := hB.2.1 0 6 _ rfl
  have g7 : H.2.2.2 0 7 = some 3 := hB.2.1 0 7 _ rfl
  have g8 : H.2.2.2 0 8 = some 14 := hB.2.1 0 8 _ rfl
  refine zw_ex (zw_met zm_108_t rfl rfl ?_)
  refine zw_ld (n := 1) (k := 1) (f := zp_isI) (pc' := 1) rfl rfl rfl rfl rfl ?_
  refine zw_blt1 (g := 15) (pc' := 4) rfl rfl rfl rfl (fun h1 => ?_) (fun h1 => ?_)
  · omega
  · refine zw_ld (n := 1) (k := 1) (f := zp_isI) (pc' := 5) rfl rfl rfl rfl rfl ?_
    refine zw_ld (n := 1) (k := 0) (f := zp_isR) (pc' := 6) rfl rfl rfl rfl rfl ?_
    refine zw_gR (q := 0) (pc' := 9) W rfl rfl rfl rfl g6 rfl ?_
    refine zw_gI (q := 33) (pc' := 12) W rfl rfl rfl rfl rfl rfl ?_
    refine zw_blt2 (g := 26) (pc' := 15) rfl rfl rfl rfl rfl (fun h2 => ?_) (fun h2 => ?_)
    · refine zw_rn rfl rfl ?_
      rfl
    · omega

theorem yc_ns0_3 {L : Nat} {σ : Nat → Int32} {d : Nat} {H : zp_H} {x : Int32} (hB : zk_Bs (zB_c 3) zg zJc H) (h : ¬ (0 ≤ x.toInt ∧ x.toInt < (H.2.1 33 0).toInt)) : zp_Call L σ (d + 1) 108 [.inr (.inr (some 1)), .inl x] H (.inr 0, H) := by
  have W := zB_Wd (zB_dn (zB_Bc hB))
  have g5 : H.2.2.2 0 5 = some 23 := hB.2.1 0 5 _ rfl
  have g6 : H.2.2.2 0 6 = some 34 := hB.2.1 0 6 _ rfl
  have g7 : H.2.2.2 0 7 = some 3 := hB.2.1 0 7 _ rfl
  have g8 : H.2.2.2 0 8 = some 14 := hB.2.1 0 8 _ rfl
  refine zw_ex (zw_met zm_108_t rfl rfl ?_)
  refine zw_ld (n := 1) (k := 1) (f := zp_isI) (pc' := 1) rfl rfl rfl rfl rfl ?_
  refine zw_blt1 (g := 15) (pc' := 4) rfl rfl rfl rfl (fun h1 => ?_) (fun h1 => ?_)
  · exact zs_end (S := (15, _, [], H, (0, 0))) (X := (.inr 0, H)) rfl rfl rfl
  · refine zw_ld (n := 1) (k := 1) (f := zp_isI) (pc' := 5) rfl rfl rfl rfl rfl ?_
    refine zw_ld (n := 1) (k := 0) (f := zp_isR) (pc' := 6) rfl rfl rfl rfl rfl ?_
    refine zw_gR (q := 0) (pc' := 9) W rfl rfl rfl rfl g6 rfl ?_
    refine zw_gI (q := 33) (pc' := 12) W rfl rfl rfl rfl rfl rfl ?_
    refine zw_blt2 (g := 26) (pc' := 15) rfl rfl rfl rfl rfl (fun h2 => ?_) (fun h2 => ?_)
    · omega
    · exact zs_end (S := (15, _, [], H, (0, 0))) (X := (.inr 0, H)) rfl rfl rfl

theorem yc_wr0 {L : Nat} {σ : Nat → Int32} {d : Nat} {H : zp_H} {A : xK} {xs xw xt : Int32} (hB : zk_Bs (zB_c 0) zg zJc H) (hw : xKw A) (h : yHc 13 A H) (hs : 0 ≤ xs.toInt ∧ xs.toInt < A.1) : ∃ X, zp_Call L σ (d + 3) 112 [.inr (.inr (some 1)), .inl xs, .inl xw, .inl xt] H X ∧ ∃ H1 u, X = (.inl (some (.inl u)), H1) ∧ ((((A.2.2.1 xs.toInt.toNat 2).toInt < 8 ∧ (0 ≤ xw.toInt ∧ xw.toInt ≤ 3) ∧ 1 ≤ xt.toInt ∧ xt.toInt ≤ 9) ∧ u.toInt = (A.2.2.1 xs.toInt.toNat 2).toInt + 1 ∧ yHc 13 (xKk (xKm A xs.toInt.toNat xw xt) xs (Int32.ofInt (-1))) H1 ∧ H1.2.1 0 4 = H.2.1 0 4) ∨ (¬ ((A.2.2.1 xs.toInt.toNat 2).toInt < 8 ∧ (0 ≤ xw.toInt ∧ xw.toInt ≤ 3) ∧ 1 ≤ xt.toInt ∧ xt.toInt ≤ 9) ∧ u = Int32.ofInt (-1) ∧ yHc 13 A H1 ∧ H1.2.1 0 4 = H.2.1 0 4 + Int32.ofInt 1)) ∧ zw_W H1 ∧ H1.2.2 = H.2.2 := by
  have W := zB_Wd (zB_dn (zB_Bc hB))
  have g5 : H.2.2.2 0 5 = some 3 := hB.2.1 0 5 _ rfl
  have g6 : H.2.2.2 0 6 = some 14 := hB.2.1 0 6 _ rfl
  have g7 : H.2.2.2 0 7 = some 23 := hB.2.1 0 7 _ rfl
  have g8 : H.2.2.2 0 8 = some 34 := hB.2.1 0 8 _ rfl
  obtain ⟨b1, b2, b3, b4⟩ := hw
  have n0 := h.1
  have em : H.2.1 16 xs.toInt.toNat = A.2.2.1 xs.toInt.toNat 2 := h.2.2.1 xs.toInt.toNat 2 (by omega) (by decide)
  have em9 : (H.2.1 16 xs.toInt.toNat).toInt = (A.2.2.1 xs.toInt.toNat 2).toInt := congrArg Int32.toInt em
  have hm := b3 xs.toInt.toNat (by omega)
  refine zw_met zm_112_t rfl rfl ?_
  refine zw_ld (n := 1) (k := 0) (f := zp_isR) (pc' := 1) rfl rfl rfl rfl rfl ?_
  refine zw_ld (n := 1) (k := 1) (f := zp_isI) (pc' := 2) rfl rfl rfl rfl rfl ?_
  refine zw_ctn (pc' := 5) (c' := (1, 6)) (zw_cv (q := 0) (Y := zm_108) W.1 rfl rfl zm_108_t rfl rfl) (zw_pb_ok rfl) rfl rfl rfl rfl (yc_ns1_0 hB (by omega)) ?_
  refine zw_ld (n := 1) (k := 2) (f := zp_isI) (pc' := 6) rfl rfl rfl rfl rfl ?_
  refine zw_blt1 (g := 29) (pc' := 9) rfl rfl rfl rfl (fun g0 => ?_) (fun g0 => ?_)
  · refine zw_s (pc' := 30) rfl rfl ?_
    refine zw_st (n := 2) (k := 4) (f := zp_isI) (pc' := 32) rfl rfl rfl rfl rfl ?_
    refine zw_ld (n := 2) (k := 4) (f := zp_isI) (pc' := 34) rfl rfl zw_g1 rfl rfl ?_
    refine zw_beq1 (g := 51) (pc' := 37) rfl rfl rfl (rfl : _ = (0 : Int)) (fun h9 => ?_) (fun h9 => absurd h9 (by decide))
    refine zw_ld (n := 1) (k := 0) (f := zp_isR) (pc' := 52) rfl rfl (zw_gt rfl rfl rfl) rfl rfl ?_
    refine zw_s (pc' := 53) rfl rfl ?_
    refine zw_gI (q := 0) (pc' := 56) W rfl rfl rfl rfl rfl rfl ?_
    refine zw_s (pc' := 57) rfl rfl ?_
    refine zw_iadd (pc' := 58) rfl rfl ?_
    refine zw_pI (q := 0) (pc' := 61) W rfl rfl rfl rfl rfl rfl ?_
    refine zw_s (pc' := 62) rfl rfl ?_
    refine zw_rig rfl rfl ⟨by decide, by decide⟩ ?_
    refine ⟨_, _, rfl, Or.inr ⟨by omega, rfl, yHc_c (H := H) (fun p k p1 p2 => y_ne (fun h9 => by have := h9.1; omega)) h, zw_eq⟩, zw_W_I W, rfl⟩
  · refine zw_ld (n := 1) (k := 2) (f := zp_isI) (pc' := 10) rfl rfl rfl rfl rfl ?_
    refine zw_s (pc' := 11) rfl rfl ?_
    refine zw_bge2 (g := 29) (pc' := 14) rfl rfl rfl rfl (rfl : _ = (4 : Int)) (fun g1 => ?_) (fun g1 => ?_)
    · refine zw_s (pc' := 30) rfl rfl ?_
      refine zw_st (n := 2) (k := 4) (f := zp_isI) (pc' := 32) rfl rfl rfl rfl rfl ?_
      refine zw_ld (n := 2) (k := 4) (f := zp_isI) (pc' := 34) rfl rfl zw_g1 rfl rfl ?_
      refine zw_beq1 (g := 51) (pc' := 37) rfl rfl rfl (rfl : _ = (0 : Int)) (fun h9 => ?_) (fun h9 => absurd h9 (by decide))
      refine zw_ld (n := 1) (k := 0) (f := zp_isR) (pc' := 52) rfl rfl (zw_gt rfl rfl rfl) rfl rfl ?_
      refine zw_s (pc' := 53) rfl rfl ?_
      refine zw_gI (q := 0) (pc' := 56) W rfl rfl rfl rfl rfl rfl ?_
      refine zw_s (pc' := 57) rfl rfl ?_
      refine zw_iadd (pc' := 58) rfl rfl ?_
      refine zw_pI (q := 0) (pc' := 61) W rfl rfl rfl rfl rfl rfl ?_
      refine zw_s (pc' := 62) rfl rfl ?_
      refine zw_rig rfl rfl ⟨by decide, by decide⟩ ?_
      refine ⟨_, _, rfl, Or.inr ⟨by omega, rfl, yHc_c (H := H) (fun p k p1 p2 => y_ne (fun h9 => by have := h9.1; omega)) h, zw_eq⟩, zw_W_I W, rfl⟩
    · refine zw_ld (n := 1) (k := 3) (f := zp_isI) (pc' := 15) rfl rfl rfl rfl rfl ?_
      refine zw_s (pc' := 16) rfl rfl ?_
      refine zw_blt2 (g := 29) (pc' := 19) rfl rfl rfl rfl (rfl : _ = (1 : Int)) (fun g2 => ?_) (fun g2 => ?_)
      · refine zw_s (pc' := 30) rfl rfl ?_
        refine zw_st (n := 2) (k := 4) (f := zp_isI) (pc' := 32) rfl rfl rfl rfl rfl ?_
        refine zw_ld (n := 2) (k := 4) (f := zp_isI) (pc' := 34) rfl rfl zw_g1 rfl rfl ?_
        refine zw_beq1 (g := 51) (pc' := 37) rfl rfl rfl (rfl : _ = (0 : Int)) (fun h9 => ?_) (fun h9 => absurd h9 (by decide))
        refine zw_ld (n := 1) (k := 0) (f := zp_isR) (pc' := 52) rfl rfl (zw_gt rfl rfl rfl) rfl rfl ?_
        refine zw_s (pc' := 53) rfl rfl ?_
        refine zw_gI (q := 0) (pc' := 56) W rfl rfl rfl rfl rfl rfl ?_
        refine zw_s (pc' := 57) rfl rfl ?_
        refine zw_iadd (pc' := 58) rfl rfl ?_
        refine zw_pI (q := 0) (pc' := 61) W rfl rfl rfl rfl rfl rfl ?_
        refine zw_s (pc' := 62) rfl rfl ?_
        refine zw_rig rfl rfl ⟨by decide, by decide⟩ ?_
        refine ⟨_, _, rfl, Or.inr ⟨by omega, rfl, yHc_c (H := H) (fun p k p1 p2 => y_ne (fun h9 => by have := h9.1; omega)) h, zw_eq⟩, zw_W_I W, rfl⟩
      · refine zw_ld (n := 1) (k := 3) (f := zp_isI) (pc' := 20) rfl rfl rfl rfl rfl ?_
        refine zw_s (pc' := 22) rfl rfl ?_
        refine zw_bgt2 (g := 29) (pc' := 25) rfl rfl rfl rfl (rfl : _ = (9 : Int)) (fun g3 => ?_) (fun g3 => ?_)
        · refine zw_s (pc' := 30) rfl rfl ?_
          refine zw_st (n := 2) (k := 4) (f := zp_isI) (pc' := 32) rfl rfl rfl rfl rfl ?_
          refine zw_ld (n := 2) (k := 4) (f := zp_isI) (pc' := 34) rfl rfl zw_g1 rfl rfl ?_
          refine zw_beq1 (g := 51) (pc' := 37) rfl rfl rfl (rfl : _ = (0 : Int)) (fun h9 => ?_) (fun h9 => absurd h9 (by decide))
          refine zw_ld (n := 1) (k := 0) (f := zp_isR) (pc' := 52) rfl rfl (zw_gt rfl rfl rfl) rfl rfl ?_
          refine zw_s (pc' := 53) rfl rfl ?_
          refine zw_gI (q := 0) (pc' := 56) W rfl rfl rfl rfl rfl rfl ?_
          refine zw_s (pc' := 57) rfl rfl ?_
          refine zw_iadd (pc' := 58) rfl rfl ?_
          refine zw_pI (q := 0) (pc' := 61) W rfl rfl rfl rfl rfl rfl ?_
          refine zw_s (pc' := 62) rfl rfl ?_
          refine zw_rig rfl rfl ⟨by decide, by decide⟩ ?_
          refine ⟨_, _, rfl, Or.inr ⟨by omega, rfl, yHc_c (H := H) (fun p k p1 p2 => y_ne (fun h9 => by have := h9.1; omega)) h, zw_eq⟩, zw_W_I W, rfl⟩
        · refine zw_s (pc' := 26) rfl rfl ?_
          refine zw_s (pc' := 30) rfl rfl ?_
          refine zw_st (n := 2) (k := 4) (f := zp_isI) (pc' := 32) rfl rfl rfl rfl rfl ?_
          refine zw_ld (n := 2) (k := 4) (f := zp_isI) (pc' := 34) rfl rfl zw_g1 rfl rfl ?_
          refine zw_beq1 (g := 51) (pc' := 37) rfl rfl rfl (rfl : _ = (1 : Int)) (fun h9 => absurd h9 (by decide)) (fun h9 => ?_)
          refine zw_ld (n := 1) (k := 0) (f := zp_isR) (pc' := 38) rfl rfl (zw_gt rfl rfl rfl) rfl rfl ?_
          refine zw_gR (q := 0) (pc' := 41) W rfl rfl rfl rfl g6 rfl ?_
          refine zw_gR (q := 13) (pc' := 44) W rfl rfl rfl rfl (W.2 13 3 _ rfl) rfl ?_
          refine zw_ld (n := 1) (k := 1) (f := zp_isI) (pc' := 45) rfl rfl (zw_gt rfl rfl rfl) rfl rfl ?_
          refine zw_ia (q := 16) (pc' := 46) W rfl rfl (by decide) (⟨hs.1, by show _ < ((8 : Nat) : Int); omega⟩) rfl rfl ?_
          refine zw_s (pc' := 48) rfl rfl ?_
          refine zw_blt2 (g := 63) (pc' := 51) rfl rfl rfl rfl (rfl : _ = (8 : Int)) (fun h10 => ?_) (fun h10 => ?_)
          · obtain ⟨_, q1, H1, rfl, W1, q2, q3, q4⟩ := yc_keep13 (L := L) (σ := σ) (d := d + 1) (s := xs) (v := Int32.ofInt (-1)) W ⟨b1, b2, b3, b4⟩ h
            have g6b : H1.2.2.2 0 6 = some 14 := (congrArg (fun z => z.2 0 6) q2).trans g6
            refine zw_ld (n := 1) (k := 0) (f := zp_isR) (pc' := 64) rfl rfl (zw_gt rfl rfl rfl) rfl rfl ?_
            refine zw_gR (q := 0) (pc' := 67) W rfl rfl rfl rfl g6 rfl ?_
            refine zw_ld (n := 1) (k := 1) (f := zp_isI) (pc' := 68) rfl rfl (zw_gt rfl rfl rfl) rfl rfl ?_
            refine zw_s (pc' := 69) rfl rfl ?_
            refine zw_cn (pc' := 72) (zw_cv (q := 13) (Y := zm_113) W.1 rfl rfl zm_113_t rfl rfl) rfl rfl rfl rfl rfl (q1) ?_
            have em1 : H1.2.1 16 xs.toInt.toNat = A.2.2.1 xs.toInt.toNat 2 := q3.2.2.1 xs.toInt.toNat 2 (by show xs.toInt.toNat < A.1; omega) (by decide)
            have e8 : (xs * Int32.ofInt 8 + H1.2.1 16 xs.toInt.toNat).toInt.toNat = 8 * xs.toInt.toNat + (A.2.2.1 xs.toInt.toNat 2).toInt.toNat := by
              have m1 : (xs * Int32.ofInt 8).toInt = xs.toInt * 8 := zq_mul rfl (by omega) (by omega)
              rw [em1, zq_add (by rw [m1]; omega) (by rw [m1]; omega), m1]
              omega
            refine zw_ld (n := 1) (k := 0) (f := zp_isR) (pc' := 73) rfl rfl (zw_gt rfl rfl rfl) rfl rfl ?_
            refine zw_gR (q := 0) (pc' := 76) W1 rfl rfl rfl rfl g6b rfl ?_
            refine zw_ld (n := 1) (k := 1) (f := zp_isI) (pc' := 77) rfl rfl (zw_gt rfl rfl rfl) rfl rfl ?_
            refine zw_ld (n := 1) (k := 2) (f := zp_isI) (pc' := 78) rfl rfl (zw_gt rfl rfl rfl) rfl rfl ?_
            refine zw_ld (n := 1) (k := 3) (f := zp_isI) (pc' := 79) rfl rfl (zw_gt rfl rfl rfl) rfl rfl ?_
            refine zw_cn (pc' := 82) (zw_cv (q := 13) (Y := zm_78) W1.1 rfl rfl zm_78_t rfl rfl) rfl rfl rfl rfl rfl (yc_pmX13 W1 (a := (A.2.2.1 xs.toInt.toNat 2).toInt.toNat) (by omega) (by rw [em1]; omega) (by omega)) ?_
            refine zw_ld (n := 1) (k := 0) (f := zp_isR) (pc' := 83) rfl rfl (zw_gt rfl rfl rfl) rfl rfl ?_
            refine zw_gR (q := 0) (pc' := 86) (zw_W_I (zw_W_I (zw_W_I W1))) rfl rfl rfl rfl g6b rfl ?_
            refine zw_gR (q := 13) (pc' := 89) (zw_W_I (zw_W_I (zw_W_I W1))) rfl rfl rfl rfl ((zw_W_I (zw_W_I (zw_W_I W1))).2 13 3 _ rfl) rfl ?_
            refine zw_ld (n := 1) (k := 1) (f := zp_isI) (pc' := 90) rfl rfl (zw_gt rfl rfl rfl) rfl rfl ?_
            refine zw_ia (q := 16) (pc' := 91) (zw_W_I (zw_W_I (zw_W_I W1))) rfl rfl (by decide) (⟨hs.1, by show _ < ((8 : Nat) : Int); omega⟩) rfl rfl ?_
            refine zw_rig rfl rfl ⟨by decide, by decide⟩ ?_
            refine ⟨_, _, rfl, Or.inl ⟨⟨by omega, by omega, by omega⟩, ?_, ?_, ?_⟩, zw_W_I (zw_W_I (zw_W_I W1)), q2⟩
            · refine (congrArg Int32.toInt zw_eq).trans ?_
              rw [em1, zw_p1 (by omega)]
            · rw [e8]
              refine (show yHc 13 (xKm (xKk A xs (Int32.ofInt (-1))) xs.toInt.toNat xw xt) _ from yHc_m q3 (xKw_k ⟨b1, b2, b3, b4⟩ ⟨hs.1, hs.2⟩) (by show xs.toInt.toNat < A.1; omega) (by show (A.2.2.1 xs.toInt.toNat 2).toInt < 8; omega) (fun p k p1 p2 p3 p4 p5 => (y_ne (fun h9 => p3 h9)).trans ((y_ne (fun h9 => p5 h9)).trans (y_ne (fun h9 => p4 h9)))) ?_ ?_ ?_)
              · exact zw_eq.trans (congrArg (fun z : Int32 => z + Int32.ofInt 1) em1)
              · exact (y_ne (fun h9 => absurd h9.1 (by decide))).trans ((y_ne (fun h9 => absurd h9.1 (by decide))).trans zw_eq)
              · exact (y_ne (fun h9 => absurd h9.1 (by decide))).trans zw_eq
            · exact (y_ne (fun h9 => absurd h9.1 (by decide))).trans ((y_ne (fun h9 => absurd h9.1 (by decide))).trans ((y_ne (fun h9 => absurd h9.1 (by decide))).trans (q4 0 4 (by decide) (by decide) (by decide))))
          · refine zw_ld (n := 1) (k := 0) (f := zp_isR) (pc' := 52) rfl rfl (zw_gt rfl rfl rfl) rfl rfl ?_
            refine zw_s (pc' := 53) rfl rfl ?_
            refine zw_gI (q := 0) (pc' := 56) W rfl rfl rfl rfl rfl rfl ?_
            refine zw_s (pc' := 57) rfl rfl ?_
            refine zw_iadd (pc' := 58) rfl rfl ?_
            refine zw_pI (q := 0) (pc' := 61) W rfl rfl rfl rfl rfl rfl ?_
            refine zw_s (pc' := 62) rfl rfl ?_
            refine zw_rig rfl rfl ⟨by decide, by decide⟩ ?_
            refine ⟨_, _, rfl, Or.inr ⟨by omega, rfl, yHc_c (H := H) (fun p k p1 p2 => y_ne (fun h9 => by have := h9.1; omega)) h, zw_eq⟩, zw_W_I W, rfl⟩

theorem yl_wr0 {L : Nat} {σ : Nat → Int32} {d : Nat} {H : zp_H} {A : xK} {xs xw xt : Int32} (hB : zk_Bs (zB_c 0) zg zJc H) (hw : xKw A) (h : yHc 13 A H) (hs : 0 ≤ xs.toInt ∧ xs.toInt < A.1) : ∃ H1 u, zp_Call L σ (d + 4) 111 [.inr (.inr (some 1)), .inl xs, .inl xw, .inl xt, .inr (.inr (some 105))] H (.inl (some (.inl (Int32.ofInt 0))), zw_J H1 104 0 u.toInt64) ∧ ((((A.2.2.1 xs.toInt.toNat 2).toInt < 8 ∧ (0 ≤ xw.toInt ∧ xw.toInt ≤ 3) ∧ 1 ≤ xt.toInt ∧ xt.toInt ≤ 9) ∧ u.toInt = (A.2.2.1 xs.toInt.toNat 2).toInt + 1 ∧ yHc 13 (xKk (xKm A xs.toInt.toNat xw xt) xs (Int32.ofInt (-1))) H1 ∧ H1.2.1 0 4 = H.2.1 0 4) ∨ (¬ ((A.2.2.1 xs.toInt.toNat 2).toInt < 8 ∧ (0 ≤ xw.toInt ∧ xw.toInt ≤ 3) ∧ 1 ≤ xt.toInt ∧ xt.toInt ≤ 9) ∧ u = Int32.ofInt (-1) ∧ yHc 13 A H1 ∧ H1.2.1 0 4 = H.2.1 0 4 + Int32.ofInt 1)) ∧ zw_W H1 ∧ H1.2.2 = H.2.2 := by
  obtain ⟨_, q1, H1, u, rfl, q2, W1, q3⟩ := yc_wr0 (L := L) (σ := σ) (d := d) (xw := xw) (xt := xt) hB hw h hs
  have W := zB_Wd (zB_dn (zB_Bc hB))
  refine ⟨H1, u, zw_ex (zw_met zm_111_t rfl rfl ?_), q2, W1, q3⟩
  refine zw_ld (n := 2) (k := 4) (f := zp_isR) (pc' := 2) rfl rfl rfl rfl rfl ?_
  refine zw_s (pc' := 3) rfl rfl ?_
  refine zw_ld (n := 1) (k := 0) (f := zp_isR) (pc' := 4) rfl rfl rfl rfl rfl ?_
  refine zw_ld (n := 1) (k := 1) (f := zp_isI) (pc' := 5) rfl rfl rfl rfl rfl ?_
  refine zw_ld (n := 1) (k := 2) (f := zp_isI) (pc' := 6) rfl rfl rfl rfl rfl ?_
  refine zw_ld (n := 1) (k := 3) (f := zp_isI) (pc' := 7) rfl rfl rfl rfl rfl ?_
  refine zw_ct (pc' := 10) (c' := (1, 6)) (zw_cv (q := 0) (Y := zm_112) W.1 rfl rfl zm_112_t rfl rfl) (zw_pb_ok rfl) rfl rfl rfl rfl (q1) ?_
  refine zw_s (pc' := 11) rfl rfl ?_
  refine zw_ls (q := 104) (pc' := 12) W1 rfl rfl (⟨by decide, by decide⟩) rfl ?_
  refine zw_s (pc' := 19) rfl rfl ?_
  refine zw_s (pc' := 20) rfl rfl ?_
  refine zw_rig rfl rfl ⟨by decide, by decide⟩ ?_
  rfl

theorem yc_wrn0 {L : Nat} {σ : Nat → Int32} {d : Nat} {H : zp_H} {xs xw xt : Int32} (hB : zk_Bs (zB_c 0) zg zJc H) (h : ¬ (0 ≤ xs.toInt ∧ xs.toInt < (H.2.1 13 0).toInt)) : zp_Call L σ (d + 3) 112 [.inr (.inr (some 1)), .inl xs, .inl xw, .inl xt] H (.inr 0, H) := by
  have W := zB_Wd (zB_dn (zB_Bc hB))
  have g5 : H.2.2.2 0 5 = some 3 := hB.2.1 0 5 _ rfl
  have g6 : H.2.2.2 0 6 = some 14 := hB.2.1 0 6 _ rfl
  have g7 : H.2.2.2 0 7 = some 23 := hB.2.1 0 7 _ rfl
  have g8 : H.2.2.2 0 8 = some 34 := hB.2.1 0 8 _ rfl
  refine zw_ex (zw_met zm_112_t rfl rfl ?_)
  refine zw_ld (n := 1) (k := 0) (f := zp_isR) (pc' := 1) rfl rfl rfl rfl rfl ?_
  refine zw_ld (n := 1) (k := 1) (f := zp_isI) (pc' := 2) rfl rfl rfl rfl rfl ?_
  refine zw_cthr (ex := 0) (zw_cv (q := 0) (Y := zm_108) W.1 rfl rfl zm_108_t rfl rfl) (zw_pb_ok rfl) rfl rfl (yc_ns0_0 hB h) ?_
  rfl

theorem yl_wrn0 {L : Nat} {σ : Nat → Int32} {d : Nat} {H : zp_H} {xs xw xt : Int32} (hB : zk_Bs (zB_c 0) zg zJc H) (h : ¬ (0 ≤ xs.toInt ∧ xs.toInt < (H.2.1 13 0).toInt)) : zp_Call L σ (d + 4) 111 [.inr (.inr (some 1)), .inl xs, .inl xw, .inl xt, .inr (.inr (some 105))] H (.inl (some (.inl (Int32.ofInt 1))), H) := by
  have W := zB_Wd (zB_dn (zB_Bc hB))
  refine zw_ex (zw_met zm_111_t rfl rfl ?_)
  refine zw_ld (n := 2) (k := 4) (f := zp_isR) (pc' := 2) rfl rfl rfl rfl rfl ?_
  refine zw_s (pc' := 3) rfl rfl ?_
  refine zw_ld (n := 1) (k := 0) (f := zp_isR) (pc' := 4) rfl rfl rfl rfl rfl ?_
  refine zw_ld (n := 1) (k := 1) (f := zp_isI) (pc' := 5) rfl rfl rfl rfl rfl ?_
  refine zw_ld (n := 1) (k := 2) (f := zp_isI) (pc' := 6) rfl rfl rfl rfl rfl ?_
  refine zw_ld (n := 1) (k := 3) (f := zp_isI) (pc' := 7) rfl rfl rfl rfl rfl ?_
  refine zw_cexw (ex := 0) (hp9 := 15) (k9 := 5) (pc' := 17) (c' := (1, 6)) (zw_cv (q := 0) (Y := zm_112) W.1 rfl rfl zm_112_t rfl rfl) (zw_pb_ok rfl) rfl rfl rfl rfl rfl rfl rfl (yc_wrn0 hB h) ?_
  refine zw_s (pc' := 18) rfl rfl ?_
  refine zw_rig rfl rfl ⟨by decide, by decide⟩ ?_
  rfl

theorem yc_wr3 {L : Nat} {σ : Nat → Int32} {d : Nat} {H : zp_H} {A : xK} {xs xw xt : Int32} (hB : zk_Bs (zB_c 3) zg zJc H) (hw : xKw A) (h : yHc 33 A H) (hs : 0 ≤ xs.toInt ∧ xs.toInt < A.1) : ∃ X, zp_Call L σ (d + 3) 112 [.inr (.inr (some 1)), .inl xs, .inl xw, .inl xt] H X ∧ ∃ H1 u, X = (.inl (some (.inl u)), H1) ∧ ((((A.2.2.1 xs.toInt.toNat 2).toInt < 8 ∧ (0 ≤ xw.toInt ∧ xw.toInt ≤ 3) ∧ 1 ≤ xt.toInt ∧ xt.toInt ≤ 9) ∧ u.toInt = (A.2.2.1 xs.toInt.toNat 2).toInt + 1 ∧ yHc 33 (xKk (xKm A xs.toInt.toNat xw xt) xs (Int32.ofInt (-1))) H1 ∧ H1.2.1 0 4 = H.2.1 0 4) ∨ (¬ ((A.2.2.1 xs.toInt.toNat 2).toInt < 8 ∧ (0 ≤ xw.toInt ∧ xw.toInt ≤ 3) ∧ 1 ≤ xt.toInt ∧ xt.toInt ≤ 9) ∧ u = Int32.ofInt (-1) ∧ yHc 33 A H1 ∧ H1.2.1 0 4 = H.2.1 0 4 + Int32.ofInt 1)) ∧ zw_W H1 ∧ H1.2.2 = H.2.2 := by
  have W := zB_Wd (zB_dn (zB_Bc hB))
  have g5 : H.2.2.2 0 5 = some 23 := hB.2.1 0 5 _ rfl
  have g6 : H.2.2.2 0 6 = some 34 := hB.2.1 0 6 _ rfl
  have g7 : H.2.2.2 0 7 = some 3 := hB.2.1 0 7 _ rfl
  have g8 : H.2.2.2 0 8 = some 14 := hB.2.1 0 8 _ rfl
  obtain ⟨b1, b2, b3, b4⟩ := hw
  have n0 := h.1
  have em : H.2.1 36 xs.toInt.toNat = A.2.2.1 xs.toInt.toNat 2 := h.2.2.1 xs.toInt.toNat 2 (by omega) (by decide)
  have em9 : (H.2.1 36 xs.toInt.toNat).toInt = (A.2.2.1 xs.toInt.toNat 2).toInt := congrArg Int32.toInt em
  have hm := b3 xs.toInt.toNat (by omega)
  refine zw_met zm_112_t rfl rfl ?_
  refine zw_ld (n := 1) (k := 0) (f := zp_isR) (pc' := 1) rfl rfl rfl rfl rfl ?_
  refine zw_ld (n := 1) (k := 1) (f := zp_isI) (pc' := 2) rfl rfl rfl rfl rfl ?_
  refine zw_ctn (pc' := 5) (c' := (1, 6)) (zw_cv (q := 0) (Y := zm_108) W.1 rfl rfl zm_108_t rfl rfl) (zw_pb_ok rfl) rfl rfl rfl rfl (yc_ns1_3 hB (by omega)) ?_
  refine zw_ld (n := 1) (k := 2) (f := zp_isI) (pc' := 6) rfl rfl rfl rfl rfl ?_
  refine zw_blt1 (g := 29) (pc' := 9) rfl rfl rfl rfl (fun g0 => ?_) (fun g0 => ?_)
  · refine zw_s (pc' := 30) rfl rfl ?_
    refine zw_st (n := 2) (k := 4) (f := zp_isI) (pc' := 32) rfl rfl rfl rfl rfl ?_
    refine zw_ld (n := 2) (k := 4) (f := zp_isI) (pc' := 34) rfl rfl zw_g1 rfl rfl ?_
    refine zw_beq1 (g := 51) (pc' := 37) rfl rfl rfl (rfl : _ = (0 : Int)) (fun h9 => ?_) (fun h9 => absurd h9 (by decide))
    refine zw_ld (n := 1) (k := 0) (f := zp_isR) (pc' := 52) rfl rfl (zw_gt rfl rfl rfl) rfl rfl ?_
    refine zw_s (pc' := 53) rfl rfl ?_
    refine zw_gI (q := 0) (pc' := 56) W rfl rfl rfl rfl rfl rfl ?_
    refine zw_s (pc' := 57) rfl rfl ?_
    refine zw_iadd (pc' := 58) rfl rfl ?_
    refine zw_pI (q := 0) (pc' := 61) W rfl rfl rfl rfl rfl rfl ?_
    refine zw_s (pc' := 62) rfl rfl ?_
    refine zw_rig rfl rfl ⟨by decide, by decide⟩ ?_
    refine ⟨_, _, rfl, Or.inr ⟨by omega, rfl, yHc_c (H := H) (fun p k p1 p2 => y_ne (fun h9 => by have := h9.1; omega)) h, zw_eq⟩, zw_W_I W, rfl⟩
  · refine zw_ld (n := 1) (k := 2) (f := zp_isI) (pc' := 10) rfl rfl rfl rfl rfl ?_
    refine zw_s (pc' := 11) rfl rfl ?_
    refine zw_bge2 (g := 29) (pc' := 14) rfl rfl rfl rfl (rfl : _ = (4 : Int)) (fun g1 => ?_) (fun g1 => ?_)
    · refine zw_s (pc' := 30) rfl rfl ?_
      refine zw_st (n := 2) (k := 4) (f := zp_isI) (pc' := 32) rfl rfl rfl rfl rfl ?_
      refine zw_ld (n := 2) (k := 4) (f := zp_isI) (pc' := 34) rfl rfl zw_g1 rfl rfl ?_
      refine zw_beq1 (g := 51) (pc' := 37) rfl rfl rfl (rfl : _ = (0 : Int)) (fun h9 => ?_) (fun h9 => absurd h9 (by decide))
      refine zw_ld (n := 1) (k := 0) (f := zp_isR) (pc' := 52) rfl rfl (zw_gt rfl rfl rfl) rfl rfl ?_
      refine zw_s (pc' := 53) rfl rfl ?_
      refine zw_gI (q := 0) (pc' := 56) W rfl rfl rfl rfl rfl rfl ?_
      refine zw_s (pc' := 57) rfl rfl ?_
      refine zw_iadd (pc' := 58) rfl rfl ?_
      refine zw_pI (q := 0) (pc' := 61) W rfl rfl rfl rfl rfl rfl ?_
      refine zw_s (pc' := 62) rfl rfl ?_
      refine zw_rig rfl rfl ⟨by decide, by decide⟩ ?_
      refine ⟨_, _, rfl, Or.inr ⟨by omega, rfl, yHc_c (H := H) (fun p k p1 p2 => y_ne (fun h9 => by have := h9.1; omega)) h, zw_eq⟩, zw_W_I W, rfl⟩
    · refine zw_ld (n := 1) (k := 3) (f := zp_isI) (pc' := 15) rfl rfl rfl rfl rfl ?_
      refine zw_s (pc' := 16) rfl rfl ?_
      refine zw_blt2 (g := 29) (pc' := 19) rfl rfl rfl rfl (rfl : _ = (1 : Int)) (fun g2 => ?_) (fun g2 => ?_)
      · refine zw_s (pc' := 30) rfl rfl ?_
        refine zw_st (n := 2) (k := 4) (f := zp_isI) (pc' := 32) rfl rfl rfl rfl rfl ?_
        refine zw_ld (n := 2) (k := 4) (f := zp_isI) (pc' := 34) rfl rfl zw_g1 rfl rfl ?_
        refine zw_beq1 (g := 51) (pc' := 37) rfl rfl rfl (rfl : _ = (0 : Int)) (fun h9 => ?_) (fun h9 => absurd h9 (by decide))
        refine zw_ld (n := 1) (k := 0) (f := zp_isR) (pc' := 52) rfl rfl (zw_gt rfl rfl rfl) rfl rfl ?_
        refine zw_s (pc' := 53) rfl rfl ?_
        refine zw_gI (q := 0) (pc' := 56) W rfl rfl rfl rfl rfl rfl ?_
        refine zw_s (pc' := 57) rfl rfl ?_
        refine zw_iadd (pc' := 58) rfl rfl ?_
        refine zw_pI (q := 0) (pc' := 61) W rfl rfl rfl rfl rfl rfl ?_
        refine zw_s (pc' := 62) rfl rfl ?_
        refine zw_rig rfl rfl ⟨by decide, by decide⟩ ?_
        refine ⟨_, _, rfl, Or.inr ⟨by omega, rfl, yHc_c (H := H) (fun p k p1 p2 => y_ne (fun h9 => by have := h9.1; omega)) h, zw_eq⟩, zw_W_I W, rfl⟩
      · refine zw_ld (n := 1) (k := 3) (f := zp_isI) (pc' := 20) rfl rfl rfl rfl rfl ?_
        refine zw_s (pc' := 22) rfl rfl ?_
        refine zw_bgt2 (g := 29) (pc' := 25) rfl rfl rfl rfl (rfl : _ = (9 : Int)) (fun g3 => ?_) (fun g3 => ?_)
        · refine zw_s (pc' := 30) rfl rfl ?_
          refine zw_st (n := 2) (k := 4) (f := zp_isI) (pc' := 32) rfl rfl rfl rfl rfl ?_
          refine zw_ld (n := 2) (k := 4) (f := zp_isI) (pc' := 34) rfl rfl zw_g1 rfl rfl ?_
          refine zw_beq1 (g := 51) (pc' := 37) rfl rfl rfl (rfl : _ = (0 : Int)) (fun h9 => ?_) (fun h9 => absurd h9 (by decide))
          refine zw_ld (n := 1) (k := 0) (f := zp_isR) (pc' := 52) rfl rfl (zw_gt rfl rfl rfl) rfl rfl ?_
          refine zw_s (pc' := 53) rfl rfl ?_
          refine zw_gI (q := 0) (pc' := 56) W rfl rfl rfl rfl rfl rfl ?_
          refine zw_s (pc' := 57) rfl rfl ?_
          refine zw_iadd (pc' := 58) rfl rfl ?_
          refine zw_pI (q := 0) (pc' := 61) W rfl rfl rfl rfl rfl rfl ?_
          refine zw_s (pc' := 62) rfl rfl ?_
          refine zw_rig rfl rfl ⟨by decide, by decide⟩ ?_
          refine ⟨_, _, rfl, Or.inr ⟨by omega, rfl, yHc_c (H := H) (fun p k p1 p2 => y_ne (fun h9 => by have := h9.1; omega)) h, zw_eq⟩, zw_W_I W, rfl⟩
        · refine zw_s (pc' := 26) rfl rfl ?_
          refine zw_s (pc' := 30) rfl rfl ?_
          refine zw_st (n := 2) (k := 4) (f := zp_isI) (pc' := 32) rfl rfl rfl rfl rfl ?_
          refine zw_ld (n := 2) (k := 4) (f := zp_isI) (pc' := 34) rfl rfl zw_g1 rfl rfl ?_
          refine zw_beq1 (g := 51) (pc' := 37) rfl rfl rfl (rfl : _ = (1 : Int)) (fun h9 => absurd h9 (by decide)) (fun h9 => ?_)
          refine zw_ld (n := 1) (k := 0) (f := zp_isR) (pc' := 38) rfl rfl (zw_gt rfl rfl rfl) rfl rfl ?_
          refine zw_gR (q := 0) (pc' := 41) W rfl rfl rfl rfl g6 rfl ?_
          refine zw_gR (q := 33) (pc' := 44) W rfl rfl rfl rfl (W.2 33 3 _ rfl) rfl ?_
          refine zw_ld (n := 1) (k := 1) (f := zp_isI) (pc' := 45) rfl rfl (zw_gt rfl rfl rfl) rfl rfl ?_
          refine zw_ia (q := 36) (pc' := 46) W rfl rfl (by decide) (⟨hs.1, by show _ < ((8 : Nat) : Int); omega⟩) rfl rfl ?_
          refine zw_s (pc' := 48) rfl rfl ?_
          refine zw_blt2 (g := 63) (pc' := 51) rfl rfl rfl rfl (rfl : _ = (8 : Int)) (fun h10 => ?_) (fun h10 => ?_)
          · obtain ⟨_, q1, H1, rfl, W1, q2, q3, q4⟩ := yc_keep33 (L := L) (σ := σ) (d := d + 1) (s := xs) (v := Int32.ofInt (-1)) W ⟨b1, b2, b3, b4⟩ h
            have g6b : H1.2.2.2 0 6 = some 34 := (congrArg (fun z => z.2 0 6) q2).trans g6
            refine zw_ld (n := 1) (k := 0) (f := zp_isR) (pc' := 64) rfl rfl (zw_gt rfl rfl rfl) rfl rfl ?_
            refine zw_gR (q := 0) (pc' := 67) W rfl rfl rfl rfl g6 rfl ?_
            refine zw_ld (n := 1) (k := 1) (f := zp_isI) (pc' := 68) rfl rfl (zw_gt rfl rfl rfl) rfl rfl ?_
            refine zw_s (pc' := 69) rfl rfl ?_
            refine zw_cn (pc' := 72) (zw_cv (q := 33) (Y := zm_113) W.1 rfl rfl zm_113_t rfl rfl) rfl rfl rfl rfl rfl (q1) ?_
            have em1 : H1.2.1 36 xs.toInt.toNat = A.2.2.1 xs.toInt.toNat 2 := q3.2.2.1 xs.toInt.toNat 2 (by show xs.toInt.toNat < A.1; omega) (by decide)
            have e8 : (xs * Int32.ofInt 8 + H1.2.1 36 xs.toInt.toNat).toInt.toNat = 8 * xs.toInt.toNat + (A.2.2.1 xs.toInt.toNat 2).toInt.toNat := by
              have m1 : (xs * Int32.ofInt 8).toInt = xs.toInt * 8 := zq_mul rfl (by omega) (by omega)
              rw [em1, zq_add (by rw [m1]; omega) (by rw [m1]; omega), m1]
              omega
            refine zw_ld (n := 1) (k := 0) (f := zp_isR) (pc' := 73) rfl rfl (zw_gt rfl rfl rfl) rfl rfl ?_
            refine zw_gR (q := 0) (pc' := 76) W1 rfl rfl rfl rfl g6b rfl ?_
            refine zw_ld (n := 1) (k := 1) (f := zp_isI) (pc' := 77) rfl rfl (zw_gt rfl rfl rfl) rfl rfl ?_
            refine zw_ld (n := 1) (k := 2) (f := zp_isI) (pc' := 78) rfl rfl (zw_gt rfl rfl rfl) rfl rfl ?_
            refine zw_ld (n := 1) (k := 3) (f := zp_isI) (pc' := 79) rfl rfl (zw_gt rfl rfl rfl) rfl rfl ?_
            refine zw_cn (pc' := 82) (zw_cv (q := 33) (Y := zm_78) W1.1 rfl rfl zm_78_t rfl rfl) rfl rfl rfl rfl rfl (yc_pmX33 W1 (a := (A.2.2.1 xs.toInt.toNat 2).toInt.toNat) (by omega) (by rw [em1]; omega) (by omega)) ?_
            refine zw_ld (n := 1) (k := 0) (f := zp_isR) (pc' := 83) rfl rfl (zw_gt rfl rfl rfl) rfl rfl ?_
            refine zw_gR (q := 0) (pc' := 86) (zw_W_I (zw_W_I (zw_W_I W1))) rfl rfl rfl rfl g6b rfl ?_
            refine zw_gR (q := 33) (pc' := 89) (zw_W_I (zw_W_I (zw_W_I W1))) rfl rfl rfl rfl ((zw_W_I (zw_W_I (zw_W_I W1))).2 33 3 _ rfl) rfl ?_
            refine zw_ld (n := 1) (k := 1) (f := zp_isI) (pc' := 90) rfl rfl (zw_gt rfl rfl rfl) rfl rfl ?_
            refine zw_ia (q := 36) (pc' := 91) (zw_W_I (zw_W_I (zw_W_I W1))) rfl rfl (by decide) (⟨hs.1, by show _ < ((8 : Nat) : Int); omega⟩) rfl rfl ?_
            refine zw_rig rfl rfl ⟨by decide, by decide⟩ ?_
            refine ⟨_, _, rfl, Or.inl ⟨⟨by omega, by omega, by omega⟩, ?_, ?_, ?_⟩, zw_W_I (zw_W_I (zw_W_I W1)), q2⟩
            · refine (congrArg Int32.toInt zw_eq).trans ?_
              rw [em1, zw_p1 (by omega)]
            · rw [e8]
              refine (show yHc 33 (xKm (xKk A xs (Int32.ofInt (-1))) xs.toInt.toNat xw xt) _ from yHc_m q3 (xKw_k ⟨b1, b2, b3, b4⟩ ⟨hs.1, hs.2⟩) (by show xs.toInt.toNat < A.1; omega) (by show (A.2.2.1 xs.toInt.toNat 2).toInt < 8; omega) (fun p k p1 p2 p3 p4 p5 => (y_ne (fun h9 => p3 h9)).trans ((y_ne (fun h9 => p5 h9)).trans (y_ne (fun h9 => p4 h9)))) ?_ ?_ ?_)
              · exact zw_eq.trans (congrArg (fun z : Int32 => z + Int32.ofInt 1) em1)
              · exact (y_ne (fun h9 => absurd h9.1 (by decide))).trans ((y_ne (fun h9 => absurd h9.1 (by decide))).trans zw_eq)
              · exact (y_ne (fun h9 => absurd h9.1 (by decide))).trans zw_eq
            · exact (y_ne (fun h9 => absurd h9.1 (by decide))).trans ((y_ne (fun h9 => absurd h9.1 (by decide))).trans ((y_ne (fun h9 => absurd h9.1 (by decide))).trans (q4 0 4 (by decide) (by decide) (by decide))))
          · refine zw_ld (n := 1) (k := 0) (f := zp_isR) (pc' := 52) rfl rfl (zw_gt rfl rfl rfl) rfl rfl ?_
            refine zw_s (pc' := 53) rfl rfl ?_
            refine zw_gI (q := 0) (pc' := 56) W rfl rfl rfl rfl rfl rfl ?_
            refine zw_s (pc' := 57) rfl rfl ?_
            refine zw_iadd (pc' := 58) rfl rfl ?_
            refine zw_pI (q := 0) (pc' := 61) W rfl rfl rfl rfl rfl rfl ?_
            refine zw_s (pc' := 62) rfl rfl ?_
            refine zw_rig rfl rfl ⟨by decide, by decide⟩ ?_
            refine ⟨_, _, rfl, Or.inr ⟨by omega, rfl, yHc_c (H := H) (fun p k p1 p2 => y_ne (fun h9 => by have := h9.1; omega)) h, zw_eq⟩, zw_W_I W, rfl⟩

theorem yl_wr3 {L : Nat} {σ : Nat → Int32} {d : Nat} {H : zp_H} {A : xK} {xs xw xt : Int32} (hB : zk_Bs (zB_c 3) zg zJc H) (hw : xKw A) (h : yHc 33 A H) (hs : 0 ≤ xs.toInt ∧ xs.toInt < A.1) : ∃ H1 u, zp_Call L σ (d + 4) 111 [.inr (.inr (some 1)), .inl xs, .inl xw, .inl xt, .inr (.inr (some 105))] H (.inl (some (.inl (Int32.ofInt 0))), zw_J H1 104 0 u.toInt64) ∧ ((((A.2.2.1 xs.toInt.toNat 2).toInt < 8 ∧ (0 ≤ xw.toInt ∧ xw.toInt ≤ 3) ∧ 1 ≤ xt.toInt ∧ xt.toInt ≤ 9) ∧ u.toInt = (A.2.2.1 xs.toInt.toNat 2).toInt + 1 ∧ yHc 33 (xKk (xKm A xs.toInt.toNat xw xt) xs (Int32.ofInt (-1))) H1 ∧ H1.2.1 0 4 = H.2.1 0 4) ∨ (¬ ((A.2.2.1 xs.toInt.toNat 2).toInt < 8 ∧ (0 ≤ xw.toInt ∧ xw.toInt ≤ 3) ∧ 1 ≤ xt.toInt ∧ xt.toInt ≤ 9) ∧ u = Int32.ofInt (-1) ∧ yHc 33 A H1 ∧ H1.2.1 0 4 = H.2.1 0 4 + Int32.ofInt 1)) ∧ zw_W H1 ∧ H1.2.2 = H.2.2 := by
  obtain ⟨_, q1, H1, u, rfl, q2, W1, q3⟩ := yc_wr3 (L := L) (σ := σ) (d := d) (xw := xw) (xt := xt) hB hw h hs
  have W := zB_Wd (zB_dn (zB_Bc hB))
  refine ⟨H1, u, zw_ex (zw_met zm_111_t rfl rfl ?_), q2, W1, q3⟩
  refine zw_ld (n := 2) (k := 4) (f := zp_isR) (pc' := 2) rfl rfl rfl rfl rfl ?_
  refine zw_s (pc' := 3) rfl rfl ?_
  refine zw_ld (n := 1) (k := 0) (f := zp_isR) (pc' := 4) rfl rfl rfl rfl rfl ?_
  refine zw_ld (n := 1) (k := 1) (f := zp_isI) (pc' := 5) rfl rfl rfl rfl rfl ?_
  refine zw_ld (n := 1) (k := 2) (f := zp_isI) (pc' := 6) rfl rfl rfl rfl rfl ?_
  refine zw_ld (n := 1) (k := 3) (f := zp_isI) (pc' := 7) rfl rfl rfl rfl rfl ?_
  refine zw_ct (pc' := 10) (c' := (1, 6)) (zw_cv (q := 0) (Y := zm_112) W.1 rfl rfl zm_112_t rfl rfl) (zw_pb_ok rfl) rfl rfl rfl rfl (q1) ?_
  refine zw_s (pc' := 11) rfl rfl ?_
  refine zw_ls (q := 104) (pc' := 12) W1 rfl rfl (⟨by decide, by decide⟩) rfl ?_
  refine zw_s (pc' := 19) rfl rfl ?_
  refine zw_s (pc' := 20) rfl rfl ?_
  refine zw_rig rfl rfl ⟨by decide, by decide⟩ ?_
  rfl

theorem yc_wrn3 {L : Nat} {σ : Nat → Int32} {d : Nat} {H : zp_H} {xs xw xt : Int32} (hB : zk_Bs (zB_c 3) zg zJc H) (h : ¬ (0 ≤ xs.toInt ∧ xs.toInt < (H.2.1 33 0).toInt)) : zp_Call L σ (d + 3) 112 [.inr (.inr (some 1)), .inl xs, .inl xw, .inl xt] H (.inr 0, H) := by
  have W := zB_Wd (zB_dn (zB_Bc hB))
  have g5 : H.2.2.2 0 5 = some 23 := hB.2.1 0 5 _ rfl
  have g6 : H.2.2.2 0 6 = some 34 := hB.2.1 0 6 _ rfl
  have g7 : H.2.2.2 0 7 = some 3 := hB.2.1 0 7 _ rfl
  have g8 : H.2.2.2 0 8 = some 14 := hB.2.1 0 8 _ rfl
  refine zw_ex (zw_met zm_112_t rfl rfl ?_)
  refine zw_ld (n := 1) (k := 0) (f := zp_isR) (pc' := 1) rfl rfl rfl rfl rfl ?_
  refine zw_ld (n := 1) (k := 1) (f := zp_isI) (pc' := 2) rfl rfl rfl rfl rfl ?_
  refine zw_cthr (ex := 0) (zw_cv (q := 0) (Y := zm_108) W.1 rfl rfl zm_108_t rfl rfl) (zw_pb_ok rfl) rfl rfl (yc_ns0_3 hB h) ?_
  rfl

theorem yl_wrn3 {L : Nat} {σ : Nat → Int32} {d : Nat} {H : zp_H} {xs xw xt : Int32} (hB : zk_Bs (zB_c 3) zg zJc H) (h : ¬ (0 ≤ xs.toInt ∧ xs.toInt < (H.2.1 33 0).toInt)) : zp_Call L σ (d + 4) 111 [.inr (.inr (some 1)), .inl xs, .inl xw, .inl xt, .inr (.inr (some 105))] H (.inl (some (.inl (Int32.ofInt 1))), H) := by
  have W := zB_Wd (zB_dn (zB_Bc hB))
  refine zw_ex (zw_met zm_111_t rfl rfl ?_)
  refine zw_ld (n := 2) (k := 4) (f := zp_isR) (pc' := 2) rfl rfl rfl rfl rfl ?_
  refine zw_s (pc' := 3) rfl rfl ?_
  refine zw_ld (n := 1) (k := 0) (f := zp_isR) (pc' := 4) rfl rfl rfl rfl rfl ?_
  refine zw_ld (n := 1) (k := 1) (f := zp_isI) (pc' := 5) rfl rfl rfl rfl rfl ?_
  refine zw_ld (n := 1) (k := 2) (f := zp_isI) (pc' := 6) rfl rfl rfl rfl rfl ?_
  refine zw_ld (n := 1) (k := 3) (f := zp_isI) (pc' := 7) rfl rfl rfl rfl rfl ?_
  refine zw_cexw (ex := 0) (hp9 := 15) (k9 := 5) (pc' := 17) (c' := (1, 6)) (zw_cv (q := 0) (Y := zm_112) W.1 rfl rfl zm_112_t rfl rfl) (zw_pb_ok rfl) rfl rfl rfl rfl rfl rfl rfl (yc_wrn3 hB h) ?_
  refine zw_s (pc' := 18) rfl rfl ?_
  refine zw_rig rfl rfl ⟨by decide, by decide⟩ ?_
  rfl
end
section
/-! ===== the reference keeps acts, writes marks, exactly ===== -/

theorem yr_kt {L : Nat} {σ : Nat → Int32} {d : Nat} {P : zp_X → Prop} {H : zp_H} {lv : zp_LV} {s v : Int32} (W : zw_W H) (h29 : 0 ≤ (H.2.1 72 62).toInt ∧ (H.2.1 72 62).toInt ≤ 29) (l0 : zp_get lv 0 = some (.inr (.inr (some 73)))) (l1 : zp_get lv 1 = some (.inl s)) (l2 : zp_get lv 2 = some (.inl v)) (hP : P (.inl none, zw_I (zw_I (zw_I H 93 (2 * (H.2.1 72 62).toInt.toNat) s) 93 (2 * (H.2.1 72 62).toInt.toNat + 1) v) 72 62 (H.2.1 72 62 + Int32.ofInt 1))) : zs_Safe L σ P zm_215 [] d (47, lv, [], H, (0, 0)) := by
  have e2 : (Int32.ofInt 2 * H.2.1 72 62).toInt = 2 * (H.2.1 72 62).toInt := zt_mul (by decide) (by omega)
  have e3 : (Int32.ofInt 2 * H.2.1 72 62 + Int32.ofInt 1).toInt = 2 * (H.2.1 72 62).toInt + 1 := by rw [zw_p1 (by omega), e2]
  have e4 : (Int32.ofInt 2 * H.2.1 72 62).toInt.toNat = 2 * (H.2.1 72 62).toInt.toNat := by omega
  have e5 : (Int32.ofInt 2 * H.2.1 72 62 + Int32.ofInt 1).toInt.toNat = 2 * (H.2.1 72 62).toInt.toNat + 1 := by omega
  refine zw_ld (n := 1) (k := 0) (f := zp_isR) (pc' := 48) rfl rfl l0 rfl rfl ?_
  refine zw_gR (q := 72) (pc' := 51) W rfl rfl rfl rfl (W.2 72 63 _ rfl) rfl ?_
  refine zw_s (pc' := 52) rfl rfl ?_
  refine zw_ld (n := 1) (k := 0) (f := zp_isR) (pc' := 53) rfl rfl l0 rfl rfl ?_
  refine zw_gI (q := 72) (pc' := 56) W rfl rfl rfl rfl rfl rfl ?_
  refine zw_imul (pc' := 57) rfl rfl ?_
  refine zw_ld (n := 1) (k := 1) (f := zp_isI) (pc' := 58) rfl rfl l1 rfl rfl ?_
  refine zw_is (q := 93) (pc' := 59) W rfl rfl (by decide) (⟨by omega, by show _ < ((60 : Nat) : Int); omega⟩) rfl ?_
  refine zw_ld (n := 1) (k := 0) (f := zp_isR) (pc' := 60) rfl rfl l0 rfl rfl ?_
  refine zw_gR (q := 72) (pc' := 63) (zw_W_I W) rfl rfl rfl rfl ((zw_W_I W).2 72 63 _ rfl) rfl ?_
  refine zw_s (pc' := 64) rfl rfl ?_
  refine zw_ld (n := 1) (k := 0) (f := zp_isR) (pc' := 65) rfl rfl l0 rfl rfl ?_
  refine zw_gI (q := 72) (pc' := 68) (zw_W_I W) rfl rfl rfl rfl (zw_ne rfl rfl) rfl ?_
  refine zw_imul (pc' := 69) rfl rfl ?_
  refine zw_s (pc' := 70) rfl rfl ?_
  refine zw_iadd (pc' := 71) rfl rfl ?_
  refine zw_ld (n := 1) (k := 2) (f := zp_isI) (pc' := 72) rfl rfl l2 rfl rfl ?_
  refine zw_is (q := 93) (pc' := 73) (zw_W_I W) rfl rfl (by decide) (⟨by omega, by show _ < ((60 : Nat) : Int); omega⟩) rfl ?_
  refine zw_ld (n := 1) (k := 0) (f := zp_isR) (pc' := 74) rfl rfl l0 rfl rfl ?_
  refine zw_s (pc' := 75) rfl rfl ?_
  refine zw_gI (q := 72) (pc' := 78) (zw_W_I (zw_W_I W)) rfl rfl rfl rfl (zw_ne (zw_ne rfl rfl) rfl) rfl ?_
  refine zw_s (pc' := 79) rfl rfl ?_
  refine zw_iadd (pc' := 80) rfl rfl ?_
  refine zw_pI (q := 72) (pc' := 83) (zw_W_I (zw_W_I W)) rfl rfl rfl rfl rfl rfl ?_
  refine zw_rn rfl rfl ?_
  rw [e4, e5]
  exact hP

theorem yr_keep {L : Nat} {σ : Nat → Int32} {d : Nat} {H : zp_H} {A : xK} {s v : Int32} (W : zw_W H) (hw : xKw A) (h : yHr 74 75 93 62 A H) : ∃ X, zp_Call L σ (d + 1) 215 [.inr (.inr (some 73)), .inl s, .inl v] H X ∧ ∃ H1, X = (.inl none, H1) ∧ zw_W H1 ∧ H1.2.2 = H.2.2 ∧ yHr 74 75 93 62 (xKk A s v) H1 ∧ ∀ p k, p ≠ 93 → ¬ (p = 72 ∧ k = 62) → H1.2.1 p k = H.2.1 p k := by
  obtain ⟨b1, b2, b3, b4⟩ := hw
  have h7 := h.2.1
  have f7 : 0 ≤ (H.2.1 72 62).toInt ∧ (H.2.1 72 62).toInt ≤ 30 := by omega
  have en : (H.2.1 72 62).toInt.toNat = A.2.1 := by omega
  refine zw_met zm_215_t rfl rfl ?_
  refine zw_ld (n := 1) (k := 0) (f := zp_isR) (pc' := 1) rfl rfl rfl rfl rfl ?_
  refine zw_gI (q := 72) (pc' := 4) W rfl rfl rfl rfl rfl rfl ?_
  refine zw_s (pc' := 6) rfl rfl ?_
  refine zw_bne2 (g := 47) (pc' := 9) rfl rfl rfl rfl (rfl : _ = (30 : Int)) (fun hb => ?_) (fun hb => ?_)
  · refine yr_kt W ⟨f7.1, by omega⟩ rfl rfl rfl ⟨_, rfl, zw_W_I (zw_W_I (zw_W_I W)), rfl, ?_, fun p k p1 p3 => (y_ne (fun h9 => p3 h9)).trans ((y_ne (fun h9 => p1 h9.1)).trans (y_ne (fun h9 => p1 h9.1)))⟩
    rw [en]
    refine yHr_k1 h (by omega) ((y_ne (fun h9 => absurd h9.2 (by decide))).trans ((y_ne (fun h9 => absurd h9.1 (by decide))).trans (y_ne (fun h9 => absurd h9.1 (by decide))))) (fun k => (y_ne (fun h9 => absurd h9.1 (by decide))).trans ((y_ne (fun h9 => absurd h9.1 (by decide))).trans (y_ne (fun h9 => absurd h9.1 (by decide))))) (fun k => (y_ne (fun h9 => absurd h9.1 (by decide))).trans ((y_ne (fun h9 => absurd h9.1 (by decide))).trans (y_ne (fun h9 => absurd h9.1 (by decide))))) ?_ (fun k w hw hk => ?_) ?_ ?_
    · rw [show (zw_I (zw_I (zw_I H 93 (2 * A.2.1) s) 93 (2 * A.2.1 + 1) v) 72 62 (H.2.1 72 62 + Int32.ofInt 1)).2.1 72 62 = H.2.1 72 62 + Int32.ofInt 1 from zw_eq, zw_p1 (by omega)]
      omega
    · exact (y_ne (fun h9 => absurd (show (93 : Nat) = 72 from h9.1) (by decide))).trans ((y_ne (fun h9 => by have := h9.2; omega)).trans (y_ne (fun h9 => by have := h9.2; omega)))
    · exact (y_ne (fun h9 => absurd (show (93 : Nat) = 72 from h9.1) (by decide))).trans ((y_ne (fun h9 => by have := h9.2; omega)).trans zw_eq)
    · exact (y_ne (fun h9 => absurd (show (93 : Nat) = 72 from h9.1) (by decide))).trans zw_eq
  · refine zw_s (pc' := 10) rfl rfl ?_
    refine zw_st (n := 1) (k := 3) (f := zp_isI) (pc' := 11) rfl rfl rfl rfl rfl ?_
    have ea : H.2.1 72 62 - Int32.ofInt 1 = Int32.ofInt 29 := Int32.toInt_inj.mp (by rw [zw_m1 (by omega)]; show (H.2.1 72 62).toInt - 1 = 29; omega)
    have h9 := zt_kL (L := L) (σ := σ) (d := d) (xs := s) (xv := v) (P := (fun X : zp_X => ∃ H1, X = (.inl none, H1) ∧ zw_W H1 ∧ H1.2.2 = H.2.2 ∧ yHr 74 75 93 62 (xKk A s v) H1 ∧ ∀ p k, p ≠ 93 → ¬ (p = 72 ∧ k = 62) → H1.2.1 p k = H.2.1 p k)) W ?_ _ (zp_st1 (zp_args 0 [.inr (.inr (some 73)), .inl s, .inl v]) 3 (.inl (Int32.ofInt 2))) (Int32.ofInt 2) rfl ⟨by decide, by decide⟩ (zw_gt rfl rfl rfl) (zw_gt rfl rfl rfl) (zw_gt rfl rfl rfl) zw_g1
    · rw [show (Int32.ofInt 2).toInt.toNat = 2 from rfl, zt_sh2] at h9
      exact h9
    · intro lv l0 l1 l2
      have W2 : zw_W (zt_sh H 60) := W
      have eS : (zt_sh H 60).2.1 72 62 = H.2.1 72 62 := zt_sh_ne (by decide)
      refine zw_ld (n := 1) (k := 0) (f := zp_isR) (pc' := 38) rfl rfl l0 rfl rfl ?_
      refine zw_s (pc' := 39) rfl rfl ?_
      refine zw_gI (q := 72) (pc' := 42) W2 rfl rfl rfl rfl rfl rfl ?_
      refine zw_s (pc' := 43) rfl rfl ?_
      refine zw_isub (pc' := 44) rfl rfl ?_
      refine zw_pI (q := 72) (pc' := 47) W2 rfl rfl rfl rfl rfl rfl ?_
      rw [eS, ea]
      have e7 : (zw_I (zt_sh H 60) 72 62 (Int32.ofInt 29)).2.1 72 62 = Int32.ofInt 29 := zw_eq
      refine yr_kt (zw_W_I W2) (by rw [e7]; exact ⟨by decide, by decide⟩) l0 l1 l2 ⟨_, rfl, zw_W_I (zw_W_I (zw_W_I (zw_W_I W2))), rfl, ?_, fun p k p1 p3 => (y_ne (fun h9 => p3 h9)).trans ((y_ne (fun h9 => p1 h9.1)).trans ((y_ne (fun h9 => p1 h9.1)).trans ((y_ne (fun h9 => p3 h9)).trans (zt_sh_ne p1))))⟩
      rw [e7]
      show yHr 74 75 93 62 _ (zw_I (zw_I (zw_I (zw_I (zt_sh H 60) 72 62 (Int32.ofInt 29)) 93 (2 * 29) s) 93 (2 * 29 + 1) v) 72 62 (Int32.ofInt 29 + Int32.ofInt 1))
      refine yHr_k2 h (by omega) ((y_ne (fun h9 => absurd h9.2 (by decide))).trans ((y_ne (fun h9 => absurd h9.1 (by decide))).trans ((y_ne (fun h9 => absurd h9.1 (by decide))).trans ((y_ne (fun h9 => absurd h9.2 (by decide))).trans (zt_sh_ne (by decide)))))) (fun k => (y_ne (fun h9 => absurd h9.1 (by decide))).trans ((y_ne (fun h9 => absurd h9.1 (by decide))).trans ((y_ne (fun h9 => absurd h9.1 (by decide))).trans ((y_ne (fun h9 => absurd h9.1 (by decide))).trans (zt_sh_ne (by decide)))))) (fun k => (y_ne (fun h9 => absurd h9.1 (by decide))).trans ((y_ne (fun h9 => absurd h9.1 (by decide))).trans ((y_ne (fun h9 => absurd h9.1 (by decide))).trans ((y_ne (fun h9 => absurd h9.1 (by decide))).trans (zt_sh_ne (by decide)))))) ?_ (fun k w hw hk => ?_) ?_ ?_
      · exact congrArg Int32.toInt zw_eq
      · exact (y_ne (fun h9 => absurd (show (93 : Nat) = 72 from h9.1) (by decide))).trans ((y_ne (fun h9 => by have := h9.2; omega)).trans ((y_ne (fun h9 => by have := h9.2; omega)).trans ((y_ne (fun h9 => absurd (show (93 : Nat) = 72 from h9.1) (by decide))).trans ((zt_sh_eq (by omega)).trans (congrArg (H.2.1 93) (by omega))))))
      · exact (y_ne (fun h9 => absurd (show (93 : Nat) = 72 from h9.1) (by decide))).trans ((y_ne (fun h9 => absurd h9.2 (by decide))).trans zw_eq)
      · exact (y_ne (fun h9 => absurd (show (93 : Nat) = 72 from h9.1) (by decide))).trans zw_eq

theorem yr_wr {L : Nat} {σ : Nat → Int32} {d : Nat} {H : zp_H} {A : xK} {xs xw xt : Int32} (W : zw_W H) (hw : xKw A) (h : yHr 74 75 93 62 A H) (hs : 0 ≤ xs.toInt ∧ xs.toInt < A.1) : ∃ X, zp_Call L σ (d + 3) 213 [.inr (.inr (some 73)), .inl xs, .inl xw, .inl xt] H X ∧ ∃ H1 u, X = (.inl (some (.inl u)), H1) ∧ ((((A.2.2.1 xs.toInt.toNat 2).toInt < 8 ∧ (0 ≤ xw.toInt ∧ xw.toInt ≤ 3) ∧ 1 ≤ xt.toInt ∧ xt.toInt ≤ 9) ∧ u.toInt = (A.2.2.1 xs.toInt.toNat 2).toInt + 1 ∧ yHr 74 75 93 62 (xKk (xKm A xs.toInt.toNat xw xt) xs (Int32.ofInt (-1))) H1 ∧ H1.2.1 82 1 = H.2.1 82 1) ∨ (¬ ((A.2.2.1 xs.toInt.toNat 2).toInt < 8 ∧ (0 ≤ xw.toInt ∧ xw.toInt ≤ 3) ∧ 1 ≤ xt.toInt ∧ xt.toInt ≤ 9) ∧ u = Int32.ofInt (-1) ∧ yHr 74 75 93 62 A H1 ∧ H1.2.1 82 1 = H.2.1 82 1 + Int32.ofInt 1)) ∧ (H1.2.1 72 0).toInt = 0 ∧ H1.2.1 82 0 = H.2.1 82 0 := by
  obtain ⟨b1, b2, b3, b4⟩ := id hw
  have h0 : ((zw_I H 72 0 (Int32.ofInt 0)).2.1 72 0).toInt = 0 := congrArg Int32.toInt zw_eq
  have e5 : ((zw_I H 72 0 (Int32.ofInt 0)).2.1 72 5).toInt = A.1 := (congrArg Int32.toInt (zw_ne rfl rfl)).trans h.1
  have em : (zw_I H 72 0 (Int32.ofInt 0)).2.1 74 (4 * xs.toInt.toNat + 2) = A.2.2.1 xs.toInt.toNat 2 := (zw_ne rfl rfl).trans (h.2.2.1 xs.toInt.toNat 2 (by omega) (by decide))
  have em9 : ((zw_I H 72 0 (Int32.ofInt 0)).2.1 74 (4 * xs.toInt.toNat + 2)).toInt = (A.2.2.1 xs.toInt.toNat 2).toInt := congrArg Int32.toInt em
  have hm := b3 xs.toInt.toNat (by omega)
  refine zw_met zm_213_t rfl rfl ?_
  refine zw_ld (n := 1) (k := 0) (f := zp_isR) (pc' := 1) rfl rfl rfl rfl rfl ?_
  refine zw_s (pc' := 2) rfl rfl ?_
  refine zw_pI (q := 72) (pc' := 5) W rfl rfl rfl rfl rfl rfl ?_
  refine zw_ld (n := 1) (k := 0) (f := zp_isR) (pc' := 6) rfl rfl rfl rfl rfl ?_
  refine zw_ld (n := 1) (k := 1) (f := zp_isI) (pc' := 7) rfl rfl rfl rfl rfl ?_
  refine zw_c (pc' := 10) (zw_cv (q := 72) (Y := zm_210) (zw_W_I W).1 rfl rfl zm_210_t rfl rfl) rfl rfl rfl rfl rfl (zq_slate1 (zw_W_I W) h0 ⟨hs.1, by omega⟩) ?_
  refine zw_bne1 (g := 15) (pc' := 13) rfl rfl rfl (rfl : _ = (1 : Int)) (fun h1 => ?_) (fun h9 => absurd h9 (by decide))
  refine zw_ld (n := 1) (k := 0) (f := zp_isR) (pc' := 16) rfl rfl rfl rfl rfl ?_
  refine zw_ld (n := 1) (k := 1) (f := zp_isI) (pc' := 17) rfl rfl rfl rfl rfl ?_
  refine zw_c (pc' := 20) (zw_cv (q := 72) (Y := zm_212) (zw_W_I W).1 rfl rfl zm_212_t rfl rfl) rfl rfl rfl rfl rfl (zq_marks (zw_W_I W) ⟨hs.1, by omega⟩) ?_
  refine zw_st (n := 2) (k := 4) (f := zp_isI) (pc' := 22) rfl rfl rfl rfl rfl ?_
  refine zw_ld (n := 2) (k := 4) (f := zp_isI) (pc' := 24) rfl rfl zw_g1 rfl rfl ?_
  refine zw_s (pc' := 26) rfl rfl ?_
  refine zw_beq2 (g := 48) (pc' := 29) rfl rfl rfl rfl (rfl : _ = (8 : Int)) (fun h2 => ?_) (fun h2 => ?_)
  · refine zw_ld (n := 1) (k := 0) (f := zp_isR) (pc' := 49) rfl rfl (zw_gt rfl rfl rfl) rfl rfl ?_
    refine zw_c (pc' := 52) (zw_cv (q := 72) (Y := zm_214) (zw_W_I W).1 rfl rfl zm_214_t rfl rfl) rfl rfl rfl rfl rfl (zq_refuses (zw_W_I W)) ?_
    refine zw_ri rfl rfl ?_
    refine ⟨_, _, rfl, Or.inr ⟨by omega, rfl, yHr_c ?_ ?_ (fun k => ?_) (fun k => ?_) (fun k => ?_) h, ?_⟩, ?_, (y_ne (fun h9 => absurd h9.2 (by decide))).trans (y_ne (fun h9 => absurd h9.1 (by decide)))⟩
    · exact (y_ne (fun h9 => absurd h9.1 (by decide))).trans (zw_ne rfl rfl)
    · exact (y_ne (fun h9 => absurd h9.1 (by decide))).trans (zw_ne rfl rfl)
    · exact (y_ne (fun h9 => absurd h9.1 (by decide))).trans (y_ne (fun h9 => absurd h9.1 (by decide)))
    · exact (y_ne (fun h9 => absurd h9.1 (by decide))).trans (y_ne (fun h9 => absurd h9.1 (by decide)))
    · exact (y_ne (fun h9 => absurd h9.1 (by decide))).trans (y_ne (fun h9 => absurd h9.1 (by decide)))
    · exact zw_eq.trans (congrArg (fun z : Int32 => z + Int32.ofInt 1) (zw_ne rfl rfl))
    · exact (congrArg Int32.toInt (y_ne (fun h9 => absurd h9.1 (by decide)))).trans h0
  · refine zw_ld (n := 1) (k := 2) (f := zp_isI) (pc' := 30) rfl rfl (zw_gt rfl rfl rfl) rfl rfl ?_
    refine zw_s (pc' := 31) rfl rfl ?_
    refine zw_s (pc' := 32) rfl rfl ?_
    by_cases k1 : (Int32.ofInt 0).toInt ≤ xw.toInt ∧ xw.toInt ≤ (Int32.ofInt 3).toInt
    · have k0 : (Int32.ofInt 0).toInt = 0 ∧ (Int32.ofInt 1).toInt = 1 ∧ (Int32.ofInt 3).toInt = 3 ∧ (Int32.ofInt 9).toInt = 9 := by decide
      refine zw_c (pc' := 35) (zw_cs (Y := zm_185) rfl rfl zm_185_t) rfl rfl rfl rfl rfl (zq_within1 k1) ?_
      refine zw_beq1 (g := 48) (pc' := 38) rfl rfl rfl (rfl : _ = (1 : Int)) (fun h9 => absurd h9 (by decide)) (fun h3 => ?_)
      refine zw_ld (n := 1) (k := 3) (f := zp_isI) (pc' := 39) rfl rfl (zw_gt rfl rfl rfl) rfl rfl ?_
      refine zw_s (pc' := 40) rfl rfl ?_
      refine zw_s (pc' := 42) rfl rfl ?_
      by_cases k2 : (Int32.ofInt 1).toInt ≤ xt.toInt ∧ xt.toInt ≤ (Int32.ofInt 9).toInt
      · refine zw_c (pc' := 45) (zw_cs (Y := zm_185) rfl rfl zm_185_t) rfl rfl rfl rfl rfl (zq_within1 k2) ?_
        refine zw_bne1 (g := 53) (pc' := 48) rfl rfl rfl (rfl : _ = (1 : Int)) (fun h4 => ?_) (fun h9 => absurd h9 (by decide))
        have i1 : (Int32.ofInt 16 * xs).toInt = 16 * xs.toInt := zt_mul (by decide) (by omega)
        have i2 : (Int32.ofInt 2 * ((zw_I H 72 0 (Int32.ofInt 0)).2.1 74 (4 * xs.toInt.toNat + 2))).toInt = 2 * ((zw_I H 72 0 (Int32.ofInt 0)).2.1 74 (4 * xs.toInt.toNat + 2)).toInt := zt_mul (by decide) (by omega)
        have i3 : (Int32.ofInt 16 * xs + Int32.ofInt 2 * ((zw_I H 72 0 (Int32.ofInt 0)).2.1 74 (4 * xs.toInt.toNat + 2))).toInt = 16 * xs.toInt + 2 * ((zw_I H 72 0 (Int32.ofInt 0)).2.1 74 (4 * xs.toInt.toNat + 2)).toInt := by rw [zq_add (by rw [i1, i2]; omega) (by rw [i1, i2]; omega), i1, i2]
        have i4 : (Int32.ofInt 16 * xs + Int32.ofInt 2 * ((zw_I H 72 0 (Int32.ofInt 0)).2.1 74 (4 * xs.toInt.toNat + 2)) + Int32.ofInt 1).toInt = 16 * xs.toInt + 2 * ((zw_I H 72 0 (Int32.ofInt 0)).2.1 74 (4 * xs.toInt.toNat + 2)).toInt + 1 := by rw [zw_p1 (by omega), i3]
        have i5 : (Int32.ofInt 4 * xs).toInt = 4 * xs.toInt := zt_mul (by decide) (by omega)
        have i6 : (Int32.ofInt 4 * xs + Int32.ofInt 2).toInt = 4 * xs.toInt + 2 := by rw [zt_add (by decide) (by omega), i5]
        have j3 : (Int32.ofInt 16 * xs + Int32.ofInt 2 * ((zw_I H 72 0 (Int32.ofInt 0)).2.1 74 (4 * xs.toInt.toNat + 2))).toInt.toNat = 16 * xs.toInt.toNat + 2 * (A.2.2.1 xs.toInt.toNat 2).toInt.toNat := by omega
        have j4 : (Int32.ofInt 16 * xs + Int32.ofInt 2 * ((zw_I H 72 0 (Int32.ofInt 0)).2.1 74 (4 * xs.toInt.toNat + 2)) + Int32.ofInt 1).toInt.toNat = 16 * xs.toInt.toNat + 2 * (A.2.2.1 xs.toInt.toNat 2).toInt.toNat + 1 := by omega
        have j6 : (Int32.ofInt 4 * xs + Int32.ofInt 2).toInt.toNat = 4 * xs.toInt.toNat + 2 := by omega
        refine zw_ld (n := 1) (k := 0) (f := zp_isR) (pc' := 54) rfl rfl (zw_gt rfl rfl rfl) rfl rfl ?_
        refine zw_gR (q := 72) (pc' := 57) (zw_W_I W) rfl rfl rfl rfl ((zw_W_I W).2 72 15 _ rfl) rfl ?_
        refine zw_s (pc' := 59) rfl rfl ?_
        refine zw_ld (n := 1) (k := 1) (f := zp_isI) (pc' := 60) rfl rfl (zw_gt rfl rfl rfl) rfl rfl ?_
        refine zw_imul (pc' := 61) rfl rfl ?_
        refine zw_s (pc' := 62) rfl rfl ?_
        refine zw_ld (n := 2) (k := 4) (f := zp_isI) (pc' := 64) rfl rfl zw_g1 rfl rfl ?_
        refine zw_imul (pc' := 65) rfl rfl ?_
        refine zw_iadd (pc' := 66) rfl rfl ?_
        refine zw_ld (n := 1) (k := 2) (f := zp_isI) (pc' := 67) rfl rfl (zw_gt rfl rfl rfl) rfl rfl ?_
        refine zw_is (q := 75) (pc' := 68) (zw_W_I W) rfl rfl (by decide) (⟨by omega, by show _ < ((128 : Nat) : Int); omega⟩) rfl ?_
        refine zw_ld (n := 1) (k := 0) (f := zp_isR) (pc' := 69) rfl rfl (zw_gt rfl rfl rfl) rfl rfl ?_
        refine zw_gR (q := 72) (pc' := 72) (zw_W_I (zw_W_I W)) rfl rfl rfl rfl ((zw_W_I (zw_W_I W)).2 72 15 _ rfl) rfl ?_
        refine zw_s (pc' := 74) rfl rfl ?_
        refine zw_ld (n := 1) (k := 1) (f := zp_isI) (pc' := 75) rfl rfl (zw_gt rfl rfl rfl) rfl rfl ?_
        refine zw_imul (pc' := 76) rfl rfl ?_
        refine zw_s (pc' := 77) rfl rfl ?_
        refine zw_ld (n := 2) (k := 4) (f := zp_isI) (pc' := 79) rfl rfl zw_g1 rfl rfl ?_
        refine zw_imul (pc' := 80) rfl rfl ?_
        refine zw_iadd (pc' := 81) rfl rfl ?_
        refine zw_s (pc' := 82) rfl rfl ?_
        refine zw_iadd (pc' := 83) rfl rfl ?_
        refine zw_ld (n := 1) (k := 3) (f := zp_isI) (pc' := 84) rfl rfl (zw_gt rfl rfl rfl) rfl rfl ?_
        refine zw_is (q := 75) (pc' := 85) (zw_W_I (zw_W_I W)) rfl rfl (by decide) (⟨by omega, by show _ < ((128 : Nat) : Int); omega⟩) rfl ?_
        refine zw_ld (n := 1) (k := 0) (f := zp_isR) (pc' := 86) rfl rfl (zw_gt rfl rfl rfl) rfl rfl ?_
        refine zw_gR (q := 72) (pc' := 89) (zw_W_I (zw_W_I (zw_W_I W))) rfl rfl rfl rfl ((zw_W_I (zw_W_I (zw_W_I W))).2 72 14 _ rfl) rfl ?_
        refine zw_s (pc' := 90) rfl rfl ?_
        refine zw_ld (n := 1) (k := 1) (f := zp_isI) (pc' := 91) rfl rfl (zw_gt rfl rfl rfl) rfl rfl ?_
        refine zw_imul (pc' := 92) rfl rfl ?_
        refine zw_s (pc' := 93) rfl rfl ?_
        refine zw_iadd (pc' := 94) rfl rfl ?_
        refine zw_ld (n := 2) (k := 4) (f := zp_isI) (pc' := 96) rfl rfl zw_g1 rfl rfl ?_
        refine zw_s (pc' := 97) rfl rfl ?_
        refine zw_iadd (pc' := 98) rfl rfl ?_
        refine zw_is (q := 74) (pc' := 99) (zw_W_I (zw_W_I (zw_W_I W))) rfl rfl (by decide) (⟨by omega, by show _ < ((32 : Nat) : Int); omega⟩) rfl ?_
        refine zw_ld (n := 1) (k := 0) (f := zp_isR) (pc' := 100) rfl rfl (zw_gt rfl rfl rfl) rfl rfl ?_
        refine zw_ld (n := 1) (k := 1) (f := zp_isI) (pc' := 101) rfl rfl (zw_gt rfl rfl rfl) rfl rfl ?_
        refine zw_s (pc' := 102) rfl rfl ?_
        rw [j3, j4, j6]
        have WK : zw_W (zw_I (zw_I (zw_I (zw_I H 72 0 (Int32.ofInt 0)) 75 (16 * xs.toInt.toNat + 2 * (A.2.2.1 xs.toInt.toNat 2).toInt.toNat) xw) 75 (16 * xs.toInt.toNat + 2 * (A.2.2.1 xs.toInt.toNat 2).toInt.toNat + 1) xt) 74 (4 * xs.toInt.toNat + 2) ((zw_I H 72 0 (Int32.ofInt 0)).2.1 74 (4 * xs.toInt.toNat + 2) + Int32.ofInt 1)) := zw_W_I (zw_W_I (zw_W_I (zw_W_I W)))
        have hK : yHr 74 75 93 62 (xKm A xs.toInt.toNat xw xt) (zw_I (zw_I (zw_I (zw_I H 72 0 (Int32.ofInt 0)) 75 (16 * xs.toInt.toNat + 2 * (A.2.2.1 xs.toInt.toNat 2).toInt.toNat) xw) 75 (16 * xs.toInt.toNat + 2 * (A.2.2.1 xs.toInt.toNat 2).toInt.toNat + 1) xt) 74 (4 * xs.toInt.toNat + 2) ((zw_I H 72 0 (Int32.ofInt 0)).2.1 74 (4 * xs.toInt.toNat + 2) + Int32.ofInt 1)) := by
          refine yHr_m h hw (by omega) (by omega) ?_ ?_ (fun k hk => ?_) (fun k hk1 hk2 => ?_) (fun k => ?_) ?_ ?_ ?_
          · exact (y_ne (fun h9 => absurd h9.1 (by decide))).trans ((y_ne (fun h9 => absurd h9.1 (by decide))).trans ((y_ne (fun h9 => absurd h9.1 (by decide))).trans (zw_ne rfl rfl)))
          · exact (y_ne (fun h9 => absurd h9.1 (by decide))).trans ((y_ne (fun h9 => absurd h9.1 (by decide))).trans ((y_ne (fun h9 => absurd h9.1 (by decide))).trans (zw_ne rfl rfl)))
          · exact (y_ne (fun h9 => hk h9.2)).trans ((y_ne (fun h9 => absurd h9.1 (by decide))).trans ((y_ne (fun h9 => absurd h9.1 (by decide))).trans (y_ne (fun h9 => absurd h9.1 (by decide)))))
          · exact (y_ne (fun h9 => absurd h9.1 (by decide))).trans ((y_ne (fun h9 => hk2 h9.2)).trans ((y_ne (fun h9 => hk1 h9.2)).trans (y_ne (fun h9 => absurd h9.1 (by decide)))))
          · exact (y_ne (fun h9 => absurd h9.1 (by decide))).trans ((y_ne (fun h9 => absurd h9.1 (by decide))).trans ((y_ne (fun h9 => absurd h9.1 (by decide))).trans (y_ne (fun h9 => absurd h9.1 (by decide)))))
          · exact zw_eq.trans (congrArg (fun z : Int32 => z + Int32.ofInt 1) em)
          · exact (y_ne (fun h9 => absurd h9.1 (by decide))).trans ((y_ne (fun h9 => by have := h9.2; omega)).trans zw_eq)
          · exact (y_ne (fun h9 => absurd h9.1 (by decide))).trans zw_eq
        have k82 : (zw_I (zw_I (zw_I (zw_I H 72 0 (Int32.ofInt 0)) 75 (16 * xs.toInt.toNat + 2 * (A.2.2.1 xs.toInt.toNat 2).toInt.toNat) xw) 75 (16 * xs.toInt.toNat + 2 * (A.2.2.1 xs.toInt.toNat 2).toInt.toNat + 1) xt) 74 (4 * xs.toInt.toNat + 2) ((zw_I H 72 0 (Int32.ofInt 0)).2.1 74 (4 * xs.toInt.toNat + 2) + Int32.ofInt 1)).2.1 82 1 = H.2.1 82 1 := (y_ne (fun h9 => absurd h9.1 (by decide))).trans ((y_ne (fun h9 => absurd h9.1 (by decide))).trans ((y_ne (fun h9 => absurd h9.1 (by decide))).trans (y_ne (fun h9 => absurd h9.1 (by decide)))))
        have k80 : (zw_I (zw_I (zw_I (zw_I H 72 0 (Int32.ofInt 0)) 75 (16 * xs.toInt.toNat + 2 * (A.2.2.1 xs.toInt.toNat 2).toInt.toNat) xw) 75 (16 * xs.toInt.toNat + 2 * (A.2.2.1 xs.toInt.toNat 2).toInt.toNat + 1) xt) 74 (4 * xs.toInt.toNat + 2) ((zw_I H 72 0 (Int32.ofInt 0)).2.1 74 (4 * xs.toInt.toNat + 2) + Int32.ofInt 1)).2.1 82 0 = H.2.1 82 0 := (y_ne (fun h9 => absurd h9.1 (by decide))).trans ((y_ne (fun h9 => absurd h9.1 (by decide))).trans ((y_ne (fun h9 => absurd h9.1 (by decide))).trans (y_ne (fun h9 => absurd h9.1 (by decide)))))
        have k72 : ((zw_I (zw_I (zw_I (zw_I H 72 0 (Int32.ofInt 0)) 75 (16 * xs.toInt.toNat + 2 * (A.2.2.1 xs.toInt.toNat 2).toInt.toNat) xw) 75 (16 * xs.toInt.toNat + 2 * (A.2.2.1 xs.toInt.toNat 2).toInt.toNat + 1) xt) 74 (4 * xs.toInt.toNat + 2) ((zw_I H 72 0 (Int32.ofInt 0)).2.1 74 (4 * xs.toInt.toNat + 2) + Int32.ofInt 1)).2.1 72 0).toInt = 0 := congrArg Int32.toInt ((y_ne (fun h9 => absurd h9.1 (by decide))).trans ((y_ne (fun h9 => absurd h9.1 (by decide))).trans ((y_ne (fun h9 => absurd h9.1 (by decide))).trans zw_eq)))
        show zs_Safe L σ _ zm_213 [] _ (102, _, _, zw_I (zw_I (zw_I (zw_I H 72 0 (Int32.ofInt 0)) 75 (16 * xs.toInt.toNat + 2 * (A.2.2.1 xs.toInt.toNat 2).toInt.toNat) xw) 75 (16 * xs.toInt.toNat + 2 * (A.2.2.1 xs.toInt.toNat 2).toInt.toNat + 1) xt) 74 (4 * xs.toInt.toNat + 2) ((zw_I H 72 0 (Int32.ofInt 0)).2.1 74 (4 * xs.toInt.toNat + 2) + Int32.ofInt 1), (0, 0))
        generalize zw_I (zw_I (zw_I (zw_I H 72 0 (Int32.ofInt 0)) 75 (16 * xs.toInt.toNat + 2 * (A.2.2.1 xs.toInt.toNat 2).toInt.toNat) xw) 75 (16 * xs.toInt.toNat + 2 * (A.2.2.1 xs.toInt.toNat 2).toInt.toNat + 1) xt) 74 (4 * xs.toInt.toNat + 2) ((zw_I H 72 0 (Int32.ofInt 0)).2.1 74 (4 * xs.toInt.toNat + 2) + Int32.ofInt 1) = K at WK hK k82 k80 k72 ⊢
        obtain ⟨_, q1, H1, rfl, W1, q2, q3, q4⟩ := yr_keep (L := L) (σ := σ) (d := d + 1) (s := xs) (v := Int32.ofInt (-1)) WK (xKw_m hw (by omega) (by omega)) hK
        refine zw_cn (pc' := 105) (zw_cv (q := 72) (Y := zm_215) WK.1 rfl rfl zm_215_t rfl rfl) rfl rfl rfl rfl rfl (q1) ?_
        refine zw_ld (n := 2) (k := 4) (f := zp_isI) (pc' := 107) rfl rfl zw_g1 rfl rfl ?_
        refine zw_s (pc' := 108) rfl rfl ?_
        refine zw_iadd (pc' := 109) rfl rfl ?_
        refine zw_ri rfl rfl ?_
        refine ⟨_, _, rfl, Or.inl ⟨⟨by omega, by omega, by omega⟩, ?_, q3, (q4 82 1 (by decide) (by decide)).trans k82⟩, (congrArg Int32.toInt (q4 72 0 (by decide) (by decide))).trans k72, (q4 82 0 (by decide) (by decide)).trans k80⟩
        rw [zw_p1 (by omega), em9]
      · refine zw_c (pc' := 45) (zw_cs (Y := zm_185) rfl rfl zm_185_t) rfl rfl rfl rfl rfl (zq_within0 k2) ?_
        refine zw_bne1 (g := 53) (pc' := 48) rfl rfl rfl (rfl : _ = (0 : Int)) (fun h9 => absurd h9 (by decide)) (fun h4 => ?_)
        refine zw_ld (n := 1) (k := 0) (f := zp_isR) (pc' := 49) rfl rfl (zw_gt rfl rfl rfl) rfl rfl ?_
        refine zw_c (pc' := 52) (zw_cv (q := 72) (Y := zm_214) (zw_W_I W).1 rfl rfl zm_214_t rfl rfl) rfl rfl rfl rfl rfl (zq_refuses (zw_W_I W)) ?_
        refine zw_ri rfl rfl ?_
        refine ⟨_, _, rfl, Or.inr ⟨by omega, rfl, yHr_c ?_ ?_ (fun k => ?_) (fun k => ?_) (fun k => ?_) h, ?_⟩, ?_, (y_ne (fun h9 => absurd h9.2 (by decide))).trans (y_ne (fun h9 => absurd h9.1 (by decide)))⟩
        · exact (y_ne (fun h9 => absurd h9.1 (by decide))).trans (zw_ne rfl rfl)
        · exact (y_ne (fun h9 => absurd h9.1 (by decide))).trans (zw_ne rfl rfl)
        · exact (y_ne (fun h9 => absurd h9.1 (by decide))).trans (y_ne (fun h9 => absurd h9.1 (by decide)))
        · exact (y_ne (fun h9 => absurd h9.1 (by decide))).trans (y_ne (fun h9 => absurd h9.1 (by decide)))
        · exact (y_ne (fun h9 => absurd h9.1 (by decide))).trans (y_ne (fun h9 => absurd h9.1 (by decide)))
        · exact zw_eq.trans (congrArg (fun z : Int32 => z + Int32.ofInt 1) (zw_ne rfl rfl))
        · exact (congrArg Int32.toInt (y_ne (fun h9 => absurd h9.1 (by decide)))).trans h0
    · have k0 : (Int32.ofInt 0).toInt = 0 ∧ (Int32.ofInt 1).toInt = 1 ∧ (Int32.ofInt 3).toInt = 3 ∧ (Int32.ofInt 9).toInt = 9 := by decide
      refine zw_c (pc' := 35) (zw_cs (Y := zm_185) rfl rfl zm_185_t) rfl rfl rfl rfl rfl (zq_within0 k1) ?_
      refine zw_beq1 (g := 48) (pc' := 38) rfl rfl rfl (rfl : _ = (0 : Int)) (fun h3 => ?_) (fun h9 => absurd h9 (by decide))
      refine zw_ld (n := 1) (k := 0) (f := zp_isR) (pc' := 49) rfl rfl (zw_gt rfl rfl rfl) rfl rfl ?_
      refine zw_c (pc' := 52) (zw_cv (q := 72) (Y := zm_214) (zw_W_I W).1 rfl rfl zm_214_t rfl rfl) rfl rfl rfl rfl rfl (zq_refuses (zw_W_I W)) ?_
      refine zw_ri rfl rfl ?_
      refine ⟨_, _, rfl, Or.inr ⟨by omega, rfl, yHr_c ?_ ?_ (fun k => ?_) (fun k => ?_) (fun k => ?_) h, ?_⟩, ?_, (y_ne (fun h9 => absurd h9.2 (by decide))).trans (y_ne (fun h9 => absurd h9.1 (by decide)))⟩
      · exact (y_ne (fun h9 => absurd h9.1 (by decide))).trans (zw_ne rfl rfl)
      · exact (y_ne (fun h9 => absurd h9.1 (by decide))).trans (zw_ne rfl rfl)
      · exact (y_ne (fun h9 => absurd h9.1 (by decide))).trans (y_ne (fun h9 => absurd h9.1 (by decide)))
      · exact (y_ne (fun h9 => absurd h9.1 (by decide))).trans (y_ne (fun h9 => absurd h9.1 (by decide)))
      · exact (y_ne (fun h9 => absurd h9.1 (by decide))).trans (y_ne (fun h9 => absurd h9.1 (by decide)))
      · exact zw_eq.trans (congrArg (fun z : Int32 => z + Int32.ofInt 1) (zw_ne rfl rfl))
      · exact (congrArg Int32.toInt (y_ne (fun h9 => absurd h9.1 (by decide)))).trans h0

theorem yr_wrn {L : Nat} {σ : Nat → Int32} {d : Nat} {H : zp_H} {xs xw xt : Int32} (W : zw_W H) (h : ¬ (0 ≤ xs.toInt ∧ xs.toInt < (H.2.1 72 5).toInt)) : zp_Call L σ (d + 3) 213 [.inr (.inr (some 73)), .inl xs, .inl xw, .inl xt] H (.inl (some (.inl (Int32.ofInt 0))), zw_I (zw_I H 72 0 (Int32.ofInt 0)) 72 0 (Int32.ofInt 1)) := by
  have h0 : ((zw_I H 72 0 (Int32.ofInt 0)).2.1 72 0).toInt = 0 := congrArg Int32.toInt zw_eq
  have e5 : (zw_I H 72 0 (Int32.ofInt 0)).2.1 72 5 = H.2.1 72 5 := zw_ne rfl rfl
  refine zw_ex (zw_met zm_213_t rfl rfl ?_)
  refine zw_ld (n := 1) (k := 0) (f := zp_isR) (pc' := 1) rfl rfl rfl rfl rfl ?_
  refine zw_s (pc' := 2) rfl rfl ?_
  refine zw_pI (q := 72) (pc' := 5) W rfl rfl rfl rfl rfl rfl ?_
  refine zw_ld (n := 1) (k := 0) (f := zp_isR) (pc' := 6) rfl rfl rfl rfl rfl ?_
  refine zw_ld (n := 1) (k := 1) (f := zp_isI) (pc' := 7) rfl rfl rfl rfl rfl ?_
  refine zw_c (pc' := 10) (zw_cv (q := 72) (Y := zm_210) (zw_W_I W).1 rfl rfl zm_210_t rfl rfl) rfl rfl rfl rfl rfl (zq_slate0 (zw_W_I W) h0 (by rw [e5]; exact h)) ?_
  refine zw_bne1 (g := 15) (pc' := 13) rfl rfl rfl (rfl : _ = (0 : Int)) (fun h9 => absurd h9 (by decide)) (fun h1 => ?_)
  refine zw_s (pc' := 14) rfl rfl ?_
  refine zw_ri rfl rfl ?_
  rfl
end
