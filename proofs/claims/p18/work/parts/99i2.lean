/-! ===== write of the class, exactly ===== -/
def zm_108 : za_MI := (yX11_needSlate, prog_1_method_28_code, 2, none, 11, 1, 6, [], za_i108)
theorem zm_108_t : za_MT 108 = some zm_108 := rfl
def zm_111 : za_MI := (yL_write, method_8_code, 6, (some FieldType.int), 13, 1, 6, [(0, 12, 15, 18)], za_i111)
theorem zm_111_t : za_MT 111 = some zm_111 := rfl
def zm_112 : za_MI := (yX11_write, prog_1_method_11_code, 5, (some FieldType.int), 11, 1, 6, [], za_i112)
theorem zm_112_t : za_MT 112 = some zm_112 := rfl
theorem yc_ns1_0 {L : Nat} {σ : Nat → Int32} {d : Nat} {H : zp_H} {x : Int32} (hB : zk_Bs (zB_c 0) zg zJc H) (h : (0 ≤ x.toInt ∧ x.toInt < (H.2.1 13 0).toInt)) : zp_Call L σ (d + 1) 108 [.inr (.inr (some 1)), .inl x] H (.inl none, H) := by
  have W := zB_Wd (zB_dn (zB_Bc hB))
  have g5 : H.2.2.2 0 5 = some 3 := hB.2.1 0 5 _ rfl
  have g6 : H.2.2.2 0 6 = some 14 := hB.2.1 0 6 _ rfl
  have g7 : H.2.2.2 0 7 = some 23 := hB.2.1 0 7 _ rfl
  have g8 : H.2.2.2 0 8 = some 34 := hB.2.1 0 8 _ rfl
  refine zw_ex (zw_met zm_108_t rfl rfl ?_)
  refine zw_ld (n := 1) (k := 1) (f := zp_isI) (pc' := 1) rfl rfl rfl rfl rfl ?_
  refine zw_blt1 (g := 15) (pc' := 4) rfl rfl rfl rfl (fun h1 => ?_) (fun h1 => ?_)
  · omega
  · refine zw_ld (n := 1) (k := 1) (f := zp_isI) (pc' := 5) rfl rfl rfl rfl rfl ?_
    refine zw_ld (n := 1) (k := 0) (f := zp_isR) (pc' := 6) rfl rfl rfl rfl rfl ?_
    refine zw_gR (q := 0) (pc' := 9) W rfl rfl rfl rfl g6 rfl ?_
    refine zw_gI (q := 13) (pc' := 12) W rfl rfl rfl rfl rfl rfl ?_
    refine zw_blt2 (g := 26) (pc' := 15) rfl rfl rfl rfl rfl (fun h2 => ?_) (fun h2 => ?_)
    · refine zw_rn rfl rfl ?_
      rfl
    · omega

theorem yc_ns0_0 {L : Nat} {σ : Nat → Int32} {d : Nat} {H : zp_H} {x : Int32} (hB : zk_Bs (zB_c 0) zg zJc H) (h : ¬ (0 ≤ x.toInt ∧ x.toInt < (H.2.1 13 0).toInt)) : zp_Call L σ (d + 1) 108 [.inr (.inr (some 1)), .inl x] H (.inr 0, H) := by
  have W := zB_Wd (zB_dn (zB_Bc hB))
  have g5 : H.2.2.2 0 5 = some 3 := hB.2.1 0 5 _ rfl
  have g6 : H.2.2.2 0 6 = some 14 := hB.2.1 0 6 _ rfl
  have g7 : H.2.2.2 0 7 = some 23 := hB.2.1 0 7 _ rfl
  have g8 : H.2.2.2 0 8 = some 34 := hB.2.1 0 8 _ rfl
  refine zw_ex (zw_met zm_108_t rfl rfl ?_)
  refine zw_ld (n := 1) (k := 1) (f := zp_isI) (pc' := 1) rfl rfl rfl rfl rfl ?_
  refine zw_blt1 (g := 15) (pc' := 4) rfl rfl rfl rfl (fun h1 => ?_) (fun h1 => ?_)
  · exact zs_end (S := (15, _, [], H, (0, 0))) (X := (.inr 0, H)) rfl rfl rfl
  · refine zw_ld (n := 1) (k := 1) (f := zp_isI) (pc' := 5) rfl rfl rfl rfl rfl ?_
    refine zw_ld (n := 1) (k := 0) (f := zp_isR) (pc' := 6) rfl rfl rfl rfl rfl ?_
    refine zw_gR (q := 0) (pc' := 9) W rfl rfl rfl rfl g6 rfl ?_
    refine zw_gI (q := 13) (pc' := 12) W rfl rfl rfl rfl rfl rfl ?_
    refine zw_blt2 (g := 26) (pc' := 15) rfl rfl rfl rfl rfl (fun h2 => ?_) (fun h2 => ?_)
    · omega
    · exact zs_end (S := (15, _, [], H, (0, 0))) (X := (.inr 0, H)) rfl rfl rfl

theorem yc_ns1_3 {L : Nat} {σ : Nat → Int32} {d : Nat} {H : zp_H} {x : Int32} (hB : zk_Bs (zB_c 3) zg zJc H) (h : (0 ≤ x.toInt ∧ x.toInt < (H.2.1 33 0).toInt)) : zp_Call L σ (d + 1) 108 [.inr (.inr (some 1)), .inl x] H (.inl none, H) := by
  have W := zB_Wd (zB_dn (zB_Bc hB))
  have g5 : H.2.2.2 0 5 = some 23 := hB.2.1 0 5 _ rfl
  have g6 : H.2.2.2 0 6 = some 34 := hB.2.1 0 6 _ rfl
  have g7 : H.2.2.2 0 7 = some 3 := hB.2.1 0 7 _ rfl
  have g8 : H.2.2.2 0 8 = some 14 := hB.2.1 0 8 _ rfl
  refine zw_ex (zw_met zm_108_t rfl rfl ?_)
  refine zw_ld (n := 1) (k := 1) (f := zp_isI) (pc' := 1) rfl rfl rfl rfl rfl ?_
  refine zw_blt1 (g := 15) (pc' := 4) rfl rfl rfl rfl (fun h1 => ?_) (fun h1 => ?_)
  · omega
  · refine zw_ld (n := 1) (k := 1) (f := zp_isI) (pc' := 5) rfl rfl rfl rfl rfl ?_
    refine zw_ld (n := 1) (k := 0) (f := zp_isR) (pc' := 6) rfl rfl rfl rfl rfl ?_
    refine zw_gR (q := 0) (pc' := 9) W rfl rfl rfl rfl g6 rfl ?_
    refine zw_gI (q := 33) (pc' := 12) W rfl rfl rfl rfl rfl rfl ?_
    refine zw_blt2 (g := 26) (pc' := 15) rfl rfl rfl rfl rfl (fun h2 => ?_) (fun h2 => ?_)
    · refine zw_rn rfl rfl ?_
      rfl
    · omega

theorem yc_ns0_3 {L : Nat} {σ : Nat → Int32} {d : Nat} {H : zp_H} {x : Int32} (hB : zk_Bs (zB_c 3) zg zJc H) (h : ¬ (0 ≤ x.toInt ∧ x.toInt < (H.2.1 33 0).toInt)) : zp_Call L σ (d + 1) 108 [.inr (.inr (some 1)), .inl x] H (.inr 0, H) := by
  have W := zB_Wd (zB_dn (zB_Bc hB))
  have g5 : H.2.2.2 0 5 = some 23 := hB.2.1 0 5 _ rfl
  have g6 : H.2.2.2 0 6 = some 34 := hB.2.1 0 6 _ rfl
  have g7 : H.2.2.2 0 7 = some 3 := hB.2.1 0 7 _ rfl
  have g8 : H.2.2.2 0 8 = some 14 := hB.2.1 0 8 _ rfl
  refine zw_ex (zw_met zm_108_t rfl rfl ?_)
  refine zw_ld (n := 1) (k := 1) (f := zp_isI) (pc' := 1) rfl rfl rfl rfl rfl ?_
  refine zw_blt1 (g := 15) (pc' := 4) rfl rfl rfl rfl (fun h1 => ?_) (fun h1 => ?_)
  · exact zs_end (S := (15, _, [], H, (0, 0))) (X := (.inr 0, H)) rfl rfl rfl
  · refine zw_ld (n := 1) (k := 1) (f := zp_isI) (pc' := 5) rfl rfl rfl rfl rfl ?_
    refine zw_ld (n := 1) (k := 0) (f := zp_isR) (pc' := 6) rfl rfl rfl rfl rfl ?_
    refine zw_gR (q := 0) (pc' := 9) W rfl rfl rfl rfl g6 rfl ?_
    refine zw_gI (q := 33) (pc' := 12) W rfl rfl rfl rfl rfl rfl ?_
    refine zw_blt2 (g := 26) (pc' := 15) rfl rfl rfl rfl rfl (fun h2 => ?_) (fun h2 => ?_)
    · omega
    · exact zs_end (S := (15, _, [], H, (0, 0))) (X := (.inr 0, H)) rfl rfl rfl

theorem yc_wr0 {L : Nat} {σ : Nat → Int32} {d : Nat} {H : zp_H} {A : xK} {xs xw xt : Int32} (hB : zk_Bs (zB_c 0) zg zJc H) (hw : xKw A) (h : yHc 13 A H) (hs : 0 ≤ xs.toInt ∧ xs.toInt < A.1) : ∃ X, zp_Call L σ (d + 3) 112 [.inr (.inr (some 1)), .inl xs, .inl xw, .inl xt] H X ∧ ∃ H1 u, X = (.inl (some (.inl u)), H1) ∧ ((((A.2.2.1 xs.toInt.toNat 2).toInt < 8 ∧ (0 ≤ xw.toInt ∧ xw.toInt ≤ 3) ∧ 1 ≤ xt.toInt ∧ xt.toInt ≤ 9) ∧ u.toInt = (A.2.2.1 xs.toInt.toNat 2).toInt + 1 ∧ yHc 13 (xKk (xKm A xs.toInt.toNat xw xt) xs (Int32.ofInt (-1))) H1 ∧ H1.2.1 0 4 = H.2.1 0 4) ∨ (¬ ((A.2.2.1 xs.toInt.toNat 2).toInt < 8 ∧ (0 ≤ xw.toInt ∧ xw.toInt ≤ 3) ∧ 1 ≤ xt.toInt ∧ xt.toInt ≤ 9) ∧ u = Int32.ofInt (-1) ∧ yHc 13 A H1 ∧ H1.2.1 0 4 = H.2.1 0 4 + Int32.ofInt 1)) ∧ zw_W H1 ∧ H1.2.2 = H.2.2 := by
  have W := zB_Wd (zB_dn (zB_Bc hB))
  have g5 : H.2.2.2 0 5 = some 3 := hB.2.1 0 5 _ rfl
  have g6 : H.2.2.2 0 6 = some 14 := hB.2.1 0 6 _ rfl
  have g7 : H.2.2.2 0 7 = some 23 := hB.2.1 0 7 _ rfl
  have g8 : H.2.2.2 0 8 = some 34 := hB.2.1 0 8 _ rfl
  obtain ⟨b1, b2, b3, b4⟩ := hw
  have n0 := h.1
  have em : H.2.1 16 xs.toInt.toNat = A.2.2.1 xs.toInt.toNat 2 := h.2.2.1 xs.toInt.toNat 2 (by omega) (by decide)
  have em9 : (H.2.1 16 xs.toInt.toNat).toInt = (A.2.2.1 xs.toInt.toNat 2).toInt := congrArg Int32.toInt em
  have hm := b3 xs.toInt.toNat (by omega)
  refine zw_met zm_112_t rfl rfl ?_
  refine zw_ld (n := 1) (k := 0) (f := zp_isR) (pc' := 1) rfl rfl rfl rfl rfl ?_
  refine zw_ld (n := 1) (k := 1) (f := zp_isI) (pc' := 2) rfl rfl rfl rfl rfl ?_
  refine zw_ctn (pc' := 5) (c' := (1, 6)) (zw_cv (q := 0) (Y := zm_108) W.1 rfl rfl zm_108_t rfl rfl) (zw_pb_ok rfl) rfl rfl rfl rfl (yc_ns1_0 hB (by omega)) ?_
  refine zw_ld (n := 1) (k := 2) (f := zp_isI) (pc' := 6) rfl rfl rfl rfl rfl ?_
  refine zw_blt1 (g := 29) (pc' := 9) rfl rfl rfl rfl (fun g0 => ?_) (fun g0 => ?_)
  · refine zw_s (pc' := 30) rfl rfl ?_
    refine zw_st (n := 2) (k := 4) (f := zp_isI) (pc' := 32) rfl rfl rfl rfl rfl ?_
    refine zw_ld (n := 2) (k := 4) (f := zp_isI) (pc' := 34) rfl rfl zw_g1 rfl rfl ?_
    refine zw_beq1 (g := 51) (pc' := 37) rfl rfl rfl (rfl : _ = (0 : Int)) (fun h9 => ?_) (fun h9 => absurd h9 (by decide))
    refine zw_ld (n := 1) (k := 0) (f := zp_isR) (pc' := 52) rfl rfl (zw_gt rfl rfl rfl) rfl rfl ?_
    refine zw_s (pc' := 53) rfl rfl ?_
    refine zw_gI (q := 0) (pc' := 56) W rfl rfl rfl rfl rfl rfl ?_
    refine zw_s (pc' := 57) rfl rfl ?_
    refine zw_iadd (pc' := 58) rfl rfl ?_
    refine zw_pI (q := 0) (pc' := 61) W rfl rfl rfl rfl rfl rfl ?_
    refine zw_s (pc' := 62) rfl rfl ?_
    refine zw_rig rfl rfl ⟨by decide, by decide⟩ ?_
    refine ⟨_, _, rfl, Or.inr ⟨by omega, rfl, yHc_c (H := H) (fun p k p1 p2 => y_ne (fun h9 => by have := h9.1; omega)) h, zw_eq⟩, zw_W_I W, rfl⟩
  · refine zw_ld (n := 1) (k := 2) (f := zp_isI) (pc' := 10) rfl rfl rfl rfl rfl ?_
    refine zw_s (pc' := 11) rfl rfl ?_
    refine zw_bge2 (g := 29) (pc' := 14) rfl rfl rfl rfl (rfl : _ = (4 : Int)) (fun g1 => ?_) (fun g1 => ?_)
    · refine zw_s (pc' := 30) rfl rfl ?_
      refine zw_st (n := 2) (k := 4) (f := zp_isI) (pc' := 32) rfl rfl rfl rfl rfl ?_
      refine zw_ld (n := 2) (k := 4) (f := zp_isI) (pc' := 34) rfl rfl zw_g1 rfl rfl ?_
      refine zw_beq1 (g := 51) (pc' := 37) rfl rfl rfl (rfl : _ = (0 : Int)) (fun h9 => ?_) (fun h9 => absurd h9 (by decide))
      refine zw_ld (n := 1) (k := 0) (f := zp_isR) (pc' := 52) rfl rfl (zw_gt rfl rfl rfl) rfl rfl ?_
      refine zw_s (pc' := 53) rfl rfl ?_
      refine zw_gI (q := 0) (pc' := 56) W rfl rfl rfl rfl rfl rfl ?_
      refine zw_s (pc' := 57) rfl rfl ?_
      refine zw_iadd (pc' := 58) rfl rfl ?_
      refine zw_pI (q := 0) (pc' := 61) W rfl rfl rfl rfl rfl rfl ?_
      refine zw_s (pc' := 62) rfl rfl ?_
      refine zw_rig rfl rfl ⟨by decide, by decide⟩ ?_
      refine ⟨_, _, rfl, Or.inr ⟨by omega, rfl, yHc_c (H := H) (fun p k p1 p2 => y_ne (fun h9 => by have := h9.1; omega)) h, zw_eq⟩, zw_W_I W, rfl⟩
    · refine zw_ld (n := 1) (k := 3) (f := zp_isI) (pc' := 15) rfl rfl rfl rfl rfl ?_
      refine zw_s (pc' := 16) rfl rfl ?_
      refine zw_blt2 (g := 29) (pc' := 19) rfl rfl rfl rfl (rfl : _ = (1 : Int)) (fun g2 => ?_) (fun g2 => ?_)
      · refine zw_s (pc' := 30) rfl rfl ?_
        refine zw_st (n := 2) (k := 4) (f := zp_isI) (pc' := 32) rfl rfl rfl rfl rfl ?_
        refine zw_ld (n := 2) (k := 4) (f := zp_isI) (pc' := 34) rfl rfl zw_g1 rfl rfl ?_
        refine zw_beq1 (g := 51) (pc' := 37) rfl rfl rfl (rfl : _ = (0 : Int)) (fun h9 => ?_) (fun h9 => absurd h9 (by decide))
        refine zw_ld (n := 1) (k := 0) (f := zp_isR) (pc' := 52) rfl rfl (zw_gt rfl rfl rfl) rfl rfl ?_
        refine zw_s (pc' := 53) rfl rfl ?_
        refine zw_gI (q := 0) (pc' := 56) W rfl rfl rfl rfl rfl rfl ?_
        refine zw_s (pc' := 57) rfl rfl ?_
        refine zw_iadd (pc' := 58) rfl rfl ?_
        refine zw_pI (q := 0) (pc' := 61) W rfl rfl rfl rfl rfl rfl ?_
        refine zw_s (pc' := 62) rfl rfl ?_
        refine zw_rig rfl rfl ⟨by decide, by decide⟩ ?_
        refine ⟨_, _, rfl, Or.inr ⟨by omega, rfl, yHc_c (H := H) (fun p k p1 p2 => y_ne (fun h9 => by have := h9.1; omega)) h, zw_eq⟩, zw_W_I W, rfl⟩
      · refine zw_ld (n := 1) (k := 3) (f := zp_isI) (pc' := 20) rfl rfl rfl rfl rfl ?_
        refine zw_s (pc' := 22) rfl rfl ?_
        refine zw_bgt2 (g := 29) (pc' := 25) rfl rfl rfl rfl (rfl : _ = (9 : Int)) (fun g3 => ?_) (fun g3 => ?_)
        · refine zw_s (pc' := 30) rfl rfl ?_
          refine zw_st (n := 2) (k := 4) (f := zp_isI) (pc' := 32) rfl rfl rfl rfl rfl ?_
          refine zw_ld (n := 2) (k := 4) (f := zp_isI) (pc' := 34) rfl rfl zw_g1 rfl rfl ?_
          refine zw_beq1 (g := 51) (pc' := 37) rfl rfl rfl (rfl : _ = (0 : Int)) (fun h9 => ?_) (fun h9 => absurd h9 (by decide))
          refine zw_ld (n := 1) (k := 0) (f := zp_isR) (pc' := 52) rfl rfl (zw_gt rfl rfl rfl) rfl rfl ?_
          refine zw_s (pc' := 53) rfl rfl ?_
          refine zw_gI (q := 0) (pc' := 56) W rfl rfl rfl rfl rfl rfl ?_
          refine zw_s (pc' := 57) rfl rfl ?_
          refine zw_iadd (pc' := 58) rfl rfl ?_
          refine zw_pI (q := 0) (pc' := 61) W rfl rfl rfl rfl rfl rfl ?_
          refine zw_s (pc' := 62) rfl rfl ?_
          refine zw_rig rfl rfl ⟨by decide, by decide⟩ ?_
          refine ⟨_, _, rfl, Or.inr ⟨by omega, rfl, yHc_c (H := H) (fun p k p1 p2 => y_ne (fun h9 => by have := h9.1; omega)) h, zw_eq⟩, zw_W_I W, rfl⟩
        · refine zw_s (pc' := 26) rfl rfl ?_
          refine zw_s (pc' := 30) rfl rfl ?_
          refine zw_st (n := 2) (k := 4) (f := zp_isI) (pc' := 32) rfl rfl rfl rfl rfl ?_
          refine zw_ld (n := 2) (k := 4) (f := zp_isI) (pc' := 34) rfl rfl zw_g1 rfl rfl ?_
          refine zw_beq1 (g := 51) (pc' := 37) rfl rfl rfl (rfl : _ = (1 : Int)) (fun h9 => absurd h9 (by decide)) (fun h9 => ?_)
          refine zw_ld (n := 1) (k := 0) (f := zp_isR) (pc' := 38) rfl rfl (zw_gt rfl rfl rfl) rfl rfl ?_
          refine zw_gR (q := 0) (pc' := 41) W rfl rfl rfl rfl g6 rfl ?_
          refine zw_gR (q := 13) (pc' := 44) W rfl rfl rfl rfl (W.2 13 3 _ rfl) rfl ?_
          refine zw_ld (n := 1) (k := 1) (f := zp_isI) (pc' := 45) rfl rfl (zw_gt rfl rfl rfl) rfl rfl ?_
          refine zw_ia (q := 16) (pc' := 46) W rfl rfl (by decide) (⟨hs.1, by show _ < ((8 : Nat) : Int); omega⟩) rfl rfl ?_
          refine zw_s (pc' := 48) rfl rfl ?_
          refine zw_blt2 (g := 63) (pc' := 51) rfl rfl rfl rfl (rfl : _ = (8 : Int)) (fun h10 => ?_) (fun h10 => ?_)
          · obtain ⟨_, q1, H1, rfl, W1, q2, q3, q4⟩ := yc_keep13 (L := L) (σ := σ) (d := d + 1) (s := xs) (v := Int32.ofInt (-1)) W ⟨b1, b2, b3, b4⟩ h
            have g6b : H1.2.2.2 0 6 = some 14 := (congrArg (fun z => z.2 0 6) q2).trans g6
            refine zw_ld (n := 1) (k := 0) (f := zp_isR) (pc' := 64) rfl rfl (zw_gt rfl rfl rfl) rfl rfl ?_
            refine zw_gR (q := 0) (pc' := 67) W rfl rfl rfl rfl g6 rfl ?_
            refine zw_ld (n := 1) (k := 1) (f := zp_isI) (pc' := 68) rfl rfl (zw_gt rfl rfl rfl) rfl rfl ?_
            refine zw_s (pc' := 69) rfl rfl ?_
            refine zw_cn (pc' := 72) (zw_cv (q := 13) (Y := zm_113) W.1 rfl rfl zm_113_t rfl rfl) rfl rfl rfl rfl rfl (q1) ?_
            have em1 : H1.2.1 16 xs.toInt.toNat = A.2.2.1 xs.toInt.toNat 2 := q3.2.2.1 xs.toInt.toNat 2 (by show xs.toInt.toNat < A.1; omega) (by decide)
            have e8 : (xs * Int32.ofInt 8 + H1.2.1 16 xs.toInt.toNat).toInt.toNat = 8 * xs.toInt.toNat + (A.2.2.1 xs.toInt.toNat 2).toInt.toNat := by
              have m1 : (xs * Int32.ofInt 8).toInt = xs.toInt * 8 := zq_mul rfl (by omega) (by omega)
              rw [em1, zq_add (by rw [m1]; omega) (by rw [m1]; omega), m1]
              omega
            refine zw_ld (n := 1) (k := 0) (f := zp_isR) (pc' := 73) rfl rfl (zw_gt rfl rfl rfl) rfl rfl ?_
            refine zw_gR (q := 0) (pc' := 76) W1 rfl rfl rfl rfl g6b rfl ?_
            refine zw_ld (n := 1) (k := 1) (f := zp_isI) (pc' := 77) rfl rfl (zw_gt rfl rfl rfl) rfl rfl ?_
            refine zw_ld (n := 1) (k := 2) (f := zp_isI) (pc' := 78) rfl rfl (zw_gt rfl rfl rfl) rfl rfl ?_
            refine zw_ld (n := 1) (k := 3) (f := zp_isI) (pc' := 79) rfl rfl (zw_gt rfl rfl rfl) rfl rfl ?_
            refine zw_cn (pc' := 82) (zw_cv (q := 13) (Y := zm_78) W1.1 rfl rfl zm_78_t rfl rfl) rfl rfl rfl rfl rfl (yc_pmX13 W1 (a := (A.2.2.1 xs.toInt.toNat 2).toInt.toNat) (by omega) (by rw [em1]; omega) (by omega)) ?_
            refine zw_ld (n := 1) (k := 0) (f := zp_isR) (pc' := 83) rfl rfl (zw_gt rfl rfl rfl) rfl rfl ?_
            refine zw_gR (q := 0) (pc' := 86) (zw_W_I (zw_W_I (zw_W_I W1))) rfl rfl rfl rfl g6b rfl ?_
            refine zw_gR (q := 13) (pc' := 89) (zw_W_I (zw_W_I (zw_W_I W1))) rfl rfl rfl rfl ((zw_W_I (zw_W_I (zw_W_I W1))).2 13 3 _ rfl) rfl ?_
            refine zw_ld (n := 1) (k := 1) (f := zp_isI) (pc' := 90) rfl rfl (zw_gt rfl rfl rfl) rfl rfl ?_
            refine zw_ia (q := 16) (pc' := 91) (zw_W_I (zw_W_I (zw_W_I W1))) rfl rfl (by decide) (⟨hs.1, by show _ < ((8 : Nat) : Int); omega⟩) rfl rfl ?_
            refine zw_rig rfl rfl ⟨by decide, by decide⟩ ?_
            refine ⟨_, _, rfl, Or.inl ⟨⟨by omega, by omega, by omega⟩, ?_, ?_, ?_⟩, zw_W_I (zw_W_I (zw_W_I W1)), q2⟩
            · refine (congrArg Int32.toInt zw_eq).trans ?_
              rw [em1, zw_p1 (by omega)]
            · rw [e8]
              refine (show yHc 13 (xKm (xKk A xs (Int32.ofInt (-1))) xs.toInt.toNat xw xt) _ from yHc_m q3 (xKw_k ⟨b1, b2, b3, b4⟩ ⟨hs.1, hs.2⟩) (by show xs.toInt.toNat < A.1; omega) (by show (A.2.2.1 xs.toInt.toNat 2).toInt < 8; omega) (fun p k p1 p2 p3 p4 p5 => (y_ne (fun h9 => p3 h9)).trans ((y_ne (fun h9 => p5 h9)).trans (y_ne (fun h9 => p4 h9)))) ?_ ?_ ?_)
              · exact zw_eq.trans (congrArg (fun z : Int32 => z + Int32.ofInt 1) em1)
              · exact (y_ne (fun h9 => absurd h9.1 (by decide))).trans ((y_ne (fun h9 => absurd h9.1 (by decide))).trans zw_eq)
              · exact (y_ne (fun h9 => absurd h9.1 (by decide))).trans zw_eq
            · exact (y_ne (fun h9 => absurd h9.1 (by decide))).trans ((y_ne (fun h9 => absurd h9.1 (by decide))).trans ((y_ne (fun h9 => absurd h9.1 (by decide))).trans (q4 0 4 (by decide) (by decide) (by decide))))
          · refine zw_ld (n := 1) (k := 0) (f := zp_isR) (pc' := 52) rfl rfl (zw_gt rfl rfl rfl) rfl rfl ?_
            refine zw_s (pc' := 53) rfl rfl ?_
            refine zw_gI (q := 0) (pc' := 56) W rfl rfl rfl rfl rfl rfl ?_
            refine zw_s (pc' := 57) rfl rfl ?_
            refine zw_iadd (pc' := 58) rfl rfl ?_
            refine zw_pI (q := 0) (pc' := 61) W rfl rfl rfl rfl rfl rfl ?_
            refine zw_s (pc' := 62) rfl rfl ?_
            refine zw_rig rfl rfl ⟨by decide, by decide⟩ ?_
            refine ⟨_, _, rfl, Or.inr ⟨by omega, rfl, yHc_c (H := H) (fun p k p1 p2 => y_ne (fun h9 => by have := h9.1; omega)) h, zw_eq⟩, zw_W_I W, rfl⟩

theorem yl_wr0 {L : Nat} {σ : Nat → Int32} {d : Nat} {H : zp_H} {A : xK} {xs xw xt : Int32} (hB : zk_Bs (zB_c 0) zg zJc H) (hw : xKw A) (h : yHc 13 A H) (hs : 0 ≤ xs.toInt ∧ xs.toInt < A.1) : ∃ H1 u, zp_Call L σ (d + 4) 111 [.inr (.inr (some 1)), .inl xs, .inl xw, .inl xt, .inr (.inr (some 105))] H (.inl (some (.inl (Int32.ofInt 0))), zw_J H1 104 0 u.toInt64) ∧ ((((A.2.2.1 xs.toInt.toNat 2).toInt < 8 ∧ (0 ≤ xw.toInt ∧ xw.toInt ≤ 3) ∧ 1 ≤ xt.toInt ∧ xt.toInt ≤ 9) ∧ u.toInt = (A.2.2.1 xs.toInt.toNat 2).toInt + 1 ∧ yHc 13 (xKk (xKm A xs.toInt.toNat xw xt) xs (Int32.ofInt (-1))) H1 ∧ H1.2.1 0 4 = H.2.1 0 4) ∨ (¬ ((A.2.2.1 xs.toInt.toNat 2).toInt < 8 ∧ (0 ≤ xw.toInt ∧ xw.toInt ≤ 3) ∧ 1 ≤ xt.toInt ∧ xt.toInt ≤ 9) ∧ u = Int32.ofInt (-1) ∧ yHc 13 A H1 ∧ H1.2.1 0 4 = H.2.1 0 4 + Int32.ofInt 1)) ∧ zw_W H1 ∧ H1.2.2 = H.2.2 := by
  obtain ⟨_, q1, H1, u, rfl, q2, W1, q3⟩ := yc_wr0 (L := L) (σ := σ) (d := d) (xw := xw) (xt := xt) hB hw h hs
  have W := zB_Wd (zB_dn (zB_Bc hB))
  refine ⟨H1, u, zw_ex (zw_met zm_111_t rfl rfl ?_), q2, W1, q3⟩
  refine zw_ld (n := 2) (k := 4) (f := zp_isR) (pc' := 2) rfl rfl rfl rfl rfl ?_
  refine zw_s (pc' := 3) rfl rfl ?_
  refine zw_ld (n := 1) (k := 0) (f := zp_isR) (pc' := 4) rfl rfl rfl rfl rfl ?_
  refine zw_ld (n := 1) (k := 1) (f := zp_isI) (pc' := 5) rfl rfl rfl rfl rfl ?_
  refine zw_ld (n := 1) (k := 2) (f := zp_isI) (pc' := 6) rfl rfl rfl rfl rfl ?_
  refine zw_ld (n := 1) (k := 3) (f := zp_isI) (pc' := 7) rfl rfl rfl rfl rfl ?_
  refine zw_ct (pc' := 10) (c' := (1, 6)) (zw_cv (q := 0) (Y := zm_112) W.1 rfl rfl zm_112_t rfl rfl) (zw_pb_ok rfl) rfl rfl rfl rfl (q1) ?_
  refine zw_s (pc' := 11) rfl rfl ?_
  refine zw_ls (q := 104) (pc' := 12) W1 rfl rfl (⟨by decide, by decide⟩) rfl ?_
  refine zw_s (pc' := 19) rfl rfl ?_
  refine zw_s (pc' := 20) rfl rfl ?_
  refine zw_rig rfl rfl ⟨by decide, by decide⟩ ?_
  rfl

theorem yc_wrn0 {L : Nat} {σ : Nat → Int32} {d : Nat} {H : zp_H} {xs xw xt : Int32} (hB : zk_Bs (zB_c 0) zg zJc H) (h : ¬ (0 ≤ xs.toInt ∧ xs.toInt < (H.2.1 13 0).toInt)) : zp_Call L σ (d + 3) 112 [.inr (.inr (some 1)), .inl xs, .inl xw, .inl xt] H (.inr 0, H) := by
  have W := zB_Wd (zB_dn (zB_Bc hB))
  have g5 : H.2.2.2 0 5 = some 3 := hB.2.1 0 5 _ rfl
  have g6 : H.2.2.2 0 6 = some 14 := hB.2.1 0 6 _ rfl
  have g7 : H.2.2.2 0 7 = some 23 := hB.2.1 0 7 _ rfl
  have g8 : H.2.2.2 0 8 = some 34 := hB.2.1 0 8 _ rfl
  refine zw_ex (zw_met zm_112_t rfl rfl ?_)
  refine zw_ld (n := 1) (k := 0) (f := zp_isR) (pc' := 1) rfl rfl rfl rfl rfl ?_
  refine zw_ld (n := 1) (k := 1) (f := zp_isI) (pc' := 2) rfl rfl rfl rfl rfl ?_
  refine zw_cthr (ex := 0) (zw_cv (q := 0) (Y := zm_108) W.1 rfl rfl zm_108_t rfl rfl) (zw_pb_ok rfl) rfl rfl (yc_ns0_0 hB h) ?_
  rfl

theorem yl_wrn0 {L : Nat} {σ : Nat → Int32} {d : Nat} {H : zp_H} {xs xw xt : Int32} (hB : zk_Bs (zB_c 0) zg zJc H) (h : ¬ (0 ≤ xs.toInt ∧ xs.toInt < (H.2.1 13 0).toInt)) : zp_Call L σ (d + 4) 111 [.inr (.inr (some 1)), .inl xs, .inl xw, .inl xt, .inr (.inr (some 105))] H (.inl (some (.inl (Int32.ofInt 1))), H) := by
  have W := zB_Wd (zB_dn (zB_Bc hB))
  refine zw_ex (zw_met zm_111_t rfl rfl ?_)
  refine zw_ld (n := 2) (k := 4) (f := zp_isR) (pc' := 2) rfl rfl rfl rfl rfl ?_
  refine zw_s (pc' := 3) rfl rfl ?_
  refine zw_ld (n := 1) (k := 0) (f := zp_isR) (pc' := 4) rfl rfl rfl rfl rfl ?_
  refine zw_ld (n := 1) (k := 1) (f := zp_isI) (pc' := 5) rfl rfl rfl rfl rfl ?_
  refine zw_ld (n := 1) (k := 2) (f := zp_isI) (pc' := 6) rfl rfl rfl rfl rfl ?_
  refine zw_ld (n := 1) (k := 3) (f := zp_isI) (pc' := 7) rfl rfl rfl rfl rfl ?_
  refine zw_cexw (ex := 0) (hp9 := 15) (k9 := 5) (pc' := 17) (c' := (1, 6)) (zw_cv (q := 0) (Y := zm_112) W.1 rfl rfl zm_112_t rfl rfl) (zw_pb_ok rfl) rfl rfl rfl rfl rfl rfl rfl (yc_wrn0 hB h) ?_
  refine zw_s (pc' := 18) rfl rfl ?_
  refine zw_rig rfl rfl ⟨by decide, by decide⟩ ?_
  rfl

theorem yc_wr3 {L : Nat} {σ : Nat → Int32} {d : Nat} {H : zp_H} {A : xK} {xs xw xt : Int32} (hB : zk_Bs (zB_c 3) zg zJc H) (hw : xKw A) (h : yHc 33 A H) (hs : 0 ≤ xs.toInt ∧ xs.toInt < A.1) : ∃ X, zp_Call L σ (d + 3) 112 [.inr (.inr (some 1)), .inl xs, .inl xw, .inl xt] H X ∧ ∃ H1 u, X = (.inl (some (.inl u)), H1) ∧ ((((A.2.2.1 xs.toInt.toNat 2).toInt < 8 ∧ (0 ≤ xw.toInt ∧ xw.toInt ≤ 3) ∧ 1 ≤ xt.toInt ∧ xt.toInt ≤ 9) ∧ u.toInt = (A.2.2.1 xs.toInt.toNat 2).toInt + 1 ∧ yHc 33 (xKk (xKm A xs.toInt.toNat xw xt) xs (Int32.ofInt (-1))) H1 ∧ H1.2.1 0 4 = H.2.1 0 4) ∨ (¬ ((A.2.2.1 xs.toInt.toNat 2).toInt < 8 ∧ (0 ≤ xw.toInt ∧ xw.toInt ≤ 3) ∧ 1 ≤ xt.toInt ∧ xt.toInt ≤ 9) ∧ u = Int32.ofInt (-1) ∧ yHc 33 A H1 ∧ H1.2.1 0 4 = H.2.1 0 4 + Int32.ofInt 1)) ∧ zw_W H1 ∧ H1.2.2 = H.2.2 := by
  have W := zB_Wd (zB_dn (zB_Bc hB))
  have g5 : H.2.2.2 0 5 = some 23 := hB.2.1 0 5 _ rfl
  have g6 : H.2.2.2 0 6 = some 34 := hB.2.1 0 6 _ rfl
  have g7 : H.2.2.2 0 7 = some 3 := hB.2.1 0 7 _ rfl
  have g8 : H.2.2.2 0 8 = some 14 := hB.2.1 0 8 _ rfl
  obtain ⟨b1, b2, b3, b4⟩ := hw
  have n0 := h.1
  have em : H.2.1 36 xs.toInt.toNat = A.2.2.1 xs.toInt.toNat 2 := h.2.2.1 xs.toInt.toNat 2 (by omega) (by decide)
  have em9 : (H.2.1 36 xs.toInt.toNat).toInt = (A.2.2.1 xs.toInt.toNat 2).toInt := congrArg Int32.toInt em
  have hm := b3 xs.toInt.toNat (by omega)
  refine zw_met zm_112_t rfl rfl ?_
  refine zw_ld (n := 1) (k := 0) (f := zp_isR) (pc' := 1) rfl rfl rfl rfl rfl ?_
  refine zw_ld (n := 1) (k := 1) (f := zp_isI) (pc' := 2) rfl rfl rfl rfl rfl ?_
  refine zw_ctn (pc' := 5) (c' := (1, 6)) (zw_cv (q := 0) (Y := zm_108) W.1 rfl rfl zm_108_t rfl rfl) (zw_pb_ok rfl) rfl rfl rfl rfl (yc_ns1_3 hB (by omega)) ?_
  refine zw_ld (n := 1) (k := 2) (f := zp_isI) (pc' := 6) rfl rfl rfl rfl rfl ?_
  refine zw_blt1 (g := 29) (pc' := 9) rfl rfl rfl rfl (fun g0 => ?_) (fun g0 => ?_)
  · refine zw_s (pc' := 30) rfl rfl ?_
    refine zw_st (n := 2) (k := 4) (f := zp_isI) (pc' := 32) rfl rfl rfl rfl rfl ?_
    refine zw_ld (n := 2) (k := 4) (f := zp_isI) (pc' := 34) rfl rfl zw_g1 rfl rfl ?_
    refine zw_beq1 (g := 51) (pc' := 37) rfl rfl rfl (rfl : _ = (0 : Int)) (fun h9 => ?_) (fun h9 => absurd h9 (by decide))
    refine zw_ld (n := 1) (k := 0) (f := zp_isR) (pc' := 52) rfl rfl (zw_gt rfl rfl rfl) rfl rfl ?_
    refine zw_s (pc' := 53) rfl rfl ?_
    refine zw_gI (q := 0) (pc' := 56) W rfl rfl rfl rfl rfl rfl ?_
    refine zw_s (pc' := 57) rfl rfl ?_
    refine zw_iadd (pc' := 58) rfl rfl ?_
    refine zw_pI (q := 0) (pc' := 61) W rfl rfl rfl rfl rfl rfl ?_
    refine zw_s (pc' := 62) rfl rfl ?_
    refine zw_rig rfl rfl ⟨by decide, by decide⟩ ?_
    refine ⟨_, _, rfl, Or.inr ⟨by omega, rfl, yHc_c (H := H) (fun p k p1 p2 => y_ne (fun h9 => by have := h9.1; omega)) h, zw_eq⟩, zw_W_I W, rfl⟩
  · refine zw_ld (n := 1) (k := 2) (f := zp_isI) (pc' := 10) rfl rfl rfl rfl rfl ?_
    refine zw_s (pc' := 11) rfl rfl ?_
    refine zw_bge2 (g := 29) (pc' := 14) rfl rfl rfl rfl (rfl : _ = (4 : Int)) (fun g1 => ?_) (fun g1 => ?_)
    · refine zw_s (pc' := 30) rfl rfl ?_
      refine zw_st (n := 2) (k := 4) (f := zp_isI) (pc' := 32) rfl rfl rfl rfl rfl ?_
      refine zw_ld (n := 2) (k := 4) (f := zp_isI) (pc' := 34) rfl rfl zw_g1 rfl rfl ?_
      refine zw_beq1 (g := 51) (pc' := 37) rfl rfl rfl (rfl : _ = (0 : Int)) (fun h9 => ?_) (fun h9 => absurd h9 (by decide))
      refine zw_ld (n := 1) (k := 0) (f := zp_isR) (pc' := 52) rfl rfl (zw_gt rfl rfl rfl) rfl rfl ?_
      refine zw_s (pc' := 53) rfl rfl ?_
      refine zw_gI (q := 0) (pc' := 56) W rfl rfl rfl rfl rfl rfl ?_
      refine zw_s (pc' := 57) rfl rfl ?_
      refine zw_iadd (pc' := 58) rfl rfl ?_
      refine zw_pI (q := 0) (pc' := 61) W rfl rfl rfl rfl rfl rfl ?_
      refine zw_s (pc' := 62) rfl rfl ?_
      refine zw_rig rfl rfl ⟨by decide, by decide⟩ ?_
      refine ⟨_, _, rfl, Or.inr ⟨by omega, rfl, yHc_c (H := H) (fun p k p1 p2 => y_ne (fun h9 => by have := h9.1; omega)) h, zw_eq⟩, zw_W_I W, rfl⟩
    · refine zw_ld (n := 1) (k := 3) (f := zp_isI) (pc' := 15) rfl rfl rfl rfl rfl ?_
      refine zw_s (pc' := 16) rfl rfl ?_
      refine zw_blt2 (g := 29) (pc' := 19) rfl rfl rfl rfl (rfl : _ = (1 : Int)) (fun g2 => ?_) (fun g2 => ?_)
      · refine zw_s (pc' := 30) rfl rfl ?_
        refine zw_st (n := 2) (k := 4) (f := zp_isI) (pc' := 32) rfl rfl rfl rfl rfl ?_
        refine zw_ld (n := 2) (k := 4) (f := zp_isI) (pc' := 34) rfl rfl zw_g1 rfl rfl ?_
        refine zw_beq1 (g := 51) (pc' := 37) rfl rfl rfl (rfl : _ = (0 : Int)) (fun h9 => ?_) (fun h9 => absurd h9 (by decide))
        refine zw_ld (n := 1) (k := 0) (f := zp_isR) (pc' := 52) rfl rfl (zw_gt rfl rfl rfl) rfl rfl ?_
        refine zw_s (pc' := 53) rfl rfl ?_
        refine zw_gI (q := 0) (pc' := 56) W rfl rfl rfl rfl rfl rfl ?_
        refine zw_s (pc' := 57) rfl rfl ?_
        refine zw_iadd (pc' := 58) rfl rfl ?_
        refine zw_pI (q := 0) (pc' := 61) W rfl rfl rfl rfl rfl rfl ?_
        refine zw_s (pc' := 62) rfl rfl ?_
        refine zw_rig rfl rfl ⟨by decide, by decide⟩ ?_
        refine ⟨_, _, rfl, Or.inr ⟨by omega, rfl, yHc_c (H := H) (fun p k p1 p2 => y_ne (fun h9 => by have := h9.1; omega)) h, zw_eq⟩, zw_W_I W, rfl⟩
      · refine zw_ld (n := 1) (k := 3) (f := zp_isI) (pc' := 20) rfl rfl rfl rfl rfl ?_
        refine zw_s (pc' := 22) rfl rfl ?_
        refine zw_bgt2 (g := 29) (pc' := 25) rfl rfl rfl rfl (rfl : _ = (9 : Int)) (fun g3 => ?_) (fun g3 => ?_)
        · refine zw_s (pc' := 30) rfl rfl ?_
          refine zw_st (n := 2) (k := 4) (f := zp_isI) (pc' := 32) rfl rfl rfl rfl rfl ?_
          refine zw_ld (n := 2) (k := 4) (f := zp_isI) (pc' := 34) rfl rfl zw_g1 rfl rfl ?_
          refine zw_beq1 (g := 51) (pc' := 37) rfl rfl rfl (rfl : _ = (0 : Int)) (fun h9 => ?_) (fun h9 => absurd h9 (by decide))
          refine zw_ld (n := 1) (k := 0) (f := zp_isR) (pc' := 52) rfl rfl (zw_gt rfl rfl rfl) rfl rfl ?_
          refine zw_s (pc' := 53) rfl rfl ?_
          refine zw_gI (q := 0) (pc' := 56) W rfl rfl rfl rfl rfl rfl ?_
          refine zw_s (pc' := 57) rfl rfl ?_
          refine zw_iadd (pc' := 58) rfl rfl ?_
          refine zw_pI (q := 0) (pc' := 61) W rfl rfl rfl rfl rfl rfl ?_
          refine zw_s (pc' := 62) rfl rfl ?_
          refine zw_rig rfl rfl ⟨by decide, by decide⟩ ?_
          refine ⟨_, _, rfl, Or.inr ⟨by omega, rfl, yHc_c (H := H) (fun p k p1 p2 => y_ne (fun h9 => by have := h9.1; omega)) h, zw_eq⟩, zw_W_I W, rfl⟩
        · refine zw_s (pc' := 26) rfl rfl ?_
          refine zw_s (pc' := 30) rfl rfl ?_
          refine zw_st (n := 2) (k := 4) (f := zp_isI) (pc' := 32) rfl rfl rfl rfl rfl ?_
          refine zw_ld (n := 2) (k := 4) (f := zp_isI) (pc' := 34) rfl rfl zw_g1 rfl rfl ?_
          refine zw_beq1 (g := 51) (pc' := 37) rfl rfl rfl (rfl : _ = (1 : Int)) (fun h9 => absurd h9 (by decide)) (fun h9 => ?_)
          refine zw_ld (n := 1) (k := 0) (f := zp_isR) (pc' := 38) rfl rfl (zw_gt rfl rfl rfl) rfl rfl ?_
          refine zw_gR (q := 0) (pc' := 41) W rfl rfl rfl rfl g6 rfl ?_
          refine zw_gR (q := 33) (pc' := 44) W rfl rfl rfl rfl (W.2 33 3 _ rfl) rfl ?_
          refine zw_ld (n := 1) (k := 1) (f := zp_isI) (pc' := 45) rfl rfl (zw_gt rfl rfl rfl) rfl rfl ?_
          refine zw_ia (q := 36) (pc' := 46) W rfl rfl (by decide) (⟨hs.1, by show _ < ((8 : Nat) : Int); omega⟩) rfl rfl ?_
          refine zw_s (pc' := 48) rfl rfl ?_
          refine zw_blt2 (g := 63) (pc' := 51) rfl rfl rfl rfl (rfl : _ = (8 : Int)) (fun h10 => ?_) (fun h10 => ?_)
          · obtain ⟨_, q1, H1, rfl, W1, q2, q3, q4⟩ := yc_keep33 (L := L) (σ := σ) (d := d + 1) (s := xs) (v := Int32.ofInt (-1)) W ⟨b1, b2, b3, b4⟩ h
            have g6b : H1.2.2.2 0 6 = some 34 := (congrArg (fun z => z.2 0 6) q2).trans g6
            refine zw_ld (n := 1) (k := 0) (f := zp_isR) (pc' := 64) rfl rfl (zw_gt rfl rfl rfl) rfl rfl ?_
            refine zw_gR (q := 0) (pc' := 67) W rfl rfl rfl rfl g6 rfl ?_
            refine zw_ld (n := 1) (k := 1) (f := zp_isI) (pc' := 68) rfl rfl (zw_gt rfl rfl rfl) rfl rfl ?_
            refine zw_s (pc' := 69) rfl rfl ?_
            refine zw_cn (pc' := 72) (zw_cv (q := 33) (Y := zm_113) W.1 rfl rfl zm_113_t rfl rfl) rfl rfl rfl rfl rfl (q1) ?_
            have em1 : H1.2.1 36 xs.toInt.toNat = A.2.2.1 xs.toInt.toNat 2 := q3.2.2.1 xs.toInt.toNat 2 (by show xs.toInt.toNat < A.1; omega) (by decide)
            have e8 : (xs * Int32.ofInt 8 + H1.2.1 36 xs.toInt.toNat).toInt.toNat = 8 * xs.toInt.toNat + (A.2.2.1 xs.toInt.toNat 2).toInt.toNat := by
              have m1 : (xs * Int32.ofInt 8).toInt = xs.toInt * 8 := zq_mul rfl (by omega) (by omega)
              rw [em1, zq_add (by rw [m1]; omega) (by rw [m1]; omega), m1]
              omega
            refine zw_ld (n := 1) (k := 0) (f := zp_isR) (pc' := 73) rfl rfl (zw_gt rfl rfl rfl) rfl rfl ?_
            refine zw_gR (q := 0) (pc' := 76) W1 rfl rfl rfl rfl g6b rfl ?_
            refine zw_ld (n := 1) (k := 1) (f := zp_isI) (pc' := 77) rfl rfl (zw_gt rfl rfl rfl) rfl rfl ?_
            refine zw_ld (n := 1) (k := 2) (f := zp_isI) (pc' := 78) rfl rfl (zw_gt rfl rfl rfl) rfl rfl ?_
            refine zw_ld (n := 1) (k := 3) (f := zp_isI) (pc' := 79) rfl rfl (zw_gt rfl rfl rfl) rfl rfl ?_
            refine zw_cn (pc' := 82) (zw_cv (q := 33) (Y := zm_78) W1.1 rfl rfl zm_78_t rfl rfl) rfl rfl rfl rfl rfl (yc_pmX33 W1 (a := (A.2.2.1 xs.toInt.toNat 2).toInt.toNat) (by omega) (by rw [em1]; omega) (by omega)) ?_
            refine zw_ld (n := 1) (k := 0) (f := zp_isR) (pc' := 83) rfl rfl (zw_gt rfl rfl rfl) rfl rfl ?_
            refine zw_gR (q := 0) (pc' := 86) (zw_W_I (zw_W_I (zw_W_I W1))) rfl rfl rfl rfl g6b rfl ?_
            refine zw_gR (q := 33) (pc' := 89) (zw_W_I (zw_W_I (zw_W_I W1))) rfl rfl rfl rfl ((zw_W_I (zw_W_I (zw_W_I W1))).2 33 3 _ rfl) rfl ?_
            refine zw_ld (n := 1) (k := 1) (f := zp_isI) (pc' := 90) rfl rfl (zw_gt rfl rfl rfl) rfl rfl ?_
            refine zw_ia (q := 36) (pc' := 91) (zw_W_I (zw_W_I (zw_W_I W1))) rfl rfl (by decide) (⟨hs.1, by show _ < ((8 : Nat) : Int); omega⟩) rfl rfl ?_
            refine zw_rig rfl rfl ⟨by decide, by decide⟩ ?_
            refine ⟨_, _, rfl, Or.inl ⟨⟨by omega, by omega, by omega⟩, ?_, ?_, ?_⟩, zw_W_I (zw_W_I (zw_W_I W1)), q2⟩
            · refine (congrArg Int32.toInt zw_eq).trans ?_
              rw [em1, zw_p1 (by omega)]
            · rw [e8]
              refine (show yHc 33 (xKm (xKk A xs (Int32.ofInt (-1))) xs.toInt.toNat xw xt) _ from yHc_m q3 (xKw_k ⟨b1, b2, b3, b4⟩ ⟨hs.1, hs.2⟩) (by show xs.toInt.toNat < A.1; omega) (by show (A.2.2.1 xs.toInt.toNat 2).toInt < 8; omega) (fun p k p1 p2 p3 p4 p5 => (y_ne (fun h9 => p3 h9)).trans ((y_ne (fun h9 => p5 h9)).trans (y_ne (fun h9 => p4 h9)))) ?_ ?_ ?_)
              · exact zw_eq.trans (congrArg (fun z : Int32 => z + Int32.ofInt 1) em1)
              · exact (y_ne (fun h9 => absurd h9.1 (by decide))).trans ((y_ne (fun h9 => absurd h9.1 (by decide))).trans zw_eq)
              · exact (y_ne (fun h9 => absurd h9.1 (by decide))).trans zw_eq
            · exact (y_ne (fun h9 => absurd h9.1 (by decide))).trans ((y_ne (fun h9 => absurd h9.1 (by decide))).trans ((y_ne (fun h9 => absurd h9.1 (by decide))).trans (q4 0 4 (by decide) (by decide) (by decide))))
          · refine zw_ld (n := 1) (k := 0) (f := zp_isR) (pc' := 52) rfl rfl (zw_gt rfl rfl rfl) rfl rfl ?_
            refine zw_s (pc' := 53) rfl rfl ?_
            refine zw_gI (q := 0) (pc' := 56) W rfl rfl rfl rfl rfl rfl ?_
            refine zw_s (pc' := 57) rfl rfl ?_
            refine zw_iadd (pc' := 58) rfl rfl ?_
            refine zw_pI (q := 0) (pc' := 61) W rfl rfl rfl rfl rfl rfl ?_
            refine zw_s (pc' := 62) rfl rfl ?_
            refine zw_rig rfl rfl ⟨by decide, by decide⟩ ?_
            refine ⟨_, _, rfl, Or.inr ⟨by omega, rfl, yHc_c (H := H) (fun p k p1 p2 => y_ne (fun h9 => by have := h9.1; omega)) h, zw_eq⟩, zw_W_I W, rfl⟩

theorem yl_wr3 {L : Nat} {σ : Nat → Int32} {d : Nat} {H : zp_H} {A : xK} {xs xw xt : Int32} (hB : zk_Bs (zB_c 3) zg zJc H) (hw : xKw A) (h : yHc 33 A H) (hs : 0 ≤ xs.toInt ∧ xs.toInt < A.1) : ∃ H1 u, zp_Call L σ (d + 4) 111 [.inr (.inr (some 1)), .inl xs, .inl xw, .inl xt, .inr (.inr (some 105))] H (.inl (some (.inl (Int32.ofInt 0))), zw_J H1 104 0 u.toInt64) ∧ ((((A.2.2.1 xs.toInt.toNat 2).toInt < 8 ∧ (0 ≤ xw.toInt ∧ xw.toInt ≤ 3) ∧ 1 ≤ xt.toInt ∧ xt.toInt ≤ 9) ∧ u.toInt = (A.2.2.1 xs.toInt.toNat 2).toInt + 1 ∧ yHc 33 (xKk (xKm A xs.toInt.toNat xw xt) xs (Int32.ofInt (-1))) H1 ∧ H1.2.1 0 4 = H.2.1 0 4) ∨ (¬ ((A.2.2.1 xs.toInt.toNat 2).toInt < 8 ∧ (0 ≤ xw.toInt ∧ xw.toInt ≤ 3) ∧ 1 ≤ xt.toInt ∧ xt.toInt ≤ 9) ∧ u = Int32.ofInt (-1) ∧ yHc 33 A H1 ∧ H1.2.1 0 4 = H.2.1 0 4 + Int32.ofInt 1)) ∧ zw_W H1 ∧ H1.2.2 = H.2.2 := by
  obtain ⟨_, q1, H1, u, rfl, q2, W1, q3⟩ := yc_wr3 (L := L) (σ := σ) (d := d) (xw := xw) (xt := xt) hB hw h hs
  have W := zB_Wd (zB_dn (zB_Bc hB))
  refine ⟨H1, u, zw_ex (zw_met zm_111_t rfl rfl ?_), q2, W1, q3⟩
  refine zw_ld (n := 2) (k := 4) (f := zp_isR) (pc' := 2) rfl rfl rfl rfl rfl ?_
  refine zw_s (pc' := 3) rfl rfl ?_
  refine zw_ld (n := 1) (k := 0) (f := zp_isR) (pc' := 4) rfl rfl rfl rfl rfl ?_
  refine zw_ld (n := 1) (k := 1) (f := zp_isI) (pc' := 5) rfl rfl rfl rfl rfl ?_
  refine zw_ld (n := 1) (k := 2) (f := zp_isI) (pc' := 6) rfl rfl rfl rfl rfl ?_
  refine zw_ld (n := 1) (k := 3) (f := zp_isI) (pc' := 7) rfl rfl rfl rfl rfl ?_
  refine zw_ct (pc' := 10) (c' := (1, 6)) (zw_cv (q := 0) (Y := zm_112) W.1 rfl rfl zm_112_t rfl rfl) (zw_pb_ok rfl) rfl rfl rfl rfl (q1) ?_
  refine zw_s (pc' := 11) rfl rfl ?_
  refine zw_ls (q := 104) (pc' := 12) W1 rfl rfl (⟨by decide, by decide⟩) rfl ?_
  refine zw_s (pc' := 19) rfl rfl ?_
  refine zw_s (pc' := 20) rfl rfl ?_
  refine zw_rig rfl rfl ⟨by decide, by decide⟩ ?_
  rfl

theorem yc_wrn3 {L : Nat} {σ : Nat → Int32} {d : Nat} {H : zp_H} {xs xw xt : Int32} (hB : zk_Bs (zB_c 3) zg zJc H) (h : ¬ (0 ≤ xs.toInt ∧ xs.toInt < (H.2.1 33 0).toInt)) : zp_Call L σ (d + 3) 112 [.inr (.inr (some 1)), .inl xs, .inl xw, .inl xt] H (.inr 0, H) := by
  have W := zB_Wd (zB_dn (zB_Bc hB))
  have g5 : H.2.2.2 0 5 = some 23 := hB.2.1 0 5 _ rfl
  have g6 : H.2.2.2 0 6 = some 34 := hB.2.1 0 6 _ rfl
  have g7 : H.2.2.2 0 7 = some 3 := hB.2.1 0 7 _ rfl
  have g8 : H.2.2.2 0 8 = some 14 := hB.2.1 0 8 _ rfl
  refine zw_ex (zw_met zm_112_t rfl rfl ?_)
  refine zw_ld (n := 1) (k := 0) (f := zp_isR) (pc' := 1) rfl rfl rfl rfl rfl ?_
  refine zw_ld (n := 1) (k := 1) (f := zp_isI) (pc' := 2) rfl rfl rfl rfl rfl ?_
  refine zw_cthr (ex := 0) (zw_cv (q := 0) (Y := zm_108) W.1 rfl rfl zm_108_t rfl rfl) (zw_pb_ok rfl) rfl rfl (yc_ns0_3 hB h) ?_
  rfl

theorem yl_wrn3 {L : Nat} {σ : Nat → Int32} {d : Nat} {H : zp_H} {xs xw xt : Int32} (hB : zk_Bs (zB_c 3) zg zJc H) (h : ¬ (0 ≤ xs.toInt ∧ xs.toInt < (H.2.1 33 0).toInt)) : zp_Call L σ (d + 4) 111 [.inr (.inr (some 1)), .inl xs, .inl xw, .inl xt, .inr (.inr (some 105))] H (.inl (some (.inl (Int32.ofInt 1))), H) := by
  have W := zB_Wd (zB_dn (zB_Bc hB))
  refine zw_ex (zw_met zm_111_t rfl rfl ?_)
  refine zw_ld (n := 2) (k := 4) (f := zp_isR) (pc' := 2) rfl rfl rfl rfl rfl ?_
  refine zw_s (pc' := 3) rfl rfl ?_
  refine zw_ld (n := 1) (k := 0) (f := zp_isR) (pc' := 4) rfl rfl rfl rfl rfl ?_
  refine zw_ld (n := 1) (k := 1) (f := zp_isI) (pc' := 5) rfl rfl rfl rfl rfl ?_
  refine zw_ld (n := 1) (k := 2) (f := zp_isI) (pc' := 6) rfl rfl rfl rfl rfl ?_
  refine zw_ld (n := 1) (k := 3) (f := zp_isI) (pc' := 7) rfl rfl rfl rfl rfl ?_
  refine zw_cexw (ex := 0) (hp9 := 15) (k9 := 5) (pc' := 17) (c' := (1, 6)) (zw_cv (q := 0) (Y := zm_112) W.1 rfl rfl zm_112_t rfl rfl) (zw_pb_ok rfl) rfl rfl rfl rfl rfl rfl rfl (yc_wrn3 hB h) ?_
  refine zw_s (pc' := 18) rfl rfl ?_
  refine zw_rig rfl rfl ⟨by decide, by decide⟩ ?_
  rfl
