/-! ===== a voyage: the reference ===== -/
def zm_220 : za_MI := (yX12_sailsOf, prog_14_method_60_code, 2, none, 12, 0, 0, [], za_i220)
theorem zm_220_t : za_MT 220 = some zm_220 := rfl
def xRE (H : zp_H) (r : Int32 × Int32 × Int32 × Int32) : Prop := H.2.1 72 64 = r.1 ∧ H.2.1 72 69 = r.2.1 ∧ H.2.1 72 66 = r.2.2.1 ∧ H.2.1 72 68 = r.2.2.2
def xR7 (H : zp_H) (r : Int32 × Int32 × Int32 × Int32 × Int32 × Int32 × Int32) : Prop := H.2.1 72 64 = r.1 ∧ H.2.1 72 69 = r.2.1 ∧ H.2.1 72 66 = r.2.2.1 ∧ H.2.1 72 68 = r.2.2.2.1 ∧ H.2.1 72 67 = r.2.2.2.2.1 ∧ (¬ r.2.2.1.toInt = 0 → H.2.1 72 70 = r.2.2.2.2.2.1 ∧ H.2.1 72 71 = r.2.2.2.2.2.2)

theorem xr_sa141 {L : Nat} {σ : Nat → Int32} {d : Nat} {H : zp_H} {P : zp_X → Prop} {lv : zp_LV} {s : Int32} (W : zw_W H) (l0 : zp_get lv 0 = some (.inr (.inr (some 73)))) (l1 : zp_get lv 1 = some (.inl s)) (hP : zs_Safe L σ P zm_220 [] (d + 2) (79, lv, [], zw_I (zw_I H 72 69 (H.2.1 72 69 + Int32.ofInt 1)) 72 68 (H.2.1 72 68 + Int32.ofInt 1), (0, 0))) : zs_Safe L σ P zm_220 [] (d + 2) (141, lv, [], H, (0, 0)) := by
  refine zw_ld (n := 1) (k := 0) (f := zp_isR) (pc' := 142) rfl rfl l0 rfl rfl ?_
  refine zw_s (pc' := 143) rfl rfl ?_
  refine zw_gI (q := 72) (pc' := 146) W rfl rfl rfl rfl rfl rfl ?_
  refine zw_s (pc' := 147) rfl rfl ?_
  refine zw_iadd (pc' := 148) rfl rfl ?_
  refine zw_pI (q := 72) (pc' := 151) W rfl rfl rfl rfl rfl rfl ?_
  refine zw_ld (n := 1) (k := 0) (f := zp_isR) (pc' := 152) rfl rfl l0 rfl rfl ?_
  refine zw_s (pc' := 153) rfl rfl ?_
  refine zw_gI (q := 72) (pc' := 156) (zw_W_I W) rfl rfl rfl rfl (zw_ne rfl rfl) rfl ?_
  refine zw_s (pc' := 157) rfl rfl ?_
  refine zw_iadd (pc' := 158) rfl rfl ?_
  refine zw_pI (q := 72) (pc' := 161) (zw_W_I W) rfl rfl rfl rfl rfl rfl ?_
  refine zw_s (pc' := 79) rfl rfl ?_
  exact hP

theorem xr_saL {L : Nat} {σ : Nat → Int32} {d : Nat} {S : xSea} {P : zp_X → Prop} {s : Int32} (hS : xOk S) (hs : 0 ≤ s.toInt ∧ s.toInt < 8) : ∀ (n : Nat) (H : zp_H) (lv : zp_LV), zw_W H → xSR H S → xIn S (H.2.1 72 64).toInt → H.2.1 72 66 = Int32.ofInt 0 → (0 ≤ (H.2.1 72 67).toInt ∧ (H.2.1 72 67).toInt < 8) → 0 ≤ (H.2.1 72 68).toInt → (H.2.1 72 68).toInt + n = (H.2.1 75 (16 * s.toInt.toNat + 2 * (H.2.1 72 67).toInt.toNat + 1)).toInt.toNat → zp_get lv 0 = some (.inr (.inr (some 73))) → zp_get lv 1 = some (.inl s) → (∀ H1, zw_W H1 → xFs 64 69 H H1 → (H1.2.1 72 64 = (xMk S (H.2.1 75 (16 * s.toInt.toNat + 2 * (H.2.1 72 67).toInt.toNat)).toInt true n (H.2.1 72 68) (H.2.1 72 64) (H.2.1 72 69)).1 ∧ H1.2.1 72 69 = (xMk S (H.2.1 75 (16 * s.toInt.toNat + 2 * (H.2.1 72 67).toInt.toNat)).toInt true n (H.2.1 72 68) (H.2.1 72 64) (H.2.1 72 69)).2.1 ∧ (xMk S (H.2.1 75 (16 * s.toInt.toNat + 2 * (H.2.1 72 67).toInt.toNat)).toInt true n (H.2.1 72 68) (H.2.1 72 64) (H.2.1 72 69)).2.2.1.toInt = 0 ∧ H1.2.1 72 66 = Int32.ofInt 0 ∧ H1.2.1 72 67 = H.2.1 72 67) → zs_Safe L σ P zm_220 [] (d + 2) (164, lv, [], H1, (0, 0))) → (∀ H1, zw_W H1 → xFs 64 69 H H1 → ¬ (xMk S (H.2.1 75 (16 * s.toInt.toNat + 2 * (H.2.1 72 67).toInt.toNat)).toInt true n (H.2.1 72 68) (H.2.1 72 64) (H.2.1 72 69)).2.2.1.toInt = 0 → xRE H1 (xMk S (H.2.1 75 (16 * s.toInt.toNat + 2 * (H.2.1 72 67).toInt.toNat)).toInt true n (H.2.1 72 68) (H.2.1 72 64) (H.2.1 72 69)) ∧ H1.2.1 72 67 = H.2.1 72 67 → P (.inl none, H1)) → zs_Safe L σ P zm_220 [] (d + 2) (79, lv, [], H, (0, 0)) := by
  intro n
  induction n with
  | zero =>
    intro H lv W hR hc he hk h5 hn l0 l1 hA hN
    have i1 : (Int32.ofInt 16 * s).toInt = 16 * s.toInt := zt_mul (by decide) (by omega)
    have i2 : (Int32.ofInt 2 * H.2.1 72 67).toInt = 2 * (H.2.1 72 67).toInt := zt_mul (by decide) (by omega)
    have i3 : (Int32.ofInt 16 * s + Int32.ofInt 2 * H.2.1 72 67).toInt = 16 * s.toInt + 2 * (H.2.1 72 67).toInt := by rw [zq_add (by rw [i1, i2]; omega) (by rw [i1, i2]; omega), i1, i2]
    have i4 : (Int32.ofInt 16 * s + Int32.ofInt 2 * H.2.1 72 67 + Int32.ofInt 1).toInt = 16 * s.toInt + 2 * (H.2.1 72 67).toInt + 1 := by rw [zt_add (by decide) (by omega), i3]
    have i5 : (Int32.ofInt 16 * s + Int32.ofInt 2 * H.2.1 72 67 + Int32.ofInt 1).toInt.toNat = 16 * s.toInt.toNat + 2 * (H.2.1 72 67).toInt.toNat + 1 := by omega
    have i6 : (Int32.ofInt 16 * s + Int32.ofInt 2 * H.2.1 72 67).toInt.toNat = 16 * s.toInt.toNat + 2 * (H.2.1 72 67).toInt.toNat := by omega
    refine zw_ld (n := 1) (k := 0) (f := zp_isR) (pc' := 80) rfl rfl l0 rfl rfl ?_
    refine zw_gI (q := 72) (pc' := 83) W rfl rfl rfl rfl rfl rfl ?_
    refine zw_ld (n := 1) (k := 0) (f := zp_isR) (pc' := 84) rfl rfl l0 rfl rfl ?_
    refine zw_gR (q := 72) (pc' := 87) W rfl rfl rfl rfl (W.2 72 15 _ rfl) rfl ?_
    refine zw_s (pc' := 89) rfl rfl ?_
    refine zw_ld (n := 1) (k := 1) (f := zp_isI) (pc' := 90) rfl rfl l1 rfl rfl ?_
    refine zw_imul (pc' := 91) rfl rfl ?_
    refine zw_s (pc' := 92) rfl rfl ?_
    refine zw_ld (n := 1) (k := 0) (f := zp_isR) (pc' := 93) rfl rfl l0 rfl rfl ?_
    refine zw_gI (q := 72) (pc' := 96) W rfl rfl rfl rfl rfl rfl ?_
    refine zw_imul (pc' := 97) rfl rfl ?_
    refine zw_iadd (pc' := 98) rfl rfl ?_
    refine zw_s (pc' := 99) rfl rfl ?_
    refine zw_iadd (pc' := 100) rfl rfl ?_
    refine zw_ia (q := 75) (pc' := 101) W rfl rfl (by decide) (⟨by omega, by show _ < ((128 : Nat) : Int); omega⟩) rfl rfl ?_
    refine zw_bge2 (g := 164) (pc' := 104) rfl rfl rfl rfl rfl (fun h1 => ?_) (fun h1 => ?_)
    · exact hA H W (xFs_r H) ⟨rfl, rfl, rfl, he, rfl⟩
    · have h1 : (H.2.1 72 68).toInt < (H.2.1 75 (Int32.ofInt 16 * s + Int32.ofInt 2 * H.2.1 72 67 + Int32.ofInt 1).toInt.toNat).toInt := h1
      rw [i5] at h1
      omega
  | succ n ih =>
    intro H lv W hR hc he hk h5 hn l0 l1 hA hN
    have i1 : (Int32.ofInt 16 * s).toInt = 16 * s.toInt := zt_mul (by decide) (by omega)
    have i2 : (Int32.ofInt 2 * H.2.1 72 67).toInt = 2 * (H.2.1 72 67).toInt := zt_mul (by decide) (by omega)
    have i3 : (Int32.ofInt 16 * s + Int32.ofInt 2 * H.2.1 72 67).toInt = 16 * s.toInt + 2 * (H.2.1 72 67).toInt := by rw [zq_add (by rw [i1, i2]; omega) (by rw [i1, i2]; omega), i1, i2]
    have i4 : (Int32.ofInt 16 * s + Int32.ofInt 2 * H.2.1 72 67 + Int32.ofInt 1).toInt = 16 * s.toInt + 2 * (H.2.1 72 67).toInt + 1 := by rw [zt_add (by decide) (by omega), i3]
    have i5 : (Int32.ofInt 16 * s + Int32.ofInt 2 * H.2.1 72 67 + Int32.ofInt 1).toInt.toNat = 16 * s.toInt.toNat + 2 * (H.2.1 72 67).toInt.toNat + 1 := by omega
    have i6 : (Int32.ofInt 16 * s + Int32.ofInt 2 * H.2.1 72 67).toInt.toNat = 16 * s.toInt.toNat + 2 * (H.2.1 72 67).toInt.toNat := by omega
    refine zw_ld (n := 1) (k := 0) (f := zp_isR) (pc' := 80) rfl rfl l0 rfl rfl ?_
    refine zw_gI (q := 72) (pc' := 83) W rfl rfl rfl rfl rfl rfl ?_
    refine zw_ld (n := 1) (k := 0) (f := zp_isR) (pc' := 84) rfl rfl l0 rfl rfl ?_
    refine zw_gR (q := 72) (pc' := 87) W rfl rfl rfl rfl (W.2 72 15 _ rfl) rfl ?_
    refine zw_s (pc' := 89) rfl rfl ?_
    refine zw_ld (n := 1) (k := 1) (f := zp_isI) (pc' := 90) rfl rfl l1 rfl rfl ?_
    refine zw_imul (pc' := 91) rfl rfl ?_
    refine zw_s (pc' := 92) rfl rfl ?_
    refine zw_ld (n := 1) (k := 0) (f := zp_isR) (pc' := 93) rfl rfl l0 rfl rfl ?_
    refine zw_gI (q := 72) (pc' := 96) W rfl rfl rfl rfl rfl rfl ?_
    refine zw_imul (pc' := 97) rfl rfl ?_
    refine zw_iadd (pc' := 98) rfl rfl ?_
    refine zw_s (pc' := 99) rfl rfl ?_
    refine zw_iadd (pc' := 100) rfl rfl ?_
    refine zw_ia (q := 75) (pc' := 101) W rfl rfl (by decide) (⟨by omega, by show _ < ((128 : Nat) : Int); omega⟩) rfl rfl ?_
    refine zw_bge2 (g := 164) (pc' := 104) rfl rfl rfl rfl rfl (fun h1 => ?_) (fun h1 => ?_)
    · have h1 : (H.2.1 75 (Int32.ofInt 16 * s + Int32.ofInt 2 * H.2.1 72 67 + Int32.ofInt 1).toInt.toNat).toInt ≤ (H.2.1 72 68).toInt := h1
      rw [i5] at h1
      omega
    · refine zw_ld (n := 1) (k := 0) (f := zp_isR) (pc' := 105) rfl rfl l0 rfl rfl ?_
      refine zw_ld (n := 1) (k := 0) (f := zp_isR) (pc' := 106) rfl rfl l0 rfl rfl ?_
      refine zw_ld (n := 1) (k := 0) (f := zp_isR) (pc' := 107) rfl rfl l0 rfl rfl ?_
      refine zw_gR (q := 72) (pc' := 110) W rfl rfl rfl rfl (W.2 72 15 _ rfl) rfl ?_
      refine zw_s (pc' := 112) rfl rfl ?_
      refine zw_ld (n := 1) (k := 1) (f := zp_isI) (pc' := 113) rfl rfl l1 rfl rfl ?_
      refine zw_imul (pc' := 114) rfl rfl ?_
      refine zw_s (pc' := 115) rfl rfl ?_
      refine zw_ld (n := 1) (k := 0) (f := zp_isR) (pc' := 116) rfl rfl l0 rfl rfl ?_
      refine zw_gI (q := 72) (pc' := 119) W rfl rfl rfl rfl rfl rfl ?_
      refine zw_imul (pc' := 120) rfl rfl ?_
      refine zw_iadd (pc' := 121) rfl rfl ?_
      refine zw_ia (q := 75) (pc' := 122) W rfl rfl (by decide) (⟨by omega, by show _ < ((128 : Nat) : Int); omega⟩) rfl rfl ?_
      refine zw_ld (n := 1) (k := 0) (f := zp_isR) (pc' := 123) rfl rfl l0 rfl rfl ?_
      refine zw_gI (q := 72) (pc' := 126) W rfl rfl rfl rfl rfl rfl ?_
      refine zw_s (pc' := 127) rfl rfl ?_
      obtain ⟨_, q1, H1, rfl, W1, q2, q3⟩ := xr_st1 (L := L) (σ := σ) (d := d) (x1 := (H.2.1 75 (16 * s.toInt.toNat + 2 * (H.2.1 72 67).toInt.toNat))) (x2 := H.2.1 72 69) W hS hR hc
      have hb := xSt_b (hr := (H.2.1 72 69).toInt) (d := (H.2.1 75 (16 * s.toInt.toNat + 2 * (H.2.1 72 67).toInt.toNat)).toInt) (t := true) hS hc
      have ho := xSt_o (hr := (H.2.1 72 69).toInt) (d := (H.2.1 75 (16 * s.toInt.toNat + 2 * (H.2.1 72 67).toInt.toNat)).toInt) (t := true) hS hc
      rw [i6]
      refine zw_c (pc' := 130) (zw_cv (q := 72) (Y := zm_221) W.1 rfl rfl zm_221_t rfl rfl) rfl rfl rfl rfl rfl (q1) ?_
      refine zw_pI (q := 72) (pc' := 133) W1 rfl rfl rfl rfl rfl rfl ?_
      refine zw_ld (n := 1) (k := 0) (f := zp_isR) (pc' := 134) rfl rfl l0 rfl rfl ?_
      refine zw_gI (q := 72) (pc' := 137) (zw_W_I W1) rfl rfl rfl rfl zw_eq rfl ?_
      have fr : xFs 64 69 H (zw_I H1 72 66 (Int32.ofInt (xSt S (H.2.1 72 64).toInt (H.2.1 72 69).toInt (H.2.1 75 (16 * s.toInt.toNat + 2 * (H.2.1 72 67).toInt.toNat)).toInt true).1)) := xFs_I (xFs_m q2 (by decide) (by decide)) (by decide) (by decide)
      have g64 : (zw_I H1 72 66 (Int32.ofInt (xSt S (H.2.1 72 64).toInt (H.2.1 72 69).toInt (H.2.1 75 (16 * s.toInt.toNat + 2 * (H.2.1 72 67).toInt.toNat)).toInt true).1)).2.1 72 64 = Int32.ofInt (xSt S (H.2.1 72 64).toInt (H.2.1 72 69).toInt (H.2.1 75 (16 * s.toInt.toNat + 2 * (H.2.1 72 67).toInt.toNat)).toInt true).2 := (zw_ne rfl rfl).trans q3
      have g69 : (zw_I H1 72 66 (Int32.ofInt (xSt S (H.2.1 72 64).toInt (H.2.1 72 69).toInt (H.2.1 75 (16 * s.toInt.toNat + 2 * (H.2.1 72 67).toInt.toNat)).toInt true).1)).2.1 72 69 = H.2.1 72 69 := (zw_ne rfl rfl).trans (q2.2.2.1 72 69 (by decide))
      have g68 : (zw_I H1 72 66 (Int32.ofInt (xSt S (H.2.1 72 64).toInt (H.2.1 72 69).toInt (H.2.1 75 (16 * s.toInt.toNat + 2 * (H.2.1 72 67).toInt.toNat)).toInt true).1)).2.1 72 68 = H.2.1 72 68 := (zw_ne rfl rfl).trans (q2.2.2.1 72 68 (by decide))
      have g67 : (zw_I H1 72 66 (Int32.ofInt (xSt S (H.2.1 72 64).toInt (H.2.1 72 69).toInt (H.2.1 75 (16 * s.toInt.toNat + 2 * (H.2.1 72 67).toInt.toNat)).toInt true).1)).2.1 72 67 = H.2.1 72 67 := (zw_ne rfl rfl).trans (q2.2.2.1 72 67 (by decide))
      refine zw_beq1 (g := 141) (pc' := 140) rfl rfl rfl rfl (fun h2 => ?_) (fun h2 => ?_)
      · have h2 : (Int32.ofInt (xSt S (H.2.1 72 64).toInt (H.2.1 72 69).toInt (H.2.1 75 (16 * s.toInt.toNat + 2 * (H.2.1 72 67).toInt.toNat)).toInt true).1).toInt = 0 := h2
        rw [ho.1] at h2
        refine xr_sa141 (zw_W_I W1) l0 l1 ?_
        have fr2 : xFs 64 69 H (zw_I (zw_I (zw_I H1 72 66 (Int32.ofInt (xSt S (H.2.1 72 64).toInt (H.2.1 72 69).toInt (H.2.1 75 (16 * s.toInt.toNat + 2 * (H.2.1 72 67).toInt.toNat)).toInt true).1)) 72 69 ((zw_I H1 72 66 (Int32.ofInt (xSt S (H.2.1 72 64).toInt (H.2.1 72 69).toInt (H.2.1 75 (16 * s.toInt.toNat + 2 * (H.2.1 72 67).toInt.toNat)).toInt true).1)).2.1 72 69 + Int32.ofInt 1)) 72 68 ((zw_I H1 72 66 (Int32.ofInt (xSt S (H.2.1 72 64).toInt (H.2.1 72 69).toInt (H.2.1 75 (16 * s.toInt.toNat + 2 * (H.2.1 72 67).toInt.toNat)).toInt true).1)).2.1 72 68 + Int32.ofInt 1)) := xFs_I (xFs_I fr (by decide) (by decide)) (by decide) (by decide)
        have k64 : (zw_I (zw_I (zw_I H1 72 66 (Int32.ofInt (xSt S (H.2.1 72 64).toInt (H.2.1 72 69).toInt (H.2.1 75 (16 * s.toInt.toNat + 2 * (H.2.1 72 67).toInt.toNat)).toInt true).1)) 72 69 ((zw_I H1 72 66 (Int32.ofInt (xSt S (H.2.1 72 64).toInt (H.2.1 72 69).toInt (H.2.1 75 (16 * s.toInt.toNat + 2 * (H.2.1 72 67).toInt.toNat)).toInt true).1)).2.1 72 69 + Int32.ofInt 1)) 72 68 ((zw_I H1 72 66 (Int32.ofInt (xSt S (H.2.1 72 64).toInt (H.2.1 72 69).toInt (H.2.1 75 (16 * s.toInt.toNat + 2 * (H.2.1 72 67).toInt.toNat)).toInt true).1)).2.1 72 68 + Int32.ofInt 1)).2.1 72 64 = Int32.ofInt (xSt S (H.2.1 72 64).toInt (H.2.1 72 69).toInt (H.2.1 75 (16 * s.toInt.toNat + 2 * (H.2.1 72 67).toInt.toNat)).toInt true).2 := (zw_ne (zw_ne rfl rfl) rfl).trans g64
        have k69 : (zw_I (zw_I (zw_I H1 72 66 (Int32.ofInt (xSt S (H.2.1 72 64).toInt (H.2.1 72 69).toInt (H.2.1 75 (16 * s.toInt.toNat + 2 * (H.2.1 72 67).toInt.toNat)).toInt true).1)) 72 69 ((zw_I H1 72 66 (Int32.ofInt (xSt S (H.2.1 72 64).toInt (H.2.1 72 69).toInt (H.2.1 75 (16 * s.toInt.toNat + 2 * (H.2.1 72 67).toInt.toNat)).toInt true).1)).2.1 72 69 + Int32.ofInt 1)) 72 68 ((zw_I H1 72 66 (Int32.ofInt (xSt S (H.2.1 72 64).toInt (H.2.1 72 69).toInt (H.2.1 75 (16 * s.toInt.toNat + 2 * (H.2.1 72 67).toInt.toNat)).toInt true).1)).2.1 72 68 + Int32.ofInt 1)).2.1 72 69 = H.2.1 72 69 + Int32.ofInt 1 := (zw_ne zw_eq rfl).trans (congrArg (fun z : Int32 => z + Int32.ofInt 1) g69)
        have k68 : (zw_I (zw_I (zw_I H1 72 66 (Int32.ofInt (xSt S (H.2.1 72 64).toInt (H.2.1 72 69).toInt (H.2.1 75 (16 * s.toInt.toNat + 2 * (H.2.1 72 67).toInt.toNat)).toInt true).1)) 72 69 ((zw_I H1 72 66 (Int32.ofInt (xSt S (H.2.1 72 64).toInt (H.2.1 72 69).toInt (H.2.1 75 (16 * s.toInt.toNat + 2 * (H.2.1 72 67).toInt.toNat)).toInt true).1)).2.1 72 69 + Int32.ofInt 1)) 72 68 ((zw_I H1 72 66 (Int32.ofInt (xSt S (H.2.1 72 64).toInt (H.2.1 72 69).toInt (H.2.1 75 (16 * s.toInt.toNat + 2 * (H.2.1 72 67).toInt.toNat)).toInt true).1)).2.1 72 68 + Int32.ofInt 1)).2.1 72 68 = H.2.1 72 68 + Int32.ofInt 1 := zw_eq.trans (congrArg (fun z : Int32 => z + Int32.ofInt 1) g68)
        have k67 : (zw_I (zw_I (zw_I H1 72 66 (Int32.ofInt (xSt S (H.2.1 72 64).toInt (H.2.1 72 69).toInt (H.2.1 75 (16 * s.toInt.toNat + 2 * (H.2.1 72 67).toInt.toNat)).toInt true).1)) 72 69 ((zw_I H1 72 66 (Int32.ofInt (xSt S (H.2.1 72 64).toInt (H.2.1 72 69).toInt (H.2.1 75 (16 * s.toInt.toNat + 2 * (H.2.1 72 67).toInt.toNat)).toInt true).1)).2.1 72 69 + Int32.ofInt 1)) 72 68 ((zw_I H1 72 66 (Int32.ofInt (xSt S (H.2.1 72 64).toInt (H.2.1 72 69).toInt (H.2.1 75 (16 * s.toInt.toNat + 2 * (H.2.1 72 67).toInt.toNat)).toInt true).1)).2.1 72 68 + Int32.ofInt 1)).2.1 72 67 = H.2.1 72 67 := (zw_ne (zw_ne rfl rfl) rfl).trans g67
        have k66 : (zw_I (zw_I (zw_I H1 72 66 (Int32.ofInt (xSt S (H.2.1 72 64).toInt (H.2.1 72 69).toInt (H.2.1 75 (16 * s.toInt.toNat + 2 * (H.2.1 72 67).toInt.toNat)).toInt true).1)) 72 69 ((zw_I H1 72 66 (Int32.ofInt (xSt S (H.2.1 72 64).toInt (H.2.1 72 69).toInt (H.2.1 75 (16 * s.toInt.toNat + 2 * (H.2.1 72 67).toInt.toNat)).toInt true).1)).2.1 72 69 + Int32.ofInt 1)) 72 68 ((zw_I H1 72 66 (Int32.ofInt (xSt S (H.2.1 72 64).toInt (H.2.1 72 69).toInt (H.2.1 75 (16 * s.toInt.toNat + 2 * (H.2.1 72 67).toInt.toNat)).toInt true).1)).2.1 72 68 + Int32.ofInt 1)).2.1 72 66 = Int32.ofInt 0 := (zw_ne (zw_ne zw_eq rfl) rfl).trans (congrArg Int32.ofInt h2)
        have km : ∀ j, (zw_I (zw_I (zw_I H1 72 66 (Int32.ofInt (xSt S (H.2.1 72 64).toInt (H.2.1 72 69).toInt (H.2.1 75 (16 * s.toInt.toNat + 2 * (H.2.1 72 67).toInt.toNat)).toInt true).1)) 72 69 ((zw_I H1 72 66 (Int32.ofInt (xSt S (H.2.1 72 64).toInt (H.2.1 72 69).toInt (H.2.1 75 (16 * s.toInt.toNat + 2 * (H.2.1 72 67).toInt.toNat)).toInt true).1)).2.1 72 69 + Int32.ofInt 1)) 72 68 ((zw_I H1 72 66 (Int32.ofInt (xSt S (H.2.1 72 64).toInt (H.2.1 72 69).toInt (H.2.1 75 (16 * s.toInt.toNat + 2 * (H.2.1 72 67).toInt.toNat)).toInt true).1)).2.1 72 68 + Int32.ofInt 1)).2.1 75 j = H.2.1 75 j := fun j => fr2.2.2.1 75 j (fun h9 => absurd h9.1 (by decide))
        have ei : (H.2.1 72 68 + Int32.ofInt 1).toInt = (H.2.1 72 68).toInt + 1 := zw_p1 (by have h9 : (H.2.1 75 (16 * s.toInt.toNat + 2 * (H.2.1 72 67).toInt.toNat + 1)).toInt ≤ 2147483647 := Int32.toInt_le _; omega)
        refine ih (zw_I (zw_I (zw_I H1 72 66 (Int32.ofInt (xSt S (H.2.1 72 64).toInt (H.2.1 72 69).toInt (H.2.1 75 (16 * s.toInt.toNat + 2 * (H.2.1 72 67).toInt.toNat)).toInt true).1)) 72 69 ((zw_I H1 72 66 (Int32.ofInt (xSt S (H.2.1 72 64).toInt (H.2.1 72 69).toInt (H.2.1 75 (16 * s.toInt.toNat + 2 * (H.2.1 72 67).toInt.toNat)).toInt true).1)).2.1 72 69 + Int32.ofInt 1)) 72 68 ((zw_I H1 72 66 (Int32.ofInt (xSt S (H.2.1 72 64).toInt (H.2.1 72 69).toInt (H.2.1 75 (16 * s.toInt.toNat + 2 * (H.2.1 72 67).toInt.toNat)).toInt true).1)).2.1 72 68 + Int32.ofInt 1)) lv (zw_W_I (zw_W_I (zw_W_I W1))) (xSR_f fr2 (by decide) hR) (by rw [k64, ho.2]; exact hb.1) k66 (by rw [k67]; exact hk) (by rw [k68]; omega) (by rw [k67, k68, km]; omega) l0 l1 (fun H2 w1 w2 w3 => ?_) (fun H2 w1 w2 w3 w4 => ?_)
        · rw [k64, k67, k68, k69, km] at w3
          rw [xMk_y h2] at hA
          exact hA H2 w1 (xFs_t fr2 w2) w3
        · rw [k64, k67, k68, k69, km] at w3 w4
          rw [xMk_y h2] at hN
          exact hN H2 w1 (xFs_t fr2 w2) w3 w4
      · have h2 : ¬ (Int32.ofInt (xSt S (H.2.1 72 64).toInt (H.2.1 72 69).toInt (H.2.1 75 (16 * s.toInt.toNat + 2 * (H.2.1 72 67).toInt.toNat)).toInt true).1).toInt = 0 := h2
        have h3 : ¬ (xSt S (H.2.1 72 64).toInt (H.2.1 72 69).toInt (H.2.1 75 (16 * s.toInt.toNat + 2 * (H.2.1 72 67).toInt.toNat)).toInt true).1 = 0 := fun h9 => h2 (ho.1.trans h9)
        rw [xMk_n h3] at hN
        refine zw_rn rfl rfl ?_
        exact hN _ (zw_W_I W1) fr h2 ⟨⟨g64, g69, zw_eq, g68⟩, g67⟩

theorem xr_saV {L : Nat} {σ : Nat → Int32} {d : Nat} {S : xSea} {P : zp_X → Prop} {H0 : zp_H} {s : Int32} (hS : xOk S) (hs : 0 ≤ s.toInt ∧ s.toInt < 8) (hm : 0 ≤ (H0.2.1 74 (4 * s.toInt.toNat + 2)).toInt ∧ (H0.2.1 74 (4 * s.toInt.toNat + 2)).toInt ≤ 8) : ∀ (n : Nat) (H : zp_H) (lv : zp_LV), zw_W H → xFs 64 71 H0 H → xSR H S → xIn S (H.2.1 72 64).toInt → H.2.1 72 66 = Int32.ofInt 0 → 0 ≤ (H.2.1 72 67).toInt → (H.2.1 72 67).toInt + n = (H0.2.1 74 (4 * s.toInt.toNat + 2)).toInt → zp_get lv 0 = some (.inr (.inr (some 73))) → zp_get lv 1 = some (.inl s) → (∀ H1, zw_W H1 → xFs 64 71 H H1 → xR7 H1 (xVy S (fun j => H0.2.1 75 (16 * s.toInt.toNat + 2 * j)) (fun j => H0.2.1 75 (16 * s.toInt.toNat + 2 * j + 1)) n (H.2.1 72 67) (H.2.1 72 64) (H.2.1 72 69)) → P (.inl none, H1)) → zs_Safe L σ P zm_220 [] (d + 2) (46, lv, [], H, (0, 0)) := by
  intro n
  induction n with
  | zero =>
    intro H lv W hF hR hc he hk hn l0 l1 hP
    have em : H.2.1 74 (4 * s.toInt.toNat + 2) = (H0.2.1 74 (4 * s.toInt.toNat + 2)) := hF.2.2.1 74 _ (fun h9 => absurd h9.1 (by decide))
    refine zw_ld (n := 1) (k := 0) (f := zp_isR) (pc' := 47) rfl rfl l0 rfl rfl ?_
    refine zw_gI (q := 72) (pc' := 50) W rfl rfl rfl rfl rfl rfl ?_
    refine zw_ld (n := 1) (k := 0) (f := zp_isR) (pc' := 51) rfl rfl l0 rfl rfl ?_
    refine zw_ld (n := 1) (k := 1) (f := zp_isI) (pc' := 52) rfl rfl l1 rfl rfl ?_
    refine zw_c (pc' := 55) (zw_cv (q := 72) (Y := zm_212) W.1 rfl rfl zm_212_t rfl rfl) rfl rfl rfl rfl rfl (zq_marks W ⟨hs.1, by omega⟩) ?_
    rw [em]
    refine zw_bge2 (g := 177) (pc' := 58) rfl rfl rfl rfl rfl (fun h1 => ?_) (fun h1 => ?_)
    · have ei : H.2.1 72 67 = (H0.2.1 74 (4 * s.toInt.toNat + 2)) := Int32.toInt_inj.mp (by omega)
      refine zw_ld (n := 1) (k := 0) (f := zp_isR) (pc' := 178) rfl rfl l0 rfl rfl ?_
      refine zw_s (pc' := 179) rfl rfl ?_
      refine zw_pI (q := 72) (pc' := 182) W rfl rfl rfl rfl rfl rfl ?_
      refine zw_rn rfl rfl ?_
      exact hP _ (zw_W_I W) (xFs_I (xFs_r H) (by decide) (by decide)) ⟨zw_ne rfl rfl, zw_ne rfl rfl, (zw_ne rfl rfl).trans he, zw_eq, (zw_ne rfl rfl), fun h9 => absurd (show (Int32.ofInt 0).toInt = 0 by decide) h9⟩
    · omega
  | succ n ih =>
    intro H lv W hF hR hc he hk hn l0 l1 hP
    have em : H.2.1 74 (4 * s.toInt.toNat + 2) = (H0.2.1 74 (4 * s.toInt.toNat + 2)) := hF.2.2.1 74 _ (fun h9 => absurd h9.1 (by decide))
    refine zw_ld (n := 1) (k := 0) (f := zp_isR) (pc' := 47) rfl rfl l0 rfl rfl ?_
    refine zw_gI (q := 72) (pc' := 50) W rfl rfl rfl rfl rfl rfl ?_
    refine zw_ld (n := 1) (k := 0) (f := zp_isR) (pc' := 51) rfl rfl l0 rfl rfl ?_
    refine zw_ld (n := 1) (k := 1) (f := zp_isI) (pc' := 52) rfl rfl l1 rfl rfl ?_
    refine zw_c (pc' := 55) (zw_cv (q := 72) (Y := zm_212) W.1 rfl rfl zm_212_t rfl rfl) rfl rfl rfl rfl rfl (zq_marks W ⟨hs.1, by omega⟩) ?_
    rw [em]
    refine zw_bge2 (g := 177) (pc' := 58) rfl rfl rfl rfl rfl (fun h1 => ?_) (fun h1 => ?_)
    · omega
    · refine zw_ld (n := 1) (k := 0) (f := zp_isR) (pc' := 59) rfl rfl l0 rfl rfl ?_
      refine zw_ld (n := 1) (k := 0) (f := zp_isR) (pc' := 60) rfl rfl l0 rfl rfl ?_
      refine zw_gI (q := 72) (pc' := 63) W rfl rfl rfl rfl rfl rfl ?_
      refine zw_pI (q := 72) (pc' := 66) W rfl rfl rfl rfl rfl rfl ?_
      refine zw_ld (n := 1) (k := 0) (f := zp_isR) (pc' := 67) rfl rfl l0 rfl rfl ?_
      refine zw_ld (n := 1) (k := 0) (f := zp_isR) (pc' := 68) rfl rfl l0 rfl rfl ?_
      refine zw_gI (q := 72) (pc' := 71) (zw_W_I W) rfl rfl rfl rfl (zw_ne rfl rfl) rfl ?_
      refine zw_pI (q := 72) (pc' := 74) (zw_W_I W) rfl rfl rfl rfl rfl rfl ?_
      refine zw_ld (n := 1) (k := 0) (f := zp_isR) (pc' := 75) rfl rfl l0 rfl rfl ?_
      refine zw_s (pc' := 76) rfl rfl ?_
      refine zw_pI (q := 72) (pc' := 79) (zw_W_I (zw_W_I W)) rfl rfl rfl rfl rfl rfl ?_
      have e64 : (zw_I (zw_I (zw_I H 72 70 (H.2.1 72 64)) 72 71 (H.2.1 72 69)) 72 68 (Int32.ofInt 0)).2.1 72 64 = H.2.1 72 64 := zw_ne (zw_ne (zw_ne rfl rfl) rfl) rfl
      have e69 : (zw_I (zw_I (zw_I H 72 70 (H.2.1 72 64)) 72 71 (H.2.1 72 69)) 72 68 (Int32.ofInt 0)).2.1 72 69 = H.2.1 72 69 := zw_ne (zw_ne (zw_ne rfl rfl) rfl) rfl
      have e66 : (zw_I (zw_I (zw_I H 72 70 (H.2.1 72 64)) 72 71 (H.2.1 72 69)) 72 68 (Int32.ofInt 0)).2.1 72 66 = H.2.1 72 66 := zw_ne (zw_ne (zw_ne rfl rfl) rfl) rfl
      have e67 : (zw_I (zw_I (zw_I H 72 70 (H.2.1 72 64)) 72 71 (H.2.1 72 69)) 72 68 (Int32.ofInt 0)).2.1 72 67 = H.2.1 72 67 := zw_ne (zw_ne (zw_ne rfl rfl) rfl) rfl
      have e70 : (zw_I (zw_I (zw_I H 72 70 (H.2.1 72 64)) 72 71 (H.2.1 72 69)) 72 68 (Int32.ofInt 0)).2.1 72 70 = H.2.1 72 64 := zw_ne (zw_ne zw_eq rfl) rfl
      have e71 : (zw_I (zw_I (zw_I H 72 70 (H.2.1 72 64)) 72 71 (H.2.1 72 69)) 72 68 (Int32.ofInt 0)).2.1 72 71 = H.2.1 72 69 := zw_ne zw_eq rfl
      have e68 : (zw_I (zw_I (zw_I H 72 70 (H.2.1 72 64)) 72 71 (H.2.1 72 69)) 72 68 (Int32.ofInt 0)).2.1 72 68 = Int32.ofInt 0 := zw_eq
      have fr : xFs 64 71 H (zw_I (zw_I (zw_I H 72 70 (H.2.1 72 64)) 72 71 (H.2.1 72 69)) 72 68 (Int32.ofInt 0)) := xFs_I (xFs_I (xFs_I (xFs_r H) (by decide) (by decide)) (by decide) (by decide)) (by decide) (by decide)
      have em2 : ∀ j, (zw_I (zw_I (zw_I H 72 70 (H.2.1 72 64)) 72 71 (H.2.1 72 69)) 72 68 (Int32.ofInt 0)).2.1 75 j = H0.2.1 75 j := fun j => (fr.2.2.1 75 j (fun h9 => absurd h9.1 (by decide))).trans (hF.2.2.1 75 j (fun h9 => absurd h9.1 (by decide)))
      have hb := xMk_b (S := S) (d := (H0.2.1 75 (16 * s.toInt.toNat + 2 * (H.2.1 72 67).toInt.toNat)).toInt) (t := true) hS (H0.2.1 75 (16 * s.toInt.toNat + 2 * (H.2.1 72 67).toInt.toNat + 1)).toInt.toNat (Int32.ofInt 0) (H.2.1 72 64) (H.2.1 72 69) hc
      have e0 : (Int32.ofInt 0).toInt = 0 := by decide
      have ei : (H.2.1 72 67 + Int32.ofInt 1).toInt = (H.2.1 72 67).toInt + 1 := zw_p1 (by omega)
      refine xr_saL (S := S) (s := s) hS hs (H0.2.1 75 (16 * s.toInt.toNat + 2 * (H.2.1 72 67).toInt.toNat + 1)).toInt.toNat (zw_I (zw_I (zw_I H 72 70 (H.2.1 72 64)) 72 71 (H.2.1 72 69)) 72 68 (Int32.ofInt 0)) lv (zw_W_I (zw_W_I (zw_W_I W))) (xSR_f fr (by decide) hR) (by rw [e64]; exact hc) (e66.trans he) (by rw [e67]; omega) (by rw [e68, e0]; exact Int.le_refl 0) (by rw [e67, e68, em2, e0]; omega) l0 l1 (fun H1 W1 q2 q3 => ?_) (fun H1 W1 q2 q3 q4 => ?_)
      · rw [e64, e67, e68, e69, em2] at q3
        obtain ⟨r0, r1, r2, r3, r4⟩ := q3
        have fr2 : xFs 64 71 H (zw_I H1 72 67 (H1.2.1 72 67 + Int32.ofInt 1)) := xFs_I (xFs_t fr (xFs_m q2 (by decide) (by decide))) (by decide) (by decide)
        have g64 : (zw_I H1 72 67 (H1.2.1 72 67 + Int32.ofInt 1)).2.1 72 64 = H1.2.1 72 64 := zw_ne rfl rfl
        have g69 : (zw_I H1 72 67 (H1.2.1 72 67 + Int32.ofInt 1)).2.1 72 69 = H1.2.1 72 69 := zw_ne rfl rfl
        have g66 : (zw_I H1 72 67 (H1.2.1 72 67 + Int32.ofInt 1)).2.1 72 66 = Int32.ofInt 0 := (zw_ne rfl rfl).trans r3
        have g67 : (zw_I H1 72 67 (H1.2.1 72 67 + Int32.ofInt 1)).2.1 72 67 = H.2.1 72 67 + Int32.ofInt 1 := zw_eq.trans (congrArg (fun z : Int32 => z + Int32.ofInt 1) r4)
        refine zw_ld (n := 1) (k := 0) (f := zp_isR) (pc' := 165) rfl rfl l0 rfl rfl ?_
        refine zw_s (pc' := 166) rfl rfl ?_
        refine zw_gI (q := 72) (pc' := 169) W1 rfl rfl rfl rfl rfl rfl ?_
        refine zw_s (pc' := 170) rfl rfl ?_
        refine zw_iadd (pc' := 171) rfl rfl ?_
        refine zw_pI (q := 72) (pc' := 174) W1 rfl rfl rfl rfl rfl rfl ?_
        refine zw_s (pc' := 46) rfl rfl ?_
        refine ih _ _ (zw_W_I W1) (xFs_t hF fr2) (xSR_f fr2 (by decide) hR) (by rw [g64, r0]; exact hb.1) g66 (by rw [g67, ei]; omega) (by rw [g67, ei]; omega) l0 l1 (fun H2 w1 w2 w3 => hP H2 w1 (xFs_t fr2 w2) ?_)
        rw [xVy_y (S := S) (wy := (fun j => H0.2.1 75 (16 * s.toInt.toNat + 2 * j))) (st := (fun j => H0.2.1 75 (16 * s.toInt.toNat + 2 * j + 1))) (n := n) (k := H.2.1 72 67) rfl r2]
        rw [g64, g69, g67, r0, r1] at w3
        exact w3
      · rw [e64, e67, e68, e69, em2] at q3 q4
        obtain ⟨⟨r0, r1, r2, r3⟩, r4⟩ := q4
        refine hP H1 W1 (xFs_t fr (xFs_m q2 (by decide) (by decide))) ?_
        rw [xVy_n (S := S) (wy := (fun j => H0.2.1 75 (16 * s.toInt.toNat + 2 * j))) (st := (fun j => H0.2.1 75 (16 * s.toInt.toNat + 2 * j + 1))) (n := n) (k := H.2.1 72 67) rfl q3]
        exact ⟨r0, r1, r2, r3, r4, fun _ => ⟨(q2.2.2.1 72 70 (by decide)).trans e70, (q2.2.2.1 72 71 (by decide)).trans e71⟩⟩

theorem xr_sails {L : Nat} {σ : Nat → Int32} {d : Nat} {H : zp_H} {S : xSea} {s : Int32} (W : zw_W H) (hS : xOk S) (hR : xSR H S) (hs : 0 ≤ s.toInt ∧ s.toInt < 8) (hm : 0 ≤ (H.2.1 74 (4 * s.toInt.toNat + 2)).toInt ∧ (H.2.1 74 (4 * s.toInt.toNat + 2)).toInt ≤ 8) (hc : xIn S (H.2.1 74 (4 * s.toInt.toNat)).toInt) : ∃ X, zp_Call L σ (d + 3) 220 [.inr (.inr (some 73)), .inl s] H X ∧ ∃ H1, X = (.inl none, H1) ∧ zw_W H1 ∧ xFs 64 71 H H1 ∧ xR7 H1 (xVy S (fun j => H.2.1 75 (16 * s.toInt.toNat + 2 * j)) (fun j => H.2.1 75 (16 * s.toInt.toNat + 2 * j + 1)) (H.2.1 74 (4 * s.toInt.toNat + 2)).toInt.toNat (Int32.ofInt 0) (H.2.1 74 (4 * s.toInt.toNat)) (H.2.1 74 (4 * s.toInt.toNat + 1))) := by
  have j1 : (Int32.ofInt 4 * s).toInt = 4 * s.toInt := zt_mul (by decide) (by omega)
  have j2 : (Int32.ofInt 4 * s + Int32.ofInt 1).toInt = 4 * s.toInt + 1 := by rw [zt_add (by decide) (by omega), j1]
  have j3 : (Int32.ofInt 4 * s).toInt.toNat = 4 * s.toInt.toNat := by omega
  have j4 : (Int32.ofInt 4 * s + Int32.ofInt 1).toInt.toNat = 4 * s.toInt.toNat + 1 := by omega
  refine zw_met zm_220_t rfl rfl ?_
  refine zw_ld (n := 1) (k := 0) (f := zp_isR) (pc' := 1) rfl rfl rfl rfl rfl ?_
  refine zw_ld (n := 1) (k := 0) (f := zp_isR) (pc' := 2) rfl rfl rfl rfl rfl ?_
  refine zw_gR (q := 72) (pc' := 5) W rfl rfl rfl rfl (W.2 72 14 _ rfl) rfl ?_
  refine zw_s (pc' := 6) rfl rfl ?_
  refine zw_ld (n := 1) (k := 1) (f := zp_isI) (pc' := 7) rfl rfl rfl rfl rfl ?_
  refine zw_imul (pc' := 8) rfl rfl ?_
  refine zw_ia (q := 74) (pc' := 9) W rfl rfl (by decide) (⟨by omega, by show _ < ((32 : Nat) : Int); omega⟩) rfl rfl ?_
  refine zw_pI (q := 72) (pc' := 12) W rfl rfl rfl rfl rfl rfl ?_
  refine zw_ld (n := 1) (k := 0) (f := zp_isR) (pc' := 13) rfl rfl rfl rfl rfl ?_
  refine zw_ld (n := 1) (k := 0) (f := zp_isR) (pc' := 14) rfl rfl rfl rfl rfl ?_
  refine zw_gR (q := 72) (pc' := 17) (zw_W_I W) rfl rfl rfl rfl ((zw_W_I W).2 72 14 _ rfl) rfl ?_
  refine zw_s (pc' := 18) rfl rfl ?_
  refine zw_ld (n := 1) (k := 1) (f := zp_isI) (pc' := 19) rfl rfl rfl rfl rfl ?_
  refine zw_imul (pc' := 20) rfl rfl ?_
  refine zw_s (pc' := 21) rfl rfl ?_
  refine zw_iadd (pc' := 22) rfl rfl ?_
  refine zw_ia (q := 74) (pc' := 23) (zw_W_I W) rfl rfl (by decide) (⟨by omega, by show _ < ((32 : Nat) : Int); omega⟩) (zw_ne rfl rfl) rfl ?_
  refine zw_pI (q := 72) (pc' := 26) (zw_W_I W) rfl rfl rfl rfl rfl rfl ?_
  refine zw_ld (n := 1) (k := 0) (f := zp_isR) (pc' := 27) rfl rfl rfl rfl rfl ?_
  refine zw_s (pc' := 28) rfl rfl ?_
  refine zw_ld (n := 1) (k := 0) (f := zp_isR) (pc' := 29) rfl rfl rfl rfl rfl ?_
  refine zw_gI (q := 72) (pc' := 32) (zw_W_I (zw_W_I W)) rfl rfl rfl rfl (zw_ne zw_eq rfl) rfl ?_
  refine zw_lshl (pc' := 33) rfl rfl ?_
  refine zw_pL (q := 72) (pc' := 36) (zw_W_I (zw_W_I W)) rfl rfl rfl rfl rfl rfl ?_
  refine zw_ld (n := 1) (k := 0) (f := zp_isR) (pc' := 37) rfl rfl rfl rfl rfl ?_
  refine zw_s (pc' := 38) rfl rfl ?_
  refine zw_pI (q := 72) (pc' := 41) (zw_W_J (zw_W_I (zw_W_I W))) rfl rfl rfl rfl rfl rfl ?_
  refine zw_ld (n := 1) (k := 0) (f := zp_isR) (pc' := 42) rfl rfl rfl rfl rfl ?_
  refine zw_s (pc' := 43) rfl rfl ?_
  refine zw_pI (q := 72) (pc' := 46) (zw_W_I (zw_W_J (zw_W_I (zw_W_I W)))) rfl rfl rfl rfl rfl rfl ?_
  rw [j3, j4]
  have fr : xFs 64 71 H (zw_I (zw_I (zw_J (zw_I (zw_I H 72 64 (H.2.1 74 (4 * s.toInt.toNat))) 72 69 (H.2.1 74 (4 * s.toInt.toNat + 1))) 72 65 (za_shl0 (Int64.ofNat 1) (H.2.1 74 (4 * s.toInt.toNat)))) 72 66 (Int32.ofInt 0)) 72 67 (Int32.ofInt 0)) := xFs_I (xFs_I (xFs_J (xFs_I (xFs_I (xFs_r H) (by decide) (by decide)) (by decide) (by decide))) (by decide) (by decide)) (by decide) (by decide)
  have g64 : (zw_I (zw_I (zw_J (zw_I (zw_I H 72 64 (H.2.1 74 (4 * s.toInt.toNat))) 72 69 (H.2.1 74 (4 * s.toInt.toNat + 1))) 72 65 (za_shl0 (Int64.ofNat 1) (H.2.1 74 (4 * s.toInt.toNat)))) 72 66 (Int32.ofInt 0)) 72 67 (Int32.ofInt 0)).2.1 72 64 = (H.2.1 74 (4 * s.toInt.toNat)) := zw_ne (zw_ne (zw_nj (zw_ne zw_eq rfl)) rfl) rfl
  have g69 : (zw_I (zw_I (zw_J (zw_I (zw_I H 72 64 (H.2.1 74 (4 * s.toInt.toNat))) 72 69 (H.2.1 74 (4 * s.toInt.toNat + 1))) 72 65 (za_shl0 (Int64.ofNat 1) (H.2.1 74 (4 * s.toInt.toNat)))) 72 66 (Int32.ofInt 0)) 72 67 (Int32.ofInt 0)).2.1 72 69 = (H.2.1 74 (4 * s.toInt.toNat + 1)) := zw_ne (zw_ne (zw_nj zw_eq) rfl) rfl
  have g66 : (zw_I (zw_I (zw_J (zw_I (zw_I H 72 64 (H.2.1 74 (4 * s.toInt.toNat))) 72 69 (H.2.1 74 (4 * s.toInt.toNat + 1))) 72 65 (za_shl0 (Int64.ofNat 1) (H.2.1 74 (4 * s.toInt.toNat)))) 72 66 (Int32.ofInt 0)) 72 67 (Int32.ofInt 0)).2.1 72 66 = Int32.ofInt 0 := zw_ne zw_eq rfl
  have g67 : (zw_I (zw_I (zw_J (zw_I (zw_I H 72 64 (H.2.1 74 (4 * s.toInt.toNat))) 72 69 (H.2.1 74 (4 * s.toInt.toNat + 1))) 72 65 (za_shl0 (Int64.ofNat 1) (H.2.1 74 (4 * s.toInt.toNat)))) 72 66 (Int32.ofInt 0)) 72 67 (Int32.ofInt 0)).2.1 72 67 = Int32.ofInt 0 := zw_eq
  have e0 : (Int32.ofInt 0).toInt = 0 := by decide
  refine xr_saV (S := S) (H0 := H) (s := s) hS hs hm (H.2.1 74 (4 * s.toInt.toNat + 2)).toInt.toNat (zw_I (zw_I (zw_J (zw_I (zw_I H 72 64 (H.2.1 74 (4 * s.toInt.toNat))) 72 69 (H.2.1 74 (4 * s.toInt.toNat + 1))) 72 65 (za_shl0 (Int64.ofNat 1) (H.2.1 74 (4 * s.toInt.toNat)))) 72 66 (Int32.ofInt 0)) 72 67 (Int32.ofInt 0)) _ (zw_W_I (zw_W_I (zw_W_J (zw_W_I (zw_W_I W))))) fr (xSR_f fr (by decide) hR) (by rw [g64]; exact hc) g66 (by rw [g67, e0]; exact Int.le_refl 0) (by rw [g67, e0]; omega) rfl rfl (fun H2 w1 w2 w3 => ⟨H2, rfl, w1, xFs_t fr w2, ?_⟩)
  rw [g64, g69, g67] at w3
  exact w3
