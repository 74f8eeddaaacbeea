section
/-! ===== a voyage: the reference ===== -/
def zm_220 : za_MI := (yX12_sailsOf, prog_14_method_60_code, 2, none, 12, 0, 0, [], za_i220)
theorem zm_220_t : za_MT 220 = some zm_220 := rfl
def xRE (H : zp_H) (r : Int32 × Int32 × Int32 × Int32) : Prop := H.2.1 72 64 = r.1 ∧ H.2.1 72 69 = r.2.1 ∧ H.2.1 72 66 = r.2.2.1 ∧ H.2.1 72 68 = r.2.2.2
def xR7 (H : zp_H) (r : Int32 × Int32 × Int32 × Int32 × Int32 × Int32 × Int32) : Prop := H.2.1 72 64 = r.1 ∧ H.2.1 72 69 = r.2.1 ∧ H.2.1 72 66 = r.2.2.1 ∧ H.2.1 72 68 = r.2.2.2.1 ∧ H.2.1 72 67 = r.2.2.2.2.1 ∧ (¬ r.2.2.1.toInt = 0 → H.2.1 72 70 = r.2.2.2.2.2.1 ∧ H.2.1 72 71 = r.2.2.2.2.2.2)

theorem xr_sa141 {L : Nat} {σ : Nat → Int32} {d : Nat} {H : zp_H} {P : zp_X → Prop} {lv : zp_LV} {s : Int32} (W : zw_W H) (l0 : zp_get lv 0 = some (.inr (.inr (some 73)))) (l1 : zp_get lv 1 = some (.inl s)) (hP : zs_Safe L σ P zm_220 [] (d + 2) (79, lv, [], zw_I (zw_I H 72 69 (H.2.1 72 69 + Int32.ofInt 1)) 72 68 (H.2.1 72 68 + Int32.ofInt 1), (0, 0))) : zs_Safe L σ P zm_220 [] (d + 2) (141, lv, [], H, (0, 0)) := by
  refine zw_ld (n := 1) (k := 0) (f := zp_isR) (pc' := 142) rfl rfl l0 rfl rfl ?_
  refine zw_s (pc' := 143) rfl rfl ?_
  refine zw_gI (q := 72) (pc' := 146) W rfl rfl rfl rfl rfl rfl ?_
  refine zw_s (pc' := 147) rfl rfl ?_
  refine zw_iadd (pc' := 148) rfl rfl ?_
  refine zw_pI (q := 72) (pc' := 151) W rfl rfl rfl rfl rfl rfl ?_
  refine zw_ld (n := 1) (k := 0) (f := zp_isR) (pc' := 152) rfl rfl l0 rfl rfl ?_
  refine zw_s (pc' := 153) rfl rfl ?_
  refine zw_gI (q := 72) (pc' := 156) (zw_W_I W) rfl rfl rfl rfl (zw_ne rfl rfl) rfl ?_
  refine zw_s (pc' := 157) rfl rfl ?_
  refine zw_iadd (pc' := 158) rfl rfl ?_
  refine zw_pI (q := 72) (pc' := 161) (zw_W_I W) rfl rfl rfl rfl rfl rfl ?_
  refine zw_s (pc' := 79) rfl rfl ?_
  exact hP

theorem xr_saL {L : Nat} {σ : Nat → Int32} {d : Nat} {S : xSea} {P : zp_X → Prop} {s : Int32} (hS : xOk S) (hs : 0 ≤ s.toInt ∧ s.toInt < 8) : ∀ (n : Nat) (H : zp_H) (lv : zp_LV), zw_W H → xSR H S → xIn S (H.2.1 72 64).toInt → H.2.1 72 66 = Int32.ofInt 0 → (0 ≤ (H.2.1 72 67).toInt ∧ (H.2.1 72 67).toInt < 8) → 0 ≤ (H.2.1 72 68).toInt → (H.2.1 72 68).toInt + n = (H.2.1 75 (16 * s.toInt.toNat + 2 * (H.2.1 72 67).toInt.toNat + 1)).toInt.toNat → zp_get lv 0 = some (.inr (.inr (some 73))) → zp_get lv 1 = some (.inl s) → (∀ H1, zw_W H1 → xFs 64 69 H H1 → (H1.2.1 72 64 = (xMk S (H.2.1 75 (16 * s.toInt.toNat + 2 * (H.2.1 72 67).toInt.toNat)).toInt true n (H.2.1 72 68) (H.2.1 72 64) (H.2.1 72 69)).1 ∧ H1.2.1 72 69 = (xMk S (H.2.1 75 (16 * s.toInt.toNat + 2 * (H.2.1 72 67).toInt.toNat)).toInt true n (H.2.1 72 68) (H.2.1 72 64) (H.2.1 72 69)).2.1 ∧ (xMk S (H.2.1 75 (16 * s.toInt.toNat + 2 * (H.2.1 72 67).toInt.toNat)).toInt true n (H.2.1 72 68) (H.2.1 72 64) (H.2.1 72 69)).2.2.1.toInt = 0 ∧ H1.2.1 72 66 = Int32.ofInt 0 ∧ H1.2.1 72 67 = H.2.1 72 67) → zs_Safe L σ P zm_220 [] (d + 2) (164, lv, [], H1, (0, 0))) → (∀ H1, zw_W H1 → xFs 64 69 H H1 → ¬ (xMk S (H.2.1 75 (16 * s.toInt.toNat + 2 * (H.2.1 72 67).toInt.toNat)).toInt true n (H.2.1 72 68) (H.2.1 72 64) (H.2.1 72 69)).2.2.1.toInt = 0 → xRE H1 (xMk S (H.2.1 75 (16 * s.toInt.toNat + 2 * (H.2.1 72 67).toInt.toNat)).toInt true n (H.2.1 72 68) (H.2.1 72 64) (H.2.1 72 69)) ∧ H1.2.1 72 67 = H.2.1 72 67 → P (.inl none, H1)) → zs_Safe L σ P zm_220 [] (d + 2) (79, lv, [], H, (0, 0)) := by
  intro n
  induction n with
  | zero =>
    intro H lv W hR hc he hk h5 hn l0 l1 hA hN
    have i1 : (Int32.ofInt 16 * s).toInt = 16 * s.toInt := zt_mul (by decide) (by omega)
    have i2 : (Int32.ofInt 2 * H.2.1 72 67).toInt = 2 * (H.2.1 72 67).toInt := zt_mul (by decide) (by omega)
    have i3 : (Int32.ofInt 16 * s + Int32.ofInt 2 * H.2.1 72 67).toInt = 16 * s.toInt + 2 * (H.2.1 72 67).toInt := by rw [zq_add (by rw [i1, i2]; omega) (by rw [i1, i2]; omega), i1, i2]
    have i4 : (Int32.ofInt 16 * s + Int32.ofInt 2 * H.2.1 72 67 + Int32.ofInt 1).toInt = 16 * s.toInt + 2 * (H.2.1 72 67).toInt + 1 := by rw [zt_add (by decide) (by omega), i3]
    have i5 : (Int32.ofInt 16 * s + Int32.ofInt 2 * H.2.1 72 67 + Int32.ofInt 1).toInt.toNat = 16 * s.toInt.toNat + 2 * (H.2.1 72 67).toInt.toNat + 1 := by omega
    have i6 : (Int32.ofInt 16 * s + Int32.ofInt 2 * H.2.1 72 67).toInt.toNat = 16 * s.toInt.toNat + 2 * (H.2.1 72 67).toInt.toNat := by omega
    refine zw_ld (n := 1) (k := 0) (f := zp_isR) (pc' := 80) rfl rfl l0 rfl rfl ?_
    refine zw_gI (q := 72) (pc' := 83) W rfl rfl rfl rfl rfl rfl ?_
    refine zw_ld (n := 1) (k := 0) (f := zp_isR) (pc' := 84) rfl rfl l0 rfl rfl ?_
    refine zw_gR (q := 72) (pc' := 87) W rfl rfl rfl rfl (W.2 72 15 _ rfl) rfl ?_
    refine zw_s (pc' := 89) rfl rfl ?_
    refine zw_ld (n := 1) (k := 1) (f := zp_isI) (pc' := 90) rfl rfl l1 rfl rfl ?_
    refine zw_imul (pc' := 91) rfl rfl ?_
    refine zw_s (pc' := 92) rfl rfl ?_
    refine zw_ld (n := 1) (k := 0) (f := zp_isR) (pc' := 93) rfl rfl l0 rfl rfl ?_
    refine zw_gI (q := 72) (pc' := 96) W rfl rfl rfl rfl rfl rfl ?_
    refine zw_imul (pc' := 97) rfl rfl ?_
    refine zw_iadd (pc' := 98) rfl rfl ?_
    refine zw_s (pc' := 99) rfl rfl ?_
    refine zw_iadd (pc' := 100) rfl rfl ?_
    refine zw_ia (q := 75) (pc' := 101) W rfl rfl (by decide) (⟨by omega, by show _ < ((128 : Nat) : Int); omega⟩) rfl rfl ?_
    refine zw_bge2 (g := 164) (pc' := 104) rfl rfl rfl rfl rfl (fun h1 => ?_) (fun h1 => ?_)
    · exact hA H W (xFs_r H) ⟨rfl, rfl, rfl, he, rfl⟩
    · have h1 : (H.2.1 72 68).toInt < (H.2.1 75 (Int32.ofInt 16 * s + Int32.ofInt 2 * H.2.1 72 67 + Int32.ofInt 1).toInt.toNat).toInt := h1
      rw [i5] at h1
      omega
  | succ n ih =>
    intro H lv W hR hc he hk h5 hn l0 l1 hA hN
    have i1 : (Int32.ofInt 16 * s).toInt = 16 * s.toInt := zt_mul (by decide) (by omega)
    have i2 : (Int32.ofInt 2 * H.2.1 72 67).toInt = 2 * (H.2.1 72 67).toInt := zt_mul (by decide) (by omega)
    have i3 : (Int32.ofInt 16 * s + Int32.ofInt 2 * H.2.1 72 67).toInt = 16 * s.toInt + 2 * (H.2.1 72 67).toInt := by rw [zq_add (by rw [i1, i2]; omega) (by rw [i1, i2]; omega), i1, i2]
    have i4 : (Int32.ofInt 16 * s + Int32.ofInt 2 * H.2.1 72 67 + Int32.ofInt 1).toInt = 16 * s.toInt + 2 * (H.2.1 72 67).toInt + 1 := by rw [zt_add (by decide) (by omega), i3]
    have i5 : (Int32.ofInt 16 * s + Int32.ofInt 2 * H.2.1 72 67 + Int32.ofInt 1).toInt.toNat = 16 * s.toInt.toNat + 2 * (H.2.1 72 67).toInt.toNat + 1 := by omega
    have i6 : (Int32.ofInt 16 * s + Int32.ofInt 2 * H.2.1 72 67).toInt.toNat = 16 * s.toInt.toNat + 2 * (H.2.1 72 67).toInt.toNat := by omega
    refine zw_ld (n := 1) (k := 0) (f := zp_isR) (pc' := 80) rfl rfl l0 rfl rfl ?_
    refine zw_gI (q := 72) (pc' := 83) W rfl rfl rfl rfl rfl rfl ?_
    refine zw_ld (n := 1) (k := 0) (f := zp_isR) (pc' := 84) rfl rfl l0 rfl rfl ?_
    refine zw_gR (q := 72) (pc' := 87) W rfl rfl rfl rfl (W.2 72 15 _ rfl) rfl ?_
    refine zw_s (pc' := 89) rfl rfl ?_
    refine zw_ld (n := 1) (k := 1) (f := zp_isI) (pc' := 90) rfl rfl l1 rfl rfl ?_
    refine zw_imul (pc' := 91) rfl rfl ?_
    refine zw_s (pc' := 92) rfl rfl ?_
    refine zw_ld (n := 1) (k := 0) (f := zp_isR) (pc' := 93) rfl rfl l0 rfl rfl ?_
    refine zw_gI (q := 72) (pc' := 96) W rfl rfl rfl rfl rfl rfl ?_
    refine zw_imul (pc' := 97) rfl rfl ?_
    refine zw_iadd (pc' := 98) rfl rfl ?_
    refine zw_s (pc' := 99) rfl rfl ?_
    refine zw_iadd (pc' := 100) rfl rfl ?_
    refine zw_ia (q := 75) (pc' := 101) W rfl rfl (by decide) (⟨by omega, by show _ < ((128 : Nat) : Int); omega⟩) rfl rfl ?_
    refine zw_bge2 (g := 164) (pc' := 104) rfl rfl rfl rfl rfl (fun h1 => ?_) (fun h1 => ?_)
    · have h1 : (H.2.1 75 (Int32.ofInt 16 * s + Int32.ofInt 2 * H.2.1 72 67 + Int32.ofInt 1).toInt.toNat).toInt ≤ (H.2.1 72 68).toInt := h1
      rw [i5] at h1
      omega
    · refine zw_ld (n := 1) (k := 0) (f := zp_isR) (pc' := 105) rfl rfl l0 rfl rfl ?_
      refine zw_ld (n := 1) (k := 0) (f := zp_isR) (pc' := 106) rfl rfl l0 rfl rfl ?_
      refine zw_ld (n := 1) (k := 0) (f := zp_isR) (pc' := 107) rfl rfl l0 rfl rfl ?_
      refine zw_gR (q := 72) (pc' := 110) W rfl rfl rfl rfl (W.2 72 15 _ rfl) rfl ?_
      refine zw_s (pc' := 112) rfl rfl ?_
      refine zw_ld (n := 1) (k := 1) (f := zp_isI) (pc' := 113) rfl rfl l1 rfl rfl ?_
      refine zw_imul (pc' := 114) rfl rfl ?_
      refine zw_s (pc' := 115) rfl rfl ?_
      refine zw_ld (n := 1) (k := 0) (f := zp_isR) (pc' := 116) rfl rfl l0 rfl rfl ?_
      refine zw_gI (q := 72) (pc' := 119) W rfl rfl rfl rfl rfl rfl ?_
      refine zw_imul (pc' := 120) rfl rfl ?_
      refine zw_iadd (pc' := 121) rfl rfl ?_
      refine zw_ia (q := 75) (pc' := 122) W rfl rfl (by decide) (⟨by omega, by show _ < ((128 : Nat) : Int); omega⟩) rfl rfl ?_
      refine zw_ld (n := 1) (k := 0) (f := zp_isR) (pc' := 123) rfl rfl l0 rfl rfl ?_
      refine zw_gI (q := 72) (pc' := 126) W rfl rfl rfl rfl rfl rfl ?_
      refine zw_s (pc' := 127) rfl rfl ?_
      obtain ⟨_, q1, H1, rfl, W1, q2, q3⟩ := xr_st1 (L := L) (σ := σ) (d := d) (x1 := (H.2.1 75 (16 * s.toInt.toNat + 2 * (H.2.1 72 67).toInt.toNat))) (x2 := H.2.1 72 69) W hS hR hc
      have hb := xSt_b (hr := (H.2.1 72 69).toInt) (d := (H.2.1 75 (16 * s.toInt.toNat + 2 * (H.2.1 72 67).toInt.toNat)).toInt) (t := true) hS hc
      have ho := xSt_o (hr := (H.2.1 72 69).toInt) (d := (H.2.1 75 (16 * s.toInt.toNat + 2 * (H.2.1 72 67).toInt.toNat)).toInt) (t := true) hS hc
      rw [i6]
      refine zw_c (pc' := 130) (zw_cv (q := 72) (Y := zm_221) W.1 rfl rfl zm_221_t rfl rfl) rfl rfl rfl rfl rfl (q1) ?_
      refine zw_pI (q := 72) (pc' := 133) W1 rfl rfl rfl rfl rfl rfl ?_
      refine zw_ld (n := 1) (k := 0) (f := zp_isR) (pc' := 134) rfl rfl l0 rfl rfl ?_
      refine zw_gI (q := 72) (pc' := 137) (zw_W_I W1) rfl rfl rfl rfl zw_eq rfl ?_
      have fr : xFs 64 69 H (zw_I H1 72 66 (Int32.ofInt (xSt S (H.2.1 72 64).toInt (H.2.1 72 69).toInt (H.2.1 75 (16 * s.toInt.toNat + 2 * (H.2.1 72 67).toInt.toNat)).toInt true).1)) := xFs_I (xFs_m q2 (by decide) (by decide)) (by decide) (by decide)
      have g64 : (zw_I H1 72 66 (Int32.ofInt (xSt S (H.2.1 72 64).toInt (H.2.1 72 69).toInt (H.2.1 75 (16 * s.toInt.toNat + 2 * (H.2.1 72 67).toInt.toNat)).toInt true).1)).2.1 72 64 = Int32.ofInt (xSt S (H.2.1 72 64).toInt (H.2.1 72 69).toInt (H.2.1 75 (16 * s.toInt.toNat + 2 * (H.2.1 72 67).toInt.toNat)).toInt true).2 := (zw_ne rfl rfl).trans q3
      have g69 : (zw_I H1 72 66 (Int32.ofInt (xSt S (H.2.1 72 64).toInt (H.2.1 72 69).toInt (H.2.1 75 (16 * s.toInt.toNat + 2 * (H.2.1 72 67).toInt.toNat)).toInt true).1)).2.1 72 69 = H.2.1 72 69 := (zw_ne rfl rfl).trans (q2.2.2.1 72 69 (by decide))
      have g68 : (zw_I H1 72 66 (Int32.ofInt (xSt S (H.2.1 72 64).toInt (H.2.1 72 69).toInt (H.2.1 75 (16 * s.toInt.toNat + 2 * (H.2.1 72 67).toInt.toNat)).toInt true).1)).2.1 72 68 = H.2.1 72 68 := (zw_ne rfl rfl).trans (q2.2.2.1 72 68 (by decide))
      have g67 : (zw_I H1 72 66 (Int32.ofInt (xSt S (H.2.1 72 64).toInt (H.2.1 72 69).toInt (H.2.1 75 (16 * s.toInt.toNat + 2 * (H.2.1 72 67).toInt.toNat)).toInt true).1)).2.1 72 67 = H.2.1 72 67 := (zw_ne rfl rfl).trans (q2.2.2.1 72 67 (by decide))
      refine zw_beq1 (g := 141) (pc' := 140) rfl rfl rfl rfl (fun h2 => ?_) (fun h2 => ?_)
      · have h2 : (Int32.ofInt (xSt S (H.2.1 72 64).toInt (H.2.1 72 69).toInt (H.2.1 75 (16 * s.toInt.toNat + 2 * (H.2.1 72 67).toInt.toNat)).toInt true).1).toInt = 0 := h2
        rw [ho.1] at h2
        refine xr_sa141 (zw_W_I W1) l0 l1 ?_
        have fr2 : xFs 64 69 H (zw_I (zw_I (zw_I H1 72 66 (Int32.ofInt (xSt S (H.2.1 72 64).toInt (H.2.1 72 69).toInt (H.2.1 75 (16 * s.toInt.toNat + 2 * (H.2.1 72 67).toInt.toNat)).toInt true).1)) 72 69 ((zw_I H1 72 66 (Int32.ofInt (xSt S (H.2.1 72 64).toInt (H.2.1 72 69).toInt (H.2.1 75 (16 * s.toInt.toNat + 2 * (H.2.1 72 67).toInt.toNat)).toInt true).1)).2.1 72 69 + Int32.ofInt 1)) 72 68 ((zw_I H1 72 66 (Int32.ofInt (xSt S (H.2.1 72 64).toInt (H.2.1 72 69).toInt (H.2.1 75 (16 * s.toInt.toNat + 2 * (H.2.1 72 67).toInt.toNat)).toInt true).1)).2.1 72 68 + Int32.ofInt 1)) := xFs_I (xFs_I fr (by decide) (by decide)) (by decide) (by decide)
        have k64 : (zw_I (zw_I (zw_I H1 72 66 (Int32.ofInt (xSt S (H.2.1 72 64).toInt (H.2.1 72 69).toInt (H.2.1 75 (16 * s.toInt.toNat + 2 * (H.2.1 72 67).toInt.toNat)).toInt true).1)) 72 69 ((zw_I H1 72 66 (Int32.ofInt (xSt S (H.2.1 72 64).toInt (H.2.1 72 69).toInt (H.2.1 75 (16 * s.toInt.toNat + 2 * (H.2.1 72 67).toInt.toNat)).toInt true).1)).2.1 72 69 + Int32.ofInt 1)) 72 68 ((zw_I H1 72 66 (Int32.ofInt (xSt S (H.2.1 72 64).toInt (H.2.1 72 69).toInt (H.2.1 75 (16 * s.toInt.toNat + 2 * (H.2.1 72 67).toInt.toNat)).toInt true).1)).2.1 72 68 + Int32.ofInt 1)).2.1 72 64 = Int32.ofInt (xSt S (H.2.1 72 64).toInt (H.2.1 72 69).toInt (H.2.1 75 (16 * s.toInt.toNat + 2 * (H.2.1 72 67).toInt.toNat)).toInt true).2 := (zw_ne (zw_ne rfl rfl) rfl).trans g64
        have k69 : (zw_I (zw_I (zw_I H1 72 66 (Int32.ofInt (xSt S (H.2.1 72 64).toInt (H.2.1 72 69).toInt (H.2.1 75 (16 * s.toInt.toNat + 2 * (H.2.1 72 67).toInt.toNat)).toInt true).1)) 72 69 ((zw_I H1 72 66 (Int32.ofInt (xSt S (H.2.1 72 64).toInt (H.2.1 72 69).toInt (H.2.1 75 (16 * s.toInt.toNat + 2 * (H.2.1 72 67).toInt.toNat)).toInt true).1)).2.1 72 69 + Int32.ofInt 1)) 72 68 ((zw_I H1 72 66 (Int32.ofInt (xSt S (H.2.1 72 64).toInt (H.2.1 72 69).toInt (H.2.1 75 (16 * s.toInt.toNat + 2 * (H.2.1 72 67).toInt.toNat)).toInt true).1)).2.1 72 68 + Int32.ofInt 1)).2.1 72 69 = H.2.1 72 69 + Int32.ofInt 1 := (zw_ne zw_eq rfl).trans (congrArg (fun z : Int32 => z + Int32.ofInt 1) g69)
        have k68 : (zw_I (zw_I (zw_I H1 72 66 (Int32.ofInt (xSt S (H.2.1 72 64).toInt (H.2.1 72 69).toInt (H.2.1 75 (16 * s.toInt.toNat + 2 * (H.2.1 72 67).toInt.toNat)).toInt true).1)) 72 69 ((zw_I H1 72 66 (Int32.ofInt (xSt S (H.2.1 72 64).toInt (H.2.1 72 69).toInt (H.2.1 75 (16 * s.toInt.toNat + 2 * (H.2.1 72 67).toInt.toNat)).toInt true).1)).2.1 72 69 + Int32.ofInt 1)) 72 68 ((zw_I H1 72 66 (Int32.ofInt (xSt S (H.2.1 72 64).toInt (H.2.1 72 69).toInt (H.2.1 75 (16 * s.toInt.toNat + 2 * (H.2.1 72 67).toInt.toNat)).toInt true).1)).2.1 72 68 + Int32.ofInt 1)).2.1 72 68 = H.2.1 72 68 + Int32.ofInt 1 := zw_eq.trans (congrArg (fun z : Int32 => z + Int32.ofInt 1) g68)
        have k67 : (zw_I (zw_I (zw_I H1 72 66 (Int32.ofInt (xSt S (H.2.1 72 64).toInt (H.2.1 72 69).toInt (H.2.1 75 (16 * s.toInt.toNat + 2 * (H.2.1 72 67).toInt.toNat)).toInt true).1)) 72 69 ((zw_I H1 72 66 (Int32.ofInt (xSt S (H.2.1 72 64).toInt (H.2.1 72 69).toInt (H.2.1 75 (16 * s.toInt.toNat + 2 * (H.2.1 72 67).toInt.toNat)).toInt true).1)).2.1 72 69 + Int32.ofInt 1)) 72 68 ((zw_I H1 72 66 (Int32.ofInt (xSt S (H.2.1 72 64).toInt (H.2.1 72 69).toInt (H.2.1 75 (16 * s.toInt.toNat + 2 * (H.2.1 72 67).toInt.toNat)).toInt true).1)).2.1 72 68 + Int32.ofInt 1)).2.1 72 67 = H.2.1 72 67 := (zw_ne (zw_ne rfl rfl) rfl).trans g67
        have k66 : (zw_I (zw_I (zw_I H1 72 66 (Int32.ofInt (xSt S (H.2.1 72 64).toInt (H.2.1 72 69).toInt (H.2.1 75 (16 * s.toInt.toNat + 2 * (H.2.1 72 67).toInt.toNat)).toInt true).1)) 72 69 ((zw_I H1 72 66 (Int32.ofInt (xSt S (H.2.1 72 64).toInt (H.2.1 72 69).toInt (H.2.1 75 (16 * s.toInt.toNat + 2 * (H.2.1 72 67).toInt.toNat)).toInt true).1)).2.1 72 69 + Int32.ofInt 1)) 72 68 ((zw_I H1 72 66 (Int32.ofInt (xSt S (H.2.1 72 64).toInt (H.2.1 72 69).toInt (H.2.1 75 (16 * s.toInt.toNat + 2 * (H.2.1 72 67).toInt.toNat)).toInt true).1)).2.1 72 68 + Int32.ofInt 1)).2.1 72 66 = Int32.ofInt 0 := (zw_ne (zw_ne zw_eq rfl) rfl).trans (congrArg Int32.ofInt h2)
        have km : ∀ j, (zw_I (zw_I (zw_I H1 72 66 (Int32.ofInt (xSt S (H.2.1 72 64).toInt (H.2.1 72 69).toInt (H.2.1 75 (16 * s.toInt.toNat + 2 * (H.2.1 72 67).toInt.toNat)).toInt true).1)) 72 69 ((zw_I H1 72 66 (Int32.ofInt (xSt S (H.2.1 72 64).toInt (H.2.1 72 69).toInt (H.2.1 75 (16 * s.toInt.toNat + 2 * (H.2.1 72 67).toInt.toNat)).toInt true).1)).2.1 72 69 + Int32.ofInt 1)) 72 68 ((zw_I H1 72 66 (Int32.ofInt (xSt S (H.2.1 72 64).toInt (H.2.1 72 69).toInt (H.2.1 75 (16 * s.toInt.toNat + 2 * (H.2.1 72 67).toInt.toNat)).toInt true).1)).2.1 72 68 + Int32.ofInt 1)).2.1 75 j = H.2.1 75 j := fun j => fr2.2.2.1 75 j (fun h9 => absurd h9.1 (by decide))
        have ei : (H.2.1 72 68 + Int32.ofInt 1).toInt = (H.2.1 72 68).toInt + 1 := zw_p1 (by have h9 : (H.2.1 75 (16 * s.toInt.toNat + 2 * (H.2.1 72 67).toInt.toNat + 1)).toInt ≤ 2147483647 := Int32.toInt_le _; omega)
        refine ih (zw_I (zw_I (zw_I H1 72 66 (Int32.ofInt (xSt S (H.2.1 72 64).toInt (H.2.1 72 69).toInt (H.2.1 75 (16 * s.toInt.toNat + 2 * (H.2.1 72 67).toInt.toNat)).toInt true).1)) 72 69 ((zw_I H1 72 66 (Int32.ofInt (xSt S (H.2.1 72 64).toInt (H.2.1 72 69).toInt (H.2.1 75 (16 * s.toInt.toNat + 2 * (H.2.1 72 67).toInt.toNat)).toInt true).1)).2.1 72 69 + Int32.ofInt 1)) 72 68 ((zw_I H1 72 66 (Int32.ofInt (xSt S (H.2.1 72 64).toInt (H.2.1 72 69).toInt (H.2.1 75 (16 * s.toInt.toNat + 2 * (H.2.1 72 67).toInt.toNat)).toInt true).1)).2.1 72 68 + Int32.ofInt 1)) lv (zw_W_I (zw_W_I (zw_W_I W1))) (xSR_f fr2 (by decide) hR) (by rw [k64, ho.2]; exact hb.1) k66 (by rw [k67]; exact hk) (by rw [k68]; omega) (by rw [k67, k68, km]; omega) l0 l1 (fun H2 w1 w2 w3 => ?_) (fun H2 w1 w2 w3 w4 => ?_)
        · rw [k64, k67, k68, k69, km] at w3
          rw [xMk_y h2] at hA
          exact hA H2 w1 (xFs_t fr2 w2) w3
        · rw [k64, k67, k68, k69, km] at w3 w4
          rw [xMk_y h2] at hN
          exact hN H2 w1 (xFs_t fr2 w2) w3 w4
      · have h2 : ¬ (Int32.ofInt (xSt S (H.2.1 72 64).toInt (H.2.1 72 69).toInt (H.2.1 75 (16 * s.toInt.toNat + 2 * (H.2.1 72 67).toInt.toNat)).toInt true).1).toInt = 0 := h2
        have h3 : ¬ (xSt S (H.2.1 72 64).toInt (H.2.1 72 69).toInt (H.2.1 75 (16 * s.toInt.toNat + 2 * (H.2.1 72 67).toInt.toNat)).toInt true).1 = 0 := fun h9 => h2 (ho.1.trans h9)
        rw [xMk_n h3] at hN
        refine zw_rn rfl rfl ?_
        exact hN _ (zw_W_I W1) fr h2 ⟨⟨g64, g69, zw_eq, g68⟩, g67⟩

theorem xr_saV {L : Nat} {σ : Nat → Int32} {d : Nat} {S : xSea} {P : zp_X → Prop} {H0 : zp_H} {s : Int32} (hS : xOk S) (hs : 0 ≤ s.toInt ∧ s.toInt < 8) (hm : 0 ≤ (H0.2.1 74 (4 * s.toInt.toNat + 2)).toInt ∧ (H0.2.1 74 (4 * s.toInt.toNat + 2)).toInt ≤ 8) : ∀ (n : Nat) (H : zp_H) (lv : zp_LV), zw_W H → xFs 64 71 H0 H → xSR H S → xIn S (H.2.1 72 64).toInt → H.2.1 72 66 = Int32.ofInt 0 → 0 ≤ (H.2.1 72 67).toInt → (H.2.1 72 67).toInt + n = (H0.2.1 74 (4 * s.toInt.toNat + 2)).toInt → zp_get lv 0 = some (.inr (.inr (some 73))) → zp_get lv 1 = some (.inl s) → (∀ H1, zw_W H1 → xFs 64 71 H H1 → xR7 H1 (xVy S (fun j => H0.2.1 75 (16 * s.toInt.toNat + 2 * j)) (fun j => H0.2.1 75 (16 * s.toInt.toNat + 2 * j + 1)) n (H.2.1 72 67) (H.2.1 72 64) (H.2.1 72 69)) → P (.inl none, H1)) → zs_Safe L σ P zm_220 [] (d + 2) (46, lv, [], H, (0, 0)) := by
  intro n
  induction n with
  | zero =>
    intro H lv W hF hR hc he hk hn l0 l1 hP
    have em : H.2.1 74 (4 * s.toInt.toNat + 2) = (H0.2.1 74 (4 * s.toInt.toNat + 2)) := hF.2.2.1 74 _ (fun h9 => absurd h9.1 (by decide))
    refine zw_ld (n := 1) (k := 0) (f := zp_isR) (pc' := 47) rfl rfl l0 rfl rfl ?_
    refine zw_gI (q := 72) (pc' := 50) W rfl rfl rfl rfl rfl rfl ?_
    refine zw_ld (n := 1) (k := 0) (f := zp_isR) (pc' := 51) rfl rfl l0 rfl rfl ?_
    refine zw_ld (n := 1) (k := 1) (f := zp_isI) (pc' := 52) rfl rfl l1 rfl rfl ?_
    refine zw_c (pc' := 55) (zw_cv (q := 72) (Y := zm_212) W.1 rfl rfl zm_212_t rfl rfl) rfl rfl rfl rfl rfl (zq_marks W ⟨hs.1, by omega⟩) ?_
    rw [em]
    refine zw_bge2 (g := 177) (pc' := 58) rfl rfl rfl rfl rfl (fun h1 => ?_) (fun h1 => ?_)
    · have ei : H.2.1 72 67 = (H0.2.1 74 (4 * s.toInt.toNat + 2)) := Int32.toInt_inj.mp (by omega)
      refine zw_ld (n := 1) (k := 0) (f := zp_isR) (pc' := 178) rfl rfl l0 rfl rfl ?_
      refine zw_s (pc' := 179) rfl rfl ?_
      refine zw_pI (q := 72) (pc' := 182) W rfl rfl rfl rfl rfl rfl ?_
      refine zw_rn rfl rfl ?_
      exact hP _ (zw_W_I W) (xFs_I (xFs_r H) (by decide) (by decide)) ⟨zw_ne rfl rfl, zw_ne rfl rfl, (zw_ne rfl rfl).trans he, zw_eq, (zw_ne rfl rfl), fun h9 => absurd (show (Int32.ofInt 0).toInt = 0 by decide) h9⟩
    · omega
  | succ n ih =>
    intro H lv W hF hR hc he hk hn l0 l1 hP
    have em : H.2.1 74 (4 * s.toInt.toNat + 2) = (H0.2.1 74 (4 * s.toInt.toNat + 2)) := hF.2.2.1 74 _ (fun h9 => absurd h9.1 (by decide))
    refine zw_ld (n := 1) (k := 0) (f := zp_isR) (pc' := 47) rfl rfl l0 rfl rfl ?_
    refine zw_gI (q := 72) (pc' := 50) W rfl rfl rfl rfl rfl rfl ?_
    refine zw_ld (n := 1) (k := 0) (f := zp_isR) (pc' := 51) rfl rfl l0 rfl rfl ?_
    refine zw_ld (n := 1) (k := 1) (f := zp_isI) (pc' := 52) rfl rfl l1 rfl rfl ?_
    refine zw_c (pc' := 55) (zw_cv (q := 72) (Y := zm_212) W.1 rfl rfl zm_212_t rfl rfl) rfl rfl rfl rfl rfl (zq_marks W ⟨hs.1, by omega⟩) ?_
    rw [em]
    refine zw_bge2 (g := 177) (pc' := 58) rfl rfl rfl rfl rfl (fun h1 => ?_) (fun h1 => ?_)
    · omega
    · refine zw_ld (n := 1) (k := 0) (f := zp_isR) (pc' := 59) rfl rfl l0 rfl rfl ?_
      refine zw_ld (n := 1) (k := 0) (f := zp_isR) (pc' := 60) rfl rfl l0 rfl rfl ?_
      refine zw_gI (q := 72) (pc' := 63) W rfl rfl rfl rfl rfl rfl ?_
      refine zw_pI (q := 72) (pc' := 66) W rfl rfl rfl rfl rfl rfl ?_
      refine zw_ld (n := 1) (k := 0) (f := zp_isR) (pc' := 67) rfl rfl l0 rfl rfl ?_
      refine zw_ld (n := 1) (k := 0) (f := zp_isR) (pc' := 68) rfl rfl l0 rfl rfl ?_
      refine zw_gI (q := 72) (pc' := 71) (zw_W_I W) rfl rfl rfl rfl (zw_ne rfl rfl) rfl ?_
      refine zw_pI (q := 72) (pc' := 74) (zw_W_I W) rfl rfl rfl rfl rfl rfl ?_
      refine zw_ld (n := 1) (k := 0) (f := zp_isR) (pc' := 75) rfl rfl l0 rfl rfl ?_
      refine zw_s (pc' := 76) rfl rfl ?_
      refine zw_pI (q := 72) (pc' := 79) (zw_W_I (zw_W_I W)) rfl rfl rfl rfl rfl rfl ?_
      have e64 : (zw_I (zw_I (zw_I H 72 70 (H.2.1 72 64)) 72 71 (H.2.1 72 69)) 72 68 (Int32.ofInt 0)).2.1 72 64 = H.2.1 72 64 := zw_ne (zw_ne (zw_ne rfl rfl) rfl) rfl
      have e69 : (zw_I (zw_I (zw_I H 72 70 (H.2.1 72 64)) 72 71 (H.2.1 72 69)) 72 68 (Int32.ofInt 0)).2.1 72 69 = H.2.1 72 69 := zw_ne (zw_ne (zw_ne rfl rfl) rfl) rfl
      have e66 : (zw_I (zw_I (zw_I H 72 70 (H.2.1 72 64)) 72 71 (H.2.1 72 69)) 72 68 (Int32.ofInt 0)).2.1 72 66 = H.2.1 72 66 := zw_ne (zw_ne (zw_ne rfl rfl) rfl) rfl
      have e67 : (zw_I (zw_I (zw_I H 72 70 (H.2.1 72 64)) 72 71 (H.2.1 72 69)) 72 68 (Int32.ofInt 0)).2.1 72 67 = H.2.1 72 67 := zw_ne (zw_ne (zw_ne rfl rfl) rfl) rfl
      have e70 : (zw_I (zw_I (zw_I H 72 70 (H.2.1 72 64)) 72 71 (H.2.1 72 69)) 72 68 (Int32.ofInt 0)).2.1 72 70 = H.2.1 72 64 := zw_ne (zw_ne zw_eq rfl) rfl
      have e71 : (zw_I (zw_I (zw_I H 72 70 (H.2.1 72 64)) 72 71 (H.2.1 72 69)) 72 68 (Int32.ofInt 0)).2.1 72 71 = H.2.1 72 69 := zw_ne zw_eq rfl
      have e68 : (zw_I (zw_I (zw_I H 72 70 (H.2.1 72 64)) 72 71 (H.2.1 72 69)) 72 68 (Int32.ofInt 0)).2.1 72 68 = Int32.ofInt 0 := zw_eq
      have fr : xFs 64 71 H (zw_I (zw_I (zw_I H 72 70 (H.2.1 72 64)) 72 71 (H.2.1 72 69)) 72 68 (Int32.ofInt 0)) := xFs_I (xFs_I (xFs_I (xFs_r H) (by decide) (by decide)) (by decide) (by decide)) (by decide) (by decide)
      have em2 : ∀ j, (zw_I (zw_I (zw_I H 72 70 (H.2.1 72 64)) 72 71 (H.2.1 72 69)) 72 68 (Int32.ofInt 0)).2.1 75 j = H0.2.1 75 j := fun j => (fr.2.2.1 75 j (fun h9 => absurd h9.1 (by decide))).trans (hF.2.2.1 75 j (fun h9 => absurd h9.1 (by decide)))
      have hb := xMk_b (S := S) (d := (H0.2.1 75 (16 * s.toInt.toNat + 2 * (H.2.1 72 67).toInt.toNat)).toInt) (t := true) hS (H0.2.1 75 (16 * s.toInt.toNat + 2 * (H.2.1 72 67).toInt.toNat + 1)).toInt.toNat (Int32.ofInt 0) (H.2.1 72 64) (H.2.1 72 69) hc
      have e0 : (Int32.ofInt 0).toInt = 0 := by decide
      have ei : (H.2.1 72 67 + Int32.ofInt 1).toInt = (H.2.1 72 67).toInt + 1 := zw_p1 (by omega)
      refine xr_saL (S := S) (s := s) hS hs (H0.2.1 75 (16 * s.toInt.toNat + 2 * (H.2.1 72 67).toInt.toNat + 1)).toInt.toNat (zw_I (zw_I (zw_I H 72 70 (H.2.1 72 64)) 72 71 (H.2.1 72 69)) 72 68 (Int32.ofInt 0)) lv (zw_W_I (zw_W_I (zw_W_I W))) (xSR_f fr (by decide) hR) (by rw [e64]; exact hc) (e66.trans he) (by rw [e67]; omega) (by rw [e68, e0]; exact Int.le_refl 0) (by rw [e67, e68, em2, e0]; omega) l0 l1 (fun H1 W1 q2 q3 => ?_) (fun H1 W1 q2 q3 q4 => ?_)
      · rw [e64, e67, e68, e69, em2] at q3
        obtain ⟨r0, r1, r2, r3, r4⟩ := q3
        have fr2 : xFs 64 71 H (zw_I H1 72 67 (H1.2.1 72 67 + Int32.ofInt 1)) := xFs_I (xFs_t fr (xFs_m q2 (by decide) (by decide))) (by decide) (by decide)
        have g64 : (zw_I H1 72 67 (H1.2.1 72 67 + Int32.ofInt 1)).2.1 72 64 = H1.2.1 72 64 := zw_ne rfl rfl
        have g69 : (zw_I H1 72 67 (H1.2.1 72 67 + Int32.ofInt 1)).2.1 72 69 = H1.2.1 72 69 := zw_ne rfl rfl
        have g66 : (zw_I H1 72 67 (H1.2.1 72 67 + Int32.ofInt 1)).2.1 72 66 = Int32.ofInt 0 := (zw_ne rfl rfl).trans r3
        have g67 : (zw_I H1 72 67 (H1.2.1 72 67 + Int32.ofInt 1)).2.1 72 67 = H.2.1 72 67 + Int32.ofInt 1 := zw_eq.trans (congrArg (fun z : Int32 => z + Int32.ofInt 1) r4)
        refine zw_ld (n := 1) (k := 0) (f := zp_isR) (pc' := 165) rfl rfl l0 rfl rfl ?_
        refine zw_s (pc' := 166) rfl rfl ?_
        refine zw_gI (q := 72) (pc' := 169) W1 rfl rfl rfl rfl rfl rfl ?_
        refine zw_s (pc' := 170) rfl rfl ?_
        refine zw_iadd (pc' := 171) rfl rfl ?_
        refine zw_pI (q := 72) (pc' := 174) W1 rfl rfl rfl rfl rfl rfl ?_
        refine zw_s (pc' := 46) rfl rfl ?_
        refine ih _ _ (zw_W_I W1) (xFs_t hF fr2) (xSR_f fr2 (by decide) hR) (by rw [g64, r0]; exact hb.1) g66 (by rw [g67, ei]; omega) (by rw [g67, ei]; omega) l0 l1 (fun H2 w1 w2 w3 => hP H2 w1 (xFs_t fr2 w2) ?_)
        rw [xVy_y (S := S) (wy := (fun j => H0.2.1 75 (16 * s.toInt.toNat + 2 * j))) (st := (fun j => H0.2.1 75 (16 * s.toInt.toNat + 2 * j + 1))) (n := n) (k := H.2.1 72 67) rfl r2]
        rw [g64, g69, g67, r0, r1] at w3
        exact w3
      · rw [e64, e67, e68, e69, em2] at q3 q4
        obtain ⟨⟨r0, r1, r2, r3⟩, r4⟩ := q4
        refine hP H1 W1 (xFs_t fr (xFs_m q2 (by decide) (by decide))) ?_
        rw [xVy_n (S := S) (wy := (fun j => H0.2.1 75 (16 * s.toInt.toNat + 2 * j))) (st := (fun j => H0.2.1 75 (16 * s.toInt.toNat + 2 * j + 1))) (n := n) (k := H.2.1 72 67) rfl q3]
        exact ⟨r0, r1, r2, r3, r4, fun _ => ⟨(q2.2.2.1 72 70 (by decide)).trans e70, (q2.2.2.1 72 71 (by decide)).trans e71⟩⟩

theorem xr_sails {L : Nat} {σ : Nat → Int32} {d : Nat} {H : zp_H} {S : xSea} {s : Int32} (W : zw_W H) (hS : xOk S) (hR : xSR H S) (hs : 0 ≤ s.toInt ∧ s.toInt < 8) (hm : 0 ≤ (H.2.1 74 (4 * s.toInt.toNat + 2)).toInt ∧ (H.2.1 74 (4 * s.toInt.toNat + 2)).toInt ≤ 8) (hc : xIn S (H.2.1 74 (4 * s.toInt.toNat)).toInt) : ∃ X, zp_Call L σ (d + 3) 220 [.inr (.inr (some 73)), .inl s] H X ∧ ∃ H1, X = (.inl none, H1) ∧ zw_W H1 ∧ xFs 64 71 H H1 ∧ xR7 H1 (xVy S (fun j => H.2.1 75 (16 * s.toInt.toNat + 2 * j)) (fun j => H.2.1 75 (16 * s.toInt.toNat + 2 * j + 1)) (H.2.1 74 (4 * s.toInt.toNat + 2)).toInt.toNat (Int32.ofInt 0) (H.2.1 74 (4 * s.toInt.toNat)) (H.2.1 74 (4 * s.toInt.toNat + 1))) := by
  have j1 : (Int32.ofInt 4 * s).toInt = 4 * s.toInt := zt_mul (by decide) (by omega)
  have j2 : (Int32.ofInt 4 * s + Int32.ofInt 1).toInt = 4 * s.toInt + 1 := by rw [zt_add (by decide) (by omega), j1]
  have j3 : (Int32.ofInt 4 * s).toInt.toNat = 4 * s.toInt.toNat := by omega
  have j4 : (Int32.ofInt 4 * s + Int32.ofInt 1).toInt.toNat = 4 * s.toInt.toNat + 1 := by omega
  refine zw_met zm_220_t rfl rfl ?_
  refine zw_ld (n := 1) (k := 0) (f := zp_isR) (pc' := 1) rfl rfl rfl rfl rfl ?_
  refine zw_ld (n := 1) (k := 0) (f := zp_isR) (pc' := 2) rfl rfl rfl rfl rfl ?_
  refine zw_gR (q := 72) (pc' := 5) W rfl rfl rfl rfl (W.2 72 14 _ rfl) rfl ?_
  refine zw_s (pc' := 6) rfl rfl ?_
  refine zw_ld (n := 1) (k := 1) (f := zp_isI) (pc' := 7) rfl rfl rfl rfl rfl ?_
  refine zw_imul (pc' := 8) rfl rfl ?_
  refine zw_ia (q := 74) (pc' := 9) W rfl rfl (by decide) (⟨by omega, by show _ < ((32 : Nat) : Int); omega⟩) rfl rfl ?_
  refine zw_pI (q := 72) (pc' := 12) W rfl rfl rfl rfl rfl rfl ?_
  refine zw_ld (n := 1) (k := 0) (f := zp_isR) (pc' := 13) rfl rfl rfl rfl rfl ?_
  refine zw_ld (n := 1) (k := 0) (f := zp_isR) (pc' := 14) rfl rfl rfl rfl rfl ?_
  refine zw_gR (q := 72) (pc' := 17) (zw_W_I W) rfl rfl rfl rfl ((zw_W_I W).2 72 14 _ rfl) rfl ?_
  refine zw_s (pc' := 18) rfl rfl ?_
  refine zw_ld (n := 1) (k := 1) (f := zp_isI) (pc' := 19) rfl rfl rfl rfl rfl ?_
  refine zw_imul (pc' := 20) rfl rfl ?_
  refine zw_s (pc' := 21) rfl rfl ?_
  refine zw_iadd (pc' := 22) rfl rfl ?_
  refine zw_ia (q := 74) (pc' := 23) (zw_W_I W) rfl rfl (by decide) (⟨by omega, by show _ < ((32 : Nat) : Int); omega⟩) (zw_ne rfl rfl) rfl ?_
  refine zw_pI (q := 72) (pc' := 26) (zw_W_I W) rfl rfl rfl rfl rfl rfl ?_
  refine zw_ld (n := 1) (k := 0) (f := zp_isR) (pc' := 27) rfl rfl rfl rfl rfl ?_
  refine zw_s (pc' := 28) rfl rfl ?_
  refine zw_ld (n := 1) (k := 0) (f := zp_isR) (pc' := 29) rfl rfl rfl rfl rfl ?_
  refine zw_gI (q := 72) (pc' := 32) (zw_W_I (zw_W_I W)) rfl rfl rfl rfl (zw_ne zw_eq rfl) rfl ?_
  refine zw_lshl (pc' := 33) rfl rfl ?_
  refine zw_pL (q := 72) (pc' := 36) (zw_W_I (zw_W_I W)) rfl rfl rfl rfl rfl rfl ?_
  refine zw_ld (n := 1) (k := 0) (f := zp_isR) (pc' := 37) rfl rfl rfl rfl rfl ?_
  refine zw_s (pc' := 38) rfl rfl ?_
  refine zw_pI (q := 72) (pc' := 41) (zw_W_J (zw_W_I (zw_W_I W))) rfl rfl rfl rfl rfl rfl ?_
  refine zw_ld (n := 1) (k := 0) (f := zp_isR) (pc' := 42) rfl rfl rfl rfl rfl ?_
  refine zw_s (pc' := 43) rfl rfl ?_
  refine zw_pI (q := 72) (pc' := 46) (zw_W_I (zw_W_J (zw_W_I (zw_W_I W)))) rfl rfl rfl rfl rfl rfl ?_
  rw [j3, j4]
  have fr : xFs 64 71 H (zw_I (zw_I (zw_J (zw_I (zw_I H 72 64 (H.2.1 74 (4 * s.toInt.toNat))) 72 69 (H.2.1 74 (4 * s.toInt.toNat + 1))) 72 65 (za_shl0 (Int64.ofNat 1) (H.2.1 74 (4 * s.toInt.toNat)))) 72 66 (Int32.ofInt 0)) 72 67 (Int32.ofInt 0)) := xFs_I (xFs_I (xFs_J (xFs_I (xFs_I (xFs_r H) (by decide) (by decide)) (by decide) (by decide))) (by decide) (by decide)) (by decide) (by decide)
  have g64 : (zw_I (zw_I (zw_J (zw_I (zw_I H 72 64 (H.2.1 74 (4 * s.toInt.toNat))) 72 69 (H.2.1 74 (4 * s.toInt.toNat + 1))) 72 65 (za_shl0 (Int64.ofNat 1) (H.2.1 74 (4 * s.toInt.toNat)))) 72 66 (Int32.ofInt 0)) 72 67 (Int32.ofInt 0)).2.1 72 64 = (H.2.1 74 (4 * s.toInt.toNat)) := zw_ne (zw_ne (zw_nj (zw_ne zw_eq rfl)) rfl) rfl
  have g69 : (zw_I (zw_I (zw_J (zw_I (zw_I H 72 64 (H.2.1 74 (4 * s.toInt.toNat))) 72 69 (H.2.1 74 (4 * s.toInt.toNat + 1))) 72 65 (za_shl0 (Int64.ofNat 1) (H.2.1 74 (4 * s.toInt.toNat)))) 72 66 (Int32.ofInt 0)) 72 67 (Int32.ofInt 0)).2.1 72 69 = (H.2.1 74 (4 * s.toInt.toNat + 1)) := zw_ne (zw_ne (zw_nj zw_eq) rfl) rfl
  have g66 : (zw_I (zw_I (zw_J (zw_I (zw_I H 72 64 (H.2.1 74 (4 * s.toInt.toNat))) 72 69 (H.2.1 74 (4 * s.toInt.toNat + 1))) 72 65 (za_shl0 (Int64.ofNat 1) (H.2.1 74 (4 * s.toInt.toNat)))) 72 66 (Int32.ofInt 0)) 72 67 (Int32.ofInt 0)).2.1 72 66 = Int32.ofInt 0 := zw_ne zw_eq rfl
  have g67 : (zw_I (zw_I (zw_J (zw_I (zw_I H 72 64 (H.2.1 74 (4 * s.toInt.toNat))) 72 69 (H.2.1 74 (4 * s.toInt.toNat + 1))) 72 65 (za_shl0 (Int64.ofNat 1) (H.2.1 74 (4 * s.toInt.toNat)))) 72 66 (Int32.ofInt 0)) 72 67 (Int32.ofInt 0)).2.1 72 67 = Int32.ofInt 0 := zw_eq
  have e0 : (Int32.ofInt 0).toInt = 0 := by decide
  refine xr_saV (S := S) (H0 := H) (s := s) hS hs hm (H.2.1 74 (4 * s.toInt.toNat + 2)).toInt.toNat (zw_I (zw_I (zw_J (zw_I (zw_I H 72 64 (H.2.1 74 (4 * s.toInt.toNat))) 72 69 (H.2.1 74 (4 * s.toInt.toNat + 1))) 72 65 (za_shl0 (Int64.ofNat 1) (H.2.1 74 (4 * s.toInt.toNat)))) 72 66 (Int32.ofInt 0)) 72 67 (Int32.ofInt 0)) _ (zw_W_I (zw_W_I (zw_W_J (zw_W_I (zw_W_I W))))) fr (xSR_f fr (by decide) hR) (by rw [g64]; exact hc) g66 (by rw [g67, e0]; exact Int.le_refl 0) (by rw [g67, e0]; omega) rfl rfl (fun H2 w1 w2 w3 => ⟨H2, rfl, w1, xFs_t fr w2, ?_⟩)
  rw [g64, g69, g67] at w3
  exact w3
end
section
/-! ===== voyage ===== -/
def zm_118 : za_MI := (yL_voyage, method_10_code, 5, (some FieldType.int), 13, 2, 12, [(0, 10, 13, 18)], za_i118)
theorem zm_118_t : za_MT 118 = some zm_118 := rfl
def zm_219 : za_MI := (yX12_voyage, prog_14_method_61_code, 3, (some FieldType.int), 12, 0, 0, [], za_i219)
theorem zm_219_t : za_MT 219 = some zm_219 := rfl
/-- the sea that both sides hold -/
def xSo (H : zp_H) : xSea := ((H.2.1 72 1).toInt, (H.2.1 72 2).toInt, H.2.2.1 72 12, fun k => if k < 64 then (H.2.1 73 k).toInt else -1)
theorem xSR_o (H : zp_H) : xSR H (xSo H) := ⟨rfl, rfl, rfl, fun k hk => (show _ = (if k < 64 then (H.2.1 73 k).toInt else -1) from (if_pos hk).symm)⟩
theorem xJ_S0 {t : Nat} {H : zp_H} (hJ : yJ 0 t H) : xOk (xSo H) ∧ xSC 2 H (xSo H) := by
  have hB := hJ.1.1.1
  obtain ⟨-, q2, q3, -, q5, -⟩ := hJ.1.2.2
  have e0 : H.2.1 2 0 = H.2.1 72 1 := q2 (0, 1) (by decide)
  have e1 : H.2.1 2 1 = H.2.1 72 2 := q2 (1, 2) (by decide)
  have e3 : H.2.2.1 2 3 = H.2.2.1 72 12 := q3
  have e5 : ∀ i, i < 64 → H.2.1 4 i = H.2.1 73 i := q5
  have b0 := zB_fr1 (zB_dn (zB_Bc hB)) (p := 2) (k := 0) (r := (2, 8)) rfl
  have b0 : 2 ≤ (H.2.1 2 0).toInt ∧ (H.2.1 2 0).toInt ≤ 8 := b0
  have b1 := zB_fr1 (zB_dn (zB_Bc hB)) (p := 2) (k := 1) (r := (2, 8)) rfl
  have b1 : 2 ≤ (H.2.1 2 1).toInt ∧ (H.2.1 2 1).toInt ≤ 8 := b1
  have hQ := hB.2.2.2.2.2.2.2
  refine ⟨⟨by show 2 ≤ (H.2.1 72 1).toInt ∧ (H.2.1 72 1).toInt ≤ 8; rw [← e0]; exact b0, by show 2 ≤ (H.2.1 72 2).toInt ∧ (H.2.1 72 2).toInt ≤ 8; rw [← e1]; exact b1, fun k => ?_⟩, congrArg Int32.toInt e0, congrArg Int32.toInt e1, e3, fun k hk => ?_, fun k hk => ?_⟩
  · show -1 ≤ (if k < 64 then (H.2.1 73 k).toInt else -1) ∧ (if k < 64 then (H.2.1 73 k).toInt else -1) ≤ 3
    by_cases hk : k < 64
    · rw [if_pos hk, ← e5 k hk]
      have b := zB_ar1 (zB_dn (zB_Bc hB)) (p := 4) (t := 0) (n := 64) (i := k) (r := (-1, 3)) rfl hk (by rw [show (zB_al zB_ar 4).1 = 1 from rfl, Nat.mod_one]; rfl)
      exact b
    · rw [if_neg hk]
      exact ⟨by decide, by decide⟩
  · show (H.2.1 4 k).toInt = (if k < 64 then (H.2.1 73 k).toInt else -1)
    rw [if_pos hk, e5 k hk]
  · exact hQ.1.2 k hk

theorem xJ_S3 {t : Nat} {H : zp_H} (hJ : yJ 3 t H) : xOk (xSo H) ∧ xSC 22 H (xSo H) := by
  have hB := hJ.1.1.1
  obtain ⟨-, q2, q3, -, q5, -⟩ := hJ.1.2.2
  have e0 : H.2.1 22 0 = H.2.1 72 1 := q2 (0, 1) (by decide)
  have e1 : H.2.1 22 1 = H.2.1 72 2 := q2 (1, 2) (by decide)
  have e3 : H.2.2.1 22 3 = H.2.2.1 72 12 := q3
  have e5 : ∀ i, i < 64 → H.2.1 24 i = H.2.1 73 i := q5
  have b0 := zB_fr1 (zB_dn (zB_Bc hB)) (p := 22) (k := 0) (r := (2, 8)) rfl
  have b0 : 2 ≤ (H.2.1 22 0).toInt ∧ (H.2.1 22 0).toInt ≤ 8 := b0
  have b1 := zB_fr1 (zB_dn (zB_Bc hB)) (p := 22) (k := 1) (r := (2, 8)) rfl
  have b1 : 2 ≤ (H.2.1 22 1).toInt ∧ (H.2.1 22 1).toInt ≤ 8 := b1
  have hQ := hB.2.2.2.2.2.2.2
  refine ⟨⟨by show 2 ≤ (H.2.1 72 1).toInt ∧ (H.2.1 72 1).toInt ≤ 8; rw [← e0]; exact b0, by show 2 ≤ (H.2.1 72 2).toInt ∧ (H.2.1 72 2).toInt ≤ 8; rw [← e1]; exact b1, fun k => ?_⟩, congrArg Int32.toInt e0, congrArg Int32.toInt e1, e3, fun k hk => ?_, fun k hk => ?_⟩
  · show -1 ≤ (if k < 64 then (H.2.1 73 k).toInt else -1) ∧ (if k < 64 then (H.2.1 73 k).toInt else -1) ≤ 3
    by_cases hk : k < 64
    · rw [if_pos hk, ← e5 k hk]
      have b := zB_ar1 (zB_dn (zB_Bc hB)) (p := 24) (t := 0) (n := 64) (i := k) (r := (-1, 3)) rfl hk (by rw [show (zB_al zB_ar 24).1 = 1 from rfl, Nat.mod_one]; rfl)
      exact b
    · rw [if_neg hk]
      exact ⟨by decide, by decide⟩
  · show (H.2.1 24 k).toInt = (if k < 64 then (H.2.1 73 k).toInt else -1)
    rw [if_pos hk, e5 k hk]
  · exact hQ.2.2 k hk
end
section
/-! ===== what all voyages teach ===== -/
def zm_34 : za_MI := (yX8_wreck, prog_10_method_7_code, 1, (some FieldType.long), 8, 0, 0, [], za_i34)
theorem zm_34_t : za_MT 34 = some zm_34 := rfl
def zm_37 : za_MI := (yX10_xOf, prog_12_method_5_code, 2, (some FieldType.int), 10, 0, 0, [], za_i37)
theorem zm_37_t : za_MT 37 = some zm_37 := rfl
def zm_39 : za_MI := (yX10_yOf, prog_12_method_6_code, 2, (some FieldType.int), 10, 0, 0, [], za_i39)
theorem zm_39_t : za_MT 39 = some zm_39 := rfl
/-- the voyage of a slate: the class's, the reference's -/
def xVyc (S : xSea) (cp : Nat) (H : zp_H) (s : Nat) : Int32 × Int32 × Int32 × Int32 × Int32 × Int32 × Int32 := xVy S (fun j => H.2.1 (cp + 5) (8 * s + j)) (fun j => H.2.1 (cp + 6) (8 * s + j)) (H.2.1 (cp + 3) s).toInt.toNat (Int32.ofInt 0) (H.2.1 (cp + 1) s) (H.2.1 (cp + 2) s)
def xVyr (S : xSea) (H : zp_H) (s : Nat) : Int32 × Int32 × Int32 × Int32 × Int32 × Int32 × Int32 := xVy S (fun j => H.2.1 75 (16 * s + 2 * j)) (fun j => H.2.1 75 (16 * s + 2 * j + 1)) (H.2.1 74 (4 * s + 2)).toInt.toNat (Int32.ofInt 0) (H.2.1 74 (4 * s)) (H.2.1 74 (4 * s + 1))
theorem xVyc_f {S : xSea} {cp s : Nat} {H H1 : zp_H} (h : ∀ p k, cp + 1 ≤ p → p ≤ cp + 6 → H1.2.1 p k = H.2.1 p k) : xVyc S cp H1 s = xVyc S cp H s := by
  have e1 : ∀ k, H1.2.1 (cp + 1) k = H.2.1 (cp + 1) k := fun k => h _ k (by omega) (by omega)
  have e2 : ∀ k, H1.2.1 (cp + 2) k = H.2.1 (cp + 2) k := fun k => h _ k (by omega) (by omega)
  have e3 : ∀ k, H1.2.1 (cp + 3) k = H.2.1 (cp + 3) k := fun k => h _ k (by omega) (by omega)
  have e5 : ∀ k, H1.2.1 (cp + 5) k = H.2.1 (cp + 5) k := fun k => h _ k (by omega) (by omega)
  have e6 : ∀ k, H1.2.1 (cp + 6) k = H.2.1 (cp + 6) k := fun k => h _ k (by omega) (by omega)
  unfold xVyc
  simp only [e1, e2, e3, e5, e6]
theorem xVyr_f {S : xSea} {s : Nat} {H H1 : zp_H} (h4 : ∀ k, H1.2.1 74 k = H.2.1 74 k) (h5 : ∀ k, H1.2.1 75 k = H.2.1 75 k) : xVyr S H1 s = xVyr S H s := by
  unfold xVyr
  simp only [h4, h5]
/-- wrecked; the rock as a bit -/
def xWr (r : Int32 × Int32 × Int32 × Int32 × Int32 × Int32 × Int32) : Bool := decide (r.2.2.1.toInt = 1 ∨ r.2.2.1.toInt = 2)
theorem xWr_t {r : Int32 × Int32 × Int32 × Int32 × Int32 × Int32 × Int32} : xWr r = true ↔ (r.2.2.1.toInt = 1 ∨ r.2.2.1.toInt = 2) := decide_eq_true_iff
def xWk (r : Int32 × Int32 × Int32 × Int32 × Int32 × Int32 × Int32) : Int64 := if xWr r = true then za_shl0 (Int64.ofNat 1) r.1 else Int64.ofNat 0
theorem x_mle {x w : Int} (h : 0 ≤ x) (hw : 0 ≤ w) : x % w ≤ x := by
  have a : w * (x / w) + x % w = x := Int.mul_ediv_add_emod _ _
  have b : 0 ≤ w * (x / w) := Int.mul_nonneg hw (Int.ediv_nonneg h hw)
  omega
theorem yc_xOf2 {L : Nat} {σ : Nat → Int32} {d : Nat} {H : zp_H} {x : Int32} (W : zw_W H) (hw : 2 ≤ (H.2.1 2 0).toInt) (hx : 0 ≤ x.toInt) : ∃ X, zp_Call L σ (d + 1) 37 [.inr (.inr (some 3)), .inl x] H X ∧ ∃ v : Int32, X = (.inl (some (.inl v)), H) ∧ v.toInt = x.toInt % (H.2.1 2 0).toInt := by
  have w0 : H.2.1 2 0 ≠ 0 := fun h9 => by
    have : (H.2.1 2 0).toInt = 0 := congrArg Int32.toInt h9
    omega
  refine zw_met zm_37_t rfl rfl ?_
  refine zw_ld (n := 1) (k := 0) (f := zp_isR) (pc' := 1) rfl rfl rfl rfl rfl ?_
  refine zw_gI (q := 2) (pc' := 4) W rfl rfl rfl rfl rfl rfl ?_
  refine zw_ble1 (g := 16) (pc' := 7) rfl rfl rfl rfl (fun h1 => ?_) (fun h1 => ?_)
  · have h1 : (H.2.1 2 0).toInt ≤ 0 := h1
    omega
  · refine zw_ld (n := 1) (k := 1) (f := zp_isI) (pc' := 8) rfl rfl rfl rfl rfl ?_
    refine zw_ld (n := 1) (k := 0) (f := zp_isR) (pc' := 9) rfl rfl rfl rfl rfl ?_
    refine zw_gI (q := 2) (pc' := 12) W rfl rfl rfl rfl rfl rfl ?_
    refine zw_rem (pc' := 13) rfl (w0) rfl ?_
    refine zw_s (pc' := 17) rfl rfl ?_
    refine zw_ri rfl rfl ?_
    exact ⟨_, rfl, x_rem hx (by omega)⟩

theorem yc_yOf2 {L : Nat} {σ : Nat → Int32} {d : Nat} {H : zp_H} {x : Int32} (W : zw_W H) (hw : 2 ≤ (H.2.1 2 0).toInt) (hx : 0 ≤ x.toInt) : ∃ X, zp_Call L σ (d + 1) 39 [.inr (.inr (some 3)), .inl x] H X ∧ ∃ v : Int32, X = (.inl (some (.inl v)), H) ∧ v.toInt = x.toInt / (H.2.1 2 0).toInt := by
  have w0 : H.2.1 2 0 ≠ 0 := fun h9 => by
    have : (H.2.1 2 0).toInt = 0 := congrArg Int32.toInt h9
    omega
  refine zw_met zm_39_t rfl rfl ?_
  refine zw_ld (n := 1) (k := 0) (f := zp_isR) (pc' := 1) rfl rfl rfl rfl rfl ?_
  refine zw_gI (q := 2) (pc' := 4) W rfl rfl rfl rfl rfl rfl ?_
  refine zw_ble1 (g := 16) (pc' := 7) rfl rfl rfl rfl (fun h1 => ?_) (fun h1 => ?_)
  · have h1 : (H.2.1 2 0).toInt ≤ 0 := h1
    omega
  · refine zw_ld (n := 1) (k := 1) (f := zp_isI) (pc' := 8) rfl rfl rfl rfl rfl ?_
    refine zw_ld (n := 1) (k := 0) (f := zp_isR) (pc' := 9) rfl rfl rfl rfl rfl ?_
    refine zw_gI (q := 2) (pc' := 12) W rfl rfl rfl rfl rfl rfl ?_
    refine zw_div (pc' := 13) rfl (w0) rfl ?_
    refine zw_s (pc' := 17) rfl rfl ?_
    refine zw_ri rfl rfl ?_
    exact ⟨_, rfl, x_div hx (by omega)⟩

theorem yc_xOf22 {L : Nat} {σ : Nat → Int32} {d : Nat} {H : zp_H} {x : Int32} (W : zw_W H) (hw : 2 ≤ (H.2.1 22 0).toInt) (hx : 0 ≤ x.toInt) : ∃ X, zp_Call L σ (d + 1) 37 [.inr (.inr (some 23)), .inl x] H X ∧ ∃ v : Int32, X = (.inl (some (.inl v)), H) ∧ v.toInt = x.toInt % (H.2.1 22 0).toInt := by
  have w0 : H.2.1 22 0 ≠ 0 := fun h9 => by
    have : (H.2.1 22 0).toInt = 0 := congrArg Int32.toInt h9
    omega
  refine zw_met zm_37_t rfl rfl ?_
  refine zw_ld (n := 1) (k := 0) (f := zp_isR) (pc' := 1) rfl rfl rfl rfl rfl ?_
  refine zw_gI (q := 22) (pc' := 4) W rfl rfl rfl rfl rfl rfl ?_
  refine zw_ble1 (g := 16) (pc' := 7) rfl rfl rfl rfl (fun h1 => ?_) (fun h1 => ?_)
  · have h1 : (H.2.1 22 0).toInt ≤ 0 := h1
    omega
  · refine zw_ld (n := 1) (k := 1) (f := zp_isI) (pc' := 8) rfl rfl rfl rfl rfl ?_
    refine zw_ld (n := 1) (k := 0) (f := zp_isR) (pc' := 9) rfl rfl rfl rfl rfl ?_
    refine zw_gI (q := 22) (pc' := 12) W rfl rfl rfl rfl rfl rfl ?_
    refine zw_rem (pc' := 13) rfl (w0) rfl ?_
    refine zw_s (pc' := 17) rfl rfl ?_
    refine zw_ri rfl rfl ?_
    exact ⟨_, rfl, x_rem hx (by omega)⟩

theorem yc_yOf22 {L : Nat} {σ : Nat → Int32} {d : Nat} {H : zp_H} {x : Int32} (W : zw_W H) (hw : 2 ≤ (H.2.1 22 0).toInt) (hx : 0 ≤ x.toInt) : ∃ X, zp_Call L σ (d + 1) 39 [.inr (.inr (some 23)), .inl x] H X ∧ ∃ v : Int32, X = (.inl (some (.inl v)), H) ∧ v.toInt = x.toInt / (H.2.1 22 0).toInt := by
  have w0 : H.2.1 22 0 ≠ 0 := fun h9 => by
    have : (H.2.1 22 0).toInt = 0 := congrArg Int32.toInt h9
    omega
  refine zw_met zm_39_t rfl rfl ?_
  refine zw_ld (n := 1) (k := 0) (f := zp_isR) (pc' := 1) rfl rfl rfl rfl rfl ?_
  refine zw_gI (q := 22) (pc' := 4) W rfl rfl rfl rfl rfl rfl ?_
  refine zw_ble1 (g := 16) (pc' := 7) rfl rfl rfl rfl (fun h1 => ?_) (fun h1 => ?_)
  · have h1 : (H.2.1 22 0).toInt ≤ 0 := h1
    omega
  · refine zw_ld (n := 1) (k := 1) (f := zp_isI) (pc' := 8) rfl rfl rfl rfl rfl ?_
    refine zw_ld (n := 1) (k := 0) (f := zp_isR) (pc' := 9) rfl rfl rfl rfl rfl ?_
    refine zw_gI (q := 22) (pc' := 12) W rfl rfl rfl rfl rfl rfl ?_
    refine zw_div (pc' := 13) rfl (w0) rfl ?_
    refine zw_s (pc' := 17) rfl rfl ?_
    refine zw_ri rfl rfl ?_
    exact ⟨_, rfl, x_div hx (by omega)⟩

theorem x_rw {u v : Int64} {H : zp_H} (h : v = u) : ((.inl (some (.inr (.inl u))), H) : zp_X) = (.inl (some (.inr (.inl v))), H) := by rw [h]

theorem yc_wr {L : Nat} {σ : Nat → Int32} {d : Nat} {H : zp_H} (W : zw_W H) : zp_Call L σ (d + 2) 34 [.inr (.inr (some 55))] H (.inl (some (.inr (.inl (if (H.2.1 54 2).toInt = 1 ∨ (H.2.1 54 2).toInt = 2 then za_shl0 (Int64.ofNat 1) (H.2.1 54 0) else Int64.ofNat 0)))), H) := by
  refine zw_ex (zw_met zm_34_t rfl rfl ?_)
  refine zw_ld (n := 1) (k := 0) (f := zp_isR) (pc' := 1) rfl rfl rfl rfl rfl ?_
  refine zw_gI (q := 54) (pc' := 4) W rfl rfl rfl rfl rfl rfl ?_
  refine zw_s (pc' := 5) rfl rfl ?_
  refine zw_beq2 (g := 16) (pc' := 8) rfl rfl rfl rfl (rfl : _ = (1 : Int)) (fun h1 => ?_) (fun h1 => ?_)
  · refine zw_ld (n := 1) (k := 0) (f := zp_isR) (pc' := 17) rfl rfl rfl rfl rfl ?_
    refine zw_gI (q := 54) (pc' := 20) W rfl rfl rfl rfl rfl rfl ?_
    refine zw_cx (pc' := 23) (zw_csx (Y := zm_4) rfl rfl zm_4_t) rfl rfl rfl rfl rfl (zn_bit) ?_
    refine zw_s (pc' := 27) rfl rfl ?_
    refine zw_rl rfl rfl ?_
    exact x_rw (if_pos (Or.inl h1))
  · refine zw_ld (n := 1) (k := 0) (f := zp_isR) (pc' := 9) rfl rfl rfl rfl rfl ?_
    refine zw_gI (q := 54) (pc' := 12) W rfl rfl rfl rfl rfl rfl ?_
    refine zw_s (pc' := 13) rfl rfl ?_
    refine zw_bne2 (g := 26) (pc' := 16) rfl rfl rfl rfl (rfl : _ = (2 : Int)) (fun h2 => ?_) (fun h2 => ?_)
    · refine zw_s (pc' := 27) rfl rfl ?_
      refine zw_rl rfl rfl ?_
      exact x_rw (if_neg (fun h9 => h9.elim h1 h2))
    · refine zw_ld (n := 1) (k := 0) (f := zp_isR) (pc' := 17) rfl rfl rfl rfl rfl ?_
      refine zw_gI (q := 54) (pc' := 20) W rfl rfl rfl rfl rfl rfl ?_
      refine zw_cx (pc' := 23) (zw_csx (Y := zm_4) rfl rfl zm_4_t) rfl rfl rfl rfl rfl (zn_bit) ?_
      refine zw_s (pc' := 27) rfl rfl ?_
      refine zw_rl rfl rfl ?_
      exact x_rw (if_pos (Or.inr h2))
end
section
/-! ===== what a row is worth, said once for both sides ===== -/
def xJn (a : Nat) (x y : Int32) : Int32 :=
  if a = 4 then (if x.toInt ≠ 0 ∧ y.toInt ≠ 0 then Int32.ofInt 1 else Int32.ofInt 0)
  else if a = 5 then (if x.toInt ≠ 0 ∨ y.toInt ≠ 0 then Int32.ofInt 1 else Int32.ofInt 0)
  else if a = 6 then (if x.toInt < y.toInt then Int32.ofInt 1 else Int32.ofInt 0)
  else if a = 7 then (if x.toInt = y.toInt then Int32.ofInt 1 else Int32.ofInt 0)
  else if a = 8 then x + y
  else if a = 9 then x - y
  else if a = 10 then x * y
  else (if y.toInt = 0 then Int32.ofInt 0 else x / y)
/-- what a row does to a pile, the top first -/
def xEv (V : Nat → Int32) : List xIt → List Int32 → List Int32
  | [], S => S
  | i :: C, S => xEv V C (if i.1 = 0 then Int32.ofInt i.2 :: S else if i.1 = 1 then V i.2.toNat :: S else if i.1 = 3 then (if (S.headD (Int32.ofInt 0)).toInt = 0 then Int32.ofInt 1 else Int32.ofInt 0) :: S.tail else xJn i.1 (S.tail.headD (Int32.ofInt 0)) (S.headD (Int32.ofInt 0)) :: S.tail.tail)
theorem xEv_0 {V : Nat → Int32} {i : xIt} {C : List xIt} {S : List Int32} (h : i.1 = 0) : xEv V (i :: C) S = xEv V C (Int32.ofInt i.2 :: S) := by
  show xEv V C (if i.1 = 0 then _ else _) = _
  rw [if_pos h]
theorem xEv_1 {V : Nat → Int32} {i : xIt} {C : List xIt} {S : List Int32} (h : i.1 = 1) : xEv V (i :: C) S = xEv V C (V i.2.toNat :: S) := by
  show xEv V C (if i.1 = 0 then _ else if i.1 = 1 then _ else _) = _
  rw [if_neg (by omega), if_pos h]
theorem xEv_3 {V : Nat → Int32} {i : xIt} {C : List xIt} {S : List Int32} {x : Int32} (h : i.1 = 3) : xEv V (i :: C) (x :: S) = xEv V C ((if x.toInt = 0 then Int32.ofInt 1 else Int32.ofInt 0) :: S) := by
  show xEv V C (if i.1 = 0 then _ else if i.1 = 1 then _ else if i.1 = 3 then _ else _) = _
  rw [if_neg (by omega), if_neg (by omega), if_pos h]
  rfl
theorem xEv_4 {V : Nat → Int32} {i : xIt} {C : List xIt} {S : List Int32} {x y : Int32} (h : 3 < i.1) : xEv V (i :: C) (y :: x :: S) = xEv V C (xJn i.1 x y :: S) := by
  show xEv V C (if i.1 = 0 then _ else if i.1 = 1 then _ else if i.1 = 3 then _ else _) = _
  rw [if_neg (by omega), if_neg (by omega), if_neg (by omega)]
  rfl
def xWo (V : Nat → Int32) (C : List xIt) : Int32 := (xEv V C []).headD (Int32.ofInt 0)
/-- a pile kept in an array -/
def xSk (f : Nat → Int32) : List Int32 → Prop
  | [] => True
  | v :: S => f S.length = v ∧ xSk f S
theorem xSk_c {f g : Nat → Int32} : ∀ {S : List Int32}, (∀ i, i < S.length → g i = f i) → xSk f S → xSk g S
  | [], _, _ => trivial
  | v :: S, h, h1 => ⟨(h _ (by show S.length < S.length + 1; omega)).trans h1.1, xSk_c (fun i hi => h i (by show i < S.length + 1; omega)) h1.2⟩
theorem xE2_a {i : xIt} (h : 3 < i.1) : xE2 i = xE2 (xAc i.1) := by
  unfold xE2
  rw [if_neg (show ¬ i.1 = 0 by omega), if_neg (show ¬ i.1 = 1 by omega), if_neg (show ¬ (xAc i.1).1 = 0 by show ¬ i.1 = 0; omega), if_neg (show ¬ (xAc i.1).1 = 1 by show ¬ i.1 = 1; omega)]
  rfl
/-- the way by the rules from r on -/
def xWb (V : Nat → Int32) (wy : Nat → Int32) (CC : Nat → List xIt) : Nat → Nat → Int32
  | 0, _ => Int32.ofInt (-1)
  | n + 1, r => if (xWo V (CC r)).toInt = 0 then xWb V wy CC n (r + 1) else wy r
theorem xWb_n {V : Nat → Int32} {wy : Nat → Int32} {CC : Nat → List xIt} {n r : Nat} (h : (xWo V (CC r)).toInt = 0) : xWb V wy CC (n + 1) r = xWb V wy CC n (r + 1) := if_pos h
theorem xWb_y {V : Nat → Int32} {wy : Nat → Int32} {CC : Nat → List xIt} {n r : Nat} (h : ¬ (xWo V (CC r)).toInt = 0) : xWb V wy CC (n + 1) r = wy r := if_neg h
theorem xWb_b {V : Nat → Int32} {wy : Nat → Int32} {CC : Nat → List xIt} : ∀ (n r : Nat), (∀ k, k < r + n → -1 ≤ (wy k).toInt ∧ (wy k).toInt ≤ 3) → -1 ≤ (xWb V wy CC n r).toInt ∧ (xWb V wy CC n r).toInt ≤ 3
  | 0, _, _ => ⟨by show (-1 : Int) ≤ (Int32.ofInt (-1)).toInt; decide, by show (Int32.ofInt (-1)).toInt ≤ 3; decide⟩
  | n + 1, r, h => by
    by_cases h9 : (xWo V (CC r)).toInt = 0
    · rw [xWb_n h9]
      exact xWb_b n (r + 1) (fun k hk => h k (by omega))
    · rw [xWb_y h9]
      exact h r (by omega)
theorem xWb_c {V : Nat → Int32} {wy wz : Nat → Int32} {CC : Nat → List xIt} : ∀ (n r : Nat), (∀ k, k < r + n → wy k = wz k) → xWb V wy CC n r = xWb V wz CC n r
  | 0, _, _ => rfl
  | n + 1, r, h => by
    by_cases h9 : (xWo V (CC r)).toInt = 0
    · rw [xWb_n h9, xWb_n h9]
      exact xWb_c n (r + 1) (fun k hk => h k (by omega))
    · rw [xWb_y h9, xWb_y h9]
      exact h r (by omega)
/-- the values of an hour -/
def xVl (S : xSea) (c h : Int32) (u : Int64) (k : Nat) : Int32 :=
  if k < 4 then (if xBe S.1 S.2.1 c.toInt k = -1 ∨ yTb u (xBe S.1 S.2.1 c.toInt k).toNat = true then Int32.ofInt 1 else Int32.ofInt 0)
  else if k = 4 then Int32.ofInt (c.toInt % S.1)
  else if k = 5 then Int32.ofInt (c.toInt / S.1)
  else if k = 6 then h
  else (if xDr S c.toInt h.toInt true = -1 then Int32.ofInt 0 else Int32.ofInt 1)
/-- a pilot's hours -/
def xPl (S : xSea) (g : Int) (W : Int32 → Int32 → Int32) : Nat → Int32 → Int32 → Int32 → Int32 × Int32 × Int32
  | 0, c, h, e => (c, h, e)
  | n + 1, c, h, e => if e.toInt = 0 then xPl S g W n (Int32.ofInt (xSt S c.toInt h.toInt (W c h).toInt true).2) (if (xSt S c.toInt h.toInt (W c h).toInt true).1 = 0 then h + Int32.ofInt 1 else h) (if (xSt S c.toInt h.toInt (W c h).toInt true).1 = 0 ∧ g ≤ (xSt S c.toInt h.toInt (W c h).toInt true).2 % S.1 then Int32.ofInt 4 else Int32.ofInt (xSt S c.toInt h.toInt (W c h).toInt true).1) else (c, h, e)
theorem xPl_n {S : xSea} {g : Int} {W : Int32 → Int32 → Int32} {c h e : Int32} (he : ¬ e.toInt = 0) : ∀ n, xPl S g W n c h e = (c, h, e)
  | 0 => rfl
  | _ + 1 => if_neg he
theorem xPl_y {S : xSea} {g : Int} {W : Int32 → Int32 → Int32} {c h e : Int32} {n : Nat} (he : e.toInt = 0) : xPl S g W (n + 1) c h e = xPl S g W n (Int32.ofInt (xSt S c.toInt h.toInt (W c h).toInt true).2) (if (xSt S c.toInt h.toInt (W c h).toInt true).1 = 0 then h + Int32.ofInt 1 else h) (if (xSt S c.toInt h.toInt (W c h).toInt true).1 = 0 ∧ g ≤ (xSt S c.toInt h.toInt (W c h).toInt true).2 % S.1 then Int32.ofInt 4 else Int32.ofInt (xSt S c.toInt h.toInt (W c h).toInt true).1) := if_pos he
theorem xPl_c {S : xSea} {g : Int} {W W' : Int32 → Int32 → Int32} (h9 : ∀ c h, W c h = W' c h) : xPl S g W = xPl S g W' := by
  have e : W = W' := funext fun c => funext fun h => h9 c h
  rw [e]
/-- where he begins: is he through at once -/
def xP0 (S : xSea) (g : Int) (c : Int32) : Int32 := if g ≤ c.toInt % S.1 then Int32.ofInt 4 else Int32.ofInt 0
/-- the rocks that one knows who has read these slates -/
def xKn (f : Nat → Int64) (set : Int32) : Nat → Int32 → Int64 → Int64
  | 0, _, u => u
  | n + 1, s, u => xKn f set n (s + Int32.ofInt 1) (if (set >>> (s &&& 31) &&& Int32.ofInt 1).toInt = 0 then u else u ||| f s.toInt.toNat)
theorem xKn_n {f : Nat → Int64} {set s : Int32} {n : Nat} {u : Int64} (h : (set >>> (s &&& 31) &&& Int32.ofInt 1).toInt = 0) : xKn f set (n + 1) s u = xKn f set n (s + Int32.ofInt 1) u := by
  show xKn f set n (s + Int32.ofInt 1) (if _ then _ else _) = _
  rw [if_pos h]
theorem xKn_y {f : Nat → Int64} {set s : Int32} {n : Nat} {u : Int64} (h : ¬ (set >>> (s &&& 31) &&& Int32.ofInt 1).toInt = 0) : xKn f set (n + 1) s u = xKn f set n (s + Int32.ofInt 1) (u ||| f s.toInt.toNat) := by
  show xKn f set n (s + Int32.ofInt 1) (if _ then _ else _) = _
  rw [if_neg h]
theorem xKn_c {f g : Nat → Int64} {set : Int32} : ∀ (n : Nat) (s : Int32) (u : Int64), 0 ≤ s.toInt → s.toInt + n ≤ 8 → (∀ j : Nat, (j : Int) < s.toInt + n → f j = g j) → xKn f set n s u = xKn g set n s u
  | 0, _, _, _, _, _ => rfl
  | n + 1, s, u, h0, h8, h => by
    have e : (s + Int32.ofInt 1).toInt = s.toInt + 1 := zw_p1 (by omega)
    by_cases h9 : (set >>> (s &&& 31) &&& Int32.ofInt 1).toInt = 0
    · rw [xKn_n h9, xKn_n h9]
      exact xKn_c n _ _ (by omega) (by omega) (fun j hj => h j (by omega))
    · rw [xKn_y h9, xKn_y h9, h _ (by omega)]
      exact xKn_c n _ _ (by omega) (by omega) (fun j hj => h j (by omega))
/-- the length of a pile behind a row -/
theorem xEv_l {V : Nat → Int32} {d : Int} : ∀ (C : List xIt) (S : List Int32), xWf d C S.length → ((xEv V C S).length : Int) = xHt C S.length
  | [], _, _ => rfl
  | i :: C, S, h => by
    have h : (if i.1 < 2 then ((S.length : Int) + 1 ≤ d ∧ 0 ≤ i.2 ∧ i.2 ≤ 9999 ∧ (i.1 = 1 → i.2 < 8)) ∧ xWf d C ((S.length : Int) + 1) else if i.1 = 3 then 1 ≤ (S.length : Int) ∧ xWf d C S.length else (2 ≤ (S.length : Int) ∧ 3 < i.1 ∧ i.1 < 12) ∧ xWf d C ((S.length : Int) - 1)) := h
    show _ = xHt C (if i.1 < 2 then (S.length : Int) + 1 else if i.1 = 3 then (S.length : Int) else (S.length : Int) - 1)
    by_cases h2 : i.1 < 2
    · rw [if_pos h2] at h ⊢
      have e : ∀ v : Int32, ((v :: S).length : Int) = (S.length : Int) + 1 := fun v => by
        show ((S.length + 1 : Nat) : Int) = _
        omega
      rcases (show i.1 = 0 ∨ i.1 = 1 by omega) with h1 | h1
      · rw [xEv_0 h1, xEv_l C _ (by rw [e]; exact h.2), e]
      · rw [xEv_1 h1, xEv_l C _ (by rw [e]; exact h.2), e]
    · rw [if_neg h2] at h ⊢
      by_cases h3 : i.1 = 3
      · rw [if_pos h3] at h ⊢
        match S, h with
        | x :: S, h =>
          rw [xEv_3 h3]
          exact xEv_l C (_ :: S) h.2
        | [], h => exact absurd h.1 (by decide)
      · rw [if_neg h3] at h ⊢
        match S, h with
        | y :: x :: S, h =>
          have e : ∀ v : Int32, ((v :: S).length : Int) = ((y :: x :: S).length : Int) - 1 := fun v => by
            show ((S.length + 1 : Nat) : Int) = ((S.length + 1 + 1 : Nat) : Int) - 1
            omega
          rw [xEv_4 h.1.2.1, xEv_l C _ (by rw [e]; exact h.2), e]
        | [x], h =>
          have h9 : (2 : Int) ≤ ((1 : Nat) : Int) := h.1.1
          omega
        | [], h => exact absurd h.1.1 (by decide)
/-- a row of an operand leaves one value -/
theorem xEv_w {V : Nat → Int32} {C : List xIt} (h : xOp 37 C) : xEv V C [] = [xWo V C] := by
  obtain ⟨h1, h2⟩ := h 0 (Int.le_refl _)
  have e := xEv_l (V := V) C [] h2
  have e : ((xEv V C []).length : Int) = xHt C 0 := e
  rw [h1] at e
  unfold xWo
  match hx : xEv V C [], e with
  | [v], _ => rfl
  | [], e => exact absurd e (by decide)
  | _ :: _ :: S, e =>
    have e : ((S.length + 1 + 1 : Nat) : Int) = 0 + 1 := e
    omega
end
