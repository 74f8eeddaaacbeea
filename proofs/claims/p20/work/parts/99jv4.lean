section
/-! ===== a voyage: the reference ===== -/
def zm_220 : za_MI := (yX12_sailsOf, prog_14_method_60_code, 2, none, 12, 0, 0, [], za_i220)
theorem zm_220_t : za_MT 220 = some zm_220 := rfl
def xRE (H : zp_H) (r : Int32 × Int32 × Int32 × Int32) : Prop := H.2.1 72 64 = r.1 ∧ H.2.1 72 69 = r.2.1 ∧ H.2.1 72 66 = r.2.2.1 ∧ H.2.1 72 68 = r.2.2.2
def xR7 (H : zp_H) (r : Int32 × Int32 × Int32 × Int32 × Int32 × Int32 × Int32) : Prop := H.2.1 72 64 = r.1 ∧ H.2.1 72 69 = r.2.1 ∧ H.2.1 72 66 = r.2.2.1 ∧ H.2.1 72 68 = r.2.2.2.1 ∧ H.2.1 72 67 = r.2.2.2.2.1 ∧ (¬ r.2.2.1.toInt = 0 → H.2.1 72 70 = r.2.2.2.2.2.1 ∧ H.2.1 72 71 = r.2.2.2.2.2.2)

theorem xr_sa141 {L : Nat} {σ : Nat → Int32} {d : Nat} {H : zp_H} {P : zp_X → Prop} {lv : zp_LV} {s : Int32} (W : zw_W H) (l0 : zp_get lv 0 = some (.inr (.inr (some 73)))) (l1 : zp_get lv 1 = some (.inl s)) (hP : zs_Safe L σ P zm_220 [] (d + 2) (79, lv, [], zw_I (zw_I H 72 69 (H.2.1 72 69 + Int32.ofInt 1)) 72 68 (H.2.1 72 68 + Int32.ofInt 1), (0, 0))) : zs_Safe L σ P zm_220 [] (d + 2) (141, lv, [], H, (0, 0)) := by
  refine zw_ld (n := 1) (k := 0) (f := zp_isR) (pc' := 142) rfl rfl l0 rfl rfl ?_
  refine zw_s (pc' := 143) rfl rfl ?_
  refine zw_gI (q := 72) (pc' := 146) W rfl rfl rfl rfl rfl rfl ?_
  refine zw_s (pc' := 147) rfl rfl ?_
  refine zw_iadd (pc' := 148) rfl rfl ?_
  refine zw_pI (q := 72) (pc' := 151) W rfl rfl rfl rfl rfl rfl ?_
  refine zw_ld (n := 1) (k := 0) (f := zp_isR) (pc' := 152) rfl rfl l0 rfl rfl ?_
  refine zw_s (pc' := 153) rfl rfl ?_
  refine zw_gI (q := 72) (pc' := 156) (zw_W_I W) rfl rfl rfl rfl (zw_ne rfl rfl) rfl ?_
  refine zw_s (pc' := 157) rfl rfl ?_
  refine zw_iadd (pc' := 158) rfl rfl ?_
  refine zw_pI (q := 72) (pc' := 161) (zw_W_I W) rfl rfl rfl rfl rfl rfl ?_
  refine zw_s (pc' := 79) rfl rfl ?_
  exact hP

theorem xr_saL {L : Nat} {σ : Nat → Int32} {d : Nat} {S : xSea} {P : zp_X → Prop} {s : Int32} (hS : xOk S) (hs : 0 ≤ s.toInt ∧ s.toInt < 8) : ∀ (n : Nat) (H : zp_H) (lv : zp_LV), zw_W H → xSR H S → xIn S (H.2.1 72 64).toInt → H.2.1 72 66 = Int32.ofInt 0 → (0 ≤ (H.2.1 72 67).toInt ∧ (H.2.1 72 67).toInt < 8) → 0 ≤ (H.2.1 72 68).toInt → (H.2.1 72 68).toInt + n = (H.2.1 75 (16 * s.toInt.toNat + 2 * (H.2.1 72 67).toInt.toNat + 1)).toInt.toNat → zp_get lv 0 = some (.inr (.inr (some 73))) → zp_get lv 1 = some (.inl s) → (∀ H1, zw_W H1 → xFs 64 69 H H1 → (H1.2.1 72 64 = (xMk S (H.2.1 75 (16 * s.toInt.toNat + 2 * (H.2.1 72 67).toInt.toNat)).toInt true n (H.2.1 72 68) (H.2.1 72 64) (H.2.1 72 69)).1 ∧ H1.2.1 72 69 = (xMk S (H.2.1 75 (16 * s.toInt.toNat + 2 * (H.2.1 72 67).toInt.toNat)).toInt true n (H.2.1 72 68) (H.2.1 72 64) (H.2.1 72 69)).2.1 ∧ (xMk S (H.2.1 75 (16 * s.toInt.toNat + 2 * (H.2.1 72 67).toInt.toNat)).toInt true n (H.2.1 72 68) (H.2.1 72 64) (H.2.1 72 69)).2.2.1.toInt = 0 ∧ H1.2.1 72 66 = Int32.ofInt 0 ∧ H1.2.1 72 67 = H.2.1 72 67) → zs_Safe L σ P zm_220 [] (d + 2) (164, lv, [], H1, (0, 0))) → (∀ H1, zw_W H1 → xFs 64 69 H H1 → ¬ (xMk S (H.2.1 75 (16 * s.toInt.toNat + 2 * (H.2.1 72 67).toInt.toNat)).toInt true n (H.2.1 72 68) (H.2.1 72 64) (H.2.1 72 69)).2.2.1.toInt = 0 → xRE H1 (xMk S (H.2.1 75 (16 * s.toInt.toNat + 2 * (H.2.1 72 67).toInt.toNat)).toInt true n (H.2.1 72 68) (H.2.1 72 64) (H.2.1 72 69)) ∧ H1.2.1 72 67 = H.2.1 72 67 → P (.inl none, H1)) → zs_Safe L σ P zm_220 [] (d + 2) (79, lv, [], H, (0, 0)) := by
  intro n
  induction n with
  | zero =>
    intro H lv W hR hc he hk h5 hn l0 l1 hA hN
    have i1 : (Int32.ofInt 16 * s).toInt = 16 * s.toInt := zt_mul (by decide) (by omega)
    have i2 : (Int32.ofInt 2 * H.2.1 72 67).toInt = 2 * (H.2.1 72 67).toInt := zt_mul (by decide) (by omega)
    have i3 : (Int32.ofInt 16 * s + Int32.ofInt 2 * H.2.1 72 67).toInt = 16 * s.toInt + 2 * (H.2.1 72 67).toInt := by rw [zq_add (by rw [i1, i2]; omega) (by rw [i1, i2]; omega), i1, i2]
    have i4 : (Int32.ofInt 16 * s + Int32.ofInt 2 * H.2.1 72 67 + Int32.ofInt 1).toInt = 16 * s.toInt + 2 * (H.2.1 72 67).toInt + 1 := by rw [zt_add (by decide) (by omega), i3]
    have i5 : (Int32.ofInt 16 * s + Int32.ofInt 2 * H.2.1 72 67 + Int32.ofInt 1).toInt.toNat = 16 * s.toInt.toNat + 2 * (H.2.1 72 67).toInt.toNat + 1 := by omega
    have i6 : (Int32.ofInt 16 * s + Int32.ofInt 2 * H.2.1 72 67).toInt.toNat = 16 * s.toInt.toNat + 2 * (H.2.1 72 67).toInt.toNat := by omega
    refine zw_ld (n := 1) (k := 0) (f := zp_isR) (pc' := 80) rfl rfl l0 rfl rfl ?_
    refine zw_gI (q := 72) (pc' := 83) W rfl rfl rfl rfl rfl rfl ?_
    refine zw_ld (n := 1) (k := 0) (f := zp_isR) (pc' := 84) rfl rfl l0 rfl rfl ?_
    refine zw_gR (q := 72) (pc' := 87) W rfl rfl rfl rfl (W.2 72 15 _ rfl) rfl ?_
    refine zw_s (pc' := 89) rfl rfl ?_
    refine zw_ld (n := 1) (k := 1) (f := zp_isI) (pc' := 90) rfl rfl l1 rfl rfl ?_
    refine zw_imul (pc' := 91) rfl rfl ?_
    refine zw_s (pc' := 92) rfl rfl ?_
    refine zw_ld (n := 1) (k := 0) (f := zp_isR) (pc' := 93) rfl rfl l0 rfl rfl ?_
    refine zw_gI (q := 72) (pc' := 96) W rfl rfl rfl rfl rfl rfl ?_
    refine zw_imul (pc' := 97) rfl rfl ?_
    refine zw_iadd (pc' := 98) rfl rfl ?_
    refine zw_s (pc' := 99) rfl rfl ?_
    refine zw_iadd (pc' := 100) rfl rfl ?_
    refine zw_ia (q := 75) (pc' := 101) W rfl rfl (by decide) (⟨by omega, by show _ < ((128 : Nat) : Int); omega⟩) rfl rfl ?_
    refine zw_bge2 (g := 164) (pc' := 104) rfl rfl rfl rfl rfl (fun h1 => ?_) (fun h1 => ?_)
    · exact hA H W (xFs_r H) ⟨rfl, rfl, rfl, he, rfl⟩
    · have h1 : (H.2.1 72 68).toInt < (H.2.1 75 (Int32.ofInt 16 * s + Int32.ofInt 2 * H.2.1 72 67 + Int32.ofInt 1).toInt.toNat).toInt := h1
      rw [i5] at h1
      omega
  | succ n ih =>
    intro H lv W hR hc he hk h5 hn l0 l1 hA hN
    have i1 : (Int32.ofInt 16 * s).toInt = 16 * s.toInt := zt_mul (by decide) (by omega)
    have i2 : (Int32.ofInt 2 * H.2.1 72 67).toInt = 2 * (H.2.1 72 67).toInt := zt_mul (by decide) (by omega)
    have i3 : (Int32.ofInt 16 * s + Int32.ofInt 2 * H.2.1 72 67).toInt = 16 * s.toInt + 2 * (H.2.1 72 67).toInt := by rw [zq_add (by rw [i1, i2]; omega) (by rw [i1, i2]; omega), i1, i2]
    have i4 : (Int32.ofInt 16 * s + Int32.ofInt 2 * H.2.1 72 67 + Int32.ofInt 1).toInt = 16 * s.toInt + 2 * (H.2.1 72 67).toInt + 1 := by rw [zt_add (by decide) (by omega), i3]
    have i5 : (Int32.ofInt 16 * s + Int32.ofInt 2 * H.2.1 72 67 + Int32.ofInt 1).toInt.toNat = 16 * s.toInt.toNat + 2 * (H.2.1 72 67).toInt.toNat + 1 := by omega
    have i6 : (Int32.ofInt 16 * s + Int32.ofInt 2 * H.2.1 72 67).toInt.toNat = 16 * s.toInt.toNat + 2 * (H.2.1 72 67).toInt.toNat := by omega
    refine zw_ld (n := 1) (k := 0) (f := zp_isR) (pc' := 80) rfl rfl l0 rfl rfl ?_
    refine zw_gI (q := 72) (pc' := 83) W rfl rfl rfl rfl rfl rfl ?_
    refine zw_ld (n := 1) (k := 0) (f := zp_isR) (pc' := 84) rfl rfl l0 rfl rfl ?_
    refine zw_gR (q := 72) (pc' := 87) W rfl rfl rfl rfl (W.2 72 15 _ rfl) rfl ?_
    refine zw_s (pc' := 89) rfl rfl ?_
    refine zw_ld (n := 1) (k := 1) (f := zp_isI) (pc' := 90) rfl rfl l1 rfl rfl ?_
    refine zw_imul (pc' := 91) rfl rfl ?_
    refine zw_s (pc' := 92) rfl rfl ?_
    refine zw_ld (n := 1) (k := 0) (f := zp_isR) (pc' := 93) rfl rfl l0 rfl rfl ?_
    refine zw_gI (q := 72) (pc' := 96) W rfl rfl rfl rfl rfl rfl ?_
    refine zw_imul (pc' := 97) rfl rfl ?_
    refine zw_iadd (pc' := 98) rfl rfl ?_
    refine zw_s (pc' := 99) rfl rfl ?_
    refine zw_iadd (pc' := 100) rfl rfl ?_
    refine zw_ia (q := 75) (pc' := 101) W rfl rfl (by decide) (⟨by omega, by show _ < ((128 : Nat) : Int); omega⟩) rfl rfl ?_
    refine zw_bge2 (g := 164) (pc' := 104) rfl rfl rfl rfl rfl (fun h1 => ?_) (fun h1 => ?_)
    · have h1 : (H.2.1 75 (Int32.ofInt 16 * s + Int32.ofInt 2 * H.2.1 72 67 + Int32.ofInt 1).toInt.toNat).toInt ≤ (H.2.1 72 68).toInt := h1
      rw [i5] at h1
      omega
    · refine zw_ld (n := 1) (k := 0) (f := zp_isR) (pc' := 105) rfl rfl l0 rfl rfl ?_
      refine zw_ld (n := 1) (k := 0) (f := zp_isR) (pc' := 106) rfl rfl l0 rfl rfl ?_
      refine zw_ld (n := 1) (k := 0) (f := zp_isR) (pc' := 107) rfl rfl l0 rfl rfl ?_
      refine zw_gR (q := 72) (pc' := 110) W rfl rfl rfl rfl (W.2 72 15 _ rfl) rfl ?_
      refine zw_s (pc' := 112) rfl rfl ?_
      refine zw_ld (n := 1) (k := 1) (f := zp_isI) (pc' := 113) rfl rfl l1 rfl rfl ?_
      refine zw_imul (pc' := 114) rfl rfl ?_
      refine zw_s (pc' := 115) rfl rfl ?_
      refine zw_ld (n := 1) (k := 0) (f := zp_isR) (pc' := 116) rfl rfl l0 rfl rfl ?_
      refine zw_gI (q := 72) (pc' := 119) W rfl rfl rfl rfl rfl rfl ?_
      refine zw_imul (pc' := 120) rfl rfl ?_
      refine zw_iadd (pc' := 121) rfl rfl ?_
      refine zw_ia (q := 75) (pc' := 122) W rfl rfl (by decide) (⟨by omega, by show _ < ((128 : Nat) : Int); omega⟩) rfl rfl ?_
      refine zw_ld (n := 1) (k := 0) (f := zp_isR) (pc' := 123) rfl rfl l0 rfl rfl ?_
      refine zw_gI (q := 72) (pc' := 126) W rfl rfl rfl rfl rfl rfl ?_
      refine zw_s (pc' := 127) rfl rfl ?_
      obtain ⟨_, q1, H1, rfl, W1, q2, q3⟩ := xr_st1 (L := L) (σ := σ) (d := d) (x1 := (H.2.1 75 (16 * s.toInt.toNat + 2 * (H.2.1 72 67).toInt.toNat))) (x2 := H.2.1 72 69) W hS hR hc
      have hb := xSt_b (hr := (H.2.1 72 69).toInt) (d := (H.2.1 75 (16 * s.toInt.toNat + 2 * (H.2.1 72 67).toInt.toNat)).toInt) (t := true) hS hc
      have ho := xSt_o (hr := (H.2.1 72 69).toInt) (d := (H.2.1 75 (16 * s.toInt.toNat + 2 * (H.2.1 72 67).toInt.toNat)).toInt) (t := true) hS hc
      rw [i6]
      refine zw_c (pc' := 130) (zw_cv (q := 72) (Y := zm_221) W.1 rfl rfl zm_221_t rfl rfl) rfl rfl rfl rfl rfl (q1) ?_
      refine zw_pI (q := 72) (pc' := 133) W1 rfl rfl rfl rfl rfl rfl ?_
      refine zw_ld (n := 1) (k := 0) (f := zp_isR) (pc' := 134) rfl rfl l0 rfl rfl ?_
      refine zw_gI (q := 72) (pc' := 137) (zw_W_I W1) rfl rfl rfl rfl zw_eq rfl ?_
      have fr : xFs 64 69 H (zw_I H1 72 66 (Int32.ofInt (xSt S (H.2.1 72 64).toInt (H.2.1 72 69).toInt (H.2.1 75 (16 * s.toInt.toNat + 2 * (H.2.1 72 67).toInt.toNat)).toInt true).1)) := xFs_I (xFs_m q2 (by decide) (by decide)) (by decide) (by decide)
      have g64 : (zw_I H1 72 66 (Int32.ofInt (xSt S (H.2.1 72 64).toInt (H.2.1 72 69).toInt (H.2.1 75 (16 * s.toInt.toNat + 2 * (H.2.1 72 67).toInt.toNat)).toInt true).1)).2.1 72 64 = Int32.ofInt (xSt S (H.2.1 72 64).toInt (H.2.1 72 69).toInt (H.2.1 75 (16 * s.toInt.toNat + 2 * (H.2.1 72 67).toInt.toNat)).toInt true).2 := (zw_ne rfl rfl).trans q3
      have g69 : (zw_I H1 72 66 (Int32.ofInt (xSt S (H.2.1 72 64).toInt (H.2.1 72 69).toInt (H.2.1 75 (16 * s.toInt.toNat + 2 * (H.2.1 72 67).toInt.toNat)).toInt true).1)).2.1 72 69 = H.2.1 72 69 := (zw_ne rfl rfl).trans (q2.2.2.1 72 69 (by decide))
      have g68 : (zw_I H1 72 66 (Int32.ofInt (xSt S (H.2.1 72 64).toInt (H.2.1 72 69).toInt (H.2.1 75 (16 * s.toInt.toNat + 2 * (H.2.1 72 67).toInt.toNat)).toInt true).1)).2.1 72 68 = H.2.1 72 68 := (zw_ne rfl rfl).trans (q2.2.2.1 72 68 (by decide))
      have g67 : (zw_I H1 72 66 (Int32.ofInt (xSt S (H.2.1 72 64).toInt (H.2.1 72 69).toInt (H.2.1 75 (16 * s.toInt.toNat + 2 * (H.2.1 72 67).toInt.toNat)).toInt true).1)).2.1 72 67 = H.2.1 72 67 := (zw_ne rfl rfl).trans (q2.2.2.1 72 67 (by decide))
      refine zw_beq1 (g := 141) (pc' := 140) rfl rfl rfl rfl (fun h2 => ?_) (fun h2 => ?_)
      · have h2 : (Int32.ofInt (xSt S (H.2.1 72 64).toInt (H.2.1 72 69).toInt (H.2.1 75 (16 * s.toInt.toNat + 2 * (H.2.1 72 67).toInt.toNat)).toInt true).1).toInt = 0 := h2
        rw [ho.1] at h2
        refine xr_sa141 (zw_W_I W1) l0 l1 ?_
        have fr2 : xFs 64 69 H (zw_I (zw_I (zw_I H1 72 66 (Int32.ofInt (xSt S (H.2.1 72 64).toInt (H.2.1 72 69).toInt (H.2.1 75 (16 * s.toInt.toNat + 2 * (H.2.1 72 67).toInt.toNat)).toInt true).1)) 72 69 ((zw_I H1 72 66 (Int32.ofInt (xSt S (H.2.1 72 64).toInt (H.2.1 72 69).toInt (H.2.1 75 (16 * s.toInt.toNat + 2 * (H.2.1 72 67).toInt.toNat)).toInt true).1)).2.1 72 69 + Int32.ofInt 1)) 72 68 ((zw_I H1 72 66 (Int32.ofInt (xSt S (H.2.1 72 64).toInt (H.2.1 72 69).toInt (H.2.1 75 (16 * s.toInt.toNat + 2 * (H.2.1 72 67).toInt.toNat)).toInt true).1)).2.1 72 68 + Int32.ofInt 1)) := xFs_I (xFs_I fr (by decide) (by decide)) (by decide) (by decide)
        have k64 : (zw_I (zw_I (zw_I H1 72 66 (Int32.ofInt (xSt S (H.2.1 72 64).toInt (H.2.1 72 69).toInt (H.2.1 75 (16 * s.toInt.toNat + 2 * (H.2.1 72 67).toInt.toNat)).toInt true).1)) 72 69 ((zw_I H1 72 66 (Int32.ofInt (xSt S (H.2.1 72 64).toInt (H.2.1 72 69).toInt (H.2.1 75 (16 * s.toInt.toNat + 2 * (H.2.1 72 67).toInt.toNat)).toInt true).1)).2.1 72 69 + Int32.ofInt 1)) 72 68 ((zw_I H1 72 66 (Int32.ofInt (xSt S (H.2.1 72 64).toInt (H.2.1 72 69).toInt (H.2.1 75 (16 * s.toInt.toNat + 2 * (H.2.1 72 67).toInt.toNat)).toInt true).1)).2.1 72 68 + Int32.ofInt 1)).2.1 72 64 = Int32.ofInt (xSt S (H.2.1 72 64).toInt (H.2.1 72 69).toInt (H.2.1 75 (16 * s.toInt.toNat + 2 * (H.2.1 72 67).toInt.toNat)).toInt true).2 := (zw_ne (zw_ne rfl rfl) rfl).trans g64
        have k69 : (zw_I (zw_I (zw_I H1 72 66 (Int32.ofInt (xSt S (H.2.1 72 64).toInt (H.2.1 72 69).toInt (H.2.1 75 (16 * s.toInt.toNat + 2 * (H.2.1 72 67).toInt.toNat)).toInt true).1)) 72 69 ((zw_I H1 72 66 (Int32.ofInt (xSt S (H.2.1 72 64).toInt (H.2.1 72 69).toInt (H.2.1 75 (16 * s.toInt.toNat + 2 * (H.2.1 72 67).toInt.toNat)).toInt true).1)).2.1 72 69 + Int32.ofInt 1)) 72 68 ((zw_I H1 72 66 (Int32.ofInt (xSt S (H.2.1 72 64).toInt (H.2.1 72 69).toInt (H.2.1 75 (16 * s.toInt.toNat + 2 * (H.2.1 72 67).toInt.toNat)).toInt true).1)).2.1 72 68 + Int32.ofInt 1)).2.1 72 69 = H.2.1 72 69 + Int32.ofInt 1 := (zw_ne zw_eq rfl).trans (congrArg (fun z : Int32 => z + Int32.ofInt 1) g69)
        have k68 : (zw_I (zw_I (zw_I H1 72 66 (Int32.ofInt (xSt S (H.2.1 72 64).toInt (H.2.1 72 69).toInt (H.2.1 75 (16 * s.toInt.toNat + 2 * (H.2.1 72 67).toInt.toNat)).toInt true).1)) 72 69 ((zw_I H1 72 66 (Int32.ofInt (xSt S (H.2.1 72 64).toInt (H.2.1 72 69).toInt (H.2.1 75 (16 * s.toInt.toNat + 2 * (H.2.1 72 67).toInt.toNat)).toInt true).1)).2.1 72 69 + Int32.ofInt 1)) 72 68 ((zw_I H1 72 66 (Int32.ofInt (xSt S (H.2.1 72 64).toInt (H.2.1 72 69).toInt (H.2.1 75 (16 * s.toInt.toNat + 2 * (H.2.1 72 67).toInt.toNat)).toInt true).1)).2.1 72 68 + Int32.ofInt 1)).2.1 72 68 = H.2.1 72 68 + Int32.ofInt 1 := zw_eq.trans (congrArg (fun z : Int32 => z + Int32.ofInt 1) g68)
        have k67 : (zw_I (zw_I (zw_I H1 72 66 (Int32.ofInt (xSt S (H.2.1 72 64).toInt (H.2.1 72 69).toInt (H.2.1 75 (16 * s.toInt.toNat + 2 * (H.2.1 72 67).toInt.toNat)).toInt true).1)) 72 69 ((zw_I H1 72 66 (Int32.ofInt (xSt S (H.2.1 72 64).toInt (H.2.1 72 69).toInt (H.2.1 75 (16 * s.toInt.toNat + 2 * (H.2.1 72 67).toInt.toNat)).toInt true).1)).2.1 72 69 + Int32.ofInt 1)) 72 68 ((zw_I H1 72 66 (Int32.ofInt (xSt S (H.2.1 72 64).toInt (H.2.1 72 69).toInt (H.2.1 75 (16 * s.toInt.toNat + 2 * (H.2.1 72 67).toInt.toNat)).toInt true).1)).2.1 72 68 + Int32.ofInt 1)).2.1 72 67 = H.2.1 72 67 := (zw_ne (zw_ne rfl rfl) rfl).trans g67
        have k66 : (zw_I (zw_I (zw_I H1 72 66 (Int32.ofInt (xSt S (H.2.1 72 64).toInt (H.2.1 72 69).toInt (H.2.1 75 (16 * s.toInt.toNat + 2 * (H.2.1 72 67).toInt.toNat)).toInt true).1)) 72 69 ((zw_I H1 72 66 (Int32.ofInt (xSt S (H.2.1 72 64).toInt (H.2.1 72 69).toInt (H.2.1 75 (16 * s.toInt.toNat + 2 * (H.2.1 72 67).toInt.toNat)).toInt true).1)).2.1 72 69 + Int32.ofInt 1)) 72 68 ((zw_I H1 72 66 (Int32.ofInt (xSt S (H.2.1 72 64).toInt (H.2.1 72 69).toInt (H.2.1 75 (16 * s.toInt.toNat + 2 * (H.2.1 72 67).toInt.toNat)).toInt true).1)).2.1 72 68 + Int32.ofInt 1)).2.1 72 66 = Int32.ofInt 0 := (zw_ne (zw_ne zw_eq rfl) rfl).trans (congrArg Int32.ofInt h2)
        have km : ∀ j, (zw_I (zw_I (zw_I H1 72 66 (Int32.ofInt (xSt S (H.2.1 72 64).toInt (H.2.1 72 69).toInt (H.2.1 75 (16 * s.toInt.toNat + 2 * (H.2.1 72 67).toInt.toNat)).toInt true).1)) 72 69 ((zw_I H1 72 66 (Int32.ofInt (xSt S (H.2.1 72 64).toInt (H.2.1 72 69).toInt (H.2.1 75 (16 * s.toInt.toNat + 2 * (H.2.1 72 67).toInt.toNat)).toInt true).1)).2.1 72 69 + Int32.ofInt 1)) 72 68 ((zw_I H1 72 66 (Int32.ofInt (xSt S (H.2.1 72 64).toInt (H.2.1 72 69).toInt (H.2.1 75 (16 * s.toInt.toNat + 2 * (H.2.1 72 67).toInt.toNat)).toInt true).1)).2.1 72 68 + Int32.ofInt 1)).2.1 75 j = H.2.1 75 j := fun j => fr2.2.2.1 75 j (fun h9 => absurd h9.1 (by decide))
        have ei : (H.2.1 72 68 + Int32.ofInt 1).toInt = (H.2.1 72 68).toInt + 1 := zw_p1 (by have h9 : (H.2.1 75 (16 * s.toInt.toNat + 2 * (H.2.1 72 67).toInt.toNat + 1)).toInt ≤ 2147483647 := Int32.toInt_le _; omega)
        refine ih (zw_I (zw_I (zw_I H1 72 66 (Int32.ofInt (xSt S (H.2.1 72 64).toInt (H.2.1 72 69).toInt (H.2.1 75 (16 * s.toInt.toNat + 2 * (H.2.1 72 67).toInt.toNat)).toInt true).1)) 72 69 ((zw_I H1 72 66 (Int32.ofInt (xSt S (H.2.1 72 64).toInt (H.2.1 72 69).toInt (H.2.1 75 (16 * s.toInt.toNat + 2 * (H.2.1 72 67).toInt.toNat)).toInt true).1)).2.1 72 69 + Int32.ofInt 1)) 72 68 ((zw_I H1 72 66 (Int32.ofInt (xSt S (H.2.1 72 64).toInt (H.2.1 72 69).toInt (H.2.1 75 (16 * s.toInt.toNat + 2 * (H.2.1 72 67).toInt.toNat)).toInt true).1)).2.1 72 68 + Int32.ofInt 1)) lv (zw_W_I (zw_W_I (zw_W_I W1))) (xSR_f fr2 (by decide) hR) (by rw [k64, ho.2]; exact hb.1) k66 (by rw [k67]; exact hk) (by rw [k68]; omega) (by rw [k67, k68, km]; omega) l0 l1 (fun H2 w1 w2 w3 => ?_) (fun H2 w1 w2 w3 w4 => ?_)
        · rw [k64, k67, k68, k69, km] at w3
          rw [xMk_y h2] at hA
          exact hA H2 w1 (xFs_t fr2 w2) w3
        · rw [k64, k67, k68, k69, km] at w3 w4
          rw [xMk_y h2] at hN
          exact hN H2 w1 (xFs_t fr2 w2) w3 w4
      · have h2 : ¬ (Int32.ofInt (xSt S (H.2.1 72 64).toInt (H.2.1 72 69).toInt (H.2.1 75 (16 * s.toInt.toNat + 2 * (H.2.1 72 67).toInt.toNat)).toInt true).1).toInt = 0 := h2
        have h3 : ¬ (xSt S (H.2.1 72 64).toInt (H.2.1 72 69).toInt (H.2.1 75 (16 * s.toInt.toNat + 2 * (H.2.1 72 67).toInt.toNat)).toInt true).1 = 0 := fun h9 => h2 (ho.1.trans h9)
        rw [xMk_n h3] at hN
        refine zw_rn rfl rfl ?_
        exact hN _ (zw_W_I W1) fr h2 ⟨⟨g64, g69, zw_eq, g68⟩, g67⟩

theorem xr_saV {L : Nat} {σ : Nat → Int32} {d : Nat} {S : xSea} {P : zp_X → Prop} {H0 : zp_H} {s : Int32} (hS : xOk S) (hs : 0 ≤ s.toInt ∧ s.toInt < 8) (hm : 0 ≤ (H0.2.1 74 (4 * s.toInt.toNat + 2)).toInt ∧ (H0.2.1 74 (4 * s.toInt.toNat + 2)).toInt ≤ 8) : ∀ (n : Nat) (H : zp_H) (lv : zp_LV), zw_W H → xFs 64 71 H0 H → xSR H S → xIn S (H.2.1 72 64).toInt → H.2.1 72 66 = Int32.ofInt 0 → 0 ≤ (H.2.1 72 67).toInt → (H.2.1 72 67).toInt + n = (H0.2.1 74 (4 * s.toInt.toNat + 2)).toInt → zp_get lv 0 = some (.inr (.inr (some 73))) → zp_get lv 1 = some (.inl s) → (∀ H1, zw_W H1 → xFs 64 71 H H1 → xR7 H1 (xVy S (fun j => H0.2.1 75 (16 * s.toInt.toNat + 2 * j)) (fun j => H0.2.1 75 (16 * s.toInt.toNat + 2 * j + 1)) n (H.2.1 72 67) (H.2.1 72 64) (H.2.1 72 69)) → P (.inl none, H1)) → zs_Safe L σ P zm_220 [] (d + 2) (46, lv, [], H, (0, 0)) := by
  intro n
  induction n with
  | zero =>
    intro H lv W hF hR hc he hk hn l0 l1 hP
    have em : H.2.1 74 (4 * s.toInt.toNat + 2) = (H0.2.1 74 (4 * s.toInt.toNat + 2)) := hF.2.2.1 74 _ (fun h9 => absurd h9.1 (by decide))
    refine zw_ld (n := 1) (k := 0) (f := zp_isR) (pc' := 47) rfl rfl l0 rfl rfl ?_
    refine zw_gI (q := 72) (pc' := 50) W rfl rfl rfl rfl rfl rfl ?_
    refine zw_ld (n := 1) (k := 0) (f := zp_isR) (pc' := 51) rfl rfl l0 rfl rfl ?_
    refine zw_ld (n := 1) (k := 1) (f := zp_isI) (pc' := 52) rfl rfl l1 rfl rfl ?_
    refine zw_c (pc' := 55) (zw_cv (q := 72) (Y := zm_212) W.1 rfl rfl zm_212_t rfl rfl) rfl rfl rfl rfl rfl (zq_marks W ⟨hs.1, by omega⟩) ?_
    rw [em]
    refine zw_bge2 (g := 177) (pc' := 58) rfl rfl rfl rfl rfl (fun h1 => ?_) (fun h1 => ?_)
    · have ei : H.2.1 72 67 = (H0.2.1 74 (4 * s.toInt.toNat + 2)) := Int32.toInt_inj.mp (by omega)
      refine zw_ld (n := 1) (k := 0) (f := zp_isR) (pc' := 178) rfl rfl l0 rfl rfl ?_
      refine zw_s (pc' := 179) rfl rfl ?_
      refine zw_pI (q := 72) (pc' := 182) W rfl rfl rfl rfl rfl rfl ?_
      refine zw_rn rfl rfl ?_
      exact hP _ (zw_W_I W) (xFs_I (xFs_r H) (by decide) (by decide)) ⟨zw_ne rfl rfl, zw_ne rfl rfl, (zw_ne rfl rfl).trans he, zw_eq, (zw_ne rfl rfl), fun h9 => absurd (show (Int32.ofInt 0).toInt = 0 by decide) h9⟩
    · omega
  | succ n ih =>
    intro H lv W hF hR hc he hk hn l0 l1 hP
    have em : H.2.1 74 (4 * s.toInt.toNat + 2) = (H0.2.1 74 (4 * s.toInt.toNat + 2)) := hF.2.2.1 74 _ (fun h9 => absurd h9.1 (by decide))
    refine zw_ld (n := 1) (k := 0) (f := zp_isR) (pc' := 47) rfl rfl l0 rfl rfl ?_
    refine zw_gI (q := 72) (pc' := 50) W rfl rfl rfl rfl rfl rfl ?_
    refine zw_ld (n := 1) (k := 0) (f := zp_isR) (pc' := 51) rfl rfl l0 rfl rfl ?_
    refine zw_ld (n := 1) (k := 1) (f := zp_isI) (pc' := 52) rfl rfl l1 rfl rfl ?_
    refine zw_c (pc' := 55) (zw_cv (q := 72) (Y := zm_212) W.1 rfl rfl zm_212_t rfl rfl) rfl rfl rfl rfl rfl (zq_marks W ⟨hs.1, by omega⟩) ?_
    rw [em]
    refine zw_bge2 (g := 177) (pc' := 58) rfl rfl rfl rfl rfl (fun h1 => ?_) (fun h1 => ?_)
    · omega
    · refine zw_ld (n := 1) (k := 0) (f := zp_isR) (pc' := 59) rfl rfl l0 rfl rfl ?_
      refine zw_ld (n := 1) (k := 0) (f := zp_isR) (pc' := 60) rfl rfl l0 rfl rfl ?_
      refine zw_gI (q := 72) (pc' := 63) W rfl rfl rfl rfl rfl rfl ?_
      refine zw_pI (q := 72) (pc' := 66) W rfl rfl rfl rfl rfl rfl ?_
      refine zw_ld (n := 1) (k := 0) (f := zp_isR) (pc' := 67) rfl rfl l0 rfl rfl ?_
      refine zw_ld (n := 1) (k := 0) (f := zp_isR) (pc' := 68) rfl rfl l0 rfl rfl ?_
      refine zw_gI (q := 72) (pc' := 71) (zw_W_I W) rfl rfl rfl rfl (zw_ne rfl rfl) rfl ?_
      refine zw_pI (q := 72) (pc' := 74) (zw_W_I W) rfl rfl rfl rfl rfl rfl ?_
      refine zw_ld (n := 1) (k := 0) (f := zp_isR) (pc' := 75) rfl rfl l0 rfl rfl ?_
      refine zw_s (pc' := 76) rfl rfl ?_
      refine zw_pI (q := 72) (pc' := 79) (zw_W_I (zw_W_I W)) rfl rfl rfl rfl rfl rfl ?_
      have e64 : (zw_I (zw_I (zw_I H 72 70 (H.2.1 72 64)) 72 71 (H.2.1 72 69)) 72 68 (Int32.ofInt 0)).2.1 72 64 = H.2.1 72 64 := zw_ne (zw_ne (zw_ne rfl rfl) rfl) rfl
      have e69 : (zw_I (zw_I (zw_I H 72 70 (H.2.1 72 64)) 72 71 (H.2.1 72 69)) 72 68 (Int32.ofInt 0)).2.1 72 69 = H.2.1 72 69 := zw_ne (zw_ne (zw_ne rfl rfl) rfl) rfl
      have e66 : (zw_I (zw_I (zw_I H 72 70 (H.2.1 72 64)) 72 71 (H.2.1 72 69)) 72 68 (Int32.ofInt 0)).2.1 72 66 = H.2.1 72 66 := zw_ne (zw_ne (zw_ne rfl rfl) rfl) rfl
      have e67 : (zw_I (zw_I (zw_I H 72 70 (H.2.1 72 64)) 72 71 (H.2.1 72 69)) 72 68 (Int32.ofInt 0)).2.1 72 67 = H.2.1 72 67 := zw_ne (zw_ne (zw_ne rfl rfl) rfl) rfl
      have e70 : (zw_I (zw_I (zw_I H 72 70 (H.2.1 72 64)) 72 71 (H.2.1 72 69)) 72 68 (Int32.ofInt 0)).2.1 72 70 = H.2.1 72 64 := zw_ne (zw_ne zw_eq rfl) rfl
      have e71 : (zw_I (zw_I (zw_I H 72 70 (H.2.1 72 64)) 72 71 (H.2.1 72 69)) 72 68 (Int32.ofInt 0)).2.1 72 71 = H.2.1 72 69 := zw_ne zw_eq rfl
      have e68 : (zw_I (zw_I (zw_I H 72 70 (H.2.1 72 64)) 72 71 (H.2.1 72 69)) 72 68 (Int32.ofInt 0)).2.1 72 68 = Int32.ofInt 0 := zw_eq
      have fr : xFs 64 71 H (zw_I (zw_I (zw_I H 72 70 (H.2.1 72 64)) 72 71 (H.2.1 72 69)) 72 68 (Int32.ofInt 0)) := xFs_I (xFs_I (xFs_I (xFs_r H) (by decide) (by decide)) (by decide) (by decide)) (by decide) (by decide)
      have em2 : ∀ j, (zw_I (zw_I (zw_I H 72 70 (H.2.1 72 64)) 72 71 (H.2.1 72 69)) 72 68 (Int32.ofInt 0)).2.1 75 j = H0.2.1 75 j := fun j => (fr.2.2.1 75 j (fun h9 => absurd h9.1 (by decide))).trans (hF.2.2.1 75 j (fun h9 => absurd h9.1 (by decide)))
      have hb := xMk_b (S := S) (d := (H0.2.1 75 (16 * s.toInt.toNat + 2 * (H.2.1 72 67).toInt.toNat)).toInt) (t := true) hS (H0.2.1 75 (16 * s.toInt.toNat + 2 * (H.2.1 72 67).toInt.toNat + 1)).toInt.toNat (Int32.ofInt 0) (H.2.1 72 64) (H.2.1 72 69) hc
      have e0 : (Int32.ofInt 0).toInt = 0 := by decide
      have ei : (H.2.1 72 67 + Int32.ofInt 1).toInt = (H.2.1 72 67).toInt + 1 := zw_p1 (by omega)
      refine xr_saL (S := S) (s := s) hS hs (H0.2.1 75 (16 * s.toInt.toNat + 2 * (H.2.1 72 67).toInt.toNat + 1)).toInt.toNat (zw_I (zw_I (zw_I H 72 70 (H.2.1 72 64)) 72 71 (H.2.1 72 69)) 72 68 (Int32.ofInt 0)) lv (zw_W_I (zw_W_I (zw_W_I W))) (xSR_f fr (by decide) hR) (by rw [e64]; exact hc) (e66.trans he) (by rw [e67]; omega) (by rw [e68, e0]; exact Int.le_refl 0) (by rw [e67, e68, em2, e0]; omega) l0 l1 (fun H1 W1 q2 q3 => ?_) (fun H1 W1 q2 q3 q4 => ?_)
      · rw [e64, e67, e68, e69, em2] at q3
        obtain ⟨r0, r1, r2, r3, r4⟩ := q3
        have fr2 : xFs 64 71 H (zw_I H1 72 67 (H1.2.1 72 67 + Int32.ofInt 1)) := xFs_I (xFs_t fr (xFs_m q2 (by decide) (by decide))) (by decide) (by decide)
        have g64 : (zw_I H1 72 67 (H1.2.1 72 67 + Int32.ofInt 1)).2.1 72 64 = H1.2.1 72 64 := zw_ne rfl rfl
        have g69 : (zw_I H1 72 67 (H1.2.1 72 67 + Int32.ofInt 1)).2.1 72 69 = H1.2.1 72 69 := zw_ne rfl rfl
        have g66 : (zw_I H1 72 67 (H1.2.1 72 67 + Int32.ofInt 1)).2.1 72 66 = Int32.ofInt 0 := (zw_ne rfl rfl).trans r3
        have g67 : (zw_I H1 72 67 (H1.2.1 72 67 + Int32.ofInt 1)).2.1 72 67 = H.2.1 72 67 + Int32.ofInt 1 := zw_eq.trans (congrArg (fun z : Int32 => z + Int32.ofInt 1) r4)
        refine zw_ld (n := 1) (k := 0) (f := zp_isR) (pc' := 165) rfl rfl l0 rfl rfl ?_
        refine zw_s (pc' := 166) rfl rfl ?_
        refine zw_gI (q := 72) (pc' := 169) W1 rfl rfl rfl rfl rfl rfl ?_
        refine zw_s (pc' := 170) rfl rfl ?_
        refine zw_iadd (pc' := 171) rfl rfl ?_
        refine zw_pI (q := 72) (pc' := 174) W1 rfl rfl rfl rfl rfl rfl ?_
        refine zw_s (pc' := 46) rfl rfl ?_
        refine ih _ _ (zw_W_I W1) (xFs_t hF fr2) (xSR_f fr2 (by decide) hR) (by rw [g64, r0]; exact hb.1) g66 (by rw [g67, ei]; omega) (by rw [g67, ei]; omega) l0 l1 (fun H2 w1 w2 w3 => hP H2 w1 (xFs_t fr2 w2) ?_)
        rw [xVy_y (S := S) (wy := (fun j => H0.2.1 75 (16 * s.toInt.toNat + 2 * j))) (st := (fun j => H0.2.1 75 (16 * s.toInt.toNat + 2 * j + 1))) (n := n) (k := H.2.1 72 67) rfl r2]
        rw [g64, g69, g67, r0, r1] at w3
        exact w3
      · rw [e64, e67, e68, e69, em2] at q3 q4
        obtain ⟨⟨r0, r1, r2, r3⟩, r4⟩ := q4
        refine hP H1 W1 (xFs_t fr (xFs_m q2 (by decide) (by decide))) ?_
        rw [xVy_n (S := S) (wy := (fun j => H0.2.1 75 (16 * s.toInt.toNat + 2 * j))) (st := (fun j => H0.2.1 75 (16 * s.toInt.toNat + 2 * j + 1))) (n := n) (k := H.2.1 72 67) rfl q3]
        exact ⟨r0, r1, r2, r3, r4, fun _ => ⟨(q2.2.2.1 72 70 (by decide)).trans e70, (q2.2.2.1 72 71 (by decide)).trans e71⟩⟩

theorem xr_sails {L : Nat} {σ : Nat → Int32} {d : Nat} {H : zp_H} {S : xSea} {s : Int32} (W : zw_W H) (hS : xOk S) (hR : xSR H S) (hs : 0 ≤ s.toInt ∧ s.toInt < 8) (hm : 0 ≤ (H.2.1 74 (4 * s.toInt.toNat + 2)).toInt ∧ (H.2.1 74 (4 * s.toInt.toNat + 2)).toInt ≤ 8) (hc : xIn S (H.2.1 74 (4 * s.toInt.toNat)).toInt) : ∃ X, zp_Call L σ (d + 3) 220 [.inr (.inr (some 73)), .inl s] H X ∧ ∃ H1, X = (.inl none, H1) ∧ zw_W H1 ∧ xFs 64 71 H H1 ∧ xR7 H1 (xVy S (fun j => H.2.1 75 (16 * s.toInt.toNat + 2 * j)) (fun j => H.2.1 75 (16 * s.toInt.toNat + 2 * j + 1)) (H.2.1 74 (4 * s.toInt.toNat + 2)).toInt.toNat (Int32.ofInt 0) (H.2.1 74 (4 * s.toInt.toNat)) (H.2.1 74 (4 * s.toInt.toNat + 1))) := by
  have j1 : (Int32.ofInt 4 * s).toInt = 4 * s.toInt := zt_mul (by decide) (by omega)
  have j2 : (Int32.ofInt 4 * s + Int32.ofInt 1).toInt = 4 * s.toInt + 1 := by rw [zt_add (by decide) (by omega), j1]
  have j3 : (Int32.ofInt 4 * s).toInt.toNat = 4 * s.toInt.toNat := by omega
  have j4 : (Int32.ofInt 4 * s + Int32.ofInt 1).toInt.toNat = 4 * s.toInt.toNat + 1 := by omega
  refine zw_met zm_220_t rfl rfl ?_
  refine zw_ld (n := 1) (k := 0) (f := zp_isR) (pc' := 1) rfl rfl rfl rfl rfl ?_
  refine zw_ld (n := 1) (k := 0) (f := zp_isR) (pc' := 2) rfl rfl rfl rfl rfl ?_
  refine zw_gR (q := 72) (pc' := 5) W rfl rfl rfl rfl (W.2 72 14 _ rfl) rfl ?_
  refine zw_s (pc' := 6) rfl rfl ?_
  refine zw_ld (n := 1) (k := 1) (f := zp_isI) (pc' := 7) rfl rfl rfl rfl rfl ?_
  refine zw_imul (pc' := 8) rfl rfl ?_
  refine zw_ia (q := 74) (pc' := 9) W rfl rfl (by decide) (⟨by omega, by show _ < ((32 : Nat) : Int); omega⟩) rfl rfl ?_
  refine zw_pI (q := 72) (pc' := 12) W rfl rfl rfl rfl rfl rfl ?_
  refine zw_ld (n := 1) (k := 0) (f := zp_isR) (pc' := 13) rfl rfl rfl rfl rfl ?_
  refine zw_ld (n := 1) (k := 0) (f := zp_isR) (pc' := 14) rfl rfl rfl rfl rfl ?_
  refine zw_gR (q := 72) (pc' := 17) (zw_W_I W) rfl rfl rfl rfl ((zw_W_I W).2 72 14 _ rfl) rfl ?_
  refine zw_s (pc' := 18) rfl rfl ?_
  refine zw_ld (n := 1) (k := 1) (f := zp_isI) (pc' := 19) rfl rfl rfl rfl rfl ?_
  refine zw_imul (pc' := 20) rfl rfl ?_
  refine zw_s (pc' := 21) rfl rfl ?_
  refine zw_iadd (pc' := 22) rfl rfl ?_
  refine zw_ia (q := 74) (pc' := 23) (zw_W_I W) rfl rfl (by decide) (⟨by omega, by show _ < ((32 : Nat) : Int); omega⟩) (zw_ne rfl rfl) rfl ?_
  refine zw_pI (q := 72) (pc' := 26) (zw_W_I W) rfl rfl rfl rfl rfl rfl ?_
  refine zw_ld (n := 1) (k := 0) (f := zp_isR) (pc' := 27) rfl rfl rfl rfl rfl ?_
  refine zw_s (pc' := 28) rfl rfl ?_
  refine zw_ld (n := 1) (k := 0) (f := zp_isR) (pc' := 29) rfl rfl rfl rfl rfl ?_
  refine zw_gI (q := 72) (pc' := 32) (zw_W_I (zw_W_I W)) rfl rfl rfl rfl (zw_ne zw_eq rfl) rfl ?_
  refine zw_lshl (pc' := 33) rfl rfl ?_
  refine zw_pL (q := 72) (pc' := 36) (zw_W_I (zw_W_I W)) rfl rfl rfl rfl rfl rfl ?_
  refine zw_ld (n := 1) (k := 0) (f := zp_isR) (pc' := 37) rfl rfl rfl rfl rfl ?_
  refine zw_s (pc' := 38) rfl rfl ?_
  refine zw_pI (q := 72) (pc' := 41) (zw_W_J (zw_W_I (zw_W_I W))) rfl rfl rfl rfl rfl rfl ?_
  refine zw_ld (n := 1) (k := 0) (f := zp_isR) (pc' := 42) rfl rfl rfl rfl rfl ?_
  refine zw_s (pc' := 43) rfl rfl ?_
  refine zw_pI (q := 72) (pc' := 46) (zw_W_I (zw_W_J (zw_W_I (zw_W_I W)))) rfl rfl rfl rfl rfl rfl ?_
  rw [j3, j4]
  have fr : xFs 64 71 H (zw_I (zw_I (zw_J (zw_I (zw_I H 72 64 (H.2.1 74 (4 * s.toInt.toNat))) 72 69 (H.2.1 74 (4 * s.toInt.toNat + 1))) 72 65 (za_shl0 (Int64.ofNat 1) (H.2.1 74 (4 * s.toInt.toNat)))) 72 66 (Int32.ofInt 0)) 72 67 (Int32.ofInt 0)) := xFs_I (xFs_I (xFs_J (xFs_I (xFs_I (xFs_r H) (by decide) (by decide)) (by decide) (by decide))) (by decide) (by decide)) (by decide) (by decide)
  have g64 : (zw_I (zw_I (zw_J (zw_I (zw_I H 72 64 (H.2.1 74 (4 * s.toInt.toNat))) 72 69 (H.2.1 74 (4 * s.toInt.toNat + 1))) 72 65 (za_shl0 (Int64.ofNat 1) (H.2.1 74 (4 * s.toInt.toNat)))) 72 66 (Int32.ofInt 0)) 72 67 (Int32.ofInt 0)).2.1 72 64 = (H.2.1 74 (4 * s.toInt.toNat)) := zw_ne (zw_ne (zw_nj (zw_ne zw_eq rfl)) rfl) rfl
  have g69 : (zw_I (zw_I (zw_J (zw_I (zw_I H 72 64 (H.2.1 74 (4 * s.toInt.toNat))) 72 69 (H.2.1 74 (4 * s.toInt.toNat + 1))) 72 65 (za_shl0 (Int64.ofNat 1) (H.2.1 74 (4 * s.toInt.toNat)))) 72 66 (Int32.ofInt 0)) 72 67 (Int32.ofInt 0)).2.1 72 69 = (H.2.1 74 (4 * s.toInt.toNat + 1)) := zw_ne (zw_ne (zw_nj zw_eq) rfl) rfl
  have g66 : (zw_I (zw_I (zw_J (zw_I (zw_I H 72 64 (H.2.1 74 (4 * s.toInt.toNat))) 72 69 (H.2.1 74 (4 * s.toInt.toNat + 1))) 72 65 (za_shl0 (Int64.ofNat 1) (H.2.1 74 (4 * s.toInt.toNat)))) 72 66 (Int32.ofInt 0)) 72 67 (Int32.ofInt 0)).2.1 72 66 = Int32.ofInt 0 := zw_ne zw_eq rfl
  have g67 : (zw_I (zw_I (zw_J (zw_I (zw_I H 72 64 (H.2.1 74 (4 * s.toInt.toNat))) 72 69 (H.2.1 74 (4 * s.toInt.toNat + 1))) 72 65 (za_shl0 (Int64.ofNat 1) (H.2.1 74 (4 * s.toInt.toNat)))) 72 66 (Int32.ofInt 0)) 72 67 (Int32.ofInt 0)).2.1 72 67 = Int32.ofInt 0 := zw_eq
  have e0 : (Int32.ofInt 0).toInt = 0 := by decide
  refine xr_saV (S := S) (H0 := H) (s := s) hS hs hm (H.2.1 74 (4 * s.toInt.toNat + 2)).toInt.toNat (zw_I (zw_I (zw_J (zw_I (zw_I H 72 64 (H.2.1 74 (4 * s.toInt.toNat))) 72 69 (H.2.1 74 (4 * s.toInt.toNat + 1))) 72 65 (za_shl0 (Int64.ofNat 1) (H.2.1 74 (4 * s.toInt.toNat)))) 72 66 (Int32.ofInt 0)) 72 67 (Int32.ofInt 0)) _ (zw_W_I (zw_W_I (zw_W_J (zw_W_I (zw_W_I W))))) fr (xSR_f fr (by decide) hR) (by rw [g64]; exact hc) g66 (by rw [g67, e0]; exact Int.le_refl 0) (by rw [g67, e0]; omega) rfl rfl (fun H2 w1 w2 w3 => ⟨H2, rfl, w1, xFs_t fr w2, ?_⟩)
  rw [g64, g69, g67] at w3
  exact w3
end
section
/-! ===== voyage ===== -/
def zm_118 : za_MI := (yL_voyage, method_10_code, 5, (some FieldType.int), 13, 2, 12, [(0, 10, 13, 18)], za_i118)
theorem zm_118_t : za_MT 118 = some zm_118 := rfl
def zm_219 : za_MI := (yX12_voyage, prog_14_method_61_code, 3, (some FieldType.int), 12, 0, 0, [], za_i219)
theorem zm_219_t : za_MT 219 = some zm_219 := rfl
/-- the sea that both sides hold -/
def xSo (H : zp_H) : xSea := ((H.2.1 72 1).toInt, (H.2.1 72 2).toInt, H.2.2.1 72 12, fun k => if k < 64 then (H.2.1 73 k).toInt else -1)
theorem xSR_o (H : zp_H) : xSR H (xSo H) := ⟨rfl, rfl, rfl, fun k hk => (show _ = (if k < 64 then (H.2.1 73 k).toInt else -1) from (if_pos hk).symm)⟩
theorem xSR_0 {H : zp_H} {S : xSea} {x : Int32} (h : xSR H S) : xSR (zw_I H 72 0 x) S := ⟨(congrArg Int32.toInt (zw_ne rfl rfl)).trans h.1, (congrArg Int32.toInt (zw_ne rfl rfl)).trans h.2.1, h.2.2.1, fun k hk => (congrArg Int32.toInt (zw_ne rfl rfl)).trans (h.2.2.2 k hk)⟩
theorem xSR_J {H : zp_H} {S : xSea} {u : Int64} (h : xSR H S) : xSR (zw_J H 104 0 u) S := ⟨h.1, h.2.1, (show (zw_J H 104 0 u).2.2.1 72 12 = H.2.2.1 72 12 from by first | exact zp_u_ne (show ¬ ((72 : Nat) = 104 ∧ (12 : Nat) = 0) by decide) | rfl).trans h.2.2.1, h.2.2.2⟩
theorem xJ_S0 {t : Nat} {H : zp_H} (hJ : yJ 0 t H) : xOk (xSo H) ∧ xSC 2 H (xSo H) := by
  have hB := hJ.1.1.1
  obtain ⟨-, q2, q3, -, q5, -⟩ := hJ.1.2.2
  have e0 : H.2.1 2 0 = H.2.1 72 1 := q2 (0, 1) (by decide)
  have e1 : H.2.1 2 1 = H.2.1 72 2 := q2 (1, 2) (by decide)
  have e3 : H.2.2.1 2 3 = H.2.2.1 72 12 := q3
  have e5 : ∀ i, i < 64 → H.2.1 4 i = H.2.1 73 i := q5
  have b0 := zB_fr1 (zB_dn (zB_Bc hB)) (p := 2) (k := 0) (r := (2, 8)) rfl
  have b0 : 2 ≤ (H.2.1 2 0).toInt ∧ (H.2.1 2 0).toInt ≤ 8 := b0
  have b1 := zB_fr1 (zB_dn (zB_Bc hB)) (p := 2) (k := 1) (r := (2, 8)) rfl
  have b1 : 2 ≤ (H.2.1 2 1).toInt ∧ (H.2.1 2 1).toInt ≤ 8 := b1
  have hQ := hB.2.2.2.2.2.2.2
  refine ⟨⟨by show 2 ≤ (H.2.1 72 1).toInt ∧ (H.2.1 72 1).toInt ≤ 8; rw [← e0]; exact b0, by show 2 ≤ (H.2.1 72 2).toInt ∧ (H.2.1 72 2).toInt ≤ 8; rw [← e1]; exact b1, fun k => ?_⟩, congrArg Int32.toInt e0, congrArg Int32.toInt e1, e3, fun k hk => ?_, fun k hk => ?_⟩
  · show -1 ≤ (if k < 64 then (H.2.1 73 k).toInt else -1) ∧ (if k < 64 then (H.2.1 73 k).toInt else -1) ≤ 3
    by_cases hk : k < 64
    · rw [if_pos hk, ← e5 k hk]
      have b := zB_ar1 (zB_dn (zB_Bc hB)) (p := 4) (t := 0) (n := 64) (i := k) (r := (-1, 3)) rfl hk (by rw [show (zB_al zB_ar 4).1 = 1 from rfl, Nat.mod_one]; rfl)
      exact b
    · rw [if_neg hk]
      exact ⟨by decide, by decide⟩
  · show (H.2.1 4 k).toInt = (if k < 64 then (H.2.1 73 k).toInt else -1)
    rw [if_pos hk, e5 k hk]
  · exact hQ.1.2 k hk

theorem xJ_S3 {t : Nat} {H : zp_H} (hJ : yJ 3 t H) : xOk (xSo H) ∧ xSC 22 H (xSo H) := by
  have hB := hJ.1.1.1
  obtain ⟨-, q2, q3, -, q5, -⟩ := hJ.1.2.2
  have e0 : H.2.1 22 0 = H.2.1 72 1 := q2 (0, 1) (by decide)
  have e1 : H.2.1 22 1 = H.2.1 72 2 := q2 (1, 2) (by decide)
  have e3 : H.2.2.1 22 3 = H.2.2.1 72 12 := q3
  have e5 : ∀ i, i < 64 → H.2.1 24 i = H.2.1 73 i := q5
  have b0 := zB_fr1 (zB_dn (zB_Bc hB)) (p := 22) (k := 0) (r := (2, 8)) rfl
  have b0 : 2 ≤ (H.2.1 22 0).toInt ∧ (H.2.1 22 0).toInt ≤ 8 := b0
  have b1 := zB_fr1 (zB_dn (zB_Bc hB)) (p := 22) (k := 1) (r := (2, 8)) rfl
  have b1 : 2 ≤ (H.2.1 22 1).toInt ∧ (H.2.1 22 1).toInt ≤ 8 := b1
  have hQ := hB.2.2.2.2.2.2.2
  refine ⟨⟨by show 2 ≤ (H.2.1 72 1).toInt ∧ (H.2.1 72 1).toInt ≤ 8; rw [← e0]; exact b0, by show 2 ≤ (H.2.1 72 2).toInt ∧ (H.2.1 72 2).toInt ≤ 8; rw [← e1]; exact b1, fun k => ?_⟩, congrArg Int32.toInt e0, congrArg Int32.toInt e1, e3, fun k hk => ?_, fun k hk => ?_⟩
  · show -1 ≤ (if k < 64 then (H.2.1 73 k).toInt else -1) ∧ (if k < 64 then (H.2.1 73 k).toInt else -1) ≤ 3
    by_cases hk : k < 64
    · rw [if_pos hk, ← e5 k hk]
      have b := zB_ar1 (zB_dn (zB_Bc hB)) (p := 24) (t := 0) (n := 64) (i := k) (r := (-1, 3)) rfl hk (by rw [show (zB_al zB_ar 24).1 = 1 from rfl, Nat.mod_one]; rfl)
      exact b
    · rw [if_neg hk]
      exact ⟨by decide, by decide⟩
  · show (H.2.1 24 k).toInt = (if k < 64 then (H.2.1 73 k).toInt else -1)
    rw [if_pos hk, e5 k hk]
  · exact hQ.2.2 k hk
end
section
/-! ===== what all voyages teach ===== -/
def zm_34 : za_MI := (yX8_wreck, prog_10_method_7_code, 1, (some FieldType.long), 8, 0, 0, [], za_i34)
theorem zm_34_t : za_MT 34 = some zm_34 := rfl
def zm_37 : za_MI := (yX10_xOf, prog_12_method_5_code, 2, (some FieldType.int), 10, 0, 0, [], za_i37)
theorem zm_37_t : za_MT 37 = some zm_37 := rfl
def zm_39 : za_MI := (yX10_yOf, prog_12_method_6_code, 2, (some FieldType.int), 10, 0, 0, [], za_i39)
theorem zm_39_t : za_MT 39 = some zm_39 := rfl
def zm_139 : za_MI := (yX1_learn, prog_3_method_3_code, 5, none, 1, 0, 0, [], za_i139)
theorem zm_139_t : za_MT 139 = some zm_139 := rfl
def zm_140 : za_MI := (yX1_lessonOf, prog_3_method_4_code, 3, (some FieldType.int), 1, 0, 0, [], za_i140)
theorem zm_140_t : za_MT 140 = some zm_140 := rfl
def zm_143 : za_MI := (yX10_farness, prog_12_method_12_code, 5, (some FieldType.int), 10, 0, 0, [], za_i143)
theorem zm_143_t : za_MT 143 = some zm_143 := rfl
def zm_144 : za_MI := (yJ9_abs_0f7a4, prog_22_method_59_code, 1, (some FieldType.int), 16, 0, 0, [], za_i144)
theorem zm_144_t : za_MT 144 = some zm_144 := rfl
def zm_145 : za_MI := (yJ9_max_7cf53, prog_22_method_65_code, 2, (some FieldType.int), 16, 0, 0, [], za_i145)
theorem zm_145_t : za_MT 145 = some zm_145 := rfl
def zm_241 : za_MI := (yX12_off, prog_14_method_5_code, 2, (some FieldType.int), 12, 0, 0, [], za_i241)
set_option maxRecDepth 8000 in
theorem zm_241_t : za_MT 241 = some zm_241 := rfl
/-- the voyage of a slate: the class's, the reference's -/
def xVyc (S : xSea) (cp : Nat) (H : zp_H) (s : Nat) : Int32 × Int32 × Int32 × Int32 × Int32 × Int32 × Int32 := xVy S (fun j => H.2.1 (cp + 5) (8 * s + j)) (fun j => H.2.1 (cp + 6) (8 * s + j)) (H.2.1 (cp + 3) s).toInt.toNat (Int32.ofInt 0) (H.2.1 (cp + 1) s) (H.2.1 (cp + 2) s)
def xVyr (S : xSea) (H : zp_H) (s : Nat) : Int32 × Int32 × Int32 × Int32 × Int32 × Int32 × Int32 := xVy S (fun j => H.2.1 75 (16 * s + 2 * j)) (fun j => H.2.1 75 (16 * s + 2 * j + 1)) (H.2.1 74 (4 * s + 2)).toInt.toNat (Int32.ofInt 0) (H.2.1 74 (4 * s)) (H.2.1 74 (4 * s + 1))
theorem xVyc_f {S : xSea} {cp s : Nat} {H H1 : zp_H} (h : ∀ p k, cp + 1 ≤ p → p ≤ cp + 6 → H1.2.1 p k = H.2.1 p k) : xVyc S cp H1 s = xVyc S cp H s := by
  have e1 : ∀ k, H1.2.1 (cp + 1) k = H.2.1 (cp + 1) k := fun k => h _ k (by omega) (by omega)
  have e2 : ∀ k, H1.2.1 (cp + 2) k = H.2.1 (cp + 2) k := fun k => h _ k (by omega) (by omega)
  have e3 : ∀ k, H1.2.1 (cp + 3) k = H.2.1 (cp + 3) k := fun k => h _ k (by omega) (by omega)
  have e5 : ∀ k, H1.2.1 (cp + 5) k = H.2.1 (cp + 5) k := fun k => h _ k (by omega) (by omega)
  have e6 : ∀ k, H1.2.1 (cp + 6) k = H.2.1 (cp + 6) k := fun k => h _ k (by omega) (by omega)
  unfold xVyc
  simp only [e1, e2, e3, e5, e6]
theorem xVyr_f {S : xSea} {s : Nat} {H H1 : zp_H} (h4 : ∀ k, H1.2.1 74 k = H.2.1 74 k) (h5 : ∀ k, H1.2.1 75 k = H.2.1 75 k) : xVyr S H1 s = xVyr S H s := by
  unfold xVyr
  simp only [h4, h5]
/-- a voyage stays at sea, and ends by 0 to 3 -/
theorem xMk_e {S : xSea} {d : Int} {t : Bool} (hS : xOk S) : ∀ (n : Nat) (i c h : Int32), xIn S c.toInt → 0 ≤ (xMk S d t n i c h).2.2.1.toInt ∧ (xMk S d t n i c h).2.2.1.toInt ≤ 3 := by
  intro n
  induction n with
  | zero => exact fun _ _ _ _ => ⟨by show 0 ≤ (Int32.ofInt 0).toInt; decide, by show (Int32.ofInt 0).toInt ≤ 3; decide⟩
  | succ n ih =>
    intro i c h hc
    have hb := xSt_b (hr := h.toInt) (d := d) (t := t) hS hc
    have ho := xSt_o (hr := h.toInt) (d := d) (t := t) hS hc
    by_cases k : (xSt S c.toInt h.toInt d t).1 = 0
    · rw [xMk_y k]
      exact ih _ _ _ (by rw [ho.2]; exact hb.1)
    · rw [xMk_n k]
      show 0 ≤ (Int32.ofInt (xSt S c.toInt h.toInt d t).1).toInt ∧ (Int32.ofInt (xSt S c.toInt h.toInt d t).1).toInt ≤ 3
      rw [ho.1]
      exact hb.2
theorem xVy_b {S : xSea} {wy st : Nat → Int32} (hS : xOk S) : ∀ (n : Nat) (k c h : Int32), xIn S c.toInt → xIn S (xVy S wy st n k c h).1.toInt ∧ 0 ≤ (xVy S wy st n k c h).2.2.1.toInt ∧ (xVy S wy st n k c h).2.2.1.toInt ≤ 3 := by
  intro n
  induction n with
  | zero => exact fun _ _ _ hc => ⟨hc, by show 0 ≤ (Int32.ofInt 0).toInt; decide, by show (Int32.ofInt 0).toInt ≤ 3; decide⟩
  | succ n ih =>
    intro k c h hc
    by_cases h4 : (xMk S (wy k.toInt.toNat).toInt true (st k.toInt.toNat).toInt.toNat (Int32.ofInt 0) c h).2.2.1.toInt = 0
    · rw [xVy_y rfl h4]
      exact ih _ _ _ (xMk_b hS _ _ _ _ hc).1
    · rw [xVy_n rfl h4]
      exact ⟨(xMk_b hS _ _ _ _ hc).1, xMk_e hS _ _ _ _ hc⟩
/-- wrecked; the rock as a bit -/
def xWr (r : Int32 × Int32 × Int32 × Int32 × Int32 × Int32 × Int32) : Bool := decide (r.2.2.1.toInt = 1 ∨ r.2.2.1.toInt = 2)
theorem xWr_t {r : Int32 × Int32 × Int32 × Int32 × Int32 × Int32 × Int32} : xWr r = true ↔ (r.2.2.1.toInt = 1 ∨ r.2.2.1.toInt = 2) := decide_eq_true_iff
def xWk (r : Int32 × Int32 × Int32 × Int32 × Int32 × Int32 × Int32) : Int64 := if xWr r = true then za_shl0 (Int64.ofNat 1) r.1 else Int64.ofNat 0
theorem xWk_tab : (List.range 64).all (fun c => decide ((lg_cmp (za_shl0 (Int64.ofNat 1) (Int32.ofNat c)) (Int64.ofNat 0)).toInt ≠ 0)) = true := by decide +kernel
theorem xWk_z {r : Int32 × Int32 × Int32 × Int32 × Int32 × Int32 × Int32} (hc : 0 ≤ r.1.toInt ∧ r.1.toInt ≤ 63) : (lg_cmp (xWk r) (Int64.ofNat 0)).toInt = 0 ↔ ¬ xWr r = true := by
  unfold xWk
  by_cases h : xWr r = true
  · rw [if_pos h]
    obtain ⟨e, e1, he⟩ := zq_i (n := 0) (m := 64) (x := r.1) (by omega) (by omega) (by decide)
    have he : r.1 = Int32.ofNat e := he
    have t := of_decide_eq_true (List.all_eq_true.mp xWk_tab e (List.mem_range.mpr e1))
    rw [he]
    exact ⟨fun h9 => absurd h9 t, fun h9 => absurd h h9⟩
  · rw [if_neg h]
    exact ⟨fun _ => h, fun _ => by decide +kernel⟩
/-- the lesson of a slate -/
def xLoL (f : Nat → Int64) (s : Int32) : Nat → Int32 → Int32
  | 0, _ => Int32.ofInt 1 <<< (s &&& 31)
  | n + 1, e => if (lg_cmp (f e.toInt.toNat) (f s.toInt.toNat)).toInt = 0 then Int32.ofInt 1 <<< (e &&& 31) else xLoL f s n (e + Int32.ofInt 1)
theorem xLoL_y {f : Nat → Int64} {s e : Int32} {n : Nat} (h : (lg_cmp (f e.toInt.toNat) (f s.toInt.toNat)).toInt = 0) : xLoL f s (n + 1) e = Int32.ofInt 1 <<< (e &&& 31) := if_pos h
theorem xLoL_n {f : Nat → Int64} {s e : Int32} {n : Nat} (h : ¬ (lg_cmp (f e.toInt.toNat) (f s.toInt.toNat)).toInt = 0) : xLoL f s (n + 1) e = xLoL f s n (e + Int32.ofInt 1) := if_neg h
def xLo (f : Nat → Int64) (s : Int32) : Int32 := if (lg_cmp (f s.toInt.toNat) (Int64.ofNat 0)).toInt = 0 then Int32.ofInt 0 else xLoL f s s.toInt.toNat (Int32.ofInt 0)
theorem xLoL_c {f g : Nat → Int64} {s : Int32} (hs : 0 ≤ s.toInt ∧ s.toInt < 8) (e : ∀ j, j ≤ s.toInt.toNat → f j = g j) : ∀ (n : Nat) (i : Int32), 0 ≤ i.toInt → i.toInt + n = s.toInt → xLoL f s n i = xLoL g s n i := by
  intro n
  induction n with
  | zero => exact fun _ _ _ => rfl
  | succ n ih =>
    intro i h1 h2
    have e3 : (i + Int32.ofInt 1).toInt = i.toInt + 1 := zw_p1 (by omega)
    have a := e i.toInt.toNat (by omega)
    have b := e s.toInt.toNat (Nat.le_refl _)
    by_cases h : (lg_cmp (f i.toInt.toNat) (f s.toInt.toNat)).toInt = 0
    · rw [xLoL_y h, xLoL_y (by rw [← a, ← b]; exact h)]
    · rw [xLoL_n h, xLoL_n (by rw [← a, ← b]; exact h)]
      exact ih _ (by omega) (by omega)
theorem xLo_c {f g : Nat → Int64} {s : Int32} (hs : 0 ≤ s.toInt ∧ s.toInt < 8) (e : ∀ j, j ≤ s.toInt.toNat → f j = g j) : xLo f s = xLo g s := by
  unfold xLo
  rw [e _ (Nat.le_refl _), xLoL_c hs e _ _ (by decide) (by rw [show (Int32.ofInt 0).toInt = 0 by decide]; omega)]
/-- no farther than r along x and along y -/
def xNb (w a b r : Int) : Bool := decide ((a % w - b % w ≤ r ∧ b % w - a % w ≤ r) ∧ (a / w - b / w ≤ r ∧ b / w - a / w ≤ r))
theorem xNb_t {w a b r : Int} : xNb w a b r = true ↔ ((a % w - b % w ≤ r ∧ b % w - a % w ≤ r) ∧ (a / w - b / w ≤ r ∧ b / w - a / w ≤ r)) := decide_eq_true_iff
theorem xNb_s {w a b r : Int} : xNb w a b r = xNb w b a r := decide_eq_decide.mpr ⟨fun h => ⟨⟨h.1.2, h.1.1⟩, h.2.2, h.2.1⟩, fun h => ⟨⟨h.1.2, h.1.1⟩, h.2.2, h.2.1⟩⟩
/-- but the ship and the desk's lessons nothing is changed -/
def xFd (H H1 : zp_H) : Prop := H1.1 = H.1 ∧ H1.2.2.2 = H.2.2.2 ∧ (∀ p k, p ≠ 54 → ¬ (61 ≤ p ∧ p ≤ 64) → ¬ (p = 60 ∧ k = 0) → H1.2.1 p k = H.2.1 p k) ∧ ∀ p k, p ≠ 54 → p ≠ 63 → H1.2.2.1 p k = H.2.2.1 p k
theorem xFd_r (H : zp_H) : xFd H H := ⟨rfl, rfl, fun _ _ _ _ _ => rfl, fun _ _ _ _ => rfl⟩
theorem xFd_t {H H1 H2 : zp_H} (h1 : xFd H H1) (h2 : xFd H1 H2) : xFd H H2 := ⟨h2.1.trans h1.1, h2.2.1.trans h1.2.1, fun p k a b c => (h2.2.2.1 p k a b c).trans (h1.2.2.1 p k a b c), fun p k a b => (h2.2.2.2 p k a b).trans (h1.2.2.2 p k a b)⟩
theorem xFd_v {H H1 : zp_H} (h : xFv 54 H H1) : xFd H H1 := ⟨h.1, h.2.1, fun p k a _ _ => h.2.2.1 p k a, fun p k a _ => h.2.2.2 p k a⟩
theorem xFd_I {q k : Nat} {H H1 : zp_H} {x : Int32} (h : xFd H H1) (hq : (61 ≤ q ∧ q ≤ 64) ∨ (q = 60 ∧ k = 0)) : xFd H (zw_I H1 q k x) := ⟨h.1, h.2.1, fun p j a b c => (y_ne (fun h9 => by obtain ⟨h8, h7⟩ := h9; omega)).trans (h.2.2.1 p j a b c), h.2.2.2⟩
theorem xFd_J {k : Nat} {H H1 : zp_H} {u : Int64} (h : xFd H H1) : xFd H (zw_J H1 63 k u) := ⟨h.1, h.2.1, h.2.2.1, fun p j a b => (zp_u_ne (fun h9 => b h9.1)).trans (h.2.2.2 p j a b)⟩
theorem xFd_W {H H1 : zp_H} (h : xFd H H1) (W : zw_W H) : zw_W H1 := ⟨h.1.trans W.1, fun p k r hr => (congrFun (congrFun h.2.1 p) k).trans (W.2 p k r hr)⟩
theorem xSC_d {p : Nat} {H H1 : zp_H} {S : xSea} (h : xFd H H1) (hp : p = 2 ∨ p = 22) (hC : xSC p H S) : xSC p H1 S := by
  have e : ∀ q k, q = p ∨ q = p + 2 → H1.2.1 q k = H.2.1 q k := fun q k hq => h.2.2.1 q k (by omega) (by omega) (by omega)
  have e1 : ∀ q k, q = p ∨ q = p + 1 → H1.2.2.1 q k = H.2.2.1 q k := fun q k hq => h.2.2.2 q k (by omega) (by omega)
  refine ⟨(congrArg Int32.toInt (e p 0 (Or.inl rfl))).trans hC.1, (congrArg Int32.toInt (e p 1 (Or.inl rfl))).trans hC.2.1, (e1 p 3 (Or.inl rfl)).trans hC.2.2.1, fun k hk => (congrArg Int32.toInt (e (p + 2) k (Or.inr rfl))).trans (hC.2.2.2.1 k hk), fun k hk => ?_⟩
  rw [e p 0 (Or.inl rfl), e p 1 (Or.inl rfl)]
  exact (e1 (p + 1) k (Or.inr rfl)).trans (hC.2.2.2.2 k hk)
theorem xq_61 {H1 : zp_H} {x j : Nat} {a b e : Int32} {u : Int64} : (zw_I (zw_J (zw_I (zw_I H1 61 x a) 62 x b) 63 x u) 64 x e).2.1 61 j = if j = x then a else H1.2.1 61 j := by
  have e1 : (zw_I (zw_J (zw_I (zw_I H1 61 x a) 62 x b) 63 x u) 64 x e).2.1 61 j = (zw_I H1 61 x a).2.1 61 j := (y_ne (H := zw_J (zw_I (zw_I H1 61 x a) 62 x b) 63 x u) (fun h8 => absurd h8.1 (by decide))).trans (show (zw_I (zw_I H1 61 x a) 62 x b).2.1 61 j = (zw_I H1 61 x a).2.1 61 j from y_ne (H := zw_I H1 61 x a) (fun h8 => absurd h8.1 (by decide)))
  rw [e1]
  by_cases h : j = x
  · rw [if_pos h, h]
    exact zw_eq
  · rw [if_neg h]
    exact y_ne (H := H1) (fun h8 => h h8.2)
theorem xq_62 {H1 : zp_H} {x j : Nat} {a b e : Int32} {u : Int64} : (zw_I (zw_J (zw_I (zw_I H1 61 x a) 62 x b) 63 x u) 64 x e).2.1 62 j = if j = x then b else H1.2.1 62 j := by
  have e1 : (zw_I (zw_J (zw_I (zw_I H1 61 x a) 62 x b) 63 x u) 64 x e).2.1 62 j = (zw_I (zw_I H1 61 x a) 62 x b).2.1 62 j := y_ne (H := zw_J (zw_I (zw_I H1 61 x a) 62 x b) 63 x u) (fun h8 => absurd h8.1 (by decide))
  rw [e1]
  by_cases h : j = x
  · rw [if_pos h, h]
    exact zw_eq
  · rw [if_neg h]
    exact (y_ne (H := zw_I H1 61 x a) (fun h8 => h h8.2)).trans (y_ne (H := H1) (fun h8 => absurd h8.1 (by decide)))
theorem xq_64 {H1 : zp_H} {x j : Nat} {a b e : Int32} {u : Int64} : (zw_I (zw_J (zw_I (zw_I H1 61 x a) 62 x b) 63 x u) 64 x e).2.1 64 j = if j = x then e else H1.2.1 64 j := by
  by_cases h : j = x
  · rw [if_pos h, h]
    exact zw_eq
  · rw [if_neg h]
    exact (y_ne (H := zw_J (zw_I (zw_I H1 61 x a) 62 x b) 63 x u) (fun h8 => h h8.2)).trans (show (zw_I (zw_I H1 61 x a) 62 x b).2.1 64 j = H1.2.1 64 j from (y_ne (H := zw_I H1 61 x a) (fun h8 => absurd h8.1 (by decide))).trans (y_ne (H := H1) (fun h8 => absurd h8.1 (by decide))))
/-- what the desk holds of slate j -/
def xLd (S : xSea) (cp : Nat) (H0 H : zp_H) (j : Nat) : Prop := H.2.1 61 j = H0.2.1 (cp + 1) j ∧ H.2.1 62 j = (xVyc S cp H0 j).1 ∧ H.2.2.1 63 j = xWk (xVyc S cp H0 j) ∧ H.2.1 64 j = xLo (fun k => xWk (xVyc S cp H0 k)) (Int32.ofInt j)

theorem yc_ab {L : Nat} {σ : Nat → Int32} {d : Nat} {H : zp_H} {x : Int32} : zp_Call L σ (d + 1) 144 [.inl x] H (.inl (some (.inl (if x.toInt < 0 then -x else x))), H) := by
  refine zw_ex (zw_met zm_144_t rfl rfl ?_)
  refine zw_ld (n := 1) (k := 0) (f := zp_isI) (pc' := 1) rfl rfl rfl rfl rfl ?_
  refine zw_bge1 (g := 9) (pc' := 4) rfl rfl rfl rfl (fun h1 => ?_) (fun h1 => ?_)
  · refine zw_ld (n := 1) (k := 0) (f := zp_isI) (pc' := 10) rfl rfl rfl rfl rfl ?_
    refine zw_ri rfl rfl ?_
    exact x_rv (if_neg (show ¬ x.toInt < 0 by omega)).symm
  · refine zw_ld (n := 1) (k := 0) (f := zp_isI) (pc' := 5) rfl rfl rfl rfl rfl ?_
    refine zw_s (pc' := 6) rfl rfl ?_
    refine zw_s (pc' := 10) rfl rfl ?_
    refine zw_ri rfl rfl ?_
    exact x_rv (if_pos h1).symm

theorem yc_mx {L : Nat} {σ : Nat → Int32} {d : Nat} {H : zp_H} {x y : Int32} : zp_Call L σ (d + 1) 145 [.inl x, .inl y] H (.inl (some (.inl (if x.toInt < y.toInt then y else x))), H) := by
  refine zw_ex (zw_met zm_145_t rfl rfl ?_)
  refine zw_ld (n := 1) (k := 0) (f := zp_isI) (pc' := 1) rfl rfl rfl rfl rfl ?_
  refine zw_ld (n := 1) (k := 1) (f := zp_isI) (pc' := 2) rfl rfl rfl rfl rfl ?_
  refine zw_blt2 (g := 9) (pc' := 5) rfl rfl rfl rfl rfl (fun h1 => ?_) (fun h1 => ?_)
  · refine zw_ld (n := 1) (k := 1) (f := zp_isI) (pc' := 10) rfl rfl rfl rfl rfl ?_
    refine zw_ri rfl rfl ?_
    exact x_rv (if_pos h1).symm
  · refine zw_ld (n := 1) (k := 0) (f := zp_isI) (pc' := 6) rfl rfl rfl rfl rfl ?_
    refine zw_s (pc' := 10) rfl rfl ?_
    refine zw_ri rfl rfl ?_
    exact x_rv (if_neg (show ¬ x.toInt < y.toInt by omega)).symm

theorem x_neg {x : Int32} (h : -2147483647 ≤ x.toInt) : (-x).toInt = -x.toInt := by
  have h1 : x.toInt ≤ 2147483647 := Int32.toInt_le x
  rw [Int32.toInt_neg]
  exact Int.bmod_eq_of_le (by omega) (by omega)
theorem x_mle {x w : Int} (h : 0 ≤ x) (hw : 0 ≤ w) : x % w ≤ x := by
  have a : w * (x / w) + x % w = x := Int.mul_ediv_add_emod _ _
  have b : 0 ≤ w * (x / w) := Int.mul_nonneg hw (Int.ediv_nonneg h hw)
  omega
theorem x_abs {x : Int32} {r : Int} (h : -2147483647 ≤ x.toInt) : (if x.toInt < 0 then -x else x).toInt ≤ r ↔ (x.toInt ≤ r ∧ -x.toInt ≤ r) := by
  by_cases h1 : x.toInt < 0
  · rw [if_pos h1, x_neg h]
    omega
  · rw [if_neg h1]
    omega
theorem x_max {x y : Int32} {r : Int} : (if x.toInt < y.toInt then y else x).toInt ≤ r ↔ (x.toInt ≤ r ∧ y.toInt ≤ r) := by
  by_cases h1 : x.toInt < y.toInt
  · rw [if_pos h1]
    omega
  · rw [if_neg h1]
    omega

theorem yc_xOf2 {L : Nat} {σ : Nat → Int32} {d : Nat} {H : zp_H} {x : Int32} (W : zw_W H) (hw : 2 ≤ (H.2.1 2 0).toInt) (hx : 0 ≤ x.toInt) : ∃ X, zp_Call L σ (d + 1) 37 [.inr (.inr (some 3)), .inl x] H X ∧ ∃ v : Int32, X = (.inl (some (.inl v)), H) ∧ v.toInt = x.toInt % (H.2.1 2 0).toInt := by
  have w0 : H.2.1 2 0 ≠ 0 := fun h9 => by
    have : (H.2.1 2 0).toInt = 0 := congrArg Int32.toInt h9
    omega
  refine zw_met zm_37_t rfl rfl ?_
  refine zw_ld (n := 1) (k := 0) (f := zp_isR) (pc' := 1) rfl rfl rfl rfl rfl ?_
  refine zw_gI (q := 2) (pc' := 4) W rfl rfl rfl rfl rfl rfl ?_
  refine zw_ble1 (g := 16) (pc' := 7) rfl rfl rfl rfl (fun h1 => ?_) (fun h1 => ?_)
  · have h1 : (H.2.1 2 0).toInt ≤ 0 := h1
    omega
  · refine zw_ld (n := 1) (k := 1) (f := zp_isI) (pc' := 8) rfl rfl rfl rfl rfl ?_
    refine zw_ld (n := 1) (k := 0) (f := zp_isR) (pc' := 9) rfl rfl rfl rfl rfl ?_
    refine zw_gI (q := 2) (pc' := 12) W rfl rfl rfl rfl rfl rfl ?_
    refine zw_rem (pc' := 13) rfl (w0) rfl ?_
    refine zw_s (pc' := 17) rfl rfl ?_
    refine zw_ri rfl rfl ?_
    exact ⟨_, rfl, x_rem hx (by omega)⟩

theorem yc_yOf2 {L : Nat} {σ : Nat → Int32} {d : Nat} {H : zp_H} {x : Int32} (W : zw_W H) (hw : 2 ≤ (H.2.1 2 0).toInt) (hx : 0 ≤ x.toInt) : ∃ X, zp_Call L σ (d + 1) 39 [.inr (.inr (some 3)), .inl x] H X ∧ ∃ v : Int32, X = (.inl (some (.inl v)), H) ∧ v.toInt = x.toInt / (H.2.1 2 0).toInt := by
  have w0 : H.2.1 2 0 ≠ 0 := fun h9 => by
    have : (H.2.1 2 0).toInt = 0 := congrArg Int32.toInt h9
    omega
  refine zw_met zm_39_t rfl rfl ?_
  refine zw_ld (n := 1) (k := 0) (f := zp_isR) (pc' := 1) rfl rfl rfl rfl rfl ?_
  refine zw_gI (q := 2) (pc' := 4) W rfl rfl rfl rfl rfl rfl ?_
  refine zw_ble1 (g := 16) (pc' := 7) rfl rfl rfl rfl (fun h1 => ?_) (fun h1 => ?_)
  · have h1 : (H.2.1 2 0).toInt ≤ 0 := h1
    omega
  · refine zw_ld (n := 1) (k := 1) (f := zp_isI) (pc' := 8) rfl rfl rfl rfl rfl ?_
    refine zw_ld (n := 1) (k := 0) (f := zp_isR) (pc' := 9) rfl rfl rfl rfl rfl ?_
    refine zw_gI (q := 2) (pc' := 12) W rfl rfl rfl rfl rfl rfl ?_
    refine zw_div (pc' := 13) rfl (w0) rfl ?_
    refine zw_s (pc' := 17) rfl rfl ?_
    refine zw_ri rfl rfl ?_
    exact ⟨_, rfl, x_div hx (by omega)⟩

theorem yc_far2 {L : Nat} {σ : Nat → Int32} {d : Nat} {H : zp_H} {x y : Int32} (W : zw_W H) (hw : 2 ≤ (H.2.1 2 0).toInt) (hx : 0 ≤ x.toInt ∧ x.toInt ≤ 63) (hy : 0 ≤ y.toInt ∧ y.toInt ≤ 63) : ∃ X, zp_Call L σ (d + 2) 143 [.inr (.inr (some 3)), .inl x, .inl y] H X ∧ ∃ v : Int32, X = (.inl (some (.inl v)), H) ∧ ∀ r : Int, v.toInt ≤ r ↔ xNb (H.2.1 2 0).toInt x.toInt y.toInt r = true := by
  obtain ⟨_, a1, a, rfl, a2⟩ := yc_xOf2 (L := L) (σ := σ) (d := d) (x := x) W hw hx.1
  obtain ⟨_, b1, b, rfl, b2⟩ := yc_xOf2 (L := L) (σ := σ) (d := d) (x := y) W hw hy.1
  obtain ⟨_, a3, a4, rfl, a5⟩ := yc_yOf2 (L := L) (σ := σ) (d := d) (x := x) W hw hx.1
  obtain ⟨_, b3, b4, rfl, b5⟩ := yc_yOf2 (L := L) (σ := σ) (d := d) (x := y) W hw hy.1
  have a2l : 0 ≤ x.toInt % (H.2.1 2 0).toInt := Int.emod_nonneg _ (by omega)
  have a2u : x.toInt % (H.2.1 2 0).toInt ≤ x.toInt := x_mle hx.1 (by omega)
  have b2l : 0 ≤ y.toInt % (H.2.1 2 0).toInt := Int.emod_nonneg _ (by omega)
  have b2u : y.toInt % (H.2.1 2 0).toInt ≤ y.toInt := x_mle hy.1 (by omega)
  have a5l : 0 ≤ x.toInt / (H.2.1 2 0).toInt := Int.ediv_nonneg hx.1 (by omega)
  have a5u : x.toInt / (H.2.1 2 0).toInt ≤ x.toInt := Int.ediv_le_self _ hx.1
  have b5l : 0 ≤ y.toInt / (H.2.1 2 0).toInt := Int.ediv_nonneg hy.1 (by omega)
  have b5u : y.toInt / (H.2.1 2 0).toInt ≤ y.toInt := Int.ediv_le_self _ hy.1
  have s1 : (a - b).toInt = a.toInt - b.toInt := zq_sub (by omega) (by omega)
  have s2 : (a4 - b4).toInt = a4.toInt - b4.toInt := zq_sub (by omega) (by omega)
  refine zw_met zm_143_t rfl rfl ?_
  refine zw_ld (n := 1) (k := 0) (f := zp_isR) (pc' := 1) rfl rfl rfl rfl rfl ?_
  refine zw_ld (n := 1) (k := 1) (f := zp_isI) (pc' := 2) rfl rfl rfl rfl rfl ?_
  refine zw_c (pc' := 5) (zw_cv (q := 2) (Y := zm_37) W.1 rfl rfl zm_37_t rfl rfl) rfl rfl rfl rfl rfl (a1) ?_
  refine zw_ld (n := 1) (k := 0) (f := zp_isR) (pc' := 6) rfl rfl rfl rfl rfl ?_
  refine zw_ld (n := 1) (k := 2) (f := zp_isI) (pc' := 7) rfl rfl rfl rfl rfl ?_
  refine zw_c (pc' := 10) (zw_cv (q := 2) (Y := zm_37) W.1 rfl rfl zm_37_t rfl rfl) rfl rfl rfl rfl rfl (b1) ?_
  refine zw_isub (pc' := 11) rfl rfl ?_
  refine zw_c (pc' := 14) (zw_cs (Y := zm_144) rfl rfl zm_144_t) rfl rfl rfl rfl rfl (yc_ab) ?_
  refine zw_st (n := 1) (k := 3) (f := zp_isI) (pc' := 15) rfl rfl rfl rfl rfl ?_
  refine zw_ld (n := 1) (k := 0) (f := zp_isR) (pc' := 16) rfl rfl (zw_gt rfl rfl rfl) rfl rfl ?_
  refine zw_ld (n := 1) (k := 1) (f := zp_isI) (pc' := 17) rfl rfl (zw_gt rfl rfl rfl) rfl rfl ?_
  refine zw_c (pc' := 20) (zw_cv (q := 2) (Y := zm_39) W.1 rfl rfl zm_39_t rfl rfl) rfl rfl rfl rfl rfl (a3) ?_
  refine zw_ld (n := 1) (k := 0) (f := zp_isR) (pc' := 21) rfl rfl (zw_gt rfl rfl rfl) rfl rfl ?_
  refine zw_ld (n := 1) (k := 2) (f := zp_isI) (pc' := 22) rfl rfl (zw_gt rfl rfl rfl) rfl rfl ?_
  refine zw_c (pc' := 25) (zw_cv (q := 2) (Y := zm_39) W.1 rfl rfl zm_39_t rfl rfl) rfl rfl rfl rfl rfl (b3) ?_
  refine zw_isub (pc' := 26) rfl rfl ?_
  refine zw_c (pc' := 29) (zw_cs (Y := zm_144) rfl rfl zm_144_t) rfl rfl rfl rfl rfl (yc_ab) ?_
  refine zw_st (n := 2) (k := 4) (f := zp_isI) (pc' := 31) rfl rfl rfl rfl rfl ?_
  refine zw_ld (n := 1) (k := 3) (f := zp_isI) (pc' := 32) rfl rfl (zw_gt zw_g1 rfl rfl) rfl rfl ?_
  refine zw_ld (n := 2) (k := 4) (f := zp_isI) (pc' := 34) rfl rfl zw_g1 rfl rfl ?_
  refine zw_c (pc' := 37) (zw_cs (Y := zm_145) rfl rfl zm_145_t) rfl rfl rfl rfl rfl (yc_mx) ?_
  refine zw_ri rfl rfl ?_
  refine ⟨_, rfl, fun r => x_max.trans ?_⟩
  rw [x_abs (by omega), x_abs (by omega), s1, s2, a2, b2, a5, b5, xNb_t]
  omega

theorem yc_xOf22 {L : Nat} {σ : Nat → Int32} {d : Nat} {H : zp_H} {x : Int32} (W : zw_W H) (hw : 2 ≤ (H.2.1 22 0).toInt) (hx : 0 ≤ x.toInt) : ∃ X, zp_Call L σ (d + 1) 37 [.inr (.inr (some 23)), .inl x] H X ∧ ∃ v : Int32, X = (.inl (some (.inl v)), H) ∧ v.toInt = x.toInt % (H.2.1 22 0).toInt := by
  have w0 : H.2.1 22 0 ≠ 0 := fun h9 => by
    have : (H.2.1 22 0).toInt = 0 := congrArg Int32.toInt h9
    omega
  refine zw_met zm_37_t rfl rfl ?_
  refine zw_ld (n := 1) (k := 0) (f := zp_isR) (pc' := 1) rfl rfl rfl rfl rfl ?_
  refine zw_gI (q := 22) (pc' := 4) W rfl rfl rfl rfl rfl rfl ?_
  refine zw_ble1 (g := 16) (pc' := 7) rfl rfl rfl rfl (fun h1 => ?_) (fun h1 => ?_)
  · have h1 : (H.2.1 22 0).toInt ≤ 0 := h1
    omega
  · refine zw_ld (n := 1) (k := 1) (f := zp_isI) (pc' := 8) rfl rfl rfl rfl rfl ?_
    refine zw_ld (n := 1) (k := 0) (f := zp_isR) (pc' := 9) rfl rfl rfl rfl rfl ?_
    refine zw_gI (q := 22) (pc' := 12) W rfl rfl rfl rfl rfl rfl ?_
    refine zw_rem (pc' := 13) rfl (w0) rfl ?_
    refine zw_s (pc' := 17) rfl rfl ?_
    refine zw_ri rfl rfl ?_
    exact ⟨_, rfl, x_rem hx (by omega)⟩

theorem yc_yOf22 {L : Nat} {σ : Nat → Int32} {d : Nat} {H : zp_H} {x : Int32} (W : zw_W H) (hw : 2 ≤ (H.2.1 22 0).toInt) (hx : 0 ≤ x.toInt) : ∃ X, zp_Call L σ (d + 1) 39 [.inr (.inr (some 23)), .inl x] H X ∧ ∃ v : Int32, X = (.inl (some (.inl v)), H) ∧ v.toInt = x.toInt / (H.2.1 22 0).toInt := by
  have w0 : H.2.1 22 0 ≠ 0 := fun h9 => by
    have : (H.2.1 22 0).toInt = 0 := congrArg Int32.toInt h9
    omega
  refine zw_met zm_39_t rfl rfl ?_
  refine zw_ld (n := 1) (k := 0) (f := zp_isR) (pc' := 1) rfl rfl rfl rfl rfl ?_
  refine zw_gI (q := 22) (pc' := 4) W rfl rfl rfl rfl rfl rfl ?_
  refine zw_ble1 (g := 16) (pc' := 7) rfl rfl rfl rfl (fun h1 => ?_) (fun h1 => ?_)
  · have h1 : (H.2.1 22 0).toInt ≤ 0 := h1
    omega
  · refine zw_ld (n := 1) (k := 1) (f := zp_isI) (pc' := 8) rfl rfl rfl rfl rfl ?_
    refine zw_ld (n := 1) (k := 0) (f := zp_isR) (pc' := 9) rfl rfl rfl rfl rfl ?_
    refine zw_gI (q := 22) (pc' := 12) W rfl rfl rfl rfl rfl rfl ?_
    refine zw_div (pc' := 13) rfl (w0) rfl ?_
    refine zw_s (pc' := 17) rfl rfl ?_
    refine zw_ri rfl rfl ?_
    exact ⟨_, rfl, x_div hx (by omega)⟩

theorem yc_far22 {L : Nat} {σ : Nat → Int32} {d : Nat} {H : zp_H} {x y : Int32} (W : zw_W H) (hw : 2 ≤ (H.2.1 22 0).toInt) (hx : 0 ≤ x.toInt ∧ x.toInt ≤ 63) (hy : 0 ≤ y.toInt ∧ y.toInt ≤ 63) : ∃ X, zp_Call L σ (d + 2) 143 [.inr (.inr (some 23)), .inl x, .inl y] H X ∧ ∃ v : Int32, X = (.inl (some (.inl v)), H) ∧ ∀ r : Int, v.toInt ≤ r ↔ xNb (H.2.1 22 0).toInt x.toInt y.toInt r = true := by
  obtain ⟨_, a1, a, rfl, a2⟩ := yc_xOf22 (L := L) (σ := σ) (d := d) (x := x) W hw hx.1
  obtain ⟨_, b1, b, rfl, b2⟩ := yc_xOf22 (L := L) (σ := σ) (d := d) (x := y) W hw hy.1
  obtain ⟨_, a3, a4, rfl, a5⟩ := yc_yOf22 (L := L) (σ := σ) (d := d) (x := x) W hw hx.1
  obtain ⟨_, b3, b4, rfl, b5⟩ := yc_yOf22 (L := L) (σ := σ) (d := d) (x := y) W hw hy.1
  have a2l : 0 ≤ x.toInt % (H.2.1 22 0).toInt := Int.emod_nonneg _ (by omega)
  have a2u : x.toInt % (H.2.1 22 0).toInt ≤ x.toInt := x_mle hx.1 (by omega)
  have b2l : 0 ≤ y.toInt % (H.2.1 22 0).toInt := Int.emod_nonneg _ (by omega)
  have b2u : y.toInt % (H.2.1 22 0).toInt ≤ y.toInt := x_mle hy.1 (by omega)
  have a5l : 0 ≤ x.toInt / (H.2.1 22 0).toInt := Int.ediv_nonneg hx.1 (by omega)
  have a5u : x.toInt / (H.2.1 22 0).toInt ≤ x.toInt := Int.ediv_le_self _ hx.1
  have b5l : 0 ≤ y.toInt / (H.2.1 22 0).toInt := Int.ediv_nonneg hy.1 (by omega)
  have b5u : y.toInt / (H.2.1 22 0).toInt ≤ y.toInt := Int.ediv_le_self _ hy.1
  have s1 : (a - b).toInt = a.toInt - b.toInt := zq_sub (by omega) (by omega)
  have s2 : (a4 - b4).toInt = a4.toInt - b4.toInt := zq_sub (by omega) (by omega)
  refine zw_met zm_143_t rfl rfl ?_
  refine zw_ld (n := 1) (k := 0) (f := zp_isR) (pc' := 1) rfl rfl rfl rfl rfl ?_
  refine zw_ld (n := 1) (k := 1) (f := zp_isI) (pc' := 2) rfl rfl rfl rfl rfl ?_
  refine zw_c (pc' := 5) (zw_cv (q := 22) (Y := zm_37) W.1 rfl rfl zm_37_t rfl rfl) rfl rfl rfl rfl rfl (a1) ?_
  refine zw_ld (n := 1) (k := 0) (f := zp_isR) (pc' := 6) rfl rfl rfl rfl rfl ?_
  refine zw_ld (n := 1) (k := 2) (f := zp_isI) (pc' := 7) rfl rfl rfl rfl rfl ?_
  refine zw_c (pc' := 10) (zw_cv (q := 22) (Y := zm_37) W.1 rfl rfl zm_37_t rfl rfl) rfl rfl rfl rfl rfl (b1) ?_
  refine zw_isub (pc' := 11) rfl rfl ?_
  refine zw_c (pc' := 14) (zw_cs (Y := zm_144) rfl rfl zm_144_t) rfl rfl rfl rfl rfl (yc_ab) ?_
  refine zw_st (n := 1) (k := 3) (f := zp_isI) (pc' := 15) rfl rfl rfl rfl rfl ?_
  refine zw_ld (n := 1) (k := 0) (f := zp_isR) (pc' := 16) rfl rfl (zw_gt rfl rfl rfl) rfl rfl ?_
  refine zw_ld (n := 1) (k := 1) (f := zp_isI) (pc' := 17) rfl rfl (zw_gt rfl rfl rfl) rfl rfl ?_
  refine zw_c (pc' := 20) (zw_cv (q := 22) (Y := zm_39) W.1 rfl rfl zm_39_t rfl rfl) rfl rfl rfl rfl rfl (a3) ?_
  refine zw_ld (n := 1) (k := 0) (f := zp_isR) (pc' := 21) rfl rfl (zw_gt rfl rfl rfl) rfl rfl ?_
  refine zw_ld (n := 1) (k := 2) (f := zp_isI) (pc' := 22) rfl rfl (zw_gt rfl rfl rfl) rfl rfl ?_
  refine zw_c (pc' := 25) (zw_cv (q := 22) (Y := zm_39) W.1 rfl rfl zm_39_t rfl rfl) rfl rfl rfl rfl rfl (b3) ?_
  refine zw_isub (pc' := 26) rfl rfl ?_
  refine zw_c (pc' := 29) (zw_cs (Y := zm_144) rfl rfl zm_144_t) rfl rfl rfl rfl rfl (yc_ab) ?_
  refine zw_st (n := 2) (k := 4) (f := zp_isI) (pc' := 31) rfl rfl rfl rfl rfl ?_
  refine zw_ld (n := 1) (k := 3) (f := zp_isI) (pc' := 32) rfl rfl (zw_gt zw_g1 rfl rfl) rfl rfl ?_
  refine zw_ld (n := 2) (k := 4) (f := zp_isI) (pc' := 34) rfl rfl zw_g1 rfl rfl ?_
  refine zw_c (pc' := 37) (zw_cs (Y := zm_145) rfl rfl zm_145_t) rfl rfl rfl rfl rfl (yc_mx) ?_
  refine zw_ri rfl rfl ?_
  refine ⟨_, rfl, fun r => x_max.trans ?_⟩
  rw [x_abs (by omega), x_abs (by omega), s1, s2, a2, b2, a5, b5, xNb_t]
  omega

theorem x_rw {u v : Int64} {H : zp_H} (h : v = u) : ((.inl (some (.inr (.inl u))), H) : zp_X) = (.inl (some (.inr (.inl v))), H) := by rw [h]

theorem yc_wr {L : Nat} {σ : Nat → Int32} {d : Nat} {H : zp_H} (W : zw_W H) : zp_Call L σ (d + 2) 34 [.inr (.inr (some 55))] H (.inl (some (.inr (.inl (if (H.2.1 54 2).toInt = 1 ∨ (H.2.1 54 2).toInt = 2 then za_shl0 (Int64.ofNat 1) (H.2.1 54 0) else Int64.ofNat 0)))), H) := by
  refine zw_ex (zw_met zm_34_t rfl rfl ?_)
  refine zw_ld (n := 1) (k := 0) (f := zp_isR) (pc' := 1) rfl rfl rfl rfl rfl ?_
  refine zw_gI (q := 54) (pc' := 4) W rfl rfl rfl rfl rfl rfl ?_
  refine zw_s (pc' := 5) rfl rfl ?_
  refine zw_beq2 (g := 16) (pc' := 8) rfl rfl rfl rfl (rfl : _ = (1 : Int)) (fun h1 => ?_) (fun h1 => ?_)
  · refine zw_ld (n := 1) (k := 0) (f := zp_isR) (pc' := 17) rfl rfl rfl rfl rfl ?_
    refine zw_gI (q := 54) (pc' := 20) W rfl rfl rfl rfl rfl rfl ?_
    refine zw_cx (pc' := 23) (zw_csx (Y := zm_4) rfl rfl zm_4_t) rfl rfl rfl rfl rfl (zn_bit) ?_
    refine zw_s (pc' := 27) rfl rfl ?_
    refine zw_rl rfl rfl ?_
    exact x_rw (if_pos (Or.inl h1))
  · refine zw_ld (n := 1) (k := 0) (f := zp_isR) (pc' := 9) rfl rfl rfl rfl rfl ?_
    refine zw_gI (q := 54) (pc' := 12) W rfl rfl rfl rfl rfl rfl ?_
    refine zw_s (pc' := 13) rfl rfl ?_
    refine zw_bne2 (g := 26) (pc' := 16) rfl rfl rfl rfl (rfl : _ = (2 : Int)) (fun h2 => ?_) (fun h2 => ?_)
    · refine zw_s (pc' := 27) rfl rfl ?_
      refine zw_rl rfl rfl ?_
      exact x_rw (if_neg (fun h9 => h9.elim h1 h2))
    · refine zw_ld (n := 1) (k := 0) (f := zp_isR) (pc' := 17) rfl rfl rfl rfl rfl ?_
      refine zw_gI (q := 54) (pc' := 20) W rfl rfl rfl rfl rfl rfl ?_
      refine zw_cx (pc' := 23) (zw_csx (Y := zm_4) rfl rfl zm_4_t) rfl rfl rfl rfl rfl (zn_bit) ?_
      refine zw_s (pc' := 27) rfl rfl ?_
      refine zw_rl rfl rfl ?_
      exact x_rw (if_pos (Or.inr h2))

theorem yc_loL {L : Nat} {σ : Nat → Int32} {d : Nat} {P : zp_X → Prop} {H : zp_H} {s : Int32} (W : zw_W H) (hs : 0 ≤ s.toInt ∧ s.toInt < 8) : ∀ (n : Nat) (lv : zp_LV) (e : Int32), 0 ≤ e.toInt → e.toInt + n = s.toInt → zp_get lv 0 = some (.inr (.inr (some 61))) → zp_get lv 1 = some (.inl s) → zp_get lv 2 = some (.inl e) → P (.inl (some (.inl (xLoL (fun k => H.2.2.1 63 k) s n e))), H) → zs_Safe L σ P zm_140 [] d (15, lv, [], H, (0, 0)) := by
  intro n
  induction n with
  | zero =>
    intro lv e h5 hn l0 l1 l2 hP
    refine zw_ld (n := 1) (k := 2) (f := zp_isI) (pc' := 16) rfl rfl l2 rfl rfl ?_
    refine zw_ld (n := 1) (k := 1) (f := zp_isI) (pc' := 17) rfl rfl l1 rfl rfl ?_
    refine zw_bge2 (g := 46) (pc' := 20) rfl rfl rfl rfl rfl (fun h1 => ?_) (fun h1 => ?_)
    · refine zw_s (pc' := 47) rfl rfl ?_
      refine zw_ld (n := 1) (k := 1) (f := zp_isI) (pc' := 48) rfl rfl l1 rfl rfl ?_
      refine zw_ishl (pc' := 49) rfl rfl ?_
      refine zw_ri rfl rfl ?_
      exact hP
    · omega
  | succ n ih =>
    intro lv e h5 hn l0 l1 l2 hP
    refine zw_ld (n := 1) (k := 2) (f := zp_isI) (pc' := 16) rfl rfl l2 rfl rfl ?_
    refine zw_ld (n := 1) (k := 1) (f := zp_isI) (pc' := 17) rfl rfl l1 rfl rfl ?_
    refine zw_bge2 (g := 46) (pc' := 20) rfl rfl rfl rfl rfl (fun h1 => ?_) (fun h1 => ?_)
    · omega
    · have ee : (e + Int32.ofInt 1).toInt = e.toInt + 1 := zw_p1 (by omega)
      refine zw_ld (n := 1) (k := 0) (f := zp_isR) (pc' := 21) rfl rfl l0 rfl rfl ?_
      refine zw_gR (q := 60) (pc' := 24) W rfl rfl rfl rfl (W.2 60 3 _ rfl) rfl ?_
      refine zw_ld (n := 1) (k := 2) (f := zp_isI) (pc' := 25) rfl rfl l2 rfl rfl ?_
      refine zw_la (q := 63) (pc' := 26) W rfl rfl (⟨h5, by show _ < ((8 : Nat) : Int); omega⟩) rfl ?_
      refine zw_ld (n := 1) (k := 0) (f := zp_isR) (pc' := 27) rfl rfl l0 rfl rfl ?_
      refine zw_gR (q := 60) (pc' := 30) W rfl rfl rfl rfl (W.2 60 3 _ rfl) rfl ?_
      refine zw_ld (n := 1) (k := 1) (f := zp_isI) (pc' := 31) rfl rfl l1 rfl rfl ?_
      refine zw_la (q := 63) (pc' := 32) W rfl rfl (⟨hs.1, by show _ < ((8 : Nat) : Int); omega⟩) rfl ?_
      refine zw_s (pc' := 33) rfl rfl ?_
      refine zw_bne1 (g := 40) (pc' := 36) rfl rfl rfl rfl (fun h2 => ?_) (fun h2 => ?_)
      · have h2 : ¬ (lg_cmp (H.2.2.1 63 e.toInt.toNat) (H.2.2.1 63 s.toInt.toNat)).toInt = 0 := h2
        refine zw_ii (pc' := 43) rfl l2 rfl rfl ?_
        refine zw_s (pc' := 15) rfl rfl ?_
        exact ih _ (e + Int32.ofInt 1) (by omega) (by omega) (zw_gt l0 rfl rfl) (zw_gt l1 rfl rfl) zw_g1 (by rw [xLoL_n (f := (fun k => H.2.2.1 63 k)) h2] at hP; exact hP)
      · have h2 : (lg_cmp (H.2.2.1 63 e.toInt.toNat) (H.2.2.1 63 s.toInt.toNat)).toInt = 0 := h2
        refine zw_s (pc' := 37) rfl rfl ?_
        refine zw_ld (n := 1) (k := 2) (f := zp_isI) (pc' := 38) rfl rfl l2 rfl rfl ?_
        refine zw_ishl (pc' := 39) rfl rfl ?_
        refine zw_ri rfl rfl ?_
        rw [xLoL_y (f := (fun k => H.2.2.1 63 k)) h2] at hP
        exact hP

theorem yc_lo {L : Nat} {σ : Nat → Int32} {d : Nat} {H : zp_H} {s : Int32} (W : zw_W H) (hs : 0 ≤ s.toInt ∧ s.toInt < 8) : zp_Call L σ (d + 1) 140 [.inr (.inr (some 61)), .inl s] H (.inl (some (.inl (xLo (fun k => H.2.2.1 63 k) s))), H) := by
  refine zw_ex (zw_met zm_140_t rfl rfl ?_)
  refine zw_ld (n := 1) (k := 0) (f := zp_isR) (pc' := 1) rfl rfl rfl rfl rfl ?_
  refine zw_gR (q := 60) (pc' := 4) W rfl rfl rfl rfl (W.2 60 3 _ rfl) rfl ?_
  refine zw_ld (n := 1) (k := 1) (f := zp_isI) (pc' := 5) rfl rfl rfl rfl rfl ?_
  refine zw_la (q := 63) (pc' := 6) W rfl rfl (⟨hs.1, by show _ < ((8 : Nat) : Int); omega⟩) rfl ?_
  refine zw_s (pc' := 7) rfl rfl ?_
  refine zw_s (pc' := 8) rfl rfl ?_
  refine zw_bne1 (g := 13) (pc' := 11) rfl rfl rfl rfl (fun h1 => ?_) (fun h1 => ?_)
  · have h1 : ¬ (lg_cmp (H.2.2.1 63 s.toInt.toNat) (Int64.ofNat 0)).toInt = 0 := h1
    refine zw_s (pc' := 14) rfl rfl ?_
    refine zw_st (n := 1) (k := 2) (f := zp_isI) (pc' := 15) rfl rfl rfl rfl rfl ?_
    exact yc_loL W hs s.toInt.toNat _ (Int32.ofInt 0) (by decide) (by rw [show (Int32.ofInt 0).toInt = 0 by decide]; omega) (zw_gt rfl rfl rfl) (zw_gt rfl rfl rfl) zw_g1 (x_rv (if_neg h1).symm)
  · have h1 : (lg_cmp (H.2.2.1 63 s.toInt.toNat) (Int64.ofNat 0)).toInt = 0 := h1
    refine zw_s (pc' := 12) rfl rfl ?_
    refine zw_ri rfl rfl ?_
    exact x_rv (if_pos h1).symm

theorem yc_leL2 {L : Nat} {σ : Nat → Int32} {d : Nat} {P : zp_X → Prop} {S : xSea} {H0 : zp_H} (hS : xOk S) (hC : xSC 2 H0 S) (hn0 : 0 ≤ (H0.2.1 13 0).toInt ∧ (H0.2.1 13 0).toInt ≤ 8) (hm : ∀ s : Nat, (s : Int) < (H0.2.1 13 0).toInt → 0 ≤ (H0.2.1 16 s).toInt ∧ (H0.2.1 16 s).toInt ≤ 8) (hw : ∀ s : Nat, (s : Int) < (H0.2.1 13 0).toInt → ∀ j, j < (H0.2.1 16 s).toInt.toNat → -1 ≤ (H0.2.1 18 (8 * s + j)).toInt ∧ (H0.2.1 18 (8 * s + j)).toInt ≤ 3) (hc : ∀ s : Nat, (s : Int) < (H0.2.1 13 0).toInt → xIn S (H0.2.1 14 s).toInt) : ∀ (n : Nat) (H : zp_H) (lv : zp_LV) (i : Int32), zw_W H → xFd H0 H → H.2.1 60 0 = (H0.2.1 13 0) → 0 ≤ i.toInt → i.toInt + n = (H0.2.1 13 0).toInt → (∀ j : Nat, (j : Int) < i.toInt → xLd S 13 H0 H j) → zp_get lv 0 = some (.inr (.inr (some 61))) → zp_get lv 1 = some (.inr (.inr (some 3))) → zp_get lv 2 = some (.inr (.inr (some 14))) → zp_get lv 3 = some (.inr (.inr (some 55))) → zp_get lv 4 = some (.inl i) → (∀ H1, zw_W H1 → xFd H0 H1 → H1.2.1 60 0 = (H0.2.1 13 0) → (∀ j : Nat, (j : Int) < (H0.2.1 13 0).toInt → xLd S 13 H0 H1 j) → P (.inl none, H1)) → zs_Safe L σ P zm_139 [] (d + 5) (11, lv, [], H, (0, 0)) := by
  intro n
  induction n with
  | zero =>
    intro H lv i W hF h6 h5 hn hL l0 l1 l2 l3 l4 hP
    refine zw_ld (n := 2) (k := 4) (f := zp_isI) (pc' := 13) rfl rfl l4 rfl rfl ?_
    refine zw_ld (n := 1) (k := 0) (f := zp_isR) (pc' := 14) rfl rfl l0 rfl rfl ?_
    refine zw_gI (q := 60) (pc' := 17) W rfl rfl rfl rfl rfl rfl ?_
    rw [h6]
    refine zw_bge2 (g := 83) (pc' := 20) rfl rfl rfl rfl rfl (fun h1 => ?_) (fun h1 => ?_)
    · refine zw_rn rfl rfl ?_
      exact hP H W hF h6 (fun j hj => hL j (by omega))
    · omega
  | succ n ih =>
    intro H lv i W hF h6 h5 hn hL l0 l1 l2 l3 l4 hP
    refine zw_ld (n := 2) (k := 4) (f := zp_isI) (pc' := 13) rfl rfl l4 rfl rfl ?_
    refine zw_ld (n := 1) (k := 0) (f := zp_isR) (pc' := 14) rfl rfl l0 rfl rfl ?_
    refine zw_gI (q := 60) (pc' := 17) W rfl rfl rfl rfl rfl rfl ?_
    rw [h6]
    refine zw_bge2 (g := 83) (pc' := 20) rfl rfl rfl rfl rfl (fun h1 => ?_) (fun h1 => ?_)
    · omega
    · have ei : (i + Int32.ofInt 1).toInt = i.toInt + 1 := zw_p1 (by omega)
      have hi : ((i.toInt.toNat : Nat) : Int) < (H0.2.1 13 0).toInt := by omega
      have hi8 : i.toInt.toNat < 8 := by omega
      have fc : ∀ p k, 14 ≤ p → p ≤ 19 → H.2.1 p k = H0.2.1 p k := fun p k p1 p2 => hF.2.2.1 p k (by omega) (by omega) (by omega)
      obtain ⟨_, q1, H1, rfl, W1, q2, q3⟩ := xc_fo2 (L := L) (σ := σ) (d := d) (s := i) W hS (xSC_d hF (by decide) hC) ⟨h5, by omega⟩ (by rw [fc 16 _ (by decide) (by decide)]; exact hm _ hi) (fun j hj => by rw [fc 16 _ (by decide) (by decide)] at hj; rw [fc 18 _ (by decide) (by decide)]; exact hw _ hi j hj) (by rw [fc 14 _ (by decide) (by decide)]; exact hc _ hi)
      have q3 : xE7 54 H1 (xVyc S 13 H i.toInt.toNat) := q3
      rw [xVyc_f (cp := 13) (fun p k p1 p2 => fc p k (by omega) (by omega))] at q3
      have f1 : xFd H0 H1 := xFd_t hF (xFd_v q2)
      have fc1 : ∀ p k, 14 ≤ p → p ≤ 19 → H1.2.1 p k = H0.2.1 p k := fun p k p1 p2 => f1.2.2.1 p k (by omega) (by omega) (by omega)
      refine zw_ld (n := 1) (k := 3) (f := zp_isR) (pc' := 21) rfl rfl l3 rfl rfl ?_
      refine zw_ld (n := 1) (k := 1) (f := zp_isR) (pc' := 22) rfl rfl l1 rfl rfl ?_
      refine zw_ld (n := 1) (k := 2) (f := zp_isR) (pc' := 23) rfl rfl l2 rfl rfl ?_
      refine zw_ld (n := 2) (k := 4) (f := zp_isI) (pc' := 25) rfl rfl l4 rfl rfl ?_
      refine zw_cn (pc' := 28) (zw_cv (q := 54) (Y := zm_24) W.1 rfl rfl zm_24_t rfl rfl) rfl rfl rfl rfl rfl (q1) ?_
      refine zw_ld (n := 1) (k := 0) (f := zp_isR) (pc' := 29) rfl rfl l0 rfl rfl ?_
      refine zw_gR (q := 60) (pc' := 32) W1 rfl rfl rfl rfl (W1.2 60 1 _ rfl) rfl ?_
      refine zw_ld (n := 2) (k := 4) (f := zp_isI) (pc' := 34) rfl rfl l4 rfl rfl ?_
      refine zw_ld (n := 1) (k := 2) (f := zp_isR) (pc' := 35) rfl rfl l2 rfl rfl ?_
      refine zw_gR (q := 13) (pc' := 38) W1 rfl rfl rfl rfl (W1.2 13 1 _ rfl) rfl ?_
      refine zw_ld (n := 2) (k := 4) (f := zp_isI) (pc' := 40) rfl rfl l4 rfl rfl ?_
      refine zw_ia (q := 14) (pc' := 41) W1 rfl rfl (by decide) (⟨h5, by show _ < ((8 : Nat) : Int); omega⟩) rfl rfl ?_
      refine zw_is (q := 61) (pc' := 42) W1 rfl rfl (by decide) (⟨h5, by show _ < ((8 : Nat) : Int); omega⟩) rfl ?_
      refine zw_ld (n := 1) (k := 0) (f := zp_isR) (pc' := 43) rfl rfl l0 rfl rfl ?_
      refine zw_gR (q := 60) (pc' := 46) (zw_W_I W1) rfl rfl rfl rfl ((zw_W_I W1).2 60 2 _ rfl) rfl ?_
      refine zw_ld (n := 2) (k := 4) (f := zp_isI) (pc' := 48) rfl rfl l4 rfl rfl ?_
      refine zw_ld (n := 1) (k := 3) (f := zp_isR) (pc' := 49) rfl rfl l3 rfl rfl ?_
      refine zw_gI (q := 54) (pc' := 52) (zw_W_I W1) rfl rfl rfl rfl (zw_ne rfl rfl) rfl ?_
      refine zw_is (q := 62) (pc' := 53) (zw_W_I W1) rfl rfl (by decide) (⟨h5, by show _ < ((8 : Nat) : Int); omega⟩) rfl ?_
      refine zw_ld (n := 1) (k := 0) (f := zp_isR) (pc' := 54) rfl rfl l0 rfl rfl ?_
      refine zw_gR (q := 60) (pc' := 57) (zw_W_I (zw_W_I W1)) rfl rfl rfl rfl ((zw_W_I (zw_W_I W1)).2 60 3 _ rfl) rfl ?_
      refine zw_ld (n := 2) (k := 4) (f := zp_isI) (pc' := 59) rfl rfl l4 rfl rfl ?_
      refine zw_ld (n := 1) (k := 3) (f := zp_isR) (pc' := 60) rfl rfl l3 rfl rfl ?_
      have k2 : ((zw_I (zw_I H1 61 i.toInt.toNat (H1.2.1 14 i.toInt.toNat)) 62 i.toInt.toNat (H1.2.1 54 0))).2.1 54 2 = H1.2.1 54 2 := zw_ne (zw_ne rfl rfl) rfl
      have k0 : ((zw_I (zw_I H1 61 i.toInt.toNat (H1.2.1 14 i.toInt.toNat)) 62 i.toInt.toNat (H1.2.1 54 0))).2.1 54 0 = H1.2.1 54 0 := zw_ne (zw_ne rfl rfl) rfl
      have qw := yc_wr (L := L) (σ := σ) (d := d + 3) (H := (zw_I (zw_I H1 61 i.toInt.toNat (H1.2.1 14 i.toInt.toNat)) 62 i.toInt.toNat (H1.2.1 54 0))) (zw_W_I (zw_W_I W1))
      rw [k0, k2] at qw
      have ew : (if (H1.2.1 54 2).toInt = 1 ∨ (H1.2.1 54 2).toInt = 2 then za_shl0 (Int64.ofNat 1) (H1.2.1 54 0) else Int64.ofNat 0) = xWk (xVyc S 13 H0 i.toInt.toNat) := by
        rw [q3.1, q3.2.2.1]
        unfold xWk
        by_cases h9 : xWr (xVyc S 13 H0 i.toInt.toNat) = true
        · rw [if_pos h9, if_pos (xWr_t.mp h9)]
        · rw [if_neg h9, if_neg (fun h8 => h9 (xWr_t.mpr h8))]
      rw [ew] at qw
      refine zw_c (pc' := 63) (zw_cv (q := 54) (Y := zm_34) (zw_W_I (zw_W_I W1)).1 rfl rfl zm_34_t rfl rfl) rfl rfl rfl rfl rfl (qw) ?_
      refine zw_ls (q := 63) (pc' := 64) (zw_W_I (zw_W_I W1)) rfl rfl (⟨h5, by show _ < ((8 : Nat) : Int); omega⟩) rfl ?_
      refine zw_ld (n := 1) (k := 0) (f := zp_isR) (pc' := 65) rfl rfl l0 rfl rfl ?_
      refine zw_gR (q := 60) (pc' := 68) (zw_W_J (zw_W_I (zw_W_I W1))) rfl rfl rfl rfl ((zw_W_J (zw_W_I (zw_W_I W1))).2 60 4 _ rfl) rfl ?_
      refine zw_ld (n := 2) (k := 4) (f := zp_isI) (pc' := 70) rfl rfl l4 rfl rfl ?_
      refine zw_ld (n := 1) (k := 0) (f := zp_isR) (pc' := 71) rfl rfl l0 rfl rfl ?_
      refine zw_ld (n := 2) (k := 4) (f := zp_isI) (pc' := 73) rfl rfl l4 rfl rfl ?_
      have f3 : xFd H0 (zw_J (zw_I (zw_I H1 61 i.toInt.toNat (H1.2.1 14 i.toInt.toNat)) 62 i.toInt.toNat (H1.2.1 54 0)) 63 i.toInt.toNat (xWk (xVyc S 13 H0 i.toInt.toNat))) := xFd_J (xFd_I (xFd_I f1 (Or.inl ⟨by decide, by decide⟩)) (Or.inl ⟨by decide, by decide⟩))
      have g63 : ∀ j, j ≤ i.toInt.toNat → ((zw_J (zw_I (zw_I H1 61 i.toInt.toNat (H1.2.1 14 i.toInt.toNat)) 62 i.toInt.toNat (H1.2.1 54 0)) 63 i.toInt.toNat (xWk (xVyc S 13 H0 i.toInt.toNat)))).2.2.1 63 j = xWk (xVyc S 13 H0 j) := fun j hj => by
        by_cases h9 : j = i.toInt.toNat
        · subst h9
          exact zp_u_self _ _ _ _
        · exact (zp_u_ne (fun h8 => h9 h8.2)).trans ((q2.2.2.2 63 j (by decide)).trans (hL j (by omega)).2.2.1)
      have ql := yc_lo (L := L) (σ := σ) (d := d + 4) (H := (zw_J (zw_I (zw_I H1 61 i.toInt.toNat (H1.2.1 14 i.toInt.toNat)) 62 i.toInt.toNat (H1.2.1 54 0)) 63 i.toInt.toNat (xWk (xVyc S 13 H0 i.toInt.toNat)))) (s := i) (zw_W_J (zw_W_I (zw_W_I W1))) ⟨h5, by omega⟩
      rw [xLo_c (g := fun k => xWk (xVyc S 13 H0 k)) ⟨h5, by omega⟩ g63] at ql
      refine zw_c (pc' := 76) (zw_cv (q := 60) (Y := zm_140) (zw_W_J (zw_W_I (zw_W_I W1))).1 rfl rfl zm_140_t rfl rfl) rfl rfl rfl rfl rfl (ql) ?_
      refine zw_is (q := 64) (pc' := 77) (zw_W_J (zw_W_I (zw_W_I W1))) rfl rfl (by decide) (⟨h5, by show _ < ((8 : Nat) : Int); omega⟩) rfl ?_
      refine zw_ii (pc' := 80) rfl l4 rfl rfl ?_
      refine zw_s (pc' := 11) rfl rfl ?_
      have f4 : xFd H0 (zw_I (zw_J (zw_I (zw_I H1 61 i.toInt.toNat (H1.2.1 14 i.toInt.toNat)) 62 i.toInt.toNat (H1.2.1 54 0)) 63 i.toInt.toNat (xWk (xVyc S 13 H0 i.toInt.toNat))) 64 i.toInt.toNat (xLo (fun k => xWk (xVyc S 13 H0 k)) i)) := xFd_I f3 (Or.inl ⟨by decide, by decide⟩)
      have e60 : ((zw_I (zw_J (zw_I (zw_I H1 61 i.toInt.toNat (H1.2.1 14 i.toInt.toNat)) 62 i.toInt.toNat (H1.2.1 54 0)) 63 i.toInt.toNat (xWk (xVyc S 13 H0 i.toInt.toNat))) 64 i.toInt.toNat (xLo (fun k => xWk (xVyc S 13 H0 k)) i))).2.1 60 0 = (H0.2.1 13 0) := (zw_ne (zw_nj (zw_ne (zw_ne (q2.2.2.1 60 0 (by decide)) rfl) rfl)) rfl).trans h6
      have eo : Int32.ofInt ((i.toInt.toNat : Nat) : Int) = i := (congrArg Int32.ofInt (show ((i.toInt.toNat : Nat) : Int) = i.toInt by omega)).trans (x_oi i)
      refine ih (zw_I (zw_J (zw_I (zw_I H1 61 i.toInt.toNat (H1.2.1 14 i.toInt.toNat)) 62 i.toInt.toNat (H1.2.1 54 0)) 63 i.toInt.toNat (xWk (xVyc S 13 H0 i.toInt.toNat))) 64 i.toInt.toNat (xLo (fun k => xWk (xVyc S 13 H0 k)) i)) _ (i + Int32.ofInt 1) (zw_W_I (zw_W_J (zw_W_I (zw_W_I W1)))) f4 e60 (by omega) (by omega) (fun j hj => ?_) (zw_gt l0 rfl rfl) (zw_gt l1 rfl rfl) (zw_gt l2 rfl rfl) (zw_gt l3 rfl rfl) zw_g1 hP
      by_cases h9 : j = i.toInt.toNat
      · subst h9
        refine ⟨?_, ?_, zp_u_self _ _ _ _, ?_⟩
        · rw [xq_61, if_pos rfl]
          exact fc1 14 _ (by decide) (by decide)
        · rw [xq_62, if_pos rfl]
          exact q3.1
        · rw [xq_64, if_pos rfl, eo]
      · obtain ⟨g1, g2, g3, g4⟩ := hL j (by omega)
        refine ⟨?_, ?_, (zp_u_ne (fun h8 => h9 h8.2)).trans ((q2.2.2.2 63 j (by decide)).trans g3), ?_⟩
        · rw [xq_61, if_neg h9]
          exact (q2.2.2.1 61 j (by decide)).trans g1
        · rw [xq_62, if_neg h9]
          exact (q2.2.2.1 62 j (by decide)).trans g2
        · rw [xq_64, if_neg h9]
          exact (q2.2.2.1 64 j (by decide)).trans g4

theorem yc_le2 {L : Nat} {σ : Nat → Int32} {d : Nat} {S : xSea} {H0 : zp_H} (hS : xOk S) (hC : xSC 2 H0 S) (hn0 : 0 ≤ (H0.2.1 13 0).toInt ∧ (H0.2.1 13 0).toInt ≤ 8) (hm : ∀ s : Nat, (s : Int) < (H0.2.1 13 0).toInt → 0 ≤ (H0.2.1 16 s).toInt ∧ (H0.2.1 16 s).toInt ≤ 8) (hw : ∀ s : Nat, (s : Int) < (H0.2.1 13 0).toInt → ∀ j, j < (H0.2.1 16 s).toInt.toNat → -1 ≤ (H0.2.1 18 (8 * s + j)).toInt ∧ (H0.2.1 18 (8 * s + j)).toInt ≤ 3) (hc : ∀ s : Nat, (s : Int) < (H0.2.1 13 0).toInt → xIn S (H0.2.1 14 s).toInt) (W : zw_W H0) : ∃ X, zp_Call L σ (d + 6) 139 [.inr (.inr (some 61)), .inr (.inr (some 3)), .inr (.inr (some 14)), .inr (.inr (some 55))] H0 X ∧ ∃ H1, X = (.inl none, H1) ∧ zw_W H1 ∧ xFd H0 H1 ∧ H1.2.1 60 0 = (H0.2.1 13 0) ∧ ∀ j : Nat, (j : Int) < (H0.2.1 13 0).toInt → xLd S 13 H0 H1 j := by
  refine zw_met zm_139_t rfl rfl ?_
  refine zw_ld (n := 1) (k := 0) (f := zp_isR) (pc' := 1) rfl rfl rfl rfl rfl ?_
  refine zw_ld (n := 1) (k := 2) (f := zp_isR) (pc' := 2) rfl rfl rfl rfl rfl ?_
  refine zw_gI (q := 13) (pc' := 5) W rfl rfl rfl rfl rfl rfl ?_
  refine zw_pI (q := 60) (pc' := 8) W rfl rfl rfl rfl rfl rfl ?_
  refine zw_s (pc' := 9) rfl rfl ?_
  refine zw_st (n := 2) (k := 4) (f := zp_isI) (pc' := 11) rfl rfl rfl rfl rfl ?_
  exact yc_leL2 hS hC hn0 hm hw hc (H0.2.1 13 0).toInt.toNat _ _ (Int32.ofInt 0) (zw_W_I W) (xFd_I (xFd_r H0) (Or.inr ⟨rfl, rfl⟩)) zw_eq (by decide) (by rw [show (Int32.ofInt 0).toInt = 0 by decide]; omega) (fun j hj => absurd hj (by rw [show (Int32.ofInt 0).toInt = 0 by decide]; omega)) (zw_gt rfl rfl rfl) (zw_gt rfl rfl rfl) (zw_gt rfl rfl rfl) (zw_gt rfl rfl rfl) zw_g1 (fun H1 w1 w2 w3 w4 => ⟨H1, rfl, w1, w2, w3, w4⟩)

theorem yc_leL22 {L : Nat} {σ : Nat → Int32} {d : Nat} {P : zp_X → Prop} {S : xSea} {H0 : zp_H} (hS : xOk S) (hC : xSC 22 H0 S) (hn0 : 0 ≤ (H0.2.1 33 0).toInt ∧ (H0.2.1 33 0).toInt ≤ 8) (hm : ∀ s : Nat, (s : Int) < (H0.2.1 33 0).toInt → 0 ≤ (H0.2.1 36 s).toInt ∧ (H0.2.1 36 s).toInt ≤ 8) (hw : ∀ s : Nat, (s : Int) < (H0.2.1 33 0).toInt → ∀ j, j < (H0.2.1 36 s).toInt.toNat → -1 ≤ (H0.2.1 38 (8 * s + j)).toInt ∧ (H0.2.1 38 (8 * s + j)).toInt ≤ 3) (hc : ∀ s : Nat, (s : Int) < (H0.2.1 33 0).toInt → xIn S (H0.2.1 34 s).toInt) : ∀ (n : Nat) (H : zp_H) (lv : zp_LV) (i : Int32), zw_W H → xFd H0 H → H.2.1 60 0 = (H0.2.1 33 0) → 0 ≤ i.toInt → i.toInt + n = (H0.2.1 33 0).toInt → (∀ j : Nat, (j : Int) < i.toInt → xLd S 33 H0 H j) → zp_get lv 0 = some (.inr (.inr (some 61))) → zp_get lv 1 = some (.inr (.inr (some 23))) → zp_get lv 2 = some (.inr (.inr (some 34))) → zp_get lv 3 = some (.inr (.inr (some 55))) → zp_get lv 4 = some (.inl i) → (∀ H1, zw_W H1 → xFd H0 H1 → H1.2.1 60 0 = (H0.2.1 33 0) → (∀ j : Nat, (j : Int) < (H0.2.1 33 0).toInt → xLd S 33 H0 H1 j) → P (.inl none, H1)) → zs_Safe L σ P zm_139 [] (d + 5) (11, lv, [], H, (0, 0)) := by
  intro n
  induction n with
  | zero =>
    intro H lv i W hF h6 h5 hn hL l0 l1 l2 l3 l4 hP
    refine zw_ld (n := 2) (k := 4) (f := zp_isI) (pc' := 13) rfl rfl l4 rfl rfl ?_
    refine zw_ld (n := 1) (k := 0) (f := zp_isR) (pc' := 14) rfl rfl l0 rfl rfl ?_
    refine zw_gI (q := 60) (pc' := 17) W rfl rfl rfl rfl rfl rfl ?_
    rw [h6]
    refine zw_bge2 (g := 83) (pc' := 20) rfl rfl rfl rfl rfl (fun h1 => ?_) (fun h1 => ?_)
    · refine zw_rn rfl rfl ?_
      exact hP H W hF h6 (fun j hj => hL j (by omega))
    · omega
  | succ n ih =>
    intro H lv i W hF h6 h5 hn hL l0 l1 l2 l3 l4 hP
    refine zw_ld (n := 2) (k := 4) (f := zp_isI) (pc' := 13) rfl rfl l4 rfl rfl ?_
    refine zw_ld (n := 1) (k := 0) (f := zp_isR) (pc' := 14) rfl rfl l0 rfl rfl ?_
    refine zw_gI (q := 60) (pc' := 17) W rfl rfl rfl rfl rfl rfl ?_
    rw [h6]
    refine zw_bge2 (g := 83) (pc' := 20) rfl rfl rfl rfl rfl (fun h1 => ?_) (fun h1 => ?_)
    · omega
    · have ei : (i + Int32.ofInt 1).toInt = i.toInt + 1 := zw_p1 (by omega)
      have hi : ((i.toInt.toNat : Nat) : Int) < (H0.2.1 33 0).toInt := by omega
      have hi8 : i.toInt.toNat < 8 := by omega
      have fc : ∀ p k, 34 ≤ p → p ≤ 39 → H.2.1 p k = H0.2.1 p k := fun p k p1 p2 => hF.2.2.1 p k (by omega) (by omega) (by omega)
      obtain ⟨_, q1, H1, rfl, W1, q2, q3⟩ := xc_fo22 (L := L) (σ := σ) (d := d) (s := i) W hS (xSC_d hF (by decide) hC) ⟨h5, by omega⟩ (by rw [fc 36 _ (by decide) (by decide)]; exact hm _ hi) (fun j hj => by rw [fc 36 _ (by decide) (by decide)] at hj; rw [fc 38 _ (by decide) (by decide)]; exact hw _ hi j hj) (by rw [fc 34 _ (by decide) (by decide)]; exact hc _ hi)
      have q3 : xE7 54 H1 (xVyc S 33 H i.toInt.toNat) := q3
      rw [xVyc_f (cp := 33) (fun p k p1 p2 => fc p k (by omega) (by omega))] at q3
      have f1 : xFd H0 H1 := xFd_t hF (xFd_v q2)
      have fc1 : ∀ p k, 34 ≤ p → p ≤ 39 → H1.2.1 p k = H0.2.1 p k := fun p k p1 p2 => f1.2.2.1 p k (by omega) (by omega) (by omega)
      refine zw_ld (n := 1) (k := 3) (f := zp_isR) (pc' := 21) rfl rfl l3 rfl rfl ?_
      refine zw_ld (n := 1) (k := 1) (f := zp_isR) (pc' := 22) rfl rfl l1 rfl rfl ?_
      refine zw_ld (n := 1) (k := 2) (f := zp_isR) (pc' := 23) rfl rfl l2 rfl rfl ?_
      refine zw_ld (n := 2) (k := 4) (f := zp_isI) (pc' := 25) rfl rfl l4 rfl rfl ?_
      refine zw_cn (pc' := 28) (zw_cv (q := 54) (Y := zm_24) W.1 rfl rfl zm_24_t rfl rfl) rfl rfl rfl rfl rfl (q1) ?_
      refine zw_ld (n := 1) (k := 0) (f := zp_isR) (pc' := 29) rfl rfl l0 rfl rfl ?_
      refine zw_gR (q := 60) (pc' := 32) W1 rfl rfl rfl rfl (W1.2 60 1 _ rfl) rfl ?_
      refine zw_ld (n := 2) (k := 4) (f := zp_isI) (pc' := 34) rfl rfl l4 rfl rfl ?_
      refine zw_ld (n := 1) (k := 2) (f := zp_isR) (pc' := 35) rfl rfl l2 rfl rfl ?_
      refine zw_gR (q := 33) (pc' := 38) W1 rfl rfl rfl rfl (W1.2 33 1 _ rfl) rfl ?_
      refine zw_ld (n := 2) (k := 4) (f := zp_isI) (pc' := 40) rfl rfl l4 rfl rfl ?_
      refine zw_ia (q := 34) (pc' := 41) W1 rfl rfl (by decide) (⟨h5, by show _ < ((8 : Nat) : Int); omega⟩) rfl rfl ?_
      refine zw_is (q := 61) (pc' := 42) W1 rfl rfl (by decide) (⟨h5, by show _ < ((8 : Nat) : Int); omega⟩) rfl ?_
      refine zw_ld (n := 1) (k := 0) (f := zp_isR) (pc' := 43) rfl rfl l0 rfl rfl ?_
      refine zw_gR (q := 60) (pc' := 46) (zw_W_I W1) rfl rfl rfl rfl ((zw_W_I W1).2 60 2 _ rfl) rfl ?_
      refine zw_ld (n := 2) (k := 4) (f := zp_isI) (pc' := 48) rfl rfl l4 rfl rfl ?_
      refine zw_ld (n := 1) (k := 3) (f := zp_isR) (pc' := 49) rfl rfl l3 rfl rfl ?_
      refine zw_gI (q := 54) (pc' := 52) (zw_W_I W1) rfl rfl rfl rfl (zw_ne rfl rfl) rfl ?_
      refine zw_is (q := 62) (pc' := 53) (zw_W_I W1) rfl rfl (by decide) (⟨h5, by show _ < ((8 : Nat) : Int); omega⟩) rfl ?_
      refine zw_ld (n := 1) (k := 0) (f := zp_isR) (pc' := 54) rfl rfl l0 rfl rfl ?_
      refine zw_gR (q := 60) (pc' := 57) (zw_W_I (zw_W_I W1)) rfl rfl rfl rfl ((zw_W_I (zw_W_I W1)).2 60 3 _ rfl) rfl ?_
      refine zw_ld (n := 2) (k := 4) (f := zp_isI) (pc' := 59) rfl rfl l4 rfl rfl ?_
      refine zw_ld (n := 1) (k := 3) (f := zp_isR) (pc' := 60) rfl rfl l3 rfl rfl ?_
      have k2 : ((zw_I (zw_I H1 61 i.toInt.toNat (H1.2.1 34 i.toInt.toNat)) 62 i.toInt.toNat (H1.2.1 54 0))).2.1 54 2 = H1.2.1 54 2 := zw_ne (zw_ne rfl rfl) rfl
      have k0 : ((zw_I (zw_I H1 61 i.toInt.toNat (H1.2.1 34 i.toInt.toNat)) 62 i.toInt.toNat (H1.2.1 54 0))).2.1 54 0 = H1.2.1 54 0 := zw_ne (zw_ne rfl rfl) rfl
      have qw := yc_wr (L := L) (σ := σ) (d := d + 3) (H := (zw_I (zw_I H1 61 i.toInt.toNat (H1.2.1 34 i.toInt.toNat)) 62 i.toInt.toNat (H1.2.1 54 0))) (zw_W_I (zw_W_I W1))
      rw [k0, k2] at qw
      have ew : (if (H1.2.1 54 2).toInt = 1 ∨ (H1.2.1 54 2).toInt = 2 then za_shl0 (Int64.ofNat 1) (H1.2.1 54 0) else Int64.ofNat 0) = xWk (xVyc S 33 H0 i.toInt.toNat) := by
        rw [q3.1, q3.2.2.1]
        unfold xWk
        by_cases h9 : xWr (xVyc S 33 H0 i.toInt.toNat) = true
        · rw [if_pos h9, if_pos (xWr_t.mp h9)]
        · rw [if_neg h9, if_neg (fun h8 => h9 (xWr_t.mpr h8))]
      rw [ew] at qw
      refine zw_c (pc' := 63) (zw_cv (q := 54) (Y := zm_34) (zw_W_I (zw_W_I W1)).1 rfl rfl zm_34_t rfl rfl) rfl rfl rfl rfl rfl (qw) ?_
      refine zw_ls (q := 63) (pc' := 64) (zw_W_I (zw_W_I W1)) rfl rfl (⟨h5, by show _ < ((8 : Nat) : Int); omega⟩) rfl ?_
      refine zw_ld (n := 1) (k := 0) (f := zp_isR) (pc' := 65) rfl rfl l0 rfl rfl ?_
      refine zw_gR (q := 60) (pc' := 68) (zw_W_J (zw_W_I (zw_W_I W1))) rfl rfl rfl rfl ((zw_W_J (zw_W_I (zw_W_I W1))).2 60 4 _ rfl) rfl ?_
      refine zw_ld (n := 2) (k := 4) (f := zp_isI) (pc' := 70) rfl rfl l4 rfl rfl ?_
      refine zw_ld (n := 1) (k := 0) (f := zp_isR) (pc' := 71) rfl rfl l0 rfl rfl ?_
      refine zw_ld (n := 2) (k := 4) (f := zp_isI) (pc' := 73) rfl rfl l4 rfl rfl ?_
      have f3 : xFd H0 (zw_J (zw_I (zw_I H1 61 i.toInt.toNat (H1.2.1 34 i.toInt.toNat)) 62 i.toInt.toNat (H1.2.1 54 0)) 63 i.toInt.toNat (xWk (xVyc S 33 H0 i.toInt.toNat))) := xFd_J (xFd_I (xFd_I f1 (Or.inl ⟨by decide, by decide⟩)) (Or.inl ⟨by decide, by decide⟩))
      have g63 : ∀ j, j ≤ i.toInt.toNat → ((zw_J (zw_I (zw_I H1 61 i.toInt.toNat (H1.2.1 34 i.toInt.toNat)) 62 i.toInt.toNat (H1.2.1 54 0)) 63 i.toInt.toNat (xWk (xVyc S 33 H0 i.toInt.toNat)))).2.2.1 63 j = xWk (xVyc S 33 H0 j) := fun j hj => by
        by_cases h9 : j = i.toInt.toNat
        · subst h9
          exact zp_u_self _ _ _ _
        · exact (zp_u_ne (fun h8 => h9 h8.2)).trans ((q2.2.2.2 63 j (by decide)).trans (hL j (by omega)).2.2.1)
      have ql := yc_lo (L := L) (σ := σ) (d := d + 4) (H := (zw_J (zw_I (zw_I H1 61 i.toInt.toNat (H1.2.1 34 i.toInt.toNat)) 62 i.toInt.toNat (H1.2.1 54 0)) 63 i.toInt.toNat (xWk (xVyc S 33 H0 i.toInt.toNat)))) (s := i) (zw_W_J (zw_W_I (zw_W_I W1))) ⟨h5, by omega⟩
      rw [xLo_c (g := fun k => xWk (xVyc S 33 H0 k)) ⟨h5, by omega⟩ g63] at ql
      refine zw_c (pc' := 76) (zw_cv (q := 60) (Y := zm_140) (zw_W_J (zw_W_I (zw_W_I W1))).1 rfl rfl zm_140_t rfl rfl) rfl rfl rfl rfl rfl (ql) ?_
      refine zw_is (q := 64) (pc' := 77) (zw_W_J (zw_W_I (zw_W_I W1))) rfl rfl (by decide) (⟨h5, by show _ < ((8 : Nat) : Int); omega⟩) rfl ?_
      refine zw_ii (pc' := 80) rfl l4 rfl rfl ?_
      refine zw_s (pc' := 11) rfl rfl ?_
      have f4 : xFd H0 (zw_I (zw_J (zw_I (zw_I H1 61 i.toInt.toNat (H1.2.1 34 i.toInt.toNat)) 62 i.toInt.toNat (H1.2.1 54 0)) 63 i.toInt.toNat (xWk (xVyc S 33 H0 i.toInt.toNat))) 64 i.toInt.toNat (xLo (fun k => xWk (xVyc S 33 H0 k)) i)) := xFd_I f3 (Or.inl ⟨by decide, by decide⟩)
      have e60 : ((zw_I (zw_J (zw_I (zw_I H1 61 i.toInt.toNat (H1.2.1 34 i.toInt.toNat)) 62 i.toInt.toNat (H1.2.1 54 0)) 63 i.toInt.toNat (xWk (xVyc S 33 H0 i.toInt.toNat))) 64 i.toInt.toNat (xLo (fun k => xWk (xVyc S 33 H0 k)) i))).2.1 60 0 = (H0.2.1 33 0) := (zw_ne (zw_nj (zw_ne (zw_ne (q2.2.2.1 60 0 (by decide)) rfl) rfl)) rfl).trans h6
      have eo : Int32.ofInt ((i.toInt.toNat : Nat) : Int) = i := (congrArg Int32.ofInt (show ((i.toInt.toNat : Nat) : Int) = i.toInt by omega)).trans (x_oi i)
      refine ih (zw_I (zw_J (zw_I (zw_I H1 61 i.toInt.toNat (H1.2.1 34 i.toInt.toNat)) 62 i.toInt.toNat (H1.2.1 54 0)) 63 i.toInt.toNat (xWk (xVyc S 33 H0 i.toInt.toNat))) 64 i.toInt.toNat (xLo (fun k => xWk (xVyc S 33 H0 k)) i)) _ (i + Int32.ofInt 1) (zw_W_I (zw_W_J (zw_W_I (zw_W_I W1)))) f4 e60 (by omega) (by omega) (fun j hj => ?_) (zw_gt l0 rfl rfl) (zw_gt l1 rfl rfl) (zw_gt l2 rfl rfl) (zw_gt l3 rfl rfl) zw_g1 hP
      by_cases h9 : j = i.toInt.toNat
      · subst h9
        refine ⟨?_, ?_, zp_u_self _ _ _ _, ?_⟩
        · rw [xq_61, if_pos rfl]
          exact fc1 34 _ (by decide) (by decide)
        · rw [xq_62, if_pos rfl]
          exact q3.1
        · rw [xq_64, if_pos rfl, eo]
      · obtain ⟨g1, g2, g3, g4⟩ := hL j (by omega)
        refine ⟨?_, ?_, (zp_u_ne (fun h8 => h9 h8.2)).trans ((q2.2.2.2 63 j (by decide)).trans g3), ?_⟩
        · rw [xq_61, if_neg h9]
          exact (q2.2.2.1 61 j (by decide)).trans g1
        · rw [xq_62, if_neg h9]
          exact (q2.2.2.1 62 j (by decide)).trans g2
        · rw [xq_64, if_neg h9]
          exact (q2.2.2.1 64 j (by decide)).trans g4

theorem yc_le22 {L : Nat} {σ : Nat → Int32} {d : Nat} {S : xSea} {H0 : zp_H} (hS : xOk S) (hC : xSC 22 H0 S) (hn0 : 0 ≤ (H0.2.1 33 0).toInt ∧ (H0.2.1 33 0).toInt ≤ 8) (hm : ∀ s : Nat, (s : Int) < (H0.2.1 33 0).toInt → 0 ≤ (H0.2.1 36 s).toInt ∧ (H0.2.1 36 s).toInt ≤ 8) (hw : ∀ s : Nat, (s : Int) < (H0.2.1 33 0).toInt → ∀ j, j < (H0.2.1 36 s).toInt.toNat → -1 ≤ (H0.2.1 38 (8 * s + j)).toInt ∧ (H0.2.1 38 (8 * s + j)).toInt ≤ 3) (hc : ∀ s : Nat, (s : Int) < (H0.2.1 33 0).toInt → xIn S (H0.2.1 34 s).toInt) (W : zw_W H0) : ∃ X, zp_Call L σ (d + 6) 139 [.inr (.inr (some 61)), .inr (.inr (some 23)), .inr (.inr (some 34)), .inr (.inr (some 55))] H0 X ∧ ∃ H1, X = (.inl none, H1) ∧ zw_W H1 ∧ xFd H0 H1 ∧ H1.2.1 60 0 = (H0.2.1 33 0) ∧ ∀ j : Nat, (j : Int) < (H0.2.1 33 0).toInt → xLd S 33 H0 H1 j := by
  refine zw_met zm_139_t rfl rfl ?_
  refine zw_ld (n := 1) (k := 0) (f := zp_isR) (pc' := 1) rfl rfl rfl rfl rfl ?_
  refine zw_ld (n := 1) (k := 2) (f := zp_isR) (pc' := 2) rfl rfl rfl rfl rfl ?_
  refine zw_gI (q := 33) (pc' := 5) W rfl rfl rfl rfl rfl rfl ?_
  refine zw_pI (q := 60) (pc' := 8) W rfl rfl rfl rfl rfl rfl ?_
  refine zw_s (pc' := 9) rfl rfl ?_
  refine zw_st (n := 2) (k := 4) (f := zp_isI) (pc' := 11) rfl rfl rfl rfl rfl ?_
  exact yc_leL22 hS hC hn0 hm hw hc (H0.2.1 33 0).toInt.toNat _ _ (Int32.ofInt 0) (zw_W_I W) (xFd_I (xFd_r H0) (Or.inr ⟨rfl, rfl⟩)) zw_eq (by decide) (by rw [show (Int32.ofInt 0).toInt = 0 by decide]; omega) (fun j hj => absurd hj (by rw [show (Int32.ofInt 0).toInt = 0 by decide]; omega)) (zw_gt rfl rfl rfl) (zw_gt rfl rfl rfl) (zw_gt rfl rfl rfl) (zw_gt rfl rfl rfl) zw_g1 (fun H1 w1 w2 w3 w4 => ⟨H1, rfl, w1, w2, w3, w4⟩)

theorem yr_off {L : Nat} {σ : Nat → Int32} {d : Nat} {H : zp_H} {x y : Int32} (hx : 0 ≤ x.toInt ∧ x.toInt ≤ 63) (hy : 0 ≤ y.toInt ∧ y.toInt ≤ 63) : ∃ X, zp_Call L σ (d + 1) 241 [.inl x, .inl y] H X ∧ ∃ v : Int32, X = (.inl (some (.inl v)), H) ∧ ∀ r : Int, v.toInt ≤ r ↔ (x.toInt - y.toInt ≤ r ∧ y.toInt - x.toInt ≤ r) := by
  have s1 : (x - y).toInt = x.toInt - y.toInt := zq_sub (by omega) (by omega)
  have s2 : (y - x).toInt = y.toInt - x.toInt := zq_sub (by omega) (by omega)
  refine zw_met zm_241_t rfl rfl ?_
  refine zw_ld (n := 1) (k := 0) (f := zp_isI) (pc' := 1) rfl rfl rfl rfl rfl ?_
  refine zw_ld (n := 1) (k := 1) (f := zp_isI) (pc' := 2) rfl rfl rfl rfl rfl ?_
  refine zw_bge2 (g := 11) (pc' := 5) rfl rfl rfl rfl rfl (fun h1 => ?_) (fun h1 => ?_)
  · refine zw_ld (n := 1) (k := 0) (f := zp_isI) (pc' := 12) rfl rfl rfl rfl rfl ?_
    refine zw_ld (n := 1) (k := 1) (f := zp_isI) (pc' := 13) rfl rfl rfl rfl rfl ?_
    refine zw_isub (pc' := 14) rfl rfl ?_
    refine zw_ri rfl rfl ?_
    exact ⟨_, rfl, fun r => by rw [s1]; omega⟩
  · refine zw_ld (n := 1) (k := 1) (f := zp_isI) (pc' := 6) rfl rfl rfl rfl rfl ?_
    refine zw_ld (n := 1) (k := 0) (f := zp_isI) (pc' := 7) rfl rfl rfl rfl rfl ?_
    refine zw_isub (pc' := 8) rfl rfl ?_
    refine zw_s (pc' := 14) rfl rfl ?_
    refine zw_ri rfl rfl ?_
    exact ⟨_, rfl, fun r => by rw [s2]; omega⟩

theorem yr_near {L : Nat} {σ : Nat → Int32} {d : Nat} {H : zp_H} {x y r : Int32} (W : zw_W H) (hw : 2 ≤ (H.2.1 72 1).toInt) (hx : 0 ≤ x.toInt ∧ x.toInt ≤ 63) (hy : 0 ≤ y.toInt ∧ y.toInt ≤ 63) : zp_Call L σ (d + 2) 240 [.inr (.inr (some 73)), .inl x, .inl y, .inl r] H (.inl (some (.inl (if xNb (H.2.1 72 1).toInt x.toInt y.toInt r.toInt = true then Int32.ofInt 1 else Int32.ofInt 0))), H) := by
  have w0 : H.2.1 72 1 ≠ 0 := fun h9 => by
    have : (H.2.1 72 1).toInt = 0 := congrArg Int32.toInt h9
    omega
  have mx : (x - x / H.2.1 72 1 * H.2.1 72 1).toInt = x.toInt % (H.2.1 72 1).toInt := x_rem hx.1 (by omega)
  have dx : (x / H.2.1 72 1).toInt = x.toInt / (H.2.1 72 1).toInt := x_div hx.1 (by omega)
  have mxl : 0 ≤ x.toInt % (H.2.1 72 1).toInt := Int.emod_nonneg _ (by omega)
  have mxu : x.toInt % (H.2.1 72 1).toInt ≤ x.toInt := x_mle hx.1 (by omega)
  have dxl : 0 ≤ x.toInt / (H.2.1 72 1).toInt := Int.ediv_nonneg hx.1 (by omega)
  have dxu : x.toInt / (H.2.1 72 1).toInt ≤ x.toInt := Int.ediv_le_self _ hx.1
  have my : (y - y / H.2.1 72 1 * H.2.1 72 1).toInt = y.toInt % (H.2.1 72 1).toInt := x_rem hy.1 (by omega)
  have dy : (y / H.2.1 72 1).toInt = y.toInt / (H.2.1 72 1).toInt := x_div hy.1 (by omega)
  have myl : 0 ≤ y.toInt % (H.2.1 72 1).toInt := Int.emod_nonneg _ (by omega)
  have myu : y.toInt % (H.2.1 72 1).toInt ≤ y.toInt := x_mle hy.1 (by omega)
  have dyl : 0 ≤ y.toInt / (H.2.1 72 1).toInt := Int.ediv_nonneg hy.1 (by omega)
  have dyu : y.toInt / (H.2.1 72 1).toInt ≤ y.toInt := Int.ediv_le_self _ hy.1
  obtain ⟨_, a1, a, rfl, a2⟩ := yr_off (L := L) (σ := σ) (d := d) (H := H) (x := x - x / H.2.1 72 1 * H.2.1 72 1) (y := y - y / H.2.1 72 1 * H.2.1 72 1) ⟨by omega, by omega⟩ ⟨by omega, by omega⟩
  obtain ⟨_, b1, b, rfl, b2⟩ := yr_off (L := L) (σ := σ) (d := d) (H := H) (x := x / H.2.1 72 1) (y := y / H.2.1 72 1) ⟨by omega, by omega⟩ ⟨by omega, by omega⟩
  have a2 := a2 r.toInt
  have b2 := b2 r.toInt
  rw [mx, my] at a2
  rw [dx, dy] at b2
  have tt := xNb_t (w := (H.2.1 72 1).toInt) (a := x.toInt) (b := y.toInt) (r := r.toInt)
  refine zw_ex (zw_met zm_240_t rfl rfl ?_)
  refine zw_ld (n := 1) (k := 1) (f := zp_isI) (pc' := 1) rfl rfl rfl rfl rfl ?_
  refine zw_ld (n := 1) (k := 0) (f := zp_isR) (pc' := 2) rfl rfl rfl rfl rfl ?_
  refine zw_gI (q := 72) (pc' := 5) W rfl rfl rfl rfl rfl rfl ?_
  refine zw_rem (pc' := 6) rfl (w0) rfl ?_
  refine zw_ld (n := 1) (k := 2) (f := zp_isI) (pc' := 7) rfl rfl rfl rfl rfl ?_
  refine zw_ld (n := 1) (k := 0) (f := zp_isR) (pc' := 8) rfl rfl rfl rfl rfl ?_
  refine zw_gI (q := 72) (pc' := 11) W rfl rfl rfl rfl rfl rfl ?_
  refine zw_rem (pc' := 12) rfl (w0) rfl ?_
  refine zw_c (pc' := 15) (zw_cs (Y := zm_241) rfl rfl zm_241_t) rfl rfl rfl rfl rfl (a1) ?_
  refine zw_ld (n := 1) (k := 3) (f := zp_isI) (pc' := 16) rfl rfl rfl rfl rfl ?_
  refine zw_bgt2 (g := 42) (pc' := 19) rfl rfl rfl rfl rfl (fun h1 => ?_) (fun h1 => ?_)
  · refine zw_s (pc' := 43) rfl rfl ?_
    refine zw_rz rfl rfl (by decide) ?_
    exact x_rv (if_neg (fun h9 => by have := tt.mp h9; omega)).symm
  · refine zw_ld (n := 1) (k := 1) (f := zp_isI) (pc' := 20) rfl rfl rfl rfl rfl ?_
    refine zw_ld (n := 1) (k := 0) (f := zp_isR) (pc' := 21) rfl rfl rfl rfl rfl ?_
    refine zw_gI (q := 72) (pc' := 24) W rfl rfl rfl rfl rfl rfl ?_
    refine zw_div (pc' := 25) rfl (w0) rfl ?_
    refine zw_ld (n := 1) (k := 2) (f := zp_isI) (pc' := 26) rfl rfl rfl rfl rfl ?_
    refine zw_ld (n := 1) (k := 0) (f := zp_isR) (pc' := 27) rfl rfl rfl rfl rfl ?_
    refine zw_gI (q := 72) (pc' := 30) W rfl rfl rfl rfl rfl rfl ?_
    refine zw_div (pc' := 31) rfl (w0) rfl ?_
    refine zw_c (pc' := 34) (zw_cs (Y := zm_241) rfl rfl zm_241_t) rfl rfl rfl rfl rfl (b1) ?_
    refine zw_ld (n := 1) (k := 3) (f := zp_isI) (pc' := 35) rfl rfl rfl rfl rfl ?_
    refine zw_bgt2 (g := 42) (pc' := 38) rfl rfl rfl rfl rfl (fun h2 => ?_) (fun h2 => ?_)
    · refine zw_s (pc' := 43) rfl rfl ?_
      refine zw_rz rfl rfl (by decide) ?_
      exact x_rv (if_neg (fun h9 => by have := tt.mp h9; omega)).symm
    · refine zw_s (pc' := 39) rfl rfl ?_
      refine zw_s (pc' := 43) rfl rfl ?_
      refine zw_rz rfl rfl (by decide) ?_
      exact x_rv (if_pos (tt.mpr ⟨by omega, by omega⟩)).symm
end
