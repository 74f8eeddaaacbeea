/-! ===== rub of both sides, exactly ===== -/
def zm_114 : za_MI := (yL_rub, method_9_code, 6, (some FieldType.int), 13, 1, 6, [(0, 12, 15, 18)], za_i114)
theorem zm_114_t : za_MT 114 = some zm_114 := rfl
def zm_115 : za_MI := (yX11_rub, prog_1_method_12_code, 4, (some FieldType.int), 11, 1, 6, [], za_i115)
theorem zm_115_t : za_MT 115 = some zm_115 := rfl
def zm_116 : za_MI := (yX0_rubMarks, prog_2_method_8_code, 6, none, 0, 0, 0, [], za_i116)
theorem zm_116_t : za_MT 116 = some zm_116 := rfl
def zm_117 : za_MI := (yJ6_bitCount_0f7a4, prog_20_method_49_code, 1, (some FieldType.int), 14, 0, 0, [], za_i117)
theorem zm_117_t : za_MT 117 = some zm_117 := rfl
/-- the next seed; a draw of a hundred -/
def yDw (sd : Int32) : Int32 := sd * Int32.ofInt 1103515245 + Int32.ofInt 12345
def xKd (x : Int32) : Int32 := (x >>> (Int32.ofInt 16 &&& 31) &&& Int32.ofInt 32767) - (x >>> (Int32.ofInt 16 &&& 31) &&& Int32.ofInt 32767) / Int32.ofInt 100 * Int32.ofInt 100
def xKc (x : Int32) : Int32 := ((x.toUInt32 >>> ((Int32.ofInt 16).toUInt32 &&& Int32.toUInt32 31)).toInt32 &&& Int32.ofInt 32767) - ((x.toUInt32 >>> ((Int32.ofInt 16).toUInt32 &&& Int32.toUInt32 31)).toInt32 &&& Int32.ofInt 32767) / Int32.ofInt 100 * Int32.ofInt 100
theorem ym15 : ∀ i, i < 32 → (32767#32).getLsbD i = decide (i < 15) := by decide
theorem xKc_b (x : Int32) : (x.toUInt32 >>> ((Int32.ofInt 16).toUInt32 &&& Int32.toUInt32 31)).toInt32 &&& Int32.ofInt 32767 = x >>> (Int32.ofInt 16 &&& 31) &&& Int32.ofInt 32767 := by
  have e1 : ((x.toUInt32 >>> ((Int32.ofInt 16).toUInt32 &&& Int32.toUInt32 31)).toInt32 &&& Int32.ofInt 32767).toBitVec = (x.toBitVec >>> 16) &&& 32767#32 := rfl
  have e2 : (x >>> (Int32.ofInt 16 &&& 31) &&& Int32.ofInt 32767).toBitVec = x.toBitVec.sshiftRight 16 &&& 32767#32 := by
    rw [Int32.toBitVec_and, Int32.toBitVec_shiftRight]
    rfl
  rw [← Int32.toBitVec_inj, e1, e2]
  apply BitVec.eq_of_getLsbD_eq
  intro i hi
  rw [BitVec.getLsbD_and, BitVec.getLsbD_and, ym15 i hi, BitVec.getLsbD_ushiftRight, BitVec.getLsbD_sshiftRight]
  by_cases h : i < 15
  · have h1 : 16 + i < 32 := by omega
    have h2 : ¬ 32 ≤ i := by omega
    simp [h1, h2]
  · simp [h]
theorem xKc_e (x : Int32) : xKc x = xKd x := by
  unfold xKc xKd
  rw [xKc_b]
def yRub (ch : Int32) : Nat → Int32 → Int32 → Int32 → Int32
  | 0, _, _, r => r
  | n + 1, i, sd, r => yRub ch n (i + Int32.ofInt 1) (yDw sd) (if (xKd (yDw sd)).toInt < ch.toInt then r ||| Int32.ofInt 1 <<< (i &&& 31) else r)
theorem yRub_y {ch i sd r : Int32} {n : Nat} (h : (xKd (yDw sd)).toInt < ch.toInt) : yRub ch (n + 1) i sd r = yRub ch n (i + Int32.ofInt 1) (yDw sd) (r ||| Int32.ofInt 1 <<< (i &&& 31)) := by
  show yRub ch n (i + Int32.ofInt 1) (yDw sd) (if _ then _ else _) = _
  rw [if_pos h]
theorem yRub_n {ch i sd r : Int32} {n : Nat} (h : ¬ (xKd (yDw sd)).toInt < ch.toInt) : yRub ch (n + 1) i sd r = yRub ch n (i + Int32.ofInt 1) (yDw sd) r := by
  show yRub ch n (i + Int32.ofInt 1) (yDw sd) (if _ then _ else _) = _
  rw [if_neg h]

set_option maxRecDepth 8000 in
theorem yrbL13 {L : Nat} {σ : Nat → Int32} {d : Nat} {P : zp_X → Prop} {s ch : Int32} (hs : 0 ≤ s.toInt ∧ s.toInt ≤ 7) : ∀ (n : Nat) (H : zp_H) (lv : zp_LV) (sd i : Int32), zw_W H → (H.2.1 16 s.toInt.toNat).toInt = i.toInt + n → 0 ≤ i.toInt → i.toInt + n ≤ 8 → zp_get lv 0 = some (.inr (.inr (some 14))) → zp_get lv 1 = some (.inl s) → zp_get lv 3 = some (.inl ch) → zp_get lv 4 = some (.inl sd) → zp_get lv 5 = some (.inl i) → (∀ H1, zw_W H1 → H1.2.2 = H.2.2 → (∀ p j, ¬ (p = 17 ∧ j = s.toInt.toNat) → H1.2.1 p j = H.2.1 p j) → H1.2.1 17 (s.toInt.toNat) = yRub ch n i sd (H.2.1 17 (s.toInt.toNat)) → P (.inl none, H1)) → zs_Safe L σ P zm_116 [] d (6, lv, [], H, (0, 0)) := by
  intro n
  induction n with
  | zero =>
    intro H lv sd i W hm h0 h8 l0 l1 l3 l4 l5 hP
    refine zw_ld (n := 2) (k := 5) (f := zp_isI) (pc' := 8) rfl rfl l5 rfl rfl ?_
    refine zw_ld (n := 1) (k := 0) (f := zp_isR) (pc' := 9) rfl rfl l0 rfl rfl ?_
    refine zw_gR (q := 13) (pc' := 12) W rfl rfl rfl rfl (W.2 13 3 _ rfl) rfl ?_
    refine zw_ld (n := 1) (k := 1) (f := zp_isI) (pc' := 13) rfl rfl l1 rfl rfl ?_
    refine zw_ia (q := 16) (pc' := 14) W rfl rfl (by decide) (⟨hs.1, by show _ < ((8 : Nat) : Int); omega⟩) rfl rfl ?_
    refine zw_bge2 (g := 63) (pc' := 17) rfl rfl rfl rfl rfl (fun hb => ?_) (fun hb => ?_)
    · refine zw_rn rfl rfl ?_
      exact hP H W rfl (fun _ _ _ => rfl) rfl
    · omega
  | succ n ih =>
    intro H lv sd i W hm h0 h8 l0 l1 l3 l4 l5 hP
    refine zw_ld (n := 2) (k := 5) (f := zp_isI) (pc' := 8) rfl rfl l5 rfl rfl ?_
    refine zw_ld (n := 1) (k := 0) (f := zp_isR) (pc' := 9) rfl rfl l0 rfl rfl ?_
    refine zw_gR (q := 13) (pc' := 12) W rfl rfl rfl rfl (W.2 13 3 _ rfl) rfl ?_
    refine zw_ld (n := 1) (k := 1) (f := zp_isI) (pc' := 13) rfl rfl l1 rfl rfl ?_
    refine zw_ia (q := 16) (pc' := 14) W rfl rfl (by decide) (⟨hs.1, by show _ < ((8 : Nat) : Int); omega⟩) rfl rfl ?_
    refine zw_bge2 (g := 63) (pc' := 17) rfl rfl rfl rfl rfl (fun hb => ?_) (fun hb => ?_)
    · omega
    · have e1 : (i + Int32.ofInt 1).toInt = i.toInt + 1 := zw_p1 (by omega)
      refine zw_ld (n := 2) (k := 4) (f := zp_isI) (pc' := 19) rfl rfl l4 rfl rfl ?_
      refine zw_s (pc' := 21) rfl rfl ?_
      refine zw_imul (pc' := 22) rfl rfl ?_
      refine zw_s (pc' := 25) rfl rfl ?_
      refine zw_iadd (pc' := 26) rfl rfl ?_
      refine zw_st (n := 2) (k := 4) (f := zp_isI) (pc' := 28) rfl rfl rfl rfl rfl ?_
      refine zw_ld (n := 2) (k := 4) (f := zp_isI) (pc' := 30) rfl rfl zw_g1 rfl rfl ?_
      refine zw_s (pc' := 32) rfl rfl ?_
      refine zw_s (pc' := 33) rfl rfl ?_
      refine zw_s (pc' := 36) rfl rfl ?_
      refine zw_iand (pc' := 37) rfl rfl ?_
      refine zw_s (pc' := 39) rfl rfl ?_
      refine zw_rem (pc' := 40) rfl (by decide) rfl ?_
      refine zw_ld (n := 1) (k := 3) (f := zp_isI) (pc' := 41) rfl rfl (zw_gt l3 rfl rfl) rfl rfl ?_
      refine zw_bge2 (g := 57) (pc' := 44) rfl rfl rfl rfl rfl (fun h5 => ?_) (fun h5 => ?_)
      · refine zw_ii (pc' := 60) rfl (zw_gt l5 rfl rfl) rfl rfl ?_
        refine zw_s (pc' := 6) rfl rfl ?_
        have h6 : ¬ (xKd (yDw sd)).toInt < ch.toInt := by
          have h7 : ch.toInt ≤ (xKc (yDw sd)).toInt := h5
          rw [xKc_e] at h7
          omega
        exact ih H _ (yDw sd) (i + Int32.ofInt 1) W (by omega) (by omega) (by omega) ((zw_gt (zw_gt l0 rfl rfl) rfl rfl)) ((zw_gt (zw_gt l1 rfl rfl) rfl rfl)) ((zw_gt (zw_gt l3 rfl rfl) rfl rfl)) ((zw_gt zw_g1 rfl rfl)) (zw_g1) (fun H1 a1 a2 a3 a4 => hP H1 a1 a2 a3 (a4.trans (yRub_n h6).symm))
      · have h6 : (xKd (yDw sd)).toInt < ch.toInt := by
          have h7 : (xKc (yDw sd)).toInt < ch.toInt := h5
          rw [xKc_e] at h7
          exact h7
        refine zw_ld (n := 1) (k := 0) (f := zp_isR) (pc' := 45) rfl rfl (zw_gt l0 rfl rfl) rfl rfl ?_
        refine zw_gR (q := 13) (pc' := 48) W rfl rfl rfl rfl (W.2 13 4 _ rfl) rfl ?_
        refine zw_ld (n := 1) (k := 1) (f := zp_isI) (pc' := 49) rfl rfl (zw_gt l1 rfl rfl) rfl rfl ?_
        refine zw_s (pc' := 50) rfl rfl ?_
        refine zw_ia (q := 17) (pc' := 51) W rfl rfl (by decide) (⟨hs.1, by show _ < ((8 : Nat) : Int); omega⟩) rfl rfl ?_
        refine zw_s (pc' := 52) rfl rfl ?_
        refine zw_ld (n := 2) (k := 5) (f := zp_isI) (pc' := 54) rfl rfl (zw_gt l5 rfl rfl) rfl rfl ?_
        refine zw_ishl (pc' := 55) rfl rfl ?_
        refine zw_ior (pc' := 56) rfl rfl ?_
        refine zw_is (q := 17) (pc' := 57) W rfl rfl (by decide) (⟨hs.1, by show _ < ((8 : Nat) : Int); omega⟩) rfl ?_
        refine zw_ii (pc' := 60) rfl (zw_gt l5 rfl rfl) rfl rfl ?_
        refine zw_s (pc' := 6) rfl rfl ?_
        exact ih (zw_I H 17 (s.toInt.toNat) (H.2.1 17 (s.toInt.toNat) ||| Int32.ofInt 1 <<< (i &&& 31))) _ (yDw sd) (i + Int32.ofInt 1) (zw_W_I W) (by rw [(y_ne (fun h9 => absurd h9.1 (by decide)))]; omega) (by omega) (by omega) ((zw_gt (zw_gt l0 rfl rfl) rfl rfl)) ((zw_gt (zw_gt l1 rfl rfl) rfl rfl)) ((zw_gt (zw_gt l3 rfl rfl) rfl rfl)) ((zw_gt zw_g1 rfl rfl)) (zw_g1) (fun H1 a1 a2 a3 a4 => hP H1 a1 a2 (fun p j hp => (a3 p j hp).trans (y_ne hp)) (a4.trans ((congrArg (yRub ch n (i + Int32.ofInt 1) (yDw sd)) zw_eq).trans (yRub_y h6).symm)))

set_option maxRecDepth 8000 in
theorem yrbL33 {L : Nat} {σ : Nat → Int32} {d : Nat} {P : zp_X → Prop} {s ch : Int32} (hs : 0 ≤ s.toInt ∧ s.toInt ≤ 7) : ∀ (n : Nat) (H : zp_H) (lv : zp_LV) (sd i : Int32), zw_W H → (H.2.1 36 s.toInt.toNat).toInt = i.toInt + n → 0 ≤ i.toInt → i.toInt + n ≤ 8 → zp_get lv 0 = some (.inr (.inr (some 34))) → zp_get lv 1 = some (.inl s) → zp_get lv 3 = some (.inl ch) → zp_get lv 4 = some (.inl sd) → zp_get lv 5 = some (.inl i) → (∀ H1, zw_W H1 → H1.2.2 = H.2.2 → (∀ p j, ¬ (p = 37 ∧ j = s.toInt.toNat) → H1.2.1 p j = H.2.1 p j) → H1.2.1 37 (s.toInt.toNat) = yRub ch n i sd (H.2.1 37 (s.toInt.toNat)) → P (.inl none, H1)) → zs_Safe L σ P zm_116 [] d (6, lv, [], H, (0, 0)) := by
  intro n
  induction n with
  | zero =>
    intro H lv sd i W hm h0 h8 l0 l1 l3 l4 l5 hP
    refine zw_ld (n := 2) (k := 5) (f := zp_isI) (pc' := 8) rfl rfl l5 rfl rfl ?_
    refine zw_ld (n := 1) (k := 0) (f := zp_isR) (pc' := 9) rfl rfl l0 rfl rfl ?_
    refine zw_gR (q := 33) (pc' := 12) W rfl rfl rfl rfl (W.2 33 3 _ rfl) rfl ?_
    refine zw_ld (n := 1) (k := 1) (f := zp_isI) (pc' := 13) rfl rfl l1 rfl rfl ?_
    refine zw_ia (q := 36) (pc' := 14) W rfl rfl (by decide) (⟨hs.1, by show _ < ((8 : Nat) : Int); omega⟩) rfl rfl ?_
    refine zw_bge2 (g := 63) (pc' := 17) rfl rfl rfl rfl rfl (fun hb => ?_) (fun hb => ?_)
    · refine zw_rn rfl rfl ?_
      exact hP H W rfl (fun _ _ _ => rfl) rfl
    · omega
  | succ n ih =>
    intro H lv sd i W hm h0 h8 l0 l1 l3 l4 l5 hP
    refine zw_ld (n := 2) (k := 5) (f := zp_isI) (pc' := 8) rfl rfl l5 rfl rfl ?_
    refine zw_ld (n := 1) (k := 0) (f := zp_isR) (pc' := 9) rfl rfl l0 rfl rfl ?_
    refine zw_gR (q := 33) (pc' := 12) W rfl rfl rfl rfl (W.2 33 3 _ rfl) rfl ?_
    refine zw_ld (n := 1) (k := 1) (f := zp_isI) (pc' := 13) rfl rfl l1 rfl rfl ?_
    refine zw_ia (q := 36) (pc' := 14) W rfl rfl (by decide) (⟨hs.1, by show _ < ((8 : Nat) : Int); omega⟩) rfl rfl ?_
    refine zw_bge2 (g := 63) (pc' := 17) rfl rfl rfl rfl rfl (fun hb => ?_) (fun hb => ?_)
    · omega
    · have e1 : (i + Int32.ofInt 1).toInt = i.toInt + 1 := zw_p1 (by omega)
      refine zw_ld (n := 2) (k := 4) (f := zp_isI) (pc' := 19) rfl rfl l4 rfl rfl ?_
      refine zw_s (pc' := 21) rfl rfl ?_
      refine zw_imul (pc' := 22) rfl rfl ?_
      refine zw_s (pc' := 25) rfl rfl ?_
      refine zw_iadd (pc' := 26) rfl rfl ?_
      refine zw_st (n := 2) (k := 4) (f := zp_isI) (pc' := 28) rfl rfl rfl rfl rfl ?_
      refine zw_ld (n := 2) (k := 4) (f := zp_isI) (pc' := 30) rfl rfl zw_g1 rfl rfl ?_
      refine zw_s (pc' := 32) rfl rfl ?_
      refine zw_s (pc' := 33) rfl rfl ?_
      refine zw_s (pc' := 36) rfl rfl ?_
      refine zw_iand (pc' := 37) rfl rfl ?_
      refine zw_s (pc' := 39) rfl rfl ?_
      refine zw_rem (pc' := 40) rfl (by decide) rfl ?_
      refine zw_ld (n := 1) (k := 3) (f := zp_isI) (pc' := 41) rfl rfl (zw_gt l3 rfl rfl) rfl rfl ?_
      refine zw_bge2 (g := 57) (pc' := 44) rfl rfl rfl rfl rfl (fun h5 => ?_) (fun h5 => ?_)
      · refine zw_ii (pc' := 60) rfl (zw_gt l5 rfl rfl) rfl rfl ?_
        refine zw_s (pc' := 6) rfl rfl ?_
        have h6 : ¬ (xKd (yDw sd)).toInt < ch.toInt := by
          have h7 : ch.toInt ≤ (xKc (yDw sd)).toInt := h5
          rw [xKc_e] at h7
          omega
        exact ih H _ (yDw sd) (i + Int32.ofInt 1) W (by omega) (by omega) (by omega) ((zw_gt (zw_gt l0 rfl rfl) rfl rfl)) ((zw_gt (zw_gt l1 rfl rfl) rfl rfl)) ((zw_gt (zw_gt l3 rfl rfl) rfl rfl)) ((zw_gt zw_g1 rfl rfl)) (zw_g1) (fun H1 a1 a2 a3 a4 => hP H1 a1 a2 a3 (a4.trans (yRub_n h6).symm))
      · have h6 : (xKd (yDw sd)).toInt < ch.toInt := by
          have h7 : (xKc (yDw sd)).toInt < ch.toInt := h5
          rw [xKc_e] at h7
          exact h7
        refine zw_ld (n := 1) (k := 0) (f := zp_isR) (pc' := 45) rfl rfl (zw_gt l0 rfl rfl) rfl rfl ?_
        refine zw_gR (q := 33) (pc' := 48) W rfl rfl rfl rfl (W.2 33 4 _ rfl) rfl ?_
        refine zw_ld (n := 1) (k := 1) (f := zp_isI) (pc' := 49) rfl rfl (zw_gt l1 rfl rfl) rfl rfl ?_
        refine zw_s (pc' := 50) rfl rfl ?_
        refine zw_ia (q := 37) (pc' := 51) W rfl rfl (by decide) (⟨hs.1, by show _ < ((8 : Nat) : Int); omega⟩) rfl rfl ?_
        refine zw_s (pc' := 52) rfl rfl ?_
        refine zw_ld (n := 2) (k := 5) (f := zp_isI) (pc' := 54) rfl rfl (zw_gt l5 rfl rfl) rfl rfl ?_
        refine zw_ishl (pc' := 55) rfl rfl ?_
        refine zw_ior (pc' := 56) rfl rfl ?_
        refine zw_is (q := 37) (pc' := 57) W rfl rfl (by decide) (⟨hs.1, by show _ < ((8 : Nat) : Int); omega⟩) rfl ?_
        refine zw_ii (pc' := 60) rfl (zw_gt l5 rfl rfl) rfl rfl ?_
        refine zw_s (pc' := 6) rfl rfl ?_
        exact ih (zw_I H 37 (s.toInt.toNat) (H.2.1 37 (s.toInt.toNat) ||| Int32.ofInt 1 <<< (i &&& 31))) _ (yDw sd) (i + Int32.ofInt 1) (zw_W_I W) (by rw [(y_ne (fun h9 => absurd h9.1 (by decide)))]; omega) (by omega) (by omega) ((zw_gt (zw_gt l0 rfl rfl) rfl rfl)) ((zw_gt (zw_gt l1 rfl rfl) rfl rfl)) ((zw_gt (zw_gt l3 rfl rfl) rfl rfl)) ((zw_gt zw_g1 rfl rfl)) (zw_g1) (fun H1 a1 a2 a3 a4 => hP H1 a1 a2 (fun p j hp => (a3 p j hp).trans (y_ne hp)) (a4.trans ((congrArg (yRub ch n (i + Int32.ofInt 1) (yDw sd)) zw_eq).trans (yRub_y h6).symm)))

set_option maxRecDepth 8000 in
theorem yrbL72 {L : Nat} {σ : Nat → Int32} {d : Nat} {P : zp_X → Prop} {s ch : Int32} (hs : 0 ≤ s.toInt ∧ s.toInt ≤ 7) : ∀ (n : Nat) (H : zp_H) (lv : zp_LV) (sd i : Int32), zw_W H → (H.2.1 74 (4 * s.toInt.toNat + 2)).toInt = i.toInt + n → 0 ≤ i.toInt → i.toInt + n ≤ 8 → zp_get lv 0 = some (.inr (.inr (some 73))) → zp_get lv 1 = some (.inl s) → zp_get lv 3 = some (.inl ch) → zp_get lv 4 = some (.inl sd) → zp_get lv 5 = some (.inl i) → (∀ H1, zw_W H1 → H1.2.2 = H.2.2 → (∀ p j, ¬ (p = 74 ∧ j = 4 * s.toInt.toNat + 3) → H1.2.1 p j = H.2.1 p j) → H1.2.1 74 (4 * s.toInt.toNat + 3) = yRub ch n i sd (H.2.1 74 (4 * s.toInt.toNat + 3)) → ∀ lv1 : zp_LV, zp_get lv1 0 = some (.inr (.inr (some 73))) → zp_get lv1 1 = some (.inl s) → zs_Safe L σ P zm_216 [] (d + 2) (112, lv1, [], H1, (0, 0))) → zs_Safe L σ P zm_216 [] (d + 2) (51, lv, [], H, (0, 0)) := by
  intro n
  induction n with
  | zero =>
    intro H lv sd i W hm h0 h8 l0 l1 l3 l4 l5 hP
    refine zw_ld (n := 2) (k := 5) (f := zp_isI) (pc' := 53) rfl rfl l5 rfl rfl ?_
    refine zw_ld (n := 1) (k := 0) (f := zp_isR) (pc' := 54) rfl rfl l0 rfl rfl ?_
    refine zw_ld (n := 1) (k := 1) (f := zp_isI) (pc' := 55) rfl rfl l1 rfl rfl ?_
    refine zw_c (pc' := 58) (zw_cv (q := 72) (Y := zm_212) W.1 rfl rfl zm_212_t rfl rfl) rfl rfl rfl rfl rfl (zq_marks W hs) ?_
    refine zw_bge2 (g := 112) (pc' := 61) rfl rfl rfl rfl rfl (fun hb => ?_) (fun hb => ?_)
    · exact hP H W rfl (fun _ _ _ => rfl) rfl _ l0 l1
    · omega
  | succ n ih =>
    intro H lv sd i W hm h0 h8 l0 l1 l3 l4 l5 hP
    refine zw_ld (n := 2) (k := 5) (f := zp_isI) (pc' := 53) rfl rfl l5 rfl rfl ?_
    refine zw_ld (n := 1) (k := 0) (f := zp_isR) (pc' := 54) rfl rfl l0 rfl rfl ?_
    refine zw_ld (n := 1) (k := 1) (f := zp_isI) (pc' := 55) rfl rfl l1 rfl rfl ?_
    refine zw_c (pc' := 58) (zw_cv (q := 72) (Y := zm_212) W.1 rfl rfl zm_212_t rfl rfl) rfl rfl rfl rfl rfl (zq_marks W hs) ?_
    refine zw_bge2 (g := 112) (pc' := 61) rfl rfl rfl rfl rfl (fun hb => ?_) (fun hb => ?_)
    · omega
    · have e1 : (i + Int32.ofInt 1).toInt = i.toInt + 1 := zw_p1 (by omega)
      have i1 : (Int32.ofInt 4 * s).toInt = 4 * s.toInt := zt_mul (by decide) (by omega)
      have i2 : (Int32.ofInt 4 * s + Int32.ofInt 3).toInt = 4 * s.toInt + 3 := by rw [zt_add (by decide) (by omega), i1]
      have i3 : (Int32.ofInt 4 * s + Int32.ofInt 3).toInt.toNat = 4 * s.toInt.toNat + 3 := by omega
      refine zw_ld (n := 2) (k := 4) (f := zp_isI) (pc' := 63) rfl rfl l4 rfl rfl ?_
      refine zw_s (pc' := 66) rfl rfl ?_
      refine zw_imul (pc' := 67) rfl rfl ?_
      refine zw_s (pc' := 70) rfl rfl ?_
      refine zw_iadd (pc' := 71) rfl rfl ?_
      refine zw_st (n := 2) (k := 4) (f := zp_isI) (pc' := 73) rfl rfl rfl rfl rfl ?_
      refine zw_ld (n := 2) (k := 4) (f := zp_isI) (pc' := 75) rfl rfl zw_g1 rfl rfl ?_
      refine zw_s (pc' := 77) rfl rfl ?_
      refine zw_ishr (pc' := 78) rfl rfl ?_
      refine zw_s (pc' := 81) rfl rfl ?_
      refine zw_iand (pc' := 82) rfl rfl ?_
      refine zw_s (pc' := 84) rfl rfl ?_
      refine zw_rem (pc' := 85) rfl (by decide) rfl ?_
      refine zw_ld (n := 1) (k := 3) (f := zp_isI) (pc' := 86) rfl rfl (zw_gt l3 rfl rfl) rfl rfl ?_
      refine zw_bge2 (g := 106) (pc' := 89) rfl rfl rfl rfl rfl (fun h5 => ?_) (fun h5 => ?_)
      · refine zw_ii (pc' := 109) rfl (zw_gt l5 rfl rfl) rfl rfl ?_
        refine zw_s (pc' := 51) rfl rfl ?_
        have h6 : ¬ (xKd (yDw sd)).toInt < ch.toInt := by
          have h7 : ch.toInt ≤ (xKd (yDw sd)).toInt := h5
          omega
        exact ih H _ (yDw sd) (i + Int32.ofInt 1) W (by omega) (by omega) (by omega) ((zw_gt (zw_gt l0 rfl rfl) rfl rfl)) ((zw_gt (zw_gt l1 rfl rfl) rfl rfl)) ((zw_gt (zw_gt l3 rfl rfl) rfl rfl)) ((zw_gt zw_g1 rfl rfl)) (zw_g1) (fun H1 a1 a2 a3 a4 => hP H1 a1 a2 a3 (a4.trans (yRub_n h6).symm))
      · have h6 : (xKd (yDw sd)).toInt < ch.toInt := by
          have h7 : (xKd (yDw sd)).toInt < ch.toInt := h5
          exact h7
        refine zw_ld (n := 1) (k := 0) (f := zp_isR) (pc' := 90) rfl rfl (zw_gt l0 rfl rfl) rfl rfl ?_
        refine zw_gR (q := 72) (pc' := 93) W rfl rfl rfl rfl (W.2 72 14 _ rfl) rfl ?_
        refine zw_s (pc' := 94) rfl rfl ?_
        refine zw_ld (n := 1) (k := 1) (f := zp_isI) (pc' := 95) rfl rfl (zw_gt l1 rfl rfl) rfl rfl ?_
        refine zw_imul (pc' := 96) rfl rfl ?_
        refine zw_s (pc' := 97) rfl rfl ?_
        refine zw_iadd (pc' := 98) rfl rfl ?_
        refine zw_s (pc' := 99) rfl rfl ?_
        refine zw_ia (q := 74) (pc' := 100) W rfl rfl (by decide) (⟨by omega, by show _ < ((32 : Nat) : Int); omega⟩) rfl rfl ?_
        refine zw_s (pc' := 101) rfl rfl ?_
        refine zw_ld (n := 2) (k := 5) (f := zp_isI) (pc' := 103) rfl rfl (zw_gt l5 rfl rfl) rfl rfl ?_
        refine zw_ishl (pc' := 104) rfl rfl ?_
        refine zw_ior (pc' := 105) rfl rfl ?_
        refine zw_is (q := 74) (pc' := 106) W rfl rfl (by decide) (⟨by omega, by show _ < ((32 : Nat) : Int); omega⟩) rfl ?_
        refine zw_ii (pc' := 109) rfl (zw_gt l5 rfl rfl) rfl rfl ?_
        refine zw_s (pc' := 51) rfl rfl ?_
        rw [i3]
        exact ih (zw_I H 74 (4 * s.toInt.toNat + 3) (H.2.1 74 (4 * s.toInt.toNat + 3) ||| Int32.ofInt 1 <<< (i &&& 31))) _ (yDw sd) (i + Int32.ofInt 1) (zw_W_I W) (by rw [(y_ne (fun h9 => by have := h9.2; omega))]; omega) (by omega) (by omega) ((zw_gt (zw_gt l0 rfl rfl) rfl rfl)) ((zw_gt (zw_gt l1 rfl rfl) rfl rfl)) ((zw_gt (zw_gt l3 rfl rfl) rfl rfl)) ((zw_gt zw_g1 rfl rfl)) (zw_g1) (fun H1 a1 a2 a3 a4 => hP H1 a1 a2 (fun p j hp => (a3 p j hp).trans (y_ne hp)) (a4.trans ((congrArg (yRub ch n (i + Int32.ofInt 1) (yDw sd)) zw_eq).trans (yRub_y h6).symm)))

def yIa (x : Int32) (k : Int) : Int32 := (x.toUInt32 >>> ((Int32.ofInt k).toUInt32 &&& Int32.toUInt32 31)).toInt32
def yIb (x : Int32) : Int32 :=
  let a := x - (yIa x 1 &&& Int32.ofInt 1431655765)
  let b := (a &&& Int32.ofInt 858993459) + (yIa a 2 &&& Int32.ofInt 858993459)
  let c := b + yIa b 4 &&& Int32.ofInt 252645135
  let e := c + yIa c 8
  let f := e + yIa e 16
  f &&& Int32.ofInt 63
def yIs (x : Int32) : Nat → Int32 → Int32 → Int32
  | 0, _, a => a
  | n + 1, k, a => yIs x n (k + Int32.ofInt 1) (a + (x >>> (k &&& 31) &&& Int32.ofInt 1))
theorem yIb_t : ∀ n, n < 256 → yIb (Int32.ofInt ((n : Nat) : Int)) = yIs (Int32.ofInt ((n : Nat) : Int)) 8 (Int32.ofInt 0) (Int32.ofInt 0) := by decide +kernel
theorem yIb_s {x : Int32} (h : 0 ≤ x.toInt ∧ x.toInt ≤ 255) : yIb x = yIs x 8 (Int32.ofInt 0) (Int32.ofInt 0) := by
  have e : x = Int32.ofInt ((x.toInt.toNat : Nat) : Int) := by rw [show ((x.toInt.toNat : Nat) : Int) = x.toInt by omega, Int32.ofInt_toInt]
  rw [e]
  exact yIb_t _ (by omega)

theorem yc_bcI {L : Nat} {σ : Nat → Int32} {d : Nat} {H : zp_H} {x : Int32} : zp_Call L σ (d + 1) 117 [.inl x] H (.inl (some (.inl (yIb x))), H) := by
  refine zw_ex (zw_met zm_117_t rfl rfl ?_)
  refine zw_ld (n := 1) (k := 0) (f := zp_isI) (pc' := 1) rfl rfl rfl rfl rfl ?_
  refine zw_ld (n := 1) (k := 0) (f := zp_isI) (pc' := 2) rfl rfl rfl rfl rfl ?_
  refine zw_s (pc' := 3) rfl rfl ?_
  refine zw_s (pc' := 4) rfl rfl ?_
  refine zw_s (pc' := 7) rfl rfl ?_
  refine zw_iand (pc' := 8) rfl rfl ?_
  refine zw_isub (pc' := 9) rfl rfl ?_
  refine zw_st (n := 1) (k := 0) (f := zp_isI) (pc' := 10) rfl rfl rfl rfl rfl ?_
  refine zw_ld (n := 1) (k := 0) (f := zp_isI) (pc' := 11) rfl rfl zw_g1 rfl rfl ?_
  refine zw_s (pc' := 14) rfl rfl ?_
  refine zw_iand (pc' := 15) rfl rfl ?_
  refine zw_ld (n := 1) (k := 0) (f := zp_isI) (pc' := 16) rfl rfl zw_g1 rfl rfl ?_
  refine zw_s (pc' := 17) rfl rfl ?_
  refine zw_s (pc' := 18) rfl rfl ?_
  refine zw_s (pc' := 21) rfl rfl ?_
  refine zw_iand (pc' := 22) rfl rfl ?_
  refine zw_iadd (pc' := 23) rfl rfl ?_
  refine zw_st (n := 1) (k := 0) (f := zp_isI) (pc' := 24) rfl rfl rfl rfl rfl ?_
  refine zw_ld (n := 1) (k := 0) (f := zp_isI) (pc' := 25) rfl rfl zw_g1 rfl rfl ?_
  refine zw_ld (n := 1) (k := 0) (f := zp_isI) (pc' := 26) rfl rfl zw_g1 rfl rfl ?_
  refine zw_s (pc' := 27) rfl rfl ?_
  refine zw_s (pc' := 28) rfl rfl ?_
  refine zw_iadd (pc' := 29) rfl rfl ?_
  refine zw_s (pc' := 32) rfl rfl ?_
  refine zw_iand (pc' := 33) rfl rfl ?_
  refine zw_st (n := 1) (k := 0) (f := zp_isI) (pc' := 34) rfl rfl rfl rfl rfl ?_
  refine zw_ld (n := 1) (k := 0) (f := zp_isI) (pc' := 35) rfl rfl zw_g1 rfl rfl ?_
  refine zw_ld (n := 1) (k := 0) (f := zp_isI) (pc' := 36) rfl rfl zw_g1 rfl rfl ?_
  refine zw_s (pc' := 38) rfl rfl ?_
  refine zw_s (pc' := 39) rfl rfl ?_
  refine zw_iadd (pc' := 40) rfl rfl ?_
  refine zw_st (n := 1) (k := 0) (f := zp_isI) (pc' := 41) rfl rfl rfl rfl rfl ?_
  refine zw_ld (n := 1) (k := 0) (f := zp_isI) (pc' := 42) rfl rfl zw_g1 rfl rfl ?_
  refine zw_ld (n := 1) (k := 0) (f := zp_isI) (pc' := 43) rfl rfl zw_g1 rfl rfl ?_
  refine zw_s (pc' := 45) rfl rfl ?_
  refine zw_s (pc' := 46) rfl rfl ?_
  refine zw_iadd (pc' := 47) rfl rfl ?_
  refine zw_st (n := 1) (k := 0) (f := zp_isI) (pc' := 48) rfl rfl rfl rfl rfl ?_
  refine zw_ld (n := 1) (k := 0) (f := zp_isI) (pc' := 49) rfl rfl zw_g1 rfl rfl ?_
  refine zw_s (pc' := 51) rfl rfl ?_
  refine zw_iand (pc' := 52) rfl rfl ?_
  refine zw_ri rfl rfl ?_
  rfl

theorem yr_bL {L : Nat} {σ : Nat → Int32} {d : Nat} {H : zp_H} {x : Int32} : ∀ (n : Nat) (lv : zp_LV) (k a : Int32), k.toInt + n = 8 → 0 ≤ k.toInt → zp_get lv 0 = some (.inl x) → zp_get lv 1 = some (.inl a) → zp_get lv 2 = some (.inl k) → zs_Safe L σ (fun X => X = (.inl (some (.inl (yIs x n k a))), H)) zm_217 [] d (4, lv, [], H, (0, 0)) := by
  intro n
  induction n with
  | zero =>
    intro lv k a hk h0 l0 l1 l2
    refine zw_ld (n := 1) (k := 2) (f := zp_isI) (pc' := 5) rfl rfl l2 rfl rfl ?_
    refine zw_s (pc' := 7) rfl rfl ?_
    refine zw_bge2 (g := 24) (pc' := 10) rfl rfl rfl rfl (rfl : _ = (8 : Int)) (fun hb => ?_) (fun hb => ?_)
    · refine zw_ld (n := 1) (k := 1) (f := zp_isI) (pc' := 25) rfl rfl l1 rfl rfl ?_
      refine zw_ri rfl rfl ?_
      rfl
    · omega
  | succ n ih =>
    intro lv k a hk h0 l0 l1 l2
    refine zw_ld (n := 1) (k := 2) (f := zp_isI) (pc' := 5) rfl rfl l2 rfl rfl ?_
    refine zw_s (pc' := 7) rfl rfl ?_
    refine zw_bge2 (g := 24) (pc' := 10) rfl rfl rfl rfl (rfl : _ = (8 : Int)) (fun hb => ?_) (fun hb => ?_)
    · omega
    · have e1 : (k + Int32.ofInt 1).toInt = k.toInt + 1 := zw_p1 (by omega)
      refine zw_ld (n := 1) (k := 1) (f := zp_isI) (pc' := 11) rfl rfl l1 rfl rfl ?_
      refine zw_ld (n := 1) (k := 0) (f := zp_isI) (pc' := 12) rfl rfl l0 rfl rfl ?_
      refine zw_ld (n := 1) (k := 2) (f := zp_isI) (pc' := 13) rfl rfl l2 rfl rfl ?_
      refine zw_ishr (pc' := 14) rfl rfl ?_
      refine zw_s (pc' := 15) rfl rfl ?_
      refine zw_iand (pc' := 16) rfl rfl ?_
      refine zw_iadd (pc' := 17) rfl rfl ?_
      refine zw_st (n := 1) (k := 1) (f := zp_isI) (pc' := 18) rfl rfl rfl rfl rfl ?_
      refine zw_ii (pc' := 21) rfl (zw_gt l2 rfl rfl) rfl rfl ?_
      refine zw_s (pc' := 4) rfl rfl ?_
      exact ih _ (k + Int32.ofInt 1) (a + (x >>> (k &&& 31) &&& Int32.ofInt 1)) (by omega) (by omega) ((zw_gt (zw_gt l0 rfl rfl) rfl rfl)) ((zw_gt zw_g1 rfl rfl)) (zw_g1)

theorem yr_bits {L : Nat} {σ : Nat → Int32} {d : Nat} {H : zp_H} {x : Int32} : zp_Call L σ (d + 1) 217 [.inl x] H (.inl (some (.inl (yIs x 8 (Int32.ofInt 0) (Int32.ofInt 0)))), H) := by
  refine zw_ex (zw_met zm_217_t rfl rfl ?_)
  refine zw_s (pc' := 1) rfl rfl ?_
  refine zw_st (n := 1) (k := 1) (f := zp_isI) (pc' := 2) rfl rfl rfl rfl rfl ?_
  refine zw_s (pc' := 3) rfl rfl ?_
  refine zw_st (n := 1) (k := 2) (f := zp_isI) (pc' := 4) rfl rfl rfl rfl rfl ?_
  exact yr_bL 8 _ (Int32.ofInt 0) (Int32.ofInt 0) (by decide) (by decide) ((zw_gt (zw_gt rfl rfl rfl) rfl rfl)) ((zw_gt zw_g1 rfl rfl)) (zw_g1)

theorem yc_rbm13 {L : Nat} {σ : Nat → Int32} {d : Nat} {H : zp_H} {s sd ch : Int32} {m : Nat} (W : zw_W H) (hs : 0 ≤ s.toInt ∧ s.toInt ≤ 7) (hm : (H.2.1 16 s.toInt.toNat).toInt = m) (h8 : m ≤ 8) : ∃ X, zp_Call L σ (d + 1) 116 [.inr (.inr (some 14)), .inl s, .inl sd, .inl ch] H X ∧ ∃ H1, X = (.inl none, H1) ∧ zw_W H1 ∧ H1.2.2 = H.2.2 ∧ (∀ p j, ¬ (p = 17 ∧ j = s.toInt.toNat) → H1.2.1 p j = H.2.1 p j) ∧ H1.2.1 17 s.toInt.toNat = yRub ch m (Int32.ofInt 0) sd (H.2.1 17 s.toInt.toNat) := by
  refine zw_met zm_116_t rfl rfl ?_
  refine zw_ld (n := 1) (k := 2) (f := zp_isI) (pc' := 1) rfl rfl rfl rfl rfl ?_
  refine zw_st (n := 2) (k := 4) (f := zp_isI) (pc' := 3) rfl rfl rfl rfl rfl ?_
  refine zw_s (pc' := 4) rfl rfl ?_
  refine zw_st (n := 2) (k := 5) (f := zp_isI) (pc' := 6) rfl rfl rfl rfl rfl ?_
  exact yrbL13 hs m H _ sd (Int32.ofInt 0) W (by rw [hm]; show (m : Int) = 0 + (m : Int); omega) (by decide) (by show (0 : Int) + (m : Int) ≤ 8; omega) ((zw_gt (zw_gt rfl rfl rfl) rfl rfl)) ((zw_gt (zw_gt rfl rfl rfl) rfl rfl)) ((zw_gt (zw_gt rfl rfl rfl) rfl rfl)) ((zw_gt zw_g1 rfl rfl)) (zw_g1) (fun H1 a1 a2 a3 a4 => ⟨H1, rfl, a1, a2, a3, a4⟩)

theorem yc_rb0 {L : Nat} {σ : Nat → Int32} {d : Nat} {H : zp_H} {A : xK} {xs sd ch : Int32} (hB : zk_Bs (zB_c 0) zg zJc H) (hw : xKw A) (h : yHc 13 A H) (hs : 0 ≤ xs.toInt ∧ xs.toInt < A.1) : ∃ X, zp_Call L σ (d + 3) 115 [.inr (.inr (some 1)), .inl xs, .inl sd, .inl ch] H X ∧ ∃ H1 u, X = (.inl (some (.inl u)), H1) ∧ (((0 ≤ ch.toInt ∧ ch.toInt ≤ 100) ∧ u = yIb (yRub ch (A.2.2.1 xs.toInt.toNat 2).toInt.toNat (Int32.ofInt 0) sd (A.2.2.1 xs.toInt.toNat 3)) ∧ yHc 13 (xKr (xKk A xs (A.2.2.1 xs.toInt.toNat 3)) xs.toInt.toNat (yRub ch (A.2.2.1 xs.toInt.toNat 2).toInt.toNat (Int32.ofInt 0) sd (A.2.2.1 xs.toInt.toNat 3))) H1 ∧ H1.2.1 0 4 = H.2.1 0 4) ∨ (¬ (0 ≤ ch.toInt ∧ ch.toInt ≤ 100) ∧ u = Int32.ofInt (-1) ∧ yHc 13 A H1 ∧ H1.2.1 0 4 = H.2.1 0 4 + Int32.ofInt 1)) ∧ zw_W H1 ∧ H1.2.2 = H.2.2 := by
  have W := zB_Wd (zB_dn (zB_Bc hB))
  have g5 : H.2.2.2 0 5 = some 3 := hB.2.1 0 5 _ rfl
  have g6 : H.2.2.2 0 6 = some 14 := hB.2.1 0 6 _ rfl
  have g7 : H.2.2.2 0 7 = some 23 := hB.2.1 0 7 _ rfl
  have g8 : H.2.2.2 0 8 = some 34 := hB.2.1 0 8 _ rfl
  obtain ⟨b1, b2, b3, b4⟩ := hw
  have n0 := h.1
  have er : H.2.1 17 xs.toInt.toNat = A.2.2.1 xs.toInt.toNat 3 := h.2.2.1 xs.toInt.toNat 3 (by omega) (by decide)
  have hm := b3 xs.toInt.toNat (by omega)
  refine zw_met zm_115_t rfl rfl ?_
  refine zw_ld (n := 1) (k := 0) (f := zp_isR) (pc' := 1) rfl rfl rfl rfl rfl ?_
  refine zw_ld (n := 1) (k := 1) (f := zp_isI) (pc' := 2) rfl rfl rfl rfl rfl ?_
  refine zw_ctn (pc' := 5) (c' := (1, 6)) (zw_cv (q := 0) (Y := zm_108) W.1 rfl rfl zm_108_t rfl rfl) (zw_pb_ok rfl) rfl rfl rfl rfl (yc_ns1_0 hB (by omega)) ?_
  refine zw_ld (n := 1) (k := 3) (f := zp_isI) (pc' := 6) rfl rfl rfl rfl rfl ?_
  refine zw_blt1 (g := 15) (pc' := 9) rfl rfl rfl rfl (fun g0 => ?_) (fun g0 => ?_)
  · refine zw_ld (n := 1) (k := 0) (f := zp_isR) (pc' := 16) rfl rfl rfl rfl rfl ?_
    refine zw_s (pc' := 17) rfl rfl ?_
    refine zw_gI (q := 0) (pc' := 20) W rfl rfl rfl rfl rfl rfl ?_
    refine zw_s (pc' := 21) rfl rfl ?_
    refine zw_iadd (pc' := 22) rfl rfl ?_
    refine zw_pI (q := 0) (pc' := 25) W rfl rfl rfl rfl rfl rfl ?_
    refine zw_s (pc' := 26) rfl rfl ?_
    refine zw_rig rfl rfl ⟨by decide, by decide⟩ ?_
    refine ⟨_, _, rfl, Or.inr ⟨by omega, rfl, yHc_c (H := H) (fun p k p1 p2 => y_ne (fun h9 => by have := h9.1; omega)) h, zw_eq⟩, zw_W_I W, rfl⟩
  · refine zw_ld (n := 1) (k := 3) (f := zp_isI) (pc' := 10) rfl rfl rfl rfl rfl ?_
    refine zw_s (pc' := 12) rfl rfl ?_
    refine zw_ble2 (g := 27) (pc' := 15) rfl rfl rfl rfl (rfl : _ = (100 : Int)) (fun g1 => ?_) (fun g1 => ?_)
    · refine zw_ld (n := 1) (k := 0) (f := zp_isR) (pc' := 28) rfl rfl rfl rfl rfl ?_
      refine zw_gR (q := 0) (pc' := 31) W rfl rfl rfl rfl g6 rfl ?_
      refine zw_ld (n := 1) (k := 1) (f := zp_isI) (pc' := 32) rfl rfl rfl rfl rfl ?_
      refine zw_ld (n := 1) (k := 0) (f := zp_isR) (pc' := 33) rfl rfl rfl rfl rfl ?_
      refine zw_gR (q := 0) (pc' := 36) W rfl rfl rfl rfl g6 rfl ?_
      refine zw_gR (q := 13) (pc' := 39) W rfl rfl rfl rfl (W.2 13 4 _ rfl) rfl ?_
      refine zw_ld (n := 1) (k := 1) (f := zp_isI) (pc' := 40) rfl rfl rfl rfl rfl ?_
      refine zw_ia (q := 17) (pc' := 41) W rfl rfl (by decide) (⟨hs.1, by show _ < ((8 : Nat) : Int); omega⟩) rfl rfl ?_
      rw [er]
      obtain ⟨_, q1, H1, rfl, W1, q2, q3, q4⟩ := yc_keep13 (L := L) (σ := σ) (d := d + 1) (s := xs) (v := A.2.2.1 xs.toInt.toNat 3) W ⟨b1, b2, b3, b4⟩ h
      have g6b : H1.2.2.2 0 6 = some 14 := (congrArg (fun z => z.2 0 6) q2).trans g6
      refine zw_cn (pc' := 44) (zw_cv (q := 13) (Y := zm_113) W.1 rfl rfl zm_113_t rfl rfl) rfl rfl rfl rfl rfl (q1) ?_
      have em1 : H1.2.1 16 xs.toInt.toNat = A.2.2.1 xs.toInt.toNat 2 := q3.2.2.1 xs.toInt.toNat 2 (by show xs.toInt.toNat < A.1; omega) (by decide)
      have er1 : H1.2.1 17 xs.toInt.toNat = A.2.2.1 xs.toInt.toNat 3 := q3.2.2.1 xs.toInt.toNat 3 (by show xs.toInt.toNat < A.1; omega) (by decide)
      obtain ⟨_, r1, H2, rfl, W2, r2, r3, r4⟩ := yc_rbm13 (L := L) (σ := σ) (d := d + 1) (s := xs) (sd := sd) (ch := ch) (m := (A.2.2.1 xs.toInt.toNat 2).toInt.toNat) W1 ⟨hs.1, by omega⟩ (by rw [em1]; omega) (by omega)
      rw [er1] at r4
      have g6c : H2.2.2.2 0 6 = some 14 := (congrArg (fun z => z.2 0 6) r2).trans g6b
      refine zw_ld (n := 1) (k := 0) (f := zp_isR) (pc' := 45) rfl rfl rfl rfl rfl ?_
      refine zw_gR (q := 0) (pc' := 48) W1 rfl rfl rfl rfl g6b rfl ?_
      refine zw_ld (n := 1) (k := 1) (f := zp_isI) (pc' := 49) rfl rfl rfl rfl rfl ?_
      refine zw_ld (n := 1) (k := 2) (f := zp_isI) (pc' := 50) rfl rfl rfl rfl rfl ?_
      refine zw_ld (n := 1) (k := 3) (f := zp_isI) (pc' := 51) rfl rfl rfl rfl rfl ?_
      refine zw_cn (pc' := 54) (zw_cv (q := 13) (Y := zm_116) W1.1 rfl rfl zm_116_t rfl rfl) rfl rfl rfl rfl rfl (r1) ?_
      refine zw_ld (n := 1) (k := 0) (f := zp_isR) (pc' := 55) rfl rfl rfl rfl rfl ?_
      refine zw_gR (q := 0) (pc' := 58) W2 rfl rfl rfl rfl g6c rfl ?_
      refine zw_gR (q := 13) (pc' := 61) W2 rfl rfl rfl rfl (W2.2 13 4 _ rfl) rfl ?_
      refine zw_ld (n := 1) (k := 1) (f := zp_isI) (pc' := 62) rfl rfl rfl rfl rfl ?_
      refine zw_ia (q := 17) (pc' := 63) W2 rfl rfl (by decide) (⟨hs.1, by show _ < ((8 : Nat) : Int); omega⟩) rfl rfl ?_
      refine zw_c (pc' := 66) (zw_cs (Y := zm_117) rfl rfl zm_117_t) rfl rfl rfl rfl rfl (yc_bcI) ?_
      refine zw_rig rfl rfl ⟨by decide, by decide⟩ ?_
      refine ⟨_, _, rfl, Or.inl ⟨⟨by omega, by omega⟩, congrArg yIb r4, ?_, (r3 0 4 (by omega)).trans (q4 0 4 (by decide) (by decide) (by decide))⟩, W2, r2.trans q2⟩
      exact yHc_r q3 (fun p k p1 p2 p3 => r3 p k p3) r4
    · refine zw_ld (n := 1) (k := 0) (f := zp_isR) (pc' := 16) rfl rfl rfl rfl rfl ?_
      refine zw_s (pc' := 17) rfl rfl ?_
      refine zw_gI (q := 0) (pc' := 20) W rfl rfl rfl rfl rfl rfl ?_
      refine zw_s (pc' := 21) rfl rfl ?_
      refine zw_iadd (pc' := 22) rfl rfl ?_
      refine zw_pI (q := 0) (pc' := 25) W rfl rfl rfl rfl rfl rfl ?_
      refine zw_s (pc' := 26) rfl rfl ?_
      refine zw_rig rfl rfl ⟨by decide, by decide⟩ ?_
      refine ⟨_, _, rfl, Or.inr ⟨by omega, rfl, yHc_c (H := H) (fun p k p1 p2 => y_ne (fun h9 => by have := h9.1; omega)) h, zw_eq⟩, zw_W_I W, rfl⟩

theorem yl_rb0 {L : Nat} {σ : Nat → Int32} {d : Nat} {H : zp_H} {A : xK} {xs sd ch : Int32} (hB : zk_Bs (zB_c 0) zg zJc H) (hw : xKw A) (h : yHc 13 A H) (hs : 0 ≤ xs.toInt ∧ xs.toInt < A.1) : ∃ H1 u, zp_Call L σ (d + 4) 114 [.inr (.inr (some 1)), .inl xs, .inl sd, .inl ch, .inr (.inr (some 105))] H (.inl (some (.inl (Int32.ofInt 0))), zw_J H1 104 0 u.toInt64) ∧ (((0 ≤ ch.toInt ∧ ch.toInt ≤ 100) ∧ u = yIb (yRub ch (A.2.2.1 xs.toInt.toNat 2).toInt.toNat (Int32.ofInt 0) sd (A.2.2.1 xs.toInt.toNat 3)) ∧ yHc 13 (xKr (xKk A xs (A.2.2.1 xs.toInt.toNat 3)) xs.toInt.toNat (yRub ch (A.2.2.1 xs.toInt.toNat 2).toInt.toNat (Int32.ofInt 0) sd (A.2.2.1 xs.toInt.toNat 3))) H1 ∧ H1.2.1 0 4 = H.2.1 0 4) ∨ (¬ (0 ≤ ch.toInt ∧ ch.toInt ≤ 100) ∧ u = Int32.ofInt (-1) ∧ yHc 13 A H1 ∧ H1.2.1 0 4 = H.2.1 0 4 + Int32.ofInt 1)) ∧ zw_W H1 ∧ H1.2.2 = H.2.2 := by
  obtain ⟨_, q1, H1, u, rfl, q2, W1, q3⟩ := yc_rb0 (L := L) (σ := σ) (d := d) (sd := sd) (ch := ch) hB hw h hs
  have W := zB_Wd (zB_dn (zB_Bc hB))
  refine ⟨H1, u, zw_ex (zw_met zm_114_t rfl rfl ?_), q2, W1, q3⟩
  refine zw_ld (n := 2) (k := 4) (f := zp_isR) (pc' := 2) rfl rfl rfl rfl rfl ?_
  refine zw_s (pc' := 3) rfl rfl ?_
  refine zw_ld (n := 1) (k := 0) (f := zp_isR) (pc' := 4) rfl rfl rfl rfl rfl ?_
  refine zw_ld (n := 1) (k := 1) (f := zp_isI) (pc' := 5) rfl rfl rfl rfl rfl ?_
  refine zw_ld (n := 1) (k := 2) (f := zp_isI) (pc' := 6) rfl rfl rfl rfl rfl ?_
  refine zw_ld (n := 1) (k := 3) (f := zp_isI) (pc' := 7) rfl rfl rfl rfl rfl ?_
  refine zw_ct (pc' := 10) (c' := (1, 6)) (zw_cv (q := 0) (Y := zm_115) W.1 rfl rfl zm_115_t rfl rfl) (zw_pb_ok rfl) rfl rfl rfl rfl (q1) ?_
  refine zw_s (pc' := 11) rfl rfl ?_
  refine zw_ls (q := 104) (pc' := 12) W1 rfl rfl (⟨by decide, by decide⟩) rfl ?_
  refine zw_s (pc' := 19) rfl rfl ?_
  refine zw_s (pc' := 20) rfl rfl ?_
  refine zw_rig rfl rfl ⟨by decide, by decide⟩ ?_
  rfl

theorem yc_rbn0 {L : Nat} {σ : Nat → Int32} {d : Nat} {H : zp_H} {xs sd ch : Int32} (hB : zk_Bs (zB_c 0) zg zJc H) (h : ¬ (0 ≤ xs.toInt ∧ xs.toInt < (H.2.1 13 0).toInt)) : zp_Call L σ (d + 3) 115 [.inr (.inr (some 1)), .inl xs, .inl sd, .inl ch] H (.inr 0, H) := by
  have W := zB_Wd (zB_dn (zB_Bc hB))
  have g5 : H.2.2.2 0 5 = some 3 := hB.2.1 0 5 _ rfl
  have g6 : H.2.2.2 0 6 = some 14 := hB.2.1 0 6 _ rfl
  have g7 : H.2.2.2 0 7 = some 23 := hB.2.1 0 7 _ rfl
  have g8 : H.2.2.2 0 8 = some 34 := hB.2.1 0 8 _ rfl
  refine zw_ex (zw_met zm_115_t rfl rfl ?_)
  refine zw_ld (n := 1) (k := 0) (f := zp_isR) (pc' := 1) rfl rfl rfl rfl rfl ?_
  refine zw_ld (n := 1) (k := 1) (f := zp_isI) (pc' := 2) rfl rfl rfl rfl rfl ?_
  refine zw_cthr (ex := 0) (zw_cv (q := 0) (Y := zm_108) W.1 rfl rfl zm_108_t rfl rfl) (zw_pb_ok rfl) rfl rfl (yc_ns0_0 hB h) ?_
  rfl

theorem yl_rbn0 {L : Nat} {σ : Nat → Int32} {d : Nat} {H : zp_H} {xs sd ch : Int32} (hB : zk_Bs (zB_c 0) zg zJc H) (h : ¬ (0 ≤ xs.toInt ∧ xs.toInt < (H.2.1 13 0).toInt)) : zp_Call L σ (d + 4) 114 [.inr (.inr (some 1)), .inl xs, .inl sd, .inl ch, .inr (.inr (some 105))] H (.inl (some (.inl (Int32.ofInt 1))), H) := by
  have W := zB_Wd (zB_dn (zB_Bc hB))
  refine zw_ex (zw_met zm_114_t rfl rfl ?_)
  refine zw_ld (n := 2) (k := 4) (f := zp_isR) (pc' := 2) rfl rfl rfl rfl rfl ?_
  refine zw_s (pc' := 3) rfl rfl ?_
  refine zw_ld (n := 1) (k := 0) (f := zp_isR) (pc' := 4) rfl rfl rfl rfl rfl ?_
  refine zw_ld (n := 1) (k := 1) (f := zp_isI) (pc' := 5) rfl rfl rfl rfl rfl ?_
  refine zw_ld (n := 1) (k := 2) (f := zp_isI) (pc' := 6) rfl rfl rfl rfl rfl ?_
  refine zw_ld (n := 1) (k := 3) (f := zp_isI) (pc' := 7) rfl rfl rfl rfl rfl ?_
  refine zw_cexw (ex := 0) (hp9 := 15) (k9 := 5) (pc' := 17) (c' := (1, 6)) (zw_cv (q := 0) (Y := zm_115) W.1 rfl rfl zm_115_t rfl rfl) (zw_pb_ok rfl) rfl rfl rfl rfl rfl rfl rfl (yc_rbn0 hB h) ?_
  refine zw_s (pc' := 18) rfl rfl ?_
  refine zw_rig rfl rfl ⟨by decide, by decide⟩ ?_
  rfl

theorem yc_rbm33 {L : Nat} {σ : Nat → Int32} {d : Nat} {H : zp_H} {s sd ch : Int32} {m : Nat} (W : zw_W H) (hs : 0 ≤ s.toInt ∧ s.toInt ≤ 7) (hm : (H.2.1 36 s.toInt.toNat).toInt = m) (h8 : m ≤ 8) : ∃ X, zp_Call L σ (d + 1) 116 [.inr (.inr (some 34)), .inl s, .inl sd, .inl ch] H X ∧ ∃ H1, X = (.inl none, H1) ∧ zw_W H1 ∧ H1.2.2 = H.2.2 ∧ (∀ p j, ¬ (p = 37 ∧ j = s.toInt.toNat) → H1.2.1 p j = H.2.1 p j) ∧ H1.2.1 37 s.toInt.toNat = yRub ch m (Int32.ofInt 0) sd (H.2.1 37 s.toInt.toNat) := by
  refine zw_met zm_116_t rfl rfl ?_
  refine zw_ld (n := 1) (k := 2) (f := zp_isI) (pc' := 1) rfl rfl rfl rfl rfl ?_
  refine zw_st (n := 2) (k := 4) (f := zp_isI) (pc' := 3) rfl rfl rfl rfl rfl ?_
  refine zw_s (pc' := 4) rfl rfl ?_
  refine zw_st (n := 2) (k := 5) (f := zp_isI) (pc' := 6) rfl rfl rfl rfl rfl ?_
  exact yrbL33 hs m H _ sd (Int32.ofInt 0) W (by rw [hm]; show (m : Int) = 0 + (m : Int); omega) (by decide) (by show (0 : Int) + (m : Int) ≤ 8; omega) ((zw_gt (zw_gt rfl rfl rfl) rfl rfl)) ((zw_gt (zw_gt rfl rfl rfl) rfl rfl)) ((zw_gt (zw_gt rfl rfl rfl) rfl rfl)) ((zw_gt zw_g1 rfl rfl)) (zw_g1) (fun H1 a1 a2 a3 a4 => ⟨H1, rfl, a1, a2, a3, a4⟩)

theorem yc_rb3 {L : Nat} {σ : Nat → Int32} {d : Nat} {H : zp_H} {A : xK} {xs sd ch : Int32} (hB : zk_Bs (zB_c 3) zg zJc H) (hw : xKw A) (h : yHc 33 A H) (hs : 0 ≤ xs.toInt ∧ xs.toInt < A.1) : ∃ X, zp_Call L σ (d + 3) 115 [.inr (.inr (some 1)), .inl xs, .inl sd, .inl ch] H X ∧ ∃ H1 u, X = (.inl (some (.inl u)), H1) ∧ (((0 ≤ ch.toInt ∧ ch.toInt ≤ 100) ∧ u = yIb (yRub ch (A.2.2.1 xs.toInt.toNat 2).toInt.toNat (Int32.ofInt 0) sd (A.2.2.1 xs.toInt.toNat 3)) ∧ yHc 33 (xKr (xKk A xs (A.2.2.1 xs.toInt.toNat 3)) xs.toInt.toNat (yRub ch (A.2.2.1 xs.toInt.toNat 2).toInt.toNat (Int32.ofInt 0) sd (A.2.2.1 xs.toInt.toNat 3))) H1 ∧ H1.2.1 0 4 = H.2.1 0 4) ∨ (¬ (0 ≤ ch.toInt ∧ ch.toInt ≤ 100) ∧ u = Int32.ofInt (-1) ∧ yHc 33 A H1 ∧ H1.2.1 0 4 = H.2.1 0 4 + Int32.ofInt 1)) ∧ zw_W H1 ∧ H1.2.2 = H.2.2 := by
  have W := zB_Wd (zB_dn (zB_Bc hB))
  have g5 : H.2.2.2 0 5 = some 23 := hB.2.1 0 5 _ rfl
  have g6 : H.2.2.2 0 6 = some 34 := hB.2.1 0 6 _ rfl
  have g7 : H.2.2.2 0 7 = some 3 := hB.2.1 0 7 _ rfl
  have g8 : H.2.2.2 0 8 = some 14 := hB.2.1 0 8 _ rfl
  obtain ⟨b1, b2, b3, b4⟩ := hw
  have n0 := h.1
  have er : H.2.1 37 xs.toInt.toNat = A.2.2.1 xs.toInt.toNat 3 := h.2.2.1 xs.toInt.toNat 3 (by omega) (by decide)
  have hm := b3 xs.toInt.toNat (by omega)
  refine zw_met zm_115_t rfl rfl ?_
  refine zw_ld (n := 1) (k := 0) (f := zp_isR) (pc' := 1) rfl rfl rfl rfl rfl ?_
  refine zw_ld (n := 1) (k := 1) (f := zp_isI) (pc' := 2) rfl rfl rfl rfl rfl ?_
  refine zw_ctn (pc' := 5) (c' := (1, 6)) (zw_cv (q := 0) (Y := zm_108) W.1 rfl rfl zm_108_t rfl rfl) (zw_pb_ok rfl) rfl rfl rfl rfl (yc_ns1_3 hB (by omega)) ?_
  refine zw_ld (n := 1) (k := 3) (f := zp_isI) (pc' := 6) rfl rfl rfl rfl rfl ?_
  refine zw_blt1 (g := 15) (pc' := 9) rfl rfl rfl rfl (fun g0 => ?_) (fun g0 => ?_)
  · refine zw_ld (n := 1) (k := 0) (f := zp_isR) (pc' := 16) rfl rfl rfl rfl rfl ?_
    refine zw_s (pc' := 17) rfl rfl ?_
    refine zw_gI (q := 0) (pc' := 20) W rfl rfl rfl rfl rfl rfl ?_
    refine zw_s (pc' := 21) rfl rfl ?_
    refine zw_iadd (pc' := 22) rfl rfl ?_
    refine zw_pI (q := 0) (pc' := 25) W rfl rfl rfl rfl rfl rfl ?_
    refine zw_s (pc' := 26) rfl rfl ?_
    refine zw_rig rfl rfl ⟨by decide, by decide⟩ ?_
    refine ⟨_, _, rfl, Or.inr ⟨by omega, rfl, yHc_c (H := H) (fun p k p1 p2 => y_ne (fun h9 => by have := h9.1; omega)) h, zw_eq⟩, zw_W_I W, rfl⟩
  · refine zw_ld (n := 1) (k := 3) (f := zp_isI) (pc' := 10) rfl rfl rfl rfl rfl ?_
    refine zw_s (pc' := 12) rfl rfl ?_
    refine zw_ble2 (g := 27) (pc' := 15) rfl rfl rfl rfl (rfl : _ = (100 : Int)) (fun g1 => ?_) (fun g1 => ?_)
    · refine zw_ld (n := 1) (k := 0) (f := zp_isR) (pc' := 28) rfl rfl rfl rfl rfl ?_
      refine zw_gR (q := 0) (pc' := 31) W rfl rfl rfl rfl g6 rfl ?_
      refine zw_ld (n := 1) (k := 1) (f := zp_isI) (pc' := 32) rfl rfl rfl rfl rfl ?_
      refine zw_ld (n := 1) (k := 0) (f := zp_isR) (pc' := 33) rfl rfl rfl rfl rfl ?_
      refine zw_gR (q := 0) (pc' := 36) W rfl rfl rfl rfl g6 rfl ?_
      refine zw_gR (q := 33) (pc' := 39) W rfl rfl rfl rfl (W.2 33 4 _ rfl) rfl ?_
      refine zw_ld (n := 1) (k := 1) (f := zp_isI) (pc' := 40) rfl rfl rfl rfl rfl ?_
      refine zw_ia (q := 37) (pc' := 41) W rfl rfl (by decide) (⟨hs.1, by show _ < ((8 : Nat) : Int); omega⟩) rfl rfl ?_
      rw [er]
      obtain ⟨_, q1, H1, rfl, W1, q2, q3, q4⟩ := yc_keep33 (L := L) (σ := σ) (d := d + 1) (s := xs) (v := A.2.2.1 xs.toInt.toNat 3) W ⟨b1, b2, b3, b4⟩ h
      have g6b : H1.2.2.2 0 6 = some 34 := (congrArg (fun z => z.2 0 6) q2).trans g6
      refine zw_cn (pc' := 44) (zw_cv (q := 33) (Y := zm_113) W.1 rfl rfl zm_113_t rfl rfl) rfl rfl rfl rfl rfl (q1) ?_
      have em1 : H1.2.1 36 xs.toInt.toNat = A.2.2.1 xs.toInt.toNat 2 := q3.2.2.1 xs.toInt.toNat 2 (by show xs.toInt.toNat < A.1; omega) (by decide)
      have er1 : H1.2.1 37 xs.toInt.toNat = A.2.2.1 xs.toInt.toNat 3 := q3.2.2.1 xs.toInt.toNat 3 (by show xs.toInt.toNat < A.1; omega) (by decide)
      obtain ⟨_, r1, H2, rfl, W2, r2, r3, r4⟩ := yc_rbm33 (L := L) (σ := σ) (d := d + 1) (s := xs) (sd := sd) (ch := ch) (m := (A.2.2.1 xs.toInt.toNat 2).toInt.toNat) W1 ⟨hs.1, by omega⟩ (by rw [em1]; omega) (by omega)
      rw [er1] at r4
      have g6c : H2.2.2.2 0 6 = some 34 := (congrArg (fun z => z.2 0 6) r2).trans g6b
      refine zw_ld (n := 1) (k := 0) (f := zp_isR) (pc' := 45) rfl rfl rfl rfl rfl ?_
      refine zw_gR (q := 0) (pc' := 48) W1 rfl rfl rfl rfl g6b rfl ?_
      refine zw_ld (n := 1) (k := 1) (f := zp_isI) (pc' := 49) rfl rfl rfl rfl rfl ?_
      refine zw_ld (n := 1) (k := 2) (f := zp_isI) (pc' := 50) rfl rfl rfl rfl rfl ?_
      refine zw_ld (n := 1) (k := 3) (f := zp_isI) (pc' := 51) rfl rfl rfl rfl rfl ?_
      refine zw_cn (pc' := 54) (zw_cv (q := 33) (Y := zm_116) W1.1 rfl rfl zm_116_t rfl rfl) rfl rfl rfl rfl rfl (r1) ?_
      refine zw_ld (n := 1) (k := 0) (f := zp_isR) (pc' := 55) rfl rfl rfl rfl rfl ?_
      refine zw_gR (q := 0) (pc' := 58) W2 rfl rfl rfl rfl g6c rfl ?_
      refine zw_gR (q := 33) (pc' := 61) W2 rfl rfl rfl rfl (W2.2 33 4 _ rfl) rfl ?_
      refine zw_ld (n := 1) (k := 1) (f := zp_isI) (pc' := 62) rfl rfl rfl rfl rfl ?_
      refine zw_ia (q := 37) (pc' := 63) W2 rfl rfl (by decide) (⟨hs.1, by show _ < ((8 : Nat) : Int); omega⟩) rfl rfl ?_
      refine zw_c (pc' := 66) (zw_cs (Y := zm_117) rfl rfl zm_117_t) rfl rfl rfl rfl rfl (yc_bcI) ?_
      refine zw_rig rfl rfl ⟨by decide, by decide⟩ ?_
      refine ⟨_, _, rfl, Or.inl ⟨⟨by omega, by omega⟩, congrArg yIb r4, ?_, (r3 0 4 (by omega)).trans (q4 0 4 (by decide) (by decide) (by decide))⟩, W2, r2.trans q2⟩
      exact yHc_r q3 (fun p k p1 p2 p3 => r3 p k p3) r4
    · refine zw_ld (n := 1) (k := 0) (f := zp_isR) (pc' := 16) rfl rfl rfl rfl rfl ?_
      refine zw_s (pc' := 17) rfl rfl ?_
      refine zw_gI (q := 0) (pc' := 20) W rfl rfl rfl rfl rfl rfl ?_
      refine zw_s (pc' := 21) rfl rfl ?_
      refine zw_iadd (pc' := 22) rfl rfl ?_
      refine zw_pI (q := 0) (pc' := 25) W rfl rfl rfl rfl rfl rfl ?_
      refine zw_s (pc' := 26) rfl rfl ?_
      refine zw_rig rfl rfl ⟨by decide, by decide⟩ ?_
      refine ⟨_, _, rfl, Or.inr ⟨by omega, rfl, yHc_c (H := H) (fun p k p1 p2 => y_ne (fun h9 => by have := h9.1; omega)) h, zw_eq⟩, zw_W_I W, rfl⟩

theorem yl_rb3 {L : Nat} {σ : Nat → Int32} {d : Nat} {H : zp_H} {A : xK} {xs sd ch : Int32} (hB : zk_Bs (zB_c 3) zg zJc H) (hw : xKw A) (h : yHc 33 A H) (hs : 0 ≤ xs.toInt ∧ xs.toInt < A.1) : ∃ H1 u, zp_Call L σ (d + 4) 114 [.inr (.inr (some 1)), .inl xs, .inl sd, .inl ch, .inr (.inr (some 105))] H (.inl (some (.inl (Int32.ofInt 0))), zw_J H1 104 0 u.toInt64) ∧ (((0 ≤ ch.toInt ∧ ch.toInt ≤ 100) ∧ u = yIb (yRub ch (A.2.2.1 xs.toInt.toNat 2).toInt.toNat (Int32.ofInt 0) sd (A.2.2.1 xs.toInt.toNat 3)) ∧ yHc 33 (xKr (xKk A xs (A.2.2.1 xs.toInt.toNat 3)) xs.toInt.toNat (yRub ch (A.2.2.1 xs.toInt.toNat 2).toInt.toNat (Int32.ofInt 0) sd (A.2.2.1 xs.toInt.toNat 3))) H1 ∧ H1.2.1 0 4 = H.2.1 0 4) ∨ (¬ (0 ≤ ch.toInt ∧ ch.toInt ≤ 100) ∧ u = Int32.ofInt (-1) ∧ yHc 33 A H1 ∧ H1.2.1 0 4 = H.2.1 0 4 + Int32.ofInt 1)) ∧ zw_W H1 ∧ H1.2.2 = H.2.2 := by
  obtain ⟨_, q1, H1, u, rfl, q2, W1, q3⟩ := yc_rb3 (L := L) (σ := σ) (d := d) (sd := sd) (ch := ch) hB hw h hs
  have W := zB_Wd (zB_dn (zB_Bc hB))
  refine ⟨H1, u, zw_ex (zw_met zm_114_t rfl rfl ?_), q2, W1, q3⟩
  refine zw_ld (n := 2) (k := 4) (f := zp_isR) (pc' := 2) rfl rfl rfl rfl rfl ?_
  refine zw_s (pc' := 3) rfl rfl ?_
  refine zw_ld (n := 1) (k := 0) (f := zp_isR) (pc' := 4) rfl rfl rfl rfl rfl ?_
  refine zw_ld (n := 1) (k := 1) (f := zp_isI) (pc' := 5) rfl rfl rfl rfl rfl ?_
  refine zw_ld (n := 1) (k := 2) (f := zp_isI) (pc' := 6) rfl rfl rfl rfl rfl ?_
  refine zw_ld (n := 1) (k := 3) (f := zp_isI) (pc' := 7) rfl rfl rfl rfl rfl ?_
  refine zw_ct (pc' := 10) (c' := (1, 6)) (zw_cv (q := 0) (Y := zm_115) W.1 rfl rfl zm_115_t rfl rfl) (zw_pb_ok rfl) rfl rfl rfl rfl (q1) ?_
  refine zw_s (pc' := 11) rfl rfl ?_
  refine zw_ls (q := 104) (pc' := 12) W1 rfl rfl (⟨by decide, by decide⟩) rfl ?_
  refine zw_s (pc' := 19) rfl rfl ?_
  refine zw_s (pc' := 20) rfl rfl ?_
  refine zw_rig rfl rfl ⟨by decide, by decide⟩ ?_
  rfl

theorem yc_rbn3 {L : Nat} {σ : Nat → Int32} {d : Nat} {H : zp_H} {xs sd ch : Int32} (hB : zk_Bs (zB_c 3) zg zJc H) (h : ¬ (0 ≤ xs.toInt ∧ xs.toInt < (H.2.1 33 0).toInt)) : zp_Call L σ (d + 3) 115 [.inr (.inr (some 1)), .inl xs, .inl sd, .inl ch] H (.inr 0, H) := by
  have W := zB_Wd (zB_dn (zB_Bc hB))
  have g5 : H.2.2.2 0 5 = some 23 := hB.2.1 0 5 _ rfl
  have g6 : H.2.2.2 0 6 = some 34 := hB.2.1 0 6 _ rfl
  have g7 : H.2.2.2 0 7 = some 3 := hB.2.1 0 7 _ rfl
  have g8 : H.2.2.2 0 8 = some 14 := hB.2.1 0 8 _ rfl
  refine zw_ex (zw_met zm_115_t rfl rfl ?_)
  refine zw_ld (n := 1) (k := 0) (f := zp_isR) (pc' := 1) rfl rfl rfl rfl rfl ?_
  refine zw_ld (n := 1) (k := 1) (f := zp_isI) (pc' := 2) rfl rfl rfl rfl rfl ?_
  refine zw_cthr (ex := 0) (zw_cv (q := 0) (Y := zm_108) W.1 rfl rfl zm_108_t rfl rfl) (zw_pb_ok rfl) rfl rfl (yc_ns0_3 hB h) ?_
  rfl

theorem yl_rbn3 {L : Nat} {σ : Nat → Int32} {d : Nat} {H : zp_H} {xs sd ch : Int32} (hB : zk_Bs (zB_c 3) zg zJc H) (h : ¬ (0 ≤ xs.toInt ∧ xs.toInt < (H.2.1 33 0).toInt)) : zp_Call L σ (d + 4) 114 [.inr (.inr (some 1)), .inl xs, .inl sd, .inl ch, .inr (.inr (some 105))] H (.inl (some (.inl (Int32.ofInt 1))), H) := by
  have W := zB_Wd (zB_dn (zB_Bc hB))
  refine zw_ex (zw_met zm_114_t rfl rfl ?_)
  refine zw_ld (n := 2) (k := 4) (f := zp_isR) (pc' := 2) rfl rfl rfl rfl rfl ?_
  refine zw_s (pc' := 3) rfl rfl ?_
  refine zw_ld (n := 1) (k := 0) (f := zp_isR) (pc' := 4) rfl rfl rfl rfl rfl ?_
  refine zw_ld (n := 1) (k := 1) (f := zp_isI) (pc' := 5) rfl rfl rfl rfl rfl ?_
  refine zw_ld (n := 1) (k := 2) (f := zp_isI) (pc' := 6) rfl rfl rfl rfl rfl ?_
  refine zw_ld (n := 1) (k := 3) (f := zp_isI) (pc' := 7) rfl rfl rfl rfl rfl ?_
  refine zw_cexw (ex := 0) (hp9 := 15) (k9 := 5) (pc' := 17) (c' := (1, 6)) (zw_cv (q := 0) (Y := zm_115) W.1 rfl rfl zm_115_t rfl rfl) (zw_pb_ok rfl) rfl rfl rfl rfl rfl rfl rfl (yc_rbn3 hB h) ?_
  refine zw_s (pc' := 18) rfl rfl ?_
  refine zw_rig rfl rfl ⟨by decide, by decide⟩ ?_
  rfl

theorem yr_rb {L : Nat} {σ : Nat → Int32} {d : Nat} {H : zp_H} {A : xK} {xs sd ch : Int32} (W : zw_W H) (hw : xKw A) (h : yHr 74 75 93 62 A H) (hs : 0 ≤ xs.toInt ∧ xs.toInt < A.1) : ∃ X, zp_Call L σ (d + 3) 216 [.inr (.inr (some 73)), .inl xs, .inl sd, .inl ch] H X ∧ ∃ H1 u, X = (.inl (some (.inl u)), H1) ∧ (((0 ≤ ch.toInt ∧ ch.toInt ≤ 100) ∧ u = yIs (yRub ch (A.2.2.1 xs.toInt.toNat 2).toInt.toNat (Int32.ofInt 0) sd (A.2.2.1 xs.toInt.toNat 3)) 8 (Int32.ofInt 0) (Int32.ofInt 0) ∧ yHr 74 75 93 62 (xKr (xKk A xs (A.2.2.1 xs.toInt.toNat 3)) xs.toInt.toNat (yRub ch (A.2.2.1 xs.toInt.toNat 2).toInt.toNat (Int32.ofInt 0) sd (A.2.2.1 xs.toInt.toNat 3))) H1 ∧ H1.2.1 82 1 = H.2.1 82 1) ∨ (¬ (0 ≤ ch.toInt ∧ ch.toInt ≤ 100) ∧ u = Int32.ofInt (-1) ∧ yHr 74 75 93 62 A H1 ∧ H1.2.1 82 1 = H.2.1 82 1 + Int32.ofInt 1)) ∧ (H1.2.1 72 0).toInt = 0 ∧ H1.2.1 82 0 = H.2.1 82 0 := by
  obtain ⟨b1, b2, b3, b4⟩ := id hw
  have h0 : ((zw_I H 72 0 (Int32.ofInt 0)).2.1 72 0).toInt = 0 := congrArg Int32.toInt zw_eq
  have e5 : ((zw_I H 72 0 (Int32.ofInt 0)).2.1 72 5).toInt = A.1 := (congrArg Int32.toInt (zw_ne rfl rfl)).trans h.1
  have hm := b3 xs.toInt.toNat (by omega)
  have i1 : (Int32.ofInt 4 * xs).toInt = 4 * xs.toInt := zt_mul (by decide) (by omega)
  have i2 : (Int32.ofInt 4 * xs + Int32.ofInt 3).toInt = 4 * xs.toInt + 3 := by rw [zt_add (by decide) (by omega), i1]
  have i3 : (Int32.ofInt 4 * xs + Int32.ofInt 3).toInt.toNat = 4 * xs.toInt.toNat + 3 := by omega
  have er : H.2.1 74 (4 * xs.toInt.toNat + 3) = A.2.2.1 xs.toInt.toNat 3 := h.2.2.1 xs.toInt.toNat 3 (by omega) (by decide)
  have k0 : (Int32.ofInt 0).toInt = 0 ∧ (Int32.ofInt 100).toInt = 100 := by decide
  have hK : yHr 74 75 93 62 A (zw_I H 72 0 (Int32.ofInt 0)) := yHr_c (H := H) (zw_ne rfl rfl) (zw_ne rfl rfl) (fun k => y_ne (fun h9 => absurd h9.1 (by decide))) (fun k => y_ne (fun h9 => absurd h9.1 (by decide))) (fun k => y_ne (fun h9 => absurd h9.1 (by decide))) h
  refine zw_met zm_216_t rfl rfl ?_
  refine zw_ld (n := 1) (k := 0) (f := zp_isR) (pc' := 1) rfl rfl rfl rfl rfl ?_
  refine zw_s (pc' := 2) rfl rfl ?_
  refine zw_pI (q := 72) (pc' := 5) W rfl rfl rfl rfl rfl rfl ?_
  refine zw_ld (n := 1) (k := 0) (f := zp_isR) (pc' := 6) rfl rfl rfl rfl rfl ?_
  refine zw_ld (n := 1) (k := 1) (f := zp_isI) (pc' := 7) rfl rfl rfl rfl rfl ?_
  refine zw_c (pc' := 10) (zw_cv (q := 72) (Y := zm_210) (zw_W_I W).1 rfl rfl zm_210_t rfl rfl) rfl rfl rfl rfl rfl (zq_slate1 (zw_W_I W) h0 ⟨hs.1, by omega⟩) ?_
  refine zw_bne1 (g := 15) (pc' := 13) rfl rfl rfl (rfl : _ = (1 : Int)) (fun h1 => ?_) (fun h9 => absurd h9 (by decide))
  refine zw_ld (n := 1) (k := 3) (f := zp_isI) (pc' := 16) rfl rfl rfl rfl rfl ?_
  refine zw_s (pc' := 17) rfl rfl ?_
  refine zw_s (pc' := 19) rfl rfl ?_
  by_cases k1 : (Int32.ofInt 0).toInt ≤ ch.toInt ∧ ch.toInt ≤ (Int32.ofInt 100).toInt
  · refine zw_c (pc' := 22) (zw_cs (Y := zm_185) rfl rfl zm_185_t) rfl rfl rfl rfl rfl (zq_within1 k1) ?_
    refine zw_bne1 (g := 30) (pc' := 25) rfl rfl rfl (rfl : _ = (1 : Int)) (fun h3 => ?_) (fun h9 => absurd h9 (by decide))
    refine zw_ld (n := 1) (k := 0) (f := zp_isR) (pc' := 31) rfl rfl rfl rfl rfl ?_
    refine zw_ld (n := 1) (k := 1) (f := zp_isI) (pc' := 32) rfl rfl rfl rfl rfl ?_
    refine zw_ld (n := 1) (k := 0) (f := zp_isR) (pc' := 33) rfl rfl rfl rfl rfl ?_
    refine zw_gR (q := 72) (pc' := 36) (zw_W_I W) rfl rfl rfl rfl ((zw_W_I W).2 72 14 _ rfl) rfl ?_
    refine zw_s (pc' := 37) rfl rfl ?_
    refine zw_ld (n := 1) (k := 1) (f := zp_isI) (pc' := 38) rfl rfl rfl rfl rfl ?_
    refine zw_imul (pc' := 39) rfl rfl ?_
    refine zw_s (pc' := 40) rfl rfl ?_
    refine zw_iadd (pc' := 41) rfl rfl ?_
    refine zw_ia (q := 74) (pc' := 42) (zw_W_I W) rfl rfl (by decide) (⟨by omega, by show _ < ((32 : Nat) : Int); omega⟩) (zw_ne rfl rfl) rfl ?_
    have k82 : (zw_I H 72 0 (Int32.ofInt 0)).2.1 82 1 = H.2.1 82 1 := y_ne (fun h9 => absurd h9.1 (by decide))
    have k80 : (zw_I H 72 0 (Int32.ofInt 0)).2.1 82 0 = H.2.1 82 0 := y_ne (fun h9 => absurd h9.1 (by decide))
    have WK : zw_W (zw_I H 72 0 (Int32.ofInt 0)) := zw_W_I W
    rw [i3, er]
    show zs_Safe L σ _ zm_216 [] _ (42, _, _, zw_I H 72 0 (Int32.ofInt 0), (0, 0))
    generalize zw_I H 72 0 (Int32.ofInt 0) = K at WK hK k82 k80 h0 ⊢
    obtain ⟨_, q1, H1, rfl, W1, q2, q3, q4⟩ := yr_keep (L := L) (σ := σ) (d := d + 1) (s := xs) (v := A.2.2.1 xs.toInt.toNat 3) WK hw hK
    have em1 : H1.2.1 74 (4 * xs.toInt.toNat + 2) = A.2.2.1 xs.toInt.toNat 2 := q3.2.2.1 xs.toInt.toNat 2 (by show xs.toInt.toNat < A.1; omega) (by decide)
    have er1 : H1.2.1 74 (4 * xs.toInt.toNat + 3) = A.2.2.1 xs.toInt.toNat 3 := q3.2.2.1 xs.toInt.toNat 3 (by show xs.toInt.toNat < A.1; omega) (by decide)
    refine zw_cn (pc' := 45) (zw_cv (q := 72) (Y := zm_215) WK.1 rfl rfl zm_215_t rfl rfl) rfl rfl rfl rfl rfl (q1) ?_
    refine zw_ld (n := 1) (k := 2) (f := zp_isI) (pc' := 46) rfl rfl rfl rfl rfl ?_
    refine zw_st (n := 2) (k := 4) (f := zp_isI) (pc' := 48) rfl rfl rfl rfl rfl ?_
    refine zw_s (pc' := 49) rfl rfl ?_
    refine zw_st (n := 2) (k := 5) (f := zp_isI) (pc' := 51) rfl rfl rfl rfl rfl ?_
    refine yrbL72 (s := xs) (ch := ch) ⟨hs.1, by omega⟩ (A.2.2.1 xs.toInt.toNat 2).toInt.toNat H1 _ sd (Int32.ofInt 0) W1 (by rw [em1]; show _ = (0 : Int) + _; omega) (by decide) (by show (0 : Int) + _ ≤ 8; omega) ((zw_gt (zw_gt rfl rfl rfl) rfl rfl)) ((zw_gt (zw_gt rfl rfl rfl) rfl rfl)) ((zw_gt (zw_gt rfl rfl rfl) rfl rfl)) ((zw_gt zw_g1 rfl rfl)) (zw_g1) (fun H2 W2 r2 r3 r4 lv1 l0 l1 => ?_)
    rw [er1] at r4
    refine zw_ld (n := 1) (k := 0) (f := zp_isR) (pc' := 113) rfl rfl l0 rfl rfl ?_
    refine zw_gR (q := 72) (pc' := 116) W2 rfl rfl rfl rfl (W2.2 72 14 _ rfl) rfl ?_
    refine zw_s (pc' := 117) rfl rfl ?_
    refine zw_ld (n := 1) (k := 1) (f := zp_isI) (pc' := 118) rfl rfl l1 rfl rfl ?_
    refine zw_imul (pc' := 119) rfl rfl ?_
    refine zw_s (pc' := 120) rfl rfl ?_
    refine zw_iadd (pc' := 121) rfl rfl ?_
    refine zw_ia (q := 74) (pc' := 122) W2 rfl rfl (by decide) (⟨by omega, by show _ < ((32 : Nat) : Int); omega⟩) rfl rfl ?_
    rw [i3]
    refine zw_c (pc' := 125) (zw_cs (Y := zm_217) rfl rfl zm_217_t) rfl rfl rfl rfl rfl (yr_bits) ?_
    refine zw_ri rfl rfl ?_
    refine ⟨_, _, rfl, Or.inl ⟨⟨by omega, by omega⟩, congrArg (fun z => yIs z 8 (Int32.ofInt 0) (Int32.ofInt 0)) r4, ?_, ((r3 82 1 (by omega)).trans (q4 82 1 (by decide) (by decide))).trans k82⟩, (congrArg Int32.toInt ((r3 72 0 (by omega)).trans (q4 72 0 (by decide) (by decide)))).trans h0, ((r3 82 0 (by omega)).trans (q4 82 0 (by decide) (by decide))).trans k80⟩
    exact yHr_r q3 (r3 72 5 (by omega)) (r3 72 62 (by omega)) (fun k hk => r3 74 k (fun h9 => hk h9.2)) (fun k => r3 75 k (fun h9 => absurd h9.1 (by decide))) (fun k => r3 93 k (fun h9 => absurd h9.1 (by decide))) r4
  · refine zw_c (pc' := 22) (zw_cs (Y := zm_185) rfl rfl zm_185_t) rfl rfl rfl rfl rfl (zq_within0 k1) ?_
    refine zw_bne1 (g := 30) (pc' := 25) rfl rfl rfl (rfl : _ = (0 : Int)) (fun h9 => absurd h9 (by decide)) (fun h3 => ?_)
    refine zw_ld (n := 1) (k := 0) (f := zp_isR) (pc' := 26) rfl rfl rfl rfl rfl ?_
    refine zw_c (pc' := 29) (zw_cv (q := 72) (Y := zm_214) (zw_W_I W).1 rfl rfl zm_214_t rfl rfl) rfl rfl rfl rfl rfl (zq_refuses (zw_W_I W)) ?_
    refine zw_ri rfl rfl ?_
    refine ⟨_, _, rfl, Or.inr ⟨by omega, rfl, yHr_c ?_ ?_ (fun k => ?_) (fun k => ?_) (fun k => ?_) hK, ?_⟩, ?_, (y_ne (fun h9 => absurd h9.2 (by decide))).trans (y_ne (fun h9 => absurd h9.1 (by decide)))⟩
    · exact y_ne (fun h9 => absurd h9.1 (by decide))
    · exact y_ne (fun h9 => absurd h9.1 (by decide))
    · exact y_ne (fun h9 => absurd h9.1 (by decide))
    · exact y_ne (fun h9 => absurd h9.1 (by decide))
    · exact y_ne (fun h9 => absurd h9.1 (by decide))
    · exact zw_eq.trans (congrArg (fun z : Int32 => z + Int32.ofInt 1) (zw_ne rfl rfl))
    · exact (congrArg Int32.toInt (y_ne (fun h9 => absurd h9.1 (by decide)))).trans h0

theorem yr_rbn {L : Nat} {σ : Nat → Int32} {d : Nat} {H : zp_H} {xs sd ch : Int32} (W : zw_W H) (h : ¬ (0 ≤ xs.toInt ∧ xs.toInt < (H.2.1 72 5).toInt)) : zp_Call L σ (d + 3) 216 [.inr (.inr (some 73)), .inl xs, .inl sd, .inl ch] H (.inl (some (.inl (Int32.ofInt 0))), zw_I (zw_I H 72 0 (Int32.ofInt 0)) 72 0 (Int32.ofInt 1)) := by
  have h0 : ((zw_I H 72 0 (Int32.ofInt 0)).2.1 72 0).toInt = 0 := congrArg Int32.toInt zw_eq
  have e5 : (zw_I H 72 0 (Int32.ofInt 0)).2.1 72 5 = H.2.1 72 5 := zw_ne rfl rfl
  refine zw_ex (zw_met zm_216_t rfl rfl ?_)
  refine zw_ld (n := 1) (k := 0) (f := zp_isR) (pc' := 1) rfl rfl rfl rfl rfl ?_
  refine zw_s (pc' := 2) rfl rfl ?_
  refine zw_pI (q := 72) (pc' := 5) W rfl rfl rfl rfl rfl rfl ?_
  refine zw_ld (n := 1) (k := 0) (f := zp_isR) (pc' := 6) rfl rfl rfl rfl rfl ?_
  refine zw_ld (n := 1) (k := 1) (f := zp_isI) (pc' := 7) rfl rfl rfl rfl rfl ?_
  refine zw_c (pc' := 10) (zw_cv (q := 72) (Y := zm_210) (zw_W_I W).1 rfl rfl zm_210_t rfl rfl) rfl rfl rfl rfl rfl (zq_slate0 (zw_W_I W) h0 (by rw [e5]; exact h)) ?_
  refine zw_bne1 (g := 15) (pc' := 13) rfl rfl rfl (rfl : _ = (0 : Int)) (fun h9 => absurd h9 (by decide)) (fun h1 => ?_)
  refine zw_s (pc' := 14) rfl rfl ?_
  refine zw_ri rfl rfl ?_
  rfl
