/-! ===== undo, image, restore, exactly ===== -/
def zm_20 : za_MI := (yX11_undo, prog_1_method_13_code, 1, (some FieldType.int), 11, 0, 0, [], za_i20)
theorem zm_20_t : za_MT 20 = some zm_20 := rfl
def zm_21 : za_MI := (yX0_takeBack, prog_2_method_10_code, 2, (some FieldType.boolean), 0, 0, 0, [], za_i21)
theorem zm_21_t : za_MT 21 = some zm_21 := rfl
def zm_45 : za_MI := (yX11_image, prog_1_method_26_code, 1, none, 11, 0, 0, [], za_i45)
theorem zm_45_t : za_MT 45 = some zm_45 := rfl
def zm_46 : za_MI := (yX0_copyFrom, prog_2_method_11_code, 2, none, 0, 0, 0, [], za_i46)
theorem zm_46_t : za_MT 46 = some zm_46 := rfl
def zm_47 : za_MI := (yX11_restore, prog_1_method_27_code, 1, (some FieldType.boolean), 11, 0, 0, [], za_i47)
theorem zm_47_t : za_MT 47 = some zm_47 := rfl
theorem xKw_u {A : xK} (h : xKw A) (ha : 0 < A.2.1) (hk : (A.2.2.2.2 (A.2.1 - 1) 1).toInt = -1 → 0 < (A.2.2.1 (A.2.2.2.2 (A.2.1 - 1) 0).toInt.toNat 2).toInt) : xKw (xKu A) := by
  obtain ⟨h1, h2, h3, h4⟩ := h
  refine ⟨h1, by show A.2.1 - 1 ≤ 30; omega, fun i hi => ?_, fun k hk => h4 k (by have hk : k < A.2.1 - 1 := hk; omega)⟩
  have hb := h3 i hi
  show 0 ≤ ((if (A.2.2.2.2 (A.2.1 - 1) 1).toInt = -1 then yU2 A.2.2.1 (A.2.2.2.2 (A.2.1 - 1) 0).toInt.toNat 2 (A.2.2.1 (A.2.2.2.2 (A.2.1 - 1) 0).toInt.toNat 2 - Int32.ofInt 1) else yU2 A.2.2.1 (A.2.2.2.2 (A.2.1 - 1) 0).toInt.toNat 3 (A.2.2.2.2 (A.2.1 - 1) 1)) i 2).toInt ∧ ((if (A.2.2.2.2 (A.2.1 - 1) 1).toInt = -1 then yU2 A.2.2.1 (A.2.2.2.2 (A.2.1 - 1) 0).toInt.toNat 2 (A.2.2.1 (A.2.2.2.2 (A.2.1 - 1) 0).toInt.toNat 2 - Int32.ofInt 1) else yU2 A.2.2.1 (A.2.2.2.2 (A.2.1 - 1) 0).toInt.toNat 3 (A.2.2.2.2 (A.2.1 - 1) 1)) i 2).toInt ≤ 8
  by_cases h9 : (A.2.2.2.2 (A.2.1 - 1) 1).toInt = -1
  · rw [if_pos h9]
    have h8 := hk h9
    by_cases h7 : i = (A.2.2.2.2 (A.2.1 - 1) 0).toInt.toNat
    · rw [h7] at hb ⊢
      rw [yU2_e, zw_m1 (by omega)]
      omega
    · rw [yU2_n (fun h6 => h7 h6.1)]; exact hb
  · rw [if_neg h9, yU2_n (fun h6 => absurd h6.2 (by decide))]; exact hb
theorem yHc_u {cp : Nat} {A : xK} {H H' : zp_H} (h : yHc cp A H) (hw : xKw A) (ha : 0 < A.2.1) (h7 : (H'.2.1 cp 7).toInt = (A.2.1 - 1 : Nat)) (h0 : H'.2.1 cp 0 = H.2.1 cp 0) (hs : ∀ s w, s < A.1 → w < 4 → H'.2.1 (cp + 1 + w) s = (xKu A).2.2.1 s w) (hf : ∀ p k, cp + 5 ≤ p → p ≤ cp + 8 → H'.2.1 p k = H.2.1 p k) (hk : (A.2.2.2.2 (A.2.1 - 1) 1).toInt = -1 → 0 < (A.2.2.1 (A.2.2.2.2 (A.2.1 - 1) 0).toInt.toNat 2).toInt) : yHc cp (xKu A) H' := by
  obtain ⟨h1, h2, h3, h4, h5⟩ := h
  refine ⟨by rw [h0]; exact h1, h7, hs, fun s j w hs hj hw' => ?_, fun k w hk hw' => ?_⟩
  · rw [hf _ _ (by omega) (by omega)]
    refine h4 s j w hs ?_ hw'
    have hj : j < ((xKu A).2.2.1 s 2).toInt.toNat := hj
    have e : ((xKu A).2.2.1 s 2).toInt ≤ (A.2.2.1 s 2).toInt := by
      show ((if (A.2.2.2.2 (A.2.1 - 1) 1).toInt = -1 then yU2 A.2.2.1 (A.2.2.2.2 (A.2.1 - 1) 0).toInt.toNat 2 (A.2.2.1 (A.2.2.2.2 (A.2.1 - 1) 0).toInt.toNat 2 - Int32.ofInt 1) else yU2 A.2.2.1 (A.2.2.2.2 (A.2.1 - 1) 0).toInt.toNat 3 (A.2.2.2.2 (A.2.1 - 1) 1)) s 2).toInt ≤ _
      by_cases h9 : (A.2.2.2.2 (A.2.1 - 1) 1).toInt = -1
      · rw [if_pos h9]
        have h8 := hk h9
        by_cases h7 : s = (A.2.2.2.2 (A.2.1 - 1) 0).toInt.toNat
        · rw [h7, yU2_e, zw_m1 (by omega)]; omega
        · rw [yU2_n (fun h6 => h7 h6.1)]; omega
      · rw [if_neg h9, yU2_n (fun h6 => absurd h6.2 (by decide))]; omega
    omega
  · rw [hf _ _ (by omega) (by omega)]
    exact h5 k w (by have hk : k < A.2.1 - 1 := hk; omega) hw'
theorem yHr_u {rs rm ra af : Nat} {A : xK} {H H' : zp_H} (h : yHr rs rm ra af A H) (hw : xKw A) (ha : 0 < A.2.1) (h7 : (H'.2.1 72 af).toInt = (A.2.1 - 1 : Nat)) (h0 : H'.2.1 72 5 = H.2.1 72 5) (hs : ∀ s w, s < A.1 → w < 4 → H'.2.1 rs (4 * s + w) = (xKu A).2.2.1 s w) (fm : ∀ k, H'.2.1 rm k = H.2.1 rm k) (fa : ∀ k, H'.2.1 ra k = H.2.1 ra k) (hk : (A.2.2.2.2 (A.2.1 - 1) 1).toInt = -1 → 0 < (A.2.2.1 (A.2.2.2.2 (A.2.1 - 1) 0).toInt.toNat 2).toInt) : yHr rs rm ra af (xKu A) H' := by
  obtain ⟨h1, h2, h3, h4, h5⟩ := h
  refine ⟨by rw [h0]; exact h1, h7, hs, fun s j w hs hj hw' => ?_, fun k w hk hw' => ?_⟩
  · rw [fm]
    refine h4 s j w hs ?_ hw'
    have hj : j < ((xKu A).2.2.1 s 2).toInt.toNat := hj
    have e : ((xKu A).2.2.1 s 2).toInt ≤ (A.2.2.1 s 2).toInt := by
      show ((if (A.2.2.2.2 (A.2.1 - 1) 1).toInt = -1 then yU2 A.2.2.1 (A.2.2.2.2 (A.2.1 - 1) 0).toInt.toNat 2 (A.2.2.1 (A.2.2.2.2 (A.2.1 - 1) 0).toInt.toNat 2 - Int32.ofInt 1) else yU2 A.2.2.1 (A.2.2.2.2 (A.2.1 - 1) 0).toInt.toNat 3 (A.2.2.2.2 (A.2.1 - 1) 1)) s 2).toInt ≤ _
      by_cases h9 : (A.2.2.2.2 (A.2.1 - 1) 1).toInt = -1
      · rw [if_pos h9]
        have h8 := hk h9
        by_cases h7 : s = (A.2.2.2.2 (A.2.1 - 1) 0).toInt.toNat
        · rw [h7, yU2_e, zw_m1 (by omega)]; omega
        · rw [yU2_n (fun h6 => h7 h6.1)]; omega
      · rw [if_neg h9, yU2_n (fun h6 => absurd h6.2 (by decide))]; omega
    omega
  · rw [fa]
    exact h5 k w (by have hk : k < A.2.1 - 1 := hk; omega) hw'

theorem yc_tb13 {L : Nat} {σ : Nat → Int32} {d : Nat} {H : zp_H} {A : xK} (W : zw_W H) (hw : xKw A) (h : yHc 13 A H) (hk : (A.2.2.2.2 (A.2.1 - 1) 1).toInt = -1 → 0 < (A.2.2.1 (A.2.2.2.2 (A.2.1 - 1) 0).toInt.toNat 2).toInt) : ∃ X, zp_Call L σ (d + 1) 21 [.inr (.inr (some 14))] H X ∧ ∃ H1 z, X = (.inl (some (.inl z)), H1) ∧ ((A.2.1 = 0 ∧ z = Int32.ofInt 0 ∧ H1 = H) ∨ (0 < A.2.1 ∧ z = Int32.ofInt 1 ∧ yHc 13 (xKu A) H1 ∧ zw_W H1 ∧ H1.2.2 = H.2.2)) := by
  obtain ⟨b1, b2, b3, b4⟩ := id hw
  have h7 := h.2.1
  refine zw_met zm_21_t rfl rfl ?_
  refine zw_ld (n := 1) (k := 0) (f := zp_isR) (pc' := 1) rfl rfl rfl rfl rfl ?_
  refine zw_gI (q := 13) (pc' := 4) W rfl rfl rfl rfl rfl rfl ?_
  refine zw_bgt1 (g := 9) (pc' := 7) rfl rfl rfl rfl (fun hb => ?_) (fun hb => ?_)
  · have ha : 0 < A.2.1 := by omega
    have ea : (H.2.1 13 7 - Int32.ofInt 1).toInt = (H.2.1 13 7).toInt - 1 := zw_m1 (by omega)
    have en : (H.2.1 13 7 - Int32.ofInt 1).toInt.toNat = A.2.1 - 1 := by omega
    have e0 : H.2.1 20 (A.2.1 - 1) = A.2.2.2.2 (A.2.1 - 1) 0 := h.2.2.2.2 (A.2.1 - 1) 0 (by omega) (by decide)
    have e1 : H.2.1 21 (A.2.1 - 1) = A.2.2.2.2 (A.2.1 - 1) 1 := h.2.2.2.2 (A.2.1 - 1) 1 (by omega) (by decide)
    have hs := b4 (A.2.1 - 1) (by omega)
    refine zw_ld (n := 1) (k := 0) (f := zp_isR) (pc' := 10) rfl rfl rfl rfl rfl ?_
    refine zw_s (pc' := 11) rfl rfl ?_
    refine zw_gI (q := 13) (pc' := 14) W rfl rfl rfl rfl rfl rfl ?_
    refine zw_s (pc' := 15) rfl rfl ?_
    refine zw_isub (pc' := 16) rfl rfl ?_
    refine zw_pI (q := 13) (pc' := 19) W rfl rfl rfl rfl rfl rfl ?_
    refine zw_ld (n := 1) (k := 0) (f := zp_isR) (pc' := 20) rfl rfl rfl rfl rfl ?_
    refine zw_gR (q := 13) (pc' := 23) (zw_W_I W) rfl rfl rfl rfl ((zw_W_I W).2 13 8 _ rfl) rfl ?_
    refine zw_ld (n := 1) (k := 0) (f := zp_isR) (pc' := 24) rfl rfl rfl rfl rfl ?_
    refine zw_gI (q := 13) (pc' := 27) (zw_W_I W) rfl rfl rfl rfl zw_eq rfl ?_
    refine zw_ia (q := 20) (pc' := 28) (zw_W_I W) rfl rfl (by decide) (⟨by omega, by show _ < ((30 : Nat) : Int); omega⟩) (zw_ne rfl rfl) rfl ?_
    rw [en, e0]
    refine zw_st (n := 1) (k := 1) (f := zp_isI) (pc' := 29) rfl rfl rfl rfl rfl ?_
    refine zw_ld (n := 1) (k := 0) (f := zp_isR) (pc' := 30) rfl rfl (zw_gt rfl rfl rfl) rfl rfl ?_
    refine zw_gR (q := 13) (pc' := 33) (zw_W_I W) rfl rfl rfl rfl ((zw_W_I W).2 13 9 _ rfl) rfl ?_
    refine zw_ld (n := 1) (k := 0) (f := zp_isR) (pc' := 34) rfl rfl (zw_gt rfl rfl rfl) rfl rfl ?_
    refine zw_gI (q := 13) (pc' := 37) (zw_W_I W) rfl rfl rfl rfl zw_eq rfl ?_
    refine zw_ia (q := 21) (pc' := 38) (zw_W_I W) rfl rfl (by decide) (⟨by omega, by show _ < ((30 : Nat) : Int); omega⟩) (zw_ne rfl rfl) rfl ?_
    refine zw_s (pc' := 39) rfl rfl ?_
    rw [en, e1]
    refine zw_beq2 (g := 60) (pc' := 42) rfl rfl rfl rfl (rfl : _ = (-1 : Int)) (fun h9 => ?_) (fun h9 => ?_)
    · have h8 := hk h9
      have em : H.2.1 16 (A.2.2.2.2 (A.2.1 - 1) 0).toInt.toNat = A.2.2.1 (A.2.2.2.2 (A.2.1 - 1) 0).toInt.toNat 2 := h.2.2.1 (A.2.2.2.2 (A.2.1 - 1) 0).toInt.toNat 2 (by omega) (by decide)
      have em9 : (H.2.1 16 (A.2.2.2.2 (A.2.1 - 1) 0).toInt.toNat).toInt = (A.2.2.1 (A.2.2.2.2 (A.2.1 - 1) 0).toInt.toNat 2).toInt := congrArg Int32.toInt em
      refine zw_ld (n := 1) (k := 0) (f := zp_isR) (pc' := 61) rfl rfl (zw_gt rfl rfl rfl) rfl rfl ?_
      refine zw_gR (q := 13) (pc' := 64) (zw_W_I W) rfl rfl rfl rfl ((zw_W_I W).2 13 3 _ rfl) rfl ?_
      refine zw_ld (n := 1) (k := 1) (f := zp_isI) (pc' := 65) rfl rfl zw_g1 rfl rfl ?_
      refine zw_ia (q := 16) (pc' := 66) (zw_W_I W) rfl rfl (by decide) (⟨hs.1, by show _ < ((8 : Nat) : Int); omega⟩) (zw_ne rfl rfl) rfl ?_
      refine zw_ble1 (g := 79) (pc' := 69) rfl rfl rfl rfl (fun h10 => ?_) (fun h10 => ?_)
      · omega
      · refine zw_ld (n := 1) (k := 0) (f := zp_isR) (pc' := 70) rfl rfl (zw_gt rfl rfl rfl) rfl rfl ?_
        refine zw_gR (q := 13) (pc' := 73) (zw_W_I W) rfl rfl rfl rfl ((zw_W_I W).2 13 3 _ rfl) rfl ?_
        refine zw_ld (n := 1) (k := 1) (f := zp_isI) (pc' := 74) rfl rfl zw_g1 rfl rfl ?_
        refine zw_s (pc' := 75) rfl rfl ?_
        refine zw_ia (q := 16) (pc' := 76) (zw_W_I W) rfl rfl (by decide) (⟨hs.1, by show _ < ((8 : Nat) : Int); omega⟩) (zw_ne rfl rfl) rfl ?_
        refine zw_s (pc' := 77) rfl rfl ?_
        refine zw_isub (pc' := 78) rfl rfl ?_
        refine zw_is (q := 16) (pc' := 79) (zw_W_I W) rfl rfl (by decide) (⟨hs.1, by show _ < ((8 : Nat) : Int); omega⟩) rfl ?_
        refine zw_s (pc' := 80) rfl rfl ?_
        refine zw_rz rfl rfl (Or.inr rfl) ?_
        refine ⟨_, _, rfl, Or.inr ⟨ha, rfl, yHc_u h hw ha ?_ ?_ (fun s w hs1 hw1 => ?_) (fun p k p1 p2 => ?_) hk, zw_W_I (zw_W_I W), rfl⟩⟩
        · refine (congrArg Int32.toInt ((y_ne (fun h9 => absurd h9.1 (by decide))).trans zw_eq)).trans ?_
          omega
        · exact (y_ne (fun h9 => absurd h9.1 (by decide))).trans (y_ne (fun h9 => absurd h9.2 (by decide)))
        · show _ = (if (A.2.2.2.2 (A.2.1 - 1) 1).toInt = -1 then yU2 A.2.2.1 (A.2.2.2.2 (A.2.1 - 1) 0).toInt.toNat 2 (A.2.2.1 (A.2.2.2.2 (A.2.1 - 1) 0).toInt.toNat 2 - Int32.ofInt 1) else yU2 A.2.2.1 (A.2.2.2.2 (A.2.1 - 1) 0).toInt.toNat 3 (A.2.2.2.2 (A.2.1 - 1) 1)) s w
          rw [if_pos h9]
          by_cases h6 : s = (A.2.2.2.2 (A.2.1 - 1) 0).toInt.toNat ∧ w = 2
          · obtain ⟨rfl, rfl⟩ := h6
            rw [yU2_e, ← em]
            exact zw_eq
          · rw [yU2_n h6]
            exact (y_ne (fun h5 => h6 ⟨h5.2, by have := h5.1; omega⟩)).trans ((y_ne (fun h5 => by have := h5.1; omega)).trans (h.2.2.1 s w hs1 hw1))
        · exact (y_ne (fun h5 => by have := h5.1; omega)).trans (y_ne (fun h5 => by have := h5.1; omega))
    · refine zw_ld (n := 1) (k := 0) (f := zp_isR) (pc' := 43) rfl rfl (zw_gt rfl rfl rfl) rfl rfl ?_
      refine zw_gR (q := 13) (pc' := 46) (zw_W_I W) rfl rfl rfl rfl ((zw_W_I W).2 13 4 _ rfl) rfl ?_
      refine zw_ld (n := 1) (k := 1) (f := zp_isI) (pc' := 47) rfl rfl zw_g1 rfl rfl ?_
      refine zw_ld (n := 1) (k := 0) (f := zp_isR) (pc' := 48) rfl rfl (zw_gt rfl rfl rfl) rfl rfl ?_
      refine zw_gR (q := 13) (pc' := 51) (zw_W_I W) rfl rfl rfl rfl ((zw_W_I W).2 13 9 _ rfl) rfl ?_
      refine zw_ld (n := 1) (k := 0) (f := zp_isR) (pc' := 52) rfl rfl (zw_gt rfl rfl rfl) rfl rfl ?_
      refine zw_gI (q := 13) (pc' := 55) (zw_W_I W) rfl rfl rfl rfl zw_eq rfl ?_
      refine zw_ia (q := 21) (pc' := 56) (zw_W_I W) rfl rfl (by decide) (⟨by omega, by show _ < ((30 : Nat) : Int); omega⟩) (zw_ne rfl rfl) rfl ?_
      refine zw_is (q := 17) (pc' := 57) (zw_W_I W) rfl rfl (by decide) (⟨hs.1, by show _ < ((8 : Nat) : Int); omega⟩) rfl ?_
      refine zw_s (pc' := 79) rfl rfl ?_
      refine zw_s (pc' := 80) rfl rfl ?_
      refine zw_rz rfl rfl (Or.inr rfl) ?_
      refine ⟨_, _, rfl, Or.inr ⟨ha, rfl, yHc_u h hw ha ?_ ?_ (fun s w hs1 hw1 => ?_) (fun p k p1 p2 => ?_) hk, zw_W_I (zw_W_I W), rfl⟩⟩
      · refine (congrArg Int32.toInt ((y_ne (fun h9 => absurd h9.1 (by decide))).trans zw_eq)).trans ?_
        omega
      · exact (y_ne (fun h9 => absurd h9.1 (by decide))).trans (y_ne (fun h9 => absurd h9.2 (by decide)))
      · show _ = (if (A.2.2.2.2 (A.2.1 - 1) 1).toInt = -1 then yU2 A.2.2.1 (A.2.2.2.2 (A.2.1 - 1) 0).toInt.toNat 2 (A.2.2.1 (A.2.2.2.2 (A.2.1 - 1) 0).toInt.toNat 2 - Int32.ofInt 1) else yU2 A.2.2.1 (A.2.2.2.2 (A.2.1 - 1) 0).toInt.toNat 3 (A.2.2.2.2 (A.2.1 - 1) 1)) s w
        rw [if_neg h9]
        by_cases h6 : s = (A.2.2.2.2 (A.2.1 - 1) 0).toInt.toNat ∧ w = 3
        · obtain ⟨rfl, rfl⟩ := h6
          rw [yU2_e]
          refine zw_eq.trans ?_
          show H.2.1 21 (H.2.1 13 7 - Int32.ofInt 1).toInt.toNat = _
          rw [en, e1]
        · rw [yU2_n h6]
          exact (y_ne (fun h5 => h6 ⟨h5.2, by have := h5.1; omega⟩)).trans ((y_ne (fun h5 => by have := h5.1; omega)).trans (h.2.2.1 s w hs1 hw1))
      · exact (y_ne (fun h5 => by have := h5.1; omega)).trans (y_ne (fun h5 => by have := h5.1; omega))
  · refine zw_s (pc' := 8) rfl rfl ?_
    refine zw_rz rfl rfl (Or.inl rfl) ?_
    exact ⟨_, _, rfl, Or.inl ⟨by omega, rfl, rfl⟩⟩

theorem yc_un0 {L : Nat} {σ : Nat → Int32} {d : Nat} {H : zp_H} {A : xK} (hB : zk_Bs (zB_c 0) zg zJc H) (hw : xKw A) (h : yHc 13 A H) (hk : (A.2.2.2.2 (A.2.1 - 1) 1).toInt = -1 → 0 < (A.2.2.1 (A.2.2.2.2 (A.2.1 - 1) 0).toInt.toNat 2).toInt) : ∃ X, zp_Call L σ (d + 2) 20 [.inr (.inr (some 1))] H X ∧ ∃ H1 u, X = (.inl (some (.inl u)), H1) ∧ ((A.2.1 = 0 ∧ u = Int32.ofInt (-1) ∧ H1 = H) ∨ (0 < A.2.1 ∧ u.toInt = (A.2.1 - 1 : Nat) ∧ yHc 13 (xKu A) H1 ∧ zw_W H1 ∧ H1.2.2 = H.2.2)) := by
  have W := zB_Wd (zB_dn (zB_Bc hB))
  have g5 : H.2.2.2 0 5 = some 3 := hB.2.1 0 5 _ rfl
  have g6 : H.2.2.2 0 6 = some 14 := hB.2.1 0 6 _ rfl
  have g7 : H.2.2.2 0 7 = some 23 := hB.2.1 0 7 _ rfl
  have g8 : H.2.2.2 0 8 = some 34 := hB.2.1 0 8 _ rfl
  obtain ⟨_, q1, H1, z, rfl, q2⟩ := yc_tb13 (L := L) (σ := σ) (d := d) W hw h hk
  refine zw_met zm_20_t rfl rfl ?_
  refine zw_ld (n := 1) (k := 0) (f := zp_isR) (pc' := 1) rfl rfl rfl rfl rfl ?_
  refine zw_gR (q := 0) (pc' := 4) W rfl rfl rfl rfl g6 rfl ?_
  rcases q2 with ⟨k1, rfl, rfl⟩ | ⟨k1, rfl, k2, W1, k3⟩
  · refine zw_c (pc' := 7) (zw_cv (q := 13) (Y := zm_21) W.1 rfl rfl zm_21_t rfl rfl) rfl rfl rfl rfl rfl (q1) ?_
    refine zw_beq1 (g := 20) (pc' := 10) rfl rfl rfl (rfl : _ = (0 : Int)) (fun h1 => ?_) (fun h9 => absurd h9 (by decide))
    refine zw_s (pc' := 21) rfl rfl ?_
    refine zw_ri rfl rfl ?_
    exact ⟨_, _, rfl, Or.inl ⟨k1, rfl, rfl⟩⟩
  · have g6b : H1.2.2.2 0 6 = some 14 := (congrArg (fun z => z.2 0 6) k3).trans g6
    refine zw_c (pc' := 7) (zw_cv (q := 13) (Y := zm_21) W.1 rfl rfl zm_21_t rfl rfl) rfl rfl rfl rfl rfl (q1) ?_
    refine zw_beq1 (g := 20) (pc' := 10) rfl rfl rfl (rfl : _ = (1 : Int)) (fun h9 => absurd h9 (by decide)) (fun h1 => ?_)
    refine zw_ld (n := 1) (k := 0) (f := zp_isR) (pc' := 11) rfl rfl rfl rfl rfl ?_
    refine zw_gR (q := 0) (pc' := 14) W1 rfl rfl rfl rfl g6b rfl ?_
    refine zw_gI (q := 13) (pc' := 17) W1 rfl rfl rfl rfl rfl rfl ?_
    refine zw_s (pc' := 21) rfl rfl ?_
    refine zw_ri rfl rfl ?_
    exact ⟨_, _, rfl, Or.inr ⟨k1, k2.2.1, k2, W1, k3⟩⟩

theorem yc_tb33 {L : Nat} {σ : Nat → Int32} {d : Nat} {H : zp_H} {A : xK} (W : zw_W H) (hw : xKw A) (h : yHc 33 A H) (hk : (A.2.2.2.2 (A.2.1 - 1) 1).toInt = -1 → 0 < (A.2.2.1 (A.2.2.2.2 (A.2.1 - 1) 0).toInt.toNat 2).toInt) : ∃ X, zp_Call L σ (d + 1) 21 [.inr (.inr (some 34))] H X ∧ ∃ H1 z, X = (.inl (some (.inl z)), H1) ∧ ((A.2.1 = 0 ∧ z = Int32.ofInt 0 ∧ H1 = H) ∨ (0 < A.2.1 ∧ z = Int32.ofInt 1 ∧ yHc 33 (xKu A) H1 ∧ zw_W H1 ∧ H1.2.2 = H.2.2)) := by
  obtain ⟨b1, b2, b3, b4⟩ := id hw
  have h7 := h.2.1
  refine zw_met zm_21_t rfl rfl ?_
  refine zw_ld (n := 1) (k := 0) (f := zp_isR) (pc' := 1) rfl rfl rfl rfl rfl ?_
  refine zw_gI (q := 33) (pc' := 4) W rfl rfl rfl rfl rfl rfl ?_
  refine zw_bgt1 (g := 9) (pc' := 7) rfl rfl rfl rfl (fun hb => ?_) (fun hb => ?_)
  · have ha : 0 < A.2.1 := by omega
    have ea : (H.2.1 33 7 - Int32.ofInt 1).toInt = (H.2.1 33 7).toInt - 1 := zw_m1 (by omega)
    have en : (H.2.1 33 7 - Int32.ofInt 1).toInt.toNat = A.2.1 - 1 := by omega
    have e0 : H.2.1 40 (A.2.1 - 1) = A.2.2.2.2 (A.2.1 - 1) 0 := h.2.2.2.2 (A.2.1 - 1) 0 (by omega) (by decide)
    have e1 : H.2.1 41 (A.2.1 - 1) = A.2.2.2.2 (A.2.1 - 1) 1 := h.2.2.2.2 (A.2.1 - 1) 1 (by omega) (by decide)
    have hs := b4 (A.2.1 - 1) (by omega)
    refine zw_ld (n := 1) (k := 0) (f := zp_isR) (pc' := 10) rfl rfl rfl rfl rfl ?_
    refine zw_s (pc' := 11) rfl rfl ?_
    refine zw_gI (q := 33) (pc' := 14) W rfl rfl rfl rfl rfl rfl ?_
    refine zw_s (pc' := 15) rfl rfl ?_
    refine zw_isub (pc' := 16) rfl rfl ?_
    refine zw_pI (q := 33) (pc' := 19) W rfl rfl rfl rfl rfl rfl ?_
    refine zw_ld (n := 1) (k := 0) (f := zp_isR) (pc' := 20) rfl rfl rfl rfl rfl ?_
    refine zw_gR (q := 33) (pc' := 23) (zw_W_I W) rfl rfl rfl rfl ((zw_W_I W).2 33 8 _ rfl) rfl ?_
    refine zw_ld (n := 1) (k := 0) (f := zp_isR) (pc' := 24) rfl rfl rfl rfl rfl ?_
    refine zw_gI (q := 33) (pc' := 27) (zw_W_I W) rfl rfl rfl rfl zw_eq rfl ?_
    refine zw_ia (q := 40) (pc' := 28) (zw_W_I W) rfl rfl (by decide) (⟨by omega, by show _ < ((30 : Nat) : Int); omega⟩) (zw_ne rfl rfl) rfl ?_
    rw [en, e0]
    refine zw_st (n := 1) (k := 1) (f := zp_isI) (pc' := 29) rfl rfl rfl rfl rfl ?_
    refine zw_ld (n := 1) (k := 0) (f := zp_isR) (pc' := 30) rfl rfl (zw_gt rfl rfl rfl) rfl rfl ?_
    refine zw_gR (q := 33) (pc' := 33) (zw_W_I W) rfl rfl rfl rfl ((zw_W_I W).2 33 9 _ rfl) rfl ?_
    refine zw_ld (n := 1) (k := 0) (f := zp_isR) (pc' := 34) rfl rfl (zw_gt rfl rfl rfl) rfl rfl ?_
    refine zw_gI (q := 33) (pc' := 37) (zw_W_I W) rfl rfl rfl rfl zw_eq rfl ?_
    refine zw_ia (q := 41) (pc' := 38) (zw_W_I W) rfl rfl (by decide) (⟨by omega, by show _ < ((30 : Nat) : Int); omega⟩) (zw_ne rfl rfl) rfl ?_
    refine zw_s (pc' := 39) rfl rfl ?_
    rw [en, e1]
    refine zw_beq2 (g := 60) (pc' := 42) rfl rfl rfl rfl (rfl : _ = (-1 : Int)) (fun h9 => ?_) (fun h9 => ?_)
    · have h8 := hk h9
      have em : H.2.1 36 (A.2.2.2.2 (A.2.1 - 1) 0).toInt.toNat = A.2.2.1 (A.2.2.2.2 (A.2.1 - 1) 0).toInt.toNat 2 := h.2.2.1 (A.2.2.2.2 (A.2.1 - 1) 0).toInt.toNat 2 (by omega) (by decide)
      have em9 : (H.2.1 36 (A.2.2.2.2 (A.2.1 - 1) 0).toInt.toNat).toInt = (A.2.2.1 (A.2.2.2.2 (A.2.1 - 1) 0).toInt.toNat 2).toInt := congrArg Int32.toInt em
      refine zw_ld (n := 1) (k := 0) (f := zp_isR) (pc' := 61) rfl rfl (zw_gt rfl rfl rfl) rfl rfl ?_
      refine zw_gR (q := 33) (pc' := 64) (zw_W_I W) rfl rfl rfl rfl ((zw_W_I W).2 33 3 _ rfl) rfl ?_
      refine zw_ld (n := 1) (k := 1) (f := zp_isI) (pc' := 65) rfl rfl zw_g1 rfl rfl ?_
      refine zw_ia (q := 36) (pc' := 66) (zw_W_I W) rfl rfl (by decide) (⟨hs.1, by show _ < ((8 : Nat) : Int); omega⟩) (zw_ne rfl rfl) rfl ?_
      refine zw_ble1 (g := 79) (pc' := 69) rfl rfl rfl rfl (fun h10 => ?_) (fun h10 => ?_)
      · omega
      · refine zw_ld (n := 1) (k := 0) (f := zp_isR) (pc' := 70) rfl rfl (zw_gt rfl rfl rfl) rfl rfl ?_
        refine zw_gR (q := 33) (pc' := 73) (zw_W_I W) rfl rfl rfl rfl ((zw_W_I W).2 33 3 _ rfl) rfl ?_
        refine zw_ld (n := 1) (k := 1) (f := zp_isI) (pc' := 74) rfl rfl zw_g1 rfl rfl ?_
        refine zw_s (pc' := 75) rfl rfl ?_
        refine zw_ia (q := 36) (pc' := 76) (zw_W_I W) rfl rfl (by decide) (⟨hs.1, by show _ < ((8 : Nat) : Int); omega⟩) (zw_ne rfl rfl) rfl ?_
        refine zw_s (pc' := 77) rfl rfl ?_
        refine zw_isub (pc' := 78) rfl rfl ?_
        refine zw_is (q := 36) (pc' := 79) (zw_W_I W) rfl rfl (by decide) (⟨hs.1, by show _ < ((8 : Nat) : Int); omega⟩) rfl ?_
        refine zw_s (pc' := 80) rfl rfl ?_
        refine zw_rz rfl rfl (Or.inr rfl) ?_
        refine ⟨_, _, rfl, Or.inr ⟨ha, rfl, yHc_u h hw ha ?_ ?_ (fun s w hs1 hw1 => ?_) (fun p k p1 p2 => ?_) hk, zw_W_I (zw_W_I W), rfl⟩⟩
        · refine (congrArg Int32.toInt ((y_ne (fun h9 => absurd h9.1 (by decide))).trans zw_eq)).trans ?_
          omega
        · exact (y_ne (fun h9 => absurd h9.1 (by decide))).trans (y_ne (fun h9 => absurd h9.2 (by decide)))
        · show _ = (if (A.2.2.2.2 (A.2.1 - 1) 1).toInt = -1 then yU2 A.2.2.1 (A.2.2.2.2 (A.2.1 - 1) 0).toInt.toNat 2 (A.2.2.1 (A.2.2.2.2 (A.2.1 - 1) 0).toInt.toNat 2 - Int32.ofInt 1) else yU2 A.2.2.1 (A.2.2.2.2 (A.2.1 - 1) 0).toInt.toNat 3 (A.2.2.2.2 (A.2.1 - 1) 1)) s w
          rw [if_pos h9]
          by_cases h6 : s = (A.2.2.2.2 (A.2.1 - 1) 0).toInt.toNat ∧ w = 2
          · obtain ⟨rfl, rfl⟩ := h6
            rw [yU2_e, ← em]
            exact zw_eq
          · rw [yU2_n h6]
            exact (y_ne (fun h5 => h6 ⟨h5.2, by have := h5.1; omega⟩)).trans ((y_ne (fun h5 => by have := h5.1; omega)).trans (h.2.2.1 s w hs1 hw1))
        · exact (y_ne (fun h5 => by have := h5.1; omega)).trans (y_ne (fun h5 => by have := h5.1; omega))
    · refine zw_ld (n := 1) (k := 0) (f := zp_isR) (pc' := 43) rfl rfl (zw_gt rfl rfl rfl) rfl rfl ?_
      refine zw_gR (q := 33) (pc' := 46) (zw_W_I W) rfl rfl rfl rfl ((zw_W_I W).2 33 4 _ rfl) rfl ?_
      refine zw_ld (n := 1) (k := 1) (f := zp_isI) (pc' := 47) rfl rfl zw_g1 rfl rfl ?_
      refine zw_ld (n := 1) (k := 0) (f := zp_isR) (pc' := 48) rfl rfl (zw_gt rfl rfl rfl) rfl rfl ?_
      refine zw_gR (q := 33) (pc' := 51) (zw_W_I W) rfl rfl rfl rfl ((zw_W_I W).2 33 9 _ rfl) rfl ?_
      refine zw_ld (n := 1) (k := 0) (f := zp_isR) (pc' := 52) rfl rfl (zw_gt rfl rfl rfl) rfl rfl ?_
      refine zw_gI (q := 33) (pc' := 55) (zw_W_I W) rfl rfl rfl rfl zw_eq rfl ?_
      refine zw_ia (q := 41) (pc' := 56) (zw_W_I W) rfl rfl (by decide) (⟨by omega, by show _ < ((30 : Nat) : Int); omega⟩) (zw_ne rfl rfl) rfl ?_
      refine zw_is (q := 37) (pc' := 57) (zw_W_I W) rfl rfl (by decide) (⟨hs.1, by show _ < ((8 : Nat) : Int); omega⟩) rfl ?_
      refine zw_s (pc' := 79) rfl rfl ?_
      refine zw_s (pc' := 80) rfl rfl ?_
      refine zw_rz rfl rfl (Or.inr rfl) ?_
      refine ⟨_, _, rfl, Or.inr ⟨ha, rfl, yHc_u h hw ha ?_ ?_ (fun s w hs1 hw1 => ?_) (fun p k p1 p2 => ?_) hk, zw_W_I (zw_W_I W), rfl⟩⟩
      · refine (congrArg Int32.toInt ((y_ne (fun h9 => absurd h9.1 (by decide))).trans zw_eq)).trans ?_
        omega
      · exact (y_ne (fun h9 => absurd h9.1 (by decide))).trans (y_ne (fun h9 => absurd h9.2 (by decide)))
      · show _ = (if (A.2.2.2.2 (A.2.1 - 1) 1).toInt = -1 then yU2 A.2.2.1 (A.2.2.2.2 (A.2.1 - 1) 0).toInt.toNat 2 (A.2.2.1 (A.2.2.2.2 (A.2.1 - 1) 0).toInt.toNat 2 - Int32.ofInt 1) else yU2 A.2.2.1 (A.2.2.2.2 (A.2.1 - 1) 0).toInt.toNat 3 (A.2.2.2.2 (A.2.1 - 1) 1)) s w
        rw [if_neg h9]
        by_cases h6 : s = (A.2.2.2.2 (A.2.1 - 1) 0).toInt.toNat ∧ w = 3
        · obtain ⟨rfl, rfl⟩ := h6
          rw [yU2_e]
          refine zw_eq.trans ?_
          show H.2.1 41 (H.2.1 33 7 - Int32.ofInt 1).toInt.toNat = _
          rw [en, e1]
        · rw [yU2_n h6]
          exact (y_ne (fun h5 => h6 ⟨h5.2, by have := h5.1; omega⟩)).trans ((y_ne (fun h5 => by have := h5.1; omega)).trans (h.2.2.1 s w hs1 hw1))
      · exact (y_ne (fun h5 => by have := h5.1; omega)).trans (y_ne (fun h5 => by have := h5.1; omega))
  · refine zw_s (pc' := 8) rfl rfl ?_
    refine zw_rz rfl rfl (Or.inl rfl) ?_
    exact ⟨_, _, rfl, Or.inl ⟨by omega, rfl, rfl⟩⟩

theorem yc_un3 {L : Nat} {σ : Nat → Int32} {d : Nat} {H : zp_H} {A : xK} (hB : zk_Bs (zB_c 3) zg zJc H) (hw : xKw A) (h : yHc 33 A H) (hk : (A.2.2.2.2 (A.2.1 - 1) 1).toInt = -1 → 0 < (A.2.2.1 (A.2.2.2.2 (A.2.1 - 1) 0).toInt.toNat 2).toInt) : ∃ X, zp_Call L σ (d + 2) 20 [.inr (.inr (some 1))] H X ∧ ∃ H1 u, X = (.inl (some (.inl u)), H1) ∧ ((A.2.1 = 0 ∧ u = Int32.ofInt (-1) ∧ H1 = H) ∨ (0 < A.2.1 ∧ u.toInt = (A.2.1 - 1 : Nat) ∧ yHc 33 (xKu A) H1 ∧ zw_W H1 ∧ H1.2.2 = H.2.2)) := by
  have W := zB_Wd (zB_dn (zB_Bc hB))
  have g5 : H.2.2.2 0 5 = some 23 := hB.2.1 0 5 _ rfl
  have g6 : H.2.2.2 0 6 = some 34 := hB.2.1 0 6 _ rfl
  have g7 : H.2.2.2 0 7 = some 3 := hB.2.1 0 7 _ rfl
  have g8 : H.2.2.2 0 8 = some 14 := hB.2.1 0 8 _ rfl
  obtain ⟨_, q1, H1, z, rfl, q2⟩ := yc_tb33 (L := L) (σ := σ) (d := d) W hw h hk
  refine zw_met zm_20_t rfl rfl ?_
  refine zw_ld (n := 1) (k := 0) (f := zp_isR) (pc' := 1) rfl rfl rfl rfl rfl ?_
  refine zw_gR (q := 0) (pc' := 4) W rfl rfl rfl rfl g6 rfl ?_
  rcases q2 with ⟨k1, rfl, rfl⟩ | ⟨k1, rfl, k2, W1, k3⟩
  · refine zw_c (pc' := 7) (zw_cv (q := 33) (Y := zm_21) W.1 rfl rfl zm_21_t rfl rfl) rfl rfl rfl rfl rfl (q1) ?_
    refine zw_beq1 (g := 20) (pc' := 10) rfl rfl rfl (rfl : _ = (0 : Int)) (fun h1 => ?_) (fun h9 => absurd h9 (by decide))
    refine zw_s (pc' := 21) rfl rfl ?_
    refine zw_ri rfl rfl ?_
    exact ⟨_, _, rfl, Or.inl ⟨k1, rfl, rfl⟩⟩
  · have g6b : H1.2.2.2 0 6 = some 34 := (congrArg (fun z => z.2 0 6) k3).trans g6
    refine zw_c (pc' := 7) (zw_cv (q := 33) (Y := zm_21) W.1 rfl rfl zm_21_t rfl rfl) rfl rfl rfl rfl rfl (q1) ?_
    refine zw_beq1 (g := 20) (pc' := 10) rfl rfl rfl (rfl : _ = (1 : Int)) (fun h9 => absurd h9 (by decide)) (fun h1 => ?_)
    refine zw_ld (n := 1) (k := 0) (f := zp_isR) (pc' := 11) rfl rfl rfl rfl rfl ?_
    refine zw_gR (q := 0) (pc' := 14) W1 rfl rfl rfl rfl g6b rfl ?_
    refine zw_gI (q := 33) (pc' := 17) W1 rfl rfl rfl rfl rfl rfl ?_
    refine zw_s (pc' := 21) rfl rfl ?_
    refine zw_ri rfl rfl ?_
    exact ⟨_, _, rfl, Or.inr ⟨k1, k2.2.1, k2, W1, k3⟩⟩

theorem yr_un {L : Nat} {σ : Nat → Int32} {d : Nat} {H : zp_H} {A : xK} (W : zw_W H) (hw : xKw A) (h : yHr 74 75 93 62 A H) (hk : (A.2.2.2.2 (A.2.1 - 1) 1).toInt = -1 → 0 < (A.2.2.1 (A.2.2.2.2 (A.2.1 - 1) 0).toInt.toNat 2).toInt) : ∃ X, zp_Call L σ (d + 2) 218 [.inr (.inr (some 73))] H X ∧ ∃ H1 u, X = (.inl (some (.inl u)), H1) ∧ ((A.2.1 = 0 ∧ u = Int32.ofInt (-1) ∧ H1 = zw_I H 72 0 (Int32.ofInt 0)) ∨ (0 < A.2.1 ∧ u.toInt = (A.2.1 - 1 : Nat) ∧ yHr 74 75 93 62 (xKu A) H1 ∧ (H1.2.1 72 0).toInt = 0)) := by
  obtain ⟨b1, b2, b3, b4⟩ := id hw
  have h7 := h.2.1
  have e7 : (zw_I H 72 0 (Int32.ofInt 0)).2.1 72 62 = H.2.1 72 62 := zw_ne rfl rfl
  refine zw_met zm_218_t rfl rfl ?_
  refine zw_ld (n := 1) (k := 0) (f := zp_isR) (pc' := 1) rfl rfl rfl rfl rfl ?_
  refine zw_s (pc' := 2) rfl rfl ?_
  refine zw_pI (q := 72) (pc' := 5) W rfl rfl rfl rfl rfl rfl ?_
  refine zw_ld (n := 1) (k := 0) (f := zp_isR) (pc' := 6) rfl rfl rfl rfl rfl ?_
  refine zw_gI (q := 72) (pc' := 9) (zw_W_I W) rfl rfl rfl rfl (zw_ne rfl rfl) rfl ?_
  refine zw_bne1 (g := 14) (pc' := 12) rfl rfl rfl rfl (fun hb => ?_) (fun hb => ?_)
  · have ha : 0 < A.2.1 := by omega
    have ea : (H.2.1 72 62 - Int32.ofInt 1).toInt = (H.2.1 72 62).toInt - 1 := zw_m1 (by omega)
    have i1 : (Int32.ofInt 2 * (H.2.1 72 62 - Int32.ofInt 1)).toInt = 2 * ((H.2.1 72 62).toInt - 1) := by rw [zt_mul (by decide) (by omega), ea]
    have i2 : (Int32.ofInt 2 * (H.2.1 72 62 - Int32.ofInt 1) + Int32.ofInt 1).toInt = 2 * ((H.2.1 72 62).toInt - 1) + 1 := by rw [zw_p1 (by omega), i1]
    have j1 : (Int32.ofInt 2 * (H.2.1 72 62 - Int32.ofInt 1)).toInt.toNat = 2 * (A.2.1 - 1) := by omega
    have j2 : (Int32.ofInt 2 * (H.2.1 72 62 - Int32.ofInt 1) + Int32.ofInt 1).toInt.toNat = 2 * (A.2.1 - 1) + 1 := by omega
    have e0 : H.2.1 93 (2 * (A.2.1 - 1)) = A.2.2.2.2 (A.2.1 - 1) 0 := h.2.2.2.2 (A.2.1 - 1) 0 (by omega) (by decide)
    have e1 : H.2.1 93 (2 * (A.2.1 - 1) + 1) = A.2.2.2.2 (A.2.1 - 1) 1 := h.2.2.2.2 (A.2.1 - 1) 1 (by omega) (by decide)
    have hs := b4 (A.2.1 - 1) (by omega)
    have m1 : (Int32.ofInt 4 * A.2.2.2.2 (A.2.1 - 1) 0).toInt = 4 * (A.2.2.2.2 (A.2.1 - 1) 0).toInt := zt_mul (by decide) (by omega)
    have m2 : (Int32.ofInt 4 * A.2.2.2.2 (A.2.1 - 1) 0 + Int32.ofInt 2).toInt = 4 * (A.2.2.2.2 (A.2.1 - 1) 0).toInt + 2 := by rw [zt_add (by decide) (by omega), m1]
    have m3 : (Int32.ofInt 4 * A.2.2.2.2 (A.2.1 - 1) 0 + Int32.ofInt 3).toInt = 4 * (A.2.2.2.2 (A.2.1 - 1) 0).toInt + 3 := by rw [zt_add (by decide) (by omega), m1]
    have n2 : (Int32.ofInt 4 * A.2.2.2.2 (A.2.1 - 1) 0 + Int32.ofInt 2).toInt.toNat = 4 * (A.2.2.2.2 (A.2.1 - 1) 0).toInt.toNat + 2 := by omega
    have n3 : (Int32.ofInt 4 * A.2.2.2.2 (A.2.1 - 1) 0 + Int32.ofInt 3).toInt.toNat = 4 * (A.2.2.2.2 (A.2.1 - 1) 0).toInt.toNat + 3 := by omega
    refine zw_ld (n := 1) (k := 0) (f := zp_isR) (pc' := 15) rfl rfl rfl rfl rfl ?_
    refine zw_s (pc' := 16) rfl rfl ?_
    refine zw_gI (q := 72) (pc' := 19) (zw_W_I W) rfl rfl rfl rfl (zw_ne rfl rfl) rfl ?_
    refine zw_s (pc' := 20) rfl rfl ?_
    refine zw_isub (pc' := 21) rfl rfl ?_
    refine zw_pI (q := 72) (pc' := 24) (zw_W_I W) rfl rfl rfl rfl rfl rfl ?_
    refine zw_ld (n := 1) (k := 0) (f := zp_isR) (pc' := 25) rfl rfl rfl rfl rfl ?_
    refine zw_gR (q := 72) (pc' := 28) (zw_W_I (zw_W_I W)) rfl rfl rfl rfl ((zw_W_I (zw_W_I W)).2 72 63 _ rfl) rfl ?_
    refine zw_s (pc' := 29) rfl rfl ?_
    refine zw_ld (n := 1) (k := 0) (f := zp_isR) (pc' := 30) rfl rfl rfl rfl rfl ?_
    refine zw_gI (q := 72) (pc' := 33) (zw_W_I (zw_W_I W)) rfl rfl rfl rfl zw_eq rfl ?_
    refine zw_imul (pc' := 34) rfl rfl ?_
    refine zw_ia (q := 93) (pc' := 35) (zw_W_I (zw_W_I W)) rfl rfl (by decide) (⟨by omega, by show _ < ((60 : Nat) : Int); omega⟩) (zw_ne (zw_ne rfl rfl) rfl) rfl ?_
    rw [j1, e0]
    refine zw_st (n := 1) (k := 1) (f := zp_isI) (pc' := 36) rfl rfl rfl rfl rfl ?_
    refine zw_ld (n := 1) (k := 0) (f := zp_isR) (pc' := 37) rfl rfl (zw_gt rfl rfl rfl) rfl rfl ?_
    refine zw_gR (q := 72) (pc' := 40) (zw_W_I (zw_W_I W)) rfl rfl rfl rfl ((zw_W_I (zw_W_I W)).2 72 63 _ rfl) rfl ?_
    refine zw_s (pc' := 41) rfl rfl ?_
    refine zw_ld (n := 1) (k := 0) (f := zp_isR) (pc' := 42) rfl rfl (zw_gt rfl rfl rfl) rfl rfl ?_
    refine zw_gI (q := 72) (pc' := 45) (zw_W_I (zw_W_I W)) rfl rfl rfl rfl zw_eq rfl ?_
    refine zw_imul (pc' := 46) rfl rfl ?_
    refine zw_s (pc' := 47) rfl rfl ?_
    refine zw_iadd (pc' := 48) rfl rfl ?_
    refine zw_ia (q := 93) (pc' := 49) (zw_W_I (zw_W_I W)) rfl rfl (by decide) (⟨by omega, by show _ < ((60 : Nat) : Int); omega⟩) (zw_ne (zw_ne rfl rfl) rfl) rfl ?_
    refine zw_s (pc' := 50) rfl rfl ?_
    rw [j2, e1]
    refine zw_bne2 (g := 70) (pc' := 53) rfl rfl rfl rfl (rfl : _ = (-1 : Int)) (fun h9 => ?_) (fun h9 => ?_)
    · refine zw_ld (n := 1) (k := 0) (f := zp_isR) (pc' := 71) rfl rfl (zw_gt rfl rfl rfl) rfl rfl ?_
      refine zw_gR (q := 72) (pc' := 74) (zw_W_I (zw_W_I W)) rfl rfl rfl rfl ((zw_W_I (zw_W_I W)).2 72 14 _ rfl) rfl ?_
      refine zw_s (pc' := 75) rfl rfl ?_
      refine zw_ld (n := 1) (k := 1) (f := zp_isI) (pc' := 76) rfl rfl zw_g1 rfl rfl ?_
      refine zw_imul (pc' := 77) rfl rfl ?_
      refine zw_s (pc' := 78) rfl rfl ?_
      refine zw_iadd (pc' := 79) rfl rfl ?_
      refine zw_ld (n := 1) (k := 0) (f := zp_isR) (pc' := 80) rfl rfl (zw_gt rfl rfl rfl) rfl rfl ?_
      refine zw_gR (q := 72) (pc' := 83) (zw_W_I (zw_W_I W)) rfl rfl rfl rfl ((zw_W_I (zw_W_I W)).2 72 63 _ rfl) rfl ?_
      refine zw_s (pc' := 84) rfl rfl ?_
      refine zw_ld (n := 1) (k := 0) (f := zp_isR) (pc' := 85) rfl rfl (zw_gt rfl rfl rfl) rfl rfl ?_
      refine zw_gI (q := 72) (pc' := 88) (zw_W_I (zw_W_I W)) rfl rfl rfl rfl zw_eq rfl ?_
      refine zw_imul (pc' := 89) rfl rfl ?_
      refine zw_s (pc' := 90) rfl rfl ?_
      refine zw_iadd (pc' := 91) rfl rfl ?_
      refine zw_ia (q := 93) (pc' := 92) (zw_W_I (zw_W_I W)) rfl rfl (by decide) (⟨by omega, by show _ < ((60 : Nat) : Int); omega⟩) (zw_ne (zw_ne rfl rfl) rfl) rfl ?_
      refine zw_is (q := 74) (pc' := 93) (zw_W_I (zw_W_I W)) rfl rfl (by decide) (⟨by omega, by show _ < ((32 : Nat) : Int); omega⟩) rfl ?_
      refine zw_ld (n := 1) (k := 0) (f := zp_isR) (pc' := 94) rfl rfl (zw_gt rfl rfl rfl) rfl rfl ?_
      refine zw_gI (q := 72) (pc' := 97) (zw_W_I (zw_W_I (zw_W_I W))) rfl rfl rfl rfl (zw_ne zw_eq rfl) rfl ?_
      rw [j2, e1, n3]
      refine zw_ri rfl rfl ?_
      refine ⟨_, _, rfl, Or.inr ⟨ha, ?_, yHr_u h hw ha ?_ ?_ (fun s w hs1 hw1 => ?_) (fun k => ?_) (fun k => ?_) hk, ?_⟩⟩
      · refine Eq.trans ?_ (show (H.2.1 72 62).toInt - 1 = ((A.2.1 - 1 : Nat) : Int) by omega)
        exact ea
      · refine (congrArg Int32.toInt ((y_ne (fun h9 => absurd h9.1 (by decide))).trans zw_eq)).trans ?_
        omega
      · exact (y_ne (fun h9 => absurd h9.1 (by decide))).trans ((y_ne (fun h9 => absurd h9.2 (by decide))).trans (y_ne (fun h9 => absurd h9.2 (by decide))))
      · show _ = (if (A.2.2.2.2 (A.2.1 - 1) 1).toInt = -1 then yU2 A.2.2.1 (A.2.2.2.2 (A.2.1 - 1) 0).toInt.toNat 2 (A.2.2.1 (A.2.2.2.2 (A.2.1 - 1) 0).toInt.toNat 2 - Int32.ofInt 1) else yU2 A.2.2.1 (A.2.2.2.2 (A.2.1 - 1) 0).toInt.toNat 3 (A.2.2.2.2 (A.2.1 - 1) 1)) s w
        rw [if_neg h9]
        by_cases h6 : s = (A.2.2.2.2 (A.2.1 - 1) 0).toInt.toNat ∧ w = 3
        · obtain ⟨rfl, rfl⟩ := h6
          rw [yU2_e]
          exact zw_eq
        · rw [yU2_n h6]
          exact (y_ne (fun h5 => h6 (by have := h5.2; omega))).trans ((y_ne (fun h5 => absurd h5.1 (by decide))).trans ((y_ne (fun h5 => absurd h5.1 (by decide))).trans (h.2.2.1 s w hs1 hw1)))
      · exact (y_ne (fun h5 => absurd h5.1 (by decide))).trans ((y_ne (fun h5 => absurd h5.1 (by decide))).trans (y_ne (fun h5 => absurd h5.1 (by decide))))
      · exact (y_ne (fun h5 => absurd h5.1 (by decide))).trans ((y_ne (fun h5 => absurd h5.1 (by decide))).trans (y_ne (fun h5 => absurd h5.1 (by decide))))
      · exact (congrArg Int32.toInt ((y_ne (fun h5 => absurd h5.1 (by decide))).trans ((y_ne (fun h5 => absurd h5.2 (by decide))).trans zw_eq)))
    · have em : H.2.1 74 (4 * (A.2.2.2.2 (A.2.1 - 1) 0).toInt.toNat + 2) = A.2.2.1 (A.2.2.2.2 (A.2.1 - 1) 0).toInt.toNat 2 := h.2.2.1 (A.2.2.2.2 (A.2.1 - 1) 0).toInt.toNat 2 (by omega) (by decide)
      refine zw_ld (n := 1) (k := 0) (f := zp_isR) (pc' := 54) rfl rfl (zw_gt rfl rfl rfl) rfl rfl ?_
      refine zw_gR (q := 72) (pc' := 57) (zw_W_I (zw_W_I W)) rfl rfl rfl rfl ((zw_W_I (zw_W_I W)).2 72 14 _ rfl) rfl ?_
      refine zw_s (pc' := 58) rfl rfl ?_
      refine zw_ld (n := 1) (k := 1) (f := zp_isI) (pc' := 59) rfl rfl zw_g1 rfl rfl ?_
      refine zw_imul (pc' := 60) rfl rfl ?_
      refine zw_s (pc' := 61) rfl rfl ?_
      refine zw_iadd (pc' := 62) rfl rfl ?_
      refine zw_s (pc' := 63) rfl rfl ?_
      refine zw_ia (q := 74) (pc' := 64) (zw_W_I (zw_W_I W)) rfl rfl (by decide) (⟨by omega, by show _ < ((32 : Nat) : Int); omega⟩) (zw_ne (zw_ne rfl rfl) rfl) rfl ?_
      refine zw_s (pc' := 65) rfl rfl ?_
      refine zw_isub (pc' := 66) rfl rfl ?_
      refine zw_is (q := 74) (pc' := 67) (zw_W_I (zw_W_I W)) rfl rfl (by decide) (⟨by omega, by show _ < ((32 : Nat) : Int); omega⟩) rfl ?_
      refine zw_s (pc' := 93) rfl rfl ?_
      refine zw_ld (n := 1) (k := 0) (f := zp_isR) (pc' := 94) rfl rfl (zw_gt rfl rfl rfl) rfl rfl ?_
      refine zw_gI (q := 72) (pc' := 97) (zw_W_I (zw_W_I (zw_W_I W))) rfl rfl rfl rfl (zw_ne zw_eq rfl) rfl ?_
      rw [n2]
      refine zw_ri rfl rfl ?_
      refine ⟨_, _, rfl, Or.inr ⟨ha, ?_, yHr_u h hw ha ?_ ?_ (fun s w hs1 hw1 => ?_) (fun k => ?_) (fun k => ?_) hk, ?_⟩⟩
      · refine Eq.trans ?_ (show (H.2.1 72 62).toInt - 1 = ((A.2.1 - 1 : Nat) : Int) by omega)
        exact ea
      · refine (congrArg Int32.toInt ((y_ne (fun h9 => absurd h9.1 (by decide))).trans zw_eq)).trans ?_
        omega
      · exact (y_ne (fun h9 => absurd h9.1 (by decide))).trans ((y_ne (fun h9 => absurd h9.2 (by decide))).trans (y_ne (fun h9 => absurd h9.2 (by decide))))
      · show _ = (if (A.2.2.2.2 (A.2.1 - 1) 1).toInt = -1 then yU2 A.2.2.1 (A.2.2.2.2 (A.2.1 - 1) 0).toInt.toNat 2 (A.2.2.1 (A.2.2.2.2 (A.2.1 - 1) 0).toInt.toNat 2 - Int32.ofInt 1) else yU2 A.2.2.1 (A.2.2.2.2 (A.2.1 - 1) 0).toInt.toNat 3 (A.2.2.2.2 (A.2.1 - 1) 1)) s w
        rw [if_pos h9]
        by_cases h6 : s = (A.2.2.2.2 (A.2.1 - 1) 0).toInt.toNat ∧ w = 2
        · obtain ⟨rfl, rfl⟩ := h6
          rw [yU2_e]
          rw [← em]
          exact zw_eq
        · rw [yU2_n h6]
          exact (y_ne (fun h5 => h6 (by have := h5.2; omega))).trans ((y_ne (fun h5 => absurd h5.1 (by decide))).trans ((y_ne (fun h5 => absurd h5.1 (by decide))).trans (h.2.2.1 s w hs1 hw1)))
      · exact (y_ne (fun h5 => absurd h5.1 (by decide))).trans ((y_ne (fun h5 => absurd h5.1 (by decide))).trans (y_ne (fun h5 => absurd h5.1 (by decide))))
      · exact (y_ne (fun h5 => absurd h5.1 (by decide))).trans ((y_ne (fun h5 => absurd h5.1 (by decide))).trans (y_ne (fun h5 => absurd h5.1 (by decide))))
      · exact (congrArg Int32.toInt ((y_ne (fun h5 => absurd h5.1 (by decide))).trans ((y_ne (fun h5 => absurd h5.2 (by decide))).trans zw_eq)))
  · refine zw_s (pc' := 13) rfl rfl ?_
    refine zw_ri rfl rfl ?_
    exact ⟨_, _, rfl, Or.inl ⟨by omega, rfl, rfl⟩⟩

theorem yc_tb013 {L : Nat} {σ : Nat → Int32} {d : Nat} {H : zp_H} {A : xK} (W : zw_W H) (h : yHc 13 A H) (ha : A.2.1 = 0) : zp_Call L σ (d + 1) 21 [.inr (.inr (some 14))] H (.inl (some (.inl (Int32.ofInt 0))), H) := by
  have h7 := h.2.1
  refine zw_ex (zw_met zm_21_t rfl rfl ?_)
  refine zw_ld (n := 1) (k := 0) (f := zp_isR) (pc' := 1) rfl rfl rfl rfl rfl ?_
  refine zw_gI (q := 13) (pc' := 4) W rfl rfl rfl rfl rfl rfl ?_
  refine zw_bgt1 (g := 9) (pc' := 7) rfl rfl rfl rfl (fun hb => ?_) (fun hb => ?_)
  · omega
  · refine zw_s (pc' := 8) rfl rfl ?_
    refine zw_rz rfl rfl (Or.inl rfl) ?_
    rfl

theorem yc_un00 {L : Nat} {σ : Nat → Int32} {d : Nat} {H : zp_H} {A : xK} (hB : zk_Bs (zB_c 0) zg zJc H) (h : yHc 13 A H) (ha : A.2.1 = 0) : zp_Call L σ (d + 2) 20 [.inr (.inr (some 1))] H (.inl (some (.inl (Int32.ofInt (-1)))), H) := by
  have W := zB_Wd (zB_dn (zB_Bc hB))
  have g5 : H.2.2.2 0 5 = some 3 := hB.2.1 0 5 _ rfl
  have g6 : H.2.2.2 0 6 = some 14 := hB.2.1 0 6 _ rfl
  have g7 : H.2.2.2 0 7 = some 23 := hB.2.1 0 7 _ rfl
  have g8 : H.2.2.2 0 8 = some 34 := hB.2.1 0 8 _ rfl
  refine zw_ex (zw_met zm_20_t rfl rfl ?_)
  refine zw_ld (n := 1) (k := 0) (f := zp_isR) (pc' := 1) rfl rfl rfl rfl rfl ?_
  refine zw_gR (q := 0) (pc' := 4) W rfl rfl rfl rfl g6 rfl ?_
  refine zw_c (pc' := 7) (zw_cv (q := 13) (Y := zm_21) W.1 rfl rfl zm_21_t rfl rfl) rfl rfl rfl rfl rfl (yc_tb013 W h ha) ?_
  refine zw_beq1 (g := 20) (pc' := 10) rfl rfl rfl (rfl : _ = (0 : Int)) (fun h1 => ?_) (fun h9 => absurd h9 (by decide))
  refine zw_s (pc' := 21) rfl rfl ?_
  refine zw_ri rfl rfl ?_
  rfl

theorem yc_tb033 {L : Nat} {σ : Nat → Int32} {d : Nat} {H : zp_H} {A : xK} (W : zw_W H) (h : yHc 33 A H) (ha : A.2.1 = 0) : zp_Call L σ (d + 1) 21 [.inr (.inr (some 34))] H (.inl (some (.inl (Int32.ofInt 0))), H) := by
  have h7 := h.2.1
  refine zw_ex (zw_met zm_21_t rfl rfl ?_)
  refine zw_ld (n := 1) (k := 0) (f := zp_isR) (pc' := 1) rfl rfl rfl rfl rfl ?_
  refine zw_gI (q := 33) (pc' := 4) W rfl rfl rfl rfl rfl rfl ?_
  refine zw_bgt1 (g := 9) (pc' := 7) rfl rfl rfl rfl (fun hb => ?_) (fun hb => ?_)
  · omega
  · refine zw_s (pc' := 8) rfl rfl ?_
    refine zw_rz rfl rfl (Or.inl rfl) ?_
    rfl

theorem yc_un03 {L : Nat} {σ : Nat → Int32} {d : Nat} {H : zp_H} {A : xK} (hB : zk_Bs (zB_c 3) zg zJc H) (h : yHc 33 A H) (ha : A.2.1 = 0) : zp_Call L σ (d + 2) 20 [.inr (.inr (some 1))] H (.inl (some (.inl (Int32.ofInt (-1)))), H) := by
  have W := zB_Wd (zB_dn (zB_Bc hB))
  have g5 : H.2.2.2 0 5 = some 23 := hB.2.1 0 5 _ rfl
  have g6 : H.2.2.2 0 6 = some 34 := hB.2.1 0 6 _ rfl
  have g7 : H.2.2.2 0 7 = some 3 := hB.2.1 0 7 _ rfl
  have g8 : H.2.2.2 0 8 = some 14 := hB.2.1 0 8 _ rfl
  refine zw_ex (zw_met zm_20_t rfl rfl ?_)
  refine zw_ld (n := 1) (k := 0) (f := zp_isR) (pc' := 1) rfl rfl rfl rfl rfl ?_
  refine zw_gR (q := 0) (pc' := 4) W rfl rfl rfl rfl g6 rfl ?_
  refine zw_c (pc' := 7) (zw_cv (q := 33) (Y := zm_21) W.1 rfl rfl zm_21_t rfl rfl) rfl rfl rfl rfl rfl (yc_tb033 W h ha) ?_
  refine zw_beq1 (g := 20) (pc' := 10) rfl rfl rfl (rfl : _ = (0 : Int)) (fun h1 => ?_) (fun h9 => absurd h9 (by decide))
  refine zw_s (pc' := 21) rfl rfl ?_
  refine zw_ri rfl rfl ?_
  rfl

theorem yr_un0 {L : Nat} {σ : Nat → Int32} {d : Nat} {H : zp_H} {A : xK} (W : zw_W H) (h : yHr 74 75 93 62 A H) (ha : A.2.1 = 0) : zp_Call L σ (d + 2) 218 [.inr (.inr (some 73))] H (.inl (some (.inl (Int32.ofInt (-1)))), zw_I H 72 0 (Int32.ofInt 0)) := by
  have h7 := h.2.1
  have e7 : (zw_I H 72 0 (Int32.ofInt 0)).2.1 72 62 = H.2.1 72 62 := zw_ne rfl rfl
  refine zw_ex (zw_met zm_218_t rfl rfl ?_)
  refine zw_ld (n := 1) (k := 0) (f := zp_isR) (pc' := 1) rfl rfl rfl rfl rfl ?_
  refine zw_s (pc' := 2) rfl rfl ?_
  refine zw_pI (q := 72) (pc' := 5) W rfl rfl rfl rfl rfl rfl ?_
  refine zw_ld (n := 1) (k := 0) (f := zp_isR) (pc' := 6) rfl rfl rfl rfl rfl ?_
  refine zw_gI (q := 72) (pc' := 9) (zw_W_I W) rfl rfl rfl rfl (zw_ne rfl rfl) rfl ?_
  refine zw_bne1 (g := 14) (pc' := 12) rfl rfl rfl rfl (fun hb => ?_) (fun hb => ?_)
  · omega
  · refine zw_s (pc' := 13) rfl rfl ?_
    refine zw_ri rfl rfl ?_
    rfl

theorem yc_cf42_13 {L : Nat} {σ : Nat → Int32} {d : Nat} {H : zp_H} {A : xK} (W : zw_W H) (hw : xKw A) (h : yHc 13 A H) : ∃ X, zp_Call L σ (d + 1) 46 [.inr (.inr (some 43)), .inr (.inr (some 14))] H X ∧ ∃ H1, X = (.inl none, H1) ∧ yHc 42 A H1 ∧ zw_W H1 ∧ H1.2.2 = H.2.2 ∧ ∀ p k, (p ≠ 42 ∧ ¬ (43 ≤ p ∧ p ≤ 50)) → H1.2.1 p k = H.2.1 p k := by
  refine zw_met zm_46_t rfl rfl ?_
  refine zw_ld (n := 1) (k := 0) (f := zp_isR) (pc' := 1) rfl rfl rfl rfl rfl ?_
  refine zw_ld (n := 1) (k := 1) (f := zp_isR) (pc' := 2) rfl rfl rfl rfl rfl ?_
  refine zw_gI (q := 13) (pc' := 5) W rfl rfl rfl rfl rfl rfl ?_
  refine zw_pI (q := 42) (pc' := 8) W rfl rfl rfl rfl rfl rfl ?_
  refine zw_ld (n := 1) (k := 0) (f := zp_isR) (pc' := 9) rfl rfl rfl rfl rfl ?_
  refine zw_ld (n := 1) (k := 1) (f := zp_isR) (pc' := 10) rfl rfl rfl rfl rfl ?_
  refine zw_gI (q := 13) (pc' := 13) (zw_W_I W) rfl rfl rfl rfl (zw_ne rfl rfl) rfl ?_
  refine zw_pI (q := 42) (pc' := 16) (zw_W_I W) rfl rfl rfl rfl rfl rfl ?_
  have a0 : ∀ p k, p ≠ 42 → (zw_I (zw_I H 42 0 (H.2.1 13 0)) 42 7 (H.2.1 13 7)).2.1 p k = H.2.1 p k := fun p k hp => (y_ne (fun h9 => hp h9.1)).trans (y_ne (fun h9 => hp h9.1))
  have z0 : (zw_I (zw_I H 42 0 (H.2.1 13 0)) 42 7 (H.2.1 13 7)).2.1 42 0 = H.2.1 13 0 := (y_ne (fun h9 => absurd h9.2 (by decide))).trans zw_eq
  have z7 : (zw_I (zw_I H 42 0 (H.2.1 13 0)) 42 7 (H.2.1 13 7)).2.1 42 7 = H.2.1 13 7 := zw_eq
  have r0 : (zw_I (zw_I H 42 0 (H.2.1 13 0)) 42 7 (H.2.1 13 7)).2.2 = H.2.2 := rfl
  have W0 : zw_W (zw_I (zw_I H 42 0 (H.2.1 13 0)) 42 7 (H.2.1 13 7)) := zw_W_I (zw_W_I W)
  show zs_Safe L σ _ zm_46 [] _ (16, _, _, zw_I (zw_I H 42 0 (H.2.1 13 0)) 42 7 (H.2.1 13 7), (0, 0))
  generalize zw_I (zw_I H 42 0 (H.2.1 13 0)) 42 7 (H.2.1 13 7) = K0 at a0 z0 z7 r0 W0 ⊢
  refine zw_ld (n := 1) (k := 1) (f := zp_isR) (pc' := 17) rfl rfl rfl rfl rfl ?_
  refine zw_gR (q := 13) (pc' := 20) W0 rfl rfl rfl rfl (W0.2 13 1 _ rfl) rfl ?_
  refine zw_s (pc' := 21) rfl rfl ?_
  refine zw_ld (n := 1) (k := 0) (f := zp_isR) (pc' := 22) rfl rfl rfl rfl rfl ?_
  refine zw_gR (q := 42) (pc' := 25) W0 rfl rfl rfl rfl (W0.2 42 1 _ rfl) rfl ?_
  refine zw_s (pc' := 26) rfl rfl ?_
  refine zw_s (pc' := 28) rfl rfl ?_
  refine zw_ac (q0 := 14) (q1 := 43) (pc' := 31) W0 rfl rfl rfl rfl ⟨by decide, by decide, by decide, by decide, by decide, by decide⟩ rfl ?_
  have a1 : ∀ p k, p ≠ 43 → (zw_K K0 43 (va_cpy (K0.2.1 14) (K0.2.1 43) 0 0 8)).2.1 p k = K0.2.1 p k := fun p k hp => zw_Kn hp
  have c1 : ∀ k, k < 8 → (zw_K K0 43 (va_cpy (K0.2.1 14) (K0.2.1 43) 0 0 8)).2.1 43 k = K0.2.1 14 k := fun k hk => zw_Ke.trans ((va_cpy_i ⟨Nat.zero_le _, by omega⟩).trans (congrArg (K0.2.1 14) (by omega)))
  have r1 : (zw_K K0 43 (va_cpy (K0.2.1 14) (K0.2.1 43) 0 0 8)).2.2 = K0.2.2 := rfl
  have W1 : zw_W (zw_K K0 43 (va_cpy (K0.2.1 14) (K0.2.1 43) 0 0 8)) := W0
  show zs_Safe L σ _ zm_46 [] _ (31, _, _, zw_K K0 43 (va_cpy (K0.2.1 14) (K0.2.1 43) 0 0 8), (0, 0))
  generalize zw_K K0 43 (va_cpy (K0.2.1 14) (K0.2.1 43) 0 0 8) = K1 at a1 c1 r1 W1 ⊢
  refine zw_ld (n := 1) (k := 1) (f := zp_isR) (pc' := 32) rfl rfl rfl rfl rfl ?_
  refine zw_gR (q := 13) (pc' := 35) W1 rfl rfl rfl rfl (W1.2 13 2 _ rfl) rfl ?_
  refine zw_s (pc' := 36) rfl rfl ?_
  refine zw_ld (n := 1) (k := 0) (f := zp_isR) (pc' := 37) rfl rfl rfl rfl rfl ?_
  refine zw_gR (q := 42) (pc' := 40) W1 rfl rfl rfl rfl (W1.2 42 2 _ rfl) rfl ?_
  refine zw_s (pc' := 41) rfl rfl ?_
  refine zw_s (pc' := 43) rfl rfl ?_
  refine zw_ac (q0 := 15) (q1 := 44) (pc' := 46) W1 rfl rfl rfl rfl ⟨by decide, by decide, by decide, by decide, by decide, by decide⟩ rfl ?_
  have a2 : ∀ p k, p ≠ 44 → (zw_K K1 44 (va_cpy (K1.2.1 15) (K1.2.1 44) 0 0 8)).2.1 p k = K1.2.1 p k := fun p k hp => zw_Kn hp
  have c2 : ∀ k, k < 8 → (zw_K K1 44 (va_cpy (K1.2.1 15) (K1.2.1 44) 0 0 8)).2.1 44 k = K1.2.1 15 k := fun k hk => zw_Ke.trans ((va_cpy_i ⟨Nat.zero_le _, by omega⟩).trans (congrArg (K1.2.1 15) (by omega)))
  have r2 : (zw_K K1 44 (va_cpy (K1.2.1 15) (K1.2.1 44) 0 0 8)).2.2 = K1.2.2 := rfl
  have W2 : zw_W (zw_K K1 44 (va_cpy (K1.2.1 15) (K1.2.1 44) 0 0 8)) := W1
  show zs_Safe L σ _ zm_46 [] _ (46, _, _, zw_K K1 44 (va_cpy (K1.2.1 15) (K1.2.1 44) 0 0 8), (0, 0))
  generalize zw_K K1 44 (va_cpy (K1.2.1 15) (K1.2.1 44) 0 0 8) = K2 at a2 c2 r2 W2 ⊢
  refine zw_ld (n := 1) (k := 1) (f := zp_isR) (pc' := 47) rfl rfl rfl rfl rfl ?_
  refine zw_gR (q := 13) (pc' := 50) W2 rfl rfl rfl rfl (W2.2 13 3 _ rfl) rfl ?_
  refine zw_s (pc' := 51) rfl rfl ?_
  refine zw_ld (n := 1) (k := 0) (f := zp_isR) (pc' := 52) rfl rfl rfl rfl rfl ?_
  refine zw_gR (q := 42) (pc' := 55) W2 rfl rfl rfl rfl (W2.2 42 3 _ rfl) rfl ?_
  refine zw_s (pc' := 56) rfl rfl ?_
  refine zw_s (pc' := 58) rfl rfl ?_
  refine zw_ac (q0 := 16) (q1 := 45) (pc' := 61) W2 rfl rfl rfl rfl ⟨by decide, by decide, by decide, by decide, by decide, by decide⟩ rfl ?_
  have a3 : ∀ p k, p ≠ 45 → (zw_K K2 45 (va_cpy (K2.2.1 16) (K2.2.1 45) 0 0 8)).2.1 p k = K2.2.1 p k := fun p k hp => zw_Kn hp
  have c3 : ∀ k, k < 8 → (zw_K K2 45 (va_cpy (K2.2.1 16) (K2.2.1 45) 0 0 8)).2.1 45 k = K2.2.1 16 k := fun k hk => zw_Ke.trans ((va_cpy_i ⟨Nat.zero_le _, by omega⟩).trans (congrArg (K2.2.1 16) (by omega)))
  have r3 : (zw_K K2 45 (va_cpy (K2.2.1 16) (K2.2.1 45) 0 0 8)).2.2 = K2.2.2 := rfl
  have W3 : zw_W (zw_K K2 45 (va_cpy (K2.2.1 16) (K2.2.1 45) 0 0 8)) := W2
  show zs_Safe L σ _ zm_46 [] _ (61, _, _, zw_K K2 45 (va_cpy (K2.2.1 16) (K2.2.1 45) 0 0 8), (0, 0))
  generalize zw_K K2 45 (va_cpy (K2.2.1 16) (K2.2.1 45) 0 0 8) = K3 at a3 c3 r3 W3 ⊢
  refine zw_ld (n := 1) (k := 1) (f := zp_isR) (pc' := 62) rfl rfl rfl rfl rfl ?_
  refine zw_gR (q := 13) (pc' := 65) W3 rfl rfl rfl rfl (W3.2 13 4 _ rfl) rfl ?_
  refine zw_s (pc' := 66) rfl rfl ?_
  refine zw_ld (n := 1) (k := 0) (f := zp_isR) (pc' := 67) rfl rfl rfl rfl rfl ?_
  refine zw_gR (q := 42) (pc' := 70) W3 rfl rfl rfl rfl (W3.2 42 4 _ rfl) rfl ?_
  refine zw_s (pc' := 71) rfl rfl ?_
  refine zw_s (pc' := 73) rfl rfl ?_
  refine zw_ac (q0 := 17) (q1 := 46) (pc' := 76) W3 rfl rfl rfl rfl ⟨by decide, by decide, by decide, by decide, by decide, by decide⟩ rfl ?_
  have a4 : ∀ p k, p ≠ 46 → (zw_K K3 46 (va_cpy (K3.2.1 17) (K3.2.1 46) 0 0 8)).2.1 p k = K3.2.1 p k := fun p k hp => zw_Kn hp
  have c4 : ∀ k, k < 8 → (zw_K K3 46 (va_cpy (K3.2.1 17) (K3.2.1 46) 0 0 8)).2.1 46 k = K3.2.1 17 k := fun k hk => zw_Ke.trans ((va_cpy_i ⟨Nat.zero_le _, by omega⟩).trans (congrArg (K3.2.1 17) (by omega)))
  have r4 : (zw_K K3 46 (va_cpy (K3.2.1 17) (K3.2.1 46) 0 0 8)).2.2 = K3.2.2 := rfl
  have W4 : zw_W (zw_K K3 46 (va_cpy (K3.2.1 17) (K3.2.1 46) 0 0 8)) := W3
  show zs_Safe L σ _ zm_46 [] _ (76, _, _, zw_K K3 46 (va_cpy (K3.2.1 17) (K3.2.1 46) 0 0 8), (0, 0))
  generalize zw_K K3 46 (va_cpy (K3.2.1 17) (K3.2.1 46) 0 0 8) = K4 at a4 c4 r4 W4 ⊢
  refine zw_ld (n := 1) (k := 1) (f := zp_isR) (pc' := 77) rfl rfl rfl rfl rfl ?_
  refine zw_gR (q := 13) (pc' := 80) W4 rfl rfl rfl rfl (W4.2 13 5 _ rfl) rfl ?_
  refine zw_s (pc' := 81) rfl rfl ?_
  refine zw_ld (n := 1) (k := 0) (f := zp_isR) (pc' := 82) rfl rfl rfl rfl rfl ?_
  refine zw_gR (q := 42) (pc' := 85) W4 rfl rfl rfl rfl (W4.2 42 5 _ rfl) rfl ?_
  refine zw_s (pc' := 86) rfl rfl ?_
  refine zw_s (pc' := 88) rfl rfl ?_
  refine zw_ac (q0 := 18) (q1 := 47) (pc' := 91) W4 rfl rfl rfl rfl ⟨by decide, by decide, by decide, by decide, by decide, by decide⟩ rfl ?_
  have a5 : ∀ p k, p ≠ 47 → (zw_K K4 47 (va_cpy (K4.2.1 18) (K4.2.1 47) 0 0 64)).2.1 p k = K4.2.1 p k := fun p k hp => zw_Kn hp
  have c5 : ∀ k, k < 64 → (zw_K K4 47 (va_cpy (K4.2.1 18) (K4.2.1 47) 0 0 64)).2.1 47 k = K4.2.1 18 k := fun k hk => zw_Ke.trans ((va_cpy_i ⟨Nat.zero_le _, by omega⟩).trans (congrArg (K4.2.1 18) (by omega)))
  have r5 : (zw_K K4 47 (va_cpy (K4.2.1 18) (K4.2.1 47) 0 0 64)).2.2 = K4.2.2 := rfl
  have W5 : zw_W (zw_K K4 47 (va_cpy (K4.2.1 18) (K4.2.1 47) 0 0 64)) := W4
  show zs_Safe L σ _ zm_46 [] _ (91, _, _, zw_K K4 47 (va_cpy (K4.2.1 18) (K4.2.1 47) 0 0 64), (0, 0))
  generalize zw_K K4 47 (va_cpy (K4.2.1 18) (K4.2.1 47) 0 0 64) = K5 at a5 c5 r5 W5 ⊢
  refine zw_ld (n := 1) (k := 1) (f := zp_isR) (pc' := 92) rfl rfl rfl rfl rfl ?_
  refine zw_gR (q := 13) (pc' := 95) W5 rfl rfl rfl rfl (W5.2 13 6 _ rfl) rfl ?_
  refine zw_s (pc' := 96) rfl rfl ?_
  refine zw_ld (n := 1) (k := 0) (f := zp_isR) (pc' := 97) rfl rfl rfl rfl rfl ?_
  refine zw_gR (q := 42) (pc' := 100) W5 rfl rfl rfl rfl (W5.2 42 6 _ rfl) rfl ?_
  refine zw_s (pc' := 101) rfl rfl ?_
  refine zw_s (pc' := 103) rfl rfl ?_
  refine zw_ac (q0 := 19) (q1 := 48) (pc' := 106) W5 rfl rfl rfl rfl ⟨by decide, by decide, by decide, by decide, by decide, by decide⟩ rfl ?_
  have a6 : ∀ p k, p ≠ 48 → (zw_K K5 48 (va_cpy (K5.2.1 19) (K5.2.1 48) 0 0 64)).2.1 p k = K5.2.1 p k := fun p k hp => zw_Kn hp
  have c6 : ∀ k, k < 64 → (zw_K K5 48 (va_cpy (K5.2.1 19) (K5.2.1 48) 0 0 64)).2.1 48 k = K5.2.1 19 k := fun k hk => zw_Ke.trans ((va_cpy_i ⟨Nat.zero_le _, by omega⟩).trans (congrArg (K5.2.1 19) (by omega)))
  have r6 : (zw_K K5 48 (va_cpy (K5.2.1 19) (K5.2.1 48) 0 0 64)).2.2 = K5.2.2 := rfl
  have W6 : zw_W (zw_K K5 48 (va_cpy (K5.2.1 19) (K5.2.1 48) 0 0 64)) := W5
  show zs_Safe L σ _ zm_46 [] _ (106, _, _, zw_K K5 48 (va_cpy (K5.2.1 19) (K5.2.1 48) 0 0 64), (0, 0))
  generalize zw_K K5 48 (va_cpy (K5.2.1 19) (K5.2.1 48) 0 0 64) = K6 at a6 c6 r6 W6 ⊢
  refine zw_ld (n := 1) (k := 1) (f := zp_isR) (pc' := 107) rfl rfl rfl rfl rfl ?_
  refine zw_gR (q := 13) (pc' := 110) W6 rfl rfl rfl rfl (W6.2 13 8 _ rfl) rfl ?_
  refine zw_s (pc' := 111) rfl rfl ?_
  refine zw_ld (n := 1) (k := 0) (f := zp_isR) (pc' := 112) rfl rfl rfl rfl rfl ?_
  refine zw_gR (q := 42) (pc' := 115) W6 rfl rfl rfl rfl (W6.2 42 8 _ rfl) rfl ?_
  refine zw_s (pc' := 116) rfl rfl ?_
  refine zw_s (pc' := 118) rfl rfl ?_
  refine zw_ac (q0 := 20) (q1 := 49) (pc' := 121) W6 rfl rfl rfl rfl ⟨by decide, by decide, by decide, by decide, by decide, by decide⟩ rfl ?_
  have a7 : ∀ p k, p ≠ 49 → (zw_K K6 49 (va_cpy (K6.2.1 20) (K6.2.1 49) 0 0 30)).2.1 p k = K6.2.1 p k := fun p k hp => zw_Kn hp
  have c7 : ∀ k, k < 30 → (zw_K K6 49 (va_cpy (K6.2.1 20) (K6.2.1 49) 0 0 30)).2.1 49 k = K6.2.1 20 k := fun k hk => zw_Ke.trans ((va_cpy_i ⟨Nat.zero_le _, by omega⟩).trans (congrArg (K6.2.1 20) (by omega)))
  have r7 : (zw_K K6 49 (va_cpy (K6.2.1 20) (K6.2.1 49) 0 0 30)).2.2 = K6.2.2 := rfl
  have W7 : zw_W (zw_K K6 49 (va_cpy (K6.2.1 20) (K6.2.1 49) 0 0 30)) := W6
  show zs_Safe L σ _ zm_46 [] _ (121, _, _, zw_K K6 49 (va_cpy (K6.2.1 20) (K6.2.1 49) 0 0 30), (0, 0))
  generalize zw_K K6 49 (va_cpy (K6.2.1 20) (K6.2.1 49) 0 0 30) = K7 at a7 c7 r7 W7 ⊢
  refine zw_ld (n := 1) (k := 1) (f := zp_isR) (pc' := 122) rfl rfl rfl rfl rfl ?_
  refine zw_gR (q := 13) (pc' := 125) W7 rfl rfl rfl rfl (W7.2 13 9 _ rfl) rfl ?_
  refine zw_s (pc' := 126) rfl rfl ?_
  refine zw_ld (n := 1) (k := 0) (f := zp_isR) (pc' := 127) rfl rfl rfl rfl rfl ?_
  refine zw_gR (q := 42) (pc' := 130) W7 rfl rfl rfl rfl (W7.2 42 9 _ rfl) rfl ?_
  refine zw_s (pc' := 131) rfl rfl ?_
  refine zw_s (pc' := 133) rfl rfl ?_
  refine zw_ac (q0 := 21) (q1 := 50) (pc' := 136) W7 rfl rfl rfl rfl ⟨by decide, by decide, by decide, by decide, by decide, by decide⟩ rfl ?_
  have a8 : ∀ p k, p ≠ 50 → (zw_K K7 50 (va_cpy (K7.2.1 21) (K7.2.1 50) 0 0 30)).2.1 p k = K7.2.1 p k := fun p k hp => zw_Kn hp
  have c8 : ∀ k, k < 30 → (zw_K K7 50 (va_cpy (K7.2.1 21) (K7.2.1 50) 0 0 30)).2.1 50 k = K7.2.1 21 k := fun k hk => zw_Ke.trans ((va_cpy_i ⟨Nat.zero_le _, by omega⟩).trans (congrArg (K7.2.1 21) (by omega)))
  have r8 : (zw_K K7 50 (va_cpy (K7.2.1 21) (K7.2.1 50) 0 0 30)).2.2 = K7.2.2 := rfl
  have W8 : zw_W (zw_K K7 50 (va_cpy (K7.2.1 21) (K7.2.1 50) 0 0 30)) := W7
  show zs_Safe L σ _ zm_46 [] _ (136, _, _, zw_K K7 50 (va_cpy (K7.2.1 21) (K7.2.1 50) 0 0 30), (0, 0))
  generalize zw_K K7 50 (va_cpy (K7.2.1 21) (K7.2.1 50) 0 0 30) = K8 at a8 c8 r8 W8 ⊢
  have b0 : ∀ p k, (p ≠ 42 ∧ ¬ (43 ≤ p ∧ p ≤ 50)) → K8.2.1 p k = H.2.1 p k := fun p k hp => (a8 p k (by omega)).trans ((a7 p k (by omega)).trans ((a6 p k (by omega)).trans ((a5 p k (by omega)).trans ((a4 p k (by omega)).trans ((a3 p k (by omega)).trans ((a2 p k (by omega)).trans ((a1 p k (by omega)).trans ((a0 p k (by omega))))))))))
  have f1 : ∀ k, k < 8 → K8.2.1 43 k = H.2.1 14 k := fun k hk => ((a8 43 k (by decide)).trans ((a7 43 k (by decide)).trans ((a6 43 k (by decide)).trans ((a5 43 k (by decide)).trans ((a4 43 k (by decide)).trans ((a3 43 k (by decide)).trans ((a2 43 k (by decide)).trans ((c1 k hk).trans (a0 14 k (by decide))))))))))
  have f2 : ∀ k, k < 8 → K8.2.1 44 k = H.2.1 15 k := fun k hk => ((a8 44 k (by decide)).trans ((a7 44 k (by decide)).trans ((a6 44 k (by decide)).trans ((a5 44 k (by decide)).trans ((a4 44 k (by decide)).trans ((a3 44 k (by decide)).trans ((c2 k hk).trans ((a1 15 k (by decide)).trans (a0 15 k (by decide))))))))))
  have f3 : ∀ k, k < 8 → K8.2.1 45 k = H.2.1 16 k := fun k hk => ((a8 45 k (by decide)).trans ((a7 45 k (by decide)).trans ((a6 45 k (by decide)).trans ((a5 45 k (by decide)).trans ((a4 45 k (by decide)).trans ((c3 k hk).trans ((a2 16 k (by decide)).trans ((a1 16 k (by decide)).trans (a0 16 k (by decide))))))))))
  have f4 : ∀ k, k < 8 → K8.2.1 46 k = H.2.1 17 k := fun k hk => ((a8 46 k (by decide)).trans ((a7 46 k (by decide)).trans ((a6 46 k (by decide)).trans ((a5 46 k (by decide)).trans ((c4 k hk).trans ((a3 17 k (by decide)).trans ((a2 17 k (by decide)).trans ((a1 17 k (by decide)).trans (a0 17 k (by decide))))))))))
  have f5 : ∀ k, k < 64 → K8.2.1 47 k = H.2.1 18 k := fun k hk => ((a8 47 k (by decide)).trans ((a7 47 k (by decide)).trans ((a6 47 k (by decide)).trans ((c5 k hk).trans ((a4 18 k (by decide)).trans ((a3 18 k (by decide)).trans ((a2 18 k (by decide)).trans ((a1 18 k (by decide)).trans (a0 18 k (by decide))))))))))
  have f6 : ∀ k, k < 64 → K8.2.1 48 k = H.2.1 19 k := fun k hk => ((a8 48 k (by decide)).trans ((a7 48 k (by decide)).trans ((c6 k hk).trans ((a5 19 k (by decide)).trans ((a4 19 k (by decide)).trans ((a3 19 k (by decide)).trans ((a2 19 k (by decide)).trans ((a1 19 k (by decide)).trans (a0 19 k (by decide))))))))))
  have f7 : ∀ k, k < 30 → K8.2.1 49 k = H.2.1 20 k := fun k hk => ((a8 49 k (by decide)).trans ((c7 k hk).trans ((a6 20 k (by decide)).trans ((a5 20 k (by decide)).trans ((a4 20 k (by decide)).trans ((a3 20 k (by decide)).trans ((a2 20 k (by decide)).trans ((a1 20 k (by decide)).trans (a0 20 k (by decide))))))))))
  have f8 : ∀ k, k < 30 → K8.2.1 50 k = H.2.1 21 k := fun k hk => ((c8 k hk).trans ((a7 21 k (by decide)).trans ((a6 21 k (by decide)).trans ((a5 21 k (by decide)).trans ((a4 21 k (by decide)).trans ((a3 21 k (by decide)).trans ((a2 21 k (by decide)).trans ((a1 21 k (by decide)).trans (a0 21 k (by decide))))))))))
  have g0 : K8.2.1 42 0 = H.2.1 13 0 := ((a8 42 0 (by decide)).trans ((a7 42 0 (by decide)).trans ((a6 42 0 (by decide)).trans ((a5 42 0 (by decide)).trans ((a4 42 0 (by decide)).trans ((a3 42 0 (by decide)).trans ((a2 42 0 (by decide)).trans ((a1 42 0 (by decide)).trans z0))))))))
  have g7 : K8.2.1 42 7 = H.2.1 13 7 := ((a8 42 7 (by decide)).trans ((a7 42 7 (by decide)).trans ((a6 42 7 (by decide)).trans ((a5 42 7 (by decide)).trans ((a4 42 7 (by decide)).trans ((a3 42 7 (by decide)).trans ((a2 42 7 (by decide)).trans ((a1 42 7 (by decide)).trans z7))))))))
  refine zw_rn rfl rfl ?_
  obtain ⟨b1, b2, b3, b4⟩ := hw
  obtain ⟨h1, h2, h3, h4, h5⟩ := h
  refine ⟨K8, rfl, ⟨by rw [g0]; exact h1, by rw [g7]; exact h2, fun s w hs hw' => ?_, fun s j w hs hj hw' => ?_, fun k w hk hw' => ?_⟩, W8, r8.trans (r7.trans (r6.trans (r5.trans (r4.trans (r3.trans (r2.trans (r1.trans (r0)))))))), b0⟩
  · refine Eq.trans ?_ (h3 s w hs hw')
    rcases (show w = 0 ∨ w = 1 ∨ w = 2 ∨ w = 3 by omega) with rfl | rfl | rfl | rfl
    · exact f1 s (by omega)
    · exact f2 s (by omega)
    · exact f3 s (by omega)
    · exact f4 s (by omega)
  · have hb := b3 s hs
    refine Eq.trans ?_ (h4 s j w hs hj hw')
    rcases (show w = 0 ∨ w = 1 by omega) with rfl | rfl
    · exact f5 _ (by omega)
    · exact f6 _ (by omega)
  · refine Eq.trans ?_ (h5 k w hk hw')
    rcases (show w = 0 ∨ w = 1 by omega) with rfl | rfl
    · exact f7 k (by omega)
    · exact f8 k (by omega)

theorem yc_cf42_33 {L : Nat} {σ : Nat → Int32} {d : Nat} {H : zp_H} {A : xK} (W : zw_W H) (hw : xKw A) (h : yHc 33 A H) : ∃ X, zp_Call L σ (d + 1) 46 [.inr (.inr (some 43)), .inr (.inr (some 34))] H X ∧ ∃ H1, X = (.inl none, H1) ∧ yHc 42 A H1 ∧ zw_W H1 ∧ H1.2.2 = H.2.2 ∧ ∀ p k, (p ≠ 42 ∧ ¬ (43 ≤ p ∧ p ≤ 50)) → H1.2.1 p k = H.2.1 p k := by
  refine zw_met zm_46_t rfl rfl ?_
  refine zw_ld (n := 1) (k := 0) (f := zp_isR) (pc' := 1) rfl rfl rfl rfl rfl ?_
  refine zw_ld (n := 1) (k := 1) (f := zp_isR) (pc' := 2) rfl rfl rfl rfl rfl ?_
  refine zw_gI (q := 33) (pc' := 5) W rfl rfl rfl rfl rfl rfl ?_
  refine zw_pI (q := 42) (pc' := 8) W rfl rfl rfl rfl rfl rfl ?_
  refine zw_ld (n := 1) (k := 0) (f := zp_isR) (pc' := 9) rfl rfl rfl rfl rfl ?_
  refine zw_ld (n := 1) (k := 1) (f := zp_isR) (pc' := 10) rfl rfl rfl rfl rfl ?_
  refine zw_gI (q := 33) (pc' := 13) (zw_W_I W) rfl rfl rfl rfl (zw_ne rfl rfl) rfl ?_
  refine zw_pI (q := 42) (pc' := 16) (zw_W_I W) rfl rfl rfl rfl rfl rfl ?_
  have a0 : ∀ p k, p ≠ 42 → (zw_I (zw_I H 42 0 (H.2.1 33 0)) 42 7 (H.2.1 33 7)).2.1 p k = H.2.1 p k := fun p k hp => (y_ne (fun h9 => hp h9.1)).trans (y_ne (fun h9 => hp h9.1))
  have z0 : (zw_I (zw_I H 42 0 (H.2.1 33 0)) 42 7 (H.2.1 33 7)).2.1 42 0 = H.2.1 33 0 := (y_ne (fun h9 => absurd h9.2 (by decide))).trans zw_eq
  have z7 : (zw_I (zw_I H 42 0 (H.2.1 33 0)) 42 7 (H.2.1 33 7)).2.1 42 7 = H.2.1 33 7 := zw_eq
  have r0 : (zw_I (zw_I H 42 0 (H.2.1 33 0)) 42 7 (H.2.1 33 7)).2.2 = H.2.2 := rfl
  have W0 : zw_W (zw_I (zw_I H 42 0 (H.2.1 33 0)) 42 7 (H.2.1 33 7)) := zw_W_I (zw_W_I W)
  show zs_Safe L σ _ zm_46 [] _ (16, _, _, zw_I (zw_I H 42 0 (H.2.1 33 0)) 42 7 (H.2.1 33 7), (0, 0))
  generalize zw_I (zw_I H 42 0 (H.2.1 33 0)) 42 7 (H.2.1 33 7) = K0 at a0 z0 z7 r0 W0 ⊢
  refine zw_ld (n := 1) (k := 1) (f := zp_isR) (pc' := 17) rfl rfl rfl rfl rfl ?_
  refine zw_gR (q := 33) (pc' := 20) W0 rfl rfl rfl rfl (W0.2 33 1 _ rfl) rfl ?_
  refine zw_s (pc' := 21) rfl rfl ?_
  refine zw_ld (n := 1) (k := 0) (f := zp_isR) (pc' := 22) rfl rfl rfl rfl rfl ?_
  refine zw_gR (q := 42) (pc' := 25) W0 rfl rfl rfl rfl (W0.2 42 1 _ rfl) rfl ?_
  refine zw_s (pc' := 26) rfl rfl ?_
  refine zw_s (pc' := 28) rfl rfl ?_
  refine zw_ac (q0 := 34) (q1 := 43) (pc' := 31) W0 rfl rfl rfl rfl ⟨by decide, by decide, by decide, by decide, by decide, by decide⟩ rfl ?_
  have a1 : ∀ p k, p ≠ 43 → (zw_K K0 43 (va_cpy (K0.2.1 34) (K0.2.1 43) 0 0 8)).2.1 p k = K0.2.1 p k := fun p k hp => zw_Kn hp
  have c1 : ∀ k, k < 8 → (zw_K K0 43 (va_cpy (K0.2.1 34) (K0.2.1 43) 0 0 8)).2.1 43 k = K0.2.1 34 k := fun k hk => zw_Ke.trans ((va_cpy_i ⟨Nat.zero_le _, by omega⟩).trans (congrArg (K0.2.1 34) (by omega)))
  have r1 : (zw_K K0 43 (va_cpy (K0.2.1 34) (K0.2.1 43) 0 0 8)).2.2 = K0.2.2 := rfl
  have W1 : zw_W (zw_K K0 43 (va_cpy (K0.2.1 34) (K0.2.1 43) 0 0 8)) := W0
  show zs_Safe L σ _ zm_46 [] _ (31, _, _, zw_K K0 43 (va_cpy (K0.2.1 34) (K0.2.1 43) 0 0 8), (0, 0))
  generalize zw_K K0 43 (va_cpy (K0.2.1 34) (K0.2.1 43) 0 0 8) = K1 at a1 c1 r1 W1 ⊢
  refine zw_ld (n := 1) (k := 1) (f := zp_isR) (pc' := 32) rfl rfl rfl rfl rfl ?_
  refine zw_gR (q := 33) (pc' := 35) W1 rfl rfl rfl rfl (W1.2 33 2 _ rfl) rfl ?_
  refine zw_s (pc' := 36) rfl rfl ?_
  refine zw_ld (n := 1) (k := 0) (f := zp_isR) (pc' := 37) rfl rfl rfl rfl rfl ?_
  refine zw_gR (q := 42) (pc' := 40) W1 rfl rfl rfl rfl (W1.2 42 2 _ rfl) rfl ?_
  refine zw_s (pc' := 41) rfl rfl ?_
  refine zw_s (pc' := 43) rfl rfl ?_
  refine zw_ac (q0 := 35) (q1 := 44) (pc' := 46) W1 rfl rfl rfl rfl ⟨by decide, by decide, by decide, by decide, by decide, by decide⟩ rfl ?_
  have a2 : ∀ p k, p ≠ 44 → (zw_K K1 44 (va_cpy (K1.2.1 35) (K1.2.1 44) 0 0 8)).2.1 p k = K1.2.1 p k := fun p k hp => zw_Kn hp
  have c2 : ∀ k, k < 8 → (zw_K K1 44 (va_cpy (K1.2.1 35) (K1.2.1 44) 0 0 8)).2.1 44 k = K1.2.1 35 k := fun k hk => zw_Ke.trans ((va_cpy_i ⟨Nat.zero_le _, by omega⟩).trans (congrArg (K1.2.1 35) (by omega)))
  have r2 : (zw_K K1 44 (va_cpy (K1.2.1 35) (K1.2.1 44) 0 0 8)).2.2 = K1.2.2 := rfl
  have W2 : zw_W (zw_K K1 44 (va_cpy (K1.2.1 35) (K1.2.1 44) 0 0 8)) := W1
  show zs_Safe L σ _ zm_46 [] _ (46, _, _, zw_K K1 44 (va_cpy (K1.2.1 35) (K1.2.1 44) 0 0 8), (0, 0))
  generalize zw_K K1 44 (va_cpy (K1.2.1 35) (K1.2.1 44) 0 0 8) = K2 at a2 c2 r2 W2 ⊢
  refine zw_ld (n := 1) (k := 1) (f := zp_isR) (pc' := 47) rfl rfl rfl rfl rfl ?_
  refine zw_gR (q := 33) (pc' := 50) W2 rfl rfl rfl rfl (W2.2 33 3 _ rfl) rfl ?_
  refine zw_s (pc' := 51) rfl rfl ?_
  refine zw_ld (n := 1) (k := 0) (f := zp_isR) (pc' := 52) rfl rfl rfl rfl rfl ?_
  refine zw_gR (q := 42) (pc' := 55) W2 rfl rfl rfl rfl (W2.2 42 3 _ rfl) rfl ?_
  refine zw_s (pc' := 56) rfl rfl ?_
  refine zw_s (pc' := 58) rfl rfl ?_
  refine zw_ac (q0 := 36) (q1 := 45) (pc' := 61) W2 rfl rfl rfl rfl ⟨by decide, by decide, by decide, by decide, by decide, by decide⟩ rfl ?_
  have a3 : ∀ p k, p ≠ 45 → (zw_K K2 45 (va_cpy (K2.2.1 36) (K2.2.1 45) 0 0 8)).2.1 p k = K2.2.1 p k := fun p k hp => zw_Kn hp
  have c3 : ∀ k, k < 8 → (zw_K K2 45 (va_cpy (K2.2.1 36) (K2.2.1 45) 0 0 8)).2.1 45 k = K2.2.1 36 k := fun k hk => zw_Ke.trans ((va_cpy_i ⟨Nat.zero_le _, by omega⟩).trans (congrArg (K2.2.1 36) (by omega)))
  have r3 : (zw_K K2 45 (va_cpy (K2.2.1 36) (K2.2.1 45) 0 0 8)).2.2 = K2.2.2 := rfl
  have W3 : zw_W (zw_K K2 45 (va_cpy (K2.2.1 36) (K2.2.1 45) 0 0 8)) := W2
  show zs_Safe L σ _ zm_46 [] _ (61, _, _, zw_K K2 45 (va_cpy (K2.2.1 36) (K2.2.1 45) 0 0 8), (0, 0))
  generalize zw_K K2 45 (va_cpy (K2.2.1 36) (K2.2.1 45) 0 0 8) = K3 at a3 c3 r3 W3 ⊢
  refine zw_ld (n := 1) (k := 1) (f := zp_isR) (pc' := 62) rfl rfl rfl rfl rfl ?_
  refine zw_gR (q := 33) (pc' := 65) W3 rfl rfl rfl rfl (W3.2 33 4 _ rfl) rfl ?_
  refine zw_s (pc' := 66) rfl rfl ?_
  refine zw_ld (n := 1) (k := 0) (f := zp_isR) (pc' := 67) rfl rfl rfl rfl rfl ?_
  refine zw_gR (q := 42) (pc' := 70) W3 rfl rfl rfl rfl (W3.2 42 4 _ rfl) rfl ?_
  refine zw_s (pc' := 71) rfl rfl ?_
  refine zw_s (pc' := 73) rfl rfl ?_
  refine zw_ac (q0 := 37) (q1 := 46) (pc' := 76) W3 rfl rfl rfl rfl ⟨by decide, by decide, by decide, by decide, by decide, by decide⟩ rfl ?_
  have a4 : ∀ p k, p ≠ 46 → (zw_K K3 46 (va_cpy (K3.2.1 37) (K3.2.1 46) 0 0 8)).2.1 p k = K3.2.1 p k := fun p k hp => zw_Kn hp
  have c4 : ∀ k, k < 8 → (zw_K K3 46 (va_cpy (K3.2.1 37) (K3.2.1 46) 0 0 8)).2.1 46 k = K3.2.1 37 k := fun k hk => zw_Ke.trans ((va_cpy_i ⟨Nat.zero_le _, by omega⟩).trans (congrArg (K3.2.1 37) (by omega)))
  have r4 : (zw_K K3 46 (va_cpy (K3.2.1 37) (K3.2.1 46) 0 0 8)).2.2 = K3.2.2 := rfl
  have W4 : zw_W (zw_K K3 46 (va_cpy (K3.2.1 37) (K3.2.1 46) 0 0 8)) := W3
  show zs_Safe L σ _ zm_46 [] _ (76, _, _, zw_K K3 46 (va_cpy (K3.2.1 37) (K3.2.1 46) 0 0 8), (0, 0))
  generalize zw_K K3 46 (va_cpy (K3.2.1 37) (K3.2.1 46) 0 0 8) = K4 at a4 c4 r4 W4 ⊢
  refine zw_ld (n := 1) (k := 1) (f := zp_isR) (pc' := 77) rfl rfl rfl rfl rfl ?_
  refine zw_gR (q := 33) (pc' := 80) W4 rfl rfl rfl rfl (W4.2 33 5 _ rfl) rfl ?_
  refine zw_s (pc' := 81) rfl rfl ?_
  refine zw_ld (n := 1) (k := 0) (f := zp_isR) (pc' := 82) rfl rfl rfl rfl rfl ?_
  refine zw_gR (q := 42) (pc' := 85) W4 rfl rfl rfl rfl (W4.2 42 5 _ rfl) rfl ?_
  refine zw_s (pc' := 86) rfl rfl ?_
  refine zw_s (pc' := 88) rfl rfl ?_
  refine zw_ac (q0 := 38) (q1 := 47) (pc' := 91) W4 rfl rfl rfl rfl ⟨by decide, by decide, by decide, by decide, by decide, by decide⟩ rfl ?_
  have a5 : ∀ p k, p ≠ 47 → (zw_K K4 47 (va_cpy (K4.2.1 38) (K4.2.1 47) 0 0 64)).2.1 p k = K4.2.1 p k := fun p k hp => zw_Kn hp
  have c5 : ∀ k, k < 64 → (zw_K K4 47 (va_cpy (K4.2.1 38) (K4.2.1 47) 0 0 64)).2.1 47 k = K4.2.1 38 k := fun k hk => zw_Ke.trans ((va_cpy_i ⟨Nat.zero_le _, by omega⟩).trans (congrArg (K4.2.1 38) (by omega)))
  have r5 : (zw_K K4 47 (va_cpy (K4.2.1 38) (K4.2.1 47) 0 0 64)).2.2 = K4.2.2 := rfl
  have W5 : zw_W (zw_K K4 47 (va_cpy (K4.2.1 38) (K4.2.1 47) 0 0 64)) := W4
  show zs_Safe L σ _ zm_46 [] _ (91, _, _, zw_K K4 47 (va_cpy (K4.2.1 38) (K4.2.1 47) 0 0 64), (0, 0))
  generalize zw_K K4 47 (va_cpy (K4.2.1 38) (K4.2.1 47) 0 0 64) = K5 at a5 c5 r5 W5 ⊢
  refine zw_ld (n := 1) (k := 1) (f := zp_isR) (pc' := 92) rfl rfl rfl rfl rfl ?_
  refine zw_gR (q := 33) (pc' := 95) W5 rfl rfl rfl rfl (W5.2 33 6 _ rfl) rfl ?_
  refine zw_s (pc' := 96) rfl rfl ?_
  refine zw_ld (n := 1) (k := 0) (f := zp_isR) (pc' := 97) rfl rfl rfl rfl rfl ?_
  refine zw_gR (q := 42) (pc' := 100) W5 rfl rfl rfl rfl (W5.2 42 6 _ rfl) rfl ?_
  refine zw_s (pc' := 101) rfl rfl ?_
  refine zw_s (pc' := 103) rfl rfl ?_
  refine zw_ac (q0 := 39) (q1 := 48) (pc' := 106) W5 rfl rfl rfl rfl ⟨by decide, by decide, by decide, by decide, by decide, by decide⟩ rfl ?_
  have a6 : ∀ p k, p ≠ 48 → (zw_K K5 48 (va_cpy (K5.2.1 39) (K5.2.1 48) 0 0 64)).2.1 p k = K5.2.1 p k := fun p k hp => zw_Kn hp
  have c6 : ∀ k, k < 64 → (zw_K K5 48 (va_cpy (K5.2.1 39) (K5.2.1 48) 0 0 64)).2.1 48 k = K5.2.1 39 k := fun k hk => zw_Ke.trans ((va_cpy_i ⟨Nat.zero_le _, by omega⟩).trans (congrArg (K5.2.1 39) (by omega)))
  have r6 : (zw_K K5 48 (va_cpy (K5.2.1 39) (K5.2.1 48) 0 0 64)).2.2 = K5.2.2 := rfl
  have W6 : zw_W (zw_K K5 48 (va_cpy (K5.2.1 39) (K5.2.1 48) 0 0 64)) := W5
  show zs_Safe L σ _ zm_46 [] _ (106, _, _, zw_K K5 48 (va_cpy (K5.2.1 39) (K5.2.1 48) 0 0 64), (0, 0))
  generalize zw_K K5 48 (va_cpy (K5.2.1 39) (K5.2.1 48) 0 0 64) = K6 at a6 c6 r6 W6 ⊢
  refine zw_ld (n := 1) (k := 1) (f := zp_isR) (pc' := 107) rfl rfl rfl rfl rfl ?_
  refine zw_gR (q := 33) (pc' := 110) W6 rfl rfl rfl rfl (W6.2 33 8 _ rfl) rfl ?_
  refine zw_s (pc' := 111) rfl rfl ?_
  refine zw_ld (n := 1) (k := 0) (f := zp_isR) (pc' := 112) rfl rfl rfl rfl rfl ?_
  refine zw_gR (q := 42) (pc' := 115) W6 rfl rfl rfl rfl (W6.2 42 8 _ rfl) rfl ?_
  refine zw_s (pc' := 116) rfl rfl ?_
  refine zw_s (pc' := 118) rfl rfl ?_
  refine zw_ac (q0 := 40) (q1 := 49) (pc' := 121) W6 rfl rfl rfl rfl ⟨by decide, by decide, by decide, by decide, by decide, by decide⟩ rfl ?_
  have a7 : ∀ p k, p ≠ 49 → (zw_K K6 49 (va_cpy (K6.2.1 40) (K6.2.1 49) 0 0 30)).2.1 p k = K6.2.1 p k := fun p k hp => zw_Kn hp
  have c7 : ∀ k, k < 30 → (zw_K K6 49 (va_cpy (K6.2.1 40) (K6.2.1 49) 0 0 30)).2.1 49 k = K6.2.1 40 k := fun k hk => zw_Ke.trans ((va_cpy_i ⟨Nat.zero_le _, by omega⟩).trans (congrArg (K6.2.1 40) (by omega)))
  have r7 : (zw_K K6 49 (va_cpy (K6.2.1 40) (K6.2.1 49) 0 0 30)).2.2 = K6.2.2 := rfl
  have W7 : zw_W (zw_K K6 49 (va_cpy (K6.2.1 40) (K6.2.1 49) 0 0 30)) := W6
  show zs_Safe L σ _ zm_46 [] _ (121, _, _, zw_K K6 49 (va_cpy (K6.2.1 40) (K6.2.1 49) 0 0 30), (0, 0))
  generalize zw_K K6 49 (va_cpy (K6.2.1 40) (K6.2.1 49) 0 0 30) = K7 at a7 c7 r7 W7 ⊢
  refine zw_ld (n := 1) (k := 1) (f := zp_isR) (pc' := 122) rfl rfl rfl rfl rfl ?_
  refine zw_gR (q := 33) (pc' := 125) W7 rfl rfl rfl rfl (W7.2 33 9 _ rfl) rfl ?_
  refine zw_s (pc' := 126) rfl rfl ?_
  refine zw_ld (n := 1) (k := 0) (f := zp_isR) (pc' := 127) rfl rfl rfl rfl rfl ?_
  refine zw_gR (q := 42) (pc' := 130) W7 rfl rfl rfl rfl (W7.2 42 9 _ rfl) rfl ?_
  refine zw_s (pc' := 131) rfl rfl ?_
  refine zw_s (pc' := 133) rfl rfl ?_
  refine zw_ac (q0 := 41) (q1 := 50) (pc' := 136) W7 rfl rfl rfl rfl ⟨by decide, by decide, by decide, by decide, by decide, by decide⟩ rfl ?_
  have a8 : ∀ p k, p ≠ 50 → (zw_K K7 50 (va_cpy (K7.2.1 41) (K7.2.1 50) 0 0 30)).2.1 p k = K7.2.1 p k := fun p k hp => zw_Kn hp
  have c8 : ∀ k, k < 30 → (zw_K K7 50 (va_cpy (K7.2.1 41) (K7.2.1 50) 0 0 30)).2.1 50 k = K7.2.1 41 k := fun k hk => zw_Ke.trans ((va_cpy_i ⟨Nat.zero_le _, by omega⟩).trans (congrArg (K7.2.1 41) (by omega)))
  have r8 : (zw_K K7 50 (va_cpy (K7.2.1 41) (K7.2.1 50) 0 0 30)).2.2 = K7.2.2 := rfl
  have W8 : zw_W (zw_K K7 50 (va_cpy (K7.2.1 41) (K7.2.1 50) 0 0 30)) := W7
  show zs_Safe L σ _ zm_46 [] _ (136, _, _, zw_K K7 50 (va_cpy (K7.2.1 41) (K7.2.1 50) 0 0 30), (0, 0))
  generalize zw_K K7 50 (va_cpy (K7.2.1 41) (K7.2.1 50) 0 0 30) = K8 at a8 c8 r8 W8 ⊢
  have b0 : ∀ p k, (p ≠ 42 ∧ ¬ (43 ≤ p ∧ p ≤ 50)) → K8.2.1 p k = H.2.1 p k := fun p k hp => (a8 p k (by omega)).trans ((a7 p k (by omega)).trans ((a6 p k (by omega)).trans ((a5 p k (by omega)).trans ((a4 p k (by omega)).trans ((a3 p k (by omega)).trans ((a2 p k (by omega)).trans ((a1 p k (by omega)).trans ((a0 p k (by omega))))))))))
  have f1 : ∀ k, k < 8 → K8.2.1 43 k = H.2.1 34 k := fun k hk => ((a8 43 k (by decide)).trans ((a7 43 k (by decide)).trans ((a6 43 k (by decide)).trans ((a5 43 k (by decide)).trans ((a4 43 k (by decide)).trans ((a3 43 k (by decide)).trans ((a2 43 k (by decide)).trans ((c1 k hk).trans (a0 34 k (by decide))))))))))
  have f2 : ∀ k, k < 8 → K8.2.1 44 k = H.2.1 35 k := fun k hk => ((a8 44 k (by decide)).trans ((a7 44 k (by decide)).trans ((a6 44 k (by decide)).trans ((a5 44 k (by decide)).trans ((a4 44 k (by decide)).trans ((a3 44 k (by decide)).trans ((c2 k hk).trans ((a1 35 k (by decide)).trans (a0 35 k (by decide))))))))))
  have f3 : ∀ k, k < 8 → K8.2.1 45 k = H.2.1 36 k := fun k hk => ((a8 45 k (by decide)).trans ((a7 45 k (by decide)).trans ((a6 45 k (by decide)).trans ((a5 45 k (by decide)).trans ((a4 45 k (by decide)).trans ((c3 k hk).trans ((a2 36 k (by decide)).trans ((a1 36 k (by decide)).trans (a0 36 k (by decide))))))))))
  have f4 : ∀ k, k < 8 → K8.2.1 46 k = H.2.1 37 k := fun k hk => ((a8 46 k (by decide)).trans ((a7 46 k (by decide)).trans ((a6 46 k (by decide)).trans ((a5 46 k (by decide)).trans ((c4 k hk).trans ((a3 37 k (by decide)).trans ((a2 37 k (by decide)).trans ((a1 37 k (by decide)).trans (a0 37 k (by decide))))))))))
  have f5 : ∀ k, k < 64 → K8.2.1 47 k = H.2.1 38 k := fun k hk => ((a8 47 k (by decide)).trans ((a7 47 k (by decide)).trans ((a6 47 k (by decide)).trans ((c5 k hk).trans ((a4 38 k (by decide)).trans ((a3 38 k (by decide)).trans ((a2 38 k (by decide)).trans ((a1 38 k (by decide)).trans (a0 38 k (by decide))))))))))
  have f6 : ∀ k, k < 64 → K8.2.1 48 k = H.2.1 39 k := fun k hk => ((a8 48 k (by decide)).trans ((a7 48 k (by decide)).trans ((c6 k hk).trans ((a5 39 k (by decide)).trans ((a4 39 k (by decide)).trans ((a3 39 k (by decide)).trans ((a2 39 k (by decide)).trans ((a1 39 k (by decide)).trans (a0 39 k (by decide))))))))))
  have f7 : ∀ k, k < 30 → K8.2.1 49 k = H.2.1 40 k := fun k hk => ((a8 49 k (by decide)).trans ((c7 k hk).trans ((a6 40 k (by decide)).trans ((a5 40 k (by decide)).trans ((a4 40 k (by decide)).trans ((a3 40 k (by decide)).trans ((a2 40 k (by decide)).trans ((a1 40 k (by decide)).trans (a0 40 k (by decide))))))))))
  have f8 : ∀ k, k < 30 → K8.2.1 50 k = H.2.1 41 k := fun k hk => ((c8 k hk).trans ((a7 41 k (by decide)).trans ((a6 41 k (by decide)).trans ((a5 41 k (by decide)).trans ((a4 41 k (by decide)).trans ((a3 41 k (by decide)).trans ((a2 41 k (by decide)).trans ((a1 41 k (by decide)).trans (a0 41 k (by decide))))))))))
  have g0 : K8.2.1 42 0 = H.2.1 33 0 := ((a8 42 0 (by decide)).trans ((a7 42 0 (by decide)).trans ((a6 42 0 (by decide)).trans ((a5 42 0 (by decide)).trans ((a4 42 0 (by decide)).trans ((a3 42 0 (by decide)).trans ((a2 42 0 (by decide)).trans ((a1 42 0 (by decide)).trans z0))))))))
  have g7 : K8.2.1 42 7 = H.2.1 33 7 := ((a8 42 7 (by decide)).trans ((a7 42 7 (by decide)).trans ((a6 42 7 (by decide)).trans ((a5 42 7 (by decide)).trans ((a4 42 7 (by decide)).trans ((a3 42 7 (by decide)).trans ((a2 42 7 (by decide)).trans ((a1 42 7 (by decide)).trans z7))))))))
  refine zw_rn rfl rfl ?_
  obtain ⟨b1, b2, b3, b4⟩ := hw
  obtain ⟨h1, h2, h3, h4, h5⟩ := h
  refine ⟨K8, rfl, ⟨by rw [g0]; exact h1, by rw [g7]; exact h2, fun s w hs hw' => ?_, fun s j w hs hj hw' => ?_, fun k w hk hw' => ?_⟩, W8, r8.trans (r7.trans (r6.trans (r5.trans (r4.trans (r3.trans (r2.trans (r1.trans (r0)))))))), b0⟩
  · refine Eq.trans ?_ (h3 s w hs hw')
    rcases (show w = 0 ∨ w = 1 ∨ w = 2 ∨ w = 3 by omega) with rfl | rfl | rfl | rfl
    · exact f1 s (by omega)
    · exact f2 s (by omega)
    · exact f3 s (by omega)
    · exact f4 s (by omega)
  · have hb := b3 s hs
    refine Eq.trans ?_ (h4 s j w hs hj hw')
    rcases (show w = 0 ∨ w = 1 by omega) with rfl | rfl
    · exact f5 _ (by omega)
    · exact f6 _ (by omega)
  · refine Eq.trans ?_ (h5 k w hk hw')
    rcases (show w = 0 ∨ w = 1 by omega) with rfl | rfl
    · exact f7 k (by omega)
    · exact f8 k (by omega)

theorem yc_cf13_42 {L : Nat} {σ : Nat → Int32} {d : Nat} {H : zp_H} {A : xK} (W : zw_W H) (hw : xKw A) (h : yHc 42 A H) : ∃ X, zp_Call L σ (d + 1) 46 [.inr (.inr (some 14)), .inr (.inr (some 43))] H X ∧ ∃ H1, X = (.inl none, H1) ∧ yHc 13 A H1 ∧ zw_W H1 ∧ H1.2.2 = H.2.2 ∧ ∀ p k, (p ≠ 13 ∧ ¬ (14 ≤ p ∧ p ≤ 21)) → H1.2.1 p k = H.2.1 p k := by
  refine zw_met zm_46_t rfl rfl ?_
  refine zw_ld (n := 1) (k := 0) (f := zp_isR) (pc' := 1) rfl rfl rfl rfl rfl ?_
  refine zw_ld (n := 1) (k := 1) (f := zp_isR) (pc' := 2) rfl rfl rfl rfl rfl ?_
  refine zw_gI (q := 42) (pc' := 5) W rfl rfl rfl rfl rfl rfl ?_
  refine zw_pI (q := 13) (pc' := 8) W rfl rfl rfl rfl rfl rfl ?_
  refine zw_ld (n := 1) (k := 0) (f := zp_isR) (pc' := 9) rfl rfl rfl rfl rfl ?_
  refine zw_ld (n := 1) (k := 1) (f := zp_isR) (pc' := 10) rfl rfl rfl rfl rfl ?_
  refine zw_gI (q := 42) (pc' := 13) (zw_W_I W) rfl rfl rfl rfl (zw_ne rfl rfl) rfl ?_
  refine zw_pI (q := 13) (pc' := 16) (zw_W_I W) rfl rfl rfl rfl rfl rfl ?_
  have a0 : ∀ p k, p ≠ 13 → (zw_I (zw_I H 13 0 (H.2.1 42 0)) 13 7 (H.2.1 42 7)).2.1 p k = H.2.1 p k := fun p k hp => (y_ne (fun h9 => hp h9.1)).trans (y_ne (fun h9 => hp h9.1))
  have z0 : (zw_I (zw_I H 13 0 (H.2.1 42 0)) 13 7 (H.2.1 42 7)).2.1 13 0 = H.2.1 42 0 := (y_ne (fun h9 => absurd h9.2 (by decide))).trans zw_eq
  have z7 : (zw_I (zw_I H 13 0 (H.2.1 42 0)) 13 7 (H.2.1 42 7)).2.1 13 7 = H.2.1 42 7 := zw_eq
  have r0 : (zw_I (zw_I H 13 0 (H.2.1 42 0)) 13 7 (H.2.1 42 7)).2.2 = H.2.2 := rfl
  have W0 : zw_W (zw_I (zw_I H 13 0 (H.2.1 42 0)) 13 7 (H.2.1 42 7)) := zw_W_I (zw_W_I W)
  show zs_Safe L σ _ zm_46 [] _ (16, _, _, zw_I (zw_I H 13 0 (H.2.1 42 0)) 13 7 (H.2.1 42 7), (0, 0))
  generalize zw_I (zw_I H 13 0 (H.2.1 42 0)) 13 7 (H.2.1 42 7) = K0 at a0 z0 z7 r0 W0 ⊢
  refine zw_ld (n := 1) (k := 1) (f := zp_isR) (pc' := 17) rfl rfl rfl rfl rfl ?_
  refine zw_gR (q := 42) (pc' := 20) W0 rfl rfl rfl rfl (W0.2 42 1 _ rfl) rfl ?_
  refine zw_s (pc' := 21) rfl rfl ?_
  refine zw_ld (n := 1) (k := 0) (f := zp_isR) (pc' := 22) rfl rfl rfl rfl rfl ?_
  refine zw_gR (q := 13) (pc' := 25) W0 rfl rfl rfl rfl (W0.2 13 1 _ rfl) rfl ?_
  refine zw_s (pc' := 26) rfl rfl ?_
  refine zw_s (pc' := 28) rfl rfl ?_
  refine zw_ac (q0 := 43) (q1 := 14) (pc' := 31) W0 rfl rfl rfl rfl ⟨by decide, by decide, by decide, by decide, by decide, by decide⟩ rfl ?_
  have a1 : ∀ p k, p ≠ 14 → (zw_K K0 14 (va_cpy (K0.2.1 43) (K0.2.1 14) 0 0 8)).2.1 p k = K0.2.1 p k := fun p k hp => zw_Kn hp
  have c1 : ∀ k, k < 8 → (zw_K K0 14 (va_cpy (K0.2.1 43) (K0.2.1 14) 0 0 8)).2.1 14 k = K0.2.1 43 k := fun k hk => zw_Ke.trans ((va_cpy_i ⟨Nat.zero_le _, by omega⟩).trans (congrArg (K0.2.1 43) (by omega)))
  have r1 : (zw_K K0 14 (va_cpy (K0.2.1 43) (K0.2.1 14) 0 0 8)).2.2 = K0.2.2 := rfl
  have W1 : zw_W (zw_K K0 14 (va_cpy (K0.2.1 43) (K0.2.1 14) 0 0 8)) := W0
  show zs_Safe L σ _ zm_46 [] _ (31, _, _, zw_K K0 14 (va_cpy (K0.2.1 43) (K0.2.1 14) 0 0 8), (0, 0))
  generalize zw_K K0 14 (va_cpy (K0.2.1 43) (K0.2.1 14) 0 0 8) = K1 at a1 c1 r1 W1 ⊢
  refine zw_ld (n := 1) (k := 1) (f := zp_isR) (pc' := 32) rfl rfl rfl rfl rfl ?_
  refine zw_gR (q := 42) (pc' := 35) W1 rfl rfl rfl rfl (W1.2 42 2 _ rfl) rfl ?_
  refine zw_s (pc' := 36) rfl rfl ?_
  refine zw_ld (n := 1) (k := 0) (f := zp_isR) (pc' := 37) rfl rfl rfl rfl rfl ?_
  refine zw_gR (q := 13) (pc' := 40) W1 rfl rfl rfl rfl (W1.2 13 2 _ rfl) rfl ?_
  refine zw_s (pc' := 41) rfl rfl ?_
  refine zw_s (pc' := 43) rfl rfl ?_
  refine zw_ac (q0 := 44) (q1 := 15) (pc' := 46) W1 rfl rfl rfl rfl ⟨by decide, by decide, by decide, by decide, by decide, by decide⟩ rfl ?_
  have a2 : ∀ p k, p ≠ 15 → (zw_K K1 15 (va_cpy (K1.2.1 44) (K1.2.1 15) 0 0 8)).2.1 p k = K1.2.1 p k := fun p k hp => zw_Kn hp
  have c2 : ∀ k, k < 8 → (zw_K K1 15 (va_cpy (K1.2.1 44) (K1.2.1 15) 0 0 8)).2.1 15 k = K1.2.1 44 k := fun k hk => zw_Ke.trans ((va_cpy_i ⟨Nat.zero_le _, by omega⟩).trans (congrArg (K1.2.1 44) (by omega)))
  have r2 : (zw_K K1 15 (va_cpy (K1.2.1 44) (K1.2.1 15) 0 0 8)).2.2 = K1.2.2 := rfl
  have W2 : zw_W (zw_K K1 15 (va_cpy (K1.2.1 44) (K1.2.1 15) 0 0 8)) := W1
  show zs_Safe L σ _ zm_46 [] _ (46, _, _, zw_K K1 15 (va_cpy (K1.2.1 44) (K1.2.1 15) 0 0 8), (0, 0))
  generalize zw_K K1 15 (va_cpy (K1.2.1 44) (K1.2.1 15) 0 0 8) = K2 at a2 c2 r2 W2 ⊢
  refine zw_ld (n := 1) (k := 1) (f := zp_isR) (pc' := 47) rfl rfl rfl rfl rfl ?_
  refine zw_gR (q := 42) (pc' := 50) W2 rfl rfl rfl rfl (W2.2 42 3 _ rfl) rfl ?_
  refine zw_s (pc' := 51) rfl rfl ?_
  refine zw_ld (n := 1) (k := 0) (f := zp_isR) (pc' := 52) rfl rfl rfl rfl rfl ?_
  refine zw_gR (q := 13) (pc' := 55) W2 rfl rfl rfl rfl (W2.2 13 3 _ rfl) rfl ?_
  refine zw_s (pc' := 56) rfl rfl ?_
  refine zw_s (pc' := 58) rfl rfl ?_
  refine zw_ac (q0 := 45) (q1 := 16) (pc' := 61) W2 rfl rfl rfl rfl ⟨by decide, by decide, by decide, by decide, by decide, by decide⟩ rfl ?_
  have a3 : ∀ p k, p ≠ 16 → (zw_K K2 16 (va_cpy (K2.2.1 45) (K2.2.1 16) 0 0 8)).2.1 p k = K2.2.1 p k := fun p k hp => zw_Kn hp
  have c3 : ∀ k, k < 8 → (zw_K K2 16 (va_cpy (K2.2.1 45) (K2.2.1 16) 0 0 8)).2.1 16 k = K2.2.1 45 k := fun k hk => zw_Ke.trans ((va_cpy_i ⟨Nat.zero_le _, by omega⟩).trans (congrArg (K2.2.1 45) (by omega)))
  have r3 : (zw_K K2 16 (va_cpy (K2.2.1 45) (K2.2.1 16) 0 0 8)).2.2 = K2.2.2 := rfl
  have W3 : zw_W (zw_K K2 16 (va_cpy (K2.2.1 45) (K2.2.1 16) 0 0 8)) := W2
  show zs_Safe L σ _ zm_46 [] _ (61, _, _, zw_K K2 16 (va_cpy (K2.2.1 45) (K2.2.1 16) 0 0 8), (0, 0))
  generalize zw_K K2 16 (va_cpy (K2.2.1 45) (K2.2.1 16) 0 0 8) = K3 at a3 c3 r3 W3 ⊢
  refine zw_ld (n := 1) (k := 1) (f := zp_isR) (pc' := 62) rfl rfl rfl rfl rfl ?_
  refine zw_gR (q := 42) (pc' := 65) W3 rfl rfl rfl rfl (W3.2 42 4 _ rfl) rfl ?_
  refine zw_s (pc' := 66) rfl rfl ?_
  refine zw_ld (n := 1) (k := 0) (f := zp_isR) (pc' := 67) rfl rfl rfl rfl rfl ?_
  refine zw_gR (q := 13) (pc' := 70) W3 rfl rfl rfl rfl (W3.2 13 4 _ rfl) rfl ?_
  refine zw_s (pc' := 71) rfl rfl ?_
  refine zw_s (pc' := 73) rfl rfl ?_
  refine zw_ac (q0 := 46) (q1 := 17) (pc' := 76) W3 rfl rfl rfl rfl ⟨by decide, by decide, by decide, by decide, by decide, by decide⟩ rfl ?_
  have a4 : ∀ p k, p ≠ 17 → (zw_K K3 17 (va_cpy (K3.2.1 46) (K3.2.1 17) 0 0 8)).2.1 p k = K3.2.1 p k := fun p k hp => zw_Kn hp
  have c4 : ∀ k, k < 8 → (zw_K K3 17 (va_cpy (K3.2.1 46) (K3.2.1 17) 0 0 8)).2.1 17 k = K3.2.1 46 k := fun k hk => zw_Ke.trans ((va_cpy_i ⟨Nat.zero_le _, by omega⟩).trans (congrArg (K3.2.1 46) (by omega)))
  have r4 : (zw_K K3 17 (va_cpy (K3.2.1 46) (K3.2.1 17) 0 0 8)).2.2 = K3.2.2 := rfl
  have W4 : zw_W (zw_K K3 17 (va_cpy (K3.2.1 46) (K3.2.1 17) 0 0 8)) := W3
  show zs_Safe L σ _ zm_46 [] _ (76, _, _, zw_K K3 17 (va_cpy (K3.2.1 46) (K3.2.1 17) 0 0 8), (0, 0))
  generalize zw_K K3 17 (va_cpy (K3.2.1 46) (K3.2.1 17) 0 0 8) = K4 at a4 c4 r4 W4 ⊢
  refine zw_ld (n := 1) (k := 1) (f := zp_isR) (pc' := 77) rfl rfl rfl rfl rfl ?_
  refine zw_gR (q := 42) (pc' := 80) W4 rfl rfl rfl rfl (W4.2 42 5 _ rfl) rfl ?_
  refine zw_s (pc' := 81) rfl rfl ?_
  refine zw_ld (n := 1) (k := 0) (f := zp_isR) (pc' := 82) rfl rfl rfl rfl rfl ?_
  refine zw_gR (q := 13) (pc' := 85) W4 rfl rfl rfl rfl (W4.2 13 5 _ rfl) rfl ?_
  refine zw_s (pc' := 86) rfl rfl ?_
  refine zw_s (pc' := 88) rfl rfl ?_
  refine zw_ac (q0 := 47) (q1 := 18) (pc' := 91) W4 rfl rfl rfl rfl ⟨by decide, by decide, by decide, by decide, by decide, by decide⟩ rfl ?_
  have a5 : ∀ p k, p ≠ 18 → (zw_K K4 18 (va_cpy (K4.2.1 47) (K4.2.1 18) 0 0 64)).2.1 p k = K4.2.1 p k := fun p k hp => zw_Kn hp
  have c5 : ∀ k, k < 64 → (zw_K K4 18 (va_cpy (K4.2.1 47) (K4.2.1 18) 0 0 64)).2.1 18 k = K4.2.1 47 k := fun k hk => zw_Ke.trans ((va_cpy_i ⟨Nat.zero_le _, by omega⟩).trans (congrArg (K4.2.1 47) (by omega)))
  have r5 : (zw_K K4 18 (va_cpy (K4.2.1 47) (K4.2.1 18) 0 0 64)).2.2 = K4.2.2 := rfl
  have W5 : zw_W (zw_K K4 18 (va_cpy (K4.2.1 47) (K4.2.1 18) 0 0 64)) := W4
  show zs_Safe L σ _ zm_46 [] _ (91, _, _, zw_K K4 18 (va_cpy (K4.2.1 47) (K4.2.1 18) 0 0 64), (0, 0))
  generalize zw_K K4 18 (va_cpy (K4.2.1 47) (K4.2.1 18) 0 0 64) = K5 at a5 c5 r5 W5 ⊢
  refine zw_ld (n := 1) (k := 1) (f := zp_isR) (pc' := 92) rfl rfl rfl rfl rfl ?_
  refine zw_gR (q := 42) (pc' := 95) W5 rfl rfl rfl rfl (W5.2 42 6 _ rfl) rfl ?_
  refine zw_s (pc' := 96) rfl rfl ?_
  refine zw_ld (n := 1) (k := 0) (f := zp_isR) (pc' := 97) rfl rfl rfl rfl rfl ?_
  refine zw_gR (q := 13) (pc' := 100) W5 rfl rfl rfl rfl (W5.2 13 6 _ rfl) rfl ?_
  refine zw_s (pc' := 101) rfl rfl ?_
  refine zw_s (pc' := 103) rfl rfl ?_
  refine zw_ac (q0 := 48) (q1 := 19) (pc' := 106) W5 rfl rfl rfl rfl ⟨by decide, by decide, by decide, by decide, by decide, by decide⟩ rfl ?_
  have a6 : ∀ p k, p ≠ 19 → (zw_K K5 19 (va_cpy (K5.2.1 48) (K5.2.1 19) 0 0 64)).2.1 p k = K5.2.1 p k := fun p k hp => zw_Kn hp
  have c6 : ∀ k, k < 64 → (zw_K K5 19 (va_cpy (K5.2.1 48) (K5.2.1 19) 0 0 64)).2.1 19 k = K5.2.1 48 k := fun k hk => zw_Ke.trans ((va_cpy_i ⟨Nat.zero_le _, by omega⟩).trans (congrArg (K5.2.1 48) (by omega)))
  have r6 : (zw_K K5 19 (va_cpy (K5.2.1 48) (K5.2.1 19) 0 0 64)).2.2 = K5.2.2 := rfl
  have W6 : zw_W (zw_K K5 19 (va_cpy (K5.2.1 48) (K5.2.1 19) 0 0 64)) := W5
  show zs_Safe L σ _ zm_46 [] _ (106, _, _, zw_K K5 19 (va_cpy (K5.2.1 48) (K5.2.1 19) 0 0 64), (0, 0))
  generalize zw_K K5 19 (va_cpy (K5.2.1 48) (K5.2.1 19) 0 0 64) = K6 at a6 c6 r6 W6 ⊢
  refine zw_ld (n := 1) (k := 1) (f := zp_isR) (pc' := 107) rfl rfl rfl rfl rfl ?_
  refine zw_gR (q := 42) (pc' := 110) W6 rfl rfl rfl rfl (W6.2 42 8 _ rfl) rfl ?_
  refine zw_s (pc' := 111) rfl rfl ?_
  refine zw_ld (n := 1) (k := 0) (f := zp_isR) (pc' := 112) rfl rfl rfl rfl rfl ?_
  refine zw_gR (q := 13) (pc' := 115) W6 rfl rfl rfl rfl (W6.2 13 8 _ rfl) rfl ?_
  refine zw_s (pc' := 116) rfl rfl ?_
  refine zw_s (pc' := 118) rfl rfl ?_
  refine zw_ac (q0 := 49) (q1 := 20) (pc' := 121) W6 rfl rfl rfl rfl ⟨by decide, by decide, by decide, by decide, by decide, by decide⟩ rfl ?_
  have a7 : ∀ p k, p ≠ 20 → (zw_K K6 20 (va_cpy (K6.2.1 49) (K6.2.1 20) 0 0 30)).2.1 p k = K6.2.1 p k := fun p k hp => zw_Kn hp
  have c7 : ∀ k, k < 30 → (zw_K K6 20 (va_cpy (K6.2.1 49) (K6.2.1 20) 0 0 30)).2.1 20 k = K6.2.1 49 k := fun k hk => zw_Ke.trans ((va_cpy_i ⟨Nat.zero_le _, by omega⟩).trans (congrArg (K6.2.1 49) (by omega)))
  have r7 : (zw_K K6 20 (va_cpy (K6.2.1 49) (K6.2.1 20) 0 0 30)).2.2 = K6.2.2 := rfl
  have W7 : zw_W (zw_K K6 20 (va_cpy (K6.2.1 49) (K6.2.1 20) 0 0 30)) := W6
  show zs_Safe L σ _ zm_46 [] _ (121, _, _, zw_K K6 20 (va_cpy (K6.2.1 49) (K6.2.1 20) 0 0 30), (0, 0))
  generalize zw_K K6 20 (va_cpy (K6.2.1 49) (K6.2.1 20) 0 0 30) = K7 at a7 c7 r7 W7 ⊢
  refine zw_ld (n := 1) (k := 1) (f := zp_isR) (pc' := 122) rfl rfl rfl rfl rfl ?_
  refine zw_gR (q := 42) (pc' := 125) W7 rfl rfl rfl rfl (W7.2 42 9 _ rfl) rfl ?_
  refine zw_s (pc' := 126) rfl rfl ?_
  refine zw_ld (n := 1) (k := 0) (f := zp_isR) (pc' := 127) rfl rfl rfl rfl rfl ?_
  refine zw_gR (q := 13) (pc' := 130) W7 rfl rfl rfl rfl (W7.2 13 9 _ rfl) rfl ?_
  refine zw_s (pc' := 131) rfl rfl ?_
  refine zw_s (pc' := 133) rfl rfl ?_
  refine zw_ac (q0 := 50) (q1 := 21) (pc' := 136) W7 rfl rfl rfl rfl ⟨by decide, by decide, by decide, by decide, by decide, by decide⟩ rfl ?_
  have a8 : ∀ p k, p ≠ 21 → (zw_K K7 21 (va_cpy (K7.2.1 50) (K7.2.1 21) 0 0 30)).2.1 p k = K7.2.1 p k := fun p k hp => zw_Kn hp
  have c8 : ∀ k, k < 30 → (zw_K K7 21 (va_cpy (K7.2.1 50) (K7.2.1 21) 0 0 30)).2.1 21 k = K7.2.1 50 k := fun k hk => zw_Ke.trans ((va_cpy_i ⟨Nat.zero_le _, by omega⟩).trans (congrArg (K7.2.1 50) (by omega)))
  have r8 : (zw_K K7 21 (va_cpy (K7.2.1 50) (K7.2.1 21) 0 0 30)).2.2 = K7.2.2 := rfl
  have W8 : zw_W (zw_K K7 21 (va_cpy (K7.2.1 50) (K7.2.1 21) 0 0 30)) := W7
  show zs_Safe L σ _ zm_46 [] _ (136, _, _, zw_K K7 21 (va_cpy (K7.2.1 50) (K7.2.1 21) 0 0 30), (0, 0))
  generalize zw_K K7 21 (va_cpy (K7.2.1 50) (K7.2.1 21) 0 0 30) = K8 at a8 c8 r8 W8 ⊢
  have b0 : ∀ p k, (p ≠ 13 ∧ ¬ (14 ≤ p ∧ p ≤ 21)) → K8.2.1 p k = H.2.1 p k := fun p k hp => (a8 p k (by omega)).trans ((a7 p k (by omega)).trans ((a6 p k (by omega)).trans ((a5 p k (by omega)).trans ((a4 p k (by omega)).trans ((a3 p k (by omega)).trans ((a2 p k (by omega)).trans ((a1 p k (by omega)).trans ((a0 p k (by omega))))))))))
  have f1 : ∀ k, k < 8 → K8.2.1 14 k = H.2.1 43 k := fun k hk => ((a8 14 k (by decide)).trans ((a7 14 k (by decide)).trans ((a6 14 k (by decide)).trans ((a5 14 k (by decide)).trans ((a4 14 k (by decide)).trans ((a3 14 k (by decide)).trans ((a2 14 k (by decide)).trans ((c1 k hk).trans (a0 43 k (by decide))))))))))
  have f2 : ∀ k, k < 8 → K8.2.1 15 k = H.2.1 44 k := fun k hk => ((a8 15 k (by decide)).trans ((a7 15 k (by decide)).trans ((a6 15 k (by decide)).trans ((a5 15 k (by decide)).trans ((a4 15 k (by decide)).trans ((a3 15 k (by decide)).trans ((c2 k hk).trans ((a1 44 k (by decide)).trans (a0 44 k (by decide))))))))))
  have f3 : ∀ k, k < 8 → K8.2.1 16 k = H.2.1 45 k := fun k hk => ((a8 16 k (by decide)).trans ((a7 16 k (by decide)).trans ((a6 16 k (by decide)).trans ((a5 16 k (by decide)).trans ((a4 16 k (by decide)).trans ((c3 k hk).trans ((a2 45 k (by decide)).trans ((a1 45 k (by decide)).trans (a0 45 k (by decide))))))))))
  have f4 : ∀ k, k < 8 → K8.2.1 17 k = H.2.1 46 k := fun k hk => ((a8 17 k (by decide)).trans ((a7 17 k (by decide)).trans ((a6 17 k (by decide)).trans ((a5 17 k (by decide)).trans ((c4 k hk).trans ((a3 46 k (by decide)).trans ((a2 46 k (by decide)).trans ((a1 46 k (by decide)).trans (a0 46 k (by decide))))))))))
  have f5 : ∀ k, k < 64 → K8.2.1 18 k = H.2.1 47 k := fun k hk => ((a8 18 k (by decide)).trans ((a7 18 k (by decide)).trans ((a6 18 k (by decide)).trans ((c5 k hk).trans ((a4 47 k (by decide)).trans ((a3 47 k (by decide)).trans ((a2 47 k (by decide)).trans ((a1 47 k (by decide)).trans (a0 47 k (by decide))))))))))
  have f6 : ∀ k, k < 64 → K8.2.1 19 k = H.2.1 48 k := fun k hk => ((a8 19 k (by decide)).trans ((a7 19 k (by decide)).trans ((c6 k hk).trans ((a5 48 k (by decide)).trans ((a4 48 k (by decide)).trans ((a3 48 k (by decide)).trans ((a2 48 k (by decide)).trans ((a1 48 k (by decide)).trans (a0 48 k (by decide))))))))))
  have f7 : ∀ k, k < 30 → K8.2.1 20 k = H.2.1 49 k := fun k hk => ((a8 20 k (by decide)).trans ((c7 k hk).trans ((a6 49 k (by decide)).trans ((a5 49 k (by decide)).trans ((a4 49 k (by decide)).trans ((a3 49 k (by decide)).trans ((a2 49 k (by decide)).trans ((a1 49 k (by decide)).trans (a0 49 k (by decide))))))))))
  have f8 : ∀ k, k < 30 → K8.2.1 21 k = H.2.1 50 k := fun k hk => ((c8 k hk).trans ((a7 50 k (by decide)).trans ((a6 50 k (by decide)).trans ((a5 50 k (by decide)).trans ((a4 50 k (by decide)).trans ((a3 50 k (by decide)).trans ((a2 50 k (by decide)).trans ((a1 50 k (by decide)).trans (a0 50 k (by decide))))))))))
  have g0 : K8.2.1 13 0 = H.2.1 42 0 := ((a8 13 0 (by decide)).trans ((a7 13 0 (by decide)).trans ((a6 13 0 (by decide)).trans ((a5 13 0 (by decide)).trans ((a4 13 0 (by decide)).trans ((a3 13 0 (by decide)).trans ((a2 13 0 (by decide)).trans ((a1 13 0 (by decide)).trans z0))))))))
  have g7 : K8.2.1 13 7 = H.2.1 42 7 := ((a8 13 7 (by decide)).trans ((a7 13 7 (by decide)).trans ((a6 13 7 (by decide)).trans ((a5 13 7 (by decide)).trans ((a4 13 7 (by decide)).trans ((a3 13 7 (by decide)).trans ((a2 13 7 (by decide)).trans ((a1 13 7 (by decide)).trans z7))))))))
  refine zw_rn rfl rfl ?_
  obtain ⟨b1, b2, b3, b4⟩ := hw
  obtain ⟨h1, h2, h3, h4, h5⟩ := h
  refine ⟨K8, rfl, ⟨by rw [g0]; exact h1, by rw [g7]; exact h2, fun s w hs hw' => ?_, fun s j w hs hj hw' => ?_, fun k w hk hw' => ?_⟩, W8, r8.trans (r7.trans (r6.trans (r5.trans (r4.trans (r3.trans (r2.trans (r1.trans (r0)))))))), b0⟩
  · refine Eq.trans ?_ (h3 s w hs hw')
    rcases (show w = 0 ∨ w = 1 ∨ w = 2 ∨ w = 3 by omega) with rfl | rfl | rfl | rfl
    · exact f1 s (by omega)
    · exact f2 s (by omega)
    · exact f3 s (by omega)
    · exact f4 s (by omega)
  · have hb := b3 s hs
    refine Eq.trans ?_ (h4 s j w hs hj hw')
    rcases (show w = 0 ∨ w = 1 by omega) with rfl | rfl
    · exact f5 _ (by omega)
    · exact f6 _ (by omega)
  · refine Eq.trans ?_ (h5 k w hk hw')
    rcases (show w = 0 ∨ w = 1 by omega) with rfl | rfl
    · exact f7 k (by omega)
    · exact f8 k (by omega)

theorem yc_cf33_42 {L : Nat} {σ : Nat → Int32} {d : Nat} {H : zp_H} {A : xK} (W : zw_W H) (hw : xKw A) (h : yHc 42 A H) : ∃ X, zp_Call L σ (d + 1) 46 [.inr (.inr (some 34)), .inr (.inr (some 43))] H X ∧ ∃ H1, X = (.inl none, H1) ∧ yHc 33 A H1 ∧ zw_W H1 ∧ H1.2.2 = H.2.2 ∧ ∀ p k, (p ≠ 33 ∧ ¬ (34 ≤ p ∧ p ≤ 41)) → H1.2.1 p k = H.2.1 p k := by
  refine zw_met zm_46_t rfl rfl ?_
  refine zw_ld (n := 1) (k := 0) (f := zp_isR) (pc' := 1) rfl rfl rfl rfl rfl ?_
  refine zw_ld (n := 1) (k := 1) (f := zp_isR) (pc' := 2) rfl rfl rfl rfl rfl ?_
  refine zw_gI (q := 42) (pc' := 5) W rfl rfl rfl rfl rfl rfl ?_
  refine zw_pI (q := 33) (pc' := 8) W rfl rfl rfl rfl rfl rfl ?_
  refine zw_ld (n := 1) (k := 0) (f := zp_isR) (pc' := 9) rfl rfl rfl rfl rfl ?_
  refine zw_ld (n := 1) (k := 1) (f := zp_isR) (pc' := 10) rfl rfl rfl rfl rfl ?_
  refine zw_gI (q := 42) (pc' := 13) (zw_W_I W) rfl rfl rfl rfl (zw_ne rfl rfl) rfl ?_
  refine zw_pI (q := 33) (pc' := 16) (zw_W_I W) rfl rfl rfl rfl rfl rfl ?_
  have a0 : ∀ p k, p ≠ 33 → (zw_I (zw_I H 33 0 (H.2.1 42 0)) 33 7 (H.2.1 42 7)).2.1 p k = H.2.1 p k := fun p k hp => (y_ne (fun h9 => hp h9.1)).trans (y_ne (fun h9 => hp h9.1))
  have z0 : (zw_I (zw_I H 33 0 (H.2.1 42 0)) 33 7 (H.2.1 42 7)).2.1 33 0 = H.2.1 42 0 := (y_ne (fun h9 => absurd h9.2 (by decide))).trans zw_eq
  have z7 : (zw_I (zw_I H 33 0 (H.2.1 42 0)) 33 7 (H.2.1 42 7)).2.1 33 7 = H.2.1 42 7 := zw_eq
  have r0 : (zw_I (zw_I H 33 0 (H.2.1 42 0)) 33 7 (H.2.1 42 7)).2.2 = H.2.2 := rfl
  have W0 : zw_W (zw_I (zw_I H 33 0 (H.2.1 42 0)) 33 7 (H.2.1 42 7)) := zw_W_I (zw_W_I W)
  show zs_Safe L σ _ zm_46 [] _ (16, _, _, zw_I (zw_I H 33 0 (H.2.1 42 0)) 33 7 (H.2.1 42 7), (0, 0))
  generalize zw_I (zw_I H 33 0 (H.2.1 42 0)) 33 7 (H.2.1 42 7) = K0 at a0 z0 z7 r0 W0 ⊢
  refine zw_ld (n := 1) (k := 1) (f := zp_isR) (pc' := 17) rfl rfl rfl rfl rfl ?_
  refine zw_gR (q := 42) (pc' := 20) W0 rfl rfl rfl rfl (W0.2 42 1 _ rfl) rfl ?_
  refine zw_s (pc' := 21) rfl rfl ?_
  refine zw_ld (n := 1) (k := 0) (f := zp_isR) (pc' := 22) rfl rfl rfl rfl rfl ?_
  refine zw_gR (q := 33) (pc' := 25) W0 rfl rfl rfl rfl (W0.2 33 1 _ rfl) rfl ?_
  refine zw_s (pc' := 26) rfl rfl ?_
  refine zw_s (pc' := 28) rfl rfl ?_
  refine zw_ac (q0 := 43) (q1 := 34) (pc' := 31) W0 rfl rfl rfl rfl ⟨by decide, by decide, by decide, by decide, by decide, by decide⟩ rfl ?_
  have a1 : ∀ p k, p ≠ 34 → (zw_K K0 34 (va_cpy (K0.2.1 43) (K0.2.1 34) 0 0 8)).2.1 p k = K0.2.1 p k := fun p k hp => zw_Kn hp
  have c1 : ∀ k, k < 8 → (zw_K K0 34 (va_cpy (K0.2.1 43) (K0.2.1 34) 0 0 8)).2.1 34 k = K0.2.1 43 k := fun k hk => zw_Ke.trans ((va_cpy_i ⟨Nat.zero_le _, by omega⟩).trans (congrArg (K0.2.1 43) (by omega)))
  have r1 : (zw_K K0 34 (va_cpy (K0.2.1 43) (K0.2.1 34) 0 0 8)).2.2 = K0.2.2 := rfl
  have W1 : zw_W (zw_K K0 34 (va_cpy (K0.2.1 43) (K0.2.1 34) 0 0 8)) := W0
  show zs_Safe L σ _ zm_46 [] _ (31, _, _, zw_K K0 34 (va_cpy (K0.2.1 43) (K0.2.1 34) 0 0 8), (0, 0))
  generalize zw_K K0 34 (va_cpy (K0.2.1 43) (K0.2.1 34) 0 0 8) = K1 at a1 c1 r1 W1 ⊢
  refine zw_ld (n := 1) (k := 1) (f := zp_isR) (pc' := 32) rfl rfl rfl rfl rfl ?_
  refine zw_gR (q := 42) (pc' := 35) W1 rfl rfl rfl rfl (W1.2 42 2 _ rfl) rfl ?_
  refine zw_s (pc' := 36) rfl rfl ?_
  refine zw_ld (n := 1) (k := 0) (f := zp_isR) (pc' := 37) rfl rfl rfl rfl rfl ?_
  refine zw_gR (q := 33) (pc' := 40) W1 rfl rfl rfl rfl (W1.2 33 2 _ rfl) rfl ?_
  refine zw_s (pc' := 41) rfl rfl ?_
  refine zw_s (pc' := 43) rfl rfl ?_
  refine zw_ac (q0 := 44) (q1 := 35) (pc' := 46) W1 rfl rfl rfl rfl ⟨by decide, by decide, by decide, by decide, by decide, by decide⟩ rfl ?_
  have a2 : ∀ p k, p ≠ 35 → (zw_K K1 35 (va_cpy (K1.2.1 44) (K1.2.1 35) 0 0 8)).2.1 p k = K1.2.1 p k := fun p k hp => zw_Kn hp
  have c2 : ∀ k, k < 8 → (zw_K K1 35 (va_cpy (K1.2.1 44) (K1.2.1 35) 0 0 8)).2.1 35 k = K1.2.1 44 k := fun k hk => zw_Ke.trans ((va_cpy_i ⟨Nat.zero_le _, by omega⟩).trans (congrArg (K1.2.1 44) (by omega)))
  have r2 : (zw_K K1 35 (va_cpy (K1.2.1 44) (K1.2.1 35) 0 0 8)).2.2 = K1.2.2 := rfl
  have W2 : zw_W (zw_K K1 35 (va_cpy (K1.2.1 44) (K1.2.1 35) 0 0 8)) := W1
  show zs_Safe L σ _ zm_46 [] _ (46, _, _, zw_K K1 35 (va_cpy (K1.2.1 44) (K1.2.1 35) 0 0 8), (0, 0))
  generalize zw_K K1 35 (va_cpy (K1.2.1 44) (K1.2.1 35) 0 0 8) = K2 at a2 c2 r2 W2 ⊢
  refine zw_ld (n := 1) (k := 1) (f := zp_isR) (pc' := 47) rfl rfl rfl rfl rfl ?_
  refine zw_gR (q := 42) (pc' := 50) W2 rfl rfl rfl rfl (W2.2 42 3 _ rfl) rfl ?_
  refine zw_s (pc' := 51) rfl rfl ?_
  refine zw_ld (n := 1) (k := 0) (f := zp_isR) (pc' := 52) rfl rfl rfl rfl rfl ?_
  refine zw_gR (q := 33) (pc' := 55) W2 rfl rfl rfl rfl (W2.2 33 3 _ rfl) rfl ?_
  refine zw_s (pc' := 56) rfl rfl ?_
  refine zw_s (pc' := 58) rfl rfl ?_
  refine zw_ac (q0 := 45) (q1 := 36) (pc' := 61) W2 rfl rfl rfl rfl ⟨by decide, by decide, by decide, by decide, by decide, by decide⟩ rfl ?_
  have a3 : ∀ p k, p ≠ 36 → (zw_K K2 36 (va_cpy (K2.2.1 45) (K2.2.1 36) 0 0 8)).2.1 p k = K2.2.1 p k := fun p k hp => zw_Kn hp
  have c3 : ∀ k, k < 8 → (zw_K K2 36 (va_cpy (K2.2.1 45) (K2.2.1 36) 0 0 8)).2.1 36 k = K2.2.1 45 k := fun k hk => zw_Ke.trans ((va_cpy_i ⟨Nat.zero_le _, by omega⟩).trans (congrArg (K2.2.1 45) (by omega)))
  have r3 : (zw_K K2 36 (va_cpy (K2.2.1 45) (K2.2.1 36) 0 0 8)).2.2 = K2.2.2 := rfl
  have W3 : zw_W (zw_K K2 36 (va_cpy (K2.2.1 45) (K2.2.1 36) 0 0 8)) := W2
  show zs_Safe L σ _ zm_46 [] _ (61, _, _, zw_K K2 36 (va_cpy (K2.2.1 45) (K2.2.1 36) 0 0 8), (0, 0))
  generalize zw_K K2 36 (va_cpy (K2.2.1 45) (K2.2.1 36) 0 0 8) = K3 at a3 c3 r3 W3 ⊢
  refine zw_ld (n := 1) (k := 1) (f := zp_isR) (pc' := 62) rfl rfl rfl rfl rfl ?_
  refine zw_gR (q := 42) (pc' := 65) W3 rfl rfl rfl rfl (W3.2 42 4 _ rfl) rfl ?_
  refine zw_s (pc' := 66) rfl rfl ?_
  refine zw_ld (n := 1) (k := 0) (f := zp_isR) (pc' := 67) rfl rfl rfl rfl rfl ?_
  refine zw_gR (q := 33) (pc' := 70) W3 rfl rfl rfl rfl (W3.2 33 4 _ rfl) rfl ?_
  refine zw_s (pc' := 71) rfl rfl ?_
  refine zw_s (pc' := 73) rfl rfl ?_
  refine zw_ac (q0 := 46) (q1 := 37) (pc' := 76) W3 rfl rfl rfl rfl ⟨by decide, by decide, by decide, by decide, by decide, by decide⟩ rfl ?_
  have a4 : ∀ p k, p ≠ 37 → (zw_K K3 37 (va_cpy (K3.2.1 46) (K3.2.1 37) 0 0 8)).2.1 p k = K3.2.1 p k := fun p k hp => zw_Kn hp
  have c4 : ∀ k, k < 8 → (zw_K K3 37 (va_cpy (K3.2.1 46) (K3.2.1 37) 0 0 8)).2.1 37 k = K3.2.1 46 k := fun k hk => zw_Ke.trans ((va_cpy_i ⟨Nat.zero_le _, by omega⟩).trans (congrArg (K3.2.1 46) (by omega)))
  have r4 : (zw_K K3 37 (va_cpy (K3.2.1 46) (K3.2.1 37) 0 0 8)).2.2 = K3.2.2 := rfl
  have W4 : zw_W (zw_K K3 37 (va_cpy (K3.2.1 46) (K3.2.1 37) 0 0 8)) := W3
  show zs_Safe L σ _ zm_46 [] _ (76, _, _, zw_K K3 37 (va_cpy (K3.2.1 46) (K3.2.1 37) 0 0 8), (0, 0))
  generalize zw_K K3 37 (va_cpy (K3.2.1 46) (K3.2.1 37) 0 0 8) = K4 at a4 c4 r4 W4 ⊢
  refine zw_ld (n := 1) (k := 1) (f := zp_isR) (pc' := 77) rfl rfl rfl rfl rfl ?_
  refine zw_gR (q := 42) (pc' := 80) W4 rfl rfl rfl rfl (W4.2 42 5 _ rfl) rfl ?_
  refine zw_s (pc' := 81) rfl rfl ?_
  refine zw_ld (n := 1) (k := 0) (f := zp_isR) (pc' := 82) rfl rfl rfl rfl rfl ?_
  refine zw_gR (q := 33) (pc' := 85) W4 rfl rfl rfl rfl (W4.2 33 5 _ rfl) rfl ?_
  refine zw_s (pc' := 86) rfl rfl ?_
  refine zw_s (pc' := 88) rfl rfl ?_
  refine zw_ac (q0 := 47) (q1 := 38) (pc' := 91) W4 rfl rfl rfl rfl ⟨by decide, by decide, by decide, by decide, by decide, by decide⟩ rfl ?_
  have a5 : ∀ p k, p ≠ 38 → (zw_K K4 38 (va_cpy (K4.2.1 47) (K4.2.1 38) 0 0 64)).2.1 p k = K4.2.1 p k := fun p k hp => zw_Kn hp
  have c5 : ∀ k, k < 64 → (zw_K K4 38 (va_cpy (K4.2.1 47) (K4.2.1 38) 0 0 64)).2.1 38 k = K4.2.1 47 k := fun k hk => zw_Ke.trans ((va_cpy_i ⟨Nat.zero_le _, by omega⟩).trans (congrArg (K4.2.1 47) (by omega)))
  have r5 : (zw_K K4 38 (va_cpy (K4.2.1 47) (K4.2.1 38) 0 0 64)).2.2 = K4.2.2 := rfl
  have W5 : zw_W (zw_K K4 38 (va_cpy (K4.2.1 47) (K4.2.1 38) 0 0 64)) := W4
  show zs_Safe L σ _ zm_46 [] _ (91, _, _, zw_K K4 38 (va_cpy (K4.2.1 47) (K4.2.1 38) 0 0 64), (0, 0))
  generalize zw_K K4 38 (va_cpy (K4.2.1 47) (K4.2.1 38) 0 0 64) = K5 at a5 c5 r5 W5 ⊢
  refine zw_ld (n := 1) (k := 1) (f := zp_isR) (pc' := 92) rfl rfl rfl rfl rfl ?_
  refine zw_gR (q := 42) (pc' := 95) W5 rfl rfl rfl rfl (W5.2 42 6 _ rfl) rfl ?_
  refine zw_s (pc' := 96) rfl rfl ?_
  refine zw_ld (n := 1) (k := 0) (f := zp_isR) (pc' := 97) rfl rfl rfl rfl rfl ?_
  refine zw_gR (q := 33) (pc' := 100) W5 rfl rfl rfl rfl (W5.2 33 6 _ rfl) rfl ?_
  refine zw_s (pc' := 101) rfl rfl ?_
  refine zw_s (pc' := 103) rfl rfl ?_
  refine zw_ac (q0 := 48) (q1 := 39) (pc' := 106) W5 rfl rfl rfl rfl ⟨by decide, by decide, by decide, by decide, by decide, by decide⟩ rfl ?_
  have a6 : ∀ p k, p ≠ 39 → (zw_K K5 39 (va_cpy (K5.2.1 48) (K5.2.1 39) 0 0 64)).2.1 p k = K5.2.1 p k := fun p k hp => zw_Kn hp
  have c6 : ∀ k, k < 64 → (zw_K K5 39 (va_cpy (K5.2.1 48) (K5.2.1 39) 0 0 64)).2.1 39 k = K5.2.1 48 k := fun k hk => zw_Ke.trans ((va_cpy_i ⟨Nat.zero_le _, by omega⟩).trans (congrArg (K5.2.1 48) (by omega)))
  have r6 : (zw_K K5 39 (va_cpy (K5.2.1 48) (K5.2.1 39) 0 0 64)).2.2 = K5.2.2 := rfl
  have W6 : zw_W (zw_K K5 39 (va_cpy (K5.2.1 48) (K5.2.1 39) 0 0 64)) := W5
  show zs_Safe L σ _ zm_46 [] _ (106, _, _, zw_K K5 39 (va_cpy (K5.2.1 48) (K5.2.1 39) 0 0 64), (0, 0))
  generalize zw_K K5 39 (va_cpy (K5.2.1 48) (K5.2.1 39) 0 0 64) = K6 at a6 c6 r6 W6 ⊢
  refine zw_ld (n := 1) (k := 1) (f := zp_isR) (pc' := 107) rfl rfl rfl rfl rfl ?_
  refine zw_gR (q := 42) (pc' := 110) W6 rfl rfl rfl rfl (W6.2 42 8 _ rfl) rfl ?_
  refine zw_s (pc' := 111) rfl rfl ?_
  refine zw_ld (n := 1) (k := 0) (f := zp_isR) (pc' := 112) rfl rfl rfl rfl rfl ?_
  refine zw_gR (q := 33) (pc' := 115) W6 rfl rfl rfl rfl (W6.2 33 8 _ rfl) rfl ?_
  refine zw_s (pc' := 116) rfl rfl ?_
  refine zw_s (pc' := 118) rfl rfl ?_
  refine zw_ac (q0 := 49) (q1 := 40) (pc' := 121) W6 rfl rfl rfl rfl ⟨by decide, by decide, by decide, by decide, by decide, by decide⟩ rfl ?_
  have a7 : ∀ p k, p ≠ 40 → (zw_K K6 40 (va_cpy (K6.2.1 49) (K6.2.1 40) 0 0 30)).2.1 p k = K6.2.1 p k := fun p k hp => zw_Kn hp
  have c7 : ∀ k, k < 30 → (zw_K K6 40 (va_cpy (K6.2.1 49) (K6.2.1 40) 0 0 30)).2.1 40 k = K6.2.1 49 k := fun k hk => zw_Ke.trans ((va_cpy_i ⟨Nat.zero_le _, by omega⟩).trans (congrArg (K6.2.1 49) (by omega)))
  have r7 : (zw_K K6 40 (va_cpy (K6.2.1 49) (K6.2.1 40) 0 0 30)).2.2 = K6.2.2 := rfl
  have W7 : zw_W (zw_K K6 40 (va_cpy (K6.2.1 49) (K6.2.1 40) 0 0 30)) := W6
  show zs_Safe L σ _ zm_46 [] _ (121, _, _, zw_K K6 40 (va_cpy (K6.2.1 49) (K6.2.1 40) 0 0 30), (0, 0))
  generalize zw_K K6 40 (va_cpy (K6.2.1 49) (K6.2.1 40) 0 0 30) = K7 at a7 c7 r7 W7 ⊢
  refine zw_ld (n := 1) (k := 1) (f := zp_isR) (pc' := 122) rfl rfl rfl rfl rfl ?_
  refine zw_gR (q := 42) (pc' := 125) W7 rfl rfl rfl rfl (W7.2 42 9 _ rfl) rfl ?_
  refine zw_s (pc' := 126) rfl rfl ?_
  refine zw_ld (n := 1) (k := 0) (f := zp_isR) (pc' := 127) rfl rfl rfl rfl rfl ?_
  refine zw_gR (q := 33) (pc' := 130) W7 rfl rfl rfl rfl (W7.2 33 9 _ rfl) rfl ?_
  refine zw_s (pc' := 131) rfl rfl ?_
  refine zw_s (pc' := 133) rfl rfl ?_
  refine zw_ac (q0 := 50) (q1 := 41) (pc' := 136) W7 rfl rfl rfl rfl ⟨by decide, by decide, by decide, by decide, by decide, by decide⟩ rfl ?_
  have a8 : ∀ p k, p ≠ 41 → (zw_K K7 41 (va_cpy (K7.2.1 50) (K7.2.1 41) 0 0 30)).2.1 p k = K7.2.1 p k := fun p k hp => zw_Kn hp
  have c8 : ∀ k, k < 30 → (zw_K K7 41 (va_cpy (K7.2.1 50) (K7.2.1 41) 0 0 30)).2.1 41 k = K7.2.1 50 k := fun k hk => zw_Ke.trans ((va_cpy_i ⟨Nat.zero_le _, by omega⟩).trans (congrArg (K7.2.1 50) (by omega)))
  have r8 : (zw_K K7 41 (va_cpy (K7.2.1 50) (K7.2.1 41) 0 0 30)).2.2 = K7.2.2 := rfl
  have W8 : zw_W (zw_K K7 41 (va_cpy (K7.2.1 50) (K7.2.1 41) 0 0 30)) := W7
  show zs_Safe L σ _ zm_46 [] _ (136, _, _, zw_K K7 41 (va_cpy (K7.2.1 50) (K7.2.1 41) 0 0 30), (0, 0))
  generalize zw_K K7 41 (va_cpy (K7.2.1 50) (K7.2.1 41) 0 0 30) = K8 at a8 c8 r8 W8 ⊢
  have b0 : ∀ p k, (p ≠ 33 ∧ ¬ (34 ≤ p ∧ p ≤ 41)) → K8.2.1 p k = H.2.1 p k := fun p k hp => (a8 p k (by omega)).trans ((a7 p k (by omega)).trans ((a6 p k (by omega)).trans ((a5 p k (by omega)).trans ((a4 p k (by omega)).trans ((a3 p k (by omega)).trans ((a2 p k (by omega)).trans ((a1 p k (by omega)).trans ((a0 p k (by omega))))))))))
  have f1 : ∀ k, k < 8 → K8.2.1 34 k = H.2.1 43 k := fun k hk => ((a8 34 k (by decide)).trans ((a7 34 k (by decide)).trans ((a6 34 k (by decide)).trans ((a5 34 k (by decide)).trans ((a4 34 k (by decide)).trans ((a3 34 k (by decide)).trans ((a2 34 k (by decide)).trans ((c1 k hk).trans (a0 43 k (by decide))))))))))
  have f2 : ∀ k, k < 8 → K8.2.1 35 k = H.2.1 44 k := fun k hk => ((a8 35 k (by decide)).trans ((a7 35 k (by decide)).trans ((a6 35 k (by decide)).trans ((a5 35 k (by decide)).trans ((a4 35 k (by decide)).trans ((a3 35 k (by decide)).trans ((c2 k hk).trans ((a1 44 k (by decide)).trans (a0 44 k (by decide))))))))))
  have f3 : ∀ k, k < 8 → K8.2.1 36 k = H.2.1 45 k := fun k hk => ((a8 36 k (by decide)).trans ((a7 36 k (by decide)).trans ((a6 36 k (by decide)).trans ((a5 36 k (by decide)).trans ((a4 36 k (by decide)).trans ((c3 k hk).trans ((a2 45 k (by decide)).trans ((a1 45 k (by decide)).trans (a0 45 k (by decide))))))))))
  have f4 : ∀ k, k < 8 → K8.2.1 37 k = H.2.1 46 k := fun k hk => ((a8 37 k (by decide)).trans ((a7 37 k (by decide)).trans ((a6 37 k (by decide)).trans ((a5 37 k (by decide)).trans ((c4 k hk).trans ((a3 46 k (by decide)).trans ((a2 46 k (by decide)).trans ((a1 46 k (by decide)).trans (a0 46 k (by decide))))))))))
  have f5 : ∀ k, k < 64 → K8.2.1 38 k = H.2.1 47 k := fun k hk => ((a8 38 k (by decide)).trans ((a7 38 k (by decide)).trans ((a6 38 k (by decide)).trans ((c5 k hk).trans ((a4 47 k (by decide)).trans ((a3 47 k (by decide)).trans ((a2 47 k (by decide)).trans ((a1 47 k (by decide)).trans (a0 47 k (by decide))))))))))
  have f6 : ∀ k, k < 64 → K8.2.1 39 k = H.2.1 48 k := fun k hk => ((a8 39 k (by decide)).trans ((a7 39 k (by decide)).trans ((c6 k hk).trans ((a5 48 k (by decide)).trans ((a4 48 k (by decide)).trans ((a3 48 k (by decide)).trans ((a2 48 k (by decide)).trans ((a1 48 k (by decide)).trans (a0 48 k (by decide))))))))))
  have f7 : ∀ k, k < 30 → K8.2.1 40 k = H.2.1 49 k := fun k hk => ((a8 40 k (by decide)).trans ((c7 k hk).trans ((a6 49 k (by decide)).trans ((a5 49 k (by decide)).trans ((a4 49 k (by decide)).trans ((a3 49 k (by decide)).trans ((a2 49 k (by decide)).trans ((a1 49 k (by decide)).trans (a0 49 k (by decide))))))))))
  have f8 : ∀ k, k < 30 → K8.2.1 41 k = H.2.1 50 k := fun k hk => ((c8 k hk).trans ((a7 50 k (by decide)).trans ((a6 50 k (by decide)).trans ((a5 50 k (by decide)).trans ((a4 50 k (by decide)).trans ((a3 50 k (by decide)).trans ((a2 50 k (by decide)).trans ((a1 50 k (by decide)).trans (a0 50 k (by decide))))))))))
  have g0 : K8.2.1 33 0 = H.2.1 42 0 := ((a8 33 0 (by decide)).trans ((a7 33 0 (by decide)).trans ((a6 33 0 (by decide)).trans ((a5 33 0 (by decide)).trans ((a4 33 0 (by decide)).trans ((a3 33 0 (by decide)).trans ((a2 33 0 (by decide)).trans ((a1 33 0 (by decide)).trans z0))))))))
  have g7 : K8.2.1 33 7 = H.2.1 42 7 := ((a8 33 7 (by decide)).trans ((a7 33 7 (by decide)).trans ((a6 33 7 (by decide)).trans ((a5 33 7 (by decide)).trans ((a4 33 7 (by decide)).trans ((a3 33 7 (by decide)).trans ((a2 33 7 (by decide)).trans ((a1 33 7 (by decide)).trans z7))))))))
  refine zw_rn rfl rfl ?_
  obtain ⟨b1, b2, b3, b4⟩ := hw
  obtain ⟨h1, h2, h3, h4, h5⟩ := h
  refine ⟨K8, rfl, ⟨by rw [g0]; exact h1, by rw [g7]; exact h2, fun s w hs hw' => ?_, fun s j w hs hj hw' => ?_, fun k w hk hw' => ?_⟩, W8, r8.trans (r7.trans (r6.trans (r5.trans (r4.trans (r3.trans (r2.trans (r1.trans (r0)))))))), b0⟩
  · refine Eq.trans ?_ (h3 s w hs hw')
    rcases (show w = 0 ∨ w = 1 ∨ w = 2 ∨ w = 3 by omega) with rfl | rfl | rfl | rfl
    · exact f1 s (by omega)
    · exact f2 s (by omega)
    · exact f3 s (by omega)
    · exact f4 s (by omega)
  · have hb := b3 s hs
    refine Eq.trans ?_ (h4 s j w hs hj hw')
    rcases (show w = 0 ∨ w = 1 by omega) with rfl | rfl
    · exact f5 _ (by omega)
    · exact f6 _ (by omega)
  · refine Eq.trans ?_ (h5 k w hk hw')
    rcases (show w = 0 ∨ w = 1 by omega) with rfl | rfl
    · exact f7 k (by omega)
    · exact f8 k (by omega)

theorem yc_im0 {L : Nat} {σ : Nat → Int32} {d : Nat} {H : zp_H} {A : xK} (hB : zk_Bs (zB_c 0) zg zJc H) (hw : xKw A) (h : yHc 13 A H) : ∃ X, zp_Call L σ (d + 2) 45 [.inr (.inr (some 1))] H X ∧ ∃ H1, X = (.inl none, H1) ∧ yHc 42 A H1 ∧ yHc 13 A H1 ∧ H1.2.1 0 10 = Int32.ofInt 1 := by
  have W := zB_Wd (zB_dn (zB_Bc hB))
  have g5 : H.2.2.2 0 5 = some 3 := hB.2.1 0 5 _ rfl
  have g6 : H.2.2.2 0 6 = some 14 := hB.2.1 0 6 _ rfl
  have g7 : H.2.2.2 0 7 = some 23 := hB.2.1 0 7 _ rfl
  have g8 : H.2.2.2 0 8 = some 34 := hB.2.1 0 8 _ rfl
  obtain ⟨_, q1, H1, rfl, q2, W1, q3, q4⟩ := yc_cf42_13 (L := L) (σ := σ) (d := d) W hw h
  refine zw_met zm_45_t rfl rfl ?_
  refine zw_ld (n := 1) (k := 0) (f := zp_isR) (pc' := 1) rfl rfl rfl rfl rfl ?_
  refine zw_gR (q := 0) (pc' := 4) W rfl rfl rfl rfl (W.2 0 9 _ rfl) rfl ?_
  refine zw_ld (n := 1) (k := 0) (f := zp_isR) (pc' := 5) rfl rfl rfl rfl rfl ?_
  refine zw_gR (q := 0) (pc' := 8) W rfl rfl rfl rfl g6 rfl ?_
  refine zw_cn (pc' := 11) (zw_cv (q := 42) (Y := zm_46) W.1 rfl rfl zm_46_t rfl rfl) rfl rfl rfl rfl rfl (q1) ?_
  refine zw_ld (n := 1) (k := 0) (f := zp_isR) (pc' := 12) rfl rfl rfl rfl rfl ?_
  refine zw_s (pc' := 13) rfl rfl ?_
  refine zw_pI (q := 0) (pc' := 16) W1 rfl rfl rfl rfl (rfl) rfl ?_
  refine zw_rn rfl rfl ?_
  exact ⟨_, rfl, yHc_c (fun p k p1 p2 => y_ne (fun h9 => by have := h9.1; omega)) q2, yHc_c (fun p k p1 p2 => (y_ne (fun h9 => by have := h9.1; omega)).trans (q4 p k (by omega))) h, zw_eq⟩

theorem yc_re0 {L : Nat} {σ : Nat → Int32} {d : Nat} {H : zp_H} {A : xK} (hB : zk_Bs (zB_c 0) zg zJc H) (hw : xKw A) (h : yHc 42 A H) (hn : ¬ (H.2.1 0 10).toInt = 0) : ∃ X, zp_Call L σ (d + 2) 47 [.inr (.inr (some 1))] H X ∧ ∃ H1, X = (.inl (some (.inl (H.2.1 0 10))), H1) ∧ yHc 13 A H1 ∧ yHc 42 A H1 := by
  have W := zB_Wd (zB_dn (zB_Bc hB))
  have g5 : H.2.2.2 0 5 = some 3 := hB.2.1 0 5 _ rfl
  have g6 : H.2.2.2 0 6 = some 14 := hB.2.1 0 6 _ rfl
  have g7 : H.2.2.2 0 7 = some 23 := hB.2.1 0 7 _ rfl
  have g8 : H.2.2.2 0 8 = some 34 := hB.2.1 0 8 _ rfl
  obtain ⟨_, q1, H1, rfl, q2, W1, q3, q4⟩ := yc_cf13_42 (L := L) (σ := σ) (d := d) W hw h
  have r10 := zB_fr1 (zB_dn (zB_Bc hB)) (p := 0) (k := 10) (r := (0, 1)) rfl
  have r10 : 0 ≤ (H.2.1 0 10).toInt ∧ (H.2.1 0 10).toInt ≤ 1 := r10
  have e10 : H1.2.1 0 10 = H.2.1 0 10 := q4 0 10 (by decide)
  have o10 : H.2.1 0 10 = Int32.ofInt 0 ∨ H.2.1 0 10 = Int32.ofInt 1 := by
    rcases (show (H.2.1 0 10).toInt = 0 ∨ (H.2.1 0 10).toInt = 1 by omega) with h9 | h9
    · exact Or.inl (Int32.toInt_inj.mp h9)
    · exact Or.inr (Int32.toInt_inj.mp h9)
  refine zw_met zm_47_t rfl rfl ?_
  refine zw_ld (n := 1) (k := 0) (f := zp_isR) (pc' := 1) rfl rfl rfl rfl rfl ?_
  refine zw_gI (q := 0) (pc' := 4) W rfl rfl rfl rfl rfl rfl ?_
  refine zw_beq1 (g := 18) (pc' := 7) rfl rfl rfl rfl (fun h1 => ?_) (fun h1 => ?_)
  · exact absurd h1 hn
  · refine zw_ld (n := 1) (k := 0) (f := zp_isR) (pc' := 8) rfl rfl rfl rfl rfl ?_
    refine zw_gR (q := 0) (pc' := 11) W rfl rfl rfl rfl g6 rfl ?_
    refine zw_ld (n := 1) (k := 0) (f := zp_isR) (pc' := 12) rfl rfl rfl rfl rfl ?_
    refine zw_gR (q := 0) (pc' := 15) W rfl rfl rfl rfl (W.2 0 9 _ rfl) rfl ?_
    refine zw_cn (pc' := 18) (zw_cv (q := 13) (Y := zm_46) W.1 rfl rfl zm_46_t rfl rfl) rfl rfl rfl rfl rfl (q1) ?_
    refine zw_ld (n := 1) (k := 0) (f := zp_isR) (pc' := 19) rfl rfl rfl rfl rfl ?_
    refine zw_gI (q := 0) (pc' := 22) W1 rfl rfl rfl rfl rfl rfl ?_
    rw [e10]
    refine zw_rz rfl rfl (o10) ?_
    exact ⟨_, rfl, q2, yHc_c (fun p k p1 p2 => q4 p k (by omega)) h⟩

theorem yc_ren0 {L : Nat} {σ : Nat → Int32} {d : Nat} {H : zp_H} (hB : zk_Bs (zB_c 0) zg zJc H) (hn : (H.2.1 0 10).toInt = 0) : zp_Call L σ (d + 2) 47 [.inr (.inr (some 1))] H (.inl (some (.inl (H.2.1 0 10))), H) := by
  have W := zB_Wd (zB_dn (zB_Bc hB))
  have g5 : H.2.2.2 0 5 = some 3 := hB.2.1 0 5 _ rfl
  have g6 : H.2.2.2 0 6 = some 14 := hB.2.1 0 6 _ rfl
  have g7 : H.2.2.2 0 7 = some 23 := hB.2.1 0 7 _ rfl
  have g8 : H.2.2.2 0 8 = some 34 := hB.2.1 0 8 _ rfl
  have o10 : H.2.1 0 10 = Int32.ofInt 0 := Int32.toInt_inj.mp hn
  refine zw_ex (zw_met zm_47_t rfl rfl ?_)
  refine zw_ld (n := 1) (k := 0) (f := zp_isR) (pc' := 1) rfl rfl rfl rfl rfl ?_
  refine zw_gI (q := 0) (pc' := 4) W rfl rfl rfl rfl rfl rfl ?_
  refine zw_beq1 (g := 18) (pc' := 7) rfl rfl rfl rfl (fun h1 => ?_) (fun h1 => ?_)
  · refine zw_ld (n := 1) (k := 0) (f := zp_isR) (pc' := 19) rfl rfl rfl rfl rfl ?_
    refine zw_gI (q := 0) (pc' := 22) W rfl rfl rfl rfl rfl rfl ?_
    refine zw_rz rfl rfl (Or.inl o10) ?_
    rfl
  · exact absurd hn h1

theorem yc_im3 {L : Nat} {σ : Nat → Int32} {d : Nat} {H : zp_H} {A : xK} (hB : zk_Bs (zB_c 3) zg zJc H) (hw : xKw A) (h : yHc 33 A H) : ∃ X, zp_Call L σ (d + 2) 45 [.inr (.inr (some 1))] H X ∧ ∃ H1, X = (.inl none, H1) ∧ yHc 42 A H1 ∧ yHc 33 A H1 ∧ H1.2.1 0 10 = Int32.ofInt 1 := by
  have W := zB_Wd (zB_dn (zB_Bc hB))
  have g5 : H.2.2.2 0 5 = some 23 := hB.2.1 0 5 _ rfl
  have g6 : H.2.2.2 0 6 = some 34 := hB.2.1 0 6 _ rfl
  have g7 : H.2.2.2 0 7 = some 3 := hB.2.1 0 7 _ rfl
  have g8 : H.2.2.2 0 8 = some 14 := hB.2.1 0 8 _ rfl
  obtain ⟨_, q1, H1, rfl, q2, W1, q3, q4⟩ := yc_cf42_33 (L := L) (σ := σ) (d := d) W hw h
  refine zw_met zm_45_t rfl rfl ?_
  refine zw_ld (n := 1) (k := 0) (f := zp_isR) (pc' := 1) rfl rfl rfl rfl rfl ?_
  refine zw_gR (q := 0) (pc' := 4) W rfl rfl rfl rfl (W.2 0 9 _ rfl) rfl ?_
  refine zw_ld (n := 1) (k := 0) (f := zp_isR) (pc' := 5) rfl rfl rfl rfl rfl ?_
  refine zw_gR (q := 0) (pc' := 8) W rfl rfl rfl rfl g6 rfl ?_
  refine zw_cn (pc' := 11) (zw_cv (q := 42) (Y := zm_46) W.1 rfl rfl zm_46_t rfl rfl) rfl rfl rfl rfl rfl (q1) ?_
  refine zw_ld (n := 1) (k := 0) (f := zp_isR) (pc' := 12) rfl rfl rfl rfl rfl ?_
  refine zw_s (pc' := 13) rfl rfl ?_
  refine zw_pI (q := 0) (pc' := 16) W1 rfl rfl rfl rfl (rfl) rfl ?_
  refine zw_rn rfl rfl ?_
  exact ⟨_, rfl, yHc_c (fun p k p1 p2 => y_ne (fun h9 => by have := h9.1; omega)) q2, yHc_c (fun p k p1 p2 => (y_ne (fun h9 => by have := h9.1; omega)).trans (q4 p k (by omega))) h, zw_eq⟩

theorem yc_re3 {L : Nat} {σ : Nat → Int32} {d : Nat} {H : zp_H} {A : xK} (hB : zk_Bs (zB_c 3) zg zJc H) (hw : xKw A) (h : yHc 42 A H) (hn : ¬ (H.2.1 0 10).toInt = 0) : ∃ X, zp_Call L σ (d + 2) 47 [.inr (.inr (some 1))] H X ∧ ∃ H1, X = (.inl (some (.inl (H.2.1 0 10))), H1) ∧ yHc 33 A H1 ∧ yHc 42 A H1 := by
  have W := zB_Wd (zB_dn (zB_Bc hB))
  have g5 : H.2.2.2 0 5 = some 23 := hB.2.1 0 5 _ rfl
  have g6 : H.2.2.2 0 6 = some 34 := hB.2.1 0 6 _ rfl
  have g7 : H.2.2.2 0 7 = some 3 := hB.2.1 0 7 _ rfl
  have g8 : H.2.2.2 0 8 = some 14 := hB.2.1 0 8 _ rfl
  obtain ⟨_, q1, H1, rfl, q2, W1, q3, q4⟩ := yc_cf33_42 (L := L) (σ := σ) (d := d) W hw h
  have r10 := zB_fr1 (zB_dn (zB_Bc hB)) (p := 0) (k := 10) (r := (0, 1)) rfl
  have r10 : 0 ≤ (H.2.1 0 10).toInt ∧ (H.2.1 0 10).toInt ≤ 1 := r10
  have e10 : H1.2.1 0 10 = H.2.1 0 10 := q4 0 10 (by decide)
  have o10 : H.2.1 0 10 = Int32.ofInt 0 ∨ H.2.1 0 10 = Int32.ofInt 1 := by
    rcases (show (H.2.1 0 10).toInt = 0 ∨ (H.2.1 0 10).toInt = 1 by omega) with h9 | h9
    · exact Or.inl (Int32.toInt_inj.mp h9)
    · exact Or.inr (Int32.toInt_inj.mp h9)
  refine zw_met zm_47_t rfl rfl ?_
  refine zw_ld (n := 1) (k := 0) (f := zp_isR) (pc' := 1) rfl rfl rfl rfl rfl ?_
  refine zw_gI (q := 0) (pc' := 4) W rfl rfl rfl rfl rfl rfl ?_
  refine zw_beq1 (g := 18) (pc' := 7) rfl rfl rfl rfl (fun h1 => ?_) (fun h1 => ?_)
  · exact absurd h1 hn
  · refine zw_ld (n := 1) (k := 0) (f := zp_isR) (pc' := 8) rfl rfl rfl rfl rfl ?_
    refine zw_gR (q := 0) (pc' := 11) W rfl rfl rfl rfl g6 rfl ?_
    refine zw_ld (n := 1) (k := 0) (f := zp_isR) (pc' := 12) rfl rfl rfl rfl rfl ?_
    refine zw_gR (q := 0) (pc' := 15) W rfl rfl rfl rfl (W.2 0 9 _ rfl) rfl ?_
    refine zw_cn (pc' := 18) (zw_cv (q := 33) (Y := zm_46) W.1 rfl rfl zm_46_t rfl rfl) rfl rfl rfl rfl rfl (q1) ?_
    refine zw_ld (n := 1) (k := 0) (f := zp_isR) (pc' := 19) rfl rfl rfl rfl rfl ?_
    refine zw_gI (q := 0) (pc' := 22) W1 rfl rfl rfl rfl rfl rfl ?_
    rw [e10]
    refine zw_rz rfl rfl (o10) ?_
    exact ⟨_, rfl, q2, yHc_c (fun p k p1 p2 => q4 p k (by omega)) h⟩

theorem yc_ren3 {L : Nat} {σ : Nat → Int32} {d : Nat} {H : zp_H} (hB : zk_Bs (zB_c 3) zg zJc H) (hn : (H.2.1 0 10).toInt = 0) : zp_Call L σ (d + 2) 47 [.inr (.inr (some 1))] H (.inl (some (.inl (H.2.1 0 10))), H) := by
  have W := zB_Wd (zB_dn (zB_Bc hB))
  have g5 : H.2.2.2 0 5 = some 23 := hB.2.1 0 5 _ rfl
  have g6 : H.2.2.2 0 6 = some 34 := hB.2.1 0 6 _ rfl
  have g7 : H.2.2.2 0 7 = some 3 := hB.2.1 0 7 _ rfl
  have g8 : H.2.2.2 0 8 = some 14 := hB.2.1 0 8 _ rfl
  have o10 : H.2.1 0 10 = Int32.ofInt 0 := Int32.toInt_inj.mp hn
  refine zw_ex (zw_met zm_47_t rfl rfl ?_)
  refine zw_ld (n := 1) (k := 0) (f := zp_isR) (pc' := 1) rfl rfl rfl rfl rfl ?_
  refine zw_gI (q := 0) (pc' := 4) W rfl rfl rfl rfl rfl rfl ?_
  refine zw_beq1 (g := 18) (pc' := 7) rfl rfl rfl rfl (fun h1 => ?_) (fun h1 => ?_)
  · refine zw_ld (n := 1) (k := 0) (f := zp_isR) (pc' := 19) rfl rfl rfl rfl rfl ?_
    refine zw_gI (q := 0) (pc' := 22) W rfl rfl rfl rfl rfl rfl ?_
    refine zw_rz rfl rfl (Or.inl o10) ?_
    rfl
  · exact absurd hn h1

theorem yIm_r {A : xK} {H : zp_H} (hw : xKw A) (h : yHr 74 75 93 62 A H) : yHr 101 102 103 81 A (yIm H) ∧ yHr 74 75 93 62 A (yIm H) := by
  obtain ⟨b1, b2, b3, b4⟩ := hw
  obtain ⟨h1, h2, h3, h4, h5⟩ := h
  have k0 : ∀ p k, p ≠ 72 → p ≠ 101 → p ≠ 102 → p ≠ 103 → (yIm H).2.1 p k = H.2.1 p k := fun p k p1 p2 p3 p4 => (zc_ne p4).trans ((zc_ne p3).trans ((zc_ne p2).trans ((y_ne (fun h9 => p1 h9.1)).trans ((y_ne (fun h9 => p1 h9.1)).trans (y_ne (fun h9 => p1 h9.1))))))
  have k1 : ∀ k, k ≠ 0 → k ≠ 80 → k ≠ 81 → (yIm H).2.1 72 k = H.2.1 72 k := fun k p1 p2 p3 => (zc_ne (by decide)).trans ((zc_ne (by decide)).trans ((zc_ne (by decide)).trans ((y_ne (fun h9 => p3 h9.2)).trans ((y_ne (fun h9 => p2 h9.2)).trans (y_ne (fun h9 => p1 h9.2))))))
  have k81 : (yIm H).2.1 72 81 = H.2.1 72 62 := (zc_ne (by decide)).trans ((zc_ne (by decide)).trans ((zc_ne (by decide)).trans zw_eq))
  have c1 : ∀ k, k < 32 → (yIm H).2.1 101 k = H.2.1 74 k := fun k hk => (zc_ne (by decide)).trans ((zc_ne (by decide)).trans ((zc_eq hk).trans ((y_ne (fun h9 => absurd h9.1 (by decide))).trans ((y_ne (fun h9 => absurd h9.1 (by decide))).trans (y_ne (fun h9 => absurd h9.1 (by decide)))))))
  have c2 : ∀ k, k < 128 → (yIm H).2.1 102 k = H.2.1 75 k := fun k hk => (zc_ne (by decide)).trans ((zc_eq hk).trans ((zc_ne (by decide)).trans ((y_ne (fun h9 => absurd h9.1 (by decide))).trans ((y_ne (fun h9 => absurd h9.1 (by decide))).trans (y_ne (fun h9 => absurd h9.1 (by decide)))))))
  have c3 : ∀ k, k < 60 → (yIm H).2.1 103 k = H.2.1 93 k := fun k hk => (zc_eq hk).trans ((zc_ne (by decide)).trans ((zc_ne (by decide)).trans ((y_ne (fun h9 => absurd h9.1 (by decide))).trans ((y_ne (fun h9 => absurd h9.1 (by decide))).trans (y_ne (fun h9 => absurd h9.1 (by decide)))))))
  refine ⟨⟨by rw [k1 5 (by decide) (by decide) (by decide)]; exact h1, by rw [k81]; exact h2, fun s w hs hw => (c1 _ (by omega)).trans (h3 s w hs hw), fun s j w hs hj hw => (c2 _ (by have := b3 s hs; omega)).trans (h4 s j w hs hj hw), fun k w hk hw => (c3 _ (by omega)).trans (h5 k w hk hw)⟩, ⟨by rw [k1 5 (by decide) (by decide) (by decide)]; exact h1, by rw [k1 62 (by decide) (by decide) (by decide)]; exact h2, fun s w hs hw => (k0 74 _ (by decide) (by decide) (by decide) (by decide)).trans (h3 s w hs hw), fun s j w hs hj hw => (k0 75 _ (by decide) (by decide) (by decide) (by decide)).trans (h4 s j w hs hj hw), fun k w hk hw => (k0 93 _ (by decide) (by decide) (by decide) (by decide)).trans (h5 k w hk hw)⟩⟩
theorem yRs_r {A : xK} {H : zp_H} (hw : xKw A) (h : yHr 101 102 103 81 A H) : yHr 74 75 93 62 A (yRs H) ∧ yHr 101 102 103 81 A (yRs H) := by
  obtain ⟨b1, b2, b3, b4⟩ := hw
  obtain ⟨h1, h2, h3, h4, h5⟩ := h
  have k0 : ∀ p k, p ≠ 72 → p ≠ 74 → p ≠ 75 → p ≠ 93 → (yRs H).2.1 p k = H.2.1 p k := fun p k p1 p2 p3 p4 => (zc_ne p4).trans ((zc_ne p3).trans ((zc_ne p2).trans ((y_ne (fun h9 => p1 h9.1)).trans (y_ne (fun h9 => p1 h9.1)))))
  have k1 : ∀ k, k ≠ 0 → k ≠ 62 → (yRs H).2.1 72 k = H.2.1 72 k := fun k p1 p2 => (zc_ne (by decide)).trans ((zc_ne (by decide)).trans ((zc_ne (by decide)).trans ((y_ne (fun h9 => p2 h9.2)).trans (y_ne (fun h9 => p1 h9.2)))))
  have k62 : (yRs H).2.1 72 62 = H.2.1 72 81 := (zc_ne (by decide)).trans ((zc_ne (by decide)).trans ((zc_ne (by decide)).trans zw_eq))
  have c1 : ∀ k, k < 32 → (yRs H).2.1 74 k = H.2.1 101 k := fun k hk => (zc_ne (by decide)).trans ((zc_ne (by decide)).trans ((zc_eq hk).trans ((y_ne (fun h9 => absurd h9.1 (by decide))).trans (y_ne (fun h9 => absurd h9.1 (by decide))))))
  have c2 : ∀ k, k < 128 → (yRs H).2.1 75 k = H.2.1 102 k := fun k hk => (zc_ne (by decide)).trans ((zc_eq hk).trans ((zc_ne (by decide)).trans ((y_ne (fun h9 => absurd h9.1 (by decide))).trans (y_ne (fun h9 => absurd h9.1 (by decide))))))
  have c3 : ∀ k, k < 60 → (yRs H).2.1 93 k = H.2.1 103 k := fun k hk => (zc_eq hk).trans ((zc_ne (by decide)).trans ((zc_ne (by decide)).trans ((y_ne (fun h9 => absurd h9.1 (by decide))).trans (y_ne (fun h9 => absurd h9.1 (by decide))))))
  refine ⟨⟨by rw [k1 5 (by decide) (by decide)]; exact h1, by rw [k62]; exact h2, fun s w hs hw => (c1 _ (by omega)).trans (h3 s w hs hw), fun s j w hs hj hw => (c2 _ (by have := b3 s hs; omega)).trans (h4 s j w hs hj hw), fun k w hk hw => (c3 _ (by omega)).trans (h5 k w hk hw)⟩, ⟨by rw [k1 5 (by decide) (by decide)]; exact h1, by rw [k1 81 (by decide) (by decide)]; exact h2, fun s w hs hw => (k0 101 _ (by decide) (by decide) (by decide) (by decide)).trans (h3 s w hs hw), fun s j w hs hj hw => (k0 102 _ (by decide) (by decide) (by decide) (by decide)).trans (h4 s j w hs hj hw), fun k w hk hw => (k0 103 _ (by decide) (by decide) (by decide) (by decide)).trans (h5 k w hk hw)⟩⟩
