section
/-! ===== feed of both sides, exactly: the tapes hold the same bytes ===== -/
def zm_17 : za_MI := (yX11_feed, prog_1_method_2_code, 6, (some FieldType.int), 11, 0, 0, [], za_i17)
theorem zm_17_t : za_MT 17 = some zm_17 := rfl
def zm_18 : za_MI := (yX11_putNumber, prog_1_method_3_code, 3, none, 11, 0, 0, [], za_i18)
theorem zm_18_t : za_MT 18 = some zm_18 := rfl
def zm_167 : za_MI := (yX12_feed, prog_14_method_8_code, 6, (some FieldType.int), 12, 0, 0, [], za_i167)
theorem zm_167_t : za_MT 167 = some zm_167 := rfl
def zm_168 : za_MI := (yX12_lays, prog_14_method_9_code, 3, none, 12, 0, 0, [], za_i168)
theorem zm_168_t : za_MT 168 = some zm_168 := rfl
/-- a number lies on the tape, m bytes of it, from n on -/
def yfC (v : Int32) (m n : Nat) (H H' : zp_H) : Prop := (H'.2.1 0 1).toInt = n + m ∧ (∀ j, j < m → H'.2.1 1 (n + j) = zp_nar 1 (v >>> (Int32.ofInt (8 * (m - 1 - j) : Nat) &&& 31)).toInt8.toInt32) ∧ (∀ k, k < n → H'.2.1 1 k = H.2.1 1 k) ∧ ∀ p k, p ≠ 0 → p ≠ 1 → H'.2.1 p k = H.2.1 p k

set_option maxRecDepth 8000 in
theorem yfC_s {v u : Int32} {m n : Nat} {H H' : zp_H} (h1 : (H.2.1 0 1).toInt = n) (h : yfC v m (n + 1) (zw_I (zw_I H 1 (H.2.1 0 1).toInt.toNat (zp_nar 1 (v >>> (Int32.ofInt (8 * m : Nat) &&& 31)).toInt8.toInt32)) 0 1 u) H') : yfC v (m + 1) n H H' := by
  obtain ⟨a, b, c, o⟩ := h
  have e : (H.2.1 0 1).toInt.toNat = n := by omega
  refine ⟨by omega, fun j hj => ?_, fun k hk => ?_, fun p k hp1 hp2 => (o p k hp1 hp2).trans ((y_ne (fun h9 => hp1 h9.1)).trans (y_ne (fun h9 => hp2 h9.1)))⟩
  · by_cases hj0 : j = 0
    · subst hj0
      rw [Nat.add_zero, c n (by omega), show m + 1 - 1 - 0 = m from rfl]
      refine (y_ne (fun h9 => absurd h9.1 (by decide))).trans ?_
      rw [e]
      exact zw_eq
    · have h9 := b (j - 1) (by omega)
      rw [show n + 1 + (j - 1) = n + j by omega, show m - 1 - (j - 1) = m + 1 - 1 - j by omega] at h9
      exact h9
  · rw [c k (by omega)]
    refine (y_ne (fun h9 => absurd h9.1 (by decide))).trans (y_ne (fun h9 => ?_))
    have := h9.2
    omega

set_option maxRecDepth 8000 in
theorem yfC0 {L : Nat} {σ : Nat → Int32} {d : Nat} {v s : Int32} {P : zp_X → Prop} {n : Nat} {H : zp_H} {lv : zp_LV} (W : zw_W H) (h1 : (H.2.1 0 1).toInt = n) (hn : n + 0 ≤ 700) (l0 : zp_get lv 0 = some (.inr (.inr (some 1)))) (l1 : zp_get lv 1 = some (.inl v)) (l2 : zp_get lv 2 = some (.inl s)) (hs : s = Int32.ofInt (-8)) (hk : ∀ H', zw_W H' → yfC v 0 n H H' → P (.inl none, H')) : zs_Safe L σ P zm_18 [] d (3, lv, [], H, (0, 0)) := by
  subst hs
  refine zw_ld (n := 1) (k := 2) (f := zp_isI) (pc' := 4) rfl rfl l2 rfl rfl ?_
  refine zw_blt1 (g := 46) (pc' := 7) rfl rfl rfl (rfl : _ = (-8 : Int)) (fun hb => ?_) (fun h9 => absurd h9 (by decide))
  refine zw_rn rfl rfl ?_
  exact hk H W ⟨by omega, fun j hj => by omega, fun _ _ => rfl, fun _ _ _ _ => rfl⟩

set_option maxRecDepth 8000 in
theorem yfC1 {L : Nat} {σ : Nat → Int32} {d : Nat} {v s : Int32} {P : zp_X → Prop} {n : Nat} {H : zp_H} {lv : zp_LV} (W : zw_W H) (h1 : (H.2.1 0 1).toInt = n) (hn : n + 1 ≤ 700) (l0 : zp_get lv 0 = some (.inr (.inr (some 1)))) (l1 : zp_get lv 1 = some (.inl v)) (l2 : zp_get lv 2 = some (.inl s)) (hs : s = Int32.ofInt (0)) (hk : ∀ H', zw_W H' → yfC v 1 n H H' → P (.inl none, H')) : zs_Safe L σ P zm_18 [] d (3, lv, [], H, (0, 0)) := by
  subst hs
  refine zw_ld (n := 1) (k := 2) (f := zp_isI) (pc' := 4) rfl rfl l2 rfl rfl ?_
  refine zw_blt1 (g := 46) (pc' := 7) rfl rfl rfl (rfl : _ = (0 : Int)) (fun h9 => absurd h9 (by decide)) (fun hb => ?_)
  refine zw_ld (n := 1) (k := 0) (f := zp_isR) (pc' := 8) rfl rfl l0 rfl rfl ?_
  refine zw_gI (q := 0) (pc' := 11) W rfl rfl rfl rfl rfl rfl ?_
  refine zw_s (pc' := 14) rfl rfl ?_
  refine zw_bge2 (g := 46) (pc' := 17) rfl rfl rfl rfl (rfl : _ = (700 : Int)) (fun h7 => ?_) (fun h7 => ?_)
  · omega
  · have e1 : (H.2.1 0 1 + Int32.ofInt 1).toInt = n + 1 := by rw [zw_p1 (by omega)]; omega
    refine zw_ld (n := 1) (k := 0) (f := zp_isR) (pc' := 18) rfl rfl l0 rfl rfl ?_
    refine zw_gR (q := 0) (pc' := 21) W rfl rfl rfl rfl (W.2 0 0 _ rfl) rfl ?_
    refine zw_ld (n := 1) (k := 0) (f := zp_isR) (pc' := 22) rfl rfl l0 rfl rfl ?_
    refine zw_gI (q := 0) (pc' := 25) W rfl rfl rfl rfl rfl rfl ?_
    refine zw_ld (n := 1) (k := 1) (f := zp_isI) (pc' := 26) rfl rfl l1 rfl rfl ?_
    refine zw_ld (n := 1) (k := 2) (f := zp_isI) (pc' := 27) rfl rfl l2 rfl rfl ?_
    refine zw_ishr (pc' := 28) rfl rfl ?_
    refine zw_s (pc' := 29) rfl rfl ?_
    refine zw_bs (q := 1) (pc' := 30) W rfl rfl (by decide) (⟨by omega, by show _ < ((700 : Nat) : Int); omega⟩) rfl ?_
    refine zw_ld (n := 1) (k := 0) (f := zp_isR) (pc' := 31) rfl rfl l0 rfl rfl ?_
    refine zw_s (pc' := 32) rfl rfl ?_
    refine zw_gI (q := 0) (pc' := 35) W rfl rfl rfl rfl (zw_ne rfl rfl) rfl ?_
    refine zw_s (pc' := 36) rfl rfl ?_
    refine zw_iadd (pc' := 37) rfl rfl ?_
    refine zw_pI (q := 0) (pc' := 40) W rfl rfl rfl rfl rfl rfl ?_
    refine zw_ii (pc' := 43) rfl l2 rfl rfl ?_
    refine zw_s (pc' := 3) rfl rfl ?_
    exact yfC0 (n := n + 1) (zw_W_I (zw_W_I W)) ((congrArg Int32.toInt zw_eq).trans e1) (by omega) (zw_gt l0 rfl rfl) (zw_gt l1 rfl rfl) zw_g1 (by decide) (fun H' W' h => hk H' W' (yfC_s h1 h))

set_option maxRecDepth 8000 in
theorem yfC2 {L : Nat} {σ : Nat → Int32} {d : Nat} {v s : Int32} {P : zp_X → Prop} {n : Nat} {H : zp_H} {lv : zp_LV} (W : zw_W H) (h1 : (H.2.1 0 1).toInt = n) (hn : n + 2 ≤ 700) (l0 : zp_get lv 0 = some (.inr (.inr (some 1)))) (l1 : zp_get lv 1 = some (.inl v)) (l2 : zp_get lv 2 = some (.inl s)) (hs : s = Int32.ofInt (8)) (hk : ∀ H', zw_W H' → yfC v 2 n H H' → P (.inl none, H')) : zs_Safe L σ P zm_18 [] d (3, lv, [], H, (0, 0)) := by
  subst hs
  refine zw_ld (n := 1) (k := 2) (f := zp_isI) (pc' := 4) rfl rfl l2 rfl rfl ?_
  refine zw_blt1 (g := 46) (pc' := 7) rfl rfl rfl (rfl : _ = (8 : Int)) (fun h9 => absurd h9 (by decide)) (fun hb => ?_)
  refine zw_ld (n := 1) (k := 0) (f := zp_isR) (pc' := 8) rfl rfl l0 rfl rfl ?_
  refine zw_gI (q := 0) (pc' := 11) W rfl rfl rfl rfl rfl rfl ?_
  refine zw_s (pc' := 14) rfl rfl ?_
  refine zw_bge2 (g := 46) (pc' := 17) rfl rfl rfl rfl (rfl : _ = (700 : Int)) (fun h7 => ?_) (fun h7 => ?_)
  · omega
  · have e1 : (H.2.1 0 1 + Int32.ofInt 1).toInt = n + 1 := by rw [zw_p1 (by omega)]; omega
    refine zw_ld (n := 1) (k := 0) (f := zp_isR) (pc' := 18) rfl rfl l0 rfl rfl ?_
    refine zw_gR (q := 0) (pc' := 21) W rfl rfl rfl rfl (W.2 0 0 _ rfl) rfl ?_
    refine zw_ld (n := 1) (k := 0) (f := zp_isR) (pc' := 22) rfl rfl l0 rfl rfl ?_
    refine zw_gI (q := 0) (pc' := 25) W rfl rfl rfl rfl rfl rfl ?_
    refine zw_ld (n := 1) (k := 1) (f := zp_isI) (pc' := 26) rfl rfl l1 rfl rfl ?_
    refine zw_ld (n := 1) (k := 2) (f := zp_isI) (pc' := 27) rfl rfl l2 rfl rfl ?_
    refine zw_ishr (pc' := 28) rfl rfl ?_
    refine zw_s (pc' := 29) rfl rfl ?_
    refine zw_bs (q := 1) (pc' := 30) W rfl rfl (by decide) (⟨by omega, by show _ < ((700 : Nat) : Int); omega⟩) rfl ?_
    refine zw_ld (n := 1) (k := 0) (f := zp_isR) (pc' := 31) rfl rfl l0 rfl rfl ?_
    refine zw_s (pc' := 32) rfl rfl ?_
    refine zw_gI (q := 0) (pc' := 35) W rfl rfl rfl rfl (zw_ne rfl rfl) rfl ?_
    refine zw_s (pc' := 36) rfl rfl ?_
    refine zw_iadd (pc' := 37) rfl rfl ?_
    refine zw_pI (q := 0) (pc' := 40) W rfl rfl rfl rfl rfl rfl ?_
    refine zw_ii (pc' := 43) rfl l2 rfl rfl ?_
    refine zw_s (pc' := 3) rfl rfl ?_
    exact yfC1 (n := n + 1) (zw_W_I (zw_W_I W)) ((congrArg Int32.toInt zw_eq).trans e1) (by omega) (zw_gt l0 rfl rfl) (zw_gt l1 rfl rfl) zw_g1 (by decide) (fun H' W' h => hk H' W' (yfC_s h1 h))

set_option maxRecDepth 8000 in
theorem yfC3 {L : Nat} {σ : Nat → Int32} {d : Nat} {v s : Int32} {P : zp_X → Prop} {n : Nat} {H : zp_H} {lv : zp_LV} (W : zw_W H) (h1 : (H.2.1 0 1).toInt = n) (hn : n + 3 ≤ 700) (l0 : zp_get lv 0 = some (.inr (.inr (some 1)))) (l1 : zp_get lv 1 = some (.inl v)) (l2 : zp_get lv 2 = some (.inl s)) (hs : s = Int32.ofInt (16)) (hk : ∀ H', zw_W H' → yfC v 3 n H H' → P (.inl none, H')) : zs_Safe L σ P zm_18 [] d (3, lv, [], H, (0, 0)) := by
  subst hs
  refine zw_ld (n := 1) (k := 2) (f := zp_isI) (pc' := 4) rfl rfl l2 rfl rfl ?_
  refine zw_blt1 (g := 46) (pc' := 7) rfl rfl rfl (rfl : _ = (16 : Int)) (fun h9 => absurd h9 (by decide)) (fun hb => ?_)
  refine zw_ld (n := 1) (k := 0) (f := zp_isR) (pc' := 8) rfl rfl l0 rfl rfl ?_
  refine zw_gI (q := 0) (pc' := 11) W rfl rfl rfl rfl rfl rfl ?_
  refine zw_s (pc' := 14) rfl rfl ?_
  refine zw_bge2 (g := 46) (pc' := 17) rfl rfl rfl rfl (rfl : _ = (700 : Int)) (fun h7 => ?_) (fun h7 => ?_)
  · omega
  · have e1 : (H.2.1 0 1 + Int32.ofInt 1).toInt = n + 1 := by rw [zw_p1 (by omega)]; omega
    refine zw_ld (n := 1) (k := 0) (f := zp_isR) (pc' := 18) rfl rfl l0 rfl rfl ?_
    refine zw_gR (q := 0) (pc' := 21) W rfl rfl rfl rfl (W.2 0 0 _ rfl) rfl ?_
    refine zw_ld (n := 1) (k := 0) (f := zp_isR) (pc' := 22) rfl rfl l0 rfl rfl ?_
    refine zw_gI (q := 0) (pc' := 25) W rfl rfl rfl rfl rfl rfl ?_
    refine zw_ld (n := 1) (k := 1) (f := zp_isI) (pc' := 26) rfl rfl l1 rfl rfl ?_
    refine zw_ld (n := 1) (k := 2) (f := zp_isI) (pc' := 27) rfl rfl l2 rfl rfl ?_
    refine zw_ishr (pc' := 28) rfl rfl ?_
    refine zw_s (pc' := 29) rfl rfl ?_
    refine zw_bs (q := 1) (pc' := 30) W rfl rfl (by decide) (⟨by omega, by show _ < ((700 : Nat) : Int); omega⟩) rfl ?_
    refine zw_ld (n := 1) (k := 0) (f := zp_isR) (pc' := 31) rfl rfl l0 rfl rfl ?_
    refine zw_s (pc' := 32) rfl rfl ?_
    refine zw_gI (q := 0) (pc' := 35) W rfl rfl rfl rfl (zw_ne rfl rfl) rfl ?_
    refine zw_s (pc' := 36) rfl rfl ?_
    refine zw_iadd (pc' := 37) rfl rfl ?_
    refine zw_pI (q := 0) (pc' := 40) W rfl rfl rfl rfl rfl rfl ?_
    refine zw_ii (pc' := 43) rfl l2 rfl rfl ?_
    refine zw_s (pc' := 3) rfl rfl ?_
    exact yfC2 (n := n + 1) (zw_W_I (zw_W_I W)) ((congrArg Int32.toInt zw_eq).trans e1) (by omega) (zw_gt l0 rfl rfl) (zw_gt l1 rfl rfl) zw_g1 (by decide) (fun H' W' h => hk H' W' (yfC_s h1 h))

set_option maxRecDepth 8000 in
theorem yfC4 {L : Nat} {σ : Nat → Int32} {d : Nat} {v s : Int32} {P : zp_X → Prop} {n : Nat} {H : zp_H} {lv : zp_LV} (W : zw_W H) (h1 : (H.2.1 0 1).toInt = n) (hn : n + 4 ≤ 700) (l0 : zp_get lv 0 = some (.inr (.inr (some 1)))) (l1 : zp_get lv 1 = some (.inl v)) (l2 : zp_get lv 2 = some (.inl s)) (hs : s = Int32.ofInt (24)) (hk : ∀ H', zw_W H' → yfC v 4 n H H' → P (.inl none, H')) : zs_Safe L σ P zm_18 [] d (3, lv, [], H, (0, 0)) := by
  subst hs
  refine zw_ld (n := 1) (k := 2) (f := zp_isI) (pc' := 4) rfl rfl l2 rfl rfl ?_
  refine zw_blt1 (g := 46) (pc' := 7) rfl rfl rfl (rfl : _ = (24 : Int)) (fun h9 => absurd h9 (by decide)) (fun hb => ?_)
  refine zw_ld (n := 1) (k := 0) (f := zp_isR) (pc' := 8) rfl rfl l0 rfl rfl ?_
  refine zw_gI (q := 0) (pc' := 11) W rfl rfl rfl rfl rfl rfl ?_
  refine zw_s (pc' := 14) rfl rfl ?_
  refine zw_bge2 (g := 46) (pc' := 17) rfl rfl rfl rfl (rfl : _ = (700 : Int)) (fun h7 => ?_) (fun h7 => ?_)
  · omega
  · have e1 : (H.2.1 0 1 + Int32.ofInt 1).toInt = n + 1 := by rw [zw_p1 (by omega)]; omega
    refine zw_ld (n := 1) (k := 0) (f := zp_isR) (pc' := 18) rfl rfl l0 rfl rfl ?_
    refine zw_gR (q := 0) (pc' := 21) W rfl rfl rfl rfl (W.2 0 0 _ rfl) rfl ?_
    refine zw_ld (n := 1) (k := 0) (f := zp_isR) (pc' := 22) rfl rfl l0 rfl rfl ?_
    refine zw_gI (q := 0) (pc' := 25) W rfl rfl rfl rfl rfl rfl ?_
    refine zw_ld (n := 1) (k := 1) (f := zp_isI) (pc' := 26) rfl rfl l1 rfl rfl ?_
    refine zw_ld (n := 1) (k := 2) (f := zp_isI) (pc' := 27) rfl rfl l2 rfl rfl ?_
    refine zw_ishr (pc' := 28) rfl rfl ?_
    refine zw_s (pc' := 29) rfl rfl ?_
    refine zw_bs (q := 1) (pc' := 30) W rfl rfl (by decide) (⟨by omega, by show _ < ((700 : Nat) : Int); omega⟩) rfl ?_
    refine zw_ld (n := 1) (k := 0) (f := zp_isR) (pc' := 31) rfl rfl l0 rfl rfl ?_
    refine zw_s (pc' := 32) rfl rfl ?_
    refine zw_gI (q := 0) (pc' := 35) W rfl rfl rfl rfl (zw_ne rfl rfl) rfl ?_
    refine zw_s (pc' := 36) rfl rfl ?_
    refine zw_iadd (pc' := 37) rfl rfl ?_
    refine zw_pI (q := 0) (pc' := 40) W rfl rfl rfl rfl rfl rfl ?_
    refine zw_ii (pc' := 43) rfl l2 rfl rfl ?_
    refine zw_s (pc' := 3) rfl rfl ?_
    exact yfC3 (n := n + 1) (zw_W_I (zw_W_I W)) ((congrArg Int32.toInt zw_eq).trans e1) (by omega) (zw_gt l0 rfl rfl) (zw_gt l1 rfl rfl) zw_g1 (by decide) (fun H' W' h => hk H' W' (yfC_s h1 h))

set_option maxRecDepth 8000 in
theorem yfC_put {L : Nat} {σ : Nat → Int32} {d : Nat} {v : Int32} {n : Nat} {H : zp_H} (W : zw_W H) (h1 : (H.2.1 0 1).toInt = n) (hn : n + 4 ≤ 700) : ∃ X, zp_Call L σ (d + 1) 18 [.inr (.inr (some 1)), .inl v] H X ∧ ∃ H', X = (.inl none, H') ∧ zw_W H' ∧ yfC v 4 n H H' := by
  refine zw_met zm_18_t rfl rfl ?_
  refine zw_s (pc' := 2) rfl rfl ?_
  refine zw_st (n := 1) (k := 2) (f := zp_isI) (pc' := 3) rfl rfl rfl rfl rfl ?_
  exact yfC4 W h1 hn (zw_gt rfl rfl rfl) (zw_gt rfl rfl rfl) zw_g1 rfl (fun H' W' h => ⟨H', rfl, W', h⟩)

set_option maxRecDepth 8000 in
theorem yfC_feed {L : Nat} {σ : Nat → Int32} {d : Nat} {x1 x2 x3 x4 x5 : Int32} {n : Nat} {H : zp_H} (W : zw_W H) (h1 : (H.2.1 0 1).toInt = n) (hn : n ≤ 700) : ∃ X, zp_Call L σ (d + 2) 17 [.inr (.inr (some 1)), .inl x1, .inl x2, .inl x3, .inl x4, .inl x5] H X ∧ ∃ H' u, X = (.inl (some (.inl u)), H') ∧ zw_W H' ∧ (n + 20 ≤ 700 → ∃ Ha Hb Hc Hd, yfC x1 4 n (H) Ha ∧ yfC x2 4 (n + 4) Ha Hb ∧ yfC x3 4 (n + 8) Hb Hc ∧ yfC x4 4 (n + 12) Hc Hd ∧ yfC x5 4 (n + 16) Hd H') ∧ (¬ n + 20 ≤ 700 → H' = H) := by
  refine zw_met zm_17_t rfl rfl ?_
  refine zw_ld (n := 1) (k := 0) (f := zp_isR) (pc' := 1) rfl rfl rfl rfl rfl ?_
  refine zw_gI (q := 0) (pc' := 4) W rfl rfl rfl rfl rfl rfl ?_
  refine zw_s (pc' := 7) rfl rfl ?_
  refine zw_ble2 (g := 12) (pc' := 10) rfl rfl rfl rfl (rfl : _ = (680 : Int)) (fun h7 => ?_) (fun h7 => ?_)
  · obtain ⟨_, c0, H1, rfl, W1, k0⟩ := yfC_put (L := L) (σ := σ) (d := d) (v := x1) (n := n) (H := H) W h1 (by omega)
    refine zw_ld (n := 1) (k := 0) (f := zp_isR) (pc' := 13) rfl rfl rfl rfl rfl ?_
    refine zw_ld (n := 1) (k := 1) (f := zp_isI) (pc' := 14) rfl rfl rfl rfl rfl ?_
    refine zw_cn (pc' := 17) (zw_cv (q := 0) (Y := zm_18) W.1 rfl rfl zm_18_t rfl rfl) rfl rfl rfl rfl rfl (c0) ?_
    obtain ⟨_, c1, H2, rfl, W2, k1⟩ := yfC_put (L := L) (σ := σ) (d := d) (v := x2) (n := n + 4) (H := H1) W1 k0.1 (by omega)
    refine zw_ld (n := 1) (k := 0) (f := zp_isR) (pc' := 18) rfl rfl rfl rfl rfl ?_
    refine zw_ld (n := 1) (k := 2) (f := zp_isI) (pc' := 19) rfl rfl rfl rfl rfl ?_
    refine zw_cn (pc' := 22) (zw_cv (q := 0) (Y := zm_18) W1.1 rfl rfl zm_18_t rfl rfl) rfl rfl rfl rfl rfl (c1) ?_
    obtain ⟨_, c2, H3, rfl, W3, k2⟩ := yfC_put (L := L) (σ := σ) (d := d) (v := x3) (n := n + 8) (H := H2) W2 k1.1 (by omega)
    refine zw_ld (n := 1) (k := 0) (f := zp_isR) (pc' := 23) rfl rfl rfl rfl rfl ?_
    refine zw_ld (n := 1) (k := 3) (f := zp_isI) (pc' := 24) rfl rfl rfl rfl rfl ?_
    refine zw_cn (pc' := 27) (zw_cv (q := 0) (Y := zm_18) W2.1 rfl rfl zm_18_t rfl rfl) rfl rfl rfl rfl rfl (c2) ?_
    obtain ⟨_, c3, H4, rfl, W4, k3⟩ := yfC_put (L := L) (σ := σ) (d := d) (v := x4) (n := n + 12) (H := H3) W3 k2.1 (by omega)
    refine zw_ld (n := 1) (k := 0) (f := zp_isR) (pc' := 28) rfl rfl rfl rfl rfl ?_
    refine zw_ld (n := 2) (k := 4) (f := zp_isI) (pc' := 30) rfl rfl rfl rfl rfl ?_
    refine zw_cn (pc' := 33) (zw_cv (q := 0) (Y := zm_18) W3.1 rfl rfl zm_18_t rfl rfl) rfl rfl rfl rfl rfl (c3) ?_
    obtain ⟨_, c4, H5, rfl, W5, k4⟩ := yfC_put (L := L) (σ := σ) (d := d) (v := x5) (n := n + 16) (H := H4) W4 k3.1 (by omega)
    refine zw_ld (n := 1) (k := 0) (f := zp_isR) (pc' := 34) rfl rfl rfl rfl rfl ?_
    refine zw_ld (n := 2) (k := 5) (f := zp_isI) (pc' := 36) rfl rfl rfl rfl rfl ?_
    refine zw_cn (pc' := 39) (zw_cv (q := 0) (Y := zm_18) W4.1 rfl rfl zm_18_t rfl rfl) rfl rfl rfl rfl rfl (c4) ?_
    refine zw_ld (n := 1) (k := 0) (f := zp_isR) (pc' := 40) rfl rfl rfl rfl rfl ?_
    refine zw_gI (q := 0) (pc' := 43) W5 rfl rfl rfl rfl rfl rfl ?_
    refine zw_ri rfl rfl ?_
    exact ⟨H5, _, rfl, W5, fun _ => ⟨H1, H2, H3, H4, k0, k1, k2, k3, k4⟩, fun h9 => by omega⟩
  · refine zw_s (pc' := 11) rfl rfl ?_
    refine zw_ri rfl rfl ?_
    exact ⟨H, _, rfl, W, fun h9 => by omega, fun _ => rfl⟩

/-- a number lies on the tape, m bytes of it, from n on -/
def yfR (v : Int32) (m n : Nat) (H H' : zp_H) : Prop := (H'.2.1 72 22).toInt = n + m ∧ (∀ j, j < m → H'.2.1 81 (n + j) = zp_nar 0 ((v >>> (Int32.ofInt (8 * (m - 1 - j) : Nat) &&& 31)) &&& (Int16.ofInt 255).toInt32)) ∧ (∀ k, k < n → H'.2.1 81 k = H.2.1 81 k) ∧ ∀ p k, p ≠ 72 → p ≠ 81 → H'.2.1 p k = H.2.1 p k

set_option maxRecDepth 8000 in
theorem yfR_s {v u : Int32} {m n : Nat} {H H' : zp_H} (h1 : (H.2.1 72 22).toInt = n) (h : yfR v m (n + 1) (zw_I (zw_I H 81 (H.2.1 72 22).toInt.toNat (zp_nar 0 ((v >>> (Int32.ofInt (8 * m : Nat) &&& 31)) &&& (Int16.ofInt 255).toInt32))) 72 22 u) H') : yfR v (m + 1) n H H' := by
  obtain ⟨a, b, c, o⟩ := h
  have e : (H.2.1 72 22).toInt.toNat = n := by omega
  refine ⟨by omega, fun j hj => ?_, fun k hk => ?_, fun p k hp1 hp2 => (o p k hp1 hp2).trans ((y_ne (fun h9 => hp1 h9.1)).trans (y_ne (fun h9 => hp2 h9.1)))⟩
  · by_cases hj0 : j = 0
    · subst hj0
      rw [Nat.add_zero, c n (by omega), show m + 1 - 1 - 0 = m from rfl]
      refine (y_ne (fun h9 => absurd h9.1 (by decide))).trans ?_
      rw [e]
      exact zw_eq
    · have h9 := b (j - 1) (by omega)
      rw [show n + 1 + (j - 1) = n + j by omega, show m - 1 - (j - 1) = m + 1 - 1 - j by omega] at h9
      exact h9
  · rw [c k (by omega)]
    refine (y_ne (fun h9 => absurd h9.1 (by decide))).trans (y_ne (fun h9 => ?_))
    have := h9.2
    omega

set_option maxRecDepth 8000 in
theorem yfR0 {L : Nat} {σ : Nat → Int32} {d : Nat} {v s : Int32} {P : zp_X → Prop} {n : Nat} {H : zp_H} {lv : zp_LV} (W : zw_W H) (h1 : (H.2.1 72 22).toInt = n) (hn : n + 0 ≤ 700) (l0 : zp_get lv 0 = some (.inr (.inr (some 73)))) (l1 : zp_get lv 1 = some (.inl v)) (l2 : zp_get lv 2 = some (.inl s)) (hs : s = Int32.ofInt (-8)) (hk : ∀ H', zw_W H' → yfR v 0 n H H' → P (.inl none, H')) : zs_Safe L σ P zm_168 [] d (3, lv, [], H, (0, 0)) := by
  subst hs
  refine zw_ld (n := 1) (k := 2) (f := zp_isI) (pc' := 4) rfl rfl l2 rfl rfl ?_
  refine zw_blt1 (g := 39) (pc' := 7) rfl rfl rfl (rfl : _ = (-8 : Int)) (fun hb => ?_) (fun h9 => absurd h9 (by decide))
  refine zw_rn rfl rfl ?_
  exact hk H W ⟨by omega, fun j hj => by omega, fun _ _ => rfl, fun _ _ _ _ => rfl⟩

set_option maxRecDepth 8000 in
theorem yfR1 {L : Nat} {σ : Nat → Int32} {d : Nat} {v s : Int32} {P : zp_X → Prop} {n : Nat} {H : zp_H} {lv : zp_LV} (W : zw_W H) (h1 : (H.2.1 72 22).toInt = n) (hn : n + 1 ≤ 700) (l0 : zp_get lv 0 = some (.inr (.inr (some 73)))) (l1 : zp_get lv 1 = some (.inl v)) (l2 : zp_get lv 2 = some (.inl s)) (hs : s = Int32.ofInt (0)) (hk : ∀ H', zw_W H' → yfR v 1 n H H' → P (.inl none, H')) : zs_Safe L σ P zm_168 [] d (3, lv, [], H, (0, 0)) := by
  subst hs
  refine zw_ld (n := 1) (k := 2) (f := zp_isI) (pc' := 4) rfl rfl l2 rfl rfl ?_
  refine zw_blt1 (g := 39) (pc' := 7) rfl rfl rfl (rfl : _ = (0 : Int)) (fun h9 => absurd h9 (by decide)) (fun hb => ?_)
  have e1 : (H.2.1 72 22 + Int32.ofInt 1).toInt = n + 1 := by rw [zw_p1 (by omega)]; omega
  refine zw_ld (n := 1) (k := 0) (f := zp_isR) (pc' := 8) rfl rfl l0 rfl rfl ?_
  refine zw_gR (q := 72) (pc' := 11) W rfl rfl rfl rfl (W.2 72 21 _ rfl) rfl ?_
  refine zw_ld (n := 1) (k := 0) (f := zp_isR) (pc' := 12) rfl rfl l0 rfl rfl ?_
  refine zw_gI (q := 72) (pc' := 15) W rfl rfl rfl rfl rfl rfl ?_
  refine zw_ld (n := 1) (k := 1) (f := zp_isI) (pc' := 16) rfl rfl l1 rfl rfl ?_
  refine zw_ld (n := 1) (k := 2) (f := zp_isI) (pc' := 17) rfl rfl l2 rfl rfl ?_
  refine zw_ishr (pc' := 18) rfl rfl ?_
  refine zw_s (pc' := 21) rfl rfl ?_
  refine zw_iand (pc' := 22) rfl rfl ?_
  refine zw_is (q := 81) (pc' := 23) W rfl rfl (by decide) (⟨by omega, by show _ < ((700 : Nat) : Int); omega⟩) rfl ?_
  refine zw_ld (n := 1) (k := 0) (f := zp_isR) (pc' := 24) rfl rfl l0 rfl rfl ?_
  refine zw_s (pc' := 25) rfl rfl ?_
  refine zw_gI (q := 72) (pc' := 28) W rfl rfl rfl rfl (zw_ne rfl rfl) rfl ?_
  refine zw_s (pc' := 29) rfl rfl ?_
  refine zw_iadd (pc' := 30) rfl rfl ?_
  refine zw_pI (q := 72) (pc' := 33) W rfl rfl rfl rfl rfl rfl ?_
  refine zw_ii (pc' := 36) rfl l2 rfl rfl ?_
  refine zw_s (pc' := 3) rfl rfl ?_
  exact yfR0 (n := n + 1) (zw_W_I (zw_W_I W)) ((congrArg Int32.toInt zw_eq).trans e1) (by omega) (zw_gt l0 rfl rfl) (zw_gt l1 rfl rfl) zw_g1 (by decide) (fun H' W' h => hk H' W' (yfR_s h1 h))

set_option maxRecDepth 8000 in
theorem yfR2 {L : Nat} {σ : Nat → Int32} {d : Nat} {v s : Int32} {P : zp_X → Prop} {n : Nat} {H : zp_H} {lv : zp_LV} (W : zw_W H) (h1 : (H.2.1 72 22).toInt = n) (hn : n + 2 ≤ 700) (l0 : zp_get lv 0 = some (.inr (.inr (some 73)))) (l1 : zp_get lv 1 = some (.inl v)) (l2 : zp_get lv 2 = some (.inl s)) (hs : s = Int32.ofInt (8)) (hk : ∀ H', zw_W H' → yfR v 2 n H H' → P (.inl none, H')) : zs_Safe L σ P zm_168 [] d (3, lv, [], H, (0, 0)) := by
  subst hs
  refine zw_ld (n := 1) (k := 2) (f := zp_isI) (pc' := 4) rfl rfl l2 rfl rfl ?_
  refine zw_blt1 (g := 39) (pc' := 7) rfl rfl rfl (rfl : _ = (8 : Int)) (fun h9 => absurd h9 (by decide)) (fun hb => ?_)
  have e1 : (H.2.1 72 22 + Int32.ofInt 1).toInt = n + 1 := by rw [zw_p1 (by omega)]; omega
  refine zw_ld (n := 1) (k := 0) (f := zp_isR) (pc' := 8) rfl rfl l0 rfl rfl ?_
  refine zw_gR (q := 72) (pc' := 11) W rfl rfl rfl rfl (W.2 72 21 _ rfl) rfl ?_
  refine zw_ld (n := 1) (k := 0) (f := zp_isR) (pc' := 12) rfl rfl l0 rfl rfl ?_
  refine zw_gI (q := 72) (pc' := 15) W rfl rfl rfl rfl rfl rfl ?_
  refine zw_ld (n := 1) (k := 1) (f := zp_isI) (pc' := 16) rfl rfl l1 rfl rfl ?_
  refine zw_ld (n := 1) (k := 2) (f := zp_isI) (pc' := 17) rfl rfl l2 rfl rfl ?_
  refine zw_ishr (pc' := 18) rfl rfl ?_
  refine zw_s (pc' := 21) rfl rfl ?_
  refine zw_iand (pc' := 22) rfl rfl ?_
  refine zw_is (q := 81) (pc' := 23) W rfl rfl (by decide) (⟨by omega, by show _ < ((700 : Nat) : Int); omega⟩) rfl ?_
  refine zw_ld (n := 1) (k := 0) (f := zp_isR) (pc' := 24) rfl rfl l0 rfl rfl ?_
  refine zw_s (pc' := 25) rfl rfl ?_
  refine zw_gI (q := 72) (pc' := 28) W rfl rfl rfl rfl (zw_ne rfl rfl) rfl ?_
  refine zw_s (pc' := 29) rfl rfl ?_
  refine zw_iadd (pc' := 30) rfl rfl ?_
  refine zw_pI (q := 72) (pc' := 33) W rfl rfl rfl rfl rfl rfl ?_
  refine zw_ii (pc' := 36) rfl l2 rfl rfl ?_
  refine zw_s (pc' := 3) rfl rfl ?_
  exact yfR1 (n := n + 1) (zw_W_I (zw_W_I W)) ((congrArg Int32.toInt zw_eq).trans e1) (by omega) (zw_gt l0 rfl rfl) (zw_gt l1 rfl rfl) zw_g1 (by decide) (fun H' W' h => hk H' W' (yfR_s h1 h))

set_option maxRecDepth 8000 in
theorem yfR3 {L : Nat} {σ : Nat → Int32} {d : Nat} {v s : Int32} {P : zp_X → Prop} {n : Nat} {H : zp_H} {lv : zp_LV} (W : zw_W H) (h1 : (H.2.1 72 22).toInt = n) (hn : n + 3 ≤ 700) (l0 : zp_get lv 0 = some (.inr (.inr (some 73)))) (l1 : zp_get lv 1 = some (.inl v)) (l2 : zp_get lv 2 = some (.inl s)) (hs : s = Int32.ofInt (16)) (hk : ∀ H', zw_W H' → yfR v 3 n H H' → P (.inl none, H')) : zs_Safe L σ P zm_168 [] d (3, lv, [], H, (0, 0)) := by
  subst hs
  refine zw_ld (n := 1) (k := 2) (f := zp_isI) (pc' := 4) rfl rfl l2 rfl rfl ?_
  refine zw_blt1 (g := 39) (pc' := 7) rfl rfl rfl (rfl : _ = (16 : Int)) (fun h9 => absurd h9 (by decide)) (fun hb => ?_)
  have e1 : (H.2.1 72 22 + Int32.ofInt 1).toInt = n + 1 := by rw [zw_p1 (by omega)]; omega
  refine zw_ld (n := 1) (k := 0) (f := zp_isR) (pc' := 8) rfl rfl l0 rfl rfl ?_
  refine zw_gR (q := 72) (pc' := 11) W rfl rfl rfl rfl (W.2 72 21 _ rfl) rfl ?_
  refine zw_ld (n := 1) (k := 0) (f := zp_isR) (pc' := 12) rfl rfl l0 rfl rfl ?_
  refine zw_gI (q := 72) (pc' := 15) W rfl rfl rfl rfl rfl rfl ?_
  refine zw_ld (n := 1) (k := 1) (f := zp_isI) (pc' := 16) rfl rfl l1 rfl rfl ?_
  refine zw_ld (n := 1) (k := 2) (f := zp_isI) (pc' := 17) rfl rfl l2 rfl rfl ?_
  refine zw_ishr (pc' := 18) rfl rfl ?_
  refine zw_s (pc' := 21) rfl rfl ?_
  refine zw_iand (pc' := 22) rfl rfl ?_
  refine zw_is (q := 81) (pc' := 23) W rfl rfl (by decide) (⟨by omega, by show _ < ((700 : Nat) : Int); omega⟩) rfl ?_
  refine zw_ld (n := 1) (k := 0) (f := zp_isR) (pc' := 24) rfl rfl l0 rfl rfl ?_
  refine zw_s (pc' := 25) rfl rfl ?_
  refine zw_gI (q := 72) (pc' := 28) W rfl rfl rfl rfl (zw_ne rfl rfl) rfl ?_
  refine zw_s (pc' := 29) rfl rfl ?_
  refine zw_iadd (pc' := 30) rfl rfl ?_
  refine zw_pI (q := 72) (pc' := 33) W rfl rfl rfl rfl rfl rfl ?_
  refine zw_ii (pc' := 36) rfl l2 rfl rfl ?_
  refine zw_s (pc' := 3) rfl rfl ?_
  exact yfR2 (n := n + 1) (zw_W_I (zw_W_I W)) ((congrArg Int32.toInt zw_eq).trans e1) (by omega) (zw_gt l0 rfl rfl) (zw_gt l1 rfl rfl) zw_g1 (by decide) (fun H' W' h => hk H' W' (yfR_s h1 h))

set_option maxRecDepth 8000 in
theorem yfR4 {L : Nat} {σ : Nat → Int32} {d : Nat} {v s : Int32} {P : zp_X → Prop} {n : Nat} {H : zp_H} {lv : zp_LV} (W : zw_W H) (h1 : (H.2.1 72 22).toInt = n) (hn : n + 4 ≤ 700) (l0 : zp_get lv 0 = some (.inr (.inr (some 73)))) (l1 : zp_get lv 1 = some (.inl v)) (l2 : zp_get lv 2 = some (.inl s)) (hs : s = Int32.ofInt (24)) (hk : ∀ H', zw_W H' → yfR v 4 n H H' → P (.inl none, H')) : zs_Safe L σ P zm_168 [] d (3, lv, [], H, (0, 0)) := by
  subst hs
  refine zw_ld (n := 1) (k := 2) (f := zp_isI) (pc' := 4) rfl rfl l2 rfl rfl ?_
  refine zw_blt1 (g := 39) (pc' := 7) rfl rfl rfl (rfl : _ = (24 : Int)) (fun h9 => absurd h9 (by decide)) (fun hb => ?_)
  have e1 : (H.2.1 72 22 + Int32.ofInt 1).toInt = n + 1 := by rw [zw_p1 (by omega)]; omega
  refine zw_ld (n := 1) (k := 0) (f := zp_isR) (pc' := 8) rfl rfl l0 rfl rfl ?_
  refine zw_gR (q := 72) (pc' := 11) W rfl rfl rfl rfl (W.2 72 21 _ rfl) rfl ?_
  refine zw_ld (n := 1) (k := 0) (f := zp_isR) (pc' := 12) rfl rfl l0 rfl rfl ?_
  refine zw_gI (q := 72) (pc' := 15) W rfl rfl rfl rfl rfl rfl ?_
  refine zw_ld (n := 1) (k := 1) (f := zp_isI) (pc' := 16) rfl rfl l1 rfl rfl ?_
  refine zw_ld (n := 1) (k := 2) (f := zp_isI) (pc' := 17) rfl rfl l2 rfl rfl ?_
  refine zw_ishr (pc' := 18) rfl rfl ?_
  refine zw_s (pc' := 21) rfl rfl ?_
  refine zw_iand (pc' := 22) rfl rfl ?_
  refine zw_is (q := 81) (pc' := 23) W rfl rfl (by decide) (⟨by omega, by show _ < ((700 : Nat) : Int); omega⟩) rfl ?_
  refine zw_ld (n := 1) (k := 0) (f := zp_isR) (pc' := 24) rfl rfl l0 rfl rfl ?_
  refine zw_s (pc' := 25) rfl rfl ?_
  refine zw_gI (q := 72) (pc' := 28) W rfl rfl rfl rfl (zw_ne rfl rfl) rfl ?_
  refine zw_s (pc' := 29) rfl rfl ?_
  refine zw_iadd (pc' := 30) rfl rfl ?_
  refine zw_pI (q := 72) (pc' := 33) W rfl rfl rfl rfl rfl rfl ?_
  refine zw_ii (pc' := 36) rfl l2 rfl rfl ?_
  refine zw_s (pc' := 3) rfl rfl ?_
  exact yfR3 (n := n + 1) (zw_W_I (zw_W_I W)) ((congrArg Int32.toInt zw_eq).trans e1) (by omega) (zw_gt l0 rfl rfl) (zw_gt l1 rfl rfl) zw_g1 (by decide) (fun H' W' h => hk H' W' (yfR_s h1 h))

set_option maxRecDepth 8000 in
theorem yfR_put {L : Nat} {σ : Nat → Int32} {d : Nat} {v : Int32} {n : Nat} {H : zp_H} (W : zw_W H) (h1 : (H.2.1 72 22).toInt = n) (hn : n + 4 ≤ 700) : ∃ X, zp_Call L σ (d + 1) 168 [.inr (.inr (some 73)), .inl v] H X ∧ ∃ H', X = (.inl none, H') ∧ zw_W H' ∧ yfR v 4 n H H' := by
  refine zw_met zm_168_t rfl rfl ?_
  refine zw_s (pc' := 2) rfl rfl ?_
  refine zw_st (n := 1) (k := 2) (f := zp_isI) (pc' := 3) rfl rfl rfl rfl rfl ?_
  exact yfR4 W h1 hn (zw_gt rfl rfl rfl) (zw_gt rfl rfl rfl) zw_g1 rfl (fun H' W' h => ⟨H', rfl, W', h⟩)

set_option maxRecDepth 8000 in
theorem yfR_feed {L : Nat} {σ : Nat → Int32} {d : Nat} {x1 x2 x3 x4 x5 : Int32} {n : Nat} {H : zp_H} (W : zw_W H) (h1 : (H.2.1 72 22).toInt = n) (hn : n ≤ 700) : ∃ X, zp_Call L σ (d + 2) 167 [.inr (.inr (some 73)), .inl x1, .inl x2, .inl x3, .inl x4, .inl x5] H X ∧ ∃ H' u, X = (.inl (some (.inl u)), H') ∧ zw_W H' ∧ (n + 20 ≤ 700 → ∃ Ha Hb Hc Hd, yfR x1 4 n (zw_I H 72 0 (Int32.ofInt 0)) Ha ∧ yfR x2 4 (n + 4) Ha Hb ∧ yfR x3 4 (n + 8) Hb Hc ∧ yfR x4 4 (n + 12) Hc Hd ∧ yfR x5 4 (n + 16) Hd H') ∧ (¬ n + 20 ≤ 700 → H' = zw_I H 72 0 (Int32.ofInt 0)) := by
  refine zw_met zm_167_t rfl rfl ?_
  have g1 : ((zw_I H 72 0 (Int32.ofInt 0)).2.1 72 22).toInt = n := (congrArg Int32.toInt (zw_ne rfl rfl)).trans h1
  have g20 : ((zw_I H 72 0 (Int32.ofInt 0)).2.1 72 22 + Int32.ofInt 20).toInt = n + 20 := by
    rw [zq_add (by rw [g1]; show _ ≤ (n : Int) + 20; omega) (by rw [g1]; show (n : Int) + 20 ≤ _; omega), g1]
    rfl
  refine zw_ld (n := 1) (k := 0) (f := zp_isR) (pc' := 1) rfl rfl rfl rfl rfl ?_
  refine zw_s (pc' := 2) rfl rfl ?_
  refine zw_pI (q := 72) (pc' := 5) W rfl rfl rfl rfl rfl rfl ?_
  refine zw_ld (n := 1) (k := 0) (f := zp_isR) (pc' := 6) rfl rfl rfl rfl rfl ?_
  refine zw_gI (q := 72) (pc' := 9) (zw_W_I W) rfl rfl rfl rfl (zw_ne rfl rfl) rfl ?_
  refine zw_s (pc' := 11) rfl rfl ?_
  refine zw_iadd (pc' := 12) rfl rfl ?_
  refine zw_s (pc' := 15) rfl rfl ?_
  refine zw_ble2 (g := 20) (pc' := 18) rfl rfl rfl g20 (rfl : _ = (700 : Int)) (fun h7 => ?_) (fun h7 => ?_)
  · obtain ⟨_, c0, H1, rfl, W1, k0⟩ := yfR_put (L := L) (σ := σ) (d := d) (v := x1) (n := n) (H := zw_I H 72 0 (Int32.ofInt 0)) (zw_W_I W) g1 (by omega)
    refine zw_ld (n := 1) (k := 0) (f := zp_isR) (pc' := 21) rfl rfl rfl rfl rfl ?_
    refine zw_ld (n := 1) (k := 1) (f := zp_isI) (pc' := 22) rfl rfl rfl rfl rfl ?_
    refine zw_cn (pc' := 25) (zw_cv (q := 72) (Y := zm_168) (zw_W_I W).1 rfl rfl zm_168_t rfl rfl) rfl rfl rfl rfl rfl (c0) ?_
    obtain ⟨_, c1, H2, rfl, W2, k1⟩ := yfR_put (L := L) (σ := σ) (d := d) (v := x2) (n := n + 4) (H := H1) W1 k0.1 (by omega)
    refine zw_ld (n := 1) (k := 0) (f := zp_isR) (pc' := 26) rfl rfl rfl rfl rfl ?_
    refine zw_ld (n := 1) (k := 2) (f := zp_isI) (pc' := 27) rfl rfl rfl rfl rfl ?_
    refine zw_cn (pc' := 30) (zw_cv (q := 72) (Y := zm_168) W1.1 rfl rfl zm_168_t rfl rfl) rfl rfl rfl rfl rfl (c1) ?_
    obtain ⟨_, c2, H3, rfl, W3, k2⟩ := yfR_put (L := L) (σ := σ) (d := d) (v := x3) (n := n + 8) (H := H2) W2 k1.1 (by omega)
    refine zw_ld (n := 1) (k := 0) (f := zp_isR) (pc' := 31) rfl rfl rfl rfl rfl ?_
    refine zw_ld (n := 1) (k := 3) (f := zp_isI) (pc' := 32) rfl rfl rfl rfl rfl ?_
    refine zw_cn (pc' := 35) (zw_cv (q := 72) (Y := zm_168) W2.1 rfl rfl zm_168_t rfl rfl) rfl rfl rfl rfl rfl (c2) ?_
    obtain ⟨_, c3, H4, rfl, W4, k3⟩ := yfR_put (L := L) (σ := σ) (d := d) (v := x4) (n := n + 12) (H := H3) W3 k2.1 (by omega)
    refine zw_ld (n := 1) (k := 0) (f := zp_isR) (pc' := 36) rfl rfl rfl rfl rfl ?_
    refine zw_ld (n := 2) (k := 4) (f := zp_isI) (pc' := 38) rfl rfl rfl rfl rfl ?_
    refine zw_cn (pc' := 41) (zw_cv (q := 72) (Y := zm_168) W3.1 rfl rfl zm_168_t rfl rfl) rfl rfl rfl rfl rfl (c3) ?_
    obtain ⟨_, c4, H5, rfl, W5, k4⟩ := yfR_put (L := L) (σ := σ) (d := d) (v := x5) (n := n + 16) (H := H4) W4 k3.1 (by omega)
    refine zw_ld (n := 1) (k := 0) (f := zp_isR) (pc' := 42) rfl rfl rfl rfl rfl ?_
    refine zw_ld (n := 2) (k := 5) (f := zp_isI) (pc' := 44) rfl rfl rfl rfl rfl ?_
    refine zw_cn (pc' := 47) (zw_cv (q := 72) (Y := zm_168) W4.1 rfl rfl zm_168_t rfl rfl) rfl rfl rfl rfl rfl (c4) ?_
    refine zw_ld (n := 1) (k := 0) (f := zp_isR) (pc' := 48) rfl rfl rfl rfl rfl ?_
    refine zw_gI (q := 72) (pc' := 51) W5 rfl rfl rfl rfl rfl rfl ?_
    refine zw_ri rfl rfl ?_
    exact ⟨H5, _, rfl, W5, fun _ => ⟨H1, H2, H3, H4, k0, k1, k2, k3, k4⟩, fun h9 => by omega⟩
  · refine zw_s (pc' := 19) rfl rfl ?_
    refine zw_ri rfl rfl ?_
    exact ⟨zw_I H 72 0 (Int32.ofInt 0), _, rfl, (zw_W_I W), fun h9 => by omega, fun _ => rfl⟩

set_option maxRecDepth 8000 in
theorem y_by (b : Int32) : (b &&& (Int16.ofInt 255).toInt32).toInt = ys_u b.toInt8.toInt ∧ -128 ≤ b.toInt8.toInt ∧ b.toInt8.toInt ≤ 127 := by
  have e : ((b &&& (Int16.ofInt 255).toInt32).toBitVec).toNat = b.toBitVec.toNat % 256 := by
    show (b.toBitVec &&& 255#32).toNat = _
    rw [BitVec.toNat_and]
    exact Nat.and_two_pow_sub_one_eq_mod _ 8
  have e1 : (b &&& (Int16.ofInt 255).toInt32).toInt = (b.toBitVec.toNat % 256 : Nat) := by
    rw [← Int32.toInt_toBitVec, BitVec.toInt_eq_toNat_of_lt (by rw [e]; omega), e]
  have e2 : b.toInt8.toInt = b.toInt.bmod (2 ^ 8) := Int32.toInt_toInt8 b
  have e3 : b.toInt = (b.toBitVec.toNat : Int) ∨ b.toInt = (b.toBitVec.toNat : Int) - 4294967296 := by
    rw [← Int32.toInt_toBitVec, BitVec.toInt_eq_toNat_cond]
    split
    · exact Or.inl rfl
    · exact Or.inr rfl
  have e4 : b.toInt.bmod (2 ^ 8) = if b.toInt % 256 < 128 then b.toInt % 256 else b.toInt % 256 - 256 := by
    rw [Int.bmod_def]
    rfl
  rw [e1, e2, e4]
  generalize b.toBitVec.toNat = N at e3
  generalize b.toInt = x at e3
  unfold ys_u
  split <;> split <;> omega
theorem y_nb (x : Int8) : zp_nar 1 x.toInt32 = x.toInt32 := by
  show x.toInt32.toInt8.toInt32 = x.toInt32
  rw [Int8.toInt8_toInt32]
/-- the tapes hold the same bytes -/
def yTp (n : Nat) (H K : zp_H) : Prop := ∀ k, k < n → (K.2.1 81 k).toInt = ys_u (H.2.1 1 k).toInt ∧ -128 ≤ (H.2.1 1 k).toInt ∧ (H.2.1 1 k).toInt ≤ 127
theorem yTp_s {v : Int32} {n : Nat} {H H' K K' : zp_H} (hT : yTp n H K) (h1 : yfC v 4 n H H') (h2 : yfR v 4 n K K') : yTp (n + 4) H' K' := by
  intro k hk
  by_cases h : k < n
  · rw [h1.2.2.1 k h, h2.2.2.1 k h]
    exact hT k h
  · obtain ⟨j, hj⟩ : ∃ j, k = n + j := ⟨k - n, by omega⟩
    subst hj
    rw [h1.2.1 j (by omega), h2.2.1 j (by omega), y_nb, Int8.toInt_toInt32]
    exact y_by _
end
section
/-! ===== the reference: image and restore, exactly ===== -/

def yIm (H : zp_H) : zp_H := zc_k (zc_k (zc_k (zw_I (zw_I (zw_I H 72 0 (Int32.ofInt 0)) 72 80 (Int32.ofInt 1)) 72 81 (H.2.1 72 62)) 74 101 32) 75 102 128) 93 103 60

def yRs (H : zp_H) : zp_H := zc_k (zc_k (zc_k (zw_I (zw_I H 72 0 (Int32.ofInt 0)) 72 62 (H.2.1 72 81)) 101 74 32) 102 75 128) 103 93 60

set_option maxRecDepth 8000 in
theorem yx_image {L : Nat} {σ : Nat → Int32} {d : Nat} {H : zp_H} (W : zw_W H) : zp_Call L σ (d + 2) 249 [.inr (.inr (some 73))] H (.inl none, yIm H) := by
  refine zw_ex (zw_met zm_249_t rfl rfl ?_)
  refine zw_ld (n := 1) (k := 0) (f := zp_isR) (pc' := 1) rfl rfl rfl rfl rfl ?_
  refine zw_s (pc' := 2) rfl rfl ?_
  refine zw_pI (q := 72) (pc' := 5) W rfl rfl rfl rfl rfl rfl ?_
  refine zw_ld (n := 1) (k := 0) (f := zp_isR) (pc' := 6) rfl rfl rfl rfl rfl ?_
  refine zw_s (pc' := 7) rfl rfl ?_
  refine zw_pI (q := 72) (pc' := 10) (zw_W_I W) rfl rfl rfl rfl (rfl) rfl ?_
  refine zw_ld (n := 1) (k := 0) (f := zp_isR) (pc' := 11) rfl rfl rfl rfl rfl ?_
  refine zw_ld (n := 1) (k := 0) (f := zp_isR) (pc' := 12) rfl rfl rfl rfl rfl ?_
  refine zw_gI (q := 72) (pc' := 15) (zw_W_I (zw_W_I W)) rfl rfl rfl rfl (zw_ne (zw_ne rfl rfl) rfl) rfl ?_
  refine zw_pI (q := 72) (pc' := 18) (zw_W_I (zw_W_I W)) rfl rfl rfl rfl rfl rfl ?_
  have W3 : zw_W (zw_I (zw_I (zw_I H 72 0 (Int32.ofInt 0)) 72 80 (Int32.ofInt 1)) 72 81 (H.2.1 72 62)) := W
  refine zw_ld (n := 1) (k := 0) (f := zp_isR) (pc' := 19) rfl rfl rfl rfl rfl ?_
  refine zw_ld (n := 1) (k := 0) (f := zp_isR) (pc' := 20) rfl rfl rfl rfl rfl ?_
  refine zw_gR (q := 72) (pc' := 23) W3 rfl rfl rfl rfl (W3.2 72 14 _ rfl) rfl ?_
  refine zw_ld (n := 1) (k := 0) (f := zp_isR) (pc' := 24) rfl rfl rfl rfl rfl ?_
  refine zw_gR (q := 72) (pc' := 27) W3 rfl rfl rfl rfl (W3.2 72 82 _ rfl) rfl ?_
  refine zw_cn (pc' := 30) (zw_cv (q := 72) (Y := zm_204) W3.1 rfl rfl zm_204_t rfl rfl) rfl rfl rfl rfl rfl (zc_copies (H := zw_I (zw_I (zw_I H 72 0 (Int32.ofInt 0)) 72 80 (Int32.ofInt 1)) 72 81 (H.2.1 72 62)) (q1 := 74) (q2 := 101) (n := 32) W3 rfl rfl (by decide) (by decide) rfl) ?_
  refine zw_ld (n := 1) (k := 0) (f := zp_isR) (pc' := 31) rfl rfl rfl rfl rfl ?_
  refine zw_ld (n := 1) (k := 0) (f := zp_isR) (pc' := 32) rfl rfl rfl rfl rfl ?_
  refine zw_gR (q := 72) (pc' := 35) W3 rfl rfl rfl rfl (W3.2 72 15 _ rfl) rfl ?_
  refine zw_ld (n := 1) (k := 0) (f := zp_isR) (pc' := 36) rfl rfl rfl rfl rfl ?_
  refine zw_gR (q := 72) (pc' := 39) W3 rfl rfl rfl rfl (W3.2 72 83 _ rfl) rfl ?_
  refine zw_cn (pc' := 42) (zw_cv (q := 72) (Y := zm_204) W3.1 rfl rfl zm_204_t rfl rfl) rfl rfl rfl rfl rfl (zc_copies (H := zc_k (zw_I (zw_I (zw_I H 72 0 (Int32.ofInt 0)) 72 80 (Int32.ofInt 1)) 72 81 (H.2.1 72 62)) 74 101 32) (q1 := 75) (q2 := 102) (n := 128) W3 rfl rfl (by decide) (by decide) rfl) ?_
  refine zw_ld (n := 1) (k := 0) (f := zp_isR) (pc' := 43) rfl rfl rfl rfl rfl ?_
  refine zw_ld (n := 1) (k := 0) (f := zp_isR) (pc' := 44) rfl rfl rfl rfl rfl ?_
  refine zw_gR (q := 72) (pc' := 47) W3 rfl rfl rfl rfl (W3.2 72 63 _ rfl) rfl ?_
  refine zw_ld (n := 1) (k := 0) (f := zp_isR) (pc' := 48) rfl rfl rfl rfl rfl ?_
  refine zw_gR (q := 72) (pc' := 51) W3 rfl rfl rfl rfl (W3.2 72 84 _ rfl) rfl ?_
  refine zw_cn (pc' := 54) (zw_cv (q := 72) (Y := zm_204) W3.1 rfl rfl zm_204_t rfl rfl) rfl rfl rfl rfl rfl (zc_copies (H := zc_k (zc_k (zw_I (zw_I (zw_I H 72 0 (Int32.ofInt 0)) 72 80 (Int32.ofInt 1)) 72 81 (H.2.1 72 62)) 74 101 32) 75 102 128) (q1 := 93) (q2 := 103) (n := 60) W3 rfl rfl (by decide) (by decide) rfl) ?_
  refine zw_rn rfl rfl ?_
  rfl

set_option maxRecDepth 8000 in
theorem yx_res0 {L : Nat} {σ : Nat → Int32} {d : Nat} {H : zp_H} (W : zw_W H) (h : (H.2.1 72 80).toInt = 0) : zp_Call L σ (d + 2) 250 [.inr (.inr (some 73))] H (.inl (some (.inl (Int32.ofInt 0))), zw_I H 72 0 (Int32.ofInt 0)) := by
  have e80 : (zw_I H 72 0 (Int32.ofInt 0)).2.1 72 80 = H.2.1 72 80 := zw_ne rfl rfl
  refine zw_ex (zw_met zm_250_t rfl rfl ?_)
  refine zw_ld (n := 1) (k := 0) (f := zp_isR) (pc' := 1) rfl rfl rfl rfl rfl ?_
  refine zw_s (pc' := 2) rfl rfl ?_
  refine zw_pI (q := 72) (pc' := 5) W rfl rfl rfl rfl rfl rfl ?_
  refine zw_ld (n := 1) (k := 0) (f := zp_isR) (pc' := 6) rfl rfl rfl rfl rfl ?_
  refine zw_gI (q := 72) (pc' := 9) (zw_W_I W) rfl rfl rfl rfl (zw_ne rfl rfl) rfl ?_
  refine zw_bne1 (g := 14) (pc' := 12) rfl rfl rfl rfl (fun hb => ?_) (fun hb => ?_)
  · exact absurd h hb
  · refine zw_s (pc' := 13) rfl rfl ?_
    refine zw_rz rfl rfl (by decide) ?_
    rfl

set_option maxRecDepth 8000 in
theorem yx_res1 {L : Nat} {σ : Nat → Int32} {d : Nat} {H : zp_H} (W : zw_W H) (h : (H.2.1 72 80).toInt ≠ 0) : zp_Call L σ (d + 2) 250 [.inr (.inr (some 73))] H (.inl (some (.inl (Int32.ofInt 1))), yRs H) := by
  refine zw_ex (zw_met zm_250_t rfl rfl ?_)
  refine zw_ld (n := 1) (k := 0) (f := zp_isR) (pc' := 1) rfl rfl rfl rfl rfl ?_
  refine zw_s (pc' := 2) rfl rfl ?_
  refine zw_pI (q := 72) (pc' := 5) W rfl rfl rfl rfl rfl rfl ?_
  refine zw_ld (n := 1) (k := 0) (f := zp_isR) (pc' := 6) rfl rfl rfl rfl rfl ?_
  refine zw_gI (q := 72) (pc' := 9) (zw_W_I W) rfl rfl rfl rfl (zw_ne rfl rfl) rfl ?_
  refine zw_bne1 (g := 14) (pc' := 12) rfl rfl rfl rfl (fun hb => ?_) (fun hb => ?_)
  · refine zw_ld (n := 1) (k := 0) (f := zp_isR) (pc' := 15) rfl rfl rfl rfl rfl ?_
    refine zw_ld (n := 1) (k := 0) (f := zp_isR) (pc' := 16) rfl rfl rfl rfl rfl ?_
    refine zw_gI (q := 72) (pc' := 19) (zw_W_I W) rfl rfl rfl rfl (zw_ne rfl rfl) rfl ?_
    refine zw_pI (q := 72) (pc' := 22) (zw_W_I W) rfl rfl rfl rfl rfl rfl ?_
    have W3 : zw_W (zw_I (zw_I H 72 0 (Int32.ofInt 0)) 72 62 (H.2.1 72 81)) := W
    refine zw_ld (n := 1) (k := 0) (f := zp_isR) (pc' := 23) rfl rfl rfl rfl rfl ?_
    refine zw_ld (n := 1) (k := 0) (f := zp_isR) (pc' := 24) rfl rfl rfl rfl rfl ?_
    refine zw_gR (q := 72) (pc' := 27) W3 rfl rfl rfl rfl (W3.2 72 82 _ rfl) rfl ?_
    refine zw_ld (n := 1) (k := 0) (f := zp_isR) (pc' := 28) rfl rfl rfl rfl rfl ?_
    refine zw_gR (q := 72) (pc' := 31) W3 rfl rfl rfl rfl (W3.2 72 14 _ rfl) rfl ?_
    refine zw_cn (pc' := 34) (zw_cv (q := 72) (Y := zm_204) W3.1 rfl rfl zm_204_t rfl rfl) rfl rfl rfl rfl rfl (zc_copies (H := zw_I (zw_I H 72 0 (Int32.ofInt 0)) 72 62 (H.2.1 72 81)) (q1 := 101) (q2 := 74) (n := 32) W3 rfl rfl (by decide) (by decide) rfl) ?_
    refine zw_ld (n := 1) (k := 0) (f := zp_isR) (pc' := 35) rfl rfl rfl rfl rfl ?_
    refine zw_ld (n := 1) (k := 0) (f := zp_isR) (pc' := 36) rfl rfl rfl rfl rfl ?_
    refine zw_gR (q := 72) (pc' := 39) W3 rfl rfl rfl rfl (W3.2 72 83 _ rfl) rfl ?_
    refine zw_ld (n := 1) (k := 0) (f := zp_isR) (pc' := 40) rfl rfl rfl rfl rfl ?_
    refine zw_gR (q := 72) (pc' := 43) W3 rfl rfl rfl rfl (W3.2 72 15 _ rfl) rfl ?_
    refine zw_cn (pc' := 46) (zw_cv (q := 72) (Y := zm_204) W3.1 rfl rfl zm_204_t rfl rfl) rfl rfl rfl rfl rfl (zc_copies (H := zc_k (zw_I (zw_I H 72 0 (Int32.ofInt 0)) 72 62 (H.2.1 72 81)) 101 74 32) (q1 := 102) (q2 := 75) (n := 128) W3 rfl rfl (by decide) (by decide) rfl) ?_
    refine zw_ld (n := 1) (k := 0) (f := zp_isR) (pc' := 47) rfl rfl rfl rfl rfl ?_
    refine zw_ld (n := 1) (k := 0) (f := zp_isR) (pc' := 48) rfl rfl rfl rfl rfl ?_
    refine zw_gR (q := 72) (pc' := 51) W3 rfl rfl rfl rfl (W3.2 72 84 _ rfl) rfl ?_
    refine zw_ld (n := 1) (k := 0) (f := zp_isR) (pc' := 52) rfl rfl rfl rfl rfl ?_
    refine zw_gR (q := 72) (pc' := 55) W3 rfl rfl rfl rfl (W3.2 72 63 _ rfl) rfl ?_
    refine zw_cn (pc' := 58) (zw_cv (q := 72) (Y := zm_204) W3.1 rfl rfl zm_204_t rfl rfl) rfl rfl rfl rfl rfl (zc_copies (H := zc_k (zc_k (zw_I (zw_I H 72 0 (Int32.ofInt 0)) 72 62 (H.2.1 72 81)) 101 74 32) 102 75 128) (q1 := 103) (q2 := 93) (n := 60) W3 rfl rfl (by decide) (by decide) rfl) ?_
    refine zw_s (pc' := 59) rfl rfl ?_
    refine zw_rz rfl rfl (by decide) ?_
    rfl
  · exact absurd hb h
end
