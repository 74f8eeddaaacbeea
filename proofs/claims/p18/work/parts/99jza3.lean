/-! ===== the reference: study ===== -/
def zm_237 : za_MI := (yX12_study, prog_14_method_77_code, 3, (some FieldType.int), 12, 0, 0, [], za_i237)
theorem zm_237_t : za_MT 237 = some zm_237 := rfl
theorem yst_cpL {L : Nat} {σ : Nat → Int32} {d : Nat} {P : zp_X → Prop} {H0 : zp_H} : ∀ (n : Nat) (H : zp_H) (lv : zp_LV) (i : Int32), zw_W H → tFw (fun p _ => p = 100) H0 H → H.2.2.1 = H0.2.2.1 → 0 ≤ i.toInt → i.toInt + (n : Int) = 8 → (∀ j : Nat, (j : Int) < i.toInt → H.2.1 100 j = H0.2.1 98 j) → zp_get lv 0 = some (.inr (.inr (some 73))) → zp_get lv 1 = some (.inr (.inr (some 99))) → zp_get lv 2 = some (.inr (.inr (some 101))) → zp_get lv 3 = some (.inl i) → (∀ K, zw_W K → tFw (fun p _ => p = 100) H0 K → K.2.2.1 = H0.2.2.1 → (∀ j, j < 8 → K.2.1 100 j = H0.2.1 98 j) → P (.inl none, K)) → zs_Safe L σ P zm_204 [] d (2, lv, [], H, (0, 0)) := by
  intro n
  induction n with
  | zero =>
    intro H lv i W hF hJ h5 hN hV l0 l1 l2 l3 hP
    refine zw_ld (n := 1) (k := 3) (f := zp_isI) (pc' := 3) rfl rfl l3 rfl rfl ?_
    refine zw_ld (n := 1) (k := 1) (f := zp_isR) (pc' := 4) rfl rfl l1 rfl rfl ?_
    refine zw_al (q := 98) (pc' := 5) W rfl rfl rfl ?_
    refine zw_bge2 (g := 20) (pc' := 8) rfl rfl rfl rfl (rfl : _ = (8 : Int)) (fun h1 => ?_) (fun h1 => ?_)
    · refine zw_rn rfl rfl ?_
      exact hP H W hF hJ (fun j hj => hV j (by omega))
    · have hN : i.toInt + ((0 : Nat) : Int) = 8 := hN
      omega
  | succ n ih =>
    intro H lv i W hF hJ h5 hN hV l0 l1 l2 l3 hP
    refine zw_ld (n := 1) (k := 3) (f := zp_isI) (pc' := 3) rfl rfl l3 rfl rfl ?_
    refine zw_ld (n := 1) (k := 1) (f := zp_isR) (pc' := 4) rfl rfl l1 rfl rfl ?_
    refine zw_al (q := 98) (pc' := 5) W rfl rfl rfl ?_
    refine zw_bge2 (g := 20) (pc' := 8) rfl rfl rfl rfl (rfl : _ = (8 : Int)) (fun h1 => ?_) (fun h1 => ?_)
    · omega
    · have ei : (i + Int32.ofInt 1).toInt = i.toInt + 1 := zw_p1 (by omega)
      have e98 : H.2.1 98 i.toInt.toNat = H0.2.1 98 i.toInt.toNat := hF.2.2.1 98 _ (show ¬ ((98 : Nat) = 100) by decide)
      refine zw_ld (n := 1) (k := 2) (f := zp_isR) (pc' := 9) rfl rfl l2 rfl rfl ?_
      refine zw_ld (n := 1) (k := 3) (f := zp_isI) (pc' := 10) rfl rfl l3 rfl rfl ?_
      refine zw_ld (n := 1) (k := 1) (f := zp_isR) (pc' := 11) rfl rfl l1 rfl rfl ?_
      refine zw_ld (n := 1) (k := 3) (f := zp_isI) (pc' := 12) rfl rfl l3 rfl rfl ?_
      refine zw_ia (q := 98) (pc' := 13) W rfl rfl (by decide) (⟨h5, by show _ < ((8 : Nat) : Int); omega⟩) rfl rfl ?_
      rw [e98]
      refine zw_is (q := 100) (pc' := 14) W rfl rfl (by decide) (⟨h5, by show _ < ((8 : Nat) : Int); omega⟩) rfl ?_
      refine zw_ii (pc' := 17) rfl l3 rfl rfl ?_
      refine zw_s (pc' := 2) rfl rfl ?_
      refine ih (zw_I H 100 i.toInt.toNat (H0.2.1 98 i.toInt.toNat)) _ (i + Int32.ofInt 1) (zw_W_I W) (tFw_I hF rfl) hJ (by omega) (by omega) (fun j hj => ?_) (zw_gt l0 rfl rfl) (zw_gt l1 rfl rfl) (zw_gt l2 rfl rfl) zw_g1 hP
      by_cases h9 : j = i.toInt.toNat
      · rw [h9]
        exact zw_eq
      · exact (y_ne (fun h8 => h9 h8.2)).trans (hV j (by omega))

theorem yst_cp {L : Nat} {σ : Nat → Int32} {d : Nat} {H : zp_H} (W : zw_W H) : ∃ X, zp_Call L σ (d + 1) 204 [.inr (.inr (some 73)), .inr (.inr (some 99)), .inr (.inr (some 101))] H X ∧ ∃ K, X = (.inl none, K) ∧ zw_W K ∧ tFw (fun p _ => p = 100) H K ∧ K.2.2.1 = H.2.2.1 ∧ ∀ j, j < 8 → K.2.1 100 j = H.2.1 98 j := by
  refine zw_met zm_204_t rfl rfl ?_
  refine zw_s (pc' := 1) rfl rfl ?_
  refine zw_st (n := 1) (k := 3) (f := zp_isI) (pc' := 2) rfl rfl rfl rfl rfl ?_
  exact yst_cpL 8 H _ (Int32.ofInt 0) W (tFw_r H) rfl (by decide) (by decide) (fun j hj => absurd hj (by rw [show (Int32.ofInt 0).toInt = 0 by decide]; omega)) (zw_gt rfl rfl rfl) (zw_gt rfl rfl rfl) (zw_gt rfl rfl rfl) zw_g1 (fun K w1 w2 w3 w4 => ⟨K, rfl, w1, w2, w3, w4⟩)

/-- but what study writes nothing is changed -/
def xFz (H H1 : zp_H) : Prop := H1.1 = H.1 ∧ H1.2.2.2 = H.2.2.2 ∧ (∀ p k, ¬ (p = 72 ∧ ((64 ≤ k ∧ k ≤ 71) ∨ k = 79)) → ¬ (97 ≤ p ∧ p ≤ 100) → H1.2.1 p k = H.2.1 p k) ∧ ∀ p k, ¬ (p = 72 ∧ k = 65) → p ≠ 97 → H1.2.2.1 p k = H.2.2.1 p k
theorem xFz_r (H : zp_H) : xFz H H := ⟨rfl, rfl, fun _ _ _ _ => rfl, fun _ _ _ _ => rfl⟩
theorem xFz_t {H H1 H2 : zp_H} (h1 : xFz H H1) (h2 : xFz H1 H2) : xFz H H2 := ⟨h2.1.trans h1.1, h2.2.1.trans h1.2.1, fun p k a b => (h2.2.2.1 p k a b).trans (h1.2.2.1 p k a b), fun p k a b => (h2.2.2.2 p k a b).trans (h1.2.2.2 p k a b)⟩
theorem xFz_q {H H1 : zp_H} (h : xFq H H1) : xFz H H1 := ⟨h.1, h.2.1, fun p k a b => h.2.2.1 p k (fun h9 => a ⟨h9.1, Or.inl h9.2⟩) (by omega) (by omega), h.2.2.2⟩
theorem xFz_s {H H1 : zp_H} (h : xFs 64 71 H H1) : xFz H H1 := ⟨h.1, h.2.1, fun p k a _ => h.2.2.1 p k (fun h9 => a ⟨h9.1, Or.inl h9.2⟩), fun p k a _ => h.2.2.2 p k a⟩
theorem xFz_I {q k : Nat} {H H1 : zp_H} {x : Int32} (h : xFz H H1) (hq : (97 ≤ q ∧ q ≤ 100) ∨ (q = 72 ∧ k = 79)) : xFz H (zw_I H1 q k x) := ⟨h.1, h.2.1, fun p j a b => (y_ne (fun h9 => by obtain ⟨h8, h7⟩ := h9; omega)).trans (h.2.2.1 p j a b), h.2.2.2⟩
theorem xFz_W {H H1 : zp_H} (h : xFz H H1) (W : zw_W H) : zw_W H1 := ⟨h.1.trans W.1, fun p k r hr => (congrFun (congrFun h.2.1 p) k).trans (W.2 p k r hr)⟩
theorem xFz_72 {H H1 : zp_H} {k : Nat} (h : xFz H H1) (hk : ¬ ((64 ≤ k ∧ k ≤ 71) ∨ k = 79)) : H1.2.1 72 k = H.2.1 72 k := h.2.2.1 72 k (fun h9 => hk h9.2) (by decide)
theorem xFz_o {H H1 : zp_H} {q : Nat} (h : xFz H H1) (h1 : q ≠ 72) (h2 : ¬ (97 ≤ q ∧ q ≤ 100)) (k : Nat) : H1.2.1 q k = H.2.1 q k := h.2.2.1 q k (fun h9 => h1 h9.1) h2
theorem xSR_z {H H1 : zp_H} {S : xSea} (h : xFz H H1) (hR : xSR H S) : xSR H1 S := ⟨(congrArg Int32.toInt (xFz_72 h (by decide))).trans hR.1, (congrArg Int32.toInt (xFz_72 h (by decide))).trans hR.2.1, (h.2.2.2 72 12 (fun h9 => absurd h9.2 (by decide)) (by decide)).trans hR.2.2.1, fun k hk => (congrArg Int32.toInt (xFz_o h (by decide) (by decide) k)).trans (hR.2.2.2 k hk)⟩
theorem xCR_z {CC : Nat → List xIt} {H H1 : zp_H} (h : xFz H H1) (hC : xCR CC H) : xCR CC H1 := xCR_f (xFz_72 h (by decide)) (fun k => xFz_o h (by decide) (by decide) k) (fun k => xFz_o h (by decide) (by decide) k) hC
theorem tAr_z {H H1 : zp_H} (h : xFz H H1) : tAr H1 = tAr H := funext fun t => by
  unfold tAr
  rw [xFz_72 h (by decide), xFz_72 h (by decide), xFz_72 h (by decide), xFz_o h (by decide) (by decide)]
theorem tBr_z {H H1 : zp_H} (h : xFz H H1) (e : ∀ u, H1.2.1 99 u = H.2.1 99 u) : tBr H1 = tBr H := funext fun u => funext fun t => by
  unfold tBr
  rw [xFz_72 h (by decide), xFz_72 h (by decide), xFz_o h (by decide) (by decide), e]
theorem tGr_z {S : xSea} {CC : Nat → List xIt} {p : Nat} {H H1 : zp_H} (h : xFz H H1) : tGr S CC H1 p = tGr S CC H p := funext fun a => by
  unfold tGr
  rw [xPr_f (H := H) (fun k hk => xFz_72 h (by omega)) (fun q k hq => xFz_o h (by omega) (by omega) k)]
theorem tHr_z {S : xSea} {CC : Nat → List xIt} {p : Int32} {N : Nat} {H H1 : zp_H} (h : xFz H H1) (e : ∀ u, H1.2.1 99 u = H.2.1 99 u) (hy : tHr S CC H p N) : tHr S CC H1 p N := by
  obtain ⟨a1, a2, a3, a4, a5, a6, a7, a8, a9, b1, b2, b3⟩ := hy
  have e74 : ∀ k, H1.2.1 74 k = H.2.1 74 k := fun k => xFz_o h (by decide) (by decide) k
  refine ⟨a1, xSR_z h a2, xCR_z h a3, xMr9_f (xFz_72 h (by decide)) e74 a4, a5, by rw [xFz_o h (by decide) (by decide)]; exact a6, a7, by rw [xFz_72 h (by decide)]; exact a8, by rw [xFz_72 h (by decide)]; exact a9, fun t ht => by rw [e74]; exact b1 t ht, fun t ht => by rw [e]; exact b2 t ht, by rw [xFz_72 h (by decide)]; exact b3⟩
/-- what study answers, and what is kept: the reference's -/
def tRO (N : Nat) (A : Nat → Bool) (B : Nat → Nat → Bool) (G : Nat → Bool) (H0 K : zp_H) (len : Int32) : Prop := (len = Int32.ofInt (-1) ∧ (∀ m, m ≤ N → ∀ r, ¬ tOk N A B (tTs G) m r) ∧ (∀ k, K.2.1 100 k = H0.2.1 100 k) ∧ K.2.1 72 79 = H0.2.1 72 79) ∨ ∃ m q, tRs N A B G m q ∧ len = Int32.ofNat m ∧ (∀ k, k < m → K.2.1 100 k = Int32.ofNat (q.getD k 0)) ∧ K.2.1 72 79 = len

theorem yst_enL {L : Nat} {σ : Nat → Int32} {d : Nat} {P : zp_X → Prop} {S : xSea} {H0 : zp_H} (hS : xOk S) (hR : xSR H0 S) (hM : xMr9 S H0) {p : Int32} : ∀ (n : Nat) (H : zp_H) (lv : zp_LV) (i : Int32), zw_W H → xFz H0 H → (∀ k, H.2.1 100 k = H0.2.1 100 k) → H.2.1 72 79 = H0.2.1 72 79 → 0 ≤ i.toInt → i.toInt + (n : Int) = (H0.2.1 72 5).toInt → (∀ j : Nat, (j : Int) < i.toInt → H.2.1 99 j = (xVyr S H0 j).1) → zp_get lv 0 = some (.inr (.inr (some 73))) → zp_get lv 1 = some (.inl p) → zp_get lv 2 = some (.inl i) → (∀ H lv, zw_W H → xFz H0 H → (∀ k, H.2.1 100 k = H0.2.1 100 k) → H.2.1 72 79 = H0.2.1 72 79 → (∀ j : Nat, (j : Int) < (H0.2.1 72 5).toInt → H.2.1 99 j = (xVyr S H0 j).1) → zp_get lv 0 = some (.inr (.inr (some 73))) → zp_get lv 1 = some (.inl p) → zs_Safe L σ P zm_237 [] (d + 6) (46, lv, [], H, (0, 0))) → zs_Safe L σ P zm_237 [] (d + 6) (17, lv, [], H, (0, 0)) := by
  intro n
  induction n with
  | zero =>
    intro H lv i W hF k1 k2 h5 hN hV l0 l1 l2 hP
    have hNN : H.2.1 72 5 = H0.2.1 72 5 := xFz_72 hF (by decide)
    have hn0 := hM.1
    refine zw_ld (n := 1) (k := 2) (f := zp_isI) (pc' := 18) rfl rfl l2 rfl rfl ?_
    refine zw_ld (n := 1) (k := 0) (f := zp_isR) (pc' := 19) rfl rfl l0 rfl rfl ?_
    refine zw_gI (q := 72) (pc' := 22) W rfl rfl rfl rfl rfl rfl ?_
    rw [hNN]
    refine zw_bge2 (g := 46) (pc' := 25) rfl rfl rfl rfl rfl (fun h1 => ?_) (fun h1 => ?_)
    · exact hP H _ W hF k1 k2 (fun j hj => hV j (by omega)) l0 l1
    · have hN : i.toInt + ((0 : Nat) : Int) = (H0.2.1 72 5).toInt := hN
      omega
  | succ n ih =>
    intro H lv i W hF k1 k2 h5 hN hV l0 l1 l2 hP
    have hNN : H.2.1 72 5 = H0.2.1 72 5 := xFz_72 hF (by decide)
    have hn0 := hM.1
    refine zw_ld (n := 1) (k := 2) (f := zp_isI) (pc' := 18) rfl rfl l2 rfl rfl ?_
    refine zw_ld (n := 1) (k := 0) (f := zp_isR) (pc' := 19) rfl rfl l0 rfl rfl ?_
    refine zw_gI (q := 72) (pc' := 22) W rfl rfl rfl rfl rfl rfl ?_
    rw [hNN]
    refine zw_bge2 (g := 46) (pc' := 25) rfl rfl rfl rfl rfl (fun h1 => ?_) (fun h1 => ?_)
    · omega
    · have ei : (i + Int32.ofInt 1).toInt = i.toInt + 1 := zw_p1 (by omega)
      have hi : ((i.toInt.toNat : Nat) : Int) < (H0.2.1 72 5).toInt := by omega
      have f4 : ∀ k, H.2.1 74 k = H0.2.1 74 k := fun k => xFz_o hF (by decide) (by decide) k
      have f5 : ∀ k, H.2.1 75 k = H0.2.1 75 k := fun k => xFz_o hF (by decide) (by decide) k
      obtain ⟨_, q1, H1, rfl, W1, q2, q3⟩ := xr_sails (L := L) (σ := σ) (d := d + 3) (H := H) (s := i) W hS (xSR_z hF hR) ⟨h5, by omega⟩ (by rw [f4]; exact hM.2.1 _ hi) (by rw [f4]; exact hM.2.2 _ hi)
      have q3 : xR7 H1 (xVyr S H i.toInt.toNat) := q3
      rw [xVyr_f f4 f5] at q3
      have F1 := xFz_t hF (xFz_s q2)
      have g1 : ∀ q k, q ≠ 72 → H1.2.1 q k = H.2.1 q k := fun q k hq => q2.2.2.1 q k (fun h9 => hq h9.1)
      refine zw_ld (n := 1) (k := 0) (f := zp_isR) (pc' := 26) rfl rfl l0 rfl rfl ?_
      refine zw_ld (n := 1) (k := 2) (f := zp_isI) (pc' := 27) rfl rfl l2 rfl rfl ?_
      refine zw_cn (pc' := 30) (zw_cv (q := 72) (Y := zm_220) W.1 rfl rfl zm_220_t rfl rfl) rfl rfl rfl rfl rfl (q1) ?_
      refine zw_ld (n := 1) (k := 0) (f := zp_isR) (pc' := 31) rfl rfl l0 rfl rfl ?_
      refine zw_gR (q := 72) (pc' := 34) W1 rfl rfl rfl rfl (W1.2 72 77 _ rfl) rfl ?_
      refine zw_ld (n := 1) (k := 2) (f := zp_isI) (pc' := 35) rfl rfl l2 rfl rfl ?_
      refine zw_ld (n := 1) (k := 0) (f := zp_isR) (pc' := 36) rfl rfl l0 rfl rfl ?_
      refine zw_gI (q := 72) (pc' := 39) W1 rfl rfl rfl rfl rfl rfl ?_
      rw [q3.1]
      refine zw_is (q := 99) (pc' := 40) W1 rfl rfl (by decide) (⟨h5, by show _ < ((8 : Nat) : Int); omega⟩) rfl ?_
      refine zw_ii (pc' := 43) rfl l2 rfl rfl ?_
      refine zw_s (pc' := 17) rfl rfl ?_
      refine ih (zw_I H1 99 i.toInt.toNat (xVyr S H0 i.toInt.toNat).1) _ (i + Int32.ofInt 1) (zw_W_I W1) (xFz_I F1 (Or.inl ⟨by decide, by decide⟩)) (fun k => (zw_ne rfl rfl).trans ((g1 100 k (by decide)).trans (k1 k))) ((zw_ne rfl rfl).trans ((q2.2.2.1 72 79 (by decide)).trans k2)) (by omega) (by omega) (fun j hj => ?_) (zw_gt l0 rfl rfl) (zw_gt l1 rfl rfl) zw_g1 hP
      by_cases h9 : j = i.toInt.toNat
      · rw [h9]
        exact zw_eq
      · exact (y_ne (fun h8 => h9 h8.2)).trans ((g1 99 j (by decide)).trans (hV j (by omega)))

theorem yst_szL {L : Nat} {σ : Nat → Int32} {d : Nat} {P : zp_X → Prop} {S : xSea} {CC : Nat → List xIt} {H1 : zp_H} {p : Int32} {N : Nat} (hy : tHr S CC H1 p N) : ∀ (n : Nat) (H : zp_H) (lv : zp_LV) (j : Nat), zw_W H → xFq H1 H → j + n = N + 1 → (∀ m, m < j → ∀ r, ¬ tOk N (tAr H1) (tBr H1) (tTs (tGr S CC H1 p.toInt.toNat)) m r) → zp_get lv 0 = some (.inr (.inr (some 73))) → zp_get lv 1 = some (.inl p) → zp_get lv 2 = some (.inl (Int32.ofNat j)) → (∀ K len, zw_W K → xFz H1 K → tRO N (tAr H1) (tBr H1) (tGr S CC H1 p.toInt.toNat) H1 K len → P (.inl (some (.inl len)), K)) → zs_Safe L σ P zm_237 [] (d + 6) (48, lv, [], H, (0, 0)) := by
  intro n
  induction n with
  | zero =>
    intro H lv j W hF hn hZ l0 l1 l2 hP
    have e5 : (H.2.1 72 5).toInt = (N : Int) := (congrArg Int32.toInt (xFq_72 hF (by decide))).trans hy.2.2.2.2.2.2.2.1
    have hN8 := hy.2.2.2.2.2.2.1
    have tJ := tm_t9 (a := j) (by omega)
    refine zw_ld (n := 1) (k := 2) (f := zp_isI) (pc' := 49) rfl rfl l2 rfl rfl ?_
    refine zw_ld (n := 1) (k := 0) (f := zp_isR) (pc' := 50) rfl rfl l0 rfl rfl ?_
    refine zw_gI (q := 72) (pc' := 53) W rfl rfl rfl rfl rfl rfl ?_
    refine zw_bgt2 (g := 93) (pc' := 56) rfl rfl rfl rfl rfl (fun h1 => ?_) (fun h1 => ?_)
    · refine zw_s (pc' := 94) rfl rfl ?_
      refine zw_ri rfl rfl ?_
      exact hP H _ W (xFz_q hF) (Or.inl ⟨rfl, fun m hm => hZ m (by omega), fun k => hF.2.2.1 100 k (fun h9 => absurd h9.1 (by decide)) (by decide) (by decide), xFq_72 hF (by decide)⟩)
    · have hn : j + 0 = N + 1 := hn
      omega
  | succ n ih =>
    intro H lv j W hF hn hZ l0 l1 l2 hP
    have e5 : (H.2.1 72 5).toInt = (N : Int) := (congrArg Int32.toInt (xFq_72 hF (by decide))).trans hy.2.2.2.2.2.2.2.1
    have hN8 := hy.2.2.2.2.2.2.1
    have tJ := tm_t9 (a := j) (by omega)
    refine zw_ld (n := 1) (k := 2) (f := zp_isI) (pc' := 49) rfl rfl l2 rfl rfl ?_
    refine zw_ld (n := 1) (k := 0) (f := zp_isR) (pc' := 50) rfl rfl l0 rfl rfl ?_
    refine zw_gI (q := 72) (pc' := 53) W rfl rfl rfl rfl rfl rfl ?_
    refine zw_bgt2 (g := 93) (pc' := 56) rfl rfl rfl rfl rfl (fun h1 => ?_) (fun h1 => ?_)
    · omega
    · have FZ := xFz_q hF
      have e99 : ∀ u, H.2.1 99 u = H1.2.1 99 u := fun u => xFq_o hF (by decide) (by decide) (by decide) u
      have hy2 := tHr_z FZ e99 hy
      obtain ⟨_, q1, K, v, rfl, W2, q2, q3⟩ := yst_st (L := L) (σ := σ) (d := d) (x2 := Int32.ofNat j) (m := j) hy2 (by omega) tJ W
      rw [tAr_z FZ, tBr_z FZ e99, tGr_z FZ] at q3
      have F2 := xFq_t hF q2
      refine zw_ld (n := 1) (k := 0) (f := zp_isR) (pc' := 57) rfl rfl l0 rfl rfl ?_
      refine zw_ld (n := 1) (k := 1) (f := zp_isI) (pc' := 58) rfl rfl l1 rfl rfl ?_
      refine zw_ld (n := 1) (k := 2) (f := zp_isI) (pc' := 59) rfl rfl l2 rfl rfl ?_
      rcases q3 with ⟨rfl, q, q4, q5⟩ | ⟨rfl, q4⟩
      · refine zw_c (pc' := 62) (zw_cv (q := 72) (Y := zm_238) W.1 rfl rfl zm_238_t rfl rfl) rfl rfl rfl rfl rfl (q1) ?_
        refine zw_bne1 (g := 68) (pc' := 65) rfl rfl rfl (rfl : _ = (1 : Int)) (fun h9 => ?_) (fun h9 => absurd h9 (by decide))
        obtain ⟨_, c1, K3, rfl, W3, c2, c4, c3⟩ := yst_cp (L := L) (σ := σ) (d := d + 5) (H := zw_I K 72 79 (Int32.ofNat j)) (zw_W_I W2)
        refine zw_ld (n := 1) (k := 0) (f := zp_isR) (pc' := 69) rfl rfl l0 rfl rfl ?_
        refine zw_ld (n := 1) (k := 2) (f := zp_isI) (pc' := 70) rfl rfl l2 rfl rfl ?_
        refine zw_pI (q := 72) (pc' := 73) W2 rfl rfl rfl rfl rfl rfl ?_
        refine zw_ld (n := 1) (k := 0) (f := zp_isR) (pc' := 74) rfl rfl l0 rfl rfl ?_
        refine zw_ld (n := 1) (k := 0) (f := zp_isR) (pc' := 75) rfl rfl l0 rfl rfl ?_
        refine zw_gR (q := 72) (pc' := 78) (zw_W_I W2) rfl rfl rfl rfl ((zw_W_I W2).2 72 76 _ rfl) rfl ?_
        refine zw_ld (n := 1) (k := 0) (f := zp_isR) (pc' := 79) rfl rfl l0 rfl rfl ?_
        refine zw_gR (q := 72) (pc' := 82) (zw_W_I W2) rfl rfl rfl rfl ((zw_W_I W2).2 72 78 _ rfl) rfl ?_
        refine zw_cn (pc' := 85) (zw_cv (q := 72) (Y := zm_204) (zw_W_I W2).1 rfl rfl zm_204_t rfl rfl) rfl rfl rfl rfl rfl (c1) ?_
        refine zw_ld (n := 1) (k := 2) (f := zp_isI) (pc' := 86) rfl rfl l2 rfl rfl ?_
        refine zw_ri rfl rfl ?_
        refine hP K3 _ W3 (xFz_t (xFz_I (xFz_q F2) (Or.inr ⟨rfl, rfl⟩)) ⟨c2.1, c2.2.1, fun p k _ b => c2.2.2.1 p k (show ¬ (p = 100) by omega), fun p k _ _ => by rw [c4]⟩) (Or.inr ⟨j, q, ⟨by omega, q4, hZ⟩, rfl, fun k hk => (c3 k (by omega)).trans ((zw_ne rfl rfl).trans (q5 k hk)), (c2.2.2.1 72 79 (show ¬ ((72 : Nat) = 100) by decide)).trans zw_eq⟩)
      · refine zw_c (pc' := 62) (zw_cv (q := 72) (Y := zm_238) W.1 rfl rfl zm_238_t rfl rfl) rfl rfl rfl rfl rfl (q1) ?_
        refine zw_bne1 (g := 68) (pc' := 65) rfl rfl rfl (rfl : _ = (0 : Int)) (fun h9 => absurd h9 (by decide)) (fun h9 => ?_)
        refine zw_s (pc' := 87) rfl rfl ?_
        refine zw_ii (pc' := 90) rfl l2 rfl rfl ?_
        refine zw_s (pc' := 48) rfl rfl ?_
        rw [tm_s (a := j) (by omega)]
        refine ih K _ (j + 1) W2 F2 (by omega) (fun m hm => ?_) (zw_gt l0 rfl rfl) (zw_gt l1 rfl rfl) zw_g1 hP
        by_cases h9 : m = j
        · rw [h9]
          exact q4
        · exact hZ m (by omega)

theorem yst_stu {L : Nat} {σ : Nat → Int32} {d : Nat} {H : zp_H} {x1 : Int32} {S : xSea} {CC : Nat → List xIt} {N : Nat} (W : zw_W H) (hS : xOk S) (hR : xSR (zw_I H 72 0 (Int32.ofInt 0)) S) (hCR : xCR CC (zw_I H 72 0 (Int32.ofInt 0))) (hM : xMr9 S (zw_I H 72 0 (Int32.ofInt 0))) (hp : 0 ≤ x1.toInt ∧ x1.toInt < (H.2.1 72 7).toInt) (hp4 : x1.toInt < 4) (hpc : xIn S ((zw_I H 72 0 (Int32.ofInt 0)).2.1 77 (3 * x1.toInt.toNat)).toInt) (hn : (H.2.1 72 5).toInt = (N : Int)) (hw : 2 ≤ ((zw_I H 72 0 (Int32.ofInt 0)).2.1 72 1).toInt) (hcl : ∀ t, t < N → 0 ≤ ((zw_I H 72 0 (Int32.ofInt 0)).2.1 74 (4 * t)).toInt ∧ ((zw_I H 72 0 (Int32.ofInt 0)).2.1 74 (4 * t)).toInt ≤ 63) (hen : ∀ t, t < N → 0 ≤ (xVyr S (zw_I H 72 0 (Int32.ofInt 0)) t).1.toInt ∧ (xVyr S (zw_I H 72 0 (Int32.ofInt 0)) t).1.toInt ≤ 63) (hsc : 0 ≤ ((zw_I H 72 0 (Int32.ofInt 0)).2.1 72 9).toInt ∧ ((zw_I H 72 0 (Int32.ofInt 0)).2.1 72 9).toInt ≤ 63) : ∃ X, zp_Call L σ (d + 7) 237 [.inr (.inr (some 73)), .inl x1] H X ∧ ∃ K len H1, X = (.inl (some (.inl len)), K) ∧ zw_W K ∧ xFz (zw_I H 72 0 (Int32.ofInt 0)) H1 ∧ xFz H1 K ∧ (∀ k, H1.2.1 100 k = (zw_I H 72 0 (Int32.ofInt 0)).2.1 100 k) ∧ H1.2.1 72 79 = (zw_I H 72 0 (Int32.ofInt 0)).2.1 72 79 ∧ (∀ u, u < N → H1.2.1 99 u = (xVyr S (zw_I H 72 0 (Int32.ofInt 0)) u).1) ∧ tRO N (tAr H1) (tBr H1) (tGr S CC H1 x1.toInt.toNat) H1 K len := by
  have h0 : ((zw_I H 72 0 (Int32.ofInt 0)).2.1 72 0).toInt = 0 := congrArg Int32.toInt zw_eq
  have e7 : (zw_I H 72 0 (Int32.ofInt 0)).2.1 72 7 = H.2.1 72 7 := zw_ne rfl rfl
  have e5 : (zw_I H 72 0 (Int32.ofInt 0)).2.1 72 5 = H.2.1 72 5 := zw_ne rfl rfl
  refine zw_met zm_237_t rfl rfl ?_
  refine zw_ld (n := 1) (k := 0) (f := zp_isR) (pc' := 1) rfl rfl rfl rfl rfl ?_
  refine zw_s (pc' := 2) rfl rfl ?_
  refine zw_pI (q := 72) (pc' := 5) W rfl rfl rfl rfl rfl rfl ?_
  refine zw_ld (n := 1) (k := 0) (f := zp_isR) (pc' := 6) rfl rfl rfl rfl rfl ?_
  refine zw_ld (n := 1) (k := 1) (f := zp_isI) (pc' := 7) rfl rfl rfl rfl rfl ?_
  refine zw_c (pc' := 10) (zw_cv (q := 72) (Y := zm_228) (zw_W_I W).1 rfl rfl zm_228_t rfl rfl) rfl rfl rfl rfl rfl (yr_ip1 (d := d + 4) (zw_W_I W) h0 (by rw [e7]; exact hp)) ?_
  refine zw_bne1 (g := 15) (pc' := 13) rfl rfl rfl (rfl : _ = (1 : Int)) (fun h1 => ?_) (fun h9 => absurd h9 (by decide))
  refine zw_s (pc' := 16) rfl rfl ?_
  refine zw_st (n := 1) (k := 2) (f := zp_isI) (pc' := 17) rfl rfl rfl rfl rfl ?_
  have W0 : zw_W (zw_I H 72 0 (Int32.ofInt 0)) := zw_W_I W
  refine yst_enL (H0 := (zw_I H 72 0 (Int32.ofInt 0))) hS hR hM ((zw_I H 72 0 (Int32.ofInt 0)).2.1 72 5).toInt.toNat (zw_I H 72 0 (Int32.ofInt 0)) _ (Int32.ofInt 0) W0 (xFz_r _) (fun _ => rfl) rfl (by decide) (by rw [show (Int32.ofInt 0).toInt = 0 by decide, e5]; have := hM.1; rw [e5] at this; omega) (fun j hj => absurd hj (by rw [show (Int32.ofInt 0).toInt = 0 by decide]; omega)) (zw_gt rfl rfl rfl) (zw_gt rfl rfl rfl) zw_g1 (fun H1 lv W1 F1 k1 k2 v1 l0 l1 => ?_)
  have b5 := hM.1
  rw [e5] at b5
  have hE : ∀ u, u < N → H1.2.1 99 u = (xVyr S (zw_I H 72 0 (Int32.ofInt 0)) u).1 := fun u hu => v1 u (by rw [e5]; omega)
  have hy : tHr S CC H1 x1 N := by
    refine ⟨hS, xSR_z F1 hR, xCR_z F1 hCR, xMr9_f (xFz_72 F1 (by decide)) (fun k => xFz_o F1 (by decide) (by decide) k) hM, ⟨hp.1, hp4⟩, by rw [xFz_o F1 (by decide) (by decide)]; exact hpc, by omega, by rw [xFz_72 F1 (by decide), e5]; exact hn, by rw [xFz_72 F1 (by decide)]; exact hw, fun t ht => by rw [xFz_o F1 (by decide) (by decide)]; exact hcl t ht, fun t ht => by rw [hE t ht]; exact hen t ht, by rw [xFz_72 F1 (by decide)]; exact hsc⟩
  refine zw_s (pc' := 47) rfl rfl ?_
  rw [tm_z]
  refine zw_st (n := 1) (k := 2) (f := zp_isI) (pc' := 48) rfl rfl rfl rfl rfl ?_
  refine yst_szL hy (N + 1) H1 _ 0 W1 (xFq_r H1) (by omega) (fun m hm => absurd hm (Nat.not_lt_zero m)) (zw_gt l0 rfl rfl) (zw_gt l1 rfl rfl) zw_g1 (fun K len w1 w2 w3 => ⟨K, len, H1, rfl, w1, F1, w2, k1, k2, hE, w3⟩)

theorem yst_stun {L : Nat} {σ : Nat → Int32} {d : Nat} {H : zp_H} (W : zw_W H) {x1 : Int32} (h : ¬ (0 ≤ x1.toInt ∧ x1.toInt < (H.2.1 72 7).toInt)) : zp_Call L σ (d + 3) 237 [.inr (.inr (some 73)), .inl x1] H (.inl (some (.inl (Int32.ofInt 0))), zw_I (zw_I H 72 0 (Int32.ofInt 0)) 72 0 (Int32.ofInt 1)) := by
  have h0 : ((zw_I H 72 0 (Int32.ofInt 0)).2.1 72 0).toInt = 0 := congrArg Int32.toInt zw_eq
  have e7 : (zw_I H 72 0 (Int32.ofInt 0)).2.1 72 7 = H.2.1 72 7 := zw_ne rfl rfl
  have e5 : (zw_I H 72 0 (Int32.ofInt 0)).2.1 72 5 = H.2.1 72 5 := zw_ne rfl rfl
  refine zw_ex (zw_met zm_237_t rfl rfl ?_)
  refine zw_ld (n := 1) (k := 0) (f := zp_isR) (pc' := 1) rfl rfl rfl rfl rfl ?_
  refine zw_s (pc' := 2) rfl rfl ?_
  refine zw_pI (q := 72) (pc' := 5) W rfl rfl rfl rfl rfl rfl ?_
  refine zw_ld (n := 1) (k := 0) (f := zp_isR) (pc' := 6) rfl rfl rfl rfl rfl ?_
  refine zw_ld (n := 1) (k := 1) (f := zp_isI) (pc' := 7) rfl rfl rfl rfl rfl ?_
  refine zw_c (pc' := 10) (zw_cv (q := 72) (Y := zm_228) (zw_W_I W).1 rfl rfl zm_228_t rfl rfl) rfl rfl rfl rfl rfl (yr_ip0 (zw_W_I W) h0 (by rw [e7]; exact h)) ?_
  refine zw_bne1 (g := 15) (pc' := 13) rfl rfl rfl (rfl : _ = (0 : Int)) (fun h9 => absurd h9 (by decide)) (fun h7 => ?_)
  refine zw_s (pc' := 14) rfl rfl ?_
  refine zw_ri rfl rfl ?_
  rfl
