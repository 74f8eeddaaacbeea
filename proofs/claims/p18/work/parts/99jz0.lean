/-! ===== a pilot, both sides ===== -/

/-- how a pilot fares who has read these slates: the class's, the reference's -/
def xPc (S : xSea) (CC : Nat → List xIt) (wp cp : Nat) (H : zp_H) (p : Nat) (set : Int32) : Int32 × Int32 × Int32 := xPl S (H.2.1 wp 11).toInt (fun c h => xWb (xVl S c h (xKn (fun s => xWk (xVyc S cp H s)) set (H.2.1 cp 0).toInt.toNat (Int32.ofInt 0) (Int64.ofNat 0))) (H.2.1 (wp + 8)) CC (H.2.1 wp 16).toInt.toNat 0) 60 (H.2.1 (wp + 5) p) (H.2.1 (wp + 6) p) (xP0 S (H.2.1 wp 11).toInt (H.2.1 (wp + 5) p))
def xPr (S : xSea) (CC : Nat → List xIt) (H : zp_H) (p : Nat) (set : Int32) : Int32 × Int32 × Int32 := xPl S (H.2.1 72 11).toInt (fun c h => xWb (xVl S c h (xKn (fun s => xWk (xVyr S H s)) set (H.2.1 72 5).toInt.toNat (Int32.ofInt 0) (Int64.ofNat 0))) (H.2.1 79) CC (H.2.1 72 8).toInt.toNat 0) 60 (H.2.1 77 (3 * p)) (H.2.1 77 (3 * p + 1)) (xP0 S (H.2.1 72 11).toInt (H.2.1 77 (3 * p)))
theorem xPr_f {S : xSea} {CC : Nat → List xIt} {H K : zp_H} {p : Nat} {set : Int32} (e : ∀ k, k = 5 ∨ k = 8 ∨ k = 11 → K.2.1 72 k = H.2.1 72 k) (e2 : ∀ q k, q = 74 ∨ q = 75 ∨ q = 77 ∨ q = 79 → K.2.1 q k = H.2.1 q k) : xPr S CC K p set = xPr S CC H p set := by
  have ev : (fun s => xWk (xVyr S K s)) = fun s => xWk (xVyr S H s) := funext fun s => by
    rw [xVyr_f (fun k => e2 74 k (by decide)) (fun k => e2 75 k (by decide))]
  have e9 : K.2.1 79 = H.2.1 79 := funext fun k => e2 79 k (by decide)
  unfold xPr
  rw [ev, e9, e 5 (by decide), e 8 (by decide), e 11 (by decide), e2 77 _ (by decide), e2 77 _ (by decide)]
theorem xPc_f {S : xSea} {CC : Nat → List xIt} {wp cp : Nat} {H K : zp_H} {p : Nat} {set : Int32} (hw : (wp = 2 ∧ cp = 13) ∨ (wp = 22 ∧ cp = 33)) (e : ∀ q k, q < 54 → K.2.1 q k = H.2.1 q k) : xPc S CC wp cp K p set = xPc S CC wp cp H p set := by
  have ev : (fun s => xWk (xVyc S cp K s)) = fun s => xWk (xVyc S cp H s) := funext fun s => by
    rw [xVyc_f (fun q k _ _ => e q k (by omega))]
  have e9 : K.2.1 (wp + 8) = H.2.1 (wp + 8) := funext fun k => e _ k (by omega)
  unfold xPc
  rw [ev, e9, e cp 0 (by omega), e wp 11 (by omega), e wp 16 (by omega), e (wp + 5) p (by omega), e (wp + 6) p (by omega)]
theorem xFk_r (H : zp_H) : xFk H H := ⟨rfl, rfl, fun _ _ _ _ _ _ _ => rfl, fun _ _ _ _ => rfl⟩
theorem xFk_tt {H H1 H2 : zp_H} (h1 : xFk H H1) (h2 : xFk H1 H2) : xFk H H2 := ⟨h2.1.trans h1.1, h2.2.1.trans h1.2.1, fun p k a b c e f => (h2.2.2.1 p k a b c e f).trans (h1.2.2.1 p k a b c e f), fun p k a b => (h2.2.2.2 p k a b).trans (h1.2.2.2 p k a b)⟩
theorem xFk_54 {H H1 : zp_H} (h : xFk H H1) : ∀ p k, p < 54 → H1.2.1 p k = H.2.1 p k := fun p k hp => h.2.2.1 p k (by omega) (by omega) (by omega) (by omega) (by omega)
theorem xSC_k {p : Nat} {H H1 : zp_H} {S : xSea} (h : xFk H H1) (hp : p = 2 ∨ p = 22) (hC : xSC p H S) : xSC p H1 S := by
  have e : ∀ q k, q = p ∨ q = p + 2 → H1.2.1 q k = H.2.1 q k := fun q k hq => xFk_54 h q k (by omega)
  have e1 : ∀ q k, q = p ∨ q = p + 1 → H1.2.2.1 q k = H.2.2.1 q k := fun q k hq => h.2.2.2 q k (by omega) (by omega)
  refine ⟨(congrArg Int32.toInt (e p 0 (Or.inl rfl))).trans hC.1, (congrArg Int32.toInt (e p 1 (Or.inl rfl))).trans hC.2.1, (e1 p 3 (Or.inl rfl)).trans hC.2.2.1, fun k hk => (congrArg Int32.toInt (e (p + 2) k (Or.inr rfl))).trans (hC.2.2.2.1 k hk), fun k hk => ?_⟩
  rw [e p 0 (Or.inl rfl), e p 1 (Or.inl rfl)]
  exact (e1 (p + 1) k (Or.inr rfl)).trans (hC.2.2.2.2 k hk)
/-- what the class's slates keep to -/
def xMk9 (S : xSea) (cp : Nat) (H : zp_H) : Prop := (0 ≤ (H.2.1 cp 0).toInt ∧ (H.2.1 cp 0).toInt ≤ 8) ∧ (∀ s : Nat, (s : Int) < (H.2.1 cp 0).toInt → 0 ≤ (H.2.1 (cp + 3) s).toInt ∧ (H.2.1 (cp + 3) s).toInt ≤ 8) ∧ (∀ s : Nat, (s : Int) < (H.2.1 cp 0).toInt → ∀ j, j < (H.2.1 (cp + 3) s).toInt.toNat → -1 ≤ (H.2.1 (cp + 5) (8 * s + j)).toInt ∧ (H.2.1 (cp + 5) (8 * s + j)).toInt ≤ 3) ∧ ∀ s : Nat, (s : Int) < (H.2.1 cp 0).toInt → xIn S (H.2.1 (cp + 1) s).toInt
theorem xMk9_f {S : xSea} {cp : Nat} {H H1 : zp_H} (e : ∀ p k, cp ≤ p → p ≤ cp + 5 → H1.2.1 p k = H.2.1 p k) (h : xMk9 S cp H) : xMk9 S cp H1 := by
  obtain ⟨h1, h2, h3, h4⟩ := h
  have e0 := e cp 0 (Nat.le_refl _) (by omega)
  unfold xMk9
  rw [e0]
  refine ⟨h1, fun s hs => by rw [e (cp + 3) s (by omega) (by omega)]; exact h2 s hs, fun s hs j hj => ?_, fun s hs => by rw [e (cp + 1) s (by omega) (by omega)]; exact h4 s hs⟩
  rw [e (cp + 3) s (by omega) (by omega)] at hj
  rw [e (cp + 5) _ (by omega) (by omega)]
  exact h3 s hs j hj
/-- what the reference's slates keep to -/
def xMr9 (S : xSea) (H : zp_H) : Prop := (0 ≤ (H.2.1 72 5).toInt ∧ (H.2.1 72 5).toInt ≤ 8) ∧ (∀ s : Nat, (s : Int) < (H.2.1 72 5).toInt → 0 ≤ (H.2.1 74 (4 * s + 2)).toInt ∧ (H.2.1 74 (4 * s + 2)).toInt ≤ 8) ∧ ∀ s : Nat, (s : Int) < (H.2.1 72 5).toInt → xIn S (H.2.1 74 (4 * s)).toInt
theorem xMr9_f {S : xSea} {H H1 : zp_H} (e5 : H1.2.1 72 5 = H.2.1 72 5) (e : ∀ k, H1.2.1 74 k = H.2.1 74 k) (h : xMr9 S H) : xMr9 S H1 := by
  unfold xMr9
  rw [e5]
  exact ⟨h.1, fun s hs => by rw [e]; exact h.2.1 s hs, fun s hs => by rw [e]; exact h.2.2 s hs⟩

/-- known, at a later time -/
theorem xh_kb2 {L : Nat} {σ : Nat → Int32} {d : Nat} {S : xSea} {set : Int32} {H0 H : zp_H} (hF : xFk H0 H) (W : zw_W H) (hS : xOk S) (hC : xSC 2 H0 S) (hM : xMk9 S 13 H0) : ∃ H1, zp_Call L σ (d + 6) 23 [.inr (.inr (some 55)), .inr (.inr (some 3)), .inr (.inr (some 14)), .inl set] H (.inl (some (.inr (.inl (xKn (fun s => xWk (xVyc S 13 H0 s)) set (H0.2.1 13 0).toInt.toNat (Int32.ofInt 0) (Int64.ofNat 0))))), H1) ∧ zw_W H1 ∧ xFk H0 H1 := by
  have hM1 := xMk9_f (fun p k _ _ => xFk_54 hF p k (by omega)) hM
  obtain ⟨_, c1, H1, rfl, W1, c2⟩ := xh_kn2 (L := L) (σ := σ) (d := d) (set := set) hS (xSC_k hF (by decide) hC) hM1.1 hM1.2.1 hM1.2.2.1 hM1.2.2.2 W
  have ev : (fun s => xWk (xVyc S 13 H s)) = fun s => xWk (xVyc S 13 H0 s) := funext fun s => by
    rw [xVyc_f (fun q k _ _ => xFk_54 hF q k (by omega))]
  rw [ev, xFk_54 hF 13 0 (by decide)] at c1
  exact ⟨H1, c1, W1, xFk_tt hF (xFk_t c2 (xFg_r H1))⟩
/-- a pilot sails, at a later time -/
theorem xh_sv2 {L : Nat} {σ : Nat → Int32} {d : Nat} {p set : Int32} {S : xSea} {CC : Nat → List xIt} {H0 H : zp_H} (hF : xFk H0 H) (W : zw_W H) (hS : xOk S) (hC : xSC 2 H0 S) (hCC : xCC 2 CC H0) (hp : 0 ≤ p.toInt ∧ p.toInt < 4) (hc : xIn S (H0.2.1 7 p.toInt.toNat).toInt) : ∃ K, zp_Call L σ (d + 5) 35 [.inr (.inr (some 57)), .inr (.inr (some 3)), .inl p, .inr (.inl (xKn (fun s => xWk (xVyc S 13 H0 s)) set (H0.2.1 13 0).toInt.toNat (Int32.ofInt 0) (Int64.ofNat 0)))] H (.inl none, K) ∧ zw_W K ∧ xFk H0 K ∧ (K.2.1 57 0, K.2.1 57 1, K.2.1 57 2) = xPc S CC 2 13 H0 p.toInt.toNat set := by
  have f := xFk_54 hF
  obtain ⟨_, b1, K, rfl, W2, b2, b3⟩ := xh_sb2 (L := L) (σ := σ) (d := d) (p := p) (u := (xKn (fun s => xWk (xVyc S 13 H0 s)) set (H0.2.1 13 0).toInt.toNat (Int32.ofInt 0) (Int64.ofNat 0))) hS (xSC_k hF (by decide) hC) (xCC_v (by decide) f hCC) W hp (by rw [f 7 _ (by decide)]; exact hc)
  rw [f 7 _ (by decide), f 8 _ (by decide), f 2 11 (by decide), f 2 16 (by decide), show H.2.1 10 = H0.2.1 10 from funext (fun k => f 10 k (by decide))] at b3
  exact ⟨K, b1, W2, xFk_tt hF ⟨b2.1, b2.2.1, fun p k _ b c e f => b2.2.2.1 p k b c e f, fun p k _ b => b2.2.2.2 p k b⟩, b3⟩

/-- known, at a later time -/
theorem xh_kb22 {L : Nat} {σ : Nat → Int32} {d : Nat} {S : xSea} {set : Int32} {H0 H : zp_H} (hF : xFk H0 H) (W : zw_W H) (hS : xOk S) (hC : xSC 22 H0 S) (hM : xMk9 S 33 H0) : ∃ H1, zp_Call L σ (d + 6) 23 [.inr (.inr (some 55)), .inr (.inr (some 23)), .inr (.inr (some 34)), .inl set] H (.inl (some (.inr (.inl (xKn (fun s => xWk (xVyc S 33 H0 s)) set (H0.2.1 33 0).toInt.toNat (Int32.ofInt 0) (Int64.ofNat 0))))), H1) ∧ zw_W H1 ∧ xFk H0 H1 := by
  have hM1 := xMk9_f (fun p k _ _ => xFk_54 hF p k (by omega)) hM
  obtain ⟨_, c1, H1, rfl, W1, c2⟩ := xh_kn22 (L := L) (σ := σ) (d := d) (set := set) hS (xSC_k hF (by decide) hC) hM1.1 hM1.2.1 hM1.2.2.1 hM1.2.2.2 W
  have ev : (fun s => xWk (xVyc S 33 H s)) = fun s => xWk (xVyc S 33 H0 s) := funext fun s => by
    rw [xVyc_f (fun q k _ _ => xFk_54 hF q k (by omega))]
  rw [ev, xFk_54 hF 33 0 (by decide)] at c1
  exact ⟨H1, c1, W1, xFk_tt hF (xFk_t c2 (xFg_r H1))⟩
/-- a pilot sails, at a later time -/
theorem xh_sv22 {L : Nat} {σ : Nat → Int32} {d : Nat} {p set : Int32} {S : xSea} {CC : Nat → List xIt} {H0 H : zp_H} (hF : xFk H0 H) (W : zw_W H) (hS : xOk S) (hC : xSC 22 H0 S) (hCC : xCC 22 CC H0) (hp : 0 ≤ p.toInt ∧ p.toInt < 4) (hc : xIn S (H0.2.1 27 p.toInt.toNat).toInt) : ∃ K, zp_Call L σ (d + 5) 35 [.inr (.inr (some 57)), .inr (.inr (some 23)), .inl p, .inr (.inl (xKn (fun s => xWk (xVyc S 33 H0 s)) set (H0.2.1 33 0).toInt.toNat (Int32.ofInt 0) (Int64.ofNat 0)))] H (.inl none, K) ∧ zw_W K ∧ xFk H0 K ∧ (K.2.1 57 0, K.2.1 57 1, K.2.1 57 2) = xPc S CC 22 33 H0 p.toInt.toNat set := by
  have f := xFk_54 hF
  obtain ⟨_, b1, K, rfl, W2, b2, b3⟩ := xh_sb22 (L := L) (σ := σ) (d := d) (p := p) (u := (xKn (fun s => xWk (xVyc S 33 H0 s)) set (H0.2.1 33 0).toInt.toNat (Int32.ofInt 0) (Int64.ofNat 0))) hS (xSC_k hF (by decide) hC) (xCC_v (by decide) f hCC) W hp (by rw [f 27 _ (by decide)]; exact hc)
  rw [f 27 _ (by decide), f 28 _ (by decide), f 22 11 (by decide), f 22 16 (by decide), show H.2.1 30 = H0.2.1 30 from funext (fun k => f 30 k (by decide))] at b3
  exact ⟨K, b1, W2, xFk_tt hF ⟨b2.1, b2.2.1, fun p k _ b c e f => b2.2.2.1 p k b c e f, fun p k _ b => b2.2.2.2 p k b⟩, b3⟩

theorem xJ_M0 {t : Nat} {H : zp_H} (hI : yJ 0 t H) : xMk9 (xSo H) 13 H ∧ xMr9 (xSo H) H ∧ H.2.1 13 0 = H.2.1 72 5 ∧ (∀ p : Nat, (p : Int) < (H.2.1 72 7).toInt → xIn (xSo H) (H.2.1 77 (3 * p)).toInt) ∧ ∀ K : zp_H, (∀ k, K.2.1 74 k = H.2.1 74 k) → (∀ k, K.2.1 75 k = H.2.1 75 k) → ∀ s : Nat, (s : Int) < (H.2.1 72 5).toInt → xVyr (xSo H) K s = xVyc (xSo H) 13 H s := by
  obtain ⟨⟨A, a1, a2, a3⟩, -⟩ := id hI.2
  have hr : yGr H := hI.2.2.2.2.2.2
  have n5 := a3.1
  have n0 := a2.1
  have n0 : (H.2.1 13 0).toInt = A.1 := n0
  have n8 := a1.1
  have e05 : H.2.1 13 0 = H.2.1 72 5 := Int32.toInt_inj.mp (by rw [n0, ← n5])
  refine ⟨⟨⟨by omega, by omega⟩, fun s hs => ?_, fun s hs j hj => ?_, fun s hs => ?_⟩, ⟨⟨by omega, by omega⟩, fun s hs => ?_, fun s hs => hr.1 s hs⟩, e05, fun p hp => hr.2.2 p hp, fun K f4 f5 s hs => ?_⟩
  · have e : H.2.1 16 s = A.2.2.1 s 2 := a2.2.2.1 s 2 (by omega) (by decide)
    rw [e]
    exact a1.2.2.1 s (by omega)
  · have e : H.2.1 16 s = A.2.2.1 s 2 := a2.2.2.1 s 2 (by omega) (by decide)
    have hm9 := a1.2.2.1 s (show s < A.1 by omega)
    have hj : j < (H.2.1 16 s).toInt.toNat := hj
    rw [e] at hj
    have b := zB_ar1 (zB_dn (zB_Bc hI.1.1.1)) (p := 18) (t := 0) (n := 64) (i := 8 * s + j) (r := (0, 3)) rfl (by omega) (by rw [show (zB_al zB_ar 18).1 = 1 from rfl, Nat.mod_one]; rfl)
    have b : 0 ≤ (H.2.1 18 (8 * s + j)).toInt ∧ (H.2.1 18 (8 * s + j)).toInt ≤ 3 := b
    exact ⟨by show -1 ≤ (H.2.1 18 (8 * s + j)).toInt; omega, b.2⟩
  · have e : H.2.1 14 s = A.2.2.1 s 0 := a2.2.2.1 s 0 (by omega) (by decide)
    have e2 : H.2.1 74 (4 * s) = A.2.2.1 s 0 := a3.2.2.1 s 0 (by omega) (by decide)
    rw [e, ← e2]
    exact hr.1 s (by omega)
  · have e : H.2.1 74 (4 * s + 2) = A.2.2.1 s 2 := a3.2.2.1 s 2 (by omega) (by decide)
    rw [e]
    exact a1.2.2.1 s (by omega)
  · have hsA : s < A.1 := by omega
    have l0 : H.2.1 74 (4 * s + 2) = A.2.2.1 s 2 := a3.2.2.1 _ 2 hsA (by decide)
    have l1 : H.2.1 74 (4 * s) = A.2.2.1 s 0 := a3.2.2.1 _ 0 hsA (by decide)
    have l2 : H.2.1 74 (4 * s + 1) = A.2.2.1 s 1 := a3.2.2.1 _ 1 hsA (by decide)
    have k0 : H.2.1 16 s = A.2.2.1 s 2 := a2.2.2.1 _ 2 hsA (by decide)
    have k1 : H.2.1 14 s = A.2.2.1 s 0 := a2.2.2.1 _ 0 hsA (by decide)
    have k2 : H.2.1 15 s = A.2.2.1 s 1 := a2.2.2.1 _ 1 hsA (by decide)
    have hm9 := a1.2.2.1 s hsA
    unfold xVyr xVyc
    show xVy (xSo H) _ _ (K.2.1 74 (4 * s + 2)).toInt.toNat (Int32.ofInt 0) (K.2.1 74 (4 * s)) (K.2.1 74 (4 * s + 1)) = xVy (xSo H) _ _ (H.2.1 16 s).toInt.toNat (Int32.ofInt 0) (H.2.1 14 s) (H.2.1 15 s)
    rw [f4, f4, f4, l0, l1, l2, k0, k1, k2]
    refine xVy_c (m := (A.2.2.1 s 2).toInt.toNat) (fun j hj => ⟨?_, ?_⟩) _ _ _ _ (by decide) (by rw [show (Int32.ofInt 0).toInt = 0 by decide]; omega) (by omega)
    · show K.2.1 75 (16 * s + 2 * j) = H.2.1 18 (8 * s + j)
      rw [f5]
      exact (a3.2.2.2.1 s j 0 hsA hj (by decide)).trans (a2.2.2.2.1 s j 0 hsA hj (by decide)).symm
    · show K.2.1 75 (16 * s + 2 * j + 1) = H.2.1 19 (8 * s + j)
      rw [f5]
      exact (a3.2.2.2.1 s j 1 hsA hj (by decide)).trans (a2.2.2.2.1 s j 1 hsA hj (by decide)).symm
/-- both sides say the same of a pilot -/
theorem xJ_P0 {t : Nat} {H : zp_H} (hI : yJ 0 t H) {CC : Nat → List xIt} (e16 : H.2.1 2 16 = H.2.1 72 8) (h8 : 0 ≤ (H.2.1 72 8).toInt ∧ (H.2.1 72 8).toInt ≤ 8) (e79 : ∀ r : Nat, (r : Int) < (H.2.1 72 8).toInt → H.2.1 10 r = H.2.1 79 r) (e77 : ∀ p : Nat, (p : Int) < (H.2.1 72 7).toInt → H.2.1 7 p = H.2.1 77 (3 * p) ∧ H.2.1 8 p = H.2.1 77 (3 * p + 1)) (e11 : H.2.1 2 11 = H.2.1 72 11) {p : Nat} (hp : (p : Int) < (H.2.1 72 7).toInt) (set : Int32) : xPr (xSo H) CC H p set = xPc (xSo H) CC 2 13 H p set := by
  obtain ⟨m1, m2, e05, m3, m4⟩ := xJ_M0 hI
  obtain ⟨p5, p6⟩ := e77 p hp
  have gk : xKn (fun s => xWk (xVyr (xSo H) H s)) set (H.2.1 72 5).toInt.toNat (Int32.ofInt 0) (Int64.ofNat 0) = xKn (fun s => xWk (xVyc (xSo H) 13 H s)) set (H.2.1 72 5).toInt.toNat (Int32.ofInt 0) (Int64.ofNat 0) := by
    have b5 := m2.1
    refine xKn_c _ _ _ (by decide) (by rw [show (Int32.ofInt 0).toInt = 0 by decide]; omega) (fun s hs => ?_)
    rw [show (Int32.ofInt 0).toInt = 0 by decide] at hs
    show xWk _ = xWk _
    rw [m4 H (fun _ => rfl) (fun _ => rfl) s (by omega)]
  unfold xPr xPc
  show xPl (xSo H) _ _ 60 _ _ (xP0 (xSo H) _ _) = xPl (xSo H) (H.2.1 2 11).toInt (fun c h => xWb (xVl (xSo H) c h (xKn (fun s => xWk (xVyc (xSo H) 13 H s)) set (H.2.1 13 0).toInt.toNat (Int32.ofInt 0) (Int64.ofNat 0))) (H.2.1 10) CC (H.2.1 2 16).toInt.toNat 0) 60 (H.2.1 7 p) (H.2.1 8 p) (xP0 (xSo H) (H.2.1 2 11).toInt (H.2.1 7 p))
  rw [gk, p5, p6, e11, e05, e16]
  refine congrFun (congrFun (congrFun (congrFun (xPl_c (fun c h => xWb_c _ _ (fun r hr9 => ?_))) _) _) _) _
  have hr9 : r < 0 + (H.2.1 72 8).toInt.toNat := hr9
  exact (e79 r (by omega)).symm

theorem xJ_M3 {t : Nat} {H : zp_H} (hI : yJ 3 t H) : xMk9 (xSo H) 33 H ∧ xMr9 (xSo H) H ∧ H.2.1 33 0 = H.2.1 72 5 ∧ (∀ p : Nat, (p : Int) < (H.2.1 72 7).toInt → xIn (xSo H) (H.2.1 77 (3 * p)).toInt) ∧ ∀ K : zp_H, (∀ k, K.2.1 74 k = H.2.1 74 k) → (∀ k, K.2.1 75 k = H.2.1 75 k) → ∀ s : Nat, (s : Int) < (H.2.1 72 5).toInt → xVyr (xSo H) K s = xVyc (xSo H) 33 H s := by
  obtain ⟨⟨A, a1, a2, a3⟩, -⟩ := id hI.2
  have hr : yGr H := hI.2.2.2.2.2.2
  have n5 := a3.1
  have n0 := a2.1
  have n0 : (H.2.1 33 0).toInt = A.1 := n0
  have n8 := a1.1
  have e05 : H.2.1 33 0 = H.2.1 72 5 := Int32.toInt_inj.mp (by rw [n0, ← n5])
  refine ⟨⟨⟨by omega, by omega⟩, fun s hs => ?_, fun s hs j hj => ?_, fun s hs => ?_⟩, ⟨⟨by omega, by omega⟩, fun s hs => ?_, fun s hs => hr.1 s hs⟩, e05, fun p hp => hr.2.2 p hp, fun K f4 f5 s hs => ?_⟩
  · have e : H.2.1 36 s = A.2.2.1 s 2 := a2.2.2.1 s 2 (by omega) (by decide)
    rw [e]
    exact a1.2.2.1 s (by omega)
  · have e : H.2.1 36 s = A.2.2.1 s 2 := a2.2.2.1 s 2 (by omega) (by decide)
    have hm9 := a1.2.2.1 s (show s < A.1 by omega)
    have hj : j < (H.2.1 36 s).toInt.toNat := hj
    rw [e] at hj
    have b := zB_ar1 (zB_dn (zB_Bc hI.1.1.1)) (p := 38) (t := 0) (n := 64) (i := 8 * s + j) (r := (0, 3)) rfl (by omega) (by rw [show (zB_al zB_ar 38).1 = 1 from rfl, Nat.mod_one]; rfl)
    have b : 0 ≤ (H.2.1 38 (8 * s + j)).toInt ∧ (H.2.1 38 (8 * s + j)).toInt ≤ 3 := b
    exact ⟨by show -1 ≤ (H.2.1 38 (8 * s + j)).toInt; omega, b.2⟩
  · have e : H.2.1 34 s = A.2.2.1 s 0 := a2.2.2.1 s 0 (by omega) (by decide)
    have e2 : H.2.1 74 (4 * s) = A.2.2.1 s 0 := a3.2.2.1 s 0 (by omega) (by decide)
    rw [e, ← e2]
    exact hr.1 s (by omega)
  · have e : H.2.1 74 (4 * s + 2) = A.2.2.1 s 2 := a3.2.2.1 s 2 (by omega) (by decide)
    rw [e]
    exact a1.2.2.1 s (by omega)
  · have hsA : s < A.1 := by omega
    have l0 : H.2.1 74 (4 * s + 2) = A.2.2.1 s 2 := a3.2.2.1 _ 2 hsA (by decide)
    have l1 : H.2.1 74 (4 * s) = A.2.2.1 s 0 := a3.2.2.1 _ 0 hsA (by decide)
    have l2 : H.2.1 74 (4 * s + 1) = A.2.2.1 s 1 := a3.2.2.1 _ 1 hsA (by decide)
    have k0 : H.2.1 36 s = A.2.2.1 s 2 := a2.2.2.1 _ 2 hsA (by decide)
    have k1 : H.2.1 34 s = A.2.2.1 s 0 := a2.2.2.1 _ 0 hsA (by decide)
    have k2 : H.2.1 35 s = A.2.2.1 s 1 := a2.2.2.1 _ 1 hsA (by decide)
    have hm9 := a1.2.2.1 s hsA
    unfold xVyr xVyc
    show xVy (xSo H) _ _ (K.2.1 74 (4 * s + 2)).toInt.toNat (Int32.ofInt 0) (K.2.1 74 (4 * s)) (K.2.1 74 (4 * s + 1)) = xVy (xSo H) _ _ (H.2.1 36 s).toInt.toNat (Int32.ofInt 0) (H.2.1 34 s) (H.2.1 35 s)
    rw [f4, f4, f4, l0, l1, l2, k0, k1, k2]
    refine xVy_c (m := (A.2.2.1 s 2).toInt.toNat) (fun j hj => ⟨?_, ?_⟩) _ _ _ _ (by decide) (by rw [show (Int32.ofInt 0).toInt = 0 by decide]; omega) (by omega)
    · show K.2.1 75 (16 * s + 2 * j) = H.2.1 38 (8 * s + j)
      rw [f5]
      exact (a3.2.2.2.1 s j 0 hsA hj (by decide)).trans (a2.2.2.2.1 s j 0 hsA hj (by decide)).symm
    · show K.2.1 75 (16 * s + 2 * j + 1) = H.2.1 39 (8 * s + j)
      rw [f5]
      exact (a3.2.2.2.1 s j 1 hsA hj (by decide)).trans (a2.2.2.2.1 s j 1 hsA hj (by decide)).symm
/-- both sides say the same of a pilot -/
theorem xJ_P3 {t : Nat} {H : zp_H} (hI : yJ 3 t H) {CC : Nat → List xIt} (e16 : H.2.1 22 16 = H.2.1 72 8) (h8 : 0 ≤ (H.2.1 72 8).toInt ∧ (H.2.1 72 8).toInt ≤ 8) (e79 : ∀ r : Nat, (r : Int) < (H.2.1 72 8).toInt → H.2.1 30 r = H.2.1 79 r) (e77 : ∀ p : Nat, (p : Int) < (H.2.1 72 7).toInt → H.2.1 27 p = H.2.1 77 (3 * p) ∧ H.2.1 28 p = H.2.1 77 (3 * p + 1)) (e11 : H.2.1 22 11 = H.2.1 72 11) {p : Nat} (hp : (p : Int) < (H.2.1 72 7).toInt) (set : Int32) : xPr (xSo H) CC H p set = xPc (xSo H) CC 22 33 H p set := by
  obtain ⟨m1, m2, e05, m3, m4⟩ := xJ_M3 hI
  obtain ⟨p5, p6⟩ := e77 p hp
  have gk : xKn (fun s => xWk (xVyr (xSo H) H s)) set (H.2.1 72 5).toInt.toNat (Int32.ofInt 0) (Int64.ofNat 0) = xKn (fun s => xWk (xVyc (xSo H) 33 H s)) set (H.2.1 72 5).toInt.toNat (Int32.ofInt 0) (Int64.ofNat 0) := by
    have b5 := m2.1
    refine xKn_c _ _ _ (by decide) (by rw [show (Int32.ofInt 0).toInt = 0 by decide]; omega) (fun s hs => ?_)
    rw [show (Int32.ofInt 0).toInt = 0 by decide] at hs
    show xWk _ = xWk _
    rw [m4 H (fun _ => rfl) (fun _ => rfl) s (by omega)]
  unfold xPr xPc
  show xPl (xSo H) _ _ 60 _ _ (xP0 (xSo H) _ _) = xPl (xSo H) (H.2.1 22 11).toInt (fun c h => xWb (xVl (xSo H) c h (xKn (fun s => xWk (xVyc (xSo H) 33 H s)) set (H.2.1 33 0).toInt.toNat (Int32.ofInt 0) (Int64.ofNat 0))) (H.2.1 30) CC (H.2.1 22 16).toInt.toNat 0) 60 (H.2.1 27 p) (H.2.1 28 p) (xP0 (xSo H) (H.2.1 22 11).toInt (H.2.1 27 p))
  rw [gk, p5, p6, e11, e05, e16]
  refine congrFun (congrFun (congrFun (congrFun (xPl_c (fun c h => xWb_c _ _ (fun r hr9 => ?_))) _) _) _) _
  have hr9 : r < 0 + (H.2.1 72 8).toInt.toNat := hr9
  exact (e79 r (by omega)).symm
