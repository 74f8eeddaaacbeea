section
/-! ===== sails ===== -/
def zm_135 : za_MI := (yL_sails, method_14_code, 6, (some FieldType.int), 13, 3, 18, [(0, 12, 15, 18), (0, 12, 19, 13)], za_i135)
theorem zm_135_t : za_MT 135 = some zm_135 := rfl
def zm_229 : za_MI := (yX12_sails, prog_14_method_72_code, 4, (some FieldType.int), 12, 0, 0, [], za_i229)
theorem zm_229_t : za_MT 229 = some zm_229 := rfl
/-- but both ships and the helm nothing is changed -/
def xFk (H H1 : zp_H) : Prop := H1.1 = H.1 ∧ H1.2.2.2 = H.2.2.2 ∧ (∀ p k, p ≠ 54 → p ≠ 57 → p ≠ 58 → p ≠ 59 → ¬ (p = 56 ∧ k = 2) → H1.2.1 p k = H.2.1 p k) ∧ ∀ p k, p ≠ 54 → p ≠ 57 → H1.2.2.1 p k = H.2.2.1 p k
theorem xFk_t {H H1 H2 : zp_H} (h1 : xFv 54 H H1) (h2 : xFg H1 H2) : xFk H H2 := ⟨h2.1.trans h1.1, h2.2.1.trans h1.2.1, fun p k a b c e f => (h2.2.2.1 p k b c e f).trans (h1.2.2.1 p k a), fun p k a b => (h2.2.2.2 p k b).trans (h1.2.2.2 p k a)⟩
theorem xSR_k {H H1 : zp_H} {S : xSea} (h : xFk H H1) (hR : xSR H S) : xSR H1 S := ⟨(congrArg Int32.toInt (h.2.2.1 72 1 (by decide) (by decide) (by decide) (by decide) (by decide))).trans hR.1, (congrArg Int32.toInt (h.2.2.1 72 2 (by decide) (by decide) (by decide) (by decide) (by decide))).trans hR.2.1, (h.2.2.2 72 12 (by decide) (by decide)).trans hR.2.2.1, fun k hk => (congrArg Int32.toInt (h.2.2.1 73 k (by decide) (by decide) (by decide) (by decide) (by omega))).trans (hR.2.2.2 k hk)⟩

theorem xCC_v {wp : Nat} {CC : Nat → List xIt} {H H1 : zp_H} (hp : wp = 2 ∨ wp = 22) (e : ∀ p k, p < 54 → H1.2.1 p k = H.2.1 p k) (h : xCC wp CC H) : xCC wp CC H1 := by
  obtain ⟨h1, h2, h3⟩ := h
  have e16 := e wp 16 (by omega)
  unfold xCC
  rw [e16]
  refine ⟨h1, fun r hr => ?_, fun r hr => by rw [e _ _ (by omega)]; exact h3 r hr⟩
  obtain ⟨a, b, c⟩ := h2 r hr
  exact ⟨a, xCl_e (fun k _ => e _ k (by omega)) (fun k _ => e _ k (by omega)) b, by rw [e _ _ (by omega)]; exact c⟩

theorem xSR_06 {H : zp_H} {S : xSea} {x : Int32} (h : xSR H S) : xSR (zw_I H 72 0 x) S := ⟨(congrArg Int32.toInt (zw_ne rfl rfl)).trans h.1, (congrArg Int32.toInt (zw_ne rfl rfl)).trans h.2.1, h.2.2.1, fun k hk => (congrArg Int32.toInt (zw_ne rfl rfl)).trans (h.2.2.2 k hk)⟩

theorem xJ_C0 {t : Nat} {H : zp_H} (hJ : yJ 0 t H) : ∃ CC, xCC 2 CC H ∧ xCR CC H ∧ H.2.1 2 16 = H.2.1 72 8 ∧ (∀ r : Nat, (r : Int) < (H.2.1 72 8).toInt → H.2.1 10 r = H.2.1 79 r) ∧ H.2.1 2 12 = H.2.1 72 7 ∧ (∀ p : Nat, (p : Int) < (H.2.1 72 7).toInt → H.2.1 7 p = H.2.1 77 (3 * p) ∧ H.2.1 8 p = H.2.1 77 (3 * p + 1)) ∧ H.2.1 2 11 = H.2.1 72 11 ∧ (0 ≤ (H.2.1 72 7).toInt ∧ (H.2.1 72 7).toInt ≤ 4) := by
  have hB := hJ.1.1.1
  obtain ⟨-, q2, -, -, -, -, q7, q8⟩ := hJ.1.2.2
  have e16 : H.2.1 2 16 = H.2.1 72 8 := q2 (16, 8) (by decide)
  have e12 : H.2.1 2 12 = H.2.1 72 7 := q2 (12, 7) (by decide)
  have e11 : H.2.1 2 11 = H.2.1 72 11 := q2 (11, 11) (by decide)
  have b16 := zB_fr1 (zB_dn (zB_Bc hB)) (p := 2) (k := 16) (r := (0, 8)) rfl
  have b16 : 0 ≤ (H.2.1 2 16).toInt ∧ (H.2.1 2 16).toInt ≤ 8 := b16
  have b12 := zB_fr1 (zB_dn (zB_Bc hB)) (p := 2) (k := 12) (r := (0, 4)) rfl
  have b12 : 0 ≤ (H.2.1 2 12).toInt ∧ (H.2.1 2 12).toInt ≤ 4 := b12
  have hex : ∀ r : Nat, (r : Int) < (H.2.1 72 8).toInt → ∃ C, xOp 37 C ∧ xCl (ywp 0) H r C ∧ xRl 78 80 H r C ∧ (H.2.1 78 r).toInt + ((xR2 C).length : Int) + 1 ≤ 1600 := fun r hr => (q8 r hr).2.2
  have hk : ∀ r : Nat, ∃ C, (r : Int) < (H.2.1 72 8).toInt → xOp 37 C ∧ xCl (ywp 0) H r C ∧ xRl 78 80 H r C ∧ (H.2.1 78 r).toInt + ((xR2 C).length : Int) + 1 ≤ 1600 := fun r => by
    by_cases hr : (r : Int) < (H.2.1 72 8).toInt
    · obtain ⟨C, h⟩ := hex r hr
      exact ⟨C, fun _ => h⟩
    · exact ⟨[], fun h => absurd h hr⟩
  refine ⟨fun r => Classical.choose (hk r), ⟨b16, fun r hr => ?_, fun r hr => ?_⟩, ⟨by rw [← e16]; exact b16, fun r hr => ?_⟩, e16, fun r hr => (q8 r hr).1, e12, fun p hp => ⟨(q7 p hp).1, (q7 p hp).2.1⟩, e11, by rw [← e12]; exact b12⟩
  · rw [e16] at hr
    obtain ⟨a, b, -, -⟩ := Classical.choose_spec (hk r) hr
    exact ⟨a, b, (q8 r hr).2.1⟩
  · have b := zB_ar1 (zB_dn (zB_Bc hB)) (p := 10) (t := 0) (n := 8) (i := r) (r := (0, 3)) rfl (by omega) (by rw [show (zB_al zB_ar 10).1 = 1 from rfl, Nat.mod_one]; rfl)
    have b : 0 ≤ (H.2.1 10 r).toInt ∧ (H.2.1 10 r).toInt ≤ 3 := b
    show -1 ≤ (H.2.1 10 r).toInt ∧ (H.2.1 10 r).toInt ≤ 3
    omega
  · obtain ⟨a, -, b, e⟩ := Classical.choose_spec (hk r) hr
    exact ⟨a, b, e⟩

theorem xJ_C3 {t : Nat} {H : zp_H} (hJ : yJ 3 t H) : ∃ CC, xCC 22 CC H ∧ xCR CC H ∧ H.2.1 22 16 = H.2.1 72 8 ∧ (∀ r : Nat, (r : Int) < (H.2.1 72 8).toInt → H.2.1 30 r = H.2.1 79 r) ∧ H.2.1 22 12 = H.2.1 72 7 ∧ (∀ p : Nat, (p : Int) < (H.2.1 72 7).toInt → H.2.1 27 p = H.2.1 77 (3 * p) ∧ H.2.1 28 p = H.2.1 77 (3 * p + 1)) ∧ H.2.1 22 11 = H.2.1 72 11 ∧ (0 ≤ (H.2.1 72 7).toInt ∧ (H.2.1 72 7).toInt ≤ 4) := by
  have hB := hJ.1.1.1
  obtain ⟨-, q2, -, -, -, -, q7, q8⟩ := hJ.1.2.2
  have e16 : H.2.1 22 16 = H.2.1 72 8 := q2 (16, 8) (by decide)
  have e12 : H.2.1 22 12 = H.2.1 72 7 := q2 (12, 7) (by decide)
  have e11 : H.2.1 22 11 = H.2.1 72 11 := q2 (11, 11) (by decide)
  have b16 := zB_fr1 (zB_dn (zB_Bc hB)) (p := 22) (k := 16) (r := (0, 8)) rfl
  have b16 : 0 ≤ (H.2.1 22 16).toInt ∧ (H.2.1 22 16).toInt ≤ 8 := b16
  have b12 := zB_fr1 (zB_dn (zB_Bc hB)) (p := 22) (k := 12) (r := (0, 4)) rfl
  have b12 : 0 ≤ (H.2.1 22 12).toInt ∧ (H.2.1 22 12).toInt ≤ 4 := b12
  have hex : ∀ r : Nat, (r : Int) < (H.2.1 72 8).toInt → ∃ C, xOp 37 C ∧ xCl (ywp 3) H r C ∧ xRl 78 80 H r C ∧ (H.2.1 78 r).toInt + ((xR2 C).length : Int) + 1 ≤ 1600 := fun r hr => (q8 r hr).2.2
  have hk : ∀ r : Nat, ∃ C, (r : Int) < (H.2.1 72 8).toInt → xOp 37 C ∧ xCl (ywp 3) H r C ∧ xRl 78 80 H r C ∧ (H.2.1 78 r).toInt + ((xR2 C).length : Int) + 1 ≤ 1600 := fun r => by
    by_cases hr : (r : Int) < (H.2.1 72 8).toInt
    · obtain ⟨C, h⟩ := hex r hr
      exact ⟨C, fun _ => h⟩
    · exact ⟨[], fun h => absurd h hr⟩
  refine ⟨fun r => Classical.choose (hk r), ⟨b16, fun r hr => ?_, fun r hr => ?_⟩, ⟨by rw [← e16]; exact b16, fun r hr => ?_⟩, e16, fun r hr => (q8 r hr).1, e12, fun p hp => ⟨(q7 p hp).1, (q7 p hp).2.1⟩, e11, by rw [← e12]; exact b12⟩
  · rw [e16] at hr
    obtain ⟨a, b, -, -⟩ := Classical.choose_spec (hk r) hr
    exact ⟨a, b, (q8 r hr).2.1⟩
  · have b := zB_ar1 (zB_dn (zB_Bc hB)) (p := 30) (t := 0) (n := 8) (i := r) (r := (0, 3)) rfl (by omega) (by rw [show (zB_al zB_ar 30).1 = 1 from rfl, Nat.mod_one]; rfl)
    have b : 0 ≤ (H.2.1 30 r).toInt ∧ (H.2.1 30 r).toInt ≤ 3 := b
    show -1 ≤ (H.2.1 30 r).toInt ∧ (H.2.1 30 r).toInt ≤ 3
    omega
  · obtain ⟨a, -, b, e⟩ := Classical.choose_spec (hk r) hr
    exact ⟨a, b, e⟩
end
section
/-! ===== a pilot, both sides ===== -/

/-- how a pilot fares who has read these slates: the class's, the reference's -/
def xPc (S : xSea) (CC : Nat → List xIt) (wp cp : Nat) (H : zp_H) (p : Nat) (set : Int32) : Int32 × Int32 × Int32 := xPl S (H.2.1 wp 11).toInt (fun c h => xWb (xVl S c h (xKn (fun s => xWk (xVyc S cp H s)) set (H.2.1 cp 0).toInt.toNat (Int32.ofInt 0) (Int64.ofNat 0))) (H.2.1 (wp + 8)) CC (H.2.1 wp 16).toInt.toNat 0) 60 (H.2.1 (wp + 5) p) (H.2.1 (wp + 6) p) (xP0 S (H.2.1 wp 11).toInt (H.2.1 (wp + 5) p))
def xPr (S : xSea) (CC : Nat → List xIt) (H : zp_H) (p : Nat) (set : Int32) : Int32 × Int32 × Int32 := xPl S (H.2.1 72 11).toInt (fun c h => xWb (xVl S c h (xKn (fun s => xWk (xVyr S H s)) set (H.2.1 72 5).toInt.toNat (Int32.ofInt 0) (Int64.ofNat 0))) (H.2.1 79) CC (H.2.1 72 8).toInt.toNat 0) 60 (H.2.1 77 (3 * p)) (H.2.1 77 (3 * p + 1)) (xP0 S (H.2.1 72 11).toInt (H.2.1 77 (3 * p)))
theorem xPr_f {S : xSea} {CC : Nat → List xIt} {H K : zp_H} {p : Nat} {set : Int32} (e : ∀ k, k = 5 ∨ k = 8 ∨ k = 11 → K.2.1 72 k = H.2.1 72 k) (e2 : ∀ q k, q = 74 ∨ q = 75 ∨ q = 77 ∨ q = 79 → K.2.1 q k = H.2.1 q k) : xPr S CC K p set = xPr S CC H p set := by
  have ev : (fun s => xWk (xVyr S K s)) = fun s => xWk (xVyr S H s) := funext fun s => by
    rw [xVyr_f (fun k => e2 74 k (by decide)) (fun k => e2 75 k (by decide))]
  have e9 : K.2.1 79 = H.2.1 79 := funext fun k => e2 79 k (by decide)
  unfold xPr
  rw [ev, e9, e 5 (by decide), e 8 (by decide), e 11 (by decide), e2 77 _ (by decide), e2 77 _ (by decide)]
theorem xFk_r (H : zp_H) : xFk H H := ⟨rfl, rfl, fun _ _ _ _ _ _ _ => rfl, fun _ _ _ _ => rfl⟩
theorem xFk_tt {H H1 H2 : zp_H} (h1 : xFk H H1) (h2 : xFk H1 H2) : xFk H H2 := ⟨h2.1.trans h1.1, h2.2.1.trans h1.2.1, fun p k a b c e f => (h2.2.2.1 p k a b c e f).trans (h1.2.2.1 p k a b c e f), fun p k a b => (h2.2.2.2 p k a b).trans (h1.2.2.2 p k a b)⟩
theorem xFk_54 {H H1 : zp_H} (h : xFk H H1) : ∀ p k, p < 54 → H1.2.1 p k = H.2.1 p k := fun p k hp => h.2.2.1 p k (by omega) (by omega) (by omega) (by omega) (by omega)
theorem xSC_k {p : Nat} {H H1 : zp_H} {S : xSea} (h : xFk H H1) (hp : p = 2 ∨ p = 22) (hC : xSC p H S) : xSC p H1 S := by
  have e : ∀ q k, q = p ∨ q = p + 2 → H1.2.1 q k = H.2.1 q k := fun q k hq => xFk_54 h q k (by omega)
  have e1 : ∀ q k, q = p ∨ q = p + 1 → H1.2.2.1 q k = H.2.2.1 q k := fun q k hq => h.2.2.2 q k (by omega) (by omega)
  refine ⟨(congrArg Int32.toInt (e p 0 (Or.inl rfl))).trans hC.1, (congrArg Int32.toInt (e p 1 (Or.inl rfl))).trans hC.2.1, (e1 p 3 (Or.inl rfl)).trans hC.2.2.1, fun k hk => (congrArg Int32.toInt (e (p + 2) k (Or.inr rfl))).trans (hC.2.2.2.1 k hk), fun k hk => ?_⟩
  rw [e p 0 (Or.inl rfl), e p 1 (Or.inl rfl)]
  exact (e1 (p + 1) k (Or.inr rfl)).trans (hC.2.2.2.2 k hk)
/-- what the class's slates keep to -/
def xMk9 (S : xSea) (cp : Nat) (H : zp_H) : Prop := (0 ≤ (H.2.1 cp 0).toInt ∧ (H.2.1 cp 0).toInt ≤ 8) ∧ (∀ s : Nat, (s : Int) < (H.2.1 cp 0).toInt → 0 ≤ (H.2.1 (cp + 3) s).toInt ∧ (H.2.1 (cp + 3) s).toInt ≤ 8) ∧ (∀ s : Nat, (s : Int) < (H.2.1 cp 0).toInt → ∀ j, j < (H.2.1 (cp + 3) s).toInt.toNat → -1 ≤ (H.2.1 (cp + 5) (8 * s + j)).toInt ∧ (H.2.1 (cp + 5) (8 * s + j)).toInt ≤ 3) ∧ ∀ s : Nat, (s : Int) < (H.2.1 cp 0).toInt → xIn S (H.2.1 (cp + 1) s).toInt
theorem xMk9_f {S : xSea} {cp : Nat} {H H1 : zp_H} (e : ∀ p k, cp ≤ p → p ≤ cp + 5 → H1.2.1 p k = H.2.1 p k) (h : xMk9 S cp H) : xMk9 S cp H1 := by
  obtain ⟨h1, h2, h3, h4⟩ := h
  have e0 := e cp 0 (Nat.le_refl _) (by omega)
  unfold xMk9
  rw [e0]
  refine ⟨h1, fun s hs => by rw [e (cp + 3) s (by omega) (by omega)]; exact h2 s hs, fun s hs j hj => ?_, fun s hs => by rw [e (cp + 1) s (by omega) (by omega)]; exact h4 s hs⟩
  rw [e (cp + 3) s (by omega) (by omega)] at hj
  rw [e (cp + 5) _ (by omega) (by omega)]
  exact h3 s hs j hj
/-- what the reference's slates keep to -/
def xMr9 (S : xSea) (H : zp_H) : Prop := (0 ≤ (H.2.1 72 5).toInt ∧ (H.2.1 72 5).toInt ≤ 8) ∧ (∀ s : Nat, (s : Int) < (H.2.1 72 5).toInt → 0 ≤ (H.2.1 74 (4 * s + 2)).toInt ∧ (H.2.1 74 (4 * s + 2)).toInt ≤ 8) ∧ ∀ s : Nat, (s : Int) < (H.2.1 72 5).toInt → xIn S (H.2.1 74 (4 * s)).toInt
theorem xMr9_f {S : xSea} {H H1 : zp_H} (e5 : H1.2.1 72 5 = H.2.1 72 5) (e : ∀ k, H1.2.1 74 k = H.2.1 74 k) (h : xMr9 S H) : xMr9 S H1 := by
  unfold xMr9
  rw [e5]
  exact ⟨h.1, fun s hs => by rw [e]; exact h.2.1 s hs, fun s hs => by rw [e]; exact h.2.2 s hs⟩

/-- known, at a later time -/
theorem xh_kb2 {L : Nat} {σ : Nat → Int32} {d : Nat} {S : xSea} {set : Int32} {H0 H : zp_H} (hF : xFk H0 H) (W : zw_W H) (hS : xOk S) (hC : xSC 2 H0 S) (hM : xMk9 S 13 H0) : ∃ H1, zp_Call L σ (d + 6) 23 [.inr (.inr (some 55)), .inr (.inr (some 3)), .inr (.inr (some 14)), .inl set] H (.inl (some (.inr (.inl (xKn (fun s => xWk (xVyc S 13 H0 s)) set (H0.2.1 13 0).toInt.toNat (Int32.ofInt 0) (Int64.ofNat 0))))), H1) ∧ zw_W H1 ∧ xFk H0 H1 := by
  have hM1 := xMk9_f (fun p k _ _ => xFk_54 hF p k (by omega)) hM
  obtain ⟨_, c1, H1, rfl, W1, c2⟩ := xh_kn2 (L := L) (σ := σ) (d := d) (set := set) hS (xSC_k hF (by decide) hC) hM1.1 hM1.2.1 hM1.2.2.1 hM1.2.2.2 W
  have ev : (fun s => xWk (xVyc S 13 H s)) = fun s => xWk (xVyc S 13 H0 s) := funext fun s => by
    rw [xVyc_f (fun q k _ _ => xFk_54 hF q k (by omega))]
  rw [ev, xFk_54 hF 13 0 (by decide)] at c1
  exact ⟨H1, c1, W1, xFk_tt hF (xFk_t c2 (xFg_r H1))⟩
/-- a pilot sails, at a later time -/
theorem xh_sv2 {L : Nat} {σ : Nat → Int32} {d : Nat} {p set : Int32} {S : xSea} {CC : Nat → List xIt} {H0 H : zp_H} (hF : xFk H0 H) (W : zw_W H) (hS : xOk S) (hC : xSC 2 H0 S) (hCC : xCC 2 CC H0) (hp : 0 ≤ p.toInt ∧ p.toInt < 4) (hc : xIn S (H0.2.1 7 p.toInt.toNat).toInt) : ∃ K, zp_Call L σ (d + 5) 35 [.inr (.inr (some 57)), .inr (.inr (some 3)), .inl p, .inr (.inl (xKn (fun s => xWk (xVyc S 13 H0 s)) set (H0.2.1 13 0).toInt.toNat (Int32.ofInt 0) (Int64.ofNat 0)))] H (.inl none, K) ∧ zw_W K ∧ xFk H0 K ∧ (K.2.1 57 0, K.2.1 57 1, K.2.1 57 2) = xPc S CC 2 13 H0 p.toInt.toNat set := by
  have f := xFk_54 hF
  obtain ⟨_, b1, K, rfl, W2, b2, b3⟩ := xh_sb2 (L := L) (σ := σ) (d := d) (p := p) (u := (xKn (fun s => xWk (xVyc S 13 H0 s)) set (H0.2.1 13 0).toInt.toNat (Int32.ofInt 0) (Int64.ofNat 0))) hS (xSC_k hF (by decide) hC) (xCC_v (by decide) f hCC) W hp (by rw [f 7 _ (by decide)]; exact hc)
  rw [f 7 _ (by decide), f 8 _ (by decide), f 2 11 (by decide), f 2 16 (by decide), show H.2.1 10 = H0.2.1 10 from funext (fun k => f 10 k (by decide))] at b3
  exact ⟨K, b1, W2, xFk_tt hF ⟨b2.1, b2.2.1, fun p k _ b c e f => b2.2.2.1 p k b c e f, fun p k _ b => b2.2.2.2 p k b⟩, b3⟩

/-- known, at a later time -/
theorem xh_kb22 {L : Nat} {σ : Nat → Int32} {d : Nat} {S : xSea} {set : Int32} {H0 H : zp_H} (hF : xFk H0 H) (W : zw_W H) (hS : xOk S) (hC : xSC 22 H0 S) (hM : xMk9 S 33 H0) : ∃ H1, zp_Call L σ (d + 6) 23 [.inr (.inr (some 55)), .inr (.inr (some 23)), .inr (.inr (some 34)), .inl set] H (.inl (some (.inr (.inl (xKn (fun s => xWk (xVyc S 33 H0 s)) set (H0.2.1 33 0).toInt.toNat (Int32.ofInt 0) (Int64.ofNat 0))))), H1) ∧ zw_W H1 ∧ xFk H0 H1 := by
  have hM1 := xMk9_f (fun p k _ _ => xFk_54 hF p k (by omega)) hM
  obtain ⟨_, c1, H1, rfl, W1, c2⟩ := xh_kn22 (L := L) (σ := σ) (d := d) (set := set) hS (xSC_k hF (by decide) hC) hM1.1 hM1.2.1 hM1.2.2.1 hM1.2.2.2 W
  have ev : (fun s => xWk (xVyc S 33 H s)) = fun s => xWk (xVyc S 33 H0 s) := funext fun s => by
    rw [xVyc_f (fun q k _ _ => xFk_54 hF q k (by omega))]
  rw [ev, xFk_54 hF 33 0 (by decide)] at c1
  exact ⟨H1, c1, W1, xFk_tt hF (xFk_t c2 (xFg_r H1))⟩
/-- a pilot sails, at a later time -/
theorem xh_sv22 {L : Nat} {σ : Nat → Int32} {d : Nat} {p set : Int32} {S : xSea} {CC : Nat → List xIt} {H0 H : zp_H} (hF : xFk H0 H) (W : zw_W H) (hS : xOk S) (hC : xSC 22 H0 S) (hCC : xCC 22 CC H0) (hp : 0 ≤ p.toInt ∧ p.toInt < 4) (hc : xIn S (H0.2.1 27 p.toInt.toNat).toInt) : ∃ K, zp_Call L σ (d + 5) 35 [.inr (.inr (some 57)), .inr (.inr (some 23)), .inl p, .inr (.inl (xKn (fun s => xWk (xVyc S 33 H0 s)) set (H0.2.1 33 0).toInt.toNat (Int32.ofInt 0) (Int64.ofNat 0)))] H (.inl none, K) ∧ zw_W K ∧ xFk H0 K ∧ (K.2.1 57 0, K.2.1 57 1, K.2.1 57 2) = xPc S CC 22 33 H0 p.toInt.toNat set := by
  have f := xFk_54 hF
  obtain ⟨_, b1, K, rfl, W2, b2, b3⟩ := xh_sb22 (L := L) (σ := σ) (d := d) (p := p) (u := (xKn (fun s => xWk (xVyc S 33 H0 s)) set (H0.2.1 33 0).toInt.toNat (Int32.ofInt 0) (Int64.ofNat 0))) hS (xSC_k hF (by decide) hC) (xCC_v (by decide) f hCC) W hp (by rw [f 27 _ (by decide)]; exact hc)
  rw [f 27 _ (by decide), f 28 _ (by decide), f 22 11 (by decide), f 22 16 (by decide), show H.2.1 30 = H0.2.1 30 from funext (fun k => f 30 k (by decide))] at b3
  exact ⟨K, b1, W2, xFk_tt hF ⟨b2.1, b2.2.1, fun p k _ b c e f => b2.2.2.1 p k b c e f, fun p k _ b => b2.2.2.2 p k b⟩, b3⟩

theorem xJ_M0 {t : Nat} {H : zp_H} (hI : yJ 0 t H) : xMk9 (xSo H) 13 H ∧ xMr9 (xSo H) H ∧ H.2.1 13 0 = H.2.1 72 5 ∧ (∀ p : Nat, (p : Int) < (H.2.1 72 7).toInt → xIn (xSo H) (H.2.1 77 (3 * p)).toInt) ∧ ∀ K : zp_H, (∀ k, K.2.1 74 k = H.2.1 74 k) → (∀ k, K.2.1 75 k = H.2.1 75 k) → ∀ s : Nat, (s : Int) < (H.2.1 72 5).toInt → xVyr (xSo H) K s = xVyc (xSo H) 13 H s := by
  obtain ⟨⟨A, a1, a2, a3⟩, -⟩ := id hI.2
  have hr : yGr H := hI.2.2.2.2.2.2
  have n5 := a3.1
  have n0 := a2.1
  have n0 : (H.2.1 13 0).toInt = A.1 := n0
  have n8 := a1.1
  have e05 : H.2.1 13 0 = H.2.1 72 5 := Int32.toInt_inj.mp (by rw [n0, ← n5])
  refine ⟨⟨⟨by omega, by omega⟩, fun s hs => ?_, fun s hs j hj => ?_, fun s hs => ?_⟩, ⟨⟨by omega, by omega⟩, fun s hs => ?_, fun s hs => hr.1 s hs⟩, e05, fun p hp => hr.2.2 p hp, fun K f4 f5 s hs => ?_⟩
  · have e : H.2.1 16 s = A.2.2.1 s 2 := a2.2.2.1 s 2 (by omega) (by decide)
    rw [e]
    exact a1.2.2.1 s (by omega)
  · have e : H.2.1 16 s = A.2.2.1 s 2 := a2.2.2.1 s 2 (by omega) (by decide)
    have hm9 := a1.2.2.1 s (show s < A.1 by omega)
    have hj : j < (H.2.1 16 s).toInt.toNat := hj
    rw [e] at hj
    have b := zB_ar1 (zB_dn (zB_Bc hI.1.1.1)) (p := 18) (t := 0) (n := 64) (i := 8 * s + j) (r := (0, 3)) rfl (by omega) (by rw [show (zB_al zB_ar 18).1 = 1 from rfl, Nat.mod_one]; rfl)
    have b : 0 ≤ (H.2.1 18 (8 * s + j)).toInt ∧ (H.2.1 18 (8 * s + j)).toInt ≤ 3 := b
    exact ⟨by show -1 ≤ (H.2.1 18 (8 * s + j)).toInt; omega, b.2⟩
  · have e : H.2.1 14 s = A.2.2.1 s 0 := a2.2.2.1 s 0 (by omega) (by decide)
    have e2 : H.2.1 74 (4 * s) = A.2.2.1 s 0 := a3.2.2.1 s 0 (by omega) (by decide)
    rw [e, ← e2]
    exact hr.1 s (by omega)
  · have e : H.2.1 74 (4 * s + 2) = A.2.2.1 s 2 := a3.2.2.1 s 2 (by omega) (by decide)
    rw [e]
    exact a1.2.2.1 s (by omega)
  · have hsA : s < A.1 := by omega
    have l0 : H.2.1 74 (4 * s + 2) = A.2.2.1 s 2 := a3.2.2.1 _ 2 hsA (by decide)
    have l1 : H.2.1 74 (4 * s) = A.2.2.1 s 0 := a3.2.2.1 _ 0 hsA (by decide)
    have l2 : H.2.1 74 (4 * s + 1) = A.2.2.1 s 1 := a3.2.2.1 _ 1 hsA (by decide)
    have k0 : H.2.1 16 s = A.2.2.1 s 2 := a2.2.2.1 _ 2 hsA (by decide)
    have k1 : H.2.1 14 s = A.2.2.1 s 0 := a2.2.2.1 _ 0 hsA (by decide)
    have k2 : H.2.1 15 s = A.2.2.1 s 1 := a2.2.2.1 _ 1 hsA (by decide)
    have hm9 := a1.2.2.1 s hsA
    unfold xVyr xVyc
    show xVy (xSo H) _ _ (K.2.1 74 (4 * s + 2)).toInt.toNat (Int32.ofInt 0) (K.2.1 74 (4 * s)) (K.2.1 74 (4 * s + 1)) = xVy (xSo H) _ _ (H.2.1 16 s).toInt.toNat (Int32.ofInt 0) (H.2.1 14 s) (H.2.1 15 s)
    rw [f4, f4, f4, l0, l1, l2, k0, k1, k2]
    refine xVy_c (m := (A.2.2.1 s 2).toInt.toNat) (fun j hj => ⟨?_, ?_⟩) _ _ _ _ (by decide) (by rw [show (Int32.ofInt 0).toInt = 0 by decide]; omega) (by omega)
    · show K.2.1 75 (16 * s + 2 * j) = H.2.1 18 (8 * s + j)
      rw [f5]
      exact (a3.2.2.2.1 s j 0 hsA hj (by decide)).trans (a2.2.2.2.1 s j 0 hsA hj (by decide)).symm
    · show K.2.1 75 (16 * s + 2 * j + 1) = H.2.1 19 (8 * s + j)
      rw [f5]
      exact (a3.2.2.2.1 s j 1 hsA hj (by decide)).trans (a2.2.2.2.1 s j 1 hsA hj (by decide)).symm
/-- both sides say the same of a pilot -/
theorem xJ_P0 {t : Nat} {H : zp_H} (hI : yJ 0 t H) {CC : Nat → List xIt} (e16 : H.2.1 2 16 = H.2.1 72 8) (h8 : 0 ≤ (H.2.1 72 8).toInt ∧ (H.2.1 72 8).toInt ≤ 8) (e79 : ∀ r : Nat, (r : Int) < (H.2.1 72 8).toInt → H.2.1 10 r = H.2.1 79 r) (e77 : ∀ p : Nat, (p : Int) < (H.2.1 72 7).toInt → H.2.1 7 p = H.2.1 77 (3 * p) ∧ H.2.1 8 p = H.2.1 77 (3 * p + 1)) (e11 : H.2.1 2 11 = H.2.1 72 11) {p : Nat} (hp : (p : Int) < (H.2.1 72 7).toInt) (set : Int32) : xPr (xSo H) CC H p set = xPc (xSo H) CC 2 13 H p set := by
  obtain ⟨m1, m2, e05, m3, m4⟩ := xJ_M0 hI
  obtain ⟨p5, p6⟩ := e77 p hp
  have gk : xKn (fun s => xWk (xVyr (xSo H) H s)) set (H.2.1 72 5).toInt.toNat (Int32.ofInt 0) (Int64.ofNat 0) = xKn (fun s => xWk (xVyc (xSo H) 13 H s)) set (H.2.1 72 5).toInt.toNat (Int32.ofInt 0) (Int64.ofNat 0) := by
    have b5 := m2.1
    refine xKn_c _ _ _ (by decide) (by rw [show (Int32.ofInt 0).toInt = 0 by decide]; omega) (fun s hs => ?_)
    rw [show (Int32.ofInt 0).toInt = 0 by decide] at hs
    show xWk _ = xWk _
    rw [m4 H (fun _ => rfl) (fun _ => rfl) s (by omega)]
  unfold xPr xPc
  show xPl (xSo H) _ _ 60 _ _ (xP0 (xSo H) _ _) = xPl (xSo H) (H.2.1 2 11).toInt (fun c h => xWb (xVl (xSo H) c h (xKn (fun s => xWk (xVyc (xSo H) 13 H s)) set (H.2.1 13 0).toInt.toNat (Int32.ofInt 0) (Int64.ofNat 0))) (H.2.1 10) CC (H.2.1 2 16).toInt.toNat 0) 60 (H.2.1 7 p) (H.2.1 8 p) (xP0 (xSo H) (H.2.1 2 11).toInt (H.2.1 7 p))
  rw [gk, p5, p6, e11, e05, e16]
  refine congrFun (congrFun (congrFun (congrFun (xPl_c (fun c h => xWb_c _ _ (fun r hr9 => ?_))) _) _) _) _
  have hr9 : r < 0 + (H.2.1 72 8).toInt.toNat := hr9
  exact (e79 r (by omega)).symm

theorem xJ_M3 {t : Nat} {H : zp_H} (hI : yJ 3 t H) : xMk9 (xSo H) 33 H ∧ xMr9 (xSo H) H ∧ H.2.1 33 0 = H.2.1 72 5 ∧ (∀ p : Nat, (p : Int) < (H.2.1 72 7).toInt → xIn (xSo H) (H.2.1 77 (3 * p)).toInt) ∧ ∀ K : zp_H, (∀ k, K.2.1 74 k = H.2.1 74 k) → (∀ k, K.2.1 75 k = H.2.1 75 k) → ∀ s : Nat, (s : Int) < (H.2.1 72 5).toInt → xVyr (xSo H) K s = xVyc (xSo H) 33 H s := by
  obtain ⟨⟨A, a1, a2, a3⟩, -⟩ := id hI.2
  have hr : yGr H := hI.2.2.2.2.2.2
  have n5 := a3.1
  have n0 := a2.1
  have n0 : (H.2.1 33 0).toInt = A.1 := n0
  have n8 := a1.1
  have e05 : H.2.1 33 0 = H.2.1 72 5 := Int32.toInt_inj.mp (by rw [n0, ← n5])
  refine ⟨⟨⟨by omega, by omega⟩, fun s hs => ?_, fun s hs j hj => ?_, fun s hs => ?_⟩, ⟨⟨by omega, by omega⟩, fun s hs => ?_, fun s hs => hr.1 s hs⟩, e05, fun p hp => hr.2.2 p hp, fun K f4 f5 s hs => ?_⟩
  · have e : H.2.1 36 s = A.2.2.1 s 2 := a2.2.2.1 s 2 (by omega) (by decide)
    rw [e]
    exact a1.2.2.1 s (by omega)
  · have e : H.2.1 36 s = A.2.2.1 s 2 := a2.2.2.1 s 2 (by omega) (by decide)
    have hm9 := a1.2.2.1 s (show s < A.1 by omega)
    have hj : j < (H.2.1 36 s).toInt.toNat := hj
    rw [e] at hj
    have b := zB_ar1 (zB_dn (zB_Bc hI.1.1.1)) (p := 38) (t := 0) (n := 64) (i := 8 * s + j) (r := (0, 3)) rfl (by omega) (by rw [show (zB_al zB_ar 38).1 = 1 from rfl, Nat.mod_one]; rfl)
    have b : 0 ≤ (H.2.1 38 (8 * s + j)).toInt ∧ (H.2.1 38 (8 * s + j)).toInt ≤ 3 := b
    exact ⟨by show -1 ≤ (H.2.1 38 (8 * s + j)).toInt; omega, b.2⟩
  · have e : H.2.1 34 s = A.2.2.1 s 0 := a2.2.2.1 s 0 (by omega) (by decide)
    have e2 : H.2.1 74 (4 * s) = A.2.2.1 s 0 := a3.2.2.1 s 0 (by omega) (by decide)
    rw [e, ← e2]
    exact hr.1 s (by omega)
  · have e : H.2.1 74 (4 * s + 2) = A.2.2.1 s 2 := a3.2.2.1 s 2 (by omega) (by decide)
    rw [e]
    exact a1.2.2.1 s (by omega)
  · have hsA : s < A.1 := by omega
    have l0 : H.2.1 74 (4 * s + 2) = A.2.2.1 s 2 := a3.2.2.1 _ 2 hsA (by decide)
    have l1 : H.2.1 74 (4 * s) = A.2.2.1 s 0 := a3.2.2.1 _ 0 hsA (by decide)
    have l2 : H.2.1 74 (4 * s + 1) = A.2.2.1 s 1 := a3.2.2.1 _ 1 hsA (by decide)
    have k0 : H.2.1 36 s = A.2.2.1 s 2 := a2.2.2.1 _ 2 hsA (by decide)
    have k1 : H.2.1 34 s = A.2.2.1 s 0 := a2.2.2.1 _ 0 hsA (by decide)
    have k2 : H.2.1 35 s = A.2.2.1 s 1 := a2.2.2.1 _ 1 hsA (by decide)
    have hm9 := a1.2.2.1 s hsA
    unfold xVyr xVyc
    show xVy (xSo H) _ _ (K.2.1 74 (4 * s + 2)).toInt.toNat (Int32.ofInt 0) (K.2.1 74 (4 * s)) (K.2.1 74 (4 * s + 1)) = xVy (xSo H) _ _ (H.2.1 36 s).toInt.toNat (Int32.ofInt 0) (H.2.1 34 s) (H.2.1 35 s)
    rw [f4, f4, f4, l0, l1, l2, k0, k1, k2]
    refine xVy_c (m := (A.2.2.1 s 2).toInt.toNat) (fun j hj => ⟨?_, ?_⟩) _ _ _ _ (by decide) (by rw [show (Int32.ofInt 0).toInt = 0 by decide]; omega) (by omega)
    · show K.2.1 75 (16 * s + 2 * j) = H.2.1 38 (8 * s + j)
      rw [f5]
      exact (a3.2.2.2.1 s j 0 hsA hj (by decide)).trans (a2.2.2.2.1 s j 0 hsA hj (by decide)).symm
    · show K.2.1 75 (16 * s + 2 * j + 1) = H.2.1 39 (8 * s + j)
      rw [f5]
      exact (a3.2.2.2.1 s j 1 hsA hj (by decide)).trans (a2.2.2.2.1 s j 1 hsA hj (by decide)).symm
/-- both sides say the same of a pilot -/
theorem xJ_P3 {t : Nat} {H : zp_H} (hI : yJ 3 t H) {CC : Nat → List xIt} (e16 : H.2.1 22 16 = H.2.1 72 8) (h8 : 0 ≤ (H.2.1 72 8).toInt ∧ (H.2.1 72 8).toInt ≤ 8) (e79 : ∀ r : Nat, (r : Int) < (H.2.1 72 8).toInt → H.2.1 30 r = H.2.1 79 r) (e77 : ∀ p : Nat, (p : Int) < (H.2.1 72 7).toInt → H.2.1 27 p = H.2.1 77 (3 * p) ∧ H.2.1 28 p = H.2.1 77 (3 * p + 1)) (e11 : H.2.1 22 11 = H.2.1 72 11) {p : Nat} (hp : (p : Int) < (H.2.1 72 7).toInt) (set : Int32) : xPr (xSo H) CC H p set = xPc (xSo H) CC 22 33 H p set := by
  obtain ⟨m1, m2, e05, m3, m4⟩ := xJ_M3 hI
  obtain ⟨p5, p6⟩ := e77 p hp
  have gk : xKn (fun s => xWk (xVyr (xSo H) H s)) set (H.2.1 72 5).toInt.toNat (Int32.ofInt 0) (Int64.ofNat 0) = xKn (fun s => xWk (xVyc (xSo H) 33 H s)) set (H.2.1 72 5).toInt.toNat (Int32.ofInt 0) (Int64.ofNat 0) := by
    have b5 := m2.1
    refine xKn_c _ _ _ (by decide) (by rw [show (Int32.ofInt 0).toInt = 0 by decide]; omega) (fun s hs => ?_)
    rw [show (Int32.ofInt 0).toInt = 0 by decide] at hs
    show xWk _ = xWk _
    rw [m4 H (fun _ => rfl) (fun _ => rfl) s (by omega)]
  unfold xPr xPc
  show xPl (xSo H) _ _ 60 _ _ (xP0 (xSo H) _ _) = xPl (xSo H) (H.2.1 22 11).toInt (fun c h => xWb (xVl (xSo H) c h (xKn (fun s => xWk (xVyc (xSo H) 33 H s)) set (H.2.1 33 0).toInt.toNat (Int32.ofInt 0) (Int64.ofNat 0))) (H.2.1 30) CC (H.2.1 22 16).toInt.toNat 0) 60 (H.2.1 27 p) (H.2.1 28 p) (xP0 (xSo H) (H.2.1 22 11).toInt (H.2.1 27 p))
  rw [gk, p5, p6, e11, e05, e16]
  refine congrFun (congrFun (congrFun (congrFun (xPl_c (fun c h => xWb_c _ _ (fun r hr9 => ?_))) _) _) _) _
  have hr9 : r < 0 + (H.2.1 72 8).toInt.toNat := hr9
  exact (e79 r (by omega)).symm
end
section
/-! ===== exam ===== -/
def zm_22 : za_MI := (yX11_exam, prog_1_method_19_code, 5, (some FieldType.int), 11, 0, 0, [], za_i22)
theorem zm_22_t : za_MT 22 = some zm_22 := rfl
def zm_236 : za_MI := (yX12_exam, prog_14_method_73_code, 3, (some FieldType.int), 12, 0, 0, [], za_i236)
theorem zm_236_t : za_MT 236 = some zm_236 := rfl
/-- who comes through, pilot by pilot -/
def xEx (f : Nat → Bool) : Nat → Int32 → Int32 → Int32
  | 0, _, v => v
  | n + 1, p, v => xEx f n (p + Int32.ofInt 1) (if f p.toInt.toNat = true then v ||| Int32.ofInt 1 <<< (p &&& 31) else v)
theorem xEx_y {f : Nat → Bool} {n : Nat} {p v : Int32} (h : f p.toInt.toNat = true) : xEx f (n + 1) p v = xEx f n (p + Int32.ofInt 1) (v ||| Int32.ofInt 1 <<< (p &&& 31)) := by
  show xEx f n (p + Int32.ofInt 1) (if _ then _ else _) = _
  rw [if_pos h]
theorem xEx_n {f : Nat → Bool} {n : Nat} {p v : Int32} (h : ¬ f p.toInt.toNat = true) : xEx f (n + 1) p v = xEx f n (p + Int32.ofInt 1) v := by
  show xEx f n (p + Int32.ofInt 1) (if _ then _ else _) = _
  rw [if_neg h]
theorem xEx_c {f g : Nat → Bool} : ∀ (n : Nat) (p v : Int32), 0 ≤ p.toInt → p.toInt + n ≤ 4 → (∀ j : Nat, (j : Int) < p.toInt + n → f j = g j) → xEx f n p v = xEx g n p v
  | 0, _, _, _, _, _ => rfl
  | n + 1, p, v, h0, h4, h => by
    have e : (p + Int32.ofInt 1).toInt = p.toInt + 1 := zw_p1 (by omega)
    have hp := h p.toInt.toNat (by omega)
    by_cases h9 : f p.toInt.toNat = true
    · rw [xEx_y h9, xEx_y (by rw [← hp]; exact h9)]
      exact xEx_c n _ _ (by omega) (by omega) (fun j hj => h j (by omega))
    · rw [xEx_n h9, xEx_n (by rw [← hp]; exact h9)]
      exact xEx_c n _ _ (by omega) (by omega) (fun j hj => h j (by omega))

theorem yc_exL0 {L : Nat} {σ : Nat → Int32} {d : Nat} {P : zp_X → Prop} {S : xSea} {CC : Nat → List xIt} {H0 : zp_H} (hB : zk_Bs (zB_c 0) zg zJc H0) (hS : xOk S) (hC : xSC 2 H0 S) (hCC : xCC 2 CC H0) (hM : xMk9 S 13 H0) (h4 : 0 ≤ (H0.2.1 2 12).toInt ∧ (H0.2.1 2 12).toInt ≤ 4) (hc : ∀ q : Nat, (q : Int) < (H0.2.1 2 12).toInt → xIn S (H0.2.1 7 q).toInt) : ∀ (n : Nat) (H : zp_H) (lv : zp_LV) (p v : Int32), zw_W H → xFk H0 H → 0 ≤ p.toInt → p.toInt + (n : Int) = (H0.2.1 2 12).toInt → zp_get lv 0 = some (.inr (.inr (some 1))) → zp_get lv 1 = some (.inl v) → zp_get lv 2 = some (.inl p) → (∀ K, zw_W K → xFk H0 K → P (.inl (some (.inl (xEx (fun q => decide ((xPc S CC 2 13 H0 q (H0.2.1 9 q)).2.2.toInt = 4)) n p v))), K)) → zs_Safe L σ P zm_22 [] (d + 6) (4, lv, [], H, (0, 0)) := by
  intro n
  induction n with
  | zero =>
    intro H lv p v W hF h5 hn l0 l1 l2 hP
    have g5 : H.2.2.2 0 5 = some 3 := by
      rw [hF.2.1]
      exact hB.2.1 0 5 _ rfl
    have g6 : H.2.2.2 0 6 = some 14 := by
      rw [hF.2.1]
      exact hB.2.1 0 6 _ rfl
    have g7 : H.2.2.2 0 7 = some 23 := by
      rw [hF.2.1]
      exact hB.2.1 0 7 _ rfl
    have g8 : H.2.2.2 0 8 = some 34 := by
      rw [hF.2.1]
      exact hB.2.1 0 8 _ rfl
    have f := xFk_54 hF
    have hN : H.2.1 2 12 = H0.2.1 2 12 := f 2 12 (by decide)
    refine zw_ld (n := 1) (k := 2) (f := zp_isI) (pc' := 5) rfl rfl l2 rfl rfl ?_
    refine zw_ld (n := 1) (k := 0) (f := zp_isR) (pc' := 6) rfl rfl l0 rfl rfl ?_
    refine zw_gR (q := 0) (pc' := 9) W rfl rfl rfl rfl g5 rfl ?_
    refine zw_gI (q := 2) (pc' := 12) W rfl rfl rfl rfl rfl rfl ?_
    rw [hN]
    refine zw_bge2 (g := 79) (pc' := 15) rfl rfl rfl rfl rfl (fun h1 => ?_) (fun h1 => ?_)
    · refine zw_ld (n := 1) (k := 1) (f := zp_isI) (pc' := 80) rfl rfl l1 rfl rfl ?_
      refine zw_ri rfl rfl ?_
      exact hP H W hF
    · have hn : p.toInt + ((0 : Nat) : Int) = (H0.2.1 2 12).toInt := hn
      omega
  | succ n ih =>
    intro H lv p v W hF h5 hn l0 l1 l2 hP
    have g5 : H.2.2.2 0 5 = some 3 := by
      rw [hF.2.1]
      exact hB.2.1 0 5 _ rfl
    have g6 : H.2.2.2 0 6 = some 14 := by
      rw [hF.2.1]
      exact hB.2.1 0 6 _ rfl
    have g7 : H.2.2.2 0 7 = some 23 := by
      rw [hF.2.1]
      exact hB.2.1 0 7 _ rfl
    have g8 : H.2.2.2 0 8 = some 34 := by
      rw [hF.2.1]
      exact hB.2.1 0 8 _ rfl
    have f := xFk_54 hF
    have hN : H.2.1 2 12 = H0.2.1 2 12 := f 2 12 (by decide)
    refine zw_ld (n := 1) (k := 2) (f := zp_isI) (pc' := 5) rfl rfl l2 rfl rfl ?_
    refine zw_ld (n := 1) (k := 0) (f := zp_isR) (pc' := 6) rfl rfl l0 rfl rfl ?_
    refine zw_gR (q := 0) (pc' := 9) W rfl rfl rfl rfl g5 rfl ?_
    refine zw_gI (q := 2) (pc' := 12) W rfl rfl rfl rfl rfl rfl ?_
    rw [hN]
    refine zw_bge2 (g := 79) (pc' := 15) rfl rfl rfl rfl rfl (fun h1 => ?_) (fun h1 => ?_)
    · omega
    · have ep : (p + Int32.ofInt 1).toInt = p.toInt + 1 := zw_p1 (by omega)
      obtain ⟨H1, a1, W1, F1⟩ := xh_kb2 (L := L) (σ := σ) (d := d) (set := (H0.2.1 9 p.toInt.toNat)) hF W hS hC hM
      obtain ⟨K, b1, W2, F2, b3⟩ := xh_sv2 (L := L) (σ := σ) (d := d + 1) (p := p) (set := (H0.2.1 9 p.toInt.toNat)) F1 W1 hS hC hCC ⟨h5, by omega⟩ (hc _ (by omega))
      have b32 : K.2.1 57 2 = (xPc S CC 2 13 H0 p.toInt.toNat (H0.2.1 9 p.toInt.toNat)).2.2 := congrArg (fun z => z.2.2) b3
      refine zw_ld (n := 1) (k := 0) (f := zp_isR) (pc' := 16) rfl rfl l0 rfl rfl ?_
      refine zw_gR (q := 0) (pc' := 19) W rfl rfl rfl rfl (W.2 0 12 _ rfl) rfl ?_
      refine zw_ld (n := 1) (k := 0) (f := zp_isR) (pc' := 20) rfl rfl l0 rfl rfl ?_
      refine zw_gR (q := 0) (pc' := 23) W rfl rfl rfl rfl g5 rfl ?_
      refine zw_ld (n := 1) (k := 0) (f := zp_isR) (pc' := 24) rfl rfl l0 rfl rfl ?_
      refine zw_gR (q := 0) (pc' := 27) W rfl rfl rfl rfl g6 rfl ?_
      refine zw_ld (n := 1) (k := 0) (f := zp_isR) (pc' := 28) rfl rfl l0 rfl rfl ?_
      refine zw_gR (q := 0) (pc' := 31) W rfl rfl rfl rfl g5 rfl ?_
      refine zw_gR (q := 2) (pc' := 34) W rfl rfl rfl rfl (W.2 2 15 _ rfl) rfl ?_
      refine zw_ld (n := 1) (k := 2) (f := zp_isI) (pc' := 35) rfl rfl l2 rfl rfl ?_
      refine zw_ia (q := 9) (pc' := 36) W rfl rfl (by decide) (⟨h5, by show _ < ((4 : Nat) : Int); omega⟩) rfl rfl ?_
      rw [f 9 _ (by decide)]
      refine zw_c (pc' := 39) (zw_cv (q := 54) (Y := zm_23) W.1 rfl rfl zm_23_t rfl rfl) rfl rfl rfl rfl rfl (a1) ?_
      have g5 : H1.2.2.2 0 5 = some 3 := by
        rw [F1.2.1]
        exact hB.2.1 0 5 _ rfl
      have g6 : H1.2.2.2 0 6 = some 14 := by
        rw [F1.2.1]
        exact hB.2.1 0 6 _ rfl
      have g7 : H1.2.2.2 0 7 = some 23 := by
        rw [F1.2.1]
        exact hB.2.1 0 7 _ rfl
      have g8 : H1.2.2.2 0 8 = some 34 := by
        rw [F1.2.1]
        exact hB.2.1 0 8 _ rfl
      refine zw_sl (n := 1) (k := 3) (pc' := 40) rfl rfl rfl rfl ?_
      refine zw_ld (n := 1) (k := 0) (f := zp_isR) (pc' := 41) rfl rfl (zw_gt2 l0 rfl rfl) rfl rfl ?_
      refine zw_gR (q := 0) (pc' := 44) W1 rfl rfl rfl rfl (W1.2 0 14 _ rfl) rfl ?_
      refine zw_ld (n := 1) (k := 0) (f := zp_isR) (pc' := 45) rfl rfl (zw_gt2 l0 rfl rfl) rfl rfl ?_
      refine zw_gR (q := 0) (pc' := 48) W1 rfl rfl rfl rfl g5 rfl ?_
      refine zw_ld (n := 1) (k := 2) (f := zp_isI) (pc' := 49) rfl rfl (zw_gt2 l2 rfl rfl) rfl rfl ?_
      refine zw_ld (n := 1) (k := 3) (f := zp_isL) (pc' := 50) rfl rfl zw_g2 rfl rfl ?_
      refine zw_cn (pc' := 53) (zw_cv (q := 56) (Y := zm_35) W1.1 rfl rfl zm_35_t rfl rfl) rfl rfl rfl rfl rfl (b1) ?_
      refine zw_ld (n := 1) (k := 0) (f := zp_isR) (pc' := 54) rfl rfl (zw_gt2 l0 rfl rfl) rfl rfl ?_
      refine zw_gR (q := 0) (pc' := 57) W2 rfl rfl rfl rfl (W2.2 0 14 _ rfl) rfl ?_
      refine zw_gR (q := 56) (pc' := 60) W2 rfl rfl rfl rfl (W2.2 56 0 _ rfl) rfl ?_
      refine zw_gI (q := 57) (pc' := 63) W2 rfl rfl rfl rfl rfl rfl ?_
      refine zw_s (pc' := 64) rfl rfl ?_
      refine zw_bne2 (g := 73) (pc' := 67) rfl rfl rfl rfl (rfl : _ = (4 : Int)) (fun h2 => ?_) (fun h2 => ?_)
      · have h2 : ¬ (K.2.1 57 2).toInt = (4 : Int) := h2
        rw [b32] at h2
        rw [xEx_n (f := (fun q => decide ((xPc S CC 2 13 H0 q (H0.2.1 9 q)).2.2.toInt = 4))) (fun h9 => h2 (of_decide_eq_true h9))] at hP
        refine zw_ii (pc' := 76) rfl (zw_gt2 l2 rfl rfl) rfl rfl ?_
        refine zw_s (pc' := 4) rfl rfl ?_
        exact ih K _ (p + Int32.ofInt 1) _ W2 F2 (by omega) (by omega) (zw_gt (zw_gt2 l0 rfl rfl) rfl rfl) (zw_gt (zw_gt2 l1 rfl rfl) rfl rfl) zw_g1 hP
      · have h2 : (K.2.1 57 2).toInt = (4 : Int) := h2
        rw [b32] at h2
        rw [xEx_y (f := (fun q => decide ((xPc S CC 2 13 H0 q (H0.2.1 9 q)).2.2.toInt = 4))) (decide_eq_true h2)] at hP
        refine zw_ld (n := 1) (k := 1) (f := zp_isI) (pc' := 68) rfl rfl (zw_gt2 l1 rfl rfl) rfl rfl ?_
        refine zw_s (pc' := 69) rfl rfl ?_
        refine zw_ld (n := 1) (k := 2) (f := zp_isI) (pc' := 70) rfl rfl (zw_gt2 l2 rfl rfl) rfl rfl ?_
        refine zw_ishl (pc' := 71) rfl rfl ?_
        refine zw_ior (pc' := 72) rfl rfl ?_
        refine zw_st (n := 1) (k := 1) (f := zp_isI) (pc' := 73) rfl rfl rfl rfl rfl ?_
        refine zw_ii (pc' := 76) rfl (zw_gt (zw_gt2 l2 rfl rfl) rfl rfl) rfl rfl ?_
        refine zw_s (pc' := 4) rfl rfl ?_
        exact ih K _ (p + Int32.ofInt 1) _ W2 F2 (by omega) (by omega) (zw_gt (zw_gt (zw_gt2 l0 rfl rfl) rfl rfl) rfl rfl) (zw_gt zw_g1 rfl rfl) zw_g1 hP

theorem yc_ex0 {L : Nat} {σ : Nat → Int32} {d : Nat} {S : xSea} {CC : Nat → List xIt} {H0 : zp_H} (hB : zk_Bs (zB_c 0) zg zJc H0) (hS : xOk S) (hC : xSC 2 H0 S) (hCC : xCC 2 CC H0) (hM : xMk9 S 13 H0) (h4 : 0 ≤ (H0.2.1 2 12).toInt ∧ (H0.2.1 2 12).toInt ≤ 4) (hc : ∀ q : Nat, (q : Int) < (H0.2.1 2 12).toInt → xIn S (H0.2.1 7 q).toInt) : ∃ X, zp_Call L σ (d + 7) 22 [.inr (.inr (some 1))] H0 X ∧ ∃ K, X = (.inl (some (.inl (xEx (fun q => decide ((xPc S CC 2 13 H0 q (H0.2.1 9 q)).2.2.toInt = 4)) (H0.2.1 2 12).toInt.toNat (Int32.ofInt 0) (Int32.ofInt 0)))), K) ∧ xFk H0 K := by
  have W := zB_Wd (zB_dn (zB_Bc hB))
  have g5 : H0.2.2.2 0 5 = some 3 := hB.2.1 0 5 _ rfl
  have g6 : H0.2.2.2 0 6 = some 14 := hB.2.1 0 6 _ rfl
  have g7 : H0.2.2.2 0 7 = some 23 := hB.2.1 0 7 _ rfl
  have g8 : H0.2.2.2 0 8 = some 34 := hB.2.1 0 8 _ rfl
  refine zw_met zm_22_t rfl rfl ?_
  refine zw_s (pc' := 1) rfl rfl ?_
  refine zw_st (n := 1) (k := 1) (f := zp_isI) (pc' := 2) rfl rfl rfl rfl rfl ?_
  refine zw_s (pc' := 3) rfl rfl ?_
  refine zw_st (n := 1) (k := 2) (f := zp_isI) (pc' := 4) rfl rfl rfl rfl rfl ?_
  exact yc_exL0 hB hS hC hCC hM h4 hc (H0.2.1 2 12).toInt.toNat _ _ (Int32.ofInt 0) (Int32.ofInt 0) W (xFk_r H0) (by decide) (by rw [show (Int32.ofInt 0).toInt = 0 by decide]; omega) (zw_gt (zw_gt rfl rfl rfl) rfl rfl) (zw_gt zw_g1 rfl rfl) zw_g1 (fun K w1 w2 => ⟨K, rfl, w2⟩)

theorem yc_exL3 {L : Nat} {σ : Nat → Int32} {d : Nat} {P : zp_X → Prop} {S : xSea} {CC : Nat → List xIt} {H0 : zp_H} (hB : zk_Bs (zB_c 3) zg zJc H0) (hS : xOk S) (hC : xSC 22 H0 S) (hCC : xCC 22 CC H0) (hM : xMk9 S 33 H0) (h4 : 0 ≤ (H0.2.1 22 12).toInt ∧ (H0.2.1 22 12).toInt ≤ 4) (hc : ∀ q : Nat, (q : Int) < (H0.2.1 22 12).toInt → xIn S (H0.2.1 27 q).toInt) : ∀ (n : Nat) (H : zp_H) (lv : zp_LV) (p v : Int32), zw_W H → xFk H0 H → 0 ≤ p.toInt → p.toInt + (n : Int) = (H0.2.1 22 12).toInt → zp_get lv 0 = some (.inr (.inr (some 1))) → zp_get lv 1 = some (.inl v) → zp_get lv 2 = some (.inl p) → (∀ K, zw_W K → xFk H0 K → P (.inl (some (.inl (xEx (fun q => decide ((xPc S CC 22 33 H0 q (H0.2.1 29 q)).2.2.toInt = 4)) n p v))), K)) → zs_Safe L σ P zm_22 [] (d + 6) (4, lv, [], H, (0, 0)) := by
  intro n
  induction n with
  | zero =>
    intro H lv p v W hF h5 hn l0 l1 l2 hP
    have g5 : H.2.2.2 0 5 = some 23 := by
      rw [hF.2.1]
      exact hB.2.1 0 5 _ rfl
    have g6 : H.2.2.2 0 6 = some 34 := by
      rw [hF.2.1]
      exact hB.2.1 0 6 _ rfl
    have g7 : H.2.2.2 0 7 = some 3 := by
      rw [hF.2.1]
      exact hB.2.1 0 7 _ rfl
    have g8 : H.2.2.2 0 8 = some 14 := by
      rw [hF.2.1]
      exact hB.2.1 0 8 _ rfl
    have f := xFk_54 hF
    have hN : H.2.1 22 12 = H0.2.1 22 12 := f 22 12 (by decide)
    refine zw_ld (n := 1) (k := 2) (f := zp_isI) (pc' := 5) rfl rfl l2 rfl rfl ?_
    refine zw_ld (n := 1) (k := 0) (f := zp_isR) (pc' := 6) rfl rfl l0 rfl rfl ?_
    refine zw_gR (q := 0) (pc' := 9) W rfl rfl rfl rfl g5 rfl ?_
    refine zw_gI (q := 22) (pc' := 12) W rfl rfl rfl rfl rfl rfl ?_
    rw [hN]
    refine zw_bge2 (g := 79) (pc' := 15) rfl rfl rfl rfl rfl (fun h1 => ?_) (fun h1 => ?_)
    · refine zw_ld (n := 1) (k := 1) (f := zp_isI) (pc' := 80) rfl rfl l1 rfl rfl ?_
      refine zw_ri rfl rfl ?_
      exact hP H W hF
    · have hn : p.toInt + ((0 : Nat) : Int) = (H0.2.1 22 12).toInt := hn
      omega
  | succ n ih =>
    intro H lv p v W hF h5 hn l0 l1 l2 hP
    have g5 : H.2.2.2 0 5 = some 23 := by
      rw [hF.2.1]
      exact hB.2.1 0 5 _ rfl
    have g6 : H.2.2.2 0 6 = some 34 := by
      rw [hF.2.1]
      exact hB.2.1 0 6 _ rfl
    have g7 : H.2.2.2 0 7 = some 3 := by
      rw [hF.2.1]
      exact hB.2.1 0 7 _ rfl
    have g8 : H.2.2.2 0 8 = some 14 := by
      rw [hF.2.1]
      exact hB.2.1 0 8 _ rfl
    have f := xFk_54 hF
    have hN : H.2.1 22 12 = H0.2.1 22 12 := f 22 12 (by decide)
    refine zw_ld (n := 1) (k := 2) (f := zp_isI) (pc' := 5) rfl rfl l2 rfl rfl ?_
    refine zw_ld (n := 1) (k := 0) (f := zp_isR) (pc' := 6) rfl rfl l0 rfl rfl ?_
    refine zw_gR (q := 0) (pc' := 9) W rfl rfl rfl rfl g5 rfl ?_
    refine zw_gI (q := 22) (pc' := 12) W rfl rfl rfl rfl rfl rfl ?_
    rw [hN]
    refine zw_bge2 (g := 79) (pc' := 15) rfl rfl rfl rfl rfl (fun h1 => ?_) (fun h1 => ?_)
    · omega
    · have ep : (p + Int32.ofInt 1).toInt = p.toInt + 1 := zw_p1 (by omega)
      obtain ⟨H1, a1, W1, F1⟩ := xh_kb22 (L := L) (σ := σ) (d := d) (set := (H0.2.1 29 p.toInt.toNat)) hF W hS hC hM
      obtain ⟨K, b1, W2, F2, b3⟩ := xh_sv22 (L := L) (σ := σ) (d := d + 1) (p := p) (set := (H0.2.1 29 p.toInt.toNat)) F1 W1 hS hC hCC ⟨h5, by omega⟩ (hc _ (by omega))
      have b32 : K.2.1 57 2 = (xPc S CC 22 33 H0 p.toInt.toNat (H0.2.1 29 p.toInt.toNat)).2.2 := congrArg (fun z => z.2.2) b3
      refine zw_ld (n := 1) (k := 0) (f := zp_isR) (pc' := 16) rfl rfl l0 rfl rfl ?_
      refine zw_gR (q := 0) (pc' := 19) W rfl rfl rfl rfl (W.2 0 12 _ rfl) rfl ?_
      refine zw_ld (n := 1) (k := 0) (f := zp_isR) (pc' := 20) rfl rfl l0 rfl rfl ?_
      refine zw_gR (q := 0) (pc' := 23) W rfl rfl rfl rfl g5 rfl ?_
      refine zw_ld (n := 1) (k := 0) (f := zp_isR) (pc' := 24) rfl rfl l0 rfl rfl ?_
      refine zw_gR (q := 0) (pc' := 27) W rfl rfl rfl rfl g6 rfl ?_
      refine zw_ld (n := 1) (k := 0) (f := zp_isR) (pc' := 28) rfl rfl l0 rfl rfl ?_
      refine zw_gR (q := 0) (pc' := 31) W rfl rfl rfl rfl g5 rfl ?_
      refine zw_gR (q := 22) (pc' := 34) W rfl rfl rfl rfl (W.2 22 15 _ rfl) rfl ?_
      refine zw_ld (n := 1) (k := 2) (f := zp_isI) (pc' := 35) rfl rfl l2 rfl rfl ?_
      refine zw_ia (q := 29) (pc' := 36) W rfl rfl (by decide) (⟨h5, by show _ < ((4 : Nat) : Int); omega⟩) rfl rfl ?_
      rw [f 29 _ (by decide)]
      refine zw_c (pc' := 39) (zw_cv (q := 54) (Y := zm_23) W.1 rfl rfl zm_23_t rfl rfl) rfl rfl rfl rfl rfl (a1) ?_
      have g5 : H1.2.2.2 0 5 = some 23 := by
        rw [F1.2.1]
        exact hB.2.1 0 5 _ rfl
      have g6 : H1.2.2.2 0 6 = some 34 := by
        rw [F1.2.1]
        exact hB.2.1 0 6 _ rfl
      have g7 : H1.2.2.2 0 7 = some 3 := by
        rw [F1.2.1]
        exact hB.2.1 0 7 _ rfl
      have g8 : H1.2.2.2 0 8 = some 14 := by
        rw [F1.2.1]
        exact hB.2.1 0 8 _ rfl
      refine zw_sl (n := 1) (k := 3) (pc' := 40) rfl rfl rfl rfl ?_
      refine zw_ld (n := 1) (k := 0) (f := zp_isR) (pc' := 41) rfl rfl (zw_gt2 l0 rfl rfl) rfl rfl ?_
      refine zw_gR (q := 0) (pc' := 44) W1 rfl rfl rfl rfl (W1.2 0 14 _ rfl) rfl ?_
      refine zw_ld (n := 1) (k := 0) (f := zp_isR) (pc' := 45) rfl rfl (zw_gt2 l0 rfl rfl) rfl rfl ?_
      refine zw_gR (q := 0) (pc' := 48) W1 rfl rfl rfl rfl g5 rfl ?_
      refine zw_ld (n := 1) (k := 2) (f := zp_isI) (pc' := 49) rfl rfl (zw_gt2 l2 rfl rfl) rfl rfl ?_
      refine zw_ld (n := 1) (k := 3) (f := zp_isL) (pc' := 50) rfl rfl zw_g2 rfl rfl ?_
      refine zw_cn (pc' := 53) (zw_cv (q := 56) (Y := zm_35) W1.1 rfl rfl zm_35_t rfl rfl) rfl rfl rfl rfl rfl (b1) ?_
      refine zw_ld (n := 1) (k := 0) (f := zp_isR) (pc' := 54) rfl rfl (zw_gt2 l0 rfl rfl) rfl rfl ?_
      refine zw_gR (q := 0) (pc' := 57) W2 rfl rfl rfl rfl (W2.2 0 14 _ rfl) rfl ?_
      refine zw_gR (q := 56) (pc' := 60) W2 rfl rfl rfl rfl (W2.2 56 0 _ rfl) rfl ?_
      refine zw_gI (q := 57) (pc' := 63) W2 rfl rfl rfl rfl rfl rfl ?_
      refine zw_s (pc' := 64) rfl rfl ?_
      refine zw_bne2 (g := 73) (pc' := 67) rfl rfl rfl rfl (rfl : _ = (4 : Int)) (fun h2 => ?_) (fun h2 => ?_)
      · have h2 : ¬ (K.2.1 57 2).toInt = (4 : Int) := h2
        rw [b32] at h2
        rw [xEx_n (f := (fun q => decide ((xPc S CC 22 33 H0 q (H0.2.1 29 q)).2.2.toInt = 4))) (fun h9 => h2 (of_decide_eq_true h9))] at hP
        refine zw_ii (pc' := 76) rfl (zw_gt2 l2 rfl rfl) rfl rfl ?_
        refine zw_s (pc' := 4) rfl rfl ?_
        exact ih K _ (p + Int32.ofInt 1) _ W2 F2 (by omega) (by omega) (zw_gt (zw_gt2 l0 rfl rfl) rfl rfl) (zw_gt (zw_gt2 l1 rfl rfl) rfl rfl) zw_g1 hP
      · have h2 : (K.2.1 57 2).toInt = (4 : Int) := h2
        rw [b32] at h2
        rw [xEx_y (f := (fun q => decide ((xPc S CC 22 33 H0 q (H0.2.1 29 q)).2.2.toInt = 4))) (decide_eq_true h2)] at hP
        refine zw_ld (n := 1) (k := 1) (f := zp_isI) (pc' := 68) rfl rfl (zw_gt2 l1 rfl rfl) rfl rfl ?_
        refine zw_s (pc' := 69) rfl rfl ?_
        refine zw_ld (n := 1) (k := 2) (f := zp_isI) (pc' := 70) rfl rfl (zw_gt2 l2 rfl rfl) rfl rfl ?_
        refine zw_ishl (pc' := 71) rfl rfl ?_
        refine zw_ior (pc' := 72) rfl rfl ?_
        refine zw_st (n := 1) (k := 1) (f := zp_isI) (pc' := 73) rfl rfl rfl rfl rfl ?_
        refine zw_ii (pc' := 76) rfl (zw_gt (zw_gt2 l2 rfl rfl) rfl rfl) rfl rfl ?_
        refine zw_s (pc' := 4) rfl rfl ?_
        exact ih K _ (p + Int32.ofInt 1) _ W2 F2 (by omega) (by omega) (zw_gt (zw_gt (zw_gt2 l0 rfl rfl) rfl rfl) rfl rfl) (zw_gt zw_g1 rfl rfl) zw_g1 hP

theorem yc_ex3 {L : Nat} {σ : Nat → Int32} {d : Nat} {S : xSea} {CC : Nat → List xIt} {H0 : zp_H} (hB : zk_Bs (zB_c 3) zg zJc H0) (hS : xOk S) (hC : xSC 22 H0 S) (hCC : xCC 22 CC H0) (hM : xMk9 S 33 H0) (h4 : 0 ≤ (H0.2.1 22 12).toInt ∧ (H0.2.1 22 12).toInt ≤ 4) (hc : ∀ q : Nat, (q : Int) < (H0.2.1 22 12).toInt → xIn S (H0.2.1 27 q).toInt) : ∃ X, zp_Call L σ (d + 7) 22 [.inr (.inr (some 1))] H0 X ∧ ∃ K, X = (.inl (some (.inl (xEx (fun q => decide ((xPc S CC 22 33 H0 q (H0.2.1 29 q)).2.2.toInt = 4)) (H0.2.1 22 12).toInt.toNat (Int32.ofInt 0) (Int32.ofInt 0)))), K) ∧ xFk H0 K := by
  have W := zB_Wd (zB_dn (zB_Bc hB))
  have g5 : H0.2.2.2 0 5 = some 23 := hB.2.1 0 5 _ rfl
  have g6 : H0.2.2.2 0 6 = some 34 := hB.2.1 0 6 _ rfl
  have g7 : H0.2.2.2 0 7 = some 3 := hB.2.1 0 7 _ rfl
  have g8 : H0.2.2.2 0 8 = some 14 := hB.2.1 0 8 _ rfl
  refine zw_met zm_22_t rfl rfl ?_
  refine zw_s (pc' := 1) rfl rfl ?_
  refine zw_st (n := 1) (k := 1) (f := zp_isI) (pc' := 2) rfl rfl rfl rfl rfl ?_
  refine zw_s (pc' := 3) rfl rfl ?_
  refine zw_st (n := 1) (k := 2) (f := zp_isI) (pc' := 4) rfl rfl rfl rfl rfl ?_
  exact yc_exL3 hB hS hC hCC hM h4 hc (H0.2.1 22 12).toInt.toNat _ _ (Int32.ofInt 0) (Int32.ofInt 0) W (xFk_r H0) (by decide) (by rw [show (Int32.ofInt 0).toInt = 0 by decide]; omega) (zw_gt (zw_gt rfl rfl rfl) rfl rfl) (zw_gt zw_g1 rfl rfl) zw_g1 (fun K w1 w2 => ⟨K, rfl, w2⟩)

theorem yr_exL {L : Nat} {σ : Nat → Int32} {d : Nat} {P : zp_X → Prop} {S : xSea} {CC : Nat → List xIt} {H0 : zp_H} (hS : xOk S) (hR : xSR H0 S) (hCR : xCR CC H0) (hM : xMr9 S H0) (h4 : 0 ≤ (H0.2.1 72 7).toInt ∧ (H0.2.1 72 7).toInt ≤ 4) (hc : ∀ q : Nat, (q : Int) < (H0.2.1 72 7).toInt → xIn S (H0.2.1 77 (3 * q)).toInt) : ∀ (n : Nat) (H : zp_H) (lv : zp_LV) (p v : Int32), zw_W H → xFp H0 H → 0 ≤ p.toInt → p.toInt + (n : Int) = (H0.2.1 72 7).toInt → zp_get lv 0 = some (.inr (.inr (some 73))) → zp_get lv 1 = some (.inl v) → zp_get lv 2 = some (.inl p) → (∀ K, zw_W K → xFp H0 K → P (.inl (some (.inl (xEx (fun q => decide ((xPr S CC H0 q (H0.2.1 77 (3 * q + 2))).2.2.toInt = 4)) n p v))), K)) → zs_Safe L σ P zm_236 [] (d + 5) (9, lv, [], H, (0, 0)) := by
  intro n
  induction n with
  | zero =>
    intro H lv p v W hF h5 hn l0 l1 l2 hP
    have hN : H.2.1 72 7 = H0.2.1 72 7 := hF.2.2.1 72 7 (fun h9 => by have := h9.2; omega) (by decide)
    refine zw_ld (n := 1) (k := 2) (f := zp_isI) (pc' := 10) rfl rfl l2 rfl rfl ?_
    refine zw_ld (n := 1) (k := 0) (f := zp_isR) (pc' := 11) rfl rfl l0 rfl rfl ?_
    refine zw_gI (q := 72) (pc' := 14) W rfl rfl rfl rfl rfl rfl ?_
    rw [hN]
    refine zw_bge2 (g := 56) (pc' := 17) rfl rfl rfl rfl rfl (fun h1 => ?_) (fun h1 => ?_)
    · refine zw_ld (n := 1) (k := 1) (f := zp_isI) (pc' := 57) rfl rfl l1 rfl rfl ?_
      refine zw_ri rfl rfl ?_
      exact hP H W hF
    · have hn : p.toInt + ((0 : Nat) : Int) = (H0.2.1 72 7).toInt := hn
      omega
  | succ n ih =>
    intro H lv p v W hF h5 hn l0 l1 l2 hP
    have hN : H.2.1 72 7 = H0.2.1 72 7 := hF.2.2.1 72 7 (fun h9 => by have := h9.2; omega) (by decide)
    refine zw_ld (n := 1) (k := 2) (f := zp_isI) (pc' := 10) rfl rfl l2 rfl rfl ?_
    refine zw_ld (n := 1) (k := 0) (f := zp_isR) (pc' := 11) rfl rfl l0 rfl rfl ?_
    refine zw_gI (q := 72) (pc' := 14) W rfl rfl rfl rfl rfl rfl ?_
    rw [hN]
    refine zw_bge2 (g := 56) (pc' := 17) rfl rfl rfl rfl rfl (fun h1 => ?_) (fun h1 => ?_)
    · omega
    · have ep : (p + Int32.ofInt 1).toInt = p.toInt + 1 := zw_p1 (by omega)
      have e3 : (Int32.ofInt 3 * p).toInt = 3 * p.toInt := zt_mul (by decide) (by omega)
      have e32 : (Int32.ofInt 3 * p + Int32.ofInt 2).toInt = 3 * p.toInt + 2 := by rw [zt_add (by decide) (by omega), e3]
      have i32 : (Int32.ofInt 3 * p + Int32.ofInt 2).toInt.toNat = 3 * p.toInt.toNat + 2 := by omega
      have f72 : ∀ k, k = 5 ∨ k = 8 ∨ k = 11 → H.2.1 72 k = H0.2.1 72 k := fun k hk => hF.2.2.1 72 k (fun h9 => by have := h9.2; omega) (by decide)
      have fq : ∀ q k, q = 74 ∨ q = 75 ∨ q = 77 ∨ q = 79 → H.2.1 q k = H0.2.1 q k := fun q k hq => hF.2.2.1 q k (fun h9 => by have := h9.1; omega) (by omega)
      have hM1 := xMr9_f (f72 5 (by decide)) (fun k => fq 74 k (by decide)) hM
      obtain ⟨_, b1, K, rfl, W2, b2, b3⟩ := xr_pl (L := L) (σ := σ) (d := d) (p := p) (set := (H0.2.1 77 (3 * p.toInt.toNat + 2))) (H0 := H) hS (xSR_p hF hR) (xCR_p hF hCR) hM1.1 hM1.2.1 hM1.2.2 W ⟨h5, by omega⟩ (by rw [fq 77 _ (by decide)]; exact hc _ (by omega))
      have F2 := xFp_t hF b2
      have b3 : (K.2.1 72 64, K.2.1 72 69, K.2.1 72 66) = xPr S CC H p.toInt.toNat (H0.2.1 77 (3 * p.toInt.toNat + 2)) := b3
      rw [xPr_f f72 fq] at b3
      have b32 : K.2.1 72 66 = (xPr S CC H0 p.toInt.toNat (H0.2.1 77 (3 * p.toInt.toNat + 2))).2.2 := congrArg (fun z => z.2.2) b3
      refine zw_ld (n := 1) (k := 0) (f := zp_isR) (pc' := 18) rfl rfl l0 rfl rfl ?_
      refine zw_ld (n := 1) (k := 2) (f := zp_isI) (pc' := 19) rfl rfl l2 rfl rfl ?_
      refine zw_ld (n := 1) (k := 0) (f := zp_isR) (pc' := 20) rfl rfl l0 rfl rfl ?_
      refine zw_gR (q := 72) (pc' := 23) W rfl rfl rfl rfl (W.2 72 17 _ rfl) rfl ?_
      refine zw_s (pc' := 24) rfl rfl ?_
      refine zw_ld (n := 1) (k := 2) (f := zp_isI) (pc' := 25) rfl rfl l2 rfl rfl ?_
      refine zw_imul (pc' := 26) rfl rfl ?_
      refine zw_s (pc' := 27) rfl rfl ?_
      refine zw_iadd (pc' := 28) rfl rfl ?_
      refine zw_ia (q := 77) (pc' := 29) W rfl rfl (by decide) (⟨by omega, by show _ < ((12 : Nat) : Int); omega⟩) rfl rfl ?_
      rw [i32, fq 77 _ (by decide)]
      refine zw_cn (pc' := 32) (zw_cv (q := 72) (Y := zm_230) W.1 rfl rfl zm_230_t rfl rfl) rfl rfl rfl rfl rfl (b1) ?_
      refine zw_ld (n := 1) (k := 1) (f := zp_isI) (pc' := 33) rfl rfl l1 rfl rfl ?_
      refine zw_ld (n := 1) (k := 0) (f := zp_isR) (pc' := 34) rfl rfl l0 rfl rfl ?_
      refine zw_gI (q := 72) (pc' := 37) W2 rfl rfl rfl rfl rfl rfl ?_
      refine zw_s (pc' := 38) rfl rfl ?_
      refine zw_bne2 (g := 47) (pc' := 41) rfl rfl rfl rfl (rfl : _ = (4 : Int)) (fun h2 => ?_) (fun h2 => ?_)
      · have h2 : ¬ (K.2.1 72 66).toInt = (4 : Int) := h2
        rw [b32] at h2
        rw [xEx_n (f := (fun q => decide ((xPr S CC H0 q (H0.2.1 77 (3 * q + 2))).2.2.toInt = 4))) (fun h9 => h2 (of_decide_eq_true h9))] at hP
        refine zw_s (pc' := 48) rfl rfl ?_
        refine zw_ior (pc' := 49) rfl rfl ?_
        refine zw_st (n := 1) (k := 1) (f := zp_isI) (pc' := 50) rfl rfl rfl rfl rfl ?_
        refine zw_ii (pc' := 53) rfl (zw_gt l2 rfl rfl) rfl rfl ?_
        refine zw_s (pc' := 9) rfl rfl ?_
        rw [show v ||| Int32.ofInt 0 = v from (show v ||| 0 = v from Int32.or_zero)]
        exact ih K _ (p + Int32.ofInt 1) _ W2 F2 (by omega) (by omega) (zw_gt (zw_gt l0 rfl rfl) rfl rfl) (zw_gt zw_g1 rfl rfl) zw_g1 hP
      · have h2 : (K.2.1 72 66).toInt = (4 : Int) := h2
        rw [b32] at h2
        rw [xEx_y (f := (fun q => decide ((xPr S CC H0 q (H0.2.1 77 (3 * q + 2))).2.2.toInt = 4))) (decide_eq_true h2)] at hP
        refine zw_s (pc' := 42) rfl rfl ?_
        refine zw_ld (n := 1) (k := 2) (f := zp_isI) (pc' := 43) rfl rfl l2 rfl rfl ?_
        refine zw_ishl (pc' := 44) rfl rfl ?_
        refine zw_s (pc' := 48) rfl rfl ?_
        refine zw_ior (pc' := 49) rfl rfl ?_
        refine zw_st (n := 1) (k := 1) (f := zp_isI) (pc' := 50) rfl rfl rfl rfl rfl ?_
        refine zw_ii (pc' := 53) rfl (zw_gt l2 rfl rfl) rfl rfl ?_
        refine zw_s (pc' := 9) rfl rfl ?_
        exact ih K _ (p + Int32.ofInt 1) _ W2 F2 (by omega) (by omega) (zw_gt (zw_gt l0 rfl rfl) rfl rfl) (zw_gt zw_g1 rfl rfl) zw_g1 hP

theorem yr_ex {L : Nat} {σ : Nat → Int32} {d : Nat} {H : zp_H} {S : xSea} {CC : Nat → List xIt} (W : zw_W H) (hS : xOk S) (hR : xSR (zw_I H 72 0 (Int32.ofInt 0)) S) (hCR : xCR CC (zw_I H 72 0 (Int32.ofInt 0))) (hM : xMr9 S (zw_I H 72 0 (Int32.ofInt 0))) (h4 : 0 ≤ (H.2.1 72 7).toInt ∧ (H.2.1 72 7).toInt ≤ 4) (hc : ∀ q : Nat, (q : Int) < ((zw_I H 72 0 (Int32.ofInt 0)).2.1 72 7).toInt → xIn S ((zw_I H 72 0 (Int32.ofInt 0)).2.1 77 (3 * q)).toInt) : ∃ X, zp_Call L σ (d + 6) 236 [.inr (.inr (some 73))] H X ∧ ∃ K, X = (.inl (some (.inl (xEx (fun q => decide ((xPr S CC (zw_I H 72 0 (Int32.ofInt 0)) q ((zw_I H 72 0 (Int32.ofInt 0)).2.1 77 (3 * q + 2))).2.2.toInt = 4)) ((zw_I H 72 0 (Int32.ofInt 0)).2.1 72 7).toInt.toNat (Int32.ofInt 0) (Int32.ofInt 0)))), K) ∧ xFp (zw_I H 72 0 (Int32.ofInt 0)) K := by
  have e7 : (zw_I H 72 0 (Int32.ofInt 0)).2.1 72 7 = H.2.1 72 7 := zw_ne rfl rfl
  refine zw_met zm_236_t rfl rfl ?_
  refine zw_ld (n := 1) (k := 0) (f := zp_isR) (pc' := 1) rfl rfl rfl rfl rfl ?_
  refine zw_s (pc' := 2) rfl rfl ?_
  refine zw_pI (q := 72) (pc' := 5) W rfl rfl rfl rfl rfl rfl ?_
  refine zw_s (pc' := 6) rfl rfl ?_
  refine zw_st (n := 1) (k := 1) (f := zp_isI) (pc' := 7) rfl rfl rfl rfl rfl ?_
  refine zw_s (pc' := 8) rfl rfl ?_
  refine zw_st (n := 1) (k := 2) (f := zp_isI) (pc' := 9) rfl rfl rfl rfl rfl ?_
  exact yr_exL (H0 := (zw_I H 72 0 (Int32.ofInt 0))) hS hR hCR hM (by rw [e7]; exact h4) hc ((zw_I H 72 0 (Int32.ofInt 0)).2.1 72 7).toInt.toNat _ _ (Int32.ofInt 0) (Int32.ofInt 0) (zw_W_I W) (xFp_r _) (by decide) (by rw [show (Int32.ofInt 0).toInt = 0 by decide, e7]; omega) (zw_gt (zw_gt rfl rfl rfl) rfl rfl) (zw_gt zw_g1 rfl rfl) zw_g1 (fun K w1 w2 => ⟨K, rfl, w2⟩)

theorem yb_exam {L : Nat} {σ : Nat → Int32} {d c t : Nat} {H : zp_H} (hI : yJ c t H) : ∃ H1 H2 v w, zp_Call L σ (d + 60) 22 [.inr (.inr (some 1))] H (.inl (some (.inl v)), H1) ∧ zp_Call L σ (d + 60) 236 [.inr (.inr (some 73))] H1 (.inl (some (.inl w)), H2) ∧ H1.1 = zB_sh ∧ yJ c t H2 ∧ v.toInt = w.toInt := by
  obtain ⟨H1, v, c1, hI1⟩ := yp_exam (L := L) (σ := σ) (d := d) hI
  obtain ⟨H2, w, c2, hI2⟩ := yq_exam (L := L) (σ := σ) (d := d) hI1
  have W1 := zB_Wd (zB_dn (zB_Bc hI1.1.1.1))
  have h0 := hI.1.2.2.1
  rcases h0 with rfl | rfl
  · obtain ⟨hS, hC⟩ := xJ_S0 hI
    obtain ⟨CC, hCC, hCR, e16, e79, e12, e77, e11, b7⟩ := xJ_C0 hI
    obtain ⟨m1, m2, e05, m3, m4⟩ := xJ_M0 hI
    have e78 : ∀ p : Nat, (p : Int) < (H.2.1 72 7).toInt → H.2.1 9 p = H.2.1 77 (3 * p + 2) := fun p hp => (hI.1.2.2.2.2.2.2.2.2.1 p hp).2.2
    obtain ⟨_, k1, K, rfl, k2⟩ := yc_ex0 (L := L) (σ := σ) (d := d + 53) hI.1.1.1 hS hC hCC m1 (by rw [e12]; exact b7) (fun q hq => by rw [e12] at hq; rw [(e77 q hq).1]; exact m3 q hq)
    have e1 := zp_Call_u c1 k1
    cases e1
    have g : ∀ p k, 60 ≤ p → ¬ (p = 72 ∧ k = 0) → (zw_I H1 72 0 (Int32.ofInt 0)).2.1 p k = H.2.1 p k := fun p k hp hk => (y_ne hk).trans (k2.2.2.1 p k (by omega) (by omega) (by omega) (by omega) (by omega))
    have gn : ∀ p k, 73 ≤ p → (zw_I H1 72 0 (Int32.ofInt 0)).2.1 p k = H.2.1 p k := fun p k hp => g p k (by omega) (by omega)
    have g7 : (zw_I H1 72 0 (Int32.ofInt 0)).2.1 72 7 = H.2.1 72 7 := g 72 7 (by decide) (fun h9 => absurd h9.2 (by decide))
    obtain ⟨_, j1, J, rfl, j2⟩ := yr_ex (L := L) (σ := σ) (d := d + 54) (S := xSo H) (CC := CC) W1 hS (xSR_06 (xSR_k k2 (xSR_o H))) (xCR_f (g 72 8 (by decide) (fun h9 => absurd h9.2 (by decide))) (fun k => gn 78 k (by decide)) (fun k => gn 80 k (by decide)) hCR) (xMr9_f (g 72 5 (by decide) (fun h9 => absurd h9.2 (by decide))) (fun k => gn 74 k (by decide)) m2) (by rw [show H1.2.1 72 7 = H.2.1 72 7 from k2.2.2.1 72 7 (by decide) (by decide) (by decide) (by decide) (by omega)]; exact b7) (fun q hq => by rw [g7] at hq; rw [gn 77 _ (by decide)]; exact m3 q hq)
    have e2 := zp_Call_u c2 j1
    cases e2
    refine ⟨_, _, _, _, c1, c2, hI1.1.1.1.1, hI2, ?_⟩
    rw [g7, ← e12]
    refine congrArg Int32.toInt (xEx_c _ _ _ (by decide) (by rw [show (Int32.ofInt 0).toInt = 0 by decide, e12]; omega) (fun q hq => ?_)) 
    rw [show (Int32.ofInt 0).toInt = 0 by decide, e12] at hq
    have hq : (q : Int) < (H.2.1 72 7).toInt := by omega
    show decide ((xPc (xSo H) CC 2 13 H q (H.2.1 9 q)).2.2.toInt = 4) = decide ((xPr (xSo H) CC (zw_I H1 72 0 (Int32.ofInt 0)) q ((zw_I H1 72 0 (Int32.ofInt 0)).2.1 77 (3 * q + 2))).2.2.toInt = 4)
    rw [xPr_f (H := H) (fun k hk => g 72 k (by decide) (fun h9 => by have := h9.2; omega)) (fun q k hq => gn q k (by omega)), gn 77 _ (by decide), e78 q hq, xJ_P0 hI e16 hCR.1 e79 e77 e11 hq]
  · obtain ⟨hS, hC⟩ := xJ_S3 hI
    obtain ⟨CC, hCC, hCR, e16, e79, e12, e77, e11, b7⟩ := xJ_C3 hI
    obtain ⟨m1, m2, e05, m3, m4⟩ := xJ_M3 hI
    have e78 : ∀ p : Nat, (p : Int) < (H.2.1 72 7).toInt → H.2.1 29 p = H.2.1 77 (3 * p + 2) := fun p hp => (hI.1.2.2.2.2.2.2.2.2.1 p hp).2.2
    obtain ⟨_, k1, K, rfl, k2⟩ := yc_ex3 (L := L) (σ := σ) (d := d + 53) hI.1.1.1 hS hC hCC m1 (by rw [e12]; exact b7) (fun q hq => by rw [e12] at hq; rw [(e77 q hq).1]; exact m3 q hq)
    have e1 := zp_Call_u c1 k1
    cases e1
    have g : ∀ p k, 60 ≤ p → ¬ (p = 72 ∧ k = 0) → (zw_I H1 72 0 (Int32.ofInt 0)).2.1 p k = H.2.1 p k := fun p k hp hk => (y_ne hk).trans (k2.2.2.1 p k (by omega) (by omega) (by omega) (by omega) (by omega))
    have gn : ∀ p k, 73 ≤ p → (zw_I H1 72 0 (Int32.ofInt 0)).2.1 p k = H.2.1 p k := fun p k hp => g p k (by omega) (by omega)
    have g7 : (zw_I H1 72 0 (Int32.ofInt 0)).2.1 72 7 = H.2.1 72 7 := g 72 7 (by decide) (fun h9 => absurd h9.2 (by decide))
    obtain ⟨_, j1, J, rfl, j2⟩ := yr_ex (L := L) (σ := σ) (d := d + 54) (S := xSo H) (CC := CC) W1 hS (xSR_06 (xSR_k k2 (xSR_o H))) (xCR_f (g 72 8 (by decide) (fun h9 => absurd h9.2 (by decide))) (fun k => gn 78 k (by decide)) (fun k => gn 80 k (by decide)) hCR) (xMr9_f (g 72 5 (by decide) (fun h9 => absurd h9.2 (by decide))) (fun k => gn 74 k (by decide)) m2) (by rw [show H1.2.1 72 7 = H.2.1 72 7 from k2.2.2.1 72 7 (by decide) (by decide) (by decide) (by decide) (by omega)]; exact b7) (fun q hq => by rw [g7] at hq; rw [gn 77 _ (by decide)]; exact m3 q hq)
    have e2 := zp_Call_u c2 j1
    cases e2
    refine ⟨_, _, _, _, c1, c2, hI1.1.1.1.1, hI2, ?_⟩
    rw [g7, ← e12]
    refine congrArg Int32.toInt (xEx_c _ _ _ (by decide) (by rw [show (Int32.ofInt 0).toInt = 0 by decide, e12]; omega) (fun q hq => ?_)) 
    rw [show (Int32.ofInt 0).toInt = 0 by decide, e12] at hq
    have hq : (q : Int) < (H.2.1 72 7).toInt := by omega
    show decide ((xPc (xSo H) CC 22 33 H q (H.2.1 29 q)).2.2.toInt = 4) = decide ((xPr (xSo H) CC (zw_I H1 72 0 (Int32.ofInt 0)) q ((zw_I H1 72 0 (Int32.ofInt 0)).2.1 77 (3 * q + 2))).2.2.toInt = 4)
    rw [xPr_f (H := H) (fun k hk => g 72 k (by decide) (fun h9 => by have := h9.2; omega)) (fun q k hq => gn q k (by omega)), gn 77 _ (by decide), e78 q hq, xJ_P3 hI e16 hCR.1 e79 e77 e11 hq]
end
