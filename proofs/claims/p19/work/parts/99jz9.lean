section
/-! ===== the desk: find ===== -/

/-! pure: a good row of m slates is there exactly if a set has one -/
theorem t_ls {p : Nat → Prop} : ∀ n, (∃ s, s < n ∧ p s) → ∃ g, g < n ∧ p g ∧ ∀ s, s < g → ¬ p s
  | 0, h => by
    obtain ⟨s, h, _⟩ := h
    exact absurd h (Nat.not_lt_zero _)
  | n + 1, h => by
    by_cases h9 : ∃ s, s < n ∧ p s
    · obtain ⟨g, g1, g2⟩ := t_ls n h9
      exact ⟨g, by omega, g2⟩
    · obtain ⟨s, h1, h2⟩ := h
      exact ⟨s, h1, h2, fun t ht hp => h9 ⟨t, by omega, hp⟩⟩
theorem t_ex {A : Nat → Bool} {B : Nat → Nat → Bool} : ∀ (k a : Nat) (P : List Nat), a < 256 → tC a ≤ k → (∃ r, tG A B P (fun s => a.testBit s) r ∧ r.length = tC a) ∨ ∃ r, tF A B P (fun s => a.testBit s) r := by
  intro k
  induction k with
  | zero =>
    intro a P ha hk
    have h0 : a = 0 := by
      refine Decidable.byContradiction (fun h9 => ?_)
      obtain ⟨g, g1, g2, g3, g4⟩ := tm_nz h9 ha
      have := (tm_cl ha g1).2.2.2 g3
      omega
    exact Or.inl ⟨[], fun s => by rw [h0]; exact Nat.zero_testBit s, ((congrArg tC h0).trans tC_0).symm⟩
  | succ k ih =>
    intro a P ha hk
    by_cases h0 : a = 0
    · exact Or.inl ⟨[], fun s => by rw [h0]; exact Nat.zero_testBit s, ((congrArg tC h0).trans tC_0).symm⟩
    · by_cases hx : ∃ s, s < 8 ∧ (a.testBit s = true ∧ tR A B P s)
      · obtain ⟨g, g1, ⟨g2, g3⟩, g4⟩ := t_ls (p := fun s => a.testBit s = true ∧ tR A B P s) 8 hx
        obtain ⟨c1, c2, c3, c4⟩ := tm_cl ha g1
        have c5 := c4 g2
        have eL : (fun s => (tc a g).testBit s) = fun s => a.testBit s && decide (s ≠ g) := funext c3
        have hmin : ∀ s, s < g → a.testBit s = true → ¬ tR A B P s := fun s hs h1 h2 => g4 s hs ⟨h1, h2⟩
        rcases ih (tc a g) (g :: P) c2 (by omega) with ⟨r, r1, r2⟩ | ⟨r, r1⟩
        · rw [eL] at r1
          exact Or.inl ⟨g :: r, ⟨g2, g3, hmin, r1⟩, by show r.length + 1 = tC a; omega⟩
        · rw [eL] at r1
          exact Or.inr ⟨g :: r, ⟨g2, g3, hmin, r1⟩⟩
      · obtain ⟨g, g1, g2, g3, g4⟩ := tm_nz h0 ha
        exact Or.inr ⟨[], ⟨⟨g, g3⟩, fun s hs hr => hx ⟨s, tm_8 ha hs, hs, hr⟩⟩⟩
/-- a set is good -/
def tTs (G : Nat → Bool) (L : Nat → Bool) : Prop := ∃ a, a < 256 ∧ (∀ s, a.testBit s = L s) ∧ G a = true
theorem tOk_C {N m : Nat} {A : Nat → Bool} {B : Nat → Nat → Bool} {G : Nat → Bool} {r : List Nat} (hN : N ≤ 8) (h : tOk N A B (tTs G) m r) : ∃ a r', a < 2 ^ N ∧ tCd A B G m a r' ∧ tN r' 0 ≤ tN r 0 := by
  obtain ⟨h1, h2, a, a1, a2, a3⟩ := h
  have hm : ∀ s, s ∈ r ↔ a.testBit s = true := fun s => by
    rw [a2 s]
    exact ⟨fun h9 => decide_eq_true h9, fun h9 => of_decide_eq_true h9⟩
  have hb : ∀ s, a.testBit s = true → s < N := fun s hs => (tV_p h2 s ((hm s).mpr hs)).1
  rcases t_ex (A := A) (B := B) 8 a [] a1 (tC_b a1).2 with ⟨r', r1, r2⟩ | ⟨r', r1⟩
  · have hle := tG_le (n := N) (a := 0) (by omega) h2 hm r1 (fun s hs => ⟨hb s hs, List.not_mem_nil⟩)
    refine ⟨a, r', Nat.lt_pow_two_of_testBit a (fun i hi => ?_), ⟨by omega, r1, a3⟩, hle.2⟩
    cases hx : a.testBit i with
    | true => exact absurd (hb i hx) (by omega)
    | false => rfl
  · exact absurd r1 (tF_no h2 hm)
theorem tCd_O {N m a : Nat} {A : Nat → Bool} {B : Nat → Nat → Bool} {G : Nat → Bool} {r : List Nat} (ha : a < 2 ^ N) (hN : N ≤ 8) (hl : r.length = m) (h : tCd A B G m a r) : tOk N A B (tTs G) m r := by
  have h7 : (2 : Nat) ^ N ≤ 2 ^ 8 := Nat.pow_le_pow_right (by decide) hN
  refine tOk_G (fun s hs => ?_) h.2.1 hl ⟨a, by omega, fun _ => rfl, h.2.2⟩
  refine Nat.lt_of_not_le (fun h9 => ?_)
  have h8 : (2 : Nat) ^ N ≤ 2 ^ s := Nat.pow_le_pow_right (by decide) h9
  have hs : a.testBit s = true := hs
  rw [Nat.testBit_lt_two_pow (show a < 2 ^ s by omega)] at hs
  cases hs
/-- what find answers, and what is kept -/
def tFO (C : Nat → Nat → List Nat → Prop) (N : Nat) (H0 K : zp_H) (len : Int32) : Prop := (len = Int32.ofInt (-1) ∧ (∀ m, m ≤ N → ∀ a, a < 2 ^ N → ∀ r, ¬ C m a r) ∧ (∀ k, K.2.1 69 k = H0.2.1 69 k) ∧ K.2.1 60 11 = H0.2.1 60 11) ∨ ∃ m q, m ≤ N ∧ len = Int32.ofNat m ∧ q.length = m ∧ (∀ k, k < m → K.2.1 69 k = Int32.ofNat (q.getD k 0)) ∧ K.2.1 60 11 = len ∧ (∃ a, a < 2 ^ N ∧ C m a q) ∧ (∀ a, a < 2 ^ N → ∀ r', C m a r' → tN q 0 ≤ tN r' 0) ∧ ∀ m', m' < m → ∀ a, a < 2 ^ N → ∀ r', ¬ C m' a r'
/-- the first row of the fewest slates -/
def tRs (N : Nat) (A : Nat → Bool) (B : Nat → Nat → Bool) (G : Nat → Bool) (m : Nat) (q : List Nat) : Prop := m ≤ N ∧ tFi N A B (tTs G) m q ∧ ∀ m', m' < m → ∀ r, ¬ tOk N A B (tTs G) m' r
theorem tFO_r {N : Nat} {A : Nat → Bool} {B : Nat → Nat → Bool} {G : Nat → Bool} {H0 K : zp_H} {len : Int32} (hN : N ≤ 8) (h : tFO (tCd A B G) N H0 K len) : (len = Int32.ofInt (-1) ∧ (∀ m, m ≤ N → ∀ r, ¬ tOk N A B (tTs G) m r) ∧ (∀ k, K.2.1 69 k = H0.2.1 69 k) ∧ K.2.1 60 11 = H0.2.1 60 11) ∨ ∃ m q, tRs N A B G m q ∧ len = Int32.ofNat m ∧ (∀ k, k < m → K.2.1 69 k = Int32.ofNat (q.getD k 0)) ∧ K.2.1 60 11 = len := by
  rcases h with ⟨h1, h2, h3⟩ | ⟨m, q, h1, h2, h3, h4, h5, ⟨a, h6, h7⟩, h8, h9⟩
  · refine Or.inl ⟨h1, fun m hm r hr => ?_, h3⟩
    obtain ⟨a, r', k1, k2, _⟩ := tOk_C hN hr
    exact h2 m hm a k1 r' k2
  · refine Or.inr ⟨m, q, ⟨h1, ⟨tCd_O h6 hN h3 h7, fun r hr => ?_⟩, fun m' hm' r hr => ?_⟩, h2, h4, h5⟩
    · obtain ⟨a', r', k1, k2, k3⟩ := tOk_C hN hr
      exact Nat.le_trans (h8 a' k1 r' k2) k3
    · obtain ⟨a', r', k1, k2, _⟩ := tOk_C hN hr
      exact h9 m' hm' a' k1 r' k2

theorem yc_flL {L : Nat} {σ : Nat → Int32} {d : Nat} {P : zp_X → Prop} {H0 : zp_H} {x : Int32} : ∀ (n : Nat) (H : zp_H) (lv : zp_LV) (i : Int32), zw_W H → tFw (fun p _ => p = 65) H0 H → 0 ≤ i.toInt → i.toInt + (n : Int) = 256 → (∀ l : Nat, (l : Int) < i.toInt → H.2.1 65 l = x) → zp_get lv 0 = some (.inr (.inr (some 66))) → zp_get lv 1 = some (.inl x) → zp_get lv 2 = some (.inl i) → zp_get lv 3 = some (.inl (Int32.ofNat 256)) → (∀ K, zw_W K → tFw (fun p _ => p = 65) H0 K → (∀ l, l < 256 → K.2.1 65 l = x) → P (.inl none, K)) → zs_Safe L σ P zm_5 [] d (5, lv, [], H, (0, 0)) := by
  intro n
  induction n with
  | zero =>
    intro H lv i W hF h5 hN hV l0 l1 l2 l3 hP
    have t256 := tm_t9 (a := 256) (by decide)
    refine zw_ld (n := 1) (k := 2) (f := zp_isI) (pc' := 6) rfl rfl l2 rfl rfl ?_
    refine zw_ld (n := 1) (k := 3) (f := zp_isI) (pc' := 7) rfl rfl l3 rfl rfl ?_
    refine zw_bge2 (g := 20) (pc' := 10) rfl rfl rfl rfl rfl (fun h1 => ?_) (fun h1 => ?_)
    · refine zw_rn rfl rfl ?_
      exact hP H W hF (fun l hl => hV l (by omega))
    · have hN : i.toInt + ((0 : Nat) : Int) = 256 := hN
      omega
  | succ n ih =>
    intro H lv i W hF h5 hN hV l0 l1 l2 l3 hP
    have t256 := tm_t9 (a := 256) (by decide)
    refine zw_ld (n := 1) (k := 2) (f := zp_isI) (pc' := 6) rfl rfl l2 rfl rfl ?_
    refine zw_ld (n := 1) (k := 3) (f := zp_isI) (pc' := 7) rfl rfl l3 rfl rfl ?_
    refine zw_bge2 (g := 20) (pc' := 10) rfl rfl rfl rfl rfl (fun h1 => ?_) (fun h1 => ?_)
    · omega
    · have ei : (i + Int32.ofInt 1).toInt = i.toInt + 1 := zw_p1 (by omega)
      refine zw_ld (n := 1) (k := 0) (f := zp_isR) (pc' := 11) rfl rfl l0 rfl rfl ?_
      refine zw_ld (n := 1) (k := 2) (f := zp_isI) (pc' := 12) rfl rfl l2 rfl rfl ?_
      refine zw_ld (n := 1) (k := 1) (f := zp_isI) (pc' := 13) rfl rfl l1 rfl rfl ?_
      refine zw_is (q := 65) (pc' := 14) W rfl rfl (by decide) (⟨h5, by show _ < ((256 : Nat) : Int); omega⟩) rfl ?_
      refine zw_ii (pc' := 17) rfl l2 rfl rfl ?_
      refine zw_s (pc' := 5) rfl rfl ?_
      refine ih (zw_I H 65 i.toInt.toNat x) _ (i + Int32.ofInt 1) (zw_W_I W) (tFw_I hF rfl) (by omega) (by omega) (fun l hl => ?_) (zw_gt l0 rfl rfl) (zw_gt l1 rfl rfl) zw_g1 (zw_gt l3 rfl rfl) hP
      by_cases h9 : l = i.toInt.toNat
      · rw [h9]
        exact zw_eq
      · exact (y_ne (fun h8 => h9 h8.2)).trans (hV l (by omega))

theorem yc_fl {L : Nat} {σ : Nat → Int32} {d : Nat} {H : zp_H} {x : Int32} (W : zw_W H) : ∃ X, zp_Call L σ (d + 1) 5 [.inr (.inr (some 66)), .inl x] H X ∧ ∃ K, X = (.inl none, K) ∧ zw_W K ∧ tFw (fun p _ => p = 65) H K ∧ ∀ l, l < 256 → K.2.1 65 l = x := by
  refine zw_met zm_5_t rfl rfl ?_
  refine zw_s (pc' := 1) rfl rfl ?_
  refine zw_st (n := 1) (k := 2) (f := zp_isI) (pc' := 2) rfl rfl rfl rfl rfl ?_
  refine zw_ld (n := 1) (k := 0) (f := zp_isR) (pc' := 3) rfl rfl (zw_gt rfl rfl rfl) rfl rfl ?_
  refine zw_al (q := 65) (pc' := 4) W rfl rfl rfl ?_
  refine zw_st (n := 1) (k := 3) (f := zp_isI) (pc' := 5) rfl rfl rfl rfl rfl ?_
  exact yc_flL 256 H _ (Int32.ofInt 0) W (tFw_r H) (by decide) (by decide) (fun l hl => absurd hl (by rw [show (Int32.ofInt 0).toInt = 0 by decide]; omega)) (zw_gt (zw_gt rfl rfl rfl) rfl rfl) (zw_gt (zw_gt rfl rfl rfl) rfl rfl) (zw_gt zw_g1 rfl rfl) zw_g1 (fun K w1 w2 w3 => ⟨K, rfl, w1, w2, w3⟩)

/-- which slates begin near -/
def tNb (wp : Nat) (H0 : zp_H) (N : Nat) (c : Int) (s : Nat) : Bool := decide (s < N) && xNb (H0.2.1 wp 0).toInt c (H0.2.1 61 s).toInt (H0.2.1 wp 10).toInt
theorem tNb_m {wp : Nat} {H0 : zp_H} {N : Nat} {c : Int} (hN : N ≤ 8) : ∃ b, b < 256 ∧ tBn (fun s => xNb (H0.2.1 wp 0).toInt c (H0.2.1 61 s).toInt (H0.2.1 wp 10).toInt) N (Int32.ofInt 0) (Int32.ofInt 0) = Int32.ofNat b ∧ ∀ s, b.testBit s = true ↔ tNb wp H0 N c s = true := by
  have z0 : (Int32.ofInt 0).toInt = 0 := by decide
  obtain ⟨b, b1, b2, b3⟩ := tBn_m (f := fun s => xNb (H0.2.1 wp 0).toInt c (H0.2.1 61 s).toInt (H0.2.1 wp 10).toInt) N (Int32.ofInt 0) 0 (by decide) (by decide) (by rw [z0]; omega)
  rw [← tm_z] at b2
  refine ⟨b, b1, b2, fun s => (b3 s).trans ?_⟩
  unfold tNb
  rw [Bool.and_eq_true, Nat.zero_testBit, z0]
  constructor
  · rintro (h | ⟨h1, h2⟩)
    · cases h
    · exact ⟨decide_eq_true (by omega), h2⟩
  · rintro ⟨h1, h2⟩
    have h1 : s < N := of_decide_eq_true h1
    exact Or.inr ⟨by omega, h2⟩

theorem yd_bn2 {L : Nat} {σ : Nat → Int32} {d : Nat} {H0 H : zp_H} {N : Nat} {cell : Int32} (W : zw_W H) (F : tFw tQ8 H0 H) (hn : (H0.2.1 60 0).toInt = (N : Int)) (hN8 : N ≤ 8) (hw : 2 ≤ (H0.2.1 2 0).toInt) (hx : 0 ≤ cell.toInt ∧ cell.toInt ≤ 63) (hb : ∀ s, s < N → 0 ≤ (H0.2.1 61 s).toInt ∧ (H0.2.1 61 s).toInt ≤ 63) : zp_Call L σ (d + 3) 142 [.inr (.inr (some 61)), .inr (.inr (some 3)), .inl cell] H (.inl (some (.inl (tBn (fun s => xNb (H0.2.1 2 0).toInt cell.toInt (H0.2.1 61 s).toInt (H0.2.1 2 10).toInt) N (Int32.ofInt 0) (Int32.ofInt 0)))), H) := by
  have e60 : H.2.1 60 0 = H0.2.1 60 0 := F.2.2.1 60 0 (by unfold tQ8 tQh; omega)
  have e61 : ∀ s, H.2.1 61 s = H0.2.1 61 s := fun s => F.2.2.1 61 s (by unfold tQ8 tQh; omega)
  have ew : ∀ k, H.2.1 2 k = H0.2.1 2 k := fun k => F.2.2.1 2 k (by unfold tQ8 tQh; omega)
  have en : (H.2.1 60 0).toInt.toNat = N := by rw [e60]; omega
  have q := yc_bn2 (L := L) (σ := σ) (d := d) (H := H) (cell := cell) W (by rw [ew]; exact hw) hx (by rw [e60]; omega) (fun s hs => by rw [e60] at hs; rw [e61]; exact hb s (by omega))
  have eF : (fun s => xNb (H.2.1 2 0).toInt cell.toInt (H.2.1 61 s).toInt (H.2.1 2 10).toInt) = (fun s => xNb (H0.2.1 2 0).toInt cell.toInt (H0.2.1 61 s).toInt (H0.2.1 2 10).toInt) := funext fun s => by rw [ew, ew, e61]
  rw [eF, en] at q
  exact q

theorem yc_fdN2 {L : Nat} {σ : Nat → Int32} {d : Nat} {P : zp_X → Prop} {H0 : zp_H} {p : Int32} {N b6 : Nat} {m6 : Nat → Nat} (hn : (H0.2.1 60 0).toInt = (N : Int)) (hN8 : N ≤ 8) (hw : 2 ≤ (H0.2.1 2 0).toInt) (hb : ∀ s, s < N → 0 ≤ (H0.2.1 61 s).toInt ∧ (H0.2.1 61 s).toInt ≤ 63) (hb2 : ∀ s, s < N → 0 ≤ (H0.2.1 62 s).toInt ∧ (H0.2.1 62 s).toInt ≤ 63) (hm6 : ∀ g, g < N → tBn (fun s => xNb (H0.2.1 2 0).toInt (H0.2.1 62 g).toInt (H0.2.1 61 s).toInt (H0.2.1 2 10).toInt) N (Int32.ofInt 0) (Int32.ofInt 0) = Int32.ofNat (m6 g)) : ∀ (n : Nat) (H : zp_H) (lv : zp_LV) (i : Int32), zw_W H → (tFw tQ8 H0 H ∧ H.2.1 60 6 = Int32.ofNat b6 ∧ (∀ l, l < 256 → H.2.1 65 l = Int32.ofInt (-1)) ∧ ∀ g : Nat, (g : Int) < i.toInt → H.2.1 66 g = Int32.ofNat (m6 g)) → 0 ≤ i.toInt → i.toInt + (n : Int) = (N : Int) → zp_get lv 0 = some (.inr (.inr (some 61))) → zp_get lv 1 = some (.inr (.inr (some 3))) → zp_get lv 2 = some (.inr (.inr (some 57))) → zp_get lv 3 = some (.inl p) → zp_get lv 4 = some (.inl i) → (∀ H lv, zw_W H → (tFw tQ8 H0 H ∧ H.2.1 60 6 = Int32.ofNat b6 ∧ (∀ l, l < 256 → H.2.1 65 l = Int32.ofInt (-1)) ∧ ∀ g : Nat, (g : Int) < (N : Int) → H.2.1 66 g = Int32.ofNat (m6 g)) → zp_get lv 0 = some (.inr (.inr (some 61))) → zp_get lv 1 = some (.inr (.inr (some 3))) → zp_get lv 2 = some (.inr (.inr (some 57))) → zp_get lv 3 = some (.inl p) → zs_Safe L σ P zm_141 [] (d + 6) (58, lv, [], H, (0, 0))) → zs_Safe L σ P zm_141 [] (d + 6) (24, lv, [], H, (0, 0)) := by
  intro n
  induction n with
  | zero =>
    intro H lv i W hK h5 hN l0 l1 l2 l3 l4 hP
    have e60 : (H.2.1 60 0).toInt = (N : Int) := (congrArg Int32.toInt (hK.1.2.2.1 60 0 (by unfold tQ8 tQh; omega))).trans hn
    refine zw_ld (n := 2) (k := 4) (f := zp_isI) (pc' := 26) rfl rfl l4 rfl rfl ?_
    refine zw_ld (n := 1) (k := 0) (f := zp_isR) (pc' := 27) rfl rfl l0 rfl rfl ?_
    refine zw_gI (q := 60) (pc' := 30) W rfl rfl rfl rfl rfl rfl ?_
    refine zw_bge2 (g := 58) (pc' := 33) rfl rfl rfl rfl rfl (fun h1 => ?_) (fun h1 => ?_)
    · exact hP H _ W ⟨hK.1, hK.2.1, hK.2.2.1, fun g hg => hK.2.2.2 g (by omega)⟩ l0 l1 l2 l3
    · have hN : i.toInt + ((0 : Nat) : Int) = (N : Int) := hN
      omega
  | succ n ih =>
    intro H lv i W hK h5 hN l0 l1 l2 l3 l4 hP
    have e60 : (H.2.1 60 0).toInt = (N : Int) := (congrArg Int32.toInt (hK.1.2.2.1 60 0 (by unfold tQ8 tQh; omega))).trans hn
    refine zw_ld (n := 2) (k := 4) (f := zp_isI) (pc' := 26) rfl rfl l4 rfl rfl ?_
    refine zw_ld (n := 1) (k := 0) (f := zp_isR) (pc' := 27) rfl rfl l0 rfl rfl ?_
    refine zw_gI (q := 60) (pc' := 30) W rfl rfl rfl rfl rfl rfl ?_
    refine zw_bge2 (g := 58) (pc' := 33) rfl rfl rfl rfl rfl (fun h1 => ?_) (fun h1 => ?_)
    · omega
    · have ei : (i + Int32.ofInt 1).toInt = i.toInt + 1 := zw_p1 (by omega)
      have e62 : H.2.1 62 i.toInt.toNat = H0.2.1 62 i.toInt.toNat := hK.1.2.2.1 62 _ (by unfold tQ8 tQh; omega)
      have q := yd_bn2 (L := L) (σ := σ) (d := d + 3) (cell := H0.2.1 62 i.toInt.toNat) W hK.1 hn hN8 hw (hb2 _ (by omega)) hb
      rw [hm6 _ (by omega)] at q
      refine zw_ld (n := 1) (k := 0) (f := zp_isR) (pc' := 34) rfl rfl l0 rfl rfl ?_
      refine zw_gR (q := 60) (pc' := 37) W rfl rfl rfl rfl (W.2 60 7 _ rfl) rfl ?_
      refine zw_ld (n := 2) (k := 4) (f := zp_isI) (pc' := 39) rfl rfl l4 rfl rfl ?_
      refine zw_ld (n := 1) (k := 0) (f := zp_isR) (pc' := 40) rfl rfl l0 rfl rfl ?_
      refine zw_ld (n := 1) (k := 1) (f := zp_isR) (pc' := 41) rfl rfl l1 rfl rfl ?_
      refine zw_ld (n := 1) (k := 0) (f := zp_isR) (pc' := 42) rfl rfl l0 rfl rfl ?_
      refine zw_gR (q := 60) (pc' := 45) W rfl rfl rfl rfl (W.2 60 2 _ rfl) rfl ?_
      refine zw_ld (n := 2) (k := 4) (f := zp_isI) (pc' := 47) rfl rfl l4 rfl rfl ?_
      refine zw_ia (q := 62) (pc' := 48) W rfl rfl (by decide) (⟨h5, by show _ < ((8 : Nat) : Int); omega⟩) rfl rfl ?_
      rw [e62]
      refine zw_c (pc' := 51) (zw_cv (q := 60) (Y := zm_142) W.1 rfl rfl zm_142_t rfl rfl) rfl rfl rfl rfl rfl (q) ?_
      refine zw_is (q := 66) (pc' := 52) W rfl rfl (by decide) (⟨h5, by show _ < ((8 : Nat) : Int); omega⟩) rfl ?_
      refine zw_ii (pc' := 55) rfl l4 rfl rfl ?_
      refine zw_s (pc' := 24) rfl rfl ?_
      refine ih (zw_I H 66 i.toInt.toNat (Int32.ofNat (m6 i.toInt.toNat))) _ (i + Int32.ofInt 1) (zw_W_I W) ⟨tFw_I hK.1 (Or.inr (Or.inl ⟨by decide, by decide⟩)), (zw_ne rfl rfl).trans hK.2.1, fun l hl => (zw_ne rfl rfl).trans (hK.2.2.1 l hl), fun g hg => ?_⟩ (by omega) (by omega) (zw_gt l0 rfl rfl) (zw_gt l1 rfl rfl) (zw_gt l2 rfl rfl) (zw_gt l3 rfl rfl) zw_g1 hP
      by_cases h9 : g = i.toInt.toNat
      · rw [h9]
        exact zw_eq
      · exact (y_ne (fun h8 => h9 h8.2)).trans (hK.2.2.2 g (by omega))

theorem yc_fdZ2 {L : Nat} {σ : Nat → Int32} {d : Nat} {P : zp_X → Prop} {S : xSea} {CC : Nat → List xIt} {H0 : zp_H} {p : Int32} {N : Nat} {A : Nat → Bool} {B : Nat → Nat → Bool} {b6 : Nat} {m6 : Nat → Nat} (hy : tHy S CC 2 H0 p N A B b6 m6) : ∀ (n : Nat) (H : zp_H) (lv : zp_LV) (j : Nat) (len : Int32), zw_W H → tDk b6 m6 (tGd S CC 2 H0 p N) N H0 H → j + n = N + 1 → tFZ (tCd A B (tGd S CC 2 H0 p N)) (2 ^ N) len H j → zp_get lv 0 = some (.inr (.inr (some 61))) → zp_get lv 1 = some (.inr (.inr (some 3))) → zp_get lv 2 = some (.inr (.inr (some 57))) → zp_get lv 3 = some (.inl p) → zp_get lv 4 = some (.inl len) → zp_get lv 5 = some (.inl (Int32.ofNat j)) → (∀ H lv len, zw_W H → tDk b6 m6 (tGd S CC 2 H0 p N) N H0 H → tFZ (tCd A B (tGd S CC 2 H0 p N)) (2 ^ N) len H (N + 1) → zp_get lv 0 = some (.inr (.inr (some 61))) → zp_get lv 1 = some (.inr (.inr (some 3))) → zp_get lv 2 = some (.inr (.inr (some 57))) → zp_get lv 3 = some (.inl p) → zp_get lv 4 = some (.inl len) → zs_Safe L σ P zm_141 [] (d + 6) (182, lv, [], H, (0, 0))) → zs_Safe L σ P zm_141 [] (d + 6) (64, lv, [], H, (0, 0)) := by
  intro n
  induction n with
  | zero =>
    intro H lv j len W hD hn hZ l0 l1 l2 l3 l4 l5 hP
    have e60 : (H.2.1 60 0).toInt = (N : Int) := (congrArg Int32.toInt (hD.1.2.2.1 60 0 (by unfold tQ8 tQh; omega))).trans hy.2.2.2.2.2.2.1
    have hN8 := hy.2.2.2.2.2.1
    have tJ := tm_t9 (a := j) (by omega)
    refine zw_ld (n := 2) (k := 5) (f := zp_isI) (pc' := 66) rfl rfl l5 rfl rfl ?_
    refine zw_ld (n := 1) (k := 0) (f := zp_isR) (pc' := 67) rfl rfl l0 rfl rfl ?_
    refine zw_gI (q := 60) (pc' := 70) W rfl rfl rfl rfl rfl rfl ?_
    refine zw_bgt2 (g := 182) (pc' := 73) rfl rfl rfl rfl rfl (fun h1 => ?_) (fun h1 => ?_)
    · have ej : j = N + 1 := by omega
      rw [ej] at hZ
      exact hP H _ len W hD hZ l0 l1 l2 l3 l4
    · have hn : j + 0 = N + 1 := hn
      omega
  | succ n ih =>
    intro H lv j len W hD hn hZ l0 l1 l2 l3 l4 l5 hP
    have e60 : (H.2.1 60 0).toInt = (N : Int) := (congrArg Int32.toInt (hD.1.2.2.1 60 0 (by unfold tQ8 tQh; omega))).trans hy.2.2.2.2.2.2.1
    have hN8 := hy.2.2.2.2.2.1
    have tJ := tm_t9 (a := j) (by omega)
    refine zw_ld (n := 2) (k := 5) (f := zp_isI) (pc' := 66) rfl rfl l5 rfl rfl ?_
    refine zw_ld (n := 1) (k := 0) (f := zp_isR) (pc' := 67) rfl rfl l0 rfl rfl ?_
    refine zw_gI (q := 60) (pc' := 70) W rfl rfl rfl rfl rfl rfl ?_
    refine zw_bgt2 (g := 182) (pc' := 73) rfl rfl rfl rfl rfl (fun h1 => ?_) (fun h1 => ?_)
    · omega
    · refine zw_ld (n := 2) (k := 4) (f := zp_isI) (pc' := 75) rfl rfl l4 rfl rfl ?_
      refine zw_s (pc' := 76) rfl rfl ?_
      refine zw_bne2 (g := 182) (pc' := 79) rfl rfl rfl rfl (rfl : _ = (-1 : Int)) (fun h2 => ?_) (fun h2 => ?_)
      · have h2 : ¬ len.toInt = -1 := h2
        exact hP H _ len W hD (tFZ_up hZ h2 (by omega)) l0 l1 l2 l3 l4
      · have h2 : len.toInt = -1 := h2
        refine zw_s (pc' := 80) rfl rfl ?_
        rw [tm_z]
        refine zw_st (n := 2) (k := 6) (f := zp_isI) (pc' := 82) rfl rfl rfl rfl rfl ?_
        have h7 : (2 : Nat) ^ N ≤ 2 ^ 8 := Nat.pow_le_pow_right (by decide) hN8
        have hl1 : len = Int32.ofInt (-1) := Int32.toInt_inj.mp (h2.trans (by decide))
        refine yc_fdS2 (NN := 2 ^ N) hy rfl (by omega) (2 ^ N) H _ j 0 (Int32.ofNat j) len tJ W hD (by omega) (Or.inl ⟨hl1, fun a ha => absurd ha (Nat.not_lt_zero _)⟩) (zw_gt l0 rfl rfl) (zw_gt l1 rfl rfl) (zw_gt l2 rfl rfl) (zw_gt l3 rfl rfl) (zw_gt l4 rfl rfl) (zw_gt l5 rfl rfl) zw_g1 (fun H1 lv1 len1 w1 w2 w3 l0 l1 l2 l3 l4 l5 => ?_)
        have as := tm_s (a := j) (by omega)
        refine zw_ii (pc' := 179) rfl l5 rfl rfl ?_
        refine zw_s (pc' := 64) rfl rfl ?_
        rw [as]
        exact ih H1 _ (j + 1) len1 w1 w2 (by omega) (tFZ_s (by omega) hZ h2 w3) (zw_gt l0 rfl rfl) (zw_gt l1 rfl rfl) (zw_gt l2 rfl rfl) (zw_gt l3 rfl rfl) (zw_gt l4 rfl rfl) zw_g1 hP

theorem yc_fd2 {L : Nat} {σ : Nat → Int32} {d : Nat} {S : xSea} {CC : Nat → List xIt} {H0 : zp_H} {p : Int32} {N : Nat} (W : zw_W H0) (hS : xOk S) (hC : xSC 2 H0 S) (hCC : xCC 2 CC H0) (hp : 0 ≤ p.toInt ∧ p.toInt < 4) (hc : xIn S (H0.2.1 7 p.toInt.toNat).toInt) (hN8 : N ≤ 8) (hn : (H0.2.1 60 0).toInt = (N : Int)) (h64 : ∀ j, j < N → H0.2.1 64 j = xLo (H0.2.2.1 63) (Int32.ofNat j)) (hw : 2 ≤ (H0.2.1 2 0).toInt) (hsc : 0 ≤ (H0.2.1 2 9).toInt ∧ (H0.2.1 2 9).toInt ≤ 63) (hb : ∀ s, s < N → 0 ≤ (H0.2.1 61 s).toInt ∧ (H0.2.1 61 s).toInt ≤ 63) (hb2 : ∀ s, s < N → 0 ≤ (H0.2.1 62 s).toInt ∧ (H0.2.1 62 s).toInt ≤ 63) : ∃ X, zp_Call L σ (d + 7) 141 [.inr (.inr (some 61)), .inr (.inr (some 3)), .inr (.inr (some 57)), .inl p] H0 X ∧ ∃ K len, X = (.inl (some (.inl len)), K) ∧ zw_W K ∧ tFw tQ9 H0 K ∧ tFO (tCd (tNb 2 H0 N (H0.2.1 2 9).toInt) (fun t => tNb 2 H0 N (H0.2.1 62 t).toInt) (tGd S CC 2 H0 p N)) N H0 K len := by
  obtain ⟨_, f1, H1, rfl, W1, f2, f3⟩ := yc_fl (L := L) (σ := σ) (d := d + 5) (H := H0) (x := Int32.ofInt (-1)) W
  have F1 : tFw tQ8 H0 H1 := tFw_m (fun p k (h9 : p = 65) => Or.inr (Or.inl (by omega))) f2
  obtain ⟨b6, hb6, n1, n2⟩ := tNb_m (wp := 2) (H0 := H0) (N := N) (c := (H0.2.1 2 9).toInt) hN8
  have hm : ∃ m : Nat → Nat, ∀ g, m g < 256 ∧ tBn (fun s => xNb (H0.2.1 2 0).toInt (H0.2.1 62 g).toInt (H0.2.1 61 s).toInt (H0.2.1 2 10).toInt) N (Int32.ofInt 0) (Int32.ofInt 0) = Int32.ofNat (m g) ∧ ∀ s, (m g).testBit s = true ↔ tNb 2 H0 N (H0.2.1 62 g).toInt s = true := by
    have k : ∀ g, ∃ x, x < 256 ∧ tBn (fun s => xNb (H0.2.1 2 0).toInt (H0.2.1 62 g).toInt (H0.2.1 61 s).toInt (H0.2.1 2 10).toInt) N (Int32.ofInt 0) (Int32.ofInt 0) = Int32.ofNat x ∧ ∀ s, x.testBit s = true ↔ tNb 2 H0 N (H0.2.1 62 g).toInt s = true := fun g => tNb_m hN8
    exact ⟨fun g => Classical.choose (k g), fun g => Classical.choose_spec (k g)⟩
  obtain ⟨m6, hm6⟩ := hm
  have hy : tHy S CC 2 H0 p N (tNb 2 H0 N (H0.2.1 2 9).toInt) (fun t => tNb 2 H0 N (H0.2.1 62 t).toInt) b6 m6 := ⟨hS, hC, hCC, hp, hc, hN8, hn, h64, hb6, n2, fun g _ => ⟨(hm6 g).1, (hm6 g).2.2⟩⟩
  have qs := yd_bn2 (L := L) (σ := σ) (d := d + 3) (cell := H0.2.1 2 9) W1 F1 hn hN8 hw hsc hb
  rw [n1] at qs
  have e9 : H1.2.1 2 9 = H0.2.1 2 9 := F1.2.2.1 2 9 (by unfold tQ8 tQh; omega)
  refine zw_met zm_141_t rfl rfl ?_
  refine zw_ld (n := 1) (k := 0) (f := zp_isR) (pc' := 1) rfl rfl rfl rfl rfl ?_
  refine zw_gR (q := 60) (pc' := 4) W rfl rfl rfl rfl (W.2 60 5 _ rfl) rfl ?_
  refine zw_s (pc' := 5) rfl rfl ?_
  refine zw_cn (pc' := 8) (zw_cs (Y := zm_5) rfl rfl zm_5_t) rfl rfl rfl rfl rfl (f1) ?_
  refine zw_ld (n := 1) (k := 0) (f := zp_isR) (pc' := 9) rfl rfl rfl rfl rfl ?_
  refine zw_ld (n := 1) (k := 0) (f := zp_isR) (pc' := 10) rfl rfl rfl rfl rfl ?_
  refine zw_ld (n := 1) (k := 1) (f := zp_isR) (pc' := 11) rfl rfl rfl rfl rfl ?_
  refine zw_ld (n := 1) (k := 1) (f := zp_isR) (pc' := 12) rfl rfl rfl rfl rfl ?_
  refine zw_gI (q := 2) (pc' := 15) W1 rfl rfl rfl rfl rfl rfl ?_
  rw [e9]
  refine zw_c (pc' := 18) (zw_cv (q := 60) (Y := zm_142) W1.1 rfl rfl zm_142_t rfl rfl) rfl rfl rfl rfl rfl (qs) ?_
  refine zw_pI (q := 60) (pc' := 21) W1 rfl rfl rfl rfl rfl rfl ?_
  refine zw_s (pc' := 22) rfl rfl ?_
  refine zw_st (n := 2) (k := 4) (f := zp_isI) (pc' := 24) rfl rfl rfl rfl rfl ?_
  refine yc_fdN2 hn hN8 hw hb hb2 (fun g _ => (hm6 g).2.1) N (zw_I H1 60 6 (Int32.ofNat b6)) _ (Int32.ofInt 0) (zw_W_I W1) ⟨tFw_I F1 (Or.inr (Or.inr ⟨rfl, rfl⟩)), zw_eq, fun l hl => (zw_ne rfl rfl).trans (f3 l hl), fun g hg => absurd hg (by rw [show (Int32.ofInt 0).toInt = 0 by decide]; omega)⟩ (by decide) (by rw [show (Int32.ofInt 0).toInt = 0 by decide]; omega) (zw_gt rfl rfl rfl) (zw_gt rfl rfl rfl) (zw_gt rfl rfl rfl) (zw_gt rfl rfl rfl) zw_g1 (fun H2 lv2 W2 K2 l0 l1 l2 l3 => ?_)
  refine zw_s (pc' := 59) rfl rfl ?_
  refine zw_st (n := 2) (k := 4) (f := zp_isI) (pc' := 61) rfl rfl rfl rfl rfl ?_
  refine zw_s (pc' := 62) rfl rfl ?_
  rw [tm_z]
  refine zw_st (n := 2) (k := 5) (f := zp_isI) (pc' := 64) rfl rfl rfl rfl rfl ?_
  refine yc_fdZ2 hy (N + 1) H2 _ 0 (Int32.ofInt (-1)) W2 ⟨K2.1, K2.2.1, fun g hg => K2.2.2.2 g (by omega), fun l hl => Or.inl (K2.2.2.1 l hl)⟩ (by omega) (Or.inl ⟨rfl, fun m hm => absurd hm (Nat.not_lt_zero _)⟩) (zw_gt (zw_gt l0 rfl rfl) rfl rfl) (zw_gt (zw_gt l1 rfl rfl) rfl rfl) (zw_gt (zw_gt l2 rfl rfl) rfl rfl) (zw_gt (zw_gt l3 rfl rfl) rfl rfl) (zw_gt zw_g1 rfl rfl) zw_g1 (fun H3 lv3 len W3 D3 Z3 l0 l1 l2 l3 l4 => ?_)
  refine zw_ld (n := 2) (k := 4) (f := zp_isI) (pc' := 184) rfl rfl l4 rfl rfl ?_
  refine zw_s (pc' := 185) rfl rfl ?_
  refine zw_beq2 (g := 209) (pc' := 188) rfl rfl rfl rfl (rfl : _ = (-1 : Int)) (fun h5 => ?_) (fun h5 => ?_)
  · refine zw_ld (n := 2) (k := 4) (f := zp_isI) (pc' := 211) rfl rfl l4 rfl rfl ?_
    refine zw_ri rfl rfl ?_
    have h5 : len.toInt = -1 := h5
    refine ⟨H3, len, rfl, W3, (tFw_m (fun p k h9 => h9.elim Or.inl (fun h8 => Or.inr (h8.elim (fun h7 => Or.inl ⟨h7.1, by omega⟩) (fun h7 => Or.inr ⟨h7.1, Or.inl h7.2⟩)))) D3.1), ?_⟩
    rcases Z3 with ⟨z1, z2⟩ | ⟨m, q, z1, z2, z3⟩
    · exact Or.inl ⟨z1, fun m hm => z2 m (by omega), fun k => D3.1.2.2.1 69 k (by unfold tQ8 tQh; omega), D3.1.2.2.1 60 11 (by unfold tQ8 tQh; omega)⟩
    · rw [z2, tm_t9 (by omega)] at h5
      omega
  · refine zw_ld (n := 1) (k := 0) (f := zp_isR) (pc' := 189) rfl rfl l0 rfl rfl ?_
    refine zw_gR (q := 60) (pc' := 192) W3 rfl rfl rfl rfl (W3.2 60 9 _ rfl) rfl ?_
    refine zw_s (pc' := 193) rfl rfl ?_
    refine zw_ld (n := 1) (k := 0) (f := zp_isR) (pc' := 194) rfl rfl l0 rfl rfl ?_
    refine zw_gR (q := 60) (pc' := 197) W3 rfl rfl rfl rfl (W3.2 60 10 _ rfl) rfl ?_
    refine zw_s (pc' := 198) rfl rfl ?_
    refine zw_s (pc' := 200) rfl rfl ?_
    have h5 : ¬ len.toInt = -1 := h5
    have k3 : ∀ p k, p ≠ 69 → (zw_K H3 69 (va_cpy (H3.2.1 68) (H3.2.1 69) (Int32.ofInt 0).toInt.toNat (Int32.ofInt 0).toInt.toNat (Int32.ofInt 8).toInt.toNat)).2.1 p k = H3.2.1 p k := fun p k hp => zw_Kn hp
    have k4 : ∀ k, k < 8 → (zw_K H3 69 (va_cpy (H3.2.1 68) (H3.2.1 69) (Int32.ofInt 0).toInt.toNat (Int32.ofInt 0).toInt.toNat (Int32.ofInt 8).toInt.toNat)).2.1 69 k = H3.2.1 68 k := fun k hk => zw_Ke.trans ((va_cpy_i ⟨Nat.zero_le _, by show k < 0 + 8; omega⟩).trans (congrArg (H3.2.1 68) (show 0 + (k - 0) = k by omega)))
    have W4 : zw_W (zw_K H3 69 (va_cpy (H3.2.1 68) (H3.2.1 69) (Int32.ofInt 0).toInt.toNat (Int32.ofInt 0).toInt.toNat (Int32.ofInt 8).toInt.toNat)) := W3
    have F4 : tFw tQ9 H0 (zw_K H3 69 (va_cpy (H3.2.1 68) (H3.2.1 69) (Int32.ofInt 0).toInt.toNat (Int32.ofInt 0).toInt.toNat (Int32.ofInt 8).toInt.toNat)) := tFw_t (tFw_m (fun p k h9 => h9.elim Or.inl (fun h8 => Or.inr (h8.elim (fun h7 => Or.inl ⟨h7.1, by omega⟩) (fun h7 => Or.inr ⟨h7.1, Or.inl h7.2⟩)))) D3.1) ⟨rfl, rfl, fun p k hp => k3 p k (fun h9 => hp (Or.inr (Or.inl (by omega)))), fun _ _ _ _ => rfl⟩
    refine zw_ac (q0 := 68) (q1 := 69) (pc' := 203) W3 rfl rfl rfl rfl ⟨by decide, by decide, by decide, by decide, by decide, (show (0 : Nat) ≤ 8 by decide)⟩ rfl ?_
    refine zw_ld (n := 1) (k := 0) (f := zp_isR) (pc' := 204) rfl rfl l0 rfl rfl ?_
    refine zw_ld (n := 2) (k := 4) (f := zp_isI) (pc' := 206) rfl rfl l4 rfl rfl ?_
    refine zw_pI (q := 60) (pc' := 209) W4 rfl rfl rfl rfl rfl rfl ?_
    refine zw_ld (n := 2) (k := 4) (f := zp_isI) (pc' := 211) rfl rfl l4 rfl rfl ?_
    refine zw_ri rfl rfl ?_
    refine ⟨zw_I (zw_K H3 69 (va_cpy (H3.2.1 68) (H3.2.1 69) (Int32.ofInt 0).toInt.toNat (Int32.ofInt 0).toInt.toNat (Int32.ofInt 8).toInt.toNat)) 60 11 len, len, rfl, zw_W_I W4, tFw_I F4 (Or.inr (Or.inr ⟨rfl, Or.inr rfl⟩)), ?_⟩
    rcases Z3 with ⟨z1, z2⟩ | ⟨m, q, z1, z2, z3, z4, z5, z6, z7⟩
    · exact absurd (by rw [z1]; decide) h5
    · exact Or.inr ⟨m, q, by omega, z2, z3, fun k hk => (zw_ne rfl rfl).trans ((k4 k (by omega)).trans (z4 k hk)), zw_eq, z5, z6, z7⟩

theorem yd_bn22 {L : Nat} {σ : Nat → Int32} {d : Nat} {H0 H : zp_H} {N : Nat} {cell : Int32} (W : zw_W H) (F : tFw tQ8 H0 H) (hn : (H0.2.1 60 0).toInt = (N : Int)) (hN8 : N ≤ 8) (hw : 2 ≤ (H0.2.1 22 0).toInt) (hx : 0 ≤ cell.toInt ∧ cell.toInt ≤ 63) (hb : ∀ s, s < N → 0 ≤ (H0.2.1 61 s).toInt ∧ (H0.2.1 61 s).toInt ≤ 63) : zp_Call L σ (d + 3) 142 [.inr (.inr (some 61)), .inr (.inr (some 23)), .inl cell] H (.inl (some (.inl (tBn (fun s => xNb (H0.2.1 22 0).toInt cell.toInt (H0.2.1 61 s).toInt (H0.2.1 22 10).toInt) N (Int32.ofInt 0) (Int32.ofInt 0)))), H) := by
  have e60 : H.2.1 60 0 = H0.2.1 60 0 := F.2.2.1 60 0 (by unfold tQ8 tQh; omega)
  have e61 : ∀ s, H.2.1 61 s = H0.2.1 61 s := fun s => F.2.2.1 61 s (by unfold tQ8 tQh; omega)
  have ew : ∀ k, H.2.1 22 k = H0.2.1 22 k := fun k => F.2.2.1 22 k (by unfold tQ8 tQh; omega)
  have en : (H.2.1 60 0).toInt.toNat = N := by rw [e60]; omega
  have q := yc_bn22 (L := L) (σ := σ) (d := d) (H := H) (cell := cell) W (by rw [ew]; exact hw) hx (by rw [e60]; omega) (fun s hs => by rw [e60] at hs; rw [e61]; exact hb s (by omega))
  have eF : (fun s => xNb (H.2.1 22 0).toInt cell.toInt (H.2.1 61 s).toInt (H.2.1 22 10).toInt) = (fun s => xNb (H0.2.1 22 0).toInt cell.toInt (H0.2.1 61 s).toInt (H0.2.1 22 10).toInt) := funext fun s => by rw [ew, ew, e61]
  rw [eF, en] at q
  exact q

theorem yc_fdN22 {L : Nat} {σ : Nat → Int32} {d : Nat} {P : zp_X → Prop} {H0 : zp_H} {p : Int32} {N b6 : Nat} {m6 : Nat → Nat} (hn : (H0.2.1 60 0).toInt = (N : Int)) (hN8 : N ≤ 8) (hw : 2 ≤ (H0.2.1 22 0).toInt) (hb : ∀ s, s < N → 0 ≤ (H0.2.1 61 s).toInt ∧ (H0.2.1 61 s).toInt ≤ 63) (hb2 : ∀ s, s < N → 0 ≤ (H0.2.1 62 s).toInt ∧ (H0.2.1 62 s).toInt ≤ 63) (hm6 : ∀ g, g < N → tBn (fun s => xNb (H0.2.1 22 0).toInt (H0.2.1 62 g).toInt (H0.2.1 61 s).toInt (H0.2.1 22 10).toInt) N (Int32.ofInt 0) (Int32.ofInt 0) = Int32.ofNat (m6 g)) : ∀ (n : Nat) (H : zp_H) (lv : zp_LV) (i : Int32), zw_W H → (tFw tQ8 H0 H ∧ H.2.1 60 6 = Int32.ofNat b6 ∧ (∀ l, l < 256 → H.2.1 65 l = Int32.ofInt (-1)) ∧ ∀ g : Nat, (g : Int) < i.toInt → H.2.1 66 g = Int32.ofNat (m6 g)) → 0 ≤ i.toInt → i.toInt + (n : Int) = (N : Int) → zp_get lv 0 = some (.inr (.inr (some 61))) → zp_get lv 1 = some (.inr (.inr (some 23))) → zp_get lv 2 = some (.inr (.inr (some 57))) → zp_get lv 3 = some (.inl p) → zp_get lv 4 = some (.inl i) → (∀ H lv, zw_W H → (tFw tQ8 H0 H ∧ H.2.1 60 6 = Int32.ofNat b6 ∧ (∀ l, l < 256 → H.2.1 65 l = Int32.ofInt (-1)) ∧ ∀ g : Nat, (g : Int) < (N : Int) → H.2.1 66 g = Int32.ofNat (m6 g)) → zp_get lv 0 = some (.inr (.inr (some 61))) → zp_get lv 1 = some (.inr (.inr (some 23))) → zp_get lv 2 = some (.inr (.inr (some 57))) → zp_get lv 3 = some (.inl p) → zs_Safe L σ P zm_141 [] (d + 6) (58, lv, [], H, (0, 0))) → zs_Safe L σ P zm_141 [] (d + 6) (24, lv, [], H, (0, 0)) := by
  intro n
  induction n with
  | zero =>
    intro H lv i W hK h5 hN l0 l1 l2 l3 l4 hP
    have e60 : (H.2.1 60 0).toInt = (N : Int) := (congrArg Int32.toInt (hK.1.2.2.1 60 0 (by unfold tQ8 tQh; omega))).trans hn
    refine zw_ld (n := 2) (k := 4) (f := zp_isI) (pc' := 26) rfl rfl l4 rfl rfl ?_
    refine zw_ld (n := 1) (k := 0) (f := zp_isR) (pc' := 27) rfl rfl l0 rfl rfl ?_
    refine zw_gI (q := 60) (pc' := 30) W rfl rfl rfl rfl rfl rfl ?_
    refine zw_bge2 (g := 58) (pc' := 33) rfl rfl rfl rfl rfl (fun h1 => ?_) (fun h1 => ?_)
    · exact hP H _ W ⟨hK.1, hK.2.1, hK.2.2.1, fun g hg => hK.2.2.2 g (by omega)⟩ l0 l1 l2 l3
    · have hN : i.toInt + ((0 : Nat) : Int) = (N : Int) := hN
      omega
  | succ n ih =>
    intro H lv i W hK h5 hN l0 l1 l2 l3 l4 hP
    have e60 : (H.2.1 60 0).toInt = (N : Int) := (congrArg Int32.toInt (hK.1.2.2.1 60 0 (by unfold tQ8 tQh; omega))).trans hn
    refine zw_ld (n := 2) (k := 4) (f := zp_isI) (pc' := 26) rfl rfl l4 rfl rfl ?_
    refine zw_ld (n := 1) (k := 0) (f := zp_isR) (pc' := 27) rfl rfl l0 rfl rfl ?_
    refine zw_gI (q := 60) (pc' := 30) W rfl rfl rfl rfl rfl rfl ?_
    refine zw_bge2 (g := 58) (pc' := 33) rfl rfl rfl rfl rfl (fun h1 => ?_) (fun h1 => ?_)
    · omega
    · have ei : (i + Int32.ofInt 1).toInt = i.toInt + 1 := zw_p1 (by omega)
      have e62 : H.2.1 62 i.toInt.toNat = H0.2.1 62 i.toInt.toNat := hK.1.2.2.1 62 _ (by unfold tQ8 tQh; omega)
      have q := yd_bn22 (L := L) (σ := σ) (d := d + 3) (cell := H0.2.1 62 i.toInt.toNat) W hK.1 hn hN8 hw (hb2 _ (by omega)) hb
      rw [hm6 _ (by omega)] at q
      refine zw_ld (n := 1) (k := 0) (f := zp_isR) (pc' := 34) rfl rfl l0 rfl rfl ?_
      refine zw_gR (q := 60) (pc' := 37) W rfl rfl rfl rfl (W.2 60 7 _ rfl) rfl ?_
      refine zw_ld (n := 2) (k := 4) (f := zp_isI) (pc' := 39) rfl rfl l4 rfl rfl ?_
      refine zw_ld (n := 1) (k := 0) (f := zp_isR) (pc' := 40) rfl rfl l0 rfl rfl ?_
      refine zw_ld (n := 1) (k := 1) (f := zp_isR) (pc' := 41) rfl rfl l1 rfl rfl ?_
      refine zw_ld (n := 1) (k := 0) (f := zp_isR) (pc' := 42) rfl rfl l0 rfl rfl ?_
      refine zw_gR (q := 60) (pc' := 45) W rfl rfl rfl rfl (W.2 60 2 _ rfl) rfl ?_
      refine zw_ld (n := 2) (k := 4) (f := zp_isI) (pc' := 47) rfl rfl l4 rfl rfl ?_
      refine zw_ia (q := 62) (pc' := 48) W rfl rfl (by decide) (⟨h5, by show _ < ((8 : Nat) : Int); omega⟩) rfl rfl ?_
      rw [e62]
      refine zw_c (pc' := 51) (zw_cv (q := 60) (Y := zm_142) W.1 rfl rfl zm_142_t rfl rfl) rfl rfl rfl rfl rfl (q) ?_
      refine zw_is (q := 66) (pc' := 52) W rfl rfl (by decide) (⟨h5, by show _ < ((8 : Nat) : Int); omega⟩) rfl ?_
      refine zw_ii (pc' := 55) rfl l4 rfl rfl ?_
      refine zw_s (pc' := 24) rfl rfl ?_
      refine ih (zw_I H 66 i.toInt.toNat (Int32.ofNat (m6 i.toInt.toNat))) _ (i + Int32.ofInt 1) (zw_W_I W) ⟨tFw_I hK.1 (Or.inr (Or.inl ⟨by decide, by decide⟩)), (zw_ne rfl rfl).trans hK.2.1, fun l hl => (zw_ne rfl rfl).trans (hK.2.2.1 l hl), fun g hg => ?_⟩ (by omega) (by omega) (zw_gt l0 rfl rfl) (zw_gt l1 rfl rfl) (zw_gt l2 rfl rfl) (zw_gt l3 rfl rfl) zw_g1 hP
      by_cases h9 : g = i.toInt.toNat
      · rw [h9]
        exact zw_eq
      · exact (y_ne (fun h8 => h9 h8.2)).trans (hK.2.2.2 g (by omega))

theorem yc_fdZ22 {L : Nat} {σ : Nat → Int32} {d : Nat} {P : zp_X → Prop} {S : xSea} {CC : Nat → List xIt} {H0 : zp_H} {p : Int32} {N : Nat} {A : Nat → Bool} {B : Nat → Nat → Bool} {b6 : Nat} {m6 : Nat → Nat} (hy : tHy S CC 22 H0 p N A B b6 m6) : ∀ (n : Nat) (H : zp_H) (lv : zp_LV) (j : Nat) (len : Int32), zw_W H → tDk b6 m6 (tGd S CC 22 H0 p N) N H0 H → j + n = N + 1 → tFZ (tCd A B (tGd S CC 22 H0 p N)) (2 ^ N) len H j → zp_get lv 0 = some (.inr (.inr (some 61))) → zp_get lv 1 = some (.inr (.inr (some 23))) → zp_get lv 2 = some (.inr (.inr (some 57))) → zp_get lv 3 = some (.inl p) → zp_get lv 4 = some (.inl len) → zp_get lv 5 = some (.inl (Int32.ofNat j)) → (∀ H lv len, zw_W H → tDk b6 m6 (tGd S CC 22 H0 p N) N H0 H → tFZ (tCd A B (tGd S CC 22 H0 p N)) (2 ^ N) len H (N + 1) → zp_get lv 0 = some (.inr (.inr (some 61))) → zp_get lv 1 = some (.inr (.inr (some 23))) → zp_get lv 2 = some (.inr (.inr (some 57))) → zp_get lv 3 = some (.inl p) → zp_get lv 4 = some (.inl len) → zs_Safe L σ P zm_141 [] (d + 6) (182, lv, [], H, (0, 0))) → zs_Safe L σ P zm_141 [] (d + 6) (64, lv, [], H, (0, 0)) := by
  intro n
  induction n with
  | zero =>
    intro H lv j len W hD hn hZ l0 l1 l2 l3 l4 l5 hP
    have e60 : (H.2.1 60 0).toInt = (N : Int) := (congrArg Int32.toInt (hD.1.2.2.1 60 0 (by unfold tQ8 tQh; omega))).trans hy.2.2.2.2.2.2.1
    have hN8 := hy.2.2.2.2.2.1
    have tJ := tm_t9 (a := j) (by omega)
    refine zw_ld (n := 2) (k := 5) (f := zp_isI) (pc' := 66) rfl rfl l5 rfl rfl ?_
    refine zw_ld (n := 1) (k := 0) (f := zp_isR) (pc' := 67) rfl rfl l0 rfl rfl ?_
    refine zw_gI (q := 60) (pc' := 70) W rfl rfl rfl rfl rfl rfl ?_
    refine zw_bgt2 (g := 182) (pc' := 73) rfl rfl rfl rfl rfl (fun h1 => ?_) (fun h1 => ?_)
    · have ej : j = N + 1 := by omega
      rw [ej] at hZ
      exact hP H _ len W hD hZ l0 l1 l2 l3 l4
    · have hn : j + 0 = N + 1 := hn
      omega
  | succ n ih =>
    intro H lv j len W hD hn hZ l0 l1 l2 l3 l4 l5 hP
    have e60 : (H.2.1 60 0).toInt = (N : Int) := (congrArg Int32.toInt (hD.1.2.2.1 60 0 (by unfold tQ8 tQh; omega))).trans hy.2.2.2.2.2.2.1
    have hN8 := hy.2.2.2.2.2.1
    have tJ := tm_t9 (a := j) (by omega)
    refine zw_ld (n := 2) (k := 5) (f := zp_isI) (pc' := 66) rfl rfl l5 rfl rfl ?_
    refine zw_ld (n := 1) (k := 0) (f := zp_isR) (pc' := 67) rfl rfl l0 rfl rfl ?_
    refine zw_gI (q := 60) (pc' := 70) W rfl rfl rfl rfl rfl rfl ?_
    refine zw_bgt2 (g := 182) (pc' := 73) rfl rfl rfl rfl rfl (fun h1 => ?_) (fun h1 => ?_)
    · omega
    · refine zw_ld (n := 2) (k := 4) (f := zp_isI) (pc' := 75) rfl rfl l4 rfl rfl ?_
      refine zw_s (pc' := 76) rfl rfl ?_
      refine zw_bne2 (g := 182) (pc' := 79) rfl rfl rfl rfl (rfl : _ = (-1 : Int)) (fun h2 => ?_) (fun h2 => ?_)
      · have h2 : ¬ len.toInt = -1 := h2
        exact hP H _ len W hD (tFZ_up hZ h2 (by omega)) l0 l1 l2 l3 l4
      · have h2 : len.toInt = -1 := h2
        refine zw_s (pc' := 80) rfl rfl ?_
        rw [tm_z]
        refine zw_st (n := 2) (k := 6) (f := zp_isI) (pc' := 82) rfl rfl rfl rfl rfl ?_
        have h7 : (2 : Nat) ^ N ≤ 2 ^ 8 := Nat.pow_le_pow_right (by decide) hN8
        have hl1 : len = Int32.ofInt (-1) := Int32.toInt_inj.mp (h2.trans (by decide))
        refine yc_fdS22 (NN := 2 ^ N) hy rfl (by omega) (2 ^ N) H _ j 0 (Int32.ofNat j) len tJ W hD (by omega) (Or.inl ⟨hl1, fun a ha => absurd ha (Nat.not_lt_zero _)⟩) (zw_gt l0 rfl rfl) (zw_gt l1 rfl rfl) (zw_gt l2 rfl rfl) (zw_gt l3 rfl rfl) (zw_gt l4 rfl rfl) (zw_gt l5 rfl rfl) zw_g1 (fun H1 lv1 len1 w1 w2 w3 l0 l1 l2 l3 l4 l5 => ?_)
        have as := tm_s (a := j) (by omega)
        refine zw_ii (pc' := 179) rfl l5 rfl rfl ?_
        refine zw_s (pc' := 64) rfl rfl ?_
        rw [as]
        exact ih H1 _ (j + 1) len1 w1 w2 (by omega) (tFZ_s (by omega) hZ h2 w3) (zw_gt l0 rfl rfl) (zw_gt l1 rfl rfl) (zw_gt l2 rfl rfl) (zw_gt l3 rfl rfl) (zw_gt l4 rfl rfl) zw_g1 hP

theorem yc_fd22 {L : Nat} {σ : Nat → Int32} {d : Nat} {S : xSea} {CC : Nat → List xIt} {H0 : zp_H} {p : Int32} {N : Nat} (W : zw_W H0) (hS : xOk S) (hC : xSC 22 H0 S) (hCC : xCC 22 CC H0) (hp : 0 ≤ p.toInt ∧ p.toInt < 4) (hc : xIn S (H0.2.1 27 p.toInt.toNat).toInt) (hN8 : N ≤ 8) (hn : (H0.2.1 60 0).toInt = (N : Int)) (h64 : ∀ j, j < N → H0.2.1 64 j = xLo (H0.2.2.1 63) (Int32.ofNat j)) (hw : 2 ≤ (H0.2.1 22 0).toInt) (hsc : 0 ≤ (H0.2.1 22 9).toInt ∧ (H0.2.1 22 9).toInt ≤ 63) (hb : ∀ s, s < N → 0 ≤ (H0.2.1 61 s).toInt ∧ (H0.2.1 61 s).toInt ≤ 63) (hb2 : ∀ s, s < N → 0 ≤ (H0.2.1 62 s).toInt ∧ (H0.2.1 62 s).toInt ≤ 63) : ∃ X, zp_Call L σ (d + 7) 141 [.inr (.inr (some 61)), .inr (.inr (some 23)), .inr (.inr (some 57)), .inl p] H0 X ∧ ∃ K len, X = (.inl (some (.inl len)), K) ∧ zw_W K ∧ tFw tQ9 H0 K ∧ tFO (tCd (tNb 22 H0 N (H0.2.1 22 9).toInt) (fun t => tNb 22 H0 N (H0.2.1 62 t).toInt) (tGd S CC 22 H0 p N)) N H0 K len := by
  obtain ⟨_, f1, H1, rfl, W1, f2, f3⟩ := yc_fl (L := L) (σ := σ) (d := d + 5) (H := H0) (x := Int32.ofInt (-1)) W
  have F1 : tFw tQ8 H0 H1 := tFw_m (fun p k (h9 : p = 65) => Or.inr (Or.inl (by omega))) f2
  obtain ⟨b6, hb6, n1, n2⟩ := tNb_m (wp := 22) (H0 := H0) (N := N) (c := (H0.2.1 22 9).toInt) hN8
  have hm : ∃ m : Nat → Nat, ∀ g, m g < 256 ∧ tBn (fun s => xNb (H0.2.1 22 0).toInt (H0.2.1 62 g).toInt (H0.2.1 61 s).toInt (H0.2.1 22 10).toInt) N (Int32.ofInt 0) (Int32.ofInt 0) = Int32.ofNat (m g) ∧ ∀ s, (m g).testBit s = true ↔ tNb 22 H0 N (H0.2.1 62 g).toInt s = true := by
    have k : ∀ g, ∃ x, x < 256 ∧ tBn (fun s => xNb (H0.2.1 22 0).toInt (H0.2.1 62 g).toInt (H0.2.1 61 s).toInt (H0.2.1 22 10).toInt) N (Int32.ofInt 0) (Int32.ofInt 0) = Int32.ofNat x ∧ ∀ s, x.testBit s = true ↔ tNb 22 H0 N (H0.2.1 62 g).toInt s = true := fun g => tNb_m hN8
    exact ⟨fun g => Classical.choose (k g), fun g => Classical.choose_spec (k g)⟩
  obtain ⟨m6, hm6⟩ := hm
  have hy : tHy S CC 22 H0 p N (tNb 22 H0 N (H0.2.1 22 9).toInt) (fun t => tNb 22 H0 N (H0.2.1 62 t).toInt) b6 m6 := ⟨hS, hC, hCC, hp, hc, hN8, hn, h64, hb6, n2, fun g _ => ⟨(hm6 g).1, (hm6 g).2.2⟩⟩
  have qs := yd_bn22 (L := L) (σ := σ) (d := d + 3) (cell := H0.2.1 22 9) W1 F1 hn hN8 hw hsc hb
  rw [n1] at qs
  have e9 : H1.2.1 22 9 = H0.2.1 22 9 := F1.2.2.1 22 9 (by unfold tQ8 tQh; omega)
  refine zw_met zm_141_t rfl rfl ?_
  refine zw_ld (n := 1) (k := 0) (f := zp_isR) (pc' := 1) rfl rfl rfl rfl rfl ?_
  refine zw_gR (q := 60) (pc' := 4) W rfl rfl rfl rfl (W.2 60 5 _ rfl) rfl ?_
  refine zw_s (pc' := 5) rfl rfl ?_
  refine zw_cn (pc' := 8) (zw_cs (Y := zm_5) rfl rfl zm_5_t) rfl rfl rfl rfl rfl (f1) ?_
  refine zw_ld (n := 1) (k := 0) (f := zp_isR) (pc' := 9) rfl rfl rfl rfl rfl ?_
  refine zw_ld (n := 1) (k := 0) (f := zp_isR) (pc' := 10) rfl rfl rfl rfl rfl ?_
  refine zw_ld (n := 1) (k := 1) (f := zp_isR) (pc' := 11) rfl rfl rfl rfl rfl ?_
  refine zw_ld (n := 1) (k := 1) (f := zp_isR) (pc' := 12) rfl rfl rfl rfl rfl ?_
  refine zw_gI (q := 22) (pc' := 15) W1 rfl rfl rfl rfl rfl rfl ?_
  rw [e9]
  refine zw_c (pc' := 18) (zw_cv (q := 60) (Y := zm_142) W1.1 rfl rfl zm_142_t rfl rfl) rfl rfl rfl rfl rfl (qs) ?_
  refine zw_pI (q := 60) (pc' := 21) W1 rfl rfl rfl rfl rfl rfl ?_
  refine zw_s (pc' := 22) rfl rfl ?_
  refine zw_st (n := 2) (k := 4) (f := zp_isI) (pc' := 24) rfl rfl rfl rfl rfl ?_
  refine yc_fdN22 hn hN8 hw hb hb2 (fun g _ => (hm6 g).2.1) N (zw_I H1 60 6 (Int32.ofNat b6)) _ (Int32.ofInt 0) (zw_W_I W1) ⟨tFw_I F1 (Or.inr (Or.inr ⟨rfl, rfl⟩)), zw_eq, fun l hl => (zw_ne rfl rfl).trans (f3 l hl), fun g hg => absurd hg (by rw [show (Int32.ofInt 0).toInt = 0 by decide]; omega)⟩ (by decide) (by rw [show (Int32.ofInt 0).toInt = 0 by decide]; omega) (zw_gt rfl rfl rfl) (zw_gt rfl rfl rfl) (zw_gt rfl rfl rfl) (zw_gt rfl rfl rfl) zw_g1 (fun H2 lv2 W2 K2 l0 l1 l2 l3 => ?_)
  refine zw_s (pc' := 59) rfl rfl ?_
  refine zw_st (n := 2) (k := 4) (f := zp_isI) (pc' := 61) rfl rfl rfl rfl rfl ?_
  refine zw_s (pc' := 62) rfl rfl ?_
  rw [tm_z]
  refine zw_st (n := 2) (k := 5) (f := zp_isI) (pc' := 64) rfl rfl rfl rfl rfl ?_
  refine yc_fdZ22 hy (N + 1) H2 _ 0 (Int32.ofInt (-1)) W2 ⟨K2.1, K2.2.1, fun g hg => K2.2.2.2 g (by omega), fun l hl => Or.inl (K2.2.2.1 l hl)⟩ (by omega) (Or.inl ⟨rfl, fun m hm => absurd hm (Nat.not_lt_zero _)⟩) (zw_gt (zw_gt l0 rfl rfl) rfl rfl) (zw_gt (zw_gt l1 rfl rfl) rfl rfl) (zw_gt (zw_gt l2 rfl rfl) rfl rfl) (zw_gt (zw_gt l3 rfl rfl) rfl rfl) (zw_gt zw_g1 rfl rfl) zw_g1 (fun H3 lv3 len W3 D3 Z3 l0 l1 l2 l3 l4 => ?_)
  refine zw_ld (n := 2) (k := 4) (f := zp_isI) (pc' := 184) rfl rfl l4 rfl rfl ?_
  refine zw_s (pc' := 185) rfl rfl ?_
  refine zw_beq2 (g := 209) (pc' := 188) rfl rfl rfl rfl (rfl : _ = (-1 : Int)) (fun h5 => ?_) (fun h5 => ?_)
  · refine zw_ld (n := 2) (k := 4) (f := zp_isI) (pc' := 211) rfl rfl l4 rfl rfl ?_
    refine zw_ri rfl rfl ?_
    have h5 : len.toInt = -1 := h5
    refine ⟨H3, len, rfl, W3, (tFw_m (fun p k h9 => h9.elim Or.inl (fun h8 => Or.inr (h8.elim (fun h7 => Or.inl ⟨h7.1, by omega⟩) (fun h7 => Or.inr ⟨h7.1, Or.inl h7.2⟩)))) D3.1), ?_⟩
    rcases Z3 with ⟨z1, z2⟩ | ⟨m, q, z1, z2, z3⟩
    · exact Or.inl ⟨z1, fun m hm => z2 m (by omega), fun k => D3.1.2.2.1 69 k (by unfold tQ8 tQh; omega), D3.1.2.2.1 60 11 (by unfold tQ8 tQh; omega)⟩
    · rw [z2, tm_t9 (by omega)] at h5
      omega
  · refine zw_ld (n := 1) (k := 0) (f := zp_isR) (pc' := 189) rfl rfl l0 rfl rfl ?_
    refine zw_gR (q := 60) (pc' := 192) W3 rfl rfl rfl rfl (W3.2 60 9 _ rfl) rfl ?_
    refine zw_s (pc' := 193) rfl rfl ?_
    refine zw_ld (n := 1) (k := 0) (f := zp_isR) (pc' := 194) rfl rfl l0 rfl rfl ?_
    refine zw_gR (q := 60) (pc' := 197) W3 rfl rfl rfl rfl (W3.2 60 10 _ rfl) rfl ?_
    refine zw_s (pc' := 198) rfl rfl ?_
    refine zw_s (pc' := 200) rfl rfl ?_
    have h5 : ¬ len.toInt = -1 := h5
    have k3 : ∀ p k, p ≠ 69 → (zw_K H3 69 (va_cpy (H3.2.1 68) (H3.2.1 69) (Int32.ofInt 0).toInt.toNat (Int32.ofInt 0).toInt.toNat (Int32.ofInt 8).toInt.toNat)).2.1 p k = H3.2.1 p k := fun p k hp => zw_Kn hp
    have k4 : ∀ k, k < 8 → (zw_K H3 69 (va_cpy (H3.2.1 68) (H3.2.1 69) (Int32.ofInt 0).toInt.toNat (Int32.ofInt 0).toInt.toNat (Int32.ofInt 8).toInt.toNat)).2.1 69 k = H3.2.1 68 k := fun k hk => zw_Ke.trans ((va_cpy_i ⟨Nat.zero_le _, by show k < 0 + 8; omega⟩).trans (congrArg (H3.2.1 68) (show 0 + (k - 0) = k by omega)))
    have W4 : zw_W (zw_K H3 69 (va_cpy (H3.2.1 68) (H3.2.1 69) (Int32.ofInt 0).toInt.toNat (Int32.ofInt 0).toInt.toNat (Int32.ofInt 8).toInt.toNat)) := W3
    have F4 : tFw tQ9 H0 (zw_K H3 69 (va_cpy (H3.2.1 68) (H3.2.1 69) (Int32.ofInt 0).toInt.toNat (Int32.ofInt 0).toInt.toNat (Int32.ofInt 8).toInt.toNat)) := tFw_t (tFw_m (fun p k h9 => h9.elim Or.inl (fun h8 => Or.inr (h8.elim (fun h7 => Or.inl ⟨h7.1, by omega⟩) (fun h7 => Or.inr ⟨h7.1, Or.inl h7.2⟩)))) D3.1) ⟨rfl, rfl, fun p k hp => k3 p k (fun h9 => hp (Or.inr (Or.inl (by omega)))), fun _ _ _ _ => rfl⟩
    refine zw_ac (q0 := 68) (q1 := 69) (pc' := 203) W3 rfl rfl rfl rfl ⟨by decide, by decide, by decide, by decide, by decide, (show (0 : Nat) ≤ 8 by decide)⟩ rfl ?_
    refine zw_ld (n := 1) (k := 0) (f := zp_isR) (pc' := 204) rfl rfl l0 rfl rfl ?_
    refine zw_ld (n := 2) (k := 4) (f := zp_isI) (pc' := 206) rfl rfl l4 rfl rfl ?_
    refine zw_pI (q := 60) (pc' := 209) W4 rfl rfl rfl rfl rfl rfl ?_
    refine zw_ld (n := 2) (k := 4) (f := zp_isI) (pc' := 211) rfl rfl l4 rfl rfl ?_
    refine zw_ri rfl rfl ?_
    refine ⟨zw_I (zw_K H3 69 (va_cpy (H3.2.1 68) (H3.2.1 69) (Int32.ofInt 0).toInt.toNat (Int32.ofInt 0).toInt.toNat (Int32.ofInt 8).toInt.toNat)) 60 11 len, len, rfl, zw_W_I W4, tFw_I F4 (Or.inr (Or.inr ⟨rfl, Or.inr rfl⟩)), ?_⟩
    rcases Z3 with ⟨z1, z2⟩ | ⟨m, q, z1, z2, z3, z4, z5, z6, z7⟩
    · exact absurd (by rw [z1]; decide) h5
    · exact Or.inr ⟨m, q, by omega, z2, z3, fun k hk => (zw_ne rfl rfl).trans ((k4 k (by omega)).trans (z4 k hk)), zw_eq, z5, z6, z7⟩
end
section
/-! ===== the search for a row: what is behind it ===== -/
theorem t_gd : ∀ {l : List Nat} {s : Nat}, s ∈ l ↔ ∃ j, j < l.length ∧ l.getD j 0 = s
  | [], s => ⟨fun h => absurd h List.not_mem_nil, fun ⟨j, h, _⟩ => absurd h (Nat.not_lt_zero j)⟩
  | a :: l, s => by
    rw [List.mem_cons, t_gd (l := l)]
    constructor
    · rintro (h | ⟨j, h1, h2⟩)
      · exact ⟨0, Nat.succ_pos _, h.symm⟩
      · exact ⟨j + 1, Nat.succ_lt_succ h1, h2⟩
    · rintro ⟨j, h1, h2⟩
      match j, h1, h2 with
      | 0, _, h2 => exact Or.inl h2.symm
      | j + 1, h1, h2 => exact Or.inr ⟨j, Nat.lt_of_succ_lt_succ h1, h2⟩
section
variable {n : Nat} {A : Nat → Bool} {B : Nat → Nat → Bool}
theorem tV_ap : ∀ {a b P : List Nat}, tV n A B P (a ++ b) → tV n A B P a
  | [], _, _, _ => trivial
  | _ :: _, _, _, h => ⟨h.1, h.2.1, h.2.2.1, tV_ap h.2.2.2⟩
/-- s can come next behind a row -/
def tX (n : Nat) (A : Nat → Bool) (B : Nat → Nat → Bool) (P : List Nat) (s : Nat) : Prop := s < n ∧ ¬ s ∈ P ∧ tR A B P s
theorem tX_c {P P' : List Nat} {s : Nat} (h : ∀ t, t ∈ P ↔ t ∈ P') (h1 : tX n A B P s) : tX n A B P' s := ⟨h1.1, fun h9 => h1.2.1 ((h s).mpr h9), tR_m (fun t ht => (h t).mp ht) h1.2.2⟩
theorem tV_x0 : ∀ {r P : List Nat} {s : Nat}, tV n A B P (r ++ [s]) ↔ (tV n A B P r ∧ tX n A B (r.reverse ++ P) s)
  | [], P, s => ⟨fun h => ⟨trivial, h.1, h.2.1, h.2.2.1⟩, fun h => ⟨h.2.1, h.2.2.1, h.2.2.2, trivial⟩⟩
  | g :: r, P, s => by
    have e : (g :: r).reverse ++ P = r.reverse ++ g :: P := by rw [List.reverse_cons, List.append_assoc]; rfl
    rw [e]
    have ih := tV_x0 (r := r) (P := g :: P) (s := s)
    exact ⟨fun h => ⟨⟨h.1, h.2.1, h.2.2.1, (ih.mp h.2.2.2).1⟩, (ih.mp h.2.2.2).2⟩, fun h => ⟨h.1.1, h.1.2.1, h.1.2.2.1, ih.mpr ⟨h.1.2.2.2, h.2⟩⟩⟩
theorem tV_x {r : List Nat} {s : Nat} : tV n A B [] (r ++ [s]) ↔ (tV n A B [] r ∧ tX n A B r s) := by
  rw [tV_x0]
  have e : ∀ t, t ∈ r.reverse ++ [] ↔ t ∈ r := fun t => by rw [List.append_nil, List.mem_reverse]
  exact ⟨fun h => ⟨h.1, tX_c e h.2⟩, fun h => ⟨h.1, tX_c (fun t => (e t).symm) h.2⟩⟩
end
/-- a row split by its number -/
theorem tN_sp {r : List Nat} {k e x : Nat} (hl : r.length = k + e) (h16 : ∀ s, s ∈ r → s < 16) (h1 : x * 16 ^ e ≤ tN r 0) (h2 : tN r 0 < (x + 1) * 16 ^ e) : tN (r.take k) 0 = x := by
  have es : tN r 0 = tN (r.drop k) (tN (r.take k) 0) := by
    rw [← tN_a2, List.take_append_drop]
  have hd : (r.drop k).length = e := by rw [List.length_drop]; omega
  have b1 := tN_lo (r.drop k) (tN (r.take k) 0)
  have b2 := tN_hi (r.drop k) (tN (r.take k) 0) (fun s hs => h16 s (List.mem_of_mem_drop hs))
  rw [hd, ← es] at b1 b2
  have c1 : x < tN (r.take k) 0 + 1 := Nat.lt_of_mul_lt_mul_right (Nat.lt_of_le_of_lt h1 b2)
  have c2 : tN (r.take k) 0 < x + 1 := Nat.lt_of_mul_lt_mul_right (Nat.lt_of_le_of_lt b1 h2)
  omega
theorem t_tk {r : List Nat} {k : Nat} (h : k < r.length) : r.take (k + 1) = r.take k ++ [r.getD k 0] := by
  rw [List.take_succ]
  congr 1
  rw [List.getD_eq_getElem?_getD, List.getElem?_eq_getElem h]
  rfl
/-- no good row is below X at 16 to the e -/
def tLw (O : List Nat → Prop) (X e : Nat) : Prop := ∀ r, O r → X * 16 ^ e ≤ tN r 0
theorem tLw_ce {O : List Nat → Prop} {X e e' : Nat} (h : tLw O X e) (he : e = e') : tLw O X e' := by
  subst he
  exact h
section
variable {N m : Nat} {A : Nat → Bool} {B : Nat → Nat → Bool} {T : (Nat → Bool) → Prop}
theorem tO_16 {r : List Nat} (hN : N ≤ 16) (h : tOk N A B T m r) : ∀ s, s ∈ r → s < 16 := fun s hs => by
  have := (tV_p h.2.1 s hs).1
  omega
theorem tLw_no {pre : List Nat} {c e : Nat} (hN : N ≤ 8) (hc : c < 16) (hp : tV N A B [] pre) (hm : pre.length + 1 + e = m) (hx : ¬ tX N A B pre c) (h : tLw (tOk N A B T m) (tN pre 0 * 16 + c) e) : tLw (tOk N A B T m) (tN pre 0 * 16 + (c + 1)) e := fun r hr => by
  refine Nat.le_of_not_lt (fun h9 => hx ?_)
  have h16 := tO_16 (by omega) hr
  have e1 := tN_sp (k := pre.length + 1) (by rw [hr.1]; omega) h16 (h r hr) h9
  rw [← tN_app] at e1
  have p16 : ∀ s, s ∈ pre ++ [c] → s < 16 := fun s hs => by
    rcases List.mem_append.mp hs with h8 | h8
    · have := (tV_p hp s h8).1
      omega
    · rw [List.mem_singleton.mp h8]
      exact hc
  have e2 := (tN_inj (by rw [List.length_take, List.length_append, hr.1, List.length_singleton]; omega) (fun s hs => h16 s (List.mem_of_mem_take hs)) p16 e1).2
  have hv := hr.2.1
  rw [← List.take_append_drop (pre.length + 1) r, e2] at hv
  exact (tV_x.mp (tV_ap hv)).2
theorem tLw_bk {pre : List Nat} {c e : Nat} (hN : N ≤ 8) (hc : N ≤ c) (hp : tV N A B [] pre) (hm : pre.length + 1 + e = m) (h : tLw (tOk N A B T m) (tN pre 0 * 16 + c) e) : tLw (tOk N A B T m) (tN pre 0 + 1) (e + 1) := fun r hr => by
  refine Nat.le_of_not_lt (fun h9 => ?_)
  have h16 := tO_16 (by omega) hr
  have h1 := h r hr
  have hlen : r.length = pre.length + 1 + e := hr.1.trans hm.symm
  have h2 : tN pre 0 * 16 ^ (e + 1) ≤ tN r 0 := by
    refine Nat.le_trans ?_ h1
    rw [Nat.pow_succ, show tN pre 0 * (16 ^ e * 16) = (tN pre 0 * 16) * 16 ^ e by rw [Nat.mul_comm (16 ^ e) 16, Nat.mul_assoc]]
    exact Nat.mul_le_mul_right _ (by omega)
  have e1 := tN_sp (k := pre.length) (by omega) h16 h2 h9
  have es : tN r 0 = tN (r.drop (pre.length + 1)) (tN (r.take (pre.length + 1)) 0) := by
    rw [← tN_a2, List.take_append_drop]
  have hd : (r.drop (pre.length + 1)).length = e := by rw [List.length_drop]; omega
  have b2 := tN_hi (r.drop (pre.length + 1)) (tN (r.take (pre.length + 1)) 0) (fun s hs => h16 s (List.mem_of_mem_drop hs))
  rw [hd, ← es, t_tk (by omega), tN_app, e1] at b2
  have c1 := Nat.lt_of_mul_lt_mul_right (Nat.lt_of_le_of_lt h1 b2)
  have hs : r.getD pre.length 0 ∈ r := t_gd.mpr ⟨pre.length, by omega, rfl⟩
  have := (tV_p hr.2.1 _ hs).1
  omega
theorem tLw_fu {pre : List Nat} (hN : N ≤ 8) (hp : tV N A B [] pre) (hm : pre.length = m) (hx : ¬ T (fun s => decide (s ∈ pre))) (h : tLw (tOk N A B T m) (tN pre 0) 0) : tLw (tOk N A B T m) (tN pre 0 + 1) 0 := fun r hr => by
  have h1 := h r hr
  rw [Nat.pow_zero, Nat.mul_one] at h1 ⊢
  refine Nat.lt_of_le_of_ne h1 (fun h9 => hx ?_)
  have e := (tN_inj (hm.trans hr.1.symm) (fun s hs => by have := (tV_p hp s hs).1; omega) (tO_16 (by omega) hr) h9).2
  rw [e]
  exact hr.2.2
theorem tLw_dn {O : List Nat → Prop} {pre : List Nat} {c e : Nat} (h : tLw O (tN pre 0 * 16 + c) (e + 1)) : tLw O (tN (pre ++ [c]) 0 * 16 + 0) e := fun r hr => by
  have h1 := h r hr
  rw [tN_app, Nat.add_zero]
  rw [Nat.pow_succ, show (tN pre 0 * 16 + c) * (16 ^ e * 16) = ((tN pre 0 * 16 + c) * 16) * 16 ^ e by rw [Nat.mul_comm (16 ^ e) 16, Nat.mul_assoc]] at h1
  exact h1
theorem tLw_d0 {O : List Nat → Prop} {pre : List Nat} {c : Nat} (h : tLw O (tN pre 0 * 16 + c) 0) : tLw O (tN (pre ++ [c]) 0) 0 := by
  rw [tN_app]
  exact h
theorem tLw_up {O : List Nat → Prop} {pre : List Nat} {c e : Nat} (h : tLw O (tN (pre ++ [c]) 0 + 1) e) : tLw O (tN pre 0 * 16 + (c + 1)) e := by
  rw [tN_app] at h
  exact h
theorem tLw_en {r : List Nat} (hN : N ≤ 8) (h : tLw (tOk N A B T m) (tN [] 0 + 1) m) : ¬ tOk N A B T m r := fun hr => by
  have h1 := h r hr
  have h2 := tN_hi r 0 (tO_16 (by omega) hr)
  rw [hr.1] at h2
  have h1 : (0 + 1) * 16 ^ m ≤ tN r 0 := h1
  omega
theorem tLw_0 {O : List Nat → Prop} {e : Nat} : tLw O 0 e := fun r _ => by
  rw [Nat.zero_mul]
  exact Nat.zero_le _
/-- a row is below the end -/
theorem tN_bd {pre : List Nat} {c e : Nat} (hN : N ≤ 8) (hp : tV N A B [] pre) (hm : pre.length + 1 + e = m) (hc : c ≤ 9) : (tN pre 0 * 16 + c) * 16 ^ e < 16 ^ m := by
  have h1 := tN_hi pre 0 (fun s hs => by have := (tV_p hp s hs).1; omega)
  have h3 : tN pre 0 + 1 ≤ 16 ^ pre.length := by omega
  have h4 : (tN pre 0 * 16 + c + 1) * 16 ^ e ≤ (16 ^ pre.length * 16) * 16 ^ e := Nat.mul_le_mul_right _ (by omega)
  have h5 : (16 ^ pre.length * 16) * 16 ^ e = 16 ^ m := by rw [← Nat.pow_succ, ← Nat.pow_add, show pre.length.succ + e = m by omega]
  have h6 : 0 < 16 ^ e := Nat.pow_pos (by decide)
  rw [Nat.add_mul (tN pre 0 * 16 + c) 1, Nat.one_mul, h5] at h4
  omega
end
end
section
/-! ===== the reference: can it be read next ===== -/

theorem yr_rdL {L : Nat} {σ : Nat → Int32} {d : Nat} {P : zp_X → Prop} {H : zp_H} {pre : List Nat} {s N : Nat} {x1 : Int32} (W : zw_W H) (hk : x1.toInt = (pre.length : Int)) (hk8 : pre.length < 8) (hr : ∀ j, j < pre.length → H.2.1 98 j = Int32.ofNat (pre.getD j 0)) (hs : H.2.1 98 pre.length = Int32.ofNat s) (hp8 : ∀ t, t ∈ pre → t < N) (hs8 : s < N) (hN8 : N ≤ 8) : ∀ (n : Nat) (lv : zp_LV) (i : Int32), 0 ≤ i.toInt → i.toInt + (n : Int) = (pre.length : Int) → (∀ j : Nat, (j : Int) < i.toInt → ¬ pre.getD j 0 = s) → zp_get lv 0 = some (.inr (.inr (some 73))) → zp_get lv 1 = some (.inl x1) → zp_get lv 2 = some (.inl i) → (¬ s ∈ pre → ∀ lv, zp_get lv 0 = some (.inr (.inr (some 73))) → zp_get lv 1 = some (.inl x1) → zs_Safe L σ P zm_239 [] d (30, lv, [], H, (0, 0))) → (s ∈ pre → P (.inl (some (.inl (Int32.ofInt 0))), H)) → zs_Safe L σ P zm_239 [] d (2, lv, [], H, (0, 0)) := by
  intro n
  induction n with
  | zero =>
    intro lv i h5 hN hV l0 l1 l2 h30 h0
    refine zw_ld (n := 1) (k := 2) (f := zp_isI) (pc' := 3) rfl rfl l2 rfl rfl ?_
    refine zw_ld (n := 1) (k := 1) (f := zp_isI) (pc' := 4) rfl rfl l1 rfl rfl ?_
    refine zw_bge2 (g := 30) (pc' := 7) rfl rfl rfl rfl rfl (fun h1 => ?_) (fun h1 => ?_)
    · exact h30 (fun h9 => by
        obtain ⟨j, j1, j2⟩ := t_gd.mp h9
        exact hV j (by omega) j2) _ l0 l1
    · have hN : i.toInt + ((0 : Nat) : Int) = (pre.length : Int) := hN
      omega
  | succ n ih =>
    intro lv i h5 hN hV l0 l1 l2 h30 h0
    refine zw_ld (n := 1) (k := 2) (f := zp_isI) (pc' := 3) rfl rfl l2 rfl rfl ?_
    refine zw_ld (n := 1) (k := 1) (f := zp_isI) (pc' := 4) rfl rfl l1 rfl rfl ?_
    refine zw_bge2 (g := 30) (pc' := 7) rfl rfl rfl rfl rfl (fun h1 => ?_) (fun h1 => ?_)
    · omega
    · have ei : (i + Int32.ofInt 1).toInt = i.toInt + 1 := zw_p1 (by omega)
      have kn : x1.toInt.toNat = pre.length := by omega
      have m1 : pre.getD i.toInt.toNat 0 ∈ pre := t_gd.mpr ⟨_, by omega, rfl⟩
      have m2 := hp8 _ m1
      have r1 := hr i.toInt.toNat (by omega)
      have t1 := tm_to (a := pre.getD i.toInt.toNat 0) (by omega)
      have t2 := tm_to (a := s) (by omega)
      refine zw_ld (n := 1) (k := 0) (f := zp_isR) (pc' := 8) rfl rfl l0 rfl rfl ?_
      refine zw_gR (q := 72) (pc' := 11) W rfl rfl rfl rfl (W.2 72 76 _ rfl) rfl ?_
      refine zw_ld (n := 1) (k := 2) (f := zp_isI) (pc' := 12) rfl rfl l2 rfl rfl ?_
      refine zw_ia (q := 98) (pc' := 13) W rfl rfl (by decide) (⟨h5, by show _ < ((8 : Nat) : Int); omega⟩) rfl rfl ?_
      refine zw_ld (n := 1) (k := 0) (f := zp_isR) (pc' := 14) rfl rfl l0 rfl rfl ?_
      refine zw_gR (q := 72) (pc' := 17) W rfl rfl rfl rfl (W.2 72 76 _ rfl) rfl ?_
      refine zw_ld (n := 1) (k := 1) (f := zp_isI) (pc' := 18) rfl rfl l1 rfl rfl ?_
      refine zw_ia (q := 98) (pc' := 19) W rfl rfl (by decide) (⟨by omega, by show _ < ((8 : Nat) : Int); omega⟩) rfl rfl ?_
      rw [kn, hs, r1]
      refine zw_bne2 (g := 24) (pc' := 22) rfl rfl rfl rfl rfl (fun h2 => ?_) (fun h2 => ?_)
      · have h2 : ¬ (Int32.ofNat (pre.getD i.toInt.toNat 0)).toInt = (Int32.ofNat s).toInt := h2
        refine zw_ii (pc' := 27) rfl l2 rfl rfl ?_
        refine zw_s (pc' := 2) rfl rfl ?_
        refine ih _ (i + Int32.ofInt 1) (by omega) (by omega) (fun j hj hj2 => ?_) (zw_gt l0 rfl rfl) (zw_gt l1 rfl rfl) zw_g1 h30 h0
        by_cases h9 : j = i.toInt.toNat
        · rw [h9] at hj2
          rw [hj2] at h2
          exact h2 rfl
        · exact hV j (by omega) hj2
      · have h2 : (Int32.ofNat (pre.getD i.toInt.toNat 0)).toInt = (Int32.ofNat s).toInt := h2
        refine zw_s (pc' := 23) rfl rfl ?_
        refine zw_rz rfl rfl (by decide) ?_
        refine h0 ?_
        have e : pre.getD i.toInt.toNat 0 = s := by omega
        rw [← e]
        exact m1

theorem xTv_z {b : Bool} : xTv b = 0 ∨ xTv b = 1 := by
  cases b with
  | true => exact Or.inr rfl
  | false => exact Or.inl rfl
theorem xNv {b : Bool} : (b = true ∧ (if b = true then Int32.ofInt 1 else Int32.ofInt 0) = Int32.ofInt 1) ∨ (b = false ∧ (if b = true then Int32.ofInt 1 else Int32.ofInt 0) = Int32.ofInt 0) := by
  cases b with
  | true => exact Or.inl ⟨rfl, rfl⟩
  | false => exact Or.inr ⟨rfl, rfl⟩
theorem yr_rdE {L : Nat} {σ : Nat → Int32} {d : Nat} {P : zp_X → Prop} {H : zp_H} {pre : List Nat} {s N : Nat} {x1 : Int32} (W : zw_W H) (hk : x1.toInt = (pre.length : Int)) (hk8 : pre.length < 8) (hr : ∀ j, j < pre.length → H.2.1 98 j = Int32.ofNat (pre.getD j 0)) (hs : H.2.1 98 pre.length = Int32.ofNat s) (hp8 : ∀ t, t ∈ pre → t < N) (hs8 : s < N) (hN8 : N ≤ 8) (hw : 2 ≤ (H.2.1 72 1).toInt) (hcl : ∀ t, t < N → 0 ≤ (H.2.1 74 (4 * t)).toInt ∧ (H.2.1 74 (4 * t)).toInt ≤ 63) (hen : ∀ t, t < N → 0 ≤ (H.2.1 99 t).toInt ∧ (H.2.1 99 t).toInt ≤ 63) : ∀ (n : Nat) (lv : zp_LV) (i : Int32) (b : Bool), 0 ≤ i.toInt → i.toInt + (n : Int) = (pre.length : Int) → (b = true ↔ ((xNb (H.2.1 72 1).toInt (H.2.1 74 (4 * s)).toInt (H.2.1 72 9).toInt (H.2.1 72 10).toInt) = true ∨ ∃ j : Nat, (j : Int) < i.toInt ∧ (xNb (H.2.1 72 1).toInt (H.2.1 74 (4 * s)).toInt (H.2.1 99 (pre.getD j 0)).toInt (H.2.1 72 10).toInt) = true)) → zp_get lv 0 = some (.inr (.inr (some 73))) → zp_get lv 1 = some (.inl x1) → zp_get lv 2 = some (.inl (xTv b)) → zp_get lv 3 = some (.inl i) → (∀ b : Bool, (b = true ↔ ((xNb (H.2.1 72 1).toInt (H.2.1 74 (4 * s)).toInt (H.2.1 72 9).toInt (H.2.1 72 10).toInt) = true ∨ ∃ j : Nat, j < pre.length ∧ (xNb (H.2.1 72 1).toInt (H.2.1 74 (4 * s)).toInt (H.2.1 99 (pre.getD j 0)).toInt (H.2.1 72 10).toInt) = true)) → P (.inl (some (.inl (xTv b))), H)) → zs_Safe L σ P zm_239 [] (d + 2) (58, lv, [], H, (0, 0)) := by
  intro n
  induction n with
  | zero =>
    intro lv i b h5 hN hb l0 l1 l2 l3 hP
    refine zw_ld (n := 1) (k := 3) (f := zp_isI) (pc' := 59) rfl rfl l3 rfl rfl ?_
    refine zw_ld (n := 1) (k := 1) (f := zp_isI) (pc' := 60) rfl rfl l1 rfl rfl ?_
    refine zw_bge2 (g := 114) (pc' := 63) rfl rfl rfl rfl rfl (fun h1 => ?_) (fun h1 => ?_)
    · refine zw_ld (n := 1) (k := 2) (f := zp_isI) (pc' := 115) rfl rfl l2 rfl rfl ?_
      refine zw_rz rfl rfl (xTv_z) ?_
      refine hP b ?_
      rw [hb]
      exact ⟨fun h9 => h9.elim Or.inl (fun ⟨j, j1, j2⟩ => Or.inr ⟨j, by omega, j2⟩), fun h9 => h9.elim Or.inl (fun ⟨j, j1, j2⟩ => Or.inr ⟨j, by omega, j2⟩)⟩
    · have hN : i.toInt + ((0 : Nat) : Int) = (pre.length : Int) := hN
      omega
  | succ n ih =>
    intro lv i b h5 hN hb l0 l1 l2 l3 hP
    refine zw_ld (n := 1) (k := 3) (f := zp_isI) (pc' := 59) rfl rfl l3 rfl rfl ?_
    refine zw_ld (n := 1) (k := 1) (f := zp_isI) (pc' := 60) rfl rfl l1 rfl rfl ?_
    refine zw_bge2 (g := 114) (pc' := 63) rfl rfl rfl rfl rfl (fun h1 => ?_) (fun h1 => ?_)
    · omega
    · have ei : (i + Int32.ofInt 1).toInt = i.toInt + 1 := zw_p1 (by omega)
      have kn : x1.toInt.toNat = pre.length := by omega
      have m1 : pre.getD i.toInt.toNat 0 ∈ pre := t_gd.mpr ⟨_, by omega, rfl⟩
      have m2 := hp8 _ m1
      have r1 := hr i.toInt.toNat (by omega)
      have t1 := tm_to (a := pre.getD i.toInt.toNat 0) (by omega)
      have t2 := tm_to (a := s) (by omega)
      have nt : (Int32.ofNat (pre.getD i.toInt.toNat 0)).toInt.toNat = pre.getD i.toInt.toNat 0 := by omega
      have e4 : (Int32.ofInt 4 * Int32.ofNat s).toInt = 4 * (s : Int) := by rw [zt_mul (by decide) (by omega), t2]
      have n4 : (Int32.ofInt 4 * Int32.ofNat s).toInt.toNat = 4 * s := by omega
      refine zw_ld (n := 1) (k := 2) (f := zp_isI) (pc' := 64) rfl rfl l2 rfl rfl ?_
      refine zw_bne1 (g := 102) (pc' := 67) rfl rfl rfl rfl (fun h2 => ?_) (fun h2 => ?_)
      · have hbt : b = true := by
          cases b with
          | true => rfl
          | false => exact absurd (show (xTv false).toInt = 0 by decide) h2
        have hb2 := hb.mp hbt
        refine zw_s (pc' := 103) rfl rfl ?_
        refine zw_s (pc' := 107) rfl rfl ?_
        refine zw_st (n := 1) (k := 2) (f := zp_isI) (pc' := 108) rfl rfl rfl rfl rfl ?_
        refine zw_ii (pc' := 111) rfl (zw_gt l3 rfl rfl) rfl rfl ?_
        refine zw_s (pc' := 58) rfl rfl ?_
        exact ih _ (i + Int32.ofInt 1) true (by omega) (by omega) (⟨fun _ => hb2.elim Or.inl (fun ⟨j, j1, j2⟩ => Or.inr ⟨j, by omega, j2⟩), fun _ => rfl⟩) (zw_gt (zw_gt l0 rfl rfl) rfl rfl) (zw_gt (zw_gt l1 rfl rfl) rfl rfl) (zw_gt zw_g1 rfl rfl) zw_g1 hP
      · have hbf : b = false := by
          cases b with
          | true => exact absurd h2 (by decide)
          | false => rfl
        subst hbf
        refine zw_ld (n := 1) (k := 0) (f := zp_isR) (pc' := 68) rfl rfl l0 rfl rfl ?_
        refine zw_ld (n := 1) (k := 0) (f := zp_isR) (pc' := 69) rfl rfl l0 rfl rfl ?_
        refine zw_gR (q := 72) (pc' := 72) W rfl rfl rfl rfl (W.2 72 14 _ rfl) rfl ?_
        refine zw_s (pc' := 73) rfl rfl ?_
        refine zw_ld (n := 1) (k := 0) (f := zp_isR) (pc' := 74) rfl rfl l0 rfl rfl ?_
        refine zw_gR (q := 72) (pc' := 77) W rfl rfl rfl rfl (W.2 72 76 _ rfl) rfl ?_
        refine zw_ld (n := 1) (k := 1) (f := zp_isI) (pc' := 78) rfl rfl l1 rfl rfl ?_
        refine zw_ia (q := 98) (pc' := 79) W rfl rfl (by decide) (⟨by omega, by show _ < ((8 : Nat) : Int); omega⟩) rfl rfl ?_
        rw [kn, hs]
        refine zw_imul (pc' := 80) rfl rfl ?_
        refine zw_ia (q := 74) (pc' := 81) W rfl rfl (by decide) (⟨by omega, by show _ < ((32 : Nat) : Int); omega⟩) rfl rfl ?_
        rw [n4]
        refine zw_ld (n := 1) (k := 0) (f := zp_isR) (pc' := 82) rfl rfl l0 rfl rfl ?_
        refine zw_gR (q := 72) (pc' := 85) W rfl rfl rfl rfl (W.2 72 77 _ rfl) rfl ?_
        refine zw_ld (n := 1) (k := 0) (f := zp_isR) (pc' := 86) rfl rfl l0 rfl rfl ?_
        refine zw_gR (q := 72) (pc' := 89) W rfl rfl rfl rfl (W.2 72 76 _ rfl) rfl ?_
        refine zw_ld (n := 1) (k := 3) (f := zp_isI) (pc' := 90) rfl rfl l3 rfl rfl ?_
        refine zw_ia (q := 98) (pc' := 91) W rfl rfl (by decide) (⟨h5, by show _ < ((8 : Nat) : Int); omega⟩) rfl rfl ?_
        rw [r1]
        refine zw_ia (q := 99) (pc' := 92) W rfl rfl (by decide) (⟨by omega, by show _ < ((8 : Nat) : Int); omega⟩) rfl rfl ?_
        rw [nt]
        refine zw_ld (n := 1) (k := 0) (f := zp_isR) (pc' := 93) rfl rfl l0 rfl rfl ?_
        refine zw_gI (q := 72) (pc' := 96) W rfl rfl rfl rfl rfl rfl ?_
        refine zw_c (pc' := 99) (zw_cv (q := 72) (Y := zm_240) W.1 rfl rfl zm_240_t rfl rfl) rfl rfl rfl rfl rfl ((yr_near (L := L) (σ := σ) (d := d) (x := H.2.1 74 (4 * s)) (y := (H.2.1 99 (pre.getD i.toInt.toNat 0))) (r := H.2.1 72 10) W hw (hcl s hs8) (hen _ m2))) ?_
        rcases xNv (b := (xNb (H.2.1 72 1).toInt (H.2.1 74 (4 * s)).toInt (H.2.1 99 (pre.getD i.toInt.toNat 0)).toInt (H.2.1 72 10).toInt)) with ⟨hx, hx1⟩ | ⟨hx, hx1⟩ <;> rw [hx1]
        · refine zw_beq1 (g := 106) (pc' := 102) rfl rfl rfl (rfl : _ = (1 : Int)) (fun h9 => absurd h9 (by decide)) (fun h3 => ?_)
          refine zw_s (pc' := 103) rfl rfl ?_
          refine zw_s (pc' := 107) rfl rfl ?_
          refine zw_st (n := 1) (k := 2) (f := zp_isI) (pc' := 108) rfl rfl rfl rfl rfl ?_
          refine zw_ii (pc' := 111) rfl (zw_gt l3 rfl rfl) rfl rfl ?_
          refine zw_s (pc' := 58) rfl rfl ?_
          exact ih _ (i + Int32.ofInt 1) true (by omega) (by omega) (⟨fun _ => Or.inr ⟨i.toInt.toNat, by omega, hx⟩, fun _ => rfl⟩) (zw_gt (zw_gt l0 rfl rfl) rfl rfl) (zw_gt (zw_gt l1 rfl rfl) rfl rfl) (zw_gt zw_g1 rfl rfl) zw_g1 hP
        · refine zw_beq1 (g := 106) (pc' := 102) rfl rfl rfl (rfl : _ = (0 : Int)) (fun h3 => ?_) (fun h9 => absurd h9 (by decide))
          refine zw_s (pc' := 107) rfl rfl ?_
          refine zw_st (n := 1) (k := 2) (f := zp_isI) (pc' := 108) rfl rfl rfl rfl rfl ?_
          refine zw_ii (pc' := 111) rfl (zw_gt l3 rfl rfl) rfl rfl ?_
          refine zw_s (pc' := 58) rfl rfl ?_
          exact ih _ (i + Int32.ofInt 1) false (by omega) (by omega) (⟨fun h9 => absurd h9 (by decide), fun h9 => by
              rcases h9 with h9 | ⟨j, j1, j2⟩
              · exact hb.mpr (Or.inl h9)
              · by_cases hj : j = i.toInt.toNat
                · rw [hj, hx] at j2
                  cases j2
                · exact hb.mpr (Or.inr ⟨j, by omega, j2⟩)⟩) (zw_gt (zw_gt l0 rfl rfl) rfl rfl) (zw_gt (zw_gt l1 rfl rfl) rfl rfl) (zw_gt zw_g1 rfl rfl) zw_g1 hP

theorem yr_rd {L : Nat} {σ : Nat → Int32} {d : Nat} {H : zp_H} {pre : List Nat} {s N : Nat} {x1 : Int32} (W : zw_W H) (hk : x1.toInt = (pre.length : Int)) (hk8 : pre.length < 8) (hr : ∀ j, j < pre.length → H.2.1 98 j = Int32.ofNat (pre.getD j 0)) (hs : H.2.1 98 pre.length = Int32.ofNat s) (hp8 : ∀ t, t ∈ pre → t < N) (hs8 : s < N) (hN8 : N ≤ 8) (hw : 2 ≤ (H.2.1 72 1).toInt) (hcl : ∀ t, t < N → 0 ≤ (H.2.1 74 (4 * t)).toInt ∧ (H.2.1 74 (4 * t)).toInt ≤ 63) (hen : ∀ t, t < N → 0 ≤ (H.2.1 99 t).toInt ∧ (H.2.1 99 t).toInt ≤ 63) (hsc : 0 ≤ (H.2.1 72 9).toInt ∧ (H.2.1 72 9).toInt ≤ 63) : ∃ X, zp_Call L σ (d + 3) 239 [.inr (.inr (some 73)), .inl x1] H X ∧ ∃ v, X = (.inl (some (.inl v)), H) ∧ ((v = Int32.ofInt 1 ∧ ¬ s ∈ pre ∧ tR (fun t => (xNb (H.2.1 72 1).toInt (H.2.1 74 (4 * t)).toInt (H.2.1 72 9).toInt (H.2.1 72 10).toInt)) (fun u t => (xNb (H.2.1 72 1).toInt (H.2.1 74 (4 * t)).toInt (H.2.1 99 u).toInt (H.2.1 72 10).toInt)) pre s) ∨ (v = Int32.ofInt 0 ∧ ¬ (¬ s ∈ pre ∧ tR (fun t => (xNb (H.2.1 72 1).toInt (H.2.1 74 (4 * t)).toInt (H.2.1 72 9).toInt (H.2.1 72 10).toInt)) (fun u t => (xNb (H.2.1 72 1).toInt (H.2.1 74 (4 * t)).toInt (H.2.1 99 u).toInt (H.2.1 72 10).toInt)) pre s))) := by
  refine zw_met zm_239_t rfl rfl ?_
  refine zw_s (pc' := 1) rfl rfl ?_
  refine zw_st (n := 1) (k := 2) (f := zp_isI) (pc' := 2) rfl rfl rfl rfl rfl ?_
  have kn : x1.toInt.toNat = pre.length := by omega
  have t2 := tm_to (a := s) (by omega)
  have e4 : (Int32.ofInt 4 * Int32.ofNat s).toInt = 4 * (s : Int) := by rw [zt_mul (by decide) (by omega), t2]
  have n4 : (Int32.ofInt 4 * Int32.ofNat s).toInt.toNat = 4 * s := by omega
  refine yr_rdL W hk hk8 hr hs hp8 hs8 hN8 pre.length _ (Int32.ofInt 0) (by decide) (by rw [show (Int32.ofInt 0).toInt = 0 by decide]; omega) (fun j hj => absurd hj (by rw [show (Int32.ofInt 0).toInt = 0 by decide]; omega)) (zw_gt rfl rfl rfl) (zw_gt rfl rfl rfl) zw_g1 (fun hni lv l0 l1 => ?_) (fun hi => ⟨_, rfl, Or.inr ⟨rfl, fun h9 => h9.1 hi⟩⟩)
  refine zw_ld (n := 1) (k := 0) (f := zp_isR) (pc' := 31) rfl rfl l0 rfl rfl ?_
  refine zw_ld (n := 1) (k := 0) (f := zp_isR) (pc' := 32) rfl rfl l0 rfl rfl ?_
  refine zw_gR (q := 72) (pc' := 35) W rfl rfl rfl rfl (W.2 72 14 _ rfl) rfl ?_
  refine zw_s (pc' := 36) rfl rfl ?_
  refine zw_ld (n := 1) (k := 0) (f := zp_isR) (pc' := 37) rfl rfl l0 rfl rfl ?_
  refine zw_gR (q := 72) (pc' := 40) W rfl rfl rfl rfl (W.2 72 76 _ rfl) rfl ?_
  refine zw_ld (n := 1) (k := 1) (f := zp_isI) (pc' := 41) rfl rfl l1 rfl rfl ?_
  refine zw_ia (q := 98) (pc' := 42) W rfl rfl (by decide) (⟨by omega, by show _ < ((8 : Nat) : Int); omega⟩) rfl rfl ?_
  rw [kn, hs]
  refine zw_imul (pc' := 43) rfl rfl ?_
  refine zw_ia (q := 74) (pc' := 44) W rfl rfl (by decide) (⟨by omega, by show _ < ((32 : Nat) : Int); omega⟩) rfl rfl ?_
  rw [n4]
  refine zw_ld (n := 1) (k := 0) (f := zp_isR) (pc' := 45) rfl rfl l0 rfl rfl ?_
  refine zw_gI (q := 72) (pc' := 48) W rfl rfl rfl rfl rfl rfl ?_
  refine zw_ld (n := 1) (k := 0) (f := zp_isR) (pc' := 49) rfl rfl l0 rfl rfl ?_
  refine zw_gI (q := 72) (pc' := 52) W rfl rfl rfl rfl rfl rfl ?_
  refine zw_c (pc' := 55) (zw_cv (q := 72) (Y := zm_240) W.1 rfl rfl zm_240_t rfl rfl) rfl rfl rfl rfl rfl ((yr_near (L := L) (σ := σ) (d := d) (x := H.2.1 74 (4 * s)) (y := H.2.1 72 9) (r := H.2.1 72 10) W hw (hcl s hs8) hsc)) ?_
  rw [show (if (xNb (H.2.1 72 1).toInt (H.2.1 74 (4 * s)).toInt (H.2.1 72 9).toInt (H.2.1 72 10).toInt) = true then Int32.ofInt 1 else Int32.ofInt 0) = xTv (xNb (H.2.1 72 1).toInt (H.2.1 74 (4 * s)).toInt (H.2.1 72 9).toInt (H.2.1 72 10).toInt) from rfl]
  refine zw_st (n := 1) (k := 2) (f := zp_isI) (pc' := 56) rfl rfl rfl rfl rfl ?_
  refine zw_s (pc' := 57) rfl rfl ?_
  refine zw_st (n := 1) (k := 3) (f := zp_isI) (pc' := 58) rfl rfl rfl rfl rfl ?_
  refine yr_rdE W hk hk8 hr hs hp8 hs8 hN8 hw hcl hen pre.length _ (Int32.ofInt 0) _ (by decide) (by rw [show (Int32.ofInt 0).toInt = 0 by decide]; omega) ⟨Or.inl, fun h9 => h9.elim id (fun ⟨j, j1, _⟩ => absurd j1 (by rw [show (Int32.ofInt 0).toInt = 0 by decide]; omega))⟩ (zw_gt (zw_gt l0 rfl rfl) rfl rfl) (zw_gt (zw_gt l1 rfl rfl) rfl rfl) (zw_gt zw_g1 rfl rfl) zw_g1 (fun b hb => ?_)
  have hR : b = true ↔ tR (fun t => (xNb (H.2.1 72 1).toInt (H.2.1 74 (4 * t)).toInt (H.2.1 72 9).toInt (H.2.1 72 10).toInt)) (fun u t => (xNb (H.2.1 72 1).toInt (H.2.1 74 (4 * t)).toInt (H.2.1 99 u).toInt (H.2.1 72 10).toInt)) pre s := by
    refine hb.trans ⟨fun h9 => h9.elim Or.inl (fun ⟨j, j1, j2⟩ => Or.inr ⟨pre.getD j 0, t_gd.mpr ⟨j, j1, rfl⟩, j2⟩), fun h9 => h9.elim Or.inl (fun ⟨u, u1, u2⟩ => ?_)⟩
    obtain ⟨j, j1, j2⟩ := t_gd.mp u1
    exact Or.inr ⟨j, j1, by rw [j2]; exact u2⟩
  cases b with
  | true => exact ⟨_, rfl, Or.inl ⟨rfl, hni, hR.mp rfl⟩⟩
  | false => exact ⟨_, rfl, Or.inr ⟨rfl, fun h9 => by have := hR.mpr h9.2; cases this⟩⟩
end
