/-! ===== cells that a text tells lie within its sea ===== -/
def yCl (d : yLD) : Prop := ((2 ≤ d.1 1 ∧ d.1 1 ≤ 8) ∧ 2 ≤ d.1 2 ∧ d.1 2 ≤ 8) ∧ (∀ s : Nat, (s : Int) < d.1 4 → 0 ≤ d.1 (200 + s) ∧ d.1 (200 + s) < d.1 1 * d.1 2) ∧ ∀ q : Nat, (q : Int) < d.1 6 → 0 ≤ d.1 (600 + q) ∧ d.1 (600 + q) < d.1 1 * d.1 2
theorem yCl_e {d d' : yLD} (h1 : d'.1 1 = d.1 1) (h2 : d'.1 2 = d.1 2) (h4 : d'.1 4 = d.1 4) (h6 : d'.1 6 = d.1 6) (hs : ∀ s : Nat, (s : Int) < d.1 4 → d'.1 (200 + s) = d.1 (200 + s)) (hq : ∀ q : Nat, (q : Int) < d.1 6 → d'.1 (600 + q) = d.1 (600 + q)) (h : yCl d) : yCl d' := by
  obtain ⟨k1, k3, k4⟩ := h
  refine ⟨by rw [h1, h2]; exact k1, fun s hs' => ?_, fun q hq' => ?_⟩
  · rw [h4] at hs'
    rw [hs s hs', h1, h2]; exact k3 s hs'
  · rw [h6] at hq'
    rw [hq q hq', h1, h2]; exact k4 q hq'
theorem ycell {w h v x : Int} (hw : 2 ≤ w) (h1 : 0 ≤ v) (h2 : v ≤ h - 1) (h3 : 0 ≤ x) (h4 : x < w) : 0 ≤ w * v + x ∧ w * v + x < w * h := by
  have a : w * v ≤ w * (h - 1) := Int.mul_le_mul_of_nonneg_left h2 (by omega)
  rw [Int.mul_sub, Int.mul_one] at a
  have b : 0 ≤ w * v := Int.mul_nonneg (by omega) h1
  omega
def yIw (s : yL) : Prop := yCl s.2.2.2.2.2.1 ∧ (s.1 = 50 ∨ (s.2.2.2.2.2.1.1 0 ≠ 0 → s.2.2.2.2.2.1.1 4 = 0 ∧ s.2.2.2.2.2.1.1 6 = 0)) ∧ (s.1 = 1 ∨ s.1 = 2 → s.2.2.2.2.2.1.1 4 = 0 ∧ s.2.2.2.2.2.1.1 6 = 0) ∧ (s.1 = 2 → 2 ≤ s.2.2.1 ∧ s.2.2.1 ≤ 8) ∧ (s.1 = 9 ∨ s.1 = 20 → 0 ≤ s.2.2.1 ∧ s.2.2.1 < s.2.2.2.2.2.1.1 1) ∧ (s.1 = 10 ∨ s.1 = 21 ∨ s.1 = 22 → 0 ≤ s.2.2.1 ∧ s.2.2.1 < s.2.2.2.2.2.1.1 1 * s.2.2.2.2.2.1.1 2) ∧ (s.1 = 11 ∨ s.1 = 12 → 0 ≤ s.2.2.2.2.2.1.1 (200 + (s.2.2.2.2.2.1.1 4).toNat) ∧ s.2.2.2.2.2.1.1 (200 + (s.2.2.2.2.2.1.1 4).toNat) < s.2.2.2.2.2.1.1 1 * s.2.2.2.2.2.1.1 2)
theorem yIw_0 {m : Nat} {lv : List Bool} {x a : Int} {y : Int32} {d : yLD} {p : Nat} (h : yCl d) (hc : m = 50 ∨ (d.1 0 ≠ 0 → d.1 4 = 0 ∧ d.1 6 = 0)) (hm : m ≠ 1 ∧ m ≠ 2 ∧ m ≠ 9 ∧ m ≠ 20 ∧ m ≠ 10 ∧ m ≠ 21 ∧ m ≠ 22 ∧ m ≠ 11 ∧ m ≠ 12) : yIw (m, lv, x, a, y, d, p) := ⟨h, hc, fun h9 => by dsimp only at h9; omega, fun h9 => by dsimp only at h9; omega, fun h9 => by dsimp only at h9; omega, fun h9 => by dsimp only at h9; omega, fun h9 => by dsimp only at h9; omega⟩
theorem yIw_2 {m : Nat} {lv : List Bool} {x a : Int} {y : Int32} {d : yLD} {p : Nat} (h : yCl d) (h4 : d.1 4 = 0 ∧ d.1 6 = 0) (hm : m = 1 ∨ (m = 2 ∧ 2 ≤ x ∧ x ≤ 8)) : yIw (m, lv, x, a, y, d, p) := ⟨h, Or.inr (fun _ => h4), fun _ => h4, fun h9 => by dsimp only at h9 ⊢; omega, fun h9 => by dsimp only at h9; omega, fun h9 => by dsimp only at h9; omega, fun h9 => by dsimp only at h9; omega⟩
theorem yIw_9 {m : Nat} {lv : List Bool} {x a : Int} {y : Int32} {d : yLD} {p : Nat} (h : yCl d) (hc : m = 50 ∨ (d.1 0 ≠ 0 → d.1 4 = 0 ∧ d.1 6 = 0)) (hx : 0 ≤ x ∧ x < d.1 1) (hm : m = 9 ∨ m = 20) : yIw (m, lv, x, a, y, d, p) := ⟨h, hc, fun h9 => by dsimp only at h9; omega, fun h9 => by dsimp only at h9; omega, fun _ => hx, fun h9 => by dsimp only at h9; omega, fun h9 => by dsimp only at h9; omega⟩
theorem yIw_10 {m : Nat} {lv : List Bool} {x a : Int} {y : Int32} {d : yLD} {p : Nat} (h : yCl d) (hc : m = 50 ∨ (d.1 0 ≠ 0 → d.1 4 = 0 ∧ d.1 6 = 0)) (hx : 0 ≤ x ∧ x < d.1 1 * d.1 2) (hm : m = 10 ∨ m = 21 ∨ m = 22) : yIw (m, lv, x, a, y, d, p) := ⟨h, hc, fun h9 => by dsimp only at h9; omega, fun h9 => by dsimp only at h9; omega, fun h9 => by dsimp only at h9; omega, fun _ => hx, fun h9 => by dsimp only at h9; omega⟩
theorem yIw_11 {m : Nat} {lv : List Bool} {x a : Int} {y : Int32} {d : yLD} {p : Nat} (h : yCl d) (hc : m = 50 ∨ (d.1 0 ≠ 0 → d.1 4 = 0 ∧ d.1 6 = 0)) (hx : 0 ≤ d.1 (200 + (d.1 4).toNat) ∧ d.1 (200 + (d.1 4).toNat) < d.1 1 * d.1 2) (hm : m = 11 ∨ m = 12) : yIw (m, lv, x, a, y, d, p) := ⟨h, hc, fun h9 => by dsimp only at h9; omega, fun h9 => by dsimp only at h9; omega, fun h9 => by dsimp only at h9; omega, fun h9 => by dsimp only at h9; omega, fun _ => hx⟩
theorem yCl_k {d : yLD} {k : Nat} {v : Int} {u : Int64} {f : Nat → Bool} (h : yCl d) (hk : k ≠ 0 ∧ k ≠ 1 ∧ k ≠ 2 ∧ k ≠ 4 ∧ k ≠ 6) (hk2 : k < 200) : yCl (yU d.1 k v, u, f) := yCl_e (yU_n (by omega)) (yU_n (by omega)) (yU_n (by omega)) (yU_n (by omega)) (fun s _ => yU_n (by omega)) (fun q _ => yU_n (by omega)) h
theorem yCl_W {d : yLD} {i : Nat} {v : Int} (h : yCl d) (h20 : 7 ≤ i) (hs : ∀ s : Nat, (s : Int) < d.1 4 → i ≠ 200 + s) (hq : ∀ q : Nat, (q : Int) < d.1 6 → i ≠ 600 + q) : yCl (yW d i v) := yCl_e (yW_n (by omega)) (yW_n (by omega)) (yW_n (by omega)) (yW_n (by omega)) (fun s h9 => yW_n (fun h8 => hs s h9 h8.symm)) (fun q h9 => yW_n (fun h8 => hq q h9 h8.symm)) h
theorem yIw_y0 {T : Nat → Int} {n p : Nat} {d : yLD} {s' : yL} (h : yCl d) (hc : d.1 0 ≠ 0 → d.1 4 = 0 ∧ d.1 6 = 0) (hN : y0 T n d p = .inl s') : yIw s' := by
  unfold y0 at hN
  by_cases h0 : ys_kd T n p = 0
  · rw [if_pos h0] at hN
    cases hN
  rw [if_neg h0] at hN
  by_cases h3 : ys_kd T n p ≠ 3
  · rw [if_pos h3] at hN
    cases hN
  rw [if_neg h3] at hN
  by_cases g12 : ys_vl T n p = 12
  · rw [if_pos g12] at hN
    by_cases k : d.1 0 ≠ 0
    · rw [if_pos k] at hN
      cases hN
      exact yIw_2 h (hc k) (Or.inl rfl)
    · rw [if_neg k] at hN
      cases hN
  rw [if_neg g12] at hN
  by_cases g13 : ys_vl T n p = 13
  · rw [if_pos g13] at hN
    by_cases k : d.1 3 < 20
    · rw [if_pos k] at hN
      cases hN
      exact yIw_0 h (Or.inr hc) (by decide)
    · rw [if_neg k] at hN
      cases hN
  rw [if_neg g13] at hN
  by_cases g14 : ys_vl T n p = 14
  · rw [if_pos g14] at hN
    cases hN
    exact yIw_0 h (Or.inr hc) (by decide)
  rw [if_neg g14] at hN
  by_cases g15 : ys_vl T n p = 15
  · rw [if_pos g15] at hN
    by_cases k : d.1 4 < 8
    · rw [if_pos k] at hN
      cases hN
      exact yIw_0 h (Or.inr hc) (by decide)
    · rw [if_neg k] at hN
      cases hN
  rw [if_neg g15] at hN
  by_cases g16 : ys_vl T n p = 16
  · rw [if_pos g16] at hN
    by_cases k : d.1 5 < 5
    · rw [if_pos k] at hN
      cases hN
      exact yIw_0 h (Or.inr hc) (by decide)
    · rw [if_neg k] at hN
      cases hN
  rw [if_neg g16] at hN
  by_cases g17 : ys_vl T n p = 17
  · rw [if_pos g17] at hN
    by_cases k : d.1 8 = 0
    · rw [if_pos k] at hN
      cases hN
      exact yIw_0 h (Or.inr hc) (by decide)
    · rw [if_neg k] at hN
      cases hN
  rw [if_neg g17] at hN
  by_cases g18 : ys_vl T n p = 18
  · rw [if_pos g18] at hN
    by_cases k : d.1 9 = 0
    · rw [if_pos k] at hN
      cases hN
      exact yIw_0 h (Or.inr hc) (by decide)
    · rw [if_neg k] at hN
      cases hN
  rw [if_neg g18] at hN
  by_cases g19 : ys_vl T n p = 19
  · rw [if_pos g19] at hN
    by_cases k : d.1 6 < 4
    · rw [if_pos k] at hN
      cases hN
      exact yIw_0 h (Or.inr hc) (by decide)
    · rw [if_neg k] at hN
      cases hN
  rw [if_neg g19] at hN
  by_cases g20 : ys_vl T n p = 20
  · rw [if_pos g20] at hN
    by_cases k : d.1 7 < 8
    · rw [if_pos k] at hN
      cases hN
      exact yIw_0 h (Or.inr hc) (by decide)
    · rw [if_neg k] at hN
      cases hN
  rw [if_neg g20] at hN
  cases hN
theorem yIw_m0 {T : Nat → Int} {n p : Nat} {lv : List Bool} {x a : Int} {y : Int32} {d : yLD} {s' : yL} (hv : yIv (0, lv, x, a, y, d, p)) (h : yIw (0, lv, x, a, y, d, p)) (hN : yN2 T n (0, lv, x, a, y, d, p) = .inl s') : yIw s' := by
  obtain ⟨h0, hc, h1, h2, h3, h4, h5⟩ := h
  dsimp only at h0 hc h1 h2 h3 h4 h5
  have hO : yOK d := hv.1
  obtain ⟨⟨o4, o4'⟩, ⟨o5, o5'⟩, ⟨o6, o6'⟩, o7, o7'⟩ := hO.1
  rw [yN2_0] at hN
  have hc := hc.resolve_left (by decide)
  exact yIw_y0 h0 hc hN
theorem yIw_m1 {T : Nat → Int} {n p : Nat} {lv : List Bool} {x a : Int} {y : Int32} {d : yLD} {s' : yL} (hv : yIv (1, lv, x, a, y, d, p)) (h : yIw (1, lv, x, a, y, d, p)) (hN : yN2 T n (1, lv, x, a, y, d, p) = .inl s') : yIw s' := by
  obtain ⟨h0, hc, h1, h2, h3, h4, h5⟩ := h
  dsimp only at h0 hc h1 h2 h3 h4 h5
  have hO : yOK d := hv.1
  obtain ⟨⟨o4, o4'⟩, ⟨o5, o5'⟩, ⟨o6, o6'⟩, o7, o7'⟩ := hO.1
  rw [yN2_1] at hN
  obtain ⟨rfl, b1, b2⟩ := yNu_i hN
  exact yIw_2 h0 (h1 (Or.inl rfl)) (Or.inr ⟨rfl, b1, b2⟩)
theorem yIw_m2 {T : Nat → Int} {n p : Nat} {lv : List Bool} {x a : Int} {y : Int32} {d : yLD} {s' : yL} (hv : yIv (2, lv, x, a, y, d, p)) (h : yIw (2, lv, x, a, y, d, p)) (hN : yN2 T n (2, lv, x, a, y, d, p) = .inl s') : yIw s' := by
  obtain ⟨h0, hc, h1, h2, h3, h4, h5⟩ := h
  dsimp only at h0 hc h1 h2 h3 h4 h5
  have hO : yOK d := hv.1
  obtain ⟨⟨o4, o4'⟩, ⟨o5, o5'⟩, ⟨o6, o6'⟩, o7, o7'⟩ := hO.1
  rw [yN2_2] at hN
  obtain ⟨rfl, b1, b2⟩ := yNu_i hN
  have k := h1 (Or.inr rfl)
  have kx := h2 rfl
  have e : ∀ i, i ≠ 1 → i ≠ 2 → yU (yU d.1 1 x) 2 (ys_vl T n p) i = d.1 i := fun i i1 i2 => (yU_n i2).trans (yU_n i1)
  refine yIw_0 ⟨⟨⟨?_, ?_⟩, ?_, ?_⟩, fun s hs => ?_, fun q hq => ?_⟩ (Or.inl rfl) (by decide)
  · show 2 ≤ yU (yU d.1 1 x) 2 (ys_vl T n p) 1
    rw [yU_n (by decide), yU_e]; exact kx.1
  · show yU (yU d.1 1 x) 2 (ys_vl T n p) 1 ≤ 8
    rw [yU_n (by decide), yU_e]; exact kx.2
  · show 2 ≤ yU (yU d.1 1 x) 2 (ys_vl T n p) 2
    rw [yU_e]; exact b1
  · show yU (yU d.1 1 x) 2 (ys_vl T n p) 2 ≤ 8
    rw [yU_e]; exact b2
  · have hs : (s : Int) < yU (yU d.1 1 x) 2 (ys_vl T n p) 4 := hs
    rw [e 4 (by decide) (by decide)] at hs
    omega
  · have hq : (q : Int) < yU (yU d.1 1 x) 2 (ys_vl T n p) 6 := hq
    rw [e 6 (by decide) (by decide)] at hq
    omega
theorem yIw_m3 {T : Nat → Int} {n p : Nat} {lv : List Bool} {x a : Int} {y : Int32} {d : yLD} {s' : yL} (hv : yIv (3, lv, x, a, y, d, p)) (h : yIw (3, lv, x, a, y, d, p)) (hN : yN2 T n (3, lv, x, a, y, d, p) = .inl s') : yIw s' := by
  obtain ⟨h0, hc, h1, h2, h3, h4, h5⟩ := h
  dsimp only at h0 hc h1 h2 h3 h4 h5
  have hO : yOK d := hv.1
  obtain ⟨⟨o4, o4'⟩, ⟨o5, o5'⟩, ⟨o6, o6'⟩, o7, o7'⟩ := hO.1
  rw [yN2_3] at hN
  have hc := hc.resolve_left (by decide)
  obtain ⟨rfl, b1, b2⟩ := yNu_i hN
  exact yIw_0 h0 (Or.inr hc) (by decide)
theorem yIw_m5 {T : Nat → Int} {n p : Nat} {lv : List Bool} {x a : Int} {y : Int32} {d : yLD} {s' : yL} (hv : yIv (5, lv, x, a, y, d, p)) (h : yIw (5, lv, x, a, y, d, p)) (hN : yN2 T n (5, lv, x, a, y, d, p) = .inl s') : yIw s' := by
  obtain ⟨h0, hc, h1, h2, h3, h4, h5⟩ := h
  dsimp only at h0 hc h1 h2 h3 h4 h5
  have hO : yOK d := hv.1
  obtain ⟨⟨o4, o4'⟩, ⟨o5, o5'⟩, ⟨o6, o6'⟩, o7, o7'⟩ := hO.1
  rw [yN2_5] at hN
  have hc := hc.resolve_left (by decide)
  obtain ⟨rfl, b1, b2⟩ := yNu_i hN
  exact yIw_0 h0 (Or.inr hc) (by decide)
theorem yIw_m4 {T : Nat → Int} {n p : Nat} {lv : List Bool} {x a : Int} {y : Int32} {d : yLD} {s' : yL} (hv : yIv (4, lv, x, a, y, d, p)) (h : yIw (4, lv, x, a, y, d, p)) (hN : yN2 T n (4, lv, x, a, y, d, p) = .inl s') : yIw s' := by
  obtain ⟨h0, hc, h1, h2, h3, h4, h5⟩ := h
  dsimp only at h0 hc h1 h2 h3 h4 h5
  have hO : yOK d := hv.1
  obtain ⟨⟨o4, o4'⟩, ⟨o5, o5'⟩, ⟨o6, o6'⟩, o7, o7'⟩ := hO.1
  rw [yN2_4] at hN
  cases g : yNu T n p 0 (d.1 2 - 1) (fun v => (50, [], d.1 1 * v + x, 0, 0, d, ys_nx T n p)) with
  | inr r => rw [g] at hN; cases hN
  | inl t =>
    rw [g] at hN
    have hN : (if d.2.1 &&& yBit t.2.2.1 = 0 then _ else _) = _ := hN
    by_cases g2 : d.2.1 &&& yBit t.2.2.1 = 0
    · rw [if_pos g2] at hN
      cases hN
      exact yIw_0 (yCl_k h0 (by decide) (by decide)) (Or.inl rfl) (by decide)
    · rw [if_neg g2] at hN
      cases hN
theorem yIw_m6 {T : Nat → Int} {n p : Nat} {lv : List Bool} {x a : Int} {y : Int32} {d : yLD} {s' : yL} (hv : yIv (6, lv, x, a, y, d, p)) (h : yIw (6, lv, x, a, y, d, p)) (hN : yN2 T n (6, lv, x, a, y, d, p) = .inl s') : yIw s' := by
  obtain ⟨h0, hc, h1, h2, h3, h4, h5⟩ := h
  dsimp only at h0 hc h1 h2 h3 h4 h5
  have hO : yOK d := hv.1
  obtain ⟨⟨o4, o4'⟩, ⟨o5, o5'⟩, ⟨o6, o6'⟩, o7, o7'⟩ := hO.1
  rw [yN2_6] at hN
  have hc := hc.resolve_left (by decide)
  cases g : yNu T n p 0 (d.1 2 - 1) (fun v => (7, [], d.1 1 * v + x, 0, 0, d, ys_nx T n p)) with
  | inr r => rw [g] at hN; cases hN
  | inl t =>
    rw [g] at hN
    obtain ⟨e, -, -⟩ := yNu_i g
    have hN : (if d.2.2 t.2.2.1.toNat then _ else _) = _ := hN
    by_cases g2 : d.2.2 t.2.2.1.toNat = true
    · rw [if_pos g2] at hN
      cases hN
    · rw [if_neg g2] at hN
      cases hN
      rw [e]
      exact yIw_0 h0 (Or.inr hc) (by decide)
theorem yIw_m7 {T : Nat → Int} {n p : Nat} {lv : List Bool} {x a : Int} {y : Int32} {d : yLD} {s' : yL} (hv : yIv (7, lv, x, a, y, d, p)) (h : yIw (7, lv, x, a, y, d, p)) (hN : yN2 T n (7, lv, x, a, y, d, p) = .inl s') : yIw s' := by
  obtain ⟨h0, hc, h1, h2, h3, h4, h5⟩ := h
  dsimp only at h0 hc h1 h2 h3 h4 h5
  have hO : yOK d := hv.1
  obtain ⟨⟨o4, o4'⟩, ⟨o5, o5'⟩, ⟨o6, o6'⟩, o7, o7'⟩ := hO.1
  rw [yN2_7] at hN
  by_cases g : ys_kd T n p = 3 ∧ ys_vl T n p < 4
  · rw [if_pos g] at hN
    cases hN
    have e : ∀ i, i ≠ 13 → i ≠ 100 + x.toNat % 64 → (yWcu d x (ys_vl T n p)).1 i = d.1 i := fun i i1 i2 => (yU_n i1).trans (yU_n i2)
    exact yIw_0 (yCl_e (d := d) (e 1 (by decide) (by omega)) (e 2 (by decide) (by omega)) (e 4 (by decide) (by omega)) (e 6 (by decide) (by omega)) (fun s hs => e _ (by omega) (by omega)) (fun q hq => e _ (by omega) (by omega)) h0) (Or.inl rfl) (by decide)
  · rw [if_neg g] at hN
    cases hN
theorem yIw_m8 {T : Nat → Int} {n p : Nat} {lv : List Bool} {x a : Int} {y : Int32} {d : yLD} {s' : yL} (hv : yIv (8, lv, x, a, y, d, p)) (h : yIw (8, lv, x, a, y, d, p)) (hN : yN2 T n (8, lv, x, a, y, d, p) = .inl s') : yIw s' := by
  obtain ⟨h0, hc, h1, h2, h3, h4, h5⟩ := h
  dsimp only at h0 hc h1 h2 h3 h4 h5
  have hO : yOK d := hv.1
  obtain ⟨⟨o4, o4'⟩, ⟨o5, o5'⟩, ⟨o6, o6'⟩, o7, o7'⟩ := hO.1
  rw [yN2_8] at hN
  have hc := hc.resolve_left (by decide)
  obtain ⟨rfl, b1, b2⟩ := yNu_i hN
  exact yIw_9 h0 (Or.inr hc) ⟨b1, by omega⟩ (Or.inl rfl)
theorem yIw_m9 {T : Nat → Int} {n p : Nat} {lv : List Bool} {x a : Int} {y : Int32} {d : yLD} {s' : yL} (hv : yIv (9, lv, x, a, y, d, p)) (h : yIw (9, lv, x, a, y, d, p)) (hN : yN2 T n (9, lv, x, a, y, d, p) = .inl s') : yIw s' := by
  obtain ⟨h0, hc, h1, h2, h3, h4, h5⟩ := h
  dsimp only at h0 hc h1 h2 h3 h4 h5
  have hO : yOK d := hv.1
  obtain ⟨⟨o4, o4'⟩, ⟨o5, o5'⟩, ⟨o6, o6'⟩, o7, o7'⟩ := hO.1
  rw [yN2_9] at hN
  have hc := hc.resolve_left (by decide)
  obtain ⟨rfl, b1, b2⟩ := yNu_i hN
  have k := h3 (Or.inl rfl)
  exact yIw_10 h0 (Or.inr hc) (ycell h0.1.1.1 b1 b2 k.1 k.2) (Or.inl rfl)
theorem yIw_m10 {T : Nat → Int} {n p : Nat} {lv : List Bool} {x a : Int} {y : Int32} {d : yLD} {s' : yL} (hv : yIv (10, lv, x, a, y, d, p)) (h : yIw (10, lv, x, a, y, d, p)) (hN : yN2 T n (10, lv, x, a, y, d, p) = .inl s') : yIw s' := by
  obtain ⟨h0, hc, h1, h2, h3, h4, h5⟩ := h
  dsimp only at h0 hc h1 h2 h3 h4 h5
  have hO : yOK d := hv.1
  obtain ⟨⟨o4, o4'⟩, ⟨o5, o5'⟩, ⟨o6, o6'⟩, o7, o7'⟩ := hO.1
  rw [yN2_10] at hN
  have hc := hc.resolve_left (by decide)
  obtain ⟨rfl, b1, b2⟩ := yNu_i hN
  have k := h4 (Or.inl rfl)
  have h8 := hv.2.1 (Or.inr (Or.inr (Or.inl rfl)))
  have h8 : d.1 4 < 8 := h8
  have e : ∀ i, i ≠ 200 + (d.1 4).toNat → i ≠ 210 + (d.1 4).toNat → i ≠ 220 + (d.1 4).toNat → i ≠ 230 + (d.1 4).toNat → (yWsl d x (ys_vl T n p)).1 i = d.1 i := fun i i1 i2 i3 i4 => (yW_n i4).trans ((yW_n i3).trans ((yW_n i2).trans (yW_n i1)))
  refine yIw_11 (yCl_e (d := d) (e 1 (by omega) (by omega) (by omega) (by omega)) (e 2 (by omega) (by omega) (by omega) (by omega)) (e 4 (by omega) (by omega) (by omega) (by omega)) (e 6 (by omega) (by omega) (by omega) (by omega)) (fun s hs => e _ (by omega) (by omega) (by omega) (by omega)) (fun q hq => e _ (by omega) (by omega) (by omega) (by omega)) h0) (Or.inr ?_) ?_ (Or.inl rfl)
  · rw [e 0 (by omega) (by omega) (by omega) (by omega), e 4 (by omega) (by omega) (by omega) (by omega), e 6 (by omega) (by omega) (by omega) (by omega)]
    exact hc
  · rw [e 4 (by omega) (by omega) (by omega) (by omega), e 1 (by omega) (by omega) (by omega) (by omega), e 2 (by omega) (by omega) (by omega) (by omega), show (yWsl d x (ys_vl T n p)).1 (200 + (d.1 4).toNat) = x from (yW_n (by omega)).trans ((yW_n (by omega)).trans ((yW_n (by omega)).trans yW_e))]
    exact k
theorem yIw_m11 {T : Nat → Int} {n p : Nat} {lv : List Bool} {x a : Int} {y : Int32} {d : yLD} {s' : yL} (hv : yIv (11, lv, x, a, y, d, p)) (h : yIw (11, lv, x, a, y, d, p)) (hN : yN2 T n (11, lv, x, a, y, d, p) = .inl s') : yIw s' := by
  obtain ⟨h0, hc, h1, h2, h3, h4, h5⟩ := h
  dsimp only at h0 hc h1 h2 h3 h4 h5
  have hO : yOK d := hv.1
  obtain ⟨⟨o4, o4'⟩, ⟨o5, o5'⟩, ⟨o6, o6'⟩, o7, o7'⟩ := hO.1
  rw [yN2_11] at hN
  have hc := hc.resolve_left (by decide)
  have k := h5 (Or.inl rfl)
  by_cases g : ys_kd T n p = 3 ∧ ys_vl T n p < 4
  · rw [if_pos g] at hN
    by_cases g2 : a = 8
    · rw [if_pos g2] at hN
      cases hN
    · rw [if_neg g2] at hN
      cases hN
      exact yIw_11 h0 (Or.inr hc) k (Or.inr rfl)
  · rw [if_neg g] at hN
    cases hN
    obtain ⟨k1, k3, k4⟩ := h0
    have e : ∀ i, i ≠ 4 → yU d.1 4 (d.1 4 + 1) i = d.1 i := fun i hi => yU_n hi
    refine yIw_0 ⟨?_, fun s hs => ?_, fun q hq => ?_⟩ (Or.inl rfl) (by decide)
    · show (2 ≤ yU d.1 4 (d.1 4 + 1) 1 ∧ yU d.1 4 (d.1 4 + 1) 1 ≤ 8) ∧ 2 ≤ yU d.1 4 (d.1 4 + 1) 2 ∧ yU d.1 4 (d.1 4 + 1) 2 ≤ 8
      rw [e 1 (by decide), e 2 (by decide)]; exact k1
    · have hs : (s : Int) < d.1 4 + 1 := hs
      show 0 ≤ yU d.1 4 (d.1 4 + 1) (200 + s) ∧ yU d.1 4 (d.1 4 + 1) (200 + s) < yU d.1 4 (d.1 4 + 1) 1 * yU d.1 4 (d.1 4 + 1) 2
      rw [e _ (by omega), e 1 (by decide), e 2 (by decide)]
      by_cases h8 : (s : Int) < d.1 4
      · exact k3 s h8
      · rw [show s = (d.1 4).toNat by omega]; exact k
    · have hq : (q : Int) < yU d.1 4 (d.1 4 + 1) 6 := hq
      rw [e 6 (by decide)] at hq
      show 0 ≤ yU d.1 4 (d.1 4 + 1) (600 + q) ∧ yU d.1 4 (d.1 4 + 1) (600 + q) < yU d.1 4 (d.1 4 + 1) 1 * yU d.1 4 (d.1 4 + 1) 2
      rw [e _ (by omega), e 1 (by decide), e 2 (by decide)]
      exact k4 q hq
theorem yIw_m12 {T : Nat → Int} {n p : Nat} {lv : List Bool} {x a : Int} {y : Int32} {d : yLD} {s' : yL} (hv : yIv (12, lv, x, a, y, d, p)) (h : yIw (12, lv, x, a, y, d, p)) (hN : yN2 T n (12, lv, x, a, y, d, p) = .inl s') : yIw s' := by
  obtain ⟨h0, hc, h1, h2, h3, h4, h5⟩ := h
  dsimp only at h0 hc h1 h2 h3 h4 h5
  have hO : yOK d := hv.1
  obtain ⟨⟨o4, o4'⟩, ⟨o5, o5'⟩, ⟨o6, o6'⟩, o7, o7'⟩ := hO.1
  rw [yN2_12] at hN
  have hc := hc.resolve_left (by decide)
  obtain ⟨rfl, b1, b2⟩ := yNu_i hN
  have k := h5 (Or.inr rfl)
  have a8 := hv.2.2.2.1 rfl
  have a8 : a < 8 := a8
  have h8 := hv.2.1 (Or.inr (Or.inr (Or.inr (Or.inr rfl))))
  have h8 : d.1 4 < 8 := h8
  have e : ∀ i, i ≠ 300 + (8 * (d.1 4).toNat + a.toNat) → i ≠ 400 + (8 * (d.1 4).toNat + a.toNat) → i ≠ 220 + (d.1 4).toNat → (yWmk d a x (ys_vl T n p)).1 i = d.1 i := fun i i1 i2 i3 => (yW_n i3).trans ((yW_n i2).trans (yW_n i1))
  refine yIw_11 (yCl_e (d := d) (e 1 (by omega) (by omega) (by omega)) (e 2 (by omega) (by omega) (by omega)) (e 4 (by omega) (by omega) (by omega)) (e 6 (by omega) (by omega) (by omega)) (fun s hs => e _ (by omega) (by omega) (by omega)) (fun q hq => e _ (by omega) (by omega) (by omega)) h0) (Or.inr ?_) ?_ (Or.inl rfl)
  · rw [e 0 (by omega) (by omega) (by omega), e 4 (by omega) (by omega) (by omega), e 6 (by omega) (by omega) (by omega)]
    exact hc
  · rw [e 4 (by omega) (by omega) (by omega), e 1 (by omega) (by omega) (by omega), e 2 (by omega) (by omega) (by omega), e _ (by omega) (by omega) (by omega)]
    exact k
theorem yIw_m13 {T : Nat → Int} {n p : Nat} {lv : List Bool} {x a : Int} {y : Int32} {d : yLD} {s' : yL} (hv : yIv (13, lv, x, a, y, d, p)) (h : yIw (13, lv, x, a, y, d, p)) (hN : yN2 T n (13, lv, x, a, y, d, p) = .inl s') : yIw s' := by
  obtain ⟨h0, hc, h1, h2, h3, h4, h5⟩ := h
  dsimp only at h0 hc h1 h2 h3 h4 h5
  have hO : yOK d := hv.1
  obtain ⟨⟨o4, o4'⟩, ⟨o5, o5'⟩, ⟨o6, o6'⟩, o7, o7'⟩ := hO.1
  rw [yN2_13] at hN
  have hc := hc.resolve_left (by decide)
  have b5 := hv.2.2.2.2.1 rfl
  obtain ⟨b5, bx, -⟩ := b5
  have b5 : d.1 5 < 5 := b5
  have bx : 0 ≤ x := bx
  by_cases g : x < 3
  · rw [if_pos g] at hN
    obtain ⟨rfl, b1, b2⟩ := yNu_i hN
    refine yIw_0 (yCl_W h0 (by omega) (fun s hs => by omega) (fun q hq => by omega)) (Or.inr ?_) (by decide)
    rw [yW_n (by omega), yW_n (by omega), yW_n (by omega)]
    exact hc
  · rw [if_neg g] at hN
    obtain ⟨rfl, b1, b2⟩ := yNu_i hN
    have k := yCl_W (i := 500 + (4 * (d.1 5).toNat + 3)) (v := ys_vl T n p) h0 (by omega) (fun s hs => by omega) (fun q hq => by omega)
    exact yIw_0 (yCl_k (u := (yW d (500 + (4 * (d.1 5).toNat + 3)) (ys_vl T n p)).2.1) (f := (yW d (500 + (4 * (d.1 5).toNat + 3)) (ys_vl T n p)).2.2) k (by decide) (by decide)) (Or.inl rfl) (by decide)
theorem yIw_m15 {T : Nat → Int} {n p : Nat} {lv : List Bool} {x a : Int} {y : Int32} {d : yLD} {s' : yL} (hv : yIv (15, lv, x, a, y, d, p)) (h : yIw (15, lv, x, a, y, d, p)) (hN : yN2 T n (15, lv, x, a, y, d, p) = .inl s') : yIw s' := by
  obtain ⟨h0, hc, h1, h2, h3, h4, h5⟩ := h
  dsimp only at h0 hc h1 h2 h3 h4 h5
  have hO : yOK d := hv.1
  obtain ⟨⟨o4, o4'⟩, ⟨o5, o5'⟩, ⟨o6, o6'⟩, o7, o7'⟩ := hO.1
  rw [yN2_15] at hN
  have hc := hc.resolve_left (by decide)
  obtain ⟨rfl, b1, b2⟩ := yNu_i hN
  exact yIw_0 h0 (Or.inr hc) (by decide)
theorem yIw_m16 {T : Nat → Int} {n p : Nat} {lv : List Bool} {x a : Int} {y : Int32} {d : yLD} {s' : yL} (hv : yIv (16, lv, x, a, y, d, p)) (h : yIw (16, lv, x, a, y, d, p)) (hN : yN2 T n (16, lv, x, a, y, d, p) = .inl s') : yIw s' := by
  obtain ⟨h0, hc, h1, h2, h3, h4, h5⟩ := h
  dsimp only at h0 hc h1 h2 h3 h4 h5
  have hO : yOK d := hv.1
  obtain ⟨⟨o4, o4'⟩, ⟨o5, o5'⟩, ⟨o6, o6'⟩, o7, o7'⟩ := hO.1
  rw [yN2_16] at hN
  have hc := hc.resolve_left (by decide)
  obtain ⟨rfl, b1, b2⟩ := yNu_i hN
  exact yIw_0 h0 (Or.inr hc) (by decide)
theorem yIw_m17 {T : Nat → Int} {n p : Nat} {lv : List Bool} {x a : Int} {y : Int32} {d : yLD} {s' : yL} (hv : yIv (17, lv, x, a, y, d, p)) (h : yIw (17, lv, x, a, y, d, p)) (hN : yN2 T n (17, lv, x, a, y, d, p) = .inl s') : yIw s' := by
  obtain ⟨h0, hc, h1, h2, h3, h4, h5⟩ := h
  dsimp only at h0 hc h1 h2 h3 h4 h5
  have hO : yOK d := hv.1
  obtain ⟨⟨o4, o4'⟩, ⟨o5, o5'⟩, ⟨o6, o6'⟩, o7, o7'⟩ := hO.1
  rw [yN2_17] at hN
  obtain ⟨rfl, b1, b2⟩ := yNu_i hN
  have k := yCl_k (k := 8) (v := 1) (u := d.2.1) (f := d.2.2) h0 (by decide) (by decide)
  have k := yCl_W (i := 20) (v := x) k (by decide) (fun s _ => by omega) (fun q _ => by omega)
  exact yIw_0 (yCl_W (i := 21) (v := ys_vl T n p) k (by decide) (fun s _ => by omega) (fun q _ => by omega)) (Or.inl rfl) (by decide)
theorem yIw_m18 {T : Nat → Int} {n p : Nat} {lv : List Bool} {x a : Int} {y : Int32} {d : yLD} {s' : yL} (hv : yIv (18, lv, x, a, y, d, p)) (h : yIw (18, lv, x, a, y, d, p)) (hN : yN2 T n (18, lv, x, a, y, d, p) = .inl s') : yIw s' := by
  obtain ⟨h0, hc, h1, h2, h3, h4, h5⟩ := h
  dsimp only at h0 hc h1 h2 h3 h4 h5
  have hO : yOK d := hv.1
  obtain ⟨⟨o4, o4'⟩, ⟨o5, o5'⟩, ⟨o6, o6'⟩, o7, o7'⟩ := hO.1
  rw [yN2_18] at hN
  obtain ⟨rfl, b1, b2⟩ := yNu_i hN
  have k := yCl_k (k := 9) (v := 1) (u := d.2.1) (f := d.2.2) h0 (by decide) (by decide)
  exact yIw_0 (yCl_W (i := 22) (v := ys_vl T n p) k (by decide) (fun s _ => by omega) (fun q _ => by omega)) (Or.inl rfl) (by decide)
theorem yIw_m19 {T : Nat → Int} {n p : Nat} {lv : List Bool} {x a : Int} {y : Int32} {d : yLD} {s' : yL} (hv : yIv (19, lv, x, a, y, d, p)) (h : yIw (19, lv, x, a, y, d, p)) (hN : yN2 T n (19, lv, x, a, y, d, p) = .inl s') : yIw s' := by
  obtain ⟨h0, hc, h1, h2, h3, h4, h5⟩ := h
  dsimp only at h0 hc h1 h2 h3 h4 h5
  have hO : yOK d := hv.1
  obtain ⟨⟨o4, o4'⟩, ⟨o5, o5'⟩, ⟨o6, o6'⟩, o7, o7'⟩ := hO.1
  rw [yN2_19] at hN
  have hc := hc.resolve_left (by decide)
  obtain ⟨rfl, b1, b2⟩ := yNu_i hN
  exact yIw_9 h0 (Or.inr hc) ⟨b1, by omega⟩ (Or.inr rfl)
theorem yIw_m20 {T : Nat → Int} {n p : Nat} {lv : List Bool} {x a : Int} {y : Int32} {d : yLD} {s' : yL} (hv : yIv (20, lv, x, a, y, d, p)) (h : yIw (20, lv, x, a, y, d, p)) (hN : yN2 T n (20, lv, x, a, y, d, p) = .inl s') : yIw s' := by
  obtain ⟨h0, hc, h1, h2, h3, h4, h5⟩ := h
  dsimp only at h0 hc h1 h2 h3 h4 h5
  have hO : yOK d := hv.1
  obtain ⟨⟨o4, o4'⟩, ⟨o5, o5'⟩, ⟨o6, o6'⟩, o7, o7'⟩ := hO.1
  rw [yN2_20] at hN
  have hc := hc.resolve_left (by decide)
  obtain ⟨rfl, b1, b2⟩ := yNu_i hN
  have k := h3 (Or.inr rfl)
  exact yIw_10 h0 (Or.inr hc) (ycell h0.1.1.1 b1 b2 k.1 k.2) (Or.inr (Or.inl rfl))
theorem yIw_m21 {T : Nat → Int} {n p : Nat} {lv : List Bool} {x a : Int} {y : Int32} {d : yLD} {s' : yL} (hv : yIv (21, lv, x, a, y, d, p)) (h : yIw (21, lv, x, a, y, d, p)) (hN : yN2 T n (21, lv, x, a, y, d, p) = .inl s') : yIw s' := by
  obtain ⟨h0, hc, h1, h2, h3, h4, h5⟩ := h
  dsimp only at h0 hc h1 h2 h3 h4 h5
  have hO : yOK d := hv.1
  obtain ⟨⟨o4, o4'⟩, ⟨o5, o5'⟩, ⟨o6, o6'⟩, o7, o7'⟩ := hO.1
  rw [yN2_21] at hN
  have hc := hc.resolve_left (by decide)
  obtain ⟨rfl, b1, b2⟩ := yNu_i hN
  exact yIw_10 h0 (Or.inr hc) (h4 (Or.inr (Or.inl rfl))) (Or.inr (Or.inr rfl))
theorem yIw_m22 {T : Nat → Int} {n p : Nat} {lv : List Bool} {x a : Int} {y : Int32} {d : yLD} {s' : yL} (hv : yIv (22, lv, x, a, y, d, p)) (h : yIw (22, lv, x, a, y, d, p)) (hN : yN2 T n (22, lv, x, a, y, d, p) = .inl s') : yIw s' := by
  obtain ⟨h0, hc, h1, h2, h3, h4, h5⟩ := h
  dsimp only at h0 hc h1 h2 h3 h4 h5
  have hO : yOK d := hv.1
  obtain ⟨⟨o4, o4'⟩, ⟨o5, o5'⟩, ⟨o6, o6'⟩, o7, o7'⟩ := hO.1
  rw [yN2_22] at hN
  have hc := hc.resolve_left (by decide)
  have k := h4 (Or.inr (Or.inr rfl))
  have b6 := hv.2.2.2.2.2.1 (Or.inr (Or.inr (Or.inr rfl)))
  have b6 : d.1 6 < 4 := b6
  by_cases g : ys_kd T n p = 2
  · rw [if_pos g] at hN
    by_cases g1 : 9999 < ys_vl T n p
    · rw [if_pos g1] at hN
      cases hN
    rw [if_neg g1] at hN
    by_cases g2 : d.1 4 ≤ ys_vl T n p
    · rw [if_pos g2] at hN
      cases hN
    rw [if_neg g2] at hN
    by_cases g3 : y >>> (Int32.ofInt (ys_vl T n p) &&& 31) &&& Int32.ofInt 1 ≠ Int32.ofInt 0
    · rw [if_pos g3] at hN
      cases hN
    rw [if_neg g3] at hN
    cases hN
    exact yIw_10 h0 (Or.inr hc) k (Or.inr (Or.inr rfl))
  · rw [if_neg g] at hN
    cases hN
    obtain ⟨k1, k3, k4⟩ := h0
    have e : ∀ i, i ≠ 6 → i ≠ 600 + (d.1 6).toNat → i ≠ 610 + (d.1 6).toNat → i ≠ 620 + (d.1 6).toNat → (yWpi d x a y).1 i = d.1 i := fun i i0 i1 i2 i3 => (yW_n i3).trans ((yW_n i2).trans ((yW_n i1).trans (yU_n i0)))
    have e6 : (yWpi d x a y).1 6 = d.1 6 + 1 := (yW_n (by omega)).trans ((yW_n (by omega)).trans ((yW_n (by omega)).trans (show yU d.1 6 (d.1 6 + 1) 6 = d.1 6 + 1 from yU_e)))
    have e60 : (yWpi d x a y).1 (600 + (d.1 6).toNat) = x := (yW_n (by omega)).trans ((yW_n (by omega)).trans yW_e)
    have e1 := e 1 (by omega) (by omega) (by omega) (by omega)
    have e2 := e 2 (by omega) (by omega) (by omega) (by omega)
    have e4 := e 4 (by omega) (by omega) (by omega) (by omega)
    refine yIw_0 ⟨by rw [e1, e2]; exact k1, fun s hs => ?_, fun q hq => ?_⟩ (Or.inl rfl) (by decide)
    · rw [e4] at hs
      rw [e _ (by omega) (by omega) (by omega) (by omega), e1, e2]
      exact k3 s hs
    · rw [e6] at hq
      rw [e1, e2]
      by_cases h8 : (q : Int) < d.1 6
      · rw [e _ (by omega) (by omega) (by omega) (by omega)]
        exact k4 q h8
      · rw [show q = (d.1 6).toNat by omega, e60]; exact k
theorem yIw_m40 {T : Nat → Int} {n p : Nat} {lv : List Bool} {x a : Int} {y : Int32} {d : yLD} {s' : yL} (hv : yIv (40, lv, x, a, y, d, p)) (h : yIw (40, lv, x, a, y, d, p)) (hN : yN2 T n (40, lv, x, a, y, d, p) = .inl s') : yIw s' := by
  obtain ⟨h0, hc, h1, h2, h3, h4, h5⟩ := h
  dsimp only at h0 hc h1 h2 h3 h4 h5
  have hO : yOK d := hv.1
  obtain ⟨⟨o4, o4'⟩, ⟨o5, o5'⟩, ⟨o6, o6'⟩, o7, o7'⟩ := hO.1
  rw [yN2_40] at hN
  have hc := hc.resolve_left (by decide)
  by_cases g : ys_kd T n p = 3 ∧ ys_vl T n p = 11
  · rw [if_pos g] at hN
    cases hN
    exact yIw_0 h0 (Or.inr hc) (by decide)
  · rw [if_neg g] at hN
    cases hN
theorem yIw_m41 {T : Nat → Int} {n p : Nat} {lv : List Bool} {x a : Int} {y : Int32} {d : yLD} {s' : yL} (hv : yIv (41, lv, x, a, y, d, p)) (h : yIw (41, lv, x, a, y, d, p)) (hN : yN2 T n (41, lv, x, a, y, d, p) = .inl s') : yIw s' := by
  obtain ⟨h0, hc, h1, h2, h3, h4, h5⟩ := h
  dsimp only at h0 hc h1 h2 h3 h4 h5
  have hO : yOK d := hv.1
  obtain ⟨⟨o4, o4'⟩, ⟨o5, o5'⟩, ⟨o6, o6'⟩, o7, o7'⟩ := hO.1
  rw [yN2_41] at hN
  have b7 := hv.2.2.2.2.2.2 (Or.inr (Or.inr rfl))
  have b7 : d.1 7 < 8 := b7
  by_cases g : ys_kd T n p = 3 ∧ ys_vl T n p < 4
  · rw [if_pos g] at hN
    cases hN
    have k := yCl_k (k := 7) (v := d.1 7 + 1) (u := d.2.1) (f := d.2.2) h0 (by decide) (by decide)
    exact yIw_0 (yCl_W (i := 700 + (d.1 7).toNat) (v := ys_vl T n p) k (by omega) (fun s hs => by have hs : (s : Int) < d.1 4 := hs; omega) (fun q hq => by have hq : (q : Int) < d.1 6 := hq; omega)) (Or.inl rfl) (by decide)
  · rw [if_neg g] at hN
    cases hN
theorem yIw_s {T : Nat → Int} {n : Nat} {s s' : yL} (hv : yIv s) (h : yIw s) (hN : yN2 T n s = .inl s') : yIw s' := by
  obtain ⟨m, lv, x, a, y, d, p⟩ := s
  by_cases hm : 100 ≤ m
  · have h0 : yCl d := h.1
    have hc : m = 50 ∨ (d.1 0 ≠ 0 → d.1 4 = 0 ∧ d.1 6 = 0) := h.2.1
    unfold yN2 at hN
    rw [if_pos hm] at hN
    split at hN
    · cases hN
      exact yIw_0 h0 (Or.inr (hc.resolve_left (by omega))) (by omega)
    · split at hN
      · cases hN
        exact yIw_0 h0 (Or.inr (hc.resolve_left (by omega))) (by omega)
      · cases hN
  by_cases k0 : m = 0
  · subst k0
    exact yIw_m0 hv h hN
  by_cases k1 : m = 1
  · subst k1
    exact yIw_m1 hv h hN
  by_cases k2 : m = 2
  · subst k2
    exact yIw_m2 hv h hN
  by_cases k3 : m = 3
  · subst k3
    exact yIw_m3 hv h hN
  by_cases k4 : m = 4
  · subst k4
    exact yIw_m4 hv h hN
  by_cases k5 : m = 5
  · subst k5
    exact yIw_m5 hv h hN
  by_cases k6 : m = 6
  · subst k6
    exact yIw_m6 hv h hN
  by_cases k7 : m = 7
  · subst k7
    exact yIw_m7 hv h hN
  by_cases k8 : m = 8
  · subst k8
    exact yIw_m8 hv h hN
  by_cases k9 : m = 9
  · subst k9
    exact yIw_m9 hv h hN
  by_cases k10 : m = 10
  · subst k10
    exact yIw_m10 hv h hN
  by_cases k11 : m = 11
  · subst k11
    exact yIw_m11 hv h hN
  by_cases k12 : m = 12
  · subst k12
    exact yIw_m12 hv h hN
  by_cases k13 : m = 13
  · subst k13
    exact yIw_m13 hv h hN
  by_cases k15 : m = 15
  · subst k15
    exact yIw_m15 hv h hN
  by_cases k16 : m = 16
  · subst k16
    exact yIw_m16 hv h hN
  by_cases k17 : m = 17
  · subst k17
    exact yIw_m17 hv h hN
  by_cases k18 : m = 18
  · subst k18
    exact yIw_m18 hv h hN
  by_cases k19 : m = 19
  · subst k19
    exact yIw_m19 hv h hN
  by_cases k20 : m = 20
  · subst k20
    exact yIw_m20 hv h hN
  by_cases k21 : m = 21
  · subst k21
    exact yIw_m21 hv h hN
  by_cases k22 : m = 22
  · subst k22
    exact yIw_m22 hv h hN
  by_cases k40 : m = 40
  · subst k40
    exact yIw_m40 hv h hN
  by_cases k41 : m = 41
  · subst k41
    exact yIw_m41 hv h hN
  have e : yN2 T n (m, lv, x, a, y, d, p) = (if ys_kd T n p = 4 ∧ ys_vl T n p = 59 then .inl (0, [], 0, 0, 0, (yU d.1 0 0, d.2), ys_nx T n p) else .inr (1, p)) := by
    unfold yN2
    rw [if_neg hm, if_neg k0, if_neg k1, if_neg k2, if_neg k3, if_neg k4, if_neg k5, if_neg k6, if_neg k7, if_neg k8, if_neg k9, if_neg k10, if_neg k11, if_neg k12, if_neg k13, if_neg k15, if_neg k16, if_neg k17, if_neg k18, if_neg k19, if_neg k20, if_neg k21, if_neg k22, if_neg k40, if_neg k41]
  rw [e] at hN
  by_cases g : ys_kd T n p = 4 ∧ ys_vl T n p = 59
  · rw [if_pos g] at hN
    cases hN
    have e0 : ∀ i, i ≠ 0 → (yU d.1 0 0, d.2).1 i = d.1 i := fun i hi => (show yU d.1 0 0 i = d.1 i from yU_n hi)
    exact yIw_0 (yCl_e (d := d) (d' := (yU d.1 0 0, d.2)) (e0 1 (by decide)) (e0 2 (by decide)) (e0 4 (by decide)) (e0 6 (by decide)) (fun s _ => e0 _ (by omega)) (fun q _ => e0 _ (by omega)) h.1) (Or.inr (fun h9 => absurd (show yU d.1 0 0 0 = 0 from yU_e) h9)) (by decide)
  · rw [if_neg g] at hN
    cases hN
theorem yIw_it {T : Nat → Int} {n : Nat} {t : yL} : ∀ (f : Nat) (s : yL), yIv s → yIw s → yIt T n f s = some t → yIw t
  | 0, s, _, h, e => by
    have e : s = t := Option.some.inj e
    rw [← e]
    exact h
  | f + 1, s, hv, h, e => by
    have e : (match yN2 T n s with
      | .inr _ => none
      | .inl s' => yIt T n f s') = some t := e
    cases hN : yN2 T n s with
    | inr r =>
      rw [hN] at e
      cases e
    | inl s' =>
      rw [hN] at e
      exact yIw_it f s' (yIv_s hv hN) (yIw_s hv h hN) e
/-- cells that a text told by its end lie within its sea -/
theorem yCl_end {T : Nat → Int} {n q : Nat} {d : yLD} (h : yR2 T n y00 (0, [], 0, 0, 0, d, q)) : yCl d := by
  obtain ⟨f, hf⟩ := h (.inr (0, [], 0, 0, 0, d, q)) ⟨0, rfl⟩
  exact (yIw_it f y00 (yIv_0 y00_ok (by omega)) (yIw_0 ⟨by decide, fun s hs => by
    have hs : (s : Int) < 0 := hs
    omega, fun q hq => by
    have hq : (q : Int) < 0 := hq
    omega⟩ (Or.inr (fun _ => by decide)) (by decide)) hf).1
