/-! ===== the steps that a text tells are 1 to 9 ===== -/
def yPs (d : yLD) : Prop := ∀ i, 400 ≤ i → i < 464 → yFl d i → 1 ≤ d.1 i ∧ d.1 i ≤ 9
theorem yPs_e {d d' : yLD} (h1 : ∀ i, 400 ≤ i → i < 464 → d'.1 i = d.1 i) (h2 : ∀ i, 400 ≤ i → i < 464 → yFl d' i → yFl d i) (h : yPs d) : yPs d' := fun i i1 i2 i3 => by
  rw [h1 i i1 i2]
  exact h i i1 i2 (h2 i i1 i2 i3)
theorem yPs_W {d : yLD} {i : Nat} {v : Int} (h : yPs d) (hi : i < 400 ∨ 464 ≤ i ∨ (1 ≤ v ∧ v ≤ 9)) : yPs (yW d i v) := fun j j1 j2 j3 => by
  by_cases h9 : j = i
  · rw [h9, yW_e]
    omega
  · rw [yW_n h9]
    refine h j j1 j2 ?_
    have j3 : (yW d i v).2.2 (1000 + j) = true := j3
    have e : (yW d i v).2.2 (1000 + j) = d.2.2 (1000 + j) := if_neg (by omega)
    rw [e] at j3
    exact j3
theorem yPs_k {d : yLD} {k : Nat} {v : Int} {u : Int64} (hk : k < 400) (h : yPs d) : yPs (yU d.1 k v, u, d.2.2) := yPs_e (fun i i1 _ => (show yU d.1 k v i = d.1 i from yU_n (by omega))) (fun _ _ _ h9 => h9) h
theorem yPs_b {d : yLD} {x : Int} (hx : x < 1000) (h : yPs d) : yPs (d.1, d.2.1, yUb d.2.2 x) := yPs_e (d := d) (d' := (d.1, d.2.1, yUb d.2.2 x)) (fun _ _ _ => rfl) (fun i _ _ h9 => by
  have h9 : (if ((1000 + i : Nat) : Int) = x then true else d.2.2 (1000 + i)) = true := h9
  rw [if_neg (by omega)] at h9
  exact h9) h
def yIp (s : yL) : Prop := yPs s.2.2.2.2.2.1 ∧ (s.1 = 6 → 0 ≤ s.2.2.1 ∧ s.2.2.1 < s.2.2.2.2.2.1.1 1) ∧ (s.1 = 7 → 0 ≤ s.2.2.1 ∧ s.2.2.1 < 64)
theorem yIp_0 {m : Nat} {lv : List Bool} {x a : Int} {y : Int32} {d : yLD} {p : Nat} (h : yPs d) (hm : m ≠ 6 ∧ m ≠ 7) : yIp (m, lv, x, a, y, d, p) := ⟨h, fun h9 => absurd h9 hm.1, fun h9 => absurd h9 hm.2⟩
theorem yIp_6 {m : Nat} {lv : List Bool} {x a : Int} {y : Int32} {d : yLD} {p : Nat} (h : yPs d) (hm : (m = 6 ∧ 0 ≤ x ∧ x < d.1 1) ∨ (m = 7 ∧ 0 ≤ x ∧ x < 64)) : yIp (m, lv, x, a, y, d, p) := ⟨h, fun h9 => by dsimp only at h9 ⊢; omega, fun h9 => by dsimp only at h9 ⊢; omega⟩
theorem yIp_y0 {T : Nat → Int} {n p : Nat} {d : yLD} {s' : yL} (h : yPs d) (hN : y0 T n d p = .inl s') : yIp s' := by
  unfold y0 at hN
  by_cases h0 : ys_kd T n p = 0
  · rw [if_pos h0] at hN
    cases hN
  rw [if_neg h0] at hN
  by_cases h3 : ys_kd T n p ≠ 3
  · rw [if_pos h3] at hN
    cases hN
  rw [if_neg h3] at hN
  by_cases g12 : ys_vl T n p = 12
  · rw [if_pos g12] at hN
    by_cases k : d.1 0 ≠ 0
    · rw [if_pos k] at hN
      cases hN
      exact yIp_0 h (by decide)
    · rw [if_neg k] at hN
      cases hN
  rw [if_neg g12] at hN
  by_cases g13 : ys_vl T n p = 13
  · rw [if_pos g13] at hN
    by_cases k : d.1 3 < 20
    · rw [if_pos k] at hN
      cases hN
      exact yIp_0 h (by decide)
    · rw [if_neg k] at hN
      cases hN
  rw [if_neg g13] at hN
  by_cases g14 : ys_vl T n p = 14
  · rw [if_pos g14] at hN
    cases hN
    exact yIp_0 h (by decide)
  rw [if_neg g14] at hN
  by_cases g15 : ys_vl T n p = 15
  · rw [if_pos g15] at hN
    by_cases k : d.1 4 < 8
    · rw [if_pos k] at hN
      cases hN
      exact yIp_0 h (by decide)
    · rw [if_neg k] at hN
      cases hN
  rw [if_neg g15] at hN
  by_cases g16 : ys_vl T n p = 16
  · rw [if_pos g16] at hN
    by_cases k : d.1 5 < 5
    · rw [if_pos k] at hN
      cases hN
      exact yIp_0 h (by decide)
    · rw [if_neg k] at hN
      cases hN
  rw [if_neg g16] at hN
  by_cases g17 : ys_vl T n p = 17
  · rw [if_pos g17] at hN
    by_cases k : d.1 8 = 0
    · rw [if_pos k] at hN
      cases hN
      exact yIp_0 h (by decide)
    · rw [if_neg k] at hN
      cases hN
  rw [if_neg g17] at hN
  by_cases g18 : ys_vl T n p = 18
  · rw [if_pos g18] at hN
    by_cases k : d.1 9 = 0
    · rw [if_pos k] at hN
      cases hN
      exact yIp_0 h (by decide)
    · rw [if_neg k] at hN
      cases hN
  rw [if_neg g18] at hN
  by_cases g19 : ys_vl T n p = 19
  · rw [if_pos g19] at hN
    by_cases k : d.1 6 < 4
    · rw [if_pos k] at hN
      cases hN
      exact yIp_0 h (by decide)
    · rw [if_neg k] at hN
      cases hN
  rw [if_neg g19] at hN
  by_cases g20 : ys_vl T n p = 20
  · rw [if_pos g20] at hN
    by_cases k : d.1 7 < 8
    · rw [if_pos k] at hN
      cases hN
      exact yIp_0 h (by decide)
    · rw [if_neg k] at hN
      cases hN
  rw [if_neg g20] at hN
  cases hN
theorem yIp_m0 {T : Nat → Int} {n p : Nat} {lv : List Bool} {x a : Int} {y : Int32} {d : yLD} {s' : yL} (hv : yIv (0, lv, x, a, y, d, p)) (hw : yCl d) (h : yIp (0, lv, x, a, y, d, p)) (hN : yN2 T n (0, lv, x, a, y, d, p) = .inl s') : yIp s' := by
  obtain ⟨h0, h6, h7⟩ := h
  dsimp only at h0 h6 h7
  have hO : yOK d := hv.1
  obtain ⟨⟨o4, o4'⟩, ⟨o5, o5'⟩, ⟨o6, o6'⟩, o7, o7'⟩ := hO.1
  rw [yN2_0] at hN
  exact yIp_y0 h0 hN
theorem yIp_m1 {T : Nat → Int} {n p : Nat} {lv : List Bool} {x a : Int} {y : Int32} {d : yLD} {s' : yL} (hv : yIv (1, lv, x, a, y, d, p)) (hw : yCl d) (h : yIp (1, lv, x, a, y, d, p)) (hN : yN2 T n (1, lv, x, a, y, d, p) = .inl s') : yIp s' := by
  obtain ⟨h0, h6, h7⟩ := h
  dsimp only at h0 h6 h7
  have hO : yOK d := hv.1
  obtain ⟨⟨o4, o4'⟩, ⟨o5, o5'⟩, ⟨o6, o6'⟩, o7, o7'⟩ := hO.1
  rw [yN2_1] at hN
  obtain ⟨rfl, b1, b2⟩ := yNu_i hN
  exact yIp_0 h0 (by decide)
theorem yIp_m2 {T : Nat → Int} {n p : Nat} {lv : List Bool} {x a : Int} {y : Int32} {d : yLD} {s' : yL} (hv : yIv (2, lv, x, a, y, d, p)) (hw : yCl d) (h : yIp (2, lv, x, a, y, d, p)) (hN : yN2 T n (2, lv, x, a, y, d, p) = .inl s') : yIp s' := by
  obtain ⟨h0, h6, h7⟩ := h
  dsimp only at h0 h6 h7
  have hO : yOK d := hv.1
  obtain ⟨⟨o4, o4'⟩, ⟨o5, o5'⟩, ⟨o6, o6'⟩, o7, o7'⟩ := hO.1
  rw [yN2_2] at hN
  obtain ⟨rfl, b1, b2⟩ := yNu_i hN
  exact yIp_0 (yPs_k (d := (yU d.1 1 x, d.2)) (by decide) (yPs_k (u := d.2.1) (by decide) h0)) (by decide)
theorem yIp_m3 {T : Nat → Int} {n p : Nat} {lv : List Bool} {x a : Int} {y : Int32} {d : yLD} {s' : yL} (hv : yIv (3, lv, x, a, y, d, p)) (hw : yCl d) (h : yIp (3, lv, x, a, y, d, p)) (hN : yN2 T n (3, lv, x, a, y, d, p) = .inl s') : yIp s' := by
  obtain ⟨h0, h6, h7⟩ := h
  dsimp only at h0 h6 h7
  have hO : yOK d := hv.1
  obtain ⟨⟨o4, o4'⟩, ⟨o5, o5'⟩, ⟨o6, o6'⟩, o7, o7'⟩ := hO.1
  rw [yN2_3] at hN
  obtain ⟨rfl, b1, b2⟩ := yNu_i hN
  exact yIp_0 h0 (by decide)
theorem yIp_m5 {T : Nat → Int} {n p : Nat} {lv : List Bool} {x a : Int} {y : Int32} {d : yLD} {s' : yL} (hv : yIv (5, lv, x, a, y, d, p)) (hw : yCl d) (h : yIp (5, lv, x, a, y, d, p)) (hN : yN2 T n (5, lv, x, a, y, d, p) = .inl s') : yIp s' := by
  obtain ⟨h0, h6, h7⟩ := h
  dsimp only at h0 h6 h7
  have hO : yOK d := hv.1
  obtain ⟨⟨o4, o4'⟩, ⟨o5, o5'⟩, ⟨o6, o6'⟩, o7, o7'⟩ := hO.1
  rw [yN2_5] at hN
  obtain ⟨rfl, b1, b2⟩ := yNu_i hN
  exact yIp_6 h0 (Or.inl ⟨rfl, b1, by omega⟩)
theorem yIp_m4 {T : Nat → Int} {n p : Nat} {lv : List Bool} {x a : Int} {y : Int32} {d : yLD} {s' : yL} (hv : yIv (4, lv, x, a, y, d, p)) (hw : yCl d) (h : yIp (4, lv, x, a, y, d, p)) (hN : yN2 T n (4, lv, x, a, y, d, p) = .inl s') : yIp s' := by
  obtain ⟨h0, h6, h7⟩ := h
  dsimp only at h0 h6 h7
  have hO : yOK d := hv.1
  obtain ⟨⟨o4, o4'⟩, ⟨o5, o5'⟩, ⟨o6, o6'⟩, o7, o7'⟩ := hO.1
  rw [yN2_4] at hN
  cases g : yNu T n p 0 (d.1 2 - 1) (fun v => (50, [], d.1 1 * v + x, 0, 0, d, ys_nx T n p)) with
  | inr r => rw [g] at hN; cases hN
  | inl t =>
    rw [g] at hN
    have hN : (if d.2.1 &&& yBit t.2.2.1 = 0 then _ else _) = _ := hN
    by_cases g2 : d.2.1 &&& yBit t.2.2.1 = 0
    · rw [if_pos g2] at hN
      cases hN
      exact yIp_0 (yPs_k (by decide) h0) (by decide)
    · rw [if_neg g2] at hN
      cases hN
theorem yIp_m6 {T : Nat → Int} {n p : Nat} {lv : List Bool} {x a : Int} {y : Int32} {d : yLD} {s' : yL} (hv : yIv (6, lv, x, a, y, d, p)) (hw : yCl d) (h : yIp (6, lv, x, a, y, d, p)) (hN : yN2 T n (6, lv, x, a, y, d, p) = .inl s') : yIp s' := by
  obtain ⟨h0, h6, h7⟩ := h
  dsimp only at h0 h6 h7
  have hO : yOK d := hv.1
  obtain ⟨⟨o4, o4'⟩, ⟨o5, o5'⟩, ⟨o6, o6'⟩, o7, o7'⟩ := hO.1
  rw [yN2_6] at hN
  cases g : yNu T n p 0 (d.1 2 - 1) (fun v => (7, [], d.1 1 * v + x, 0, 0, d, ys_nx T n p)) with
  | inr r => rw [g] at hN; cases hN
  | inl t =>
    rw [g] at hN
    obtain ⟨e, b1, b2⟩ := yNu_i g
    have hN : (if d.2.2 t.2.2.1.toNat then _ else _) = _ := hN
    by_cases g2 : d.2.2 t.2.2.1.toNat = true
    · rw [if_pos g2] at hN
      cases hN
    · rw [if_neg g2] at hN
      cases hN
      rw [e]
      have k := h6 rfl
      have c := ycell hw.1.1.1 b1 b2 k.1 k.2
      have c2 : d.1 1 * d.1 2 ≤ 8 * 8 := Int.mul_le_mul hw.1.1.2 hw.1.2.2 (by have := hw.1.2.1; omega) (by decide)
      exact yIp_6 h0 (Or.inr ⟨rfl, c.1, by omega⟩)
theorem yIp_m7 {T : Nat → Int} {n p : Nat} {lv : List Bool} {x a : Int} {y : Int32} {d : yLD} {s' : yL} (hv : yIv (7, lv, x, a, y, d, p)) (hw : yCl d) (h : yIp (7, lv, x, a, y, d, p)) (hN : yN2 T n (7, lv, x, a, y, d, p) = .inl s') : yIp s' := by
  obtain ⟨h0, h6, h7⟩ := h
  dsimp only at h0 h6 h7
  have hO : yOK d := hv.1
  obtain ⟨⟨o4, o4'⟩, ⟨o5, o5'⟩, ⟨o6, o6'⟩, o7, o7'⟩ := hO.1
  rw [yN2_7] at hN
  by_cases g : ys_kd T n p = 3 ∧ ys_vl T n p < 4
  · rw [if_pos g] at hN
    cases hN
    have k := h7 rfl
    have k1 := yPs_k (k := 13) (v := d.1 13 + 1) (u := (yW d (100 + x.toNat % 64) (ys_vl T n p)).2.1) (by decide) (yPs_W (i := 100 + x.toNat % 64) (v := ys_vl T n p) h0 (by omega))
    exact yIp_0 (yPs_b (d := (yU (yW d (100 + x.toNat % 64) (ys_vl T n p)).1 13 (d.1 13 + 1), (yW d (100 + x.toNat % 64) (ys_vl T n p)).2)) (by omega) k1) (by decide)
  · rw [if_neg g] at hN
    cases hN
theorem yIp_m8 {T : Nat → Int} {n p : Nat} {lv : List Bool} {x a : Int} {y : Int32} {d : yLD} {s' : yL} (hv : yIv (8, lv, x, a, y, d, p)) (hw : yCl d) (h : yIp (8, lv, x, a, y, d, p)) (hN : yN2 T n (8, lv, x, a, y, d, p) = .inl s') : yIp s' := by
  obtain ⟨h0, h6, h7⟩ := h
  dsimp only at h0 h6 h7
  have hO : yOK d := hv.1
  obtain ⟨⟨o4, o4'⟩, ⟨o5, o5'⟩, ⟨o6, o6'⟩, o7, o7'⟩ := hO.1
  rw [yN2_8] at hN
  obtain ⟨rfl, b1, b2⟩ := yNu_i hN
  exact yIp_0 h0 (by decide)
theorem yIp_m9 {T : Nat → Int} {n p : Nat} {lv : List Bool} {x a : Int} {y : Int32} {d : yLD} {s' : yL} (hv : yIv (9, lv, x, a, y, d, p)) (hw : yCl d) (h : yIp (9, lv, x, a, y, d, p)) (hN : yN2 T n (9, lv, x, a, y, d, p) = .inl s') : yIp s' := by
  obtain ⟨h0, h6, h7⟩ := h
  dsimp only at h0 h6 h7
  have hO : yOK d := hv.1
  obtain ⟨⟨o4, o4'⟩, ⟨o5, o5'⟩, ⟨o6, o6'⟩, o7, o7'⟩ := hO.1
  rw [yN2_9] at hN
  obtain ⟨rfl, b1, b2⟩ := yNu_i hN
  exact yIp_0 h0 (by decide)
theorem yIp_m10 {T : Nat → Int} {n p : Nat} {lv : List Bool} {x a : Int} {y : Int32} {d : yLD} {s' : yL} (hv : yIv (10, lv, x, a, y, d, p)) (hw : yCl d) (h : yIp (10, lv, x, a, y, d, p)) (hN : yN2 T n (10, lv, x, a, y, d, p) = .inl s') : yIp s' := by
  obtain ⟨h0, h6, h7⟩ := h
  dsimp only at h0 h6 h7
  have hO : yOK d := hv.1
  obtain ⟨⟨o4, o4'⟩, ⟨o5, o5'⟩, ⟨o6, o6'⟩, o7, o7'⟩ := hO.1
  rw [yN2_10] at hN
  obtain ⟨rfl, b1, b2⟩ := yNu_i hN
  have h8 := hv.2.1 (Or.inr (Or.inr (Or.inl rfl)))
  have h8 : d.1 4 < 8 := h8
  exact yIp_0 (yPs_W (yPs_W (yPs_W (yPs_W h0 (by omega)) (by omega)) (by omega)) (by omega)) (by decide)
theorem yIp_m11 {T : Nat → Int} {n p : Nat} {lv : List Bool} {x a : Int} {y : Int32} {d : yLD} {s' : yL} (hv : yIv (11, lv, x, a, y, d, p)) (hw : yCl d) (h : yIp (11, lv, x, a, y, d, p)) (hN : yN2 T n (11, lv, x, a, y, d, p) = .inl s') : yIp s' := by
  obtain ⟨h0, h6, h7⟩ := h
  dsimp only at h0 h6 h7
  have hO : yOK d := hv.1
  obtain ⟨⟨o4, o4'⟩, ⟨o5, o5'⟩, ⟨o6, o6'⟩, o7, o7'⟩ := hO.1
  rw [yN2_11] at hN
  by_cases g : ys_kd T n p = 3 ∧ ys_vl T n p < 4
  · rw [if_pos g] at hN
    by_cases g2 : a = 8
    · rw [if_pos g2] at hN
      cases hN
    · rw [if_neg g2] at hN
      cases hN
      exact yIp_0 h0 (by decide)
  · rw [if_neg g] at hN
    cases hN
    exact yIp_0 (yPs_k (by decide) h0) (by decide)
theorem yIp_m12 {T : Nat → Int} {n p : Nat} {lv : List Bool} {x a : Int} {y : Int32} {d : yLD} {s' : yL} (hv : yIv (12, lv, x, a, y, d, p)) (hw : yCl d) (h : yIp (12, lv, x, a, y, d, p)) (hN : yN2 T n (12, lv, x, a, y, d, p) = .inl s') : yIp s' := by
  obtain ⟨h0, h6, h7⟩ := h
  dsimp only at h0 h6 h7
  have hO : yOK d := hv.1
  obtain ⟨⟨o4, o4'⟩, ⟨o5, o5'⟩, ⟨o6, o6'⟩, o7, o7'⟩ := hO.1
  rw [yN2_12] at hN
  obtain ⟨rfl, b1, b2⟩ := yNu_i hN
  have a8 := hv.2.2.2.1 rfl
  have a8 : a < 8 := a8
  have h8 := hv.2.1 (Or.inr (Or.inr (Or.inr (Or.inr rfl))))
  have h8 : d.1 4 < 8 := h8
  exact yIp_0 (yPs_W (yPs_W (yPs_W h0 (by omega)) (Or.inr (Or.inr ⟨b1, b2⟩))) (by omega)) (by decide)
theorem yIp_m13 {T : Nat → Int} {n p : Nat} {lv : List Bool} {x a : Int} {y : Int32} {d : yLD} {s' : yL} (hv : yIv (13, lv, x, a, y, d, p)) (hw : yCl d) (h : yIp (13, lv, x, a, y, d, p)) (hN : yN2 T n (13, lv, x, a, y, d, p) = .inl s') : yIp s' := by
  obtain ⟨h0, h6, h7⟩ := h
  dsimp only at h0 h6 h7
  have hO : yOK d := hv.1
  obtain ⟨⟨o4, o4'⟩, ⟨o5, o5'⟩, ⟨o6, o6'⟩, o7, o7'⟩ := hO.1
  rw [yN2_13] at hN
  have b5 := hv.2.2.2.2.1 rfl
  obtain ⟨b5, bx, -⟩ := b5
  have b5 : d.1 5 < 5 := b5
  have bx : 0 ≤ x := bx
  by_cases g : x < 3
  · rw [if_pos g] at hN
    obtain ⟨rfl, b1, b2⟩ := yNu_i hN
    exact yIp_0 (yPs_W h0 (by omega)) (by decide)
  · rw [if_neg g] at hN
    obtain ⟨rfl, b1, b2⟩ := yNu_i hN
    have k := yPs_W (i := 500 + (4 * (d.1 5).toNat + 3)) (v := ys_vl T n p) h0 (by omega)
    exact yIp_0 (yPs_k (u := (yW d (500 + (4 * (d.1 5).toNat + 3)) (ys_vl T n p)).2.1) (by decide) k) (by decide)
theorem yIp_m15 {T : Nat → Int} {n p : Nat} {lv : List Bool} {x a : Int} {y : Int32} {d : yLD} {s' : yL} (hv : yIv (15, lv, x, a, y, d, p)) (hw : yCl d) (h : yIp (15, lv, x, a, y, d, p)) (hN : yN2 T n (15, lv, x, a, y, d, p) = .inl s') : yIp s' := by
  obtain ⟨h0, h6, h7⟩ := h
  dsimp only at h0 h6 h7
  have hO : yOK d := hv.1
  obtain ⟨⟨o4, o4'⟩, ⟨o5, o5'⟩, ⟨o6, o6'⟩, o7, o7'⟩ := hO.1
  rw [yN2_15] at hN
  obtain ⟨rfl, b1, b2⟩ := yNu_i hN
  exact yIp_0 h0 (by decide)
theorem yIp_m16 {T : Nat → Int} {n p : Nat} {lv : List Bool} {x a : Int} {y : Int32} {d : yLD} {s' : yL} (hv : yIv (16, lv, x, a, y, d, p)) (hw : yCl d) (h : yIp (16, lv, x, a, y, d, p)) (hN : yN2 T n (16, lv, x, a, y, d, p) = .inl s') : yIp s' := by
  obtain ⟨h0, h6, h7⟩ := h
  dsimp only at h0 h6 h7
  have hO : yOK d := hv.1
  obtain ⟨⟨o4, o4'⟩, ⟨o5, o5'⟩, ⟨o6, o6'⟩, o7, o7'⟩ := hO.1
  rw [yN2_16] at hN
  obtain ⟨rfl, b1, b2⟩ := yNu_i hN
  exact yIp_0 h0 (by decide)
theorem yIp_m17 {T : Nat → Int} {n p : Nat} {lv : List Bool} {x a : Int} {y : Int32} {d : yLD} {s' : yL} (hv : yIv (17, lv, x, a, y, d, p)) (hw : yCl d) (h : yIp (17, lv, x, a, y, d, p)) (hN : yN2 T n (17, lv, x, a, y, d, p) = .inl s') : yIp s' := by
  obtain ⟨h0, h6, h7⟩ := h
  dsimp only at h0 h6 h7
  have hO : yOK d := hv.1
  obtain ⟨⟨o4, o4'⟩, ⟨o5, o5'⟩, ⟨o6, o6'⟩, o7, o7'⟩ := hO.1
  rw [yN2_17] at hN
  obtain ⟨rfl, b1, b2⟩ := yNu_i hN
  have k := yPs_k (k := 8) (v := 1) (u := d.2.1) (by decide) h0
  have k := yPs_W (i := 20) (v := x) k (Or.inl (by decide))
  exact yIp_0 (yPs_W (i := 21) (v := ys_vl T n p) k (Or.inl (by decide))) (by decide)
theorem yIp_m18 {T : Nat → Int} {n p : Nat} {lv : List Bool} {x a : Int} {y : Int32} {d : yLD} {s' : yL} (hv : yIv (18, lv, x, a, y, d, p)) (hw : yCl d) (h : yIp (18, lv, x, a, y, d, p)) (hN : yN2 T n (18, lv, x, a, y, d, p) = .inl s') : yIp s' := by
  obtain ⟨h0, h6, h7⟩ := h
  dsimp only at h0 h6 h7
  have hO : yOK d := hv.1
  obtain ⟨⟨o4, o4'⟩, ⟨o5, o5'⟩, ⟨o6, o6'⟩, o7, o7'⟩ := hO.1
  rw [yN2_18] at hN
  obtain ⟨rfl, b1, b2⟩ := yNu_i hN
  have k := yPs_k (k := 9) (v := 1) (u := d.2.1) (by decide) h0
  exact yIp_0 (yPs_W (i := 22) (v := ys_vl T n p) k (Or.inl (by decide))) (by decide)
theorem yIp_m19 {T : Nat → Int} {n p : Nat} {lv : List Bool} {x a : Int} {y : Int32} {d : yLD} {s' : yL} (hv : yIv (19, lv, x, a, y, d, p)) (hw : yCl d) (h : yIp (19, lv, x, a, y, d, p)) (hN : yN2 T n (19, lv, x, a, y, d, p) = .inl s') : yIp s' := by
  obtain ⟨h0, h6, h7⟩ := h
  dsimp only at h0 h6 h7
  have hO : yOK d := hv.1
  obtain ⟨⟨o4, o4'⟩, ⟨o5, o5'⟩, ⟨o6, o6'⟩, o7, o7'⟩ := hO.1
  rw [yN2_19] at hN
  obtain ⟨rfl, b1, b2⟩ := yNu_i hN
  exact yIp_0 h0 (by decide)
theorem yIp_m20 {T : Nat → Int} {n p : Nat} {lv : List Bool} {x a : Int} {y : Int32} {d : yLD} {s' : yL} (hv : yIv (20, lv, x, a, y, d, p)) (hw : yCl d) (h : yIp (20, lv, x, a, y, d, p)) (hN : yN2 T n (20, lv, x, a, y, d, p) = .inl s') : yIp s' := by
  obtain ⟨h0, h6, h7⟩ := h
  dsimp only at h0 h6 h7
  have hO : yOK d := hv.1
  obtain ⟨⟨o4, o4'⟩, ⟨o5, o5'⟩, ⟨o6, o6'⟩, o7, o7'⟩ := hO.1
  rw [yN2_20] at hN
  obtain ⟨rfl, b1, b2⟩ := yNu_i hN
  exact yIp_0 h0 (by decide)
theorem yIp_m21 {T : Nat → Int} {n p : Nat} {lv : List Bool} {x a : Int} {y : Int32} {d : yLD} {s' : yL} (hv : yIv (21, lv, x, a, y, d, p)) (hw : yCl d) (h : yIp (21, lv, x, a, y, d, p)) (hN : yN2 T n (21, lv, x, a, y, d, p) = .inl s') : yIp s' := by
  obtain ⟨h0, h6, h7⟩ := h
  dsimp only at h0 h6 h7
  have hO : yOK d := hv.1
  obtain ⟨⟨o4, o4'⟩, ⟨o5, o5'⟩, ⟨o6, o6'⟩, o7, o7'⟩ := hO.1
  rw [yN2_21] at hN
  obtain ⟨rfl, b1, b2⟩ := yNu_i hN
  exact yIp_0 h0 (by decide)
theorem yIp_m22 {T : Nat → Int} {n p : Nat} {lv : List Bool} {x a : Int} {y : Int32} {d : yLD} {s' : yL} (hv : yIv (22, lv, x, a, y, d, p)) (hw : yCl d) (h : yIp (22, lv, x, a, y, d, p)) (hN : yN2 T n (22, lv, x, a, y, d, p) = .inl s') : yIp s' := by
  obtain ⟨h0, h6, h7⟩ := h
  dsimp only at h0 h6 h7
  have hO : yOK d := hv.1
  obtain ⟨⟨o4, o4'⟩, ⟨o5, o5'⟩, ⟨o6, o6'⟩, o7, o7'⟩ := hO.1
  rw [yN2_22] at hN
  have b6 := hv.2.2.2.2.2.1 (Or.inr (Or.inr (Or.inr rfl)))
  have b6 : d.1 6 < 4 := b6
  by_cases g : ys_kd T n p = 2
  · rw [if_pos g] at hN
    by_cases g1 : 9999 < ys_vl T n p
    · rw [if_pos g1] at hN
      cases hN
    rw [if_neg g1] at hN
    by_cases g2 : d.1 4 ≤ ys_vl T n p
    · rw [if_pos g2] at hN
      cases hN
    rw [if_neg g2] at hN
    by_cases g3 : y >>> (Int32.ofInt (ys_vl T n p) &&& 31) &&& Int32.ofInt 1 ≠ Int32.ofInt 0
    · rw [if_pos g3] at hN
      cases hN
    rw [if_neg g3] at hN
    cases hN
    exact yIp_0 h0 (by decide)
  · rw [if_neg g] at hN
    cases hN
    exact yIp_0 (yPs_W (yPs_W (yPs_W (yPs_k (k := 6) (v := d.1 6 + 1) (u := d.2.1) (by decide) h0) (by omega)) (by omega)) (by omega)) (by decide)
theorem yIp_m40 {T : Nat → Int} {n p : Nat} {lv : List Bool} {x a : Int} {y : Int32} {d : yLD} {s' : yL} (hv : yIv (40, lv, x, a, y, d, p)) (hw : yCl d) (h : yIp (40, lv, x, a, y, d, p)) (hN : yN2 T n (40, lv, x, a, y, d, p) = .inl s') : yIp s' := by
  obtain ⟨h0, h6, h7⟩ := h
  dsimp only at h0 h6 h7
  have hO : yOK d := hv.1
  obtain ⟨⟨o4, o4'⟩, ⟨o5, o5'⟩, ⟨o6, o6'⟩, o7, o7'⟩ := hO.1
  rw [yN2_40] at hN
  by_cases g : ys_kd T n p = 3 ∧ ys_vl T n p = 11
  · rw [if_pos g] at hN
    cases hN
    exact yIp_0 h0 (by decide)
  · rw [if_neg g] at hN
    cases hN
theorem yIp_m41 {T : Nat → Int} {n p : Nat} {lv : List Bool} {x a : Int} {y : Int32} {d : yLD} {s' : yL} (hv : yIv (41, lv, x, a, y, d, p)) (hw : yCl d) (h : yIp (41, lv, x, a, y, d, p)) (hN : yN2 T n (41, lv, x, a, y, d, p) = .inl s') : yIp s' := by
  obtain ⟨h0, h6, h7⟩ := h
  dsimp only at h0 h6 h7
  have hO : yOK d := hv.1
  obtain ⟨⟨o4, o4'⟩, ⟨o5, o5'⟩, ⟨o6, o6'⟩, o7, o7'⟩ := hO.1
  rw [yN2_41] at hN
  have b7 := hv.2.2.2.2.2.2 (Or.inr (Or.inr rfl))
  have b7 : d.1 7 < 8 := b7
  by_cases g : ys_kd T n p = 3 ∧ ys_vl T n p < 4
  · rw [if_pos g] at hN
    cases hN
    exact yIp_0 (yPs_W (yPs_k (k := 7) (v := d.1 7 + 1) (u := d.2.1) (by decide) h0) (by omega)) (by decide)
  · rw [if_neg g] at hN
    cases hN
theorem yIp_s {T : Nat → Int} {n : Nat} {s s' : yL} (hv : yIv s) (hw : yIw s) (h : yIp s) (hN : yN2 T n s = .inl s') : yIp s' := by
  obtain ⟨m, lv, x, a, y, d, p⟩ := s
  have hw9 : yCl d := hw.1
  by_cases hm : 100 ≤ m
  · have h0 : yPs d := h.1
    unfold yN2 at hN
    rw [if_pos hm] at hN
    split at hN
    · cases hN
      exact yIp_0 h0 (by omega)
    · split at hN
      · cases hN
        exact yIp_0 h0 (by omega)
      · cases hN
  by_cases k0 : m = 0
  · subst k0
    exact yIp_m0 hv hw9 h hN
  by_cases k1 : m = 1
  · subst k1
    exact yIp_m1 hv hw9 h hN
  by_cases k2 : m = 2
  · subst k2
    exact yIp_m2 hv hw9 h hN
  by_cases k3 : m = 3
  · subst k3
    exact yIp_m3 hv hw9 h hN
  by_cases k4 : m = 4
  · subst k4
    exact yIp_m4 hv hw9 h hN
  by_cases k5 : m = 5
  · subst k5
    exact yIp_m5 hv hw9 h hN
  by_cases k6 : m = 6
  · subst k6
    exact yIp_m6 hv hw9 h hN
  by_cases k7 : m = 7
  · subst k7
    exact yIp_m7 hv hw9 h hN
  by_cases k8 : m = 8
  · subst k8
    exact yIp_m8 hv hw9 h hN
  by_cases k9 : m = 9
  · subst k9
    exact yIp_m9 hv hw9 h hN
  by_cases k10 : m = 10
  · subst k10
    exact yIp_m10 hv hw9 h hN
  by_cases k11 : m = 11
  · subst k11
    exact yIp_m11 hv hw9 h hN
  by_cases k12 : m = 12
  · subst k12
    exact yIp_m12 hv hw9 h hN
  by_cases k13 : m = 13
  · subst k13
    exact yIp_m13 hv hw9 h hN
  by_cases k15 : m = 15
  · subst k15
    exact yIp_m15 hv hw9 h hN
  by_cases k16 : m = 16
  · subst k16
    exact yIp_m16 hv hw9 h hN
  by_cases k17 : m = 17
  · subst k17
    exact yIp_m17 hv hw9 h hN
  by_cases k18 : m = 18
  · subst k18
    exact yIp_m18 hv hw9 h hN
  by_cases k19 : m = 19
  · subst k19
    exact yIp_m19 hv hw9 h hN
  by_cases k20 : m = 20
  · subst k20
    exact yIp_m20 hv hw9 h hN
  by_cases k21 : m = 21
  · subst k21
    exact yIp_m21 hv hw9 h hN
  by_cases k22 : m = 22
  · subst k22
    exact yIp_m22 hv hw9 h hN
  by_cases k40 : m = 40
  · subst k40
    exact yIp_m40 hv hw9 h hN
  by_cases k41 : m = 41
  · subst k41
    exact yIp_m41 hv hw9 h hN
  have e : yN2 T n (m, lv, x, a, y, d, p) = (if ys_kd T n p = 4 ∧ ys_vl T n p = 59 then .inl (0, [], 0, 0, 0, (yU d.1 0 0, d.2), ys_nx T n p) else .inr (1, p)) := by
    unfold yN2
    rw [if_neg hm, if_neg k0, if_neg k1, if_neg k2, if_neg k3, if_neg k4, if_neg k5, if_neg k6, if_neg k7, if_neg k8, if_neg k9, if_neg k10, if_neg k11, if_neg k12, if_neg k13, if_neg k15, if_neg k16, if_neg k17, if_neg k18, if_neg k19, if_neg k20, if_neg k21, if_neg k22, if_neg k40, if_neg k41]
  rw [e] at hN
  by_cases g : ys_kd T n p = 4 ∧ ys_vl T n p = 59
  · rw [if_pos g] at hN
    cases hN
    exact yIp_0 (yPs_k (by decide) h.1) (by decide)
  · rw [if_neg g] at hN
    cases hN
theorem yIp_it {T : Nat → Int} {n : Nat} {t : yL} : ∀ (f : Nat) (s : yL), yIv s → yIw s → yIp s → yIt T n f s = some t → yIp t
  | 0, s, _, _, h, e => by
    have e : s = t := Option.some.inj e
    rw [← e]
    exact h
  | f + 1, s, hv, hw, h, e => by
    have e : (match yN2 T n s with
      | .inr _ => none
      | .inl s' => yIt T n f s') = some t := e
    cases hN : yN2 T n s with
    | inr r =>
      rw [hN] at e
      cases e
    | inl s' =>
      rw [hN] at e
      exact yIp_it f s' (yIv_s hv hN) (yIw_s hv hw hN) (yIp_s hv hw h hN) e
/-- the steps that a text told by its end are 1 to 9 -/
theorem yPs_end {T : Nat → Int} {n q : Nat} {d : yLD} (h : yR2 T n y00 (0, [], 0, 0, 0, d, q)) : yPs d := by
  obtain ⟨f, hf⟩ := h (.inr (0, [], 0, 0, 0, d, q)) ⟨0, rfl⟩
  exact (yIp_it f y00 (yIv_0 y00_ok (by omega)) (yIw_0 ⟨by decide, fun s hs => by
    have hs : (s : Int) < 0 := hs
    omega, fun q hq => by
    have hq : (q : Int) < 0 := hq
    omega⟩ (Or.inr (fun _ => by decide)) (by decide)) (yIp_0 (fun i i1 i2 i3 => by
    have := y00d_i i3
    omega) (by decide)) hf).1
