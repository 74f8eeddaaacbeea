section
/-! ===== what the machine tells, it tells in full ===== -/
def yFl (d : yLD) (i : Nat) : Prop := d.2.2 (1000 + i) = true
def yOs (d : yLD) (s : Nat) (a : Int) : Prop := yFl d (200 + s) ∧ yFl d (210 + s) ∧ yFl d (220 + s) ∧ yFl d (230 + s) ∧ d.1 (220 + s) = a ∧ 0 ≤ a ∧ a ≤ 8 ∧ ∀ j : Nat, (j : Int) < a → yFl d (300 + (8 * s + j)) ∧ yFl d (400 + (8 * s + j))
def yOK (d : yLD) : Prop := ((0 ≤ d.1 4 ∧ d.1 4 ≤ 8) ∧ (0 ≤ d.1 5 ∧ d.1 5 ≤ 5) ∧ (0 ≤ d.1 6 ∧ d.1 6 ≤ 4) ∧ 0 ≤ d.1 7 ∧ d.1 7 ≤ 8) ∧ (∀ i, 20 ≤ i → i < 23 → yFl d i) ∧ (∀ c, c < 64 → yFl d (100 + c)) ∧ (∀ s : Nat, (s : Int) < d.1 4 → ∃ a, yOs d s a) ∧ (∀ h w : Nat, (h : Int) < d.1 5 → w < 4 → yFl d (500 + (4 * h + w))) ∧ (∀ p : Nat, (p : Int) < d.1 6 → yFl d (600 + p) ∧ yFl d (610 + p) ∧ yFl d (620 + p)) ∧ ∀ r : Nat, (r : Int) < d.1 7 → yFl d (700 + r)
theorem yFl_W {d : yLD} {i j : Nat} {v : Int} (h : yFl d j) : yFl (yW d i v) j := by
  show (if ((1000 + j : Nat) : Int) = 1000 + (i : Int) then true else d.2.2 (1000 + j)) = true
  split
  · rfl
  · exact h
theorem yFl_e {d : yLD} {i : Nat} {v : Int} : yFl (yW d i v) i := yW_fe
theorem yOs_W {d : yLD} {s i : Nat} {a v : Int} (h : yOs d s a) (hi : i ≠ 220 + s) : yOs (yW d i v) s a := by
  obtain ⟨h1, h2, h3, h4, h5, h6, h7, h8⟩ := h
  exact ⟨yFl_W h1, yFl_W h2, yFl_W h3, yFl_W h4, (yW_n (by omega)).trans h5, h6, h7, fun j hj => ⟨yFl_W (h8 j hj).1, yFl_W (h8 j hj).2⟩⟩
theorem yOK_W {d : yLD} {i : Nat} {v : Int} (h : yOK d) (h20 : 20 ≤ i) (hi : ∀ s : Nat, (s : Int) < d.1 4 → i ≠ 220 + s) : yOK (yW d i v) := by
  have k : ∀ j, j < 20 → (yW d i v).1 j = d.1 j := fun j hj => yW_n (by omega)
  obtain ⟨h1, h2, h3, h4, h5, h6, h7⟩ := h
  refine ⟨by rw [k 4 (by decide), k 5 (by decide), k 6 (by decide), k 7 (by decide)]; exact h1, fun j j1 j2 => yFl_W (h2 j j1 j2), fun c hc => yFl_W (h3 c hc), fun s hs => ?_, fun g w hg hw => ?_, fun q hq => ?_, fun r hr => ?_⟩
  · rw [k 4 (by decide)] at hs
    obtain ⟨a, ha⟩ := h4 s hs
    exact ⟨a, yOs_W ha (hi s hs)⟩
  · rw [k 5 (by decide)] at hg
    exact yFl_W (h5 g w hg hw)
  · rw [k 6 (by decide)] at hq
    exact ⟨yFl_W (h6 q hq).1, yFl_W (h6 q hq).2.1, yFl_W (h6 q hq).2.2⟩
  · rw [k 7 (by decide)] at hr
    exact yFl_W (h7 r hr)
/-- a count that no datum hangs on -/
theorem yOK_k {d : yLD} {k : Nat} {v : Int} {u : Int64} (h : yOK d) (hk : k < 20) (h4 : k ≠ 4 ∧ k ≠ 5 ∧ k ≠ 6 ∧ k ≠ 7) : yOK (yU d.1 k v, u, d.2.2) := by
  have e : ∀ j, j ≠ k → yU d.1 k v j = d.1 j := fun j hj => if_neg hj
  obtain ⟨h1, h2, h3, h4', h5, h6, h7⟩ := h
  have e4 := e 4 (by omega)
  have e5 := e 5 (by omega)
  have e6 := e 6 (by omega)
  have e7 := e 7 (by omega)
  refine ⟨?_, h2, h3, fun s hs => ?_, fun g w hg hw => h5 g w (by rw [← e5]; exact hg) hw, fun q hq => h6 q (by rw [← e6]; exact hq), fun r hr => h7 r (by rw [← e7]; exact hr)⟩
  · show (0 ≤ yU d.1 k v 4 ∧ yU d.1 k v 4 ≤ 8) ∧ (0 ≤ yU d.1 k v 5 ∧ yU d.1 k v 5 ≤ 5) ∧ (0 ≤ yU d.1 k v 6 ∧ yU d.1 k v 6 ≤ 4) ∧ 0 ≤ yU d.1 k v 7 ∧ yU d.1 k v 7 ≤ 8
    rw [e4, e5, e6, e7]
    exact h1
  · obtain ⟨a, b1, b2, b3, b4, b5, b6⟩ := h4' s (by rw [← e4]; exact hs)
    exact ⟨a, b1, b2, b3, b4, (e (220 + s) (by omega)).trans b5, b6⟩
theorem yOK_b {d : yLD} {x : Int} {u : Int64} (h : yOK d) : yOK (d.1, u, yUb d.2.2 x) := by
  have f : ∀ {i}, yFl d i → yFl (d.1, u, yUb d.2.2 x) i := fun {i} hi => by
    show (if ((1000 + i : Nat) : Int) = x then true else d.2.2 (1000 + i)) = true
    split
    · rfl
    · exact hi
  obtain ⟨h1, h2, h3, h4, h5, h6, h7⟩ := h
  refine ⟨h1, fun j j1 j2 => f (h2 j j1 j2), fun c hc => f (h3 c hc), fun s hs => ?_, fun g w hg hw => f (h5 g w hg hw), fun q hq => ⟨f (h6 q hq).1, f (h6 q hq).2.1, f (h6 q hq).2.2⟩, fun r hr => f (h7 r hr)⟩
  obtain ⟨a, b1, b2, b3, b4, b5, b6, b7, b8⟩ := h4 s hs
  exact ⟨a, f b1, f b2, f b3, f b4, b5, b6, b7, fun j hj => ⟨f (b8 j hj).1, f (b8 j hj).2⟩⟩
theorem yU_e {f : Nat → Int} {k : Nat} {v : Int} : yU f k v k = v := if_pos rfl
theorem yU_n {f : Nat → Int} {j k : Nat} {v : Int} (h : j ≠ k) : yU f k v j = f j := if_neg h
/-- one more slate, hand, pilot, rule -/
theorem yOK_4 {d : yLD} {a : Int} (h : yOK d) (h8 : d.1 4 < 8) (hs : yOs d (d.1 4).toNat a) : yOK (yU d.1 4 (d.1 4 + 1), d.2) := by
  obtain ⟨h1, h2, h3, h4, h5, h6, h7⟩ := h
  refine ⟨⟨⟨by show 0 ≤ d.1 4 + 1; omega, by show d.1 4 + 1 ≤ 8; omega⟩, h1.2.1, h1.2.2.1, h1.2.2.2⟩, h2, h3, fun s hs' => ?_, h5, h6, h7⟩
  have hs' : (s : Int) < d.1 4 + 1 := hs'
  have g : ∀ {s : Nat} {a : Int}, yOs d s a → yOs (yU d.1 4 (d.1 4 + 1), d.2) s a := fun ⟨b1, b2, b3, b4, b5, b6⟩ => ⟨b1, b2, b3, b4, (yU_n (by omega)).trans b5, b6⟩
  by_cases h9 : (s : Int) < d.1 4
  · obtain ⟨b, hb⟩ := h4 s h9
    exact ⟨b, g hb⟩
  · rw [show s = (d.1 4).toNat by omega]
    exact ⟨a, g hs⟩
theorem yOs_5 {d : yLD} {s k : Nat} {a v : Int} (hk : k < 20) (h : yOs d s a) : yOs (yU d.1 k v, d.2) s a := by
  obtain ⟨b1, b2, b3, b4, b5, b6⟩ := h
  exact ⟨b1, b2, b3, b4, (yU_n (by omega)).trans b5, b6⟩
theorem yOK_5 {d : yLD} (h : yOK d) (h8 : d.1 5 < 5) (hs : ∀ w : Nat, w < 4 → yFl d (500 + (4 * (d.1 5).toNat + w))) : yOK (yU d.1 5 (d.1 5 + 1), d.2) := by
  obtain ⟨h1, h2, h3, h4, h5, h6, h7⟩ := h
  refine ⟨⟨h1.1, ⟨by show 0 ≤ d.1 5 + 1; omega, by show d.1 5 + 1 ≤ 5; omega⟩, h1.2.2.1, h1.2.2.2⟩, h2, h3, fun s hs' => ?_, fun g w hg hw => ?_, h6, h7⟩
  · obtain ⟨b, hb⟩ := h4 s hs'
    exact ⟨b, yOs_5 (by decide) hb⟩
  · have hg : (g : Int) < d.1 5 + 1 := hg
    by_cases h9 : (g : Int) < d.1 5
    · exact h5 g w h9 hw
    · rw [show g = (d.1 5).toNat by omega]
      exact hs w hw
theorem yOK_6 {d : yLD} (h : yOK d) (h8 : d.1 6 < 4) (hs : yFl d (600 + (d.1 6).toNat) ∧ yFl d (610 + (d.1 6).toNat) ∧ yFl d (620 + (d.1 6).toNat)) : yOK (yU d.1 6 (d.1 6 + 1), d.2) := by
  obtain ⟨h1, h2, h3, h4, h5, h6, h7⟩ := h
  refine ⟨⟨h1.1, h1.2.1, ⟨by show 0 ≤ d.1 6 + 1; omega, by show d.1 6 + 1 ≤ 4; omega⟩, h1.2.2.2⟩, h2, h3, fun s hs' => ?_, h5, fun q hq => ?_, h7⟩
  · obtain ⟨b, hb⟩ := h4 s hs'
    exact ⟨b, yOs_5 (by decide) hb⟩
  · have hq : (q : Int) < d.1 6 + 1 := hq
    by_cases h9 : (q : Int) < d.1 6
    · exact h6 q h9
    · rw [show q = (d.1 6).toNat by omega]
      exact hs
theorem yOK_7 {d : yLD} (h : yOK d) (h8 : d.1 7 < 8) (hs : yFl d (700 + (d.1 7).toNat)) : yOK (yU d.1 7 (d.1 7 + 1), d.2) := by
  obtain ⟨h1, h2, h3, h4, h5, h6, h7⟩ := h
  refine ⟨⟨h1.1, h1.2.1, h1.2.2.1, ⟨by show 0 ≤ d.1 7 + 1; omega, by show d.1 7 + 1 ≤ 8; omega⟩⟩, h2, h3, fun s hs' => ?_, h5, h6, fun r hr => ?_⟩
  · obtain ⟨b, hb⟩ := h4 s hs'
    exact ⟨b, yOs_5 (by decide) hb⟩
  · have hr : (r : Int) < d.1 7 + 1 := hr
    by_cases h9 : (r : Int) < d.1 7
    · exact h7 r h9
    · rw [show r = (d.1 7).toNat by omega]
      exact hs
/-- updates in another order are the same -/
theorem yU_c {f : Nat → Int} {i k : Nat} {v w : Int} (h : i ≠ k) : yU (yU f k w) i v = yU (yU f i v) k w := by
  funext j
  unfold yU
  by_cases h1 : j = i
  · rw [if_pos h1, if_neg (by omega), if_pos h1]
  · rw [if_neg h1]
    by_cases h2 : j = k
    · rw [if_pos h2, if_pos h2]
    · rw [if_neg h2, if_neg h2, if_neg h1]
theorem yW_c {d : yLD} {i k : Nat} {v w : Int} (h : i ≠ k) : yW (yU d.1 k w, d.2) i v = (yU (yW d i v).1 k w, (yW d i v).2) := by
  show (yU (yU d.1 k w) i v, _, _) = (yU (yU d.1 i v) k w, _, _)
  rw [yU_c h]
def yIv (s : yL) : Prop := yOK s.2.2.2.2.2.1 ∧ ((s.1 = 8 ∨ s.1 = 9 ∨ s.1 = 10 ∨ s.1 = 11 ∨ s.1 = 12) → s.2.2.2.2.2.1.1 4 < 8) ∧ ((s.1 = 11 ∨ s.1 = 12) → yOs s.2.2.2.2.2.1 (s.2.2.2.2.2.1.1 4).toNat s.2.2.2.1) ∧ (s.1 = 12 → s.2.2.2.1 < 8) ∧ (s.1 = 13 → s.2.2.2.2.2.1.1 5 < 5 ∧ 0 ≤ s.2.2.1 ∧ s.2.2.1 ≤ 3 ∧ ∀ w : Nat, (w : Int) < s.2.2.1 → yFl s.2.2.2.2.2.1 (500 + (4 * (s.2.2.2.2.2.1.1 5).toNat + w))) ∧ ((s.1 = 19 ∨ s.1 = 20 ∨ s.1 = 21 ∨ s.1 = 22) → s.2.2.2.2.2.1.1 6 < 4) ∧ ((100 ≤ s.1 ∨ s.1 = 40 ∨ s.1 = 41) → s.2.2.2.2.2.1.1 7 < 8)
/-- a mode that asks nothing -/
theorem yIv_0 {m : Nat} {lv : List Bool} {x a : Int} {y : Int32} {d : yLD} {p : Nat} (h : yOK d) (hm : m < 8 ∨ m = 15 ∨ m = 16 ∨ m = 17 ∨ m = 18 ∨ m = 50) : yIv (m, lv, x, a, y, d, p) := ⟨h, fun h9 => by dsimp only at h9; omega, fun h9 => by dsimp only at h9; omega, fun h9 => by dsimp only at h9; omega, fun h9 => by dsimp only at h9; omega, fun h9 => by dsimp only at h9; omega, fun h9 => by dsimp only at h9; omega⟩
theorem yIv_8 {m : Nat} {lv : List Bool} {x a : Int} {y : Int32} {d : yLD} {p : Nat} (h : yOK d) (h8 : d.1 4 < 8) (hm : m = 8 ∨ m = 9 ∨ m = 10) : yIv (m, lv, x, a, y, d, p) := ⟨h, fun _ => h8, fun h9 => by dsimp only at h9; omega, fun h9 => by dsimp only at h9; omega, fun h9 => by dsimp only at h9; omega, fun h9 => by dsimp only at h9; omega, fun h9 => by dsimp only at h9; omega⟩
theorem yIv_11 {m : Nat} {lv : List Bool} {x a : Int} {y : Int32} {d : yLD} {p : Nat} (h : yOK d) (h8 : d.1 4 < 8) (hs : yOs d (d.1 4).toNat a) (hm : m = 11 ∨ (m = 12 ∧ a < 8)) : yIv (m, lv, x, a, y, d, p) := ⟨h, fun _ => h8, fun _ => hs, fun h9 => by dsimp only at h9 ⊢; omega, fun h9 => by dsimp only at h9; omega, fun h9 => by dsimp only at h9; omega, fun h9 => by dsimp only at h9; omega⟩
theorem yIv_13 {lv : List Bool} {x a : Int} {y : Int32} {d : yLD} {p : Nat} (h : yOK d) (h8 : d.1 5 < 5) (hx : 0 ≤ x ∧ x ≤ 3) (hs : ∀ w : Nat, (w : Int) < x → yFl d (500 + (4 * (d.1 5).toNat + w))) : yIv (13, lv, x, a, y, d, p) := ⟨h, fun h9 => by dsimp only at h9; omega, fun h9 => by dsimp only at h9; omega, fun h9 => by dsimp only at h9; omega, fun _ => ⟨h8, hx.1, hx.2, hs⟩, fun h9 => by dsimp only at h9; omega, fun h9 => by dsimp only at h9; omega⟩
theorem yIv_19 {m : Nat} {lv : List Bool} {x a : Int} {y : Int32} {d : yLD} {p : Nat} (h : yOK d) (h8 : d.1 6 < 4) (hm : m = 19 ∨ m = 20 ∨ m = 21 ∨ m = 22) : yIv (m, lv, x, a, y, d, p) := ⟨h, fun h9 => by dsimp only at h9; omega, fun h9 => by dsimp only at h9; omega, fun h9 => by dsimp only at h9; omega, fun h9 => by dsimp only at h9; omega, fun _ => h8, fun h9 => by dsimp only at h9; omega⟩
theorem yIv_40 {m : Nat} {lv : List Bool} {x a : Int} {y : Int32} {d : yLD} {p : Nat} (h : yOK d) (h8 : d.1 7 < 8) (hm : 100 ≤ m ∨ m = 40 ∨ m = 41) : yIv (m, lv, x, a, y, d, p) := ⟨h, fun h9 => by dsimp only at h9; omega, fun h9 => by dsimp only at h9; omega, fun h9 => by dsimp only at h9; omega, fun h9 => by dsimp only at h9; omega, fun h9 => by dsimp only at h9; omega, fun _ => h8⟩
theorem yNu_i {T : Nat → Int} {n p : Nat} {lo hi : Int} {ok : Int → yL} {s' : yL} (h : yNu T n p lo hi ok = .inl s') : s' = ok (ys_vl T n p) ∧ lo ≤ ys_vl T n p ∧ ys_vl T n p ≤ hi := by
  unfold yNu at h
  by_cases h1 : ys_kd T n p = 2
  · rw [if_pos h1] at h
    by_cases h2 : lo ≤ ys_vl T n p ∧ ys_vl T n p ≤ hi
    · rw [if_pos h2] at h
      exact ⟨(Sum.inl.inj h).symm, h2⟩
    · rw [if_neg h2] at h
      cases h
  · rw [if_neg h1] at h
    cases h
theorem yIv_y0 {T : Nat → Int} {n p : Nat} {d : yLD} {s' : yL} (h : yOK d) (hN : y0 T n d p = .inl s') : yIv s' := by
  unfold y0 at hN
  by_cases h0 : ys_kd T n p = 0
  · rw [if_pos h0] at hN
    cases hN
  rw [if_neg h0] at hN
  by_cases h3 : ys_kd T n p ≠ 3
  · rw [if_pos h3] at hN
    cases hN
  rw [if_neg h3] at hN
  by_cases g12 : ys_vl T n p = 12
  · rw [if_pos g12] at hN
    by_cases k : d.1 0 ≠ 0
    · rw [if_pos k] at hN
      cases hN
      exact yIv_0 h (by omega)
    · rw [if_neg k] at hN
      cases hN
  rw [if_neg g12] at hN
  by_cases g13 : ys_vl T n p = 13
  · rw [if_pos g13] at hN
    by_cases k : d.1 3 < 20
    · rw [if_pos k] at hN
      cases hN
      exact yIv_0 h (by omega)
    · rw [if_neg k] at hN
      cases hN
  rw [if_neg g13] at hN
  by_cases g14 : ys_vl T n p = 14
  · rw [if_pos g14] at hN
    cases hN
    exact yIv_0 h (by omega)
  rw [if_neg g14] at hN
  by_cases g15 : ys_vl T n p = 15
  · rw [if_pos g15] at hN
    by_cases k : d.1 4 < 8
    · rw [if_pos k] at hN
      cases hN
      exact yIv_8 h k (by omega)
    · rw [if_neg k] at hN
      cases hN
  rw [if_neg g15] at hN
  by_cases g16 : ys_vl T n p = 16
  · rw [if_pos g16] at hN
    by_cases k : d.1 5 < 5
    · rw [if_pos k] at hN
      cases hN
      exact yIv_13 h k (by decide) (fun w hw => absurd hw (by omega))
    · rw [if_neg k] at hN
      cases hN
  rw [if_neg g16] at hN
  by_cases g17 : ys_vl T n p = 17
  · rw [if_pos g17] at hN
    by_cases k : d.1 8 = 0
    · rw [if_pos k] at hN
      cases hN
      exact yIv_0 h (by omega)
    · rw [if_neg k] at hN
      cases hN
  rw [if_neg g17] at hN
  by_cases g18 : ys_vl T n p = 18
  · rw [if_pos g18] at hN
    by_cases k : d.1 9 = 0
    · rw [if_pos k] at hN
      cases hN
      exact yIv_0 h (by omega)
    · rw [if_neg k] at hN
      cases hN
  rw [if_neg g18] at hN
  by_cases g19 : ys_vl T n p = 19
  · rw [if_pos g19] at hN
    by_cases k : d.1 6 < 4
    · rw [if_pos k] at hN
      cases hN
      exact yIv_19 h k (by omega)
    · rw [if_neg k] at hN
      cases hN
  rw [if_neg g19] at hN
  by_cases g20 : ys_vl T n p = 20
  · rw [if_pos g20] at hN
    by_cases k : d.1 7 < 8
    · rw [if_pos k] at hN
      cases hN
      exact yIv_40 h k (by omega)
    · rw [if_neg k] at hN
      cases hN
  rw [if_neg g20] at hN
  cases hN
theorem yIv_m0 {T : Nat → Int} {n p : Nat} {lv : List Bool} {x a : Int} {y : Int32} {d : yLD} {s' : yL} (h : yIv (0, lv, x, a, y, d, p)) (hN : yN2 T n (0, lv, x, a, y, d, p) = .inl s') : yIv s' := by
  obtain ⟨h0, h1, h2, h3, h4, h5, h6⟩ := h
  dsimp only at h0 h1 h2 h3 h4 h5 h6
  rw [yN2_0] at hN
  exact yIv_y0 h0 hN
theorem yIv_m1 {T : Nat → Int} {n p : Nat} {lv : List Bool} {x a : Int} {y : Int32} {d : yLD} {s' : yL} (h : yIv (1, lv, x, a, y, d, p)) (hN : yN2 T n (1, lv, x, a, y, d, p) = .inl s') : yIv s' := by
  obtain ⟨h0, h1, h2, h3, h4, h5, h6⟩ := h
  dsimp only at h0 h1 h2 h3 h4 h5 h6
  rw [yN2_1] at hN
  obtain ⟨rfl, b1, b2⟩ := yNu_i hN
  exact yIv_0 h0 (by omega)
theorem yIv_m2 {T : Nat → Int} {n p : Nat} {lv : List Bool} {x a : Int} {y : Int32} {d : yLD} {s' : yL} (h : yIv (2, lv, x, a, y, d, p)) (hN : yN2 T n (2, lv, x, a, y, d, p) = .inl s') : yIv s' := by
  obtain ⟨h0, h1, h2, h3, h4, h5, h6⟩ := h
  dsimp only at h0 h1 h2 h3 h4 h5 h6
  rw [yN2_2] at hN
  obtain ⟨rfl, b1, b2⟩ := yNu_i hN
  exact yIv_0 (yOK_k (d := (yU d.1 1 x, d.2)) (yOK_k h0 (by decide) (by decide)) (by decide) (by decide)) (by omega)
theorem yIv_m3 {T : Nat → Int} {n p : Nat} {lv : List Bool} {x a : Int} {y : Int32} {d : yLD} {s' : yL} (h : yIv (3, lv, x, a, y, d, p)) (hN : yN2 T n (3, lv, x, a, y, d, p) = .inl s') : yIv s' := by
  obtain ⟨h0, h1, h2, h3, h4, h5, h6⟩ := h
  dsimp only at h0 h1 h2 h3 h4 h5 h6
  rw [yN2_3] at hN
  obtain ⟨rfl, b1, b2⟩ := yNu_i hN
  exact yIv_0 h0 (by omega)
theorem yIv_m4 {T : Nat → Int} {n p : Nat} {lv : List Bool} {x a : Int} {y : Int32} {d : yLD} {s' : yL} (h : yIv (4, lv, x, a, y, d, p)) (hN : yN2 T n (4, lv, x, a, y, d, p) = .inl s') : yIv s' := by
  obtain ⟨h0, h1, h2, h3, h4, h5, h6⟩ := h
  dsimp only at h0 h1 h2 h3 h4 h5 h6
  rw [yN2_4] at hN
  split at hN
  · cases hN
  · split at hN
    · cases hN
      exact yIv_0 (yOK_k h0 (by decide) (by decide)) (by omega)
    · cases hN
theorem yIv_m5 {T : Nat → Int} {n p : Nat} {lv : List Bool} {x a : Int} {y : Int32} {d : yLD} {s' : yL} (h : yIv (5, lv, x, a, y, d, p)) (hN : yN2 T n (5, lv, x, a, y, d, p) = .inl s') : yIv s' := by
  obtain ⟨h0, h1, h2, h3, h4, h5, h6⟩ := h
  dsimp only at h0 h1 h2 h3 h4 h5 h6
  rw [yN2_5] at hN
  obtain ⟨rfl, b1, b2⟩ := yNu_i hN
  exact yIv_0 h0 (by omega)
theorem yIv_m6 {T : Nat → Int} {n p : Nat} {lv : List Bool} {x a : Int} {y : Int32} {d : yLD} {s' : yL} (h : yIv (6, lv, x, a, y, d, p)) (hN : yN2 T n (6, lv, x, a, y, d, p) = .inl s') : yIv s' := by
  obtain ⟨h0, h1, h2, h3, h4, h5, h6⟩ := h
  dsimp only at h0 h1 h2 h3 h4 h5 h6
  rw [yN2_6] at hN
  split at hN
  · cases hN
  · rename_i t ht
    split at hN
    · cases hN
    · cases hN
      obtain ⟨rfl, b1, b2⟩ := yNu_i ht
      exact yIv_0 h0 (by omega)
theorem yIv_m7 {T : Nat → Int} {n p : Nat} {lv : List Bool} {x a : Int} {y : Int32} {d : yLD} {s' : yL} (h : yIv (7, lv, x, a, y, d, p)) (hN : yN2 T n (7, lv, x, a, y, d, p) = .inl s') : yIv s' := by
  obtain ⟨h0, h1, h2, h3, h4, h5, h6⟩ := h
  dsimp only at h0 h1 h2 h3 h4 h5 h6
  rw [yN2_7] at hN
  split at hN
  · cases hN
    refine yIv_0 ?_ (by omega)
    have b := h0.1.1
    exact yOK_b (d := (yU (yW d (100 + x.toNat % 64) (ys_vl T n p)).1 13 (d.1 13 + 1), (yW d (100 + x.toNat % 64) (ys_vl T n p)).2)) (yOK_k (yOK_W h0 (by omega) (fun s hs => by omega)) (by decide) (by decide))
  · cases hN
theorem yIv_m8 {T : Nat → Int} {n p : Nat} {lv : List Bool} {x a : Int} {y : Int32} {d : yLD} {s' : yL} (h : yIv (8, lv, x, a, y, d, p)) (hN : yN2 T n (8, lv, x, a, y, d, p) = .inl s') : yIv s' := by
  obtain ⟨h0, h1, h2, h3, h4, h5, h6⟩ := h
  dsimp only at h0 h1 h2 h3 h4 h5 h6
  rw [yN2_8] at hN
  obtain ⟨rfl, b1, b2⟩ := yNu_i hN
  exact yIv_8 h0 (h1 (by omega)) (by omega)
theorem yIv_m9 {T : Nat → Int} {n p : Nat} {lv : List Bool} {x a : Int} {y : Int32} {d : yLD} {s' : yL} (h : yIv (9, lv, x, a, y, d, p)) (hN : yN2 T n (9, lv, x, a, y, d, p) = .inl s') : yIv s' := by
  obtain ⟨h0, h1, h2, h3, h4, h5, h6⟩ := h
  dsimp only at h0 h1 h2 h3 h4 h5 h6
  rw [yN2_9] at hN
  obtain ⟨rfl, b1, b2⟩ := yNu_i hN
  exact yIv_8 h0 (h1 (by omega)) (by omega)
theorem yIv_m10 {T : Nat → Int} {n p : Nat} {lv : List Bool} {x a : Int} {y : Int32} {d : yLD} {s' : yL} (h : yIv (10, lv, x, a, y, d, p)) (hN : yN2 T n (10, lv, x, a, y, d, p) = .inl s') : yIv s' := by
  obtain ⟨h0, h1, h2, h3, h4, h5, h6⟩ := h
  dsimp only at h0 h1 h2 h3 h4 h5 h6
  rw [yN2_10] at hN
  obtain ⟨rfl, b1, b2⟩ := yNu_i hN
  have h8 := h1 (by omega)
  have b := h0.1.1
  have e4 : (yWsl d x (ys_vl T n p)).1 4 = d.1 4 := (yW_n (by omega)).trans ((yW_n (by omega)).trans ((yW_n (by omega)).trans (yW_n (by omega))))
  have k : ∀ i, 20 ≤ i → (i = 200 + (d.1 4).toNat ∨ i = 210 + (d.1 4).toNat ∨ i = 220 + (d.1 4).toNat ∨ i = 230 + (d.1 4).toNat) → ∀ s : Nat, (s : Int) < d.1 4 → i ≠ 220 + s := fun i _ h9 s hs => by omega
  have w1 := yOK_W (v := x) h0 (i := 200 + (d.1 4).toNat) (by omega) (k _ (by omega) (by omega))
  have w2 := yOK_W (v := ys_vl T n p) w1 (i := 210 + (d.1 4).toNat) (by omega) (fun s hs => k _ (by omega) (by omega) s (by rw [yW_n (by omega)] at hs; exact hs))
  have w3 := yOK_W (v := 0) w2 (i := 220 + (d.1 4).toNat) (by omega) (fun s hs => k _ (by omega) (by omega) s (by rw [yW_n (by omega), yW_n (by omega)] at hs; exact hs))
  have w4 := yOK_W (v := 0) w3 (i := 230 + (d.1 4).toNat) (by omega) (fun s hs => k _ (by omega) (by omega) s (by rw [yW_n (by omega), yW_n (by omega), yW_n (by omega)] at hs; exact hs))
  refine yIv_11 w4 (by show (yWsl d x (ys_vl T n p)).1 4 < 8; rw [e4]; exact h8) ?_ (Or.inl rfl)
  show yOs (yWsl d x (ys_vl T n p)) ((yWsl d x (ys_vl T n p)).1 4).toNat 0
  rw [e4]
  exact ⟨yFl_W (yFl_W (yFl_W yFl_e)), yFl_W (yFl_W yFl_e), yFl_W yFl_e, yFl_e, (yW_n (by omega)).trans yW_e, by decide, by decide, fun j hj => absurd hj (by omega)⟩
theorem yIv_m11 {T : Nat → Int} {n p : Nat} {lv : List Bool} {x a : Int} {y : Int32} {d : yLD} {s' : yL} (h : yIv (11, lv, x, a, y, d, p)) (hN : yN2 T n (11, lv, x, a, y, d, p) = .inl s') : yIv s' := by
  obtain ⟨h0, h1, h2, h3, h4, h5, h6⟩ := h
  dsimp only at h0 h1 h2 h3 h4 h5 h6
  rw [yN2_11] at hN
  have h8 := h1 (by omega)
  have hs := h2 (by omega)
  split at hN
  · split at hN
    · cases hN
    · cases hN
      exact yIv_11 h0 h8 hs (Or.inr ⟨rfl, by have := hs.2.2.2.2.2.2.1; omega⟩)
  · cases hN
    exact yIv_0 (yOK_4 h0 h8 hs) (by omega)
theorem yIv_m12 {T : Nat → Int} {n p : Nat} {lv : List Bool} {x a : Int} {y : Int32} {d : yLD} {s' : yL} (h : yIv (12, lv, x, a, y, d, p)) (hN : yN2 T n (12, lv, x, a, y, d, p) = .inl s') : yIv s' := by
  obtain ⟨h0, h1, h2, h3, h4, h5, h6⟩ := h
  dsimp only at h0 h1 h2 h3 h4 h5 h6
  rw [yN2_12] at hN
  obtain ⟨rfl, b1, b2⟩ := yNu_i hN
  have h8 := h1 (by omega)
  have hs := h2 (by omega)
  have a8 := h3 rfl
  have b := h0.1.1
  have a0 := hs.2.2.2.2.2.1
  have e4 : (yWmk d a x (ys_vl T n p)).1 4 = d.1 4 := (yW_n (by omega)).trans ((yW_n (by omega)).trans (yW_n (by omega)))
  have w1 := yOK_W (v := x) h0 (i := 300 + (8 * (d.1 4).toNat + a.toNat)) (by omega) (fun s hs => by omega)
  have w2 := yOK_W (v := ys_vl T n p) w1 (i := 400 + (8 * (d.1 4).toNat + a.toNat)) (by omega) (fun s hs => by rw [yW_n (by omega)] at hs; omega)
  have w3 := yOK_W (v := a + 1) w2 (i := 220 + (d.1 4).toNat) (by omega) (fun s hs => by rw [yW_n (by omega), yW_n (by omega)] at hs; omega)
  refine yIv_11 w3 (by show (yWmk d a x (ys_vl T n p)).1 4 < 8; rw [e4]; exact h8) ?_ (Or.inl rfl)
  show yOs (yWmk d a x (ys_vl T n p)) ((yWmk d a x (ys_vl T n p)).1 4).toNat (a + 1)
  rw [e4]
  obtain ⟨c1, c2, c3, c4, c5, c6, c7, c8⟩ := hs
  refine ⟨yFl_W (yFl_W (yFl_W c1)), yFl_W (yFl_W (yFl_W c2)), yFl_e, yFl_W (yFl_W (yFl_W c4)), yW_e, by omega, by omega, fun j hj => ?_⟩
  by_cases h9 : (j : Int) < a
  · exact ⟨yFl_W (yFl_W (yFl_W (c8 j h9).1)), yFl_W (yFl_W (yFl_W (c8 j h9).2))⟩
  · rw [show j = a.toNat by omega]
    exact ⟨yFl_W (yFl_W yFl_e), yFl_W yFl_e⟩
theorem yIv_m13 {T : Nat → Int} {n p : Nat} {lv : List Bool} {x a : Int} {y : Int32} {d : yLD} {s' : yL} (h : yIv (13, lv, x, a, y, d, p)) (hN : yN2 T n (13, lv, x, a, y, d, p) = .inl s') : yIv s' := by
  obtain ⟨h0, h1, h2, h3, h4, h5, h6⟩ := h
  dsimp only at h0 h1 h2 h3 h4 h5 h6
  rw [yN2_13] at hN
  obtain ⟨h5', x0, x3, hw⟩ := h4 rfl
  have b := h0.1
  split at hN
  · rename_i hx
    obtain ⟨rfl, b1, b2⟩ := yNu_i hN
    have w1 := yOK_W (v := ys_vl T n p) h0 (i := 500 + (4 * (d.1 5).toNat + x.toNat)) (by omega) (fun s hs => by omega)
    have e5 : (yW d (500 + (4 * (d.1 5).toNat + x.toNat)) (ys_vl T n p)).1 5 = d.1 5 := yW_n (by omega)
    refine yIv_13 w1 (by rw [e5]; exact h5') (by omega) (fun w hw' => ?_)
    rw [e5]
    by_cases h9 : (w : Int) < x
    · exact yFl_W (hw w h9)
    · rw [show w = x.toNat by omega]
      exact yFl_e
  · rename_i hx
    obtain ⟨rfl, b1, b2⟩ := yNu_i hN
    have w1 := yOK_W (v := ys_vl T n p) h0 (i := 500 + (4 * (d.1 5).toNat + 3)) (by omega) (fun s hs => by omega)
    have e5 : (yW d (500 + (4 * (d.1 5).toNat + 3)) (ys_vl T n p)).1 5 = d.1 5 := yW_n (by omega)
    refine yIv_0 (yOK_5 w1 (by rw [e5]; exact h5') (fun w hw' => ?_)) (by omega)
    rw [e5]
    by_cases h9 : (w : Int) < x
    · exact yFl_W (hw w h9)
    · rw [show w = 3 by omega]
      exact yFl_e
theorem yIv_m15 {T : Nat → Int} {n p : Nat} {lv : List Bool} {x a : Int} {y : Int32} {d : yLD} {s' : yL} (h : yIv (15, lv, x, a, y, d, p)) (hN : yN2 T n (15, lv, x, a, y, d, p) = .inl s') : yIv s' := by
  obtain ⟨h0, h1, h2, h3, h4, h5, h6⟩ := h
  dsimp only at h0 h1 h2 h3 h4 h5 h6
  rw [yN2_15] at hN
  obtain ⟨rfl, b1, b2⟩ := yNu_i hN
  exact yIv_0 h0 (by omega)
theorem yIv_m16 {T : Nat → Int} {n p : Nat} {lv : List Bool} {x a : Int} {y : Int32} {d : yLD} {s' : yL} (h : yIv (16, lv, x, a, y, d, p)) (hN : yN2 T n (16, lv, x, a, y, d, p) = .inl s') : yIv s' := by
  obtain ⟨h0, h1, h2, h3, h4, h5, h6⟩ := h
  dsimp only at h0 h1 h2 h3 h4 h5 h6
  rw [yN2_16] at hN
  obtain ⟨rfl, b1, b2⟩ := yNu_i hN
  exact yIv_0 h0 (by omega)
theorem yIv_m17 {T : Nat → Int} {n p : Nat} {lv : List Bool} {x a : Int} {y : Int32} {d : yLD} {s' : yL} (h : yIv (17, lv, x, a, y, d, p)) (hN : yN2 T n (17, lv, x, a, y, d, p) = .inl s') : yIv s' := by
  obtain ⟨h0, h1, h2, h3, h4, h5, h6⟩ := h
  dsimp only at h0 h1 h2 h3 h4 h5 h6
  rw [yN2_17] at hN
  obtain ⟨rfl, b1, b2⟩ := yNu_i hN
  exact yIv_0 (yOK_W (yOK_W (yOK_k h0 (by decide) (by decide)) (by decide) (fun s hs => by omega)) (by decide) (fun s hs => by omega)) (by omega)
theorem yIv_m18 {T : Nat → Int} {n p : Nat} {lv : List Bool} {x a : Int} {y : Int32} {d : yLD} {s' : yL} (h : yIv (18, lv, x, a, y, d, p)) (hN : yN2 T n (18, lv, x, a, y, d, p) = .inl s') : yIv s' := by
  obtain ⟨h0, h1, h2, h3, h4, h5, h6⟩ := h
  dsimp only at h0 h1 h2 h3 h4 h5 h6
  rw [yN2_18] at hN
  obtain ⟨rfl, b1, b2⟩ := yNu_i hN
  exact yIv_0 (yOK_W (yOK_k h0 (by decide) (by decide)) (by decide) (fun s hs => by omega)) (by omega)
theorem yIv_m19 {T : Nat → Int} {n p : Nat} {lv : List Bool} {x a : Int} {y : Int32} {d : yLD} {s' : yL} (h : yIv (19, lv, x, a, y, d, p)) (hN : yN2 T n (19, lv, x, a, y, d, p) = .inl s') : yIv s' := by
  obtain ⟨h0, h1, h2, h3, h4, h5, h6⟩ := h
  dsimp only at h0 h1 h2 h3 h4 h5 h6
  rw [yN2_19] at hN
  obtain ⟨rfl, b1, b2⟩ := yNu_i hN
  exact yIv_19 h0 (h5 (by omega)) (by omega)
theorem yIv_m20 {T : Nat → Int} {n p : Nat} {lv : List Bool} {x a : Int} {y : Int32} {d : yLD} {s' : yL} (h : yIv (20, lv, x, a, y, d, p)) (hN : yN2 T n (20, lv, x, a, y, d, p) = .inl s') : yIv s' := by
  obtain ⟨h0, h1, h2, h3, h4, h5, h6⟩ := h
  dsimp only at h0 h1 h2 h3 h4 h5 h6
  rw [yN2_20] at hN
  obtain ⟨rfl, b1, b2⟩ := yNu_i hN
  exact yIv_19 h0 (h5 (by omega)) (by omega)
theorem yIv_m21 {T : Nat → Int} {n p : Nat} {lv : List Bool} {x a : Int} {y : Int32} {d : yLD} {s' : yL} (h : yIv (21, lv, x, a, y, d, p)) (hN : yN2 T n (21, lv, x, a, y, d, p) = .inl s') : yIv s' := by
  obtain ⟨h0, h1, h2, h3, h4, h5, h6⟩ := h
  dsimp only at h0 h1 h2 h3 h4 h5 h6
  rw [yN2_21] at hN
  obtain ⟨rfl, b1, b2⟩ := yNu_i hN
  exact yIv_19 h0 (h5 (by omega)) (by omega)
theorem yIv_m22 {T : Nat → Int} {n p : Nat} {lv : List Bool} {x a : Int} {y : Int32} {d : yLD} {s' : yL} (h : yIv (22, lv, x, a, y, d, p)) (hN : yN2 T n (22, lv, x, a, y, d, p) = .inl s') : yIv s' := by
  obtain ⟨h0, h1, h2, h3, h4, h5, h6⟩ := h
  dsimp only at h0 h1 h2 h3 h4 h5 h6
  rw [yN2_22] at hN
  have h8 := h5 (by omega)
  have b := h0.1
  split at hN
  · split at hN
    · cases hN
    · split at hN
      · cases hN
      · split at hN
        · cases hN
        · cases hN
          exact yIv_19 h0 h8 (by omega)
  · cases hN
    refine yIv_0 ?_ (by omega)
    have e : yWpi d x a y = (yU (yW (yW (yW d (600 + (d.1 6).toNat) x) (610 + (d.1 6).toNat) a) (620 + (d.1 6).toNat) y.toInt).1 6 (d.1 6 + 1), (yW (yW (yW d (600 + (d.1 6).toNat) x) (610 + (d.1 6).toNat) a) (620 + (d.1 6).toNat) y.toInt).2) := by
      unfold yWpi
      rw [yW_c (by omega), yW_c (by omega), yW_c (by omega)]
    have e6 : (yW (yW (yW d (600 + (d.1 6).toNat) x) (610 + (d.1 6).toNat) a) (620 + (d.1 6).toNat) y.toInt).1 6 = d.1 6 := (yW_n (by omega)).trans ((yW_n (by omega)).trans (yW_n (by omega)))
    have w1 := yOK_W (v := x) h0 (i := 600 + (d.1 6).toNat) (by omega) (fun s hs => by omega)
    have w2 := yOK_W (v := a) w1 (i := 610 + (d.1 6).toNat) (by omega) (fun s hs => by rw [yW_n (by omega)] at hs; omega)
    have w3 := yOK_W (v := y.toInt) w2 (i := 620 + (d.1 6).toNat) (by omega) (fun s hs => by rw [yW_n (by omega), yW_n (by omega)] at hs; omega)
    have w4 := yOK_6 w3 (by rw [e6]; exact h8) (by rw [e6]; exact ⟨yFl_W (yFl_W yFl_e), yFl_W yFl_e, yFl_e⟩)
    rw [e6] at w4
    rw [e]
    exact w4
theorem yIv_m40 {T : Nat → Int} {n p : Nat} {lv : List Bool} {x a : Int} {y : Int32} {d : yLD} {s' : yL} (h : yIv (40, lv, x, a, y, d, p)) (hN : yN2 T n (40, lv, x, a, y, d, p) = .inl s') : yIv s' := by
  obtain ⟨h0, h1, h2, h3, h4, h5, h6⟩ := h
  dsimp only at h0 h1 h2 h3 h4 h5 h6
  rw [yN2_40] at hN
  split at hN
  · cases hN
    exact yIv_40 h0 (h6 (by omega)) (by omega)
  · cases hN
theorem yIv_m41 {T : Nat → Int} {n p : Nat} {lv : List Bool} {x a : Int} {y : Int32} {d : yLD} {s' : yL} (h : yIv (41, lv, x, a, y, d, p)) (hN : yN2 T n (41, lv, x, a, y, d, p) = .inl s') : yIv s' := by
  obtain ⟨h0, h1, h2, h3, h4, h5, h6⟩ := h
  dsimp only at h0 h1 h2 h3 h4 h5 h6
  rw [yN2_41] at hN
  have h8 := h6 (by omega)
  have b := h0.1
  split at hN
  · cases hN
    refine yIv_0 ?_ (by omega)
    rw [yW_c (by omega)]
    have w1 := yOK_W (v := ys_vl T n p) h0 (i := 700 + (d.1 7).toNat) (by omega) (fun s hs => by omega)
    have e7 : (yW d (700 + (d.1 7).toNat) (ys_vl T n p)).1 7 = d.1 7 := yW_n (by omega)
    have w4 := yOK_7 w1 (by rw [e7]; exact h8) (by rw [e7]; exact yFl_e)
    rw [e7] at w4
    exact w4
  · cases hN
theorem yIv_s {T : Nat → Int} {n : Nat} {s s' : yL} (h : yIv s) (hN : yN2 T n s = .inl s') : yIv s' := by
  obtain ⟨m, lv, x, a, y, d, p⟩ := s
  by_cases hm : 100 ≤ m
  · have h8 := h.2.2.2.2.2.2 (Or.inl hm)
    have h0 := h.1
    unfold yN2 at hN
    rw [if_pos hm] at hN
    split at hN
    · cases hN
      exact yIv_40 h0 h8 (by omega)
    · split at hN
      · cases hN
        exact yIv_40 h0 h8 (by omega)
      · cases hN
  by_cases k0 : m = 0
  · subst k0
    exact yIv_m0 h hN
  by_cases k1 : m = 1
  · subst k1
    exact yIv_m1 h hN
  by_cases k2 : m = 2
  · subst k2
    exact yIv_m2 h hN
  by_cases k3 : m = 3
  · subst k3
    exact yIv_m3 h hN
  by_cases k4 : m = 4
  · subst k4
    exact yIv_m4 h hN
  by_cases k5 : m = 5
  · subst k5
    exact yIv_m5 h hN
  by_cases k6 : m = 6
  · subst k6
    exact yIv_m6 h hN
  by_cases k7 : m = 7
  · subst k7
    exact yIv_m7 h hN
  by_cases k8 : m = 8
  · subst k8
    exact yIv_m8 h hN
  by_cases k9 : m = 9
  · subst k9
    exact yIv_m9 h hN
  by_cases k10 : m = 10
  · subst k10
    exact yIv_m10 h hN
  by_cases k11 : m = 11
  · subst k11
    exact yIv_m11 h hN
  by_cases k12 : m = 12
  · subst k12
    exact yIv_m12 h hN
  by_cases k13 : m = 13
  · subst k13
    exact yIv_m13 h hN
  by_cases k15 : m = 15
  · subst k15
    exact yIv_m15 h hN
  by_cases k16 : m = 16
  · subst k16
    exact yIv_m16 h hN
  by_cases k17 : m = 17
  · subst k17
    exact yIv_m17 h hN
  by_cases k18 : m = 18
  · subst k18
    exact yIv_m18 h hN
  by_cases k19 : m = 19
  · subst k19
    exact yIv_m19 h hN
  by_cases k20 : m = 20
  · subst k20
    exact yIv_m20 h hN
  by_cases k21 : m = 21
  · subst k21
    exact yIv_m21 h hN
  by_cases k22 : m = 22
  · subst k22
    exact yIv_m22 h hN
  by_cases k40 : m = 40
  · subst k40
    exact yIv_m40 h hN
  by_cases k41 : m = 41
  · subst k41
    exact yIv_m41 h hN
  have e : yN2 T n (m, lv, x, a, y, d, p) = (if ys_kd T n p = 4 ∧ ys_vl T n p = 59 then .inl (0, [], 0, 0, 0, (yU d.1 0 0, d.2), ys_nx T n p) else .inr (1, p)) := by
    unfold yN2
    rw [if_neg hm, if_neg k0, if_neg k1, if_neg k2, if_neg k3, if_neg k4, if_neg k5, if_neg k6, if_neg k7, if_neg k8, if_neg k9, if_neg k10, if_neg k11, if_neg k12, if_neg k13, if_neg k15, if_neg k16, if_neg k17, if_neg k18, if_neg k19, if_neg k20, if_neg k21, if_neg k22, if_neg k40, if_neg k41]
  rw [e] at hN
  split at hN
  · cases hN
    exact yIv_0 (yOK_k h.1 (by decide) (by decide)) (by omega)
  · cases hN
theorem yIv_it {T : Nat → Int} {n : Nat} {t : yL} : ∀ (f : Nat) (s : yL), yIv s → yIt T n f s = some t → yIv t
  | 0, s, h, e => by
    have e : s = t := Option.some.inj e
    rw [← e]
    exact h
  | f + 1, s, h, e => by
    have e : (match yN2 T n s with
      | .inr _ => none
      | .inl s' => yIt T n f s') = some t := e
    cases hN : yN2 T n s with
    | inr r =>
      rw [hN] at e
      cases e
    | inl s' =>
      rw [hN] at e
      exact yIv_it f s' (yIv_s h hN) e
theorem y00_ok : yOK y00d := by
  refine ⟨by decide, fun i i1 i2 => ?_, fun c hc => ?_, fun s hs => ?_, fun g w hg => ?_, fun q hq => ?_, fun r hr => ?_⟩
  · exact decide_eq_true (by omega)
  · exact decide_eq_true (by omega)
  · have hs : (s : Int) < 0 := hs
    omega
  · have hg : (g : Int) < 0 := hg
    omega
  · have hq : (q : Int) < 0 := hq
    omega
  · have hr : (r : Int) < 0 := hr
    omega
/-- all that a text has told by its end is told in full -/
theorem yOK_end {T : Nat → Int} {n q : Nat} {d : yLD} (h : yR2 T n y00 (0, [], 0, 0, 0, d, q)) : yOK d := by
  obtain ⟨f, hf⟩ := h (.inr (0, [], 0, 0, 0, d, q)) ⟨0, rfl⟩
  exact (yIv_it f y00 (yIv_0 y00_ok (by omega)) hf).1
end
section
/-! ===== cells that a text tells lie within its sea ===== -/
def yCl (d : yLD) : Prop := ((2 ≤ d.1 1 ∧ d.1 1 ≤ 8) ∧ 2 ≤ d.1 2 ∧ d.1 2 ≤ 8) ∧ (∀ s : Nat, (s : Int) < d.1 4 → 0 ≤ d.1 (200 + s) ∧ d.1 (200 + s) < d.1 1 * d.1 2) ∧ ∀ q : Nat, (q : Int) < d.1 6 → 0 ≤ d.1 (600 + q) ∧ d.1 (600 + q) < d.1 1 * d.1 2
theorem yCl_e {d d' : yLD} (h1 : d'.1 1 = d.1 1) (h2 : d'.1 2 = d.1 2) (h4 : d'.1 4 = d.1 4) (h6 : d'.1 6 = d.1 6) (hs : ∀ s : Nat, (s : Int) < d.1 4 → d'.1 (200 + s) = d.1 (200 + s)) (hq : ∀ q : Nat, (q : Int) < d.1 6 → d'.1 (600 + q) = d.1 (600 + q)) (h : yCl d) : yCl d' := by
  obtain ⟨k1, k3, k4⟩ := h
  refine ⟨by rw [h1, h2]; exact k1, fun s hs' => ?_, fun q hq' => ?_⟩
  · rw [h4] at hs'
    rw [hs s hs', h1, h2]; exact k3 s hs'
  · rw [h6] at hq'
    rw [hq q hq', h1, h2]; exact k4 q hq'
theorem ycell {w h v x : Int} (hw : 2 ≤ w) (h1 : 0 ≤ v) (h2 : v ≤ h - 1) (h3 : 0 ≤ x) (h4 : x < w) : 0 ≤ w * v + x ∧ w * v + x < w * h := by
  have a : w * v ≤ w * (h - 1) := Int.mul_le_mul_of_nonneg_left h2 (by omega)
  rw [Int.mul_sub, Int.mul_one] at a
  have b : 0 ≤ w * v := Int.mul_nonneg (by omega) h1
  omega
def yIw (s : yL) : Prop := yCl s.2.2.2.2.2.1 ∧ (s.1 = 50 ∨ (s.2.2.2.2.2.1.1 0 ≠ 0 → s.2.2.2.2.2.1.1 4 = 0 ∧ s.2.2.2.2.2.1.1 6 = 0)) ∧ (s.1 = 1 ∨ s.1 = 2 → s.2.2.2.2.2.1.1 4 = 0 ∧ s.2.2.2.2.2.1.1 6 = 0) ∧ (s.1 = 2 → 2 ≤ s.2.2.1 ∧ s.2.2.1 ≤ 8) ∧ (s.1 = 9 ∨ s.1 = 20 → 0 ≤ s.2.2.1 ∧ s.2.2.1 < s.2.2.2.2.2.1.1 1) ∧ (s.1 = 10 ∨ s.1 = 21 ∨ s.1 = 22 → 0 ≤ s.2.2.1 ∧ s.2.2.1 < s.2.2.2.2.2.1.1 1 * s.2.2.2.2.2.1.1 2) ∧ (s.1 = 11 ∨ s.1 = 12 → 0 ≤ s.2.2.2.2.2.1.1 (200 + (s.2.2.2.2.2.1.1 4).toNat) ∧ s.2.2.2.2.2.1.1 (200 + (s.2.2.2.2.2.1.1 4).toNat) < s.2.2.2.2.2.1.1 1 * s.2.2.2.2.2.1.1 2)
theorem yIw_0 {m : Nat} {lv : List Bool} {x a : Int} {y : Int32} {d : yLD} {p : Nat} (h : yCl d) (hc : m = 50 ∨ (d.1 0 ≠ 0 → d.1 4 = 0 ∧ d.1 6 = 0)) (hm : m ≠ 1 ∧ m ≠ 2 ∧ m ≠ 9 ∧ m ≠ 20 ∧ m ≠ 10 ∧ m ≠ 21 ∧ m ≠ 22 ∧ m ≠ 11 ∧ m ≠ 12) : yIw (m, lv, x, a, y, d, p) := ⟨h, hc, fun h9 => by dsimp only at h9; omega, fun h9 => by dsimp only at h9; omega, fun h9 => by dsimp only at h9; omega, fun h9 => by dsimp only at h9; omega, fun h9 => by dsimp only at h9; omega⟩
theorem yIw_2 {m : Nat} {lv : List Bool} {x a : Int} {y : Int32} {d : yLD} {p : Nat} (h : yCl d) (h4 : d.1 4 = 0 ∧ d.1 6 = 0) (hm : m = 1 ∨ (m = 2 ∧ 2 ≤ x ∧ x ≤ 8)) : yIw (m, lv, x, a, y, d, p) := ⟨h, Or.inr (fun _ => h4), fun _ => h4, fun h9 => by dsimp only at h9 ⊢; omega, fun h9 => by dsimp only at h9; omega, fun h9 => by dsimp only at h9; omega, fun h9 => by dsimp only at h9; omega⟩
theorem yIw_9 {m : Nat} {lv : List Bool} {x a : Int} {y : Int32} {d : yLD} {p : Nat} (h : yCl d) (hc : m = 50 ∨ (d.1 0 ≠ 0 → d.1 4 = 0 ∧ d.1 6 = 0)) (hx : 0 ≤ x ∧ x < d.1 1) (hm : m = 9 ∨ m = 20) : yIw (m, lv, x, a, y, d, p) := ⟨h, hc, fun h9 => by dsimp only at h9; omega, fun h9 => by dsimp only at h9; omega, fun _ => hx, fun h9 => by dsimp only at h9; omega, fun h9 => by dsimp only at h9; omega⟩
theorem yIw_10 {m : Nat} {lv : List Bool} {x a : Int} {y : Int32} {d : yLD} {p : Nat} (h : yCl d) (hc : m = 50 ∨ (d.1 0 ≠ 0 → d.1 4 = 0 ∧ d.1 6 = 0)) (hx : 0 ≤ x ∧ x < d.1 1 * d.1 2) (hm : m = 10 ∨ m = 21 ∨ m = 22) : yIw (m, lv, x, a, y, d, p) := ⟨h, hc, fun h9 => by dsimp only at h9; omega, fun h9 => by dsimp only at h9; omega, fun h9 => by dsimp only at h9; omega, fun _ => hx, fun h9 => by dsimp only at h9; omega⟩
theorem yIw_11 {m : Nat} {lv : List Bool} {x a : Int} {y : Int32} {d : yLD} {p : Nat} (h : yCl d) (hc : m = 50 ∨ (d.1 0 ≠ 0 → d.1 4 = 0 ∧ d.1 6 = 0)) (hx : 0 ≤ d.1 (200 + (d.1 4).toNat) ∧ d.1 (200 + (d.1 4).toNat) < d.1 1 * d.1 2) (hm : m = 11 ∨ m = 12) : yIw (m, lv, x, a, y, d, p) := ⟨h, hc, fun h9 => by dsimp only at h9; omega, fun h9 => by dsimp only at h9; omega, fun h9 => by dsimp only at h9; omega, fun h9 => by dsimp only at h9; omega, fun _ => hx⟩
theorem yCl_k {d : yLD} {k : Nat} {v : Int} {u : Int64} {f : Nat → Bool} (h : yCl d) (hk : k ≠ 0 ∧ k ≠ 1 ∧ k ≠ 2 ∧ k ≠ 4 ∧ k ≠ 6) (hk2 : k < 200) : yCl (yU d.1 k v, u, f) := yCl_e (yU_n (by omega)) (yU_n (by omega)) (yU_n (by omega)) (yU_n (by omega)) (fun s _ => yU_n (by omega)) (fun q _ => yU_n (by omega)) h
theorem yCl_W {d : yLD} {i : Nat} {v : Int} (h : yCl d) (h20 : 7 ≤ i) (hs : ∀ s : Nat, (s : Int) < d.1 4 → i ≠ 200 + s) (hq : ∀ q : Nat, (q : Int) < d.1 6 → i ≠ 600 + q) : yCl (yW d i v) := yCl_e (yW_n (by omega)) (yW_n (by omega)) (yW_n (by omega)) (yW_n (by omega)) (fun s h9 => yW_n (fun h8 => hs s h9 h8.symm)) (fun q h9 => yW_n (fun h8 => hq q h9 h8.symm)) h
theorem yIw_y0 {T : Nat → Int} {n p : Nat} {d : yLD} {s' : yL} (h : yCl d) (hc : d.1 0 ≠ 0 → d.1 4 = 0 ∧ d.1 6 = 0) (hN : y0 T n d p = .inl s') : yIw s' := by
  unfold y0 at hN
  by_cases h0 : ys_kd T n p = 0
  · rw [if_pos h0] at hN
    cases hN
  rw [if_neg h0] at hN
  by_cases h3 : ys_kd T n p ≠ 3
  · rw [if_pos h3] at hN
    cases hN
  rw [if_neg h3] at hN
  by_cases g12 : ys_vl T n p = 12
  · rw [if_pos g12] at hN
    by_cases k : d.1 0 ≠ 0
    · rw [if_pos k] at hN
      cases hN
      exact yIw_2 h (hc k) (Or.inl rfl)
    · rw [if_neg k] at hN
      cases hN
  rw [if_neg g12] at hN
  by_cases g13 : ys_vl T n p = 13
  · rw [if_pos g13] at hN
    by_cases k : d.1 3 < 20
    · rw [if_pos k] at hN
      cases hN
      exact yIw_0 h (Or.inr hc) (by decide)
    · rw [if_neg k] at hN
      cases hN
  rw [if_neg g13] at hN
  by_cases g14 : ys_vl T n p = 14
  · rw [if_pos g14] at hN
    cases hN
    exact yIw_0 h (Or.inr hc) (by decide)
  rw [if_neg g14] at hN
  by_cases g15 : ys_vl T n p = 15
  · rw [if_pos g15] at hN
    by_cases k : d.1 4 < 8
    · rw [if_pos k] at hN
      cases hN
      exact yIw_0 h (Or.inr hc) (by decide)
    · rw [if_neg k] at hN
      cases hN
  rw [if_neg g15] at hN
  by_cases g16 : ys_vl T n p = 16
  · rw [if_pos g16] at hN
    by_cases k : d.1 5 < 5
    · rw [if_pos k] at hN
      cases hN
      exact yIw_0 h (Or.inr hc) (by decide)
    · rw [if_neg k] at hN
      cases hN
  rw [if_neg g16] at hN
  by_cases g17 : ys_vl T n p = 17
  · rw [if_pos g17] at hN
    by_cases k : d.1 8 = 0
    · rw [if_pos k] at hN
      cases hN
      exact yIw_0 h (Or.inr hc) (by decide)
    · rw [if_neg k] at hN
      cases hN
  rw [if_neg g17] at hN
  by_cases g18 : ys_vl T n p = 18
  · rw [if_pos g18] at hN
    by_cases k : d.1 9 = 0
    · rw [if_pos k] at hN
      cases hN
      exact yIw_0 h (Or.inr hc) (by decide)
    · rw [if_neg k] at hN
      cases hN
  rw [if_neg g18] at hN
  by_cases g19 : ys_vl T n p = 19
  · rw [if_pos g19] at hN
    by_cases k : d.1 6 < 4
    · rw [if_pos k] at hN
      cases hN
      exact yIw_0 h (Or.inr hc) (by decide)
    · rw [if_neg k] at hN
      cases hN
  rw [if_neg g19] at hN
  by_cases g20 : ys_vl T n p = 20
  · rw [if_pos g20] at hN
    by_cases k : d.1 7 < 8
    · rw [if_pos k] at hN
      cases hN
      exact yIw_0 h (Or.inr hc) (by decide)
    · rw [if_neg k] at hN
      cases hN
  rw [if_neg g20] at hN
  cases hN
theorem yIw_m0 {T : Nat → Int} {n p : Nat} {lv : List Bool} {x a : Int} {y : Int32} {d : yLD} {s' : yL} (hv : yIv (0, lv, x, a, y, d, p)) (h : yIw (0, lv, x, a, y, d, p)) (hN : yN2 T n (0, lv, x, a, y, d, p) = .inl s') : yIw s' := by
  obtain ⟨h0, hc, h1, h2, h3, h4, h5⟩ := h
  dsimp only at h0 hc h1 h2 h3 h4 h5
  have hO : yOK d := hv.1
  obtain ⟨⟨o4, o4'⟩, ⟨o5, o5'⟩, ⟨o6, o6'⟩, o7, o7'⟩ := hO.1
  rw [yN2_0] at hN
  have hc := hc.resolve_left (by decide)
  exact yIw_y0 h0 hc hN
theorem yIw_m1 {T : Nat → Int} {n p : Nat} {lv : List Bool} {x a : Int} {y : Int32} {d : yLD} {s' : yL} (hv : yIv (1, lv, x, a, y, d, p)) (h : yIw (1, lv, x, a, y, d, p)) (hN : yN2 T n (1, lv, x, a, y, d, p) = .inl s') : yIw s' := by
  obtain ⟨h0, hc, h1, h2, h3, h4, h5⟩ := h
  dsimp only at h0 hc h1 h2 h3 h4 h5
  have hO : yOK d := hv.1
  obtain ⟨⟨o4, o4'⟩, ⟨o5, o5'⟩, ⟨o6, o6'⟩, o7, o7'⟩ := hO.1
  rw [yN2_1] at hN
  obtain ⟨rfl, b1, b2⟩ := yNu_i hN
  exact yIw_2 h0 (h1 (Or.inl rfl)) (Or.inr ⟨rfl, b1, b2⟩)
theorem yIw_m2 {T : Nat → Int} {n p : Nat} {lv : List Bool} {x a : Int} {y : Int32} {d : yLD} {s' : yL} (hv : yIv (2, lv, x, a, y, d, p)) (h : yIw (2, lv, x, a, y, d, p)) (hN : yN2 T n (2, lv, x, a, y, d, p) = .inl s') : yIw s' := by
  obtain ⟨h0, hc, h1, h2, h3, h4, h5⟩ := h
  dsimp only at h0 hc h1 h2 h3 h4 h5
  have hO : yOK d := hv.1
  obtain ⟨⟨o4, o4'⟩, ⟨o5, o5'⟩, ⟨o6, o6'⟩, o7, o7'⟩ := hO.1
  rw [yN2_2] at hN
  obtain ⟨rfl, b1, b2⟩ := yNu_i hN
  have k := h1 (Or.inr rfl)
  have kx := h2 rfl
  have e : ∀ i, i ≠ 1 → i ≠ 2 → yU (yU d.1 1 x) 2 (ys_vl T n p) i = d.1 i := fun i i1 i2 => (yU_n i2).trans (yU_n i1)
  refine yIw_0 ⟨⟨⟨?_, ?_⟩, ?_, ?_⟩, fun s hs => ?_, fun q hq => ?_⟩ (Or.inl rfl) (by decide)
  · show 2 ≤ yU (yU d.1 1 x) 2 (ys_vl T n p) 1
    rw [yU_n (by decide), yU_e]; exact kx.1
  · show yU (yU d.1 1 x) 2 (ys_vl T n p) 1 ≤ 8
    rw [yU_n (by decide), yU_e]; exact kx.2
  · show 2 ≤ yU (yU d.1 1 x) 2 (ys_vl T n p) 2
    rw [yU_e]; exact b1
  · show yU (yU d.1 1 x) 2 (ys_vl T n p) 2 ≤ 8
    rw [yU_e]; exact b2
  · have hs : (s : Int) < yU (yU d.1 1 x) 2 (ys_vl T n p) 4 := hs
    rw [e 4 (by decide) (by decide)] at hs
    omega
  · have hq : (q : Int) < yU (yU d.1 1 x) 2 (ys_vl T n p) 6 := hq
    rw [e 6 (by decide) (by decide)] at hq
    omega
theorem yIw_m3 {T : Nat → Int} {n p : Nat} {lv : List Bool} {x a : Int} {y : Int32} {d : yLD} {s' : yL} (hv : yIv (3, lv, x, a, y, d, p)) (h : yIw (3, lv, x, a, y, d, p)) (hN : yN2 T n (3, lv, x, a, y, d, p) = .inl s') : yIw s' := by
  obtain ⟨h0, hc, h1, h2, h3, h4, h5⟩ := h
  dsimp only at h0 hc h1 h2 h3 h4 h5
  have hO : yOK d := hv.1
  obtain ⟨⟨o4, o4'⟩, ⟨o5, o5'⟩, ⟨o6, o6'⟩, o7, o7'⟩ := hO.1
  rw [yN2_3] at hN
  have hc := hc.resolve_left (by decide)
  obtain ⟨rfl, b1, b2⟩ := yNu_i hN
  exact yIw_0 h0 (Or.inr hc) (by decide)
theorem yIw_m5 {T : Nat → Int} {n p : Nat} {lv : List Bool} {x a : Int} {y : Int32} {d : yLD} {s' : yL} (hv : yIv (5, lv, x, a, y, d, p)) (h : yIw (5, lv, x, a, y, d, p)) (hN : yN2 T n (5, lv, x, a, y, d, p) = .inl s') : yIw s' := by
  obtain ⟨h0, hc, h1, h2, h3, h4, h5⟩ := h
  dsimp only at h0 hc h1 h2 h3 h4 h5
  have hO : yOK d := hv.1
  obtain ⟨⟨o4, o4'⟩, ⟨o5, o5'⟩, ⟨o6, o6'⟩, o7, o7'⟩ := hO.1
  rw [yN2_5] at hN
  have hc := hc.resolve_left (by decide)
  obtain ⟨rfl, b1, b2⟩ := yNu_i hN
  exact yIw_0 h0 (Or.inr hc) (by decide)
theorem yIw_m4 {T : Nat → Int} {n p : Nat} {lv : List Bool} {x a : Int} {y : Int32} {d : yLD} {s' : yL} (hv : yIv (4, lv, x, a, y, d, p)) (h : yIw (4, lv, x, a, y, d, p)) (hN : yN2 T n (4, lv, x, a, y, d, p) = .inl s') : yIw s' := by
  obtain ⟨h0, hc, h1, h2, h3, h4, h5⟩ := h
  dsimp only at h0 hc h1 h2 h3 h4 h5
  have hO : yOK d := hv.1
  obtain ⟨⟨o4, o4'⟩, ⟨o5, o5'⟩, ⟨o6, o6'⟩, o7, o7'⟩ := hO.1
  rw [yN2_4] at hN
  cases g : yNu T n p 0 (d.1 2 - 1) (fun v => (50, [], d.1 1 * v + x, 0, 0, d, ys_nx T n p)) with
  | inr r => rw [g] at hN; cases hN
  | inl t =>
    rw [g] at hN
    have hN : (if d.2.1 &&& yBit t.2.2.1 = 0 then _ else _) = _ := hN
    by_cases g2 : d.2.1 &&& yBit t.2.2.1 = 0
    · rw [if_pos g2] at hN
      cases hN
      exact yIw_0 (yCl_k h0 (by decide) (by decide)) (Or.inl rfl) (by decide)
    · rw [if_neg g2] at hN
      cases hN
theorem yIw_m6 {T : Nat → Int} {n p : Nat} {lv : List Bool} {x a : Int} {y : Int32} {d : yLD} {s' : yL} (hv : yIv (6, lv, x, a, y, d, p)) (h : yIw (6, lv, x, a, y, d, p)) (hN : yN2 T n (6, lv, x, a, y, d, p) = .inl s') : yIw s' := by
  obtain ⟨h0, hc, h1, h2, h3, h4, h5⟩ := h
  dsimp only at h0 hc h1 h2 h3 h4 h5
  have hO : yOK d := hv.1
  obtain ⟨⟨o4, o4'⟩, ⟨o5, o5'⟩, ⟨o6, o6'⟩, o7, o7'⟩ := hO.1
  rw [yN2_6] at hN
  have hc := hc.resolve_left (by decide)
  cases g : yNu T n p 0 (d.1 2 - 1) (fun v => (7, [], d.1 1 * v + x, 0, 0, d, ys_nx T n p)) with
  | inr r => rw [g] at hN; cases hN
  | inl t =>
    rw [g] at hN
    obtain ⟨e, -, -⟩ := yNu_i g
    have hN : (if d.2.2 t.2.2.1.toNat then _ else _) = _ := hN
    by_cases g2 : d.2.2 t.2.2.1.toNat = true
    · rw [if_pos g2] at hN
      cases hN
    · rw [if_neg g2] at hN
      cases hN
      rw [e]
      exact yIw_0 h0 (Or.inr hc) (by decide)
theorem yIw_m7 {T : Nat → Int} {n p : Nat} {lv : List Bool} {x a : Int} {y : Int32} {d : yLD} {s' : yL} (hv : yIv (7, lv, x, a, y, d, p)) (h : yIw (7, lv, x, a, y, d, p)) (hN : yN2 T n (7, lv, x, a, y, d, p) = .inl s') : yIw s' := by
  obtain ⟨h0, hc, h1, h2, h3, h4, h5⟩ := h
  dsimp only at h0 hc h1 h2 h3 h4 h5
  have hO : yOK d := hv.1
  obtain ⟨⟨o4, o4'⟩, ⟨o5, o5'⟩, ⟨o6, o6'⟩, o7, o7'⟩ := hO.1
  rw [yN2_7] at hN
  by_cases g : ys_kd T n p = 3 ∧ ys_vl T n p < 4
  · rw [if_pos g] at hN
    cases hN
    have e : ∀ i, i ≠ 13 → i ≠ 100 + x.toNat % 64 → (yWcu d x (ys_vl T n p)).1 i = d.1 i := fun i i1 i2 => (yU_n i1).trans (yU_n i2)
    exact yIw_0 (yCl_e (d := d) (e 1 (by decide) (by omega)) (e 2 (by decide) (by omega)) (e 4 (by decide) (by omega)) (e 6 (by decide) (by omega)) (fun s hs => e _ (by omega) (by omega)) (fun q hq => e _ (by omega) (by omega)) h0) (Or.inl rfl) (by decide)
  · rw [if_neg g] at hN
    cases hN
theorem yIw_m8 {T : Nat → Int} {n p : Nat} {lv : List Bool} {x a : Int} {y : Int32} {d : yLD} {s' : yL} (hv : yIv (8, lv, x, a, y, d, p)) (h : yIw (8, lv, x, a, y, d, p)) (hN : yN2 T n (8, lv, x, a, y, d, p) = .inl s') : yIw s' := by
  obtain ⟨h0, hc, h1, h2, h3, h4, h5⟩ := h
  dsimp only at h0 hc h1 h2 h3 h4 h5
  have hO : yOK d := hv.1
  obtain ⟨⟨o4, o4'⟩, ⟨o5, o5'⟩, ⟨o6, o6'⟩, o7, o7'⟩ := hO.1
  rw [yN2_8] at hN
  have hc := hc.resolve_left (by decide)
  obtain ⟨rfl, b1, b2⟩ := yNu_i hN
  exact yIw_9 h0 (Or.inr hc) ⟨b1, by omega⟩ (Or.inl rfl)
theorem yIw_m9 {T : Nat → Int} {n p : Nat} {lv : List Bool} {x a : Int} {y : Int32} {d : yLD} {s' : yL} (hv : yIv (9, lv, x, a, y, d, p)) (h : yIw (9, lv, x, a, y, d, p)) (hN : yN2 T n (9, lv, x, a, y, d, p) = .inl s') : yIw s' := by
  obtain ⟨h0, hc, h1, h2, h3, h4, h5⟩ := h
  dsimp only at h0 hc h1 h2 h3 h4 h5
  have hO : yOK d := hv.1
  obtain ⟨⟨o4, o4'⟩, ⟨o5, o5'⟩, ⟨o6, o6'⟩, o7, o7'⟩ := hO.1
  rw [yN2_9] at hN
  have hc := hc.resolve_left (by decide)
  obtain ⟨rfl, b1, b2⟩ := yNu_i hN
  have k := h3 (Or.inl rfl)
  exact yIw_10 h0 (Or.inr hc) (ycell h0.1.1.1 b1 b2 k.1 k.2) (Or.inl rfl)
theorem yIw_m10 {T : Nat → Int} {n p : Nat} {lv : List Bool} {x a : Int} {y : Int32} {d : yLD} {s' : yL} (hv : yIv (10, lv, x, a, y, d, p)) (h : yIw (10, lv, x, a, y, d, p)) (hN : yN2 T n (10, lv, x, a, y, d, p) = .inl s') : yIw s' := by
  obtain ⟨h0, hc, h1, h2, h3, h4, h5⟩ := h
  dsimp only at h0 hc h1 h2 h3 h4 h5
  have hO : yOK d := hv.1
  obtain ⟨⟨o4, o4'⟩, ⟨o5, o5'⟩, ⟨o6, o6'⟩, o7, o7'⟩ := hO.1
  rw [yN2_10] at hN
  have hc := hc.resolve_left (by decide)
  obtain ⟨rfl, b1, b2⟩ := yNu_i hN
  have k := h4 (Or.inl rfl)
  have h8 := hv.2.1 (Or.inr (Or.inr (Or.inl rfl)))
  have h8 : d.1 4 < 8 := h8
  have e : ∀ i, i ≠ 200 + (d.1 4).toNat → i ≠ 210 + (d.1 4).toNat → i ≠ 220 + (d.1 4).toNat → i ≠ 230 + (d.1 4).toNat → (yWsl d x (ys_vl T n p)).1 i = d.1 i := fun i i1 i2 i3 i4 => (yW_n i4).trans ((yW_n i3).trans ((yW_n i2).trans (yW_n i1)))
  refine yIw_11 (yCl_e (d := d) (e 1 (by omega) (by omega) (by omega) (by omega)) (e 2 (by omega) (by omega) (by omega) (by omega)) (e 4 (by omega) (by omega) (by omega) (by omega)) (e 6 (by omega) (by omega) (by omega) (by omega)) (fun s hs => e _ (by omega) (by omega) (by omega) (by omega)) (fun q hq => e _ (by omega) (by omega) (by omega) (by omega)) h0) (Or.inr ?_) ?_ (Or.inl rfl)
  · rw [e 0 (by omega) (by omega) (by omega) (by omega), e 4 (by omega) (by omega) (by omega) (by omega), e 6 (by omega) (by omega) (by omega) (by omega)]
    exact hc
  · rw [e 4 (by omega) (by omega) (by omega) (by omega), e 1 (by omega) (by omega) (by omega) (by omega), e 2 (by omega) (by omega) (by omega) (by omega), show (yWsl d x (ys_vl T n p)).1 (200 + (d.1 4).toNat) = x from (yW_n (by omega)).trans ((yW_n (by omega)).trans ((yW_n (by omega)).trans yW_e))]
    exact k
theorem yIw_m11 {T : Nat → Int} {n p : Nat} {lv : List Bool} {x a : Int} {y : Int32} {d : yLD} {s' : yL} (hv : yIv (11, lv, x, a, y, d, p)) (h : yIw (11, lv, x, a, y, d, p)) (hN : yN2 T n (11, lv, x, a, y, d, p) = .inl s') : yIw s' := by
  obtain ⟨h0, hc, h1, h2, h3, h4, h5⟩ := h
  dsimp only at h0 hc h1 h2 h3 h4 h5
  have hO : yOK d := hv.1
  obtain ⟨⟨o4, o4'⟩, ⟨o5, o5'⟩, ⟨o6, o6'⟩, o7, o7'⟩ := hO.1
  rw [yN2_11] at hN
  have hc := hc.resolve_left (by decide)
  have k := h5 (Or.inl rfl)
  by_cases g : ys_kd T n p = 3 ∧ ys_vl T n p < 4
  · rw [if_pos g] at hN
    by_cases g2 : a = 8
    · rw [if_pos g2] at hN
      cases hN
    · rw [if_neg g2] at hN
      cases hN
      exact yIw_11 h0 (Or.inr hc) k (Or.inr rfl)
  · rw [if_neg g] at hN
    cases hN
    obtain ⟨k1, k3, k4⟩ := h0
    have e : ∀ i, i ≠ 4 → yU d.1 4 (d.1 4 + 1) i = d.1 i := fun i hi => yU_n hi
    refine yIw_0 ⟨?_, fun s hs => ?_, fun q hq => ?_⟩ (Or.inl rfl) (by decide)
    · show (2 ≤ yU d.1 4 (d.1 4 + 1) 1 ∧ yU d.1 4 (d.1 4 + 1) 1 ≤ 8) ∧ 2 ≤ yU d.1 4 (d.1 4 + 1) 2 ∧ yU d.1 4 (d.1 4 + 1) 2 ≤ 8
      rw [e 1 (by decide), e 2 (by decide)]; exact k1
    · have hs : (s : Int) < d.1 4 + 1 := hs
      show 0 ≤ yU d.1 4 (d.1 4 + 1) (200 + s) ∧ yU d.1 4 (d.1 4 + 1) (200 + s) < yU d.1 4 (d.1 4 + 1) 1 * yU d.1 4 (d.1 4 + 1) 2
      rw [e _ (by omega), e 1 (by decide), e 2 (by decide)]
      by_cases h8 : (s : Int) < d.1 4
      · exact k3 s h8
      · rw [show s = (d.1 4).toNat by omega]; exact k
    · have hq : (q : Int) < yU d.1 4 (d.1 4 + 1) 6 := hq
      rw [e 6 (by decide)] at hq
      show 0 ≤ yU d.1 4 (d.1 4 + 1) (600 + q) ∧ yU d.1 4 (d.1 4 + 1) (600 + q) < yU d.1 4 (d.1 4 + 1) 1 * yU d.1 4 (d.1 4 + 1) 2
      rw [e _ (by omega), e 1 (by decide), e 2 (by decide)]
      exact k4 q hq
theorem yIw_m12 {T : Nat → Int} {n p : Nat} {lv : List Bool} {x a : Int} {y : Int32} {d : yLD} {s' : yL} (hv : yIv (12, lv, x, a, y, d, p)) (h : yIw (12, lv, x, a, y, d, p)) (hN : yN2 T n (12, lv, x, a, y, d, p) = .inl s') : yIw s' := by
  obtain ⟨h0, hc, h1, h2, h3, h4, h5⟩ := h
  dsimp only at h0 hc h1 h2 h3 h4 h5
  have hO : yOK d := hv.1
  obtain ⟨⟨o4, o4'⟩, ⟨o5, o5'⟩, ⟨o6, o6'⟩, o7, o7'⟩ := hO.1
  rw [yN2_12] at hN
  have hc := hc.resolve_left (by decide)
  obtain ⟨rfl, b1, b2⟩ := yNu_i hN
  have k := h5 (Or.inr rfl)
  have a8 := hv.2.2.2.1 rfl
  have a8 : a < 8 := a8
  have h8 := hv.2.1 (Or.inr (Or.inr (Or.inr (Or.inr rfl))))
  have h8 : d.1 4 < 8 := h8
  have e : ∀ i, i ≠ 300 + (8 * (d.1 4).toNat + a.toNat) → i ≠ 400 + (8 * (d.1 4).toNat + a.toNat) → i ≠ 220 + (d.1 4).toNat → (yWmk d a x (ys_vl T n p)).1 i = d.1 i := fun i i1 i2 i3 => (yW_n i3).trans ((yW_n i2).trans (yW_n i1))
  refine yIw_11 (yCl_e (d := d) (e 1 (by omega) (by omega) (by omega)) (e 2 (by omega) (by omega) (by omega)) (e 4 (by omega) (by omega) (by omega)) (e 6 (by omega) (by omega) (by omega)) (fun s hs => e _ (by omega) (by omega) (by omega)) (fun q hq => e _ (by omega) (by omega) (by omega)) h0) (Or.inr ?_) ?_ (Or.inl rfl)
  · rw [e 0 (by omega) (by omega) (by omega), e 4 (by omega) (by omega) (by omega), e 6 (by omega) (by omega) (by omega)]
    exact hc
  · rw [e 4 (by omega) (by omega) (by omega), e 1 (by omega) (by omega) (by omega), e 2 (by omega) (by omega) (by omega), e _ (by omega) (by omega) (by omega)]
    exact k
theorem yIw_m13 {T : Nat → Int} {n p : Nat} {lv : List Bool} {x a : Int} {y : Int32} {d : yLD} {s' : yL} (hv : yIv (13, lv, x, a, y, d, p)) (h : yIw (13, lv, x, a, y, d, p)) (hN : yN2 T n (13, lv, x, a, y, d, p) = .inl s') : yIw s' := by
  obtain ⟨h0, hc, h1, h2, h3, h4, h5⟩ := h
  dsimp only at h0 hc h1 h2 h3 h4 h5
  have hO : yOK d := hv.1
  obtain ⟨⟨o4, o4'⟩, ⟨o5, o5'⟩, ⟨o6, o6'⟩, o7, o7'⟩ := hO.1
  rw [yN2_13] at hN
  have hc := hc.resolve_left (by decide)
  have b5 := hv.2.2.2.2.1 rfl
  obtain ⟨b5, bx, -⟩ := b5
  have b5 : d.1 5 < 5 := b5
  have bx : 0 ≤ x := bx
  by_cases g : x < 3
  · rw [if_pos g] at hN
    obtain ⟨rfl, b1, b2⟩ := yNu_i hN
    refine yIw_0 (yCl_W h0 (by omega) (fun s hs => by omega) (fun q hq => by omega)) (Or.inr ?_) (by decide)
    rw [yW_n (by omega), yW_n (by omega), yW_n (by omega)]
    exact hc
  · rw [if_neg g] at hN
    obtain ⟨rfl, b1, b2⟩ := yNu_i hN
    have k := yCl_W (i := 500 + (4 * (d.1 5).toNat + 3)) (v := ys_vl T n p) h0 (by omega) (fun s hs => by omega) (fun q hq => by omega)
    exact yIw_0 (yCl_k (u := (yW d (500 + (4 * (d.1 5).toNat + 3)) (ys_vl T n p)).2.1) (f := (yW d (500 + (4 * (d.1 5).toNat + 3)) (ys_vl T n p)).2.2) k (by decide) (by decide)) (Or.inl rfl) (by decide)
theorem yIw_m15 {T : Nat → Int} {n p : Nat} {lv : List Bool} {x a : Int} {y : Int32} {d : yLD} {s' : yL} (hv : yIv (15, lv, x, a, y, d, p)) (h : yIw (15, lv, x, a, y, d, p)) (hN : yN2 T n (15, lv, x, a, y, d, p) = .inl s') : yIw s' := by
  obtain ⟨h0, hc, h1, h2, h3, h4, h5⟩ := h
  dsimp only at h0 hc h1 h2 h3 h4 h5
  have hO : yOK d := hv.1
  obtain ⟨⟨o4, o4'⟩, ⟨o5, o5'⟩, ⟨o6, o6'⟩, o7, o7'⟩ := hO.1
  rw [yN2_15] at hN
  have hc := hc.resolve_left (by decide)
  obtain ⟨rfl, b1, b2⟩ := yNu_i hN
  exact yIw_0 h0 (Or.inr hc) (by decide)
theorem yIw_m16 {T : Nat → Int} {n p : Nat} {lv : List Bool} {x a : Int} {y : Int32} {d : yLD} {s' : yL} (hv : yIv (16, lv, x, a, y, d, p)) (h : yIw (16, lv, x, a, y, d, p)) (hN : yN2 T n (16, lv, x, a, y, d, p) = .inl s') : yIw s' := by
  obtain ⟨h0, hc, h1, h2, h3, h4, h5⟩ := h
  dsimp only at h0 hc h1 h2 h3 h4 h5
  have hO : yOK d := hv.1
  obtain ⟨⟨o4, o4'⟩, ⟨o5, o5'⟩, ⟨o6, o6'⟩, o7, o7'⟩ := hO.1
  rw [yN2_16] at hN
  have hc := hc.resolve_left (by decide)
  obtain ⟨rfl, b1, b2⟩ := yNu_i hN
  exact yIw_0 h0 (Or.inr hc) (by decide)
theorem yIw_m17 {T : Nat → Int} {n p : Nat} {lv : List Bool} {x a : Int} {y : Int32} {d : yLD} {s' : yL} (hv : yIv (17, lv, x, a, y, d, p)) (h : yIw (17, lv, x, a, y, d, p)) (hN : yN2 T n (17, lv, x, a, y, d, p) = .inl s') : yIw s' := by
  obtain ⟨h0, hc, h1, h2, h3, h4, h5⟩ := h
  dsimp only at h0 hc h1 h2 h3 h4 h5
  have hO : yOK d := hv.1
  obtain ⟨⟨o4, o4'⟩, ⟨o5, o5'⟩, ⟨o6, o6'⟩, o7, o7'⟩ := hO.1
  rw [yN2_17] at hN
  obtain ⟨rfl, b1, b2⟩ := yNu_i hN
  have k := yCl_k (k := 8) (v := 1) (u := d.2.1) (f := d.2.2) h0 (by decide) (by decide)
  have k := yCl_W (i := 20) (v := x) k (by decide) (fun s _ => by omega) (fun q _ => by omega)
  exact yIw_0 (yCl_W (i := 21) (v := ys_vl T n p) k (by decide) (fun s _ => by omega) (fun q _ => by omega)) (Or.inl rfl) (by decide)
theorem yIw_m18 {T : Nat → Int} {n p : Nat} {lv : List Bool} {x a : Int} {y : Int32} {d : yLD} {s' : yL} (hv : yIv (18, lv, x, a, y, d, p)) (h : yIw (18, lv, x, a, y, d, p)) (hN : yN2 T n (18, lv, x, a, y, d, p) = .inl s') : yIw s' := by
  obtain ⟨h0, hc, h1, h2, h3, h4, h5⟩ := h
  dsimp only at h0 hc h1 h2 h3 h4 h5
  have hO : yOK d := hv.1
  obtain ⟨⟨o4, o4'⟩, ⟨o5, o5'⟩, ⟨o6, o6'⟩, o7, o7'⟩ := hO.1
  rw [yN2_18] at hN
  obtain ⟨rfl, b1, b2⟩ := yNu_i hN
  have k := yCl_k (k := 9) (v := 1) (u := d.2.1) (f := d.2.2) h0 (by decide) (by decide)
  exact yIw_0 (yCl_W (i := 22) (v := ys_vl T n p) k (by decide) (fun s _ => by omega) (fun q _ => by omega)) (Or.inl rfl) (by decide)
theorem yIw_m19 {T : Nat → Int} {n p : Nat} {lv : List Bool} {x a : Int} {y : Int32} {d : yLD} {s' : yL} (hv : yIv (19, lv, x, a, y, d, p)) (h : yIw (19, lv, x, a, y, d, p)) (hN : yN2 T n (19, lv, x, a, y, d, p) = .inl s') : yIw s' := by
  obtain ⟨h0, hc, h1, h2, h3, h4, h5⟩ := h
  dsimp only at h0 hc h1 h2 h3 h4 h5
  have hO : yOK d := hv.1
  obtain ⟨⟨o4, o4'⟩, ⟨o5, o5'⟩, ⟨o6, o6'⟩, o7, o7'⟩ := hO.1
  rw [yN2_19] at hN
  have hc := hc.resolve_left (by decide)
  obtain ⟨rfl, b1, b2⟩ := yNu_i hN
  exact yIw_9 h0 (Or.inr hc) ⟨b1, by omega⟩ (Or.inr rfl)
theorem yIw_m20 {T : Nat → Int} {n p : Nat} {lv : List Bool} {x a : Int} {y : Int32} {d : yLD} {s' : yL} (hv : yIv (20, lv, x, a, y, d, p)) (h : yIw (20, lv, x, a, y, d, p)) (hN : yN2 T n (20, lv, x, a, y, d, p) = .inl s') : yIw s' := by
  obtain ⟨h0, hc, h1, h2, h3, h4, h5⟩ := h
  dsimp only at h0 hc h1 h2 h3 h4 h5
  have hO : yOK d := hv.1
  obtain ⟨⟨o4, o4'⟩, ⟨o5, o5'⟩, ⟨o6, o6'⟩, o7, o7'⟩ := hO.1
  rw [yN2_20] at hN
  have hc := hc.resolve_left (by decide)
  obtain ⟨rfl, b1, b2⟩ := yNu_i hN
  have k := h3 (Or.inr rfl)
  exact yIw_10 h0 (Or.inr hc) (ycell h0.1.1.1 b1 b2 k.1 k.2) (Or.inr (Or.inl rfl))
theorem yIw_m21 {T : Nat → Int} {n p : Nat} {lv : List Bool} {x a : Int} {y : Int32} {d : yLD} {s' : yL} (hv : yIv (21, lv, x, a, y, d, p)) (h : yIw (21, lv, x, a, y, d, p)) (hN : yN2 T n (21, lv, x, a, y, d, p) = .inl s') : yIw s' := by
  obtain ⟨h0, hc, h1, h2, h3, h4, h5⟩ := h
  dsimp only at h0 hc h1 h2 h3 h4 h5
  have hO : yOK d := hv.1
  obtain ⟨⟨o4, o4'⟩, ⟨o5, o5'⟩, ⟨o6, o6'⟩, o7, o7'⟩ := hO.1
  rw [yN2_21] at hN
  have hc := hc.resolve_left (by decide)
  obtain ⟨rfl, b1, b2⟩ := yNu_i hN
  exact yIw_10 h0 (Or.inr hc) (h4 (Or.inr (Or.inl rfl))) (Or.inr (Or.inr rfl))
theorem yIw_m22 {T : Nat → Int} {n p : Nat} {lv : List Bool} {x a : Int} {y : Int32} {d : yLD} {s' : yL} (hv : yIv (22, lv, x, a, y, d, p)) (h : yIw (22, lv, x, a, y, d, p)) (hN : yN2 T n (22, lv, x, a, y, d, p) = .inl s') : yIw s' := by
  obtain ⟨h0, hc, h1, h2, h3, h4, h5⟩ := h
  dsimp only at h0 hc h1 h2 h3 h4 h5
  have hO : yOK d := hv.1
  obtain ⟨⟨o4, o4'⟩, ⟨o5, o5'⟩, ⟨o6, o6'⟩, o7, o7'⟩ := hO.1
  rw [yN2_22] at hN
  have hc := hc.resolve_left (by decide)
  have k := h4 (Or.inr (Or.inr rfl))
  have b6 := hv.2.2.2.2.2.1 (Or.inr (Or.inr (Or.inr rfl)))
  have b6 : d.1 6 < 4 := b6
  by_cases g : ys_kd T n p = 2
  · rw [if_pos g] at hN
    by_cases g1 : 9999 < ys_vl T n p
    · rw [if_pos g1] at hN
      cases hN
    rw [if_neg g1] at hN
    by_cases g2 : d.1 4 ≤ ys_vl T n p
    · rw [if_pos g2] at hN
      cases hN
    rw [if_neg g2] at hN
    by_cases g3 : y >>> (Int32.ofInt (ys_vl T n p) &&& 31) &&& Int32.ofInt 1 ≠ Int32.ofInt 0
    · rw [if_pos g3] at hN
      cases hN
    rw [if_neg g3] at hN
    cases hN
    exact yIw_10 h0 (Or.inr hc) k (Or.inr (Or.inr rfl))
  · rw [if_neg g] at hN
    cases hN
    obtain ⟨k1, k3, k4⟩ := h0
    have e : ∀ i, i ≠ 6 → i ≠ 600 + (d.1 6).toNat → i ≠ 610 + (d.1 6).toNat → i ≠ 620 + (d.1 6).toNat → (yWpi d x a y).1 i = d.1 i := fun i i0 i1 i2 i3 => (yW_n i3).trans ((yW_n i2).trans ((yW_n i1).trans (yU_n i0)))
    have e6 : (yWpi d x a y).1 6 = d.1 6 + 1 := (yW_n (by omega)).trans ((yW_n (by omega)).trans ((yW_n (by omega)).trans (show yU d.1 6 (d.1 6 + 1) 6 = d.1 6 + 1 from yU_e)))
    have e60 : (yWpi d x a y).1 (600 + (d.1 6).toNat) = x := (yW_n (by omega)).trans ((yW_n (by omega)).trans yW_e)
    have e1 := e 1 (by omega) (by omega) (by omega) (by omega)
    have e2 := e 2 (by omega) (by omega) (by omega) (by omega)
    have e4 := e 4 (by omega) (by omega) (by omega) (by omega)
    refine yIw_0 ⟨by rw [e1, e2]; exact k1, fun s hs => ?_, fun q hq => ?_⟩ (Or.inl rfl) (by decide)
    · rw [e4] at hs
      rw [e _ (by omega) (by omega) (by omega) (by omega), e1, e2]
      exact k3 s hs
    · rw [e6] at hq
      rw [e1, e2]
      by_cases h8 : (q : Int) < d.1 6
      · rw [e _ (by omega) (by omega) (by omega) (by omega)]
        exact k4 q h8
      · rw [show q = (d.1 6).toNat by omega, e60]; exact k
theorem yIw_m40 {T : Nat → Int} {n p : Nat} {lv : List Bool} {x a : Int} {y : Int32} {d : yLD} {s' : yL} (hv : yIv (40, lv, x, a, y, d, p)) (h : yIw (40, lv, x, a, y, d, p)) (hN : yN2 T n (40, lv, x, a, y, d, p) = .inl s') : yIw s' := by
  obtain ⟨h0, hc, h1, h2, h3, h4, h5⟩ := h
  dsimp only at h0 hc h1 h2 h3 h4 h5
  have hO : yOK d := hv.1
  obtain ⟨⟨o4, o4'⟩, ⟨o5, o5'⟩, ⟨o6, o6'⟩, o7, o7'⟩ := hO.1
  rw [yN2_40] at hN
  have hc := hc.resolve_left (by decide)
  by_cases g : ys_kd T n p = 3 ∧ ys_vl T n p = 11
  · rw [if_pos g] at hN
    cases hN
    exact yIw_0 h0 (Or.inr hc) (by decide)
  · rw [if_neg g] at hN
    cases hN
theorem yIw_m41 {T : Nat → Int} {n p : Nat} {lv : List Bool} {x a : Int} {y : Int32} {d : yLD} {s' : yL} (hv : yIv (41, lv, x, a, y, d, p)) (h : yIw (41, lv, x, a, y, d, p)) (hN : yN2 T n (41, lv, x, a, y, d, p) = .inl s') : yIw s' := by
  obtain ⟨h0, hc, h1, h2, h3, h4, h5⟩ := h
  dsimp only at h0 hc h1 h2 h3 h4 h5
  have hO : yOK d := hv.1
  obtain ⟨⟨o4, o4'⟩, ⟨o5, o5'⟩, ⟨o6, o6'⟩, o7, o7'⟩ := hO.1
  rw [yN2_41] at hN
  have b7 := hv.2.2.2.2.2.2 (Or.inr (Or.inr rfl))
  have b7 : d.1 7 < 8 := b7
  by_cases g : ys_kd T n p = 3 ∧ ys_vl T n p < 4
  · rw [if_pos g] at hN
    cases hN
    have k := yCl_k (k := 7) (v := d.1 7 + 1) (u := d.2.1) (f := d.2.2) h0 (by decide) (by decide)
    exact yIw_0 (yCl_W (i := 700 + (d.1 7).toNat) (v := ys_vl T n p) k (by omega) (fun s hs => by have hs : (s : Int) < d.1 4 := hs; omega) (fun q hq => by have hq : (q : Int) < d.1 6 := hq; omega)) (Or.inl rfl) (by decide)
  · rw [if_neg g] at hN
    cases hN
theorem yIw_s {T : Nat → Int} {n : Nat} {s s' : yL} (hv : yIv s) (h : yIw s) (hN : yN2 T n s = .inl s') : yIw s' := by
  obtain ⟨m, lv, x, a, y, d, p⟩ := s
  by_cases hm : 100 ≤ m
  · have h0 : yCl d := h.1
    have hc : m = 50 ∨ (d.1 0 ≠ 0 → d.1 4 = 0 ∧ d.1 6 = 0) := h.2.1
    unfold yN2 at hN
    rw [if_pos hm] at hN
    split at hN
    · cases hN
      exact yIw_0 h0 (Or.inr (hc.resolve_left (by omega))) (by omega)
    · split at hN
      · cases hN
        exact yIw_0 h0 (Or.inr (hc.resolve_left (by omega))) (by omega)
      · cases hN
  by_cases k0 : m = 0
  · subst k0
    exact yIw_m0 hv h hN
  by_cases k1 : m = 1
  · subst k1
    exact yIw_m1 hv h hN
  by_cases k2 : m = 2
  · subst k2
    exact yIw_m2 hv h hN
  by_cases k3 : m = 3
  · subst k3
    exact yIw_m3 hv h hN
  by_cases k4 : m = 4
  · subst k4
    exact yIw_m4 hv h hN
  by_cases k5 : m = 5
  · subst k5
    exact yIw_m5 hv h hN
  by_cases k6 : m = 6
  · subst k6
    exact yIw_m6 hv h hN
  by_cases k7 : m = 7
  · subst k7
    exact yIw_m7 hv h hN
  by_cases k8 : m = 8
  · subst k8
    exact yIw_m8 hv h hN
  by_cases k9 : m = 9
  · subst k9
    exact yIw_m9 hv h hN
  by_cases k10 : m = 10
  · subst k10
    exact yIw_m10 hv h hN
  by_cases k11 : m = 11
  · subst k11
    exact yIw_m11 hv h hN
  by_cases k12 : m = 12
  · subst k12
    exact yIw_m12 hv h hN
  by_cases k13 : m = 13
  · subst k13
    exact yIw_m13 hv h hN
  by_cases k15 : m = 15
  · subst k15
    exact yIw_m15 hv h hN
  by_cases k16 : m = 16
  · subst k16
    exact yIw_m16 hv h hN
  by_cases k17 : m = 17
  · subst k17
    exact yIw_m17 hv h hN
  by_cases k18 : m = 18
  · subst k18
    exact yIw_m18 hv h hN
  by_cases k19 : m = 19
  · subst k19
    exact yIw_m19 hv h hN
  by_cases k20 : m = 20
  · subst k20
    exact yIw_m20 hv h hN
  by_cases k21 : m = 21
  · subst k21
    exact yIw_m21 hv h hN
  by_cases k22 : m = 22
  · subst k22
    exact yIw_m22 hv h hN
  by_cases k40 : m = 40
  · subst k40
    exact yIw_m40 hv h hN
  by_cases k41 : m = 41
  · subst k41
    exact yIw_m41 hv h hN
  have e : yN2 T n (m, lv, x, a, y, d, p) = (if ys_kd T n p = 4 ∧ ys_vl T n p = 59 then .inl (0, [], 0, 0, 0, (yU d.1 0 0, d.2), ys_nx T n p) else .inr (1, p)) := by
    unfold yN2
    rw [if_neg hm, if_neg k0, if_neg k1, if_neg k2, if_neg k3, if_neg k4, if_neg k5, if_neg k6, if_neg k7, if_neg k8, if_neg k9, if_neg k10, if_neg k11, if_neg k12, if_neg k13, if_neg k15, if_neg k16, if_neg k17, if_neg k18, if_neg k19, if_neg k20, if_neg k21, if_neg k22, if_neg k40, if_neg k41]
  rw [e] at hN
  by_cases g : ys_kd T n p = 4 ∧ ys_vl T n p = 59
  · rw [if_pos g] at hN
    cases hN
    have e0 : ∀ i, i ≠ 0 → (yU d.1 0 0, d.2).1 i = d.1 i := fun i hi => (show yU d.1 0 0 i = d.1 i from yU_n hi)
    exact yIw_0 (yCl_e (d := d) (d' := (yU d.1 0 0, d.2)) (e0 1 (by decide)) (e0 2 (by decide)) (e0 4 (by decide)) (e0 6 (by decide)) (fun s _ => e0 _ (by omega)) (fun q _ => e0 _ (by omega)) h.1) (Or.inr (fun h9 => absurd (show yU d.1 0 0 0 = 0 from yU_e) h9)) (by decide)
  · rw [if_neg g] at hN
    cases hN
theorem yIw_it {T : Nat → Int} {n : Nat} {t : yL} : ∀ (f : Nat) (s : yL), yIv s → yIw s → yIt T n f s = some t → yIw t
  | 0, s, _, h, e => by
    have e : s = t := Option.some.inj e
    rw [← e]
    exact h
  | f + 1, s, hv, h, e => by
    have e : (match yN2 T n s with
      | .inr _ => none
      | .inl s' => yIt T n f s') = some t := e
    cases hN : yN2 T n s with
    | inr r =>
      rw [hN] at e
      cases e
    | inl s' =>
      rw [hN] at e
      exact yIw_it f s' (yIv_s hv hN) (yIw_s hv h hN) e
/-- cells that a text told by its end lie within its sea -/
theorem yCl_end {T : Nat → Int} {n q : Nat} {d : yLD} (h : yR2 T n y00 (0, [], 0, 0, 0, d, q)) : yCl d := by
  obtain ⟨f, hf⟩ := h (.inr (0, [], 0, 0, 0, d, q)) ⟨0, rfl⟩
  exact (yIw_it f y00 (yIv_0 y00_ok (by omega)) (yIw_0 ⟨by decide, fun s hs => by
    have hs : (s : Int) < 0 := hs
    omega, fun q hq => by
    have hq : (q : Int) < 0 := hq
    omega⟩ (Or.inr (fun _ => by decide)) (by decide)) hf).1
end
section
/-! ===== feed of both sides, exactly: the tapes hold the same bytes ===== -/
def zm_17 : za_MI := (yX11_feed, prog_1_method_2_code, 6, (some FieldType.int), 11, 0, 0, [], za_i17)
theorem zm_17_t : za_MT 17 = some zm_17 := rfl
def zm_18 : za_MI := (yX11_putNumber, prog_1_method_3_code, 3, none, 11, 0, 0, [], za_i18)
theorem zm_18_t : za_MT 18 = some zm_18 := rfl
def zm_167 : za_MI := (yX12_feed, prog_14_method_8_code, 6, (some FieldType.int), 12, 0, 0, [], za_i167)
theorem zm_167_t : za_MT 167 = some zm_167 := rfl
def zm_168 : za_MI := (yX12_lays, prog_14_method_9_code, 3, none, 12, 0, 0, [], za_i168)
theorem zm_168_t : za_MT 168 = some zm_168 := rfl
/-- a number lies on the tape, m bytes of it, from n on -/
def yfC (v : Int32) (m n : Nat) (H H' : zp_H) : Prop := (H'.2.1 0 1).toInt = n + m ∧ (∀ j, j < m → H'.2.1 1 (n + j) = zp_nar 1 (v >>> (Int32.ofInt (8 * (m - 1 - j) : Nat) &&& 31)).toInt8.toInt32) ∧ (∀ k, k < n → H'.2.1 1 k = H.2.1 1 k) ∧ ∀ p k, p ≠ 0 → p ≠ 1 → H'.2.1 p k = H.2.1 p k

set_option maxRecDepth 8000 in
theorem yfC_s {v u : Int32} {m n : Nat} {H H' : zp_H} (h1 : (H.2.1 0 1).toInt = n) (h : yfC v m (n + 1) (zw_I (zw_I H 1 (H.2.1 0 1).toInt.toNat (zp_nar 1 (v >>> (Int32.ofInt (8 * m : Nat) &&& 31)).toInt8.toInt32)) 0 1 u) H') : yfC v (m + 1) n H H' := by
  obtain ⟨a, b, c, o⟩ := h
  have e : (H.2.1 0 1).toInt.toNat = n := by omega
  refine ⟨by omega, fun j hj => ?_, fun k hk => ?_, fun p k hp1 hp2 => (o p k hp1 hp2).trans ((y_ne (fun h9 => hp1 h9.1)).trans (y_ne (fun h9 => hp2 h9.1)))⟩
  · by_cases hj0 : j = 0
    · subst hj0
      rw [Nat.add_zero, c n (by omega), show m + 1 - 1 - 0 = m from rfl]
      refine (y_ne (fun h9 => absurd h9.1 (by decide))).trans ?_
      rw [e]
      exact zw_eq
    · have h9 := b (j - 1) (by omega)
      rw [show n + 1 + (j - 1) = n + j by omega, show m - 1 - (j - 1) = m + 1 - 1 - j by omega] at h9
      exact h9
  · rw [c k (by omega)]
    refine (y_ne (fun h9 => absurd h9.1 (by decide))).trans (y_ne (fun h9 => ?_))
    have := h9.2
    omega

set_option maxRecDepth 8000 in
theorem yfC0 {L : Nat} {σ : Nat → Int32} {d : Nat} {v s : Int32} {P : zp_X → Prop} {n : Nat} {H : zp_H} {lv : zp_LV} (W : zw_W H) (h1 : (H.2.1 0 1).toInt = n) (hn : n + 0 ≤ 700) (l0 : zp_get lv 0 = some (.inr (.inr (some 1)))) (l1 : zp_get lv 1 = some (.inl v)) (l2 : zp_get lv 2 = some (.inl s)) (hs : s = Int32.ofInt (-8)) (hk : ∀ H', zw_W H' → yfC v 0 n H H' → P (.inl none, H')) : zs_Safe L σ P zm_18 [] d (3, lv, [], H, (0, 0)) := by
  subst hs
  refine zw_ld (n := 1) (k := 2) (f := zp_isI) (pc' := 4) rfl rfl l2 rfl rfl ?_
  refine zw_blt1 (g := 46) (pc' := 7) rfl rfl rfl (rfl : _ = (-8 : Int)) (fun hb => ?_) (fun h9 => absurd h9 (by decide))
  refine zw_rn rfl rfl ?_
  exact hk H W ⟨by omega, fun j hj => by omega, fun _ _ => rfl, fun _ _ _ _ => rfl⟩

set_option maxRecDepth 8000 in
theorem yfC1 {L : Nat} {σ : Nat → Int32} {d : Nat} {v s : Int32} {P : zp_X → Prop} {n : Nat} {H : zp_H} {lv : zp_LV} (W : zw_W H) (h1 : (H.2.1 0 1).toInt = n) (hn : n + 1 ≤ 700) (l0 : zp_get lv 0 = some (.inr (.inr (some 1)))) (l1 : zp_get lv 1 = some (.inl v)) (l2 : zp_get lv 2 = some (.inl s)) (hs : s = Int32.ofInt (0)) (hk : ∀ H', zw_W H' → yfC v 1 n H H' → P (.inl none, H')) : zs_Safe L σ P zm_18 [] d (3, lv, [], H, (0, 0)) := by
  subst hs
  refine zw_ld (n := 1) (k := 2) (f := zp_isI) (pc' := 4) rfl rfl l2 rfl rfl ?_
  refine zw_blt1 (g := 46) (pc' := 7) rfl rfl rfl (rfl : _ = (0 : Int)) (fun h9 => absurd h9 (by decide)) (fun hb => ?_)
  refine zw_ld (n := 1) (k := 0) (f := zp_isR) (pc' := 8) rfl rfl l0 rfl rfl ?_
  refine zw_gI (q := 0) (pc' := 11) W rfl rfl rfl rfl rfl rfl ?_
  refine zw_s (pc' := 14) rfl rfl ?_
  refine zw_bge2 (g := 46) (pc' := 17) rfl rfl rfl rfl (rfl : _ = (700 : Int)) (fun h7 => ?_) (fun h7 => ?_)
  · omega
  · have e1 : (H.2.1 0 1 + Int32.ofInt 1).toInt = n + 1 := by rw [zw_p1 (by omega)]; omega
    refine zw_ld (n := 1) (k := 0) (f := zp_isR) (pc' := 18) rfl rfl l0 rfl rfl ?_
    refine zw_gR (q := 0) (pc' := 21) W rfl rfl rfl rfl (W.2 0 0 _ rfl) rfl ?_
    refine zw_ld (n := 1) (k := 0) (f := zp_isR) (pc' := 22) rfl rfl l0 rfl rfl ?_
    refine zw_gI (q := 0) (pc' := 25) W rfl rfl rfl rfl rfl rfl ?_
    refine zw_ld (n := 1) (k := 1) (f := zp_isI) (pc' := 26) rfl rfl l1 rfl rfl ?_
    refine zw_ld (n := 1) (k := 2) (f := zp_isI) (pc' := 27) rfl rfl l2 rfl rfl ?_
    refine zw_ishr (pc' := 28) rfl rfl ?_
    refine zw_s (pc' := 29) rfl rfl ?_
    refine zw_bs (q := 1) (pc' := 30) W rfl rfl (by decide) (⟨by omega, by show _ < ((700 : Nat) : Int); omega⟩) rfl ?_
    refine zw_ld (n := 1) (k := 0) (f := zp_isR) (pc' := 31) rfl rfl l0 rfl rfl ?_
    refine zw_s (pc' := 32) rfl rfl ?_
    refine zw_gI (q := 0) (pc' := 35) W rfl rfl rfl rfl (zw_ne rfl rfl) rfl ?_
    refine zw_s (pc' := 36) rfl rfl ?_
    refine zw_iadd (pc' := 37) rfl rfl ?_
    refine zw_pI (q := 0) (pc' := 40) W rfl rfl rfl rfl rfl rfl ?_
    refine zw_ii (pc' := 43) rfl l2 rfl rfl ?_
    refine zw_s (pc' := 3) rfl rfl ?_
    exact yfC0 (n := n + 1) (zw_W_I (zw_W_I W)) ((congrArg Int32.toInt zw_eq).trans e1) (by omega) (zw_gt l0 rfl rfl) (zw_gt l1 rfl rfl) zw_g1 (by decide) (fun H' W' h => hk H' W' (yfC_s h1 h))

set_option maxRecDepth 8000 in
theorem yfC2 {L : Nat} {σ : Nat → Int32} {d : Nat} {v s : Int32} {P : zp_X → Prop} {n : Nat} {H : zp_H} {lv : zp_LV} (W : zw_W H) (h1 : (H.2.1 0 1).toInt = n) (hn : n + 2 ≤ 700) (l0 : zp_get lv 0 = some (.inr (.inr (some 1)))) (l1 : zp_get lv 1 = some (.inl v)) (l2 : zp_get lv 2 = some (.inl s)) (hs : s = Int32.ofInt (8)) (hk : ∀ H', zw_W H' → yfC v 2 n H H' → P (.inl none, H')) : zs_Safe L σ P zm_18 [] d (3, lv, [], H, (0, 0)) := by
  subst hs
  refine zw_ld (n := 1) (k := 2) (f := zp_isI) (pc' := 4) rfl rfl l2 rfl rfl ?_
  refine zw_blt1 (g := 46) (pc' := 7) rfl rfl rfl (rfl : _ = (8 : Int)) (fun h9 => absurd h9 (by decide)) (fun hb => ?_)
  refine zw_ld (n := 1) (k := 0) (f := zp_isR) (pc' := 8) rfl rfl l0 rfl rfl ?_
  refine zw_gI (q := 0) (pc' := 11) W rfl rfl rfl rfl rfl rfl ?_
  refine zw_s (pc' := 14) rfl rfl ?_
  refine zw_bge2 (g := 46) (pc' := 17) rfl rfl rfl rfl (rfl : _ = (700 : Int)) (fun h7 => ?_) (fun h7 => ?_)
  · omega
  · have e1 : (H.2.1 0 1 + Int32.ofInt 1).toInt = n + 1 := by rw [zw_p1 (by omega)]; omega
    refine zw_ld (n := 1) (k := 0) (f := zp_isR) (pc' := 18) rfl rfl l0 rfl rfl ?_
    refine zw_gR (q := 0) (pc' := 21) W rfl rfl rfl rfl (W.2 0 0 _ rfl) rfl ?_
    refine zw_ld (n := 1) (k := 0) (f := zp_isR) (pc' := 22) rfl rfl l0 rfl rfl ?_
    refine zw_gI (q := 0) (pc' := 25) W rfl rfl rfl rfl rfl rfl ?_
    refine zw_ld (n := 1) (k := 1) (f := zp_isI) (pc' := 26) rfl rfl l1 rfl rfl ?_
    refine zw_ld (n := 1) (k := 2) (f := zp_isI) (pc' := 27) rfl rfl l2 rfl rfl ?_
    refine zw_ishr (pc' := 28) rfl rfl ?_
    refine zw_s (pc' := 29) rfl rfl ?_
    refine zw_bs (q := 1) (pc' := 30) W rfl rfl (by decide) (⟨by omega, by show _ < ((700 : Nat) : Int); omega⟩) rfl ?_
    refine zw_ld (n := 1) (k := 0) (f := zp_isR) (pc' := 31) rfl rfl l0 rfl rfl ?_
    refine zw_s (pc' := 32) rfl rfl ?_
    refine zw_gI (q := 0) (pc' := 35) W rfl rfl rfl rfl (zw_ne rfl rfl) rfl ?_
    refine zw_s (pc' := 36) rfl rfl ?_
    refine zw_iadd (pc' := 37) rfl rfl ?_
    refine zw_pI (q := 0) (pc' := 40) W rfl rfl rfl rfl rfl rfl ?_
    refine zw_ii (pc' := 43) rfl l2 rfl rfl ?_
    refine zw_s (pc' := 3) rfl rfl ?_
    exact yfC1 (n := n + 1) (zw_W_I (zw_W_I W)) ((congrArg Int32.toInt zw_eq).trans e1) (by omega) (zw_gt l0 rfl rfl) (zw_gt l1 rfl rfl) zw_g1 (by decide) (fun H' W' h => hk H' W' (yfC_s h1 h))

set_option maxRecDepth 8000 in
theorem yfC3 {L : Nat} {σ : Nat → Int32} {d : Nat} {v s : Int32} {P : zp_X → Prop} {n : Nat} {H : zp_H} {lv : zp_LV} (W : zw_W H) (h1 : (H.2.1 0 1).toInt = n) (hn : n + 3 ≤ 700) (l0 : zp_get lv 0 = some (.inr (.inr (some 1)))) (l1 : zp_get lv 1 = some (.inl v)) (l2 : zp_get lv 2 = some (.inl s)) (hs : s = Int32.ofInt (16)) (hk : ∀ H', zw_W H' → yfC v 3 n H H' → P (.inl none, H')) : zs_Safe L σ P zm_18 [] d (3, lv, [], H, (0, 0)) := by
  subst hs
  refine zw_ld (n := 1) (k := 2) (f := zp_isI) (pc' := 4) rfl rfl l2 rfl rfl ?_
  refine zw_blt1 (g := 46) (pc' := 7) rfl rfl rfl (rfl : _ = (16 : Int)) (fun h9 => absurd h9 (by decide)) (fun hb => ?_)
  refine zw_ld (n := 1) (k := 0) (f := zp_isR) (pc' := 8) rfl rfl l0 rfl rfl ?_
  refine zw_gI (q := 0) (pc' := 11) W rfl rfl rfl rfl rfl rfl ?_
  refine zw_s (pc' := 14) rfl rfl ?_
  refine zw_bge2 (g := 46) (pc' := 17) rfl rfl rfl rfl (rfl : _ = (700 : Int)) (fun h7 => ?_) (fun h7 => ?_)
  · omega
  · have e1 : (H.2.1 0 1 + Int32.ofInt 1).toInt = n + 1 := by rw [zw_p1 (by omega)]; omega
    refine zw_ld (n := 1) (k := 0) (f := zp_isR) (pc' := 18) rfl rfl l0 rfl rfl ?_
    refine zw_gR (q := 0) (pc' := 21) W rfl rfl rfl rfl (W.2 0 0 _ rfl) rfl ?_
    refine zw_ld (n := 1) (k := 0) (f := zp_isR) (pc' := 22) rfl rfl l0 rfl rfl ?_
    refine zw_gI (q := 0) (pc' := 25) W rfl rfl rfl rfl rfl rfl ?_
    refine zw_ld (n := 1) (k := 1) (f := zp_isI) (pc' := 26) rfl rfl l1 rfl rfl ?_
    refine zw_ld (n := 1) (k := 2) (f := zp_isI) (pc' := 27) rfl rfl l2 rfl rfl ?_
    refine zw_ishr (pc' := 28) rfl rfl ?_
    refine zw_s (pc' := 29) rfl rfl ?_
    refine zw_bs (q := 1) (pc' := 30) W rfl rfl (by decide) (⟨by omega, by show _ < ((700 : Nat) : Int); omega⟩) rfl ?_
    refine zw_ld (n := 1) (k := 0) (f := zp_isR) (pc' := 31) rfl rfl l0 rfl rfl ?_
    refine zw_s (pc' := 32) rfl rfl ?_
    refine zw_gI (q := 0) (pc' := 35) W rfl rfl rfl rfl (zw_ne rfl rfl) rfl ?_
    refine zw_s (pc' := 36) rfl rfl ?_
    refine zw_iadd (pc' := 37) rfl rfl ?_
    refine zw_pI (q := 0) (pc' := 40) W rfl rfl rfl rfl rfl rfl ?_
    refine zw_ii (pc' := 43) rfl l2 rfl rfl ?_
    refine zw_s (pc' := 3) rfl rfl ?_
    exact yfC2 (n := n + 1) (zw_W_I (zw_W_I W)) ((congrArg Int32.toInt zw_eq).trans e1) (by omega) (zw_gt l0 rfl rfl) (zw_gt l1 rfl rfl) zw_g1 (by decide) (fun H' W' h => hk H' W' (yfC_s h1 h))

set_option maxRecDepth 8000 in
theorem yfC4 {L : Nat} {σ : Nat → Int32} {d : Nat} {v s : Int32} {P : zp_X → Prop} {n : Nat} {H : zp_H} {lv : zp_LV} (W : zw_W H) (h1 : (H.2.1 0 1).toInt = n) (hn : n + 4 ≤ 700) (l0 : zp_get lv 0 = some (.inr (.inr (some 1)))) (l1 : zp_get lv 1 = some (.inl v)) (l2 : zp_get lv 2 = some (.inl s)) (hs : s = Int32.ofInt (24)) (hk : ∀ H', zw_W H' → yfC v 4 n H H' → P (.inl none, H')) : zs_Safe L σ P zm_18 [] d (3, lv, [], H, (0, 0)) := by
  subst hs
  refine zw_ld (n := 1) (k := 2) (f := zp_isI) (pc' := 4) rfl rfl l2 rfl rfl ?_
  refine zw_blt1 (g := 46) (pc' := 7) rfl rfl rfl (rfl : _ = (24 : Int)) (fun h9 => absurd h9 (by decide)) (fun hb => ?_)
  refine zw_ld (n := 1) (k := 0) (f := zp_isR) (pc' := 8) rfl rfl l0 rfl rfl ?_
  refine zw_gI (q := 0) (pc' := 11) W rfl rfl rfl rfl rfl rfl ?_
  refine zw_s (pc' := 14) rfl rfl ?_
  refine zw_bge2 (g := 46) (pc' := 17) rfl rfl rfl rfl (rfl : _ = (700 : Int)) (fun h7 => ?_) (fun h7 => ?_)
  · omega
  · have e1 : (H.2.1 0 1 + Int32.ofInt 1).toInt = n + 1 := by rw [zw_p1 (by omega)]; omega
    refine zw_ld (n := 1) (k := 0) (f := zp_isR) (pc' := 18) rfl rfl l0 rfl rfl ?_
    refine zw_gR (q := 0) (pc' := 21) W rfl rfl rfl rfl (W.2 0 0 _ rfl) rfl ?_
    refine zw_ld (n := 1) (k := 0) (f := zp_isR) (pc' := 22) rfl rfl l0 rfl rfl ?_
    refine zw_gI (q := 0) (pc' := 25) W rfl rfl rfl rfl rfl rfl ?_
    refine zw_ld (n := 1) (k := 1) (f := zp_isI) (pc' := 26) rfl rfl l1 rfl rfl ?_
    refine zw_ld (n := 1) (k := 2) (f := zp_isI) (pc' := 27) rfl rfl l2 rfl rfl ?_
    refine zw_ishr (pc' := 28) rfl rfl ?_
    refine zw_s (pc' := 29) rfl rfl ?_
    refine zw_bs (q := 1) (pc' := 30) W rfl rfl (by decide) (⟨by omega, by show _ < ((700 : Nat) : Int); omega⟩) rfl ?_
    refine zw_ld (n := 1) (k := 0) (f := zp_isR) (pc' := 31) rfl rfl l0 rfl rfl ?_
    refine zw_s (pc' := 32) rfl rfl ?_
    refine zw_gI (q := 0) (pc' := 35) W rfl rfl rfl rfl (zw_ne rfl rfl) rfl ?_
    refine zw_s (pc' := 36) rfl rfl ?_
    refine zw_iadd (pc' := 37) rfl rfl ?_
    refine zw_pI (q := 0) (pc' := 40) W rfl rfl rfl rfl rfl rfl ?_
    refine zw_ii (pc' := 43) rfl l2 rfl rfl ?_
    refine zw_s (pc' := 3) rfl rfl ?_
    exact yfC3 (n := n + 1) (zw_W_I (zw_W_I W)) ((congrArg Int32.toInt zw_eq).trans e1) (by omega) (zw_gt l0 rfl rfl) (zw_gt l1 rfl rfl) zw_g1 (by decide) (fun H' W' h => hk H' W' (yfC_s h1 h))

set_option maxRecDepth 8000 in
theorem yfC_put {L : Nat} {σ : Nat → Int32} {d : Nat} {v : Int32} {n : Nat} {H : zp_H} (W : zw_W H) (h1 : (H.2.1 0 1).toInt = n) (hn : n + 4 ≤ 700) : ∃ X, zp_Call L σ (d + 1) 18 [.inr (.inr (some 1)), .inl v] H X ∧ ∃ H', X = (.inl none, H') ∧ zw_W H' ∧ yfC v 4 n H H' := by
  refine zw_met zm_18_t rfl rfl ?_
  refine zw_s (pc' := 2) rfl rfl ?_
  refine zw_st (n := 1) (k := 2) (f := zp_isI) (pc' := 3) rfl rfl rfl rfl rfl ?_
  exact yfC4 W h1 hn (zw_gt rfl rfl rfl) (zw_gt rfl rfl rfl) zw_g1 rfl (fun H' W' h => ⟨H', rfl, W', h⟩)

set_option maxRecDepth 8000 in
theorem yfC_feed {L : Nat} {σ : Nat → Int32} {d : Nat} {x1 x2 x3 x4 x5 : Int32} {n : Nat} {H : zp_H} (W : zw_W H) (h1 : (H.2.1 0 1).toInt = n) (hn : n ≤ 700) : ∃ X, zp_Call L σ (d + 2) 17 [.inr (.inr (some 1)), .inl x1, .inl x2, .inl x3, .inl x4, .inl x5] H X ∧ ∃ H' u, X = (.inl (some (.inl u)), H') ∧ zw_W H' ∧ (n + 20 ≤ 700 → ∃ Ha Hb Hc Hd, yfC x1 4 n (H) Ha ∧ yfC x2 4 (n + 4) Ha Hb ∧ yfC x3 4 (n + 8) Hb Hc ∧ yfC x4 4 (n + 12) Hc Hd ∧ yfC x5 4 (n + 16) Hd H') ∧ (¬ n + 20 ≤ 700 → H' = H) := by
  refine zw_met zm_17_t rfl rfl ?_
  refine zw_ld (n := 1) (k := 0) (f := zp_isR) (pc' := 1) rfl rfl rfl rfl rfl ?_
  refine zw_gI (q := 0) (pc' := 4) W rfl rfl rfl rfl rfl rfl ?_
  refine zw_s (pc' := 7) rfl rfl ?_
  refine zw_ble2 (g := 12) (pc' := 10) rfl rfl rfl rfl (rfl : _ = (680 : Int)) (fun h7 => ?_) (fun h7 => ?_)
  · obtain ⟨_, c0, H1, rfl, W1, k0⟩ := yfC_put (L := L) (σ := σ) (d := d) (v := x1) (n := n) (H := H) W h1 (by omega)
    refine zw_ld (n := 1) (k := 0) (f := zp_isR) (pc' := 13) rfl rfl rfl rfl rfl ?_
    refine zw_ld (n := 1) (k := 1) (f := zp_isI) (pc' := 14) rfl rfl rfl rfl rfl ?_
    refine zw_cn (pc' := 17) (zw_cv (q := 0) (Y := zm_18) W.1 rfl rfl zm_18_t rfl rfl) rfl rfl rfl rfl rfl (c0) ?_
    obtain ⟨_, c1, H2, rfl, W2, k1⟩ := yfC_put (L := L) (σ := σ) (d := d) (v := x2) (n := n + 4) (H := H1) W1 k0.1 (by omega)
    refine zw_ld (n := 1) (k := 0) (f := zp_isR) (pc' := 18) rfl rfl rfl rfl rfl ?_
    refine zw_ld (n := 1) (k := 2) (f := zp_isI) (pc' := 19) rfl rfl rfl rfl rfl ?_
    refine zw_cn (pc' := 22) (zw_cv (q := 0) (Y := zm_18) W1.1 rfl rfl zm_18_t rfl rfl) rfl rfl rfl rfl rfl (c1) ?_
    obtain ⟨_, c2, H3, rfl, W3, k2⟩ := yfC_put (L := L) (σ := σ) (d := d) (v := x3) (n := n + 8) (H := H2) W2 k1.1 (by omega)
    refine zw_ld (n := 1) (k := 0) (f := zp_isR) (pc' := 23) rfl rfl rfl rfl rfl ?_
    refine zw_ld (n := 1) (k := 3) (f := zp_isI) (pc' := 24) rfl rfl rfl rfl rfl ?_
    refine zw_cn (pc' := 27) (zw_cv (q := 0) (Y := zm_18) W2.1 rfl rfl zm_18_t rfl rfl) rfl rfl rfl rfl rfl (c2) ?_
    obtain ⟨_, c3, H4, rfl, W4, k3⟩ := yfC_put (L := L) (σ := σ) (d := d) (v := x4) (n := n + 12) (H := H3) W3 k2.1 (by omega)
    refine zw_ld (n := 1) (k := 0) (f := zp_isR) (pc' := 28) rfl rfl rfl rfl rfl ?_
    refine zw_ld (n := 2) (k := 4) (f := zp_isI) (pc' := 30) rfl rfl rfl rfl rfl ?_
    refine zw_cn (pc' := 33) (zw_cv (q := 0) (Y := zm_18) W3.1 rfl rfl zm_18_t rfl rfl) rfl rfl rfl rfl rfl (c3) ?_
    obtain ⟨_, c4, H5, rfl, W5, k4⟩ := yfC_put (L := L) (σ := σ) (d := d) (v := x5) (n := n + 16) (H := H4) W4 k3.1 (by omega)
    refine zw_ld (n := 1) (k := 0) (f := zp_isR) (pc' := 34) rfl rfl rfl rfl rfl ?_
    refine zw_ld (n := 2) (k := 5) (f := zp_isI) (pc' := 36) rfl rfl rfl rfl rfl ?_
    refine zw_cn (pc' := 39) (zw_cv (q := 0) (Y := zm_18) W4.1 rfl rfl zm_18_t rfl rfl) rfl rfl rfl rfl rfl (c4) ?_
    refine zw_ld (n := 1) (k := 0) (f := zp_isR) (pc' := 40) rfl rfl rfl rfl rfl ?_
    refine zw_gI (q := 0) (pc' := 43) W5 rfl rfl rfl rfl rfl rfl ?_
    refine zw_ri rfl rfl ?_
    exact ⟨H5, _, rfl, W5, fun _ => ⟨H1, H2, H3, H4, k0, k1, k2, k3, k4⟩, fun h9 => by omega⟩
  · refine zw_s (pc' := 11) rfl rfl ?_
    refine zw_ri rfl rfl ?_
    exact ⟨H, _, rfl, W, fun h9 => by omega, fun _ => rfl⟩

/-- a number lies on the tape, m bytes of it, from n on -/
def yfR (v : Int32) (m n : Nat) (H H' : zp_H) : Prop := (H'.2.1 72 22).toInt = n + m ∧ (∀ j, j < m → H'.2.1 81 (n + j) = zp_nar 0 ((v >>> (Int32.ofInt (8 * (m - 1 - j) : Nat) &&& 31)) &&& (Int16.ofInt 255).toInt32)) ∧ (∀ k, k < n → H'.2.1 81 k = H.2.1 81 k) ∧ ∀ p k, p ≠ 72 → p ≠ 81 → H'.2.1 p k = H.2.1 p k

set_option maxRecDepth 8000 in
theorem yfR_s {v u : Int32} {m n : Nat} {H H' : zp_H} (h1 : (H.2.1 72 22).toInt = n) (h : yfR v m (n + 1) (zw_I (zw_I H 81 (H.2.1 72 22).toInt.toNat (zp_nar 0 ((v >>> (Int32.ofInt (8 * m : Nat) &&& 31)) &&& (Int16.ofInt 255).toInt32))) 72 22 u) H') : yfR v (m + 1) n H H' := by
  obtain ⟨a, b, c, o⟩ := h
  have e : (H.2.1 72 22).toInt.toNat = n := by omega
  refine ⟨by omega, fun j hj => ?_, fun k hk => ?_, fun p k hp1 hp2 => (o p k hp1 hp2).trans ((y_ne (fun h9 => hp1 h9.1)).trans (y_ne (fun h9 => hp2 h9.1)))⟩
  · by_cases hj0 : j = 0
    · subst hj0
      rw [Nat.add_zero, c n (by omega), show m + 1 - 1 - 0 = m from rfl]
      refine (y_ne (fun h9 => absurd h9.1 (by decide))).trans ?_
      rw [e]
      exact zw_eq
    · have h9 := b (j - 1) (by omega)
      rw [show n + 1 + (j - 1) = n + j by omega, show m - 1 - (j - 1) = m + 1 - 1 - j by omega] at h9
      exact h9
  · rw [c k (by omega)]
    refine (y_ne (fun h9 => absurd h9.1 (by decide))).trans (y_ne (fun h9 => ?_))
    have := h9.2
    omega

set_option maxRecDepth 8000 in
theorem yfR0 {L : Nat} {σ : Nat → Int32} {d : Nat} {v s : Int32} {P : zp_X → Prop} {n : Nat} {H : zp_H} {lv : zp_LV} (W : zw_W H) (h1 : (H.2.1 72 22).toInt = n) (hn : n + 0 ≤ 700) (l0 : zp_get lv 0 = some (.inr (.inr (some 73)))) (l1 : zp_get lv 1 = some (.inl v)) (l2 : zp_get lv 2 = some (.inl s)) (hs : s = Int32.ofInt (-8)) (hk : ∀ H', zw_W H' → yfR v 0 n H H' → P (.inl none, H')) : zs_Safe L σ P zm_168 [] d (3, lv, [], H, (0, 0)) := by
  subst hs
  refine zw_ld (n := 1) (k := 2) (f := zp_isI) (pc' := 4) rfl rfl l2 rfl rfl ?_
  refine zw_blt1 (g := 39) (pc' := 7) rfl rfl rfl (rfl : _ = (-8 : Int)) (fun hb => ?_) (fun h9 => absurd h9 (by decide))
  refine zw_rn rfl rfl ?_
  exact hk H W ⟨by omega, fun j hj => by omega, fun _ _ => rfl, fun _ _ _ _ => rfl⟩

set_option maxRecDepth 8000 in
theorem yfR1 {L : Nat} {σ : Nat → Int32} {d : Nat} {v s : Int32} {P : zp_X → Prop} {n : Nat} {H : zp_H} {lv : zp_LV} (W : zw_W H) (h1 : (H.2.1 72 22).toInt = n) (hn : n + 1 ≤ 700) (l0 : zp_get lv 0 = some (.inr (.inr (some 73)))) (l1 : zp_get lv 1 = some (.inl v)) (l2 : zp_get lv 2 = some (.inl s)) (hs : s = Int32.ofInt (0)) (hk : ∀ H', zw_W H' → yfR v 1 n H H' → P (.inl none, H')) : zs_Safe L σ P zm_168 [] d (3, lv, [], H, (0, 0)) := by
  subst hs
  refine zw_ld (n := 1) (k := 2) (f := zp_isI) (pc' := 4) rfl rfl l2 rfl rfl ?_
  refine zw_blt1 (g := 39) (pc' := 7) rfl rfl rfl (rfl : _ = (0 : Int)) (fun h9 => absurd h9 (by decide)) (fun hb => ?_)
  have e1 : (H.2.1 72 22 + Int32.ofInt 1).toInt = n + 1 := by rw [zw_p1 (by omega)]; omega
  refine zw_ld (n := 1) (k := 0) (f := zp_isR) (pc' := 8) rfl rfl l0 rfl rfl ?_
  refine zw_gR (q := 72) (pc' := 11) W rfl rfl rfl rfl (W.2 72 21 _ rfl) rfl ?_
  refine zw_ld (n := 1) (k := 0) (f := zp_isR) (pc' := 12) rfl rfl l0 rfl rfl ?_
  refine zw_gI (q := 72) (pc' := 15) W rfl rfl rfl rfl rfl rfl ?_
  refine zw_ld (n := 1) (k := 1) (f := zp_isI) (pc' := 16) rfl rfl l1 rfl rfl ?_
  refine zw_ld (n := 1) (k := 2) (f := zp_isI) (pc' := 17) rfl rfl l2 rfl rfl ?_
  refine zw_ishr (pc' := 18) rfl rfl ?_
  refine zw_s (pc' := 21) rfl rfl ?_
  refine zw_iand (pc' := 22) rfl rfl ?_
  refine zw_is (q := 81) (pc' := 23) W rfl rfl (by decide) (⟨by omega, by show _ < ((700 : Nat) : Int); omega⟩) rfl ?_
  refine zw_ld (n := 1) (k := 0) (f := zp_isR) (pc' := 24) rfl rfl l0 rfl rfl ?_
  refine zw_s (pc' := 25) rfl rfl ?_
  refine zw_gI (q := 72) (pc' := 28) W rfl rfl rfl rfl (zw_ne rfl rfl) rfl ?_
  refine zw_s (pc' := 29) rfl rfl ?_
  refine zw_iadd (pc' := 30) rfl rfl ?_
  refine zw_pI (q := 72) (pc' := 33) W rfl rfl rfl rfl rfl rfl ?_
  refine zw_ii (pc' := 36) rfl l2 rfl rfl ?_
  refine zw_s (pc' := 3) rfl rfl ?_
  exact yfR0 (n := n + 1) (zw_W_I (zw_W_I W)) ((congrArg Int32.toInt zw_eq).trans e1) (by omega) (zw_gt l0 rfl rfl) (zw_gt l1 rfl rfl) zw_g1 (by decide) (fun H' W' h => hk H' W' (yfR_s h1 h))

set_option maxRecDepth 8000 in
theorem yfR2 {L : Nat} {σ : Nat → Int32} {d : Nat} {v s : Int32} {P : zp_X → Prop} {n : Nat} {H : zp_H} {lv : zp_LV} (W : zw_W H) (h1 : (H.2.1 72 22).toInt = n) (hn : n + 2 ≤ 700) (l0 : zp_get lv 0 = some (.inr (.inr (some 73)))) (l1 : zp_get lv 1 = some (.inl v)) (l2 : zp_get lv 2 = some (.inl s)) (hs : s = Int32.ofInt (8)) (hk : ∀ H', zw_W H' → yfR v 2 n H H' → P (.inl none, H')) : zs_Safe L σ P zm_168 [] d (3, lv, [], H, (0, 0)) := by
  subst hs
  refine zw_ld (n := 1) (k := 2) (f := zp_isI) (pc' := 4) rfl rfl l2 rfl rfl ?_
  refine zw_blt1 (g := 39) (pc' := 7) rfl rfl rfl (rfl : _ = (8 : Int)) (fun h9 => absurd h9 (by decide)) (fun hb => ?_)
  have e1 : (H.2.1 72 22 + Int32.ofInt 1).toInt = n + 1 := by rw [zw_p1 (by omega)]; omega
  refine zw_ld (n := 1) (k := 0) (f := zp_isR) (pc' := 8) rfl rfl l0 rfl rfl ?_
  refine zw_gR (q := 72) (pc' := 11) W rfl rfl rfl rfl (W.2 72 21 _ rfl) rfl ?_
  refine zw_ld (n := 1) (k := 0) (f := zp_isR) (pc' := 12) rfl rfl l0 rfl rfl ?_
  refine zw_gI (q := 72) (pc' := 15) W rfl rfl rfl rfl rfl rfl ?_
  refine zw_ld (n := 1) (k := 1) (f := zp_isI) (pc' := 16) rfl rfl l1 rfl rfl ?_
  refine zw_ld (n := 1) (k := 2) (f := zp_isI) (pc' := 17) rfl rfl l2 rfl rfl ?_
  refine zw_ishr (pc' := 18) rfl rfl ?_
  refine zw_s (pc' := 21) rfl rfl ?_
  refine zw_iand (pc' := 22) rfl rfl ?_
  refine zw_is (q := 81) (pc' := 23) W rfl rfl (by decide) (⟨by omega, by show _ < ((700 : Nat) : Int); omega⟩) rfl ?_
  refine zw_ld (n := 1) (k := 0) (f := zp_isR) (pc' := 24) rfl rfl l0 rfl rfl ?_
  refine zw_s (pc' := 25) rfl rfl ?_
  refine zw_gI (q := 72) (pc' := 28) W rfl rfl rfl rfl (zw_ne rfl rfl) rfl ?_
  refine zw_s (pc' := 29) rfl rfl ?_
  refine zw_iadd (pc' := 30) rfl rfl ?_
  refine zw_pI (q := 72) (pc' := 33) W rfl rfl rfl rfl rfl rfl ?_
  refine zw_ii (pc' := 36) rfl l2 rfl rfl ?_
  refine zw_s (pc' := 3) rfl rfl ?_
  exact yfR1 (n := n + 1) (zw_W_I (zw_W_I W)) ((congrArg Int32.toInt zw_eq).trans e1) (by omega) (zw_gt l0 rfl rfl) (zw_gt l1 rfl rfl) zw_g1 (by decide) (fun H' W' h => hk H' W' (yfR_s h1 h))

set_option maxRecDepth 8000 in
theorem yfR3 {L : Nat} {σ : Nat → Int32} {d : Nat} {v s : Int32} {P : zp_X → Prop} {n : Nat} {H : zp_H} {lv : zp_LV} (W : zw_W H) (h1 : (H.2.1 72 22).toInt = n) (hn : n + 3 ≤ 700) (l0 : zp_get lv 0 = some (.inr (.inr (some 73)))) (l1 : zp_get lv 1 = some (.inl v)) (l2 : zp_get lv 2 = some (.inl s)) (hs : s = Int32.ofInt (16)) (hk : ∀ H', zw_W H' → yfR v 3 n H H' → P (.inl none, H')) : zs_Safe L σ P zm_168 [] d (3, lv, [], H, (0, 0)) := by
  subst hs
  refine zw_ld (n := 1) (k := 2) (f := zp_isI) (pc' := 4) rfl rfl l2 rfl rfl ?_
  refine zw_blt1 (g := 39) (pc' := 7) rfl rfl rfl (rfl : _ = (16 : Int)) (fun h9 => absurd h9 (by decide)) (fun hb => ?_)
  have e1 : (H.2.1 72 22 + Int32.ofInt 1).toInt = n + 1 := by rw [zw_p1 (by omega)]; omega
  refine zw_ld (n := 1) (k := 0) (f := zp_isR) (pc' := 8) rfl rfl l0 rfl rfl ?_
  refine zw_gR (q := 72) (pc' := 11) W rfl rfl rfl rfl (W.2 72 21 _ rfl) rfl ?_
  refine zw_ld (n := 1) (k := 0) (f := zp_isR) (pc' := 12) rfl rfl l0 rfl rfl ?_
  refine zw_gI (q := 72) (pc' := 15) W rfl rfl rfl rfl rfl rfl ?_
  refine zw_ld (n := 1) (k := 1) (f := zp_isI) (pc' := 16) rfl rfl l1 rfl rfl ?_
  refine zw_ld (n := 1) (k := 2) (f := zp_isI) (pc' := 17) rfl rfl l2 rfl rfl ?_
  refine zw_ishr (pc' := 18) rfl rfl ?_
  refine zw_s (pc' := 21) rfl rfl ?_
  refine zw_iand (pc' := 22) rfl rfl ?_
  refine zw_is (q := 81) (pc' := 23) W rfl rfl (by decide) (⟨by omega, by show _ < ((700 : Nat) : Int); omega⟩) rfl ?_
  refine zw_ld (n := 1) (k := 0) (f := zp_isR) (pc' := 24) rfl rfl l0 rfl rfl ?_
  refine zw_s (pc' := 25) rfl rfl ?_
  refine zw_gI (q := 72) (pc' := 28) W rfl rfl rfl rfl (zw_ne rfl rfl) rfl ?_
  refine zw_s (pc' := 29) rfl rfl ?_
  refine zw_iadd (pc' := 30) rfl rfl ?_
  refine zw_pI (q := 72) (pc' := 33) W rfl rfl rfl rfl rfl rfl ?_
  refine zw_ii (pc' := 36) rfl l2 rfl rfl ?_
  refine zw_s (pc' := 3) rfl rfl ?_
  exact yfR2 (n := n + 1) (zw_W_I (zw_W_I W)) ((congrArg Int32.toInt zw_eq).trans e1) (by omega) (zw_gt l0 rfl rfl) (zw_gt l1 rfl rfl) zw_g1 (by decide) (fun H' W' h => hk H' W' (yfR_s h1 h))

set_option maxRecDepth 8000 in
theorem yfR4 {L : Nat} {σ : Nat → Int32} {d : Nat} {v s : Int32} {P : zp_X → Prop} {n : Nat} {H : zp_H} {lv : zp_LV} (W : zw_W H) (h1 : (H.2.1 72 22).toInt = n) (hn : n + 4 ≤ 700) (l0 : zp_get lv 0 = some (.inr (.inr (some 73)))) (l1 : zp_get lv 1 = some (.inl v)) (l2 : zp_get lv 2 = some (.inl s)) (hs : s = Int32.ofInt (24)) (hk : ∀ H', zw_W H' → yfR v 4 n H H' → P (.inl none, H')) : zs_Safe L σ P zm_168 [] d (3, lv, [], H, (0, 0)) := by
  subst hs
  refine zw_ld (n := 1) (k := 2) (f := zp_isI) (pc' := 4) rfl rfl l2 rfl rfl ?_
  refine zw_blt1 (g := 39) (pc' := 7) rfl rfl rfl (rfl : _ = (24 : Int)) (fun h9 => absurd h9 (by decide)) (fun hb => ?_)
  have e1 : (H.2.1 72 22 + Int32.ofInt 1).toInt = n + 1 := by rw [zw_p1 (by omega)]; omega
  refine zw_ld (n := 1) (k := 0) (f := zp_isR) (pc' := 8) rfl rfl l0 rfl rfl ?_
  refine zw_gR (q := 72) (pc' := 11) W rfl rfl rfl rfl (W.2 72 21 _ rfl) rfl ?_
  refine zw_ld (n := 1) (k := 0) (f := zp_isR) (pc' := 12) rfl rfl l0 rfl rfl ?_
  refine zw_gI (q := 72) (pc' := 15) W rfl rfl rfl rfl rfl rfl ?_
  refine zw_ld (n := 1) (k := 1) (f := zp_isI) (pc' := 16) rfl rfl l1 rfl rfl ?_
  refine zw_ld (n := 1) (k := 2) (f := zp_isI) (pc' := 17) rfl rfl l2 rfl rfl ?_
  refine zw_ishr (pc' := 18) rfl rfl ?_
  refine zw_s (pc' := 21) rfl rfl ?_
  refine zw_iand (pc' := 22) rfl rfl ?_
  refine zw_is (q := 81) (pc' := 23) W rfl rfl (by decide) (⟨by omega, by show _ < ((700 : Nat) : Int); omega⟩) rfl ?_
  refine zw_ld (n := 1) (k := 0) (f := zp_isR) (pc' := 24) rfl rfl l0 rfl rfl ?_
  refine zw_s (pc' := 25) rfl rfl ?_
  refine zw_gI (q := 72) (pc' := 28) W rfl rfl rfl rfl (zw_ne rfl rfl) rfl ?_
  refine zw_s (pc' := 29) rfl rfl ?_
  refine zw_iadd (pc' := 30) rfl rfl ?_
  refine zw_pI (q := 72) (pc' := 33) W rfl rfl rfl rfl rfl rfl ?_
  refine zw_ii (pc' := 36) rfl l2 rfl rfl ?_
  refine zw_s (pc' := 3) rfl rfl ?_
  exact yfR3 (n := n + 1) (zw_W_I (zw_W_I W)) ((congrArg Int32.toInt zw_eq).trans e1) (by omega) (zw_gt l0 rfl rfl) (zw_gt l1 rfl rfl) zw_g1 (by decide) (fun H' W' h => hk H' W' (yfR_s h1 h))

set_option maxRecDepth 8000 in
theorem yfR_put {L : Nat} {σ : Nat → Int32} {d : Nat} {v : Int32} {n : Nat} {H : zp_H} (W : zw_W H) (h1 : (H.2.1 72 22).toInt = n) (hn : n + 4 ≤ 700) : ∃ X, zp_Call L σ (d + 1) 168 [.inr (.inr (some 73)), .inl v] H X ∧ ∃ H', X = (.inl none, H') ∧ zw_W H' ∧ yfR v 4 n H H' := by
  refine zw_met zm_168_t rfl rfl ?_
  refine zw_s (pc' := 2) rfl rfl ?_
  refine zw_st (n := 1) (k := 2) (f := zp_isI) (pc' := 3) rfl rfl rfl rfl rfl ?_
  exact yfR4 W h1 hn (zw_gt rfl rfl rfl) (zw_gt rfl rfl rfl) zw_g1 rfl (fun H' W' h => ⟨H', rfl, W', h⟩)

set_option maxRecDepth 8000 in
theorem yfR_feed {L : Nat} {σ : Nat → Int32} {d : Nat} {x1 x2 x3 x4 x5 : Int32} {n : Nat} {H : zp_H} (W : zw_W H) (h1 : (H.2.1 72 22).toInt = n) (hn : n ≤ 700) : ∃ X, zp_Call L σ (d + 2) 167 [.inr (.inr (some 73)), .inl x1, .inl x2, .inl x3, .inl x4, .inl x5] H X ∧ ∃ H' u, X = (.inl (some (.inl u)), H') ∧ zw_W H' ∧ (n + 20 ≤ 700 → ∃ Ha Hb Hc Hd, yfR x1 4 n (zw_I H 72 0 (Int32.ofInt 0)) Ha ∧ yfR x2 4 (n + 4) Ha Hb ∧ yfR x3 4 (n + 8) Hb Hc ∧ yfR x4 4 (n + 12) Hc Hd ∧ yfR x5 4 (n + 16) Hd H') ∧ (¬ n + 20 ≤ 700 → H' = zw_I H 72 0 (Int32.ofInt 0)) := by
  refine zw_met zm_167_t rfl rfl ?_
  have g1 : ((zw_I H 72 0 (Int32.ofInt 0)).2.1 72 22).toInt = n := (congrArg Int32.toInt (zw_ne rfl rfl)).trans h1
  have g20 : ((zw_I H 72 0 (Int32.ofInt 0)).2.1 72 22 + Int32.ofInt 20).toInt = n + 20 := by
    rw [zq_add (by rw [g1]; show _ ≤ (n : Int) + 20; omega) (by rw [g1]; show (n : Int) + 20 ≤ _; omega), g1]
    rfl
  refine zw_ld (n := 1) (k := 0) (f := zp_isR) (pc' := 1) rfl rfl rfl rfl rfl ?_
  refine zw_s (pc' := 2) rfl rfl ?_
  refine zw_pI (q := 72) (pc' := 5) W rfl rfl rfl rfl rfl rfl ?_
  refine zw_ld (n := 1) (k := 0) (f := zp_isR) (pc' := 6) rfl rfl rfl rfl rfl ?_
  refine zw_gI (q := 72) (pc' := 9) (zw_W_I W) rfl rfl rfl rfl (zw_ne rfl rfl) rfl ?_
  refine zw_s (pc' := 11) rfl rfl ?_
  refine zw_iadd (pc' := 12) rfl rfl ?_
  refine zw_s (pc' := 15) rfl rfl ?_
  refine zw_ble2 (g := 20) (pc' := 18) rfl rfl rfl g20 (rfl : _ = (700 : Int)) (fun h7 => ?_) (fun h7 => ?_)
  · obtain ⟨_, c0, H1, rfl, W1, k0⟩ := yfR_put (L := L) (σ := σ) (d := d) (v := x1) (n := n) (H := zw_I H 72 0 (Int32.ofInt 0)) (zw_W_I W) g1 (by omega)
    refine zw_ld (n := 1) (k := 0) (f := zp_isR) (pc' := 21) rfl rfl rfl rfl rfl ?_
    refine zw_ld (n := 1) (k := 1) (f := zp_isI) (pc' := 22) rfl rfl rfl rfl rfl ?_
    refine zw_cn (pc' := 25) (zw_cv (q := 72) (Y := zm_168) (zw_W_I W).1 rfl rfl zm_168_t rfl rfl) rfl rfl rfl rfl rfl (c0) ?_
    obtain ⟨_, c1, H2, rfl, W2, k1⟩ := yfR_put (L := L) (σ := σ) (d := d) (v := x2) (n := n + 4) (H := H1) W1 k0.1 (by omega)
    refine zw_ld (n := 1) (k := 0) (f := zp_isR) (pc' := 26) rfl rfl rfl rfl rfl ?_
    refine zw_ld (n := 1) (k := 2) (f := zp_isI) (pc' := 27) rfl rfl rfl rfl rfl ?_
    refine zw_cn (pc' := 30) (zw_cv (q := 72) (Y := zm_168) W1.1 rfl rfl zm_168_t rfl rfl) rfl rfl rfl rfl rfl (c1) ?_
    obtain ⟨_, c2, H3, rfl, W3, k2⟩ := yfR_put (L := L) (σ := σ) (d := d) (v := x3) (n := n + 8) (H := H2) W2 k1.1 (by omega)
    refine zw_ld (n := 1) (k := 0) (f := zp_isR) (pc' := 31) rfl rfl rfl rfl rfl ?_
    refine zw_ld (n := 1) (k := 3) (f := zp_isI) (pc' := 32) rfl rfl rfl rfl rfl ?_
    refine zw_cn (pc' := 35) (zw_cv (q := 72) (Y := zm_168) W2.1 rfl rfl zm_168_t rfl rfl) rfl rfl rfl rfl rfl (c2) ?_
    obtain ⟨_, c3, H4, rfl, W4, k3⟩ := yfR_put (L := L) (σ := σ) (d := d) (v := x4) (n := n + 12) (H := H3) W3 k2.1 (by omega)
    refine zw_ld (n := 1) (k := 0) (f := zp_isR) (pc' := 36) rfl rfl rfl rfl rfl ?_
    refine zw_ld (n := 2) (k := 4) (f := zp_isI) (pc' := 38) rfl rfl rfl rfl rfl ?_
    refine zw_cn (pc' := 41) (zw_cv (q := 72) (Y := zm_168) W3.1 rfl rfl zm_168_t rfl rfl) rfl rfl rfl rfl rfl (c3) ?_
    obtain ⟨_, c4, H5, rfl, W5, k4⟩ := yfR_put (L := L) (σ := σ) (d := d) (v := x5) (n := n + 16) (H := H4) W4 k3.1 (by omega)
    refine zw_ld (n := 1) (k := 0) (f := zp_isR) (pc' := 42) rfl rfl rfl rfl rfl ?_
    refine zw_ld (n := 2) (k := 5) (f := zp_isI) (pc' := 44) rfl rfl rfl rfl rfl ?_
    refine zw_cn (pc' := 47) (zw_cv (q := 72) (Y := zm_168) W4.1 rfl rfl zm_168_t rfl rfl) rfl rfl rfl rfl rfl (c4) ?_
    refine zw_ld (n := 1) (k := 0) (f := zp_isR) (pc' := 48) rfl rfl rfl rfl rfl ?_
    refine zw_gI (q := 72) (pc' := 51) W5 rfl rfl rfl rfl rfl rfl ?_
    refine zw_ri rfl rfl ?_
    exact ⟨H5, _, rfl, W5, fun _ => ⟨H1, H2, H3, H4, k0, k1, k2, k3, k4⟩, fun h9 => by omega⟩
  · refine zw_s (pc' := 19) rfl rfl ?_
    refine zw_ri rfl rfl ?_
    exact ⟨zw_I H 72 0 (Int32.ofInt 0), _, rfl, (zw_W_I W), fun h9 => by omega, fun _ => rfl⟩

set_option maxRecDepth 8000 in
theorem y_by (b : Int32) : (b &&& (Int16.ofInt 255).toInt32).toInt = ys_u b.toInt8.toInt ∧ -128 ≤ b.toInt8.toInt ∧ b.toInt8.toInt ≤ 127 := by
  have e : ((b &&& (Int16.ofInt 255).toInt32).toBitVec).toNat = b.toBitVec.toNat % 256 := by
    show (b.toBitVec &&& 255#32).toNat = _
    rw [BitVec.toNat_and]
    exact Nat.and_two_pow_sub_one_eq_mod _ 8
  have e1 : (b &&& (Int16.ofInt 255).toInt32).toInt = (b.toBitVec.toNat % 256 : Nat) := by
    rw [← Int32.toInt_toBitVec, BitVec.toInt_eq_toNat_of_lt (by rw [e]; omega), e]
  have e2 : b.toInt8.toInt = b.toInt.bmod (2 ^ 8) := Int32.toInt_toInt8 b
  have e3 : b.toInt = (b.toBitVec.toNat : Int) ∨ b.toInt = (b.toBitVec.toNat : Int) - 4294967296 := by
    rw [← Int32.toInt_toBitVec, BitVec.toInt_eq_toNat_cond]
    split
    · exact Or.inl rfl
    · exact Or.inr rfl
  have e4 : b.toInt.bmod (2 ^ 8) = if b.toInt % 256 < 128 then b.toInt % 256 else b.toInt % 256 - 256 := by
    rw [Int.bmod_def]
    rfl
  rw [e1, e2, e4]
  generalize b.toBitVec.toNat = N at e3
  generalize b.toInt = x at e3
  unfold ys_u
  split <;> split <;> omega
theorem y_nb (x : Int8) : zp_nar 1 x.toInt32 = x.toInt32 := by
  show x.toInt32.toInt8.toInt32 = x.toInt32
  rw [Int8.toInt8_toInt32]
/-- the tapes hold the same bytes -/
def yTp (n : Nat) (H K : zp_H) : Prop := ∀ k, k < n → (K.2.1 81 k).toInt = ys_u (H.2.1 1 k).toInt ∧ -128 ≤ (H.2.1 1 k).toInt ∧ (H.2.1 1 k).toInt ≤ 127
theorem yTp_s {v : Int32} {n : Nat} {H H' K K' : zp_H} (hT : yTp n H K) (h1 : yfC v 4 n H H') (h2 : yfR v 4 n K K') : yTp (n + 4) H' K' := by
  intro k hk
  by_cases h : k < n
  · rw [h1.2.2.1 k h, h2.2.2.1 k h]
    exact hT k h
  · obtain ⟨j, hj⟩ : ∃ j, k = n + j := ⟨k - n, by omega⟩
    subst hj
    rw [h1.2.1 j (by omega), h2.2.1 j (by omega), y_nb, Int8.toInt_toInt32]
    exact y_by _
end
