/-! ===== what the machine tells, it tells in full ===== -/
def yFl (d : yLD) (i : Nat) : Prop := d.2.2 (1000 + i) = true
def yOs (d : yLD) (s : Nat) (a : Int) : Prop := yFl d (200 + s) ∧ yFl d (210 + s) ∧ yFl d (220 + s) ∧ yFl d (230 + s) ∧ d.1 (220 + s) = a ∧ 0 ≤ a ∧ a ≤ 8 ∧ ∀ j : Nat, (j : Int) < a → yFl d (300 + (8 * s + j)) ∧ yFl d (400 + (8 * s + j))
def yOK (d : yLD) : Prop := ((0 ≤ d.1 4 ∧ d.1 4 ≤ 8) ∧ (0 ≤ d.1 5 ∧ d.1 5 ≤ 5) ∧ (0 ≤ d.1 6 ∧ d.1 6 ≤ 4) ∧ 0 ≤ d.1 7 ∧ d.1 7 ≤ 8) ∧ (∀ i, 20 ≤ i → i < 23 → yFl d i) ∧ (∀ c, c < 64 → yFl d (100 + c)) ∧ (∀ s : Nat, (s : Int) < d.1 4 → ∃ a, yOs d s a) ∧ (∀ h w : Nat, (h : Int) < d.1 5 → w < 4 → yFl d (500 + (4 * h + w))) ∧ (∀ p : Nat, (p : Int) < d.1 6 → yFl d (600 + p) ∧ yFl d (610 + p) ∧ yFl d (620 + p)) ∧ ∀ r : Nat, (r : Int) < d.1 7 → yFl d (700 + r)
theorem yFl_W {d : yLD} {i j : Nat} {v : Int} (h : yFl d j) : yFl (yW d i v) j := by
  show (if ((1000 + j : Nat) : Int) = 1000 + (i : Int) then true else d.2.2 (1000 + j)) = true
  split
  · rfl
  · exact h
theorem yFl_e {d : yLD} {i : Nat} {v : Int} : yFl (yW d i v) i := yW_fe
theorem yOs_W {d : yLD} {s i : Nat} {a v : Int} (h : yOs d s a) (hi : i ≠ 220 + s) : yOs (yW d i v) s a := by
  obtain ⟨h1, h2, h3, h4, h5, h6, h7, h8⟩ := h
  exact ⟨yFl_W h1, yFl_W h2, yFl_W h3, yFl_W h4, (yW_n (by omega)).trans h5, h6, h7, fun j hj => ⟨yFl_W (h8 j hj).1, yFl_W (h8 j hj).2⟩⟩
theorem yOK_W {d : yLD} {i : Nat} {v : Int} (h : yOK d) (h20 : 20 ≤ i) (hi : ∀ s : Nat, (s : Int) < d.1 4 → i ≠ 220 + s) : yOK (yW d i v) := by
  have k : ∀ j, j < 20 → (yW d i v).1 j = d.1 j := fun j hj => yW_n (by omega)
  obtain ⟨h1, h2, h3, h4, h5, h6, h7⟩ := h
  refine ⟨by rw [k 4 (by decide), k 5 (by decide), k 6 (by decide), k 7 (by decide)]; exact h1, fun j j1 j2 => yFl_W (h2 j j1 j2), fun c hc => yFl_W (h3 c hc), fun s hs => ?_, fun g w hg hw => ?_, fun q hq => ?_, fun r hr => ?_⟩
  · rw [k 4 (by decide)] at hs
    obtain ⟨a, ha⟩ := h4 s hs
    exact ⟨a, yOs_W ha (hi s hs)⟩
  · rw [k 5 (by decide)] at hg
    exact yFl_W (h5 g w hg hw)
  · rw [k 6 (by decide)] at hq
    exact ⟨yFl_W (h6 q hq).1, yFl_W (h6 q hq).2.1, yFl_W (h6 q hq).2.2⟩
  · rw [k 7 (by decide)] at hr
    exact yFl_W (h7 r hr)
/-- a count that no datum hangs on -/
theorem yOK_k {d : yLD} {k : Nat} {v : Int} {u : Int64} (h : yOK d) (hk : k < 20) (h4 : k ≠ 4 ∧ k ≠ 5 ∧ k ≠ 6 ∧ k ≠ 7) : yOK (yU d.1 k v, u, d.2.2) := by
  have e : ∀ j, j ≠ k → yU d.1 k v j = d.1 j := fun j hj => if_neg hj
  obtain ⟨h1, h2, h3, h4', h5, h6, h7⟩ := h
  have e4 := e 4 (by omega)
  have e5 := e 5 (by omega)
  have e6 := e 6 (by omega)
  have e7 := e 7 (by omega)
  refine ⟨?_, h2, h3, fun s hs => ?_, fun g w hg hw => h5 g w (by rw [← e5]; exact hg) hw, fun q hq => h6 q (by rw [← e6]; exact hq), fun r hr => h7 r (by rw [← e7]; exact hr)⟩
  · show (0 ≤ yU d.1 k v 4 ∧ yU d.1 k v 4 ≤ 8) ∧ (0 ≤ yU d.1 k v 5 ∧ yU d.1 k v 5 ≤ 5) ∧ (0 ≤ yU d.1 k v 6 ∧ yU d.1 k v 6 ≤ 4) ∧ 0 ≤ yU d.1 k v 7 ∧ yU d.1 k v 7 ≤ 8
    rw [e4, e5, e6, e7]
    exact h1
  · obtain ⟨a, b1, b2, b3, b4, b5, b6⟩ := h4' s (by rw [← e4]; exact hs)
    exact ⟨a, b1, b2, b3, b4, (e (220 + s) (by omega)).trans b5, b6⟩
theorem yOK_b {d : yLD} {x : Int} {u : Int64} (h : yOK d) : yOK (d.1, u, yUb d.2.2 x) := by
  have f : ∀ {i}, yFl d i → yFl (d.1, u, yUb d.2.2 x) i := fun {i} hi => by
    show (if ((1000 + i : Nat) : Int) = x then true else d.2.2 (1000 + i)) = true
    split
    · rfl
    · exact hi
  obtain ⟨h1, h2, h3, h4, h5, h6, h7⟩ := h
  refine ⟨h1, fun j j1 j2 => f (h2 j j1 j2), fun c hc => f (h3 c hc), fun s hs => ?_, fun g w hg hw => f (h5 g w hg hw), fun q hq => ⟨f (h6 q hq).1, f (h6 q hq).2.1, f (h6 q hq).2.2⟩, fun r hr => f (h7 r hr)⟩
  obtain ⟨a, b1, b2, b3, b4, b5, b6, b7, b8⟩ := h4 s hs
  exact ⟨a, f b1, f b2, f b3, f b4, b5, b6, b7, fun j hj => ⟨f (b8 j hj).1, f (b8 j hj).2⟩⟩
theorem yU_e {f : Nat → Int} {k : Nat} {v : Int} : yU f k v k = v := if_pos rfl
theorem yU_n {f : Nat → Int} {j k : Nat} {v : Int} (h : j ≠ k) : yU f k v j = f j := if_neg h
/-- one more slate, hand, pilot, rule -/
theorem yOK_4 {d : yLD} {a : Int} (h : yOK d) (h8 : d.1 4 < 8) (hs : yOs d (d.1 4).toNat a) : yOK (yU d.1 4 (d.1 4 + 1), d.2) := by
  obtain ⟨h1, h2, h3, h4, h5, h6, h7⟩ := h
  refine ⟨⟨⟨by show 0 ≤ d.1 4 + 1; omega, by show d.1 4 + 1 ≤ 8; omega⟩, h1.2.1, h1.2.2.1, h1.2.2.2⟩, h2, h3, fun s hs' => ?_, h5, h6, h7⟩
  have hs' : (s : Int) < d.1 4 + 1 := hs'
  have g : ∀ {s : Nat} {a : Int}, yOs d s a → yOs (yU d.1 4 (d.1 4 + 1), d.2) s a := fun ⟨b1, b2, b3, b4, b5, b6⟩ => ⟨b1, b2, b3, b4, (yU_n (by omega)).trans b5, b6⟩
  by_cases h9 : (s : Int) < d.1 4
  · obtain ⟨b, hb⟩ := h4 s h9
    exact ⟨b, g hb⟩
  · rw [show s = (d.1 4).toNat by omega]
    exact ⟨a, g hs⟩
theorem yOs_5 {d : yLD} {s k : Nat} {a v : Int} (hk : k < 20) (h : yOs d s a) : yOs (yU d.1 k v, d.2) s a := by
  obtain ⟨b1, b2, b3, b4, b5, b6⟩ := h
  exact ⟨b1, b2, b3, b4, (yU_n (by omega)).trans b5, b6⟩
theorem yOK_5 {d : yLD} (h : yOK d) (h8 : d.1 5 < 5) (hs : ∀ w : Nat, w < 4 → yFl d (500 + (4 * (d.1 5).toNat + w))) : yOK (yU d.1 5 (d.1 5 + 1), d.2) := by
  obtain ⟨h1, h2, h3, h4, h5, h6, h7⟩ := h
  refine ⟨⟨h1.1, ⟨by show 0 ≤ d.1 5 + 1; omega, by show d.1 5 + 1 ≤ 5; omega⟩, h1.2.2.1, h1.2.2.2⟩, h2, h3, fun s hs' => ?_, fun g w hg hw => ?_, h6, h7⟩
  · obtain ⟨b, hb⟩ := h4 s hs'
    exact ⟨b, yOs_5 (by decide) hb⟩
  · have hg : (g : Int) < d.1 5 + 1 := hg
    by_cases h9 : (g : Int) < d.1 5
    · exact h5 g w h9 hw
    · rw [show g = (d.1 5).toNat by omega]
      exact hs w hw
theorem yOK_6 {d : yLD} (h : yOK d) (h8 : d.1 6 < 4) (hs : yFl d (600 + (d.1 6).toNat) ∧ yFl d (610 + (d.1 6).toNat) ∧ yFl d (620 + (d.1 6).toNat)) : yOK (yU d.1 6 (d.1 6 + 1), d.2) := by
  obtain ⟨h1, h2, h3, h4, h5, h6, h7⟩ := h
  refine ⟨⟨h1.1, h1.2.1, ⟨by show 0 ≤ d.1 6 + 1; omega, by show d.1 6 + 1 ≤ 4; omega⟩, h1.2.2.2⟩, h2, h3, fun s hs' => ?_, h5, fun q hq => ?_, h7⟩
  · obtain ⟨b, hb⟩ := h4 s hs'
    exact ⟨b, yOs_5 (by decide) hb⟩
  · have hq : (q : Int) < d.1 6 + 1 := hq
    by_cases h9 : (q : Int) < d.1 6
    · exact h6 q h9
    · rw [show q = (d.1 6).toNat by omega]
      exact hs
theorem yOK_7 {d : yLD} (h : yOK d) (h8 : d.1 7 < 8) (hs : yFl d (700 + (d.1 7).toNat)) : yOK (yU d.1 7 (d.1 7 + 1), d.2) := by
  obtain ⟨h1, h2, h3, h4, h5, h6, h7⟩ := h
  refine ⟨⟨h1.1, h1.2.1, h1.2.2.1, ⟨by show 0 ≤ d.1 7 + 1; omega, by show d.1 7 + 1 ≤ 8; omega⟩⟩, h2, h3, fun s hs' => ?_, h5, h6, fun r hr => ?_⟩
  · obtain ⟨b, hb⟩ := h4 s hs'
    exact ⟨b, yOs_5 (by decide) hb⟩
  · have hr : (r : Int) < d.1 7 + 1 := hr
    by_cases h9 : (r : Int) < d.1 7
    · exact h7 r h9
    · rw [show r = (d.1 7).toNat by omega]
      exact hs
/-- updates in another order are the same -/
theorem yU_c {f : Nat → Int} {i k : Nat} {v w : Int} (h : i ≠ k) : yU (yU f k w) i v = yU (yU f i v) k w := by
  funext j
  unfold yU
  by_cases h1 : j = i
  · rw [if_pos h1, if_neg (by omega), if_pos h1]
  · rw [if_neg h1]
    by_cases h2 : j = k
    · rw [if_pos h2, if_pos h2]
    · rw [if_neg h2, if_neg h2, if_neg h1]
theorem yW_c {d : yLD} {i k : Nat} {v w : Int} (h : i ≠ k) : yW (yU d.1 k w, d.2) i v = (yU (yW d i v).1 k w, (yW d i v).2) := by
  show (yU (yU d.1 k w) i v, _, _) = (yU (yU d.1 i v) k w, _, _)
  rw [yU_c h]
def yIv (s : yL) : Prop := yOK s.2.2.2.2.2.1 ∧ ((s.1 = 8 ∨ s.1 = 9 ∨ s.1 = 10 ∨ s.1 = 11 ∨ s.1 = 12) → s.2.2.2.2.2.1.1 4 < 8) ∧ ((s.1 = 11 ∨ s.1 = 12) → yOs s.2.2.2.2.2.1 (s.2.2.2.2.2.1.1 4).toNat s.2.2.2.1) ∧ (s.1 = 12 → s.2.2.2.1 < 8) ∧ (s.1 = 13 → s.2.2.2.2.2.1.1 5 < 5 ∧ 0 ≤ s.2.2.1 ∧ s.2.2.1 ≤ 3 ∧ ∀ w : Nat, (w : Int) < s.2.2.1 → yFl s.2.2.2.2.2.1 (500 + (4 * (s.2.2.2.2.2.1.1 5).toNat + w))) ∧ ((s.1 = 19 ∨ s.1 = 20 ∨ s.1 = 21 ∨ s.1 = 22) → s.2.2.2.2.2.1.1 6 < 4) ∧ ((100 ≤ s.1 ∨ s.1 = 40 ∨ s.1 = 41) → s.2.2.2.2.2.1.1 7 < 8)
/-- a mode that asks nothing -/
theorem yIv_0 {m : Nat} {lv : List Bool} {x a : Int} {y : Int32} {d : yLD} {p : Nat} (h : yOK d) (hm : m < 8 ∨ m = 15 ∨ m = 16 ∨ m = 17 ∨ m = 18 ∨ m = 50) : yIv (m, lv, x, a, y, d, p) := ⟨h, fun h9 => by dsimp only at h9; omega, fun h9 => by dsimp only at h9; omega, fun h9 => by dsimp only at h9; omega, fun h9 => by dsimp only at h9; omega, fun h9 => by dsimp only at h9; omega, fun h9 => by dsimp only at h9; omega⟩
theorem yIv_8 {m : Nat} {lv : List Bool} {x a : Int} {y : Int32} {d : yLD} {p : Nat} (h : yOK d) (h8 : d.1 4 < 8) (hm : m = 8 ∨ m = 9 ∨ m = 10) : yIv (m, lv, x, a, y, d, p) := ⟨h, fun _ => h8, fun h9 => by dsimp only at h9; omega, fun h9 => by dsimp only at h9; omega, fun h9 => by dsimp only at h9; omega, fun h9 => by dsimp only at h9; omega, fun h9 => by dsimp only at h9; omega⟩
theorem yIv_11 {m : Nat} {lv : List Bool} {x a : Int} {y : Int32} {d : yLD} {p : Nat} (h : yOK d) (h8 : d.1 4 < 8) (hs : yOs d (d.1 4).toNat a) (hm : m = 11 ∨ (m = 12 ∧ a < 8)) : yIv (m, lv, x, a, y, d, p) := ⟨h, fun _ => h8, fun _ => hs, fun h9 => by dsimp only at h9 ⊢; omega, fun h9 => by dsimp only at h9; omega, fun h9 => by dsimp only at h9; omega, fun h9 => by dsimp only at h9; omega⟩
theorem yIv_13 {lv : List Bool} {x a : Int} {y : Int32} {d : yLD} {p : Nat} (h : yOK d) (h8 : d.1 5 < 5) (hx : 0 ≤ x ∧ x ≤ 3) (hs : ∀ w : Nat, (w : Int) < x → yFl d (500 + (4 * (d.1 5).toNat + w))) : yIv (13, lv, x, a, y, d, p) := ⟨h, fun h9 => by dsimp only at h9; omega, fun h9 => by dsimp only at h9; omega, fun h9 => by dsimp only at h9; omega, fun _ => ⟨h8, hx.1, hx.2, hs⟩, fun h9 => by dsimp only at h9; omega, fun h9 => by dsimp only at h9; omega⟩
theorem yIv_19 {m : Nat} {lv : List Bool} {x a : Int} {y : Int32} {d : yLD} {p : Nat} (h : yOK d) (h8 : d.1 6 < 4) (hm : m = 19 ∨ m = 20 ∨ m = 21 ∨ m = 22) : yIv (m, lv, x, a, y, d, p) := ⟨h, fun h9 => by dsimp only at h9; omega, fun h9 => by dsimp only at h9; omega, fun h9 => by dsimp only at h9; omega, fun h9 => by dsimp only at h9; omega, fun _ => h8, fun h9 => by dsimp only at h9; omega⟩
theorem yIv_40 {m : Nat} {lv : List Bool} {x a : Int} {y : Int32} {d : yLD} {p : Nat} (h : yOK d) (h8 : d.1 7 < 8) (hm : 100 ≤ m ∨ m = 40 ∨ m = 41) : yIv (m, lv, x, a, y, d, p) := ⟨h, fun h9 => by dsimp only at h9; omega, fun h9 => by dsimp only at h9; omega, fun h9 => by dsimp only at h9; omega, fun h9 => by dsimp only at h9; omega, fun h9 => by dsimp only at h9; omega, fun _ => h8⟩
theorem yNu_i {T : Nat → Int} {n p : Nat} {lo hi : Int} {ok : Int → yL} {s' : yL} (h : yNu T n p lo hi ok = .inl s') : s' = ok (ys_vl T n p) ∧ lo ≤ ys_vl T n p ∧ ys_vl T n p ≤ hi := by
  unfold yNu at h
  by_cases h1 : ys_kd T n p = 2
  · rw [if_pos h1] at h
    by_cases h2 : lo ≤ ys_vl T n p ∧ ys_vl T n p ≤ hi
    · rw [if_pos h2] at h
      exact ⟨(Sum.inl.inj h).symm, h2⟩
    · rw [if_neg h2] at h
      cases h
  · rw [if_neg h1] at h
    cases h
theorem yIv_y0 {T : Nat → Int} {n p : Nat} {d : yLD} {s' : yL} (h : yOK d) (hN : y0 T n d p = .inl s') : yIv s' := by
  unfold y0 at hN
  by_cases h0 : ys_kd T n p = 0
  · rw [if_pos h0] at hN
    cases hN
  rw [if_neg h0] at hN
  by_cases h3 : ys_kd T n p ≠ 3
  · rw [if_pos h3] at hN
    cases hN
  rw [if_neg h3] at hN
  by_cases g12 : ys_vl T n p = 12
  · rw [if_pos g12] at hN
    by_cases k : d.1 0 ≠ 0
    · rw [if_pos k] at hN
      cases hN
      exact yIv_0 h (by omega)
    · rw [if_neg k] at hN
      cases hN
  rw [if_neg g12] at hN
  by_cases g13 : ys_vl T n p = 13
  · rw [if_pos g13] at hN
    by_cases k : d.1 3 < 20
    · rw [if_pos k] at hN
      cases hN
      exact yIv_0 h (by omega)
    · rw [if_neg k] at hN
      cases hN
  rw [if_neg g13] at hN
  by_cases g14 : ys_vl T n p = 14
  · rw [if_pos g14] at hN
    cases hN
    exact yIv_0 h (by omega)
  rw [if_neg g14] at hN
  by_cases g15 : ys_vl T n p = 15
  · rw [if_pos g15] at hN
    by_cases k : d.1 4 < 8
    · rw [if_pos k] at hN
      cases hN
      exact yIv_8 h k (by omega)
    · rw [if_neg k] at hN
      cases hN
  rw [if_neg g15] at hN
  by_cases g16 : ys_vl T n p = 16
  · rw [if_pos g16] at hN
    by_cases k : d.1 5 < 5
    · rw [if_pos k] at hN
      cases hN
      exact yIv_13 h k (by decide) (fun w hw => absurd hw (by omega))
    · rw [if_neg k] at hN
      cases hN
  rw [if_neg g16] at hN
  by_cases g17 : ys_vl T n p = 17
  · rw [if_pos g17] at hN
    by_cases k : d.1 8 = 0
    · rw [if_pos k] at hN
      cases hN
      exact yIv_0 h (by omega)
    · rw [if_neg k] at hN
      cases hN
  rw [if_neg g17] at hN
  by_cases g18 : ys_vl T n p = 18
  · rw [if_pos g18] at hN
    by_cases k : d.1 9 = 0
    · rw [if_pos k] at hN
      cases hN
      exact yIv_0 h (by omega)
    · rw [if_neg k] at hN
      cases hN
  rw [if_neg g18] at hN
  by_cases g19 : ys_vl T n p = 19
  · rw [if_pos g19] at hN
    by_cases k : d.1 6 < 4
    · rw [if_pos k] at hN
      cases hN
      exact yIv_19 h k (by omega)
    · rw [if_neg k] at hN
      cases hN
  rw [if_neg g19] at hN
  by_cases g20 : ys_vl T n p = 20
  · rw [if_pos g20] at hN
    by_cases k : d.1 7 < 8
    · rw [if_pos k] at hN
      cases hN
      exact yIv_40 h k (by omega)
    · rw [if_neg k] at hN
      cases hN
  rw [if_neg g20] at hN
  cases hN
theorem yIv_m0 {T : Nat → Int} {n p : Nat} {lv : List Bool} {x a : Int} {y : Int32} {d : yLD} {s' : yL} (h : yIv (0, lv, x, a, y, d, p)) (hN : yN2 T n (0, lv, x, a, y, d, p) = .inl s') : yIv s' := by
  obtain ⟨h0, h1, h2, h3, h4, h5, h6⟩ := h
  dsimp only at h0 h1 h2 h3 h4 h5 h6
  rw [yN2_0] at hN
  exact yIv_y0 h0 hN
theorem yIv_m1 {T : Nat → Int} {n p : Nat} {lv : List Bool} {x a : Int} {y : Int32} {d : yLD} {s' : yL} (h : yIv (1, lv, x, a, y, d, p)) (hN : yN2 T n (1, lv, x, a, y, d, p) = .inl s') : yIv s' := by
  obtain ⟨h0, h1, h2, h3, h4, h5, h6⟩ := h
  dsimp only at h0 h1 h2 h3 h4 h5 h6
  rw [yN2_1] at hN
  obtain ⟨rfl, b1, b2⟩ := yNu_i hN
  exact yIv_0 h0 (by omega)
theorem yIv_m2 {T : Nat → Int} {n p : Nat} {lv : List Bool} {x a : Int} {y : Int32} {d : yLD} {s' : yL} (h : yIv (2, lv, x, a, y, d, p)) (hN : yN2 T n (2, lv, x, a, y, d, p) = .inl s') : yIv s' := by
  obtain ⟨h0, h1, h2, h3, h4, h5, h6⟩ := h
  dsimp only at h0 h1 h2 h3 h4 h5 h6
  rw [yN2_2] at hN
  obtain ⟨rfl, b1, b2⟩ := yNu_i hN
  exact yIv_0 (yOK_k (d := (yU d.1 1 x, d.2)) (yOK_k h0 (by decide) (by decide)) (by decide) (by decide)) (by omega)
theorem yIv_m3 {T : Nat → Int} {n p : Nat} {lv : List Bool} {x a : Int} {y : Int32} {d : yLD} {s' : yL} (h : yIv (3, lv, x, a, y, d, p)) (hN : yN2 T n (3, lv, x, a, y, d, p) = .inl s') : yIv s' := by
  obtain ⟨h0, h1, h2, h3, h4, h5, h6⟩ := h
  dsimp only at h0 h1 h2 h3 h4 h5 h6
  rw [yN2_3] at hN
  obtain ⟨rfl, b1, b2⟩ := yNu_i hN
  exact yIv_0 h0 (by omega)
theorem yIv_m4 {T : Nat → Int} {n p : Nat} {lv : List Bool} {x a : Int} {y : Int32} {d : yLD} {s' : yL} (h : yIv (4, lv, x, a, y, d, p)) (hN : yN2 T n (4, lv, x, a, y, d, p) = .inl s') : yIv s' := by
  obtain ⟨h0, h1, h2, h3, h4, h5, h6⟩ := h
  dsimp only at h0 h1 h2 h3 h4 h5 h6
  rw [yN2_4] at hN
  split at hN
  · cases hN
  · split at hN
    · cases hN
      exact yIv_0 (yOK_k h0 (by decide) (by decide)) (by omega)
    · cases hN
theorem yIv_m5 {T : Nat → Int} {n p : Nat} {lv : List Bool} {x a : Int} {y : Int32} {d : yLD} {s' : yL} (h : yIv (5, lv, x, a, y, d, p)) (hN : yN2 T n (5, lv, x, a, y, d, p) = .inl s') : yIv s' := by
  obtain ⟨h0, h1, h2, h3, h4, h5, h6⟩ := h
  dsimp only at h0 h1 h2 h3 h4 h5 h6
  rw [yN2_5] at hN
  obtain ⟨rfl, b1, b2⟩ := yNu_i hN
  exact yIv_0 h0 (by omega)
theorem yIv_m6 {T : Nat → Int} {n p : Nat} {lv : List Bool} {x a : Int} {y : Int32} {d : yLD} {s' : yL} (h : yIv (6, lv, x, a, y, d, p)) (hN : yN2 T n (6, lv, x, a, y, d, p) = .inl s') : yIv s' := by
  obtain ⟨h0, h1, h2, h3, h4, h5, h6⟩ := h
  dsimp only at h0 h1 h2 h3 h4 h5 h6
  rw [yN2_6] at hN
  split at hN
  · cases hN
  · rename_i t ht
    split at hN
    · cases hN
    · cases hN
      obtain ⟨rfl, b1, b2⟩ := yNu_i ht
      exact yIv_0 h0 (by omega)
theorem yIv_m7 {T : Nat → Int} {n p : Nat} {lv : List Bool} {x a : Int} {y : Int32} {d : yLD} {s' : yL} (h : yIv (7, lv, x, a, y, d, p)) (hN : yN2 T n (7, lv, x, a, y, d, p) = .inl s') : yIv s' := by
  obtain ⟨h0, h1, h2, h3, h4, h5, h6⟩ := h
  dsimp only at h0 h1 h2 h3 h4 h5 h6
  rw [yN2_7] at hN
  split at hN
  · cases hN
    refine yIv_0 ?_ (by omega)
    have b := h0.1.1
    exact yOK_b (d := (yU (yW d (100 + x.toNat % 64) (ys_vl T n p)).1 13 (d.1 13 + 1), (yW d (100 + x.toNat % 64) (ys_vl T n p)).2)) (yOK_k (yOK_W h0 (by omega) (fun s hs => by omega)) (by decide) (by decide))
  · cases hN
theorem yIv_m8 {T : Nat → Int} {n p : Nat} {lv : List Bool} {x a : Int} {y : Int32} {d : yLD} {s' : yL} (h : yIv (8, lv, x, a, y, d, p)) (hN : yN2 T n (8, lv, x, a, y, d, p) = .inl s') : yIv s' := by
  obtain ⟨h0, h1, h2, h3, h4, h5, h6⟩ := h
  dsimp only at h0 h1 h2 h3 h4 h5 h6
  rw [yN2_8] at hN
  obtain ⟨rfl, b1, b2⟩ := yNu_i hN
  exact yIv_8 h0 (h1 (by omega)) (by omega)
theorem yIv_m9 {T : Nat → Int} {n p : Nat} {lv : List Bool} {x a : Int} {y : Int32} {d : yLD} {s' : yL} (h : yIv (9, lv, x, a, y, d, p)) (hN : yN2 T n (9, lv, x, a, y, d, p) = .inl s') : yIv s' := by
  obtain ⟨h0, h1, h2, h3, h4, h5, h6⟩ := h
  dsimp only at h0 h1 h2 h3 h4 h5 h6
  rw [yN2_9] at hN
  obtain ⟨rfl, b1, b2⟩ := yNu_i hN
  exact yIv_8 h0 (h1 (by omega)) (by omega)
theorem yIv_m10 {T : Nat → Int} {n p : Nat} {lv : List Bool} {x a : Int} {y : Int32} {d : yLD} {s' : yL} (h : yIv (10, lv, x, a, y, d, p)) (hN : yN2 T n (10, lv, x, a, y, d, p) = .inl s') : yIv s' := by
  obtain ⟨h0, h1, h2, h3, h4, h5, h6⟩ := h
  dsimp only at h0 h1 h2 h3 h4 h5 h6
  rw [yN2_10] at hN
  obtain ⟨rfl, b1, b2⟩ := yNu_i hN
  have h8 := h1 (by omega)
  have b := h0.1.1
  have e4 : (yWsl d x (ys_vl T n p)).1 4 = d.1 4 := (yW_n (by omega)).trans ((yW_n (by omega)).trans ((yW_n (by omega)).trans (yW_n (by omega))))
  have k : ∀ i, 20 ≤ i → (i = 200 + (d.1 4).toNat ∨ i = 210 + (d.1 4).toNat ∨ i = 220 + (d.1 4).toNat ∨ i = 230 + (d.1 4).toNat) → ∀ s : Nat, (s : Int) < d.1 4 → i ≠ 220 + s := fun i _ h9 s hs => by omega
  have w1 := yOK_W (v := x) h0 (i := 200 + (d.1 4).toNat) (by omega) (k _ (by omega) (by omega))
  have w2 := yOK_W (v := ys_vl T n p) w1 (i := 210 + (d.1 4).toNat) (by omega) (fun s hs => k _ (by omega) (by omega) s (by rw [yW_n (by omega)] at hs; exact hs))
  have w3 := yOK_W (v := 0) w2 (i := 220 + (d.1 4).toNat) (by omega) (fun s hs => k _ (by omega) (by omega) s (by rw [yW_n (by omega), yW_n (by omega)] at hs; exact hs))
  have w4 := yOK_W (v := 0) w3 (i := 230 + (d.1 4).toNat) (by omega) (fun s hs => k _ (by omega) (by omega) s (by rw [yW_n (by omega), yW_n (by omega), yW_n (by omega)] at hs; exact hs))
  refine yIv_11 w4 (by show (yWsl d x (ys_vl T n p)).1 4 < 8; rw [e4]; exact h8) ?_ (Or.inl rfl)
  show yOs (yWsl d x (ys_vl T n p)) ((yWsl d x (ys_vl T n p)).1 4).toNat 0
  rw [e4]
  exact ⟨yFl_W (yFl_W (yFl_W yFl_e)), yFl_W (yFl_W yFl_e), yFl_W yFl_e, yFl_e, (yW_n (by omega)).trans yW_e, by decide, by decide, fun j hj => absurd hj (by omega)⟩
theorem yIv_m11 {T : Nat → Int} {n p : Nat} {lv : List Bool} {x a : Int} {y : Int32} {d : yLD} {s' : yL} (h : yIv (11, lv, x, a, y, d, p)) (hN : yN2 T n (11, lv, x, a, y, d, p) = .inl s') : yIv s' := by
  obtain ⟨h0, h1, h2, h3, h4, h5, h6⟩ := h
  dsimp only at h0 h1 h2 h3 h4 h5 h6
  rw [yN2_11] at hN
  have h8 := h1 (by omega)
  have hs := h2 (by omega)
  split at hN
  · split at hN
    · cases hN
    · cases hN
      exact yIv_11 h0 h8 hs (Or.inr ⟨rfl, by have := hs.2.2.2.2.2.2.1; omega⟩)
  · cases hN
    exact yIv_0 (yOK_4 h0 h8 hs) (by omega)
theorem yIv_m12 {T : Nat → Int} {n p : Nat} {lv : List Bool} {x a : Int} {y : Int32} {d : yLD} {s' : yL} (h : yIv (12, lv, x, a, y, d, p)) (hN : yN2 T n (12, lv, x, a, y, d, p) = .inl s') : yIv s' := by
  obtain ⟨h0, h1, h2, h3, h4, h5, h6⟩ := h
  dsimp only at h0 h1 h2 h3 h4 h5 h6
  rw [yN2_12] at hN
  obtain ⟨rfl, b1, b2⟩ := yNu_i hN
  have h8 := h1 (by omega)
  have hs := h2 (by omega)
  have a8 := h3 rfl
  have b := h0.1.1
  have a0 := hs.2.2.2.2.2.1
  have e4 : (yWmk d a x (ys_vl T n p)).1 4 = d.1 4 := (yW_n (by omega)).trans ((yW_n (by omega)).trans (yW_n (by omega)))
  have w1 := yOK_W (v := x) h0 (i := 300 + (8 * (d.1 4).toNat + a.toNat)) (by omega) (fun s hs => by omega)
  have w2 := yOK_W (v := ys_vl T n p) w1 (i := 400 + (8 * (d.1 4).toNat + a.toNat)) (by omega) (fun s hs => by rw [yW_n (by omega)] at hs; omega)
  have w3 := yOK_W (v := a + 1) w2 (i := 220 + (d.1 4).toNat) (by omega) (fun s hs => by rw [yW_n (by omega), yW_n (by omega)] at hs; omega)
  refine yIv_11 w3 (by show (yWmk d a x (ys_vl T n p)).1 4 < 8; rw [e4]; exact h8) ?_ (Or.inl rfl)
  show yOs (yWmk d a x (ys_vl T n p)) ((yWmk d a x (ys_vl T n p)).1 4).toNat (a + 1)
  rw [e4]
  obtain ⟨c1, c2, c3, c4, c5, c6, c7, c8⟩ := hs
  refine ⟨yFl_W (yFl_W (yFl_W c1)), yFl_W (yFl_W (yFl_W c2)), yFl_e, yFl_W (yFl_W (yFl_W c4)), yW_e, by omega, by omega, fun j hj => ?_⟩
  by_cases h9 : (j : Int) < a
  · exact ⟨yFl_W (yFl_W (yFl_W (c8 j h9).1)), yFl_W (yFl_W (yFl_W (c8 j h9).2))⟩
  · rw [show j = a.toNat by omega]
    exact ⟨yFl_W (yFl_W yFl_e), yFl_W yFl_e⟩
theorem yIv_m13 {T : Nat → Int} {n p : Nat} {lv : List Bool} {x a : Int} {y : Int32} {d : yLD} {s' : yL} (h : yIv (13, lv, x, a, y, d, p)) (hN : yN2 T n (13, lv, x, a, y, d, p) = .inl s') : yIv s' := by
  obtain ⟨h0, h1, h2, h3, h4, h5, h6⟩ := h
  dsimp only at h0 h1 h2 h3 h4 h5 h6
  rw [yN2_13] at hN
  obtain ⟨h5', x0, x3, hw⟩ := h4 rfl
  have b := h0.1
  split at hN
  · rename_i hx
    obtain ⟨rfl, b1, b2⟩ := yNu_i hN
    have w1 := yOK_W (v := ys_vl T n p) h0 (i := 500 + (4 * (d.1 5).toNat + x.toNat)) (by omega) (fun s hs => by omega)
    have e5 : (yW d (500 + (4 * (d.1 5).toNat + x.toNat)) (ys_vl T n p)).1 5 = d.1 5 := yW_n (by omega)
    refine yIv_13 w1 (by rw [e5]; exact h5') (by omega) (fun w hw' => ?_)
    rw [e5]
    by_cases h9 : (w : Int) < x
    · exact yFl_W (hw w h9)
    · rw [show w = x.toNat by omega]
      exact yFl_e
  · rename_i hx
    obtain ⟨rfl, b1, b2⟩ := yNu_i hN
    have w1 := yOK_W (v := ys_vl T n p) h0 (i := 500 + (4 * (d.1 5).toNat + 3)) (by omega) (fun s hs => by omega)
    have e5 : (yW d (500 + (4 * (d.1 5).toNat + 3)) (ys_vl T n p)).1 5 = d.1 5 := yW_n (by omega)
    refine yIv_0 (yOK_5 w1 (by rw [e5]; exact h5') (fun w hw' => ?_)) (by omega)
    rw [e5]
    by_cases h9 : (w : Int) < x
    · exact yFl_W (hw w h9)
    · rw [show w = 3 by omega]
      exact yFl_e
theorem yIv_m15 {T : Nat → Int} {n p : Nat} {lv : List Bool} {x a : Int} {y : Int32} {d : yLD} {s' : yL} (h : yIv (15, lv, x, a, y, d, p)) (hN : yN2 T n (15, lv, x, a, y, d, p) = .inl s') : yIv s' := by
  obtain ⟨h0, h1, h2, h3, h4, h5, h6⟩ := h
  dsimp only at h0 h1 h2 h3 h4 h5 h6
  rw [yN2_15] at hN
  obtain ⟨rfl, b1, b2⟩ := yNu_i hN
  exact yIv_0 h0 (by omega)
theorem yIv_m16 {T : Nat → Int} {n p : Nat} {lv : List Bool} {x a : Int} {y : Int32} {d : yLD} {s' : yL} (h : yIv (16, lv, x, a, y, d, p)) (hN : yN2 T n (16, lv, x, a, y, d, p) = .inl s') : yIv s' := by
  obtain ⟨h0, h1, h2, h3, h4, h5, h6⟩ := h
  dsimp only at h0 h1 h2 h3 h4 h5 h6
  rw [yN2_16] at hN
  obtain ⟨rfl, b1, b2⟩ := yNu_i hN
  exact yIv_0 h0 (by omega)
theorem yIv_m17 {T : Nat → Int} {n p : Nat} {lv : List Bool} {x a : Int} {y : Int32} {d : yLD} {s' : yL} (h : yIv (17, lv, x, a, y, d, p)) (hN : yN2 T n (17, lv, x, a, y, d, p) = .inl s') : yIv s' := by
  obtain ⟨h0, h1, h2, h3, h4, h5, h6⟩ := h
  dsimp only at h0 h1 h2 h3 h4 h5 h6
  rw [yN2_17] at hN
  obtain ⟨rfl, b1, b2⟩ := yNu_i hN
  exact yIv_0 (yOK_W (yOK_W (yOK_k h0 (by decide) (by decide)) (by decide) (fun s hs => by omega)) (by decide) (fun s hs => by omega)) (by omega)
theorem yIv_m18 {T : Nat → Int} {n p : Nat} {lv : List Bool} {x a : Int} {y : Int32} {d : yLD} {s' : yL} (h : yIv (18, lv, x, a, y, d, p)) (hN : yN2 T n (18, lv, x, a, y, d, p) = .inl s') : yIv s' := by
  obtain ⟨h0, h1, h2, h3, h4, h5, h6⟩ := h
  dsimp only at h0 h1 h2 h3 h4 h5 h6
  rw [yN2_18] at hN
  obtain ⟨rfl, b1, b2⟩ := yNu_i hN
  exact yIv_0 (yOK_W (yOK_k h0 (by decide) (by decide)) (by decide) (fun s hs => by omega)) (by omega)
theorem yIv_m19 {T : Nat → Int} {n p : Nat} {lv : List Bool} {x a : Int} {y : Int32} {d : yLD} {s' : yL} (h : yIv (19, lv, x, a, y, d, p)) (hN : yN2 T n (19, lv, x, a, y, d, p) = .inl s') : yIv s' := by
  obtain ⟨h0, h1, h2, h3, h4, h5, h6⟩ := h
  dsimp only at h0 h1 h2 h3 h4 h5 h6
  rw [yN2_19] at hN
  obtain ⟨rfl, b1, b2⟩ := yNu_i hN
  exact yIv_19 h0 (h5 (by omega)) (by omega)
theorem yIv_m20 {T : Nat → Int} {n p : Nat} {lv : List Bool} {x a : Int} {y : Int32} {d : yLD} {s' : yL} (h : yIv (20, lv, x, a, y, d, p)) (hN : yN2 T n (20, lv, x, a, y, d, p) = .inl s') : yIv s' := by
  obtain ⟨h0, h1, h2, h3, h4, h5, h6⟩ := h
  dsimp only at h0 h1 h2 h3 h4 h5 h6
  rw [yN2_20] at hN
  obtain ⟨rfl, b1, b2⟩ := yNu_i hN
  exact yIv_19 h0 (h5 (by omega)) (by omega)
theorem yIv_m21 {T : Nat → Int} {n p : Nat} {lv : List Bool} {x a : Int} {y : Int32} {d : yLD} {s' : yL} (h : yIv (21, lv, x, a, y, d, p)) (hN : yN2 T n (21, lv, x, a, y, d, p) = .inl s') : yIv s' := by
  obtain ⟨h0, h1, h2, h3, h4, h5, h6⟩ := h
  dsimp only at h0 h1 h2 h3 h4 h5 h6
  rw [yN2_21] at hN
  obtain ⟨rfl, b1, b2⟩ := yNu_i hN
  exact yIv_19 h0 (h5 (by omega)) (by omega)
theorem yIv_m22 {T : Nat → Int} {n p : Nat} {lv : List Bool} {x a : Int} {y : Int32} {d : yLD} {s' : yL} (h : yIv (22, lv, x, a, y, d, p)) (hN : yN2 T n (22, lv, x, a, y, d, p) = .inl s') : yIv s' := by
  obtain ⟨h0, h1, h2, h3, h4, h5, h6⟩ := h
  dsimp only at h0 h1 h2 h3 h4 h5 h6
  rw [yN2_22] at hN
  have h8 := h5 (by omega)
  have b := h0.1
  split at hN
  · split at hN
    · cases hN
    · split at hN
      · cases hN
      · split at hN
        · cases hN
        · cases hN
          exact yIv_19 h0 h8 (by omega)
  · cases hN
    refine yIv_0 ?_ (by omega)
    have e : yWpi d x a y = (yU (yW (yW (yW d (600 + (d.1 6).toNat) x) (610 + (d.1 6).toNat) a) (620 + (d.1 6).toNat) y.toInt).1 6 (d.1 6 + 1), (yW (yW (yW d (600 + (d.1 6).toNat) x) (610 + (d.1 6).toNat) a) (620 + (d.1 6).toNat) y.toInt).2) := by
      unfold yWpi
      rw [yW_c (by omega), yW_c (by omega), yW_c (by omega)]
    have e6 : (yW (yW (yW d (600 + (d.1 6).toNat) x) (610 + (d.1 6).toNat) a) (620 + (d.1 6).toNat) y.toInt).1 6 = d.1 6 := (yW_n (by omega)).trans ((yW_n (by omega)).trans (yW_n (by omega)))
    have w1 := yOK_W (v := x) h0 (i := 600 + (d.1 6).toNat) (by omega) (fun s hs => by omega)
    have w2 := yOK_W (v := a) w1 (i := 610 + (d.1 6).toNat) (by omega) (fun s hs => by rw [yW_n (by omega)] at hs; omega)
    have w3 := yOK_W (v := y.toInt) w2 (i := 620 + (d.1 6).toNat) (by omega) (fun s hs => by rw [yW_n (by omega), yW_n (by omega)] at hs; omega)
    have w4 := yOK_6 w3 (by rw [e6]; exact h8) (by rw [e6]; exact ⟨yFl_W (yFl_W yFl_e), yFl_W yFl_e, yFl_e⟩)
    rw [e6] at w4
    rw [e]
    exact w4
theorem yIv_m40 {T : Nat → Int} {n p : Nat} {lv : List Bool} {x a : Int} {y : Int32} {d : yLD} {s' : yL} (h : yIv (40, lv, x, a, y, d, p)) (hN : yN2 T n (40, lv, x, a, y, d, p) = .inl s') : yIv s' := by
  obtain ⟨h0, h1, h2, h3, h4, h5, h6⟩ := h
  dsimp only at h0 h1 h2 h3 h4 h5 h6
  rw [yN2_40] at hN
  split at hN
  · cases hN
    exact yIv_40 h0 (h6 (by omega)) (by omega)
  · cases hN
theorem yIv_m41 {T : Nat → Int} {n p : Nat} {lv : List Bool} {x a : Int} {y : Int32} {d : yLD} {s' : yL} (h : yIv (41, lv, x, a, y, d, p)) (hN : yN2 T n (41, lv, x, a, y, d, p) = .inl s') : yIv s' := by
  obtain ⟨h0, h1, h2, h3, h4, h5, h6⟩ := h
  dsimp only at h0 h1 h2 h3 h4 h5 h6
  rw [yN2_41] at hN
  have h8 := h6 (by omega)
  have b := h0.1
  split at hN
  · cases hN
    refine yIv_0 ?_ (by omega)
    rw [yW_c (by omega)]
    have w1 := yOK_W (v := ys_vl T n p) h0 (i := 700 + (d.1 7).toNat) (by omega) (fun s hs => by omega)
    have e7 : (yW d (700 + (d.1 7).toNat) (ys_vl T n p)).1 7 = d.1 7 := yW_n (by omega)
    have w4 := yOK_7 w1 (by rw [e7]; exact h8) (by rw [e7]; exact yFl_e)
    rw [e7] at w4
    exact w4
  · cases hN
theorem yIv_s {T : Nat → Int} {n : Nat} {s s' : yL} (h : yIv s) (hN : yN2 T n s = .inl s') : yIv s' := by
  obtain ⟨m, lv, x, a, y, d, p⟩ := s
  by_cases hm : 100 ≤ m
  · have h8 := h.2.2.2.2.2.2 (Or.inl hm)
    have h0 := h.1
    unfold yN2 at hN
    rw [if_pos hm] at hN
    split at hN
    · cases hN
      exact yIv_40 h0 h8 (by omega)
    · split at hN
      · cases hN
        exact yIv_40 h0 h8 (by omega)
      · cases hN
  by_cases k0 : m = 0
  · subst k0
    exact yIv_m0 h hN
  by_cases k1 : m = 1
  · subst k1
    exact yIv_m1 h hN
  by_cases k2 : m = 2
  · subst k2
    exact yIv_m2 h hN
  by_cases k3 : m = 3
  · subst k3
    exact yIv_m3 h hN
  by_cases k4 : m = 4
  · subst k4
    exact yIv_m4 h hN
  by_cases k5 : m = 5
  · subst k5
    exact yIv_m5 h hN
  by_cases k6 : m = 6
  · subst k6
    exact yIv_m6 h hN
  by_cases k7 : m = 7
  · subst k7
    exact yIv_m7 h hN
  by_cases k8 : m = 8
  · subst k8
    exact yIv_m8 h hN
  by_cases k9 : m = 9
  · subst k9
    exact yIv_m9 h hN
  by_cases k10 : m = 10
  · subst k10
    exact yIv_m10 h hN
  by_cases k11 : m = 11
  · subst k11
    exact yIv_m11 h hN
  by_cases k12 : m = 12
  · subst k12
    exact yIv_m12 h hN
  by_cases k13 : m = 13
  · subst k13
    exact yIv_m13 h hN
  by_cases k15 : m = 15
  · subst k15
    exact yIv_m15 h hN
  by_cases k16 : m = 16
  · subst k16
    exact yIv_m16 h hN
  by_cases k17 : m = 17
  · subst k17
    exact yIv_m17 h hN
  by_cases k18 : m = 18
  · subst k18
    exact yIv_m18 h hN
  by_cases k19 : m = 19
  · subst k19
    exact yIv_m19 h hN
  by_cases k20 : m = 20
  · subst k20
    exact yIv_m20 h hN
  by_cases k21 : m = 21
  · subst k21
    exact yIv_m21 h hN
  by_cases k22 : m = 22
  · subst k22
    exact yIv_m22 h hN
  by_cases k40 : m = 40
  · subst k40
    exact yIv_m40 h hN
  by_cases k41 : m = 41
  · subst k41
    exact yIv_m41 h hN
  have e : yN2 T n (m, lv, x, a, y, d, p) = (if ys_kd T n p = 4 ∧ ys_vl T n p = 59 then .inl (0, [], 0, 0, 0, (yU d.1 0 0, d.2), ys_nx T n p) else .inr (1, p)) := by
    unfold yN2
    rw [if_neg hm, if_neg k0, if_neg k1, if_neg k2, if_neg k3, if_neg k4, if_neg k5, if_neg k6, if_neg k7, if_neg k8, if_neg k9, if_neg k10, if_neg k11, if_neg k12, if_neg k13, if_neg k15, if_neg k16, if_neg k17, if_neg k18, if_neg k19, if_neg k20, if_neg k21, if_neg k22, if_neg k40, if_neg k41]
  rw [e] at hN
  split at hN
  · cases hN
    exact yIv_0 (yOK_k h.1 (by decide) (by decide)) (by omega)
  · cases hN
theorem yIv_it {T : Nat → Int} {n : Nat} {t : yL} : ∀ (f : Nat) (s : yL), yIv s → yIt T n f s = some t → yIv t
  | 0, s, h, e => by
    have e : s = t := Option.some.inj e
    rw [← e]
    exact h
  | f + 1, s, h, e => by
    have e : (match yN2 T n s with
      | .inr _ => none
      | .inl s' => yIt T n f s') = some t := e
    cases hN : yN2 T n s with
    | inr r =>
      rw [hN] at e
      cases e
    | inl s' =>
      rw [hN] at e
      exact yIv_it f s' (yIv_s h hN) e
theorem y00_ok : yOK y00d := by
  refine ⟨by decide, fun i i1 i2 => ?_, fun c hc => ?_, fun s hs => ?_, fun g w hg => ?_, fun q hq => ?_, fun r hr => ?_⟩
  · exact decide_eq_true (by omega)
  · exact decide_eq_true (by omega)
  · have hs : (s : Int) < 0 := hs
    omega
  · have hg : (g : Int) < 0 := hg
    omega
  · have hq : (q : Int) < 0 := hq
    omega
  · have hr : (r : Int) < 0 := hr
    omega
/-- all that a text has told by its end is told in full -/
theorem yOK_end {T : Nat → Int} {n q : Nat} {d : yLD} (h : yR2 T n y00 (0, [], 0, 0, 0, d, q)) : yOK d := by
  obtain ⟨f, hf⟩ := h (.inr (0, [], 0, 0, 0, d, q)) ⟨0, rfl⟩
  exact (yIv_it f y00 (yIv_0 y00_ok (by omega)) hf).1
