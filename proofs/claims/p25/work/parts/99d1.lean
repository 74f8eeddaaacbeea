/-! ===== a whole text, said once for both sides: a machine over tokens ===== -/
/-- 0 first, 1 wide, 2 high, 3 rocks, 4 slates, 5 hands, 6 pilots, 7 rules, 8 school told, 9 goal told; the rocks; cells with a current -/
abbrev yLD : Type := (Nat → Int) × Int64 × (Nat → Bool)
/-- mode, brackets, a number kept, a count, bits, what was told, place -/
abbrev yL : Type := Nat × List Bool × Int × Int × Int32 × yLD × Nat
def yU (f : Nat → Int) (k : Nat) (v : Int) : Nat → Int := fun j => if j = k then v else f j
def yUb (f : Nat → Bool) (k : Int) : Nat → Bool := fun j => if (j : Int) = k then true else f j
/-- a number from lo to hi, or the fault -/
def yNu (T : Nat → Int) (n p : Nat) (lo hi : Int) (ok : Int → yL) : yL ⊕ (Int × Nat) := if ys_kd T n p = 2 then (if lo ≤ ys_vl T n p ∧ ys_vl T n p ≤ hi then .inl (ok (ys_vl T n p)) else .inr (2, p)) else .inr (1, p)
def yBit (c : Int) : Int64 := za_shl0 (Int64.ofNat 1) (Int32.ofInt c)
def y0 (T : Nat → Int) (n : Nat) (d : yLD) (p : Nat) : yL ⊕ (Int × Nat) :=
  if ys_kd T n p = 0 then .inr (0, p)
  else if ys_kd T n p ≠ 3 then .inr (1, p)
  else if ys_vl T n p = 12 then (if d.1 0 ≠ 0 then .inl (1, [], 0, 0, 0, d, ys_nx T n p) else .inr (5, p))
  else if ys_vl T n p = 13 then (if d.1 3 < 20 then .inl (3, [], 0, 0, 0, d, ys_nx T n p) else .inr (2, p))
  else if ys_vl T n p = 14 then .inl (5, [], 0, 0, 0, d, ys_nx T n p)
  else if ys_vl T n p = 15 then (if d.1 4 < 8 then .inl (8, [], 0, 0, 0, d, ys_nx T n p) else .inr (2, p))
  else if ys_vl T n p = 16 then (if d.1 5 < 5 then .inl (13, [], 0, 12, 0, d, ys_nx T n p) else .inr (2, p))
  else if ys_vl T n p = 17 then (if d.1 8 = 0 then .inl (15, [], 0, 0, 0, d, ys_nx T n p) else .inr (5, p))
  else if ys_vl T n p = 18 then (if d.1 9 = 0 then .inl (18, [], 0, 0, 0, d, ys_nx T n p) else .inr (5, p))
  else if ys_vl T n p = 19 then (if d.1 6 < 4 then .inl (19, [], 0, 0, 0, d, ys_nx T n p) else .inr (2, p))
  else if ys_vl T n p = 20 then (if d.1 7 < 8 then .inl (102, [false], 0, 0, 0, d, ys_nx T n p) else .inr (2, p))
  else .inr (1, p)
def yN2 (T : Nat → Int) (n : Nat) (s : yL) : yL ⊕ (Int × Nat) :=
  let lv := s.2.1; let x := s.2.2.1; let a := s.2.2.2.1; let y := s.2.2.2.2.1; let d := s.2.2.2.2.2.1; let p := s.2.2.2.2.2.2
  if 100 ≤ s.1 then
    (match yN T n (s.1 - 100, lv, p) with
    | .inl m => .inl (100 + m.1, m.2.1, 0, 0, 0, d, m.2.2)
    | .inr r => if r.1 = 0 then .inl (40, [], 0, 0, 0, d, r.2) else .inr r)
  else if s.1 = 0 then y0 T n d p
  else if s.1 = 1 then yNu T n p 2 8 (fun v => (2, [], v, 0, 0, d, ys_nx T n p))
  else if s.1 = 2 then yNu T n p 2 8 (fun v => (50, [], 0, 0, 0, (yU (yU d.1 1 x) 2 v, d.2), ys_nx T n p))
  else if s.1 = 3 then yNu T n p 0 (d.1 1 - 1) (fun v => (4, [], v, 0, 0, d, ys_nx T n p))
  else if s.1 = 4 then
    (match yNu T n p 0 (d.1 2 - 1) (fun v => (50, [], d.1 1 * v + x, 0, 0, d, ys_nx T n p)) with
    | .inr r => .inr r
    | .inl t => if d.2.1 &&& yBit t.2.2.1 = 0 then .inl (50, [], 0, 0, 0, (yU d.1 3 (d.1 3 + 1), d.2.1 ||| yBit t.2.2.1, d.2.2), ys_nx T n p) else .inr (4, p))
  else if s.1 = 5 then yNu T n p 0 (d.1 1 - 1) (fun v => (6, [], v, 0, 0, d, ys_nx T n p))
  else if s.1 = 6 then
    (match yNu T n p 0 (d.1 2 - 1) (fun v => (7, [], d.1 1 * v + x, 0, 0, d, ys_nx T n p)) with
    | .inr r => .inr r
    | .inl t => if d.2.2 t.2.2.1.toNat then .inr (4, p) else .inl t)
  else if s.1 = 7 then (if ys_kd T n p = 3 ∧ ys_vl T n p < 4 then .inl (50, [], 0, 0, 0, (d.1, d.2.1, yUb d.2.2 x), ys_nx T n p) else .inr (1, p))
  else if s.1 = 8 then yNu T n p 0 (d.1 1 - 1) (fun _ => (9, [], 0, 0, 0, d, ys_nx T n p))
  else if s.1 = 9 then yNu T n p 0 (d.1 2 - 1) (fun _ => (10, [], 0, 0, 0, d, ys_nx T n p))
  else if s.1 = 10 then yNu T n p 0 99 (fun _ => (11, [], 0, 0, 0, d, ys_nx T n p))
  else if s.1 = 11 then
    (if ys_kd T n p = 3 ∧ ys_vl T n p < 4 then (if a = 8 then .inr (2, p) else .inl (12, [], 0, a, 0, d, ys_nx T n p))
    else .inl (50, [], 0, 0, 0, (yU d.1 4 (d.1 4 + 1), d.2), p))
  else if s.1 = 12 then yNu T n p 1 9 (fun _ => (11, [], 0, a + 1, 0, d, ys_nx T n p))
  else if s.1 = 13 then
    (if x < 3 then yNu T n p 0 12 (fun v => (13, [], x + 1, a - v, 0, d, ys_nx T n p))
    else yNu T n p a a (fun _ => (50, [], 0, 0, 0, (yU d.1 5 (d.1 5 + 1), d.2), ys_nx T n p)))
  else if s.1 = 15 then yNu T n p 0 (d.1 1 - 1) (fun _ => (16, [], 0, 0, 0, d, ys_nx T n p))
  else if s.1 = 16 then yNu T n p 0 (d.1 2 - 1) (fun _ => (17, [], 0, 0, 0, d, ys_nx T n p))
  else if s.1 = 17 then yNu T n p 0 9 (fun _ => (50, [], 0, 0, 0, (yU d.1 8 1, d.2), ys_nx T n p))
  else if s.1 = 18 then yNu T n p 0 7 (fun _ => (50, [], 0, 0, 0, (yU d.1 9 1, d.2), ys_nx T n p))
  else if s.1 = 19 then yNu T n p 0 (d.1 1 - 1) (fun _ => (20, [], 0, 0, 0, d, ys_nx T n p))
  else if s.1 = 20 then yNu T n p 0 (d.1 2 - 1) (fun _ => (21, [], 0, 0, 0, d, ys_nx T n p))
  else if s.1 = 21 then yNu T n p 0 99 (fun _ => (22, [], 0, 0, 0, d, ys_nx T n p))
  else if s.1 = 22 then
    (if ys_kd T n p = 2 then
      (if 9999 < ys_vl T n p then .inr (2, p)
      else if d.1 4 ≤ ys_vl T n p then .inr (3, p)
      else if y >>> (Int32.ofInt (ys_vl T n p) &&& 31) &&& Int32.ofInt 1 ≠ Int32.ofInt 0 then .inr (4, p)
      else .inl (22, [], 0, 0, y ||| Int32.ofInt 1 <<< (Int32.ofInt (ys_vl T n p) &&& 31), d, ys_nx T n p))
    else .inl (50, [], 0, 0, 0, (yU d.1 6 (d.1 6 + 1), d.2), p))
  else if s.1 = 40 then (if ys_kd T n p = 3 ∧ ys_vl T n p = 11 then .inl (41, [], 0, 0, 0, d, ys_nx T n p) else .inr (1, p))
  else if s.1 = 41 then (if ys_kd T n p = 3 ∧ ys_vl T n p < 4 then .inl (50, [], 0, 0, 0, (yU d.1 7 (d.1 7 + 1), d.2), ys_nx T n p) else .inr (1, p))
  else (if ys_kd T n p = 4 ∧ ys_vl T n p = 59 then .inl (0, [], 0, 0, 0, (yU d.1 0 0, d.2), ys_nx T n p) else .inr (1, p))
def yA2f (T : Nat → Int) (n : Nat) : Nat → yL → Option (Int × Nat)
  | 0, _ => none
  | f + 1, s => match yN2 T n s with
    | .inr r => some r
    | .inl s' => yA2f T n f s'
def yA2 (T : Nat → Int) (n : Nat) (s : yL) (r : Int × Nat) : Prop := ∃ f, yA2f T n f s = some r
theorem yA2f_d {T : Nat → Int} {n f : Nat} {s : yL} {r : Int × Nat} (h : yN2 T n s = .inr r) : yA2f T n (f + 1) s = some r := by
  unfold yA2f
  rw [h]
theorem yA2f_s {T : Nat → Int} {n f : Nat} {s s' : yL} (h : yN2 T n s = .inl s') : yA2f T n (f + 1) s = yA2f T n f s' := by
  show (match yN2 T n s with
    | .inr r => some r
    | .inl s' => yA2f T n f s') = _
  rw [h]
theorem yA2_done {T : Nat → Int} {n : Nat} {s : yL} {r : Int × Nat} (h : yN2 T n s = .inr r) : yA2 T n s r := ⟨1, yA2f_d h⟩
theorem yA2_step {T : Nat → Int} {n : Nat} {s s' : yL} {r : Int × Nat} (h : yN2 T n s = .inl s') (h1 : yA2 T n s' r) : yA2 T n s r := by
  obtain ⟨f, hf⟩ := h1
  exact ⟨f + 1, (yA2f_s h).trans hf⟩
theorem yA2f_u {T : Nat → Int} {n : Nat} {r r' : Int × Nat} : ∀ (f f' : Nat) (s : yL), yA2f T n f s = some r → yA2f T n f' s = some r' → r = r'
  | 0, _, _, h, _ => by cases h
  | _ + 1, 0, _, _, h => by cases h
  | f + 1, f' + 1, s, h, h' => by
    cases hN : yN2 T n s with
    | inr r9 =>
      rw [yA2f_d hN] at h h'
      exact (Option.some.inj h).symm.trans (Option.some.inj h')
    | inl s' =>
      rw [yA2f_s hN] at h h'
      exact yA2f_u f f' s' h h'
theorem yA2_u {T : Nat → Int} {n : Nat} {s : yL} {r r' : Int × Nat} (h : yA2 T n s r) (h' : yA2 T n s r') : r = r' := by
  obtain ⟨f, h⟩ := h
  obtain ⟨f', h'⟩ := h'
  exact yA2f_u f f' s h h'
def yR2 (T : Nat → Int) (n : Nat) (s s' : yL) : Prop := ∀ r, yA2 T n s' r → yA2 T n s r
theorem yR2_r {T : Nat → Int} {n : Nat} {s : yL} : yR2 T n s s := fun _ h => h
theorem yR2_t {T : Nat → Int} {n : Nat} {s s' s'' : yL} (h1 : yR2 T n s s') (h2 : yR2 T n s' s'') : yR2 T n s s'' := fun r h => h1 r (h2 r h)
theorem yR2_s {T : Nat → Int} {n : Nat} {s s' : yL} (h : yN2 T n s = .inl s') : yR2 T n s s' := fun _ h1 => yA2_step h h1
/-- an expression within a text -/
theorem yN2_x {T : Nat → Int} {n m p : Nat} {lv : List Bool} {d : yLD} : yN2 T n (100 + m, lv, 0, 0, 0, d, p) = (match yN T n (m, lv, p) with
    | .inl m => .inl (100 + m.1, m.2.1, 0, 0, 0, d, m.2.2)
    | .inr r => if r.1 = 0 then .inl (40, [], 0, 0, 0, d, r.2) else .inr r) := by
  unfold yN2
  rw [if_pos (show 100 ≤ (100 + m, lv, (0 : Int), (0 : Int), (0 : Int32), d, p).1 from Nat.le_add_right _ _), show (100 + m, lv, (0 : Int), (0 : Int), (0 : Int32), d, p).1 - 100 = m from Nat.add_sub_cancel_left 100 m]
theorem yA_2 {T : Nat → Int} {n : Nat} {d : yLD} {r : Int × Nat} : ∀ (f : Nat) (s : yM), yAf T n f s = some r → (r.1 = 0 → yR2 T n (100 + s.1, s.2.1, 0, 0, 0, d, s.2.2) (40, [], 0, 0, 0, d, r.2)) ∧ (r.1 ≠ 0 → yA2 T n (100 + s.1, s.2.1, 0, 0, 0, d, s.2.2) r)
  | 0, _, h => by cases h
  | f + 1, (m, lv, p), h => by
    have e := yN2_x (T := T) (n := n) (m := m) (p := p) (lv := lv) (d := d)
    cases hN : yN T n (m, lv, p) with
    | inr r9 =>
      rw [yAf_d hN] at h
      obtain rfl := Option.some.inj h
      rw [hN] at e
      constructor
      · intro h0
        refine yR2_s (e.trans ?_)
        show (if r9.1 = 0 then _ else _) = _
        rw [if_pos h0]
      · intro h0
        refine yA2_done (e.trans ?_)
        show (if r9.1 = 0 then _ else _) = _
        rw [if_neg h0]
    | inl s' =>
      rw [yAf_s hN] at h
      rw [hN] at e
      obtain ⟨k1, k2⟩ := yA_2 f s' h
      exact ⟨fun h0 => yR2_t (yR2_s e) (k1 h0), fun h0 => yA2_step e (k2 h0)⟩
theorem yA_20 {T : Nat → Int} {n p q : Nat} {d : yLD} (h : yA T n (2, [false], p) (0, q)) : yR2 T n (102, [false], 0, 0, 0, d, p) (40, [], 0, 0, 0, d, q) := by
  obtain ⟨f, h⟩ := h
  exact (yA_2 f _ h).1 rfl
theorem yA_2k {T : Nat → Int} {n p : Nat} {d : yLD} {r : Int × Nat} (h : yA T n (2, [false], p) r) (hr : r.1 ≠ 0) : yA2 T n (102, [false], 0, 0, 0, d, p) r := by
  obtain ⟨f, h⟩ := h
  exact (yA_2 f _ h).2 hr
