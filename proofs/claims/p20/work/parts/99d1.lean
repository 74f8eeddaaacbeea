section
/-! ===== a whole text, said once for both sides: a machine over tokens ===== -/
/-- 0 first, 1 wide, 2 high, 3 rocks, 4 slates, 5 hands, 6 pilots, 7 rules, 8 school told, 9 goal told; the rocks; cells with a current -/
abbrev yLD : Type := (Nat → Int) × Int64 × (Nat → Bool)
/-- mode, brackets, a number kept, a count, bits, what was told, place -/
abbrev yL : Type := Nat × List Bool × Int × Int × Int32 × yLD × Nat
def yU (f : Nat → Int) (k : Nat) (v : Int) : Nat → Int := fun j => if j = k then v else f j
def yUb (f : Nat → Bool) (k : Int) : Nat → Bool := fun j => if (j : Int) = k then true else f j
/-- a number from lo to hi, or the fault -/
def yNu (T : Nat → Int) (n p : Nat) (lo hi : Int) (ok : Int → yL) : yL ⊕ (Int × Nat) := if ys_kd T n p = 2 then (if lo ≤ ys_vl T n p ∧ ys_vl T n p ≤ hi then .inl (ok (ys_vl T n p)) else .inr (2, p)) else .inr (1, p)
def yBit (c : Int) : Int64 := za_shl0 (Int64.ofNat 1) (Int32.ofInt c)
/-- datum i is told: v -/
def yW (d : yLD) (i : Nat) (v : Int) : yLD := (yU d.1 i v, d.2.1, yUb d.2.2 (1000 + (i : Int)))
def yWcu (d : yLD) (x v : Int) : yLD := (yU (yU d.1 (100 + x.toNat % 64) v) 13 (d.1 13 + 1), d.2.1, yUb (yUb d.2.2 (1000 + ((100 + x.toNat % 64 : Nat) : Int))) x)
theorem yWcu_e {d : yLD} {x v : Int} (h : 0 ≤ x ∧ x < 64) : yWcu d x v = (yU (yU d.1 (100 + x.toNat) v) 13 (d.1 13 + 1), d.2.1, yUb (yUb d.2.2 (1000 + ((100 + x.toNat : Nat) : Int))) x) := by
  unfold yWcu
  rw [Nat.mod_eq_of_lt (by omega)]
def yWsl (d : yLD) (x v : Int) : yLD := yW (yW (yW (yW d (200 + (d.1 4).toNat) x) (210 + (d.1 4).toNat) v) (220 + (d.1 4).toNat) 0) (230 + (d.1 4).toNat) 0
def yWmk (d : yLD) (a x v : Int) : yLD := yW (yW (yW d (300 + (8 * (d.1 4).toNat + a.toNat)) x) (400 + (8 * (d.1 4).toNat + a.toNat)) v) (220 + (d.1 4).toNat) (a + 1)
def yWpi (d : yLD) (x a : Int) (y : Int32) : yLD := yW (yW (yW (yU d.1 6 (d.1 6 + 1), d.2) (600 + (d.1 6).toNat) x) (610 + (d.1 6).toNat) a) (620 + (d.1 6).toNat) y.toInt
def yWha (d : yLD) (v : Int) : yLD := (yU (yW d (500 + (4 * (d.1 5).toNat + 3)) v).1 5 ((yW d (500 + (4 * (d.1 5).toNat + 3)) v).1 5 + 1), (yW d (500 + (4 * (d.1 5).toNat + 3)) v).2)
def y0 (T : Nat → Int) (n : Nat) (d : yLD) (p : Nat) : yL ⊕ (Int × Nat) :=
  if ys_kd T n p = 0 then .inr (0, p)
  else if ys_kd T n p ≠ 3 then .inr (1, p)
  else if ys_vl T n p = 12 then (if d.1 0 ≠ 0 then .inl (1, [], 0, 0, 0, d, ys_nx T n p) else .inr (5, p))
  else if ys_vl T n p = 13 then (if d.1 3 < 20 then .inl (3, [], 0, 0, 0, d, ys_nx T n p) else .inr (2, p))
  else if ys_vl T n p = 14 then .inl (5, [], 0, 0, 0, d, ys_nx T n p)
  else if ys_vl T n p = 15 then (if d.1 4 < 8 then .inl (8, [], 0, 0, 0, d, ys_nx T n p) else .inr (2, p))
  else if ys_vl T n p = 16 then (if d.1 5 < 5 then .inl (13, [], 0, 12, 0, d, ys_nx T n p) else .inr (2, p))
  else if ys_vl T n p = 17 then (if d.1 8 = 0 then .inl (15, [], 0, 0, 0, d, ys_nx T n p) else .inr (5, p))
  else if ys_vl T n p = 18 then (if d.1 9 = 0 then .inl (18, [], 0, 0, 0, d, ys_nx T n p) else .inr (5, p))
  else if ys_vl T n p = 19 then (if d.1 6 < 4 then .inl (19, [], 0, 0, 0, d, ys_nx T n p) else .inr (2, p))
  else if ys_vl T n p = 20 then (if d.1 7 < 8 then .inl (102, [false], 0, 0, 0, d, ys_nx T n p) else .inr (2, p))
  else .inr (1, p)
def yN2 (T : Nat → Int) (n : Nat) (s : yL) : yL ⊕ (Int × Nat) :=
  let lv := s.2.1; let x := s.2.2.1; let a := s.2.2.2.1; let y := s.2.2.2.2.1; let d := s.2.2.2.2.2.1; let p := s.2.2.2.2.2.2
  if 100 ≤ s.1 then
    (match yN T n (s.1 - 100, lv, p) with
    | .inl m => .inl (100 + m.1, m.2.1, 0, 0, 0, d, m.2.2)
    | .inr r => if r.1 = 0 then .inl (40, [], 0, 0, 0, d, r.2) else .inr r)
  else if s.1 = 0 then y0 T n d p
  else if s.1 = 1 then yNu T n p 2 8 (fun v => (2, [], v, 0, 0, d, ys_nx T n p))
  else if s.1 = 2 then yNu T n p 2 8 (fun v => (50, [], 0, 0, 0, (yU (yU d.1 1 x) 2 v, d.2), ys_nx T n p))
  else if s.1 = 3 then yNu T n p 0 (d.1 1 - 1) (fun v => (4, [], v, 0, 0, d, ys_nx T n p))
  else if s.1 = 4 then
    (match yNu T n p 0 (d.1 2 - 1) (fun v => (50, [], d.1 1 * v + x, 0, 0, d, ys_nx T n p)) with
    | .inr r => .inr r
    | .inl t => if d.2.1 &&& yBit t.2.2.1 = 0 then .inl (50, [], 0, 0, 0, (yU d.1 3 (d.1 3 + 1), d.2.1 ||| yBit t.2.2.1, d.2.2), ys_nx T n p) else .inr (4, p))
  else if s.1 = 5 then yNu T n p 0 (d.1 1 - 1) (fun v => (6, [], v, 0, 0, d, ys_nx T n p))
  else if s.1 = 6 then
    (match yNu T n p 0 (d.1 2 - 1) (fun v => (7, [], d.1 1 * v + x, 0, 0, d, ys_nx T n p)) with
    | .inr r => .inr r
    | .inl t => if d.2.2 t.2.2.1.toNat then .inr (4, p) else .inl t)
  else if s.1 = 7 then (if ys_kd T n p = 3 ∧ ys_vl T n p < 4 then .inl (50, [], 0, 0, 0, yWcu d x (ys_vl T n p), ys_nx T n p) else .inr (1, p))
  else if s.1 = 8 then yNu T n p 0 (d.1 1 - 1) (fun v => (9, [], v, 0, 0, d, ys_nx T n p))
  else if s.1 = 9 then yNu T n p 0 (d.1 2 - 1) (fun v => (10, [], d.1 1 * v + x, 0, 0, d, ys_nx T n p))
  else if s.1 = 10 then yNu T n p 0 99 (fun v => (11, [], 0, 0, 0, yWsl d x v, ys_nx T n p))
  else if s.1 = 11 then
    (if ys_kd T n p = 3 ∧ ys_vl T n p < 4 then (if a = 8 then .inr (2, p) else .inl (12, [], ys_vl T n p, a, 0, d, ys_nx T n p))
    else .inl (50, [], 0, 0, 0, (yU d.1 4 (d.1 4 + 1), d.2), p))
  else if s.1 = 12 then yNu T n p 1 9 (fun v => (11, [], 0, a + 1, 0, yWmk d a x v, ys_nx T n p))
  else if s.1 = 13 then
    (if x < 3 then yNu T n p 0 12 (fun v => (13, [], x + 1, a - v, 0, yW d (500 + (4 * (d.1 5).toNat + x.toNat)) v, ys_nx T n p))
    else yNu T n p a a (fun v => (50, [], 0, 0, 0, yWha d v, ys_nx T n p)))
  else if s.1 = 15 then yNu T n p 0 (d.1 1 - 1) (fun v => (16, [], v, 0, 0, d, ys_nx T n p))
  else if s.1 = 16 then yNu T n p 0 (d.1 2 - 1) (fun v => (17, [], d.1 1 * v + x, 0, 0, d, ys_nx T n p))
  else if s.1 = 17 then yNu T n p 0 9 (fun v => (50, [], 0, 0, 0, yW (yW (yU d.1 8 1, d.2) 20 x) 21 v, ys_nx T n p))
  else if s.1 = 18 then yNu T n p 0 7 (fun v => (50, [], 0, 0, 0, yW (yU d.1 9 1, d.2) 22 v, ys_nx T n p))
  else if s.1 = 19 then yNu T n p 0 (d.1 1 - 1) (fun v => (20, [], v, 0, 0, d, ys_nx T n p))
  else if s.1 = 20 then yNu T n p 0 (d.1 2 - 1) (fun v => (21, [], d.1 1 * v + x, 0, 0, d, ys_nx T n p))
  else if s.1 = 21 then yNu T n p 0 99 (fun v => (22, [], x, v, 0, d, ys_nx T n p))
  else if s.1 = 22 then
    (if ys_kd T n p = 2 then
      (if 9999 < ys_vl T n p then .inr (2, p)
      else if d.1 4 ≤ ys_vl T n p then .inr (3, p)
      else if y >>> (Int32.ofInt (ys_vl T n p) &&& 31) &&& Int32.ofInt 1 ≠ Int32.ofInt 0 then .inr (4, p)
      else .inl (22, [], x, a, y ||| Int32.ofInt 1 <<< (Int32.ofInt (ys_vl T n p) &&& 31), d, ys_nx T n p))
    else .inl (50, [], 0, 0, 0, yWpi d x a y, p))
  else if s.1 = 40 then (if ys_kd T n p = 3 ∧ ys_vl T n p = 11 then .inl (41, [], 0, 0, 0, d, ys_nx T n p) else .inr (1, p))
  else if s.1 = 41 then (if ys_kd T n p = 3 ∧ ys_vl T n p < 4 then .inl (50, [], 0, 0, 0, yW (yU d.1 7 (d.1 7 + 1), d.2) (700 + (d.1 7).toNat) (ys_vl T n p), ys_nx T n p) else .inr (1, p))
  else (if ys_kd T n p = 4 ∧ ys_vl T n p = 59 then .inl (0, [], 0, 0, 0, (yU d.1 0 0, d.2), ys_nx T n p) else .inr (1, p))
def yA2f (T : Nat → Int) (n : Nat) : Nat → yL → Option (Int × Nat)
  | 0, _ => none
  | f + 1, s => match yN2 T n s with
    | .inr r => some r
    | .inl s' => yA2f T n f s'
def yA2 (T : Nat → Int) (n : Nat) (s : yL) (r : Int × Nat) : Prop := ∃ f, yA2f T n f s = some r
theorem yA2f_d {T : Nat → Int} {n f : Nat} {s : yL} {r : Int × Nat} (h : yN2 T n s = .inr r) : yA2f T n (f + 1) s = some r := by
  unfold yA2f
  rw [h]
theorem yA2f_s {T : Nat → Int} {n f : Nat} {s s' : yL} (h : yN2 T n s = .inl s') : yA2f T n (f + 1) s = yA2f T n f s' := by
  show (match yN2 T n s with
    | .inr r => some r
    | .inl s' => yA2f T n f s') = _
  rw [h]
theorem yA2_done {T : Nat → Int} {n : Nat} {s : yL} {r : Int × Nat} (h : yN2 T n s = .inr r) : yA2 T n s r := ⟨1, yA2f_d h⟩
theorem yA2_step {T : Nat → Int} {n : Nat} {s s' : yL} {r : Int × Nat} (h : yN2 T n s = .inl s') (h1 : yA2 T n s' r) : yA2 T n s r := by
  obtain ⟨f, hf⟩ := h1
  exact ⟨f + 1, (yA2f_s h).trans hf⟩
theorem yA2f_u {T : Nat → Int} {n : Nat} {r r' : Int × Nat} : ∀ (f f' : Nat) (s : yL), yA2f T n f s = some r → yA2f T n f' s = some r' → r = r'
  | 0, _, _, h, _ => by cases h
  | _ + 1, 0, _, _, h => by cases h
  | f + 1, f' + 1, s, h, h' => by
    cases hN : yN2 T n s with
    | inr r9 =>
      rw [yA2f_d hN] at h h'
      exact (Option.some.inj h).symm.trans (Option.some.inj h')
    | inl s' =>
      rw [yA2f_s hN] at h h'
      exact yA2f_u f f' s' h h'
theorem yA2_u {T : Nat → Int} {n : Nat} {s : yL} {r r' : Int × Nat} (h : yA2 T n s r) (h' : yA2 T n s r') : r = r' := by
  obtain ⟨f, h⟩ := h
  obtain ⟨f', h'⟩ := h'
  exact yA2f_u f f' s h h'
/-- s' is reached from s -/
def yIt (T : Nat → Int) (n : Nat) : Nat → yL → Option yL
  | 0, s => some s
  | f + 1, s => match yN2 T n s with
    | .inr _ => none
    | .inl s' => yIt T n f s'
def yO2 (T : Nat → Int) (n : Nat) (s : yL) (o : (Int × Nat) ⊕ yL) : Prop := match o with
  | .inl r => yA2 T n s r
  | .inr t => ∃ f, yIt T n f s = some t
def yR2 (T : Nat → Int) (n : Nat) (s s' : yL) : Prop := ∀ o, yO2 T n s' o → yO2 T n s o
theorem yR2_a {T : Nat → Int} {n : Nat} {s s' : yL} {r : Int × Nat} (h : yR2 T n s s') (h1 : yA2 T n s' r) : yA2 T n s r := h (.inl r) h1
theorem yR2_r {T : Nat → Int} {n : Nat} {s : yL} : yR2 T n s s := fun _ h => h
theorem yR2_t {T : Nat → Int} {n : Nat} {s s' s'' : yL} (h1 : yR2 T n s s') (h2 : yR2 T n s' s'') : yR2 T n s s'' := fun o h => h1 o (h2 o h)
theorem yR2_s {T : Nat → Int} {n : Nat} {s s' : yL} (h : yN2 T n s = .inl s') : yR2 T n s s' := fun o h1 => by
  match o, h1 with
  | .inl r, h1 => exact yA2_step h h1
  | .inr t, ⟨f, h1⟩ =>
    refine ⟨f + 1, ?_⟩
    show (match yN2 T n s with
      | .inr _ => none
      | .inl s' => yIt T n f s') = _
    rw [h]
    exact h1
theorem yIt_u {T : Nat → Int} {n : Nat} {t t' : yL} {r r' : Int × Nat} (e : yN2 T n t = .inr r) (e' : yN2 T n t' = .inr r') : ∀ (f f' : Nat) (s : yL), yIt T n f s = some t → yIt T n f' s = some t' → t = t'
  | 0, 0, _, h, h' => (Option.some.inj h).symm.trans (Option.some.inj h')
  | 0, f' + 1, s, h, h' => by
    have h : s = t := Option.some.inj h
    subst h
    have h' : (match yN2 T n s with
      | .inr _ => none
      | .inl s' => yIt T n f' s') = some t' := h'
    rw [e] at h'
    cases h'
  | f + 1, 0, s, h, h' => by
    have h' : s = t' := Option.some.inj h'
    subst h'
    have h : (match yN2 T n s with
      | .inr _ => none
      | .inl s' => yIt T n f s') = some t := h
    rw [e'] at h
    cases h
  | f + 1, f' + 1, s, h, h' => by
    have h : (match yN2 T n s with
      | .inr _ => none
      | .inl s' => yIt T n f s') = some t := h
    have h' : (match yN2 T n s with
      | .inr _ => none
      | .inl s' => yIt T n f' s') = some t' := h'
    cases hN : yN2 T n s with
    | inr r9 =>
      rw [hN] at h
      cases h
    | inl s' =>
      rw [hN] at h h'
      exact yIt_u e e' f f' s' h h'
/-- both ends of a text are one -/
theorem yR2_u {T : Nat → Int} {n : Nat} {s t t' : yL} {r r' : Int × Nat} (e : yN2 T n t = .inr r) (e' : yN2 T n t' = .inr r') (h : yR2 T n s t) (h' : yR2 T n s t') : t = t' := by
  obtain ⟨f, h⟩ := h (.inr t) ⟨0, rfl⟩
  obtain ⟨f', h'⟩ := h' (.inr t') ⟨0, rfl⟩
  exact yIt_u e e' f f' s h h'
/-- an expression within a text -/
theorem yN2_x {T : Nat → Int} {n m p : Nat} {lv : List Bool} {d : yLD} : yN2 T n (100 + m, lv, 0, 0, 0, d, p) = (match yN T n (m, lv, p) with
    | .inl m => .inl (100 + m.1, m.2.1, 0, 0, 0, d, m.2.2)
    | .inr r => if r.1 = 0 then .inl (40, [], 0, 0, 0, d, r.2) else .inr r) := by
  unfold yN2
  rw [if_pos (show 100 ≤ (100 + m, lv, (0 : Int), (0 : Int), (0 : Int32), d, p).1 from Nat.le_add_right _ _), show (100 + m, lv, (0 : Int), (0 : Int), (0 : Int32), d, p).1 - 100 = m from Nat.add_sub_cancel_left 100 m]
theorem yA_2 {T : Nat → Int} {n : Nat} {d : yLD} {r : Int × Nat} : ∀ (f : Nat) (s : yM), yAf T n f s = some r → (r.1 = 0 → yR2 T n (100 + s.1, s.2.1, 0, 0, 0, d, s.2.2) (40, [], 0, 0, 0, d, r.2)) ∧ (r.1 ≠ 0 → yA2 T n (100 + s.1, s.2.1, 0, 0, 0, d, s.2.2) r)
  | 0, _, h => by cases h
  | f + 1, (m, lv, p), h => by
    have e := yN2_x (T := T) (n := n) (m := m) (p := p) (lv := lv) (d := d)
    cases hN : yN T n (m, lv, p) with
    | inr r9 =>
      rw [yAf_d hN] at h
      obtain rfl := Option.some.inj h
      rw [hN] at e
      constructor
      · intro h0
        refine yR2_s (e.trans ?_)
        show (if r9.1 = 0 then _ else _) = _
        rw [if_pos h0]
      · intro h0
        refine yA2_done (e.trans ?_)
        show (if r9.1 = 0 then _ else _) = _
        rw [if_neg h0]
    | inl s' =>
      rw [yAf_s hN] at h
      rw [hN] at e
      obtain ⟨k1, k2⟩ := yA_2 f s' h
      exact ⟨fun h0 => yR2_t (yR2_s e) (k1 h0), fun h0 => yA2_step e (k2 h0)⟩
theorem yA_20 {T : Nat → Int} {n p q : Nat} {d : yLD} (h : yA T n (2, [false], p) (0, q)) : yR2 T n (102, [false], 0, 0, 0, d, p) (40, [], 0, 0, 0, d, q) := by
  obtain ⟨f, h⟩ := h
  exact (yA_2 f _ h).1 rfl
theorem yA_2k {T : Nat → Int} {n p : Nat} {d : yLD} {r : Int × Nat} (h : yA T n (2, [false], p) r) (hr : r.1 ≠ 0) : yA2 T n (102, [false], 0, 0, 0, d, p) r := by
  obtain ⟨f, h⟩ := h
  exact (yA_2 f _ h).2 hr
/-! told data stand at their places, but those of a list -/
def yXd (loc : Nat → Nat × Nat) (e : List Nat) (d : yLD) (H : zp_H) : Prop := ∀ i, 20 ≤ i → d.2.2 (1000 + i) = true → i ∉ e → (H.2.1 (loc i).1 (loc i).2).toInt = d.1 i
def yInj (loc : Nat → Nat × Nat) : Prop := ∀ i j, 20 ≤ i → 20 ≤ j → loc i = loc j → i = j
theorem yW_n {d : yLD} {i j : Nat} {v : Int} (h : j ≠ i) : (yW d i v).1 j = d.1 j := if_neg h
theorem yW_e {d : yLD} {i : Nat} {v : Int} : (yW d i v).1 i = v := if_pos rfl
theorem yW_fn {d : yLD} {i j : Nat} {v : Int} (h : j ≠ 1000 + i) : (yW d i v).2.2 j = d.2.2 j := if_neg (by omega)
theorem yW_fe {d : yLD} {i : Nat} {v : Int} : (yW d i v).2.2 (1000 + i) = true := if_pos (by omega)
section
variable {loc : Nat → Nat × Nat} {e : List Nat} {d : yLD} {H H1 : zp_H}
theorem yXd_w {i0 p k : Nat} {x : Int32} (hi : yInj loc) (h20 : 20 ≤ i0) (hl : loc i0 = (p, k)) (h : yXd loc e d H) : yXd loc (i0 :: e) d (zw_I H p k x) := by
  intro i h1 h2 h3
  have h4 : i ≠ i0 := fun h9 => h3 (by rw [h9]; exact List.mem_cons_self)
  have e1 : (zw_I H p k x).2.1 (loc i).1 (loc i).2 = H.2.1 (loc i).1 (loc i).2 := zp_u_ne (fun h9 => h4 (hi i i0 h1 h20 (by rw [hl]; exact Prod.ext h9.1 h9.2)))
  rw [e1]
  exact h i h1 h2 (fun h9 => h3 (List.mem_cons_of_mem _ h9))
theorem yXd_D {i0 : Nat} {v : Int} (h : yXd loc e d H) : yXd loc (i0 :: e) (yW d i0 v) H := by
  intro i h1 h2 h3
  have h4 : i ≠ i0 := fun h9 => h3 (by rw [h9]; exact List.mem_cons_self)
  rw [yW_fn (by omega)] at h2
  rw [yW_n h4]
  exact h i h1 h2 (fun h9 => h3 (List.mem_cons_of_mem _ h9))
theorem yXd_C {i0 : Nat} (h : yXd loc (i0 :: e) d H) (hv : (H.2.1 (loc i0).1 (loc i0).2).toInt = d.1 i0) : yXd loc e d H := by
  intro i h1 h2 h3
  by_cases h4 : i = i0
  · rw [h4]
    exact hv
  · exact h i h1 h2 (fun h9 => (List.mem_cons.mp h9).elim h4 h3)
theorem yXd_s {e' : List Nat} (hs : ∀ i, i ∈ e → i ∈ e') (h : yXd loc e d H) : yXd loc e' d H := fun i h1 h2 h3 => h i h1 h2 (fun h9 => h3 (hs i h9))
theorem yXd_k {k : Nat} {v : Int} (hk : k < 20) (h : yXd loc e d H) : yXd loc e (yU d.1 k v, d.2) H := by
  intro i h1 h2 h3
  show _ = yU d.1 k v i
  rw [show yU d.1 k v i = d.1 i from if_neg (by omega)]
  exact h i h1 h2 h3
theorem yXd_b {x : Int} (hx : x < 1000) (h : yXd loc e d H) : yXd loc e (d.1, d.2.1, yUb d.2.2 x) H := by
  intro i h1 h2 h3
  have e1 : yUb d.2.2 x (1000 + i) = d.2.2 (1000 + i) := if_neg (by omega)
  exact h i h1 (e1.symm.trans h2) h3
theorem yXd_c (hc : ∀ i, 20 ≤ i → H1.2.1 (loc i).1 (loc i).2 = H.2.1 (loc i).1 (loc i).2) (h : yXd loc e d H) : yXd loc e d H1 := by
  intro i h1 h2 h3
  rw [hc i h1]
  exact h i h1 h2 h3
/-- a write that closes a gap -/
theorem yXd_wc {i0 p k : Nat} {x : Int32} (hi : yInj loc) (h20 : 20 ≤ i0) (hl : loc i0 = (p, k)) (hv : x.toInt = d.1 i0) (h : yXd loc (i0 :: e) d H) : yXd loc e d (zw_I H p k x) := by
  intro i h1 h2 h3
  by_cases h4 : i = i0
  · rw [h4, hl]
    exact (congrArg Int32.toInt zw_eq).trans hv
  · have e1 : (zw_I H p k x).2.1 (loc i).1 (loc i).2 = H.2.1 (loc i).1 (loc i).2 := zp_u_ne (fun h9 => h4 (hi i i0 h1 h20 (by rw [hl]; exact Prod.ext h9.1 h9.2)))
    rw [e1]
    exact h i h1 h2 (fun h9 => (List.mem_cons.mp h9).elim h4 h3)
/-- a write and the datum -/
theorem yXd_wD {i0 p k : Nat} {x : Int32} {v : Int} (hi : yInj loc) (h20 : 20 ≤ i0) (hl : loc i0 = (p, k)) (hv : x.toInt = v) (h : yXd loc e d H) : yXd loc e (yW d i0 v) (zw_I H p k x) := by
  have h1 := yXd_D (i0 := i0) (v := v) (yXd_w (x := x) hi h20 hl h)
  refine yXd_C (i0 := i0) (yXd_s (fun i h9 => ?_) h1) ?_
  · rcases List.mem_cons.mp h9 with h9 | h9
    · rw [h9]; exact List.mem_cons_self
    · exact h9
  · rw [hl, yW_e]
    exact (congrArg Int32.toInt zw_eq).trans hv
end
end
section
/-! ===== the class reads numbers, ways, cells, exactly ===== -/
def zm_62 : za_MI := (yX7_refuse, prog_9_method_3_code, 2, (some FieldType.boolean), 7, 0, 0, [], za_i62)
theorem zm_62_t : za_MT 62 = some zm_62 := rfl
def zm_63 : za_MI := (yX7_readHead, prog_9_method_6_code, 2, (some FieldType.boolean), 7, 0, 0, [], za_i63)
theorem zm_63_t : za_MT 63 = some zm_63 := rfl
def zm_65 : za_MI := (yX7_readNumber, prog_9_method_9_code, 4, (some FieldType.int), 7, 0, 0, [], za_i65)
theorem zm_65_t : za_MT 65 = some zm_65 := rfl
def zm_66 : za_MI := (yX7_lookAtNumber, prog_9_method_8_code, 3, (some FieldType.int), 7, 0, 0, [], za_i66)
theorem zm_66_t : za_MT 66 = some zm_66 := rfl
def zm_68 : za_MI := (yX7_readHead_, prog_9_method_7_code, 3, (some FieldType.boolean), 7, 0, 0, [], za_i68)
theorem zm_68_t : za_MT 68 = some zm_68 := rfl
def zm_70 : za_MI := (yX7_readCell, prog_9_method_11_code, 7, (some FieldType.int), 7, 0, 0, [], za_i70)
theorem zm_70_t : za_MT 70 = some zm_70 := rfl
def zm_73 : za_MI := (yX7_readWay, prog_9_method_10_code, 2, (some FieldType.int), 7, 0, 0, [], za_i73)
theorem zm_73_t : za_MT 73 = some zm_73 := rfl
def zm_97 : za_MI := (yX7_readEnd, prog_9_method_4_code, 1, (some FieldType.boolean), 7, 0, 0, [], za_i97)
theorem zm_97_t : za_MT 97 = some zm_97 := rfl
def yl_m : List (Nat × Nat) := [(51, 4), (51, 5), (52, 2), (52, 3), (52, 4), (52, 5)]
def yFc (T : Nat → Int) (n : Nat) (r : Int × Nat) (H : zp_H) : Prop := (H.2.1 51 4).toInt = r.1 ∧ (H.2.1 51 5).toInt = ys_st T n r.2
theorem ys_vl_n0 {T : Nat → Int} {n p : Nat} (hp : p ≤ n) (hk : ys_kd T n p = 2) : 0 ≤ ys_vl T n p := by
  have hb := ys_nxb (T := T) hp
  obtain ⟨g1, g2, g3, g4⟩ := ys_vl_n hk
  rw [g4]
  split
  · decide
  · exact (ys_nm_b (T := T) (s := ys_st T n p) (ys_nx T n p - ys_st T n p) (by omega) (fun t ht => by
        rw [g3] at ht
        exact of_decide_eq_true (ys_run_p _ _ t ht))).1
/-- the class's reader refuses or goes on: a number -/
def yKn (T : Nat → Int) (n p : Nat) (lo hi : Int) (v : Int32) (H1 : zp_H) (q : Nat) : Prop := (v.toInt = ys_vl T n p ∧ lo ≤ ys_vl T n p ∧ ys_vl T n p ≤ hi ∧ 0 ≤ ys_vl T n p ∧ ys_kd T n p = 2 ∧ (∀ ok, yNu T n p lo hi ok = .inl (ok (ys_vl T n p))) ∧ yE T n q H1) ∨ (v.toInt = -1 ∧ ∃ k : Int, 1 ≤ k ∧ k ≤ 5 ∧ yFc T n (k, p) H1 ∧ (∀ ok, yNu T n p lo hi ok = .inr (k, p)) ∧ yE T n p H1)
theorem yNu_1 {T : Nat → Int} {n p : Nat} {lo hi : Int} (hk : ys_kd T n p = 2) (h1 : lo ≤ ys_vl T n p) (h2 : ys_vl T n p ≤ hi) (ok : Int → yL) : yNu T n p lo hi ok = .inl (ok (ys_vl T n p)) := by
  unfold yNu
  rw [if_pos hk, if_pos ⟨h1, h2⟩]
theorem yNu_2 {T : Nat → Int} {n p : Nat} {lo hi : Int} (hk : ys_kd T n p = 2) (h : ¬ (lo ≤ ys_vl T n p ∧ ys_vl T n p ≤ hi)) (ok : Int → yL) : yNu T n p lo hi ok = .inr (2, p) := by
  unfold yNu
  rw [if_pos hk, if_neg h]
theorem yNu_0 {T : Nat → Int} {n p : Nat} {lo hi : Int} (hk : ys_kd T n p ≠ 2) (ok : Int → yL) : yNu T n p lo hi ok = .inr (1, p) := by
  unfold yNu
  rw [if_neg hk]

set_option maxRecDepth 8000 in
theorem zl_cmp0 {u : Int64} (h : (lg_cmp u (Int64.ofNat 0)).toInt = 0) : u = 0 := by
  unfold lg_cmp at h
  split at h
  · exact absurd h (by decide)
  · split at h
    · next h1 h2 => exact h2
    · exact absurd h (by decide)
theorem zl_cmp1 {u : Int64} (h : (lg_cmp u (Int64.ofNat 0)).toInt ≠ 0) : u ≠ 0 := by
  rintro rfl
  exact h (by decide)
/-- a cell: its two numbers, and it isn't taken -/
def yKc (T : Nat → Int) (n p : Nat) (w hh : Int) (taken : Int64) (v : Int32) (H1 : zp_H) : Prop := (v.toInt = w * ys_vl T n (ys_nx T n p) + ys_vl T n p ∧ (∀ ok, yNu T n p 0 (w - 1) ok = .inl (ok (ys_vl T n p))) ∧ (∀ ok, yNu T n (ys_nx T n p) 0 (hh - 1) ok = .inl (ok (ys_vl T n (ys_nx T n p)))) ∧ (0 ≤ v.toInt ∧ v.toInt ≤ 63) ∧ taken &&& yBit (w * ys_vl T n (ys_nx T n p) + ys_vl T n p) = 0 ∧ yE T n (ys_nx T n (ys_nx T n p)) H1) ∨ (v.toInt = -1 ∧ ∃ (k : Int) (q : Nat), 1 ≤ k ∧ k ≤ 5 ∧ yFc T n (k, q) H1 ∧ yE T n q H1 ∧ ((q = p ∧ ∀ ok, yNu T n p 0 (w - 1) ok = .inr (k, p)) ∨ (q = ys_nx T n p ∧ (∀ ok, yNu T n p 0 (w - 1) ok = .inl (ok (ys_vl T n p))) ∧ ∀ ok, yNu T n (ys_nx T n p) 0 (hh - 1) ok = .inr (k, ys_nx T n p)) ∨ (k = 4 ∧ q = ys_nx T n p ∧ (∀ ok, yNu T n p 0 (w - 1) ok = .inl (ok (ys_vl T n p))) ∧ (∀ ok, yNu T n (ys_nx T n p) 0 (hh - 1) ok = .inl (ok (ys_vl T n (ys_nx T n p)))) ∧ taken &&& yBit (w * ys_vl T n (ys_nx T n p) + ys_vl T n p) ≠ 0)))

set_option maxRecDepth 8000 in
theorem yc_refx {L : Nat} {σ : Nat → Int32} {d : Nat} {T : Nat → Int} {n p : Nat} {H : zp_H} {x : Int32} (h : yE T n p H) : zp_Call L σ (d + 1) 62 [.inr (.inr (some 52)), .inl x] H (.inl (some (.inl (Int32.ofInt 0))), zw_I (zw_I H 51 4 x) 51 5 (H.2.1 52 3)) := by
  have W := zB_Wd h.1.1
  refine zw_ex (zw_met zm_62_t rfl rfl ?_)
  refine zw_ld (n := 1) (k := 0) (f := zp_isR) (pc' := 1) rfl rfl rfl rfl rfl ?_
  refine zw_ld (n := 1) (k := 1) (f := zp_isI) (pc' := 2) rfl rfl rfl rfl rfl ?_
  refine zw_pI (q := 51) (pc' := 5) W rfl rfl rfl rfl rfl rfl ?_
  refine zw_ld (n := 1) (k := 0) (f := zp_isR) (pc' := 6) rfl rfl rfl rfl rfl ?_
  refine zw_ld (n := 1) (k := 0) (f := zp_isR) (pc' := 7) rfl rfl rfl rfl rfl ?_
  refine zw_gR (q := 51) (pc' := 10) W rfl rfl rfl rfl (W.2 51 0 _ rfl) rfl ?_
  refine zw_gI (q := 52) (pc' := 13) W rfl rfl rfl rfl (zw_ne rfl rfl) rfl ?_
  refine zw_pI (q := 51) (pc' := 16) W rfl rfl rfl rfl rfl rfl ?_
  refine zw_s (pc' := 17) rfl rfl ?_
  refine zw_rz rfl rfl (by decide) ?_
  rfl

set_option maxRecDepth 8000 in
theorem yc_ref {L : Nat} {σ : Nat → Int32} {d : Nat} {T : Nat → Int} {n p : Nat} {H : zp_H} {x : Int32} (h : yE T n p H) : ∃ H1, zp_Call L σ (d + 1) 62 [.inr (.inr (some 52)), .inl x] H (.inl (some (.inl (Int32.ofInt 0))), H1) ∧ yE T n p H1 ∧ zk_Fr zg yl_m [] H H1 ∧ yFc T n (x.toInt, p) H1 := by
  have b1 := zB_putf (p := 51) (k := 4) (x := x) h.1.1 rfl (fun r hr => by cases hr) (zJc_I rfl h.1.1.2.2.2.2.2.2.2)
  have b2 := zB_putf (p := 51) (k := 5) (x := H.2.1 52 3) b1 rfl (fun r hr => by cases hr) (zJc_I rfl b1.2.2.2.2.2.2.2)
  exact ⟨_, yc_refx h, yE_c h b2 (funext fun k => zw_ne (zw_ne rfl rfl) rfl) (funext fun k => zw_ne (zw_ne rfl rfl) rfl), zk_Fr_I (zk_Fr_I (zk_Fr_r H) rfl rfl) rfl rfl, congrArg Int32.toInt (zw_ne zw_eq rfl), (congrArg Int32.toInt zw_eq).trans h.2.1.1⟩
theorem yc_ad2 {L : Nat} {σ : Nat → Int32} {d : Nat} {T : Nat → Int} {n p : Nat} {H : zp_H} (h : yE T n p H) : ∃ H1, zp_Call L σ (d + 3) 55 [.inr (.inr (some 53))] H (.inl none, H1) ∧ yE T n (ys_nx T n p) H1 ∧ zk_Fr zg yl_m [] H H1 := by
  have hb := ys_nxb (T := T) h.2.2
  obtain ⟨_, c1, H1, rfl, c2, c3, c4⟩ := yc_adv (L := L) (σ := σ) (d := d) (p := ys_nx T n p) h.1 h.2.1.2.1 hb.2.2.1
  exact ⟨H1, c1, ⟨c2, c4, hb.2.2.1⟩, zk_Fr_w rfl rfl c3⟩

set_option maxRecDepth 8000 in
theorem yc_look {L : Nat} {σ : Nat → Int32} {d : Nat} {T : Nat → Int} {n p : Nat} {H : zp_H} {x y : Int32} {lo hi : Int} (hx : x.toInt = lo) (hy : y.toInt = hi) (h : yE T n p H) : ∃ X, zp_Call L σ (d + 2) 66 [.inr (.inr (some 52)), .inl x, .inl y] H X ∧ ∃ v H1, X = (.inl (some (.inl v)), H1) ∧ zk_Fr zg yl_m [] H H1 ∧ yKn T n p lo hi v H1 p := by
  have W := zB_Wd h.1.1
  have h4 := yE_4 h
  have h5 : ys_kd T n p ≠ 0 → _ := yE_5 h
  refine zw_met zm_66_t rfl rfl ?_
  refine zw_ld (n := 1) (k := 0) (f := zp_isR) (pc' := 1) rfl rfl rfl rfl rfl ?_
  refine zw_gR (q := 51) (pc' := 4) W rfl rfl rfl rfl (W.2 51 0 _ rfl) rfl ?_
  refine zw_gI (q := 52) (pc' := 7) W rfl rfl rfl rfl rfl rfl ?_
  refine zw_s (pc' := 8) rfl rfl ?_
  refine zw_beq2 (g := 19) (pc' := 11) rfl rfl rfl rfl (rfl : _ = (2 : Int)) (fun h1 => ?_) (fun h1 => ?_)
  · have hv := h5 (by omega)
    have hk : ys_kd T n p = 2 := by omega
    have hv0 := ys_vl_n0 h.2.2 hk
    refine zw_ld (n := 1) (k := 0) (f := zp_isR) (pc' := 20) rfl rfl rfl rfl rfl ?_
    refine zw_gR (q := 51) (pc' := 23) W rfl rfl rfl rfl (W.2 51 0 _ rfl) rfl ?_
    refine zw_gI (q := 52) (pc' := 26) W rfl rfl rfl rfl rfl rfl ?_
    refine zw_ld (n := 1) (k := 1) (f := zp_isI) (pc' := 27) rfl rfl rfl rfl rfl ?_
    refine zw_blt2 (g := 41) (pc' := 30) rfl rfl rfl rfl rfl (fun h2 => ?_) (fun h2 => ?_)
    · refine zw_ld (n := 1) (k := 0) (f := zp_isR) (pc' := 42) rfl rfl rfl rfl rfl ?_
      refine zw_s (pc' := 43) rfl rfl ?_
      obtain ⟨K, c1, c2, c3, c4⟩ := yc_ref (L := L) (σ := σ) (d := d) (x := Int32.ofInt 2) h
      refine zw_c (pc' := 46) (zw_cv (q := 51) (Y := zm_62) W.1 rfl rfl zm_62_t rfl rfl) rfl rfl rfl rfl rfl (c1) ?_
      refine zw_s (pc' := 47) rfl rfl ?_
      refine zw_s (pc' := 48) rfl rfl ?_
      refine zw_ri rfl rfl ?_
      exact ⟨_, K, rfl, c3, Or.inr ⟨rfl, 2, by decide, by decide, c4, yNu_2 hk (by omega), c2⟩⟩
    · refine zw_ld (n := 1) (k := 0) (f := zp_isR) (pc' := 31) rfl rfl rfl rfl rfl ?_
      refine zw_gR (q := 51) (pc' := 34) W rfl rfl rfl rfl (W.2 51 0 _ rfl) rfl ?_
      refine zw_gI (q := 52) (pc' := 37) W rfl rfl rfl rfl rfl rfl ?_
      refine zw_ld (n := 1) (k := 2) (f := zp_isI) (pc' := 38) rfl rfl rfl rfl rfl ?_
      refine zw_ble2 (g := 49) (pc' := 41) rfl rfl rfl rfl rfl (fun h3 => ?_) (fun h3 => ?_)
      · refine zw_ld (n := 1) (k := 0) (f := zp_isR) (pc' := 50) rfl rfl rfl rfl rfl ?_
        refine zw_gR (q := 51) (pc' := 53) W rfl rfl rfl rfl (W.2 51 0 _ rfl) rfl ?_
        refine zw_gI (q := 52) (pc' := 56) W rfl rfl rfl rfl rfl rfl ?_
        refine zw_ri rfl rfl ?_
        exact ⟨_, H, rfl, zk_Fr_r H, Or.inl ⟨hv, by omega, by omega, hv0, hk, yNu_1 hk (by omega) (by omega), h⟩⟩
      · refine zw_ld (n := 1) (k := 0) (f := zp_isR) (pc' := 42) rfl rfl rfl rfl rfl ?_
        refine zw_s (pc' := 43) rfl rfl ?_
        obtain ⟨K, c1, c2, c3, c4⟩ := yc_ref (L := L) (σ := σ) (d := d) (x := Int32.ofInt 2) h
        refine zw_c (pc' := 46) (zw_cv (q := 51) (Y := zm_62) W.1 rfl rfl zm_62_t rfl rfl) rfl rfl rfl rfl rfl (c1) ?_
        refine zw_s (pc' := 47) rfl rfl ?_
        refine zw_s (pc' := 48) rfl rfl ?_
        refine zw_ri rfl rfl ?_
        exact ⟨_, K, rfl, c3, Or.inr ⟨rfl, 2, by decide, by decide, c4, yNu_2 hk (by omega), c2⟩⟩
  · refine zw_ld (n := 1) (k := 0) (f := zp_isR) (pc' := 12) rfl rfl rfl rfl rfl ?_
    refine zw_s (pc' := 13) rfl rfl ?_
    obtain ⟨K, c1, c2, c3, c4⟩ := yc_ref (L := L) (σ := σ) (d := d) (x := Int32.ofInt 1) h
    refine zw_c (pc' := 16) (zw_cv (q := 51) (Y := zm_62) W.1 rfl rfl zm_62_t rfl rfl) rfl rfl rfl rfl rfl (c1) ?_
    refine zw_s (pc' := 17) rfl rfl ?_
    refine zw_s (pc' := 18) rfl rfl ?_
    refine zw_ri rfl rfl ?_
    exact ⟨_, K, rfl, c3, Or.inr ⟨rfl, 1, by decide, by decide, c4, yNu_0 (by omega), c2⟩⟩

set_option maxRecDepth 8000 in
theorem yc_num {L : Nat} {σ : Nat → Int32} {d : Nat} {T : Nat → Int} {n p : Nat} {H : zp_H} {x y : Int32} {lo hi : Int} (hx : x.toInt = lo) (hy : y.toInt = hi) (h : yE T n p H) : ∃ X, zp_Call L σ (d + 4) 65 [.inr (.inr (some 52)), .inl x, .inl y] H X ∧ ∃ v H1, X = (.inl (some (.inl v)), H1) ∧ zk_Fr zg yl_m [] H H1 ∧ yKn T n p lo hi v H1 (ys_nx T n p) := by
  have W := zB_Wd h.1.1
  obtain ⟨_, c1, v, H1, rfl, c2, c3⟩ := yc_look (L := L) (σ := σ) (d := d + 1) hx hy h
  refine zw_met zm_65_t rfl rfl ?_
  refine zw_ld (n := 1) (k := 0) (f := zp_isR) (pc' := 1) rfl rfl rfl rfl rfl ?_
  refine zw_ld (n := 1) (k := 1) (f := zp_isI) (pc' := 2) rfl rfl rfl rfl rfl ?_
  refine zw_ld (n := 1) (k := 2) (f := zp_isI) (pc' := 3) rfl rfl rfl rfl rfl ?_
  refine zw_c (pc' := 6) (zw_cv (q := 51) (Y := zm_66) W.1 rfl rfl zm_66_t rfl rfl) rfl rfl rfl rfl rfl (c1) ?_
  refine zw_st (n := 1) (k := 3) (f := zp_isI) (pc' := 7) rfl rfl rfl rfl rfl ?_
  refine zw_ld (n := 1) (k := 3) (f := zp_isI) (pc' := 8) rfl rfl zw_g1 rfl rfl ?_
  refine zw_s (pc' := 9) rfl rfl ?_
  refine zw_beq2 (g := 19) (pc' := 12) rfl rfl rfl rfl (rfl : _ = (-1 : Int)) (fun h1 => ?_) (fun h1 => ?_)
  · refine zw_ld (n := 1) (k := 3) (f := zp_isI) (pc' := 20) rfl rfl zw_g1 rfl rfl ?_
    refine zw_ri rfl rfl ?_
    rcases c3 with ⟨k1, k2, k3, k4, _⟩ | c3
    · omega
    · exact ⟨_, H1, rfl, c2, Or.inr c3⟩
  · rcases c3 with ⟨k1, k2, k3, k4, k5, k6, k7⟩ | ⟨k1, _⟩
    rotate_left
    · omega
    have W1 := zB_Wd k7.1.1
    obtain ⟨K, a1, a2, a3⟩ := yc_ad2 (L := L) (σ := σ) (d := d) k7
    refine zw_ld (n := 1) (k := 0) (f := zp_isR) (pc' := 13) rfl rfl (zw_gt rfl rfl rfl) rfl rfl ?_
    refine zw_gR (q := 51) (pc' := 16) W1 rfl rfl rfl rfl (W1.2 51 0 _ rfl) rfl ?_
    refine zw_cn (pc' := 19) (zw_cv (q := 52) (Y := zm_55) W1.1 rfl rfl zm_55_t rfl rfl) rfl rfl rfl rfl rfl (a1) ?_
    refine zw_ld (n := 1) (k := 3) (f := zp_isI) (pc' := 20) rfl rfl zw_g1 rfl rfl ?_
    refine zw_ri rfl rfl ?_
    exact ⟨_, K, rfl, zk_Fr_t c2 a3, Or.inl ⟨k1, k2, k3, k4, k5, k6, a2⟩⟩

set_option maxRecDepth 8000 in
theorem yc_way {L : Nat} {σ : Nat → Int32} {d : Nat} {T : Nat → Int} {n p : Nat} {H : zp_H} (h : yE T n p H) : ∃ X, zp_Call L σ (d + 4) 73 [.inr (.inr (some 52))] H X ∧ ∃ v H1, X = (.inl (some (.inl v)), H1) ∧ zk_Fr zg yl_m [] H H1 ∧ ((v.toInt = ys_vl T n p ∧ (ys_kd T n p = 3 ∧ ys_vl T n p < 4) ∧ yE T n (ys_nx T n p) H1) ∨ (v.toInt = -1 ∧ ¬ (ys_kd T n p = 3 ∧ ys_vl T n p < 4) ∧ yFc T n (1, p) H1 ∧ yE T n p H1)) := by
  have W := zB_Wd h.1.1
  have h4 := yE_4 h
  have h5 : ys_kd T n p ≠ 0 → _ := yE_5 h
  refine zw_met zm_73_t rfl rfl ?_
  refine zw_ld (n := 1) (k := 0) (f := zp_isR) (pc' := 1) rfl rfl rfl rfl rfl ?_
  refine zw_gR (q := 51) (pc' := 4) W rfl rfl rfl rfl (W.2 51 0 _ rfl) rfl ?_
  by_cases hw : ys_kd T n p = 3 ∧ ys_vl T n p < 4
  · refine zw_c (pc' := 7) (zw_cv (q := 52) (Y := zm_74) W.1 rfl rfl zm_74_t rfl rfl) rfl rfl rfl rfl rfl (yc_wy1 (d := d + 2) h hw) ?_
    refine zw_bne1 (g := 18) (pc' := 10) rfl rfl rfl (rfl : _ = (1 : Int)) (fun h9 => ?_) (fun h9 => absurd h9 (by decide))
    have hv := h5 (by omega)
    have hvb := ys_vl_b hw.1
    obtain ⟨K, a1, a2, a3⟩ := yc_ad2 (L := L) (σ := σ) (d := d) h
    refine zw_ld (n := 1) (k := 0) (f := zp_isR) (pc' := 19) rfl rfl rfl rfl rfl ?_
    refine zw_gR (q := 51) (pc' := 22) W rfl rfl rfl rfl (W.2 51 0 _ rfl) rfl ?_
    refine zw_gI (q := 52) (pc' := 25) W rfl rfl rfl rfl rfl rfl ?_
    refine zw_st (n := 1) (k := 1) (f := zp_isI) (pc' := 26) rfl rfl rfl rfl rfl ?_
    refine zw_ld (n := 1) (k := 0) (f := zp_isR) (pc' := 27) rfl rfl (zw_gt rfl rfl rfl) rfl rfl ?_
    refine zw_gR (q := 51) (pc' := 30) W rfl rfl rfl rfl (W.2 51 0 _ rfl) rfl ?_
    refine zw_cn (pc' := 33) (zw_cv (q := 52) (Y := zm_55) W.1 rfl rfl zm_55_t rfl rfl) rfl rfl rfl rfl rfl (a1) ?_
    refine zw_ld (n := 1) (k := 1) (f := zp_isI) (pc' := 34) rfl rfl zw_g1 rfl rfl ?_
    refine zw_ri rfl rfl ?_
    exact ⟨_, K, rfl, a3, Or.inl ⟨hv, hw, a2⟩⟩
  · refine zw_c (pc' := 7) (zw_cv (q := 52) (Y := zm_74) W.1 rfl rfl zm_74_t rfl rfl) rfl rfl rfl rfl rfl (yc_wy0 (d := d + 2) h hw) ?_
    refine zw_bne1 (g := 18) (pc' := 10) rfl rfl rfl (rfl : _ = (0 : Int)) (fun h9 => absurd h9 (by decide)) (fun h9 => ?_)
    refine zw_ld (n := 1) (k := 0) (f := zp_isR) (pc' := 11) rfl rfl rfl rfl rfl ?_
    refine zw_s (pc' := 12) rfl rfl ?_
    obtain ⟨K, c1, c2, c3, c4⟩ := yc_ref (L := L) (σ := σ) (d := d + 2) (x := Int32.ofInt 1) h
    refine zw_c (pc' := 15) (zw_cv (q := 51) (Y := zm_62) W.1 rfl rfl zm_62_t rfl rfl) rfl rfl rfl rfl rfl (c1) ?_
    refine zw_s (pc' := 16) rfl rfl ?_
    refine zw_s (pc' := 17) rfl rfl ?_
    refine zw_ri rfl rfl ?_
    exact ⟨_, K, rfl, c3, Or.inr ⟨rfl, hw, c4, c2⟩⟩

set_option maxRecDepth 8000 in
theorem yc_hd {L : Nat} {σ : Nat → Int32} {d : Nat} {T : Nat → Int} {n p : Nat} {H : zp_H} {x : Int32} (h : yE T n p H) : ∃ X, zp_Call L σ (d + 4) 63 [.inr (.inr (some 52)), .inl x] H X ∧ ∃ v H1, X = (.inl (some (.inl v)), H1) ∧ zk_Fr zg yl_m [] H H1 ∧ ((v.toInt = 1 ∧ x.toInt ≠ 0 ∧ yE T n (ys_nx T n p) H1) ∨ (v.toInt = 0 ∧ ¬ (x.toInt ≠ 0) ∧ yFc T n (5, p) H1 ∧ yE T n p H1)) := by
  have W := zB_Wd h.1.1
  refine zw_met zm_63_t rfl rfl ?_
  refine zw_ld (n := 1) (k := 1) (f := zp_isI) (pc' := 1) rfl rfl rfl rfl rfl ?_
  refine zw_bne1 (g := 10) (pc' := 4) rfl rfl rfl rfl (fun h1 => ?_) (fun h1 => ?_)
  · obtain ⟨K, a1, a2, a3⟩ := yc_ad2 (L := L) (σ := σ) (d := d) h
    refine zw_ld (n := 1) (k := 0) (f := zp_isR) (pc' := 11) rfl rfl rfl rfl rfl ?_
    refine zw_gR (q := 51) (pc' := 14) W rfl rfl rfl rfl (W.2 51 0 _ rfl) rfl ?_
    refine zw_cn (pc' := 17) (zw_cv (q := 52) (Y := zm_55) W.1 rfl rfl zm_55_t rfl rfl) rfl rfl rfl rfl rfl (a1) ?_
    refine zw_s (pc' := 18) rfl rfl ?_
    refine zw_rz rfl rfl (by decide) ?_
    exact ⟨_, K, rfl, a3, Or.inl ⟨rfl, by omega, a2⟩⟩
  · refine zw_ld (n := 1) (k := 0) (f := zp_isR) (pc' := 5) rfl rfl rfl rfl rfl ?_
    refine zw_s (pc' := 6) rfl rfl ?_
    obtain ⟨K, c1, c2, c3, c4⟩ := yc_ref (L := L) (σ := σ) (d := d + 2) (x := Int32.ofInt 5) h
    refine zw_c (pc' := 9) (zw_cv (q := 51) (Y := zm_62) W.1 rfl rfl zm_62_t rfl rfl) rfl rfl rfl rfl rfl (c1) ?_
    refine zw_rz rfl rfl (by decide) ?_
    exact ⟨_, K, rfl, c3, Or.inr ⟨rfl, by omega, c4, c2⟩⟩

set_option maxRecDepth 8000 in
theorem yc_hc {L : Nat} {σ : Nat → Int32} {d : Nat} {T : Nat → Int} {n p : Nat} {H : zp_H} {x y : Int32} (h : yE T n p H) : ∃ X, zp_Call L σ (d + 4) 68 [.inr (.inr (some 52)), .inl x, .inl y] H X ∧ ∃ v H1, X = (.inl (some (.inl v)), H1) ∧ zk_Fr zg yl_m [] H H1 ∧ ((v.toInt = 1 ∧ x.toInt < y.toInt ∧ yE T n (ys_nx T n p) H1) ∨ (v.toInt = 0 ∧ ¬ (x.toInt < y.toInt) ∧ yFc T n (2, p) H1 ∧ yE T n p H1)) := by
  have W := zB_Wd h.1.1
  refine zw_met zm_68_t rfl rfl ?_
  refine zw_ld (n := 1) (k := 1) (f := zp_isI) (pc' := 1) rfl rfl rfl rfl rfl ?_
  refine zw_ld (n := 1) (k := 2) (f := zp_isI) (pc' := 2) rfl rfl rfl rfl rfl ?_
  refine zw_blt2 (g := 11) (pc' := 5) rfl rfl rfl rfl rfl (fun h1 => ?_) (fun h1 => ?_)
  · obtain ⟨K, a1, a2, a3⟩ := yc_ad2 (L := L) (σ := σ) (d := d) h
    refine zw_ld (n := 1) (k := 0) (f := zp_isR) (pc' := 12) rfl rfl rfl rfl rfl ?_
    refine zw_gR (q := 51) (pc' := 15) W rfl rfl rfl rfl (W.2 51 0 _ rfl) rfl ?_
    refine zw_cn (pc' := 18) (zw_cv (q := 52) (Y := zm_55) W.1 rfl rfl zm_55_t rfl rfl) rfl rfl rfl rfl rfl (a1) ?_
    refine zw_s (pc' := 19) rfl rfl ?_
    refine zw_rz rfl rfl (by decide) ?_
    exact ⟨_, K, rfl, a3, Or.inl ⟨rfl, by omega, a2⟩⟩
  · refine zw_ld (n := 1) (k := 0) (f := zp_isR) (pc' := 6) rfl rfl rfl rfl rfl ?_
    refine zw_s (pc' := 7) rfl rfl ?_
    obtain ⟨K, c1, c2, c3, c4⟩ := yc_ref (L := L) (σ := σ) (d := d + 2) (x := Int32.ofInt 2) h
    refine zw_c (pc' := 10) (zw_cv (q := 51) (Y := zm_62) W.1 rfl rfl zm_62_t rfl rfl) rfl rfl rfl rfl rfl (c1) ?_
    refine zw_rz rfl rfl (by decide) ?_
    exact ⟨_, K, rfl, c3, Or.inr ⟨rfl, by omega, c4, c2⟩⟩

set_option maxRecDepth 8000 in
theorem yc_end {L : Nat} {σ : Nat → Int32} {d : Nat} {T : Nat → Int} {n p : Nat} {H : zp_H} (h : yE T n p H) : ∃ X, zp_Call L σ (d + 4) 97 [.inr (.inr (some 52))] H X ∧ ∃ v H1, X = (.inl (some (.inl v)), H1) ∧ zk_Fr zg yl_m [] H H1 ∧ ((v.toInt = 1 ∧ (ys_kd T n p = 4 ∧ ys_vl T n p = 59) ∧ yE T n (ys_nx T n p) H1) ∨ (v.toInt = 0 ∧ ¬ (ys_kd T n p = 4 ∧ ys_vl T n p = 59) ∧ yFc T n (1, p) H1 ∧ yE T n p H1)) := by
  have W := zB_Wd h.1.1
  refine zw_met zm_97_t rfl rfl ?_
  refine zw_ld (n := 1) (k := 0) (f := zp_isR) (pc' := 1) rfl rfl rfl rfl rfl ?_
  refine zw_gR (q := 51) (pc' := 4) W rfl rfl rfl rfl (W.2 51 0 _ rfl) rfl ?_
  refine zw_s (pc' := 6) rfl rfl ?_
  by_cases hw : ys_kd T n p = 4 ∧ ys_vl T n p = 59
  · refine zw_c (pc' := 9) (zw_cv (q := 52) (Y := zm_86) W.1 rfl rfl zm_86_t rfl rfl) rfl rfl rfl rfl rfl (yc_sg1 (d := d + 2) rfl h hw) ?_
    refine zw_bne1 (g := 18) (pc' := 12) rfl rfl rfl (rfl : _ = (1 : Int)) (fun h9 => ?_) (fun h9 => absurd h9 (by decide))
    obtain ⟨K, a1, a2, a3⟩ := yc_ad2 (L := L) (σ := σ) (d := d) h
    refine zw_ld (n := 1) (k := 0) (f := zp_isR) (pc' := 19) rfl rfl rfl rfl rfl ?_
    refine zw_gR (q := 51) (pc' := 22) W rfl rfl rfl rfl (W.2 51 0 _ rfl) rfl ?_
    refine zw_cn (pc' := 25) (zw_cv (q := 52) (Y := zm_55) W.1 rfl rfl zm_55_t rfl rfl) rfl rfl rfl rfl rfl (a1) ?_
    refine zw_s (pc' := 26) rfl rfl ?_
    refine zw_rz rfl rfl (by decide) ?_
    exact ⟨_, K, rfl, a3, Or.inl ⟨rfl, hw, a2⟩⟩
  · refine zw_c (pc' := 9) (zw_cv (q := 52) (Y := zm_86) W.1 rfl rfl zm_86_t rfl rfl) rfl rfl rfl rfl rfl (yc_sg0 (d := d + 2) rfl h hw) ?_
    refine zw_bne1 (g := 18) (pc' := 12) rfl rfl rfl (rfl : _ = (0 : Int)) (fun h9 => absurd h9 (by decide)) (fun h9 => ?_)
    refine zw_ld (n := 1) (k := 0) (f := zp_isR) (pc' := 13) rfl rfl rfl rfl rfl ?_
    refine zw_s (pc' := 14) rfl rfl ?_
    obtain ⟨K, c1, c2, c3, c4⟩ := yc_ref (L := L) (σ := σ) (d := d + 2) (x := Int32.ofInt 1) h
    refine zw_c (pc' := 17) (zw_cv (q := 51) (Y := zm_62) W.1 rfl rfl zm_62_t rfl rfl) rfl rfl rfl rfl rfl (c1) ?_
    refine zw_rz rfl rfl (by decide) ?_
    exact ⟨_, K, rfl, c3, Or.inr ⟨rfl, hw, c4, c2⟩⟩

set_option maxRecDepth 8000 in
theorem yc_cell2 {L : Nat} {σ : Nat → Int32} {d : Nat} {T : Nat → Int} {n p : Nat} {H : zp_H} {w hh : Int} {taken : Int64} (hw : (H.2.1 2 0).toInt = w) (hh1 : (H.2.1 2 1).toInt = hh) (h : yE T n p H) : ∃ X, zp_Call L σ (d + 4) 70 [.inr (.inr (some 52)), .inr (.inr (some 3)), .inr (.inl taken)] H X ∧ ∃ v H1, X = (.inl (some (.inl v)), H1) ∧ zk_Fr zg yl_m [] H H1 ∧ yKc T n p w hh taken v H1 := by
  have W := zB_Wd h.1.1
  have r0 := zB_fr1 h.1.1 (p := 2) (k := 0) (r := (2, 8)) rfl
  have r0 : 2 ≤ (H.2.1 2 0).toInt ∧ (H.2.1 2 0).toInt ≤ 8 := r0
  have r1 := zB_fr1 h.1.1 (p := 2) (k := 1) (r := (2, 8)) rfl
  have r1 : 2 ≤ (H.2.1 2 1).toInt ∧ (H.2.1 2 1).toInt ≤ 8 := r1
  have e0 : (H.2.1 2 0 - Int32.ofInt 1).toInt = w - 1 := by rw [zw_m1 (by omega), hw]
  obtain ⟨_, c1, v, H1, rfl, c2, c3⟩ := yc_look (L := L) (σ := σ) (d := d + 1) (x := Int32.ofInt 0) (lo := 0) rfl e0 h
  refine zw_met zm_70_t rfl rfl ?_
  refine zw_ld (n := 1) (k := 0) (f := zp_isR) (pc' := 1) rfl rfl rfl rfl rfl ?_
  refine zw_s (pc' := 2) rfl rfl ?_
  refine zw_ld (n := 1) (k := 1) (f := zp_isR) (pc' := 3) rfl rfl rfl rfl rfl ?_
  refine zw_gI (q := 2) (pc' := 6) W rfl rfl rfl rfl rfl rfl ?_
  refine zw_s (pc' := 7) rfl rfl ?_
  refine zw_isub (pc' := 8) rfl rfl ?_
  refine zw_c (pc' := 11) (zw_cv (q := 51) (Y := zm_66) W.1 rfl rfl zm_66_t rfl rfl) rfl rfl rfl rfl rfl (c1) ?_
  refine zw_st (n := 2) (k := 4) (f := zp_isI) (pc' := 13) rfl rfl rfl rfl rfl ?_
  refine zw_ld (n := 2) (k := 4) (f := zp_isI) (pc' := 15) rfl rfl zw_g1 rfl rfl ?_
  refine zw_s (pc' := 16) rfl rfl ?_
  refine zw_bne2 (g := 21) (pc' := 19) rfl rfl rfl rfl (rfl : _ = (-1 : Int)) (fun h1 => ?_) (fun h1 => ?_)
  · rcases c3 with ⟨k1, k2, k3, k4, k5, k6, k7⟩ | ⟨k1, _⟩
    rotate_left
    · omega
    have W1 := zB_Wd k7.1.1
    obtain ⟨K, a1, a2, a3⟩ := yc_ad2 (L := L) (σ := σ) (d := d) k7
    have WK := zB_Wd a2.1.1
    have f0 : K.2.1 2 = H.2.1 2 := zx_ae (zk_Fr_t c2 a3) 2 (fun k => rfl) rfl rfl
    have e1 : (K.2.1 2 1 - Int32.ofInt 1).toInt = hh - 1 := by rw [f0, zw_m1 (by omega), hh1]
    obtain ⟨_, d1, v2, H2, rfl, d2, d3⟩ := yc_look (L := L) (σ := σ) (d := d + 1) (x := Int32.ofInt 0) (lo := 0) rfl e1 a2
    refine zw_ld (n := 1) (k := 0) (f := zp_isR) (pc' := 22) rfl rfl (zw_gt rfl rfl rfl) rfl rfl ?_
    refine zw_gR (q := 51) (pc' := 25) W1 rfl rfl rfl rfl (W1.2 51 0 _ rfl) rfl ?_
    refine zw_cn (pc' := 28) (zw_cv (q := 52) (Y := zm_55) W1.1 rfl rfl zm_55_t rfl rfl) rfl rfl rfl rfl rfl (a1) ?_
    refine zw_ld (n := 1) (k := 0) (f := zp_isR) (pc' := 29) rfl rfl (zw_gt rfl rfl rfl) rfl rfl ?_
    refine zw_s (pc' := 30) rfl rfl ?_
    refine zw_ld (n := 1) (k := 1) (f := zp_isR) (pc' := 31) rfl rfl (zw_gt rfl rfl rfl) rfl rfl ?_
    refine zw_gI (q := 2) (pc' := 34) WK rfl rfl rfl rfl rfl rfl ?_
    refine zw_s (pc' := 35) rfl rfl ?_
    refine zw_isub (pc' := 36) rfl rfl ?_
    refine zw_c (pc' := 39) (zw_cv (q := 51) (Y := zm_66) WK.1 rfl rfl zm_66_t rfl rfl) rfl rfl rfl rfl rfl (d1) ?_
    refine zw_st (n := 2) (k := 5) (f := zp_isI) (pc' := 41) rfl rfl rfl rfl rfl ?_
    refine zw_ld (n := 2) (k := 5) (f := zp_isI) (pc' := 43) rfl rfl zw_g1 rfl rfl ?_
    refine zw_s (pc' := 44) rfl rfl ?_
    refine zw_bne2 (g := 49) (pc' := 47) rfl rfl rfl rfl (rfl : _ = (-1 : Int)) (fun h2 => ?_) (fun h2 => ?_)
    · rcases d3 with ⟨m1, m2, m3, m4, m5, m6, m7⟩ | ⟨m1, _⟩
      rotate_left
      · omega
      have W2 := zB_Wd m7.1.1
      have g0 : H2.2.1 2 = H.2.1 2 := zx_ae (zk_Fr_t c2 (zk_Fr_t a3 d2)) 2 (fun k => rfl) rfl rfl
      have hW0 : (H2.2.1 2 0).toInt = w := by rw [g0, hw]
      have hpr : 0 ≤ w * ys_vl T n (ys_nx T n p) ∧ w * ys_vl T n (ys_nx T n p) ≤ 56 := by
        have q1 : 2 ≤ w ∧ w ≤ 8 := by omega
        have q2 : 0 ≤ ys_vl T n (ys_nx T n p) ∧ ys_vl T n (ys_nx T n p) ≤ 7 := by omega
        refine ⟨Int.mul_nonneg (by omega) q2.1, ?_⟩
        exact Int.le_trans (Int.mul_le_mul_of_nonneg_left q2.2 (by omega)) (by omega)
      have em : (H2.2.1 2 0 * v2).toInt = w * ys_vl T n (ys_nx T n p) := by
        rw [zq_mul m1 (by rw [hW0]; omega) (by rw [hW0]; omega), hW0]
      have ec : (H2.2.1 2 0 * v2 + v).toInt = w * ys_vl T n (ys_nx T n p) + ys_vl T n p := by
        rw [zq_add (by rw [em, k1]; omega) (by rw [em, k1]; omega), em, k1]
      have eb : Int32.ofInt (w * ys_vl T n (ys_nx T n p) + ys_vl T n p) = H2.2.1 2 0 * v2 + v := by
        rw [← ec, Int32.ofInt_toInt]
      refine zw_ld (n := 1) (k := 1) (f := zp_isR) (pc' := 50) rfl rfl (zw_gt (zw_gt rfl rfl rfl) rfl rfl) rfl rfl ?_
      refine zw_gI (q := 2) (pc' := 53) W2 rfl rfl rfl rfl rfl rfl ?_
      refine zw_ld (n := 2) (k := 5) (f := zp_isI) (pc' := 55) rfl rfl zw_g1 rfl rfl ?_
      refine zw_imul (pc' := 56) rfl rfl ?_
      refine zw_ld (n := 2) (k := 4) (f := zp_isI) (pc' := 58) rfl rfl (zw_gt zw_g1 rfl rfl) rfl rfl ?_
      refine zw_iadd (pc' := 59) rfl rfl ?_
      refine zw_st (n := 2) (k := 6) (f := zp_isI) (pc' := 61) rfl rfl rfl rfl rfl ?_
      refine zw_ld (n := 1) (k := 2) (f := zp_isL) (pc' := 62) rfl rfl (zw_gt (zw_gt (zw_gt rfl rfl rfl) rfl rfl) rfl rfl) rfl rfl ?_
      refine zw_ld (n := 2) (k := 6) (f := zp_isI) (pc' := 64) rfl rfl zw_g1 rfl rfl ?_
      refine zw_cx (pc' := 67) (zw_csx (Y := zm_4) rfl rfl zm_4_t) rfl rfl rfl rfl rfl (zn_bit) ?_
      refine zw_land (pc' := 68) rfl rfl ?_
      refine zw_s (pc' := 69) rfl rfl ?_
      refine zw_s (pc' := 70) rfl rfl ?_
      refine zw_beq1 (g := 81) (pc' := 73) rfl rfl rfl rfl (fun h3 => ?_) (fun h3 => ?_)
      · have hz : taken &&& yBit (w * ys_vl T n (ys_nx T n p) + ys_vl T n p) = 0 := by
          unfold yBit
          rw [eb]
          exact zl_cmp0 h3
        obtain ⟨Q, b1, b2, b3⟩ := yc_ad2 (L := L) (σ := σ) (d := d) m7
        refine zw_ld (n := 1) (k := 0) (f := zp_isR) (pc' := 82) rfl rfl (zw_gt (zw_gt (zw_gt rfl rfl rfl) rfl rfl) rfl rfl) rfl rfl ?_
        refine zw_gR (q := 51) (pc' := 85) W2 rfl rfl rfl rfl (W2.2 51 0 _ rfl) rfl ?_
        refine zw_cn (pc' := 88) (zw_cv (q := 52) (Y := zm_55) W2.1 rfl rfl zm_55_t rfl rfl) rfl rfl rfl rfl rfl (b1) ?_
        refine zw_ld (n := 2) (k := 6) (f := zp_isI) (pc' := 90) rfl rfl zw_g1 rfl rfl ?_
        refine zw_ri rfl rfl ?_
        exact ⟨_, Q, rfl, zk_Fr_t c2 (zk_Fr_t a3 (zk_Fr_t d2 b3)), Or.inl ⟨ec, k6, m6, ⟨by omega, by omega⟩, hz, b2⟩⟩
      · have hz : taken &&& yBit (w * ys_vl T n (ys_nx T n p) + ys_vl T n p) ≠ 0 := by
          unfold yBit
          rw [eb]
          exact zl_cmp1 h3
        obtain ⟨Q, b1, b2, b3, b4⟩ := yc_ref (L := L) (σ := σ) (d := d + 2) (x := Int32.ofInt 4) m7
        refine zw_ld (n := 1) (k := 0) (f := zp_isR) (pc' := 74) rfl rfl (zw_gt (zw_gt (zw_gt rfl rfl rfl) rfl rfl) rfl rfl) rfl rfl ?_
        refine zw_s (pc' := 75) rfl rfl ?_
        refine zw_c (pc' := 78) (zw_cv (q := 51) (Y := zm_62) W2.1 rfl rfl zm_62_t rfl rfl) rfl rfl rfl rfl rfl (b1) ?_
        refine zw_s (pc' := 79) rfl rfl ?_
        refine zw_s (pc' := 80) rfl rfl ?_
        refine zw_ri rfl rfl ?_
        exact ⟨_, Q, rfl, zk_Fr_t c2 (zk_Fr_t a3 (zk_Fr_t d2 b3)), Or.inr ⟨rfl, 4, _, by decide, by decide, b4, b2, Or.inr (Or.inr ⟨rfl, rfl, k6, m6, hz⟩)⟩⟩
    · refine zw_s (pc' := 48) rfl rfl ?_
      refine zw_ri rfl rfl ?_
      rcases d3 with ⟨m1, m2, m3, m4, _⟩ | ⟨_, k, m1, m2, m3, m4, m5⟩
      · omega
      · exact ⟨_, H2, rfl, zk_Fr_t c2 (zk_Fr_t a3 d2), Or.inr ⟨rfl, k, _, m1, m2, m3, m5, Or.inr (Or.inl ⟨rfl, k6, m4⟩)⟩⟩
  · refine zw_s (pc' := 20) rfl rfl ?_
    refine zw_ri rfl rfl ?_
    rcases c3 with ⟨k1, k2, k3, k4, _⟩ | ⟨_, k, k1, k2, k3, k4, k5⟩
    · omega
    · exact ⟨_, H1, rfl, c2, Or.inr ⟨rfl, k, p, k1, k2, k3, k5, Or.inl ⟨rfl, k4⟩⟩⟩

set_option maxRecDepth 8000 in
theorem yc_cell22 {L : Nat} {σ : Nat → Int32} {d : Nat} {T : Nat → Int} {n p : Nat} {H : zp_H} {w hh : Int} {taken : Int64} (hw : (H.2.1 22 0).toInt = w) (hh1 : (H.2.1 22 1).toInt = hh) (h : yE T n p H) : ∃ X, zp_Call L σ (d + 4) 70 [.inr (.inr (some 52)), .inr (.inr (some 23)), .inr (.inl taken)] H X ∧ ∃ v H1, X = (.inl (some (.inl v)), H1) ∧ zk_Fr zg yl_m [] H H1 ∧ yKc T n p w hh taken v H1 := by
  have W := zB_Wd h.1.1
  have r0 := zB_fr1 h.1.1 (p := 22) (k := 0) (r := (2, 8)) rfl
  have r0 : 2 ≤ (H.2.1 22 0).toInt ∧ (H.2.1 22 0).toInt ≤ 8 := r0
  have r1 := zB_fr1 h.1.1 (p := 22) (k := 1) (r := (2, 8)) rfl
  have r1 : 2 ≤ (H.2.1 22 1).toInt ∧ (H.2.1 22 1).toInt ≤ 8 := r1
  have e0 : (H.2.1 22 0 - Int32.ofInt 1).toInt = w - 1 := by rw [zw_m1 (by omega), hw]
  obtain ⟨_, c1, v, H1, rfl, c2, c3⟩ := yc_look (L := L) (σ := σ) (d := d + 1) (x := Int32.ofInt 0) (lo := 0) rfl e0 h
  refine zw_met zm_70_t rfl rfl ?_
  refine zw_ld (n := 1) (k := 0) (f := zp_isR) (pc' := 1) rfl rfl rfl rfl rfl ?_
  refine zw_s (pc' := 2) rfl rfl ?_
  refine zw_ld (n := 1) (k := 1) (f := zp_isR) (pc' := 3) rfl rfl rfl rfl rfl ?_
  refine zw_gI (q := 22) (pc' := 6) W rfl rfl rfl rfl rfl rfl ?_
  refine zw_s (pc' := 7) rfl rfl ?_
  refine zw_isub (pc' := 8) rfl rfl ?_
  refine zw_c (pc' := 11) (zw_cv (q := 51) (Y := zm_66) W.1 rfl rfl zm_66_t rfl rfl) rfl rfl rfl rfl rfl (c1) ?_
  refine zw_st (n := 2) (k := 4) (f := zp_isI) (pc' := 13) rfl rfl rfl rfl rfl ?_
  refine zw_ld (n := 2) (k := 4) (f := zp_isI) (pc' := 15) rfl rfl zw_g1 rfl rfl ?_
  refine zw_s (pc' := 16) rfl rfl ?_
  refine zw_bne2 (g := 21) (pc' := 19) rfl rfl rfl rfl (rfl : _ = (-1 : Int)) (fun h1 => ?_) (fun h1 => ?_)
  · rcases c3 with ⟨k1, k2, k3, k4, k5, k6, k7⟩ | ⟨k1, _⟩
    rotate_left
    · omega
    have W1 := zB_Wd k7.1.1
    obtain ⟨K, a1, a2, a3⟩ := yc_ad2 (L := L) (σ := σ) (d := d) k7
    have WK := zB_Wd a2.1.1
    have f0 : K.2.1 22 = H.2.1 22 := zx_ae (zk_Fr_t c2 a3) 22 (fun k => rfl) rfl rfl
    have e1 : (K.2.1 22 1 - Int32.ofInt 1).toInt = hh - 1 := by rw [f0, zw_m1 (by omega), hh1]
    obtain ⟨_, d1, v2, H2, rfl, d2, d3⟩ := yc_look (L := L) (σ := σ) (d := d + 1) (x := Int32.ofInt 0) (lo := 0) rfl e1 a2
    refine zw_ld (n := 1) (k := 0) (f := zp_isR) (pc' := 22) rfl rfl (zw_gt rfl rfl rfl) rfl rfl ?_
    refine zw_gR (q := 51) (pc' := 25) W1 rfl rfl rfl rfl (W1.2 51 0 _ rfl) rfl ?_
    refine zw_cn (pc' := 28) (zw_cv (q := 52) (Y := zm_55) W1.1 rfl rfl zm_55_t rfl rfl) rfl rfl rfl rfl rfl (a1) ?_
    refine zw_ld (n := 1) (k := 0) (f := zp_isR) (pc' := 29) rfl rfl (zw_gt rfl rfl rfl) rfl rfl ?_
    refine zw_s (pc' := 30) rfl rfl ?_
    refine zw_ld (n := 1) (k := 1) (f := zp_isR) (pc' := 31) rfl rfl (zw_gt rfl rfl rfl) rfl rfl ?_
    refine zw_gI (q := 22) (pc' := 34) WK rfl rfl rfl rfl rfl rfl ?_
    refine zw_s (pc' := 35) rfl rfl ?_
    refine zw_isub (pc' := 36) rfl rfl ?_
    refine zw_c (pc' := 39) (zw_cv (q := 51) (Y := zm_66) WK.1 rfl rfl zm_66_t rfl rfl) rfl rfl rfl rfl rfl (d1) ?_
    refine zw_st (n := 2) (k := 5) (f := zp_isI) (pc' := 41) rfl rfl rfl rfl rfl ?_
    refine zw_ld (n := 2) (k := 5) (f := zp_isI) (pc' := 43) rfl rfl zw_g1 rfl rfl ?_
    refine zw_s (pc' := 44) rfl rfl ?_
    refine zw_bne2 (g := 49) (pc' := 47) rfl rfl rfl rfl (rfl : _ = (-1 : Int)) (fun h2 => ?_) (fun h2 => ?_)
    · rcases d3 with ⟨m1, m2, m3, m4, m5, m6, m7⟩ | ⟨m1, _⟩
      rotate_left
      · omega
      have W2 := zB_Wd m7.1.1
      have g0 : H2.2.1 22 = H.2.1 22 := zx_ae (zk_Fr_t c2 (zk_Fr_t a3 d2)) 22 (fun k => rfl) rfl rfl
      have hW0 : (H2.2.1 22 0).toInt = w := by rw [g0, hw]
      have hpr : 0 ≤ w * ys_vl T n (ys_nx T n p) ∧ w * ys_vl T n (ys_nx T n p) ≤ 56 := by
        have q1 : 2 ≤ w ∧ w ≤ 8 := by omega
        have q2 : 0 ≤ ys_vl T n (ys_nx T n p) ∧ ys_vl T n (ys_nx T n p) ≤ 7 := by omega
        refine ⟨Int.mul_nonneg (by omega) q2.1, ?_⟩
        exact Int.le_trans (Int.mul_le_mul_of_nonneg_left q2.2 (by omega)) (by omega)
      have em : (H2.2.1 22 0 * v2).toInt = w * ys_vl T n (ys_nx T n p) := by
        rw [zq_mul m1 (by rw [hW0]; omega) (by rw [hW0]; omega), hW0]
      have ec : (H2.2.1 22 0 * v2 + v).toInt = w * ys_vl T n (ys_nx T n p) + ys_vl T n p := by
        rw [zq_add (by rw [em, k1]; omega) (by rw [em, k1]; omega), em, k1]
      have eb : Int32.ofInt (w * ys_vl T n (ys_nx T n p) + ys_vl T n p) = H2.2.1 22 0 * v2 + v := by
        rw [← ec, Int32.ofInt_toInt]
      refine zw_ld (n := 1) (k := 1) (f := zp_isR) (pc' := 50) rfl rfl (zw_gt (zw_gt rfl rfl rfl) rfl rfl) rfl rfl ?_
      refine zw_gI (q := 22) (pc' := 53) W2 rfl rfl rfl rfl rfl rfl ?_
      refine zw_ld (n := 2) (k := 5) (f := zp_isI) (pc' := 55) rfl rfl zw_g1 rfl rfl ?_
      refine zw_imul (pc' := 56) rfl rfl ?_
      refine zw_ld (n := 2) (k := 4) (f := zp_isI) (pc' := 58) rfl rfl (zw_gt zw_g1 rfl rfl) rfl rfl ?_
      refine zw_iadd (pc' := 59) rfl rfl ?_
      refine zw_st (n := 2) (k := 6) (f := zp_isI) (pc' := 61) rfl rfl rfl rfl rfl ?_
      refine zw_ld (n := 1) (k := 2) (f := zp_isL) (pc' := 62) rfl rfl (zw_gt (zw_gt (zw_gt rfl rfl rfl) rfl rfl) rfl rfl) rfl rfl ?_
      refine zw_ld (n := 2) (k := 6) (f := zp_isI) (pc' := 64) rfl rfl zw_g1 rfl rfl ?_
      refine zw_cx (pc' := 67) (zw_csx (Y := zm_4) rfl rfl zm_4_t) rfl rfl rfl rfl rfl (zn_bit) ?_
      refine zw_land (pc' := 68) rfl rfl ?_
      refine zw_s (pc' := 69) rfl rfl ?_
      refine zw_s (pc' := 70) rfl rfl ?_
      refine zw_beq1 (g := 81) (pc' := 73) rfl rfl rfl rfl (fun h3 => ?_) (fun h3 => ?_)
      · have hz : taken &&& yBit (w * ys_vl T n (ys_nx T n p) + ys_vl T n p) = 0 := by
          unfold yBit
          rw [eb]
          exact zl_cmp0 h3
        obtain ⟨Q, b1, b2, b3⟩ := yc_ad2 (L := L) (σ := σ) (d := d) m7
        refine zw_ld (n := 1) (k := 0) (f := zp_isR) (pc' := 82) rfl rfl (zw_gt (zw_gt (zw_gt rfl rfl rfl) rfl rfl) rfl rfl) rfl rfl ?_
        refine zw_gR (q := 51) (pc' := 85) W2 rfl rfl rfl rfl (W2.2 51 0 _ rfl) rfl ?_
        refine zw_cn (pc' := 88) (zw_cv (q := 52) (Y := zm_55) W2.1 rfl rfl zm_55_t rfl rfl) rfl rfl rfl rfl rfl (b1) ?_
        refine zw_ld (n := 2) (k := 6) (f := zp_isI) (pc' := 90) rfl rfl zw_g1 rfl rfl ?_
        refine zw_ri rfl rfl ?_
        exact ⟨_, Q, rfl, zk_Fr_t c2 (zk_Fr_t a3 (zk_Fr_t d2 b3)), Or.inl ⟨ec, k6, m6, ⟨by omega, by omega⟩, hz, b2⟩⟩
      · have hz : taken &&& yBit (w * ys_vl T n (ys_nx T n p) + ys_vl T n p) ≠ 0 := by
          unfold yBit
          rw [eb]
          exact zl_cmp1 h3
        obtain ⟨Q, b1, b2, b3, b4⟩ := yc_ref (L := L) (σ := σ) (d := d + 2) (x := Int32.ofInt 4) m7
        refine zw_ld (n := 1) (k := 0) (f := zp_isR) (pc' := 74) rfl rfl (zw_gt (zw_gt (zw_gt rfl rfl rfl) rfl rfl) rfl rfl) rfl rfl ?_
        refine zw_s (pc' := 75) rfl rfl ?_
        refine zw_c (pc' := 78) (zw_cv (q := 51) (Y := zm_62) W2.1 rfl rfl zm_62_t rfl rfl) rfl rfl rfl rfl rfl (b1) ?_
        refine zw_s (pc' := 79) rfl rfl ?_
        refine zw_s (pc' := 80) rfl rfl ?_
        refine zw_ri rfl rfl ?_
        exact ⟨_, Q, rfl, zk_Fr_t c2 (zk_Fr_t a3 (zk_Fr_t d2 b3)), Or.inr ⟨rfl, 4, _, by decide, by decide, b4, b2, Or.inr (Or.inr ⟨rfl, rfl, k6, m6, hz⟩)⟩⟩
    · refine zw_s (pc' := 48) rfl rfl ?_
      refine zw_ri rfl rfl ?_
      rcases d3 with ⟨m1, m2, m3, m4, _⟩ | ⟨_, k, m1, m2, m3, m4, m5⟩
      · omega
      · exact ⟨_, H2, rfl, zk_Fr_t c2 (zk_Fr_t a3 d2), Or.inr ⟨rfl, k, _, m1, m2, m3, m5, Or.inr (Or.inl ⟨rfl, k6, m4⟩)⟩⟩
  · refine zw_s (pc' := 20) rfl rfl ?_
    refine zw_ri rfl rfl ?_
    rcases c3 with ⟨k1, k2, k3, k4, _⟩ | ⟨_, k, k1, k2, k3, k4, k5⟩
    · omega
    · exact ⟨_, H1, rfl, c2, Or.inr ⟨rfl, k, p, k1, k2, k3, k5, Or.inl ⟨rfl, k4⟩⟩⟩
end
