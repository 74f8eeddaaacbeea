/-! ===== a whole text, said once for both sides: a machine over tokens ===== -/
/-- 0 first, 1 wide, 2 high, 3 rocks, 4 slates, 5 hands, 6 pilots, 7 rules, 8 school told, 9 goal told; the rocks; cells with a current -/
abbrev yLD : Type := (Nat → Int) × Int64 × (Nat → Bool)
/-- mode, brackets, a number kept, a count, bits, what was told, place -/
abbrev yL : Type := Nat × List Bool × Int × Int × Int32 × yLD × Nat
def yU (f : Nat → Int) (k : Nat) (v : Int) : Nat → Int := fun j => if j = k then v else f j
def yUb (f : Nat → Bool) (k : Int) : Nat → Bool := fun j => if (j : Int) = k then true else f j
/-- a number from lo to hi, or the fault -/
def yNu (T : Nat → Int) (n p : Nat) (lo hi : Int) (ok : Int → yL) : yL ⊕ (Int × Nat) := if ys_kd T n p = 2 then (if lo ≤ ys_vl T n p ∧ ys_vl T n p ≤ hi then .inl (ok (ys_vl T n p)) else .inr (2, p)) else .inr (1, p)
def yBit (c : Int) : Int64 := za_shl0 (Int64.ofNat 1) (Int32.ofInt c)
/-- datum i is told: v -/
def yW (d : yLD) (i : Nat) (v : Int) : yLD := (yU d.1 i v, d.2.1, yUb d.2.2 (1000 + (i : Int)))
def yWcu (d : yLD) (x v : Int) : yLD := (yU (yU d.1 (100 + x.toNat % 64) v) 13 (d.1 13 + 1), d.2.1, yUb (yUb d.2.2 (1000 + ((100 + x.toNat % 64 : Nat) : Int))) x)
theorem yWcu_e {d : yLD} {x v : Int} (h : 0 ≤ x ∧ x < 64) : yWcu d x v = (yU (yU d.1 (100 + x.toNat) v) 13 (d.1 13 + 1), d.2.1, yUb (yUb d.2.2 (1000 + ((100 + x.toNat : Nat) : Int))) x) := by
  unfold yWcu
  rw [Nat.mod_eq_of_lt (by omega)]
def yWsl (d : yLD) (x v : Int) : yLD := yW (yW (yW (yW d (200 + (d.1 4).toNat) x) (210 + (d.1 4).toNat) v) (220 + (d.1 4).toNat) 0) (230 + (d.1 4).toNat) 0
def yWmk (d : yLD) (a x v : Int) : yLD := yW (yW (yW d (300 + (8 * (d.1 4).toNat + a.toNat)) x) (400 + (8 * (d.1 4).toNat + a.toNat)) v) (220 + (d.1 4).toNat) (a + 1)
def yWpi (d : yLD) (x a : Int) (y : Int32) : yLD := yW (yW (yW (yU d.1 6 (d.1 6 + 1), d.2) (600 + (d.1 6).toNat) x) (610 + (d.1 6).toNat) a) (620 + (d.1 6).toNat) y.toInt
def yWha (d : yLD) (v : Int) : yLD := (yU (yW d (500 + (4 * (d.1 5).toNat + 3)) v).1 5 ((yW d (500 + (4 * (d.1 5).toNat + 3)) v).1 5 + 1), (yW d (500 + (4 * (d.1 5).toNat + 3)) v).2)
/-- a rule's row begins at place p; it ends at place p -/
def yDR (d : yLD) (p : Nat) : yLD := (yU d.1 14 (d.1 14 * 1024 + (p : Int)), d.2)
def yDG (d : yLD) (p : Nat) : yLD := (yU d.1 15 (p : Int), d.2)
def y0 (T : Nat → Int) (n : Nat) (d : yLD) (p : Nat) : yL ⊕ (Int × Nat) :=
  if ys_kd T n p = 0 then .inr (0, p)
  else if ys_kd T n p ≠ 3 then .inr (1, p)
  else if ys_vl T n p = 12 then (if d.1 0 ≠ 0 then .inl (1, [], 0, 0, 0, d, ys_nx T n p) else .inr (5, p))
  else if ys_vl T n p = 13 then (if d.1 3 < 20 then .inl (3, [], 0, 0, 0, d, ys_nx T n p) else .inr (2, p))
  else if ys_vl T n p = 14 then .inl (5, [], 0, 0, 0, d, ys_nx T n p)
  else if ys_vl T n p = 15 then (if d.1 4 < 8 then .inl (8, [], 0, 0, 0, d, ys_nx T n p) else .inr (2, p))
  else if ys_vl T n p = 16 then (if d.1 5 < 5 then .inl (13, [], 0, 12, 0, d, ys_nx T n p) else .inr (2, p))
  else if ys_vl T n p = 17 then (if d.1 8 = 0 then .inl (15, [], 0, 0, 0, d, ys_nx T n p) else .inr (5, p))
  else if ys_vl T n p = 18 then (if d.1 9 = 0 then .inl (18, [], 0, 0, 0, d, ys_nx T n p) else .inr (5, p))
  else if ys_vl T n p = 19 then (if d.1 6 < 4 then .inl (19, [], 0, 0, 0, d, ys_nx T n p) else .inr (2, p))
  else if ys_vl T n p = 20 then (if d.1 7 < 8 then .inl (102, [false], 0, 0, 0, yDR d (ys_nx T n p), ys_nx T n p) else .inr (2, p))
  else .inr (1, p)
def yN2 (T : Nat → Int) (n : Nat) (s : yL) : yL ⊕ (Int × Nat) :=
  let lv := s.2.1; let x := s.2.2.1; let a := s.2.2.2.1; let y := s.2.2.2.2.1; let d := s.2.2.2.2.2.1; let p := s.2.2.2.2.2.2
  if 100 ≤ s.1 then
    (match yN T n (s.1 - 100, lv, p) with
    | .inl m => .inl (100 + m.1, m.2.1, 0, 0, 0, d, m.2.2)
    | .inr r => if r.1 = 0 then .inl (40, [], 0, 0, 0, d, r.2) else .inr r)
  else if s.1 = 0 then y0 T n d p
  else if s.1 = 1 then yNu T n p 2 8 (fun v => (2, [], v, 0, 0, d, ys_nx T n p))
  else if s.1 = 2 then yNu T n p 2 8 (fun v => (50, [], 0, 0, 0, (yU (yU d.1 1 x) 2 v, d.2), ys_nx T n p))
  else if s.1 = 3 then yNu T n p 0 (d.1 1 - 1) (fun v => (4, [], v, 0, 0, d, ys_nx T n p))
  else if s.1 = 4 then
    (match yNu T n p 0 (d.1 2 - 1) (fun v => (50, [], d.1 1 * v + x, 0, 0, d, ys_nx T n p)) with
    | .inr r => .inr r
    | .inl t => if d.2.1 &&& yBit t.2.2.1 = 0 then .inl (50, [], 0, 0, 0, (yU d.1 3 (d.1 3 + 1), d.2.1 ||| yBit t.2.2.1, d.2.2), ys_nx T n p) else .inr (4, p))
  else if s.1 = 5 then yNu T n p 0 (d.1 1 - 1) (fun v => (6, [], v, 0, 0, d, ys_nx T n p))
  else if s.1 = 6 then
    (match yNu T n p 0 (d.1 2 - 1) (fun v => (7, [], d.1 1 * v + x, 0, 0, d, ys_nx T n p)) with
    | .inr r => .inr r
    | .inl t => if d.2.2 t.2.2.1.toNat then .inr (4, p) else .inl t)
  else if s.1 = 7 then (if ys_kd T n p = 3 ∧ ys_vl T n p < 4 then .inl (50, [], 0, 0, 0, yWcu d x (ys_vl T n p), ys_nx T n p) else .inr (1, p))
  else if s.1 = 8 then yNu T n p 0 (d.1 1 - 1) (fun v => (9, [], v, 0, 0, d, ys_nx T n p))
  else if s.1 = 9 then yNu T n p 0 (d.1 2 - 1) (fun v => (10, [], d.1 1 * v + x, 0, 0, d, ys_nx T n p))
  else if s.1 = 10 then yNu T n p 0 99 (fun v => (11, [], 0, 0, 0, yWsl d x v, ys_nx T n p))
  else if s.1 = 11 then
    (if ys_kd T n p = 3 ∧ ys_vl T n p < 4 then (if a = 8 then .inr (2, p) else .inl (12, [], ys_vl T n p, a, 0, d, ys_nx T n p))
    else .inl (50, [], 0, 0, 0, (yU d.1 4 (d.1 4 + 1), d.2), p))
  else if s.1 = 12 then yNu T n p 1 9 (fun v => (11, [], 0, a + 1, 0, yWmk d a x v, ys_nx T n p))
  else if s.1 = 13 then
    (if x < 3 then yNu T n p 0 12 (fun v => (13, [], x + 1, a - v, 0, yW d (500 + (4 * (d.1 5).toNat + x.toNat)) v, ys_nx T n p))
    else yNu T n p a a (fun v => (50, [], 0, 0, 0, yWha d v, ys_nx T n p)))
  else if s.1 = 15 then yNu T n p 0 (d.1 1 - 1) (fun v => (16, [], v, 0, 0, d, ys_nx T n p))
  else if s.1 = 16 then yNu T n p 0 (d.1 2 - 1) (fun v => (17, [], d.1 1 * v + x, 0, 0, d, ys_nx T n p))
  else if s.1 = 17 then yNu T n p 0 9 (fun v => (50, [], 0, 0, 0, yW (yW (yU d.1 8 1, d.2) 20 x) 21 v, ys_nx T n p))
  else if s.1 = 18 then yNu T n p 0 7 (fun v => (50, [], 0, 0, 0, yW (yU d.1 9 1, d.2) 22 v, ys_nx T n p))
  else if s.1 = 19 then yNu T n p 0 (d.1 1 - 1) (fun v => (20, [], v, 0, 0, d, ys_nx T n p))
  else if s.1 = 20 then yNu T n p 0 (d.1 2 - 1) (fun v => (21, [], d.1 1 * v + x, 0, 0, d, ys_nx T n p))
  else if s.1 = 21 then yNu T n p 0 99 (fun v => (22, [], x, v, 0, d, ys_nx T n p))
  else if s.1 = 22 then
    (if ys_kd T n p = 2 then
      (if 9999 < ys_vl T n p then .inr (2, p)
      else if d.1 4 ≤ ys_vl T n p then .inr (3, p)
      else if y >>> (Int32.ofInt (ys_vl T n p) &&& 31) &&& Int32.ofInt 1 ≠ Int32.ofInt 0 then .inr (4, p)
      else .inl (22, [], x, a, y ||| Int32.ofInt 1 <<< (Int32.ofInt (ys_vl T n p) &&& 31), d, ys_nx T n p))
    else .inl (50, [], 0, 0, 0, yWpi d x a y, p))
  else if s.1 = 40 then (if ys_kd T n p = 3 ∧ ys_vl T n p = 11 then .inl (41, [], 0, 0, 0, yDG d (ys_nx T n p), ys_nx T n p) else .inr (1, p))
  else if s.1 = 41 then (if ys_kd T n p = 3 ∧ ys_vl T n p < 4 then .inl (50, [], 0, 0, 0, yW (yU d.1 7 (d.1 7 + 1), d.2) (700 + (d.1 7).toNat) (ys_vl T n p), ys_nx T n p) else .inr (1, p))
  else (if ys_kd T n p = 4 ∧ ys_vl T n p = 59 then .inl (0, [], 0, 0, 0, (yU d.1 0 0, d.2), ys_nx T n p) else .inr (1, p))
def yA2f (T : Nat → Int) (n : Nat) : Nat → yL → Option (Int × Nat)
  | 0, _ => none
  | f + 1, s => match yN2 T n s with
    | .inr r => some r
    | .inl s' => yA2f T n f s'
def yA2 (T : Nat → Int) (n : Nat) (s : yL) (r : Int × Nat) : Prop := ∃ f, yA2f T n f s = some r
theorem yA2f_d {T : Nat → Int} {n f : Nat} {s : yL} {r : Int × Nat} (h : yN2 T n s = .inr r) : yA2f T n (f + 1) s = some r := by
  unfold yA2f
  rw [h]
theorem yA2f_s {T : Nat → Int} {n f : Nat} {s s' : yL} (h : yN2 T n s = .inl s') : yA2f T n (f + 1) s = yA2f T n f s' := by
  show (match yN2 T n s with
    | .inr r => some r
    | .inl s' => yA2f T n f s') = _
  rw [h]
theorem yA2_done {T : Nat → Int} {n : Nat} {s : yL} {r : Int × Nat} (h : yN2 T n s = .inr r) : yA2 T n s r := ⟨1, yA2f_d h⟩
theorem yA2_step {T : Nat → Int} {n : Nat} {s s' : yL} {r : Int × Nat} (h : yN2 T n s = .inl s') (h1 : yA2 T n s' r) : yA2 T n s r := by
  obtain ⟨f, hf⟩ := h1
  exact ⟨f + 1, (yA2f_s h).trans hf⟩
theorem yA2f_u {T : Nat → Int} {n : Nat} {r r' : Int × Nat} : ∀ (f f' : Nat) (s : yL), yA2f T n f s = some r → yA2f T n f' s = some r' → r = r'
  | 0, _, _, h, _ => by cases h
  | _ + 1, 0, _, _, h => by cases h
  | f + 1, f' + 1, s, h, h' => by
    cases hN : yN2 T n s with
    | inr r9 =>
      rw [yA2f_d hN] at h h'
      exact (Option.some.inj h).symm.trans (Option.some.inj h')
    | inl s' =>
      rw [yA2f_s hN] at h h'
      exact yA2f_u f f' s' h h'
theorem yA2_u {T : Nat → Int} {n : Nat} {s : yL} {r r' : Int × Nat} (h : yA2 T n s r) (h' : yA2 T n s r') : r = r' := by
  obtain ⟨f, h⟩ := h
  obtain ⟨f', h'⟩ := h'
  exact yA2f_u f f' s h h'
/-- s' is reached from s -/
def yIt (T : Nat → Int) (n : Nat) : Nat → yL → Option yL
  | 0, s => some s
  | f + 1, s => match yN2 T n s with
    | .inr _ => none
    | .inl s' => yIt T n f s'
def yO2 (T : Nat → Int) (n : Nat) (s : yL) (o : (Int × Nat) ⊕ yL) : Prop := match o with
  | .inl r => yA2 T n s r
  | .inr t => ∃ f, yIt T n f s = some t
def yR2 (T : Nat → Int) (n : Nat) (s s' : yL) : Prop := ∀ o, yO2 T n s' o → yO2 T n s o
theorem yR2_a {T : Nat → Int} {n : Nat} {s s' : yL} {r : Int × Nat} (h : yR2 T n s s') (h1 : yA2 T n s' r) : yA2 T n s r := h (.inl r) h1
theorem yR2_r {T : Nat → Int} {n : Nat} {s : yL} : yR2 T n s s := fun _ h => h
theorem yR2_t {T : Nat → Int} {n : Nat} {s s' s'' : yL} (h1 : yR2 T n s s') (h2 : yR2 T n s' s'') : yR2 T n s s'' := fun o h => h1 o (h2 o h)
theorem yR2_s {T : Nat → Int} {n : Nat} {s s' : yL} (h : yN2 T n s = .inl s') : yR2 T n s s' := fun o h1 => by
  match o, h1 with
  | .inl r, h1 => exact yA2_step h h1
  | .inr t, ⟨f, h1⟩ =>
    refine ⟨f + 1, ?_⟩
    show (match yN2 T n s with
      | .inr _ => none
      | .inl s' => yIt T n f s') = _
    rw [h]
    exact h1
theorem yIt_u {T : Nat → Int} {n : Nat} {t t' : yL} {r r' : Int × Nat} (e : yN2 T n t = .inr r) (e' : yN2 T n t' = .inr r') : ∀ (f f' : Nat) (s : yL), yIt T n f s = some t → yIt T n f' s = some t' → t = t'
  | 0, 0, _, h, h' => (Option.some.inj h).symm.trans (Option.some.inj h')
  | 0, f' + 1, s, h, h' => by
    have h : s = t := Option.some.inj h
    subst h
    have h' : (match yN2 T n s with
      | .inr _ => none
      | .inl s' => yIt T n f' s') = some t' := h'
    rw [e] at h'
    cases h'
  | f + 1, 0, s, h, h' => by
    have h' : s = t' := Option.some.inj h'
    subst h'
    have h : (match yN2 T n s with
      | .inr _ => none
      | .inl s' => yIt T n f s') = some t := h
    rw [e'] at h
    cases h
  | f + 1, f' + 1, s, h, h' => by
    have h : (match yN2 T n s with
      | .inr _ => none
      | .inl s' => yIt T n f s') = some t := h
    have h' : (match yN2 T n s with
      | .inr _ => none
      | .inl s' => yIt T n f' s') = some t' := h'
    cases hN : yN2 T n s with
    | inr r9 =>
      rw [hN] at h
      cases h
    | inl s' =>
      rw [hN] at h h'
      exact yIt_u e e' f f' s' h h'
/-- both ends of a text are one -/
theorem yR2_u {T : Nat → Int} {n : Nat} {s t t' : yL} {r r' : Int × Nat} (e : yN2 T n t = .inr r) (e' : yN2 T n t' = .inr r') (h : yR2 T n s t) (h' : yR2 T n s t') : t = t' := by
  obtain ⟨f, h⟩ := h (.inr t) ⟨0, rfl⟩
  obtain ⟨f', h'⟩ := h' (.inr t') ⟨0, rfl⟩
  exact yIt_u e e' f f' s h h'
/-- an expression within a text -/
theorem yN2_x {T : Nat → Int} {n m p : Nat} {lv : List Bool} {d : yLD} : yN2 T n (100 + m, lv, 0, 0, 0, d, p) = (match yN T n (m, lv, p) with
    | .inl m => .inl (100 + m.1, m.2.1, 0, 0, 0, d, m.2.2)
    | .inr r => if r.1 = 0 then .inl (40, [], 0, 0, 0, d, r.2) else .inr r) := by
  unfold yN2
  rw [if_pos (show 100 ≤ (100 + m, lv, (0 : Int), (0 : Int), (0 : Int32), d, p).1 from Nat.le_add_right _ _), show (100 + m, lv, (0 : Int), (0 : Int), (0 : Int32), d, p).1 - 100 = m from Nat.add_sub_cancel_left 100 m]
theorem yA_2 {T : Nat → Int} {n : Nat} {d : yLD} {r : Int × Nat} : ∀ (f : Nat) (s : yM), yAf T n f s = some r → (r.1 = 0 → yR2 T n (100 + s.1, s.2.1, 0, 0, 0, d, s.2.2) (40, [], 0, 0, 0, d, r.2)) ∧ (r.1 ≠ 0 → yA2 T n (100 + s.1, s.2.1, 0, 0, 0, d, s.2.2) r)
  | 0, _, h => by cases h
  | f + 1, (m, lv, p), h => by
    have e := yN2_x (T := T) (n := n) (m := m) (p := p) (lv := lv) (d := d)
    cases hN : yN T n (m, lv, p) with
    | inr r9 =>
      rw [yAf_d hN] at h
      obtain rfl := Option.some.inj h
      rw [hN] at e
      constructor
      · intro h0
        refine yR2_s (e.trans ?_)
        show (if r9.1 = 0 then _ else _) = _
        rw [if_pos h0]
      · intro h0
        refine yA2_done (e.trans ?_)
        show (if r9.1 = 0 then _ else _) = _
        rw [if_neg h0]
    | inl s' =>
      rw [yAf_s hN] at h
      rw [hN] at e
      obtain ⟨k1, k2⟩ := yA_2 f s' h
      exact ⟨fun h0 => yR2_t (yR2_s e) (k1 h0), fun h0 => yA2_step e (k2 h0)⟩
theorem yA_20 {T : Nat → Int} {n p q : Nat} {d : yLD} (h : yA T n (2, [false], p) (0, q)) : yR2 T n (102, [false], 0, 0, 0, d, p) (40, [], 0, 0, 0, d, q) := by
  obtain ⟨f, h⟩ := h
  exact (yA_2 f _ h).1 rfl
theorem yA_2k {T : Nat → Int} {n p : Nat} {d : yLD} {r : Int × Nat} (h : yA T n (2, [false], p) r) (hr : r.1 ≠ 0) : yA2 T n (102, [false], 0, 0, 0, d, p) r := by
  obtain ⟨f, h⟩ := h
  exact (yA_2 f _ h).2 hr
/-! told data stand at their places, but those of a list -/
def yXd (loc : Nat → Nat × Nat) (e : List Nat) (d : yLD) (H : zp_H) : Prop := ∀ i, 20 ≤ i → d.2.2 (1000 + i) = true → i ∉ e → (H.2.1 (loc i).1 (loc i).2).toInt = d.1 i
def yInj (loc : Nat → Nat × Nat) : Prop := ∀ i j, 20 ≤ i → 20 ≤ j → loc i = loc j → i = j
theorem yW_n {d : yLD} {i j : Nat} {v : Int} (h : j ≠ i) : (yW d i v).1 j = d.1 j := if_neg h
theorem yW_e {d : yLD} {i : Nat} {v : Int} : (yW d i v).1 i = v := if_pos rfl
theorem yW_fn {d : yLD} {i j : Nat} {v : Int} (h : j ≠ 1000 + i) : (yW d i v).2.2 j = d.2.2 j := if_neg (by omega)
theorem yW_fe {d : yLD} {i : Nat} {v : Int} : (yW d i v).2.2 (1000 + i) = true := if_pos (by omega)
section
variable {loc : Nat → Nat × Nat} {e : List Nat} {d : yLD} {H H1 : zp_H}
theorem yXd_w {i0 p k : Nat} {x : Int32} (hi : yInj loc) (h20 : 20 ≤ i0) (hl : loc i0 = (p, k)) (h : yXd loc e d H) : yXd loc (i0 :: e) d (zw_I H p k x) := by
  intro i h1 h2 h3
  have h4 : i ≠ i0 := fun h9 => h3 (by rw [h9]; exact List.mem_cons_self)
  have e1 : (zw_I H p k x).2.1 (loc i).1 (loc i).2 = H.2.1 (loc i).1 (loc i).2 := zp_u_ne (fun h9 => h4 (hi i i0 h1 h20 (by rw [hl]; exact Prod.ext h9.1 h9.2)))
  rw [e1]
  exact h i h1 h2 (fun h9 => h3 (List.mem_cons_of_mem _ h9))
theorem yXd_D {i0 : Nat} {v : Int} (h : yXd loc e d H) : yXd loc (i0 :: e) (yW d i0 v) H := by
  intro i h1 h2 h3
  have h4 : i ≠ i0 := fun h9 => h3 (by rw [h9]; exact List.mem_cons_self)
  rw [yW_fn (by omega)] at h2
  rw [yW_n h4]
  exact h i h1 h2 (fun h9 => h3 (List.mem_cons_of_mem _ h9))
theorem yXd_C {i0 : Nat} (h : yXd loc (i0 :: e) d H) (hv : (H.2.1 (loc i0).1 (loc i0).2).toInt = d.1 i0) : yXd loc e d H := by
  intro i h1 h2 h3
  by_cases h4 : i = i0
  · rw [h4]
    exact hv
  · exact h i h1 h2 (fun h9 => (List.mem_cons.mp h9).elim h4 h3)
theorem yXd_s {e' : List Nat} (hs : ∀ i, i ∈ e → i ∈ e') (h : yXd loc e d H) : yXd loc e' d H := fun i h1 h2 h3 => h i h1 h2 (fun h9 => h3 (hs i h9))
theorem yXd_k {k : Nat} {v : Int} (hk : k < 20) (h : yXd loc e d H) : yXd loc e (yU d.1 k v, d.2) H := by
  intro i h1 h2 h3
  show _ = yU d.1 k v i
  rw [show yU d.1 k v i = d.1 i from if_neg (by omega)]
  exact h i h1 h2 h3
theorem yXd_r {u : Int64} (h : yXd loc e d H) : yXd loc e (d.1, u, d.2.2) H := h
theorem yXd_b {x : Int} (hx : x < 1000) (h : yXd loc e d H) : yXd loc e (d.1, d.2.1, yUb d.2.2 x) H := by
  intro i h1 h2 h3
  have e1 : yUb d.2.2 x (1000 + i) = d.2.2 (1000 + i) := if_neg (by omega)
  exact h i h1 (e1.symm.trans h2) h3
theorem yXd_c (hc : ∀ i, 20 ≤ i → H1.2.1 (loc i).1 (loc i).2 = H.2.1 (loc i).1 (loc i).2) (h : yXd loc e d H) : yXd loc e d H1 := by
  intro i h1 h2 h3
  rw [hc i h1]
  exact h i h1 h2 h3
/-- a write that closes a gap -/
theorem yXd_wc {i0 p k : Nat} {x : Int32} (hi : yInj loc) (h20 : 20 ≤ i0) (hl : loc i0 = (p, k)) (hv : x.toInt = d.1 i0) (h : yXd loc (i0 :: e) d H) : yXd loc e d (zw_I H p k x) := by
  intro i h1 h2 h3
  by_cases h4 : i = i0
  · rw [h4, hl]
    exact (congrArg Int32.toInt zw_eq).trans hv
  · have e1 : (zw_I H p k x).2.1 (loc i).1 (loc i).2 = H.2.1 (loc i).1 (loc i).2 := zp_u_ne (fun h9 => h4 (hi i i0 h1 h20 (by rw [hl]; exact Prod.ext h9.1 h9.2)))
    rw [e1]
    exact h i h1 h2 (fun h9 => (List.mem_cons.mp h9).elim h4 h3)
/-- a write and the datum -/
theorem yXd_wD {i0 p k : Nat} {x : Int32} {v : Int} (hi : yInj loc) (h20 : 20 ≤ i0) (hl : loc i0 = (p, k)) (hv : x.toInt = v) (h : yXd loc e d H) : yXd loc e (yW d i0 v) (zw_I H p k x) := by
  have h1 := yXd_D (i0 := i0) (v := v) (yXd_w (x := x) hi h20 hl h)
  refine yXd_C (i0 := i0) (yXd_s (fun i h9 => ?_) h1) ?_
  · rcases List.mem_cons.mp h9 with h9 | h9
    · rw [h9]; exact List.mem_cons_self
    · exact h9
  · rw [hl, yW_e]
    exact (congrArg Int32.toInt zw_eq).trans hv
end
