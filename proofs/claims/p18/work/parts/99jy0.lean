/-! ===== what a row is worth, said once for both sides ===== -/
def xJn (a : Nat) (x y : Int32) : Int32 :=
  if a = 4 then (if x.toInt ≠ 0 ∧ y.toInt ≠ 0 then Int32.ofInt 1 else Int32.ofInt 0)
  else if a = 5 then (if x.toInt ≠ 0 ∨ y.toInt ≠ 0 then Int32.ofInt 1 else Int32.ofInt 0)
  else if a = 6 then (if x.toInt < y.toInt then Int32.ofInt 1 else Int32.ofInt 0)
  else if a = 7 then (if x.toInt = y.toInt then Int32.ofInt 1 else Int32.ofInt 0)
  else if a = 8 then x + y
  else if a = 9 then x - y
  else if a = 10 then x * y
  else (if y.toInt = 0 then Int32.ofInt 0 else x / y)
theorem xJn_4 {x y : Int32} : xJn 4 x y = (if x.toInt ≠ 0 ∧ y.toInt ≠ 0 then Int32.ofInt 1 else Int32.ofInt 0) := rfl
theorem xJn_5 {x y : Int32} : xJn 5 x y = (if x.toInt ≠ 0 ∨ y.toInt ≠ 0 then Int32.ofInt 1 else Int32.ofInt 0) := rfl
theorem xJn_6 {x y : Int32} : xJn 6 x y = (if x.toInt < y.toInt then Int32.ofInt 1 else Int32.ofInt 0) := rfl
theorem xJn_7 {x y : Int32} : xJn 7 x y = (if x.toInt = y.toInt then Int32.ofInt 1 else Int32.ofInt 0) := rfl
theorem xJn_8 {x y : Int32} : xJn 8 x y = x + y := rfl
theorem xJn_9 {x y : Int32} : xJn 9 x y = x - y := rfl
theorem xJn_10 {x y : Int32} : xJn 10 x y = x * y := rfl
theorem xJn_11 {x y : Int32} : xJn 11 x y = (if y.toInt = 0 then Int32.ofInt 0 else x / y) := rfl
/-- what a row does to a pile, the top first -/
def xEv (V : Nat → Int32) : List xIt → List Int32 → List Int32
  | [], S => S
  | i :: C, S => xEv V C (if i.1 = 0 then Int32.ofInt i.2 :: S else if i.1 = 1 then V i.2.toNat :: S else if i.1 = 3 then (if (S.headD (Int32.ofInt 0)).toInt = 0 then Int32.ofInt 1 else Int32.ofInt 0) :: S.tail else xJn i.1 (S.tail.headD (Int32.ofInt 0)) (S.headD (Int32.ofInt 0)) :: S.tail.tail)
theorem xEv_0 {V : Nat → Int32} {i : xIt} {C : List xIt} {S : List Int32} (h : i.1 = 0) : xEv V (i :: C) S = xEv V C (Int32.ofInt i.2 :: S) := by
  show xEv V C (if i.1 = 0 then _ else _) = _
  rw [if_pos h]
theorem xEv_1 {V : Nat → Int32} {i : xIt} {C : List xIt} {S : List Int32} (h : i.1 = 1) : xEv V (i :: C) S = xEv V C (V i.2.toNat :: S) := by
  show xEv V C (if i.1 = 0 then _ else if i.1 = 1 then _ else _) = _
  rw [if_neg (by omega), if_pos h]
theorem xEv_3 {V : Nat → Int32} {i : xIt} {C : List xIt} {S : List Int32} {x : Int32} (h : i.1 = 3) : xEv V (i :: C) (x :: S) = xEv V C ((if x.toInt = 0 then Int32.ofInt 1 else Int32.ofInt 0) :: S) := by
  show xEv V C (if i.1 = 0 then _ else if i.1 = 1 then _ else if i.1 = 3 then _ else _) = _
  rw [if_neg (by omega), if_neg (by omega), if_pos h]
  rfl
theorem xEv_4 {V : Nat → Int32} {i : xIt} {C : List xIt} {S : List Int32} {x y : Int32} (h : 3 < i.1) : xEv V (i :: C) (y :: x :: S) = xEv V C (xJn i.1 x y :: S) := by
  show xEv V C (if i.1 = 0 then _ else if i.1 = 1 then _ else if i.1 = 3 then _ else _) = _
  rw [if_neg (by omega), if_neg (by omega), if_neg (by omega)]
  rfl
def xWo (V : Nat → Int32) (C : List xIt) : Int32 := (xEv V C []).headD (Int32.ofInt 0)
/-- a pile kept in an array -/
def xSk (f : Nat → Int32) : List Int32 → Prop
  | [] => True
  | v :: S => f S.length = v ∧ xSk f S
theorem xSk_c {f g : Nat → Int32} : ∀ {S : List Int32}, (∀ i, i < S.length → g i = f i) → xSk f S → xSk g S
  | [], _, _ => trivial
  | v :: S, h, h1 => ⟨(h _ (by show S.length < S.length + 1; omega)).trans h1.1, xSk_c (fun i hi => h i (by show i < S.length + 1; omega)) h1.2⟩
theorem xE2_a {i : xIt} (h : 3 < i.1) : xE2 i = xE2 (xAc i.1) := by
  unfold xE2
  rw [if_neg (show ¬ i.1 = 0 by omega), if_neg (show ¬ i.1 = 1 by omega), if_neg (show ¬ (xAc i.1).1 = 0 by show ¬ i.1 = 0; omega), if_neg (show ¬ (xAc i.1).1 = 1 by show ¬ i.1 = 1; omega)]
  rfl
/-- the way by the rules from r on -/
def xWb (V : Nat → Int32) (wy : Nat → Int32) (CC : Nat → List xIt) : Nat → Nat → Int32
  | 0, _ => Int32.ofInt (-1)
  | n + 1, r => if (xWo V (CC r)).toInt = 0 then xWb V wy CC n (r + 1) else wy r
theorem xWb_n {V : Nat → Int32} {wy : Nat → Int32} {CC : Nat → List xIt} {n r : Nat} (h : (xWo V (CC r)).toInt = 0) : xWb V wy CC (n + 1) r = xWb V wy CC n (r + 1) := if_pos h
theorem xWb_y {V : Nat → Int32} {wy : Nat → Int32} {CC : Nat → List xIt} {n r : Nat} (h : ¬ (xWo V (CC r)).toInt = 0) : xWb V wy CC (n + 1) r = wy r := if_neg h
theorem xWb_b {V : Nat → Int32} {wy : Nat → Int32} {CC : Nat → List xIt} : ∀ (n r : Nat), (∀ k, k < r + n → -1 ≤ (wy k).toInt ∧ (wy k).toInt ≤ 3) → -1 ≤ (xWb V wy CC n r).toInt ∧ (xWb V wy CC n r).toInt ≤ 3
  | 0, _, _ => ⟨by show (-1 : Int) ≤ (Int32.ofInt (-1)).toInt; decide, by show (Int32.ofInt (-1)).toInt ≤ 3; decide⟩
  | n + 1, r, h => by
    by_cases h9 : (xWo V (CC r)).toInt = 0
    · rw [xWb_n h9]
      exact xWb_b n (r + 1) (fun k hk => h k (by omega))
    · rw [xWb_y h9]
      exact h r (by omega)
theorem xWb_c {V : Nat → Int32} {wy wz : Nat → Int32} {CC : Nat → List xIt} : ∀ (n r : Nat), (∀ k, k < r + n → wy k = wz k) → xWb V wy CC n r = xWb V wz CC n r
  | 0, _, _ => rfl
  | n + 1, r, h => by
    by_cases h9 : (xWo V (CC r)).toInt = 0
    · rw [xWb_n h9, xWb_n h9]
      exact xWb_c n (r + 1) (fun k hk => h k (by omega))
    · rw [xWb_y h9, xWb_y h9]
      exact h r (by omega)
/-- the values of an hour -/
def xVl (S : xSea) (c h : Int32) (u : Int64) (k : Nat) : Int32 :=
  if k < 4 then (if xBe S.1 S.2.1 c.toInt k = -1 ∨ yTb u (xBe S.1 S.2.1 c.toInt k).toNat = true then Int32.ofInt 1 else Int32.ofInt 0)
  else if k = 4 then Int32.ofInt (c.toInt % S.1)
  else if k = 5 then Int32.ofInt (c.toInt / S.1)
  else if k = 6 then h
  else (if xDr S c.toInt h.toInt true = -1 then Int32.ofInt 0 else Int32.ofInt 1)
/-- a pilot's hours -/
def xPl (S : xSea) (g : Int) (W : Int32 → Int32 → Int32) : Nat → Int32 → Int32 → Int32 → Int32 × Int32 × Int32
  | 0, c, h, e => (c, h, e)
  | n + 1, c, h, e => if e.toInt = 0 then xPl S g W n (Int32.ofInt (xSt S c.toInt h.toInt (W c h).toInt true).2) (if (xSt S c.toInt h.toInt (W c h).toInt true).1 = 0 then h + Int32.ofInt 1 else h) (if (xSt S c.toInt h.toInt (W c h).toInt true).1 = 0 ∧ g ≤ (xSt S c.toInt h.toInt (W c h).toInt true).2 % S.1 then Int32.ofInt 4 else Int32.ofInt (xSt S c.toInt h.toInt (W c h).toInt true).1) else (c, h, e)
theorem xPl_n {S : xSea} {g : Int} {W : Int32 → Int32 → Int32} {c h e : Int32} (he : ¬ e.toInt = 0) : ∀ n, xPl S g W n c h e = (c, h, e)
  | 0 => rfl
  | _ + 1 => if_neg he
theorem xPl_y {S : xSea} {g : Int} {W : Int32 → Int32 → Int32} {c h e : Int32} {n : Nat} (he : e.toInt = 0) : xPl S g W (n + 1) c h e = xPl S g W n (Int32.ofInt (xSt S c.toInt h.toInt (W c h).toInt true).2) (if (xSt S c.toInt h.toInt (W c h).toInt true).1 = 0 then h + Int32.ofInt 1 else h) (if (xSt S c.toInt h.toInt (W c h).toInt true).1 = 0 ∧ g ≤ (xSt S c.toInt h.toInt (W c h).toInt true).2 % S.1 then Int32.ofInt 4 else Int32.ofInt (xSt S c.toInt h.toInt (W c h).toInt true).1) := if_pos he
theorem xPl_c {S : xSea} {g : Int} {W W' : Int32 → Int32 → Int32} (h9 : ∀ c h, W c h = W' c h) : xPl S g W = xPl S g W' := by
  have e : W = W' := funext fun c => funext fun h => h9 c h
  rw [e]
/-- where he begins: is he through at once -/
def xP0 (S : xSea) (g : Int) (c : Int32) : Int32 := if g ≤ c.toInt % S.1 then Int32.ofInt 4 else Int32.ofInt 0
/-- the rocks that one knows who has read these slates -/
def xKn (f : Nat → Int64) (set : Int32) : Nat → Int32 → Int64 → Int64
  | 0, _, u => u
  | n + 1, s, u => xKn f set n (s + Int32.ofInt 1) (if (set >>> (s &&& 31) &&& Int32.ofInt 1).toInt = 0 then u else u ||| f s.toInt.toNat)
theorem xKn_n {f : Nat → Int64} {set s : Int32} {n : Nat} {u : Int64} (h : (set >>> (s &&& 31) &&& Int32.ofInt 1).toInt = 0) : xKn f set (n + 1) s u = xKn f set n (s + Int32.ofInt 1) u := by
  show xKn f set n (s + Int32.ofInt 1) (if _ then _ else _) = _
  rw [if_pos h]
theorem xKn_y {f : Nat → Int64} {set s : Int32} {n : Nat} {u : Int64} (h : ¬ (set >>> (s &&& 31) &&& Int32.ofInt 1).toInt = 0) : xKn f set (n + 1) s u = xKn f set n (s + Int32.ofInt 1) (u ||| f s.toInt.toNat) := by
  show xKn f set n (s + Int32.ofInt 1) (if _ then _ else _) = _
  rw [if_neg h]
theorem xKn_c {f g : Nat → Int64} {set : Int32} : ∀ (n : Nat) (s : Int32) (u : Int64), 0 ≤ s.toInt → s.toInt + n ≤ 8 → (∀ j : Nat, (j : Int) < s.toInt + n → f j = g j) → xKn f set n s u = xKn g set n s u
  | 0, _, _, _, _, _ => rfl
  | n + 1, s, u, h0, h8, h => by
    have e : (s + Int32.ofInt 1).toInt = s.toInt + 1 := zw_p1 (by omega)
    by_cases h9 : (set >>> (s &&& 31) &&& Int32.ofInt 1).toInt = 0
    · rw [xKn_n h9, xKn_n h9]
      exact xKn_c n _ _ (by omega) (by omega) (fun j hj => h j (by omega))
    · rw [xKn_y h9, xKn_y h9, h _ (by omega)]
      exact xKn_c n _ _ (by omega) (by omega) (fun j hj => h j (by omega))
/-- the length of a pile behind a row -/
theorem xEv_l {V : Nat → Int32} {d : Int} : ∀ (C : List xIt) (S : List Int32), xWf d C S.length → ((xEv V C S).length : Int) = xHt C S.length
  | [], _, _ => rfl
  | i :: C, S, h => by
    have h : (if i.1 < 2 then ((S.length : Int) + 1 ≤ d ∧ 0 ≤ i.2 ∧ i.2 ≤ 9999 ∧ (i.1 = 1 → i.2 < 8)) ∧ xWf d C ((S.length : Int) + 1) else if i.1 = 3 then 1 ≤ (S.length : Int) ∧ xWf d C S.length else (2 ≤ (S.length : Int) ∧ 3 < i.1 ∧ i.1 < 12) ∧ xWf d C ((S.length : Int) - 1)) := h
    show _ = xHt C (if i.1 < 2 then (S.length : Int) + 1 else if i.1 = 3 then (S.length : Int) else (S.length : Int) - 1)
    by_cases h2 : i.1 < 2
    · rw [if_pos h2] at h ⊢
      have e : ∀ v : Int32, ((v :: S).length : Int) = (S.length : Int) + 1 := fun v => by
        show ((S.length + 1 : Nat) : Int) = _
        omega
      rcases (show i.1 = 0 ∨ i.1 = 1 by omega) with h1 | h1
      · rw [xEv_0 h1, xEv_l C _ (by rw [e]; exact h.2), e]
      · rw [xEv_1 h1, xEv_l C _ (by rw [e]; exact h.2), e]
    · rw [if_neg h2] at h ⊢
      by_cases h3 : i.1 = 3
      · rw [if_pos h3] at h ⊢
        match S, h with
        | x :: S, h =>
          rw [xEv_3 h3]
          exact xEv_l C (_ :: S) h.2
        | [], h => exact absurd h.1 (by decide)
      · rw [if_neg h3] at h ⊢
        match S, h with
        | y :: x :: S, h =>
          have e : ∀ v : Int32, ((v :: S).length : Int) = ((y :: x :: S).length : Int) - 1 := fun v => by
            show ((S.length + 1 : Nat) : Int) = ((S.length + 1 + 1 : Nat) : Int) - 1
            omega
          rw [xEv_4 h.1.2.1, xEv_l C _ (by rw [e]; exact h.2), e]
        | [x], h =>
          have h9 : (2 : Int) ≤ ((1 : Nat) : Int) := h.1.1
          omega
        | [], h => exact absurd h.1.1 (by decide)
/-- a row of an operand leaves one value -/
theorem xEv_w {V : Nat → Int32} {C : List xIt} (h : xOp 37 C) : xEv V C [] = [xWo V C] := by
  obtain ⟨h1, h2⟩ := h 0 (Int.le_refl _)
  have e := xEv_l (V := V) C [] h2
  have e : ((xEv V C []).length : Int) = xHt C 0 := e
  rw [h1] at e
  unfold xWo
  match hx : xEv V C [], e with
  | [v], _ => rfl
  | [], e => exact absurd e (by decide)
  | _ :: _ :: S, e =>
    have e : ((S.length + 1 + 1 : Nat) : Int) = 0 + 1 := e
    omega
