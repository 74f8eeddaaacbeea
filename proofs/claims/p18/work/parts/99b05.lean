/-! ===== codes of rules: a machine that puts them out, rows, what they are worth ===== -/
/-- (0, v) a number, (1, k) a value, (a, 0) an act of the reference: 3 not, 4 and, 5 or, 6 less, 7 same, 8 plus, 9 minus, 10 times, 11 divided; 14 open -/
abbrev xIt : Type := Nat × Int
def xAc (a : Nat) : xIt := (a, 0)
def xSg (a : Nat) : Nat := if a = 5 then 1 else if a = 4 then 2 else if a = 3 then 3 else if a = 6 ∨ a = 7 then 4 else if a = 8 ∨ a = 9 then 5 else 6
/-- those that wait and are at least so strong are dropped, up to one that is open -/
def xDp (l : Nat) : List Nat → List Nat × List Nat
  | [] => ([], [])
  | a :: w => if a < 14 ∧ l ≤ xSg a then (a :: (xDp l w).1, (xDp l w).2) else ([], a :: w)
def xTop (l : Nat) : List Nat → Prop
  | [] => True
  | a :: _ => 14 ≤ a ∨ xSg a < l
theorem xTop_up {l l2 : Nat} {W : List Nat} (hl : l ≤ l2) (h : xTop l W) : xTop l2 W := by
  cases W with
  | nil => exact trivial
  | cons a w =>
    have h : 14 ≤ a ∨ xSg a < l := h
    show 14 ≤ a ∨ xSg a < l2
    omega
theorem xDp_0 {l : Nat} {W : List Nat} (hW : xTop l W) : xDp l W = ([], W) := by
  cases W with
  | nil => rfl
  | cons a w =>
    have h : 14 ≤ a ∨ xSg a < l := hW
    exact if_neg (by omega)
theorem xDp_app {l : Nat} {P W : List Nat} (hP : ∀ a ∈ P, a < 14 ∧ l ≤ xSg a) (hW : xTop l W) : xDp l (P ++ W) = (P, W) := by
  induction P with
  | nil => exact xDp_0 hW
  | cons a P ih =>
    have h := hP a List.mem_cons_self
    have e := ih (fun b hb => hP b (List.mem_cons_of_mem _ hb))
    show (if a < 14 ∧ l ≤ xSg a then (a :: (xDp l (P ++ W)).1, (xDp l (P ++ W)).2) else ([], a :: (P ++ W))) = (a :: P, W)
    rw [if_pos h, e]
/-- an act comes: what is as strong is dropped, it waits -/
def xPs (l a : Nat) (W : List Nat) (O : List xIt) : List Nat × List xIt := (a :: (xDp l W).2, O ++ (xDp l W).1.map xAc)
def xWO (T : Nat → Int) (n m p : Nat) (W : List Nat) (O : List xIt) : List Nat × List xIt :=
  if m = 0 then
    if ys_kd T n p = 3 then (if ys_vl T n p = 9 then xPs 2 4 W O else xPs 1 5 W O)
    else if ys_vl T n p = 60 then xPs 4 6 W O
    else if ys_vl T n p = 61 then xPs 4 7 W O
    else if ys_vl T n p = 43 then xPs 5 8 W O
    else if ys_vl T n p = 45 then xPs 5 9 W O
    else if ys_vl T n p = 42 then xPs 6 10 W O
    else if ys_vl T n p = 47 then xPs 6 11 W O
    else ((xDp 0 W).2.tail, O ++ (xDp 0 W).1.map xAc)
  else if ys_kd T n p = 3 ∧ ys_vl T n p = 10 ∧ 2 ≤ m then (3 :: W, O)
  else if ys_kd T n p = 4 then (14 :: W, O)
  else if ys_kd T n p = 2 then (W, O ++ [(0, ys_vl T n p)])
  else (W, O ++ [(1, ys_vl T n p)])
def yTf (T : Nat → Int) (n : Nat) : Nat → yM → List Nat → List xIt → Option (Nat × List xIt)
  | 0, _, _, _ => none
  | f + 1, s, W, O => match yN T n s with
    | .inr r => if r.1 = 0 then some (r.2, O ++ (xDp 0 W).1.map xAc) else none
    | .inl s' => yTf T n f s' (xWO T n s.1 s.2.2 W O).1 (xWO T n s.1 s.2.2 W O).2
def yTA (T : Nat → Int) (n : Nat) (s : yM) (W : List Nat) (O : List xIt) (r : Nat × List xIt) : Prop := ∃ f, yTf T n f s W O = some r
theorem yTf_s {T : Nat → Int} {n f : Nat} {s s' : yM} {W : List Nat} {O : List xIt} (h : yN T n s = .inl s') : yTf T n (f + 1) s W O = yTf T n f s' (xWO T n s.1 s.2.2 W O).1 (xWO T n s.1 s.2.2 W O).2 := by
  show (match yN T n s with
    | .inr r => if r.1 = 0 then some (r.2, O ++ (xDp 0 W).1.map xAc) else none
    | .inl s' => yTf T n f s' (xWO T n s.1 s.2.2 W O).1 (xWO T n s.1 s.2.2 W O).2) = _
  rw [h]
theorem yTf_e {T : Nat → Int} {n f : Nat} {s : yM} {W : List Nat} {O : List xIt} {r : Int × Nat} (h : yN T n s = .inr r) : yTf T n (f + 1) s W O = if r.1 = 0 then some (r.2, O ++ (xDp 0 W).1.map xAc) else none := by
  show (match yN T n s with
    | .inr r => if r.1 = 0 then some (r.2, O ++ (xDp 0 W).1.map xAc) else none
    | .inl s' => yTf T n f s' (xWO T n s.1 s.2.2 W O).1 (xWO T n s.1 s.2.2 W O).2) = _
  rw [h]
theorem yTf_u {T : Nat → Int} {n : Nat} {r r' : Nat × List xIt} : ∀ (f f' : Nat) (s : yM) (W : List Nat) (O : List xIt), yTf T n f s W O = some r → yTf T n f' s W O = some r' → r = r'
  | 0, _, _, _, _, h, _ => by cases h
  | _ + 1, 0, _, _, _, _, h => by cases h
  | f + 1, f' + 1, s, W, O, h, h' => by
    cases hN : yN T n s with
    | inr r9 =>
      rw [yTf_e hN] at h h'
      exact Option.some.inj (h.symm.trans h')
    | inl s' =>
      rw [yTf_s hN] at h h'
      exact yTf_u f f' s' _ _ h h'
theorem yTA_u {T : Nat → Int} {n : Nat} {s : yM} {W : List Nat} {O : List xIt} {r r' : Nat × List xIt} (h : yTA T n s W O r) (h' : yTA T n s W O r') : r = r' := by
  obtain ⟨f, h⟩ := h
  obtain ⟨f', h'⟩ := h'
  exact yTf_u f f' s W O h h'
theorem yTA_end {T : Nat → Int} {n q : Nat} {s : yM} {W : List Nat} {O : List xIt} (h : yN T n s = .inr (0, q)) : yTA T n s W O (q, O ++ (xDp 0 W).1.map xAc) := ⟨1, (yTf_e h).trans (if_pos rfl)⟩
/-- what is put out from the second on is put out from the first on -/
def yTR (T : Nat → Int) (n : Nat) (s : yM) (W : List Nat) (O : List xIt) (s' : yM) (W' : List Nat) (O' : List xIt) : Prop := ∀ r, yTA T n s' W' O' r → yTA T n s W O r
theorem yTR_r {T : Nat → Int} {n : Nat} {s : yM} {W : List Nat} {O : List xIt} : yTR T n s W O s W O := fun _ h => h
theorem yTR_t {T : Nat → Int} {n : Nat} {s1 s2 s3 : yM} {W1 W2 W3 : List Nat} {O1 O2 O3 : List xIt} (h1 : yTR T n s1 W1 O1 s2 W2 O2) (h2 : yTR T n s2 W2 O2 s3 W3 O3) : yTR T n s1 W1 O1 s3 W3 O3 := fun r h => h1 r (h2 r h)
theorem yTR_s {T : Nat → Int} {n : Nat} {s s' : yM} {W : List Nat} {O : List xIt} (h : yN T n s = .inl s') : yTR T n s W O s' (xWO T n s.1 s.2.2 W O).1 (xWO T n s.1 s.2.2 W O).2 := fun _ ⟨f, hf⟩ => ⟨f + 1, (yTf_s h).trans hf⟩
theorem yTR_w {T : Nat → Int} {n : Nat} {s s' : yM} {W W' : List Nat} {O O' : List xIt} (h : yN T n s = .inl s') (hw : xWO T n s.1 s.2.2 W O = (W', O')) : yTR T n s W O s' W' O' := by
  have k := yTR_s (W := W) (O := O) h
  rw [hw] at k
  exact k
/-- two states that step alike -/
theorem yTR_e {T : Nat → Int} {n : Nat} {s s' : yM} {W : List Nat} {O : List xIt} (h : yN T n s = yN T n s') (hw : xWO T n s.1 s.2.2 W O = xWO T n s'.1 s'.2.2 W O) : yTR T n s W O s' W O := fun r ⟨f, hf⟩ => by
  match f, hf with
  | f + 1, hf =>
    refine ⟨f + 1, ?_⟩
    cases hN : yN T n s' with
    | inr r9 =>
      rw [yTf_e hN] at hf
      rw [yTf_e (h.trans hN)]
      exact hf
    | inl s9 =>
      rw [yTf_s hN] at hf
      rw [yTf_s (h.trans hN), hw]
      exact hf
section
variable {T : Nat → Int} {n p m : Nat} {W : List Nat} {O : List xIt}
theorem xWO_an (hk : ys_kd T n p = 3) (hv : ys_vl T n p = 9) : xWO T n 0 p W O = xPs 2 4 W O := by
  unfold xWO
  rw [if_pos rfl, if_pos hk, if_pos hv]
theorem xWO_or (hk : ys_kd T n p = 3) (hv : ys_vl T n p = 8) : xWO T n 0 p W O = xPs 1 5 W O := by
  unfold xWO
  rw [if_pos rfl, if_pos hk, if_neg (by omega)]
theorem xWO_lt (hk : ys_kd T n p = 4) (hv : ys_vl T n p = 60) : xWO T n 0 p W O = xPs 4 6 W O := by
  unfold xWO
  rw [if_pos rfl, if_neg (by omega), if_pos hv]
theorem xWO_eq (hk : ys_kd T n p = 4) (hv : ys_vl T n p = 61) : xWO T n 0 p W O = xPs 4 7 W O := by
  unfold xWO
  rw [if_pos rfl, if_neg (by omega), if_neg (by omega), if_pos hv]
theorem xWO_pl (hk : ys_kd T n p = 4) (hv : ys_vl T n p = 43) : xWO T n 0 p W O = xPs 5 8 W O := by
  unfold xWO
  rw [if_pos rfl, if_neg (by omega), if_neg (by omega), if_neg (by omega), if_pos hv]
theorem xWO_mi (hk : ys_kd T n p = 4) (hv : ys_vl T n p = 45) : xWO T n 0 p W O = xPs 5 9 W O := by
  unfold xWO
  rw [if_pos rfl, if_neg (by omega), if_neg (by omega), if_neg (by omega), if_neg (by omega), if_pos hv]
theorem xWO_ti (hk : ys_kd T n p = 4) (hv : ys_vl T n p = 42) : xWO T n 0 p W O = xPs 6 10 W O := by
  unfold xWO
  rw [if_pos rfl, if_neg (by omega), if_neg (by omega), if_neg (by omega), if_neg (by omega), if_neg (by omega), if_pos hv]
theorem xWO_di (hk : ys_kd T n p = 4) (hv : ys_vl T n p = 47) : xWO T n 0 p W O = xPs 6 11 W O := by
  unfold xWO
  rw [if_pos rfl, if_neg (by omega), if_neg (by omega), if_neg (by omega), if_neg (by omega), if_neg (by omega), if_neg (by omega), if_pos hv]
theorem xWO_cl (hk : ys_kd T n p = 4) (hv : ys_vl T n p = 41) : xWO T n 0 p W O = ((xDp 0 W).2.tail, O ++ (xDp 0 W).1.map xAc) := by
  unfold xWO
  rw [if_pos rfl, if_neg (by omega), if_neg (by omega), if_neg (by omega), if_neg (by omega), if_neg (by omega), if_neg (by omega), if_neg (by omega)]
theorem xWO_no (hk : ys_kd T n p = 3) (hv : ys_vl T n p = 10) (hm : 2 ≤ m) : xWO T n m p W O = (3 :: W, O) := by
  unfold xWO
  rw [if_neg (by omega), if_pos ⟨hk, hv, hm⟩]
theorem xWO_op (hk : ys_kd T n p = 4) (hm : m ≠ 0) : xWO T n m p W O = (14 :: W, O) := by
  unfold xWO
  rw [if_neg hm, if_neg (by omega), if_pos hk]
theorem xWO_nu (hk : ys_kd T n p = 2) (hm : m ≠ 0) : xWO T n m p W O = (W, O ++ [(0, ys_vl T n p)]) := by
  unfold xWO
  rw [if_neg hm, if_neg (by omega), if_neg (by omega), if_pos hk]
theorem xWO_vl (hk : ys_kd T n p = 3) (hv : ys_vl T n p ≠ 10) (hm : m ≠ 0) : xWO T n m p W O = (W, O ++ [(1, ys_vl T n p)]) := by
  unfold xWO
  rw [if_neg hm, if_neg (fun h => hv h.2.1), if_neg (by omega), if_neg (by omega)]
/-- NOTs read before an operand don't matter, when none is at hand -/
theorem xWO_nn {k : Nat} (h : ¬ (ys_kd T n p = 3 ∧ ys_vl T n p = 10)) : xWO T n (2 + k) p W O = xWO T n 1 p W O := by
  unfold xWO
  rw [if_neg (show ¬ 2 + k = 0 by omega), if_neg (show ¬ (1 : Nat) = 0 by decide), if_neg (show ¬ (ys_kd T n p = 3 ∧ ys_vl T n p = 10 ∧ 2 ≤ 2 + k) from fun h9 => h ⟨h9.1, h9.2.1⟩), if_neg (show ¬ (ys_kd T n p = 3 ∧ ys_vl T n p = 10 ∧ 2 ≤ 1) from fun h9 => h ⟨h9.1, h9.2.1⟩)]
theorem yTR_nn {k : Nat} {lv : List Bool} (h : ¬ (ys_kd T n p = 3 ∧ ys_vl T n p = 10)) : yTR T n (2 + k, lv, p) W O (1, lv, p) W O := yTR_e (yN_nn h) (xWO_nn h)
end
/-- from s to s' the row C is put out, but for what waits at its end; l is how strong that is at least -/
def xPo (T : Nat → Int) (n l : Nat) (s s' : yM) (C : List xIt) : Prop := ∀ (W : List Nat) (O : List xIt), xTop l W → ∃ (P : List Nat) (O' : List xIt), yTR T n s W O s' (P ++ W) (O ++ O') ∧ (∀ a ∈ P, a < 14 ∧ l ≤ xSg a) ∧ C = O' ++ P.map xAc
theorem xPo_up {T : Nat → Int} {n l l2 : Nat} {s s' : yM} {C : List xIt} (hl : l ≤ l2) (h : xPo T n l2 s s' C) : xPo T n l s s' C := fun W O hW => by
  obtain ⟨P, O', h1, h2, h3⟩ := h W O (xTop_up hl hW)
  exact ⟨P, O', h1, fun a ha => ⟨(h2 a ha).1, by have := (h2 a ha).2; omega⟩, h3⟩
theorem xPo_one {T : Nat → Int} {n l : Nat} {s s' : yM} {i : xIt} (hN : yN T n s = .inl s') (hw : ∀ W O, xWO T n s.1 s.2.2 W O = (W, O ++ [i])) : xPo T n l s s' [i] := fun W O _ => ⟨[], [i], yTR_w hN (hw W O), fun a ha => absurd ha List.not_mem_nil, rfl⟩
theorem xPo_e {T : Nat → Int} {n l : Nat} {s1 s s' : yM} {C : List xIt} (he : ∀ W O, yTR T n s1 W O s W O) (h : xPo T n l s s' C) : xPo T n l s1 s' C := fun W O hW => by
  obtain ⟨P, O', h1, h2, h3⟩ := h W O hW
  exact ⟨P, O', yTR_t (he W O) h1, h2, h3⟩
/-- left, an act, right -/
theorem xPo_bin {T : Nat → Int} {n l l2 a : Nat} {s s1 s2 : yM} {lv : List Bool} {q : Nat} {C C2 : List xIt} (h : xPo T n l s (0, lv, q) C) (hN : yN T n (0, lv, q) = .inl s1) (hw : ∀ W O, xWO T n 0 q W O = xPs l a W O) (ha : a < 14 ∧ xSg a = l) (h2 : xPo T n l2 s1 s2 C2) (hl : l < l2) : xPo T n l s s2 (C ++ C2 ++ [xAc a]) := by
  intro W O hW
  obtain ⟨P, O', r1, p1, c1⟩ := h W O hW
  have st : yTR T n (0, lv, q) (P ++ W) (O ++ O') s1 (a :: W) (O ++ C) := by
    refine yTR_w hN ((hw _ _).trans ?_)
    unfold xPs
    rw [xDp_app p1 hW, c1, List.append_assoc]
  obtain ⟨P2, O2, r2, p2, c2⟩ := h2 (a :: W) (O ++ C) (Or.inr (by omega))
  refine ⟨P2 ++ [a], C ++ O2, ?_, fun b hb => ?_, ?_⟩
  · have e1 : (P2 ++ [a]) ++ W = P2 ++ a :: W := by rw [List.append_assoc]; rfl
    have e2 : O ++ (C ++ O2) = (O ++ C) ++ O2 := (List.append_assoc _ _ _).symm
    rw [e1, e2]
    exact yTR_t r1 (yTR_t st r2)
  · rcases List.mem_append.mp hb with h9 | h9
    · have := p2 b h9
      exact ⟨this.1, by omega⟩
    · rw [List.mem_singleton.mp h9]
      exact ⟨ha.1, by omega⟩
  · rw [c2, List.map_append, List.append_assoc, List.append_assoc, List.append_assoc]
    rfl
/-- k NOTs before -/
theorem xPo_not {T : Nat → Int} {n k : Nat} {s s1 s2 : yM} {C : List xIt} (hr : ∀ W O, yTR T n s W O s1 (List.replicate k 3 ++ W) O) (h : xPo T n 4 s1 s2 C) : xPo T n 3 s s2 (C ++ List.replicate k (xAc 3)) := by
  intro W O hW
  have ht : xTop 4 (List.replicate k 3 ++ W) := by
    cases k with
    | zero => exact xTop_up (by decide) hW
    | succ k => exact Or.inr (by decide)
  obtain ⟨P, O', r1, p1, c1⟩ := h _ O ht
  refine ⟨P ++ List.replicate k 3, O', ?_, fun b hb => ?_, ?_⟩
  · rw [List.append_assoc]
    exact yTR_t (hr W O) r1
  · rcases List.mem_append.mp hb with h9 | h9
    · have := p1 b h9
      exact ⟨this.1, by omega⟩
    · rw [List.eq_of_mem_replicate h9]
      exact ⟨by decide, by decide⟩
  · rw [c1, List.map_append, List.map_replicate, List.append_assoc]
theorem xNo_s {T : Nat → Int} {n k p0 p : Nat} {lv : List Bool} (hr : ∀ W O, yTR T n (2, lv, p0) W O (2 + k, lv, p) (List.replicate k 3 ++ W) O) (hk : ys_kd T n p = 3) (hv : ys_vl T n p = 10) (h6 : k < 6) : ∀ W O, yTR T n (2, lv, p0) W O (2 + (k + 1), lv, ys_nx T n p) (List.replicate (k + 1) 3 ++ W) O := fun W O => yTR_t (hr W O) (yTR_w (yN_no hk hv h6) (xWO_no hk hv (by show 2 ≤ 2 + k; omega)))
/-- an expression in parentheses -/
theorem xPo_par {T : Nat → Int} {n l q : Nat} {s : yM} {lv lv2 : List Bool} {p1 : Nat} {C : List xIt} (hN : yN T n s = .inl (2, false :: lv, p1)) (hw : ∀ W O, xWO T n s.1 s.2.2 W O = (14 :: W, O)) (h : xPo T n 1 (2, false :: lv, p1) (0, lv2, q) C) (hk : ys_kd T n q = 4) (hv : ys_vl T n q = 41) (hl : 1 < lv2.length) : xPo T n l s (0, lv2.tail, ys_nx T n q) C := by
  intro W O _
  obtain ⟨P, O', r1, p1, c1⟩ := h (14 :: W) O (Or.inl (Nat.le_refl _))
  refine ⟨[], C, ?_, fun a ha => absurd ha List.not_mem_nil, (List.append_nil C).symm⟩
  refine yTR_t (yTR_w hN (hw W O)) (yTR_t r1 (yTR_w (yN_cl hk hv hl) ((xWO_cl hk hv).trans ?_)))
  rw [xDp_app (fun a ha => ⟨(p1 a ha).1, Nat.zero_le _⟩) (show xTop 0 (14 :: W) from Or.inl (Nat.le_refl _)), c1, List.append_assoc]
  rfl
/-- a whole expression -/
theorem xPo_end {T : Nat → Int} {n q : Nat} {s : yM} {lv : List Bool} {C : List xIt} (h : xPo T n 1 s (0, lv, q) C) (hN : yN T n (0, lv, q) = .inr (0, q)) : yTA T n s [] [] (q, C) := by
  obtain ⟨P, O', r1, p1, c1⟩ := h [] [] trivial
  have k := r1 _ (yTA_end (W := P ++ []) (O := [] ++ O') hN)
  rw [xDp_app (fun a ha => ⟨(p1 a ha).1, Nat.zero_le _⟩) (show xTop 0 [] from trivial), List.nil_append, ← c1] at k
  exact k
/-- how many operands wait behind a row -/
def xHt : List xIt → Int → Int
  | [], h => h
  | i :: C, h => xHt C (if i.1 < 2 then h + 1 else if i.1 = 3 then h else h - 1)
/-- from h operands on a row needs 1 at least before each act (2, one that joins), and has d more at most -/
def xWf (d : Int) : List xIt → Int → Prop
  | [], _ => True
  | i :: C, h => (if i.1 < 2 then (h + 1 ≤ d ∧ 0 ≤ i.2 ∧ i.2 ≤ 9999 ∧ (i.1 = 1 → i.2 < 8)) ∧ xWf d C (h + 1) else if i.1 = 3 then 1 ≤ h ∧ xWf d C h else (2 ≤ h ∧ 3 < i.1 ∧ i.1 < 12) ∧ xWf d C (h - 1))
theorem xHt_a {C D : List xIt} : ∀ {h : Int}, xHt (C ++ D) h = xHt D (xHt C h) := by
  induction C with
  | nil => intro h; rfl
  | cons i C ih => intro h; exact ih
theorem xWf_a {d : Int} {C D : List xIt} : ∀ {h : Int}, xWf d C h → xWf d D (xHt C h) → xWf d (C ++ D) h := by
  induction C with
  | nil => intro h _ h2; exact h2
  | cons i C ih =>
    intro h h1 h2
    have h1 : (if i.1 < 2 then (h + 1 ≤ d ∧ 0 ≤ i.2 ∧ i.2 ≤ 9999 ∧ (i.1 = 1 → i.2 < 8)) ∧ xWf d C (h + 1) else if i.1 = 3 then 1 ≤ h ∧ xWf d C h else (2 ≤ h ∧ 3 < i.1 ∧ i.1 < 12) ∧ xWf d C (h - 1)) := h1
    have h2 : xWf d D (xHt C (if i.1 < 2 then h + 1 else if i.1 = 3 then h else h - 1)) := h2
    show (if i.1 < 2 then (h + 1 ≤ d ∧ 0 ≤ i.2 ∧ i.2 ≤ 9999 ∧ (i.1 = 1 → i.2 < 8)) ∧ xWf d (C ++ D) (h + 1) else if i.1 = 3 then 1 ≤ h ∧ xWf d (C ++ D) h else (2 ≤ h ∧ 3 < i.1 ∧ i.1 < 12) ∧ xWf d (C ++ D) (h - 1))
    by_cases h9 : i.1 < 2
    · rw [if_pos h9] at h1 h2 ⊢
      exact ⟨h1.1, ih h1.2 h2⟩
    · rw [if_neg h9] at h1 h2 ⊢
      by_cases h8 : i.1 = 3
      · rw [if_pos h8] at h1 h2 ⊢
        exact ⟨h1.1, ih h1.2 h2⟩
      · rw [if_neg h8] at h1 h2 ⊢
        exact ⟨h1.1, ih h1.2 h2⟩
/-- an operand's row: from any h on it leaves one more, and has at most d more in between -/
def xOp (d : Int) (C : List xIt) : Prop := ∀ h : Int, 0 ≤ h → xHt C h = h + 1 ∧ xWf (h + d) C h
theorem xWf_m {d d' : Int} {C : List xIt} (hd : d ≤ d') : ∀ {h : Int}, xWf d C h → xWf d' C h := by
  induction C with
  | nil => intro h _; exact trivial
  | cons i C ih =>
    intro h h1
    have h1 : (if i.1 < 2 then (h + 1 ≤ d ∧ 0 ≤ i.2 ∧ i.2 ≤ 9999 ∧ (i.1 = 1 → i.2 < 8)) ∧ xWf d C (h + 1) else if i.1 = 3 then 1 ≤ h ∧ xWf d C h else (2 ≤ h ∧ 3 < i.1 ∧ i.1 < 12) ∧ xWf d C (h - 1)) := h1
    show (if i.1 < 2 then (h + 1 ≤ d' ∧ 0 ≤ i.2 ∧ i.2 ≤ 9999 ∧ (i.1 = 1 → i.2 < 8)) ∧ xWf d' C (h + 1) else if i.1 = 3 then 1 ≤ h ∧ xWf d' C h else (2 ≤ h ∧ 3 < i.1 ∧ i.1 < 12) ∧ xWf d' C (h - 1))
    by_cases h9 : i.1 < 2
    · rw [if_pos h9] at h1 ⊢
      exact ⟨⟨by omega, h1.1.2⟩, ih h1.2⟩
    · rw [if_neg h9] at h1 ⊢
      by_cases h8 : i.1 = 3
      · rw [if_pos h8] at h1 ⊢
        exact ⟨h1.1, ih h1.2⟩
      · rw [if_neg h8] at h1 ⊢
        exact ⟨h1.1, ih h1.2⟩
theorem xOp_m {d d' : Int} {C : List xIt} (hd : d ≤ d') (h : xOp d C) : xOp d' C := fun k hk => ⟨(h k hk).1, xWf_m (by omega) (h k hk).2⟩
theorem xOp_1 {i : xIt} (hi : i.1 < 2) (hv : 0 ≤ i.2 ∧ i.2 ≤ 9999 ∧ (i.1 = 1 → i.2 < 8)) : xOp 1 [i] := fun h _ => ⟨if_pos hi, by
  show (if i.1 < 2 then (h + 1 ≤ h + 1 ∧ 0 ≤ i.2 ∧ i.2 ≤ 9999 ∧ (i.1 = 1 → i.2 < 8)) ∧ xWf (h + 1) [] (h + 1) else if i.1 = 3 then 1 ≤ h ∧ xWf (h + 1) [] h else (2 ≤ h ∧ 3 < i.1 ∧ i.1 < 12) ∧ xWf (h + 1) [] (h - 1))
  rw [if_pos hi]
  exact ⟨⟨Int.le_refl _, hv⟩, trivial⟩⟩
theorem xOp_no {d : Int} {C : List xIt} (h : xOp d C) : xOp d (C ++ [xAc 3]) := fun k hk => by
  obtain ⟨h1, h2⟩ := h k hk
  refine ⟨by rw [xHt_a, h1]; rfl, xWf_a h2 ?_⟩
  rw [h1]
  exact ⟨by omega, trivial⟩
theorem xOp_nos {d : Int} {C : List xIt} (h : xOp d C) : ∀ k, xOp d (C ++ List.replicate k (xAc 3))
  | 0 => by rw [show List.replicate 0 (xAc 3) = [] from rfl, List.append_nil]; exact h
  | k + 1 => by
    rw [List.replicate_succ', ← List.append_assoc]
    exact xOp_no (xOp_nos h k)
theorem xOp_bin {d d2 e : Int} {a : Nat} {C D : List xIt} (ha : 4 ≤ a ∧ a < 12) (h : xOp d C) (h2 : xOp d2 D) (hd : d ≤ e ∧ d2 + 1 ≤ e) : xOp e (C ++ D ++ [xAc a]) := fun k hk => by
  obtain ⟨a1, a2⟩ := h k hk
  obtain ⟨b1, b2⟩ := h2 (k + 1) (by omega)
  have c1 : xHt (C ++ D) k = k + 2 := by rw [xHt_a, a1, b1]; omega
  have g1 : ¬ (xAc a).1 < 2 := by show ¬ a < 2; omega
  have g2 : ¬ (xAc a).1 = 3 := by show ¬ a = 3; omega
  refine ⟨?_, xWf_a (xWf_a (xWf_m (by omega) a2) ?_) ?_⟩
  · rw [xHt_a, c1]
    show (if (xAc a).1 < 2 then k + 2 + 1 else if (xAc a).1 = 3 then k + 2 else k + 2 - 1) = k + 1
    rw [if_neg g1, if_neg g2]
    omega
  · rw [a1]
    exact xWf_m (by omega) b2
  · rw [c1]
    show (if (xAc a).1 < 2 then (k + 2 + 1 ≤ k + e ∧ 0 ≤ (xAc a).2 ∧ (xAc a).2 ≤ 9999 ∧ ((xAc a).1 = 1 → (xAc a).2 < 8)) ∧ xWf (k + e) [] (k + 2 + 1) else if (xAc a).1 = 3 then 1 ≤ k + 2 ∧ xWf (k + e) [] (k + 2) else (2 ≤ k + 2 ∧ 3 < (xAc a).1 ∧ (xAc a).1 < 12) ∧ xWf (k + e) [] (k + 2 - 1))
    rw [if_neg g1, if_neg g2]
    exact ⟨⟨by omega, (show 3 < a by omega), ha.2⟩, trivial⟩
