/-! ===== an expression, said once for both sides: a machine over tokens ===== -/
abbrev yM : Type := Nat × List Bool × Nat
abbrev yB (T : Nat → Int) (n p : Nat) : Prop := ys_kd T n p = 2 ∨ ys_kd T n p = 3 ∨ (ys_kd T n p = 4 ∧ ys_vl T n p = 40)
/-- a step: mode 0 behind an operand, 1 before one, 2 + k before one, k NOTs read -/
def yN (T : Nat → Int) (n : Nat) (s : yM) : yM ⊕ (Int × Nat) :=
  if s.1 = 0 then
    if ys_kd T n s.2.2 = 3 ∧ (ys_vl T n s.2.2 = 9 ∨ ys_vl T n s.2.2 = 8) then .inl (2, false :: s.2.1.tail, ys_nx T n s.2.2)
    else if ys_kd T n s.2.2 = 4 ∧ (ys_vl T n s.2.2 = 60 ∨ ys_vl T n s.2.2 = 61) ∧ s.2.1.head? = some false then .inl (1, true :: s.2.1.tail, ys_nx T n s.2.2)
    else if ys_kd T n s.2.2 = 4 ∧ (ys_vl T n s.2.2 = 43 ∨ ys_vl T n s.2.2 = 45) then .inl (1, s.2.1, ys_nx T n s.2.2)
    else if ys_kd T n s.2.2 = 4 ∧ (ys_vl T n s.2.2 = 42 ∨ ys_vl T n s.2.2 = 47) then .inl (1, s.2.1, ys_nx T n s.2.2)
    else if ys_kd T n s.2.2 = 4 ∧ ys_vl T n s.2.2 = 41 ∧ 1 < s.2.1.length then .inl (0, s.2.1.tail, ys_nx T n s.2.2)
    else if 1 < s.2.1.length then .inr (1, s.2.2) else .inr (0, s.2.2)
  else if ys_kd T n s.2.2 = 3 ∧ ys_vl T n s.2.2 = 10 ∧ 2 ≤ s.1 then
    (if s.1 = 8 then .inr (2, s.2.2) else .inl (s.1 + 1, s.2.1, ys_nx T n s.2.2))
  else if ys_kd T n s.2.2 = 4 ∧ ys_vl T n s.2.2 = 40 then
    (if s.2.1.length < 6 then .inl (2, false :: s.2.1, ys_nx T n s.2.2) else .inr (if yB T n (ys_nx T n s.2.2) then 2 else 1, ys_nx T n s.2.2))
  else if ys_kd T n s.2.2 = 2 then (if 9999 < ys_vl T n s.2.2 then .inr (2, s.2.2) else .inl (0, s.2.1, ys_nx T n s.2.2))
  else if ys_kd T n s.2.2 = 3 then (if ys_vl T n s.2.2 < 8 then .inl (0, s.2.1, ys_nx T n s.2.2) else .inr (3, s.2.2))
  else .inr (1, s.2.2)
def yAf (T : Nat → Int) (n : Nat) : Nat → yM → Option (Int × Nat)
  | 0, _ => none
  | f + 1, s => match yN T n s with
    | .inr r => some r
    | .inl s' => yAf T n f s'
def yA (T : Nat → Int) (n : Nat) (s : yM) (r : Int × Nat) : Prop := ∃ f, yAf T n f s = some r
theorem yAf_d {T : Nat → Int} {n f : Nat} {s : yM} {r : Int × Nat} (h : yN T n s = .inr r) : yAf T n (f + 1) s = some r := by
  unfold yAf
  rw [h]
theorem yAf_s {T : Nat → Int} {n f : Nat} {s s' : yM} (h : yN T n s = .inl s') : yAf T n (f + 1) s = yAf T n f s' := by
  show (match yN T n s with
    | .inr r => some r
    | .inl s' => yAf T n f s') = _
  rw [h]
theorem yA_done {T : Nat → Int} {n : Nat} {s : yM} {r : Int × Nat} (h : yN T n s = .inr r) : yA T n s r := ⟨1, yAf_d h⟩
theorem yA_step {T : Nat → Int} {n : Nat} {s s' : yM} {r : Int × Nat} (h : yN T n s = .inl s') (h1 : yA T n s' r) : yA T n s r := by
  obtain ⟨f, hf⟩ := h1
  exact ⟨f + 1, (yAf_s h).trans hf⟩
theorem yAf_u {T : Nat → Int} {n : Nat} {r r' : Int × Nat} : ∀ (f f' : Nat) (s : yM), yAf T n f s = some r → yAf T n f' s = some r' → r = r'
  | 0, _, _, h, _ => by cases h
  | _ + 1, 0, _, _, h => by cases h
  | f + 1, f' + 1, s, h, h' => by
    cases hN : yN T n s with
    | inr r9 =>
      rw [yAf_d hN] at h h'
      exact (Option.some.inj h).symm.trans (Option.some.inj h')
    | inl s' =>
      rw [yAf_s hN] at h h'
      exact yAf_u f f' s' h h'
theorem yA_u {T : Nat → Int} {n : Nat} {s : yM} {r r' : Int × Nat} (h : yA T n s r) (h' : yA T n s r') : r = r' := by
  obtain ⟨f, h⟩ := h
  obtain ⟨f', h'⟩ := h'
  exact yAf_u f f' s h h'
/-- what is read from s' on is read from s on -/
def yR (T : Nat → Int) (n : Nat) (s s' : yM) : Prop := ∀ r, yA T n s' r → yA T n s r
theorem yR_r {T : Nat → Int} {n : Nat} {s : yM} : yR T n s s := fun _ h => h
theorem yR_t {T : Nat → Int} {n : Nat} {s s' s'' : yM} (h1 : yR T n s s') (h2 : yR T n s' s'') : yR T n s s'' := fun r h => h1 r (h2 r h)
theorem yR_s {T : Nat → Int} {n : Nat} {s s' : yM} (h : yN T n s = .inl s') : yR T n s s' := fun _ h1 => yA_step h h1
theorem yR_e {T : Nat → Int} {n : Nat} {s s' : yM} (h : yN T n s = yN T n s') : yR T n s s' := fun _ h1 => by
  obtain ⟨f, hf⟩ := h1
  match f, hf with
  | f + 1, hf =>
    refine ⟨f + 1, ?_⟩
    unfold yAf
    unfold yAf at hf
    rw [h]
    exact hf
section
variable {T : Nat → Int} {n p : Nat} {lv : List Bool} {b : Bool}
theorem yN_ao (hk : ys_kd T n p = 3) (hv : ys_vl T n p = 9 ∨ ys_vl T n p = 8) : yN T n (0, lv, p) = .inl (2, false :: lv.tail, ys_nx T n p) := by
  unfold yN
  rw [if_pos rfl, if_pos ⟨hk, hv⟩]
theorem yN_lt (hk : ys_kd T n p = 4) (hv : ys_vl T n p = 60 ∨ ys_vl T n p = 61) : yN T n (0, false :: lv, p) = .inl (1, true :: lv, ys_nx T n p) := by
  unfold yN
  rw [if_pos rfl, if_neg (by show ¬ (ys_kd T n p = 3 ∧ _); omega), if_pos ⟨hk, hv, rfl⟩]
  rfl
theorem yN_pm (hk : ys_kd T n p = 4) (hv : ys_vl T n p = 43 ∨ ys_vl T n p = 45) : yN T n (0, lv, p) = .inl (1, lv, ys_nx T n p) := by
  unfold yN
  rw [if_pos rfl, if_neg (by show ¬ (ys_kd T n p = 3 ∧ _); omega), if_neg (by show ¬ (_ ∧ (ys_vl T n p = 60 ∨ ys_vl T n p = 61) ∧ _); omega), if_pos ⟨hk, hv⟩]
theorem yN_md (hk : ys_kd T n p = 4) (hv : ys_vl T n p = 42 ∨ ys_vl T n p = 47) : yN T n (0, lv, p) = .inl (1, lv, ys_nx T n p) := by
  unfold yN
  rw [if_pos rfl, if_neg (by show ¬ (ys_kd T n p = 3 ∧ _); omega), if_neg (by show ¬ (_ ∧ (ys_vl T n p = 60 ∨ ys_vl T n p = 61) ∧ _); omega), if_neg (by show ¬ (_ ∧ (ys_vl T n p = 43 ∨ ys_vl T n p = 45)); omega), if_pos ⟨hk, hv⟩]
theorem yN_cl (hk : ys_kd T n p = 4) (hv : ys_vl T n p = 41) (hl : 1 < lv.length) : yN T n (0, lv, p) = .inl (0, lv.tail, ys_nx T n p) := by
  unfold yN
  rw [if_pos rfl, if_neg (by show ¬ (ys_kd T n p = 3 ∧ _); omega), if_neg (by show ¬ (_ ∧ (ys_vl T n p = 60 ∨ ys_vl T n p = 61) ∧ _); omega), if_neg (by show ¬ (_ ∧ (ys_vl T n p = 43 ∨ ys_vl T n p = 45)); omega), if_neg (by show ¬ (_ ∧ (ys_vl T n p = 42 ∨ ys_vl T n p = 47)); omega), if_pos ⟨hk, hv, hl⟩]
/-- the token ends an expression: no AND, OR, no sign of a reckoning; none that tests, or it has tested -/
def yQ (T : Nat → Int) (n p : Nat) : Prop := ¬ (ys_kd T n p = 3 ∧ (ys_vl T n p = 9 ∨ ys_vl T n p = 8)) ∧ ¬ (ys_kd T n p = 4 ∧ (ys_vl T n p = 43 ∨ ys_vl T n p = 45)) ∧ ¬ (ys_kd T n p = 4 ∧ (ys_vl T n p = 42 ∨ ys_vl T n p = 47))
theorem yN_en (h : yQ T n p) (ht : ¬ (ys_kd T n p = 4 ∧ (ys_vl T n p = 60 ∨ ys_vl T n p = 61) ∧ lv.head? = some false)) (hl : ¬ (ys_kd T n p = 4 ∧ ys_vl T n p = 41 ∧ 1 < lv.length)) : yN T n (0, lv, p) = if 1 < lv.length then .inr (1, p) else .inr (0, p) := by
  unfold yN
  rw [if_pos rfl, if_neg h.1, if_neg ht, if_neg h.2.1, if_neg h.2.2, if_neg hl]
theorem yN_no {k : Nat} (hk : ys_kd T n p = 3) (hv : ys_vl T n p = 10) (h8 : k < 6) : yN T n (2 + k, lv, p) = .inl (2 + (k + 1), lv, ys_nx T n p) := by
  unfold yN
  rw [if_neg (by show ¬ 2 + k = 0; omega), if_pos ⟨hk, hv, by show 2 ≤ 2 + k; omega⟩, if_neg (by show ¬ 2 + k = 8; omega)]
  rfl
theorem yN_no6 (hk : ys_kd T n p = 3) (hv : ys_vl T n p = 10) : yN T n (8, lv, p) = .inr (2, p) := by
  unfold yN
  rw [if_neg (by show ¬ (8 : Nat) = 0; omega), if_pos ⟨hk, hv, by show 2 ≤ (8 : Nat); omega⟩, if_pos rfl]
theorem yN_x {m : Nat} (hm : m ≠ 0) (h : ¬ (ys_kd T n p = 3 ∧ ys_vl T n p = 10)) : yN T n (m, lv, p) = if ys_kd T n p = 4 ∧ ys_vl T n p = 40 then
    (if lv.length < 6 then .inl (2, false :: lv, ys_nx T n p) else .inr (if yB T n (ys_nx T n p) then 2 else 1, ys_nx T n p))
  else if ys_kd T n p = 2 then (if 9999 < ys_vl T n p then .inr (2, p) else .inl (0, lv, ys_nx T n p))
  else if ys_kd T n p = 3 then (if ys_vl T n p < 8 then .inl (0, lv, ys_nx T n p) else .inr (3, p))
  else .inr (1, p) := by
  unfold yN
  rw [if_neg (show ¬ (m, lv, p).1 = 0 from hm), if_neg (fun h9 => h ⟨h9.1, h9.2.1⟩)]
theorem yN_nn {k : Nat} (h : ¬ (ys_kd T n p = 3 ∧ ys_vl T n p = 10)) : yN T n (2 + k, lv, p) = yN T n (1, lv, p) := (yN_x (by omega) h).trans (yN_x (by omega) h).symm
theorem yN_op (hk : ys_kd T n p = 4) (hv : ys_vl T n p = 40) : yN T n (1, lv, p) = if lv.length < 6 then .inl (2, false :: lv, ys_nx T n p) else .inr (if yB T n (ys_nx T n p) then 2 else 1, ys_nx T n p) := by
  unfold yN
  rw [if_neg (by show ¬ (1 : Nat) = 0; omega), if_neg (by show ¬ (ys_kd T n p = 3 ∧ _); omega), if_pos ⟨hk, hv⟩]
theorem yN_nu (hk : ys_kd T n p = 2) : yN T n (1, lv, p) = if 9999 < ys_vl T n p then .inr (2, p) else .inl (0, lv, ys_nx T n p) := by
  unfold yN
  rw [if_neg (by show ¬ (1 : Nat) = 0; omega), if_neg (by show ¬ (ys_kd T n p = 3 ∧ _); omega), if_neg (by show ¬ (ys_kd T n p = 4 ∧ _); omega), if_pos hk]
theorem yN_wo (hk : ys_kd T n p = 3) : yN T n (1, lv, p) = if ys_vl T n p < 8 then .inl (0, lv, ys_nx T n p) else .inr (3, p) := by
  unfold yN
  rw [if_neg (by show ¬ (1 : Nat) = 0; omega), if_neg (by show ¬ (_ ∧ _ ∧ 2 ≤ 1); omega), if_neg (by show ¬ (ys_kd T n p = 4 ∧ _); omega), if_neg (by show ¬ ys_kd T n p = 2; omega), if_pos hk]
theorem yN_un (h1 : ¬ (ys_kd T n p = 4 ∧ ys_vl T n p = 40)) (h2 : ys_kd T n p ≠ 2) (h3 : ys_kd T n p ≠ 3) : yN T n (1, lv, p) = .inr (1, p) := by
  unfold yN
  rw [if_neg (by show ¬ (1 : Nat) = 0; omega), if_neg (by show ¬ (ys_kd T n p = 3 ∧ _); omega), if_neg h1, if_neg h2, if_neg h3]
end
