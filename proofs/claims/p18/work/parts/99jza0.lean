/-! ===== the search for a row: what is behind it ===== -/
theorem t_gd : ∀ {l : List Nat} {s : Nat}, s ∈ l ↔ ∃ j, j < l.length ∧ l.getD j 0 = s
  | [], s => ⟨fun h => absurd h List.not_mem_nil, fun ⟨j, h, _⟩ => absurd h (Nat.not_lt_zero j)⟩
  | a :: l, s => by
    rw [List.mem_cons, t_gd (l := l)]
    constructor
    · rintro (h | ⟨j, h1, h2⟩)
      · exact ⟨0, Nat.succ_pos _, h.symm⟩
      · exact ⟨j + 1, Nat.succ_lt_succ h1, h2⟩
    · rintro ⟨j, h1, h2⟩
      match j, h1, h2 with
      | 0, _, h2 => exact Or.inl h2.symm
      | j + 1, h1, h2 => exact Or.inr ⟨j, Nat.lt_of_succ_lt_succ h1, h2⟩
section
variable {n : Nat} {A : Nat → Bool} {B : Nat → Nat → Bool}
theorem tV_ap : ∀ {a b P : List Nat}, tV n A B P (a ++ b) → tV n A B P a
  | [], _, _, _ => trivial
  | _ :: _, _, _, h => ⟨h.1, h.2.1, h.2.2.1, tV_ap h.2.2.2⟩
/-- s can come next behind a row -/
def tX (n : Nat) (A : Nat → Bool) (B : Nat → Nat → Bool) (P : List Nat) (s : Nat) : Prop := s < n ∧ ¬ s ∈ P ∧ tR A B P s
theorem tX_c {P P' : List Nat} {s : Nat} (h : ∀ t, t ∈ P ↔ t ∈ P') (h1 : tX n A B P s) : tX n A B P' s := ⟨h1.1, fun h9 => h1.2.1 ((h s).mpr h9), tR_m (fun t ht => (h t).mp ht) h1.2.2⟩
theorem tV_x0 : ∀ {r P : List Nat} {s : Nat}, tV n A B P (r ++ [s]) ↔ (tV n A B P r ∧ tX n A B (r.reverse ++ P) s)
  | [], P, s => ⟨fun h => ⟨trivial, h.1, h.2.1, h.2.2.1⟩, fun h => ⟨h.2.1, h.2.2.1, h.2.2.2, trivial⟩⟩
  | g :: r, P, s => by
    have e : (g :: r).reverse ++ P = r.reverse ++ g :: P := by rw [List.reverse_cons, List.append_assoc]; rfl
    rw [e]
    have ih := tV_x0 (r := r) (P := g :: P) (s := s)
    exact ⟨fun h => ⟨⟨h.1, h.2.1, h.2.2.1, (ih.mp h.2.2.2).1⟩, (ih.mp h.2.2.2).2⟩, fun h => ⟨h.1.1, h.1.2.1, h.1.2.2.1, ih.mpr ⟨h.1.2.2.2, h.2⟩⟩⟩
theorem tV_x {r : List Nat} {s : Nat} : tV n A B [] (r ++ [s]) ↔ (tV n A B [] r ∧ tX n A B r s) := by
  rw [tV_x0]
  have e : ∀ t, t ∈ r.reverse ++ [] ↔ t ∈ r := fun t => by rw [List.append_nil, List.mem_reverse]
  exact ⟨fun h => ⟨h.1, tX_c e h.2⟩, fun h => ⟨h.1, tX_c (fun t => (e t).symm) h.2⟩⟩
end
/-- a row split by its number -/
theorem tN_sp {r : List Nat} {k e x : Nat} (hl : r.length = k + e) (h16 : ∀ s, s ∈ r → s < 16) (h1 : x * 16 ^ e ≤ tN r 0) (h2 : tN r 0 < (x + 1) * 16 ^ e) : tN (r.take k) 0 = x := by
  have es : tN r 0 = tN (r.drop k) (tN (r.take k) 0) := by
    rw [← tN_a2, List.take_append_drop]
  have hd : (r.drop k).length = e := by rw [List.length_drop]; omega
  have b1 := tN_lo (r.drop k) (tN (r.take k) 0)
  have b2 := tN_hi (r.drop k) (tN (r.take k) 0) (fun s hs => h16 s (List.mem_of_mem_drop hs))
  rw [hd, ← es] at b1 b2
  have c1 : x < tN (r.take k) 0 + 1 := Nat.lt_of_mul_lt_mul_right (Nat.lt_of_le_of_lt h1 b2)
  have c2 : tN (r.take k) 0 < x + 1 := Nat.lt_of_mul_lt_mul_right (Nat.lt_of_le_of_lt b1 h2)
  omega
theorem t_tk {r : List Nat} {k : Nat} (h : k < r.length) : r.take (k + 1) = r.take k ++ [r.getD k 0] := by
  rw [List.take_succ]
  congr 1
  rw [List.getD_eq_getElem?_getD, List.getElem?_eq_getElem h]
  rfl
/-- no good row is below X at 16 to the e -/
def tLw (O : List Nat → Prop) (X e : Nat) : Prop := ∀ r, O r → X * 16 ^ e ≤ tN r 0
theorem tLw_ce {O : List Nat → Prop} {X e e' : Nat} (h : tLw O X e) (he : e = e') : tLw O X e' := by
  subst he
  exact h
section
variable {N m : Nat} {A : Nat → Bool} {B : Nat → Nat → Bool} {T : (Nat → Bool) → Prop}
theorem tO_16 {r : List Nat} (hN : N ≤ 16) (h : tOk N A B T m r) : ∀ s, s ∈ r → s < 16 := fun s hs => by
  have := (tV_p h.2.1 s hs).1
  omega
theorem tLw_no {pre : List Nat} {c e : Nat} (hN : N ≤ 8) (hc : c < 16) (hp : tV N A B [] pre) (hm : pre.length + 1 + e = m) (hx : ¬ tX N A B pre c) (h : tLw (tOk N A B T m) (tN pre 0 * 16 + c) e) : tLw (tOk N A B T m) (tN pre 0 * 16 + (c + 1)) e := fun r hr => by
  refine Nat.le_of_not_lt (fun h9 => hx ?_)
  have h16 := tO_16 (by omega) hr
  have e1 := tN_sp (k := pre.length + 1) (by rw [hr.1]; omega) h16 (h r hr) h9
  rw [← tN_app] at e1
  have p16 : ∀ s, s ∈ pre ++ [c] → s < 16 := fun s hs => by
    rcases List.mem_append.mp hs with h8 | h8
    · have := (tV_p hp s h8).1
      omega
    · rw [List.mem_singleton.mp h8]
      exact hc
  have e2 := (tN_inj (by rw [List.length_take, List.length_append, hr.1, List.length_singleton]; omega) (fun s hs => h16 s (List.mem_of_mem_take hs)) p16 e1).2
  have hv := hr.2.1
  rw [← List.take_append_drop (pre.length + 1) r, e2] at hv
  exact (tV_x.mp (tV_ap hv)).2
theorem tLw_bk {pre : List Nat} {c e : Nat} (hN : N ≤ 8) (hc : N ≤ c) (hp : tV N A B [] pre) (hm : pre.length + 1 + e = m) (h : tLw (tOk N A B T m) (tN pre 0 * 16 + c) e) : tLw (tOk N A B T m) (tN pre 0 + 1) (e + 1) := fun r hr => by
  refine Nat.le_of_not_lt (fun h9 => ?_)
  have h16 := tO_16 (by omega) hr
  have h1 := h r hr
  have hlen : r.length = pre.length + 1 + e := hr.1.trans hm.symm
  have h2 : tN pre 0 * 16 ^ (e + 1) ≤ tN r 0 := by
    refine Nat.le_trans ?_ h1
    rw [Nat.pow_succ, show tN pre 0 * (16 ^ e * 16) = (tN pre 0 * 16) * 16 ^ e by rw [Nat.mul_comm (16 ^ e) 16, Nat.mul_assoc]]
    exact Nat.mul_le_mul_right _ (by omega)
  have e1 := tN_sp (k := pre.length) (by omega) h16 h2 h9
  have es : tN r 0 = tN (r.drop (pre.length + 1)) (tN (r.take (pre.length + 1)) 0) := by
    rw [← tN_a2, List.take_append_drop]
  have hd : (r.drop (pre.length + 1)).length = e := by rw [List.length_drop]; omega
  have b2 := tN_hi (r.drop (pre.length + 1)) (tN (r.take (pre.length + 1)) 0) (fun s hs => h16 s (List.mem_of_mem_drop hs))
  rw [hd, ← es, t_tk (by omega), tN_app, e1] at b2
  have c1 := Nat.lt_of_mul_lt_mul_right (Nat.lt_of_le_of_lt h1 b2)
  have hs : r.getD pre.length 0 ∈ r := t_gd.mpr ⟨pre.length, by omega, rfl⟩
  have := (tV_p hr.2.1 _ hs).1
  omega
theorem tLw_fu {pre : List Nat} (hN : N ≤ 8) (hp : tV N A B [] pre) (hm : pre.length = m) (hx : ¬ T (fun s => decide (s ∈ pre))) (h : tLw (tOk N A B T m) (tN pre 0) 0) : tLw (tOk N A B T m) (tN pre 0 + 1) 0 := fun r hr => by
  have h1 := h r hr
  rw [Nat.pow_zero, Nat.mul_one] at h1 ⊢
  refine Nat.lt_of_le_of_ne h1 (fun h9 => hx ?_)
  have e := (tN_inj (hm.trans hr.1.symm) (fun s hs => by have := (tV_p hp s hs).1; omega) (tO_16 (by omega) hr) h9).2
  rw [e]
  exact hr.2.2
theorem tLw_dn {O : List Nat → Prop} {pre : List Nat} {c e : Nat} (h : tLw O (tN pre 0 * 16 + c) (e + 1)) : tLw O (tN (pre ++ [c]) 0 * 16 + 0) e := fun r hr => by
  have h1 := h r hr
  rw [tN_app, Nat.add_zero]
  rw [Nat.pow_succ, show (tN pre 0 * 16 + c) * (16 ^ e * 16) = ((tN pre 0 * 16 + c) * 16) * 16 ^ e by rw [Nat.mul_comm (16 ^ e) 16, Nat.mul_assoc]] at h1
  exact h1
theorem tLw_d0 {O : List Nat → Prop} {pre : List Nat} {c : Nat} (h : tLw O (tN pre 0 * 16 + c) 0) : tLw O (tN (pre ++ [c]) 0) 0 := by
  rw [tN_app]
  exact h
theorem tLw_up {O : List Nat → Prop} {pre : List Nat} {c e : Nat} (h : tLw O (tN (pre ++ [c]) 0 + 1) e) : tLw O (tN pre 0 * 16 + (c + 1)) e := by
  rw [tN_app] at h
  exact h
theorem tLw_en {r : List Nat} (hN : N ≤ 8) (h : tLw (tOk N A B T m) (tN [] 0 + 1) m) : ¬ tOk N A B T m r := fun hr => by
  have h1 := h r hr
  have h2 := tN_hi r 0 (tO_16 (by omega) hr)
  rw [hr.1] at h2
  have h1 : (0 + 1) * 16 ^ m ≤ tN r 0 := h1
  omega
theorem tLw_0 {O : List Nat → Prop} {e : Nat} : tLw O 0 e := fun r _ => by
  rw [Nat.zero_mul]
  exact Nat.zero_le _
/-- a row is below the end -/
theorem tN_bd {pre : List Nat} {c e : Nat} (hN : N ≤ 8) (hp : tV N A B [] pre) (hm : pre.length + 1 + e = m) (hc : c ≤ 9) : (tN pre 0 * 16 + c) * 16 ^ e < 16 ^ m := by
  have h1 := tN_hi pre 0 (fun s hs => by have := (tV_p hp s hs).1; omega)
  have h3 : tN pre 0 + 1 ≤ 16 ^ pre.length := by omega
  have h4 : (tN pre 0 * 16 + c + 1) * 16 ^ e ≤ (16 ^ pre.length * 16) * 16 ^ e := Nat.mul_le_mul_right _ (by omega)
  have h5 : (16 ^ pre.length * 16) * 16 ^ e = 16 ^ m := by rw [← Nat.pow_succ, ← Nat.pow_add, show pre.length.succ + e = m by omega]
  have h6 : 0 < 16 ^ e := Nat.pow_pos (by decide)
  rw [Nat.add_mul (tN pre 0 * 16 + c) 1, Nat.one_mul, h5] at h4
  omega
end
