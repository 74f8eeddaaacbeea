/-! ===== how many cells are told to have a current ===== -/
def yCnt (f : Nat → Bool) : Nat → Int
  | 0 => 0
  | n + 1 => yCnt f n + (if f n = true then 1 else 0)
theorem yCnt_s {f : Nat → Bool} {n : Nat} : yCnt f (n + 1) = yCnt f n + (if f n = true then 1 else 0) := rfl
theorem yCnt_c {f g : Nat → Bool} : ∀ n, (∀ j, j < n → f j = g j) → yCnt f n = yCnt g n := by
  intro n
  induction n with
  | zero => exact fun _ => rfl
  | succ n ih =>
    intro h
    rw [yCnt_s, yCnt_s, ih (fun j hj => h j (by omega)), h n (by omega)]
theorem yCnt_b {f : Nat → Bool} : ∀ n : Nat, 0 ≤ yCnt f n ∧ yCnt f n ≤ n := by
  intro n
  induction n with
  | zero => exact ⟨Int.le_refl _, Int.le_refl _⟩
  | succ n ih =>
    rw [yCnt_s]
    by_cases h : f n = true
    · rw [if_pos h]
      omega
    · rw [if_neg h]
      omega
theorem yCnt_0 {f : Nat → Bool} : ∀ n, (∀ j, j < n → f j = false) → yCnt f n = 0 := by
  intro n
  induction n with
  | zero => exact fun _ => rfl
  | succ n ih =>
    intro h
    rw [yCnt_s, ih (fun j hj => h j (by omega)), if_neg (by rw [h n (by omega)]; decide)]
    rfl
theorem yCnt_u {f : Nat → Bool} {c : Int} (h0 : 0 ≤ c) : ∀ n : Nat, c < n → f c.toNat = false → yCnt (yUb f c) n = yCnt f n + 1 := by
  intro n
  induction n with
  | zero => exact fun h _ => by omega
  | succ n ih =>
    intro h hf
    by_cases h9 : ((n : Nat) : Int) = c
    · have e1 : yCnt (yUb f c) n = yCnt f n := yCnt_c n (fun j hj => if_neg (by omega))
      have e2 : yUb f c n = true := if_pos h9
      have e4 : c.toNat = n := by omega
      rw [e4] at hf
      rw [yCnt_s, yCnt_s, e1, if_pos e2, if_neg (by rw [hf]; decide)]
      omega
    · have e1 := ih (by omega) hf
      have e2 : yUb f c n = f n := if_neg h9
      rw [yCnt_s, yCnt_s, e1, e2]
      generalize (if f n = true then (1 : Int) else 0) = z
      omega
