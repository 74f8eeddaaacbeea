/-! ===== the class counts its rocks: one bit more is one more ===== -/
def yf (k A : Nat) : Nat := A / 16 ^ k % 16
theorem yf_0 {A : Nat} : yf 0 A = A % 16 := by
  unfold yf
  rw [Nat.pow_zero, Nat.div_one]
theorem yf_s {k A : Nat} : yf (k + 1) A = yf k (A / 16) := by
  unfold yf
  rw [Nat.pow_succ, Nat.mul_comm, ← Nat.div_div_eq_div_mul]
theorem yf_add : ∀ (k A B : Nat), (∀ j, yf j A + yf j B < 16) → yf k (A + B) = yf k A + yf k B
  | 0, A, B, h => by
    have h0 := h 0
    rw [yf_0, yf_0] at h0
    rw [yf_0, yf_0, yf_0]
    omega
  | k + 1, A, B, h => by
    have h0 := h 0
    rw [yf_0, yf_0] at h0
    rw [yf_s, yf_s, yf_s, show (A + B) / 16 = A / 16 + B / 16 by omega]
    exact yf_add k (A / 16) (B / 16) (fun j => by rw [← yf_s, ← yf_s]; exact h (j + 1))
theorem yf_b {k A i : Nat} : (yf k A).testBit i = (decide (i < 4) && A.testBit (4 * k + i)) := by
  unfold yf
  rw [show 16 ^ k = 2 ^ (4 * k) from (Nat.pow_mul 2 4 k).symm, show A / 2 ^ (4 * k) % 16 = A / 2 ^ (4 * k) % 2 ^ 4 from rfl, Nat.testBit_mod_two_pow, Nat.testBit_div_two_pow, Nat.add_comm i]
theorem yf_ext {A B : Nat} (h : ∀ k, yf k A = yf k B) : A = B := by
  apply Nat.eq_of_testBit_eq
  intro i
  have e := congrArg (fun x => Nat.testBit x (i % 4)) (h (i / 4))
  have e : (yf (i / 4) A).testBit (i % 4) = (yf (i / 4) B).testBit (i % 4) := e
  rw [yf_b, yf_b, decide_eq_true (show i % 4 < 4 by omega), show 4 * (i / 4) + i % 4 = i by omega, Bool.true_and, Bool.true_and] at e
  exact e
theorem yf_and {k A B : Nat} : yf k (A &&& B) = yf k A &&& yf k B := by
  apply Nat.eq_of_testBit_eq
  intro i
  rw [yf_b, Nat.testBit_and, Nat.testBit_and, yf_b, yf_b]
  cases decide (i < 4) <;> cases A.testBit (4 * k + i) <;> cases B.testBit (4 * k + i) <;> rfl
theorem yf_or {k A B : Nat} : yf k (A ||| B) = yf k A ||| yf k B := by
  apply Nat.eq_of_testBit_eq
  intro i
  rw [yf_b, Nat.testBit_or, Nat.testBit_or, yf_b, yf_b]
  cases decide (i < 4) <;> cases A.testBit (4 * k + i) <;> cases B.testBit (4 * k + i) <;> rfl
theorem yf_sh {k A B s : Nat} (h : ∀ i, 4 ≤ s + i → (yf k B).testBit i = false) : yf k (A / 2 ^ s &&& B) = yf k A / 2 ^ s &&& yf k B := by
  rw [yf_and]
  apply Nat.eq_of_testBit_eq
  intro i
  rw [Nat.testBit_and, Nat.testBit_and]
  by_cases hi : 4 ≤ s + i
  · rw [h i hi, Bool.and_false, Bool.and_false]
  · have e1 : (yf k (A / 2 ^ s)).testBit i = (yf k A / 2 ^ s).testBit i := by
      rw [yf_b, Nat.testBit_div_two_pow, Nat.testBit_div_two_pow, yf_b, decide_eq_true (show i < 4 by omega), decide_eq_true (show i + s < 4 by omega), show 4 * k + i + s = 4 * k + (i + s) by omega]
    rw [e1]
theorem yf_lt {k A : Nat} : yf k A < 16 := Nat.mod_lt _ (by decide)
theorem yf_big {k A n : Nat} (h : A < 16 ^ n) (hk : n ≤ k) : yf k A = 0 := by
  unfold yf
  rw [Nat.div_eq_of_lt (Nat.lt_of_lt_of_le h (Nat.pow_le_pow_right (by decide) hk))]
/-- a mask's nibbles -/
theorem yf_m {M m : Nat} (hM : M < 16 ^ 16) (h : ∀ k, k < 16 → yf k M = m) (k : Nat) : yf k M = if k < 16 then m else 0 := by
  by_cases hk : k < 16
  · rw [if_pos hk]
    exact h k hk
  · rw [if_neg hk]
    exact yf_big hM (by omega)
theorem yf_5 : ∀ k, yf k 6148914691236517205 = if k < 16 then 5 else 0 := yf_m (by decide) (by decide +kernel)
theorem yf_3 : ∀ k, yf k 3689348814741910323 = if k < 16 then 3 else 0 := yf_m (by decide) (by decide +kernel)
theorem yf_bit0 {m s : Nat} (hm : m < 2 ^ (4 - s)) (hs : s ≤ 4) : ∀ i, 4 ≤ s + i → m.testBit i = false := fun i hi => Nat.testBit_lt_two_pow (Nat.lt_of_lt_of_le hm (Nat.pow_le_pow_right (by decide) (by omega)))
def yt1 (u : Nat) : Nat := (u &&& 5) + (u / 2 &&& 5)
def yt2 (a : Nat) : Nat := (a &&& 3) + (a / 4 &&& 3)
def yT (u : Nat) : Nat := yt2 (yt1 u)
theorem yt_k1 : ∀ u, u < 16 → (u &&& 5) + ((u / 2 &&& 5) + (u / 2 &&& 5)) = u ∧ (u &&& 5) ≤ 5 ∧ (u / 2 &&& 5) ≤ 5 := by decide +kernel
theorem yt_k2 : ∀ u, u < 16 → (u &&& 3) ≤ 3 ∧ (u / 4 &&& 3) ≤ 3 := by decide +kernel
theorem yt_k3 : ∀ u, u < 16 → yT u ≤ 4 ∧ yt1 u < 16 := by decide +kernel
theorem yT_or : ∀ a, a < 16 → ∀ b, b < 16 → a &&& b = 0 → yT (a ||| b) = yT a + yT b := by decide +kernel
theorem y_a1 {U : Nat} (hU : U < 16 ^ 16) : ∀ k, yf k (U &&& 6148914691236517205) = yf k U &&& 5 ∧ yf k (U / 2 &&& 6148914691236517205) = yf k U / 2 &&& 5 := by
  intro k
  by_cases hk : k < 16
  · have e := yf_5 k
    rw [if_pos hk] at e
    refine ⟨by rw [yf_and, e], ?_⟩
    have := yf_sh (k := k) (A := U) (B := 6148914691236517205) (s := 1) (by rw [e]; exact yf_bit0 (by decide) (by decide))
    rw [e] at this
    exact this
  · have e := yf_5 k
    rw [if_neg hk] at e
    have z : yf k U = 0 := yf_big hU (by omega)
    rw [yf_and, yf_and, e, z]
    exact ⟨rfl, Nat.and_zero _⟩
theorem y_a2 {U : Nat} (hU : U < 16 ^ 16) : ∀ k, yf k (U &&& 3689348814741910323) = yf k U &&& 3 ∧ yf k (U / 4 &&& 3689348814741910323) = yf k U / 4 &&& 3 := by
  intro k
  by_cases hk : k < 16
  · have e := yf_3 k
    rw [if_pos hk] at e
    refine ⟨by rw [yf_and, e], ?_⟩
    have := yf_sh (k := k) (A := U) (B := 3689348814741910323) (s := 2) (by rw [e]; exact yf_bit0 (by decide) (by decide))
    rw [e] at this
    exact this
  · have e := yf_3 k
    rw [if_neg hk] at e
    have z : yf k U = 0 := yf_big hU (by omega)
    rw [yf_and, yf_and, e, z]
    exact ⟨rfl, Nat.and_zero _⟩
/-- the first step -/
theorem y_s1 {U : Nat} (hU : U < 16 ^ 16) : U = (U &&& 6148914691236517205) + ((U / 2 &&& 6148914691236517205) + (U / 2 &&& 6148914691236517205)) ∧ ∀ k, yf k ((U &&& 6148914691236517205) + (U / 2 &&& 6148914691236517205)) = yt1 (yf k U) := by
  have a := y_a1 hU
  have b := fun k => yt_k1 (yf k U) yf_lt
  have c : ∀ k, yf k ((U / 2 &&& 6148914691236517205) + (U / 2 &&& 6148914691236517205)) = (yf k U / 2 &&& 5) + (yf k U / 2 &&& 5) := fun k => by
    rw [yf_add k _ _ (fun j => by rw [(a j).2]; have := b j; omega), (a k).2]
  constructor
  · refine (yf_ext (fun k => ?_)).symm
    rw [yf_add k _ _ (fun j => by rw [(a j).1, c j]; have := b j; have := yf_lt (k := j) (A := U); omega), (a k).1, c k]
    exact (b k).1
  · intro k
    rw [yf_add k _ _ (fun j => by rw [(a j).1, (a j).2]; have := b j; omega), (a k).1, (a k).2]
    rfl
theorem y_s2 {U : Nat} (hU : U < 16 ^ 16) : ∀ k, yf k ((U &&& 3689348814741910323) + (U / 4 &&& 3689348814741910323)) = yt2 (yf k U) := by
  have a := y_a2 hU
  have b := fun k => yt_k2 (yf k U) yf_lt
  intro k
  rw [yf_add k _ _ (fun j => by rw [(a j).1, (a j).2]; have := b j; omega), (a k).1, (a k).2]
  rfl
def yv (f : Nat → Nat) : Nat → Nat
  | 0 => 0
  | n + 1 => f 0 + 16 * yv (fun k => f (k + 1)) n
theorem y16 : ∀ (n C : Nat), C < 16 ^ n → C = yv (fun k => yf k C) n
  | 0, C, h => by
    have h : C < 1 := h
    show C = 0
    omega
  | n + 1, C, h => by
    show C = yf 0 C + 16 * yv (fun k => yf (k + 1) C) n
    have h1 : C / 16 < 16 ^ n := by
      rw [Nat.pow_succ] at h
      omega
    have ih := y16 n (C / 16) h1
    rw [show (fun k => yf (k + 1) C) = fun k => yf k (C / 16) from funext (fun k => yf_s), ← ih, yf_0]
    omega
