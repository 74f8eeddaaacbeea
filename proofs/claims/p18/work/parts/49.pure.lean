/-! ===== the reference's codes: pure facts ===== -/
theorem zw_p1 {x : Int32} (h : x.toInt < 2147483647) : (x + Int32.ofInt 1).toInt = x.toInt + 1 := by
  have h1 : (Int32.ofInt 1).toInt = 1 := rfl
  have h2 : -2147483648 ≤ x.toInt := Int32.le_toInt x
  rw [zn_add (by omega) (by omega), h1]
theorem zw_m1 {x : Int32} (h : -2147483648 < x.toInt) : (x - Int32.ofInt 1).toInt = x.toInt - 1 := by
  have h1 : (Int32.ofInt 1).toInt = 1 := rfl
  have h2 : x.toInt < 2147483648 := Int32.toInt_lt x
  rw [zn_sub (by omega) (by omega), h1]
/-- a code's step: where, how many are on the pile -/
def zr_stp (c : Nat → Int32) (k m : Nat) : Option (Nat × Nat) :=
  if (c k).toInt = 1 ∨ (c k).toInt = 2 then some (k + 2, m + 1)
  else if (c k).toInt = 3 then (if 1 ≤ m then some (k + 1, m) else none)
  else if 4 ≤ (c k).toInt then (if 2 ≤ m then some (k + 1, m - 1) else none)
  else none
def zr_run (c : Nat → Int32) : Nat → Nat → Nat → Option (Nat × Nat)
  | 0, k, m => some (k, m)
  | n + 1, k, m => match zr_stp c k m with
    | some q => zr_run c n q.1 q.2
    | none => none
theorem zr_stp_lt {c : Nat → Int32} {k m : Nat} {q : Nat × Nat} (h : zr_stp c k m = some q) : k < q.1 := by
  unfold zr_stp at h
  split at h
  · cases h; show k < k + 2; omega
  · split at h
    · split at h
      · cases h; show k < k + 1; omega
      · cases h
    · split at h
      · split at h
        · cases h; show k < k + 1; omega
        · cases h
      · cases h
theorem zr_stp_c {c c' : Nat → Int32} {k m : Nat} (h : c' k = c k) : zr_stp c' k m = zr_stp c k m := by
  unfold zr_stp
  rw [h]
theorem zr_run_le {c : Nat → Int32} : ∀ {n k m : Nat} {q : Nat × Nat}, zr_run c n k m = some q → k ≤ q.1
  | 0, k, m, q, h => by cases h; exact Nat.le_refl _
  | n + 1, k, m, q, h => by
    unfold zr_run at h
    split at h
    · rename_i q1 h1
      exact Nat.le_trans (Nat.le_of_lt (zr_stp_lt h1)) (zr_run_le h)
    · cases h
theorem zr_run_app {c : Nat → Int32} : ∀ {n k m : Nat} {q : Nat × Nat}, zr_run c n k m = some q → zr_run c (n + 1) k m = zr_stp c q.1 q.2
  | 0, k, m, q, h => by
    cases h
    show (match zr_stp c k m with
      | some q => zr_run c 0 q.1 q.2
      | none => none) = zr_stp c k m
    cases zr_stp c k m with
    | none => rfl
    | some q => rfl
  | n + 1, k, m, q, h => by
    unfold zr_run at h
    split at h
    · rename_i q1 h1
      have ih := zr_run_app h
      show (match zr_stp c k m with
        | some q => zr_run c (n + 1) q.1 q.2
        | none => none) = _
      rw [h1]
      exact ih
    · cases h
theorem zr_run_c {c c' : Nat → Int32} {b : Nat} (hc : ∀ i, i < b → c' i = c i) : ∀ {n k m : Nat} {q : Nat × Nat}, zr_run c n k m = some q → q.1 ≤ b → zr_run c' n k m = some q
  | 0, k, m, q, h, _ => h
  | n + 1, k, m, q, h, hb => by
    unfold zr_run at h
    split at h
    · rename_i q1 h1
      have hk : k < b := Nat.lt_of_lt_of_le (Nat.lt_of_lt_of_le (zr_stp_lt h1) (zr_run_le h)) hb
      have ih := zr_run_c hc h hb
      show (match zr_stp c' k m with
        | some q => zr_run c' n q.1 q.2
        | none => none) = _
      rw [zr_stp_c (hc k hk), h1]
      exact ih
    · cases h
/-- how many of those that wait take two; how many are open -/
def zr_bin (w : Nat → Int32) : Nat → Nat
  | 0 => 0
  | n + 1 => zr_bin w n + (if 4 ≤ (w n).toInt ∧ (w n).toInt < 14 then 1 else 0)
def zr_opn (w : Nat → Int32) : Nat → Nat
  | 0 => 0
  | n + 1 => zr_opn w n + (if 14 ≤ (w n).toInt then 1 else 0)
theorem zr_bin_c {w w' : Nat → Int32} : ∀ {n : Nat}, (∀ i, i < n → w' i = w i) → zr_bin w' n = zr_bin w n
  | 0, _ => rfl
  | n + 1, h => by
    unfold zr_bin
    rw [zr_bin_c (fun i hi => h i (Nat.lt_succ_of_lt hi)), h n (Nat.lt_succ_self n)]
theorem zr_opn_c {w w' : Nat → Int32} : ∀ {n : Nat}, (∀ i, i < n → w' i = w i) → zr_opn w' n = zr_opn w n
  | 0, _ => rfl
  | n + 1, h => by
    unfold zr_opn
    rw [zr_opn_c (fun i hi => h i (Nat.lt_succ_of_lt hi)), h n (Nat.lt_succ_self n)]
theorem zr_opn_le {w : Nat → Int32} : ∀ {n : Nat}, zr_opn w n ≤ n
  | 0 => Nat.le_refl _
  | n + 1 => by
    have ih := zr_opn_le (w := w) (n := n)
    unfold zr_opn
    split <;> omega
theorem zr_opn_1 {w : Nat → Int32} : ∀ {n i : Nat}, i < n → 14 ≤ (w i).toInt → 1 ≤ zr_opn w n
  | 0, i, h, _ => absurd h (Nat.not_lt_zero _)
  | n + 1, i, h, hi => by
    unfold zr_opn
    by_cases h9 : i = n
    · subst h9
      rw [if_pos hi]
      omega
    · have := zr_opn_1 (n := n) (i := i) (by omega) hi
      omega
theorem zr_opn_0 {w : Nat → Int32} : ∀ {n : Nat}, (∀ i, i < n → (w i).toInt < 14) → zr_opn w n = 0
  | 0, _ => rfl
  | n + 1, h => by
    unfold zr_opn
    rw [zr_opn_0 (fun i hi => h i (Nat.lt_succ_of_lt hi)), if_neg (by have := h n (Nat.lt_succ_self n); omega)]
