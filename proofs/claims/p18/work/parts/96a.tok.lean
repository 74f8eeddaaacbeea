/-! ===== a text's tokens, said once for both sides ===== -/
def ys_sp (c : Int) : Bool := decide (c = 32 ∨ c = 10)
def ys_L (c : Int) : Bool := decide (97 ≤ c ∧ c ≤ 122)
def ys_D (c : Int) : Bool := decide (48 ≤ c ∧ c ≤ 57)
/-- ; ( ) + - * / < = -/
def ys_G (c : Int) : Bool := decide (c = 59 ∨ c = 40 ∨ c = 41 ∨ c = 43 ∨ c = 45 ∨ c = 42 ∨ c = 47 ∨ c = 60 ∨ c = 61)
def ys_run (P : Int → Bool) (T : Nat → Int) : Nat → Nat → Nat
  | 0, p => p
  | f + 1, p => bif P (T p) then ys_run P T f (p + 1) else p
theorem ys_run_t {P : Int → Bool} {T : Nat → Int} {n q : Nat} (hq : q < n) (h : P (T q) = true) : ys_run P T (n - q) q = ys_run P T (n - (q + 1)) (q + 1) := by
  rw [show n - q = (n - (q + 1)) + 1 by omega]
  show (bif P (T q) then _ else _) = _
  rw [h]
  rfl
theorem ys_run_f {P : Int → Bool} {T : Nat → Int} {n q : Nat} (h : P (T q) = false) : ys_run P T (n - q) q = q := by
  cases n - q with
  | zero => rfl
  | succ f =>
    show (bif P (T q) then _ else _) = _
    rw [h]
    rfl
theorem ys_run_n {P : Int → Bool} {T : Nat → Int} {n q : Nat} (h : n ≤ q) : ys_run P T (n - q) q = q := by
  rw [show n - q = 0 by omega]
  rfl
theorem ys_run_b {P : Int → Bool} {T : Nat → Int} : ∀ (f q : Nat), q ≤ ys_run P T f q ∧ ys_run P T f q ≤ q + f
  | 0, q => ⟨Nat.le_refl _, Nat.le_refl _⟩
  | f + 1, q => by
    show q ≤ (bif P (T q) then ys_run P T f (q + 1) else q) ∧ (bif P (T q) then ys_run P T f (q + 1) else q) ≤ q + (f + 1)
    cases P (T q) with
    | false => exact ⟨Nat.le_refl _, by show q ≤ q + (f + 1); omega⟩
    | true =>
      have h := ys_run_b (P := P) (T := T) f (q + 1)
      show q ≤ ys_run P T f (q + 1) ∧ ys_run P T f (q + 1) ≤ q + (f + 1)
      omega
def ys_nm (T : Nat → Int) (s : Nat) : Nat → Int
  | 0 => 0
  | k + 1 => ys_nm T s k * 10 + T (s + k) - 48
/-- how much of a known word fits, as the reader goes along them -/
def ys_al (T : Nat → Int) (s e : Nat) : Nat → Int
  | 0 => 0
  | i + 1 => if (Int32.ofNat (zp_spell.getD i 0)).toInt = 32 then 0 else if ys_al T s e i ≠ -1 ∧ (s : Int) + ys_al T s e i < e ∧ T ((s : Int) + ys_al T s e i).toNat = (Int32.ofNat (zp_spell.getD i 0)).toInt then ys_al T s e i + 1 else -1
def ys_wl (T : Nat → Int) (s e : Nat) : Nat → Nat → Int
  | 0, i => zq_sp i
  | f + 1, i => if (Int32.ofNat (zp_spell.getD i 0)).toInt = 32 ∧ ys_al T s e i = (e : Int) - s then zq_sp i else ys_wl T s e f (i + 1)
/-- which word it is -/
def ys_wi (T : Nat → Int) (s e : Nat) : Int := ys_wl T s e 101 0
/-- where the token behind p begins, what it is, where it ends, its value -/
def ys_st (T : Nat → Int) (n p : Nat) : Nat := ys_run ys_sp T (n - p) p
def ys_ks (T : Nat → Int) (n s : Nat) : Int := if n ≤ s then 0 else bif ys_L (T s) then 3 else bif ys_D (T s) then 2 else bif ys_G (T s) then 4 else 1
def ys_es (T : Nat → Int) (n s : Nat) : Nat := if n ≤ s then s else bif ys_L (T s) then ys_run ys_L T (n - s) s else bif ys_D (T s) then ys_run ys_D T (n - s) s else s + 1
def ys_vs (T : Nat → Int) (s e : Nat) : Int := bif ys_L (T s) then ys_wi T s e else bif ys_D (T s) then (if 4 < e - s then 2147483647 else ys_nm T s (e - s)) else T s
def ys_kd (T : Nat → Int) (n p : Nat) : Int := ys_ks T n (ys_st T n p)
def ys_nx (T : Nat → Int) (n p : Nat) : Nat := ys_es T n (ys_st T n p)
def ys_vl (T : Nat → Int) (n p : Nat) : Int := ys_vs T (ys_st T n p) (ys_nx T n p)
/-- the class has this text, and this token of it at hand -/
def yc_T (T : Nat → Int) (n : Nat) (H : zp_H) : Prop := n ≤ 700 ∧ (H.2.1 52 1).toInt = n ∧ ∀ k, k < n → (H.2.1 1 k).toInt = T k
def yc_k (T : Nat → Int) (n p : Nat) (H : zp_H) : Prop := (H.2.1 52 3).toInt = ys_st T n p ∧ (H.2.1 52 2).toInt = ys_nx T n p ∧ (H.2.1 52 4).toInt = ys_kd T n p ∧ (ys_kd T n p ≠ 0 → (H.2.1 52 5).toInt = ys_vl T n p)
theorem ys_stb {T : Nat → Int} {n p : Nat} (hp : p ≤ n) : p ≤ ys_st T n p ∧ ys_st T n p ≤ n := by
  have h := ys_run_b (P := ys_sp) (T := T) (n - p) p
  unfold ys_st
  omega
theorem ys_esb {T : Nat → Int} {n s : Nat} (hs : s ≤ n) : s ≤ ys_es T n s ∧ ys_es T n s ≤ n ∧ (ys_ks T n s ≠ 0 → s < ys_es T n s) := by
  unfold ys_es ys_ks
  by_cases h : n ≤ s
  · rw [if_pos h, if_pos h]
    exact ⟨Nat.le_refl _, hs, fun h9 => absurd rfl h9⟩
  · rw [if_neg h, if_neg h]
    cases hL : ys_L (T s) with
    | true =>
      have e : ys_run ys_L T (n - s) s = ys_run ys_L T (n - (s + 1)) (s + 1) := ys_run_t (by omega) hL
      have b := ys_run_b (P := ys_L) (T := T) (n - (s + 1)) (s + 1)
      show s ≤ ys_run ys_L T (n - s) s ∧ ys_run ys_L T (n - s) s ≤ n ∧ (_ → s < ys_run ys_L T (n - s) s)
      rw [e]
      exact ⟨by omega, by omega, fun _ => by omega⟩
    | false =>
      cases hD : ys_D (T s) with
      | true =>
        have e : ys_run ys_D T (n - s) s = ys_run ys_D T (n - (s + 1)) (s + 1) := ys_run_t (by omega) hD
        have b := ys_run_b (P := ys_D) (T := T) (n - (s + 1)) (s + 1)
        show s ≤ ys_run ys_D T (n - s) s ∧ ys_run ys_D T (n - s) s ≤ n ∧ (_ → s < ys_run ys_D T (n - s) s)
        rw [e]
        exact ⟨by omega, by omega, fun _ => by omega⟩
      | false =>
        show s ≤ s + 1 ∧ s + 1 ≤ n ∧ (_ → s < s + 1)
        exact ⟨by omega, by omega, fun _ => by omega⟩
theorem ys_nxb {T : Nat → Int} {n p : Nat} (hp : p ≤ n) : p ≤ ys_st T n p ∧ ys_st T n p ≤ ys_nx T n p ∧ ys_nx T n p ≤ n ∧ (ys_kd T n p ≠ 0 → ys_st T n p < ys_nx T n p) := by
  have h1 := ys_stb (T := T) hp
  have h2 := ys_esb (T := T) h1.2
  exact ⟨h1.1, h2.1, h2.2.1, h2.2.2⟩
