/-! ===== numbers are not below 0 ===== -/
theorem ys_run_p {P : Int → Bool} {T : Nat → Int} : ∀ (f q t : Nat), t < ys_run P T f q - q → P (T (q + t)) = true
  | 0, q, t, h => by
    have h : t < q - q := h
    omega
  | f + 1, q, t, h => by
    cases hP : P (T q) with
    | false =>
      have e : ys_run P T (f + 1) q = q := by
        show (bif P (T q) then _ else _) = _
        rw [hP]
        rfl
      omega
    | true =>
      have e : ys_run P T (f + 1) q = ys_run P T f (q + 1) := by
        show (bif P (T q) then _ else _) = _
        rw [hP]
        rfl
      cases t with
      | zero => exact hP
      | succ t =>
        have := ys_run_p (P := P) (T := T) f (q + 1) t (by omega)
        rw [show q + (t + 1) = q + 1 + t by omega]
        exact this
theorem ys_vl_n {T : Nat → Int} {n p : Nat} (h : ys_kd T n p = 2) : ys_st T n p < n ∧ ys_D (T (ys_st T n p)) = true ∧ ys_nx T n p = ys_run ys_D T (n - ys_st T n p) (ys_st T n p) ∧ ys_vl T n p = (if 4 < ys_nx T n p - ys_st T n p then 2147483647 else ys_nm T (ys_st T n p) (ys_nx T n p - ys_st T n p)) := by
  unfold ys_kd ys_ks at h
  by_cases h1 : n ≤ ys_st T n p
  · rw [if_pos h1] at h
    omega
  · rw [if_neg h1] at h
    cases hL : ys_L (T (ys_st T n p)) with
    | true => rw [hL] at h; exact absurd (show (3 : Int) = 2 from h) (by decide)
    | false =>
      rw [hL] at h
      cases hD : ys_D (T (ys_st T n p)) with
      | true =>
        refine ⟨by omega, rfl, ?_, ?_⟩
        · unfold ys_nx ys_es
          rw [if_neg h1, hL, hD]
          rfl
        · unfold ys_vl ys_vs
          rw [hL, hD]
          rfl
      | false =>
        rw [hD] at h
        cases hG : ys_G (T (ys_st T n p)) with
        | true => rw [hG] at h; exact absurd (show (4 : Int) = 2 from h) (by decide)
        | false => rw [hG] at h; exact absurd (show (1 : Int) = 2 from h) (by decide)
theorem ys_nm_b {T : Nat → Int} {s : Nat} : ∀ (m : Nat), m ≤ 4 → (∀ t, t < m → 48 ≤ T (s + t) ∧ T (s + t) ≤ 57) → 0 ≤ ys_nm T s m ∧ ys_nm T s m ≤ ys_10 m
  | 0, _, _ => ⟨Int.le_refl 0, by show (0 : Int) ≤ ys_10 0; decide⟩
  | m + 1, hm, h => (ys_10b (ys_nm_b m (by omega) (fun t ht => h t (by omega))) (by omega) (h m (by omega))).2
theorem xs_vl_n0 {T : Nat → Int} {n p : Nat} (hp : p ≤ n) (hk : ys_kd T n p = 2) : 0 ≤ ys_vl T n p := by
  have hb := ys_nxb (T := T) hp
  obtain ⟨g1, g2, g3, g4⟩ := ys_vl_n hk
  rw [g4]
  split
  · decide
  · exact (ys_nm_b (T := T) (s := ys_st T n p) (ys_nx T n p - ys_st T n p) (by omega) (fun t ht => by
        rw [g3] at ht
        exact of_decide_eq_true (ys_run_p _ _ t ht))).1
