/-! ===== the place behind the last rule's row is never ahead of the place at hand ===== -/
def y15 (n : Nat) (s : yL) : Prop := s.2.2.2.2.2.2 ≤ n ∧ s.2.2.2.2.2.1.1 15 ≤ (s.2.2.2.2.2.2 : Int)
theorem y15_U {f : Nat → Int} {k j : Nat} {v : Int} (h : j ≠ k) : yU f k v j = f j := if_neg h
theorem y15_p {n p q m : Nat} {lv : List Bool} {x a : Int} {y : Int32} {d d' : yLD} (h : p ≤ n ∧ d.1 15 ≤ (p : Int)) (e : d'.1 15 = d.1 15) (hq : p ≤ q ∧ q ≤ n) : y15 n (m, lv, x, a, y, d', q) := ⟨hq.2, by
  show d'.1 15 ≤ (q : Int)
  rw [e]
  omega⟩
theorem y15_nx {T : Nat → Int} {n p : Nat} (h : p ≤ n) : p ≤ ys_nx T n p ∧ ys_nx T n p ≤ n := by
  have b := ys_nxb (T := T) h
  omega
theorem y15_n {T : Nat → Int} {n p m : Nat} {lv : List Bool} {x a : Int} {y : Int32} {d d' : yLD} (h : p ≤ n ∧ d.1 15 ≤ (p : Int)) (e : d'.1 15 = d.1 15) : y15 n (m, lv, x, a, y, d', ys_nx T n p) := y15_p h e (y15_nx h.1)
theorem yNu_j {T : Nat → Int} {n p : Nat} {lo hi : Int} {ok : Int → yL} {s' : yL} (h : yNu T n p lo hi ok = .inl s') : s' = ok (ys_vl T n p) := by
  unfold yNu at h
  split at h
  · split at h
    · exact (Sum.inl.inj h).symm
    · cases h
  · cases h
theorem yN_pl {T : Nat → Int} {n m p : Nat} {lv : List Bool} {s' : yM} (hp : p ≤ n) (h : yN T n (m, lv, p) = .inl s') : p ≤ s'.2.2 ∧ s'.2.2 ≤ n := by
  have b := y15_nx (T := T) hp
  unfold yN at h
  dsimp only at h
  repeat' split at h
  all_goals first | (cases h; exact b) | cases h
theorem yN_pr {T : Nat → Int} {n m p : Nat} {lv : List Bool} {r : Int × Nat} (hp : p ≤ n) (h : yN T n (m, lv, p) = .inr r) : p ≤ r.2 ∧ r.2 ≤ n := by
  have b := y15_nx (T := T) hp
  unfold yN at h
  dsimp only at h
  repeat' split at h
  all_goals first | (cases h; exact b) | (cases h; exact ⟨Nat.le_refl _, hp⟩) | cases h
theorem y15_y0 {T : Nat → Int} {n p : Nat} {d : yLD} {s' : yL} (h : p ≤ n ∧ d.1 15 ≤ (p : Int)) (hN : y0 T n d p = .inl s') : y15 n s' := by
  unfold y0 at hN
  by_cases h0 : ys_kd T n p = 0
  · rw [if_pos h0] at hN
    cases hN
  rw [if_neg h0] at hN
  by_cases h3 : ys_kd T n p ≠ 3
  · rw [if_pos h3] at hN
    cases hN
  rw [if_neg h3] at hN
  by_cases g12 : ys_vl T n p = 12
  · rw [if_pos g12] at hN
    by_cases k : d.1 0 ≠ 0
    · rw [if_pos k] at hN
      cases hN
      exact y15_n h rfl
    · rw [if_neg k] at hN
      cases hN
  rw [if_neg g12] at hN
  by_cases g13 : ys_vl T n p = 13
  · rw [if_pos g13] at hN
    by_cases k : d.1 3 < 20
    · rw [if_pos k] at hN
      cases hN
      exact y15_n h rfl
    · rw [if_neg k] at hN
      cases hN
  rw [if_neg g13] at hN
  by_cases g14 : ys_vl T n p = 14
  · rw [if_pos g14] at hN
    cases hN
    exact y15_n h rfl
  rw [if_neg g14] at hN
  by_cases g15 : ys_vl T n p = 15
  · rw [if_pos g15] at hN
    by_cases k : d.1 4 < 8
    · rw [if_pos k] at hN
      cases hN
      exact y15_n h rfl
    · rw [if_neg k] at hN
      cases hN
  rw [if_neg g15] at hN
  by_cases g16 : ys_vl T n p = 16
  · rw [if_pos g16] at hN
    by_cases k : d.1 5 < 5
    · rw [if_pos k] at hN
      cases hN
      exact y15_n h rfl
    · rw [if_neg k] at hN
      cases hN
  rw [if_neg g16] at hN
  by_cases g17 : ys_vl T n p = 17
  · rw [if_pos g17] at hN
    by_cases k : d.1 8 = 0
    · rw [if_pos k] at hN
      cases hN
      exact y15_n h rfl
    · rw [if_neg k] at hN
      cases hN
  rw [if_neg g17] at hN
  by_cases g18 : ys_vl T n p = 18
  · rw [if_pos g18] at hN
    by_cases k : d.1 9 = 0
    · rw [if_pos k] at hN
      cases hN
      exact y15_n h rfl
    · rw [if_neg k] at hN
      cases hN
  rw [if_neg g18] at hN
  by_cases g19 : ys_vl T n p = 19
  · rw [if_pos g19] at hN
    by_cases k : d.1 6 < 4
    · rw [if_pos k] at hN
      cases hN
      exact y15_n h rfl
    · rw [if_neg k] at hN
      cases hN
  rw [if_neg g19] at hN
  by_cases g20 : ys_vl T n p = 20
  · rw [if_pos g20] at hN
    by_cases k : d.1 7 < 8
    · rw [if_pos k] at hN
      cases hN
      exact y15_n h rfl
    · rw [if_neg k] at hN
      cases hN
  rw [if_neg g20] at hN
  cases hN
theorem y15_m0 {T : Nat → Int} {n p : Nat} {lv : List Bool} {x a : Int} {y : Int32} {d : yLD} {s' : yL} (h : p ≤ n ∧ d.1 15 ≤ (p : Int)) (hN : yN2 T n (0, lv, x, a, y, d, p) = .inl s') : y15 n s' := by
  rw [yN2_0] at hN
  exact y15_y0 h hN
theorem y15_m1 {T : Nat → Int} {n p : Nat} {lv : List Bool} {x a : Int} {y : Int32} {d : yLD} {s' : yL} (h : p ≤ n ∧ d.1 15 ≤ (p : Int)) (hN : yN2 T n (1, lv, x, a, y, d, p) = .inl s') : y15 n s' := by
  rw [yN2_1] at hN
  obtain rfl := yNu_j hN
  exact y15_n h rfl
theorem y15_m2 {T : Nat → Int} {n p : Nat} {lv : List Bool} {x a : Int} {y : Int32} {d : yLD} {s' : yL} (h : p ≤ n ∧ d.1 15 ≤ (p : Int)) (hN : yN2 T n (2, lv, x, a, y, d, p) = .inl s') : y15 n s' := by
  rw [yN2_2] at hN
  obtain rfl := yNu_j hN
  exact y15_n h rfl
theorem y15_m3 {T : Nat → Int} {n p : Nat} {lv : List Bool} {x a : Int} {y : Int32} {d : yLD} {s' : yL} (h : p ≤ n ∧ d.1 15 ≤ (p : Int)) (hN : yN2 T n (3, lv, x, a, y, d, p) = .inl s') : y15 n s' := by
  rw [yN2_3] at hN
  obtain rfl := yNu_j hN
  exact y15_n h rfl
theorem y15_m5 {T : Nat → Int} {n p : Nat} {lv : List Bool} {x a : Int} {y : Int32} {d : yLD} {s' : yL} (h : p ≤ n ∧ d.1 15 ≤ (p : Int)) (hN : yN2 T n (5, lv, x, a, y, d, p) = .inl s') : y15 n s' := by
  rw [yN2_5] at hN
  obtain rfl := yNu_j hN
  exact y15_n h rfl
theorem y15_m8 {T : Nat → Int} {n p : Nat} {lv : List Bool} {x a : Int} {y : Int32} {d : yLD} {s' : yL} (h : p ≤ n ∧ d.1 15 ≤ (p : Int)) (hN : yN2 T n (8, lv, x, a, y, d, p) = .inl s') : y15 n s' := by
  rw [yN2_8] at hN
  obtain rfl := yNu_j hN
  exact y15_n h rfl
theorem y15_m9 {T : Nat → Int} {n p : Nat} {lv : List Bool} {x a : Int} {y : Int32} {d : yLD} {s' : yL} (h : p ≤ n ∧ d.1 15 ≤ (p : Int)) (hN : yN2 T n (9, lv, x, a, y, d, p) = .inl s') : y15 n s' := by
  rw [yN2_9] at hN
  obtain rfl := yNu_j hN
  exact y15_n h rfl
theorem y15_m15 {T : Nat → Int} {n p : Nat} {lv : List Bool} {x a : Int} {y : Int32} {d : yLD} {s' : yL} (h : p ≤ n ∧ d.1 15 ≤ (p : Int)) (hN : yN2 T n (15, lv, x, a, y, d, p) = .inl s') : y15 n s' := by
  rw [yN2_15] at hN
  obtain rfl := yNu_j hN
  exact y15_n h rfl
theorem y15_m16 {T : Nat → Int} {n p : Nat} {lv : List Bool} {x a : Int} {y : Int32} {d : yLD} {s' : yL} (h : p ≤ n ∧ d.1 15 ≤ (p : Int)) (hN : yN2 T n (16, lv, x, a, y, d, p) = .inl s') : y15 n s' := by
  rw [yN2_16] at hN
  obtain rfl := yNu_j hN
  exact y15_n h rfl
theorem y15_m18 {T : Nat → Int} {n p : Nat} {lv : List Bool} {x a : Int} {y : Int32} {d : yLD} {s' : yL} (h : p ≤ n ∧ d.1 15 ≤ (p : Int)) (hN : yN2 T n (18, lv, x, a, y, d, p) = .inl s') : y15 n s' := by
  rw [yN2_18] at hN
  obtain rfl := yNu_j hN
  exact y15_n h (yW_n (by decide))
theorem y15_m19 {T : Nat → Int} {n p : Nat} {lv : List Bool} {x a : Int} {y : Int32} {d : yLD} {s' : yL} (h : p ≤ n ∧ d.1 15 ≤ (p : Int)) (hN : yN2 T n (19, lv, x, a, y, d, p) = .inl s') : y15 n s' := by
  rw [yN2_19] at hN
  obtain rfl := yNu_j hN
  exact y15_n h rfl
theorem y15_m20 {T : Nat → Int} {n p : Nat} {lv : List Bool} {x a : Int} {y : Int32} {d : yLD} {s' : yL} (h : p ≤ n ∧ d.1 15 ≤ (p : Int)) (hN : yN2 T n (20, lv, x, a, y, d, p) = .inl s') : y15 n s' := by
  rw [yN2_20] at hN
  obtain rfl := yNu_j hN
  exact y15_n h rfl
theorem y15_m21 {T : Nat → Int} {n p : Nat} {lv : List Bool} {x a : Int} {y : Int32} {d : yLD} {s' : yL} (h : p ≤ n ∧ d.1 15 ≤ (p : Int)) (hN : yN2 T n (21, lv, x, a, y, d, p) = .inl s') : y15 n s' := by
  rw [yN2_21] at hN
  obtain rfl := yNu_j hN
  exact y15_n h rfl
theorem y15_m17 {T : Nat → Int} {n p : Nat} {lv : List Bool} {x a : Int} {y : Int32} {d : yLD} {s' : yL} (h : p ≤ n ∧ d.1 15 ≤ (p : Int)) (hN : yN2 T n (17, lv, x, a, y, d, p) = .inl s') : y15 n s' := by
  rw [yN2_17] at hN
  obtain rfl := yNu_j hN
  exact y15_n h ((yW_n (by decide)).trans (yW_n (by decide)))
theorem y15_m4 {T : Nat → Int} {n p : Nat} {lv : List Bool} {x a : Int} {y : Int32} {d : yLD} {s' : yL} (h : p ≤ n ∧ d.1 15 ≤ (p : Int)) (hN : yN2 T n (4, lv, x, a, y, d, p) = .inl s') : y15 n s' := by
  rw [yN2_4] at hN
  cases g : yNu T n p 0 (d.1 2 - 1) (fun v => (50, [], d.1 1 * v + x, 0, 0, d, ys_nx T n p)) with
  | inr r => rw [g] at hN; cases hN
  | inl t =>
    rw [g] at hN
    have e := yNu_j g
    dsimp only at hN
    split at hN
    · cases hN
      exact y15_n h rfl
    · cases hN
theorem y15_m6 {T : Nat → Int} {n p : Nat} {lv : List Bool} {x a : Int} {y : Int32} {d : yLD} {s' : yL} (h : p ≤ n ∧ d.1 15 ≤ (p : Int)) (hN : yN2 T n (6, lv, x, a, y, d, p) = .inl s') : y15 n s' := by
  rw [yN2_6] at hN
  cases g : yNu T n p 0 (d.1 2 - 1) (fun v => (7, [], d.1 1 * v + x, 0, 0, d, ys_nx T n p)) with
  | inr r => rw [g] at hN; cases hN
  | inl t =>
    rw [g] at hN
    have e := yNu_j g
    dsimp only at hN
    split at hN
    · cases hN
    · cases hN
      rw [e]
      exact y15_n h rfl
theorem y15_m7 {T : Nat → Int} {n p : Nat} {lv : List Bool} {x a : Int} {y : Int32} {d : yLD} {s' : yL} (h : p ≤ n ∧ d.1 15 ≤ (p : Int)) (hN : yN2 T n (7, lv, x, a, y, d, p) = .inl s') : y15 n s' := by
  rw [yN2_7] at hN
  split at hN
  · cases hN
    exact y15_n h (y15_U (by omega))
  · cases hN
theorem y15_m10 {T : Nat → Int} {n p : Nat} {lv : List Bool} {x a : Int} {y : Int32} {d : yLD} {s' : yL} (h : p ≤ n ∧ d.1 15 ≤ (p : Int)) (hN : yN2 T n (10, lv, x, a, y, d, p) = .inl s') : y15 n s' := by
  rw [yN2_10] at hN
  obtain rfl := yNu_j hN
  exact y15_n h ((yW_n (by omega)).trans ((yW_n (by omega)).trans ((yW_n (by omega)).trans (yW_n (by omega)))))
theorem y15_m11 {T : Nat → Int} {n p : Nat} {lv : List Bool} {x a : Int} {y : Int32} {d : yLD} {s' : yL} (h : p ≤ n ∧ d.1 15 ≤ (p : Int)) (hN : yN2 T n (11, lv, x, a, y, d, p) = .inl s') : y15 n s' := by
  rw [yN2_11] at hN
  split at hN
  · split at hN
    · cases hN
    · cases hN
      exact y15_n h rfl
  · cases hN
    exact y15_p h rfl ⟨Nat.le_refl _, h.1⟩
theorem y15_m12 {T : Nat → Int} {n p : Nat} {lv : List Bool} {x a : Int} {y : Int32} {d : yLD} {s' : yL} (h : p ≤ n ∧ d.1 15 ≤ (p : Int)) (hN : yN2 T n (12, lv, x, a, y, d, p) = .inl s') : y15 n s' := by
  rw [yN2_12] at hN
  obtain rfl := yNu_j hN
  exact y15_n h ((yW_n (by omega)).trans ((yW_n (by omega)).trans (yW_n (by omega))))
theorem y15_m13 {T : Nat → Int} {n p : Nat} {lv : List Bool} {x a : Int} {y : Int32} {d : yLD} {s' : yL} (h : p ≤ n ∧ d.1 15 ≤ (p : Int)) (hN : yN2 T n (13, lv, x, a, y, d, p) = .inl s') : y15 n s' := by
  rw [yN2_13] at hN
  split at hN
  · obtain rfl := yNu_j hN
    exact y15_n h (yW_n (by omega))
  · obtain rfl := yNu_j hN
    exact y15_n h (show (yWha d (ys_vl T n p)).1 15 = d.1 15 from (y15_U (f := (yW d (500 + (4 * (d.1 5).toNat + 3)) (ys_vl T n p)).1) (k := 5) (j := 15) (v := (yW d (500 + (4 * (d.1 5).toNat + 3)) (ys_vl T n p)).1 5 + 1) (by decide)).trans (yW_n (by omega)))
theorem y15_m22 {T : Nat → Int} {n p : Nat} {lv : List Bool} {x a : Int} {y : Int32} {d : yLD} {s' : yL} (h : p ≤ n ∧ d.1 15 ≤ (p : Int)) (hN : yN2 T n (22, lv, x, a, y, d, p) = .inl s') : y15 n s' := by
  rw [yN2_22] at hN
  split at hN
  · split at hN
    · cases hN
    · split at hN
      · cases hN
      · split at hN
        · cases hN
        · cases hN
          exact y15_n h rfl
  · cases hN
    exact y15_p h ((yW_n (by omega)).trans ((yW_n (by omega)).trans (yW_n (by omega)))) ⟨Nat.le_refl _, h.1⟩
theorem y15_m40 {T : Nat → Int} {n p : Nat} {lv : List Bool} {x a : Int} {y : Int32} {d : yLD} {s' : yL} (h : p ≤ n ∧ d.1 15 ≤ (p : Int)) (hN : yN2 T n (40, lv, x, a, y, d, p) = .inl s') : y15 n s' := by
  rw [yN2_40] at hN
  have b := y15_nx (T := T) h.1
  split at hN
  · cases hN
    exact ⟨b.2, Int.le_refl _⟩
  · cases hN
theorem y15_m41 {T : Nat → Int} {n p : Nat} {lv : List Bool} {x a : Int} {y : Int32} {d : yLD} {s' : yL} (h : p ≤ n ∧ d.1 15 ≤ (p : Int)) (hN : yN2 T n (41, lv, x, a, y, d, p) = .inl s') : y15 n s' := by
  rw [yN2_41] at hN
  split at hN
  · cases hN
    exact y15_n h (yW_n (by omega))
  · cases hN
theorem y15_s {T : Nat → Int} {n : Nat} {s s' : yL} (h : y15 n s) (hN : yN2 T n s = .inl s') : y15 n s' := by
  obtain ⟨m, lv, x, a, y, d, p⟩ := s
  have h : p ≤ n ∧ d.1 15 ≤ (p : Int) := h
  by_cases hm : 100 ≤ m
  · have hN : (match yN T n (m - 100, lv, p) with
    | .inl m => (.inl (100 + m.1, m.2.1, 0, 0, 0, d, m.2.2) : yL ⊕ (Int × Nat))
    | .inr r => if r.1 = 0 then .inl (40, [], 0, 0, 0, d, r.2) else .inr r) = .inl s' := by
      rw [← hN]
      unfold yN2
      exact (if_pos hm).symm
    cases g : yN T n (m - 100, lv, p) with
    | inl t =>
      rw [g] at hN
      cases hN
      exact y15_p h rfl (yN_pl h.1 g)
    | inr r =>
      rw [g] at hN
      dsimp only at hN
      split at hN
      · cases hN
        exact y15_p h rfl (yN_pr h.1 g)
      · cases hN
  by_cases k0 : m = 0
  · subst k0
    exact y15_m0 h hN
  by_cases k1 : m = 1
  · subst k1
    exact y15_m1 h hN
  by_cases k2 : m = 2
  · subst k2
    exact y15_m2 h hN
  by_cases k3 : m = 3
  · subst k3
    exact y15_m3 h hN
  by_cases k4 : m = 4
  · subst k4
    exact y15_m4 h hN
  by_cases k5 : m = 5
  · subst k5
    exact y15_m5 h hN
  by_cases k6 : m = 6
  · subst k6
    exact y15_m6 h hN
  by_cases k7 : m = 7
  · subst k7
    exact y15_m7 h hN
  by_cases k8 : m = 8
  · subst k8
    exact y15_m8 h hN
  by_cases k9 : m = 9
  · subst k9
    exact y15_m9 h hN
  by_cases k10 : m = 10
  · subst k10
    exact y15_m10 h hN
  by_cases k11 : m = 11
  · subst k11
    exact y15_m11 h hN
  by_cases k12 : m = 12
  · subst k12
    exact y15_m12 h hN
  by_cases k13 : m = 13
  · subst k13
    exact y15_m13 h hN
  by_cases k15 : m = 15
  · subst k15
    exact y15_m15 h hN
  by_cases k16 : m = 16
  · subst k16
    exact y15_m16 h hN
  by_cases k17 : m = 17
  · subst k17
    exact y15_m17 h hN
  by_cases k18 : m = 18
  · subst k18
    exact y15_m18 h hN
  by_cases k19 : m = 19
  · subst k19
    exact y15_m19 h hN
  by_cases k20 : m = 20
  · subst k20
    exact y15_m20 h hN
  by_cases k21 : m = 21
  · subst k21
    exact y15_m21 h hN
  by_cases k22 : m = 22
  · subst k22
    exact y15_m22 h hN
  by_cases k40 : m = 40
  · subst k40
    exact y15_m40 h hN
  by_cases k41 : m = 41
  · subst k41
    exact y15_m41 h hN
  have e : yN2 T n (m, lv, x, a, y, d, p) = (if ys_kd T n p = 4 ∧ ys_vl T n p = 59 then .inl (0, [], 0, 0, 0, (yU d.1 0 0, d.2), ys_nx T n p) else .inr (1, p)) := by
    unfold yN2
    rw [if_neg hm, if_neg k0, if_neg k1, if_neg k2, if_neg k3, if_neg k4, if_neg k5, if_neg k6, if_neg k7, if_neg k8, if_neg k9, if_neg k10, if_neg k11, if_neg k12, if_neg k13, if_neg k15, if_neg k16, if_neg k17, if_neg k18, if_neg k19, if_neg k20, if_neg k21, if_neg k22, if_neg k40, if_neg k41]
  rw [e] at hN
  split at hN
  · cases hN
    exact y15_n h rfl
  · cases hN
theorem y15_it {T : Nat → Int} {n : Nat} {t : yL} : ∀ (f : Nat) (s : yL), y15 n s → yIt T n f s = some t → y15 n t
  | 0, s, h, e => by
    have e : s = t := Option.some.inj e
    rw [← e]
    exact h
  | f + 1, s, h, e => by
    have e : (match yN2 T n s with
      | .inr _ => none
      | .inl s' => yIt T n f s') = some t := e
    cases hN : yN2 T n s with
    | inr r =>
      rw [hN] at e
      cases e
    | inl s' =>
      rw [hN] at e
      exact y15_it f s' (y15_s h hN) e
theorem y15_R {T : Nat → Int} {n q : Nat} {d : yLD} {s0 : yL} (h0 : y15 n s0) (h : yR2 T n s0 (0, [], 0, 0, 0, d, q)) : d.1 15 ≤ (q : Int) := by
  obtain ⟨f, hf⟩ := h (.inr (0, [], 0, 0, 0, d, q)) ⟨0, rfl⟩
  exact (y15_it f s0 h0 hf).2
