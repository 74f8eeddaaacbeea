/-! ===== the abstract executor: the heap ===== -/
/-- what is asked of the world's parameters: J looks at the frozen places alone, the ghost at its own -/
def zk_W (B : zk_B) (gh : zp_H → Int) (J : zp_H → Prop) (fz : Nat → Nat → Bool) : Prop :=
  (∀ H H' : zp_H, H'.1 = H.1 → (∀ p k, fz p k = true → H'.2.1 p k = H.2.1 p k ∧ H'.2.2.1 p k = H.2.2.1 p k) → J H → J H') ∧
  (∀ H H' : zp_H, (∀ p k, B.2.2.2.2.2 p k = true → H'.2.1 p k = H.2.1 p k ∧ H'.2.2.1 p k = H.2.2.1 p k) → gh H' = gh H) ∧
  (∀ H r, B.2.2.1 72 100 = some r → zk_in (gh H) r) ∧
  (∀ p k r, B.2.2.1 p k = some r → ∃ ci, B.1[p]? = some (.inl ci)) ∧
  (∀ c ∈ B.2.2.2.2.1, (∃ ci, B.1[c.1]? = some (.inl ci)) ∧ c.2.1 ≠ 100 ∧ c.2.2.2.1 ≠ 100) ∧
  (∀ p k, B.2.2.2.2.2 p k = true → ∃ ci, B.1[p]? = some (.inl ci)) ∧
  (∀ (p k t n : Nat), B.1[p]? = some (.inr (t, n)) → fz p k = fz p 0) ∧
  (∃ ci, B.1[72]? = some (.inl ci))
def zk_Rh (B : zk_B) (gh : zp_H → Int) (J : zp_H → Prop) (τ : Nat → Int) (A : zk_A) (H : zp_H) (z : Int) (q : zk_A × zk_I) : Prop := ∃ τ', zk_ext A.1 τ τ' ∧ A.1 ≤ q.1.1 ∧ zk_N τ' q.1 ∧ zk_Hp B gh J τ' q.1 H ∧ q.2.1 ≤ q.1.1 ∧ z = zk_ev τ' q.2
def zk_og : List (Nat × Nat × Bool × zk_I) → Nat → Nat → Option zk_I
  | [], _, _ => none
  | q :: l, p, k => bif (Nat.beq q.1 p).and (Nat.beq q.2.1 k) then some q.2.2.2 else zk_og l p k
def zk_dty (ov : List (Nat × Nat × Bool × zk_I)) (p k v : Nat) : Bool := ov.any (fun q => (Nat.beq q.1 p).and (q.2.2.1.and ((Nat.beq q.2.1 k).or (Nat.beq q.2.1 v))))
theorem zk_og_m {p k : Nat} {a : zk_I} : ∀ {l : List (Nat × Nat × Bool × zk_I)}, zk_og l p k = some a → ∃ q ∈ l, q.1 = p ∧ q.2.1 = k ∧ q.2.2.2 = a
  | [], h => by cases h
  | q :: l, h => by
    unfold zk_og at h
    cases hb : (Nat.beq q.1 p).and (Nat.beq q.2.1 k) with
    | true =>
      rw [hb] at h
      obtain ⟨h1, h2⟩ := Bool.and_eq_true_iff.mp hb
      cases h
      exact ⟨q, List.mem_cons_self, za_beq h1, za_beq h2, rfl⟩
    | false =>
      rw [hb] at h
      obtain ⟨q9, h1, h2⟩ := zk_og_m h
      exact ⟨q9, List.mem_cons_of_mem _ h1, h2⟩
theorem zk_og_n {p k : Nat} : ∀ {l : List (Nat × Nat × Bool × zk_I)}, zk_og l p k = none → ∀ q ∈ l, ¬ (q.1 = p ∧ q.2.1 = k)
  | [], _, q, hq => absurd hq List.not_mem_nil
  | x :: l, h, q, hq => by
    unfold zk_og at h
    cases hb : (Nat.beq x.1 p).and (Nat.beq x.2.1 k) with
    | true => rw [hb] at h; cases h
    | false =>
      rw [hb] at h
      rcases List.mem_cons.mp hq with rfl | hq
      · rintro ⟨rfl, rfl⟩
        rw [Nat.beq_refl, Nat.beq_refl] at hb
        cases hb
      · exact zk_og_n h q hq
theorem zk_dty_f {ov : List (Nat × Nat × Bool × zk_I)} {p k v : Nat} (h : zk_dty ov p k v = false) : ¬ ∃ q ∈ ov, q.1 = p ∧ (q.2.1 = k ∨ q.2.1 = v) ∧ q.2.2.1 = true := by
  rintro ⟨q, h1, rfl, h3, h4⟩
  have h9 : zk_dty ov q.1 k v = true := List.any_eq_true.mpr ⟨q, h1, by
    rw [h4, Nat.beq_refl]
    rcases h3 with rfl | rfl
    · rw [Nat.beq_refl]; rfl
    · rw [Nat.beq_refl]; simp⟩
  rw [h9] at h
  cases h
section KH
variable {B : zk_B} {gh : zp_H → Int} {J : zp_H → Prop} {fz : Nat → Nat → Bool} {τ : Nat → Int} {A : zk_A} {H : zp_H} {z : Int} {a b r : zk_I} {x y : Int32} {q : zk_A × zk_I} {p k : Nat}
theorem zk_Rs_h (hH : zk_Hp B gh J τ A H) (h : zk_Rs τ A z q) : zk_Rh B gh J τ A H z q := by
  obtain ⟨τ', h1, h2, h3, h4, h5, h6, h7⟩ := h
  exact ⟨τ', h1, h2, h3, zk_Hp_x h2 h4 h5 h1 hH, h6, h7⟩
/-- the conditions that tell of this field -/
def zk_cn (A : zk_A) (p k : Nat) : List (Nat × Nat × Int × Nat × Int × Int) → Int × Int → Int × Int
  | [], r => r
  | c :: l, r => zk_cn A p k l (bif (Nat.beq c.1 p).and (Nat.beq c.2.2.2.1 k) then bif zk_dty A.2.2.1 p c.2.1 k then r else match zk_og A.2.2.1 p c.2.1 with
      | some a => match zk_rg A a with
        | some (lo, hi) => bif (za_ieq lo c.2.2.1).and (za_ieq hi c.2.2.1) then (zk_max r.1 c.2.2.2.2.1, zk_min r.2 c.2.2.2.2.2) else r
        | none => r
      | none => r else r)
theorem zk_cn_ok (hN : zk_N τ A) (hH : zk_Hp B gh J τ A H) : ∀ {l : List (Nat × Nat × Int × Nat × Int × Int)} {r : Int × Int}, (∀ c ∈ l, c ∈ B.2.2.2.2.1) → zk_in (zk_fv gh H p k) r → zk_in (zk_fv gh H p k) (zk_cn A p k l r)
  | [], _, _, h => h
  | c :: l, r, hl, h => by
    unfold zk_cn
    refine zk_cn_ok hN hH (fun c' h' => hl c' (List.mem_cons_of_mem _ h')) ?_
    cases h1 : (Nat.beq c.1 p).and (Nat.beq c.2.2.2.1 k) with
    | false => exact h
    | true =>
      obtain ⟨e1, e2⟩ := Bool.and_eq_true_iff.mp h1
      have e1 := za_beq e1
      have e2 := za_beq e2
      simp only [cond_true]
      cases h2 : zk_dty A.2.2.1 p c.2.1 k with
      | true => exact h
      | false =>
        simp only [cond_false]
        split
        · rename_i a ha
          split
          · rename_i lo hi hr
            cases h3 : (za_ieq lo c.2.2.1).and (za_ieq hi c.2.2.1) with
            | false => exact h
            | true =>
              obtain ⟨f1, f2⟩ := Bool.and_eq_true_iff.mp h3
              have f1 := za_ieq_t f1
              have f2 := za_ieq_t f2
              obtain ⟨q, q1, q2, q3, q4⟩ := zk_og_m ha
              have g1 := (hH.2.2.1 q q1).2
              have g2 := zk_rg_ok hN hr
              unfold zk_in at g2
              dsimp only at g2
              rw [q2, q3, q4] at g1
              rcases hH.2.2.2.2.2.2.1 c (hl c List.mem_cons_self) with g3 | g3
              · rw [e1, e2] at g3
                exact absurd g3 (zk_dty_f h2)
              · rw [e1, e2] at g3
                have g4 := g3 (by omega)
                exact ⟨zk_max_le h.1 g4.1, zk_le_min h.2 g4.2⟩
          · exact h
        · exact h
def zk_addo (q : zk_A × zk_I) (p k : Nat) : zk_A × zk_I := ((q.1.1, q.1.2.1, (p, k, false, q.2) :: q.1.2.2.1, q.1.2.2.2), q.2)
theorem zk_addo_ok (h : zk_Rh B gh J τ A H (zk_fv gh H p k) q) : zk_Rh B gh J τ A H (zk_fv gh H p k) (zk_addo q p k) := by
  obtain ⟨τ', h1, h2, h3, h4, h5, h6⟩ := h
  refine ⟨τ', h1, h2, h3, ?_, h5, h6⟩
  obtain ⟨g1, g2, g3, g4, g5, g6, g7, g8⟩ := h4
  refine ⟨g1, g2, fun e he => ?_, g4, fun p' k' r' h' => ?_, g6, fun c hc => ?_, g8⟩
  · rcases List.mem_cons.mp he with rfl | he
    · exact ⟨h5, h6⟩
    · exact g3 e he
  · rcases g5 p' k' r' h' with ⟨e, he, h9⟩ | h9
    · exact Or.inl ⟨e, List.mem_cons_of_mem _ he, h9⟩
    · exact Or.inr h9
  · rcases g7 c hc with ⟨e, he, h9⟩ | h9
    · exact Or.inl ⟨e, List.mem_cons_of_mem _ he, h9⟩
    · exact Or.inr h9
/-- a field's number -/
def zk_getf (B : zk_B) (A : zk_A) (p k : Nat) : Option (zk_A × zk_I) := match zk_og A.2.2.1 p k with
  | some a => some (A, a)
  | none => match B.2.2.1 p k with
    | some r => match zk_cn A p k B.2.2.2.2.1 r with
      | (lo, hi) => some (zk_addo (zk_fresh A lo hi 1) p k)
    | none => bif (Nat.beq p 72).and (Nat.beq k 100) then none else some (zk_addo (zk_full A) p k)
theorem zk_getf_ok (hN : zk_N τ A) (hH : zk_Hp B gh J τ A H) (h : zk_getf B A p k = some q) : zk_Rh B gh J τ A H (zk_fv gh H p k) q := by
  unfold zk_getf at h
  split at h
  · rename_i a ha
    cases h
    obtain ⟨e, e1, e2, e3, e4⟩ := zk_og_m ha
    obtain ⟨g1, g2⟩ := hH.2.2.1 e e1
    rw [e2, e3, e4] at g2
    rw [e4] at g1
    exact ⟨τ, zk_ext_r τ, Nat.le_refl _, hN, hH, g1, g2⟩
  · rename_i ho
    split at h
    · rename_i r hr
      generalize hq : zk_cn A p k B.2.2.2.2.1 r = r' at h
      obtain ⟨lo, hi⟩ := r'
      cases h
      have h1 : zk_in (zk_fv gh H p k) r := by
        rcases hH.2.2.2.2.1 p k r hr with ⟨e, he, h9⟩ | h9
        · exact absurd h9 (zk_og_n ho e he)
        · exact h9
      have h2 := zk_cn_ok hN hH (fun c hc => hc) h1
      rw [hq] at h2
      exact zk_addo_ok (zk_Rs_h hH (zk_fresh_ok hN h2.1 h2.2 (Int.one_dvd _)))
    · cases hg : (Nat.beq p 72).and (Nat.beq k 100) with
      | true => rw [hg] at h; cases h
      | false =>
        rw [hg] at h
        cases h
        have e : zk_fv gh H p k = (H.2.1 p k).toInt := by
          unfold zk_fv
          rw [if_neg]
          rintro ⟨rfl, rfl⟩
          cases hg
        rw [e]
        refine e ▸ zk_addo_ok (zk_Rs_h hH ?_)
        rw [e]
        exact zk_full_ok hN _
end KH
