/-! ===== what a branch tells ===== -/
def zk_Cut (τ : Nat → Int) (A : zk_A) (o : Option zk_A) : Prop := ∃ A', o = some A' ∧ zk_N τ A' ∧ A'.1 = A.1 ∧ A'.2.2 = A.2.2
section KC
variable {τ : Nat → Int} {A : zk_A} {a b r : zk_I}
theorem zk_Cut_s (hN : zk_N τ A) : zk_Cut τ A (some A) := ⟨A, rfl, hN, rfl, rfl⟩
theorem zk_Cut_b {o : Option zk_A} {f : zk_A → Option zk_A} (h : zk_Cut τ A o) (hf : ∀ A', zk_N τ A' → A'.1 = A.1 → A'.2.2 = A.2.2 → zk_Cut τ A' (f A')) : zk_Cut τ A (o.bind f) := by
  obtain ⟨A', rfl, h2, h3, h4⟩ := h
  obtain ⟨A'', g1, g2, g3, g4⟩ := hf A' h2 h3 h4
  exact ⟨A'', g1, g2, g3.trans h3, g4.trans h4⟩
def zk_max (a b : Int) : Int := bif za_ile a b then b else a
def zk_min (a b : Int) : Int := bif za_ile a b then a else b
theorem zk_max_le {a b c : Int} (h1 : a ≤ c) (h2 : b ≤ c) : zk_max a b ≤ c := by
  unfold zk_max
  cases za_ile a b with
  | true => exact h2
  | false => exact h1
theorem zk_le_min {a b c : Int} (h1 : c ≤ a) (h2 : c ≤ b) : c ≤ zk_min a b := by
  unfold zk_min
  cases za_ile a b with
  | true => exact h1
  | false => exact h2
/-- a lies in lo .. hi; none: it can't -/
def zk_nar (A : zk_A) (a : zk_I) (lo hi : Int) : Option zk_A := match a.1 with
  | 0 => bif za_ile lo a.2 then bif za_ile a.2 hi then some A else none else none
  | j + 1 => match zk_lk A.2.1 j with
    | none => some A
    | some e =>
      bif (za_ile (lo - a.2) e.1).and (za_ile e.2.1 (hi - a.2)) then some A else
      match zk_max e.1 (lo - a.2), zk_min e.2.1 (hi - a.2) with
      | l, h => match bif e.2.2.1.and (za_ieq l 0) then 1 else l, bif e.2.2.1.and (za_ieq h 0) then -1 else h with
        | l', h' => bif za_ile l' h' then some (A.1, (j, (l', h', e.2.2)) :: A.2.1, A.2.2) else none
theorem zk_nar_ok {lo hi : Int} (hN : zk_N τ A) (h1 : lo ≤ zk_ev τ a) (h2 : zk_ev τ a ≤ hi) : zk_Cut τ A (zk_nar A a lo hi) := by
  obtain ⟨k, c⟩ := a
  unfold zk_nar
  cases k with
  | zero =>
    have h1 : lo ≤ c := h1
    have h2 : c ≤ hi := h2
    show zk_Cut τ A (bif za_ile lo c then bif za_ile c hi then some A else none else none)
    rw [za_ile_i.mpr h1, za_ile_i.mpr h2]
    exact zk_Cut_s hN
  | succ j =>
    have h1 : lo ≤ τ j + c := h1
    have h2 : τ j + c ≤ hi := h2
    dsimp only
    split
    · exact zk_Cut_s hN
    · rename_i e he
      obtain ⟨g0, g1, g2, g3, g4⟩ := hN.1 _ (zk_lk_m he)
      have g0 : j < A.1 := g0
      have g1 : e.1 ≤ τ j := g1
      have g2 : τ j ≤ e.2.1 := g2
      have g3 : e.2.2.1 = true → τ j ≠ 0 := g3
      have g4 : (e.2.2.2 : Int) ∣ τ j := g4
      cases (za_ile (lo - c) e.1).and (za_ile e.2.1 (hi - c)) with
      | true => exact zk_Cut_s hN
      | false =>
        simp only [cond_false]
        have m1 : zk_max e.1 (lo - c) ≤ τ j := zk_max_le g1 (by omega)
        have m2 : τ j ≤ zk_min e.2.1 (hi - c) := zk_le_min g2 (by omega)
        generalize zk_max e.1 (lo - c) = l at m1 ⊢
        generalize zk_min e.2.1 (hi - c) = h at m2 ⊢
        have n1 : (bif e.2.2.1.and (za_ieq l 0) then 1 else l) ≤ τ j := by
          cases d : e.2.2.1.and (za_ieq l 0) with
          | false => exact m1
          | true =>
            obtain ⟨d1, d2⟩ := Bool.and_eq_true_iff.mp d
            have d2 := za_ieq_t d2
            have d1 := g3 d1
            show 1 ≤ τ j
            omega
        have n2 : τ j ≤ (bif e.2.2.1.and (za_ieq h 0) then -1 else h) := by
          cases d : e.2.2.1.and (za_ieq h 0) with
          | false => exact m2
          | true =>
            obtain ⟨d1, d2⟩ := Bool.and_eq_true_iff.mp d
            have d2 := za_ieq_t d2
            have d1 := g3 d1
            show τ j ≤ -1
            omega
        generalize (bif e.2.2.1.and (za_ieq l 0) then 1 else l) = l' at n1 ⊢
        generalize (bif e.2.2.1.and (za_ieq h 0) then -1 else h) = h' at n2 ⊢
        rw [za_ile_i.mpr (show l' ≤ h' by omega)]
        refine ⟨_, rfl, ⟨fun q hq => ?_, hN.2⟩, rfl, rfl⟩
        rcases List.mem_cons.mp hq with rfl | hq
        · exact ⟨g0, n1, n2, g3, g4⟩
        · exact hN.1 q hq
/-- a sum tells of its parts -/
def zk_pr1 (q : Nat × zk_I × zk_I × zk_I) (A : zk_A) : Option zk_A := match q with
  | (0, a, b, r) => match zk_rg A a, zk_rg A b with
    | some (la, ha), some (lb, hb) => (zk_nar A r (la + lb) (ha + hb)).bind fun A => match zk_rg A r with
      | some (lr, hr) => (zk_nar A a (lr - hb) (hr - lb)).bind fun A => zk_nar A b (lr - ha) (hr - la)
      | none => some A
    | _, _ => some A
  | (1, a, b, r) => match zk_rg A a, zk_rg A b with
    | some (la, ha), some (lb, hb) => (zk_nar A r (la - hb) (ha - lb)).bind fun A => match zk_rg A r with
      | some (lr, hr) => (zk_nar A a (lr + lb) (hr + hb)).bind fun A => zk_nar A b (la - hr) (ha - lr)
      | none => some A
    | _, _ => some A
  | _ => some A
theorem zk_pr1_ok {q : Nat × zk_I × zk_I × zk_I} (hN : zk_N τ A) (hq : zk_mo τ q) : zk_Cut τ A (zk_pr1 q A) := by
  unfold zk_pr1
  split
  · rename_i a b r
    have hq : zk_ev τ r = zk_ev τ a + zk_ev τ b := hq.1
    split
    · rename_i la ha lb hb g1 g2
      have r1 := zk_rg_ok hN g1
      have r2 := zk_rg_ok hN g2
      unfold zk_in at r1 r2
      dsimp only at r1 r2
      refine zk_Cut_b (zk_nar_ok hN (by omega) (by omega)) (fun A' n1 _ _ => ?_)
      split
      · rename_i lr hr g3
        have r3 := zk_rg_ok n1 g3
        unfold zk_in at r3
        dsimp only at r3
        exact zk_Cut_b (zk_nar_ok n1 (by omega) (by omega)) (fun A'' n2 _ _ => zk_nar_ok n2 (by omega) (by omega))
      · exact zk_Cut_s n1
    · exact zk_Cut_s hN
  · rename_i a b r
    have hq : zk_ev τ r = zk_ev τ a - zk_ev τ b := hq.1
    split
    · rename_i la ha lb hb g1 g2
      have r1 := zk_rg_ok hN g1
      have r2 := zk_rg_ok hN g2
      unfold zk_in at r1 r2
      dsimp only at r1 r2
      refine zk_Cut_b (zk_nar_ok hN (by omega) (by omega)) (fun A' n1 _ _ => ?_)
      split
      · rename_i lr hr g3
        have r3 := zk_rg_ok n1 g3
        unfold zk_in at r3
        dsimp only at r3
        exact zk_Cut_b (zk_nar_ok n1 (by omega) (by omega)) (fun A'' n2 _ _ => zk_nar_ok n2 (by omega) (by omega))
      · exact zk_Cut_s n1
    · exact zk_Cut_s hN
  · exact zk_Cut_s hN
def zk_prl : List (Nat × zk_I × zk_I × zk_I) → zk_A → Option zk_A
  | [], A => some A
  | q :: l, A => (zk_pr1 q A).bind fun A => zk_prl l A
theorem zk_prl_ok : ∀ {l : List (Nat × zk_I × zk_I × zk_I)} {A : zk_A}, zk_N τ A → (∀ q ∈ l, zk_mo τ q) → zk_Cut τ A (zk_prl l A)
  | [], _, hN, _ => zk_Cut_s hN
  | q :: l, _, hN, hq => zk_Cut_b (zk_pr1_ok hN (hq q List.mem_cons_self)) (fun _ n1 _ _ => zk_prl_ok n1 (fun q' h' => hq q' (List.mem_cons_of_mem _ h')))
def zk_prop (A : zk_A) : Option zk_A := zk_prl A.2.2.2.2 A
theorem zk_prop_ok (hN : zk_N τ A) : zk_Cut τ A (zk_prop A) := zk_prl_ok hN (fun q hq => (hN.2 q hq).2.2.2)
/-- a < b, or a ≤ b (e = 0) -/
def zk_lt (e : Int) (A : zk_A) (a b : zk_I) : Option zk_A := bif Nat.beq a.1 b.1 then bif za_ile (a.2 + e) b.2 then some A else none else match zk_rg A a, zk_rg A b with
  | some (la, _), some (_, hb) => ((zk_nar A a la (hb - e)).bind fun A => zk_nar A b (la + e) hb).bind zk_prop
  | _, _ => some A
theorem zk_lt_ok {e : Int} (hN : zk_N τ A) (h : zk_ev τ a + e ≤ zk_ev τ b) : zk_Cut τ A (zk_lt e A a b) := by
  unfold zk_lt
  cases c : Nat.beq a.1 b.1 with
  | true =>
    have h1 := zk_ev_d (τ := τ) c
    show zk_Cut τ A (bif za_ile (a.2 + e) b.2 then some A else none)
    rw [za_ile_i.mpr (show a.2 + e ≤ b.2 by omega)]
    exact zk_Cut_s hN
  | false =>
    simp only [cond_false]
    split
    · rename_i la ha lb hb g1 g2
      have r1 := zk_rg_ok hN g1
      have r2 := zk_rg_ok hN g2
      unfold zk_in at r1 r2
      dsimp only at r1 r2
      exact zk_Cut_b (zk_Cut_b (zk_nar_ok hN (by omega) (by omega)) (fun A' n1 _ _ => zk_nar_ok n1 (by omega) (by omega))) (fun A' n1 _ _ => zk_prop_ok n1)
    · exact zk_Cut_s hN
def zk_eq (A : zk_A) (a b : zk_I) : Option zk_A := bif Nat.beq a.1 b.1 then bif za_ieq a.2 b.2 then some A else none else match zk_rg A a, zk_rg A b with
  | some (la, ha), some (lb, hb) => ((zk_nar A a lb hb).bind fun A => zk_nar A b la ha).bind zk_prop
  | _, _ => some A
theorem zk_ieq_r (a : Int) : za_ieq a a = true := by
  cases h : za_ieq a a with
  | true => rfl
  | false => exact absurd rfl (za_ieq_f h)
theorem zk_eq_ok (hN : zk_N τ A) (h : zk_ev τ a = zk_ev τ b) : zk_Cut τ A (zk_eq A a b) := by
  unfold zk_eq
  cases c : Nat.beq a.1 b.1 with
  | true =>
    have h1 := zk_ev_d (τ := τ) c
    show zk_Cut τ A (bif za_ieq a.2 b.2 then some A else none)
    rw [show a.2 = b.2 by omega, zk_ieq_r]
    exact zk_Cut_s hN
  | false =>
    simp only [cond_false]
    split
    · rename_i la ha lb hb g1 g2
      have r1 := zk_rg_ok hN g1
      have r2 := zk_rg_ok hN g2
      unfold zk_in at r1 r2
      dsimp only at r1 r2
      exact zk_Cut_b (zk_Cut_b (zk_nar_ok hN (by omega) (by omega)) (fun A' n1 _ _ => zk_nar_ok n1 (by omega) (by omega))) (fun A' n1 _ _ => zk_prop_ok n1)
    · exact zk_Cut_s hN
/-- a isn't the number c -/
def zk_nec (A : zk_A) (a : zk_I) (c : Int) : Option zk_A := match zk_rg A a with
  | some (la, ha) => bif za_ieq la c then (zk_nar A a (la + 1) ha).bind zk_prop else bif za_ieq ha c then (zk_nar A a la (ha - 1)).bind zk_prop else match a.1 with
    | 0 => some A
    | j + 1 => bif za_ieq a.2 c then match zk_lk A.2.1 j with
      | some e => some (A.1, (j, (e.1, e.2.1, true, e.2.2.2)) :: A.2.1, A.2.2)
      | none => some A
      else some A
  | none => some A
theorem zk_nec_ok {c : Int} (hN : zk_N τ A) (h : zk_ev τ a ≠ c) : zk_Cut τ A (zk_nec A a c) := by
  unfold zk_nec
  split
  · rename_i la ha g1
    have r1 := zk_rg_ok hN g1
    unfold zk_in at r1
    dsimp only at r1
    cases c1 : za_ieq la c with
    | true =>
      have e1 := za_ieq_t c1
      exact zk_Cut_b (zk_nar_ok hN (by omega) (by omega)) (fun A' n1 _ _ => zk_prop_ok n1)
    | false =>
      simp only [cond_false]
      cases c2 : za_ieq ha c with
      | true =>
        have e1 := za_ieq_t c2
        exact zk_Cut_b (zk_nar_ok hN (by omega) (by omega)) (fun A' n1 _ _ => zk_prop_ok n1)
      | false =>
        simp only [cond_false]
        obtain ⟨k, d⟩ := a
        cases k with
        | zero => exact zk_Cut_s hN
        | succ j =>
          dsimp only
          cases c3 : za_ieq d c with
          | false => exact zk_Cut_s hN
          | true =>
            have e3 := za_ieq_t c3
            have h : τ j + d ≠ c := h
            simp only [cond_true]
            split
            · rename_i e he
              obtain ⟨g0, g2, g3, g4, g5⟩ := hN.1 _ (zk_lk_m he)
              refine ⟨_, rfl, ⟨fun q hq => ?_, hN.2⟩, rfl, rfl⟩
              rcases List.mem_cons.mp hq with rfl | hq
              · exact ⟨g0, g2, g3, (fun _ => by show τ j ≠ 0; omega), g5⟩
              · exact hN.1 q hq
            · exact zk_Cut_s hN
  · exact zk_Cut_s hN
def zk_ne (A : zk_A) (a b : zk_I) : Option zk_A := bif Nat.beq a.1 b.1 then bif za_ieq a.2 b.2 then none else some A else match b.1 with
  | 0 => zk_nec A a b.2
  | _ + 1 => match a.1 with
    | 0 => zk_nec A b a.2
    | _ + 1 => some A
theorem zk_ne_ok (hN : zk_N τ A) (h : zk_ev τ a ≠ zk_ev τ b) : zk_Cut τ A (zk_ne A a b) := by
  unfold zk_ne
  cases c : Nat.beq a.1 b.1 with
  | true =>
    have h1 := zk_ev_d (τ := τ) c
    show zk_Cut τ A (bif za_ieq a.2 b.2 then none else some A)
    cases d : za_ieq a.2 b.2 with
    | true => have := za_ieq_t d; omega
    | false => exact zk_Cut_s hN
  | false =>
    simp only [cond_false]
    obtain ⟨kb, cb⟩ := b
    cases kb with
    | zero => exact zk_nec_ok hN h
    | succ j =>
      obtain ⟨ka, ca⟩ := a
      cases ka with
      | zero => exact zk_nec_ok hN (fun z => h z.symm)
      | succ i => exact zk_Cut_s hN
end KC
