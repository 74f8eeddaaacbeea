section
/-! ===== the abstract executor: writes, arrays ===== -/
section KW
variable {B : zk_B} {gh : zp_H → Int} {J : zp_H → Prop} {fz : Nat → Nat → Bool} {τ : Nat → Int} {A A' : zk_A} {H : zp_H} {z : Int} {a b r i v : zk_I} {x y : Int32} {q : zk_A × zk_I} {p k : Nat}
def zk_is (q : Nat × Nat × Bool × zk_I) (p k : Nat) : Bool := (Nat.beq q.1 p).and (Nat.beq q.2.1 k)
theorem zk_is_f {q : Nat × Nat × Bool × zk_I} (h : zk_is q p k = false) : ¬ (q.1 = p ∧ q.2.1 = k) := by
  rintro ⟨rfl, rfl⟩
  unfold zk_is at h
  rw [Nat.beq_refl, Nat.beq_refl] at h
  cases h
theorem zk_is_n {q : Nat × Nat × Bool × zk_I} (h : ¬ (q.1 = p ∧ q.2.1 = k)) : zk_is q p k = false := by
  cases hb : zk_is q p k with
  | false => rfl
  | true =>
    obtain ⟨h1, h2⟩ := Bool.and_eq_true_iff.mp hb
    exact absurd ⟨za_beq h1, za_beq h2⟩ h
/-- the ghost is forgotten where what it reads is written -/
def zk_kg (B : zk_B) (p k : Nat) (ov : List (Nat × Nat × Bool × zk_I)) : List (Nat × Nat × Bool × zk_I) := bif B.2.2.2.2.2 p k then ov.filter (fun q => (zk_is q 72 100).not) else ov
theorem zk_kg_m {ov : List (Nat × Nat × Bool × zk_I)} {q : Nat × Nat × Bool × zk_I} (h : q ∈ zk_kg B p k ov) : q ∈ ov ∧ (B.2.2.2.2.2 p k = true → ¬ (q.1 = 72 ∧ q.2.1 = 100)) := by
  unfold zk_kg at h
  cases hb : B.2.2.2.2.2 p k with
  | false => rw [hb] at h; exact ⟨h, fun z => by cases z⟩
  | true =>
    rw [hb] at h
    obtain ⟨h1, h2⟩ := List.mem_filter.mp h
    exact ⟨h1, fun _ => zk_is_f (by simpa using h2)⟩
theorem zk_kg_k {ov : List (Nat × Nat × Bool × zk_I)} {q : Nat × Nat × Bool × zk_I} (h : q ∈ ov) (hn : ¬ (q.1 = 72 ∧ q.2.1 = 100)) : q ∈ zk_kg B p k ov := by
  unfold zk_kg
  cases hb : B.2.2.2.2.2 p k with
  | false => exact h
  | true => exact List.mem_filter.mpr ⟨h, by rw [zk_is_n hn]; rfl⟩
/-- an int field is written -/
def zk_putf (B : zk_B) (fz : Nat → Nat → Bool) (A : zk_A) (p k : Nat) (a : zk_I) : Option zk_A := bif (fz p k).or ((Nat.beq p 72).and (Nat.beq k 100)) then none else some (A.1, A.2.1, (p, k, true, a) :: (zk_kg B p k A.2.2.1).filter (fun q => (zk_is q p k).not), A.2.2.2.1.filter (fun q => (Nat.beq q.1 p).not), A.2.2.2.2)
theorem zk_putf_ok {ci : Nat} (hw : zk_W B gh J fz) (hp : B.1[p]? = some (.inl ci)) (hN : zk_N τ A) (hH : zk_Hp B gh J τ A H) (ha : a.1 ≤ A.1) (hx : x.toInt = zk_ev τ a) (h : zk_putf B fz A p k a = some A') : A'.1 = A.1 ∧ zk_N τ A' ∧ zk_Hp B gh J τ A' (H.1, zp_u H.2.1 p k x, H.2.2) := by
  obtain ⟨w1, w2, w3, w4, w5, w6, w7, w8⟩ := hw
  unfold zk_putf at h
  cases hb : (fz p k).or ((Nat.beq p 72).and (Nat.beq k 100)) with
  | true => rw [hb] at h; cases h
  | false =>
    rw [hb] at h
    cases h
    obtain ⟨hb1, hb2⟩ := Bool.or_eq_false_iff.mp hb
    have hg : ¬ (p = 72 ∧ k = 100) := by
      rintro ⟨rfl, rfl⟩
      cases hb2
    refine ⟨rfl, hN, ?_⟩
    obtain ⟨g1, g2, g3, g4, g5, g6, g7, g8⟩ := hH
    have hu : ∀ p' k', ¬ (p' = p ∧ k' = k) → zp_u H.2.1 p k x p' k' = H.2.1 p' k' := fun p' k' hn => zp_u_ne hn
    have hgh : B.2.2.2.2.2 p k = false → gh (H.1, zp_u H.2.1 p k x, H.2.2) = gh H := fun hf => w2 H _ (fun p' k' h' => ⟨hu p' k' (by rintro ⟨rfl, rfl⟩; rw [hf] at h'; cases h'), rfl⟩)
    have hfv : ∀ p' k', ¬ (p' = p ∧ k' = k) → ((p' = 72 ∧ k' = 100) → B.2.2.2.2.2 p k = false) → zk_fv gh (H.1, zp_u H.2.1 p k x, H.2.2) p' k' = zk_fv gh H p' k' := by
      intro p' k' h1 h2
      unfold zk_fv
      by_cases h3 : p' = 72 ∧ k' = 100
      · rw [if_pos h3, if_pos h3, hgh (h2 h3)]
      · rw [if_neg h3, if_neg h3]
        show (zp_u H.2.1 p k x p' k').toInt = _
        rw [hu p' k' h1]
    refine ⟨g1, g2, fun e he => ?_, fun e he => ?_, fun p' k' r' h' => ?_, fun p' t n i r' h1 h2 h3 => ?_, fun c hc => ?_, ?_⟩
    · rcases List.mem_cons.mp he with rfl | he
      · refine ⟨ha, ?_⟩
        show zk_fv gh _ p k = _
        unfold zk_fv
        rw [if_neg hg]
        show (zp_u H.2.1 p k x p k).toInt = _
        rw [zp_u_self]
        exact hx
      · obtain ⟨he, hn⟩ := List.mem_filter.mp he
        obtain ⟨he, hk⟩ := zk_kg_m he
        have hn := zk_is_f (show zk_is e p k = false by simpa using hn)
        refine ⟨(g3 e he).1, ?_⟩
        rw [hfv _ _ hn]
        · exact (g3 e he).2
        · intro h9
          cases hf : B.2.2.2.2.2 p k with
          | false => rfl
          | true => exact absurd h9 (hk hf)
    · obtain ⟨he, hn⟩ := List.mem_filter.mp he
      have hn : e.1 ≠ p := by
        rintro rfl
        rw [Nat.beq_refl] at hn
        cases hn
      obtain ⟨f1, f2, f3, f4⟩ := g4 e he
      refine ⟨f1, f2, f3, ?_⟩
      show (zp_u H.2.1 p k x e.1 _).toInt = _
      rw [hu _ _ (fun z => hn z.1)]
      exact f4
    · by_cases h1 : p' = p ∧ k' = k
      · exact Or.inl ⟨_, List.mem_cons_self, h1.1.symm, h1.2.symm⟩
      · by_cases h2 : p' = 72 ∧ k' = 100
        · right
          unfold zk_fv
          rw [if_pos h2]
          rw [h2.1, h2.2] at h'
          exact w3 _ _ h'
        · rcases g5 p' k' r' h' with ⟨e, he, e1, e2⟩ | h9
          · refine Or.inl ⟨e, List.mem_cons_of_mem _ (List.mem_filter.mpr ⟨zk_kg_k he (by rw [e1, e2]; exact h2), ?_⟩), e1, e2⟩
            rw [zk_is_n (by rw [e1, e2]; exact h1)]
            rfl
          · right
            rw [hfv _ _ h1 (fun z => absurd z h2)]
            exact h9
    · have hn : p' ≠ p := by
        rintro rfl
        rw [h1] at hp
        cases hp
      show zk_in (zp_u H.2.1 p k x p' i).toInt r'
      rw [hu _ _ (fun z => hn z.1)]
      exact g6 p' t n i r' h1 h2 h3
    · obtain ⟨-, c2, c3⟩ := w5 c hc
      by_cases h1 : c.1 = p ∧ (c.2.1 = k ∨ c.2.2.2.1 = k)
      · refine Or.inl ⟨_, List.mem_cons_self, h1.1.symm, ?_, rfl⟩
        rcases h1.2 with h | h
        · exact Or.inl h.symm
        · exact Or.inr h.symm
      · rcases g7 c hc with ⟨e, he, e1, e2, e3⟩ | h9
        · refine Or.inl ⟨e, List.mem_cons_of_mem _ (List.mem_filter.mpr ⟨zk_kg_k he ?_, ?_⟩), e1, e2, e3⟩
          · rintro ⟨-, h9⟩
            rcases e2 with e2 | e2
            · exact c2 (e2 ▸ h9)
            · exact c3 (e2 ▸ h9)
          · rw [zk_is_n]
            · rfl
            · rintro ⟨f1, f2⟩
              refine h1 ⟨e1.symm.trans f1, ?_⟩
              rcases e2 with e2 | e2
              · exact Or.inl (e2.symm.trans f2)
              · exact Or.inr (e2.symm.trans f2)
        · right
          rw [hfv c.1 c.2.1 (fun z => h1 ⟨z.1, Or.inl z.2⟩) (fun z => absurd z.2 c2), hfv c.1 c.2.2.2.1 (fun z => h1 ⟨z.1, Or.inr z.2⟩) (fun z => absurd z.2 c3)]
          exact h9
    · refine w1 H _ rfl (fun p' k' h' => ⟨hu p' k' ?_, rfl⟩) g8
      rintro ⟨rfl, rfl⟩
      rw [hb1] at h'
      cases h'
/-- a long is written, in a field or in an array: numbers stand as they are -/
def zk_putl (B : zk_B) (fz : Nat → Nat → Bool) (A : zk_A) (p k : Nat) : Option zk_A := bif fz p k then none else some (A.1, A.2.1, zk_kg B p k A.2.2.1, A.2.2.2)
theorem zk_putl_ok {hl : Nat → Nat → Int64} (hw : zk_W B gh J fz) (hN : zk_N τ A) (hH : zk_Hp B gh J τ A H) (h : zk_putl B fz A p k = some A') (hl1 : ∀ p' k', fz p' k' = true → hl p' k' = H.2.2.1 p' k') (hl2 : B.2.2.2.2.2 p k = false → ∀ p' k', B.2.2.2.2.2 p' k' = true → hl p' k' = H.2.2.1 p' k') : A'.1 = A.1 ∧ zk_N τ A' ∧ zk_Hp B gh J τ A' (H.1, H.2.1, hl, H.2.2.2) := by
  obtain ⟨w1, w2, w3, w4, w5, w6, w7, w8⟩ := hw
  unfold zk_putl at h
  cases hb : fz p k with
  | true => rw [hb] at h; cases h
  | false =>
    rw [hb] at h
    cases h
    refine ⟨rfl, hN, ?_⟩
    obtain ⟨g1, g2, g3, g4, g5, g6, g7, g8⟩ := hH
    have hgh : B.2.2.2.2.2 p k = false → gh (H.1, H.2.1, hl, H.2.2.2) = gh H := fun hf => w2 H _ (fun p' k' h' => ⟨rfl, hl2 hf p' k' h'⟩)
    have hfv : ∀ p' k', ((p' = 72 ∧ k' = 100) → B.2.2.2.2.2 p k = false) → zk_fv gh (H.1, H.2.1, hl, H.2.2.2) p' k' = zk_fv gh H p' k' := by
      intro p' k' h2
      unfold zk_fv
      by_cases h3 : p' = 72 ∧ k' = 100
      · rw [if_pos h3, if_pos h3, hgh (h2 h3)]
      · rw [if_neg h3, if_neg h3]
    refine ⟨g1, g2, fun e he => ?_, g4, fun p' k' r' h' => ?_, g6, fun c hc => ?_, w1 H _ rfl (fun p' k' h' => ⟨rfl, hl1 p' k' h'⟩) g8⟩
    · obtain ⟨he, hk⟩ := zk_kg_m he
      refine ⟨(g3 e he).1, ?_⟩
      rw [hfv]
      · exact (g3 e he).2
      · intro h9
        cases hf : B.2.2.2.2.2 p k with
        | false => rfl
        | true => exact absurd h9 (hk hf)
    · by_cases h2 : p' = 72 ∧ k' = 100
      · right
        unfold zk_fv
        rw [if_pos h2]
        rw [h2.1, h2.2] at h'
        exact w3 _ _ h'
      · rcases g5 p' k' r' h' with ⟨e, he, e1, e2⟩ | h9
        · exact Or.inl ⟨e, zk_kg_k he (by rw [e1, e2]; exact h2), e1, e2⟩
        · right
          rw [hfv _ _ (fun z => absurd z h2)]
          exact h9
    · obtain ⟨-, c2, c3⟩ := w5 c hc
      rcases g7 c hc with ⟨e, he, e1, e2, e3⟩ | h9
      · refine Or.inl ⟨e, zk_kg_k he ?_, e1, e2, e3⟩
        rintro ⟨-, h9⟩
        rcases e2 with e2 | e2
        · exact c2 (e2 ▸ h9)
        · exact c3 (e2 ▸ h9)
      · right
        rw [hfv c.1 c.2.1 (fun z => absurd z.2 c2), hfv c.1 c.2.2.2.1 (fun z => absurd z.2 c3)]
        exact h9
/-! arrays -/
/-- the rest of the index by m, where it is known -/
def zk_res (A : zk_A) (i : zk_I) (m : Nat) : Option Nat := bif Nat.beq m 1 then some 0 else match i.1 with
  | 0 => some (i.2 % (m : Int)).toNat
  | j + 1 => match zk_lk A.2.1 j with
    | some e => bif Nat.beq (e.2.2.2 % m) 0 then some (i.2 % (m : Int)).toNat else none
    | none => none
theorem zk_res_ok {m s : Nat} (hm : 0 < m) (hN : zk_N τ A) (h0 : 0 ≤ zk_ev τ i) (h : zk_res A i m = some s) : (zk_ev τ i).toNat % m = s := by
  unfold zk_res at h
  cases h1 : Nat.beq m 1 with
  | true =>
    have e := za_beq h1
    rw [h1] at h
    cases h
    rw [e]
    exact Nat.mod_one _
  | false =>
    rw [h1] at h
    simp only [cond_false] at h
    have key : ∀ {u c : Int}, 0 ≤ u → u % (m : Int) = c % (m : Int) → u.toNat % m = (c % (m : Int)).toNat := by
      intro u c hu hc
      obtain ⟨w, rfl⟩ : ∃ w : Nat, u = (w : Int) := ⟨u.toNat, by omega⟩
      rw [← hc, ← Int.natCast_emod, Int.toNat_natCast, Int.toNat_natCast]
    obtain ⟨kk, c⟩ := i
    cases kk with
    | zero =>
      cases h
      exact key h0 rfl
    | succ j =>
      dsimp only at h
      split at h
      · rename_i e he
        obtain ⟨h2, h⟩ := za_bif h
        cases h
        obtain ⟨-, -, -, -, g5⟩ := hN.1 _ (zk_lk_m he)
        have g6 : (m : Int) ∣ τ j := Int.dvd_trans (Int.natCast_dvd_natCast.mpr (Nat.dvd_of_mod_eq_zero (za_beq h2))) g5
        refine key h0 ?_
        show (τ j + c) % (m : Int) = c % (m : Int)
        obtain ⟨w, hw⟩ := g6
        rw [hw, Int.add_comm, Int.add_mul_emod_self_left]
      · cases h
/-- all ranges together -/
def zk_jn : List (Int × Int) → Int × Int
  | [] => (-2147483648, 2147483647)
  | [r] => r
  | r :: l => match zk_jn l with
    | (lo, hi) => (zk_min r.1 lo, zk_max r.2 hi)
theorem zk_min_l (a b : Int) : zk_min a b ≤ a := by
  unfold zk_min
  cases h : za_ile a b with
  | true => exact Int.le_refl _
  | false => have := za_ile_f h; show b ≤ a; omega
theorem zk_min_r (a b : Int) : zk_min a b ≤ b := by
  unfold zk_min
  cases h : za_ile a b with
  | true => exact za_ile_t h
  | false => exact Int.le_refl _
theorem zk_max_l (a b : Int) : a ≤ zk_max a b := by
  unfold zk_max
  cases h : za_ile a b with
  | true => exact za_ile_t h
  | false => exact Int.le_refl _
theorem zk_max_r (a b : Int) : b ≤ zk_max a b := by
  unfold zk_max
  cases h : za_ile a b with
  | true => exact Int.le_refl _
  | false => have := za_ile_f h; show b ≤ a; omega
theorem zk_jn_ok {u : Int} : ∀ {l : List (Int × Int)} {s : Nat} {r : Int × Int}, l[s]? = some r → zk_in u r → zk_in u (zk_jn l)
  | [], s, r, h, _ => by simp at h
  | [r0], 0, r, h, hu => by
    simp at h
    subst h
    exact hu
  | [r0], s + 1, r, h, _ => by simp at h
  | r0 :: r1 :: l, 0, r, h, hu => by
    simp at h
    subst h
    unfold zk_jn
    generalize zk_jn (r1 :: l) = q
    obtain ⟨lo, hi⟩ := q
    exact ⟨Int.le_trans (zk_min_l _ _) hu.1, Int.le_trans hu.2 (zk_max_l _ _)⟩
  | r0 :: r1 :: l, s + 1, r, h, hu => by
    have ih := zk_jn_ok (l := r1 :: l) (by simpa using h) hu
    unfold zk_jn
    generalize zk_jn (r1 :: l) = q at ih ⊢
    obtain ⟨lo, hi⟩ := q
    exact ⟨Int.le_trans (zk_min_r _ _) ih.1, Int.le_trans ih.2 (zk_max_r _ _)⟩
/-- the place lies in the array -/
def zk_ix (A : zk_A) (i : zk_I) (n : Nat) : Bool := match zk_rg A i with
  | some (lo, hi) => (za_ile 0 lo).and (za_ile (hi + 1) (n : Int))
  | none => false
theorem zk_ix_ok {n : Nat} (hN : zk_N τ A) (h : zk_ix A i n = true) : 0 ≤ zk_ev τ i ∧ zk_ev τ i < (n : Int) := by
  unfold zk_ix at h
  split at h
  · rename_i lo hi g
    have r1 := zk_rg_ok hN g
    unfold zk_in at r1
    dsimp only at r1
    obtain ⟨h1, h2⟩ := Bool.and_eq_true_iff.mp h
    have h1 := za_ile_t h1
    have h2 := za_ile_t h2
    omega
  · cases h
def zk_al (p : Nat) (i : zk_I) : List (Nat × zk_I × zk_I) → Option zk_I
  | [] => none
  | q :: l => bif (Nat.beq q.1 p).and (zk_eqI q.2.1 i) then some q.2.2 else zk_al p i l
theorem zk_al_m : ∀ {l : List (Nat × zk_I × zk_I)}, zk_al p i l = some v → (p, i, v) ∈ l
  | [], h => by cases h
  | q :: l, h => by
    unfold zk_al at h
    cases hb : (Nat.beq q.1 p).and (zk_eqI q.2.1 i) with
    | true =>
      rw [hb] at h
      obtain ⟨h1, h2⟩ := Bool.and_eq_true_iff.mp hb
      cases h
      have e1 := za_beq h1
      have e2 := zk_eqI_t h2
      rw [← e1, ← e2]
      exact List.mem_cons_self
    | false =>
      rw [hb] at h
      exact List.mem_cons_of_mem _ (zk_al_m h)
def zk_adda (q : zk_A × zk_I) (p : Nat) (i : zk_I) : zk_A × zk_I := ((q.1.1, q.1.2.1, q.1.2.2.1, (p, i, q.2) :: q.1.2.2.2.1, q.1.2.2.2.2), q.2)
/-- an int is read out of an array -/
def zk_ald (B : zk_B) (A : zk_A) (p n : Nat) (i : zk_I) : Option (zk_A × zk_I) := bif zk_ix A i n then match zk_al p i A.2.2.2.1 with
  | some v => some (A, v)
  | none => match B.2.2.2.1 p with
    | (m, rs) => bif Nat.blt 0 m then bif Nat.beq m rs.length then match (match zk_res A i m with
        | some s => match rs[s]? with
          | some r => r
          | none => zk_jn rs
        | none => zk_jn rs) with
      | (lo, hi) => some (zk_adda (zk_fresh A lo hi 1) p i) else none else none
  else none
theorem zk_ald_ok {t n : Nat} (hp : B.1[p]? = some (.inr (t, n))) (hN : zk_N τ A) (hH : zk_Hp B gh J τ A H) (hi : i.1 ≤ A.1) (h : zk_ald B A p n i = some q) : 0 ≤ zk_ev τ i ∧ zk_ev τ i < (n : Int) ∧ zk_Rh B gh J τ A H (H.2.1 p (zk_ev τ i).toNat).toInt q := by
  unfold zk_ald at h
  obtain ⟨h0, h⟩ := za_bif h
  obtain ⟨i0, i1⟩ := zk_ix_ok hN h0
  refine ⟨i0, i1, ?_⟩
  split at h
  · rename_i v hv
    cases h
    obtain ⟨g1, g2, g3, g4⟩ := hH.2.2.2.1 _ (zk_al_m hv)
    exact ⟨τ, zk_ext_r τ, Nat.le_refl _, hN, hH, g2, g4⟩
  · generalize hm : B.2.2.2.1 p = mr at h
    obtain ⟨m, rs⟩ := mr
    dsimp only at h
    obtain ⟨m0, h⟩ := za_bif h
    obtain ⟨m1, h⟩ := za_bif h
    have m0 := za_blt m0
    have m1 := za_beq m1
    have hlt : (zk_ev τ i).toNat % m < rs.length := by rw [← m1]; exact Nat.mod_lt _ m0
    have hr : zk_in (H.2.1 p (zk_ev τ i).toNat).toInt (rs[(zk_ev τ i).toNat % m]'hlt) := by
      refine hH.2.2.2.2.2.1 p t n _ _ hp (by omega) ?_
      rw [hm]
      exact List.getElem?_eq_getElem hlt
    have hj := zk_jn_ok (List.getElem?_eq_getElem hlt) hr
    have hk : ∀ r : Int × Int, (match zk_res A i m with
        | some s => match rs[s]? with
          | some r => r
          | none => zk_jn rs
        | none => zk_jn rs) = r → zk_in (H.2.1 p (zk_ev τ i).toNat).toInt r := by
      intro r hr9
      split at hr9
      · rename_i s hs
        have e := zk_res_ok m0 hN i0 hs
        split at hr9
        · rename_i r8 hr8
          subst hr9
          rw [← e, List.getElem?_eq_getElem hlt] at hr8
          rw [← Option.some.inj hr8]
          exact hr
        · subst hr9; exact hj
      · subst hr9; exact hj
    generalize hq : (match zk_res A i m with
        | some s => match rs[s]? with
          | some r => r
          | none => zk_jn rs
        | none => zk_jn rs) = r9 at h
    obtain ⟨lo, hi9⟩ := r9
    have hr9 := hk _ hq
    cases h
    obtain ⟨τ', f1, f2, f3, f4, f5, f6⟩ := zk_Rs_h hH (zk_fresh_ok (md := 1) hN hr9.1 hr9.2 (Int.one_dvd _))
    refine ⟨τ', f1, f2, f3, ?_, f5, f6⟩
    obtain ⟨g1, g2, g3, g4, g5, g6, g7, g8⟩ := f4
    refine ⟨g1, g2, g3, fun e he => ?_, g5, g6, g7, g8⟩
    rcases List.mem_cons.mp he with rfl | he
    · refine ⟨Nat.le_trans hi f2, f5, ?_, ?_⟩
      · show 0 ≤ zk_ev τ' i
        rw [zk_ev_x hi f1]
        exact i0
      · show (H.2.1 p (zk_ev τ' i).toNat).toInt = _
        rw [zk_ev_x hi f1]
        exact f6
    · exact g4 e he
/-- a number lies in a range -/
def zk_sub1 (A : zk_A) (v : zk_I) (r : Int × Int) : Bool := match zk_rg A v with
  | some (lo, hi) => (za_ile r.1 lo).and (za_ile hi r.2)
  | none => false
theorem zk_sub1_ok {r : Int × Int} (hN : zk_N τ A) (h : zk_sub1 A v r = true) : zk_in (zk_ev τ v) r := by
  unfold zk_sub1 at h
  split at h
  · rename_i lo hi g
    have r1 := zk_rg_ok hN g
    obtain ⟨h1, h2⟩ := Bool.and_eq_true_iff.mp h
    exact ⟨Int.le_trans (za_ile_t h1) r1.1, Int.le_trans r1.2 (za_ile_t h2)⟩
  · cases h
/-- an int is written into an array -/
def zk_ast (B : zk_B) (fz : Nat → Nat → Bool) (A : zk_A) (p n : Nat) (i v : zk_I) : Option zk_A := bif zk_ix A i n then bif fz p 0 then none else bif A.2.2.1.all (fun q => (Nat.beq q.1 p).not) then match B.2.2.2.1 p with
  | (m, rs) => bif Nat.blt 0 m then bif (match zk_res A i m with
      | some s => match rs[s]? with
        | some r => zk_sub1 A v r
        | none => true
      | none => rs.all (fun r => zk_sub1 A v r)) then some (A.1, A.2.1, A.2.2.1, (p, i, v) :: A.2.2.2.1.filter (fun q => (Nat.beq q.1 p).not), A.2.2.2.2) else none else none
  else none else none
theorem zk_ast_ok {t n : Nat} (hw : zk_W B gh J fz) (hp : B.1[p]? = some (.inr (t, n))) (hN : zk_N τ A) (hH : zk_Hp B gh J τ A H) (hi : i.1 ≤ A.1) (hv : v.1 ≤ A.1) (hx : x.toInt = zk_ev τ v) (h : zk_ast B fz A p n i v = some A') : 0 ≤ zk_ev τ i ∧ zk_ev τ i < (n : Int) ∧ A'.1 = A.1 ∧ zk_N τ A' ∧ zk_Hp B gh J τ A' (H.1, zp_u H.2.1 p (zk_ev τ i).toNat x, H.2.2) := by
  obtain ⟨w1, w2, w3, w4, w5, w6, w7, w8⟩ := hw
  unfold zk_ast at h
  obtain ⟨h0, h⟩ := za_bif h
  obtain ⟨i0, i1⟩ := zk_ix_ok hN h0
  refine ⟨i0, i1, ?_⟩
  cases hf : fz p 0 with
  | true => rw [hf] at h; cases h
  | false =>
    rw [hf] at h
    simp only [cond_false] at h
    obtain ⟨ho, h⟩ := za_bif h
    have ho : ∀ e ∈ A.2.2.1, e.1 ≠ p := by
      intro e he
      have h9 := List.all_eq_true.mp ho e he
      rintro rfl
      rw [Nat.beq_refl] at h9
      cases h9
    obtain ⟨m0, h⟩ := za_bif h
    obtain ⟨hc, h⟩ := za_bif h
    have m0 := za_blt m0
    cases h
    refine ⟨rfl, hN, ?_⟩
    obtain ⟨g1, g2, g3, g4, g5, g6, g7, g8⟩ := hH
    have hno : ∀ p' ci, B.1[p']? = some (.inl ci) → p' ≠ p := by
      rintro p' ci h1 rfl
      rw [hp] at h1
      cases h1
    have hu : ∀ p' k', p' ≠ p → zp_u H.2.1 p (zk_ev τ i).toNat x p' k' = H.2.1 p' k' := fun p' k' hn => zp_u_ne (fun z => hn z.1)
    have hgh : gh (H.1, zp_u H.2.1 p (zk_ev τ i).toNat x, H.2.2) = gh H := w2 H _ (fun p' k' h' => ⟨by
      obtain ⟨ci, h9⟩ := w6 p' k' h'
      exact hu p' k' (hno p' ci h9), rfl⟩)
    have hfv : ∀ p' k', p' ≠ p → zk_fv gh (H.1, zp_u H.2.1 p (zk_ev τ i).toNat x, H.2.2) p' k' = zk_fv gh H p' k' := by
      intro p' k' h1
      unfold zk_fv
      by_cases h3 : p' = 72 ∧ k' = 100
      · rw [if_pos h3, if_pos h3, hgh]
      · rw [if_neg h3, if_neg h3]
        show (zp_u H.2.1 p _ x p' k').toInt = _
        rw [hu p' k' h1]
    refine ⟨g1, g2, fun e he => ?_, fun e he => ?_, fun p' k' r' h' => ?_, fun p' t' n' i' r' h1 h2 h3 => ?_, fun c hc => ?_, ?_⟩
    · rw [hfv _ _ (ho e he)]
      exact g3 e he
    · rcases List.mem_cons.mp he with rfl | he
      · refine ⟨hi, hv, i0, ?_⟩
        show (zp_u H.2.1 p (zk_ev τ i).toNat x p (zk_ev τ i).toNat).toInt = _
        rw [zp_u_self]
        exact hx
      · obtain ⟨he, hn⟩ := List.mem_filter.mp he
        have hn : e.1 ≠ p := by
          rintro rfl
          rw [Nat.beq_refl] at hn
          cases hn
        obtain ⟨f1, f2, f3, f4⟩ := g4 e he
        refine ⟨f1, f2, f3, ?_⟩
        show (zp_u H.2.1 p _ x e.1 _).toInt = _
        rw [hu _ _ hn]
        exact f4
    · obtain ⟨ci, h9⟩ := w4 p' k' r' h'
      rw [hfv _ _ (hno p' ci h9)]
      exact g5 p' k' r' h'
    · show zk_in (zp_u H.2.1 p (zk_ev τ i).toNat x p' i').toInt r'
      by_cases h9 : p' = p ∧ i' = (zk_ev τ i).toNat
      · obtain ⟨rfl, rfl⟩ := h9
        rw [zp_u_self, hx]
        split at hc
        · rename_i s hs
          have e := zk_res_ok m0 hN i0 hs
          rw [e] at h3
          rw [h3] at hc
          exact zk_sub1_ok hN hc
        · exact zk_sub1_ok hN (List.all_eq_true.mp hc r' (List.mem_of_getElem? h3))
      · rw [zp_u_ne h9]
        exact g6 p' t' n' i' r' h1 h2 h3
    · obtain ⟨⟨ci, c1⟩, -, -⟩ := w5 c hc
      rw [hfv c.1 c.2.1 (hno _ ci c1), hfv c.1 c.2.2.2.1 (hno _ ci c1)]
      exact g7 c hc
    · refine w1 H _ rfl (fun p' k' h' => ⟨hu p' k' ?_, rfl⟩) g8
      rintro rfl
      rw [w7 p' k' t n hp, hf] at h'
      cases h'
end KW
end
section
/-! ===== the abstract executor: whole arrays, between calls ===== -/
def zk_inm (mods : List (Nat × Nat)) (p k : Nat) : Bool := mods.any (fun q => (Nat.beq q.1 p).and (Nat.beq q.2 k))
def zk_ina (am : List Nat) (p : Nat) : Bool := am.any (fun q => Nat.beq q p)
/-- nothing but these fields and arrays has changed -/
def zk_Fr (gh : zp_H → Int) (mods : List (Nat × Nat)) (am : List Nat) (H H' : zp_H) : Prop := H'.2.2.2 = H.2.2.2 ∧ ∀ p k, zk_inm mods p k = false → zk_ina am p = false → zk_fv gh H' p k = zk_fv gh H p k ∧ H'.2.2.1 p k = H.2.2.1 p k
theorem zk_Fr_r {gh : zp_H → Int} {mods : List (Nat × Nat)} {am : List Nat} (H : zp_H) : zk_Fr gh mods am H H := ⟨rfl, fun _ _ _ _ => ⟨rfl, rfl⟩⟩
theorem zk_Fr_t {gh : zp_H → Int} {mods : List (Nat × Nat)} {am : List Nat} {H H' H'' : zp_H} (h1 : zk_Fr gh mods am H H') (h2 : zk_Fr gh mods am H' H'') : zk_Fr gh mods am H H'' := ⟨h2.1.trans h1.1, fun p k h3 h4 => ⟨(h2.2 p k h3 h4).1.trans (h1.2 p k h3 h4).1, (h2.2 p k h3 h4).2.trans (h1.2 p k h3 h4).2⟩⟩
/-- what always holds -/
def zk_A0 : zk_A := (0, [], [], [], [])
def zk_Bs (B : zk_B) (gh : zp_H → Int) (J : zp_H → Prop) (H : zp_H) : Prop := zk_Hp B gh J (fun _ => 0) zk_A0 H
section KF
variable {B : zk_B} {gh : zp_H → Int} {J : zp_H → Prop} {fz : Nat → Nat → Bool} {τ : Nat → Int} {A A' : zk_A} {H H' : zp_H} {p k : Nat} {mods : List (Nat × Nat)} {am : List Nat}
/-- an array has new contents -/
def zk_arw (fz : Nat → Nat → Bool) (A : zk_A) (p : Nat) : Option zk_A := bif fz p 0 then none else bif A.2.2.1.all (fun q => (Nat.beq q.1 p).not) then some (A.1, A.2.1, A.2.2.1, A.2.2.2.1.filter (fun q => (Nat.beq q.1 p).not), A.2.2.2.2) else none
theorem zk_arw_ok {t n : Nat} {g : Nat → Int32} (hw : zk_W B gh J fz) (hp : B.1[p]? = some (.inr (t, n))) (hN : zk_N τ A) (hH : zk_Hp B gh J τ A H) (hg : ∀ (i : Nat) (r : Int × Int), i < n → (B.2.2.2.1 p).2[i % (B.2.2.2.1 p).1]? = some r → zk_in (g i).toInt r) (h : zk_arw fz A p = some A') : A'.1 = A.1 ∧ zk_N τ A' ∧ zk_Hp B gh J τ A' (H.1, zp_ua H.2.1 p g, H.2.2) := by
  obtain ⟨w1, w2, w3, w4, w5, w6, w7, w8⟩ := hw
  unfold zk_arw at h
  cases hf : fz p 0 with
  | true => rw [hf] at h; cases h
  | false =>
    rw [hf] at h
    simp only [cond_false] at h
    obtain ⟨ho, h⟩ := za_bif h
    have ho : ∀ e ∈ A.2.2.1, e.1 ≠ p := by
      intro e he
      have h9 := List.all_eq_true.mp ho e he
      rintro rfl
      rw [Nat.beq_refl] at h9
      cases h9
    cases h
    refine ⟨rfl, hN, ?_⟩
    obtain ⟨g1, g2, g3, g4, g5, g6, g7, g8⟩ := hH
    have hno : ∀ p' ci, B.1[p']? = some (.inl ci) → p' ≠ p := by
      rintro p' ci h1 rfl
      rw [hp] at h1
      cases h1
    have hu : ∀ p' k', p' ≠ p → zp_ua H.2.1 p g p' k' = H.2.1 p' k' := fun p' k' hn => by
      unfold zp_ua
      rw [if_neg hn]
    have hgh : gh (H.1, zp_ua H.2.1 p g, H.2.2) = gh H := w2 H _ (fun p' k' h' => ⟨by
      obtain ⟨ci, h9⟩ := w6 p' k' h'
      exact hu p' k' (hno p' ci h9), rfl⟩)
    have hfv : ∀ p' k', p' ≠ p → zk_fv gh (H.1, zp_ua H.2.1 p g, H.2.2) p' k' = zk_fv gh H p' k' := by
      intro p' k' h1
      unfold zk_fv
      by_cases h3 : p' = 72 ∧ k' = 100
      · rw [if_pos h3, if_pos h3, hgh]
      · rw [if_neg h3, if_neg h3]
        show (zp_ua H.2.1 p g p' k').toInt = _
        rw [hu p' k' h1]
    refine ⟨g1, g2, fun e he => ?_, fun e he => ?_, fun p' k' r' h' => ?_, fun p' t' n' i' r' h1 h2 h3 => ?_, fun c hc => ?_, ?_⟩
    · rw [hfv _ _ (ho e he)]
      exact g3 e he
    · obtain ⟨he, hn⟩ := List.mem_filter.mp he
      have hn : e.1 ≠ p := by
        rintro rfl
        rw [Nat.beq_refl] at hn
        cases hn
      obtain ⟨f1, f2, f3, f4⟩ := g4 e he
      refine ⟨f1, f2, f3, ?_⟩
      show (zp_ua H.2.1 p g e.1 _).toInt = _
      rw [hu _ _ hn]
      exact f4
    · obtain ⟨ci, h9⟩ := w4 p' k' r' h'
      rw [hfv _ _ (hno p' ci h9)]
      exact g5 p' k' r' h'
    · show zk_in (zp_ua H.2.1 p g p' i').toInt r'
      by_cases h9 : p' = p
      · subst h9
        rw [hp] at h1
        cases h1
        unfold zp_ua
        rw [if_pos rfl]
        exact hg i' r' h2 h3
      · rw [hu _ _ h9]
        exact g6 p' t' n' i' r' h1 h2 h3
    · obtain ⟨⟨ci, c1⟩, -, -⟩ := w5 c hc
      rw [hfv c.1 c.2.1 (hno _ ci c1), hfv c.1 c.2.2.2.1 (hno _ ci c1)]
      exact g7 c hc
    · refine w1 H _ rfl (fun p' k' h' => ⟨hu p' k' ?_, rfl⟩) g8
      rintro rfl
      rw [w7 p' k' t n hp, hf] at h'
      cases h'
/-! all is as it always is -/
def zk_fr1 (B : zk_B) (A : zk_A) (p k : Nat) : Option (Int × Int) := match zk_og A.2.2.1 p k with
  | some a => zk_rg A a
  | none => B.2.2.1 p k
theorem zk_fr1_ok {r : Int × Int} (hN : zk_N τ A) (hH : zk_Hp B gh J τ A H) (h : zk_fr1 B A p k = some r) : zk_in (zk_fv gh H p k) r := by
  unfold zk_fr1 at h
  split at h
  · rename_i a ha
    obtain ⟨e, e1, e2, e3, e4⟩ := zk_og_m ha
    have g := (hH.2.2.1 e e1).2
    rw [e2, e3, e4] at g
    rw [g]
    exact zk_rg_ok hN h
  · rename_i ho
    rcases hH.2.2.2.2.1 p k r h with ⟨e, he, h9⟩ | h9
    · exact absurd h9 (zk_og_n ho e he)
    · exact h9
def zk_cok (B : zk_B) (A : zk_A) (c : Nat × Nat × Int × Nat × Int × Int) : Bool := bif zk_dty A.2.2.1 c.1 c.2.1 c.2.2.2.1 then
  (match zk_fr1 B A c.1 c.2.1 with
    | some (lo, hi) => (za_ile (c.2.2.1 + 1) lo).or (za_ile (hi + 1) c.2.2.1)
    | none => false).or (match zk_fr1 B A c.1 c.2.2.2.1 with
    | some (lo, hi) => (za_ile c.2.2.2.2.1 lo).and (za_ile hi c.2.2.2.2.2)
    | none => false) else true
theorem zk_cok_ok {c : Nat × Nat × Int × Nat × Int × Int} (hc : c ∈ B.2.2.2.2.1) (hN : zk_N τ A) (hH : zk_Hp B gh J τ A H) (h : zk_cok B A c = true) : zk_fv gh H c.1 c.2.1 = c.2.2.1 → zk_in (zk_fv gh H c.1 c.2.2.2.1) c.2.2.2.2 := by
  intro hk
  unfold zk_cok at h
  cases hd : zk_dty A.2.2.1 c.1 c.2.1 c.2.2.2.1 with
  | false =>
    rcases hH.2.2.2.2.2.2.1 c hc with g | g
    · exact absurd g (zk_dty_f hd)
    · exact g hk
  | true =>
    rw [hd] at h
    simp only [cond_true] at h
    rcases Bool.or_eq_true_iff.mp h with h | h
    · split at h
      · rename_i lo hi hr
        have r := zk_fr1_ok hN hH hr
        unfold zk_in at r
        dsimp only at r
        rcases Bool.or_eq_true_iff.mp h with h | h
        · have := za_ile_t h; omega
        · have := za_ile_t h; omega
      · cases h
    · split at h
      · rename_i lo hi hr
        have r := zk_fr1_ok hN hH hr
        obtain ⟨h1, h2⟩ := Bool.and_eq_true_iff.mp h
        exact ⟨Int.le_trans (za_ile_t h1) r.1, Int.le_trans r.2 (za_ile_t h2)⟩
      · cases h
def zk_flush (B : zk_B) (A : zk_A) : Bool := (A.2.2.1.all (fun q => match B.2.2.1 q.1 q.2.1 with
  | some r => zk_sub1 A q.2.2.2 r
  | none => true)).and (B.2.2.2.2.1.all (zk_cok B A))
theorem zk_flush_b (hN : zk_N τ A) (hH : zk_Hp B gh J τ A H) (h : zk_flush B A = true) : ∀ p k r, B.2.2.1 p k = some r → zk_in (zk_fv gh H p k) r := by
  intro p k r hr
  rcases hH.2.2.2.2.1 p k r hr with ⟨e, he, e1, e2⟩ | h9
  · have h9 := List.all_eq_true.mp (Bool.and_eq_true_iff.mp h).1 e he
    rw [e1, e2, hr] at h9
    have g := (hH.2.2.1 e he).2
    rw [e1, e2] at g
    rw [g]
    exact zk_sub1_ok hN h9
  · exact h9
theorem zk_flush_ok (hN : zk_N τ A) (hH : zk_Hp B gh J τ A H) (h : zk_flush B A = true) : zk_Bs B gh J H := by
  refine ⟨hH.1, hH.2.1, fun q hq => absurd hq List.not_mem_nil, fun q hq => absurd hq List.not_mem_nil, fun p k r hr => Or.inr (zk_flush_b hN hH h p k r hr), hH.2.2.2.2.2.1, fun c hc => Or.inr ?_, hH.2.2.2.2.2.2.2⟩
  exact zk_cok_ok hc hN hH (List.all_eq_true.mp (Bool.and_eq_true_iff.mp h).2 c hc)
/-- behind a call: what it may have changed is forgotten -/
def zk_cl1 (q : Nat × Nat × Bool × zk_I) : Nat × Nat × Bool × zk_I := (q.1, q.2.1, false, q.2.2.2)
def zk_bh (mods : List (Nat × Nat)) (am : List Nat) (A : zk_A) : zk_A := (A.1, A.2.1, (A.2.2.1.filter (fun q => ((zk_inm mods q.1 q.2.1).or (zk_ina am q.1)).not)).map zk_cl1, A.2.2.2.1.filter (fun q => ((mods.any (fun m => Nat.beq m.1 q.1)).or ((zk_ina am q.1).or (Nat.beq q.1 72))).not), A.2.2.2.2)
theorem zk_bh_ok (hw : zk_W B gh J fz) (hN : zk_N τ A) (hH : zk_Hp B gh J τ A H) (hB : zk_Bs B gh J H') (hF : zk_Fr gh mods am H H') : zk_N τ (zk_bh mods am A) ∧ zk_Hp B gh J τ (zk_bh mods am A) H' := by
  obtain ⟨b1, b2, -, -, b5, b6, b7, b8⟩ := hB
  obtain ⟨g1, g2, g3, g4, g5, g6, g7, g8⟩ := hH
  refine ⟨hN, b1, b2, fun e he => ?_, fun e he => ?_, fun p k r hr => ?_, b6, fun c hc => ?_, b8⟩
  · obtain ⟨e0, h0, rfl⟩ := List.mem_map.mp he
    obtain ⟨h1, h2⟩ := List.mem_filter.mp h0
    have h2 : (zk_inm mods e0.1 e0.2.1).or (zk_ina am e0.1) = false := by simpa using h2
    obtain ⟨h3, h4⟩ := Bool.or_eq_false_iff.mp h2
    refine ⟨(g3 e0 h1).1, ?_⟩
    show zk_fv gh H' e0.1 e0.2.1 = zk_ev τ e0.2.2.2
    rw [(hF.2 _ _ h3 h4).1]
    exact (g3 e0 h1).2
  · obtain ⟨h1, h2⟩ := List.mem_filter.mp he
    have h2 : (mods.any (fun m => Nat.beq m.1 e.1)).or ((zk_ina am e.1).or (Nat.beq e.1 72)) = false := by simpa using h2
    obtain ⟨h3, h4⟩ := Bool.or_eq_false_iff.mp h2
    obtain ⟨h4, h8⟩ := Bool.or_eq_false_iff.mp h4
    obtain ⟨f1, f2, f3, f4⟩ := g4 e h1
    refine ⟨f1, f2, f3, ?_⟩
    have h5 : zk_inm mods e.1 (zk_ev τ e.2.1).toNat = false := by
      cases hb : zk_inm mods e.1 (zk_ev τ e.2.1).toNat with
      | false => rfl
      | true =>
        obtain ⟨m, m1, m2⟩ := List.any_eq_true.mp hb
        rw [List.any_eq_true.mpr ⟨m, m1, (Bool.and_eq_true_iff.mp m2).1⟩] at h3
        cases h3
    have h6 := (hF.2 _ _ h5 h4).1
    by_cases h7 : e.1 = 72 ∧ (zk_ev τ e.2.1).toNat = 100
    · rw [h7.1] at h8
      cases h8
    · unfold zk_fv at h6
      rw [if_neg h7, if_neg h7] at h6
      rw [h6]
      exact f4
  · rcases b5 p k r hr with ⟨e, he, -⟩ | h9
    · exact absurd he List.not_mem_nil
    · exact Or.inr h9
  · rcases b7 c hc with ⟨e, he, -⟩ | h9
    · exact absurd he List.not_mem_nil
    · exact Or.inr h9
end KF
end
section
/-! ===== the abstract executor: instructions ===== -/
abbrev zk_LV : Type := List (Nat × zk_V)
abbrev zk_O : Type := zk_A × Nat × zk_LV × List zk_V
def zk_cat (v : zk_V) : Nat := match v with
  | .inr none => 2
  | _ => 1
def zk_get : zk_LV → Nat → Option zk_V
  | [], _ => none
  | q :: l, i => bif Nat.beq q.1 i then some q.2 else zk_get l i
def zk_st1 (lv : zk_LV) (i : Nat) (v : zk_V) : zk_LV := (i, v) :: lv.filter (fun q => !(q.1 == i) && !(q.1 + 1 == i && zk_cat q.2 == 2))
def zk_st2 (lv : zk_LV) (i : Nat) (v : zk_V) : zk_LV := (i, v) :: lv.filter (fun q => !(q.1 == i) && (!(q.1 == i + 1) && !(q.1 + 1 == i && zk_cat q.2 == 2)))
theorem zk_cat_ok {τ : Nat → Int} {n : Nat} {a : zk_V} {v : zp_V} (h : zk_gV τ n a v) : zk_cat a = zp_cat v := by
  match a, v, h with
  | .inl i, .inl x, _ => rfl
  | .inr none, .inr (.inl _), _ => rfl
  | .inr (some r), .inr (.inr r'), _ => rfl
def zk_L (τ : Nat → Int) (n : Nat) (lv : zk_LV) (lc : zp_LV) : Prop := ∀ i v, zk_get lv i = some v → ∃ w, zp_get lc i = some w ∧ zk_gV τ n v w
theorem zk_get_ok {τ : Nat → Int} {n i : Nat} {v : zk_V} {lv : zk_LV} {lc : zp_LV} (h : zk_L τ n lv lc) (hv : zk_get lv i = some v) : ∃ w, zp_get lc i = some w ∧ zk_gV τ n v w := h i v hv
theorem zk_get_f {f : Nat × zk_V → Bool} {j : Nat} {v : zk_V} : ∀ {lv : zk_LV}, zk_get (lv.filter f) j = some v → ∃ q ∈ lv, q.1 = j ∧ q.2 = v ∧ f q = true
  | [], h => by cases h
  | q :: l, h => by
    rw [List.filter_cons] at h
    cases hf : f q with
    | false =>
      rw [hf] at h
      obtain ⟨q9, h1, h2⟩ := zk_get_f (lv := l) h
      exact ⟨q9, List.mem_cons_of_mem _ h1, h2⟩
    | true =>
      rw [hf] at h
      have h : zk_get (q :: l.filter f) j = some v := h
      unfold zk_get at h
      cases hb : Nat.beq q.1 j with
      | true =>
        rw [hb] at h
        exact ⟨q, List.mem_cons_self, za_beq hb, Option.some.inj h, hf⟩
      | false =>
        rw [hb] at h
        obtain ⟨q9, h1, h2⟩ := zk_get_f (lv := l) h
        exact ⟨q9, List.mem_cons_of_mem _ h1, h2⟩
/-- no local stands there twice -/
def zk_u1 : zk_LV → Bool
  | [] => true
  | q :: l => (l.all (fun r => (Nat.beq r.1 q.1).not)).and (zk_u1 l)
theorem zk_u1_get {q : Nat × zk_V} : ∀ {lv : zk_LV}, zk_u1 lv = true → q ∈ lv → zk_get lv q.1 = some q.2
  | [], _, hq => absurd hq List.not_mem_nil
  | r :: l, h, hq => by
    obtain ⟨h1, h2⟩ := Bool.and_eq_true_iff.mp h
    unfold zk_get
    rcases List.mem_cons.mp hq with rfl | hq
    · rw [Nat.beq_refl]
      rfl
    · have h3 := List.all_eq_true.mp h1 q hq
      cases hb : Nat.beq r.1 q.1 with
      | true =>
        rw [za_beq hb, Nat.beq_refl] at h3
        cases h3
      | false => exact zk_u1_get h2 hq
theorem zp_get_f {f : Nat × zp_V → Bool} {j : Nat} {w : zp_V} : ∀ {lc : zp_LV}, zp_get lc j = some w → (∀ q ∈ lc, q.1 = j → q.2 = w → f q = true) → zp_get (lc.filter f) j = some w
  | [], h, _ => by cases h
  | q :: l, h, hf => by
    unfold zp_get at h
    rw [List.filter_cons]
    cases hb : Nat.beq q.1 j with
    | true =>
      rw [hb] at h
      have e := Option.some.inj h
      rw [hf q List.mem_cons_self (za_beq hb) e]
      show (bif Nat.beq q.1 j then some q.2 else _) = _
      rw [hb]
      exact congrArg some e
    | false =>
      rw [hb] at h
      have ih := zp_get_f (lc := l) h (fun q9 h1 h2 h3 => hf q9 (List.mem_cons_of_mem _ h1) h2 h3)
      cases hq : f q with
      | false => exact ih
      | true =>
        show (bif Nat.beq q.1 j then some q.2 else zp_get (l.filter f) j) = _
        rw [hb]
        exact ih
theorem zk_st1_ok {τ : Nat → Int} {n i : Nat} {v : zk_V} {w : zp_V} {lv : zk_LV} {lc : zp_LV} (hu : zk_u1 lv = true) (h : zk_L τ n lv lc) (hv : zk_gV τ n v w) : zk_L τ n (zk_st1 lv i v) (zp_st1 lc i w) := by
  intro j v' hj
  unfold zk_st1 at hj
  unfold zk_get at hj
  show ∃ w9, (bif Nat.beq i j then some w else zp_get (lc.filter _) j) = some w9 ∧ _
  cases hb : Nat.beq i j with
  | true =>
    rw [hb] at hj
    cases hj
    exact ⟨w, rfl, hv⟩
  | false =>
    rw [hb] at hj
    obtain ⟨q, q1, q2, q3, q4⟩ := zk_get_f hj
    have hg := zk_u1_get hu q1
    rw [q2, q3] at hg
    obtain ⟨w', w1, w2⟩ := h j v' hg
    refine ⟨w', zp_get_f w1 (fun r r1 r2 r3 => ?_), w2⟩
    rw [q2, q3] at q4
    rw [r2, r3, ← zk_cat_ok w2]
    exact q4
theorem zk_st2_ok {τ : Nat → Int} {n i : Nat} {v : zk_V} {w : zp_V} {lv : zk_LV} {lc : zp_LV} (hu : zk_u1 lv = true) (h : zk_L τ n lv lc) (hv : zk_gV τ n v w) : zk_L τ n (zk_st2 lv i v) (zp_st2 lc i w) := by
  intro j v' hj
  unfold zk_st2 at hj
  unfold zk_get at hj
  show ∃ w9, (bif Nat.beq i j then some w else zp_get (lc.filter _) j) = some w9 ∧ _
  cases hb : Nat.beq i j with
  | true =>
    rw [hb] at hj
    cases hj
    exact ⟨w, rfl, hv⟩
  | false =>
    rw [hb] at hj
    obtain ⟨q, q1, q2, q3, q4⟩ := zk_get_f hj
    have hg := zk_u1_get hu q1
    rw [q2, q3] at hg
    obtain ⟨w', w1, w2⟩ := h j v' hg
    refine ⟨w', zp_get_f w1 (fun r r1 r2 r3 => ?_), w2⟩
    rw [q2, q3] at q4
    rw [r2, r3, ← zk_cat_ok w2]
    exact q4
def zk_St (B : zk_B) (gh : zp_H → Int) (J : zp_H → Prop) (mods : List (Nat × Nat)) (am : List Nat) (τ : Nat → Int) (A : zk_A) (t : zp_T) (n : zp_N) (o : zk_O) : Prop :=
  ∃ τ' lc' sc' H', n = some (.inl (o.2.1, lc', sc', H', t.2)) ∧ zk_ext A.1 τ τ' ∧ A.1 ≤ o.1.1 ∧ zk_N τ' o.1 ∧ zk_Hp B gh J τ' o.1 H' ∧ zk_L τ' o.1.1 o.2.2.1 lc' ∧ za_F2 (zk_gV τ' o.1.1) o.2.2.2 sc' ∧ zk_Fr gh mods am t.1 H'
section KI
variable {B : zk_B} {gh : zp_H → Int} {J : zp_H → Prop} {fz : Nat → Nat → Bool} {τ : Nat → Int} {A : zk_A} {t : zp_T} {mods : List (Nat × Nat)} {am : List Nat} {pc pc' : Nat} {lv lv' : zk_LV} {st st' : List zk_V} {lc lc' : zp_LV} {sc sc' : List zp_V} {o : zk_O} {x : Int32} {q : zk_A × zk_I}
theorem zk_lv_x {n n' : Nat} {τ τ' : Nat → Int} (hn : n ≤ n') (h : zk_ext n τ τ') {lv : zk_LV} {lc : zp_LV} (hl : zk_L τ n lv lc) : zk_L τ' n' lv lc := fun i v hv => (hl i v hv).imp (fun _ hw => ⟨hw.1, zk_gV_x hn h hw.2⟩)
theorem zk_st_x {n n' : Nat} {τ τ' : Nat → Int} (hn : n ≤ n') (h : zk_ext n τ τ') {st : List zk_V} {sc : List zp_V} (hl : za_F2 (zk_gV τ n) st sc) : za_F2 (zk_gV τ' n') st sc := za_F2_mono (fun _ _ hab => zk_gV_x hn h hab) hl
theorem zk_St_same (hN : zk_N τ A) (hH : zk_Hp B gh J τ A t.1) (hl : zk_L τ A.1 lv' lc') (hs : za_F2 (zk_gV τ A.1) st' sc') : zk_St B gh J mods am τ A t (zp_go lc' t pc' sc') (A, pc', lv', st') :=
  ⟨τ, lc', sc', t.1, rfl, zk_ext_r τ, Nat.le_refl _, hN, hH, hl, hs, zk_Fr_r _⟩
theorem zk_St_push (hl : zk_L τ A.1 lv lc) (hs : za_F2 (zk_gV τ A.1) st sc) (h : zk_Rh B gh J τ A t.1 x.toInt q) : zk_St B gh J mods am τ A t (zp_go lc t pc' (.inl x :: sc)) (q.1, pc', lv, .inl q.2 :: st) := by
  obtain ⟨τ', h1, h2, h3, h4, h5, h6⟩ := h
  exact ⟨τ', lc, .inl x :: sc, t.1, rfl, h1, h2, h3, h4, zk_lv_x h2 h1 hl, ⟨⟨h5, h6⟩, zk_st_x h2 h1 hs⟩, zk_Fr_r _⟩
theorem zk_gI_v {n : Nat} {a : zk_I} {v : zp_V} (h : zk_gV τ n (.inl a) v) : ∃ x : Int32, v = .inl x ∧ a.1 ≤ n ∧ x.toInt = zk_ev τ a := by
  match v, h with
  | .inl x, h => exact ⟨x, rfl, h.1, h.2⟩
theorem zk_gL_v {n : Nat} {v : zp_V} (h : zk_gV τ n (.inr none) v) : ∃ x : Int64, v = .inr (.inl x) := by
  match v, h with
  | .inr (.inl x), _ => exact ⟨x, rfl⟩
theorem zk_gR_v {n : Nat} {r : Option Nat} {v : zp_V} (h : zk_gV τ n (.inr (some r)) v) : v = .inr (.inr r) := by
  match v, h with
  | .inr (.inr r'), h => rw [show r' = r from h]
def zk_bin (f : zk_A → zk_I → zk_I → Option (zk_A × zk_I)) (A : zk_A) (pc : Nat) (lv : zk_LV) (st : List zk_V) : Option zk_O := match st with
  | .inl b :: .inl a :: r => match f A a b with
    | some q => some (q.1, pc + 1, lv, .inl q.2 :: r)
    | none => none
  | _ => none
theorem zk_bin_ok {f : zk_A → zk_I → zk_I → Option (zk_A × zk_I)} (g : Int32 → Int32 → Int32) (hf : ∀ {a b : zk_I} {x y : Int32} {q : zk_A × zk_I}, a.1 ≤ A.1 → b.1 ≤ A.1 → x.toInt = zk_ev τ a → y.toInt = zk_ev τ b → f A a b = some q → zk_Rs τ A (g x y).toInt q) (hN : zk_N τ A) (hH : zk_Hp B gh J τ A t.1) (hl : zk_L τ A.1 lv lc) (hs : za_F2 (zk_gV τ A.1) st sc) (h : zk_bin f A pc lv st = some o) : zk_St B gh J mods am τ A t (zp_binI g pc lc sc t) o := by
  unfold zk_bin at h
  split at h
  · rename_i b a r
    obtain ⟨_, s1, rfl, v1, q1⟩ := za_F2_cons hs
    obtain ⟨_, s2, rfl, v2, q2⟩ := za_F2_cons q1
    obtain ⟨y, rfl, y1, y2⟩ := zk_gI_v v1
    obtain ⟨x, rfl, x1, x2⟩ := zk_gI_v v2
    split at h
    · rename_i q hq
      cases h
      exact zk_St_push hl q2 (zk_Rs_h hH (hf x1 y1 x2 y2 hq))
    · cases h
  · cases h
theorem zk_binD_ok {f : zk_A → zk_I → zk_I → Option (zk_A × zk_I)} (g : Int32 → Int32 → Int32) (hf : ∀ {a b : zk_I} {x y : Int32} {q : zk_A × zk_I}, a.1 ≤ A.1 → b.1 ≤ A.1 → x.toInt = zk_ev τ a → y.toInt = zk_ev τ b → f A a b = some q → y ≠ 0 ∧ zk_Rs τ A (g x y).toInt q) (hN : zk_N τ A) (hH : zk_Hp B gh J τ A t.1) (hl : zk_L τ A.1 lv lc) (hs : za_F2 (zk_gV τ A.1) st sc) (h : zk_bin f A pc lv st = some o) : zk_St B gh J mods am τ A t (zp_divI g pc lc sc t) o := by
  unfold zk_bin at h
  split at h
  · rename_i b a r
    obtain ⟨_, s1, rfl, v1, q1⟩ := za_F2_cons hs
    obtain ⟨_, s2, rfl, v2, q2⟩ := za_F2_cons q1
    obtain ⟨y, rfl, y1, y2⟩ := zk_gI_v v1
    obtain ⟨x, rfl, x1, x2⟩ := zk_gI_v v2
    split at h
    · rename_i q hq
      cases h
      obtain ⟨h1, h2⟩ := hf x1 y1 x2 y2 hq
      unfold zp_divI
      dsimp only
      rw [show (if y = 0 then none else zp_go lc t (pc + 1) (.inl (g x y) :: s2)) = zp_go lc t (pc + 1) (.inl (g x y) :: s2) from if_neg h1]
      exact zk_St_push hl q2 (zk_Rs_h hH h2)
    · cases h
  · cases h
/-- nothing is known of it -/
def zk_any (A : zk_A) (_ _ : zk_I) : Option (zk_A × zk_I) := some (zk_full A)
theorem zk_any_ok {a b : zk_I} (hN : zk_N τ A) (h : zk_any A a b = some q) : zk_Rs τ A x.toInt q := by
  cases h
  exact zk_full_ok hN x
def zk_un (f : zk_A → zk_I → Option (zk_A × zk_I)) (A : zk_A) (pc : Nat) (lv : zk_LV) (st : List zk_V) : Option zk_O := match st with
  | .inl a :: r => match f A a with
    | some q => some (q.1, pc + 1, lv, .inl q.2 :: r)
    | none => none
  | _ => none
theorem zk_un_ok {f : zk_A → zk_I → Option (zk_A × zk_I)} (g : Int32 → Int32) (hf : ∀ {a : zk_I} {x : Int32} {q : zk_A × zk_I}, a.1 ≤ A.1 → x.toInt = zk_ev τ a → f A a = some q → zk_Rs τ A (g x).toInt q) (hH : zk_Hp B gh J τ A t.1) (hl : zk_L τ A.1 lv lc) (hs : za_F2 (zk_gV τ A.1) st sc) (h : zk_un f A pc lv st = some o) : zk_St B gh J mods am τ A t (zp_unI g pc lc sc t) o := by
  unfold zk_un at h
  split at h
  · rename_i a r
    obtain ⟨_, s1, rfl, v1, q1⟩ := za_F2_cons hs
    obtain ⟨x, rfl, x1, x2⟩ := zk_gI_v v1
    split at h
    · rename_i q hq
      cases h
      exact zk_St_push hl q1 (zk_Rs_h hH (hf x1 x2 hq))
    · cases h
  · cases h
/-! longs -/
def zk_binL (A : zk_A) (pc : Nat) (lv : zk_LV) (st : List zk_V) : Option zk_O := match st with
  | .inr none :: .inr none :: r => some (A, pc + 1, lv, .inr none :: r)
  | _ => none
theorem zk_binL_ok (g : Int64 → Int64 → Int64) (hN : zk_N τ A) (hH : zk_Hp B gh J τ A t.1) (hl : zk_L τ A.1 lv lc) (hs : za_F2 (zk_gV τ A.1) st sc) (h : zk_binL A pc lv st = some o) : zk_St B gh J mods am τ A t (zp_binL g pc lc sc t) o := by
  unfold zk_binL at h
  split at h
  · obtain ⟨_, s1, rfl, v1, q1⟩ := za_F2_cons hs
    obtain ⟨_, s2, rfl, v2, q2⟩ := za_F2_cons q1
    obtain ⟨y, rfl⟩ := zk_gL_v v1
    obtain ⟨x, rfl⟩ := zk_gL_v v2
    cases h
    exact zk_St_same hN hH hl ⟨trivial, q2⟩
  · cases h
def zk_shL (A : zk_A) (pc : Nat) (lv : zk_LV) (st : List zk_V) : Option zk_O := match st with
  | .inl _ :: .inr none :: r => some (A, pc + 1, lv, .inr none :: r)
  | _ => none
theorem zk_shL_ok (g : Int64 → Int32 → Int64) (hN : zk_N τ A) (hH : zk_Hp B gh J τ A t.1) (hl : zk_L τ A.1 lv lc) (hs : za_F2 (zk_gV τ A.1) st sc) (h : zk_shL A pc lv st = some o) : zk_St B gh J mods am τ A t (zp_shL g pc lc sc t) o := by
  unfold zk_shL at h
  split at h
  · obtain ⟨_, s1, rfl, v1, q1⟩ := za_F2_cons hs
    obtain ⟨_, s2, rfl, v2, q2⟩ := za_F2_cons q1
    obtain ⟨y, rfl, -, -⟩ := zk_gI_v v1
    obtain ⟨x, rfl⟩ := zk_gL_v v2
    cases h
    exact zk_St_same hN hH hl ⟨trivial, q2⟩
  · cases h
def zk_i2l (A : zk_A) (pc : Nat) (lv : zk_LV) (st : List zk_V) : Option zk_O := match st with
  | .inl _ :: r => some (A, pc + 1, lv, .inr none :: r)
  | _ => none
theorem zk_i2l_ok (hN : zk_N τ A) (hH : zk_Hp B gh J τ A t.1) (hl : zk_L τ A.1 lv lc) (hs : za_F2 (zk_gV τ A.1) st sc) (h : zk_i2l A pc lv st = some o) : zk_St B gh J mods am τ A t (zp_i2l pc lc sc t) o := by
  unfold zk_i2l at h
  split at h
  · obtain ⟨_, s1, rfl, v1, q1⟩ := za_F2_cons hs
    obtain ⟨y, rfl, -, -⟩ := zk_gI_v v1
    cases h
    exact zk_St_same hN hH hl ⟨trivial, q1⟩
  · cases h
def zk_l2i (A : zk_A) (pc : Nat) (lv : zk_LV) (st : List zk_V) : Option zk_O := match st with
  | .inr none :: r => some ((zk_full A).1, pc + 1, lv, .inl (zk_full A).2 :: r)
  | _ => none
theorem zk_l2i_ok (hN : zk_N τ A) (hH : zk_Hp B gh J τ A t.1) (hl : zk_L τ A.1 lv lc) (hs : za_F2 (zk_gV τ A.1) st sc) (h : zk_l2i A pc lv st = some o) : zk_St B gh J mods am τ A t (zp_l2i pc lc sc t) o := by
  unfold zk_l2i at h
  split at h
  · obtain ⟨_, s1, rfl, v1, q1⟩ := za_F2_cons hs
    obtain ⟨y, rfl⟩ := zk_gL_v v1
    cases h
    exact zk_St_push hl q1 (zk_Rs_h hH (zk_full_ok hN _))
  · cases h
theorem zk_cmp1 (x y : Int64) : -1 ≤ (lg_cmp x y).toInt ∧ (lg_cmp x y).toInt ≤ 1 := by
  unfold lg_cmp
  split
  · decide
  · split <;> decide
def zk_lcmp (A : zk_A) (pc : Nat) (lv : zk_LV) (st : List zk_V) : Option zk_O := match st with
  | .inr none :: .inr none :: r => some ((zk_fresh A (-1) 1 1).1, pc + 1, lv, .inl (zk_fresh A (-1) 1 1).2 :: r)
  | _ => none
theorem zk_lcmp_ok (hN : zk_N τ A) (hH : zk_Hp B gh J τ A t.1) (hl : zk_L τ A.1 lv lc) (hs : za_F2 (zk_gV τ A.1) st sc) (h : zk_lcmp A pc lv st = some o) : zk_St B gh J mods am τ A t (zp_lcmp pc lc sc t) o := by
  unfold zk_lcmp at h
  split at h
  · obtain ⟨_, s1, rfl, v1, q1⟩ := za_F2_cons hs
    obtain ⟨_, s2, rfl, v2, q2⟩ := za_F2_cons q1
    obtain ⟨y, rfl⟩ := zk_gL_v v1
    obtain ⟨x, rfl⟩ := zk_gL_v v2
    cases h
    have z := zk_cmp1 x y
    exact zk_St_push hl q2 (zk_Rs_h hH (zk_fresh_ok hN z.1 z.2 (Int.one_dvd _)))
  · cases h
/-! locals, stack -/
def zk_sel (k : Nat) (v : zk_V) : Bool := match k, v with
  | 0, .inl _ => true
  | 1, .inr none => true
  | 2, .inr (some (some _)) => true
  | _, _ => false
def zk_load (n i k : Nat) (A : zk_A) (pc : Nat) (lv : zk_LV) (st : List zk_V) : Option zk_O := match zk_get lv i with
  | some v => bif zk_sel k v then some (A, pc + n, lv, v :: st) else none
  | none => none
theorem zk_sel_ok {n k : Nat} {v : zk_V} {w : zp_V} (h : zk_sel k v = true) (hv : zk_gV τ n v w) : (k = 0 → zp_isI w = true) ∧ (k = 1 → zp_isL w = true) ∧ (k = 2 → zp_isR w = true) := by
  match k, v, w, h, hv with
  | 0, .inl _, .inl _, _, _ => exact ⟨fun _ => rfl, fun h => (by cases h), fun h => (by cases h)⟩
  | 1, .inr none, .inr (.inl _), _, _ => exact ⟨fun h => (by cases h), fun _ => rfl, fun h => (by cases h)⟩
  | 2, .inr (some (some r)), .inr (.inr r'), _, hv =>
    have e : r' = some r := hv
    subst e
    exact ⟨fun h => (by cases h), fun h => (by cases h), fun _ => rfl⟩
theorem zk_load_ok {n i k : Nat} {f : zp_V → Bool} (hf : ∀ {v : zk_V} {w : zp_V}, zk_sel k v = true → zk_gV τ A.1 v w → f w = true) (hN : zk_N τ A) (hH : zk_Hp B gh J τ A t.1) (hl : zk_L τ A.1 lv lc) (hs : za_F2 (zk_gV τ A.1) st sc) (h : zk_load n i k A pc lv st = some o) : zk_St B gh J mods am τ A t (zp_load n i f pc lc sc t) o := by
  unfold zk_load at h
  split at h
  · rename_i v hv
    obtain ⟨h1, h⟩ := za_bif h
    cases h
    obtain ⟨w, w1, w2⟩ := zk_get_ok hl hv
    unfold zp_load
    rw [w1]
    dsimp only
    rw [hf h1 w2]
    exact zk_St_same hN hH hl ⟨w2, hs⟩
  · cases h
def zk_stor (n i k nL : Nat) (A : zk_A) (pc : Nat) (lv : zk_LV) (st : List zk_V) : Option zk_O := match st with
  | v :: r => bif zk_sel k v then bif Nat.blt i nL then bif zk_u1 lv then some (A, pc + n, zk_st1 lv i v, r) else none else none else none
  | _ => none
theorem zk_stor_ok {n i k nL : Nat} {f : zp_V → Bool} (hf : ∀ {v : zk_V} {w : zp_V}, zk_sel k v = true → zk_gV τ A.1 v w → f w = true) (hN : zk_N τ A) (hH : zk_Hp B gh J τ A t.1) (hl : zk_L τ A.1 lv lc) (hs : za_F2 (zk_gV τ A.1) st sc) (h : zk_stor n i k nL A pc lv st = some o) : zk_St B gh J mods am τ A t (zp_stor1 n i nL f pc lc sc t) o := by
  unfold zk_stor at h
  split at h
  · rename_i v r
    obtain ⟨h1, h⟩ := za_bif h
    obtain ⟨h2, h⟩ := za_bif h
    obtain ⟨hu, h⟩ := za_bif h
    cases h
    obtain ⟨w, s1, rfl, w2, q1⟩ := za_F2_cons hs
    unfold zp_stor1
    dsimp only
    rw [hf h1 w2, h2]
    exact zk_St_same hN hH (zk_st1_ok hu hl w2) q1
  · cases h
def zk_stor2 (n i nL : Nat) (A : zk_A) (pc : Nat) (lv : zk_LV) (st : List zk_V) : Option zk_O := match st with
  | .inr none :: r => bif Nat.blt (i + 1) nL then bif zk_u1 lv then some (A, pc + n, zk_st2 lv i (.inr none), r) else none else none
  | _ => none
theorem zk_stor2_ok {n i nL : Nat} (hN : zk_N τ A) (hH : zk_Hp B gh J τ A t.1) (hl : zk_L τ A.1 lv lc) (hs : za_F2 (zk_gV τ A.1) st sc) (h : zk_stor2 n i nL A pc lv st = some o) : zk_St B gh J mods am τ A t (zp_stor2 n i nL pc lc sc t) o := by
  unfold zk_stor2 at h
  split at h
  · obtain ⟨h2, h⟩ := za_bif h
    obtain ⟨hu, h⟩ := za_bif h
    cases h
    obtain ⟨_, s1, rfl, w2, q1⟩ := za_F2_cons hs
    obtain ⟨w, rfl⟩ := zk_gL_v w2
    unfold zp_stor2
    dsimp only
    rw [h2]
    exact zk_St_same hN hH (zk_st2_ok hu hl w2) q1
  · cases h
def zk_iinc (i nL : Nat) (d : Int) (A : zk_A) (pc : Nat) (lv : zk_LV) (st : List zk_V) : Option zk_O := bif za_in d d then match zk_get lv i with
  | some (.inl a) => match zk_add A a (0, d) with
    | some q => bif Nat.blt i nL then bif zk_u1 lv then some (q.1, pc + 3, zk_st1 lv i (.inl q.2), st) else none else none
    | none => none
  | _ => none
  else none
theorem zk_ofInt {d : Int} (h : za_in d d = true) : (Int32.ofInt d).toInt = d := by
  have h1 := za_in_t h
  rw [Int32.toInt_ofInt]
  exact za_bmod h1.1 h1.2
theorem zk_iinc_ok {i nL : Nat} {d : Int} (hN : zk_N τ A) (hH : zk_Hp B gh J τ A t.1) (hl : zk_L τ A.1 lv lc) (hs : za_F2 (zk_gV τ A.1) st sc) (h : zk_iinc i nL d A pc lv st = some o) : zk_St B gh J mods am τ A t (zp_iinc i nL d pc lc sc t) o := by
  unfold zk_iinc at h
  obtain ⟨h0, h⟩ := za_bif h
  split at h
  · rename_i a ha
    split at h
    · rename_i q hq
      obtain ⟨h2, h⟩ := za_bif h
      obtain ⟨hu, h⟩ := za_bif h
      cases h
      obtain ⟨w, w1, w2⟩ := zk_get_ok hl ha
      obtain ⟨x, rfl, x1, x2⟩ := zk_gI_v w2
      obtain ⟨τ', f1, f2, f3, f4, f5, f6⟩ := zk_Rs_h hH (zk_add_ok (y := Int32.ofInt d) (b := (0, d)) hN x1 (Nat.zero_le _) x2 (show _ = d from zk_ofInt h0) hq)
      unfold zp_iinc
      rw [w1]
      dsimp only
      rw [h2]
      exact ⟨τ', _, _, t.1, rfl, f1, f2, f3, f4, zk_st1_ok (w := .inl (x + Int32.ofInt d)) hu (zk_lv_x f2 f1 hl) ⟨f5, f6⟩, zk_st_x f2 f1 hs, zk_Fr_r _⟩
    · cases h
  · cases h
def zk_dup (A : zk_A) (pc : Nat) (lv : zk_LV) (st : List zk_V) : Option zk_O := match st with
  | v :: r => bif Nat.beq (zk_cat v) 1 then some (A, pc + 1, lv, v :: v :: r) else none
  | _ => none
theorem zk_dup_ok (hN : zk_N τ A) (hH : zk_Hp B gh J τ A t.1) (hl : zk_L τ A.1 lv lc) (hs : za_F2 (zk_gV τ A.1) st sc) (h : zk_dup A pc lv st = some o) : zk_St B gh J mods am τ A t (zp_dup pc lc sc t) o := by
  unfold zk_dup at h
  split at h
  · obtain ⟨h2, h⟩ := za_bif h
    cases h
    obtain ⟨w, s1, rfl, w2, q1⟩ := za_F2_cons hs
    unfold zp_dup
    dsimp only
    rw [← zk_cat_ok w2, h2]
    exact zk_St_same hN hH hl ⟨w2, w2, q1⟩
  · cases h
def zk_pop (A : zk_A) (pc : Nat) (lv : zk_LV) (st : List zk_V) : Option zk_O := match st with
  | v :: r => bif Nat.beq (zk_cat v) 1 then some (A, pc + 1, lv, r) else none
  | _ => none
theorem zk_pop_ok (hN : zk_N τ A) (hH : zk_Hp B gh J τ A t.1) (hl : zk_L τ A.1 lv lc) (hs : za_F2 (zk_gV τ A.1) st sc) (h : zk_pop A pc lv st = some o) : zk_St B gh J mods am τ A t (zp_pop pc lc sc t) o := by
  unfold zk_pop at h
  split at h
  · obtain ⟨h2, h⟩ := za_bif h
    cases h
    obtain ⟨w, s1, rfl, w2, q1⟩ := za_F2_cons hs
    unfold zp_pop
    dsimp only
    rw [← zk_cat_ok w2, h2]
    exact zk_St_same hN hH hl q1
  · cases h
def zk_dup2 (A : zk_A) (pc : Nat) (lv : zk_LV) (st : List zk_V) : Option zk_O := match st with
  | u :: v :: r => bif Nat.beq (zk_cat u) 1 then bif Nat.beq (zk_cat v) 1 then some (A, pc + 1, lv, u :: v :: u :: v :: r) else none else none
  | _ => none
theorem zk_dup2_ok (hN : zk_N τ A) (hH : zk_Hp B gh J τ A t.1) (hl : zk_L τ A.1 lv lc) (hs : za_F2 (zk_gV τ A.1) st sc) (h : zk_dup2 A pc lv st = some o) : zk_St B gh J mods am τ A t (zp_dup2 pc lc sc t) o := by
  unfold zk_dup2 at h
  split at h
  · obtain ⟨h2, h⟩ := za_bif h
    obtain ⟨h3, h⟩ := za_bif h
    cases h
    obtain ⟨w, s1, rfl, w2, q1⟩ := za_F2_cons hs
    obtain ⟨u, s2, rfl, u2, q2⟩ := za_F2_cons q1
    unfold zp_dup2
    dsimp only
    rw [← zk_cat_ok w2, h2, ← zk_cat_ok u2, h3]
    exact zk_St_same hN hH hl ⟨w2, u2, w2, u2, q2⟩
  · cases h
def zk_jmp (d : Int) (A : zk_A) (pc : Nat) (lv : zk_LV) (st : List zk_V) : Option zk_O := match zp_to d pc with
  | some g => some (A, g, lv, st)
  | none => none
theorem zk_jmp_ok {d : Int} (hN : zk_N τ A) (hH : zk_Hp B gh J τ A t.1) (hl : zk_L τ A.1 lv lc) (hs : za_F2 (zk_gV τ A.1) st sc) (h : zk_jmp d A pc lv st = some o) : zk_St B gh J mods am τ A t (zp_jmp d pc lc sc t) o := by
  unfold zk_jmp at h
  split at h
  · rename_i g hg
    cases h
    unfold zp_jmp
    rw [hg]
    exact zk_St_same hN hH hl hs
  · cases h
end KI
end
section
/-! ===== the abstract executor: instructions of the heap ===== -/
def zk_kd (ty : FieldType) : Nat := match ty with
  | .long => 1
  | .object _ => 2
  | .array _ => 2
  | _ => 0
theorem zk_kd0 {H : zp_H} {p k : Nat} {ty : FieldType} (h : zk_kd ty = 0) : zp_fv H p ty k = .inl (H.2.1 p k) := by
  cases ty <;> first | rfl | cases h
theorem zk_kd1 {H : zp_H} {p k : Nat} {ty : FieldType} (h : zk_kd ty = 1) : zp_fv H p ty k = .inr (.inl (H.2.2.1 p k)) := by
  cases ty <;> first | rfl | cases h
theorem zk_kd2 {H : zp_H} {p k n : Nat} {ty : FieldType} (h : zk_kd ty = n + 2) : zp_fv H p ty k = .inr (.inr (H.2.2.2 p k)) := by
  cases ty <;> first | rfl | cases h
theorem zp_getf_e {ci k p cj : Nat} {z : Int} {pc : Nat} {lc : zp_LV} {s1 : List zp_V} {t : zp_T} (hp : t.1.1[p]? = some (.inl cj)) (h : Nat.beq cj ci = true) : zp_getf (some (0, ci, k, z)) pc lc (.inr (.inr (some (p + 1))) :: s1) t = zp_go lc t (pc + 3) (zp_fv t.1 p (za_tyX ci k) k :: s1) := by
  show (match t.1.1[p]? with
    | some (.inl cj) => bif Nat.beq cj ci then zp_go lc t (pc + 3) (zp_fv t.1 p (za_tyX ci k) k :: s1) else none
    | _ => none) = _
  rw [hp]
  show (bif Nat.beq cj ci then zp_go lc t (pc + 3) (zp_fv t.1 p (za_tyX ci k) k :: s1) else none) = _
  rw [h]
  rfl
theorem zp_putf_e {ci k p cj : Nat} {fin : Int} {own : Nat} {ini : Bool} {pc : Nat} {lc : zp_LV} {w : zp_V} {s1 : List zp_V} {t : zp_T} (hp : t.1.1[p]? = some (.inl cj)) (h1 : Nat.beq cj ci = true) (h2 : Nat.blt k (za_nX ci) = true) (hf : zp_fit (za_tyX ci k) w = true) (h3 : fin = 0) : zp_putf (some (0, ci, k, fin)) own ini pc lc (w :: .inr (.inr (some (p + 1))) :: s1) t = zp_go lc (zp_wf t.1 p k w, t.2) (pc + 3) s1 := by
  show (match t.1.1[p]? with
    | some (.inl cj) => bif Nat.beq cj ci then bif Nat.blt k (za_nX ci) then bif zp_fit (za_tyX ci k) w then if fin = 0 ∨ (ini = true ∧ ci = own) then zp_go lc (zp_wf t.1 p k w, t.2) (pc + 3) s1 else none else none else none else none
    | _ => none) = _
  rw [hp]
  show (bif Nat.beq cj ci then bif Nat.blt k (za_nX ci) then bif zp_fit (za_tyX ci k) w then if fin = 0 ∨ (ini = true ∧ ci = own) then zp_go lc (zp_wf t.1 p k w, t.2) (pc + 3) s1 else none else none else none else none) = _
  rw [h1, h2, hf]
  exact if_pos (Or.inl h3)
theorem zp_lld_e {p n : Nat} {x : Int32} {pc : Nat} {lc : zp_LV} {s1 : List zp_V} {t : zp_T} (hp : t.1.1[p]? = some (.inr (3, n))) (h : 0 ≤ x.toInt ∧ x.toInt < n) : zp_lld pc lc (.inl x :: .inr (.inr (some (p + 1))) :: s1) t = zp_go lc t (pc + 1) (.inr (.inl (t.1.2.2.1 p x.toInt.toNat)) :: s1) := by
  show (match t.1.1[p]? with
    | some (.inr (3, n)) => if 0 ≤ x.toInt ∧ x.toInt < n then zp_go lc t (pc + 1) (.inr (.inl (t.1.2.2.1 p x.toInt.toNat)) :: s1) else none
    | _ => none) = _
  rw [hp]
  exact if_pos h
theorem zp_lst_e {p n : Nat} {x : Int32} {y : Int64} {pc : Nat} {lc : zp_LV} {s1 : List zp_V} {t : zp_T} (hp : t.1.1[p]? = some (.inr (3, n))) (h : 0 ≤ x.toInt ∧ x.toInt < n) : zp_lst pc lc (.inr (.inl y) :: .inl x :: .inr (.inr (some (p + 1))) :: s1) t = zp_go lc ((t.1.1, t.1.2.1, zp_u t.1.2.2.1 p x.toInt.toNat y, t.1.2.2.2), t.2) (pc + 1) s1 := by
  show (match t.1.1[p]? with
    | some (.inr (3, n)) => if 0 ≤ x.toInt ∧ x.toInt < n then zp_go lc ((t.1.1, t.1.2.1, zp_u t.1.2.2.1 p x.toInt.toNat y, t.1.2.2.2), t.2) (pc + 1) s1 else none
    | _ => none) = _
  rw [hp]
  exact if_pos h
theorem zp_acp_e {p0 p1 n0 n1 : Nat} {cn dp sp : Int32} {pc : Nat} {lc : zp_LV} {rest : List zp_V} {t : zp_T} (hp0 : t.1.1[p0]? = some (.inr (0, n0))) (hp1 : t.1.1[p1]? = some (.inr (0, n1))) (h : 0 ≤ cn.toInt ∧ 0 ≤ dp.toInt ∧ 0 ≤ sp.toInt ∧ sp.toInt + cn.toInt ≤ n0 ∧ dp.toInt + cn.toInt ≤ n1 ∧ zp_wt rest ≤ 8) : zp_acp pc lc (.inl cn :: .inl dp :: .inr (.inr (some (p1 + 1))) :: .inl sp :: .inr (.inr (some (p0 + 1))) :: rest) t = zp_go lc ((t.1.1, zp_ua t.1.2.1 p1 (va_cpy (t.1.2.1 p0) (t.1.2.1 p1) sp.toInt.toNat dp.toInt.toNat cn.toInt.toNat), t.1.2.2), t.2) (pc + 3) rest := by
  show (match t.1.1[p0]?, t.1.1[p1]? with
    | some (.inr (0, n0)), some (.inr (0, n1)) => if 0 ≤ cn.toInt ∧ 0 ≤ dp.toInt ∧ 0 ≤ sp.toInt ∧ sp.toInt + cn.toInt ≤ n0 ∧ dp.toInt + cn.toInt ≤ n1 ∧ zp_wt rest ≤ 8 then zp_go lc ((t.1.1, zp_ua t.1.2.1 p1 (va_cpy (t.1.2.1 p0) (t.1.2.1 p1) sp.toInt.toNat dp.toInt.toNat cn.toInt.toNat), t.1.2.2), t.2) (pc + 3) rest else none
    | _, _ => none) = _
  rw [hp0, hp1]
  exact if_pos h
section KJ
variable {B : zk_B} {gh : zp_H → Int} {J : zp_H → Prop} {fz : Nat → Nat → Bool} {τ : Nat → Int} {A : zk_A} {t : zp_T} {mods : List (Nat × Nat)} {am : List Nat} {pc pc' : Nat} {lv lv' : zk_LV} {st st' : List zk_V} {lc lc' : zp_LV} {sc sc' : List zp_V} {o : zk_O} {x : Int32} {q : zk_A × zk_I}
def zk_getI (B : zk_B) (r : Option za_row) (A : zk_A) (pc : Nat) (lv : zk_LV) (st : List zk_V) : Option zk_O := match r, st with
  | some (0, ci, k, _), .inr (some (some (p + 1))) :: rest => match B.1[p]? with
    | some (.inl cj) => bif Nat.beq cj ci then bif Nat.blt k 100 then match zk_kd (za_tyX ci k) with
      | 0 => match zk_getf B A p k with
        | some z => some (z.1, pc + 3, lv, .inl z.2 :: rest)
        | none => none
      | 1 => some (A, pc + 3, lv, .inr none :: rest)
      | _ + 2 => match B.2.1 p k with
        | some r => some (A, pc + 3, lv, .inr (some r) :: rest)
        | none => none
      else none else none
    | _ => none
  | _, _ => none
theorem zk_getI_ok {r : Option za_row} (hN : zk_N τ A) (hH : zk_Hp B gh J τ A t.1) (hl : zk_L τ A.1 lv lc) (hs : za_F2 (zk_gV τ A.1) st sc) (h : zk_getI B r A pc lv st = some o) : zk_St B gh J mods am τ A t (zp_getf r pc lc sc t) o := by
  unfold zk_getI at h
  split at h
  · rename_i ci k z p rest
    obtain ⟨_, s1, rfl, v1, q1⟩ := za_F2_cons hs
    have e := zk_gR_v v1
    subst e
    split at h
    · rename_i cj hp
      obtain ⟨h1, h⟩ := za_bif h
      obtain ⟨h2, h⟩ := za_bif h
      have h2 := za_blt h2
      rw [show p.succ = p + 1 from rfl, zp_getf_e (by rw [hH.1]; exact hp) h1]
      split at h
      · rename_i hk
        split at h
        · rename_i z9 hz
          cases h
          rw [zk_kd0 hk]
          have g := zk_getf_ok hN hH hz
          have e : zk_fv gh t.1 p k = (t.1.2.1 p k).toInt := by
            unfold zk_fv
            rw [if_neg (fun hh => absurd hh.2 (by omega))]
          rw [e] at g
          exact zk_St_push hl q1 g
        · cases h
      · rename_i hk
        cases h
        rw [zk_kd1 hk]
        exact zk_St_same hN hH hl ⟨trivial, q1⟩
      · rename_i n hk
        split at h
        · rename_i r hr
          cases h
          rw [zk_kd2 hk, hH.2.1 p k r hr]
          exact zk_St_same hN hH hl ⟨rfl, q1⟩
        · cases h
    · cases h
  · cases h
/-- may this field be written? the ghost too -/
def zk_may (B : zk_B) (mods : List (Nat × Nat)) (p k : Nat) : Bool := (zk_inm mods p k).and (bif B.2.2.2.2.2 p k then zk_inm mods 72 100 else true)
theorem zk_Fr_put {H : zp_H} {p k : Nat} (hw : zk_W B gh J fz) (hm : zk_may B mods p k = true) : zk_Fr gh mods am H (H.1, zp_u H.2.1 p k x, H.2.2) := by
  refine ⟨rfl, ?_⟩
  intro p' k' h1 h2
  refine ⟨?_, rfl⟩
  obtain ⟨m1, m2⟩ := Bool.and_eq_true_iff.mp hm
  have hn : ¬ (p' = p ∧ k' = k) := by
    rintro ⟨rfl, rfl⟩
    rw [m1] at h1
    cases h1
  unfold zk_fv
  by_cases h3 : p' = 72 ∧ k' = 100
  · rw [if_pos h3, if_pos h3]
    refine hw.2.1 H _ (fun p9 k9 h9 => ⟨zp_u_ne ?_, rfl⟩)
    rintro ⟨rfl, rfl⟩
    rw [h9] at m2
    rw [h3.1, h3.2] at h1
    rw [show zk_inm mods 72 100 = true from m2] at h1
    cases h1
  · rw [if_neg h3, if_neg h3]
    show (zp_u H.2.1 p k x p' k').toInt = _
    rw [zp_u_ne hn]
theorem zk_Fr_putl {H : zp_H} {p k : Nat} {y : Int64} (hw : zk_W B gh J fz) (hm : zk_may B mods p k = true) : zk_Fr gh mods am H (H.1, H.2.1, zp_u H.2.2.1 p k y, H.2.2.2) := by
  refine ⟨rfl, ?_⟩
  intro p' k' h1 h2
  obtain ⟨m1, m2⟩ := Bool.and_eq_true_iff.mp hm
  have hn : ¬ (p' = p ∧ k' = k) := by
    rintro ⟨rfl, rfl⟩
    rw [m1] at h1
    cases h1
  refine ⟨?_, zp_u_ne hn⟩
  unfold zk_fv
  by_cases h3 : p' = 72 ∧ k' = 100
  · rw [if_pos h3, if_pos h3]
    refine hw.2.1 H _ (fun p9 k9 h9 => ⟨rfl, zp_u_ne ?_⟩)
    rintro ⟨rfl, rfl⟩
    rw [h9] at m2
    rw [h3.1, h3.2] at h1
    rw [show zk_inm mods 72 100 = true from m2] at h1
    cases h1
  · rw [if_neg h3, if_neg h3]
theorem zk_Fr_arr {H : zp_H} {p t n : Nat} {f : Nat → Nat → Int32} {g : Nat → Nat → Int64} (hw : zk_W B gh J fz) (hp : B.1[p]? = some (.inr (t, n))) (hm : zk_ina am p = true) (hf : ∀ p' k', p' ≠ p → f p' k' = H.2.1 p' k' ∧ g p' k' = H.2.2.1 p' k') : zk_Fr gh mods am H (H.1, f, g, H.2.2.2) := by
  refine ⟨rfl, ?_⟩
  intro p' k' h1 h2
  have hn : p' ≠ p := by
    rintro rfl
    rw [hm] at h2
    cases h2
  refine ⟨?_, (hf p' k' hn).2⟩
  unfold zk_fv
  by_cases h3 : p' = 72 ∧ k' = 100
  · rw [if_pos h3, if_pos h3]
    refine hw.2.1 H _ (fun p9 k9 h9 => ?_)
    obtain ⟨ci, h8⟩ := hw.2.2.2.2.2.1 p9 k9 h9
    refine hf p9 k9 ?_
    rintro rfl
    rw [hp] at h8
    cases h8
  · rw [if_neg h3, if_neg h3]
    show (f p' k').toInt = _
    rw [(hf p' k' hn).1]
def zk_putI (B : zk_B) (fz : Nat → Nat → Bool) (mods : List (Nat × Nat)) (r : Option za_row) (A : zk_A) (pc : Nat) (lv : zk_LV) (st : List zk_V) : Option zk_O := match r, st with
  | some (0, ci, k, fin), v :: .inr (some (some (p + 1))) :: rest => match B.1[p]? with
    | some (.inl cj) => bif Nat.beq cj ci then bif Nat.blt k (za_nX ci) then bif za_ieq fin 0 then bif zk_may B mods p k then match za_tyX ci k, v with
      | .int, .inl a => match zk_putf B fz A p k a with
        | some A' => some (A', pc + 3, lv, rest)
        | none => none
      | .boolean, .inl a => bif zk_sub1 A a (0, 1) then match zk_putf B fz A p k a with
        | some A' => some (A', pc + 3, lv, rest)
        | none => none else none
      | .long, .inr none => match zk_putl B fz A p k with
        | some A' => some (A', pc + 3, lv, rest)
        | none => none
      | _, _ => none
      else none else none else none else none
    | _ => none
  | _, _ => none
theorem zk_x01 {x : Int32} (h1 : 0 ≤ x.toInt) (h2 : x.toInt ≤ 1) : x = 0 ∨ x = 1 := by
  by_cases h : x.toInt = 0
  · exact Or.inl (Int32.toInt_inj.mp (by rw [h]; rfl))
  · exact Or.inr (Int32.toInt_inj.mp (by rw [show x.toInt = 1 by omega]; rfl))
theorem zk_putI_ok {r : Option za_row} {own : Nat} {ini : Bool} (hw : zk_W B gh J fz) (hN : zk_N τ A) (hH : zk_Hp B gh J τ A t.1) (hl : zk_L τ A.1 lv lc) (hs : za_F2 (zk_gV τ A.1) st sc) (h : zk_putI B fz mods r A pc lv st = some o) : zk_St B gh J mods am τ A t (zp_putf r own ini pc lc sc t) o := by
  unfold zk_putI at h
  split at h
  · rename_i ci k fin v p rest
    obtain ⟨w, s1, rfl, v1, q1⟩ := za_F2_cons hs
    obtain ⟨_, s2, rfl, v2, q2⟩ := za_F2_cons q1
    have e := zk_gR_v v2
    subst e
    split at h
    · rename_i cj hp
      replace h := za_bif h
      obtain ⟨h1, h⟩ := h
      replace h := za_bif h
      obtain ⟨h2, h⟩ := h
      replace h := za_bif h
      obtain ⟨h3, h⟩ := h
      replace h := za_bif h
      obtain ⟨h4, h⟩ := h
      have h3 := za_ieq_t h3
      have key : zp_fit (za_tyX ci k) w = true → zp_putf (some (0, ci, k, fin)) own ini pc lc (w :: .inr (.inr (some (p + 1))) :: s2) t = zp_go lc (zp_wf t.1 p k w, t.2) (pc + 3) s2 := by
        intro hf
        exact zp_putf_e (by rw [hH.1]; exact hp) h1 h2 hf h3
      split at h
      · rename_i a hty
        obtain ⟨x, rfl, x1, x2⟩ := zk_gI_v v1
        split at h
        · rename_i A' hA
          cases h
          rw [key (by rw [hty]; rfl)]
          obtain ⟨f1, f2, f3⟩ := zk_putf_ok hw hp hN hH x1 x2 hA
          exact ⟨τ, lc, s2, _, rfl, zk_ext_r τ, by rw [f1]; exact Nat.le_refl _, f2, f3, by rw [f1]; exact hl, by rw [f1]; exact q2, zk_Fr_put hw h4⟩
        · cases h
      · rename_i a hty
        replace h := za_bif h
        obtain ⟨h5, h⟩ := h
        obtain ⟨x, rfl, x1, x2⟩ := zk_gI_v v1
        have hb := zk_sub1_ok hN h5
        split at h
        · rename_i A' hA
          cases h
          rw [key (by rw [hty]; exact decide_eq_true (zk_x01 (by rw [x2]; exact hb.1) (by rw [x2]; exact hb.2)))]
          obtain ⟨f1, f2, f3⟩ := zk_putf_ok hw hp hN hH x1 x2 hA
          exact ⟨τ, lc, s2, _, rfl, zk_ext_r τ, by rw [f1]; exact Nat.le_refl _, f2, f3, by rw [f1]; exact hl, by rw [f1]; exact q2, zk_Fr_put hw h4⟩
        · cases h
      · rename_i hty
        obtain ⟨x, rfl⟩ := zk_gL_v v1
        split at h
        · rename_i A' hA
          cases h
          rw [key (by rw [hty]; rfl)]
          have hfz : fz p k = false := by
            unfold zk_putl at hA
            cases hz : fz p k with
            | false => rfl
            | true => rw [hz] at hA; cases hA
          obtain ⟨f1, f2, f3⟩ := zk_putl_ok (hl := zp_u t.1.2.2.1 p k x) hw hN hH hA (fun p' k' h' => zp_u_ne (by rintro ⟨rfl, rfl⟩; rw [hfz] at h'; cases h')) (fun hg p' k' h' => zp_u_ne (by rintro ⟨rfl, rfl⟩; rw [hg] at h'; cases h'))
          exact ⟨τ, lc, s2, _, rfl, zk_ext_r τ, by rw [f1]; exact Nat.le_refl _, f2, f3, by rw [f1]; exact hl, by rw [f1]; exact q2, zk_Fr_putl hw h4⟩
        · cases h
      · cases h
    · cases h
  · cases h
/-! arrays -/
def zk_aldI (B : zk_B) (bt : Bool) (A : zk_A) (pc : Nat) (lv : zk_LV) (st : List zk_V) : Option zk_O := match st with
  | .inl i :: .inr (some (some (p + 1))) :: rest => match B.1[p]? with
    | some (.inr (ty, n)) => bif Bool.xor bt (Nat.beq ty 0) then bif Nat.blt ty 3 then match zk_ald B A p n i with
      | some z => some (z.1, pc + 1, lv, .inl z.2 :: rest)
      | none => none
      else none else none
    | _ => none
  | _ => none
theorem zk_bt {bt : Bool} {ty : Nat} (h : Bool.xor bt (Nat.beq ty 0) = true) : bt = false ↔ ty = 0 := by
  cases bt with
  | false =>
    have h : Nat.beq ty 0 = true := by simpa using h
    exact ⟨fun _ => za_beq h, fun _ => rfl⟩
  | true =>
    have h : Nat.beq ty 0 = false := by simpa using h
    refine ⟨fun z => (by cases z), fun z => ?_⟩
    rw [z] at h
    cases h
theorem zk_aldI_ok {L : Nat} {σ : Nat → Int32} {bt : Bool} (hN : zk_N τ A) (hH : zk_Hp B gh J τ A t.1) (hl : zk_L τ A.1 lv lc) (hs : za_F2 (zk_gV τ A.1) st sc) (h : zk_aldI B bt A pc lv st = some o) : zk_St B gh J mods am τ A t (zp_ald L σ bt pc lc sc t) o := by
  unfold zk_aldI at h
  split at h
  · rename_i i p rest
    obtain ⟨_, s1, rfl, v1, q1⟩ := za_F2_cons hs
    obtain ⟨_, s2, rfl, v2, q2⟩ := za_F2_cons q1
    have e := zk_gR_v v2
    subst e
    obtain ⟨x, rfl, x1, x2⟩ := zk_gI_v v1
    split at h
    · rename_i ty n hp
      obtain ⟨h1, h⟩ := za_bif h
      obtain ⟨h2, h⟩ := za_bif h
      split at h
      · rename_i z hz
        cases h
        obtain ⟨i0, i1, hr⟩ := zk_ald_ok hp hN hH x1 hz
        rw [← x2] at i0 i1 hr
        unfold zp_ald
        try dsimp only
        rw [hH.1, hp]
        try dsimp only
        rw [if_pos ⟨zk_bt h1, za_blt h2, i0, i1⟩]
        exact zk_St_push hl q2 hr
      · cases h
    · cases h
  · cases h
def zk_astI (B : zk_B) (fz : Nat → Nat → Bool) (am : List Nat) (bt : Bool) (A : zk_A) (pc : Nat) (lv : zk_LV) (st : List zk_V) : Option zk_O := match st with
  | .inl v :: .inl i :: .inr (some (some (p + 1))) :: rest => match B.1[p]? with
    | some (.inr (ty, n)) => bif Bool.xor bt (Nat.beq ty 0) then bif zk_ina am p then bif (match ty with
        | 0 => true
        | 1 => zk_sub1 A v (-128, 127)
        | 2 => zk_sub1 A v (0, 1)
        | _ => false) then match zk_ast B fz A p n i v with
      | some A' => some (A', pc + 1, lv, rest)
      | none => none
      else none else none else none
    | _ => none
  | _ => none
theorem zk_nar1 {x : Int32} (h1 : -128 ≤ x.toInt) (h2 : x.toInt ≤ 127) : zp_nar 1 x = x := by
  show (match narrow .byte (.int x) with | .int y => y | _ => 0) = x
  show x.toInt8.toInt32 = x
  exact zn_i2b' h1 h2
theorem zk_nar2 {x : Int32} (h1 : 0 ≤ x.toInt) (h2 : x.toInt ≤ 1) : zp_nar 2 x = x := by
  rcases zk_x01 h1 h2 with rfl | rfl
  · rfl
  · rfl
theorem zk_astI_ok {bt : Bool} (hw : zk_W B gh J fz) (hN : zk_N τ A) (hH : zk_Hp B gh J τ A t.1) (hl : zk_L τ A.1 lv lc) (hs : za_F2 (zk_gV τ A.1) st sc) (h : zk_astI B fz am bt A pc lv st = some o) : zk_St B gh J mods am τ A t (zp_ast bt pc lc sc t) o := by
  unfold zk_astI at h
  split at h
  · rename_i v i p rest
    obtain ⟨_, s0, rfl, v0, q0⟩ := za_F2_cons hs
    obtain ⟨_, s1, rfl, v1, q1⟩ := za_F2_cons q0
    obtain ⟨_, s2, rfl, v2, q2⟩ := za_F2_cons q1
    have e := zk_gR_v v2
    subst e
    obtain ⟨x, rfl, x1, x2⟩ := zk_gI_v v1
    obtain ⟨y, rfl, y1, y2⟩ := zk_gI_v v0
    split at h
    · rename_i ty n hp
      obtain ⟨h1, h⟩ := za_bif h
      obtain ⟨h2, h⟩ := za_bif h
      obtain ⟨h3, h⟩ := za_bif h
      have hty : ty < 3 ∧ zp_nar ty y = y := by
        match ty, h3 with
        | 0, _ => exact ⟨by decide, rfl⟩
        | 1, h3 =>
          have hb := zk_sub1_ok hN h3
          exact ⟨by decide, zk_nar1 (by rw [y2]; exact hb.1) (by rw [y2]; exact hb.2)⟩
        | 2, h3 =>
          have hb := zk_sub1_ok hN h3
          exact ⟨by decide, zk_nar2 (by rw [y2]; exact hb.1) (by rw [y2]; exact hb.2)⟩
      split at h
      · rename_i A' hA
        cases h
        obtain ⟨i0, i1, f1, f2, f3⟩ := zk_ast_ok hw hp hN hH x1 y1 y2 hA
        rw [← x2] at i0 i1 f3
        unfold zp_ast
        try dsimp only
        rw [hH.1, hp]
        try dsimp only
        rw [if_pos ⟨zk_bt h1, hty.1, i0, i1⟩, hty.2]
        rw [hH.1] at f3
        exact ⟨τ, lc, s2, _, rfl, zk_ext_r τ, by rw [f1]; exact Nat.le_refl _, f2, f3, by rw [f1]; exact hl, by rw [f1]; exact q2, by
          rw [← hH.1]
          exact zk_Fr_arr hw hp h2 (fun p' k' hn => ⟨zp_u_ne (fun z => hn z.1), rfl⟩)⟩
      · cases h
    · cases h
  · cases h
def zk_lldI (B : zk_B) (A : zk_A) (pc : Nat) (lv : zk_LV) (st : List zk_V) : Option zk_O := match st with
  | .inl i :: .inr (some (some (p + 1))) :: rest => match B.1[p]? with
    | some (.inr (3, n)) => bif zk_ix A i n then some (A, pc + 1, lv, .inr none :: rest) else none
    | _ => none
  | _ => none
theorem zk_lldI_ok (hN : zk_N τ A) (hH : zk_Hp B gh J τ A t.1) (hl : zk_L τ A.1 lv lc) (hs : za_F2 (zk_gV τ A.1) st sc) (h : zk_lldI B A pc lv st = some o) : zk_St B gh J mods am τ A t (zp_lld pc lc sc t) o := by
  unfold zk_lldI at h
  split at h
  · rename_i i p rest
    obtain ⟨_, s1, rfl, v1, q1⟩ := za_F2_cons hs
    obtain ⟨_, s2, rfl, v2, q2⟩ := za_F2_cons q1
    have e := zk_gR_v v2
    subst e
    obtain ⟨x, rfl, x1, x2⟩ := zk_gI_v v1
    split at h
    · rename_i n hp
      obtain ⟨h1, h⟩ := za_bif h
      cases h
      have i0 := zk_ix_ok hN h1
      rw [← x2] at i0
      rw [show p.succ = p + 1 from rfl, zp_lld_e (by rw [hH.1]; exact hp) i0]
      exact zk_St_same hN hH hl ⟨trivial, q2⟩
    · cases h
  · cases h
def zk_lstI (B : zk_B) (fz : Nat → Nat → Bool) (am : List Nat) (A : zk_A) (pc : Nat) (lv : zk_LV) (st : List zk_V) : Option zk_O := match st with
  | .inr none :: .inl i :: .inr (some (some (p + 1))) :: rest => match B.1[p]? with
    | some (.inr (3, n)) => bif zk_ix A i n then bif zk_ina am p then match zk_putl B fz A p 0 with
      | some A' => some (A', pc + 1, lv, rest)
      | none => none
      else none else none
    | _ => none
  | _ => none
theorem zk_lstI_ok (hw : zk_W B gh J fz) (hN : zk_N τ A) (hH : zk_Hp B gh J τ A t.1) (hl : zk_L τ A.1 lv lc) (hs : za_F2 (zk_gV τ A.1) st sc) (h : zk_lstI B fz am A pc lv st = some o) : zk_St B gh J mods am τ A t (zp_lst pc lc sc t) o := by
  unfold zk_lstI at h
  split at h
  · rename_i i p rest
    obtain ⟨_, s0, rfl, v0, q0⟩ := za_F2_cons hs
    obtain ⟨_, s1, rfl, v1, q1⟩ := za_F2_cons q0
    obtain ⟨_, s2, rfl, v2, q2⟩ := za_F2_cons q1
    have e := zk_gR_v v2
    subst e
    obtain ⟨x, rfl, x1, x2⟩ := zk_gI_v v1
    obtain ⟨y, rfl⟩ := zk_gL_v v0
    split at h
    · rename_i n hp
      obtain ⟨h1, h⟩ := za_bif h
      obtain ⟨h2, h⟩ := za_bif h
      split at h
      · rename_i A' hA
        cases h
        have i0 := zk_ix_ok hN h1
        rw [← x2] at i0
        have hfz : fz p 0 = false := by
          unfold zk_putl at hA
          cases hz : fz p 0 with
          | false => rfl
          | true => rw [hz] at hA; cases hA
        obtain ⟨f1, f2, f3⟩ := zk_putl_ok (hl := zp_u t.1.2.2.1 p x.toInt.toNat y) hw hN hH hA (fun p' k' h' => zp_u_ne (by
          rintro ⟨rfl, rfl⟩
          rw [hw.2.2.2.2.2.2.1 _ _ _ _ hp, hfz] at h'
          cases h')) (fun _ p' k' h' => zp_u_ne (by
          rintro ⟨rfl, rfl⟩
          obtain ⟨ci, h8⟩ := hw.2.2.2.2.2.1 _ _ h'
          rw [hp] at h8
          cases h8))
        rw [show p.succ = p + 1 from rfl, zp_lst_e (by rw [hH.1]; exact hp) i0]
        exact ⟨τ, lc, s2, _, rfl, zk_ext_r τ, by rw [f1]; exact Nat.le_refl _, f2, f3, by rw [f1]; exact hl, by rw [f1]; exact q2, by
          exact zk_Fr_arr hw hp h2 (fun p' k' hn => ⟨rfl, zp_u_ne (fun z => hn z.1)⟩)⟩
      · cases h
    · cases h
  · cases h
def zk_alenI (B : zk_B) (A : zk_A) (pc : Nat) (lv : zk_LV) (st : List zk_V) : Option zk_O := match st with
  | .inr (some (some (p + 1))) :: rest => match B.1[p]? with
    | some (.inr (_, n)) => bif Nat.blt n 100000 then some (A, pc + 1, lv, .inl (0, (n : Int)) :: rest) else none
    | _ => none
  | _ => none
theorem zk_alenI_ok {L : Nat} (hN : zk_N τ A) (hH : zk_Hp B gh J τ A t.1) (hl : zk_L τ A.1 lv lc) (hs : za_F2 (zk_gV τ A.1) st sc) (h : zk_alenI B A pc lv st = some o) : zk_St B gh J mods am τ A t (zp_alen L pc lc sc t) o := by
  unfold zk_alenI at h
  split at h
  · rename_i p rest
    obtain ⟨_, s1, rfl, v1, q1⟩ := za_F2_cons hs
    have e := zk_gR_v v1
    subst e
    split at h
    · rename_i ty n hp
      obtain ⟨h1, h⟩ := za_bif h
      have h1 := za_blt h1
      cases h
      unfold zp_alen
      try dsimp only
      rw [hH.1, hp]
      exact zk_St_same hN hH hl ⟨⟨Nat.zero_le _, Int32.toInt_ofNat_of_lt (by omega)⟩, q1⟩
    · cases h
  · cases h
/-- one range within another -/
def zk_le2 (r s : Int × Int) : Bool := (za_ile s.1 r.1).and (za_ile r.2 s.2)
def zk_acpI (B : zk_B) (fz : Nat → Nat → Bool) (am : List Nat) (A : zk_A) (pc : Nat) (lv : zk_LV) (st : List zk_V) : Option zk_O := match st with
  | .inl (0, c) :: .inl (0, d) :: .inr (some (some (p1 + 1))) :: .inl (0, s) :: .inr (some (some (p0 + 1))) :: rest => match B.1[p0]?, B.1[p1]?, B.2.2.2.1 p0, B.2.2.2.1 p1 with
    | some (.inr (0, n0)), some (.inr (0, n1)), (1, [r0]), (1, [r1]) => bif zk_le2 r0 r1 then bif (za_ile 0 c).and ((za_ile 0 d).and ((za_ile 0 s).and ((za_ile (s + c) n0).and (za_ile (d + c) n1)))) then bif Nat.ble rest.length 4 then bif zk_ina am p1 then match zk_arw fz A p1 with
      | some A' => some (A', pc + 3, lv, rest)
      | none => none
      else none else none else none else none
    | _, _, _, _ => none
  | _ => none
theorem zk_wt4 {n : Nat} : ∀ {st : List zk_V} {sc : List zp_V}, za_F2 (zk_gV τ n) st sc → zp_wt sc ≤ 2 * st.length
  | [], [], _ => Nat.le_refl _
  | a :: st, v :: sc, h => by
    have ih := zk_wt4 h.2
    have h9 : zp_cat v ≤ 2 := by
      unfold zp_cat
      split <;> omega
    show zp_cat v + zp_wt sc ≤ 2 * (st.length + 1)
    omega
  | [], _ :: _, h => h.elim
  | _ :: _, [], h => h.elim
theorem zk_acpI_ok (hw : zk_W B gh J fz) (hN : zk_N τ A) (hH : zk_Hp B gh J τ A t.1) (hl : zk_L τ A.1 lv lc) (hs : za_F2 (zk_gV τ A.1) st sc) (h : zk_acpI B fz am A pc lv st = some o) : zk_St B gh J mods am τ A t (zp_acp pc lc sc t) o := by
  unfold zk_acpI at h
  split at h
  · rename_i c d p1 s p0 rest
    obtain ⟨_, s0, rfl, v0, q0⟩ := za_F2_cons hs
    obtain ⟨_, s1, rfl, v1, q1⟩ := za_F2_cons q0
    obtain ⟨_, s2, rfl, v2, q2⟩ := za_F2_cons q1
    obtain ⟨_, s3, rfl, v3, q3⟩ := za_F2_cons q2
    obtain ⟨_, s4, rfl, v4, q4⟩ := za_F2_cons q3
    have e2 := zk_gR_v v2
    subst e2
    have e4 := zk_gR_v v4
    subst e4
    obtain ⟨xc, rfl, -, xc2⟩ := zk_gI_v v0
    obtain ⟨xd, rfl, -, xd2⟩ := zk_gI_v v1
    obtain ⟨xs, rfl, -, xs2⟩ := zk_gI_v v3
    have xc2 : xc.toInt = c := xc2
    have xd2 : xd.toInt = d := xd2
    have xs2 : xs.toInt = s := xs2
    split at h
    · rename_i n0 n1 r0 r1 hp0 hp1 ha0 ha1
      obtain ⟨h1, h⟩ := za_bif h
      obtain ⟨h2, h⟩ := za_bif h
      obtain ⟨h3, h⟩ := za_bif h
      obtain ⟨h4, h⟩ := za_bif h
      obtain ⟨c1, h2⟩ := Bool.and_eq_true_iff.mp h2
      obtain ⟨c2, h2⟩ := Bool.and_eq_true_iff.mp h2
      obtain ⟨c3, h2⟩ := Bool.and_eq_true_iff.mp h2
      obtain ⟨c4, c5⟩ := Bool.and_eq_true_iff.mp h2
      have c1 := za_ile_t c1
      have c2 := za_ile_t c2
      have c3 := za_ile_t c3
      have c4 := za_ile_t c4
      have c5 := za_ile_t c5
      obtain ⟨d1, d2⟩ := Bool.and_eq_true_iff.mp h1
      have d1 := za_ile_t d1
      have d2 := za_ile_t d2
      have hwt := zk_wt4 q4
      have h3 := za_ble h3
      split at h
      · rename_i A' hA
        cases h
        have hA0 := hH.2.2.2.2.2.1
        obtain ⟨f1, f2, f3⟩ := zk_arw_ok (g := va_cpy (t.1.2.1 p0) (t.1.2.1 p1) xs.toInt.toNat xd.toInt.toNat xc.toInt.toNat) hw hp1 hN hH (fun i r hi hr => by
          rw [ha1] at hr
          have hr : [r1][i % 1]? = some r := hr
          rw [Nat.mod_one] at hr
          cases hr
          unfold va_cpy
          split
          · rename_i hc
            have g := hA0 p0 0 n0 (xs.toInt.toNat + (i - xd.toInt.toNat)) r0 hp0 (by omega) (by rw [ha0]; show [r0][_ % 1]? = _; rw [Nat.mod_one]; rfl)
            exact ⟨Int.le_trans d1 g.1, Int.le_trans g.2 d2⟩
          · exact hA0 p1 0 n1 i r1 hp1 hi (by rw [ha1]; show [r1][i % 1]? = _; rw [Nat.mod_one]; rfl)) hA
        rw [show p0.succ = p0 + 1 from rfl, show p1.succ = p1 + 1 from rfl, zp_acp_e (by rw [hH.1]; exact hp0) (by rw [hH.1]; exact hp1) ⟨by omega, by omega, by omega, by omega, by omega, by omega⟩]
        exact ⟨τ, lc, s4, _, rfl, zk_ext_r τ, by rw [f1]; exact Nat.le_refl _, f2, f3, by rw [f1]; exact hl, by rw [f1]; exact q4, by
          exact zk_Fr_arr hw hp1 h4 (fun p' k' hn => ⟨by unfold zp_ua; rw [if_neg hn], rfl⟩)⟩
      · cases h
    · cases h
  · cases h
end KJ
end
