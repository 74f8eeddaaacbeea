/-! ===== the abstract executor: writes, arrays ===== -/
section KW
variable {B : zk_B} {gh : zp_H → Int} {J : zp_H → Prop} {fz : Nat → Nat → Bool} {τ : Nat → Int} {A A' : zk_A} {H : zp_H} {z : Int} {a b r i v : zk_I} {x y : Int32} {q : zk_A × zk_I} {p k : Nat}
def zk_is (q : Nat × Nat × Bool × zk_I) (p k : Nat) : Bool := (Nat.beq q.1 p).and (Nat.beq q.2.1 k)
theorem zk_is_f {q : Nat × Nat × Bool × zk_I} (h : zk_is q p k = false) : ¬ (q.1 = p ∧ q.2.1 = k) := by
  rintro ⟨rfl, rfl⟩
  unfold zk_is at h
  rw [Nat.beq_refl, Nat.beq_refl] at h
  cases h
theorem zk_is_n {q : Nat × Nat × Bool × zk_I} (h : ¬ (q.1 = p ∧ q.2.1 = k)) : zk_is q p k = false := by
  cases hb : zk_is q p k with
  | false => rfl
  | true =>
    obtain ⟨h1, h2⟩ := Bool.and_eq_true_iff.mp hb
    exact absurd ⟨za_beq h1, za_beq h2⟩ h
/-- the ghost is forgotten where what it reads is written -/
def zk_kg (B : zk_B) (p k : Nat) (ov : List (Nat × Nat × Bool × zk_I)) : List (Nat × Nat × Bool × zk_I) := bif B.2.2.2.2.2 p k then ov.filter (fun q => (zk_is q 72 100).not) else ov
theorem zk_kg_m {ov : List (Nat × Nat × Bool × zk_I)} {q : Nat × Nat × Bool × zk_I} (h : q ∈ zk_kg B p k ov) : q ∈ ov ∧ (B.2.2.2.2.2 p k = true → ¬ (q.1 = 72 ∧ q.2.1 = 100)) := by
  unfold zk_kg at h
  cases hb : B.2.2.2.2.2 p k with
  | false => rw [hb] at h; exact ⟨h, fun z => by cases z⟩
  | true =>
    rw [hb] at h
    obtain ⟨h1, h2⟩ := List.mem_filter.mp h
    exact ⟨h1, fun _ => zk_is_f (by simpa using h2)⟩
theorem zk_kg_k {ov : List (Nat × Nat × Bool × zk_I)} {q : Nat × Nat × Bool × zk_I} (h : q ∈ ov) (hn : ¬ (q.1 = 72 ∧ q.2.1 = 100)) : q ∈ zk_kg B p k ov := by
  unfold zk_kg
  cases hb : B.2.2.2.2.2 p k with
  | false => exact h
  | true => exact List.mem_filter.mpr ⟨h, by rw [zk_is_n hn]; rfl⟩
/-- an int field is written -/
def zk_putf (B : zk_B) (fz : Nat → Nat → Bool) (A : zk_A) (p k : Nat) (a : zk_I) : Option zk_A := bif (fz p k).or ((Nat.beq p 72).and (Nat.beq k 100)) then none else some (A.1, A.2.1, (p, k, true, a) :: (zk_kg B p k A.2.2.1).filter (fun q => (zk_is q p k).not), A.2.2.2.1.filter (fun q => (Nat.beq q.1 p).not), A.2.2.2.2)
theorem zk_putf_ok {ci : Nat} (hw : zk_W B gh J fz) (hp : B.1[p]? = some (.inl ci)) (hN : zk_N τ A) (hH : zk_Hp B gh J τ A H) (ha : a.1 ≤ A.1) (hx : x.toInt = zk_ev τ a) (h : zk_putf B fz A p k a = some A') : A'.1 = A.1 ∧ zk_N τ A' ∧ zk_Hp B gh J τ A' (H.1, zp_u H.2.1 p k x, H.2.2) := by
  obtain ⟨w1, w2, w3, w4, w5, w6, w7, w8⟩ := hw
  unfold zk_putf at h
  cases hb : (fz p k).or ((Nat.beq p 72).and (Nat.beq k 100)) with
  | true => rw [hb] at h; cases h
  | false =>
    rw [hb] at h
    cases h
    obtain ⟨hb1, hb2⟩ := Bool.or_eq_false_iff.mp hb
    have hg : ¬ (p = 72 ∧ k = 100) := by
      rintro ⟨rfl, rfl⟩
      cases hb2
    refine ⟨rfl, hN, ?_⟩
    obtain ⟨g1, g2, g3, g4, g5, g6, g7, g8⟩ := hH
    have hu : ∀ p' k', ¬ (p' = p ∧ k' = k) → zp_u H.2.1 p k x p' k' = H.2.1 p' k' := fun p' k' hn => zp_u_ne hn
    have hgh : B.2.2.2.2.2 p k = false → gh (H.1, zp_u H.2.1 p k x, H.2.2) = gh H := fun hf => w2 H _ (fun p' k' h' => ⟨hu p' k' (by rintro ⟨rfl, rfl⟩; rw [hf] at h'; cases h'), rfl⟩)
    have hfv : ∀ p' k', ¬ (p' = p ∧ k' = k) → ((p' = 72 ∧ k' = 100) → B.2.2.2.2.2 p k = false) → zk_fv gh (H.1, zp_u H.2.1 p k x, H.2.2) p' k' = zk_fv gh H p' k' := by
      intro p' k' h1 h2
      unfold zk_fv
      by_cases h3 : p' = 72 ∧ k' = 100
      · rw [if_pos h3, if_pos h3, hgh (h2 h3)]
      · rw [if_neg h3, if_neg h3]
        show (zp_u H.2.1 p k x p' k').toInt = _
        rw [hu p' k' h1]
    refine ⟨g1, g2, fun e he => ?_, fun e he => ?_, fun p' k' r' h' => ?_, fun p' t n i r' h1 h2 h3 => ?_, fun c hc => ?_, ?_⟩
    · rcases List.mem_cons.mp he with rfl | he
      · refine ⟨ha, ?_⟩
        show zk_fv gh _ p k = _
        unfold zk_fv
        rw [if_neg hg]
        show (zp_u H.2.1 p k x p k).toInt = _
        rw [zp_u_self]
        exact hx
      · obtain ⟨he, hn⟩ := List.mem_filter.mp he
        obtain ⟨he, hk⟩ := zk_kg_m he
        have hn := zk_is_f (show zk_is e p k = false by simpa using hn)
        refine ⟨(g3 e he).1, ?_⟩
        rw [hfv _ _ hn]
        · exact (g3 e he).2
        · intro h9
          cases hf : B.2.2.2.2.2 p k with
          | false => rfl
          | true => exact absurd h9 (hk hf)
    · obtain ⟨he, hn⟩ := List.mem_filter.mp he
      have hn : e.1 ≠ p := by
        rintro rfl
        rw [Nat.beq_refl] at hn
        cases hn
      obtain ⟨f1, f2, f3, f4⟩ := g4 e he
      refine ⟨f1, f2, f3, ?_⟩
      show (zp_u H.2.1 p k x e.1 _).toInt = _
      rw [hu _ _ (fun z => hn z.1)]
      exact f4
    · by_cases h1 : p' = p ∧ k' = k
      · exact Or.inl ⟨_, List.mem_cons_self, h1.1.symm, h1.2.symm⟩
      · by_cases h2 : p' = 72 ∧ k' = 100
        · right
          unfold zk_fv
          rw [if_pos h2]
          rw [h2.1, h2.2] at h'
          exact w3 _ _ h'
        · rcases g5 p' k' r' h' with ⟨e, he, e1, e2⟩ | h9
          · refine Or.inl ⟨e, List.mem_cons_of_mem _ (List.mem_filter.mpr ⟨zk_kg_k he (by rw [e1, e2]; exact h2), ?_⟩), e1, e2⟩
            rw [zk_is_n (by rw [e1, e2]; exact h1)]
            rfl
          · right
            rw [hfv _ _ h1 (fun z => absurd z h2)]
            exact h9
    · have hn : p' ≠ p := by
        rintro rfl
        rw [h1] at hp
        cases hp
      show zk_in (zp_u H.2.1 p k x p' i).toInt r'
      rw [hu _ _ (fun z => hn z.1)]
      exact g6 p' t n i r' h1 h2 h3
    · obtain ⟨-, c2, c3⟩ := w5 c hc
      by_cases h1 : c.1 = p ∧ (c.2.1 = k ∨ c.2.2.2.1 = k)
      · refine Or.inl ⟨_, List.mem_cons_self, h1.1.symm, ?_, rfl⟩
        rcases h1.2 with h | h
        · exact Or.inl h.symm
        · exact Or.inr h.symm
      · rcases g7 c hc with ⟨e, he, e1, e2, e3⟩ | h9
        · refine Or.inl ⟨e, List.mem_cons_of_mem _ (List.mem_filter.mpr ⟨zk_kg_k he ?_, ?_⟩), e1, e2, e3⟩
          · rintro ⟨-, h9⟩
            rcases e2 with e2 | e2
            · exact c2 (e2 ▸ h9)
            · exact c3 (e2 ▸ h9)
          · rw [zk_is_n]
            · rfl
            · rintro ⟨f1, f2⟩
              refine h1 ⟨e1.symm.trans f1, ?_⟩
              rcases e2 with e2 | e2
              · exact Or.inl (e2.symm.trans f2)
              · exact Or.inr (e2.symm.trans f2)
        · right
          rw [hfv c.1 c.2.1 (fun z => h1 ⟨z.1, Or.inl z.2⟩) (fun z => absurd z.2 c2), hfv c.1 c.2.2.2.1 (fun z => h1 ⟨z.1, Or.inr z.2⟩) (fun z => absurd z.2 c3)]
          exact h9
    · refine w1 H _ rfl (fun p' k' h' => ⟨hu p' k' ?_, rfl⟩) g8
      rintro ⟨rfl, rfl⟩
      rw [hb1] at h'
      cases h'
/-- a long is written, in a field or in an array: numbers stand as they are -/
def zk_putl (B : zk_B) (fz : Nat → Nat → Bool) (A : zk_A) (p k : Nat) : Option zk_A := bif fz p k then none else some (A.1, A.2.1, zk_kg B p k A.2.2.1, A.2.2.2)
theorem zk_putl_ok {hl : Nat → Nat → Int64} (hw : zk_W B gh J fz) (hN : zk_N τ A) (hH : zk_Hp B gh J τ A H) (h : zk_putl B fz A p k = some A') (hl1 : ∀ p' k', fz p' k' = true → hl p' k' = H.2.2.1 p' k') (hl2 : B.2.2.2.2.2 p k = false → ∀ p' k', B.2.2.2.2.2 p' k' = true → hl p' k' = H.2.2.1 p' k') : A'.1 = A.1 ∧ zk_N τ A' ∧ zk_Hp B gh J τ A' (H.1, H.2.1, hl, H.2.2.2) := by
  obtain ⟨w1, w2, w3, w4, w5, w6, w7, w8⟩ := hw
  unfold zk_putl at h
  cases hb : fz p k with
  | true => rw [hb] at h; cases h
  | false =>
    rw [hb] at h
    cases h
    refine ⟨rfl, hN, ?_⟩
    obtain ⟨g1, g2, g3, g4, g5, g6, g7, g8⟩ := hH
    have hgh : B.2.2.2.2.2 p k = false → gh (H.1, H.2.1, hl, H.2.2.2) = gh H := fun hf => w2 H _ (fun p' k' h' => ⟨rfl, hl2 hf p' k' h'⟩)
    have hfv : ∀ p' k', ((p' = 72 ∧ k' = 100) → B.2.2.2.2.2 p k = false) → zk_fv gh (H.1, H.2.1, hl, H.2.2.2) p' k' = zk_fv gh H p' k' := by
      intro p' k' h2
      unfold zk_fv
      by_cases h3 : p' = 72 ∧ k' = 100
      · rw [if_pos h3, if_pos h3, hgh (h2 h3)]
      · rw [if_neg h3, if_neg h3]
    refine ⟨g1, g2, fun e he => ?_, g4, fun p' k' r' h' => ?_, g6, fun c hc => ?_, w1 H _ rfl (fun p' k' h' => ⟨rfl, hl1 p' k' h'⟩) g8⟩
    · obtain ⟨he, hk⟩ := zk_kg_m he
      refine ⟨(g3 e he).1, ?_⟩
      rw [hfv]
      · exact (g3 e he).2
      · intro h9
        cases hf : B.2.2.2.2.2 p k with
        | false => rfl
        | true => exact absurd h9 (hk hf)
    · by_cases h2 : p' = 72 ∧ k' = 100
      · right
        unfold zk_fv
        rw [if_pos h2]
        rw [h2.1, h2.2] at h'
        exact w3 _ _ h'
      · rcases g5 p' k' r' h' with ⟨e, he, e1, e2⟩ | h9
        · exact Or.inl ⟨e, zk_kg_k he (by rw [e1, e2]; exact h2), e1, e2⟩
        · right
          rw [hfv _ _ (fun z => absurd z h2)]
          exact h9
    · obtain ⟨-, c2, c3⟩ := w5 c hc
      rcases g7 c hc with ⟨e, he, e1, e2, e3⟩ | h9
      · refine Or.inl ⟨e, zk_kg_k he ?_, e1, e2, e3⟩
        rintro ⟨-, h9⟩
        rcases e2 with e2 | e2
        · exact c2 (e2 ▸ h9)
        · exact c3 (e2 ▸ h9)
      · right
        rw [hfv c.1 c.2.1 (fun z => absurd z.2 c2), hfv c.1 c.2.2.2.1 (fun z => absurd z.2 c3)]
        exact h9
/-! arrays -/
/-- the rest of the index by m, where it is known -/
def zk_res (A : zk_A) (i : zk_I) (m : Nat) : Option Nat := bif Nat.beq m 1 then some 0 else match i.1 with
  | 0 => some (i.2 % (m : Int)).toNat
  | j + 1 => match zk_lk A.2.1 j with
    | some e => bif Nat.beq (e.2.2.2 % m) 0 then some (i.2 % (m : Int)).toNat else none
    | none => none
theorem zk_res_ok {m s : Nat} (hm : 0 < m) (hN : zk_N τ A) (h0 : 0 ≤ zk_ev τ i) (h : zk_res A i m = some s) : (zk_ev τ i).toNat % m = s := by
  unfold zk_res at h
  cases h1 : Nat.beq m 1 with
  | true =>
    have e := za_beq h1
    rw [h1] at h
    cases h
    rw [e]
    exact Nat.mod_one _
  | false =>
    rw [h1] at h
    simp only [cond_false] at h
    have key : ∀ {u c : Int}, 0 ≤ u → u % (m : Int) = c % (m : Int) → u.toNat % m = (c % (m : Int)).toNat := by
      intro u c hu hc
      obtain ⟨w, rfl⟩ : ∃ w : Nat, u = (w : Int) := ⟨u.toNat, by omega⟩
      rw [← hc, ← Int.natCast_emod, Int.toNat_natCast, Int.toNat_natCast]
    obtain ⟨kk, c⟩ := i
    cases kk with
    | zero =>
      cases h
      exact key h0 rfl
    | succ j =>
      dsimp only at h
      split at h
      · rename_i e he
        obtain ⟨h2, h⟩ := za_bif h
        cases h
        obtain ⟨-, -, -, -, g5⟩ := hN.1 _ (zk_lk_m he)
        have g6 : (m : Int) ∣ τ j := Int.dvd_trans (Int.natCast_dvd_natCast.mpr (Nat.dvd_of_mod_eq_zero (za_beq h2))) g5
        refine key h0 ?_
        show (τ j + c) % (m : Int) = c % (m : Int)
        obtain ⟨w, hw⟩ := g6
        rw [hw, Int.add_comm, Int.add_mul_emod_self_left]
      · cases h
/-- all ranges together -/
def zk_jn : List (Int × Int) → Int × Int
  | [] => (-2147483648, 2147483647)
  | [r] => r
  | r :: l => match zk_jn l with
    | (lo, hi) => (zk_min r.1 lo, zk_max r.2 hi)
theorem zk_min_l (a b : Int) : zk_min a b ≤ a := by
  unfold zk_min
  cases h : za_ile a b with
  | true => exact Int.le_refl _
  | false => have := za_ile_f h; show b ≤ a; omega
theorem zk_min_r (a b : Int) : zk_min a b ≤ b := by
  unfold zk_min
  cases h : za_ile a b with
  | true => exact za_ile_t h
  | false => exact Int.le_refl _
theorem zk_max_l (a b : Int) : a ≤ zk_max a b := by
  unfold zk_max
  cases h : za_ile a b with
  | true => exact za_ile_t h
  | false => exact Int.le_refl _
theorem zk_max_r (a b : Int) : b ≤ zk_max a b := by
  unfold zk_max
  cases h : za_ile a b with
  | true => exact Int.le_refl _
  | false => have := za_ile_f h; show b ≤ a; omega
theorem zk_jn_ok {u : Int} : ∀ {l : List (Int × Int)} {s : Nat} {r : Int × Int}, l[s]? = some r → zk_in u r → zk_in u (zk_jn l)
  | [], s, r, h, _ => by simp at h
  | [r0], 0, r, h, hu => by
    simp at h
    subst h
    exact hu
  | [r0], s + 1, r, h, _ => by simp at h
  | r0 :: r1 :: l, 0, r, h, hu => by
    simp at h
    subst h
    unfold zk_jn
    generalize zk_jn (r1 :: l) = q
    obtain ⟨lo, hi⟩ := q
    exact ⟨Int.le_trans (zk_min_l _ _) hu.1, Int.le_trans hu.2 (zk_max_l _ _)⟩
  | r0 :: r1 :: l, s + 1, r, h, hu => by
    have ih := zk_jn_ok (l := r1 :: l) (by simpa using h) hu
    unfold zk_jn
    generalize zk_jn (r1 :: l) = q at ih ⊢
    obtain ⟨lo, hi⟩ := q
    exact ⟨Int.le_trans (zk_min_r _ _) ih.1, Int.le_trans ih.2 (zk_max_r _ _)⟩
/-- the place lies in the array -/
def zk_ix (A : zk_A) (i : zk_I) (n : Nat) : Bool := match zk_rg A i with
  | some (lo, hi) => (za_ile 0 lo).and (za_ile (hi + 1) (n : Int))
  | none => false
theorem zk_ix_ok {n : Nat} (hN : zk_N τ A) (h : zk_ix A i n = true) : 0 ≤ zk_ev τ i ∧ zk_ev τ i < (n : Int) := by
  unfold zk_ix at h
  split at h
  · rename_i lo hi g
    have r1 := zk_rg_ok hN g
    unfold zk_in at r1
    dsimp only at r1
    obtain ⟨h1, h2⟩ := Bool.and_eq_true_iff.mp h
    have h1 := za_ile_t h1
    have h2 := za_ile_t h2
    omega
  · cases h
def zk_al (p : Nat) (i : zk_I) : List (Nat × zk_I × zk_I) → Option zk_I
  | [] => none
  | q :: l => bif (Nat.beq q.1 p).and (zk_eqI q.2.1 i) then some q.2.2 else zk_al p i l
theorem zk_al_m : ∀ {l : List (Nat × zk_I × zk_I)}, zk_al p i l = some v → (p, i, v) ∈ l
  | [], h => by cases h
  | q :: l, h => by
    unfold zk_al at h
    cases hb : (Nat.beq q.1 p).and (zk_eqI q.2.1 i) with
    | true =>
      rw [hb] at h
      obtain ⟨h1, h2⟩ := Bool.and_eq_true_iff.mp hb
      cases h
      have e1 := za_beq h1
      have e2 := zk_eqI_t h2
      rw [← e1, ← e2]
      exact List.mem_cons_self
    | false =>
      rw [hb] at h
      exact List.mem_cons_of_mem _ (zk_al_m h)
def zk_adda (q : zk_A × zk_I) (p : Nat) (i : zk_I) : zk_A × zk_I := ((q.1.1, q.1.2.1, q.1.2.2.1, (p, i, q.2) :: q.1.2.2.2.1, q.1.2.2.2.2), q.2)
/-- an int is read out of an array -/
def zk_ald (B : zk_B) (A : zk_A) (p n : Nat) (i : zk_I) : Option (zk_A × zk_I) := bif zk_ix A i n then match zk_al p i A.2.2.2.1 with
  | some v => some (A, v)
  | none => match B.2.2.2.1 p with
    | (m, rs) => bif Nat.blt 0 m then bif Nat.beq m rs.length then match (match zk_res A i m with
        | some s => match rs[s]? with
          | some r => r
          | none => zk_jn rs
        | none => zk_jn rs) with
      | (lo, hi) => some (zk_adda (zk_fresh A lo hi 1) p i) else none else none
  else none
theorem zk_ald_ok {t n : Nat} (hp : B.1[p]? = some (.inr (t, n))) (hN : zk_N τ A) (hH : zk_Hp B gh J τ A H) (hi : i.1 ≤ A.1) (h : zk_ald B A p n i = some q) : 0 ≤ zk_ev τ i ∧ zk_ev τ i < (n : Int) ∧ zk_Rh B gh J τ A H (H.2.1 p (zk_ev τ i).toNat).toInt q := by
  unfold zk_ald at h
  obtain ⟨h0, h⟩ := za_bif h
  obtain ⟨i0, i1⟩ := zk_ix_ok hN h0
  refine ⟨i0, i1, ?_⟩
  split at h
  · rename_i v hv
    cases h
    obtain ⟨g1, g2, g3, g4⟩ := hH.2.2.2.1 _ (zk_al_m hv)
    exact ⟨τ, zk_ext_r τ, Nat.le_refl _, hN, hH, g2, g4⟩
  · generalize hm : B.2.2.2.1 p = mr at h
    obtain ⟨m, rs⟩ := mr
    dsimp only at h
    obtain ⟨m0, h⟩ := za_bif h
    obtain ⟨m1, h⟩ := za_bif h
    have m0 := za_blt m0
    have m1 := za_beq m1
    have hlt : (zk_ev τ i).toNat % m < rs.length := by rw [← m1]; exact Nat.mod_lt _ m0
    have hr : zk_in (H.2.1 p (zk_ev τ i).toNat).toInt (rs[(zk_ev τ i).toNat % m]'hlt) := by
      refine hH.2.2.2.2.2.1 p t n _ _ hp (by omega) ?_
      rw [hm]
      exact List.getElem?_eq_getElem hlt
    have hj := zk_jn_ok (List.getElem?_eq_getElem hlt) hr
    have hk : ∀ r : Int × Int, (match zk_res A i m with
        | some s => match rs[s]? with
          | some r => r
          | none => zk_jn rs
        | none => zk_jn rs) = r → zk_in (H.2.1 p (zk_ev τ i).toNat).toInt r := by
      intro r hr9
      split at hr9
      · rename_i s hs
        have e := zk_res_ok m0 hN i0 hs
        split at hr9
        · rename_i r8 hr8
          subst hr9
          rw [← e, List.getElem?_eq_getElem hlt] at hr8
          rw [← Option.some.inj hr8]
          exact hr
        · subst hr9; exact hj
      · subst hr9; exact hj
    generalize hq : (match zk_res A i m with
        | some s => match rs[s]? with
          | some r => r
          | none => zk_jn rs
        | none => zk_jn rs) = r9 at h
    obtain ⟨lo, hi9⟩ := r9
    have hr9 := hk _ hq
    cases h
    obtain ⟨τ', f1, f2, f3, f4, f5, f6⟩ := zk_Rs_h hH (zk_fresh_ok (md := 1) hN hr9.1 hr9.2 (Int.one_dvd _))
    refine ⟨τ', f1, f2, f3, ?_, f5, f6⟩
    obtain ⟨g1, g2, g3, g4, g5, g6, g7, g8⟩ := f4
    refine ⟨g1, g2, g3, fun e he => ?_, g5, g6, g7, g8⟩
    rcases List.mem_cons.mp he with rfl | he
    · refine ⟨Nat.le_trans hi f2, f5, ?_, ?_⟩
      · show 0 ≤ zk_ev τ' i
        rw [zk_ev_x hi f1]
        exact i0
      · show (H.2.1 p (zk_ev τ' i).toNat).toInt = _
        rw [zk_ev_x hi f1]
        exact f6
    · exact g4 e he
/-- a number lies in a range -/
def zk_sub1 (A : zk_A) (v : zk_I) (r : Int × Int) : Bool := match zk_rg A v with
  | some (lo, hi) => (za_ile r.1 lo).and (za_ile hi r.2)
  | none => false
theorem zk_sub1_ok {r : Int × Int} (hN : zk_N τ A) (h : zk_sub1 A v r = true) : zk_in (zk_ev τ v) r := by
  unfold zk_sub1 at h
  split at h
  · rename_i lo hi g
    have r1 := zk_rg_ok hN g
    obtain ⟨h1, h2⟩ := Bool.and_eq_true_iff.mp h
    exact ⟨Int.le_trans (za_ile_t h1) r1.1, Int.le_trans r1.2 (za_ile_t h2)⟩
  · cases h
/-- an int is written into an array -/
def zk_ast (B : zk_B) (fz : Nat → Nat → Bool) (A : zk_A) (p n : Nat) (i v : zk_I) : Option zk_A := bif zk_ix A i n then bif fz p 0 then none else bif A.2.2.1.all (fun q => (Nat.beq q.1 p).not) then match B.2.2.2.1 p with
  | (m, rs) => bif Nat.blt 0 m then bif (match zk_res A i m with
      | some s => match rs[s]? with
        | some r => zk_sub1 A v r
        | none => true
      | none => rs.all (fun r => zk_sub1 A v r)) then some (A.1, A.2.1, A.2.2.1, (p, i, v) :: A.2.2.2.1.filter (fun q => (Nat.beq q.1 p).not), A.2.2.2.2) else none else none
  else none else none
theorem zk_ast_ok {t n : Nat} (hw : zk_W B gh J fz) (hp : B.1[p]? = some (.inr (t, n))) (hN : zk_N τ A) (hH : zk_Hp B gh J τ A H) (hi : i.1 ≤ A.1) (hv : v.1 ≤ A.1) (hx : x.toInt = zk_ev τ v) (h : zk_ast B fz A p n i v = some A') : 0 ≤ zk_ev τ i ∧ zk_ev τ i < (n : Int) ∧ A'.1 = A.1 ∧ zk_N τ A' ∧ zk_Hp B gh J τ A' (H.1, zp_u H.2.1 p (zk_ev τ i).toNat x, H.2.2) := by
  obtain ⟨w1, w2, w3, w4, w5, w6, w7, w8⟩ := hw
  unfold zk_ast at h
  obtain ⟨h0, h⟩ := za_bif h
  obtain ⟨i0, i1⟩ := zk_ix_ok hN h0
  refine ⟨i0, i1, ?_⟩
  cases hf : fz p 0 with
  | true => rw [hf] at h; cases h
  | false =>
    rw [hf] at h
    simp only [cond_false] at h
    obtain ⟨ho, h⟩ := za_bif h
    have ho : ∀ e ∈ A.2.2.1, e.1 ≠ p := by
      intro e he
      have h9 := List.all_eq_true.mp ho e he
      rintro rfl
      rw [Nat.beq_refl] at h9
      cases h9
    obtain ⟨m0, h⟩ := za_bif h
    obtain ⟨hc, h⟩ := za_bif h
    have m0 := za_blt m0
    cases h
    refine ⟨rfl, hN, ?_⟩
    obtain ⟨g1, g2, g3, g4, g5, g6, g7, g8⟩ := hH
    have hno : ∀ p' ci, B.1[p']? = some (.inl ci) → p' ≠ p := by
      rintro p' ci h1 rfl
      rw [hp] at h1
      cases h1
    have hu : ∀ p' k', p' ≠ p → zp_u H.2.1 p (zk_ev τ i).toNat x p' k' = H.2.1 p' k' := fun p' k' hn => zp_u_ne (fun z => hn z.1)
    have hgh : gh (H.1, zp_u H.2.1 p (zk_ev τ i).toNat x, H.2.2) = gh H := w2 H _ (fun p' k' h' => ⟨by
      obtain ⟨ci, h9⟩ := w6 p' k' h'
      exact hu p' k' (hno p' ci h9), rfl⟩)
    have hfv : ∀ p' k', p' ≠ p → zk_fv gh (H.1, zp_u H.2.1 p (zk_ev τ i).toNat x, H.2.2) p' k' = zk_fv gh H p' k' := by
      intro p' k' h1
      unfold zk_fv
      by_cases h3 : p' = 72 ∧ k' = 100
      · rw [if_pos h3, if_pos h3, hgh]
      · rw [if_neg h3, if_neg h3]
        show (zp_u H.2.1 p _ x p' k').toInt = _
        rw [hu p' k' h1]
    refine ⟨g1, g2, fun e he => ?_, fun e he => ?_, fun p' k' r' h' => ?_, fun p' t' n' i' r' h1 h2 h3 => ?_, fun c hc => ?_, ?_⟩
    · rw [hfv _ _ (ho e he)]
      exact g3 e he
    · rcases List.mem_cons.mp he with rfl | he
      · refine ⟨hi, hv, i0, ?_⟩
        show (zp_u H.2.1 p (zk_ev τ i).toNat x p (zk_ev τ i).toNat).toInt = _
        rw [zp_u_self]
        exact hx
      · obtain ⟨he, hn⟩ := List.mem_filter.mp he
        have hn : e.1 ≠ p := by
          rintro rfl
          rw [Nat.beq_refl] at hn
          cases hn
        obtain ⟨f1, f2, f3, f4⟩ := g4 e he
        refine ⟨f1, f2, f3, ?_⟩
        show (zp_u H.2.1 p _ x e.1 _).toInt = _
        rw [hu _ _ hn]
        exact f4
    · obtain ⟨ci, h9⟩ := w4 p' k' r' h'
      rw [hfv _ _ (hno p' ci h9)]
      exact g5 p' k' r' h'
    · show zk_in (zp_u H.2.1 p (zk_ev τ i).toNat x p' i').toInt r'
      by_cases h9 : p' = p ∧ i' = (zk_ev τ i).toNat
      · obtain ⟨rfl, rfl⟩ := h9
        rw [zp_u_self, hx]
        split at hc
        · rename_i s hs
          have e := zk_res_ok m0 hN i0 hs
          rw [e] at h3
          rw [h3] at hc
          exact zk_sub1_ok hN hc
        · exact zk_sub1_ok hN (List.all_eq_true.mp hc r' (List.mem_of_getElem? h3))
      · rw [zp_u_ne h9]
        exact g6 p' t' n' i' r' h1 h2 h3
    · obtain ⟨⟨ci, c1⟩, -, -⟩ := w5 c hc
      rw [hfv c.1 c.2.1 (hno _ ci c1), hfv c.1 c.2.2.2.1 (hno _ ci c1)]
      exact g7 c hc
    · refine w1 H _ rfl (fun p' k' h' => ⟨hu p' k' ?_, rfl⟩) g8
      rintro rfl
      rw [w7 p' k' t n hp, hf] at h'
      cases h'
end KW
