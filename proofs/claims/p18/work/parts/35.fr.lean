/-! ===== the abstract executor: whole arrays, between calls ===== -/
def zk_inm (mods : List (Nat × Nat)) (p k : Nat) : Bool := mods.any (fun q => (Nat.beq q.1 p).and (Nat.beq q.2 k))
def zk_ina (am : List Nat) (p : Nat) : Bool := am.any (fun q => Nat.beq q p)
/-- nothing but these fields and arrays has changed -/
def zk_Fr (gh : zp_H → Int) (mods : List (Nat × Nat)) (am : List Nat) (H H' : zp_H) : Prop := H'.2.2.2 = H.2.2.2 ∧ ∀ p k, zk_inm mods p k = false → zk_ina am p = false → zk_fv gh H' p k = zk_fv gh H p k ∧ H'.2.2.1 p k = H.2.2.1 p k
theorem zk_Fr_r {gh : zp_H → Int} {mods : List (Nat × Nat)} {am : List Nat} (H : zp_H) : zk_Fr gh mods am H H := ⟨rfl, fun _ _ _ _ => ⟨rfl, rfl⟩⟩
theorem zk_Fr_t {gh : zp_H → Int} {mods : List (Nat × Nat)} {am : List Nat} {H H' H'' : zp_H} (h1 : zk_Fr gh mods am H H') (h2 : zk_Fr gh mods am H' H'') : zk_Fr gh mods am H H'' := ⟨h2.1.trans h1.1, fun p k h3 h4 => ⟨(h2.2 p k h3 h4).1.trans (h1.2 p k h3 h4).1, (h2.2 p k h3 h4).2.trans (h1.2 p k h3 h4).2⟩⟩
/-- what always holds -/
def zk_A0 : zk_A := (0, [], [], [], [])
def zk_Bs (B : zk_B) (gh : zp_H → Int) (J : zp_H → Prop) (H : zp_H) : Prop := zk_Hp B gh J (fun _ => 0) zk_A0 H
section KF
variable {B : zk_B} {gh : zp_H → Int} {J : zp_H → Prop} {fz : Nat → Nat → Bool} {τ : Nat → Int} {A A' : zk_A} {H H' : zp_H} {p k : Nat} {mods : List (Nat × Nat)} {am : List Nat}
/-- an array has new contents -/
def zk_arw (fz : Nat → Nat → Bool) (A : zk_A) (p : Nat) : Option zk_A := bif fz p 0 then none else bif A.2.2.1.all (fun q => (Nat.beq q.1 p).not) then some (A.1, A.2.1, A.2.2.1, A.2.2.2.1.filter (fun q => (Nat.beq q.1 p).not), A.2.2.2.2) else none
theorem zk_arw_ok {t n : Nat} {g : Nat → Int32} (hw : zk_W B gh J fz) (hp : B.1[p]? = some (.inr (t, n))) (hN : zk_N τ A) (hH : zk_Hp B gh J τ A H) (hg : ∀ (i : Nat) (r : Int × Int), i < n → (B.2.2.2.1 p).2[i % (B.2.2.2.1 p).1]? = some r → zk_in (g i).toInt r) (h : zk_arw fz A p = some A') : A'.1 = A.1 ∧ zk_N τ A' ∧ zk_Hp B gh J τ A' (H.1, zp_ua H.2.1 p g, H.2.2) := by
  obtain ⟨w1, w2, w3, w4, w5, w6, w7, w8⟩ := hw
  unfold zk_arw at h
  cases hf : fz p 0 with
  | true => rw [hf] at h; cases h
  | false =>
    rw [hf] at h
    simp only [cond_false] at h
    obtain ⟨ho, h⟩ := za_bif h
    have ho : ∀ e ∈ A.2.2.1, e.1 ≠ p := by
      intro e he
      have h9 := List.all_eq_true.mp ho e he
      rintro rfl
      rw [Nat.beq_refl] at h9
      cases h9
    cases h
    refine ⟨rfl, hN, ?_⟩
    obtain ⟨g1, g2, g3, g4, g5, g6, g7, g8⟩ := hH
    have hno : ∀ p' ci, B.1[p']? = some (.inl ci) → p' ≠ p := by
      rintro p' ci h1 rfl
      rw [hp] at h1
      cases h1
    have hu : ∀ p' k', p' ≠ p → zp_ua H.2.1 p g p' k' = H.2.1 p' k' := fun p' k' hn => by
      unfold zp_ua
      rw [if_neg hn]
    have hgh : gh (H.1, zp_ua H.2.1 p g, H.2.2) = gh H := w2 H _ (fun p' k' h' => ⟨by
      obtain ⟨ci, h9⟩ := w6 p' k' h'
      exact hu p' k' (hno p' ci h9), rfl⟩)
    have hfv : ∀ p' k', p' ≠ p → zk_fv gh (H.1, zp_ua H.2.1 p g, H.2.2) p' k' = zk_fv gh H p' k' := by
      intro p' k' h1
      unfold zk_fv
      by_cases h3 : p' = 72 ∧ k' = 100
      · rw [if_pos h3, if_pos h3, hgh]
      · rw [if_neg h3, if_neg h3]
        show (zp_ua H.2.1 p g p' k').toInt = _
        rw [hu p' k' h1]
    refine ⟨g1, g2, fun e he => ?_, fun e he => ?_, fun p' k' r' h' => ?_, fun p' t' n' i' r' h1 h2 h3 => ?_, fun c hc => ?_, ?_⟩
    · rw [hfv _ _ (ho e he)]
      exact g3 e he
    · obtain ⟨he, hn⟩ := List.mem_filter.mp he
      have hn : e.1 ≠ p := by
        rintro rfl
        rw [Nat.beq_refl] at hn
        cases hn
      obtain ⟨f1, f2, f3, f4⟩ := g4 e he
      refine ⟨f1, f2, f3, ?_⟩
      show (zp_ua H.2.1 p g e.1 _).toInt = _
      rw [hu _ _ hn]
      exact f4
    · obtain ⟨ci, h9⟩ := w4 p' k' r' h'
      rw [hfv _ _ (hno p' ci h9)]
      exact g5 p' k' r' h'
    · show zk_in (zp_ua H.2.1 p g p' i').toInt r'
      by_cases h9 : p' = p
      · subst h9
        rw [hp] at h1
        cases h1
        unfold zp_ua
        rw [if_pos rfl]
        exact hg i' r' h2 h3
      · rw [hu _ _ h9]
        exact g6 p' t' n' i' r' h1 h2 h3
    · obtain ⟨⟨ci, c1⟩, -, -⟩ := w5 c hc
      rw [hfv c.1 c.2.1 (hno _ ci c1), hfv c.1 c.2.2.2.1 (hno _ ci c1)]
      exact g7 c hc
    · refine w1 H _ rfl (fun p' k' h' => ⟨hu p' k' ?_, rfl⟩) g8
      rintro rfl
      rw [w7 p' k' t n hp, hf] at h'
      cases h'
/-! all is as it always is -/
def zk_fr1 (B : zk_B) (A : zk_A) (p k : Nat) : Option (Int × Int) := match zk_og A.2.2.1 p k with
  | some a => zk_rg A a
  | none => B.2.2.1 p k
theorem zk_fr1_ok {r : Int × Int} (hN : zk_N τ A) (hH : zk_Hp B gh J τ A H) (h : zk_fr1 B A p k = some r) : zk_in (zk_fv gh H p k) r := by
  unfold zk_fr1 at h
  split at h
  · rename_i a ha
    obtain ⟨e, e1, e2, e3, e4⟩ := zk_og_m ha
    have g := (hH.2.2.1 e e1).2
    rw [e2, e3, e4] at g
    rw [g]
    exact zk_rg_ok hN h
  · rename_i ho
    rcases hH.2.2.2.2.1 p k r h with ⟨e, he, h9⟩ | h9
    · exact absurd h9 (zk_og_n ho e he)
    · exact h9
def zk_cok (B : zk_B) (A : zk_A) (c : Nat × Nat × Int × Nat × Int × Int) : Bool := bif zk_dty A.2.2.1 c.1 c.2.1 c.2.2.2.1 then
  (match zk_fr1 B A c.1 c.2.1 with
    | some (lo, hi) => (za_ile (c.2.2.1 + 1) lo).or (za_ile (hi + 1) c.2.2.1)
    | none => false).or (match zk_fr1 B A c.1 c.2.2.2.1 with
    | some (lo, hi) => (za_ile c.2.2.2.2.1 lo).and (za_ile hi c.2.2.2.2.2)
    | none => false) else true
theorem zk_cok_ok {c : Nat × Nat × Int × Nat × Int × Int} (hc : c ∈ B.2.2.2.2.1) (hN : zk_N τ A) (hH : zk_Hp B gh J τ A H) (h : zk_cok B A c = true) : zk_fv gh H c.1 c.2.1 = c.2.2.1 → zk_in (zk_fv gh H c.1 c.2.2.2.1) c.2.2.2.2 := by
  intro hk
  unfold zk_cok at h
  cases hd : zk_dty A.2.2.1 c.1 c.2.1 c.2.2.2.1 with
  | false =>
    rcases hH.2.2.2.2.2.2.1 c hc with g | g
    · exact absurd g (zk_dty_f hd)
    · exact g hk
  | true =>
    rw [hd] at h
    simp only [cond_true] at h
    rcases Bool.or_eq_true_iff.mp h with h | h
    · split at h
      · rename_i lo hi hr
        have r := zk_fr1_ok hN hH hr
        unfold zk_in at r
        dsimp only at r
        rcases Bool.or_eq_true_iff.mp h with h | h
        · have := za_ile_t h; omega
        · have := za_ile_t h; omega
      · cases h
    · split at h
      · rename_i lo hi hr
        have r := zk_fr1_ok hN hH hr
        obtain ⟨h1, h2⟩ := Bool.and_eq_true_iff.mp h
        exact ⟨Int.le_trans (za_ile_t h1) r.1, Int.le_trans r.2 (za_ile_t h2)⟩
      · cases h
def zk_flush (B : zk_B) (A : zk_A) : Bool := (A.2.2.1.all (fun q => match B.2.2.1 q.1 q.2.1 with
  | some r => zk_sub1 A q.2.2.2 r
  | none => true)).and (B.2.2.2.2.1.all (zk_cok B A))
theorem zk_flush_b (hN : zk_N τ A) (hH : zk_Hp B gh J τ A H) (h : zk_flush B A = true) : ∀ p k r, B.2.2.1 p k = some r → zk_in (zk_fv gh H p k) r := by
  intro p k r hr
  rcases hH.2.2.2.2.1 p k r hr with ⟨e, he, e1, e2⟩ | h9
  · have h9 := List.all_eq_true.mp (Bool.and_eq_true_iff.mp h).1 e he
    rw [e1, e2, hr] at h9
    have g := (hH.2.2.1 e he).2
    rw [e1, e2] at g
    rw [g]
    exact zk_sub1_ok hN h9
  · exact h9
theorem zk_flush_ok (hN : zk_N τ A) (hH : zk_Hp B gh J τ A H) (h : zk_flush B A = true) : zk_Bs B gh J H := by
  refine ⟨hH.1, hH.2.1, fun q hq => absurd hq List.not_mem_nil, fun q hq => absurd hq List.not_mem_nil, fun p k r hr => Or.inr (zk_flush_b hN hH h p k r hr), hH.2.2.2.2.2.1, fun c hc => Or.inr ?_, hH.2.2.2.2.2.2.2⟩
  exact zk_cok_ok hc hN hH (List.all_eq_true.mp (Bool.and_eq_true_iff.mp h).2 c hc)
/-- behind a call: what it may have changed is forgotten -/
def zk_cl1 (q : Nat × Nat × Bool × zk_I) : Nat × Nat × Bool × zk_I := (q.1, q.2.1, false, q.2.2.2)
def zk_bh (mods : List (Nat × Nat)) (am : List Nat) (A : zk_A) : zk_A := (A.1, A.2.1, (A.2.2.1.filter (fun q => ((zk_inm mods q.1 q.2.1).or (zk_ina am q.1)).not)).map zk_cl1, A.2.2.2.1.filter (fun q => ((mods.any (fun m => Nat.beq m.1 q.1)).or ((zk_ina am q.1).or (Nat.beq q.1 72))).not), A.2.2.2.2)
theorem zk_bh_ok (hw : zk_W B gh J fz) (hN : zk_N τ A) (hH : zk_Hp B gh J τ A H) (hB : zk_Bs B gh J H') (hF : zk_Fr gh mods am H H') : zk_N τ (zk_bh mods am A) ∧ zk_Hp B gh J τ (zk_bh mods am A) H' := by
  obtain ⟨b1, b2, -, -, b5, b6, b7, b8⟩ := hB
  obtain ⟨g1, g2, g3, g4, g5, g6, g7, g8⟩ := hH
  refine ⟨hN, b1, b2, fun e he => ?_, fun e he => ?_, fun p k r hr => ?_, b6, fun c hc => ?_, b8⟩
  · obtain ⟨e0, h0, rfl⟩ := List.mem_map.mp he
    obtain ⟨h1, h2⟩ := List.mem_filter.mp h0
    have h2 : (zk_inm mods e0.1 e0.2.1).or (zk_ina am e0.1) = false := by simpa using h2
    obtain ⟨h3, h4⟩ := Bool.or_eq_false_iff.mp h2
    refine ⟨(g3 e0 h1).1, ?_⟩
    show zk_fv gh H' e0.1 e0.2.1 = zk_ev τ e0.2.2.2
    rw [(hF.2 _ _ h3 h4).1]
    exact (g3 e0 h1).2
  · obtain ⟨h1, h2⟩ := List.mem_filter.mp he
    have h2 : (mods.any (fun m => Nat.beq m.1 e.1)).or ((zk_ina am e.1).or (Nat.beq e.1 72)) = false := by simpa using h2
    obtain ⟨h3, h4⟩ := Bool.or_eq_false_iff.mp h2
    obtain ⟨h4, h8⟩ := Bool.or_eq_false_iff.mp h4
    obtain ⟨f1, f2, f3, f4⟩ := g4 e h1
    refine ⟨f1, f2, f3, ?_⟩
    have h5 : zk_inm mods e.1 (zk_ev τ e.2.1).toNat = false := by
      cases hb : zk_inm mods e.1 (zk_ev τ e.2.1).toNat with
      | false => rfl
      | true =>
        obtain ⟨m, m1, m2⟩ := List.any_eq_true.mp hb
        rw [List.any_eq_true.mpr ⟨m, m1, (Bool.and_eq_true_iff.mp m2).1⟩] at h3
        cases h3
    have h6 := (hF.2 _ _ h5 h4).1
    by_cases h7 : e.1 = 72 ∧ (zk_ev τ e.2.1).toNat = 100
    · rw [h7.1] at h8
      cases h8
    · unfold zk_fv at h6
      rw [if_neg h7, if_neg h7] at h6
      rw [h6]
      exact f4
  · rcases b5 p k r hr with ⟨e, he, -⟩ | h9
    · exact absurd he List.not_mem_nil
    · exact Or.inr h9
  · rcases b7 c hc with ⟨e, he, -⟩ | h9
    · exact absurd he List.not_mem_nil
    · exact Or.inr h9
end KF
