section
/-! ===== the chalk as both sides hold it ===== -/
/-- slates, their image and pilots lie within the sea -/
def yGr (H : zp_H) : Prop := (∀ s : Nat, (s : Int) < (H.2.1 72 5).toInt → 0 ≤ (H.2.1 74 (4 * s)).toInt ∧ (H.2.1 74 (4 * s)).toInt < (H.2.1 72 1).toInt * (H.2.1 72 2).toInt) ∧ (¬ (H.2.1 72 80).toInt = 0 → ∀ s : Nat, (s : Int) < (H.2.1 72 5).toInt → 0 ≤ (H.2.1 101 (4 * s)).toInt ∧ (H.2.1 101 (4 * s)).toInt < (H.2.1 72 1).toInt * (H.2.1 72 2).toInt) ∧ ∀ p : Nat, (p : Int) < (H.2.1 72 7).toInt → 0 ≤ (H.2.1 77 (3 * p)).toInt ∧ (H.2.1 77 (3 * p)).toInt < (H.2.1 72 1).toInt * (H.2.1 72 2).toInt
theorem yGr_k {H H' : zp_H} (e1 : H'.2.1 72 1 = H.2.1 72 1) (e2 : H'.2.1 72 2 = H.2.1 72 2) (e5 : H'.2.1 72 5 = H.2.1 72 5) (e7 : H'.2.1 72 7 = H.2.1 72 7) (hs : ∀ s : Nat, (s : Int) < (H.2.1 72 5).toInt → 0 ≤ (H'.2.1 74 (4 * s)).toInt ∧ (H'.2.1 74 (4 * s)).toInt < (H.2.1 72 1).toInt * (H.2.1 72 2).toInt) (hi : ¬ (H'.2.1 72 80).toInt = 0 → ∀ s : Nat, (s : Int) < (H.2.1 72 5).toInt → 0 ≤ (H'.2.1 101 (4 * s)).toInt ∧ (H'.2.1 101 (4 * s)).toInt < (H.2.1 72 1).toInt * (H.2.1 72 2).toInt) (e77 : ∀ k, H'.2.1 77 k = H.2.1 77 k) (h : yGr H) : yGr H' := by
  refine ⟨fun s h1 => ?_, fun hn s h1 => ?_, fun p h1 => ?_⟩
  · rw [e5] at h1
    rw [e1, e2]
    exact hs s h1
  · rw [e5] at h1
    rw [e1, e2]
    exact hi hn s h1
  · rw [e7] at h1
    rw [e1, e2, e77]
    exact h.2.2 p h1
def yGc (c : Nat) (H : zp_H) : Prop := (∃ A, xKw A ∧ yHc (ycp c) A H ∧ yHr 74 75 93 62 A H) ∧ H.2.1 0 10 = H.2.1 72 80 ∧ (¬ (H.2.1 0 10).toInt = 0 → ∃ B, xKw B ∧ yHc 42 B H ∧ yHr 101 102 103 81 B H) ∧ H.2.1 0 3 = H.2.1 82 0 ∧ H.2.1 0 4 = H.2.1 82 1 ∧ yGr H
/-- places of the class: a field of its object (0), an object's or an array's -/
def yCx (q : Nat × Nat) : Bool := (((Nat.ble 13 q.1).and (Nat.ble q.1 21)).or ((Nat.ble 33 q.1).and (Nat.ble q.1 50))).or ((Nat.beq q.1 0).and ((Nat.beq q.2 3).or ((Nat.beq q.2 4).or (Nat.beq q.2 10))))
def yDx (q : Nat × Nat) : Bool := ((Nat.beq q.1 72).and ((Nat.beq q.2 1).or ((Nat.beq q.2 2).or ((Nat.beq q.2 7).or ((Nat.beq q.2 5).or ((Nat.beq q.2 62).or ((Nat.beq q.2 80).or (Nat.beq q.2 81)))))))).or (((Nat.beq q.1 74).or ((Nat.beq q.1 75).or (Nat.beq q.1 77))).or ((Nat.beq q.1 82).or ((Nat.beq q.1 93).or ((Nat.ble 101 q.1).and (Nat.ble q.1 103)))))
/-- the image and what else an act leaves -/
def yCi (q : Nat × Nat) : Bool := ((Nat.ble 42 q.1).and (Nat.ble q.1 50)).or ((Nat.beq q.1 0).and ((Nat.beq q.2 3).or (Nat.beq q.2 10)))
def yKq (Q : Nat × Nat → Bool) (H H' : zp_H) : Prop := ∀ p k, Q (p, k) = true → H'.2.1 p k = H.2.1 p k
theorem yCx_0 {p k : Nat} (h : yCx (p, k) = true) : p < 72 ∧ (p ≠ 0 → yCx (p, 0) = true) := by
  rcases Bool.or_eq_true_iff.mp h with h | h
  · refine ⟨?_, fun _ => Bool.or_eq_true_iff.mpr (Or.inl h)⟩
    rcases Bool.or_eq_true_iff.mp h with h | h
    · have a : p ≤ 21 := Nat.le_of_ble_eq_true (Bool.and_eq_true_iff.mp h).2
      omega
    · have a : p ≤ 50 := Nat.le_of_ble_eq_true (Bool.and_eq_true_iff.mp h).2
      omega
  · have a : p = 0 := za_beq (Bool.and_eq_true_iff.mp h).1
    exact ⟨by omega, fun h9 => absurd a h9⟩
theorem yCi_0 {p k : Nat} (h : yCi (p, k) = true) : p < 72 ∧ (p ≠ 0 → yCi (p, 0) = true) := by
  rcases Bool.or_eq_true_iff.mp h with h | h
  · refine ⟨?_, fun _ => Bool.or_eq_true_iff.mpr (Or.inl h)⟩
    have a : p ≤ 50 := Nat.le_of_ble_eq_true (Bool.and_eq_true_iff.mp h).2
    omega
  · have a : p = 0 := za_beq (Bool.and_eq_true_iff.mp h).1
    exact ⟨by omega, fun h9 => absurd a h9⟩
theorem yDx_0 {p k : Nat} (h : yDx (p, k) = true) : 72 ≤ p ∧ p ≠ 104 ∧ ¬ (p = 72 ∧ k = 100) ∧ ¬ (p = 72 ∧ k = 0) ∧ (p ≠ 72 → yDx (p, 0) = true) ∧ p ≠ 81 := by
  rcases Bool.or_eq_true_iff.mp h with h | h
  · obtain ⟨a, b⟩ := Bool.and_eq_true_iff.mp h
    have a : p = 72 := za_beq a
    refine ⟨by omega, by omega, fun h9 => ?_, fun h9 => ?_, fun h9 => absurd a h9, by omega⟩
    · have e := h9.2
      subst e
      exact absurd (show false = true from b) (by decide)
    · have e := h9.2
      subst e
      exact absurd (show false = true from b) (by decide)
  · have k1 : yDx (p, 0) = true := Bool.or_eq_true_iff.mpr (Or.inr h)
    have k2 : 74 ≤ p ∧ p ≤ 103 ∧ p ≠ 81 := by
      rcases Bool.or_eq_true_iff.mp h with h | h
      · rcases Bool.or_eq_true_iff.mp h with h | h
        · have a : p = 74 := za_beq h
          omega
        rcases Bool.or_eq_true_iff.mp h with h | h
        · have a : p = 75 := za_beq h
          omega
        · have a : p = 77 := za_beq h
          omega
      rcases Bool.or_eq_true_iff.mp h with h | h
      · have a : p = 82 := za_beq h
        omega
      rcases Bool.or_eq_true_iff.mp h with h | h
      · have a : p = 93 := za_beq h
        omega
      · obtain ⟨a, b⟩ := Bool.and_eq_true_iff.mp h
        have a : 101 ≤ p := Nat.le_of_ble_eq_true a
        have b : p ≤ 103 := Nat.le_of_ble_eq_true b
        omega
    exact ⟨by omega, by omega, fun h9 => by omega, fun h9 => by omega, fun _ => k1, by omega⟩
theorem yKq_c {Q : Nat × Nat → Bool} {mods : List (Nat × Nat)} {am : List Nat} {H H1 : zp_H} (hQ : ∀ p k, Q (p, k) = true → p < 72 ∧ (p ≠ 0 → Q (p, 0) = true)) (h : zk_Fr zg mods am H H1) (hm : mods.all (fun q => (Q q).not) = true) (ha : am.all (fun q => ((Q (q, 0)).or (Nat.beq q 0)).not) = true) : yKq Q H H1 := fun p k hp => (zI_in h (zI_nm (P := fun q => (Q q).not) hm (by show (Q (p, k)).not = false; rw [hp]; rfl)) (zI_na (P := fun q => ((Q (q, 0)).or (Nat.beq q 0)).not) ha (by
  show ((Q (p, 0)).or (Nat.beq p 0)).not = false
  by_cases h9 : p = 0
  · subst h9
    exact congrArg Bool.not (Bool.or_true _)
  · rw [(hQ p k hp).2 h9]; rfl)) (fun h9 => by have := (hQ p k hp).1; omega)).1
theorem yKq_d {mods : List (Nat × Nat)} {am : List Nat} {H H1 : zp_H} (h : zk_Fr zg mods am H H1) (hm : mods.all (fun q => (yDx q).not) = true) (ha : am.all (fun q => ((yDx (q, 0)).or (Nat.beq q 72)).not) = true) : yKq yDx H H1 := fun p k hp => (zI_in h (zI_nm (P := fun q => (yDx q).not) hm (by show (yDx (p, k)).not = false; rw [hp]; rfl)) (zI_na (P := fun q => ((yDx (q, 0)).or (Nat.beq q 72)).not) ha (by
  show ((yDx (p, 0)).or (Nat.beq p 72)).not = false
  by_cases h9 : p = 72
  · subst h9
    exact congrArg Bool.not (Bool.or_true _)
  · rw [(yDx_0 hp).2.2.2.2.1 h9]; rfl)) (yDx_0 hp).2.2.1).1
theorem yKq_f {H H' : zp_H} (h : zf_C H H') : yKq yDx H H' := fun p k hp => (h p k (yDx_0 hp).1 (yDx_0 hp).2.1 (yDx_0 hp).2.2.1).1
theorem yKq_72 {Q : Nat × Nat → Bool} {H H' : zp_H} (hQ : ∀ p k, Q (p, k) = true → p < 72 ∧ (p ≠ 0 → Q (p, 0) = true)) (h : zf_72 H H') : yKq Q H H' := fun p k hp => (h.2 p k (hQ p k hp).1).1
theorem ycp_x (c : Nat) : ycp c = 13 ∨ ycp c = 33 := by unfold ycp; split <;> simp
theorem yCx_cp {c p k : Nat} (h1 : ycp c ≤ p) (h2 : p ≤ ycp c + 8) : yCx (p, k) = true := by
  refine Bool.or_eq_true_iff.mpr (Or.inl (Bool.or_eq_true_iff.mpr ?_))
  rcases ycp_x c with e | e
  · exact Or.inl (Bool.and_eq_true_iff.mpr ⟨Nat.ble_eq_true_of_le (by show 13 ≤ p; omega), Nat.ble_eq_true_of_le (by show p ≤ 21; omega)⟩)
  · exact Or.inr (Bool.and_eq_true_iff.mpr ⟨Nat.ble_eq_true_of_le (by show 33 ≤ p; omega), Nat.ble_eq_true_of_le (by show p ≤ 50; omega)⟩)
theorem yCx_im {p k : Nat} (h1 : 42 ≤ p) (h2 : p ≤ 42 + 8) : yCx (p, k) = true := Bool.or_eq_true_iff.mpr (Or.inl (Bool.or_eq_true_iff.mpr (Or.inr (Bool.and_eq_true_iff.mpr ⟨Nat.ble_eq_true_of_le (by show 33 ≤ p; omega), Nat.ble_eq_true_of_le (by show p ≤ 50; omega)⟩))))
theorem yCi_im {p k : Nat} (h1 : 42 ≤ p) (h2 : p ≤ 42 + 8) : yCi (p, k) = true := Bool.or_eq_true_iff.mpr (Or.inl (Bool.and_eq_true_iff.mpr ⟨Nat.ble_eq_true_of_le h1, Nat.ble_eq_true_of_le (by show p ≤ 50; omega)⟩))
theorem yHr_d1 {A : xK} {H H' : zp_H} (hd : yKq yDx H H') (h : yHr 74 75 93 62 A H) : yHr 74 75 93 62 A H' := yHr_c (hd 72 5 rfl) (hd 72 62 rfl) (fun k => hd 74 k rfl) (fun k => hd 75 k rfl) (fun k => hd 93 k rfl) h
theorem yHr_d2 {A : xK} {H H' : zp_H} (hd : yKq yDx H H') (h : yHr 101 102 103 81 A H) : yHr 101 102 103 81 A H' := yHr_c (hd 72 5 rfl) (hd 72 81 rfl) (fun k => hd 101 k rfl) (fun k => hd 102 k rfl) (fun k => hd 103 k rfl) h
theorem yGc_c {c : Nat} {H H' : zp_H} (hc : yKq yCx H H') (hd : yKq yDx H H') (h : yGc c H) : yGc c H' := by
  obtain ⟨⟨A, a1, a2, a3⟩, h1, h2, h3, h4, h5⟩ := h
  refine ⟨⟨A, a1, yHc_c (fun p k p1 p2 => hc p k (yCx_cp p1 p2)) a2, yHr_d1 hd a3⟩, ?_, fun hn => ?_, ?_, ?_, yGr_k (hd 72 1 rfl) (hd 72 2 rfl) (hd 72 5 rfl) (hd 72 7 rfl) (fun s hs => by rw [hd 74 (4 * s) rfl]; exact h5.1 s hs) (fun hn s hs => by rw [hd 101 (4 * s) rfl]; exact h5.2.1 (by rw [← hd 72 80 rfl]; exact hn) s hs) (fun k => hd 77 k rfl) h5⟩
  · rw [hc 0 10 rfl, hd 72 80 rfl]; exact h1
  · rw [hc 0 10 rfl] at hn
    obtain ⟨B, b1, b2, b3⟩ := h2 hn
    exact ⟨B, b1, yHc_c (fun p k p1 p2 => hc p k (yCx_im p1 p2)) b2, yHr_d2 hd b3⟩
  · rw [hc 0 3 rfl, hd 82 0 rfl]; exact h3
  · rw [hc 0 4 rfl, hd 82 1 rfl]; exact h4
def yJ (c t : Nat) (H : zp_H) : Prop := yI c t H ∧ yGc c H
def yJ_mc (e : zk_T) : Bool := (yI_mc e).and ((e.2.2.2.1.all (fun q => (yCx q).not)).and (e.2.2.2.2.1.all (fun q => ((yCx (q, 0)).or (Nat.beq q 0)).not)))
theorem yI_zf {L : Nat} {σ : Nat → Int32} {d c t : Nat} {H : zp_H} {X : zp_X} {e : zk_T} {as : List zp_V} (hI : yI c t H) (hct : zk_Ct L σ (zB_c c) zg zJc e) (c1 : zp_Call L σ d e.1 as H X) (hm : zI_mc e = true) (hd : e.2.2.2.2.2.2 ≤ d) (ha : za_F2 zk_pv e.2.1 as) (hp : e.2.2.1 = []) : zk_Fr zg e.2.2.2.1 e.2.2.2.2.1 H X.2 ∧ zf_C H X.2 := by
  obtain ⟨X', y1, y2, y3, -⟩ := hct d hd as H ha hI.1.1 (by rw [hp]; exact fun f hf => absurd hf List.not_mem_nil)
  obtain rfl := zp_Call_u c1 y1
  obtain ⟨m1, m2⟩ := Bool.and_eq_true_iff.mp hm
  exact ⟨y3, zI_frc y3 (zI_sub m1) (zI_sua m2)⟩
theorem yI_mz {e : zk_T} (hm : yI_mc e = true) : zI_mc e = true := (Bool.and_eq_true_iff.mp (Bool.and_eq_true_iff.mp hm).1).1
theorem yJ_C {L : Nat} {σ : Nat → Int32} {d c t : Nat} {H : zp_H} {e : zk_T} {as : List zp_V} (hI : yJ c t H) (hct : zk_Ct L σ (zB_c c) zg zJc e) (hm : yJ_mc e = true) (hd : e.2.2.2.2.2.2 ≤ d) (ha : za_F2 zk_pv e.2.1 as) (hp : e.2.2.1 = []) : ∃ X, zp_Call L σ d e.1 as H X ∧ yJ c t X.2 ∧ ∃ o ∈ e.2.2.2.2.2.1, zk_rv o.1 X.1 := by
  obtain ⟨m0, m1⟩ := Bool.and_eq_true_iff.mp hm
  obtain ⟨m1, m2⟩ := Bool.and_eq_true_iff.mp m1
  obtain ⟨X, x1, x2, x3⟩ := yI_C hI.1 hct m0 hd ha hp
  obtain ⟨y3, y4⟩ := yI_zf hI.1 hct x1 (yI_mz m0) hd ha hp
  exact ⟨X, x1, ⟨x2, yGc_c (yKq_c (fun _ _ => yCx_0) y3 m1 m2) (yKq_f y4) hI.2⟩, x3⟩
def yJ_mr (e : zk_T) : Bool := (yI_mr e).and ((e.2.2.2.1.all (fun q => (yDx q).not)).and (e.2.2.2.2.1.all (fun q => ((yDx (q, 0)).or (Nat.beq q 72)).not)))
theorem yJ_D {L : Nat} {σ : Nat → Int32} {d c t : Nat} {H : zp_H} {e : zk_T} {as : List zp_V} (hI : yJ c t H) (hct : zk_Ct L σ z0R zg zJ e) (hm : yJ_mr e = true) (hd : e.2.2.2.2.2.2 ≤ d) (ha : za_F2 zk_pv e.2.1 as) (hp : e.2.2.1 = []) : ∃ X, zp_Call L σ d e.1 as H X ∧ yJ c t X.2 ∧ ∃ o ∈ e.2.2.2.2.2.1, zk_rv o.1 X.1 := by
  obtain ⟨m0, m1⟩ := Bool.and_eq_true_iff.mp hm
  obtain ⟨m1, m2⟩ := Bool.and_eq_true_iff.mp m1
  obtain ⟨X, x1, x2, x3⟩ := yI_D hI.1 hct m0 hd ha hp
  obtain ⟨X', y1, y2, y3, -⟩ := hct d hd as H ha hI.1.1.2.1 (by rw [hp]; exact fun f hf => absurd hf List.not_mem_nil)
  obtain rfl := zp_Call_u x1 y1
  obtain ⟨m3, m4⟩ := Bool.and_eq_true_iff.mp m0
  obtain ⟨m5, m6⟩ := Bool.and_eq_true_iff.mp m3
  have hf : zf_72 H X.2 := zf_of y3 (List.all_eq_true.mpr (fun q hq => (Bool.and_eq_true_iff.mp (List.all_eq_true.mp m5 q hq)).1)) (List.all_eq_true.mpr (fun q hq => by
    have h1 := za_blt (List.all_eq_true.mp m6 q hq)
    exact Nat.ble_eq_true_of_le (by omega)))
  exact ⟨X, x1, ⟨x2, yGc_c (yKq_72 (fun _ _ => yCx_0) hf) (yKq_d y3 m1 m2) hI.2⟩, x3⟩
end
section
/-! ===== questions keep the chalk ===== -/
theorem yJ_C1 {L : Nat} {σ : Nat → Int32} {d c t j : Nat} {H : zp_H} {e : zk_T} {as : List zp_V} (hI : yJ c t H) (hct : zk_Ct L σ (zB_c c) zg zJc e) (hm : yJ_mc e = true) (hd : e.2.2.2.2.2.2 ≤ d) (ha : za_F2 zk_pv e.2.1 as) (hp : e.2.2.1 = []) (hj : e.1 = j) (hk : e.2.2.2.2.2.1.all (zI_k 1) = true) : ∃ H1 v, zp_Call L σ d j as H (.inl (some (.inl v)), H1) ∧ yJ c t H1 := by
  obtain ⟨⟨x, H1⟩, x1, x2, x3⟩ := yJ_C hI hct hm hd ha hp
  obtain ⟨v, rfl⟩ : ∃ v, x = .inl (some (.inl v)) := zI_v1 hk x3
  subst hj
  exact ⟨H1, v, x1, x2⟩
theorem yJ_D1 {L : Nat} {σ : Nat → Int32} {d c t j : Nat} {H : zp_H} {e : zk_T} {as : List zp_V} (hI : yJ c t H) (hct : zk_Ct L σ z0R zg zJ e) (hm : yJ_mr e = true) (hd : e.2.2.2.2.2.2 ≤ d) (ha : za_F2 zk_pv e.2.1 as) (hp : e.2.2.1 = []) (hj : e.1 = j) (hk : e.2.2.2.2.2.1.all (zI_k 1) = true) : ∃ H1 v, zp_Call L σ d j as H (.inl (some (.inl v)), H1) ∧ yJ c t H1 := by
  obtain ⟨⟨x, H1⟩, x1, x2, x3⟩ := yJ_D hI hct hm hd ha hp
  obtain ⟨v, rfl⟩ : ∃ v, x = .inl (some (.inl v)) := zI_v1 hk x3
  subst hj
  exact ⟨H1, v, x1, x2⟩
theorem yJ_D2 {L : Nat} {σ : Nat → Int32} {d c t j : Nat} {H : zp_H} {e : zk_T} {as : List zp_V} (hI : yJ c t H) (hct : zk_Ct L σ z0R zg zJ e) (hm : yJ_mr e = true) (hd : e.2.2.2.2.2.2 ≤ d) (ha : za_F2 zk_pv e.2.1 as) (hp : e.2.2.1 = []) (hj : e.1 = j) (hk : e.2.2.2.2.2.1.all (zI_k 2) = true) : ∃ (H1 : zp_H) (v : Int64), zp_Call L σ d j as H (.inl (some (.inr (.inl v))), H1) ∧ yJ c t H1 := by
  obtain ⟨⟨x, H1⟩, x1, x2, x3⟩ := yJ_D hI hct hm hd ha hp
  obtain ⟨v, rfl⟩ : ∃ v, x = .inl (some (.inr (.inl v))) := zI_v2 hk x3
  subst hj
  exact ⟨H1, v, x1, x2⟩
theorem yp_count {L : Nat} {σ : Nat → Int32} {d c t : Nat} {H : zp_H} {x1 : Int32} (hI : yJ c t H) : ∃ H1 v, zp_Call L σ (d + 60) 100 [.inr (.inr (some 1)), .inl x1, .inr (.inr (some 105))] H (.inl (some (.inl v)), H1) ∧ yJ c t H1 := by
  match c, hI, hI.1.1.2.2.2.2.2 with
  | 0, hI, _ => exact yJ_C1 (e := ze_t0) hI (zc_t0 zB_W zh_all) (by decide +kernel) (by show 3 ≤ d + 60; omega) ⟨rfl, zl_full _, rfl, trivial⟩ rfl rfl rfl
  | 1, hI, _ => exact yJ_C1 (e := ze_t24) hI (zc_t24 zB_W zh_all) (by decide +kernel) (by show 3 ≤ d + 60; omega) ⟨rfl, zl_full _, rfl, trivial⟩ rfl rfl rfl
  | 2, hI, _ => exact yJ_C1 (e := ze_t48) hI (zc_t48 zB_W zh_all) (by decide +kernel) (by show 3 ≤ d + 60; omega) ⟨rfl, zl_full _, rfl, trivial⟩ rfl rfl rfl
  | 3, hI, _ => exact yJ_C1 (e := ze_t72) hI (zc_t72 zB_W zh_all) (by decide +kernel) (by show 3 ≤ d + 60; omega) ⟨rfl, zl_full _, rfl, trivial⟩ rfl rfl rfl

theorem yp_cell {L : Nat} {σ : Nat → Int32} {d c t : Nat} {H : zp_H} {x1 x2 : Int32} (hI : yJ c t H) : ∃ H1 v, zp_Call L σ (d + 60) 102 [.inr (.inr (some 1)), .inl x1, .inl x2, .inr (.inr (some 105))] H (.inl (some (.inl v)), H1) ∧ yJ c t H1 := by
  match c, hI, hI.1.1.2.2.2.2.2 with
  | 0, hI, _ => exact yJ_C1 (e := ze_t1) hI (zc_t1 zB_W zh_all) (by decide +kernel) (by show 3 ≤ d + 60; omega) ⟨rfl, zl_full _, zl_full _, rfl, trivial⟩ rfl rfl rfl
  | 1, hI, _ => exact yJ_C1 (e := ze_t25) hI (zc_t25 zB_W zh_all) (by decide +kernel) (by show 3 ≤ d + 60; omega) ⟨rfl, zl_full _, zl_full _, rfl, trivial⟩ rfl rfl rfl
  | 2, hI, _ => exact yJ_C1 (e := ze_t49) hI (zc_t49 zB_W zh_all) (by decide +kernel) (by show 3 ≤ d + 60; omega) ⟨rfl, zl_full _, zl_full _, rfl, trivial⟩ rfl rfl rfl
  | 3, hI, _ => exact yJ_C1 (e := ze_t73) hI (zc_t73 zB_W zh_all) (by decide +kernel) (by show 3 ≤ d + 60; omega) ⟨rfl, zl_full _, zl_full _, rfl, trivial⟩ rfl rfl rfl

theorem yp_slate {L : Nat} {σ : Nat → Int32} {d c t : Nat} {H : zp_H} {x1 x2 : Int32} (hI : yJ c t H) : ∃ H1 v, zp_Call L σ (d + 60) 106 [.inr (.inr (some 1)), .inl x1, .inl x2, .inr (.inr (some 105))] H (.inl (some (.inl v)), H1) ∧ yJ c t H1 := by
  match c, hI, hI.1.1.2.2.2.2.2 with
  | 0, hI, _ => exact yJ_C1 (e := ze_t2) hI (zc_t2 zB_W zh_all) (by decide +kernel) (by show 3 ≤ d + 60; omega) ⟨rfl, zl_full _, zl_full _, rfl, trivial⟩ rfl rfl rfl
  | 1, hI, _ => exact yJ_C1 (e := ze_t26) hI (zc_t26 zB_W zh_all) (by decide +kernel) (by show 3 ≤ d + 60; omega) ⟨rfl, zl_full _, zl_full _, rfl, trivial⟩ rfl rfl rfl
  | 2, hI, _ => exact yJ_C1 (e := ze_t50) hI (zc_t50 zB_W zh_all) (by decide +kernel) (by show 3 ≤ d + 60; omega) ⟨rfl, zl_full _, zl_full _, rfl, trivial⟩ rfl rfl rfl
  | 3, hI, _ => exact yJ_C1 (e := ze_t74) hI (zc_t74 zB_W zh_all) (by decide +kernel) (by show 3 ≤ d + 60; omega) ⟨rfl, zl_full _, zl_full _, rfl, trivial⟩ rfl rfl rfl

theorem yp_mark {L : Nat} {σ : Nat → Int32} {d c t : Nat} {H : zp_H} {x1 x2 x3 : Int32} (hI : yJ c t H) : ∃ H1 v, zp_Call L σ (d + 60) 109 [.inr (.inr (some 1)), .inl x1, .inl x2, .inl x3, .inr (.inr (some 105))] H (.inl (some (.inl v)), H1) ∧ yJ c t H1 := by
  match c, hI, hI.1.1.2.2.2.2.2 with
  | 0, hI, _ => exact yJ_C1 (e := ze_t3) hI (zc_t3 zB_W zh_all) (by decide +kernel) (by show 3 ≤ d + 60; omega) ⟨rfl, zl_full _, zl_full _, zl_full _, rfl, trivial⟩ rfl rfl rfl
  | 1, hI, _ => exact yJ_C1 (e := ze_t27) hI (zc_t27 zB_W zh_all) (by decide +kernel) (by show 3 ≤ d + 60; omega) ⟨rfl, zl_full _, zl_full _, zl_full _, rfl, trivial⟩ rfl rfl rfl
  | 2, hI, _ => exact yJ_C1 (e := ze_t51) hI (zc_t51 zB_W zh_all) (by decide +kernel) (by show 3 ≤ d + 60; omega) ⟨rfl, zl_full _, zl_full _, zl_full _, rfl, trivial⟩ rfl rfl rfl
  | 3, hI, _ => exact yJ_C1 (e := ze_t75) hI (zc_t75 zB_W zh_all) (by decide +kernel) (by show 3 ≤ d + 60; omega) ⟨rfl, zl_full _, zl_full _, zl_full _, rfl, trivial⟩ rfl rfl rfl

theorem yp_voyage {L : Nat} {σ : Nat → Int32} {d c t : Nat} {H : zp_H} {x1 x2 : Int32} (hI : yJ c t H) : ∃ H1 v, zp_Call L σ (d + 60) 118 [.inr (.inr (some 1)), .inl x1, .inl x2, .inr (.inr (some 105))] H (.inl (some (.inl v)), H1) ∧ yJ c t H1 := by
  match c, hI, hI.1.1.2.2.2.2.2 with
  | 0, hI, _ => exact yJ_C1 (e := ze_t6) hI (zc_t6 zB_W zh_all) (by decide +kernel) (by show 7 ≤ d + 60; omega) ⟨rfl, zl_full _, zl_full _, rfl, trivial⟩ rfl rfl rfl
  | 1, hI, _ => exact yJ_C1 (e := ze_t30) hI (zc_t30 zB_W zh_all) (by decide +kernel) (by show 7 ≤ d + 60; omega) ⟨rfl, zl_full _, zl_full _, rfl, trivial⟩ rfl rfl rfl
  | 2, hI, _ => exact yJ_C1 (e := ze_t54) hI (zc_t54 zB_W zh_all) (by decide +kernel) (by show 7 ≤ d + 60; omega) ⟨rfl, zl_full _, zl_full _, rfl, trivial⟩ rfl rfl rfl
  | 3, hI, _ => exact yJ_C1 (e := ze_t78) hI (zc_t78 zB_W zh_all) (by decide +kernel) (by show 7 ≤ d + 60; omega) ⟨rfl, zl_full _, zl_full _, rfl, trivial⟩ rfl rfl rfl

theorem yp_explained {L : Nat} {σ : Nat → Int32} {d c t : Nat} {H : zp_H} {x1 : Int32} (hI : yJ c t H) : ∃ H1 v, zp_Call L σ (d + 60) 120 [.inr (.inr (some 1)), .inl x1, .inr (.inr (some 105))] H (.inl (some (.inl v)), H1) ∧ yJ c t H1 := by
  match c, hI, hI.1.1.2.2.2.2.2 with
  | 0, hI, _ => exact yJ_C1 (e := ze_t7) hI (zc_t7 zB_W zh_all) (by decide +kernel) (by show 7 ≤ d + 60; omega) ⟨rfl, zl_full _, rfl, trivial⟩ rfl rfl rfl
  | 1, hI, _ => exact yJ_C1 (e := ze_t31) hI (zc_t31 zB_W zh_all) (by decide +kernel) (by show 7 ≤ d + 60; omega) ⟨rfl, zl_full _, rfl, trivial⟩ rfl rfl rfl
  | 2, hI, _ => exact yJ_C1 (e := ze_t55) hI (zc_t55 zB_W zh_all) (by decide +kernel) (by show 7 ≤ d + 60; omega) ⟨rfl, zl_full _, rfl, trivial⟩ rfl rfl rfl
  | 3, hI, _ => exact yJ_C1 (e := ze_t79) hI (zc_t79 zB_W zh_all) (by decide +kernel) (by show 7 ≤ d + 60; omega) ⟨rfl, zl_full _, rfl, trivial⟩ rfl rfl rfl

theorem yp_where {L : Nat} {σ : Nat → Int32} {d c t : Nat} {H : zp_H} {x1 x2 : Int32} (hI : yJ c t H) : ∃ H1 v, zp_Call L σ (d + 60) 122 [.inr (.inr (some 1)), .inl x1, .inl x2, .inr (.inr (some 105))] H (.inl (some (.inl v)), H1) ∧ yJ c t H1 := by
  match c, hI, hI.1.1.2.2.2.2.2 with
  | 0, hI, _ => exact yJ_C1 (e := ze_t8) hI (zc_t8 zB_W zh_all) (by decide +kernel) (by show 8 ≤ d + 60; omega) ⟨rfl, zl_full _, zl_full _, rfl, trivial⟩ rfl rfl rfl
  | 1, hI, _ => exact yJ_C1 (e := ze_t32) hI (zc_t32 zB_W zh_all) (by decide +kernel) (by show 8 ≤ d + 60; omega) ⟨rfl, zl_full _, zl_full _, rfl, trivial⟩ rfl rfl rfl
  | 2, hI, _ => exact yJ_C1 (e := ze_t56) hI (zc_t56 zB_W zh_all) (by decide +kernel) (by show 8 ≤ d + 60; omega) ⟨rfl, zl_full _, zl_full _, rfl, trivial⟩ rfl rfl rfl
  | 3, hI, _ => exact yJ_C1 (e := ze_t80) hI (zc_t80 zB_W zh_all) (by decide +kernel) (by show 8 ≤ d + 60; omega) ⟨rfl, zl_full _, zl_full _, rfl, trivial⟩ rfl rfl rfl

theorem yp_pilot {L : Nat} {σ : Nat → Int32} {d c t : Nat} {H : zp_H} {x1 x2 : Int32} (hI : yJ c t H) : ∃ H1 v, zp_Call L σ (d + 60) 132 [.inr (.inr (some 1)), .inl x1, .inl x2, .inr (.inr (some 105))] H (.inl (some (.inl v)), H1) ∧ yJ c t H1 := by
  match c, hI, hI.1.1.2.2.2.2.2 with
  | 0, hI, _ => exact yJ_C1 (e := ze_t9) hI (zc_t9 zB_W zh_all) (by decide +kernel) (by show 3 ≤ d + 60; omega) ⟨rfl, zl_full _, zl_full _, rfl, trivial⟩ rfl rfl rfl
  | 1, hI, _ => exact yJ_C1 (e := ze_t33) hI (zc_t33 zB_W zh_all) (by decide +kernel) (by show 3 ≤ d + 60; omega) ⟨rfl, zl_full _, zl_full _, rfl, trivial⟩ rfl rfl rfl
  | 2, hI, _ => exact yJ_C1 (e := ze_t57) hI (zc_t57 zB_W zh_all) (by decide +kernel) (by show 3 ≤ d + 60; omega) ⟨rfl, zl_full _, zl_full _, rfl, trivial⟩ rfl rfl rfl
  | 3, hI, _ => exact yJ_C1 (e := ze_t81) hI (zc_t81 zB_W zh_all) (by decide +kernel) (by show 3 ≤ d + 60; omega) ⟨rfl, zl_full _, zl_full _, rfl, trivial⟩ rfl rfl rfl

theorem yp_sails {L : Nat} {σ : Nat → Int32} {d c t : Nat} {H : zp_H} {x1 x2 x3 : Int32} (hI : yJ c t H) : ∃ H1 v, zp_Call L σ (d + 60) 135 [.inr (.inr (some 1)), .inl x1, .inl x2, .inl x3, .inr (.inr (some 105))] H (.inl (some (.inl v)), H1) ∧ yJ c t H1 := by
  match c, hI, hI.1.1.2.2.2.2.2 with
  | 0, hI, _ => exact yJ_C1 (e := ze_t10) hI (zc_t10 zB_W zh_all) (by decide +kernel) (by show 8 ≤ d + 60; omega) ⟨rfl, zl_full _, zl_full _, zl_full _, rfl, trivial⟩ rfl rfl rfl
  | 1, hI, _ => exact yJ_C1 (e := ze_t34) hI (zc_t34 zB_W zh_all) (by decide +kernel) (by show 8 ≤ d + 60; omega) ⟨rfl, zl_full _, zl_full _, zl_full _, rfl, trivial⟩ rfl rfl rfl
  | 2, hI, _ => exact yJ_C1 (e := ze_t58) hI (zc_t58 zB_W zh_all) (by decide +kernel) (by show 8 ≤ d + 60; omega) ⟨rfl, zl_full _, zl_full _, zl_full _, rfl, trivial⟩ rfl rfl rfl
  | 3, hI, _ => exact yJ_C1 (e := ze_t82) hI (zc_t82 zB_W zh_all) (by decide +kernel) (by show 8 ≤ d + 60; omega) ⟨rfl, zl_full _, zl_full _, zl_full _, rfl, trivial⟩ rfl rfl rfl

theorem yp_study {L : Nat} {σ : Nat → Int32} {d c t : Nat} {H : zp_H} {x1 : Int32} (hI : yJ c t H) : ∃ H1 v, zp_Call L σ (d + 60) 137 [.inr (.inr (some 1)), .inl x1, .inr (.inr (some 105))] H (.inl (some (.inl v)), H1) ∧ yJ c t H1 := by
  match c, hI, hI.1.1.2.2.2.2.2 with
  | 0, hI, _ => exact yJ_C1 (e := ze_t11) hI (zc_t11 zB_W zh_all) (by decide +kernel) (by show 8 ≤ d + 60; omega) ⟨rfl, zl_full _, rfl, trivial⟩ rfl rfl rfl
  | 1, hI, _ => exact yJ_C1 (e := ze_t35) hI (zc_t35 zB_W zh_all) (by decide +kernel) (by show 8 ≤ d + 60; omega) ⟨rfl, zl_full _, rfl, trivial⟩ rfl rfl rfl
  | 2, hI, _ => exact yJ_C1 (e := ze_t59) hI (zc_t59 zB_W zh_all) (by decide +kernel) (by show 8 ≤ d + 60; omega) ⟨rfl, zl_full _, rfl, trivial⟩ rfl rfl rfl
  | 3, hI, _ => exact yJ_C1 (e := ze_t83) hI (zc_t83 zB_W zh_all) (by decide +kernel) (by show 8 ≤ d + 60; omega) ⟨rfl, zl_full _, rfl, trivial⟩ rfl rfl rfl

theorem yp_studied {L : Nat} {σ : Nat → Int32} {d c t : Nat} {H : zp_H} {x1 : Int32} (hI : yJ c t H) : ∃ H1 v, zp_Call L σ (d + 60) 150 [.inr (.inr (some 1)), .inl x1, .inr (.inr (some 105))] H (.inl (some (.inl v)), H1) ∧ yJ c t H1 := by
  match c, hI, hI.1.1.2.2.2.2.2 with
  | 0, hI, _ => exact yJ_C1 (e := ze_t12) hI (zc_t12 zB_W zh_all) (by decide +kernel) (by show 2 ≤ d + 60; omega) ⟨rfl, zl_full _, rfl, trivial⟩ rfl rfl rfl
  | 1, hI, _ => exact yJ_C1 (e := ze_t36) hI (zc_t36 zB_W zh_all) (by decide +kernel) (by show 2 ≤ d + 60; omega) ⟨rfl, zl_full _, rfl, trivial⟩ rfl rfl rfl
  | 2, hI, _ => exact yJ_C1 (e := ze_t60) hI (zc_t60 zB_W zh_all) (by decide +kernel) (by show 2 ≤ d + 60; omega) ⟨rfl, zl_full _, rfl, trivial⟩ rfl rfl rfl
  | 3, hI, _ => exact yJ_C1 (e := ze_t84) hI (zc_t84 zB_W zh_all) (by decide +kernel) (by show 2 ≤ d + 60; omega) ⟨rfl, zl_full _, rfl, trivial⟩ rfl rfl rfl

theorem yp_dive {L : Nat} {σ : Nat → Int32} {d c t : Nat} {H : zp_H} {x1 x2 : Int32} (hI : yJ c t H) : ∃ H1 v, zp_Call L σ (d + 60) 152 [.inr (.inr (some 1)), .inl x1, .inl x2, .inr (.inr (some 105))] H (.inl (some (.inl v)), H1) ∧ yJ c t H1 := by
  match c, hI, hI.1.1.2.2.2.2.2 with
  | 0, hI, _ => exact yJ_C1 (e := ze_t14) hI (zc_t14 zB_W zh_all) (by decide +kernel) (by show 8 ≤ d + 60; omega) ⟨rfl, zl_full _, zl_full _, rfl, trivial⟩ rfl rfl rfl
  | 1, hI, _ => exact yJ_C1 (e := ze_t38) hI (zc_t38 zB_W zh_all) (by decide +kernel) (by show 8 ≤ d + 60; omega) ⟨rfl, zl_full _, zl_full _, rfl, trivial⟩ rfl rfl rfl
  | 2, hI, _ => exact yJ_C1 (e := ze_t62) hI (zc_t62 zB_W zh_all) (by decide +kernel) (by show 8 ≤ d + 60; omega) ⟨rfl, zl_full _, zl_full _, rfl, trivial⟩ rfl rfl rfl
  | 3, hI, _ => exact yJ_C1 (e := ze_t86) hI (zc_t86 zB_W zh_all) (by decide +kernel) (by show 8 ≤ d + 60; omega) ⟨rfl, zl_full _, zl_full _, rfl, trivial⟩ rfl rfl rfl

theorem yp_chart {L : Nat} {σ : Nat → Int32} {d c t : Nat} {H : zp_H} {x1 : Int32} (hI : yJ c t H) : ∃ H1 v, zp_Call L σ (d + 60) 155 [.inr (.inr (some 1)), .inl x1, .inr (.inr (some 105))] H (.inl (some (.inl v)), H1) ∧ yJ c t H1 := by
  match c, hI, hI.1.1.2.2.2.2.2 with
  | 0, hI, _ => exact yJ_C1 (e := ze_t16) hI (zc_t16 zB_W zh_all) (by decide +kernel) (by show 7 ≤ d + 60; omega) ⟨rfl, zl_full _, rfl, trivial⟩ rfl rfl rfl
  | 1, hI, _ => exact yJ_C1 (e := ze_t40) hI (zc_t40 zB_W zh_all) (by decide +kernel) (by show 7 ≤ d + 60; omega) ⟨rfl, zl_full _, rfl, trivial⟩ rfl rfl rfl
  | 2, hI, _ => exact yJ_C1 (e := ze_t64) hI (zc_t64 zB_W zh_all) (by decide +kernel) (by show 7 ≤ d + 60; omega) ⟨rfl, zl_full _, rfl, trivial⟩ rfl rfl rfl
  | 3, hI, _ => exact yJ_C1 (e := ze_t88) hI (zc_t88 zB_W zh_all) (by decide +kernel) (by show 7 ≤ d + 60; omega) ⟨rfl, zl_full _, rfl, trivial⟩ rfl rfl rfl

theorem yp_hand {L : Nat} {σ : Nat → Int32} {d c t : Nat} {H : zp_H} {x1 x2 : Int32} (hI : yJ c t H) : ∃ H1 v, zp_Call L σ (d + 60) 157 [.inr (.inr (some 1)), .inl x1, .inl x2, .inr (.inr (some 105))] H (.inl (some (.inl v)), H1) ∧ yJ c t H1 := by
  match c, hI, hI.1.1.2.2.2.2.2 with
  | 0, hI, _ => exact yJ_C1 (e := ze_t17) hI (zc_t17 zB_W zh_all) (by decide +kernel) (by show 5 ≤ d + 60; omega) ⟨rfl, zl_full _, zl_full _, rfl, trivial⟩ rfl rfl rfl
  | 1, hI, _ => exact yJ_C1 (e := ze_t41) hI (zc_t41 zB_W zh_all) (by decide +kernel) (by show 5 ≤ d + 60; omega) ⟨rfl, zl_full _, zl_full _, rfl, trivial⟩ rfl rfl rfl
  | 2, hI, _ => exact yJ_C1 (e := ze_t65) hI (zc_t65 zB_W zh_all) (by decide +kernel) (by show 5 ≤ d + 60; omega) ⟨rfl, zl_full _, zl_full _, rfl, trivial⟩ rfl rfl rfl
  | 3, hI, _ => exact yJ_C1 (e := ze_t89) hI (zc_t89 zB_W zh_all) (by decide +kernel) (by show 5 ≤ d + 60; omega) ⟨rfl, zl_full _, zl_full _, rfl, trivial⟩ rfl rfl rfl

theorem yp_copied {L : Nat} {σ : Nat → Int32} {d c t : Nat} {H : zp_H} {x1 x2 x3 : Int32} (hI : yJ c t H) : ∃ H1 v, zp_Call L σ (d + 60) 162 [.inr (.inr (some 1)), .inl x1, .inl x2, .inl x3, .inr (.inr (some 105))] H (.inl (some (.inl v)), H1) ∧ yJ c t H1 := by
  match c, hI, hI.1.1.2.2.2.2.2 with
  | 0, hI, _ => exact yJ_C1 (e := ze_t18) hI (zc_t18 zB_W zh_all) (by decide +kernel) (by show 5 ≤ d + 60; omega) ⟨rfl, zl_full _, zl_full _, zl_full _, rfl, trivial⟩ rfl rfl rfl
  | 1, hI, _ => exact yJ_C1 (e := ze_t42) hI (zc_t42 zB_W zh_all) (by decide +kernel) (by show 5 ≤ d + 60; omega) ⟨rfl, zl_full _, zl_full _, zl_full _, rfl, trivial⟩ rfl rfl rfl
  | 2, hI, _ => exact yJ_C1 (e := ze_t66) hI (zc_t66 zB_W zh_all) (by decide +kernel) (by show 5 ≤ d + 60; omega) ⟨rfl, zl_full _, zl_full _, zl_full _, rfl, trivial⟩ rfl rfl rfl
  | 3, hI, _ => exact yJ_C1 (e := ze_t90) hI (zc_t90 zB_W zh_all) (by decide +kernel) (by show 5 ≤ d + 60; omega) ⟨rfl, zl_full _, zl_full _, zl_full _, rfl, trivial⟩ rfl rfl rfl

theorem yp_fault {L : Nat} {σ : Nat → Int32} {d c t : Nat} {H : zp_H} (hI : yJ c t H) : ∃ H1 v, zp_Call L σ (d + 60) 19 [.inr (.inr (some 1))] H (.inl (some (.inl v)), H1) ∧ yJ c t H1 := by
  match c, hI, hI.1.1.2.2.2.2.2 with
  | 0, hI, _ => exact yJ_C1 (e := ze_t19) hI (zc_t19 zB_W zh_all) (by decide +kernel) (by show 1 ≤ d + 60; omega) ⟨rfl, trivial⟩ rfl rfl rfl
  | 1, hI, _ => exact yJ_C1 (e := ze_t43) hI (zc_t43 zB_W zh_all) (by decide +kernel) (by show 1 ≤ d + 60; omega) ⟨rfl, trivial⟩ rfl rfl rfl
  | 2, hI, _ => exact yJ_C1 (e := ze_t67) hI (zc_t67 zB_W zh_all) (by decide +kernel) (by show 1 ≤ d + 60; omega) ⟨rfl, trivial⟩ rfl rfl rfl
  | 3, hI, _ => exact yJ_C1 (e := ze_t91) hI (zc_t91 zB_W zh_all) (by decide +kernel) (by show 1 ≤ d + 60; omega) ⟨rfl, trivial⟩ rfl rfl rfl

theorem yp_exam {L : Nat} {σ : Nat → Int32} {d c t : Nat} {H : zp_H} (hI : yJ c t H) : ∃ H1 v, zp_Call L σ (d + 60) 22 [.inr (.inr (some 1))] H (.inl (some (.inl v)), H1) ∧ yJ c t H1 := by
  match c, hI, hI.1.1.2.2.2.2.2 with
  | 0, hI, _ => exact yJ_C1 (e := ze_t21) hI (zc_t21 zB_W zh_all) (by decide +kernel) (by show 7 ≤ d + 60; omega) ⟨rfl, trivial⟩ rfl rfl rfl
  | 1, hI, _ => exact yJ_C1 (e := ze_t45) hI (zc_t45 zB_W zh_all) (by decide +kernel) (by show 7 ≤ d + 60; omega) ⟨rfl, trivial⟩ rfl rfl rfl
  | 2, hI, _ => exact yJ_C1 (e := ze_t69) hI (zc_t69 zB_W zh_all) (by decide +kernel) (by show 7 ≤ d + 60; omega) ⟨rfl, trivial⟩ rfl rfl rfl
  | 3, hI, _ => exact yJ_C1 (e := ze_t93) hI (zc_t93 zB_W zh_all) (by decide +kernel) (by show 7 ≤ d + 60; omega) ⟨rfl, trivial⟩ rfl rfl rfl

theorem yq_fault {L : Nat} {σ : Nat → Int32} {d c t : Nat} {H : zp_H} (hI : yJ c t H) : ∃ H1 v, zp_Call L σ (d + 60) 205 [.inr (.inr (some 73))] H (.inl (some (.inl v)), H1) ∧ yJ c t H1 :=
  yJ_D1 (e := zr_e1) hI (z0rc_e1 z0R_W z0r_all) (by decide +kernel) (by show 1 ≤ d + 60; omega) ⟨rfl, trivial⟩ rfl rfl rfl

theorem yq_count {L : Nat} {σ : Nat → Int32} {d c t : Nat} {H : zp_H} {x1 : Int32} (hI : yJ c t H) : ∃ H1 v, zp_Call L σ (d + 60) 206 [.inr (.inr (some 73)), .inl x1] H (.inl (some (.inl v)), H1) ∧ yJ c t H1 :=
  yJ_D1 (e := zr_e2) hI (z0rc_e2 z0R_W z0r_all) (by decide +kernel) (by show 2 ≤ d + 60; omega) ⟨rfl, zl_full _, trivial⟩ rfl rfl rfl

theorem yq_cell {L : Nat} {σ : Nat → Int32} {d c t : Nat} {H : zp_H} {x1 x2 : Int32} (hI : yJ c t H) : ∃ H1 v, zp_Call L σ (d + 60) 207 [.inr (.inr (some 73)), .inl x1, .inl x2] H (.inl (some (.inl v)), H1) ∧ yJ c t H1 :=
  yJ_D1 (e := zr_e3) hI (z0rc_e3 z0R_W z0r_all) (by decide +kernel) (by show 3 ≤ d + 60; omega) ⟨rfl, zl_full _, zl_full _, trivial⟩ rfl rfl rfl

theorem yq_slate {L : Nat} {σ : Nat → Int32} {d c t : Nat} {H : zp_H} {x1 x2 : Int32} (hI : yJ c t H) : ∃ H1 v, zp_Call L σ (d + 60) 209 [.inr (.inr (some 73)), .inl x1, .inl x2] H (.inl (some (.inl v)), H1) ∧ yJ c t H1 :=
  yJ_D1 (e := zr_e4) hI (z0rc_e4 z0R_W z0r_all) (by decide +kernel) (by show 3 ≤ d + 60; omega) ⟨rfl, zl_full _, zl_full _, trivial⟩ rfl rfl rfl

theorem yq_mark {L : Nat} {σ : Nat → Int32} {d c t : Nat} {H : zp_H} {x1 x2 x3 : Int32} (hI : yJ c t H) : ∃ H1 v, zp_Call L σ (d + 60) 211 [.inr (.inr (some 73)), .inl x1, .inl x2, .inl x3] H (.inl (some (.inl v)), H1) ∧ yJ c t H1 :=
  yJ_D1 (e := zr_e5) hI (z0rc_e5 z0R_W z0r_all) (by decide +kernel) (by show 3 ≤ d + 60; omega) ⟨rfl, zl_full _, zl_full _, zl_full _, trivial⟩ rfl rfl rfl

theorem yq_voyage {L : Nat} {σ : Nat → Int32} {d c t : Nat} {H : zp_H} {x1 x2 : Int32} (hI : yJ c t H) : ∃ H1 v, zp_Call L σ (d + 60) 219 [.inr (.inr (some 73)), .inl x1, .inl x2] H (.inl (some (.inl v)), H1) ∧ yJ c t H1 :=
  yJ_D1 (e := zr_e9) hI (z0rc_e9 z0R_W z0r_all) (by decide +kernel) (by show 4 ≤ d + 60; omega) ⟨rfl, zl_full _, zl_full _, trivial⟩ rfl rfl rfl

theorem yq_explained {L : Nat} {σ : Nat → Int32} {d c t : Nat} {H : zp_H} {x1 : Int32} (hI : yJ c t H) : ∃ H1 v, zp_Call L σ (d + 60) 224 [.inr (.inr (some 73)), .inl x1] H (.inl (some (.inl v)), H1) ∧ yJ c t H1 :=
  yJ_D1 (e := zr_e10) hI (z0rc_e10 z0R_W z0r_all) (by decide +kernel) (by show 4 ≤ d + 60; omega) ⟨rfl, zl_full _, trivial⟩ rfl rfl rfl

theorem yq_where {L : Nat} {σ : Nat → Int32} {d c t : Nat} {H : zp_H} {x1 x2 : Int32} (hI : yJ c t H) : ∃ (H1 : zp_H) (v : Int64), zp_Call L σ (d + 60) 225 [.inr (.inr (some 73)), .inl x1, .inl x2] H (.inl (some (.inr (.inl v))), H1) ∧ yJ c t H1 :=
  yJ_D2 (e := zr_e12) hI (z0rc_e12 z0R_W z0r_all) (by decide +kernel) (by show 4 ≤ d + 60; omega) ⟨rfl, zl_full _, zl_full _, trivial⟩ rfl rfl rfl

theorem yq_pilot {L : Nat} {σ : Nat → Int32} {d c t : Nat} {H : zp_H} {x1 x2 : Int32} (hI : yJ c t H) : ∃ H1 v, zp_Call L σ (d + 60) 227 [.inr (.inr (some 73)), .inl x1, .inl x2] H (.inl (some (.inl v)), H1) ∧ yJ c t H1 :=
  yJ_D1 (e := zr_e13) hI (z0rc_e13 z0R_W z0r_all) (by decide +kernel) (by show 3 ≤ d + 60; omega) ⟨rfl, zl_full _, zl_full _, trivial⟩ rfl rfl rfl

theorem yq_sails {L : Nat} {σ : Nat → Int32} {d c t : Nat} {H : zp_H} {x1 x2 x3 : Int32} (hI : yJ c t H) : ∃ H1 v, zp_Call L σ (d + 60) 229 [.inr (.inr (some 73)), .inl x1, .inl x2, .inl x3] H (.inl (some (.inl v)), H1) ∧ yJ c t H1 :=
  yJ_D1 (e := zr_e16) hI (z0rc_e16 z0R_W z0r_all) (by decide +kernel) (by show 10 ≤ d + 60; omega) ⟨rfl, zl_full _, zl_full _, zl_full _, trivial⟩ rfl rfl rfl

theorem yq_exam {L : Nat} {σ : Nat → Int32} {d c t : Nat} {H : zp_H} (hI : yJ c t H) : ∃ H1 v, zp_Call L σ (d + 60) 236 [.inr (.inr (some 73))] H (.inl (some (.inl v)), H1) ∧ yJ c t H1 :=
  yJ_D1 (e := zr_e17) hI (z0rc_e17 z0R_W z0r_all) (by decide +kernel) (by show 10 ≤ d + 60; omega) ⟨rfl, trivial⟩ rfl rfl rfl

theorem yq_study {L : Nat} {σ : Nat → Int32} {d c t : Nat} {H : zp_H} {x1 : Int32} (hI : yJ c t H) : ∃ H1 v, zp_Call L σ (d + 60) 237 [.inr (.inr (some 73)), .inl x1] H (.inl (some (.inl v)), H1) ∧ yJ c t H1 :=
  yJ_D1 (e := zr_e18) hI (z0rc_e18 z0R_W z0r_all) (by decide +kernel) (by show 25 ≤ d + 60; omega) ⟨rfl, zl_full _, trivial⟩ rfl rfl rfl

theorem yq_studied {L : Nat} {σ : Nat → Int32} {d c t : Nat} {H : zp_H} {x1 : Int32} (hI : yJ c t H) : ∃ H1 v, zp_Call L σ (d + 60) 242 [.inr (.inr (some 73)), .inl x1] H (.inl (some (.inl v)), H1) ∧ yJ c t H1 :=
  yJ_D1 (e := zr_e19) hI (z0rc_e19 z0R_W z0r_all) (by decide +kernel) (by show 2 ≤ d + 60; omega) ⟨rfl, zl_full _, trivial⟩ rfl rfl rfl

theorem yq_dive {L : Nat} {σ : Nat → Int32} {d c t : Nat} {H : zp_H} {x1 x2 : Int32} (hI : yJ c t H) : ∃ H1 v, zp_Call L σ (d + 60) 243 [.inr (.inr (some 73)), .inl x1, .inl x2] H (.inl (some (.inl v)), H1) ∧ yJ c t H1 :=
  yJ_D1 (e := zr_e20) hI (z0rc_e20 z0R_W z0r_all) (by decide +kernel) (by show 4 ≤ d + 60; omega) ⟨rfl, zl_full _, zl_full _, trivial⟩ rfl rfl rfl

theorem yq_chart {L : Nat} {σ : Nat → Int32} {d c t : Nat} {H : zp_H} {x1 : Int32} (hI : yJ c t H) : ∃ (H1 : zp_H) (v : Int64), zp_Call L σ (d + 60) 244 [.inr (.inr (some 73)), .inl x1] H (.inl (some (.inr (.inl v))), H1) ∧ yJ c t H1 :=
  yJ_D2 (e := zr_e21) hI (z0rc_e21 z0R_W z0r_all) (by decide +kernel) (by show 5 ≤ d + 60; omega) ⟨rfl, zl_full _, trivial⟩ rfl rfl rfl

theorem yq_hand {L : Nat} {σ : Nat → Int32} {d c t : Nat} {H : zp_H} {x1 x2 : Int32} (hI : yJ c t H) : ∃ (H1 : zp_H) (v : Int64), zp_Call L σ (d + 60) 245 [.inr (.inr (some 73)), .inl x1, .inl x2] H (.inl (some (.inr (.inl v))), H1) ∧ yJ c t H1 :=
  yJ_D2 (e := zr_e23) hI (z0rc_e23 z0R_W z0r_all) (by decide +kernel) (by show 3 ≤ d + 60; omega) ⟨rfl, zl_full _, zl_full _, trivial⟩ rfl rfl rfl

theorem yq_copied {L : Nat} {σ : Nat → Int32} {d c t : Nat} {H : zp_H} {x1 x2 x3 : Int32} (hI : yJ c t H) : ∃ H1 v, zp_Call L σ (d + 60) 247 [.inr (.inr (some 73)), .inl x1, .inl x2, .inl x3] H (.inl (some (.inl v)), H1) ∧ yJ c t H1 :=
  yJ_D1 (e := zr_e25) hI (z0rc_e25 z0R_W z0r_all) (by decide +kernel) (by show 3 ≤ d + 60; omega) ⟨rfl, zl_full _, zl_full _, zl_full _, trivial⟩ rfl rfl rfl
end
