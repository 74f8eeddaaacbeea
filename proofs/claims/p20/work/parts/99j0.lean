section
/-! ===== the chalk as both sides hold it ===== -/
/-- slates, their image and pilots lie within the sea -/
def yGr (H : zp_H) : Prop := (∀ s : Nat, (s : Int) < (H.2.1 72 5).toInt → 0 ≤ (H.2.1 74 (4 * s)).toInt ∧ (H.2.1 74 (4 * s)).toInt < (H.2.1 72 1).toInt * (H.2.1 72 2).toInt) ∧ (¬ (H.2.1 72 80).toInt = 0 → ∀ s : Nat, (s : Int) < (H.2.1 72 5).toInt → 0 ≤ (H.2.1 101 (4 * s)).toInt ∧ (H.2.1 101 (4 * s)).toInt < (H.2.1 72 1).toInt * (H.2.1 72 2).toInt) ∧ ∀ p : Nat, (p : Int) < (H.2.1 72 7).toInt → 0 ≤ (H.2.1 77 (3 * p)).toInt ∧ (H.2.1 77 (3 * p)).toInt < (H.2.1 72 1).toInt * (H.2.1 72 2).toInt
theorem yGr_k {H H' : zp_H} (e1 : H'.2.1 72 1 = H.2.1 72 1) (e2 : H'.2.1 72 2 = H.2.1 72 2) (e5 : H'.2.1 72 5 = H.2.1 72 5) (e7 : H'.2.1 72 7 = H.2.1 72 7) (hs : ∀ s : Nat, (s : Int) < (H.2.1 72 5).toInt → 0 ≤ (H'.2.1 74 (4 * s)).toInt ∧ (H'.2.1 74 (4 * s)).toInt < (H.2.1 72 1).toInt * (H.2.1 72 2).toInt) (hi : ¬ (H'.2.1 72 80).toInt = 0 → ∀ s : Nat, (s : Int) < (H.2.1 72 5).toInt → 0 ≤ (H'.2.1 101 (4 * s)).toInt ∧ (H'.2.1 101 (4 * s)).toInt < (H.2.1 72 1).toInt * (H.2.1 72 2).toInt) (e77 : ∀ k, H'.2.1 77 k = H.2.1 77 k) (h : yGr H) : yGr H' := by
  refine ⟨fun s h1 => ?_, fun hn s h1 => ?_, fun p h1 => ?_⟩
  · rw [e5] at h1
    rw [e1, e2]
    exact hs s h1
  · rw [e5] at h1
    rw [e1, e2]
    exact hi hn s h1
  · rw [e7] at h1
    rw [e1, e2, e77]
    exact h.2.2 p h1
def yGc (c : Nat) (H : zp_H) : Prop := (∃ A, xKw A ∧ yHc (ycp c) A H ∧ yHr 74 75 93 62 A H) ∧ H.2.1 0 10 = H.2.1 72 80 ∧ (¬ (H.2.1 0 10).toInt = 0 → ∃ B, xKw B ∧ yHc 42 B H ∧ yHr 101 102 103 81 B H) ∧ H.2.1 0 3 = H.2.1 82 0 ∧ H.2.1 0 4 = H.2.1 82 1 ∧ yGr H
/-- places of the class: a field of its object (0), an object's or an array's -/
def yCx (q : Nat × Nat) : Bool := (((Nat.ble 13 q.1).and (Nat.ble q.1 21)).or ((Nat.ble 33 q.1).and (Nat.ble q.1 50))).or ((Nat.beq q.1 0).and ((Nat.beq q.2 3).or ((Nat.beq q.2 4).or (Nat.beq q.2 10))))
def yDx (q : Nat × Nat) : Bool := ((Nat.beq q.1 72).and ((Nat.beq q.2 1).or ((Nat.beq q.2 2).or ((Nat.beq q.2 7).or ((Nat.beq q.2 5).or ((Nat.beq q.2 62).or ((Nat.beq q.2 80).or (Nat.beq q.2 81)))))))).or (((Nat.beq q.1 74).or ((Nat.beq q.1 75).or (Nat.beq q.1 77))).or ((Nat.beq q.1 82).or ((Nat.beq q.1 93).or ((Nat.ble 101 q.1).and (Nat.ble q.1 103)))))
/-- the image and what else an act leaves -/
def yCi (q : Nat × Nat) : Bool := ((Nat.ble 42 q.1).and (Nat.ble q.1 50)).or ((Nat.beq q.1 0).and ((Nat.beq q.2 3).or (Nat.beq q.2 10)))
def yKq (Q : Nat × Nat → Bool) (H H' : zp_H) : Prop := ∀ p k, Q (p, k) = true → H'.2.1 p k = H.2.1 p k
theorem yCx_0 {p k : Nat} (h : yCx (p, k) = true) : p < 72 ∧ (p ≠ 0 → yCx (p, 0) = true) := by
  rcases Bool.or_eq_true_iff.mp h with h | h
  · refine ⟨?_, fun _ => Bool.or_eq_true_iff.mpr (Or.inl h)⟩
    rcases Bool.or_eq_true_iff.mp h with h | h
    · have a : p ≤ 21 := Nat.le_of_ble_eq_true (Bool.and_eq_true_iff.mp h).2
      omega
    · have a : p ≤ 50 := Nat.le_of_ble_eq_true (Bool.and_eq_true_iff.mp h).2
      omega
  · have a : p = 0 := za_beq (Bool.and_eq_true_iff.mp h).1
    exact ⟨by omega, fun h9 => absurd a h9⟩
theorem yCi_0 {p k : Nat} (h : yCi (p, k) = true) : p < 72 ∧ (p ≠ 0 → yCi (p, 0) = true) := by
  rcases Bool.or_eq_true_iff.mp h with h | h
  · refine ⟨?_, fun _ => Bool.or_eq_true_iff.mpr (Or.inl h)⟩
    have a : p ≤ 50 := Nat.le_of_ble_eq_true (Bool.and_eq_true_iff.mp h).2
    omega
  · have a : p = 0 := za_beq (Bool.and_eq_true_iff.mp h).1
    exact ⟨by omega, fun h9 => absurd a h9⟩
theorem yDx_0 {p k : Nat} (h : yDx (p, k) = true) : 72 ≤ p ∧ p ≠ 104 ∧ ¬ (p = 72 ∧ k = 100) ∧ ¬ (p = 72 ∧ k = 0) ∧ (p ≠ 72 → yDx (p, 0) = true) ∧ p ≠ 81 := by
  rcases Bool.or_eq_true_iff.mp h with h | h
  · obtain ⟨a, b⟩ := Bool.and_eq_true_iff.mp h
    have a : p = 72 := za_beq a
    refine ⟨by omega, by omega, fun h9 => ?_, fun h9 => ?_, fun h9 => absurd a h9, by omega⟩
    · have e := h9.2
      subst e
      exact absurd (show false = true from b) (by decide)
    · have e := h9.2
      subst e
      exact absurd (show false = true from b) (by decide)
  · have k1 : yDx (p, 0) = true := Bool.or_eq_true_iff.mpr (Or.inr h)
    have k2 : 74 ≤ p ∧ p ≤ 103 ∧ p ≠ 81 := by
      rcases Bool.or_eq_true_iff.mp h with h | h
      · rcases Bool.or_eq_true_iff.mp h with h | h
        · have a : p = 74 := za_beq h
          omega
        rcases Bool.or_eq_true_iff.mp h with h | h
        · have a : p = 75 := za_beq h
          omega
        · have a : p = 77 := za_beq h
          omega
      rcases Bool.or_eq_true_iff.mp h with h | h
      · have a : p = 82 := za_beq h
        omega
      rcases Bool.or_eq_true_iff.mp h with h | h
      · have a : p = 93 := za_beq h
        omega
      · obtain ⟨a, b⟩ := Bool.and_eq_true_iff.mp h
        have a : 101 ≤ p := Nat.le_of_ble_eq_true a
        have b : p ≤ 103 := Nat.le_of_ble_eq_true b
        omega
    exact ⟨by omega, by omega, fun h9 => by omega, fun h9 => by omega, fun _ => k1, by omega⟩
theorem yKq_c {Q : Nat × Nat → Bool} {mods : List (Nat × Nat)} {am : List Nat} {H H1 : zp_H} (hQ : ∀ p k, Q (p, k) = true → p < 72 ∧ (p ≠ 0 → Q (p, 0) = true)) (h : zk_Fr zg mods am H H1) (hm : mods.all (fun q => (Q q).not) = true) (ha : am.all (fun q => ((Q (q, 0)).or (Nat.beq q 0)).not) = true) : yKq Q H H1 := fun p k hp => (zI_in h (zI_nm (P := fun q => (Q q).not) hm (by show (Q (p, k)).not = false; rw [hp]; rfl)) (zI_na (P := fun q => ((Q (q, 0)).or (Nat.beq q 0)).not) ha (by
  show ((Q (p, 0)).or (Nat.beq p 0)).not = false
  by_cases h9 : p = 0
  · subst h9
    exact congrArg Bool.not (Bool.or_true _)
  · rw [(hQ p k hp).2 h9]; rfl)) (fun h9 => by have := (hQ p k hp).1; omega)).1
theorem yKq_d {mods : List (Nat × Nat)} {am : List Nat} {H H1 : zp_H} (h : zk_Fr zg mods am H H1) (hm : mods.all (fun q => (yDx q).not) = true) (ha : am.all (fun q => ((yDx (q, 0)).or (Nat.beq q 72)).not) = true) : yKq yDx H H1 := fun p k hp => (zI_in h (zI_nm (P := fun q => (yDx q).not) hm (by show (yDx (p, k)).not = false; rw [hp]; rfl)) (zI_na (P := fun q => ((yDx (q, 0)).or (Nat.beq q 72)).not) ha (by
  show ((yDx (p, 0)).or (Nat.beq p 72)).not = false
  by_cases h9 : p = 72
  · subst h9
    exact congrArg Bool.not (Bool.or_true _)
  · rw [(yDx_0 hp).2.2.2.2.1 h9]; rfl)) (yDx_0 hp).2.2.1).1
theorem yKq_f {H H' : zp_H} (h : zf_C H H') : yKq yDx H H' := fun p k hp => (h p k (yDx_0 hp).1 (yDx_0 hp).2.1 (yDx_0 hp).2.2.1).1
theorem yKq_72 {Q : Nat × Nat → Bool} {H H' : zp_H} (hQ : ∀ p k, Q (p, k) = true → p < 72 ∧ (p ≠ 0 → Q (p, 0) = true)) (h : zf_72 H H') : yKq Q H H' := fun p k hp => (h.2 p k (hQ p k hp).1).1
theorem ycp_x (c : Nat) : ycp c = 13 ∨ ycp c = 33 := by unfold ycp; split <;> simp
theorem yCx_cp {c p k : Nat} (h1 : ycp c ≤ p) (h2 : p ≤ ycp c + 8) : yCx (p, k) = true := by
  refine Bool.or_eq_true_iff.mpr (Or.inl (Bool.or_eq_true_iff.mpr ?_))
  rcases ycp_x c with e | e
  · exact Or.inl (Bool.and_eq_true_iff.mpr ⟨Nat.ble_eq_true_of_le (by show 13 ≤ p; omega), Nat.ble_eq_true_of_le (by show p ≤ 21; omega)⟩)
  · exact Or.inr (Bool.and_eq_true_iff.mpr ⟨Nat.ble_eq_true_of_le (by show 33 ≤ p; omega), Nat.ble_eq_true_of_le (by show p ≤ 50; omega)⟩)
theorem yCx_im {p k : Nat} (h1 : 42 ≤ p) (h2 : p ≤ 42 + 8) : yCx (p, k) = true := Bool.or_eq_true_iff.mpr (Or.inl (Bool.or_eq_true_iff.mpr (Or.inr (Bool.and_eq_true_iff.mpr ⟨Nat.ble_eq_true_of_le (by show 33 ≤ p; omega), Nat.ble_eq_true_of_le (by show p ≤ 50; omega)⟩))))
theorem yCi_im {p k : Nat} (h1 : 42 ≤ p) (h2 : p ≤ 42 + 8) : yCi (p, k) = true := Bool.or_eq_true_iff.mpr (Or.inl (Bool.and_eq_true_iff.mpr ⟨Nat.ble_eq_true_of_le h1, Nat.ble_eq_true_of_le (by show p ≤ 50; omega)⟩))
theorem yHr_d1 {A : xK} {H H' : zp_H} (hd : yKq yDx H H') (h : yHr 74 75 93 62 A H) : yHr 74 75 93 62 A H' := yHr_c (hd 72 5 rfl) (hd 72 62 rfl) (fun k => hd 74 k rfl) (fun k => hd 75 k rfl) (fun k => hd 93 k rfl) h
theorem yHr_d2 {A : xK} {H H' : zp_H} (hd : yKq yDx H H') (h : yHr 101 102 103 81 A H) : yHr 101 102 103 81 A H' := yHr_c (hd 72 5 rfl) (hd 72 81 rfl) (fun k => hd 101 k rfl) (fun k => hd 102 k rfl) (fun k => hd 103 k rfl) h
theorem yGc_c {c : Nat} {H H' : zp_H} (hc : yKq yCx H H') (hd : yKq yDx H H') (h : yGc c H) : yGc c H' := by
  obtain ⟨⟨A, a1, a2, a3⟩, h1, h2, h3, h4, h5⟩ := h
  refine ⟨⟨A, a1, yHc_c (fun p k p1 p2 => hc p k (yCx_cp p1 p2)) a2, yHr_d1 hd a3⟩, ?_, fun hn => ?_, ?_, ?_, yGr_k (hd 72 1 rfl) (hd 72 2 rfl) (hd 72 5 rfl) (hd 72 7 rfl) (fun s hs => by rw [hd 74 (4 * s) rfl]; exact h5.1 s hs) (fun hn s hs => by rw [hd 101 (4 * s) rfl]; exact h5.2.1 (by rw [← hd 72 80 rfl]; exact hn) s hs) (fun k => hd 77 k rfl) h5⟩
  · rw [hc 0 10 rfl, hd 72 80 rfl]; exact h1
  · rw [hc 0 10 rfl] at hn
    obtain ⟨B, b1, b2, b3⟩ := h2 hn
    exact ⟨B, b1, yHc_c (fun p k p1 p2 => hc p k (yCx_im p1 p2)) b2, yHr_d2 hd b3⟩
  · rw [hc 0 3 rfl, hd 82 0 rfl]; exact h3
  · rw [hc 0 4 rfl, hd 82 1 rfl]; exact h4
def yJ (c t : Nat) (H : zp_H) : Prop := yI c t H ∧ yGc c H
def yJ_mc (e : zk_T) : Bool := (yI_mc e).and ((e.2.2.2.1.all (fun q => (yCx q).not)).and (e.2.2.2.2.1.all (fun q => ((yCx (q, 0)).or (Nat.beq q 0)).not)))
theorem yI_zf {L : Nat} {σ : Nat → Int32} {d c t : Nat} {H : zp_H} {X : zp_X} {e : zk_T} {as : List zp_V} (hI : yI c t H) (hct : zk_Ct L σ (zB_c c) zg zJc e) (c1 : zp_Call L σ d e.1 as H X) (hm : zI_mc e = true) (hd : e.2.2.2.2.2.2 ≤ d) (ha : za_F2 zk_pv e.2.1 as) (hp : e.2.2.1 = []) : zk_Fr zg e.2.2.2.1 e.2.2.2.2.1 H X.2 ∧ zf_C H X.2 := by
  obtain ⟨X', y1, y2, y3, -⟩ := hct d hd as H ha hI.1.1 (by rw [hp]; exact fun f hf => absurd hf List.not_mem_nil)
  obtain rfl := zp_Call_u c1 y1
  obtain ⟨m1, m2⟩ := Bool.and_eq_true_iff.mp hm
  exact ⟨y3, zI_frc y3 (zI_sub m1) (zI_sua m2)⟩
theorem yI_mz {e : zk_T} (hm : yI_mc e = true) : zI_mc e = true := (Bool.and_eq_true_iff.mp (Bool.and_eq_true_iff.mp hm).1).1
theorem yJ_C {L : Nat} {σ : Nat → Int32} {d c t : Nat} {H : zp_H} {e : zk_T} {as : List zp_V} (hI : yJ c t H) (hct : zk_Ct L σ (zB_c c) zg zJc e) (hm : yJ_mc e = true) (hd : e.2.2.2.2.2.2 ≤ d) (ha : za_F2 zk_pv e.2.1 as) (hp : e.2.2.1 = []) : ∃ X, zp_Call L σ d e.1 as H X ∧ yJ c t X.2 ∧ ∃ o ∈ e.2.2.2.2.2.1, zk_rv o.1 X.1 := by
  obtain ⟨m0, m1⟩ := Bool.and_eq_true_iff.mp hm
  obtain ⟨m1, m2⟩ := Bool.and_eq_true_iff.mp m1
  obtain ⟨X, x1, x2, x3⟩ := yI_C hI.1 hct m0 hd ha hp
  obtain ⟨y3, y4⟩ := yI_zf hI.1 hct x1 (yI_mz m0) hd ha hp
  exact ⟨X, x1, ⟨x2, yGc_c (yKq_c (fun _ _ => yCx_0) y3 m1 m2) (yKq_f y4) hI.2⟩, x3⟩
def yJ_mr (e : zk_T) : Bool := (yI_mr e).and ((e.2.2.2.1.all (fun q => (yDx q).not)).and (e.2.2.2.2.1.all (fun q => ((yDx (q, 0)).or (Nat.beq q 72)).not)))
theorem yJ_D {L : Nat} {σ : Nat → Int32} {d c t : Nat} {H : zp_H} {e : zk_T} {as : List zp_V} (hI : yJ c t H) (hct : zk_Ct L σ z0R zg zJ e) (hm : yJ_mr e = true) (hd : e.2.2.2.2.2.2 ≤ d) (ha : za_F2 zk_pv e.2.1 as) (hp : e.2.2.1 = []) : ∃ X, zp_Call L σ d e.1 as H X ∧ yJ c t X.2 ∧ ∃ o ∈ e.2.2.2.2.2.1, zk_rv o.1 X.1 := by
  obtain ⟨m0, m1⟩ := Bool.and_eq_true_iff.mp hm
  obtain ⟨m1, m2⟩ := Bool.and_eq_true_iff.mp m1
  obtain ⟨X, x1, x2, x3⟩ := yI_D hI.1 hct m0 hd ha hp
  obtain ⟨X', y1, y2, y3, -⟩ := hct d hd as H ha hI.1.1.2.1 (by rw [hp]; exact fun f hf => absurd hf List.not_mem_nil)
  obtain rfl := zp_Call_u x1 y1
  obtain ⟨m3, m4⟩ := Bool.and_eq_true_iff.mp m0
  obtain ⟨m5, m6⟩ := Bool.and_eq_true_iff.mp m3
  have hf : zf_72 H X.2 := zf_of y3 (List.all_eq_true.mpr (fun q hq => (Bool.and_eq_true_iff.mp (List.all_eq_true.mp m5 q hq)).1)) (List.all_eq_true.mpr (fun q hq => by
    have h1 := za_blt (List.all_eq_true.mp m6 q hq)
    exact Nat.ble_eq_true_of_le (by omega)))
  exact ⟨X, x1, ⟨x2, yGc_c (yKq_72 (fun _ _ => yCx_0) hf) (yKq_d y3 m1 m2) hI.2⟩, x3⟩
end
section
/-! ===== questions keep the chalk ===== -/
theorem yJ_C1 {L : Nat} {σ : Nat → Int32} {d c t j : Nat} {H : zp_H} {e : zk_T} {as : List zp_V} (hI : yJ c t H) (hct : zk_Ct L σ (zB_c c) zg zJc e) (hm : yJ_mc e = true) (hd : e.2.2.2.2.2.2 ≤ d) (ha : za_F2 zk_pv e.2.1 as) (hp : e.2.2.1 = []) (hj : e.1 = j) (hk : e.2.2.2.2.2.1.all (zI_k 1) = true) : ∃ H1 v, zp_Call L σ d j as H (.inl (some (.inl v)), H1) ∧ yJ c t H1 := by
  obtain ⟨⟨x, H1⟩, x1, x2, x3⟩ := yJ_C hI hct hm hd ha hp
  obtain ⟨v, rfl⟩ : ∃ v, x = .inl (some (.inl v)) := zI_v1 hk x3
  subst hj
  exact ⟨H1, v, x1, x2⟩
theorem yJ_D1 {L : Nat} {σ : Nat → Int32} {d c t j : Nat} {H : zp_H} {e : zk_T} {as : List zp_V} (hI : yJ c t H) (hct : zk_Ct L σ z0R zg zJ e) (hm : yJ_mr e = true) (hd : e.2.2.2.2.2.2 ≤ d) (ha : za_F2 zk_pv e.2.1 as) (hp : e.2.2.1 = []) (hj : e.1 = j) (hk : e.2.2.2.2.2.1.all (zI_k 1) = true) : ∃ H1 v, zp_Call L σ d j as H (.inl (some (.inl v)), H1) ∧ yJ c t H1 := by
  obtain ⟨⟨x, H1⟩, x1, x2, x3⟩ := yJ_D hI hct hm hd ha hp
  obtain ⟨v, rfl⟩ : ∃ v, x = .inl (some (.inl v)) := zI_v1 hk x3
  subst hj
  exact ⟨H1, v, x1, x2⟩
theorem yJ_D2 {L : Nat} {σ : Nat → Int32} {d c t j : Nat} {H : zp_H} {e : zk_T} {as : List zp_V} (hI : yJ c t H) (hct : zk_Ct L σ z0R zg zJ e) (hm : yJ_mr e = true) (hd : e.2.2.2.2.2.2 ≤ d) (ha : za_F2 zk_pv e.2.1 as) (hp : e.2.2.1 = []) (hj : e.1 = j) (hk : e.2.2.2.2.2.1.all (zI_k 2) = true) : ∃ (H1 : zp_H) (v : Int64), zp_Call L σ d j as H (.inl (some (.inr (.inl v))), H1) ∧ yJ c t H1 := by
  obtain ⟨⟨x, H1⟩, x1, x2, x3⟩ := yJ_D hI hct hm hd ha hp
  obtain ⟨v, rfl⟩ : ∃ v, x = .inl (some (.inr (.inl v))) := zI_v2 hk x3
  subst hj
  exact ⟨H1, v, x1, x2⟩
theorem yp_count {L : Nat} {σ : Nat → Int32} {d c t : Nat} {H : zp_H} {x1 : Int32} (hI : yJ c t H) : ∃ H1 v, zp_Call L σ (d + 60) 100 [.inr (.inr (some 1)), .inl x1, .inr (.inr (some 105))] H (.inl (some (.inl v)), H1) ∧ yJ c t H1 := by
  match c, hI, hI.1.1.2.2.2.2.2 with
  | 0, hI, _ => exact yJ_C1 (e := ze_t0) hI (zc_t0 zB_W zh_all) (by decide +kernel) (by show 3 ≤ d + 60; omega) ⟨rfl, zl_full _, rfl, trivial⟩ rfl rfl rfl
  | 1, hI, _ => exact yJ_C1 (e := ze_t24) hI (zc_t24 zB_W zh_all) (by decide +kernel) (by show 3 ≤ d + 60; omega) ⟨rfl, zl_full _, rfl, trivial⟩ rfl rfl rfl
  | 2, hI, _ => exact yJ_C1 (e := ze_t48) hI (zc_t48 zB_W zh_all) (by decide +kernel) (by show 3 ≤ d + 60; omega) ⟨rfl, zl_full _, rfl, trivial⟩ rfl rfl rfl
  | 3, hI, _ => exact yJ_C1 (e := ze_t72) hI (zc_t72 zB_W zh_all) (by decide +kernel) (by show 3 ≤ d + 60; omega) ⟨rfl, zl_full _, rfl, trivial⟩ rfl rfl rfl

theorem yp_cell {L : Nat} {σ : Nat → Int32} {d c t : Nat} {H : zp_H} {x1 x2 : Int32} (hI : yJ c t H) : ∃ H1 v, zp_Call L σ (d + 60) 102 [.inr (.inr (some 1)), .inl x1, .inl x2, .inr (.inr (some 105))] H (.inl (some (.inl v)), H1) ∧ yJ c t H1 := by
  match c, hI, hI.1.1.2.2.2.2.2 with
  | 0, hI, _ => exact yJ_C1 (e := ze_t1) hI (zc_t1 zB_W zh_all) (by decide +kernel) (by show 3 ≤ d + 60; omega) ⟨rfl, zl_full _, zl_full _, rfl, trivial⟩ rfl rfl rfl
  | 1, hI, _ => exact yJ_C1 (e := ze_t25) hI (zc_t25 zB_W zh_all) (by decide +kernel) (by show 3 ≤ d + 60; omega) ⟨rfl, zl_full _, zl_full _, rfl, trivial⟩ rfl rfl rfl
  | 2, hI, _ => exact yJ_C1 (e := ze_t49) hI (zc_t49 zB_W zh_all) (by decide +kernel) (by show 3 ≤ d + 60; omega) ⟨rfl, zl_full _, zl_full _, rfl, trivial⟩ rfl rfl rfl
  | 3, hI, _ => exact yJ_C1 (e := ze_t73) hI (zc_t73 zB_W zh_all) (by decide +kernel) (by show 3 ≤ d + 60; omega) ⟨rfl, zl_full _, zl_full _, rfl, trivial⟩ rfl rfl rfl

theorem yp_slate {L : Nat} {σ : Nat → Int32} {d c t : Nat} {H : zp_H} {x1 x2 : Int32} (hI : yJ c t H) : ∃ H1 v, zp_Call L σ (d + 60) 106 [.inr (.inr (some 1)), .inl x1, .inl x2, .inr (.inr (some 105))] H (.inl (some (.inl v)), H1) ∧ yJ c t H1 := by
  match c, hI, hI.1.1.2.2.2.2.2 with
  | 0, hI, _ => exact yJ_C1 (e := ze_t2) hI (zc_t2 zB_W zh_all) (by decide +kernel) (by show 3 ≤ d + 60; omega) ⟨rfl, zl_full _, zl_full _, rfl, trivial⟩ rfl rfl rfl
  | 1, hI, _ => exact yJ_C1 (e := ze_t26) hI (zc_t26 zB_W zh_all) (by decide +kernel) (by show 3 ≤ d + 60; omega) ⟨rfl, zl_full _, zl_full _, rfl, trivial⟩ rfl rfl rfl
  | 2, hI, _ => exact yJ_C1 (e := ze_t50) hI (zc_t50 zB_W zh_all) (by decide +kernel) (by show 3 ≤ d + 60; omega) ⟨rfl, zl_full _, zl_full _, rfl, trivial⟩ rfl rfl rfl
  | 3, hI, _ => exact yJ_C1 (e := ze_t74) hI (zc_t74 zB_W zh_all) (by decide +kernel) (by show 3 ≤ d + 60; omega) ⟨rfl, zl_full _, zl_full _, rfl, trivial⟩ rfl rfl rfl

theorem yp_mark {L : Nat} {σ : Nat → Int32} {d c t : Nat} {H : zp_H} {x1 x2 x3 : Int32} (hI : yJ c t H) : ∃ H1 v, zp_Call L σ (d + 60) 109 [.inr (.inr (some 1)), .inl x1, .inl x2, .inl x3, .inr (.inr (some 105))] H (.inl (some (.inl v)), H1) ∧ yJ c t H1 := by
  match c, hI, hI.1.1.2.2.2.2.2 with
  | 0, hI, _ => exact yJ_C1 (e := ze_t3) hI (zc_t3 zB_W zh_all) (by decide +kernel) (by show 3 ≤ d + 60; omega) ⟨rfl, zl_full _, zl_full _, zl_full _, rfl, trivial⟩ rfl rfl rfl
  | 1, hI, _ => exact yJ_C1 (e := ze_t27) hI (zc_t27 zB_W zh_all) (by decide +kernel) (by show 3 ≤ d + 60; omega) ⟨rfl, zl_full _, zl_full _, zl_full _, rfl, trivial⟩ rfl rfl rfl
  | 2, hI, _ => exact yJ_C1 (e := ze_t51) hI (zc_t51 zB_W zh_all) (by decide +kernel) (by show 3 ≤ d + 60; omega) ⟨rfl, zl_full _, zl_full _, zl_full _, rfl, trivial⟩ rfl rfl rfl
  | 3, hI, _ => exact yJ_C1 (e := ze_t75) hI (zc_t75 zB_W zh_all) (by decide +kernel) (by show 3 ≤ d + 60; omega) ⟨rfl, zl_full _, zl_full _, zl_full _, rfl, trivial⟩ rfl rfl rfl

theorem yp_voyage {L : Nat} {σ : Nat → Int32} {d c t : Nat} {H : zp_H} {x1 x2 : Int32} (hI : yJ c t H) : ∃ H1 v, zp_Call L σ (d + 60) 118 [.inr (.inr (some 1)), .inl x1, .inl x2, .inr (.inr (some 105))] H (.inl (some (.inl v)), H1) ∧ yJ c t H1 := by
  match c, hI, hI.1.1.2.2.2.2.2 with
  | 0, hI, _ => exact yJ_C1 (e := ze_t6) hI (zc_t6 zB_W zh_all) (by decide +kernel) (by show 7 ≤ d + 60; omega) ⟨rfl, zl_full _, zl_full _, rfl, trivial⟩ rfl rfl rfl
  | 1, hI, _ => exact yJ_C1 (e := ze_t30) hI (zc_t30 zB_W zh_all) (by decide +kernel) (by show 7 ≤ d + 60; omega) ⟨rfl, zl_full _, zl_full _, rfl, trivial⟩ rfl rfl rfl
  | 2, hI, _ => exact yJ_C1 (e := ze_t54) hI (zc_t54 zB_W zh_all) (by decide +kernel) (by show 7 ≤ d + 60; omega) ⟨rfl, zl_full _, zl_full _, rfl, trivial⟩ rfl rfl rfl
  | 3, hI, _ => exact yJ_C1 (e := ze_t78) hI (zc_t78 zB_W zh_all) (by decide +kernel) (by show 7 ≤ d + 60; omega) ⟨rfl, zl_full _, zl_full _, rfl, trivial⟩ rfl rfl rfl

theorem yp_explained {L : Nat} {σ : Nat → Int32} {d c t : Nat} {H : zp_H} {x1 : Int32} (hI : yJ c t H) : ∃ H1 v, zp_Call L σ (d + 60) 120 [.inr (.inr (some 1)), .inl x1, .inr (.inr (some 105))] H (.inl (some (.inl v)), H1) ∧ yJ c t H1 := by
  match c, hI, hI.1.1.2.2.2.2.2 with
  | 0, hI, _ => exact yJ_C1 (e := ze_t7) hI (zc_t7 zB_W zh_all) (by decide +kernel) (by show 7 ≤ d + 60; omega) ⟨rfl, zl_full _, rfl, trivial⟩ rfl rfl rfl
  | 1, hI, _ => exact yJ_C1 (e := ze_t31) hI (zc_t31 zB_W zh_all) (by decide +kernel) (by show 7 ≤ d + 60; omega) ⟨rfl, zl_full _, rfl, trivial⟩ rfl rfl rfl
  | 2, hI, _ => exact yJ_C1 (e := ze_t55) hI (zc_t55 zB_W zh_all) (by decide +kernel) (by show 7 ≤ d + 60; omega) ⟨rfl, zl_full _, rfl, trivial⟩ rfl rfl rfl
  | 3, hI, _ => exact yJ_C1 (e := ze_t79) hI (zc_t79 zB_W zh_all) (by decide +kernel) (by show 7 ≤ d + 60; omega) ⟨rfl, zl_full _, rfl, trivial⟩ rfl rfl rfl

theorem yp_where {L : Nat} {σ : Nat → Int32} {d c t : Nat} {H : zp_H} {x1 x2 : Int32} (hI : yJ c t H) : ∃ H1 v, zp_Call L σ (d + 60) 122 [.inr (.inr (some 1)), .inl x1, .inl x2, .inr (.inr (some 105))] H (.inl (some (.inl v)), H1) ∧ yJ c t H1 := by
  match c, hI, hI.1.1.2.2.2.2.2 with
  | 0, hI, _ => exact yJ_C1 (e := ze_t8) hI (zc_t8 zB_W zh_all) (by decide +kernel) (by show 8 ≤ d + 60; omega) ⟨rfl, zl_full _, zl_full _, rfl, trivial⟩ rfl rfl rfl
  | 1, hI, _ => exact yJ_C1 (e := ze_t32) hI (zc_t32 zB_W zh_all) (by decide +kernel) (by show 8 ≤ d + 60; omega) ⟨rfl, zl_full _, zl_full _, rfl, trivial⟩ rfl rfl rfl
  | 2, hI, _ => exact yJ_C1 (e := ze_t56) hI (zc_t56 zB_W zh_all) (by decide +kernel) (by show 8 ≤ d + 60; omega) ⟨rfl, zl_full _, zl_full _, rfl, trivial⟩ rfl rfl rfl
  | 3, hI, _ => exact yJ_C1 (e := ze_t80) hI (zc_t80 zB_W zh_all) (by decide +kernel) (by show 8 ≤ d + 60; omega) ⟨rfl, zl_full _, zl_full _, rfl, trivial⟩ rfl rfl rfl

theorem yp_pilot {L : Nat} {σ : Nat → Int32} {d c t : Nat} {H : zp_H} {x1 x2 : Int32} (hI : yJ c t H) : ∃ H1 v, zp_Call L σ (d + 60) 132 [.inr (.inr (some 1)), .inl x1, .inl x2, .inr (.inr (some 105))] H (.inl (some (.inl v)), H1) ∧ yJ c t H1 := by
  match c, hI, hI.1.1.2.2.2.2.2 with
  | 0, hI, _ => exact yJ_C1 (e := ze_t9) hI (zc_t9 zB_W zh_all) (by decide +kernel) (by show 3 ≤ d + 60; omega) ⟨rfl, zl_full _, zl_full _, rfl, trivial⟩ rfl rfl rfl
  | 1, hI, _ => exact yJ_C1 (e := ze_t33) hI (zc_t33 zB_W zh_all) (by decide +kernel) (by show 3 ≤ d + 60; omega) ⟨rfl, zl_full _, zl_full _, rfl, trivial⟩ rfl rfl rfl
  | 2, hI, _ => exact yJ_C1 (e := ze_t57) hI (zc_t57 zB_W zh_all) (by decide +kernel) (by show 3 ≤ d + 60; omega) ⟨rfl, zl_full _, zl_full _, rfl, trivial⟩ rfl rfl rfl
  | 3, hI, _ => exact yJ_C1 (e := ze_t81) hI (zc_t81 zB_W zh_all) (by decide +kernel) (by show 3 ≤ d + 60; omega) ⟨rfl, zl_full _, zl_full _, rfl, trivial⟩ rfl rfl rfl

theorem yp_sails {L : Nat} {σ : Nat → Int32} {d c t : Nat} {H : zp_H} {x1 x2 x3 : Int32} (hI : yJ c t H) : ∃ H1 v, zp_Call L σ (d + 60) 135 [.inr (.inr (some 1)), .inl x1, .inl x2, .inl x3, .inr (.inr (some 105))] H (.inl (some (.inl v)), H1) ∧ yJ c t H1 := by
  match c, hI, hI.1.1.2.2.2.2.2 with
  | 0, hI, _ => exact yJ_C1 (e := ze_t10) hI (zc_t10 zB_W zh_all) (by decide +kernel) (by show 8 ≤ d + 60; omega) ⟨rfl, zl_full _, zl_full _, zl_full _, rfl, trivial⟩ rfl rfl rfl
  | 1, hI, _ => exact yJ_C1 (e := ze_t34) hI (zc_t34 zB_W zh_all) (by decide +kernel) (by show 8 ≤ d + 60; omega) ⟨rfl, zl_full _, zl_full _, zl_full _, rfl, trivial⟩ rfl rfl rfl
  | 2, hI, _ => exact yJ_C1 (e := ze_t58) hI (zc_t58 zB_W zh_all) (by decide +kernel) (by show 8 ≤ d + 60; omega) ⟨rfl, zl_full _, zl_full _, zl_full _, rfl, trivial⟩ rfl rfl rfl
  | 3, hI, _ => exact yJ_C1 (e := ze_t82) hI (zc_t82 zB_W zh_all) (by decide +kernel) (by show 8 ≤ d + 60; omega) ⟨rfl, zl_full _, zl_full _, zl_full _, rfl, trivial⟩ rfl rfl rfl

theorem yp_study {L : Nat} {σ : Nat → Int32} {d c t : Nat} {H : zp_H} {x1 : Int32} (hI : yJ c t H) : ∃ H1 v, zp_Call L σ (d + 60) 137 [.inr (.inr (some 1)), .inl x1, .inr (.inr (some 105))] H (.inl (some (.inl v)), H1) ∧ yJ c t H1 := by
  match c, hI, hI.1.1.2.2.2.2.2 with
  | 0, hI, _ => exact yJ_C1 (e := ze_t11) hI (zc_t11 zB_W zh_all) (by decide +kernel) (by show 8 ≤ d + 60; omega) ⟨rfl, zl_full _, rfl, trivial⟩ rfl rfl rfl
  | 1, hI, _ => exact yJ_C1 (e := ze_t35) hI (zc_t35 zB_W zh_all) (by decide +kernel) (by show 8 ≤ d + 60; omega) ⟨rfl, zl_full _, rfl, trivial⟩ rfl rfl rfl
  | 2, hI, _ => exact yJ_C1 (e := ze_t59) hI (zc_t59 zB_W zh_all) (by decide +kernel) (by show 8 ≤ d + 60; omega) ⟨rfl, zl_full _, rfl, trivial⟩ rfl rfl rfl
  | 3, hI, _ => exact yJ_C1 (e := ze_t83) hI (zc_t83 zB_W zh_all) (by decide +kernel) (by show 8 ≤ d + 60; omega) ⟨rfl, zl_full _, rfl, trivial⟩ rfl rfl rfl

theorem yp_studied {L : Nat} {σ : Nat → Int32} {d c t : Nat} {H : zp_H} {x1 : Int32} (hI : yJ c t H) : ∃ H1 v, zp_Call L σ (d + 60) 150 [.inr (.inr (some 1)), .inl x1, .inr (.inr (some 105))] H (.inl (some (.inl v)), H1) ∧ yJ c t H1 := by
  match c, hI, hI.1.1.2.2.2.2.2 with
  | 0, hI, _ => exact yJ_C1 (e := ze_t12) hI (zc_t12 zB_W zh_all) (by decide +kernel) (by show 2 ≤ d + 60; omega) ⟨rfl, zl_full _, rfl, trivial⟩ rfl rfl rfl
  | 1, hI, _ => exact yJ_C1 (e := ze_t36) hI (zc_t36 zB_W zh_all) (by decide +kernel) (by show 2 ≤ d + 60; omega) ⟨rfl, zl_full _, rfl, trivial⟩ rfl rfl rfl
  | 2, hI, _ => exact yJ_C1 (e := ze_t60) hI (zc_t60 zB_W zh_all) (by decide +kernel) (by show 2 ≤ d + 60; omega) ⟨rfl, zl_full _, rfl, trivial⟩ rfl rfl rfl
  | 3, hI, _ => exact yJ_C1 (e := ze_t84) hI (zc_t84 zB_W zh_all) (by decide +kernel) (by show 2 ≤ d + 60; omega) ⟨rfl, zl_full _, rfl, trivial⟩ rfl rfl rfl

theorem yp_dive {L : Nat} {σ : Nat → Int32} {d c t : Nat} {H : zp_H} {x1 x2 : Int32} (hI : yJ c t H) : ∃ H1 v, zp_Call L σ (d + 60) 152 [.inr (.inr (some 1)), .inl x1, .inl x2, .inr (.inr (some 105))] H (.inl (some (.inl v)), H1) ∧ yJ c t H1 := by
  match c, hI, hI.1.1.2.2.2.2.2 with
  | 0, hI, _ => exact yJ_C1 (e := ze_t14) hI (zc_t14 zB_W zh_all) (by decide +kernel) (by show 8 ≤ d + 60; omega) ⟨rfl, zl_full _, zl_full _, rfl, trivial⟩ rfl rfl rfl
  | 1, hI, _ => exact yJ_C1 (e := ze_t38) hI (zc_t38 zB_W zh_all) (by decide +kernel) (by show 8 ≤ d + 60; omega) ⟨rfl, zl_full _, zl_full _, rfl, trivial⟩ rfl rfl rfl
  | 2, hI, _ => exact yJ_C1 (e := ze_t62) hI (zc_t62 zB_W zh_all) (by decide +kernel) (by show 8 ≤ d + 60; omega) ⟨rfl, zl_full _, zl_full _, rfl, trivial⟩ rfl rfl rfl
  | 3, hI, _ => exact yJ_C1 (e := ze_t86) hI (zc_t86 zB_W zh_all) (by decide +kernel) (by show 8 ≤ d + 60; omega) ⟨rfl, zl_full _, zl_full _, rfl, trivial⟩ rfl rfl rfl

theorem yp_chart {L : Nat} {σ : Nat → Int32} {d c t : Nat} {H : zp_H} {x1 : Int32} (hI : yJ c t H) : ∃ H1 v, zp_Call L σ (d + 60) 155 [.inr (.inr (some 1)), .inl x1, .inr (.inr (some 105))] H (.inl (some (.inl v)), H1) ∧ yJ c t H1 := by
  match c, hI, hI.1.1.2.2.2.2.2 with
  | 0, hI, _ => exact yJ_C1 (e := ze_t16) hI (zc_t16 zB_W zh_all) (by decide +kernel) (by show 7 ≤ d + 60; omega) ⟨rfl, zl_full _, rfl, trivial⟩ rfl rfl rfl
  | 1, hI, _ => exact yJ_C1 (e := ze_t40) hI (zc_t40 zB_W zh_all) (by decide +kernel) (by show 7 ≤ d + 60; omega) ⟨rfl, zl_full _, rfl, trivial⟩ rfl rfl rfl
  | 2, hI, _ => exact yJ_C1 (e := ze_t64) hI (zc_t64 zB_W zh_all) (by decide +kernel) (by show 7 ≤ d + 60; omega) ⟨rfl, zl_full _, rfl, trivial⟩ rfl rfl rfl
  | 3, hI, _ => exact yJ_C1 (e := ze_t88) hI (zc_t88 zB_W zh_all) (by decide +kernel) (by show 7 ≤ d + 60; omega) ⟨rfl, zl_full _, rfl, trivial⟩ rfl rfl rfl

theorem yp_hand {L : Nat} {σ : Nat → Int32} {d c t : Nat} {H : zp_H} {x1 x2 : Int32} (hI : yJ c t H) : ∃ H1 v, zp_Call L σ (d + 60) 157 [.inr (.inr (some 1)), .inl x1, .inl x2, .inr (.inr (some 105))] H (.inl (some (.inl v)), H1) ∧ yJ c t H1 := by
  match c, hI, hI.1.1.2.2.2.2.2 with
  | 0, hI, _ => exact yJ_C1 (e := ze_t17) hI (zc_t17 zB_W zh_all) (by decide +kernel) (by show 5 ≤ d + 60; omega) ⟨rfl, zl_full _, zl_full _, rfl, trivial⟩ rfl rfl rfl
  | 1, hI, _ => exact yJ_C1 (e := ze_t41) hI (zc_t41 zB_W zh_all) (by decide +kernel) (by show 5 ≤ d + 60; omega) ⟨rfl, zl_full _, zl_full _, rfl, trivial⟩ rfl rfl rfl
  | 2, hI, _ => exact yJ_C1 (e := ze_t65) hI (zc_t65 zB_W zh_all) (by decide +kernel) (by show 5 ≤ d + 60; omega) ⟨rfl, zl_full _, zl_full _, rfl, trivial⟩ rfl rfl rfl
  | 3, hI, _ => exact yJ_C1 (e := ze_t89) hI (zc_t89 zB_W zh_all) (by decide +kernel) (by show 5 ≤ d + 60; omega) ⟨rfl, zl_full _, zl_full _, rfl, trivial⟩ rfl rfl rfl

theorem yp_copied {L : Nat} {σ : Nat → Int32} {d c t : Nat} {H : zp_H} {x1 x2 x3 : Int32} (hI : yJ c t H) : ∃ H1 v, zp_Call L σ (d + 60) 162 [.inr (.inr (some 1)), .inl x1, .inl x2, .inl x3, .inr (.inr (some 105))] H (.inl (some (.inl v)), H1) ∧ yJ c t H1 := by
  match c, hI, hI.1.1.2.2.2.2.2 with
  | 0, hI, _ => exact yJ_C1 (e := ze_t18) hI (zc_t18 zB_W zh_all) (by decide +kernel) (by show 5 ≤ d + 60; omega) ⟨rfl, zl_full _, zl_full _, zl_full _, rfl, trivial⟩ rfl rfl rfl
  | 1, hI, _ => exact yJ_C1 (e := ze_t42) hI (zc_t42 zB_W zh_all) (by decide +kernel) (by show 5 ≤ d + 60; omega) ⟨rfl, zl_full _, zl_full _, zl_full _, rfl, trivial⟩ rfl rfl rfl
  | 2, hI, _ => exact yJ_C1 (e := ze_t66) hI (zc_t66 zB_W zh_all) (by decide +kernel) (by show 5 ≤ d + 60; omega) ⟨rfl, zl_full _, zl_full _, zl_full _, rfl, trivial⟩ rfl rfl rfl
  | 3, hI, _ => exact yJ_C1 (e := ze_t90) hI (zc_t90 zB_W zh_all) (by decide +kernel) (by show 5 ≤ d + 60; omega) ⟨rfl, zl_full _, zl_full _, zl_full _, rfl, trivial⟩ rfl rfl rfl

theorem yp_fault {L : Nat} {σ : Nat → Int32} {d c t : Nat} {H : zp_H} (hI : yJ c t H) : ∃ H1 v, zp_Call L σ (d + 60) 19 [.inr (.inr (some 1))] H (.inl (some (.inl v)), H1) ∧ yJ c t H1 := by
  match c, hI, hI.1.1.2.2.2.2.2 with
  | 0, hI, _ => exact yJ_C1 (e := ze_t19) hI (zc_t19 zB_W zh_all) (by decide +kernel) (by show 1 ≤ d + 60; omega) ⟨rfl, trivial⟩ rfl rfl rfl
  | 1, hI, _ => exact yJ_C1 (e := ze_t43) hI (zc_t43 zB_W zh_all) (by decide +kernel) (by show 1 ≤ d + 60; omega) ⟨rfl, trivial⟩ rfl rfl rfl
  | 2, hI, _ => exact yJ_C1 (e := ze_t67) hI (zc_t67 zB_W zh_all) (by decide +kernel) (by show 1 ≤ d + 60; omega) ⟨rfl, trivial⟩ rfl rfl rfl
  | 3, hI, _ => exact yJ_C1 (e := ze_t91) hI (zc_t91 zB_W zh_all) (by decide +kernel) (by show 1 ≤ d + 60; omega) ⟨rfl, trivial⟩ rfl rfl rfl

theorem yp_exam {L : Nat} {σ : Nat → Int32} {d c t : Nat} {H : zp_H} (hI : yJ c t H) : ∃ H1 v, zp_Call L σ (d + 60) 22 [.inr (.inr (some 1))] H (.inl (some (.inl v)), H1) ∧ yJ c t H1 := by
  match c, hI, hI.1.1.2.2.2.2.2 with
  | 0, hI, _ => exact yJ_C1 (e := ze_t21) hI (zc_t21 zB_W zh_all) (by decide +kernel) (by show 7 ≤ d + 60; omega) ⟨rfl, trivial⟩ rfl rfl rfl
  | 1, hI, _ => exact yJ_C1 (e := ze_t45) hI (zc_t45 zB_W zh_all) (by decide +kernel) (by show 7 ≤ d + 60; omega) ⟨rfl, trivial⟩ rfl rfl rfl
  | 2, hI, _ => exact yJ_C1 (e := ze_t69) hI (zc_t69 zB_W zh_all) (by decide +kernel) (by show 7 ≤ d + 60; omega) ⟨rfl, trivial⟩ rfl rfl rfl
  | 3, hI, _ => exact yJ_C1 (e := ze_t93) hI (zc_t93 zB_W zh_all) (by decide +kernel) (by show 7 ≤ d + 60; omega) ⟨rfl, trivial⟩ rfl rfl rfl

theorem yq_fault {L : Nat} {σ : Nat → Int32} {d c t : Nat} {H : zp_H} (hI : yJ c t H) : ∃ H1 v, zp_Call L σ (d + 60) 205 [.inr (.inr (some 73))] H (.inl (some (.inl v)), H1) ∧ yJ c t H1 :=
  yJ_D1 (e := zr_e1) hI (z0rc_e1 z0R_W z0r_all) (by decide +kernel) (by show 1 ≤ d + 60; omega) ⟨rfl, trivial⟩ rfl rfl rfl

theorem yq_count {L : Nat} {σ : Nat → Int32} {d c t : Nat} {H : zp_H} {x1 : Int32} (hI : yJ c t H) : ∃ H1 v, zp_Call L σ (d + 60) 206 [.inr (.inr (some 73)), .inl x1] H (.inl (some (.inl v)), H1) ∧ yJ c t H1 :=
  yJ_D1 (e := zr_e2) hI (z0rc_e2 z0R_W z0r_all) (by decide +kernel) (by show 2 ≤ d + 60; omega) ⟨rfl, zl_full _, trivial⟩ rfl rfl rfl

theorem yq_cell {L : Nat} {σ : Nat → Int32} {d c t : Nat} {H : zp_H} {x1 x2 : Int32} (hI : yJ c t H) : ∃ H1 v, zp_Call L σ (d + 60) 207 [.inr (.inr (some 73)), .inl x1, .inl x2] H (.inl (some (.inl v)), H1) ∧ yJ c t H1 :=
  yJ_D1 (e := zr_e3) hI (z0rc_e3 z0R_W z0r_all) (by decide +kernel) (by show 3 ≤ d + 60; omega) ⟨rfl, zl_full _, zl_full _, trivial⟩ rfl rfl rfl

theorem yq_slate {L : Nat} {σ : Nat → Int32} {d c t : Nat} {H : zp_H} {x1 x2 : Int32} (hI : yJ c t H) : ∃ H1 v, zp_Call L σ (d + 60) 209 [.inr (.inr (some 73)), .inl x1, .inl x2] H (.inl (some (.inl v)), H1) ∧ yJ c t H1 :=
  yJ_D1 (e := zr_e4) hI (z0rc_e4 z0R_W z0r_all) (by decide +kernel) (by show 3 ≤ d + 60; omega) ⟨rfl, zl_full _, zl_full _, trivial⟩ rfl rfl rfl

theorem yq_mark {L : Nat} {σ : Nat → Int32} {d c t : Nat} {H : zp_H} {x1 x2 x3 : Int32} (hI : yJ c t H) : ∃ H1 v, zp_Call L σ (d + 60) 211 [.inr (.inr (some 73)), .inl x1, .inl x2, .inl x3] H (.inl (some (.inl v)), H1) ∧ yJ c t H1 :=
  yJ_D1 (e := zr_e5) hI (z0rc_e5 z0R_W z0r_all) (by decide +kernel) (by show 3 ≤ d + 60; omega) ⟨rfl, zl_full _, zl_full _, zl_full _, trivial⟩ rfl rfl rfl

theorem yq_voyage {L : Nat} {σ : Nat → Int32} {d c t : Nat} {H : zp_H} {x1 x2 : Int32} (hI : yJ c t H) : ∃ H1 v, zp_Call L σ (d + 60) 219 [.inr (.inr (some 73)), .inl x1, .inl x2] H (.inl (some (.inl v)), H1) ∧ yJ c t H1 :=
  yJ_D1 (e := zr_e9) hI (z0rc_e9 z0R_W z0r_all) (by decide +kernel) (by show 4 ≤ d + 60; omega) ⟨rfl, zl_full _, zl_full _, trivial⟩ rfl rfl rfl

theorem yq_explained {L : Nat} {σ : Nat → Int32} {d c t : Nat} {H : zp_H} {x1 : Int32} (hI : yJ c t H) : ∃ H1 v, zp_Call L σ (d + 60) 224 [.inr (.inr (some 73)), .inl x1] H (.inl (some (.inl v)), H1) ∧ yJ c t H1 :=
  yJ_D1 (e := zr_e10) hI (z0rc_e10 z0R_W z0r_all) (by decide +kernel) (by show 4 ≤ d + 60; omega) ⟨rfl, zl_full _, trivial⟩ rfl rfl rfl

theorem yq_where {L : Nat} {σ : Nat → Int32} {d c t : Nat} {H : zp_H} {x1 x2 : Int32} (hI : yJ c t H) : ∃ (H1 : zp_H) (v : Int64), zp_Call L σ (d + 60) 225 [.inr (.inr (some 73)), .inl x1, .inl x2] H (.inl (some (.inr (.inl v))), H1) ∧ yJ c t H1 :=
  yJ_D2 (e := zr_e12) hI (z0rc_e12 z0R_W z0r_all) (by decide +kernel) (by show 4 ≤ d + 60; omega) ⟨rfl, zl_full _, zl_full _, trivial⟩ rfl rfl rfl

theorem yq_pilot {L : Nat} {σ : Nat → Int32} {d c t : Nat} {H : zp_H} {x1 x2 : Int32} (hI : yJ c t H) : ∃ H1 v, zp_Call L σ (d + 60) 227 [.inr (.inr (some 73)), .inl x1, .inl x2] H (.inl (some (.inl v)), H1) ∧ yJ c t H1 :=
  yJ_D1 (e := zr_e13) hI (z0rc_e13 z0R_W z0r_all) (by decide +kernel) (by show 3 ≤ d + 60; omega) ⟨rfl, zl_full _, zl_full _, trivial⟩ rfl rfl rfl

theorem yq_sails {L : Nat} {σ : Nat → Int32} {d c t : Nat} {H : zp_H} {x1 x2 x3 : Int32} (hI : yJ c t H) : ∃ H1 v, zp_Call L σ (d + 60) 229 [.inr (.inr (some 73)), .inl x1, .inl x2, .inl x3] H (.inl (some (.inl v)), H1) ∧ yJ c t H1 :=
  yJ_D1 (e := zr_e16) hI (z0rc_e16 z0R_W z0r_all) (by decide +kernel) (by show 10 ≤ d + 60; omega) ⟨rfl, zl_full _, zl_full _, zl_full _, trivial⟩ rfl rfl rfl

theorem yq_exam {L : Nat} {σ : Nat → Int32} {d c t : Nat} {H : zp_H} (hI : yJ c t H) : ∃ H1 v, zp_Call L σ (d + 60) 236 [.inr (.inr (some 73))] H (.inl (some (.inl v)), H1) ∧ yJ c t H1 :=
  yJ_D1 (e := zr_e17) hI (z0rc_e17 z0R_W z0r_all) (by decide +kernel) (by show 10 ≤ d + 60; omega) ⟨rfl, trivial⟩ rfl rfl rfl

theorem yq_study {L : Nat} {σ : Nat → Int32} {d c t : Nat} {H : zp_H} {x1 : Int32} (hI : yJ c t H) : ∃ H1 v, zp_Call L σ (d + 60) 237 [.inr (.inr (some 73)), .inl x1] H (.inl (some (.inl v)), H1) ∧ yJ c t H1 :=
  yJ_D1 (e := zr_e18) hI (z0rc_e18 z0R_W z0r_all) (by decide +kernel) (by show 25 ≤ d + 60; omega) ⟨rfl, zl_full _, trivial⟩ rfl rfl rfl

theorem yq_studied {L : Nat} {σ : Nat → Int32} {d c t : Nat} {H : zp_H} {x1 : Int32} (hI : yJ c t H) : ∃ H1 v, zp_Call L σ (d + 60) 242 [.inr (.inr (some 73)), .inl x1] H (.inl (some (.inl v)), H1) ∧ yJ c t H1 :=
  yJ_D1 (e := zr_e19) hI (z0rc_e19 z0R_W z0r_all) (by decide +kernel) (by show 2 ≤ d + 60; omega) ⟨rfl, zl_full _, trivial⟩ rfl rfl rfl

theorem yq_dive {L : Nat} {σ : Nat → Int32} {d c t : Nat} {H : zp_H} {x1 x2 : Int32} (hI : yJ c t H) : ∃ H1 v, zp_Call L σ (d + 60) 243 [.inr (.inr (some 73)), .inl x1, .inl x2] H (.inl (some (.inl v)), H1) ∧ yJ c t H1 :=
  yJ_D1 (e := zr_e20) hI (z0rc_e20 z0R_W z0r_all) (by decide +kernel) (by show 4 ≤ d + 60; omega) ⟨rfl, zl_full _, zl_full _, trivial⟩ rfl rfl rfl

theorem yq_chart {L : Nat} {σ : Nat → Int32} {d c t : Nat} {H : zp_H} {x1 : Int32} (hI : yJ c t H) : ∃ (H1 : zp_H) (v : Int64), zp_Call L σ (d + 60) 244 [.inr (.inr (some 73)), .inl x1] H (.inl (some (.inr (.inl v))), H1) ∧ yJ c t H1 :=
  yJ_D2 (e := zr_e21) hI (z0rc_e21 z0R_W z0r_all) (by decide +kernel) (by show 5 ≤ d + 60; omega) ⟨rfl, zl_full _, trivial⟩ rfl rfl rfl

theorem yq_hand {L : Nat} {σ : Nat → Int32} {d c t : Nat} {H : zp_H} {x1 x2 : Int32} (hI : yJ c t H) : ∃ (H1 : zp_H) (v : Int64), zp_Call L σ (d + 60) 245 [.inr (.inr (some 73)), .inl x1, .inl x2] H (.inl (some (.inr (.inl v))), H1) ∧ yJ c t H1 :=
  yJ_D2 (e := zr_e23) hI (z0rc_e23 z0R_W z0r_all) (by decide +kernel) (by show 3 ≤ d + 60; omega) ⟨rfl, zl_full _, zl_full _, trivial⟩ rfl rfl rfl

theorem yq_copied {L : Nat} {σ : Nat → Int32} {d c t : Nat} {H : zp_H} {x1 x2 x3 : Int32} (hI : yJ c t H) : ∃ H1 v, zp_Call L σ (d + 60) 247 [.inr (.inr (some 73)), .inl x1, .inl x2, .inl x3] H (.inl (some (.inl v)), H1) ∧ yJ c t H1 :=
  yJ_D1 (e := zr_e25) hI (z0rc_e25 z0R_W z0r_all) (by decide +kernel) (by show 3 ≤ d + 60; omega) ⟨rfl, zl_full _, zl_full _, zl_full _, trivial⟩ rfl rfl rfl
end
section
/-! ===== acts: both sides alike ===== -/
def yDi (q : Nat × Nat) : Bool := ((Nat.beq q.1 72).and ((Nat.beq q.2 1).or ((Nat.beq q.2 2).or ((Nat.beq q.2 7).or ((Nat.beq q.2 5).or ((Nat.beq q.2 80).or (Nat.beq q.2 81))))))).or ((Nat.beq q.1 77).or ((Nat.ble 101 q.1).and (Nat.ble q.1 103)))
theorem yDi_0 {p k : Nat} (h : yDi (p, k) = true) : ¬ (p = 72 ∧ k = 100) ∧ (p ≠ 72 → yDi (p, 0) = true) ∧ yDx (p, k) = true := by
  rcases Bool.or_eq_true_iff.mp h with h | h
  · obtain ⟨a, b⟩ := Bool.and_eq_true_iff.mp h
    have a : p = 72 := za_beq a
    subst a
    refine ⟨fun h9 => ?_, fun h9 => absurd rfl h9, ?_⟩
    · have e := h9.2
      subst e
      exact absurd (show false = true from b) (by decide)
    · rcases Bool.or_eq_true_iff.mp b with b | b
      · have e : k = 1 := za_beq b
        subst e
        rfl
      rcases Bool.or_eq_true_iff.mp b with b | b
      · have e : k = 2 := za_beq b
        subst e
        rfl
      rcases Bool.or_eq_true_iff.mp b with b | b
      · have e : k = 7 := za_beq b
        subst e
        rfl
      rcases Bool.or_eq_true_iff.mp b with b | b
      · have e : k = 5 := za_beq b
        subst e
        rfl
      rcases Bool.or_eq_true_iff.mp b with b | b
      · have e : k = 80 := za_beq b
        subst e
        rfl
      · have e : k = 81 := za_beq b
        subst e
        rfl
  rcases Bool.or_eq_true_iff.mp h with h | h
  · have a : p = 77 := za_beq h
    subst a
    exact ⟨fun h9 => absurd h9.1 (by decide), fun _ => rfl, rfl⟩
  · obtain ⟨a, b⟩ := Bool.and_eq_true_iff.mp h
    have a' : 101 ≤ p := Nat.le_of_ble_eq_true a
    have b' : p ≤ 103 := Nat.le_of_ble_eq_true b
    refine ⟨fun h9 => by omega, fun _ => Bool.or_eq_true_iff.mpr (Or.inr (Bool.or_eq_true_iff.mpr (Or.inr h))), ?_⟩
    exact Bool.or_eq_true_iff.mpr (Or.inr (Bool.or_eq_true_iff.mpr (Or.inr (Bool.or_eq_true_iff.mpr (Or.inr (Bool.or_eq_true_iff.mpr (Or.inr h)))))))
theorem yKq_g {mods : List (Nat × Nat)} {am : List Nat} {H H1 : zp_H} (h : zk_Fr zg mods am H H1) (hm : mods.all (fun q => (yDi q).not) = true) (ha : am.all (fun q => ((yDi (q, 0)).or (Nat.beq q 72)).not) = true) : yKq yDi H H1 := fun p k hp => (zI_in h (zI_nm (P := fun q => (yDi q).not) hm (by show (yDi (p, k)).not = false; rw [hp]; rfl)) (zI_na (P := fun q => ((yDi (q, 0)).or (Nat.beq q 72)).not) ha (by
  show ((yDi (p, 0)).or (Nat.beq p 72)).not = false
  by_cases h9 : p = 72
  · subst h9
    exact congrArg Bool.not (Bool.or_true _)
  · rw [(yDi_0 hp).2.1 h9]; rfl)) (yDi_0 hp).1).1
def xSm (A A' : xK) : Prop := A'.1 = A.1 ∧ ∀ s, A'.2.2.1 s 0 = A.2.2.1 s 0
theorem xSm_r (A : xK) : xSm A A := ⟨rfl, fun _ => rfl⟩
theorem xSm_2 {f : Nat → Nat → Int32} {s w : Nat} {v : Int32} (hw : 0 ≠ w) (j : Nat) : yU2 f s w v j 0 = f j 0 := if_neg (fun h => hw h.2)
theorem xSm_k {A A' : xK} {s v : Int32} (h : xSm A A') : xSm A (xKk A' s v) := ⟨h.1, h.2⟩
theorem xSm_m {A A' : xK} {s : Nat} {w t : Int32} (h : xSm A A') : xSm A (xKm A' s w t) := ⟨h.1, fun j => (xSm_2 (by decide) j).trans (h.2 j)⟩
theorem xSm_w {A A' : xK} {s : Nat} {v : Int32} (h : xSm A A') : xSm A (xKr A' s v) := ⟨h.1, fun j => (xSm_2 (by decide) j).trans (h.2 j)⟩
theorem xSm_u (A : xK) : xSm A (xKu A) := ⟨rfl, fun j => by
  show (if (A.2.2.2.2 (A.2.1 - 1) 1).toInt = -1 then _ else _ : Nat → Nat → Int32) j 0 = A.2.2.1 j 0
  by_cases h : (A.2.2.2.2 (A.2.1 - 1) 1).toInt = -1
  · rw [if_pos h]; exact xSm_2 (by decide) j
  · rw [if_neg h]; exact xSm_2 (by decide) j⟩
theorem yGr_h {A A' : xK} {H H2 : zp_H} (a : yHr 74 75 93 62 A H) (a' : yHr 74 75 93 62 A' H2) (hm : xSm A A') (s : Nat) (hs : (s : Int) < (H.2.1 72 5).toInt) : H2.2.1 74 (4 * s) = H.2.1 74 (4 * s) := by
  have n := a.1
  have hs' : s < A.1 := by omega
  exact ((a'.2.2.1 s 0 (by rw [hm.1]; exact hs') (by decide)).trans (hm.2 s)).trans (a.2.2.1 s 0 hs' (by decide)).symm
theorem yGc_op {c : Nat} {H H1 H2 : zp_H} (hG : yGc c H) (k1 : yKq yCi H H1) (k2 : zf_C H H1) (k3 : zf_72 H1 H2) (k4 : yKq yDi H1 H2) (hA : ∃ A0 A, yHr 74 75 93 62 A0 H ∧ xSm A0 A ∧ xKw A ∧ yHc (ycp c) A H1 ∧ yHr 74 75 93 62 A H2) (h3 : H2.2.1 82 0 = H1.2.1 82 0) (h4 : H1.2.1 0 4 = H2.2.1 82 1) : yGc c H2 := by
  obtain ⟨-, g1, g2, g3, g4, g5⟩ := hG
  obtain ⟨A0, A, a0, am, a1, a2, a3⟩ := hA
  have kd := yKq_f k2
  have e10 : H2.2.1 0 10 = H.2.1 0 10 := (k3.2 0 10 (by decide)).1.trans (k1 0 10 rfl)
  refine ⟨⟨A, a1, yHc_c (fun p k p1 p2 => (k3.2 p k (by have := ycp_x c; omega)).1) a2, a3⟩, ?_, fun hn => ?_, ?_, (k3.2 0 4 (by decide)).1.trans h4, yGr_k ((k4 72 1 rfl).trans (kd 72 1 rfl)) ((k4 72 2 rfl).trans (kd 72 2 rfl)) ((k4 72 5 rfl).trans (kd 72 5 rfl)) ((k4 72 7 rfl).trans (kd 72 7 rfl)) (fun s hs => by rw [yGr_h a0 a3 am s hs]; exact g5.1 s hs) (fun hn s hs => by rw [k4 101 (4 * s) rfl, kd 101 (4 * s) rfl]; exact g5.2.1 (by rw [← kd 72 80 rfl, ← k4 72 80 rfl]; exact hn) s hs) (fun k => (k4 77 k rfl).trans (kd 77 k rfl)) g5⟩
  · rw [e10, k4 72 80 rfl, kd 72 80 rfl]; exact g1
  · rw [e10] at hn
    obtain ⟨B, b1, b2, b3⟩ := g2 hn
    have b4 := yHr_d2 kd b3
    exact ⟨B, b1, yHc_c (fun p k p1 p2 => (k3.2 p k (by omega)).1.trans (k1 p k (yCi_im p1 p2))) b2, yHr_c (k4 72 5 rfl) (k4 72 81 rfl) (fun k => k4 101 k rfl) (fun k => k4 102 k rfl) (fun k => k4 103 k rfl) b4⟩
  · rw [h3, kd 82 0 rfl, (k3.2 0 3 (by decide)).1, k1 0 3 rfl]; exact g3
theorem yb_write {L : Nat} {σ : Nat → Int32} {d c t : Nat} {H : zp_H} {x1 x2 x3 : Int32} (hI : yJ c t H) : ∃ H1 H2 v w, zp_Call L σ (d + 60) 111 [.inr (.inr (some 1)), .inl x1, .inl x2, .inl x3, .inr (.inr (some 105))] H (.inl (some (.inl v)), H1) ∧ zp_Call L σ (d + 60) 213 [.inr (.inr (some 73)), .inl x1, .inl x2, .inl x3] H1 (.inl (some (.inl w)), H2) ∧ H1.1 = zB_sh ∧ yJ c t H2 ∧ (H2.2.1 72 0).toInt = v.toInt ∧ (v.toInt = 0 → H2.2.2.1 104 0 = w.toInt64) := by
  obtain ⟨hI, hG⟩ := hI
  obtain ⟨H1, v, c1, hI1⟩ := yo_write (L := L) (σ := σ) (d := d) (x1 := x1) (x2 := x2) (x3 := x3) hI
  obtain ⟨H2, w, c2, hI2⟩ := yu_write (L := L) (σ := σ) (d := d) (x1 := x1) (x2 := x2) (x3 := x3) hI1
  have W1 := zB_Wd (zB_dn (zB_Bc hI1.1.1))
  obtain ⟨_, p1, H2', w', rfl, p2, p3⟩ := z0t_write (L := L) (σ := σ) (d := d + 57) (xs := x1) (xw := x2) (xt := x3) hI1.1.2.1
  obtain ⟨rfl, rfl⟩ : w' = w ∧ H2' = H2 := by
    have e9 := zp_Call_u p1 c2
    cases e9
    exact ⟨rfl, rfl⟩
  have k3 : zf_72 H1 H2' := zf_of p3 (by decide) (by decide)
  have k4 : yKq yDi H1 H2' := yKq_g p3 (by decide +kernel) (by decide +kernel)
  have k5 : H2'.2.2.1 104 0 = H1.2.2.1 104 0 := (zI_in p3 (p := 104) (k := 0) rfl rfl (by decide)).2
  obtain ⟨⟨A, a1, a2, a3⟩, -, -, -, g4, -⟩ := id hG
  have n5 : (H.2.1 72 5).toInt = A.1 := a3.1
  have h0 := hI.2.2.1
  rcases h0 with rfl | rfl
  · obtain ⟨y3, k2⟩ := yI_zf (e := ze_t4) hI (zc_t4 zB_W zh_all) c1 (by decide +kernel) (by show 3 ≤ d + 60; omega) ⟨rfl, zl_full _, zl_full _, zl_full _, rfl, trivial⟩ rfl
    have y3 : zk_Fr zg _ _ H H1 := y3
    have k2 : zf_C H H1 := k2
    have k1 : yKq yCi H H1 := yKq_c (fun _ _ => yCi_0) y3 (by decide +kernel) (by decide +kernel)
    have a4 := yHr_d1 (yKq_f k2) a3
    by_cases hs : 0 ≤ x1.toInt ∧ x1.toInt < A.1
    · obtain ⟨K, u, e1, e2, W9, -⟩ := yl_wr0 (L := L) (σ := σ) (d := 0) (xw := x2) (xt := x3) hI.1.1 a1 a2 hs
      have e9 := zp_Call_u c1 e1
      cases e9
      obtain ⟨_, f1, H9, w9, rfl, f2, f3, f4⟩ := yr_wr (L := L) (σ := σ) (d := 0) (xw := x2) (xt := x3) W1 a1 a4 hs
      obtain ⟨rfl, rfl⟩ : w' = w9 ∧ H2' = H9 := by
        have e9 := zp_Call_u f1 c2
        cases e9
        exact ⟨rfl, rfl⟩
      rcases e2 with ⟨v1, v2, v3, v4⟩ | ⟨v1, v2, v3, v4⟩ <;> rcases f2 with ⟨g1, g2, g3, g5⟩ | ⟨g1, g2, g3, g5⟩
      · have eu : u = w' := Int32.toInt_inj.mp (v2.trans g2.symm)
        refine ⟨_, _, _, _, c1, c2, hI1.1.1.1, ⟨hI2, yGc_op hG k1 k2 k3 k4 ⟨A, _, a3, xSm_k (xSm_m (xSm_r A)), xKw_k (xKw_m a1 (by omega) v1.1) hs, v3, g3⟩ f4 ?_⟩, f3, fun _ => ?_⟩
        · rw [g5, (yKq_f k2) 82 1 rfl]
          exact v4.trans g4
        · rw [k5, ← eu]
          exact zp_u_self K.2.2.1 104 0 _
      · exact absurd v1 g1
      · exact absurd g1 v1
      · refine ⟨_, _, _, _, c1, c2, hI1.1.1.1, ⟨hI2, yGc_op hG k1 k2 k3 k4 ⟨A, A, a3, xSm_r A, a1, v3, g3⟩ f4 ?_⟩, f3, fun _ => ?_⟩
        · rw [g5, (yKq_f k2) 82 1 rfl, ← g4]
          exact v4
        · rw [k5, g2, ← v2]
          exact zp_u_self K.2.2.1 104 0 _
    · have e9 := zp_Call_u c1 (yl_wrn0 (L := L) (σ := σ) (d := 0) hI.1.1 (by rw [show (H.2.1 13 0).toInt = A.1 from a2.1]; exact hs))
      cases e9
      have e9 := zp_Call_u c2 (yr_wrn (L := L) (σ := σ) (d := 0) W1 (by rw [n5]; exact hs))
      cases e9
      have q : ∀ p k, ¬ (p = 72 ∧ k = 0) → (zw_I (zw_I H 72 0 (Int32.ofInt 0)) 72 0 (Int32.ofInt 1)).2.1 p k = H.2.1 p k := fun p k hp => (y_ne hp).trans (y_ne hp)
      exact ⟨_, _, _, _, c1, c2, hI1.1.1.1, ⟨hI2, yGc_op hG k1 k2 k3 k4 ⟨A, A, a3, xSm_r A, a1, a2, yHr_c (q 72 5 (by decide)) (q 72 62 (by decide)) (fun k => q 74 k (fun h9 => absurd h9.1 (by decide))) (fun k => q 75 k (fun h9 => absurd h9.1 (by decide))) (fun k => q 93 k (fun h9 => absurd h9.1 (by decide))) a3⟩ (q 82 0 (by decide)) (g4.trans (q 82 1 (by decide)).symm)⟩, congrArg Int32.toInt zw_eq, fun h9 => absurd h9 (by decide)⟩
  · obtain ⟨y3, k2⟩ := yI_zf (e := ze_t76) hI (zc_t76 zB_W zh_all) c1 (by decide +kernel) (by show 3 ≤ d + 60; omega) ⟨rfl, zl_full _, zl_full _, zl_full _, rfl, trivial⟩ rfl
    have y3 : zk_Fr zg _ _ H H1 := y3
    have k2 : zf_C H H1 := k2
    have k1 : yKq yCi H H1 := yKq_c (fun _ _ => yCi_0) y3 (by decide +kernel) (by decide +kernel)
    have a4 := yHr_d1 (yKq_f k2) a3
    by_cases hs : 0 ≤ x1.toInt ∧ x1.toInt < A.1
    · obtain ⟨K, u, e1, e2, W9, -⟩ := yl_wr3 (L := L) (σ := σ) (d := 0) (xw := x2) (xt := x3) hI.1.1 a1 a2 hs
      have e9 := zp_Call_u c1 e1
      cases e9
      obtain ⟨_, f1, H9, w9, rfl, f2, f3, f4⟩ := yr_wr (L := L) (σ := σ) (d := 0) (xw := x2) (xt := x3) W1 a1 a4 hs
      obtain ⟨rfl, rfl⟩ : w' = w9 ∧ H2' = H9 := by
        have e9 := zp_Call_u f1 c2
        cases e9
        exact ⟨rfl, rfl⟩
      rcases e2 with ⟨v1, v2, v3, v4⟩ | ⟨v1, v2, v3, v4⟩ <;> rcases f2 with ⟨g1, g2, g3, g5⟩ | ⟨g1, g2, g3, g5⟩
      · have eu : u = w' := Int32.toInt_inj.mp (v2.trans g2.symm)
        refine ⟨_, _, _, _, c1, c2, hI1.1.1.1, ⟨hI2, yGc_op hG k1 k2 k3 k4 ⟨A, _, a3, xSm_k (xSm_m (xSm_r A)), xKw_k (xKw_m a1 (by omega) v1.1) hs, v3, g3⟩ f4 ?_⟩, f3, fun _ => ?_⟩
        · rw [g5, (yKq_f k2) 82 1 rfl]
          exact v4.trans g4
        · rw [k5, ← eu]
          exact zp_u_self K.2.2.1 104 0 _
      · exact absurd v1 g1
      · exact absurd g1 v1
      · refine ⟨_, _, _, _, c1, c2, hI1.1.1.1, ⟨hI2, yGc_op hG k1 k2 k3 k4 ⟨A, A, a3, xSm_r A, a1, v3, g3⟩ f4 ?_⟩, f3, fun _ => ?_⟩
        · rw [g5, (yKq_f k2) 82 1 rfl, ← g4]
          exact v4
        · rw [k5, g2, ← v2]
          exact zp_u_self K.2.2.1 104 0 _
    · have e9 := zp_Call_u c1 (yl_wrn3 (L := L) (σ := σ) (d := 0) hI.1.1 (by rw [show (H.2.1 33 0).toInt = A.1 from a2.1]; exact hs))
      cases e9
      have e9 := zp_Call_u c2 (yr_wrn (L := L) (σ := σ) (d := 0) W1 (by rw [n5]; exact hs))
      cases e9
      have q : ∀ p k, ¬ (p = 72 ∧ k = 0) → (zw_I (zw_I H 72 0 (Int32.ofInt 0)) 72 0 (Int32.ofInt 1)).2.1 p k = H.2.1 p k := fun p k hp => (y_ne hp).trans (y_ne hp)
      exact ⟨_, _, _, _, c1, c2, hI1.1.1.1, ⟨hI2, yGc_op hG k1 k2 k3 k4 ⟨A, A, a3, xSm_r A, a1, a2, yHr_c (q 72 5 (by decide)) (q 72 62 (by decide)) (fun k => q 74 k (fun h9 => absurd h9.1 (by decide))) (fun k => q 75 k (fun h9 => absurd h9.1 (by decide))) (fun k => q 93 k (fun h9 => absurd h9.1 (by decide))) a3⟩ (q 82 0 (by decide)) (g4.trans (q 82 1 (by decide)).symm)⟩, congrArg Int32.toInt zw_eq, fun h9 => absurd h9 (by decide)⟩
theorem yb_rub {L : Nat} {σ : Nat → Int32} {d c t : Nat} {H : zp_H} {x1 x2 x3 : Int32} (hI : yJ c t H) : ∃ H1 H2 v w, zp_Call L σ (d + 60) 114 [.inr (.inr (some 1)), .inl x1, .inl x2, .inl x3, .inr (.inr (some 105))] H (.inl (some (.inl v)), H1) ∧ zp_Call L σ (d + 60) 216 [.inr (.inr (some 73)), .inl x1, .inl x2, .inl x3] H1 (.inl (some (.inl w)), H2) ∧ H1.1 = zB_sh ∧ yJ c t H2 ∧ (H2.2.1 72 0).toInt = v.toInt ∧ (v.toInt = 0 → H2.2.2.1 104 0 = w.toInt64) := by
  obtain ⟨hI, hG⟩ := hI
  obtain ⟨H1, v, c1, hI1⟩ := yo_rub (L := L) (σ := σ) (d := d) (x1 := x1) (x2 := x2) (x3 := x3) hI
  obtain ⟨H2, w, c2, hI2⟩ := yu_rub (L := L) (σ := σ) (d := d) (x1 := x1) (x2 := x2) (x3 := x3) hI1
  have W1 := zB_Wd (zB_dn (zB_Bc hI1.1.1))
  obtain ⟨_, p1, H2', w', rfl, p2, p3⟩ := z0t_rub (L := L) (σ := σ) (d := d + 57) (xs := x1) (xd := x2) (xc := x3) hI1.1.2.1
  obtain ⟨rfl, rfl⟩ : w' = w ∧ H2' = H2 := by
    have e9 := zp_Call_u p1 c2
    cases e9
    exact ⟨rfl, rfl⟩
  have k3 : zf_72 H1 H2' := zf_of p3 (by decide) (by decide)
  have k4 : yKq yDi H1 H2' := yKq_g p3 (by decide +kernel) (by decide +kernel)
  have k5 : H2'.2.2.1 104 0 = H1.2.2.1 104 0 := (zI_in p3 (p := 104) (k := 0) rfl rfl (by decide)).2
  obtain ⟨⟨A, a1, a2, a3⟩, -, -, -, g4, -⟩ := id hG
  have n5 : (H.2.1 72 5).toInt = A.1 := a3.1
  have h0 := hI.2.2.1
  rcases h0 with rfl | rfl
  · obtain ⟨y3, k2⟩ := yI_zf (e := ze_t5) hI (zc_t5 zB_W zh_all) c1 (by decide +kernel) (by show 3 ≤ d + 60; omega) ⟨rfl, zl_full _, zl_full _, zl_full _, rfl, trivial⟩ rfl
    have y3 : zk_Fr zg _ _ H H1 := y3
    have k2 : zf_C H H1 := k2
    have k1 : yKq yCi H H1 := yKq_c (fun _ _ => yCi_0) y3 (by decide +kernel) (by decide +kernel)
    have a4 := yHr_d1 (yKq_f k2) a3
    by_cases hs : 0 ≤ x1.toInt ∧ x1.toInt < A.1
    · obtain ⟨K, u, e1, e2, W9, -⟩ := yl_rb0 (L := L) (σ := σ) (d := 0) (sd := x2) (ch := x3) hI.1.1 a1 a2 hs
      have e9 := zp_Call_u c1 e1
      cases e9
      obtain ⟨_, f1, H9, w9, rfl, f2, f3, f4⟩ := yr_rb (L := L) (σ := σ) (d := 0) (sd := x2) (ch := x3) W1 a1 a4 hs
      obtain ⟨rfl, rfl⟩ : w' = w9 ∧ H2' = H9 := by
        have e9 := zp_Call_u f1 c2
        cases e9
        exact ⟨rfl, rfl⟩
      rcases e2 with ⟨v1, v2, v3, v4⟩ | ⟨v1, v2, v3, v4⟩ <;> rcases f2 with ⟨g1, g2, g3, g5⟩ | ⟨g1, g2, g3, g5⟩
      · have hr : 0 ≤ (yRub x3 (A.2.2.1 x1.toInt.toNat 2).toInt.toNat (Int32.ofInt 0) x2 (A.2.2.1 x1.toInt.toNat 3)).toInt ∧ (yRub x3 (A.2.2.1 x1.toInt.toNat 2).toInt.toNat (Int32.ofInt 0) x2 (A.2.2.1 x1.toInt.toNat 3)).toInt ≤ 255 := by
          have e8 : H2'.2.1 74 (4 * x1.toInt.toNat + 3) = yRub x3 (A.2.2.1 x1.toInt.toNat 2).toInt.toNat (Int32.ofInt 0) x2 (A.2.2.1 x1.toInt.toNat 3) := (g3.2.2.1 x1.toInt.toNat 3 (by show x1.toInt.toNat < A.1; omega) (by decide)).trans yU2_e
          have e7 := zt_s3 (z0T_dn p2) (k := x1.toInt.toNat) (by have := a1.1; omega)
          rw [e8] at e7
          exact e7
        have eu : u = w' := by rw [v2, g2]; exact yIb_s hr
        refine ⟨_, _, _, _, c1, c2, hI1.1.1.1, ⟨hI2, yGc_op hG k1 k2 k3 k4 ⟨A, _, a3, xSm_w (xSm_k (xSm_r A)), xKw_r (xKw_k a1 hs), v3, g3⟩ f4 ?_⟩, f3, fun _ => ?_⟩
        · rw [g5, (yKq_f k2) 82 1 rfl]
          exact v4.trans g4
        · rw [k5, ← eu]
          exact zp_u_self K.2.2.1 104 0 _
      · exact absurd v1 g1
      · exact absurd g1 v1
      · refine ⟨_, _, _, _, c1, c2, hI1.1.1.1, ⟨hI2, yGc_op hG k1 k2 k3 k4 ⟨A, A, a3, xSm_r A, a1, v3, g3⟩ f4 ?_⟩, f3, fun _ => ?_⟩
        · rw [g5, (yKq_f k2) 82 1 rfl, ← g4]
          exact v4
        · rw [k5, g2, ← v2]
          exact zp_u_self K.2.2.1 104 0 _
    · have e9 := zp_Call_u c1 (yl_rbn0 (L := L) (σ := σ) (d := 0) hI.1.1 (by rw [show (H.2.1 13 0).toInt = A.1 from a2.1]; exact hs))
      cases e9
      have e9 := zp_Call_u c2 (yr_rbn (L := L) (σ := σ) (d := 0) W1 (by rw [n5]; exact hs))
      cases e9
      have q : ∀ p k, ¬ (p = 72 ∧ k = 0) → (zw_I (zw_I H 72 0 (Int32.ofInt 0)) 72 0 (Int32.ofInt 1)).2.1 p k = H.2.1 p k := fun p k hp => (y_ne hp).trans (y_ne hp)
      exact ⟨_, _, _, _, c1, c2, hI1.1.1.1, ⟨hI2, yGc_op hG k1 k2 k3 k4 ⟨A, A, a3, xSm_r A, a1, a2, yHr_c (q 72 5 (by decide)) (q 72 62 (by decide)) (fun k => q 74 k (fun h9 => absurd h9.1 (by decide))) (fun k => q 75 k (fun h9 => absurd h9.1 (by decide))) (fun k => q 93 k (fun h9 => absurd h9.1 (by decide))) a3⟩ (q 82 0 (by decide)) (g4.trans (q 82 1 (by decide)).symm)⟩, congrArg Int32.toInt zw_eq, fun h9 => absurd h9 (by decide)⟩
  · obtain ⟨y3, k2⟩ := yI_zf (e := ze_t77) hI (zc_t77 zB_W zh_all) c1 (by decide +kernel) (by show 3 ≤ d + 60; omega) ⟨rfl, zl_full _, zl_full _, zl_full _, rfl, trivial⟩ rfl
    have y3 : zk_Fr zg _ _ H H1 := y3
    have k2 : zf_C H H1 := k2
    have k1 : yKq yCi H H1 := yKq_c (fun _ _ => yCi_0) y3 (by decide +kernel) (by decide +kernel)
    have a4 := yHr_d1 (yKq_f k2) a3
    by_cases hs : 0 ≤ x1.toInt ∧ x1.toInt < A.1
    · obtain ⟨K, u, e1, e2, W9, -⟩ := yl_rb3 (L := L) (σ := σ) (d := 0) (sd := x2) (ch := x3) hI.1.1 a1 a2 hs
      have e9 := zp_Call_u c1 e1
      cases e9
      obtain ⟨_, f1, H9, w9, rfl, f2, f3, f4⟩ := yr_rb (L := L) (σ := σ) (d := 0) (sd := x2) (ch := x3) W1 a1 a4 hs
      obtain ⟨rfl, rfl⟩ : w' = w9 ∧ H2' = H9 := by
        have e9 := zp_Call_u f1 c2
        cases e9
        exact ⟨rfl, rfl⟩
      rcases e2 with ⟨v1, v2, v3, v4⟩ | ⟨v1, v2, v3, v4⟩ <;> rcases f2 with ⟨g1, g2, g3, g5⟩ | ⟨g1, g2, g3, g5⟩
      · have hr : 0 ≤ (yRub x3 (A.2.2.1 x1.toInt.toNat 2).toInt.toNat (Int32.ofInt 0) x2 (A.2.2.1 x1.toInt.toNat 3)).toInt ∧ (yRub x3 (A.2.2.1 x1.toInt.toNat 2).toInt.toNat (Int32.ofInt 0) x2 (A.2.2.1 x1.toInt.toNat 3)).toInt ≤ 255 := by
          have e8 : H2'.2.1 74 (4 * x1.toInt.toNat + 3) = yRub x3 (A.2.2.1 x1.toInt.toNat 2).toInt.toNat (Int32.ofInt 0) x2 (A.2.2.1 x1.toInt.toNat 3) := (g3.2.2.1 x1.toInt.toNat 3 (by show x1.toInt.toNat < A.1; omega) (by decide)).trans yU2_e
          have e7 := zt_s3 (z0T_dn p2) (k := x1.toInt.toNat) (by have := a1.1; omega)
          rw [e8] at e7
          exact e7
        have eu : u = w' := by rw [v2, g2]; exact yIb_s hr
        refine ⟨_, _, _, _, c1, c2, hI1.1.1.1, ⟨hI2, yGc_op hG k1 k2 k3 k4 ⟨A, _, a3, xSm_w (xSm_k (xSm_r A)), xKw_r (xKw_k a1 hs), v3, g3⟩ f4 ?_⟩, f3, fun _ => ?_⟩
        · rw [g5, (yKq_f k2) 82 1 rfl]
          exact v4.trans g4
        · rw [k5, ← eu]
          exact zp_u_self K.2.2.1 104 0 _
      · exact absurd v1 g1
      · exact absurd g1 v1
      · refine ⟨_, _, _, _, c1, c2, hI1.1.1.1, ⟨hI2, yGc_op hG k1 k2 k3 k4 ⟨A, A, a3, xSm_r A, a1, v3, g3⟩ f4 ?_⟩, f3, fun _ => ?_⟩
        · rw [g5, (yKq_f k2) 82 1 rfl, ← g4]
          exact v4
        · rw [k5, g2, ← v2]
          exact zp_u_self K.2.2.1 104 0 _
    · have e9 := zp_Call_u c1 (yl_rbn3 (L := L) (σ := σ) (d := 0) hI.1.1 (by rw [show (H.2.1 33 0).toInt = A.1 from a2.1]; exact hs))
      cases e9
      have e9 := zp_Call_u c2 (yr_rbn (L := L) (σ := σ) (d := 0) W1 (by rw [n5]; exact hs))
      cases e9
      have q : ∀ p k, ¬ (p = 72 ∧ k = 0) → (zw_I (zw_I H 72 0 (Int32.ofInt 0)) 72 0 (Int32.ofInt 1)).2.1 p k = H.2.1 p k := fun p k hp => (y_ne hp).trans (y_ne hp)
      exact ⟨_, _, _, _, c1, c2, hI1.1.1.1, ⟨hI2, yGc_op hG k1 k2 k3 k4 ⟨A, A, a3, xSm_r A, a1, a2, yHr_c (q 72 5 (by decide)) (q 72 62 (by decide)) (fun k => q 74 k (fun h9 => absurd h9.1 (by decide))) (fun k => q 75 k (fun h9 => absurd h9.1 (by decide))) (fun k => q 93 k (fun h9 => absurd h9.1 (by decide))) a3⟩ (q 82 0 (by decide)) (g4.trans (q 82 1 (by decide)).symm)⟩, congrArg Int32.toInt zw_eq, fun h9 => absurd h9 (by decide)⟩
/-- the slate of a written act that is the last has a mark -/
theorem yun_k {A : xK} {H : zp_H} (hJ : zJ_cnt H) (hw : xKw A) (h : yHr 74 75 93 62 A H) : (A.2.2.2.2 (A.2.1 - 1) 1).toInt = -1 → 0 < A.2.1 → 0 < (A.2.2.1 (A.2.2.2.2 (A.2.1 - 1) 0).toInt.toNat 2).toInt := by
  intro h1 ha
  obtain ⟨b1, b2, b3, b4⟩ := hw
  have hs := b4 (A.2.1 - 1) (by omega)
  have hc := hJ (A.2.2.2.2 (A.2.1 - 1) 0).toInt.toNat (by omega)
  have e62 : (H.2.1 72 62).toInt.toNat = (A.2.1 - 1) + 1 := by have := h.2.1; omega
  have e0 : H.2.1 93 (2 * (A.2.1 - 1)) = A.2.2.2.2 (A.2.1 - 1) 0 := h.2.2.2.2 (A.2.1 - 1) 0 (by omega) (by decide)
  have e1 : H.2.1 93 (2 * (A.2.1 - 1) + 1) = A.2.2.2.2 (A.2.1 - 1) 1 := h.2.2.2.2 (A.2.1 - 1) 1 (by omega) (by decide)
  have e2 : H.2.1 74 (4 * (A.2.2.2.2 (A.2.1 - 1) 0).toInt.toNat + 2) = A.2.2.1 (A.2.2.2.2 (A.2.1 - 1) 0).toInt.toNat 2 := h.2.2.1 _ 2 (by omega) (by decide)
  rw [e62, e2] at hc
  have e3 : zr_cnt (H.2.1 93) ((A.2.2.2.2 (A.2.1 - 1) 0).toInt.toNat : Nat) ((A.2.1 - 1) + 1) = zr_cnt (H.2.1 93) ((A.2.2.2.2 (A.2.1 - 1) 0).toInt.toNat : Nat) (A.2.1 - 1) + 1 := by
    show zr_cnt (H.2.1 93) ((A.2.2.2.2 (A.2.1 - 1) 0).toInt.toNat : Nat) (A.2.1 - 1) + (if (H.2.1 93 (2 * (A.2.1 - 1))).toInt = ((A.2.2.2.2 (A.2.1 - 1) 0).toInt.toNat : Nat) ∧ (H.2.1 93 (2 * (A.2.1 - 1) + 1)).toInt = -1 then 1 else 0) = _
    rw [e0, e1, if_pos ⟨by omega, h1⟩]
  rw [e3] at hc
  omega
def yC0 (q : Nat × Nat) : Bool := (Nat.beq q.1 0).and ((Nat.beq q.2 3).or (Nat.beq q.2 4))
def yC1 (q : Nat × Nat) : Bool := (Nat.beq q.1 0).and ((Nat.beq q.2 3).or ((Nat.beq q.2 4).or (Nat.beq q.2 10)))
theorem yC0_0 {p k : Nat} (h : yC0 (p, k) = true) : p < 72 ∧ (p ≠ 0 → yC0 (p, 0) = true) := by
  have a : p = 0 := za_beq (Bool.and_eq_true_iff.mp h).1
  exact ⟨by omega, fun h9 => absurd a h9⟩
theorem yC1_0 {p k : Nat} (h : yC1 (p, k) = true) : p < 72 ∧ (p ≠ 0 → yC1 (p, 0) = true) := by
  have a : p = 0 := za_beq (Bool.and_eq_true_iff.mp h).1
  exact ⟨by omega, fun h9 => absurd a h9⟩
theorem yIm_k {H : zp_H} : (yIm H).2.1 72 80 = Int32.ofInt 1 ∧ (∀ k, (yIm H).2.1 82 k = H.2.1 82 k) ∧ zf_72 H (yIm H) := by
  refine ⟨(zc_ne (by decide)).trans ((zc_ne (by decide)).trans ((zc_ne (by decide)).trans ((y_ne (fun h9 => absurd h9.2 (by decide))).trans zw_eq))), fun k => (zc_ne (by decide)).trans ((zc_ne (by decide)).trans ((zc_ne (by decide)).trans ((y_ne (fun h9 => absurd h9.1 (by decide))).trans ((y_ne (fun h9 => absurd h9.1 (by decide))).trans (y_ne (fun h9 => absurd h9.1 (by decide))))))), ?_⟩
  exact zf_c (zf_c (zf_c (zf_I (zf_I (zf_I (zf_r H) rfl) rfl) rfl) rfl) rfl) rfl
theorem yRs_k {H : zp_H} : (yRs H).2.1 72 80 = H.2.1 72 80 ∧ (∀ k, (yRs H).2.1 82 k = H.2.1 82 k) ∧ zf_72 H (yRs H) := by
  refine ⟨(zc_ne (by decide)).trans ((zc_ne (by decide)).trans ((zc_ne (by decide)).trans ((y_ne (fun h9 => absurd h9.2 (by decide))).trans (y_ne (fun h9 => absurd h9.2 (by decide)))))), fun k => (zc_ne (by decide)).trans ((zc_ne (by decide)).trans ((zc_ne (by decide)).trans ((y_ne (fun h9 => absurd h9.1 (by decide))).trans (y_ne (fun h9 => absurd h9.1 (by decide)))))), ?_⟩
  exact zf_c (zf_c (zf_c (zf_I (zf_I (zf_r H) rfl) rfl) rfl) rfl) rfl
theorem yb_undo {L : Nat} {σ : Nat → Int32} {d c t : Nat} {H : zp_H} (hI : yJ c t H) : ∃ H1 H2 v w, zp_Call L σ (d + 60) 20 [.inr (.inr (some 1))] H (.inl (some (.inl v)), H1) ∧ zp_Call L σ (d + 60) 218 [.inr (.inr (some 73))] H1 (.inl (some (.inl w)), H2) ∧ H1.1 = zB_sh ∧ yJ c t H2 ∧ v.toInt = w.toInt := by
  obtain ⟨hI, hG⟩ := hI
  obtain ⟨H1, v, c1, hI1⟩ := yo_undo (L := L) (σ := σ) (d := d) hI
  obtain ⟨H2, w, c2, hI2⟩ := yu_undo (L := L) (σ := σ) (d := d) hI1
  have W1 := zB_Wd (zB_dn (zB_Bc hI1.1.1))
  obtain ⟨_, p1, H2', w', rfl, p2, p3⟩ := z0t_undo (L := L) (σ := σ) (d := d + 59) hI1.1.2.1
  obtain ⟨rfl, rfl⟩ : w' = w ∧ H2' = H2 := by
    have e9 := zp_Call_u p1 c2
    cases e9
    exact ⟨rfl, rfl⟩
  have k3 : zf_72 H1 H2' := zf_of p3 (by decide) (by decide)
  have k4 : yKq yDi H1 H2' := yKq_g p3 (by decide +kernel) (by decide +kernel)
  have k5 : ∀ k, H2'.2.1 82 k = H1.2.1 82 k := fun k => (zI_in p3 (p := 82) (k := k) (zI_nm (P := fun q => (Nat.beq q.1 82).not) (by decide) rfl) rfl (fun h9 => absurd h9.1 (by decide))).1
  obtain ⟨⟨A, a1, a2, a3⟩, -, -, -, g4, -⟩ := id hG
  have hJ := hI.1.2.1.2.2.2.2.2.2.2.2.1
  have hk := fun h1 => yun_k hJ a1 a3 h1
  have h0 := hI.2.2.1
  rcases h0 with rfl | rfl
  · obtain ⟨y3, k2⟩ := yI_zf (e := ze_t20) hI (zc_t20 zB_W zh_all) c1 (by decide +kernel) (by show 2 ≤ d + 60; omega) ⟨rfl, trivial⟩ rfl
    have y3 : zk_Fr zg _ _ H H1 := y3
    have k2 : zf_C H H1 := k2
    have k1 : yKq yCi H H1 := yKq_c (fun _ _ => yCi_0) y3 (by decide +kernel) (by decide +kernel)
    have k6 : yKq yC0 H H1 := yKq_c (fun _ _ => yC0_0) y3 (by decide +kernel) (by decide +kernel)
    have a4 := yHr_d1 (yKq_f k2) a3
    have h4 : H1.2.1 0 4 = H2'.2.1 82 1 := by rw [k5, (yKq_f k2) 82 1 rfl, k6 0 4 rfl]; exact g4
    by_cases hp : 0 < A.2.1
    · have hk := fun h1 => hk h1 hp
      obtain ⟨_, e1, K, u, rfl, e2⟩ := yc_un0 (L := L) (σ := σ) (d := 0) hI.1.1 a1 a2 hk
      obtain ⟨rfl, rfl⟩ : u = v ∧ K = H1 := by
        have e9 := zp_Call_u e1 c1
        cases e9
        exact ⟨rfl, rfl⟩
      obtain ⟨_, f1, H9, w9, rfl, f2⟩ := yr_un (L := L) (σ := σ) (d := 0) W1 a1 a4 hk
      obtain ⟨rfl, rfl⟩ : w' = w9 ∧ H2' = H9 := by
        have e9 := zp_Call_u f1 c2
        cases e9
        exact ⟨rfl, rfl⟩
      rcases e2 with ⟨v1, -, -⟩ | ⟨v1, v2, v3, -, -⟩
      · omega
      rcases f2 with ⟨u1, -, -⟩ | ⟨u1, u2, u3, -⟩
      · omega
      exact ⟨_, _, _, _, c1, c2, hI1.1.1.1, ⟨hI2, yGc_op hG k1 k2 k3 k4 ⟨A, _, a3, xSm_u A, xKw_u a1 hp hk, v3, u3⟩ (k5 0) h4⟩, v2.trans u2.symm⟩
    · have e9 := zp_Call_u (yc_un00 (L := L) (σ := σ) (d := 0) hI.1.1 a2 (by omega)) c1
      cases e9
      have e9 := zp_Call_u (yr_un0 (L := L) (σ := σ) (d := 0) W1 a3 (by omega)) c2
      cases e9
      exact ⟨_, _, _, _, c1, c2, hI1.1.1.1, ⟨hI2, yGc_op hG k1 k2 k3 k4 ⟨A, A, a3, xSm_r A, a1, a2, yHr_c (y_ne (fun h9 => absurd h9.2 (by decide))) (y_ne (fun h9 => absurd h9.2 (by decide))) (fun k => y_ne (fun h9 => absurd h9.1 (by decide))) (fun k => y_ne (fun h9 => absurd h9.1 (by decide))) (fun k => y_ne (fun h9 => absurd h9.1 (by decide))) a3⟩ (k5 0) h4⟩, rfl⟩
  · obtain ⟨y3, k2⟩ := yI_zf (e := ze_t92) hI (zc_t92 zB_W zh_all) c1 (by decide +kernel) (by show 2 ≤ d + 60; omega) ⟨rfl, trivial⟩ rfl
    have y3 : zk_Fr zg _ _ H H1 := y3
    have k2 : zf_C H H1 := k2
    have k1 : yKq yCi H H1 := yKq_c (fun _ _ => yCi_0) y3 (by decide +kernel) (by decide +kernel)
    have k6 : yKq yC0 H H1 := yKq_c (fun _ _ => yC0_0) y3 (by decide +kernel) (by decide +kernel)
    have a4 := yHr_d1 (yKq_f k2) a3
    have h4 : H1.2.1 0 4 = H2'.2.1 82 1 := by rw [k5, (yKq_f k2) 82 1 rfl, k6 0 4 rfl]; exact g4
    by_cases hp : 0 < A.2.1
    · have hk := fun h1 => hk h1 hp
      obtain ⟨_, e1, K, u, rfl, e2⟩ := yc_un3 (L := L) (σ := σ) (d := 0) hI.1.1 a1 a2 hk
      obtain ⟨rfl, rfl⟩ : u = v ∧ K = H1 := by
        have e9 := zp_Call_u e1 c1
        cases e9
        exact ⟨rfl, rfl⟩
      obtain ⟨_, f1, H9, w9, rfl, f2⟩ := yr_un (L := L) (σ := σ) (d := 0) W1 a1 a4 hk
      obtain ⟨rfl, rfl⟩ : w' = w9 ∧ H2' = H9 := by
        have e9 := zp_Call_u f1 c2
        cases e9
        exact ⟨rfl, rfl⟩
      rcases e2 with ⟨v1, -, -⟩ | ⟨v1, v2, v3, -, -⟩
      · omega
      rcases f2 with ⟨u1, -, -⟩ | ⟨u1, u2, u3, -⟩
      · omega
      exact ⟨_, _, _, _, c1, c2, hI1.1.1.1, ⟨hI2, yGc_op hG k1 k2 k3 k4 ⟨A, _, a3, xSm_u A, xKw_u a1 hp hk, v3, u3⟩ (k5 0) h4⟩, v2.trans u2.symm⟩
    · have e9 := zp_Call_u (yc_un03 (L := L) (σ := σ) (d := 0) hI.1.1 a2 (by omega)) c1
      cases e9
      have e9 := zp_Call_u (yr_un0 (L := L) (σ := σ) (d := 0) W1 a3 (by omega)) c2
      cases e9
      exact ⟨_, _, _, _, c1, c2, hI1.1.1.1, ⟨hI2, yGc_op hG k1 k2 k3 k4 ⟨A, A, a3, xSm_r A, a1, a2, yHr_c (y_ne (fun h9 => absurd h9.2 (by decide))) (y_ne (fun h9 => absurd h9.2 (by decide))) (fun k => y_ne (fun h9 => absurd h9.1 (by decide))) (fun k => y_ne (fun h9 => absurd h9.1 (by decide))) (fun k => y_ne (fun h9 => absurd h9.1 (by decide))) a3⟩ (k5 0) h4⟩, rfl⟩
theorem yIm_o {H : zp_H} {p k : Nat} (hp : (p = 72 ∧ (k = 1 ∨ k = 2 ∨ k = 7)) ∨ p = 77) : (yIm H).2.1 p k = H.2.1 p k := by
  rcases hp with ⟨rfl, rfl | rfl | rfl⟩ | rfl <;> rfl
theorem yRs_o {H : zp_H} {p k : Nat} (hp : (p = 72 ∧ (k = 1 ∨ k = 2 ∨ k = 7)) ∨ p = 77) : (yRs H).2.1 p k = H.2.1 p k := by
  rcases hp with ⟨rfl, rfl | rfl | rfl⟩ | rfl <;> rfl
theorem yIm_g {A : xK} {H H1 : zp_H} (kd : yKq yDx H H1) (hw : xKw A) (a : yHr 74 75 93 62 A H1) (r1 : yHr 101 102 103 81 A (yIm H1)) (r2 : yHr 74 75 93 62 A (yIm H1)) (h : yGr H) : yGr (yIm H1) := by
  have n1 := a.1
  have n2 := r2.1
  have f : ∀ p k, (p = 72 ∧ (k = 1 ∨ k = 2 ∨ k = 7)) ∨ p = 77 → (yIm H1).2.1 p k = H1.2.1 p k := fun p k hp => yIm_o hp
  have e5 : (yIm H1).2.1 72 5 = H1.2.1 72 5 := Int32.toInt_inj.mp (by rw [n2, n1])
  have c74 : ∀ s : Nat, (s : Int) < (H1.2.1 72 5).toInt → (yIm H1).2.1 74 (4 * s) = H1.2.1 74 (4 * s) := yGr_h a r2 (xSm_r A)
  have c101 : ∀ s : Nat, (s : Int) < (H1.2.1 72 5).toInt → (yIm H1).2.1 101 (4 * s) = H1.2.1 74 (4 * s) := fun s hs => by
    have hs' : s < A.1 := by omega
    exact (r1.2.2.1 s 0 hs' (by decide)).trans (a.2.2.1 s 0 hs' (by decide)).symm
  have e6 := kd 72 5 rfl
  refine yGr_k ((f 72 1 (Or.inl ⟨rfl, Or.inl rfl⟩)).trans (kd 72 1 rfl)) ((f 72 2 (Or.inl ⟨rfl, Or.inr (Or.inl rfl)⟩)).trans (kd 72 2 rfl)) (e5.trans e6) ((f 72 7 (Or.inl ⟨rfl, Or.inr (Or.inr rfl)⟩)).trans (kd 72 7 rfl)) (fun s hs => ?_) (fun _ s hs => ?_) (fun k => (f 77 k (Or.inr rfl)).trans (kd 77 k rfl)) h
  · rw [c74 s (by rw [e6]; exact hs), kd 74 (4 * s) rfl]
    exact h.1 s hs
  · rw [c101 s (by rw [e6]; exact hs), kd 74 (4 * s) rfl]
    exact h.1 s hs
theorem yRs_g {B : xK} {H K : zp_H} (kd : yKq yDx H K) (b : yHr 101 102 103 81 B H) (r1 : yHr 74 75 93 62 B (yRs K)) (r2 : yHr 101 102 103 81 B (yRs K)) (hn : ¬ (H.2.1 72 80).toInt = 0) (h : yGr H) : yGr (yRs K) := by
  have n1 := b.1
  have n2 := r1.1
  have f : ∀ p k, (p = 72 ∧ (k = 1 ∨ k = 2 ∨ k = 7)) ∨ p = 77 → (yRs K).2.1 p k = K.2.1 p k := fun p k hp => yRs_o hp
  have e5 : (yRs K).2.1 72 5 = H.2.1 72 5 := Int32.toInt_inj.mp (by rw [n2, n1])
  have c74 : ∀ s : Nat, (s : Int) < (H.2.1 72 5).toInt → (yRs K).2.1 74 (4 * s) = H.2.1 101 (4 * s) := fun s hs => by
    have hs' : s < B.1 := by omega
    exact (r1.2.2.1 s 0 hs' (by decide)).trans (b.2.2.1 s 0 hs' (by decide)).symm
  have c101 : ∀ s : Nat, (s : Int) < (H.2.1 72 5).toInt → (yRs K).2.1 101 (4 * s) = H.2.1 101 (4 * s) := fun s hs => by
    have hs' : s < B.1 := by omega
    exact (r2.2.2.1 s 0 hs' (by decide)).trans (b.2.2.1 s 0 hs' (by decide)).symm
  refine yGr_k ((f 72 1 (Or.inl ⟨rfl, Or.inl rfl⟩)).trans (kd 72 1 rfl)) ((f 72 2 (Or.inl ⟨rfl, Or.inr (Or.inl rfl)⟩)).trans (kd 72 2 rfl)) e5 ((f 72 7 (Or.inl ⟨rfl, Or.inr (Or.inr rfl)⟩)).trans (kd 72 7 rfl)) (fun s hs => ?_) (fun _ s hs => ?_) (fun k => (f 77 k (Or.inr rfl)).trans (kd 77 k rfl)) h
  · rw [c74 s hs]
    exact h.2.1 hn s hs
  · rw [c101 s hs]
    exact h.2.1 hn s hs
theorem yb_image {L : Nat} {σ : Nat → Int32} {d c t : Nat} {H : zp_H} (hI : yJ c t H) : ∃ H1 H2, zp_Call L σ (d + 60) 45 [.inr (.inr (some 1))] H (.inl none, H1) ∧ zp_Call L σ (d + 60) 249 [.inr (.inr (some 73))] H1 (.inl none, H2) ∧ H1.1 = zB_sh ∧ yJ c t H2 := by
  obtain ⟨hI, hG⟩ := hI
  obtain ⟨H1, c1, hI1⟩ := yo_image (L := L) (σ := σ) (d := d) hI
  obtain ⟨H2, c2, hI2⟩ := yu_image (L := L) (σ := σ) (d := d) hI1
  have W1 := zB_Wd (zB_dn (zB_Bc hI1.1.1))
  obtain rfl : H2 = yIm H1 := by
    have e9 := zp_Call_u c2 (yx_image (L := L) (σ := σ) (d := 0) W1)
    cases e9
    rfl
  obtain ⟨⟨A, a1, a2, a3⟩, -, -, g3, g4, g5⟩ := id hG
  obtain ⟨i1, i2, i3⟩ := yIm_k (H := H1)
  have h0 := hI.2.2.1
  rcases h0 with rfl | rfl
  · obtain ⟨y3, k2⟩ := yI_zf (e := ze_t22) hI (zc_t22 zB_W zh_all) c1 (by decide +kernel) (by show 2 ≤ d + 60; omega) ⟨rfl, trivial⟩ rfl
    have y3 : zk_Fr zg _ _ H H1 := y3
    have k2 : zf_C H H1 := k2
    have k6 : yKq yC0 H H1 := yKq_c (fun _ _ => yC0_0) y3 (by decide +kernel) (by decide +kernel)
    have a4 := yHr_d1 (yKq_f k2) a3
    obtain ⟨_, e1, K, rfl, e2, e3, e4⟩ := yc_im0 (L := L) (σ := σ) (d := 0) hI.1.1 a1 a2
    obtain rfl : K = H1 := by
      have e9 := zp_Call_u e1 c1
      cases e9
      rfl
    obtain ⟨r1, r2⟩ := yIm_r a1 a4
    refine ⟨_, _, c1, c2, hI1.1.1.1, hI2, ⟨A, a1, yHc_c (fun p k p1 p2 => (i3.2 p k (by have := ycp_x 0; omega)).1) e3, r2⟩, ?_, fun _ => ⟨A, a1, yHc_c (fun p k p1 p2 => (i3.2 p k (by omega)).1) e2, r1⟩, ?_, ?_, yIm_g (yKq_f k2) a1 a4 r1 r2 g5⟩
    · rw [(i3.2 0 10 (by decide)).1, i1]; exact e4
    · rw [(i3.2 0 3 (by decide)).1, i2, (yKq_f k2) 82 0 rfl, k6 0 3 rfl]; exact g3
    · rw [(i3.2 0 4 (by decide)).1, i2, (yKq_f k2) 82 1 rfl, k6 0 4 rfl]; exact g4
  · obtain ⟨y3, k2⟩ := yI_zf (e := ze_t94) hI (zc_t94 zB_W zh_all) c1 (by decide +kernel) (by show 2 ≤ d + 60; omega) ⟨rfl, trivial⟩ rfl
    have y3 : zk_Fr zg _ _ H H1 := y3
    have k2 : zf_C H H1 := k2
    have k6 : yKq yC0 H H1 := yKq_c (fun _ _ => yC0_0) y3 (by decide +kernel) (by decide +kernel)
    have a4 := yHr_d1 (yKq_f k2) a3
    obtain ⟨_, e1, K, rfl, e2, e3, e4⟩ := yc_im3 (L := L) (σ := σ) (d := 0) hI.1.1 a1 a2
    obtain rfl : K = H1 := by
      have e9 := zp_Call_u e1 c1
      cases e9
      rfl
    obtain ⟨r1, r2⟩ := yIm_r a1 a4
    refine ⟨_, _, c1, c2, hI1.1.1.1, hI2, ⟨A, a1, yHc_c (fun p k p1 p2 => (i3.2 p k (by have := ycp_x 3; omega)).1) e3, r2⟩, ?_, fun _ => ⟨A, a1, yHc_c (fun p k p1 p2 => (i3.2 p k (by omega)).1) e2, r1⟩, ?_, ?_, yIm_g (yKq_f k2) a1 a4 r1 r2 g5⟩
    · rw [(i3.2 0 10 (by decide)).1, i1]; exact e4
    · rw [(i3.2 0 3 (by decide)).1, i2, (yKq_f k2) 82 0 rfl, k6 0 3 rfl]; exact g3
    · rw [(i3.2 0 4 (by decide)).1, i2, (yKq_f k2) 82 1 rfl, k6 0 4 rfl]; exact g4
theorem yb_restore {L : Nat} {σ : Nat → Int32} {d c t : Nat} {H : zp_H} (hI : yJ c t H) : ∃ H1 H2 v w, zp_Call L σ (d + 60) 47 [.inr (.inr (some 1))] H (.inl (some (.inl v)), H1) ∧ zp_Call L σ (d + 60) 250 [.inr (.inr (some 73))] H1 (.inl (some (.inl w)), H2) ∧ H1.1 = zB_sh ∧ yJ c t H2 ∧ v.toInt = w.toInt := by
  obtain ⟨hI, hG⟩ := hI
  obtain ⟨H1, v, c1, hI1⟩ := yo_restore (L := L) (σ := σ) (d := d) hI
  obtain ⟨H2, w, c2, hI2⟩ := yu_restore (L := L) (σ := σ) (d := d) hI1
  have W1 := zB_Wd (zB_dn (zB_Bc hI1.1.1))
  have r10 := zT_fr1 (z0T_dn hI.1.2.1) (k := 80) (r := (0, 1)) rfl rfl
  have r10 : 0 ≤ (H.2.1 72 80).toInt ∧ (H.2.1 72 80).toInt ≤ 1 := r10
  obtain ⟨⟨A, a1, a2, a3⟩, g1, g2, g3, g4, g5⟩ := id hG
  have h0 := hI.2.2.1
  rcases h0 with rfl | rfl
  · obtain ⟨y3, k2⟩ := yI_zf (e := ze_t23) hI (zc_t23 zB_W zh_all) c1 (by decide +kernel) (by show 2 ≤ d + 60; omega) ⟨rfl, trivial⟩ rfl
    have y3 : zk_Fr zg _ _ H H1 := y3
    have k2 : zf_C H H1 := k2
    have k6 : yKq yC1 H H1 := yKq_c (fun _ _ => yC1_0) y3 (by decide +kernel) (by decide +kernel)
    have kd := yKq_f k2
    have e10 : H1.2.1 72 80 = H.2.1 0 10 := (kd 72 80 rfl).trans g1.symm
    by_cases hn : (H.2.1 0 10).toInt = 0
    · have e9 := zp_Call_u c1 (yc_ren0 (L := L) (σ := σ) (d := 0) hI.1.1 hn)
      cases e9
      have e9 := zp_Call_u c2 (yx_res0 (L := L) (σ := σ) (d := 0) W1 (by rw [e10]; exact hn))
      cases e9
      have q : ∀ p k, ¬ (p = 72 ∧ k = 0) → (zw_I H 72 0 (Int32.ofInt 0)).2.1 p k = H.2.1 p k := fun p k hp => y_ne hp
      refine ⟨_, _, _, _, c1, c2, hI1.1.1.1, ⟨hI2, yGc_c (fun p k hp => q p k (fun h9 => by have := (yCx_0 hp).1; omega)) (fun p k hp => q p k (yDx_0 hp).2.2.2.1) hG⟩, hn⟩
    · obtain ⟨B, b1, b2, b3⟩ := g2 hn
      obtain ⟨_, e1, K, e2, e3, e4⟩ := yc_re0 (L := L) (σ := σ) (d := 0) hI.1.1 b1 b2 hn
      subst e2
      obtain ⟨rfl, rfl⟩ : v = H.2.1 0 10 ∧ K = H1 := by
        have e9 := zp_Call_u e1 c1
        cases e9
        exact ⟨rfl, rfl⟩
      obtain ⟨rfl, rfl⟩ : w = Int32.ofInt 1 ∧ H2 = yRs K := by
        have e9 := zp_Call_u c2 (yx_res1 (L := L) (σ := σ) (d := 0) W1 (by rw [e10]; exact hn))
        cases e9
        exact ⟨rfl, rfl⟩
      obtain ⟨i1, i2, i3⟩ := yRs_k (H := K)
      obtain ⟨r1, r2⟩ := yRs_r b1 (yHr_d2 kd b3)
      refine ⟨_, _, _, _, c1, c2, hI1.1.1.1, ⟨hI2, ⟨B, b1, yHc_c (fun p k p1 p2 => (i3.2 p k (by have := ycp_x 0; omega)).1) e3, r1⟩, ?_, fun _ => ⟨B, b1, yHc_c (fun p k p1 p2 => (i3.2 p k (by omega)).1) e4, r2⟩, ?_, ?_, yRs_g kd b3 r1 r2 (by rw [← g1]; exact hn) g5⟩, ?_⟩
      · rw [(i3.2 0 10 (by decide)).1, i1, e10, k6 0 10 rfl]
      · rw [(i3.2 0 3 (by decide)).1, i2, kd 82 0 rfl, k6 0 3 rfl]; exact g3
      · rw [(i3.2 0 4 (by decide)).1, i2, kd 82 1 rfl, k6 0 4 rfl]; exact g4
      · show (H.2.1 0 10).toInt = 1
        rw [← g1] at r10
        omega
  · obtain ⟨y3, k2⟩ := yI_zf (e := ze_t95) hI (zc_t95 zB_W zh_all) c1 (by decide +kernel) (by show 2 ≤ d + 60; omega) ⟨rfl, trivial⟩ rfl
    have y3 : zk_Fr zg _ _ H H1 := y3
    have k2 : zf_C H H1 := k2
    have k6 : yKq yC1 H H1 := yKq_c (fun _ _ => yC1_0) y3 (by decide +kernel) (by decide +kernel)
    have kd := yKq_f k2
    have e10 : H1.2.1 72 80 = H.2.1 0 10 := (kd 72 80 rfl).trans g1.symm
    by_cases hn : (H.2.1 0 10).toInt = 0
    · have e9 := zp_Call_u c1 (yc_ren3 (L := L) (σ := σ) (d := 0) hI.1.1 hn)
      cases e9
      have e9 := zp_Call_u c2 (yx_res0 (L := L) (σ := σ) (d := 0) W1 (by rw [e10]; exact hn))
      cases e9
      have q : ∀ p k, ¬ (p = 72 ∧ k = 0) → (zw_I H 72 0 (Int32.ofInt 0)).2.1 p k = H.2.1 p k := fun p k hp => y_ne hp
      refine ⟨_, _, _, _, c1, c2, hI1.1.1.1, ⟨hI2, yGc_c (fun p k hp => q p k (fun h9 => by have := (yCx_0 hp).1; omega)) (fun p k hp => q p k (yDx_0 hp).2.2.2.1) hG⟩, hn⟩
    · obtain ⟨B, b1, b2, b3⟩ := g2 hn
      obtain ⟨_, e1, K, e2, e3, e4⟩ := yc_re3 (L := L) (σ := σ) (d := 0) hI.1.1 b1 b2 hn
      subst e2
      obtain ⟨rfl, rfl⟩ : v = H.2.1 0 10 ∧ K = H1 := by
        have e9 := zp_Call_u e1 c1
        cases e9
        exact ⟨rfl, rfl⟩
      obtain ⟨rfl, rfl⟩ : w = Int32.ofInt 1 ∧ H2 = yRs K := by
        have e9 := zp_Call_u c2 (yx_res1 (L := L) (σ := σ) (d := 0) W1 (by rw [e10]; exact hn))
        cases e9
        exact ⟨rfl, rfl⟩
      obtain ⟨i1, i2, i3⟩ := yRs_k (H := K)
      obtain ⟨r1, r2⟩ := yRs_r b1 (yHr_d2 kd b3)
      refine ⟨_, _, _, _, c1, c2, hI1.1.1.1, ⟨hI2, ⟨B, b1, yHc_c (fun p k p1 p2 => (i3.2 p k (by have := ycp_x 3; omega)).1) e3, r1⟩, ?_, fun _ => ⟨B, b1, yHc_c (fun p k p1 p2 => (i3.2 p k (by omega)).1) e4, r2⟩, ?_, ?_, yRs_g kd b3 r1 r2 (by rw [← g1]; exact hn) g5⟩, ?_⟩
      · rw [(i3.2 0 10 (by decide)).1, i1, e10, k6 0 10 rfl]
      · rw [(i3.2 0 3 (by decide)).1, i2, kd 82 0 rfl, k6 0 3 rfl]; exact g3
      · rw [(i3.2 0 4 (by decide)).1, i2, kd 82 1 rfl, k6 0 4 rfl]; exact g4
      · show (H.2.1 0 10).toInt = 1
        rw [← g1] at r10
        omega
end
section
/-! ===== feed, sea: the chalk ===== -/
def yfG : List (Nat × Nat) := [(11, 3), (11, 4), (11, 10), (12, 5), (12, 62), (12, 80), (12, 81), (12, 1), (12, 2), (12, 7)]
theorem ykS_gc_t : ykS [] yfG ykS_fc = true := by decide +kernel
theorem ykS_gr_t : ykS [] yfG ykS_fr = true := by decide +kernel
theorem yfG_k {L : Nat} {σ : Nat → Int32} {S : List Nat} {j d : Nat} {as : List zp_V} {H : zp_H} {X : zp_X} (hS : ykS [] yfG S = true) (hj : j ∈ S) (hs : H.1 = zB_sh) (h : zp_Call L σ d j as H X) : (X.2.2.1 0 3 = H.2.1 0 3 ∧ X.2.2.1 0 4 = H.2.1 0 4 ∧ X.2.2.1 0 10 = H.2.1 0 10) ∧ X.2.2.1 72 5 = H.2.1 72 5 ∧ X.2.2.1 72 62 = H.2.1 72 62 ∧ X.2.2.1 72 80 = H.2.1 72 80 ∧ X.2.2.1 72 81 = H.2.1 72 81 ∧ X.2.2.1 72 1 = H.2.1 72 1 ∧ X.2.2.1 72 2 = H.2.1 72 2 ∧ X.2.2.1 72 7 = H.2.1 72 7 := by
  have k := ykF_call hS _ _ _ _ _ hj h
  exact ⟨⟨(k.2.1 (11, 3) (by decide) 0 (by rw [hs]; rfl)).1, (k.2.1 (11, 4) (by decide) 0 (by rw [hs]; rfl)).1, (k.2.1 (11, 10) (by decide) 0 (by rw [hs]; rfl)).1⟩, (k.2.1 (12, 5) (by decide) 72 (by rw [hs]; rfl)).1, (k.2.1 (12, 62) (by decide) 72 (by rw [hs]; rfl)).1, (k.2.1 (12, 80) (by decide) 72 (by rw [hs]; rfl)).1, (k.2.1 (12, 81) (by decide) 72 (by rw [hs]; rfl)).1, (k.2.1 (12, 1) (by decide) 72 (by rw [hs]; rfl)).1, (k.2.1 (12, 2) (by decide) 72 (by rw [hs]; rfl)).1, (k.2.1 (12, 7) (by decide) 72 (by rw [hs]; rfl)).1⟩
theorem yCx_3 {p k : Nat} (h : yCx (p, k) = true) : (p = 0 ∧ (k = 3 ∨ k = 4 ∨ k = 10)) ∨ (p ≠ 0 ∧ p ≠ 1 ∧ p < 72) := by
  rcases Bool.or_eq_true_iff.mp h with h | h
  · rcases Bool.or_eq_true_iff.mp h with h | h
    · obtain ⟨a, b⟩ := Bool.and_eq_true_iff.mp h
      have a : 13 ≤ p := Nat.le_of_ble_eq_true a
      have b : p ≤ 21 := Nat.le_of_ble_eq_true b
      omega
    · obtain ⟨a, b⟩ := Bool.and_eq_true_iff.mp h
      have a : 33 ≤ p := Nat.le_of_ble_eq_true a
      have b : p ≤ 50 := Nat.le_of_ble_eq_true b
      omega
  · obtain ⟨a, b⟩ := Bool.and_eq_true_iff.mp h
    refine Or.inl ⟨za_beq a, ?_⟩
    rcases Bool.or_eq_true_iff.mp b with b | b
    · exact Or.inl (za_beq b)
    rcases Bool.or_eq_true_iff.mp b with b | b
    · exact Or.inr (Or.inl (za_beq b))
    · exact Or.inr (Or.inr (za_beq b))
theorem yDx_3 {p k : Nat} (h : yDx (p, k) = true) : (p = 72 ∧ ((k = 1 ∨ k = 2 ∨ k = 7) ∨ k = 5 ∨ k = 62 ∨ k = 80 ∨ k = 81)) ∨ (72 < p ∧ p ≠ 81) := by
  have h9 := yDx_0 h
  by_cases hp : p = 72
  · refine Or.inl ⟨hp, ?_⟩
    subst hp
    rcases Bool.or_eq_true_iff.mp h with h | h
    · have b := (Bool.and_eq_true_iff.mp h).2
      rcases Bool.or_eq_true_iff.mp b with b | b
      · exact Or.inl (Or.inl (za_beq b))
      rcases Bool.or_eq_true_iff.mp b with b | b
      · exact Or.inl (Or.inr (Or.inl (za_beq b)))
      rcases Bool.or_eq_true_iff.mp b with b | b
      · exact Or.inl (Or.inr (Or.inr (za_beq b)))
      refine Or.inr ?_
      rcases Bool.or_eq_true_iff.mp b with b | b
      · exact Or.inl (za_beq b)
      rcases Bool.or_eq_true_iff.mp b with b | b
      · exact Or.inr (Or.inl (za_beq b))
      rcases Bool.or_eq_true_iff.mp b with b | b
      · exact Or.inr (Or.inr (Or.inl (za_beq b)))
      · exact Or.inr (Or.inr (Or.inr (za_beq b)))
    · exact absurd (show false = true from h) (by decide)
  · exact Or.inr ⟨by omega, h9.2.2.2.2.2⟩
theorem yp_feed {L : Nat} {σ : Nat → Int32} {d c t : Nat} {H : zp_H} {x1 x2 x3 x4 x5 : Int32} (hJ : yJ c t H) : ∃ H1 H2 v w t', zp_Call L σ (d + 60) 17 [.inr (.inr (some 1)), .inl x1, .inl x2, .inl x3, .inl x4, .inl x5] H (.inl (some (.inl v)), H1) ∧ zp_Call L σ (d + 60) 167 [.inr (.inr (some 73)), .inl x1, .inl x2, .inl x3, .inl x4, .inl x5] H1 (.inl (some (.inl w)), H2) ∧ v.toInt = w.toInt ∧ H1.1 = zB_sh ∧ yJ c t' H2 := by
  have hI := hJ.1
  have hG := hJ.2
  obtain ⟨H1, H2, v, w, t', c1, c2, hv, hW, hI2⟩ := zo_feed (L := L) (σ := σ) (d := d) (x1 := x1) (x2 := x2) (x3 := x3) (x4 := x4) (x5 := x5) hI.1
  obtain ⟨⟨h1, h2, h3, h4, h5, h6⟩, hT, hq⟩ := hI
  have W := zB_Wd (zB_dn (zB_Bc h1))
  have n1 := yfG_k ykS_gc_t (by decide) W.1 c1
  have n2 := yfG_k ykS_gr_t (by decide) hW c2
  have l1 := yfJ ykS_fc_t (by decide) W.1 c1
  have l2 := yfJ ykS_fr_t (by decide) hW c2
  obtain ⟨_, e1, H1', u1, rfl, W1, k1, k2⟩ := yfC_feed (L := L) (σ := σ) (d := d + 58) (x1 := x1) (x2 := x2) (x3 := x3) (x4 := x4) (x5 := x5) W h3 (by omega)
  obtain ⟨e9, rfl⟩ : _ ∧ H1' = H1 := by
    have e9 := zp_Call_u e1 c1
    cases e9
    exact ⟨trivial, rfl⟩
  by_cases hn : 20 * t + 20 ≤ 700
  · obtain ⟨A1, A2, A3, A4, a1, a2, a3, a4, a5⟩ := k1 hn
    have f1 : ∀ p k, p ≠ 0 → p ≠ 1 → H1'.2.1 p k = H.2.1 p k := fun p k p0 p1 => (a5.2.2.2 p k p0 p1).trans ((a4.2.2.2 p k p0 p1).trans ((a3.2.2.2 p k p0 p1).trans ((a2.2.2.2 p k p0 p1).trans (a1.2.2.2 p k p0 p1))))
    obtain ⟨_, e2, H2', u2, rfl, W2, m1, m2⟩ := yfR_feed (L := L) (σ := σ) (d := d + 58) (x1 := x1) (x2 := x2) (x3 := x3) (x4 := x4) (x5 := x5) (n := 20 * t) W1 (by rw [f1 72 22 (by decide) (by decide)]; exact h4) (by omega)
    obtain ⟨e9, rfl⟩ : _ ∧ H2' = H2 := by
      have e9 := zp_Call_u e2 c2
      cases e9
      exact ⟨trivial, rfl⟩
    obtain ⟨B1, B2, B3, B4, b1, b2, b3, b4, b5⟩ := m1 hn
    have g0 : ∀ p k, p ≠ 72 → p ≠ 81 → H2'.2.1 p k = H1'.2.1 p k := fun p k p0 p1 => (b5.2.2.2 p k p0 p1).trans ((b4.2.2.2 p k p0 p1).trans ((b3.2.2.2 p k p0 p1).trans ((b2.2.2.2 p k p0 p1).trans ((b1.2.2.2 p k p0 p1).trans (y_ne (fun h9 => p0 h9.1))))))
    have T0 : yTp (20 * t) H (zw_I H1' 72 0 (Int32.ofInt 0)) := yTp_c (H := H) (K := H) (fun _ => rfl) (fun k => (y_ne (fun h9 => absurd h9.1 (by decide))).trans (f1 81 k (by decide) (by decide))) hT
    have T5 := yTp_s (yTp_s (yTp_s (yTp_s (yTp_s T0 a1 b1) a2 b2) a3 b3) a4 b4) a5 b5
    have e01 : (H2'.2.1 0 1).toInt = 20 * t + 16 + 4 := by
      rw [g0 0 1 (by decide) (by decide)]
      exact a5.1
    have et : 20 * t' = 20 * t + 16 + 4 := by
      have := hI2.2.2.1
      omega
    refine ⟨H1', H2', _, _, t', c1, c2, hv, hW, ⟨hI2, ?_, ?_⟩, ?_⟩
    rotate_left 2
    · exact yGc_c (fun p k hp => by
        rcases yCx_3 hp with ⟨rfl, h9⟩ | ⟨q1, q2, q3⟩
        · rcases h9 with rfl | rfl | rfl
          · exact n2.1.1.trans n1.1.1
          · exact n2.1.2.1.trans n1.1.2.1
          · exact n2.1.2.2.trans n1.1.2.2
        · exact (g0 p k (by omega) (by omega)).trans (f1 p k q1 q2)) (fun p k hp => by
        rcases yDx_3 hp with ⟨rfl, h9⟩ | ⟨q1, q2⟩
        · rcases h9 with (rfl | rfl | rfl) | rfl | rfl | rfl | rfl
          · exact n2.2.2.2.2.2.1.trans n1.2.2.2.2.2.1
          · exact n2.2.2.2.2.2.2.1.trans n1.2.2.2.2.2.2.1
          · exact n2.2.2.2.2.2.2.2.trans n1.2.2.2.2.2.2.2
          · exact n2.2.1.trans n1.2.1
          · exact n2.2.2.1.trans n1.2.2.1
          · exact n2.2.2.2.1.trans n1.2.2.2.1
          · exact n2.2.2.2.2.1.trans n1.2.2.2.2.1
        · exact (g0 p k (by omega) q2).trans (f1 p k (by omega) (by omega))) hG
    · rw [et]
      exact yTp_c (fun k => g0 1 k (by decide) (by decide)) (fun _ => rfl) T5
    · refine yGs_c (H := H) ⟨fun p k hp => (g0 p k (by have := (yWx_0 hp).2.2; omega) (by have := (yWx_0 hp).2.2; omega)).trans (f1 p k (yWx_0 hp).1 (yWx_0 hp).2.1), fun p k hp => (l2.1 p k hp).trans (l1.1 p k hp)⟩ ⟨fun p k hp => ?_, l2.2.2.trans l1.2.2⟩ hq
      have p0 := (yRx_0 hp).1
      rcases yRx_s hp with ⟨rfl, j1, j2⟩ | ⟨p1, p2⟩
      · exact (l2.2.1 k j1 j2).trans (f1 72 k (by decide) (by decide))
      · exact (g0 p k p1 p2).trans (f1 p k (by omega) (by omega))
  · obtain rfl := k2 hn
    obtain ⟨_, e2, H2', u2, rfl, W2, m1, m2⟩ := yfR_feed (L := L) (σ := σ) (d := d + 58) (x1 := x1) (x2 := x2) (x3 := x3) (x4 := x4) (x5 := x5) (n := 20 * t) W1 h4 (by omega)
    obtain ⟨e9, rfl⟩ : _ ∧ H2' = H2 := by
      have e9 := zp_Call_u e2 c2
      cases e9
      exact ⟨trivial, rfl⟩
    obtain rfl := m2 hn
    have e01 : ((zw_I H1' 72 0 (Int32.ofInt 0)).2.1 0 1).toInt = 20 * t := (congrArg Int32.toInt (zw_ne rfl rfl)).trans (by rw [h3]; omega)
    have et : 20 * t' = 20 * t := by
      have := hI2.2.2.1
      omega
    refine ⟨H1', _, _, _, t', c1, c2, hv, hW, ⟨hI2, ?_, ?_⟩, ?_⟩
    rotate_left 2
    · exact yGc_c (H := H1') (fun p k hp => y_ne (fun h9 => by have := (yCx_0 hp).1; omega)) (fun p k hp => y_ne (yDx_0 hp).2.2.2.1) hG
    · rw [et]
      exact yTp_c (H := H1') (K := H1') (fun k => y_ne (fun h9 => absurd h9.1 (by decide))) (fun k => y_ne (fun h9 => absurd h9.1 (by decide))) hT
    · exact yGs_c (H := H1') ⟨fun p k hp => y_ne (fun h9 => by have := (yWx_0 hp).2.2; omega), fun _ _ _ => rfl⟩ ⟨fun p k hp => y_ne (fun h9 => (yRx_0 hp).2.2.2.2.1 h9), rfl⟩ hq
theorem ykb_c {c p : Nat} (h1 : ycp c ≤ p) (h2 : p ≤ ycp c + 8) : ykb c p = true := Bool.or_eq_true_iff.mpr (Or.inr (Bool.or_eq_true_iff.mpr (Or.inl (Bool.and_eq_true_iff.mpr ⟨Nat.ble_eq_true_of_le h1, Nat.ble_eq_true_of_le h2⟩))))
theorem ykb_i {c p : Nat} (h1 : 42 ≤ p) (h2 : p ≤ 42 + 8) : ykb c p = true := Bool.or_eq_true_iff.mpr (Or.inr (Bool.or_eq_true_iff.mpr (Or.inr (Bool.and_eq_true_iff.mpr ⟨Nat.ble_eq_true_of_le h1, Nat.ble_eq_true_of_le h2⟩))))
theorem yDx_Qb {p k : Nat} (h : yDx (p, k) = true) : yQb (p, k) = true := by
  rcases yDx_3 h with ⟨rfl, h9⟩ | ⟨q1, q2⟩
  · rcases h9 with (rfl | rfl | rfl) | rfl | rfl | rfl | rfl <;> rfl
  · rcases Bool.or_eq_true_iff.mp h with h | h
    · have a : p = 72 := za_beq (Bool.and_eq_true_iff.mp h).1
      omega
    rcases Bool.or_eq_true_iff.mp h with h | h
    · rcases Bool.or_eq_true_iff.mp h with h | h
      · have a : p = 74 := za_beq h
        subst a
        exact Bool.or_true _
      rcases Bool.or_eq_true_iff.mp h with h | h
      · have a : p = 75 := za_beq h
        subst a
        exact Bool.or_true _
      · have a : p = 77 := za_beq h
        subst a
        exact Bool.or_true _
    rcases Bool.or_eq_true_iff.mp h with h | h
    · have a : p = 82 := za_beq h
      subst a
      exact Bool.or_true _
    rcases Bool.or_eq_true_iff.mp h with h | h
    · have a : p = 93 := za_beq h
      subst a
      exact Bool.or_true _
    · obtain ⟨a, b⟩ := Bool.and_eq_true_iff.mp h
      have a : 101 ≤ p := Nat.le_of_ble_eq_true a
      refine Bool.or_eq_true_iff.mpr (Or.inr (Bool.or_eq_true_iff.mpr (Or.inr (Bool.or_eq_true_iff.mpr (Or.inr (Bool.or_eq_true_iff.mpr (Or.inr (Bool.and_eq_true_iff.mpr ⟨Nat.ble_eq_true_of_le ?_, b⟩))))))))
      show 98 ≤ p
      omega
/-- what a text told of the slates -/
theorem xKd_of {cp wp : Nat} {d : yLD} {K H : zp_H} (hw : ∀ p k, p < 72 → H.2.1 p k = K.2.1 p k ∧ H.2.2.1 p k = K.2.2.1 p k) (hcp : cp = 13 ∨ cp = 33) (hO : yOK d) (hD : yDd wp cp d K) (hZ : yZr d H) (h7 : (K.2.1 cp 7).toInt = 0) (h62 : (H.2.1 72 62).toInt = 0) : ∃ A, xKw A ∧ yHc cp A H ∧ yHr 74 75 93 62 A H := by
  obtain ⟨⟨o4, o5, o6, o7⟩, o20, o100, o200, o500, o600, o700⟩ := hO
  have told : ∀ i, 20 ≤ i → yInb i → yFl d i → K.2.1 (yLc wp cp i).1 (yLc wp cp i).2 = H.2.1 (yRc i).1 (yRc i).2 := fun i h20 hb hf => Int32.toInt_inj.mp ((hD.2 i h20 hf List.not_mem_nil).trans (hZ.2.2.2.2.2.2.2.2 i hb hf).symm)
  have wx : ∀ j k, j ≤ 8 → H.2.1 (cp + j) k = K.2.1 (cp + j) k := fun j k hj => (hw _ k (by omega)).1
  obtain ⟨z1, z2, z3, z5, z6, z7, z8, zl, zz⟩ := hZ
  obtain ⟨⟨d0, d1, d4, -⟩, dX⟩ := hD
  refine ⟨((d.1 4).toNat, 0, fun s w => H.2.1 74 (4 * s + w), fun s j w => H.2.1 75 (16 * s + 2 * j + w), fun k w => H.2.1 93 (2 * k + w)), ⟨by show (d.1 4).toNat ≤ 8; omega, Nat.zero_le _, fun s hs => ?_, fun k hk => absurd hk (Nat.not_lt_zero _)⟩, ⟨?_, ?_, fun s w hs hw' => ?_, fun s j w hs hj hw' => ?_, fun k w hk => absurd hk (Nat.not_lt_zero _)⟩, ⟨?_, h62, fun _ _ _ _ => rfl, fun _ _ _ _ _ _ => rfl, fun k w hk => absurd hk (Nat.not_lt_zero _)⟩⟩
  · have hs : s < (d.1 4).toNat := hs
    obtain ⟨a, -, -, f2, -, e, a0, a8, -⟩ := o200 s (by omega)
    have h := zz (220 + s) (by unfold yInb; omega) f2
    rw [yr220 (by omega)] at h
    show 0 ≤ (H.2.1 74 (4 * s + 2)).toInt ∧ (H.2.1 74 (4 * s + 2)).toInt ≤ 8
    have h : (H.2.1 74 (4 * s + 2)).toInt = d.1 (220 + s) := h
    omega
  · have e := wx 0 0 (by decide)
    have e : H.2.1 cp 0 = K.2.1 cp 0 := e
    rw [e]
    show (K.2.1 cp 0).toInt = ((d.1 4).toNat : Nat)
    omega
  · have e := wx 0 7 (by decide)
    have e : H.2.1 cp 7 = K.2.1 cp 7 := e
    rw [e]
    exact h7
  · have hs : s < (d.1 4).toNat := hs
    obtain ⟨a, f0, f1, f2, f3, -⟩ := o200 s (by omega)
    show H.2.1 (cp + 1 + w) s = H.2.1 74 (4 * s + w)
    rcases (show w = 0 ∨ w = 1 ∨ w = 2 ∨ w = 3 by omega) with rfl | rfl | rfl | rfl
    · have h := told (200 + s) (by omega) (by unfold yInb; omega) f0
      rw [yl200, yr200 (by omega)] at h
      · exact (wx 1 s (by decide)).trans h
      · omega
    · have h := told (210 + s) (by omega) (by unfold yInb; omega) f1
      rw [yl210, yr210 (by omega)] at h
      · exact (wx 2 s (by decide)).trans h
      · omega
    · have h := told (220 + s) (by omega) (by unfold yInb; omega) f2
      rw [yl220, yr220 (by omega)] at h
      · exact (wx 3 s (by decide)).trans h
      · omega
    · have h := told (230 + s) (by omega) (by unfold yInb; omega) f3
      rw [yl230, yr230 (by omega)] at h
      · exact (wx 4 s (by decide)).trans h
      · omega
  · have hs : s < (d.1 4).toNat := hs
    obtain ⟨a, -, -, f2, -, e, a0, a8, fm⟩ := o200 s (by omega)
    have h := zz (220 + s) (by unfold yInb; omega) f2
    rw [yr220 (by omega)] at h
    have h : (H.2.1 74 (4 * s + 2)).toInt = d.1 (220 + s) := h
    have hj : j < (H.2.1 74 (4 * s + 2)).toInt.toNat := hj
    obtain ⟨m0, m1⟩ := fm j (by omega)
    show H.2.1 (cp + 5 + w) (8 * s + j) = H.2.1 75 (16 * s + 2 * j + w)
    rcases (show w = 0 ∨ w = 1 by omega) with rfl | rfl
    · have h := told (300 + (8 * s + j)) (by omega) (by unfold yInb; omega) m0
      rw [yl300, yr300 (by omega)] at h
      · exact (wx 5 _ (by decide)).trans (h.trans (congrArg (H.2.1 75) (by omega)))
      · omega
    · have h := told (400 + (8 * s + j)) (by omega) (by unfold yInb; omega) m1
      rw [yl400, yr400 (by omega)] at h
      · exact (wx 6 _ (by decide)).trans (h.trans (congrArg (H.2.1 75) (by omega)))
      · omega
  · show (H.2.1 72 5).toInt = ((d.1 4).toNat : Nat)
    omega
/-- what a text told lies within its sea -/
theorem yGr_of {d : yLD} {H : zp_H} (hC : yCl d) (hO : yOK d) (hZ : yZr d H) (h80 : (H.2.1 72 80).toInt = 0) : yGr H := by
  obtain ⟨⟨o4, o5, o6, o7⟩, o20, o100, o200, o500, o600, o700⟩ := hO
  obtain ⟨z1, z2, z3, z5, z6, z7, z8, zl, zz⟩ := hZ
  obtain ⟨c1, c2, c3⟩ := hC
  refine ⟨fun s hs => ?_, fun hn => absurd h80 hn, fun p hp => ?_⟩
  · obtain ⟨a, f0, -⟩ := o200 s (by omega)
    have h := zz (200 + s) (by unfold yInb; omega) f0
    rw [yr200 (by omega)] at h
    have h : (H.2.1 74 (4 * s)).toInt = d.1 (200 + s) := h
    rw [h, z1, z2]
    exact c2 s (by omega)
  · obtain ⟨f0, -⟩ := o600 p (by omega)
    have h := zz (600 + p) (by unfold yInb; omega) f0
    rw [yr600 (by omega)] at h
    have h : (H.2.1 77 (3 * p)).toInt = d.1 (600 + p) := h
    rw [h, z1, z2]
    exact c3 p (by omega)
theorem yp_sea {L : Nat} {σ : Nat → Int32} {d c t : Nat} {H : zp_H} {x : Int32} (hJ : yJ c t H) : ∃ H1 H2 v w c' t', zp_Call L σ (d + 60) 48 [.inr (.inr (some 1)), .inl x, .inr (.inr (some 105))] H (.inl (some (.inl v)), H1) ∧ zp_Call L σ (d + 60) 169 [.inr (.inr (some 73)), .inl x] H1 (.inl (some (.inl w)), H2) ∧ H1.1 = zB_sh ∧ yJ c' t' H2 ∧ (H2.2.1 72 0).toInt = v.toInt ∧ (v.toInt = 0 → H2.2.2.1 104 0 = w.toInt64) := by
  obtain ⟨⟨hz, hT, hq⟩, hG⟩ := hJ
  by_cases hx : 0 ≤ x.toInt ∧ x.toInt ≤ (H.2.1 0 1).toInt
  · obtain ⟨_, c1, v, H1, c', rfl, c2, c3, c4, c5⟩ := zo_seaY (L := L) (σ := σ) (d := d) hz hx
    obtain ⟨h1, h2, h3, h4, h5, h6⟩ := hz
    have hxn : x.toInt = (x.toInt.toNat : Nat) := by omega
    obtain ⟨_, b1, K, u, rfl, u', K', e9, r, r1, r2, r7, r8⟩ := yo_seaX (L := L) (σ := σ) (d := d) (T := fun k => (H.2.1 1 k).toInt) (n := x.toInt.toNat) h6 h1 (by omega) hxn (fun _ _ => rfl) hx
    cases e9
    have e8 := zp_Call_u b1 c1
    cases e8
    have b2 : zk_Bs z0R zg zJ (zw_J K 104 0 u.toInt64) := zI_R h2 c3.1 (zI_rf c3) c4
    have e22 := (c4 72 22 (by decide) (by decide) (by decide)).1
    obtain ⟨_, a1, H2, w, rfl, a2, a3, a4, ⟨r', r3, r4, r5, r6⟩, a5⟩ := ysr_yes (L := L) (σ := σ) (d := d + 47) (x := x) (Tx := fun k => (H.2.1 1 k).toInt) (nx := x.toInt.toNat) (fun k hk => (hT k (by omega)).2) b2 hxn (fun k hk => by
      rw [(c4 81 k (by decide) (by decide) (fun h9 => absurd h9.1 (by decide))).1]
      exact (hT k (by omega)).1) (by rw [e22, h4, ← h3]; exact hx)
    obtain rfl := yA2_u r1 r3
    have e104 := ykF_sea (zB_Wd (zB_dn (zB_Bc c3))) a1 0
    have ew : (Int32.ofInt 0 : Int32).toInt = 0 → H2.2.2.1 104 0 = w.toInt64 := fun _ => by
      rw [e104]
      have ew : u = w := Int32.toInt_inj.mp (by rw [r2, r4])
      rw [← ew]
      rfl
    have hTT : yTp (20 * 0) H2 H2 := fun k hk => absurd hk (Nat.not_lt_zero _)
    have e1 : (H2.2.1 0 1).toInt = (20 * 0 : Nat) := by
      rw [(a3.2 0 1 (by decide)).1]
      exact c5
    by_cases h0 : r.1 = 0
    · obtain ⟨-, m10, m3, hcf, m4, m7, d9, q9, s1, s2, s3⟩ := r7 h0
      obtain ⟨-, n80, n62, n82, d8, q8, s4, s5, s6⟩ := r6 h0
      obtain rfl := yR2_e s1 s4 s2 s5
      have hc3 : 3 - c = 0 ∨ 3 - c = 3 := by have := hq.1; omega
      have ecc : c' = 3 - c := yCf_u c2 (by omega) (yCf_B c2 c3) hcf
      subst ecc
      have hKH : ∀ p k, p < 72 → H2.2.1 p k = K.2.1 p k ∧ H2.2.2.1 p k = K.2.2.1 p k := fun p k hp => ⟨(a3.2 p k hp).1, (a3.2 p k hp).2.trans (zp_u_ne (fun h9 => by have := h9.1; omega))⟩
      refine ⟨_, H2, _, w, _, 0, c1, a1, c3.1, ⟨⟨⟨zI_B c3 a2.1 a3, zR_dn a2, e1, a4, by decide, c2⟩, hTT, yGs_of (K := K) hc3 (fun p k hp => ⟨(a3.2 p k hp).1, (a3.2 p k hp).2.trans (zp_u_ne (fun h9 => by have := h9.1; omega))⟩) (yOK_end s1) s3 s6⟩, xKd_of (K := K) hKH (ycp_x _) (yOK_end s1) s3 s6 (m7 hq.1) n62, ?_, fun hn => ?_, ?_, ?_, yGr_of (yCl_end s1) (yOK_end s1) s6 n80⟩, a5, ew⟩
      · refine Int32.toInt_inj.mp ?_
        rw [(hKH 0 10 (by decide)).1, m10, n80]
      · rw [(hKH 0 10 (by decide)).1, m10] at hn
        exact absurd rfl hn
      · rw [(hKH 0 3 (by decide)).1, m3, n82, (c4 82 0 (by decide) (by decide) (by decide)).1]
        exact hG.2.2.2.1
      · rw [(hKH 0 4 (by decide)).1, m4, n82, (c4 82 1 (by decide) (by decide) (by decide)).1]
        exact hG.2.2.2.2.1
    · obtain ⟨-, m10, m3, hk, hcf, m4⟩ := r8 h0
      obtain ⟨-, f1, f2, n820, n821⟩ := r5 h0
      have ecc : c' = c := yCf_u c2 h6 (yCf_B c2 c3) hcf
      rw [ecc] at c2 c3
      have kK : ∀ p k, ykb c p = true → H2.2.1 p k = H.2.1 p k := fun p k hp => (a3.2 p k (by have := (ykb_0 hp).2; omega)).1.trans (hk p k hp).1
      have kR : ∀ p k, yDx (p, k) = true → p ≠ 82 → H2.2.1 p k = H.2.1 p k := fun p k hp h82 => (f1 p k (yDx_Qb hp) h82).trans (c4 p k (yDx_0 hp).1 (yDx_0 hp).2.1 (yDx_0 hp).2.2.1).1
      have k10 : H2.2.1 0 10 = H.2.1 0 10 := (a3.2 0 10 (by decide)).1.trans m10
      obtain ⟨⟨A, b1, b2, b3⟩, g1, g2, g3, g4, g5⟩ := hG
      refine ⟨_, H2, _, w, _, 0, c1, a1, c3.1, ⟨⟨⟨zI_B c3 a2.1 a3, zR_dn a2, e1, a4, by decide, c2⟩, hTT, yGs_k (fun p k hp => ⟨(a3.2 p k (by have := (ykb_0 hp).2; omega)).1.trans (hk p k hp).1, (a3.2 p k (by have := (ykb_0 hp).2; omega)).2.trans ((zp_u_ne (fun h9 => by have := (ykb_0 hp).2; have := h9.1; omega)).trans (hk p k hp).2)⟩) ⟨fun p k hp => (f1 p k (yRx_Qb hp) (yRx_82 hp)).trans (c4 p k (yRx_0 hp).1 (yRx_0 hp).2.1 (yRx_0 hp).2.2.2.1).1, f2.trans (c4 72 12 (by decide) (by decide) (by decide)).2⟩ hq⟩, ⟨A, b1, yHc_c (fun p k p1 p2 => kK p k (ykb_c p1 p2)) b2, yHr_c (kR 72 5 rfl (by decide)) (kR 72 62 rfl (by decide)) (fun k => kR 74 k rfl (by decide)) (fun k => kR 75 k rfl (by decide)) (fun k => kR 93 k rfl (by decide)) b3⟩, ?_, fun hn => ?_, ?_, ?_, yGr_k (kR 72 1 rfl (by decide)) (kR 72 2 rfl (by decide)) (kR 72 5 rfl (by decide)) (kR 72 7 rfl (by decide)) (fun s hs => by rw [kR 74 (4 * s) rfl (by decide)]; exact g5.1 s hs) (fun hn s hs => by rw [kR 101 (4 * s) rfl (by decide)]; exact g5.2.1 (by rw [← kR 72 80 rfl (by decide)]; exact hn) s hs) (fun k => kR 77 k rfl (by decide)) g5⟩, a5, ew⟩
      · rw [k10, kR 72 80 rfl (by decide)]; exact g1
      · rw [k10] at hn
        obtain ⟨B, d1, d2, d3⟩ := g2 hn
        exact ⟨B, d1, yHc_c (fun p k p1 p2 => kK p k (ykb_i p1 p2)) d2, yHr_c (kR 72 5 rfl (by decide)) (kR 72 81 rfl (by decide)) (fun k => kR 101 k rfl (by decide)) (fun k => kR 102 k rfl (by decide)) (fun k => kR 103 k rfl (by decide)) d3⟩
      · rw [(a3.2 0 3 (by decide)).1, n820, (c4 82 0 (by decide) (by decide) (by decide)).1, ← g3]
        exact m3
      · rw [(a3.2 0 4 (by decide)).1, n821, (c4 82 1 (by decide) (by decide) (by decide)).1, ← g4]
        exact m4
  · have c1 := zo_seaN (L := L) (σ := σ) (d := d + 58) hz hx
    obtain ⟨h1, h2, h3, h4, h5, h6⟩ := hz
    obtain ⟨_, a1, H2, w, rfl, a2, a3, a4⟩ := z0se_no (L := L) (σ := σ) (d := d + 58) (x := x) h2 (by rw [h4, ← h3]; exact hx)
    obtain ⟨_, b1, H2', w', rfl, b2, b4, b3⟩ := ysr_no (L := L) (σ := σ) (d := d + 58) (x := x) (zB_Wd (zB_dn (zB_Bc h1))) (by rw [h4, ← h3]; exact hx)
    have e9 := zp_Call_u b1 a1
    cases e9
    refine ⟨H, H2, _, w, c, t, c1, a1, h1.1, ⟨⟨zI_af ⟨h1, h2, h3, h4, h5, h6⟩ a2 a3 a4, ?_, ?_⟩, yGc_c (H := H) (fun p k hp => b3 p k (fun h9 => by have := (yCx_0 hp).1; omega)) (fun p k hp => b3 p k (yDx_0 hp).2.2.2.1) hG⟩, b2, fun h9 => absurd h9 (by decide)⟩
    · exact yTp_c (H := H) (K := H) (fun k => b3 1 k (by omega)) (fun k => b3 81 k (by omega)) hT
    · exact yGs_c (H := H) ⟨fun p k hp => b3 p k (fun h9 => by have := (yWx_0 hp).2.2; omega), fun p k _ => congrFun (congrFun b4 p) k⟩ ⟨fun p k hp => b3 p k (yRx_0 hp).2.2.2.2.1, congrFun (congrFun b4 72) 12⟩ hq
end
section
/-! ===== slate ===== -/
def zm_106 : za_MI := (yL_slate, method_6_code, 5, (some FieldType.int), 13, 2, 12, [(0, 10, 13, 18)], za_i106)
theorem zm_106_t : za_MT 106 = some zm_106 := rfl
def zm_209 : za_MI := (yX12_slate, prog_14_method_50_code, 3, (some FieldType.int), 12, 0, 0, [], za_i209)
theorem zm_209_t : za_MT 209 = some zm_209 := rfl
end
