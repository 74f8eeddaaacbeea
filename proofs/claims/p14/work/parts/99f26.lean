/-! ===== what reading leaves untouched in the reference ===== -/
def yQb (q : Nat × Nat) : Bool := ((Nat.beq q.1 72).and (((Nat.ble 1 q.2).and (Nat.ble q.2 21)).or ((Nat.beq q.2 62).or ((Nat.ble 79 q.2).and (Nat.ble q.2 81))))).or (((Nat.ble 73 q.1).and (Nat.ble q.1 80)).or ((Nat.beq q.1 82).or ((Nat.beq q.1 93).or ((Nat.ble 98 q.1).and (Nat.ble q.1 103)))))
theorem yQb_0 {p k : Nat} (h : yQb (p, k) = true) : 72 ≤ p ∧ ¬ (p = 72 ∧ k = 100) ∧ p ≠ 83 ∧ p ≠ 81 := by
  rcases Bool.or_eq_true_iff.mp h with h | h
  · obtain ⟨a, b⟩ := Bool.and_eq_true_iff.mp h
    have a : p = 72 := za_beq a
    refine ⟨by omega, fun h9 => ?_, by omega, by omega⟩
    have e := h9.2
    subst e
    exact absurd (show false = true from b) (by decide)
  rcases Bool.or_eq_true_iff.mp h with h | h
  · obtain ⟨a, b⟩ := Bool.and_eq_true_iff.mp h
    have a : 73 ≤ p := Nat.le_of_ble_eq_true a
    have b : p ≤ 80 := Nat.le_of_ble_eq_true b
    omega
  rcases Bool.or_eq_true_iff.mp h with h | h
  · have a : p = 82 := za_beq h
    omega
  rcases Bool.or_eq_true_iff.mp h with h | h
  · have a : p = 93 := za_beq h
    omega
  · obtain ⟨a, b⟩ := Bool.and_eq_true_iff.mp h
    have a : 98 ≤ p := Nat.le_of_ble_eq_true a
    have b : p ≤ 103 := Nat.le_of_ble_eq_true b
    omega
def yQr (H H' : zp_H) : Prop := (∀ p k, yQb (p, k) = true → H'.2.1 p k = H.2.1 p k) ∧ H'.2.2.1 72 12 = H.2.2.1 72 12
theorem yQr_r {H : zp_H} : yQr H H := ⟨fun _ _ _ => rfl, rfl⟩
theorem yQr_t {H H' H'' : zp_H} (h1 : yQr H H') (h2 : yQr H' H'') : yQr H H'' := ⟨fun p k h => (h2.1 p k h).trans (h1.1 p k h), h2.2.trans h1.2⟩
theorem yQr_I {H0 H : zp_H} {p k : Nat} {x : Int32} (h : yQr H0 H) (hp : yQb (p, k) = false) : yQr H0 (zw_I H p k x) := ⟨fun q j hq => (zp_u_ne (fun h9 => by
  obtain ⟨rfl, rfl⟩ := h9
  rw [hp] at hq
  cases hq)).trans (h.1 q j hq), h.2⟩
theorem yQr_J {H0 H : zp_H} {p k : Nat} {x : Int64} (h : yQr H0 H) (hp : (Nat.beq p 72).and (Nat.beq k 12) = false) : yQr H0 (zw_J H p k x) := ⟨h.1, (zp_u_ne (fun h9 => by
  obtain ⟨rfl, rfl⟩ := h9
  cases hp)).trans h.2⟩
theorem yQr_F {mods : List (Nat × Nat)} {am : List Nat} {H H1 : zp_H} (h : zk_Fr zg mods am H H1) (hm : mods.all (fun q => (yQb q).not) = true) (hl : mods.all (fun q => ((Nat.beq q.1 72).and (Nat.beq q.2 12)).not) = true) (ha : am.all (fun q => ((yQb (q, 0)).or (Nat.beq q 72)).not) = true) : yQr H H1 := by
  have na : ∀ p k, yQb (p, k) = true → zk_ina am p = false := fun p k hp => by
    refine zI_na (P := fun q => ((yQb (q, 0)).or (Nat.beq q 72)).not) ha ?_
    show ((yQb (p, 0)).or (Nat.beq p 72)).not = false
    rcases Bool.or_eq_true_iff.mp hp with h | h
    · have e : Nat.beq p 72 = true := (Bool.and_eq_true_iff.mp h).1
      rw [e, Bool.or_true]
      rfl
    · have e : yQb (p, 0) = true := Bool.or_eq_true_iff.mpr (Or.inr h)
      rw [e]
      rfl
  refine ⟨fun p k hp => (zI_in h (zI_nm (P := fun q => (yQb q).not) hm (by show (yQb (p, k)).not = false; rw [hp]; rfl)) (na p k hp) (yQb_0 hp).2.1).1, (zI_in h (zI_nm hl rfl) (na 72 12 rfl) (by decide)).2⟩
/-- a line -/
theorem yQr_line {L : Nat} {σ : Nat → Int32} {d : Nat} {H : zp_H} {X : zp_X} (hB : zk_Bs zR zg zJ H) (h0 : (H.2.1 72 23).toInt = 0) (hJ : zl_J H) (ht : (H.2.1 72 45).toInt ≤ zx_phi H) (c1 : zp_Call L σ d 176 [.inr (.inr (some 73))] H X) : yQr H X.2 := by
  have g := zg_in H
  have g : -1 ≤ zg H ∧ zg H ≤ 20 := g
  have key : ∀ {lo hi : Int} {pr : List (Nat × Nat × Int × Int)} {oc : List zk_Oc}, zk_Ct L σ zR zg zJ (176, [.inr (some (some 73))], [(72, 23, 0, 0), (72, 100, lo, hi)], zr_e38.2.2.2.1, zr_e38.2.2.2.2.1, oc, 12) → lo ≤ zg H ∧ zg H ≤ hi → yQr H X.2 := fun {lo hi pr oc} hct hg => by
    obtain ⟨Y, x1, x2, x3, _⟩ := hct (12 + 0) (Nat.le_add_right 12 0) [.inr (.inr (some 73))] H ⟨rfl, trivial⟩ hB (fun f hf => by
      rcases List.mem_cons.mp hf with rfl | hf
      · exact ⟨by show (0 : Int) ≤ (H.2.1 72 23).toInt; omega, by show (H.2.1 72 23).toInt ≤ (0 : Int); omega⟩
      · rcases List.mem_cons.mp hf with rfl | hf
        · exact hg
        · exact absurd hf List.not_mem_nil)
    obtain rfl := zp_Call_u c1 x1
    exact yQr_F x3 (show zr_e38.2.2.2.1.all (fun q => (yQb q).not) = true by decide +kernel) (show zr_e38.2.2.2.1.all (fun q => ((Nat.beq q.1 72).and (Nat.beq q.2 12)).not) = true by decide +kernel) (show zr_e38.2.2.2.2.1.all (fun q => ((yQb (q, 0)).or (Nat.beq q 72)).not) = true by decide +kernel)
  by_cases h1 : zg H ≤ 15
  · exact key (pr := []) zro_e38 ⟨g.1, h1⟩
  · by_cases h2 : zg H = 16
    · obtain ⟨_, c2, H1, rfl, _, c5⟩ := zl_line16 (L := L) (σ := σ) (d := 0) zx_KWt hB h0 h2 hJ ht
      obtain rfl := zp_Call_u c1 c2
      exact yQr_F c5 (by decide +kernel) (by decide +kernel) (by decide +kernel)
    · exact key (pr := []) zro_e39 ⟨by omega, g.2⟩
