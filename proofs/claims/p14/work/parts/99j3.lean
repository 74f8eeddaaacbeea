/-! ===== feed, sea: the chalk ===== -/
def yfG : List (Nat × Nat) := [(11, 3), (11, 4), (11, 10), (12, 5), (12, 62), (12, 80), (12, 81), (12, 1), (12, 2), (12, 7)]
theorem ykS_gc_t : ykS [] yfG ykS_fc = true := by decide +kernel
theorem ykS_gr_t : ykS [] yfG ykS_fr = true := by decide +kernel
theorem yfG_k {L : Nat} {σ : Nat → Int32} {S : List Nat} {j d : Nat} {as : List zp_V} {H : zp_H} {X : zp_X} (hS : ykS [] yfG S = true) (hj : j ∈ S) (hs : H.1 = zB_sh) (h : zp_Call L σ d j as H X) : (X.2.2.1 0 3 = H.2.1 0 3 ∧ X.2.2.1 0 4 = H.2.1 0 4 ∧ X.2.2.1 0 10 = H.2.1 0 10) ∧ X.2.2.1 72 5 = H.2.1 72 5 ∧ X.2.2.1 72 62 = H.2.1 72 62 ∧ X.2.2.1 72 80 = H.2.1 72 80 ∧ X.2.2.1 72 81 = H.2.1 72 81 ∧ X.2.2.1 72 1 = H.2.1 72 1 ∧ X.2.2.1 72 2 = H.2.1 72 2 ∧ X.2.2.1 72 7 = H.2.1 72 7 := by
  have k := ykF_call hS _ _ _ _ _ hj h
  exact ⟨⟨(k.2.1 (11, 3) (by decide) 0 (by rw [hs]; rfl)).1, (k.2.1 (11, 4) (by decide) 0 (by rw [hs]; rfl)).1, (k.2.1 (11, 10) (by decide) 0 (by rw [hs]; rfl)).1⟩, (k.2.1 (12, 5) (by decide) 72 (by rw [hs]; rfl)).1, (k.2.1 (12, 62) (by decide) 72 (by rw [hs]; rfl)).1, (k.2.1 (12, 80) (by decide) 72 (by rw [hs]; rfl)).1, (k.2.1 (12, 81) (by decide) 72 (by rw [hs]; rfl)).1, (k.2.1 (12, 1) (by decide) 72 (by rw [hs]; rfl)).1, (k.2.1 (12, 2) (by decide) 72 (by rw [hs]; rfl)).1, (k.2.1 (12, 7) (by decide) 72 (by rw [hs]; rfl)).1⟩
theorem yCx_3 {p k : Nat} (h : yCx (p, k) = true) : (p = 0 ∧ (k = 3 ∨ k = 4 ∨ k = 10)) ∨ (p ≠ 0 ∧ p ≠ 1 ∧ p < 72) := by
  rcases Bool.or_eq_true_iff.mp h with h | h
  · rcases Bool.or_eq_true_iff.mp h with h | h
    · obtain ⟨a, b⟩ := Bool.and_eq_true_iff.mp h
      have a : 13 ≤ p := Nat.le_of_ble_eq_true a
      have b : p ≤ 21 := Nat.le_of_ble_eq_true b
      omega
    · obtain ⟨a, b⟩ := Bool.and_eq_true_iff.mp h
      have a : 33 ≤ p := Nat.le_of_ble_eq_true a
      have b : p ≤ 50 := Nat.le_of_ble_eq_true b
      omega
  · obtain ⟨a, b⟩ := Bool.and_eq_true_iff.mp h
    refine Or.inl ⟨za_beq a, ?_⟩
    rcases Bool.or_eq_true_iff.mp b with b | b
    · exact Or.inl (za_beq b)
    rcases Bool.or_eq_true_iff.mp b with b | b
    · exact Or.inr (Or.inl (za_beq b))
    · exact Or.inr (Or.inr (za_beq b))
theorem yDx_3 {p k : Nat} (h : yDx (p, k) = true) : (p = 72 ∧ ((k = 1 ∨ k = 2 ∨ k = 7) ∨ k = 5 ∨ k = 62 ∨ k = 80 ∨ k = 81)) ∨ (72 < p ∧ p ≠ 81) := by
  have h9 := yDx_0 h
  by_cases hp : p = 72
  · refine Or.inl ⟨hp, ?_⟩
    subst hp
    rcases Bool.or_eq_true_iff.mp h with h | h
    · have b := (Bool.and_eq_true_iff.mp h).2
      rcases Bool.or_eq_true_iff.mp b with b | b
      · exact Or.inl (Or.inl (za_beq b))
      rcases Bool.or_eq_true_iff.mp b with b | b
      · exact Or.inl (Or.inr (Or.inl (za_beq b)))
      rcases Bool.or_eq_true_iff.mp b with b | b
      · exact Or.inl (Or.inr (Or.inr (za_beq b)))
      refine Or.inr ?_
      rcases Bool.or_eq_true_iff.mp b with b | b
      · exact Or.inl (za_beq b)
      rcases Bool.or_eq_true_iff.mp b with b | b
      · exact Or.inr (Or.inl (za_beq b))
      rcases Bool.or_eq_true_iff.mp b with b | b
      · exact Or.inr (Or.inr (Or.inl (za_beq b)))
      · exact Or.inr (Or.inr (Or.inr (za_beq b)))
    · exact absurd (show false = true from h) (by decide)
  · exact Or.inr ⟨by omega, h9.2.2.2.2.2⟩
theorem yp_feed {L : Nat} {σ : Nat → Int32} {d c t : Nat} {H : zp_H} {x1 x2 x3 x4 x5 : Int32} (hJ : yJ c t H) : ∃ H1 H2 v w t', zp_Call L σ (d + 60) 17 [.inr (.inr (some 1)), .inl x1, .inl x2, .inl x3, .inl x4, .inl x5] H (.inl (some (.inl v)), H1) ∧ zp_Call L σ (d + 60) 167 [.inr (.inr (some 73)), .inl x1, .inl x2, .inl x3, .inl x4, .inl x5] H1 (.inl (some (.inl w)), H2) ∧ v.toInt = w.toInt ∧ H1.1 = zB_sh ∧ yJ c t' H2 := by
  have hI := hJ.1
  have hG := hJ.2
  obtain ⟨H1, H2, v, w, t', c1, c2, hv, hW, hI2⟩ := zo_feed (L := L) (σ := σ) (d := d) (x1 := x1) (x2 := x2) (x3 := x3) (x4 := x4) (x5 := x5) hI.1
  obtain ⟨⟨h1, h2, h3, h4, h5, h6⟩, hT, hq⟩ := hI
  have W := zB_Wd (zB_dn (zB_Bc h1))
  have n1 := yfG_k ykS_gc_t (by decide) W.1 c1
  have n2 := yfG_k ykS_gr_t (by decide) hW c2
  have l1 := yfJ ykS_fc_t (by decide) W.1 c1
  have l2 := yfJ ykS_fr_t (by decide) hW c2
  obtain ⟨_, e1, H1', u1, rfl, W1, k1, k2⟩ := yfC_feed (L := L) (σ := σ) (d := d + 58) (x1 := x1) (x2 := x2) (x3 := x3) (x4 := x4) (x5 := x5) W h3 (by omega)
  obtain ⟨e9, rfl⟩ : _ ∧ H1' = H1 := by
    have e9 := zp_Call_u e1 c1
    cases e9
    exact ⟨trivial, rfl⟩
  by_cases hn : 20 * t + 20 ≤ 700
  · obtain ⟨A1, A2, A3, A4, a1, a2, a3, a4, a5⟩ := k1 hn
    have f1 : ∀ p k, p ≠ 0 → p ≠ 1 → H1'.2.1 p k = H.2.1 p k := fun p k p0 p1 => (a5.2.2.2 p k p0 p1).trans ((a4.2.2.2 p k p0 p1).trans ((a3.2.2.2 p k p0 p1).trans ((a2.2.2.2 p k p0 p1).trans (a1.2.2.2 p k p0 p1))))
    obtain ⟨_, e2, H2', u2, rfl, W2, m1, m2⟩ := yfR_feed (L := L) (σ := σ) (d := d + 58) (x1 := x1) (x2 := x2) (x3 := x3) (x4 := x4) (x5 := x5) (n := 20 * t) W1 (by rw [f1 72 22 (by decide) (by decide)]; exact h4) (by omega)
    obtain ⟨e9, rfl⟩ : _ ∧ H2' = H2 := by
      have e9 := zp_Call_u e2 c2
      cases e9
      exact ⟨trivial, rfl⟩
    obtain ⟨B1, B2, B3, B4, b1, b2, b3, b4, b5⟩ := m1 hn
    have g0 : ∀ p k, p ≠ 72 → p ≠ 81 → H2'.2.1 p k = H1'.2.1 p k := fun p k p0 p1 => (b5.2.2.2 p k p0 p1).trans ((b4.2.2.2 p k p0 p1).trans ((b3.2.2.2 p k p0 p1).trans ((b2.2.2.2 p k p0 p1).trans ((b1.2.2.2 p k p0 p1).trans (y_ne (fun h9 => p0 h9.1))))))
    have T0 : yTp (20 * t) H (zw_I H1' 72 0 (Int32.ofInt 0)) := yTp_c (H := H) (K := H) (fun _ => rfl) (fun k => (y_ne (fun h9 => absurd h9.1 (by decide))).trans (f1 81 k (by decide) (by decide))) hT
    have T5 := yTp_s (yTp_s (yTp_s (yTp_s (yTp_s T0 a1 b1) a2 b2) a3 b3) a4 b4) a5 b5
    have e01 : (H2'.2.1 0 1).toInt = 20 * t + 16 + 4 := by
      rw [g0 0 1 (by decide) (by decide)]
      exact a5.1
    have et : 20 * t' = 20 * t + 16 + 4 := by
      have := hI2.2.2.1
      omega
    refine ⟨H1', H2', _, _, t', c1, c2, hv, hW, ⟨hI2, ?_, ?_⟩, ?_⟩
    rotate_left 2
    · exact yGc_c (fun p k hp => by
        rcases yCx_3 hp with ⟨rfl, h9⟩ | ⟨q1, q2, q3⟩
        · rcases h9 with rfl | rfl | rfl
          · exact n2.1.1.trans n1.1.1
          · exact n2.1.2.1.trans n1.1.2.1
          · exact n2.1.2.2.trans n1.1.2.2
        · exact (g0 p k (by omega) (by omega)).trans (f1 p k q1 q2)) (fun p k hp => by
        rcases yDx_3 hp with ⟨rfl, h9⟩ | ⟨q1, q2⟩
        · rcases h9 with (rfl | rfl | rfl) | rfl | rfl | rfl | rfl
          · exact n2.2.2.2.2.2.1.trans n1.2.2.2.2.2.1
          · exact n2.2.2.2.2.2.2.1.trans n1.2.2.2.2.2.2.1
          · exact n2.2.2.2.2.2.2.2.trans n1.2.2.2.2.2.2.2
          · exact n2.2.1.trans n1.2.1
          · exact n2.2.2.1.trans n1.2.2.1
          · exact n2.2.2.2.1.trans n1.2.2.2.1
          · exact n2.2.2.2.2.1.trans n1.2.2.2.2.1
        · exact (g0 p k (by omega) q2).trans (f1 p k (by omega) (by omega))) hG
    · rw [et]
      exact yTp_c (fun k => g0 1 k (by decide) (by decide)) (fun _ => rfl) T5
    · refine yGs_c (H := H) ⟨fun p k hp => (g0 p k (by have := (yWx_0 hp).2.2; omega) (by have := (yWx_0 hp).2.2; omega)).trans (f1 p k (yWx_0 hp).1 (yWx_0 hp).2.1), fun p k hp => (l2.1 p k hp).trans (l1.1 p k hp)⟩ ⟨fun p k hp => ?_, l2.2.2.trans l1.2.2⟩ hq
      have p0 := (yRx_0 hp).1
      rcases yRx_s hp with ⟨rfl, j1, j2⟩ | ⟨p1, p2⟩
      · exact (l2.2.1 k j1 j2).trans (f1 72 k (by decide) (by decide))
      · exact (g0 p k p1 p2).trans (f1 p k (by omega) (by omega))
  · obtain rfl := k2 hn
    obtain ⟨_, e2, H2', u2, rfl, W2, m1, m2⟩ := yfR_feed (L := L) (σ := σ) (d := d + 58) (x1 := x1) (x2 := x2) (x3 := x3) (x4 := x4) (x5 := x5) (n := 20 * t) W1 h4 (by omega)
    obtain ⟨e9, rfl⟩ : _ ∧ H2' = H2 := by
      have e9 := zp_Call_u e2 c2
      cases e9
      exact ⟨trivial, rfl⟩
    obtain rfl := m2 hn
    have e01 : ((zw_I H1' 72 0 (Int32.ofInt 0)).2.1 0 1).toInt = 20 * t := (congrArg Int32.toInt (zw_ne rfl rfl)).trans (by rw [h3]; omega)
    have et : 20 * t' = 20 * t := by
      have := hI2.2.2.1
      omega
    refine ⟨H1', _, _, _, t', c1, c2, hv, hW, ⟨hI2, ?_, ?_⟩, ?_⟩
    rotate_left 2
    · exact yGc_c (H := H1') (fun p k hp => y_ne (fun h9 => by have := (yCx_0 hp).1; omega)) (fun p k hp => y_ne (yDx_0 hp).2.2.2.1) hG
    · rw [et]
      exact yTp_c (H := H1') (K := H1') (fun k => y_ne (fun h9 => absurd h9.1 (by decide))) (fun k => y_ne (fun h9 => absurd h9.1 (by decide))) hT
    · exact yGs_c (H := H1') ⟨fun p k hp => y_ne (fun h9 => by have := (yWx_0 hp).2.2; omega), fun _ _ _ => rfl⟩ ⟨fun p k hp => y_ne (fun h9 => (yRx_0 hp).2.2.2.2.1 h9), rfl⟩ hq
theorem ykb_c {c p : Nat} (h1 : ycp c ≤ p) (h2 : p ≤ ycp c + 8) : ykb c p = true := Bool.or_eq_true_iff.mpr (Or.inr (Bool.or_eq_true_iff.mpr (Or.inl (Bool.and_eq_true_iff.mpr ⟨Nat.ble_eq_true_of_le h1, Nat.ble_eq_true_of_le h2⟩))))
theorem ykb_i {c p : Nat} (h1 : 42 ≤ p) (h2 : p ≤ 42 + 8) : ykb c p = true := Bool.or_eq_true_iff.mpr (Or.inr (Bool.or_eq_true_iff.mpr (Or.inr (Bool.and_eq_true_iff.mpr ⟨Nat.ble_eq_true_of_le h1, Nat.ble_eq_true_of_le h2⟩))))
theorem yDx_Qb {p k : Nat} (h : yDx (p, k) = true) : yQb (p, k) = true := by
  rcases yDx_3 h with ⟨rfl, h9⟩ | ⟨q1, q2⟩
  · rcases h9 with (rfl | rfl | rfl) | rfl | rfl | rfl | rfl <;> rfl
  · rcases Bool.or_eq_true_iff.mp h with h | h
    · have a : p = 72 := za_beq (Bool.and_eq_true_iff.mp h).1
      omega
    rcases Bool.or_eq_true_iff.mp h with h | h
    · rcases Bool.or_eq_true_iff.mp h with h | h
      · have a : p = 74 := za_beq h
        subst a
        exact Bool.or_true _
      rcases Bool.or_eq_true_iff.mp h with h | h
      · have a : p = 75 := za_beq h
        subst a
        exact Bool.or_true _
      · have a : p = 77 := za_beq h
        subst a
        exact Bool.or_true _
    rcases Bool.or_eq_true_iff.mp h with h | h
    · have a : p = 82 := za_beq h
      subst a
      exact Bool.or_true _
    rcases Bool.or_eq_true_iff.mp h with h | h
    · have a : p = 93 := za_beq h
      subst a
      exact Bool.or_true _
    · obtain ⟨a, b⟩ := Bool.and_eq_true_iff.mp h
      have a : 101 ≤ p := Nat.le_of_ble_eq_true a
      refine Bool.or_eq_true_iff.mpr (Or.inr (Bool.or_eq_true_iff.mpr (Or.inr (Bool.or_eq_true_iff.mpr (Or.inr (Bool.or_eq_true_iff.mpr (Or.inr (Bool.and_eq_true_iff.mpr ⟨Nat.ble_eq_true_of_le ?_, b⟩))))))))
      show 98 ≤ p
      omega
/-- what a text told of the slates -/
theorem xKd_of {cp wp : Nat} {d : yLD} {K H : zp_H} (hw : ∀ p k, p < 72 → H.2.1 p k = K.2.1 p k ∧ H.2.2.1 p k = K.2.2.1 p k) (hcp : cp = 13 ∨ cp = 33) (hO : yOK d) (hP : yPs d) (hD : yDd wp cp d K) (hZ : yZr d H) (h7 : (K.2.1 cp 7).toInt = 0) (h62 : (H.2.1 72 62).toInt = 0) : ∃ A, xKw A ∧ yHc cp A H ∧ yHr 74 75 93 62 A H := by
  obtain ⟨⟨o4, o5, o6, o7⟩, o20, o100, o200, o500, o600, o700⟩ := hO
  have told : ∀ i, 20 ≤ i → yInb i → yFl d i → K.2.1 (yLc wp cp i).1 (yLc wp cp i).2 = H.2.1 (yRc i).1 (yRc i).2 := fun i h20 hb hf => Int32.toInt_inj.mp ((hD.2 i h20 hf List.not_mem_nil).trans (hZ.2.2.2.2.2.2.2.2 i hb hf).symm)
  have wx : ∀ j k, j ≤ 8 → H.2.1 (cp + j) k = K.2.1 (cp + j) k := fun j k hj => (hw _ k (by omega)).1
  obtain ⟨z1, z2, z3, z5, z6, z7, z8, zl, zz⟩ := hZ
  obtain ⟨⟨d0, d1, d4, -⟩, dX⟩ := hD
  refine ⟨((d.1 4).toNat, 0, fun s w => H.2.1 74 (4 * s + w), fun s j w => H.2.1 75 (16 * s + 2 * j + w), fun k w => H.2.1 93 (2 * k + w)), ⟨by show (d.1 4).toNat ≤ 8; omega, Nat.zero_le _, fun s hs => ?_, fun k hk => absurd hk (Nat.not_lt_zero _), fun s j hs hj => ?_⟩, ⟨?_, ?_, fun s w hs hw' => ?_, fun s j w hs hj hw' => ?_, fun k w hk => absurd hk (Nat.not_lt_zero _)⟩, ⟨?_, h62, fun _ _ _ _ => rfl, fun _ _ _ _ _ _ => rfl, fun k w hk => absurd hk (Nat.not_lt_zero _)⟩⟩
  · have hs : s < (d.1 4).toNat := hs
    obtain ⟨a, -, -, f2, -, e, a0, a8, -⟩ := o200 s (by omega)
    have h := zz (220 + s) (by unfold yInb; omega) f2
    rw [yr220 (by omega)] at h
    show 0 ≤ (H.2.1 74 (4 * s + 2)).toInt ∧ (H.2.1 74 (4 * s + 2)).toInt ≤ 8
    have h : (H.2.1 74 (4 * s + 2)).toInt = d.1 (220 + s) := h
    omega
  · have hs : s < (d.1 4).toNat := hs
    obtain ⟨a, -, -, f2, -, e, a0, a8, fm⟩ := o200 s (by omega)
    have h := zz (220 + s) (by unfold yInb; omega) f2
    rw [yr220 (by omega)] at h
    have h : (H.2.1 74 (4 * s + 2)).toInt = d.1 (220 + s) := h
    have hj : j < (H.2.1 74 (4 * s + 2)).toInt.toNat := hj
    obtain ⟨m0, m1⟩ := fm j (by omega)
    have h9 := zz (400 + (8 * s + j)) (by unfold yInb; omega) m1
    rw [yr400 (by omega)] at h9
    have h9 : (H.2.1 75 (2 * (8 * s + j) + 1)).toInt = d.1 (400 + (8 * s + j)) := h9
    have h8 := hP (400 + (8 * s + j)) (by omega) (by omega) m1
    show 1 ≤ (H.2.1 75 (16 * s + 2 * j + 1)).toInt ∧ (H.2.1 75 (16 * s + 2 * j + 1)).toInt ≤ 9
    rw [show 16 * s + 2 * j + 1 = 2 * (8 * s + j) + 1 by omega]
    omega
  · have e := wx 0 0 (by decide)
    have e : H.2.1 cp 0 = K.2.1 cp 0 := e
    rw [e]
    show (K.2.1 cp 0).toInt = ((d.1 4).toNat : Nat)
    omega
  · have e := wx 0 7 (by decide)
    have e : H.2.1 cp 7 = K.2.1 cp 7 := e
    rw [e]
    exact h7
  · have hs : s < (d.1 4).toNat := hs
    obtain ⟨a, f0, f1, f2, f3, -⟩ := o200 s (by omega)
    show H.2.1 (cp + 1 + w) s = H.2.1 74 (4 * s + w)
    rcases (show w = 0 ∨ w = 1 ∨ w = 2 ∨ w = 3 by omega) with rfl | rfl | rfl | rfl
    · have h := told (200 + s) (by omega) (by unfold yInb; omega) f0
      rw [yl200, yr200 (by omega)] at h
      · exact (wx 1 s (by decide)).trans h
      · omega
    · have h := told (210 + s) (by omega) (by unfold yInb; omega) f1
      rw [yl210, yr210 (by omega)] at h
      · exact (wx 2 s (by decide)).trans h
      · omega
    · have h := told (220 + s) (by omega) (by unfold yInb; omega) f2
      rw [yl220, yr220 (by omega)] at h
      · exact (wx 3 s (by decide)).trans h
      · omega
    · have h := told (230 + s) (by omega) (by unfold yInb; omega) f3
      rw [yl230, yr230 (by omega)] at h
      · exact (wx 4 s (by decide)).trans h
      · omega
  · have hs : s < (d.1 4).toNat := hs
    obtain ⟨a, -, -, f2, -, e, a0, a8, fm⟩ := o200 s (by omega)
    have h := zz (220 + s) (by unfold yInb; omega) f2
    rw [yr220 (by omega)] at h
    have h : (H.2.1 74 (4 * s + 2)).toInt = d.1 (220 + s) := h
    have hj : j < (H.2.1 74 (4 * s + 2)).toInt.toNat := hj
    obtain ⟨m0, m1⟩ := fm j (by omega)
    show H.2.1 (cp + 5 + w) (8 * s + j) = H.2.1 75 (16 * s + 2 * j + w)
    rcases (show w = 0 ∨ w = 1 by omega) with rfl | rfl
    · have h := told (300 + (8 * s + j)) (by omega) (by unfold yInb; omega) m0
      rw [yl300, yr300 (by omega)] at h
      · exact (wx 5 _ (by decide)).trans (h.trans (congrArg (H.2.1 75) (by omega)))
      · omega
    · have h := told (400 + (8 * s + j)) (by omega) (by unfold yInb; omega) m1
      rw [yl400, yr400 (by omega)] at h
      · exact (wx 6 _ (by decide)).trans (h.trans (congrArg (H.2.1 75) (by omega)))
      · omega
  · show (H.2.1 72 5).toInt = ((d.1 4).toNat : Nat)
    omega
/-- what a text told lies within its sea -/
theorem yGr_of {d : yLD} {H : zp_H} (hC : yCl d) (hO : yOK d) (hZ : yZr d H) (h80 : (H.2.1 72 80).toInt = 0) : yGr H := by
  obtain ⟨⟨o4, o5, o6, o7⟩, o20, o100, o200, o500, o600, o700⟩ := hO
  obtain ⟨z1, z2, z3, z5, z6, z7, z8, zl, zz⟩ := hZ
  obtain ⟨c1, c2, c3⟩ := hC
  refine ⟨fun s hs => ?_, fun hn => absurd h80 hn, fun p hp => ?_⟩
  · obtain ⟨a, f0, -⟩ := o200 s (by omega)
    have h := zz (200 + s) (by unfold yInb; omega) f0
    rw [yr200 (by omega)] at h
    have h : (H.2.1 74 (4 * s)).toInt = d.1 (200 + s) := h
    rw [h, z1, z2]
    exact c2 s (by omega)
  · obtain ⟨f0, -⟩ := o600 p (by omega)
    have h := zz (600 + p) (by unfold yInb; omega) f0
    rw [yr600 (by omega)] at h
    have h : (H.2.1 77 (3 * p)).toInt = d.1 (600 + p) := h
    rw [h, z1, z2]
    exact c3 p (by omega)
theorem yp_sea {L : Nat} {σ : Nat → Int32} {d c t : Nat} {H : zp_H} {x : Int32} (hJ : yJ c t H) : ∃ H1 H2 v w c' t', zp_Call L σ (d + 60) 48 [.inr (.inr (some 1)), .inl x, .inr (.inr (some 105))] H (.inl (some (.inl v)), H1) ∧ zp_Call L σ (d + 60) 169 [.inr (.inr (some 73)), .inl x] H1 (.inl (some (.inl w)), H2) ∧ H1.1 = zB_sh ∧ yJ c' t' H2 ∧ (H2.2.1 72 0).toInt = v.toInt ∧ (v.toInt = 0 → H2.2.2.1 104 0 = w.toInt64) := by
  obtain ⟨⟨hz, hT, hq⟩, hG⟩ := hJ
  by_cases hx : 0 ≤ x.toInt ∧ x.toInt ≤ (H.2.1 0 1).toInt
  · obtain ⟨_, c1, v, H1, c', rfl, c2, c3, c4, c5⟩ := zo_seaY (L := L) (σ := σ) (d := d) hz hx
    obtain ⟨h1, h2, h3, h4, h5, h6⟩ := hz
    have hxn : x.toInt = (x.toInt.toNat : Nat) := by omega
    obtain ⟨_, b1, K, u, rfl, u', K', e9, r, r1, r2, r7, r8⟩ := yo_seaX (L := L) (σ := σ) (d := d) (T := fun k => (H.2.1 1 k).toInt) (n := x.toInt.toNat) h6 h1 (by omega) hxn (fun _ _ => rfl) hx
    cases e9
    have e8 := zp_Call_u b1 c1
    cases e8
    have b2 : zk_Bs z0R zg zJ (zw_J K 104 0 u.toInt64) := zI_R h2 c3.1 (zI_rf c3) c4
    have e22 := (c4 72 22 (by decide) (by decide) (by decide)).1
    obtain ⟨_, a1, H2, w, rfl, a2, a3, a4, ⟨r', r3, r4, r5, r6⟩, a5⟩ := ysr_yes (L := L) (σ := σ) (d := d + 47) (x := x) (Tx := fun k => (H.2.1 1 k).toInt) (nx := x.toInt.toNat) (fun k hk => (hT k (by omega)).2) b2 hxn (fun k hk => by
      rw [(c4 81 k (by decide) (by decide) (fun h9 => absurd h9.1 (by decide))).1]
      exact (hT k (by omega)).1) (by rw [e22, h4, ← h3]; exact hx)
    obtain rfl := yA2_u r1 r3
    have e104 := ykF_sea (zB_Wd (zB_dn (zB_Bc c3))) a1 0
    have ew : (Int32.ofInt 0 : Int32).toInt = 0 → H2.2.2.1 104 0 = w.toInt64 := fun _ => by
      rw [e104]
      have ew : u = w := Int32.toInt_inj.mp (by rw [r2, r4])
      rw [← ew]
      rfl
    have hTT : yTp (20 * 0) H2 H2 := fun k hk => absurd hk (Nat.not_lt_zero _)
    have e1 : (H2.2.1 0 1).toInt = (20 * 0 : Nat) := by
      rw [(a3.2 0 1 (by decide)).1]
      exact c5
    by_cases h0 : r.1 = 0
    · obtain ⟨-, m10, m3, hcf, m4, m7, d9, q9, s1, s2, s3⟩ := r7 h0
      obtain ⟨-, n80, n62, n82, d8, q8, s4, s5, s6⟩ := r6 h0
      obtain rfl := yR2_e s1 s4 s2 s5
      have hc3 : 3 - c = 0 ∨ 3 - c = 3 := by have := hq.1; omega
      have ecc : c' = 3 - c := yCf_u c2 (by omega) (yCf_B c2 c3) hcf
      subst ecc
      have hKH : ∀ p k, p < 72 → H2.2.1 p k = K.2.1 p k ∧ H2.2.2.1 p k = K.2.2.1 p k := fun p k hp => ⟨(a3.2 p k hp).1, (a3.2 p k hp).2.trans (zp_u_ne (fun h9 => by have := h9.1; omega))⟩
      refine ⟨_, H2, _, w, _, 0, c1, a1, c3.1, ⟨⟨⟨zI_B c3 a2.1 a3, zR_dn a2, e1, a4, by decide, c2⟩, hTT, yGs_of (K := K) hc3 (fun p k hp => ⟨(a3.2 p k hp).1, (a3.2 p k hp).2.trans (zp_u_ne (fun h9 => by have := h9.1; omega))⟩) (yOK_end s1) s3 s6⟩, xKd_of (K := K) hKH (ycp_x _) (yOK_end s1) (yPs_end s1) s3 s6 (m7 hq.1) n62, ?_, fun hn => ?_, ?_, ?_, yGr_of (yCl_end s1) (yOK_end s1) s6 n80⟩, a5, ew⟩
      · refine Int32.toInt_inj.mp ?_
        rw [(hKH 0 10 (by decide)).1, m10, n80]
      · rw [(hKH 0 10 (by decide)).1, m10] at hn
        exact absurd rfl hn
      · rw [(hKH 0 3 (by decide)).1, m3, n82, (c4 82 0 (by decide) (by decide) (by decide)).1]
        exact hG.2.2.2.1
      · rw [(hKH 0 4 (by decide)).1, m4, n82, (c4 82 1 (by decide) (by decide) (by decide)).1]
        exact hG.2.2.2.2.1
    · obtain ⟨-, m10, m3, hk, hcf, m4⟩ := r8 h0
      obtain ⟨-, f1, f2, n820, n821⟩ := r5 h0
      have ecc : c' = c := yCf_u c2 h6 (yCf_B c2 c3) hcf
      rw [ecc] at c2 c3
      have kK : ∀ p k, ykb c p = true → H2.2.1 p k = H.2.1 p k := fun p k hp => (a3.2 p k (by have := (ykb_0 hp).2; omega)).1.trans (hk p k hp).1
      have kR : ∀ p k, yDx (p, k) = true → p ≠ 82 → H2.2.1 p k = H.2.1 p k := fun p k hp h82 => (f1 p k (yDx_Qb hp) h82).trans (c4 p k (yDx_0 hp).1 (yDx_0 hp).2.1 (yDx_0 hp).2.2.1).1
      have k10 : H2.2.1 0 10 = H.2.1 0 10 := (a3.2 0 10 (by decide)).1.trans m10
      obtain ⟨⟨A, b1, b2, b3⟩, g1, g2, g3, g4, g5⟩ := hG
      refine ⟨_, H2, _, w, _, 0, c1, a1, c3.1, ⟨⟨⟨zI_B c3 a2.1 a3, zR_dn a2, e1, a4, by decide, c2⟩, hTT, yGs_k (fun p k hp => ⟨(a3.2 p k (by have := (ykb_0 hp).2; omega)).1.trans (hk p k hp).1, (a3.2 p k (by have := (ykb_0 hp).2; omega)).2.trans ((zp_u_ne (fun h9 => by have := (ykb_0 hp).2; have := h9.1; omega)).trans (hk p k hp).2)⟩) ⟨fun p k hp => (f1 p k (yRx_Qb hp) (yRx_82 hp)).trans (c4 p k (yRx_0 hp).1 (yRx_0 hp).2.1 (yRx_0 hp).2.2.2.1).1, f2.trans (c4 72 12 (by decide) (by decide) (by decide)).2⟩ hq⟩, ⟨A, b1, yHc_c (fun p k p1 p2 => kK p k (ykb_c p1 p2)) b2, yHr_c (kR 72 5 rfl (by decide)) (kR 72 62 rfl (by decide)) (fun k => kR 74 k rfl (by decide)) (fun k => kR 75 k rfl (by decide)) (fun k => kR 93 k rfl (by decide)) b3⟩, ?_, fun hn => ?_, ?_, ?_, yGr_k (kR 72 1 rfl (by decide)) (kR 72 2 rfl (by decide)) (kR 72 5 rfl (by decide)) (kR 72 7 rfl (by decide)) (fun s hs => by rw [kR 74 (4 * s) rfl (by decide)]; exact g5.1 s hs) (fun hn s hs => by rw [kR 101 (4 * s) rfl (by decide)]; exact g5.2.1 (by rw [← kR 72 80 rfl (by decide)]; exact hn) s hs) (fun k => kR 77 k rfl (by decide)) g5⟩, a5, ew⟩
      · rw [k10, kR 72 80 rfl (by decide)]; exact g1
      · rw [k10] at hn
        obtain ⟨B, d1, d2, d3⟩ := g2 hn
        exact ⟨B, d1, yHc_c (fun p k p1 p2 => kK p k (ykb_i p1 p2)) d2, yHr_c (kR 72 5 rfl (by decide)) (kR 72 81 rfl (by decide)) (fun k => kR 101 k rfl (by decide)) (fun k => kR 102 k rfl (by decide)) (fun k => kR 103 k rfl (by decide)) d3⟩
      · rw [(a3.2 0 3 (by decide)).1, n820, (c4 82 0 (by decide) (by decide) (by decide)).1, ← g3]
        exact m3
      · rw [(a3.2 0 4 (by decide)).1, n821, (c4 82 1 (by decide) (by decide) (by decide)).1, ← g4]
        exact m4
  · have c1 := zo_seaN (L := L) (σ := σ) (d := d + 58) hz hx
    obtain ⟨h1, h2, h3, h4, h5, h6⟩ := hz
    obtain ⟨_, a1, H2, w, rfl, a2, a3, a4⟩ := z0se_no (L := L) (σ := σ) (d := d + 58) (x := x) h2 (by rw [h4, ← h3]; exact hx)
    obtain ⟨_, b1, H2', w', rfl, b2, b4, b3⟩ := ysr_no (L := L) (σ := σ) (d := d + 58) (x := x) (zB_Wd (zB_dn (zB_Bc h1))) (by rw [h4, ← h3]; exact hx)
    have e9 := zp_Call_u b1 a1
    cases e9
    refine ⟨H, H2, _, w, c, t, c1, a1, h1.1, ⟨⟨zI_af ⟨h1, h2, h3, h4, h5, h6⟩ a2 a3 a4, ?_, ?_⟩, yGc_c (H := H) (fun p k hp => b3 p k (fun h9 => by have := (yCx_0 hp).1; omega)) (fun p k hp => b3 p k (yDx_0 hp).2.2.2.1) hG⟩, b2, fun h9 => absurd h9 (by decide)⟩
    · exact yTp_c (H := H) (K := H) (fun k => b3 1 k (by omega)) (fun k => b3 81 k (by omega)) hT
    · exact yGs_c (H := H) ⟨fun p k hp => b3 p k (fun h9 => by have := (yWx_0 hp).2.2; omega), fun p k _ => congrFun (congrFun b4 p) k⟩ ⟨fun p k hp => b3 p k (yRx_0 hp).2.2.2.2.1, congrFun (congrFun b4 72) 12⟩ hq
