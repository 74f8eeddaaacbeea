/-! ===== acts: both sides alike ===== -/
def yDi (q : Nat × Nat) : Bool := ((Nat.beq q.1 72).and ((Nat.beq q.2 1).or ((Nat.beq q.2 2).or ((Nat.beq q.2 7).or ((Nat.beq q.2 5).or ((Nat.beq q.2 80).or (Nat.beq q.2 81))))))).or ((Nat.beq q.1 77).or ((Nat.ble 101 q.1).and (Nat.ble q.1 103)))
theorem yDi_0 {p k : Nat} (h : yDi (p, k) = true) : ¬ (p = 72 ∧ k = 100) ∧ (p ≠ 72 → yDi (p, 0) = true) ∧ yDx (p, k) = true := by
  rcases Bool.or_eq_true_iff.mp h with h | h
  · obtain ⟨a, b⟩ := Bool.and_eq_true_iff.mp h
    have a : p = 72 := za_beq a
    subst a
    refine ⟨fun h9 => ?_, fun h9 => absurd rfl h9, ?_⟩
    · have e := h9.2
      subst e
      exact absurd (show false = true from b) (by decide)
    · rcases Bool.or_eq_true_iff.mp b with b | b
      · have e : k = 1 := za_beq b
        subst e
        rfl
      rcases Bool.or_eq_true_iff.mp b with b | b
      · have e : k = 2 := za_beq b
        subst e
        rfl
      rcases Bool.or_eq_true_iff.mp b with b | b
      · have e : k = 7 := za_beq b
        subst e
        rfl
      rcases Bool.or_eq_true_iff.mp b with b | b
      · have e : k = 5 := za_beq b
        subst e
        rfl
      rcases Bool.or_eq_true_iff.mp b with b | b
      · have e : k = 80 := za_beq b
        subst e
        rfl
      · have e : k = 81 := za_beq b
        subst e
        rfl
  rcases Bool.or_eq_true_iff.mp h with h | h
  · have a : p = 77 := za_beq h
    subst a
    exact ⟨fun h9 => absurd h9.1 (by decide), fun _ => rfl, rfl⟩
  · obtain ⟨a, b⟩ := Bool.and_eq_true_iff.mp h
    have a' : 101 ≤ p := Nat.le_of_ble_eq_true a
    have b' : p ≤ 103 := Nat.le_of_ble_eq_true b
    refine ⟨fun h9 => by omega, fun _ => Bool.or_eq_true_iff.mpr (Or.inr (Bool.or_eq_true_iff.mpr (Or.inr h))), ?_⟩
    exact Bool.or_eq_true_iff.mpr (Or.inr (Bool.or_eq_true_iff.mpr (Or.inr (Bool.or_eq_true_iff.mpr (Or.inr (Bool.or_eq_true_iff.mpr (Or.inr h)))))))
theorem yKq_g {mods : List (Nat × Nat)} {am : List Nat} {H H1 : zp_H} (h : zk_Fr zg mods am H H1) (hm : mods.all (fun q => (yDi q).not) = true) (ha : am.all (fun q => ((yDi (q, 0)).or (Nat.beq q 72)).not) = true) : yKq yDi H H1 := fun p k hp => (zI_in h (zI_nm (P := fun q => (yDi q).not) hm (by show (yDi (p, k)).not = false; rw [hp]; rfl)) (zI_na (P := fun q => ((yDi (q, 0)).or (Nat.beq q 72)).not) ha (by
  show ((yDi (p, 0)).or (Nat.beq p 72)).not = false
  by_cases h9 : p = 72
  · subst h9
    exact congrArg Bool.not (Bool.or_true _)
  · rw [(yDi_0 hp).2.1 h9]; rfl)) (yDi_0 hp).1).1
def xSm (A A' : xK) : Prop := A'.1 = A.1 ∧ ∀ s, A'.2.2.1 s 0 = A.2.2.1 s 0
theorem xSm_r (A : xK) : xSm A A := ⟨rfl, fun _ => rfl⟩
theorem xSm_2 {f : Nat → Nat → Int32} {s w : Nat} {v : Int32} (hw : 0 ≠ w) (j : Nat) : yU2 f s w v j 0 = f j 0 := if_neg (fun h => hw h.2)
theorem xSm_k {A A' : xK} {s v : Int32} (h : xSm A A') : xSm A (xKk A' s v) := ⟨h.1, h.2⟩
theorem xSm_m {A A' : xK} {s : Nat} {w t : Int32} (h : xSm A A') : xSm A (xKm A' s w t) := ⟨h.1, fun j => (xSm_2 (by decide) j).trans (h.2 j)⟩
theorem xSm_w {A A' : xK} {s : Nat} {v : Int32} (h : xSm A A') : xSm A (xKr A' s v) := ⟨h.1, fun j => (xSm_2 (by decide) j).trans (h.2 j)⟩
theorem xSm_u (A : xK) : xSm A (xKu A) := ⟨rfl, fun j => by
  show (if (A.2.2.2.2 (A.2.1 - 1) 1).toInt = -1 then _ else _ : Nat → Nat → Int32) j 0 = A.2.2.1 j 0
  by_cases h : (A.2.2.2.2 (A.2.1 - 1) 1).toInt = -1
  · rw [if_pos h]; exact xSm_2 (by decide) j
  · rw [if_neg h]; exact xSm_2 (by decide) j⟩
theorem yGr_h {A A' : xK} {H H2 : zp_H} (a : yHr 74 75 93 62 A H) (a' : yHr 74 75 93 62 A' H2) (hm : xSm A A') (s : Nat) (hs : (s : Int) < (H.2.1 72 5).toInt) : H2.2.1 74 (4 * s) = H.2.1 74 (4 * s) := by
  have n := a.1
  have hs' : s < A.1 := by omega
  exact ((a'.2.2.1 s 0 (by rw [hm.1]; exact hs') (by decide)).trans (hm.2 s)).trans (a.2.2.1 s 0 hs' (by decide)).symm
theorem yGc_op {c : Nat} {H H1 H2 : zp_H} (hG : yGc c H) (k1 : yKq yCi H H1) (k2 : zf_C H H1) (k3 : zf_72 H1 H2) (k4 : yKq yDi H1 H2) (hA : ∃ A0 A, yHr 74 75 93 62 A0 H ∧ xSm A0 A ∧ xKw A ∧ yHc (ycp c) A H1 ∧ yHr 74 75 93 62 A H2) (h3 : H2.2.1 82 0 = H1.2.1 82 0) (h4 : H1.2.1 0 4 = H2.2.1 82 1) : yGc c H2 := by
  obtain ⟨-, g1, g2, g3, g4, g5⟩ := hG
  obtain ⟨A0, A, a0, am, a1, a2, a3⟩ := hA
  have kd := yKq_f k2
  have e10 : H2.2.1 0 10 = H.2.1 0 10 := (k3.2 0 10 (by decide)).1.trans (k1 0 10 rfl)
  refine ⟨⟨A, a1, yHc_c (fun p k p1 p2 => (k3.2 p k (by have := ycp_x c; omega)).1) a2, a3⟩, ?_, fun hn => ?_, ?_, (k3.2 0 4 (by decide)).1.trans h4, yGr_k ((k4 72 1 rfl).trans (kd 72 1 rfl)) ((k4 72 2 rfl).trans (kd 72 2 rfl)) ((k4 72 5 rfl).trans (kd 72 5 rfl)) ((k4 72 7 rfl).trans (kd 72 7 rfl)) (fun s hs => by rw [yGr_h a0 a3 am s hs]; exact g5.1 s hs) (fun hn s hs => by rw [k4 101 (4 * s) rfl, kd 101 (4 * s) rfl]; exact g5.2.1 (by rw [← kd 72 80 rfl, ← k4 72 80 rfl]; exact hn) s hs) (fun k => (k4 77 k rfl).trans (kd 77 k rfl)) g5⟩
  · rw [e10, k4 72 80 rfl, kd 72 80 rfl]; exact g1
  · rw [e10] at hn
    obtain ⟨B, b1, b2, b3⟩ := g2 hn
    have b4 := yHr_d2 kd b3
    exact ⟨B, b1, yHc_c (fun p k p1 p2 => (k3.2 p k (by omega)).1.trans (k1 p k (yCi_im p1 p2))) b2, yHr_c (k4 72 5 rfl) (k4 72 81 rfl) (fun k => k4 101 k rfl) (fun k => k4 102 k rfl) (fun k => k4 103 k rfl) b4⟩
  · rw [h3, kd 82 0 rfl, (k3.2 0 3 (by decide)).1, k1 0 3 rfl]; exact g3
theorem yb_write {L : Nat} {σ : Nat → Int32} {d c t : Nat} {H : zp_H} {x1 x2 x3 : Int32} (hI : yJ c t H) : ∃ H1 H2 v w, zp_Call L σ (d + 60) 111 [.inr (.inr (some 1)), .inl x1, .inl x2, .inl x3, .inr (.inr (some 105))] H (.inl (some (.inl v)), H1) ∧ zp_Call L σ (d + 60) 213 [.inr (.inr (some 73)), .inl x1, .inl x2, .inl x3] H1 (.inl (some (.inl w)), H2) ∧ H1.1 = zB_sh ∧ yJ c t H2 ∧ (H2.2.1 72 0).toInt = v.toInt ∧ (v.toInt = 0 → H2.2.2.1 104 0 = w.toInt64) := by
  obtain ⟨hI, hG⟩ := hI
  obtain ⟨H1, v, c1, hI1⟩ := yo_write (L := L) (σ := σ) (d := d) (x1 := x1) (x2 := x2) (x3 := x3) hI
  obtain ⟨H2, w, c2, hI2⟩ := yu_write (L := L) (σ := σ) (d := d) (x1 := x1) (x2 := x2) (x3 := x3) hI1
  have W1 := zB_Wd (zB_dn (zB_Bc hI1.1.1))
  obtain ⟨_, p1, H2', w', rfl, p2, p3⟩ := z0t_write (L := L) (σ := σ) (d := d + 57) (xs := x1) (xw := x2) (xt := x3) hI1.1.2.1
  obtain ⟨rfl, rfl⟩ : w' = w ∧ H2' = H2 := by
    have e9 := zp_Call_u p1 c2
    cases e9
    exact ⟨rfl, rfl⟩
  have k3 : zf_72 H1 H2' := zf_of p3 (by decide) (by decide)
  have k4 : yKq yDi H1 H2' := yKq_g p3 (by decide +kernel) (by decide +kernel)
  have k5 : H2'.2.2.1 104 0 = H1.2.2.1 104 0 := (zI_in p3 (p := 104) (k := 0) rfl rfl (by decide)).2
  obtain ⟨⟨A, a1, a2, a3⟩, -, -, -, g4, -⟩ := id hG
  have n5 : (H.2.1 72 5).toInt = A.1 := a3.1
  have h0 := hI.2.2.1
  rcases h0 with rfl | rfl
  · obtain ⟨y3, k2⟩ := yI_zf (e := ze_t4) hI (zc_t4 zB_W zh_all) c1 (by decide +kernel) (by show 3 ≤ d + 60; omega) ⟨rfl, zl_full _, zl_full _, zl_full _, rfl, trivial⟩ rfl
    have y3 : zk_Fr zg _ _ H H1 := y3
    have k2 : zf_C H H1 := k2
    have k1 : yKq yCi H H1 := yKq_c (fun _ _ => yCi_0) y3 (by decide +kernel) (by decide +kernel)
    have a4 := yHr_d1 (yKq_f k2) a3
    by_cases hs : 0 ≤ x1.toInt ∧ x1.toInt < A.1
    · obtain ⟨K, u, e1, e2, W9, -⟩ := yl_wr0 (L := L) (σ := σ) (d := 0) (xw := x2) (xt := x3) hI.1.1 a1 a2 hs
      have e9 := zp_Call_u c1 e1
      cases e9
      obtain ⟨_, f1, H9, w9, rfl, f2, f3, f4⟩ := yr_wr (L := L) (σ := σ) (d := 0) (xw := x2) (xt := x3) W1 a1 a4 hs
      obtain ⟨rfl, rfl⟩ : w' = w9 ∧ H2' = H9 := by
        have e9 := zp_Call_u f1 c2
        cases e9
        exact ⟨rfl, rfl⟩
      rcases e2 with ⟨v1, v2, v3, v4⟩ | ⟨v1, v2, v3, v4⟩ <;> rcases f2 with ⟨g1, g2, g3, g5⟩ | ⟨g1, g2, g3, g5⟩
      · have eu : u = w' := Int32.toInt_inj.mp (v2.trans g2.symm)
        refine ⟨_, _, _, _, c1, c2, hI1.1.1.1, ⟨hI2, yGc_op hG k1 k2 k3 k4 ⟨A, _, a3, xSm_k (xSm_m (xSm_r A)), xKw_k (xKw_m a1 (by omega) v1.1 v1.2.2) hs, v3, g3⟩ f4 ?_⟩, f3, fun _ => ?_⟩
        · rw [g5, (yKq_f k2) 82 1 rfl]
          exact v4.trans g4
        · rw [k5, ← eu]
          exact zp_u_self K.2.2.1 104 0 _
      · exact absurd v1 g1
      · exact absurd g1 v1
      · refine ⟨_, _, _, _, c1, c2, hI1.1.1.1, ⟨hI2, yGc_op hG k1 k2 k3 k4 ⟨A, A, a3, xSm_r A, a1, v3, g3⟩ f4 ?_⟩, f3, fun _ => ?_⟩
        · rw [g5, (yKq_f k2) 82 1 rfl, ← g4]
          exact v4
        · rw [k5, g2, ← v2]
          exact zp_u_self K.2.2.1 104 0 _
    · have e9 := zp_Call_u c1 (yl_wrn0 (L := L) (σ := σ) (d := 0) hI.1.1 (by rw [show (H.2.1 13 0).toInt = A.1 from a2.1]; exact hs))
      cases e9
      have e9 := zp_Call_u c2 (yr_wrn (L := L) (σ := σ) (d := 0) W1 (by rw [n5]; exact hs))
      cases e9
      have q : ∀ p k, ¬ (p = 72 ∧ k = 0) → (zw_I (zw_I H 72 0 (Int32.ofInt 0)) 72 0 (Int32.ofInt 1)).2.1 p k = H.2.1 p k := fun p k hp => (y_ne hp).trans (y_ne hp)
      exact ⟨_, _, _, _, c1, c2, hI1.1.1.1, ⟨hI2, yGc_op hG k1 k2 k3 k4 ⟨A, A, a3, xSm_r A, a1, a2, yHr_c (q 72 5 (by decide)) (q 72 62 (by decide)) (fun k => q 74 k (fun h9 => absurd h9.1 (by decide))) (fun k => q 75 k (fun h9 => absurd h9.1 (by decide))) (fun k => q 93 k (fun h9 => absurd h9.1 (by decide))) a3⟩ (q 82 0 (by decide)) (g4.trans (q 82 1 (by decide)).symm)⟩, congrArg Int32.toInt zw_eq, fun h9 => absurd h9 (by decide)⟩
  · obtain ⟨y3, k2⟩ := yI_zf (e := ze_t76) hI (zc_t76 zB_W zh_all) c1 (by decide +kernel) (by show 3 ≤ d + 60; omega) ⟨rfl, zl_full _, zl_full _, zl_full _, rfl, trivial⟩ rfl
    have y3 : zk_Fr zg _ _ H H1 := y3
    have k2 : zf_C H H1 := k2
    have k1 : yKq yCi H H1 := yKq_c (fun _ _ => yCi_0) y3 (by decide +kernel) (by decide +kernel)
    have a4 := yHr_d1 (yKq_f k2) a3
    by_cases hs : 0 ≤ x1.toInt ∧ x1.toInt < A.1
    · obtain ⟨K, u, e1, e2, W9, -⟩ := yl_wr3 (L := L) (σ := σ) (d := 0) (xw := x2) (xt := x3) hI.1.1 a1 a2 hs
      have e9 := zp_Call_u c1 e1
      cases e9
      obtain ⟨_, f1, H9, w9, rfl, f2, f3, f4⟩ := yr_wr (L := L) (σ := σ) (d := 0) (xw := x2) (xt := x3) W1 a1 a4 hs
      obtain ⟨rfl, rfl⟩ : w' = w9 ∧ H2' = H9 := by
        have e9 := zp_Call_u f1 c2
        cases e9
        exact ⟨rfl, rfl⟩
      rcases e2 with ⟨v1, v2, v3, v4⟩ | ⟨v1, v2, v3, v4⟩ <;> rcases f2 with ⟨g1, g2, g3, g5⟩ | ⟨g1, g2, g3, g5⟩
      · have eu : u = w' := Int32.toInt_inj.mp (v2.trans g2.symm)
        refine ⟨_, _, _, _, c1, c2, hI1.1.1.1, ⟨hI2, yGc_op hG k1 k2 k3 k4 ⟨A, _, a3, xSm_k (xSm_m (xSm_r A)), xKw_k (xKw_m a1 (by omega) v1.1 v1.2.2) hs, v3, g3⟩ f4 ?_⟩, f3, fun _ => ?_⟩
        · rw [g5, (yKq_f k2) 82 1 rfl]
          exact v4.trans g4
        · rw [k5, ← eu]
          exact zp_u_self K.2.2.1 104 0 _
      · exact absurd v1 g1
      · exact absurd g1 v1
      · refine ⟨_, _, _, _, c1, c2, hI1.1.1.1, ⟨hI2, yGc_op hG k1 k2 k3 k4 ⟨A, A, a3, xSm_r A, a1, v3, g3⟩ f4 ?_⟩, f3, fun _ => ?_⟩
        · rw [g5, (yKq_f k2) 82 1 rfl, ← g4]
          exact v4
        · rw [k5, g2, ← v2]
          exact zp_u_self K.2.2.1 104 0 _
    · have e9 := zp_Call_u c1 (yl_wrn3 (L := L) (σ := σ) (d := 0) hI.1.1 (by rw [show (H.2.1 33 0).toInt = A.1 from a2.1]; exact hs))
      cases e9
      have e9 := zp_Call_u c2 (yr_wrn (L := L) (σ := σ) (d := 0) W1 (by rw [n5]; exact hs))
      cases e9
      have q : ∀ p k, ¬ (p = 72 ∧ k = 0) → (zw_I (zw_I H 72 0 (Int32.ofInt 0)) 72 0 (Int32.ofInt 1)).2.1 p k = H.2.1 p k := fun p k hp => (y_ne hp).trans (y_ne hp)
      exact ⟨_, _, _, _, c1, c2, hI1.1.1.1, ⟨hI2, yGc_op hG k1 k2 k3 k4 ⟨A, A, a3, xSm_r A, a1, a2, yHr_c (q 72 5 (by decide)) (q 72 62 (by decide)) (fun k => q 74 k (fun h9 => absurd h9.1 (by decide))) (fun k => q 75 k (fun h9 => absurd h9.1 (by decide))) (fun k => q 93 k (fun h9 => absurd h9.1 (by decide))) a3⟩ (q 82 0 (by decide)) (g4.trans (q 82 1 (by decide)).symm)⟩, congrArg Int32.toInt zw_eq, fun h9 => absurd h9 (by decide)⟩
theorem yb_rub {L : Nat} {σ : Nat → Int32} {d c t : Nat} {H : zp_H} {x1 x2 x3 : Int32} (hI : yJ c t H) : ∃ H1 H2 v w, zp_Call L σ (d + 60) 114 [.inr (.inr (some 1)), .inl x1, .inl x2, .inl x3, .inr (.inr (some 105))] H (.inl (some (.inl v)), H1) ∧ zp_Call L σ (d + 60) 216 [.inr (.inr (some 73)), .inl x1, .inl x2, .inl x3] H1 (.inl (some (.inl w)), H2) ∧ H1.1 = zB_sh ∧ yJ c t H2 ∧ (H2.2.1 72 0).toInt = v.toInt ∧ (v.toInt = 0 → H2.2.2.1 104 0 = w.toInt64) := by
  obtain ⟨hI, hG⟩ := hI
  obtain ⟨H1, v, c1, hI1⟩ := yo_rub (L := L) (σ := σ) (d := d) (x1 := x1) (x2 := x2) (x3 := x3) hI
  obtain ⟨H2, w, c2, hI2⟩ := yu_rub (L := L) (σ := σ) (d := d) (x1 := x1) (x2 := x2) (x3 := x3) hI1
  have W1 := zB_Wd (zB_dn (zB_Bc hI1.1.1))
  obtain ⟨_, p1, H2', w', rfl, p2, p3⟩ := z0t_rub (L := L) (σ := σ) (d := d + 57) (xs := x1) (xd := x2) (xc := x3) hI1.1.2.1
  obtain ⟨rfl, rfl⟩ : w' = w ∧ H2' = H2 := by
    have e9 := zp_Call_u p1 c2
    cases e9
    exact ⟨rfl, rfl⟩
  have k3 : zf_72 H1 H2' := zf_of p3 (by decide) (by decide)
  have k4 : yKq yDi H1 H2' := yKq_g p3 (by decide +kernel) (by decide +kernel)
  have k5 : H2'.2.2.1 104 0 = H1.2.2.1 104 0 := (zI_in p3 (p := 104) (k := 0) rfl rfl (by decide)).2
  obtain ⟨⟨A, a1, a2, a3⟩, -, -, -, g4, -⟩ := id hG
  have n5 : (H.2.1 72 5).toInt = A.1 := a3.1
  have h0 := hI.2.2.1
  rcases h0 with rfl | rfl
  · obtain ⟨y3, k2⟩ := yI_zf (e := ze_t5) hI (zc_t5 zB_W zh_all) c1 (by decide +kernel) (by show 3 ≤ d + 60; omega) ⟨rfl, zl_full _, zl_full _, zl_full _, rfl, trivial⟩ rfl
    have y3 : zk_Fr zg _ _ H H1 := y3
    have k2 : zf_C H H1 := k2
    have k1 : yKq yCi H H1 := yKq_c (fun _ _ => yCi_0) y3 (by decide +kernel) (by decide +kernel)
    have a4 := yHr_d1 (yKq_f k2) a3
    by_cases hs : 0 ≤ x1.toInt ∧ x1.toInt < A.1
    · obtain ⟨K, u, e1, e2, W9, -⟩ := yl_rb0 (L := L) (σ := σ) (d := 0) (sd := x2) (ch := x3) hI.1.1 a1 a2 hs
      have e9 := zp_Call_u c1 e1
      cases e9
      obtain ⟨_, f1, H9, w9, rfl, f2, f3, f4⟩ := yr_rb (L := L) (σ := σ) (d := 0) (sd := x2) (ch := x3) W1 a1 a4 hs
      obtain ⟨rfl, rfl⟩ : w' = w9 ∧ H2' = H9 := by
        have e9 := zp_Call_u f1 c2
        cases e9
        exact ⟨rfl, rfl⟩
      rcases e2 with ⟨v1, v2, v3, v4⟩ | ⟨v1, v2, v3, v4⟩ <;> rcases f2 with ⟨g1, g2, g3, g5⟩ | ⟨g1, g2, g3, g5⟩
      · have hr : 0 ≤ (yRub x3 (A.2.2.1 x1.toInt.toNat 2).toInt.toNat (Int32.ofInt 0) x2 (A.2.2.1 x1.toInt.toNat 3)).toInt ∧ (yRub x3 (A.2.2.1 x1.toInt.toNat 2).toInt.toNat (Int32.ofInt 0) x2 (A.2.2.1 x1.toInt.toNat 3)).toInt ≤ 255 := by
          have e8 : H2'.2.1 74 (4 * x1.toInt.toNat + 3) = yRub x3 (A.2.2.1 x1.toInt.toNat 2).toInt.toNat (Int32.ofInt 0) x2 (A.2.2.1 x1.toInt.toNat 3) := (g3.2.2.1 x1.toInt.toNat 3 (by show x1.toInt.toNat < A.1; omega) (by decide)).trans yU2_e
          have e7 := zt_s3 (z0T_dn p2) (k := x1.toInt.toNat) (by have := a1.1; omega)
          rw [e8] at e7
          exact e7
        have eu : u = w' := by rw [v2, g2]; exact yIb_s hr
        refine ⟨_, _, _, _, c1, c2, hI1.1.1.1, ⟨hI2, yGc_op hG k1 k2 k3 k4 ⟨A, _, a3, xSm_w (xSm_k (xSm_r A)), xKw_r (xKw_k a1 hs), v3, g3⟩ f4 ?_⟩, f3, fun _ => ?_⟩
        · rw [g5, (yKq_f k2) 82 1 rfl]
          exact v4.trans g4
        · rw [k5, ← eu]
          exact zp_u_self K.2.2.1 104 0 _
      · exact absurd v1 g1
      · exact absurd g1 v1
      · refine ⟨_, _, _, _, c1, c2, hI1.1.1.1, ⟨hI2, yGc_op hG k1 k2 k3 k4 ⟨A, A, a3, xSm_r A, a1, v3, g3⟩ f4 ?_⟩, f3, fun _ => ?_⟩
        · rw [g5, (yKq_f k2) 82 1 rfl, ← g4]
          exact v4
        · rw [k5, g2, ← v2]
          exact zp_u_self K.2.2.1 104 0 _
    · have e9 := zp_Call_u c1 (yl_rbn0 (L := L) (σ := σ) (d := 0) hI.1.1 (by rw [show (H.2.1 13 0).toInt = A.1 from a2.1]; exact hs))
      cases e9
      have e9 := zp_Call_u c2 (yr_rbn (L := L) (σ := σ) (d := 0) W1 (by rw [n5]; exact hs))
      cases e9
      have q : ∀ p k, ¬ (p = 72 ∧ k = 0) → (zw_I (zw_I H 72 0 (Int32.ofInt 0)) 72 0 (Int32.ofInt 1)).2.1 p k = H.2.1 p k := fun p k hp => (y_ne hp).trans (y_ne hp)
      exact ⟨_, _, _, _, c1, c2, hI1.1.1.1, ⟨hI2, yGc_op hG k1 k2 k3 k4 ⟨A, A, a3, xSm_r A, a1, a2, yHr_c (q 72 5 (by decide)) (q 72 62 (by decide)) (fun k => q 74 k (fun h9 => absurd h9.1 (by decide))) (fun k => q 75 k (fun h9 => absurd h9.1 (by decide))) (fun k => q 93 k (fun h9 => absurd h9.1 (by decide))) a3⟩ (q 82 0 (by decide)) (g4.trans (q 82 1 (by decide)).symm)⟩, congrArg Int32.toInt zw_eq, fun h9 => absurd h9 (by decide)⟩
  · obtain ⟨y3, k2⟩ := yI_zf (e := ze_t77) hI (zc_t77 zB_W zh_all) c1 (by decide +kernel) (by show 3 ≤ d + 60; omega) ⟨rfl, zl_full _, zl_full _, zl_full _, rfl, trivial⟩ rfl
    have y3 : zk_Fr zg _ _ H H1 := y3
    have k2 : zf_C H H1 := k2
    have k1 : yKq yCi H H1 := yKq_c (fun _ _ => yCi_0) y3 (by decide +kernel) (by decide +kernel)
    have a4 := yHr_d1 (yKq_f k2) a3
    by_cases hs : 0 ≤ x1.toInt ∧ x1.toInt < A.1
    · obtain ⟨K, u, e1, e2, W9, -⟩ := yl_rb3 (L := L) (σ := σ) (d := 0) (sd := x2) (ch := x3) hI.1.1 a1 a2 hs
      have e9 := zp_Call_u c1 e1
      cases e9
      obtain ⟨_, f1, H9, w9, rfl, f2, f3, f4⟩ := yr_rb (L := L) (σ := σ) (d := 0) (sd := x2) (ch := x3) W1 a1 a4 hs
      obtain ⟨rfl, rfl⟩ : w' = w9 ∧ H2' = H9 := by
        have e9 := zp_Call_u f1 c2
        cases e9
        exact ⟨rfl, rfl⟩
      rcases e2 with ⟨v1, v2, v3, v4⟩ | ⟨v1, v2, v3, v4⟩ <;> rcases f2 with ⟨g1, g2, g3, g5⟩ | ⟨g1, g2, g3, g5⟩
      · have hr : 0 ≤ (yRub x3 (A.2.2.1 x1.toInt.toNat 2).toInt.toNat (Int32.ofInt 0) x2 (A.2.2.1 x1.toInt.toNat 3)).toInt ∧ (yRub x3 (A.2.2.1 x1.toInt.toNat 2).toInt.toNat (Int32.ofInt 0) x2 (A.2.2.1 x1.toInt.toNat 3)).toInt ≤ 255 := by
          have e8 : H2'.2.1 74 (4 * x1.toInt.toNat + 3) = yRub x3 (A.2.2.1 x1.toInt.toNat 2).toInt.toNat (Int32.ofInt 0) x2 (A.2.2.1 x1.toInt.toNat 3) := (g3.2.2.1 x1.toInt.toNat 3 (by show x1.toInt.toNat < A.1; omega) (by decide)).trans yU2_e
          have e7 := zt_s3 (z0T_dn p2) (k := x1.toInt.toNat) (by have := a1.1; omega)
          rw [e8] at e7
          exact e7
        have eu : u = w' := by rw [v2, g2]; exact yIb_s hr
        refine ⟨_, _, _, _, c1, c2, hI1.1.1.1, ⟨hI2, yGc_op hG k1 k2 k3 k4 ⟨A, _, a3, xSm_w (xSm_k (xSm_r A)), xKw_r (xKw_k a1 hs), v3, g3⟩ f4 ?_⟩, f3, fun _ => ?_⟩
        · rw [g5, (yKq_f k2) 82 1 rfl]
          exact v4.trans g4
        · rw [k5, ← eu]
          exact zp_u_self K.2.2.1 104 0 _
      · exact absurd v1 g1
      · exact absurd g1 v1
      · refine ⟨_, _, _, _, c1, c2, hI1.1.1.1, ⟨hI2, yGc_op hG k1 k2 k3 k4 ⟨A, A, a3, xSm_r A, a1, v3, g3⟩ f4 ?_⟩, f3, fun _ => ?_⟩
        · rw [g5, (yKq_f k2) 82 1 rfl, ← g4]
          exact v4
        · rw [k5, g2, ← v2]
          exact zp_u_self K.2.2.1 104 0 _
    · have e9 := zp_Call_u c1 (yl_rbn3 (L := L) (σ := σ) (d := 0) hI.1.1 (by rw [show (H.2.1 33 0).toInt = A.1 from a2.1]; exact hs))
      cases e9
      have e9 := zp_Call_u c2 (yr_rbn (L := L) (σ := σ) (d := 0) W1 (by rw [n5]; exact hs))
      cases e9
      have q : ∀ p k, ¬ (p = 72 ∧ k = 0) → (zw_I (zw_I H 72 0 (Int32.ofInt 0)) 72 0 (Int32.ofInt 1)).2.1 p k = H.2.1 p k := fun p k hp => (y_ne hp).trans (y_ne hp)
      exact ⟨_, _, _, _, c1, c2, hI1.1.1.1, ⟨hI2, yGc_op hG k1 k2 k3 k4 ⟨A, A, a3, xSm_r A, a1, a2, yHr_c (q 72 5 (by decide)) (q 72 62 (by decide)) (fun k => q 74 k (fun h9 => absurd h9.1 (by decide))) (fun k => q 75 k (fun h9 => absurd h9.1 (by decide))) (fun k => q 93 k (fun h9 => absurd h9.1 (by decide))) a3⟩ (q 82 0 (by decide)) (g4.trans (q 82 1 (by decide)).symm)⟩, congrArg Int32.toInt zw_eq, fun h9 => absurd h9 (by decide)⟩
/-- the slate of a written act that is the last has a mark -/
theorem yun_k {A : xK} {H : zp_H} (hJ : zJ_cnt H) (hw : xKw A) (h : yHr 74 75 93 62 A H) : (A.2.2.2.2 (A.2.1 - 1) 1).toInt = -1 → 0 < A.2.1 → 0 < (A.2.2.1 (A.2.2.2.2 (A.2.1 - 1) 0).toInt.toNat 2).toInt := by
  intro h1 ha
  obtain ⟨b1, b2, b3, b4⟩ := hw
  have hs := b4.1 (A.2.1 - 1) (by omega)
  have hc := hJ (A.2.2.2.2 (A.2.1 - 1) 0).toInt.toNat (by omega)
  have e62 : (H.2.1 72 62).toInt.toNat = (A.2.1 - 1) + 1 := by have := h.2.1; omega
  have e0 : H.2.1 93 (2 * (A.2.1 - 1)) = A.2.2.2.2 (A.2.1 - 1) 0 := h.2.2.2.2 (A.2.1 - 1) 0 (by omega) (by decide)
  have e1 : H.2.1 93 (2 * (A.2.1 - 1) + 1) = A.2.2.2.2 (A.2.1 - 1) 1 := h.2.2.2.2 (A.2.1 - 1) 1 (by omega) (by decide)
  have e2 : H.2.1 74 (4 * (A.2.2.2.2 (A.2.1 - 1) 0).toInt.toNat + 2) = A.2.2.1 (A.2.2.2.2 (A.2.1 - 1) 0).toInt.toNat 2 := h.2.2.1 _ 2 (by omega) (by decide)
  rw [e62, e2] at hc
  have e3 : zr_cnt (H.2.1 93) ((A.2.2.2.2 (A.2.1 - 1) 0).toInt.toNat : Nat) ((A.2.1 - 1) + 1) = zr_cnt (H.2.1 93) ((A.2.2.2.2 (A.2.1 - 1) 0).toInt.toNat : Nat) (A.2.1 - 1) + 1 := by
    show zr_cnt (H.2.1 93) ((A.2.2.2.2 (A.2.1 - 1) 0).toInt.toNat : Nat) (A.2.1 - 1) + (if (H.2.1 93 (2 * (A.2.1 - 1))).toInt = ((A.2.2.2.2 (A.2.1 - 1) 0).toInt.toNat : Nat) ∧ (H.2.1 93 (2 * (A.2.1 - 1) + 1)).toInt = -1 then 1 else 0) = _
    rw [e0, e1, if_pos ⟨by omega, h1⟩]
  rw [e3] at hc
  omega
def yC0 (q : Nat × Nat) : Bool := (Nat.beq q.1 0).and ((Nat.beq q.2 3).or (Nat.beq q.2 4))
def yC1 (q : Nat × Nat) : Bool := (Nat.beq q.1 0).and ((Nat.beq q.2 3).or ((Nat.beq q.2 4).or (Nat.beq q.2 10)))
theorem yC0_0 {p k : Nat} (h : yC0 (p, k) = true) : p < 72 ∧ (p ≠ 0 → yC0 (p, 0) = true) := by
  have a : p = 0 := za_beq (Bool.and_eq_true_iff.mp h).1
  exact ⟨by omega, fun h9 => absurd a h9⟩
theorem yC1_0 {p k : Nat} (h : yC1 (p, k) = true) : p < 72 ∧ (p ≠ 0 → yC1 (p, 0) = true) := by
  have a : p = 0 := za_beq (Bool.and_eq_true_iff.mp h).1
  exact ⟨by omega, fun h9 => absurd a h9⟩
theorem yIm_k {H : zp_H} : (yIm H).2.1 72 80 = Int32.ofInt 1 ∧ (∀ k, (yIm H).2.1 82 k = H.2.1 82 k) ∧ zf_72 H (yIm H) := by
  refine ⟨(zc_ne (by decide)).trans ((zc_ne (by decide)).trans ((zc_ne (by decide)).trans ((y_ne (fun h9 => absurd h9.2 (by decide))).trans zw_eq))), fun k => (zc_ne (by decide)).trans ((zc_ne (by decide)).trans ((zc_ne (by decide)).trans ((y_ne (fun h9 => absurd h9.1 (by decide))).trans ((y_ne (fun h9 => absurd h9.1 (by decide))).trans (y_ne (fun h9 => absurd h9.1 (by decide))))))), ?_⟩
  exact zf_c (zf_c (zf_c (zf_I (zf_I (zf_I (zf_r H) rfl) rfl) rfl) rfl) rfl) rfl
theorem yRs_k {H : zp_H} : (yRs H).2.1 72 80 = H.2.1 72 80 ∧ (∀ k, (yRs H).2.1 82 k = H.2.1 82 k) ∧ zf_72 H (yRs H) := by
  refine ⟨(zc_ne (by decide)).trans ((zc_ne (by decide)).trans ((zc_ne (by decide)).trans ((y_ne (fun h9 => absurd h9.2 (by decide))).trans (y_ne (fun h9 => absurd h9.2 (by decide)))))), fun k => (zc_ne (by decide)).trans ((zc_ne (by decide)).trans ((zc_ne (by decide)).trans ((y_ne (fun h9 => absurd h9.1 (by decide))).trans (y_ne (fun h9 => absurd h9.1 (by decide)))))), ?_⟩
  exact zf_c (zf_c (zf_c (zf_I (zf_I (zf_r H) rfl) rfl) rfl) rfl) rfl
theorem yb_undo {L : Nat} {σ : Nat → Int32} {d c t : Nat} {H : zp_H} (hI : yJ c t H) : ∃ H1 H2 v w, zp_Call L σ (d + 60) 20 [.inr (.inr (some 1))] H (.inl (some (.inl v)), H1) ∧ zp_Call L σ (d + 60) 218 [.inr (.inr (some 73))] H1 (.inl (some (.inl w)), H2) ∧ H1.1 = zB_sh ∧ yJ c t H2 ∧ v.toInt = w.toInt := by
  obtain ⟨hI, hG⟩ := hI
  obtain ⟨H1, v, c1, hI1⟩ := yo_undo (L := L) (σ := σ) (d := d) hI
  obtain ⟨H2, w, c2, hI2⟩ := yu_undo (L := L) (σ := σ) (d := d) hI1
  have W1 := zB_Wd (zB_dn (zB_Bc hI1.1.1))
  obtain ⟨_, p1, H2', w', rfl, p2, p3⟩ := z0t_undo (L := L) (σ := σ) (d := d + 59) hI1.1.2.1
  obtain ⟨rfl, rfl⟩ : w' = w ∧ H2' = H2 := by
    have e9 := zp_Call_u p1 c2
    cases e9
    exact ⟨rfl, rfl⟩
  have k3 : zf_72 H1 H2' := zf_of p3 (by decide) (by decide)
  have k4 : yKq yDi H1 H2' := yKq_g p3 (by decide +kernel) (by decide +kernel)
  have k5 : ∀ k, H2'.2.1 82 k = H1.2.1 82 k := fun k => (zI_in p3 (p := 82) (k := k) (zI_nm (P := fun q => (Nat.beq q.1 82).not) (by decide) rfl) rfl (fun h9 => absurd h9.1 (by decide))).1
  obtain ⟨⟨A, a1, a2, a3⟩, -, -, -, g4, -⟩ := id hG
  have hJ := hI.1.2.1.2.2.2.2.2.2.2.2.1
  have hk := fun h1 => yun_k hJ a1 a3 h1
  have h0 := hI.2.2.1
  rcases h0 with rfl | rfl
  · obtain ⟨y3, k2⟩ := yI_zf (e := ze_t20) hI (zc_t20 zB_W zh_all) c1 (by decide +kernel) (by show 2 ≤ d + 60; omega) ⟨rfl, trivial⟩ rfl
    have y3 : zk_Fr zg _ _ H H1 := y3
    have k2 : zf_C H H1 := k2
    have k1 : yKq yCi H H1 := yKq_c (fun _ _ => yCi_0) y3 (by decide +kernel) (by decide +kernel)
    have k6 : yKq yC0 H H1 := yKq_c (fun _ _ => yC0_0) y3 (by decide +kernel) (by decide +kernel)
    have a4 := yHr_d1 (yKq_f k2) a3
    have h4 : H1.2.1 0 4 = H2'.2.1 82 1 := by rw [k5, (yKq_f k2) 82 1 rfl, k6 0 4 rfl]; exact g4
    by_cases hp : 0 < A.2.1
    · have hk := fun h1 => hk h1 hp
      obtain ⟨_, e1, K, u, rfl, e2⟩ := yc_un0 (L := L) (σ := σ) (d := 0) hI.1.1 a1 a2 hk
      obtain ⟨rfl, rfl⟩ : u = v ∧ K = H1 := by
        have e9 := zp_Call_u e1 c1
        cases e9
        exact ⟨rfl, rfl⟩
      obtain ⟨_, f1, H9, w9, rfl, f2⟩ := yr_un (L := L) (σ := σ) (d := 0) W1 a1 a4 hk
      obtain ⟨rfl, rfl⟩ : w' = w9 ∧ H2' = H9 := by
        have e9 := zp_Call_u f1 c2
        cases e9
        exact ⟨rfl, rfl⟩
      rcases e2 with ⟨v1, -, -⟩ | ⟨v1, v2, v3, -, -⟩
      · omega
      rcases f2 with ⟨u1, -, -⟩ | ⟨u1, u2, u3, -⟩
      · omega
      exact ⟨_, _, _, _, c1, c2, hI1.1.1.1, ⟨hI2, yGc_op hG k1 k2 k3 k4 ⟨A, _, a3, xSm_u A, xKw_u a1 hp hk, v3, u3⟩ (k5 0) h4⟩, v2.trans u2.symm⟩
    · have e9 := zp_Call_u (yc_un00 (L := L) (σ := σ) (d := 0) hI.1.1 a2 (by omega)) c1
      cases e9
      have e9 := zp_Call_u (yr_un0 (L := L) (σ := σ) (d := 0) W1 a3 (by omega)) c2
      cases e9
      exact ⟨_, _, _, _, c1, c2, hI1.1.1.1, ⟨hI2, yGc_op hG k1 k2 k3 k4 ⟨A, A, a3, xSm_r A, a1, a2, yHr_c (y_ne (fun h9 => absurd h9.2 (by decide))) (y_ne (fun h9 => absurd h9.2 (by decide))) (fun k => y_ne (fun h9 => absurd h9.1 (by decide))) (fun k => y_ne (fun h9 => absurd h9.1 (by decide))) (fun k => y_ne (fun h9 => absurd h9.1 (by decide))) a3⟩ (k5 0) h4⟩, rfl⟩
  · obtain ⟨y3, k2⟩ := yI_zf (e := ze_t92) hI (zc_t92 zB_W zh_all) c1 (by decide +kernel) (by show 2 ≤ d + 60; omega) ⟨rfl, trivial⟩ rfl
    have y3 : zk_Fr zg _ _ H H1 := y3
    have k2 : zf_C H H1 := k2
    have k1 : yKq yCi H H1 := yKq_c (fun _ _ => yCi_0) y3 (by decide +kernel) (by decide +kernel)
    have k6 : yKq yC0 H H1 := yKq_c (fun _ _ => yC0_0) y3 (by decide +kernel) (by decide +kernel)
    have a4 := yHr_d1 (yKq_f k2) a3
    have h4 : H1.2.1 0 4 = H2'.2.1 82 1 := by rw [k5, (yKq_f k2) 82 1 rfl, k6 0 4 rfl]; exact g4
    by_cases hp : 0 < A.2.1
    · have hk := fun h1 => hk h1 hp
      obtain ⟨_, e1, K, u, rfl, e2⟩ := yc_un3 (L := L) (σ := σ) (d := 0) hI.1.1 a1 a2 hk
      obtain ⟨rfl, rfl⟩ : u = v ∧ K = H1 := by
        have e9 := zp_Call_u e1 c1
        cases e9
        exact ⟨rfl, rfl⟩
      obtain ⟨_, f1, H9, w9, rfl, f2⟩ := yr_un (L := L) (σ := σ) (d := 0) W1 a1 a4 hk
      obtain ⟨rfl, rfl⟩ : w' = w9 ∧ H2' = H9 := by
        have e9 := zp_Call_u f1 c2
        cases e9
        exact ⟨rfl, rfl⟩
      rcases e2 with ⟨v1, -, -⟩ | ⟨v1, v2, v3, -, -⟩
      · omega
      rcases f2 with ⟨u1, -, -⟩ | ⟨u1, u2, u3, -⟩
      · omega
      exact ⟨_, _, _, _, c1, c2, hI1.1.1.1, ⟨hI2, yGc_op hG k1 k2 k3 k4 ⟨A, _, a3, xSm_u A, xKw_u a1 hp hk, v3, u3⟩ (k5 0) h4⟩, v2.trans u2.symm⟩
    · have e9 := zp_Call_u (yc_un03 (L := L) (σ := σ) (d := 0) hI.1.1 a2 (by omega)) c1
      cases e9
      have e9 := zp_Call_u (yr_un0 (L := L) (σ := σ) (d := 0) W1 a3 (by omega)) c2
      cases e9
      exact ⟨_, _, _, _, c1, c2, hI1.1.1.1, ⟨hI2, yGc_op hG k1 k2 k3 k4 ⟨A, A, a3, xSm_r A, a1, a2, yHr_c (y_ne (fun h9 => absurd h9.2 (by decide))) (y_ne (fun h9 => absurd h9.2 (by decide))) (fun k => y_ne (fun h9 => absurd h9.1 (by decide))) (fun k => y_ne (fun h9 => absurd h9.1 (by decide))) (fun k => y_ne (fun h9 => absurd h9.1 (by decide))) a3⟩ (k5 0) h4⟩, rfl⟩
theorem yIm_o {H : zp_H} {p k : Nat} (hp : (p = 72 ∧ (k = 1 ∨ k = 2 ∨ k = 7)) ∨ p = 77) : (yIm H).2.1 p k = H.2.1 p k := by
  rcases hp with ⟨rfl, rfl | rfl | rfl⟩ | rfl <;> rfl
theorem yRs_o {H : zp_H} {p k : Nat} (hp : (p = 72 ∧ (k = 1 ∨ k = 2 ∨ k = 7)) ∨ p = 77) : (yRs H).2.1 p k = H.2.1 p k := by
  rcases hp with ⟨rfl, rfl | rfl | rfl⟩ | rfl <;> rfl
theorem yIm_g {A : xK} {H H1 : zp_H} (kd : yKq yDx H H1) (hw : xKw A) (a : yHr 74 75 93 62 A H1) (r1 : yHr 101 102 103 81 A (yIm H1)) (r2 : yHr 74 75 93 62 A (yIm H1)) (h : yGr H) : yGr (yIm H1) := by
  have n1 := a.1
  have n2 := r2.1
  have f : ∀ p k, (p = 72 ∧ (k = 1 ∨ k = 2 ∨ k = 7)) ∨ p = 77 → (yIm H1).2.1 p k = H1.2.1 p k := fun p k hp => yIm_o hp
  have e5 : (yIm H1).2.1 72 5 = H1.2.1 72 5 := Int32.toInt_inj.mp (by rw [n2, n1])
  have c74 : ∀ s : Nat, (s : Int) < (H1.2.1 72 5).toInt → (yIm H1).2.1 74 (4 * s) = H1.2.1 74 (4 * s) := yGr_h a r2 (xSm_r A)
  have c101 : ∀ s : Nat, (s : Int) < (H1.2.1 72 5).toInt → (yIm H1).2.1 101 (4 * s) = H1.2.1 74 (4 * s) := fun s hs => by
    have hs' : s < A.1 := by omega
    exact (r1.2.2.1 s 0 hs' (by decide)).trans (a.2.2.1 s 0 hs' (by decide)).symm
  have e6 := kd 72 5 rfl
  refine yGr_k ((f 72 1 (Or.inl ⟨rfl, Or.inl rfl⟩)).trans (kd 72 1 rfl)) ((f 72 2 (Or.inl ⟨rfl, Or.inr (Or.inl rfl)⟩)).trans (kd 72 2 rfl)) (e5.trans e6) ((f 72 7 (Or.inl ⟨rfl, Or.inr (Or.inr rfl)⟩)).trans (kd 72 7 rfl)) (fun s hs => ?_) (fun _ s hs => ?_) (fun k => (f 77 k (Or.inr rfl)).trans (kd 77 k rfl)) h
  · rw [c74 s (by rw [e6]; exact hs), kd 74 (4 * s) rfl]
    exact h.1 s hs
  · rw [c101 s (by rw [e6]; exact hs), kd 74 (4 * s) rfl]
    exact h.1 s hs
theorem yRs_g {B : xK} {H K : zp_H} (kd : yKq yDx H K) (b : yHr 101 102 103 81 B H) (r1 : yHr 74 75 93 62 B (yRs K)) (r2 : yHr 101 102 103 81 B (yRs K)) (hn : ¬ (H.2.1 72 80).toInt = 0) (h : yGr H) : yGr (yRs K) := by
  have n1 := b.1
  have n2 := r1.1
  have f : ∀ p k, (p = 72 ∧ (k = 1 ∨ k = 2 ∨ k = 7)) ∨ p = 77 → (yRs K).2.1 p k = K.2.1 p k := fun p k hp => yRs_o hp
  have e5 : (yRs K).2.1 72 5 = H.2.1 72 5 := Int32.toInt_inj.mp (by rw [n2, n1])
  have c74 : ∀ s : Nat, (s : Int) < (H.2.1 72 5).toInt → (yRs K).2.1 74 (4 * s) = H.2.1 101 (4 * s) := fun s hs => by
    have hs' : s < B.1 := by omega
    exact (r1.2.2.1 s 0 hs' (by decide)).trans (b.2.2.1 s 0 hs' (by decide)).symm
  have c101 : ∀ s : Nat, (s : Int) < (H.2.1 72 5).toInt → (yRs K).2.1 101 (4 * s) = H.2.1 101 (4 * s) := fun s hs => by
    have hs' : s < B.1 := by omega
    exact (r2.2.2.1 s 0 hs' (by decide)).trans (b.2.2.1 s 0 hs' (by decide)).symm
  refine yGr_k ((f 72 1 (Or.inl ⟨rfl, Or.inl rfl⟩)).trans (kd 72 1 rfl)) ((f 72 2 (Or.inl ⟨rfl, Or.inr (Or.inl rfl)⟩)).trans (kd 72 2 rfl)) e5 ((f 72 7 (Or.inl ⟨rfl, Or.inr (Or.inr rfl)⟩)).trans (kd 72 7 rfl)) (fun s hs => ?_) (fun _ s hs => ?_) (fun k => (f 77 k (Or.inr rfl)).trans (kd 77 k rfl)) h
  · rw [c74 s hs]
    exact h.2.1 hn s hs
  · rw [c101 s hs]
    exact h.2.1 hn s hs
theorem yb_image {L : Nat} {σ : Nat → Int32} {d c t : Nat} {H : zp_H} (hI : yJ c t H) : ∃ H1 H2, zp_Call L σ (d + 60) 45 [.inr (.inr (some 1))] H (.inl none, H1) ∧ zp_Call L σ (d + 60) 249 [.inr (.inr (some 73))] H1 (.inl none, H2) ∧ H1.1 = zB_sh ∧ yJ c t H2 := by
  obtain ⟨hI, hG⟩ := hI
  obtain ⟨H1, c1, hI1⟩ := yo_image (L := L) (σ := σ) (d := d) hI
  obtain ⟨H2, c2, hI2⟩ := yu_image (L := L) (σ := σ) (d := d) hI1
  have W1 := zB_Wd (zB_dn (zB_Bc hI1.1.1))
  obtain rfl : H2 = yIm H1 := by
    have e9 := zp_Call_u c2 (yx_image (L := L) (σ := σ) (d := 0) W1)
    cases e9
    rfl
  obtain ⟨⟨A, a1, a2, a3⟩, -, -, g3, g4, g5⟩ := id hG
  obtain ⟨i1, i2, i3⟩ := yIm_k (H := H1)
  have h0 := hI.2.2.1
  rcases h0 with rfl | rfl
  · obtain ⟨y3, k2⟩ := yI_zf (e := ze_t22) hI (zc_t22 zB_W zh_all) c1 (by decide +kernel) (by show 2 ≤ d + 60; omega) ⟨rfl, trivial⟩ rfl
    have y3 : zk_Fr zg _ _ H H1 := y3
    have k2 : zf_C H H1 := k2
    have k6 : yKq yC0 H H1 := yKq_c (fun _ _ => yC0_0) y3 (by decide +kernel) (by decide +kernel)
    have a4 := yHr_d1 (yKq_f k2) a3
    obtain ⟨_, e1, K, rfl, e2, e3, e4⟩ := yc_im0 (L := L) (σ := σ) (d := 0) hI.1.1 a1 a2
    obtain rfl : K = H1 := by
      have e9 := zp_Call_u e1 c1
      cases e9
      rfl
    obtain ⟨r1, r2⟩ := yIm_r a1 a4
    refine ⟨_, _, c1, c2, hI1.1.1.1, hI2, ⟨A, a1, yHc_c (fun p k p1 p2 => (i3.2 p k (by have := ycp_x 0; omega)).1) e3, r2⟩, ?_, fun _ => ⟨A, a1, yHc_c (fun p k p1 p2 => (i3.2 p k (by omega)).1) e2, r1⟩, ?_, ?_, yIm_g (yKq_f k2) a1 a4 r1 r2 g5⟩
    · rw [(i3.2 0 10 (by decide)).1, i1]; exact e4
    · rw [(i3.2 0 3 (by decide)).1, i2, (yKq_f k2) 82 0 rfl, k6 0 3 rfl]; exact g3
    · rw [(i3.2 0 4 (by decide)).1, i2, (yKq_f k2) 82 1 rfl, k6 0 4 rfl]; exact g4
  · obtain ⟨y3, k2⟩ := yI_zf (e := ze_t94) hI (zc_t94 zB_W zh_all) c1 (by decide +kernel) (by show 2 ≤ d + 60; omega) ⟨rfl, trivial⟩ rfl
    have y3 : zk_Fr zg _ _ H H1 := y3
    have k2 : zf_C H H1 := k2
    have k6 : yKq yC0 H H1 := yKq_c (fun _ _ => yC0_0) y3 (by decide +kernel) (by decide +kernel)
    have a4 := yHr_d1 (yKq_f k2) a3
    obtain ⟨_, e1, K, rfl, e2, e3, e4⟩ := yc_im3 (L := L) (σ := σ) (d := 0) hI.1.1 a1 a2
    obtain rfl : K = H1 := by
      have e9 := zp_Call_u e1 c1
      cases e9
      rfl
    obtain ⟨r1, r2⟩ := yIm_r a1 a4
    refine ⟨_, _, c1, c2, hI1.1.1.1, hI2, ⟨A, a1, yHc_c (fun p k p1 p2 => (i3.2 p k (by have := ycp_x 3; omega)).1) e3, r2⟩, ?_, fun _ => ⟨A, a1, yHc_c (fun p k p1 p2 => (i3.2 p k (by omega)).1) e2, r1⟩, ?_, ?_, yIm_g (yKq_f k2) a1 a4 r1 r2 g5⟩
    · rw [(i3.2 0 10 (by decide)).1, i1]; exact e4
    · rw [(i3.2 0 3 (by decide)).1, i2, (yKq_f k2) 82 0 rfl, k6 0 3 rfl]; exact g3
    · rw [(i3.2 0 4 (by decide)).1, i2, (yKq_f k2) 82 1 rfl, k6 0 4 rfl]; exact g4
theorem yb_restore {L : Nat} {σ : Nat → Int32} {d c t : Nat} {H : zp_H} (hI : yJ c t H) : ∃ H1 H2 v w, zp_Call L σ (d + 60) 47 [.inr (.inr (some 1))] H (.inl (some (.inl v)), H1) ∧ zp_Call L σ (d + 60) 250 [.inr (.inr (some 73))] H1 (.inl (some (.inl w)), H2) ∧ H1.1 = zB_sh ∧ yJ c t H2 ∧ v.toInt = w.toInt := by
  obtain ⟨hI, hG⟩ := hI
  obtain ⟨H1, v, c1, hI1⟩ := yo_restore (L := L) (σ := σ) (d := d) hI
  obtain ⟨H2, w, c2, hI2⟩ := yu_restore (L := L) (σ := σ) (d := d) hI1
  have W1 := zB_Wd (zB_dn (zB_Bc hI1.1.1))
  have r10 := zT_fr1 (z0T_dn hI.1.2.1) (k := 80) (r := (0, 1)) rfl rfl
  have r10 : 0 ≤ (H.2.1 72 80).toInt ∧ (H.2.1 72 80).toInt ≤ 1 := r10
  obtain ⟨⟨A, a1, a2, a3⟩, g1, g2, g3, g4, g5⟩ := id hG
  have h0 := hI.2.2.1
  rcases h0 with rfl | rfl
  · obtain ⟨y3, k2⟩ := yI_zf (e := ze_t23) hI (zc_t23 zB_W zh_all) c1 (by decide +kernel) (by show 2 ≤ d + 60; omega) ⟨rfl, trivial⟩ rfl
    have y3 : zk_Fr zg _ _ H H1 := y3
    have k2 : zf_C H H1 := k2
    have k6 : yKq yC1 H H1 := yKq_c (fun _ _ => yC1_0) y3 (by decide +kernel) (by decide +kernel)
    have kd := yKq_f k2
    have e10 : H1.2.1 72 80 = H.2.1 0 10 := (kd 72 80 rfl).trans g1.symm
    by_cases hn : (H.2.1 0 10).toInt = 0
    · have e9 := zp_Call_u c1 (yc_ren0 (L := L) (σ := σ) (d := 0) hI.1.1 hn)
      cases e9
      have e9 := zp_Call_u c2 (yx_res0 (L := L) (σ := σ) (d := 0) W1 (by rw [e10]; exact hn))
      cases e9
      have q : ∀ p k, ¬ (p = 72 ∧ k = 0) → (zw_I H 72 0 (Int32.ofInt 0)).2.1 p k = H.2.1 p k := fun p k hp => y_ne hp
      refine ⟨_, _, _, _, c1, c2, hI1.1.1.1, ⟨hI2, yGc_c (fun p k hp => q p k (fun h9 => by have := (yCx_0 hp).1; omega)) (fun p k hp => q p k (yDx_0 hp).2.2.2.1) hG⟩, hn⟩
    · obtain ⟨B, b1, b2, b3⟩ := g2 hn
      obtain ⟨_, e1, K, e2, e3, e4⟩ := yc_re0 (L := L) (σ := σ) (d := 0) hI.1.1 b1 b2 hn
      subst e2
      obtain ⟨rfl, rfl⟩ : v = H.2.1 0 10 ∧ K = H1 := by
        have e9 := zp_Call_u e1 c1
        cases e9
        exact ⟨rfl, rfl⟩
      obtain ⟨rfl, rfl⟩ : w = Int32.ofInt 1 ∧ H2 = yRs K := by
        have e9 := zp_Call_u c2 (yx_res1 (L := L) (σ := σ) (d := 0) W1 (by rw [e10]; exact hn))
        cases e9
        exact ⟨rfl, rfl⟩
      obtain ⟨i1, i2, i3⟩ := yRs_k (H := K)
      obtain ⟨r1, r2⟩ := yRs_r b1 (yHr_d2 kd b3)
      refine ⟨_, _, _, _, c1, c2, hI1.1.1.1, ⟨hI2, ⟨B, b1, yHc_c (fun p k p1 p2 => (i3.2 p k (by have := ycp_x 0; omega)).1) e3, r1⟩, ?_, fun _ => ⟨B, b1, yHc_c (fun p k p1 p2 => (i3.2 p k (by omega)).1) e4, r2⟩, ?_, ?_, yRs_g kd b3 r1 r2 (by rw [← g1]; exact hn) g5⟩, ?_⟩
      · rw [(i3.2 0 10 (by decide)).1, i1, e10, k6 0 10 rfl]
      · rw [(i3.2 0 3 (by decide)).1, i2, kd 82 0 rfl, k6 0 3 rfl]; exact g3
      · rw [(i3.2 0 4 (by decide)).1, i2, kd 82 1 rfl, k6 0 4 rfl]; exact g4
      · show (H.2.1 0 10).toInt = 1
        rw [← g1] at r10
        omega
  · obtain ⟨y3, k2⟩ := yI_zf (e := ze_t95) hI (zc_t95 zB_W zh_all) c1 (by decide +kernel) (by show 2 ≤ d + 60; omega) ⟨rfl, trivial⟩ rfl
    have y3 : zk_Fr zg _ _ H H1 := y3
    have k2 : zf_C H H1 := k2
    have k6 : yKq yC1 H H1 := yKq_c (fun _ _ => yC1_0) y3 (by decide +kernel) (by decide +kernel)
    have kd := yKq_f k2
    have e10 : H1.2.1 72 80 = H.2.1 0 10 := (kd 72 80 rfl).trans g1.symm
    by_cases hn : (H.2.1 0 10).toInt = 0
    · have e9 := zp_Call_u c1 (yc_ren3 (L := L) (σ := σ) (d := 0) hI.1.1 hn)
      cases e9
      have e9 := zp_Call_u c2 (yx_res0 (L := L) (σ := σ) (d := 0) W1 (by rw [e10]; exact hn))
      cases e9
      have q : ∀ p k, ¬ (p = 72 ∧ k = 0) → (zw_I H 72 0 (Int32.ofInt 0)).2.1 p k = H.2.1 p k := fun p k hp => y_ne hp
      refine ⟨_, _, _, _, c1, c2, hI1.1.1.1, ⟨hI2, yGc_c (fun p k hp => q p k (fun h9 => by have := (yCx_0 hp).1; omega)) (fun p k hp => q p k (yDx_0 hp).2.2.2.1) hG⟩, hn⟩
    · obtain ⟨B, b1, b2, b3⟩ := g2 hn
      obtain ⟨_, e1, K, e2, e3, e4⟩ := yc_re3 (L := L) (σ := σ) (d := 0) hI.1.1 b1 b2 hn
      subst e2
      obtain ⟨rfl, rfl⟩ : v = H.2.1 0 10 ∧ K = H1 := by
        have e9 := zp_Call_u e1 c1
        cases e9
        exact ⟨rfl, rfl⟩
      obtain ⟨rfl, rfl⟩ : w = Int32.ofInt 1 ∧ H2 = yRs K := by
        have e9 := zp_Call_u c2 (yx_res1 (L := L) (σ := σ) (d := 0) W1 (by rw [e10]; exact hn))
        cases e9
        exact ⟨rfl, rfl⟩
      obtain ⟨i1, i2, i3⟩ := yRs_k (H := K)
      obtain ⟨r1, r2⟩ := yRs_r b1 (yHr_d2 kd b3)
      refine ⟨_, _, _, _, c1, c2, hI1.1.1.1, ⟨hI2, ⟨B, b1, yHc_c (fun p k p1 p2 => (i3.2 p k (by have := ycp_x 3; omega)).1) e3, r1⟩, ?_, fun _ => ⟨B, b1, yHc_c (fun p k p1 p2 => (i3.2 p k (by omega)).1) e4, r2⟩, ?_, ?_, yRs_g kd b3 r1 r2 (by rw [← g1]; exact hn) g5⟩, ?_⟩
      · rw [(i3.2 0 10 (by decide)).1, i1, e10, k6 0 10 rfl]
      · rw [(i3.2 0 3 (by decide)).1, i2, kd 82 0 rfl, k6 0 3 rfl]; exact g3
      · rw [(i3.2 0 4 (by decide)).1, i2, kd 82 1 rfl, k6 0 4 rfl]; exact g4
      · show (H.2.1 0 10).toInt = 1
        rw [← g1] at r10
        omega
