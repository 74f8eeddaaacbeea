/-! ===== study ===== -/
def zm_137 : za_MI := (yL_study, method_15_code, 4, (some FieldType.int), 13, 1, 6, [(0, 9, 12, 18)], za_i137)
theorem zm_137_t : za_MT 137 = some zm_137 := rfl
def zm_138 : za_MI := (yX11_study, prog_1_method_20_code, 2, (some FieldType.int), 11, 1, 6, [], za_i138)
theorem zm_138_t : za_MT 138 = some zm_138 := rfl
/-- both sides keep the same row -/
def yFd (H : zp_H) : Prop := ((H.2.1 72 79).toInt = (H.2.1 60 11).toInt ∨ ((H.2.1 72 79).toInt = -1 ∧ (H.2.1 60 11).toInt = 0)) ∧ ∀ k : Nat, (k : Int) < (H.2.1 60 11).toInt → H.2.1 69 k = H.2.1 100 k
theorem yFd_k {H K : zp_H} (e1 : K.2.1 72 79 = H.2.1 72 79) (e2 : K.2.1 60 11 = H.2.1 60 11) (e3 : ∀ k, K.2.1 69 k = H.2.1 69 k) (e4 : ∀ k, K.2.1 100 k = H.2.1 100 k) (h : yFd H) : yFd K := by
  unfold yFd
  rw [e1, e2]
  exact ⟨h.1, fun k hk => (e3 k).trans ((h.2 k hk).trans (e4 k).symm)⟩

/-! which rows are good hangs on what is asked below N alone -/
section
variable {N : Nat} {A A' : Nat → Bool} {B B' : Nat → Nat → Bool} {G G' : Nat → Bool}
theorem tV_cg (hA : ∀ s, s < N → A s = A' s) (hB : ∀ t s, t < N → s < N → B t s = B' t s) : ∀ {r P : List Nat}, (∀ t, t ∈ P → t < N) → tV N A B P r → tV N A' B' P r
  | [], _, _, _ => trivial
  | s :: r, P, hP, h => by
    refine ⟨h.1, h.2.1, ?_, tV_cg hA hB (fun t ht => ?_) h.2.2.2⟩
    · rcases h.2.2.1 with h9 | ⟨t, h8, h9⟩
      · exact Or.inl (by rw [← hA s h.1]; exact h9)
      · exact Or.inr ⟨t, h8, by rw [← hB t s (hP t h8) h.1]; exact h9⟩
    · rcases List.mem_cons.mp ht with h9 | h9
      · rw [h9]
        exact h.1
      · exact hP t h9
theorem tOk_cg (hA : ∀ s, s < N → A s = A' s) (hB : ∀ t s, t < N → s < N → B t s = B' t s) (hG : ∀ a, a < 2 ^ N → G a = G' a) {m : Nat} {r : List Nat} (h : tOk N A B (tTs G) m r) : tOk N A' B' (tTs G') m r := by
  obtain ⟨h1, h2, a, a1, a2, a3⟩ := h
  have hlt : a < 2 ^ N := Nat.lt_pow_two_of_testBit a (fun i hi => by
    rw [a2 i]
    exact decide_eq_false (fun h9 => by have := (tV_p h2 i h9).1; omega))
  exact ⟨h1, tV_cg hA hB (fun t ht => absurd ht List.not_mem_nil) h2, a, a1, a2, by rw [← hG a hlt]; exact a3⟩
theorem tRs_cg (hA : ∀ s, s < N → A s = A' s) (hB : ∀ t s, t < N → s < N → B t s = B' t s) (hG : ∀ a, a < 2 ^ N → G a = G' a) {m : Nat} {q : List Nat} (h : tRs N A B G m q) : tRs N A' B' G' m q := by
  have hA' : ∀ s, s < N → A' s = A s := fun s hs => (hA s hs).symm
  have hB' : ∀ t s, t < N → s < N → B' t s = B t s := fun t s ht hs => (hB t s ht hs).symm
  have hG' : ∀ a, a < 2 ^ N → G' a = G a := fun a ha => (hG a ha).symm
  exact ⟨h.1, ⟨tOk_cg hA hB hG h.2.1.1, fun r hr => h.2.1.2 r (tOk_cg hA' hB' hG' hr)⟩, fun m' hm r hr => h.2.2 m' hm r (tOk_cg hA' hB' hG' hr)⟩
theorem tRs_u (hN : N ≤ 16) {m m' : Nat} {q q' : List Nat} (h : tRs N A B G m q) (h' : tRs N A B G m' q') : m = m' ∧ q = q' := by
  have e : m = m' := by
    refine Nat.le_antisymm (Nat.le_of_not_lt (fun h9 => ?_)) (Nat.le_of_not_lt (fun h9 => ?_))
    · exact h.2.2 m' h9 q' h'.2.1.1
    · exact h'.2.2 m h9 q h.2.1.1
  subst e
  exact ⟨rfl, tFi_u hN h.2.1 h'.2.1⟩
/-- both sides' answers -/
theorem tJo (hN : N ≤ 16) (hA : ∀ s, s < N → A s = A' s) (hB : ∀ t s, t < N → s < N → B t s = B' t s) (hG : ∀ a, a < 2 ^ N → G a = G' a) {lc lr : Int32} {X1 X2 : Prop} {Y1 Y2 : Nat → List Nat → Prop} (h1 : (lc = Int32.ofInt (-1) ∧ (∀ m, m ≤ N → ∀ r, ¬ tOk N A B (tTs G) m r) ∧ X1) ∨ ∃ m q, tRs N A B G m q ∧ lc = Int32.ofNat m ∧ Y1 m q) (h2 : (lr = Int32.ofInt (-1) ∧ (∀ m, m ≤ N → ∀ r, ¬ tOk N A' B' (tTs G') m r) ∧ X2) ∨ ∃ m q, tRs N A' B' G' m q ∧ lr = Int32.ofNat m ∧ Y2 m q) : lc = lr ∧ ((X1 ∧ X2) ∨ ∃ m q, tRs N A B G m q ∧ lc = Int32.ofNat m ∧ Y1 m q ∧ Y2 m q) := by
  have hA' : ∀ s, s < N → A' s = A s := fun s hs => (hA s hs).symm
  have hB' : ∀ t s, t < N → s < N → B' t s = B t s := fun t s ht hs => (hB t s ht hs).symm
  have hG' : ∀ a, a < 2 ^ N → G' a = G a := fun a ha => (hG a ha).symm
  rcases h1 with ⟨a1, a2, a3⟩ | ⟨m, q, a1, a2, a3⟩
  · rcases h2 with ⟨b1, b2, b3⟩ | ⟨m, q, b1, b2, b3⟩
    · exact ⟨a1.trans b1.symm, Or.inl ⟨a3, b3⟩⟩
    · exact absurd (tRs_cg hA' hB' hG' b1).2.1.1 (a2 m b1.1 q)
  · rcases h2 with ⟨b1, b2, b3⟩ | ⟨m', q', b1, b2, b3⟩
    · exact absurd (tRs_cg hA hB hG a1).2.1.1 (b2 m a1.1 q)
    · obtain ⟨e1, e2⟩ := tRs_u hN a1 (tRs_cg hA' hB' hG' b1)
      subst e1
      subst e2
      exact ⟨a2.trans b2.symm, Or.inr ⟨m, q, a1, a2, a3, b3⟩⟩
end
theorem tJ_ne {K : zp_H} {u : Int64} {p k : Nat} (h : ¬ p = 104) : (zw_J K 104 0 u).2.2.1 p k = K.2.2.1 p k := zp_u_ne (fun h9 => h h9.1)
theorem x_on {j : Nat} (h : j < 1000) : Int32.ofInt (j : Int) = Int32.ofNat j := Int32.toInt_inj.mp (by rw [tm_t9 h, x_of (by omega) (by omega)])

theorem yc_stu0 {L : Nat} {σ : Nat → Int32} {d : Nat} {H : zp_H} {x1 : Int32} (hB : zk_Bs (zB_c 0) zg zJc H) {S : xSea} {CC : Nat → List xIt} {N : Nat} (hS : xOk S) (hC : xSC 2 H S) (hCC : xCC 2 CC H) (hM : xMk9 S 13 H) (hp : 0 ≤ x1.toInt ∧ x1.toInt < (H.2.1 2 12).toInt) (hpc : xIn S (H.2.1 7 x1.toInt.toNat).toInt) (hn : (H.2.1 13 0).toInt = (N : Int)) : ∃ X, zp_Call L σ (d + 8) 138 [.inr (.inr (some 1)), .inl x1] H X ∧ ∃ K len H1, X = (.inl (some (.inl len)), K) ∧ zw_W K ∧ xFd H H1 ∧ (∀ j, j < N → H1.2.1 61 j = H.2.1 14 j ∧ H1.2.1 62 j = (xVyc S 13 H j).1 ∧ H1.2.2.1 63 j = xWk (xVyc S 13 H j)) ∧ tFw tQ9 H1 K ∧ tFO (tCd (tNb 2 H1 N (H1.2.1 2 9).toInt) (fun t => tNb 2 H1 N (H1.2.1 62 t).toInt) (tGd S CC 2 H1 x1 N)) N H1 K len := by
  have W := zB_Wd (zB_dn (zB_Bc hB))
  have g5 : H.2.2.2 0 5 = some 3 := hB.2.1 0 5 _ rfl
  have g6 : H.2.2.2 0 6 = some 14 := hB.2.1 0 6 _ rfl
  have g7 : H.2.2.2 0 7 = some 23 := hB.2.1 0 7 _ rfl
  have g8 : H.2.2.2 0 8 = some 34 := hB.2.1 0 8 _ rfl
  have r2_0 := zB_fr1 (zB_dn (zB_Bc hB)) (p := 2) (k := 0) (r := (2, 8)) rfl
  have r2_0 : 2 ≤ (H.2.1 2 0).toInt ∧ (H.2.1 2 0).toInt ≤ 8 := r2_0
  have r2_9 := zB_fr1 (zB_dn (zB_Bc hB)) (p := 2) (k := 9) (r := (0, 63)) rfl
  have r2_9 : 0 ≤ (H.2.1 2 9).toInt ∧ (H.2.1 2 9).toInt ≤ 63 := r2_9
  have r2_12 := zB_fr1 (zB_dn (zB_Bc hB)) (p := 2) (k := 12) (r := (0, 4)) rfl
  have r2_12 : 0 ≤ (H.2.1 2 12).toInt ∧ (H.2.1 2 12).toInt ≤ 4 := r2_12
  have hM0 := hM
  obtain ⟨M1, M2, M3, M4⟩ := hM0
  obtain ⟨_, q1, H1, rfl, W1, q2, q3, q4⟩ := yc_le2 (L := L) (σ := σ) (d := d + 1) hS hC M1 M2 M3 M4 W
  have f : ∀ q k, q < 54 → H1.2.1 q k = H.2.1 q k := fun q k hq => q2.2.2.1 q k (by omega) (by omega) (by omega)
  have f1 : ∀ q k, q < 54 → H1.2.2.1 q k = H.2.2.1 q k := fun q k hq => q2.2.2.2 q k (by omega) (by omega)
  have hN8 : N ≤ 8 := by omega
  have hn1 : (H1.2.1 60 0).toInt = (N : Int) := by rw [q3]; exact hn
  have ld : ∀ j, j < N → xLd S 13 H H1 j := fun j hj => q4 j (by omega)
  have h64 : ∀ j, j < N → H1.2.1 64 j = xLo (H1.2.2.1 63) (Int32.ofNat j) := fun j hj => by
    have t9 := tm_to (a := j) (by omega)
    rw [(ld j hj).2.2.2, x_on (by omega)]
    exact xLo_c ⟨by omega, by omega⟩ (fun i hi => ((ld i (by omega)).2.2.1).symm)
  have b61 : ∀ s, s < N → 0 ≤ (H1.2.1 61 s).toInt ∧ (H1.2.1 61 s).toInt ≤ 63 := fun s hs => by
    rw [(ld s hs).1]
    exact xIn_64 hS (M4 s (by omega))
  have b62 : ∀ s, s < N → 0 ≤ (H1.2.1 62 s).toInt ∧ (H1.2.1 62 s).toInt ≤ 63 := fun s hs => by
    rw [(ld s hs).2.1]
    exact xIn_64 hS (xVy_b hS _ _ _ _ (M4 s (by omega))).1
  obtain ⟨_, b1, K, len, rfl, W2, b2, b3⟩ := yc_fd2 (L := L) (σ := σ) (d := d) (H0 := H1) (p := x1) (N := N) W1 hS (xSC_w (by decide) f f1 hC) (xCC_v (by decide) (fun q k hq => f q k hq) hCC) ⟨hp.1, by omega⟩ (by rw [f 7 _ (by decide)]; exact hpc) hN8 hn1 h64 (by rw [f 2 0 (by decide)]; exact r2_0.1) (by rw [f 2 9 (by decide)]; exact r2_9) b61 b62
  refine zw_met zm_138_t rfl rfl ?_
  refine zw_ld (n := 1) (k := 0) (f := zp_isR) (pc' := 1) rfl rfl rfl rfl rfl ?_
  refine zw_ld (n := 1) (k := 1) (f := zp_isI) (pc' := 2) rfl rfl rfl rfl rfl ?_
  refine zw_ctn (pc' := 5) (c' := (1, 6)) (zw_cv (q := 0) (Y := zm_134) W.1 rfl rfl zm_134_t rfl rfl) (zw_pb_ok rfl) rfl rfl rfl rfl (yc_np1_0 hB hp) ?_
  refine zw_ld (n := 1) (k := 0) (f := zp_isR) (pc' := 6) rfl rfl rfl rfl rfl ?_
  refine zw_gR (q := 0) (pc' := 9) W rfl rfl rfl rfl (W.2 0 15 _ rfl) rfl ?_
  refine zw_ld (n := 1) (k := 0) (f := zp_isR) (pc' := 10) rfl rfl rfl rfl rfl ?_
  refine zw_gR (q := 0) (pc' := 13) W rfl rfl rfl rfl g5 rfl ?_
  refine zw_ld (n := 1) (k := 0) (f := zp_isR) (pc' := 14) rfl rfl rfl rfl rfl ?_
  refine zw_gR (q := 0) (pc' := 17) W rfl rfl rfl rfl g6 rfl ?_
  refine zw_ld (n := 1) (k := 0) (f := zp_isR) (pc' := 18) rfl rfl rfl rfl rfl ?_
  refine zw_gR (q := 0) (pc' := 21) W rfl rfl rfl rfl (W.2 0 12 _ rfl) rfl ?_
  refine zw_cn (pc' := 24) (zw_cv (q := 60) (Y := zm_139) W.1 rfl rfl zm_139_t rfl rfl) rfl rfl rfl rfl rfl (q1) ?_
  have g5' : H1.2.2.2 0 5 = some 3 := by
    rw [q2.2.1]
    exact g5
  have g6' : H1.2.2.2 0 6 = some 14 := by
    rw [q2.2.1]
    exact g6
  have g7' : H1.2.2.2 0 7 = some 23 := by
    rw [q2.2.1]
    exact g7
  have g8' : H1.2.2.2 0 8 = some 34 := by
    rw [q2.2.1]
    exact g8
  refine zw_ld (n := 1) (k := 0) (f := zp_isR) (pc' := 25) rfl rfl rfl rfl rfl ?_
  refine zw_gR (q := 0) (pc' := 28) W1 rfl rfl rfl rfl (W1.2 0 15 _ rfl) rfl ?_
  refine zw_ld (n := 1) (k := 0) (f := zp_isR) (pc' := 29) rfl rfl rfl rfl rfl ?_
  refine zw_gR (q := 0) (pc' := 32) W1 rfl rfl rfl rfl g5' rfl ?_
  refine zw_ld (n := 1) (k := 0) (f := zp_isR) (pc' := 33) rfl rfl rfl rfl rfl ?_
  refine zw_gR (q := 0) (pc' := 36) W1 rfl rfl rfl rfl (W1.2 0 14 _ rfl) rfl ?_
  refine zw_ld (n := 1) (k := 1) (f := zp_isI) (pc' := 37) rfl rfl rfl rfl rfl ?_
  refine zw_c (pc' := 40) (zw_cv (q := 60) (Y := zm_141) W1.1 rfl rfl zm_141_t rfl rfl) rfl rfl rfl rfl rfl (b1) ?_
  refine zw_rig rfl rfl ⟨by decide, by decide⟩ ?_
  exact ⟨K, len, H1, rfl, W2, q2, fun j hj => ⟨(ld j hj).1, (ld j hj).2.1, (ld j hj).2.2.1⟩, b2, b3⟩

theorem yl_stu0 {L : Nat} {σ : Nat → Int32} {d : Nat} {H : zp_H} {x1 : Int32} (hB : zk_Bs (zB_c 0) zg zJc H) {S : xSea} {CC : Nat → List xIt} {N : Nat} (hS : xOk S) (hC : xSC 2 H S) (hCC : xCC 2 CC H) (hM : xMk9 S 13 H) (hp : 0 ≤ x1.toInt ∧ x1.toInt < (H.2.1 2 12).toInt) (hpc : xIn S (H.2.1 7 x1.toInt.toNat).toInt) (hn : (H.2.1 13 0).toInt = (N : Int)) : ∃ K len H1, zp_Call L σ (d + 9) 137 [.inr (.inr (some 1)), .inl x1, .inr (.inr (some 105))] H (.inl (some (.inl (Int32.ofInt 0))), zw_J K 104 0 len.toInt64) ∧ zw_W K ∧ xFd H H1 ∧ (∀ j, j < N → H1.2.1 61 j = H.2.1 14 j ∧ H1.2.1 62 j = (xVyc S 13 H j).1 ∧ H1.2.2.1 63 j = xWk (xVyc S 13 H j)) ∧ tFw tQ9 H1 K ∧ tFO (tCd (tNb 2 H1 N (H1.2.1 2 9).toInt) (fun t => tNb 2 H1 N (H1.2.1 62 t).toInt) (tGd S CC 2 H1 x1 N)) N H1 K len := by
  obtain ⟨_, q1, K, len, H1, rfl, W1, q2, q3, q4, q5⟩ := yc_stu0 (L := L) (σ := σ) (d := d) hB hS hC hCC hM hp hpc hn
  have W := zB_Wd (zB_dn (zB_Bc hB))
  refine ⟨K, len, H1, zw_ex (zw_met zm_137_t rfl rfl ?_), W1, q2, q3, q4, q5⟩
  refine zw_ld (n := 1) (k := 2) (f := zp_isR) (pc' := 1) rfl rfl rfl rfl rfl ?_
  refine zw_s (pc' := 2) rfl rfl ?_
  refine zw_ld (n := 1) (k := 0) (f := zp_isR) (pc' := 3) rfl rfl rfl rfl rfl ?_
  refine zw_ld (n := 1) (k := 1) (f := zp_isI) (pc' := 4) rfl rfl rfl rfl rfl ?_
  refine zw_ct (pc' := 7) (c' := (1, 6)) (zw_cv (q := 0) (Y := zm_138) W.1 rfl rfl zm_138_t rfl rfl) (zw_pb_ok rfl) rfl rfl rfl rfl (q1) ?_
  refine zw_s (pc' := 8) rfl rfl ?_
  refine zw_ls (q := 104) (pc' := 9) W1 rfl rfl (⟨by decide, by decide⟩) rfl ?_
  refine zw_s (pc' := 15) rfl rfl ?_
  refine zw_s (pc' := 16) rfl rfl ?_
  refine zw_rig rfl rfl ⟨by decide, by decide⟩ ?_
  rfl

theorem yc_stun0 {L : Nat} {σ : Nat → Int32} {d : Nat} {H : zp_H} {x1 : Int32} (hB : zk_Bs (zB_c 0) zg zJc H) (h : ¬ (0 ≤ x1.toInt ∧ x1.toInt < (H.2.1 2 12).toInt)) : zp_Call L σ (d + 2) 138 [.inr (.inr (some 1)), .inl x1] H (.inr 0, H) := by
  have W := zB_Wd (zB_dn (zB_Bc hB))
  have g5 : H.2.2.2 0 5 = some 3 := hB.2.1 0 5 _ rfl
  have g6 : H.2.2.2 0 6 = some 14 := hB.2.1 0 6 _ rfl
  have g7 : H.2.2.2 0 7 = some 23 := hB.2.1 0 7 _ rfl
  have g8 : H.2.2.2 0 8 = some 34 := hB.2.1 0 8 _ rfl
  refine zw_ex (zw_met zm_138_t rfl rfl ?_)
  refine zw_ld (n := 1) (k := 0) (f := zp_isR) (pc' := 1) rfl rfl rfl rfl rfl ?_
  refine zw_ld (n := 1) (k := 1) (f := zp_isI) (pc' := 2) rfl rfl rfl rfl rfl ?_
  refine zw_cthr (ex := 0) (zw_cv (q := 0) (Y := zm_134) W.1 rfl rfl zm_134_t rfl rfl) (zw_pb_ok rfl) rfl rfl (yc_np0_0 hB h) ?_
  rfl

theorem yl_stun0 {L : Nat} {σ : Nat → Int32} {d : Nat} {H : zp_H} {x1 : Int32} (hB : zk_Bs (zB_c 0) zg zJc H) (h : ¬ (0 ≤ x1.toInt ∧ x1.toInt < (H.2.1 2 12).toInt)) : zp_Call L σ (d + 3) 137 [.inr (.inr (some 1)), .inl x1, .inr (.inr (some 105))] H (.inl (some (.inl (Int32.ofInt 1))), H) := by
  have W := zB_Wd (zB_dn (zB_Bc hB))
  refine zw_ex (zw_met zm_137_t rfl rfl ?_)
  refine zw_ld (n := 1) (k := 2) (f := zp_isR) (pc' := 1) rfl rfl rfl rfl rfl ?_
  refine zw_s (pc' := 2) rfl rfl ?_
  refine zw_ld (n := 1) (k := 0) (f := zp_isR) (pc' := 3) rfl rfl rfl rfl rfl ?_
  refine zw_ld (n := 1) (k := 1) (f := zp_isI) (pc' := 4) rfl rfl rfl rfl rfl ?_
  refine zw_cex (ex := 0) (hp9 := 12) (pc' := 13) (c' := (1, 6)) (zw_cv (q := 0) (Y := zm_138) W.1 rfl rfl zm_138_t rfl rfl) (zw_pb_ok rfl) rfl rfl rfl rfl rfl rfl rfl (yc_stun0 hB h) ?_
  refine zw_s (pc' := 14) rfl rfl ?_
  refine zw_rig rfl rfl ⟨by decide, by decide⟩ ?_
  rfl

theorem yc_stu3 {L : Nat} {σ : Nat → Int32} {d : Nat} {H : zp_H} {x1 : Int32} (hB : zk_Bs (zB_c 3) zg zJc H) {S : xSea} {CC : Nat → List xIt} {N : Nat} (hS : xOk S) (hC : xSC 22 H S) (hCC : xCC 22 CC H) (hM : xMk9 S 33 H) (hp : 0 ≤ x1.toInt ∧ x1.toInt < (H.2.1 22 12).toInt) (hpc : xIn S (H.2.1 27 x1.toInt.toNat).toInt) (hn : (H.2.1 33 0).toInt = (N : Int)) : ∃ X, zp_Call L σ (d + 8) 138 [.inr (.inr (some 1)), .inl x1] H X ∧ ∃ K len H1, X = (.inl (some (.inl len)), K) ∧ zw_W K ∧ xFd H H1 ∧ (∀ j, j < N → H1.2.1 61 j = H.2.1 34 j ∧ H1.2.1 62 j = (xVyc S 33 H j).1 ∧ H1.2.2.1 63 j = xWk (xVyc S 33 H j)) ∧ tFw tQ9 H1 K ∧ tFO (tCd (tNb 22 H1 N (H1.2.1 22 9).toInt) (fun t => tNb 22 H1 N (H1.2.1 62 t).toInt) (tGd S CC 22 H1 x1 N)) N H1 K len := by
  have W := zB_Wd (zB_dn (zB_Bc hB))
  have g5 : H.2.2.2 0 5 = some 23 := hB.2.1 0 5 _ rfl
  have g6 : H.2.2.2 0 6 = some 34 := hB.2.1 0 6 _ rfl
  have g7 : H.2.2.2 0 7 = some 3 := hB.2.1 0 7 _ rfl
  have g8 : H.2.2.2 0 8 = some 14 := hB.2.1 0 8 _ rfl
  have r22_0 := zB_fr1 (zB_dn (zB_Bc hB)) (p := 22) (k := 0) (r := (2, 8)) rfl
  have r22_0 : 2 ≤ (H.2.1 22 0).toInt ∧ (H.2.1 22 0).toInt ≤ 8 := r22_0
  have r22_9 := zB_fr1 (zB_dn (zB_Bc hB)) (p := 22) (k := 9) (r := (0, 63)) rfl
  have r22_9 : 0 ≤ (H.2.1 22 9).toInt ∧ (H.2.1 22 9).toInt ≤ 63 := r22_9
  have r22_12 := zB_fr1 (zB_dn (zB_Bc hB)) (p := 22) (k := 12) (r := (0, 4)) rfl
  have r22_12 : 0 ≤ (H.2.1 22 12).toInt ∧ (H.2.1 22 12).toInt ≤ 4 := r22_12
  have hM0 := hM
  obtain ⟨M1, M2, M3, M4⟩ := hM0
  obtain ⟨_, q1, H1, rfl, W1, q2, q3, q4⟩ := yc_le22 (L := L) (σ := σ) (d := d + 1) hS hC M1 M2 M3 M4 W
  have f : ∀ q k, q < 54 → H1.2.1 q k = H.2.1 q k := fun q k hq => q2.2.2.1 q k (by omega) (by omega) (by omega)
  have f1 : ∀ q k, q < 54 → H1.2.2.1 q k = H.2.2.1 q k := fun q k hq => q2.2.2.2 q k (by omega) (by omega)
  have hN8 : N ≤ 8 := by omega
  have hn1 : (H1.2.1 60 0).toInt = (N : Int) := by rw [q3]; exact hn
  have ld : ∀ j, j < N → xLd S 33 H H1 j := fun j hj => q4 j (by omega)
  have h64 : ∀ j, j < N → H1.2.1 64 j = xLo (H1.2.2.1 63) (Int32.ofNat j) := fun j hj => by
    have t9 := tm_to (a := j) (by omega)
    rw [(ld j hj).2.2.2, x_on (by omega)]
    exact xLo_c ⟨by omega, by omega⟩ (fun i hi => ((ld i (by omega)).2.2.1).symm)
  have b61 : ∀ s, s < N → 0 ≤ (H1.2.1 61 s).toInt ∧ (H1.2.1 61 s).toInt ≤ 63 := fun s hs => by
    rw [(ld s hs).1]
    exact xIn_64 hS (M4 s (by omega))
  have b62 : ∀ s, s < N → 0 ≤ (H1.2.1 62 s).toInt ∧ (H1.2.1 62 s).toInt ≤ 63 := fun s hs => by
    rw [(ld s hs).2.1]
    exact xIn_64 hS (xVy_b hS _ _ _ _ (M4 s (by omega))).1
  obtain ⟨_, b1, K, len, rfl, W2, b2, b3⟩ := yc_fd22 (L := L) (σ := σ) (d := d) (H0 := H1) (p := x1) (N := N) W1 hS (xSC_w (by decide) f f1 hC) (xCC_v (by decide) (fun q k hq => f q k hq) hCC) ⟨hp.1, by omega⟩ (by rw [f 27 _ (by decide)]; exact hpc) hN8 hn1 h64 (by rw [f 22 0 (by decide)]; exact r22_0.1) (by rw [f 22 9 (by decide)]; exact r22_9) b61 b62
  refine zw_met zm_138_t rfl rfl ?_
  refine zw_ld (n := 1) (k := 0) (f := zp_isR) (pc' := 1) rfl rfl rfl rfl rfl ?_
  refine zw_ld (n := 1) (k := 1) (f := zp_isI) (pc' := 2) rfl rfl rfl rfl rfl ?_
  refine zw_ctn (pc' := 5) (c' := (1, 6)) (zw_cv (q := 0) (Y := zm_134) W.1 rfl rfl zm_134_t rfl rfl) (zw_pb_ok rfl) rfl rfl rfl rfl (yc_np1_3 hB hp) ?_
  refine zw_ld (n := 1) (k := 0) (f := zp_isR) (pc' := 6) rfl rfl rfl rfl rfl ?_
  refine zw_gR (q := 0) (pc' := 9) W rfl rfl rfl rfl (W.2 0 15 _ rfl) rfl ?_
  refine zw_ld (n := 1) (k := 0) (f := zp_isR) (pc' := 10) rfl rfl rfl rfl rfl ?_
  refine zw_gR (q := 0) (pc' := 13) W rfl rfl rfl rfl g5 rfl ?_
  refine zw_ld (n := 1) (k := 0) (f := zp_isR) (pc' := 14) rfl rfl rfl rfl rfl ?_
  refine zw_gR (q := 0) (pc' := 17) W rfl rfl rfl rfl g6 rfl ?_
  refine zw_ld (n := 1) (k := 0) (f := zp_isR) (pc' := 18) rfl rfl rfl rfl rfl ?_
  refine zw_gR (q := 0) (pc' := 21) W rfl rfl rfl rfl (W.2 0 12 _ rfl) rfl ?_
  refine zw_cn (pc' := 24) (zw_cv (q := 60) (Y := zm_139) W.1 rfl rfl zm_139_t rfl rfl) rfl rfl rfl rfl rfl (q1) ?_
  have g5' : H1.2.2.2 0 5 = some 23 := by
    rw [q2.2.1]
    exact g5
  have g6' : H1.2.2.2 0 6 = some 34 := by
    rw [q2.2.1]
    exact g6
  have g7' : H1.2.2.2 0 7 = some 3 := by
    rw [q2.2.1]
    exact g7
  have g8' : H1.2.2.2 0 8 = some 14 := by
    rw [q2.2.1]
    exact g8
  refine zw_ld (n := 1) (k := 0) (f := zp_isR) (pc' := 25) rfl rfl rfl rfl rfl ?_
  refine zw_gR (q := 0) (pc' := 28) W1 rfl rfl rfl rfl (W1.2 0 15 _ rfl) rfl ?_
  refine zw_ld (n := 1) (k := 0) (f := zp_isR) (pc' := 29) rfl rfl rfl rfl rfl ?_
  refine zw_gR (q := 0) (pc' := 32) W1 rfl rfl rfl rfl g5' rfl ?_
  refine zw_ld (n := 1) (k := 0) (f := zp_isR) (pc' := 33) rfl rfl rfl rfl rfl ?_
  refine zw_gR (q := 0) (pc' := 36) W1 rfl rfl rfl rfl (W1.2 0 14 _ rfl) rfl ?_
  refine zw_ld (n := 1) (k := 1) (f := zp_isI) (pc' := 37) rfl rfl rfl rfl rfl ?_
  refine zw_c (pc' := 40) (zw_cv (q := 60) (Y := zm_141) W1.1 rfl rfl zm_141_t rfl rfl) rfl rfl rfl rfl rfl (b1) ?_
  refine zw_rig rfl rfl ⟨by decide, by decide⟩ ?_
  exact ⟨K, len, H1, rfl, W2, q2, fun j hj => ⟨(ld j hj).1, (ld j hj).2.1, (ld j hj).2.2.1⟩, b2, b3⟩

theorem yl_stu3 {L : Nat} {σ : Nat → Int32} {d : Nat} {H : zp_H} {x1 : Int32} (hB : zk_Bs (zB_c 3) zg zJc H) {S : xSea} {CC : Nat → List xIt} {N : Nat} (hS : xOk S) (hC : xSC 22 H S) (hCC : xCC 22 CC H) (hM : xMk9 S 33 H) (hp : 0 ≤ x1.toInt ∧ x1.toInt < (H.2.1 22 12).toInt) (hpc : xIn S (H.2.1 27 x1.toInt.toNat).toInt) (hn : (H.2.1 33 0).toInt = (N : Int)) : ∃ K len H1, zp_Call L σ (d + 9) 137 [.inr (.inr (some 1)), .inl x1, .inr (.inr (some 105))] H (.inl (some (.inl (Int32.ofInt 0))), zw_J K 104 0 len.toInt64) ∧ zw_W K ∧ xFd H H1 ∧ (∀ j, j < N → H1.2.1 61 j = H.2.1 34 j ∧ H1.2.1 62 j = (xVyc S 33 H j).1 ∧ H1.2.2.1 63 j = xWk (xVyc S 33 H j)) ∧ tFw tQ9 H1 K ∧ tFO (tCd (tNb 22 H1 N (H1.2.1 22 9).toInt) (fun t => tNb 22 H1 N (H1.2.1 62 t).toInt) (tGd S CC 22 H1 x1 N)) N H1 K len := by
  obtain ⟨_, q1, K, len, H1, rfl, W1, q2, q3, q4, q5⟩ := yc_stu3 (L := L) (σ := σ) (d := d) hB hS hC hCC hM hp hpc hn
  have W := zB_Wd (zB_dn (zB_Bc hB))
  refine ⟨K, len, H1, zw_ex (zw_met zm_137_t rfl rfl ?_), W1, q2, q3, q4, q5⟩
  refine zw_ld (n := 1) (k := 2) (f := zp_isR) (pc' := 1) rfl rfl rfl rfl rfl ?_
  refine zw_s (pc' := 2) rfl rfl ?_
  refine zw_ld (n := 1) (k := 0) (f := zp_isR) (pc' := 3) rfl rfl rfl rfl rfl ?_
  refine zw_ld (n := 1) (k := 1) (f := zp_isI) (pc' := 4) rfl rfl rfl rfl rfl ?_
  refine zw_ct (pc' := 7) (c' := (1, 6)) (zw_cv (q := 0) (Y := zm_138) W.1 rfl rfl zm_138_t rfl rfl) (zw_pb_ok rfl) rfl rfl rfl rfl (q1) ?_
  refine zw_s (pc' := 8) rfl rfl ?_
  refine zw_ls (q := 104) (pc' := 9) W1 rfl rfl (⟨by decide, by decide⟩) rfl ?_
  refine zw_s (pc' := 15) rfl rfl ?_
  refine zw_s (pc' := 16) rfl rfl ?_
  refine zw_rig rfl rfl ⟨by decide, by decide⟩ ?_
  rfl

theorem yc_stun3 {L : Nat} {σ : Nat → Int32} {d : Nat} {H : zp_H} {x1 : Int32} (hB : zk_Bs (zB_c 3) zg zJc H) (h : ¬ (0 ≤ x1.toInt ∧ x1.toInt < (H.2.1 22 12).toInt)) : zp_Call L σ (d + 2) 138 [.inr (.inr (some 1)), .inl x1] H (.inr 0, H) := by
  have W := zB_Wd (zB_dn (zB_Bc hB))
  have g5 : H.2.2.2 0 5 = some 23 := hB.2.1 0 5 _ rfl
  have g6 : H.2.2.2 0 6 = some 34 := hB.2.1 0 6 _ rfl
  have g7 : H.2.2.2 0 7 = some 3 := hB.2.1 0 7 _ rfl
  have g8 : H.2.2.2 0 8 = some 14 := hB.2.1 0 8 _ rfl
  refine zw_ex (zw_met zm_138_t rfl rfl ?_)
  refine zw_ld (n := 1) (k := 0) (f := zp_isR) (pc' := 1) rfl rfl rfl rfl rfl ?_
  refine zw_ld (n := 1) (k := 1) (f := zp_isI) (pc' := 2) rfl rfl rfl rfl rfl ?_
  refine zw_cthr (ex := 0) (zw_cv (q := 0) (Y := zm_134) W.1 rfl rfl zm_134_t rfl rfl) (zw_pb_ok rfl) rfl rfl (yc_np0_3 hB h) ?_
  rfl

theorem yl_stun3 {L : Nat} {σ : Nat → Int32} {d : Nat} {H : zp_H} {x1 : Int32} (hB : zk_Bs (zB_c 3) zg zJc H) (h : ¬ (0 ≤ x1.toInt ∧ x1.toInt < (H.2.1 22 12).toInt)) : zp_Call L σ (d + 3) 137 [.inr (.inr (some 1)), .inl x1, .inr (.inr (some 105))] H (.inl (some (.inl (Int32.ofInt 1))), H) := by
  have W := zB_Wd (zB_dn (zB_Bc hB))
  refine zw_ex (zw_met zm_137_t rfl rfl ?_)
  refine zw_ld (n := 1) (k := 2) (f := zp_isR) (pc' := 1) rfl rfl rfl rfl rfl ?_
  refine zw_s (pc' := 2) rfl rfl ?_
  refine zw_ld (n := 1) (k := 0) (f := zp_isR) (pc' := 3) rfl rfl rfl rfl rfl ?_
  refine zw_ld (n := 1) (k := 1) (f := zp_isI) (pc' := 4) rfl rfl rfl rfl rfl ?_
  refine zw_cex (ex := 0) (hp9 := 12) (pc' := 13) (c' := (1, 6)) (zw_cv (q := 0) (Y := zm_138) W.1 rfl rfl zm_138_t rfl rfl) (zw_pb_ok rfl) rfl rfl rfl rfl rfl rfl rfl (yc_stun3 hB h) ?_
  refine zw_s (pc' := 14) rfl rfl ?_
  refine zw_rig rfl rfl ⟨by decide, by decide⟩ ?_
  rfl

theorem xSR_e {H K : zp_H} {S : xSea} (e : ∀ k, ¬ k = 0 → K.2.1 72 k = H.2.1 72 k) (e73 : ∀ k, K.2.1 73 k = H.2.1 73 k) (e12 : K.2.2.1 72 12 = H.2.2.1 72 12) (hR : xSR H S) : xSR K S := ⟨(congrArg Int32.toInt (e 1 (by decide))).trans hR.1, (congrArg Int32.toInt (e 2 (by decide))).trans hR.2.1, e12.trans hR.2.2.1, fun k hk => (congrArg Int32.toInt (e73 k)).trans (hR.2.2.2 k hk)⟩

theorem xJ_c0 {t : Nat} {H : zp_H} (hI : yJ 0 t H) : ∀ s : Nat, (s : Int) < (H.2.1 72 5).toInt → H.2.1 14 s = H.2.1 74 (4 * s) := fun s hs => by
  obtain ⟨⟨A, a1, a2, a3⟩, -⟩ := id hI.2
  have n5 := a3.1
  have e : H.2.1 14 s = A.2.2.1 s 0 := a2.2.2.1 s 0 (by omega) (by decide)
  have e2 : H.2.1 74 (4 * s) = A.2.2.1 s 0 := a3.2.2.1 s 0 (by omega) (by decide)
  rw [e, ← e2]

theorem xJ_c3 {t : Nat} {H : zp_H} (hI : yJ 3 t H) : ∀ s : Nat, (s : Int) < (H.2.1 72 5).toInt → H.2.1 34 s = H.2.1 74 (4 * s) := fun s hs => by
  obtain ⟨⟨A, a1, a2, a3⟩, -⟩ := id hI.2
  have n5 := a3.1
  have e : H.2.1 34 s = A.2.2.1 s 0 := a2.2.2.1 s 0 (by omega) (by decide)
  have e2 : H.2.1 74 (4 * s) = A.2.2.1 s 0 := a3.2.2.1 s 0 (by omega) (by decide)
  rw [e, ← e2]

theorem yb_study {L : Nat} {σ : Nat → Int32} {d c t : Nat} {H : zp_H} {x1 : Int32} (hI : yJ c t H) : ∃ H1 H2 v w, zp_Call L σ (d + 60) 137 [.inr (.inr (some 1)), .inl x1, .inr (.inr (some 105))] H (.inl (some (.inl v)), H1) ∧ zp_Call L σ (d + 60) 237 [.inr (.inr (some 73)), .inl x1] H1 (.inl (some (.inl w)), H2) ∧ H1.1 = zB_sh ∧ yJ c t H2 ∧ (H2.2.1 72 0).toInt = v.toInt ∧ (v.toInt = 0 → H2.2.2.1 104 0 = w.toInt64) ∧ (yFd H → yFd H2) := by
  obtain ⟨H1, v, c1, hI1⟩ := yp_study (L := L) (σ := σ) (d := d) (x1 := x1) hI
  obtain ⟨H2, w, c2, hI2⟩ := yq_study (L := L) (σ := σ) (d := d) (x1 := x1) hI1
  have W1 := zB_Wd (zB_dn (zB_Bc hI1.1.1.1))
  have h0 := hI.1.2.2.1
  rcases h0 with rfl | rfl
  · obtain ⟨hS, hC⟩ := xJ_S0 hI
    obtain ⟨CC, hCC, hCR, e16, e79, e12, e77, e11, b7⟩ := xJ_C0 hI
    obtain ⟨m1, m2, e05, m3, m4⟩ := xJ_M0 hI
    obtain ⟨-, g2, -, -, -, -, -, -⟩ := id hI.1.2.2
    have e0 : H.2.1 2 0 = H.2.1 72 1 := g2 (0, 1) (by decide)
    have e9 : H.2.1 2 9 = H.2.1 72 9 := g2 (9, 9) (by decide)
    have e10 : H.2.1 2 10 = H.2.1 72 10 := g2 (10, 10) (by decide)
    have r0 := zB_fr1 (zB_dn (zB_Bc hI.1.1.1)) (p := 2) (k := 0) (r := (2, 8)) rfl
    have r0 : 2 ≤ (H.2.1 2 0).toInt ∧ (H.2.1 2 0).toInt ≤ 8 := r0
    have r9 := zB_fr1 (zB_dn (zB_Bc hI.1.1.1)) (p := 2) (k := 9) (r := (0, 63)) rfl
    have r9 : 0 ≤ (H.2.1 2 9).toInt ∧ (H.2.1 2 9).toInt ≤ 63 := r9
    obtain ⟨N, hN⟩ : ∃ N : Nat, (H.2.1 72 5).toInt = (N : Int) := ⟨(H.2.1 72 5).toInt.toNat, by have := m2.1; omega⟩
    have hN8 : N ≤ 8 := by have := m2.1; omega
    by_cases h : 0 ≤ x1.toInt ∧ x1.toInt < (H.2.1 72 7).toInt
    · have hp' : 0 ≤ x1.toInt ∧ x1.toInt < (H.2.1 2 12).toInt := by rw [e12]; exact h
      have hpn : (x1.toInt.toNat : Int) < (H.2.1 72 7).toInt := by omega
      obtain ⟨p5, p6⟩ := e77 _ hpn
      have hpc : xIn (xSo H) (H.2.1 77 (3 * x1.toInt.toNat)).toInt := m3 _ hpn
      obtain ⟨K, len, H9, k1, W2, k2, k3, k4, k5⟩ := yl_stu0 (L := L) (σ := σ) (d := d + 51) (S := xSo H) (CC := CC) (N := N) hI.1.1.1 hS hC hCC m1 hp' (by rw [p5]; exact hpc) (by rw [e05]; exact hN)
      have e1 := zp_Call_u c1 k1
      cases e1
      have g70 : ∀ p k, 70 ≤ p → K.2.1 p k = H.2.1 p k := fun p k hp => (k4.2.2.1 p k (by unfold tQ9 tQh; omega)).trans (k2.2.2.1 p k (by omega) (by omega) (by omega))
      have l70 : ∀ p k, 70 ≤ p → K.2.2.1 p k = H.2.2.1 p k := fun p k hp => (k4.2.2.2 p k (by omega) (by omega)).trans (k2.2.2.2 p k (by omega) (by omega))
      have g : ∀ p k, 70 ≤ p → ¬ (p = 72 ∧ k = 0) → (zw_I (zw_J K 104 0 len.toInt64) 72 0 (Int32.ofInt 0)).2.1 p k = H.2.1 p k := fun p k hp hk => (y_ne hk).trans (g70 p k hp)
      have gn : ∀ p k, 73 ≤ p → (zw_I (zw_J K 104 0 len.toInt64) 72 0 (Int32.ofInt 0)).2.1 p k = H.2.1 p k := fun p k hp => g p k (by omega) (by omega)
      have g72 : ∀ k, ¬ k = 0 → (zw_I (zw_J K 104 0 len.toInt64) 72 0 (Int32.ofInt 0)).2.1 72 k = H.2.1 72 k := fun k hk => g 72 k (by decide) (fun h9 => hk h9.2)
      have l12 : (zw_I (zw_J K 104 0 len.toInt64) 72 0 (Int32.ofInt 0)).2.2.1 72 12 = H.2.2.1 72 12 := (tJ_ne (K := K) (u := len.toInt64) (p := 72) (k := 12) (by decide)).trans (l70 72 12 (by decide))
      have k72 : ∀ k, (zw_J K 104 0 len.toInt64).2.1 72 k = H.2.1 72 k := fun k => g70 72 k (by decide)
      have eV : ∀ t, t < N → xVyr (xSo H) (zw_I (zw_J K 104 0 len.toInt64) 72 0 (Int32.ofInt 0)) t = xVyc (xSo H) 13 H t := fun t ht => m4 _ (fun k => gn 74 k (by decide)) (fun k => gn 75 k (by decide)) t (by omega)
      obtain ⟨_, j1, J, lr, J1, rfl, j2, j3, j4, j5, j6, j7, j8⟩ := yst_stu (L := L) (σ := σ) (d := d + 53) (x1 := x1) (S := xSo H) (CC := CC) (N := N) W1 hS (xSR_e g72 (fun k => gn 73 k (by decide)) l12 (xSR_o H)) (xCR_f (g72 8 (by decide)) (fun k => gn 78 k (by decide)) (fun k => gn 80 k (by decide)) hCR) (xMr9_f (g72 5 (by decide)) (fun k => gn 74 k (by decide)) m2) (by rw [k72]; exact h) (by omega) (by rw [gn 77 _ (by decide)]; exact hpc) (by rw [k72]; exact hN) (by rw [g72 1 (by decide), ← e0]; exact r0.1) (fun t ht => by rw [gn 74 _ (by decide)]; exact xIn_64 hS (m2.2.2 t (by omega))) (fun t ht => by
        rw [eV t ht]
        exact xIn_64 hS (xVy_b hS _ _ _ _ (m1.2.2.2 t (by rw [e05]; omega))).1) (by rw [g72 9 (by decide), ← e9]; exact r9)
      have e2 := zp_Call_u c2 j1
      cases e2
      have F9 : ∀ q k, q < 54 → H9.2.1 q k = H.2.1 q k := fun q k hq => k2.2.2.1 q k (by omega) (by omega) (by omega)
      have J72 : ∀ k, ¬ k = 0 → ¬ ((64 ≤ k ∧ k ≤ 71) ∨ k = 79) → J1.2.1 72 k = H.2.1 72 k := fun k h1 h2 => (xFz_72 j3 h2).trans (g72 k h1)
      have J74 : ∀ k, J1.2.1 74 k = H.2.1 74 k := fun k => (xFz_o j3 (by decide) (by decide) k).trans (gn 74 k (by decide))
      have cell : ∀ s, s < N → H9.2.1 61 s = H.2.1 74 (4 * s) := fun s hs => by
        rw [(k3 s hs).1]
        exact xJ_c0 hI s (by omega)
      have hA : ∀ s, s < N → tNb 2 H9 N (H9.2.1 2 9).toInt s = tAr J1 s := fun s hs => by
        unfold tNb tAr
        rw [show decide (s < N) = true from decide_eq_true hs, Bool.true_and, F9 2 0 (by decide), F9 2 9 (by decide), F9 2 10 (by decide), e0, e9, e10, cell s hs, J72 1 (by decide) (by decide), J72 9 (by decide) (by decide), J72 10 (by decide) (by decide), J74]
        exact xNb_s
      have hB : ∀ t s, t < N → s < N → tNb 2 H9 N (H9.2.1 62 t).toInt s = tBr J1 t s := fun t s ht hs => by
        unfold tNb tBr
        rw [show decide (s < N) = true from decide_eq_true hs, Bool.true_and, F9 2 0 (by decide), F9 2 10 (by decide), e0, e10, cell s hs, (k3 t ht).2.1, J72 1 (by decide) (by decide), J72 10 (by decide) (by decide), J74, j7 t ht, eV t ht]
        exact xNb_s
      have hG : ∀ a, a < 2 ^ N → tGd (xSo H) CC 2 H9 x1 N a = tGr (xSo H) CC J1 x1.toInt.toNat a := fun a ha => by
        have eu : xKn (H9.2.2.1 63) (Int32.ofNat a) N (Int32.ofInt 0) (Int64.ofNat 0) = xKn (fun s => xWk (xVyc (xSo H) 13 H s)) (Int32.ofNat a) N (Int32.ofInt 0) (Int64.ofNat 0) := xKn_c N _ _ (by decide) (by rw [show (Int32.ofInt 0).toInt = 0 by decide]; omega) (fun j hj => by
          rw [show (Int32.ofInt 0).toInt = 0 by decide] at hj
          exact (k3 j (by omega)).2.2)
        have eN : (H.2.1 13 0).toInt.toNat = N := by rw [e05]; omega
        have e8 : H9.2.1 10 = H.2.1 10 := funext fun k => F9 _ k (by decide)
        have eP : xPu (xSo H) CC 2 H9 x1.toInt.toNat (xKn (H9.2.2.1 63) (Int32.ofNat a) N (Int32.ofInt 0) (Int64.ofNat 0)) = xPc (xSo H) CC 2 13 H x1.toInt.toNat (Int32.ofNat a) := by
          unfold xPu xPc
          show xPl (xSo H) (H9.2.1 2 11).toInt (fun c h => xWb (xVl (xSo H) c h _) (H9.2.1 10) CC (H9.2.1 2 16).toInt.toNat 0) 60 (H9.2.1 7 x1.toInt.toNat) (H9.2.1 8 x1.toInt.toNat) (xP0 (xSo H) (H9.2.1 2 11).toInt (H9.2.1 7 x1.toInt.toNat)) = _
          rw [eu, e8, F9 2 11 (by decide), F9 2 16 (by decide), F9 7 _ (by decide), F9 8 _ (by decide), eN]
        unfold tGd xTh tGr
        rw [eP, xPr_f (H := (zw_I (zw_J K 104 0 len.toInt64) 72 0 (Int32.ofInt 0))) (fun k hk => xFz_72 j3 (by omega)) (fun q k hq => xFz_o j3 (by omega) (by omega) k), xPr_f (H := H) (fun k hk => g72 k (by omega)) (fun q k hq => gn q k (by omega)), xJ_P0 hI e16 hCR.1 e79 e77 e11 hpn]
      have jo := tJo (by omega) hA hB hG (tFO_r hN8 k5) j8
      refine ⟨_, _, _, _, c1, c2, hI1.1.1.1.1, hI2, (congrArg Int32.toInt ((xFz_72 j4 (by decide)).trans ((xFz_72 j3 (by decide)).trans zw_eq))).trans (by decide), fun _ => ?_, fun hF => ?_⟩
      rw [← jo.1, j4.2.2.2 104 0 (by decide) (by decide), j3.2.2.2 104 0 (by decide) (by decide)]
      exact zp_u_self K.2.2.1 104 0 _
      have w9 : ∀ p k, ¬ p = 72 → p < 97 → H2.2.1 p k = K.2.1 p k := fun p k a b => (j4.2.2.1 p k (fun h9 => a h9.1) (by omega)).trans ((j3.2.2.1 p k (fun h9 => a h9.1) (by omega)).trans (y_ne (fun h9 => a h9.1)))
      have w8 : ∀ p k, 60 ≤ p → ¬ (61 ≤ p ∧ p ≤ 64) → ¬ (p = 60 ∧ k = 0) → H9.2.1 p k = H.2.1 p k := fun p k a b e => k2.2.2.1 p k (by omega) b e
      rcases jo.2 with ⟨⟨x1, x2⟩, x3, x4⟩ | ⟨m, q, a1, y0, ⟨y1, y2⟩, y3, y4⟩
      · exact yFd_k (x4.trans (j6.trans (g72 79 (by decide)))) ((w9 60 11 (by decide) (by decide)).trans (x2.trans (w8 60 11 (by decide) (by decide) (by decide)))) (fun k => (w9 69 k (by decide) (by decide)).trans ((x1 k).trans (w8 69 k (by decide) (by decide) (fun h9 => absurd h9.1 (by decide))))) (fun k => (x3 k).trans ((j5 k).trans (gn 100 k (by decide)))) hF
      · have z1 := (w9 60 11 (by decide) (by decide)).trans y2
        have z2 : (len : Int32).toInt = (m : Int) := by
          rw [y0]
          exact tm_to (by have := a1.1; omega)
        refine ⟨Or.inl ?_, fun k hk => ?_⟩
        · rw [y4, z1, jo.1]
        · rw [z1, z2] at hk
          rw [w9 69 k (by decide) (by decide), y1 k (by omega), y3 k (by omega)]
    · have e1 := zp_Call_u c1 (yl_stun0 (L := L) (σ := σ) (d := d + 57) hI.1.1.1 (fun h9 => h (by rw [← e12]; exact h9)))
      cases e1
      have e2 := zp_Call_u c2 (yst_stun (L := L) (σ := σ) (d := d + 57) W1 h)
      cases e2
      exact ⟨_, _, _, _, c1, c2, hI1.1.1.1.1, hI2, congrArg Int32.toInt zw_eq, fun h9 => absurd h9 (by decide), fun hF => yFd_k ((zw_ne rfl rfl : _ = _).trans (zw_ne rfl rfl)) ((zw_ne rfl rfl : _ = _).trans (zw_ne rfl rfl)) (fun k => (zw_ne rfl rfl : _ = _).trans (zw_ne rfl rfl)) (fun k => (zw_ne rfl rfl : _ = _).trans (zw_ne rfl rfl)) hF⟩
  · obtain ⟨hS, hC⟩ := xJ_S3 hI
    obtain ⟨CC, hCC, hCR, e16, e79, e12, e77, e11, b7⟩ := xJ_C3 hI
    obtain ⟨m1, m2, e05, m3, m4⟩ := xJ_M3 hI
    obtain ⟨-, g2, -, -, -, -, -, -⟩ := id hI.1.2.2
    have e0 : H.2.1 22 0 = H.2.1 72 1 := g2 (0, 1) (by decide)
    have e9 : H.2.1 22 9 = H.2.1 72 9 := g2 (9, 9) (by decide)
    have e10 : H.2.1 22 10 = H.2.1 72 10 := g2 (10, 10) (by decide)
    have r0 := zB_fr1 (zB_dn (zB_Bc hI.1.1.1)) (p := 22) (k := 0) (r := (2, 8)) rfl
    have r0 : 2 ≤ (H.2.1 22 0).toInt ∧ (H.2.1 22 0).toInt ≤ 8 := r0
    have r9 := zB_fr1 (zB_dn (zB_Bc hI.1.1.1)) (p := 22) (k := 9) (r := (0, 63)) rfl
    have r9 : 0 ≤ (H.2.1 22 9).toInt ∧ (H.2.1 22 9).toInt ≤ 63 := r9
    obtain ⟨N, hN⟩ : ∃ N : Nat, (H.2.1 72 5).toInt = (N : Int) := ⟨(H.2.1 72 5).toInt.toNat, by have := m2.1; omega⟩
    have hN8 : N ≤ 8 := by have := m2.1; omega
    by_cases h : 0 ≤ x1.toInt ∧ x1.toInt < (H.2.1 72 7).toInt
    · have hp' : 0 ≤ x1.toInt ∧ x1.toInt < (H.2.1 22 12).toInt := by rw [e12]; exact h
      have hpn : (x1.toInt.toNat : Int) < (H.2.1 72 7).toInt := by omega
      obtain ⟨p5, p6⟩ := e77 _ hpn
      have hpc : xIn (xSo H) (H.2.1 77 (3 * x1.toInt.toNat)).toInt := m3 _ hpn
      obtain ⟨K, len, H9, k1, W2, k2, k3, k4, k5⟩ := yl_stu3 (L := L) (σ := σ) (d := d + 51) (S := xSo H) (CC := CC) (N := N) hI.1.1.1 hS hC hCC m1 hp' (by rw [p5]; exact hpc) (by rw [e05]; exact hN)
      have e1 := zp_Call_u c1 k1
      cases e1
      have g70 : ∀ p k, 70 ≤ p → K.2.1 p k = H.2.1 p k := fun p k hp => (k4.2.2.1 p k (by unfold tQ9 tQh; omega)).trans (k2.2.2.1 p k (by omega) (by omega) (by omega))
      have l70 : ∀ p k, 70 ≤ p → K.2.2.1 p k = H.2.2.1 p k := fun p k hp => (k4.2.2.2 p k (by omega) (by omega)).trans (k2.2.2.2 p k (by omega) (by omega))
      have g : ∀ p k, 70 ≤ p → ¬ (p = 72 ∧ k = 0) → (zw_I (zw_J K 104 0 len.toInt64) 72 0 (Int32.ofInt 0)).2.1 p k = H.2.1 p k := fun p k hp hk => (y_ne hk).trans (g70 p k hp)
      have gn : ∀ p k, 73 ≤ p → (zw_I (zw_J K 104 0 len.toInt64) 72 0 (Int32.ofInt 0)).2.1 p k = H.2.1 p k := fun p k hp => g p k (by omega) (by omega)
      have g72 : ∀ k, ¬ k = 0 → (zw_I (zw_J K 104 0 len.toInt64) 72 0 (Int32.ofInt 0)).2.1 72 k = H.2.1 72 k := fun k hk => g 72 k (by decide) (fun h9 => hk h9.2)
      have l12 : (zw_I (zw_J K 104 0 len.toInt64) 72 0 (Int32.ofInt 0)).2.2.1 72 12 = H.2.2.1 72 12 := (tJ_ne (K := K) (u := len.toInt64) (p := 72) (k := 12) (by decide)).trans (l70 72 12 (by decide))
      have k72 : ∀ k, (zw_J K 104 0 len.toInt64).2.1 72 k = H.2.1 72 k := fun k => g70 72 k (by decide)
      have eV : ∀ t, t < N → xVyr (xSo H) (zw_I (zw_J K 104 0 len.toInt64) 72 0 (Int32.ofInt 0)) t = xVyc (xSo H) 33 H t := fun t ht => m4 _ (fun k => gn 74 k (by decide)) (fun k => gn 75 k (by decide)) t (by omega)
      obtain ⟨_, j1, J, lr, J1, rfl, j2, j3, j4, j5, j6, j7, j8⟩ := yst_stu (L := L) (σ := σ) (d := d + 53) (x1 := x1) (S := xSo H) (CC := CC) (N := N) W1 hS (xSR_e g72 (fun k => gn 73 k (by decide)) l12 (xSR_o H)) (xCR_f (g72 8 (by decide)) (fun k => gn 78 k (by decide)) (fun k => gn 80 k (by decide)) hCR) (xMr9_f (g72 5 (by decide)) (fun k => gn 74 k (by decide)) m2) (by rw [k72]; exact h) (by omega) (by rw [gn 77 _ (by decide)]; exact hpc) (by rw [k72]; exact hN) (by rw [g72 1 (by decide), ← e0]; exact r0.1) (fun t ht => by rw [gn 74 _ (by decide)]; exact xIn_64 hS (m2.2.2 t (by omega))) (fun t ht => by
        rw [eV t ht]
        exact xIn_64 hS (xVy_b hS _ _ _ _ (m1.2.2.2 t (by rw [e05]; omega))).1) (by rw [g72 9 (by decide), ← e9]; exact r9)
      have e2 := zp_Call_u c2 j1
      cases e2
      have F9 : ∀ q k, q < 54 → H9.2.1 q k = H.2.1 q k := fun q k hq => k2.2.2.1 q k (by omega) (by omega) (by omega)
      have J72 : ∀ k, ¬ k = 0 → ¬ ((64 ≤ k ∧ k ≤ 71) ∨ k = 79) → J1.2.1 72 k = H.2.1 72 k := fun k h1 h2 => (xFz_72 j3 h2).trans (g72 k h1)
      have J74 : ∀ k, J1.2.1 74 k = H.2.1 74 k := fun k => (xFz_o j3 (by decide) (by decide) k).trans (gn 74 k (by decide))
      have cell : ∀ s, s < N → H9.2.1 61 s = H.2.1 74 (4 * s) := fun s hs => by
        rw [(k3 s hs).1]
        exact xJ_c3 hI s (by omega)
      have hA : ∀ s, s < N → tNb 22 H9 N (H9.2.1 22 9).toInt s = tAr J1 s := fun s hs => by
        unfold tNb tAr
        rw [show decide (s < N) = true from decide_eq_true hs, Bool.true_and, F9 22 0 (by decide), F9 22 9 (by decide), F9 22 10 (by decide), e0, e9, e10, cell s hs, J72 1 (by decide) (by decide), J72 9 (by decide) (by decide), J72 10 (by decide) (by decide), J74]
        exact xNb_s
      have hB : ∀ t s, t < N → s < N → tNb 22 H9 N (H9.2.1 62 t).toInt s = tBr J1 t s := fun t s ht hs => by
        unfold tNb tBr
        rw [show decide (s < N) = true from decide_eq_true hs, Bool.true_and, F9 22 0 (by decide), F9 22 10 (by decide), e0, e10, cell s hs, (k3 t ht).2.1, J72 1 (by decide) (by decide), J72 10 (by decide) (by decide), J74, j7 t ht, eV t ht]
        exact xNb_s
      have hG : ∀ a, a < 2 ^ N → tGd (xSo H) CC 22 H9 x1 N a = tGr (xSo H) CC J1 x1.toInt.toNat a := fun a ha => by
        have eu : xKn (H9.2.2.1 63) (Int32.ofNat a) N (Int32.ofInt 0) (Int64.ofNat 0) = xKn (fun s => xWk (xVyc (xSo H) 33 H s)) (Int32.ofNat a) N (Int32.ofInt 0) (Int64.ofNat 0) := xKn_c N _ _ (by decide) (by rw [show (Int32.ofInt 0).toInt = 0 by decide]; omega) (fun j hj => by
          rw [show (Int32.ofInt 0).toInt = 0 by decide] at hj
          exact (k3 j (by omega)).2.2)
        have eN : (H.2.1 33 0).toInt.toNat = N := by rw [e05]; omega
        have e8 : H9.2.1 30 = H.2.1 30 := funext fun k => F9 _ k (by decide)
        have eP : xPu (xSo H) CC 22 H9 x1.toInt.toNat (xKn (H9.2.2.1 63) (Int32.ofNat a) N (Int32.ofInt 0) (Int64.ofNat 0)) = xPc (xSo H) CC 22 33 H x1.toInt.toNat (Int32.ofNat a) := by
          unfold xPu xPc
          show xPl (xSo H) (H9.2.1 22 11).toInt (fun c h => xWb (xVl (xSo H) c h _) (H9.2.1 30) CC (H9.2.1 22 16).toInt.toNat 0) 60 (H9.2.1 27 x1.toInt.toNat) (H9.2.1 28 x1.toInt.toNat) (xP0 (xSo H) (H9.2.1 22 11).toInt (H9.2.1 27 x1.toInt.toNat)) = _
          rw [eu, e8, F9 22 11 (by decide), F9 22 16 (by decide), F9 27 _ (by decide), F9 28 _ (by decide), eN]
        unfold tGd xTh tGr
        rw [eP, xPr_f (H := (zw_I (zw_J K 104 0 len.toInt64) 72 0 (Int32.ofInt 0))) (fun k hk => xFz_72 j3 (by omega)) (fun q k hq => xFz_o j3 (by omega) (by omega) k), xPr_f (H := H) (fun k hk => g72 k (by omega)) (fun q k hq => gn q k (by omega)), xJ_P3 hI e16 hCR.1 e79 e77 e11 hpn]
      have jo := tJo (by omega) hA hB hG (tFO_r hN8 k5) j8
      refine ⟨_, _, _, _, c1, c2, hI1.1.1.1.1, hI2, (congrArg Int32.toInt ((xFz_72 j4 (by decide)).trans ((xFz_72 j3 (by decide)).trans zw_eq))).trans (by decide), fun _ => ?_, fun hF => ?_⟩
      rw [← jo.1, j4.2.2.2 104 0 (by decide) (by decide), j3.2.2.2 104 0 (by decide) (by decide)]
      exact zp_u_self K.2.2.1 104 0 _
      have w9 : ∀ p k, ¬ p = 72 → p < 97 → H2.2.1 p k = K.2.1 p k := fun p k a b => (j4.2.2.1 p k (fun h9 => a h9.1) (by omega)).trans ((j3.2.2.1 p k (fun h9 => a h9.1) (by omega)).trans (y_ne (fun h9 => a h9.1)))
      have w8 : ∀ p k, 60 ≤ p → ¬ (61 ≤ p ∧ p ≤ 64) → ¬ (p = 60 ∧ k = 0) → H9.2.1 p k = H.2.1 p k := fun p k a b e => k2.2.2.1 p k (by omega) b e
      rcases jo.2 with ⟨⟨x1, x2⟩, x3, x4⟩ | ⟨m, q, a1, y0, ⟨y1, y2⟩, y3, y4⟩
      · exact yFd_k (x4.trans (j6.trans (g72 79 (by decide)))) ((w9 60 11 (by decide) (by decide)).trans (x2.trans (w8 60 11 (by decide) (by decide) (by decide)))) (fun k => (w9 69 k (by decide) (by decide)).trans ((x1 k).trans (w8 69 k (by decide) (by decide) (fun h9 => absurd h9.1 (by decide))))) (fun k => (x3 k).trans ((j5 k).trans (gn 100 k (by decide)))) hF
      · have z1 := (w9 60 11 (by decide) (by decide)).trans y2
        have z2 : (len : Int32).toInt = (m : Int) := by
          rw [y0]
          exact tm_to (by have := a1.1; omega)
        refine ⟨Or.inl ?_, fun k hk => ?_⟩
        · rw [y4, z1, jo.1]
        · rw [z1, z2] at hk
          rw [w9 69 k (by decide) (by decide), y1 k (by omega), y3 k (by omega)]
    · have e1 := zp_Call_u c1 (yl_stun3 (L := L) (σ := σ) (d := d + 57) hI.1.1.1 (fun h9 => h (by rw [← e12]; exact h9)))
      cases e1
      have e2 := zp_Call_u c2 (yst_stun (L := L) (σ := σ) (d := d + 57) W1 h)
      cases e2
      exact ⟨_, _, _, _, c1, c2, hI1.1.1.1.1, hI2, congrArg Int32.toInt zw_eq, fun h9 => absurd h9 (by decide), fun hF => yFd_k ((zw_ne rfl rfl : _ = _).trans (zw_ne rfl rfl)) ((zw_ne rfl rfl : _ = _).trans (zw_ne rfl rfl)) (fun k => (zw_ne rfl rfl : _ = _).trans (zw_ne rfl rfl)) (fun k => (zw_ne rfl rfl : _ = _).trans (zw_ne rfl rfl)) hF⟩
