section
/-! ===== the reference: the search for a row ===== -/

/-- but what a voyage and the row under way are nothing is changed -/
def xFq (H H1 : zp_H) : Prop := H1.1 = H.1 ∧ H1.2.2.2 = H.2.2.2 ∧ (∀ p k, ¬ (p = 72 ∧ 64 ≤ k ∧ k ≤ 71) → p ≠ 97 → p ≠ 98 → H1.2.1 p k = H.2.1 p k) ∧ ∀ p k, ¬ (p = 72 ∧ k = 65) → p ≠ 97 → H1.2.2.1 p k = H.2.2.1 p k
theorem xFq_r (H : zp_H) : xFq H H := ⟨rfl, rfl, fun _ _ _ _ _ => rfl, fun _ _ _ _ => rfl⟩
theorem xFq_t {H H1 H2 : zp_H} (h1 : xFq H H1) (h2 : xFq H1 H2) : xFq H H2 := ⟨h2.1.trans h1.1, h2.2.1.trans h1.2.1, fun p k a b c => (h2.2.2.1 p k a b c).trans (h1.2.2.1 p k a b c), fun p k a b => (h2.2.2.2 p k a b).trans (h1.2.2.2 p k a b)⟩
theorem xFq_p {H H1 : zp_H} (h : xFp H H1) : xFq H H1 := ⟨h.1, h.2.1, fun p k a b _ => h.2.2.1 p k a b, h.2.2.2⟩
theorem xFq_I {k : Nat} {H H1 : zp_H} {x : Int32} (h : xFq H H1) : xFq H (zw_I H1 98 k x) := ⟨h.1, h.2.1, fun p j a b c => (y_ne (fun h9 => c h9.1)).trans (h.2.2.1 p j a b c), h.2.2.2⟩
theorem xFq_72 {H H1 : zp_H} {k : Nat} (h : xFq H H1) (hk : ¬ (64 ≤ k ∧ k ≤ 71)) : H1.2.1 72 k = H.2.1 72 k := h.2.2.1 72 k (fun h9 => hk h9.2) (by decide) (by decide)
theorem xFq_o {H H1 : zp_H} {q : Nat} (h : xFq H H1) (h1 : q ≠ 72) (h2 : q ≠ 97) (h3 : q ≠ 98) (k : Nat) : H1.2.1 q k = H.2.1 q k := h.2.2.1 q k (fun h9 => h1 h9.1) h2 h3
theorem xSR_q {H H1 : zp_H} {S : xSea} (h : xFq H H1) (hR : xSR H S) : xSR H1 S := ⟨(congrArg Int32.toInt (xFq_72 h (by decide))).trans hR.1, (congrArg Int32.toInt (xFq_72 h (by decide))).trans hR.2.1, (h.2.2.2 72 12 (fun h9 => absurd h9.2 (by decide)) (by decide)).trans hR.2.2.1, fun k hk => (congrArg Int32.toInt (xFq_o h (by decide) (by decide) (by decide) k)).trans (hR.2.2.2 k hk)⟩
theorem xCR_q {CC : Nat → List xIt} {H H1 : zp_H} (h : xFq H H1) (hC : xCR CC H) : xCR CC H1 := xCR_f (xFq_72 h (by decide)) (fun k => xFq_o h (by decide) (by decide) (by decide) k) (fun k => xFq_o h (by decide) (by decide) (by decide) k) hC
/-- who comes through by a set; which slates can be read, the reference's -/
def tGr (S : xSea) (CC : Nat → List xIt) (H0 : zp_H) (p : Nat) (a : Nat) : Bool := decide ((xPr S CC H0 p (Int32.ofNat a)).2.2.toInt = 4)
def tAr (H0 : zp_H) (t : Nat) : Bool := xNb (H0.2.1 72 1).toInt (H0.2.1 74 (4 * t)).toInt (H0.2.1 72 9).toInt (H0.2.1 72 10).toInt
def tBr (H0 : zp_H) (u t : Nat) : Bool := xNb (H0.2.1 72 1).toInt (H0.2.1 74 (4 * t)).toInt (H0.2.1 99 u).toInt (H0.2.1 72 10).toInt
/-- what studies is given -/
def tHr (S : xSea) (CC : Nat → List xIt) (H0 : zp_H) (p : Int32) (N : Nat) : Prop := xOk S ∧ xSR H0 S ∧ xCR CC H0 ∧ xMr9 S H0 ∧ (0 ≤ p.toInt ∧ p.toInt < 4) ∧ xIn S (H0.2.1 77 (3 * p.toInt.toNat)).toInt ∧ N ≤ 8 ∧ (H0.2.1 72 5).toInt = (N : Int) ∧ 2 ≤ (H0.2.1 72 1).toInt ∧ (∀ t, t < N → 0 ≤ (H0.2.1 74 (4 * t)).toInt ∧ (H0.2.1 74 (4 * t)).toInt ≤ 63) ∧ (∀ t, t < N → 0 ≤ (H0.2.1 99 t).toInt ∧ (H0.2.1 99 t).toInt ≤ 63) ∧ 0 ≤ (H0.2.1 72 9).toInt ∧ (H0.2.1 72 9).toInt ≤ 63
theorem yst_rd {L : Nat} {σ : Nat → Int32} {d : Nat} {S : xSea} {CC : Nat → List xIt} {H0 H : zp_H} {p x1 : Int32} {N s : Nat} {pre : List Nat} (hy : tHr S CC H0 p N) (W : zw_W H) (hF : xFq H0 H) (hk : x1.toInt = (pre.length : Int)) (hk8 : pre.length < 8) (hr : ∀ j, j < pre.length → H.2.1 98 j = Int32.ofNat (pre.getD j 0)) (hs : H.2.1 98 pre.length = Int32.ofNat s) (hp8 : ∀ t, t ∈ pre → t < N) (hs8 : s < N) : ∃ v, zp_Call L σ (d + 3) 239 [.inr (.inr (some 73)), .inl x1] H (.inl (some (.inl v)), H) ∧ ((v = Int32.ofInt 1 ∧ tX N (tAr H0) (tBr H0) pre s) ∨ (v = Int32.ofInt 0 ∧ ¬ tX N (tAr H0) (tBr H0) pre s)) := by
  obtain ⟨-, -, -, -, -, -, hN8, -, hw, hcl, hen, hsc⟩ := hy
  have e72 : ∀ k, k = 1 ∨ k = 9 ∨ k = 10 → H.2.1 72 k = H0.2.1 72 k := fun k hk => xFq_72 hF (by omega)
  have e74 : ∀ k, H.2.1 74 k = H0.2.1 74 k := fun k => xFq_o hF (by decide) (by decide) (by decide) k
  have e99 : ∀ k, H.2.1 99 k = H0.2.1 99 k := fun k => xFq_o hF (by decide) (by decide) (by decide) k
  have eA : (fun t => xNb (H.2.1 72 1).toInt (H.2.1 74 (4 * t)).toInt (H.2.1 72 9).toInt (H.2.1 72 10).toInt) = tAr H0 := funext fun t => by
    rw [e72 1 (by decide), e72 9 (by decide), e72 10 (by decide), e74]
    rfl
  have eB : (fun u t => xNb (H.2.1 72 1).toInt (H.2.1 74 (4 * t)).toInt (H.2.1 99 u).toInt (H.2.1 72 10).toInt) = tBr H0 := funext fun u => funext fun t => by
    rw [e72 1 (by decide), e72 10 (by decide), e74, e99]
    rfl
  obtain ⟨_, q1, v, rfl, q2⟩ := yr_rd (L := L) (σ := σ) (d := d) (H := H) (pre := pre) (s := s) (N := N) (x1 := x1) W hk hk8 hr hs hp8 hs8 hN8 (by rw [e72 1 (by decide)]; exact hw) (fun t ht => by rw [e74]; exact hcl t ht) (fun t ht => by rw [e99]; exact hen t ht) (by rw [e72 9 (by decide)]; exact hsc)
  rw [eA, eB] at q2
  refine ⟨v, q1, ?_⟩
  rcases q2 with ⟨h1, h2⟩ | ⟨h1, h2⟩
  · exact Or.inl ⟨h1, hs8, h2⟩
  · exact Or.inr ⟨h1, fun h9 => h2 h9.2⟩
/-- a row that ends so -/
theorem t_cc : ∀ (l : List Nat), l = [] ∨ ∃ L b, l = L ++ [b]
  | [] => Or.inl rfl
  | a :: l => by
    rcases t_cc l with h | ⟨L, b, h⟩
    · exact Or.inr ⟨[], a, by rw [h]; rfl⟩
    · exact Or.inr ⟨a :: L, b, by rw [h]; rfl⟩
theorem t_gl : ∀ {l : List Nat} {b : Nat}, (l ++ [b]).getD l.length 0 = b
  | [], _ => rfl
  | _ :: l, b => t_gl (l := l) (b := b)
theorem t_gi : ∀ {l : List Nat} {b j : Nat}, j < l.length → (l ++ [b]).getD j 0 = l.getD j 0
  | [], _, j, h => absurd h (Nat.not_lt_zero j)
  | _ :: _, _, 0, _ => rfl
  | _ :: l, b, j + 1, h => t_gi (l := l) (b := b) (Nat.lt_of_succ_lt_succ h)
theorem t_cl {l : List Nat} {b : Nat} : (l ++ [b]).length = l.length + 1 := by rw [List.length_append]; rfl
/-- measures -/
theorem t_mb {x c e : Nat} (hc : c ≤ 9) : (x * 16 + c) * 16 ^ e + 1 ≤ (x + 1) * 16 ^ (e + 1) := by
  have h6 : 0 < 16 ^ e := Nat.pow_pos (by decide)
  have h4 : (x * 16 + c + 1) * 16 ^ e ≤ ((x + 1) * 16) * 16 ^ e := Nat.mul_le_mul_right _ (by omega)
  rw [Nat.add_mul (x * 16 + c) 1, Nat.one_mul] at h4
  rw [Nat.pow_succ, show (x + 1) * (16 ^ e * 16) = ((x + 1) * 16) * 16 ^ e by rw [Nat.mul_comm (16 ^ e) 16, Nat.mul_assoc]]
  omega
theorem t_mc {x c c1 e : Nat} (h : c ≤ c1) : (x * 16 + c) * 16 ^ e ≤ (x * 16 + c1) * 16 ^ e := Nat.mul_le_mul_right _ (by omega)
theorem t_md {x e : Nat} : (x * 16 + 0) * 16 ^ e = x * 16 ^ (e + 1) := by
  rw [Nat.add_zero, Nat.pow_succ, Nat.mul_comm (16 ^ e) 16, Nat.mul_assoc]
theorem t_me {l : List Nat} {N : Nat} {A : Nat → Bool} {B : Nat → Nat → Bool} (hN : N ≤ 8) (h : tV N A B [] l) : tN l 0 < 16 ^ l.length := by
  have h1 := tN_hi l 0 (fun s hs => by have := (tV_p h s hs).1; omega)
  rw [Nat.zero_add, Nat.one_mul] at h1
  exact h1

theorem yst_seL {L : Nat} {σ : Nat → Int32} {d : Nat} {P : zp_X → Prop} {H : zp_H} {p x2 k : Int32} {pre : List Nat} (W : zw_W H) (hr : ∀ j, j < pre.length → H.2.1 98 j = Int32.ofNat (pre.getD j 0)) (hp8 : ∀ t, t ∈ pre → t < 8) (hx : x2.toInt = (pre.length : Int)) (hl : pre.length ≤ 8) : ∀ (n : Nat) (lv : zp_LV) (i : Int32) (a : Nat), 0 ≤ i.toInt → i.toInt + (n : Int) = x2.toInt → a < 256 → (∀ s, a.testBit s = true ↔ ∃ j : Nat, (j : Int) < i.toInt ∧ pre.getD j 0 = s) → zp_get lv 0 = some (.inr (.inr (some 73))) → zp_get lv 1 = some (.inl p) → zp_get lv 2 = some (.inl x2) → zp_get lv 3 = some (.inl k) → zp_get lv 4 = some (.inl (Int32.ofNat a)) → zp_get lv 5 = some (.inl i) → (∀ lv a, a < 256 → (∀ s, a.testBit s = true ↔ s ∈ pre) → zp_get lv 0 = some (.inr (.inr (some 73))) → zp_get lv 1 = some (.inl p) → zp_get lv 2 = some (.inl x2) → zp_get lv 3 = some (.inl k) → zp_get lv 4 = some (.inl (Int32.ofNat a)) → zs_Safe L σ P zm_238 [] (d + 5) (50, lv, [], H, (0, 0))) → zs_Safe L σ P zm_238 [] (d + 5) (24, lv, [], H, (0, 0)) := by
  intro n
  induction n with
  | zero =>
    intro lv i a h5 hN ha hb l0 l1 l2 l3 l4 l5 hP
    refine zw_ld (n := 2) (k := 5) (f := zp_isI) (pc' := 26) rfl rfl l5 rfl rfl ?_
    refine zw_ld (n := 1) (k := 2) (f := zp_isI) (pc' := 27) rfl rfl l2 rfl rfl ?_
    refine zw_bge2 (g := 50) (pc' := 30) rfl rfl rfl rfl rfl (fun h1 => ?_) (fun h1 => ?_)
    · exact hP _ a ha (fun s => (hb s).trans ⟨fun ⟨j, j1, j2⟩ => t_gd.mpr ⟨j, by omega, j2⟩, fun h9 => by
        obtain ⟨j, j1, j2⟩ := t_gd.mp h9
        exact ⟨j, by omega, j2⟩⟩) l0 l1 l2 l3 l4
    · have hN : i.toInt + ((0 : Nat) : Int) = x2.toInt := hN
      omega
  | succ n ih =>
    intro lv i a h5 hN ha hb l0 l1 l2 l3 l4 l5 hP
    refine zw_ld (n := 2) (k := 5) (f := zp_isI) (pc' := 26) rfl rfl l5 rfl rfl ?_
    refine zw_ld (n := 1) (k := 2) (f := zp_isI) (pc' := 27) rfl rfl l2 rfl rfl ?_
    refine zw_bge2 (g := 50) (pc' := 30) rfl rfl rfl rfl rfl (fun h1 => ?_) (fun h1 => ?_)
    · omega
    · have ei : (i + Int32.ofInt 1).toInt = i.toInt + 1 := zw_p1 (by omega)
      have m1 : pre.getD i.toInt.toNat 0 ∈ pre := t_gd.mpr ⟨_, by omega, rfl⟩
      have m2 := hp8 _ m1
      have t1 := tm_to (a := pre.getD i.toInt.toNat 0) (by omega)
      obtain ⟨k1, k2, k3⟩ := tm_ad (a := a) (s := Int32.ofNat (pre.getD i.toInt.toNat 0)) ha (by omega) (by omega)
      rw [show (Int32.ofNat (pre.getD i.toInt.toNat 0)).toInt.toNat = pre.getD i.toInt.toNat 0 by omega] at k1 k2 k3
      have r1 := hr i.toInt.toNat (by omega)
      refine zw_ld (n := 2) (k := 4) (f := zp_isI) (pc' := 32) rfl rfl l4 rfl rfl ?_
      refine zw_s (pc' := 33) rfl rfl ?_
      refine zw_ld (n := 1) (k := 0) (f := zp_isR) (pc' := 34) rfl rfl l0 rfl rfl ?_
      refine zw_gR (q := 72) (pc' := 37) W rfl rfl rfl rfl (W.2 72 76 _ rfl) rfl ?_
      refine zw_ld (n := 2) (k := 5) (f := zp_isI) (pc' := 39) rfl rfl l5 rfl rfl ?_
      refine zw_ia (q := 98) (pc' := 40) W rfl rfl (by decide) (⟨h5, by show _ < ((8 : Nat) : Int); omega⟩) rfl rfl ?_
      rw [r1]
      refine zw_ishl (pc' := 41) rfl rfl ?_
      refine zw_ior (pc' := 42) rfl rfl ?_
      rw [k1]
      refine zw_st (n := 2) (k := 4) (f := zp_isI) (pc' := 44) rfl rfl rfl rfl rfl ?_
      refine zw_ii (pc' := 47) rfl (zw_gt l5 rfl rfl) rfl rfl ?_
      refine zw_s (pc' := 24) rfl rfl ?_
      refine ih _ (i + Int32.ofInt 1) (a ||| 2 ^ pre.getD i.toInt.toNat 0) (by omega) (by omega) k2 (fun s => ?_) (zw_gt (zw_gt l0 rfl rfl) rfl rfl) (zw_gt (zw_gt l1 rfl rfl) rfl rfl) (zw_gt (zw_gt l2 rfl rfl) rfl rfl) (zw_gt (zw_gt l3 rfl rfl) rfl rfl) (zw_gt zw_g1 rfl rfl) zw_g1 hP
      rw [k3 s, hb s]
      constructor
      · rintro (⟨j, j1, j2⟩ | h)
        · exact ⟨j, by omega, j2⟩
        · exact ⟨i.toInt.toNat, by omega, h.symm⟩
      · rintro ⟨j, j1, j2⟩
        by_cases h9 : j = i.toInt.toNat
        · rw [h9] at j2
          exact Or.inr j2.symm
        · exact Or.inl ⟨j, by omega, j2⟩

theorem yst_nxL {L : Nat} {σ : Nat → Int32} {d : Nat} {P : zp_X → Prop} {S : xSea} {CC : Nat → List xIt} {H0 : zp_H} {p x2 : Int32} {N m : Nat} (hy : tHr S CC H0 p N) (hm8 : m ≤ 8) (hx2 : x2.toInt = (m : Int)) {k : Int32} {pre : List Nat} {e c0 : Nat} (hv : tV N (tAr H0) (tBr H0) [] pre) (hk : k.toInt = (pre.length : Int)) (hm : pre.length + 1 + e = m) : ∀ (n : Nat) (H : zp_H) (lv : zp_LV) (c : Nat), zw_W H → xFq H0 H → (∀ j, j < pre.length → H.2.1 98 j = Int32.ofNat (pre.getD j 0)) → (H.2.1 98 pre.length).toInt = (c : Int) → c0 ≤ c → c + n = N → tLw (tOk N (tAr H0) (tBr H0) (tTs (tGr S CC H0 p.toInt.toNat)) m) (tN pre 0 * 16 + c) e → zp_get lv 0 = some (.inr (.inr (some 73))) → zp_get lv 1 = some (.inl p) → zp_get lv 2 = some (.inl x2) → zp_get lv 3 = some (.inl k) → (∀ (H : zp_H) (lv : zp_LV) (c : Nat), zw_W H → xFq H0 H → (∀ j, j < pre.length → H.2.1 98 j = Int32.ofNat (pre.getD j 0)) → (H.2.1 98 pre.length).toInt = (c : Int) → c0 ≤ c → c ≤ N → tLw (tOk N (tAr H0) (tBr H0) (tTs (tGr S CC H0 p.toInt.toNat)) m) (tN pre 0 * 16 + c) e → (c = N ∨ (c < N ∧ tX N (tAr H0) (tBr H0) pre c)) → zp_get lv 0 = some (.inr (.inr (some 73))) → zp_get lv 1 = some (.inl p) → zp_get lv 2 = some (.inl x2) → zp_get lv 3 = some (.inl k) → zs_Safe L σ P zm_238 [] (d + 5) (117, lv, [], H, (0, 0))) → zs_Safe L σ P zm_238 [] (d + 5) (83, lv, [], H, (0, 0)) := by
  intro n
  induction n with
  | zero =>
    intro H lv c W hF hr hc hc0 hn hL l0 l1 l2 l3 hP
    have kn : k.toInt.toNat = pre.length := by omega
    have e5 : (H.2.1 72 5).toInt = (N : Int) := (congrArg Int32.toInt (xFq_72 hF (by decide))).trans hy.2.2.2.2.2.2.2.1
    have hN8 := hy.2.2.2.2.2.2.1
    have hcv : H.2.1 98 pre.length = Int32.ofNat c := by rw [tm_o (x := H.2.1 98 pre.length) (by omega), show (H.2.1 98 pre.length).toInt.toNat = c by omega]
    refine zw_ld (n := 1) (k := 0) (f := zp_isR) (pc' := 84) rfl rfl l0 rfl rfl ?_
    refine zw_gR (q := 72) (pc' := 87) W rfl rfl rfl rfl (W.2 72 76 _ rfl) rfl ?_
    refine zw_ld (n := 1) (k := 3) (f := zp_isI) (pc' := 88) rfl rfl l3 rfl rfl ?_
    refine zw_ia (q := 98) (pc' := 89) W rfl rfl (by decide) (⟨by omega, by show _ < ((8 : Nat) : Int); omega⟩) rfl rfl ?_
    rw [kn]
    refine zw_ld (n := 1) (k := 0) (f := zp_isR) (pc' := 90) rfl rfl l0 rfl rfl ?_
    refine zw_gI (q := 72) (pc' := 93) W rfl rfl rfl rfl rfl rfl ?_
    refine zw_bge2 (g := 117) (pc' := 96) rfl rfl rfl rfl rfl (fun h1 => ?_) (fun h1 => ?_)
    · exact hP H _ c W hF hr hc hc0 (by omega) hL (Or.inl (by omega)) l0 l1 l2 l3
    · have hn : c + 0 = N := hn
      omega
  | succ n ih =>
    intro H lv c W hF hr hc hc0 hn hL l0 l1 l2 l3 hP
    have kn : k.toInt.toNat = pre.length := by omega
    have e5 : (H.2.1 72 5).toInt = (N : Int) := (congrArg Int32.toInt (xFq_72 hF (by decide))).trans hy.2.2.2.2.2.2.2.1
    have hN8 := hy.2.2.2.2.2.2.1
    have hcv : H.2.1 98 pre.length = Int32.ofNat c := by rw [tm_o (x := H.2.1 98 pre.length) (by omega), show (H.2.1 98 pre.length).toInt.toNat = c by omega]
    refine zw_ld (n := 1) (k := 0) (f := zp_isR) (pc' := 84) rfl rfl l0 rfl rfl ?_
    refine zw_gR (q := 72) (pc' := 87) W rfl rfl rfl rfl (W.2 72 76 _ rfl) rfl ?_
    refine zw_ld (n := 1) (k := 3) (f := zp_isI) (pc' := 88) rfl rfl l3 rfl rfl ?_
    refine zw_ia (q := 98) (pc' := 89) W rfl rfl (by decide) (⟨by omega, by show _ < ((8 : Nat) : Int); omega⟩) rfl rfl ?_
    rw [kn]
    refine zw_ld (n := 1) (k := 0) (f := zp_isR) (pc' := 90) rfl rfl l0 rfl rfl ?_
    refine zw_gI (q := 72) (pc' := 93) W rfl rfl rfl rfl rfl rfl ?_
    refine zw_bge2 (g := 117) (pc' := 96) rfl rfl rfl rfl rfl (fun h1 => ?_) (fun h1 => ?_)
    · omega
    · obtain ⟨v, q1, q2⟩ := yst_rd (L := L) (σ := σ) (d := d + 2) (x1 := k) (s := c) hy W hF hk (by omega) hr hcv (fun t ht => (tV_p hv t ht).1) (by omega)
      refine zw_ld (n := 1) (k := 0) (f := zp_isR) (pc' := 97) rfl rfl l0 rfl rfl ?_
      refine zw_ld (n := 1) (k := 3) (f := zp_isI) (pc' := 98) rfl rfl l3 rfl rfl ?_
      rcases q2 with ⟨rfl, hx⟩ | ⟨rfl, hx⟩
      · refine zw_c (pc' := 101) (zw_cv (q := 72) (Y := zm_239) W.1 rfl rfl zm_239_t rfl rfl) rfl rfl rfl rfl rfl (q1) ?_
        refine zw_bne1 (g := 117) (pc' := 104) rfl rfl rfl (rfl : _ = (1 : Int)) (fun h9 => ?_) (fun h9 => absurd h9 (by decide))
        exact hP H _ c W hF hr hc hc0 (by omega) hL (Or.inr ⟨by omega, hx⟩) l0 l1 l2 l3
      · refine zw_c (pc' := 101) (zw_cv (q := 72) (Y := zm_239) W.1 rfl rfl zm_239_t rfl rfl) rfl rfl rfl rfl rfl (q1) ?_
        refine zw_bne1 (g := 117) (pc' := 104) rfl rfl rfl (rfl : _ = (0 : Int)) (fun h9 => absurd h9 (by decide)) (fun h9 => ?_)
        refine zw_ld (n := 1) (k := 0) (f := zp_isR) (pc' := 105) rfl rfl l0 rfl rfl ?_
        refine zw_gR (q := 72) (pc' := 108) W rfl rfl rfl rfl (W.2 72 76 _ rfl) rfl ?_
        refine zw_ld (n := 1) (k := 3) (f := zp_isI) (pc' := 109) rfl rfl l3 rfl rfl ?_
        refine zw_s (pc' := 110) rfl rfl ?_
        refine zw_ia (q := 98) (pc' := 111) W rfl rfl (by decide) (⟨by omega, by show _ < ((8 : Nat) : Int); omega⟩) rfl rfl ?_
        rw [kn]
        refine zw_s (pc' := 112) rfl rfl ?_
        refine zw_iadd (pc' := 113) rfl rfl ?_
        refine zw_is (q := 98) (pc' := 114) W rfl rfl (by decide) (⟨by omega, by show _ < ((8 : Nat) : Int); omega⟩) rfl ?_
        rw [kn]
        refine zw_s (pc' := 83) rfl rfl ?_
        have ec : (H.2.1 98 pre.length + Int32.ofInt 1).toInt = ((c + 1 : Nat) : Int) := by
          rw [zw_p1 (by omega), hc]
          omega
        exact ih (zw_I H 98 pre.length (H.2.1 98 pre.length + Int32.ofInt 1)) _ (c + 1) (zw_W_I W) (xFq_I hF) (fun j hj => (y_ne (fun h9 => by have := h9.2; omega)).trans (hr j hj)) ((congrArg Int32.toInt zw_eq).trans ec) (by omega) (by omega) (tLw_no hN8 (by omega) hv hm hx hL) l0 l1 l2 l3 hP

theorem yst_L {L : Nat} {σ : Nat → Int32} {d : Nat} {P : zp_X → Prop} {S : xSea} {CC : Nat → List xIt} {H0 : zp_H} {p x2 : Int32} {N m : Nat} (hy : tHr S CC H0 p N) (hm8 : m ≤ 8) (hx2 : x2.toInt = (m : Int)) : ∀ (n : Nat) (H : zp_H) (lv : zp_LV) (k : Int32) (pre : List Nat), zw_W H → xFq H0 H → (∀ j, j < pre.length → H.2.1 98 j = Int32.ofNat (pre.getD j 0)) → tV N (tAr H0) (tBr H0) [] pre → k.toInt = (pre.length : Int) → ((pre.length = m ∧ tLw (tOk N (tAr H0) (tBr H0) (tTs (tGr S CC H0 p.toInt.toNat)) m) (tN pre 0) 0 ∧ (16 ^ m - tN pre 0) * 10 < n) ∨ ∃ (cn : Nat) (e : Nat), pre.length + 1 + e = m ∧ (H.2.1 98 pre.length).toInt = (cn : Int) - 1 ∧ cn ≤ N ∧ tLw (tOk N (tAr H0) (tBr H0) (tTs (tGr S CC H0 p.toInt.toNat)) m) (tN pre 0 * 16 + cn) e ∧ (16 ^ m - (tN pre 0 * 16 + cn) * 16 ^ e) * 10 + (m - pre.length) < n) → zp_get lv 0 = some (.inr (.inr (some 73))) → zp_get lv 1 = some (.inl p) → zp_get lv 2 = some (.inl x2) → zp_get lv 3 = some (.inl k) → (∀ K q, zw_W K → xFq H0 K → tFi N (tAr H0) (tBr H0) (tTs (tGr S CC H0 p.toInt.toNat)) m q → (∀ j, j < m → K.2.1 98 j = Int32.ofNat (q.getD j 0)) → P (.inl (some (.inl (Int32.ofInt 1))), K)) → (∀ K, zw_W K → xFq H0 K → (∀ r, ¬ (tOk N (tAr H0) (tBr H0) (tTs (tGr S CC H0 p.toInt.toNat)) m) r) → P (.inl (some (.inl (Int32.ofInt 0))), K)) → zs_Safe L σ P zm_238 [] (d + 5) (9, lv, [], H, (0, 0)) := by
  intro n
  induction n with
  | zero =>
    intro H lv k pre W hF hr hv hk hI
    rcases hI with ⟨_, _, h⟩ | ⟨_, _, _, _, _, _, h⟩
    · exact absurd h (Nat.not_lt_zero _)
    · exact absurd h (Nat.not_lt_zero _)
  | succ n ih =>
    intro H lv k pre W hF hr hv hk hI l0 l1 l2 l3 hP1 hP0
    have hN8 := hy.2.2.2.2.2.2.1
    have kn : k.toInt.toNat = pre.length := by omega
    rcases hI with ⟨i1, i2, i3⟩ | ⟨cn, e, i1, i2, i3, i4, i5⟩
    · have hI9 := trivial
      refine zw_ld (n := 1) (k := 3) (f := zp_isI) (pc' := 10) rfl rfl l3 rfl rfl ?_
      refine zw_blt1 (g := 154) (pc' := 13) rfl rfl rfl rfl (fun h1 => ?_) (fun h1 => ?_)
      · omega
      · refine zw_ld (n := 1) (k := 3) (f := zp_isI) (pc' := 14) rfl rfl l3 rfl rfl ?_
        refine zw_ld (n := 1) (k := 2) (f := zp_isI) (pc' := 15) rfl rfl l2 rfl rfl ?_
        refine zw_bne2 (g := 73) (pc' := 18) rfl rfl rfl rfl rfl (fun h2 => ?_) (fun h2 => ?_)
        · omega
        · have me := t_me hN8 hv
          rw [i1] at me
          refine zw_s (pc' := 19) rfl rfl ?_
          refine zw_st (n := 2) (k := 4) (f := zp_isI) (pc' := 21) rfl rfl rfl rfl rfl ?_
          refine zw_s (pc' := 22) rfl rfl ?_
          refine zw_st (n := 2) (k := 5) (f := zp_isI) (pc' := 24) rfl rfl rfl rfl rfl ?_
          refine yst_seL W hr (fun t ht => by have := (tV_p hv t ht).1; omega) (hx2.trans (by rw [i1])) (by omega) m _ (Int32.ofInt 0) 0 (by decide) (by rw [show (Int32.ofInt 0).toInt = 0 by decide]; omega) (by decide) (fun s => ⟨fun h9 => absurd h9 (by rw [Nat.zero_testBit]; decide), fun ⟨j, j1, _⟩ => absurd j1 (by rw [show (Int32.ofInt 0).toInt = 0 by decide]; omega)⟩) (zw_gt (zw_gt l0 rfl rfl) rfl rfl) (zw_gt (zw_gt l1 rfl rfl) rfl rfl) (zw_gt (zw_gt l2 rfl rfl) rfl rfl) (zw_gt (zw_gt l3 rfl rfl) rfl rfl) (by rw [← tm_z]; exact (zw_gt zw_g1 rfl rfl)) zw_g1 (fun lv a ha hb l0 l1 l2 l3 l4 => ?_)
          have hM1 := xMr9_f (H := H0) (H1 := H) (xFq_72 hF (by decide)) (fun k => xFq_o hF (by decide) (by decide) (by decide) k) hy.2.2.2.1
          obtain ⟨_, b1, K, rfl, W2, b2, b3⟩ := xr_pl (L := L) (σ := σ) (d := d) (p := p) (set := Int32.ofNat a) (H0 := H) hy.1 (xSR_q hF hy.2.1) (xCR_q hF hy.2.2.1) hM1.1 hM1.2.1 hM1.2.2 W hy.2.2.2.2.1 (by rw [xFq_o hF (by decide) (by decide) (by decide)]; exact hy.2.2.2.2.2.1)
          have F2 := xFq_t hF (xFq_p b2)
          have b3 : (K.2.1 72 64, K.2.1 72 69, K.2.1 72 66) = xPr S CC H p.toInt.toNat (Int32.ofNat a) := b3
          rw [xPr_f (H := H0) (fun k hk => xFq_72 hF (by omega)) (fun q k hq => xFq_o hF (by omega) (by omega) (by omega) k)] at b3
          have b32 : K.2.1 72 66 = (xPr S CC H0 p.toInt.toNat (Int32.ofNat a)).2.2 := congrArg (fun z => z.2.2) b3
          have g98 : ∀ j, K.2.1 98 j = H.2.1 98 j := fun j => b2.2.2.1 98 j (fun h9 => absurd h9.1 (by decide)) (by decide)
          have eb : ∀ s, a.testBit s = decide (s ∈ pre) := fun s => Bool.eq_iff_iff.mpr ((hb s).trans ⟨fun h9 => decide_eq_true h9, fun h9 => of_decide_eq_true h9⟩)
          refine zw_ld (n := 1) (k := 0) (f := zp_isR) (pc' := 51) rfl rfl l0 rfl rfl ?_
          refine zw_ld (n := 1) (k := 1) (f := zp_isI) (pc' := 52) rfl rfl l1 rfl rfl ?_
          refine zw_ld (n := 2) (k := 4) (f := zp_isI) (pc' := 54) rfl rfl l4 rfl rfl ?_
          refine zw_cn (pc' := 57) (zw_cv (q := 72) (Y := zm_230) W.1 rfl rfl zm_230_t rfl rfl) rfl rfl rfl rfl rfl (b1) ?_
          refine zw_ld (n := 1) (k := 0) (f := zp_isR) (pc' := 58) rfl rfl l0 rfl rfl ?_
          refine zw_gI (q := 72) (pc' := 61) W2 rfl rfl rfl rfl rfl rfl ?_
          refine zw_s (pc' := 62) rfl rfl ?_
          rw [b32]
          refine zw_bne2 (g := 67) (pc' := 65) rfl rfl rfl rfl (rfl : _ = (4 : Int)) (fun h3 => ?_) (fun h3 => ?_)
          · have h3 : ¬ (xPr S CC H0 p.toInt.toNat (Int32.ofNat a)).2.2.toInt = (4 : Int) := h3
            have hx : ¬ tTs (tGr S CC H0 p.toInt.toNat) (fun s => decide (s ∈ pre)) := fun ⟨a', a1, a2, a3⟩ => by
              have ea : a' = a := Nat.eq_of_testBit_eq (fun s => (a2 s).trans (eb s).symm)
              rw [ea] at a3
              exact h3 (of_decide_eq_true a3)
            refine zw_ii (pc' := 70) rfl l3 rfl rfl ?_
            rw [x_m1]
            refine zw_s (pc' := 9) rfl rfl ?_
            rcases t_cc pre with h8 | ⟨L9, b9, h8⟩
            · have hl9 : pre.length = 0 := congrArg List.length h8
              have kz : (k - Int32.ofInt 1).toInt = -1 := by
                rw [zw_m1 (by omega)]
                omega
              have no : ∀ r, ¬ (tOk N (tAr H0) (tBr H0) (tTs (tGr S CC H0 p.toInt.toNat)) m) r := fun r => by
                have lo : tLw (tOk N (tAr H0) (tBr H0) (tTs (tGr S CC H0 p.toInt.toNat)) m) (tN [] 0 + 1) 0 := by
                  rw [← h8]
                  exact tLw_fu hN8 hv i1 hx i2
                have hf : 0 = m := by omega
                exact tLw_en hN8 (tLw_ce lo hf)
              refine zw_ld (n := 1) (k := 3) (f := zp_isI) (pc' := 10) rfl rfl zw_g1 rfl rfl ?_
              refine zw_blt1 (g := 154) (pc' := 13) rfl rfl rfl rfl (fun h9 => ?_) (fun h9 => ?_)
              · refine zw_s (pc' := 155) rfl rfl ?_
                refine zw_rz rfl rfl (by decide) ?_
                exact hP0 K W2 F2 no
              · omega
            · subst h8
              have tl := tV_x.mp hv
              have ll := t_cl (l := L9) (b := b9)
              have b8 := tl.2.1
              have kz : (k - Int32.ofInt 1).toInt = (L9.length : Int) := by
                rw [zw_m1 (by omega)]
                omega
              have rw9 := fun j (hj : j < (L9 ++ [b9]).length) => (g98 j).trans (hr j hj)
              have rb := rw9 L9.length (by omega)
              rw [t_gl] at rb
              have tb := tm_to (a := b9) (by omega)
              have lo : tLw (tOk N (tAr H0) (tBr H0) (tTs (tGr S CC H0 p.toInt.toNat)) m) (tN (L9 ++ [b9]) 0 + 1) 0 := tLw_fu hN8 hv i1 hx i2
              have tna := tN_app L9 b9 0
              refine ih K _ (k - Int32.ofInt 1) L9 W2 F2 (fun j hj => (rw9 j (by omega)).trans (by rw [t_gi hj])) tl.1 kz (Or.inr ⟨b9 + 1, 0, by omega, by rw [rb, tb]; omega, by omega, tLw_up lo, ?_⟩) (zw_gt l0 rfl rfl) (zw_gt l1 rfl rfl) (zw_gt l2 rfl rfl) zw_g1 hP1 hP0
              rw [show tN L9 0 * 16 + (b9 + 1) = tN (L9 ++ [b9]) 0 + 1 by omega]
              rw [Nat.pow_zero, Nat.mul_one]
              omega
          · have h3 : (xPr S CC H0 p.toInt.toNat (Int32.ofNat a)).2.2.toInt = (4 : Int) := h3
            refine zw_s (pc' := 66) rfl rfl ?_
            refine zw_rz rfl rfl (by decide) ?_
            refine hP1 K pre W2 F2 ⟨⟨i1, hv, a, ha, eb, decide_eq_true h3⟩, fun r hr9 => ?_⟩ (fun j hj => (g98 j).trans (hr j (by omega)))
            have h9 := i2 r hr9
            rw [Nat.pow_zero, Nat.mul_one] at h9
            exact h9
    · have hI9 := trivial
      refine zw_ld (n := 1) (k := 3) (f := zp_isI) (pc' := 10) rfl rfl l3 rfl rfl ?_
      refine zw_blt1 (g := 154) (pc' := 13) rfl rfl rfl rfl (fun h1 => ?_) (fun h1 => ?_)
      · omega
      · refine zw_ld (n := 1) (k := 3) (f := zp_isI) (pc' := 14) rfl rfl l3 rfl rfl ?_
        refine zw_ld (n := 1) (k := 2) (f := zp_isI) (pc' := 15) rfl rfl l2 rfl rfl ?_
        refine zw_bne2 (g := 73) (pc' := 18) rfl rfl rfl rfl rfl (fun h2 => ?_) (fun h2 => ?_)
        · have bd := tN_bd (c := cn) hN8 hv i1 (by omega)
          refine zw_ld (n := 1) (k := 0) (f := zp_isR) (pc' := 74) rfl rfl l0 rfl rfl ?_
          refine zw_gR (q := 72) (pc' := 77) W rfl rfl rfl rfl (W.2 72 76 _ rfl) rfl ?_
          refine zw_ld (n := 1) (k := 3) (f := zp_isI) (pc' := 78) rfl rfl l3 rfl rfl ?_
          refine zw_s (pc' := 79) rfl rfl ?_
          refine zw_ia (q := 98) (pc' := 80) W rfl rfl (by decide) (⟨by omega, by show _ < ((8 : Nat) : Int); omega⟩) rfl rfl ?_
          rw [kn]
          refine zw_s (pc' := 81) rfl rfl ?_
          refine zw_iadd (pc' := 82) rfl rfl ?_
          refine zw_is (q := 98) (pc' := 83) W rfl rfl (by decide) (⟨by omega, by show _ < ((8 : Nat) : Int); omega⟩) rfl ?_
          rw [kn]
          have ec : (H.2.1 98 pre.length + Int32.ofInt 1).toInt = (cn : Int) := by
            rw [zw_p1 (by omega), i2]
            omega
          refine yst_nxL hy hm8 hx2 (c0 := cn) hv hk i1 (N - cn) (zw_I H 98 pre.length (H.2.1 98 pre.length + Int32.ofInt 1)) _ cn (zw_W_I W) (xFq_I hF) (fun j hj => (y_ne (fun h9 => by have := h9.2; omega)).trans (hr j hj)) ((congrArg Int32.toInt zw_eq).trans ec) (Nat.le_refl _) (by omega) i4 l0 l1 l2 l3 (fun H2 lv c W2 F2 r2 c2 c3 c4 c5 c6 l0 l1 l2 l3 => ?_)
          have e5 : (H2.2.1 72 5).toInt = (N : Int) := (congrArg Int32.toInt (xFq_72 F2 (by decide))).trans hy.2.2.2.2.2.2.2.1
          have mc := t_mc (x := tN pre 0) (e := e) c3
          refine zw_ld (n := 1) (k := 0) (f := zp_isR) (pc' := 118) rfl rfl l0 rfl rfl ?_
          refine zw_gR (q := 72) (pc' := 121) W2 rfl rfl rfl rfl (W2.2 72 76 _ rfl) rfl ?_
          refine zw_ld (n := 1) (k := 3) (f := zp_isI) (pc' := 122) rfl rfl l3 rfl rfl ?_
          refine zw_ia (q := 98) (pc' := 123) W2 rfl rfl (by decide) (⟨by omega, by show _ < ((8 : Nat) : Int); omega⟩) rfl rfl ?_
          rw [kn]
          refine zw_ld (n := 1) (k := 0) (f := zp_isR) (pc' := 124) rfl rfl l0 rfl rfl ?_
          refine zw_gI (q := 72) (pc' := 127) W2 rfl rfl rfl rfl rfl rfl ?_
          refine zw_blt2 (g := 136) (pc' := 130) rfl rfl rfl rfl rfl (fun h3 => ?_) (fun h3 => ?_)
          · have h3 : (H2.2.1 98 pre.length).toInt < (H2.2.1 72 5).toInt := h3
            have cx : tX N (tAr H0) (tBr H0) pre c := by
              rcases c6 with h9 | h9
              · omega
              · exact h9.2
            have ccv : H2.2.1 98 pre.length = Int32.ofNat c := by rw [tm_o (x := H2.2.1 98 pre.length) (by omega), show (H2.2.1 98 pre.length).toInt.toNat = c by omega]
            have hv2 : tV N (tAr H0) (tBr H0) [] (pre ++ [c]) := tV_x.mpr ⟨hv, cx⟩
            have ll := t_cl (l := pre) (b := c)
            have ek : (k + Int32.ofInt 1).toInt = k.toInt + 1 := zw_p1 (by omega)
            have tna := tN_app pre c 0
            have r3 : ∀ j, j < (pre ++ [c]).length → H2.2.1 98 j = Int32.ofNat ((pre ++ [c]).getD j 0) := fun j hj => by
              by_cases h9 : j = pre.length
              · rw [h9, t_gl]
                exact ccv
              · rw [t_gi (by omega)]
                exact r2 j (by omega)
            refine zw_ii (pc' := 139) rfl l3 rfl rfl ?_
            refine zw_ld (n := 1) (k := 3) (f := zp_isI) (pc' := 140) rfl rfl zw_g1 rfl rfl ?_
            refine zw_ld (n := 1) (k := 2) (f := zp_isI) (pc' := 141) rfl rfl (zw_gt l2 rfl rfl) rfl rfl ?_
            refine zw_bge2 (g := 9) (pc' := 144) rfl rfl rfl rfl rfl (fun h4 => ?_) (fun h4 => ?_)
            · have e0 : e = 0 := by omega
              subst e0
              rw [Nat.pow_zero, Nat.mul_one] at i5 bd
              rw [Nat.pow_zero, Nat.mul_one, Nat.mul_one] at mc
              exact ih H2 _ (k + Int32.ofInt 1) (pre ++ [c]) W2 F2 r3 hv2 (by omega) (Or.inl ⟨by omega, tLw_d0 c5, by omega⟩) (zw_gt l0 rfl rfl) (zw_gt l1 rfl rfl) (zw_gt l2 rfl rfl) zw_g1 hP1 hP0
            · have kn2 : (k + Int32.ofInt 1).toInt.toNat = pre.length + 1 := by omega
              obtain ⟨e', rfl⟩ : ∃ e', e = e' + 1 := ⟨e - 1, by omega⟩
              refine zw_ld (n := 1) (k := 0) (f := zp_isR) (pc' := 145) rfl rfl (zw_gt l0 rfl rfl) rfl rfl ?_
              refine zw_gR (q := 72) (pc' := 148) W2 rfl rfl rfl rfl (W2.2 72 76 _ rfl) rfl ?_
              refine zw_ld (n := 1) (k := 3) (f := zp_isI) (pc' := 149) rfl rfl zw_g1 rfl rfl ?_
              refine zw_s (pc' := 150) rfl rfl ?_
              refine zw_is (q := 98) (pc' := 151) W2 rfl rfl (by decide) (⟨by omega, by show _ < ((8 : Nat) : Int); omega⟩) rfl ?_
              rw [kn2]
              refine zw_s (pc' := 9) rfl rfl ?_
              have md := t_md (x := tN (pre ++ [c]) 0) (e := e')
              exact ih (zw_I H2 98 (pre.length + 1) (Int32.ofInt (-1))) _ (k + Int32.ofInt 1) (pre ++ [c]) (zw_W_I W2) (xFq_I F2) (fun j hj => (y_ne (fun h9 => by have := h9.2; omega)).trans (r3 j hj)) hv2 (by omega) (Or.inr ⟨0, e', by omega, by rw [ll]; exact (congrArg Int32.toInt zw_eq).trans (by decide), Nat.zero_le _, tLw_dn c5, by rw [md, show tN (pre ++ [c]) 0 = tN pre 0 * 16 + c by omega]; omega⟩) (zw_gt l0 rfl rfl) (zw_gt l1 rfl rfl) (zw_gt l2 rfl rfl) zw_g1 hP1 hP0
          · have h3 : (H2.2.1 72 5).toInt ≤ (H2.2.1 98 pre.length).toInt := h3
            have mb := t_mb (x := tN pre 0) (c := c) (e := e) (by omega)
            have bd2 := tN_bd (c := c) hN8 hv i1 (by omega)
            refine zw_ii (pc' := 133) rfl l3 rfl rfl ?_
            rw [x_m1]
            refine zw_s (pc' := 9) rfl rfl ?_
            rcases t_cc pre with h8 | ⟨L9, b9, h8⟩
            · have hl9 : pre.length = 0 := congrArg List.length h8
              have kz : (k - Int32.ofInt 1).toInt = -1 := by
                rw [zw_m1 (by omega)]
                omega
              have no : ∀ r, ¬ (tOk N (tAr H0) (tBr H0) (tTs (tGr S CC H0 p.toInt.toNat)) m) r := fun r => by
                have lo : tLw (tOk N (tAr H0) (tBr H0) (tTs (tGr S CC H0 p.toInt.toNat)) m) (tN [] 0 + 1) (e + 1) := by
                  rw [← h8]
                  exact tLw_bk hN8 (by omega) hv i1 c5
                have hf : (e + 1) = m := by omega
                exact tLw_en hN8 (tLw_ce lo hf)
              refine zw_ld (n := 1) (k := 3) (f := zp_isI) (pc' := 10) rfl rfl zw_g1 rfl rfl ?_
              refine zw_blt1 (g := 154) (pc' := 13) rfl rfl rfl rfl (fun h9 => ?_) (fun h9 => ?_)
              · refine zw_s (pc' := 155) rfl rfl ?_
                refine zw_rz rfl rfl (by decide) ?_
                exact hP0 H2 W2 F2 no
              · omega
            · subst h8
              have tl := tV_x.mp hv
              have ll := t_cl (l := L9) (b := b9)
              have b8 := tl.2.1
              have kz : (k - Int32.ofInt 1).toInt = (L9.length : Int) := by
                rw [zw_m1 (by omega)]
                omega
              have rw9 := r2
              have rb := rw9 L9.length (by omega)
              rw [t_gl] at rb
              have tb := tm_to (a := b9) (by omega)
              have lo : tLw (tOk N (tAr H0) (tBr H0) (tTs (tGr S CC H0 p.toInt.toNat)) m) (tN (L9 ++ [b9]) 0 + 1) (e + 1) := tLw_bk hN8 (by omega) hv i1 c5
              have tna := tN_app L9 b9 0
              refine ih H2 _ (k - Int32.ofInt 1) L9 W2 F2 (fun j hj => (rw9 j (by omega)).trans (by rw [t_gi hj])) tl.1 kz (Or.inr ⟨b9 + 1, (e + 1), by omega, by rw [rb, tb]; omega, by omega, tLw_up lo, ?_⟩) (zw_gt l0 rfl rfl) (zw_gt l1 rfl rfl) (zw_gt l2 rfl rfl) zw_g1 hP1 hP0
              rw [show tN L9 0 * 16 + (b9 + 1) = tN (L9 ++ [b9]) 0 + 1 by omega]
              omega
        · have h2 : k.toInt = x2.toInt := h2
          omega

theorem yst_st {L : Nat} {σ : Nat → Int32} {d : Nat} {S : xSea} {CC : Nat → List xIt} {H0 : zp_H} {p x2 : Int32} {N m : Nat} (hy : tHr S CC H0 p N) (hm8 : m ≤ 8) (hx2 : x2.toInt = (m : Int)) (W : zw_W H0) : ∃ X, zp_Call L σ (d + 6) 238 [.inr (.inr (some 73)), .inl p, .inl x2] H0 X ∧ ∃ K v, X = (.inl (some (.inl v)), K) ∧ zw_W K ∧ xFq H0 K ∧ ((v = Int32.ofInt 1 ∧ ∃ q, tFi N (tAr H0) (tBr H0) (tTs (tGr S CC H0 p.toInt.toNat)) m q ∧ ∀ j, j < m → K.2.1 98 j = Int32.ofNat (q.getD j 0)) ∨ (v = Int32.ofInt 0 ∧ ∀ r, ¬ (tOk N (tAr H0) (tBr H0) (tTs (tGr S CC H0 p.toInt.toNat)) m) r)) := by
  have hN8 := hy.2.2.2.2.2.2.1
  refine zw_met zm_238_t rfl rfl ?_
  refine zw_s (pc' := 1) rfl rfl ?_
  refine zw_st (n := 1) (k := 3) (f := zp_isI) (pc' := 2) rfl rfl rfl rfl rfl ?_
  refine zw_ld (n := 1) (k := 0) (f := zp_isR) (pc' := 3) rfl rfl (zw_gt rfl rfl rfl) rfl rfl ?_
  refine zw_gR (q := 72) (pc' := 6) W rfl rfl rfl rfl (W.2 72 76 _ rfl) rfl ?_
  refine zw_s (pc' := 7) rfl rfl ?_
  refine zw_s (pc' := 8) rfl rfl ?_
  refine zw_is (q := 98) (pc' := 9) W rfl rfl (by decide) (⟨by decide, by decide⟩) rfl ?_
  rw [show (Int32.ofInt 0).toInt.toNat = 0 by decide]
  refine yst_L hy hm8 hx2 (16 ^ m * 10 + m + 1) (zw_I H0 98 0 (Int32.ofInt (-1))) _ (Int32.ofInt 0) [] (zw_W_I W) (xFq_I (xFq_r H0)) (fun j hj => absurd hj (Nat.not_lt_zero _)) trivial (by decide) ?_ (zw_gt rfl rfl rfl) (zw_gt rfl rfl rfl) (zw_gt rfl rfl rfl) zw_g1 (fun K q w1 w2 w3 w4 => ⟨K, _, rfl, w1, w2, Or.inl ⟨rfl, q, w3, w4⟩⟩) (fun K w1 w2 w3 => ⟨K, _, rfl, w1, w2, Or.inr ⟨rfl, w3⟩⟩)
  by_cases h0 : m = 0
  · exact Or.inl ⟨h0.symm, tLw_0, by show (16 ^ m - 0) * 10 < _; omega⟩
  · exact Or.inr ⟨0, m - 1, by show 0 + 1 + (m - 1) = m; omega, (congrArg Int32.toInt zw_eq).trans (by decide), Nat.zero_le _, tLw_0, by
      rw [show tN [] 0 * 16 + 0 = 0 from rfl, Nat.zero_mul]
      show (16 ^ m - 0) * 10 + (m - 0) < _
      omega⟩
end
section
/-! ===== the reference: study ===== -/
def zm_237 : za_MI := (yX12_study, prog_14_method_77_code, 3, (some FieldType.int), 12, 0, 0, [], za_i237)
theorem zm_237_t : za_MT 237 = some zm_237 := rfl
theorem yst_cpL {L : Nat} {σ : Nat → Int32} {d : Nat} {P : zp_X → Prop} {H0 : zp_H} : ∀ (n : Nat) (H : zp_H) (lv : zp_LV) (i : Int32), zw_W H → tFw (fun p _ => p = 100) H0 H → H.2.2.1 = H0.2.2.1 → 0 ≤ i.toInt → i.toInt + (n : Int) = 8 → (∀ j : Nat, (j : Int) < i.toInt → H.2.1 100 j = H0.2.1 98 j) → zp_get lv 0 = some (.inr (.inr (some 73))) → zp_get lv 1 = some (.inr (.inr (some 99))) → zp_get lv 2 = some (.inr (.inr (some 101))) → zp_get lv 3 = some (.inl i) → (∀ K, zw_W K → tFw (fun p _ => p = 100) H0 K → K.2.2.1 = H0.2.2.1 → (∀ j, j < 8 → K.2.1 100 j = H0.2.1 98 j) → P (.inl none, K)) → zs_Safe L σ P zm_204 [] d (2, lv, [], H, (0, 0)) := by
  intro n
  induction n with
  | zero =>
    intro H lv i W hF hJ h5 hN hV l0 l1 l2 l3 hP
    refine zw_ld (n := 1) (k := 3) (f := zp_isI) (pc' := 3) rfl rfl l3 rfl rfl ?_
    refine zw_ld (n := 1) (k := 1) (f := zp_isR) (pc' := 4) rfl rfl l1 rfl rfl ?_
    refine zw_al (q := 98) (pc' := 5) W rfl rfl rfl ?_
    refine zw_bge2 (g := 20) (pc' := 8) rfl rfl rfl rfl (rfl : _ = (8 : Int)) (fun h1 => ?_) (fun h1 => ?_)
    · refine zw_rn rfl rfl ?_
      exact hP H W hF hJ (fun j hj => hV j (by omega))
    · have hN : i.toInt + ((0 : Nat) : Int) = 8 := hN
      omega
  | succ n ih =>
    intro H lv i W hF hJ h5 hN hV l0 l1 l2 l3 hP
    refine zw_ld (n := 1) (k := 3) (f := zp_isI) (pc' := 3) rfl rfl l3 rfl rfl ?_
    refine zw_ld (n := 1) (k := 1) (f := zp_isR) (pc' := 4) rfl rfl l1 rfl rfl ?_
    refine zw_al (q := 98) (pc' := 5) W rfl rfl rfl ?_
    refine zw_bge2 (g := 20) (pc' := 8) rfl rfl rfl rfl (rfl : _ = (8 : Int)) (fun h1 => ?_) (fun h1 => ?_)
    · omega
    · have ei : (i + Int32.ofInt 1).toInt = i.toInt + 1 := zw_p1 (by omega)
      have e98 : H.2.1 98 i.toInt.toNat = H0.2.1 98 i.toInt.toNat := hF.2.2.1 98 _ (show ¬ ((98 : Nat) = 100) by decide)
      refine zw_ld (n := 1) (k := 2) (f := zp_isR) (pc' := 9) rfl rfl l2 rfl rfl ?_
      refine zw_ld (n := 1) (k := 3) (f := zp_isI) (pc' := 10) rfl rfl l3 rfl rfl ?_
      refine zw_ld (n := 1) (k := 1) (f := zp_isR) (pc' := 11) rfl rfl l1 rfl rfl ?_
      refine zw_ld (n := 1) (k := 3) (f := zp_isI) (pc' := 12) rfl rfl l3 rfl rfl ?_
      refine zw_ia (q := 98) (pc' := 13) W rfl rfl (by decide) (⟨h5, by show _ < ((8 : Nat) : Int); omega⟩) rfl rfl ?_
      rw [e98]
      refine zw_is (q := 100) (pc' := 14) W rfl rfl (by decide) (⟨h5, by show _ < ((8 : Nat) : Int); omega⟩) rfl ?_
      refine zw_ii (pc' := 17) rfl l3 rfl rfl ?_
      refine zw_s (pc' := 2) rfl rfl ?_
      refine ih (zw_I H 100 i.toInt.toNat (H0.2.1 98 i.toInt.toNat)) _ (i + Int32.ofInt 1) (zw_W_I W) (tFw_I hF rfl) hJ (by omega) (by omega) (fun j hj => ?_) (zw_gt l0 rfl rfl) (zw_gt l1 rfl rfl) (zw_gt l2 rfl rfl) zw_g1 hP
      by_cases h9 : j = i.toInt.toNat
      · rw [h9]
        exact zw_eq
      · exact (y_ne (fun h8 => h9 h8.2)).trans (hV j (by omega))

theorem yst_cp {L : Nat} {σ : Nat → Int32} {d : Nat} {H : zp_H} (W : zw_W H) : ∃ X, zp_Call L σ (d + 1) 204 [.inr (.inr (some 73)), .inr (.inr (some 99)), .inr (.inr (some 101))] H X ∧ ∃ K, X = (.inl none, K) ∧ zw_W K ∧ tFw (fun p _ => p = 100) H K ∧ K.2.2.1 = H.2.2.1 ∧ ∀ j, j < 8 → K.2.1 100 j = H.2.1 98 j := by
  refine zw_met zm_204_t rfl rfl ?_
  refine zw_s (pc' := 1) rfl rfl ?_
  refine zw_st (n := 1) (k := 3) (f := zp_isI) (pc' := 2) rfl rfl rfl rfl rfl ?_
  exact yst_cpL 8 H _ (Int32.ofInt 0) W (tFw_r H) rfl (by decide) (by decide) (fun j hj => absurd hj (by rw [show (Int32.ofInt 0).toInt = 0 by decide]; omega)) (zw_gt rfl rfl rfl) (zw_gt rfl rfl rfl) (zw_gt rfl rfl rfl) zw_g1 (fun K w1 w2 w3 w4 => ⟨K, rfl, w1, w2, w3, w4⟩)

/-- but what study writes nothing is changed -/
def xFz (H H1 : zp_H) : Prop := H1.1 = H.1 ∧ H1.2.2.2 = H.2.2.2 ∧ (∀ p k, ¬ (p = 72 ∧ ((64 ≤ k ∧ k ≤ 71) ∨ k = 79)) → ¬ (97 ≤ p ∧ p ≤ 100) → H1.2.1 p k = H.2.1 p k) ∧ ∀ p k, ¬ (p = 72 ∧ k = 65) → p ≠ 97 → H1.2.2.1 p k = H.2.2.1 p k
theorem xFz_r (H : zp_H) : xFz H H := ⟨rfl, rfl, fun _ _ _ _ => rfl, fun _ _ _ _ => rfl⟩
theorem xFz_t {H H1 H2 : zp_H} (h1 : xFz H H1) (h2 : xFz H1 H2) : xFz H H2 := ⟨h2.1.trans h1.1, h2.2.1.trans h1.2.1, fun p k a b => (h2.2.2.1 p k a b).trans (h1.2.2.1 p k a b), fun p k a b => (h2.2.2.2 p k a b).trans (h1.2.2.2 p k a b)⟩
theorem xFz_q {H H1 : zp_H} (h : xFq H H1) : xFz H H1 := ⟨h.1, h.2.1, fun p k a b => h.2.2.1 p k (fun h9 => a ⟨h9.1, Or.inl h9.2⟩) (by omega) (by omega), h.2.2.2⟩
theorem xFz_s {H H1 : zp_H} (h : xFs 64 71 H H1) : xFz H H1 := ⟨h.1, h.2.1, fun p k a _ => h.2.2.1 p k (fun h9 => a ⟨h9.1, Or.inl h9.2⟩), fun p k a _ => h.2.2.2 p k a⟩
theorem xFz_I {q k : Nat} {H H1 : zp_H} {x : Int32} (h : xFz H H1) (hq : (97 ≤ q ∧ q ≤ 100) ∨ (q = 72 ∧ k = 79)) : xFz H (zw_I H1 q k x) := ⟨h.1, h.2.1, fun p j a b => (y_ne (fun h9 => by obtain ⟨h8, h7⟩ := h9; omega)).trans (h.2.2.1 p j a b), h.2.2.2⟩
theorem xFz_72 {H H1 : zp_H} {k : Nat} (h : xFz H H1) (hk : ¬ ((64 ≤ k ∧ k ≤ 71) ∨ k = 79)) : H1.2.1 72 k = H.2.1 72 k := h.2.2.1 72 k (fun h9 => hk h9.2) (by decide)
theorem xFz_o {H H1 : zp_H} {q : Nat} (h : xFz H H1) (h1 : q ≠ 72) (h2 : ¬ (97 ≤ q ∧ q ≤ 100)) (k : Nat) : H1.2.1 q k = H.2.1 q k := h.2.2.1 q k (fun h9 => h1 h9.1) h2
theorem xSR_z {H H1 : zp_H} {S : xSea} (h : xFz H H1) (hR : xSR H S) : xSR H1 S := ⟨(congrArg Int32.toInt (xFz_72 h (by decide))).trans hR.1, (congrArg Int32.toInt (xFz_72 h (by decide))).trans hR.2.1, (h.2.2.2 72 12 (fun h9 => absurd h9.2 (by decide)) (by decide)).trans hR.2.2.1, fun k hk => (congrArg Int32.toInt (xFz_o h (by decide) (by decide) k)).trans (hR.2.2.2 k hk)⟩
theorem xCR_z {CC : Nat → List xIt} {H H1 : zp_H} (h : xFz H H1) (hC : xCR CC H) : xCR CC H1 := xCR_f (xFz_72 h (by decide)) (fun k => xFz_o h (by decide) (by decide) k) (fun k => xFz_o h (by decide) (by decide) k) hC
theorem tAr_z {H H1 : zp_H} (h : xFz H H1) : tAr H1 = tAr H := funext fun t => by
  unfold tAr
  rw [xFz_72 h (by decide), xFz_72 h (by decide), xFz_72 h (by decide), xFz_o h (by decide) (by decide)]
theorem tBr_z {H H1 : zp_H} (h : xFz H H1) (e : ∀ u, H1.2.1 99 u = H.2.1 99 u) : tBr H1 = tBr H := funext fun u => funext fun t => by
  unfold tBr
  rw [xFz_72 h (by decide), xFz_72 h (by decide), xFz_o h (by decide) (by decide), e]
theorem tGr_z {S : xSea} {CC : Nat → List xIt} {p : Nat} {H H1 : zp_H} (h : xFz H H1) : tGr S CC H1 p = tGr S CC H p := funext fun a => by
  unfold tGr
  rw [xPr_f (H := H) (fun k hk => xFz_72 h (by omega)) (fun q k hq => xFz_o h (by omega) (by omega) k)]
theorem tHr_z {S : xSea} {CC : Nat → List xIt} {p : Int32} {N : Nat} {H H1 : zp_H} (h : xFz H H1) (e : ∀ u, H1.2.1 99 u = H.2.1 99 u) (hy : tHr S CC H p N) : tHr S CC H1 p N := by
  obtain ⟨a1, a2, a3, a4, a5, a6, a7, a8, a9, b1, b2, b3⟩ := hy
  have e74 : ∀ k, H1.2.1 74 k = H.2.1 74 k := fun k => xFz_o h (by decide) (by decide) k
  refine ⟨a1, xSR_z h a2, xCR_z h a3, xMr9_f (xFz_72 h (by decide)) e74 a4, a5, by rw [xFz_o h (by decide) (by decide)]; exact a6, a7, by rw [xFz_72 h (by decide)]; exact a8, by rw [xFz_72 h (by decide)]; exact a9, fun t ht => by rw [e74]; exact b1 t ht, fun t ht => by rw [e]; exact b2 t ht, by rw [xFz_72 h (by decide)]; exact b3⟩
/-- what study answers, and what is kept: the reference's -/
def tRO (N : Nat) (A : Nat → Bool) (B : Nat → Nat → Bool) (G : Nat → Bool) (H0 K : zp_H) (len : Int32) : Prop := (len = Int32.ofInt (-1) ∧ (∀ m, m ≤ N → ∀ r, ¬ tOk N A B (tTs G) m r) ∧ (∀ k, K.2.1 100 k = H0.2.1 100 k) ∧ K.2.1 72 79 = H0.2.1 72 79) ∨ ∃ m q, tRs N A B G m q ∧ len = Int32.ofNat m ∧ (∀ k, k < m → K.2.1 100 k = Int32.ofNat (q.getD k 0)) ∧ K.2.1 72 79 = len

theorem yst_enL {L : Nat} {σ : Nat → Int32} {d : Nat} {P : zp_X → Prop} {S : xSea} {H0 : zp_H} (hS : xOk S) (hR : xSR H0 S) (hM : xMr9 S H0) {p : Int32} : ∀ (n : Nat) (H : zp_H) (lv : zp_LV) (i : Int32), zw_W H → xFz H0 H → (∀ k, H.2.1 100 k = H0.2.1 100 k) → H.2.1 72 79 = H0.2.1 72 79 → 0 ≤ i.toInt → i.toInt + (n : Int) = (H0.2.1 72 5).toInt → (∀ j : Nat, (j : Int) < i.toInt → H.2.1 99 j = (xVyr S H0 j).1) → zp_get lv 0 = some (.inr (.inr (some 73))) → zp_get lv 1 = some (.inl p) → zp_get lv 2 = some (.inl i) → (∀ H lv, zw_W H → xFz H0 H → (∀ k, H.2.1 100 k = H0.2.1 100 k) → H.2.1 72 79 = H0.2.1 72 79 → (∀ j : Nat, (j : Int) < (H0.2.1 72 5).toInt → H.2.1 99 j = (xVyr S H0 j).1) → zp_get lv 0 = some (.inr (.inr (some 73))) → zp_get lv 1 = some (.inl p) → zs_Safe L σ P zm_237 [] (d + 6) (46, lv, [], H, (0, 0))) → zs_Safe L σ P zm_237 [] (d + 6) (17, lv, [], H, (0, 0)) := by
  intro n
  induction n with
  | zero =>
    intro H lv i W hF k1 k2 h5 hN hV l0 l1 l2 hP
    have hNN : H.2.1 72 5 = H0.2.1 72 5 := xFz_72 hF (by decide)
    have hn0 := hM.1
    refine zw_ld (n := 1) (k := 2) (f := zp_isI) (pc' := 18) rfl rfl l2 rfl rfl ?_
    refine zw_ld (n := 1) (k := 0) (f := zp_isR) (pc' := 19) rfl rfl l0 rfl rfl ?_
    refine zw_gI (q := 72) (pc' := 22) W rfl rfl rfl rfl rfl rfl ?_
    rw [hNN]
    refine zw_bge2 (g := 46) (pc' := 25) rfl rfl rfl rfl rfl (fun h1 => ?_) (fun h1 => ?_)
    · exact hP H _ W hF k1 k2 (fun j hj => hV j (by omega)) l0 l1
    · have hN : i.toInt + ((0 : Nat) : Int) = (H0.2.1 72 5).toInt := hN
      omega
  | succ n ih =>
    intro H lv i W hF k1 k2 h5 hN hV l0 l1 l2 hP
    have hNN : H.2.1 72 5 = H0.2.1 72 5 := xFz_72 hF (by decide)
    have hn0 := hM.1
    refine zw_ld (n := 1) (k := 2) (f := zp_isI) (pc' := 18) rfl rfl l2 rfl rfl ?_
    refine zw_ld (n := 1) (k := 0) (f := zp_isR) (pc' := 19) rfl rfl l0 rfl rfl ?_
    refine zw_gI (q := 72) (pc' := 22) W rfl rfl rfl rfl rfl rfl ?_
    rw [hNN]
    refine zw_bge2 (g := 46) (pc' := 25) rfl rfl rfl rfl rfl (fun h1 => ?_) (fun h1 => ?_)
    · omega
    · have ei : (i + Int32.ofInt 1).toInt = i.toInt + 1 := zw_p1 (by omega)
      have hi : ((i.toInt.toNat : Nat) : Int) < (H0.2.1 72 5).toInt := by omega
      have f4 : ∀ k, H.2.1 74 k = H0.2.1 74 k := fun k => xFz_o hF (by decide) (by decide) k
      have f5 : ∀ k, H.2.1 75 k = H0.2.1 75 k := fun k => xFz_o hF (by decide) (by decide) k
      obtain ⟨_, q1, H1, rfl, W1, q2, q3⟩ := xr_sails (L := L) (σ := σ) (d := d + 3) (H := H) (s := i) W hS (xSR_z hF hR) ⟨h5, by omega⟩ (by rw [f4]; exact hM.2.1 _ hi) (by rw [f4]; exact hM.2.2 _ hi)
      have q3 : xR7 H1 (xVyr S H i.toInt.toNat) := q3
      rw [xVyr_f f4 f5] at q3
      have F1 := xFz_t hF (xFz_s q2)
      have g1 : ∀ q k, q ≠ 72 → H1.2.1 q k = H.2.1 q k := fun q k hq => q2.2.2.1 q k (fun h9 => hq h9.1)
      refine zw_ld (n := 1) (k := 0) (f := zp_isR) (pc' := 26) rfl rfl l0 rfl rfl ?_
      refine zw_ld (n := 1) (k := 2) (f := zp_isI) (pc' := 27) rfl rfl l2 rfl rfl ?_
      refine zw_cn (pc' := 30) (zw_cv (q := 72) (Y := zm_220) W.1 rfl rfl zm_220_t rfl rfl) rfl rfl rfl rfl rfl (q1) ?_
      refine zw_ld (n := 1) (k := 0) (f := zp_isR) (pc' := 31) rfl rfl l0 rfl rfl ?_
      refine zw_gR (q := 72) (pc' := 34) W1 rfl rfl rfl rfl (W1.2 72 77 _ rfl) rfl ?_
      refine zw_ld (n := 1) (k := 2) (f := zp_isI) (pc' := 35) rfl rfl l2 rfl rfl ?_
      refine zw_ld (n := 1) (k := 0) (f := zp_isR) (pc' := 36) rfl rfl l0 rfl rfl ?_
      refine zw_gI (q := 72) (pc' := 39) W1 rfl rfl rfl rfl rfl rfl ?_
      rw [q3.1]
      refine zw_is (q := 99) (pc' := 40) W1 rfl rfl (by decide) (⟨h5, by show _ < ((8 : Nat) : Int); omega⟩) rfl ?_
      refine zw_ii (pc' := 43) rfl l2 rfl rfl ?_
      refine zw_s (pc' := 17) rfl rfl ?_
      refine ih (zw_I H1 99 i.toInt.toNat (xVyr S H0 i.toInt.toNat).1) _ (i + Int32.ofInt 1) (zw_W_I W1) (xFz_I F1 (Or.inl ⟨by decide, by decide⟩)) (fun k => (zw_ne rfl rfl).trans ((g1 100 k (by decide)).trans (k1 k))) ((zw_ne rfl rfl).trans ((q2.2.2.1 72 79 (by decide)).trans k2)) (by omega) (by omega) (fun j hj => ?_) (zw_gt l0 rfl rfl) (zw_gt l1 rfl rfl) zw_g1 hP
      by_cases h9 : j = i.toInt.toNat
      · rw [h9]
        exact zw_eq
      · exact (y_ne (fun h8 => h9 h8.2)).trans ((g1 99 j (by decide)).trans (hV j (by omega)))

theorem yst_szL {L : Nat} {σ : Nat → Int32} {d : Nat} {P : zp_X → Prop} {S : xSea} {CC : Nat → List xIt} {H1 : zp_H} {p : Int32} {N : Nat} (hy : tHr S CC H1 p N) : ∀ (n : Nat) (H : zp_H) (lv : zp_LV) (j : Nat), zw_W H → xFq H1 H → j + n = N + 1 → (∀ m, m < j → ∀ r, ¬ tOk N (tAr H1) (tBr H1) (tTs (tGr S CC H1 p.toInt.toNat)) m r) → zp_get lv 0 = some (.inr (.inr (some 73))) → zp_get lv 1 = some (.inl p) → zp_get lv 2 = some (.inl (Int32.ofNat j)) → (∀ K len, zw_W K → xFz H1 K → tRO N (tAr H1) (tBr H1) (tGr S CC H1 p.toInt.toNat) H1 K len → P (.inl (some (.inl len)), K)) → zs_Safe L σ P zm_237 [] (d + 6) (48, lv, [], H, (0, 0)) := by
  intro n
  induction n with
  | zero =>
    intro H lv j W hF hn hZ l0 l1 l2 hP
    have e5 : (H.2.1 72 5).toInt = (N : Int) := (congrArg Int32.toInt (xFq_72 hF (by decide))).trans hy.2.2.2.2.2.2.2.1
    have hN8 := hy.2.2.2.2.2.2.1
    have tJ := tm_t9 (a := j) (by omega)
    refine zw_ld (n := 1) (k := 2) (f := zp_isI) (pc' := 49) rfl rfl l2 rfl rfl ?_
    refine zw_ld (n := 1) (k := 0) (f := zp_isR) (pc' := 50) rfl rfl l0 rfl rfl ?_
    refine zw_gI (q := 72) (pc' := 53) W rfl rfl rfl rfl rfl rfl ?_
    refine zw_bgt2 (g := 93) (pc' := 56) rfl rfl rfl rfl rfl (fun h1 => ?_) (fun h1 => ?_)
    · refine zw_s (pc' := 94) rfl rfl ?_
      refine zw_ri rfl rfl ?_
      exact hP H _ W (xFz_q hF) (Or.inl ⟨rfl, fun m hm => hZ m (by omega), fun k => hF.2.2.1 100 k (fun h9 => absurd h9.1 (by decide)) (by decide) (by decide), xFq_72 hF (by decide)⟩)
    · have hn : j + 0 = N + 1 := hn
      omega
  | succ n ih =>
    intro H lv j W hF hn hZ l0 l1 l2 hP
    have e5 : (H.2.1 72 5).toInt = (N : Int) := (congrArg Int32.toInt (xFq_72 hF (by decide))).trans hy.2.2.2.2.2.2.2.1
    have hN8 := hy.2.2.2.2.2.2.1
    have tJ := tm_t9 (a := j) (by omega)
    refine zw_ld (n := 1) (k := 2) (f := zp_isI) (pc' := 49) rfl rfl l2 rfl rfl ?_
    refine zw_ld (n := 1) (k := 0) (f := zp_isR) (pc' := 50) rfl rfl l0 rfl rfl ?_
    refine zw_gI (q := 72) (pc' := 53) W rfl rfl rfl rfl rfl rfl ?_
    refine zw_bgt2 (g := 93) (pc' := 56) rfl rfl rfl rfl rfl (fun h1 => ?_) (fun h1 => ?_)
    · omega
    · have FZ := xFz_q hF
      have e99 : ∀ u, H.2.1 99 u = H1.2.1 99 u := fun u => xFq_o hF (by decide) (by decide) (by decide) u
      have hy2 := tHr_z FZ e99 hy
      obtain ⟨_, q1, K, v, rfl, W2, q2, q3⟩ := yst_st (L := L) (σ := σ) (d := d) (x2 := Int32.ofNat j) (m := j) hy2 (by omega) tJ W
      rw [tAr_z FZ, tBr_z FZ e99, tGr_z FZ] at q3
      have F2 := xFq_t hF q2
      refine zw_ld (n := 1) (k := 0) (f := zp_isR) (pc' := 57) rfl rfl l0 rfl rfl ?_
      refine zw_ld (n := 1) (k := 1) (f := zp_isI) (pc' := 58) rfl rfl l1 rfl rfl ?_
      refine zw_ld (n := 1) (k := 2) (f := zp_isI) (pc' := 59) rfl rfl l2 rfl rfl ?_
      rcases q3 with ⟨rfl, q, q4, q5⟩ | ⟨rfl, q4⟩
      · refine zw_c (pc' := 62) (zw_cv (q := 72) (Y := zm_238) W.1 rfl rfl zm_238_t rfl rfl) rfl rfl rfl rfl rfl (q1) ?_
        refine zw_bne1 (g := 68) (pc' := 65) rfl rfl rfl (rfl : _ = (1 : Int)) (fun h9 => ?_) (fun h9 => absurd h9 (by decide))
        obtain ⟨_, c1, K3, rfl, W3, c2, c4, c3⟩ := yst_cp (L := L) (σ := σ) (d := d + 5) (H := zw_I K 72 79 (Int32.ofNat j)) (zw_W_I W2)
        refine zw_ld (n := 1) (k := 0) (f := zp_isR) (pc' := 69) rfl rfl l0 rfl rfl ?_
        refine zw_ld (n := 1) (k := 2) (f := zp_isI) (pc' := 70) rfl rfl l2 rfl rfl ?_
        refine zw_pI (q := 72) (pc' := 73) W2 rfl rfl rfl rfl rfl rfl ?_
        refine zw_ld (n := 1) (k := 0) (f := zp_isR) (pc' := 74) rfl rfl l0 rfl rfl ?_
        refine zw_ld (n := 1) (k := 0) (f := zp_isR) (pc' := 75) rfl rfl l0 rfl rfl ?_
        refine zw_gR (q := 72) (pc' := 78) (zw_W_I W2) rfl rfl rfl rfl ((zw_W_I W2).2 72 76 _ rfl) rfl ?_
        refine zw_ld (n := 1) (k := 0) (f := zp_isR) (pc' := 79) rfl rfl l0 rfl rfl ?_
        refine zw_gR (q := 72) (pc' := 82) (zw_W_I W2) rfl rfl rfl rfl ((zw_W_I W2).2 72 78 _ rfl) rfl ?_
        refine zw_cn (pc' := 85) (zw_cv (q := 72) (Y := zm_204) (zw_W_I W2).1 rfl rfl zm_204_t rfl rfl) rfl rfl rfl rfl rfl (c1) ?_
        refine zw_ld (n := 1) (k := 2) (f := zp_isI) (pc' := 86) rfl rfl l2 rfl rfl ?_
        refine zw_ri rfl rfl ?_
        refine hP K3 _ W3 (xFz_t (xFz_I (xFz_q F2) (Or.inr ⟨rfl, rfl⟩)) ⟨c2.1, c2.2.1, fun p k _ b => c2.2.2.1 p k (show ¬ (p = 100) by omega), fun p k _ _ => by rw [c4]⟩) (Or.inr ⟨j, q, ⟨by omega, q4, hZ⟩, rfl, fun k hk => (c3 k (by omega)).trans ((zw_ne rfl rfl).trans (q5 k hk)), (c2.2.2.1 72 79 (show ¬ ((72 : Nat) = 100) by decide)).trans zw_eq⟩)
      · refine zw_c (pc' := 62) (zw_cv (q := 72) (Y := zm_238) W.1 rfl rfl zm_238_t rfl rfl) rfl rfl rfl rfl rfl (q1) ?_
        refine zw_bne1 (g := 68) (pc' := 65) rfl rfl rfl (rfl : _ = (0 : Int)) (fun h9 => absurd h9 (by decide)) (fun h9 => ?_)
        refine zw_s (pc' := 87) rfl rfl ?_
        refine zw_ii (pc' := 90) rfl l2 rfl rfl ?_
        refine zw_s (pc' := 48) rfl rfl ?_
        rw [tm_s (a := j) (by omega)]
        refine ih K _ (j + 1) W2 F2 (by omega) (fun m hm => ?_) (zw_gt l0 rfl rfl) (zw_gt l1 rfl rfl) zw_g1 hP
        by_cases h9 : m = j
        · rw [h9]
          exact q4
        · exact hZ m (by omega)

theorem yst_stu {L : Nat} {σ : Nat → Int32} {d : Nat} {H : zp_H} {x1 : Int32} {S : xSea} {CC : Nat → List xIt} {N : Nat} (W : zw_W H) (hS : xOk S) (hR : xSR (zw_I H 72 0 (Int32.ofInt 0)) S) (hCR : xCR CC (zw_I H 72 0 (Int32.ofInt 0))) (hM : xMr9 S (zw_I H 72 0 (Int32.ofInt 0))) (hp : 0 ≤ x1.toInt ∧ x1.toInt < (H.2.1 72 7).toInt) (hp4 : x1.toInt < 4) (hpc : xIn S ((zw_I H 72 0 (Int32.ofInt 0)).2.1 77 (3 * x1.toInt.toNat)).toInt) (hn : (H.2.1 72 5).toInt = (N : Int)) (hw : 2 ≤ ((zw_I H 72 0 (Int32.ofInt 0)).2.1 72 1).toInt) (hcl : ∀ t, t < N → 0 ≤ ((zw_I H 72 0 (Int32.ofInt 0)).2.1 74 (4 * t)).toInt ∧ ((zw_I H 72 0 (Int32.ofInt 0)).2.1 74 (4 * t)).toInt ≤ 63) (hen : ∀ t, t < N → 0 ≤ (xVyr S (zw_I H 72 0 (Int32.ofInt 0)) t).1.toInt ∧ (xVyr S (zw_I H 72 0 (Int32.ofInt 0)) t).1.toInt ≤ 63) (hsc : 0 ≤ ((zw_I H 72 0 (Int32.ofInt 0)).2.1 72 9).toInt ∧ ((zw_I H 72 0 (Int32.ofInt 0)).2.1 72 9).toInt ≤ 63) : ∃ X, zp_Call L σ (d + 7) 237 [.inr (.inr (some 73)), .inl x1] H X ∧ ∃ K len H1, X = (.inl (some (.inl len)), K) ∧ zw_W K ∧ xFz (zw_I H 72 0 (Int32.ofInt 0)) H1 ∧ xFz H1 K ∧ (∀ k, H1.2.1 100 k = (zw_I H 72 0 (Int32.ofInt 0)).2.1 100 k) ∧ H1.2.1 72 79 = (zw_I H 72 0 (Int32.ofInt 0)).2.1 72 79 ∧ (∀ u, u < N → H1.2.1 99 u = (xVyr S (zw_I H 72 0 (Int32.ofInt 0)) u).1) ∧ tRO N (tAr H1) (tBr H1) (tGr S CC H1 x1.toInt.toNat) H1 K len := by
  have h0 : ((zw_I H 72 0 (Int32.ofInt 0)).2.1 72 0).toInt = 0 := congrArg Int32.toInt zw_eq
  have e7 : (zw_I H 72 0 (Int32.ofInt 0)).2.1 72 7 = H.2.1 72 7 := zw_ne rfl rfl
  have e5 : (zw_I H 72 0 (Int32.ofInt 0)).2.1 72 5 = H.2.1 72 5 := zw_ne rfl rfl
  refine zw_met zm_237_t rfl rfl ?_
  refine zw_ld (n := 1) (k := 0) (f := zp_isR) (pc' := 1) rfl rfl rfl rfl rfl ?_
  refine zw_s (pc' := 2) rfl rfl ?_
  refine zw_pI (q := 72) (pc' := 5) W rfl rfl rfl rfl rfl rfl ?_
  refine zw_ld (n := 1) (k := 0) (f := zp_isR) (pc' := 6) rfl rfl rfl rfl rfl ?_
  refine zw_ld (n := 1) (k := 1) (f := zp_isI) (pc' := 7) rfl rfl rfl rfl rfl ?_
  refine zw_c (pc' := 10) (zw_cv (q := 72) (Y := zm_228) (zw_W_I W).1 rfl rfl zm_228_t rfl rfl) rfl rfl rfl rfl rfl (yr_ip1 (d := d + 4) (zw_W_I W) h0 (by rw [e7]; exact hp)) ?_
  refine zw_bne1 (g := 15) (pc' := 13) rfl rfl rfl (rfl : _ = (1 : Int)) (fun h1 => ?_) (fun h9 => absurd h9 (by decide))
  refine zw_s (pc' := 16) rfl rfl ?_
  refine zw_st (n := 1) (k := 2) (f := zp_isI) (pc' := 17) rfl rfl rfl rfl rfl ?_
  have W0 : zw_W (zw_I H 72 0 (Int32.ofInt 0)) := zw_W_I W
  refine yst_enL (H0 := (zw_I H 72 0 (Int32.ofInt 0))) hS hR hM ((zw_I H 72 0 (Int32.ofInt 0)).2.1 72 5).toInt.toNat (zw_I H 72 0 (Int32.ofInt 0)) _ (Int32.ofInt 0) W0 (xFz_r _) (fun _ => rfl) rfl (by decide) (by rw [show (Int32.ofInt 0).toInt = 0 by decide, e5]; have := hM.1; rw [e5] at this; omega) (fun j hj => absurd hj (by rw [show (Int32.ofInt 0).toInt = 0 by decide]; omega)) (zw_gt rfl rfl rfl) (zw_gt rfl rfl rfl) zw_g1 (fun H1 lv W1 F1 k1 k2 v1 l0 l1 => ?_)
  have b5 := hM.1
  rw [e5] at b5
  have hE : ∀ u, u < N → H1.2.1 99 u = (xVyr S (zw_I H 72 0 (Int32.ofInt 0)) u).1 := fun u hu => v1 u (by rw [e5]; omega)
  have hy : tHr S CC H1 x1 N := by
    refine ⟨hS, xSR_z F1 hR, xCR_z F1 hCR, xMr9_f (xFz_72 F1 (by decide)) (fun k => xFz_o F1 (by decide) (by decide) k) hM, ⟨hp.1, hp4⟩, by rw [xFz_o F1 (by decide) (by decide)]; exact hpc, by omega, by rw [xFz_72 F1 (by decide), e5]; exact hn, by rw [xFz_72 F1 (by decide)]; exact hw, fun t ht => by rw [xFz_o F1 (by decide) (by decide)]; exact hcl t ht, fun t ht => by rw [hE t ht]; exact hen t ht, by rw [xFz_72 F1 (by decide)]; exact hsc⟩
  refine zw_s (pc' := 47) rfl rfl ?_
  rw [tm_z]
  refine zw_st (n := 1) (k := 2) (f := zp_isI) (pc' := 48) rfl rfl rfl rfl rfl ?_
  refine yst_szL hy (N + 1) H1 _ 0 W1 (xFq_r H1) (by omega) (fun m hm => absurd hm (Nat.not_lt_zero m)) (zw_gt l0 rfl rfl) (zw_gt l1 rfl rfl) zw_g1 (fun K len w1 w2 w3 => ⟨K, len, H1, rfl, w1, F1, w2, k1, k2, hE, w3⟩)

theorem yst_stun {L : Nat} {σ : Nat → Int32} {d : Nat} {H : zp_H} (W : zw_W H) {x1 : Int32} (h : ¬ (0 ≤ x1.toInt ∧ x1.toInt < (H.2.1 72 7).toInt)) : zp_Call L σ (d + 3) 237 [.inr (.inr (some 73)), .inl x1] H (.inl (some (.inl (Int32.ofInt 0))), zw_I (zw_I H 72 0 (Int32.ofInt 0)) 72 0 (Int32.ofInt 1)) := by
  have h0 : ((zw_I H 72 0 (Int32.ofInt 0)).2.1 72 0).toInt = 0 := congrArg Int32.toInt zw_eq
  have e7 : (zw_I H 72 0 (Int32.ofInt 0)).2.1 72 7 = H.2.1 72 7 := zw_ne rfl rfl
  have e5 : (zw_I H 72 0 (Int32.ofInt 0)).2.1 72 5 = H.2.1 72 5 := zw_ne rfl rfl
  refine zw_ex (zw_met zm_237_t rfl rfl ?_)
  refine zw_ld (n := 1) (k := 0) (f := zp_isR) (pc' := 1) rfl rfl rfl rfl rfl ?_
  refine zw_s (pc' := 2) rfl rfl ?_
  refine zw_pI (q := 72) (pc' := 5) W rfl rfl rfl rfl rfl rfl ?_
  refine zw_ld (n := 1) (k := 0) (f := zp_isR) (pc' := 6) rfl rfl rfl rfl rfl ?_
  refine zw_ld (n := 1) (k := 1) (f := zp_isI) (pc' := 7) rfl rfl rfl rfl rfl ?_
  refine zw_c (pc' := 10) (zw_cv (q := 72) (Y := zm_228) (zw_W_I W).1 rfl rfl zm_228_t rfl rfl) rfl rfl rfl rfl rfl (yr_ip0 (zw_W_I W) h0 (by rw [e7]; exact h)) ?_
  refine zw_bne1 (g := 15) (pc' := 13) rfl rfl rfl (rfl : _ = (0 : Int)) (fun h9 => absurd h9 (by decide)) (fun h7 => ?_)
  refine zw_s (pc' := 14) rfl rfl ?_
  refine zw_ri rfl rfl ?_
  rfl
end
