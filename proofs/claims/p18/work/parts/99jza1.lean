/-! ===== the reference: can it be read next ===== -/

theorem yr_rdL {L : Nat} {σ : Nat → Int32} {d : Nat} {P : zp_X → Prop} {H : zp_H} {pre : List Nat} {s N : Nat} {x1 : Int32} (W : zw_W H) (hk : x1.toInt = (pre.length : Int)) (hk8 : pre.length < 8) (hr : ∀ j, j < pre.length → H.2.1 98 j = Int32.ofNat (pre.getD j 0)) (hs : H.2.1 98 pre.length = Int32.ofNat s) (hp8 : ∀ t, t ∈ pre → t < N) (hs8 : s < N) (hN8 : N ≤ 8) : ∀ (n : Nat) (lv : zp_LV) (i : Int32), 0 ≤ i.toInt → i.toInt + (n : Int) = (pre.length : Int) → (∀ j : Nat, (j : Int) < i.toInt → ¬ pre.getD j 0 = s) → zp_get lv 0 = some (.inr (.inr (some 73))) → zp_get lv 1 = some (.inl x1) → zp_get lv 2 = some (.inl i) → (¬ s ∈ pre → ∀ lv, zp_get lv 0 = some (.inr (.inr (some 73))) → zp_get lv 1 = some (.inl x1) → zs_Safe L σ P zm_239 [] d (30, lv, [], H, (0, 0))) → (s ∈ pre → P (.inl (some (.inl (Int32.ofInt 0))), H)) → zs_Safe L σ P zm_239 [] d (2, lv, [], H, (0, 0)) := by
  intro n
  induction n with
  | zero =>
    intro lv i h5 hN hV l0 l1 l2 h30 h0
    refine zw_ld (n := 1) (k := 2) (f := zp_isI) (pc' := 3) rfl rfl l2 rfl rfl ?_
    refine zw_ld (n := 1) (k := 1) (f := zp_isI) (pc' := 4) rfl rfl l1 rfl rfl ?_
    refine zw_bge2 (g := 30) (pc' := 7) rfl rfl rfl rfl rfl (fun h1 => ?_) (fun h1 => ?_)
    · exact h30 (fun h9 => by
        obtain ⟨j, j1, j2⟩ := t_gd.mp h9
        exact hV j (by omega) j2) _ l0 l1
    · have hN : i.toInt + ((0 : Nat) : Int) = (pre.length : Int) := hN
      omega
  | succ n ih =>
    intro lv i h5 hN hV l0 l1 l2 h30 h0
    refine zw_ld (n := 1) (k := 2) (f := zp_isI) (pc' := 3) rfl rfl l2 rfl rfl ?_
    refine zw_ld (n := 1) (k := 1) (f := zp_isI) (pc' := 4) rfl rfl l1 rfl rfl ?_
    refine zw_bge2 (g := 30) (pc' := 7) rfl rfl rfl rfl rfl (fun h1 => ?_) (fun h1 => ?_)
    · omega
    · have ei : (i + Int32.ofInt 1).toInt = i.toInt + 1 := zw_p1 (by omega)
      have kn : x1.toInt.toNat = pre.length := by omega
      have m1 : pre.getD i.toInt.toNat 0 ∈ pre := t_gd.mpr ⟨_, by omega, rfl⟩
      have m2 := hp8 _ m1
      have r1 := hr i.toInt.toNat (by omega)
      have t1 := tm_to (a := pre.getD i.toInt.toNat 0) (by omega)
      have t2 := tm_to (a := s) (by omega)
      refine zw_ld (n := 1) (k := 0) (f := zp_isR) (pc' := 8) rfl rfl l0 rfl rfl ?_
      refine zw_gR (q := 72) (pc' := 11) W rfl rfl rfl rfl (W.2 72 76 _ rfl) rfl ?_
      refine zw_ld (n := 1) (k := 2) (f := zp_isI) (pc' := 12) rfl rfl l2 rfl rfl ?_
      refine zw_ia (q := 98) (pc' := 13) W rfl rfl (by decide) (⟨h5, by show _ < ((8 : Nat) : Int); omega⟩) rfl rfl ?_
      refine zw_ld (n := 1) (k := 0) (f := zp_isR) (pc' := 14) rfl rfl l0 rfl rfl ?_
      refine zw_gR (q := 72) (pc' := 17) W rfl rfl rfl rfl (W.2 72 76 _ rfl) rfl ?_
      refine zw_ld (n := 1) (k := 1) (f := zp_isI) (pc' := 18) rfl rfl l1 rfl rfl ?_
      refine zw_ia (q := 98) (pc' := 19) W rfl rfl (by decide) (⟨by omega, by show _ < ((8 : Nat) : Int); omega⟩) rfl rfl ?_
      rw [kn, hs, r1]
      refine zw_bne2 (g := 24) (pc' := 22) rfl rfl rfl rfl rfl (fun h2 => ?_) (fun h2 => ?_)
      · have h2 : ¬ (Int32.ofNat (pre.getD i.toInt.toNat 0)).toInt = (Int32.ofNat s).toInt := h2
        refine zw_ii (pc' := 27) rfl l2 rfl rfl ?_
        refine zw_s (pc' := 2) rfl rfl ?_
        refine ih _ (i + Int32.ofInt 1) (by omega) (by omega) (fun j hj hj2 => ?_) (zw_gt l0 rfl rfl) (zw_gt l1 rfl rfl) zw_g1 h30 h0
        by_cases h9 : j = i.toInt.toNat
        · rw [h9] at hj2
          rw [hj2] at h2
          exact h2 rfl
        · exact hV j (by omega) hj2
      · have h2 : (Int32.ofNat (pre.getD i.toInt.toNat 0)).toInt = (Int32.ofNat s).toInt := h2
        refine zw_s (pc' := 23) rfl rfl ?_
        refine zw_rz rfl rfl (by decide) ?_
        refine h0 ?_
        have e : pre.getD i.toInt.toNat 0 = s := by omega
        rw [← e]
        exact m1

theorem xTv_z {b : Bool} : xTv b = 0 ∨ xTv b = 1 := by
  cases b with
  | true => exact Or.inr rfl
  | false => exact Or.inl rfl
theorem xNv {b : Bool} : (b = true ∧ (if b = true then Int32.ofInt 1 else Int32.ofInt 0) = Int32.ofInt 1) ∨ (b = false ∧ (if b = true then Int32.ofInt 1 else Int32.ofInt 0) = Int32.ofInt 0) := by
  cases b with
  | true => exact Or.inl ⟨rfl, rfl⟩
  | false => exact Or.inr ⟨rfl, rfl⟩
theorem yr_rdE {L : Nat} {σ : Nat → Int32} {d : Nat} {P : zp_X → Prop} {H : zp_H} {pre : List Nat} {s N : Nat} {x1 : Int32} (W : zw_W H) (hk : x1.toInt = (pre.length : Int)) (hk8 : pre.length < 8) (hr : ∀ j, j < pre.length → H.2.1 98 j = Int32.ofNat (pre.getD j 0)) (hs : H.2.1 98 pre.length = Int32.ofNat s) (hp8 : ∀ t, t ∈ pre → t < N) (hs8 : s < N) (hN8 : N ≤ 8) (hw : 2 ≤ (H.2.1 72 1).toInt) (hcl : ∀ t, t < N → 0 ≤ (H.2.1 74 (4 * t)).toInt ∧ (H.2.1 74 (4 * t)).toInt ≤ 63) (hen : ∀ t, t < N → 0 ≤ (H.2.1 99 t).toInt ∧ (H.2.1 99 t).toInt ≤ 63) : ∀ (n : Nat) (lv : zp_LV) (i : Int32) (b : Bool), 0 ≤ i.toInt → i.toInt + (n : Int) = (pre.length : Int) → (b = true ↔ ((xNb (H.2.1 72 1).toInt (H.2.1 74 (4 * s)).toInt (H.2.1 72 9).toInt (H.2.1 72 10).toInt) = true ∨ ∃ j : Nat, (j : Int) < i.toInt ∧ (xNb (H.2.1 72 1).toInt (H.2.1 74 (4 * s)).toInt (H.2.1 99 (pre.getD j 0)).toInt (H.2.1 72 10).toInt) = true)) → zp_get lv 0 = some (.inr (.inr (some 73))) → zp_get lv 1 = some (.inl x1) → zp_get lv 2 = some (.inl (xTv b)) → zp_get lv 3 = some (.inl i) → (∀ b : Bool, (b = true ↔ ((xNb (H.2.1 72 1).toInt (H.2.1 74 (4 * s)).toInt (H.2.1 72 9).toInt (H.2.1 72 10).toInt) = true ∨ ∃ j : Nat, j < pre.length ∧ (xNb (H.2.1 72 1).toInt (H.2.1 74 (4 * s)).toInt (H.2.1 99 (pre.getD j 0)).toInt (H.2.1 72 10).toInt) = true)) → P (.inl (some (.inl (xTv b))), H)) → zs_Safe L σ P zm_239 [] (d + 2) (58, lv, [], H, (0, 0)) := by
  intro n
  induction n with
  | zero =>
    intro lv i b h5 hN hb l0 l1 l2 l3 hP
    refine zw_ld (n := 1) (k := 3) (f := zp_isI) (pc' := 59) rfl rfl l3 rfl rfl ?_
    refine zw_ld (n := 1) (k := 1) (f := zp_isI) (pc' := 60) rfl rfl l1 rfl rfl ?_
    refine zw_bge2 (g := 114) (pc' := 63) rfl rfl rfl rfl rfl (fun h1 => ?_) (fun h1 => ?_)
    · refine zw_ld (n := 1) (k := 2) (f := zp_isI) (pc' := 115) rfl rfl l2 rfl rfl ?_
      refine zw_rz rfl rfl (xTv_z) ?_
      refine hP b ?_
      rw [hb]
      exact ⟨fun h9 => h9.elim Or.inl (fun ⟨j, j1, j2⟩ => Or.inr ⟨j, by omega, j2⟩), fun h9 => h9.elim Or.inl (fun ⟨j, j1, j2⟩ => Or.inr ⟨j, by omega, j2⟩)⟩
    · have hN : i.toInt + ((0 : Nat) : Int) = (pre.length : Int) := hN
      omega
  | succ n ih =>
    intro lv i b h5 hN hb l0 l1 l2 l3 hP
    refine zw_ld (n := 1) (k := 3) (f := zp_isI) (pc' := 59) rfl rfl l3 rfl rfl ?_
    refine zw_ld (n := 1) (k := 1) (f := zp_isI) (pc' := 60) rfl rfl l1 rfl rfl ?_
    refine zw_bge2 (g := 114) (pc' := 63) rfl rfl rfl rfl rfl (fun h1 => ?_) (fun h1 => ?_)
    · omega
    · have ei : (i + Int32.ofInt 1).toInt = i.toInt + 1 := zw_p1 (by omega)
      have kn : x1.toInt.toNat = pre.length := by omega
      have m1 : pre.getD i.toInt.toNat 0 ∈ pre := t_gd.mpr ⟨_, by omega, rfl⟩
      have m2 := hp8 _ m1
      have r1 := hr i.toInt.toNat (by omega)
      have t1 := tm_to (a := pre.getD i.toInt.toNat 0) (by omega)
      have t2 := tm_to (a := s) (by omega)
      have nt : (Int32.ofNat (pre.getD i.toInt.toNat 0)).toInt.toNat = pre.getD i.toInt.toNat 0 := by omega
      have e4 : (Int32.ofInt 4 * Int32.ofNat s).toInt = 4 * (s : Int) := by rw [zt_mul (by decide) (by omega), t2]
      have n4 : (Int32.ofInt 4 * Int32.ofNat s).toInt.toNat = 4 * s := by omega
      refine zw_ld (n := 1) (k := 2) (f := zp_isI) (pc' := 64) rfl rfl l2 rfl rfl ?_
      refine zw_bne1 (g := 102) (pc' := 67) rfl rfl rfl rfl (fun h2 => ?_) (fun h2 => ?_)
      · have hbt : b = true := by
          cases b with
          | true => rfl
          | false => exact absurd (show (xTv false).toInt = 0 by decide) h2
        have hb2 := hb.mp hbt
        refine zw_s (pc' := 103) rfl rfl ?_
        refine zw_s (pc' := 107) rfl rfl ?_
        refine zw_st (n := 1) (k := 2) (f := zp_isI) (pc' := 108) rfl rfl rfl rfl rfl ?_
        refine zw_ii (pc' := 111) rfl (zw_gt l3 rfl rfl) rfl rfl ?_
        refine zw_s (pc' := 58) rfl rfl ?_
        exact ih _ (i + Int32.ofInt 1) true (by omega) (by omega) (⟨fun _ => hb2.elim Or.inl (fun ⟨j, j1, j2⟩ => Or.inr ⟨j, by omega, j2⟩), fun _ => rfl⟩) (zw_gt (zw_gt l0 rfl rfl) rfl rfl) (zw_gt (zw_gt l1 rfl rfl) rfl rfl) (zw_gt zw_g1 rfl rfl) zw_g1 hP
      · have hbf : b = false := by
          cases b with
          | true => exact absurd h2 (by decide)
          | false => rfl
        subst hbf
        refine zw_ld (n := 1) (k := 0) (f := zp_isR) (pc' := 68) rfl rfl l0 rfl rfl ?_
        refine zw_ld (n := 1) (k := 0) (f := zp_isR) (pc' := 69) rfl rfl l0 rfl rfl ?_
        refine zw_gR (q := 72) (pc' := 72) W rfl rfl rfl rfl (W.2 72 14 _ rfl) rfl ?_
        refine zw_s (pc' := 73) rfl rfl ?_
        refine zw_ld (n := 1) (k := 0) (f := zp_isR) (pc' := 74) rfl rfl l0 rfl rfl ?_
        refine zw_gR (q := 72) (pc' := 77) W rfl rfl rfl rfl (W.2 72 76 _ rfl) rfl ?_
        refine zw_ld (n := 1) (k := 1) (f := zp_isI) (pc' := 78) rfl rfl l1 rfl rfl ?_
        refine zw_ia (q := 98) (pc' := 79) W rfl rfl (by decide) (⟨by omega, by show _ < ((8 : Nat) : Int); omega⟩) rfl rfl ?_
        rw [kn, hs]
        refine zw_imul (pc' := 80) rfl rfl ?_
        refine zw_ia (q := 74) (pc' := 81) W rfl rfl (by decide) (⟨by omega, by show _ < ((32 : Nat) : Int); omega⟩) rfl rfl ?_
        rw [n4]
        refine zw_ld (n := 1) (k := 0) (f := zp_isR) (pc' := 82) rfl rfl l0 rfl rfl ?_
        refine zw_gR (q := 72) (pc' := 85) W rfl rfl rfl rfl (W.2 72 77 _ rfl) rfl ?_
        refine zw_ld (n := 1) (k := 0) (f := zp_isR) (pc' := 86) rfl rfl l0 rfl rfl ?_
        refine zw_gR (q := 72) (pc' := 89) W rfl rfl rfl rfl (W.2 72 76 _ rfl) rfl ?_
        refine zw_ld (n := 1) (k := 3) (f := zp_isI) (pc' := 90) rfl rfl l3 rfl rfl ?_
        refine zw_ia (q := 98) (pc' := 91) W rfl rfl (by decide) (⟨h5, by show _ < ((8 : Nat) : Int); omega⟩) rfl rfl ?_
        rw [r1]
        refine zw_ia (q := 99) (pc' := 92) W rfl rfl (by decide) (⟨by omega, by show _ < ((8 : Nat) : Int); omega⟩) rfl rfl ?_
        rw [nt]
        refine zw_ld (n := 1) (k := 0) (f := zp_isR) (pc' := 93) rfl rfl l0 rfl rfl ?_
        refine zw_gI (q := 72) (pc' := 96) W rfl rfl rfl rfl rfl rfl ?_
        refine zw_c (pc' := 99) (zw_cv (q := 72) (Y := zm_240) W.1 rfl rfl zm_240_t rfl rfl) rfl rfl rfl rfl rfl ((yr_near (L := L) (σ := σ) (d := d) (x := H.2.1 74 (4 * s)) (y := (H.2.1 99 (pre.getD i.toInt.toNat 0))) (r := H.2.1 72 10) W hw (hcl s hs8) (hen _ m2))) ?_
        rcases xNv (b := (xNb (H.2.1 72 1).toInt (H.2.1 74 (4 * s)).toInt (H.2.1 99 (pre.getD i.toInt.toNat 0)).toInt (H.2.1 72 10).toInt)) with ⟨hx, hx1⟩ | ⟨hx, hx1⟩ <;> rw [hx1]
        · refine zw_beq1 (g := 106) (pc' := 102) rfl rfl rfl (rfl : _ = (1 : Int)) (fun h9 => absurd h9 (by decide)) (fun h3 => ?_)
          refine zw_s (pc' := 103) rfl rfl ?_
          refine zw_s (pc' := 107) rfl rfl ?_
          refine zw_st (n := 1) (k := 2) (f := zp_isI) (pc' := 108) rfl rfl rfl rfl rfl ?_
          refine zw_ii (pc' := 111) rfl (zw_gt l3 rfl rfl) rfl rfl ?_
          refine zw_s (pc' := 58) rfl rfl ?_
          exact ih _ (i + Int32.ofInt 1) true (by omega) (by omega) (⟨fun _ => Or.inr ⟨i.toInt.toNat, by omega, hx⟩, fun _ => rfl⟩) (zw_gt (zw_gt l0 rfl rfl) rfl rfl) (zw_gt (zw_gt l1 rfl rfl) rfl rfl) (zw_gt zw_g1 rfl rfl) zw_g1 hP
        · refine zw_beq1 (g := 106) (pc' := 102) rfl rfl rfl (rfl : _ = (0 : Int)) (fun h3 => ?_) (fun h9 => absurd h9 (by decide))
          refine zw_s (pc' := 107) rfl rfl ?_
          refine zw_st (n := 1) (k := 2) (f := zp_isI) (pc' := 108) rfl rfl rfl rfl rfl ?_
          refine zw_ii (pc' := 111) rfl (zw_gt l3 rfl rfl) rfl rfl ?_
          refine zw_s (pc' := 58) rfl rfl ?_
          exact ih _ (i + Int32.ofInt 1) false (by omega) (by omega) (⟨fun h9 => absurd h9 (by decide), fun h9 => by
              rcases h9 with h9 | ⟨j, j1, j2⟩
              · exact hb.mpr (Or.inl h9)
              · by_cases hj : j = i.toInt.toNat
                · rw [hj, hx] at j2
                  cases j2
                · exact hb.mpr (Or.inr ⟨j, by omega, j2⟩)⟩) (zw_gt (zw_gt l0 rfl rfl) rfl rfl) (zw_gt (zw_gt l1 rfl rfl) rfl rfl) (zw_gt zw_g1 rfl rfl) zw_g1 hP

theorem yr_rd {L : Nat} {σ : Nat → Int32} {d : Nat} {H : zp_H} {pre : List Nat} {s N : Nat} {x1 : Int32} (W : zw_W H) (hk : x1.toInt = (pre.length : Int)) (hk8 : pre.length < 8) (hr : ∀ j, j < pre.length → H.2.1 98 j = Int32.ofNat (pre.getD j 0)) (hs : H.2.1 98 pre.length = Int32.ofNat s) (hp8 : ∀ t, t ∈ pre → t < N) (hs8 : s < N) (hN8 : N ≤ 8) (hw : 2 ≤ (H.2.1 72 1).toInt) (hcl : ∀ t, t < N → 0 ≤ (H.2.1 74 (4 * t)).toInt ∧ (H.2.1 74 (4 * t)).toInt ≤ 63) (hen : ∀ t, t < N → 0 ≤ (H.2.1 99 t).toInt ∧ (H.2.1 99 t).toInt ≤ 63) (hsc : 0 ≤ (H.2.1 72 9).toInt ∧ (H.2.1 72 9).toInt ≤ 63) : ∃ X, zp_Call L σ (d + 3) 239 [.inr (.inr (some 73)), .inl x1] H X ∧ ∃ v, X = (.inl (some (.inl v)), H) ∧ ((v = Int32.ofInt 1 ∧ ¬ s ∈ pre ∧ tR (fun t => (xNb (H.2.1 72 1).toInt (H.2.1 74 (4 * t)).toInt (H.2.1 72 9).toInt (H.2.1 72 10).toInt)) (fun u t => (xNb (H.2.1 72 1).toInt (H.2.1 74 (4 * t)).toInt (H.2.1 99 u).toInt (H.2.1 72 10).toInt)) pre s) ∨ (v = Int32.ofInt 0 ∧ ¬ (¬ s ∈ pre ∧ tR (fun t => (xNb (H.2.1 72 1).toInt (H.2.1 74 (4 * t)).toInt (H.2.1 72 9).toInt (H.2.1 72 10).toInt)) (fun u t => (xNb (H.2.1 72 1).toInt (H.2.1 74 (4 * t)).toInt (H.2.1 99 u).toInt (H.2.1 72 10).toInt)) pre s))) := by
  refine zw_met zm_239_t rfl rfl ?_
  refine zw_s (pc' := 1) rfl rfl ?_
  refine zw_st (n := 1) (k := 2) (f := zp_isI) (pc' := 2) rfl rfl rfl rfl rfl ?_
  have kn : x1.toInt.toNat = pre.length := by omega
  have t2 := tm_to (a := s) (by omega)
  have e4 : (Int32.ofInt 4 * Int32.ofNat s).toInt = 4 * (s : Int) := by rw [zt_mul (by decide) (by omega), t2]
  have n4 : (Int32.ofInt 4 * Int32.ofNat s).toInt.toNat = 4 * s := by omega
  refine yr_rdL W hk hk8 hr hs hp8 hs8 hN8 pre.length _ (Int32.ofInt 0) (by decide) (by rw [show (Int32.ofInt 0).toInt = 0 by decide]; omega) (fun j hj => absurd hj (by rw [show (Int32.ofInt 0).toInt = 0 by decide]; omega)) (zw_gt rfl rfl rfl) (zw_gt rfl rfl rfl) zw_g1 (fun hni lv l0 l1 => ?_) (fun hi => ⟨_, rfl, Or.inr ⟨rfl, fun h9 => h9.1 hi⟩⟩)
  refine zw_ld (n := 1) (k := 0) (f := zp_isR) (pc' := 31) rfl rfl l0 rfl rfl ?_
  refine zw_ld (n := 1) (k := 0) (f := zp_isR) (pc' := 32) rfl rfl l0 rfl rfl ?_
  refine zw_gR (q := 72) (pc' := 35) W rfl rfl rfl rfl (W.2 72 14 _ rfl) rfl ?_
  refine zw_s (pc' := 36) rfl rfl ?_
  refine zw_ld (n := 1) (k := 0) (f := zp_isR) (pc' := 37) rfl rfl l0 rfl rfl ?_
  refine zw_gR (q := 72) (pc' := 40) W rfl rfl rfl rfl (W.2 72 76 _ rfl) rfl ?_
  refine zw_ld (n := 1) (k := 1) (f := zp_isI) (pc' := 41) rfl rfl l1 rfl rfl ?_
  refine zw_ia (q := 98) (pc' := 42) W rfl rfl (by decide) (⟨by omega, by show _ < ((8 : Nat) : Int); omega⟩) rfl rfl ?_
  rw [kn, hs]
  refine zw_imul (pc' := 43) rfl rfl ?_
  refine zw_ia (q := 74) (pc' := 44) W rfl rfl (by decide) (⟨by omega, by show _ < ((32 : Nat) : Int); omega⟩) rfl rfl ?_
  rw [n4]
  refine zw_ld (n := 1) (k := 0) (f := zp_isR) (pc' := 45) rfl rfl l0 rfl rfl ?_
  refine zw_gI (q := 72) (pc' := 48) W rfl rfl rfl rfl rfl rfl ?_
  refine zw_ld (n := 1) (k := 0) (f := zp_isR) (pc' := 49) rfl rfl l0 rfl rfl ?_
  refine zw_gI (q := 72) (pc' := 52) W rfl rfl rfl rfl rfl rfl ?_
  refine zw_c (pc' := 55) (zw_cv (q := 72) (Y := zm_240) W.1 rfl rfl zm_240_t rfl rfl) rfl rfl rfl rfl rfl ((yr_near (L := L) (σ := σ) (d := d) (x := H.2.1 74 (4 * s)) (y := H.2.1 72 9) (r := H.2.1 72 10) W hw (hcl s hs8) hsc)) ?_
  rw [show (if (xNb (H.2.1 72 1).toInt (H.2.1 74 (4 * s)).toInt (H.2.1 72 9).toInt (H.2.1 72 10).toInt) = true then Int32.ofInt 1 else Int32.ofInt 0) = xTv (xNb (H.2.1 72 1).toInt (H.2.1 74 (4 * s)).toInt (H.2.1 72 9).toInt (H.2.1 72 10).toInt) from rfl]
  refine zw_st (n := 1) (k := 2) (f := zp_isI) (pc' := 56) rfl rfl rfl rfl rfl ?_
  refine zw_s (pc' := 57) rfl rfl ?_
  refine zw_st (n := 1) (k := 3) (f := zp_isI) (pc' := 58) rfl rfl rfl rfl rfl ?_
  refine yr_rdE W hk hk8 hr hs hp8 hs8 hN8 hw hcl hen pre.length _ (Int32.ofInt 0) _ (by decide) (by rw [show (Int32.ofInt 0).toInt = 0 by decide]; omega) ⟨Or.inl, fun h9 => h9.elim id (fun ⟨j, j1, _⟩ => absurd j1 (by rw [show (Int32.ofInt 0).toInt = 0 by decide]; omega))⟩ (zw_gt (zw_gt l0 rfl rfl) rfl rfl) (zw_gt (zw_gt l1 rfl rfl) rfl rfl) (zw_gt zw_g1 rfl rfl) zw_g1 (fun b hb => ?_)
  have hR : b = true ↔ tR (fun t => (xNb (H.2.1 72 1).toInt (H.2.1 74 (4 * t)).toInt (H.2.1 72 9).toInt (H.2.1 72 10).toInt)) (fun u t => (xNb (H.2.1 72 1).toInt (H.2.1 74 (4 * t)).toInt (H.2.1 99 u).toInt (H.2.1 72 10).toInt)) pre s := by
    refine hb.trans ⟨fun h9 => h9.elim Or.inl (fun ⟨j, j1, j2⟩ => Or.inr ⟨pre.getD j 0, t_gd.mpr ⟨j, j1, rfl⟩, j2⟩), fun h9 => h9.elim Or.inl (fun ⟨u, u1, u2⟩ => ?_)⟩
    obtain ⟨j, j1, j2⟩ := t_gd.mp u1
    exact Or.inr ⟨j, j1, by rw [j2]; exact u2⟩
  cases b with
  | true => exact ⟨_, rfl, Or.inl ⟨rfl, hni, hR.mp rfl⟩⟩
  | false => exact ⟨_, rfl, Or.inr ⟨rfl, fun h9 => by have := hR.mpr h9.2; cases this⟩⟩
