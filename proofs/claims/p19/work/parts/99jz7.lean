/-! ===== the desk: rows of slates ===== -/
def zm_142 : za_MI := (yX1_beginningNear, prog_3_method_7_code, 5, (some FieldType.int), 1, 0, 0, [], za_i142)
theorem zm_142_t : za_MT 142 = some zm_142 := rfl
def zm_146 : za_MI := (yX1_putInRow, prog_3_method_8_code, 5, (some FieldType.boolean), 1, 0, 0, [], za_i146)
theorem zm_146_t : za_MT 146 = some zm_146 := rfl
def zm_148 : za_MI := (yX1_rowIsAhead, prog_3_method_9_code, 3, (some FieldType.boolean), 1, 0, 0, [], za_i148)
theorem zm_148_t : za_MT 148 = some zm_148 := rfl
def zm_149 : za_MI := (yX1_bringsThrough, prog_3_method_10_code, 9, (some FieldType.boolean), 1, 0, 0, [], za_i149)
theorem zm_149_t : za_MT 149 = some zm_149 := rfl
/-- only the places of Q were changed -/
def tFw (Q : Nat → Nat → Prop) (H H1 : zp_H) : Prop := H1.1 = H.1 ∧ H1.2.2.2 = H.2.2.2 ∧ (∀ p k, ¬ Q p k → H1.2.1 p k = H.2.1 p k) ∧ ∀ p k, p ≠ 54 → p ≠ 57 → H1.2.2.1 p k = H.2.2.1 p k
theorem tFw_r {Q : Nat → Nat → Prop} (H : zp_H) : tFw Q H H := ⟨rfl, rfl, fun _ _ _ => rfl, fun _ _ _ _ => rfl⟩
theorem tFw_t {Q : Nat → Nat → Prop} {H H1 H2 : zp_H} (h1 : tFw Q H H1) (h2 : tFw Q H1 H2) : tFw Q H H2 := ⟨h2.1.trans h1.1, h2.2.1.trans h1.2.1, fun p k a => (h2.2.2.1 p k a).trans (h1.2.2.1 p k a), fun p k a b => (h2.2.2.2 p k a b).trans (h1.2.2.2 p k a b)⟩
theorem tFw_m {Q Q' : Nat → Nat → Prop} {H H1 : zp_H} (h : ∀ p k, Q p k → Q' p k) (h1 : tFw Q H H1) : tFw Q' H H1 := ⟨h1.1, h1.2.1, fun p k a => h1.2.2.1 p k (fun h9 => a (h p k h9)), h1.2.2.2⟩
theorem tFw_I {Q : Nat → Nat → Prop} {q k : Nat} {H H1 : zp_H} {x : Int32} (h : tFw Q H H1) (hq : Q q k) : tFw Q H (zw_I H1 q k x) := ⟨h.1, h.2.1, fun p j a => (y_ne (fun h9 => a (by rw [h9.1, h9.2]; exact hq))).trans (h.2.2.1 p j a), h.2.2.2⟩
theorem tFw_W {Q : Nat → Nat → Prop} {H H1 : zp_H} (h : tFw Q H H1) (W : zw_W H) : zw_W H1 := ⟨h.1.trans W.1, fun p k r hr => (congrFun (congrFun h.2.1 p) k).trans (W.2 p k r hr)⟩
def tQh (p k : Nat) : Prop := p = 54 ∨ p = 57 ∨ p = 58 ∨ p = 59 ∨ (p = 56 ∧ k = 2)
def tQ2 (p k : Nat) : Prop := tQh p k ∨ p = 65
def tQ8 (p k : Nat) : Prop := tQh p k ∨ (65 ≤ p ∧ p ≤ 68) ∨ (p = 60 ∧ k = 6)
def tQ9 (p k : Nat) : Prop := tQh p k ∨ (65 ≤ p ∧ p ≤ 69) ∨ (p = 60 ∧ (k = 6 ∨ k = 11))
theorem tFw_k {H H1 : zp_H} (h : xFk H H1) : tFw tQh H H1 := ⟨h.1, h.2.1, fun p k a => h.2.2.1 p k (fun e => a (Or.inl e)) (fun e => a (Or.inr (Or.inl e))) (fun e => a (Or.inr (Or.inr (Or.inl e)))) (fun e => a (Or.inr (Or.inr (Or.inr (Or.inl e))))) (fun e => a (Or.inr (Or.inr (Or.inr (Or.inr e))))), h.2.2.2⟩
theorem xSC_w {p : Nat} {H H1 : zp_H} {S : xSea} (hp : p = 2 ∨ p = 22) (f : ∀ q k, q < 54 → H1.2.1 q k = H.2.1 q k) (f1 : ∀ q k, q < 54 → H1.2.2.1 q k = H.2.2.1 q k) (hC : xSC p H S) : xSC p H1 S := by
  have e : ∀ q k, q = p ∨ q = p + 2 → H1.2.1 q k = H.2.1 q k := fun q k hq => f q k (by omega)
  have e1 : ∀ q k, q = p ∨ q = p + 1 → H1.2.2.1 q k = H.2.2.1 q k := fun q k hq => f1 q k (by omega)
  refine ⟨(congrArg Int32.toInt (e p 0 (Or.inl rfl))).trans hC.1, (congrArg Int32.toInt (e p 1 (Or.inl rfl))).trans hC.2.1, (e1 p 3 (Or.inl rfl)).trans hC.2.2.1, fun k hk => (congrArg Int32.toInt (e (p + 2) k (Or.inr rfl))).trans (hC.2.2.2.1 k hk), fun k hk => ?_⟩
  rw [e p 0 (Or.inl rfl), e p 1 (Or.inl rfl)]
  exact (e1 (p + 1) k (Or.inr rfl)).trans (hC.2.2.2.2 k hk)
/-- how a pilot fares who knows u -/
def xPu (S : xSea) (CC : Nat → List xIt) (wp : Nat) (H : zp_H) (p : Nat) (u : Int64) : Int32 × Int32 × Int32 := xPl S (H.2.1 wp 11).toInt (fun c h => xWb (xVl S c h u) (H.2.1 (wp + 8)) CC (H.2.1 wp 16).toInt.toNat 0) 60 (H.2.1 (wp + 5) p) (H.2.1 (wp + 6) p) (xP0 S (H.2.1 wp 11).toInt (H.2.1 (wp + 5) p))
def xTh (S : xSea) (CC : Nat → List xIt) (wp : Nat) (H : zp_H) (p : Nat) (u : Int64) : Bool := decide ((xPu S CC wp H p u).2.2.toInt = 4)
def xTv (b : Bool) : Int32 := if b = true then Int32.ofInt 1 else Int32.ofInt 0
theorem xTv_1 {b : Bool} : (xTv b).toInt = 1 ↔ b = true := by
  cases b with
  | true => exact ⟨fun _ => rfl, fun _ => by decide⟩
  | false => exact ⟨fun h => absurd h (by decide), fun h => by cases h⟩
theorem xh_su2 {L : Nat} {σ : Nat → Int32} {d : Nat} {p : Int32} {u : Int64} {S : xSea} {CC : Nat → List xIt} {H0 H : zp_H} (f : ∀ q k, q < 54 → H.2.1 q k = H0.2.1 q k) (f1 : ∀ q k, q < 54 → H.2.2.1 q k = H0.2.2.1 q k) (W : zw_W H) (hS : xOk S) (hC : xSC 2 H0 S) (hCC : xCC 2 CC H0) (hp : 0 ≤ p.toInt ∧ p.toInt < 4) (hc : xIn S (H0.2.1 7 p.toInt.toNat).toInt) : ∃ K, zp_Call L σ (d + 5) 35 [.inr (.inr (some 57)), .inr (.inr (some 3)), .inl p, .inr (.inl u)] H (.inl none, K) ∧ zw_W K ∧ xFk H K ∧ (K.2.1 57 0, K.2.1 57 1, K.2.1 57 2) = xPu S CC 2 H0 p.toInt.toNat u := by
  obtain ⟨_, b1, K, rfl, W2, b2, b3⟩ := xh_sb2 (L := L) (σ := σ) (d := d) (p := p) (u := u) hS (xSC_w (by decide) f f1 hC) (xCC_v (by decide) (fun q k hq => f q k hq) hCC) W hp (by rw [f 7 _ (by decide)]; exact hc)
  rw [f 7 _ (by decide), f 8 _ (by decide), f 2 11 (by decide), f 2 16 (by decide), show H.2.1 10 = H0.2.1 10 from funext (fun k => f 10 k (by decide))] at b3
  exact ⟨K, b1, W2, ⟨b2.1, b2.2.1, fun p k _ b c e f => b2.2.2.1 p k b c e f, fun p k _ b => b2.2.2.2 p k b⟩, b3⟩

theorem xh_su22 {L : Nat} {σ : Nat → Int32} {d : Nat} {p : Int32} {u : Int64} {S : xSea} {CC : Nat → List xIt} {H0 H : zp_H} (f : ∀ q k, q < 54 → H.2.1 q k = H0.2.1 q k) (f1 : ∀ q k, q < 54 → H.2.2.1 q k = H0.2.2.1 q k) (W : zw_W H) (hS : xOk S) (hC : xSC 22 H0 S) (hCC : xCC 22 CC H0) (hp : 0 ≤ p.toInt ∧ p.toInt < 4) (hc : xIn S (H0.2.1 27 p.toInt.toNat).toInt) : ∃ K, zp_Call L σ (d + 5) 35 [.inr (.inr (some 57)), .inr (.inr (some 23)), .inl p, .inr (.inl u)] H (.inl none, K) ∧ zw_W K ∧ xFk H K ∧ (K.2.1 57 0, K.2.1 57 1, K.2.1 57 2) = xPu S CC 22 H0 p.toInt.toNat u := by
  obtain ⟨_, b1, K, rfl, W2, b2, b3⟩ := xh_sb22 (L := L) (σ := σ) (d := d) (p := p) (u := u) hS (xSC_w (by decide) f f1 hC) (xCC_v (by decide) (fun q k hq => f q k hq) hCC) W hp (by rw [f 27 _ (by decide)]; exact hc)
  rw [f 27 _ (by decide), f 28 _ (by decide), f 22 11 (by decide), f 22 16 (by decide), show H.2.1 30 = H0.2.1 30 from funext (fun k => f 30 k (by decide))] at b3
  exact ⟨K, b1, W2, ⟨b2.1, b2.2.1, fun p k _ b c e f => b2.2.2.1 p k b c e f, fun p k _ b => b2.2.2.2 p k b⟩, b3⟩

theorem yc_bnL2 {L : Nat} {σ : Nat → Int32} {d : Nat} {P : zp_X → Prop} {H : zp_H} {cell : Int32} (W : zw_W H) (hw : 2 ≤ (H.2.1 2 0).toInt) (hx : 0 ≤ cell.toInt ∧ cell.toInt ≤ 63) (hn : 0 ≤ (H.2.1 60 0).toInt ∧ (H.2.1 60 0).toInt ≤ 8) (hb : ∀ s : Nat, (s : Int) < (H.2.1 60 0).toInt → 0 ≤ (H.2.1 61 s).toInt ∧ (H.2.1 61 s).toInt ≤ 63) : ∀ (n : Nat) (lv : zp_LV) (i v : Int32), 0 ≤ i.toInt → i.toInt + (n : Int) = (H.2.1 60 0).toInt → zp_get lv 0 = some (.inr (.inr (some 61))) → zp_get lv 1 = some (.inr (.inr (some 3))) → zp_get lv 2 = some (.inl cell) → zp_get lv 3 = some (.inl v) → zp_get lv 4 = some (.inl i) → P (.inl (some (.inl (tBn (fun s => xNb (H.2.1 2 0).toInt cell.toInt (H.2.1 61 s).toInt (H.2.1 2 10).toInt) n i v))), H) → zs_Safe L σ P zm_142 [] (d + 2) (5, lv, [], H, (0, 0)) := by
  intro n
  induction n with
  | zero =>
    intro lv i v h5 hN l0 l1 l2 l3 l4 hP
    refine zw_ld (n := 2) (k := 4) (f := zp_isI) (pc' := 7) rfl rfl l4 rfl rfl ?_
    refine zw_ld (n := 1) (k := 0) (f := zp_isR) (pc' := 8) rfl rfl l0 rfl rfl ?_
    refine zw_gI (q := 60) (pc' := 11) W rfl rfl rfl rfl rfl rfl ?_
    refine zw_bge2 (g := 46) (pc' := 14) rfl rfl rfl rfl rfl (fun h1 => ?_) (fun h1 => ?_)
    · refine zw_ld (n := 1) (k := 3) (f := zp_isI) (pc' := 47) rfl rfl l3 rfl rfl ?_
      refine zw_ri rfl rfl ?_
      exact hP
    · have hN : i.toInt + ((0 : Nat) : Int) = (H.2.1 60 0).toInt := hN
      omega
  | succ n ih =>
    intro lv i v h5 hN l0 l1 l2 l3 l4 hP
    refine zw_ld (n := 2) (k := 4) (f := zp_isI) (pc' := 7) rfl rfl l4 rfl rfl ?_
    refine zw_ld (n := 1) (k := 0) (f := zp_isR) (pc' := 8) rfl rfl l0 rfl rfl ?_
    refine zw_gI (q := 60) (pc' := 11) W rfl rfl rfl rfl rfl rfl ?_
    refine zw_bge2 (g := 46) (pc' := 14) rfl rfl rfl rfl rfl (fun h1 => ?_) (fun h1 => ?_)
    · omega
    · have ei : (i + Int32.ofInt 1).toInt = i.toInt + 1 := zw_p1 (by omega)
      obtain ⟨_, q1, v9, rfl, q2⟩ := yc_far2 (L := L) (σ := σ) (d := d) (x := cell) (y := H.2.1 61 i.toInt.toNat) W hw hx (hb _ (by omega))
      have q2 := q2 (H.2.1 2 10).toInt
      refine zw_ld (n := 1) (k := 1) (f := zp_isR) (pc' := 15) rfl rfl l1 rfl rfl ?_
      refine zw_ld (n := 1) (k := 2) (f := zp_isI) (pc' := 16) rfl rfl l2 rfl rfl ?_
      refine zw_ld (n := 1) (k := 0) (f := zp_isR) (pc' := 17) rfl rfl l0 rfl rfl ?_
      refine zw_gR (q := 60) (pc' := 20) W rfl rfl rfl rfl (W.2 60 1 _ rfl) rfl ?_
      refine zw_ld (n := 2) (k := 4) (f := zp_isI) (pc' := 22) rfl rfl l4 rfl rfl ?_
      refine zw_ia (q := 61) (pc' := 23) W rfl rfl (by decide) (⟨h5, by show _ < ((8 : Nat) : Int); omega⟩) rfl rfl ?_
      refine zw_c (pc' := 26) (zw_cv (q := 2) (Y := zm_143) W.1 rfl rfl zm_143_t rfl rfl) rfl rfl rfl rfl rfl (q1) ?_
      refine zw_ld (n := 1) (k := 1) (f := zp_isR) (pc' := 27) rfl rfl l1 rfl rfl ?_
      refine zw_gI (q := 2) (pc' := 30) W rfl rfl rfl rfl rfl rfl ?_
      refine zw_bgt2 (g := 40) (pc' := 33) rfl rfl rfl rfl rfl (fun h2 => ?_) (fun h2 => ?_)
      · have h3 : ¬ (fun s => xNb (H.2.1 2 0).toInt cell.toInt (H.2.1 61 s).toInt (H.2.1 2 10).toInt) i.toInt.toNat = true := fun h9 => by
          have := q2.mpr h9
          omega
        rw [tBn_n (f := (fun s => xNb (H.2.1 2 0).toInt cell.toInt (H.2.1 61 s).toInt (H.2.1 2 10).toInt)) h3] at hP
        refine zw_ii (pc' := 43) rfl l4 rfl rfl ?_
        refine zw_s (pc' := 5) rfl rfl ?_
        exact ih _ (i + Int32.ofInt 1) _ (by omega) (by omega) (zw_gt l0 rfl rfl) (zw_gt l1 rfl rfl) (zw_gt l2 rfl rfl) (zw_gt l3 rfl rfl) zw_g1 hP
      · have h3 : (fun s => xNb (H.2.1 2 0).toInt cell.toInt (H.2.1 61 s).toInt (H.2.1 2 10).toInt) i.toInt.toNat = true := q2.mp (by omega)
        rw [tBn_y (f := (fun s => xNb (H.2.1 2 0).toInt cell.toInt (H.2.1 61 s).toInt (H.2.1 2 10).toInt)) h3] at hP
        refine zw_ld (n := 1) (k := 3) (f := zp_isI) (pc' := 34) rfl rfl l3 rfl rfl ?_
        refine zw_s (pc' := 35) rfl rfl ?_
        refine zw_ld (n := 2) (k := 4) (f := zp_isI) (pc' := 37) rfl rfl l4 rfl rfl ?_
        refine zw_ishl (pc' := 38) rfl rfl ?_
        refine zw_ior (pc' := 39) rfl rfl ?_
        refine zw_st (n := 1) (k := 3) (f := zp_isI) (pc' := 40) rfl rfl rfl rfl rfl ?_
        refine zw_ii (pc' := 43) rfl (zw_gt l4 rfl rfl) rfl rfl ?_
        refine zw_s (pc' := 5) rfl rfl ?_
        exact ih _ (i + Int32.ofInt 1) _ (by omega) (by omega) (zw_gt (zw_gt l0 rfl rfl) rfl rfl) (zw_gt (zw_gt l1 rfl rfl) rfl rfl) (zw_gt (zw_gt l2 rfl rfl) rfl rfl) (zw_gt zw_g1 rfl rfl) zw_g1 hP

theorem yc_bn2 {L : Nat} {σ : Nat → Int32} {d : Nat} {H : zp_H} {cell : Int32} (W : zw_W H) (hw : 2 ≤ (H.2.1 2 0).toInt) (hx : 0 ≤ cell.toInt ∧ cell.toInt ≤ 63) (hn : 0 ≤ (H.2.1 60 0).toInt ∧ (H.2.1 60 0).toInt ≤ 8) (hb : ∀ s : Nat, (s : Int) < (H.2.1 60 0).toInt → 0 ≤ (H.2.1 61 s).toInt ∧ (H.2.1 61 s).toInt ≤ 63) : zp_Call L σ (d + 3) 142 [.inr (.inr (some 61)), .inr (.inr (some 3)), .inl cell] H (.inl (some (.inl (tBn (fun s => xNb (H.2.1 2 0).toInt cell.toInt (H.2.1 61 s).toInt (H.2.1 2 10).toInt) (H.2.1 60 0).toInt.toNat (Int32.ofInt 0) (Int32.ofInt 0)))), H) := by
  refine zw_ex (zw_met zm_142_t rfl rfl ?_)
  refine zw_s (pc' := 1) rfl rfl ?_
  refine zw_st (n := 1) (k := 3) (f := zp_isI) (pc' := 2) rfl rfl rfl rfl rfl ?_
  refine zw_s (pc' := 3) rfl rfl ?_
  refine zw_st (n := 2) (k := 4) (f := zp_isI) (pc' := 5) rfl rfl rfl rfl rfl ?_
  exact yc_bnL2 W hw hx hn hb (H.2.1 60 0).toInt.toNat _ (Int32.ofInt 0) (Int32.ofInt 0) (by decide) (by rw [show (Int32.ofInt 0).toInt = 0 by decide]; omega) (zw_gt (zw_gt rfl rfl rfl) rfl rfl) (zw_gt (zw_gt rfl rfl rfl) rfl rfl) (zw_gt (zw_gt rfl rfl rfl) rfl rfl) (zw_gt zw_g1 rfl rfl) zw_g1 rfl

theorem yc_bnL22 {L : Nat} {σ : Nat → Int32} {d : Nat} {P : zp_X → Prop} {H : zp_H} {cell : Int32} (W : zw_W H) (hw : 2 ≤ (H.2.1 22 0).toInt) (hx : 0 ≤ cell.toInt ∧ cell.toInt ≤ 63) (hn : 0 ≤ (H.2.1 60 0).toInt ∧ (H.2.1 60 0).toInt ≤ 8) (hb : ∀ s : Nat, (s : Int) < (H.2.1 60 0).toInt → 0 ≤ (H.2.1 61 s).toInt ∧ (H.2.1 61 s).toInt ≤ 63) : ∀ (n : Nat) (lv : zp_LV) (i v : Int32), 0 ≤ i.toInt → i.toInt + (n : Int) = (H.2.1 60 0).toInt → zp_get lv 0 = some (.inr (.inr (some 61))) → zp_get lv 1 = some (.inr (.inr (some 23))) → zp_get lv 2 = some (.inl cell) → zp_get lv 3 = some (.inl v) → zp_get lv 4 = some (.inl i) → P (.inl (some (.inl (tBn (fun s => xNb (H.2.1 22 0).toInt cell.toInt (H.2.1 61 s).toInt (H.2.1 22 10).toInt) n i v))), H) → zs_Safe L σ P zm_142 [] (d + 2) (5, lv, [], H, (0, 0)) := by
  intro n
  induction n with
  | zero =>
    intro lv i v h5 hN l0 l1 l2 l3 l4 hP
    refine zw_ld (n := 2) (k := 4) (f := zp_isI) (pc' := 7) rfl rfl l4 rfl rfl ?_
    refine zw_ld (n := 1) (k := 0) (f := zp_isR) (pc' := 8) rfl rfl l0 rfl rfl ?_
    refine zw_gI (q := 60) (pc' := 11) W rfl rfl rfl rfl rfl rfl ?_
    refine zw_bge2 (g := 46) (pc' := 14) rfl rfl rfl rfl rfl (fun h1 => ?_) (fun h1 => ?_)
    · refine zw_ld (n := 1) (k := 3) (f := zp_isI) (pc' := 47) rfl rfl l3 rfl rfl ?_
      refine zw_ri rfl rfl ?_
      exact hP
    · have hN : i.toInt + ((0 : Nat) : Int) = (H.2.1 60 0).toInt := hN
      omega
  | succ n ih =>
    intro lv i v h5 hN l0 l1 l2 l3 l4 hP
    refine zw_ld (n := 2) (k := 4) (f := zp_isI) (pc' := 7) rfl rfl l4 rfl rfl ?_
    refine zw_ld (n := 1) (k := 0) (f := zp_isR) (pc' := 8) rfl rfl l0 rfl rfl ?_
    refine zw_gI (q := 60) (pc' := 11) W rfl rfl rfl rfl rfl rfl ?_
    refine zw_bge2 (g := 46) (pc' := 14) rfl rfl rfl rfl rfl (fun h1 => ?_) (fun h1 => ?_)
    · omega
    · have ei : (i + Int32.ofInt 1).toInt = i.toInt + 1 := zw_p1 (by omega)
      obtain ⟨_, q1, v9, rfl, q2⟩ := yc_far22 (L := L) (σ := σ) (d := d) (x := cell) (y := H.2.1 61 i.toInt.toNat) W hw hx (hb _ (by omega))
      have q2 := q2 (H.2.1 22 10).toInt
      refine zw_ld (n := 1) (k := 1) (f := zp_isR) (pc' := 15) rfl rfl l1 rfl rfl ?_
      refine zw_ld (n := 1) (k := 2) (f := zp_isI) (pc' := 16) rfl rfl l2 rfl rfl ?_
      refine zw_ld (n := 1) (k := 0) (f := zp_isR) (pc' := 17) rfl rfl l0 rfl rfl ?_
      refine zw_gR (q := 60) (pc' := 20) W rfl rfl rfl rfl (W.2 60 1 _ rfl) rfl ?_
      refine zw_ld (n := 2) (k := 4) (f := zp_isI) (pc' := 22) rfl rfl l4 rfl rfl ?_
      refine zw_ia (q := 61) (pc' := 23) W rfl rfl (by decide) (⟨h5, by show _ < ((8 : Nat) : Int); omega⟩) rfl rfl ?_
      refine zw_c (pc' := 26) (zw_cv (q := 22) (Y := zm_143) W.1 rfl rfl zm_143_t rfl rfl) rfl rfl rfl rfl rfl (q1) ?_
      refine zw_ld (n := 1) (k := 1) (f := zp_isR) (pc' := 27) rfl rfl l1 rfl rfl ?_
      refine zw_gI (q := 22) (pc' := 30) W rfl rfl rfl rfl rfl rfl ?_
      refine zw_bgt2 (g := 40) (pc' := 33) rfl rfl rfl rfl rfl (fun h2 => ?_) (fun h2 => ?_)
      · have h3 : ¬ (fun s => xNb (H.2.1 22 0).toInt cell.toInt (H.2.1 61 s).toInt (H.2.1 22 10).toInt) i.toInt.toNat = true := fun h9 => by
          have := q2.mpr h9
          omega
        rw [tBn_n (f := (fun s => xNb (H.2.1 22 0).toInt cell.toInt (H.2.1 61 s).toInt (H.2.1 22 10).toInt)) h3] at hP
        refine zw_ii (pc' := 43) rfl l4 rfl rfl ?_
        refine zw_s (pc' := 5) rfl rfl ?_
        exact ih _ (i + Int32.ofInt 1) _ (by omega) (by omega) (zw_gt l0 rfl rfl) (zw_gt l1 rfl rfl) (zw_gt l2 rfl rfl) (zw_gt l3 rfl rfl) zw_g1 hP
      · have h3 : (fun s => xNb (H.2.1 22 0).toInt cell.toInt (H.2.1 61 s).toInt (H.2.1 22 10).toInt) i.toInt.toNat = true := q2.mp (by omega)
        rw [tBn_y (f := (fun s => xNb (H.2.1 22 0).toInt cell.toInt (H.2.1 61 s).toInt (H.2.1 22 10).toInt)) h3] at hP
        refine zw_ld (n := 1) (k := 3) (f := zp_isI) (pc' := 34) rfl rfl l3 rfl rfl ?_
        refine zw_s (pc' := 35) rfl rfl ?_
        refine zw_ld (n := 2) (k := 4) (f := zp_isI) (pc' := 37) rfl rfl l4 rfl rfl ?_
        refine zw_ishl (pc' := 38) rfl rfl ?_
        refine zw_ior (pc' := 39) rfl rfl ?_
        refine zw_st (n := 1) (k := 3) (f := zp_isI) (pc' := 40) rfl rfl rfl rfl rfl ?_
        refine zw_ii (pc' := 43) rfl (zw_gt l4 rfl rfl) rfl rfl ?_
        refine zw_s (pc' := 5) rfl rfl ?_
        exact ih _ (i + Int32.ofInt 1) _ (by omega) (by omega) (zw_gt (zw_gt l0 rfl rfl) rfl rfl) (zw_gt (zw_gt l1 rfl rfl) rfl rfl) (zw_gt (zw_gt l2 rfl rfl) rfl rfl) (zw_gt zw_g1 rfl rfl) zw_g1 hP

theorem yc_bn22 {L : Nat} {σ : Nat → Int32} {d : Nat} {H : zp_H} {cell : Int32} (W : zw_W H) (hw : 2 ≤ (H.2.1 22 0).toInt) (hx : 0 ≤ cell.toInt ∧ cell.toInt ≤ 63) (hn : 0 ≤ (H.2.1 60 0).toInt ∧ (H.2.1 60 0).toInt ≤ 8) (hb : ∀ s : Nat, (s : Int) < (H.2.1 60 0).toInt → 0 ≤ (H.2.1 61 s).toInt ∧ (H.2.1 61 s).toInt ≤ 63) : zp_Call L σ (d + 3) 142 [.inr (.inr (some 61)), .inr (.inr (some 23)), .inl cell] H (.inl (some (.inl (tBn (fun s => xNb (H.2.1 22 0).toInt cell.toInt (H.2.1 61 s).toInt (H.2.1 22 10).toInt) (H.2.1 60 0).toInt.toNat (Int32.ofInt 0) (Int32.ofInt 0)))), H) := by
  refine zw_ex (zw_met zm_142_t rfl rfl ?_)
  refine zw_s (pc' := 1) rfl rfl ?_
  refine zw_st (n := 1) (k := 3) (f := zp_isI) (pc' := 2) rfl rfl rfl rfl rfl ?_
  refine zw_s (pc' := 3) rfl rfl ?_
  refine zw_st (n := 2) (k := 4) (f := zp_isI) (pc' := 5) rfl rfl rfl rfl rfl ?_
  exact yc_bnL22 W hw hx hn hb (H.2.1 60 0).toInt.toNat _ (Int32.ofInt 0) (Int32.ofInt 0) (by decide) (by rw [show (Int32.ofInt 0).toInt = 0 by decide]; omega) (zw_gt (zw_gt rfl rfl rfl) rfl rfl) (zw_gt (zw_gt rfl rfl rfl) rfl rfl) (zw_gt (zw_gt rfl rfl rfl) rfl rfl) (zw_gt zw_g1 rfl rfl) zw_g1 rfl

theorem yc_prL {L : Nat} {σ : Nat → Int32} {d : Nat} {P : zp_X → Prop} {H0 : zp_H} {A : Nat → Bool} {B : Nat → Nat → Bool} {m : Nat → Nat} {n9 : Nat} (hm : ∀ g, g < n9 → H0.2.1 66 g = Int32.ofNat (m g) ∧ m g < 256 ∧ ∀ s, (m g).testBit s = true ↔ B g s = true) : ∀ (n : Nat) (H : zp_H) (lv : zp_LV) (i : Int32) (a b : Nat) (Pr : List Nat), zw_W H → tFw (fun p _ => p = 67) H0 H → 0 ≤ i.toInt → i.toInt + (n : Int) = 8 → a < 256 → tC a ≤ n → (∀ s, a.testBit s = true → s < n9) → b < 256 → (∀ s, b.testBit s = true ↔ tR A B Pr s) → zp_get lv 0 = some (.inr (.inr (some 61))) → zp_get lv 2 = some (.inl (Int32.ofNat a)) → zp_get lv 3 = some (.inl (Int32.ofNat b)) → zp_get lv 4 = some (.inl i) → (∀ K r, zw_W K → tFw (fun p _ => p = 67) H0 K → (∀ k, k < i.toInt.toNat → K.2.1 67 k = H.2.1 67 k) → r.length = tC a → tG A B Pr (fun s => a.testBit s) r → (∀ k, k < r.length → K.2.1 67 (i.toInt.toNat + k) = Int32.ofNat (r.getD k 0)) → P (.inl (some (.inl (Int32.ofInt 1))), K)) → (∀ K r, zw_W K → tFw (fun p _ => p = 67) H0 K → tF A B Pr (fun s => a.testBit s) r → P (.inl (some (.inl (Int32.ofInt 0))), K)) → zs_Safe L σ P zm_146 [] (d + 1) (10, lv, [], H, (0, 0)) := by
  intro n
  induction n with
  | zero =>
    intro H lv i a b Pr W hF h5 hN ha hC hn9 hb hbn l0 l2 l3 l4 hP1 hP0
    refine zw_ld (n := 2) (k := 4) (f := zp_isI) (pc' := 12) rfl rfl l4 rfl rfl ?_
    refine zw_s (pc' := 14) rfl rfl ?_
    refine zw_bge2 (g := 77) (pc' := 17) rfl rfl rfl rfl (rfl : _ = (8 : Int)) (fun h1 => ?_) (fun h1 => ?_)
    · have ha0 : a = 0 := by
        refine Decidable.byContradiction (fun h9 => ?_)
        obtain ⟨g, g1, g2, g3, g4⟩ := tm_nz h9 ha
        have := (tm_cl ha g1).2.2.2 g3
        omega
      refine zw_s (pc' := 78) rfl rfl ?_
      refine zw_rz rfl rfl (by decide) ?_
      refine hP1 H [] W hF (fun _ _ => rfl) ?_ ?_ (fun k hk => absurd hk (Nat.not_lt_zero _))
      · exact ((congrArg tC ha0).trans tC_0).symm
      · intro s
        show a.testBit s = false
        rw [ha0]
        exact Nat.zero_testBit s
    · have hN : i.toInt + ((0 : Nat) : Int) = 8 := hN
      omega
  | succ n ih =>
    intro H lv i a b Pr W hF h5 hN ha hC hn9 hb hbn l0 l2 l3 l4 hP1 hP0
    refine zw_ld (n := 2) (k := 4) (f := zp_isI) (pc' := 12) rfl rfl l4 rfl rfl ?_
    refine zw_s (pc' := 14) rfl rfl ?_
    refine zw_bge2 (g := 77) (pc' := 17) rfl rfl rfl rfl (rfl : _ = (8 : Int)) (fun h1 => ?_) (fun h1 => ?_)
    · omega
    · refine zw_ld (n := 1) (k := 2) (f := zp_isI) (pc' := 18) rfl rfl l2 rfl rfl ?_
      refine zw_beq1 (g := 77) (pc' := 21) rfl rfl rfl rfl (fun h2 => ?_) (fun h2 => ?_)
      · have ha0 : a = 0 := (tm_0 ha).mp h2
        refine zw_s (pc' := 78) rfl rfl ?_
        refine zw_rz rfl rfl (by decide) ?_
        refine hP1 H [] W hF (fun _ _ => rfl) ?_ ?_ (fun k hk => absurd hk (Nat.not_lt_zero _))
        · exact ((congrArg tC ha0).trans tC_0).symm
        · intro s
          show a.testBit s = false
          rw [ha0]
          exact Nat.zero_testBit s
      · have ha0 : a ≠ 0 := fun h9 => h2 ((tm_0 ha).mpr h9)
        refine zw_ld (n := 1) (k := 2) (f := zp_isI) (pc' := 22) rfl rfl l2 rfl rfl ?_
        refine zw_ld (n := 1) (k := 3) (f := zp_isI) (pc' := 23) rfl rfl l3 rfl rfl ?_
        refine zw_iand (pc' := 24) rfl rfl ?_
        refine zw_bne1 (g := 29) (pc' := 27) rfl rfl rfl rfl (fun h3 => ?_) (fun h3 => ?_)
        · have hab : a &&& b < 256 := Nat.and_lt_two_pow (n := 8) a hb
          rw [tm_and] at h3
          have hz : a &&& b ≠ 0 := fun h9 => h3 ((tm_0 hab).mpr h9)
          obtain ⟨g, g1, g2, g3, g4⟩ := tm_nz hz hab
          have tab := tm_to hab
          obtain ⟨_, q1, v9, rfl, q2⟩ := yc_ntz (L := L) (σ := σ) (d := d) (H := H) (x := Int32.ofNat a &&& Int32.ofNat b) (by rw [tm_and, tab]; omega)
          rw [tm_and, g2] at q2
          subst q2
          have gb : a.testBit g = true ∧ b.testBit g = true := by
            rw [Nat.testBit_and, Bool.and_eq_true] at g3
            exact g3
          have tg : (Int32.ofNat g).toInt = (g : Int) := tm_to (by omega)
          have ng : (Int32.ofNat g).toInt.toNat = g := by omega
          obtain ⟨m1, m2, m3⟩ := hm g (hn9 g gb.1)
          obtain ⟨c1, c2, c3, c4⟩ := tm_cl ha g1
          have ei : (i + Int32.ofInt 1).toInt = i.toInt + 1 := zw_p1 (by omega)
          have e66 : H.2.1 66 (Int32.ofNat g).toInt.toNat = Int32.ofNat (m g) := by
            rw [ng]
            exact (hF.2.2.1 66 g (show ¬ ((66 : Nat) = 67) by decide)).trans m1
          refine zw_ld (n := 1) (k := 0) (f := zp_isR) (pc' := 30) rfl rfl l0 rfl rfl ?_
          refine zw_gR (q := 60) (pc' := 33) W rfl rfl rfl rfl (W.2 60 8 _ rfl) rfl ?_
          refine zw_ld (n := 2) (k := 4) (f := zp_isI) (pc' := 35) rfl rfl l4 rfl rfl ?_
          refine zw_ld (n := 1) (k := 2) (f := zp_isI) (pc' := 36) rfl rfl l2 rfl rfl ?_
          refine zw_ld (n := 1) (k := 3) (f := zp_isI) (pc' := 37) rfl rfl l3 rfl rfl ?_
          refine zw_iand (pc' := 38) rfl rfl ?_
          refine zw_c (pc' := 41) (zw_cs (Y := zm_147) rfl rfl zm_147_t) rfl rfl rfl rfl rfl (q1) ?_
          refine zw_is (q := 67) (pc' := 42) W rfl rfl (by decide) (⟨h5, by show _ < ((8 : Nat) : Int); omega⟩) rfl ?_
          rw [show zp_nar 0 (Int32.ofNat g) = Int32.ofNat g from rfl]
          refine zw_ld (n := 1) (k := 3) (f := zp_isI) (pc' := 43) rfl rfl l3 rfl rfl ?_
          refine zw_ld (n := 1) (k := 0) (f := zp_isR) (pc' := 44) rfl rfl l0 rfl rfl ?_
          refine zw_gR (q := 60) (pc' := 47) (zw_W_I W) rfl rfl rfl rfl ((zw_W_I W).2 60 7 _ rfl) rfl ?_
          refine zw_ld (n := 1) (k := 0) (f := zp_isR) (pc' := 48) rfl rfl l0 rfl rfl ?_
          refine zw_gR (q := 60) (pc' := 51) (zw_W_I W) rfl rfl rfl rfl ((zw_W_I W).2 60 8 _ rfl) rfl ?_
          refine zw_ld (n := 2) (k := 4) (f := zp_isI) (pc' := 53) rfl rfl l4 rfl rfl ?_
          refine zw_ia (q := 67) (pc' := 54) (zw_W_I W) rfl rfl (by decide) (⟨h5, by show _ < ((8 : Nat) : Int); omega⟩) zw_eq rfl ?_
          refine zw_ia (q := 66) (pc' := 55) (zw_W_I W) rfl rfl (by decide) (⟨by omega, by show _ < ((8 : Nat) : Int); omega⟩) (zw_ne rfl rfl) rfl ?_
          rw [e66]
          refine zw_ior (pc' := 56) rfl rfl ?_
          rw [tm_or]
          refine zw_st (n := 1) (k := 3) (f := zp_isI) (pc' := 57) rfl rfl rfl rfl rfl ?_
          refine zw_ld (n := 1) (k := 2) (f := zp_isI) (pc' := 58) rfl rfl (zw_gt l2 rfl rfl) rfl rfl ?_
          refine zw_s (pc' := 59) rfl rfl ?_
          refine zw_ld (n := 1) (k := 0) (f := zp_isR) (pc' := 60) rfl rfl (zw_gt l0 rfl rfl) rfl rfl ?_
          refine zw_gR (q := 60) (pc' := 63) (zw_W_I W) rfl rfl rfl rfl ((zw_W_I W).2 60 8 _ rfl) rfl ?_
          refine zw_ld (n := 2) (k := 4) (f := zp_isI) (pc' := 65) rfl rfl (zw_gt l4 rfl rfl) rfl rfl ?_
          refine zw_ia (q := 67) (pc' := 66) (zw_W_I W) rfl rfl (by decide) (⟨h5, by show _ < ((8 : Nat) : Int); omega⟩) zw_eq rfl ?_
          refine zw_ishl (pc' := 67) rfl rfl ?_
          refine zw_s (pc' := 68) rfl rfl ?_
          refine zw_ixor (pc' := 69) rfl rfl ?_
          refine zw_iand (pc' := 70) rfl rfl ?_
          rw [c1]
          refine zw_st (n := 1) (k := 2) (f := zp_isI) (pc' := 71) rfl rfl rfl rfl rfl ?_
          refine zw_ii (pc' := 74) rfl (zw_gt (zw_gt l4 rfl rfl) rfl rfl) rfl rfl ?_
          refine zw_s (pc' := 10) rfl rfl ?_
          have H1d : ∀ q k, ¬ (q = 67 ∧ k = i.toInt.toNat) → (zw_I H 67 i.toInt.toNat (Int32.ofNat g)).2.1 q k = H.2.1 q k := fun q k hq => y_ne hq
          have eL : (fun s => (tc a g).testBit s) = fun s => a.testBit s && decide (s ≠ g) := funext c3
          have hR : tR A B Pr g := (hbn g).mp gb.2
          have hmin : ∀ s, s < g → a.testBit s = true → ¬ tR A B Pr s := fun s hs hs2 hr => by
            have h9 := g4 s hs
            rw [Nat.testBit_and, hs2, (hbn s).mpr hr] at h9
            cases h9
          refine ih (zw_I H 67 i.toInt.toNat (Int32.ofNat g)) _ (i + Int32.ofInt 1) (tc a g) (b ||| m g) (g :: Pr) (zw_W_I W) (tFw_I hF rfl) (by omega) (by omega) c2 (by have := c4 gb.1; omega) (fun s hs => ?_) (tm_o2 hb m2) (fun s => ?_) (zw_gt (zw_gt (zw_gt l0 rfl rfl) rfl rfl) rfl rfl) (zw_gt zw_g1 rfl rfl) (zw_gt (zw_gt zw_g1 rfl rfl) rfl rfl) zw_g1 (fun K r w1 w2 w3 w4 w5 w6 => ?_) (fun K r w1 w2 w3 => ?_)
          · rw [c3 s, Bool.and_eq_true] at hs
            exact hn9 s hs.1
          · rw [tm_ob, hbn s, m3 s]
            constructor
            · rintro ((h | ⟨t, h8, h9⟩) | h)
              · exact Or.inl h
              · exact Or.inr ⟨t, List.mem_cons_of_mem _ h8, h9⟩
              · exact Or.inr ⟨g, List.mem_cons_self, h⟩
            · rintro (h | ⟨t, h8, h9⟩)
              · exact Or.inl (Or.inl h)
              · rcases List.mem_cons.mp h8 with h7 | h7
                · rw [h7] at h9
                  exact Or.inr h9
                · exact Or.inl (Or.inr ⟨t, h7, h9⟩)
          · rw [eL] at w5
            refine hP1 K (g :: r) w1 w2 (fun k hk => ?_) ?_ ⟨gb.1, hR, hmin, w5⟩ (fun k hk => ?_)
            · exact (w3 k (by omega)).trans (H1d 67 k (fun h9 => by have := h9.2; omega))
            · have := c4 gb.1
              show r.length + 1 = tC a
              omega
            · match k, hk with
              | 0, _ => exact (w3 (i.toInt.toNat + 0) (by omega)).trans zw_eq
              | k + 1, hk =>
                have e := w6 k (Nat.lt_of_succ_lt_succ hk)
                rw [show (i + Int32.ofInt 1).toInt.toNat + k = i.toInt.toNat + (k + 1) by omega] at e
                exact e
          · rw [eL] at w3
            exact hP0 K (g :: r) w1 w2 ⟨gb.1, hR, hmin, w3⟩
        · rw [tm_and] at h3
          have hz : a &&& b = 0 := (tm_0 (Nat.and_lt_two_pow (n := 8) a hb)).mp h3
          refine zw_s (pc' := 28) rfl rfl ?_
          refine zw_rz rfl rfl (by decide) ?_
          obtain ⟨g, g1, g2, g3, g4⟩ := tm_nz ha0 ha
          refine hP0 H [] W hF ⟨⟨g, g3⟩, fun s hs hr => ?_⟩
          have h9 : (a &&& b).testBit s = true := by rw [Nat.testBit_and, Bool.and_eq_true]; exact ⟨hs, (hbn s).mpr hr⟩
          rw [hz, Nat.zero_testBit] at h9
          cases h9

theorem yc_pr {L : Nat} {σ : Nat → Int32} {d : Nat} {H : zp_H} {A : Nat → Bool} {B : Nat → Nat → Bool} {m : Nat → Nat} {n9 a b : Nat} (W : zw_W H) (hm : ∀ g, g < n9 → H.2.1 66 g = Int32.ofNat (m g) ∧ m g < 256 ∧ ∀ s, (m g).testBit s = true ↔ B g s = true) (ha : a < 256) (hn9 : ∀ s, a.testBit s = true → s < n9) (hb : b < 256) (h6 : H.2.1 60 6 = Int32.ofNat b) (hA : ∀ s, b.testBit s = true ↔ A s = true) : ∃ X, zp_Call L σ (d + 2) 146 [.inr (.inr (some 61)), .inl (Int32.ofNat a)] H X ∧ ∃ K v, X = (.inl (some (.inl v)), K) ∧ zw_W K ∧ tFw (fun p _ => p = 67) H K ∧ ((v = Int32.ofInt 1 ∧ ∃ r, r.length = tC a ∧ tG A B [] (fun s => a.testBit s) r ∧ ∀ k, k < r.length → K.2.1 67 k = Int32.ofNat (r.getD k 0)) ∨ (v = Int32.ofInt 0 ∧ ∃ r, tF A B [] (fun s => a.testBit s) r)) := by
  refine zw_met zm_146_t rfl rfl ?_
  refine zw_ld (n := 1) (k := 1) (f := zp_isI) (pc' := 1) rfl rfl rfl rfl rfl ?_
  refine zw_st (n := 1) (k := 2) (f := zp_isI) (pc' := 2) rfl rfl rfl rfl rfl ?_
  refine zw_ld (n := 1) (k := 0) (f := zp_isR) (pc' := 3) rfl rfl (zw_gt rfl rfl rfl) rfl rfl ?_
  refine zw_gI (q := 60) (pc' := 6) W rfl rfl rfl rfl rfl rfl ?_
  rw [h6]
  refine zw_st (n := 1) (k := 3) (f := zp_isI) (pc' := 7) rfl rfl rfl rfl rfl ?_
  refine zw_s (pc' := 8) rfl rfl ?_
  refine zw_st (n := 2) (k := 4) (f := zp_isI) (pc' := 10) rfl rfl rfl rfl rfl ?_
  refine yc_prL (H0 := H) hm 8 H _ (Int32.ofInt 0) a b [] W (tFw_r H) (by decide) (by decide) ha (tC_b ha).2 hn9 hb (fun s => ?_) (zw_gt (zw_gt (zw_gt rfl rfl rfl) rfl rfl) rfl rfl) (zw_gt (zw_gt zw_g1 rfl rfl) rfl rfl) (zw_gt zw_g1 rfl rfl) zw_g1 (fun K r w1 w2 _ w4 w5 w6 => ⟨K, _, rfl, w1, w2, Or.inl ⟨rfl, r, w4, w5, fun k hk => ?_⟩⟩) (fun K r w1 w2 w3 => ⟨K, _, rfl, w1, w2, Or.inr ⟨rfl, r, w3⟩⟩)
  · rw [hA s]
    exact ⟨Or.inl, fun h9 => h9.elim id (fun ⟨t, h8, _⟩ => absurd h8 List.not_mem_nil)⟩
  · have e := w6 k hk
    rw [show (Int32.ofInt 0).toInt.toNat + k = k from Nat.zero_add k] at e
    exact e

/-- is the one row before the other -/
def tAh (f g : Nat → Int32) : Nat → Int32 → Int32
  | 0, _ => Int32.ofInt 0
  | n + 1, i => if (f i.toInt.toNat).toInt = (g i.toInt.toNat).toInt then tAh f g n (i + Int32.ofInt 1) else if (f i.toInt.toNat).toInt < (g i.toInt.toNat).toInt then Int32.ofInt 1 else Int32.ofInt 0
theorem tAh_e {f g : Nat → Int32} {n : Nat} {i : Int32} (h : (f i.toInt.toNat).toInt = (g i.toInt.toNat).toInt) : tAh f g (n + 1) i = tAh f g n (i + Int32.ofInt 1) := if_pos h
theorem tAh_1 {f g : Nat → Int32} {n : Nat} {i : Int32} (h : (f i.toInt.toNat).toInt < (g i.toInt.toNat).toInt) : tAh f g (n + 1) i = Int32.ofInt 1 := (if_neg (by omega)).trans (if_pos h)
theorem tAh_0 {f g : Nat → Int32} {n : Nat} {i : Int32} (h : (g i.toInt.toNat).toInt < (f i.toInt.toNat).toInt) : tAh f g (n + 1) i = Int32.ofInt 0 := (if_neg (by omega)).trans (if_neg (by omega))
theorem tAh_N {f g : Nat → Int32} : ∀ (r q : List Nat) (i : Int32) (x : Nat), r.length = q.length → 0 ≤ i.toInt → i.toInt + r.length ≤ 8 → (∀ s, s ∈ r → s < 8) → (∀ s, s ∈ q → s < 8) → (∀ k, k < r.length → f (i.toInt.toNat + k) = Int32.ofNat (r.getD k 0)) → (∀ k, k < r.length → g (i.toInt.toNat + k) = Int32.ofNat (q.getD k 0)) → ((tAh f g r.length i = Int32.ofInt 1 ∧ tN r x < tN q x) ∨ (tAh f g r.length i = Int32.ofInt 0 ∧ tN q x ≤ tN r x))
  | [], [], i, x, _, _, _, _, _, _, _ => Or.inr ⟨rfl, Nat.le_refl _⟩
  | [], _ :: _, _, _, hl, _, _, _, _, _, _ => by cases hl
  | _ :: _, [], _, _, hl, _, _, _, _, _, _ => by cases hl
  | s :: r, t :: q, i, x, hl, h0, h8, hr, hq, hf, hg => by
    have h8 : i.toInt + ((r.length + 1 : Nat) : Int) ≤ 8 := h8
    have hl : r.length = q.length := Nat.succ.inj hl
    have e : (i + Int32.ofInt 1).toInt = i.toInt + 1 := zw_p1 (by omega)
    have hs := hr s List.mem_cons_self
    have ht := hq t List.mem_cons_self
    have hr' : ∀ s, s ∈ r → s < 8 := fun s hs => hr s (List.mem_cons_of_mem _ hs)
    have hq' : ∀ s, s ∈ q → s < 8 := fun s hs => hq s (List.mem_cons_of_mem _ hs)
    have f0 : f i.toInt.toNat = Int32.ofNat s := hf 0 (Nat.succ_pos _)
    have g0 : g i.toInt.toNat = Int32.ofNat t := hg 0 (Nat.succ_pos _)
    have fs : (f i.toInt.toNat).toInt = (s : Int) := by rw [f0]; exact tm_to (by omega)
    have gt : (g i.toInt.toNat).toInt = (t : Int) := by rw [g0]; exact tm_to (by omega)
    show ((tAh f g (r.length + 1) i = Int32.ofInt 1 ∧ tN r (x * 16 + s) < tN q (x * 16 + t)) ∨ (tAh f g (r.length + 1) i = Int32.ofInt 0 ∧ tN q (x * 16 + t) ≤ tN r (x * 16 + s)))
    have b1 := tN_hi r (x * 16 + s) (fun k hk => by have := hr' k hk; omega)
    have b2 := tN_lo r (x * 16 + s)
    have b3 := tN_hi q (x * 16 + t) (fun k hk => by have := hq' k hk; omega)
    have b4 := tN_lo q (x * 16 + t)
    rw [← hl] at b3 b4
    rcases Nat.lt_trichotomy s t with h9 | h9 | h9
    · have b5 : (x * 16 + s + 1) * 16 ^ r.length ≤ (x * 16 + t) * 16 ^ r.length := Nat.mul_le_mul_right _ (by omega)
      exact Or.inl ⟨tAh_1 (by omega), by omega⟩
    · have ih := tAh_N (f := f) (g := g) r q (i + Int32.ofInt 1) (x * 16 + s) hl (by omega) (by omega) hr' hq' (fun k hk => by
        have h7 := hf (k + 1) (Nat.succ_lt_succ hk)
        rw [show (i + Int32.ofInt 1).toInt.toNat + k = i.toInt.toNat + (k + 1) by omega]
        exact h7) (fun k hk => by
        have h7 := hg (k + 1) (Nat.succ_lt_succ hk)
        rw [show (i + Int32.ofInt 1).toInt.toNat + k = i.toInt.toNat + (k + 1) by omega]
        exact h7)
      rw [tAh_e (f := f) (g := g) (show (f i.toInt.toNat).toInt = (g i.toInt.toNat).toInt by omega), ← h9]
      exact ih
    · have b5 : (x * 16 + t + 1) * 16 ^ r.length ≤ (x * 16 + s) * 16 ^ r.length := Nat.mul_le_mul_right _ (by omega)
      exact Or.inr ⟨tAh_0 (by omega), by omega⟩

theorem yc_raL {L : Nat} {σ : Nat → Int32} {d : Nat} {P : zp_X → Prop} {H : zp_H} {sz : Int32} (W : zw_W H) (h8 : sz.toInt ≤ 8) : ∀ (n : Nat) (lv : zp_LV) (i : Int32), 0 ≤ i.toInt → i.toInt + (n : Int) = sz.toInt → zp_get lv 0 = some (.inr (.inr (some 61))) → zp_get lv 1 = some (.inl sz) → zp_get lv 2 = some (.inl i) → P (.inl (some (.inl (tAh (H.2.1 67) (H.2.1 68) n i))), H) → zs_Safe L σ P zm_148 [] d (2, lv, [], H, (0, 0)) := by
  intro n
  induction n with
  | zero =>
    intro lv i h5 hN l0 l1 l2 hP
    refine zw_ld (n := 1) (k := 2) (f := zp_isI) (pc' := 3) rfl rfl l2 rfl rfl ?_
    refine zw_ld (n := 1) (k := 1) (f := zp_isI) (pc' := 4) rfl rfl l1 rfl rfl ?_
    refine zw_bge2 (g := 49) (pc' := 7) rfl rfl rfl rfl rfl (fun h1 => ?_) (fun h1 => ?_)
    · refine zw_s (pc' := 50) rfl rfl ?_
      refine zw_rz rfl rfl (by decide) ?_
      exact hP
    · have hN : i.toInt + ((0 : Nat) : Int) = sz.toInt := hN
      omega
  | succ n ih =>
    intro lv i h5 hN l0 l1 l2 hP
    refine zw_ld (n := 1) (k := 2) (f := zp_isI) (pc' := 3) rfl rfl l2 rfl rfl ?_
    refine zw_ld (n := 1) (k := 1) (f := zp_isI) (pc' := 4) rfl rfl l1 rfl rfl ?_
    refine zw_bge2 (g := 49) (pc' := 7) rfl rfl rfl rfl rfl (fun h1 => ?_) (fun h1 => ?_)
    · omega
    · have ei : (i + Int32.ofInt 1).toInt = i.toInt + 1 := zw_p1 (by omega)
      refine zw_ld (n := 1) (k := 0) (f := zp_isR) (pc' := 8) rfl rfl l0 rfl rfl ?_
      refine zw_gR (q := 60) (pc' := 11) W rfl rfl rfl rfl (W.2 60 8 _ rfl) rfl ?_
      refine zw_ld (n := 1) (k := 2) (f := zp_isI) (pc' := 12) rfl rfl l2 rfl rfl ?_
      refine zw_ia (q := 67) (pc' := 13) W rfl rfl (by decide) (⟨h5, by show _ < ((8 : Nat) : Int); omega⟩) rfl rfl ?_
      refine zw_ld (n := 1) (k := 0) (f := zp_isR) (pc' := 14) rfl rfl l0 rfl rfl ?_
      refine zw_gR (q := 60) (pc' := 17) W rfl rfl rfl rfl (W.2 60 9 _ rfl) rfl ?_
      refine zw_ld (n := 1) (k := 2) (f := zp_isI) (pc' := 18) rfl rfl l2 rfl rfl ?_
      refine zw_ia (q := 68) (pc' := 19) W rfl rfl (by decide) (⟨h5, by show _ < ((8 : Nat) : Int); omega⟩) rfl rfl ?_
      refine zw_beq2 (g := 43) (pc' := 22) rfl rfl rfl rfl rfl (fun h2 => ?_) (fun h2 => ?_)
      · rw [tAh_e (f := H.2.1 67) (g := H.2.1 68) h2] at hP
        refine zw_ii (pc' := 46) rfl l2 rfl rfl ?_
        refine zw_s (pc' := 2) rfl rfl ?_
        exact ih _ (i + Int32.ofInt 1) (by omega) (by omega) (zw_gt l0 rfl rfl) (zw_gt l1 rfl rfl) zw_g1 hP
      · refine zw_ld (n := 1) (k := 0) (f := zp_isR) (pc' := 23) rfl rfl l0 rfl rfl ?_
        refine zw_gR (q := 60) (pc' := 26) W rfl rfl rfl rfl (W.2 60 8 _ rfl) rfl ?_
        refine zw_ld (n := 1) (k := 2) (f := zp_isI) (pc' := 27) rfl rfl l2 rfl rfl ?_
        refine zw_ia (q := 67) (pc' := 28) W rfl rfl (by decide) (⟨h5, by show _ < ((8 : Nat) : Int); omega⟩) rfl rfl ?_
        refine zw_ld (n := 1) (k := 0) (f := zp_isR) (pc' := 29) rfl rfl l0 rfl rfl ?_
        refine zw_gR (q := 60) (pc' := 32) W rfl rfl rfl rfl (W.2 60 9 _ rfl) rfl ?_
        refine zw_ld (n := 1) (k := 2) (f := zp_isI) (pc' := 33) rfl rfl l2 rfl rfl ?_
        refine zw_ia (q := 68) (pc' := 34) W rfl rfl (by decide) (⟨h5, by show _ < ((8 : Nat) : Int); omega⟩) rfl rfl ?_
        refine zw_bge2 (g := 41) (pc' := 37) rfl rfl rfl rfl rfl (fun h3 => ?_) (fun h3 => ?_)
        · refine zw_s (pc' := 42) rfl rfl ?_
          refine zw_rz rfl rfl (by decide) ?_
          have h4 : (H.2.1 68 i.toInt.toNat).toInt < (H.2.1 67 i.toInt.toNat).toInt := by omega
          rw [tAh_0 (f := H.2.1 67) (g := H.2.1 68) h4] at hP
          exact hP
        · refine zw_s (pc' := 38) rfl rfl ?_
          refine zw_s (pc' := 42) rfl rfl ?_
          refine zw_rz rfl rfl (by decide) ?_
          have h4 : (H.2.1 67 i.toInt.toNat).toInt < (H.2.1 68 i.toInt.toNat).toInt := by omega
          rw [tAh_1 (f := H.2.1 67) (g := H.2.1 68) h4] at hP
          exact hP

theorem yc_ra {L : Nat} {σ : Nat → Int32} {d : Nat} {H : zp_H} {x1 : Int32} (W : zw_W H) (h8 : 0 ≤ x1.toInt ∧ x1.toInt ≤ 8) : zp_Call L σ (d + 1) 148 [.inr (.inr (some 61)), .inl x1] H (.inl (some (.inl (tAh (H.2.1 67) (H.2.1 68) x1.toInt.toNat (Int32.ofInt 0)))), H) := by
  refine zw_ex (zw_met zm_148_t rfl rfl ?_)
  refine zw_s (pc' := 1) rfl rfl ?_
  refine zw_st (n := 1) (k := 2) (f := zp_isI) (pc' := 2) rfl rfl rfl rfl rfl ?_
  exact yc_raL W h8.2 x1.toInt.toNat _ (Int32.ofInt 0) (by decide) (by rw [show (Int32.ofInt 0).toInt = 0 by decide]; omega) (zw_gt rfl rfl rfl) (zw_gt rfl rfl rfl) zw_g1 rfl

theorem yc_btL2 {L : Nat} {σ : Nat → Int32} {d : Nat} {P : zp_X → Prop} {H0 : zp_H} {p set : Int32} (W : zw_W H0) (h8 : (H0.2.1 60 0).toInt ≤ 8) : ∀ (n : Nat) (lv : zp_LV) (i v : Int32) (u : Int64), 0 ≤ i.toInt → i.toInt + (n : Int) = (H0.2.1 60 0).toInt → zp_get lv 0 = some (.inr (.inr (some 61))) → zp_get lv 1 = some (.inr (.inr (some 3))) → zp_get lv 2 = some (.inr (.inr (some 57))) → zp_get lv 3 = some (.inl p) → zp_get lv 4 = some (.inl set) → zp_get lv 5 = some (.inl v) → zp_get lv 6 = some (.inr (.inl u)) → zp_get lv 8 = some (.inl i) → (∀ lv, zp_get lv 0 = some (.inr (.inr (some 61))) → zp_get lv 1 = some (.inr (.inr (some 3))) → zp_get lv 2 = some (.inr (.inr (some 57))) → zp_get lv 3 = some (.inl p) → zp_get lv 4 = some (.inl set) → zp_get lv 5 = some (.inl (tLs (H0.2.1 64) set n i v)) → zp_get lv 6 = some (.inr (.inl (xKn (H0.2.2.1 63) set n i u))) → zs_Safe L σ P zm_149 [] d (58, lv, [], H0, (0, 0))) → zs_Safe L σ P zm_149 [] d (9, lv, [], H0, (0, 0)) := by
  intro n
  induction n with
  | zero =>
    intro lv i v u h5 hN l0 l1 l2 l3 l4 l5 l6 l8 hP
    refine zw_ld (n := 2) (k := 8) (f := zp_isI) (pc' := 11) rfl rfl l8 rfl rfl ?_
    refine zw_ld (n := 1) (k := 0) (f := zp_isR) (pc' := 12) rfl rfl l0 rfl rfl ?_
    refine zw_gI (q := 60) (pc' := 15) W rfl rfl rfl rfl rfl rfl ?_
    refine zw_bge2 (g := 58) (pc' := 18) rfl rfl rfl rfl rfl (fun h1 => ?_) (fun h1 => ?_)
    · exact hP _ l0 l1 l2 l3 l4 l5 l6
    · have hN : i.toInt + ((0 : Nat) : Int) = (H0.2.1 60 0).toInt := hN
      omega
  | succ n ih =>
    intro lv i v u h5 hN l0 l1 l2 l3 l4 l5 l6 l8 hP
    refine zw_ld (n := 2) (k := 8) (f := zp_isI) (pc' := 11) rfl rfl l8 rfl rfl ?_
    refine zw_ld (n := 1) (k := 0) (f := zp_isR) (pc' := 12) rfl rfl l0 rfl rfl ?_
    refine zw_gI (q := 60) (pc' := 15) W rfl rfl rfl rfl rfl rfl ?_
    refine zw_bge2 (g := 58) (pc' := 18) rfl rfl rfl rfl rfl (fun h1 => ?_) (fun h1 => ?_)
    · omega
    · have ei : (i + Int32.ofInt 1).toInt = i.toInt + 1 := zw_p1 (by omega)
      refine zw_ld (n := 2) (k := 4) (f := zp_isI) (pc' := 20) rfl rfl l4 rfl rfl ?_
      refine zw_ld (n := 2) (k := 8) (f := zp_isI) (pc' := 22) rfl rfl l8 rfl rfl ?_
      refine zw_ishr (pc' := 23) rfl rfl ?_
      refine zw_s (pc' := 24) rfl rfl ?_
      refine zw_iand (pc' := 25) rfl rfl ?_
      refine zw_beq1 (g := 52) (pc' := 28) rfl rfl rfl rfl (fun h2 => ?_) (fun h2 => ?_)
      · rw [xKn_n h2, tLs_n h2] at hP
        refine zw_ii (pc' := 55) rfl l8 rfl rfl ?_
        refine zw_s (pc' := 9) rfl rfl ?_
        exact ih _ (i + Int32.ofInt 1) _ _ (by omega) (by omega) (zw_gt l0 rfl rfl) (zw_gt l1 rfl rfl) (zw_gt l2 rfl rfl) (zw_gt l3 rfl rfl) (zw_gt l4 rfl rfl) (zw_gt l5 rfl rfl) (zw_gt l6 rfl rfl) zw_g1 hP
      · rw [xKn_y h2, tLs_y h2] at hP
        refine zw_ld (n := 2) (k := 5) (f := zp_isI) (pc' := 30) rfl rfl l5 rfl rfl ?_
        refine zw_ld (n := 1) (k := 0) (f := zp_isR) (pc' := 31) rfl rfl l0 rfl rfl ?_
        refine zw_gR (q := 60) (pc' := 34) W rfl rfl rfl rfl (W.2 60 4 _ rfl) rfl ?_
        refine zw_ld (n := 2) (k := 8) (f := zp_isI) (pc' := 36) rfl rfl l8 rfl rfl ?_
        refine zw_ia (q := 64) (pc' := 37) W rfl rfl (by decide) (⟨h5, by show _ < ((8 : Nat) : Int); omega⟩) rfl rfl ?_
        refine zw_ior (pc' := 38) rfl rfl ?_
        refine zw_st (n := 2) (k := 5) (f := zp_isI) (pc' := 40) rfl rfl rfl rfl rfl ?_
        refine zw_ld (n := 2) (k := 6) (f := zp_isL) (pc' := 42) rfl rfl (zw_gt l6 rfl rfl) rfl rfl ?_
        refine zw_ld (n := 1) (k := 0) (f := zp_isR) (pc' := 43) rfl rfl (zw_gt l0 rfl rfl) rfl rfl ?_
        refine zw_gR (q := 60) (pc' := 46) W rfl rfl rfl rfl (W.2 60 3 _ rfl) rfl ?_
        refine zw_ld (n := 2) (k := 8) (f := zp_isI) (pc' := 48) rfl rfl (zw_gt l8 rfl rfl) rfl rfl ?_
        refine zw_la (q := 63) (pc' := 49) W rfl rfl (⟨h5, by show _ < ((8 : Nat) : Int); omega⟩) rfl ?_
        refine zw_lor (pc' := 50) rfl rfl ?_
        refine zw_sl (n := 2) (k := 6) (pc' := 52) rfl rfl rfl rfl ?_
        refine zw_ii (pc' := 55) rfl (zw_gt2 (zw_gt l8 rfl rfl) rfl rfl) rfl rfl ?_
        refine zw_s (pc' := 9) rfl rfl ?_
        exact ih _ (i + Int32.ofInt 1) _ _ (by omega) (by omega) (zw_gt (zw_gt2 (zw_gt l0 rfl rfl) rfl rfl) rfl rfl) (zw_gt (zw_gt2 (zw_gt l1 rfl rfl) rfl rfl) rfl rfl) (zw_gt (zw_gt2 (zw_gt l2 rfl rfl) rfl rfl) rfl rfl) (zw_gt (zw_gt2 (zw_gt l3 rfl rfl) rfl rfl) rfl rfl) (zw_gt (zw_gt2 (zw_gt l4 rfl rfl) rfl rfl) rfl rfl) (zw_gt (zw_gt2 zw_g1 rfl rfl) rfl rfl) (zw_gt zw_g2 rfl rfl) zw_g1 hP

theorem yc_bt2 {L : Nat} {σ : Nat → Int32} {d : Nat} {S : xSea} {CC : Nat → List xIt} {H0 H9 : zp_H} {p set : Int32} {l : Nat} (W : zw_W H0) (hn : 0 ≤ (H0.2.1 60 0).toInt ∧ (H0.2.1 60 0).toInt ≤ 8) (f : ∀ q k, q < 54 → H0.2.1 q k = H9.2.1 q k) (f1 : ∀ q k, q < 54 → H0.2.2.1 q k = H9.2.2.1 q k) (hS : xOk S) (hC : xSC 2 H9 S) (hCC : xCC 2 CC H9) (hp : 0 ≤ p.toInt ∧ p.toInt < 4) (hc : xIn S (H9.2.1 7 p.toInt.toNat).toInt) (hl2 : l < 256) (hl : (tLs (H0.2.1 64) set (H0.2.1 60 0).toInt.toNat (Int32.ofInt 0) (Int32.ofInt 0)) = Int32.ofNat l) (hv : H0.2.1 65 l = Int32.ofInt (-1) ∨ H0.2.1 65 l = xTv (xTh S CC 2 H9 p.toInt.toNat (xKn (H0.2.2.1 63) set (H0.2.1 60 0).toInt.toNat (Int32.ofInt 0) (Int64.ofNat 0)))) : ∃ X, zp_Call L σ (d + 6) 149 [.inr (.inr (some 61)), .inr (.inr (some 3)), .inr (.inr (some 57)), .inl p, .inl set] H0 X ∧ ∃ K v, X = (.inl (some (.inl v)), K) ∧ zw_W K ∧ tFw tQ2 H0 K ∧ v = xTv (xTh S CC 2 H9 p.toInt.toNat (xKn (H0.2.2.1 63) set (H0.2.1 60 0).toInt.toNat (Int32.ofInt 0) (Int64.ofNat 0))) ∧ (∀ j, j ≠ l → K.2.1 65 j = H0.2.1 65 j) ∧ K.2.1 65 l = xTv (xTh S CC 2 H9 p.toInt.toNat (xKn (H0.2.2.1 63) set (H0.2.1 60 0).toInt.toNat (Int32.ofInt 0) (Int64.ofNat 0))) := by
  refine zw_met zm_149_t rfl rfl ?_
  refine zw_s (pc' := 1) rfl rfl ?_
  refine zw_st (n := 2) (k := 5) (f := zp_isI) (pc' := 3) rfl rfl rfl rfl rfl ?_
  refine zw_s (pc' := 4) rfl rfl ?_
  refine zw_sl (n := 2) (k := 6) (pc' := 6) rfl rfl rfl rfl ?_
  refine zw_s (pc' := 7) rfl rfl ?_
  refine zw_st (n := 2) (k := 8) (f := zp_isI) (pc' := 9) rfl rfl rfl rfl rfl ?_
  refine yc_btL2 W hn.2 (H0.2.1 60 0).toInt.toNat _ (Int32.ofInt 0) (Int32.ofInt 0) (Int64.ofNat 0) (by decide) (by rw [show (Int32.ofInt 0).toInt = 0 by decide]; omega) (zw_gt (zw_gt2 (zw_gt rfl rfl rfl) rfl rfl) rfl rfl) (zw_gt (zw_gt2 (zw_gt rfl rfl rfl) rfl rfl) rfl rfl) (zw_gt (zw_gt2 (zw_gt rfl rfl rfl) rfl rfl) rfl rfl) (zw_gt (zw_gt2 (zw_gt rfl rfl rfl) rfl rfl) rfl rfl) (zw_gt (zw_gt2 (zw_gt rfl rfl rfl) rfl rfl) rfl rfl) (zw_gt (zw_gt2 zw_g1 rfl rfl) rfl rfl) (zw_gt zw_g2 rfl rfl) zw_g1 (fun lv l0 l1 l2 l3 l4 l5 l6 => ?_)
  rw [hl] at l5
  have nl : (Int32.ofNat l).toInt.toNat = l := by
    have := tm_to hl2
    omega
  refine zw_ld (n := 1) (k := 0) (f := zp_isR) (pc' := 59) rfl rfl l0 rfl rfl ?_
  refine zw_gR (q := 60) (pc' := 62) W rfl rfl rfl rfl (W.2 60 5 _ rfl) rfl ?_
  refine zw_ld (n := 2) (k := 5) (f := zp_isI) (pc' := 64) rfl rfl l5 rfl rfl ?_
  refine zw_ia (q := 65) (pc' := 65) W rfl rfl (by decide) (⟨by rw [tm_to hl2]; omega, by rw [tm_to hl2]; show _ < ((256 : Nat) : Int); omega⟩) rfl rfl ?_
  refine zw_s (pc' := 66) rfl rfl ?_
  refine zw_bne2 (g := 100) (pc' := 69) rfl rfl rfl rfl (rfl : _ = (-1 : Int)) (fun h3 => ?_) (fun h3 => ?_)
  · have h3 : ¬ (H0.2.1 65 (Int32.ofNat l).toInt.toNat).toInt = -1 := h3
    rw [nl] at h3
    have ev : H0.2.1 65 l = xTv (xTh S CC 2 H9 p.toInt.toNat (xKn (H0.2.2.1 63) set (H0.2.1 60 0).toInt.toNat (Int32.ofInt 0) (Int64.ofNat 0))) := (hv.resolve_left (fun h9 => h3 (by rw [h9]; decide)))
    refine zw_ld (n := 1) (k := 0) (f := zp_isR) (pc' := 101) rfl rfl l0 rfl rfl ?_
    refine zw_gR (q := 60) (pc' := 104) W rfl rfl rfl rfl (W.2 60 5 _ rfl) rfl ?_
    refine zw_ld (n := 2) (k := 5) (f := zp_isI) (pc' := 106) rfl rfl l5 rfl rfl ?_
    refine zw_ia (q := 65) (pc' := 107) W rfl rfl (by decide) (⟨by rw [tm_to hl2]; omega, by rw [tm_to hl2]; show _ < ((256 : Nat) : Int); omega⟩) rfl rfl ?_
    refine zw_s (pc' := 108) rfl rfl ?_
    refine zw_bne2 (g := 115) (pc' := 111) rfl rfl rfl rfl (rfl : _ = (1 : Int)) (fun h4 => ?_) (fun h4 => ?_)
    · refine zw_s (pc' := 116) rfl rfl ?_
      refine zw_rz rfl rfl (by decide) ?_
      rw [nl, ev] at h4
      refine ⟨_, _, rfl, W, tFw_r H0, ?_, fun j _ => rfl, ev⟩
      have h4 : ¬ (xTv (xTh S CC 2 H9 p.toInt.toNat (xKn (H0.2.2.1 63) set (H0.2.1 60 0).toInt.toNat (Int32.ofInt 0) (Int64.ofNat 0)))).toInt = 1 := h4
      rw [show (xTh S CC 2 H9 p.toInt.toNat (xKn (H0.2.2.1 63) set (H0.2.1 60 0).toInt.toNat (Int32.ofInt 0) (Int64.ofNat 0))) = false from Bool.eq_false_iff.mpr (fun h9 => h4 (xTv_1.mpr h9))]
      rfl
    · refine zw_s (pc' := 112) rfl rfl ?_
      refine zw_s (pc' := 116) rfl rfl ?_
      refine zw_rz rfl rfl (by decide) ?_
      rw [nl, ev] at h4
      refine ⟨_, _, rfl, W, tFw_r H0, ?_, fun j _ => rfl, ev⟩
      have h4 : (xTv (xTh S CC 2 H9 p.toInt.toNat (xKn (H0.2.2.1 63) set (H0.2.1 60 0).toInt.toNat (Int32.ofInt 0) (Int64.ofNat 0)))).toInt = 1 := h4
      rw [xTv_1.mp h4]
      rfl
  · obtain ⟨K, b1, W2, b2, b3⟩ := xh_su2 (L := L) (σ := σ) (d := d) (p := p) (u := (xKn (H0.2.2.1 63) set (H0.2.1 60 0).toInt.toNat (Int32.ofInt 0) (Int64.ofNat 0))) (H := H0) f f1 W hS hC hCC hp hc
    have b32 : K.2.1 57 2 = (xPu S CC 2 H9 p.toInt.toNat (xKn (H0.2.2.1 63) set (H0.2.1 60 0).toInt.toNat (Int32.ofInt 0) (Int64.ofNat 0))).2.2 := congrArg (fun z => z.2.2) b3
    refine zw_ld (n := 1) (k := 2) (f := zp_isR) (pc' := 70) rfl rfl l2 rfl rfl ?_
    refine zw_ld (n := 1) (k := 1) (f := zp_isR) (pc' := 71) rfl rfl l1 rfl rfl ?_
    refine zw_ld (n := 1) (k := 3) (f := zp_isI) (pc' := 72) rfl rfl l3 rfl rfl ?_
    refine zw_ld (n := 2) (k := 6) (f := zp_isL) (pc' := 74) rfl rfl l6 rfl rfl ?_
    refine zw_cn (pc' := 77) (zw_cv (q := 56) (Y := zm_35) W.1 rfl rfl zm_35_t rfl rfl) rfl rfl rfl rfl rfl (b1) ?_
    refine zw_ld (n := 1) (k := 0) (f := zp_isR) (pc' := 78) rfl rfl l0 rfl rfl ?_
    refine zw_gR (q := 60) (pc' := 81) W2 rfl rfl rfl rfl (W2.2 60 5 _ rfl) rfl ?_
    refine zw_ld (n := 2) (k := 5) (f := zp_isI) (pc' := 83) rfl rfl l5 rfl rfl ?_
    refine zw_ld (n := 1) (k := 2) (f := zp_isR) (pc' := 84) rfl rfl l2 rfl rfl ?_
    refine zw_gR (q := 56) (pc' := 87) W2 rfl rfl rfl rfl (W2.2 56 0 _ rfl) rfl ?_
    refine zw_gI (q := 57) (pc' := 90) W2 rfl rfl rfl rfl rfl rfl ?_
    refine zw_s (pc' := 91) rfl rfl ?_
    rw [b32]
    refine zw_bne2 (g := 98) (pc' := 94) rfl rfl rfl rfl (rfl : _ = (4 : Int)) (fun h5 => ?_) (fun h5 => ?_)
    · have h5 : ¬ (xPu S CC 2 H9 p.toInt.toNat (xKn (H0.2.2.1 63) set (H0.2.1 60 0).toInt.toNat (Int32.ofInt 0) (Int64.ofNat 0))).2.2.toInt = (4 : Int) := h5
      have eth : (xTh S CC 2 H9 p.toInt.toNat (xKn (H0.2.2.1 63) set (H0.2.1 60 0).toInt.toNat (Int32.ofInt 0) (Int64.ofNat 0))) = false := decide_eq_false h5
      refine zw_s (pc' := 99) rfl rfl ?_
      refine zw_is (q := 65) (pc' := 100) W2 rfl rfl (by decide) (⟨by rw [tm_to hl2]; omega, by rw [tm_to hl2]; show _ < ((256 : Nat) : Int); omega⟩) rfl ?_
      rw [nl, show zp_nar 0 (Int32.ofInt 0) = (Int32.ofInt 0) from rfl]
      have ev : (zw_I K 65 l (Int32.ofInt 0)).2.1 65 l = xTv (xTh S CC 2 H9 p.toInt.toNat (xKn (H0.2.2.1 63) set (H0.2.1 60 0).toInt.toNat (Int32.ofInt 0) (Int64.ofNat 0))) := by
        rw [eth]
        exact zw_eq
      have fr : tFw tQ2 H0 (zw_I K 65 l (Int32.ofInt 0)) := tFw_I (tFw_m (fun _ _ h => Or.inl h) (tFw_k b2)) (Or.inr rfl)
      have ov : ∀ j, j ≠ l → (zw_I K 65 l (Int32.ofInt 0)).2.1 65 j = H0.2.1 65 j := fun j hj => (y_ne (fun h9 => hj h9.2)).trans ((tFw_k b2).2.2.1 65 j (by unfold tQh; omega))
      refine zw_ld (n := 1) (k := 0) (f := zp_isR) (pc' := 101) rfl rfl l0 rfl rfl ?_
      refine zw_gR (q := 60) (pc' := 104) (zw_W_I W2) rfl rfl rfl rfl ((zw_W_I W2).2 60 5 _ rfl) rfl ?_
      refine zw_ld (n := 2) (k := 5) (f := zp_isI) (pc' := 106) rfl rfl l5 rfl rfl ?_
      refine zw_ia (q := 65) (pc' := 107) (zw_W_I W2) rfl rfl (by decide) (⟨by rw [tm_to hl2]; omega, by rw [tm_to hl2]; show _ < ((256 : Nat) : Int); omega⟩) rfl rfl ?_
      refine zw_s (pc' := 108) rfl rfl ?_
      refine zw_bne2 (g := 115) (pc' := 111) rfl rfl rfl rfl (rfl : _ = (1 : Int)) (fun h4 => ?_) (fun h4 => ?_)
      · refine zw_s (pc' := 116) rfl rfl ?_
        refine zw_rz rfl rfl (by decide) ?_
        rw [nl, ev] at h4
        refine ⟨_, _, rfl, tFw_W fr W, fr, ?_, ov, ev⟩
        have h4 : ¬ (xTv (xTh S CC 2 H9 p.toInt.toNat (xKn (H0.2.2.1 63) set (H0.2.1 60 0).toInt.toNat (Int32.ofInt 0) (Int64.ofNat 0)))).toInt = 1 := h4
        rw [show (xTh S CC 2 H9 p.toInt.toNat (xKn (H0.2.2.1 63) set (H0.2.1 60 0).toInt.toNat (Int32.ofInt 0) (Int64.ofNat 0))) = false from Bool.eq_false_iff.mpr (fun h9 => h4 (xTv_1.mpr h9))]
        rfl
      · refine zw_s (pc' := 112) rfl rfl ?_
        refine zw_s (pc' := 116) rfl rfl ?_
        refine zw_rz rfl rfl (by decide) ?_
        rw [nl, ev] at h4
        refine ⟨_, _, rfl, tFw_W fr W, fr, ?_, ov, ev⟩
        have h4 : (xTv (xTh S CC 2 H9 p.toInt.toNat (xKn (H0.2.2.1 63) set (H0.2.1 60 0).toInt.toNat (Int32.ofInt 0) (Int64.ofNat 0)))).toInt = 1 := h4
        rw [xTv_1.mp h4]
        rfl
    · have h5 : (xPu S CC 2 H9 p.toInt.toNat (xKn (H0.2.2.1 63) set (H0.2.1 60 0).toInt.toNat (Int32.ofInt 0) (Int64.ofNat 0))).2.2.toInt = (4 : Int) := h5
      have eth : (xTh S CC 2 H9 p.toInt.toNat (xKn (H0.2.2.1 63) set (H0.2.1 60 0).toInt.toNat (Int32.ofInt 0) (Int64.ofNat 0))) = true := decide_eq_true h5
      refine zw_s (pc' := 95) rfl rfl ?_
      refine zw_s (pc' := 99) rfl rfl ?_
      refine zw_is (q := 65) (pc' := 100) W2 rfl rfl (by decide) (⟨by rw [tm_to hl2]; omega, by rw [tm_to hl2]; show _ < ((256 : Nat) : Int); omega⟩) rfl ?_
      rw [nl, show zp_nar 0 (Int32.ofInt 1) = (Int32.ofInt 1) from rfl]
      have ev : (zw_I K 65 l (Int32.ofInt 1)).2.1 65 l = xTv (xTh S CC 2 H9 p.toInt.toNat (xKn (H0.2.2.1 63) set (H0.2.1 60 0).toInt.toNat (Int32.ofInt 0) (Int64.ofNat 0))) := by
        rw [eth]
        exact zw_eq
      have fr : tFw tQ2 H0 (zw_I K 65 l (Int32.ofInt 1)) := tFw_I (tFw_m (fun _ _ h => Or.inl h) (tFw_k b2)) (Or.inr rfl)
      have ov : ∀ j, j ≠ l → (zw_I K 65 l (Int32.ofInt 1)).2.1 65 j = H0.2.1 65 j := fun j hj => (y_ne (fun h9 => hj h9.2)).trans ((tFw_k b2).2.2.1 65 j (by unfold tQh; omega))
      refine zw_ld (n := 1) (k := 0) (f := zp_isR) (pc' := 101) rfl rfl l0 rfl rfl ?_
      refine zw_gR (q := 60) (pc' := 104) (zw_W_I W2) rfl rfl rfl rfl ((zw_W_I W2).2 60 5 _ rfl) rfl ?_
      refine zw_ld (n := 2) (k := 5) (f := zp_isI) (pc' := 106) rfl rfl l5 rfl rfl ?_
      refine zw_ia (q := 65) (pc' := 107) (zw_W_I W2) rfl rfl (by decide) (⟨by rw [tm_to hl2]; omega, by rw [tm_to hl2]; show _ < ((256 : Nat) : Int); omega⟩) rfl rfl ?_
      refine zw_s (pc' := 108) rfl rfl ?_
      refine zw_bne2 (g := 115) (pc' := 111) rfl rfl rfl rfl (rfl : _ = (1 : Int)) (fun h4 => ?_) (fun h4 => ?_)
      · refine zw_s (pc' := 116) rfl rfl ?_
        refine zw_rz rfl rfl (by decide) ?_
        rw [nl, ev] at h4
        refine ⟨_, _, rfl, tFw_W fr W, fr, ?_, ov, ev⟩
        have h4 : ¬ (xTv (xTh S CC 2 H9 p.toInt.toNat (xKn (H0.2.2.1 63) set (H0.2.1 60 0).toInt.toNat (Int32.ofInt 0) (Int64.ofNat 0)))).toInt = 1 := h4
        rw [show (xTh S CC 2 H9 p.toInt.toNat (xKn (H0.2.2.1 63) set (H0.2.1 60 0).toInt.toNat (Int32.ofInt 0) (Int64.ofNat 0))) = false from Bool.eq_false_iff.mpr (fun h9 => h4 (xTv_1.mpr h9))]
        rfl
      · refine zw_s (pc' := 112) rfl rfl ?_
        refine zw_s (pc' := 116) rfl rfl ?_
        refine zw_rz rfl rfl (by decide) ?_
        rw [nl, ev] at h4
        refine ⟨_, _, rfl, tFw_W fr W, fr, ?_, ov, ev⟩
        have h4 : (xTv (xTh S CC 2 H9 p.toInt.toNat (xKn (H0.2.2.1 63) set (H0.2.1 60 0).toInt.toNat (Int32.ofInt 0) (Int64.ofNat 0)))).toInt = 1 := h4
        rw [xTv_1.mp h4]
        rfl

theorem yc_btL22 {L : Nat} {σ : Nat → Int32} {d : Nat} {P : zp_X → Prop} {H0 : zp_H} {p set : Int32} (W : zw_W H0) (h8 : (H0.2.1 60 0).toInt ≤ 8) : ∀ (n : Nat) (lv : zp_LV) (i v : Int32) (u : Int64), 0 ≤ i.toInt → i.toInt + (n : Int) = (H0.2.1 60 0).toInt → zp_get lv 0 = some (.inr (.inr (some 61))) → zp_get lv 1 = some (.inr (.inr (some 23))) → zp_get lv 2 = some (.inr (.inr (some 57))) → zp_get lv 3 = some (.inl p) → zp_get lv 4 = some (.inl set) → zp_get lv 5 = some (.inl v) → zp_get lv 6 = some (.inr (.inl u)) → zp_get lv 8 = some (.inl i) → (∀ lv, zp_get lv 0 = some (.inr (.inr (some 61))) → zp_get lv 1 = some (.inr (.inr (some 23))) → zp_get lv 2 = some (.inr (.inr (some 57))) → zp_get lv 3 = some (.inl p) → zp_get lv 4 = some (.inl set) → zp_get lv 5 = some (.inl (tLs (H0.2.1 64) set n i v)) → zp_get lv 6 = some (.inr (.inl (xKn (H0.2.2.1 63) set n i u))) → zs_Safe L σ P zm_149 [] d (58, lv, [], H0, (0, 0))) → zs_Safe L σ P zm_149 [] d (9, lv, [], H0, (0, 0)) := by
  intro n
  induction n with
  | zero =>
    intro lv i v u h5 hN l0 l1 l2 l3 l4 l5 l6 l8 hP
    refine zw_ld (n := 2) (k := 8) (f := zp_isI) (pc' := 11) rfl rfl l8 rfl rfl ?_
    refine zw_ld (n := 1) (k := 0) (f := zp_isR) (pc' := 12) rfl rfl l0 rfl rfl ?_
    refine zw_gI (q := 60) (pc' := 15) W rfl rfl rfl rfl rfl rfl ?_
    refine zw_bge2 (g := 58) (pc' := 18) rfl rfl rfl rfl rfl (fun h1 => ?_) (fun h1 => ?_)
    · exact hP _ l0 l1 l2 l3 l4 l5 l6
    · have hN : i.toInt + ((0 : Nat) : Int) = (H0.2.1 60 0).toInt := hN
      omega
  | succ n ih =>
    intro lv i v u h5 hN l0 l1 l2 l3 l4 l5 l6 l8 hP
    refine zw_ld (n := 2) (k := 8) (f := zp_isI) (pc' := 11) rfl rfl l8 rfl rfl ?_
    refine zw_ld (n := 1) (k := 0) (f := zp_isR) (pc' := 12) rfl rfl l0 rfl rfl ?_
    refine zw_gI (q := 60) (pc' := 15) W rfl rfl rfl rfl rfl rfl ?_
    refine zw_bge2 (g := 58) (pc' := 18) rfl rfl rfl rfl rfl (fun h1 => ?_) (fun h1 => ?_)
    · omega
    · have ei : (i + Int32.ofInt 1).toInt = i.toInt + 1 := zw_p1 (by omega)
      refine zw_ld (n := 2) (k := 4) (f := zp_isI) (pc' := 20) rfl rfl l4 rfl rfl ?_
      refine zw_ld (n := 2) (k := 8) (f := zp_isI) (pc' := 22) rfl rfl l8 rfl rfl ?_
      refine zw_ishr (pc' := 23) rfl rfl ?_
      refine zw_s (pc' := 24) rfl rfl ?_
      refine zw_iand (pc' := 25) rfl rfl ?_
      refine zw_beq1 (g := 52) (pc' := 28) rfl rfl rfl rfl (fun h2 => ?_) (fun h2 => ?_)
      · rw [xKn_n h2, tLs_n h2] at hP
        refine zw_ii (pc' := 55) rfl l8 rfl rfl ?_
        refine zw_s (pc' := 9) rfl rfl ?_
        exact ih _ (i + Int32.ofInt 1) _ _ (by omega) (by omega) (zw_gt l0 rfl rfl) (zw_gt l1 rfl rfl) (zw_gt l2 rfl rfl) (zw_gt l3 rfl rfl) (zw_gt l4 rfl rfl) (zw_gt l5 rfl rfl) (zw_gt l6 rfl rfl) zw_g1 hP
      · rw [xKn_y h2, tLs_y h2] at hP
        refine zw_ld (n := 2) (k := 5) (f := zp_isI) (pc' := 30) rfl rfl l5 rfl rfl ?_
        refine zw_ld (n := 1) (k := 0) (f := zp_isR) (pc' := 31) rfl rfl l0 rfl rfl ?_
        refine zw_gR (q := 60) (pc' := 34) W rfl rfl rfl rfl (W.2 60 4 _ rfl) rfl ?_
        refine zw_ld (n := 2) (k := 8) (f := zp_isI) (pc' := 36) rfl rfl l8 rfl rfl ?_
        refine zw_ia (q := 64) (pc' := 37) W rfl rfl (by decide) (⟨h5, by show _ < ((8 : Nat) : Int); omega⟩) rfl rfl ?_
        refine zw_ior (pc' := 38) rfl rfl ?_
        refine zw_st (n := 2) (k := 5) (f := zp_isI) (pc' := 40) rfl rfl rfl rfl rfl ?_
        refine zw_ld (n := 2) (k := 6) (f := zp_isL) (pc' := 42) rfl rfl (zw_gt l6 rfl rfl) rfl rfl ?_
        refine zw_ld (n := 1) (k := 0) (f := zp_isR) (pc' := 43) rfl rfl (zw_gt l0 rfl rfl) rfl rfl ?_
        refine zw_gR (q := 60) (pc' := 46) W rfl rfl rfl rfl (W.2 60 3 _ rfl) rfl ?_
        refine zw_ld (n := 2) (k := 8) (f := zp_isI) (pc' := 48) rfl rfl (zw_gt l8 rfl rfl) rfl rfl ?_
        refine zw_la (q := 63) (pc' := 49) W rfl rfl (⟨h5, by show _ < ((8 : Nat) : Int); omega⟩) rfl ?_
        refine zw_lor (pc' := 50) rfl rfl ?_
        refine zw_sl (n := 2) (k := 6) (pc' := 52) rfl rfl rfl rfl ?_
        refine zw_ii (pc' := 55) rfl (zw_gt2 (zw_gt l8 rfl rfl) rfl rfl) rfl rfl ?_
        refine zw_s (pc' := 9) rfl rfl ?_
        exact ih _ (i + Int32.ofInt 1) _ _ (by omega) (by omega) (zw_gt (zw_gt2 (zw_gt l0 rfl rfl) rfl rfl) rfl rfl) (zw_gt (zw_gt2 (zw_gt l1 rfl rfl) rfl rfl) rfl rfl) (zw_gt (zw_gt2 (zw_gt l2 rfl rfl) rfl rfl) rfl rfl) (zw_gt (zw_gt2 (zw_gt l3 rfl rfl) rfl rfl) rfl rfl) (zw_gt (zw_gt2 (zw_gt l4 rfl rfl) rfl rfl) rfl rfl) (zw_gt (zw_gt2 zw_g1 rfl rfl) rfl rfl) (zw_gt zw_g2 rfl rfl) zw_g1 hP

theorem yc_bt22 {L : Nat} {σ : Nat → Int32} {d : Nat} {S : xSea} {CC : Nat → List xIt} {H0 H9 : zp_H} {p set : Int32} {l : Nat} (W : zw_W H0) (hn : 0 ≤ (H0.2.1 60 0).toInt ∧ (H0.2.1 60 0).toInt ≤ 8) (f : ∀ q k, q < 54 → H0.2.1 q k = H9.2.1 q k) (f1 : ∀ q k, q < 54 → H0.2.2.1 q k = H9.2.2.1 q k) (hS : xOk S) (hC : xSC 22 H9 S) (hCC : xCC 22 CC H9) (hp : 0 ≤ p.toInt ∧ p.toInt < 4) (hc : xIn S (H9.2.1 27 p.toInt.toNat).toInt) (hl2 : l < 256) (hl : (tLs (H0.2.1 64) set (H0.2.1 60 0).toInt.toNat (Int32.ofInt 0) (Int32.ofInt 0)) = Int32.ofNat l) (hv : H0.2.1 65 l = Int32.ofInt (-1) ∨ H0.2.1 65 l = xTv (xTh S CC 22 H9 p.toInt.toNat (xKn (H0.2.2.1 63) set (H0.2.1 60 0).toInt.toNat (Int32.ofInt 0) (Int64.ofNat 0)))) : ∃ X, zp_Call L σ (d + 6) 149 [.inr (.inr (some 61)), .inr (.inr (some 23)), .inr (.inr (some 57)), .inl p, .inl set] H0 X ∧ ∃ K v, X = (.inl (some (.inl v)), K) ∧ zw_W K ∧ tFw tQ2 H0 K ∧ v = xTv (xTh S CC 22 H9 p.toInt.toNat (xKn (H0.2.2.1 63) set (H0.2.1 60 0).toInt.toNat (Int32.ofInt 0) (Int64.ofNat 0))) ∧ (∀ j, j ≠ l → K.2.1 65 j = H0.2.1 65 j) ∧ K.2.1 65 l = xTv (xTh S CC 22 H9 p.toInt.toNat (xKn (H0.2.2.1 63) set (H0.2.1 60 0).toInt.toNat (Int32.ofInt 0) (Int64.ofNat 0))) := by
  refine zw_met zm_149_t rfl rfl ?_
  refine zw_s (pc' := 1) rfl rfl ?_
  refine zw_st (n := 2) (k := 5) (f := zp_isI) (pc' := 3) rfl rfl rfl rfl rfl ?_
  refine zw_s (pc' := 4) rfl rfl ?_
  refine zw_sl (n := 2) (k := 6) (pc' := 6) rfl rfl rfl rfl ?_
  refine zw_s (pc' := 7) rfl rfl ?_
  refine zw_st (n := 2) (k := 8) (f := zp_isI) (pc' := 9) rfl rfl rfl rfl rfl ?_
  refine yc_btL22 W hn.2 (H0.2.1 60 0).toInt.toNat _ (Int32.ofInt 0) (Int32.ofInt 0) (Int64.ofNat 0) (by decide) (by rw [show (Int32.ofInt 0).toInt = 0 by decide]; omega) (zw_gt (zw_gt2 (zw_gt rfl rfl rfl) rfl rfl) rfl rfl) (zw_gt (zw_gt2 (zw_gt rfl rfl rfl) rfl rfl) rfl rfl) (zw_gt (zw_gt2 (zw_gt rfl rfl rfl) rfl rfl) rfl rfl) (zw_gt (zw_gt2 (zw_gt rfl rfl rfl) rfl rfl) rfl rfl) (zw_gt (zw_gt2 (zw_gt rfl rfl rfl) rfl rfl) rfl rfl) (zw_gt (zw_gt2 zw_g1 rfl rfl) rfl rfl) (zw_gt zw_g2 rfl rfl) zw_g1 (fun lv l0 l1 l2 l3 l4 l5 l6 => ?_)
  rw [hl] at l5
  have nl : (Int32.ofNat l).toInt.toNat = l := by
    have := tm_to hl2
    omega
  refine zw_ld (n := 1) (k := 0) (f := zp_isR) (pc' := 59) rfl rfl l0 rfl rfl ?_
  refine zw_gR (q := 60) (pc' := 62) W rfl rfl rfl rfl (W.2 60 5 _ rfl) rfl ?_
  refine zw_ld (n := 2) (k := 5) (f := zp_isI) (pc' := 64) rfl rfl l5 rfl rfl ?_
  refine zw_ia (q := 65) (pc' := 65) W rfl rfl (by decide) (⟨by rw [tm_to hl2]; omega, by rw [tm_to hl2]; show _ < ((256 : Nat) : Int); omega⟩) rfl rfl ?_
  refine zw_s (pc' := 66) rfl rfl ?_
  refine zw_bne2 (g := 100) (pc' := 69) rfl rfl rfl rfl (rfl : _ = (-1 : Int)) (fun h3 => ?_) (fun h3 => ?_)
  · have h3 : ¬ (H0.2.1 65 (Int32.ofNat l).toInt.toNat).toInt = -1 := h3
    rw [nl] at h3
    have ev : H0.2.1 65 l = xTv (xTh S CC 22 H9 p.toInt.toNat (xKn (H0.2.2.1 63) set (H0.2.1 60 0).toInt.toNat (Int32.ofInt 0) (Int64.ofNat 0))) := (hv.resolve_left (fun h9 => h3 (by rw [h9]; decide)))
    refine zw_ld (n := 1) (k := 0) (f := zp_isR) (pc' := 101) rfl rfl l0 rfl rfl ?_
    refine zw_gR (q := 60) (pc' := 104) W rfl rfl rfl rfl (W.2 60 5 _ rfl) rfl ?_
    refine zw_ld (n := 2) (k := 5) (f := zp_isI) (pc' := 106) rfl rfl l5 rfl rfl ?_
    refine zw_ia (q := 65) (pc' := 107) W rfl rfl (by decide) (⟨by rw [tm_to hl2]; omega, by rw [tm_to hl2]; show _ < ((256 : Nat) : Int); omega⟩) rfl rfl ?_
    refine zw_s (pc' := 108) rfl rfl ?_
    refine zw_bne2 (g := 115) (pc' := 111) rfl rfl rfl rfl (rfl : _ = (1 : Int)) (fun h4 => ?_) (fun h4 => ?_)
    · refine zw_s (pc' := 116) rfl rfl ?_
      refine zw_rz rfl rfl (by decide) ?_
      rw [nl, ev] at h4
      refine ⟨_, _, rfl, W, tFw_r H0, ?_, fun j _ => rfl, ev⟩
      have h4 : ¬ (xTv (xTh S CC 22 H9 p.toInt.toNat (xKn (H0.2.2.1 63) set (H0.2.1 60 0).toInt.toNat (Int32.ofInt 0) (Int64.ofNat 0)))).toInt = 1 := h4
      rw [show (xTh S CC 22 H9 p.toInt.toNat (xKn (H0.2.2.1 63) set (H0.2.1 60 0).toInt.toNat (Int32.ofInt 0) (Int64.ofNat 0))) = false from Bool.eq_false_iff.mpr (fun h9 => h4 (xTv_1.mpr h9))]
      rfl
    · refine zw_s (pc' := 112) rfl rfl ?_
      refine zw_s (pc' := 116) rfl rfl ?_
      refine zw_rz rfl rfl (by decide) ?_
      rw [nl, ev] at h4
      refine ⟨_, _, rfl, W, tFw_r H0, ?_, fun j _ => rfl, ev⟩
      have h4 : (xTv (xTh S CC 22 H9 p.toInt.toNat (xKn (H0.2.2.1 63) set (H0.2.1 60 0).toInt.toNat (Int32.ofInt 0) (Int64.ofNat 0)))).toInt = 1 := h4
      rw [xTv_1.mp h4]
      rfl
  · obtain ⟨K, b1, W2, b2, b3⟩ := xh_su22 (L := L) (σ := σ) (d := d) (p := p) (u := (xKn (H0.2.2.1 63) set (H0.2.1 60 0).toInt.toNat (Int32.ofInt 0) (Int64.ofNat 0))) (H := H0) f f1 W hS hC hCC hp hc
    have b32 : K.2.1 57 2 = (xPu S CC 22 H9 p.toInt.toNat (xKn (H0.2.2.1 63) set (H0.2.1 60 0).toInt.toNat (Int32.ofInt 0) (Int64.ofNat 0))).2.2 := congrArg (fun z => z.2.2) b3
    refine zw_ld (n := 1) (k := 2) (f := zp_isR) (pc' := 70) rfl rfl l2 rfl rfl ?_
    refine zw_ld (n := 1) (k := 1) (f := zp_isR) (pc' := 71) rfl rfl l1 rfl rfl ?_
    refine zw_ld (n := 1) (k := 3) (f := zp_isI) (pc' := 72) rfl rfl l3 rfl rfl ?_
    refine zw_ld (n := 2) (k := 6) (f := zp_isL) (pc' := 74) rfl rfl l6 rfl rfl ?_
    refine zw_cn (pc' := 77) (zw_cv (q := 56) (Y := zm_35) W.1 rfl rfl zm_35_t rfl rfl) rfl rfl rfl rfl rfl (b1) ?_
    refine zw_ld (n := 1) (k := 0) (f := zp_isR) (pc' := 78) rfl rfl l0 rfl rfl ?_
    refine zw_gR (q := 60) (pc' := 81) W2 rfl rfl rfl rfl (W2.2 60 5 _ rfl) rfl ?_
    refine zw_ld (n := 2) (k := 5) (f := zp_isI) (pc' := 83) rfl rfl l5 rfl rfl ?_
    refine zw_ld (n := 1) (k := 2) (f := zp_isR) (pc' := 84) rfl rfl l2 rfl rfl ?_
    refine zw_gR (q := 56) (pc' := 87) W2 rfl rfl rfl rfl (W2.2 56 0 _ rfl) rfl ?_
    refine zw_gI (q := 57) (pc' := 90) W2 rfl rfl rfl rfl rfl rfl ?_
    refine zw_s (pc' := 91) rfl rfl ?_
    rw [b32]
    refine zw_bne2 (g := 98) (pc' := 94) rfl rfl rfl rfl (rfl : _ = (4 : Int)) (fun h5 => ?_) (fun h5 => ?_)
    · have h5 : ¬ (xPu S CC 22 H9 p.toInt.toNat (xKn (H0.2.2.1 63) set (H0.2.1 60 0).toInt.toNat (Int32.ofInt 0) (Int64.ofNat 0))).2.2.toInt = (4 : Int) := h5
      have eth : (xTh S CC 22 H9 p.toInt.toNat (xKn (H0.2.2.1 63) set (H0.2.1 60 0).toInt.toNat (Int32.ofInt 0) (Int64.ofNat 0))) = false := decide_eq_false h5
      refine zw_s (pc' := 99) rfl rfl ?_
      refine zw_is (q := 65) (pc' := 100) W2 rfl rfl (by decide) (⟨by rw [tm_to hl2]; omega, by rw [tm_to hl2]; show _ < ((256 : Nat) : Int); omega⟩) rfl ?_
      rw [nl, show zp_nar 0 (Int32.ofInt 0) = (Int32.ofInt 0) from rfl]
      have ev : (zw_I K 65 l (Int32.ofInt 0)).2.1 65 l = xTv (xTh S CC 22 H9 p.toInt.toNat (xKn (H0.2.2.1 63) set (H0.2.1 60 0).toInt.toNat (Int32.ofInt 0) (Int64.ofNat 0))) := by
        rw [eth]
        exact zw_eq
      have fr : tFw tQ2 H0 (zw_I K 65 l (Int32.ofInt 0)) := tFw_I (tFw_m (fun _ _ h => Or.inl h) (tFw_k b2)) (Or.inr rfl)
      have ov : ∀ j, j ≠ l → (zw_I K 65 l (Int32.ofInt 0)).2.1 65 j = H0.2.1 65 j := fun j hj => (y_ne (fun h9 => hj h9.2)).trans ((tFw_k b2).2.2.1 65 j (by unfold tQh; omega))
      refine zw_ld (n := 1) (k := 0) (f := zp_isR) (pc' := 101) rfl rfl l0 rfl rfl ?_
      refine zw_gR (q := 60) (pc' := 104) (zw_W_I W2) rfl rfl rfl rfl ((zw_W_I W2).2 60 5 _ rfl) rfl ?_
      refine zw_ld (n := 2) (k := 5) (f := zp_isI) (pc' := 106) rfl rfl l5 rfl rfl ?_
      refine zw_ia (q := 65) (pc' := 107) (zw_W_I W2) rfl rfl (by decide) (⟨by rw [tm_to hl2]; omega, by rw [tm_to hl2]; show _ < ((256 : Nat) : Int); omega⟩) rfl rfl ?_
      refine zw_s (pc' := 108) rfl rfl ?_
      refine zw_bne2 (g := 115) (pc' := 111) rfl rfl rfl rfl (rfl : _ = (1 : Int)) (fun h4 => ?_) (fun h4 => ?_)
      · refine zw_s (pc' := 116) rfl rfl ?_
        refine zw_rz rfl rfl (by decide) ?_
        rw [nl, ev] at h4
        refine ⟨_, _, rfl, tFw_W fr W, fr, ?_, ov, ev⟩
        have h4 : ¬ (xTv (xTh S CC 22 H9 p.toInt.toNat (xKn (H0.2.2.1 63) set (H0.2.1 60 0).toInt.toNat (Int32.ofInt 0) (Int64.ofNat 0)))).toInt = 1 := h4
        rw [show (xTh S CC 22 H9 p.toInt.toNat (xKn (H0.2.2.1 63) set (H0.2.1 60 0).toInt.toNat (Int32.ofInt 0) (Int64.ofNat 0))) = false from Bool.eq_false_iff.mpr (fun h9 => h4 (xTv_1.mpr h9))]
        rfl
      · refine zw_s (pc' := 112) rfl rfl ?_
        refine zw_s (pc' := 116) rfl rfl ?_
        refine zw_rz rfl rfl (by decide) ?_
        rw [nl, ev] at h4
        refine ⟨_, _, rfl, tFw_W fr W, fr, ?_, ov, ev⟩
        have h4 : (xTv (xTh S CC 22 H9 p.toInt.toNat (xKn (H0.2.2.1 63) set (H0.2.1 60 0).toInt.toNat (Int32.ofInt 0) (Int64.ofNat 0)))).toInt = 1 := h4
        rw [xTv_1.mp h4]
        rfl
    · have h5 : (xPu S CC 22 H9 p.toInt.toNat (xKn (H0.2.2.1 63) set (H0.2.1 60 0).toInt.toNat (Int32.ofInt 0) (Int64.ofNat 0))).2.2.toInt = (4 : Int) := h5
      have eth : (xTh S CC 22 H9 p.toInt.toNat (xKn (H0.2.2.1 63) set (H0.2.1 60 0).toInt.toNat (Int32.ofInt 0) (Int64.ofNat 0))) = true := decide_eq_true h5
      refine zw_s (pc' := 95) rfl rfl ?_
      refine zw_s (pc' := 99) rfl rfl ?_
      refine zw_is (q := 65) (pc' := 100) W2 rfl rfl (by decide) (⟨by rw [tm_to hl2]; omega, by rw [tm_to hl2]; show _ < ((256 : Nat) : Int); omega⟩) rfl ?_
      rw [nl, show zp_nar 0 (Int32.ofInt 1) = (Int32.ofInt 1) from rfl]
      have ev : (zw_I K 65 l (Int32.ofInt 1)).2.1 65 l = xTv (xTh S CC 22 H9 p.toInt.toNat (xKn (H0.2.2.1 63) set (H0.2.1 60 0).toInt.toNat (Int32.ofInt 0) (Int64.ofNat 0))) := by
        rw [eth]
        exact zw_eq
      have fr : tFw tQ2 H0 (zw_I K 65 l (Int32.ofInt 1)) := tFw_I (tFw_m (fun _ _ h => Or.inl h) (tFw_k b2)) (Or.inr rfl)
      have ov : ∀ j, j ≠ l → (zw_I K 65 l (Int32.ofInt 1)).2.1 65 j = H0.2.1 65 j := fun j hj => (y_ne (fun h9 => hj h9.2)).trans ((tFw_k b2).2.2.1 65 j (by unfold tQh; omega))
      refine zw_ld (n := 1) (k := 0) (f := zp_isR) (pc' := 101) rfl rfl l0 rfl rfl ?_
      refine zw_gR (q := 60) (pc' := 104) (zw_W_I W2) rfl rfl rfl rfl ((zw_W_I W2).2 60 5 _ rfl) rfl ?_
      refine zw_ld (n := 2) (k := 5) (f := zp_isI) (pc' := 106) rfl rfl l5 rfl rfl ?_
      refine zw_ia (q := 65) (pc' := 107) (zw_W_I W2) rfl rfl (by decide) (⟨by rw [tm_to hl2]; omega, by rw [tm_to hl2]; show _ < ((256 : Nat) : Int); omega⟩) rfl rfl ?_
      refine zw_s (pc' := 108) rfl rfl ?_
      refine zw_bne2 (g := 115) (pc' := 111) rfl rfl rfl rfl (rfl : _ = (1 : Int)) (fun h4 => ?_) (fun h4 => ?_)
      · refine zw_s (pc' := 116) rfl rfl ?_
        refine zw_rz rfl rfl (by decide) ?_
        rw [nl, ev] at h4
        refine ⟨_, _, rfl, tFw_W fr W, fr, ?_, ov, ev⟩
        have h4 : ¬ (xTv (xTh S CC 22 H9 p.toInt.toNat (xKn (H0.2.2.1 63) set (H0.2.1 60 0).toInt.toNat (Int32.ofInt 0) (Int64.ofNat 0)))).toInt = 1 := h4
        rw [show (xTh S CC 22 H9 p.toInt.toNat (xKn (H0.2.2.1 63) set (H0.2.1 60 0).toInt.toNat (Int32.ofInt 0) (Int64.ofNat 0))) = false from Bool.eq_false_iff.mpr (fun h9 => h4 (xTv_1.mpr h9))]
        rfl
      · refine zw_s (pc' := 112) rfl rfl ?_
        refine zw_s (pc' := 116) rfl rfl ?_
        refine zw_rz rfl rfl (by decide) ?_
        rw [nl, ev] at h4
        refine ⟨_, _, rfl, tFw_W fr W, fr, ?_, ov, ev⟩
        have h4 : (xTv (xTh S CC 22 H9 p.toInt.toNat (xKn (H0.2.2.1 63) set (H0.2.1 60 0).toInt.toNat (Int32.ofInt 0) (Int64.ofNat 0)))).toInt = 1 := h4
        rw [xTv_1.mp h4]
        rfl
