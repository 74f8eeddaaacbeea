/-! ===== the second hand ===== -/
def zm_157 : za_MI := (yL_hand, method_19_code, 5, (some FieldType.int), 13, 2, 12, [(0, 9, 12, 18)], za_i157)
theorem zm_157_t : za_MT 157 = some zm_157 := rfl
def zm_158 : za_MI := (yX11_hand, prog_1_method_24_code, 3, (some FieldType.long), 11, 2, 12, [], za_i158)
theorem zm_158_t : za_MT 158 = some zm_158 := rfl
def zm_159 : za_MI := (yX4_compare, prog_6_method_2_code, 7, none, 4, 0, 0, [], za_i159)
theorem zm_159_t : za_MT 159 = some zm_159 := rfl
def zm_160 : za_MI := (yX4_weigh, prog_6_method_3_code, 10, none, 4, 0, 0, [], za_i160)
theorem zm_160_t : za_MT 160 = some zm_160 := rfl
def zm_161 : za_MI := (yX10_weightOf, prog_12_method_16_code, 3, (some FieldType.int), 10, 0, 0, [], za_i161)
theorem zm_161_t : za_MT 161 = some zm_161 := rfl
def zm_245 : za_MI := (yX12_hand, prog_14_method_82_code, 13, (some FieldType.long), 12, 0, 0, [], za_i245)
set_option maxRecDepth 8000 in
theorem zm_245_t : za_MT 245 = some zm_245 := rfl
def zm_246 : za_MI := (yX12_product, prog_14_method_81_code, 8, (some FieldType.long), 12, 0, 0, [], za_i246)
set_option maxRecDepth 8000 in
theorem zm_246_t : za_MT 246 = some zm_246 := rfl
theorem zw_rlg {L : Nat} {σ : Nat → Int32} {P : zp_X → Prop} {M : za_MI} {d pc : Nat} {lv : zp_LV} {H : zp_H} {c : Nat × Nat} {u : Int64} (hi : za_fe (za_is M) pc = some .lreturn) (hr : za_rt M = some .long) (hc : c.1 ≤ za_mc M ∧ c.2 ≤ za_ms M) (hP : P (.inl (some (.inr (.inl u))), H)) : zs_Safe L σ P M [] d (pc, lv, [.inr (.inl u)], H, c) := by
  refine zs_end (S := (pc, lv, [.inr (.inl u)], H, c)) (X := (.inl (some (.inr (.inl u))), H)) hi ?_ hP
  show zp_lret (za_mc M) (za_ms M) (za_rt M) [.inr (.inl u)] (H, c) = _
  rw [hr]
  exact if_pos hc
theorem x_rvl {u v : Int64} {H : zp_H} (h : u = v) : ((.inl (some (.inr (.inl u))), H) : zp_X) = (.inl (some (.inr (.inl v))), H) := by rw [h]
/-- weights multiplied -/
def xPw (k i a b : Int32) : Int32 := if k.toInt ≤ i.toInt then b else a
def xPr (wt : Nat → Nat → Int32) (wy : Nat → Int32) (a b k : Int32) : Nat → Int32 → Int64 → Int64
  | 0, _, v => v
  | n + 1, i, v => xPr wt wy a b k n (i + Int32.ofInt 1) (v * (wt (xPw k i a b).toInt.toNat (wy i.toInt.toNat).toInt.toNat).toInt64)
theorem xPr_1 {wt : Nat → Nat → Int32} {wy : Nat → Int32} {a b k i x : Int32} {n : Nat} {v : Int64} (e : xPw k i a b = x) : xPr wt wy a b k (n + 1) i v = xPr wt wy a b k n (i + Int32.ofInt 1) (v * (wt x.toInt.toNat (wy i.toInt.toNat).toInt.toNat).toInt64) := by
  subst e
  rfl
def xPq (wt : Nat → Nat → Int32) (wy : Nat → Int32) (m : Nat) (a b k : Int32) : Int64 := xPr wt wy a b k m (Int32.ofInt 0) (Int64.ofNat 1)
theorem xPr_c {wt wt' : Nat → Nat → Int32} {wy wy' : Nat → Int32} {a b k : Int32} {nh m : Nat} (hm : m ≤ 8) (ha : a.toInt.toNat < nh) (hb : b.toInt.toNat < nh) (e : ∀ i, i < m → wy i = wy' i ∧ (wy i).toInt.toNat < 4) (g : ∀ h w, h < nh → w < 4 → wt h w = wt' h w) : ∀ (n : Nat) (i : Int32) (v : Int64), 0 ≤ i.toInt → i.toInt + n ≤ m → xPr wt wy a b k n i v = xPr wt' wy' a b k n i v := by
  intro n
  induction n with
  | zero => exact fun _ _ _ _ => rfl
  | succ n ih =>
    intro i v h1 h2
    obtain ⟨e1, e2⟩ := e i.toInt.toNat (by omega)
    have e3 : (i + Int32.ofInt 1).toInt = i.toInt + 1 := zw_p1 (by omega)
    have e4 : (xPw k i a b).toInt.toNat < nh := by
      unfold xPw
      by_cases h : k.toInt ≤ i.toInt
      · rw [if_pos h]; exact hb
      · rw [if_neg h]; exact ha
    rw [xPr_1 (k := k) (i := i) (a := a) (b := b) rfl, xPr_1 (k := k) (i := i) (a := a) (b := b) rfl, g _ _ e4 e2, e1]
    exact ih _ _ (by omega) (by omega)
/-- most, a, b, k -/
abbrev xT4 : Type := Int64 × Int32 × Int32 × Int32
def xH1 (p : Int32 → Int32 → Int32 → Int64) (a b k : Int32) (r : xT4) : xT4 := if (lg_cmp (p a b k) r.1).toInt ≤ 0 then r else (p a b k, a, b, k)
def xHk (p : Int32 → Int32 → Int32 → Int64) (a b : Int32) : Nat → Int32 → xT4 → xT4
  | 0, _, r => r
  | n + 1, k, r => xHk p a b n (k + Int32.ofInt 1) (xH1 p a b k r)
def xHb (p : Int32 → Int32 → Int32 → Int64) (m : Nat) (a : Int32) : Nat → Int32 → xT4 → xT4
  | 0, _, r => r
  | n + 1, b, r => xHb p m a n (b + Int32.ofInt 1) (if a.toInt = b.toInt then r else xHk p a b (m - 1) (Int32.ofInt 1) r)
def xHa (p : Int32 → Int32 → Int32 → Int64) (m nh : Nat) : Nat → Int32 → xT4 → xT4
  | 0, _, r => r
  | n + 1, a, r => xHa p m nh n (a + Int32.ofInt 1) (xHb p m a nh (Int32.ofInt 0) r)
theorem xHk_n {p : Int32 → Int32 → Int32 → Int64} {a b k : Int32} {n : Nat} {r : xT4} (h : (lg_cmp (p a b k) r.1).toInt ≤ 0) : xHk p a b (n + 1) k r = xHk p a b n (k + Int32.ofInt 1) r := congrArg (xHk p a b n (k + Int32.ofInt 1)) (if_pos h)
theorem xHk_y {p : Int32 → Int32 → Int32 → Int64} {a b k : Int32} {n : Nat} {r : xT4} (h : ¬ (lg_cmp (p a b k) r.1).toInt ≤ 0) : xHk p a b (n + 1) k r = xHk p a b n (k + Int32.ofInt 1) (p a b k, a, b, k) := congrArg (xHk p a b n (k + Int32.ofInt 1)) (if_neg h)
theorem xHb_e {p : Int32 → Int32 → Int32 → Int64} {a b : Int32} {m n : Nat} {r : xT4} (h : a.toInt = b.toInt) : xHb p m a (n + 1) b r = xHb p m a n (b + Int32.ofInt 1) r := congrArg (xHb p m a n (b + Int32.ofInt 1)) (if_pos h)
theorem xHb_n {p : Int32 → Int32 → Int32 → Int64} {a b : Int32} {m n : Nat} {r : xT4} (h : ¬ a.toInt = b.toInt) : xHb p m a (n + 1) b r = xHb p m a n (b + Int32.ofInt 1) (xHk p a b (m - 1) (Int32.ofInt 1) r) := congrArg (xHb p m a n (b + Int32.ofInt 1)) (if_neg h)
theorem xHk_c {p p' : Int32 → Int32 → Int32 → Int64} {a b : Int32} (e : ∀ k, p a b k = p' a b k) : ∀ (n : Nat) (k : Int32) (r : xT4), xHk p a b n k r = xHk p' a b n k r := by
  intro n
  induction n with
  | zero => exact fun _ _ => rfl
  | succ n ih =>
    intro k r
    have e1 := e k
    by_cases h : (lg_cmp (p a b k) r.1).toInt ≤ 0
    · rw [xHk_n h, xHk_n (e1 ▸ h)]
      exact ih _ _
    · rw [xHk_y h, xHk_y (e1 ▸ h), e1]
      exact ih _ _
theorem xHb_c {p p' : Int32 → Int32 → Int32 → Int64} {a : Int32} {m nh : Nat} (hh : nh ≤ 5) (e : ∀ b k, b.toInt.toNat < nh → p a b k = p' a b k) : ∀ (n : Nat) (b : Int32) (r : xT4), 0 ≤ b.toInt → b.toInt + n ≤ nh → xHb p m a n b r = xHb p' m a n b r := by
  intro n
  induction n with
  | zero => exact fun _ _ _ _ => rfl
  | succ n ih =>
    intro b r h1 h2
    have e3 : (b + Int32.ofInt 1).toInt = b.toInt + 1 := zw_p1 (by omega)
    by_cases h : a.toInt = b.toInt
    · rw [xHb_e h, xHb_e h]
      exact ih _ _ (by omega) (by omega)
    · rw [xHb_n h, xHb_n h, xHk_c (fun k => e b k (by omega))]
      exact ih _ _ (by omega) (by omega)
theorem xHa_c {p p' : Int32 → Int32 → Int32 → Int64} {m nh : Nat} (hh : nh ≤ 5) (e : ∀ a b k, a.toInt.toNat < nh → b.toInt.toNat < nh → p a b k = p' a b k) : ∀ (n : Nat) (a : Int32) (r : xT4), 0 ≤ a.toInt → a.toInt + n ≤ nh → xHa p m nh n a r = xHa p' m nh n a r := by
  intro n
  induction n with
  | zero => exact fun _ _ _ _ => rfl
  | succ n ih =>
    intro a r h1 h2
    have e3 : (a + Int32.ofInt 1).toInt = a.toInt + 1 := zw_p1 (by omega)
    have e4 : xHb p m a nh (Int32.ofInt 0) r = xHb p' m a nh (Int32.ofInt 0) r := xHb_c hh (fun b k hb => e a b k (by omega) hb) nh _ _ (by decide) (by rw [show (Int32.ofInt 0).toInt = 0 by decide]; omega)
    show xHa p m nh n (a + Int32.ofInt 1) (xHb p m a nh (Int32.ofInt 0) r) = xHa p' m nh n (a + Int32.ofInt 1) (xHb p' m a nh (Int32.ofInt 0) r)
    rw [e4]
    exact ih _ _ (by omega) (by omega)
/-- the class's weights and ways, the reference's -/
def xPc (H : zp_H) (wp cp s m : Nat) : Int32 → Int32 → Int32 → Int64 := xPq (fun h w => H.2.1 (wp + 4) (4 * h + w)) (fun j => H.2.1 (cp + 5) (8 * s + j)) m
def xPm (H : zp_H) (s m : Nat) : Int32 → Int32 → Int32 → Int64 := xPq (fun h w => H.2.1 76 (4 * h + w)) (fun j => H.2.1 75 (16 * s + 2 * j)) m
theorem xPc_f {q wp cp s m : Nat} {H H1 : zp_H} (h : xFv q H H1) (hq : wp + 4 ≠ q ∧ cp + 5 ≠ q) : xPc H1 wp cp s m = xPc H wp cp s m := by
  have e4 : ∀ k, H1.2.1 (wp + 4) k = H.2.1 (wp + 4) k := fun k => h.2.2.1 _ _ hq.1
  have e5 : ∀ k, H1.2.1 (cp + 5) k = H.2.1 (cp + 5) k := fun k => h.2.2.1 _ _ hq.2
  unfold xPc
  simp only [e4, e5]
def xL4 (H : zp_H) (r : xT4) : Prop := H.2.2.1 70 3 = r.1 ∧ H.2.1 70 0 = r.2.1 ∧ H.2.1 70 1 = r.2.2.1 ∧ H.2.1 70 2 = r.2.2.2
def xT40 : xT4 := (Int64.ofNat 0, Int32.ofInt (-1), Int32.ofInt (-1), Int32.ofInt (-1))

theorem yc_wt2 {L : Nat} {σ : Nat → Int32} {d : Nat} {H : zp_H} (W : zw_W H) {x1 x2 : Int32} (h1 : 0 ≤ x1.toInt ∧ x1.toInt < 5) (h2 : 0 ≤ x2.toInt ∧ x2.toInt < 4) : zp_Call L σ (d + 1) 161 [.inr (.inr (some 3)), .inl x1, .inl x2] H (.inl (some (.inl (H.2.1 6 (4 * x1.toInt.toNat + x2.toInt.toNat)))), H) := by
  have m1 : (x1 * Int32.ofInt 4).toInt = x1.toInt * 4 := zq_mul rfl (by omega) (by omega)
  have m2 : (x1 * Int32.ofInt 4 + x2).toInt = x1.toInt * 4 + x2.toInt := by rw [zq_add (by rw [m1]; omega) (by rw [m1]; omega), m1]
  have m3 : (x1 * Int32.ofInt 4 + x2).toInt.toNat = 4 * x1.toInt.toNat + x2.toInt.toNat := by omega
  refine zw_ex (zw_met zm_161_t rfl rfl ?_)
  refine zw_ld (n := 1) (k := 0) (f := zp_isR) (pc' := 1) rfl rfl rfl rfl rfl ?_
  refine zw_gR (q := 2) (pc' := 4) W rfl rfl rfl rfl (W.2 2 8 _ rfl) rfl ?_
  refine zw_ld (n := 1) (k := 1) (f := zp_isI) (pc' := 5) rfl rfl rfl rfl rfl ?_
  refine zw_s (pc' := 6) rfl rfl ?_
  refine zw_imul (pc' := 7) rfl rfl ?_
  refine zw_ld (n := 1) (k := 2) (f := zp_isI) (pc' := 8) rfl rfl rfl rfl rfl ?_
  refine zw_iadd (pc' := 9) rfl rfl ?_
  refine zw_ia (q := 6) (pc' := 10) W rfl rfl (by decide) (⟨by omega, by show _ < ((20 : Nat) : Int); omega⟩) rfl rfl ?_
  refine zw_ri rfl rfl ?_
  rw [m3]

theorem yc_wgL2 {L : Nat} {σ : Nat → Int32} {d : Nat} {P : zp_X → Prop} {H : zp_H} {s a b k : Int32} (W : zw_W H) (hs : 0 ≤ s.toInt ∧ s.toInt < 8) (ha : 0 ≤ a.toInt ∧ a.toInt < 5) (hb : 0 ≤ b.toInt ∧ b.toInt < 5) (hm : 0 ≤ (H.2.1 16 s.toInt.toNat).toInt ∧ (H.2.1 16 s.toInt.toNat).toInt ≤ 8) (hw : ∀ j, j < (H.2.1 16 s.toInt.toNat).toInt.toNat → 0 ≤ (H.2.1 18 (8 * s.toInt.toNat + j)).toInt ∧ (H.2.1 18 (8 * s.toInt.toNat + j)).toInt ≤ 3) : ∀ (n : Nat) (lv : zp_LV) (i : Int32) (v : Int64), 0 ≤ i.toInt → i.toInt + n = (H.2.1 16 s.toInt.toNat).toInt → zp_get lv 0 = some (.inr (.inr (some 71))) → zp_get lv 1 = some (.inr (.inr (some 3))) → zp_get lv 2 = some (.inr (.inr (some 14))) → zp_get lv 3 = some (.inl s) → zp_get lv 4 = some (.inl a) → zp_get lv 5 = some (.inl b) → zp_get lv 6 = some (.inl k) → zp_get lv 7 = some (.inr (.inl v)) → zp_get lv 9 = some (.inl i) → (∀ lv1, zp_get lv1 0 = some (.inr (.inr (some 71))) → zp_get lv1 4 = some (.inl a) → zp_get lv1 5 = some (.inl b) → zp_get lv1 6 = some (.inl k) → zp_get lv1 7 = some (.inr (.inl (xPr (fun h w => H.2.1 6 (4 * h + w)) (fun j => H.2.1 18 (8 * s.toInt.toNat + j)) a b k n i v))) → zs_Safe L σ P zm_160 [] (d + 1) (54, lv1, [], H, (0, 0))) → zs_Safe L σ P zm_160 [] (d + 1) (6, lv, [], H, (0, 0)) := by
  intro n
  induction n with
  | zero =>
    intro lv i v h5 hn l0 l1 l2 l3 l4 l5 l6 l7 l9 hP
    refine zw_ld (n := 2) (k := 9) (f := zp_isI) (pc' := 8) rfl rfl l9 rfl rfl ?_
    refine zw_ld (n := 1) (k := 2) (f := zp_isR) (pc' := 9) rfl rfl l2 rfl rfl ?_
    refine zw_gR (q := 13) (pc' := 12) W rfl rfl rfl rfl (W.2 13 3 _ rfl) rfl ?_
    refine zw_ld (n := 1) (k := 3) (f := zp_isI) (pc' := 13) rfl rfl l3 rfl rfl ?_
    refine zw_ia (q := 16) (pc' := 14) W rfl rfl (by decide) (⟨hs.1, by show _ < ((8 : Nat) : Int); omega⟩) rfl rfl ?_
    refine zw_bge2 (g := 54) (pc' := 17) rfl rfl rfl rfl rfl (fun h1 => ?_) (fun h1 => ?_)
    · exact hP lv l0 l4 l5 l6 l7
    · omega
  | succ n ih =>
    intro lv i v h5 hn l0 l1 l2 l3 l4 l5 l6 l7 l9 hP
    refine zw_ld (n := 2) (k := 9) (f := zp_isI) (pc' := 8) rfl rfl l9 rfl rfl ?_
    refine zw_ld (n := 1) (k := 2) (f := zp_isR) (pc' := 9) rfl rfl l2 rfl rfl ?_
    refine zw_gR (q := 13) (pc' := 12) W rfl rfl rfl rfl (W.2 13 3 _ rfl) rfl ?_
    refine zw_ld (n := 1) (k := 3) (f := zp_isI) (pc' := 13) rfl rfl l3 rfl rfl ?_
    refine zw_ia (q := 16) (pc' := 14) W rfl rfl (by decide) (⟨hs.1, by show _ < ((8 : Nat) : Int); omega⟩) rfl rfl ?_
    refine zw_bge2 (g := 54) (pc' := 17) rfl rfl rfl rfl rfl (fun h1 => ?_) (fun h1 => ?_)
    · omega
    · have hi8 := hw i.toInt.toNat (by omega)
      have ei : (i + Int32.ofInt 1).toInt = i.toInt + 1 := zw_p1 (by omega)
      refine zw_ld (n := 2) (k := 7) (f := zp_isL) (pc' := 19) rfl rfl l7 rfl rfl ?_
      refine zw_ld (n := 1) (k := 1) (f := zp_isR) (pc' := 20) rfl rfl l1 rfl rfl ?_
      refine zw_ld (n := 2) (k := 9) (f := zp_isI) (pc' := 22) rfl rfl l9 rfl rfl ?_
      refine zw_ld (n := 2) (k := 6) (f := zp_isI) (pc' := 24) rfl rfl l6 rfl rfl ?_
      refine zw_bge2 (g := 32) (pc' := 27) rfl rfl rfl rfl rfl (fun h2 => ?_) (fun h2 => ?_)
      · refine zw_ld (n := 2) (k := 5) (f := zp_isI) (pc' := 34) rfl rfl l5 rfl rfl ?_
        refine zw_ld (n := 1) (k := 2) (f := zp_isR) (pc' := 35) rfl rfl l2 rfl rfl ?_
        refine zw_ld (n := 1) (k := 3) (f := zp_isI) (pc' := 36) rfl rfl l3 rfl rfl ?_
        refine zw_ld (n := 2) (k := 9) (f := zp_isI) (pc' := 38) rfl rfl l9 rfl rfl ?_
        refine zw_c (pc' := 41) (zw_cv (q := 13) (Y := zm_26) W.1 rfl rfl zm_26_t rfl rfl) rfl rfl rfl rfl rfl (yc_wayOf13 W hs ⟨h5, by omega⟩) ?_
        refine zw_c (pc' := 44) (zw_cv (q := 2) (Y := zm_161) W.1 rfl rfl zm_161_t rfl rfl) rfl rfl rfl rfl rfl (yc_wt2 W hb ⟨hi8.1, by omega⟩) ?_
        refine zw_s (pc' := 45) rfl rfl ?_
        refine zw_lmul (pc' := 46) rfl rfl ?_
        refine zw_sl (n := 2) (k := 7) (pc' := 48) rfl rfl rfl rfl ?_
        refine zw_ii (pc' := 51) rfl (zw_gt2 l9 rfl rfl) rfl rfl ?_
        refine zw_s (pc' := 6) rfl rfl ?_
        exact ih _ (i + Int32.ofInt 1) _ (by omega) (by omega) (zw_gt (zw_gt2 l0 rfl rfl) rfl rfl) (zw_gt (zw_gt2 l1 rfl rfl) rfl rfl) (zw_gt (zw_gt2 l2 rfl rfl) rfl rfl) (zw_gt (zw_gt2 l3 rfl rfl) rfl rfl) (zw_gt (zw_gt2 l4 rfl rfl) rfl rfl) (zw_gt (zw_gt2 l5 rfl rfl) rfl rfl) (zw_gt (zw_gt2 l6 rfl rfl) rfl rfl) (zw_gt zw_g2 rfl rfl) zw_g1 (fun lv1 => by rw [xPr_1 (if_pos h2 : xPw k i a b = b)] at hP; exact hP lv1)
      · refine zw_ld (n := 2) (k := 4) (f := zp_isI) (pc' := 29) rfl rfl l4 rfl rfl ?_
        refine zw_s (pc' := 34) rfl rfl ?_
        refine zw_ld (n := 1) (k := 2) (f := zp_isR) (pc' := 35) rfl rfl l2 rfl rfl ?_
        refine zw_ld (n := 1) (k := 3) (f := zp_isI) (pc' := 36) rfl rfl l3 rfl rfl ?_
        refine zw_ld (n := 2) (k := 9) (f := zp_isI) (pc' := 38) rfl rfl l9 rfl rfl ?_
        refine zw_c (pc' := 41) (zw_cv (q := 13) (Y := zm_26) W.1 rfl rfl zm_26_t rfl rfl) rfl rfl rfl rfl rfl (yc_wayOf13 W hs ⟨h5, by omega⟩) ?_
        refine zw_c (pc' := 44) (zw_cv (q := 2) (Y := zm_161) W.1 rfl rfl zm_161_t rfl rfl) rfl rfl rfl rfl rfl (yc_wt2 W ha ⟨hi8.1, by omega⟩) ?_
        refine zw_s (pc' := 45) rfl rfl ?_
        refine zw_lmul (pc' := 46) rfl rfl ?_
        refine zw_sl (n := 2) (k := 7) (pc' := 48) rfl rfl rfl rfl ?_
        refine zw_ii (pc' := 51) rfl (zw_gt2 l9 rfl rfl) rfl rfl ?_
        refine zw_s (pc' := 6) rfl rfl ?_
        exact ih _ (i + Int32.ofInt 1) _ (by omega) (by omega) (zw_gt (zw_gt2 l0 rfl rfl) rfl rfl) (zw_gt (zw_gt2 l1 rfl rfl) rfl rfl) (zw_gt (zw_gt2 l2 rfl rfl) rfl rfl) (zw_gt (zw_gt2 l3 rfl rfl) rfl rfl) (zw_gt (zw_gt2 l4 rfl rfl) rfl rfl) (zw_gt (zw_gt2 l5 rfl rfl) rfl rfl) (zw_gt (zw_gt2 l6 rfl rfl) rfl rfl) (zw_gt zw_g2 rfl rfl) zw_g1 (fun lv1 => by rw [xPr_1 (if_neg (by omega) : xPw k i a b = a)] at hP; exact hP lv1)

theorem yc_wg2 {L : Nat} {σ : Nat → Int32} {d : Nat} {H : zp_H} {s a b k : Int32} {r : xT4} (W : zw_W H) (hs : 0 ≤ s.toInt ∧ s.toInt < 8) (ha : 0 ≤ a.toInt ∧ a.toInt < 5) (hb : 0 ≤ b.toInt ∧ b.toInt < 5) (hm : 0 ≤ (H.2.1 16 s.toInt.toNat).toInt ∧ (H.2.1 16 s.toInt.toNat).toInt ≤ 8) (hw : ∀ j, j < (H.2.1 16 s.toInt.toNat).toInt.toNat → 0 ≤ (H.2.1 18 (8 * s.toInt.toNat + j)).toInt ∧ (H.2.1 18 (8 * s.toInt.toNat + j)).toInt ≤ 3) (hr : xL4 H r) : ∃ X, zp_Call L σ (d + 2) 160 [.inr (.inr (some 71)), .inr (.inr (some 3)), .inr (.inr (some 14)), .inl s, .inl a, .inl b, .inl k] H X ∧ ∃ H1, X = (.inl none, H1) ∧ zw_W H1 ∧ xFv 70 H H1 ∧ xL4 H1 (xH1 (xPc H 2 13 s.toInt.toNat (H.2.1 16 s.toInt.toNat).toInt.toNat) a b k r) := by
  obtain ⟨r0, r1, r2, r3⟩ := id hr
  refine zw_met zm_160_t rfl rfl ?_
  refine zw_s (pc' := 1) rfl rfl ?_
  refine zw_sl (n := 2) (k := 7) (pc' := 3) rfl rfl rfl rfl ?_
  refine zw_s (pc' := 4) rfl rfl ?_
  refine zw_st (n := 2) (k := 9) (f := zp_isI) (pc' := 6) rfl rfl rfl rfl rfl ?_
  refine yc_wgL2 W hs ha hb hm hw (H.2.1 16 s.toInt.toNat).toInt.toNat _ (Int32.ofInt 0) (Int64.ofNat 1) (by decide) (by rw [show (Int32.ofInt 0).toInt = 0 by decide]; omega) (zw_gt (zw_gt2 rfl rfl rfl) rfl rfl) (zw_gt (zw_gt2 rfl rfl rfl) rfl rfl) (zw_gt (zw_gt2 rfl rfl rfl) rfl rfl) (zw_gt (zw_gt2 rfl rfl rfl) rfl rfl) (zw_gt (zw_gt2 rfl rfl rfl) rfl rfl) (zw_gt (zw_gt2 rfl rfl rfl) rfl rfl) (zw_gt (zw_gt2 rfl rfl rfl) rfl rfl) (zw_gt zw_g2 rfl rfl) zw_g1 (fun lv1 k0 k4 k5 k6 k7 => ?_)
  refine zw_ld (n := 2) (k := 7) (f := zp_isL) (pc' := 56) rfl rfl k7 rfl rfl ?_
  refine zw_ld (n := 1) (k := 0) (f := zp_isR) (pc' := 57) rfl rfl k0 rfl rfl ?_
  refine zw_gL (q := 70) (pc' := 60) W rfl rfl rfl rfl rfl ?_
  refine zw_s (pc' := 61) rfl rfl ?_
  refine zw_ble1 (g := 88) (pc' := 64) rfl rfl rfl rfl (fun h2 => ?_) (fun h2 => ?_)
  · have h2 : (lg_cmp ((xPc H 2 13 s.toInt.toNat (H.2.1 16 s.toInt.toNat).toInt.toNat) a b k) (H.2.2.1 70 3)).toInt ≤ 0 := h2
    rw [r0] at h2
    refine zw_rn rfl rfl ?_
    exact ⟨H, rfl, W, xFv_r H, by rw [show xH1 (xPc H 2 13 s.toInt.toNat (H.2.1 16 s.toInt.toNat).toInt.toNat) a b k r = r from if_pos h2]; exact hr⟩
  · have h2 : ¬ (lg_cmp ((xPc H 2 13 s.toInt.toNat (H.2.1 16 s.toInt.toNat).toInt.toNat) a b k) (H.2.2.1 70 3)).toInt ≤ 0 := Int.not_le.mpr h2
    rw [r0] at h2
    refine zw_ld (n := 1) (k := 0) (f := zp_isR) (pc' := 65) rfl rfl k0 rfl rfl ?_
    refine zw_ld (n := 2) (k := 7) (f := zp_isL) (pc' := 67) rfl rfl k7 rfl rfl ?_
    refine zw_pL (q := 70) (pc' := 70) W rfl rfl rfl rfl rfl rfl ?_
    refine zw_ld (n := 1) (k := 0) (f := zp_isR) (pc' := 71) rfl rfl k0 rfl rfl ?_
    refine zw_ld (n := 2) (k := 4) (f := zp_isI) (pc' := 73) rfl rfl k4 rfl rfl ?_
    refine zw_pI (q := 70) (pc' := 76) (zw_W_J W) rfl rfl rfl rfl rfl rfl ?_
    refine zw_ld (n := 1) (k := 0) (f := zp_isR) (pc' := 77) rfl rfl k0 rfl rfl ?_
    refine zw_ld (n := 2) (k := 5) (f := zp_isI) (pc' := 79) rfl rfl k5 rfl rfl ?_
    refine zw_pI (q := 70) (pc' := 82) (zw_W_I (zw_W_J W)) rfl rfl rfl rfl rfl rfl ?_
    refine zw_ld (n := 1) (k := 0) (f := zp_isR) (pc' := 83) rfl rfl k0 rfl rfl ?_
    refine zw_ld (n := 2) (k := 6) (f := zp_isI) (pc' := 85) rfl rfl k6 rfl rfl ?_
    refine zw_pI (q := 70) (pc' := 88) (zw_W_I (zw_W_I (zw_W_J W))) rfl rfl rfl rfl rfl rfl ?_
    refine zw_rn rfl rfl ?_
    exact ⟨_, rfl, zw_W_I (zw_W_I (zw_W_I (zw_W_J W))), xFv_I (xFv_I (xFv_I (xFv_J (xFv_r H)))), by rw [show xH1 (xPc H 2 13 s.toInt.toNat (H.2.1 16 s.toInt.toNat).toInt.toNat) a b k r = ((xPc H 2 13 s.toInt.toNat (H.2.1 16 s.toInt.toNat).toInt.toNat) a b k, a, b, k) from if_neg h2]; exact ⟨zp_u_self H.2.2.1 70 3 _, zw_ne (zw_ne zw_eq rfl) rfl, zw_ne zw_eq rfl, zw_eq⟩⟩

theorem yc_hkK2 {L : Nat} {σ : Nat → Int32} {d : Nat} {P : zp_X → Prop} {H0 : zp_H} {s a b : Int32} (hs : 0 ≤ s.toInt ∧ s.toInt < 8) (ha : 0 ≤ a.toInt ∧ a.toInt < 5) (hb : 0 ≤ b.toInt ∧ b.toInt < 5) (hm : 0 ≤ (H0.2.1 16 s.toInt.toNat).toInt ∧ (H0.2.1 16 s.toInt.toNat).toInt ≤ 8) (hw : ∀ j, j < (H0.2.1 16 s.toInt.toNat).toInt.toNat → 0 ≤ (H0.2.1 18 (8 * s.toInt.toNat + j)).toInt ∧ (H0.2.1 18 (8 * s.toInt.toNat + j)).toInt ≤ 3) (hab : ¬ a.toInt = b.toInt) : ∀ (n : Nat) (H : zp_H) (lv : zp_LV) (k : Int32) (r : xT4), zw_W H → xFv 70 H0 H → xL4 H r → 0 ≤ k.toInt → ((H0.2.1 16 s.toInt.toNat).toInt - k.toInt).toNat = n → zp_get lv 0 = some (.inr (.inr (some 71))) → zp_get lv 1 = some (.inr (.inr (some 3))) → zp_get lv 2 = some (.inr (.inr (some 14))) → zp_get lv 3 = some (.inl s) → zp_get lv 4 = some (.inl a) → zp_get lv 5 = some (.inl b) → zp_get lv 6 = some (.inl k) → (∀ H1 lv1, zw_W H1 → xFv 70 H0 H1 → xL4 H1 (xHk (xPc H0 2 13 s.toInt.toNat (H0.2.1 16 s.toInt.toNat).toInt.toNat) a b n k r) → zp_get lv1 0 = some (.inr (.inr (some 71))) → zp_get lv1 1 = some (.inr (.inr (some 3))) → zp_get lv1 2 = some (.inr (.inr (some 14))) → zp_get lv1 3 = some (.inl s) → zp_get lv1 4 = some (.inl a) → zp_get lv1 5 = some (.inl b) → zs_Safe L σ P zm_159 [] (d + 2) (84, lv1, [], H1, (0, 0))) → zs_Safe L σ P zm_159 [] (d + 2) (47, lv, [], H, (0, 0)) := by
  intro n
  induction n with
  | zero =>
    intro H lv k r W hF hr h5 hn l0 l1 l2 l3 l4 l5 l6 hP
    have em : ∀ j, H.2.1 16 j = H0.2.1 16 j := fun j => hF.2.2.1 _ _ (by decide)
    refine zw_ld (n := 2) (k := 4) (f := zp_isI) (pc' := 49) rfl rfl l4 rfl rfl ?_
    refine zw_ld (n := 2) (k := 5) (f := zp_isI) (pc' := 51) rfl rfl l5 rfl rfl ?_
    refine zw_beq2 (g := 84) (pc' := 54) rfl rfl rfl rfl rfl (fun h0 => ?_) (fun h0 => ?_)
    · exact absurd h0 hab
    · refine zw_ld (n := 2) (k := 6) (f := zp_isI) (pc' := 56) rfl rfl l6 rfl rfl ?_
      refine zw_ld (n := 1) (k := 2) (f := zp_isR) (pc' := 57) rfl rfl l2 rfl rfl ?_
      refine zw_gR (q := 13) (pc' := 60) W rfl rfl rfl rfl (W.2 13 3 _ rfl) rfl ?_
      refine zw_ld (n := 1) (k := 3) (f := zp_isI) (pc' := 61) rfl rfl l3 rfl rfl ?_
      refine zw_ia (q := 16) (pc' := 62) W rfl rfl (by decide) (⟨hs.1, by show _ < ((8 : Nat) : Int); omega⟩) rfl rfl ?_
      rw [em]
      refine zw_bge2 (g := 84) (pc' := 65) rfl rfl rfl rfl rfl (fun h1 => ?_) (fun h1 => ?_)
      · exact hP H lv W hF hr l0 l1 l2 l3 l4 l5
      · omega
  | succ n ih =>
    intro H lv k r W hF hr h5 hn l0 l1 l2 l3 l4 l5 l6 hP
    have em : ∀ j, H.2.1 16 j = H0.2.1 16 j := fun j => hF.2.2.1 _ _ (by decide)
    refine zw_ld (n := 2) (k := 4) (f := zp_isI) (pc' := 49) rfl rfl l4 rfl rfl ?_
    refine zw_ld (n := 2) (k := 5) (f := zp_isI) (pc' := 51) rfl rfl l5 rfl rfl ?_
    refine zw_beq2 (g := 84) (pc' := 54) rfl rfl rfl rfl rfl (fun h0 => ?_) (fun h0 => ?_)
    · exact absurd h0 hab
    · refine zw_ld (n := 2) (k := 6) (f := zp_isI) (pc' := 56) rfl rfl l6 rfl rfl ?_
      refine zw_ld (n := 1) (k := 2) (f := zp_isR) (pc' := 57) rfl rfl l2 rfl rfl ?_
      refine zw_gR (q := 13) (pc' := 60) W rfl rfl rfl rfl (W.2 13 3 _ rfl) rfl ?_
      refine zw_ld (n := 1) (k := 3) (f := zp_isI) (pc' := 61) rfl rfl l3 rfl rfl ?_
      refine zw_ia (q := 16) (pc' := 62) W rfl rfl (by decide) (⟨hs.1, by show _ < ((8 : Nat) : Int); omega⟩) rfl rfl ?_
      rw [em]
      refine zw_bge2 (g := 84) (pc' := 65) rfl rfl rfl rfl rfl (fun h1 => ?_) (fun h1 => ?_)
      · omega
      · obtain ⟨_, q1, H1, rfl, W1, q2, q3⟩ := yc_wg2 (L := L) (σ := σ) (d := d) (s := s) (a := a) (b := b) (k := k) (r := r) W hs ha hb (by rw [em]; exact hm) (fun j hj => by rw [em] at hj; rw [hF.2.2.1 18 _ (by decide)]; exact hw j hj) hr
        rw [em, xPc_f (wp := 2) (cp := 13) hF (by decide)] at q3
        have ek : (k + Int32.ofInt 1).toInt = k.toInt + 1 := zw_p1 (by omega)
        refine zw_ld (n := 1) (k := 0) (f := zp_isR) (pc' := 66) rfl rfl l0 rfl rfl ?_
        refine zw_ld (n := 1) (k := 1) (f := zp_isR) (pc' := 67) rfl rfl l1 rfl rfl ?_
        refine zw_ld (n := 1) (k := 2) (f := zp_isR) (pc' := 68) rfl rfl l2 rfl rfl ?_
        refine zw_ld (n := 1) (k := 3) (f := zp_isI) (pc' := 69) rfl rfl l3 rfl rfl ?_
        refine zw_ld (n := 2) (k := 4) (f := zp_isI) (pc' := 71) rfl rfl l4 rfl rfl ?_
        refine zw_ld (n := 2) (k := 5) (f := zp_isI) (pc' := 73) rfl rfl l5 rfl rfl ?_
        refine zw_ld (n := 2) (k := 6) (f := zp_isI) (pc' := 75) rfl rfl l6 rfl rfl ?_
        refine zw_cn (pc' := 78) (zw_cv (q := 70) (Y := zm_160) W.1 rfl rfl zm_160_t rfl rfl) rfl rfl rfl rfl rfl (q1) ?_
        refine zw_ii (pc' := 81) rfl l6 rfl rfl ?_
        refine zw_s (pc' := 47) rfl rfl ?_
        exact ih H1 _ (k + Int32.ofInt 1) _ W1 (xFv_t hF q2) q3 (by omega) (by omega) (zw_gt l0 rfl rfl) (zw_gt l1 rfl rfl) (zw_gt l2 rfl rfl) (zw_gt l3 rfl rfl) (zw_gt l4 rfl rfl) (zw_gt l5 rfl rfl) zw_g1 hP

theorem yc_hkB2 {L : Nat} {σ : Nat → Int32} {d : Nat} {P : zp_X → Prop} {H0 : zp_H} {s a : Int32} (hs : 0 ≤ s.toInt ∧ s.toInt < 8) (ha : 0 ≤ a.toInt ∧ a.toInt < 5) (hm : 0 ≤ (H0.2.1 16 s.toInt.toNat).toInt ∧ (H0.2.1 16 s.toInt.toNat).toInt ≤ 8) (hw : ∀ j, j < (H0.2.1 16 s.toInt.toNat).toInt.toNat → 0 ≤ (H0.2.1 18 (8 * s.toInt.toNat + j)).toInt ∧ (H0.2.1 18 (8 * s.toInt.toNat + j)).toInt ≤ 3) (hh : 0 ≤ (H0.2.1 2 7).toInt ∧ (H0.2.1 2 7).toInt ≤ 5) : ∀ (n : Nat) (H : zp_H) (lv : zp_LV) (b : Int32) (r : xT4), zw_W H → xFv 70 H0 H → xL4 H r → 0 ≤ b.toInt → b.toInt + n = (H0.2.1 2 7).toInt → zp_get lv 0 = some (.inr (.inr (some 71))) → zp_get lv 1 = some (.inr (.inr (some 3))) → zp_get lv 2 = some (.inr (.inr (some 14))) → zp_get lv 3 = some (.inl s) → zp_get lv 4 = some (.inl a) → zp_get lv 5 = some (.inl b) → (∀ H1 lv1, zw_W H1 → xFv 70 H0 H1 → xL4 H1 (xHb (xPc H0 2 13 s.toInt.toNat (H0.2.1 16 s.toInt.toNat).toInt.toNat) (H0.2.1 16 s.toInt.toNat).toInt.toNat a n b r) → zp_get lv1 0 = some (.inr (.inr (some 71))) → zp_get lv1 1 = some (.inr (.inr (some 3))) → zp_get lv1 2 = some (.inr (.inr (some 14))) → zp_get lv1 3 = some (.inl s) → zp_get lv1 4 = some (.inl a) → zs_Safe L σ P zm_159 [] (d + 2) (90, lv1, [], H1, (0, 0))) → zs_Safe L σ P zm_159 [] (d + 2) (35, lv, [], H, (0, 0)) := by
  intro n
  induction n with
  | zero =>
    intro H lv b r W hF hr h5 hn l0 l1 l2 l3 l4 l5 hP
    have eh : H.2.1 2 7 = (H0.2.1 2 7) := hF.2.2.1 _ _ (by decide)
    refine zw_ld (n := 2) (k := 5) (f := zp_isI) (pc' := 37) rfl rfl l5 rfl rfl ?_
    refine zw_ld (n := 1) (k := 1) (f := zp_isR) (pc' := 38) rfl rfl l1 rfl rfl ?_
    refine zw_gI (q := 2) (pc' := 41) W rfl rfl rfl rfl rfl rfl ?_
    rw [eh]
    refine zw_bge2 (g := 90) (pc' := 44) rfl rfl rfl rfl rfl (fun h1 => ?_) (fun h1 => ?_)
    · exact hP H lv W hF hr l0 l1 l2 l3 l4
    · omega
  | succ n ih =>
    intro H lv b r W hF hr h5 hn l0 l1 l2 l3 l4 l5 hP
    have eh : H.2.1 2 7 = (H0.2.1 2 7) := hF.2.2.1 _ _ (by decide)
    refine zw_ld (n := 2) (k := 5) (f := zp_isI) (pc' := 37) rfl rfl l5 rfl rfl ?_
    refine zw_ld (n := 1) (k := 1) (f := zp_isR) (pc' := 38) rfl rfl l1 rfl rfl ?_
    refine zw_gI (q := 2) (pc' := 41) W rfl rfl rfl rfl rfl rfl ?_
    rw [eh]
    refine zw_bge2 (g := 90) (pc' := 44) rfl rfl rfl rfl rfl (fun h1 => ?_) (fun h1 => ?_)
    · omega
    · have eb : (b + Int32.ofInt 1).toInt = b.toInt + 1 := zw_p1 (by omega)
      refine zw_s (pc' := 45) rfl rfl ?_
      refine zw_st (n := 2) (k := 6) (f := zp_isI) (pc' := 47) rfl rfl rfl rfl rfl ?_
      by_cases hab : a.toInt = b.toInt
      · refine zw_ld (n := 2) (k := 4) (f := zp_isI) (pc' := 49) rfl rfl (zw_gt l4 rfl rfl) rfl rfl ?_
        refine zw_ld (n := 2) (k := 5) (f := zp_isI) (pc' := 51) rfl rfl (zw_gt l5 rfl rfl) rfl rfl ?_
        refine zw_beq2 (g := 84) (pc' := 54) rfl rfl rfl rfl rfl (fun h0 => ?_) (fun h0 => ?_)
        · refine zw_ii (pc' := 87) rfl (zw_gt l5 rfl rfl) rfl rfl ?_
          refine zw_s (pc' := 35) rfl rfl ?_
          refine ih H _ (b + Int32.ofInt 1) r W hF hr (by omega) (by omega) (zw_gt (zw_gt l0 rfl rfl) rfl rfl) (zw_gt (zw_gt l1 rfl rfl) rfl rfl) (zw_gt (zw_gt l2 rfl rfl) rfl rfl) (zw_gt (zw_gt l3 rfl rfl) rfl rfl) (zw_gt (zw_gt l4 rfl rfl) rfl rfl) zw_g1 (by rw [xHb_e hab] at hP; exact hP)
        · exact absurd hab h0
      · refine yc_hkK2 (a := a) (b := b) hs ha ⟨h5, by omega⟩ hm hw hab ((H0.2.1 16 s.toInt.toNat).toInt.toNat - 1) H _ (Int32.ofInt 1) r W hF hr (by decide) (by rw [show (Int32.ofInt 1).toInt = 1 by decide]; omega) (zw_gt l0 rfl rfl) (zw_gt l1 rfl rfl) (zw_gt l2 rfl rfl) (zw_gt l3 rfl rfl) (zw_gt l4 rfl rfl) (zw_gt l5 rfl rfl) zw_g1 (fun H1 lv1 w1 w2 w3 m0 m1 m2 m3 m4 m5 => ?_)
        refine zw_ii (pc' := 87) rfl m5 rfl rfl ?_
        refine zw_s (pc' := 35) rfl rfl ?_
        exact ih H1 _ (b + Int32.ofInt 1) _ w1 w2 w3 (by omega) (by omega) (zw_gt m0 rfl rfl) (zw_gt m1 rfl rfl) (zw_gt m2 rfl rfl) (zw_gt m3 rfl rfl) (zw_gt m4 rfl rfl) zw_g1 (by rw [xHb_n hab] at hP; exact hP)

theorem yc_hkA2 {L : Nat} {σ : Nat → Int32} {d : Nat} {P : zp_X → Prop} {H0 : zp_H} {s : Int32} (hs : 0 ≤ s.toInt ∧ s.toInt < 8) (hm : 0 ≤ (H0.2.1 16 s.toInt.toNat).toInt ∧ (H0.2.1 16 s.toInt.toNat).toInt ≤ 8) (hw : ∀ j, j < (H0.2.1 16 s.toInt.toNat).toInt.toNat → 0 ≤ (H0.2.1 18 (8 * s.toInt.toNat + j)).toInt ∧ (H0.2.1 18 (8 * s.toInt.toNat + j)).toInt ≤ 3) (hh : 0 ≤ (H0.2.1 2 7).toInt ∧ (H0.2.1 2 7).toInt ≤ 5) : ∀ (n : Nat) (H : zp_H) (lv : zp_LV) (a : Int32) (r : xT4), zw_W H → xFv 70 H0 H → xL4 H r → 0 ≤ a.toInt → a.toInt + n = (H0.2.1 2 7).toInt → zp_get lv 0 = some (.inr (.inr (some 71))) → zp_get lv 1 = some (.inr (.inr (some 3))) → zp_get lv 2 = some (.inr (.inr (some 14))) → zp_get lv 3 = some (.inl s) → zp_get lv 4 = some (.inl a) → (∀ H1, zw_W H1 → xFv 70 H0 H1 → xL4 H1 (xHa (xPc H0 2 13 s.toInt.toNat (H0.2.1 16 s.toInt.toNat).toInt.toNat) (H0.2.1 16 s.toInt.toNat).toInt.toNat (H0.2.1 2 7).toInt.toNat n a r) → P (.inl none, H1)) → zs_Safe L σ P zm_159 [] (d + 2) (23, lv, [], H, (0, 0)) := by
  intro n
  induction n with
  | zero =>
    intro H lv a r W hF hr h5 hn l0 l1 l2 l3 l4 hP
    have eh : H.2.1 2 7 = (H0.2.1 2 7) := hF.2.2.1 _ _ (by decide)
    refine zw_ld (n := 2) (k := 4) (f := zp_isI) (pc' := 25) rfl rfl l4 rfl rfl ?_
    refine zw_ld (n := 1) (k := 1) (f := zp_isR) (pc' := 26) rfl rfl l1 rfl rfl ?_
    refine zw_gI (q := 2) (pc' := 29) W rfl rfl rfl rfl rfl rfl ?_
    rw [eh]
    refine zw_bge2 (g := 96) (pc' := 32) rfl rfl rfl rfl rfl (fun h1 => ?_) (fun h1 => ?_)
    · refine zw_rn rfl rfl ?_
      exact hP H W hF hr
    · omega
  | succ n ih =>
    intro H lv a r W hF hr h5 hn l0 l1 l2 l3 l4 hP
    have eh : H.2.1 2 7 = (H0.2.1 2 7) := hF.2.2.1 _ _ (by decide)
    refine zw_ld (n := 2) (k := 4) (f := zp_isI) (pc' := 25) rfl rfl l4 rfl rfl ?_
    refine zw_ld (n := 1) (k := 1) (f := zp_isR) (pc' := 26) rfl rfl l1 rfl rfl ?_
    refine zw_gI (q := 2) (pc' := 29) W rfl rfl rfl rfl rfl rfl ?_
    rw [eh]
    refine zw_bge2 (g := 96) (pc' := 32) rfl rfl rfl rfl rfl (fun h1 => ?_) (fun h1 => ?_)
    · omega
    · have ea : (a + Int32.ofInt 1).toInt = a.toInt + 1 := zw_p1 (by omega)
      refine zw_s (pc' := 33) rfl rfl ?_
      refine zw_st (n := 2) (k := 5) (f := zp_isI) (pc' := 35) rfl rfl rfl rfl rfl ?_
      refine yc_hkB2 (a := a) hs ⟨h5, by omega⟩ hm hw hh (H0.2.1 2 7).toInt.toNat H _ (Int32.ofInt 0) r W hF hr (by decide) (by rw [show (Int32.ofInt 0).toInt = 0 by decide]; omega) (zw_gt l0 rfl rfl) (zw_gt l1 rfl rfl) (zw_gt l2 rfl rfl) (zw_gt l3 rfl rfl) (zw_gt l4 rfl rfl) zw_g1 (fun H1 lv1 w1 w2 w3 m0 m1 m2 m3 m4 => ?_)
      refine zw_ii (pc' := 93) rfl m4 rfl rfl ?_
      refine zw_s (pc' := 23) rfl rfl ?_
      exact ih H1 _ (a + Int32.ofInt 1) _ w1 w2 w3 (by omega) (by omega) (zw_gt m0 rfl rfl) (zw_gt m1 rfl rfl) (zw_gt m2 rfl rfl) (zw_gt m3 rfl rfl) zw_g1 hP

theorem yc_hk2 {L : Nat} {σ : Nat → Int32} {d : Nat} {H : zp_H} {s : Int32} (W : zw_W H) (hs : 0 ≤ s.toInt ∧ s.toInt < 8) (hm : 0 ≤ (H.2.1 16 s.toInt.toNat).toInt ∧ (H.2.1 16 s.toInt.toNat).toInt ≤ 8) (hw : ∀ j, j < (H.2.1 16 s.toInt.toNat).toInt.toNat → 0 ≤ (H.2.1 18 (8 * s.toInt.toNat + j)).toInt ∧ (H.2.1 18 (8 * s.toInt.toNat + j)).toInt ≤ 3) (hh : 0 ≤ (H.2.1 2 7).toInt ∧ (H.2.1 2 7).toInt ≤ 5) : ∃ X, zp_Call L σ (d + 3) 159 [.inr (.inr (some 71)), .inr (.inr (some 3)), .inr (.inr (some 14)), .inl s] H X ∧ ∃ H1, X = (.inl none, H1) ∧ zw_W H1 ∧ xFv 70 H H1 ∧ xL4 H1 (xHa (xPc H 2 13 s.toInt.toNat (H.2.1 16 s.toInt.toNat).toInt.toNat) (H.2.1 16 s.toInt.toNat).toInt.toNat (H.2.1 2 7).toInt.toNat (H.2.1 2 7).toInt.toNat (Int32.ofInt 0) xT40) := by
  refine zw_met zm_159_t rfl rfl ?_
  refine zw_ld (n := 1) (k := 0) (f := zp_isR) (pc' := 1) rfl rfl rfl rfl rfl ?_
  refine zw_s (pc' := 2) rfl rfl ?_
  refine zw_pI (q := 70) (pc' := 5) W rfl rfl rfl rfl rfl rfl ?_
  refine zw_ld (n := 1) (k := 0) (f := zp_isR) (pc' := 6) rfl rfl rfl rfl rfl ?_
  refine zw_s (pc' := 7) rfl rfl ?_
  refine zw_pI (q := 70) (pc' := 10) (zw_W_I W) rfl rfl rfl rfl rfl rfl ?_
  refine zw_ld (n := 1) (k := 0) (f := zp_isR) (pc' := 11) rfl rfl rfl rfl rfl ?_
  refine zw_s (pc' := 12) rfl rfl ?_
  refine zw_pI (q := 70) (pc' := 15) (zw_W_I (zw_W_I W)) rfl rfl rfl rfl rfl rfl ?_
  refine zw_ld (n := 1) (k := 0) (f := zp_isR) (pc' := 16) rfl rfl rfl rfl rfl ?_
  refine zw_s (pc' := 17) rfl rfl ?_
  refine zw_pL (q := 70) (pc' := 20) (zw_W_I (zw_W_I (zw_W_I W))) rfl rfl rfl rfl rfl rfl ?_
  refine zw_s (pc' := 21) rfl rfl ?_
  refine zw_st (n := 2) (k := 4) (f := zp_isI) (pc' := 23) rfl rfl rfl rfl rfl ?_
  exact yc_hkA2 (H0 := H) hs hm hw hh (H.2.1 2 7).toInt.toNat _ _ (Int32.ofInt 0) xT40 (zw_W_J (zw_W_I (zw_W_I (zw_W_I W)))) (xFv_J (xFv_I (xFv_I (xFv_I (xFv_r H))))) ⟨zp_u_self H.2.2.1 70 3 _, zw_nj (zw_ne (zw_ne zw_eq rfl) rfl), zw_nj (zw_ne zw_eq rfl), zw_nj zw_eq⟩ (by decide) (by rw [show (Int32.ofInt 0).toInt = 0 by decide]; omega) (zw_gt rfl rfl rfl) (zw_gt rfl rfl rfl) (zw_gt rfl rfl rfl) (zw_gt rfl rfl rfl) zw_g1 (fun H1 w1 w2 w3 => ⟨H1, rfl, w1, w2, w3⟩)

theorem yc_wt22 {L : Nat} {σ : Nat → Int32} {d : Nat} {H : zp_H} (W : zw_W H) {x1 x2 : Int32} (h1 : 0 ≤ x1.toInt ∧ x1.toInt < 5) (h2 : 0 ≤ x2.toInt ∧ x2.toInt < 4) : zp_Call L σ (d + 1) 161 [.inr (.inr (some 23)), .inl x1, .inl x2] H (.inl (some (.inl (H.2.1 26 (4 * x1.toInt.toNat + x2.toInt.toNat)))), H) := by
  have m1 : (x1 * Int32.ofInt 4).toInt = x1.toInt * 4 := zq_mul rfl (by omega) (by omega)
  have m2 : (x1 * Int32.ofInt 4 + x2).toInt = x1.toInt * 4 + x2.toInt := by rw [zq_add (by rw [m1]; omega) (by rw [m1]; omega), m1]
  have m3 : (x1 * Int32.ofInt 4 + x2).toInt.toNat = 4 * x1.toInt.toNat + x2.toInt.toNat := by omega
  refine zw_ex (zw_met zm_161_t rfl rfl ?_)
  refine zw_ld (n := 1) (k := 0) (f := zp_isR) (pc' := 1) rfl rfl rfl rfl rfl ?_
  refine zw_gR (q := 22) (pc' := 4) W rfl rfl rfl rfl (W.2 22 8 _ rfl) rfl ?_
  refine zw_ld (n := 1) (k := 1) (f := zp_isI) (pc' := 5) rfl rfl rfl rfl rfl ?_
  refine zw_s (pc' := 6) rfl rfl ?_
  refine zw_imul (pc' := 7) rfl rfl ?_
  refine zw_ld (n := 1) (k := 2) (f := zp_isI) (pc' := 8) rfl rfl rfl rfl rfl ?_
  refine zw_iadd (pc' := 9) rfl rfl ?_
  refine zw_ia (q := 26) (pc' := 10) W rfl rfl (by decide) (⟨by omega, by show _ < ((20 : Nat) : Int); omega⟩) rfl rfl ?_
  refine zw_ri rfl rfl ?_
  rw [m3]

theorem yc_wgL22 {L : Nat} {σ : Nat → Int32} {d : Nat} {P : zp_X → Prop} {H : zp_H} {s a b k : Int32} (W : zw_W H) (hs : 0 ≤ s.toInt ∧ s.toInt < 8) (ha : 0 ≤ a.toInt ∧ a.toInt < 5) (hb : 0 ≤ b.toInt ∧ b.toInt < 5) (hm : 0 ≤ (H.2.1 36 s.toInt.toNat).toInt ∧ (H.2.1 36 s.toInt.toNat).toInt ≤ 8) (hw : ∀ j, j < (H.2.1 36 s.toInt.toNat).toInt.toNat → 0 ≤ (H.2.1 38 (8 * s.toInt.toNat + j)).toInt ∧ (H.2.1 38 (8 * s.toInt.toNat + j)).toInt ≤ 3) : ∀ (n : Nat) (lv : zp_LV) (i : Int32) (v : Int64), 0 ≤ i.toInt → i.toInt + n = (H.2.1 36 s.toInt.toNat).toInt → zp_get lv 0 = some (.inr (.inr (some 71))) → zp_get lv 1 = some (.inr (.inr (some 23))) → zp_get lv 2 = some (.inr (.inr (some 34))) → zp_get lv 3 = some (.inl s) → zp_get lv 4 = some (.inl a) → zp_get lv 5 = some (.inl b) → zp_get lv 6 = some (.inl k) → zp_get lv 7 = some (.inr (.inl v)) → zp_get lv 9 = some (.inl i) → (∀ lv1, zp_get lv1 0 = some (.inr (.inr (some 71))) → zp_get lv1 4 = some (.inl a) → zp_get lv1 5 = some (.inl b) → zp_get lv1 6 = some (.inl k) → zp_get lv1 7 = some (.inr (.inl (xPr (fun h w => H.2.1 26 (4 * h + w)) (fun j => H.2.1 38 (8 * s.toInt.toNat + j)) a b k n i v))) → zs_Safe L σ P zm_160 [] (d + 1) (54, lv1, [], H, (0, 0))) → zs_Safe L σ P zm_160 [] (d + 1) (6, lv, [], H, (0, 0)) := by
  intro n
  induction n with
  | zero =>
    intro lv i v h5 hn l0 l1 l2 l3 l4 l5 l6 l7 l9 hP
    refine zw_ld (n := 2) (k := 9) (f := zp_isI) (pc' := 8) rfl rfl l9 rfl rfl ?_
    refine zw_ld (n := 1) (k := 2) (f := zp_isR) (pc' := 9) rfl rfl l2 rfl rfl ?_
    refine zw_gR (q := 33) (pc' := 12) W rfl rfl rfl rfl (W.2 33 3 _ rfl) rfl ?_
    refine zw_ld (n := 1) (k := 3) (f := zp_isI) (pc' := 13) rfl rfl l3 rfl rfl ?_
    refine zw_ia (q := 36) (pc' := 14) W rfl rfl (by decide) (⟨hs.1, by show _ < ((8 : Nat) : Int); omega⟩) rfl rfl ?_
    refine zw_bge2 (g := 54) (pc' := 17) rfl rfl rfl rfl rfl (fun h1 => ?_) (fun h1 => ?_)
    · exact hP lv l0 l4 l5 l6 l7
    · omega
  | succ n ih =>
    intro lv i v h5 hn l0 l1 l2 l3 l4 l5 l6 l7 l9 hP
    refine zw_ld (n := 2) (k := 9) (f := zp_isI) (pc' := 8) rfl rfl l9 rfl rfl ?_
    refine zw_ld (n := 1) (k := 2) (f := zp_isR) (pc' := 9) rfl rfl l2 rfl rfl ?_
    refine zw_gR (q := 33) (pc' := 12) W rfl rfl rfl rfl (W.2 33 3 _ rfl) rfl ?_
    refine zw_ld (n := 1) (k := 3) (f := zp_isI) (pc' := 13) rfl rfl l3 rfl rfl ?_
    refine zw_ia (q := 36) (pc' := 14) W rfl rfl (by decide) (⟨hs.1, by show _ < ((8 : Nat) : Int); omega⟩) rfl rfl ?_
    refine zw_bge2 (g := 54) (pc' := 17) rfl rfl rfl rfl rfl (fun h1 => ?_) (fun h1 => ?_)
    · omega
    · have hi8 := hw i.toInt.toNat (by omega)
      have ei : (i + Int32.ofInt 1).toInt = i.toInt + 1 := zw_p1 (by omega)
      refine zw_ld (n := 2) (k := 7) (f := zp_isL) (pc' := 19) rfl rfl l7 rfl rfl ?_
      refine zw_ld (n := 1) (k := 1) (f := zp_isR) (pc' := 20) rfl rfl l1 rfl rfl ?_
      refine zw_ld (n := 2) (k := 9) (f := zp_isI) (pc' := 22) rfl rfl l9 rfl rfl ?_
      refine zw_ld (n := 2) (k := 6) (f := zp_isI) (pc' := 24) rfl rfl l6 rfl rfl ?_
      refine zw_bge2 (g := 32) (pc' := 27) rfl rfl rfl rfl rfl (fun h2 => ?_) (fun h2 => ?_)
      · refine zw_ld (n := 2) (k := 5) (f := zp_isI) (pc' := 34) rfl rfl l5 rfl rfl ?_
        refine zw_ld (n := 1) (k := 2) (f := zp_isR) (pc' := 35) rfl rfl l2 rfl rfl ?_
        refine zw_ld (n := 1) (k := 3) (f := zp_isI) (pc' := 36) rfl rfl l3 rfl rfl ?_
        refine zw_ld (n := 2) (k := 9) (f := zp_isI) (pc' := 38) rfl rfl l9 rfl rfl ?_
        refine zw_c (pc' := 41) (zw_cv (q := 33) (Y := zm_26) W.1 rfl rfl zm_26_t rfl rfl) rfl rfl rfl rfl rfl (yc_wayOf33 W hs ⟨h5, by omega⟩) ?_
        refine zw_c (pc' := 44) (zw_cv (q := 22) (Y := zm_161) W.1 rfl rfl zm_161_t rfl rfl) rfl rfl rfl rfl rfl (yc_wt22 W hb ⟨hi8.1, by omega⟩) ?_
        refine zw_s (pc' := 45) rfl rfl ?_
        refine zw_lmul (pc' := 46) rfl rfl ?_
        refine zw_sl (n := 2) (k := 7) (pc' := 48) rfl rfl rfl rfl ?_
        refine zw_ii (pc' := 51) rfl (zw_gt2 l9 rfl rfl) rfl rfl ?_
        refine zw_s (pc' := 6) rfl rfl ?_
        exact ih _ (i + Int32.ofInt 1) _ (by omega) (by omega) (zw_gt (zw_gt2 l0 rfl rfl) rfl rfl) (zw_gt (zw_gt2 l1 rfl rfl) rfl rfl) (zw_gt (zw_gt2 l2 rfl rfl) rfl rfl) (zw_gt (zw_gt2 l3 rfl rfl) rfl rfl) (zw_gt (zw_gt2 l4 rfl rfl) rfl rfl) (zw_gt (zw_gt2 l5 rfl rfl) rfl rfl) (zw_gt (zw_gt2 l6 rfl rfl) rfl rfl) (zw_gt zw_g2 rfl rfl) zw_g1 (fun lv1 => by rw [xPr_1 (if_pos h2 : xPw k i a b = b)] at hP; exact hP lv1)
      · refine zw_ld (n := 2) (k := 4) (f := zp_isI) (pc' := 29) rfl rfl l4 rfl rfl ?_
        refine zw_s (pc' := 34) rfl rfl ?_
        refine zw_ld (n := 1) (k := 2) (f := zp_isR) (pc' := 35) rfl rfl l2 rfl rfl ?_
        refine zw_ld (n := 1) (k := 3) (f := zp_isI) (pc' := 36) rfl rfl l3 rfl rfl ?_
        refine zw_ld (n := 2) (k := 9) (f := zp_isI) (pc' := 38) rfl rfl l9 rfl rfl ?_
        refine zw_c (pc' := 41) (zw_cv (q := 33) (Y := zm_26) W.1 rfl rfl zm_26_t rfl rfl) rfl rfl rfl rfl rfl (yc_wayOf33 W hs ⟨h5, by omega⟩) ?_
        refine zw_c (pc' := 44) (zw_cv (q := 22) (Y := zm_161) W.1 rfl rfl zm_161_t rfl rfl) rfl rfl rfl rfl rfl (yc_wt22 W ha ⟨hi8.1, by omega⟩) ?_
        refine zw_s (pc' := 45) rfl rfl ?_
        refine zw_lmul (pc' := 46) rfl rfl ?_
        refine zw_sl (n := 2) (k := 7) (pc' := 48) rfl rfl rfl rfl ?_
        refine zw_ii (pc' := 51) rfl (zw_gt2 l9 rfl rfl) rfl rfl ?_
        refine zw_s (pc' := 6) rfl rfl ?_
        exact ih _ (i + Int32.ofInt 1) _ (by omega) (by omega) (zw_gt (zw_gt2 l0 rfl rfl) rfl rfl) (zw_gt (zw_gt2 l1 rfl rfl) rfl rfl) (zw_gt (zw_gt2 l2 rfl rfl) rfl rfl) (zw_gt (zw_gt2 l3 rfl rfl) rfl rfl) (zw_gt (zw_gt2 l4 rfl rfl) rfl rfl) (zw_gt (zw_gt2 l5 rfl rfl) rfl rfl) (zw_gt (zw_gt2 l6 rfl rfl) rfl rfl) (zw_gt zw_g2 rfl rfl) zw_g1 (fun lv1 => by rw [xPr_1 (if_neg (by omega) : xPw k i a b = a)] at hP; exact hP lv1)

theorem yc_wg22 {L : Nat} {σ : Nat → Int32} {d : Nat} {H : zp_H} {s a b k : Int32} {r : xT4} (W : zw_W H) (hs : 0 ≤ s.toInt ∧ s.toInt < 8) (ha : 0 ≤ a.toInt ∧ a.toInt < 5) (hb : 0 ≤ b.toInt ∧ b.toInt < 5) (hm : 0 ≤ (H.2.1 36 s.toInt.toNat).toInt ∧ (H.2.1 36 s.toInt.toNat).toInt ≤ 8) (hw : ∀ j, j < (H.2.1 36 s.toInt.toNat).toInt.toNat → 0 ≤ (H.2.1 38 (8 * s.toInt.toNat + j)).toInt ∧ (H.2.1 38 (8 * s.toInt.toNat + j)).toInt ≤ 3) (hr : xL4 H r) : ∃ X, zp_Call L σ (d + 2) 160 [.inr (.inr (some 71)), .inr (.inr (some 23)), .inr (.inr (some 34)), .inl s, .inl a, .inl b, .inl k] H X ∧ ∃ H1, X = (.inl none, H1) ∧ zw_W H1 ∧ xFv 70 H H1 ∧ xL4 H1 (xH1 (xPc H 22 33 s.toInt.toNat (H.2.1 36 s.toInt.toNat).toInt.toNat) a b k r) := by
  obtain ⟨r0, r1, r2, r3⟩ := id hr
  refine zw_met zm_160_t rfl rfl ?_
  refine zw_s (pc' := 1) rfl rfl ?_
  refine zw_sl (n := 2) (k := 7) (pc' := 3) rfl rfl rfl rfl ?_
  refine zw_s (pc' := 4) rfl rfl ?_
  refine zw_st (n := 2) (k := 9) (f := zp_isI) (pc' := 6) rfl rfl rfl rfl rfl ?_
  refine yc_wgL22 W hs ha hb hm hw (H.2.1 36 s.toInt.toNat).toInt.toNat _ (Int32.ofInt 0) (Int64.ofNat 1) (by decide) (by rw [show (Int32.ofInt 0).toInt = 0 by decide]; omega) (zw_gt (zw_gt2 rfl rfl rfl) rfl rfl) (zw_gt (zw_gt2 rfl rfl rfl) rfl rfl) (zw_gt (zw_gt2 rfl rfl rfl) rfl rfl) (zw_gt (zw_gt2 rfl rfl rfl) rfl rfl) (zw_gt (zw_gt2 rfl rfl rfl) rfl rfl) (zw_gt (zw_gt2 rfl rfl rfl) rfl rfl) (zw_gt (zw_gt2 rfl rfl rfl) rfl rfl) (zw_gt zw_g2 rfl rfl) zw_g1 (fun lv1 k0 k4 k5 k6 k7 => ?_)
  refine zw_ld (n := 2) (k := 7) (f := zp_isL) (pc' := 56) rfl rfl k7 rfl rfl ?_
  refine zw_ld (n := 1) (k := 0) (f := zp_isR) (pc' := 57) rfl rfl k0 rfl rfl ?_
  refine zw_gL (q := 70) (pc' := 60) W rfl rfl rfl rfl rfl ?_
  refine zw_s (pc' := 61) rfl rfl ?_
  refine zw_ble1 (g := 88) (pc' := 64) rfl rfl rfl rfl (fun h2 => ?_) (fun h2 => ?_)
  · have h2 : (lg_cmp ((xPc H 22 33 s.toInt.toNat (H.2.1 36 s.toInt.toNat).toInt.toNat) a b k) (H.2.2.1 70 3)).toInt ≤ 0 := h2
    rw [r0] at h2
    refine zw_rn rfl rfl ?_
    exact ⟨H, rfl, W, xFv_r H, by rw [show xH1 (xPc H 22 33 s.toInt.toNat (H.2.1 36 s.toInt.toNat).toInt.toNat) a b k r = r from if_pos h2]; exact hr⟩
  · have h2 : ¬ (lg_cmp ((xPc H 22 33 s.toInt.toNat (H.2.1 36 s.toInt.toNat).toInt.toNat) a b k) (H.2.2.1 70 3)).toInt ≤ 0 := Int.not_le.mpr h2
    rw [r0] at h2
    refine zw_ld (n := 1) (k := 0) (f := zp_isR) (pc' := 65) rfl rfl k0 rfl rfl ?_
    refine zw_ld (n := 2) (k := 7) (f := zp_isL) (pc' := 67) rfl rfl k7 rfl rfl ?_
    refine zw_pL (q := 70) (pc' := 70) W rfl rfl rfl rfl rfl rfl ?_
    refine zw_ld (n := 1) (k := 0) (f := zp_isR) (pc' := 71) rfl rfl k0 rfl rfl ?_
    refine zw_ld (n := 2) (k := 4) (f := zp_isI) (pc' := 73) rfl rfl k4 rfl rfl ?_
    refine zw_pI (q := 70) (pc' := 76) (zw_W_J W) rfl rfl rfl rfl rfl rfl ?_
    refine zw_ld (n := 1) (k := 0) (f := zp_isR) (pc' := 77) rfl rfl k0 rfl rfl ?_
    refine zw_ld (n := 2) (k := 5) (f := zp_isI) (pc' := 79) rfl rfl k5 rfl rfl ?_
    refine zw_pI (q := 70) (pc' := 82) (zw_W_I (zw_W_J W)) rfl rfl rfl rfl rfl rfl ?_
    refine zw_ld (n := 1) (k := 0) (f := zp_isR) (pc' := 83) rfl rfl k0 rfl rfl ?_
    refine zw_ld (n := 2) (k := 6) (f := zp_isI) (pc' := 85) rfl rfl k6 rfl rfl ?_
    refine zw_pI (q := 70) (pc' := 88) (zw_W_I (zw_W_I (zw_W_J W))) rfl rfl rfl rfl rfl rfl ?_
    refine zw_rn rfl rfl ?_
    exact ⟨_, rfl, zw_W_I (zw_W_I (zw_W_I (zw_W_J W))), xFv_I (xFv_I (xFv_I (xFv_J (xFv_r H)))), by rw [show xH1 (xPc H 22 33 s.toInt.toNat (H.2.1 36 s.toInt.toNat).toInt.toNat) a b k r = ((xPc H 22 33 s.toInt.toNat (H.2.1 36 s.toInt.toNat).toInt.toNat) a b k, a, b, k) from if_neg h2]; exact ⟨zp_u_self H.2.2.1 70 3 _, zw_ne (zw_ne zw_eq rfl) rfl, zw_ne zw_eq rfl, zw_eq⟩⟩

theorem yc_hkK22 {L : Nat} {σ : Nat → Int32} {d : Nat} {P : zp_X → Prop} {H0 : zp_H} {s a b : Int32} (hs : 0 ≤ s.toInt ∧ s.toInt < 8) (ha : 0 ≤ a.toInt ∧ a.toInt < 5) (hb : 0 ≤ b.toInt ∧ b.toInt < 5) (hm : 0 ≤ (H0.2.1 36 s.toInt.toNat).toInt ∧ (H0.2.1 36 s.toInt.toNat).toInt ≤ 8) (hw : ∀ j, j < (H0.2.1 36 s.toInt.toNat).toInt.toNat → 0 ≤ (H0.2.1 38 (8 * s.toInt.toNat + j)).toInt ∧ (H0.2.1 38 (8 * s.toInt.toNat + j)).toInt ≤ 3) (hab : ¬ a.toInt = b.toInt) : ∀ (n : Nat) (H : zp_H) (lv : zp_LV) (k : Int32) (r : xT4), zw_W H → xFv 70 H0 H → xL4 H r → 0 ≤ k.toInt → ((H0.2.1 36 s.toInt.toNat).toInt - k.toInt).toNat = n → zp_get lv 0 = some (.inr (.inr (some 71))) → zp_get lv 1 = some (.inr (.inr (some 23))) → zp_get lv 2 = some (.inr (.inr (some 34))) → zp_get lv 3 = some (.inl s) → zp_get lv 4 = some (.inl a) → zp_get lv 5 = some (.inl b) → zp_get lv 6 = some (.inl k) → (∀ H1 lv1, zw_W H1 → xFv 70 H0 H1 → xL4 H1 (xHk (xPc H0 22 33 s.toInt.toNat (H0.2.1 36 s.toInt.toNat).toInt.toNat) a b n k r) → zp_get lv1 0 = some (.inr (.inr (some 71))) → zp_get lv1 1 = some (.inr (.inr (some 23))) → zp_get lv1 2 = some (.inr (.inr (some 34))) → zp_get lv1 3 = some (.inl s) → zp_get lv1 4 = some (.inl a) → zp_get lv1 5 = some (.inl b) → zs_Safe L σ P zm_159 [] (d + 2) (84, lv1, [], H1, (0, 0))) → zs_Safe L σ P zm_159 [] (d + 2) (47, lv, [], H, (0, 0)) := by
  intro n
  induction n with
  | zero =>
    intro H lv k r W hF hr h5 hn l0 l1 l2 l3 l4 l5 l6 hP
    have em : ∀ j, H.2.1 36 j = H0.2.1 36 j := fun j => hF.2.2.1 _ _ (by decide)
    refine zw_ld (n := 2) (k := 4) (f := zp_isI) (pc' := 49) rfl rfl l4 rfl rfl ?_
    refine zw_ld (n := 2) (k := 5) (f := zp_isI) (pc' := 51) rfl rfl l5 rfl rfl ?_
    refine zw_beq2 (g := 84) (pc' := 54) rfl rfl rfl rfl rfl (fun h0 => ?_) (fun h0 => ?_)
    · exact absurd h0 hab
    · refine zw_ld (n := 2) (k := 6) (f := zp_isI) (pc' := 56) rfl rfl l6 rfl rfl ?_
      refine zw_ld (n := 1) (k := 2) (f := zp_isR) (pc' := 57) rfl rfl l2 rfl rfl ?_
      refine zw_gR (q := 33) (pc' := 60) W rfl rfl rfl rfl (W.2 33 3 _ rfl) rfl ?_
      refine zw_ld (n := 1) (k := 3) (f := zp_isI) (pc' := 61) rfl rfl l3 rfl rfl ?_
      refine zw_ia (q := 36) (pc' := 62) W rfl rfl (by decide) (⟨hs.1, by show _ < ((8 : Nat) : Int); omega⟩) rfl rfl ?_
      rw [em]
      refine zw_bge2 (g := 84) (pc' := 65) rfl rfl rfl rfl rfl (fun h1 => ?_) (fun h1 => ?_)
      · exact hP H lv W hF hr l0 l1 l2 l3 l4 l5
      · omega
  | succ n ih =>
    intro H lv k r W hF hr h5 hn l0 l1 l2 l3 l4 l5 l6 hP
    have em : ∀ j, H.2.1 36 j = H0.2.1 36 j := fun j => hF.2.2.1 _ _ (by decide)
    refine zw_ld (n := 2) (k := 4) (f := zp_isI) (pc' := 49) rfl rfl l4 rfl rfl ?_
    refine zw_ld (n := 2) (k := 5) (f := zp_isI) (pc' := 51) rfl rfl l5 rfl rfl ?_
    refine zw_beq2 (g := 84) (pc' := 54) rfl rfl rfl rfl rfl (fun h0 => ?_) (fun h0 => ?_)
    · exact absurd h0 hab
    · refine zw_ld (n := 2) (k := 6) (f := zp_isI) (pc' := 56) rfl rfl l6 rfl rfl ?_
      refine zw_ld (n := 1) (k := 2) (f := zp_isR) (pc' := 57) rfl rfl l2 rfl rfl ?_
      refine zw_gR (q := 33) (pc' := 60) W rfl rfl rfl rfl (W.2 33 3 _ rfl) rfl ?_
      refine zw_ld (n := 1) (k := 3) (f := zp_isI) (pc' := 61) rfl rfl l3 rfl rfl ?_
      refine zw_ia (q := 36) (pc' := 62) W rfl rfl (by decide) (⟨hs.1, by show _ < ((8 : Nat) : Int); omega⟩) rfl rfl ?_
      rw [em]
      refine zw_bge2 (g := 84) (pc' := 65) rfl rfl rfl rfl rfl (fun h1 => ?_) (fun h1 => ?_)
      · omega
      · obtain ⟨_, q1, H1, rfl, W1, q2, q3⟩ := yc_wg22 (L := L) (σ := σ) (d := d) (s := s) (a := a) (b := b) (k := k) (r := r) W hs ha hb (by rw [em]; exact hm) (fun j hj => by rw [em] at hj; rw [hF.2.2.1 38 _ (by decide)]; exact hw j hj) hr
        rw [em, xPc_f (wp := 22) (cp := 33) hF (by decide)] at q3
        have ek : (k + Int32.ofInt 1).toInt = k.toInt + 1 := zw_p1 (by omega)
        refine zw_ld (n := 1) (k := 0) (f := zp_isR) (pc' := 66) rfl rfl l0 rfl rfl ?_
        refine zw_ld (n := 1) (k := 1) (f := zp_isR) (pc' := 67) rfl rfl l1 rfl rfl ?_
        refine zw_ld (n := 1) (k := 2) (f := zp_isR) (pc' := 68) rfl rfl l2 rfl rfl ?_
        refine zw_ld (n := 1) (k := 3) (f := zp_isI) (pc' := 69) rfl rfl l3 rfl rfl ?_
        refine zw_ld (n := 2) (k := 4) (f := zp_isI) (pc' := 71) rfl rfl l4 rfl rfl ?_
        refine zw_ld (n := 2) (k := 5) (f := zp_isI) (pc' := 73) rfl rfl l5 rfl rfl ?_
        refine zw_ld (n := 2) (k := 6) (f := zp_isI) (pc' := 75) rfl rfl l6 rfl rfl ?_
        refine zw_cn (pc' := 78) (zw_cv (q := 70) (Y := zm_160) W.1 rfl rfl zm_160_t rfl rfl) rfl rfl rfl rfl rfl (q1) ?_
        refine zw_ii (pc' := 81) rfl l6 rfl rfl ?_
        refine zw_s (pc' := 47) rfl rfl ?_
        exact ih H1 _ (k + Int32.ofInt 1) _ W1 (xFv_t hF q2) q3 (by omega) (by omega) (zw_gt l0 rfl rfl) (zw_gt l1 rfl rfl) (zw_gt l2 rfl rfl) (zw_gt l3 rfl rfl) (zw_gt l4 rfl rfl) (zw_gt l5 rfl rfl) zw_g1 hP

theorem yc_hkB22 {L : Nat} {σ : Nat → Int32} {d : Nat} {P : zp_X → Prop} {H0 : zp_H} {s a : Int32} (hs : 0 ≤ s.toInt ∧ s.toInt < 8) (ha : 0 ≤ a.toInt ∧ a.toInt < 5) (hm : 0 ≤ (H0.2.1 36 s.toInt.toNat).toInt ∧ (H0.2.1 36 s.toInt.toNat).toInt ≤ 8) (hw : ∀ j, j < (H0.2.1 36 s.toInt.toNat).toInt.toNat → 0 ≤ (H0.2.1 38 (8 * s.toInt.toNat + j)).toInt ∧ (H0.2.1 38 (8 * s.toInt.toNat + j)).toInt ≤ 3) (hh : 0 ≤ (H0.2.1 22 7).toInt ∧ (H0.2.1 22 7).toInt ≤ 5) : ∀ (n : Nat) (H : zp_H) (lv : zp_LV) (b : Int32) (r : xT4), zw_W H → xFv 70 H0 H → xL4 H r → 0 ≤ b.toInt → b.toInt + n = (H0.2.1 22 7).toInt → zp_get lv 0 = some (.inr (.inr (some 71))) → zp_get lv 1 = some (.inr (.inr (some 23))) → zp_get lv 2 = some (.inr (.inr (some 34))) → zp_get lv 3 = some (.inl s) → zp_get lv 4 = some (.inl a) → zp_get lv 5 = some (.inl b) → (∀ H1 lv1, zw_W H1 → xFv 70 H0 H1 → xL4 H1 (xHb (xPc H0 22 33 s.toInt.toNat (H0.2.1 36 s.toInt.toNat).toInt.toNat) (H0.2.1 36 s.toInt.toNat).toInt.toNat a n b r) → zp_get lv1 0 = some (.inr (.inr (some 71))) → zp_get lv1 1 = some (.inr (.inr (some 23))) → zp_get lv1 2 = some (.inr (.inr (some 34))) → zp_get lv1 3 = some (.inl s) → zp_get lv1 4 = some (.inl a) → zs_Safe L σ P zm_159 [] (d + 2) (90, lv1, [], H1, (0, 0))) → zs_Safe L σ P zm_159 [] (d + 2) (35, lv, [], H, (0, 0)) := by
  intro n
  induction n with
  | zero =>
    intro H lv b r W hF hr h5 hn l0 l1 l2 l3 l4 l5 hP
    have eh : H.2.1 22 7 = (H0.2.1 22 7) := hF.2.2.1 _ _ (by decide)
    refine zw_ld (n := 2) (k := 5) (f := zp_isI) (pc' := 37) rfl rfl l5 rfl rfl ?_
    refine zw_ld (n := 1) (k := 1) (f := zp_isR) (pc' := 38) rfl rfl l1 rfl rfl ?_
    refine zw_gI (q := 22) (pc' := 41) W rfl rfl rfl rfl rfl rfl ?_
    rw [eh]
    refine zw_bge2 (g := 90) (pc' := 44) rfl rfl rfl rfl rfl (fun h1 => ?_) (fun h1 => ?_)
    · exact hP H lv W hF hr l0 l1 l2 l3 l4
    · omega
  | succ n ih =>
    intro H lv b r W hF hr h5 hn l0 l1 l2 l3 l4 l5 hP
    have eh : H.2.1 22 7 = (H0.2.1 22 7) := hF.2.2.1 _ _ (by decide)
    refine zw_ld (n := 2) (k := 5) (f := zp_isI) (pc' := 37) rfl rfl l5 rfl rfl ?_
    refine zw_ld (n := 1) (k := 1) (f := zp_isR) (pc' := 38) rfl rfl l1 rfl rfl ?_
    refine zw_gI (q := 22) (pc' := 41) W rfl rfl rfl rfl rfl rfl ?_
    rw [eh]
    refine zw_bge2 (g := 90) (pc' := 44) rfl rfl rfl rfl rfl (fun h1 => ?_) (fun h1 => ?_)
    · omega
    · have eb : (b + Int32.ofInt 1).toInt = b.toInt + 1 := zw_p1 (by omega)
      refine zw_s (pc' := 45) rfl rfl ?_
      refine zw_st (n := 2) (k := 6) (f := zp_isI) (pc' := 47) rfl rfl rfl rfl rfl ?_
      by_cases hab : a.toInt = b.toInt
      · refine zw_ld (n := 2) (k := 4) (f := zp_isI) (pc' := 49) rfl rfl (zw_gt l4 rfl rfl) rfl rfl ?_
        refine zw_ld (n := 2) (k := 5) (f := zp_isI) (pc' := 51) rfl rfl (zw_gt l5 rfl rfl) rfl rfl ?_
        refine zw_beq2 (g := 84) (pc' := 54) rfl rfl rfl rfl rfl (fun h0 => ?_) (fun h0 => ?_)
        · refine zw_ii (pc' := 87) rfl (zw_gt l5 rfl rfl) rfl rfl ?_
          refine zw_s (pc' := 35) rfl rfl ?_
          refine ih H _ (b + Int32.ofInt 1) r W hF hr (by omega) (by omega) (zw_gt (zw_gt l0 rfl rfl) rfl rfl) (zw_gt (zw_gt l1 rfl rfl) rfl rfl) (zw_gt (zw_gt l2 rfl rfl) rfl rfl) (zw_gt (zw_gt l3 rfl rfl) rfl rfl) (zw_gt (zw_gt l4 rfl rfl) rfl rfl) zw_g1 (by rw [xHb_e hab] at hP; exact hP)
        · exact absurd hab h0
      · refine yc_hkK22 (a := a) (b := b) hs ha ⟨h5, by omega⟩ hm hw hab ((H0.2.1 36 s.toInt.toNat).toInt.toNat - 1) H _ (Int32.ofInt 1) r W hF hr (by decide) (by rw [show (Int32.ofInt 1).toInt = 1 by decide]; omega) (zw_gt l0 rfl rfl) (zw_gt l1 rfl rfl) (zw_gt l2 rfl rfl) (zw_gt l3 rfl rfl) (zw_gt l4 rfl rfl) (zw_gt l5 rfl rfl) zw_g1 (fun H1 lv1 w1 w2 w3 m0 m1 m2 m3 m4 m5 => ?_)
        refine zw_ii (pc' := 87) rfl m5 rfl rfl ?_
        refine zw_s (pc' := 35) rfl rfl ?_
        exact ih H1 _ (b + Int32.ofInt 1) _ w1 w2 w3 (by omega) (by omega) (zw_gt m0 rfl rfl) (zw_gt m1 rfl rfl) (zw_gt m2 rfl rfl) (zw_gt m3 rfl rfl) (zw_gt m4 rfl rfl) zw_g1 (by rw [xHb_n hab] at hP; exact hP)

theorem yc_hkA22 {L : Nat} {σ : Nat → Int32} {d : Nat} {P : zp_X → Prop} {H0 : zp_H} {s : Int32} (hs : 0 ≤ s.toInt ∧ s.toInt < 8) (hm : 0 ≤ (H0.2.1 36 s.toInt.toNat).toInt ∧ (H0.2.1 36 s.toInt.toNat).toInt ≤ 8) (hw : ∀ j, j < (H0.2.1 36 s.toInt.toNat).toInt.toNat → 0 ≤ (H0.2.1 38 (8 * s.toInt.toNat + j)).toInt ∧ (H0.2.1 38 (8 * s.toInt.toNat + j)).toInt ≤ 3) (hh : 0 ≤ (H0.2.1 22 7).toInt ∧ (H0.2.1 22 7).toInt ≤ 5) : ∀ (n : Nat) (H : zp_H) (lv : zp_LV) (a : Int32) (r : xT4), zw_W H → xFv 70 H0 H → xL4 H r → 0 ≤ a.toInt → a.toInt + n = (H0.2.1 22 7).toInt → zp_get lv 0 = some (.inr (.inr (some 71))) → zp_get lv 1 = some (.inr (.inr (some 23))) → zp_get lv 2 = some (.inr (.inr (some 34))) → zp_get lv 3 = some (.inl s) → zp_get lv 4 = some (.inl a) → (∀ H1, zw_W H1 → xFv 70 H0 H1 → xL4 H1 (xHa (xPc H0 22 33 s.toInt.toNat (H0.2.1 36 s.toInt.toNat).toInt.toNat) (H0.2.1 36 s.toInt.toNat).toInt.toNat (H0.2.1 22 7).toInt.toNat n a r) → P (.inl none, H1)) → zs_Safe L σ P zm_159 [] (d + 2) (23, lv, [], H, (0, 0)) := by
  intro n
  induction n with
  | zero =>
    intro H lv a r W hF hr h5 hn l0 l1 l2 l3 l4 hP
    have eh : H.2.1 22 7 = (H0.2.1 22 7) := hF.2.2.1 _ _ (by decide)
    refine zw_ld (n := 2) (k := 4) (f := zp_isI) (pc' := 25) rfl rfl l4 rfl rfl ?_
    refine zw_ld (n := 1) (k := 1) (f := zp_isR) (pc' := 26) rfl rfl l1 rfl rfl ?_
    refine zw_gI (q := 22) (pc' := 29) W rfl rfl rfl rfl rfl rfl ?_
    rw [eh]
    refine zw_bge2 (g := 96) (pc' := 32) rfl rfl rfl rfl rfl (fun h1 => ?_) (fun h1 => ?_)
    · refine zw_rn rfl rfl ?_
      exact hP H W hF hr
    · omega
  | succ n ih =>
    intro H lv a r W hF hr h5 hn l0 l1 l2 l3 l4 hP
    have eh : H.2.1 22 7 = (H0.2.1 22 7) := hF.2.2.1 _ _ (by decide)
    refine zw_ld (n := 2) (k := 4) (f := zp_isI) (pc' := 25) rfl rfl l4 rfl rfl ?_
    refine zw_ld (n := 1) (k := 1) (f := zp_isR) (pc' := 26) rfl rfl l1 rfl rfl ?_
    refine zw_gI (q := 22) (pc' := 29) W rfl rfl rfl rfl rfl rfl ?_
    rw [eh]
    refine zw_bge2 (g := 96) (pc' := 32) rfl rfl rfl rfl rfl (fun h1 => ?_) (fun h1 => ?_)
    · omega
    · have ea : (a + Int32.ofInt 1).toInt = a.toInt + 1 := zw_p1 (by omega)
      refine zw_s (pc' := 33) rfl rfl ?_
      refine zw_st (n := 2) (k := 5) (f := zp_isI) (pc' := 35) rfl rfl rfl rfl rfl ?_
      refine yc_hkB22 (a := a) hs ⟨h5, by omega⟩ hm hw hh (H0.2.1 22 7).toInt.toNat H _ (Int32.ofInt 0) r W hF hr (by decide) (by rw [show (Int32.ofInt 0).toInt = 0 by decide]; omega) (zw_gt l0 rfl rfl) (zw_gt l1 rfl rfl) (zw_gt l2 rfl rfl) (zw_gt l3 rfl rfl) (zw_gt l4 rfl rfl) zw_g1 (fun H1 lv1 w1 w2 w3 m0 m1 m2 m3 m4 => ?_)
      refine zw_ii (pc' := 93) rfl m4 rfl rfl ?_
      refine zw_s (pc' := 23) rfl rfl ?_
      exact ih H1 _ (a + Int32.ofInt 1) _ w1 w2 w3 (by omega) (by omega) (zw_gt m0 rfl rfl) (zw_gt m1 rfl rfl) (zw_gt m2 rfl rfl) (zw_gt m3 rfl rfl) zw_g1 hP

theorem yc_hk22 {L : Nat} {σ : Nat → Int32} {d : Nat} {H : zp_H} {s : Int32} (W : zw_W H) (hs : 0 ≤ s.toInt ∧ s.toInt < 8) (hm : 0 ≤ (H.2.1 36 s.toInt.toNat).toInt ∧ (H.2.1 36 s.toInt.toNat).toInt ≤ 8) (hw : ∀ j, j < (H.2.1 36 s.toInt.toNat).toInt.toNat → 0 ≤ (H.2.1 38 (8 * s.toInt.toNat + j)).toInt ∧ (H.2.1 38 (8 * s.toInt.toNat + j)).toInt ≤ 3) (hh : 0 ≤ (H.2.1 22 7).toInt ∧ (H.2.1 22 7).toInt ≤ 5) : ∃ X, zp_Call L σ (d + 3) 159 [.inr (.inr (some 71)), .inr (.inr (some 23)), .inr (.inr (some 34)), .inl s] H X ∧ ∃ H1, X = (.inl none, H1) ∧ zw_W H1 ∧ xFv 70 H H1 ∧ xL4 H1 (xHa (xPc H 22 33 s.toInt.toNat (H.2.1 36 s.toInt.toNat).toInt.toNat) (H.2.1 36 s.toInt.toNat).toInt.toNat (H.2.1 22 7).toInt.toNat (H.2.1 22 7).toInt.toNat (Int32.ofInt 0) xT40) := by
  refine zw_met zm_159_t rfl rfl ?_
  refine zw_ld (n := 1) (k := 0) (f := zp_isR) (pc' := 1) rfl rfl rfl rfl rfl ?_
  refine zw_s (pc' := 2) rfl rfl ?_
  refine zw_pI (q := 70) (pc' := 5) W rfl rfl rfl rfl rfl rfl ?_
  refine zw_ld (n := 1) (k := 0) (f := zp_isR) (pc' := 6) rfl rfl rfl rfl rfl ?_
  refine zw_s (pc' := 7) rfl rfl ?_
  refine zw_pI (q := 70) (pc' := 10) (zw_W_I W) rfl rfl rfl rfl rfl rfl ?_
  refine zw_ld (n := 1) (k := 0) (f := zp_isR) (pc' := 11) rfl rfl rfl rfl rfl ?_
  refine zw_s (pc' := 12) rfl rfl ?_
  refine zw_pI (q := 70) (pc' := 15) (zw_W_I (zw_W_I W)) rfl rfl rfl rfl rfl rfl ?_
  refine zw_ld (n := 1) (k := 0) (f := zp_isR) (pc' := 16) rfl rfl rfl rfl rfl ?_
  refine zw_s (pc' := 17) rfl rfl ?_
  refine zw_pL (q := 70) (pc' := 20) (zw_W_I (zw_W_I (zw_W_I W))) rfl rfl rfl rfl rfl rfl ?_
  refine zw_s (pc' := 21) rfl rfl ?_
  refine zw_st (n := 2) (k := 4) (f := zp_isI) (pc' := 23) rfl rfl rfl rfl rfl ?_
  exact yc_hkA22 (H0 := H) hs hm hw hh (H.2.1 22 7).toInt.toNat _ _ (Int32.ofInt 0) xT40 (zw_W_J (zw_W_I (zw_W_I (zw_W_I W)))) (xFv_J (xFv_I (xFv_I (xFv_I (xFv_r H))))) ⟨zp_u_self H.2.2.1 70 3 _, zw_nj (zw_ne (zw_ne zw_eq rfl) rfl), zw_nj (zw_ne zw_eq rfl), zw_nj zw_eq⟩ (by decide) (by rw [show (Int32.ofInt 0).toInt = 0 by decide]; omega) (zw_gt rfl rfl rfl) (zw_gt rfl rfl rfl) (zw_gt rfl rfl rfl) (zw_gt rfl rfl rfl) zw_g1 (fun H1 w1 w2 w3 => ⟨H1, rfl, w1, w2, w3⟩)

theorem yc_hd0_0 {L : Nat} {σ : Nat → Int32} {d : Nat} {H : zp_H} {x1 : Int32} (hB : zk_Bs (zB_c 0) zg zJc H) (h1 : 0 ≤ x1.toInt ∧ x1.toInt < (H.2.1 13 0).toInt) (hm : 0 ≤ (H.2.1 16 x1.toInt.toNat).toInt ∧ (H.2.1 16 x1.toInt.toNat).toInt ≤ 8) (hw : ∀ j, j < (H.2.1 16 x1.toInt.toNat).toInt.toNat → 0 ≤ (H.2.1 18 (8 * x1.toInt.toNat + j)).toInt ∧ (H.2.1 18 (8 * x1.toInt.toNat + j)).toInt ≤ 3) : ∃ X, zp_Call L σ (d + 4) 158 [.inr (.inr (some 1)), .inl x1, .inl (Int32.ofInt 0)] H X ∧ ∃ H1, X = (.inl (some (.inr (.inl (xHa (xPc H 2 13 x1.toInt.toNat (H.2.1 16 x1.toInt.toNat).toInt.toNat) (H.2.1 16 x1.toInt.toNat).toInt.toNat (H.2.1 2 7).toInt.toNat (H.2.1 2 7).toInt.toNat (Int32.ofInt 0) xT40).2.1.toInt64))), H1) ∧ xFv 70 H H1 := by
  have W := zB_Wd (zB_dn (zB_Bc hB))
  have g5 : H.2.2.2 0 5 = some 3 := hB.2.1 0 5 _ rfl
  have g6 : H.2.2.2 0 6 = some 14 := hB.2.1 0 6 _ rfl
  have g7 : H.2.2.2 0 7 = some 23 := hB.2.1 0 7 _ rfl
  have g8 : H.2.2.2 0 8 = some 34 := hB.2.1 0 8 _ rfl
  have r13_0 := zB_fr1 (zB_dn (zB_Bc hB)) (p := 13) (k := 0) (r := (0, 8)) rfl
  have r13_0 : 0 ≤ (H.2.1 13 0).toInt ∧ (H.2.1 13 0).toInt ≤ 8 := r13_0
  have r2_7 := zB_fr1 (zB_dn (zB_Bc hB)) (p := 2) (k := 7) (r := (0, 5)) rfl
  have r2_7 : 0 ≤ (H.2.1 2 7).toInt ∧ (H.2.1 2 7).toInt ≤ 5 := r2_7
  obtain ⟨_, q1, H1, rfl, W1, q2, r3, r0, r1, r2⟩ := yc_hk2 (L := L) (σ := σ) (d := d) (s := x1) W ⟨h1.1, by omega⟩ hm hw r2_7
  refine zw_met zm_158_t rfl rfl ?_
  refine zw_ld (n := 1) (k := 0) (f := zp_isR) (pc' := 1) rfl rfl rfl rfl rfl ?_
  refine zw_ld (n := 1) (k := 1) (f := zp_isI) (pc' := 2) rfl rfl rfl rfl rfl ?_
  refine zw_ctn (pc' := 5) (c' := (1, 6)) (zw_cv (q := 0) (Y := zm_108) W.1 rfl rfl zm_108_t rfl rfl) (zw_pb_ok rfl) rfl rfl rfl rfl (yc_ns1_0 hB h1) ?_
  refine zw_ld (n := 1) (k := 2) (f := zp_isI) (pc' := 6) rfl rfl rfl rfl rfl ?_
  refine zw_s (pc' := 7) rfl rfl ?_
  refine zw_ctn (pc' := 10) (c' := (2, 12)) (zw_cs (Y := zm_104) rfl rfl zm_104_t) (zw_pb_ok rfl) rfl rfl rfl rfl (yc_nw1 ⟨by decide, by decide⟩) ?_
  refine zw_ld (n := 1) (k := 0) (f := zp_isR) (pc' := 11) rfl rfl rfl rfl rfl ?_
  refine zw_gR (q := 0) (pc' := 14) W rfl rfl rfl rfl (W.2 0 16 _ rfl) rfl ?_
  refine zw_ld (n := 1) (k := 0) (f := zp_isR) (pc' := 15) rfl rfl rfl rfl rfl ?_
  refine zw_gR (q := 0) (pc' := 18) W rfl rfl rfl rfl g5 rfl ?_
  refine zw_ld (n := 1) (k := 0) (f := zp_isR) (pc' := 19) rfl rfl rfl rfl rfl ?_
  refine zw_gR (q := 0) (pc' := 22) W rfl rfl rfl rfl g6 rfl ?_
  refine zw_ld (n := 1) (k := 1) (f := zp_isI) (pc' := 23) rfl rfl rfl rfl rfl ?_
  refine zw_cn (pc' := 26) (zw_cv (q := 70) (Y := zm_159) W.1 rfl rfl zm_159_t rfl rfl) rfl rfl rfl rfl rfl (q1) ?_
  refine zw_ld (n := 1) (k := 2) (f := zp_isI) (pc' := 27) rfl rfl rfl rfl rfl ?_
  refine zw_s (pc' := 52) rfl rfl ?_
  refine zw_ld (n := 1) (k := 0) (f := zp_isR) (pc' := 53) rfl rfl rfl rfl rfl ?_
  refine zw_gR (q := 0) (pc' := 56) W1 rfl rfl rfl rfl (W1.2 0 16 _ rfl) rfl ?_
  refine zw_gI (q := 70) (pc' := 59) W1 rfl rfl rfl rfl rfl rfl ?_
  refine zw_s (pc' := 60) rfl rfl ?_
  refine zw_rlg rfl rfl ⟨by decide, by decide⟩ ?_
  exact ⟨H1, x_rvl (congrArg Int32.toInt64 r0), q2⟩

theorem yl_hd0_0 {L : Nat} {σ : Nat → Int32} {d : Nat} {H : zp_H} {x1 : Int32} (hB : zk_Bs (zB_c 0) zg zJc H) (h1 : 0 ≤ x1.toInt ∧ x1.toInt < (H.2.1 13 0).toInt) (hm : 0 ≤ (H.2.1 16 x1.toInt.toNat).toInt ∧ (H.2.1 16 x1.toInt.toNat).toInt ≤ 8) (hw : ∀ j, j < (H.2.1 16 x1.toInt.toNat).toInt.toNat → 0 ≤ (H.2.1 18 (8 * x1.toInt.toNat + j)).toInt ∧ (H.2.1 18 (8 * x1.toInt.toNat + j)).toInt ≤ 3) : ∃ H1, zp_Call L σ (d + 5) 157 [.inr (.inr (some 1)), .inl x1, .inl (Int32.ofInt 0), .inr (.inr (some 105))] H (.inl (some (.inl (Int32.ofInt 0))), zw_J H1 104 0 ((xHa (xPc H 2 13 x1.toInt.toNat (H.2.1 16 x1.toInt.toNat).toInt.toNat) (H.2.1 16 x1.toInt.toNat).toInt.toNat (H.2.1 2 7).toInt.toNat (H.2.1 2 7).toInt.toNat (Int32.ofInt 0) xT40).2.1.toInt64)) ∧ xFv 70 H H1 := by
  obtain ⟨_, q1, H1, rfl, q2⟩ := yc_hd0_0 (L := L) (σ := σ) (d := d) hB h1 hm hw
  have W := zB_Wd (zB_dn (zB_Bc hB))
  have W1 := xFv_W q2 W
  refine ⟨H1, zw_ex (zw_met zm_157_t rfl rfl ?_), q2⟩
  refine zw_ld (n := 1) (k := 3) (f := zp_isR) (pc' := 1) rfl rfl rfl rfl rfl ?_
  refine zw_s (pc' := 2) rfl rfl ?_
  refine zw_ld (n := 1) (k := 0) (f := zp_isR) (pc' := 3) rfl rfl rfl rfl rfl ?_
  refine zw_ld (n := 1) (k := 1) (f := zp_isI) (pc' := 4) rfl rfl rfl rfl rfl ?_
  refine zw_ld (n := 1) (k := 2) (f := zp_isI) (pc' := 5) rfl rfl rfl rfl rfl ?_
  refine zw_ct (pc' := 8) (c' := (2, 12)) (zw_cv (q := 0) (Y := zm_158) W.1 rfl rfl zm_158_t rfl rfl) (zw_pb_ok rfl) rfl rfl rfl rfl (q1) ?_
  refine zw_ls (q := 104) (pc' := 9) W1 rfl rfl (⟨by decide, by decide⟩) rfl ?_
  refine zw_s (pc' := 16) rfl rfl ?_
  refine zw_s (pc' := 17) rfl rfl ?_
  refine zw_rig rfl rfl ⟨by decide, by decide⟩ ?_
  rfl

theorem yc_hd0_1 {L : Nat} {σ : Nat → Int32} {d : Nat} {H : zp_H} {x1 : Int32} (hB : zk_Bs (zB_c 0) zg zJc H) (h1 : 0 ≤ x1.toInt ∧ x1.toInt < (H.2.1 13 0).toInt) (hm : 0 ≤ (H.2.1 16 x1.toInt.toNat).toInt ∧ (H.2.1 16 x1.toInt.toNat).toInt ≤ 8) (hw : ∀ j, j < (H.2.1 16 x1.toInt.toNat).toInt.toNat → 0 ≤ (H.2.1 18 (8 * x1.toInt.toNat + j)).toInt ∧ (H.2.1 18 (8 * x1.toInt.toNat + j)).toInt ≤ 3) : ∃ X, zp_Call L σ (d + 4) 158 [.inr (.inr (some 1)), .inl x1, .inl (Int32.ofInt 1)] H X ∧ ∃ H1, X = (.inl (some (.inr (.inl (xHa (xPc H 2 13 x1.toInt.toNat (H.2.1 16 x1.toInt.toNat).toInt.toNat) (H.2.1 16 x1.toInt.toNat).toInt.toNat (H.2.1 2 7).toInt.toNat (H.2.1 2 7).toInt.toNat (Int32.ofInt 0) xT40).2.2.1.toInt64))), H1) ∧ xFv 70 H H1 := by
  have W := zB_Wd (zB_dn (zB_Bc hB))
  have g5 : H.2.2.2 0 5 = some 3 := hB.2.1 0 5 _ rfl
  have g6 : H.2.2.2 0 6 = some 14 := hB.2.1 0 6 _ rfl
  have g7 : H.2.2.2 0 7 = some 23 := hB.2.1 0 7 _ rfl
  have g8 : H.2.2.2 0 8 = some 34 := hB.2.1 0 8 _ rfl
  have r13_0 := zB_fr1 (zB_dn (zB_Bc hB)) (p := 13) (k := 0) (r := (0, 8)) rfl
  have r13_0 : 0 ≤ (H.2.1 13 0).toInt ∧ (H.2.1 13 0).toInt ≤ 8 := r13_0
  have r2_7 := zB_fr1 (zB_dn (zB_Bc hB)) (p := 2) (k := 7) (r := (0, 5)) rfl
  have r2_7 : 0 ≤ (H.2.1 2 7).toInt ∧ (H.2.1 2 7).toInt ≤ 5 := r2_7
  obtain ⟨_, q1, H1, rfl, W1, q2, r3, r0, r1, r2⟩ := yc_hk2 (L := L) (σ := σ) (d := d) (s := x1) W ⟨h1.1, by omega⟩ hm hw r2_7
  refine zw_met zm_158_t rfl rfl ?_
  refine zw_ld (n := 1) (k := 0) (f := zp_isR) (pc' := 1) rfl rfl rfl rfl rfl ?_
  refine zw_ld (n := 1) (k := 1) (f := zp_isI) (pc' := 2) rfl rfl rfl rfl rfl ?_
  refine zw_ctn (pc' := 5) (c' := (1, 6)) (zw_cv (q := 0) (Y := zm_108) W.1 rfl rfl zm_108_t rfl rfl) (zw_pb_ok rfl) rfl rfl rfl rfl (yc_ns1_0 hB h1) ?_
  refine zw_ld (n := 1) (k := 2) (f := zp_isI) (pc' := 6) rfl rfl rfl rfl rfl ?_
  refine zw_s (pc' := 7) rfl rfl ?_
  refine zw_ctn (pc' := 10) (c' := (2, 12)) (zw_cs (Y := zm_104) rfl rfl zm_104_t) (zw_pb_ok rfl) rfl rfl rfl rfl (yc_nw1 ⟨by decide, by decide⟩) ?_
  refine zw_ld (n := 1) (k := 0) (f := zp_isR) (pc' := 11) rfl rfl rfl rfl rfl ?_
  refine zw_gR (q := 0) (pc' := 14) W rfl rfl rfl rfl (W.2 0 16 _ rfl) rfl ?_
  refine zw_ld (n := 1) (k := 0) (f := zp_isR) (pc' := 15) rfl rfl rfl rfl rfl ?_
  refine zw_gR (q := 0) (pc' := 18) W rfl rfl rfl rfl g5 rfl ?_
  refine zw_ld (n := 1) (k := 0) (f := zp_isR) (pc' := 19) rfl rfl rfl rfl rfl ?_
  refine zw_gR (q := 0) (pc' := 22) W rfl rfl rfl rfl g6 rfl ?_
  refine zw_ld (n := 1) (k := 1) (f := zp_isI) (pc' := 23) rfl rfl rfl rfl rfl ?_
  refine zw_cn (pc' := 26) (zw_cv (q := 70) (Y := zm_159) W.1 rfl rfl zm_159_t rfl rfl) rfl rfl rfl rfl rfl (q1) ?_
  refine zw_ld (n := 1) (k := 2) (f := zp_isI) (pc' := 27) rfl rfl rfl rfl rfl ?_
  refine zw_s (pc' := 61) rfl rfl ?_
  refine zw_ld (n := 1) (k := 0) (f := zp_isR) (pc' := 62) rfl rfl rfl rfl rfl ?_
  refine zw_gR (q := 0) (pc' := 65) W1 rfl rfl rfl rfl (W1.2 0 16 _ rfl) rfl ?_
  refine zw_gI (q := 70) (pc' := 68) W1 rfl rfl rfl rfl rfl rfl ?_
  refine zw_s (pc' := 69) rfl rfl ?_
  refine zw_rlg rfl rfl ⟨by decide, by decide⟩ ?_
  exact ⟨H1, x_rvl (congrArg Int32.toInt64 r1), q2⟩

theorem yl_hd0_1 {L : Nat} {σ : Nat → Int32} {d : Nat} {H : zp_H} {x1 : Int32} (hB : zk_Bs (zB_c 0) zg zJc H) (h1 : 0 ≤ x1.toInt ∧ x1.toInt < (H.2.1 13 0).toInt) (hm : 0 ≤ (H.2.1 16 x1.toInt.toNat).toInt ∧ (H.2.1 16 x1.toInt.toNat).toInt ≤ 8) (hw : ∀ j, j < (H.2.1 16 x1.toInt.toNat).toInt.toNat → 0 ≤ (H.2.1 18 (8 * x1.toInt.toNat + j)).toInt ∧ (H.2.1 18 (8 * x1.toInt.toNat + j)).toInt ≤ 3) : ∃ H1, zp_Call L σ (d + 5) 157 [.inr (.inr (some 1)), .inl x1, .inl (Int32.ofInt 1), .inr (.inr (some 105))] H (.inl (some (.inl (Int32.ofInt 0))), zw_J H1 104 0 ((xHa (xPc H 2 13 x1.toInt.toNat (H.2.1 16 x1.toInt.toNat).toInt.toNat) (H.2.1 16 x1.toInt.toNat).toInt.toNat (H.2.1 2 7).toInt.toNat (H.2.1 2 7).toInt.toNat (Int32.ofInt 0) xT40).2.2.1.toInt64)) ∧ xFv 70 H H1 := by
  obtain ⟨_, q1, H1, rfl, q2⟩ := yc_hd0_1 (L := L) (σ := σ) (d := d) hB h1 hm hw
  have W := zB_Wd (zB_dn (zB_Bc hB))
  have W1 := xFv_W q2 W
  refine ⟨H1, zw_ex (zw_met zm_157_t rfl rfl ?_), q2⟩
  refine zw_ld (n := 1) (k := 3) (f := zp_isR) (pc' := 1) rfl rfl rfl rfl rfl ?_
  refine zw_s (pc' := 2) rfl rfl ?_
  refine zw_ld (n := 1) (k := 0) (f := zp_isR) (pc' := 3) rfl rfl rfl rfl rfl ?_
  refine zw_ld (n := 1) (k := 1) (f := zp_isI) (pc' := 4) rfl rfl rfl rfl rfl ?_
  refine zw_ld (n := 1) (k := 2) (f := zp_isI) (pc' := 5) rfl rfl rfl rfl rfl ?_
  refine zw_ct (pc' := 8) (c' := (2, 12)) (zw_cv (q := 0) (Y := zm_158) W.1 rfl rfl zm_158_t rfl rfl) (zw_pb_ok rfl) rfl rfl rfl rfl (q1) ?_
  refine zw_ls (q := 104) (pc' := 9) W1 rfl rfl (⟨by decide, by decide⟩) rfl ?_
  refine zw_s (pc' := 16) rfl rfl ?_
  refine zw_s (pc' := 17) rfl rfl ?_
  refine zw_rig rfl rfl ⟨by decide, by decide⟩ ?_
  rfl

theorem yc_hd0_2 {L : Nat} {σ : Nat → Int32} {d : Nat} {H : zp_H} {x1 : Int32} (hB : zk_Bs (zB_c 0) zg zJc H) (h1 : 0 ≤ x1.toInt ∧ x1.toInt < (H.2.1 13 0).toInt) (hm : 0 ≤ (H.2.1 16 x1.toInt.toNat).toInt ∧ (H.2.1 16 x1.toInt.toNat).toInt ≤ 8) (hw : ∀ j, j < (H.2.1 16 x1.toInt.toNat).toInt.toNat → 0 ≤ (H.2.1 18 (8 * x1.toInt.toNat + j)).toInt ∧ (H.2.1 18 (8 * x1.toInt.toNat + j)).toInt ≤ 3) : ∃ X, zp_Call L σ (d + 4) 158 [.inr (.inr (some 1)), .inl x1, .inl (Int32.ofInt 2)] H X ∧ ∃ H1, X = (.inl (some (.inr (.inl (xHa (xPc H 2 13 x1.toInt.toNat (H.2.1 16 x1.toInt.toNat).toInt.toNat) (H.2.1 16 x1.toInt.toNat).toInt.toNat (H.2.1 2 7).toInt.toNat (H.2.1 2 7).toInt.toNat (Int32.ofInt 0) xT40).2.2.2.toInt64))), H1) ∧ xFv 70 H H1 := by
  have W := zB_Wd (zB_dn (zB_Bc hB))
  have g5 : H.2.2.2 0 5 = some 3 := hB.2.1 0 5 _ rfl
  have g6 : H.2.2.2 0 6 = some 14 := hB.2.1 0 6 _ rfl
  have g7 : H.2.2.2 0 7 = some 23 := hB.2.1 0 7 _ rfl
  have g8 : H.2.2.2 0 8 = some 34 := hB.2.1 0 8 _ rfl
  have r13_0 := zB_fr1 (zB_dn (zB_Bc hB)) (p := 13) (k := 0) (r := (0, 8)) rfl
  have r13_0 : 0 ≤ (H.2.1 13 0).toInt ∧ (H.2.1 13 0).toInt ≤ 8 := r13_0
  have r2_7 := zB_fr1 (zB_dn (zB_Bc hB)) (p := 2) (k := 7) (r := (0, 5)) rfl
  have r2_7 : 0 ≤ (H.2.1 2 7).toInt ∧ (H.2.1 2 7).toInt ≤ 5 := r2_7
  obtain ⟨_, q1, H1, rfl, W1, q2, r3, r0, r1, r2⟩ := yc_hk2 (L := L) (σ := σ) (d := d) (s := x1) W ⟨h1.1, by omega⟩ hm hw r2_7
  refine zw_met zm_158_t rfl rfl ?_
  refine zw_ld (n := 1) (k := 0) (f := zp_isR) (pc' := 1) rfl rfl rfl rfl rfl ?_
  refine zw_ld (n := 1) (k := 1) (f := zp_isI) (pc' := 2) rfl rfl rfl rfl rfl ?_
  refine zw_ctn (pc' := 5) (c' := (1, 6)) (zw_cv (q := 0) (Y := zm_108) W.1 rfl rfl zm_108_t rfl rfl) (zw_pb_ok rfl) rfl rfl rfl rfl (yc_ns1_0 hB h1) ?_
  refine zw_ld (n := 1) (k := 2) (f := zp_isI) (pc' := 6) rfl rfl rfl rfl rfl ?_
  refine zw_s (pc' := 7) rfl rfl ?_
  refine zw_ctn (pc' := 10) (c' := (2, 12)) (zw_cs (Y := zm_104) rfl rfl zm_104_t) (zw_pb_ok rfl) rfl rfl rfl rfl (yc_nw1 ⟨by decide, by decide⟩) ?_
  refine zw_ld (n := 1) (k := 0) (f := zp_isR) (pc' := 11) rfl rfl rfl rfl rfl ?_
  refine zw_gR (q := 0) (pc' := 14) W rfl rfl rfl rfl (W.2 0 16 _ rfl) rfl ?_
  refine zw_ld (n := 1) (k := 0) (f := zp_isR) (pc' := 15) rfl rfl rfl rfl rfl ?_
  refine zw_gR (q := 0) (pc' := 18) W rfl rfl rfl rfl g5 rfl ?_
  refine zw_ld (n := 1) (k := 0) (f := zp_isR) (pc' := 19) rfl rfl rfl rfl rfl ?_
  refine zw_gR (q := 0) (pc' := 22) W rfl rfl rfl rfl g6 rfl ?_
  refine zw_ld (n := 1) (k := 1) (f := zp_isI) (pc' := 23) rfl rfl rfl rfl rfl ?_
  refine zw_cn (pc' := 26) (zw_cv (q := 70) (Y := zm_159) W.1 rfl rfl zm_159_t rfl rfl) rfl rfl rfl rfl rfl (q1) ?_
  refine zw_ld (n := 1) (k := 2) (f := zp_isI) (pc' := 27) rfl rfl rfl rfl rfl ?_
  refine zw_s (pc' := 70) rfl rfl ?_
  refine zw_ld (n := 1) (k := 0) (f := zp_isR) (pc' := 71) rfl rfl rfl rfl rfl ?_
  refine zw_gR (q := 0) (pc' := 74) W1 rfl rfl rfl rfl (W1.2 0 16 _ rfl) rfl ?_
  refine zw_gI (q := 70) (pc' := 77) W1 rfl rfl rfl rfl rfl rfl ?_
  refine zw_s (pc' := 78) rfl rfl ?_
  refine zw_rlg rfl rfl ⟨by decide, by decide⟩ ?_
  exact ⟨H1, x_rvl (congrArg Int32.toInt64 r2), q2⟩

theorem yl_hd0_2 {L : Nat} {σ : Nat → Int32} {d : Nat} {H : zp_H} {x1 : Int32} (hB : zk_Bs (zB_c 0) zg zJc H) (h1 : 0 ≤ x1.toInt ∧ x1.toInt < (H.2.1 13 0).toInt) (hm : 0 ≤ (H.2.1 16 x1.toInt.toNat).toInt ∧ (H.2.1 16 x1.toInt.toNat).toInt ≤ 8) (hw : ∀ j, j < (H.2.1 16 x1.toInt.toNat).toInt.toNat → 0 ≤ (H.2.1 18 (8 * x1.toInt.toNat + j)).toInt ∧ (H.2.1 18 (8 * x1.toInt.toNat + j)).toInt ≤ 3) : ∃ H1, zp_Call L σ (d + 5) 157 [.inr (.inr (some 1)), .inl x1, .inl (Int32.ofInt 2), .inr (.inr (some 105))] H (.inl (some (.inl (Int32.ofInt 0))), zw_J H1 104 0 ((xHa (xPc H 2 13 x1.toInt.toNat (H.2.1 16 x1.toInt.toNat).toInt.toNat) (H.2.1 16 x1.toInt.toNat).toInt.toNat (H.2.1 2 7).toInt.toNat (H.2.1 2 7).toInt.toNat (Int32.ofInt 0) xT40).2.2.2.toInt64)) ∧ xFv 70 H H1 := by
  obtain ⟨_, q1, H1, rfl, q2⟩ := yc_hd0_2 (L := L) (σ := σ) (d := d) hB h1 hm hw
  have W := zB_Wd (zB_dn (zB_Bc hB))
  have W1 := xFv_W q2 W
  refine ⟨H1, zw_ex (zw_met zm_157_t rfl rfl ?_), q2⟩
  refine zw_ld (n := 1) (k := 3) (f := zp_isR) (pc' := 1) rfl rfl rfl rfl rfl ?_
  refine zw_s (pc' := 2) rfl rfl ?_
  refine zw_ld (n := 1) (k := 0) (f := zp_isR) (pc' := 3) rfl rfl rfl rfl rfl ?_
  refine zw_ld (n := 1) (k := 1) (f := zp_isI) (pc' := 4) rfl rfl rfl rfl rfl ?_
  refine zw_ld (n := 1) (k := 2) (f := zp_isI) (pc' := 5) rfl rfl rfl rfl rfl ?_
  refine zw_ct (pc' := 8) (c' := (2, 12)) (zw_cv (q := 0) (Y := zm_158) W.1 rfl rfl zm_158_t rfl rfl) (zw_pb_ok rfl) rfl rfl rfl rfl (q1) ?_
  refine zw_ls (q := 104) (pc' := 9) W1 rfl rfl (⟨by decide, by decide⟩) rfl ?_
  refine zw_s (pc' := 16) rfl rfl ?_
  refine zw_s (pc' := 17) rfl rfl ?_
  refine zw_rig rfl rfl ⟨by decide, by decide⟩ ?_
  rfl

theorem yc_hd0_3 {L : Nat} {σ : Nat → Int32} {d : Nat} {H : zp_H} {x1 : Int32} (hB : zk_Bs (zB_c 0) zg zJc H) (h1 : 0 ≤ x1.toInt ∧ x1.toInt < (H.2.1 13 0).toInt) (hm : 0 ≤ (H.2.1 16 x1.toInt.toNat).toInt ∧ (H.2.1 16 x1.toInt.toNat).toInt ≤ 8) (hw : ∀ j, j < (H.2.1 16 x1.toInt.toNat).toInt.toNat → 0 ≤ (H.2.1 18 (8 * x1.toInt.toNat + j)).toInt ∧ (H.2.1 18 (8 * x1.toInt.toNat + j)).toInt ≤ 3) : ∃ X, zp_Call L σ (d + 4) 158 [.inr (.inr (some 1)), .inl x1, .inl (Int32.ofInt 3)] H X ∧ ∃ H1, X = (.inl (some (.inr (.inl (xHa (xPc H 2 13 x1.toInt.toNat (H.2.1 16 x1.toInt.toNat).toInt.toNat) (H.2.1 16 x1.toInt.toNat).toInt.toNat (H.2.1 2 7).toInt.toNat (H.2.1 2 7).toInt.toNat (Int32.ofInt 0) xT40).1))), H1) ∧ xFv 70 H H1 := by
  have W := zB_Wd (zB_dn (zB_Bc hB))
  have g5 : H.2.2.2 0 5 = some 3 := hB.2.1 0 5 _ rfl
  have g6 : H.2.2.2 0 6 = some 14 := hB.2.1 0 6 _ rfl
  have g7 : H.2.2.2 0 7 = some 23 := hB.2.1 0 7 _ rfl
  have g8 : H.2.2.2 0 8 = some 34 := hB.2.1 0 8 _ rfl
  have r13_0 := zB_fr1 (zB_dn (zB_Bc hB)) (p := 13) (k := 0) (r := (0, 8)) rfl
  have r13_0 : 0 ≤ (H.2.1 13 0).toInt ∧ (H.2.1 13 0).toInt ≤ 8 := r13_0
  have r2_7 := zB_fr1 (zB_dn (zB_Bc hB)) (p := 2) (k := 7) (r := (0, 5)) rfl
  have r2_7 : 0 ≤ (H.2.1 2 7).toInt ∧ (H.2.1 2 7).toInt ≤ 5 := r2_7
  obtain ⟨_, q1, H1, rfl, W1, q2, r3, r0, r1, r2⟩ := yc_hk2 (L := L) (σ := σ) (d := d) (s := x1) W ⟨h1.1, by omega⟩ hm hw r2_7
  refine zw_met zm_158_t rfl rfl ?_
  refine zw_ld (n := 1) (k := 0) (f := zp_isR) (pc' := 1) rfl rfl rfl rfl rfl ?_
  refine zw_ld (n := 1) (k := 1) (f := zp_isI) (pc' := 2) rfl rfl rfl rfl rfl ?_
  refine zw_ctn (pc' := 5) (c' := (1, 6)) (zw_cv (q := 0) (Y := zm_108) W.1 rfl rfl zm_108_t rfl rfl) (zw_pb_ok rfl) rfl rfl rfl rfl (yc_ns1_0 hB h1) ?_
  refine zw_ld (n := 1) (k := 2) (f := zp_isI) (pc' := 6) rfl rfl rfl rfl rfl ?_
  refine zw_s (pc' := 7) rfl rfl ?_
  refine zw_ctn (pc' := 10) (c' := (2, 12)) (zw_cs (Y := zm_104) rfl rfl zm_104_t) (zw_pb_ok rfl) rfl rfl rfl rfl (yc_nw1 ⟨by decide, by decide⟩) ?_
  refine zw_ld (n := 1) (k := 0) (f := zp_isR) (pc' := 11) rfl rfl rfl rfl rfl ?_
  refine zw_gR (q := 0) (pc' := 14) W rfl rfl rfl rfl (W.2 0 16 _ rfl) rfl ?_
  refine zw_ld (n := 1) (k := 0) (f := zp_isR) (pc' := 15) rfl rfl rfl rfl rfl ?_
  refine zw_gR (q := 0) (pc' := 18) W rfl rfl rfl rfl g5 rfl ?_
  refine zw_ld (n := 1) (k := 0) (f := zp_isR) (pc' := 19) rfl rfl rfl rfl rfl ?_
  refine zw_gR (q := 0) (pc' := 22) W rfl rfl rfl rfl g6 rfl ?_
  refine zw_ld (n := 1) (k := 1) (f := zp_isI) (pc' := 23) rfl rfl rfl rfl rfl ?_
  refine zw_cn (pc' := 26) (zw_cv (q := 70) (Y := zm_159) W.1 rfl rfl zm_159_t rfl rfl) rfl rfl rfl rfl rfl (q1) ?_
  refine zw_ld (n := 1) (k := 2) (f := zp_isI) (pc' := 27) rfl rfl rfl rfl rfl ?_
  refine zw_s (pc' := 79) rfl rfl ?_
  refine zw_ld (n := 1) (k := 0) (f := zp_isR) (pc' := 80) rfl rfl rfl rfl rfl ?_
  refine zw_gR (q := 0) (pc' := 83) W1 rfl rfl rfl rfl (W1.2 0 16 _ rfl) rfl ?_
  refine zw_gL (q := 70) (pc' := 86) W1 rfl rfl rfl rfl rfl ?_
  refine zw_rlg rfl rfl ⟨by decide, by decide⟩ ?_
  exact ⟨H1, x_rvl r3, q2⟩

theorem yl_hd0_3 {L : Nat} {σ : Nat → Int32} {d : Nat} {H : zp_H} {x1 : Int32} (hB : zk_Bs (zB_c 0) zg zJc H) (h1 : 0 ≤ x1.toInt ∧ x1.toInt < (H.2.1 13 0).toInt) (hm : 0 ≤ (H.2.1 16 x1.toInt.toNat).toInt ∧ (H.2.1 16 x1.toInt.toNat).toInt ≤ 8) (hw : ∀ j, j < (H.2.1 16 x1.toInt.toNat).toInt.toNat → 0 ≤ (H.2.1 18 (8 * x1.toInt.toNat + j)).toInt ∧ (H.2.1 18 (8 * x1.toInt.toNat + j)).toInt ≤ 3) : ∃ H1, zp_Call L σ (d + 5) 157 [.inr (.inr (some 1)), .inl x1, .inl (Int32.ofInt 3), .inr (.inr (some 105))] H (.inl (some (.inl (Int32.ofInt 0))), zw_J H1 104 0 ((xHa (xPc H 2 13 x1.toInt.toNat (H.2.1 16 x1.toInt.toNat).toInt.toNat) (H.2.1 16 x1.toInt.toNat).toInt.toNat (H.2.1 2 7).toInt.toNat (H.2.1 2 7).toInt.toNat (Int32.ofInt 0) xT40).1)) ∧ xFv 70 H H1 := by
  obtain ⟨_, q1, H1, rfl, q2⟩ := yc_hd0_3 (L := L) (σ := σ) (d := d) hB h1 hm hw
  have W := zB_Wd (zB_dn (zB_Bc hB))
  have W1 := xFv_W q2 W
  refine ⟨H1, zw_ex (zw_met zm_157_t rfl rfl ?_), q2⟩
  refine zw_ld (n := 1) (k := 3) (f := zp_isR) (pc' := 1) rfl rfl rfl rfl rfl ?_
  refine zw_s (pc' := 2) rfl rfl ?_
  refine zw_ld (n := 1) (k := 0) (f := zp_isR) (pc' := 3) rfl rfl rfl rfl rfl ?_
  refine zw_ld (n := 1) (k := 1) (f := zp_isI) (pc' := 4) rfl rfl rfl rfl rfl ?_
  refine zw_ld (n := 1) (k := 2) (f := zp_isI) (pc' := 5) rfl rfl rfl rfl rfl ?_
  refine zw_ct (pc' := 8) (c' := (2, 12)) (zw_cv (q := 0) (Y := zm_158) W.1 rfl rfl zm_158_t rfl rfl) (zw_pb_ok rfl) rfl rfl rfl rfl (q1) ?_
  refine zw_ls (q := 104) (pc' := 9) W1 rfl rfl (⟨by decide, by decide⟩) rfl ?_
  refine zw_s (pc' := 16) rfl rfl ?_
  refine zw_s (pc' := 17) rfl rfl ?_
  refine zw_rig rfl rfl ⟨by decide, by decide⟩ ?_
  rfl

theorem yc_hdn0 {L : Nat} {σ : Nat → Int32} {d : Nat} {H : zp_H} {x1 x2 : Int32} (hB : zk_Bs (zB_c 0) zg zJc H) (h : ¬ ((0 ≤ x1.toInt ∧ x1.toInt < (H.2.1 13 0).toInt) ∧ 0 ≤ x2.toInt ∧ x2.toInt ≤ (Int32.ofInt 3).toInt)) : zp_Call L σ (d + 2) 158 [.inr (.inr (some 1)), .inl x1, .inl x2] H (.inr 0, H) := by
  have W := zB_Wd (zB_dn (zB_Bc hB))
  have g5 : H.2.2.2 0 5 = some 3 := hB.2.1 0 5 _ rfl
  have g6 : H.2.2.2 0 6 = some 14 := hB.2.1 0 6 _ rfl
  have g7 : H.2.2.2 0 7 = some 23 := hB.2.1 0 7 _ rfl
  have g8 : H.2.2.2 0 8 = some 34 := hB.2.1 0 8 _ rfl
  refine zw_ex (zw_met zm_158_t rfl rfl ?_)
  refine zw_ld (n := 1) (k := 0) (f := zp_isR) (pc' := 1) rfl rfl rfl rfl rfl ?_
  refine zw_ld (n := 1) (k := 1) (f := zp_isI) (pc' := 2) rfl rfl rfl rfl rfl ?_
  by_cases h1 : 0 ≤ x1.toInt ∧ x1.toInt < (H.2.1 13 0).toInt
  · refine zw_ctn (pc' := 5) (c' := (1, 6)) (zw_cv (q := 0) (Y := zm_108) W.1 rfl rfl zm_108_t rfl rfl) (zw_pb_ok rfl) rfl rfl rfl rfl (yc_ns1_0 hB h1) ?_
    refine zw_ld (n := 1) (k := 2) (f := zp_isI) (pc' := 6) rfl rfl rfl rfl rfl ?_
    refine zw_s (pc' := 7) rfl rfl ?_
    refine zw_cthr (ex := 0) (zw_cs (Y := zm_104) rfl rfl zm_104_t) (zw_pb_ok rfl) rfl rfl (yc_nw0 (fun h9 => h ⟨h1, h9⟩)) ?_
    rfl
  · refine zw_cthr (ex := 0) (zw_cv (q := 0) (Y := zm_108) W.1 rfl rfl zm_108_t rfl rfl) (zw_pb_ok rfl) rfl rfl (yc_ns0_0 hB h1) ?_
    rfl

theorem yl_hdn0 {L : Nat} {σ : Nat → Int32} {d : Nat} {H : zp_H} {x1 x2 : Int32} (hB : zk_Bs (zB_c 0) zg zJc H) (h : ¬ ((0 ≤ x1.toInt ∧ x1.toInt < (H.2.1 13 0).toInt) ∧ 0 ≤ x2.toInt ∧ x2.toInt ≤ (Int32.ofInt 3).toInt)) : zp_Call L σ (d + 3) 157 [.inr (.inr (some 1)), .inl x1, .inl x2, .inr (.inr (some 105))] H (.inl (some (.inl (Int32.ofInt 1))), H) := by
  have W := zB_Wd (zB_dn (zB_Bc hB))
  refine zw_ex (zw_met zm_157_t rfl rfl ?_)
  refine zw_ld (n := 1) (k := 3) (f := zp_isR) (pc' := 1) rfl rfl rfl rfl rfl ?_
  refine zw_s (pc' := 2) rfl rfl ?_
  refine zw_ld (n := 1) (k := 0) (f := zp_isR) (pc' := 3) rfl rfl rfl rfl rfl ?_
  refine zw_ld (n := 1) (k := 1) (f := zp_isI) (pc' := 4) rfl rfl rfl rfl rfl ?_
  refine zw_ld (n := 1) (k := 2) (f := zp_isI) (pc' := 5) rfl rfl rfl rfl rfl ?_
  refine zw_cexw (ex := 0) (hp9 := 12) (k9 := 4) (pc' := 14) (c' := (2, 12)) (zw_cv (q := 0) (Y := zm_158) W.1 rfl rfl zm_158_t rfl rfl) (zw_pb_ok rfl) rfl rfl rfl rfl rfl rfl rfl (yc_hdn0 hB h) ?_
  refine zw_s (pc' := 15) rfl rfl ?_
  refine zw_rig rfl rfl ⟨by decide, by decide⟩ ?_
  rfl

theorem yc_hd3_0 {L : Nat} {σ : Nat → Int32} {d : Nat} {H : zp_H} {x1 : Int32} (hB : zk_Bs (zB_c 3) zg zJc H) (h1 : 0 ≤ x1.toInt ∧ x1.toInt < (H.2.1 33 0).toInt) (hm : 0 ≤ (H.2.1 36 x1.toInt.toNat).toInt ∧ (H.2.1 36 x1.toInt.toNat).toInt ≤ 8) (hw : ∀ j, j < (H.2.1 36 x1.toInt.toNat).toInt.toNat → 0 ≤ (H.2.1 38 (8 * x1.toInt.toNat + j)).toInt ∧ (H.2.1 38 (8 * x1.toInt.toNat + j)).toInt ≤ 3) : ∃ X, zp_Call L σ (d + 4) 158 [.inr (.inr (some 1)), .inl x1, .inl (Int32.ofInt 0)] H X ∧ ∃ H1, X = (.inl (some (.inr (.inl (xHa (xPc H 22 33 x1.toInt.toNat (H.2.1 36 x1.toInt.toNat).toInt.toNat) (H.2.1 36 x1.toInt.toNat).toInt.toNat (H.2.1 22 7).toInt.toNat (H.2.1 22 7).toInt.toNat (Int32.ofInt 0) xT40).2.1.toInt64))), H1) ∧ xFv 70 H H1 := by
  have W := zB_Wd (zB_dn (zB_Bc hB))
  have g5 : H.2.2.2 0 5 = some 23 := hB.2.1 0 5 _ rfl
  have g6 : H.2.2.2 0 6 = some 34 := hB.2.1 0 6 _ rfl
  have g7 : H.2.2.2 0 7 = some 3 := hB.2.1 0 7 _ rfl
  have g8 : H.2.2.2 0 8 = some 14 := hB.2.1 0 8 _ rfl
  have r33_0 := zB_fr1 (zB_dn (zB_Bc hB)) (p := 33) (k := 0) (r := (0, 8)) rfl
  have r33_0 : 0 ≤ (H.2.1 33 0).toInt ∧ (H.2.1 33 0).toInt ≤ 8 := r33_0
  have r22_7 := zB_fr1 (zB_dn (zB_Bc hB)) (p := 22) (k := 7) (r := (0, 5)) rfl
  have r22_7 : 0 ≤ (H.2.1 22 7).toInt ∧ (H.2.1 22 7).toInt ≤ 5 := r22_7
  obtain ⟨_, q1, H1, rfl, W1, q2, r3, r0, r1, r2⟩ := yc_hk22 (L := L) (σ := σ) (d := d) (s := x1) W ⟨h1.1, by omega⟩ hm hw r22_7
  refine zw_met zm_158_t rfl rfl ?_
  refine zw_ld (n := 1) (k := 0) (f := zp_isR) (pc' := 1) rfl rfl rfl rfl rfl ?_
  refine zw_ld (n := 1) (k := 1) (f := zp_isI) (pc' := 2) rfl rfl rfl rfl rfl ?_
  refine zw_ctn (pc' := 5) (c' := (1, 6)) (zw_cv (q := 0) (Y := zm_108) W.1 rfl rfl zm_108_t rfl rfl) (zw_pb_ok rfl) rfl rfl rfl rfl (yc_ns1_3 hB h1) ?_
  refine zw_ld (n := 1) (k := 2) (f := zp_isI) (pc' := 6) rfl rfl rfl rfl rfl ?_
  refine zw_s (pc' := 7) rfl rfl ?_
  refine zw_ctn (pc' := 10) (c' := (2, 12)) (zw_cs (Y := zm_104) rfl rfl zm_104_t) (zw_pb_ok rfl) rfl rfl rfl rfl (yc_nw1 ⟨by decide, by decide⟩) ?_
  refine zw_ld (n := 1) (k := 0) (f := zp_isR) (pc' := 11) rfl rfl rfl rfl rfl ?_
  refine zw_gR (q := 0) (pc' := 14) W rfl rfl rfl rfl (W.2 0 16 _ rfl) rfl ?_
  refine zw_ld (n := 1) (k := 0) (f := zp_isR) (pc' := 15) rfl rfl rfl rfl rfl ?_
  refine zw_gR (q := 0) (pc' := 18) W rfl rfl rfl rfl g5 rfl ?_
  refine zw_ld (n := 1) (k := 0) (f := zp_isR) (pc' := 19) rfl rfl rfl rfl rfl ?_
  refine zw_gR (q := 0) (pc' := 22) W rfl rfl rfl rfl g6 rfl ?_
  refine zw_ld (n := 1) (k := 1) (f := zp_isI) (pc' := 23) rfl rfl rfl rfl rfl ?_
  refine zw_cn (pc' := 26) (zw_cv (q := 70) (Y := zm_159) W.1 rfl rfl zm_159_t rfl rfl) rfl rfl rfl rfl rfl (q1) ?_
  refine zw_ld (n := 1) (k := 2) (f := zp_isI) (pc' := 27) rfl rfl rfl rfl rfl ?_
  refine zw_s (pc' := 52) rfl rfl ?_
  refine zw_ld (n := 1) (k := 0) (f := zp_isR) (pc' := 53) rfl rfl rfl rfl rfl ?_
  refine zw_gR (q := 0) (pc' := 56) W1 rfl rfl rfl rfl (W1.2 0 16 _ rfl) rfl ?_
  refine zw_gI (q := 70) (pc' := 59) W1 rfl rfl rfl rfl rfl rfl ?_
  refine zw_s (pc' := 60) rfl rfl ?_
  refine zw_rlg rfl rfl ⟨by decide, by decide⟩ ?_
  exact ⟨H1, x_rvl (congrArg Int32.toInt64 r0), q2⟩

theorem yl_hd3_0 {L : Nat} {σ : Nat → Int32} {d : Nat} {H : zp_H} {x1 : Int32} (hB : zk_Bs (zB_c 3) zg zJc H) (h1 : 0 ≤ x1.toInt ∧ x1.toInt < (H.2.1 33 0).toInt) (hm : 0 ≤ (H.2.1 36 x1.toInt.toNat).toInt ∧ (H.2.1 36 x1.toInt.toNat).toInt ≤ 8) (hw : ∀ j, j < (H.2.1 36 x1.toInt.toNat).toInt.toNat → 0 ≤ (H.2.1 38 (8 * x1.toInt.toNat + j)).toInt ∧ (H.2.1 38 (8 * x1.toInt.toNat + j)).toInt ≤ 3) : ∃ H1, zp_Call L σ (d + 5) 157 [.inr (.inr (some 1)), .inl x1, .inl (Int32.ofInt 0), .inr (.inr (some 105))] H (.inl (some (.inl (Int32.ofInt 0))), zw_J H1 104 0 ((xHa (xPc H 22 33 x1.toInt.toNat (H.2.1 36 x1.toInt.toNat).toInt.toNat) (H.2.1 36 x1.toInt.toNat).toInt.toNat (H.2.1 22 7).toInt.toNat (H.2.1 22 7).toInt.toNat (Int32.ofInt 0) xT40).2.1.toInt64)) ∧ xFv 70 H H1 := by
  obtain ⟨_, q1, H1, rfl, q2⟩ := yc_hd3_0 (L := L) (σ := σ) (d := d) hB h1 hm hw
  have W := zB_Wd (zB_dn (zB_Bc hB))
  have W1 := xFv_W q2 W
  refine ⟨H1, zw_ex (zw_met zm_157_t rfl rfl ?_), q2⟩
  refine zw_ld (n := 1) (k := 3) (f := zp_isR) (pc' := 1) rfl rfl rfl rfl rfl ?_
  refine zw_s (pc' := 2) rfl rfl ?_
  refine zw_ld (n := 1) (k := 0) (f := zp_isR) (pc' := 3) rfl rfl rfl rfl rfl ?_
  refine zw_ld (n := 1) (k := 1) (f := zp_isI) (pc' := 4) rfl rfl rfl rfl rfl ?_
  refine zw_ld (n := 1) (k := 2) (f := zp_isI) (pc' := 5) rfl rfl rfl rfl rfl ?_
  refine zw_ct (pc' := 8) (c' := (2, 12)) (zw_cv (q := 0) (Y := zm_158) W.1 rfl rfl zm_158_t rfl rfl) (zw_pb_ok rfl) rfl rfl rfl rfl (q1) ?_
  refine zw_ls (q := 104) (pc' := 9) W1 rfl rfl (⟨by decide, by decide⟩) rfl ?_
  refine zw_s (pc' := 16) rfl rfl ?_
  refine zw_s (pc' := 17) rfl rfl ?_
  refine zw_rig rfl rfl ⟨by decide, by decide⟩ ?_
  rfl

theorem yc_hd3_1 {L : Nat} {σ : Nat → Int32} {d : Nat} {H : zp_H} {x1 : Int32} (hB : zk_Bs (zB_c 3) zg zJc H) (h1 : 0 ≤ x1.toInt ∧ x1.toInt < (H.2.1 33 0).toInt) (hm : 0 ≤ (H.2.1 36 x1.toInt.toNat).toInt ∧ (H.2.1 36 x1.toInt.toNat).toInt ≤ 8) (hw : ∀ j, j < (H.2.1 36 x1.toInt.toNat).toInt.toNat → 0 ≤ (H.2.1 38 (8 * x1.toInt.toNat + j)).toInt ∧ (H.2.1 38 (8 * x1.toInt.toNat + j)).toInt ≤ 3) : ∃ X, zp_Call L σ (d + 4) 158 [.inr (.inr (some 1)), .inl x1, .inl (Int32.ofInt 1)] H X ∧ ∃ H1, X = (.inl (some (.inr (.inl (xHa (xPc H 22 33 x1.toInt.toNat (H.2.1 36 x1.toInt.toNat).toInt.toNat) (H.2.1 36 x1.toInt.toNat).toInt.toNat (H.2.1 22 7).toInt.toNat (H.2.1 22 7).toInt.toNat (Int32.ofInt 0) xT40).2.2.1.toInt64))), H1) ∧ xFv 70 H H1 := by
  have W := zB_Wd (zB_dn (zB_Bc hB))
  have g5 : H.2.2.2 0 5 = some 23 := hB.2.1 0 5 _ rfl
  have g6 : H.2.2.2 0 6 = some 34 := hB.2.1 0 6 _ rfl
  have g7 : H.2.2.2 0 7 = some 3 := hB.2.1 0 7 _ rfl
  have g8 : H.2.2.2 0 8 = some 14 := hB.2.1 0 8 _ rfl
  have r33_0 := zB_fr1 (zB_dn (zB_Bc hB)) (p := 33) (k := 0) (r := (0, 8)) rfl
  have r33_0 : 0 ≤ (H.2.1 33 0).toInt ∧ (H.2.1 33 0).toInt ≤ 8 := r33_0
  have r22_7 := zB_fr1 (zB_dn (zB_Bc hB)) (p := 22) (k := 7) (r := (0, 5)) rfl
  have r22_7 : 0 ≤ (H.2.1 22 7).toInt ∧ (H.2.1 22 7).toInt ≤ 5 := r22_7
  obtain ⟨_, q1, H1, rfl, W1, q2, r3, r0, r1, r2⟩ := yc_hk22 (L := L) (σ := σ) (d := d) (s := x1) W ⟨h1.1, by omega⟩ hm hw r22_7
  refine zw_met zm_158_t rfl rfl ?_
  refine zw_ld (n := 1) (k := 0) (f := zp_isR) (pc' := 1) rfl rfl rfl rfl rfl ?_
  refine zw_ld (n := 1) (k := 1) (f := zp_isI) (pc' := 2) rfl rfl rfl rfl rfl ?_
  refine zw_ctn (pc' := 5) (c' := (1, 6)) (zw_cv (q := 0) (Y := zm_108) W.1 rfl rfl zm_108_t rfl rfl) (zw_pb_ok rfl) rfl rfl rfl rfl (yc_ns1_3 hB h1) ?_
  refine zw_ld (n := 1) (k := 2) (f := zp_isI) (pc' := 6) rfl rfl rfl rfl rfl ?_
  refine zw_s (pc' := 7) rfl rfl ?_
  refine zw_ctn (pc' := 10) (c' := (2, 12)) (zw_cs (Y := zm_104) rfl rfl zm_104_t) (zw_pb_ok rfl) rfl rfl rfl rfl (yc_nw1 ⟨by decide, by decide⟩) ?_
  refine zw_ld (n := 1) (k := 0) (f := zp_isR) (pc' := 11) rfl rfl rfl rfl rfl ?_
  refine zw_gR (q := 0) (pc' := 14) W rfl rfl rfl rfl (W.2 0 16 _ rfl) rfl ?_
  refine zw_ld (n := 1) (k := 0) (f := zp_isR) (pc' := 15) rfl rfl rfl rfl rfl ?_
  refine zw_gR (q := 0) (pc' := 18) W rfl rfl rfl rfl g5 rfl ?_
  refine zw_ld (n := 1) (k := 0) (f := zp_isR) (pc' := 19) rfl rfl rfl rfl rfl ?_
  refine zw_gR (q := 0) (pc' := 22) W rfl rfl rfl rfl g6 rfl ?_
  refine zw_ld (n := 1) (k := 1) (f := zp_isI) (pc' := 23) rfl rfl rfl rfl rfl ?_
  refine zw_cn (pc' := 26) (zw_cv (q := 70) (Y := zm_159) W.1 rfl rfl zm_159_t rfl rfl) rfl rfl rfl rfl rfl (q1) ?_
  refine zw_ld (n := 1) (k := 2) (f := zp_isI) (pc' := 27) rfl rfl rfl rfl rfl ?_
  refine zw_s (pc' := 61) rfl rfl ?_
  refine zw_ld (n := 1) (k := 0) (f := zp_isR) (pc' := 62) rfl rfl rfl rfl rfl ?_
  refine zw_gR (q := 0) (pc' := 65) W1 rfl rfl rfl rfl (W1.2 0 16 _ rfl) rfl ?_
  refine zw_gI (q := 70) (pc' := 68) W1 rfl rfl rfl rfl rfl rfl ?_
  refine zw_s (pc' := 69) rfl rfl ?_
  refine zw_rlg rfl rfl ⟨by decide, by decide⟩ ?_
  exact ⟨H1, x_rvl (congrArg Int32.toInt64 r1), q2⟩

theorem yl_hd3_1 {L : Nat} {σ : Nat → Int32} {d : Nat} {H : zp_H} {x1 : Int32} (hB : zk_Bs (zB_c 3) zg zJc H) (h1 : 0 ≤ x1.toInt ∧ x1.toInt < (H.2.1 33 0).toInt) (hm : 0 ≤ (H.2.1 36 x1.toInt.toNat).toInt ∧ (H.2.1 36 x1.toInt.toNat).toInt ≤ 8) (hw : ∀ j, j < (H.2.1 36 x1.toInt.toNat).toInt.toNat → 0 ≤ (H.2.1 38 (8 * x1.toInt.toNat + j)).toInt ∧ (H.2.1 38 (8 * x1.toInt.toNat + j)).toInt ≤ 3) : ∃ H1, zp_Call L σ (d + 5) 157 [.inr (.inr (some 1)), .inl x1, .inl (Int32.ofInt 1), .inr (.inr (some 105))] H (.inl (some (.inl (Int32.ofInt 0))), zw_J H1 104 0 ((xHa (xPc H 22 33 x1.toInt.toNat (H.2.1 36 x1.toInt.toNat).toInt.toNat) (H.2.1 36 x1.toInt.toNat).toInt.toNat (H.2.1 22 7).toInt.toNat (H.2.1 22 7).toInt.toNat (Int32.ofInt 0) xT40).2.2.1.toInt64)) ∧ xFv 70 H H1 := by
  obtain ⟨_, q1, H1, rfl, q2⟩ := yc_hd3_1 (L := L) (σ := σ) (d := d) hB h1 hm hw
  have W := zB_Wd (zB_dn (zB_Bc hB))
  have W1 := xFv_W q2 W
  refine ⟨H1, zw_ex (zw_met zm_157_t rfl rfl ?_), q2⟩
  refine zw_ld (n := 1) (k := 3) (f := zp_isR) (pc' := 1) rfl rfl rfl rfl rfl ?_
  refine zw_s (pc' := 2) rfl rfl ?_
  refine zw_ld (n := 1) (k := 0) (f := zp_isR) (pc' := 3) rfl rfl rfl rfl rfl ?_
  refine zw_ld (n := 1) (k := 1) (f := zp_isI) (pc' := 4) rfl rfl rfl rfl rfl ?_
  refine zw_ld (n := 1) (k := 2) (f := zp_isI) (pc' := 5) rfl rfl rfl rfl rfl ?_
  refine zw_ct (pc' := 8) (c' := (2, 12)) (zw_cv (q := 0) (Y := zm_158) W.1 rfl rfl zm_158_t rfl rfl) (zw_pb_ok rfl) rfl rfl rfl rfl (q1) ?_
  refine zw_ls (q := 104) (pc' := 9) W1 rfl rfl (⟨by decide, by decide⟩) rfl ?_
  refine zw_s (pc' := 16) rfl rfl ?_
  refine zw_s (pc' := 17) rfl rfl ?_
  refine zw_rig rfl rfl ⟨by decide, by decide⟩ ?_
  rfl

theorem yc_hd3_2 {L : Nat} {σ : Nat → Int32} {d : Nat} {H : zp_H} {x1 : Int32} (hB : zk_Bs (zB_c 3) zg zJc H) (h1 : 0 ≤ x1.toInt ∧ x1.toInt < (H.2.1 33 0).toInt) (hm : 0 ≤ (H.2.1 36 x1.toInt.toNat).toInt ∧ (H.2.1 36 x1.toInt.toNat).toInt ≤ 8) (hw : ∀ j, j < (H.2.1 36 x1.toInt.toNat).toInt.toNat → 0 ≤ (H.2.1 38 (8 * x1.toInt.toNat + j)).toInt ∧ (H.2.1 38 (8 * x1.toInt.toNat + j)).toInt ≤ 3) : ∃ X, zp_Call L σ (d + 4) 158 [.inr (.inr (some 1)), .inl x1, .inl (Int32.ofInt 2)] H X ∧ ∃ H1, X = (.inl (some (.inr (.inl (xHa (xPc H 22 33 x1.toInt.toNat (H.2.1 36 x1.toInt.toNat).toInt.toNat) (H.2.1 36 x1.toInt.toNat).toInt.toNat (H.2.1 22 7).toInt.toNat (H.2.1 22 7).toInt.toNat (Int32.ofInt 0) xT40).2.2.2.toInt64))), H1) ∧ xFv 70 H H1 := by
  have W := zB_Wd (zB_dn (zB_Bc hB))
  have g5 : H.2.2.2 0 5 = some 23 := hB.2.1 0 5 _ rfl
  have g6 : H.2.2.2 0 6 = some 34 := hB.2.1 0 6 _ rfl
  have g7 : H.2.2.2 0 7 = some 3 := hB.2.1 0 7 _ rfl
  have g8 : H.2.2.2 0 8 = some 14 := hB.2.1 0 8 _ rfl
  have r33_0 := zB_fr1 (zB_dn (zB_Bc hB)) (p := 33) (k := 0) (r := (0, 8)) rfl
  have r33_0 : 0 ≤ (H.2.1 33 0).toInt ∧ (H.2.1 33 0).toInt ≤ 8 := r33_0
  have r22_7 := zB_fr1 (zB_dn (zB_Bc hB)) (p := 22) (k := 7) (r := (0, 5)) rfl
  have r22_7 : 0 ≤ (H.2.1 22 7).toInt ∧ (H.2.1 22 7).toInt ≤ 5 := r22_7
  obtain ⟨_, q1, H1, rfl, W1, q2, r3, r0, r1, r2⟩ := yc_hk22 (L := L) (σ := σ) (d := d) (s := x1) W ⟨h1.1, by omega⟩ hm hw r22_7
  refine zw_met zm_158_t rfl rfl ?_
  refine zw_ld (n := 1) (k := 0) (f := zp_isR) (pc' := 1) rfl rfl rfl rfl rfl ?_
  refine zw_ld (n := 1) (k := 1) (f := zp_isI) (pc' := 2) rfl rfl rfl rfl rfl ?_
  refine zw_ctn (pc' := 5) (c' := (1, 6)) (zw_cv (q := 0) (Y := zm_108) W.1 rfl rfl zm_108_t rfl rfl) (zw_pb_ok rfl) rfl rfl rfl rfl (yc_ns1_3 hB h1) ?_
  refine zw_ld (n := 1) (k := 2) (f := zp_isI) (pc' := 6) rfl rfl rfl rfl rfl ?_
  refine zw_s (pc' := 7) rfl rfl ?_
  refine zw_ctn (pc' := 10) (c' := (2, 12)) (zw_cs (Y := zm_104) rfl rfl zm_104_t) (zw_pb_ok rfl) rfl rfl rfl rfl (yc_nw1 ⟨by decide, by decide⟩) ?_
  refine zw_ld (n := 1) (k := 0) (f := zp_isR) (pc' := 11) rfl rfl rfl rfl rfl ?_
  refine zw_gR (q := 0) (pc' := 14) W rfl rfl rfl rfl (W.2 0 16 _ rfl) rfl ?_
  refine zw_ld (n := 1) (k := 0) (f := zp_isR) (pc' := 15) rfl rfl rfl rfl rfl ?_
  refine zw_gR (q := 0) (pc' := 18) W rfl rfl rfl rfl g5 rfl ?_
  refine zw_ld (n := 1) (k := 0) (f := zp_isR) (pc' := 19) rfl rfl rfl rfl rfl ?_
  refine zw_gR (q := 0) (pc' := 22) W rfl rfl rfl rfl g6 rfl ?_
  refine zw_ld (n := 1) (k := 1) (f := zp_isI) (pc' := 23) rfl rfl rfl rfl rfl ?_
  refine zw_cn (pc' := 26) (zw_cv (q := 70) (Y := zm_159) W.1 rfl rfl zm_159_t rfl rfl) rfl rfl rfl rfl rfl (q1) ?_
  refine zw_ld (n := 1) (k := 2) (f := zp_isI) (pc' := 27) rfl rfl rfl rfl rfl ?_
  refine zw_s (pc' := 70) rfl rfl ?_
  refine zw_ld (n := 1) (k := 0) (f := zp_isR) (pc' := 71) rfl rfl rfl rfl rfl ?_
  refine zw_gR (q := 0) (pc' := 74) W1 rfl rfl rfl rfl (W1.2 0 16 _ rfl) rfl ?_
  refine zw_gI (q := 70) (pc' := 77) W1 rfl rfl rfl rfl rfl rfl ?_
  refine zw_s (pc' := 78) rfl rfl ?_
  refine zw_rlg rfl rfl ⟨by decide, by decide⟩ ?_
  exact ⟨H1, x_rvl (congrArg Int32.toInt64 r2), q2⟩

theorem yl_hd3_2 {L : Nat} {σ : Nat → Int32} {d : Nat} {H : zp_H} {x1 : Int32} (hB : zk_Bs (zB_c 3) zg zJc H) (h1 : 0 ≤ x1.toInt ∧ x1.toInt < (H.2.1 33 0).toInt) (hm : 0 ≤ (H.2.1 36 x1.toInt.toNat).toInt ∧ (H.2.1 36 x1.toInt.toNat).toInt ≤ 8) (hw : ∀ j, j < (H.2.1 36 x1.toInt.toNat).toInt.toNat → 0 ≤ (H.2.1 38 (8 * x1.toInt.toNat + j)).toInt ∧ (H.2.1 38 (8 * x1.toInt.toNat + j)).toInt ≤ 3) : ∃ H1, zp_Call L σ (d + 5) 157 [.inr (.inr (some 1)), .inl x1, .inl (Int32.ofInt 2), .inr (.inr (some 105))] H (.inl (some (.inl (Int32.ofInt 0))), zw_J H1 104 0 ((xHa (xPc H 22 33 x1.toInt.toNat (H.2.1 36 x1.toInt.toNat).toInt.toNat) (H.2.1 36 x1.toInt.toNat).toInt.toNat (H.2.1 22 7).toInt.toNat (H.2.1 22 7).toInt.toNat (Int32.ofInt 0) xT40).2.2.2.toInt64)) ∧ xFv 70 H H1 := by
  obtain ⟨_, q1, H1, rfl, q2⟩ := yc_hd3_2 (L := L) (σ := σ) (d := d) hB h1 hm hw
  have W := zB_Wd (zB_dn (zB_Bc hB))
  have W1 := xFv_W q2 W
  refine ⟨H1, zw_ex (zw_met zm_157_t rfl rfl ?_), q2⟩
  refine zw_ld (n := 1) (k := 3) (f := zp_isR) (pc' := 1) rfl rfl rfl rfl rfl ?_
  refine zw_s (pc' := 2) rfl rfl ?_
  refine zw_ld (n := 1) (k := 0) (f := zp_isR) (pc' := 3) rfl rfl rfl rfl rfl ?_
  refine zw_ld (n := 1) (k := 1) (f := zp_isI) (pc' := 4) rfl rfl rfl rfl rfl ?_
  refine zw_ld (n := 1) (k := 2) (f := zp_isI) (pc' := 5) rfl rfl rfl rfl rfl ?_
  refine zw_ct (pc' := 8) (c' := (2, 12)) (zw_cv (q := 0) (Y := zm_158) W.1 rfl rfl zm_158_t rfl rfl) (zw_pb_ok rfl) rfl rfl rfl rfl (q1) ?_
  refine zw_ls (q := 104) (pc' := 9) W1 rfl rfl (⟨by decide, by decide⟩) rfl ?_
  refine zw_s (pc' := 16) rfl rfl ?_
  refine zw_s (pc' := 17) rfl rfl ?_
  refine zw_rig rfl rfl ⟨by decide, by decide⟩ ?_
  rfl

theorem yc_hd3_3 {L : Nat} {σ : Nat → Int32} {d : Nat} {H : zp_H} {x1 : Int32} (hB : zk_Bs (zB_c 3) zg zJc H) (h1 : 0 ≤ x1.toInt ∧ x1.toInt < (H.2.1 33 0).toInt) (hm : 0 ≤ (H.2.1 36 x1.toInt.toNat).toInt ∧ (H.2.1 36 x1.toInt.toNat).toInt ≤ 8) (hw : ∀ j, j < (H.2.1 36 x1.toInt.toNat).toInt.toNat → 0 ≤ (H.2.1 38 (8 * x1.toInt.toNat + j)).toInt ∧ (H.2.1 38 (8 * x1.toInt.toNat + j)).toInt ≤ 3) : ∃ X, zp_Call L σ (d + 4) 158 [.inr (.inr (some 1)), .inl x1, .inl (Int32.ofInt 3)] H X ∧ ∃ H1, X = (.inl (some (.inr (.inl (xHa (xPc H 22 33 x1.toInt.toNat (H.2.1 36 x1.toInt.toNat).toInt.toNat) (H.2.1 36 x1.toInt.toNat).toInt.toNat (H.2.1 22 7).toInt.toNat (H.2.1 22 7).toInt.toNat (Int32.ofInt 0) xT40).1))), H1) ∧ xFv 70 H H1 := by
  have W := zB_Wd (zB_dn (zB_Bc hB))
  have g5 : H.2.2.2 0 5 = some 23 := hB.2.1 0 5 _ rfl
  have g6 : H.2.2.2 0 6 = some 34 := hB.2.1 0 6 _ rfl
  have g7 : H.2.2.2 0 7 = some 3 := hB.2.1 0 7 _ rfl
  have g8 : H.2.2.2 0 8 = some 14 := hB.2.1 0 8 _ rfl
  have r33_0 := zB_fr1 (zB_dn (zB_Bc hB)) (p := 33) (k := 0) (r := (0, 8)) rfl
  have r33_0 : 0 ≤ (H.2.1 33 0).toInt ∧ (H.2.1 33 0).toInt ≤ 8 := r33_0
  have r22_7 := zB_fr1 (zB_dn (zB_Bc hB)) (p := 22) (k := 7) (r := (0, 5)) rfl
  have r22_7 : 0 ≤ (H.2.1 22 7).toInt ∧ (H.2.1 22 7).toInt ≤ 5 := r22_7
  obtain ⟨_, q1, H1, rfl, W1, q2, r3, r0, r1, r2⟩ := yc_hk22 (L := L) (σ := σ) (d := d) (s := x1) W ⟨h1.1, by omega⟩ hm hw r22_7
  refine zw_met zm_158_t rfl rfl ?_
  refine zw_ld (n := 1) (k := 0) (f := zp_isR) (pc' := 1) rfl rfl rfl rfl rfl ?_
  refine zw_ld (n := 1) (k := 1) (f := zp_isI) (pc' := 2) rfl rfl rfl rfl rfl ?_
  refine zw_ctn (pc' := 5) (c' := (1, 6)) (zw_cv (q := 0) (Y := zm_108) W.1 rfl rfl zm_108_t rfl rfl) (zw_pb_ok rfl) rfl rfl rfl rfl (yc_ns1_3 hB h1) ?_
  refine zw_ld (n := 1) (k := 2) (f := zp_isI) (pc' := 6) rfl rfl rfl rfl rfl ?_
  refine zw_s (pc' := 7) rfl rfl ?_
  refine zw_ctn (pc' := 10) (c' := (2, 12)) (zw_cs (Y := zm_104) rfl rfl zm_104_t) (zw_pb_ok rfl) rfl rfl rfl rfl (yc_nw1 ⟨by decide, by decide⟩) ?_
  refine zw_ld (n := 1) (k := 0) (f := zp_isR) (pc' := 11) rfl rfl rfl rfl rfl ?_
  refine zw_gR (q := 0) (pc' := 14) W rfl rfl rfl rfl (W.2 0 16 _ rfl) rfl ?_
  refine zw_ld (n := 1) (k := 0) (f := zp_isR) (pc' := 15) rfl rfl rfl rfl rfl ?_
  refine zw_gR (q := 0) (pc' := 18) W rfl rfl rfl rfl g5 rfl ?_
  refine zw_ld (n := 1) (k := 0) (f := zp_isR) (pc' := 19) rfl rfl rfl rfl rfl ?_
  refine zw_gR (q := 0) (pc' := 22) W rfl rfl rfl rfl g6 rfl ?_
  refine zw_ld (n := 1) (k := 1) (f := zp_isI) (pc' := 23) rfl rfl rfl rfl rfl ?_
  refine zw_cn (pc' := 26) (zw_cv (q := 70) (Y := zm_159) W.1 rfl rfl zm_159_t rfl rfl) rfl rfl rfl rfl rfl (q1) ?_
  refine zw_ld (n := 1) (k := 2) (f := zp_isI) (pc' := 27) rfl rfl rfl rfl rfl ?_
  refine zw_s (pc' := 79) rfl rfl ?_
  refine zw_ld (n := 1) (k := 0) (f := zp_isR) (pc' := 80) rfl rfl rfl rfl rfl ?_
  refine zw_gR (q := 0) (pc' := 83) W1 rfl rfl rfl rfl (W1.2 0 16 _ rfl) rfl ?_
  refine zw_gL (q := 70) (pc' := 86) W1 rfl rfl rfl rfl rfl ?_
  refine zw_rlg rfl rfl ⟨by decide, by decide⟩ ?_
  exact ⟨H1, x_rvl r3, q2⟩

theorem yl_hd3_3 {L : Nat} {σ : Nat → Int32} {d : Nat} {H : zp_H} {x1 : Int32} (hB : zk_Bs (zB_c 3) zg zJc H) (h1 : 0 ≤ x1.toInt ∧ x1.toInt < (H.2.1 33 0).toInt) (hm : 0 ≤ (H.2.1 36 x1.toInt.toNat).toInt ∧ (H.2.1 36 x1.toInt.toNat).toInt ≤ 8) (hw : ∀ j, j < (H.2.1 36 x1.toInt.toNat).toInt.toNat → 0 ≤ (H.2.1 38 (8 * x1.toInt.toNat + j)).toInt ∧ (H.2.1 38 (8 * x1.toInt.toNat + j)).toInt ≤ 3) : ∃ H1, zp_Call L σ (d + 5) 157 [.inr (.inr (some 1)), .inl x1, .inl (Int32.ofInt 3), .inr (.inr (some 105))] H (.inl (some (.inl (Int32.ofInt 0))), zw_J H1 104 0 ((xHa (xPc H 22 33 x1.toInt.toNat (H.2.1 36 x1.toInt.toNat).toInt.toNat) (H.2.1 36 x1.toInt.toNat).toInt.toNat (H.2.1 22 7).toInt.toNat (H.2.1 22 7).toInt.toNat (Int32.ofInt 0) xT40).1)) ∧ xFv 70 H H1 := by
  obtain ⟨_, q1, H1, rfl, q2⟩ := yc_hd3_3 (L := L) (σ := σ) (d := d) hB h1 hm hw
  have W := zB_Wd (zB_dn (zB_Bc hB))
  have W1 := xFv_W q2 W
  refine ⟨H1, zw_ex (zw_met zm_157_t rfl rfl ?_), q2⟩
  refine zw_ld (n := 1) (k := 3) (f := zp_isR) (pc' := 1) rfl rfl rfl rfl rfl ?_
  refine zw_s (pc' := 2) rfl rfl ?_
  refine zw_ld (n := 1) (k := 0) (f := zp_isR) (pc' := 3) rfl rfl rfl rfl rfl ?_
  refine zw_ld (n := 1) (k := 1) (f := zp_isI) (pc' := 4) rfl rfl rfl rfl rfl ?_
  refine zw_ld (n := 1) (k := 2) (f := zp_isI) (pc' := 5) rfl rfl rfl rfl rfl ?_
  refine zw_ct (pc' := 8) (c' := (2, 12)) (zw_cv (q := 0) (Y := zm_158) W.1 rfl rfl zm_158_t rfl rfl) (zw_pb_ok rfl) rfl rfl rfl rfl (q1) ?_
  refine zw_ls (q := 104) (pc' := 9) W1 rfl rfl (⟨by decide, by decide⟩) rfl ?_
  refine zw_s (pc' := 16) rfl rfl ?_
  refine zw_s (pc' := 17) rfl rfl ?_
  refine zw_rig rfl rfl ⟨by decide, by decide⟩ ?_
  rfl

theorem yc_hdn3 {L : Nat} {σ : Nat → Int32} {d : Nat} {H : zp_H} {x1 x2 : Int32} (hB : zk_Bs (zB_c 3) zg zJc H) (h : ¬ ((0 ≤ x1.toInt ∧ x1.toInt < (H.2.1 33 0).toInt) ∧ 0 ≤ x2.toInt ∧ x2.toInt ≤ (Int32.ofInt 3).toInt)) : zp_Call L σ (d + 2) 158 [.inr (.inr (some 1)), .inl x1, .inl x2] H (.inr 0, H) := by
  have W := zB_Wd (zB_dn (zB_Bc hB))
  have g5 : H.2.2.2 0 5 = some 23 := hB.2.1 0 5 _ rfl
  have g6 : H.2.2.2 0 6 = some 34 := hB.2.1 0 6 _ rfl
  have g7 : H.2.2.2 0 7 = some 3 := hB.2.1 0 7 _ rfl
  have g8 : H.2.2.2 0 8 = some 14 := hB.2.1 0 8 _ rfl
  refine zw_ex (zw_met zm_158_t rfl rfl ?_)
  refine zw_ld (n := 1) (k := 0) (f := zp_isR) (pc' := 1) rfl rfl rfl rfl rfl ?_
  refine zw_ld (n := 1) (k := 1) (f := zp_isI) (pc' := 2) rfl rfl rfl rfl rfl ?_
  by_cases h1 : 0 ≤ x1.toInt ∧ x1.toInt < (H.2.1 33 0).toInt
  · refine zw_ctn (pc' := 5) (c' := (1, 6)) (zw_cv (q := 0) (Y := zm_108) W.1 rfl rfl zm_108_t rfl rfl) (zw_pb_ok rfl) rfl rfl rfl rfl (yc_ns1_3 hB h1) ?_
    refine zw_ld (n := 1) (k := 2) (f := zp_isI) (pc' := 6) rfl rfl rfl rfl rfl ?_
    refine zw_s (pc' := 7) rfl rfl ?_
    refine zw_cthr (ex := 0) (zw_cs (Y := zm_104) rfl rfl zm_104_t) (zw_pb_ok rfl) rfl rfl (yc_nw0 (fun h9 => h ⟨h1, h9⟩)) ?_
    rfl
  · refine zw_cthr (ex := 0) (zw_cv (q := 0) (Y := zm_108) W.1 rfl rfl zm_108_t rfl rfl) (zw_pb_ok rfl) rfl rfl (yc_ns0_3 hB h1) ?_
    rfl

theorem yl_hdn3 {L : Nat} {σ : Nat → Int32} {d : Nat} {H : zp_H} {x1 x2 : Int32} (hB : zk_Bs (zB_c 3) zg zJc H) (h : ¬ ((0 ≤ x1.toInt ∧ x1.toInt < (H.2.1 33 0).toInt) ∧ 0 ≤ x2.toInt ∧ x2.toInt ≤ (Int32.ofInt 3).toInt)) : zp_Call L σ (d + 3) 157 [.inr (.inr (some 1)), .inl x1, .inl x2, .inr (.inr (some 105))] H (.inl (some (.inl (Int32.ofInt 1))), H) := by
  have W := zB_Wd (zB_dn (zB_Bc hB))
  refine zw_ex (zw_met zm_157_t rfl rfl ?_)
  refine zw_ld (n := 1) (k := 3) (f := zp_isR) (pc' := 1) rfl rfl rfl rfl rfl ?_
  refine zw_s (pc' := 2) rfl rfl ?_
  refine zw_ld (n := 1) (k := 0) (f := zp_isR) (pc' := 3) rfl rfl rfl rfl rfl ?_
  refine zw_ld (n := 1) (k := 1) (f := zp_isI) (pc' := 4) rfl rfl rfl rfl rfl ?_
  refine zw_ld (n := 1) (k := 2) (f := zp_isI) (pc' := 5) rfl rfl rfl rfl rfl ?_
  refine zw_cexw (ex := 0) (hp9 := 12) (k9 := 4) (pc' := 14) (c' := (2, 12)) (zw_cv (q := 0) (Y := zm_158) W.1 rfl rfl zm_158_t rfl rfl) (zw_pb_ok rfl) rfl rfl rfl rfl rfl rfl rfl (yc_hdn3 hB h) ?_
  refine zw_s (pc' := 15) rfl rfl ?_
  refine zw_rig rfl rfl ⟨by decide, by decide⟩ ?_
  rfl

theorem yr_prL {L : Nat} {σ : Nat → Int32} {d : Nat} {P : zp_X → Prop} {H : zp_H} {s a b k : Int32} (W : zw_W H) (hs : 0 ≤ s.toInt ∧ s.toInt < 8) (ha : 0 ≤ a.toInt ∧ a.toInt < 5) (hb : 0 ≤ b.toInt ∧ b.toInt < 5) (hm : 0 ≤ (H.2.1 74 (4 * s.toInt.toNat + 2)).toInt ∧ (H.2.1 74 (4 * s.toInt.toNat + 2)).toInt ≤ 8) (hw : ∀ j, j < (H.2.1 74 (4 * s.toInt.toNat + 2)).toInt.toNat → 0 ≤ (H.2.1 75 (16 * s.toInt.toNat + 2 * j)).toInt ∧ (H.2.1 75 (16 * s.toInt.toNat + 2 * j)).toInt ≤ 3) : ∀ (n : Nat) (lv : zp_LV) (i : Int32) (v : Int64), 0 ≤ i.toInt → i.toInt + n = (H.2.1 74 (4 * s.toInt.toNat + 2)).toInt → zp_get lv 0 = some (.inr (.inr (some 73))) → zp_get lv 1 = some (.inl s) → zp_get lv 2 = some (.inl a) → zp_get lv 3 = some (.inl b) → zp_get lv 4 = some (.inl k) → zp_get lv 5 = some (.inr (.inl v)) → zp_get lv 7 = some (.inl i) → P (.inl (some (.inr (.inl (xPr (fun h w => H.2.1 76 (4 * h + w)) (fun j => H.2.1 75 (16 * s.toInt.toNat + 2 * j)) a b k n i v)))), H) → zs_Safe L σ P zm_246 [] (d + 1) (6, lv, [], H, (0, 0)) := by
  intro n
  induction n with
  | zero =>
    intro lv i v h5 hn l0 l1 l2 l3 l4 l5 l7 hP
    refine zw_ld (n := 2) (k := 7) (f := zp_isI) (pc' := 8) rfl rfl l7 rfl rfl ?_
    refine zw_ld (n := 1) (k := 0) (f := zp_isR) (pc' := 9) rfl rfl l0 rfl rfl ?_
    refine zw_ld (n := 1) (k := 1) (f := zp_isI) (pc' := 10) rfl rfl l1 rfl rfl ?_
    refine zw_c (pc' := 13) (zw_cv (q := 72) (Y := zm_212) W.1 rfl rfl zm_212_t rfl rfl) rfl rfl rfl rfl rfl (zq_marks W ⟨hs.1, by omega⟩) ?_
    refine zw_bge2 (g := 62) (pc' := 16) rfl rfl rfl rfl rfl (fun h1 => ?_) (fun h1 => ?_)
    · refine zw_ld (n := 2) (k := 5) (f := zp_isL) (pc' := 64) rfl rfl l5 rfl rfl ?_
      refine zw_rl rfl rfl ?_
      exact hP
    · omega
  | succ n ih =>
    intro lv i v h5 hn l0 l1 l2 l3 l4 l5 l7 hP
    refine zw_ld (n := 2) (k := 7) (f := zp_isI) (pc' := 8) rfl rfl l7 rfl rfl ?_
    refine zw_ld (n := 1) (k := 0) (f := zp_isR) (pc' := 9) rfl rfl l0 rfl rfl ?_
    refine zw_ld (n := 1) (k := 1) (f := zp_isI) (pc' := 10) rfl rfl l1 rfl rfl ?_
    refine zw_c (pc' := 13) (zw_cv (q := 72) (Y := zm_212) W.1 rfl rfl zm_212_t rfl rfl) rfl rfl rfl rfl rfl (zq_marks W ⟨hs.1, by omega⟩) ?_
    refine zw_bge2 (g := 62) (pc' := 16) rfl rfl rfl rfl rfl (fun h1 => ?_) (fun h1 => ?_)
    · omega
    · have hi8 := hw i.toInt.toNat (by omega)
      have ei : (i + Int32.ofInt 1).toInt = i.toInt + 1 := zw_p1 (by omega)
      have u1 : (Int32.ofInt 16 * s).toInt = 16 * s.toInt := zt_mul (by decide) (by omega)
      have u2 : (Int32.ofInt 2 * i).toInt = 2 * i.toInt := zt_mul (by decide) (by omega)
      have u3 : (Int32.ofInt 16 * s + Int32.ofInt 2 * i).toInt = 16 * s.toInt + 2 * i.toInt := by rw [zq_add (by rw [u1, u2]; omega) (by rw [u1, u2]; omega), u1, u2]
      have u4 : (Int32.ofInt 16 * s + Int32.ofInt 2 * i).toInt.toNat = 16 * s.toInt.toNat + 2 * i.toInt.toNat := by omega
      refine zw_ld (n := 2) (k := 5) (f := zp_isL) (pc' := 18) rfl rfl l5 rfl rfl ?_
      refine zw_ld (n := 1) (k := 0) (f := zp_isR) (pc' := 19) rfl rfl l0 rfl rfl ?_
      refine zw_gR (q := 72) (pc' := 22) W rfl rfl rfl rfl (W.2 72 16 _ rfl) rfl ?_
      refine zw_s (pc' := 23) rfl rfl ?_
      refine zw_ld (n := 2) (k := 7) (f := zp_isI) (pc' := 25) rfl rfl l7 rfl rfl ?_
      refine zw_ld (n := 2) (k := 4) (f := zp_isI) (pc' := 27) rfl rfl l4 rfl rfl ?_
      refine zw_bge2 (g := 34) (pc' := 30) rfl rfl rfl rfl rfl (fun h2 => ?_) (fun h2 => ?_)
      · have v1 : (Int32.ofInt 4 * b).toInt = 4 * b.toInt := zt_mul (by decide) (by omega)
        have v3 : (Int32.ofInt 4 * b + (H.2.1 75 (16 * s.toInt.toNat + 2 * i.toInt.toNat))).toInt = 4 * b.toInt + (H.2.1 75 (16 * s.toInt.toNat + 2 * i.toInt.toNat)).toInt := by rw [zq_add (by rw [v1]; omega) (by rw [v1]; omega), v1]
        have v4 : (Int32.ofInt 4 * b + (H.2.1 75 (16 * s.toInt.toNat + 2 * i.toInt.toNat))).toInt.toNat = 4 * b.toInt.toNat + (H.2.1 75 (16 * s.toInt.toNat + 2 * i.toInt.toNat)).toInt.toNat := by omega
        refine zw_ld (n := 1) (k := 3) (f := zp_isI) (pc' := 35) rfl rfl l3 rfl rfl ?_
        refine zw_imul (pc' := 36) rfl rfl ?_
        refine zw_ld (n := 1) (k := 0) (f := zp_isR) (pc' := 37) rfl rfl l0 rfl rfl ?_
        refine zw_gR (q := 72) (pc' := 40) W rfl rfl rfl rfl (W.2 72 15 _ rfl) rfl ?_
        refine zw_s (pc' := 42) rfl rfl ?_
        refine zw_ld (n := 1) (k := 1) (f := zp_isI) (pc' := 43) rfl rfl l1 rfl rfl ?_
        refine zw_imul (pc' := 44) rfl rfl ?_
        refine zw_s (pc' := 45) rfl rfl ?_
        refine zw_ld (n := 2) (k := 7) (f := zp_isI) (pc' := 47) rfl rfl l7 rfl rfl ?_
        refine zw_imul (pc' := 48) rfl rfl ?_
        refine zw_iadd (pc' := 49) rfl rfl ?_
        refine zw_ia (q := 75) (pc' := 50) W rfl rfl (by decide) (⟨by omega, by show _ < ((128 : Nat) : Int); omega⟩) rfl rfl ?_
        rw [u4]
        refine zw_iadd (pc' := 51) rfl rfl ?_
        refine zw_ia (q := 76) (pc' := 52) W rfl rfl (by decide) (⟨by omega, by show _ < ((20 : Nat) : Int); omega⟩) rfl rfl ?_
        rw [v4]
        refine zw_s (pc' := 53) rfl rfl ?_
        refine zw_lmul (pc' := 54) rfl rfl ?_
        refine zw_sl (n := 2) (k := 5) (pc' := 56) rfl rfl rfl rfl ?_
        refine zw_ii (pc' := 59) rfl (zw_gt2 l7 rfl rfl) rfl rfl ?_
        refine zw_s (pc' := 6) rfl rfl ?_
        exact ih _ (i + Int32.ofInt 1) _ (by omega) (by omega) (zw_gt (zw_gt2 l0 rfl rfl) rfl rfl) (zw_gt (zw_gt2 l1 rfl rfl) rfl rfl) (zw_gt (zw_gt2 l2 rfl rfl) rfl rfl) (zw_gt (zw_gt2 l3 rfl rfl) rfl rfl) (zw_gt (zw_gt2 l4 rfl rfl) rfl rfl) (zw_gt zw_g2 rfl rfl) zw_g1 (by rw [xPr_1 (if_pos h2 : xPw k i a b = b)] at hP; exact hP)
      · have v1 : (Int32.ofInt 4 * a).toInt = 4 * a.toInt := zt_mul (by decide) (by omega)
        have v3 : (Int32.ofInt 4 * a + (H.2.1 75 (16 * s.toInt.toNat + 2 * i.toInt.toNat))).toInt = 4 * a.toInt + (H.2.1 75 (16 * s.toInt.toNat + 2 * i.toInt.toNat)).toInt := by rw [zq_add (by rw [v1]; omega) (by rw [v1]; omega), v1]
        have v4 : (Int32.ofInt 4 * a + (H.2.1 75 (16 * s.toInt.toNat + 2 * i.toInt.toNat))).toInt.toNat = 4 * a.toInt.toNat + (H.2.1 75 (16 * s.toInt.toNat + 2 * i.toInt.toNat)).toInt.toNat := by omega
        refine zw_ld (n := 1) (k := 2) (f := zp_isI) (pc' := 31) rfl rfl l2 rfl rfl ?_
        refine zw_s (pc' := 35) rfl rfl ?_
        refine zw_imul (pc' := 36) rfl rfl ?_
        refine zw_ld (n := 1) (k := 0) (f := zp_isR) (pc' := 37) rfl rfl l0 rfl rfl ?_
        refine zw_gR (q := 72) (pc' := 40) W rfl rfl rfl rfl (W.2 72 15 _ rfl) rfl ?_
        refine zw_s (pc' := 42) rfl rfl ?_
        refine zw_ld (n := 1) (k := 1) (f := zp_isI) (pc' := 43) rfl rfl l1 rfl rfl ?_
        refine zw_imul (pc' := 44) rfl rfl ?_
        refine zw_s (pc' := 45) rfl rfl ?_
        refine zw_ld (n := 2) (k := 7) (f := zp_isI) (pc' := 47) rfl rfl l7 rfl rfl ?_
        refine zw_imul (pc' := 48) rfl rfl ?_
        refine zw_iadd (pc' := 49) rfl rfl ?_
        refine zw_ia (q := 75) (pc' := 50) W rfl rfl (by decide) (⟨by omega, by show _ < ((128 : Nat) : Int); omega⟩) rfl rfl ?_
        rw [u4]
        refine zw_iadd (pc' := 51) rfl rfl ?_
        refine zw_ia (q := 76) (pc' := 52) W rfl rfl (by decide) (⟨by omega, by show _ < ((20 : Nat) : Int); omega⟩) rfl rfl ?_
        rw [v4]
        refine zw_s (pc' := 53) rfl rfl ?_
        refine zw_lmul (pc' := 54) rfl rfl ?_
        refine zw_sl (n := 2) (k := 5) (pc' := 56) rfl rfl rfl rfl ?_
        refine zw_ii (pc' := 59) rfl (zw_gt2 l7 rfl rfl) rfl rfl ?_
        refine zw_s (pc' := 6) rfl rfl ?_
        exact ih _ (i + Int32.ofInt 1) _ (by omega) (by omega) (zw_gt (zw_gt2 l0 rfl rfl) rfl rfl) (zw_gt (zw_gt2 l1 rfl rfl) rfl rfl) (zw_gt (zw_gt2 l2 rfl rfl) rfl rfl) (zw_gt (zw_gt2 l3 rfl rfl) rfl rfl) (zw_gt (zw_gt2 l4 rfl rfl) rfl rfl) (zw_gt zw_g2 rfl rfl) zw_g1 (by rw [xPr_1 (if_neg (by omega) : xPw k i a b = a)] at hP; exact hP)

theorem yr_pr {L : Nat} {σ : Nat → Int32} {d : Nat} {H : zp_H} {s a b k : Int32} (W : zw_W H) (hs : 0 ≤ s.toInt ∧ s.toInt < 8) (ha : 0 ≤ a.toInt ∧ a.toInt < 5) (hb : 0 ≤ b.toInt ∧ b.toInt < 5) (hm : 0 ≤ (H.2.1 74 (4 * s.toInt.toNat + 2)).toInt ∧ (H.2.1 74 (4 * s.toInt.toNat + 2)).toInt ≤ 8) (hw : ∀ j, j < (H.2.1 74 (4 * s.toInt.toNat + 2)).toInt.toNat → 0 ≤ (H.2.1 75 (16 * s.toInt.toNat + 2 * j)).toInt ∧ (H.2.1 75 (16 * s.toInt.toNat + 2 * j)).toInt ≤ 3) : zp_Call L σ (d + 2) 246 [.inr (.inr (some 73)), .inl s, .inl a, .inl b, .inl k] H (.inl (some (.inr (.inl ((xPm H s.toInt.toNat (H.2.1 74 (4 * s.toInt.toNat + 2)).toInt.toNat) a b k)))), H) := by
  refine zw_ex (zw_met zm_246_t rfl rfl ?_)
  refine zw_s (pc' := 1) rfl rfl ?_
  refine zw_sl (n := 2) (k := 5) (pc' := 3) rfl rfl rfl rfl ?_
  refine zw_s (pc' := 4) rfl rfl ?_
  refine zw_st (n := 2) (k := 7) (f := zp_isI) (pc' := 6) rfl rfl rfl rfl rfl ?_
  exact yr_prL W hs ha hb hm hw (H.2.1 74 (4 * s.toInt.toNat + 2)).toInt.toNat _ (Int32.ofInt 0) (Int64.ofNat 1) (by decide) (by rw [show (Int32.ofInt 0).toInt = 0 by decide]; omega) (zw_gt (zw_gt2 rfl rfl rfl) rfl rfl) (zw_gt (zw_gt2 rfl rfl rfl) rfl rfl) (zw_gt (zw_gt2 rfl rfl rfl) rfl rfl) (zw_gt (zw_gt2 rfl rfl rfl) rfl rfl) (zw_gt (zw_gt2 rfl rfl rfl) rfl rfl) (zw_gt zw_g2 rfl rfl) zw_g1 rfl

theorem yr_hkK {L : Nat} {σ : Nat → Int32} {d : Nat} {P : zp_X → Prop} {H : zp_H} {s a b wt : Int32} (W : zw_W H) (hs : 0 ≤ s.toInt ∧ s.toInt < 8) (ha : 0 ≤ a.toInt ∧ a.toInt < 5) (hb : 0 ≤ b.toInt ∧ b.toInt < 5) (hm : 0 ≤ (H.2.1 74 (4 * s.toInt.toNat + 2)).toInt ∧ (H.2.1 74 (4 * s.toInt.toNat + 2)).toInt ≤ 8) (hw : ∀ j, j < (H.2.1 74 (4 * s.toInt.toNat + 2)).toInt.toNat → 0 ≤ (H.2.1 75 (16 * s.toInt.toNat + 2 * j)).toInt ∧ (H.2.1 75 (16 * s.toInt.toNat + 2 * j)).toInt ≤ 3) (hab : ¬ a.toInt = b.toInt) : ∀ (n : Nat) (lv : zp_LV) (k : Int32) (r : xT4), 0 ≤ k.toInt → ((H.2.1 74 (4 * s.toInt.toNat + 2)).toInt - k.toInt).toNat = n → zp_get lv 0 = some (.inr (.inr (some 73))) → zp_get lv 1 = some (.inl s) → zp_get lv 2 = some (.inl wt) → zp_get lv 3 = some (.inl r.2.1) → zp_get lv 4 = some (.inl r.2.2.1) → zp_get lv 5 = some (.inl r.2.2.2) → zp_get lv 6 = some (.inr (.inl r.1)) → zp_get lv 8 = some (.inl a) → zp_get lv 9 = some (.inl b) → zp_get lv 10 = some (.inl k) → (∀ lv1, zp_get lv1 0 = some (.inr (.inr (some 73))) → zp_get lv1 1 = some (.inl s) → zp_get lv1 2 = some (.inl wt) → zp_get lv1 3 = some (.inl (xHk (xPm H s.toInt.toNat (H.2.1 74 (4 * s.toInt.toNat + 2)).toInt.toNat) a b n k r).2.1) → zp_get lv1 4 = some (.inl (xHk (xPm H s.toInt.toNat (H.2.1 74 (4 * s.toInt.toNat + 2)).toInt.toNat) a b n k r).2.2.1) → zp_get lv1 5 = some (.inl (xHk (xPm H s.toInt.toNat (H.2.1 74 (4 * s.toInt.toNat + 2)).toInt.toNat) a b n k r).2.2.2) → zp_get lv1 6 = some (.inr (.inl (xHk (xPm H s.toInt.toNat (H.2.1 74 (4 * s.toInt.toNat + 2)).toInt.toNat) a b n k r).1)) → zp_get lv1 8 = some (.inl a) → zp_get lv1 9 = some (.inl b) → zs_Safe L σ P zm_245 [] (d + 2) (124, lv1, [], H, (0, 0))) → zs_Safe L σ P zm_245 [] (d + 2) (62, lv, [], H, (0, 0)) := by
  intro n
  induction n with
  | zero =>
    intro lv k r h5 hn l0 l1 l2 l3 l4 l5 l6 l8 l9 l10 hP
    refine zw_ld (n := 2) (k := 10) (f := zp_isI) (pc' := 64) rfl rfl l10 rfl rfl ?_
    refine zw_ld (n := 1) (k := 0) (f := zp_isR) (pc' := 65) rfl rfl l0 rfl rfl ?_
    refine zw_ld (n := 1) (k := 1) (f := zp_isI) (pc' := 66) rfl rfl l1 rfl rfl ?_
    refine zw_c (pc' := 69) (zw_cv (q := 72) (Y := zm_212) W.1 rfl rfl zm_212_t rfl rfl) rfl rfl rfl rfl rfl (zq_marks W ⟨hs.1, by omega⟩) ?_
    refine zw_bge2 (g := 124) (pc' := 72) rfl rfl rfl rfl rfl (fun h1 => ?_) (fun h1 => ?_)
    · exact hP lv l0 l1 l2 l3 l4 l5 l6 l8 l9
    · omega
  | succ n ih =>
    intro lv k r h5 hn l0 l1 l2 l3 l4 l5 l6 l8 l9 l10 hP
    refine zw_ld (n := 2) (k := 10) (f := zp_isI) (pc' := 64) rfl rfl l10 rfl rfl ?_
    refine zw_ld (n := 1) (k := 0) (f := zp_isR) (pc' := 65) rfl rfl l0 rfl rfl ?_
    refine zw_ld (n := 1) (k := 1) (f := zp_isI) (pc' := 66) rfl rfl l1 rfl rfl ?_
    refine zw_c (pc' := 69) (zw_cv (q := 72) (Y := zm_212) W.1 rfl rfl zm_212_t rfl rfl) rfl rfl rfl rfl rfl (zq_marks W ⟨hs.1, by omega⟩) ?_
    refine zw_bge2 (g := 124) (pc' := 72) rfl rfl rfl rfl rfl (fun h1 => ?_) (fun h1 => ?_)
    · omega
    · refine zw_ld (n := 2) (k := 8) (f := zp_isI) (pc' := 74) rfl rfl l8 rfl rfl ?_
      refine zw_ld (n := 2) (k := 9) (f := zp_isI) (pc' := 76) rfl rfl l9 rfl rfl ?_
      refine zw_beq2 (g := 124) (pc' := 79) rfl rfl rfl rfl rfl (fun h0 => ?_) (fun h0 => ?_)
      · exact absurd h0 hab
      · have ek : (k + Int32.ofInt 1).toInt = k.toInt + 1 := zw_p1 (by omega)
        refine zw_ld (n := 1) (k := 0) (f := zp_isR) (pc' := 80) rfl rfl l0 rfl rfl ?_
        refine zw_ld (n := 1) (k := 1) (f := zp_isI) (pc' := 81) rfl rfl l1 rfl rfl ?_
        refine zw_ld (n := 2) (k := 8) (f := zp_isI) (pc' := 83) rfl rfl l8 rfl rfl ?_
        refine zw_ld (n := 2) (k := 9) (f := zp_isI) (pc' := 85) rfl rfl l9 rfl rfl ?_
        refine zw_ld (n := 2) (k := 10) (f := zp_isI) (pc' := 87) rfl rfl l10 rfl rfl ?_
        refine zw_c (pc' := 90) (zw_cv (q := 72) (Y := zm_246) W.1 rfl rfl zm_246_t rfl rfl) rfl rfl rfl rfl rfl (yr_pr W hs ha hb hm hw) ?_
        refine zw_sl (n := 2) (k := 11) (pc' := 92) rfl rfl rfl rfl ?_
        refine zw_ld (n := 2) (k := 11) (f := zp_isL) (pc' := 94) rfl rfl zw_g2 rfl rfl ?_
        refine zw_ld (n := 2) (k := 6) (f := zp_isL) (pc' := 96) rfl rfl (zw_gt2 l6 rfl rfl) rfl rfl ?_
        refine zw_s (pc' := 97) rfl rfl ?_
        refine zw_bgt1 (g := 103) (pc' := 100) rfl rfl rfl rfl (fun h2 => ?_) (fun h2 => ?_)
        · have h2 : ¬ (lg_cmp ((xPm H s.toInt.toNat (H.2.1 74 (4 * s.toInt.toNat + 2)).toInt.toNat) a b k) r.1).toInt ≤ 0 := Int.not_le.mpr h2
          refine zw_ld (n := 2) (k := 11) (f := zp_isL) (pc' := 105) rfl rfl zw_g2 rfl rfl ?_
          refine zw_sl (n := 2) (k := 6) (pc' := 107) rfl rfl rfl rfl ?_
          refine zw_ld (n := 2) (k := 8) (f := zp_isI) (pc' := 109) rfl rfl (zw_gt2 (zw_gt2 l8 rfl rfl) rfl rfl) rfl rfl ?_
          refine zw_st (n := 1) (k := 3) (f := zp_isI) (pc' := 110) rfl rfl rfl rfl rfl ?_
          refine zw_ld (n := 2) (k := 9) (f := zp_isI) (pc' := 112) rfl rfl (zw_gt (zw_gt2 (zw_gt2 l9 rfl rfl) rfl rfl) rfl rfl) rfl rfl ?_
          refine zw_st (n := 2) (k := 4) (f := zp_isI) (pc' := 114) rfl rfl rfl rfl rfl ?_
          refine zw_ld (n := 2) (k := 10) (f := zp_isI) (pc' := 116) rfl rfl (zw_gt (zw_gt (zw_gt2 (zw_gt2 l10 rfl rfl) rfl rfl) rfl rfl) rfl rfl) rfl rfl ?_
          refine zw_st (n := 2) (k := 5) (f := zp_isI) (pc' := 118) rfl rfl rfl rfl rfl ?_
          refine zw_ii (pc' := 121) rfl (zw_gt (zw_gt (zw_gt (zw_gt2 (zw_gt2 l10 rfl rfl) rfl rfl) rfl rfl) rfl rfl) rfl rfl) rfl rfl ?_
          refine zw_s (pc' := 62) rfl rfl ?_
          exact ih _ (k + Int32.ofInt 1) ((xPm H s.toInt.toNat (H.2.1 74 (4 * s.toInt.toNat + 2)).toInt.toNat) a b k, a, b, k) (by omega) (by omega) (zw_gt (zw_gt (zw_gt (zw_gt (zw_gt2 (zw_gt2 l0 rfl rfl) rfl rfl) rfl rfl) rfl rfl) rfl rfl) rfl rfl) (zw_gt (zw_gt (zw_gt (zw_gt (zw_gt2 (zw_gt2 l1 rfl rfl) rfl rfl) rfl rfl) rfl rfl) rfl rfl) rfl rfl) (zw_gt (zw_gt (zw_gt (zw_gt (zw_gt2 (zw_gt2 l2 rfl rfl) rfl rfl) rfl rfl) rfl rfl) rfl rfl) rfl rfl) (zw_gt (zw_gt (zw_gt zw_g1 rfl rfl) rfl rfl) rfl rfl) (zw_gt (zw_gt zw_g1 rfl rfl) rfl rfl) (zw_gt zw_g1 rfl rfl) (zw_gt (zw_gt (zw_gt (zw_gt zw_g2 rfl rfl) rfl rfl) rfl rfl) rfl rfl) (zw_gt (zw_gt (zw_gt (zw_gt (zw_gt2 (zw_gt2 l8 rfl rfl) rfl rfl) rfl rfl) rfl rfl) rfl rfl) rfl rfl) (zw_gt (zw_gt (zw_gt (zw_gt (zw_gt2 (zw_gt2 l9 rfl rfl) rfl rfl) rfl rfl) rfl rfl) rfl rfl) rfl rfl) zw_g1 (by rw [xHk_y h2] at hP; exact hP)
        · have h2 : (lg_cmp ((xPm H s.toInt.toNat (H.2.1 74 (4 * s.toInt.toNat + 2)).toInt.toNat) a b k) r.1).toInt ≤ 0 := h2
          refine zw_s (pc' := 118) rfl rfl ?_
          refine zw_ii (pc' := 121) rfl (zw_gt2 l10 rfl rfl) rfl rfl ?_
          refine zw_s (pc' := 62) rfl rfl ?_
          exact ih _ (k + Int32.ofInt 1) r (by omega) (by omega) (zw_gt (zw_gt2 l0 rfl rfl) rfl rfl) (zw_gt (zw_gt2 l1 rfl rfl) rfl rfl) (zw_gt (zw_gt2 l2 rfl rfl) rfl rfl) (zw_gt (zw_gt2 l3 rfl rfl) rfl rfl) (zw_gt (zw_gt2 l4 rfl rfl) rfl rfl) (zw_gt (zw_gt2 l5 rfl rfl) rfl rfl) (zw_gt (zw_gt2 l6 rfl rfl) rfl rfl) (zw_gt (zw_gt2 l8 rfl rfl) rfl rfl) (zw_gt (zw_gt2 l9 rfl rfl) rfl rfl) zw_g1 (by rw [xHk_n h2] at hP; exact hP)

theorem yr_hkB {L : Nat} {σ : Nat → Int32} {d : Nat} {P : zp_X → Prop} {H : zp_H} {s a wt : Int32} (W : zw_W H) (hs : 0 ≤ s.toInt ∧ s.toInt < 8) (ha : 0 ≤ a.toInt ∧ a.toInt < 5) (hm : 0 ≤ (H.2.1 74 (4 * s.toInt.toNat + 2)).toInt ∧ (H.2.1 74 (4 * s.toInt.toNat + 2)).toInt ≤ 8) (hw : ∀ j, j < (H.2.1 74 (4 * s.toInt.toNat + 2)).toInt.toNat → 0 ≤ (H.2.1 75 (16 * s.toInt.toNat + 2 * j)).toInt ∧ (H.2.1 75 (16 * s.toInt.toNat + 2 * j)).toInt ≤ 3) (hh : 0 ≤ (H.2.1 72 6).toInt ∧ (H.2.1 72 6).toInt ≤ 5) : ∀ (n : Nat) (lv : zp_LV) (b : Int32) (r : xT4), 0 ≤ b.toInt → b.toInt + n = (H.2.1 72 6).toInt → zp_get lv 0 = some (.inr (.inr (some 73))) → zp_get lv 1 = some (.inl s) → zp_get lv 2 = some (.inl wt) → zp_get lv 3 = some (.inl r.2.1) → zp_get lv 4 = some (.inl r.2.2.1) → zp_get lv 5 = some (.inl r.2.2.2) → zp_get lv 6 = some (.inr (.inl r.1)) → zp_get lv 8 = some (.inl a) → zp_get lv 9 = some (.inl b) → (∀ lv1, zp_get lv1 0 = some (.inr (.inr (some 73))) → zp_get lv1 1 = some (.inl s) → zp_get lv1 2 = some (.inl wt) → zp_get lv1 3 = some (.inl (xHb (xPm H s.toInt.toNat (H.2.1 74 (4 * s.toInt.toNat + 2)).toInt.toNat) (H.2.1 74 (4 * s.toInt.toNat + 2)).toInt.toNat a n b r).2.1) → zp_get lv1 4 = some (.inl (xHb (xPm H s.toInt.toNat (H.2.1 74 (4 * s.toInt.toNat + 2)).toInt.toNat) (H.2.1 74 (4 * s.toInt.toNat + 2)).toInt.toNat a n b r).2.2.1) → zp_get lv1 5 = some (.inl (xHb (xPm H s.toInt.toNat (H.2.1 74 (4 * s.toInt.toNat + 2)).toInt.toNat) (H.2.1 74 (4 * s.toInt.toNat + 2)).toInt.toNat a n b r).2.2.2) → zp_get lv1 6 = some (.inr (.inl (xHb (xPm H s.toInt.toNat (H.2.1 74 (4 * s.toInt.toNat + 2)).toInt.toNat) (H.2.1 74 (4 * s.toInt.toNat + 2)).toInt.toNat a n b r).1)) → zp_get lv1 8 = some (.inl a) → zs_Safe L σ P zm_245 [] (d + 2) (130, lv1, [], H, (0, 0))) → zs_Safe L σ P zm_245 [] (d + 2) (50, lv, [], H, (0, 0)) := by
  intro n
  induction n with
  | zero =>
    intro lv b r h5 hn l0 l1 l2 l3 l4 l5 l6 l8 l9 hP
    refine zw_ld (n := 2) (k := 9) (f := zp_isI) (pc' := 52) rfl rfl l9 rfl rfl ?_
    refine zw_ld (n := 1) (k := 0) (f := zp_isR) (pc' := 53) rfl rfl l0 rfl rfl ?_
    refine zw_gI (q := 72) (pc' := 56) W rfl rfl rfl rfl rfl rfl ?_
    refine zw_bge2 (g := 130) (pc' := 59) rfl rfl rfl rfl rfl (fun h1 => ?_) (fun h1 => ?_)
    · exact hP lv l0 l1 l2 l3 l4 l5 l6 l8
    · have h1 : b.toInt < (H.2.1 72 6).toInt := h1
      omega
  | succ n ih =>
    intro lv b r h5 hn l0 l1 l2 l3 l4 l5 l6 l8 l9 hP
    refine zw_ld (n := 2) (k := 9) (f := zp_isI) (pc' := 52) rfl rfl l9 rfl rfl ?_
    refine zw_ld (n := 1) (k := 0) (f := zp_isR) (pc' := 53) rfl rfl l0 rfl rfl ?_
    refine zw_gI (q := 72) (pc' := 56) W rfl rfl rfl rfl rfl rfl ?_
    refine zw_bge2 (g := 130) (pc' := 59) rfl rfl rfl rfl rfl (fun h1 => ?_) (fun h1 => ?_)
    · have h1 : (H.2.1 72 6).toInt ≤ b.toInt := h1
      omega
    · have h1 : b.toInt < (H.2.1 72 6).toInt := h1
      have eb : (b + Int32.ofInt 1).toInt = b.toInt + 1 := zw_p1 (by omega)
      refine zw_s (pc' := 60) rfl rfl ?_
      refine zw_st (n := 2) (k := 10) (f := zp_isI) (pc' := 62) rfl rfl rfl rfl rfl ?_
      by_cases hab : a.toInt = b.toInt
      · refine zw_ld (n := 2) (k := 10) (f := zp_isI) (pc' := 64) rfl rfl zw_g1 rfl rfl ?_
        refine zw_ld (n := 1) (k := 0) (f := zp_isR) (pc' := 65) rfl rfl (zw_gt l0 rfl rfl) rfl rfl ?_
        refine zw_ld (n := 1) (k := 1) (f := zp_isI) (pc' := 66) rfl rfl (zw_gt l1 rfl rfl) rfl rfl ?_
        refine zw_c (pc' := 69) (zw_cv (q := 72) (Y := zm_212) W.1 rfl rfl zm_212_t rfl rfl) rfl rfl rfl rfl rfl (zq_marks W ⟨hs.1, by omega⟩) ?_
        refine zw_bge2 (g := 124) (pc' := 72) rfl rfl rfl (rfl : _ = (1 : Int)) rfl (fun h3 => ?_) (fun h3 => ?_)
        · refine zw_ii (pc' := 127) rfl (zw_gt l9 rfl rfl) rfl rfl ?_
          refine zw_s (pc' := 50) rfl rfl ?_
          exact ih _ (b + Int32.ofInt 1) r (by omega) (by omega) (zw_gt (zw_gt l0 rfl rfl) rfl rfl) (zw_gt (zw_gt l1 rfl rfl) rfl rfl) (zw_gt (zw_gt l2 rfl rfl) rfl rfl) (zw_gt (zw_gt l3 rfl rfl) rfl rfl) (zw_gt (zw_gt l4 rfl rfl) rfl rfl) (zw_gt (zw_gt l5 rfl rfl) rfl rfl) (zw_gt (zw_gt l6 rfl rfl) rfl rfl) (zw_gt (zw_gt l8 rfl rfl) rfl rfl) zw_g1 (by rw [xHb_e hab] at hP; exact hP)
        · refine zw_ld (n := 2) (k := 8) (f := zp_isI) (pc' := 74) rfl rfl (zw_gt l8 rfl rfl) rfl rfl ?_
          refine zw_ld (n := 2) (k := 9) (f := zp_isI) (pc' := 76) rfl rfl (zw_gt l9 rfl rfl) rfl rfl ?_
          refine zw_beq2 (g := 124) (pc' := 79) rfl rfl rfl rfl rfl (fun h0 => ?_) (fun h0 => ?_)
          · refine zw_ii (pc' := 127) rfl (zw_gt l9 rfl rfl) rfl rfl ?_
            refine zw_s (pc' := 50) rfl rfl ?_
            exact ih _ (b + Int32.ofInt 1) r (by omega) (by omega) (zw_gt (zw_gt l0 rfl rfl) rfl rfl) (zw_gt (zw_gt l1 rfl rfl) rfl rfl) (zw_gt (zw_gt l2 rfl rfl) rfl rfl) (zw_gt (zw_gt l3 rfl rfl) rfl rfl) (zw_gt (zw_gt l4 rfl rfl) rfl rfl) (zw_gt (zw_gt l5 rfl rfl) rfl rfl) (zw_gt (zw_gt l6 rfl rfl) rfl rfl) (zw_gt (zw_gt l8 rfl rfl) rfl rfl) zw_g1 (by rw [xHb_e hab] at hP; exact hP)
          · exact absurd hab h0
      · refine yr_hkK (a := a) (b := b) W hs ha ⟨h5, by omega⟩ hm hw hab ((H.2.1 74 (4 * s.toInt.toNat + 2)).toInt.toNat - 1) _ (Int32.ofInt 1) r (by decide) (by rw [show (Int32.ofInt 1).toInt = 1 by decide]; omega) (zw_gt l0 rfl rfl) (zw_gt l1 rfl rfl) (zw_gt l2 rfl rfl) (zw_gt l3 rfl rfl) (zw_gt l4 rfl rfl) (zw_gt l5 rfl rfl) (zw_gt l6 rfl rfl) (zw_gt l8 rfl rfl) (zw_gt l9 rfl rfl) zw_g1 (fun lv1 m0 m1 m2 m3 m4 m5 m6 m8 m9 => ?_)
        refine zw_ii (pc' := 127) rfl m9 rfl rfl ?_
        refine zw_s (pc' := 50) rfl rfl ?_
        exact ih _ (b + Int32.ofInt 1) _ (by omega) (by omega) (zw_gt m0 rfl rfl) (zw_gt m1 rfl rfl) (zw_gt m2 rfl rfl) (zw_gt m3 rfl rfl) (zw_gt m4 rfl rfl) (zw_gt m5 rfl rfl) (zw_gt m6 rfl rfl) (zw_gt m8 rfl rfl) zw_g1 (by rw [xHb_n hab] at hP; exact hP)

theorem yr_hkA {L : Nat} {σ : Nat → Int32} {d : Nat} {P : zp_X → Prop} {H : zp_H} {s wt : Int32} (W : zw_W H) (hs : 0 ≤ s.toInt ∧ s.toInt < 8) (hm : 0 ≤ (H.2.1 74 (4 * s.toInt.toNat + 2)).toInt ∧ (H.2.1 74 (4 * s.toInt.toNat + 2)).toInt ≤ 8) (hw : ∀ j, j < (H.2.1 74 (4 * s.toInt.toNat + 2)).toInt.toNat → 0 ≤ (H.2.1 75 (16 * s.toInt.toNat + 2 * j)).toInt ∧ (H.2.1 75 (16 * s.toInt.toNat + 2 * j)).toInt ≤ 3) (hh : 0 ≤ (H.2.1 72 6).toInt ∧ (H.2.1 72 6).toInt ≤ 5) : ∀ (n : Nat) (lv : zp_LV) (a : Int32) (r : xT4), 0 ≤ a.toInt → a.toInt + n = (H.2.1 72 6).toInt → zp_get lv 0 = some (.inr (.inr (some 73))) → zp_get lv 1 = some (.inl s) → zp_get lv 2 = some (.inl wt) → zp_get lv 3 = some (.inl r.2.1) → zp_get lv 4 = some (.inl r.2.2.1) → zp_get lv 5 = some (.inl r.2.2.2) → zp_get lv 6 = some (.inr (.inl r.1)) → zp_get lv 8 = some (.inl a) → (∀ lv1, zp_get lv1 0 = some (.inr (.inr (some 73))) → zp_get lv1 1 = some (.inl s) → zp_get lv1 2 = some (.inl wt) → zp_get lv1 3 = some (.inl (xHa (xPm H s.toInt.toNat (H.2.1 74 (4 * s.toInt.toNat + 2)).toInt.toNat) (H.2.1 74 (4 * s.toInt.toNat + 2)).toInt.toNat (H.2.1 72 6).toInt.toNat n a r).2.1) → zp_get lv1 4 = some (.inl (xHa (xPm H s.toInt.toNat (H.2.1 74 (4 * s.toInt.toNat + 2)).toInt.toNat) (H.2.1 74 (4 * s.toInt.toNat + 2)).toInt.toNat (H.2.1 72 6).toInt.toNat n a r).2.2.1) → zp_get lv1 5 = some (.inl (xHa (xPm H s.toInt.toNat (H.2.1 74 (4 * s.toInt.toNat + 2)).toInt.toNat) (H.2.1 74 (4 * s.toInt.toNat + 2)).toInt.toNat (H.2.1 72 6).toInt.toNat n a r).2.2.2) → zp_get lv1 6 = some (.inr (.inl (xHa (xPm H s.toInt.toNat (H.2.1 74 (4 * s.toInt.toNat + 2)).toInt.toNat) (H.2.1 74 (4 * s.toInt.toNat + 2)).toInt.toNat (H.2.1 72 6).toInt.toNat n a r).1)) → zs_Safe L σ P zm_245 [] (d + 2) (136, lv1, [], H, (0, 0))) → zs_Safe L σ P zm_245 [] (d + 2) (38, lv, [], H, (0, 0)) := by
  intro n
  induction n with
  | zero =>
    intro lv a r h5 hn l0 l1 l2 l3 l4 l5 l6 l8 hP
    refine zw_ld (n := 2) (k := 8) (f := zp_isI) (pc' := 40) rfl rfl l8 rfl rfl ?_
    refine zw_ld (n := 1) (k := 0) (f := zp_isR) (pc' := 41) rfl rfl l0 rfl rfl ?_
    refine zw_gI (q := 72) (pc' := 44) W rfl rfl rfl rfl rfl rfl ?_
    refine zw_bge2 (g := 136) (pc' := 47) rfl rfl rfl rfl rfl (fun h1 => ?_) (fun h1 => ?_)
    · exact hP lv l0 l1 l2 l3 l4 l5 l6
    · have h1 : a.toInt < (H.2.1 72 6).toInt := h1
      omega
  | succ n ih =>
    intro lv a r h5 hn l0 l1 l2 l3 l4 l5 l6 l8 hP
    refine zw_ld (n := 2) (k := 8) (f := zp_isI) (pc' := 40) rfl rfl l8 rfl rfl ?_
    refine zw_ld (n := 1) (k := 0) (f := zp_isR) (pc' := 41) rfl rfl l0 rfl rfl ?_
    refine zw_gI (q := 72) (pc' := 44) W rfl rfl rfl rfl rfl rfl ?_
    refine zw_bge2 (g := 136) (pc' := 47) rfl rfl rfl rfl rfl (fun h1 => ?_) (fun h1 => ?_)
    · have h1 : (H.2.1 72 6).toInt ≤ a.toInt := h1
      omega
    · have h1 : a.toInt < (H.2.1 72 6).toInt := h1
      have ea : (a + Int32.ofInt 1).toInt = a.toInt + 1 := zw_p1 (by omega)
      refine zw_s (pc' := 48) rfl rfl ?_
      refine zw_st (n := 2) (k := 9) (f := zp_isI) (pc' := 50) rfl rfl rfl rfl rfl ?_
      refine yr_hkB (a := a) W hs ⟨h5, by omega⟩ hm hw hh (H.2.1 72 6).toInt.toNat _ (Int32.ofInt 0) r (by decide) (by rw [show (Int32.ofInt 0).toInt = 0 by decide]; omega) (zw_gt l0 rfl rfl) (zw_gt l1 rfl rfl) (zw_gt l2 rfl rfl) (zw_gt l3 rfl rfl) (zw_gt l4 rfl rfl) (zw_gt l5 rfl rfl) (zw_gt l6 rfl rfl) (zw_gt l8 rfl rfl) zw_g1 (fun lv1 m0 m1 m2 m3 m4 m5 m6 m8 => ?_)
      refine zw_ii (pc' := 133) rfl m8 rfl rfl ?_
      refine zw_s (pc' := 38) rfl rfl ?_
      exact ih _ (a + Int32.ofInt 1) _ (by omega) (by omega) (zw_gt m0 rfl rfl) (zw_gt m1 rfl rfl) (zw_gt m2 rfl rfl) (zw_gt m3 rfl rfl) (zw_gt m4 rfl rfl) (zw_gt m5 rfl rfl) (zw_gt m6 rfl rfl) zw_g1 hP

theorem yr_hd0 {L : Nat} {σ : Nat → Int32} {d : Nat} {H : zp_H} (W : zw_W H) {x1 : Int32} (hx : 0 ≤ x1.toInt ∧ x1.toInt < (H.2.1 72 5).toInt) (h8 : x1.toInt < 8) (hm : 0 ≤ ((zw_I H 72 0 (Int32.ofInt 0)).2.1 74 (4 * x1.toInt.toNat + 2)).toInt ∧ ((zw_I H 72 0 (Int32.ofInt 0)).2.1 74 (4 * x1.toInt.toNat + 2)).toInt ≤ 8) (hw : ∀ j, j < ((zw_I H 72 0 (Int32.ofInt 0)).2.1 74 (4 * x1.toInt.toNat + 2)).toInt.toNat → 0 ≤ ((zw_I H 72 0 (Int32.ofInt 0)).2.1 75 (16 * x1.toInt.toNat + 2 * j)).toInt ∧ ((zw_I H 72 0 (Int32.ofInt 0)).2.1 75 (16 * x1.toInt.toNat + 2 * j)).toInt ≤ 3) (hh : 0 ≤ ((zw_I H 72 0 (Int32.ofInt 0)).2.1 72 6).toInt ∧ ((zw_I H 72 0 (Int32.ofInt 0)).2.1 72 6).toInt ≤ 5) : zp_Call L σ (d + 3) 245 [.inr (.inr (some 73)), .inl x1, .inl (Int32.ofInt 0)] H (.inl (some (.inr (.inl ((xHa (xPm (zw_I H 72 0 (Int32.ofInt 0)) x1.toInt.toNat ((zw_I H 72 0 (Int32.ofInt 0)).2.1 74 (4 * x1.toInt.toNat + 2)).toInt.toNat) ((zw_I H 72 0 (Int32.ofInt 0)).2.1 74 (4 * x1.toInt.toNat + 2)).toInt.toNat ((zw_I H 72 0 (Int32.ofInt 0)).2.1 72 6).toInt.toNat ((zw_I H 72 0 (Int32.ofInt 0)).2.1 72 6).toInt.toNat (Int32.ofInt 0) xT40).2.1.toInt64)))), (zw_I H 72 0 (Int32.ofInt 0))) := by
  have h0 : ((zw_I H 72 0 (Int32.ofInt 0)).2.1 72 0).toInt = 0 := congrArg Int32.toInt zw_eq
  have e5 : (zw_I H 72 0 (Int32.ofInt 0)).2.1 72 5 = H.2.1 72 5 := zw_ne rfl rfl
  refine zw_ex (zw_met zm_245_t rfl rfl ?_)
  refine zw_ld (n := 1) (k := 0) (f := zp_isR) (pc' := 1) rfl rfl rfl rfl rfl ?_
  refine zw_s (pc' := 2) rfl rfl ?_
  refine zw_pI (q := 72) (pc' := 5) W rfl rfl rfl rfl rfl rfl ?_
  refine zw_ld (n := 1) (k := 0) (f := zp_isR) (pc' := 6) rfl rfl rfl rfl rfl ?_
  refine zw_ld (n := 1) (k := 1) (f := zp_isI) (pc' := 7) rfl rfl rfl rfl rfl ?_
  refine zw_c (pc' := 10) (zw_cv (q := 72) (Y := zm_210) (zw_W_I W).1 rfl rfl zm_210_t rfl rfl) rfl rfl rfl rfl rfl (zq_slate1 (zw_W_I W) h0 (by rw [e5]; exact hx)) ?_
  refine zw_beq1 (g := 22) (pc' := 13) rfl rfl rfl (rfl : _ = (1 : Int)) (fun h9 => absurd h9 (by decide)) (fun h7 => ?_)
  refine zw_ld (n := 1) (k := 0) (f := zp_isR) (pc' := 14) rfl rfl rfl rfl rfl ?_
  refine zw_ld (n := 1) (k := 2) (f := zp_isI) (pc' := 15) rfl rfl rfl rfl rfl ?_
  refine zw_s (pc' := 16) rfl rfl ?_
  refine zw_c (pc' := 19) (zw_cv (q := 72) (Y := zm_208) (zw_W_I W).1 rfl rfl zm_208_t rfl rfl) rfl rfl rfl rfl rfl (yr_wh1 (zw_W_I W) h0 ⟨by decide, by decide⟩) ?_
  refine zw_bne1 (g := 24) (pc' := 22) rfl rfl rfl (rfl : _ = (1 : Int)) (fun h7 => ?_) (fun h9 => absurd h9 (by decide))
  refine zw_s (pc' := 25) rfl rfl ?_
  refine zw_st (n := 1) (k := 3) (f := zp_isI) (pc' := 26) rfl rfl rfl rfl rfl ?_
  refine zw_s (pc' := 27) rfl rfl ?_
  refine zw_st (n := 2) (k := 4) (f := zp_isI) (pc' := 29) rfl rfl rfl rfl rfl ?_
  refine zw_s (pc' := 30) rfl rfl ?_
  refine zw_st (n := 2) (k := 5) (f := zp_isI) (pc' := 32) rfl rfl rfl rfl rfl ?_
  refine zw_s (pc' := 33) rfl rfl ?_
  refine zw_sl (n := 2) (k := 6) (pc' := 35) rfl rfl rfl rfl ?_
  refine zw_s (pc' := 36) rfl rfl ?_
  refine zw_st (n := 2) (k := 8) (f := zp_isI) (pc' := 38) rfl rfl rfl rfl rfl ?_
  refine yr_hkA (zw_W_I W) ⟨hx.1, h8⟩ hm hw hh ((zw_I H 72 0 (Int32.ofInt 0)).2.1 72 6).toInt.toNat _ (Int32.ofInt 0) xT40 (by decide) (by rw [show (Int32.ofInt 0).toInt = 0 by decide]; omega) (zw_gt (zw_gt2 (zw_gt (zw_gt (zw_gt rfl rfl rfl) rfl rfl) rfl rfl) rfl rfl) rfl rfl) (zw_gt (zw_gt2 (zw_gt (zw_gt (zw_gt rfl rfl rfl) rfl rfl) rfl rfl) rfl rfl) rfl rfl) (zw_gt (zw_gt2 (zw_gt (zw_gt (zw_gt rfl rfl rfl) rfl rfl) rfl rfl) rfl rfl) rfl rfl) (zw_gt (zw_gt2 (zw_gt (zw_gt zw_g1 rfl rfl) rfl rfl) rfl rfl) rfl rfl) (zw_gt (zw_gt2 (zw_gt zw_g1 rfl rfl) rfl rfl) rfl rfl) (zw_gt (zw_gt2 zw_g1 rfl rfl) rfl rfl) (zw_gt zw_g2 rfl rfl) zw_g1 (fun lv1 k0 k1 k2 k3 k4 k5 k6 => ?_)
  refine zw_ld (n := 1) (k := 2) (f := zp_isI) (pc' := 137) rfl rfl k2 rfl rfl ?_
  refine zw_bne1 (g := 145) (pc' := 140) rfl rfl rfl (rfl : _ = (0 : Int)) (fun h9 => absurd h9 (by decide)) (fun h8 => ?_)
  refine zw_ld (n := 1) (k := 3) (f := zp_isI) (pc' := 141) rfl rfl k3 rfl rfl ?_
  refine zw_s (pc' := 142) rfl rfl ?_
  refine zw_s (pc' := 169) rfl rfl ?_
  refine zw_rl rfl rfl ?_
  rfl

theorem yr_hd1 {L : Nat} {σ : Nat → Int32} {d : Nat} {H : zp_H} (W : zw_W H) {x1 : Int32} (hx : 0 ≤ x1.toInt ∧ x1.toInt < (H.2.1 72 5).toInt) (h8 : x1.toInt < 8) (hm : 0 ≤ ((zw_I H 72 0 (Int32.ofInt 0)).2.1 74 (4 * x1.toInt.toNat + 2)).toInt ∧ ((zw_I H 72 0 (Int32.ofInt 0)).2.1 74 (4 * x1.toInt.toNat + 2)).toInt ≤ 8) (hw : ∀ j, j < ((zw_I H 72 0 (Int32.ofInt 0)).2.1 74 (4 * x1.toInt.toNat + 2)).toInt.toNat → 0 ≤ ((zw_I H 72 0 (Int32.ofInt 0)).2.1 75 (16 * x1.toInt.toNat + 2 * j)).toInt ∧ ((zw_I H 72 0 (Int32.ofInt 0)).2.1 75 (16 * x1.toInt.toNat + 2 * j)).toInt ≤ 3) (hh : 0 ≤ ((zw_I H 72 0 (Int32.ofInt 0)).2.1 72 6).toInt ∧ ((zw_I H 72 0 (Int32.ofInt 0)).2.1 72 6).toInt ≤ 5) : zp_Call L σ (d + 3) 245 [.inr (.inr (some 73)), .inl x1, .inl (Int32.ofInt 1)] H (.inl (some (.inr (.inl ((xHa (xPm (zw_I H 72 0 (Int32.ofInt 0)) x1.toInt.toNat ((zw_I H 72 0 (Int32.ofInt 0)).2.1 74 (4 * x1.toInt.toNat + 2)).toInt.toNat) ((zw_I H 72 0 (Int32.ofInt 0)).2.1 74 (4 * x1.toInt.toNat + 2)).toInt.toNat ((zw_I H 72 0 (Int32.ofInt 0)).2.1 72 6).toInt.toNat ((zw_I H 72 0 (Int32.ofInt 0)).2.1 72 6).toInt.toNat (Int32.ofInt 0) xT40).2.2.1.toInt64)))), (zw_I H 72 0 (Int32.ofInt 0))) := by
  have h0 : ((zw_I H 72 0 (Int32.ofInt 0)).2.1 72 0).toInt = 0 := congrArg Int32.toInt zw_eq
  have e5 : (zw_I H 72 0 (Int32.ofInt 0)).2.1 72 5 = H.2.1 72 5 := zw_ne rfl rfl
  refine zw_ex (zw_met zm_245_t rfl rfl ?_)
  refine zw_ld (n := 1) (k := 0) (f := zp_isR) (pc' := 1) rfl rfl rfl rfl rfl ?_
  refine zw_s (pc' := 2) rfl rfl ?_
  refine zw_pI (q := 72) (pc' := 5) W rfl rfl rfl rfl rfl rfl ?_
  refine zw_ld (n := 1) (k := 0) (f := zp_isR) (pc' := 6) rfl rfl rfl rfl rfl ?_
  refine zw_ld (n := 1) (k := 1) (f := zp_isI) (pc' := 7) rfl rfl rfl rfl rfl ?_
  refine zw_c (pc' := 10) (zw_cv (q := 72) (Y := zm_210) (zw_W_I W).1 rfl rfl zm_210_t rfl rfl) rfl rfl rfl rfl rfl (zq_slate1 (zw_W_I W) h0 (by rw [e5]; exact hx)) ?_
  refine zw_beq1 (g := 22) (pc' := 13) rfl rfl rfl (rfl : _ = (1 : Int)) (fun h9 => absurd h9 (by decide)) (fun h7 => ?_)
  refine zw_ld (n := 1) (k := 0) (f := zp_isR) (pc' := 14) rfl rfl rfl rfl rfl ?_
  refine zw_ld (n := 1) (k := 2) (f := zp_isI) (pc' := 15) rfl rfl rfl rfl rfl ?_
  refine zw_s (pc' := 16) rfl rfl ?_
  refine zw_c (pc' := 19) (zw_cv (q := 72) (Y := zm_208) (zw_W_I W).1 rfl rfl zm_208_t rfl rfl) rfl rfl rfl rfl rfl (yr_wh1 (zw_W_I W) h0 ⟨by decide, by decide⟩) ?_
  refine zw_bne1 (g := 24) (pc' := 22) rfl rfl rfl (rfl : _ = (1 : Int)) (fun h7 => ?_) (fun h9 => absurd h9 (by decide))
  refine zw_s (pc' := 25) rfl rfl ?_
  refine zw_st (n := 1) (k := 3) (f := zp_isI) (pc' := 26) rfl rfl rfl rfl rfl ?_
  refine zw_s (pc' := 27) rfl rfl ?_
  refine zw_st (n := 2) (k := 4) (f := zp_isI) (pc' := 29) rfl rfl rfl rfl rfl ?_
  refine zw_s (pc' := 30) rfl rfl ?_
  refine zw_st (n := 2) (k := 5) (f := zp_isI) (pc' := 32) rfl rfl rfl rfl rfl ?_
  refine zw_s (pc' := 33) rfl rfl ?_
  refine zw_sl (n := 2) (k := 6) (pc' := 35) rfl rfl rfl rfl ?_
  refine zw_s (pc' := 36) rfl rfl ?_
  refine zw_st (n := 2) (k := 8) (f := zp_isI) (pc' := 38) rfl rfl rfl rfl rfl ?_
  refine yr_hkA (zw_W_I W) ⟨hx.1, h8⟩ hm hw hh ((zw_I H 72 0 (Int32.ofInt 0)).2.1 72 6).toInt.toNat _ (Int32.ofInt 0) xT40 (by decide) (by rw [show (Int32.ofInt 0).toInt = 0 by decide]; omega) (zw_gt (zw_gt2 (zw_gt (zw_gt (zw_gt rfl rfl rfl) rfl rfl) rfl rfl) rfl rfl) rfl rfl) (zw_gt (zw_gt2 (zw_gt (zw_gt (zw_gt rfl rfl rfl) rfl rfl) rfl rfl) rfl rfl) rfl rfl) (zw_gt (zw_gt2 (zw_gt (zw_gt (zw_gt rfl rfl rfl) rfl rfl) rfl rfl) rfl rfl) rfl rfl) (zw_gt (zw_gt2 (zw_gt (zw_gt zw_g1 rfl rfl) rfl rfl) rfl rfl) rfl rfl) (zw_gt (zw_gt2 (zw_gt zw_g1 rfl rfl) rfl rfl) rfl rfl) (zw_gt (zw_gt2 zw_g1 rfl rfl) rfl rfl) (zw_gt zw_g2 rfl rfl) zw_g1 (fun lv1 k0 k1 k2 k3 k4 k5 k6 => ?_)
  refine zw_ld (n := 1) (k := 2) (f := zp_isI) (pc' := 137) rfl rfl k2 rfl rfl ?_
  refine zw_bne1 (g := 145) (pc' := 140) rfl rfl rfl (rfl : _ = (1 : Int)) (fun h8 => ?_) (fun h9 => absurd h9 (by decide))
  refine zw_ld (n := 1) (k := 2) (f := zp_isI) (pc' := 146) rfl rfl k2 rfl rfl ?_
  refine zw_s (pc' := 147) rfl rfl ?_
  refine zw_bne2 (g := 156) (pc' := 150) rfl rfl rfl (rfl : _ = (1 : Int)) (rfl : _ = (1 : Int)) (fun h9 => absurd h9 (by decide)) (fun h8 => ?_)
  refine zw_ld (n := 2) (k := 4) (f := zp_isI) (pc' := 152) rfl rfl k4 rfl rfl ?_
  refine zw_s (pc' := 153) rfl rfl ?_
  refine zw_s (pc' := 169) rfl rfl ?_
  refine zw_rl rfl rfl ?_
  rfl

theorem yr_hd2 {L : Nat} {σ : Nat → Int32} {d : Nat} {H : zp_H} (W : zw_W H) {x1 : Int32} (hx : 0 ≤ x1.toInt ∧ x1.toInt < (H.2.1 72 5).toInt) (h8 : x1.toInt < 8) (hm : 0 ≤ ((zw_I H 72 0 (Int32.ofInt 0)).2.1 74 (4 * x1.toInt.toNat + 2)).toInt ∧ ((zw_I H 72 0 (Int32.ofInt 0)).2.1 74 (4 * x1.toInt.toNat + 2)).toInt ≤ 8) (hw : ∀ j, j < ((zw_I H 72 0 (Int32.ofInt 0)).2.1 74 (4 * x1.toInt.toNat + 2)).toInt.toNat → 0 ≤ ((zw_I H 72 0 (Int32.ofInt 0)).2.1 75 (16 * x1.toInt.toNat + 2 * j)).toInt ∧ ((zw_I H 72 0 (Int32.ofInt 0)).2.1 75 (16 * x1.toInt.toNat + 2 * j)).toInt ≤ 3) (hh : 0 ≤ ((zw_I H 72 0 (Int32.ofInt 0)).2.1 72 6).toInt ∧ ((zw_I H 72 0 (Int32.ofInt 0)).2.1 72 6).toInt ≤ 5) : zp_Call L σ (d + 3) 245 [.inr (.inr (some 73)), .inl x1, .inl (Int32.ofInt 2)] H (.inl (some (.inr (.inl ((xHa (xPm (zw_I H 72 0 (Int32.ofInt 0)) x1.toInt.toNat ((zw_I H 72 0 (Int32.ofInt 0)).2.1 74 (4 * x1.toInt.toNat + 2)).toInt.toNat) ((zw_I H 72 0 (Int32.ofInt 0)).2.1 74 (4 * x1.toInt.toNat + 2)).toInt.toNat ((zw_I H 72 0 (Int32.ofInt 0)).2.1 72 6).toInt.toNat ((zw_I H 72 0 (Int32.ofInt 0)).2.1 72 6).toInt.toNat (Int32.ofInt 0) xT40).2.2.2.toInt64)))), (zw_I H 72 0 (Int32.ofInt 0))) := by
  have h0 : ((zw_I H 72 0 (Int32.ofInt 0)).2.1 72 0).toInt = 0 := congrArg Int32.toInt zw_eq
  have e5 : (zw_I H 72 0 (Int32.ofInt 0)).2.1 72 5 = H.2.1 72 5 := zw_ne rfl rfl
  refine zw_ex (zw_met zm_245_t rfl rfl ?_)
  refine zw_ld (n := 1) (k := 0) (f := zp_isR) (pc' := 1) rfl rfl rfl rfl rfl ?_
  refine zw_s (pc' := 2) rfl rfl ?_
  refine zw_pI (q := 72) (pc' := 5) W rfl rfl rfl rfl rfl rfl ?_
  refine zw_ld (n := 1) (k := 0) (f := zp_isR) (pc' := 6) rfl rfl rfl rfl rfl ?_
  refine zw_ld (n := 1) (k := 1) (f := zp_isI) (pc' := 7) rfl rfl rfl rfl rfl ?_
  refine zw_c (pc' := 10) (zw_cv (q := 72) (Y := zm_210) (zw_W_I W).1 rfl rfl zm_210_t rfl rfl) rfl rfl rfl rfl rfl (zq_slate1 (zw_W_I W) h0 (by rw [e5]; exact hx)) ?_
  refine zw_beq1 (g := 22) (pc' := 13) rfl rfl rfl (rfl : _ = (1 : Int)) (fun h9 => absurd h9 (by decide)) (fun h7 => ?_)
  refine zw_ld (n := 1) (k := 0) (f := zp_isR) (pc' := 14) rfl rfl rfl rfl rfl ?_
  refine zw_ld (n := 1) (k := 2) (f := zp_isI) (pc' := 15) rfl rfl rfl rfl rfl ?_
  refine zw_s (pc' := 16) rfl rfl ?_
  refine zw_c (pc' := 19) (zw_cv (q := 72) (Y := zm_208) (zw_W_I W).1 rfl rfl zm_208_t rfl rfl) rfl rfl rfl rfl rfl (yr_wh1 (zw_W_I W) h0 ⟨by decide, by decide⟩) ?_
  refine zw_bne1 (g := 24) (pc' := 22) rfl rfl rfl (rfl : _ = (1 : Int)) (fun h7 => ?_) (fun h9 => absurd h9 (by decide))
  refine zw_s (pc' := 25) rfl rfl ?_
  refine zw_st (n := 1) (k := 3) (f := zp_isI) (pc' := 26) rfl rfl rfl rfl rfl ?_
  refine zw_s (pc' := 27) rfl rfl ?_
  refine zw_st (n := 2) (k := 4) (f := zp_isI) (pc' := 29) rfl rfl rfl rfl rfl ?_
  refine zw_s (pc' := 30) rfl rfl ?_
  refine zw_st (n := 2) (k := 5) (f := zp_isI) (pc' := 32) rfl rfl rfl rfl rfl ?_
  refine zw_s (pc' := 33) rfl rfl ?_
  refine zw_sl (n := 2) (k := 6) (pc' := 35) rfl rfl rfl rfl ?_
  refine zw_s (pc' := 36) rfl rfl ?_
  refine zw_st (n := 2) (k := 8) (f := zp_isI) (pc' := 38) rfl rfl rfl rfl rfl ?_
  refine yr_hkA (zw_W_I W) ⟨hx.1, h8⟩ hm hw hh ((zw_I H 72 0 (Int32.ofInt 0)).2.1 72 6).toInt.toNat _ (Int32.ofInt 0) xT40 (by decide) (by rw [show (Int32.ofInt 0).toInt = 0 by decide]; omega) (zw_gt (zw_gt2 (zw_gt (zw_gt (zw_gt rfl rfl rfl) rfl rfl) rfl rfl) rfl rfl) rfl rfl) (zw_gt (zw_gt2 (zw_gt (zw_gt (zw_gt rfl rfl rfl) rfl rfl) rfl rfl) rfl rfl) rfl rfl) (zw_gt (zw_gt2 (zw_gt (zw_gt (zw_gt rfl rfl rfl) rfl rfl) rfl rfl) rfl rfl) rfl rfl) (zw_gt (zw_gt2 (zw_gt (zw_gt zw_g1 rfl rfl) rfl rfl) rfl rfl) rfl rfl) (zw_gt (zw_gt2 (zw_gt zw_g1 rfl rfl) rfl rfl) rfl rfl) (zw_gt (zw_gt2 zw_g1 rfl rfl) rfl rfl) (zw_gt zw_g2 rfl rfl) zw_g1 (fun lv1 k0 k1 k2 k3 k4 k5 k6 => ?_)
  refine zw_ld (n := 1) (k := 2) (f := zp_isI) (pc' := 137) rfl rfl k2 rfl rfl ?_
  refine zw_bne1 (g := 145) (pc' := 140) rfl rfl rfl (rfl : _ = (2 : Int)) (fun h8 => ?_) (fun h9 => absurd h9 (by decide))
  refine zw_ld (n := 1) (k := 2) (f := zp_isI) (pc' := 146) rfl rfl k2 rfl rfl ?_
  refine zw_s (pc' := 147) rfl rfl ?_
  refine zw_bne2 (g := 156) (pc' := 150) rfl rfl rfl (rfl : _ = (2 : Int)) (rfl : _ = (1 : Int)) (fun h8 => ?_) (fun h9 => absurd h9 (by decide))
  refine zw_ld (n := 1) (k := 2) (f := zp_isI) (pc' := 157) rfl rfl k2 rfl rfl ?_
  refine zw_s (pc' := 158) rfl rfl ?_
  refine zw_bne2 (g := 167) (pc' := 161) rfl rfl rfl (rfl : _ = (2 : Int)) (rfl : _ = (2 : Int)) (fun h9 => absurd h9 (by decide)) (fun h8 => ?_)
  refine zw_ld (n := 2) (k := 5) (f := zp_isI) (pc' := 163) rfl rfl k5 rfl rfl ?_
  refine zw_s (pc' := 164) rfl rfl ?_
  refine zw_s (pc' := 169) rfl rfl ?_
  refine zw_rl rfl rfl ?_
  rfl

theorem yr_hd3 {L : Nat} {σ : Nat → Int32} {d : Nat} {H : zp_H} (W : zw_W H) {x1 : Int32} (hx : 0 ≤ x1.toInt ∧ x1.toInt < (H.2.1 72 5).toInt) (h8 : x1.toInt < 8) (hm : 0 ≤ ((zw_I H 72 0 (Int32.ofInt 0)).2.1 74 (4 * x1.toInt.toNat + 2)).toInt ∧ ((zw_I H 72 0 (Int32.ofInt 0)).2.1 74 (4 * x1.toInt.toNat + 2)).toInt ≤ 8) (hw : ∀ j, j < ((zw_I H 72 0 (Int32.ofInt 0)).2.1 74 (4 * x1.toInt.toNat + 2)).toInt.toNat → 0 ≤ ((zw_I H 72 0 (Int32.ofInt 0)).2.1 75 (16 * x1.toInt.toNat + 2 * j)).toInt ∧ ((zw_I H 72 0 (Int32.ofInt 0)).2.1 75 (16 * x1.toInt.toNat + 2 * j)).toInt ≤ 3) (hh : 0 ≤ ((zw_I H 72 0 (Int32.ofInt 0)).2.1 72 6).toInt ∧ ((zw_I H 72 0 (Int32.ofInt 0)).2.1 72 6).toInt ≤ 5) : zp_Call L σ (d + 3) 245 [.inr (.inr (some 73)), .inl x1, .inl (Int32.ofInt 3)] H (.inl (some (.inr (.inl ((xHa (xPm (zw_I H 72 0 (Int32.ofInt 0)) x1.toInt.toNat ((zw_I H 72 0 (Int32.ofInt 0)).2.1 74 (4 * x1.toInt.toNat + 2)).toInt.toNat) ((zw_I H 72 0 (Int32.ofInt 0)).2.1 74 (4 * x1.toInt.toNat + 2)).toInt.toNat ((zw_I H 72 0 (Int32.ofInt 0)).2.1 72 6).toInt.toNat ((zw_I H 72 0 (Int32.ofInt 0)).2.1 72 6).toInt.toNat (Int32.ofInt 0) xT40).1)))), (zw_I H 72 0 (Int32.ofInt 0))) := by
  have h0 : ((zw_I H 72 0 (Int32.ofInt 0)).2.1 72 0).toInt = 0 := congrArg Int32.toInt zw_eq
  have e5 : (zw_I H 72 0 (Int32.ofInt 0)).2.1 72 5 = H.2.1 72 5 := zw_ne rfl rfl
  refine zw_ex (zw_met zm_245_t rfl rfl ?_)
  refine zw_ld (n := 1) (k := 0) (f := zp_isR) (pc' := 1) rfl rfl rfl rfl rfl ?_
  refine zw_s (pc' := 2) rfl rfl ?_
  refine zw_pI (q := 72) (pc' := 5) W rfl rfl rfl rfl rfl rfl ?_
  refine zw_ld (n := 1) (k := 0) (f := zp_isR) (pc' := 6) rfl rfl rfl rfl rfl ?_
  refine zw_ld (n := 1) (k := 1) (f := zp_isI) (pc' := 7) rfl rfl rfl rfl rfl ?_
  refine zw_c (pc' := 10) (zw_cv (q := 72) (Y := zm_210) (zw_W_I W).1 rfl rfl zm_210_t rfl rfl) rfl rfl rfl rfl rfl (zq_slate1 (zw_W_I W) h0 (by rw [e5]; exact hx)) ?_
  refine zw_beq1 (g := 22) (pc' := 13) rfl rfl rfl (rfl : _ = (1 : Int)) (fun h9 => absurd h9 (by decide)) (fun h7 => ?_)
  refine zw_ld (n := 1) (k := 0) (f := zp_isR) (pc' := 14) rfl rfl rfl rfl rfl ?_
  refine zw_ld (n := 1) (k := 2) (f := zp_isI) (pc' := 15) rfl rfl rfl rfl rfl ?_
  refine zw_s (pc' := 16) rfl rfl ?_
  refine zw_c (pc' := 19) (zw_cv (q := 72) (Y := zm_208) (zw_W_I W).1 rfl rfl zm_208_t rfl rfl) rfl rfl rfl rfl rfl (yr_wh1 (zw_W_I W) h0 ⟨by decide, by decide⟩) ?_
  refine zw_bne1 (g := 24) (pc' := 22) rfl rfl rfl (rfl : _ = (1 : Int)) (fun h7 => ?_) (fun h9 => absurd h9 (by decide))
  refine zw_s (pc' := 25) rfl rfl ?_
  refine zw_st (n := 1) (k := 3) (f := zp_isI) (pc' := 26) rfl rfl rfl rfl rfl ?_
  refine zw_s (pc' := 27) rfl rfl ?_
  refine zw_st (n := 2) (k := 4) (f := zp_isI) (pc' := 29) rfl rfl rfl rfl rfl ?_
  refine zw_s (pc' := 30) rfl rfl ?_
  refine zw_st (n := 2) (k := 5) (f := zp_isI) (pc' := 32) rfl rfl rfl rfl rfl ?_
  refine zw_s (pc' := 33) rfl rfl ?_
  refine zw_sl (n := 2) (k := 6) (pc' := 35) rfl rfl rfl rfl ?_
  refine zw_s (pc' := 36) rfl rfl ?_
  refine zw_st (n := 2) (k := 8) (f := zp_isI) (pc' := 38) rfl rfl rfl rfl rfl ?_
  refine yr_hkA (zw_W_I W) ⟨hx.1, h8⟩ hm hw hh ((zw_I H 72 0 (Int32.ofInt 0)).2.1 72 6).toInt.toNat _ (Int32.ofInt 0) xT40 (by decide) (by rw [show (Int32.ofInt 0).toInt = 0 by decide]; omega) (zw_gt (zw_gt2 (zw_gt (zw_gt (zw_gt rfl rfl rfl) rfl rfl) rfl rfl) rfl rfl) rfl rfl) (zw_gt (zw_gt2 (zw_gt (zw_gt (zw_gt rfl rfl rfl) rfl rfl) rfl rfl) rfl rfl) rfl rfl) (zw_gt (zw_gt2 (zw_gt (zw_gt (zw_gt rfl rfl rfl) rfl rfl) rfl rfl) rfl rfl) rfl rfl) (zw_gt (zw_gt2 (zw_gt (zw_gt zw_g1 rfl rfl) rfl rfl) rfl rfl) rfl rfl) (zw_gt (zw_gt2 (zw_gt zw_g1 rfl rfl) rfl rfl) rfl rfl) (zw_gt (zw_gt2 zw_g1 rfl rfl) rfl rfl) (zw_gt zw_g2 rfl rfl) zw_g1 (fun lv1 k0 k1 k2 k3 k4 k5 k6 => ?_)
  refine zw_ld (n := 1) (k := 2) (f := zp_isI) (pc' := 137) rfl rfl k2 rfl rfl ?_
  refine zw_bne1 (g := 145) (pc' := 140) rfl rfl rfl (rfl : _ = (3 : Int)) (fun h8 => ?_) (fun h9 => absurd h9 (by decide))
  refine zw_ld (n := 1) (k := 2) (f := zp_isI) (pc' := 146) rfl rfl k2 rfl rfl ?_
  refine zw_s (pc' := 147) rfl rfl ?_
  refine zw_bne2 (g := 156) (pc' := 150) rfl rfl rfl (rfl : _ = (3 : Int)) (rfl : _ = (1 : Int)) (fun h8 => ?_) (fun h9 => absurd h9 (by decide))
  refine zw_ld (n := 1) (k := 2) (f := zp_isI) (pc' := 157) rfl rfl k2 rfl rfl ?_
  refine zw_s (pc' := 158) rfl rfl ?_
  refine zw_bne2 (g := 167) (pc' := 161) rfl rfl rfl (rfl : _ = (3 : Int)) (rfl : _ = (2 : Int)) (fun h8 => ?_) (fun h9 => absurd h9 (by decide))
  refine zw_ld (n := 2) (k := 6) (f := zp_isL) (pc' := 169) rfl rfl k6 rfl rfl ?_
  refine zw_rl rfl rfl ?_
  rfl

theorem yr_hdn {L : Nat} {σ : Nat → Int32} {d : Nat} {H : zp_H} (W : zw_W H) {x1 x2 : Int32} (h : ¬ ((0 ≤ x1.toInt ∧ x1.toInt < (H.2.1 72 5).toInt) ∧ 0 ≤ x2.toInt ∧ x2.toInt ≤ (Int32.ofInt 3).toInt)) : zp_Call L σ (d + 3) 245 [.inr (.inr (some 73)), .inl x1, .inl x2] H (.inl (some (.inr (.inl (Int64.ofNat 0)))), zw_I (zw_I H 72 0 (Int32.ofInt 0)) 72 0 (Int32.ofInt 1)) := by
  have h0 : ((zw_I H 72 0 (Int32.ofInt 0)).2.1 72 0).toInt = 0 := congrArg Int32.toInt zw_eq
  have e5 : (zw_I H 72 0 (Int32.ofInt 0)).2.1 72 5 = H.2.1 72 5 := zw_ne rfl rfl
  refine zw_ex (zw_met zm_245_t rfl rfl ?_)
  refine zw_ld (n := 1) (k := 0) (f := zp_isR) (pc' := 1) rfl rfl rfl rfl rfl ?_
  refine zw_s (pc' := 2) rfl rfl ?_
  refine zw_pI (q := 72) (pc' := 5) W rfl rfl rfl rfl rfl rfl ?_
  refine zw_ld (n := 1) (k := 0) (f := zp_isR) (pc' := 6) rfl rfl rfl rfl rfl ?_
  refine zw_ld (n := 1) (k := 1) (f := zp_isI) (pc' := 7) rfl rfl rfl rfl rfl ?_
  by_cases h1 : 0 ≤ x1.toInt ∧ x1.toInt < (H.2.1 72 5).toInt
  · refine zw_c (pc' := 10) (zw_cv (q := 72) (Y := zm_210) (zw_W_I W).1 rfl rfl zm_210_t rfl rfl) rfl rfl rfl rfl rfl (zq_slate1 (zw_W_I W) h0 (by rw [e5]; exact h1)) ?_
    refine zw_beq1 (g := 22) (pc' := 13) rfl rfl rfl (rfl : _ = (1 : Int)) (fun h9 => absurd h9 (by decide)) (fun h7 => ?_)
    refine zw_ld (n := 1) (k := 0) (f := zp_isR) (pc' := 14) rfl rfl rfl rfl rfl ?_
    refine zw_ld (n := 1) (k := 2) (f := zp_isI) (pc' := 15) rfl rfl rfl rfl rfl ?_
    refine zw_s (pc' := 16) rfl rfl ?_
    refine zw_c (pc' := 19) (zw_cv (q := 72) (Y := zm_208) (zw_W_I W).1 rfl rfl zm_208_t rfl rfl) rfl rfl rfl rfl rfl (yr_wh0 (zw_W_I W) h0 (fun h9 => h ⟨h1, h9⟩)) ?_
    refine zw_bne1 (g := 24) (pc' := 22) rfl rfl rfl (rfl : _ = (0 : Int)) (fun h9 => absurd h9 (by decide)) (fun h7 => ?_)
    refine zw_s (pc' := 23) rfl rfl ?_
    refine zw_rl rfl rfl ?_
    rfl
  · refine zw_c (pc' := 10) (zw_cv (q := 72) (Y := zm_210) (zw_W_I W).1 rfl rfl zm_210_t rfl rfl) rfl rfl rfl rfl rfl (zq_slate0 (zw_W_I W) h0 (by rw [e5]; exact h1)) ?_
    refine zw_beq1 (g := 22) (pc' := 13) rfl rfl rfl (rfl : _ = (0 : Int)) (fun h7 => ?_) (fun h9 => absurd h9 (by decide))
    refine zw_s (pc' := 23) rfl rfl ?_
    refine zw_rl rfl rfl ?_
    rfl

theorem yb_hand {L : Nat} {σ : Nat → Int32} {d c t : Nat} {H : zp_H} {x1 x2 : Int32} (hI : yJ c t H) : ∃ H1 H2 v w, zp_Call L σ (d + 60) 157 [.inr (.inr (some 1)), .inl x1, .inl x2, .inr (.inr (some 105))] H (.inl (some (.inl v)), H1) ∧ zp_Call L σ (d + 60) 245 [.inr (.inr (some 73)), .inl x1, .inl x2] H1 (.inl (some (.inr (.inl w))), H2) ∧ H1.1 = zB_sh ∧ yJ c t H2 ∧ (H2.2.1 72 0).toInt = v.toInt ∧ (v.toInt = 0 → H2.2.2.1 104 0 = w) := by
  obtain ⟨H1, v, c1, hI1⟩ := yp_hand (L := L) (σ := σ) (d := d) (x1 := x1) (x2 := x2) hI
  obtain ⟨H2, w, c2, hI2⟩ := yq_hand (L := L) (σ := σ) (d := d) (x1 := x1) (x2 := x2) hI1
  have W1 := zB_Wd (zB_dn (zB_Bc hI1.1.1.1))
  obtain ⟨⟨A, a1, a2, a3⟩, -⟩ := id hI.2
  have n5 := a3.1
  have n0 := a2.1
  have n8 := a1.1
  obtain ⟨h0, q2, q3, -, -, q6, -⟩ := hI.1.2.2
  rcases h0 with rfl | rfl
  · have n0 : (H.2.1 13 0).toInt = A.1 := n0
    have e7 : H.2.1 2 7 = H.2.1 72 6 := q2 (7, 6) (by decide)
    have e7t := congrArg Int32.toInt e7
    have r7 := zB_fr1 (zB_dn (zB_Bc hI.1.1.1)) (p := 2) (k := 7) (r := (0, 5)) rfl
    have r7 : 0 ≤ (H.2.1 2 7).toInt ∧ (H.2.1 2 7).toInt ≤ 5 := r7
    have q6 : ∀ h w : Nat, (h : Int) < (H.2.1 72 6).toInt → w < 4 → H.2.1 6 (4 * h + w) = H.2.1 76 (4 * h + w) := q6
    by_cases h : (0 ≤ x1.toInt ∧ x1.toInt < (H.2.1 72 5).toInt) ∧ 0 ≤ x2.toInt ∧ x2.toInt ≤ (Int32.ofInt 3).toInt
    · have hs : x1.toInt.toNat < A.1 := by omega
      have h1' : 0 ≤ x1.toInt ∧ x1.toInt < (H.2.1 13 0).toInt := by rw [n0, ← n5]; exact h.1
      have hm := a1.2.2.1 x1.toInt.toNat hs
      have m1 : H.2.1 16 x1.toInt.toNat = A.2.2.1 x1.toInt.toNat 2 := a2.2.2.1 _ 2 hs (by decide)
      have l1 : H.2.1 74 (4 * x1.toInt.toNat + 2) = A.2.2.1 x1.toInt.toNat 2 := a3.2.2.1 _ 2 hs (by decide)
      have hw : ∀ j, j < (H.2.1 16 x1.toInt.toNat).toInt.toNat → 0 ≤ (H.2.1 18 (8 * x1.toInt.toNat + j)).toInt ∧ (H.2.1 18 (8 * x1.toInt.toNat + j)).toInt ≤ 3 := fun j hj => by
        rw [m1] at hj
        exact zB_ar1 (zB_dn (zB_Bc hI.1.1.1)) (p := 18) (t := 0) (n := 64) (i := 8 * x1.toInt.toNat + j) (r := (0, 3)) rfl (by omega) (by rw [show (zB_al zB_ar 18).1 = 1 from rfl, Nat.mod_one]; rfl)
      have g : ∀ k, k < (A.2.2.1 x1.toInt.toNat 2).toInt.toNat → H.2.1 75 (16 * x1.toInt.toNat + 2 * k) = H.2.1 18 (8 * x1.toInt.toNat + k) := fun k hk => (a3.2.2.2.1 _ k 0 hs hk (by decide)).trans (a2.2.2.2.1 _ k 0 hs hk (by decide)).symm
      have f4 : ∀ K, xFv 70 H K → ∀ u k, (zw_I (zw_J K 104 0 u) 72 0 (Int32.ofInt 0)).2.1 74 k = H.2.1 74 k := fun K hK u k => (zw_ne rfl rfl : _ = K.2.1 74 k).trans (hK.2.2.1 74 k (by decide))
      have f5 : ∀ K, xFv 70 H K → ∀ u k, (zw_I (zw_J K 104 0 u) 72 0 (Int32.ofInt 0)).2.1 75 k = H.2.1 75 k := fun K hK u k => (zw_ne rfl rfl : _ = K.2.1 75 k).trans (hK.2.2.1 75 k (by decide))
      have f6 : ∀ K, xFv 70 H K → ∀ u k, (zw_I (zw_J K 104 0 u) 72 0 (Int32.ofInt 0)).2.1 76 k = H.2.1 76 k := fun K hK u k => (zw_ne rfl rfl : _ = K.2.1 76 k).trans (hK.2.2.1 76 k (by decide))
      have f7 : ∀ K, xFv 70 H K → ∀ u, (zw_I (zw_J K 104 0 u) 72 0 (Int32.ofInt 0)).2.1 72 6 = H.2.1 72 6 := fun K hK u => (zw_ne rfl rfl : _ = K.2.1 72 6).trans (hK.2.2.1 72 6 (by decide))
      have key : ∀ K, xFv 70 H K → ∀ u, (xHa (xPm (zw_I (zw_J K 104 0 u) 72 0 (Int32.ofInt 0)) x1.toInt.toNat ((zw_I (zw_J K 104 0 u) 72 0 (Int32.ofInt 0)).2.1 74 (4 * x1.toInt.toNat + 2)).toInt.toNat) ((zw_I (zw_J K 104 0 u) 72 0 (Int32.ofInt 0)).2.1 74 (4 * x1.toInt.toNat + 2)).toInt.toNat ((zw_I (zw_J K 104 0 u) 72 0 (Int32.ofInt 0)).2.1 72 6).toInt.toNat ((zw_I (zw_J K 104 0 u) 72 0 (Int32.ofInt 0)).2.1 72 6).toInt.toNat (Int32.ofInt 0) xT40) = (xHa (xPc H 2 13 x1.toInt.toNat (H.2.1 16 x1.toInt.toNat).toInt.toNat) (H.2.1 16 x1.toInt.toNat).toInt.toNat (H.2.1 2 7).toInt.toNat (H.2.1 2 7).toInt.toNat (Int32.ofInt 0) xT40) := fun K hK u => by
        rw [f4 K hK, f7 K hK, l1, m1, e7]
        refine xHa_c (by omega) (fun a b k ha hb => ?_) _ _ _ (by decide) (by rw [show (Int32.ofInt 0).toInt = 0 by decide]; omega)
        refine xPr_c (nh := (H.2.1 72 6).toInt.toNat) (m := (A.2.2.1 x1.toInt.toNat 2).toInt.toNat) (by omega) ha hb (fun i hi => ⟨?_, ?_⟩) (fun g1 w1 hg1 hw1 => ?_) _ _ _ (by decide) (by rw [show (Int32.ofInt 0).toInt = 0 by decide]; omega)
        · exact (f5 K hK u _).trans (g i hi)
        · have b := hw i (by rw [m1]; exact hi)
          show ((zw_I (zw_J K 104 0 u) 72 0 (Int32.ofInt 0)).2.1 75 (16 * x1.toInt.toNat + 2 * i)).toInt.toNat < 4
          rw [f5 K hK, g i hi]
          omega
        · exact (f6 K hK u _).trans (q6 g1 w1 (by omega) hw1).symm
      rcases y0123 h.2 with rfl | rfl | rfl | rfl
      · obtain ⟨K, k1, k2⟩ := yl_hd0_0 (L := L) (σ := σ) (d := d + 55) (x1 := x1) hI.1.1.1 h1' (by rw [m1]; exact hm) hw
        have e1 := zp_Call_u c1 k1
        cases e1
        have j1 := yr_hd0 (L := L) (σ := σ) (d := d + 57) (x1 := x1) W1 (by rw [show (zw_J K 104 0 ((xHa (xPc H 2 13 x1.toInt.toNat (H.2.1 16 x1.toInt.toNat).toInt.toNat) (H.2.1 16 x1.toInt.toNat).toInt.toNat (H.2.1 2 7).toInt.toNat (H.2.1 2 7).toInt.toNat (Int32.ofInt 0) xT40).2.1.toInt64)).2.1 72 5 = H.2.1 72 5 from k2.2.2.1 72 5 (by decide)]; exact h.1) (by omega) (by rw [f4 K k2, l1]; exact hm) (fun j hj => by rw [f4 K k2, l1] at hj; rw [f5 K k2, g j hj]; exact hw j (by rw [m1]; exact hj)) (by rw [f7 K k2, ← e7]; exact r7)
        have e2 := zp_Call_u c2 j1
        cases e2
        refine ⟨_, _, _, _, c1, c2, hI1.1.1.1.1, hI2, congrArg Int32.toInt zw_eq, fun _ => ?_⟩
        rw [key K k2]
        exact zp_u_self K.2.2.1 104 0 _
      · obtain ⟨K, k1, k2⟩ := yl_hd0_1 (L := L) (σ := σ) (d := d + 55) (x1 := x1) hI.1.1.1 h1' (by rw [m1]; exact hm) hw
        have e1 := zp_Call_u c1 k1
        cases e1
        have j1 := yr_hd1 (L := L) (σ := σ) (d := d + 57) (x1 := x1) W1 (by rw [show (zw_J K 104 0 ((xHa (xPc H 2 13 x1.toInt.toNat (H.2.1 16 x1.toInt.toNat).toInt.toNat) (H.2.1 16 x1.toInt.toNat).toInt.toNat (H.2.1 2 7).toInt.toNat (H.2.1 2 7).toInt.toNat (Int32.ofInt 0) xT40).2.2.1.toInt64)).2.1 72 5 = H.2.1 72 5 from k2.2.2.1 72 5 (by decide)]; exact h.1) (by omega) (by rw [f4 K k2, l1]; exact hm) (fun j hj => by rw [f4 K k2, l1] at hj; rw [f5 K k2, g j hj]; exact hw j (by rw [m1]; exact hj)) (by rw [f7 K k2, ← e7]; exact r7)
        have e2 := zp_Call_u c2 j1
        cases e2
        refine ⟨_, _, _, _, c1, c2, hI1.1.1.1.1, hI2, congrArg Int32.toInt zw_eq, fun _ => ?_⟩
        rw [key K k2]
        exact zp_u_self K.2.2.1 104 0 _
      · obtain ⟨K, k1, k2⟩ := yl_hd0_2 (L := L) (σ := σ) (d := d + 55) (x1 := x1) hI.1.1.1 h1' (by rw [m1]; exact hm) hw
        have e1 := zp_Call_u c1 k1
        cases e1
        have j1 := yr_hd2 (L := L) (σ := σ) (d := d + 57) (x1 := x1) W1 (by rw [show (zw_J K 104 0 ((xHa (xPc H 2 13 x1.toInt.toNat (H.2.1 16 x1.toInt.toNat).toInt.toNat) (H.2.1 16 x1.toInt.toNat).toInt.toNat (H.2.1 2 7).toInt.toNat (H.2.1 2 7).toInt.toNat (Int32.ofInt 0) xT40).2.2.2.toInt64)).2.1 72 5 = H.2.1 72 5 from k2.2.2.1 72 5 (by decide)]; exact h.1) (by omega) (by rw [f4 K k2, l1]; exact hm) (fun j hj => by rw [f4 K k2, l1] at hj; rw [f5 K k2, g j hj]; exact hw j (by rw [m1]; exact hj)) (by rw [f7 K k2, ← e7]; exact r7)
        have e2 := zp_Call_u c2 j1
        cases e2
        refine ⟨_, _, _, _, c1, c2, hI1.1.1.1.1, hI2, congrArg Int32.toInt zw_eq, fun _ => ?_⟩
        rw [key K k2]
        exact zp_u_self K.2.2.1 104 0 _
      · obtain ⟨K, k1, k2⟩ := yl_hd0_3 (L := L) (σ := σ) (d := d + 55) (x1 := x1) hI.1.1.1 h1' (by rw [m1]; exact hm) hw
        have e1 := zp_Call_u c1 k1
        cases e1
        have j1 := yr_hd3 (L := L) (σ := σ) (d := d + 57) (x1 := x1) W1 (by rw [show (zw_J K 104 0 ((xHa (xPc H 2 13 x1.toInt.toNat (H.2.1 16 x1.toInt.toNat).toInt.toNat) (H.2.1 16 x1.toInt.toNat).toInt.toNat (H.2.1 2 7).toInt.toNat (H.2.1 2 7).toInt.toNat (Int32.ofInt 0) xT40).1)).2.1 72 5 = H.2.1 72 5 from k2.2.2.1 72 5 (by decide)]; exact h.1) (by omega) (by rw [f4 K k2, l1]; exact hm) (fun j hj => by rw [f4 K k2, l1] at hj; rw [f5 K k2, g j hj]; exact hw j (by rw [m1]; exact hj)) (by rw [f7 K k2, ← e7]; exact r7)
        have e2 := zp_Call_u c2 j1
        cases e2
        refine ⟨_, _, _, _, c1, c2, hI1.1.1.1.1, hI2, congrArg Int32.toInt zw_eq, fun _ => ?_⟩
        rw [key K k2]
        exact zp_u_self K.2.2.1 104 0 _
    · have e1 := zp_Call_u c1 (yl_hdn0 (L := L) (σ := σ) (d := d + 57) hI.1.1.1 (by rw [n0, ← n5]; exact h))
      cases e1
      have e2 := zp_Call_u c2 (yr_hdn (L := L) (σ := σ) (d := d + 57) W1 h)
      cases e2
      exact ⟨_, _, _, _, c1, c2, hI1.1.1.1.1, hI2, congrArg Int32.toInt zw_eq, fun h9 => absurd h9 (by decide)⟩
  · have n0 : (H.2.1 33 0).toInt = A.1 := n0
    have e7 : H.2.1 22 7 = H.2.1 72 6 := q2 (7, 6) (by decide)
    have e7t := congrArg Int32.toInt e7
    have r7 := zB_fr1 (zB_dn (zB_Bc hI.1.1.1)) (p := 22) (k := 7) (r := (0, 5)) rfl
    have r7 : 0 ≤ (H.2.1 22 7).toInt ∧ (H.2.1 22 7).toInt ≤ 5 := r7
    have q6 : ∀ h w : Nat, (h : Int) < (H.2.1 72 6).toInt → w < 4 → H.2.1 26 (4 * h + w) = H.2.1 76 (4 * h + w) := q6
    by_cases h : (0 ≤ x1.toInt ∧ x1.toInt < (H.2.1 72 5).toInt) ∧ 0 ≤ x2.toInt ∧ x2.toInt ≤ (Int32.ofInt 3).toInt
    · have hs : x1.toInt.toNat < A.1 := by omega
      have h1' : 0 ≤ x1.toInt ∧ x1.toInt < (H.2.1 33 0).toInt := by rw [n0, ← n5]; exact h.1
      have hm := a1.2.2.1 x1.toInt.toNat hs
      have m1 : H.2.1 36 x1.toInt.toNat = A.2.2.1 x1.toInt.toNat 2 := a2.2.2.1 _ 2 hs (by decide)
      have l1 : H.2.1 74 (4 * x1.toInt.toNat + 2) = A.2.2.1 x1.toInt.toNat 2 := a3.2.2.1 _ 2 hs (by decide)
      have hw : ∀ j, j < (H.2.1 36 x1.toInt.toNat).toInt.toNat → 0 ≤ (H.2.1 38 (8 * x1.toInt.toNat + j)).toInt ∧ (H.2.1 38 (8 * x1.toInt.toNat + j)).toInt ≤ 3 := fun j hj => by
        rw [m1] at hj
        exact zB_ar1 (zB_dn (zB_Bc hI.1.1.1)) (p := 38) (t := 0) (n := 64) (i := 8 * x1.toInt.toNat + j) (r := (0, 3)) rfl (by omega) (by rw [show (zB_al zB_ar 38).1 = 1 from rfl, Nat.mod_one]; rfl)
      have g : ∀ k, k < (A.2.2.1 x1.toInt.toNat 2).toInt.toNat → H.2.1 75 (16 * x1.toInt.toNat + 2 * k) = H.2.1 38 (8 * x1.toInt.toNat + k) := fun k hk => (a3.2.2.2.1 _ k 0 hs hk (by decide)).trans (a2.2.2.2.1 _ k 0 hs hk (by decide)).symm
      have f4 : ∀ K, xFv 70 H K → ∀ u k, (zw_I (zw_J K 104 0 u) 72 0 (Int32.ofInt 0)).2.1 74 k = H.2.1 74 k := fun K hK u k => (zw_ne rfl rfl : _ = K.2.1 74 k).trans (hK.2.2.1 74 k (by decide))
      have f5 : ∀ K, xFv 70 H K → ∀ u k, (zw_I (zw_J K 104 0 u) 72 0 (Int32.ofInt 0)).2.1 75 k = H.2.1 75 k := fun K hK u k => (zw_ne rfl rfl : _ = K.2.1 75 k).trans (hK.2.2.1 75 k (by decide))
      have f6 : ∀ K, xFv 70 H K → ∀ u k, (zw_I (zw_J K 104 0 u) 72 0 (Int32.ofInt 0)).2.1 76 k = H.2.1 76 k := fun K hK u k => (zw_ne rfl rfl : _ = K.2.1 76 k).trans (hK.2.2.1 76 k (by decide))
      have f7 : ∀ K, xFv 70 H K → ∀ u, (zw_I (zw_J K 104 0 u) 72 0 (Int32.ofInt 0)).2.1 72 6 = H.2.1 72 6 := fun K hK u => (zw_ne rfl rfl : _ = K.2.1 72 6).trans (hK.2.2.1 72 6 (by decide))
      have key : ∀ K, xFv 70 H K → ∀ u, (xHa (xPm (zw_I (zw_J K 104 0 u) 72 0 (Int32.ofInt 0)) x1.toInt.toNat ((zw_I (zw_J K 104 0 u) 72 0 (Int32.ofInt 0)).2.1 74 (4 * x1.toInt.toNat + 2)).toInt.toNat) ((zw_I (zw_J K 104 0 u) 72 0 (Int32.ofInt 0)).2.1 74 (4 * x1.toInt.toNat + 2)).toInt.toNat ((zw_I (zw_J K 104 0 u) 72 0 (Int32.ofInt 0)).2.1 72 6).toInt.toNat ((zw_I (zw_J K 104 0 u) 72 0 (Int32.ofInt 0)).2.1 72 6).toInt.toNat (Int32.ofInt 0) xT40) = (xHa (xPc H 22 33 x1.toInt.toNat (H.2.1 36 x1.toInt.toNat).toInt.toNat) (H.2.1 36 x1.toInt.toNat).toInt.toNat (H.2.1 22 7).toInt.toNat (H.2.1 22 7).toInt.toNat (Int32.ofInt 0) xT40) := fun K hK u => by
        rw [f4 K hK, f7 K hK, l1, m1, e7]
        refine xHa_c (by omega) (fun a b k ha hb => ?_) _ _ _ (by decide) (by rw [show (Int32.ofInt 0).toInt = 0 by decide]; omega)
        refine xPr_c (nh := (H.2.1 72 6).toInt.toNat) (m := (A.2.2.1 x1.toInt.toNat 2).toInt.toNat) (by omega) ha hb (fun i hi => ⟨?_, ?_⟩) (fun g1 w1 hg1 hw1 => ?_) _ _ _ (by decide) (by rw [show (Int32.ofInt 0).toInt = 0 by decide]; omega)
        · exact (f5 K hK u _).trans (g i hi)
        · have b := hw i (by rw [m1]; exact hi)
          show ((zw_I (zw_J K 104 0 u) 72 0 (Int32.ofInt 0)).2.1 75 (16 * x1.toInt.toNat + 2 * i)).toInt.toNat < 4
          rw [f5 K hK, g i hi]
          omega
        · exact (f6 K hK u _).trans (q6 g1 w1 (by omega) hw1).symm
      rcases y0123 h.2 with rfl | rfl | rfl | rfl
      · obtain ⟨K, k1, k2⟩ := yl_hd3_0 (L := L) (σ := σ) (d := d + 55) (x1 := x1) hI.1.1.1 h1' (by rw [m1]; exact hm) hw
        have e1 := zp_Call_u c1 k1
        cases e1
        have j1 := yr_hd0 (L := L) (σ := σ) (d := d + 57) (x1 := x1) W1 (by rw [show (zw_J K 104 0 ((xHa (xPc H 22 33 x1.toInt.toNat (H.2.1 36 x1.toInt.toNat).toInt.toNat) (H.2.1 36 x1.toInt.toNat).toInt.toNat (H.2.1 22 7).toInt.toNat (H.2.1 22 7).toInt.toNat (Int32.ofInt 0) xT40).2.1.toInt64)).2.1 72 5 = H.2.1 72 5 from k2.2.2.1 72 5 (by decide)]; exact h.1) (by omega) (by rw [f4 K k2, l1]; exact hm) (fun j hj => by rw [f4 K k2, l1] at hj; rw [f5 K k2, g j hj]; exact hw j (by rw [m1]; exact hj)) (by rw [f7 K k2, ← e7]; exact r7)
        have e2 := zp_Call_u c2 j1
        cases e2
        refine ⟨_, _, _, _, c1, c2, hI1.1.1.1.1, hI2, congrArg Int32.toInt zw_eq, fun _ => ?_⟩
        rw [key K k2]
        exact zp_u_self K.2.2.1 104 0 _
      · obtain ⟨K, k1, k2⟩ := yl_hd3_1 (L := L) (σ := σ) (d := d + 55) (x1 := x1) hI.1.1.1 h1' (by rw [m1]; exact hm) hw
        have e1 := zp_Call_u c1 k1
        cases e1
        have j1 := yr_hd1 (L := L) (σ := σ) (d := d + 57) (x1 := x1) W1 (by rw [show (zw_J K 104 0 ((xHa (xPc H 22 33 x1.toInt.toNat (H.2.1 36 x1.toInt.toNat).toInt.toNat) (H.2.1 36 x1.toInt.toNat).toInt.toNat (H.2.1 22 7).toInt.toNat (H.2.1 22 7).toInt.toNat (Int32.ofInt 0) xT40).2.2.1.toInt64)).2.1 72 5 = H.2.1 72 5 from k2.2.2.1 72 5 (by decide)]; exact h.1) (by omega) (by rw [f4 K k2, l1]; exact hm) (fun j hj => by rw [f4 K k2, l1] at hj; rw [f5 K k2, g j hj]; exact hw j (by rw [m1]; exact hj)) (by rw [f7 K k2, ← e7]; exact r7)
        have e2 := zp_Call_u c2 j1
        cases e2
        refine ⟨_, _, _, _, c1, c2, hI1.1.1.1.1, hI2, congrArg Int32.toInt zw_eq, fun _ => ?_⟩
        rw [key K k2]
        exact zp_u_self K.2.2.1 104 0 _
      · obtain ⟨K, k1, k2⟩ := yl_hd3_2 (L := L) (σ := σ) (d := d + 55) (x1 := x1) hI.1.1.1 h1' (by rw [m1]; exact hm) hw
        have e1 := zp_Call_u c1 k1
        cases e1
        have j1 := yr_hd2 (L := L) (σ := σ) (d := d + 57) (x1 := x1) W1 (by rw [show (zw_J K 104 0 ((xHa (xPc H 22 33 x1.toInt.toNat (H.2.1 36 x1.toInt.toNat).toInt.toNat) (H.2.1 36 x1.toInt.toNat).toInt.toNat (H.2.1 22 7).toInt.toNat (H.2.1 22 7).toInt.toNat (Int32.ofInt 0) xT40).2.2.2.toInt64)).2.1 72 5 = H.2.1 72 5 from k2.2.2.1 72 5 (by decide)]; exact h.1) (by omega) (by rw [f4 K k2, l1]; exact hm) (fun j hj => by rw [f4 K k2, l1] at hj; rw [f5 K k2, g j hj]; exact hw j (by rw [m1]; exact hj)) (by rw [f7 K k2, ← e7]; exact r7)
        have e2 := zp_Call_u c2 j1
        cases e2
        refine ⟨_, _, _, _, c1, c2, hI1.1.1.1.1, hI2, congrArg Int32.toInt zw_eq, fun _ => ?_⟩
        rw [key K k2]
        exact zp_u_self K.2.2.1 104 0 _
      · obtain ⟨K, k1, k2⟩ := yl_hd3_3 (L := L) (σ := σ) (d := d + 55) (x1 := x1) hI.1.1.1 h1' (by rw [m1]; exact hm) hw
        have e1 := zp_Call_u c1 k1
        cases e1
        have j1 := yr_hd3 (L := L) (σ := σ) (d := d + 57) (x1 := x1) W1 (by rw [show (zw_J K 104 0 ((xHa (xPc H 22 33 x1.toInt.toNat (H.2.1 36 x1.toInt.toNat).toInt.toNat) (H.2.1 36 x1.toInt.toNat).toInt.toNat (H.2.1 22 7).toInt.toNat (H.2.1 22 7).toInt.toNat (Int32.ofInt 0) xT40).1)).2.1 72 5 = H.2.1 72 5 from k2.2.2.1 72 5 (by decide)]; exact h.1) (by omega) (by rw [f4 K k2, l1]; exact hm) (fun j hj => by rw [f4 K k2, l1] at hj; rw [f5 K k2, g j hj]; exact hw j (by rw [m1]; exact hj)) (by rw [f7 K k2, ← e7]; exact r7)
        have e2 := zp_Call_u c2 j1
        cases e2
        refine ⟨_, _, _, _, c1, c2, hI1.1.1.1.1, hI2, congrArg Int32.toInt zw_eq, fun _ => ?_⟩
        rw [key K k2]
        exact zp_u_self K.2.2.1 104 0 _
    · have e1 := zp_Call_u c1 (yl_hdn3 (L := L) (σ := σ) (d := d + 57) hI.1.1.1 (by rw [n0, ← n5]; exact h))
      cases e1
      have e2 := zp_Call_u c2 (yr_hdn (L := L) (σ := σ) (d := d + 57) W1 h)
      cases e2
      exact ⟨_, _, _, _, c1, c2, hI1.1.1.1.1, hI2, congrArg Int32.toInt zw_eq, fun h9 => absurd h9 (by decide)⟩
