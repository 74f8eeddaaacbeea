/-! ===== where he may be: the class ===== -/
def zm_124 : za_MI := (yX3_cellsBehind, prog_5_method_2_code, 7, (some FieldType.long), 3, 0, 0, [], za_i124)
theorem zm_124_t : za_MT 124 = some zm_124 := rfl
def zm_125 : za_MI := (yX0_isRubbed, prog_2_method_7_code, 3, (some FieldType.boolean), 0, 0, 0, [], za_i125)
theorem zm_125_t : za_MT 125 = some zm_125 := rfl
def zm_126 : za_MI := (yX3_sailAnyhow, prog_5_method_5_code, 12, none, 3, 0, 0, [], za_i126)
theorem zm_126_t : za_MT 126 = some zm_126 := rfl
def zm_127 : za_MI := (yX3_sailStep, prog_5_method_3_code, 5, none, 3, 0, 0, [], za_i127)
theorem zm_127_t : za_MT 127 = some zm_127 := rfl
def zm_128 : za_MI := (yX10_sailed, prog_12_method_14_code, 7, (some FieldType.long), 10, 0, 0, [], za_i128)
theorem zm_128_t : za_MT 128 = some zm_128 := rfl
def zm_129 : za_MI := (yX10_moved, prog_12_method_13_code, 6, (some FieldType.long), 10, 0, 0, [], za_i129)
theorem zm_129_t : za_MT 129 = some zm_129 := rfl
def zm_130 : za_MI := (yX10_driven, prog_12_method_15_code, 10, (some FieldType.long), 10, 0, 0, [], za_i130)
theorem zm_130_t : za_MT 130 = some zm_130 := rfl
def zm_131 : za_MI := (yX3_sailMark, prog_5_method_4_code, 5, none, 3, 0, 0, [], za_i131)
theorem zm_131_t : za_MT 131 = some zm_131 := rfl
/-- the class's masks of currents -/
def xCM (p : Nat) (H : zp_H) (S : xSea) : Prop := ∀ w : Nat, w < 4 → ∀ c : Nat, c < 64 → (yTb (H.2.2.1 (p + 3) w) c = true ↔ S.2.2.2 c = (w : Int))
theorem xJJ0 {H : zp_H} {a b : Int64} : (zw_J (zw_J H 55 0 a) 55 1 b).2.2.1 55 0 = a := by
  first
    | rfl
    | (show zp_u (zp_u H.2.2.1 55 0 a) 55 1 b 55 0 = a; exact (zp_u_ne (by decide)).trans (zp_u_self _ _ _ _))
theorem xJJ1 {H : zp_H} {a b : Int64} : (zw_J (zw_J H 55 0 a) 55 1 b).2.2.1 55 1 = b := by
  first
    | rfl
    | exact zp_u_self _ _ _ _
theorem xCM_v {q p : Nat} {H H1 : zp_H} {S : xSea} (h : xFv q H H1) (hp : p + 3 ≠ q) (hM : xCM p H S) : xCM p H1 S := fun w hw c hc => by
  rw [h.2.2.2 (p + 3) w hp]
  exact hM w hw c hc
theorem xSC_o {p k : Nat} {H : zp_H} {S : xSea} (hS : xOk S) (hC : xSC p H S) (hk : k < 4) : ∀ c : Nat, yTb (H.2.2.1 (p + 1) k) c = true ↔ ((c : Int) < S.1 * S.2.1 ∧ xBe S.1 S.2.1 c k ≠ -1) := by
  intro c
  have h9 : S.1 * S.2.1 ≤ 8 * 8 := Int.mul_le_mul hS.1.2 hS.2.1.2 (by have := hS.2.1; omega) (by omega)
  by_cases hc : c < 64
  · rw [hC.2.2.2.2 k hk]
    have t := xO_ok (w := H.2.1 p 0) (h := H.2.1 p 1) (k := k) (c := c) (by rw [hC.1]; exact hS.1) (by rw [hC.2.1]; exact hS.2.1) hk hc
    rw [hC.1, hC.2.1] at t
    exact t
  · rw [tb_hi (Nat.le_of_not_lt hc)]
    exact ⟨fun h => (by cases h), fun h => by have := h.1; omega⟩
theorem xSC_n {p k : Nat} {H : zp_H} {S : xSea} (hS : xOk S) (hC : xSC p H S) (hk : k < 4) : ∀ c : Nat, (c : Int) < S.1 * S.2.1 → xBe S.1 S.2.1 c k ≠ -1 → xBe S.1 S.2.1 c k = zq_n k c S.1 := by
  intro c h1 h2
  have t := xO_v (w := H.2.1 p 0) (h := H.2.1 p 1) (k := k) (c := c) (by rw [hC.1]; exact hS.1) (by rw [hC.2.1]; exact hS.2.1) hk (by rw [hC.1, hC.2.1]; exact h1) (by rw [hC.1, hC.2.1]; exact h2)
  rw [hC.1, hC.2.1] at t
  exact t
theorem xBe_0 {S : xSea} {w : Int} (hS : xOk S) : ∀ c : Nat, 0 ≤ xBe S.1 S.2.1 c w ∨ xBe S.1 S.2.1 c w = -1 := fun c => by
  rcases xBe_b (h := S.2.1) (c := (c : Int)) (d := w) hS.1.1 with h | h
  · exact Or.inr h
  · exact Or.inl h.1
theorem xMw_in {S : xSea} {w : Int} {X Y : Int64} (hS : xOk S) (h : xMw S w X Y) : ∀ k : Nat, k < 64 → yTb Y k = true → (k : Int) < S.1 * S.2.1 := by
  intro k hk hb
  obtain ⟨c, -, -, c3⟩ := (h k hk).mp hb
  rcases xBe_b (h := S.2.1) (c := (c : Int)) (d := w) hS.1.1 with h9 | h9
  · omega
  · omega
/-- a drift, said of the masks -/
theorem xS2s_of {S : xSea} {A C0 C1 C2 C3 O0 O1 O2 O3 m0 m1 m2 m3 : Int64} (hS : xOk S) (hA : ∀ k : Nat, k < 64 → yTb A k = true → (k : Int) < S.1 * S.2.1)
    (c0 : ∀ c : Nat, c < 64 → (yTb C0 c = true ↔ S.2.2.2 c = 0)) (c1 : ∀ c : Nat, c < 64 → (yTb C1 c = true ↔ S.2.2.2 c = 1)) (c2 : ∀ c : Nat, c < 64 → (yTb C2 c = true ↔ S.2.2.2 c = 2)) (c3 : ∀ c : Nat, c < 64 → (yTb C3 c = true ↔ S.2.2.2 c = 3))
    (o0 : ∀ c : Nat, yTb O0 c = true ↔ ((c : Int) < S.1 * S.2.1 ∧ xBe S.1 S.2.1 c 0 ≠ -1)) (o1 : ∀ c : Nat, yTb O1 c = true ↔ ((c : Int) < S.1 * S.2.1 ∧ xBe S.1 S.2.1 c 1 ≠ -1)) (o2 : ∀ c : Nat, yTb O2 c = true ↔ ((c : Int) < S.1 * S.2.1 ∧ xBe S.1 S.2.1 c 2 ≠ -1)) (o3 : ∀ c : Nat, yTb O3 c = true ↔ ((c : Int) < S.1 * S.2.1 ∧ xBe S.1 S.2.1 c 3 ≠ -1))
    (h0 : xMw S 0 (A &&& C0 &&& O0) m0) (h1 : xMw S 1 (A &&& C1 &&& O1) m1) (h2 : xMw S 2 (A &&& C2 &&& O2) m2) (h3 : xMw S 3 (A &&& C3 &&& O3) m3) :
    xS2s S A ((A &&& ((A &&& C0 &&& O0) ^^^ Int64.ofInt (-1)) &&& ((A &&& C1 &&& O1) ^^^ Int64.ofInt (-1)) &&& ((A &&& C2 &&& O2) ^^^ Int64.ofInt (-1)) &&& ((A &&& C3 &&& O3) ^^^ Int64.ofInt (-1))) ||| ((Int64.ofNat 0 ||| m0 ||| m1 ||| m2 ||| m3) &&& (S.2.2.1 ^^^ Int64.ofInt (-1)))) := by
  have h9 : S.1 * S.2.1 ≤ 8 * 8 := Int.mul_le_mul hS.1.2 hS.2.1.2 (by have := hS.2.1; omega) (by omega)
  have dr : ∀ c : Nat, S.2.2.2 c ≠ -1 → xDr S c 0 true = xBe S.1 S.2.1 c (S.2.2.2 c) := fun c hc => if_pos ⟨rfl, by decide, by rw [Int.toNat_natCast]; exact hc⟩ |>.trans (by rw [Int.toNat_natCast])
  have dn : ∀ c : Nat, S.2.2.2 c = -1 → xDr S c 0 true = -1 := fun c hc => if_neg (fun h8 => h8.2.2 (by rw [Int.toNat_natCast]; exact hc))
  have ex : ∀ {w : Int} {C O m : Int64}, (∀ c : Nat, c < 64 → (yTb C c = true ↔ S.2.2.2 c = w)) → w ≠ -1 → (∀ c : Nat, yTb O c = true ↔ ((c : Int) < S.1 * S.2.1 ∧ xBe S.1 S.2.1 c w ≠ -1)) → xMw S w (A &&& C &&& O) m → ∀ k : Nat, k < 64 → (yTb m k = true ↔ ∃ c : Nat, (c : Int) < S.1 * S.2.1 ∧ yTb A c = true ∧ S.2.2.2 c = w ∧ xDr S c 0 true = (k : Int)) := by
    intro w C O m hc hw ho hm k hk
    rw [hm k hk]
    constructor
    · rintro ⟨c, d1, d2, d3⟩
      rw [tb_and, tb_and, Bool.and_eq_true_iff, Bool.and_eq_true_iff] at d2
      have d4 := (hc c (by omega)).mp d2.1.2
      exact ⟨c, d1, d2.1.1, d4, by rw [dr c (by rw [d4]; exact hw), d4]; exact d3⟩
    · rintro ⟨c, d1, d2, d3, d4⟩
      rw [dr c (by rw [d3]; exact hw), d3] at d4
      refine ⟨c, d1, ?_, d4⟩
      rw [tb_and, tb_and, Bool.and_eq_true_iff, Bool.and_eq_true_iff]
      exact ⟨⟨d2, (hc c (by omega)).mpr d3⟩, (ho c).mpr ⟨d1, by rw [d4]; omega⟩⟩
  have st : ∀ {w : Int} {C O : Int64}, (∀ c : Nat, c < 64 → (yTb C c = true ↔ S.2.2.2 c = w)) → w ≠ -1 → (∀ c : Nat, yTb O c = true ↔ ((c : Int) < S.1 * S.2.1 ∧ xBe S.1 S.2.1 c w ≠ -1)) → ∀ k : Nat, k < 64 → yTb A k = true → (yTb ((A &&& C &&& O) ^^^ Int64.ofInt (-1)) k = true ↔ ¬ (S.2.2.2 k = w ∧ xDr S k 0 true ≠ -1)) := by
    intro w C O hc hw ho k hk ha
    rw [tb_not hk, tb_and, tb_and, ha, Bool.true_and]
    constructor
    · rintro d ⟨d1, d2⟩
      rw [dr k (by rw [d1]; exact hw), d1] at d2
      rw [(hc k hk).mpr d1, (ho k).mpr ⟨hA k hk ha, d2⟩] at d
      cases d
    · intro d
      cases e1 : yTb C k with
      | false => rfl
      | true =>
        cases e2 : yTb O k with
        | false => rfl
        | true =>
          have d1 := (hc k hk).mp e1
          exact absurd ⟨d1, by rw [dr k (by rw [d1]; exact hw), d1]; exact ((ho k).mp e2).2⟩ d
  intro k hk
  rw [tb_or, Bool.or_eq_true_iff, tb_and, tb_and, tb_and, tb_and, Bool.and_eq_true_iff, Bool.and_eq_true_iff, Bool.and_eq_true_iff, Bool.and_eq_true_iff, tb_and, Bool.and_eq_true_iff, tb_or, tb_or, tb_or, tb_or, tb_0, Bool.false_or, Bool.or_eq_true_iff, Bool.or_eq_true_iff, Bool.or_eq_true_iff, ex c0 (by decide) o0 h0 k hk, ex c1 (by decide) o1 h1 k hk, ex c2 (by decide) o2 h2 k hk, ex c3 (by decide) o3 h3 k hk]
  constructor
  · rintro (⟨⟨⟨⟨a, e0⟩, e1⟩, e2⟩, e3⟩ | ⟨hm, hr⟩)
    · have e0 := (st c0 (by decide) o0 k hk a).mp e0
      have e1 := (st c1 (by decide) o1 k hk a).mp e1
      have e2 := (st c2 (by decide) o2 k hk a).mp e2
      have e3 := (st c3 (by decide) o3 k hk a).mp e3
      refine ⟨k, hA k hk a, a, xS2_n (Classical.byContradiction (fun hn => ?_))⟩
      have hb := hS.2.2 k
      rcases (show S.2.2.2 k = -1 ∨ S.2.2.2 k = 0 ∨ S.2.2.2 k = 1 ∨ S.2.2.2 k = 2 ∨ S.2.2.2 k = 3 by omega) with hc | hc | hc | hc | hc
      · exact hn (dn k hc)
      · exact e0 ⟨hc, hn⟩
      · exact e1 ⟨hc, hn⟩
      · exact e2 ⟨hc, hn⟩
      · exact e3 ⟨hc, hn⟩
    · have key : ∃ c : Nat, (c : Int) < S.1 * S.2.1 ∧ yTb A c = true ∧ xDr S c 0 true = (k : Int) := by
        rcases hm with ((⟨c, d1, d2, -, d4⟩ | ⟨c, d1, d2, -, d4⟩) | ⟨c, d1, d2, -, d4⟩) | ⟨c, d1, d2, -, d4⟩ <;> exact ⟨c, d1, d2, d4⟩
      obtain ⟨c, d1, d2, d4⟩ := key
      refine ⟨c, d1, d2, ?_⟩
      rw [xS2_f (by rw [d4]; omega) (by
        rw [d4, Int.toNat_natCast]
        intro h8
        rw [tb_not hk, h8] at hr
        cases hr), d4]
  · rintro ⟨c, d1, d2, d3⟩
    by_cases hn : xDr S c 0 true = -1
    · rw [xS2_n hn] at d3
      have e : (c : Int) = (k : Int) := congrArg Prod.snd d3
      obtain rfl : c = k := by omega
      exact Or.inl ⟨⟨⟨⟨d2, (st c0 (by decide) o0 c hk d2).mpr (fun h8 => h8.2 hn)⟩, (st c1 (by decide) o1 c hk d2).mpr (fun h8 => h8.2 hn)⟩, (st c2 (by decide) o2 c hk d2).mpr (fun h8 => h8.2 hn)⟩, (st c3 (by decide) o3 c hk d2).mpr (fun h8 => h8.2 hn)⟩
    · by_cases hr : yTb S.2.2.1 (xDr S c 0 true).toNat = true
      · rw [xS2_r hn hr] at d3
        exact absurd (show (2 : Int) = 0 from congrArg Prod.fst d3) (by decide)
      · rw [xS2_f hn hr] at d3
        have e : xDr S c 0 true = (k : Int) := congrArg Prod.snd d3
        rw [e, Int.toNat_natCast] at hr
        have hr' : yTb (S.2.2.1 ^^^ Int64.ofInt (-1)) k = true := by
          rw [tb_not hk]
          cases h8 : yTb S.2.2.1 k with
          | true => exact absurd h8 hr
          | false => rfl
        refine Or.inr ⟨?_, hr'⟩
        have hb := hS.2.2 c
        rcases (show S.2.2.2 c = -1 ∨ S.2.2.2 c = 0 ∨ S.2.2.2 c = 1 ∨ S.2.2.2 c = 2 ∨ S.2.2.2 c = 3 by omega) with hc | hc | hc | hc | hc
        · exact absurd (dn c hc) hn
        · exact Or.inl (Or.inl (Or.inl ⟨c, d1, d2, hc, e⟩))
        · exact Or.inl (Or.inl (Or.inr ⟨c, d1, d2, hc, e⟩))
        · exact Or.inl (Or.inr ⟨c, d1, d2, hc, e⟩)
        · exact Or.inr ⟨c, d1, d2, hc, e⟩
/-- a mark is rubbed -/
def xRb (v i : Int32) : Bool := decide (¬ ((v >>> (i &&& 31)) &&& Int32.ofInt 1).toInt = 0)
theorem yc_mv2_0 {L : Nat} {σ : Nat → Int32} {d : Nat} {H : zp_H} {X : Int64} (W : zw_W H) {S : xSea} (hS : xOk S) (hC : xSC 2 H S) : ∃ Z, zp_Call L σ (d + 1) 129 [.inr (.inr (some 3)), .inr (.inl X), .inl (Int32.ofInt 0)] H Z ∧ ∃ Y : Int64, Z = (.inl (some (.inr (.inl Y))), H) ∧ xMw S 0 X Y := by
  have e : (Int32.ofInt 0).toInt.toNat = 0 := by decide
  have ho := xSC_o (k := 0) hS hC (by decide)
  have hn := xSC_n (k := 0) hS hC (by decide)
  have hw := hC.1
  refine zw_met zm_129_t rfl rfl ?_
  refine zw_ld (n := 1) (k := 1) (f := zp_isL) (pc' := 1) rfl rfl rfl rfl rfl ?_
  refine zw_ld (n := 1) (k := 0) (f := zp_isR) (pc' := 2) rfl rfl rfl rfl rfl ?_
  refine zw_gR (q := 2) (pc' := 5) W rfl rfl rfl rfl (W.2 2 4 _ rfl) rfl ?_
  refine zw_ld (n := 1) (k := 3) (f := zp_isI) (pc' := 6) rfl rfl rfl rfl rfl ?_
  refine zw_la (q := 3) (pc' := 7) W rfl rfl (⟨by decide, by decide⟩) rfl ?_
  rw [e]
  refine zw_land (pc' := 8) rfl rfl ?_
  refine zw_sl (n := 2) (k := 4) (pc' := 10) rfl rfl rfl rfl ?_
  refine zw_ld (n := 1) (k := 3) (f := zp_isI) (pc' := 11) rfl rfl (zw_gt2 rfl rfl rfl) rfl rfl ?_
  refine zw_s (pc' := 36) rfl rfl ?_
  refine zw_ld (n := 2) (k := 4) (f := zp_isL) (pc' := 38) rfl rfl zw_g2 rfl rfl ?_
  refine zw_ld (n := 1) (k := 0) (f := zp_isR) (pc' := 39) rfl rfl (zw_gt2 rfl rfl rfl) rfl rfl ?_
  refine zw_gI (q := 2) (pc' := 42) W rfl rfl rfl rfl rfl rfl ?_
  refine zw_lushr (pc' := 43) rfl rfl ?_
  refine zw_rl rfl rfl ?_
  have hb := hS.1
  exact ⟨_, rfl, xMw_r (w := 0) (by omega) ho (fun c a b => (hn c a b).trans (show (c : Int) - S.1 = (c : Int) - (H.2.1 2 0).toInt by rw [hw])) (xBe_0 hS)⟩

theorem yc_mv2_1 {L : Nat} {σ : Nat → Int32} {d : Nat} {H : zp_H} {X : Int64} (W : zw_W H) {S : xSea} (hS : xOk S) (hC : xSC 2 H S) : ∃ Z, zp_Call L σ (d + 1) 129 [.inr (.inr (some 3)), .inr (.inl X), .inl (Int32.ofInt 1)] H Z ∧ ∃ Y : Int64, Z = (.inl (some (.inr (.inl Y))), H) ∧ xMw S 1 X Y := by
  have e : (Int32.ofInt 1).toInt.toNat = 1 := by decide
  have ho := xSC_o (k := 1) hS hC (by decide)
  have hn := xSC_n (k := 1) hS hC (by decide)
  have hw := hC.1
  refine zw_met zm_129_t rfl rfl ?_
  refine zw_ld (n := 1) (k := 1) (f := zp_isL) (pc' := 1) rfl rfl rfl rfl rfl ?_
  refine zw_ld (n := 1) (k := 0) (f := zp_isR) (pc' := 2) rfl rfl rfl rfl rfl ?_
  refine zw_gR (q := 2) (pc' := 5) W rfl rfl rfl rfl (W.2 2 4 _ rfl) rfl ?_
  refine zw_ld (n := 1) (k := 3) (f := zp_isI) (pc' := 6) rfl rfl rfl rfl rfl ?_
  refine zw_la (q := 3) (pc' := 7) W rfl rfl (⟨by decide, by decide⟩) rfl ?_
  rw [e]
  refine zw_land (pc' := 8) rfl rfl ?_
  refine zw_sl (n := 2) (k := 4) (pc' := 10) rfl rfl rfl rfl ?_
  refine zw_ld (n := 1) (k := 3) (f := zp_isI) (pc' := 11) rfl rfl (zw_gt2 rfl rfl rfl) rfl rfl ?_
  refine zw_s (pc' := 44) rfl rfl ?_
  refine zw_ld (n := 2) (k := 4) (f := zp_isL) (pc' := 46) rfl rfl zw_g2 rfl rfl ?_
  refine zw_s (pc' := 47) rfl rfl ?_
  refine zw_lshl (pc' := 48) rfl rfl ?_
  refine zw_rl rfl rfl ?_
  have hb := hS.1
  exact ⟨_, rfl, xMw_l (w := 1) ⟨by decide, by decide⟩ ho (fun c a b => (hn c a b).trans rfl)⟩

theorem yc_mv2_2 {L : Nat} {σ : Nat → Int32} {d : Nat} {H : zp_H} {X : Int64} (W : zw_W H) {S : xSea} (hS : xOk S) (hC : xSC 2 H S) : ∃ Z, zp_Call L σ (d + 1) 129 [.inr (.inr (some 3)), .inr (.inl X), .inl (Int32.ofInt 2)] H Z ∧ ∃ Y : Int64, Z = (.inl (some (.inr (.inl Y))), H) ∧ xMw S 2 X Y := by
  have e : (Int32.ofInt 2).toInt.toNat = 2 := by decide
  have ho := xSC_o (k := 2) hS hC (by decide)
  have hn := xSC_n (k := 2) hS hC (by decide)
  have hw := hC.1
  refine zw_met zm_129_t rfl rfl ?_
  refine zw_ld (n := 1) (k := 1) (f := zp_isL) (pc' := 1) rfl rfl rfl rfl rfl ?_
  refine zw_ld (n := 1) (k := 0) (f := zp_isR) (pc' := 2) rfl rfl rfl rfl rfl ?_
  refine zw_gR (q := 2) (pc' := 5) W rfl rfl rfl rfl (W.2 2 4 _ rfl) rfl ?_
  refine zw_ld (n := 1) (k := 3) (f := zp_isI) (pc' := 6) rfl rfl rfl rfl rfl ?_
  refine zw_la (q := 3) (pc' := 7) W rfl rfl (⟨by decide, by decide⟩) rfl ?_
  rw [e]
  refine zw_land (pc' := 8) rfl rfl ?_
  refine zw_sl (n := 2) (k := 4) (pc' := 10) rfl rfl rfl rfl ?_
  refine zw_ld (n := 1) (k := 3) (f := zp_isI) (pc' := 11) rfl rfl (zw_gt2 rfl rfl rfl) rfl rfl ?_
  refine zw_s (pc' := 49) rfl rfl ?_
  refine zw_ld (n := 2) (k := 4) (f := zp_isL) (pc' := 51) rfl rfl zw_g2 rfl rfl ?_
  refine zw_ld (n := 1) (k := 0) (f := zp_isR) (pc' := 52) rfl rfl (zw_gt2 rfl rfl rfl) rfl rfl ?_
  refine zw_gI (q := 2) (pc' := 55) W rfl rfl rfl rfl rfl rfl ?_
  refine zw_lshl (pc' := 56) rfl rfl ?_
  refine zw_rl rfl rfl ?_
  have hb := hS.1
  exact ⟨_, rfl, xMw_l (w := 2) (by omega) ho (fun c a b => (hn c a b).trans (show (c : Int) + S.1 = (c : Int) + (H.2.1 2 0).toInt by rw [hw]))⟩

theorem yc_mv2_3 {L : Nat} {σ : Nat → Int32} {d : Nat} {H : zp_H} {X : Int64} (W : zw_W H) {S : xSea} (hS : xOk S) (hC : xSC 2 H S) : ∃ Z, zp_Call L σ (d + 1) 129 [.inr (.inr (some 3)), .inr (.inl X), .inl (Int32.ofInt 3)] H Z ∧ ∃ Y : Int64, Z = (.inl (some (.inr (.inl Y))), H) ∧ xMw S 3 X Y := by
  have e : (Int32.ofInt 3).toInt.toNat = 3 := by decide
  have ho := xSC_o (k := 3) hS hC (by decide)
  have hn := xSC_n (k := 3) hS hC (by decide)
  have hw := hC.1
  refine zw_met zm_129_t rfl rfl ?_
  refine zw_ld (n := 1) (k := 1) (f := zp_isL) (pc' := 1) rfl rfl rfl rfl rfl ?_
  refine zw_ld (n := 1) (k := 0) (f := zp_isR) (pc' := 2) rfl rfl rfl rfl rfl ?_
  refine zw_gR (q := 2) (pc' := 5) W rfl rfl rfl rfl (W.2 2 4 _ rfl) rfl ?_
  refine zw_ld (n := 1) (k := 3) (f := zp_isI) (pc' := 6) rfl rfl rfl rfl rfl ?_
  refine zw_la (q := 3) (pc' := 7) W rfl rfl (⟨by decide, by decide⟩) rfl ?_
  rw [e]
  refine zw_land (pc' := 8) rfl rfl ?_
  refine zw_sl (n := 2) (k := 4) (pc' := 10) rfl rfl rfl rfl ?_
  refine zw_ld (n := 1) (k := 3) (f := zp_isI) (pc' := 11) rfl rfl (zw_gt2 rfl rfl rfl) rfl rfl ?_
  refine zw_s (pc' := 57) rfl rfl ?_
  refine zw_ld (n := 2) (k := 4) (f := zp_isL) (pc' := 59) rfl rfl zw_g2 rfl rfl ?_
  refine zw_s (pc' := 60) rfl rfl ?_
  refine zw_lushr (pc' := 61) rfl rfl ?_
  refine zw_rl rfl rfl ?_
  have hb := hS.1
  exact ⟨_, rfl, xMw_r (w := 3) ⟨by decide, by decide⟩ ho (fun c a b => (hn c a b).trans rfl) (xBe_0 hS)⟩

theorem yc_drv2 {L : Nat} {σ : Nat → Int32} {d : Nat} {H : zp_H} {A : Int64} (W : zw_W H) {S : xSea} (hS : xOk S) (hC : xSC 2 H S) (hM : xCM 2 H S) (hA : ∀ k : Nat, k < 64 → yTb A k = true → (k : Int) < S.1 * S.2.1) : ∃ Z, zp_Call L σ (d + 2) 130 [.inr (.inr (some 3)), .inr (.inl A)] H Z ∧ ∃ Y : Int64, Z = (.inl (some (.inr (.inl Y))), H) ∧ xS2s S A Y := by
  obtain ⟨_, v0, m0, rfl, u0⟩ := yc_mv2_0 (L := L) (σ := σ) (d := d) (X := (A &&& H.2.2.1 5 0 &&& H.2.2.1 3 0)) W hS hC
  obtain ⟨_, v1, m1, rfl, u1⟩ := yc_mv2_1 (L := L) (σ := σ) (d := d) (X := (A &&& H.2.2.1 5 1 &&& H.2.2.1 3 1)) W hS hC
  obtain ⟨_, v2, m2, rfl, u2⟩ := yc_mv2_2 (L := L) (σ := σ) (d := d) (X := (A &&& H.2.2.1 5 2 &&& H.2.2.1 3 2)) W hS hC
  obtain ⟨_, v3, m3, rfl, u3⟩ := yc_mv2_3 (L := L) (σ := σ) (d := d) (X := (A &&& H.2.2.1 5 3 &&& H.2.2.1 3 3)) W hS hC
  refine zw_met zm_130_t rfl rfl ?_
  refine zw_ld (n := 1) (k := 1) (f := zp_isL) (pc' := 1) rfl rfl rfl rfl rfl ?_
  refine zw_sl (n := 1) (k := 3) (pc' := 2) rfl rfl rfl rfl ?_
  refine zw_s (pc' := 3) rfl rfl ?_
  refine zw_sl (n := 2) (k := 5) (pc' := 5) rfl rfl rfl rfl ?_
  refine zw_s (pc' := 6) rfl rfl ?_
  refine zw_st (n := 2) (k := 7) (f := zp_isI) (pc' := 8) rfl rfl rfl rfl rfl ?_
  refine zw_ld (n := 2) (k := 7) (f := zp_isI) (pc' := 10) rfl rfl zw_g1 rfl rfl ?_
  refine zw_s (pc' := 11) rfl rfl ?_
  refine zw_bge2 (g := 61) (pc' := 14) rfl rfl rfl (rfl : _ = (0 : Int)) (rfl : _ = (4 : Int)) (fun h9 => absurd h9 (by decide)) (fun h1 => ?_)
  refine zw_ld (n := 1) (k := 1) (f := zp_isL) (pc' := 15) rfl rfl (zw_gt (zw_gt2 (zw_gt2 rfl rfl rfl) rfl rfl) rfl rfl) rfl rfl ?_
  refine zw_ld (n := 1) (k := 0) (f := zp_isR) (pc' := 16) rfl rfl (zw_gt (zw_gt2 (zw_gt2 rfl rfl rfl) rfl rfl) rfl rfl) rfl rfl ?_
  refine zw_gR (q := 2) (pc' := 19) W rfl rfl rfl rfl (W.2 2 6 _ rfl) rfl ?_
  refine zw_ld (n := 2) (k := 7) (f := zp_isI) (pc' := 21) rfl rfl zw_g1 rfl rfl ?_
  refine zw_la (q := 5) (pc' := 22) W rfl rfl (⟨by decide, by decide⟩) rfl ?_
  rw [show (Int32.ofInt 0).toInt.toNat = 0 by decide]
  refine zw_land (pc' := 23) rfl rfl ?_
  refine zw_ld (n := 1) (k := 0) (f := zp_isR) (pc' := 24) rfl rfl (zw_gt (zw_gt2 (zw_gt2 rfl rfl rfl) rfl rfl) rfl rfl) rfl rfl ?_
  refine zw_gR (q := 2) (pc' := 27) W rfl rfl rfl rfl (W.2 2 4 _ rfl) rfl ?_
  refine zw_ld (n := 2) (k := 7) (f := zp_isI) (pc' := 29) rfl rfl zw_g1 rfl rfl ?_
  refine zw_la (q := 3) (pc' := 30) W rfl rfl (⟨by decide, by decide⟩) rfl ?_
  rw [show (Int32.ofInt 0).toInt.toNat = 0 by decide]
  refine zw_land (pc' := 31) rfl rfl ?_
  refine zw_sl (n := 2) (k := 8) (pc' := 33) rfl rfl rfl rfl ?_
  refine zw_ld (n := 1) (k := 3) (f := zp_isL) (pc' := 34) rfl rfl (zw_gt2 (zw_gt (zw_gt2 zw_g2 rfl rfl) rfl rfl) rfl rfl) rfl rfl ?_
  refine zw_ld (n := 2) (k := 8) (f := zp_isL) (pc' := 36) rfl rfl zw_g2 rfl rfl ?_
  refine zw_s (pc' := 39) rfl rfl ?_
  refine zw_lxor (pc' := 40) rfl rfl ?_
  refine zw_land (pc' := 41) rfl rfl ?_
  refine zw_sl (n := 1) (k := 3) (pc' := 42) rfl rfl rfl rfl ?_
  refine zw_ld (n := 2) (k := 5) (f := zp_isL) (pc' := 44) rfl rfl (zw_gt2 (zw_gt2 (zw_gt zw_g2 rfl rfl) rfl rfl) rfl rfl) rfl rfl ?_
  refine zw_ld (n := 1) (k := 0) (f := zp_isR) (pc' := 45) rfl rfl (zw_gt2 (zw_gt2 (zw_gt (zw_gt2 (zw_gt2 rfl rfl rfl) rfl rfl) rfl rfl) rfl rfl) rfl rfl) rfl rfl ?_
  refine zw_ld (n := 2) (k := 8) (f := zp_isL) (pc' := 47) rfl rfl (zw_gt2 zw_g2 rfl rfl) rfl rfl ?_
  refine zw_ld (n := 2) (k := 7) (f := zp_isI) (pc' := 49) rfl rfl (zw_gt2 (zw_gt2 zw_g1 rfl rfl) rfl rfl) rfl rfl ?_
  refine zw_c (pc' := 52) (zw_cv (q := 2) (Y := zm_129) W.1 rfl rfl zm_129_t rfl rfl) rfl rfl rfl rfl rfl (v0) ?_
  refine zw_lor (pc' := 53) rfl rfl ?_
  refine zw_sl (n := 2) (k := 5) (pc' := 55) rfl rfl rfl rfl ?_
  refine zw_ii (pc' := 58) rfl (zw_gt2 (zw_gt2 (zw_gt2 zw_g1 rfl rfl) rfl rfl) rfl rfl) rfl rfl ?_
  rw [show Int32.ofInt 0 + Int32.ofInt 1 = Int32.ofInt 1 by decide]
  refine zw_s (pc' := 8) rfl rfl ?_
  refine zw_ld (n := 2) (k := 7) (f := zp_isI) (pc' := 10) rfl rfl zw_g1 rfl rfl ?_
  refine zw_s (pc' := 11) rfl rfl ?_
  refine zw_bge2 (g := 61) (pc' := 14) rfl rfl rfl (rfl : _ = (1 : Int)) (rfl : _ = (4 : Int)) (fun h9 => absurd h9 (by decide)) (fun h1 => ?_)
  refine zw_ld (n := 1) (k := 1) (f := zp_isL) (pc' := 15) rfl rfl (zw_gt (zw_gt2 (zw_gt2 (zw_gt2 (zw_gt (zw_gt2 (zw_gt2 rfl rfl rfl) rfl rfl) rfl rfl) rfl rfl) rfl rfl) rfl rfl) rfl rfl) rfl rfl ?_
  refine zw_ld (n := 1) (k := 0) (f := zp_isR) (pc' := 16) rfl rfl (zw_gt (zw_gt2 (zw_gt2 (zw_gt2 (zw_gt (zw_gt2 (zw_gt2 rfl rfl rfl) rfl rfl) rfl rfl) rfl rfl) rfl rfl) rfl rfl) rfl rfl) rfl rfl ?_
  refine zw_gR (q := 2) (pc' := 19) W rfl rfl rfl rfl (W.2 2 6 _ rfl) rfl ?_
  refine zw_ld (n := 2) (k := 7) (f := zp_isI) (pc' := 21) rfl rfl zw_g1 rfl rfl ?_
  refine zw_la (q := 5) (pc' := 22) W rfl rfl (⟨by decide, by decide⟩) rfl ?_
  rw [show (Int32.ofInt 1).toInt.toNat = 1 by decide]
  refine zw_land (pc' := 23) rfl rfl ?_
  refine zw_ld (n := 1) (k := 0) (f := zp_isR) (pc' := 24) rfl rfl (zw_gt (zw_gt2 (zw_gt2 (zw_gt2 (zw_gt (zw_gt2 (zw_gt2 rfl rfl rfl) rfl rfl) rfl rfl) rfl rfl) rfl rfl) rfl rfl) rfl rfl) rfl rfl ?_
  refine zw_gR (q := 2) (pc' := 27) W rfl rfl rfl rfl (W.2 2 4 _ rfl) rfl ?_
  refine zw_ld (n := 2) (k := 7) (f := zp_isI) (pc' := 29) rfl rfl zw_g1 rfl rfl ?_
  refine zw_la (q := 3) (pc' := 30) W rfl rfl (⟨by decide, by decide⟩) rfl ?_
  rw [show (Int32.ofInt 1).toInt.toNat = 1 by decide]
  refine zw_land (pc' := 31) rfl rfl ?_
  refine zw_sl (n := 2) (k := 8) (pc' := 33) rfl rfl rfl rfl ?_
  refine zw_ld (n := 1) (k := 3) (f := zp_isL) (pc' := 34) rfl rfl (zw_gt2 (zw_gt (zw_gt2 zw_g2 rfl rfl) rfl rfl) rfl rfl) rfl rfl ?_
  refine zw_ld (n := 2) (k := 8) (f := zp_isL) (pc' := 36) rfl rfl zw_g2 rfl rfl ?_
  refine zw_s (pc' := 39) rfl rfl ?_
  refine zw_lxor (pc' := 40) rfl rfl ?_
  refine zw_land (pc' := 41) rfl rfl ?_
  refine zw_sl (n := 1) (k := 3) (pc' := 42) rfl rfl rfl rfl ?_
  refine zw_ld (n := 2) (k := 5) (f := zp_isL) (pc' := 44) rfl rfl (zw_gt2 (zw_gt2 (zw_gt zw_g2 rfl rfl) rfl rfl) rfl rfl) rfl rfl ?_
  refine zw_ld (n := 1) (k := 0) (f := zp_isR) (pc' := 45) rfl rfl (zw_gt2 (zw_gt2 (zw_gt (zw_gt2 (zw_gt2 (zw_gt2 (zw_gt (zw_gt2 (zw_gt2 rfl rfl rfl) rfl rfl) rfl rfl) rfl rfl) rfl rfl) rfl rfl) rfl rfl) rfl rfl) rfl rfl) rfl rfl ?_
  refine zw_ld (n := 2) (k := 8) (f := zp_isL) (pc' := 47) rfl rfl (zw_gt2 zw_g2 rfl rfl) rfl rfl ?_
  refine zw_ld (n := 2) (k := 7) (f := zp_isI) (pc' := 49) rfl rfl (zw_gt2 (zw_gt2 zw_g1 rfl rfl) rfl rfl) rfl rfl ?_
  refine zw_c (pc' := 52) (zw_cv (q := 2) (Y := zm_129) W.1 rfl rfl zm_129_t rfl rfl) rfl rfl rfl rfl rfl (v1) ?_
  refine zw_lor (pc' := 53) rfl rfl ?_
  refine zw_sl (n := 2) (k := 5) (pc' := 55) rfl rfl rfl rfl ?_
  refine zw_ii (pc' := 58) rfl (zw_gt2 (zw_gt2 (zw_gt2 zw_g1 rfl rfl) rfl rfl) rfl rfl) rfl rfl ?_
  rw [show Int32.ofInt 1 + Int32.ofInt 1 = Int32.ofInt 2 by decide]
  refine zw_s (pc' := 8) rfl rfl ?_
  refine zw_ld (n := 2) (k := 7) (f := zp_isI) (pc' := 10) rfl rfl zw_g1 rfl rfl ?_
  refine zw_s (pc' := 11) rfl rfl ?_
  refine zw_bge2 (g := 61) (pc' := 14) rfl rfl rfl (rfl : _ = (2 : Int)) (rfl : _ = (4 : Int)) (fun h9 => absurd h9 (by decide)) (fun h1 => ?_)
  refine zw_ld (n := 1) (k := 1) (f := zp_isL) (pc' := 15) rfl rfl (zw_gt (zw_gt2 (zw_gt2 (zw_gt2 (zw_gt (zw_gt2 (zw_gt2 (zw_gt2 (zw_gt (zw_gt2 (zw_gt2 rfl rfl rfl) rfl rfl) rfl rfl) rfl rfl) rfl rfl) rfl rfl) rfl rfl) rfl rfl) rfl rfl) rfl rfl) rfl rfl) rfl rfl ?_
  refine zw_ld (n := 1) (k := 0) (f := zp_isR) (pc' := 16) rfl rfl (zw_gt (zw_gt2 (zw_gt2 (zw_gt2 (zw_gt (zw_gt2 (zw_gt2 (zw_gt2 (zw_gt (zw_gt2 (zw_gt2 rfl rfl rfl) rfl rfl) rfl rfl) rfl rfl) rfl rfl) rfl rfl) rfl rfl) rfl rfl) rfl rfl) rfl rfl) rfl rfl) rfl rfl ?_
  refine zw_gR (q := 2) (pc' := 19) W rfl rfl rfl rfl (W.2 2 6 _ rfl) rfl ?_
  refine zw_ld (n := 2) (k := 7) (f := zp_isI) (pc' := 21) rfl rfl zw_g1 rfl rfl ?_
  refine zw_la (q := 5) (pc' := 22) W rfl rfl (⟨by decide, by decide⟩) rfl ?_
  rw [show (Int32.ofInt 2).toInt.toNat = 2 by decide]
  refine zw_land (pc' := 23) rfl rfl ?_
  refine zw_ld (n := 1) (k := 0) (f := zp_isR) (pc' := 24) rfl rfl (zw_gt (zw_gt2 (zw_gt2 (zw_gt2 (zw_gt (zw_gt2 (zw_gt2 (zw_gt2 (zw_gt (zw_gt2 (zw_gt2 rfl rfl rfl) rfl rfl) rfl rfl) rfl rfl) rfl rfl) rfl rfl) rfl rfl) rfl rfl) rfl rfl) rfl rfl) rfl rfl) rfl rfl ?_
  refine zw_gR (q := 2) (pc' := 27) W rfl rfl rfl rfl (W.2 2 4 _ rfl) rfl ?_
  refine zw_ld (n := 2) (k := 7) (f := zp_isI) (pc' := 29) rfl rfl zw_g1 rfl rfl ?_
  refine zw_la (q := 3) (pc' := 30) W rfl rfl (⟨by decide, by decide⟩) rfl ?_
  rw [show (Int32.ofInt 2).toInt.toNat = 2 by decide]
  refine zw_land (pc' := 31) rfl rfl ?_
  refine zw_sl (n := 2) (k := 8) (pc' := 33) rfl rfl rfl rfl ?_
  refine zw_ld (n := 1) (k := 3) (f := zp_isL) (pc' := 34) rfl rfl (zw_gt2 (zw_gt (zw_gt2 zw_g2 rfl rfl) rfl rfl) rfl rfl) rfl rfl ?_
  refine zw_ld (n := 2) (k := 8) (f := zp_isL) (pc' := 36) rfl rfl zw_g2 rfl rfl ?_
  refine zw_s (pc' := 39) rfl rfl ?_
  refine zw_lxor (pc' := 40) rfl rfl ?_
  refine zw_land (pc' := 41) rfl rfl ?_
  refine zw_sl (n := 1) (k := 3) (pc' := 42) rfl rfl rfl rfl ?_
  refine zw_ld (n := 2) (k := 5) (f := zp_isL) (pc' := 44) rfl rfl (zw_gt2 (zw_gt2 (zw_gt zw_g2 rfl rfl) rfl rfl) rfl rfl) rfl rfl ?_
  refine zw_ld (n := 1) (k := 0) (f := zp_isR) (pc' := 45) rfl rfl (zw_gt2 (zw_gt2 (zw_gt (zw_gt2 (zw_gt2 (zw_gt2 (zw_gt (zw_gt2 (zw_gt2 (zw_gt2 (zw_gt (zw_gt2 (zw_gt2 rfl rfl rfl) rfl rfl) rfl rfl) rfl rfl) rfl rfl) rfl rfl) rfl rfl) rfl rfl) rfl rfl) rfl rfl) rfl rfl) rfl rfl) rfl rfl) rfl rfl ?_
  refine zw_ld (n := 2) (k := 8) (f := zp_isL) (pc' := 47) rfl rfl (zw_gt2 zw_g2 rfl rfl) rfl rfl ?_
  refine zw_ld (n := 2) (k := 7) (f := zp_isI) (pc' := 49) rfl rfl (zw_gt2 (zw_gt2 zw_g1 rfl rfl) rfl rfl) rfl rfl ?_
  refine zw_c (pc' := 52) (zw_cv (q := 2) (Y := zm_129) W.1 rfl rfl zm_129_t rfl rfl) rfl rfl rfl rfl rfl (v2) ?_
  refine zw_lor (pc' := 53) rfl rfl ?_
  refine zw_sl (n := 2) (k := 5) (pc' := 55) rfl rfl rfl rfl ?_
  refine zw_ii (pc' := 58) rfl (zw_gt2 (zw_gt2 (zw_gt2 zw_g1 rfl rfl) rfl rfl) rfl rfl) rfl rfl ?_
  rw [show Int32.ofInt 2 + Int32.ofInt 1 = Int32.ofInt 3 by decide]
  refine zw_s (pc' := 8) rfl rfl ?_
  refine zw_ld (n := 2) (k := 7) (f := zp_isI) (pc' := 10) rfl rfl zw_g1 rfl rfl ?_
  refine zw_s (pc' := 11) rfl rfl ?_
  refine zw_bge2 (g := 61) (pc' := 14) rfl rfl rfl (rfl : _ = (3 : Int)) (rfl : _ = (4 : Int)) (fun h9 => absurd h9 (by decide)) (fun h1 => ?_)
  refine zw_ld (n := 1) (k := 1) (f := zp_isL) (pc' := 15) rfl rfl (zw_gt (zw_gt2 (zw_gt2 (zw_gt2 (zw_gt (zw_gt2 (zw_gt2 (zw_gt2 (zw_gt (zw_gt2 (zw_gt2 (zw_gt2 (zw_gt (zw_gt2 (zw_gt2 rfl rfl rfl) rfl rfl) rfl rfl) rfl rfl) rfl rfl) rfl rfl) rfl rfl) rfl rfl) rfl rfl) rfl rfl) rfl rfl) rfl rfl) rfl rfl) rfl rfl) rfl rfl) rfl rfl ?_
  refine zw_ld (n := 1) (k := 0) (f := zp_isR) (pc' := 16) rfl rfl (zw_gt (zw_gt2 (zw_gt2 (zw_gt2 (zw_gt (zw_gt2 (zw_gt2 (zw_gt2 (zw_gt (zw_gt2 (zw_gt2 (zw_gt2 (zw_gt (zw_gt2 (zw_gt2 rfl rfl rfl) rfl rfl) rfl rfl) rfl rfl) rfl rfl) rfl rfl) rfl rfl) rfl rfl) rfl rfl) rfl rfl) rfl rfl) rfl rfl) rfl rfl) rfl rfl) rfl rfl) rfl rfl ?_
  refine zw_gR (q := 2) (pc' := 19) W rfl rfl rfl rfl (W.2 2 6 _ rfl) rfl ?_
  refine zw_ld (n := 2) (k := 7) (f := zp_isI) (pc' := 21) rfl rfl zw_g1 rfl rfl ?_
  refine zw_la (q := 5) (pc' := 22) W rfl rfl (⟨by decide, by decide⟩) rfl ?_
  rw [show (Int32.ofInt 3).toInt.toNat = 3 by decide]
  refine zw_land (pc' := 23) rfl rfl ?_
  refine zw_ld (n := 1) (k := 0) (f := zp_isR) (pc' := 24) rfl rfl (zw_gt (zw_gt2 (zw_gt2 (zw_gt2 (zw_gt (zw_gt2 (zw_gt2 (zw_gt2 (zw_gt (zw_gt2 (zw_gt2 (zw_gt2 (zw_gt (zw_gt2 (zw_gt2 rfl rfl rfl) rfl rfl) rfl rfl) rfl rfl) rfl rfl) rfl rfl) rfl rfl) rfl rfl) rfl rfl) rfl rfl) rfl rfl) rfl rfl) rfl rfl) rfl rfl) rfl rfl) rfl rfl ?_
  refine zw_gR (q := 2) (pc' := 27) W rfl rfl rfl rfl (W.2 2 4 _ rfl) rfl ?_
  refine zw_ld (n := 2) (k := 7) (f := zp_isI) (pc' := 29) rfl rfl zw_g1 rfl rfl ?_
  refine zw_la (q := 3) (pc' := 30) W rfl rfl (⟨by decide, by decide⟩) rfl ?_
  rw [show (Int32.ofInt 3).toInt.toNat = 3 by decide]
  refine zw_land (pc' := 31) rfl rfl ?_
  refine zw_sl (n := 2) (k := 8) (pc' := 33) rfl rfl rfl rfl ?_
  refine zw_ld (n := 1) (k := 3) (f := zp_isL) (pc' := 34) rfl rfl (zw_gt2 (zw_gt (zw_gt2 zw_g2 rfl rfl) rfl rfl) rfl rfl) rfl rfl ?_
  refine zw_ld (n := 2) (k := 8) (f := zp_isL) (pc' := 36) rfl rfl zw_g2 rfl rfl ?_
  refine zw_s (pc' := 39) rfl rfl ?_
  refine zw_lxor (pc' := 40) rfl rfl ?_
  refine zw_land (pc' := 41) rfl rfl ?_
  refine zw_sl (n := 1) (k := 3) (pc' := 42) rfl rfl rfl rfl ?_
  refine zw_ld (n := 2) (k := 5) (f := zp_isL) (pc' := 44) rfl rfl (zw_gt2 (zw_gt2 (zw_gt zw_g2 rfl rfl) rfl rfl) rfl rfl) rfl rfl ?_
  refine zw_ld (n := 1) (k := 0) (f := zp_isR) (pc' := 45) rfl rfl (zw_gt2 (zw_gt2 (zw_gt (zw_gt2 (zw_gt2 (zw_gt2 (zw_gt (zw_gt2 (zw_gt2 (zw_gt2 (zw_gt (zw_gt2 (zw_gt2 (zw_gt2 (zw_gt (zw_gt2 (zw_gt2 rfl rfl rfl) rfl rfl) rfl rfl) rfl rfl) rfl rfl) rfl rfl) rfl rfl) rfl rfl) rfl rfl) rfl rfl) rfl rfl) rfl rfl) rfl rfl) rfl rfl) rfl rfl) rfl rfl) rfl rfl) rfl rfl ?_
  refine zw_ld (n := 2) (k := 8) (f := zp_isL) (pc' := 47) rfl rfl (zw_gt2 zw_g2 rfl rfl) rfl rfl ?_
  refine zw_ld (n := 2) (k := 7) (f := zp_isI) (pc' := 49) rfl rfl (zw_gt2 (zw_gt2 zw_g1 rfl rfl) rfl rfl) rfl rfl ?_
  refine zw_c (pc' := 52) (zw_cv (q := 2) (Y := zm_129) W.1 rfl rfl zm_129_t rfl rfl) rfl rfl rfl rfl rfl (v3) ?_
  refine zw_lor (pc' := 53) rfl rfl ?_
  refine zw_sl (n := 2) (k := 5) (pc' := 55) rfl rfl rfl rfl ?_
  refine zw_ii (pc' := 58) rfl (zw_gt2 (zw_gt2 (zw_gt2 zw_g1 rfl rfl) rfl rfl) rfl rfl) rfl rfl ?_
  rw [show Int32.ofInt 3 + Int32.ofInt 1 = Int32.ofInt 4 by decide]
  refine zw_s (pc' := 8) rfl rfl ?_
  refine zw_ld (n := 2) (k := 7) (f := zp_isI) (pc' := 10) rfl rfl zw_g1 rfl rfl ?_
  refine zw_s (pc' := 11) rfl rfl ?_
  refine zw_bge2 (g := 61) (pc' := 14) rfl rfl rfl (rfl : _ = (4 : Int)) (rfl : _ = (4 : Int)) (fun h1 => ?_) (fun h9 => absurd h9 (by decide))
  refine zw_ld (n := 1) (k := 3) (f := zp_isL) (pc' := 62) rfl rfl (zw_gt (zw_gt2 zw_g2 rfl rfl) rfl rfl) rfl rfl ?_
  refine zw_ld (n := 2) (k := 5) (f := zp_isL) (pc' := 64) rfl rfl (zw_gt zw_g2 rfl rfl) rfl rfl ?_
  refine zw_ld (n := 1) (k := 0) (f := zp_isR) (pc' := 65) rfl rfl (zw_gt (zw_gt2 (zw_gt2 (zw_gt2 (zw_gt (zw_gt2 (zw_gt2 (zw_gt2 (zw_gt (zw_gt2 (zw_gt2 (zw_gt2 (zw_gt (zw_gt2 (zw_gt2 (zw_gt2 (zw_gt (zw_gt2 (zw_gt2 rfl rfl rfl) rfl rfl) rfl rfl) rfl rfl) rfl rfl) rfl rfl) rfl rfl) rfl rfl) rfl rfl) rfl rfl) rfl rfl) rfl rfl) rfl rfl) rfl rfl) rfl rfl) rfl rfl) rfl rfl) rfl rfl) rfl rfl) rfl rfl ?_
  refine zw_gL (q := 2) (pc' := 68) W rfl rfl rfl rfl rfl ?_
  refine zw_s (pc' := 71) rfl rfl ?_
  refine zw_lxor (pc' := 72) rfl rfl ?_
  refine zw_land (pc' := 73) rfl rfl ?_
  refine zw_lor (pc' := 74) rfl rfl ?_
  refine zw_rl rfl rfl ?_
  rw [hC.2.2.1]
  exact ⟨_, rfl, xS2s_of hS hA (hM 0 (by decide)) (hM 1 (by decide)) (hM 2 (by decide)) (hM 3 (by decide)) (xSC_o (k := 0) hS hC (by decide)) (xSC_o (k := 1) hS hC (by decide)) (xSC_o (k := 2) hS hC (by decide)) (xSC_o (k := 3) hS hC (by decide)) u0 u1 u2 u3⟩

theorem yc_sld2_0_0 {L : Nat} {σ : Nat → Int32} {d : Nat} {H : zp_H} {X : Int64} (W : zw_W H) {S : xSea} (hS : xOk S) (hC : xSC 2 H S) (hM : xCM 2 H S) : ∃ Z, zp_Call L σ (d + 3) 128 [.inr (.inr (some 3)), .inr (.inl X), .inl (Int32.ofInt 0), .inl (Int32.ofInt 0)] H Z ∧ ∃ Y : Int64, Z = (.inl (some (.inr (.inl Y))), H) ∧ xSs S 0 1 X Y := by
  obtain ⟨_, v1, m, rfl, u⟩ := yc_mv2_0 (L := L) (σ := σ) (d := d + 1) (X := X) W hS hC
  have s1 := xS1s_of (S := S) (by decide) u
  refine zw_met zm_128_t rfl rfl ?_
  refine zw_ld (n := 1) (k := 0) (f := zp_isR) (pc' := 1) rfl rfl rfl rfl rfl ?_
  refine zw_ld (n := 1) (k := 1) (f := zp_isL) (pc' := 2) rfl rfl rfl rfl rfl ?_
  refine zw_ld (n := 1) (k := 3) (f := zp_isI) (pc' := 3) rfl rfl rfl rfl rfl ?_
  refine zw_c (pc' := 6) (zw_cv (q := 2) (Y := zm_129) W.1 rfl rfl zm_129_t rfl rfl) rfl rfl rfl rfl rfl (v1) ?_
  refine zw_ld (n := 1) (k := 0) (f := zp_isR) (pc' := 7) rfl rfl rfl rfl rfl ?_
  refine zw_gL (q := 2) (pc' := 10) W rfl rfl rfl rfl rfl ?_
  refine zw_s (pc' := 13) rfl rfl ?_
  refine zw_lxor (pc' := 14) rfl rfl ?_
  refine zw_land (pc' := 15) rfl rfl ?_
  rw [hC.2.2.1]
  refine zw_sl (n := 2) (k := 5) (pc' := 17) rfl rfl rfl rfl ?_
  refine zw_ld (n := 2) (k := 4) (f := zp_isI) (pc' := 19) rfl rfl (zw_gt2 rfl rfl rfl) rfl rfl ?_
  refine zw_beq1 (g := 31) (pc' := 22) rfl rfl rfl (rfl : _ = (0 : Int)) (fun h1 => ?_) (fun h9 => absurd h9 (by decide))
  refine zw_ld (n := 2) (k := 5) (f := zp_isL) (pc' := 33) rfl rfl zw_g2 rfl rfl ?_
  refine zw_rl rfl rfl ?_
  exact ⟨_, rfl, xSs_o s1⟩

theorem yc_sld2_0_1 {L : Nat} {σ : Nat → Int32} {d : Nat} {H : zp_H} {X : Int64} (W : zw_W H) {S : xSea} (hS : xOk S) (hC : xSC 2 H S) (hM : xCM 2 H S) : ∃ Z, zp_Call L σ (d + 3) 128 [.inr (.inr (some 3)), .inr (.inl X), .inl (Int32.ofInt 0), .inl (Int32.ofInt 1)] H Z ∧ ∃ Y : Int64, Z = (.inl (some (.inr (.inl Y))), H) ∧ xSs S 0 0 X Y := by
  obtain ⟨_, v1, m, rfl, u⟩ := yc_mv2_0 (L := L) (σ := σ) (d := d + 1) (X := X) W hS hC
  have s1 := xS1s_of (S := S) (by decide) u
  obtain ⟨_, v2, z, rfl, u2⟩ := yc_drv2 (L := L) (σ := σ) (d := d) (A := m &&& (S.2.2.1 ^^^ Int64.ofInt (-1))) W hS hC hM (fun j hj h9 => by rw [tb_and, Bool.and_eq_true_iff] at h9; exact xMw_in hS u j hj h9.1)
  refine zw_met zm_128_t rfl rfl ?_
  refine zw_ld (n := 1) (k := 0) (f := zp_isR) (pc' := 1) rfl rfl rfl rfl rfl ?_
  refine zw_ld (n := 1) (k := 1) (f := zp_isL) (pc' := 2) rfl rfl rfl rfl rfl ?_
  refine zw_ld (n := 1) (k := 3) (f := zp_isI) (pc' := 3) rfl rfl rfl rfl rfl ?_
  refine zw_c (pc' := 6) (zw_cv (q := 2) (Y := zm_129) W.1 rfl rfl zm_129_t rfl rfl) rfl rfl rfl rfl rfl (v1) ?_
  refine zw_ld (n := 1) (k := 0) (f := zp_isR) (pc' := 7) rfl rfl rfl rfl rfl ?_
  refine zw_gL (q := 2) (pc' := 10) W rfl rfl rfl rfl rfl ?_
  refine zw_s (pc' := 13) rfl rfl ?_
  refine zw_lxor (pc' := 14) rfl rfl ?_
  refine zw_land (pc' := 15) rfl rfl ?_
  rw [hC.2.2.1]
  refine zw_sl (n := 2) (k := 5) (pc' := 17) rfl rfl rfl rfl ?_
  refine zw_ld (n := 2) (k := 4) (f := zp_isI) (pc' := 19) rfl rfl (zw_gt2 rfl rfl rfl) rfl rfl ?_
  refine zw_beq1 (g := 31) (pc' := 22) rfl rfl rfl (rfl : _ = (1 : Int)) (fun h9 => absurd h9 (by decide)) (fun h1 => ?_)
  refine zw_ld (n := 1) (k := 0) (f := zp_isR) (pc' := 23) rfl rfl (zw_gt2 rfl rfl rfl) rfl rfl ?_
  refine zw_ld (n := 2) (k := 5) (f := zp_isL) (pc' := 25) rfl rfl zw_g2 rfl rfl ?_
  refine zw_c (pc' := 28) (zw_cv (q := 2) (Y := zm_130) W.1 rfl rfl zm_130_t rfl rfl) rfl rfl rfl rfl rfl (v2) ?_
  refine zw_s (pc' := 33) rfl rfl ?_
  refine zw_rl rfl rfl ?_
  exact ⟨_, rfl, xSs_e hS s1 u2⟩

theorem yc_sld2_1_0 {L : Nat} {σ : Nat → Int32} {d : Nat} {H : zp_H} {X : Int64} (W : zw_W H) {S : xSea} (hS : xOk S) (hC : xSC 2 H S) (hM : xCM 2 H S) : ∃ Z, zp_Call L σ (d + 3) 128 [.inr (.inr (some 3)), .inr (.inl X), .inl (Int32.ofInt 1), .inl (Int32.ofInt 0)] H Z ∧ ∃ Y : Int64, Z = (.inl (some (.inr (.inl Y))), H) ∧ xSs S 1 1 X Y := by
  obtain ⟨_, v1, m, rfl, u⟩ := yc_mv2_1 (L := L) (σ := σ) (d := d + 1) (X := X) W hS hC
  have s1 := xS1s_of (S := S) (by decide) u
  refine zw_met zm_128_t rfl rfl ?_
  refine zw_ld (n := 1) (k := 0) (f := zp_isR) (pc' := 1) rfl rfl rfl rfl rfl ?_
  refine zw_ld (n := 1) (k := 1) (f := zp_isL) (pc' := 2) rfl rfl rfl rfl rfl ?_
  refine zw_ld (n := 1) (k := 3) (f := zp_isI) (pc' := 3) rfl rfl rfl rfl rfl ?_
  refine zw_c (pc' := 6) (zw_cv (q := 2) (Y := zm_129) W.1 rfl rfl zm_129_t rfl rfl) rfl rfl rfl rfl rfl (v1) ?_
  refine zw_ld (n := 1) (k := 0) (f := zp_isR) (pc' := 7) rfl rfl rfl rfl rfl ?_
  refine zw_gL (q := 2) (pc' := 10) W rfl rfl rfl rfl rfl ?_
  refine zw_s (pc' := 13) rfl rfl ?_
  refine zw_lxor (pc' := 14) rfl rfl ?_
  refine zw_land (pc' := 15) rfl rfl ?_
  rw [hC.2.2.1]
  refine zw_sl (n := 2) (k := 5) (pc' := 17) rfl rfl rfl rfl ?_
  refine zw_ld (n := 2) (k := 4) (f := zp_isI) (pc' := 19) rfl rfl (zw_gt2 rfl rfl rfl) rfl rfl ?_
  refine zw_beq1 (g := 31) (pc' := 22) rfl rfl rfl (rfl : _ = (0 : Int)) (fun h1 => ?_) (fun h9 => absurd h9 (by decide))
  refine zw_ld (n := 2) (k := 5) (f := zp_isL) (pc' := 33) rfl rfl zw_g2 rfl rfl ?_
  refine zw_rl rfl rfl ?_
  exact ⟨_, rfl, xSs_o s1⟩

theorem yc_sld2_1_1 {L : Nat} {σ : Nat → Int32} {d : Nat} {H : zp_H} {X : Int64} (W : zw_W H) {S : xSea} (hS : xOk S) (hC : xSC 2 H S) (hM : xCM 2 H S) : ∃ Z, zp_Call L σ (d + 3) 128 [.inr (.inr (some 3)), .inr (.inl X), .inl (Int32.ofInt 1), .inl (Int32.ofInt 1)] H Z ∧ ∃ Y : Int64, Z = (.inl (some (.inr (.inl Y))), H) ∧ xSs S 1 0 X Y := by
  obtain ⟨_, v1, m, rfl, u⟩ := yc_mv2_1 (L := L) (σ := σ) (d := d + 1) (X := X) W hS hC
  have s1 := xS1s_of (S := S) (by decide) u
  obtain ⟨_, v2, z, rfl, u2⟩ := yc_drv2 (L := L) (σ := σ) (d := d) (A := m &&& (S.2.2.1 ^^^ Int64.ofInt (-1))) W hS hC hM (fun j hj h9 => by rw [tb_and, Bool.and_eq_true_iff] at h9; exact xMw_in hS u j hj h9.1)
  refine zw_met zm_128_t rfl rfl ?_
  refine zw_ld (n := 1) (k := 0) (f := zp_isR) (pc' := 1) rfl rfl rfl rfl rfl ?_
  refine zw_ld (n := 1) (k := 1) (f := zp_isL) (pc' := 2) rfl rfl rfl rfl rfl ?_
  refine zw_ld (n := 1) (k := 3) (f := zp_isI) (pc' := 3) rfl rfl rfl rfl rfl ?_
  refine zw_c (pc' := 6) (zw_cv (q := 2) (Y := zm_129) W.1 rfl rfl zm_129_t rfl rfl) rfl rfl rfl rfl rfl (v1) ?_
  refine zw_ld (n := 1) (k := 0) (f := zp_isR) (pc' := 7) rfl rfl rfl rfl rfl ?_
  refine zw_gL (q := 2) (pc' := 10) W rfl rfl rfl rfl rfl ?_
  refine zw_s (pc' := 13) rfl rfl ?_
  refine zw_lxor (pc' := 14) rfl rfl ?_
  refine zw_land (pc' := 15) rfl rfl ?_
  rw [hC.2.2.1]
  refine zw_sl (n := 2) (k := 5) (pc' := 17) rfl rfl rfl rfl ?_
  refine zw_ld (n := 2) (k := 4) (f := zp_isI) (pc' := 19) rfl rfl (zw_gt2 rfl rfl rfl) rfl rfl ?_
  refine zw_beq1 (g := 31) (pc' := 22) rfl rfl rfl (rfl : _ = (1 : Int)) (fun h9 => absurd h9 (by decide)) (fun h1 => ?_)
  refine zw_ld (n := 1) (k := 0) (f := zp_isR) (pc' := 23) rfl rfl (zw_gt2 rfl rfl rfl) rfl rfl ?_
  refine zw_ld (n := 2) (k := 5) (f := zp_isL) (pc' := 25) rfl rfl zw_g2 rfl rfl ?_
  refine zw_c (pc' := 28) (zw_cv (q := 2) (Y := zm_130) W.1 rfl rfl zm_130_t rfl rfl) rfl rfl rfl rfl rfl (v2) ?_
  refine zw_s (pc' := 33) rfl rfl ?_
  refine zw_rl rfl rfl ?_
  exact ⟨_, rfl, xSs_e hS s1 u2⟩

theorem yc_sld2_2_0 {L : Nat} {σ : Nat → Int32} {d : Nat} {H : zp_H} {X : Int64} (W : zw_W H) {S : xSea} (hS : xOk S) (hC : xSC 2 H S) (hM : xCM 2 H S) : ∃ Z, zp_Call L σ (d + 3) 128 [.inr (.inr (some 3)), .inr (.inl X), .inl (Int32.ofInt 2), .inl (Int32.ofInt 0)] H Z ∧ ∃ Y : Int64, Z = (.inl (some (.inr (.inl Y))), H) ∧ xSs S 2 1 X Y := by
  obtain ⟨_, v1, m, rfl, u⟩ := yc_mv2_2 (L := L) (σ := σ) (d := d + 1) (X := X) W hS hC
  have s1 := xS1s_of (S := S) (by decide) u
  refine zw_met zm_128_t rfl rfl ?_
  refine zw_ld (n := 1) (k := 0) (f := zp_isR) (pc' := 1) rfl rfl rfl rfl rfl ?_
  refine zw_ld (n := 1) (k := 1) (f := zp_isL) (pc' := 2) rfl rfl rfl rfl rfl ?_
  refine zw_ld (n := 1) (k := 3) (f := zp_isI) (pc' := 3) rfl rfl rfl rfl rfl ?_
  refine zw_c (pc' := 6) (zw_cv (q := 2) (Y := zm_129) W.1 rfl rfl zm_129_t rfl rfl) rfl rfl rfl rfl rfl (v1) ?_
  refine zw_ld (n := 1) (k := 0) (f := zp_isR) (pc' := 7) rfl rfl rfl rfl rfl ?_
  refine zw_gL (q := 2) (pc' := 10) W rfl rfl rfl rfl rfl ?_
  refine zw_s (pc' := 13) rfl rfl ?_
  refine zw_lxor (pc' := 14) rfl rfl ?_
  refine zw_land (pc' := 15) rfl rfl ?_
  rw [hC.2.2.1]
  refine zw_sl (n := 2) (k := 5) (pc' := 17) rfl rfl rfl rfl ?_
  refine zw_ld (n := 2) (k := 4) (f := zp_isI) (pc' := 19) rfl rfl (zw_gt2 rfl rfl rfl) rfl rfl ?_
  refine zw_beq1 (g := 31) (pc' := 22) rfl rfl rfl (rfl : _ = (0 : Int)) (fun h1 => ?_) (fun h9 => absurd h9 (by decide))
  refine zw_ld (n := 2) (k := 5) (f := zp_isL) (pc' := 33) rfl rfl zw_g2 rfl rfl ?_
  refine zw_rl rfl rfl ?_
  exact ⟨_, rfl, xSs_o s1⟩

theorem yc_sld2_2_1 {L : Nat} {σ : Nat → Int32} {d : Nat} {H : zp_H} {X : Int64} (W : zw_W H) {S : xSea} (hS : xOk S) (hC : xSC 2 H S) (hM : xCM 2 H S) : ∃ Z, zp_Call L σ (d + 3) 128 [.inr (.inr (some 3)), .inr (.inl X), .inl (Int32.ofInt 2), .inl (Int32.ofInt 1)] H Z ∧ ∃ Y : Int64, Z = (.inl (some (.inr (.inl Y))), H) ∧ xSs S 2 0 X Y := by
  obtain ⟨_, v1, m, rfl, u⟩ := yc_mv2_2 (L := L) (σ := σ) (d := d + 1) (X := X) W hS hC
  have s1 := xS1s_of (S := S) (by decide) u
  obtain ⟨_, v2, z, rfl, u2⟩ := yc_drv2 (L := L) (σ := σ) (d := d) (A := m &&& (S.2.2.1 ^^^ Int64.ofInt (-1))) W hS hC hM (fun j hj h9 => by rw [tb_and, Bool.and_eq_true_iff] at h9; exact xMw_in hS u j hj h9.1)
  refine zw_met zm_128_t rfl rfl ?_
  refine zw_ld (n := 1) (k := 0) (f := zp_isR) (pc' := 1) rfl rfl rfl rfl rfl ?_
  refine zw_ld (n := 1) (k := 1) (f := zp_isL) (pc' := 2) rfl rfl rfl rfl rfl ?_
  refine zw_ld (n := 1) (k := 3) (f := zp_isI) (pc' := 3) rfl rfl rfl rfl rfl ?_
  refine zw_c (pc' := 6) (zw_cv (q := 2) (Y := zm_129) W.1 rfl rfl zm_129_t rfl rfl) rfl rfl rfl rfl rfl (v1) ?_
  refine zw_ld (n := 1) (k := 0) (f := zp_isR) (pc' := 7) rfl rfl rfl rfl rfl ?_
  refine zw_gL (q := 2) (pc' := 10) W rfl rfl rfl rfl rfl ?_
  refine zw_s (pc' := 13) rfl rfl ?_
  refine zw_lxor (pc' := 14) rfl rfl ?_
  refine zw_land (pc' := 15) rfl rfl ?_
  rw [hC.2.2.1]
  refine zw_sl (n := 2) (k := 5) (pc' := 17) rfl rfl rfl rfl ?_
  refine zw_ld (n := 2) (k := 4) (f := zp_isI) (pc' := 19) rfl rfl (zw_gt2 rfl rfl rfl) rfl rfl ?_
  refine zw_beq1 (g := 31) (pc' := 22) rfl rfl rfl (rfl : _ = (1 : Int)) (fun h9 => absurd h9 (by decide)) (fun h1 => ?_)
  refine zw_ld (n := 1) (k := 0) (f := zp_isR) (pc' := 23) rfl rfl (zw_gt2 rfl rfl rfl) rfl rfl ?_
  refine zw_ld (n := 2) (k := 5) (f := zp_isL) (pc' := 25) rfl rfl zw_g2 rfl rfl ?_
  refine zw_c (pc' := 28) (zw_cv (q := 2) (Y := zm_130) W.1 rfl rfl zm_130_t rfl rfl) rfl rfl rfl rfl rfl (v2) ?_
  refine zw_s (pc' := 33) rfl rfl ?_
  refine zw_rl rfl rfl ?_
  exact ⟨_, rfl, xSs_e hS s1 u2⟩

theorem yc_sld2_3_0 {L : Nat} {σ : Nat → Int32} {d : Nat} {H : zp_H} {X : Int64} (W : zw_W H) {S : xSea} (hS : xOk S) (hC : xSC 2 H S) (hM : xCM 2 H S) : ∃ Z, zp_Call L σ (d + 3) 128 [.inr (.inr (some 3)), .inr (.inl X), .inl (Int32.ofInt 3), .inl (Int32.ofInt 0)] H Z ∧ ∃ Y : Int64, Z = (.inl (some (.inr (.inl Y))), H) ∧ xSs S 3 1 X Y := by
  obtain ⟨_, v1, m, rfl, u⟩ := yc_mv2_3 (L := L) (σ := σ) (d := d + 1) (X := X) W hS hC
  have s1 := xS1s_of (S := S) (by decide) u
  refine zw_met zm_128_t rfl rfl ?_
  refine zw_ld (n := 1) (k := 0) (f := zp_isR) (pc' := 1) rfl rfl rfl rfl rfl ?_
  refine zw_ld (n := 1) (k := 1) (f := zp_isL) (pc' := 2) rfl rfl rfl rfl rfl ?_
  refine zw_ld (n := 1) (k := 3) (f := zp_isI) (pc' := 3) rfl rfl rfl rfl rfl ?_
  refine zw_c (pc' := 6) (zw_cv (q := 2) (Y := zm_129) W.1 rfl rfl zm_129_t rfl rfl) rfl rfl rfl rfl rfl (v1) ?_
  refine zw_ld (n := 1) (k := 0) (f := zp_isR) (pc' := 7) rfl rfl rfl rfl rfl ?_
  refine zw_gL (q := 2) (pc' := 10) W rfl rfl rfl rfl rfl ?_
  refine zw_s (pc' := 13) rfl rfl ?_
  refine zw_lxor (pc' := 14) rfl rfl ?_
  refine zw_land (pc' := 15) rfl rfl ?_
  rw [hC.2.2.1]
  refine zw_sl (n := 2) (k := 5) (pc' := 17) rfl rfl rfl rfl ?_
  refine zw_ld (n := 2) (k := 4) (f := zp_isI) (pc' := 19) rfl rfl (zw_gt2 rfl rfl rfl) rfl rfl ?_
  refine zw_beq1 (g := 31) (pc' := 22) rfl rfl rfl (rfl : _ = (0 : Int)) (fun h1 => ?_) (fun h9 => absurd h9 (by decide))
  refine zw_ld (n := 2) (k := 5) (f := zp_isL) (pc' := 33) rfl rfl zw_g2 rfl rfl ?_
  refine zw_rl rfl rfl ?_
  exact ⟨_, rfl, xSs_o s1⟩

theorem yc_sld2_3_1 {L : Nat} {σ : Nat → Int32} {d : Nat} {H : zp_H} {X : Int64} (W : zw_W H) {S : xSea} (hS : xOk S) (hC : xSC 2 H S) (hM : xCM 2 H S) : ∃ Z, zp_Call L σ (d + 3) 128 [.inr (.inr (some 3)), .inr (.inl X), .inl (Int32.ofInt 3), .inl (Int32.ofInt 1)] H Z ∧ ∃ Y : Int64, Z = (.inl (some (.inr (.inl Y))), H) ∧ xSs S 3 0 X Y := by
  obtain ⟨_, v1, m, rfl, u⟩ := yc_mv2_3 (L := L) (σ := σ) (d := d + 1) (X := X) W hS hC
  have s1 := xS1s_of (S := S) (by decide) u
  obtain ⟨_, v2, z, rfl, u2⟩ := yc_drv2 (L := L) (σ := σ) (d := d) (A := m &&& (S.2.2.1 ^^^ Int64.ofInt (-1))) W hS hC hM (fun j hj h9 => by rw [tb_and, Bool.and_eq_true_iff] at h9; exact xMw_in hS u j hj h9.1)
  refine zw_met zm_128_t rfl rfl ?_
  refine zw_ld (n := 1) (k := 0) (f := zp_isR) (pc' := 1) rfl rfl rfl rfl rfl ?_
  refine zw_ld (n := 1) (k := 1) (f := zp_isL) (pc' := 2) rfl rfl rfl rfl rfl ?_
  refine zw_ld (n := 1) (k := 3) (f := zp_isI) (pc' := 3) rfl rfl rfl rfl rfl ?_
  refine zw_c (pc' := 6) (zw_cv (q := 2) (Y := zm_129) W.1 rfl rfl zm_129_t rfl rfl) rfl rfl rfl rfl rfl (v1) ?_
  refine zw_ld (n := 1) (k := 0) (f := zp_isR) (pc' := 7) rfl rfl rfl rfl rfl ?_
  refine zw_gL (q := 2) (pc' := 10) W rfl rfl rfl rfl rfl ?_
  refine zw_s (pc' := 13) rfl rfl ?_
  refine zw_lxor (pc' := 14) rfl rfl ?_
  refine zw_land (pc' := 15) rfl rfl ?_
  rw [hC.2.2.1]
  refine zw_sl (n := 2) (k := 5) (pc' := 17) rfl rfl rfl rfl ?_
  refine zw_ld (n := 2) (k := 4) (f := zp_isI) (pc' := 19) rfl rfl (zw_gt2 rfl rfl rfl) rfl rfl ?_
  refine zw_beq1 (g := 31) (pc' := 22) rfl rfl rfl (rfl : _ = (1 : Int)) (fun h9 => absurd h9 (by decide)) (fun h1 => ?_)
  refine zw_ld (n := 1) (k := 0) (f := zp_isR) (pc' := 23) rfl rfl (zw_gt2 rfl rfl rfl) rfl rfl ?_
  refine zw_ld (n := 2) (k := 5) (f := zp_isL) (pc' := 25) rfl rfl zw_g2 rfl rfl ?_
  refine zw_c (pc' := 28) (zw_cv (q := 2) (Y := zm_130) W.1 rfl rfl zm_130_t rfl rfl) rfl rfl rfl rfl rfl (v2) ?_
  refine zw_s (pc' := 33) rfl rfl ?_
  refine zw_rl rfl rfl ?_
  exact ⟨_, rfl, xSs_e hS s1 u2⟩

theorem yc_stp2_0 {L : Nat} {σ : Nat → Int32} {d : Nat} {H : zp_H} (W : zw_W H) {S : xSea} (hS : xOk S) (hC : xSC 2 H S) (hM : xCM 2 H S) : ∃ Z, zp_Call L σ (d + 4) 127 [.inr (.inr (some 56)), .inr (.inr (some 3)), .inl (Int32.ofInt 0)] H Z ∧ ∃ H1, Z = (.inl none, H1) ∧ zw_W H1 ∧ xFv 55 H H1 ∧ xSs S 0 1 (H.2.2.1 55 1) (H1.2.2.1 55 0) ∧ xSs S 0 0 (H.2.2.1 55 0) (H1.2.2.1 55 1) := by
  obtain ⟨_, v1, z1, rfl, u1⟩ := yc_sld2_0_1 (L := L) (σ := σ) (d := d) (X := H.2.2.1 55 0) W hS hC hM
  obtain ⟨_, v2, z2, rfl, u2⟩ := yc_sld2_0_0 (L := L) (σ := σ) (d := d) (X := H.2.2.1 55 1) W hS hC hM
  refine zw_met zm_127_t rfl rfl ?_
  refine zw_ld (n := 1) (k := 1) (f := zp_isR) (pc' := 1) rfl rfl rfl rfl rfl ?_
  refine zw_ld (n := 1) (k := 0) (f := zp_isR) (pc' := 2) rfl rfl rfl rfl rfl ?_
  refine zw_gL (q := 55) (pc' := 5) W rfl rfl rfl rfl rfl ?_
  refine zw_ld (n := 1) (k := 2) (f := zp_isI) (pc' := 6) rfl rfl rfl rfl rfl ?_
  refine zw_s (pc' := 7) rfl rfl ?_
  refine zw_c (pc' := 10) (zw_cv (q := 2) (Y := zm_128) W.1 rfl rfl zm_128_t rfl rfl) rfl rfl rfl rfl rfl (v1) ?_
  refine zw_sl (n := 1) (k := 3) (pc' := 11) rfl rfl rfl rfl ?_
  refine zw_ld (n := 1) (k := 0) (f := zp_isR) (pc' := 12) rfl rfl (zw_gt2 rfl rfl rfl) rfl rfl ?_
  refine zw_ld (n := 1) (k := 1) (f := zp_isR) (pc' := 13) rfl rfl (zw_gt2 rfl rfl rfl) rfl rfl ?_
  refine zw_ld (n := 1) (k := 0) (f := zp_isR) (pc' := 14) rfl rfl (zw_gt2 rfl rfl rfl) rfl rfl ?_
  refine zw_gL (q := 55) (pc' := 17) W rfl rfl rfl rfl rfl ?_
  refine zw_ld (n := 1) (k := 2) (f := zp_isI) (pc' := 18) rfl rfl (zw_gt2 rfl rfl rfl) rfl rfl ?_
  refine zw_s (pc' := 19) rfl rfl ?_
  refine zw_c (pc' := 22) (zw_cv (q := 2) (Y := zm_128) W.1 rfl rfl zm_128_t rfl rfl) rfl rfl rfl rfl rfl (v2) ?_
  refine zw_pL (q := 55) (pc' := 25) W rfl rfl rfl rfl rfl rfl ?_
  refine zw_ld (n := 1) (k := 0) (f := zp_isR) (pc' := 26) rfl rfl (zw_gt2 rfl rfl rfl) rfl rfl ?_
  refine zw_ld (n := 1) (k := 3) (f := zp_isL) (pc' := 27) rfl rfl zw_g2 rfl rfl ?_
  refine zw_pL (q := 55) (pc' := 30) (zw_W_J W) rfl rfl rfl rfl rfl rfl ?_
  refine zw_rn rfl rfl ?_
  exact ⟨_, rfl, zw_W_J (zw_W_J W), xFv_J (xFv_J (xFv_r H)), by rw [show (zw_J (zw_J H 55 0 z2) 55 1 z1).2.2.1 55 0 = z2 from xJJ0]; exact u2, by rw [show (zw_J (zw_J H 55 0 z2) 55 1 z1).2.2.1 55 1 = z1 from xJJ1]; exact u1⟩

theorem yc_stp2_1 {L : Nat} {σ : Nat → Int32} {d : Nat} {H : zp_H} (W : zw_W H) {S : xSea} (hS : xOk S) (hC : xSC 2 H S) (hM : xCM 2 H S) : ∃ Z, zp_Call L σ (d + 4) 127 [.inr (.inr (some 56)), .inr (.inr (some 3)), .inl (Int32.ofInt 1)] H Z ∧ ∃ H1, Z = (.inl none, H1) ∧ zw_W H1 ∧ xFv 55 H H1 ∧ xSs S 1 1 (H.2.2.1 55 1) (H1.2.2.1 55 0) ∧ xSs S 1 0 (H.2.2.1 55 0) (H1.2.2.1 55 1) := by
  obtain ⟨_, v1, z1, rfl, u1⟩ := yc_sld2_1_1 (L := L) (σ := σ) (d := d) (X := H.2.2.1 55 0) W hS hC hM
  obtain ⟨_, v2, z2, rfl, u2⟩ := yc_sld2_1_0 (L := L) (σ := σ) (d := d) (X := H.2.2.1 55 1) W hS hC hM
  refine zw_met zm_127_t rfl rfl ?_
  refine zw_ld (n := 1) (k := 1) (f := zp_isR) (pc' := 1) rfl rfl rfl rfl rfl ?_
  refine zw_ld (n := 1) (k := 0) (f := zp_isR) (pc' := 2) rfl rfl rfl rfl rfl ?_
  refine zw_gL (q := 55) (pc' := 5) W rfl rfl rfl rfl rfl ?_
  refine zw_ld (n := 1) (k := 2) (f := zp_isI) (pc' := 6) rfl rfl rfl rfl rfl ?_
  refine zw_s (pc' := 7) rfl rfl ?_
  refine zw_c (pc' := 10) (zw_cv (q := 2) (Y := zm_128) W.1 rfl rfl zm_128_t rfl rfl) rfl rfl rfl rfl rfl (v1) ?_
  refine zw_sl (n := 1) (k := 3) (pc' := 11) rfl rfl rfl rfl ?_
  refine zw_ld (n := 1) (k := 0) (f := zp_isR) (pc' := 12) rfl rfl (zw_gt2 rfl rfl rfl) rfl rfl ?_
  refine zw_ld (n := 1) (k := 1) (f := zp_isR) (pc' := 13) rfl rfl (zw_gt2 rfl rfl rfl) rfl rfl ?_
  refine zw_ld (n := 1) (k := 0) (f := zp_isR) (pc' := 14) rfl rfl (zw_gt2 rfl rfl rfl) rfl rfl ?_
  refine zw_gL (q := 55) (pc' := 17) W rfl rfl rfl rfl rfl ?_
  refine zw_ld (n := 1) (k := 2) (f := zp_isI) (pc' := 18) rfl rfl (zw_gt2 rfl rfl rfl) rfl rfl ?_
  refine zw_s (pc' := 19) rfl rfl ?_
  refine zw_c (pc' := 22) (zw_cv (q := 2) (Y := zm_128) W.1 rfl rfl zm_128_t rfl rfl) rfl rfl rfl rfl rfl (v2) ?_
  refine zw_pL (q := 55) (pc' := 25) W rfl rfl rfl rfl rfl rfl ?_
  refine zw_ld (n := 1) (k := 0) (f := zp_isR) (pc' := 26) rfl rfl (zw_gt2 rfl rfl rfl) rfl rfl ?_
  refine zw_ld (n := 1) (k := 3) (f := zp_isL) (pc' := 27) rfl rfl zw_g2 rfl rfl ?_
  refine zw_pL (q := 55) (pc' := 30) (zw_W_J W) rfl rfl rfl rfl rfl rfl ?_
  refine zw_rn rfl rfl ?_
  exact ⟨_, rfl, zw_W_J (zw_W_J W), xFv_J (xFv_J (xFv_r H)), by rw [show (zw_J (zw_J H 55 0 z2) 55 1 z1).2.2.1 55 0 = z2 from xJJ0]; exact u2, by rw [show (zw_J (zw_J H 55 0 z2) 55 1 z1).2.2.1 55 1 = z1 from xJJ1]; exact u1⟩

theorem yc_stp2_2 {L : Nat} {σ : Nat → Int32} {d : Nat} {H : zp_H} (W : zw_W H) {S : xSea} (hS : xOk S) (hC : xSC 2 H S) (hM : xCM 2 H S) : ∃ Z, zp_Call L σ (d + 4) 127 [.inr (.inr (some 56)), .inr (.inr (some 3)), .inl (Int32.ofInt 2)] H Z ∧ ∃ H1, Z = (.inl none, H1) ∧ zw_W H1 ∧ xFv 55 H H1 ∧ xSs S 2 1 (H.2.2.1 55 1) (H1.2.2.1 55 0) ∧ xSs S 2 0 (H.2.2.1 55 0) (H1.2.2.1 55 1) := by
  obtain ⟨_, v1, z1, rfl, u1⟩ := yc_sld2_2_1 (L := L) (σ := σ) (d := d) (X := H.2.2.1 55 0) W hS hC hM
  obtain ⟨_, v2, z2, rfl, u2⟩ := yc_sld2_2_0 (L := L) (σ := σ) (d := d) (X := H.2.2.1 55 1) W hS hC hM
  refine zw_met zm_127_t rfl rfl ?_
  refine zw_ld (n := 1) (k := 1) (f := zp_isR) (pc' := 1) rfl rfl rfl rfl rfl ?_
  refine zw_ld (n := 1) (k := 0) (f := zp_isR) (pc' := 2) rfl rfl rfl rfl rfl ?_
  refine zw_gL (q := 55) (pc' := 5) W rfl rfl rfl rfl rfl ?_
  refine zw_ld (n := 1) (k := 2) (f := zp_isI) (pc' := 6) rfl rfl rfl rfl rfl ?_
  refine zw_s (pc' := 7) rfl rfl ?_
  refine zw_c (pc' := 10) (zw_cv (q := 2) (Y := zm_128) W.1 rfl rfl zm_128_t rfl rfl) rfl rfl rfl rfl rfl (v1) ?_
  refine zw_sl (n := 1) (k := 3) (pc' := 11) rfl rfl rfl rfl ?_
  refine zw_ld (n := 1) (k := 0) (f := zp_isR) (pc' := 12) rfl rfl (zw_gt2 rfl rfl rfl) rfl rfl ?_
  refine zw_ld (n := 1) (k := 1) (f := zp_isR) (pc' := 13) rfl rfl (zw_gt2 rfl rfl rfl) rfl rfl ?_
  refine zw_ld (n := 1) (k := 0) (f := zp_isR) (pc' := 14) rfl rfl (zw_gt2 rfl rfl rfl) rfl rfl ?_
  refine zw_gL (q := 55) (pc' := 17) W rfl rfl rfl rfl rfl ?_
  refine zw_ld (n := 1) (k := 2) (f := zp_isI) (pc' := 18) rfl rfl (zw_gt2 rfl rfl rfl) rfl rfl ?_
  refine zw_s (pc' := 19) rfl rfl ?_
  refine zw_c (pc' := 22) (zw_cv (q := 2) (Y := zm_128) W.1 rfl rfl zm_128_t rfl rfl) rfl rfl rfl rfl rfl (v2) ?_
  refine zw_pL (q := 55) (pc' := 25) W rfl rfl rfl rfl rfl rfl ?_
  refine zw_ld (n := 1) (k := 0) (f := zp_isR) (pc' := 26) rfl rfl (zw_gt2 rfl rfl rfl) rfl rfl ?_
  refine zw_ld (n := 1) (k := 3) (f := zp_isL) (pc' := 27) rfl rfl zw_g2 rfl rfl ?_
  refine zw_pL (q := 55) (pc' := 30) (zw_W_J W) rfl rfl rfl rfl rfl rfl ?_
  refine zw_rn rfl rfl ?_
  exact ⟨_, rfl, zw_W_J (zw_W_J W), xFv_J (xFv_J (xFv_r H)), by rw [show (zw_J (zw_J H 55 0 z2) 55 1 z1).2.2.1 55 0 = z2 from xJJ0]; exact u2, by rw [show (zw_J (zw_J H 55 0 z2) 55 1 z1).2.2.1 55 1 = z1 from xJJ1]; exact u1⟩

theorem yc_stp2_3 {L : Nat} {σ : Nat → Int32} {d : Nat} {H : zp_H} (W : zw_W H) {S : xSea} (hS : xOk S) (hC : xSC 2 H S) (hM : xCM 2 H S) : ∃ Z, zp_Call L σ (d + 4) 127 [.inr (.inr (some 56)), .inr (.inr (some 3)), .inl (Int32.ofInt 3)] H Z ∧ ∃ H1, Z = (.inl none, H1) ∧ zw_W H1 ∧ xFv 55 H H1 ∧ xSs S 3 1 (H.2.2.1 55 1) (H1.2.2.1 55 0) ∧ xSs S 3 0 (H.2.2.1 55 0) (H1.2.2.1 55 1) := by
  obtain ⟨_, v1, z1, rfl, u1⟩ := yc_sld2_3_1 (L := L) (σ := σ) (d := d) (X := H.2.2.1 55 0) W hS hC hM
  obtain ⟨_, v2, z2, rfl, u2⟩ := yc_sld2_3_0 (L := L) (σ := σ) (d := d) (X := H.2.2.1 55 1) W hS hC hM
  refine zw_met zm_127_t rfl rfl ?_
  refine zw_ld (n := 1) (k := 1) (f := zp_isR) (pc' := 1) rfl rfl rfl rfl rfl ?_
  refine zw_ld (n := 1) (k := 0) (f := zp_isR) (pc' := 2) rfl rfl rfl rfl rfl ?_
  refine zw_gL (q := 55) (pc' := 5) W rfl rfl rfl rfl rfl ?_
  refine zw_ld (n := 1) (k := 2) (f := zp_isI) (pc' := 6) rfl rfl rfl rfl rfl ?_
  refine zw_s (pc' := 7) rfl rfl ?_
  refine zw_c (pc' := 10) (zw_cv (q := 2) (Y := zm_128) W.1 rfl rfl zm_128_t rfl rfl) rfl rfl rfl rfl rfl (v1) ?_
  refine zw_sl (n := 1) (k := 3) (pc' := 11) rfl rfl rfl rfl ?_
  refine zw_ld (n := 1) (k := 0) (f := zp_isR) (pc' := 12) rfl rfl (zw_gt2 rfl rfl rfl) rfl rfl ?_
  refine zw_ld (n := 1) (k := 1) (f := zp_isR) (pc' := 13) rfl rfl (zw_gt2 rfl rfl rfl) rfl rfl ?_
  refine zw_ld (n := 1) (k := 0) (f := zp_isR) (pc' := 14) rfl rfl (zw_gt2 rfl rfl rfl) rfl rfl ?_
  refine zw_gL (q := 55) (pc' := 17) W rfl rfl rfl rfl rfl ?_
  refine zw_ld (n := 1) (k := 2) (f := zp_isI) (pc' := 18) rfl rfl (zw_gt2 rfl rfl rfl) rfl rfl ?_
  refine zw_s (pc' := 19) rfl rfl ?_
  refine zw_c (pc' := 22) (zw_cv (q := 2) (Y := zm_128) W.1 rfl rfl zm_128_t rfl rfl) rfl rfl rfl rfl rfl (v2) ?_
  refine zw_pL (q := 55) (pc' := 25) W rfl rfl rfl rfl rfl rfl ?_
  refine zw_ld (n := 1) (k := 0) (f := zp_isR) (pc' := 26) rfl rfl (zw_gt2 rfl rfl rfl) rfl rfl ?_
  refine zw_ld (n := 1) (k := 3) (f := zp_isL) (pc' := 27) rfl rfl zw_g2 rfl rfl ?_
  refine zw_pL (q := 55) (pc' := 30) (zw_W_J W) rfl rfl rfl rfl rfl rfl ?_
  refine zw_rn rfl rfl ?_
  exact ⟨_, rfl, zw_W_J (zw_W_J W), xFv_J (xFv_J (xFv_r H)), by rw [show (zw_J (zw_J H 55 0 z2) 55 1 z1).2.2.1 55 0 = z2 from xJJ0]; exact u2, by rw [show (zw_J (zw_J H 55 0 z2) 55 1 z1).2.2.1 55 1 = z1 from xJJ1]; exact u1⟩

theorem yc_stp2 {L : Nat} {σ : Nat → Int32} {d : Nat} {H : zp_H} {x : Int32} (W : zw_W H) {S : xSea} (hS : xOk S) (hC : xSC 2 H S) (hM : xCM 2 H S) (hx : 0 ≤ x.toInt ∧ x.toInt ≤ 3) : ∃ Z, zp_Call L σ (d + 4) 127 [.inr (.inr (some 56)), .inr (.inr (some 3)), .inl x] H Z ∧ ∃ H1, Z = (.inl none, H1) ∧ zw_W H1 ∧ xFv 55 H H1 ∧ xSs S x.toInt 1 (H.2.2.1 55 1) (H1.2.2.1 55 0) ∧ xSs S x.toInt 0 (H.2.2.1 55 0) (H1.2.2.1 55 1) := by
  rcases y0123 (x := x) ⟨hx.1, hx.2⟩ with rfl | rfl | rfl | rfl
  · exact yc_stp2_0 W hS hC hM
  · exact yc_stp2_1 W hS hC hM
  · exact yc_stp2_2 W hS hC hM
  · exact yc_stp2_3 W hS hC hM

theorem yc_smL2 {L : Nat} {σ : Nat → Int32} {d : Nat} {P : zp_X → Prop} {S : xSea} {H0 : zp_H} {hr : Int} {q : Nat → Nat → Prop} (hS : xOk S) (hC : xSC 2 H0 S) (hM : xCM 2 H0 S) {x s : Int32} (hx : 0 ≤ x.toInt ∧ x.toInt ≤ 3) : ∀ (n : Nat) (H : zp_H) (lv : zp_LV) (i : Int32) (j : Nat), zw_W H → xFv 55 H0 H → xCL hr (xItn S hr q x.toInt j) (H.2.2.1 55 0) (H.2.2.1 55 1) → i.toInt = j → j + n = s.toInt.toNat → zp_get lv 0 = some (.inr (.inr (some 56))) → zp_get lv 1 = some (.inr (.inr (some 3))) → zp_get lv 2 = some (.inl x) → zp_get lv 3 = some (.inl s) → zp_get lv 4 = some (.inl i) → (∀ H1, zw_W H1 → xFv 55 H0 H1 → xCL hr (xItn S hr q x.toInt s.toInt.toNat) (H1.2.2.1 55 0) (H1.2.2.1 55 1) → P (.inl none, H1)) → zs_Safe L σ P zm_131 [] (d + 4) (3, lv, [], H, (0, 0)) := by
  intro n
  induction n with
  | zero =>
    intro H lv i j W hF hc h5 hn l0 l1 l2 l3 l4 hP
    refine zw_ld (n := 2) (k := 4) (f := zp_isI) (pc' := 5) rfl rfl l4 rfl rfl ?_
    refine zw_ld (n := 1) (k := 3) (f := zp_isI) (pc' := 6) rfl rfl l3 rfl rfl ?_
    refine zw_bge2 (g := 21) (pc' := 9) rfl rfl rfl rfl rfl (fun h1 => ?_) (fun h1 => ?_)
    · refine zw_rn rfl rfl ?_
      have e : j = s.toInt.toNat := by omega
      rw [e] at hc
      exact hP H W hF hc
    · omega
  | succ n ih =>
    intro H lv i j W hF hc h5 hn l0 l1 l2 l3 l4 hP
    refine zw_ld (n := 2) (k := 4) (f := zp_isI) (pc' := 5) rfl rfl l4 rfl rfl ?_
    refine zw_ld (n := 1) (k := 3) (f := zp_isI) (pc' := 6) rfl rfl l3 rfl rfl ?_
    refine zw_bge2 (g := 21) (pc' := 9) rfl rfl rfl rfl rfl (fun h1 => ?_) (fun h1 => ?_)
    · omega
    · have ei : (i + Int32.ofInt 1).toInt = i.toInt + 1 := zw_p1 (by have h9 : s.toInt ≤ 2147483647 := Int32.toInt_le s; omega)
      obtain ⟨_, q1, H1, rfl, W1, q2, q3, q4⟩ := yc_stp2 (L := L) (σ := σ) (d := d) (x := x) W hS (xSC_v hF (by decide) hC) (xCM_v hF (by decide) hM) hx
      have hc2 := xCL_s hS hc q3 q4
      refine zw_ld (n := 1) (k := 0) (f := zp_isR) (pc' := 10) rfl rfl l0 rfl rfl ?_
      refine zw_ld (n := 1) (k := 1) (f := zp_isR) (pc' := 11) rfl rfl l1 rfl rfl ?_
      refine zw_ld (n := 1) (k := 2) (f := zp_isI) (pc' := 12) rfl rfl l2 rfl rfl ?_
      refine zw_cn (pc' := 15) (zw_cv (q := 55) (Y := zm_127) W.1 rfl rfl zm_127_t rfl rfl) rfl rfl rfl rfl rfl (q1) ?_
      refine zw_ii (pc' := 18) rfl l4 rfl rfl ?_
      refine zw_s (pc' := 3) rfl rfl ?_
      exact ih H1 _ (i + Int32.ofInt 1) (j + 1) W1 (xFv_t hF q2) hc2 (by omega) (by omega) (zw_gt l0 rfl rfl) (zw_gt l1 rfl rfl) (zw_gt l2 rfl rfl) (zw_gt l3 rfl rfl) zw_g1 hP

theorem yc_sm2 {L : Nat} {σ : Nat → Int32} {d : Nat} {S : xSea} {H0 : zp_H} {hr : Int} {q : Nat → Nat → Prop} (hS : xOk S) (hC : xSC 2 H0 S) (hM : xCM 2 H0 S) {x s : Int32} (hx : 0 ≤ x.toInt ∧ x.toInt ≤ 3) (W : zw_W H0) (hc : xCL hr q (H0.2.2.1 55 0) (H0.2.2.1 55 1)) : ∃ Z, zp_Call L σ (d + 5) 131 [.inr (.inr (some 56)), .inr (.inr (some 3)), .inl x, .inl s] H0 Z ∧ ∃ H1, Z = (.inl none, H1) ∧ zw_W H1 ∧ xFv 55 H0 H1 ∧ xCL hr (xItn S hr q x.toInt s.toInt.toNat) (H1.2.2.1 55 0) (H1.2.2.1 55 1) := by
  refine zw_met zm_131_t rfl rfl ?_
  refine zw_s (pc' := 1) rfl rfl ?_
  refine zw_st (n := 2) (k := 4) (f := zp_isI) (pc' := 3) rfl rfl rfl rfl rfl ?_
  exact yc_smL2 (q := q) hS hC hM hx s.toInt.toNat H0 _ (Int32.ofInt 0) 0 W (xFv_r H0) hc (by decide) (Nat.zero_add _) (zw_gt rfl rfl rfl) (zw_gt rfl rfl rfl) (zw_gt rfl rfl rfl) (zw_gt rfl rfl rfl) zw_g1 (fun H1 w1 w2 w3 => ⟨H1, rfl, w1, w2, w3⟩)

theorem yc_saI2 {L : Nat} {σ : Nat → Int32} {d : Nat} {P : zp_X → Prop} {S : xSea} {H0 : zp_H} {hr : Int} {q : Nat → Nat → Prop} (hS : xOk S) (hC : xSC 2 H0 S) (hM : xCM 2 H0 S) {p : Nat → Nat → Prop} {fe fo : Int64} {x : Int32} (hx : 0 ≤ x.toInt ∧ x.toInt ≤ 3) : ∀ (n : Nat) (H : zp_H) (lv : zp_LV) (te to : Int64) (i : Int32) (j : Nat), zw_W H → xFv 55 H0 H → xCL hr (xUf S hr p q x.toInt j) te to → xCL hr (xItn S hr q x.toInt j) (H.2.2.1 55 0) (H.2.2.1 55 1) → i.toInt = j → j + n = 9 → zp_get lv 0 = some (.inr (.inr (some 56))) → zp_get lv 1 = some (.inr (.inr (some 3))) → zp_get lv 2 = some (.inr (.inl fe)) → zp_get lv 4 = some (.inr (.inl fo)) → zp_get lv 6 = some (.inr (.inl te)) → zp_get lv 8 = some (.inr (.inl to)) → zp_get lv 10 = some (.inl x) → zp_get lv 11 = some (.inl i) → (∀ H1 lv1 te1 to1, zw_W H1 → xFv 55 H0 H1 → xCL hr (xUf S hr p q x.toInt 9) te1 to1 → zp_get lv1 0 = some (.inr (.inr (some 56))) → zp_get lv1 1 = some (.inr (.inr (some 3))) → zp_get lv1 2 = some (.inr (.inl fe)) → zp_get lv1 4 = some (.inr (.inl fo)) → zp_get lv1 6 = some (.inr (.inl te1)) → zp_get lv1 8 = some (.inr (.inl to1)) → zp_get lv1 10 = some (.inl x) → zs_Safe L σ P zm_126 [] (d + 4) (78, lv1, [], H1, (0, 0))) → zs_Safe L σ P zm_126 [] (d + 4) (40, lv, [], H, (0, 0)) := by
  intro n
  induction n with
  | zero =>
    intro H lv te to i j W hF hp hc h5 hn l0 l1 l2 l4 l6 l8 l10 l11 hP
    refine zw_ld (n := 2) (k := 11) (f := zp_isI) (pc' := 42) rfl rfl l11 rfl rfl ?_
    refine zw_s (pc' := 44) rfl rfl ?_
    refine zw_bge2 (g := 78) (pc' := 47) rfl rfl rfl rfl (rfl : _ = (9 : Int)) (fun h1 => ?_) (fun h1 => ?_)
    · have e : j = 9 := by omega
      rw [e] at hp
      exact hP H lv te to W hF hp l0 l1 l2 l4 l6 l8 l10
    · have h1 : i.toInt < 9 := h1
      omega
  | succ n ih =>
    intro H lv te to i j W hF hp hc h5 hn l0 l1 l2 l4 l6 l8 l10 l11 hP
    refine zw_ld (n := 2) (k := 11) (f := zp_isI) (pc' := 42) rfl rfl l11 rfl rfl ?_
    refine zw_s (pc' := 44) rfl rfl ?_
    refine zw_bge2 (g := 78) (pc' := 47) rfl rfl rfl rfl (rfl : _ = (9 : Int)) (fun h1 => ?_) (fun h1 => ?_)
    · have h1 : 9 ≤ i.toInt := h1
      omega
    · have ei : (i + Int32.ofInt 1).toInt = i.toInt + 1 := zw_p1 (by omega)
      obtain ⟨_, q1, H1, rfl, W1, q2, q3, q4⟩ := yc_stp2 (L := L) (σ := σ) (d := d) (x := x) W hS (xSC_v hF (by decide) hC) (xCM_v hF (by decide) hM) hx
      have hc2 := xCL_s hS hc q3 q4
      have hp2 := xCL_o hp hc2
      refine zw_ld (n := 1) (k := 0) (f := zp_isR) (pc' := 48) rfl rfl l0 rfl rfl ?_
      refine zw_ld (n := 1) (k := 1) (f := zp_isR) (pc' := 49) rfl rfl l1 rfl rfl ?_
      refine zw_ld (n := 2) (k := 10) (f := zp_isI) (pc' := 51) rfl rfl l10 rfl rfl ?_
      refine zw_cn (pc' := 54) (zw_cv (q := 55) (Y := zm_127) W.1 rfl rfl zm_127_t rfl rfl) rfl rfl rfl rfl rfl (q1) ?_
      refine zw_ld (n := 2) (k := 6) (f := zp_isL) (pc' := 56) rfl rfl l6 rfl rfl ?_
      refine zw_ld (n := 1) (k := 0) (f := zp_isR) (pc' := 57) rfl rfl l0 rfl rfl ?_
      refine zw_gL (q := 55) (pc' := 60) W1 rfl rfl rfl rfl rfl ?_
      refine zw_lor (pc' := 61) rfl rfl ?_
      refine zw_sl (n := 2) (k := 6) (pc' := 63) rfl rfl rfl rfl ?_
      refine zw_ld (n := 2) (k := 8) (f := zp_isL) (pc' := 65) rfl rfl (zw_gt2 l8 rfl rfl) rfl rfl ?_
      refine zw_ld (n := 1) (k := 0) (f := zp_isR) (pc' := 66) rfl rfl (zw_gt2 l0 rfl rfl) rfl rfl ?_
      refine zw_gL (q := 55) (pc' := 69) W1 rfl rfl rfl rfl rfl ?_
      refine zw_lor (pc' := 70) rfl rfl ?_
      refine zw_sl (n := 2) (k := 8) (pc' := 72) rfl rfl rfl rfl ?_
      refine zw_ii (pc' := 75) rfl (zw_gt2 (zw_gt2 l11 rfl rfl) rfl rfl) rfl rfl ?_
      refine zw_s (pc' := 40) rfl rfl ?_
      exact ih H1 _ _ _ (i + Int32.ofInt 1) (j + 1) W1 (xFv_t hF q2) hp2 hc2 (by omega) (by omega) (zw_gt (zw_gt2 (zw_gt2 l0 rfl rfl) rfl rfl) rfl rfl) (zw_gt (zw_gt2 (zw_gt2 l1 rfl rfl) rfl rfl) rfl rfl) (zw_gt (zw_gt2 (zw_gt2 l2 rfl rfl) rfl rfl) rfl rfl) (zw_gt (zw_gt2 (zw_gt2 l4 rfl rfl) rfl rfl) rfl rfl) (zw_gt (zw_gt2 zw_g2 rfl rfl) rfl rfl) (zw_gt zw_g2 rfl rfl) (zw_gt (zw_gt2 (zw_gt2 l10 rfl rfl) rfl rfl) rfl rfl) zw_g1 hP

theorem yc_saW2_0 {L : Nat} {σ : Nat → Int32} {d : Nat} {P : zp_X → Prop} {S : xSea} {H0 : zp_H} {hr : Int} {q : Nat → Nat → Prop} (hS : xOk S) (hC : xSC 2 H0 S) (hM : xCM 2 H0 S) {p : Nat → Nat → Prop} {fe fo : Int64} (hc : xCL hr q fe fo) {H : zp_H} {lv : zp_LV} {te to : Int64} (W : zw_W H) (hF : xFv 55 H0 H) (hp : xCL hr p te to) (l0 : zp_get lv 0 = some (.inr (.inr (some 56)))) (l1 : zp_get lv 1 = some (.inr (.inr (some 3)))) (l2 : zp_get lv 2 = some (.inr (.inl fe))) (l4 : zp_get lv 4 = some (.inr (.inl fo))) (l6 : zp_get lv 6 = some (.inr (.inl te))) (l8 : zp_get lv 8 = some (.inr (.inl to))) (l10 : zp_get lv 10 = some (.inl (Int32.ofInt 0))) (hP : ∀ H1 lv1 te1 to1, zw_W H1 → xFv 55 H0 H1 → xCL hr (xUf S hr p q 0 9) te1 to1 → zp_get lv1 0 = some (.inr (.inr (some 56))) → zp_get lv1 1 = some (.inr (.inr (some 3))) → zp_get lv1 2 = some (.inr (.inl fe)) → zp_get lv1 4 = some (.inr (.inl fo)) → zp_get lv1 6 = some (.inr (.inl te1)) → zp_get lv1 8 = some (.inr (.inl to1)) → zp_get lv1 10 = some (.inl (Int32.ofInt 1)) → zs_Safe L σ P zm_126 [] (d + 4) (20, lv1, [], H1, (0, 0))) : zs_Safe L σ P zm_126 [] (d + 4) (20, lv, [], H, (0, 0)) := by
  refine zw_ld (n := 2) (k := 10) (f := zp_isI) (pc' := 22) rfl rfl l10 rfl rfl ?_
  refine zw_s (pc' := 23) rfl rfl ?_
  refine zw_bge2 (g := 84) (pc' := 26) rfl rfl rfl (rfl : _ = (0 : Int)) (rfl : _ = (4 : Int)) (fun h9 => absurd h9 (by decide)) (fun h1 => ?_)
  refine zw_ld (n := 1) (k := 0) (f := zp_isR) (pc' := 27) rfl rfl l0 rfl rfl ?_
  refine zw_ld (n := 1) (k := 2) (f := zp_isL) (pc' := 28) rfl rfl l2 rfl rfl ?_
  refine zw_pL (q := 55) (pc' := 31) W rfl rfl rfl rfl rfl rfl ?_
  refine zw_ld (n := 1) (k := 0) (f := zp_isR) (pc' := 32) rfl rfl l0 rfl rfl ?_
  refine zw_ld (n := 2) (k := 4) (f := zp_isL) (pc' := 34) rfl rfl l4 rfl rfl ?_
  refine zw_pL (q := 55) (pc' := 37) (zw_W_J W) rfl rfl rfl rfl rfl rfl ?_
  refine zw_s (pc' := 38) rfl rfl ?_
  refine zw_st (n := 2) (k := 11) (f := zp_isI) (pc' := 40) rfl rfl rfl rfl rfl ?_
  refine yc_saI2 (p := p) (q := q) (x := Int32.ofInt 0) hS hC hM ⟨by decide, by decide⟩ 9 (zw_J (zw_J H 55 0 fe) 55 1 fo) _ te to (Int32.ofInt 0) 0 (zw_W_J (zw_W_J W)) (xFv_J (xFv_J hF)) hp (by
    show xCL hr q ((zw_J (zw_J H 55 0 fe) 55 1 fo).2.2.1 55 0) ((zw_J (zw_J H 55 0 fe) 55 1 fo).2.2.1 55 1)
    rw [show (zw_J (zw_J H 55 0 fe) 55 1 fo).2.2.1 55 0 = fe from xJJ0, show (zw_J (zw_J H 55 0 fe) 55 1 fo).2.2.1 55 1 = fo from xJJ1]
    exact hc) (by decide) rfl (zw_gt l0 rfl rfl) (zw_gt l1 rfl rfl) (zw_gt l2 rfl rfl) (zw_gt l4 rfl rfl) (zw_gt l6 rfl rfl) (zw_gt l8 rfl rfl) (zw_gt l10 rfl rfl) zw_g1 (fun H1 lv1 te1 to1 w1 w2 w3 m0 m1 m2 m4 m6 m8 m10 => ?_)
  refine zw_ii (pc' := 81) rfl m10 rfl rfl ?_
  rw [show Int32.ofInt 0 + Int32.ofInt 1 = Int32.ofInt 1 by decide]
  refine zw_s (pc' := 20) rfl rfl ?_
  exact hP H1 _ te1 to1 w1 w2 w3 (zw_gt m0 rfl rfl) (zw_gt m1 rfl rfl) (zw_gt m2 rfl rfl) (zw_gt m4 rfl rfl) (zw_gt m6 rfl rfl) (zw_gt m8 rfl rfl) zw_g1

theorem yc_saW2_1 {L : Nat} {σ : Nat → Int32} {d : Nat} {P : zp_X → Prop} {S : xSea} {H0 : zp_H} {hr : Int} {q : Nat → Nat → Prop} (hS : xOk S) (hC : xSC 2 H0 S) (hM : xCM 2 H0 S) {p : Nat → Nat → Prop} {fe fo : Int64} (hc : xCL hr q fe fo) {H : zp_H} {lv : zp_LV} {te to : Int64} (W : zw_W H) (hF : xFv 55 H0 H) (hp : xCL hr p te to) (l0 : zp_get lv 0 = some (.inr (.inr (some 56)))) (l1 : zp_get lv 1 = some (.inr (.inr (some 3)))) (l2 : zp_get lv 2 = some (.inr (.inl fe))) (l4 : zp_get lv 4 = some (.inr (.inl fo))) (l6 : zp_get lv 6 = some (.inr (.inl te))) (l8 : zp_get lv 8 = some (.inr (.inl to))) (l10 : zp_get lv 10 = some (.inl (Int32.ofInt 1))) (hP : ∀ H1 lv1 te1 to1, zw_W H1 → xFv 55 H0 H1 → xCL hr (xUf S hr p q 1 9) te1 to1 → zp_get lv1 0 = some (.inr (.inr (some 56))) → zp_get lv1 1 = some (.inr (.inr (some 3))) → zp_get lv1 2 = some (.inr (.inl fe)) → zp_get lv1 4 = some (.inr (.inl fo)) → zp_get lv1 6 = some (.inr (.inl te1)) → zp_get lv1 8 = some (.inr (.inl to1)) → zp_get lv1 10 = some (.inl (Int32.ofInt 2)) → zs_Safe L σ P zm_126 [] (d + 4) (20, lv1, [], H1, (0, 0))) : zs_Safe L σ P zm_126 [] (d + 4) (20, lv, [], H, (0, 0)) := by
  refine zw_ld (n := 2) (k := 10) (f := zp_isI) (pc' := 22) rfl rfl l10 rfl rfl ?_
  refine zw_s (pc' := 23) rfl rfl ?_
  refine zw_bge2 (g := 84) (pc' := 26) rfl rfl rfl (rfl : _ = (1 : Int)) (rfl : _ = (4 : Int)) (fun h9 => absurd h9 (by decide)) (fun h1 => ?_)
  refine zw_ld (n := 1) (k := 0) (f := zp_isR) (pc' := 27) rfl rfl l0 rfl rfl ?_
  refine zw_ld (n := 1) (k := 2) (f := zp_isL) (pc' := 28) rfl rfl l2 rfl rfl ?_
  refine zw_pL (q := 55) (pc' := 31) W rfl rfl rfl rfl rfl rfl ?_
  refine zw_ld (n := 1) (k := 0) (f := zp_isR) (pc' := 32) rfl rfl l0 rfl rfl ?_
  refine zw_ld (n := 2) (k := 4) (f := zp_isL) (pc' := 34) rfl rfl l4 rfl rfl ?_
  refine zw_pL (q := 55) (pc' := 37) (zw_W_J W) rfl rfl rfl rfl rfl rfl ?_
  refine zw_s (pc' := 38) rfl rfl ?_
  refine zw_st (n := 2) (k := 11) (f := zp_isI) (pc' := 40) rfl rfl rfl rfl rfl ?_
  refine yc_saI2 (p := p) (q := q) (x := Int32.ofInt 1) hS hC hM ⟨by decide, by decide⟩ 9 (zw_J (zw_J H 55 0 fe) 55 1 fo) _ te to (Int32.ofInt 0) 0 (zw_W_J (zw_W_J W)) (xFv_J (xFv_J hF)) hp (by
    show xCL hr q ((zw_J (zw_J H 55 0 fe) 55 1 fo).2.2.1 55 0) ((zw_J (zw_J H 55 0 fe) 55 1 fo).2.2.1 55 1)
    rw [show (zw_J (zw_J H 55 0 fe) 55 1 fo).2.2.1 55 0 = fe from xJJ0, show (zw_J (zw_J H 55 0 fe) 55 1 fo).2.2.1 55 1 = fo from xJJ1]
    exact hc) (by decide) rfl (zw_gt l0 rfl rfl) (zw_gt l1 rfl rfl) (zw_gt l2 rfl rfl) (zw_gt l4 rfl rfl) (zw_gt l6 rfl rfl) (zw_gt l8 rfl rfl) (zw_gt l10 rfl rfl) zw_g1 (fun H1 lv1 te1 to1 w1 w2 w3 m0 m1 m2 m4 m6 m8 m10 => ?_)
  refine zw_ii (pc' := 81) rfl m10 rfl rfl ?_
  rw [show Int32.ofInt 1 + Int32.ofInt 1 = Int32.ofInt 2 by decide]
  refine zw_s (pc' := 20) rfl rfl ?_
  exact hP H1 _ te1 to1 w1 w2 w3 (zw_gt m0 rfl rfl) (zw_gt m1 rfl rfl) (zw_gt m2 rfl rfl) (zw_gt m4 rfl rfl) (zw_gt m6 rfl rfl) (zw_gt m8 rfl rfl) zw_g1

theorem yc_saW2_2 {L : Nat} {σ : Nat → Int32} {d : Nat} {P : zp_X → Prop} {S : xSea} {H0 : zp_H} {hr : Int} {q : Nat → Nat → Prop} (hS : xOk S) (hC : xSC 2 H0 S) (hM : xCM 2 H0 S) {p : Nat → Nat → Prop} {fe fo : Int64} (hc : xCL hr q fe fo) {H : zp_H} {lv : zp_LV} {te to : Int64} (W : zw_W H) (hF : xFv 55 H0 H) (hp : xCL hr p te to) (l0 : zp_get lv 0 = some (.inr (.inr (some 56)))) (l1 : zp_get lv 1 = some (.inr (.inr (some 3)))) (l2 : zp_get lv 2 = some (.inr (.inl fe))) (l4 : zp_get lv 4 = some (.inr (.inl fo))) (l6 : zp_get lv 6 = some (.inr (.inl te))) (l8 : zp_get lv 8 = some (.inr (.inl to))) (l10 : zp_get lv 10 = some (.inl (Int32.ofInt 2))) (hP : ∀ H1 lv1 te1 to1, zw_W H1 → xFv 55 H0 H1 → xCL hr (xUf S hr p q 2 9) te1 to1 → zp_get lv1 0 = some (.inr (.inr (some 56))) → zp_get lv1 1 = some (.inr (.inr (some 3))) → zp_get lv1 2 = some (.inr (.inl fe)) → zp_get lv1 4 = some (.inr (.inl fo)) → zp_get lv1 6 = some (.inr (.inl te1)) → zp_get lv1 8 = some (.inr (.inl to1)) → zp_get lv1 10 = some (.inl (Int32.ofInt 3)) → zs_Safe L σ P zm_126 [] (d + 4) (20, lv1, [], H1, (0, 0))) : zs_Safe L σ P zm_126 [] (d + 4) (20, lv, [], H, (0, 0)) := by
  refine zw_ld (n := 2) (k := 10) (f := zp_isI) (pc' := 22) rfl rfl l10 rfl rfl ?_
  refine zw_s (pc' := 23) rfl rfl ?_
  refine zw_bge2 (g := 84) (pc' := 26) rfl rfl rfl (rfl : _ = (2 : Int)) (rfl : _ = (4 : Int)) (fun h9 => absurd h9 (by decide)) (fun h1 => ?_)
  refine zw_ld (n := 1) (k := 0) (f := zp_isR) (pc' := 27) rfl rfl l0 rfl rfl ?_
  refine zw_ld (n := 1) (k := 2) (f := zp_isL) (pc' := 28) rfl rfl l2 rfl rfl ?_
  refine zw_pL (q := 55) (pc' := 31) W rfl rfl rfl rfl rfl rfl ?_
  refine zw_ld (n := 1) (k := 0) (f := zp_isR) (pc' := 32) rfl rfl l0 rfl rfl ?_
  refine zw_ld (n := 2) (k := 4) (f := zp_isL) (pc' := 34) rfl rfl l4 rfl rfl ?_
  refine zw_pL (q := 55) (pc' := 37) (zw_W_J W) rfl rfl rfl rfl rfl rfl ?_
  refine zw_s (pc' := 38) rfl rfl ?_
  refine zw_st (n := 2) (k := 11) (f := zp_isI) (pc' := 40) rfl rfl rfl rfl rfl ?_
  refine yc_saI2 (p := p) (q := q) (x := Int32.ofInt 2) hS hC hM ⟨by decide, by decide⟩ 9 (zw_J (zw_J H 55 0 fe) 55 1 fo) _ te to (Int32.ofInt 0) 0 (zw_W_J (zw_W_J W)) (xFv_J (xFv_J hF)) hp (by
    show xCL hr q ((zw_J (zw_J H 55 0 fe) 55 1 fo).2.2.1 55 0) ((zw_J (zw_J H 55 0 fe) 55 1 fo).2.2.1 55 1)
    rw [show (zw_J (zw_J H 55 0 fe) 55 1 fo).2.2.1 55 0 = fe from xJJ0, show (zw_J (zw_J H 55 0 fe) 55 1 fo).2.2.1 55 1 = fo from xJJ1]
    exact hc) (by decide) rfl (zw_gt l0 rfl rfl) (zw_gt l1 rfl rfl) (zw_gt l2 rfl rfl) (zw_gt l4 rfl rfl) (zw_gt l6 rfl rfl) (zw_gt l8 rfl rfl) (zw_gt l10 rfl rfl) zw_g1 (fun H1 lv1 te1 to1 w1 w2 w3 m0 m1 m2 m4 m6 m8 m10 => ?_)
  refine zw_ii (pc' := 81) rfl m10 rfl rfl ?_
  rw [show Int32.ofInt 2 + Int32.ofInt 1 = Int32.ofInt 3 by decide]
  refine zw_s (pc' := 20) rfl rfl ?_
  exact hP H1 _ te1 to1 w1 w2 w3 (zw_gt m0 rfl rfl) (zw_gt m1 rfl rfl) (zw_gt m2 rfl rfl) (zw_gt m4 rfl rfl) (zw_gt m6 rfl rfl) (zw_gt m8 rfl rfl) zw_g1

theorem yc_saW2_3 {L : Nat} {σ : Nat → Int32} {d : Nat} {P : zp_X → Prop} {S : xSea} {H0 : zp_H} {hr : Int} {q : Nat → Nat → Prop} (hS : xOk S) (hC : xSC 2 H0 S) (hM : xCM 2 H0 S) {p : Nat → Nat → Prop} {fe fo : Int64} (hc : xCL hr q fe fo) {H : zp_H} {lv : zp_LV} {te to : Int64} (W : zw_W H) (hF : xFv 55 H0 H) (hp : xCL hr p te to) (l0 : zp_get lv 0 = some (.inr (.inr (some 56)))) (l1 : zp_get lv 1 = some (.inr (.inr (some 3)))) (l2 : zp_get lv 2 = some (.inr (.inl fe))) (l4 : zp_get lv 4 = some (.inr (.inl fo))) (l6 : zp_get lv 6 = some (.inr (.inl te))) (l8 : zp_get lv 8 = some (.inr (.inl to))) (l10 : zp_get lv 10 = some (.inl (Int32.ofInt 3))) (hP : ∀ H1 lv1 te1 to1, zw_W H1 → xFv 55 H0 H1 → xCL hr (xUf S hr p q 3 9) te1 to1 → zp_get lv1 0 = some (.inr (.inr (some 56))) → zp_get lv1 1 = some (.inr (.inr (some 3))) → zp_get lv1 2 = some (.inr (.inl fe)) → zp_get lv1 4 = some (.inr (.inl fo)) → zp_get lv1 6 = some (.inr (.inl te1)) → zp_get lv1 8 = some (.inr (.inl to1)) → zp_get lv1 10 = some (.inl (Int32.ofInt 4)) → zs_Safe L σ P zm_126 [] (d + 4) (20, lv1, [], H1, (0, 0))) : zs_Safe L σ P zm_126 [] (d + 4) (20, lv, [], H, (0, 0)) := by
  refine zw_ld (n := 2) (k := 10) (f := zp_isI) (pc' := 22) rfl rfl l10 rfl rfl ?_
  refine zw_s (pc' := 23) rfl rfl ?_
  refine zw_bge2 (g := 84) (pc' := 26) rfl rfl rfl (rfl : _ = (3 : Int)) (rfl : _ = (4 : Int)) (fun h9 => absurd h9 (by decide)) (fun h1 => ?_)
  refine zw_ld (n := 1) (k := 0) (f := zp_isR) (pc' := 27) rfl rfl l0 rfl rfl ?_
  refine zw_ld (n := 1) (k := 2) (f := zp_isL) (pc' := 28) rfl rfl l2 rfl rfl ?_
  refine zw_pL (q := 55) (pc' := 31) W rfl rfl rfl rfl rfl rfl ?_
  refine zw_ld (n := 1) (k := 0) (f := zp_isR) (pc' := 32) rfl rfl l0 rfl rfl ?_
  refine zw_ld (n := 2) (k := 4) (f := zp_isL) (pc' := 34) rfl rfl l4 rfl rfl ?_
  refine zw_pL (q := 55) (pc' := 37) (zw_W_J W) rfl rfl rfl rfl rfl rfl ?_
  refine zw_s (pc' := 38) rfl rfl ?_
  refine zw_st (n := 2) (k := 11) (f := zp_isI) (pc' := 40) rfl rfl rfl rfl rfl ?_
  refine yc_saI2 (p := p) (q := q) (x := Int32.ofInt 3) hS hC hM ⟨by decide, by decide⟩ 9 (zw_J (zw_J H 55 0 fe) 55 1 fo) _ te to (Int32.ofInt 0) 0 (zw_W_J (zw_W_J W)) (xFv_J (xFv_J hF)) hp (by
    show xCL hr q ((zw_J (zw_J H 55 0 fe) 55 1 fo).2.2.1 55 0) ((zw_J (zw_J H 55 0 fe) 55 1 fo).2.2.1 55 1)
    rw [show (zw_J (zw_J H 55 0 fe) 55 1 fo).2.2.1 55 0 = fe from xJJ0, show (zw_J (zw_J H 55 0 fe) 55 1 fo).2.2.1 55 1 = fo from xJJ1]
    exact hc) (by decide) rfl (zw_gt l0 rfl rfl) (zw_gt l1 rfl rfl) (zw_gt l2 rfl rfl) (zw_gt l4 rfl rfl) (zw_gt l6 rfl rfl) (zw_gt l8 rfl rfl) (zw_gt l10 rfl rfl) zw_g1 (fun H1 lv1 te1 to1 w1 w2 w3 m0 m1 m2 m4 m6 m8 m10 => ?_)
  refine zw_ii (pc' := 81) rfl m10 rfl rfl ?_
  rw [show Int32.ofInt 3 + Int32.ofInt 1 = Int32.ofInt 4 by decide]
  refine zw_s (pc' := 20) rfl rfl ?_
  exact hP H1 _ te1 to1 w1 w2 w3 (zw_gt m0 rfl rfl) (zw_gt m1 rfl rfl) (zw_gt m2 rfl rfl) (zw_gt m4 rfl rfl) (zw_gt m6 rfl rfl) (zw_gt m8 rfl rfl) zw_g1

theorem yc_sa2 {L : Nat} {σ : Nat → Int32} {d : Nat} {S : xSea} {H0 : zp_H} {hr : Int} {q : Nat → Nat → Prop} (hS : xOk S) (hC : xSC 2 H0 S) (hM : xCM 2 H0 S) (W : zw_W H0) (hc : xCL hr q (H0.2.2.1 55 0) (H0.2.2.1 55 1)) : ∃ Z, zp_Call L σ (d + 5) 126 [.inr (.inr (some 56)), .inr (.inr (some 3))] H0 Z ∧ ∃ H1, Z = (.inl none, H1) ∧ zw_W H1 ∧ xFv 55 H0 H1 ∧ xCL hr (xRub S hr q) (H1.2.2.1 55 0) (H1.2.2.1 55 1) := by
  refine zw_met zm_126_t rfl rfl ?_
  refine zw_ld (n := 1) (k := 0) (f := zp_isR) (pc' := 1) rfl rfl rfl rfl rfl ?_
  refine zw_gL (q := 55) (pc' := 4) W rfl rfl rfl rfl rfl ?_
  refine zw_sl (n := 1) (k := 2) (pc' := 5) rfl rfl rfl rfl ?_
  refine zw_ld (n := 1) (k := 0) (f := zp_isR) (pc' := 6) rfl rfl (zw_gt2 rfl rfl rfl) rfl rfl ?_
  refine zw_gL (q := 55) (pc' := 9) W rfl rfl rfl rfl rfl ?_
  refine zw_sl (n := 2) (k := 4) (pc' := 11) rfl rfl rfl rfl ?_
  refine zw_s (pc' := 12) rfl rfl ?_
  refine zw_sl (n := 2) (k := 6) (pc' := 14) rfl rfl rfl rfl ?_
  refine zw_s (pc' := 15) rfl rfl ?_
  refine zw_sl (n := 2) (k := 8) (pc' := 17) rfl rfl rfl rfl ?_
  refine zw_s (pc' := 18) rfl rfl ?_
  refine zw_st (n := 2) (k := 10) (f := zp_isI) (pc' := 20) rfl rfl rfl rfl rfl ?_
  refine yc_saW2_0 (H0 := H0) (q := q) hS hC hM hc W (xFv_r H0) xCL_f (zw_gt (zw_gt2 (zw_gt2 (zw_gt2 (zw_gt2 rfl rfl rfl) rfl rfl) rfl rfl) rfl rfl) rfl rfl) (zw_gt (zw_gt2 (zw_gt2 (zw_gt2 (zw_gt2 rfl rfl rfl) rfl rfl) rfl rfl) rfl rfl) rfl rfl) (zw_gt (zw_gt2 (zw_gt2 (zw_gt2 zw_g2 rfl rfl) rfl rfl) rfl rfl) rfl rfl) (zw_gt (zw_gt2 (zw_gt2 zw_g2 rfl rfl) rfl rfl) rfl rfl) (zw_gt (zw_gt2 zw_g2 rfl rfl) rfl rfl) (zw_gt zw_g2 rfl rfl) zw_g1 (fun H1 lv1 te1 to1 w1 f1 p1 a1 b1 c1 d1 e1 g1 i1 => ?_)
  refine yc_saW2_1 (H0 := H0) (q := q) hS hC hM hc w1 f1 p1 a1 b1 c1 d1 e1 g1 i1 (fun H2 lv2 te2 to2 w2 f2 p2 a2 b2 c2 d2 e2 g2 i2 => ?_)
  refine yc_saW2_2 (H0 := H0) (q := q) hS hC hM hc w2 f2 p2 a2 b2 c2 d2 e2 g2 i2 (fun H3 lv3 te3 to3 w3 f3 p3 a3 b3 c3 d3 e3 g3 i3 => ?_)
  refine yc_saW2_3 (H0 := H0) (q := q) hS hC hM hc w3 f3 p3 a3 b3 c3 d3 e3 g3 i3 (fun H4 lv4 te4 to4 w4 f4 p4 a4 b4 c4 d4 e4 g4 i4 => ?_)
  refine zw_ld (n := 2) (k := 10) (f := zp_isI) (pc' := 22) rfl rfl i4 rfl rfl ?_
  refine zw_s (pc' := 23) rfl rfl ?_
  refine zw_bge2 (g := 84) (pc' := 26) rfl rfl rfl (rfl : _ = (4 : Int)) (rfl : _ = (4 : Int)) (fun h1 => ?_) (fun h9 => absurd h9 (by decide))
  refine zw_ld (n := 1) (k := 0) (f := zp_isR) (pc' := 85) rfl rfl a4 rfl rfl ?_
  refine zw_ld (n := 2) (k := 6) (f := zp_isL) (pc' := 87) rfl rfl e4 rfl rfl ?_
  refine zw_pL (q := 55) (pc' := 90) w4 rfl rfl rfl rfl rfl rfl ?_
  refine zw_ld (n := 1) (k := 0) (f := zp_isR) (pc' := 91) rfl rfl a4 rfl rfl ?_
  refine zw_ld (n := 2) (k := 8) (f := zp_isL) (pc' := 93) rfl rfl g4 rfl rfl ?_
  refine zw_pL (q := 55) (pc' := 96) (zw_W_J w4) rfl rfl rfl rfl rfl rfl ?_
  refine zw_rn rfl rfl ?_
  exact ⟨_, rfl, zw_W_J (zw_W_J w4), xFv_J (xFv_J f4), by rw [show (zw_J (zw_J H4 55 0 te4) 55 1 to4).2.2.1 55 0 = te4 from xJJ0, show (zw_J (zw_J H4 55 0 te4) 55 1 to4).2.2.1 55 1 = to4 from xJJ1]; exact p4⟩

theorem yc_rub13_1 {L : Nat} {σ : Nat → Int32} {d : Nat} {H : zp_H} {x1 x2 : Int32} (W : zw_W H) (hs : 0 ≤ x1.toInt ∧ x1.toInt < 8) (hb : (xRb (H.2.1 17 x1.toInt.toNat) x2 = true)) : zp_Call L σ (d + 1) 125 [.inr (.inr (some 14)), .inl x1, .inl x2] H (.inl (some (.inl (Int32.ofInt 1))), H) := by
  refine zw_ex (zw_met zm_125_t rfl rfl ?_)
  refine zw_ld (n := 1) (k := 0) (f := zp_isR) (pc' := 1) rfl rfl rfl rfl rfl ?_
  refine zw_gR (q := 13) (pc' := 4) W rfl rfl rfl rfl (W.2 13 4 _ rfl) rfl ?_
  refine zw_ld (n := 1) (k := 1) (f := zp_isI) (pc' := 5) rfl rfl rfl rfl rfl ?_
  refine zw_ia (q := 17) (pc' := 6) W rfl rfl (by decide) (⟨hs.1, by show _ < ((8 : Nat) : Int); omega⟩) rfl rfl ?_
  refine zw_ld (n := 1) (k := 2) (f := zp_isI) (pc' := 7) rfl rfl rfl rfl rfl ?_
  refine zw_ishr (pc' := 8) rfl rfl ?_
  refine zw_s (pc' := 9) rfl rfl ?_
  refine zw_iand (pc' := 10) rfl rfl ?_
  refine zw_beq1 (g := 17) (pc' := 13) rfl rfl rfl rfl (fun h1 => ?_) (fun h1 => ?_)
  · have h1 : ((H.2.1 17 x1.toInt.toNat >>> (x2 &&& 31)) &&& Int32.ofInt 1).toInt = 0 := h1
    exact absurd h1 (of_decide_eq_true hb)
  · refine zw_s (pc' := 14) rfl rfl ?_
    refine zw_s (pc' := 18) rfl rfl ?_
    refine zw_rz rfl rfl (by decide) ?_
    rfl

theorem yc_rub13_0 {L : Nat} {σ : Nat → Int32} {d : Nat} {H : zp_H} {x1 x2 : Int32} (W : zw_W H) (hs : 0 ≤ x1.toInt ∧ x1.toInt < 8) (hb : ¬ (xRb (H.2.1 17 x1.toInt.toNat) x2 = true)) : zp_Call L σ (d + 1) 125 [.inr (.inr (some 14)), .inl x1, .inl x2] H (.inl (some (.inl (Int32.ofInt 0))), H) := by
  refine zw_ex (zw_met zm_125_t rfl rfl ?_)
  refine zw_ld (n := 1) (k := 0) (f := zp_isR) (pc' := 1) rfl rfl rfl rfl rfl ?_
  refine zw_gR (q := 13) (pc' := 4) W rfl rfl rfl rfl (W.2 13 4 _ rfl) rfl ?_
  refine zw_ld (n := 1) (k := 1) (f := zp_isI) (pc' := 5) rfl rfl rfl rfl rfl ?_
  refine zw_ia (q := 17) (pc' := 6) W rfl rfl (by decide) (⟨hs.1, by show _ < ((8 : Nat) : Int); omega⟩) rfl rfl ?_
  refine zw_ld (n := 1) (k := 2) (f := zp_isI) (pc' := 7) rfl rfl rfl rfl rfl ?_
  refine zw_ishr (pc' := 8) rfl rfl ?_
  refine zw_s (pc' := 9) rfl rfl ?_
  refine zw_iand (pc' := 10) rfl rfl ?_
  refine zw_beq1 (g := 17) (pc' := 13) rfl rfl rfl rfl (fun h1 => ?_) (fun h1 => ?_)
  · refine zw_s (pc' := 18) rfl rfl ?_
    refine zw_rz rfl rfl (by decide) ?_
    rfl
  · have h1 : ¬ ((H.2.1 17 x1.toInt.toNat >>> (x2 &&& 31)) &&& Int32.ofInt 1).toInt = 0 := h1
    exact absurd (decide_eq_true h1) hb

theorem yc_cbL2 {L : Nat} {σ : Nat → Int32} {d : Nat} {P : zp_X → Prop} {S : xSea} {H0 : zp_H} (hS : xOk S) (hC : xSC 2 H0 S) (hM : xCM 2 H0 S) {s kk : Int32} (hs : 0 ≤ s.toInt ∧ s.toInt < 8) (hk : 0 ≤ kk.toInt ∧ kk.toInt ≤ 8) (hw : ∀ j, j < kk.toInt.toNat → 0 ≤ (H0.2.1 18 (8 * s.toInt.toNat + j)).toInt ∧ (H0.2.1 18 (8 * s.toInt.toNat + j)).toInt ≤ 3) : ∀ (n : Nat) (H : zp_H) (lv : zp_LV) (i : Int32) (j : Nat), zw_W H → xFv 55 H0 H → xCL (H0.2.1 15 s.toInt.toNat).toInt (xMay S (H0.2.1 15 s.toInt.toNat).toInt (H0.2.1 14 s.toInt.toNat).toInt.toNat (fun m => xRb (H0.2.1 17 s.toInt.toNat) (Int32.ofInt (m : Int))) (fun m => H0.2.1 18 (8 * s.toInt.toNat + m)) (fun m => H0.2.1 19 (8 * s.toInt.toNat + m)) j) (H.2.2.1 55 0) (H.2.2.1 55 1) → i.toInt = j → j + n = kk.toInt.toNat → zp_get lv 0 = some (.inr (.inr (some 56))) → zp_get lv 1 = some (.inr (.inr (some 3))) → zp_get lv 2 = some (.inr (.inr (some 14))) → zp_get lv 3 = some (.inl s) → zp_get lv 4 = some (.inl kk) → zp_get lv 6 = some (.inl i) → (∀ H1, zw_W H1 → xFv 55 H0 H1 → ∀ v : Int64, v = H1.2.2.1 55 0 ||| H1.2.2.1 55 1 → xCL (H0.2.1 15 s.toInt.toNat).toInt (xMay S (H0.2.1 15 s.toInt.toNat).toInt (H0.2.1 14 s.toInt.toNat).toInt.toNat (fun m => xRb (H0.2.1 17 s.toInt.toNat) (Int32.ofInt (m : Int))) (fun m => H0.2.1 18 (8 * s.toInt.toNat + m)) (fun m => H0.2.1 19 (8 * s.toInt.toNat + m)) kk.toInt.toNat) (H1.2.2.1 55 0) (H1.2.2.1 55 1) → P (.inl (some (.inr (.inl v))), H1)) → zs_Safe L σ P zm_124 [] (d + 5) (65, lv, [], H, (0, 0)) := by
  intro n
  induction n with
  | zero =>
    intro H lv i j W hF hc h5 hn l0 l1 l2 l3 l4 l6 hP
    refine zw_ld (n := 2) (k := 6) (f := zp_isI) (pc' := 67) rfl rfl l6 rfl rfl ?_
    refine zw_ld (n := 2) (k := 4) (f := zp_isI) (pc' := 69) rfl rfl l4 rfl rfl ?_
    refine zw_bge2 (g := 115) (pc' := 72) rfl rfl rfl rfl rfl (fun h1 => ?_) (fun h1 => ?_)
    · have e : j = kk.toInt.toNat := by omega
      rw [e] at hc
      refine zw_ld (n := 1) (k := 0) (f := zp_isR) (pc' := 116) rfl rfl l0 rfl rfl ?_
      refine zw_gL (q := 55) (pc' := 119) W rfl rfl rfl rfl rfl ?_
      refine zw_ld (n := 1) (k := 0) (f := zp_isR) (pc' := 120) rfl rfl l0 rfl rfl ?_
      refine zw_gL (q := 55) (pc' := 123) W rfl rfl rfl rfl rfl ?_
      refine zw_lor (pc' := 124) rfl rfl ?_
      refine zw_rl rfl rfl ?_
      exact hP H W hF _ rfl hc
    · omega
  | succ n ih =>
    intro H lv i j W hF hc h5 hn l0 l1 l2 l3 l4 l6 hP
    refine zw_ld (n := 2) (k := 6) (f := zp_isI) (pc' := 67) rfl rfl l6 rfl rfl ?_
    refine zw_ld (n := 2) (k := 4) (f := zp_isI) (pc' := 69) rfl rfl l4 rfl rfl ?_
    refine zw_bge2 (g := 115) (pc' := 72) rfl rfl rfl rfl rfl (fun h1 => ?_) (fun h1 => ?_)
    · omega
    · have ei : (i + Int32.ofInt 1).toInt = i.toInt + 1 := zw_p1 (by omega)
      have eo : Int32.ofInt (j : Int) = i := (congrArg Int32.ofInt h5.symm).trans (x_oi i)
      have ej : i.toInt.toNat = j := by omega
      have e4 : H.2.1 17 s.toInt.toNat = H0.2.1 17 s.toInt.toNat := hF.2.2.1 _ _ (by decide)
      have e5 : ∀ m, H.2.1 18 m = H0.2.1 18 m := fun m => hF.2.2.1 _ _ (by decide)
      have e6 : ∀ m, H.2.1 19 m = H0.2.1 19 m := fun m => hF.2.2.1 _ _ (by decide)
      have hC1 := xSC_v hF (by decide) hC
      have hM1 := xCM_v hF (by decide) hM
      refine zw_ld (n := 1) (k := 2) (f := zp_isR) (pc' := 73) rfl rfl l2 rfl rfl ?_
      refine zw_ld (n := 1) (k := 3) (f := zp_isI) (pc' := 74) rfl rfl l3 rfl rfl ?_
      refine zw_ld (n := 2) (k := 6) (f := zp_isI) (pc' := 76) rfl rfl l6 rfl rfl ?_
      by_cases hb : xRb (H0.2.1 17 s.toInt.toNat) i = true
      · obtain ⟨_, q1, H1, rfl, W1, q2, q3⟩ := yc_sa2 (L := L) (σ := σ) (d := d) (q := xMay S (H0.2.1 15 s.toInt.toNat).toInt (H0.2.1 14 s.toInt.toNat).toInt.toNat (fun m => xRb (H0.2.1 17 s.toInt.toNat) (Int32.ofInt (m : Int))) (fun m => H0.2.1 18 (8 * s.toInt.toNat + m)) (fun m => H0.2.1 19 (8 * s.toInt.toNat + m)) j) hS hC1 hM1 W hc
        have q3 : xCL (H0.2.1 15 s.toInt.toNat).toInt (xMay S (H0.2.1 15 s.toInt.toNat).toInt (H0.2.1 14 s.toInt.toNat).toInt.toNat (fun m => xRb (H0.2.1 17 s.toInt.toNat) (Int32.ofInt (m : Int))) (fun m => H0.2.1 18 (8 * s.toInt.toNat + m)) (fun m => H0.2.1 19 (8 * s.toInt.toNat + m)) (j + 1)) (H1.2.2.1 55 0) (H1.2.2.1 55 1) := by
          show xCL _ (xMark S _ (xRb (H0.2.1 17 s.toInt.toNat) (Int32.ofInt (j : Int))) _ _ _) _ _
          unfold xMark
          rw [eo, if_pos hb]
          exact q3
        refine zw_c (pc' := 79) (zw_cv (q := 13) (Y := zm_125) W.1 rfl rfl zm_125_t rfl rfl) rfl rfl rfl rfl rfl (yc_rub13_1 W hs (by rw [e4]; exact hb)) ?_
        refine zw_beq1 (g := 90) (pc' := 82) rfl rfl rfl (rfl : _ = (1 : Int)) (fun h9 => absurd h9 (by decide)) (fun h7 => ?_)
        refine zw_ld (n := 1) (k := 0) (f := zp_isR) (pc' := 83) rfl rfl l0 rfl rfl ?_
        refine zw_ld (n := 1) (k := 1) (f := zp_isR) (pc' := 84) rfl rfl l1 rfl rfl ?_
        refine zw_cn (pc' := 87) (zw_cv (q := 55) (Y := zm_126) W.1 rfl rfl zm_126_t rfl rfl) rfl rfl rfl rfl rfl (q1) ?_
        refine zw_s (pc' := 109) rfl rfl ?_
        refine zw_ii (pc' := 112) rfl l6 rfl rfl ?_
        refine zw_s (pc' := 65) rfl rfl ?_
        exact ih H1 _ (i + Int32.ofInt 1) (j + 1) W1 (xFv_t hF q2) q3 (by omega) (by omega) (zw_gt l0 rfl rfl) (zw_gt l1 rfl rfl) (zw_gt l2 rfl rfl) (zw_gt l3 rfl rfl) (zw_gt l4 rfl rfl) zw_g1 hP
      · obtain ⟨_, q1, H1, rfl, W1, q2, q3⟩ := yc_sm2 (L := L) (σ := σ) (d := d) (q := xMay S (H0.2.1 15 s.toInt.toNat).toInt (H0.2.1 14 s.toInt.toNat).toInt.toNat (fun m => xRb (H0.2.1 17 s.toInt.toNat) (Int32.ofInt (m : Int))) (fun m => H0.2.1 18 (8 * s.toInt.toNat + m)) (fun m => H0.2.1 19 (8 * s.toInt.toNat + m)) j) (x := H0.2.1 18 (8 * s.toInt.toNat + j)) (s := H0.2.1 19 (8 * s.toInt.toNat + j)) hS hC1 hM1 (hw j (by omega)) W hc
        have q3 : xCL (H0.2.1 15 s.toInt.toNat).toInt (xMay S (H0.2.1 15 s.toInt.toNat).toInt (H0.2.1 14 s.toInt.toNat).toInt.toNat (fun m => xRb (H0.2.1 17 s.toInt.toNat) (Int32.ofInt (m : Int))) (fun m => H0.2.1 18 (8 * s.toInt.toNat + m)) (fun m => H0.2.1 19 (8 * s.toInt.toNat + m)) (j + 1)) (H1.2.2.1 55 0) (H1.2.2.1 55 1) := by
          show xCL _ (xMark S _ (xRb (H0.2.1 17 s.toInt.toNat) (Int32.ofInt (j : Int))) _ _ _) _ _
          unfold xMark
          rw [eo, if_neg hb]
          exact q3
        refine zw_c (pc' := 79) (zw_cv (q := 13) (Y := zm_125) W.1 rfl rfl zm_125_t rfl rfl) rfl rfl rfl rfl rfl (yc_rub13_0 W hs (by rw [e4]; exact hb)) ?_
        refine zw_beq1 (g := 90) (pc' := 82) rfl rfl rfl (rfl : _ = (0 : Int)) (fun h7 => ?_) (fun h9 => absurd h9 (by decide))
        refine zw_ld (n := 1) (k := 0) (f := zp_isR) (pc' := 91) rfl rfl l0 rfl rfl ?_
        refine zw_ld (n := 1) (k := 1) (f := zp_isR) (pc' := 92) rfl rfl l1 rfl rfl ?_
        refine zw_ld (n := 1) (k := 2) (f := zp_isR) (pc' := 93) rfl rfl l2 rfl rfl ?_
        refine zw_ld (n := 1) (k := 3) (f := zp_isI) (pc' := 94) rfl rfl l3 rfl rfl ?_
        refine zw_ld (n := 2) (k := 6) (f := zp_isI) (pc' := 96) rfl rfl l6 rfl rfl ?_
        refine zw_c (pc' := 99) (zw_cv (q := 13) (Y := zm_26) W.1 rfl rfl zm_26_t rfl rfl) rfl rfl rfl rfl rfl (yc_wayOf13 W hs ⟨by omega, by omega⟩) ?_
        refine zw_ld (n := 1) (k := 2) (f := zp_isR) (pc' := 100) rfl rfl l2 rfl rfl ?_
        refine zw_ld (n := 1) (k := 3) (f := zp_isI) (pc' := 101) rfl rfl l3 rfl rfl ?_
        refine zw_ld (n := 2) (k := 6) (f := zp_isI) (pc' := 103) rfl rfl l6 rfl rfl ?_
        refine zw_c (pc' := 106) (zw_cv (q := 13) (Y := zm_27) W.1 rfl rfl zm_27_t rfl rfl) rfl rfl rfl rfl rfl (yc_stepsOf13 W hs ⟨by omega, by omega⟩) ?_
        rw [ej, e5, e6]
        refine zw_cn (pc' := 109) (zw_cv (q := 55) (Y := zm_131) W.1 rfl rfl zm_131_t rfl rfl) rfl rfl rfl rfl rfl (q1) ?_
        refine zw_ii (pc' := 112) rfl l6 rfl rfl ?_
        refine zw_s (pc' := 65) rfl rfl ?_
        exact ih H1 _ (i + Int32.ofInt 1) (j + 1) W1 (xFv_t hF q2) q3 (by omega) (by omega) (zw_gt l0 rfl rfl) (zw_gt l1 rfl rfl) (zw_gt l2 rfl rfl) (zw_gt l3 rfl rfl) (zw_gt l4 rfl rfl) zw_g1 hP

theorem yc_cb2 {L : Nat} {σ : Nat → Int32} {d : Nat} {S : xSea} {H0 : zp_H} (hS : xOk S) (hC : xSC 2 H0 S) (hM : xCM 2 H0 S) {s kk : Int32} (hs : 0 ≤ s.toInt ∧ s.toInt < 8) (hk : 0 ≤ kk.toInt ∧ kk.toInt ≤ 8) (hw : ∀ j, j < kk.toInt.toNat → 0 ≤ (H0.2.1 18 (8 * s.toInt.toNat + j)).toInt ∧ (H0.2.1 18 (8 * s.toInt.toNat + j)).toInt ≤ 3) (hcl : 0 ≤ (H0.2.1 14 s.toInt.toNat).toInt ∧ (H0.2.1 14 s.toInt.toNat).toInt ≤ 63) (W : zw_W H0) : ∃ Z, zp_Call L σ (d + 6) 124 [.inr (.inr (some 56)), .inr (.inr (some 3)), .inr (.inr (some 14)), .inl s, .inl kk] H0 Z ∧ ∃ H1 v, Z = (.inl (some (.inr (.inl v))), H1) ∧ xFv 55 H0 H1 ∧ ∀ k, k < 64 → (yTb v k = true ↔ ∃ h : Nat, xMay S (H0.2.1 15 s.toInt.toNat).toInt (H0.2.1 14 s.toInt.toNat).toInt.toNat (fun m => xRb (H0.2.1 17 s.toInt.toNat) (Int32.ofInt (m : Int))) (fun m => H0.2.1 18 (8 * s.toInt.toNat + m)) (fun m => H0.2.1 19 (8 * s.toInt.toNat + m)) kk.toInt.toNat h k) := by
  refine zw_met zm_124_t rfl rfl ?_
  refine zw_ld (n := 1) (k := 2) (f := zp_isR) (pc' := 1) rfl rfl rfl rfl rfl ?_
  refine zw_gR (q := 13) (pc' := 4) W rfl rfl rfl rfl (W.2 13 2 _ rfl) rfl ?_
  refine zw_ld (n := 1) (k := 3) (f := zp_isI) (pc' := 5) rfl rfl rfl rfl rfl ?_
  refine zw_ia (q := 15) (pc' := 6) W rfl rfl (by decide) (⟨hs.1, by show _ < ((8 : Nat) : Int); omega⟩) rfl rfl ?_
  refine zw_s (pc' := 7) rfl rfl ?_
  refine zw_iand (pc' := 8) rfl rfl ?_
  refine zw_bne1 (g := 15) (pc' := 11) rfl rfl rfl rfl (fun h1 => ?_) (fun h1 => ?_)
  · have h1 : ¬ ((H0.2.1 15 s.toInt.toNat) &&& Int32.ofInt 1).toInt = 0 := h1
    have hv : ¬ (H0.2.1 15 s.toInt.toNat).toInt % 2 = 0 := fun h9 => h1 (x_ev.mpr h9)
    refine zw_s (pc' := 16) rfl rfl ?_
    refine zw_st (n := 2) (k := 5) (f := zp_isI) (pc' := 18) rfl rfl rfl rfl rfl ?_
    refine zw_ld (n := 1) (k := 0) (f := zp_isR) (pc' := 19) rfl rfl (zw_gt rfl rfl rfl) rfl rfl ?_
    refine zw_ld (n := 2) (k := 5) (f := zp_isI) (pc' := 21) rfl rfl zw_g1 rfl rfl ?_
    refine zw_beq1 (g := 36) (pc' := 24) rfl rfl rfl (rfl : _ = (0 : Int)) (fun h7 => ?_) (fun h9 => absurd h9 (by decide))
    refine zw_s (pc' := 37) rfl rfl ?_
    refine zw_pL (q := 55) (pc' := 40) W rfl rfl rfl rfl rfl rfl ?_
    refine zw_ld (n := 1) (k := 0) (f := zp_isR) (pc' := 41) rfl rfl (zw_gt rfl rfl rfl) rfl rfl ?_
    refine zw_ld (n := 2) (k := 5) (f := zp_isI) (pc' := 43) rfl rfl zw_g1 rfl rfl ?_
    refine zw_beq1 (g := 50) (pc' := 46) rfl rfl rfl (rfl : _ = (0 : Int)) (fun h7 => ?_) (fun h9 => absurd h9 (by decide))
    refine zw_ld (n := 1) (k := 2) (f := zp_isR) (pc' := 51) rfl rfl (zw_gt rfl rfl rfl) rfl rfl ?_
    refine zw_gR (q := 13) (pc' := 54) (zw_W_J W) rfl rfl rfl rfl ((zw_W_J W).2 13 1 _ rfl) rfl ?_
    refine zw_ld (n := 1) (k := 3) (f := zp_isI) (pc' := 55) rfl rfl (zw_gt rfl rfl rfl) rfl rfl ?_
    refine zw_ia (q := 14) (pc' := 56) (zw_W_J W) rfl rfl (by decide) (⟨hs.1, by show _ < ((8 : Nat) : Int); omega⟩) (zw_nj rfl) rfl ?_
    refine zw_cx (pc' := 59) (zw_csx (Y := zm_4) rfl rfl zm_4_t) rfl rfl rfl rfl rfl (zn_bit) ?_
    refine zw_pL (q := 55) (pc' := 62) (zw_W_J W) rfl rfl rfl rfl rfl rfl ?_
    refine zw_s (pc' := 63) rfl rfl ?_
    refine zw_st (n := 2) (k := 6) (f := zp_isI) (pc' := 65) rfl rfl rfl rfl rfl ?_
    refine yc_cbL2 (H0 := H0) (s := s) (kk := kk) hS hC hM hs hk hw kk.toInt.toNat (zw_J (zw_J H0 55 0 (Int64.ofNat 0)) 55 1 (za_shl0 (Int64.ofNat 1) (H0.2.1 14 s.toInt.toNat))) _ (Int32.ofInt 0) 0 (zw_W_J (zw_W_J W)) (xFv_J (xFv_J (xFv_r H0))) ?_ (by decide) (Nat.zero_add _) (zw_gt (zw_gt rfl rfl rfl) rfl rfl) (zw_gt (zw_gt rfl rfl rfl) rfl rfl) (zw_gt (zw_gt rfl rfl rfl) rfl rfl) (zw_gt (zw_gt rfl rfl rfl) rfl rfl) (zw_gt (zw_gt rfl rfl rfl) rfl rfl) zw_g1 (fun H1 w1 w2 v w3 w4 => ⟨H1, v, rfl, w2, by rw [w3]; exact xCL_v w4⟩)
    rw [show (zw_J (zw_J H0 55 0 (Int64.ofNat 0)) 55 1 (za_shl0 (Int64.ofNat 1) (H0.2.1 14 s.toInt.toNat))).2.2.1 55 0 = (Int64.ofNat 0) from xJJ0, show (zw_J (zw_J H0 55 0 (Int64.ofNat 0)) 55 1 (za_shl0 (Int64.ofNat 1) (H0.2.1 14 s.toInt.toNat))).2.2.1 55 1 = (za_shl0 (Int64.ofNat 1) (H0.2.1 14 s.toInt.toNat)) from xJJ1]
    refine ⟨fun k hk9 => ?_, fun k hk9 => ?_⟩
    · rw [tb_0]
      exact ⟨fun h9 => (by cases h9), fun ⟨g, g1, g2⟩ => by have g3 := g2.1; omega⟩
    · rw [tb_bit hcl hk9, decide_eq_true_iff]
      exact ⟨fun h9 => ⟨0, by omega, rfl, h9⟩, fun ⟨g, _, g2⟩ => g2.2⟩
  · have h1 : ((H0.2.1 15 s.toInt.toNat) &&& Int32.ofInt 1).toInt = 0 := h1
    have hv : (H0.2.1 15 s.toInt.toNat).toInt % 2 = 0 := x_ev.mp h1
    refine zw_s (pc' := 12) rfl rfl ?_
    refine zw_s (pc' := 16) rfl rfl ?_
    refine zw_st (n := 2) (k := 5) (f := zp_isI) (pc' := 18) rfl rfl rfl rfl rfl ?_
    refine zw_ld (n := 1) (k := 0) (f := zp_isR) (pc' := 19) rfl rfl (zw_gt rfl rfl rfl) rfl rfl ?_
    refine zw_ld (n := 2) (k := 5) (f := zp_isI) (pc' := 21) rfl rfl zw_g1 rfl rfl ?_
    refine zw_beq1 (g := 36) (pc' := 24) rfl rfl rfl (rfl : _ = (1 : Int)) (fun h9 => absurd h9 (by decide)) (fun h7 => ?_)
    refine zw_ld (n := 1) (k := 2) (f := zp_isR) (pc' := 25) rfl rfl (zw_gt rfl rfl rfl) rfl rfl ?_
    refine zw_gR (q := 13) (pc' := 28) W rfl rfl rfl rfl (W.2 13 1 _ rfl) rfl ?_
    refine zw_ld (n := 1) (k := 3) (f := zp_isI) (pc' := 29) rfl rfl (zw_gt rfl rfl rfl) rfl rfl ?_
    refine zw_ia (q := 14) (pc' := 30) W rfl rfl (by decide) (⟨hs.1, by show _ < ((8 : Nat) : Int); omega⟩) rfl rfl ?_
    refine zw_cx (pc' := 33) (zw_csx (Y := zm_4) rfl rfl zm_4_t) rfl rfl rfl rfl rfl (zn_bit) ?_
    refine zw_s (pc' := 37) rfl rfl ?_
    refine zw_pL (q := 55) (pc' := 40) W rfl rfl rfl rfl rfl rfl ?_
    refine zw_ld (n := 1) (k := 0) (f := zp_isR) (pc' := 41) rfl rfl (zw_gt rfl rfl rfl) rfl rfl ?_
    refine zw_ld (n := 2) (k := 5) (f := zp_isI) (pc' := 43) rfl rfl zw_g1 rfl rfl ?_
    refine zw_beq1 (g := 50) (pc' := 46) rfl rfl rfl (rfl : _ = (1 : Int)) (fun h9 => absurd h9 (by decide)) (fun h7 => ?_)
    refine zw_s (pc' := 47) rfl rfl ?_
    refine zw_s (pc' := 59) rfl rfl ?_
    refine zw_pL (q := 55) (pc' := 62) (zw_W_J W) rfl rfl rfl rfl rfl rfl ?_
    refine zw_s (pc' := 63) rfl rfl ?_
    refine zw_st (n := 2) (k := 6) (f := zp_isI) (pc' := 65) rfl rfl rfl rfl rfl ?_
    refine yc_cbL2 (H0 := H0) (s := s) (kk := kk) hS hC hM hs hk hw kk.toInt.toNat (zw_J (zw_J H0 55 0 (za_shl0 (Int64.ofNat 1) (H0.2.1 14 s.toInt.toNat))) 55 1 (Int64.ofNat 0)) _ (Int32.ofInt 0) 0 (zw_W_J (zw_W_J W)) (xFv_J (xFv_J (xFv_r H0))) ?_ (by decide) (Nat.zero_add _) (zw_gt (zw_gt rfl rfl rfl) rfl rfl) (zw_gt (zw_gt rfl rfl rfl) rfl rfl) (zw_gt (zw_gt rfl rfl rfl) rfl rfl) (zw_gt (zw_gt rfl rfl rfl) rfl rfl) (zw_gt (zw_gt rfl rfl rfl) rfl rfl) zw_g1 (fun H1 w1 w2 v w3 w4 => ⟨H1, v, rfl, w2, by rw [w3]; exact xCL_v w4⟩)
    rw [show (zw_J (zw_J H0 55 0 (za_shl0 (Int64.ofNat 1) (H0.2.1 14 s.toInt.toNat))) 55 1 (Int64.ofNat 0)).2.2.1 55 0 = (za_shl0 (Int64.ofNat 1) (H0.2.1 14 s.toInt.toNat)) from xJJ0, show (zw_J (zw_J H0 55 0 (za_shl0 (Int64.ofNat 1) (H0.2.1 14 s.toInt.toNat))) 55 1 (Int64.ofNat 0)).2.2.1 55 1 = (Int64.ofNat 0) from xJJ1]
    refine ⟨fun k hk9 => ?_, fun k hk9 => ?_⟩
    · rw [tb_bit hcl hk9, decide_eq_true_iff]
      exact ⟨fun h9 => ⟨0, by omega, rfl, h9⟩, fun ⟨g, _, g2⟩ => g2.2⟩
    · rw [tb_0]
      exact ⟨fun h9 => (by cases h9), fun ⟨g, g1, g2⟩ => by have g3 := g2.1; omega⟩

theorem yc_mv22_0 {L : Nat} {σ : Nat → Int32} {d : Nat} {H : zp_H} {X : Int64} (W : zw_W H) {S : xSea} (hS : xOk S) (hC : xSC 22 H S) : ∃ Z, zp_Call L σ (d + 1) 129 [.inr (.inr (some 23)), .inr (.inl X), .inl (Int32.ofInt 0)] H Z ∧ ∃ Y : Int64, Z = (.inl (some (.inr (.inl Y))), H) ∧ xMw S 0 X Y := by
  have e : (Int32.ofInt 0).toInt.toNat = 0 := by decide
  have ho := xSC_o (k := 0) hS hC (by decide)
  have hn := xSC_n (k := 0) hS hC (by decide)
  have hw := hC.1
  refine zw_met zm_129_t rfl rfl ?_
  refine zw_ld (n := 1) (k := 1) (f := zp_isL) (pc' := 1) rfl rfl rfl rfl rfl ?_
  refine zw_ld (n := 1) (k := 0) (f := zp_isR) (pc' := 2) rfl rfl rfl rfl rfl ?_
  refine zw_gR (q := 22) (pc' := 5) W rfl rfl rfl rfl (W.2 22 4 _ rfl) rfl ?_
  refine zw_ld (n := 1) (k := 3) (f := zp_isI) (pc' := 6) rfl rfl rfl rfl rfl ?_
  refine zw_la (q := 23) (pc' := 7) W rfl rfl (⟨by decide, by decide⟩) rfl ?_
  rw [e]
  refine zw_land (pc' := 8) rfl rfl ?_
  refine zw_sl (n := 2) (k := 4) (pc' := 10) rfl rfl rfl rfl ?_
  refine zw_ld (n := 1) (k := 3) (f := zp_isI) (pc' := 11) rfl rfl (zw_gt2 rfl rfl rfl) rfl rfl ?_
  refine zw_s (pc' := 36) rfl rfl ?_
  refine zw_ld (n := 2) (k := 4) (f := zp_isL) (pc' := 38) rfl rfl zw_g2 rfl rfl ?_
  refine zw_ld (n := 1) (k := 0) (f := zp_isR) (pc' := 39) rfl rfl (zw_gt2 rfl rfl rfl) rfl rfl ?_
  refine zw_gI (q := 22) (pc' := 42) W rfl rfl rfl rfl rfl rfl ?_
  refine zw_lushr (pc' := 43) rfl rfl ?_
  refine zw_rl rfl rfl ?_
  have hb := hS.1
  exact ⟨_, rfl, xMw_r (w := 0) (by omega) ho (fun c a b => (hn c a b).trans (show (c : Int) - S.1 = (c : Int) - (H.2.1 22 0).toInt by rw [hw])) (xBe_0 hS)⟩

theorem yc_mv22_1 {L : Nat} {σ : Nat → Int32} {d : Nat} {H : zp_H} {X : Int64} (W : zw_W H) {S : xSea} (hS : xOk S) (hC : xSC 22 H S) : ∃ Z, zp_Call L σ (d + 1) 129 [.inr (.inr (some 23)), .inr (.inl X), .inl (Int32.ofInt 1)] H Z ∧ ∃ Y : Int64, Z = (.inl (some (.inr (.inl Y))), H) ∧ xMw S 1 X Y := by
  have e : (Int32.ofInt 1).toInt.toNat = 1 := by decide
  have ho := xSC_o (k := 1) hS hC (by decide)
  have hn := xSC_n (k := 1) hS hC (by decide)
  have hw := hC.1
  refine zw_met zm_129_t rfl rfl ?_
  refine zw_ld (n := 1) (k := 1) (f := zp_isL) (pc' := 1) rfl rfl rfl rfl rfl ?_
  refine zw_ld (n := 1) (k := 0) (f := zp_isR) (pc' := 2) rfl rfl rfl rfl rfl ?_
  refine zw_gR (q := 22) (pc' := 5) W rfl rfl rfl rfl (W.2 22 4 _ rfl) rfl ?_
  refine zw_ld (n := 1) (k := 3) (f := zp_isI) (pc' := 6) rfl rfl rfl rfl rfl ?_
  refine zw_la (q := 23) (pc' := 7) W rfl rfl (⟨by decide, by decide⟩) rfl ?_
  rw [e]
  refine zw_land (pc' := 8) rfl rfl ?_
  refine zw_sl (n := 2) (k := 4) (pc' := 10) rfl rfl rfl rfl ?_
  refine zw_ld (n := 1) (k := 3) (f := zp_isI) (pc' := 11) rfl rfl (zw_gt2 rfl rfl rfl) rfl rfl ?_
  refine zw_s (pc' := 44) rfl rfl ?_
  refine zw_ld (n := 2) (k := 4) (f := zp_isL) (pc' := 46) rfl rfl zw_g2 rfl rfl ?_
  refine zw_s (pc' := 47) rfl rfl ?_
  refine zw_lshl (pc' := 48) rfl rfl ?_
  refine zw_rl rfl rfl ?_
  have hb := hS.1
  exact ⟨_, rfl, xMw_l (w := 1) ⟨by decide, by decide⟩ ho (fun c a b => (hn c a b).trans rfl)⟩

theorem yc_mv22_2 {L : Nat} {σ : Nat → Int32} {d : Nat} {H : zp_H} {X : Int64} (W : zw_W H) {S : xSea} (hS : xOk S) (hC : xSC 22 H S) : ∃ Z, zp_Call L σ (d + 1) 129 [.inr (.inr (some 23)), .inr (.inl X), .inl (Int32.ofInt 2)] H Z ∧ ∃ Y : Int64, Z = (.inl (some (.inr (.inl Y))), H) ∧ xMw S 2 X Y := by
  have e : (Int32.ofInt 2).toInt.toNat = 2 := by decide
  have ho := xSC_o (k := 2) hS hC (by decide)
  have hn := xSC_n (k := 2) hS hC (by decide)
  have hw := hC.1
  refine zw_met zm_129_t rfl rfl ?_
  refine zw_ld (n := 1) (k := 1) (f := zp_isL) (pc' := 1) rfl rfl rfl rfl rfl ?_
  refine zw_ld (n := 1) (k := 0) (f := zp_isR) (pc' := 2) rfl rfl rfl rfl rfl ?_
  refine zw_gR (q := 22) (pc' := 5) W rfl rfl rfl rfl (W.2 22 4 _ rfl) rfl ?_
  refine zw_ld (n := 1) (k := 3) (f := zp_isI) (pc' := 6) rfl rfl rfl rfl rfl ?_
  refine zw_la (q := 23) (pc' := 7) W rfl rfl (⟨by decide, by decide⟩) rfl ?_
  rw [e]
  refine zw_land (pc' := 8) rfl rfl ?_
  refine zw_sl (n := 2) (k := 4) (pc' := 10) rfl rfl rfl rfl ?_
  refine zw_ld (n := 1) (k := 3) (f := zp_isI) (pc' := 11) rfl rfl (zw_gt2 rfl rfl rfl) rfl rfl ?_
  refine zw_s (pc' := 49) rfl rfl ?_
  refine zw_ld (n := 2) (k := 4) (f := zp_isL) (pc' := 51) rfl rfl zw_g2 rfl rfl ?_
  refine zw_ld (n := 1) (k := 0) (f := zp_isR) (pc' := 52) rfl rfl (zw_gt2 rfl rfl rfl) rfl rfl ?_
  refine zw_gI (q := 22) (pc' := 55) W rfl rfl rfl rfl rfl rfl ?_
  refine zw_lshl (pc' := 56) rfl rfl ?_
  refine zw_rl rfl rfl ?_
  have hb := hS.1
  exact ⟨_, rfl, xMw_l (w := 2) (by omega) ho (fun c a b => (hn c a b).trans (show (c : Int) + S.1 = (c : Int) + (H.2.1 22 0).toInt by rw [hw]))⟩

theorem yc_mv22_3 {L : Nat} {σ : Nat → Int32} {d : Nat} {H : zp_H} {X : Int64} (W : zw_W H) {S : xSea} (hS : xOk S) (hC : xSC 22 H S) : ∃ Z, zp_Call L σ (d + 1) 129 [.inr (.inr (some 23)), .inr (.inl X), .inl (Int32.ofInt 3)] H Z ∧ ∃ Y : Int64, Z = (.inl (some (.inr (.inl Y))), H) ∧ xMw S 3 X Y := by
  have e : (Int32.ofInt 3).toInt.toNat = 3 := by decide
  have ho := xSC_o (k := 3) hS hC (by decide)
  have hn := xSC_n (k := 3) hS hC (by decide)
  have hw := hC.1
  refine zw_met zm_129_t rfl rfl ?_
  refine zw_ld (n := 1) (k := 1) (f := zp_isL) (pc' := 1) rfl rfl rfl rfl rfl ?_
  refine zw_ld (n := 1) (k := 0) (f := zp_isR) (pc' := 2) rfl rfl rfl rfl rfl ?_
  refine zw_gR (q := 22) (pc' := 5) W rfl rfl rfl rfl (W.2 22 4 _ rfl) rfl ?_
  refine zw_ld (n := 1) (k := 3) (f := zp_isI) (pc' := 6) rfl rfl rfl rfl rfl ?_
  refine zw_la (q := 23) (pc' := 7) W rfl rfl (⟨by decide, by decide⟩) rfl ?_
  rw [e]
  refine zw_land (pc' := 8) rfl rfl ?_
  refine zw_sl (n := 2) (k := 4) (pc' := 10) rfl rfl rfl rfl ?_
  refine zw_ld (n := 1) (k := 3) (f := zp_isI) (pc' := 11) rfl rfl (zw_gt2 rfl rfl rfl) rfl rfl ?_
  refine zw_s (pc' := 57) rfl rfl ?_
  refine zw_ld (n := 2) (k := 4) (f := zp_isL) (pc' := 59) rfl rfl zw_g2 rfl rfl ?_
  refine zw_s (pc' := 60) rfl rfl ?_
  refine zw_lushr (pc' := 61) rfl rfl ?_
  refine zw_rl rfl rfl ?_
  have hb := hS.1
  exact ⟨_, rfl, xMw_r (w := 3) ⟨by decide, by decide⟩ ho (fun c a b => (hn c a b).trans rfl) (xBe_0 hS)⟩

theorem yc_drv22 {L : Nat} {σ : Nat → Int32} {d : Nat} {H : zp_H} {A : Int64} (W : zw_W H) {S : xSea} (hS : xOk S) (hC : xSC 22 H S) (hM : xCM 22 H S) (hA : ∀ k : Nat, k < 64 → yTb A k = true → (k : Int) < S.1 * S.2.1) : ∃ Z, zp_Call L σ (d + 2) 130 [.inr (.inr (some 23)), .inr (.inl A)] H Z ∧ ∃ Y : Int64, Z = (.inl (some (.inr (.inl Y))), H) ∧ xS2s S A Y := by
  obtain ⟨_, v0, m0, rfl, u0⟩ := yc_mv22_0 (L := L) (σ := σ) (d := d) (X := (A &&& H.2.2.1 25 0 &&& H.2.2.1 23 0)) W hS hC
  obtain ⟨_, v1, m1, rfl, u1⟩ := yc_mv22_1 (L := L) (σ := σ) (d := d) (X := (A &&& H.2.2.1 25 1 &&& H.2.2.1 23 1)) W hS hC
  obtain ⟨_, v2, m2, rfl, u2⟩ := yc_mv22_2 (L := L) (σ := σ) (d := d) (X := (A &&& H.2.2.1 25 2 &&& H.2.2.1 23 2)) W hS hC
  obtain ⟨_, v3, m3, rfl, u3⟩ := yc_mv22_3 (L := L) (σ := σ) (d := d) (X := (A &&& H.2.2.1 25 3 &&& H.2.2.1 23 3)) W hS hC
  refine zw_met zm_130_t rfl rfl ?_
  refine zw_ld (n := 1) (k := 1) (f := zp_isL) (pc' := 1) rfl rfl rfl rfl rfl ?_
  refine zw_sl (n := 1) (k := 3) (pc' := 2) rfl rfl rfl rfl ?_
  refine zw_s (pc' := 3) rfl rfl ?_
  refine zw_sl (n := 2) (k := 5) (pc' := 5) rfl rfl rfl rfl ?_
  refine zw_s (pc' := 6) rfl rfl ?_
  refine zw_st (n := 2) (k := 7) (f := zp_isI) (pc' := 8) rfl rfl rfl rfl rfl ?_
  refine zw_ld (n := 2) (k := 7) (f := zp_isI) (pc' := 10) rfl rfl zw_g1 rfl rfl ?_
  refine zw_s (pc' := 11) rfl rfl ?_
  refine zw_bge2 (g := 61) (pc' := 14) rfl rfl rfl (rfl : _ = (0 : Int)) (rfl : _ = (4 : Int)) (fun h9 => absurd h9 (by decide)) (fun h1 => ?_)
  refine zw_ld (n := 1) (k := 1) (f := zp_isL) (pc' := 15) rfl rfl (zw_gt (zw_gt2 (zw_gt2 rfl rfl rfl) rfl rfl) rfl rfl) rfl rfl ?_
  refine zw_ld (n := 1) (k := 0) (f := zp_isR) (pc' := 16) rfl rfl (zw_gt (zw_gt2 (zw_gt2 rfl rfl rfl) rfl rfl) rfl rfl) rfl rfl ?_
  refine zw_gR (q := 22) (pc' := 19) W rfl rfl rfl rfl (W.2 22 6 _ rfl) rfl ?_
  refine zw_ld (n := 2) (k := 7) (f := zp_isI) (pc' := 21) rfl rfl zw_g1 rfl rfl ?_
  refine zw_la (q := 25) (pc' := 22) W rfl rfl (⟨by decide, by decide⟩) rfl ?_
  rw [show (Int32.ofInt 0).toInt.toNat = 0 by decide]
  refine zw_land (pc' := 23) rfl rfl ?_
  refine zw_ld (n := 1) (k := 0) (f := zp_isR) (pc' := 24) rfl rfl (zw_gt (zw_gt2 (zw_gt2 rfl rfl rfl) rfl rfl) rfl rfl) rfl rfl ?_
  refine zw_gR (q := 22) (pc' := 27) W rfl rfl rfl rfl (W.2 22 4 _ rfl) rfl ?_
  refine zw_ld (n := 2) (k := 7) (f := zp_isI) (pc' := 29) rfl rfl zw_g1 rfl rfl ?_
  refine zw_la (q := 23) (pc' := 30) W rfl rfl (⟨by decide, by decide⟩) rfl ?_
  rw [show (Int32.ofInt 0).toInt.toNat = 0 by decide]
  refine zw_land (pc' := 31) rfl rfl ?_
  refine zw_sl (n := 2) (k := 8) (pc' := 33) rfl rfl rfl rfl ?_
  refine zw_ld (n := 1) (k := 3) (f := zp_isL) (pc' := 34) rfl rfl (zw_gt2 (zw_gt (zw_gt2 zw_g2 rfl rfl) rfl rfl) rfl rfl) rfl rfl ?_
  refine zw_ld (n := 2) (k := 8) (f := zp_isL) (pc' := 36) rfl rfl zw_g2 rfl rfl ?_
  refine zw_s (pc' := 39) rfl rfl ?_
  refine zw_lxor (pc' := 40) rfl rfl ?_
  refine zw_land (pc' := 41) rfl rfl ?_
  refine zw_sl (n := 1) (k := 3) (pc' := 42) rfl rfl rfl rfl ?_
  refine zw_ld (n := 2) (k := 5) (f := zp_isL) (pc' := 44) rfl rfl (zw_gt2 (zw_gt2 (zw_gt zw_g2 rfl rfl) rfl rfl) rfl rfl) rfl rfl ?_
  refine zw_ld (n := 1) (k := 0) (f := zp_isR) (pc' := 45) rfl rfl (zw_gt2 (zw_gt2 (zw_gt (zw_gt2 (zw_gt2 rfl rfl rfl) rfl rfl) rfl rfl) rfl rfl) rfl rfl) rfl rfl ?_
  refine zw_ld (n := 2) (k := 8) (f := zp_isL) (pc' := 47) rfl rfl (zw_gt2 zw_g2 rfl rfl) rfl rfl ?_
  refine zw_ld (n := 2) (k := 7) (f := zp_isI) (pc' := 49) rfl rfl (zw_gt2 (zw_gt2 zw_g1 rfl rfl) rfl rfl) rfl rfl ?_
  refine zw_c (pc' := 52) (zw_cv (q := 22) (Y := zm_129) W.1 rfl rfl zm_129_t rfl rfl) rfl rfl rfl rfl rfl (v0) ?_
  refine zw_lor (pc' := 53) rfl rfl ?_
  refine zw_sl (n := 2) (k := 5) (pc' := 55) rfl rfl rfl rfl ?_
  refine zw_ii (pc' := 58) rfl (zw_gt2 (zw_gt2 (zw_gt2 zw_g1 rfl rfl) rfl rfl) rfl rfl) rfl rfl ?_
  rw [show Int32.ofInt 0 + Int32.ofInt 1 = Int32.ofInt 1 by decide]
  refine zw_s (pc' := 8) rfl rfl ?_
  refine zw_ld (n := 2) (k := 7) (f := zp_isI) (pc' := 10) rfl rfl zw_g1 rfl rfl ?_
  refine zw_s (pc' := 11) rfl rfl ?_
  refine zw_bge2 (g := 61) (pc' := 14) rfl rfl rfl (rfl : _ = (1 : Int)) (rfl : _ = (4 : Int)) (fun h9 => absurd h9 (by decide)) (fun h1 => ?_)
  refine zw_ld (n := 1) (k := 1) (f := zp_isL) (pc' := 15) rfl rfl (zw_gt (zw_gt2 (zw_gt2 (zw_gt2 (zw_gt (zw_gt2 (zw_gt2 rfl rfl rfl) rfl rfl) rfl rfl) rfl rfl) rfl rfl) rfl rfl) rfl rfl) rfl rfl ?_
  refine zw_ld (n := 1) (k := 0) (f := zp_isR) (pc' := 16) rfl rfl (zw_gt (zw_gt2 (zw_gt2 (zw_gt2 (zw_gt (zw_gt2 (zw_gt2 rfl rfl rfl) rfl rfl) rfl rfl) rfl rfl) rfl rfl) rfl rfl) rfl rfl) rfl rfl ?_
  refine zw_gR (q := 22) (pc' := 19) W rfl rfl rfl rfl (W.2 22 6 _ rfl) rfl ?_
  refine zw_ld (n := 2) (k := 7) (f := zp_isI) (pc' := 21) rfl rfl zw_g1 rfl rfl ?_
  refine zw_la (q := 25) (pc' := 22) W rfl rfl (⟨by decide, by decide⟩) rfl ?_
  rw [show (Int32.ofInt 1).toInt.toNat = 1 by decide]
  refine zw_land (pc' := 23) rfl rfl ?_
  refine zw_ld (n := 1) (k := 0) (f := zp_isR) (pc' := 24) rfl rfl (zw_gt (zw_gt2 (zw_gt2 (zw_gt2 (zw_gt (zw_gt2 (zw_gt2 rfl rfl rfl) rfl rfl) rfl rfl) rfl rfl) rfl rfl) rfl rfl) rfl rfl) rfl rfl ?_
  refine zw_gR (q := 22) (pc' := 27) W rfl rfl rfl rfl (W.2 22 4 _ rfl) rfl ?_
  refine zw_ld (n := 2) (k := 7) (f := zp_isI) (pc' := 29) rfl rfl zw_g1 rfl rfl ?_
  refine zw_la (q := 23) (pc' := 30) W rfl rfl (⟨by decide, by decide⟩) rfl ?_
  rw [show (Int32.ofInt 1).toInt.toNat = 1 by decide]
  refine zw_land (pc' := 31) rfl rfl ?_
  refine zw_sl (n := 2) (k := 8) (pc' := 33) rfl rfl rfl rfl ?_
  refine zw_ld (n := 1) (k := 3) (f := zp_isL) (pc' := 34) rfl rfl (zw_gt2 (zw_gt (zw_gt2 zw_g2 rfl rfl) rfl rfl) rfl rfl) rfl rfl ?_
  refine zw_ld (n := 2) (k := 8) (f := zp_isL) (pc' := 36) rfl rfl zw_g2 rfl rfl ?_
  refine zw_s (pc' := 39) rfl rfl ?_
  refine zw_lxor (pc' := 40) rfl rfl ?_
  refine zw_land (pc' := 41) rfl rfl ?_
  refine zw_sl (n := 1) (k := 3) (pc' := 42) rfl rfl rfl rfl ?_
  refine zw_ld (n := 2) (k := 5) (f := zp_isL) (pc' := 44) rfl rfl (zw_gt2 (zw_gt2 (zw_gt zw_g2 rfl rfl) rfl rfl) rfl rfl) rfl rfl ?_
  refine zw_ld (n := 1) (k := 0) (f := zp_isR) (pc' := 45) rfl rfl (zw_gt2 (zw_gt2 (zw_gt (zw_gt2 (zw_gt2 (zw_gt2 (zw_gt (zw_gt2 (zw_gt2 rfl rfl rfl) rfl rfl) rfl rfl) rfl rfl) rfl rfl) rfl rfl) rfl rfl) rfl rfl) rfl rfl) rfl rfl ?_
  refine zw_ld (n := 2) (k := 8) (f := zp_isL) (pc' := 47) rfl rfl (zw_gt2 zw_g2 rfl rfl) rfl rfl ?_
  refine zw_ld (n := 2) (k := 7) (f := zp_isI) (pc' := 49) rfl rfl (zw_gt2 (zw_gt2 zw_g1 rfl rfl) rfl rfl) rfl rfl ?_
  refine zw_c (pc' := 52) (zw_cv (q := 22) (Y := zm_129) W.1 rfl rfl zm_129_t rfl rfl) rfl rfl rfl rfl rfl (v1) ?_
  refine zw_lor (pc' := 53) rfl rfl ?_
  refine zw_sl (n := 2) (k := 5) (pc' := 55) rfl rfl rfl rfl ?_
  refine zw_ii (pc' := 58) rfl (zw_gt2 (zw_gt2 (zw_gt2 zw_g1 rfl rfl) rfl rfl) rfl rfl) rfl rfl ?_
  rw [show Int32.ofInt 1 + Int32.ofInt 1 = Int32.ofInt 2 by decide]
  refine zw_s (pc' := 8) rfl rfl ?_
  refine zw_ld (n := 2) (k := 7) (f := zp_isI) (pc' := 10) rfl rfl zw_g1 rfl rfl ?_
  refine zw_s (pc' := 11) rfl rfl ?_
  refine zw_bge2 (g := 61) (pc' := 14) rfl rfl rfl (rfl : _ = (2 : Int)) (rfl : _ = (4 : Int)) (fun h9 => absurd h9 (by decide)) (fun h1 => ?_)
  refine zw_ld (n := 1) (k := 1) (f := zp_isL) (pc' := 15) rfl rfl (zw_gt (zw_gt2 (zw_gt2 (zw_gt2 (zw_gt (zw_gt2 (zw_gt2 (zw_gt2 (zw_gt (zw_gt2 (zw_gt2 rfl rfl rfl) rfl rfl) rfl rfl) rfl rfl) rfl rfl) rfl rfl) rfl rfl) rfl rfl) rfl rfl) rfl rfl) rfl rfl) rfl rfl ?_
  refine zw_ld (n := 1) (k := 0) (f := zp_isR) (pc' := 16) rfl rfl (zw_gt (zw_gt2 (zw_gt2 (zw_gt2 (zw_gt (zw_gt2 (zw_gt2 (zw_gt2 (zw_gt (zw_gt2 (zw_gt2 rfl rfl rfl) rfl rfl) rfl rfl) rfl rfl) rfl rfl) rfl rfl) rfl rfl) rfl rfl) rfl rfl) rfl rfl) rfl rfl) rfl rfl ?_
  refine zw_gR (q := 22) (pc' := 19) W rfl rfl rfl rfl (W.2 22 6 _ rfl) rfl ?_
  refine zw_ld (n := 2) (k := 7) (f := zp_isI) (pc' := 21) rfl rfl zw_g1 rfl rfl ?_
  refine zw_la (q := 25) (pc' := 22) W rfl rfl (⟨by decide, by decide⟩) rfl ?_
  rw [show (Int32.ofInt 2).toInt.toNat = 2 by decide]
  refine zw_land (pc' := 23) rfl rfl ?_
  refine zw_ld (n := 1) (k := 0) (f := zp_isR) (pc' := 24) rfl rfl (zw_gt (zw_gt2 (zw_gt2 (zw_gt2 (zw_gt (zw_gt2 (zw_gt2 (zw_gt2 (zw_gt (zw_gt2 (zw_gt2 rfl rfl rfl) rfl rfl) rfl rfl) rfl rfl) rfl rfl) rfl rfl) rfl rfl) rfl rfl) rfl rfl) rfl rfl) rfl rfl) rfl rfl ?_
  refine zw_gR (q := 22) (pc' := 27) W rfl rfl rfl rfl (W.2 22 4 _ rfl) rfl ?_
  refine zw_ld (n := 2) (k := 7) (f := zp_isI) (pc' := 29) rfl rfl zw_g1 rfl rfl ?_
  refine zw_la (q := 23) (pc' := 30) W rfl rfl (⟨by decide, by decide⟩) rfl ?_
  rw [show (Int32.ofInt 2).toInt.toNat = 2 by decide]
  refine zw_land (pc' := 31) rfl rfl ?_
  refine zw_sl (n := 2) (k := 8) (pc' := 33) rfl rfl rfl rfl ?_
  refine zw_ld (n := 1) (k := 3) (f := zp_isL) (pc' := 34) rfl rfl (zw_gt2 (zw_gt (zw_gt2 zw_g2 rfl rfl) rfl rfl) rfl rfl) rfl rfl ?_
  refine zw_ld (n := 2) (k := 8) (f := zp_isL) (pc' := 36) rfl rfl zw_g2 rfl rfl ?_
  refine zw_s (pc' := 39) rfl rfl ?_
  refine zw_lxor (pc' := 40) rfl rfl ?_
  refine zw_land (pc' := 41) rfl rfl ?_
  refine zw_sl (n := 1) (k := 3) (pc' := 42) rfl rfl rfl rfl ?_
  refine zw_ld (n := 2) (k := 5) (f := zp_isL) (pc' := 44) rfl rfl (zw_gt2 (zw_gt2 (zw_gt zw_g2 rfl rfl) rfl rfl) rfl rfl) rfl rfl ?_
  refine zw_ld (n := 1) (k := 0) (f := zp_isR) (pc' := 45) rfl rfl (zw_gt2 (zw_gt2 (zw_gt (zw_gt2 (zw_gt2 (zw_gt2 (zw_gt (zw_gt2 (zw_gt2 (zw_gt2 (zw_gt (zw_gt2 (zw_gt2 rfl rfl rfl) rfl rfl) rfl rfl) rfl rfl) rfl rfl) rfl rfl) rfl rfl) rfl rfl) rfl rfl) rfl rfl) rfl rfl) rfl rfl) rfl rfl) rfl rfl ?_
  refine zw_ld (n := 2) (k := 8) (f := zp_isL) (pc' := 47) rfl rfl (zw_gt2 zw_g2 rfl rfl) rfl rfl ?_
  refine zw_ld (n := 2) (k := 7) (f := zp_isI) (pc' := 49) rfl rfl (zw_gt2 (zw_gt2 zw_g1 rfl rfl) rfl rfl) rfl rfl ?_
  refine zw_c (pc' := 52) (zw_cv (q := 22) (Y := zm_129) W.1 rfl rfl zm_129_t rfl rfl) rfl rfl rfl rfl rfl (v2) ?_
  refine zw_lor (pc' := 53) rfl rfl ?_
  refine zw_sl (n := 2) (k := 5) (pc' := 55) rfl rfl rfl rfl ?_
  refine zw_ii (pc' := 58) rfl (zw_gt2 (zw_gt2 (zw_gt2 zw_g1 rfl rfl) rfl rfl) rfl rfl) rfl rfl ?_
  rw [show Int32.ofInt 2 + Int32.ofInt 1 = Int32.ofInt 3 by decide]
  refine zw_s (pc' := 8) rfl rfl ?_
  refine zw_ld (n := 2) (k := 7) (f := zp_isI) (pc' := 10) rfl rfl zw_g1 rfl rfl ?_
  refine zw_s (pc' := 11) rfl rfl ?_
  refine zw_bge2 (g := 61) (pc' := 14) rfl rfl rfl (rfl : _ = (3 : Int)) (rfl : _ = (4 : Int)) (fun h9 => absurd h9 (by decide)) (fun h1 => ?_)
  refine zw_ld (n := 1) (k := 1) (f := zp_isL) (pc' := 15) rfl rfl (zw_gt (zw_gt2 (zw_gt2 (zw_gt2 (zw_gt (zw_gt2 (zw_gt2 (zw_gt2 (zw_gt (zw_gt2 (zw_gt2 (zw_gt2 (zw_gt (zw_gt2 (zw_gt2 rfl rfl rfl) rfl rfl) rfl rfl) rfl rfl) rfl rfl) rfl rfl) rfl rfl) rfl rfl) rfl rfl) rfl rfl) rfl rfl) rfl rfl) rfl rfl) rfl rfl) rfl rfl) rfl rfl ?_
  refine zw_ld (n := 1) (k := 0) (f := zp_isR) (pc' := 16) rfl rfl (zw_gt (zw_gt2 (zw_gt2 (zw_gt2 (zw_gt (zw_gt2 (zw_gt2 (zw_gt2 (zw_gt (zw_gt2 (zw_gt2 (zw_gt2 (zw_gt (zw_gt2 (zw_gt2 rfl rfl rfl) rfl rfl) rfl rfl) rfl rfl) rfl rfl) rfl rfl) rfl rfl) rfl rfl) rfl rfl) rfl rfl) rfl rfl) rfl rfl) rfl rfl) rfl rfl) rfl rfl) rfl rfl ?_
  refine zw_gR (q := 22) (pc' := 19) W rfl rfl rfl rfl (W.2 22 6 _ rfl) rfl ?_
  refine zw_ld (n := 2) (k := 7) (f := zp_isI) (pc' := 21) rfl rfl zw_g1 rfl rfl ?_
  refine zw_la (q := 25) (pc' := 22) W rfl rfl (⟨by decide, by decide⟩) rfl ?_
  rw [show (Int32.ofInt 3).toInt.toNat = 3 by decide]
  refine zw_land (pc' := 23) rfl rfl ?_
  refine zw_ld (n := 1) (k := 0) (f := zp_isR) (pc' := 24) rfl rfl (zw_gt (zw_gt2 (zw_gt2 (zw_gt2 (zw_gt (zw_gt2 (zw_gt2 (zw_gt2 (zw_gt (zw_gt2 (zw_gt2 (zw_gt2 (zw_gt (zw_gt2 (zw_gt2 rfl rfl rfl) rfl rfl) rfl rfl) rfl rfl) rfl rfl) rfl rfl) rfl rfl) rfl rfl) rfl rfl) rfl rfl) rfl rfl) rfl rfl) rfl rfl) rfl rfl) rfl rfl) rfl rfl ?_
  refine zw_gR (q := 22) (pc' := 27) W rfl rfl rfl rfl (W.2 22 4 _ rfl) rfl ?_
  refine zw_ld (n := 2) (k := 7) (f := zp_isI) (pc' := 29) rfl rfl zw_g1 rfl rfl ?_
  refine zw_la (q := 23) (pc' := 30) W rfl rfl (⟨by decide, by decide⟩) rfl ?_
  rw [show (Int32.ofInt 3).toInt.toNat = 3 by decide]
  refine zw_land (pc' := 31) rfl rfl ?_
  refine zw_sl (n := 2) (k := 8) (pc' := 33) rfl rfl rfl rfl ?_
  refine zw_ld (n := 1) (k := 3) (f := zp_isL) (pc' := 34) rfl rfl (zw_gt2 (zw_gt (zw_gt2 zw_g2 rfl rfl) rfl rfl) rfl rfl) rfl rfl ?_
  refine zw_ld (n := 2) (k := 8) (f := zp_isL) (pc' := 36) rfl rfl zw_g2 rfl rfl ?_
  refine zw_s (pc' := 39) rfl rfl ?_
  refine zw_lxor (pc' := 40) rfl rfl ?_
  refine zw_land (pc' := 41) rfl rfl ?_
  refine zw_sl (n := 1) (k := 3) (pc' := 42) rfl rfl rfl rfl ?_
  refine zw_ld (n := 2) (k := 5) (f := zp_isL) (pc' := 44) rfl rfl (zw_gt2 (zw_gt2 (zw_gt zw_g2 rfl rfl) rfl rfl) rfl rfl) rfl rfl ?_
  refine zw_ld (n := 1) (k := 0) (f := zp_isR) (pc' := 45) rfl rfl (zw_gt2 (zw_gt2 (zw_gt (zw_gt2 (zw_gt2 (zw_gt2 (zw_gt (zw_gt2 (zw_gt2 (zw_gt2 (zw_gt (zw_gt2 (zw_gt2 (zw_gt2 (zw_gt (zw_gt2 (zw_gt2 rfl rfl rfl) rfl rfl) rfl rfl) rfl rfl) rfl rfl) rfl rfl) rfl rfl) rfl rfl) rfl rfl) rfl rfl) rfl rfl) rfl rfl) rfl rfl) rfl rfl) rfl rfl) rfl rfl) rfl rfl) rfl rfl ?_
  refine zw_ld (n := 2) (k := 8) (f := zp_isL) (pc' := 47) rfl rfl (zw_gt2 zw_g2 rfl rfl) rfl rfl ?_
  refine zw_ld (n := 2) (k := 7) (f := zp_isI) (pc' := 49) rfl rfl (zw_gt2 (zw_gt2 zw_g1 rfl rfl) rfl rfl) rfl rfl ?_
  refine zw_c (pc' := 52) (zw_cv (q := 22) (Y := zm_129) W.1 rfl rfl zm_129_t rfl rfl) rfl rfl rfl rfl rfl (v3) ?_
  refine zw_lor (pc' := 53) rfl rfl ?_
  refine zw_sl (n := 2) (k := 5) (pc' := 55) rfl rfl rfl rfl ?_
  refine zw_ii (pc' := 58) rfl (zw_gt2 (zw_gt2 (zw_gt2 zw_g1 rfl rfl) rfl rfl) rfl rfl) rfl rfl ?_
  rw [show Int32.ofInt 3 + Int32.ofInt 1 = Int32.ofInt 4 by decide]
  refine zw_s (pc' := 8) rfl rfl ?_
  refine zw_ld (n := 2) (k := 7) (f := zp_isI) (pc' := 10) rfl rfl zw_g1 rfl rfl ?_
  refine zw_s (pc' := 11) rfl rfl ?_
  refine zw_bge2 (g := 61) (pc' := 14) rfl rfl rfl (rfl : _ = (4 : Int)) (rfl : _ = (4 : Int)) (fun h1 => ?_) (fun h9 => absurd h9 (by decide))
  refine zw_ld (n := 1) (k := 3) (f := zp_isL) (pc' := 62) rfl rfl (zw_gt (zw_gt2 zw_g2 rfl rfl) rfl rfl) rfl rfl ?_
  refine zw_ld (n := 2) (k := 5) (f := zp_isL) (pc' := 64) rfl rfl (zw_gt zw_g2 rfl rfl) rfl rfl ?_
  refine zw_ld (n := 1) (k := 0) (f := zp_isR) (pc' := 65) rfl rfl (zw_gt (zw_gt2 (zw_gt2 (zw_gt2 (zw_gt (zw_gt2 (zw_gt2 (zw_gt2 (zw_gt (zw_gt2 (zw_gt2 (zw_gt2 (zw_gt (zw_gt2 (zw_gt2 (zw_gt2 (zw_gt (zw_gt2 (zw_gt2 rfl rfl rfl) rfl rfl) rfl rfl) rfl rfl) rfl rfl) rfl rfl) rfl rfl) rfl rfl) rfl rfl) rfl rfl) rfl rfl) rfl rfl) rfl rfl) rfl rfl) rfl rfl) rfl rfl) rfl rfl) rfl rfl) rfl rfl) rfl rfl ?_
  refine zw_gL (q := 22) (pc' := 68) W rfl rfl rfl rfl rfl ?_
  refine zw_s (pc' := 71) rfl rfl ?_
  refine zw_lxor (pc' := 72) rfl rfl ?_
  refine zw_land (pc' := 73) rfl rfl ?_
  refine zw_lor (pc' := 74) rfl rfl ?_
  refine zw_rl rfl rfl ?_
  rw [hC.2.2.1]
  exact ⟨_, rfl, xS2s_of hS hA (hM 0 (by decide)) (hM 1 (by decide)) (hM 2 (by decide)) (hM 3 (by decide)) (xSC_o (k := 0) hS hC (by decide)) (xSC_o (k := 1) hS hC (by decide)) (xSC_o (k := 2) hS hC (by decide)) (xSC_o (k := 3) hS hC (by decide)) u0 u1 u2 u3⟩

theorem yc_sld22_0_0 {L : Nat} {σ : Nat → Int32} {d : Nat} {H : zp_H} {X : Int64} (W : zw_W H) {S : xSea} (hS : xOk S) (hC : xSC 22 H S) (hM : xCM 22 H S) : ∃ Z, zp_Call L σ (d + 3) 128 [.inr (.inr (some 23)), .inr (.inl X), .inl (Int32.ofInt 0), .inl (Int32.ofInt 0)] H Z ∧ ∃ Y : Int64, Z = (.inl (some (.inr (.inl Y))), H) ∧ xSs S 0 1 X Y := by
  obtain ⟨_, v1, m, rfl, u⟩ := yc_mv22_0 (L := L) (σ := σ) (d := d + 1) (X := X) W hS hC
  have s1 := xS1s_of (S := S) (by decide) u
  refine zw_met zm_128_t rfl rfl ?_
  refine zw_ld (n := 1) (k := 0) (f := zp_isR) (pc' := 1) rfl rfl rfl rfl rfl ?_
  refine zw_ld (n := 1) (k := 1) (f := zp_isL) (pc' := 2) rfl rfl rfl rfl rfl ?_
  refine zw_ld (n := 1) (k := 3) (f := zp_isI) (pc' := 3) rfl rfl rfl rfl rfl ?_
  refine zw_c (pc' := 6) (zw_cv (q := 22) (Y := zm_129) W.1 rfl rfl zm_129_t rfl rfl) rfl rfl rfl rfl rfl (v1) ?_
  refine zw_ld (n := 1) (k := 0) (f := zp_isR) (pc' := 7) rfl rfl rfl rfl rfl ?_
  refine zw_gL (q := 22) (pc' := 10) W rfl rfl rfl rfl rfl ?_
  refine zw_s (pc' := 13) rfl rfl ?_
  refine zw_lxor (pc' := 14) rfl rfl ?_
  refine zw_land (pc' := 15) rfl rfl ?_
  rw [hC.2.2.1]
  refine zw_sl (n := 2) (k := 5) (pc' := 17) rfl rfl rfl rfl ?_
  refine zw_ld (n := 2) (k := 4) (f := zp_isI) (pc' := 19) rfl rfl (zw_gt2 rfl rfl rfl) rfl rfl ?_
  refine zw_beq1 (g := 31) (pc' := 22) rfl rfl rfl (rfl : _ = (0 : Int)) (fun h1 => ?_) (fun h9 => absurd h9 (by decide))
  refine zw_ld (n := 2) (k := 5) (f := zp_isL) (pc' := 33) rfl rfl zw_g2 rfl rfl ?_
  refine zw_rl rfl rfl ?_
  exact ⟨_, rfl, xSs_o s1⟩

theorem yc_sld22_0_1 {L : Nat} {σ : Nat → Int32} {d : Nat} {H : zp_H} {X : Int64} (W : zw_W H) {S : xSea} (hS : xOk S) (hC : xSC 22 H S) (hM : xCM 22 H S) : ∃ Z, zp_Call L σ (d + 3) 128 [.inr (.inr (some 23)), .inr (.inl X), .inl (Int32.ofInt 0), .inl (Int32.ofInt 1)] H Z ∧ ∃ Y : Int64, Z = (.inl (some (.inr (.inl Y))), H) ∧ xSs S 0 0 X Y := by
  obtain ⟨_, v1, m, rfl, u⟩ := yc_mv22_0 (L := L) (σ := σ) (d := d + 1) (X := X) W hS hC
  have s1 := xS1s_of (S := S) (by decide) u
  obtain ⟨_, v2, z, rfl, u2⟩ := yc_drv22 (L := L) (σ := σ) (d := d) (A := m &&& (S.2.2.1 ^^^ Int64.ofInt (-1))) W hS hC hM (fun j hj h9 => by rw [tb_and, Bool.and_eq_true_iff] at h9; exact xMw_in hS u j hj h9.1)
  refine zw_met zm_128_t rfl rfl ?_
  refine zw_ld (n := 1) (k := 0) (f := zp_isR) (pc' := 1) rfl rfl rfl rfl rfl ?_
  refine zw_ld (n := 1) (k := 1) (f := zp_isL) (pc' := 2) rfl rfl rfl rfl rfl ?_
  refine zw_ld (n := 1) (k := 3) (f := zp_isI) (pc' := 3) rfl rfl rfl rfl rfl ?_
  refine zw_c (pc' := 6) (zw_cv (q := 22) (Y := zm_129) W.1 rfl rfl zm_129_t rfl rfl) rfl rfl rfl rfl rfl (v1) ?_
  refine zw_ld (n := 1) (k := 0) (f := zp_isR) (pc' := 7) rfl rfl rfl rfl rfl ?_
  refine zw_gL (q := 22) (pc' := 10) W rfl rfl rfl rfl rfl ?_
  refine zw_s (pc' := 13) rfl rfl ?_
  refine zw_lxor (pc' := 14) rfl rfl ?_
  refine zw_land (pc' := 15) rfl rfl ?_
  rw [hC.2.2.1]
  refine zw_sl (n := 2) (k := 5) (pc' := 17) rfl rfl rfl rfl ?_
  refine zw_ld (n := 2) (k := 4) (f := zp_isI) (pc' := 19) rfl rfl (zw_gt2 rfl rfl rfl) rfl rfl ?_
  refine zw_beq1 (g := 31) (pc' := 22) rfl rfl rfl (rfl : _ = (1 : Int)) (fun h9 => absurd h9 (by decide)) (fun h1 => ?_)
  refine zw_ld (n := 1) (k := 0) (f := zp_isR) (pc' := 23) rfl rfl (zw_gt2 rfl rfl rfl) rfl rfl ?_
  refine zw_ld (n := 2) (k := 5) (f := zp_isL) (pc' := 25) rfl rfl zw_g2 rfl rfl ?_
  refine zw_c (pc' := 28) (zw_cv (q := 22) (Y := zm_130) W.1 rfl rfl zm_130_t rfl rfl) rfl rfl rfl rfl rfl (v2) ?_
  refine zw_s (pc' := 33) rfl rfl ?_
  refine zw_rl rfl rfl ?_
  exact ⟨_, rfl, xSs_e hS s1 u2⟩

theorem yc_sld22_1_0 {L : Nat} {σ : Nat → Int32} {d : Nat} {H : zp_H} {X : Int64} (W : zw_W H) {S : xSea} (hS : xOk S) (hC : xSC 22 H S) (hM : xCM 22 H S) : ∃ Z, zp_Call L σ (d + 3) 128 [.inr (.inr (some 23)), .inr (.inl X), .inl (Int32.ofInt 1), .inl (Int32.ofInt 0)] H Z ∧ ∃ Y : Int64, Z = (.inl (some (.inr (.inl Y))), H) ∧ xSs S 1 1 X Y := by
  obtain ⟨_, v1, m, rfl, u⟩ := yc_mv22_1 (L := L) (σ := σ) (d := d + 1) (X := X) W hS hC
  have s1 := xS1s_of (S := S) (by decide) u
  refine zw_met zm_128_t rfl rfl ?_
  refine zw_ld (n := 1) (k := 0) (f := zp_isR) (pc' := 1) rfl rfl rfl rfl rfl ?_
  refine zw_ld (n := 1) (k := 1) (f := zp_isL) (pc' := 2) rfl rfl rfl rfl rfl ?_
  refine zw_ld (n := 1) (k := 3) (f := zp_isI) (pc' := 3) rfl rfl rfl rfl rfl ?_
  refine zw_c (pc' := 6) (zw_cv (q := 22) (Y := zm_129) W.1 rfl rfl zm_129_t rfl rfl) rfl rfl rfl rfl rfl (v1) ?_
  refine zw_ld (n := 1) (k := 0) (f := zp_isR) (pc' := 7) rfl rfl rfl rfl rfl ?_
  refine zw_gL (q := 22) (pc' := 10) W rfl rfl rfl rfl rfl ?_
  refine zw_s (pc' := 13) rfl rfl ?_
  refine zw_lxor (pc' := 14) rfl rfl ?_
  refine zw_land (pc' := 15) rfl rfl ?_
  rw [hC.2.2.1]
  refine zw_sl (n := 2) (k := 5) (pc' := 17) rfl rfl rfl rfl ?_
  refine zw_ld (n := 2) (k := 4) (f := zp_isI) (pc' := 19) rfl rfl (zw_gt2 rfl rfl rfl) rfl rfl ?_
  refine zw_beq1 (g := 31) (pc' := 22) rfl rfl rfl (rfl : _ = (0 : Int)) (fun h1 => ?_) (fun h9 => absurd h9 (by decide))
  refine zw_ld (n := 2) (k := 5) (f := zp_isL) (pc' := 33) rfl rfl zw_g2 rfl rfl ?_
  refine zw_rl rfl rfl ?_
  exact ⟨_, rfl, xSs_o s1⟩

theorem yc_sld22_1_1 {L : Nat} {σ : Nat → Int32} {d : Nat} {H : zp_H} {X : Int64} (W : zw_W H) {S : xSea} (hS : xOk S) (hC : xSC 22 H S) (hM : xCM 22 H S) : ∃ Z, zp_Call L σ (d + 3) 128 [.inr (.inr (some 23)), .inr (.inl X), .inl (Int32.ofInt 1), .inl (Int32.ofInt 1)] H Z ∧ ∃ Y : Int64, Z = (.inl (some (.inr (.inl Y))), H) ∧ xSs S 1 0 X Y := by
  obtain ⟨_, v1, m, rfl, u⟩ := yc_mv22_1 (L := L) (σ := σ) (d := d + 1) (X := X) W hS hC
  have s1 := xS1s_of (S := S) (by decide) u
  obtain ⟨_, v2, z, rfl, u2⟩ := yc_drv22 (L := L) (σ := σ) (d := d) (A := m &&& (S.2.2.1 ^^^ Int64.ofInt (-1))) W hS hC hM (fun j hj h9 => by rw [tb_and, Bool.and_eq_true_iff] at h9; exact xMw_in hS u j hj h9.1)
  refine zw_met zm_128_t rfl rfl ?_
  refine zw_ld (n := 1) (k := 0) (f := zp_isR) (pc' := 1) rfl rfl rfl rfl rfl ?_
  refine zw_ld (n := 1) (k := 1) (f := zp_isL) (pc' := 2) rfl rfl rfl rfl rfl ?_
  refine zw_ld (n := 1) (k := 3) (f := zp_isI) (pc' := 3) rfl rfl rfl rfl rfl ?_
  refine zw_c (pc' := 6) (zw_cv (q := 22) (Y := zm_129) W.1 rfl rfl zm_129_t rfl rfl) rfl rfl rfl rfl rfl (v1) ?_
  refine zw_ld (n := 1) (k := 0) (f := zp_isR) (pc' := 7) rfl rfl rfl rfl rfl ?_
  refine zw_gL (q := 22) (pc' := 10) W rfl rfl rfl rfl rfl ?_
  refine zw_s (pc' := 13) rfl rfl ?_
  refine zw_lxor (pc' := 14) rfl rfl ?_
  refine zw_land (pc' := 15) rfl rfl ?_
  rw [hC.2.2.1]
  refine zw_sl (n := 2) (k := 5) (pc' := 17) rfl rfl rfl rfl ?_
  refine zw_ld (n := 2) (k := 4) (f := zp_isI) (pc' := 19) rfl rfl (zw_gt2 rfl rfl rfl) rfl rfl ?_
  refine zw_beq1 (g := 31) (pc' := 22) rfl rfl rfl (rfl : _ = (1 : Int)) (fun h9 => absurd h9 (by decide)) (fun h1 => ?_)
  refine zw_ld (n := 1) (k := 0) (f := zp_isR) (pc' := 23) rfl rfl (zw_gt2 rfl rfl rfl) rfl rfl ?_
  refine zw_ld (n := 2) (k := 5) (f := zp_isL) (pc' := 25) rfl rfl zw_g2 rfl rfl ?_
  refine zw_c (pc' := 28) (zw_cv (q := 22) (Y := zm_130) W.1 rfl rfl zm_130_t rfl rfl) rfl rfl rfl rfl rfl (v2) ?_
  refine zw_s (pc' := 33) rfl rfl ?_
  refine zw_rl rfl rfl ?_
  exact ⟨_, rfl, xSs_e hS s1 u2⟩

theorem yc_sld22_2_0 {L : Nat} {σ : Nat → Int32} {d : Nat} {H : zp_H} {X : Int64} (W : zw_W H) {S : xSea} (hS : xOk S) (hC : xSC 22 H S) (hM : xCM 22 H S) : ∃ Z, zp_Call L σ (d + 3) 128 [.inr (.inr (some 23)), .inr (.inl X), .inl (Int32.ofInt 2), .inl (Int32.ofInt 0)] H Z ∧ ∃ Y : Int64, Z = (.inl (some (.inr (.inl Y))), H) ∧ xSs S 2 1 X Y := by
  obtain ⟨_, v1, m, rfl, u⟩ := yc_mv22_2 (L := L) (σ := σ) (d := d + 1) (X := X) W hS hC
  have s1 := xS1s_of (S := S) (by decide) u
  refine zw_met zm_128_t rfl rfl ?_
  refine zw_ld (n := 1) (k := 0) (f := zp_isR) (pc' := 1) rfl rfl rfl rfl rfl ?_
  refine zw_ld (n := 1) (k := 1) (f := zp_isL) (pc' := 2) rfl rfl rfl rfl rfl ?_
  refine zw_ld (n := 1) (k := 3) (f := zp_isI) (pc' := 3) rfl rfl rfl rfl rfl ?_
  refine zw_c (pc' := 6) (zw_cv (q := 22) (Y := zm_129) W.1 rfl rfl zm_129_t rfl rfl) rfl rfl rfl rfl rfl (v1) ?_
  refine zw_ld (n := 1) (k := 0) (f := zp_isR) (pc' := 7) rfl rfl rfl rfl rfl ?_
  refine zw_gL (q := 22) (pc' := 10) W rfl rfl rfl rfl rfl ?_
  refine zw_s (pc' := 13) rfl rfl ?_
  refine zw_lxor (pc' := 14) rfl rfl ?_
  refine zw_land (pc' := 15) rfl rfl ?_
  rw [hC.2.2.1]
  refine zw_sl (n := 2) (k := 5) (pc' := 17) rfl rfl rfl rfl ?_
  refine zw_ld (n := 2) (k := 4) (f := zp_isI) (pc' := 19) rfl rfl (zw_gt2 rfl rfl rfl) rfl rfl ?_
  refine zw_beq1 (g := 31) (pc' := 22) rfl rfl rfl (rfl : _ = (0 : Int)) (fun h1 => ?_) (fun h9 => absurd h9 (by decide))
  refine zw_ld (n := 2) (k := 5) (f := zp_isL) (pc' := 33) rfl rfl zw_g2 rfl rfl ?_
  refine zw_rl rfl rfl ?_
  exact ⟨_, rfl, xSs_o s1⟩

theorem yc_sld22_2_1 {L : Nat} {σ : Nat → Int32} {d : Nat} {H : zp_H} {X : Int64} (W : zw_W H) {S : xSea} (hS : xOk S) (hC : xSC 22 H S) (hM : xCM 22 H S) : ∃ Z, zp_Call L σ (d + 3) 128 [.inr (.inr (some 23)), .inr (.inl X), .inl (Int32.ofInt 2), .inl (Int32.ofInt 1)] H Z ∧ ∃ Y : Int64, Z = (.inl (some (.inr (.inl Y))), H) ∧ xSs S 2 0 X Y := by
  obtain ⟨_, v1, m, rfl, u⟩ := yc_mv22_2 (L := L) (σ := σ) (d := d + 1) (X := X) W hS hC
  have s1 := xS1s_of (S := S) (by decide) u
  obtain ⟨_, v2, z, rfl, u2⟩ := yc_drv22 (L := L) (σ := σ) (d := d) (A := m &&& (S.2.2.1 ^^^ Int64.ofInt (-1))) W hS hC hM (fun j hj h9 => by rw [tb_and, Bool.and_eq_true_iff] at h9; exact xMw_in hS u j hj h9.1)
  refine zw_met zm_128_t rfl rfl ?_
  refine zw_ld (n := 1) (k := 0) (f := zp_isR) (pc' := 1) rfl rfl rfl rfl rfl ?_
  refine zw_ld (n := 1) (k := 1) (f := zp_isL) (pc' := 2) rfl rfl rfl rfl rfl ?_
  refine zw_ld (n := 1) (k := 3) (f := zp_isI) (pc' := 3) rfl rfl rfl rfl rfl ?_
  refine zw_c (pc' := 6) (zw_cv (q := 22) (Y := zm_129) W.1 rfl rfl zm_129_t rfl rfl) rfl rfl rfl rfl rfl (v1) ?_
  refine zw_ld (n := 1) (k := 0) (f := zp_isR) (pc' := 7) rfl rfl rfl rfl rfl ?_
  refine zw_gL (q := 22) (pc' := 10) W rfl rfl rfl rfl rfl ?_
  refine zw_s (pc' := 13) rfl rfl ?_
  refine zw_lxor (pc' := 14) rfl rfl ?_
  refine zw_land (pc' := 15) rfl rfl ?_
  rw [hC.2.2.1]
  refine zw_sl (n := 2) (k := 5) (pc' := 17) rfl rfl rfl rfl ?_
  refine zw_ld (n := 2) (k := 4) (f := zp_isI) (pc' := 19) rfl rfl (zw_gt2 rfl rfl rfl) rfl rfl ?_
  refine zw_beq1 (g := 31) (pc' := 22) rfl rfl rfl (rfl : _ = (1 : Int)) (fun h9 => absurd h9 (by decide)) (fun h1 => ?_)
  refine zw_ld (n := 1) (k := 0) (f := zp_isR) (pc' := 23) rfl rfl (zw_gt2 rfl rfl rfl) rfl rfl ?_
  refine zw_ld (n := 2) (k := 5) (f := zp_isL) (pc' := 25) rfl rfl zw_g2 rfl rfl ?_
  refine zw_c (pc' := 28) (zw_cv (q := 22) (Y := zm_130) W.1 rfl rfl zm_130_t rfl rfl) rfl rfl rfl rfl rfl (v2) ?_
  refine zw_s (pc' := 33) rfl rfl ?_
  refine zw_rl rfl rfl ?_
  exact ⟨_, rfl, xSs_e hS s1 u2⟩

theorem yc_sld22_3_0 {L : Nat} {σ : Nat → Int32} {d : Nat} {H : zp_H} {X : Int64} (W : zw_W H) {S : xSea} (hS : xOk S) (hC : xSC 22 H S) (hM : xCM 22 H S) : ∃ Z, zp_Call L σ (d + 3) 128 [.inr (.inr (some 23)), .inr (.inl X), .inl (Int32.ofInt 3), .inl (Int32.ofInt 0)] H Z ∧ ∃ Y : Int64, Z = (.inl (some (.inr (.inl Y))), H) ∧ xSs S 3 1 X Y := by
  obtain ⟨_, v1, m, rfl, u⟩ := yc_mv22_3 (L := L) (σ := σ) (d := d + 1) (X := X) W hS hC
  have s1 := xS1s_of (S := S) (by decide) u
  refine zw_met zm_128_t rfl rfl ?_
  refine zw_ld (n := 1) (k := 0) (f := zp_isR) (pc' := 1) rfl rfl rfl rfl rfl ?_
  refine zw_ld (n := 1) (k := 1) (f := zp_isL) (pc' := 2) rfl rfl rfl rfl rfl ?_
  refine zw_ld (n := 1) (k := 3) (f := zp_isI) (pc' := 3) rfl rfl rfl rfl rfl ?_
  refine zw_c (pc' := 6) (zw_cv (q := 22) (Y := zm_129) W.1 rfl rfl zm_129_t rfl rfl) rfl rfl rfl rfl rfl (v1) ?_
  refine zw_ld (n := 1) (k := 0) (f := zp_isR) (pc' := 7) rfl rfl rfl rfl rfl ?_
  refine zw_gL (q := 22) (pc' := 10) W rfl rfl rfl rfl rfl ?_
  refine zw_s (pc' := 13) rfl rfl ?_
  refine zw_lxor (pc' := 14) rfl rfl ?_
  refine zw_land (pc' := 15) rfl rfl ?_
  rw [hC.2.2.1]
  refine zw_sl (n := 2) (k := 5) (pc' := 17) rfl rfl rfl rfl ?_
  refine zw_ld (n := 2) (k := 4) (f := zp_isI) (pc' := 19) rfl rfl (zw_gt2 rfl rfl rfl) rfl rfl ?_
  refine zw_beq1 (g := 31) (pc' := 22) rfl rfl rfl (rfl : _ = (0 : Int)) (fun h1 => ?_) (fun h9 => absurd h9 (by decide))
  refine zw_ld (n := 2) (k := 5) (f := zp_isL) (pc' := 33) rfl rfl zw_g2 rfl rfl ?_
  refine zw_rl rfl rfl ?_
  exact ⟨_, rfl, xSs_o s1⟩

theorem yc_sld22_3_1 {L : Nat} {σ : Nat → Int32} {d : Nat} {H : zp_H} {X : Int64} (W : zw_W H) {S : xSea} (hS : xOk S) (hC : xSC 22 H S) (hM : xCM 22 H S) : ∃ Z, zp_Call L σ (d + 3) 128 [.inr (.inr (some 23)), .inr (.inl X), .inl (Int32.ofInt 3), .inl (Int32.ofInt 1)] H Z ∧ ∃ Y : Int64, Z = (.inl (some (.inr (.inl Y))), H) ∧ xSs S 3 0 X Y := by
  obtain ⟨_, v1, m, rfl, u⟩ := yc_mv22_3 (L := L) (σ := σ) (d := d + 1) (X := X) W hS hC
  have s1 := xS1s_of (S := S) (by decide) u
  obtain ⟨_, v2, z, rfl, u2⟩ := yc_drv22 (L := L) (σ := σ) (d := d) (A := m &&& (S.2.2.1 ^^^ Int64.ofInt (-1))) W hS hC hM (fun j hj h9 => by rw [tb_and, Bool.and_eq_true_iff] at h9; exact xMw_in hS u j hj h9.1)
  refine zw_met zm_128_t rfl rfl ?_
  refine zw_ld (n := 1) (k := 0) (f := zp_isR) (pc' := 1) rfl rfl rfl rfl rfl ?_
  refine zw_ld (n := 1) (k := 1) (f := zp_isL) (pc' := 2) rfl rfl rfl rfl rfl ?_
  refine zw_ld (n := 1) (k := 3) (f := zp_isI) (pc' := 3) rfl rfl rfl rfl rfl ?_
  refine zw_c (pc' := 6) (zw_cv (q := 22) (Y := zm_129) W.1 rfl rfl zm_129_t rfl rfl) rfl rfl rfl rfl rfl (v1) ?_
  refine zw_ld (n := 1) (k := 0) (f := zp_isR) (pc' := 7) rfl rfl rfl rfl rfl ?_
  refine zw_gL (q := 22) (pc' := 10) W rfl rfl rfl rfl rfl ?_
  refine zw_s (pc' := 13) rfl rfl ?_
  refine zw_lxor (pc' := 14) rfl rfl ?_
  refine zw_land (pc' := 15) rfl rfl ?_
  rw [hC.2.2.1]
  refine zw_sl (n := 2) (k := 5) (pc' := 17) rfl rfl rfl rfl ?_
  refine zw_ld (n := 2) (k := 4) (f := zp_isI) (pc' := 19) rfl rfl (zw_gt2 rfl rfl rfl) rfl rfl ?_
  refine zw_beq1 (g := 31) (pc' := 22) rfl rfl rfl (rfl : _ = (1 : Int)) (fun h9 => absurd h9 (by decide)) (fun h1 => ?_)
  refine zw_ld (n := 1) (k := 0) (f := zp_isR) (pc' := 23) rfl rfl (zw_gt2 rfl rfl rfl) rfl rfl ?_
  refine zw_ld (n := 2) (k := 5) (f := zp_isL) (pc' := 25) rfl rfl zw_g2 rfl rfl ?_
  refine zw_c (pc' := 28) (zw_cv (q := 22) (Y := zm_130) W.1 rfl rfl zm_130_t rfl rfl) rfl rfl rfl rfl rfl (v2) ?_
  refine zw_s (pc' := 33) rfl rfl ?_
  refine zw_rl rfl rfl ?_
  exact ⟨_, rfl, xSs_e hS s1 u2⟩

theorem yc_stp22_0 {L : Nat} {σ : Nat → Int32} {d : Nat} {H : zp_H} (W : zw_W H) {S : xSea} (hS : xOk S) (hC : xSC 22 H S) (hM : xCM 22 H S) : ∃ Z, zp_Call L σ (d + 4) 127 [.inr (.inr (some 56)), .inr (.inr (some 23)), .inl (Int32.ofInt 0)] H Z ∧ ∃ H1, Z = (.inl none, H1) ∧ zw_W H1 ∧ xFv 55 H H1 ∧ xSs S 0 1 (H.2.2.1 55 1) (H1.2.2.1 55 0) ∧ xSs S 0 0 (H.2.2.1 55 0) (H1.2.2.1 55 1) := by
  obtain ⟨_, v1, z1, rfl, u1⟩ := yc_sld22_0_1 (L := L) (σ := σ) (d := d) (X := H.2.2.1 55 0) W hS hC hM
  obtain ⟨_, v2, z2, rfl, u2⟩ := yc_sld22_0_0 (L := L) (σ := σ) (d := d) (X := H.2.2.1 55 1) W hS hC hM
  refine zw_met zm_127_t rfl rfl ?_
  refine zw_ld (n := 1) (k := 1) (f := zp_isR) (pc' := 1) rfl rfl rfl rfl rfl ?_
  refine zw_ld (n := 1) (k := 0) (f := zp_isR) (pc' := 2) rfl rfl rfl rfl rfl ?_
  refine zw_gL (q := 55) (pc' := 5) W rfl rfl rfl rfl rfl ?_
  refine zw_ld (n := 1) (k := 2) (f := zp_isI) (pc' := 6) rfl rfl rfl rfl rfl ?_
  refine zw_s (pc' := 7) rfl rfl ?_
  refine zw_c (pc' := 10) (zw_cv (q := 22) (Y := zm_128) W.1 rfl rfl zm_128_t rfl rfl) rfl rfl rfl rfl rfl (v1) ?_
  refine zw_sl (n := 1) (k := 3) (pc' := 11) rfl rfl rfl rfl ?_
  refine zw_ld (n := 1) (k := 0) (f := zp_isR) (pc' := 12) rfl rfl (zw_gt2 rfl rfl rfl) rfl rfl ?_
  refine zw_ld (n := 1) (k := 1) (f := zp_isR) (pc' := 13) rfl rfl (zw_gt2 rfl rfl rfl) rfl rfl ?_
  refine zw_ld (n := 1) (k := 0) (f := zp_isR) (pc' := 14) rfl rfl (zw_gt2 rfl rfl rfl) rfl rfl ?_
  refine zw_gL (q := 55) (pc' := 17) W rfl rfl rfl rfl rfl ?_
  refine zw_ld (n := 1) (k := 2) (f := zp_isI) (pc' := 18) rfl rfl (zw_gt2 rfl rfl rfl) rfl rfl ?_
  refine zw_s (pc' := 19) rfl rfl ?_
  refine zw_c (pc' := 22) (zw_cv (q := 22) (Y := zm_128) W.1 rfl rfl zm_128_t rfl rfl) rfl rfl rfl rfl rfl (v2) ?_
  refine zw_pL (q := 55) (pc' := 25) W rfl rfl rfl rfl rfl rfl ?_
  refine zw_ld (n := 1) (k := 0) (f := zp_isR) (pc' := 26) rfl rfl (zw_gt2 rfl rfl rfl) rfl rfl ?_
  refine zw_ld (n := 1) (k := 3) (f := zp_isL) (pc' := 27) rfl rfl zw_g2 rfl rfl ?_
  refine zw_pL (q := 55) (pc' := 30) (zw_W_J W) rfl rfl rfl rfl rfl rfl ?_
  refine zw_rn rfl rfl ?_
  exact ⟨_, rfl, zw_W_J (zw_W_J W), xFv_J (xFv_J (xFv_r H)), by rw [show (zw_J (zw_J H 55 0 z2) 55 1 z1).2.2.1 55 0 = z2 from xJJ0]; exact u2, by rw [show (zw_J (zw_J H 55 0 z2) 55 1 z1).2.2.1 55 1 = z1 from xJJ1]; exact u1⟩

theorem yc_stp22_1 {L : Nat} {σ : Nat → Int32} {d : Nat} {H : zp_H} (W : zw_W H) {S : xSea} (hS : xOk S) (hC : xSC 22 H S) (hM : xCM 22 H S) : ∃ Z, zp_Call L σ (d + 4) 127 [.inr (.inr (some 56)), .inr (.inr (some 23)), .inl (Int32.ofInt 1)] H Z ∧ ∃ H1, Z = (.inl none, H1) ∧ zw_W H1 ∧ xFv 55 H H1 ∧ xSs S 1 1 (H.2.2.1 55 1) (H1.2.2.1 55 0) ∧ xSs S 1 0 (H.2.2.1 55 0) (H1.2.2.1 55 1) := by
  obtain ⟨_, v1, z1, rfl, u1⟩ := yc_sld22_1_1 (L := L) (σ := σ) (d := d) (X := H.2.2.1 55 0) W hS hC hM
  obtain ⟨_, v2, z2, rfl, u2⟩ := yc_sld22_1_0 (L := L) (σ := σ) (d := d) (X := H.2.2.1 55 1) W hS hC hM
  refine zw_met zm_127_t rfl rfl ?_
  refine zw_ld (n := 1) (k := 1) (f := zp_isR) (pc' := 1) rfl rfl rfl rfl rfl ?_
  refine zw_ld (n := 1) (k := 0) (f := zp_isR) (pc' := 2) rfl rfl rfl rfl rfl ?_
  refine zw_gL (q := 55) (pc' := 5) W rfl rfl rfl rfl rfl ?_
  refine zw_ld (n := 1) (k := 2) (f := zp_isI) (pc' := 6) rfl rfl rfl rfl rfl ?_
  refine zw_s (pc' := 7) rfl rfl ?_
  refine zw_c (pc' := 10) (zw_cv (q := 22) (Y := zm_128) W.1 rfl rfl zm_128_t rfl rfl) rfl rfl rfl rfl rfl (v1) ?_
  refine zw_sl (n := 1) (k := 3) (pc' := 11) rfl rfl rfl rfl ?_
  refine zw_ld (n := 1) (k := 0) (f := zp_isR) (pc' := 12) rfl rfl (zw_gt2 rfl rfl rfl) rfl rfl ?_
  refine zw_ld (n := 1) (k := 1) (f := zp_isR) (pc' := 13) rfl rfl (zw_gt2 rfl rfl rfl) rfl rfl ?_
  refine zw_ld (n := 1) (k := 0) (f := zp_isR) (pc' := 14) rfl rfl (zw_gt2 rfl rfl rfl) rfl rfl ?_
  refine zw_gL (q := 55) (pc' := 17) W rfl rfl rfl rfl rfl ?_
  refine zw_ld (n := 1) (k := 2) (f := zp_isI) (pc' := 18) rfl rfl (zw_gt2 rfl rfl rfl) rfl rfl ?_
  refine zw_s (pc' := 19) rfl rfl ?_
  refine zw_c (pc' := 22) (zw_cv (q := 22) (Y := zm_128) W.1 rfl rfl zm_128_t rfl rfl) rfl rfl rfl rfl rfl (v2) ?_
  refine zw_pL (q := 55) (pc' := 25) W rfl rfl rfl rfl rfl rfl ?_
  refine zw_ld (n := 1) (k := 0) (f := zp_isR) (pc' := 26) rfl rfl (zw_gt2 rfl rfl rfl) rfl rfl ?_
  refine zw_ld (n := 1) (k := 3) (f := zp_isL) (pc' := 27) rfl rfl zw_g2 rfl rfl ?_
  refine zw_pL (q := 55) (pc' := 30) (zw_W_J W) rfl rfl rfl rfl rfl rfl ?_
  refine zw_rn rfl rfl ?_
  exact ⟨_, rfl, zw_W_J (zw_W_J W), xFv_J (xFv_J (xFv_r H)), by rw [show (zw_J (zw_J H 55 0 z2) 55 1 z1).2.2.1 55 0 = z2 from xJJ0]; exact u2, by rw [show (zw_J (zw_J H 55 0 z2) 55 1 z1).2.2.1 55 1 = z1 from xJJ1]; exact u1⟩

theorem yc_stp22_2 {L : Nat} {σ : Nat → Int32} {d : Nat} {H : zp_H} (W : zw_W H) {S : xSea} (hS : xOk S) (hC : xSC 22 H S) (hM : xCM 22 H S) : ∃ Z, zp_Call L σ (d + 4) 127 [.inr (.inr (some 56)), .inr (.inr (some 23)), .inl (Int32.ofInt 2)] H Z ∧ ∃ H1, Z = (.inl none, H1) ∧ zw_W H1 ∧ xFv 55 H H1 ∧ xSs S 2 1 (H.2.2.1 55 1) (H1.2.2.1 55 0) ∧ xSs S 2 0 (H.2.2.1 55 0) (H1.2.2.1 55 1) := by
  obtain ⟨_, v1, z1, rfl, u1⟩ := yc_sld22_2_1 (L := L) (σ := σ) (d := d) (X := H.2.2.1 55 0) W hS hC hM
  obtain ⟨_, v2, z2, rfl, u2⟩ := yc_sld22_2_0 (L := L) (σ := σ) (d := d) (X := H.2.2.1 55 1) W hS hC hM
  refine zw_met zm_127_t rfl rfl ?_
  refine zw_ld (n := 1) (k := 1) (f := zp_isR) (pc' := 1) rfl rfl rfl rfl rfl ?_
  refine zw_ld (n := 1) (k := 0) (f := zp_isR) (pc' := 2) rfl rfl rfl rfl rfl ?_
  refine zw_gL (q := 55) (pc' := 5) W rfl rfl rfl rfl rfl ?_
  refine zw_ld (n := 1) (k := 2) (f := zp_isI) (pc' := 6) rfl rfl rfl rfl rfl ?_
  refine zw_s (pc' := 7) rfl rfl ?_
  refine zw_c (pc' := 10) (zw_cv (q := 22) (Y := zm_128) W.1 rfl rfl zm_128_t rfl rfl) rfl rfl rfl rfl rfl (v1) ?_
  refine zw_sl (n := 1) (k := 3) (pc' := 11) rfl rfl rfl rfl ?_
  refine zw_ld (n := 1) (k := 0) (f := zp_isR) (pc' := 12) rfl rfl (zw_gt2 rfl rfl rfl) rfl rfl ?_
  refine zw_ld (n := 1) (k := 1) (f := zp_isR) (pc' := 13) rfl rfl (zw_gt2 rfl rfl rfl) rfl rfl ?_
  refine zw_ld (n := 1) (k := 0) (f := zp_isR) (pc' := 14) rfl rfl (zw_gt2 rfl rfl rfl) rfl rfl ?_
  refine zw_gL (q := 55) (pc' := 17) W rfl rfl rfl rfl rfl ?_
  refine zw_ld (n := 1) (k := 2) (f := zp_isI) (pc' := 18) rfl rfl (zw_gt2 rfl rfl rfl) rfl rfl ?_
  refine zw_s (pc' := 19) rfl rfl ?_
  refine zw_c (pc' := 22) (zw_cv (q := 22) (Y := zm_128) W.1 rfl rfl zm_128_t rfl rfl) rfl rfl rfl rfl rfl (v2) ?_
  refine zw_pL (q := 55) (pc' := 25) W rfl rfl rfl rfl rfl rfl ?_
  refine zw_ld (n := 1) (k := 0) (f := zp_isR) (pc' := 26) rfl rfl (zw_gt2 rfl rfl rfl) rfl rfl ?_
  refine zw_ld (n := 1) (k := 3) (f := zp_isL) (pc' := 27) rfl rfl zw_g2 rfl rfl ?_
  refine zw_pL (q := 55) (pc' := 30) (zw_W_J W) rfl rfl rfl rfl rfl rfl ?_
  refine zw_rn rfl rfl ?_
  exact ⟨_, rfl, zw_W_J (zw_W_J W), xFv_J (xFv_J (xFv_r H)), by rw [show (zw_J (zw_J H 55 0 z2) 55 1 z1).2.2.1 55 0 = z2 from xJJ0]; exact u2, by rw [show (zw_J (zw_J H 55 0 z2) 55 1 z1).2.2.1 55 1 = z1 from xJJ1]; exact u1⟩

theorem yc_stp22_3 {L : Nat} {σ : Nat → Int32} {d : Nat} {H : zp_H} (W : zw_W H) {S : xSea} (hS : xOk S) (hC : xSC 22 H S) (hM : xCM 22 H S) : ∃ Z, zp_Call L σ (d + 4) 127 [.inr (.inr (some 56)), .inr (.inr (some 23)), .inl (Int32.ofInt 3)] H Z ∧ ∃ H1, Z = (.inl none, H1) ∧ zw_W H1 ∧ xFv 55 H H1 ∧ xSs S 3 1 (H.2.2.1 55 1) (H1.2.2.1 55 0) ∧ xSs S 3 0 (H.2.2.1 55 0) (H1.2.2.1 55 1) := by
  obtain ⟨_, v1, z1, rfl, u1⟩ := yc_sld22_3_1 (L := L) (σ := σ) (d := d) (X := H.2.2.1 55 0) W hS hC hM
  obtain ⟨_, v2, z2, rfl, u2⟩ := yc_sld22_3_0 (L := L) (σ := σ) (d := d) (X := H.2.2.1 55 1) W hS hC hM
  refine zw_met zm_127_t rfl rfl ?_
  refine zw_ld (n := 1) (k := 1) (f := zp_isR) (pc' := 1) rfl rfl rfl rfl rfl ?_
  refine zw_ld (n := 1) (k := 0) (f := zp_isR) (pc' := 2) rfl rfl rfl rfl rfl ?_
  refine zw_gL (q := 55) (pc' := 5) W rfl rfl rfl rfl rfl ?_
  refine zw_ld (n := 1) (k := 2) (f := zp_isI) (pc' := 6) rfl rfl rfl rfl rfl ?_
  refine zw_s (pc' := 7) rfl rfl ?_
  refine zw_c (pc' := 10) (zw_cv (q := 22) (Y := zm_128) W.1 rfl rfl zm_128_t rfl rfl) rfl rfl rfl rfl rfl (v1) ?_
  refine zw_sl (n := 1) (k := 3) (pc' := 11) rfl rfl rfl rfl ?_
  refine zw_ld (n := 1) (k := 0) (f := zp_isR) (pc' := 12) rfl rfl (zw_gt2 rfl rfl rfl) rfl rfl ?_
  refine zw_ld (n := 1) (k := 1) (f := zp_isR) (pc' := 13) rfl rfl (zw_gt2 rfl rfl rfl) rfl rfl ?_
  refine zw_ld (n := 1) (k := 0) (f := zp_isR) (pc' := 14) rfl rfl (zw_gt2 rfl rfl rfl) rfl rfl ?_
  refine zw_gL (q := 55) (pc' := 17) W rfl rfl rfl rfl rfl ?_
  refine zw_ld (n := 1) (k := 2) (f := zp_isI) (pc' := 18) rfl rfl (zw_gt2 rfl rfl rfl) rfl rfl ?_
  refine zw_s (pc' := 19) rfl rfl ?_
  refine zw_c (pc' := 22) (zw_cv (q := 22) (Y := zm_128) W.1 rfl rfl zm_128_t rfl rfl) rfl rfl rfl rfl rfl (v2) ?_
  refine zw_pL (q := 55) (pc' := 25) W rfl rfl rfl rfl rfl rfl ?_
  refine zw_ld (n := 1) (k := 0) (f := zp_isR) (pc' := 26) rfl rfl (zw_gt2 rfl rfl rfl) rfl rfl ?_
  refine zw_ld (n := 1) (k := 3) (f := zp_isL) (pc' := 27) rfl rfl zw_g2 rfl rfl ?_
  refine zw_pL (q := 55) (pc' := 30) (zw_W_J W) rfl rfl rfl rfl rfl rfl ?_
  refine zw_rn rfl rfl ?_
  exact ⟨_, rfl, zw_W_J (zw_W_J W), xFv_J (xFv_J (xFv_r H)), by rw [show (zw_J (zw_J H 55 0 z2) 55 1 z1).2.2.1 55 0 = z2 from xJJ0]; exact u2, by rw [show (zw_J (zw_J H 55 0 z2) 55 1 z1).2.2.1 55 1 = z1 from xJJ1]; exact u1⟩

theorem yc_stp22 {L : Nat} {σ : Nat → Int32} {d : Nat} {H : zp_H} {x : Int32} (W : zw_W H) {S : xSea} (hS : xOk S) (hC : xSC 22 H S) (hM : xCM 22 H S) (hx : 0 ≤ x.toInt ∧ x.toInt ≤ 3) : ∃ Z, zp_Call L σ (d + 4) 127 [.inr (.inr (some 56)), .inr (.inr (some 23)), .inl x] H Z ∧ ∃ H1, Z = (.inl none, H1) ∧ zw_W H1 ∧ xFv 55 H H1 ∧ xSs S x.toInt 1 (H.2.2.1 55 1) (H1.2.2.1 55 0) ∧ xSs S x.toInt 0 (H.2.2.1 55 0) (H1.2.2.1 55 1) := by
  rcases y0123 (x := x) ⟨hx.1, hx.2⟩ with rfl | rfl | rfl | rfl
  · exact yc_stp22_0 W hS hC hM
  · exact yc_stp22_1 W hS hC hM
  · exact yc_stp22_2 W hS hC hM
  · exact yc_stp22_3 W hS hC hM

theorem yc_smL22 {L : Nat} {σ : Nat → Int32} {d : Nat} {P : zp_X → Prop} {S : xSea} {H0 : zp_H} {hr : Int} {q : Nat → Nat → Prop} (hS : xOk S) (hC : xSC 22 H0 S) (hM : xCM 22 H0 S) {x s : Int32} (hx : 0 ≤ x.toInt ∧ x.toInt ≤ 3) : ∀ (n : Nat) (H : zp_H) (lv : zp_LV) (i : Int32) (j : Nat), zw_W H → xFv 55 H0 H → xCL hr (xItn S hr q x.toInt j) (H.2.2.1 55 0) (H.2.2.1 55 1) → i.toInt = j → j + n = s.toInt.toNat → zp_get lv 0 = some (.inr (.inr (some 56))) → zp_get lv 1 = some (.inr (.inr (some 23))) → zp_get lv 2 = some (.inl x) → zp_get lv 3 = some (.inl s) → zp_get lv 4 = some (.inl i) → (∀ H1, zw_W H1 → xFv 55 H0 H1 → xCL hr (xItn S hr q x.toInt s.toInt.toNat) (H1.2.2.1 55 0) (H1.2.2.1 55 1) → P (.inl none, H1)) → zs_Safe L σ P zm_131 [] (d + 4) (3, lv, [], H, (0, 0)) := by
  intro n
  induction n with
  | zero =>
    intro H lv i j W hF hc h5 hn l0 l1 l2 l3 l4 hP
    refine zw_ld (n := 2) (k := 4) (f := zp_isI) (pc' := 5) rfl rfl l4 rfl rfl ?_
    refine zw_ld (n := 1) (k := 3) (f := zp_isI) (pc' := 6) rfl rfl l3 rfl rfl ?_
    refine zw_bge2 (g := 21) (pc' := 9) rfl rfl rfl rfl rfl (fun h1 => ?_) (fun h1 => ?_)
    · refine zw_rn rfl rfl ?_
      have e : j = s.toInt.toNat := by omega
      rw [e] at hc
      exact hP H W hF hc
    · omega
  | succ n ih =>
    intro H lv i j W hF hc h5 hn l0 l1 l2 l3 l4 hP
    refine zw_ld (n := 2) (k := 4) (f := zp_isI) (pc' := 5) rfl rfl l4 rfl rfl ?_
    refine zw_ld (n := 1) (k := 3) (f := zp_isI) (pc' := 6) rfl rfl l3 rfl rfl ?_
    refine zw_bge2 (g := 21) (pc' := 9) rfl rfl rfl rfl rfl (fun h1 => ?_) (fun h1 => ?_)
    · omega
    · have ei : (i + Int32.ofInt 1).toInt = i.toInt + 1 := zw_p1 (by have h9 : s.toInt ≤ 2147483647 := Int32.toInt_le s; omega)
      obtain ⟨_, q1, H1, rfl, W1, q2, q3, q4⟩ := yc_stp22 (L := L) (σ := σ) (d := d) (x := x) W hS (xSC_v hF (by decide) hC) (xCM_v hF (by decide) hM) hx
      have hc2 := xCL_s hS hc q3 q4
      refine zw_ld (n := 1) (k := 0) (f := zp_isR) (pc' := 10) rfl rfl l0 rfl rfl ?_
      refine zw_ld (n := 1) (k := 1) (f := zp_isR) (pc' := 11) rfl rfl l1 rfl rfl ?_
      refine zw_ld (n := 1) (k := 2) (f := zp_isI) (pc' := 12) rfl rfl l2 rfl rfl ?_
      refine zw_cn (pc' := 15) (zw_cv (q := 55) (Y := zm_127) W.1 rfl rfl zm_127_t rfl rfl) rfl rfl rfl rfl rfl (q1) ?_
      refine zw_ii (pc' := 18) rfl l4 rfl rfl ?_
      refine zw_s (pc' := 3) rfl rfl ?_
      exact ih H1 _ (i + Int32.ofInt 1) (j + 1) W1 (xFv_t hF q2) hc2 (by omega) (by omega) (zw_gt l0 rfl rfl) (zw_gt l1 rfl rfl) (zw_gt l2 rfl rfl) (zw_gt l3 rfl rfl) zw_g1 hP

theorem yc_sm22 {L : Nat} {σ : Nat → Int32} {d : Nat} {S : xSea} {H0 : zp_H} {hr : Int} {q : Nat → Nat → Prop} (hS : xOk S) (hC : xSC 22 H0 S) (hM : xCM 22 H0 S) {x s : Int32} (hx : 0 ≤ x.toInt ∧ x.toInt ≤ 3) (W : zw_W H0) (hc : xCL hr q (H0.2.2.1 55 0) (H0.2.2.1 55 1)) : ∃ Z, zp_Call L σ (d + 5) 131 [.inr (.inr (some 56)), .inr (.inr (some 23)), .inl x, .inl s] H0 Z ∧ ∃ H1, Z = (.inl none, H1) ∧ zw_W H1 ∧ xFv 55 H0 H1 ∧ xCL hr (xItn S hr q x.toInt s.toInt.toNat) (H1.2.2.1 55 0) (H1.2.2.1 55 1) := by
  refine zw_met zm_131_t rfl rfl ?_
  refine zw_s (pc' := 1) rfl rfl ?_
  refine zw_st (n := 2) (k := 4) (f := zp_isI) (pc' := 3) rfl rfl rfl rfl rfl ?_
  exact yc_smL22 (q := q) hS hC hM hx s.toInt.toNat H0 _ (Int32.ofInt 0) 0 W (xFv_r H0) hc (by decide) (Nat.zero_add _) (zw_gt rfl rfl rfl) (zw_gt rfl rfl rfl) (zw_gt rfl rfl rfl) (zw_gt rfl rfl rfl) zw_g1 (fun H1 w1 w2 w3 => ⟨H1, rfl, w1, w2, w3⟩)

theorem yc_saI22 {L : Nat} {σ : Nat → Int32} {d : Nat} {P : zp_X → Prop} {S : xSea} {H0 : zp_H} {hr : Int} {q : Nat → Nat → Prop} (hS : xOk S) (hC : xSC 22 H0 S) (hM : xCM 22 H0 S) {p : Nat → Nat → Prop} {fe fo : Int64} {x : Int32} (hx : 0 ≤ x.toInt ∧ x.toInt ≤ 3) : ∀ (n : Nat) (H : zp_H) (lv : zp_LV) (te to : Int64) (i : Int32) (j : Nat), zw_W H → xFv 55 H0 H → xCL hr (xUf S hr p q x.toInt j) te to → xCL hr (xItn S hr q x.toInt j) (H.2.2.1 55 0) (H.2.2.1 55 1) → i.toInt = j → j + n = 9 → zp_get lv 0 = some (.inr (.inr (some 56))) → zp_get lv 1 = some (.inr (.inr (some 23))) → zp_get lv 2 = some (.inr (.inl fe)) → zp_get lv 4 = some (.inr (.inl fo)) → zp_get lv 6 = some (.inr (.inl te)) → zp_get lv 8 = some (.inr (.inl to)) → zp_get lv 10 = some (.inl x) → zp_get lv 11 = some (.inl i) → (∀ H1 lv1 te1 to1, zw_W H1 → xFv 55 H0 H1 → xCL hr (xUf S hr p q x.toInt 9) te1 to1 → zp_get lv1 0 = some (.inr (.inr (some 56))) → zp_get lv1 1 = some (.inr (.inr (some 23))) → zp_get lv1 2 = some (.inr (.inl fe)) → zp_get lv1 4 = some (.inr (.inl fo)) → zp_get lv1 6 = some (.inr (.inl te1)) → zp_get lv1 8 = some (.inr (.inl to1)) → zp_get lv1 10 = some (.inl x) → zs_Safe L σ P zm_126 [] (d + 4) (78, lv1, [], H1, (0, 0))) → zs_Safe L σ P zm_126 [] (d + 4) (40, lv, [], H, (0, 0)) := by
  intro n
  induction n with
  | zero =>
    intro H lv te to i j W hF hp hc h5 hn l0 l1 l2 l4 l6 l8 l10 l11 hP
    refine zw_ld (n := 2) (k := 11) (f := zp_isI) (pc' := 42) rfl rfl l11 rfl rfl ?_
    refine zw_s (pc' := 44) rfl rfl ?_
    refine zw_bge2 (g := 78) (pc' := 47) rfl rfl rfl rfl (rfl : _ = (9 : Int)) (fun h1 => ?_) (fun h1 => ?_)
    · have e : j = 9 := by omega
      rw [e] at hp
      exact hP H lv te to W hF hp l0 l1 l2 l4 l6 l8 l10
    · have h1 : i.toInt < 9 := h1
      omega
  | succ n ih =>
    intro H lv te to i j W hF hp hc h5 hn l0 l1 l2 l4 l6 l8 l10 l11 hP
    refine zw_ld (n := 2) (k := 11) (f := zp_isI) (pc' := 42) rfl rfl l11 rfl rfl ?_
    refine zw_s (pc' := 44) rfl rfl ?_
    refine zw_bge2 (g := 78) (pc' := 47) rfl rfl rfl rfl (rfl : _ = (9 : Int)) (fun h1 => ?_) (fun h1 => ?_)
    · have h1 : 9 ≤ i.toInt := h1
      omega
    · have ei : (i + Int32.ofInt 1).toInt = i.toInt + 1 := zw_p1 (by omega)
      obtain ⟨_, q1, H1, rfl, W1, q2, q3, q4⟩ := yc_stp22 (L := L) (σ := σ) (d := d) (x := x) W hS (xSC_v hF (by decide) hC) (xCM_v hF (by decide) hM) hx
      have hc2 := xCL_s hS hc q3 q4
      have hp2 := xCL_o hp hc2
      refine zw_ld (n := 1) (k := 0) (f := zp_isR) (pc' := 48) rfl rfl l0 rfl rfl ?_
      refine zw_ld (n := 1) (k := 1) (f := zp_isR) (pc' := 49) rfl rfl l1 rfl rfl ?_
      refine zw_ld (n := 2) (k := 10) (f := zp_isI) (pc' := 51) rfl rfl l10 rfl rfl ?_
      refine zw_cn (pc' := 54) (zw_cv (q := 55) (Y := zm_127) W.1 rfl rfl zm_127_t rfl rfl) rfl rfl rfl rfl rfl (q1) ?_
      refine zw_ld (n := 2) (k := 6) (f := zp_isL) (pc' := 56) rfl rfl l6 rfl rfl ?_
      refine zw_ld (n := 1) (k := 0) (f := zp_isR) (pc' := 57) rfl rfl l0 rfl rfl ?_
      refine zw_gL (q := 55) (pc' := 60) W1 rfl rfl rfl rfl rfl ?_
      refine zw_lor (pc' := 61) rfl rfl ?_
      refine zw_sl (n := 2) (k := 6) (pc' := 63) rfl rfl rfl rfl ?_
      refine zw_ld (n := 2) (k := 8) (f := zp_isL) (pc' := 65) rfl rfl (zw_gt2 l8 rfl rfl) rfl rfl ?_
      refine zw_ld (n := 1) (k := 0) (f := zp_isR) (pc' := 66) rfl rfl (zw_gt2 l0 rfl rfl) rfl rfl ?_
      refine zw_gL (q := 55) (pc' := 69) W1 rfl rfl rfl rfl rfl ?_
      refine zw_lor (pc' := 70) rfl rfl ?_
      refine zw_sl (n := 2) (k := 8) (pc' := 72) rfl rfl rfl rfl ?_
      refine zw_ii (pc' := 75) rfl (zw_gt2 (zw_gt2 l11 rfl rfl) rfl rfl) rfl rfl ?_
      refine zw_s (pc' := 40) rfl rfl ?_
      exact ih H1 _ _ _ (i + Int32.ofInt 1) (j + 1) W1 (xFv_t hF q2) hp2 hc2 (by omega) (by omega) (zw_gt (zw_gt2 (zw_gt2 l0 rfl rfl) rfl rfl) rfl rfl) (zw_gt (zw_gt2 (zw_gt2 l1 rfl rfl) rfl rfl) rfl rfl) (zw_gt (zw_gt2 (zw_gt2 l2 rfl rfl) rfl rfl) rfl rfl) (zw_gt (zw_gt2 (zw_gt2 l4 rfl rfl) rfl rfl) rfl rfl) (zw_gt (zw_gt2 zw_g2 rfl rfl) rfl rfl) (zw_gt zw_g2 rfl rfl) (zw_gt (zw_gt2 (zw_gt2 l10 rfl rfl) rfl rfl) rfl rfl) zw_g1 hP

theorem yc_saW22_0 {L : Nat} {σ : Nat → Int32} {d : Nat} {P : zp_X → Prop} {S : xSea} {H0 : zp_H} {hr : Int} {q : Nat → Nat → Prop} (hS : xOk S) (hC : xSC 22 H0 S) (hM : xCM 22 H0 S) {p : Nat → Nat → Prop} {fe fo : Int64} (hc : xCL hr q fe fo) {H : zp_H} {lv : zp_LV} {te to : Int64} (W : zw_W H) (hF : xFv 55 H0 H) (hp : xCL hr p te to) (l0 : zp_get lv 0 = some (.inr (.inr (some 56)))) (l1 : zp_get lv 1 = some (.inr (.inr (some 23)))) (l2 : zp_get lv 2 = some (.inr (.inl fe))) (l4 : zp_get lv 4 = some (.inr (.inl fo))) (l6 : zp_get lv 6 = some (.inr (.inl te))) (l8 : zp_get lv 8 = some (.inr (.inl to))) (l10 : zp_get lv 10 = some (.inl (Int32.ofInt 0))) (hP : ∀ H1 lv1 te1 to1, zw_W H1 → xFv 55 H0 H1 → xCL hr (xUf S hr p q 0 9) te1 to1 → zp_get lv1 0 = some (.inr (.inr (some 56))) → zp_get lv1 1 = some (.inr (.inr (some 23))) → zp_get lv1 2 = some (.inr (.inl fe)) → zp_get lv1 4 = some (.inr (.inl fo)) → zp_get lv1 6 = some (.inr (.inl te1)) → zp_get lv1 8 = some (.inr (.inl to1)) → zp_get lv1 10 = some (.inl (Int32.ofInt 1)) → zs_Safe L σ P zm_126 [] (d + 4) (20, lv1, [], H1, (0, 0))) : zs_Safe L σ P zm_126 [] (d + 4) (20, lv, [], H, (0, 0)) := by
  refine zw_ld (n := 2) (k := 10) (f := zp_isI) (pc' := 22) rfl rfl l10 rfl rfl ?_
  refine zw_s (pc' := 23) rfl rfl ?_
  refine zw_bge2 (g := 84) (pc' := 26) rfl rfl rfl (rfl : _ = (0 : Int)) (rfl : _ = (4 : Int)) (fun h9 => absurd h9 (by decide)) (fun h1 => ?_)
  refine zw_ld (n := 1) (k := 0) (f := zp_isR) (pc' := 27) rfl rfl l0 rfl rfl ?_
  refine zw_ld (n := 1) (k := 2) (f := zp_isL) (pc' := 28) rfl rfl l2 rfl rfl ?_
  refine zw_pL (q := 55) (pc' := 31) W rfl rfl rfl rfl rfl rfl ?_
  refine zw_ld (n := 1) (k := 0) (f := zp_isR) (pc' := 32) rfl rfl l0 rfl rfl ?_
  refine zw_ld (n := 2) (k := 4) (f := zp_isL) (pc' := 34) rfl rfl l4 rfl rfl ?_
  refine zw_pL (q := 55) (pc' := 37) (zw_W_J W) rfl rfl rfl rfl rfl rfl ?_
  refine zw_s (pc' := 38) rfl rfl ?_
  refine zw_st (n := 2) (k := 11) (f := zp_isI) (pc' := 40) rfl rfl rfl rfl rfl ?_
  refine yc_saI22 (p := p) (q := q) (x := Int32.ofInt 0) hS hC hM ⟨by decide, by decide⟩ 9 (zw_J (zw_J H 55 0 fe) 55 1 fo) _ te to (Int32.ofInt 0) 0 (zw_W_J (zw_W_J W)) (xFv_J (xFv_J hF)) hp (by
    show xCL hr q ((zw_J (zw_J H 55 0 fe) 55 1 fo).2.2.1 55 0) ((zw_J (zw_J H 55 0 fe) 55 1 fo).2.2.1 55 1)
    rw [show (zw_J (zw_J H 55 0 fe) 55 1 fo).2.2.1 55 0 = fe from xJJ0, show (zw_J (zw_J H 55 0 fe) 55 1 fo).2.2.1 55 1 = fo from xJJ1]
    exact hc) (by decide) rfl (zw_gt l0 rfl rfl) (zw_gt l1 rfl rfl) (zw_gt l2 rfl rfl) (zw_gt l4 rfl rfl) (zw_gt l6 rfl rfl) (zw_gt l8 rfl rfl) (zw_gt l10 rfl rfl) zw_g1 (fun H1 lv1 te1 to1 w1 w2 w3 m0 m1 m2 m4 m6 m8 m10 => ?_)
  refine zw_ii (pc' := 81) rfl m10 rfl rfl ?_
  rw [show Int32.ofInt 0 + Int32.ofInt 1 = Int32.ofInt 1 by decide]
  refine zw_s (pc' := 20) rfl rfl ?_
  exact hP H1 _ te1 to1 w1 w2 w3 (zw_gt m0 rfl rfl) (zw_gt m1 rfl rfl) (zw_gt m2 rfl rfl) (zw_gt m4 rfl rfl) (zw_gt m6 rfl rfl) (zw_gt m8 rfl rfl) zw_g1

theorem yc_saW22_1 {L : Nat} {σ : Nat → Int32} {d : Nat} {P : zp_X → Prop} {S : xSea} {H0 : zp_H} {hr : Int} {q : Nat → Nat → Prop} (hS : xOk S) (hC : xSC 22 H0 S) (hM : xCM 22 H0 S) {p : Nat → Nat → Prop} {fe fo : Int64} (hc : xCL hr q fe fo) {H : zp_H} {lv : zp_LV} {te to : Int64} (W : zw_W H) (hF : xFv 55 H0 H) (hp : xCL hr p te to) (l0 : zp_get lv 0 = some (.inr (.inr (some 56)))) (l1 : zp_get lv 1 = some (.inr (.inr (some 23)))) (l2 : zp_get lv 2 = some (.inr (.inl fe))) (l4 : zp_get lv 4 = some (.inr (.inl fo))) (l6 : zp_get lv 6 = some (.inr (.inl te))) (l8 : zp_get lv 8 = some (.inr (.inl to))) (l10 : zp_get lv 10 = some (.inl (Int32.ofInt 1))) (hP : ∀ H1 lv1 te1 to1, zw_W H1 → xFv 55 H0 H1 → xCL hr (xUf S hr p q 1 9) te1 to1 → zp_get lv1 0 = some (.inr (.inr (some 56))) → zp_get lv1 1 = some (.inr (.inr (some 23))) → zp_get lv1 2 = some (.inr (.inl fe)) → zp_get lv1 4 = some (.inr (.inl fo)) → zp_get lv1 6 = some (.inr (.inl te1)) → zp_get lv1 8 = some (.inr (.inl to1)) → zp_get lv1 10 = some (.inl (Int32.ofInt 2)) → zs_Safe L σ P zm_126 [] (d + 4) (20, lv1, [], H1, (0, 0))) : zs_Safe L σ P zm_126 [] (d + 4) (20, lv, [], H, (0, 0)) := by
  refine zw_ld (n := 2) (k := 10) (f := zp_isI) (pc' := 22) rfl rfl l10 rfl rfl ?_
  refine zw_s (pc' := 23) rfl rfl ?_
  refine zw_bge2 (g := 84) (pc' := 26) rfl rfl rfl (rfl : _ = (1 : Int)) (rfl : _ = (4 : Int)) (fun h9 => absurd h9 (by decide)) (fun h1 => ?_)
  refine zw_ld (n := 1) (k := 0) (f := zp_isR) (pc' := 27) rfl rfl l0 rfl rfl ?_
  refine zw_ld (n := 1) (k := 2) (f := zp_isL) (pc' := 28) rfl rfl l2 rfl rfl ?_
  refine zw_pL (q := 55) (pc' := 31) W rfl rfl rfl rfl rfl rfl ?_
  refine zw_ld (n := 1) (k := 0) (f := zp_isR) (pc' := 32) rfl rfl l0 rfl rfl ?_
  refine zw_ld (n := 2) (k := 4) (f := zp_isL) (pc' := 34) rfl rfl l4 rfl rfl ?_
  refine zw_pL (q := 55) (pc' := 37) (zw_W_J W) rfl rfl rfl rfl rfl rfl ?_
  refine zw_s (pc' := 38) rfl rfl ?_
  refine zw_st (n := 2) (k := 11) (f := zp_isI) (pc' := 40) rfl rfl rfl rfl rfl ?_
  refine yc_saI22 (p := p) (q := q) (x := Int32.ofInt 1) hS hC hM ⟨by decide, by decide⟩ 9 (zw_J (zw_J H 55 0 fe) 55 1 fo) _ te to (Int32.ofInt 0) 0 (zw_W_J (zw_W_J W)) (xFv_J (xFv_J hF)) hp (by
    show xCL hr q ((zw_J (zw_J H 55 0 fe) 55 1 fo).2.2.1 55 0) ((zw_J (zw_J H 55 0 fe) 55 1 fo).2.2.1 55 1)
    rw [show (zw_J (zw_J H 55 0 fe) 55 1 fo).2.2.1 55 0 = fe from xJJ0, show (zw_J (zw_J H 55 0 fe) 55 1 fo).2.2.1 55 1 = fo from xJJ1]
    exact hc) (by decide) rfl (zw_gt l0 rfl rfl) (zw_gt l1 rfl rfl) (zw_gt l2 rfl rfl) (zw_gt l4 rfl rfl) (zw_gt l6 rfl rfl) (zw_gt l8 rfl rfl) (zw_gt l10 rfl rfl) zw_g1 (fun H1 lv1 te1 to1 w1 w2 w3 m0 m1 m2 m4 m6 m8 m10 => ?_)
  refine zw_ii (pc' := 81) rfl m10 rfl rfl ?_
  rw [show Int32.ofInt 1 + Int32.ofInt 1 = Int32.ofInt 2 by decide]
  refine zw_s (pc' := 20) rfl rfl ?_
  exact hP H1 _ te1 to1 w1 w2 w3 (zw_gt m0 rfl rfl) (zw_gt m1 rfl rfl) (zw_gt m2 rfl rfl) (zw_gt m4 rfl rfl) (zw_gt m6 rfl rfl) (zw_gt m8 rfl rfl) zw_g1

theorem yc_saW22_2 {L : Nat} {σ : Nat → Int32} {d : Nat} {P : zp_X → Prop} {S : xSea} {H0 : zp_H} {hr : Int} {q : Nat → Nat → Prop} (hS : xOk S) (hC : xSC 22 H0 S) (hM : xCM 22 H0 S) {p : Nat → Nat → Prop} {fe fo : Int64} (hc : xCL hr q fe fo) {H : zp_H} {lv : zp_LV} {te to : Int64} (W : zw_W H) (hF : xFv 55 H0 H) (hp : xCL hr p te to) (l0 : zp_get lv 0 = some (.inr (.inr (some 56)))) (l1 : zp_get lv 1 = some (.inr (.inr (some 23)))) (l2 : zp_get lv 2 = some (.inr (.inl fe))) (l4 : zp_get lv 4 = some (.inr (.inl fo))) (l6 : zp_get lv 6 = some (.inr (.inl te))) (l8 : zp_get lv 8 = some (.inr (.inl to))) (l10 : zp_get lv 10 = some (.inl (Int32.ofInt 2))) (hP : ∀ H1 lv1 te1 to1, zw_W H1 → xFv 55 H0 H1 → xCL hr (xUf S hr p q 2 9) te1 to1 → zp_get lv1 0 = some (.inr (.inr (some 56))) → zp_get lv1 1 = some (.inr (.inr (some 23))) → zp_get lv1 2 = some (.inr (.inl fe)) → zp_get lv1 4 = some (.inr (.inl fo)) → zp_get lv1 6 = some (.inr (.inl te1)) → zp_get lv1 8 = some (.inr (.inl to1)) → zp_get lv1 10 = some (.inl (Int32.ofInt 3)) → zs_Safe L σ P zm_126 [] (d + 4) (20, lv1, [], H1, (0, 0))) : zs_Safe L σ P zm_126 [] (d + 4) (20, lv, [], H, (0, 0)) := by
  refine zw_ld (n := 2) (k := 10) (f := zp_isI) (pc' := 22) rfl rfl l10 rfl rfl ?_
  refine zw_s (pc' := 23) rfl rfl ?_
  refine zw_bge2 (g := 84) (pc' := 26) rfl rfl rfl (rfl : _ = (2 : Int)) (rfl : _ = (4 : Int)) (fun h9 => absurd h9 (by decide)) (fun h1 => ?_)
  refine zw_ld (n := 1) (k := 0) (f := zp_isR) (pc' := 27) rfl rfl l0 rfl rfl ?_
  refine zw_ld (n := 1) (k := 2) (f := zp_isL) (pc' := 28) rfl rfl l2 rfl rfl ?_
  refine zw_pL (q := 55) (pc' := 31) W rfl rfl rfl rfl rfl rfl ?_
  refine zw_ld (n := 1) (k := 0) (f := zp_isR) (pc' := 32) rfl rfl l0 rfl rfl ?_
  refine zw_ld (n := 2) (k := 4) (f := zp_isL) (pc' := 34) rfl rfl l4 rfl rfl ?_
  refine zw_pL (q := 55) (pc' := 37) (zw_W_J W) rfl rfl rfl rfl rfl rfl ?_
  refine zw_s (pc' := 38) rfl rfl ?_
  refine zw_st (n := 2) (k := 11) (f := zp_isI) (pc' := 40) rfl rfl rfl rfl rfl ?_
  refine yc_saI22 (p := p) (q := q) (x := Int32.ofInt 2) hS hC hM ⟨by decide, by decide⟩ 9 (zw_J (zw_J H 55 0 fe) 55 1 fo) _ te to (Int32.ofInt 0) 0 (zw_W_J (zw_W_J W)) (xFv_J (xFv_J hF)) hp (by
    show xCL hr q ((zw_J (zw_J H 55 0 fe) 55 1 fo).2.2.1 55 0) ((zw_J (zw_J H 55 0 fe) 55 1 fo).2.2.1 55 1)
    rw [show (zw_J (zw_J H 55 0 fe) 55 1 fo).2.2.1 55 0 = fe from xJJ0, show (zw_J (zw_J H 55 0 fe) 55 1 fo).2.2.1 55 1 = fo from xJJ1]
    exact hc) (by decide) rfl (zw_gt l0 rfl rfl) (zw_gt l1 rfl rfl) (zw_gt l2 rfl rfl) (zw_gt l4 rfl rfl) (zw_gt l6 rfl rfl) (zw_gt l8 rfl rfl) (zw_gt l10 rfl rfl) zw_g1 (fun H1 lv1 te1 to1 w1 w2 w3 m0 m1 m2 m4 m6 m8 m10 => ?_)
  refine zw_ii (pc' := 81) rfl m10 rfl rfl ?_
  rw [show Int32.ofInt 2 + Int32.ofInt 1 = Int32.ofInt 3 by decide]
  refine zw_s (pc' := 20) rfl rfl ?_
  exact hP H1 _ te1 to1 w1 w2 w3 (zw_gt m0 rfl rfl) (zw_gt m1 rfl rfl) (zw_gt m2 rfl rfl) (zw_gt m4 rfl rfl) (zw_gt m6 rfl rfl) (zw_gt m8 rfl rfl) zw_g1

theorem yc_saW22_3 {L : Nat} {σ : Nat → Int32} {d : Nat} {P : zp_X → Prop} {S : xSea} {H0 : zp_H} {hr : Int} {q : Nat → Nat → Prop} (hS : xOk S) (hC : xSC 22 H0 S) (hM : xCM 22 H0 S) {p : Nat → Nat → Prop} {fe fo : Int64} (hc : xCL hr q fe fo) {H : zp_H} {lv : zp_LV} {te to : Int64} (W : zw_W H) (hF : xFv 55 H0 H) (hp : xCL hr p te to) (l0 : zp_get lv 0 = some (.inr (.inr (some 56)))) (l1 : zp_get lv 1 = some (.inr (.inr (some 23)))) (l2 : zp_get lv 2 = some (.inr (.inl fe))) (l4 : zp_get lv 4 = some (.inr (.inl fo))) (l6 : zp_get lv 6 = some (.inr (.inl te))) (l8 : zp_get lv 8 = some (.inr (.inl to))) (l10 : zp_get lv 10 = some (.inl (Int32.ofInt 3))) (hP : ∀ H1 lv1 te1 to1, zw_W H1 → xFv 55 H0 H1 → xCL hr (xUf S hr p q 3 9) te1 to1 → zp_get lv1 0 = some (.inr (.inr (some 56))) → zp_get lv1 1 = some (.inr (.inr (some 23))) → zp_get lv1 2 = some (.inr (.inl fe)) → zp_get lv1 4 = some (.inr (.inl fo)) → zp_get lv1 6 = some (.inr (.inl te1)) → zp_get lv1 8 = some (.inr (.inl to1)) → zp_get lv1 10 = some (.inl (Int32.ofInt 4)) → zs_Safe L σ P zm_126 [] (d + 4) (20, lv1, [], H1, (0, 0))) : zs_Safe L σ P zm_126 [] (d + 4) (20, lv, [], H, (0, 0)) := by
  refine zw_ld (n := 2) (k := 10) (f := zp_isI) (pc' := 22) rfl rfl l10 rfl rfl ?_
  refine zw_s (pc' := 23) rfl rfl ?_
  refine zw_bge2 (g := 84) (pc' := 26) rfl rfl rfl (rfl : _ = (3 : Int)) (rfl : _ = (4 : Int)) (fun h9 => absurd h9 (by decide)) (fun h1 => ?_)
  refine zw_ld (n := 1) (k := 0) (f := zp_isR) (pc' := 27) rfl rfl l0 rfl rfl ?_
  refine zw_ld (n := 1) (k := 2) (f := zp_isL) (pc' := 28) rfl rfl l2 rfl rfl ?_
  refine zw_pL (q := 55) (pc' := 31) W rfl rfl rfl rfl rfl rfl ?_
  refine zw_ld (n := 1) (k := 0) (f := zp_isR) (pc' := 32) rfl rfl l0 rfl rfl ?_
  refine zw_ld (n := 2) (k := 4) (f := zp_isL) (pc' := 34) rfl rfl l4 rfl rfl ?_
  refine zw_pL (q := 55) (pc' := 37) (zw_W_J W) rfl rfl rfl rfl rfl rfl ?_
  refine zw_s (pc' := 38) rfl rfl ?_
  refine zw_st (n := 2) (k := 11) (f := zp_isI) (pc' := 40) rfl rfl rfl rfl rfl ?_
  refine yc_saI22 (p := p) (q := q) (x := Int32.ofInt 3) hS hC hM ⟨by decide, by decide⟩ 9 (zw_J (zw_J H 55 0 fe) 55 1 fo) _ te to (Int32.ofInt 0) 0 (zw_W_J (zw_W_J W)) (xFv_J (xFv_J hF)) hp (by
    show xCL hr q ((zw_J (zw_J H 55 0 fe) 55 1 fo).2.2.1 55 0) ((zw_J (zw_J H 55 0 fe) 55 1 fo).2.2.1 55 1)
    rw [show (zw_J (zw_J H 55 0 fe) 55 1 fo).2.2.1 55 0 = fe from xJJ0, show (zw_J (zw_J H 55 0 fe) 55 1 fo).2.2.1 55 1 = fo from xJJ1]
    exact hc) (by decide) rfl (zw_gt l0 rfl rfl) (zw_gt l1 rfl rfl) (zw_gt l2 rfl rfl) (zw_gt l4 rfl rfl) (zw_gt l6 rfl rfl) (zw_gt l8 rfl rfl) (zw_gt l10 rfl rfl) zw_g1 (fun H1 lv1 te1 to1 w1 w2 w3 m0 m1 m2 m4 m6 m8 m10 => ?_)
  refine zw_ii (pc' := 81) rfl m10 rfl rfl ?_
  rw [show Int32.ofInt 3 + Int32.ofInt 1 = Int32.ofInt 4 by decide]
  refine zw_s (pc' := 20) rfl rfl ?_
  exact hP H1 _ te1 to1 w1 w2 w3 (zw_gt m0 rfl rfl) (zw_gt m1 rfl rfl) (zw_gt m2 rfl rfl) (zw_gt m4 rfl rfl) (zw_gt m6 rfl rfl) (zw_gt m8 rfl rfl) zw_g1

theorem yc_sa22 {L : Nat} {σ : Nat → Int32} {d : Nat} {S : xSea} {H0 : zp_H} {hr : Int} {q : Nat → Nat → Prop} (hS : xOk S) (hC : xSC 22 H0 S) (hM : xCM 22 H0 S) (W : zw_W H0) (hc : xCL hr q (H0.2.2.1 55 0) (H0.2.2.1 55 1)) : ∃ Z, zp_Call L σ (d + 5) 126 [.inr (.inr (some 56)), .inr (.inr (some 23))] H0 Z ∧ ∃ H1, Z = (.inl none, H1) ∧ zw_W H1 ∧ xFv 55 H0 H1 ∧ xCL hr (xRub S hr q) (H1.2.2.1 55 0) (H1.2.2.1 55 1) := by
  refine zw_met zm_126_t rfl rfl ?_
  refine zw_ld (n := 1) (k := 0) (f := zp_isR) (pc' := 1) rfl rfl rfl rfl rfl ?_
  refine zw_gL (q := 55) (pc' := 4) W rfl rfl rfl rfl rfl ?_
  refine zw_sl (n := 1) (k := 2) (pc' := 5) rfl rfl rfl rfl ?_
  refine zw_ld (n := 1) (k := 0) (f := zp_isR) (pc' := 6) rfl rfl (zw_gt2 rfl rfl rfl) rfl rfl ?_
  refine zw_gL (q := 55) (pc' := 9) W rfl rfl rfl rfl rfl ?_
  refine zw_sl (n := 2) (k := 4) (pc' := 11) rfl rfl rfl rfl ?_
  refine zw_s (pc' := 12) rfl rfl ?_
  refine zw_sl (n := 2) (k := 6) (pc' := 14) rfl rfl rfl rfl ?_
  refine zw_s (pc' := 15) rfl rfl ?_
  refine zw_sl (n := 2) (k := 8) (pc' := 17) rfl rfl rfl rfl ?_
  refine zw_s (pc' := 18) rfl rfl ?_
  refine zw_st (n := 2) (k := 10) (f := zp_isI) (pc' := 20) rfl rfl rfl rfl rfl ?_
  refine yc_saW22_0 (H0 := H0) (q := q) hS hC hM hc W (xFv_r H0) xCL_f (zw_gt (zw_gt2 (zw_gt2 (zw_gt2 (zw_gt2 rfl rfl rfl) rfl rfl) rfl rfl) rfl rfl) rfl rfl) (zw_gt (zw_gt2 (zw_gt2 (zw_gt2 (zw_gt2 rfl rfl rfl) rfl rfl) rfl rfl) rfl rfl) rfl rfl) (zw_gt (zw_gt2 (zw_gt2 (zw_gt2 zw_g2 rfl rfl) rfl rfl) rfl rfl) rfl rfl) (zw_gt (zw_gt2 (zw_gt2 zw_g2 rfl rfl) rfl rfl) rfl rfl) (zw_gt (zw_gt2 zw_g2 rfl rfl) rfl rfl) (zw_gt zw_g2 rfl rfl) zw_g1 (fun H1 lv1 te1 to1 w1 f1 p1 a1 b1 c1 d1 e1 g1 i1 => ?_)
  refine yc_saW22_1 (H0 := H0) (q := q) hS hC hM hc w1 f1 p1 a1 b1 c1 d1 e1 g1 i1 (fun H2 lv2 te2 to2 w2 f2 p2 a2 b2 c2 d2 e2 g2 i2 => ?_)
  refine yc_saW22_2 (H0 := H0) (q := q) hS hC hM hc w2 f2 p2 a2 b2 c2 d2 e2 g2 i2 (fun H3 lv3 te3 to3 w3 f3 p3 a3 b3 c3 d3 e3 g3 i3 => ?_)
  refine yc_saW22_3 (H0 := H0) (q := q) hS hC hM hc w3 f3 p3 a3 b3 c3 d3 e3 g3 i3 (fun H4 lv4 te4 to4 w4 f4 p4 a4 b4 c4 d4 e4 g4 i4 => ?_)
  refine zw_ld (n := 2) (k := 10) (f := zp_isI) (pc' := 22) rfl rfl i4 rfl rfl ?_
  refine zw_s (pc' := 23) rfl rfl ?_
  refine zw_bge2 (g := 84) (pc' := 26) rfl rfl rfl (rfl : _ = (4 : Int)) (rfl : _ = (4 : Int)) (fun h1 => ?_) (fun h9 => absurd h9 (by decide))
  refine zw_ld (n := 1) (k := 0) (f := zp_isR) (pc' := 85) rfl rfl a4 rfl rfl ?_
  refine zw_ld (n := 2) (k := 6) (f := zp_isL) (pc' := 87) rfl rfl e4 rfl rfl ?_
  refine zw_pL (q := 55) (pc' := 90) w4 rfl rfl rfl rfl rfl rfl ?_
  refine zw_ld (n := 1) (k := 0) (f := zp_isR) (pc' := 91) rfl rfl a4 rfl rfl ?_
  refine zw_ld (n := 2) (k := 8) (f := zp_isL) (pc' := 93) rfl rfl g4 rfl rfl ?_
  refine zw_pL (q := 55) (pc' := 96) (zw_W_J w4) rfl rfl rfl rfl rfl rfl ?_
  refine zw_rn rfl rfl ?_
  exact ⟨_, rfl, zw_W_J (zw_W_J w4), xFv_J (xFv_J f4), by rw [show (zw_J (zw_J H4 55 0 te4) 55 1 to4).2.2.1 55 0 = te4 from xJJ0, show (zw_J (zw_J H4 55 0 te4) 55 1 to4).2.2.1 55 1 = to4 from xJJ1]; exact p4⟩

theorem yc_rub33_1 {L : Nat} {σ : Nat → Int32} {d : Nat} {H : zp_H} {x1 x2 : Int32} (W : zw_W H) (hs : 0 ≤ x1.toInt ∧ x1.toInt < 8) (hb : (xRb (H.2.1 37 x1.toInt.toNat) x2 = true)) : zp_Call L σ (d + 1) 125 [.inr (.inr (some 34)), .inl x1, .inl x2] H (.inl (some (.inl (Int32.ofInt 1))), H) := by
  refine zw_ex (zw_met zm_125_t rfl rfl ?_)
  refine zw_ld (n := 1) (k := 0) (f := zp_isR) (pc' := 1) rfl rfl rfl rfl rfl ?_
  refine zw_gR (q := 33) (pc' := 4) W rfl rfl rfl rfl (W.2 33 4 _ rfl) rfl ?_
  refine zw_ld (n := 1) (k := 1) (f := zp_isI) (pc' := 5) rfl rfl rfl rfl rfl ?_
  refine zw_ia (q := 37) (pc' := 6) W rfl rfl (by decide) (⟨hs.1, by show _ < ((8 : Nat) : Int); omega⟩) rfl rfl ?_
  refine zw_ld (n := 1) (k := 2) (f := zp_isI) (pc' := 7) rfl rfl rfl rfl rfl ?_
  refine zw_ishr (pc' := 8) rfl rfl ?_
  refine zw_s (pc' := 9) rfl rfl ?_
  refine zw_iand (pc' := 10) rfl rfl ?_
  refine zw_beq1 (g := 17) (pc' := 13) rfl rfl rfl rfl (fun h1 => ?_) (fun h1 => ?_)
  · have h1 : ((H.2.1 37 x1.toInt.toNat >>> (x2 &&& 31)) &&& Int32.ofInt 1).toInt = 0 := h1
    exact absurd h1 (of_decide_eq_true hb)
  · refine zw_s (pc' := 14) rfl rfl ?_
    refine zw_s (pc' := 18) rfl rfl ?_
    refine zw_rz rfl rfl (by decide) ?_
    rfl

theorem yc_rub33_0 {L : Nat} {σ : Nat → Int32} {d : Nat} {H : zp_H} {x1 x2 : Int32} (W : zw_W H) (hs : 0 ≤ x1.toInt ∧ x1.toInt < 8) (hb : ¬ (xRb (H.2.1 37 x1.toInt.toNat) x2 = true)) : zp_Call L σ (d + 1) 125 [.inr (.inr (some 34)), .inl x1, .inl x2] H (.inl (some (.inl (Int32.ofInt 0))), H) := by
  refine zw_ex (zw_met zm_125_t rfl rfl ?_)
  refine zw_ld (n := 1) (k := 0) (f := zp_isR) (pc' := 1) rfl rfl rfl rfl rfl ?_
  refine zw_gR (q := 33) (pc' := 4) W rfl rfl rfl rfl (W.2 33 4 _ rfl) rfl ?_
  refine zw_ld (n := 1) (k := 1) (f := zp_isI) (pc' := 5) rfl rfl rfl rfl rfl ?_
  refine zw_ia (q := 37) (pc' := 6) W rfl rfl (by decide) (⟨hs.1, by show _ < ((8 : Nat) : Int); omega⟩) rfl rfl ?_
  refine zw_ld (n := 1) (k := 2) (f := zp_isI) (pc' := 7) rfl rfl rfl rfl rfl ?_
  refine zw_ishr (pc' := 8) rfl rfl ?_
  refine zw_s (pc' := 9) rfl rfl ?_
  refine zw_iand (pc' := 10) rfl rfl ?_
  refine zw_beq1 (g := 17) (pc' := 13) rfl rfl rfl rfl (fun h1 => ?_) (fun h1 => ?_)
  · refine zw_s (pc' := 18) rfl rfl ?_
    refine zw_rz rfl rfl (by decide) ?_
    rfl
  · have h1 : ¬ ((H.2.1 37 x1.toInt.toNat >>> (x2 &&& 31)) &&& Int32.ofInt 1).toInt = 0 := h1
    exact absurd (decide_eq_true h1) hb

theorem yc_cbL22 {L : Nat} {σ : Nat → Int32} {d : Nat} {P : zp_X → Prop} {S : xSea} {H0 : zp_H} (hS : xOk S) (hC : xSC 22 H0 S) (hM : xCM 22 H0 S) {s kk : Int32} (hs : 0 ≤ s.toInt ∧ s.toInt < 8) (hk : 0 ≤ kk.toInt ∧ kk.toInt ≤ 8) (hw : ∀ j, j < kk.toInt.toNat → 0 ≤ (H0.2.1 38 (8 * s.toInt.toNat + j)).toInt ∧ (H0.2.1 38 (8 * s.toInt.toNat + j)).toInt ≤ 3) : ∀ (n : Nat) (H : zp_H) (lv : zp_LV) (i : Int32) (j : Nat), zw_W H → xFv 55 H0 H → xCL (H0.2.1 35 s.toInt.toNat).toInt (xMay S (H0.2.1 35 s.toInt.toNat).toInt (H0.2.1 34 s.toInt.toNat).toInt.toNat (fun m => xRb (H0.2.1 37 s.toInt.toNat) (Int32.ofInt (m : Int))) (fun m => H0.2.1 38 (8 * s.toInt.toNat + m)) (fun m => H0.2.1 39 (8 * s.toInt.toNat + m)) j) (H.2.2.1 55 0) (H.2.2.1 55 1) → i.toInt = j → j + n = kk.toInt.toNat → zp_get lv 0 = some (.inr (.inr (some 56))) → zp_get lv 1 = some (.inr (.inr (some 23))) → zp_get lv 2 = some (.inr (.inr (some 34))) → zp_get lv 3 = some (.inl s) → zp_get lv 4 = some (.inl kk) → zp_get lv 6 = some (.inl i) → (∀ H1, zw_W H1 → xFv 55 H0 H1 → ∀ v : Int64, v = H1.2.2.1 55 0 ||| H1.2.2.1 55 1 → xCL (H0.2.1 35 s.toInt.toNat).toInt (xMay S (H0.2.1 35 s.toInt.toNat).toInt (H0.2.1 34 s.toInt.toNat).toInt.toNat (fun m => xRb (H0.2.1 37 s.toInt.toNat) (Int32.ofInt (m : Int))) (fun m => H0.2.1 38 (8 * s.toInt.toNat + m)) (fun m => H0.2.1 39 (8 * s.toInt.toNat + m)) kk.toInt.toNat) (H1.2.2.1 55 0) (H1.2.2.1 55 1) → P (.inl (some (.inr (.inl v))), H1)) → zs_Safe L σ P zm_124 [] (d + 5) (65, lv, [], H, (0, 0)) := by
  intro n
  induction n with
  | zero =>
    intro H lv i j W hF hc h5 hn l0 l1 l2 l3 l4 l6 hP
    refine zw_ld (n := 2) (k := 6) (f := zp_isI) (pc' := 67) rfl rfl l6 rfl rfl ?_
    refine zw_ld (n := 2) (k := 4) (f := zp_isI) (pc' := 69) rfl rfl l4 rfl rfl ?_
    refine zw_bge2 (g := 115) (pc' := 72) rfl rfl rfl rfl rfl (fun h1 => ?_) (fun h1 => ?_)
    · have e : j = kk.toInt.toNat := by omega
      rw [e] at hc
      refine zw_ld (n := 1) (k := 0) (f := zp_isR) (pc' := 116) rfl rfl l0 rfl rfl ?_
      refine zw_gL (q := 55) (pc' := 119) W rfl rfl rfl rfl rfl ?_
      refine zw_ld (n := 1) (k := 0) (f := zp_isR) (pc' := 120) rfl rfl l0 rfl rfl ?_
      refine zw_gL (q := 55) (pc' := 123) W rfl rfl rfl rfl rfl ?_
      refine zw_lor (pc' := 124) rfl rfl ?_
      refine zw_rl rfl rfl ?_
      exact hP H W hF _ rfl hc
    · omega
  | succ n ih =>
    intro H lv i j W hF hc h5 hn l0 l1 l2 l3 l4 l6 hP
    refine zw_ld (n := 2) (k := 6) (f := zp_isI) (pc' := 67) rfl rfl l6 rfl rfl ?_
    refine zw_ld (n := 2) (k := 4) (f := zp_isI) (pc' := 69) rfl rfl l4 rfl rfl ?_
    refine zw_bge2 (g := 115) (pc' := 72) rfl rfl rfl rfl rfl (fun h1 => ?_) (fun h1 => ?_)
    · omega
    · have ei : (i + Int32.ofInt 1).toInt = i.toInt + 1 := zw_p1 (by omega)
      have eo : Int32.ofInt (j : Int) = i := (congrArg Int32.ofInt h5.symm).trans (x_oi i)
      have ej : i.toInt.toNat = j := by omega
      have e4 : H.2.1 37 s.toInt.toNat = H0.2.1 37 s.toInt.toNat := hF.2.2.1 _ _ (by decide)
      have e5 : ∀ m, H.2.1 38 m = H0.2.1 38 m := fun m => hF.2.2.1 _ _ (by decide)
      have e6 : ∀ m, H.2.1 39 m = H0.2.1 39 m := fun m => hF.2.2.1 _ _ (by decide)
      have hC1 := xSC_v hF (by decide) hC
      have hM1 := xCM_v hF (by decide) hM
      refine zw_ld (n := 1) (k := 2) (f := zp_isR) (pc' := 73) rfl rfl l2 rfl rfl ?_
      refine zw_ld (n := 1) (k := 3) (f := zp_isI) (pc' := 74) rfl rfl l3 rfl rfl ?_
      refine zw_ld (n := 2) (k := 6) (f := zp_isI) (pc' := 76) rfl rfl l6 rfl rfl ?_
      by_cases hb : xRb (H0.2.1 37 s.toInt.toNat) i = true
      · obtain ⟨_, q1, H1, rfl, W1, q2, q3⟩ := yc_sa22 (L := L) (σ := σ) (d := d) (q := xMay S (H0.2.1 35 s.toInt.toNat).toInt (H0.2.1 34 s.toInt.toNat).toInt.toNat (fun m => xRb (H0.2.1 37 s.toInt.toNat) (Int32.ofInt (m : Int))) (fun m => H0.2.1 38 (8 * s.toInt.toNat + m)) (fun m => H0.2.1 39 (8 * s.toInt.toNat + m)) j) hS hC1 hM1 W hc
        have q3 : xCL (H0.2.1 35 s.toInt.toNat).toInt (xMay S (H0.2.1 35 s.toInt.toNat).toInt (H0.2.1 34 s.toInt.toNat).toInt.toNat (fun m => xRb (H0.2.1 37 s.toInt.toNat) (Int32.ofInt (m : Int))) (fun m => H0.2.1 38 (8 * s.toInt.toNat + m)) (fun m => H0.2.1 39 (8 * s.toInt.toNat + m)) (j + 1)) (H1.2.2.1 55 0) (H1.2.2.1 55 1) := by
          show xCL _ (xMark S _ (xRb (H0.2.1 37 s.toInt.toNat) (Int32.ofInt (j : Int))) _ _ _) _ _
          unfold xMark
          rw [eo, if_pos hb]
          exact q3
        refine zw_c (pc' := 79) (zw_cv (q := 33) (Y := zm_125) W.1 rfl rfl zm_125_t rfl rfl) rfl rfl rfl rfl rfl (yc_rub33_1 W hs (by rw [e4]; exact hb)) ?_
        refine zw_beq1 (g := 90) (pc' := 82) rfl rfl rfl (rfl : _ = (1 : Int)) (fun h9 => absurd h9 (by decide)) (fun h7 => ?_)
        refine zw_ld (n := 1) (k := 0) (f := zp_isR) (pc' := 83) rfl rfl l0 rfl rfl ?_
        refine zw_ld (n := 1) (k := 1) (f := zp_isR) (pc' := 84) rfl rfl l1 rfl rfl ?_
        refine zw_cn (pc' := 87) (zw_cv (q := 55) (Y := zm_126) W.1 rfl rfl zm_126_t rfl rfl) rfl rfl rfl rfl rfl (q1) ?_
        refine zw_s (pc' := 109) rfl rfl ?_
        refine zw_ii (pc' := 112) rfl l6 rfl rfl ?_
        refine zw_s (pc' := 65) rfl rfl ?_
        exact ih H1 _ (i + Int32.ofInt 1) (j + 1) W1 (xFv_t hF q2) q3 (by omega) (by omega) (zw_gt l0 rfl rfl) (zw_gt l1 rfl rfl) (zw_gt l2 rfl rfl) (zw_gt l3 rfl rfl) (zw_gt l4 rfl rfl) zw_g1 hP
      · obtain ⟨_, q1, H1, rfl, W1, q2, q3⟩ := yc_sm22 (L := L) (σ := σ) (d := d) (q := xMay S (H0.2.1 35 s.toInt.toNat).toInt (H0.2.1 34 s.toInt.toNat).toInt.toNat (fun m => xRb (H0.2.1 37 s.toInt.toNat) (Int32.ofInt (m : Int))) (fun m => H0.2.1 38 (8 * s.toInt.toNat + m)) (fun m => H0.2.1 39 (8 * s.toInt.toNat + m)) j) (x := H0.2.1 38 (8 * s.toInt.toNat + j)) (s := H0.2.1 39 (8 * s.toInt.toNat + j)) hS hC1 hM1 (hw j (by omega)) W hc
        have q3 : xCL (H0.2.1 35 s.toInt.toNat).toInt (xMay S (H0.2.1 35 s.toInt.toNat).toInt (H0.2.1 34 s.toInt.toNat).toInt.toNat (fun m => xRb (H0.2.1 37 s.toInt.toNat) (Int32.ofInt (m : Int))) (fun m => H0.2.1 38 (8 * s.toInt.toNat + m)) (fun m => H0.2.1 39 (8 * s.toInt.toNat + m)) (j + 1)) (H1.2.2.1 55 0) (H1.2.2.1 55 1) := by
          show xCL _ (xMark S _ (xRb (H0.2.1 37 s.toInt.toNat) (Int32.ofInt (j : Int))) _ _ _) _ _
          unfold xMark
          rw [eo, if_neg hb]
          exact q3
        refine zw_c (pc' := 79) (zw_cv (q := 33) (Y := zm_125) W.1 rfl rfl zm_125_t rfl rfl) rfl rfl rfl rfl rfl (yc_rub33_0 W hs (by rw [e4]; exact hb)) ?_
        refine zw_beq1 (g := 90) (pc' := 82) rfl rfl rfl (rfl : _ = (0 : Int)) (fun h7 => ?_) (fun h9 => absurd h9 (by decide))
        refine zw_ld (n := 1) (k := 0) (f := zp_isR) (pc' := 91) rfl rfl l0 rfl rfl ?_
        refine zw_ld (n := 1) (k := 1) (f := zp_isR) (pc' := 92) rfl rfl l1 rfl rfl ?_
        refine zw_ld (n := 1) (k := 2) (f := zp_isR) (pc' := 93) rfl rfl l2 rfl rfl ?_
        refine zw_ld (n := 1) (k := 3) (f := zp_isI) (pc' := 94) rfl rfl l3 rfl rfl ?_
        refine zw_ld (n := 2) (k := 6) (f := zp_isI) (pc' := 96) rfl rfl l6 rfl rfl ?_
        refine zw_c (pc' := 99) (zw_cv (q := 33) (Y := zm_26) W.1 rfl rfl zm_26_t rfl rfl) rfl rfl rfl rfl rfl (yc_wayOf33 W hs ⟨by omega, by omega⟩) ?_
        refine zw_ld (n := 1) (k := 2) (f := zp_isR) (pc' := 100) rfl rfl l2 rfl rfl ?_
        refine zw_ld (n := 1) (k := 3) (f := zp_isI) (pc' := 101) rfl rfl l3 rfl rfl ?_
        refine zw_ld (n := 2) (k := 6) (f := zp_isI) (pc' := 103) rfl rfl l6 rfl rfl ?_
        refine zw_c (pc' := 106) (zw_cv (q := 33) (Y := zm_27) W.1 rfl rfl zm_27_t rfl rfl) rfl rfl rfl rfl rfl (yc_stepsOf33 W hs ⟨by omega, by omega⟩) ?_
        rw [ej, e5, e6]
        refine zw_cn (pc' := 109) (zw_cv (q := 55) (Y := zm_131) W.1 rfl rfl zm_131_t rfl rfl) rfl rfl rfl rfl rfl (q1) ?_
        refine zw_ii (pc' := 112) rfl l6 rfl rfl ?_
        refine zw_s (pc' := 65) rfl rfl ?_
        exact ih H1 _ (i + Int32.ofInt 1) (j + 1) W1 (xFv_t hF q2) q3 (by omega) (by omega) (zw_gt l0 rfl rfl) (zw_gt l1 rfl rfl) (zw_gt l2 rfl rfl) (zw_gt l3 rfl rfl) (zw_gt l4 rfl rfl) zw_g1 hP

theorem yc_cb22 {L : Nat} {σ : Nat → Int32} {d : Nat} {S : xSea} {H0 : zp_H} (hS : xOk S) (hC : xSC 22 H0 S) (hM : xCM 22 H0 S) {s kk : Int32} (hs : 0 ≤ s.toInt ∧ s.toInt < 8) (hk : 0 ≤ kk.toInt ∧ kk.toInt ≤ 8) (hw : ∀ j, j < kk.toInt.toNat → 0 ≤ (H0.2.1 38 (8 * s.toInt.toNat + j)).toInt ∧ (H0.2.1 38 (8 * s.toInt.toNat + j)).toInt ≤ 3) (hcl : 0 ≤ (H0.2.1 34 s.toInt.toNat).toInt ∧ (H0.2.1 34 s.toInt.toNat).toInt ≤ 63) (W : zw_W H0) : ∃ Z, zp_Call L σ (d + 6) 124 [.inr (.inr (some 56)), .inr (.inr (some 23)), .inr (.inr (some 34)), .inl s, .inl kk] H0 Z ∧ ∃ H1 v, Z = (.inl (some (.inr (.inl v))), H1) ∧ xFv 55 H0 H1 ∧ ∀ k, k < 64 → (yTb v k = true ↔ ∃ h : Nat, xMay S (H0.2.1 35 s.toInt.toNat).toInt (H0.2.1 34 s.toInt.toNat).toInt.toNat (fun m => xRb (H0.2.1 37 s.toInt.toNat) (Int32.ofInt (m : Int))) (fun m => H0.2.1 38 (8 * s.toInt.toNat + m)) (fun m => H0.2.1 39 (8 * s.toInt.toNat + m)) kk.toInt.toNat h k) := by
  refine zw_met zm_124_t rfl rfl ?_
  refine zw_ld (n := 1) (k := 2) (f := zp_isR) (pc' := 1) rfl rfl rfl rfl rfl ?_
  refine zw_gR (q := 33) (pc' := 4) W rfl rfl rfl rfl (W.2 33 2 _ rfl) rfl ?_
  refine zw_ld (n := 1) (k := 3) (f := zp_isI) (pc' := 5) rfl rfl rfl rfl rfl ?_
  refine zw_ia (q := 35) (pc' := 6) W rfl rfl (by decide) (⟨hs.1, by show _ < ((8 : Nat) : Int); omega⟩) rfl rfl ?_
  refine zw_s (pc' := 7) rfl rfl ?_
  refine zw_iand (pc' := 8) rfl rfl ?_
  refine zw_bne1 (g := 15) (pc' := 11) rfl rfl rfl rfl (fun h1 => ?_) (fun h1 => ?_)
  · have h1 : ¬ ((H0.2.1 35 s.toInt.toNat) &&& Int32.ofInt 1).toInt = 0 := h1
    have hv : ¬ (H0.2.1 35 s.toInt.toNat).toInt % 2 = 0 := fun h9 => h1 (x_ev.mpr h9)
    refine zw_s (pc' := 16) rfl rfl ?_
    refine zw_st (n := 2) (k := 5) (f := zp_isI) (pc' := 18) rfl rfl rfl rfl rfl ?_
    refine zw_ld (n := 1) (k := 0) (f := zp_isR) (pc' := 19) rfl rfl (zw_gt rfl rfl rfl) rfl rfl ?_
    refine zw_ld (n := 2) (k := 5) (f := zp_isI) (pc' := 21) rfl rfl zw_g1 rfl rfl ?_
    refine zw_beq1 (g := 36) (pc' := 24) rfl rfl rfl (rfl : _ = (0 : Int)) (fun h7 => ?_) (fun h9 => absurd h9 (by decide))
    refine zw_s (pc' := 37) rfl rfl ?_
    refine zw_pL (q := 55) (pc' := 40) W rfl rfl rfl rfl rfl rfl ?_
    refine zw_ld (n := 1) (k := 0) (f := zp_isR) (pc' := 41) rfl rfl (zw_gt rfl rfl rfl) rfl rfl ?_
    refine zw_ld (n := 2) (k := 5) (f := zp_isI) (pc' := 43) rfl rfl zw_g1 rfl rfl ?_
    refine zw_beq1 (g := 50) (pc' := 46) rfl rfl rfl (rfl : _ = (0 : Int)) (fun h7 => ?_) (fun h9 => absurd h9 (by decide))
    refine zw_ld (n := 1) (k := 2) (f := zp_isR) (pc' := 51) rfl rfl (zw_gt rfl rfl rfl) rfl rfl ?_
    refine zw_gR (q := 33) (pc' := 54) (zw_W_J W) rfl rfl rfl rfl ((zw_W_J W).2 33 1 _ rfl) rfl ?_
    refine zw_ld (n := 1) (k := 3) (f := zp_isI) (pc' := 55) rfl rfl (zw_gt rfl rfl rfl) rfl rfl ?_
    refine zw_ia (q := 34) (pc' := 56) (zw_W_J W) rfl rfl (by decide) (⟨hs.1, by show _ < ((8 : Nat) : Int); omega⟩) (zw_nj rfl) rfl ?_
    refine zw_cx (pc' := 59) (zw_csx (Y := zm_4) rfl rfl zm_4_t) rfl rfl rfl rfl rfl (zn_bit) ?_
    refine zw_pL (q := 55) (pc' := 62) (zw_W_J W) rfl rfl rfl rfl rfl rfl ?_
    refine zw_s (pc' := 63) rfl rfl ?_
    refine zw_st (n := 2) (k := 6) (f := zp_isI) (pc' := 65) rfl rfl rfl rfl rfl ?_
    refine yc_cbL22 (H0 := H0) (s := s) (kk := kk) hS hC hM hs hk hw kk.toInt.toNat (zw_J (zw_J H0 55 0 (Int64.ofNat 0)) 55 1 (za_shl0 (Int64.ofNat 1) (H0.2.1 34 s.toInt.toNat))) _ (Int32.ofInt 0) 0 (zw_W_J (zw_W_J W)) (xFv_J (xFv_J (xFv_r H0))) ?_ (by decide) (Nat.zero_add _) (zw_gt (zw_gt rfl rfl rfl) rfl rfl) (zw_gt (zw_gt rfl rfl rfl) rfl rfl) (zw_gt (zw_gt rfl rfl rfl) rfl rfl) (zw_gt (zw_gt rfl rfl rfl) rfl rfl) (zw_gt (zw_gt rfl rfl rfl) rfl rfl) zw_g1 (fun H1 w1 w2 v w3 w4 => ⟨H1, v, rfl, w2, by rw [w3]; exact xCL_v w4⟩)
    rw [show (zw_J (zw_J H0 55 0 (Int64.ofNat 0)) 55 1 (za_shl0 (Int64.ofNat 1) (H0.2.1 34 s.toInt.toNat))).2.2.1 55 0 = (Int64.ofNat 0) from xJJ0, show (zw_J (zw_J H0 55 0 (Int64.ofNat 0)) 55 1 (za_shl0 (Int64.ofNat 1) (H0.2.1 34 s.toInt.toNat))).2.2.1 55 1 = (za_shl0 (Int64.ofNat 1) (H0.2.1 34 s.toInt.toNat)) from xJJ1]
    refine ⟨fun k hk9 => ?_, fun k hk9 => ?_⟩
    · rw [tb_0]
      exact ⟨fun h9 => (by cases h9), fun ⟨g, g1, g2⟩ => by have g3 := g2.1; omega⟩
    · rw [tb_bit hcl hk9, decide_eq_true_iff]
      exact ⟨fun h9 => ⟨0, by omega, rfl, h9⟩, fun ⟨g, _, g2⟩ => g2.2⟩
  · have h1 : ((H0.2.1 35 s.toInt.toNat) &&& Int32.ofInt 1).toInt = 0 := h1
    have hv : (H0.2.1 35 s.toInt.toNat).toInt % 2 = 0 := x_ev.mp h1
    refine zw_s (pc' := 12) rfl rfl ?_
    refine zw_s (pc' := 16) rfl rfl ?_
    refine zw_st (n := 2) (k := 5) (f := zp_isI) (pc' := 18) rfl rfl rfl rfl rfl ?_
    refine zw_ld (n := 1) (k := 0) (f := zp_isR) (pc' := 19) rfl rfl (zw_gt rfl rfl rfl) rfl rfl ?_
    refine zw_ld (n := 2) (k := 5) (f := zp_isI) (pc' := 21) rfl rfl zw_g1 rfl rfl ?_
    refine zw_beq1 (g := 36) (pc' := 24) rfl rfl rfl (rfl : _ = (1 : Int)) (fun h9 => absurd h9 (by decide)) (fun h7 => ?_)
    refine zw_ld (n := 1) (k := 2) (f := zp_isR) (pc' := 25) rfl rfl (zw_gt rfl rfl rfl) rfl rfl ?_
    refine zw_gR (q := 33) (pc' := 28) W rfl rfl rfl rfl (W.2 33 1 _ rfl) rfl ?_
    refine zw_ld (n := 1) (k := 3) (f := zp_isI) (pc' := 29) rfl rfl (zw_gt rfl rfl rfl) rfl rfl ?_
    refine zw_ia (q := 34) (pc' := 30) W rfl rfl (by decide) (⟨hs.1, by show _ < ((8 : Nat) : Int); omega⟩) rfl rfl ?_
    refine zw_cx (pc' := 33) (zw_csx (Y := zm_4) rfl rfl zm_4_t) rfl rfl rfl rfl rfl (zn_bit) ?_
    refine zw_s (pc' := 37) rfl rfl ?_
    refine zw_pL (q := 55) (pc' := 40) W rfl rfl rfl rfl rfl rfl ?_
    refine zw_ld (n := 1) (k := 0) (f := zp_isR) (pc' := 41) rfl rfl (zw_gt rfl rfl rfl) rfl rfl ?_
    refine zw_ld (n := 2) (k := 5) (f := zp_isI) (pc' := 43) rfl rfl zw_g1 rfl rfl ?_
    refine zw_beq1 (g := 50) (pc' := 46) rfl rfl rfl (rfl : _ = (1 : Int)) (fun h9 => absurd h9 (by decide)) (fun h7 => ?_)
    refine zw_s (pc' := 47) rfl rfl ?_
    refine zw_s (pc' := 59) rfl rfl ?_
    refine zw_pL (q := 55) (pc' := 62) (zw_W_J W) rfl rfl rfl rfl rfl rfl ?_
    refine zw_s (pc' := 63) rfl rfl ?_
    refine zw_st (n := 2) (k := 6) (f := zp_isI) (pc' := 65) rfl rfl rfl rfl rfl ?_
    refine yc_cbL22 (H0 := H0) (s := s) (kk := kk) hS hC hM hs hk hw kk.toInt.toNat (zw_J (zw_J H0 55 0 (za_shl0 (Int64.ofNat 1) (H0.2.1 34 s.toInt.toNat))) 55 1 (Int64.ofNat 0)) _ (Int32.ofInt 0) 0 (zw_W_J (zw_W_J W)) (xFv_J (xFv_J (xFv_r H0))) ?_ (by decide) (Nat.zero_add _) (zw_gt (zw_gt rfl rfl rfl) rfl rfl) (zw_gt (zw_gt rfl rfl rfl) rfl rfl) (zw_gt (zw_gt rfl rfl rfl) rfl rfl) (zw_gt (zw_gt rfl rfl rfl) rfl rfl) (zw_gt (zw_gt rfl rfl rfl) rfl rfl) zw_g1 (fun H1 w1 w2 v w3 w4 => ⟨H1, v, rfl, w2, by rw [w3]; exact xCL_v w4⟩)
    rw [show (zw_J (zw_J H0 55 0 (za_shl0 (Int64.ofNat 1) (H0.2.1 34 s.toInt.toNat))) 55 1 (Int64.ofNat 0)).2.2.1 55 0 = (za_shl0 (Int64.ofNat 1) (H0.2.1 34 s.toInt.toNat)) from xJJ0, show (zw_J (zw_J H0 55 0 (za_shl0 (Int64.ofNat 1) (H0.2.1 34 s.toInt.toNat))) 55 1 (Int64.ofNat 0)).2.2.1 55 1 = (Int64.ofNat 0) from xJJ1]
    refine ⟨fun k hk9 => ?_, fun k hk9 => ?_⟩
    · rw [tb_bit hcl hk9, decide_eq_true_iff]
      exact ⟨fun h9 => ⟨0, by omega, rfl, h9⟩, fun ⟨g, _, g2⟩ => g2.2⟩
    · rw [tb_0]
      exact ⟨fun h9 => (by cases h9), fun ⟨g, g1, g2⟩ => by have g3 := g2.1; omega⟩
