/-! ===== sets of slates as numbers ===== -/

theorem tm_z : Int32.ofInt 0 = Int32.ofNat 0 := Int32.toInt_inj.mp (by decide)
theorem tm_and {a b : Nat} : Int32.ofNat a &&& Int32.ofNat b = Int32.ofNat (a &&& b) := by
  show Int32.ofBitVec (BitVec.ofNat 32 a) &&& Int32.ofBitVec (BitVec.ofNat 32 b) = Int32.ofBitVec (BitVec.ofNat 32 (a &&& b))
  rw [BitVec.ofNat_and]
  rfl
theorem tm_or {a b : Nat} : Int32.ofNat a ||| Int32.ofNat b = Int32.ofNat (a ||| b) := by
  show Int32.ofBitVec (BitVec.ofNat 32 a) ||| Int32.ofBitVec (BitVec.ofNat 32 b) = Int32.ofBitVec (BitVec.ofNat 32 (a ||| b))
  rw [BitVec.ofNat_or]
  rfl
theorem tm_to {a : Nat} (h : a < 256) : (Int32.ofNat a).toInt = (a : Int) := Int32.toInt_ofNat_of_lt (by show a < 2147483648; omega)
theorem tm_0 {a : Nat} (h : a < 256) : (Int32.ofNat a).toInt = 0 ↔ a = 0 := by
  rw [tm_to h]
  omega
theorem tm_8 {a s : Nat} (h : a < 256) (hb : a.testBit s = true) : s < 8 := by
  refine Nat.lt_of_not_le (fun h9 => ?_)
  have h7 : (2 : Nat) ^ 8 ≤ 2 ^ s := Nat.pow_le_pow_right (by decide) h9
  rw [Nat.testBit_lt_two_pow (Nat.lt_of_lt_of_le h h7)] at hb
  cases hb
theorem tm_f8 {a s : Nat} (h : a < 256) (hs : ¬ s < 8) : a.testBit s = false := by
  cases hb : a.testBit s with
  | true => exact absurd (tm_8 h hb) hs
  | false => rfl
theorem tm_x {x : Int32} (h : 0 ≤ x.toInt ∧ x.toInt ≤ 255) : ∃ a, a < 256 ∧ x = Int32.ofNat a := by
  obtain ⟨a, h1, h2⟩ := zq_i (n := 0) (m := 256) (x := x) (by omega) (by omega) (by decide)
  exact ⟨a, h1, h2⟩
theorem tm_o {x : Int32} (h : 0 ≤ x.toInt) : x = Int32.ofNat x.toInt.toNat := by
  have h1 : x.toInt ≤ 2147483647 := Int32.toInt_le x
  exact Int32.toInt_inj.mp (by rw [Int32.toInt_ofNat_of_lt (by show _ < 2147483648; omega)]; omega)
/-- how many; without one -/
def tC (a : Nat) : Nat := (yIb (Int32.ofNat a)).toInt.toNat
def tc (a g : Nat) : Nat := a &&& (255 - 2 ^ g)
theorem tC_0 : tC 0 = 0 := by decide +kernel
theorem tC_t : (List.range 256).all (fun a => decide ((yIb (Int32.ofNat a)).toInt = ((tC a : Nat) : Int) ∧ tC a ≤ 8)) = true := by decide +kernel
theorem tC_b {a : Nat} (h : a < 256) : (yIb (Int32.ofNat a)).toInt = ((tC a : Nat) : Int) ∧ tC a ≤ 8 := of_decide_eq_true (List.all_eq_true.mp tC_t a (List.mem_range.mpr h))
theorem tm_cl_t : (List.range 256).all (fun a => (List.range 8).all (fun g => (decide ((Int32.ofNat a &&& (Int32.ofInt 1 <<< (Int32.ofNat g &&& 31) ^^^ Int32.ofInt (-1))).toInt = ((tc a g : Nat) : Int))).and ((decide (tc a g < 256)).and (((List.range 8).all (fun s => decide ((tc a g).testBit s = (a.testBit s && decide (s ≠ g))))).and (decide (a.testBit g = true → tC (tc a g) + 1 = tC a)))))) = true := by decide +kernel
theorem tm_cl {a g : Nat} (ha : a < 256) (hg : g < 8) : (Int32.ofNat a &&& (Int32.ofInt 1 <<< (Int32.ofNat g &&& 31) ^^^ Int32.ofInt (-1))) = Int32.ofNat (tc a g) ∧ tc a g < 256 ∧ (∀ s, (tc a g).testBit s = (a.testBit s && decide (s ≠ g))) ∧ (a.testBit g = true → tC (tc a g) + 1 = tC a) := by
  have t0 := List.all_eq_true.mp tm_cl_t a (List.mem_range.mpr ha)
  have t := List.all_eq_true.mp t0 g (List.mem_range.mpr hg)
  obtain ⟨t1, t2⟩ := Bool.and_eq_true_iff.mp t
  obtain ⟨t2, t3⟩ := Bool.and_eq_true_iff.mp t2
  obtain ⟨t3, t4⟩ := Bool.and_eq_true_iff.mp t3
  have b : tc a g < 256 := of_decide_eq_true t2
  refine ⟨Int32.toInt_inj.mp ((of_decide_eq_true t1).trans (tm_to b).symm), b, fun s => ?_, of_decide_eq_true t4⟩
  by_cases hs : s < 8
  · exact of_decide_eq_true (List.all_eq_true.mp t3 s (List.mem_range.mpr hs))
  · rw [tm_f8 b hs, tm_f8 ha hs]
    rfl
theorem tm_nz_t : (List.range 255).all (fun n => (decide ((zq_n0 (Int32.ofNat (n + 1))).toInt.toNat < 8)).and ((decide ((n + 1).testBit (zq_n0 (Int32.ofNat (n + 1))).toInt.toNat = true)).and ((List.range 8).all (fun s => decide (s < (zq_n0 (Int32.ofNat (n + 1))).toInt.toNat → (n + 1).testBit s = false))))) = true := by decide +kernel
theorem tm_nz {a : Nat} (h : a ≠ 0) (ha : a < 256) : ∃ g, g < 8 ∧ zq_n0 (Int32.ofNat a) = Int32.ofNat g ∧ a.testBit g = true ∧ ∀ s, s < g → a.testBit s = false := by
  obtain ⟨n, rfl⟩ : ∃ n, a = n + 1 := ⟨a - 1, by omega⟩
  have hn : n < 255 := by omega
  obtain ⟨z1, z2⟩ := zq_ntz_ok hn
  have t := List.all_eq_true.mp tm_nz_t n (List.mem_range.mpr hn)
  obtain ⟨t1, t2⟩ := Bool.and_eq_true_iff.mp t
  obtain ⟨t2, t3⟩ := Bool.and_eq_true_iff.mp t2
  have t1 : (zq_n0 (Int32.ofNat (n + 1))).toInt.toNat < 8 := of_decide_eq_true t1
  exact ⟨(zq_n0 (Int32.ofNat (n + 1))).toInt.toNat, t1, tm_o z1, of_decide_eq_true t2, fun s hs => (show s < (zq_n0 (Int32.ofNat (n + 1))).toInt.toNat → (n + 1).testBit s = false from of_decide_eq_true (List.all_eq_true.mp t3 s (List.mem_range.mpr (by omega)))) hs⟩
theorem tm_bt_t : (List.range 256).all (fun a => (List.range 8).all (fun s => decide ((Int32.ofNat a >>> (Int32.ofNat s &&& 31) &&& Int32.ofInt 1).toInt = 0 ↔ a.testBit s = false))) = true := by decide +kernel
theorem tm_bt {a : Nat} {s : Int32} (ha : a < 256) (h0 : 0 ≤ s.toInt) (h8 : s.toInt < 8) : (Int32.ofNat a >>> (s &&& 31) &&& Int32.ofInt 1).toInt = 0 ↔ a.testBit s.toInt.toNat = false := by
  have t0 := List.all_eq_true.mp tm_bt_t a (List.mem_range.mpr ha)
  have t : (Int32.ofNat a >>> (Int32.ofNat s.toInt.toNat &&& 31) &&& Int32.ofInt 1).toInt = 0 ↔ a.testBit s.toInt.toNat = false := of_decide_eq_true (List.all_eq_true.mp t0 s.toInt.toNat (List.mem_range.mpr (by omega)))
  rw [← tm_o h0] at t
  exact t
theorem tm_sh_t : (List.range 8).all (fun s => decide ((Int32.ofInt 1 <<< (Int32.ofNat s &&& 31)).toInt = (((2 ^ s : Nat)) : Int))) = true := by decide +kernel
theorem tm_p2 {s : Nat} (h : s < 8) : 2 ^ s < 256 := by
  have h7 : (2 : Nat) ^ s ≤ 2 ^ 7 := Nat.pow_le_pow_right (by decide) (by omega)
  omega
theorem tm_sh {s : Int32} (h0 : 0 ≤ s.toInt) (h8 : s.toInt < 8) : Int32.ofInt 1 <<< (s &&& 31) = Int32.ofNat (2 ^ s.toInt.toNat) := by
  have t : (Int32.ofInt 1 <<< (Int32.ofNat s.toInt.toNat &&& 31)).toInt = (((2 ^ s.toInt.toNat : Nat)) : Int) := of_decide_eq_true (List.all_eq_true.mp tm_sh_t s.toInt.toNat (List.mem_range.mpr (by omega)))
  rw [← tm_o h0] at t
  exact Int32.toInt_inj.mp (t.trans (tm_to (tm_p2 (by omega))).symm)
theorem tm_o2 {a b : Nat} (ha : a < 256) (hb : b < 256) : a ||| b < 256 := Nat.or_lt_two_pow (n := 8) ha hb
theorem tm_ob {a b j : Nat} : (a ||| b).testBit j = true ↔ (a.testBit j = true ∨ b.testBit j = true) := by
  rw [Nat.testBit_or, Bool.or_eq_true]
theorem tm_pb {g j : Nat} : (2 ^ g).testBit j = true ↔ j = g := by
  rw [Nat.testBit_two_pow]
  exact ⟨fun h => (of_decide_eq_true h).symm, fun h => decide_eq_true h.symm⟩
theorem tm_ad {a : Nat} {s : Int32} (ha : a < 256) (h0 : 0 ≤ s.toInt) (h8 : s.toInt < 8) : Int32.ofNat a ||| Int32.ofInt 1 <<< (s &&& 31) = Int32.ofNat (a ||| 2 ^ s.toInt.toNat) ∧ a ||| 2 ^ s.toInt.toNat < 256 ∧ ∀ j, (a ||| 2 ^ s.toInt.toNat).testBit j = true ↔ (a.testBit j = true ∨ j = s.toInt.toNat) := by
  refine ⟨by rw [tm_sh h0 h8, tm_or], tm_o2 ha (tm_p2 (by omega)), fun j => ?_⟩
  rw [tm_ob, tm_pb]
/-- the slates for which f holds -/
def tBn (f : Nat → Bool) : Nat → Int32 → Int32 → Int32
  | 0, _, v => v
  | n + 1, s, v => tBn f n (s + Int32.ofInt 1) (if f s.toInt.toNat = true then v ||| Int32.ofInt 1 <<< (s &&& 31) else v)
theorem tBn_y {f : Nat → Bool} {n : Nat} {s v : Int32} (h : f s.toInt.toNat = true) : tBn f (n + 1) s v = tBn f n (s + Int32.ofInt 1) (v ||| Int32.ofInt 1 <<< (s &&& 31)) := by
  show tBn f n (s + Int32.ofInt 1) (if _ then _ else _) = _
  rw [if_pos h]
theorem tBn_n {f : Nat → Bool} {n : Nat} {s v : Int32} (h : ¬ f s.toInt.toNat = true) : tBn f (n + 1) s v = tBn f n (s + Int32.ofInt 1) v := by
  show tBn f n (s + Int32.ofInt 1) (if _ then _ else _) = _
  rw [if_neg h]
theorem tBn_m {f : Nat → Bool} : ∀ (n : Nat) (s : Int32) (a : Nat), a < 256 → 0 ≤ s.toInt → s.toInt + n ≤ 8 → ∃ b, b < 256 ∧ tBn f n s (Int32.ofNat a) = Int32.ofNat b ∧ ∀ j : Nat, b.testBit j = true ↔ (a.testBit j = true ∨ ((s.toInt ≤ (j : Int) ∧ (j : Int) < s.toInt + n) ∧ f j = true))
  | 0, s, a, ha, _, _ => ⟨a, ha, rfl, fun j => ⟨Or.inl, fun h => h.elim id (fun h9 => by have := h9.1; omega)⟩⟩
  | n + 1, s, a, ha, h0, h8 => by
    have e : (s + Int32.ofInt 1).toInt = s.toInt + 1 := zw_p1 (by omega)
    by_cases h9 : f s.toInt.toNat = true
    · obtain ⟨k1, k2, k3⟩ := tm_ad (a := a) (s := s) ha h0 (by omega)
      obtain ⟨b, b1, b2, b3⟩ := tBn_m n (s + Int32.ofInt 1) _ k2 (by omega) (by omega)
      refine ⟨b, b1, by rw [tBn_y h9, k1, b2], fun j => (b3 j).trans ?_⟩
      rw [k3 j, e]
      constructor
      · rintro ((h | h) | h)
        · exact Or.inl h
        · exact Or.inr ⟨by omega, by rw [h]; exact h9⟩
        · exact Or.inr ⟨by have := h.1; omega, h.2⟩
      · rintro (h | h)
        · exact Or.inl (Or.inl h)
        · by_cases hj : j = s.toInt.toNat
          · exact Or.inl (Or.inr hj)
          · exact Or.inr ⟨by have := h.1; omega, h.2⟩
    · obtain ⟨b, b1, b2, b3⟩ := tBn_m n (s + Int32.ofInt 1) a ha (by omega) (by omega)
      refine ⟨b, b1, by rw [tBn_n h9, b2], fun j => (b3 j).trans ?_⟩
      rw [e]
      constructor
      · rintro (h | h)
        · exact Or.inl h
        · exact Or.inr ⟨by have := h.1; omega, h.2⟩
      · rintro (h | h)
        · exact Or.inl h
        · by_cases hj : j = s.toInt.toNat
          · exact absurd (by rw [← hj]; exact h.2) h9
          · exact Or.inr ⟨by have := h.1; omega, h.2⟩
/-- the lessons of a set -/
def tLs (g : Nat → Int32) (set : Int32) : Nat → Int32 → Int32 → Int32
  | 0, _, v => v
  | n + 1, s, v => tLs g set n (s + Int32.ofInt 1) (if (set >>> (s &&& 31) &&& Int32.ofInt 1).toInt = 0 then v else v ||| g s.toInt.toNat)
theorem tLs_n {g : Nat → Int32} {set s v : Int32} {n : Nat} (h : (set >>> (s &&& 31) &&& Int32.ofInt 1).toInt = 0) : tLs g set (n + 1) s v = tLs g set n (s + Int32.ofInt 1) v := by
  show tLs g set n (s + Int32.ofInt 1) (if _ then _ else _) = _
  rw [if_pos h]
theorem tLs_y {g : Nat → Int32} {set s v : Int32} {n : Nat} (h : ¬ (set >>> (s &&& 31) &&& Int32.ofInt 1).toInt = 0) : tLs g set (n + 1) s v = tLs g set n (s + Int32.ofInt 1) (v ||| g s.toInt.toNat) := by
  show tLs g set n (s + Int32.ofInt 1) (if _ then _ else _) = _
  rw [if_neg h]
theorem tLs_m {g : Nat → Int32} {m : Nat → Nat} {a : Nat} (ha : a < 256) : ∀ (n : Nat) (s : Int32) (v : Nat), v < 256 → 0 ≤ s.toInt → s.toInt + n ≤ 8 → (∀ j : Nat, (j : Int) < s.toInt + n → g j = Int32.ofNat (m j) ∧ m j < 256) → ∃ b, b < 256 ∧ tLs g (Int32.ofNat a) n s (Int32.ofNat v) = Int32.ofNat b ∧ ∀ e : Nat, b.testBit e = true ↔ (v.testBit e = true ∨ ∃ j : Nat, (s.toInt ≤ (j : Int) ∧ (j : Int) < s.toInt + n) ∧ a.testBit j = true ∧ (m j).testBit e = true)
  | 0, s, v, hv, _, _, _ => ⟨v, hv, rfl, fun e => ⟨Or.inl, fun h => h.elim id (fun ⟨j, h9, _⟩ => by omega)⟩⟩
  | n + 1, s, v, hv, h0, h8, hg => by
    have e : (s + Int32.ofInt 1).toInt = s.toInt + 1 := zw_p1 (by omega)
    have hg' : ∀ j : Nat, (j : Int) < (s + Int32.ofInt 1).toInt + n → g j = Int32.ofNat (m j) ∧ m j < 256 := fun j hj => hg j (by omega)
    have bt := tm_bt (a := a) (s := s) ha h0 (by omega)
    by_cases h9 : (Int32.ofNat a >>> (s &&& 31) &&& Int32.ofInt 1).toInt = 0
    · obtain ⟨b, b1, b2, b3⟩ := tLs_m (g := g) ha n (s + Int32.ofInt 1) v hv (by omega) (by omega) hg'
      refine ⟨b, b1, by rw [tLs_n h9, b2], fun k => (b3 k).trans ?_⟩
      have f9 := bt.mp h9
      constructor
      · rintro (h | ⟨j, h1, h2⟩)
        · exact Or.inl h
        · exact Or.inr ⟨j, by omega, h2⟩
      · rintro (h | ⟨j, h1, h2⟩)
        · exact Or.inl h
        · refine Or.inr ⟨j, ?_, h2⟩
          by_cases hj : j = s.toInt.toNat
          · rw [hj, f9] at h2
            exact absurd h2.1 (by decide)
          · omega
    · have t9 : a.testBit s.toInt.toNat = true := by
        cases hb : a.testBit s.toInt.toNat with
        | true => rfl
        | false => exact absurd (bt.mpr hb) h9
      obtain ⟨g1, g2⟩ := hg s.toInt.toNat (by omega)
      obtain ⟨b, b1, b2, b3⟩ := tLs_m (g := g) ha n (s + Int32.ofInt 1) (v ||| m s.toInt.toNat) (tm_o2 hv g2) (by omega) (by omega) hg'
      refine ⟨b, b1, by rw [tLs_y h9, g1, tm_or, b2], fun k => (b3 k).trans ?_⟩
      rw [tm_ob]
      constructor
      · rintro ((h | h) | ⟨j, h1, h2⟩)
        · exact Or.inl h
        · exact Or.inr ⟨s.toInt.toNat, by omega, t9, h⟩
        · exact Or.inr ⟨j, by omega, h2⟩
      · rintro (h | ⟨j, h1, h2⟩)
        · exact Or.inl (Or.inl h)
        · by_cases hj : j = s.toInt.toNat
          · rw [hj] at h2
            exact Or.inl (Or.inr h2.2)
          · exact Or.inr ⟨j, by omega, h2⟩
/-- what a set teaches, bit by bit -/
def tI (u : Int64) (k : Nat) : Bool := u.toBitVec.getLsbD k
theorem tI_or {u v : Int64} {k : Nat} : tI (u ||| v) k = true ↔ (tI u k = true ∨ tI v k = true) := by
  unfold tI
  rw [Int64.toBitVec_or, BitVec.getLsbD_or, Bool.or_eq_true]
theorem tI_0 {k : Nat} : tI (Int64.ofNat 0) k = false := by
  show (BitVec.ofNat 64 0).getLsbD k = false
  exact BitVec.getLsbD_zero
theorem tI_e {u v : Int64} (h : ∀ k, tI u k = true ↔ tI v k = true) : u = v := by
  refine Int64.toBitVec_inj.mp (BitVec.eq_of_getLsbD_eq (fun k _ => ?_))
  exact Bool.eq_iff_iff.mpr (h k)
theorem tKn_b {f : Nat → Int64} {a : Nat} (ha : a < 256) : ∀ (n : Nat) (s : Int32) (u : Int64), 0 ≤ s.toInt → s.toInt + n ≤ 8 → ∀ k : Nat, tI (xKn f (Int32.ofNat a) n s u) k = true ↔ (tI u k = true ∨ ∃ j : Nat, (s.toInt ≤ (j : Int) ∧ (j : Int) < s.toInt + n) ∧ a.testBit j = true ∧ tI (f j) k = true)
  | 0, s, u, _, _, k => ⟨Or.inl, fun h => h.elim id (fun ⟨j, h9, _⟩ => by omega)⟩
  | n + 1, s, u, h0, h8, k => by
    have e : (s + Int32.ofInt 1).toInt = s.toInt + 1 := zw_p1 (by omega)
    have bt := tm_bt (a := a) (s := s) ha h0 (by omega)
    by_cases h9 : (Int32.ofNat a >>> (s &&& 31) &&& Int32.ofInt 1).toInt = 0
    · rw [xKn_n h9]
      refine (tKn_b ha n (s + Int32.ofInt 1) u (by omega) (by omega) k).trans ?_
      have f9 := bt.mp h9
      constructor
      · rintro (h | ⟨j, h1, h2⟩)
        · exact Or.inl h
        · exact Or.inr ⟨j, by omega, h2⟩
      · rintro (h | ⟨j, h1, h2⟩)
        · exact Or.inl h
        · refine Or.inr ⟨j, ?_, h2⟩
          by_cases hj : j = s.toInt.toNat
          · rw [hj, f9] at h2
            exact absurd h2.1 (by decide)
          · omega
    · have t9 : a.testBit s.toInt.toNat = true := by
        cases hb : a.testBit s.toInt.toNat with
        | true => rfl
        | false => exact absurd (bt.mpr hb) h9
      rw [xKn_y h9]
      refine (tKn_b ha n (s + Int32.ofInt 1) _ (by omega) (by omega) k).trans ?_
      rw [tI_or]
      constructor
      · rintro ((h | h) | ⟨j, h1, h2⟩)
        · exact Or.inl h
        · exact Or.inr ⟨s.toInt.toNat, by omega, t9, h⟩
        · exact Or.inr ⟨j, by omega, h2⟩
      · rintro (h | ⟨j, h1, h2⟩)
        · exact Or.inl (Or.inl h)
        · by_cases hj : j = s.toInt.toNat
          · rw [hj] at h2
            exact Or.inl (Or.inr h2.2)
          · exact Or.inr ⟨j, by omega, h2⟩
/-- a lesson, as a number -/
theorem tLo_L {f : Nat → Int64} {s : Int32} (hs : 0 ≤ s.toInt ∧ s.toInt < 8) : ∀ (n : Nat) (e : Int32), 0 ≤ e.toInt → e.toInt + n = s.toInt → ∃ g : Nat, (g : Int) ≤ s.toInt ∧ xLoL f s n e = Int32.ofNat (2 ^ g) ∧ f g = f s.toInt.toNat
  | 0, e, _, _ => ⟨s.toInt.toNat, by omega, tm_sh hs.1 hs.2, rfl⟩
  | n + 1, e, h0, hn => by
    have e1 : (e + Int32.ofInt 1).toInt = e.toInt + 1 := zw_p1 (by omega)
    by_cases h : (lg_cmp (f e.toInt.toNat) (f s.toInt.toNat)).toInt = 0
    · exact ⟨e.toInt.toNat, by omega, (xLoL_y h).trans (tm_sh h0 (by omega)), y_cmp.mp h⟩
    · obtain ⟨g, g1, g2, g3⟩ := tLo_L hs n (e + Int32.ofInt 1) (by omega) (by omega)
      exact ⟨g, g1, (xLoL_n h).trans g2, g3⟩
theorem tLo {f : Nat → Int64} {s : Nat} (hs : s < 8) : ∃ m, m < 256 ∧ xLo f (Int32.ofNat s) = Int32.ofNat m ∧ (∀ e, m.testBit e = true → e ≤ s ∧ f e = f s) ∧ (f s = Int64.ofNat 0 ∨ ∃ e, m.testBit e = true) := by
  have t : (Int32.ofNat s).toInt = (s : Int) := tm_to (by omega)
  have tn : (Int32.ofNat s).toInt.toNat = s := by omega
  unfold xLo
  rw [tn]
  by_cases h : (lg_cmp (f s) (Int64.ofNat 0)).toInt = 0
  · rw [if_pos h]
    exact ⟨0, by decide, tm_z, fun e he => absurd he (by rw [Nat.zero_testBit]; decide), Or.inl (y_cmp.mp h)⟩
  · rw [if_neg h]
    obtain ⟨g, g1, g2, g3⟩ := tLo_L (f := f) (s := Int32.ofNat s) ⟨by omega, by omega⟩ s (Int32.ofInt 0) (by decide) (by rw [show (Int32.ofInt 0).toInt = 0 by decide]; omega)
    rw [tn] at g3
    refine ⟨2 ^ g, tm_p2 (by omega), g2, fun e he => ?_, Or.inr ⟨g, tm_pb.mpr rfl⟩⟩
    rw [tm_pb.mp he]
    exact ⟨by omega, g3⟩
/-- a set teaches what its lessons teach -/
theorem tKn_l {f : Nat → Int64} {g : Nat → Int32} {a n l : Nat} (ha : a < 256) (hl : l < 256) (hn : n ≤ 8) (hg : ∀ s, s < n → g s = xLo f (Int32.ofNat s)) (h : tLs g (Int32.ofNat a) n (Int32.ofInt 0) (Int32.ofInt 0) = Int32.ofNat l) : xKn f (Int32.ofNat l) n (Int32.ofInt 0) (Int64.ofNat 0) = xKn f (Int32.ofNat a) n (Int32.ofInt 0) (Int64.ofNat 0) := by
  have z0 : (Int32.ofInt 0).toInt = 0 := by decide
  have hm : ∀ s, ∃ m, s < n → m < 256 ∧ xLo f (Int32.ofNat s) = Int32.ofNat m ∧ (∀ e, m.testBit e = true → e ≤ s ∧ f e = f s) ∧ (f s = Int64.ofNat 0 ∨ ∃ e, m.testBit e = true) := fun s => by
    by_cases hs : s < n
    · obtain ⟨m, hm⟩ := tLo (f := f) (s := s) (by omega)
      exact ⟨m, fun _ => hm⟩
    · exact ⟨0, fun h9 => absurd h9 hs⟩
  have hm9 : ∃ m : Nat → Nat, ∀ s, s < n → m s < 256 ∧ xLo f (Int32.ofNat s) = Int32.ofNat (m s) ∧ (∀ e, (m s).testBit e = true → e ≤ s ∧ f e = f s) ∧ (f s = Int64.ofNat 0 ∨ ∃ e, (m s).testBit e = true) := ⟨fun s => Classical.choose (hm s), fun s => Classical.choose_spec (hm s)⟩
  obtain ⟨m, hm⟩ := hm9
  obtain ⟨b, b1, b2, b3⟩ := tLs_m (g := g) (m := m) ha n (Int32.ofInt 0) 0 (by decide) (by decide) (by rw [z0]; omega) (fun j hj => by
    rw [z0] at hj
    obtain ⟨k1, k2, -⟩ := hm j (by omega)
    exact ⟨(hg j (by omega)).trans k2, k1⟩)
  have eb : b = l := by
    rw [← tm_z] at b2
    have e : Int32.ofNat b = Int32.ofNat l := b2.symm.trans h
    have e := congrArg Int32.toInt e
    rw [tm_to b1, tm_to hl] at e
    omega
  rw [eb, z0] at b3
  refine tI_e (fun k => ?_)
  have q1 := tKn_b (f := f) hl n (Int32.ofInt 0) (Int64.ofNat 0) (by decide) (by rw [z0]; omega) k
  have q2 := tKn_b (f := f) ha n (Int32.ofInt 0) (Int64.ofNat 0) (by decide) (by rw [z0]; omega) k
  rw [tI_0, z0] at q1 q2
  refine q1.trans (Iff.trans ?_ q2.symm)
  constructor
  · rintro (h9 | ⟨e, h1, h2, h3⟩)
    · cases h9
    · rcases (b3 e).mp h2 with h9 | ⟨j, k1, k2, k3⟩
      · rw [Nat.zero_testBit] at h9
        cases h9
      · obtain ⟨-, -, k4, -⟩ := hm j (by omega)
        refine Or.inr ⟨j, k1, k2, ?_⟩
        rw [← (k4 e k3).2]
        exact h3
  · rintro (h9 | ⟨j, h1, h2, h3⟩)
    · cases h9
    · obtain ⟨-, -, k4, k5⟩ := hm j (by omega)
      rcases k5 with k5 | ⟨e, k5⟩
      · rw [k5, tI_0] at h3
        cases h3
      · have k6 := k4 e k5
        refine Or.inr ⟨e, by omega, (b3 e).mpr (Or.inr ⟨j, h1, h2, k5⟩), ?_⟩
        rw [k6.2]
        exact h3

theorem yc_ntz {L : Nat} {σ : Nat → Int32} {d : Nat} {H : zp_H} {x : Int32} (hx : 1 ≤ x.toInt ∧ x.toInt ≤ 255) : ∃ X, zp_Call L σ (d + 1) 147 [.inl x] H X ∧ (fun X : zp_X => ∃ v : Int32, X = (.inl (some (.inl v)), H) ∧ v = zq_n0 x) X := by
  obtain ⟨n, hn, rfl⟩ := zq_i (n := 1) (m := 255) (x := x) (by omega) (by omega) (by decide)
  refine zw_met zm_147_t rfl rfl ?_
  refine zw_ld (n := 1) (k := 0) (f := zp_isI) (pc' := 1) rfl rfl rfl rfl rfl ?_
  refine zw_s (pc' := 2) rfl rfl ?_
  refine zw_ixor (pc' := 3) rfl rfl ?_
  refine zw_ld (n := 1) (k := 0) (f := zp_isI) (pc' := 4) rfl rfl rfl rfl rfl ?_
  refine zw_s (pc' := 5) rfl rfl ?_
  refine zw_isub (pc' := 6) rfl rfl ?_
  refine zw_iand (pc' := 7) rfl rfl ?_
  refine zw_st (n := 1) (k := 0) (f := zp_isI) (pc' := 8) rfl rfl rfl rfl rfl ?_
  refine zw_ld (n := 1) (k := 0) (f := zp_isI) (pc' := 9) rfl rfl zw_g1 rfl rfl ?_
  refine zw_bgt1 (g := 17) (pc' := 12) rfl rfl rfl rfl (fun hb0 => ?_) (fun hb0 => ?_)
  · have hz0 : zq_n0 (Int32.ofNat (n + 1)) = zq_n1 (((Int32.ofNat (n + 1) ^^^ Int32.ofInt (-1)) &&& (Int32.ofNat (n + 1) - Int32.ofInt 1))) (Int32.ofInt 1) := if_pos hb0
    refine zw_s (pc' := 18) rfl rfl ?_
    refine zw_st (n := 1) (k := 1) (f := zp_isI) (pc' := 19) rfl rfl rfl rfl rfl ?_
    refine zw_ld (n := 1) (k := 0) (f := zp_isI) (pc' := 20) rfl rfl (zw_gt zw_g1 rfl rfl) rfl rfl ?_
    refine zw_s (pc' := 23) rfl rfl ?_
    refine zw_ble2 (g := 34) (pc' := 26) rfl rfl rfl rfl (rfl : _ = (65536 : Int)) (fun hb1 => ?_) (fun hb1 => ?_)
    · have hz1 : zq_n1 (((Int32.ofNat (n + 1) ^^^ Int32.ofInt (-1)) &&& (Int32.ofNat (n + 1) - Int32.ofInt 1))) (Int32.ofInt 1) = zq_n2 (((Int32.ofNat (n + 1) ^^^ Int32.ofInt (-1)) &&& (Int32.ofNat (n + 1) - Int32.ofInt 1))) (Int32.ofInt 1) := if_pos hb1
      refine zw_ld (n := 1) (k := 0) (f := zp_isI) (pc' := 35) rfl rfl (zw_gt zw_g1 rfl rfl) rfl rfl ?_
      refine zw_s (pc' := 38) rfl rfl ?_
      refine zw_ble2 (g := 49) (pc' := 41) rfl rfl rfl rfl (rfl : _ = (256 : Int)) (fun hb2 => ?_) (fun hb2 => ?_)
      · have hz2 : zq_n2 (((Int32.ofNat (n + 1) ^^^ Int32.ofInt (-1)) &&& (Int32.ofNat (n + 1) - Int32.ofInt 1))) (Int32.ofInt 1) = zq_n3 (((Int32.ofNat (n + 1) ^^^ Int32.ofInt (-1)) &&& (Int32.ofNat (n + 1) - Int32.ofInt 1))) (Int32.ofInt 1) := if_pos hb2
        refine zw_ld (n := 1) (k := 0) (f := zp_isI) (pc' := 50) rfl rfl (zw_gt zw_g1 rfl rfl) rfl rfl ?_
        refine zw_s (pc' := 52) rfl rfl ?_
        refine zw_ble2 (g := 62) (pc' := 55) rfl rfl rfl rfl (rfl : _ = (16 : Int)) (fun hb3 => ?_) (fun hb3 => ?_)
        · have hz3 : zq_n3 (((Int32.ofNat (n + 1) ^^^ Int32.ofInt (-1)) &&& (Int32.ofNat (n + 1) - Int32.ofInt 1))) (Int32.ofInt 1) = zq_n4 (((Int32.ofNat (n + 1) ^^^ Int32.ofInt (-1)) &&& (Int32.ofNat (n + 1) - Int32.ofInt 1))) (Int32.ofInt 1) := if_pos hb3
          refine zw_ld (n := 1) (k := 0) (f := zp_isI) (pc' := 63) rfl rfl (zw_gt zw_g1 rfl rfl) rfl rfl ?_
          refine zw_s (pc' := 64) rfl rfl ?_
          refine zw_ble2 (g := 74) (pc' := 67) rfl rfl rfl rfl (rfl : _ = (4 : Int)) (fun hb4 => ?_) (fun hb4 => ?_)
          · have hz4 : zq_n4 (((Int32.ofNat (n + 1) ^^^ Int32.ofInt (-1)) &&& (Int32.ofNat (n + 1) - Int32.ofInt 1))) (Int32.ofInt 1) = zq_n5 (((Int32.ofNat (n + 1) ^^^ Int32.ofInt (-1)) &&& (Int32.ofNat (n + 1) - Int32.ofInt 1))) (Int32.ofInt 1) := if_pos hb4
            refine zw_ld (n := 1) (k := 1) (f := zp_isI) (pc' := 75) rfl rfl zw_g1 rfl rfl ?_
            refine zw_ld (n := 1) (k := 0) (f := zp_isI) (pc' := 76) rfl rfl (zw_gt zw_g1 rfl rfl) rfl rfl ?_
            refine zw_s (pc' := 77) rfl rfl ?_
            refine zw_s (pc' := 78) rfl rfl ?_
            refine zw_iadd (pc' := 79) rfl rfl ?_
            refine zw_ri rfl rfl ?_
            exact ⟨_, rfl, (hz0.trans (hz1.trans (hz2.trans (hz3.trans (hz4))))).symm⟩
          · have hz4 : zq_n4 (((Int32.ofNat (n + 1) ^^^ Int32.ofInt (-1)) &&& (Int32.ofNat (n + 1) - Int32.ofInt 1))) (Int32.ofInt 1) = zq_n5 (zq_us (((Int32.ofNat (n + 1) ^^^ Int32.ofInt (-1)) &&& (Int32.ofNat (n + 1) - Int32.ofInt 1))) (Int32.ofInt 2)) (Int32.ofInt 1 + Int32.ofInt 2) := if_neg (Int.not_le.mpr hb4)
            refine zw_ii (pc' := 70) rfl zw_g1 rfl rfl ?_
            refine zw_ld (n := 1) (k := 0) (f := zp_isI) (pc' := 71) rfl rfl (zw_gt (zw_gt zw_g1 rfl rfl) rfl rfl) rfl rfl ?_
            refine zw_s (pc' := 72) rfl rfl ?_
            refine zw_s (pc' := 73) rfl rfl ?_
            refine zw_st (n := 1) (k := 0) (f := zp_isI) (pc' := 74) rfl rfl rfl rfl rfl ?_
            refine zw_ld (n := 1) (k := 1) (f := zp_isI) (pc' := 75) rfl rfl (zw_gt zw_g1 rfl rfl) rfl rfl ?_
            refine zw_ld (n := 1) (k := 0) (f := zp_isI) (pc' := 76) rfl rfl zw_g1 rfl rfl ?_
            refine zw_s (pc' := 77) rfl rfl ?_
            refine zw_s (pc' := 78) rfl rfl ?_
            refine zw_iadd (pc' := 79) rfl rfl ?_
            refine zw_ri rfl rfl ?_
            exact ⟨_, rfl, (hz0.trans (hz1.trans (hz2.trans (hz3.trans (hz4))))).symm⟩
        · have hz3 : zq_n3 (((Int32.ofNat (n + 1) ^^^ Int32.ofInt (-1)) &&& (Int32.ofNat (n + 1) - Int32.ofInt 1))) (Int32.ofInt 1) = zq_n4 (zq_us (((Int32.ofNat (n + 1) ^^^ Int32.ofInt (-1)) &&& (Int32.ofNat (n + 1) - Int32.ofInt 1))) (Int32.ofInt 4)) (Int32.ofInt 1 + Int32.ofInt 4) := if_neg (Int.not_le.mpr hb3)
          refine zw_ii (pc' := 58) rfl zw_g1 rfl rfl ?_
          refine zw_ld (n := 1) (k := 0) (f := zp_isI) (pc' := 59) rfl rfl (zw_gt (zw_gt zw_g1 rfl rfl) rfl rfl) rfl rfl ?_
          refine zw_s (pc' := 60) rfl rfl ?_
          refine zw_s (pc' := 61) rfl rfl ?_
          refine zw_st (n := 1) (k := 0) (f := zp_isI) (pc' := 62) rfl rfl rfl rfl rfl ?_
          refine zw_ld (n := 1) (k := 0) (f := zp_isI) (pc' := 63) rfl rfl zw_g1 rfl rfl ?_
          refine zw_s (pc' := 64) rfl rfl ?_
          refine zw_ble2 (g := 74) (pc' := 67) rfl rfl rfl rfl (rfl : _ = (4 : Int)) (fun hb4 => ?_) (fun hb4 => ?_)
          · have hz4 : zq_n4 (zq_us (((Int32.ofNat (n + 1) ^^^ Int32.ofInt (-1)) &&& (Int32.ofNat (n + 1) - Int32.ofInt 1))) (Int32.ofInt 4)) (Int32.ofInt 1 + Int32.ofInt 4) = zq_n5 (zq_us (((Int32.ofNat (n + 1) ^^^ Int32.ofInt (-1)) &&& (Int32.ofNat (n + 1) - Int32.ofInt 1))) (Int32.ofInt 4)) (Int32.ofInt 1 + Int32.ofInt 4) := if_pos hb4
            refine zw_ld (n := 1) (k := 1) (f := zp_isI) (pc' := 75) rfl rfl (zw_gt zw_g1 rfl rfl) rfl rfl ?_
            refine zw_ld (n := 1) (k := 0) (f := zp_isI) (pc' := 76) rfl rfl zw_g1 rfl rfl ?_
            refine zw_s (pc' := 77) rfl rfl ?_
            refine zw_s (pc' := 78) rfl rfl ?_
            refine zw_iadd (pc' := 79) rfl rfl ?_
            refine zw_ri rfl rfl ?_
            exact ⟨_, rfl, (hz0.trans (hz1.trans (hz2.trans (hz3.trans (hz4))))).symm⟩
          · have hz4 : zq_n4 (zq_us (((Int32.ofNat (n + 1) ^^^ Int32.ofInt (-1)) &&& (Int32.ofNat (n + 1) - Int32.ofInt 1))) (Int32.ofInt 4)) (Int32.ofInt 1 + Int32.ofInt 4) = zq_n5 (zq_us (zq_us (((Int32.ofNat (n + 1) ^^^ Int32.ofInt (-1)) &&& (Int32.ofNat (n + 1) - Int32.ofInt 1))) (Int32.ofInt 4)) (Int32.ofInt 2)) (Int32.ofInt 1 + Int32.ofInt 4 + Int32.ofInt 2) := if_neg (Int.not_le.mpr hb4)
            refine zw_ii (pc' := 70) rfl (zw_gt zw_g1 rfl rfl) rfl rfl ?_
            refine zw_ld (n := 1) (k := 0) (f := zp_isI) (pc' := 71) rfl rfl (zw_gt zw_g1 rfl rfl) rfl rfl ?_
            refine zw_s (pc' := 72) rfl rfl ?_
            refine zw_s (pc' := 73) rfl rfl ?_
            refine zw_st (n := 1) (k := 0) (f := zp_isI) (pc' := 74) rfl rfl rfl rfl rfl ?_
            refine zw_ld (n := 1) (k := 1) (f := zp_isI) (pc' := 75) rfl rfl (zw_gt zw_g1 rfl rfl) rfl rfl ?_
            refine zw_ld (n := 1) (k := 0) (f := zp_isI) (pc' := 76) rfl rfl zw_g1 rfl rfl ?_
            refine zw_s (pc' := 77) rfl rfl ?_
            refine zw_s (pc' := 78) rfl rfl ?_
            refine zw_iadd (pc' := 79) rfl rfl ?_
            refine zw_ri rfl rfl ?_
            exact ⟨_, rfl, (hz0.trans (hz1.trans (hz2.trans (hz3.trans (hz4))))).symm⟩
      · have hz2 : zq_n2 (((Int32.ofNat (n + 1) ^^^ Int32.ofInt (-1)) &&& (Int32.ofNat (n + 1) - Int32.ofInt 1))) (Int32.ofInt 1) = zq_n3 (zq_us (((Int32.ofNat (n + 1) ^^^ Int32.ofInt (-1)) &&& (Int32.ofNat (n + 1) - Int32.ofInt 1))) (Int32.ofInt 8)) (Int32.ofInt 1 + Int32.ofInt 8) := if_neg (Int.not_le.mpr hb2)
        refine zw_ii (pc' := 44) rfl zw_g1 rfl rfl ?_
        refine zw_ld (n := 1) (k := 0) (f := zp_isI) (pc' := 45) rfl rfl (zw_gt (zw_gt zw_g1 rfl rfl) rfl rfl) rfl rfl ?_
        refine zw_s (pc' := 47) rfl rfl ?_
        refine zw_s (pc' := 48) rfl rfl ?_
        refine zw_st (n := 1) (k := 0) (f := zp_isI) (pc' := 49) rfl rfl rfl rfl rfl ?_
        refine zw_ld (n := 1) (k := 0) (f := zp_isI) (pc' := 50) rfl rfl zw_g1 rfl rfl ?_
        refine zw_s (pc' := 52) rfl rfl ?_
        refine zw_ble2 (g := 62) (pc' := 55) rfl rfl rfl rfl (rfl : _ = (16 : Int)) (fun hb3 => ?_) (fun hb3 => ?_)
        · have hz3 : zq_n3 (zq_us (((Int32.ofNat (n + 1) ^^^ Int32.ofInt (-1)) &&& (Int32.ofNat (n + 1) - Int32.ofInt 1))) (Int32.ofInt 8)) (Int32.ofInt 1 + Int32.ofInt 8) = zq_n4 (zq_us (((Int32.ofNat (n + 1) ^^^ Int32.ofInt (-1)) &&& (Int32.ofNat (n + 1) - Int32.ofInt 1))) (Int32.ofInt 8)) (Int32.ofInt 1 + Int32.ofInt 8) := if_pos hb3
          refine zw_ld (n := 1) (k := 0) (f := zp_isI) (pc' := 63) rfl rfl zw_g1 rfl rfl ?_
          refine zw_s (pc' := 64) rfl rfl ?_
          refine zw_ble2 (g := 74) (pc' := 67) rfl rfl rfl rfl (rfl : _ = (4 : Int)) (fun hb4 => ?_) (fun hb4 => ?_)
          · have hz4 : zq_n4 (zq_us (((Int32.ofNat (n + 1) ^^^ Int32.ofInt (-1)) &&& (Int32.ofNat (n + 1) - Int32.ofInt 1))) (Int32.ofInt 8)) (Int32.ofInt 1 + Int32.ofInt 8) = zq_n5 (zq_us (((Int32.ofNat (n + 1) ^^^ Int32.ofInt (-1)) &&& (Int32.ofNat (n + 1) - Int32.ofInt 1))) (Int32.ofInt 8)) (Int32.ofInt 1 + Int32.ofInt 8) := if_pos hb4
            refine zw_ld (n := 1) (k := 1) (f := zp_isI) (pc' := 75) rfl rfl (zw_gt zw_g1 rfl rfl) rfl rfl ?_
            refine zw_ld (n := 1) (k := 0) (f := zp_isI) (pc' := 76) rfl rfl zw_g1 rfl rfl ?_
            refine zw_s (pc' := 77) rfl rfl ?_
            refine zw_s (pc' := 78) rfl rfl ?_
            refine zw_iadd (pc' := 79) rfl rfl ?_
            refine zw_ri rfl rfl ?_
            exact ⟨_, rfl, (hz0.trans (hz1.trans (hz2.trans (hz3.trans (hz4))))).symm⟩
          · have hz4 : zq_n4 (zq_us (((Int32.ofNat (n + 1) ^^^ Int32.ofInt (-1)) &&& (Int32.ofNat (n + 1) - Int32.ofInt 1))) (Int32.ofInt 8)) (Int32.ofInt 1 + Int32.ofInt 8) = zq_n5 (zq_us (zq_us (((Int32.ofNat (n + 1) ^^^ Int32.ofInt (-1)) &&& (Int32.ofNat (n + 1) - Int32.ofInt 1))) (Int32.ofInt 8)) (Int32.ofInt 2)) (Int32.ofInt 1 + Int32.ofInt 8 + Int32.ofInt 2) := if_neg (Int.not_le.mpr hb4)
            refine zw_ii (pc' := 70) rfl (zw_gt zw_g1 rfl rfl) rfl rfl ?_
            refine zw_ld (n := 1) (k := 0) (f := zp_isI) (pc' := 71) rfl rfl (zw_gt zw_g1 rfl rfl) rfl rfl ?_
            refine zw_s (pc' := 72) rfl rfl ?_
            refine zw_s (pc' := 73) rfl rfl ?_
            refine zw_st (n := 1) (k := 0) (f := zp_isI) (pc' := 74) rfl rfl rfl rfl rfl ?_
            refine zw_ld (n := 1) (k := 1) (f := zp_isI) (pc' := 75) rfl rfl (zw_gt zw_g1 rfl rfl) rfl rfl ?_
            refine zw_ld (n := 1) (k := 0) (f := zp_isI) (pc' := 76) rfl rfl zw_g1 rfl rfl ?_
            refine zw_s (pc' := 77) rfl rfl ?_
            refine zw_s (pc' := 78) rfl rfl ?_
            refine zw_iadd (pc' := 79) rfl rfl ?_
            refine zw_ri rfl rfl ?_
            exact ⟨_, rfl, (hz0.trans (hz1.trans (hz2.trans (hz3.trans (hz4))))).symm⟩
        · have hz3 : zq_n3 (zq_us (((Int32.ofNat (n + 1) ^^^ Int32.ofInt (-1)) &&& (Int32.ofNat (n + 1) - Int32.ofInt 1))) (Int32.ofInt 8)) (Int32.ofInt 1 + Int32.ofInt 8) = zq_n4 (zq_us (zq_us (((Int32.ofNat (n + 1) ^^^ Int32.ofInt (-1)) &&& (Int32.ofNat (n + 1) - Int32.ofInt 1))) (Int32.ofInt 8)) (Int32.ofInt 4)) (Int32.ofInt 1 + Int32.ofInt 8 + Int32.ofInt 4) := if_neg (Int.not_le.mpr hb3)
          refine zw_ii (pc' := 58) rfl (zw_gt zw_g1 rfl rfl) rfl rfl ?_
          refine zw_ld (n := 1) (k := 0) (f := zp_isI) (pc' := 59) rfl rfl (zw_gt zw_g1 rfl rfl) rfl rfl ?_
          refine zw_s (pc' := 60) rfl rfl ?_
          refine zw_s (pc' := 61) rfl rfl ?_
          refine zw_st (n := 1) (k := 0) (f := zp_isI) (pc' := 62) rfl rfl rfl rfl rfl ?_
          refine zw_ld (n := 1) (k := 0) (f := zp_isI) (pc' := 63) rfl rfl zw_g1 rfl rfl ?_
          refine zw_s (pc' := 64) rfl rfl ?_
          refine zw_ble2 (g := 74) (pc' := 67) rfl rfl rfl rfl (rfl : _ = (4 : Int)) (fun hb4 => ?_) (fun hb4 => ?_)
          · have hz4 : zq_n4 (zq_us (zq_us (((Int32.ofNat (n + 1) ^^^ Int32.ofInt (-1)) &&& (Int32.ofNat (n + 1) - Int32.ofInt 1))) (Int32.ofInt 8)) (Int32.ofInt 4)) (Int32.ofInt 1 + Int32.ofInt 8 + Int32.ofInt 4) = zq_n5 (zq_us (zq_us (((Int32.ofNat (n + 1) ^^^ Int32.ofInt (-1)) &&& (Int32.ofNat (n + 1) - Int32.ofInt 1))) (Int32.ofInt 8)) (Int32.ofInt 4)) (Int32.ofInt 1 + Int32.ofInt 8 + Int32.ofInt 4) := if_pos hb4
            refine zw_ld (n := 1) (k := 1) (f := zp_isI) (pc' := 75) rfl rfl (zw_gt zw_g1 rfl rfl) rfl rfl ?_
            refine zw_ld (n := 1) (k := 0) (f := zp_isI) (pc' := 76) rfl rfl zw_g1 rfl rfl ?_
            refine zw_s (pc' := 77) rfl rfl ?_
            refine zw_s (pc' := 78) rfl rfl ?_
            refine zw_iadd (pc' := 79) rfl rfl ?_
            refine zw_ri rfl rfl ?_
            exact ⟨_, rfl, (hz0.trans (hz1.trans (hz2.trans (hz3.trans (hz4))))).symm⟩
          · have hz4 : zq_n4 (zq_us (zq_us (((Int32.ofNat (n + 1) ^^^ Int32.ofInt (-1)) &&& (Int32.ofNat (n + 1) - Int32.ofInt 1))) (Int32.ofInt 8)) (Int32.ofInt 4)) (Int32.ofInt 1 + Int32.ofInt 8 + Int32.ofInt 4) = zq_n5 (zq_us (zq_us (zq_us (((Int32.ofNat (n + 1) ^^^ Int32.ofInt (-1)) &&& (Int32.ofNat (n + 1) - Int32.ofInt 1))) (Int32.ofInt 8)) (Int32.ofInt 4)) (Int32.ofInt 2)) (Int32.ofInt 1 + Int32.ofInt 8 + Int32.ofInt 4 + Int32.ofInt 2) := if_neg (Int.not_le.mpr hb4)
            refine zw_ii (pc' := 70) rfl (zw_gt zw_g1 rfl rfl) rfl rfl ?_
            refine zw_ld (n := 1) (k := 0) (f := zp_isI) (pc' := 71) rfl rfl (zw_gt zw_g1 rfl rfl) rfl rfl ?_
            refine zw_s (pc' := 72) rfl rfl ?_
            refine zw_s (pc' := 73) rfl rfl ?_
            refine zw_st (n := 1) (k := 0) (f := zp_isI) (pc' := 74) rfl rfl rfl rfl rfl ?_
            refine zw_ld (n := 1) (k := 1) (f := zp_isI) (pc' := 75) rfl rfl (zw_gt zw_g1 rfl rfl) rfl rfl ?_
            refine zw_ld (n := 1) (k := 0) (f := zp_isI) (pc' := 76) rfl rfl zw_g1 rfl rfl ?_
            refine zw_s (pc' := 77) rfl rfl ?_
            refine zw_s (pc' := 78) rfl rfl ?_
            refine zw_iadd (pc' := 79) rfl rfl ?_
            refine zw_ri rfl rfl ?_
            exact ⟨_, rfl, (hz0.trans (hz1.trans (hz2.trans (hz3.trans (hz4))))).symm⟩
    · have hz1 : zq_n1 (((Int32.ofNat (n + 1) ^^^ Int32.ofInt (-1)) &&& (Int32.ofNat (n + 1) - Int32.ofInt 1))) (Int32.ofInt 1) = zq_n2 (zq_us (((Int32.ofNat (n + 1) ^^^ Int32.ofInt (-1)) &&& (Int32.ofNat (n + 1) - Int32.ofInt 1))) (Int32.ofInt 16)) (Int32.ofInt 1 + Int32.ofInt 16) := if_neg (Int.not_le.mpr hb1)
      refine zw_ii (pc' := 29) rfl zw_g1 rfl rfl ?_
      refine zw_ld (n := 1) (k := 0) (f := zp_isI) (pc' := 30) rfl rfl (zw_gt (zw_gt zw_g1 rfl rfl) rfl rfl) rfl rfl ?_
      refine zw_s (pc' := 32) rfl rfl ?_
      refine zw_s (pc' := 33) rfl rfl ?_
      refine zw_st (n := 1) (k := 0) (f := zp_isI) (pc' := 34) rfl rfl rfl rfl rfl ?_
      refine zw_ld (n := 1) (k := 0) (f := zp_isI) (pc' := 35) rfl rfl zw_g1 rfl rfl ?_
      refine zw_s (pc' := 38) rfl rfl ?_
      refine zw_ble2 (g := 49) (pc' := 41) rfl rfl rfl rfl (rfl : _ = (256 : Int)) (fun hb2 => ?_) (fun hb2 => ?_)
      · have hz2 : zq_n2 (zq_us (((Int32.ofNat (n + 1) ^^^ Int32.ofInt (-1)) &&& (Int32.ofNat (n + 1) - Int32.ofInt 1))) (Int32.ofInt 16)) (Int32.ofInt 1 + Int32.ofInt 16) = zq_n3 (zq_us (((Int32.ofNat (n + 1) ^^^ Int32.ofInt (-1)) &&& (Int32.ofNat (n + 1) - Int32.ofInt 1))) (Int32.ofInt 16)) (Int32.ofInt 1 + Int32.ofInt 16) := if_pos hb2
        refine zw_ld (n := 1) (k := 0) (f := zp_isI) (pc' := 50) rfl rfl zw_g1 rfl rfl ?_
        refine zw_s (pc' := 52) rfl rfl ?_
        refine zw_ble2 (g := 62) (pc' := 55) rfl rfl rfl rfl (rfl : _ = (16 : Int)) (fun hb3 => ?_) (fun hb3 => ?_)
        · have hz3 : zq_n3 (zq_us (((Int32.ofNat (n + 1) ^^^ Int32.ofInt (-1)) &&& (Int32.ofNat (n + 1) - Int32.ofInt 1))) (Int32.ofInt 16)) (Int32.ofInt 1 + Int32.ofInt 16) = zq_n4 (zq_us (((Int32.ofNat (n + 1) ^^^ Int32.ofInt (-1)) &&& (Int32.ofNat (n + 1) - Int32.ofInt 1))) (Int32.ofInt 16)) (Int32.ofInt 1 + Int32.ofInt 16) := if_pos hb3
          refine zw_ld (n := 1) (k := 0) (f := zp_isI) (pc' := 63) rfl rfl zw_g1 rfl rfl ?_
          refine zw_s (pc' := 64) rfl rfl ?_
          refine zw_ble2 (g := 74) (pc' := 67) rfl rfl rfl rfl (rfl : _ = (4 : Int)) (fun hb4 => ?_) (fun hb4 => ?_)
          · have hz4 : zq_n4 (zq_us (((Int32.ofNat (n + 1) ^^^ Int32.ofInt (-1)) &&& (Int32.ofNat (n + 1) - Int32.ofInt 1))) (Int32.ofInt 16)) (Int32.ofInt 1 + Int32.ofInt 16) = zq_n5 (zq_us (((Int32.ofNat (n + 1) ^^^ Int32.ofInt (-1)) &&& (Int32.ofNat (n + 1) - Int32.ofInt 1))) (Int32.ofInt 16)) (Int32.ofInt 1 + Int32.ofInt 16) := if_pos hb4
            refine zw_ld (n := 1) (k := 1) (f := zp_isI) (pc' := 75) rfl rfl (zw_gt zw_g1 rfl rfl) rfl rfl ?_
            refine zw_ld (n := 1) (k := 0) (f := zp_isI) (pc' := 76) rfl rfl zw_g1 rfl rfl ?_
            refine zw_s (pc' := 77) rfl rfl ?_
            refine zw_s (pc' := 78) rfl rfl ?_
            refine zw_iadd (pc' := 79) rfl rfl ?_
            refine zw_ri rfl rfl ?_
            exact ⟨_, rfl, (hz0.trans (hz1.trans (hz2.trans (hz3.trans (hz4))))).symm⟩
          · have hz4 : zq_n4 (zq_us (((Int32.ofNat (n + 1) ^^^ Int32.ofInt (-1)) &&& (Int32.ofNat (n + 1) - Int32.ofInt 1))) (Int32.ofInt 16)) (Int32.ofInt 1 + Int32.ofInt 16) = zq_n5 (zq_us (zq_us (((Int32.ofNat (n + 1) ^^^ Int32.ofInt (-1)) &&& (Int32.ofNat (n + 1) - Int32.ofInt 1))) (Int32.ofInt 16)) (Int32.ofInt 2)) (Int32.ofInt 1 + Int32.ofInt 16 + Int32.ofInt 2) := if_neg (Int.not_le.mpr hb4)
            refine zw_ii (pc' := 70) rfl (zw_gt zw_g1 rfl rfl) rfl rfl ?_
            refine zw_ld (n := 1) (k := 0) (f := zp_isI) (pc' := 71) rfl rfl (zw_gt zw_g1 rfl rfl) rfl rfl ?_
            refine zw_s (pc' := 72) rfl rfl ?_
            refine zw_s (pc' := 73) rfl rfl ?_
            refine zw_st (n := 1) (k := 0) (f := zp_isI) (pc' := 74) rfl rfl rfl rfl rfl ?_
            refine zw_ld (n := 1) (k := 1) (f := zp_isI) (pc' := 75) rfl rfl (zw_gt zw_g1 rfl rfl) rfl rfl ?_
            refine zw_ld (n := 1) (k := 0) (f := zp_isI) (pc' := 76) rfl rfl zw_g1 rfl rfl ?_
            refine zw_s (pc' := 77) rfl rfl ?_
            refine zw_s (pc' := 78) rfl rfl ?_
            refine zw_iadd (pc' := 79) rfl rfl ?_
            refine zw_ri rfl rfl ?_
            exact ⟨_, rfl, (hz0.trans (hz1.trans (hz2.trans (hz3.trans (hz4))))).symm⟩
        · have hz3 : zq_n3 (zq_us (((Int32.ofNat (n + 1) ^^^ Int32.ofInt (-1)) &&& (Int32.ofNat (n + 1) - Int32.ofInt 1))) (Int32.ofInt 16)) (Int32.ofInt 1 + Int32.ofInt 16) = zq_n4 (zq_us (zq_us (((Int32.ofNat (n + 1) ^^^ Int32.ofInt (-1)) &&& (Int32.ofNat (n + 1) - Int32.ofInt 1))) (Int32.ofInt 16)) (Int32.ofInt 4)) (Int32.ofInt 1 + Int32.ofInt 16 + Int32.ofInt 4) := if_neg (Int.not_le.mpr hb3)
          refine zw_ii (pc' := 58) rfl (zw_gt zw_g1 rfl rfl) rfl rfl ?_
          refine zw_ld (n := 1) (k := 0) (f := zp_isI) (pc' := 59) rfl rfl (zw_gt zw_g1 rfl rfl) rfl rfl ?_
          refine zw_s (pc' := 60) rfl rfl ?_
          refine zw_s (pc' := 61) rfl rfl ?_
          refine zw_st (n := 1) (k := 0) (f := zp_isI) (pc' := 62) rfl rfl rfl rfl rfl ?_
          refine zw_ld (n := 1) (k := 0) (f := zp_isI) (pc' := 63) rfl rfl zw_g1 rfl rfl ?_
          refine zw_s (pc' := 64) rfl rfl ?_
          refine zw_ble2 (g := 74) (pc' := 67) rfl rfl rfl rfl (rfl : _ = (4 : Int)) (fun hb4 => ?_) (fun hb4 => ?_)
          · have hz4 : zq_n4 (zq_us (zq_us (((Int32.ofNat (n + 1) ^^^ Int32.ofInt (-1)) &&& (Int32.ofNat (n + 1) - Int32.ofInt 1))) (Int32.ofInt 16)) (Int32.ofInt 4)) (Int32.ofInt 1 + Int32.ofInt 16 + Int32.ofInt 4) = zq_n5 (zq_us (zq_us (((Int32.ofNat (n + 1) ^^^ Int32.ofInt (-1)) &&& (Int32.ofNat (n + 1) - Int32.ofInt 1))) (Int32.ofInt 16)) (Int32.ofInt 4)) (Int32.ofInt 1 + Int32.ofInt 16 + Int32.ofInt 4) := if_pos hb4
            refine zw_ld (n := 1) (k := 1) (f := zp_isI) (pc' := 75) rfl rfl (zw_gt zw_g1 rfl rfl) rfl rfl ?_
            refine zw_ld (n := 1) (k := 0) (f := zp_isI) (pc' := 76) rfl rfl zw_g1 rfl rfl ?_
            refine zw_s (pc' := 77) rfl rfl ?_
            refine zw_s (pc' := 78) rfl rfl ?_
            refine zw_iadd (pc' := 79) rfl rfl ?_
            refine zw_ri rfl rfl ?_
            exact ⟨_, rfl, (hz0.trans (hz1.trans (hz2.trans (hz3.trans (hz4))))).symm⟩
          · have hz4 : zq_n4 (zq_us (zq_us (((Int32.ofNat (n + 1) ^^^ Int32.ofInt (-1)) &&& (Int32.ofNat (n + 1) - Int32.ofInt 1))) (Int32.ofInt 16)) (Int32.ofInt 4)) (Int32.ofInt 1 + Int32.ofInt 16 + Int32.ofInt 4) = zq_n5 (zq_us (zq_us (zq_us (((Int32.ofNat (n + 1) ^^^ Int32.ofInt (-1)) &&& (Int32.ofNat (n + 1) - Int32.ofInt 1))) (Int32.ofInt 16)) (Int32.ofInt 4)) (Int32.ofInt 2)) (Int32.ofInt 1 + Int32.ofInt 16 + Int32.ofInt 4 + Int32.ofInt 2) := if_neg (Int.not_le.mpr hb4)
            refine zw_ii (pc' := 70) rfl (zw_gt zw_g1 rfl rfl) rfl rfl ?_
            refine zw_ld (n := 1) (k := 0) (f := zp_isI) (pc' := 71) rfl rfl (zw_gt zw_g1 rfl rfl) rfl rfl ?_
            refine zw_s (pc' := 72) rfl rfl ?_
            refine zw_s (pc' := 73) rfl rfl ?_
            refine zw_st (n := 1) (k := 0) (f := zp_isI) (pc' := 74) rfl rfl rfl rfl rfl ?_
            refine zw_ld (n := 1) (k := 1) (f := zp_isI) (pc' := 75) rfl rfl (zw_gt zw_g1 rfl rfl) rfl rfl ?_
            refine zw_ld (n := 1) (k := 0) (f := zp_isI) (pc' := 76) rfl rfl zw_g1 rfl rfl ?_
            refine zw_s (pc' := 77) rfl rfl ?_
            refine zw_s (pc' := 78) rfl rfl ?_
            refine zw_iadd (pc' := 79) rfl rfl ?_
            refine zw_ri rfl rfl ?_
            exact ⟨_, rfl, (hz0.trans (hz1.trans (hz2.trans (hz3.trans (hz4))))).symm⟩
      · have hz2 : zq_n2 (zq_us (((Int32.ofNat (n + 1) ^^^ Int32.ofInt (-1)) &&& (Int32.ofNat (n + 1) - Int32.ofInt 1))) (Int32.ofInt 16)) (Int32.ofInt 1 + Int32.ofInt 16) = zq_n3 (zq_us (zq_us (((Int32.ofNat (n + 1) ^^^ Int32.ofInt (-1)) &&& (Int32.ofNat (n + 1) - Int32.ofInt 1))) (Int32.ofInt 16)) (Int32.ofInt 8)) (Int32.ofInt 1 + Int32.ofInt 16 + Int32.ofInt 8) := if_neg (Int.not_le.mpr hb2)
        refine zw_ii (pc' := 44) rfl (zw_gt zw_g1 rfl rfl) rfl rfl ?_
        refine zw_ld (n := 1) (k := 0) (f := zp_isI) (pc' := 45) rfl rfl (zw_gt zw_g1 rfl rfl) rfl rfl ?_
        refine zw_s (pc' := 47) rfl rfl ?_
        refine zw_s (pc' := 48) rfl rfl ?_
        refine zw_st (n := 1) (k := 0) (f := zp_isI) (pc' := 49) rfl rfl rfl rfl rfl ?_
        refine zw_ld (n := 1) (k := 0) (f := zp_isI) (pc' := 50) rfl rfl zw_g1 rfl rfl ?_
        refine zw_s (pc' := 52) rfl rfl ?_
        refine zw_ble2 (g := 62) (pc' := 55) rfl rfl rfl rfl (rfl : _ = (16 : Int)) (fun hb3 => ?_) (fun hb3 => ?_)
        · have hz3 : zq_n3 (zq_us (zq_us (((Int32.ofNat (n + 1) ^^^ Int32.ofInt (-1)) &&& (Int32.ofNat (n + 1) - Int32.ofInt 1))) (Int32.ofInt 16)) (Int32.ofInt 8)) (Int32.ofInt 1 + Int32.ofInt 16 + Int32.ofInt 8) = zq_n4 (zq_us (zq_us (((Int32.ofNat (n + 1) ^^^ Int32.ofInt (-1)) &&& (Int32.ofNat (n + 1) - Int32.ofInt 1))) (Int32.ofInt 16)) (Int32.ofInt 8)) (Int32.ofInt 1 + Int32.ofInt 16 + Int32.ofInt 8) := if_pos hb3
          refine zw_ld (n := 1) (k := 0) (f := zp_isI) (pc' := 63) rfl rfl zw_g1 rfl rfl ?_
          refine zw_s (pc' := 64) rfl rfl ?_
          refine zw_ble2 (g := 74) (pc' := 67) rfl rfl rfl rfl (rfl : _ = (4 : Int)) (fun hb4 => ?_) (fun hb4 => ?_)
          · have hz4 : zq_n4 (zq_us (zq_us (((Int32.ofNat (n + 1) ^^^ Int32.ofInt (-1)) &&& (Int32.ofNat (n + 1) - Int32.ofInt 1))) (Int32.ofInt 16)) (Int32.ofInt 8)) (Int32.ofInt 1 + Int32.ofInt 16 + Int32.ofInt 8) = zq_n5 (zq_us (zq_us (((Int32.ofNat (n + 1) ^^^ Int32.ofInt (-1)) &&& (Int32.ofNat (n + 1) - Int32.ofInt 1))) (Int32.ofInt 16)) (Int32.ofInt 8)) (Int32.ofInt 1 + Int32.ofInt 16 + Int32.ofInt 8) := if_pos hb4
            refine zw_ld (n := 1) (k := 1) (f := zp_isI) (pc' := 75) rfl rfl (zw_gt zw_g1 rfl rfl) rfl rfl ?_
            refine zw_ld (n := 1) (k := 0) (f := zp_isI) (pc' := 76) rfl rfl zw_g1 rfl rfl ?_
            refine zw_s (pc' := 77) rfl rfl ?_
            refine zw_s (pc' := 78) rfl rfl ?_
            refine zw_iadd (pc' := 79) rfl rfl ?_
            refine zw_ri rfl rfl ?_
            exact ⟨_, rfl, (hz0.trans (hz1.trans (hz2.trans (hz3.trans (hz4))))).symm⟩
          · have hz4 : zq_n4 (zq_us (zq_us (((Int32.ofNat (n + 1) ^^^ Int32.ofInt (-1)) &&& (Int32.ofNat (n + 1) - Int32.ofInt 1))) (Int32.ofInt 16)) (Int32.ofInt 8)) (Int32.ofInt 1 + Int32.ofInt 16 + Int32.ofInt 8) = zq_n5 (zq_us (zq_us (zq_us (((Int32.ofNat (n + 1) ^^^ Int32.ofInt (-1)) &&& (Int32.ofNat (n + 1) - Int32.ofInt 1))) (Int32.ofInt 16)) (Int32.ofInt 8)) (Int32.ofInt 2)) (Int32.ofInt 1 + Int32.ofInt 16 + Int32.ofInt 8 + Int32.ofInt 2) := if_neg (Int.not_le.mpr hb4)
            refine zw_ii (pc' := 70) rfl (zw_gt zw_g1 rfl rfl) rfl rfl ?_
            refine zw_ld (n := 1) (k := 0) (f := zp_isI) (pc' := 71) rfl rfl (zw_gt zw_g1 rfl rfl) rfl rfl ?_
            refine zw_s (pc' := 72) rfl rfl ?_
            refine zw_s (pc' := 73) rfl rfl ?_
            refine zw_st (n := 1) (k := 0) (f := zp_isI) (pc' := 74) rfl rfl rfl rfl rfl ?_
            refine zw_ld (n := 1) (k := 1) (f := zp_isI) (pc' := 75) rfl rfl (zw_gt zw_g1 rfl rfl) rfl rfl ?_
            refine zw_ld (n := 1) (k := 0) (f := zp_isI) (pc' := 76) rfl rfl zw_g1 rfl rfl ?_
            refine zw_s (pc' := 77) rfl rfl ?_
            refine zw_s (pc' := 78) rfl rfl ?_
            refine zw_iadd (pc' := 79) rfl rfl ?_
            refine zw_ri rfl rfl ?_
            exact ⟨_, rfl, (hz0.trans (hz1.trans (hz2.trans (hz3.trans (hz4))))).symm⟩
        · have hz3 : zq_n3 (zq_us (zq_us (((Int32.ofNat (n + 1) ^^^ Int32.ofInt (-1)) &&& (Int32.ofNat (n + 1) - Int32.ofInt 1))) (Int32.ofInt 16)) (Int32.ofInt 8)) (Int32.ofInt 1 + Int32.ofInt 16 + Int32.ofInt 8) = zq_n4 (zq_us (zq_us (zq_us (((Int32.ofNat (n + 1) ^^^ Int32.ofInt (-1)) &&& (Int32.ofNat (n + 1) - Int32.ofInt 1))) (Int32.ofInt 16)) (Int32.ofInt 8)) (Int32.ofInt 4)) (Int32.ofInt 1 + Int32.ofInt 16 + Int32.ofInt 8 + Int32.ofInt 4) := if_neg (Int.not_le.mpr hb3)
          refine zw_ii (pc' := 58) rfl (zw_gt zw_g1 rfl rfl) rfl rfl ?_
          refine zw_ld (n := 1) (k := 0) (f := zp_isI) (pc' := 59) rfl rfl (zw_gt zw_g1 rfl rfl) rfl rfl ?_
          refine zw_s (pc' := 60) rfl rfl ?_
          refine zw_s (pc' := 61) rfl rfl ?_
          refine zw_st (n := 1) (k := 0) (f := zp_isI) (pc' := 62) rfl rfl rfl rfl rfl ?_
          refine zw_ld (n := 1) (k := 0) (f := zp_isI) (pc' := 63) rfl rfl zw_g1 rfl rfl ?_
          refine zw_s (pc' := 64) rfl rfl ?_
          refine zw_ble2 (g := 74) (pc' := 67) rfl rfl rfl rfl (rfl : _ = (4 : Int)) (fun hb4 => ?_) (fun hb4 => ?_)
          · have hz4 : zq_n4 (zq_us (zq_us (zq_us (((Int32.ofNat (n + 1) ^^^ Int32.ofInt (-1)) &&& (Int32.ofNat (n + 1) - Int32.ofInt 1))) (Int32.ofInt 16)) (Int32.ofInt 8)) (Int32.ofInt 4)) (Int32.ofInt 1 + Int32.ofInt 16 + Int32.ofInt 8 + Int32.ofInt 4) = zq_n5 (zq_us (zq_us (zq_us (((Int32.ofNat (n + 1) ^^^ Int32.ofInt (-1)) &&& (Int32.ofNat (n + 1) - Int32.ofInt 1))) (Int32.ofInt 16)) (Int32.ofInt 8)) (Int32.ofInt 4)) (Int32.ofInt 1 + Int32.ofInt 16 + Int32.ofInt 8 + Int32.ofInt 4) := if_pos hb4
            refine zw_ld (n := 1) (k := 1) (f := zp_isI) (pc' := 75) rfl rfl (zw_gt zw_g1 rfl rfl) rfl rfl ?_
            refine zw_ld (n := 1) (k := 0) (f := zp_isI) (pc' := 76) rfl rfl zw_g1 rfl rfl ?_
            refine zw_s (pc' := 77) rfl rfl ?_
            refine zw_s (pc' := 78) rfl rfl ?_
            refine zw_iadd (pc' := 79) rfl rfl ?_
            refine zw_ri rfl rfl ?_
            exact ⟨_, rfl, (hz0.trans (hz1.trans (hz2.trans (hz3.trans (hz4))))).symm⟩
          · have hz4 : zq_n4 (zq_us (zq_us (zq_us (((Int32.ofNat (n + 1) ^^^ Int32.ofInt (-1)) &&& (Int32.ofNat (n + 1) - Int32.ofInt 1))) (Int32.ofInt 16)) (Int32.ofInt 8)) (Int32.ofInt 4)) (Int32.ofInt 1 + Int32.ofInt 16 + Int32.ofInt 8 + Int32.ofInt 4) = zq_n5 (zq_us (zq_us (zq_us (zq_us (((Int32.ofNat (n + 1) ^^^ Int32.ofInt (-1)) &&& (Int32.ofNat (n + 1) - Int32.ofInt 1))) (Int32.ofInt 16)) (Int32.ofInt 8)) (Int32.ofInt 4)) (Int32.ofInt 2)) (Int32.ofInt 1 + Int32.ofInt 16 + Int32.ofInt 8 + Int32.ofInt 4 + Int32.ofInt 2) := if_neg (Int.not_le.mpr hb4)
            refine zw_ii (pc' := 70) rfl (zw_gt zw_g1 rfl rfl) rfl rfl ?_
            refine zw_ld (n := 1) (k := 0) (f := zp_isI) (pc' := 71) rfl rfl (zw_gt zw_g1 rfl rfl) rfl rfl ?_
            refine zw_s (pc' := 72) rfl rfl ?_
            refine zw_s (pc' := 73) rfl rfl ?_
            refine zw_st (n := 1) (k := 0) (f := zp_isI) (pc' := 74) rfl rfl rfl rfl rfl ?_
            refine zw_ld (n := 1) (k := 1) (f := zp_isI) (pc' := 75) rfl rfl (zw_gt zw_g1 rfl rfl) rfl rfl ?_
            refine zw_ld (n := 1) (k := 0) (f := zp_isI) (pc' := 76) rfl rfl zw_g1 rfl rfl ?_
            refine zw_s (pc' := 77) rfl rfl ?_
            refine zw_s (pc' := 78) rfl rfl ?_
            refine zw_iadd (pc' := 79) rfl rfl ?_
            refine zw_ri rfl rfl ?_
            exact ⟨_, rfl, (hz0.trans (hz1.trans (hz2.trans (hz3.trans (hz4))))).symm⟩
  · have hz0 : zq_n0 (Int32.ofNat (n + 1)) = ((Int32.ofNat (n + 1) ^^^ Int32.ofInt (-1)) &&& (Int32.ofNat (n + 1) - Int32.ofInt 1)) &&& Int32.ofInt 32 := if_neg (Int.not_lt.mpr hb0)
    refine zw_ld (n := 1) (k := 0) (f := zp_isI) (pc' := 13) rfl rfl zw_g1 rfl rfl ?_
    refine zw_s (pc' := 15) rfl rfl ?_
    refine zw_iand (pc' := 16) rfl rfl ?_
    refine zw_ri rfl rfl ?_
    exact ⟨_, rfl, (hz0).symm⟩
