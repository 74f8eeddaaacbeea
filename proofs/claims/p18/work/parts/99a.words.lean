/-! ===== the words: both sides know the same ones ===== -/
/-- a word's letters as numbers, the last first -/
def yw_rl (T : Nat → Int) (s : Nat) : Nat → List Nat
  | 0 => []
  | k + 1 => (T (s + k) - 96).toNat :: yw_rl T s k
def yw_pr : List Nat → Nat
  | [] => 0
  | d :: r => 32 * yw_pr r + d
theorem yw_inj : ∀ {a b : List Nat}, (∀ d ∈ a, 1 ≤ d ∧ d < 32) → (∀ d ∈ b, 1 ≤ d ∧ d < 32) → yw_pr a = yw_pr b → a = b
  | [], [], _, _, _ => rfl
  | [], d :: r, _, hb, h => by
    have h1 := hb d List.mem_cons_self
    have h : 0 = 32 * yw_pr r + d := h
    omega
  | d :: r, [], ha, _, h => by
    have h1 := ha d List.mem_cons_self
    have h : 32 * yw_pr r + d = 0 := h
    omega
  | d :: r, d' :: r', ha, hb, h => by
    have h1 := ha d List.mem_cons_self
    have h2 := hb d' List.mem_cons_self
    have h : 32 * yw_pr r + d = 32 * yw_pr r' + d' := h
    have e1 : d = d' := by omega
    have e2 : yw_pr r = yw_pr r' := by omega
    rw [e1, yw_inj (fun x hx => ha x (List.mem_cons_of_mem _ hx)) (fun x hx => hb x (List.mem_cons_of_mem _ hx)) e2]
theorem yw_rl_d {T : Nat → Int} {s : Nat} : ∀ {m : Nat}, (∀ t, t < m → 97 ≤ T (s + t) ∧ T (s + t) ≤ 122) → ∀ d ∈ yw_rl T s m, 1 ≤ d ∧ d < 32
  | 0, _, d, hd => absurd hd List.not_mem_nil
  | m + 1, h, d, hd => by
    rcases List.mem_cons.mp hd with rfl | hd
    · have := h m (Nat.lt_succ_self _)
      omega
    · exact yw_rl_d (fun t ht => h t (Nat.lt_succ_of_lt ht)) d hd
theorem yw_pr_b : ∀ {m : Nat} {T : Nat → Int} {s : Nat}, (∀ t, t < m → 97 ≤ T (s + t) ∧ T (s + t) ≤ 122) → yw_pr (yw_rl T s m) < 32 ^ m
  | 0, _, _, _ => by
    show 0 < 32 ^ 0
    decide
  | m + 1, T, s, h => by
    have h1 := yw_pr_b (m := m) (T := T) (s := s) (fun t ht => h t (Nat.lt_succ_of_lt ht))
    have h2 := h m (Nat.lt_succ_self _)
    show 32 * yw_pr (yw_rl T s m) + (T (s + m) - 96).toNat < 32 ^ (m + 1)
    rw [Nat.pow_succ]
    omega
theorem yw_or {a d : Nat} (ha : a < 2 ^ 40) (hd : d < 32) : za_shl0 (Int64.ofNat a) (Int32.ofInt 5) ||| Int64.ofNat d = Int64.ofNat (32 * a + d) := by
  have e5 : (Int32.ofInt 5).toInt64 &&& 63 = 5 := by decide
  unfold za_shl0
  rw [e5]
  apply Int64.toBitVec_inj.mp
  apply BitVec.eq_of_toNat_eq
  have h1 : (Int64.ofNat a <<< (5 : Int64)).toBitVec = BitVec.ofNat 64 a <<< 5 := rfl
  rw [Int64.toBitVec_or, h1]
  show (BitVec.ofNat 64 a <<< 5 ||| BitVec.ofNat 64 d).toNat = (BitVec.ofNat 64 (32 * a + d)).toNat
  rw [BitVec.toNat_or, BitVec.toNat_shiftLeft, BitVec.toNat_ofNat, BitVec.toNat_ofNat, BitVec.toNat_ofNat, Nat.mod_eq_of_lt (show a < 2 ^ 64 by omega), Nat.mod_eq_of_lt (show d < 2 ^ 64 by omega), Nat.mod_eq_of_lt (show 32 * a + d < 2 ^ 64 by omega)]
  have h2 : a <<< 5 = 32 * a := by
    rw [Nat.shiftLeft_eq]
    omega
  rw [h2, Nat.mod_eq_of_lt (show 32 * a < 2 ^ 64 by omega), ← h2]
  rw [← Nat.shiftLeft_add_eq_or_of_lt (show d < 2 ^ 5 by omega)]
theorem yw_d64 {t : Int} (h : 97 ≤ t ∧ t ≤ 122) : (Int32.ofInt t - Int32.ofInt 96).toInt64 = Int64.ofNat (t - 96).toNat := by
  obtain ⟨j, hj, rfl⟩ : ∃ j : Nat, j < 26 ∧ t = ((j + 97 : Nat) : Int) := ⟨(t - 97).toNat, by omega, by omega⟩
  revert j
  decide +kernel
theorem yw_pk {T : Nat → Int} {s : Nat} : ∀ {m : Nat}, m ≤ 7 → (∀ t, t < m → 97 ≤ T (s + t) ∧ T (s + t) ≤ 122) → ys_pk T s m = Int64.ofNat (yw_pr (yw_rl T s m))
  | 0, _, _ => rfl
  | m + 1, hm, h => by
    have ih := yw_pk (T := T) (s := s) (m := m) (by omega) (fun t ht => h t (Nat.lt_succ_of_lt ht))
    have hb := yw_pr_b (m := m) (T := T) (s := s) (fun t ht => h t (Nat.lt_succ_of_lt ht))
    have h2 := h m (Nat.lt_succ_self _)
    have h40 : yw_pr (yw_rl T s m) < 2 ^ 40 := by
      have : 32 ^ m ≤ 32 ^ 7 := Nat.pow_le_pow_right (by decide) (by omega)
      have e : (32 : Nat) ^ 7 = 34359738368 := by decide
      omega
    show za_shl0 (ys_pk T s m) (Int32.ofInt 5) ||| (Int32.ofInt (T (s + m)) - Int32.ofInt 96).toInt64 = Int64.ofNat (32 * yw_pr (yw_rl T s m) + (T (s + m) - 96).toNat)
    rw [ih, yw_d64 h2, yw_or h40 (by omega)]
theorem yw_cd {T : Nat → Int} {s m : Nat} {w : List Nat} (hm : m ≤ 7) (h : ∀ t, t < m → 97 ≤ T (s + t) ∧ T (s + t) ≤ 122) (hw : w.all (fun d => (Nat.ble 1 d).and (Nat.blt d 32)) = true) (hl : yw_pr w < 2 ^ 40) : Int64.ofNat (yw_pr w) = ys_pk T s m ↔ yw_rl T s m = w := by
  rw [yw_pk hm h]
  have hb := yw_pr_b (m := m) (T := T) (s := s) h
  have h40 : yw_pr (yw_rl T s m) < 2 ^ 40 := by
    have : 32 ^ m ≤ 32 ^ 7 := Nat.pow_le_pow_right (by decide) (by omega)
    have e : (32 : Nat) ^ 7 = 34359738368 := by decide
    omega
  have hw : ∀ d ∈ w, 1 ≤ d ∧ d < 32 := fun d hd => by
    obtain ⟨a, b⟩ := Bool.and_eq_true_iff.mp (List.all_eq_true.mp hw d hd)
    exact ⟨za_ble a, za_blt b⟩
  constructor
  · intro h9
    have h8 := congrArg (fun z : Int64 => z.toBitVec.toNat) h9
    have h8 : yw_pr w % 2 ^ 64 = yw_pr (yw_rl T s m) % 2 ^ 64 := h8
    rw [Nat.mod_eq_of_lt (by omega), Nat.mod_eq_of_lt (by omega)] at h8
    exact yw_inj (yw_rl_d h) hw h8.symm
  · intro h9
    rw [h9]

def yw_f (R : List Nat) : Nat → List (List Nat) → Int
  | _, [] => -1
  | k, x :: l => if R = x then (k : Int) else yw_f R (k + 1) l
theorem yw_fz {w : Int64} {R : List Nat} : ∀ {cs : List Int64} {ws : List (List Nat)} {k : Nat}, za_F2 (fun c x => (c = w ↔ R = x)) cs ws → zg_f w k cs = yw_f R k ws
  | [], [], _, _ => rfl
  | c :: cs, x :: ws, k, h => by
    unfold zg_f yw_f
    by_cases h1 : c = w
    · rw [if_pos h1, if_pos (h.1.mp h1)]
    · rw [if_neg h1, if_neg (fun h9 => h1 (h.1.mpr h9))]
      exact yw_fz h.2
  | [], _ :: _, _, h => h.elim
  | _ :: _, [], _, h => h.elim
def yw_ws : List (List Nat) := [[8, 20, 18, 15, 14], [20, 19, 1, 5], [8, 20, 21, 15, 19], [20, 19, 5, 23], [24], [25], [18, 21, 15, 8], [5, 4, 9, 20], [1, 5, 19], [11, 3, 15, 18], [20, 14, 5, 18, 18, 21, 3], [5, 20, 1, 12, 19], [4, 14, 1, 8], [12, 15, 15, 8, 3, 19], [12, 1, 15, 7], [20, 15, 12, 9, 16], [5, 12, 21, 18], [15, 7], [4, 14, 1], [18, 15], [20, 15, 14]]
def yw_ref (R : List Nat) : Int := yw_f R 0 yw_ws
def yw_cls (R : List Nat) : Int := if R = [8, 20, 18, 15, 14] then 0 else if R = [20, 19, 1, 5] then 1 else if R = [8, 20, 21, 15, 19] then 2 else if R = [20, 19, 5, 23] then 3 else if R = [24] then 4 else if R = [25] then 5 else if R = [18, 21, 15, 8] then 6 else if R = [5, 4, 9, 20] then 7 else if R = [18, 15] then 8 else if R = [4, 14, 1] then 9 else if R = [20, 15, 14] then 10 else if R = [15, 7] then 11 else if R = [1, 5, 19] then 12 else if R = [11, 3, 15, 18] then 13 else if R = [20, 14, 5, 18, 18, 21, 3] then 14 else if R = [5, 20, 1, 12, 19] then 15 else if R = [4, 14, 1, 8] then 16 else if R = [12, 15, 15, 8, 3, 19] then 17 else if R = [12, 1, 15, 7] then 18 else if R = [20, 15, 12, 9, 16] then 19 else if R = [5, 12, 21, 18] then 20 else  21
theorem yw_zg {T : Nat → Int} {s m : Nat} (hm : m ≤ 7) (h : ∀ t, t < m → 97 ≤ T (s + t) ∧ T (s + t) ≤ 122) : zg_f (ys_pk T s m) 0 zg_l = yw_ref (yw_rl T s m) := by
  have key : ∀ (w : List Nat) (c : Int64), c = Int64.ofNat (yw_pr w) → w.all (fun d => (Nat.ble 1 d).and (Nat.blt d 32)) = true → yw_pr w < 2 ^ 40 → ((c = ys_pk T s m) ↔ (yw_rl T s m = w)) := fun w c hc h1 h2 => by
    rw [hc]
    exact yw_cd hm h h1 h2
  refine yw_fz (R := yw_rl T s m) (ws := yw_ws) ?_
  exact ⟨key _ _ (by decide +kernel) (by decide) (by decide +kernel), key _ _ (by decide +kernel) (by decide) (by decide +kernel), key _ _ (by decide +kernel) (by decide) (by decide +kernel), key _ _ (by decide +kernel) (by decide) (by decide +kernel), key _ _ (by decide +kernel) (by decide) (by decide +kernel), key _ _ (by decide +kernel) (by decide) (by decide +kernel), key _ _ (by decide +kernel) (by decide) (by decide +kernel), key _ _ (by decide +kernel) (by decide) (by decide +kernel), key _ _ (by decide +kernel) (by decide) (by decide +kernel), key _ _ (by decide +kernel) (by decide) (by decide +kernel), key _ _ (by decide +kernel) (by decide) (by decide +kernel), key _ _ (by decide +kernel) (by decide) (by decide +kernel), key _ _ (by decide +kernel) (by decide) (by decide +kernel), key _ _ (by decide +kernel) (by decide) (by decide +kernel), key _ _ (by decide +kernel) (by decide) (by decide +kernel), key _ _ (by decide +kernel) (by decide) (by decide +kernel), key _ _ (by decide +kernel) (by decide) (by decide +kernel), key _ _ (by decide +kernel) (by decide) (by decide +kernel), key _ _ (by decide +kernel) (by decide) (by decide +kernel), key _ _ (by decide +kernel) (by decide) (by decide +kernel), key _ _ (by decide +kernel) (by decide) (by decide +kernel), trivial⟩
def yw_m (v : Int) : Int := if v = 8 then 19 else if v = 9 then 18 else if v = 10 then 20 else if v = 11 then 17 else if v = 12 then 8 else if v = 13 then 9 else if v = 14 then 10 else if v = 15 then 11 else if v = 16 then 12 else if v = 17 then 13 else if v = 18 then 14 else if v = 19 then 15 else if v = 20 then 16 else if v = 21 then -1 else v
theorem yw_rc (R : List Nat) : yw_ref R = yw_m (yw_cls R) := by
  by_cases h0 : R = [8, 20, 18, 15, 14]
  · rw [h0]
    decide
  by_cases h1 : R = [20, 19, 1, 5]
  · rw [h1]
    decide
  by_cases h2 : R = [8, 20, 21, 15, 19]
  · rw [h2]
    decide
  by_cases h3 : R = [20, 19, 5, 23]
  · rw [h3]
    decide
  by_cases h4 : R = [24]
  · rw [h4]
    decide
  by_cases h5 : R = [25]
  · rw [h5]
    decide
  by_cases h6 : R = [18, 21, 15, 8]
  · rw [h6]
    decide
  by_cases h7 : R = [5, 4, 9, 20]
  · rw [h7]
    decide
  by_cases h8 : R = [18, 15]
  · rw [h8]
    decide
  by_cases h9 : R = [4, 14, 1]
  · rw [h9]
    decide
  by_cases h10 : R = [20, 15, 14]
  · rw [h10]
    decide
  by_cases h11 : R = [15, 7]
  · rw [h11]
    decide
  by_cases h12 : R = [1, 5, 19]
  · rw [h12]
    decide
  by_cases h13 : R = [11, 3, 15, 18]
  · rw [h13]
    decide
  by_cases h14 : R = [20, 14, 5, 18, 18, 21, 3]
  · rw [h14]
    decide
  by_cases h15 : R = [5, 20, 1, 12, 19]
  · rw [h15]
    decide
  by_cases h16 : R = [4, 14, 1, 8]
  · rw [h16]
    decide
  by_cases h17 : R = [12, 15, 15, 8, 3, 19]
  · rw [h17]
    decide
  by_cases h18 : R = [12, 1, 15, 7]
  · rw [h18]
    decide
  by_cases h19 : R = [20, 15, 12, 9, 16]
  · rw [h19]
    decide
  by_cases h20 : R = [5, 12, 21, 18]
  · rw [h20]
    decide
  have e : yw_ref R = -1 := by
    unfold yw_ref yw_ws
    simp only [yw_f]
    rw [if_neg h0, if_neg h1, if_neg h2, if_neg h3, if_neg h4, if_neg h5, if_neg h6, if_neg h7, if_neg h12, if_neg h13, if_neg h14, if_neg h15, if_neg h16, if_neg h17, if_neg h18, if_neg h19, if_neg h20, if_neg h11, if_neg h9, if_neg h8, if_neg h10]
  rw [e]
  unfold yw_cls
  rw [if_neg h0, if_neg h1, if_neg h2, if_neg h3, if_neg h4, if_neg h5, if_neg h6, if_neg h7, if_neg h8, if_neg h9, if_neg h10, if_neg h11, if_neg h12, if_neg h13, if_neg h14, if_neg h15, if_neg h16, if_neg h17, if_neg h18, if_neg h19, if_neg h20]
  decide
