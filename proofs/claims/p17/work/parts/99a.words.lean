section
/-! ===== the words: both sides know the same ones ===== -/
/-- a word's letters as numbers, the last first -/
def yw_rl (T : Nat → Int) (s : Nat) : Nat → List Nat
  | 0 => []
  | k + 1 => (T (s + k) - 96).toNat :: yw_rl T s k
def yw_pr : List Nat → Nat
  | [] => 0
  | d :: r => 32 * yw_pr r + d
theorem yw_inj : ∀ {a b : List Nat}, (∀ d ∈ a, 1 ≤ d ∧ d < 32) → (∀ d ∈ b, 1 ≤ d ∧ d < 32) → yw_pr a = yw_pr b → a = b
  | [], [], _, _, _ => rfl
  | [], d :: r, _, hb, h => by
    have h1 := hb d List.mem_cons_self
    have h : 0 = 32 * yw_pr r + d := h
    omega
  | d :: r, [], ha, _, h => by
    have h1 := ha d List.mem_cons_self
    have h : 32 * yw_pr r + d = 0 := h
    omega
  | d :: r, d' :: r', ha, hb, h => by
    have h1 := ha d List.mem_cons_self
    have h2 := hb d' List.mem_cons_self
    have h : 32 * yw_pr r + d = 32 * yw_pr r' + d' := h
    have e1 : d = d' := by omega
    have e2 : yw_pr r = yw_pr r' := by omega
    rw [e1, yw_inj (fun x hx => ha x (List.mem_cons_of_mem _ hx)) (fun x hx => hb x (List.mem_cons_of_mem _ hx)) e2]
theorem yw_rl_d {T : Nat → Int} {s : Nat} : ∀ {m : Nat}, (∀ t, t < m → 97 ≤ T (s + t) ∧ T (s + t) ≤ 122) → ∀ d ∈ yw_rl T s m, 1 ≤ d ∧ d < 32
  | 0, _, d, hd => absurd hd List.not_mem_nil
  | m + 1, h, d, hd => by
    rcases List.mem_cons.mp hd with rfl | hd
    · have := h m (Nat.lt_succ_self _)
      omega
    · exact yw_rl_d (fun t ht => h t (Nat.lt_succ_of_lt ht)) d hd
theorem yw_pr_b : ∀ {m : Nat} {T : Nat → Int} {s : Nat}, (∀ t, t < m → 97 ≤ T (s + t) ∧ T (s + t) ≤ 122) → yw_pr (yw_rl T s m) < 32 ^ m
  | 0, _, _, _ => by
    show 0 < 32 ^ 0
    decide
  | m + 1, T, s, h => by
    have h1 := yw_pr_b (m := m) (T := T) (s := s) (fun t ht => h t (Nat.lt_succ_of_lt ht))
    have h2 := h m (Nat.lt_succ_self _)
    show 32 * yw_pr (yw_rl T s m) + (T (s + m) - 96).toNat < 32 ^ (m + 1)
    rw [Nat.pow_succ]
    omega
theorem yw_or {a d : Nat} (ha : a < 2 ^ 40) (hd : d < 32) : za_shl0 (Int64.ofNat a) (Int32.ofInt 5) ||| Int64.ofNat d = Int64.ofNat (32 * a + d) := by
  have e5 : (Int32.ofInt 5).toInt64 &&& 63 = 5 := by decide
  unfold za_shl0
  rw [e5]
  apply Int64.toBitVec_inj.mp
  apply BitVec.eq_of_toNat_eq
  have h1 : (Int64.ofNat a <<< (5 : Int64)).toBitVec = BitVec.ofNat 64 a <<< 5 := rfl
  rw [Int64.toBitVec_or, h1]
  show (BitVec.ofNat 64 a <<< 5 ||| BitVec.ofNat 64 d).toNat = (BitVec.ofNat 64 (32 * a + d)).toNat
  rw [BitVec.toNat_or, BitVec.toNat_shiftLeft, BitVec.toNat_ofNat, BitVec.toNat_ofNat, BitVec.toNat_ofNat, Nat.mod_eq_of_lt (show a < 2 ^ 64 by omega), Nat.mod_eq_of_lt (show d < 2 ^ 64 by omega), Nat.mod_eq_of_lt (show 32 * a + d < 2 ^ 64 by omega)]
  have h2 : a <<< 5 = 32 * a := by
    rw [Nat.shiftLeft_eq]
    omega
  rw [h2, Nat.mod_eq_of_lt (show 32 * a < 2 ^ 64 by omega), ← h2]
  rw [← Nat.shiftLeft_add_eq_or_of_lt (show d < 2 ^ 5 by omega)]
theorem yw_d64 {t : Int} (h : 97 ≤ t ∧ t ≤ 122) : (Int32.ofInt t - Int32.ofInt 96).toInt64 = Int64.ofNat (t - 96).toNat := by
  obtain ⟨j, hj, rfl⟩ : ∃ j : Nat, j < 26 ∧ t = ((j + 97 : Nat) : Int) := ⟨(t - 97).toNat, by omega, by omega⟩
  revert j
  decide +kernel
theorem yw_pk {T : Nat → Int} {s : Nat} : ∀ {m : Nat}, m ≤ 7 → (∀ t, t < m → 97 ≤ T (s + t) ∧ T (s + t) ≤ 122) → ys_pk T s m = Int64.ofNat (yw_pr (yw_rl T s m))
  | 0, _, _ => rfl
  | m + 1, hm, h => by
    have ih := yw_pk (T := T) (s := s) (m := m) (by omega) (fun t ht => h t (Nat.lt_succ_of_lt ht))
    have hb := yw_pr_b (m := m) (T := T) (s := s) (fun t ht => h t (Nat.lt_succ_of_lt ht))
    have h2 := h m (Nat.lt_succ_self _)
    have h40 : yw_pr (yw_rl T s m) < 2 ^ 40 := by
      have : 32 ^ m ≤ 32 ^ 7 := Nat.pow_le_pow_right (by decide) (by omega)
      have e : (32 : Nat) ^ 7 = 34359738368 := by decide
      omega
    show za_shl0 (ys_pk T s m) (Int32.ofInt 5) ||| (Int32.ofInt (T (s + m)) - Int32.ofInt 96).toInt64 = Int64.ofNat (32 * yw_pr (yw_rl T s m) + (T (s + m) - 96).toNat)
    rw [ih, yw_d64 h2, yw_or h40 (by omega)]
theorem yw_cd {T : Nat → Int} {s m : Nat} {w : List Nat} (hm : m ≤ 7) (h : ∀ t, t < m → 97 ≤ T (s + t) ∧ T (s + t) ≤ 122) (hw : w.all (fun d => (Nat.ble 1 d).and (Nat.blt d 32)) = true) (hl : yw_pr w < 2 ^ 40) : Int64.ofNat (yw_pr w) = ys_pk T s m ↔ yw_rl T s m = w := by
  rw [yw_pk hm h]
  have hb := yw_pr_b (m := m) (T := T) (s := s) h
  have h40 : yw_pr (yw_rl T s m) < 2 ^ 40 := by
    have : 32 ^ m ≤ 32 ^ 7 := Nat.pow_le_pow_right (by decide) (by omega)
    have e : (32 : Nat) ^ 7 = 34359738368 := by decide
    omega
  have hw : ∀ d ∈ w, 1 ≤ d ∧ d < 32 := fun d hd => by
    obtain ⟨a, b⟩ := Bool.and_eq_true_iff.mp (List.all_eq_true.mp hw d hd)
    exact ⟨za_ble a, za_blt b⟩
  constructor
  · intro h9
    have h8 := congrArg (fun z : Int64 => z.toBitVec.toNat) h9
    have h8 : yw_pr w % 2 ^ 64 = yw_pr (yw_rl T s m) % 2 ^ 64 := h8
    rw [Nat.mod_eq_of_lt (by omega), Nat.mod_eq_of_lt (by omega)] at h8
    exact yw_inj (yw_rl_d h) hw h8.symm
  · intro h9
    rw [h9]

def yw_f (R : List Nat) : Nat → List (List Nat) → Int
  | _, [] => -1
  | k, x :: l => if R = x then (k : Int) else yw_f R (k + 1) l
theorem yw_fz {w : Int64} {R : List Nat} : ∀ {cs : List Int64} {ws : List (List Nat)} {k : Nat}, za_F2 (fun c x => (c = w ↔ R = x)) cs ws → zg_f w k cs = yw_f R k ws
  | [], [], _, _ => rfl
  | c :: cs, x :: ws, k, h => by
    unfold zg_f yw_f
    by_cases h1 : c = w
    · rw [if_pos h1, if_pos (h.1.mp h1)]
    · rw [if_neg h1, if_neg (fun h9 => h1 (h.1.mpr h9))]
      exact yw_fz h.2
  | [], _ :: _, _, h => h.elim
  | _ :: _, [], _, h => h.elim
def yw_ws : List (List Nat) := [[8, 20, 18, 15, 14], [20, 19, 1, 5], [8, 20, 21, 15, 19], [20, 19, 5, 23], [24], [25], [18, 21, 15, 8], [5, 4, 9, 20], [1, 5, 19], [11, 3, 15, 18], [20, 14, 5, 18, 18, 21, 3], [5, 20, 1, 12, 19], [4, 14, 1, 8], [12, 15, 15, 8, 3, 19], [12, 1, 15, 7], [20, 15, 12, 9, 16], [5, 12, 21, 18], [15, 7], [4, 14, 1], [18, 15], [20, 15, 14]]
def yw_ref (R : List Nat) : Int := yw_f R 0 yw_ws
def yw_cls (R : List Nat) : Int := if R = [8, 20, 18, 15, 14] then 0 else if R = [20, 19, 1, 5] then 1 else if R = [8, 20, 21, 15, 19] then 2 else if R = [20, 19, 5, 23] then 3 else if R = [24] then 4 else if R = [25] then 5 else if R = [18, 21, 15, 8] then 6 else if R = [5, 4, 9, 20] then 7 else if R = [18, 15] then 8 else if R = [4, 14, 1] then 9 else if R = [20, 15, 14] then 10 else if R = [15, 7] then 11 else if R = [1, 5, 19] then 12 else if R = [11, 3, 15, 18] then 13 else if R = [20, 14, 5, 18, 18, 21, 3] then 14 else if R = [5, 20, 1, 12, 19] then 15 else if R = [4, 14, 1, 8] then 16 else if R = [12, 15, 15, 8, 3, 19] then 17 else if R = [12, 1, 15, 7] then 18 else if R = [20, 15, 12, 9, 16] then 19 else if R = [5, 12, 21, 18] then 20 else  21
theorem yw_zg {T : Nat → Int} {s m : Nat} (hm : m ≤ 7) (h : ∀ t, t < m → 97 ≤ T (s + t) ∧ T (s + t) ≤ 122) : zg_f (ys_pk T s m) 0 zg_l = yw_ref (yw_rl T s m) := by
  have key : ∀ (w : List Nat) (c : Int64), c = Int64.ofNat (yw_pr w) → w.all (fun d => (Nat.ble 1 d).and (Nat.blt d 32)) = true → yw_pr w < 2 ^ 40 → ((c = ys_pk T s m) ↔ (yw_rl T s m = w)) := fun w c hc h1 h2 => by
    rw [hc]
    exact yw_cd hm h h1 h2
  refine yw_fz (R := yw_rl T s m) (ws := yw_ws) ?_
  exact ⟨key _ _ (by decide +kernel) (by decide) (by decide +kernel), key _ _ (by decide +kernel) (by decide) (by decide +kernel), key _ _ (by decide +kernel) (by decide) (by decide +kernel), key _ _ (by decide +kernel) (by decide) (by decide +kernel), key _ _ (by decide +kernel) (by decide) (by decide +kernel), key _ _ (by decide +kernel) (by decide) (by decide +kernel), key _ _ (by decide +kernel) (by decide) (by decide +kernel), key _ _ (by decide +kernel) (by decide) (by decide +kernel), key _ _ (by decide +kernel) (by decide) (by decide +kernel), key _ _ (by decide +kernel) (by decide) (by decide +kernel), key _ _ (by decide +kernel) (by decide) (by decide +kernel), key _ _ (by decide +kernel) (by decide) (by decide +kernel), key _ _ (by decide +kernel) (by decide) (by decide +kernel), key _ _ (by decide +kernel) (by decide) (by decide +kernel), key _ _ (by decide +kernel) (by decide) (by decide +kernel), key _ _ (by decide +kernel) (by decide) (by decide +kernel), key _ _ (by decide +kernel) (by decide) (by decide +kernel), key _ _ (by decide +kernel) (by decide) (by decide +kernel), key _ _ (by decide +kernel) (by decide) (by decide +kernel), key _ _ (by decide +kernel) (by decide) (by decide +kernel), key _ _ (by decide +kernel) (by decide) (by decide +kernel), trivial⟩
def yw_m (v : Int) : Int := if v = 8 then 19 else if v = 9 then 18 else if v = 10 then 20 else if v = 11 then 17 else if v = 12 then 8 else if v = 13 then 9 else if v = 14 then 10 else if v = 15 then 11 else if v = 16 then 12 else if v = 17 then 13 else if v = 18 then 14 else if v = 19 then 15 else if v = 20 then 16 else if v = 21 then -1 else v
theorem yw_rc (R : List Nat) : yw_ref R = yw_m (yw_cls R) := by
  by_cases h0 : R = [8, 20, 18, 15, 14]
  · rw [h0]
    decide
  by_cases h1 : R = [20, 19, 1, 5]
  · rw [h1]
    decide
  by_cases h2 : R = [8, 20, 21, 15, 19]
  · rw [h2]
    decide
  by_cases h3 : R = [20, 19, 5, 23]
  · rw [h3]
    decide
  by_cases h4 : R = [24]
  · rw [h4]
    decide
  by_cases h5 : R = [25]
  · rw [h5]
    decide
  by_cases h6 : R = [18, 21, 15, 8]
  · rw [h6]
    decide
  by_cases h7 : R = [5, 4, 9, 20]
  · rw [h7]
    decide
  by_cases h8 : R = [18, 15]
  · rw [h8]
    decide
  by_cases h9 : R = [4, 14, 1]
  · rw [h9]
    decide
  by_cases h10 : R = [20, 15, 14]
  · rw [h10]
    decide
  by_cases h11 : R = [15, 7]
  · rw [h11]
    decide
  by_cases h12 : R = [1, 5, 19]
  · rw [h12]
    decide
  by_cases h13 : R = [11, 3, 15, 18]
  · rw [h13]
    decide
  by_cases h14 : R = [20, 14, 5, 18, 18, 21, 3]
  · rw [h14]
    decide
  by_cases h15 : R = [5, 20, 1, 12, 19]
  · rw [h15]
    decide
  by_cases h16 : R = [4, 14, 1, 8]
  · rw [h16]
    decide
  by_cases h17 : R = [12, 15, 15, 8, 3, 19]
  · rw [h17]
    decide
  by_cases h18 : R = [12, 1, 15, 7]
  · rw [h18]
    decide
  by_cases h19 : R = [20, 15, 12, 9, 16]
  · rw [h19]
    decide
  by_cases h20 : R = [5, 12, 21, 18]
  · rw [h20]
    decide
  have e : yw_ref R = -1 := by
    unfold yw_ref yw_ws
    simp only [yw_f]
    rw [if_neg h0, if_neg h1, if_neg h2, if_neg h3, if_neg h4, if_neg h5, if_neg h6, if_neg h7, if_neg h12, if_neg h13, if_neg h14, if_neg h15, if_neg h16, if_neg h17, if_neg h18, if_neg h19, if_neg h20, if_neg h11, if_neg h9, if_neg h8, if_neg h10]
  rw [e]
  unfold yw_cls
  rw [if_neg h0, if_neg h1, if_neg h2, if_neg h3, if_neg h4, if_neg h5, if_neg h6, if_neg h7, if_neg h8, if_neg h9, if_neg h10, if_neg h11, if_neg h12, if_neg h13, if_neg h14, if_neg h15, if_neg h16, if_neg h17, if_neg h18, if_neg h19, if_neg h20]
  decide
end
section
/-! ===== an expression, said once for both sides: a machine over tokens ===== -/
abbrev yM : Type := Nat × List Bool × Nat
abbrev yB (T : Nat → Int) (n p : Nat) : Prop := ys_kd T n p = 2 ∨ ys_kd T n p = 3 ∨ (ys_kd T n p = 4 ∧ ys_vl T n p = 40)
/-- a step: mode 0 behind an operand, 1 before one, 2 + k before one, k NOTs read -/
def yN (T : Nat → Int) (n : Nat) (s : yM) : yM ⊕ (Int × Nat) :=
  if s.1 = 0 then
    if ys_kd T n s.2.2 = 3 ∧ (ys_vl T n s.2.2 = 9 ∨ ys_vl T n s.2.2 = 8) then .inl (2, false :: s.2.1.tail, ys_nx T n s.2.2)
    else if ys_kd T n s.2.2 = 4 ∧ (ys_vl T n s.2.2 = 60 ∨ ys_vl T n s.2.2 = 61) ∧ s.2.1.head? = some false then .inl (1, true :: s.2.1.tail, ys_nx T n s.2.2)
    else if ys_kd T n s.2.2 = 4 ∧ (ys_vl T n s.2.2 = 43 ∨ ys_vl T n s.2.2 = 45) then .inl (1, s.2.1, ys_nx T n s.2.2)
    else if ys_kd T n s.2.2 = 4 ∧ (ys_vl T n s.2.2 = 42 ∨ ys_vl T n s.2.2 = 47) then .inl (1, s.2.1, ys_nx T n s.2.2)
    else if ys_kd T n s.2.2 = 4 ∧ ys_vl T n s.2.2 = 41 ∧ 1 < s.2.1.length then .inl (0, s.2.1.tail, ys_nx T n s.2.2)
    else if 1 < s.2.1.length then .inr (1, s.2.2) else .inr (0, s.2.2)
  else if ys_kd T n s.2.2 = 3 ∧ ys_vl T n s.2.2 = 10 ∧ 2 ≤ s.1 then
    (if s.1 = 8 then .inr (2, s.2.2) else .inl (s.1 + 1, s.2.1, ys_nx T n s.2.2))
  else if ys_kd T n s.2.2 = 4 ∧ ys_vl T n s.2.2 = 40 then
    (if s.2.1.length < 6 then .inl (2, false :: s.2.1, ys_nx T n s.2.2) else .inr (if yB T n (ys_nx T n s.2.2) then 2 else 1, ys_nx T n s.2.2))
  else if ys_kd T n s.2.2 = 2 then (if 9999 < ys_vl T n s.2.2 then .inr (2, s.2.2) else .inl (0, s.2.1, ys_nx T n s.2.2))
  else if ys_kd T n s.2.2 = 3 then (if ys_vl T n s.2.2 < 8 then .inl (0, s.2.1, ys_nx T n s.2.2) else .inr (3, s.2.2))
  else .inr (1, s.2.2)
def yAf (T : Nat → Int) (n : Nat) : Nat → yM → Option (Int × Nat)
  | 0, _ => none
  | f + 1, s => match yN T n s with
    | .inr r => some r
    | .inl s' => yAf T n f s'
def yA (T : Nat → Int) (n : Nat) (s : yM) (r : Int × Nat) : Prop := ∃ f, yAf T n f s = some r
theorem yAf_d {T : Nat → Int} {n f : Nat} {s : yM} {r : Int × Nat} (h : yN T n s = .inr r) : yAf T n (f + 1) s = some r := by
  unfold yAf
  rw [h]
theorem yAf_s {T : Nat → Int} {n f : Nat} {s s' : yM} (h : yN T n s = .inl s') : yAf T n (f + 1) s = yAf T n f s' := by
  show (match yN T n s with
    | .inr r => some r
    | .inl s' => yAf T n f s') = _
  rw [h]
theorem yA_done {T : Nat → Int} {n : Nat} {s : yM} {r : Int × Nat} (h : yN T n s = .inr r) : yA T n s r := ⟨1, yAf_d h⟩
theorem yA_step {T : Nat → Int} {n : Nat} {s s' : yM} {r : Int × Nat} (h : yN T n s = .inl s') (h1 : yA T n s' r) : yA T n s r := by
  obtain ⟨f, hf⟩ := h1
  exact ⟨f + 1, (yAf_s h).trans hf⟩
/-- what is read from s' on is read from s on -/
def yR (T : Nat → Int) (n : Nat) (s s' : yM) : Prop := ∀ r, yA T n s' r → yA T n s r
theorem yR_r {T : Nat → Int} {n : Nat} {s : yM} : yR T n s s := fun _ h => h
theorem yR_t {T : Nat → Int} {n : Nat} {s s' s'' : yM} (h1 : yR T n s s') (h2 : yR T n s' s'') : yR T n s s'' := fun r h => h1 r (h2 r h)
theorem yR_s {T : Nat → Int} {n : Nat} {s s' : yM} (h : yN T n s = .inl s') : yR T n s s' := fun _ h1 => yA_step h h1
theorem yR_e {T : Nat → Int} {n : Nat} {s s' : yM} (h : yN T n s = yN T n s') : yR T n s s' := fun _ h1 => by
  obtain ⟨f, hf⟩ := h1
  match f, hf with
  | f + 1, hf =>
    refine ⟨f + 1, ?_⟩
    unfold yAf
    unfold yAf at hf
    rw [h]
    exact hf
section
variable {T : Nat → Int} {n p : Nat} {lv : List Bool} {b : Bool}
theorem yN_ao (hk : ys_kd T n p = 3) (hv : ys_vl T n p = 9 ∨ ys_vl T n p = 8) : yN T n (0, lv, p) = .inl (2, false :: lv.tail, ys_nx T n p) := by
  unfold yN
  rw [if_pos rfl, if_pos ⟨hk, hv⟩]
theorem yN_lt (hk : ys_kd T n p = 4) (hv : ys_vl T n p = 60 ∨ ys_vl T n p = 61) : yN T n (0, false :: lv, p) = .inl (1, true :: lv, ys_nx T n p) := by
  unfold yN
  rw [if_pos rfl, if_neg (by show ¬ (ys_kd T n p = 3 ∧ _); omega), if_pos ⟨hk, hv, rfl⟩]
  rfl
theorem yN_pm (hk : ys_kd T n p = 4) (hv : ys_vl T n p = 43 ∨ ys_vl T n p = 45) : yN T n (0, lv, p) = .inl (1, lv, ys_nx T n p) := by
  unfold yN
  rw [if_pos rfl, if_neg (by show ¬ (ys_kd T n p = 3 ∧ _); omega), if_neg (by show ¬ (_ ∧ (ys_vl T n p = 60 ∨ ys_vl T n p = 61) ∧ _); omega), if_pos ⟨hk, hv⟩]
theorem yN_md (hk : ys_kd T n p = 4) (hv : ys_vl T n p = 42 ∨ ys_vl T n p = 47) : yN T n (0, lv, p) = .inl (1, lv, ys_nx T n p) := by
  unfold yN
  rw [if_pos rfl, if_neg (by show ¬ (ys_kd T n p = 3 ∧ _); omega), if_neg (by show ¬ (_ ∧ (ys_vl T n p = 60 ∨ ys_vl T n p = 61) ∧ _); omega), if_neg (by show ¬ (_ ∧ (ys_vl T n p = 43 ∨ ys_vl T n p = 45)); omega), if_pos ⟨hk, hv⟩]
theorem yN_cl (hk : ys_kd T n p = 4) (hv : ys_vl T n p = 41) (hl : 1 < lv.length) : yN T n (0, lv, p) = .inl (0, lv.tail, ys_nx T n p) := by
  unfold yN
  rw [if_pos rfl, if_neg (by show ¬ (ys_kd T n p = 3 ∧ _); omega), if_neg (by show ¬ (_ ∧ (ys_vl T n p = 60 ∨ ys_vl T n p = 61) ∧ _); omega), if_neg (by show ¬ (_ ∧ (ys_vl T n p = 43 ∨ ys_vl T n p = 45)); omega), if_neg (by show ¬ (_ ∧ (ys_vl T n p = 42 ∨ ys_vl T n p = 47)); omega), if_pos ⟨hk, hv, hl⟩]
/-- the token ends an expression: no AND, OR, no sign of a reckoning; none that tests, or it has tested -/
def yQ (T : Nat → Int) (n p : Nat) : Prop := ¬ (ys_kd T n p = 3 ∧ (ys_vl T n p = 9 ∨ ys_vl T n p = 8)) ∧ ¬ (ys_kd T n p = 4 ∧ (ys_vl T n p = 43 ∨ ys_vl T n p = 45)) ∧ ¬ (ys_kd T n p = 4 ∧ (ys_vl T n p = 42 ∨ ys_vl T n p = 47))
theorem yN_en (h : yQ T n p) (ht : ¬ (ys_kd T n p = 4 ∧ (ys_vl T n p = 60 ∨ ys_vl T n p = 61) ∧ lv.head? = some false)) (hl : ¬ (ys_kd T n p = 4 ∧ ys_vl T n p = 41 ∧ 1 < lv.length)) : yN T n (0, lv, p) = if 1 < lv.length then .inr (1, p) else .inr (0, p) := by
  unfold yN
  rw [if_pos rfl, if_neg h.1, if_neg ht, if_neg h.2.1, if_neg h.2.2, if_neg hl]
theorem yN_no {k : Nat} (hk : ys_kd T n p = 3) (hv : ys_vl T n p = 10) (h8 : k < 6) : yN T n (2 + k, lv, p) = .inl (2 + (k + 1), lv, ys_nx T n p) := by
  unfold yN
  rw [if_neg (by show ¬ 2 + k = 0; omega), if_pos ⟨hk, hv, by show 2 ≤ 2 + k; omega⟩, if_neg (by show ¬ 2 + k = 8; omega)]
  rfl
theorem yN_no6 (hk : ys_kd T n p = 3) (hv : ys_vl T n p = 10) : yN T n (8, lv, p) = .inr (2, p) := by
  unfold yN
  rw [if_neg (by show ¬ (8 : Nat) = 0; omega), if_pos ⟨hk, hv, by show 2 ≤ (8 : Nat); omega⟩, if_pos rfl]
theorem yN_x {m : Nat} (hm : m ≠ 0) (h : ¬ (ys_kd T n p = 3 ∧ ys_vl T n p = 10)) : yN T n (m, lv, p) = if ys_kd T n p = 4 ∧ ys_vl T n p = 40 then
    (if lv.length < 6 then .inl (2, false :: lv, ys_nx T n p) else .inr (if yB T n (ys_nx T n p) then 2 else 1, ys_nx T n p))
  else if ys_kd T n p = 2 then (if 9999 < ys_vl T n p then .inr (2, p) else .inl (0, lv, ys_nx T n p))
  else if ys_kd T n p = 3 then (if ys_vl T n p < 8 then .inl (0, lv, ys_nx T n p) else .inr (3, p))
  else .inr (1, p) := by
  unfold yN
  rw [if_neg (show ¬ (m, lv, p).1 = 0 from hm), if_neg (fun h9 => h ⟨h9.1, h9.2.1⟩)]
theorem yN_nn {k : Nat} (h : ¬ (ys_kd T n p = 3 ∧ ys_vl T n p = 10)) : yN T n (2 + k, lv, p) = yN T n (1, lv, p) := (yN_x (by omega) h).trans (yN_x (by omega) h).symm
theorem yN_op (hk : ys_kd T n p = 4) (hv : ys_vl T n p = 40) : yN T n (1, lv, p) = if lv.length < 6 then .inl (2, false :: lv, ys_nx T n p) else .inr (if yB T n (ys_nx T n p) then 2 else 1, ys_nx T n p) := by
  unfold yN
  rw [if_neg (by show ¬ (1 : Nat) = 0; omega), if_neg (by show ¬ (ys_kd T n p = 3 ∧ _); omega), if_pos ⟨hk, hv⟩]
theorem yN_nu (hk : ys_kd T n p = 2) : yN T n (1, lv, p) = if 9999 < ys_vl T n p then .inr (2, p) else .inl (0, lv, ys_nx T n p) := by
  unfold yN
  rw [if_neg (by show ¬ (1 : Nat) = 0; omega), if_neg (by show ¬ (ys_kd T n p = 3 ∧ _); omega), if_neg (by show ¬ (ys_kd T n p = 4 ∧ _); omega), if_pos hk]
theorem yN_wo (hk : ys_kd T n p = 3) : yN T n (1, lv, p) = if ys_vl T n p < 8 then .inl (0, lv, ys_nx T n p) else .inr (3, p) := by
  unfold yN
  rw [if_neg (by show ¬ (1 : Nat) = 0; omega), if_neg (by show ¬ (_ ∧ _ ∧ 2 ≤ 1); omega), if_neg (by show ¬ (ys_kd T n p = 4 ∧ _); omega), if_neg (by show ¬ ys_kd T n p = 2; omega), if_pos hk]
theorem yN_un (h1 : ¬ (ys_kd T n p = 4 ∧ ys_vl T n p = 40)) (h2 : ys_kd T n p ≠ 2) (h3 : ys_kd T n p ≠ 3) : yN T n (1, lv, p) = .inr (1, p) := by
  unfold yN
  rw [if_neg (by show ¬ (1 : Nat) = 0; omega), if_neg (by show ¬ (ys_kd T n p = 3 ∧ _); omega), if_neg h1, if_neg h2, if_neg h3]
end
end
section
/-! ===== numbers are not below 0 ===== -/
theorem ys_run_p {P : Int → Bool} {T : Nat → Int} : ∀ (f q t : Nat), t < ys_run P T f q - q → P (T (q + t)) = true
  | 0, q, t, h => by
    have h : t < q - q := h
    omega
  | f + 1, q, t, h => by
    cases hP : P (T q) with
    | false =>
      have e : ys_run P T (f + 1) q = q := by
        show (bif P (T q) then _ else _) = _
        rw [hP]
        rfl
      omega
    | true =>
      have e : ys_run P T (f + 1) q = ys_run P T f (q + 1) := by
        show (bif P (T q) then _ else _) = _
        rw [hP]
        rfl
      cases t with
      | zero => exact hP
      | succ t =>
        have := ys_run_p (P := P) (T := T) f (q + 1) t (by omega)
        rw [show q + (t + 1) = q + 1 + t by omega]
        exact this
theorem ys_vl_n {T : Nat → Int} {n p : Nat} (h : ys_kd T n p = 2) : ys_st T n p < n ∧ ys_D (T (ys_st T n p)) = true ∧ ys_nx T n p = ys_run ys_D T (n - ys_st T n p) (ys_st T n p) ∧ ys_vl T n p = (if 4 < ys_nx T n p - ys_st T n p then 2147483647 else ys_nm T (ys_st T n p) (ys_nx T n p - ys_st T n p)) := by
  unfold ys_kd ys_ks at h
  by_cases h1 : n ≤ ys_st T n p
  · rw [if_pos h1] at h
    omega
  · rw [if_neg h1] at h
    cases hL : ys_L (T (ys_st T n p)) with
    | true => rw [hL] at h; exact absurd (show (3 : Int) = 2 from h) (by decide)
    | false =>
      rw [hL] at h
      cases hD : ys_D (T (ys_st T n p)) with
      | true =>
        refine ⟨by omega, rfl, ?_, ?_⟩
        · unfold ys_nx ys_es
          rw [if_neg h1, hL, hD]
          rfl
        · unfold ys_vl ys_vs
          rw [hL, hD]
          rfl
      | false =>
        rw [hD] at h
        cases hG : ys_G (T (ys_st T n p)) with
        | true => rw [hG] at h; exact absurd (show (4 : Int) = 2 from h) (by decide)
        | false => rw [hG] at h; exact absurd (show (1 : Int) = 2 from h) (by decide)
theorem ys_nm_b {T : Nat → Int} {s : Nat} : ∀ (m : Nat), m ≤ 4 → (∀ t, t < m → 48 ≤ T (s + t) ∧ T (s + t) ≤ 57) → 0 ≤ ys_nm T s m ∧ ys_nm T s m ≤ ys_10 m
  | 0, _, _ => ⟨Int.le_refl 0, by show (0 : Int) ≤ ys_10 0; decide⟩
  | m + 1, hm, h => (ys_10b (ys_nm_b m (by omega) (fun t ht => h t (by omega))) (by omega) (h m (by omega))).2
theorem xs_vl_n0 {T : Nat → Int} {n p : Nat} (hp : p ≤ n) (hk : ys_kd T n p = 2) : 0 ≤ ys_vl T n p := by
  have hb := ys_nxb (T := T) hp
  obtain ⟨g1, g2, g3, g4⟩ := ys_vl_n hk
  rw [g4]
  split
  · decide
  · exact (ys_nm_b (T := T) (s := ys_st T n p) (ys_nx T n p - ys_st T n p) (by omega) (fun t ht => by
        rw [g3] at ht
        exact of_decide_eq_true (ys_run_p _ _ t ht))).1
end
section
/-! ===== codes of rules: a machine that puts them out, rows, what they are worth ===== -/
/-- (0, v) a number, (1, k) a value, (a, 0) an act of the reference: 3 not, 4 and, 5 or, 6 less, 7 same, 8 plus, 9 minus, 10 times, 11 divided; 14 open -/
abbrev xIt : Type := Nat × Int
def xAc (a : Nat) : xIt := (a, 0)
def xSg (a : Nat) : Nat := if a = 5 then 1 else if a = 4 then 2 else if a = 3 then 3 else if a = 6 ∨ a = 7 then 4 else if a = 8 ∨ a = 9 then 5 else 6
/-- those that wait and are at least so strong are dropped, up to one that is open -/
def xDp (l : Nat) : List Nat → List Nat × List Nat
  | [] => ([], [])
  | a :: w => if a < 14 ∧ l ≤ xSg a then (a :: (xDp l w).1, (xDp l w).2) else ([], a :: w)
def xTop (l : Nat) : List Nat → Prop
  | [] => True
  | a :: _ => 14 ≤ a ∨ xSg a < l
theorem xTop_up {l l2 : Nat} {W : List Nat} (hl : l ≤ l2) (h : xTop l W) : xTop l2 W := by
  cases W with
  | nil => exact trivial
  | cons a w =>
    have h : 14 ≤ a ∨ xSg a < l := h
    show 14 ≤ a ∨ xSg a < l2
    omega
theorem xDp_0 {l : Nat} {W : List Nat} (hW : xTop l W) : xDp l W = ([], W) := by
  cases W with
  | nil => rfl
  | cons a w =>
    have h : 14 ≤ a ∨ xSg a < l := hW
    exact if_neg (by omega)
theorem xDp_app {l : Nat} {P W : List Nat} (hP : ∀ a ∈ P, a < 14 ∧ l ≤ xSg a) (hW : xTop l W) : xDp l (P ++ W) = (P, W) := by
  induction P with
  | nil => exact xDp_0 hW
  | cons a P ih =>
    have h := hP a List.mem_cons_self
    have e := ih (fun b hb => hP b (List.mem_cons_of_mem _ hb))
    show (if a < 14 ∧ l ≤ xSg a then (a :: (xDp l (P ++ W)).1, (xDp l (P ++ W)).2) else ([], a :: (P ++ W))) = (a :: P, W)
    rw [if_pos h, e]
/-- an act comes: what is as strong is dropped, it waits -/
def xPs (l a : Nat) (W : List Nat) (O : List xIt) : List Nat × List xIt := (a :: (xDp l W).2, O ++ (xDp l W).1.map xAc)
def xWO (T : Nat → Int) (n m p : Nat) (W : List Nat) (O : List xIt) : List Nat × List xIt :=
  if m = 0 then
    if ys_kd T n p = 3 then (if ys_vl T n p = 9 then xPs 2 4 W O else xPs 1 5 W O)
    else if ys_vl T n p = 60 then xPs 4 6 W O
    else if ys_vl T n p = 61 then xPs 4 7 W O
    else if ys_vl T n p = 43 then xPs 5 8 W O
    else if ys_vl T n p = 45 then xPs 5 9 W O
    else if ys_vl T n p = 42 then xPs 6 10 W O
    else if ys_vl T n p = 47 then xPs 6 11 W O
    else ((xDp 0 W).2.tail, O ++ (xDp 0 W).1.map xAc)
  else if ys_kd T n p = 3 ∧ ys_vl T n p = 10 ∧ 2 ≤ m then (3 :: W, O)
  else if ys_kd T n p = 4 then (14 :: W, O)
  else if ys_kd T n p = 2 then (W, O ++ [(0, ys_vl T n p)])
  else (W, O ++ [(1, ys_vl T n p)])
def yTf (T : Nat → Int) (n : Nat) : Nat → yM → List Nat → List xIt → Option (Nat × List xIt)
  | 0, _, _, _ => none
  | f + 1, s, W, O => match yN T n s with
    | .inr r => if r.1 = 0 then some (r.2, O ++ (xDp 0 W).1.map xAc) else none
    | .inl s' => yTf T n f s' (xWO T n s.1 s.2.2 W O).1 (xWO T n s.1 s.2.2 W O).2
def yTA (T : Nat → Int) (n : Nat) (s : yM) (W : List Nat) (O : List xIt) (r : Nat × List xIt) : Prop := ∃ f, yTf T n f s W O = some r
theorem yTf_s {T : Nat → Int} {n f : Nat} {s s' : yM} {W : List Nat} {O : List xIt} (h : yN T n s = .inl s') : yTf T n (f + 1) s W O = yTf T n f s' (xWO T n s.1 s.2.2 W O).1 (xWO T n s.1 s.2.2 W O).2 := by
  show (match yN T n s with
    | .inr r => if r.1 = 0 then some (r.2, O ++ (xDp 0 W).1.map xAc) else none
    | .inl s' => yTf T n f s' (xWO T n s.1 s.2.2 W O).1 (xWO T n s.1 s.2.2 W O).2) = _
  rw [h]
theorem yTf_e {T : Nat → Int} {n f : Nat} {s : yM} {W : List Nat} {O : List xIt} {r : Int × Nat} (h : yN T n s = .inr r) : yTf T n (f + 1) s W O = if r.1 = 0 then some (r.2, O ++ (xDp 0 W).1.map xAc) else none := by
  show (match yN T n s with
    | .inr r => if r.1 = 0 then some (r.2, O ++ (xDp 0 W).1.map xAc) else none
    | .inl s' => yTf T n f s' (xWO T n s.1 s.2.2 W O).1 (xWO T n s.1 s.2.2 W O).2) = _
  rw [h]
theorem yTf_u {T : Nat → Int} {n : Nat} {r r' : Nat × List xIt} : ∀ (f f' : Nat) (s : yM) (W : List Nat) (O : List xIt), yTf T n f s W O = some r → yTf T n f' s W O = some r' → r = r'
  | 0, _, _, _, _, h, _ => by cases h
  | _ + 1, 0, _, _, _, _, h => by cases h
  | f + 1, f' + 1, s, W, O, h, h' => by
    cases hN : yN T n s with
    | inr r9 =>
      rw [yTf_e hN] at h h'
      exact Option.some.inj (h.symm.trans h')
    | inl s' =>
      rw [yTf_s hN] at h h'
      exact yTf_u f f' s' _ _ h h'
theorem yTA_u {T : Nat → Int} {n : Nat} {s : yM} {W : List Nat} {O : List xIt} {r r' : Nat × List xIt} (h : yTA T n s W O r) (h' : yTA T n s W O r') : r = r' := by
  obtain ⟨f, h⟩ := h
  obtain ⟨f', h'⟩ := h'
  exact yTf_u f f' s W O h h'
theorem yTA_end {T : Nat → Int} {n q : Nat} {s : yM} {W : List Nat} {O : List xIt} (h : yN T n s = .inr (0, q)) : yTA T n s W O (q, O ++ (xDp 0 W).1.map xAc) := ⟨1, (yTf_e h).trans (if_pos rfl)⟩
/-- what is put out from the second on is put out from the first on -/
def yTR (T : Nat → Int) (n : Nat) (s : yM) (W : List Nat) (O : List xIt) (s' : yM) (W' : List Nat) (O' : List xIt) : Prop := ∀ r, yTA T n s' W' O' r → yTA T n s W O r
theorem yTR_r {T : Nat → Int} {n : Nat} {s : yM} {W : List Nat} {O : List xIt} : yTR T n s W O s W O := fun _ h => h
theorem yTR_t {T : Nat → Int} {n : Nat} {s1 s2 s3 : yM} {W1 W2 W3 : List Nat} {O1 O2 O3 : List xIt} (h1 : yTR T n s1 W1 O1 s2 W2 O2) (h2 : yTR T n s2 W2 O2 s3 W3 O3) : yTR T n s1 W1 O1 s3 W3 O3 := fun r h => h1 r (h2 r h)
theorem yTR_s {T : Nat → Int} {n : Nat} {s s' : yM} {W : List Nat} {O : List xIt} (h : yN T n s = .inl s') : yTR T n s W O s' (xWO T n s.1 s.2.2 W O).1 (xWO T n s.1 s.2.2 W O).2 := fun _ ⟨f, hf⟩ => ⟨f + 1, (yTf_s h).trans hf⟩
theorem yTR_w {T : Nat → Int} {n : Nat} {s s' : yM} {W W' : List Nat} {O O' : List xIt} (h : yN T n s = .inl s') (hw : xWO T n s.1 s.2.2 W O = (W', O')) : yTR T n s W O s' W' O' := by
  have k := yTR_s (W := W) (O := O) h
  rw [hw] at k
  exact k
/-- two states that step alike -/
theorem yTR_e {T : Nat → Int} {n : Nat} {s s' : yM} {W : List Nat} {O : List xIt} (h : yN T n s = yN T n s') (hw : xWO T n s.1 s.2.2 W O = xWO T n s'.1 s'.2.2 W O) : yTR T n s W O s' W O := fun r ⟨f, hf⟩ => by
  match f, hf with
  | f + 1, hf =>
    refine ⟨f + 1, ?_⟩
    cases hN : yN T n s' with
    | inr r9 =>
      rw [yTf_e hN] at hf
      rw [yTf_e (h.trans hN)]
      exact hf
    | inl s9 =>
      rw [yTf_s hN] at hf
      rw [yTf_s (h.trans hN), hw]
      exact hf
section
variable {T : Nat → Int} {n p m : Nat} {W : List Nat} {O : List xIt}
theorem xWO_an (hk : ys_kd T n p = 3) (hv : ys_vl T n p = 9) : xWO T n 0 p W O = xPs 2 4 W O := by
  unfold xWO
  rw [if_pos rfl, if_pos hk, if_pos hv]
theorem xWO_or (hk : ys_kd T n p = 3) (hv : ys_vl T n p = 8) : xWO T n 0 p W O = xPs 1 5 W O := by
  unfold xWO
  rw [if_pos rfl, if_pos hk, if_neg (by omega)]
theorem xWO_lt (hk : ys_kd T n p = 4) (hv : ys_vl T n p = 60) : xWO T n 0 p W O = xPs 4 6 W O := by
  unfold xWO
  rw [if_pos rfl, if_neg (by omega), if_pos hv]
theorem xWO_eq (hk : ys_kd T n p = 4) (hv : ys_vl T n p = 61) : xWO T n 0 p W O = xPs 4 7 W O := by
  unfold xWO
  rw [if_pos rfl, if_neg (by omega), if_neg (by omega), if_pos hv]
theorem xWO_pl (hk : ys_kd T n p = 4) (hv : ys_vl T n p = 43) : xWO T n 0 p W O = xPs 5 8 W O := by
  unfold xWO
  rw [if_pos rfl, if_neg (by omega), if_neg (by omega), if_neg (by omega), if_pos hv]
theorem xWO_mi (hk : ys_kd T n p = 4) (hv : ys_vl T n p = 45) : xWO T n 0 p W O = xPs 5 9 W O := by
  unfold xWO
  rw [if_pos rfl, if_neg (by omega), if_neg (by omega), if_neg (by omega), if_neg (by omega), if_pos hv]
theorem xWO_ti (hk : ys_kd T n p = 4) (hv : ys_vl T n p = 42) : xWO T n 0 p W O = xPs 6 10 W O := by
  unfold xWO
  rw [if_pos rfl, if_neg (by omega), if_neg (by omega), if_neg (by omega), if_neg (by omega), if_neg (by omega), if_pos hv]
theorem xWO_di (hk : ys_kd T n p = 4) (hv : ys_vl T n p = 47) : xWO T n 0 p W O = xPs 6 11 W O := by
  unfold xWO
  rw [if_pos rfl, if_neg (by omega), if_neg (by omega), if_neg (by omega), if_neg (by omega), if_neg (by omega), if_neg (by omega), if_pos hv]
theorem xWO_cl (hk : ys_kd T n p = 4) (hv : ys_vl T n p = 41) : xWO T n 0 p W O = ((xDp 0 W).2.tail, O ++ (xDp 0 W).1.map xAc) := by
  unfold xWO
  rw [if_pos rfl, if_neg (by omega), if_neg (by omega), if_neg (by omega), if_neg (by omega), if_neg (by omega), if_neg (by omega), if_neg (by omega)]
theorem xWO_no (hk : ys_kd T n p = 3) (hv : ys_vl T n p = 10) (hm : 2 ≤ m) : xWO T n m p W O = (3 :: W, O) := by
  unfold xWO
  rw [if_neg (by omega), if_pos ⟨hk, hv, hm⟩]
theorem xWO_op (hk : ys_kd T n p = 4) (hm : m ≠ 0) : xWO T n m p W O = (14 :: W, O) := by
  unfold xWO
  rw [if_neg hm, if_neg (by omega), if_pos hk]
theorem xWO_nu (hk : ys_kd T n p = 2) (hm : m ≠ 0) : xWO T n m p W O = (W, O ++ [(0, ys_vl T n p)]) := by
  unfold xWO
  rw [if_neg hm, if_neg (by omega), if_neg (by omega), if_pos hk]
theorem xWO_vl (hk : ys_kd T n p = 3) (hv : ys_vl T n p ≠ 10) (hm : m ≠ 0) : xWO T n m p W O = (W, O ++ [(1, ys_vl T n p)]) := by
  unfold xWO
  rw [if_neg hm, if_neg (fun h => hv h.2.1), if_neg (by omega), if_neg (by omega)]
/-- NOTs read before an operand don't matter, when none is at hand -/
theorem xWO_nn {k : Nat} (h : ¬ (ys_kd T n p = 3 ∧ ys_vl T n p = 10)) : xWO T n (2 + k) p W O = xWO T n 1 p W O := by
  unfold xWO
  rw [if_neg (show ¬ 2 + k = 0 by omega), if_neg (show ¬ (1 : Nat) = 0 by decide), if_neg (show ¬ (ys_kd T n p = 3 ∧ ys_vl T n p = 10 ∧ 2 ≤ 2 + k) from fun h9 => h ⟨h9.1, h9.2.1⟩), if_neg (show ¬ (ys_kd T n p = 3 ∧ ys_vl T n p = 10 ∧ 2 ≤ 1) from fun h9 => h ⟨h9.1, h9.2.1⟩)]
theorem yTR_nn {k : Nat} {lv : List Bool} (h : ¬ (ys_kd T n p = 3 ∧ ys_vl T n p = 10)) : yTR T n (2 + k, lv, p) W O (1, lv, p) W O := yTR_e (yN_nn h) (xWO_nn h)
end
/-- from s to s' the row C is put out, but for what waits at its end; l is how strong that is at least -/
def xPo (T : Nat → Int) (n l : Nat) (s s' : yM) (C : List xIt) : Prop := ∀ (W : List Nat) (O : List xIt), xTop l W → ∃ (P : List Nat) (O' : List xIt), yTR T n s W O s' (P ++ W) (O ++ O') ∧ (∀ a ∈ P, a < 14 ∧ l ≤ xSg a) ∧ C = O' ++ P.map xAc
theorem xPo_up {T : Nat → Int} {n l l2 : Nat} {s s' : yM} {C : List xIt} (hl : l ≤ l2) (h : xPo T n l2 s s' C) : xPo T n l s s' C := fun W O hW => by
  obtain ⟨P, O', h1, h2, h3⟩ := h W O (xTop_up hl hW)
  exact ⟨P, O', h1, fun a ha => ⟨(h2 a ha).1, by have := (h2 a ha).2; omega⟩, h3⟩
theorem xPo_one {T : Nat → Int} {n l : Nat} {s s' : yM} {i : xIt} (hN : yN T n s = .inl s') (hw : ∀ W O, xWO T n s.1 s.2.2 W O = (W, O ++ [i])) : xPo T n l s s' [i] := fun W O _ => ⟨[], [i], yTR_w hN (hw W O), fun a ha => absurd ha List.not_mem_nil, rfl⟩
/-- left, an act, right -/
theorem xPo_bin {T : Nat → Int} {n l l2 a : Nat} {s s1 s2 : yM} {lv : List Bool} {q : Nat} {C C2 : List xIt} (h : xPo T n l s (0, lv, q) C) (hN : yN T n (0, lv, q) = .inl s1) (hw : ∀ W O, xWO T n 0 q W O = xPs l a W O) (ha : a < 14 ∧ xSg a = l) (h2 : xPo T n l2 s1 s2 C2) (hl : l < l2) : xPo T n l s s2 (C ++ C2 ++ [xAc a]) := by
  intro W O hW
  obtain ⟨P, O', r1, p1, c1⟩ := h W O hW
  have st : yTR T n (0, lv, q) (P ++ W) (O ++ O') s1 (a :: W) (O ++ C) := by
    refine yTR_w hN ((hw _ _).trans ?_)
    unfold xPs
    rw [xDp_app p1 hW, c1, List.append_assoc]
  obtain ⟨P2, O2, r2, p2, c2⟩ := h2 (a :: W) (O ++ C) (Or.inr (by omega))
  refine ⟨P2 ++ [a], C ++ O2, ?_, fun b hb => ?_, ?_⟩
  · have e1 : (P2 ++ [a]) ++ W = P2 ++ a :: W := by rw [List.append_assoc]; rfl
    have e2 : O ++ (C ++ O2) = (O ++ C) ++ O2 := (List.append_assoc _ _ _).symm
    rw [e1, e2]
    exact yTR_t r1 (yTR_t st r2)
  · rcases List.mem_append.mp hb with h9 | h9
    · have := p2 b h9
      exact ⟨this.1, by omega⟩
    · rw [List.mem_singleton.mp h9]
      exact ⟨ha.1, by omega⟩
  · rw [c2, List.map_append, List.append_assoc, List.append_assoc, List.append_assoc]
    rfl
/-- k NOTs before -/
theorem xPo_not {T : Nat → Int} {n k : Nat} {s s1 s2 : yM} {C : List xIt} (hr : ∀ W O, yTR T n s W O s1 (List.replicate k 3 ++ W) O) (h : xPo T n 4 s1 s2 C) : xPo T n 3 s s2 (C ++ List.replicate k (xAc 3)) := by
  intro W O hW
  have ht : xTop 4 (List.replicate k 3 ++ W) := by
    cases k with
    | zero => exact xTop_up (by decide) hW
    | succ k => exact Or.inr (by decide)
  obtain ⟨P, O', r1, p1, c1⟩ := h _ O ht
  refine ⟨P ++ List.replicate k 3, O', ?_, fun b hb => ?_, ?_⟩
  · rw [List.append_assoc]
    exact yTR_t (hr W O) r1
  · rcases List.mem_append.mp hb with h9 | h9
    · have := p1 b h9
      exact ⟨this.1, by omega⟩
    · rw [List.eq_of_mem_replicate h9]
      exact ⟨by decide, by decide⟩
  · rw [c1, List.map_append, List.map_replicate, List.append_assoc]
theorem xNo_s {T : Nat → Int} {n k p0 p : Nat} {lv : List Bool} (hr : ∀ W O, yTR T n (2, lv, p0) W O (2 + k, lv, p) (List.replicate k 3 ++ W) O) (hk : ys_kd T n p = 3) (hv : ys_vl T n p = 10) (h6 : k < 6) : ∀ W O, yTR T n (2, lv, p0) W O (2 + (k + 1), lv, ys_nx T n p) (List.replicate (k + 1) 3 ++ W) O := fun W O => yTR_t (hr W O) (yTR_w (yN_no hk hv h6) (xWO_no hk hv (by show 2 ≤ 2 + k; omega)))
/-- an expression in parentheses -/
theorem xPo_par {T : Nat → Int} {n l q : Nat} {s : yM} {lv lv2 : List Bool} {p1 : Nat} {C : List xIt} (hN : yN T n s = .inl (2, false :: lv, p1)) (hw : ∀ W O, xWO T n s.1 s.2.2 W O = (14 :: W, O)) (h : xPo T n 1 (2, false :: lv, p1) (0, lv2, q) C) (hk : ys_kd T n q = 4) (hv : ys_vl T n q = 41) (hl : 1 < lv2.length) : xPo T n l s (0, lv2.tail, ys_nx T n q) C := by
  intro W O _
  obtain ⟨P, O', r1, p1, c1⟩ := h (14 :: W) O (Or.inl (Nat.le_refl _))
  refine ⟨[], C, ?_, fun a ha => absurd ha List.not_mem_nil, (List.append_nil C).symm⟩
  refine yTR_t (yTR_w hN (hw W O)) (yTR_t r1 (yTR_w (yN_cl hk hv hl) ((xWO_cl hk hv).trans ?_)))
  rw [xDp_app (fun a ha => ⟨(p1 a ha).1, Nat.zero_le _⟩) (show xTop 0 (14 :: W) from Or.inl (Nat.le_refl _)), c1, List.append_assoc]
  rfl
/-- a whole expression -/
theorem xPo_end {T : Nat → Int} {n q : Nat} {s : yM} {lv : List Bool} {C : List xIt} (h : xPo T n 1 s (0, lv, q) C) (hN : yN T n (0, lv, q) = .inr (0, q)) : yTA T n s [] [] (q, C) := by
  obtain ⟨P, O', r1, p1, c1⟩ := h [] [] trivial
  have k := r1 _ (yTA_end (W := P ++ []) (O := [] ++ O') hN)
  rw [xDp_app (fun a ha => ⟨(p1 a ha).1, Nat.zero_le _⟩) (show xTop 0 [] from trivial), List.nil_append, ← c1] at k
  exact k
/-- how many operands wait behind a row -/
def xHt : List xIt → Int → Int
  | [], h => h
  | i :: C, h => xHt C (if i.1 < 2 then h + 1 else if i.1 = 3 then h else h - 1)
/-- from h operands on a row needs 1 at least before each act (2, one that joins), and has d more at most -/
def xWf (d : Int) : List xIt → Int → Prop
  | [], _ => True
  | i :: C, h => (if i.1 < 2 then (h + 1 ≤ d ∧ 0 ≤ i.2 ∧ i.2 ≤ 9999 ∧ (i.1 = 1 → i.2 < 8)) ∧ xWf d C (h + 1) else if i.1 = 3 then 1 ≤ h ∧ xWf d C h else (2 ≤ h ∧ 3 < i.1 ∧ i.1 < 12) ∧ xWf d C (h - 1))
theorem xHt_a {C D : List xIt} : ∀ {h : Int}, xHt (C ++ D) h = xHt D (xHt C h) := by
  induction C with
  | nil => intro h; rfl
  | cons i C ih => intro h; exact ih
theorem xWf_a {d : Int} {C D : List xIt} : ∀ {h : Int}, xWf d C h → xWf d D (xHt C h) → xWf d (C ++ D) h := by
  induction C with
  | nil => intro h _ h2; exact h2
  | cons i C ih =>
    intro h h1 h2
    have h1 : (if i.1 < 2 then (h + 1 ≤ d ∧ 0 ≤ i.2 ∧ i.2 ≤ 9999 ∧ (i.1 = 1 → i.2 < 8)) ∧ xWf d C (h + 1) else if i.1 = 3 then 1 ≤ h ∧ xWf d C h else (2 ≤ h ∧ 3 < i.1 ∧ i.1 < 12) ∧ xWf d C (h - 1)) := h1
    have h2 : xWf d D (xHt C (if i.1 < 2 then h + 1 else if i.1 = 3 then h else h - 1)) := h2
    show (if i.1 < 2 then (h + 1 ≤ d ∧ 0 ≤ i.2 ∧ i.2 ≤ 9999 ∧ (i.1 = 1 → i.2 < 8)) ∧ xWf d (C ++ D) (h + 1) else if i.1 = 3 then 1 ≤ h ∧ xWf d (C ++ D) h else (2 ≤ h ∧ 3 < i.1 ∧ i.1 < 12) ∧ xWf d (C ++ D) (h - 1))
    by_cases h9 : i.1 < 2
    · rw [if_pos h9] at h1 h2 ⊢
      exact ⟨h1.1, ih h1.2 h2⟩
    · rw [if_neg h9] at h1 h2 ⊢
      by_cases h8 : i.1 = 3
      · rw [if_pos h8] at h1 h2 ⊢
        exact ⟨h1.1, ih h1.2 h2⟩
      · rw [if_neg h8] at h1 h2 ⊢
        exact ⟨h1.1, ih h1.2 h2⟩
/-- an operand's row: from any h on it leaves one more, and has at most d more in between -/
def xOp (d : Int) (C : List xIt) : Prop := ∀ h : Int, 0 ≤ h → xHt C h = h + 1 ∧ xWf (h + d) C h
theorem xWf_m {d d' : Int} {C : List xIt} (hd : d ≤ d') : ∀ {h : Int}, xWf d C h → xWf d' C h := by
  induction C with
  | nil => intro h _; exact trivial
  | cons i C ih =>
    intro h h1
    have h1 : (if i.1 < 2 then (h + 1 ≤ d ∧ 0 ≤ i.2 ∧ i.2 ≤ 9999 ∧ (i.1 = 1 → i.2 < 8)) ∧ xWf d C (h + 1) else if i.1 = 3 then 1 ≤ h ∧ xWf d C h else (2 ≤ h ∧ 3 < i.1 ∧ i.1 < 12) ∧ xWf d C (h - 1)) := h1
    show (if i.1 < 2 then (h + 1 ≤ d' ∧ 0 ≤ i.2 ∧ i.2 ≤ 9999 ∧ (i.1 = 1 → i.2 < 8)) ∧ xWf d' C (h + 1) else if i.1 = 3 then 1 ≤ h ∧ xWf d' C h else (2 ≤ h ∧ 3 < i.1 ∧ i.1 < 12) ∧ xWf d' C (h - 1))
    by_cases h9 : i.1 < 2
    · rw [if_pos h9] at h1 ⊢
      exact ⟨⟨by omega, h1.1.2⟩, ih h1.2⟩
    · rw [if_neg h9] at h1 ⊢
      by_cases h8 : i.1 = 3
      · rw [if_pos h8] at h1 ⊢
        exact ⟨h1.1, ih h1.2⟩
      · rw [if_neg h8] at h1 ⊢
        exact ⟨h1.1, ih h1.2⟩
theorem xOp_m {d d' : Int} {C : List xIt} (hd : d ≤ d') (h : xOp d C) : xOp d' C := fun k hk => ⟨(h k hk).1, xWf_m (by omega) (h k hk).2⟩
theorem xOp_1 {i : xIt} (hi : i.1 < 2) (hv : 0 ≤ i.2 ∧ i.2 ≤ 9999 ∧ (i.1 = 1 → i.2 < 8)) : xOp 1 [i] := fun h _ => ⟨if_pos hi, by
  show (if i.1 < 2 then (h + 1 ≤ h + 1 ∧ 0 ≤ i.2 ∧ i.2 ≤ 9999 ∧ (i.1 = 1 → i.2 < 8)) ∧ xWf (h + 1) [] (h + 1) else if i.1 = 3 then 1 ≤ h ∧ xWf (h + 1) [] h else (2 ≤ h ∧ 3 < i.1 ∧ i.1 < 12) ∧ xWf (h + 1) [] (h - 1))
  rw [if_pos hi]
  exact ⟨⟨Int.le_refl _, hv⟩, trivial⟩⟩
theorem xOp_no {d : Int} {C : List xIt} (h : xOp d C) : xOp d (C ++ [xAc 3]) := fun k hk => by
  obtain ⟨h1, h2⟩ := h k hk
  refine ⟨by rw [xHt_a, h1]; rfl, xWf_a h2 ?_⟩
  rw [h1]
  exact ⟨by omega, trivial⟩
theorem xOp_nos {d : Int} {C : List xIt} (h : xOp d C) : ∀ k, xOp d (C ++ List.replicate k (xAc 3))
  | 0 => by rw [show List.replicate 0 (xAc 3) = [] from rfl, List.append_nil]; exact h
  | k + 1 => by
    rw [List.replicate_succ', ← List.append_assoc]
    exact xOp_no (xOp_nos h k)
theorem xOp_bin {d d2 e : Int} {a : Nat} {C D : List xIt} (ha : 4 ≤ a ∧ a < 12) (h : xOp d C) (h2 : xOp d2 D) (hd : d ≤ e ∧ d2 + 1 ≤ e) : xOp e (C ++ D ++ [xAc a]) := fun k hk => by
  obtain ⟨a1, a2⟩ := h k hk
  obtain ⟨b1, b2⟩ := h2 (k + 1) (by omega)
  have c1 : xHt (C ++ D) k = k + 2 := by rw [xHt_a, a1, b1]; omega
  have g1 : ¬ (xAc a).1 < 2 := by show ¬ a < 2; omega
  have g2 : ¬ (xAc a).1 = 3 := by show ¬ a = 3; omega
  refine ⟨?_, xWf_a (xWf_a (xWf_m (by omega) a2) ?_) ?_⟩
  · rw [xHt_a, c1]
    show (if (xAc a).1 < 2 then k + 2 + 1 else if (xAc a).1 = 3 then k + 2 else k + 2 - 1) = k + 1
    rw [if_neg g1, if_neg g2]
    omega
  · rw [a1]
    exact xWf_m (by omega) b2
  · rw [c1]
    show (if (xAc a).1 < 2 then (k + 2 + 1 ≤ k + e ∧ 0 ≤ (xAc a).2 ∧ (xAc a).2 ≤ 9999 ∧ ((xAc a).1 = 1 → (xAc a).2 < 8)) ∧ xWf (k + e) [] (k + 2 + 1) else if (xAc a).1 = 3 then 1 ≤ k + 2 ∧ xWf (k + e) [] (k + 2) else (2 ≤ k + 2 ∧ 3 < (xAc a).1 ∧ (xAc a).1 < 12) ∧ xWf (k + e) [] (k + 2 - 1))
    rw [if_neg g1, if_neg g2]
    exact ⟨⟨by omega, (show 3 < a by omega), ha.2⟩, trivial⟩
end
section
/-! ===== codes of rules: what the class writes ===== -/
def xE2 (i : xIt) : Int := if i.1 = 0 then i.2 else if i.1 = 1 then -1 - i.2 else if i.1 = 3 then -11 else if i.1 = 4 then -10 else if i.1 = 5 then -9 else if i.1 = 6 then -61 else if i.1 = 7 then -62 else if i.1 = 8 then -44 else if i.1 = 9 then -46 else if i.1 = 10 then -43 else -48
/-- the class's code grew by the row C -/
def xGr (wa : Nat) (C : List xIt) (H0 H1 : zp_H) : Prop := (H1.2.1 53 1).toInt = (H0.2.1 53 1).toInt + (C.length : Int) ∧ (∀ k : Nat, (k : Int) < (H0.2.1 53 1).toInt → H1.2.1 wa k = H0.2.1 wa k) ∧ ∀ j i, C[j]? = some i → (H1.2.1 wa ((H0.2.1 53 1).toInt.toNat + j)).toInt = xE2 i
/-- its code is left alone -/
def xSmw (wa : Nat) (H H1 : zp_H) : Prop := H1.2.1 53 1 = H.2.1 53 1 ∧ ∀ k, H1.2.1 wa k = H.2.1 wa k
/-- y is put behind its code, if there is room -/
def xPut (wa : Nat) (y : Int) (H H1 : zp_H) : Prop := 0 ≤ (H.2.1 53 1).toInt → (H.2.1 53 1).toInt < 700 → (H1.2.1 53 1).toInt = (H.2.1 53 1).toInt + 1 ∧ (∀ k, k ≠ (H.2.1 53 1).toInt.toNat → H1.2.1 wa k = H.2.1 wa k) ∧ (H1.2.1 wa (H.2.1 53 1).toInt.toNat).toInt = y
theorem xGr_0 {wa : Nat} {H H1 : zp_H} (h : xSmw wa H H1) : xGr wa [] H H1 := ⟨by rw [h.1]; exact (Int.add_zero _).symm, fun k _ => h.2 k, fun j i hi => by cases hi⟩
theorem xGr_a {wa : Nat} {C D : List xIt} {H0 H1 H2 : zp_H} (h0 : 0 ≤ (H0.2.1 53 1).toInt) (h : xGr wa C H0 H1) (h' : xGr wa D H1 H2) : xGr wa (C ++ D) H0 H2 := by
  obtain ⟨a1, a2, a3⟩ := h
  obtain ⟨b1, b2, b3⟩ := h'
  refine ⟨by rw [b1, a1, List.length_append]; omega, fun k hk => (b2 k (by omega)).trans (a2 k hk), fun j i hi => ?_⟩
  by_cases hj : j < C.length
  · rw [List.getElem?_append_left hj] at hi
    rw [b2 ((H0.2.1 53 1).toInt.toNat + j) (by omega)]
    exact a3 j i hi
  · rw [List.getElem?_append_right (Nat.le_of_not_lt hj)] at hi
    rw [show (H0.2.1 53 1).toInt.toNat + j = (H1.2.1 53 1).toInt.toNat + (j - C.length) by omega]
    exact b3 _ i hi
theorem xGr_p {wa : Nat} {y : Int} {i : xIt} {H H1 : zp_H} (h0 : 0 ≤ (H.2.1 53 1).toInt ∧ (H.2.1 53 1).toInt < 700) (h : xPut wa y H H1) (hy : y = xE2 i) : xGr wa [i] H H1 := by
  obtain ⟨b1, b2, b3⟩ := h h0.1 h0.2
  refine ⟨b1, fun k hk => b2 k (by omega), fun j e he => ?_⟩
  cases j with
  | zero =>
    have he : some i = some e := he
    cases he
    exact b3.trans hy
  | succ j => cases he
/-- as yR, and what the class put out between two heaps -/
def xRC (T : Nat → Int) (n wa l : Nat) (d : Int) (s s' : yM) (H0 H1 : zp_H) : Prop := yR T n s s' ∧ (0 ≤ (H0.2.1 53 1).toInt → (H0.2.1 53 1).toInt ≤ s.2.2 → ∃ C, xPo T n l s s' C ∧ xOp d C ∧ (C.length : Int) + s.2.2 ≤ s'.2.2 ∧ xGr wa C H0 H1)
theorem xRC_m {T : Nat → Int} {n wa l : Nat} {d : Int} {s s' : yM} {H0 H H1 : zp_H} (h : xRC T n wa l d s s' H0 H) (hm : xSmw wa H H1) : xRC T n wa l d s s' H0 H1 := ⟨h.1, fun h0 h1 => by
  obtain ⟨C, c1, c2, c3, c4⟩ := h.2 h0 h1
  have k := xGr_a h0 c4 (xGr_0 hm)
  rw [List.append_nil] at k
  exact ⟨C, c1, c2, c3, k⟩⟩
theorem xRC_up {T : Nat → Int} {n wa l l2 : Nat} {d e : Int} {s s' : yM} {H0 H1 : zp_H} (hl : l ≤ l2) (hd : d ≤ e) (h : xRC T n wa l2 d s s' H0 H1) : xRC T n wa l e s s' H0 H1 := ⟨h.1, fun h0 h1 => by
  obtain ⟨C, c1, c2, c3, c4⟩ := h.2 h0 h1
  exact ⟨C, xPo_up hl c1, xOp_m hd c2, c3, c4⟩⟩
/-- one token that is an operand -/
theorem xRC_1 {T : Nat → Int} {n wa l : Nat} {y : Int} {s s' : yM} {i : xIt} {H0 H1 : zp_H} (hN : yN T n s = .inl s') (hw : ∀ W O, xWO T n s.1 s.2.2 W O = (W, O ++ [i])) (hi : i.1 < 2) (hv : 0 ≤ i.2 ∧ i.2 ≤ 9999 ∧ (i.1 = 1 → i.2 < 8)) (hs : s.2.2 < s'.2.2) (h7 : s.2.2 < 700) (hp : xPut wa y H0 H1) (hy : y = xE2 i) : xRC T n wa l 1 s s' H0 H1 := ⟨yR_s hN, fun h0 h1 => ⟨[i], xPo_one hN hw, xOp_1 hi hv, by show (1 : Int) + _ ≤ _; omega, xGr_p ⟨h0, by omega⟩ hp hy⟩⟩
/-- left, an act, right, and the act put out -/
theorem xRC_b {T : Nat → Int} {n wa l l2 a : Nat} {d d2 e y : Int} {s s1 s2 : yM} {lv : List Bool} {q : Nat} {H0 H H1 H2 H3 : zp_H} (h : xRC T n wa l d s (0, lv, q) H0 H) (hN : yN T n (0, lv, q) = .inl s1) (hw : ∀ W O, xWO T n 0 q W O = xPs l a W O) (ha : 4 ≤ a ∧ a < 12 ∧ xSg a = l) (hs : q < s1.2.2) (hm : xSmw wa H H1) (h2 : xRC T n wa l2 d2 s1 s2 H1 H2) (hl : l < l2) (hd : d ≤ e ∧ d2 + 1 ≤ e) (h7 : s2.2.2 ≤ 700) (hp : xPut wa y H2 H3) (hy : y = xE2 (xAc a)) : xRC T n wa l e s s2 H0 H3 := ⟨yR_t h.1 (yR_t (yR_s hN) h2.1), fun h0 h1 => by
  obtain ⟨C, c1, c2, c3, c4⟩ := h.2 h0 h1
  have e1 := c4.1
  have em : (H1.2.1 53 1).toInt = (H.2.1 53 1).toInt := congrArg Int32.toInt hm.1
  have c3 : (C.length : Int) + s.2.2 ≤ (q : Int) := c3
  obtain ⟨D, d1, d2', d3, d4⟩ := h2.2 (by omega) (by omega)
  have e2 := d4.1
  refine ⟨C ++ D ++ [xAc a], xPo_bin c1 hN hw ⟨by omega, ha.2.2⟩ d1 hl, xOp_bin ⟨ha.1, ha.2.1⟩ c2 d2' hd, ?_, ?_⟩
  · rw [List.length_append, List.length_append]
    show ((C.length + D.length + 1 : Nat) : Int) + _ ≤ _
    omega
  · have k := xGr_a h0 (xGr_a h0 c4 (xGr_0 hm)) d4
    rw [List.append_nil] at k
    refine xGr_a h0 k (xGr_p ⟨by omega, by omega⟩ hp hy)⟩
/-- k NOTs read, then a test; behind it i NOTs put out so far -/
def yRn (T : Nat → Int) (n wa k i : Nat) (d : Int) (s s1 s2 : yM) (H0 H1 : zp_H) : Prop := (∀ W O, yTR T n s W O s1 (List.replicate k 3 ++ W) O) ∧ yR T n s s2 ∧ (0 ≤ (H0.2.1 53 1).toInt → (H0.2.1 53 1).toInt ≤ s.2.2 → ∃ C, xPo T n 4 s1 s2 C ∧ xOp d C ∧ (C.length : Int) + s.2.2 + k ≤ s2.2.2 ∧ xGr wa (C ++ List.replicate i (xAc 3)) H0 H1)
theorem yRn_s {T : Nat → Int} {n wa k i : Nat} {d : Int} {s s1 s2 : yM} {H0 H H1 : zp_H} (h : yRn T n wa k i d s s1 s2 H0 H) (hi : i < k) (h7 : s2.2.2 ≤ 700) (hp : xPut wa (-11) H H1) : yRn T n wa k (i + 1) d s s1 s2 H0 H1 := ⟨h.1, h.2.1, fun h0 h1 => by
  obtain ⟨C, c1, c2, c3, c4⟩ := h.2.2 h0 h1
  have e1 := c4.1
  rw [List.length_append, List.length_replicate] at e1
  refine ⟨C, c1, c2, c3, ?_⟩
  have k9 := xGr_a h0 c4 (xGr_p (i := xAc 3) ⟨by omega, by omega⟩ hp rfl)
  rw [List.append_assoc, ← List.replicate_succ'] at k9
  exact k9⟩
theorem yRn_e {T : Nat → Int} {n wa k : Nat} {d : Int} {s s1 s2 : yM} {H0 H1 : zp_H} (h : yRn T n wa k k d s s1 s2 H0 H1) : xRC T n wa 3 d s s2 H0 H1 := ⟨h.2.1, fun h0 h1 => by
  obtain ⟨C, c1, c2, c3, c4⟩ := h.2.2 h0 h1
  refine ⟨_, xPo_not h.1 c1, xOp_nos c2 k, ?_, c4⟩
  rw [List.length_append, List.length_replicate]
  omega⟩
/-- an expression in parentheses -/
theorem xRC_p {T : Nat → Int} {n wa l q : Nat} {d : Int} {s : yM} {lv lv2 : List Bool} {p1 : Nat} {H0 H H1 : zp_H} (hN : yN T n s = .inl (2, false :: lv, p1)) (hw : ∀ W O, xWO T n s.1 s.2.2 W O = (14 :: W, O)) (hs : s.2.2 < p1) (hm : xSmw wa H0 H) (h : xRC T n wa 1 d (2, false :: lv, p1) (0, lv2, q) H H1) (hk : ys_kd T n q = 4) (hv : ys_vl T n q = 41) (hl : 1 < lv2.length) (hq : q ≤ ys_nx T n q) : xRC T n wa l d s (0, lv2.tail, ys_nx T n q) H0 H1 := ⟨yR_t (yR_s hN) (yR_t h.1 (yR_s (yN_cl hk hv hl))), fun h0 h1 => by
  have em : (H.2.1 53 1).toInt = (H0.2.1 53 1).toInt := congrArg Int32.toInt hm.1
  obtain ⟨C, c1, c2, c3, c4⟩ := h.2 (by omega) (by show _ ≤ (p1 : Int); omega)
  have c3 : (C.length : Int) + (p1 : Int) ≤ (q : Int) := c3
  exact ⟨C, xPo_par hN hw c1 hk hv hl, c2, by show _ ≤ ((ys_nx T n q : Nat) : Int); omega, xGr_a h0 (xGr_0 hm) c4⟩⟩
end
section
/-! ===== the rows of all rules ===== -/
def xRow (T : Nat → Int) (n p : Nat) (C : List xIt) : Prop := ∃ q, yTA T n (2, [false], p) [] [] (q, C)
theorem xRow_u {T : Nat → Int} {n p : Nat} {C D : List xIt} (h : xRow T n p C) (h' : xRow T n p D) : C = D := by
  obtain ⟨q, h⟩ := h
  obtain ⟨q', h'⟩ := h'
  exact congrArg Prod.snd (yTA_u h h')
/-- P holds of each rule and the place where it begins: places are digits, the last rule's the lowest -/
def xRs (P : Nat → Nat → Prop) : Nat → Int → Prop
  | 0, _ => True
  | r + 1, D => P r (D % 1024).toNat ∧ xRs P r (D / 1024)
theorem xRs_0 {P : Nat → Nat → Prop} {R : Nat} {D : Int} (h : R = 0) : xRs P R D := by
  subst h
  trivial
theorem xRs_m {P Q : Nat → Nat → Prop} : ∀ {R : Nat} {D : Int}, (∀ r p, r < R → P r p → Q r p) → xRs P R D → xRs Q R D
  | 0, _, _, _ => trivial
  | R + 1, _, h, h1 => ⟨h R _ (by omega) h1.1, xRs_m (fun r p hr => h r p (by omega)) h1.2⟩
theorem xRs_s {P : Nat → Nat → Prop} {R p : Nat} {D : Int} (hp : p < 1024) (h1 : P R p) (h : xRs P R D) : xRs P (R + 1) (D * 1024 + (p : Int)) := by
  have e1 : ((D * 1024 + (p : Int)) % 1024).toNat = p := by omega
  have e2 : (D * 1024 + (p : Int)) / 1024 = D := by omega
  show P R ((D * 1024 + (p : Int)) % 1024).toNat ∧ xRs P R ((D * 1024 + (p : Int)) / 1024)
  rw [e1, e2]
  exact ⟨h1, h⟩
theorem xRs_2 {P Q : Nat → Nat → Prop} : ∀ {R : Nat} {D : Int}, xRs P R D → xRs Q R D → ∀ r, r < R → ∃ p, P r p ∧ Q r p
  | 0, _, _, _, r, hr => absurd hr (Nat.not_lt_zero _)
  | R + 1, D, h, h', r, hr => by
    by_cases h9 : r = R
    · rw [h9]
      exact ⟨_, h.1, h'.1⟩
    · exact xRs_2 h.2 h'.2 r (by omega)
/-- where the class's row r begins -/
def xBg (wp : Nat) (H : zp_H) (r : Nat) : Int := if r = 0 then 0 else (H.2.1 (wp + 9) (r - 1)).toInt
theorem xBg_e {wp r : Nat} {H H1 : zp_H} (h : ∀ k, k < r → H1.2.1 (wp + 9) k = H.2.1 (wp + 9) k) : xBg wp H1 r = xBg wp H r := by
  unfold xBg
  by_cases h0 : r = 0
  · rw [if_pos h0, if_pos h0]
  · rw [if_neg h0, if_neg h0, h _ (by omega)]
theorem xBg_s {wp r : Nat} {H : zp_H} : xBg wp H (r + 1) = (H.2.1 (wp + 9) r).toInt := if_neg (Nat.succ_ne_zero r)
/-- the class holds the row C for rule r -/
def xCl (wp : Nat) (H : zp_H) (r : Nat) (C : List xIt) : Prop := 0 ≤ xBg wp H r ∧ (H.2.1 (wp + 9) r).toInt = xBg wp H r + (C.length : Int) ∧ ∀ j i, C[j]? = some i → (H.2.1 (wp + 10) ((xBg wp H r).toNat + j)).toInt = xE2 i
theorem xCl_e {wp r : Nat} {C : List xIt} {H H1 : zp_H} (h9 : ∀ k, k ≤ r → H1.2.1 (wp + 9) k = H.2.1 (wp + 9) k) (h10 : ∀ k : Nat, (k : Int) < (H.2.1 (wp + 9) r).toInt → H1.2.1 (wp + 10) k = H.2.1 (wp + 10) k) (h : xCl wp H r C) : xCl wp H1 r C := by
  have e : xBg wp H1 r = xBg wp H r := xBg_e (fun k hk => h9 k (by omega))
  obtain ⟨h1, h2, h3⟩ := h
  refine ⟨by rw [e]; exact h1, by rw [e, h9 r (Nat.le_refl _)]; exact h2, fun j i hi => ?_⟩
  have hj : j < C.length := (List.getElem?_eq_some_iff.mp hi).1
  rw [e, h10 _ (by omega)]
  exact h3 j i hi
def xCr (T : Nat → Int) (n wp : Nat) (H : zp_H) (r p : Nat) : Prop := ∃ C, xRow T n p C ∧ xOp 37 C ∧ xCl wp H r C ∧ (H.2.1 (wp + 9) r).toInt ≤ (H.2.1 53 1).toInt
end
section
/-! ===== the class: small questions, exactly ===== -/
def zm_74 : za_MI := (yX9_isWay, prog_11_method_10_code, 1, (some FieldType.boolean), 9, 0, 0, [], za_i74)
theorem zm_74_t : za_MT 74 = some zm_74 := rfl
def zm_86 : za_MI := (yX9_isSign, prog_11_method_11_code, 2, (some FieldType.boolean), 9, 0, 0, [], za_i86)
theorem zm_86_t : za_MT 86 = some zm_86 := rfl
def zm_87 : za_MI := (yX2_refuse, prog_4_method_3_code, 2, (some FieldType.boolean), 2, 0, 0, [], za_i87)
theorem zm_87_t : za_MT 87 = some zm_87 := rfl
def zm_90 : za_MI := (yX9_isWord, prog_11_method_9_code, 2, (some FieldType.boolean), 9, 0, 0, [], za_i90)
theorem zm_90_t : za_MT 90 = some zm_90 := rfl
def yE (T : Nat → Int) (n p : Nat) (H : zp_H) : Prop := yc_Z T n H ∧ yc_k T n p H ∧ p ≤ n
def yx_m : List (Nat × Nat) := [(52, 2), (52, 3), (52, 4), (52, 5), (53, 1), (53, 2)]
theorem ys_wl_b {T : Nat → Int} {s e : Nat} : ∀ (f i : Nat), f + i < 102 → 0 ≤ ys_wl T s e f i ∧ ys_wl T s e f i ≤ 21
  | 0, i, h => zq_sp_b (by omega)
  | f + 1, i, h => by
    unfold ys_wl
    split
    · exact zq_sp_b (by omega)
    · exact ys_wl_b f (i + 1) (by omega)
theorem ys_vl_w {T : Nat → Int} {n p : Nat} (h : ys_kd T n p = 3) : ys_st T n p < n ∧ ys_L (T (ys_st T n p)) = true ∧ ys_vl T n p = ys_wi T (ys_st T n p) (ys_nx T n p) := by
  unfold ys_kd ys_ks at h
  by_cases h1 : n ≤ ys_st T n p
  · rw [if_pos h1] at h
    omega
  · rw [if_neg h1] at h
    cases hL : ys_L (T (ys_st T n p)) with
    | true =>
      refine ⟨by omega, rfl, ?_⟩
      unfold ys_vl ys_vs
      rw [hL]
      rfl
    | false =>
      rw [hL] at h
      cases hD : ys_D (T (ys_st T n p)) with
      | true => rw [hD] at h; exact absurd (show (2 : Int) = 3 from h) (by decide)
      | false =>
        rw [hD] at h
        cases hG : ys_G (T (ys_st T n p)) with
        | true => rw [hG] at h; exact absurd h (by decide)
        | false => rw [hG] at h; exact absurd h (by decide)
theorem ys_vl_b {T : Nat → Int} {n p : Nat} (h : ys_kd T n p = 3) : 0 ≤ ys_vl T n p ∧ ys_vl T n p ≤ 21 := by
  rw [(ys_vl_w h).2.2]
  exact ys_wl_b 101 0 (by decide)
theorem yE_B {T : Nat → Int} {n p : Nat} {H : zp_H} (h : yE T n p H) : zk_Bs zB zg zJc H := by
  refine zB_up h.1.1 (fun h9 => ?_)
  have h3 : ys_kd T n p = 3 := h.2.1.2.2.1.symm.trans h9
  rw [h.2.1.2.2.2 (by omega)]
  exact ys_vl_b h3
theorem yE_c {T : Nat → Int} {n p : Nat} {H H1 : zp_H} (h : yE T n p H) (hB : zk_Bs zB0 zg zJc H1) (e1 : H1.2.1 52 = H.2.1 52) (e2 : H1.2.1 1 = H.2.1 1) : yE T n p H1 := by
  refine ⟨⟨hB, h.1.2.1, ?_, ?_⟩, ?_, h.2.2⟩
  · rw [e1]; exact h.1.2.2.1
  · rw [e2]; exact h.1.2.2.2
  · unfold yc_k
    rw [e1]
    exact h.2.1
theorem yE_4 {T : Nat → Int} {n p : Nat} {H : zp_H} (h : yE T n p H) : (H.2.1 52 4).toInt = ys_kd T n p := h.2.1.2.2.1
theorem yE_5 {T : Nat → Int} {n p : Nat} {H : zp_H} (h : yE T n p H) (hk : ys_kd T n p ≠ 0) : (H.2.1 52 5).toInt = ys_vl T n p := h.2.1.2.2.2 hk
/-- put and putDone do the tokens nothing -/
def zm_95 : za_MI := (yX2_put, prog_4_method_4_code, 3, none, 2, 0, 0, [], za_i95)
theorem zm_95_t : za_MT 95 = some zm_95 := rfl
def zm_96 : za_MI := (yX2_putDone, prog_4_method_5_code, 3, none, 2, 0, 0, [], za_i96)
theorem zm_96_t : za_MT 96 = some zm_96 := rfl
theorem y_neg {x : Int32} : (Int32.ofInt (-1) - x).toInt = -1 - x.toInt := by
  have h1 := Int32.le_toInt x
  have h2 := Int32.toInt_le x
  rw [Int32.toInt_sub, show (Int32.ofInt (-1)).toInt = -1 by decide]
  have h : (2 ^ 32 : Nat) = 4294967296 := by decide
  rw [Int.bmod_def, h]
  have h1 : (-2147483648 : Int) ≤ x.toInt := h1
  have h2 : x.toInt ≤ (2147483647 : Int) := h2
  by_cases h9 : (-1 - x.toInt) % ((4294967296 : Nat) : Int) < (((4294967296 : Nat) : Int) + 1) / 2
  · rw [if_pos h9]
    omega
  · rw [if_neg h9]
    omega
theorem yc_sm {wa : Nat} {H H1 : zp_H} (hw : wa = 12 ∨ wa = 32) (h : ∀ p k, p ≠ 52 → p ≠ 72 → H1.2.1 p k = H.2.1 p k) : xSmw wa H H1 := ⟨h 53 1 (by decide) (by decide), fun k => h wa k (by omega) (by omega)⟩
theorem xSmw_t {wa : Nat} {H0 H H1 : zp_H} (h1 : xSmw wa H0 H) (h2 : xSmw wa H H1) : xSmw wa H0 H1 := ⟨h2.1.trans h1.1, fun k => (h2.2 k).trans (h1.2 k)⟩
theorem zk_n52 {mods : List (Nat × Nat)} {p k : Nat} (hm : mods.all (fun q => Nat.beq q.1 52) = true) (hp : p ≠ 52) : zk_inm mods p k = false := by
  cases hq : zk_inm mods p k with
  | false => rfl
  | true =>
    obtain ⟨q, q1, q2⟩ := List.any_eq_true.mp hq
    have h1 : q.1 = 52 := za_beq (show Nat.beq q.1 52 = true from List.all_eq_true.mp hm q q1)
    have h2 : q.1 = p := za_beq (Bool.and_eq_true_iff.mp q2).1
    exact absurd (h2.symm.trans h1) hp
theorem yx_95_12 {L : Nat} {σ : Nat → Int32} {d : Nat} {H : zp_H} {x : Int32} (W : zw_W H) (h : 0 ≤ (H.2.1 53 1).toInt ∧ (H.2.1 53 1).toInt < 700) : zp_Call L σ (d + 1) 95 [.inr (.inr (some 54)), .inr (.inr (some 3)), .inl x] H (.inl none, zw_I (zw_I H 12 (H.2.1 53 1).toInt.toNat x) 53 1 (H.2.1 53 1 + Int32.ofInt 1)) := by
  refine zw_ex (zw_met zm_95_t rfl rfl ?_)
  refine zw_ld (n := 1) (k := 0) (f := zp_isR) (pc' := 1) rfl rfl rfl rfl rfl ?_
  refine zw_gI (q := 53) (pc' := 4) W rfl rfl rfl rfl rfl rfl ?_
  refine zw_ld (n := 1) (k := 1) (f := zp_isR) (pc' := 5) rfl rfl rfl rfl rfl ?_
  refine zw_gR (q := 2) (pc' := 8) W rfl rfl rfl rfl (W.2 2 19 _ rfl) rfl ?_
  refine zw_al (q := 12) (pc' := 9) W rfl rfl rfl ?_
  refine zw_bge2 (g := 32) (pc' := 12) rfl rfl rfl rfl (rfl : _ = (700 : Int)) (fun h1 => ?_) (fun h1 => ?_)
  · have h1 : ((700 : Nat) : Int) ≤ (H.2.1 53 1).toInt := h1
    omega
  · refine zw_ld (n := 1) (k := 1) (f := zp_isR) (pc' := 13) rfl rfl rfl rfl rfl ?_
    refine zw_gR (q := 2) (pc' := 16) W rfl rfl rfl rfl (W.2 2 19 _ rfl) rfl ?_
    refine zw_ld (n := 1) (k := 0) (f := zp_isR) (pc' := 17) rfl rfl rfl rfl rfl ?_
    refine zw_gI (q := 53) (pc' := 20) W rfl rfl rfl rfl rfl rfl ?_
    refine zw_ld (n := 1) (k := 2) (f := zp_isI) (pc' := 21) rfl rfl rfl rfl rfl ?_
    refine zw_is (q := 12) (pc' := 22) W rfl rfl (by decide) (⟨h.1, by show _ < ((700 : Nat) : Int); omega⟩) rfl ?_
    refine zw_ld (n := 1) (k := 0) (f := zp_isR) (pc' := 23) rfl rfl rfl rfl rfl ?_
    refine zw_s (pc' := 24) rfl rfl ?_
    refine zw_gI (q := 53) (pc' := 27) (zw_W_I W) rfl rfl rfl rfl (zw_ne rfl rfl) rfl ?_
    refine zw_s (pc' := 28) rfl rfl ?_
    refine zw_iadd (pc' := 29) rfl rfl ?_
    refine zw_pI (q := 53) (pc' := 32) (zw_W_I W) rfl rfl rfl rfl rfl rfl ?_
    refine zw_rn rfl rfl ?_
    rfl

theorem yx_p95_12 {L : Nat} {σ : Nat → Int32} {d : Nat} {H H1 : zp_H} {x : Int32} (W : zw_W H) (h : zp_Call L σ (d + 1) 95 [.inr (.inr (some 54)), .inr (.inr (some 3)), .inl x] H (.inl none, H1)) : xPut 12 x.toInt H H1 := fun h0 h7 => by
  have e := zp_Call_u h (yx_95_12 (d := d) (x := x) W ⟨h0, h7⟩)
  cases e
  refine ⟨(congrArg Int32.toInt zw_eq).trans (zw_p1 (by omega)), fun k hk => ?_, ?_⟩
  · exact zw_ne (zp_u_ne (fun h9 => hk h9.2)) rfl
  · exact congrArg Int32.toInt ((zw_ne rfl rfl).trans (zp_u_self H.2.1 12 _ x))
theorem yx_96_12 {L : Nat} {σ : Nat → Int32} {d : Nat} {H : zp_H} {x : Int32} (W : zw_W H) (h : 0 ≤ (H.2.1 53 1).toInt ∧ (H.2.1 53 1).toInt < 700) : zp_Call L σ (d + 2) 96 [.inr (.inr (some 54)), .inr (.inr (some 3)), .inl x] H (.inl none, zw_I (zw_I H 12 (H.2.1 53 1).toInt.toNat (Int32.ofInt (-1) - x)) 53 1 (H.2.1 53 1 + Int32.ofInt 1)) := by
  refine zw_ex (zw_met zm_96_t rfl rfl ?_)
  refine zw_ld (n := 1) (k := 0) (f := zp_isR) (pc' := 1) rfl rfl rfl rfl rfl ?_
  refine zw_ld (n := 1) (k := 1) (f := zp_isR) (pc' := 2) rfl rfl rfl rfl rfl ?_
  refine zw_s (pc' := 3) rfl rfl ?_
  refine zw_ld (n := 1) (k := 2) (f := zp_isI) (pc' := 4) rfl rfl rfl rfl rfl ?_
  refine zw_isub (pc' := 5) rfl rfl ?_
  refine zw_cn (pc' := 8) (zw_cv (q := 53) (Y := zm_95) W.1 rfl rfl zm_95_t rfl rfl) rfl rfl rfl rfl rfl (yx_95_12 W h) ?_
  refine zw_rn rfl rfl ?_
  rfl

theorem yx_p96_12 {L : Nat} {σ : Nat → Int32} {d : Nat} {H H1 : zp_H} {x : Int32} (W : zw_W H) (h : zp_Call L σ (d + 2) 96 [.inr (.inr (some 54)), .inr (.inr (some 3)), .inl x] H (.inl none, H1)) : xPut 12 (-1 - x.toInt) H H1 := fun h0 h7 => by
  have e := zp_Call_u h (yx_96_12 (d := d) (x := x) W ⟨h0, h7⟩)
  cases e
  refine ⟨(congrArg Int32.toInt zw_eq).trans (zw_p1 (by omega)), fun k hk => ?_, ?_⟩
  · exact zw_ne (zp_u_ne (fun h9 => hk h9.2)) rfl
  · exact (congrArg Int32.toInt ((zw_ne rfl rfl).trans (zp_u_self H.2.1 12 _ _))).trans y_neg
theorem yx_95_32 {L : Nat} {σ : Nat → Int32} {d : Nat} {H : zp_H} {x : Int32} (W : zw_W H) (h : 0 ≤ (H.2.1 53 1).toInt ∧ (H.2.1 53 1).toInt < 700) : zp_Call L σ (d + 1) 95 [.inr (.inr (some 54)), .inr (.inr (some 23)), .inl x] H (.inl none, zw_I (zw_I H 32 (H.2.1 53 1).toInt.toNat x) 53 1 (H.2.1 53 1 + Int32.ofInt 1)) := by
  refine zw_ex (zw_met zm_95_t rfl rfl ?_)
  refine zw_ld (n := 1) (k := 0) (f := zp_isR) (pc' := 1) rfl rfl rfl rfl rfl ?_
  refine zw_gI (q := 53) (pc' := 4) W rfl rfl rfl rfl rfl rfl ?_
  refine zw_ld (n := 1) (k := 1) (f := zp_isR) (pc' := 5) rfl rfl rfl rfl rfl ?_
  refine zw_gR (q := 22) (pc' := 8) W rfl rfl rfl rfl (W.2 22 19 _ rfl) rfl ?_
  refine zw_al (q := 32) (pc' := 9) W rfl rfl rfl ?_
  refine zw_bge2 (g := 32) (pc' := 12) rfl rfl rfl rfl (rfl : _ = (700 : Int)) (fun h1 => ?_) (fun h1 => ?_)
  · have h1 : ((700 : Nat) : Int) ≤ (H.2.1 53 1).toInt := h1
    omega
  · refine zw_ld (n := 1) (k := 1) (f := zp_isR) (pc' := 13) rfl rfl rfl rfl rfl ?_
    refine zw_gR (q := 22) (pc' := 16) W rfl rfl rfl rfl (W.2 22 19 _ rfl) rfl ?_
    refine zw_ld (n := 1) (k := 0) (f := zp_isR) (pc' := 17) rfl rfl rfl rfl rfl ?_
    refine zw_gI (q := 53) (pc' := 20) W rfl rfl rfl rfl rfl rfl ?_
    refine zw_ld (n := 1) (k := 2) (f := zp_isI) (pc' := 21) rfl rfl rfl rfl rfl ?_
    refine zw_is (q := 32) (pc' := 22) W rfl rfl (by decide) (⟨h.1, by show _ < ((700 : Nat) : Int); omega⟩) rfl ?_
    refine zw_ld (n := 1) (k := 0) (f := zp_isR) (pc' := 23) rfl rfl rfl rfl rfl ?_
    refine zw_s (pc' := 24) rfl rfl ?_
    refine zw_gI (q := 53) (pc' := 27) (zw_W_I W) rfl rfl rfl rfl (zw_ne rfl rfl) rfl ?_
    refine zw_s (pc' := 28) rfl rfl ?_
    refine zw_iadd (pc' := 29) rfl rfl ?_
    refine zw_pI (q := 53) (pc' := 32) (zw_W_I W) rfl rfl rfl rfl rfl rfl ?_
    refine zw_rn rfl rfl ?_
    rfl

theorem yx_p95_32 {L : Nat} {σ : Nat → Int32} {d : Nat} {H H1 : zp_H} {x : Int32} (W : zw_W H) (h : zp_Call L σ (d + 1) 95 [.inr (.inr (some 54)), .inr (.inr (some 23)), .inl x] H (.inl none, H1)) : xPut 32 x.toInt H H1 := fun h0 h7 => by
  have e := zp_Call_u h (yx_95_32 (d := d) (x := x) W ⟨h0, h7⟩)
  cases e
  refine ⟨(congrArg Int32.toInt zw_eq).trans (zw_p1 (by omega)), fun k hk => ?_, ?_⟩
  · exact zw_ne (zp_u_ne (fun h9 => hk h9.2)) rfl
  · exact congrArg Int32.toInt ((zw_ne rfl rfl).trans (zp_u_self H.2.1 32 _ x))
theorem yx_96_32 {L : Nat} {σ : Nat → Int32} {d : Nat} {H : zp_H} {x : Int32} (W : zw_W H) (h : 0 ≤ (H.2.1 53 1).toInt ∧ (H.2.1 53 1).toInt < 700) : zp_Call L σ (d + 2) 96 [.inr (.inr (some 54)), .inr (.inr (some 23)), .inl x] H (.inl none, zw_I (zw_I H 32 (H.2.1 53 1).toInt.toNat (Int32.ofInt (-1) - x)) 53 1 (H.2.1 53 1 + Int32.ofInt 1)) := by
  refine zw_ex (zw_met zm_96_t rfl rfl ?_)
  refine zw_ld (n := 1) (k := 0) (f := zp_isR) (pc' := 1) rfl rfl rfl rfl rfl ?_
  refine zw_ld (n := 1) (k := 1) (f := zp_isR) (pc' := 2) rfl rfl rfl rfl rfl ?_
  refine zw_s (pc' := 3) rfl rfl ?_
  refine zw_ld (n := 1) (k := 2) (f := zp_isI) (pc' := 4) rfl rfl rfl rfl rfl ?_
  refine zw_isub (pc' := 5) rfl rfl ?_
  refine zw_cn (pc' := 8) (zw_cv (q := 53) (Y := zm_95) W.1 rfl rfl zm_95_t rfl rfl) rfl rfl rfl rfl rfl (yx_95_32 W h) ?_
  refine zw_rn rfl rfl ?_
  rfl

theorem yx_p96_32 {L : Nat} {σ : Nat → Int32} {d : Nat} {H H1 : zp_H} {x : Int32} (W : zw_W H) (h : zp_Call L σ (d + 2) 96 [.inr (.inr (some 54)), .inr (.inr (some 23)), .inl x] H (.inl none, H1)) : xPut 32 (-1 - x.toInt) H H1 := fun h0 h7 => by
  have e := zp_Call_u h (yx_96_32 (d := d) (x := x) W ⟨h0, h7⟩)
  cases e
  refine ⟨(congrArg Int32.toInt zw_eq).trans (zw_p1 (by omega)), fun k hk => ?_, ?_⟩
  · exact zw_ne (zp_u_ne (fun h9 => hk h9.2)) rfl
  · exact (congrArg Int32.toInt ((zw_ne rfl rfl).trans (zp_u_self H.2.1 32 _ _))).trans y_neg
def yc_P (L : Nat) (σ : Nat → Int32) (wr : Nat) (wa : Nat) : Prop := (wa = 12 ∨ wa = 32) ∧ (∀ (d : Nat) (H : zp_H) (x : Int32), zk_Bs zB zg zJc H → ∃ H1, zp_Call L σ (d + 2) 96 [.inr (.inr (some 54)), .inr (.inr (some wr)), .inl x] H (.inl none, H1) ∧ zk_Bs zB zg zJc H1 ∧ zk_Fr zg [(53, 1)] [wa] H H1 ∧ xPut wa (-1 - x.toInt) H H1) ∧ (∀ (d : Nat) (H : zp_H) (x : Int32), zk_Bs zB zg zJc H → ∃ H1, zp_Call L σ (d + 1) 95 [.inr (.inr (some 54)), .inr (.inr (some wr)), .inl x] H (.inl none, H1) ∧ zk_Bs zB zg zJc H1 ∧ zk_Fr zg [(53, 1)] [wa] H H1 ∧ xPut wa x.toInt H H1)
def yc_e95_12 : zk_T := (95, [.inr (some (some 54)), .inr (some (some 3)), .inl ((-2147483648), 2147483647)], [], [(53, 1)], [12], [(.inl none, [], [])], 1)
theorem yc_t95_12 : zk_chk zB zB_fz [] [] 5000 yc_e95_12 = true := by decide +kernel
theorem yc_c95_12 {L : Nat} {σ : Nat → Int32} (d : Nat) (H : zp_H) (x : Int32) (hB : zk_Bs zB zg zJc H) : ∃ H1, zp_Call L σ (d + 1) 95 [.inr (.inr (some 54)), .inr (.inr (some 3)), .inl x] H (.inl none, H1) ∧ zk_Bs zB zg zJc H1 ∧ zk_Fr zg [(53, 1)] [12] H H1 := by
  have hct : zk_Ct L σ zB zg zJc yc_e95_12 := zk_chk_ok zB_W (fun _ h => absurd h List.not_mem_nil) yc_t95_12
  obtain ⟨⟨x1, H1⟩, c1, c2, c3, o, o1, o2, _⟩ := hct (d + 1) (Nat.le_add_left 1 d) [.inr (.inr (some 54)), .inr (.inr (some 3)), .inl x] H ⟨rfl, rfl, ⟨Int32.le_toInt _, Int32.toInt_le _⟩, trivial⟩ hB (fun f hf => absurd hf List.not_mem_nil)
  rcases List.mem_cons.mp o1 with rfl | o1
  · obtain rfl : x1 = .inl none := zk_rv_n o2
    exact ⟨H1, c1, c2, c3⟩
  · exact absurd o1 List.not_mem_nil
def yc_e96_12 : zk_T := (96, [.inr (some (some 54)), .inr (some (some 3)), .inl ((-2147483648), 2147483647)], [], [(53, 1)], [12], [(.inl none, [], [])], 2)
theorem yc_t96_12 : zk_chk zB zB_fz [] [] 5000 yc_e96_12 = true := by decide +kernel
theorem yc_c96_12 {L : Nat} {σ : Nat → Int32} (d : Nat) (H : zp_H) (x : Int32) (hB : zk_Bs zB zg zJc H) : ∃ H1, zp_Call L σ (d + 2) 96 [.inr (.inr (some 54)), .inr (.inr (some 3)), .inl x] H (.inl none, H1) ∧ zk_Bs zB zg zJc H1 ∧ zk_Fr zg [(53, 1)] [12] H H1 := by
  have hct : zk_Ct L σ zB zg zJc yc_e96_12 := zk_chk_ok zB_W (fun _ h => absurd h List.not_mem_nil) yc_t96_12
  obtain ⟨⟨x1, H1⟩, c1, c2, c3, o, o1, o2, _⟩ := hct (d + 2) (Nat.le_add_left 2 d) [.inr (.inr (some 54)), .inr (.inr (some 3)), .inl x] H ⟨rfl, rfl, ⟨Int32.le_toInt _, Int32.toInt_le _⟩, trivial⟩ hB (fun f hf => absurd hf List.not_mem_nil)
  rcases List.mem_cons.mp o1 with rfl | o1
  · obtain rfl : x1 = .inl none := zk_rv_n o2
    exact ⟨H1, c1, c2, c3⟩
  · exact absurd o1 List.not_mem_nil
theorem yc_P12 {L : Nat} {σ : Nat → Int32} : yc_P L σ 3 12 := ⟨Or.inl rfl, fun d H x h => by
  obtain ⟨H1, c1, c2, c3⟩ := yc_c96_12 (L := L) (σ := σ) d H x h
  exact ⟨H1, c1, c2, c3, yx_p96_12 (zB_Wd (zB_dn h)) c1⟩, fun d H x h => by
  obtain ⟨H1, c1, c2, c3⟩ := yc_c95_12 (L := L) (σ := σ) d H x h
  exact ⟨H1, c1, c2, c3, yx_p95_12 (zB_Wd (zB_dn h)) c1⟩⟩
def yc_e95_32 : zk_T := (95, [.inr (some (some 54)), .inr (some (some 23)), .inl ((-2147483648), 2147483647)], [], [(53, 1)], [32], [(.inl none, [], [])], 1)
theorem yc_t95_32 : zk_chk zB zB_fz [] [] 5000 yc_e95_32 = true := by decide +kernel
theorem yc_c95_32 {L : Nat} {σ : Nat → Int32} (d : Nat) (H : zp_H) (x : Int32) (hB : zk_Bs zB zg zJc H) : ∃ H1, zp_Call L σ (d + 1) 95 [.inr (.inr (some 54)), .inr (.inr (some 23)), .inl x] H (.inl none, H1) ∧ zk_Bs zB zg zJc H1 ∧ zk_Fr zg [(53, 1)] [32] H H1 := by
  have hct : zk_Ct L σ zB zg zJc yc_e95_32 := zk_chk_ok zB_W (fun _ h => absurd h List.not_mem_nil) yc_t95_32
  obtain ⟨⟨x1, H1⟩, c1, c2, c3, o, o1, o2, _⟩ := hct (d + 1) (Nat.le_add_left 1 d) [.inr (.inr (some 54)), .inr (.inr (some 23)), .inl x] H ⟨rfl, rfl, ⟨Int32.le_toInt _, Int32.toInt_le _⟩, trivial⟩ hB (fun f hf => absurd hf List.not_mem_nil)
  rcases List.mem_cons.mp o1 with rfl | o1
  · obtain rfl : x1 = .inl none := zk_rv_n o2
    exact ⟨H1, c1, c2, c3⟩
  · exact absurd o1 List.not_mem_nil
def yc_e96_32 : zk_T := (96, [.inr (some (some 54)), .inr (some (some 23)), .inl ((-2147483648), 2147483647)], [], [(53, 1)], [32], [(.inl none, [], [])], 2)
theorem yc_t96_32 : zk_chk zB zB_fz [] [] 5000 yc_e96_32 = true := by decide +kernel
theorem yc_c96_32 {L : Nat} {σ : Nat → Int32} (d : Nat) (H : zp_H) (x : Int32) (hB : zk_Bs zB zg zJc H) : ∃ H1, zp_Call L σ (d + 2) 96 [.inr (.inr (some 54)), .inr (.inr (some 23)), .inl x] H (.inl none, H1) ∧ zk_Bs zB zg zJc H1 ∧ zk_Fr zg [(53, 1)] [32] H H1 := by
  have hct : zk_Ct L σ zB zg zJc yc_e96_32 := zk_chk_ok zB_W (fun _ h => absurd h List.not_mem_nil) yc_t96_32
  obtain ⟨⟨x1, H1⟩, c1, c2, c3, o, o1, o2, _⟩ := hct (d + 2) (Nat.le_add_left 2 d) [.inr (.inr (some 54)), .inr (.inr (some 23)), .inl x] H ⟨rfl, rfl, ⟨Int32.le_toInt _, Int32.toInt_le _⟩, trivial⟩ hB (fun f hf => absurd hf List.not_mem_nil)
  rcases List.mem_cons.mp o1 with rfl | o1
  · obtain rfl : x1 = .inl none := zk_rv_n o2
    exact ⟨H1, c1, c2, c3⟩
  · exact absurd o1 List.not_mem_nil
theorem yc_P32 {L : Nat} {σ : Nat → Int32} : yc_P L σ 23 32 := ⟨Or.inr rfl, fun d H x h => by
  obtain ⟨H1, c1, c2, c3⟩ := yc_c96_32 (L := L) (σ := σ) d H x h
  exact ⟨H1, c1, c2, c3, yx_p96_32 (zB_Wd (zB_dn h)) c1⟩, fun d H x h => by
  obtain ⟨H1, c1, c2, c3⟩ := yc_c95_32 (L := L) (σ := σ) d H x h
  exact ⟨H1, c1, c2, c3, yx_p95_32 (zB_Wd (zB_dn h)) c1⟩⟩
theorem yE_P {T : Nat → Int} {n p wa : Nat} {H H1 : zp_H} (hw : wa = 12 ∨ wa = 32) (h : yE T n p H) (hB : zk_Bs zB zg zJc H1) (hF : zk_Fr zg [(53, 1)] [wa] H H1) : yE T n p H1 := by
  rcases hw with rfl | rfl
  · exact yE_c h (zB_dn hB) (zx_ae hF 52 (fun k => rfl) rfl rfl) (zx_ae hF 1 (fun k => rfl) rfl rfl)
  · exact yE_c h (zB_dn hB) (zx_ae hF 52 (fun k => rfl) rfl rfl) (zx_ae hF 1 (fun k => rfl) rfl rfl)
theorem yc_putD {L : Nat} {σ : Nat → Int32} {wr : Nat} {d : Nat} {T : Nat → Int} {n p wa : Nat} {H : zp_H} {x : Int32} (hP : yc_P L σ wr wa) (h : yE T n p H) : ∃ H1, zp_Call L σ (d + 2) 96 [.inr (.inr (some 54)), .inr (.inr (some wr)), .inl x] H (.inl none, H1) ∧ yE T n p H1 ∧ zk_Fr zg yx_m [wa] H H1 ∧ xPut wa (-1 - x.toInt) H H1 := by
  obtain ⟨H1, c1, c2, c3, c4⟩ := hP.2.1 d H x (yE_B h)
  exact ⟨H1, c1, yE_P hP.1 h c2 c3, zk_Fr_w rfl (by unfold List.all List.all zk_ina; rcases hP.1 with rfl | rfl <;> rfl) c3, c4⟩
theorem yc_put {L : Nat} {σ : Nat → Int32} {wr : Nat} {d : Nat} {T : Nat → Int} {n p wa : Nat} {H : zp_H} {x : Int32} (hP : yc_P L σ wr wa) (h : yE T n p H) : ∃ H1, zp_Call L σ (d + 1) 95 [.inr (.inr (some 54)), .inr (.inr (some wr)), .inl x] H (.inl none, H1) ∧ yE T n p H1 ∧ zk_Fr zg yx_m [wa] H H1 ∧ xPut wa x.toInt H H1 := by
  obtain ⟨H1, c1, c2, c3, c4⟩ := hP.2.2 d H x (yE_B h)
  exact ⟨H1, c1, yE_P hP.1 h c2 c3, zk_Fr_w rfl (by unfold List.all List.all zk_ina; rcases hP.1 with rfl | rfl <;> rfl) c3, c4⟩
theorem yc_adx {L : Nat} {σ : Nat → Int32} {d : Nat} {T : Nat → Int} {n p wa : Nat} {H : zp_H} (h : yE T n p H) : ∃ H1, zp_Call L σ (d + 3) 55 [.inr (.inr (some 53))] H (.inl none, H1) ∧ yE T n (ys_nx T n p) H1 ∧ zk_Fr zg yx_m [wa] H H1 ∧ ∀ p k, p ≠ 52 → p ≠ 72 → H1.2.1 p k = H.2.1 p k := by
  have hb := ys_nxb (T := T) h.2.2
  obtain ⟨_, c1, H1, rfl, c2, c3, c4⟩ := yc_adv (L := L) (σ := σ) (d := d) (p := ys_nx T n p) h.1 h.2.1.2.1 hb.2.2.1
  exact ⟨H1, c1, ⟨c2, c4, hb.2.2.1⟩, zk_Fr_w rfl rfl c3, fun p k h52 h72 => (zI_in c3 (p := p) (k := k) (zk_n52 rfl h52) rfl (fun h9 => h72 h9.1)).1⟩
theorem ys_adv {T : Nat → Int} {n p : Nat} (hp : p ≤ n) (hk : ys_kd T n p ≠ 0) : p < ys_nx T n p ∧ ys_nx T n p ≤ n := by
  have h := ys_nxb (T := T) hp
  have := h.2.2.2 hk
  omega

theorem yc_sg1 {L : Nat} {σ : Nat → Int32} {d : Nat} {T : Nat → Int} {n p : Nat} {H : zp_H} {x : Int32} {c : Int} (hc : x.toInt = c) (h : yE T n p H) (hq : ys_kd T n p = 4 ∧ ys_vl T n p = c) : zp_Call L σ (d + 1) 86 [.inr (.inr (some 53)), .inl x] H (.inl (some (.inl (Int32.ofInt 1))), H) := by
  have W := zB_Wd h.1.1
  have h4 := yE_4 h
  have h5 : ys_kd T n p ≠ 0 → _ := yE_5 h
  refine zw_ex (zw_met zm_86_t rfl rfl ?_)
  refine zw_ld (n := 1) (k := 0) (f := zp_isR) (pc' := 1) rfl rfl rfl rfl rfl ?_
  refine zw_gI (q := 52) (pc' := 4) W rfl rfl rfl rfl rfl rfl ?_
  refine zw_s (pc' := 5) rfl rfl ?_
  refine zw_bne2 (g := 20) (pc' := 8) rfl rfl rfl rfl (rfl : _ = (4 : Int)) (fun h1 => ?_) (fun h1 => ?_)
  · omega
  · refine zw_ld (n := 1) (k := 0) (f := zp_isR) (pc' := 9) rfl rfl rfl rfl rfl ?_
    refine zw_gI (q := 52) (pc' := 12) W rfl rfl rfl rfl rfl rfl ?_
    refine zw_ld (n := 1) (k := 1) (f := zp_isI) (pc' := 13) rfl rfl rfl rfl rfl ?_
    refine zw_bne2 (g := 20) (pc' := 16) rfl rfl rfl rfl rfl (fun h2 => ?_) (fun h2 => ?_)
    · have := h5 (by omega)
      omega
    · refine zw_s (pc' := 17) rfl rfl ?_
      refine zw_s (pc' := 21) rfl rfl ?_
      refine zw_rz rfl rfl (by decide) ?_
      rfl

theorem yc_sg0 {L : Nat} {σ : Nat → Int32} {d : Nat} {T : Nat → Int} {n p : Nat} {H : zp_H} {x : Int32} {c : Int} (hc : x.toInt = c) (h : yE T n p H) (hq : ¬ (ys_kd T n p = 4 ∧ ys_vl T n p = c)) : zp_Call L σ (d + 1) 86 [.inr (.inr (some 53)), .inl x] H (.inl (some (.inl (Int32.ofInt 0))), H) := by
  have W := zB_Wd h.1.1
  have h4 := yE_4 h
  have h5 : ys_kd T n p ≠ 0 → _ := yE_5 h
  refine zw_ex (zw_met zm_86_t rfl rfl ?_)
  refine zw_ld (n := 1) (k := 0) (f := zp_isR) (pc' := 1) rfl rfl rfl rfl rfl ?_
  refine zw_gI (q := 52) (pc' := 4) W rfl rfl rfl rfl rfl rfl ?_
  refine zw_s (pc' := 5) rfl rfl ?_
  refine zw_bne2 (g := 20) (pc' := 8) rfl rfl rfl rfl (rfl : _ = (4 : Int)) (fun h1 => ?_) (fun h1 => ?_)
  · refine zw_s (pc' := 21) rfl rfl ?_
    refine zw_rz rfl rfl (by decide) ?_
    rfl
  · refine zw_ld (n := 1) (k := 0) (f := zp_isR) (pc' := 9) rfl rfl rfl rfl rfl ?_
    refine zw_gI (q := 52) (pc' := 12) W rfl rfl rfl rfl rfl rfl ?_
    refine zw_ld (n := 1) (k := 1) (f := zp_isI) (pc' := 13) rfl rfl rfl rfl rfl ?_
    refine zw_bne2 (g := 20) (pc' := 16) rfl rfl rfl rfl rfl (fun h2 => ?_) (fun h2 => ?_)
    · refine zw_s (pc' := 21) rfl rfl ?_
      refine zw_rz rfl rfl (by decide) ?_
      rfl
    · have := h5 (by omega)
      omega

theorem yc_wd1 {L : Nat} {σ : Nat → Int32} {d : Nat} {T : Nat → Int} {n p : Nat} {H : zp_H} {x : Int32} {c : Int} (hc : x.toInt = c) (h : yE T n p H) (hq : ys_kd T n p = 3 ∧ ys_vl T n p = c) : zp_Call L σ (d + 1) 90 [.inr (.inr (some 53)), .inl x] H (.inl (some (.inl (Int32.ofInt 1))), H) := by
  have W := zB_Wd h.1.1
  have h4 := yE_4 h
  have h5 : ys_kd T n p ≠ 0 → _ := yE_5 h
  refine zw_ex (zw_met zm_90_t rfl rfl ?_)
  refine zw_ld (n := 1) (k := 0) (f := zp_isR) (pc' := 1) rfl rfl rfl rfl rfl ?_
  refine zw_gI (q := 52) (pc' := 4) W rfl rfl rfl rfl rfl rfl ?_
  refine zw_s (pc' := 5) rfl rfl ?_
  refine zw_bne2 (g := 20) (pc' := 8) rfl rfl rfl rfl (rfl : _ = (3 : Int)) (fun h1 => ?_) (fun h1 => ?_)
  · omega
  · refine zw_ld (n := 1) (k := 0) (f := zp_isR) (pc' := 9) rfl rfl rfl rfl rfl ?_
    refine zw_gI (q := 52) (pc' := 12) W rfl rfl rfl rfl rfl rfl ?_
    refine zw_ld (n := 1) (k := 1) (f := zp_isI) (pc' := 13) rfl rfl rfl rfl rfl ?_
    refine zw_bne2 (g := 20) (pc' := 16) rfl rfl rfl rfl rfl (fun h2 => ?_) (fun h2 => ?_)
    · have := h5 (by omega)
      omega
    · refine zw_s (pc' := 17) rfl rfl ?_
      refine zw_s (pc' := 21) rfl rfl ?_
      refine zw_rz rfl rfl (by decide) ?_
      rfl

theorem yc_wd0 {L : Nat} {σ : Nat → Int32} {d : Nat} {T : Nat → Int} {n p : Nat} {H : zp_H} {x : Int32} {c : Int} (hc : x.toInt = c) (h : yE T n p H) (hq : ¬ (ys_kd T n p = 3 ∧ ys_vl T n p = c)) : zp_Call L σ (d + 1) 90 [.inr (.inr (some 53)), .inl x] H (.inl (some (.inl (Int32.ofInt 0))), H) := by
  have W := zB_Wd h.1.1
  have h4 := yE_4 h
  have h5 : ys_kd T n p ≠ 0 → _ := yE_5 h
  refine zw_ex (zw_met zm_90_t rfl rfl ?_)
  refine zw_ld (n := 1) (k := 0) (f := zp_isR) (pc' := 1) rfl rfl rfl rfl rfl ?_
  refine zw_gI (q := 52) (pc' := 4) W rfl rfl rfl rfl rfl rfl ?_
  refine zw_s (pc' := 5) rfl rfl ?_
  refine zw_bne2 (g := 20) (pc' := 8) rfl rfl rfl rfl (rfl : _ = (3 : Int)) (fun h1 => ?_) (fun h1 => ?_)
  · refine zw_s (pc' := 21) rfl rfl ?_
    refine zw_rz rfl rfl (by decide) ?_
    rfl
  · refine zw_ld (n := 1) (k := 0) (f := zp_isR) (pc' := 9) rfl rfl rfl rfl rfl ?_
    refine zw_gI (q := 52) (pc' := 12) W rfl rfl rfl rfl rfl rfl ?_
    refine zw_ld (n := 1) (k := 1) (f := zp_isI) (pc' := 13) rfl rfl rfl rfl rfl ?_
    refine zw_bne2 (g := 20) (pc' := 16) rfl rfl rfl rfl rfl (fun h2 => ?_) (fun h2 => ?_)
    · refine zw_s (pc' := 21) rfl rfl ?_
      refine zw_rz rfl rfl (by decide) ?_
      rfl
    · have := h5 (by omega)
      omega

theorem yc_wy1 {L : Nat} {σ : Nat → Int32} {d : Nat} {T : Nat → Int} {n p : Nat} {H : zp_H} (h : yE T n p H) (hq : ys_kd T n p = 3 ∧ ys_vl T n p < 4) : zp_Call L σ (d + 1) 74 [.inr (.inr (some 53))] H (.inl (some (.inl (Int32.ofInt 1))), H) := by
  have W := zB_Wd h.1.1
  have h4 := yE_4 h
  have h5 : ys_kd T n p ≠ 0 → _ := yE_5 h
  refine zw_ex (zw_met zm_74_t rfl rfl ?_)
  refine zw_ld (n := 1) (k := 0) (f := zp_isR) (pc' := 1) rfl rfl rfl rfl rfl ?_
  refine zw_gI (q := 52) (pc' := 4) W rfl rfl rfl rfl rfl rfl ?_
  refine zw_s (pc' := 5) rfl rfl ?_
  refine zw_bne2 (g := 20) (pc' := 8) rfl rfl rfl rfl (rfl : _ = (3 : Int)) (fun h1 => ?_) (fun h1 => ?_)
  · omega
  · refine zw_ld (n := 1) (k := 0) (f := zp_isR) (pc' := 9) rfl rfl rfl rfl rfl ?_
    refine zw_gI (q := 52) (pc' := 12) W rfl rfl rfl rfl rfl rfl ?_
    refine zw_s (pc' := 13) rfl rfl ?_
    refine zw_bge2 (g := 20) (pc' := 16) rfl rfl rfl rfl (rfl : _ = (4 : Int)) (fun h2 => ?_) (fun h2 => ?_)
    · have := h5 (by omega)
      omega
    · refine zw_s (pc' := 17) rfl rfl ?_
      refine zw_s (pc' := 21) rfl rfl ?_
      refine zw_rz rfl rfl (by decide) ?_
      rfl

theorem yc_wy0 {L : Nat} {σ : Nat → Int32} {d : Nat} {T : Nat → Int} {n p : Nat} {H : zp_H} (h : yE T n p H) (hq : ¬ (ys_kd T n p = 3 ∧ ys_vl T n p < 4)) : zp_Call L σ (d + 1) 74 [.inr (.inr (some 53))] H (.inl (some (.inl (Int32.ofInt 0))), H) := by
  have W := zB_Wd h.1.1
  have h4 := yE_4 h
  have h5 : ys_kd T n p ≠ 0 → _ := yE_5 h
  refine zw_ex (zw_met zm_74_t rfl rfl ?_)
  refine zw_ld (n := 1) (k := 0) (f := zp_isR) (pc' := 1) rfl rfl rfl rfl rfl ?_
  refine zw_gI (q := 52) (pc' := 4) W rfl rfl rfl rfl rfl rfl ?_
  refine zw_s (pc' := 5) rfl rfl ?_
  refine zw_bne2 (g := 20) (pc' := 8) rfl rfl rfl rfl (rfl : _ = (3 : Int)) (fun h1 => ?_) (fun h1 => ?_)
  · refine zw_s (pc' := 21) rfl rfl ?_
    refine zw_rz rfl rfl (by decide) ?_
    rfl
  · refine zw_ld (n := 1) (k := 0) (f := zp_isR) (pc' := 9) rfl rfl rfl rfl rfl ?_
    refine zw_gI (q := 52) (pc' := 12) W rfl rfl rfl rfl rfl rfl ?_
    refine zw_s (pc' := 13) rfl rfl ?_
    refine zw_bge2 (g := 20) (pc' := 16) rfl rfl rfl rfl (rfl : _ = (4 : Int)) (fun h2 => ?_) (fun h2 => ?_)
    · refine zw_s (pc' := 21) rfl rfl ?_
      refine zw_rz rfl rfl (by decide) ?_
      rfl
    · have := h5 (by omega)
      omega

theorem yc_rfx {L : Nat} {σ : Nat → Int32} {d : Nat} {T : Nat → Int} {n p : Nat} {H : zp_H} {x : Int32} (h : yE T n p H) : zp_Call L σ (d + 1) 87 [.inr (.inr (some 54)), .inl x] H (.inl (some (.inl (Int32.ofInt 0))), zw_I H 53 2 x) := by
  have W := zB_Wd h.1.1
  refine zw_ex (zw_met zm_87_t rfl rfl ?_)
  refine zw_ld (n := 1) (k := 0) (f := zp_isR) (pc' := 1) rfl rfl rfl rfl rfl ?_
  refine zw_ld (n := 1) (k := 1) (f := zp_isI) (pc' := 2) rfl rfl rfl rfl rfl ?_
  refine zw_pI (q := 53) (pc' := 5) W rfl rfl rfl rfl rfl rfl ?_
  refine zw_s (pc' := 6) rfl rfl ?_
  refine zw_rz rfl rfl (by decide) ?_
  rfl

theorem yc_rf {L : Nat} {σ : Nat → Int32} {d : Nat} {T : Nat → Int} {n p wa : Nat} {H : zp_H} {x : Int32} (h : yE T n p H) : ∃ H1, zp_Call L σ (d + 1) 87 [.inr (.inr (some 54)), .inl x] H (.inl (some (.inl (Int32.ofInt 0))), H1) ∧ yE T n p H1 ∧ zk_Fr zg yx_m [wa] H H1 ∧ (H1.2.1 53 2).toInt = x.toInt := by
  refine ⟨_, yc_rfx h, yE_c h ?_ (funext fun k => zw_ne rfl rfl) (funext fun k => zw_ne rfl rfl), zk_Fr_I (zk_Fr_r H) rfl rfl, congrArg Int32.toInt zw_eq⟩
  exact zB_putf (p := 53) (k := 2) (x := x) h.1.1 rfl (fun r hr => by cases hr) (zJc_I rfl h.1.1.2.2.2.2.2.2.2)
end
section
/-! ===== the class reads an expression, exactly ===== -/
def zm_85 : za_MI := (yX2_readExpr, prog_4_method_6_code, 4, (some FieldType.boolean), 2, 0, 0, [], za_i85)
theorem zm_85_t : za_MT 85 = some zm_85 := rfl
def zm_94 : za_MI := (yX2_readPart, prog_4_method_12_code, 3, (some FieldType.boolean), 2, 0, 0, [], za_i94)
theorem zm_94_t : za_MT 94 = some zm_94 := rfl
def yX (T : Nat → Int) (n : Nat) (s : yM) (wa l : Nat) (d : Int) (Q : List Bool → Nat → Prop) (H0 : zp_H) (X : zp_X) : Prop := ∃ (v : Int32) (H1 : zp_H) (q : Nat), X = (.inl (some (.inl v)), H1) ∧ yE T n q H1 ∧ zk_Fr zg yx_m [wa] H0 H1 ∧ ((v.toInt = 1 ∧ s.2.2 < q ∧ ∃ lv', Q lv' q ∧ xRC T n wa l d s (0, lv', q) H0 H1) ∨ (v.toInt = 0 ∧ ∃ r : Int × Nat, yA T n s r ∧ r.2 = q ∧ (H1.2.1 53 2).toInt = r.1 ∧ 1 ≤ r.1 ∧ r.1 ≤ 5))
def yQ0 (lv : List Bool) (lv' : List Bool) (_ : Nat) : Prop := lv' = lv
def yQ1 (T : Nat → Int) (n : Nat) (lv : List Bool) (lv' : List Bool) (q : Nat) : Prop := lv' = lv ∧ ¬ (ys_kd T n q = 4 ∧ (ys_vl T n q = 42 ∨ ys_vl T n q = 47))
def yQ2 (T : Nat → Int) (n : Nat) (lv : List Bool) (lv' : List Bool) (q : Nat) : Prop := yQ1 T n lv lv' q ∧ ¬ (ys_kd T n q = 4 ∧ (ys_vl T n q = 43 ∨ ys_vl T n q = 45))
def yQ3 (T : Nat → Int) (n : Nat) (tl : List Bool) (lv' : List Bool) (q : Nat) : Prop := ∃ t, lv' = t :: tl ∧ yQ2 T n (t :: tl) (t :: tl) q ∧ (t = false → ¬ (ys_kd T n q = 4 ∧ (ys_vl T n q = 60 ∨ ys_vl T n q = 61)))
def yQ4 (T : Nat → Int) (n : Nat) (tl : List Bool) (lv' : List Bool) (q : Nat) : Prop := yQ3 T n tl lv' q ∧ ¬ (ys_kd T n q = 3 ∧ ys_vl T n q = 9)
def yQ5 (T : Nat → Int) (n : Nat) (tl : List Bool) (lv' : List Bool) (q : Nat) : Prop := yQ4 T n tl lv' q ∧ ¬ (ys_kd T n q = 3 ∧ ys_vl T n q = 8)
/-- a method that reads from s on -/
def yK (L : Nat) (σ : Nat → Int32) (T : Nat → Int) (n wa : Nat) (wr : Nat) (v j m : Nat) (Q : List Bool → List Bool → Nat → Prop) (b : Option Bool) (c l : Nat) : Prop := ∀ (lv : List Bool) (x : Int32) (p : Nat) (H : zp_H), lv.length = l + 1 → (∀ b', b = some b' → lv.head? = some b') → x.toInt = l → yE T n p H → ∃ X, zp_Call L σ c j [.inr (.inr (some 54)), .inr (.inr (some wr)), .inl x] H X ∧ yX T n (m, lv, p) wa v (38 - 6 * (l : Int) - (v : Int)) (Q lv) H X
/-- readExpr one deeper: it reads, or there are six already -/
def yG (L : Nat) (σ : Nat → Int32) (T : Nat → Int) (n wa wr c l : Nat) : Prop := ∀ (lv : List Bool) (x : Int32) (p : Nat) (H : zp_H), lv.length = l + 1 → x.toInt = ((l + 1 : Nat) : Int) → yE T n p H → ∃ X, zp_Call L σ c 85 [.inr (.inr (some 54)), .inr (.inr (some wr)), .inl x] H X ∧ ∃ (v : Int32) (H1 : zp_H) (q : Nat), X = (.inl (some (.inl v)), H1) ∧ yE T n q H1 ∧ zk_Fr zg yx_m [wa] H H1 ∧ ((v.toInt = 1 ∧ p < q ∧ lv.length < 6 ∧ ∃ lv', yQ5 T n lv lv' q ∧ xRC T n wa 1 (31 - 6 * (l : Int)) (2, false :: lv, p) (0, lv', q) H H1) ∨ (v.toInt = 0 ∧ ∃ r : Int × Nat, (lv.length < 6 → yA T n (2, false :: lv, p) r) ∧ (¬ lv.length < 6 → r = (if yB T n p then 2 else 1, p)) ∧ r.2 = q ∧ (H1.2.1 53 2).toInt = r.1 ∧ 1 ≤ r.1 ∧ r.1 ≤ 5))
theorem yX_0 {T : Nat → Int} {n wa q l : Nat} {d : Int} {s : yM} {r : Int × Nat} {Q : List Bool → Nat → Prop} {H0 H1 : zp_H} (hE : yE T n q H1) (hF : zk_Fr zg yx_m [wa] H0 H1) (hA : yA T n s r) (hq : r.2 = q) (hf : (H1.2.1 53 2).toInt = r.1) (hb : 1 ≤ r.1 ∧ r.1 ≤ 5) : yX T n s wa l d Q H0 (.inl (some (.inl (Int32.ofInt 0))), H1) := ⟨_, H1, q, rfl, hE, hF, Or.inr ⟨rfl, r, hA, hq, hf, hb⟩⟩
theorem yX_1 {T : Nat → Int} {n wa q l : Nat} {d : Int} {s : yM} {lv' : List Bool} {Q : List Bool → Nat → Prop} {H0 H1 : zp_H} (hE : yE T n q H1) (hF : zk_Fr zg yx_m [wa] H0 H1) (hp : s.2.2 < q) (hQ : Q lv' q) (hR : xRC T n wa l d s (0, lv', q) H0 H1) : yX T n s wa l d Q H0 (.inl (some (.inl (Int32.ofInt 1))), H1) := ⟨_, H1, q, rfl, hE, hF, Or.inl ⟨rfl, hp, lv', hQ, hR⟩⟩

set_option maxRecDepth 8000 in
theorem yc_part {L : Nat} {σ : Nat → Int32} {T : Nat → Int} {n wa : Nat} {wr : Nat} {c l : Nat} (hl6 : l < 6) (hP : yc_P L σ wr wa) (hE : yG L σ T n wa wr c l) : yK L σ T n wa wr 7 94 1 yQ0 none (c + 4) l := by
  intro lv x p H hl hb hx h
  have W := zB_Wd h.1.1
  have h4 := yE_4 h
  have h5 : ys_kd T n p ≠ 0 → _ := yE_5 h
  refine zw_met zm_94_t rfl rfl ?_
  refine zw_ld (n := 1) (k := 0) (f := zp_isR) (pc' := 1) rfl rfl rfl rfl rfl ?_
  refine zw_gR (q := 53) (pc' := 4) W rfl rfl rfl rfl (W.2 53 0 _ rfl) rfl ?_
  refine zw_s (pc' := 6) rfl rfl ?_
  by_cases h40 : ys_kd T n p = 4 ∧ ys_vl T n p = 40
  · refine zw_c (pc' := 9) (zw_cv (q := 52) (Y := zm_86) W.1 rfl rfl zm_86_t rfl rfl) rfl rfl rfl rfl rfl (yc_sg1 (d := c + 2) rfl h h40) ?_
    refine zw_beq1 (g := 50) (pc' := 12) rfl rfl rfl (rfl : _ = (1 : Int)) (fun h9 => absurd h9 (by decide)) (fun h9 => ?_)
    obtain ⟨H1, a1, a2, a3, a4⟩ := yc_adx (L := L) (σ := σ) (d := c) (wa := wa) h
    have W1 := zB_Wd a2.1.1
    have hadv := ys_adv (T := T) h.2.2 (by omega)
    refine zw_ld (n := 1) (k := 0) (f := zp_isR) (pc' := 13) rfl rfl rfl rfl rfl ?_
    refine zw_gR (q := 53) (pc' := 16) W rfl rfl rfl rfl (W.2 53 0 _ rfl) rfl ?_
    refine zw_cn (pc' := 19) (zw_cv (q := 52) (Y := zm_55) W.1 rfl rfl zm_55_t rfl rfl) rfl rfl rfl rfl rfl (a1) ?_
    have ex1 : (x + Int32.ofInt 1).toInt = ((l + 1 : Nat) : Int) := by
      rw [zw_p1 (by omega)]
      omega
    have hN := yN_op (lv := lv) h40.1 h40.2
    obtain ⟨X1, b1, b2⟩ := hE lv _ _ H1 hl ex1 a2
    obtain ⟨v, H2, q, rfl, e2, e3, e4⟩ := b2
    have W2 := zB_Wd e2.1.1
    refine zw_ld (n := 1) (k := 0) (f := zp_isR) (pc' := 20) rfl rfl rfl rfl rfl ?_
    refine zw_ld (n := 1) (k := 1) (f := zp_isR) (pc' := 21) rfl rfl rfl rfl rfl ?_
    refine zw_ld (n := 1) (k := 2) (f := zp_isI) (pc' := 22) rfl rfl rfl rfl rfl ?_
    refine zw_s (pc' := 23) rfl rfl ?_
    refine zw_iadd (pc' := 24) rfl rfl ?_
    refine zw_c (pc' := 27) (zw_cv (q := 53) (Y := zm_85) W1.1 rfl rfl zm_85_t rfl rfl) rfl rfl rfl rfl rfl ((zp_Call_le (by omega) b1)) ?_
    refine zw_bne1 (g := 32) (pc' := 30) rfl rfl rfl rfl (fun hv => ?_) (fun hv => ?_)
    · rcases e4 with ⟨_, e5, h6, lv', e6, e7⟩ | ⟨e4, _⟩
      rotate_left
      · omega
      rw [if_pos h6] at hN
      obtain ⟨⟨⟨tf, rfl, e8⟩, e9⟩, e10⟩ := e6
      refine zw_ld (n := 1) (k := 0) (f := zp_isR) (pc' := 33) rfl rfl rfl rfl rfl ?_
      refine zw_gR (q := 53) (pc' := 36) W2 rfl rfl rfl rfl (W2.2 53 0 _ rfl) rfl ?_
      refine zw_s (pc' := 38) rfl rfl ?_
      by_cases h41 : ys_kd T n q = 4 ∧ ys_vl T n q = 41
      · refine zw_c (pc' := 41) (zw_cv (q := 52) (Y := zm_86) W2.1 rfl rfl zm_86_t rfl rfl) rfl rfl rfl rfl rfl (yc_sg1 (d := c + 2) rfl e2 h41) ?_
        refine zw_bne1 (g := 145) (pc' := 44) rfl rfl rfl (rfl : _ = (1 : Int)) (fun h9 => ?_) (fun h9 => absurd h9 (by decide))
        have hpq : ys_nx T n p < q := e5
        obtain ⟨H9, g1, g2, g3, g4⟩ := yc_adx (L := L) (σ := σ) (d := c) (wa := wa) e2
        have hadv9 := ys_adv (T := T) e2.2.2 (by omega)
        refine zw_ld (n := 1) (k := 0) (f := zp_isR) (pc' := 146) rfl rfl rfl rfl rfl ?_
        refine zw_gR (q := 53) (pc' := 149) W2 rfl rfl rfl rfl (W2.2 53 0 _ rfl) rfl ?_
        refine zw_cn (pc' := 152) (zw_cv (q := 52) (Y := zm_55) W2.1 rfl rfl zm_55_t rfl rfl) rfl rfl rfl rfl rfl (g1) ?_
        refine zw_s (pc' := 153) rfl rfl ?_
        refine zw_rz rfl rfl (by decide) ?_
        exact yX_1 g2 (zk_Fr_t (zk_Fr_t a3 e3) g3) (by show p < ys_nx T n _; omega) rfl (xRC_up (Nat.le_refl _) (by omega) (xRC_m (xRC_p hN (fun W O => xWO_op (m := 1) (p := p) h40.1 (show (1 : Nat) ≠ 0 by decide)) (by show p < ys_nx T n p; omega) (yc_sm hP.1 a4) e7 h41.1 h41.2 (by rw [List.length_cons]; omega) (by omega)) (yc_sm hP.1 g4)))
      · refine zw_c (pc' := 41) (zw_cv (q := 52) (Y := zm_86) W2.1 rfl rfl zm_86_t rfl rfl) rfl rfl rfl rfl rfl (yc_sg0 (d := c + 2) rfl e2 h41) ?_
        refine zw_bne1 (g := 145) (pc' := 44) rfl rfl rfl (rfl : _ = (0 : Int)) (fun h9 => absurd h9 (by decide)) (fun h9 => ?_)
        refine zw_ld (n := 1) (k := 0) (f := zp_isR) (pc' := 45) rfl rfl rfl rfl rfl ?_
        refine zw_s (pc' := 46) rfl rfl ?_
        have hNe : yN T n (0, tf :: lv, q) = .inr (1, q) := by
          rw [yN_en ⟨fun h9 => ?_, e8.1.2, e8.1.1.2⟩ (fun h9 => ?_) (fun h9 => h41 ⟨h9.1, h9.2.1⟩), if_pos (by rw [List.length_cons]; omega)]
          · rcases h9.2 with h8 | h8
            · exact e9 ⟨h9.1, h8⟩
            · exact e10 ⟨h9.1, h8⟩
          · exact e8.2 (Option.some.inj h9.2.2) ⟨h9.1, h9.2.1⟩
        obtain ⟨K9, c1, c2, c3, c4⟩ := yc_rf (L := L) (σ := σ) (d := c + 2) (wa := wa) (x := Int32.ofInt 1) e2
        refine zw_c (pc' := 49) (zw_cv (q := 53) (Y := zm_87) W2.1 rfl rfl zm_87_t rfl rfl) rfl rfl rfl rfl rfl (c1) ?_
        refine zw_rz rfl rfl (by decide) ?_
        exact yX_0 c2 (zk_Fr_t (zk_Fr_t a3 e3) c3) (yA_step hN (e7.1 _ (yA_done hNe))) rfl c4 (show 1 ≤ (1 : Int) ∧ (1 : Int) ≤ 5 from by decide)
    · refine zw_s (pc' := 31) rfl rfl ?_
      refine zw_rz rfl rfl (by decide) ?_
      rcases e4 with ⟨e4, _⟩ | ⟨e4, r, e5, e5', e6, e7, e8⟩
      · omega
      · have hv0 : v = Int32.ofInt 0 := Int32.toInt_inj.mp (e4.trans rfl)
        refine yX_0 e2 (zk_Fr_t a3 e3) ?_ e6 e7 e8
        by_cases h6 : lv.length < 6
        · rw [if_pos h6] at hN
          exact yA_step hN (e5 h6)
        · rw [if_neg h6] at hN
          rw [e5' h6]
          exact yA_done hN
  · refine zw_c (pc' := 9) (zw_cv (q := 52) (Y := zm_86) W.1 rfl rfl zm_86_t rfl rfl) rfl rfl rfl rfl rfl (yc_sg0 (d := c + 2) rfl h h40) ?_
    refine zw_beq1 (g := 50) (pc' := 12) rfl rfl rfl (rfl : _ = (0 : Int)) (fun h9 => ?_) (fun h9 => absurd h9 (by decide))
    refine zw_ld (n := 1) (k := 0) (f := zp_isR) (pc' := 51) rfl rfl rfl rfl rfl ?_
    refine zw_gR (q := 53) (pc' := 54) W rfl rfl rfl rfl (W.2 53 0 _ rfl) rfl ?_
    refine zw_gI (q := 52) (pc' := 57) W rfl rfl rfl rfl rfl rfl ?_
    refine zw_s (pc' := 58) rfl rfl ?_
    refine zw_bne2 (g := 95) (pc' := 61) rfl rfl rfl rfl (rfl : _ = (2 : Int)) (fun h2 => ?_) (fun h2 => ?_)
    · refine zw_ld (n := 1) (k := 0) (f := zp_isR) (pc' := 96) rfl rfl rfl rfl rfl ?_
      refine zw_gR (q := 53) (pc' := 99) W rfl rfl rfl rfl (W.2 53 0 _ rfl) rfl ?_
      refine zw_gI (q := 52) (pc' := 102) W rfl rfl rfl rfl rfl rfl ?_
      refine zw_s (pc' := 103) rfl rfl ?_
      refine zw_bne2 (g := 139) (pc' := 106) rfl rfl rfl rfl (rfl : _ = (3 : Int)) (fun h3 => ?_) (fun h3 => ?_)
      · refine zw_ld (n := 1) (k := 0) (f := zp_isR) (pc' := 140) rfl rfl rfl rfl rfl ?_
        refine zw_s (pc' := 141) rfl rfl ?_
        obtain ⟨K9, c1, c2, c3, c4⟩ := yc_rf (L := L) (σ := σ) (d := c + 2) (wa := wa) (x := Int32.ofInt 1) h
        refine zw_c (pc' := 144) (zw_cv (q := 53) (Y := zm_87) W.1 rfl rfl zm_87_t rfl rfl) rfl rfl rfl rfl rfl (c1) ?_
        refine zw_rz rfl rfl (by decide) ?_
        exact yX_0 c2 (zk_Fr_t (zk_Fr_r H) c3) (yA_done (yN_un h40 (by omega) (by omega))) rfl c4 (show 1 ≤ (1 : Int) ∧ (1 : Int) ≤ 5 from by decide)
      · have hv := h5 (by omega)
        have hN := yN_wo (T := T) (n := n) (p := p) (lv := lv) (by omega)
        refine zw_ld (n := 1) (k := 0) (f := zp_isR) (pc' := 107) rfl rfl rfl rfl rfl ?_
        refine zw_gR (q := 53) (pc' := 110) W rfl rfl rfl rfl (W.2 53 0 _ rfl) rfl ?_
        refine zw_gI (q := 52) (pc' := 113) W rfl rfl rfl rfl rfl rfl ?_
        refine zw_s (pc' := 115) rfl rfl ?_
        refine zw_blt2 (g := 124) (pc' := 118) rfl rfl rfl rfl (rfl : _ = (8 : Int)) (fun h6 => ?_) (fun h6 => ?_)
        · rw [if_pos (by omega)] at hN
          obtain ⟨K, k1, k2, k3, k4⟩ := yc_putD (d := c + 1) (x := H.2.1 52 5) hP h
          have WK := zB_Wd k2.1.1
          refine zw_ld (n := 1) (k := 0) (f := zp_isR) (pc' := 125) rfl rfl rfl rfl rfl ?_
          refine zw_ld (n := 1) (k := 1) (f := zp_isR) (pc' := 126) rfl rfl rfl rfl rfl ?_
          refine zw_ld (n := 1) (k := 0) (f := zp_isR) (pc' := 127) rfl rfl rfl rfl rfl ?_
          refine zw_gR (q := 53) (pc' := 130) W rfl rfl rfl rfl (W.2 53 0 _ rfl) rfl ?_
          refine zw_gI (q := 52) (pc' := 133) W rfl rfl rfl rfl rfl rfl ?_
          refine zw_cn (pc' := 136) (zw_cv (q := 53) (Y := zm_96) W.1 rfl rfl zm_96_t rfl rfl) rfl rfl rfl rfl rfl (k1) ?_
          obtain ⟨H9, g1, g2, g3, g4⟩ := yc_adx (L := L) (σ := σ) (d := c) (wa := wa) k2
          have hadv9 := ys_adv (T := T) k2.2.2 (by omega)
          refine zw_s (pc' := 145) rfl rfl ?_
          refine zw_ld (n := 1) (k := 0) (f := zp_isR) (pc' := 146) rfl rfl rfl rfl rfl ?_
          refine zw_gR (q := 53) (pc' := 149) WK rfl rfl rfl rfl (WK.2 53 0 _ rfl) rfl ?_
          refine zw_cn (pc' := 152) (zw_cv (q := 52) (Y := zm_55) WK.1 rfl rfl zm_55_t rfl rfl) rfl rfl rfl rfl rfl (g1) ?_
          refine zw_s (pc' := 153) rfl rfl ?_
          refine zw_rz rfl rfl (by decide) ?_
          exact yX_1 g2 (zk_Fr_t k3 g3) (by show p < ys_nx T n _; omega) rfl (xRC_up (Nat.le_refl _) (by omega) (xRC_m (xRC_1 (i := (1, ys_vl T n p)) hN (fun W O => xWO_vl (m := 1) (p := p) (show ys_kd T n p = 3 by omega) (show ys_vl T n p ≠ 10 by omega) (show (1 : Nat) ≠ 0 by decide)) (show (1 : Nat) < 2 by decide) (by have h8 := ys_vl_b (T := T) (n := n) (p := p) (by omega); exact ⟨h8.1, by show ys_vl T n p ≤ 9999; omega, fun _ => by show ys_vl T n p < 8; omega⟩) (by show p < ys_nx T n p; omega) (by have := h.1.2.1; show p < 700; omega) k4 (by show _ = -1 - ys_vl T n p; omega)) (yc_sm hP.1 g4)))
        · refine zw_ld (n := 1) (k := 0) (f := zp_isR) (pc' := 119) rfl rfl rfl rfl rfl ?_
          refine zw_s (pc' := 120) rfl rfl ?_
          rw [if_neg (by omega)] at hN
          obtain ⟨K9, c1, c2, c3, c4⟩ := yc_rf (L := L) (σ := σ) (d := c + 2) (wa := wa) (x := Int32.ofInt 3) h
          refine zw_c (pc' := 123) (zw_cv (q := 53) (Y := zm_87) W.1 rfl rfl zm_87_t rfl rfl) rfl rfl rfl rfl rfl (c1) ?_
          refine zw_rz rfl rfl (by decide) ?_
          exact yX_0 c2 (zk_Fr_t (zk_Fr_r H) c3) (yA_done (hN)) rfl c4 (show 1 ≤ (3 : Int) ∧ (3 : Int) ≤ 5 from by decide)
    · have hv := h5 (by omega)
      have hN := yN_nu (T := T) (n := n) (p := p) (lv := lv) (by omega)
      refine zw_ld (n := 1) (k := 0) (f := zp_isR) (pc' := 62) rfl rfl rfl rfl rfl ?_
      refine zw_gR (q := 53) (pc' := 65) W rfl rfl rfl rfl (W.2 53 0 _ rfl) rfl ?_
      refine zw_gI (q := 52) (pc' := 68) W rfl rfl rfl rfl rfl rfl ?_
      refine zw_s (pc' := 71) rfl rfl ?_
      refine zw_ble2 (g := 80) (pc' := 74) rfl rfl rfl rfl (rfl : _ = (9999 : Int)) (fun h3 => ?_) (fun h3 => ?_)
      · rw [if_neg (by omega)] at hN
        obtain ⟨K, k1, k2, k3, k4⟩ := yc_put (d := c + 2) (x := H.2.1 52 5) hP h
        have WK := zB_Wd k2.1.1
        refine zw_ld (n := 1) (k := 0) (f := zp_isR) (pc' := 81) rfl rfl rfl rfl rfl ?_
        refine zw_ld (n := 1) (k := 1) (f := zp_isR) (pc' := 82) rfl rfl rfl rfl rfl ?_
        refine zw_ld (n := 1) (k := 0) (f := zp_isR) (pc' := 83) rfl rfl rfl rfl rfl ?_
        refine zw_gR (q := 53) (pc' := 86) W rfl rfl rfl rfl (W.2 53 0 _ rfl) rfl ?_
        refine zw_gI (q := 52) (pc' := 89) W rfl rfl rfl rfl rfl rfl ?_
        refine zw_cn (pc' := 92) (zw_cv (q := 53) (Y := zm_95) W.1 rfl rfl zm_95_t rfl rfl) rfl rfl rfl rfl rfl (k1) ?_
        obtain ⟨H9, g1, g2, g3, g4⟩ := yc_adx (L := L) (σ := σ) (d := c) (wa := wa) k2
        have hadv9 := ys_adv (T := T) k2.2.2 (by omega)
        refine zw_s (pc' := 145) rfl rfl ?_
        refine zw_ld (n := 1) (k := 0) (f := zp_isR) (pc' := 146) rfl rfl rfl rfl rfl ?_
        refine zw_gR (q := 53) (pc' := 149) WK rfl rfl rfl rfl (WK.2 53 0 _ rfl) rfl ?_
        refine zw_cn (pc' := 152) (zw_cv (q := 52) (Y := zm_55) WK.1 rfl rfl zm_55_t rfl rfl) rfl rfl rfl rfl rfl (g1) ?_
        refine zw_s (pc' := 153) rfl rfl ?_
        refine zw_rz rfl rfl (by decide) ?_
        exact yX_1 g2 (zk_Fr_t k3 g3) (by show p < ys_nx T n _; omega) rfl (xRC_up (Nat.le_refl _) (by omega) (xRC_m (xRC_1 (i := (0, ys_vl T n p)) hN (fun W O => xWO_nu (m := 1) (p := p) (show ys_kd T n p = 2 by omega) (show (1 : Nat) ≠ 0 by decide)) (show (0 : Nat) < 2 by decide) ⟨xs_vl_n0 h.2.2 (by omega), by show ys_vl T n p ≤ 9999; omega, fun h9 => absurd (show (0 : Nat) = 1 from h9) (by decide)⟩ (by show p < ys_nx T n p; omega) (by have := h.1.2.1; show p < 700; omega) k4 (by show _ = ys_vl T n p; omega)) (yc_sm hP.1 g4)))
      · refine zw_ld (n := 1) (k := 0) (f := zp_isR) (pc' := 75) rfl rfl rfl rfl rfl ?_
        refine zw_s (pc' := 76) rfl rfl ?_
        rw [if_pos (by omega)] at hN
        obtain ⟨K9, c1, c2, c3, c4⟩ := yc_rf (L := L) (σ := σ) (d := c + 2) (wa := wa) (x := Int32.ofInt 2) h
        refine zw_c (pc' := 79) (zw_cv (q := 53) (Y := zm_87) W.1 rfl rfl zm_87_t rfl rfl) rfl rfl rfl rfl rfl (c1) ?_
        refine zw_rz rfl rfl (by decide) ?_
        exact yX_0 c2 (zk_Fr_t (zk_Fr_r H) c3) (yA_done (hN)) rfl c4 (show 1 ≤ (2 : Int) ∧ (2 : Int) ≤ 5 from by decide)
end
