section
/-! ===== the words: both sides know the same ones ===== -/
/-- a word's letters as numbers, the last first -/
def yw_rl (T : Nat → Int) (s : Nat) : Nat → List Nat
  | 0 => []
  | k + 1 => (T (s + k) - 96).toNat :: yw_rl T s k
def yw_pr : List Nat → Nat
  | [] => 0
  | d :: r => 32 * yw_pr r + d
theorem yw_inj : ∀ {a b : List Nat}, (∀ d ∈ a, 1 ≤ d ∧ d < 32) → (∀ d ∈ b, 1 ≤ d ∧ d < 32) → yw_pr a = yw_pr b → a = b
  | [], [], _, _, _ => rfl
  | [], d :: r, _, hb, h => by
    have h1 := hb d List.mem_cons_self
    have h : 0 = 32 * yw_pr r + d := h
    omega
  | d :: r, [], ha, _, h => by
    have h1 := ha d List.mem_cons_self
    have h : 32 * yw_pr r + d = 0 := h
    omega
  | d :: r, d' :: r', ha, hb, h => by
    have h1 := ha d List.mem_cons_self
    have h2 := hb d' List.mem_cons_self
    have h : 32 * yw_pr r + d = 32 * yw_pr r' + d' := h
    have e1 : d = d' := by omega
    have e2 : yw_pr r = yw_pr r' := by omega
    rw [e1, yw_inj (fun x hx => ha x (List.mem_cons_of_mem _ hx)) (fun x hx => hb x (List.mem_cons_of_mem _ hx)) e2]
theorem yw_rl_d {T : Nat → Int} {s : Nat} : ∀ {m : Nat}, (∀ t, t < m → 97 ≤ T (s + t) ∧ T (s + t) ≤ 122) → ∀ d ∈ yw_rl T s m, 1 ≤ d ∧ d < 32
  | 0, _, d, hd => absurd hd List.not_mem_nil
  | m + 1, h, d, hd => by
    rcases List.mem_cons.mp hd with rfl | hd
    · have := h m (Nat.lt_succ_self _)
      omega
    · exact yw_rl_d (fun t ht => h t (Nat.lt_succ_of_lt ht)) d hd
theorem yw_pr_b : ∀ {m : Nat} {T : Nat → Int} {s : Nat}, (∀ t, t < m → 97 ≤ T (s + t) ∧ T (s + t) ≤ 122) → yw_pr (yw_rl T s m) < 32 ^ m
  | 0, _, _, _ => by
    show 0 < 32 ^ 0
    decide
  | m + 1, T, s, h => by
    have h1 := yw_pr_b (m := m) (T := T) (s := s) (fun t ht => h t (Nat.lt_succ_of_lt ht))
    have h2 := h m (Nat.lt_succ_self _)
    show 32 * yw_pr (yw_rl T s m) + (T (s + m) - 96).toNat < 32 ^ (m + 1)
    rw [Nat.pow_succ]
    omega
theorem yw_or {a d : Nat} (ha : a < 2 ^ 40) (hd : d < 32) : za_shl0 (Int64.ofNat a) (Int32.ofInt 5) ||| Int64.ofNat d = Int64.ofNat (32 * a + d) := by
  have e5 : (Int32.ofInt 5).toInt64 &&& 63 = 5 := by decide
  unfold za_shl0
  rw [e5]
  apply Int64.toBitVec_inj.mp
  apply BitVec.eq_of_toNat_eq
  have h1 : (Int64.ofNat a <<< (5 : Int64)).toBitVec = BitVec.ofNat 64 a <<< 5 := rfl
  rw [Int64.toBitVec_or, h1]
  show (BitVec.ofNat 64 a <<< 5 ||| BitVec.ofNat 64 d).toNat = (BitVec.ofNat 64 (32 * a + d)).toNat
  rw [BitVec.toNat_or, BitVec.toNat_shiftLeft, BitVec.toNat_ofNat, BitVec.toNat_ofNat, BitVec.toNat_ofNat, Nat.mod_eq_of_lt (show a < 2 ^ 64 by omega), Nat.mod_eq_of_lt (show d < 2 ^ 64 by omega), Nat.mod_eq_of_lt (show 32 * a + d < 2 ^ 64 by omega)]
  have h2 : a <<< 5 = 32 * a := by
    rw [Nat.shiftLeft_eq]
    omega
  rw [h2, Nat.mod_eq_of_lt (show 32 * a < 2 ^ 64 by omega), ← h2]
  rw [← Nat.shiftLeft_add_eq_or_of_lt (show d < 2 ^ 5 by omega)]
theorem yw_d64 {t : Int} (h : 97 ≤ t ∧ t ≤ 122) : (Int32.ofInt t - Int32.ofInt 96).toInt64 = Int64.ofNat (t - 96).toNat := by
  obtain ⟨j, hj, rfl⟩ : ∃ j : Nat, j < 26 ∧ t = ((j + 97 : Nat) : Int) := ⟨(t - 97).toNat, by omega, by omega⟩
  revert j
  decide +kernel
theorem yw_pk {T : Nat → Int} {s : Nat} : ∀ {m : Nat}, m ≤ 7 → (∀ t, t < m → 97 ≤ T (s + t) ∧ T (s + t) ≤ 122) → ys_pk T s m = Int64.ofNat (yw_pr (yw_rl T s m))
  | 0, _, _ => rfl
  | m + 1, hm, h => by
    have ih := yw_pk (T := T) (s := s) (m := m) (by omega) (fun t ht => h t (Nat.lt_succ_of_lt ht))
    have hb := yw_pr_b (m := m) (T := T) (s := s) (fun t ht => h t (Nat.lt_succ_of_lt ht))
    have h2 := h m (Nat.lt_succ_self _)
    have h40 : yw_pr (yw_rl T s m) < 2 ^ 40 := by
      have : 32 ^ m ≤ 32 ^ 7 := Nat.pow_le_pow_right (by decide) (by omega)
      have e : (32 : Nat) ^ 7 = 34359738368 := by decide
      omega
    show za_shl0 (ys_pk T s m) (Int32.ofInt 5) ||| (Int32.ofInt (T (s + m)) - Int32.ofInt 96).toInt64 = Int64.ofNat (32 * yw_pr (yw_rl T s m) + (T (s + m) - 96).toNat)
    rw [ih, yw_d64 h2, yw_or h40 (by omega)]
theorem yw_cd {T : Nat → Int} {s m : Nat} {w : List Nat} (hm : m ≤ 7) (h : ∀ t, t < m → 97 ≤ T (s + t) ∧ T (s + t) ≤ 122) (hw : w.all (fun d => (Nat.ble 1 d).and (Nat.blt d 32)) = true) (hl : yw_pr w < 2 ^ 40) : Int64.ofNat (yw_pr w) = ys_pk T s m ↔ yw_rl T s m = w := by
  rw [yw_pk hm h]
  have hb := yw_pr_b (m := m) (T := T) (s := s) h
  have h40 : yw_pr (yw_rl T s m) < 2 ^ 40 := by
    have : 32 ^ m ≤ 32 ^ 7 := Nat.pow_le_pow_right (by decide) (by omega)
    have e : (32 : Nat) ^ 7 = 34359738368 := by decide
    omega
  have hw : ∀ d ∈ w, 1 ≤ d ∧ d < 32 := fun d hd => by
    obtain ⟨a, b⟩ := Bool.and_eq_true_iff.mp (List.all_eq_true.mp hw d hd)
    exact ⟨za_ble a, za_blt b⟩
  constructor
  · intro h9
    have h8 := congrArg (fun z : Int64 => z.toBitVec.toNat) h9
    have h8 : yw_pr w % 2 ^ 64 = yw_pr (yw_rl T s m) % 2 ^ 64 := h8
    rw [Nat.mod_eq_of_lt (by omega), Nat.mod_eq_of_lt (by omega)] at h8
    exact yw_inj (yw_rl_d h) hw h8.symm
  · intro h9
    rw [h9]

def yw_f (R : List Nat) : Nat → List (List Nat) → Int
  | _, [] => -1
  | k, x :: l => if R = x then (k : Int) else yw_f R (k + 1) l
theorem yw_fz {w : Int64} {R : List Nat} : ∀ {cs : List Int64} {ws : List (List Nat)} {k : Nat}, za_F2 (fun c x => (c = w ↔ R = x)) cs ws → zg_f w k cs = yw_f R k ws
  | [], [], _, _ => rfl
  | c :: cs, x :: ws, k, h => by
    unfold zg_f yw_f
    by_cases h1 : c = w
    · rw [if_pos h1, if_pos (h.1.mp h1)]
    · rw [if_neg h1, if_neg (fun h9 => h1 (h.1.mpr h9))]
      exact yw_fz h.2
  | [], _ :: _, _, h => h.elim
  | _ :: _, [], _, h => h.elim
def yw_ws : List (List Nat) := [[8, 20, 18, 15, 14], [20, 19, 1, 5], [8, 20, 21, 15, 19], [20, 19, 5, 23], [24], [25], [18, 21, 15, 8], [5, 4, 9, 20], [1, 5, 19], [11, 3, 15, 18], [20, 14, 5, 18, 18, 21, 3], [5, 20, 1, 12, 19], [4, 14, 1, 8], [12, 15, 15, 8, 3, 19], [12, 1, 15, 7], [20, 15, 12, 9, 16], [5, 12, 21, 18], [15, 7], [4, 14, 1], [18, 15], [20, 15, 14]]
def yw_ref (R : List Nat) : Int := yw_f R 0 yw_ws
def yw_cls (R : List Nat) : Int := if R = [8, 20, 18, 15, 14] then 0 else if R = [20, 19, 1, 5] then 1 else if R = [8, 20, 21, 15, 19] then 2 else if R = [20, 19, 5, 23] then 3 else if R = [24] then 4 else if R = [25] then 5 else if R = [18, 21, 15, 8] then 6 else if R = [5, 4, 9, 20] then 7 else if R = [18, 15] then 8 else if R = [4, 14, 1] then 9 else if R = [20, 15, 14] then 10 else if R = [15, 7] then 11 else if R = [1, 5, 19] then 12 else if R = [11, 3, 15, 18] then 13 else if R = [20, 14, 5, 18, 18, 21, 3] then 14 else if R = [5, 20, 1, 12, 19] then 15 else if R = [4, 14, 1, 8] then 16 else if R = [12, 15, 15, 8, 3, 19] then 17 else if R = [12, 1, 15, 7] then 18 else if R = [20, 15, 12, 9, 16] then 19 else if R = [5, 12, 21, 18] then 20 else  21
theorem yw_zg {T : Nat → Int} {s m : Nat} (hm : m ≤ 7) (h : ∀ t, t < m → 97 ≤ T (s + t) ∧ T (s + t) ≤ 122) : zg_f (ys_pk T s m) 0 zg_l = yw_ref (yw_rl T s m) := by
  have key : ∀ (w : List Nat) (c : Int64), c = Int64.ofNat (yw_pr w) → w.all (fun d => (Nat.ble 1 d).and (Nat.blt d 32)) = true → yw_pr w < 2 ^ 40 → ((c = ys_pk T s m) ↔ (yw_rl T s m = w)) := fun w c hc h1 h2 => by
    rw [hc]
    exact yw_cd hm h h1 h2
  refine yw_fz (R := yw_rl T s m) (ws := yw_ws) ?_
  exact ⟨key _ _ (by decide +kernel) (by decide) (by decide +kernel), key _ _ (by decide +kernel) (by decide) (by decide +kernel), key _ _ (by decide +kernel) (by decide) (by decide +kernel), key _ _ (by decide +kernel) (by decide) (by decide +kernel), key _ _ (by decide +kernel) (by decide) (by decide +kernel), key _ _ (by decide +kernel) (by decide) (by decide +kernel), key _ _ (by decide +kernel) (by decide) (by decide +kernel), key _ _ (by decide +kernel) (by decide) (by decide +kernel), key _ _ (by decide +kernel) (by decide) (by decide +kernel), key _ _ (by decide +kernel) (by decide) (by decide +kernel), key _ _ (by decide +kernel) (by decide) (by decide +kernel), key _ _ (by decide +kernel) (by decide) (by decide +kernel), key _ _ (by decide +kernel) (by decide) (by decide +kernel), key _ _ (by decide +kernel) (by decide) (by decide +kernel), key _ _ (by decide +kernel) (by decide) (by decide +kernel), key _ _ (by decide +kernel) (by decide) (by decide +kernel), key _ _ (by decide +kernel) (by decide) (by decide +kernel), key _ _ (by decide +kernel) (by decide) (by decide +kernel), key _ _ (by decide +kernel) (by decide) (by decide +kernel), key _ _ (by decide +kernel) (by decide) (by decide +kernel), key _ _ (by decide +kernel) (by decide) (by decide +kernel), trivial⟩
def yw_m (v : Int) : Int := if v = 8 then 19 else if v = 9 then 18 else if v = 10 then 20 else if v = 11 then 17 else if v = 12 then 8 else if v = 13 then 9 else if v = 14 then 10 else if v = 15 then 11 else if v = 16 then 12 else if v = 17 then 13 else if v = 18 then 14 else if v = 19 then 15 else if v = 20 then 16 else if v = 21 then -1 else v
theorem yw_rc (R : List Nat) : yw_ref R = yw_m (yw_cls R) := by
  by_cases h0 : R = [8, 20, 18, 15, 14]
  · rw [h0]
    decide
  by_cases h1 : R = [20, 19, 1, 5]
  · rw [h1]
    decide
  by_cases h2 : R = [8, 20, 21, 15, 19]
  · rw [h2]
    decide
  by_cases h3 : R = [20, 19, 5, 23]
  · rw [h3]
    decide
  by_cases h4 : R = [24]
  · rw [h4]
    decide
  by_cases h5 : R = [25]
  · rw [h5]
    decide
  by_cases h6 : R = [18, 21, 15, 8]
  · rw [h6]
    decide
  by_cases h7 : R = [5, 4, 9, 20]
  · rw [h7]
    decide
  by_cases h8 : R = [18, 15]
  · rw [h8]
    decide
  by_cases h9 : R = [4, 14, 1]
  · rw [h9]
    decide
  by_cases h10 : R = [20, 15, 14]
  · rw [h10]
    decide
  by_cases h11 : R = [15, 7]
  · rw [h11]
    decide
  by_cases h12 : R = [1, 5, 19]
  · rw [h12]
    decide
  by_cases h13 : R = [11, 3, 15, 18]
  · rw [h13]
    decide
  by_cases h14 : R = [20, 14, 5, 18, 18, 21, 3]
  · rw [h14]
    decide
  by_cases h15 : R = [5, 20, 1, 12, 19]
  · rw [h15]
    decide
  by_cases h16 : R = [4, 14, 1, 8]
  · rw [h16]
    decide
  by_cases h17 : R = [12, 15, 15, 8, 3, 19]
  · rw [h17]
    decide
  by_cases h18 : R = [12, 1, 15, 7]
  · rw [h18]
    decide
  by_cases h19 : R = [20, 15, 12, 9, 16]
  · rw [h19]
    decide
  by_cases h20 : R = [5, 12, 21, 18]
  · rw [h20]
    decide
  have e : yw_ref R = -1 := by
    unfold yw_ref yw_ws
    simp only [yw_f]
    rw [if_neg h0, if_neg h1, if_neg h2, if_neg h3, if_neg h4, if_neg h5, if_neg h6, if_neg h7, if_neg h12, if_neg h13, if_neg h14, if_neg h15, if_neg h16, if_neg h17, if_neg h18, if_neg h19, if_neg h20, if_neg h11, if_neg h9, if_neg h8, if_neg h10]
  rw [e]
  unfold yw_cls
  rw [if_neg h0, if_neg h1, if_neg h2, if_neg h3, if_neg h4, if_neg h5, if_neg h6, if_neg h7, if_neg h8, if_neg h9, if_neg h10, if_neg h11, if_neg h12, if_neg h13, if_neg h14, if_neg h15, if_neg h16, if_neg h17, if_neg h18, if_neg h19, if_neg h20]
  decide
end
section
/-! ===== an expression, said once for both sides: a machine over tokens ===== -/
abbrev yM : Type := Nat × List Bool × Nat
abbrev yB (T : Nat → Int) (n p : Nat) : Prop := ys_kd T n p = 2 ∨ ys_kd T n p = 3 ∨ (ys_kd T n p = 4 ∧ ys_vl T n p = 40)
/-- a step: mode 0 behind an operand, 1 before one, 2 + k before one, k NOTs read -/
def yN (T : Nat → Int) (n : Nat) (s : yM) : yM ⊕ (Int × Nat) :=
  if s.1 = 0 then
    if ys_kd T n s.2.2 = 3 ∧ (ys_vl T n s.2.2 = 9 ∨ ys_vl T n s.2.2 = 8) then .inl (2, false :: s.2.1.tail, ys_nx T n s.2.2)
    else if ys_kd T n s.2.2 = 4 ∧ (ys_vl T n s.2.2 = 60 ∨ ys_vl T n s.2.2 = 61) ∧ s.2.1.head? = some false then .inl (1, true :: s.2.1.tail, ys_nx T n s.2.2)
    else if ys_kd T n s.2.2 = 4 ∧ (ys_vl T n s.2.2 = 43 ∨ ys_vl T n s.2.2 = 45) then .inl (1, s.2.1, ys_nx T n s.2.2)
    else if ys_kd T n s.2.2 = 4 ∧ (ys_vl T n s.2.2 = 42 ∨ ys_vl T n s.2.2 = 47) then .inl (1, s.2.1, ys_nx T n s.2.2)
    else if ys_kd T n s.2.2 = 4 ∧ ys_vl T n s.2.2 = 41 ∧ 1 < s.2.1.length then .inl (0, s.2.1.tail, ys_nx T n s.2.2)
    else if 1 < s.2.1.length then .inr (1, s.2.2) else .inr (0, s.2.2)
  else if ys_kd T n s.2.2 = 3 ∧ ys_vl T n s.2.2 = 10 ∧ 2 ≤ s.1 then
    (if s.1 = 8 then .inr (2, s.2.2) else .inl (s.1 + 1, s.2.1, ys_nx T n s.2.2))
  else if ys_kd T n s.2.2 = 4 ∧ ys_vl T n s.2.2 = 40 then
    (if s.2.1.length < 6 then .inl (2, false :: s.2.1, ys_nx T n s.2.2) else .inr (if yB T n (ys_nx T n s.2.2) then 2 else 1, ys_nx T n s.2.2))
  else if ys_kd T n s.2.2 = 2 then (if 9999 < ys_vl T n s.2.2 then .inr (2, s.2.2) else .inl (0, s.2.1, ys_nx T n s.2.2))
  else if ys_kd T n s.2.2 = 3 then (if ys_vl T n s.2.2 < 8 then .inl (0, s.2.1, ys_nx T n s.2.2) else .inr (3, s.2.2))
  else .inr (1, s.2.2)
def yAf (T : Nat → Int) (n : Nat) : Nat → yM → Option (Int × Nat)
  | 0, _ => none
  | f + 1, s => match yN T n s with
    | .inr r => some r
    | .inl s' => yAf T n f s'
def yA (T : Nat → Int) (n : Nat) (s : yM) (r : Int × Nat) : Prop := ∃ f, yAf T n f s = some r
theorem yAf_d {T : Nat → Int} {n f : Nat} {s : yM} {r : Int × Nat} (h : yN T n s = .inr r) : yAf T n (f + 1) s = some r := by
  unfold yAf
  rw [h]
theorem yAf_s {T : Nat → Int} {n f : Nat} {s s' : yM} (h : yN T n s = .inl s') : yAf T n (f + 1) s = yAf T n f s' := by
  show (match yN T n s with
    | .inr r => some r
    | .inl s' => yAf T n f s') = _
  rw [h]
theorem yA_done {T : Nat → Int} {n : Nat} {s : yM} {r : Int × Nat} (h : yN T n s = .inr r) : yA T n s r := ⟨1, yAf_d h⟩
theorem yA_step {T : Nat → Int} {n : Nat} {s s' : yM} {r : Int × Nat} (h : yN T n s = .inl s') (h1 : yA T n s' r) : yA T n s r := by
  obtain ⟨f, hf⟩ := h1
  exact ⟨f + 1, (yAf_s h).trans hf⟩
/-- what is read from s' on is read from s on -/
def yR (T : Nat → Int) (n : Nat) (s s' : yM) : Prop := ∀ r, yA T n s' r → yA T n s r
theorem yR_r {T : Nat → Int} {n : Nat} {s : yM} : yR T n s s := fun _ h => h
theorem yR_t {T : Nat → Int} {n : Nat} {s s' s'' : yM} (h1 : yR T n s s') (h2 : yR T n s' s'') : yR T n s s'' := fun r h => h1 r (h2 r h)
theorem yR_s {T : Nat → Int} {n : Nat} {s s' : yM} (h : yN T n s = .inl s') : yR T n s s' := fun _ h1 => yA_step h h1
theorem yR_e {T : Nat → Int} {n : Nat} {s s' : yM} (h : yN T n s = yN T n s') : yR T n s s' := fun _ h1 => by
  obtain ⟨f, hf⟩ := h1
  match f, hf with
  | f + 1, hf =>
    refine ⟨f + 1, ?_⟩
    unfold yAf
    unfold yAf at hf
    rw [h]
    exact hf
section
variable {T : Nat → Int} {n p : Nat} {lv : List Bool} {b : Bool}
theorem yN_ao (hk : ys_kd T n p = 3) (hv : ys_vl T n p = 9 ∨ ys_vl T n p = 8) : yN T n (0, lv, p) = .inl (2, false :: lv.tail, ys_nx T n p) := by
  unfold yN
  rw [if_pos rfl, if_pos ⟨hk, hv⟩]
theorem yN_lt (hk : ys_kd T n p = 4) (hv : ys_vl T n p = 60 ∨ ys_vl T n p = 61) : yN T n (0, false :: lv, p) = .inl (1, true :: lv, ys_nx T n p) := by
  unfold yN
  rw [if_pos rfl, if_neg (by show ¬ (ys_kd T n p = 3 ∧ _); omega), if_pos ⟨hk, hv, rfl⟩]
  rfl
theorem yN_pm (hk : ys_kd T n p = 4) (hv : ys_vl T n p = 43 ∨ ys_vl T n p = 45) : yN T n (0, lv, p) = .inl (1, lv, ys_nx T n p) := by
  unfold yN
  rw [if_pos rfl, if_neg (by show ¬ (ys_kd T n p = 3 ∧ _); omega), if_neg (by show ¬ (_ ∧ (ys_vl T n p = 60 ∨ ys_vl T n p = 61) ∧ _); omega), if_pos ⟨hk, hv⟩]
theorem yN_md (hk : ys_kd T n p = 4) (hv : ys_vl T n p = 42 ∨ ys_vl T n p = 47) : yN T n (0, lv, p) = .inl (1, lv, ys_nx T n p) := by
  unfold yN
  rw [if_pos rfl, if_neg (by show ¬ (ys_kd T n p = 3 ∧ _); omega), if_neg (by show ¬ (_ ∧ (ys_vl T n p = 60 ∨ ys_vl T n p = 61) ∧ _); omega), if_neg (by show ¬ (_ ∧ (ys_vl T n p = 43 ∨ ys_vl T n p = 45)); omega), if_pos ⟨hk, hv⟩]
theorem yN_cl (hk : ys_kd T n p = 4) (hv : ys_vl T n p = 41) (hl : 1 < lv.length) : yN T n (0, lv, p) = .inl (0, lv.tail, ys_nx T n p) := by
  unfold yN
  rw [if_pos rfl, if_neg (by show ¬ (ys_kd T n p = 3 ∧ _); omega), if_neg (by show ¬ (_ ∧ (ys_vl T n p = 60 ∨ ys_vl T n p = 61) ∧ _); omega), if_neg (by show ¬ (_ ∧ (ys_vl T n p = 43 ∨ ys_vl T n p = 45)); omega), if_neg (by show ¬ (_ ∧ (ys_vl T n p = 42 ∨ ys_vl T n p = 47)); omega), if_pos ⟨hk, hv, hl⟩]
/-- the token ends an expression: no AND, OR, no sign of a reckoning; none that tests, or it has tested -/
def yQ (T : Nat → Int) (n p : Nat) : Prop := ¬ (ys_kd T n p = 3 ∧ (ys_vl T n p = 9 ∨ ys_vl T n p = 8)) ∧ ¬ (ys_kd T n p = 4 ∧ (ys_vl T n p = 43 ∨ ys_vl T n p = 45)) ∧ ¬ (ys_kd T n p = 4 ∧ (ys_vl T n p = 42 ∨ ys_vl T n p = 47))
theorem yN_en (h : yQ T n p) (ht : ¬ (ys_kd T n p = 4 ∧ (ys_vl T n p = 60 ∨ ys_vl T n p = 61) ∧ lv.head? = some false)) (hl : ¬ (ys_kd T n p = 4 ∧ ys_vl T n p = 41 ∧ 1 < lv.length)) : yN T n (0, lv, p) = if 1 < lv.length then .inr (1, p) else .inr (0, p) := by
  unfold yN
  rw [if_pos rfl, if_neg h.1, if_neg ht, if_neg h.2.1, if_neg h.2.2, if_neg hl]
theorem yN_no {k : Nat} (hk : ys_kd T n p = 3) (hv : ys_vl T n p = 10) (h8 : k < 6) : yN T n (2 + k, lv, p) = .inl (2 + (k + 1), lv, ys_nx T n p) := by
  unfold yN
  rw [if_neg (by show ¬ 2 + k = 0; omega), if_pos ⟨hk, hv, by show 2 ≤ 2 + k; omega⟩, if_neg (by show ¬ 2 + k = 8; omega)]
  rfl
theorem yN_no6 (hk : ys_kd T n p = 3) (hv : ys_vl T n p = 10) : yN T n (8, lv, p) = .inr (2, p) := by
  unfold yN
  rw [if_neg (by show ¬ (8 : Nat) = 0; omega), if_pos ⟨hk, hv, by show 2 ≤ (8 : Nat); omega⟩, if_pos rfl]
theorem yN_x {m : Nat} (hm : m ≠ 0) (h : ¬ (ys_kd T n p = 3 ∧ ys_vl T n p = 10)) : yN T n (m, lv, p) = if ys_kd T n p = 4 ∧ ys_vl T n p = 40 then
    (if lv.length < 6 then .inl (2, false :: lv, ys_nx T n p) else .inr (if yB T n (ys_nx T n p) then 2 else 1, ys_nx T n p))
  else if ys_kd T n p = 2 then (if 9999 < ys_vl T n p then .inr (2, p) else .inl (0, lv, ys_nx T n p))
  else if ys_kd T n p = 3 then (if ys_vl T n p < 8 then .inl (0, lv, ys_nx T n p) else .inr (3, p))
  else .inr (1, p) := by
  unfold yN
  rw [if_neg (show ¬ (m, lv, p).1 = 0 from hm), if_neg (fun h9 => h ⟨h9.1, h9.2.1⟩)]
theorem yN_nn {k : Nat} (h : ¬ (ys_kd T n p = 3 ∧ ys_vl T n p = 10)) : yN T n (2 + k, lv, p) = yN T n (1, lv, p) := (yN_x (by omega) h).trans (yN_x (by omega) h).symm
theorem yN_op (hk : ys_kd T n p = 4) (hv : ys_vl T n p = 40) : yN T n (1, lv, p) = if lv.length < 6 then .inl (2, false :: lv, ys_nx T n p) else .inr (if yB T n (ys_nx T n p) then 2 else 1, ys_nx T n p) := by
  unfold yN
  rw [if_neg (by show ¬ (1 : Nat) = 0; omega), if_neg (by show ¬ (ys_kd T n p = 3 ∧ _); omega), if_pos ⟨hk, hv⟩]
theorem yN_nu (hk : ys_kd T n p = 2) : yN T n (1, lv, p) = if 9999 < ys_vl T n p then .inr (2, p) else .inl (0, lv, ys_nx T n p) := by
  unfold yN
  rw [if_neg (by show ¬ (1 : Nat) = 0; omega), if_neg (by show ¬ (ys_kd T n p = 3 ∧ _); omega), if_neg (by show ¬ (ys_kd T n p = 4 ∧ _); omega), if_pos hk]
theorem yN_wo (hk : ys_kd T n p = 3) : yN T n (1, lv, p) = if ys_vl T n p < 8 then .inl (0, lv, ys_nx T n p) else .inr (3, p) := by
  unfold yN
  rw [if_neg (by show ¬ (1 : Nat) = 0; omega), if_neg (by show ¬ (_ ∧ _ ∧ 2 ≤ 1); omega), if_neg (by show ¬ (ys_kd T n p = 4 ∧ _); omega), if_neg (by show ¬ ys_kd T n p = 2; omega), if_pos hk]
theorem yN_un (h1 : ¬ (ys_kd T n p = 4 ∧ ys_vl T n p = 40)) (h2 : ys_kd T n p ≠ 2) (h3 : ys_kd T n p ≠ 3) : yN T n (1, lv, p) = .inr (1, p) := by
  unfold yN
  rw [if_neg (by show ¬ (1 : Nat) = 0; omega), if_neg (by show ¬ (ys_kd T n p = 3 ∧ _); omega), if_neg h1, if_neg h2, if_neg h3]
end
end
section
/-! ===== the class: small questions, exactly ===== -/
def zm_74 : za_MI := (yX9_isWay, prog_11_method_10_code, 1, (some FieldType.boolean), 9, 0, 0, [], za_i74)
theorem zm_74_t : za_MT 74 = some zm_74 := rfl
def zm_86 : za_MI := (yX9_isSign, prog_11_method_11_code, 2, (some FieldType.boolean), 9, 0, 0, [], za_i86)
theorem zm_86_t : za_MT 86 = some zm_86 := rfl
def zm_87 : za_MI := (yX2_refuse, prog_4_method_3_code, 2, (some FieldType.boolean), 2, 0, 0, [], za_i87)
theorem zm_87_t : za_MT 87 = some zm_87 := rfl
def zm_90 : za_MI := (yX9_isWord, prog_11_method_9_code, 2, (some FieldType.boolean), 9, 0, 0, [], za_i90)
theorem zm_90_t : za_MT 90 = some zm_90 := rfl
def yE (T : Nat → Int) (n p : Nat) (H : zp_H) : Prop := yc_Z T n H ∧ yc_k T n p H ∧ p ≤ n
def yx_m : List (Nat × Nat) := [(52, 2), (52, 3), (52, 4), (52, 5), (53, 1), (53, 2)]
theorem ys_wl_b {T : Nat → Int} {s e : Nat} : ∀ (f i : Nat), f + i < 102 → 0 ≤ ys_wl T s e f i ∧ ys_wl T s e f i ≤ 21
  | 0, i, h => zq_sp_b (by omega)
  | f + 1, i, h => by
    unfold ys_wl
    split
    · exact zq_sp_b (by omega)
    · exact ys_wl_b f (i + 1) (by omega)
theorem ys_vl_w {T : Nat → Int} {n p : Nat} (h : ys_kd T n p = 3) : ys_st T n p < n ∧ ys_L (T (ys_st T n p)) = true ∧ ys_vl T n p = ys_wi T (ys_st T n p) (ys_nx T n p) := by
  unfold ys_kd ys_ks at h
  by_cases h1 : n ≤ ys_st T n p
  · rw [if_pos h1] at h
    omega
  · rw [if_neg h1] at h
    cases hL : ys_L (T (ys_st T n p)) with
    | true =>
      refine ⟨by omega, rfl, ?_⟩
      unfold ys_vl ys_vs
      rw [hL]
      rfl
    | false =>
      rw [hL] at h
      cases hD : ys_D (T (ys_st T n p)) with
      | true => rw [hD] at h; exact absurd (show (2 : Int) = 3 from h) (by decide)
      | false =>
        rw [hD] at h
        cases hG : ys_G (T (ys_st T n p)) with
        | true => rw [hG] at h; exact absurd h (by decide)
        | false => rw [hG] at h; exact absurd h (by decide)
theorem ys_vl_b {T : Nat → Int} {n p : Nat} (h : ys_kd T n p = 3) : 0 ≤ ys_vl T n p ∧ ys_vl T n p ≤ 21 := by
  rw [(ys_vl_w h).2.2]
  exact ys_wl_b 101 0 (by decide)
theorem yE_B {T : Nat → Int} {n p : Nat} {H : zp_H} (h : yE T n p H) : zk_Bs zB zg zJc H := by
  refine zB_up h.1.1 (fun h9 => ?_)
  have h3 : ys_kd T n p = 3 := h.2.1.2.2.1.symm.trans h9
  rw [h.2.1.2.2.2 (by omega)]
  exact ys_vl_b h3
theorem yE_c {T : Nat → Int} {n p : Nat} {H H1 : zp_H} (h : yE T n p H) (hB : zk_Bs zB0 zg zJc H1) (e1 : H1.2.1 52 = H.2.1 52) (e2 : H1.2.1 1 = H.2.1 1) : yE T n p H1 := by
  refine ⟨⟨hB, h.1.2.1, ?_, ?_⟩, ?_, h.2.2⟩
  · rw [e1]; exact h.1.2.2.1
  · rw [e2]; exact h.1.2.2.2
  · unfold yc_k
    rw [e1]
    exact h.2.1
theorem yE_4 {T : Nat → Int} {n p : Nat} {H : zp_H} (h : yE T n p H) : (H.2.1 52 4).toInt = ys_kd T n p := h.2.1.2.2.1
theorem yE_5 {T : Nat → Int} {n p : Nat} {H : zp_H} (h : yE T n p H) (hk : ys_kd T n p ≠ 0) : (H.2.1 52 5).toInt = ys_vl T n p := h.2.1.2.2.2 hk
/-- put and putDone do the tokens nothing -/
def yc_P (L : Nat) (σ : Nat → Int32) (wr : Nat) (wa : Nat) : Prop := (wa = 12 ∨ wa = 32) ∧ (∀ (d : Nat) (H : zp_H) (x : Int32), zk_Bs zB zg zJc H → ∃ H1, zp_Call L σ (d + 2) 96 [.inr (.inr (some 54)), .inr (.inr (some wr)), .inl x] H (.inl none, H1) ∧ zk_Bs zB zg zJc H1 ∧ zk_Fr zg [(53, 1)] [wa] H H1) ∧ (∀ (d : Nat) (H : zp_H) (x : Int32), zk_Bs zB zg zJc H → ∃ H1, zp_Call L σ (d + 1) 95 [.inr (.inr (some 54)), .inr (.inr (some wr)), .inl x] H (.inl none, H1) ∧ zk_Bs zB zg zJc H1 ∧ zk_Fr zg [(53, 1)] [wa] H H1)
def yc_e95_12 : zk_T := (95, [.inr (some (some 54)), .inr (some (some 3)), .inl ((-2147483648), 2147483647)], [], [(53, 1)], [12], [(.inl none, [], [])], 1)
theorem yc_t95_12 : zk_chk zB zB_fz [] [] 5000 yc_e95_12 = true := by decide +kernel
theorem yc_c95_12 {L : Nat} {σ : Nat → Int32} (d : Nat) (H : zp_H) (x : Int32) (hB : zk_Bs zB zg zJc H) : ∃ H1, zp_Call L σ (d + 1) 95 [.inr (.inr (some 54)), .inr (.inr (some 3)), .inl x] H (.inl none, H1) ∧ zk_Bs zB zg zJc H1 ∧ zk_Fr zg [(53, 1)] [12] H H1 := by
  have hct : zk_Ct L σ zB zg zJc yc_e95_12 := zk_chk_ok zB_W (fun _ h => absurd h List.not_mem_nil) yc_t95_12
  obtain ⟨⟨x1, H1⟩, c1, c2, c3, o, o1, o2, _⟩ := hct (d + 1) (Nat.le_add_left 1 d) [.inr (.inr (some 54)), .inr (.inr (some 3)), .inl x] H ⟨rfl, rfl, ⟨Int32.le_toInt _, Int32.toInt_le _⟩, trivial⟩ hB (fun f hf => absurd hf List.not_mem_nil)
  rcases List.mem_cons.mp o1 with rfl | o1
  · obtain rfl : x1 = .inl none := zk_rv_n o2
    exact ⟨H1, c1, c2, c3⟩
  · exact absurd o1 List.not_mem_nil
def yc_e96_12 : zk_T := (96, [.inr (some (some 54)), .inr (some (some 3)), .inl ((-2147483648), 2147483647)], [], [(53, 1)], [12], [(.inl none, [], [])], 2)
theorem yc_t96_12 : zk_chk zB zB_fz [] [] 5000 yc_e96_12 = true := by decide +kernel
theorem yc_c96_12 {L : Nat} {σ : Nat → Int32} (d : Nat) (H : zp_H) (x : Int32) (hB : zk_Bs zB zg zJc H) : ∃ H1, zp_Call L σ (d + 2) 96 [.inr (.inr (some 54)), .inr (.inr (some 3)), .inl x] H (.inl none, H1) ∧ zk_Bs zB zg zJc H1 ∧ zk_Fr zg [(53, 1)] [12] H H1 := by
  have hct : zk_Ct L σ zB zg zJc yc_e96_12 := zk_chk_ok zB_W (fun _ h => absurd h List.not_mem_nil) yc_t96_12
  obtain ⟨⟨x1, H1⟩, c1, c2, c3, o, o1, o2, _⟩ := hct (d + 2) (Nat.le_add_left 2 d) [.inr (.inr (some 54)), .inr (.inr (some 3)), .inl x] H ⟨rfl, rfl, ⟨Int32.le_toInt _, Int32.toInt_le _⟩, trivial⟩ hB (fun f hf => absurd hf List.not_mem_nil)
  rcases List.mem_cons.mp o1 with rfl | o1
  · obtain rfl : x1 = .inl none := zk_rv_n o2
    exact ⟨H1, c1, c2, c3⟩
  · exact absurd o1 List.not_mem_nil
theorem yc_P12 {L : Nat} {σ : Nat → Int32} : yc_P L σ 3 12 := ⟨Or.inl rfl, fun d H x h => yc_c96_12 d H x h, fun d H x h => yc_c95_12 d H x h⟩
def yc_e95_32 : zk_T := (95, [.inr (some (some 54)), .inr (some (some 23)), .inl ((-2147483648), 2147483647)], [], [(53, 1)], [32], [(.inl none, [], [])], 1)
theorem yc_t95_32 : zk_chk zB zB_fz [] [] 5000 yc_e95_32 = true := by decide +kernel
theorem yc_c95_32 {L : Nat} {σ : Nat → Int32} (d : Nat) (H : zp_H) (x : Int32) (hB : zk_Bs zB zg zJc H) : ∃ H1, zp_Call L σ (d + 1) 95 [.inr (.inr (some 54)), .inr (.inr (some 23)), .inl x] H (.inl none, H1) ∧ zk_Bs zB zg zJc H1 ∧ zk_Fr zg [(53, 1)] [32] H H1 := by
  have hct : zk_Ct L σ zB zg zJc yc_e95_32 := zk_chk_ok zB_W (fun _ h => absurd h List.not_mem_nil) yc_t95_32
  obtain ⟨⟨x1, H1⟩, c1, c2, c3, o, o1, o2, _⟩ := hct (d + 1) (Nat.le_add_left 1 d) [.inr (.inr (some 54)), .inr (.inr (some 23)), .inl x] H ⟨rfl, rfl, ⟨Int32.le_toInt _, Int32.toInt_le _⟩, trivial⟩ hB (fun f hf => absurd hf List.not_mem_nil)
  rcases List.mem_cons.mp o1 with rfl | o1
  · obtain rfl : x1 = .inl none := zk_rv_n o2
    exact ⟨H1, c1, c2, c3⟩
  · exact absurd o1 List.not_mem_nil
def yc_e96_32 : zk_T := (96, [.inr (some (some 54)), .inr (some (some 23)), .inl ((-2147483648), 2147483647)], [], [(53, 1)], [32], [(.inl none, [], [])], 2)
theorem yc_t96_32 : zk_chk zB zB_fz [] [] 5000 yc_e96_32 = true := by decide +kernel
theorem yc_c96_32 {L : Nat} {σ : Nat → Int32} (d : Nat) (H : zp_H) (x : Int32) (hB : zk_Bs zB zg zJc H) : ∃ H1, zp_Call L σ (d + 2) 96 [.inr (.inr (some 54)), .inr (.inr (some 23)), .inl x] H (.inl none, H1) ∧ zk_Bs zB zg zJc H1 ∧ zk_Fr zg [(53, 1)] [32] H H1 := by
  have hct : zk_Ct L σ zB zg zJc yc_e96_32 := zk_chk_ok zB_W (fun _ h => absurd h List.not_mem_nil) yc_t96_32
  obtain ⟨⟨x1, H1⟩, c1, c2, c3, o, o1, o2, _⟩ := hct (d + 2) (Nat.le_add_left 2 d) [.inr (.inr (some 54)), .inr (.inr (some 23)), .inl x] H ⟨rfl, rfl, ⟨Int32.le_toInt _, Int32.toInt_le _⟩, trivial⟩ hB (fun f hf => absurd hf List.not_mem_nil)
  rcases List.mem_cons.mp o1 with rfl | o1
  · obtain rfl : x1 = .inl none := zk_rv_n o2
    exact ⟨H1, c1, c2, c3⟩
  · exact absurd o1 List.not_mem_nil
theorem yc_P32 {L : Nat} {σ : Nat → Int32} : yc_P L σ 23 32 := ⟨Or.inr rfl, fun d H x h => yc_c96_32 d H x h, fun d H x h => yc_c95_32 d H x h⟩
theorem yE_P {T : Nat → Int} {n p wa : Nat} {H H1 : zp_H} (hw : wa = 12 ∨ wa = 32) (h : yE T n p H) (hB : zk_Bs zB zg zJc H1) (hF : zk_Fr zg [(53, 1)] [wa] H H1) : yE T n p H1 := by
  rcases hw with rfl | rfl
  · exact yE_c h (zB_dn hB) (zx_ae hF 52 (fun k => rfl) rfl rfl) (zx_ae hF 1 (fun k => rfl) rfl rfl)
  · exact yE_c h (zB_dn hB) (zx_ae hF 52 (fun k => rfl) rfl rfl) (zx_ae hF 1 (fun k => rfl) rfl rfl)
theorem yc_putD {L : Nat} {σ : Nat → Int32} {wr : Nat} {d : Nat} {T : Nat → Int} {n p wa : Nat} {H : zp_H} {x : Int32} (hP : yc_P L σ wr wa) (h : yE T n p H) : ∃ H1, zp_Call L σ (d + 2) 96 [.inr (.inr (some 54)), .inr (.inr (some wr)), .inl x] H (.inl none, H1) ∧ yE T n p H1 ∧ zk_Fr zg yx_m [wa] H H1 := by
  obtain ⟨H1, c1, c2, c3⟩ := hP.2.1 d H x (yE_B h)
  exact ⟨H1, c1, yE_P hP.1 h c2 c3, zk_Fr_w rfl (by unfold List.all List.all zk_ina; rcases hP.1 with rfl | rfl <;> rfl) c3⟩
theorem yc_put {L : Nat} {σ : Nat → Int32} {wr : Nat} {d : Nat} {T : Nat → Int} {n p wa : Nat} {H : zp_H} {x : Int32} (hP : yc_P L σ wr wa) (h : yE T n p H) : ∃ H1, zp_Call L σ (d + 1) 95 [.inr (.inr (some 54)), .inr (.inr (some wr)), .inl x] H (.inl none, H1) ∧ yE T n p H1 ∧ zk_Fr zg yx_m [wa] H H1 := by
  obtain ⟨H1, c1, c2, c3⟩ := hP.2.2 d H x (yE_B h)
  exact ⟨H1, c1, yE_P hP.1 h c2 c3, zk_Fr_w rfl (by unfold List.all List.all zk_ina; rcases hP.1 with rfl | rfl <;> rfl) c3⟩
theorem yc_ad {L : Nat} {σ : Nat → Int32} {d : Nat} {T : Nat → Int} {n p wa : Nat} {H : zp_H} (h : yE T n p H) : ∃ H1, zp_Call L σ (d + 3) 55 [.inr (.inr (some 53))] H (.inl none, H1) ∧ yE T n (ys_nx T n p) H1 ∧ zk_Fr zg yx_m [wa] H H1 := by
  have hb := ys_nxb (T := T) h.2.2
  obtain ⟨_, c1, H1, rfl, c2, c3, c4⟩ := yc_adv (L := L) (σ := σ) (d := d) (p := ys_nx T n p) h.1 h.2.1.2.1 hb.2.2.1
  exact ⟨H1, c1, ⟨c2, c4, hb.2.2.1⟩, zk_Fr_w rfl rfl c3⟩
theorem ys_adv {T : Nat → Int} {n p : Nat} (hp : p ≤ n) (hk : ys_kd T n p ≠ 0) : p < ys_nx T n p ∧ ys_nx T n p ≤ n := by
  have h := ys_nxb (T := T) hp
  have := h.2.2.2 hk
  omega

theorem yc_sg1 {L : Nat} {σ : Nat → Int32} {d : Nat} {T : Nat → Int} {n p : Nat} {H : zp_H} {x : Int32} {c : Int} (hc : x.toInt = c) (h : yE T n p H) (hq : ys_kd T n p = 4 ∧ ys_vl T n p = c) : zp_Call L σ (d + 1) 86 [.inr (.inr (some 53)), .inl x] H (.inl (some (.inl (Int32.ofInt 1))), H) := by
  have W := zB_Wd h.1.1
  have h4 := yE_4 h
  have h5 : ys_kd T n p ≠ 0 → _ := yE_5 h
  refine zw_ex (zw_met zm_86_t rfl rfl ?_)
  refine zw_ld (n := 1) (k := 0) (f := zp_isR) (pc' := 1) rfl rfl rfl rfl rfl ?_
  refine zw_gI (q := 52) (pc' := 4) W rfl rfl rfl rfl rfl rfl ?_
  refine zw_s (pc' := 5) rfl rfl ?_
  refine zw_bne2 (g := 20) (pc' := 8) rfl rfl rfl rfl (rfl : _ = (4 : Int)) (fun h1 => ?_) (fun h1 => ?_)
  · omega
  · refine zw_ld (n := 1) (k := 0) (f := zp_isR) (pc' := 9) rfl rfl rfl rfl rfl ?_
    refine zw_gI (q := 52) (pc' := 12) W rfl rfl rfl rfl rfl rfl ?_
    refine zw_ld (n := 1) (k := 1) (f := zp_isI) (pc' := 13) rfl rfl rfl rfl rfl ?_
    refine zw_bne2 (g := 20) (pc' := 16) rfl rfl rfl rfl rfl (fun h2 => ?_) (fun h2 => ?_)
    · have := h5 (by omega)
      omega
    · refine zw_s (pc' := 17) rfl rfl ?_
      refine zw_s (pc' := 21) rfl rfl ?_
      refine zw_rz rfl rfl (by decide) ?_
      rfl

theorem yc_sg0 {L : Nat} {σ : Nat → Int32} {d : Nat} {T : Nat → Int} {n p : Nat} {H : zp_H} {x : Int32} {c : Int} (hc : x.toInt = c) (h : yE T n p H) (hq : ¬ (ys_kd T n p = 4 ∧ ys_vl T n p = c)) : zp_Call L σ (d + 1) 86 [.inr (.inr (some 53)), .inl x] H (.inl (some (.inl (Int32.ofInt 0))), H) := by
  have W := zB_Wd h.1.1
  have h4 := yE_4 h
  have h5 : ys_kd T n p ≠ 0 → _ := yE_5 h
  refine zw_ex (zw_met zm_86_t rfl rfl ?_)
  refine zw_ld (n := 1) (k := 0) (f := zp_isR) (pc' := 1) rfl rfl rfl rfl rfl ?_
  refine zw_gI (q := 52) (pc' := 4) W rfl rfl rfl rfl rfl rfl ?_
  refine zw_s (pc' := 5) rfl rfl ?_
  refine zw_bne2 (g := 20) (pc' := 8) rfl rfl rfl rfl (rfl : _ = (4 : Int)) (fun h1 => ?_) (fun h1 => ?_)
  · refine zw_s (pc' := 21) rfl rfl ?_
    refine zw_rz rfl rfl (by decide) ?_
    rfl
  · refine zw_ld (n := 1) (k := 0) (f := zp_isR) (pc' := 9) rfl rfl rfl rfl rfl ?_
    refine zw_gI (q := 52) (pc' := 12) W rfl rfl rfl rfl rfl rfl ?_
    refine zw_ld (n := 1) (k := 1) (f := zp_isI) (pc' := 13) rfl rfl rfl rfl rfl ?_
    refine zw_bne2 (g := 20) (pc' := 16) rfl rfl rfl rfl rfl (fun h2 => ?_) (fun h2 => ?_)
    · refine zw_s (pc' := 21) rfl rfl ?_
      refine zw_rz rfl rfl (by decide) ?_
      rfl
    · have := h5 (by omega)
      omega

theorem yc_wd1 {L : Nat} {σ : Nat → Int32} {d : Nat} {T : Nat → Int} {n p : Nat} {H : zp_H} {x : Int32} {c : Int} (hc : x.toInt = c) (h : yE T n p H) (hq : ys_kd T n p = 3 ∧ ys_vl T n p = c) : zp_Call L σ (d + 1) 90 [.inr (.inr (some 53)), .inl x] H (.inl (some (.inl (Int32.ofInt 1))), H) := by
  have W := zB_Wd h.1.1
  have h4 := yE_4 h
  have h5 : ys_kd T n p ≠ 0 → _ := yE_5 h
  refine zw_ex (zw_met zm_90_t rfl rfl ?_)
  refine zw_ld (n := 1) (k := 0) (f := zp_isR) (pc' := 1) rfl rfl rfl rfl rfl ?_
  refine zw_gI (q := 52) (pc' := 4) W rfl rfl rfl rfl rfl rfl ?_
  refine zw_s (pc' := 5) rfl rfl ?_
  refine zw_bne2 (g := 20) (pc' := 8) rfl rfl rfl rfl (rfl : _ = (3 : Int)) (fun h1 => ?_) (fun h1 => ?_)
  · omega
  · refine zw_ld (n := 1) (k := 0) (f := zp_isR) (pc' := 9) rfl rfl rfl rfl rfl ?_
    refine zw_gI (q := 52) (pc' := 12) W rfl rfl rfl rfl rfl rfl ?_
    refine zw_ld (n := 1) (k := 1) (f := zp_isI) (pc' := 13) rfl rfl rfl rfl rfl ?_
    refine zw_bne2 (g := 20) (pc' := 16) rfl rfl rfl rfl rfl (fun h2 => ?_) (fun h2 => ?_)
    · have := h5 (by omega)
      omega
    · refine zw_s (pc' := 17) rfl rfl ?_
      refine zw_s (pc' := 21) rfl rfl ?_
      refine zw_rz rfl rfl (by decide) ?_
      rfl

theorem yc_wd0 {L : Nat} {σ : Nat → Int32} {d : Nat} {T : Nat → Int} {n p : Nat} {H : zp_H} {x : Int32} {c : Int} (hc : x.toInt = c) (h : yE T n p H) (hq : ¬ (ys_kd T n p = 3 ∧ ys_vl T n p = c)) : zp_Call L σ (d + 1) 90 [.inr (.inr (some 53)), .inl x] H (.inl (some (.inl (Int32.ofInt 0))), H) := by
  have W := zB_Wd h.1.1
  have h4 := yE_4 h
  have h5 : ys_kd T n p ≠ 0 → _ := yE_5 h
  refine zw_ex (zw_met zm_90_t rfl rfl ?_)
  refine zw_ld (n := 1) (k := 0) (f := zp_isR) (pc' := 1) rfl rfl rfl rfl rfl ?_
  refine zw_gI (q := 52) (pc' := 4) W rfl rfl rfl rfl rfl rfl ?_
  refine zw_s (pc' := 5) rfl rfl ?_
  refine zw_bne2 (g := 20) (pc' := 8) rfl rfl rfl rfl (rfl : _ = (3 : Int)) (fun h1 => ?_) (fun h1 => ?_)
  · refine zw_s (pc' := 21) rfl rfl ?_
    refine zw_rz rfl rfl (by decide) ?_
    rfl
  · refine zw_ld (n := 1) (k := 0) (f := zp_isR) (pc' := 9) rfl rfl rfl rfl rfl ?_
    refine zw_gI (q := 52) (pc' := 12) W rfl rfl rfl rfl rfl rfl ?_
    refine zw_ld (n := 1) (k := 1) (f := zp_isI) (pc' := 13) rfl rfl rfl rfl rfl ?_
    refine zw_bne2 (g := 20) (pc' := 16) rfl rfl rfl rfl rfl (fun h2 => ?_) (fun h2 => ?_)
    · refine zw_s (pc' := 21) rfl rfl ?_
      refine zw_rz rfl rfl (by decide) ?_
      rfl
    · have := h5 (by omega)
      omega

theorem yc_wy1 {L : Nat} {σ : Nat → Int32} {d : Nat} {T : Nat → Int} {n p : Nat} {H : zp_H} (h : yE T n p H) (hq : ys_kd T n p = 3 ∧ ys_vl T n p < 4) : zp_Call L σ (d + 1) 74 [.inr (.inr (some 53))] H (.inl (some (.inl (Int32.ofInt 1))), H) := by
  have W := zB_Wd h.1.1
  have h4 := yE_4 h
  have h5 : ys_kd T n p ≠ 0 → _ := yE_5 h
  refine zw_ex (zw_met zm_74_t rfl rfl ?_)
  refine zw_ld (n := 1) (k := 0) (f := zp_isR) (pc' := 1) rfl rfl rfl rfl rfl ?_
  refine zw_gI (q := 52) (pc' := 4) W rfl rfl rfl rfl rfl rfl ?_
  refine zw_s (pc' := 5) rfl rfl ?_
  refine zw_bne2 (g := 20) (pc' := 8) rfl rfl rfl rfl (rfl : _ = (3 : Int)) (fun h1 => ?_) (fun h1 => ?_)
  · omega
  · refine zw_ld (n := 1) (k := 0) (f := zp_isR) (pc' := 9) rfl rfl rfl rfl rfl ?_
    refine zw_gI (q := 52) (pc' := 12) W rfl rfl rfl rfl rfl rfl ?_
    refine zw_s (pc' := 13) rfl rfl ?_
    refine zw_bge2 (g := 20) (pc' := 16) rfl rfl rfl rfl (rfl : _ = (4 : Int)) (fun h2 => ?_) (fun h2 => ?_)
    · have := h5 (by omega)
      omega
    · refine zw_s (pc' := 17) rfl rfl ?_
      refine zw_s (pc' := 21) rfl rfl ?_
      refine zw_rz rfl rfl (by decide) ?_
      rfl

theorem yc_wy0 {L : Nat} {σ : Nat → Int32} {d : Nat} {T : Nat → Int} {n p : Nat} {H : zp_H} (h : yE T n p H) (hq : ¬ (ys_kd T n p = 3 ∧ ys_vl T n p < 4)) : zp_Call L σ (d + 1) 74 [.inr (.inr (some 53))] H (.inl (some (.inl (Int32.ofInt 0))), H) := by
  have W := zB_Wd h.1.1
  have h4 := yE_4 h
  have h5 : ys_kd T n p ≠ 0 → _ := yE_5 h
  refine zw_ex (zw_met zm_74_t rfl rfl ?_)
  refine zw_ld (n := 1) (k := 0) (f := zp_isR) (pc' := 1) rfl rfl rfl rfl rfl ?_
  refine zw_gI (q := 52) (pc' := 4) W rfl rfl rfl rfl rfl rfl ?_
  refine zw_s (pc' := 5) rfl rfl ?_
  refine zw_bne2 (g := 20) (pc' := 8) rfl rfl rfl rfl (rfl : _ = (3 : Int)) (fun h1 => ?_) (fun h1 => ?_)
  · refine zw_s (pc' := 21) rfl rfl ?_
    refine zw_rz rfl rfl (by decide) ?_
    rfl
  · refine zw_ld (n := 1) (k := 0) (f := zp_isR) (pc' := 9) rfl rfl rfl rfl rfl ?_
    refine zw_gI (q := 52) (pc' := 12) W rfl rfl rfl rfl rfl rfl ?_
    refine zw_s (pc' := 13) rfl rfl ?_
    refine zw_bge2 (g := 20) (pc' := 16) rfl rfl rfl rfl (rfl : _ = (4 : Int)) (fun h2 => ?_) (fun h2 => ?_)
    · refine zw_s (pc' := 21) rfl rfl ?_
      refine zw_rz rfl rfl (by decide) ?_
      rfl
    · have := h5 (by omega)
      omega

theorem yc_rfx {L : Nat} {σ : Nat → Int32} {d : Nat} {T : Nat → Int} {n p : Nat} {H : zp_H} {x : Int32} (h : yE T n p H) : zp_Call L σ (d + 1) 87 [.inr (.inr (some 54)), .inl x] H (.inl (some (.inl (Int32.ofInt 0))), zw_I H 53 2 x) := by
  have W := zB_Wd h.1.1
  refine zw_ex (zw_met zm_87_t rfl rfl ?_)
  refine zw_ld (n := 1) (k := 0) (f := zp_isR) (pc' := 1) rfl rfl rfl rfl rfl ?_
  refine zw_ld (n := 1) (k := 1) (f := zp_isI) (pc' := 2) rfl rfl rfl rfl rfl ?_
  refine zw_pI (q := 53) (pc' := 5) W rfl rfl rfl rfl rfl rfl ?_
  refine zw_s (pc' := 6) rfl rfl ?_
  refine zw_rz rfl rfl (by decide) ?_
  rfl

theorem yc_rf {L : Nat} {σ : Nat → Int32} {d : Nat} {T : Nat → Int} {n p wa : Nat} {H : zp_H} {x : Int32} (h : yE T n p H) : ∃ H1, zp_Call L σ (d + 1) 87 [.inr (.inr (some 54)), .inl x] H (.inl (some (.inl (Int32.ofInt 0))), H1) ∧ yE T n p H1 ∧ zk_Fr zg yx_m [wa] H H1 ∧ (H1.2.1 53 2).toInt = x.toInt := by
  refine ⟨_, yc_rfx h, yE_c h ?_ (funext fun k => zw_ne rfl rfl) (funext fun k => zw_ne rfl rfl), zk_Fr_I (zk_Fr_r H) rfl rfl, congrArg Int32.toInt zw_eq⟩
  exact zB_putf (p := 53) (k := 2) (x := x) h.1.1 rfl (fun r hr => by cases hr) (zJc_I rfl h.1.1.2.2.2.2.2.2.2)
end
section
/-! ===== the class reads an expression, exactly ===== -/
def zm_85 : za_MI := (yX2_readExpr, prog_4_method_6_code, 4, (some FieldType.boolean), 2, 0, 0, [], za_i85)
theorem zm_85_t : za_MT 85 = some zm_85 := rfl
def zm_94 : za_MI := (yX2_readPart, prog_4_method_12_code, 3, (some FieldType.boolean), 2, 0, 0, [], za_i94)
theorem zm_94_t : za_MT 94 = some zm_94 := rfl
def zm_95 : za_MI := (yX2_put, prog_4_method_4_code, 3, none, 2, 0, 0, [], za_i95)
theorem zm_95_t : za_MT 95 = some zm_95 := rfl
def zm_96 : za_MI := (yX2_putDone, prog_4_method_5_code, 3, none, 2, 0, 0, [], za_i96)
theorem zm_96_t : za_MT 96 = some zm_96 := rfl
def yX (T : Nat → Int) (n : Nat) (s : yM) (wa : Nat) (Q : List Bool → Nat → Prop) (H0 : zp_H) (X : zp_X) : Prop := ∃ (v : Int32) (H1 : zp_H) (q : Nat), X = (.inl (some (.inl v)), H1) ∧ yE T n q H1 ∧ zk_Fr zg yx_m [wa] H0 H1 ∧ ((v.toInt = 1 ∧ s.2.2 < q ∧ ∃ lv', Q lv' q ∧ yR T n s (0, lv', q)) ∨ (v.toInt = 0 ∧ ∃ r : Int × Nat, yA T n s r ∧ r.2 = q ∧ (H1.2.1 53 2).toInt = r.1 ∧ 1 ≤ r.1 ∧ r.1 ≤ 5))
def yQ0 (lv : List Bool) (lv' : List Bool) (_ : Nat) : Prop := lv' = lv
def yQ1 (T : Nat → Int) (n : Nat) (lv : List Bool) (lv' : List Bool) (q : Nat) : Prop := lv' = lv ∧ ¬ (ys_kd T n q = 4 ∧ (ys_vl T n q = 42 ∨ ys_vl T n q = 47))
def yQ2 (T : Nat → Int) (n : Nat) (lv : List Bool) (lv' : List Bool) (q : Nat) : Prop := yQ1 T n lv lv' q ∧ ¬ (ys_kd T n q = 4 ∧ (ys_vl T n q = 43 ∨ ys_vl T n q = 45))
def yQ3 (T : Nat → Int) (n : Nat) (tl : List Bool) (lv' : List Bool) (q : Nat) : Prop := ∃ t, lv' = t :: tl ∧ yQ2 T n (t :: tl) (t :: tl) q ∧ (t = false → ¬ (ys_kd T n q = 4 ∧ (ys_vl T n q = 60 ∨ ys_vl T n q = 61)))
def yQ4 (T : Nat → Int) (n : Nat) (tl : List Bool) (lv' : List Bool) (q : Nat) : Prop := yQ3 T n tl lv' q ∧ ¬ (ys_kd T n q = 3 ∧ ys_vl T n q = 9)
def yQ5 (T : Nat → Int) (n : Nat) (tl : List Bool) (lv' : List Bool) (q : Nat) : Prop := yQ4 T n tl lv' q ∧ ¬ (ys_kd T n q = 3 ∧ ys_vl T n q = 8)
/-- a method that reads from s on -/
def yK (L : Nat) (σ : Nat → Int32) (T : Nat → Int) (n wa : Nat) (wr : Nat) (j m : Nat) (Q : List Bool → List Bool → Nat → Prop) (b : Option Bool) (c l : Nat) : Prop := ∀ (lv : List Bool) (x : Int32) (p : Nat) (H : zp_H), lv.length = l + 1 → (∀ b', b = some b' → lv.head? = some b') → x.toInt = l → yE T n p H → ∃ X, zp_Call L σ c j [.inr (.inr (some 54)), .inr (.inr (some wr)), .inl x] H X ∧ yX T n (m, lv, p) wa (Q lv) H X
/-- readExpr one deeper: it reads, or there are six already -/
def yG (L : Nat) (σ : Nat → Int32) (T : Nat → Int) (n wa wr c l : Nat) : Prop := ∀ (lv : List Bool) (x : Int32) (p : Nat) (H : zp_H), lv.length = l + 1 → x.toInt = ((l + 1 : Nat) : Int) → yE T n p H → ∃ X, zp_Call L σ c 85 [.inr (.inr (some 54)), .inr (.inr (some wr)), .inl x] H X ∧ ∃ (v : Int32) (H1 : zp_H) (q : Nat), X = (.inl (some (.inl v)), H1) ∧ yE T n q H1 ∧ zk_Fr zg yx_m [wa] H H1 ∧ ((v.toInt = 1 ∧ p < q ∧ lv.length < 6 ∧ ∃ lv', yQ5 T n lv lv' q ∧ yR T n (2, false :: lv, p) (0, lv', q)) ∨ (v.toInt = 0 ∧ ∃ r : Int × Nat, (lv.length < 6 → yA T n (2, false :: lv, p) r) ∧ (¬ lv.length < 6 → r = (if yB T n p then 2 else 1, p)) ∧ r.2 = q ∧ (H1.2.1 53 2).toInt = r.1 ∧ 1 ≤ r.1 ∧ r.1 ≤ 5))
theorem yX_0 {T : Nat → Int} {n wa q : Nat} {s : yM} {r : Int × Nat} {Q : List Bool → Nat → Prop} {H0 H1 : zp_H} (hE : yE T n q H1) (hF : zk_Fr zg yx_m [wa] H0 H1) (hA : yA T n s r) (hq : r.2 = q) (hf : (H1.2.1 53 2).toInt = r.1) (hb : 1 ≤ r.1 ∧ r.1 ≤ 5) : yX T n s wa Q H0 (.inl (some (.inl (Int32.ofInt 0))), H1) := ⟨_, H1, q, rfl, hE, hF, Or.inr ⟨rfl, r, hA, hq, hf, hb⟩⟩
theorem yX_1 {T : Nat → Int} {n wa q : Nat} {s : yM} {lv' : List Bool} {Q : List Bool → Nat → Prop} {H0 H1 : zp_H} (hE : yE T n q H1) (hF : zk_Fr zg yx_m [wa] H0 H1) (hp : s.2.2 < q) (hQ : Q lv' q) (hR : yR T n s (0, lv', q)) : yX T n s wa Q H0 (.inl (some (.inl (Int32.ofInt 1))), H1) := ⟨_, H1, q, rfl, hE, hF, Or.inl ⟨rfl, hp, lv', hQ, hR⟩⟩

set_option maxRecDepth 8000 in
theorem yc_part {L : Nat} {σ : Nat → Int32} {T : Nat → Int} {n wa : Nat} {wr : Nat} {c l : Nat} (hl6 : l < 6) (hP : yc_P L σ wr wa) (hE : yG L σ T n wa wr c l) : yK L σ T n wa wr 94 1 yQ0 none (c + 4) l := by
  intro lv x p H hl hb hx h
  have W := zB_Wd h.1.1
  have h4 := yE_4 h
  have h5 : ys_kd T n p ≠ 0 → _ := yE_5 h
  refine zw_met zm_94_t rfl rfl ?_
  refine zw_ld (n := 1) (k := 0) (f := zp_isR) (pc' := 1) rfl rfl rfl rfl rfl ?_
  refine zw_gR (q := 53) (pc' := 4) W rfl rfl rfl rfl (W.2 53 0 _ rfl) rfl ?_
  refine zw_s (pc' := 6) rfl rfl ?_
  by_cases h40 : ys_kd T n p = 4 ∧ ys_vl T n p = 40
  · refine zw_c (pc' := 9) (zw_cv (q := 52) (Y := zm_86) W.1 rfl rfl zm_86_t rfl rfl) rfl rfl rfl rfl rfl (yc_sg1 (d := c + 2) rfl h h40) ?_
    refine zw_beq1 (g := 50) (pc' := 12) rfl rfl rfl (rfl : _ = (1 : Int)) (fun h9 => absurd h9 (by decide)) (fun h9 => ?_)
    obtain ⟨H1, a1, a2, a3⟩ := yc_ad (L := L) (σ := σ) (d := c) (wa := wa) h
    have W1 := zB_Wd a2.1.1
    have hadv := ys_adv (T := T) h.2.2 (by omega)
    refine zw_ld (n := 1) (k := 0) (f := zp_isR) (pc' := 13) rfl rfl rfl rfl rfl ?_
    refine zw_gR (q := 53) (pc' := 16) W rfl rfl rfl rfl (W.2 53 0 _ rfl) rfl ?_
    refine zw_cn (pc' := 19) (zw_cv (q := 52) (Y := zm_55) W.1 rfl rfl zm_55_t rfl rfl) rfl rfl rfl rfl rfl (a1) ?_
    have ex1 : (x + Int32.ofInt 1).toInt = ((l + 1 : Nat) : Int) := by
      rw [zw_p1 (by omega)]
      omega
    have hN := yN_op (lv := lv) h40.1 h40.2
    obtain ⟨X1, b1, b2⟩ := hE lv _ _ H1 hl ex1 a2
    obtain ⟨v, H2, q, rfl, e2, e3, e4⟩ := b2
    have W2 := zB_Wd e2.1.1
    refine zw_ld (n := 1) (k := 0) (f := zp_isR) (pc' := 20) rfl rfl rfl rfl rfl ?_
    refine zw_ld (n := 1) (k := 1) (f := zp_isR) (pc' := 21) rfl rfl rfl rfl rfl ?_
    refine zw_ld (n := 1) (k := 2) (f := zp_isI) (pc' := 22) rfl rfl rfl rfl rfl ?_
    refine zw_s (pc' := 23) rfl rfl ?_
    refine zw_iadd (pc' := 24) rfl rfl ?_
    refine zw_c (pc' := 27) (zw_cv (q := 53) (Y := zm_85) W1.1 rfl rfl zm_85_t rfl rfl) rfl rfl rfl rfl rfl ((zp_Call_le (by omega) b1)) ?_
    refine zw_bne1 (g := 32) (pc' := 30) rfl rfl rfl rfl (fun hv => ?_) (fun hv => ?_)
    · rcases e4 with ⟨_, e5, h6, lv', e6, e7⟩ | ⟨e4, _⟩
      rotate_left
      · omega
      rw [if_pos h6] at hN
      obtain ⟨⟨⟨tf, rfl, e8⟩, e9⟩, e10⟩ := e6
      refine zw_ld (n := 1) (k := 0) (f := zp_isR) (pc' := 33) rfl rfl rfl rfl rfl ?_
      refine zw_gR (q := 53) (pc' := 36) W2 rfl rfl rfl rfl (W2.2 53 0 _ rfl) rfl ?_
      refine zw_s (pc' := 38) rfl rfl ?_
      by_cases h41 : ys_kd T n q = 4 ∧ ys_vl T n q = 41
      · refine zw_c (pc' := 41) (zw_cv (q := 52) (Y := zm_86) W2.1 rfl rfl zm_86_t rfl rfl) rfl rfl rfl rfl rfl (yc_sg1 (d := c + 2) rfl e2 h41) ?_
        refine zw_bne1 (g := 145) (pc' := 44) rfl rfl rfl (rfl : _ = (1 : Int)) (fun h9 => ?_) (fun h9 => absurd h9 (by decide))
        have hpq : ys_nx T n p < q := e5
        obtain ⟨H9, g1, g2, g3⟩ := yc_ad (L := L) (σ := σ) (d := c) (wa := wa) e2
        have hadv9 := ys_adv (T := T) e2.2.2 (by omega)
        refine zw_ld (n := 1) (k := 0) (f := zp_isR) (pc' := 146) rfl rfl rfl rfl rfl ?_
        refine zw_gR (q := 53) (pc' := 149) W2 rfl rfl rfl rfl (W2.2 53 0 _ rfl) rfl ?_
        refine zw_cn (pc' := 152) (zw_cv (q := 52) (Y := zm_55) W2.1 rfl rfl zm_55_t rfl rfl) rfl rfl rfl rfl rfl (g1) ?_
        refine zw_s (pc' := 153) rfl rfl ?_
        refine zw_rz rfl rfl (by decide) ?_
        exact yX_1 g2 (zk_Fr_t (zk_Fr_t a3 e3) g3) (by show p < ys_nx T n _; omega) rfl (yR_t (yR_s hN) (yR_t e7 (yR_s (yN_cl (lv := tf :: lv) h41.1 h41.2 (by rw [List.length_cons]; omega)))))
      · refine zw_c (pc' := 41) (zw_cv (q := 52) (Y := zm_86) W2.1 rfl rfl zm_86_t rfl rfl) rfl rfl rfl rfl rfl (yc_sg0 (d := c + 2) rfl e2 h41) ?_
        refine zw_bne1 (g := 145) (pc' := 44) rfl rfl rfl (rfl : _ = (0 : Int)) (fun h9 => absurd h9 (by decide)) (fun h9 => ?_)
        refine zw_ld (n := 1) (k := 0) (f := zp_isR) (pc' := 45) rfl rfl rfl rfl rfl ?_
        refine zw_s (pc' := 46) rfl rfl ?_
        have hNe : yN T n (0, tf :: lv, q) = .inr (1, q) := by
          rw [yN_en ⟨fun h9 => ?_, e8.1.2, e8.1.1.2⟩ (fun h9 => ?_) (fun h9 => h41 ⟨h9.1, h9.2.1⟩), if_pos (by rw [List.length_cons]; omega)]
          · rcases h9.2 with h8 | h8
            · exact e9 ⟨h9.1, h8⟩
            · exact e10 ⟨h9.1, h8⟩
          · exact e8.2 (Option.some.inj h9.2.2) ⟨h9.1, h9.2.1⟩
        obtain ⟨K9, c1, c2, c3, c4⟩ := yc_rf (L := L) (σ := σ) (d := c + 2) (wa := wa) (x := Int32.ofInt 1) e2
        refine zw_c (pc' := 49) (zw_cv (q := 53) (Y := zm_87) W2.1 rfl rfl zm_87_t rfl rfl) rfl rfl rfl rfl rfl (c1) ?_
        refine zw_rz rfl rfl (by decide) ?_
        exact yX_0 c2 (zk_Fr_t (zk_Fr_t a3 e3) c3) (yA_step hN (e7 _ (yA_done hNe))) rfl c4 (show 1 ≤ (1 : Int) ∧ (1 : Int) ≤ 5 from by decide)
    · refine zw_s (pc' := 31) rfl rfl ?_
      refine zw_rz rfl rfl (by decide) ?_
      rcases e4 with ⟨e4, _⟩ | ⟨e4, r, e5, e5', e6, e7, e8⟩
      · omega
      · have hv0 : v = Int32.ofInt 0 := Int32.toInt_inj.mp (e4.trans rfl)
        refine yX_0 e2 (zk_Fr_t a3 e3) ?_ e6 e7 e8
        by_cases h6 : lv.length < 6
        · rw [if_pos h6] at hN
          exact yA_step hN (e5 h6)
        · rw [if_neg h6] at hN
          rw [e5' h6]
          exact yA_done hN
  · refine zw_c (pc' := 9) (zw_cv (q := 52) (Y := zm_86) W.1 rfl rfl zm_86_t rfl rfl) rfl rfl rfl rfl rfl (yc_sg0 (d := c + 2) rfl h h40) ?_
    refine zw_beq1 (g := 50) (pc' := 12) rfl rfl rfl (rfl : _ = (0 : Int)) (fun h9 => ?_) (fun h9 => absurd h9 (by decide))
    refine zw_ld (n := 1) (k := 0) (f := zp_isR) (pc' := 51) rfl rfl rfl rfl rfl ?_
    refine zw_gR (q := 53) (pc' := 54) W rfl rfl rfl rfl (W.2 53 0 _ rfl) rfl ?_
    refine zw_gI (q := 52) (pc' := 57) W rfl rfl rfl rfl rfl rfl ?_
    refine zw_s (pc' := 58) rfl rfl ?_
    refine zw_bne2 (g := 95) (pc' := 61) rfl rfl rfl rfl (rfl : _ = (2 : Int)) (fun h2 => ?_) (fun h2 => ?_)
    · refine zw_ld (n := 1) (k := 0) (f := zp_isR) (pc' := 96) rfl rfl rfl rfl rfl ?_
      refine zw_gR (q := 53) (pc' := 99) W rfl rfl rfl rfl (W.2 53 0 _ rfl) rfl ?_
      refine zw_gI (q := 52) (pc' := 102) W rfl rfl rfl rfl rfl rfl ?_
      refine zw_s (pc' := 103) rfl rfl ?_
      refine zw_bne2 (g := 139) (pc' := 106) rfl rfl rfl rfl (rfl : _ = (3 : Int)) (fun h3 => ?_) (fun h3 => ?_)
      · refine zw_ld (n := 1) (k := 0) (f := zp_isR) (pc' := 140) rfl rfl rfl rfl rfl ?_
        refine zw_s (pc' := 141) rfl rfl ?_
        obtain ⟨K9, c1, c2, c3, c4⟩ := yc_rf (L := L) (σ := σ) (d := c + 2) (wa := wa) (x := Int32.ofInt 1) h
        refine zw_c (pc' := 144) (zw_cv (q := 53) (Y := zm_87) W.1 rfl rfl zm_87_t rfl rfl) rfl rfl rfl rfl rfl (c1) ?_
        refine zw_rz rfl rfl (by decide) ?_
        exact yX_0 c2 (zk_Fr_t (zk_Fr_r H) c3) (yA_done (yN_un h40 (by omega) (by omega))) rfl c4 (show 1 ≤ (1 : Int) ∧ (1 : Int) ≤ 5 from by decide)
      · have hv := h5 (by omega)
        have hN := yN_wo (T := T) (n := n) (p := p) (lv := lv) (by omega)
        refine zw_ld (n := 1) (k := 0) (f := zp_isR) (pc' := 107) rfl rfl rfl rfl rfl ?_
        refine zw_gR (q := 53) (pc' := 110) W rfl rfl rfl rfl (W.2 53 0 _ rfl) rfl ?_
        refine zw_gI (q := 52) (pc' := 113) W rfl rfl rfl rfl rfl rfl ?_
        refine zw_s (pc' := 115) rfl rfl ?_
        refine zw_blt2 (g := 124) (pc' := 118) rfl rfl rfl rfl (rfl : _ = (8 : Int)) (fun h6 => ?_) (fun h6 => ?_)
        · rw [if_pos (by omega)] at hN
          obtain ⟨K, k1, k2, k3⟩ := yc_putD (d := c + 1) (x := H.2.1 52 5) hP h
          have WK := zB_Wd k2.1.1
          refine zw_ld (n := 1) (k := 0) (f := zp_isR) (pc' := 125) rfl rfl rfl rfl rfl ?_
          refine zw_ld (n := 1) (k := 1) (f := zp_isR) (pc' := 126) rfl rfl rfl rfl rfl ?_
          refine zw_ld (n := 1) (k := 0) (f := zp_isR) (pc' := 127) rfl rfl rfl rfl rfl ?_
          refine zw_gR (q := 53) (pc' := 130) W rfl rfl rfl rfl (W.2 53 0 _ rfl) rfl ?_
          refine zw_gI (q := 52) (pc' := 133) W rfl rfl rfl rfl rfl rfl ?_
          refine zw_cn (pc' := 136) (zw_cv (q := 53) (Y := zm_96) W.1 rfl rfl zm_96_t rfl rfl) rfl rfl rfl rfl rfl (k1) ?_
          obtain ⟨H9, g1, g2, g3⟩ := yc_ad (L := L) (σ := σ) (d := c) (wa := wa) k2
          have hadv9 := ys_adv (T := T) k2.2.2 (by omega)
          refine zw_s (pc' := 145) rfl rfl ?_
          refine zw_ld (n := 1) (k := 0) (f := zp_isR) (pc' := 146) rfl rfl rfl rfl rfl ?_
          refine zw_gR (q := 53) (pc' := 149) WK rfl rfl rfl rfl (WK.2 53 0 _ rfl) rfl ?_
          refine zw_cn (pc' := 152) (zw_cv (q := 52) (Y := zm_55) WK.1 rfl rfl zm_55_t rfl rfl) rfl rfl rfl rfl rfl (g1) ?_
          refine zw_s (pc' := 153) rfl rfl ?_
          refine zw_rz rfl rfl (by decide) ?_
          exact yX_1 g2 (zk_Fr_t k3 g3) (by show p < ys_nx T n _; omega) rfl (yR_s hN)
        · refine zw_ld (n := 1) (k := 0) (f := zp_isR) (pc' := 119) rfl rfl rfl rfl rfl ?_
          refine zw_s (pc' := 120) rfl rfl ?_
          rw [if_neg (by omega)] at hN
          obtain ⟨K9, c1, c2, c3, c4⟩ := yc_rf (L := L) (σ := σ) (d := c + 2) (wa := wa) (x := Int32.ofInt 3) h
          refine zw_c (pc' := 123) (zw_cv (q := 53) (Y := zm_87) W.1 rfl rfl zm_87_t rfl rfl) rfl rfl rfl rfl rfl (c1) ?_
          refine zw_rz rfl rfl (by decide) ?_
          exact yX_0 c2 (zk_Fr_t (zk_Fr_r H) c3) (yA_done (hN)) rfl c4 (show 1 ≤ (3 : Int) ∧ (3 : Int) ≤ 5 from by decide)
    · have hv := h5 (by omega)
      have hN := yN_nu (T := T) (n := n) (p := p) (lv := lv) (by omega)
      refine zw_ld (n := 1) (k := 0) (f := zp_isR) (pc' := 62) rfl rfl rfl rfl rfl ?_
      refine zw_gR (q := 53) (pc' := 65) W rfl rfl rfl rfl (W.2 53 0 _ rfl) rfl ?_
      refine zw_gI (q := 52) (pc' := 68) W rfl rfl rfl rfl rfl rfl ?_
      refine zw_s (pc' := 71) rfl rfl ?_
      refine zw_ble2 (g := 80) (pc' := 74) rfl rfl rfl rfl (rfl : _ = (9999 : Int)) (fun h3 => ?_) (fun h3 => ?_)
      · rw [if_neg (by omega)] at hN
        obtain ⟨K, k1, k2, k3⟩ := yc_put (d := c + 2) (x := H.2.1 52 5) hP h
        have WK := zB_Wd k2.1.1
        refine zw_ld (n := 1) (k := 0) (f := zp_isR) (pc' := 81) rfl rfl rfl rfl rfl ?_
        refine zw_ld (n := 1) (k := 1) (f := zp_isR) (pc' := 82) rfl rfl rfl rfl rfl ?_
        refine zw_ld (n := 1) (k := 0) (f := zp_isR) (pc' := 83) rfl rfl rfl rfl rfl ?_
        refine zw_gR (q := 53) (pc' := 86) W rfl rfl rfl rfl (W.2 53 0 _ rfl) rfl ?_
        refine zw_gI (q := 52) (pc' := 89) W rfl rfl rfl rfl rfl rfl ?_
        refine zw_cn (pc' := 92) (zw_cv (q := 53) (Y := zm_95) W.1 rfl rfl zm_95_t rfl rfl) rfl rfl rfl rfl rfl (k1) ?_
        obtain ⟨H9, g1, g2, g3⟩ := yc_ad (L := L) (σ := σ) (d := c) (wa := wa) k2
        have hadv9 := ys_adv (T := T) k2.2.2 (by omega)
        refine zw_s (pc' := 145) rfl rfl ?_
        refine zw_ld (n := 1) (k := 0) (f := zp_isR) (pc' := 146) rfl rfl rfl rfl rfl ?_
        refine zw_gR (q := 53) (pc' := 149) WK rfl rfl rfl rfl (WK.2 53 0 _ rfl) rfl ?_
        refine zw_cn (pc' := 152) (zw_cv (q := 52) (Y := zm_55) WK.1 rfl rfl zm_55_t rfl rfl) rfl rfl rfl rfl rfl (g1) ?_
        refine zw_s (pc' := 153) rfl rfl ?_
        refine zw_rz rfl rfl (by decide) ?_
        exact yX_1 g2 (zk_Fr_t k3 g3) (by show p < ys_nx T n _; omega) rfl (yR_s hN)
      · refine zw_ld (n := 1) (k := 0) (f := zp_isR) (pc' := 75) rfl rfl rfl rfl rfl ?_
        refine zw_s (pc' := 76) rfl rfl ?_
        rw [if_pos (by omega)] at hN
        obtain ⟨K9, c1, c2, c3, c4⟩ := yc_rf (L := L) (σ := σ) (d := c + 2) (wa := wa) (x := Int32.ofInt 2) h
        refine zw_c (pc' := 79) (zw_cv (q := 53) (Y := zm_87) W.1 rfl rfl zm_87_t rfl rfl) rfl rfl rfl rfl rfl (c1) ?_
        refine zw_rz rfl rfl (by decide) ?_
        exact yX_0 c2 (zk_Fr_t (zk_Fr_r H) c3) (yA_done (hN)) rfl c4 (show 1 ≤ (2 : Int) ∧ (2 : Int) ≤ 5 from by decide)
end
section
/-! ===== the class reads products, sums, tests ===== -/
def zm_91 : za_MI := (yX2_readTest, prog_4_method_9_code, 4, (some FieldType.boolean), 2, 0, 0, [], za_i91)
theorem zm_91_t : za_MT 91 = some zm_91 := rfl
def zm_92 : za_MI := (yX2_readSum, prog_4_method_10_code, 5, (some FieldType.boolean), 2, 0, 0, [], za_i92)
theorem zm_92_t : za_MT 92 = some zm_92 := rfl
def zm_93 : za_MI := (yX2_readProduct, prog_4_method_11_code, 5, (some FieldType.boolean), 2, 0, 0, [], za_i93)
theorem zm_93_t : za_MT 93 = some zm_93 := rfl
theorem ys_kd_n {T : Nat → Int} {n p : Nat} (h : n ≤ p) : ys_kd T n p = 0 := by
  unfold ys_kd ys_ks ys_st
  rw [ys_run_n h, if_pos h]
theorem yQ3_tl {T : Nat → Int} {n q : Nat} {lv lv' : List Bool} (h : yQ3 T n lv.tail lv' q) (hb : lv.head? = some false) : false :: lv'.tail = lv := by
  obtain ⟨t, rfl, _⟩ := h
  match lv, hb with
  | b :: l, hb =>
    cases hb
    rfl

set_option maxRecDepth 8000 in
theorem yc_prodL {L : Nat} {σ : Nat → Int32} {T : Nat → Int} {n wa wr : Nat} {c l : Nat} (hP : yc_P L σ wr wa) (hE : yK L σ T n wa wr 94 1 (yQ0) none (c + 4) l) {lv : List Bool} {x : Int32} {p : Nat} {H0 : zp_H} (hl : lv.length = l + 1) (hb : ∀ b', none = some b' → lv.head? = some b') (hx : x.toInt = l) : ∀ (m : Nat) (H : zp_H) (lv9 : zp_LV) (i : Int32) (q : Nat) (lv' : List Bool), n - q = m → zp_get lv9 0 = some (.inr (.inr (some 54))) → zp_get lv9 1 = some (.inr (.inr (some wr))) → zp_get lv9 2 = some (.inl x) → zp_get lv9 3 = some (.inl i) → 0 ≤ i.toInt ∧ i.toInt ≤ q → yE T n q H → zk_Fr zg yx_m [wa] H0 H → (yQ0) lv lv' q → yR T n (1, lv, p) (0, lv', q) → p < q → zs_Safe L σ (yX T n (1, lv, p) wa (yQ1 T n lv) H0) zm_93 [] (c + 4) (13, lv9, [], H, (0, 0)) := by
  intro m
  induction m using Nat.strongRecOn with
  | ind m ih =>
    intro H lv9 i q lv' hm l0 l1 l2 l3 hi h hF hQ hR hpq
    have W := zB_Wd h.1.1
    have hn7 := h.1.2.1
    have hqn := h.2.2
    refine zw_ld (n := 1) (k := 3) (f := zp_isI) (pc' := 14) rfl rfl l3 rfl rfl ?_
    refine zw_s (pc' := 17) rfl rfl ?_
    refine zw_bge2 (g := 84) (pc' := 20) rfl rfl rfl rfl (rfl : _ = (700 : Int)) (fun h7 => ?_) (fun h7 => ?_)
    · have hk0 := ys_kd_n (T := T) (n := n) (p := q) (by omega)
      refine zw_s (pc' := 85) rfl rfl ?_
      refine zw_rz rfl rfl (by decide) ?_
      have hno : ¬ (ys_kd T n q = 4 ∧ (ys_vl T n q = 42 ∨ ys_vl T n q = 47)) := by
        omega
      exact yX_1 h hF hpq (show yQ1 T n lv lv' q from ⟨hQ, hno⟩) hR
    · refine zw_ld (n := 1) (k := 0) (f := zp_isR) (pc' := 21) rfl rfl l0 rfl rfl ?_
      refine zw_gR (q := 53) (pc' := 24) W rfl rfl rfl rfl (W.2 53 0 _ rfl) rfl ?_
      refine zw_s (pc' := 26) rfl rfl ?_
      by_cases ha : ys_kd T n q = 4 ∧ ys_vl T n q = 42
      · refine zw_c (pc' := 29) (zw_cv (q := 52) (Y := zm_86) W.1 rfl rfl zm_86_t rfl rfl) rfl rfl rfl rfl rfl (yc_sg1 (d := c + 3) rfl h ha) ?_
        refine zw_bne1 (g := 44) (pc' := 32) rfl rfl rfl (rfl : _ = (1 : Int)) (fun h9 => ?_) (fun h9 => absurd h9 (by decide))
        refine zw_ld (n := 1) (k := 0) (f := zp_isR) (pc' := 45) rfl rfl l0 rfl rfl ?_
        refine zw_gR (q := 53) (pc' := 48) W rfl rfl rfl rfl (W.2 53 0 _ rfl) rfl ?_
        refine zw_gI (q := 52) (pc' := 51) W rfl rfl rfl rfl rfl rfl ?_
        refine zw_st (n := 2) (k := 4) (f := zp_isI) (pc' := 53) rfl rfl rfl rfl rfl ?_
        refine zw_ld (n := 1) (k := 0) (f := zp_isR) (pc' := 54) rfl rfl (zw_gt l0 rfl rfl) rfl rfl ?_
        refine zw_gR (q := 53) (pc' := 57) W rfl rfl rfl rfl (W.2 53 0 _ rfl) rfl ?_
        have hN := (show yN T n (0, lv', q) = .inl (1, lv, ys_nx T n q) from by rw [show lv' = lv from hQ]; exact yN_md ha.1 (Or.inl ha.2))
        obtain ⟨H1, a1, a2, a3⟩ := yc_ad (L := L) (σ := σ) (d := c + 1) (wa := wa) h
        have W1 := zB_Wd a2.1.1
        have hadv := ys_adv (T := T) h.2.2 (by omega)
        refine zw_cn (pc' := 60) (zw_cv (q := 52) (Y := zm_55) W.1 rfl rfl zm_55_t rfl rfl) rfl rfl rfl rfl rfl (a1) ?_
        obtain ⟨X1, b1, b2⟩ := hE lv x _ H1 hl hb hx a2
        obtain ⟨v, H2, q2, rfl, e2, e3, e4⟩ := b2
        have W2 := zB_Wd e2.1.1
        refine zw_ld (n := 1) (k := 0) (f := zp_isR) (pc' := 61) rfl rfl (zw_gt l0 rfl rfl) rfl rfl ?_
        refine zw_ld (n := 1) (k := 1) (f := zp_isR) (pc' := 62) rfl rfl (zw_gt l1 rfl rfl) rfl rfl ?_
        refine zw_ld (n := 1) (k := 2) (f := zp_isI) (pc' := 63) rfl rfl (zw_gt l2 rfl rfl) rfl rfl ?_
        refine zw_c (pc' := 66) (zw_cv (q := 53) (Y := zm_94) W1.1 rfl rfl zm_94_t rfl rfl) rfl rfl rfl rfl rfl (b1) ?_
        refine zw_bne1 (g := 71) (pc' := 69) rfl rfl rfl rfl (fun hv => ?_) (fun hv => ?_)
        · rcases e4 with ⟨_, e5, lv2, e6, e7⟩ | ⟨e4, _⟩
          rotate_left
          · omega
          have e5 : ys_nx T n q < q2 := e5
          refine zw_ld (n := 1) (k := 0) (f := zp_isR) (pc' := 72) rfl rfl (zw_gt l0 rfl rfl) rfl rfl ?_
          refine zw_ld (n := 1) (k := 1) (f := zp_isR) (pc' := 73) rfl rfl (zw_gt l1 rfl rfl) rfl rfl ?_
          refine zw_ld (n := 2) (k := 4) (f := zp_isI) (pc' := 75) rfl rfl zw_g1 rfl rfl ?_
          obtain ⟨K, k1, k2, k3⟩ := yc_putD (d := c + 2) (x := H.2.1 52 5) hP e2
          have WK := zB_Wd k2.1.1
          refine zw_cn (pc' := 78) (zw_cv (q := 53) (Y := zm_96) W2.1 rfl rfl zm_96_t rfl rfl) rfl rfl rfl rfl rfl (k1) ?_
          refine zw_ii (pc' := 81) rfl (zw_gt l3 rfl rfl) rfl rfl ?_
          refine zw_s (pc' := 13) rfl rfl ?_
          have ei : (i + Int32.ofInt 1).toInt = i.toInt + 1 := zw_p1 (by omega)
          have q2n := e2.2.2
          exact ih (n - q2) (by omega) K _ _ q2 lv2 rfl (zw_gt (zw_gt l0 rfl rfl) rfl rfl) (zw_gt (zw_gt l1 rfl rfl) rfl rfl) (zw_gt (zw_gt l2 rfl rfl) rfl rfl) zw_g1 ⟨by omega, by omega⟩ k2 (zk_Fr_t hF (zk_Fr_t a3 (zk_Fr_t e3 k3))) e6 (yR_t hR (yR_t (yR_s hN) e7)) (by omega)
        · refine zw_s (pc' := 70) rfl rfl ?_
          refine zw_rz rfl rfl (by decide) ?_
          rcases e4 with ⟨e4, _⟩ | ⟨e4, r, e5, e6, e7, e8⟩
          · omega
          · exact yX_0 e2 (zk_Fr_t hF (zk_Fr_t a3 e3)) (hR _ (yA_step hN e5)) e6 e7 e8
      · refine zw_c (pc' := 29) (zw_cv (q := 52) (Y := zm_86) W.1 rfl rfl zm_86_t rfl rfl) rfl rfl rfl rfl rfl (yc_sg0 (d := c + 3) rfl h ha) ?_
        refine zw_bne1 (g := 44) (pc' := 32) rfl rfl rfl (rfl : _ = (0 : Int)) (fun h9 => absurd h9 (by decide)) (fun h9 => ?_)
        refine zw_ld (n := 1) (k := 0) (f := zp_isR) (pc' := 33) rfl rfl l0 rfl rfl ?_
        refine zw_gR (q := 53) (pc' := 36) W rfl rfl rfl rfl (W.2 53 0 _ rfl) rfl ?_
        refine zw_s (pc' := 38) rfl rfl ?_
        by_cases hb2 : ys_kd T n q = 4 ∧ ys_vl T n q = 47
        · refine zw_c (pc' := 41) (zw_cv (q := 52) (Y := zm_86) W.1 rfl rfl zm_86_t rfl rfl) rfl rfl rfl rfl rfl (yc_sg1 (d := c + 3) rfl h hb2) ?_
          refine zw_beq1 (g := 84) (pc' := 44) rfl rfl rfl (rfl : _ = (1 : Int)) (fun h9 => absurd h9 (by decide)) (fun h9 => ?_)
          refine zw_ld (n := 1) (k := 0) (f := zp_isR) (pc' := 45) rfl rfl l0 rfl rfl ?_
          refine zw_gR (q := 53) (pc' := 48) W rfl rfl rfl rfl (W.2 53 0 _ rfl) rfl ?_
          refine zw_gI (q := 52) (pc' := 51) W rfl rfl rfl rfl rfl rfl ?_
          refine zw_st (n := 2) (k := 4) (f := zp_isI) (pc' := 53) rfl rfl rfl rfl rfl ?_
          refine zw_ld (n := 1) (k := 0) (f := zp_isR) (pc' := 54) rfl rfl (zw_gt l0 rfl rfl) rfl rfl ?_
          refine zw_gR (q := 53) (pc' := 57) W rfl rfl rfl rfl (W.2 53 0 _ rfl) rfl ?_
          have hN := (show yN T n (0, lv', q) = .inl (1, lv, ys_nx T n q) from by rw [show lv' = lv from hQ]; exact yN_md hb2.1 (Or.inr hb2.2))
          obtain ⟨H1, a1, a2, a3⟩ := yc_ad (L := L) (σ := σ) (d := c + 1) (wa := wa) h
          have W1 := zB_Wd a2.1.1
          have hadv := ys_adv (T := T) h.2.2 (by omega)
          refine zw_cn (pc' := 60) (zw_cv (q := 52) (Y := zm_55) W.1 rfl rfl zm_55_t rfl rfl) rfl rfl rfl rfl rfl (a1) ?_
          obtain ⟨X1, b1, b2⟩ := hE lv x _ H1 hl hb hx a2
          obtain ⟨v, H2, q2, rfl, e2, e3, e4⟩ := b2
          have W2 := zB_Wd e2.1.1
          refine zw_ld (n := 1) (k := 0) (f := zp_isR) (pc' := 61) rfl rfl (zw_gt l0 rfl rfl) rfl rfl ?_
          refine zw_ld (n := 1) (k := 1) (f := zp_isR) (pc' := 62) rfl rfl (zw_gt l1 rfl rfl) rfl rfl ?_
          refine zw_ld (n := 1) (k := 2) (f := zp_isI) (pc' := 63) rfl rfl (zw_gt l2 rfl rfl) rfl rfl ?_
          refine zw_c (pc' := 66) (zw_cv (q := 53) (Y := zm_94) W1.1 rfl rfl zm_94_t rfl rfl) rfl rfl rfl rfl rfl (b1) ?_
          refine zw_bne1 (g := 71) (pc' := 69) rfl rfl rfl rfl (fun hv => ?_) (fun hv => ?_)
          · rcases e4 with ⟨_, e5, lv2, e6, e7⟩ | ⟨e4, _⟩
            rotate_left
            · omega
            have e5 : ys_nx T n q < q2 := e5
            refine zw_ld (n := 1) (k := 0) (f := zp_isR) (pc' := 72) rfl rfl (zw_gt l0 rfl rfl) rfl rfl ?_
            refine zw_ld (n := 1) (k := 1) (f := zp_isR) (pc' := 73) rfl rfl (zw_gt l1 rfl rfl) rfl rfl ?_
            refine zw_ld (n := 2) (k := 4) (f := zp_isI) (pc' := 75) rfl rfl zw_g1 rfl rfl ?_
            obtain ⟨K, k1, k2, k3⟩ := yc_putD (d := c + 2) (x := H.2.1 52 5) hP e2
            have WK := zB_Wd k2.1.1
            refine zw_cn (pc' := 78) (zw_cv (q := 53) (Y := zm_96) W2.1 rfl rfl zm_96_t rfl rfl) rfl rfl rfl rfl rfl (k1) ?_
            refine zw_ii (pc' := 81) rfl (zw_gt l3 rfl rfl) rfl rfl ?_
            refine zw_s (pc' := 13) rfl rfl ?_
            have ei : (i + Int32.ofInt 1).toInt = i.toInt + 1 := zw_p1 (by omega)
            have q2n := e2.2.2
            exact ih (n - q2) (by omega) K _ _ q2 lv2 rfl (zw_gt (zw_gt l0 rfl rfl) rfl rfl) (zw_gt (zw_gt l1 rfl rfl) rfl rfl) (zw_gt (zw_gt l2 rfl rfl) rfl rfl) zw_g1 ⟨by omega, by omega⟩ k2 (zk_Fr_t hF (zk_Fr_t a3 (zk_Fr_t e3 k3))) e6 (yR_t hR (yR_t (yR_s hN) e7)) (by omega)
          · refine zw_s (pc' := 70) rfl rfl ?_
            refine zw_rz rfl rfl (by decide) ?_
            rcases e4 with ⟨e4, _⟩ | ⟨e4, r, e5, e6, e7, e8⟩
            · omega
            · exact yX_0 e2 (zk_Fr_t hF (zk_Fr_t a3 e3)) (hR _ (yA_step hN e5)) e6 e7 e8
        · refine zw_c (pc' := 41) (zw_cv (q := 52) (Y := zm_86) W.1 rfl rfl zm_86_t rfl rfl) rfl rfl rfl rfl rfl (yc_sg0 (d := c + 3) rfl h hb2) ?_
          refine zw_beq1 (g := 84) (pc' := 44) rfl rfl rfl (rfl : _ = (0 : Int)) (fun h9 => ?_) (fun h9 => absurd h9 (by decide))
          refine zw_s (pc' := 85) rfl rfl ?_
          refine zw_rz rfl rfl (by decide) ?_
          have hno : ¬ (ys_kd T n q = 4 ∧ (ys_vl T n q = 42 ∨ ys_vl T n q = 47)) := by
            omega
          exact yX_1 h hF hpq (show yQ1 T n lv lv' q from ⟨hQ, hno⟩) hR

theorem yc_prod {L : Nat} {σ : Nat → Int32} {T : Nat → Int} {n wa wr : Nat} {c l : Nat} (hP : yc_P L σ wr wa) (hE : yK L σ T n wa wr 94 1 (yQ0) none (c + 4) l) : yK L σ T n wa wr 93 1 (yQ1 T n) none (c + 5) l := by
  intro lv x p H hl hb hx h
  have W := zB_Wd h.1.1
  obtain ⟨X1, b1, b2⟩ := hE lv x _ H hl hb hx h
  obtain ⟨v, H2, q2, rfl, e2, e3, e4⟩ := b2
  have W2 := zB_Wd e2.1.1
  refine zw_met zm_93_t rfl rfl ?_
  refine zw_ld (n := 1) (k := 0) (f := zp_isR) (pc' := 1) rfl rfl rfl rfl rfl ?_
  refine zw_ld (n := 1) (k := 1) (f := zp_isR) (pc' := 2) rfl rfl rfl rfl rfl ?_
  refine zw_ld (n := 1) (k := 2) (f := zp_isI) (pc' := 3) rfl rfl rfl rfl rfl ?_
  refine zw_c (pc' := 6) (zw_cv (q := 53) (Y := zm_94) W.1 rfl rfl zm_94_t rfl rfl) rfl rfl rfl rfl rfl (b1) ?_
  refine zw_bne1 (g := 11) (pc' := 9) rfl rfl rfl rfl (fun hv => ?_) (fun hv => ?_)
  · rcases e4 with ⟨_, e5, lv2, e6, e7⟩ | ⟨e4, _⟩
    rotate_left
    · omega
    refine zw_s (pc' := 12) rfl rfl ?_
    refine zw_st (n := 1) (k := 3) (f := zp_isI) (pc' := 13) rfl rfl rfl rfl rfl ?_
    exact yc_prodL hP hE hl hb hx _ H2 _ _ q2 lv2 rfl (zw_gt rfl rfl rfl) (zw_gt rfl rfl rfl) (zw_gt rfl rfl rfl) zw_g1 ⟨by decide, by show (0 : Int) ≤ _; omega⟩ e2 e3 e6 e7 e5
  · refine zw_s (pc' := 10) rfl rfl ?_
    refine zw_rz rfl rfl (by decide) ?_
    rcases e4 with ⟨e4, _⟩ | ⟨e4, r, e5, e6, e7, e8⟩
    · omega
    · exact yX_0 e2 e3 e5 e6 e7 e8

set_option maxRecDepth 8000 in
theorem yc_sumL {L : Nat} {σ : Nat → Int32} {T : Nat → Int} {n wa wr : Nat} {c l : Nat} (hP : yc_P L σ wr wa) (hE : yK L σ T n wa wr 93 1 (yQ1 T n) none (c + 4) l) {lv : List Bool} {x : Int32} {p : Nat} {H0 : zp_H} (hl : lv.length = l + 1) (hb : ∀ b', none = some b' → lv.head? = some b') (hx : x.toInt = l) : ∀ (m : Nat) (H : zp_H) (lv9 : zp_LV) (i : Int32) (q : Nat) (lv' : List Bool), n - q = m → zp_get lv9 0 = some (.inr (.inr (some 54))) → zp_get lv9 1 = some (.inr (.inr (some wr))) → zp_get lv9 2 = some (.inl x) → zp_get lv9 3 = some (.inl i) → 0 ≤ i.toInt ∧ i.toInt ≤ q → yE T n q H → zk_Fr zg yx_m [wa] H0 H → (yQ1 T n) lv lv' q → yR T n (1, lv, p) (0, lv', q) → p < q → zs_Safe L σ (yX T n (1, lv, p) wa (yQ2 T n lv) H0) zm_92 [] (c + 4) (13, lv9, [], H, (0, 0)) := by
  intro m
  induction m using Nat.strongRecOn with
  | ind m ih =>
    intro H lv9 i q lv' hm l0 l1 l2 l3 hi h hF hQ hR hpq
    have W := zB_Wd h.1.1
    have hn7 := h.1.2.1
    have hqn := h.2.2
    refine zw_ld (n := 1) (k := 3) (f := zp_isI) (pc' := 14) rfl rfl l3 rfl rfl ?_
    refine zw_s (pc' := 17) rfl rfl ?_
    refine zw_bge2 (g := 84) (pc' := 20) rfl rfl rfl rfl (rfl : _ = (700 : Int)) (fun h7 => ?_) (fun h7 => ?_)
    · have hk0 := ys_kd_n (T := T) (n := n) (p := q) (by omega)
      refine zw_s (pc' := 85) rfl rfl ?_
      refine zw_rz rfl rfl (by decide) ?_
      have hno : ¬ (ys_kd T n q = 4 ∧ (ys_vl T n q = 43 ∨ ys_vl T n q = 45)) := by
        omega
      exact yX_1 h hF hpq (show yQ2 T n lv lv' q from ⟨hQ, hno⟩) hR
    · refine zw_ld (n := 1) (k := 0) (f := zp_isR) (pc' := 21) rfl rfl l0 rfl rfl ?_
      refine zw_gR (q := 53) (pc' := 24) W rfl rfl rfl rfl (W.2 53 0 _ rfl) rfl ?_
      refine zw_s (pc' := 26) rfl rfl ?_
      by_cases ha : ys_kd T n q = 4 ∧ ys_vl T n q = 43
      · refine zw_c (pc' := 29) (zw_cv (q := 52) (Y := zm_86) W.1 rfl rfl zm_86_t rfl rfl) rfl rfl rfl rfl rfl (yc_sg1 (d := c + 3) rfl h ha) ?_
        refine zw_bne1 (g := 44) (pc' := 32) rfl rfl rfl (rfl : _ = (1 : Int)) (fun h9 => ?_) (fun h9 => absurd h9 (by decide))
        refine zw_ld (n := 1) (k := 0) (f := zp_isR) (pc' := 45) rfl rfl l0 rfl rfl ?_
        refine zw_gR (q := 53) (pc' := 48) W rfl rfl rfl rfl (W.2 53 0 _ rfl) rfl ?_
        refine zw_gI (q := 52) (pc' := 51) W rfl rfl rfl rfl rfl rfl ?_
        refine zw_st (n := 2) (k := 4) (f := zp_isI) (pc' := 53) rfl rfl rfl rfl rfl ?_
        refine zw_ld (n := 1) (k := 0) (f := zp_isR) (pc' := 54) rfl rfl (zw_gt l0 rfl rfl) rfl rfl ?_
        refine zw_gR (q := 53) (pc' := 57) W rfl rfl rfl rfl (W.2 53 0 _ rfl) rfl ?_
        have hN := (show yN T n (0, lv', q) = .inl (1, lv, ys_nx T n q) from by rw [show lv' = lv from hQ.1]; exact yN_pm ha.1 (Or.inl ha.2))
        obtain ⟨H1, a1, a2, a3⟩ := yc_ad (L := L) (σ := σ) (d := c + 1) (wa := wa) h
        have W1 := zB_Wd a2.1.1
        have hadv := ys_adv (T := T) h.2.2 (by omega)
        refine zw_cn (pc' := 60) (zw_cv (q := 52) (Y := zm_55) W.1 rfl rfl zm_55_t rfl rfl) rfl rfl rfl rfl rfl (a1) ?_
        obtain ⟨X1, b1, b2⟩ := hE lv x _ H1 hl hb hx a2
        obtain ⟨v, H2, q2, rfl, e2, e3, e4⟩ := b2
        have W2 := zB_Wd e2.1.1
        refine zw_ld (n := 1) (k := 0) (f := zp_isR) (pc' := 61) rfl rfl (zw_gt l0 rfl rfl) rfl rfl ?_
        refine zw_ld (n := 1) (k := 1) (f := zp_isR) (pc' := 62) rfl rfl (zw_gt l1 rfl rfl) rfl rfl ?_
        refine zw_ld (n := 1) (k := 2) (f := zp_isI) (pc' := 63) rfl rfl (zw_gt l2 rfl rfl) rfl rfl ?_
        refine zw_c (pc' := 66) (zw_cv (q := 53) (Y := zm_93) W1.1 rfl rfl zm_93_t rfl rfl) rfl rfl rfl rfl rfl (b1) ?_
        refine zw_bne1 (g := 71) (pc' := 69) rfl rfl rfl rfl (fun hv => ?_) (fun hv => ?_)
        · rcases e4 with ⟨_, e5, lv2, e6, e7⟩ | ⟨e4, _⟩
          rotate_left
          · omega
          have e5 : ys_nx T n q < q2 := e5
          refine zw_ld (n := 1) (k := 0) (f := zp_isR) (pc' := 72) rfl rfl (zw_gt l0 rfl rfl) rfl rfl ?_
          refine zw_ld (n := 1) (k := 1) (f := zp_isR) (pc' := 73) rfl rfl (zw_gt l1 rfl rfl) rfl rfl ?_
          refine zw_ld (n := 2) (k := 4) (f := zp_isI) (pc' := 75) rfl rfl zw_g1 rfl rfl ?_
          obtain ⟨K, k1, k2, k3⟩ := yc_putD (d := c + 2) (x := H.2.1 52 5) hP e2
          have WK := zB_Wd k2.1.1
          refine zw_cn (pc' := 78) (zw_cv (q := 53) (Y := zm_96) W2.1 rfl rfl zm_96_t rfl rfl) rfl rfl rfl rfl rfl (k1) ?_
          refine zw_ii (pc' := 81) rfl (zw_gt l3 rfl rfl) rfl rfl ?_
          refine zw_s (pc' := 13) rfl rfl ?_
          have ei : (i + Int32.ofInt 1).toInt = i.toInt + 1 := zw_p1 (by omega)
          have q2n := e2.2.2
          exact ih (n - q2) (by omega) K _ _ q2 lv2 rfl (zw_gt (zw_gt l0 rfl rfl) rfl rfl) (zw_gt (zw_gt l1 rfl rfl) rfl rfl) (zw_gt (zw_gt l2 rfl rfl) rfl rfl) zw_g1 ⟨by omega, by omega⟩ k2 (zk_Fr_t hF (zk_Fr_t a3 (zk_Fr_t e3 k3))) e6 (yR_t hR (yR_t (yR_s hN) e7)) (by omega)
        · refine zw_s (pc' := 70) rfl rfl ?_
          refine zw_rz rfl rfl (by decide) ?_
          rcases e4 with ⟨e4, _⟩ | ⟨e4, r, e5, e6, e7, e8⟩
          · omega
          · exact yX_0 e2 (zk_Fr_t hF (zk_Fr_t a3 e3)) (hR _ (yA_step hN e5)) e6 e7 e8
      · refine zw_c (pc' := 29) (zw_cv (q := 52) (Y := zm_86) W.1 rfl rfl zm_86_t rfl rfl) rfl rfl rfl rfl rfl (yc_sg0 (d := c + 3) rfl h ha) ?_
        refine zw_bne1 (g := 44) (pc' := 32) rfl rfl rfl (rfl : _ = (0 : Int)) (fun h9 => absurd h9 (by decide)) (fun h9 => ?_)
        refine zw_ld (n := 1) (k := 0) (f := zp_isR) (pc' := 33) rfl rfl l0 rfl rfl ?_
        refine zw_gR (q := 53) (pc' := 36) W rfl rfl rfl rfl (W.2 53 0 _ rfl) rfl ?_
        refine zw_s (pc' := 38) rfl rfl ?_
        by_cases hb2 : ys_kd T n q = 4 ∧ ys_vl T n q = 45
        · refine zw_c (pc' := 41) (zw_cv (q := 52) (Y := zm_86) W.1 rfl rfl zm_86_t rfl rfl) rfl rfl rfl rfl rfl (yc_sg1 (d := c + 3) rfl h hb2) ?_
          refine zw_beq1 (g := 84) (pc' := 44) rfl rfl rfl (rfl : _ = (1 : Int)) (fun h9 => absurd h9 (by decide)) (fun h9 => ?_)
          refine zw_ld (n := 1) (k := 0) (f := zp_isR) (pc' := 45) rfl rfl l0 rfl rfl ?_
          refine zw_gR (q := 53) (pc' := 48) W rfl rfl rfl rfl (W.2 53 0 _ rfl) rfl ?_
          refine zw_gI (q := 52) (pc' := 51) W rfl rfl rfl rfl rfl rfl ?_
          refine zw_st (n := 2) (k := 4) (f := zp_isI) (pc' := 53) rfl rfl rfl rfl rfl ?_
          refine zw_ld (n := 1) (k := 0) (f := zp_isR) (pc' := 54) rfl rfl (zw_gt l0 rfl rfl) rfl rfl ?_
          refine zw_gR (q := 53) (pc' := 57) W rfl rfl rfl rfl (W.2 53 0 _ rfl) rfl ?_
          have hN := (show yN T n (0, lv', q) = .inl (1, lv, ys_nx T n q) from by rw [show lv' = lv from hQ.1]; exact yN_pm hb2.1 (Or.inr hb2.2))
          obtain ⟨H1, a1, a2, a3⟩ := yc_ad (L := L) (σ := σ) (d := c + 1) (wa := wa) h
          have W1 := zB_Wd a2.1.1
          have hadv := ys_adv (T := T) h.2.2 (by omega)
          refine zw_cn (pc' := 60) (zw_cv (q := 52) (Y := zm_55) W.1 rfl rfl zm_55_t rfl rfl) rfl rfl rfl rfl rfl (a1) ?_
          obtain ⟨X1, b1, b2⟩ := hE lv x _ H1 hl hb hx a2
          obtain ⟨v, H2, q2, rfl, e2, e3, e4⟩ := b2
          have W2 := zB_Wd e2.1.1
          refine zw_ld (n := 1) (k := 0) (f := zp_isR) (pc' := 61) rfl rfl (zw_gt l0 rfl rfl) rfl rfl ?_
          refine zw_ld (n := 1) (k := 1) (f := zp_isR) (pc' := 62) rfl rfl (zw_gt l1 rfl rfl) rfl rfl ?_
          refine zw_ld (n := 1) (k := 2) (f := zp_isI) (pc' := 63) rfl rfl (zw_gt l2 rfl rfl) rfl rfl ?_
          refine zw_c (pc' := 66) (zw_cv (q := 53) (Y := zm_93) W1.1 rfl rfl zm_93_t rfl rfl) rfl rfl rfl rfl rfl (b1) ?_
          refine zw_bne1 (g := 71) (pc' := 69) rfl rfl rfl rfl (fun hv => ?_) (fun hv => ?_)
          · rcases e4 with ⟨_, e5, lv2, e6, e7⟩ | ⟨e4, _⟩
            rotate_left
            · omega
            have e5 : ys_nx T n q < q2 := e5
            refine zw_ld (n := 1) (k := 0) (f := zp_isR) (pc' := 72) rfl rfl (zw_gt l0 rfl rfl) rfl rfl ?_
            refine zw_ld (n := 1) (k := 1) (f := zp_isR) (pc' := 73) rfl rfl (zw_gt l1 rfl rfl) rfl rfl ?_
            refine zw_ld (n := 2) (k := 4) (f := zp_isI) (pc' := 75) rfl rfl zw_g1 rfl rfl ?_
            obtain ⟨K, k1, k2, k3⟩ := yc_putD (d := c + 2) (x := H.2.1 52 5) hP e2
            have WK := zB_Wd k2.1.1
            refine zw_cn (pc' := 78) (zw_cv (q := 53) (Y := zm_96) W2.1 rfl rfl zm_96_t rfl rfl) rfl rfl rfl rfl rfl (k1) ?_
            refine zw_ii (pc' := 81) rfl (zw_gt l3 rfl rfl) rfl rfl ?_
            refine zw_s (pc' := 13) rfl rfl ?_
            have ei : (i + Int32.ofInt 1).toInt = i.toInt + 1 := zw_p1 (by omega)
            have q2n := e2.2.2
            exact ih (n - q2) (by omega) K _ _ q2 lv2 rfl (zw_gt (zw_gt l0 rfl rfl) rfl rfl) (zw_gt (zw_gt l1 rfl rfl) rfl rfl) (zw_gt (zw_gt l2 rfl rfl) rfl rfl) zw_g1 ⟨by omega, by omega⟩ k2 (zk_Fr_t hF (zk_Fr_t a3 (zk_Fr_t e3 k3))) e6 (yR_t hR (yR_t (yR_s hN) e7)) (by omega)
          · refine zw_s (pc' := 70) rfl rfl ?_
            refine zw_rz rfl rfl (by decide) ?_
            rcases e4 with ⟨e4, _⟩ | ⟨e4, r, e5, e6, e7, e8⟩
            · omega
            · exact yX_0 e2 (zk_Fr_t hF (zk_Fr_t a3 e3)) (hR _ (yA_step hN e5)) e6 e7 e8
        · refine zw_c (pc' := 41) (zw_cv (q := 52) (Y := zm_86) W.1 rfl rfl zm_86_t rfl rfl) rfl rfl rfl rfl rfl (yc_sg0 (d := c + 3) rfl h hb2) ?_
          refine zw_beq1 (g := 84) (pc' := 44) rfl rfl rfl (rfl : _ = (0 : Int)) (fun h9 => ?_) (fun h9 => absurd h9 (by decide))
          refine zw_s (pc' := 85) rfl rfl ?_
          refine zw_rz rfl rfl (by decide) ?_
          have hno : ¬ (ys_kd T n q = 4 ∧ (ys_vl T n q = 43 ∨ ys_vl T n q = 45)) := by
            omega
          exact yX_1 h hF hpq (show yQ2 T n lv lv' q from ⟨hQ, hno⟩) hR

theorem yc_sum {L : Nat} {σ : Nat → Int32} {T : Nat → Int} {n wa wr : Nat} {c l : Nat} (hP : yc_P L σ wr wa) (hE : yK L σ T n wa wr 93 1 (yQ1 T n) none (c + 4) l) : yK L σ T n wa wr 92 1 (yQ2 T n) none (c + 5) l := by
  intro lv x p H hl hb hx h
  have W := zB_Wd h.1.1
  obtain ⟨X1, b1, b2⟩ := hE lv x _ H hl hb hx h
  obtain ⟨v, H2, q2, rfl, e2, e3, e4⟩ := b2
  have W2 := zB_Wd e2.1.1
  refine zw_met zm_92_t rfl rfl ?_
  refine zw_ld (n := 1) (k := 0) (f := zp_isR) (pc' := 1) rfl rfl rfl rfl rfl ?_
  refine zw_ld (n := 1) (k := 1) (f := zp_isR) (pc' := 2) rfl rfl rfl rfl rfl ?_
  refine zw_ld (n := 1) (k := 2) (f := zp_isI) (pc' := 3) rfl rfl rfl rfl rfl ?_
  refine zw_c (pc' := 6) (zw_cv (q := 53) (Y := zm_93) W.1 rfl rfl zm_93_t rfl rfl) rfl rfl rfl rfl rfl (b1) ?_
  refine zw_bne1 (g := 11) (pc' := 9) rfl rfl rfl rfl (fun hv => ?_) (fun hv => ?_)
  · rcases e4 with ⟨_, e5, lv2, e6, e7⟩ | ⟨e4, _⟩
    rotate_left
    · omega
    refine zw_s (pc' := 12) rfl rfl ?_
    refine zw_st (n := 1) (k := 3) (f := zp_isI) (pc' := 13) rfl rfl rfl rfl rfl ?_
    exact yc_sumL hP hE hl hb hx _ H2 _ _ q2 lv2 rfl (zw_gt rfl rfl rfl) (zw_gt rfl rfl rfl) (zw_gt rfl rfl rfl) zw_g1 ⟨by decide, by show (0 : Int) ≤ _; omega⟩ e2 e3 e6 e7 e5
  · refine zw_s (pc' := 10) rfl rfl ?_
    refine zw_rz rfl rfl (by decide) ?_
    rcases e4 with ⟨e4, _⟩ | ⟨e4, r, e5, e6, e7, e8⟩
    · omega
    · exact yX_0 e2 e3 e5 e6 e7 e8

set_option maxRecDepth 8000 in
theorem yc_test {L : Nat} {σ : Nat → Int32} {T : Nat → Int} {n wa wr : Nat} {c l : Nat} (hP : yc_P L σ wr wa) (hE : yK L σ T n wa wr 92 1 (yQ2 T n) none (c + 4) l) : yK L σ T n wa wr 91 1 (fun lv => yQ3 T n lv.tail) (some false) (c + 5) l := by
  intro lv x p H hl hb hx h
  have hlv : lv = false :: lv.tail := by
    match lv, hb false rfl with
    | b :: l, hb => cases hb; rfl
  have W := zB_Wd h.1.1
  obtain ⟨X1, b1, b2⟩ := hE lv x _ H hl (fun b' h9 => by cases h9) hx h
  obtain ⟨v, H2, q, rfl, e2, e3, e4⟩ := b2
  have W2 := zB_Wd e2.1.1
  refine zw_met zm_91_t rfl rfl ?_
  refine zw_ld (n := 1) (k := 0) (f := zp_isR) (pc' := 1) rfl rfl rfl rfl rfl ?_
  refine zw_ld (n := 1) (k := 1) (f := zp_isR) (pc' := 2) rfl rfl rfl rfl rfl ?_
  refine zw_ld (n := 1) (k := 2) (f := zp_isI) (pc' := 3) rfl rfl rfl rfl rfl ?_
  refine zw_c (pc' := 6) (zw_cv (q := 53) (Y := zm_92) W.1 rfl rfl zm_92_t rfl rfl) rfl rfl rfl rfl rfl (b1) ?_
  refine zw_bne1 (g := 11) (pc' := 9) rfl rfl rfl rfl (fun hv => ?_) (fun hv => ?_)
  · rcases e4 with ⟨_, e5, lv2, e6, e7⟩ | ⟨e4, _⟩
    rotate_left
    · omega
    have e5 : p < q := e5
    obtain rfl : lv2 = lv := e6.1.1
    refine zw_ld (n := 1) (k := 0) (f := zp_isR) (pc' := 12) rfl rfl rfl rfl rfl ?_
    refine zw_gR (q := 53) (pc' := 15) W2 rfl rfl rfl rfl (W2.2 53 0 _ rfl) rfl ?_
    refine zw_s (pc' := 17) rfl rfl ?_
    by_cases ha : ys_kd T n q = 4 ∧ ys_vl T n q = 60
    · refine zw_c (pc' := 20) (zw_cv (q := 52) (Y := zm_86) W2.1 rfl rfl zm_86_t rfl rfl) rfl rfl rfl rfl rfl (yc_sg1 (d := c + 3) rfl e2 ha) ?_
      refine zw_bne1 (g := 37) (pc' := 23) rfl rfl rfl (rfl : _ = (1 : Int)) (fun h9 => ?_) (fun h9 => absurd h9 (by decide))
      refine zw_ld (n := 1) (k := 0) (f := zp_isR) (pc' := 38) rfl rfl rfl rfl rfl ?_
      refine zw_gR (q := 53) (pc' := 41) W2 rfl rfl rfl rfl (W2.2 53 0 _ rfl) rfl ?_
      refine zw_gI (q := 52) (pc' := 44) W2 rfl rfl rfl rfl rfl rfl ?_
      refine zw_st (n := 1) (k := 3) (f := zp_isI) (pc' := 45) rfl rfl rfl rfl rfl ?_
      refine zw_ld (n := 1) (k := 0) (f := zp_isR) (pc' := 46) rfl rfl (zw_gt rfl rfl rfl) rfl rfl ?_
      refine zw_gR (q := 53) (pc' := 49) W2 rfl rfl rfl rfl (W2.2 53 0 _ rfl) rfl ?_
      have hN : yN T n (0, lv2, q) = .inl (1, true :: lv2.tail, ys_nx T n q) := by
        rw [hlv]
        exact yN_lt ha.1 (Or.inl ha.2)
      obtain ⟨H1, a1, a2, a3⟩ := yc_ad (L := L) (σ := σ) (d := c + 1) (wa := wa) e2
      have W1 := zB_Wd a2.1.1
      have hadv := ys_adv (T := T) e2.2.2 (by omega)
      refine zw_cn (pc' := 52) (zw_cv (q := 52) (Y := zm_55) W2.1 rfl rfl zm_55_t rfl rfl) rfl rfl rfl rfl rfl (a1) ?_
      obtain ⟨X1, d1, d2⟩ := hE (true :: lv2.tail) x _ H1 (by rw [← hl, hlv]; rfl) (fun b' h9 => by cases h9) hx a2
      obtain ⟨v2, H3, q3, rfl, g2, g3, g4⟩ := d2
      have W3 := zB_Wd g2.1.1
      refine zw_ld (n := 1) (k := 0) (f := zp_isR) (pc' := 53) rfl rfl (zw_gt rfl rfl rfl) rfl rfl ?_
      refine zw_ld (n := 1) (k := 1) (f := zp_isR) (pc' := 54) rfl rfl (zw_gt rfl rfl rfl) rfl rfl ?_
      refine zw_ld (n := 1) (k := 2) (f := zp_isI) (pc' := 55) rfl rfl (zw_gt rfl rfl rfl) rfl rfl ?_
      refine zw_c (pc' := 58) (zw_cv (q := 53) (Y := zm_92) W1.1 rfl rfl zm_92_t rfl rfl) rfl rfl rfl rfl rfl (d1) ?_
      refine zw_bne1 (g := 63) (pc' := 61) rfl rfl rfl rfl (fun hv2 => ?_) (fun hv2 => ?_)
      · rcases g4 with ⟨_, g5, lv3, g6, g7⟩ | ⟨g4, _⟩
        rotate_left
        · omega
        have g5 : ys_nx T n q < q3 := g5
        obtain rfl : lv3 = true :: lv2.tail := g6.1.1
        refine zw_ld (n := 1) (k := 0) (f := zp_isR) (pc' := 64) rfl rfl (zw_gt rfl rfl rfl) rfl rfl ?_
        refine zw_ld (n := 1) (k := 1) (f := zp_isR) (pc' := 65) rfl rfl (zw_gt rfl rfl rfl) rfl rfl ?_
        refine zw_ld (n := 1) (k := 3) (f := zp_isI) (pc' := 66) rfl rfl zw_g1 rfl rfl ?_
        obtain ⟨K, k1, k2, k3⟩ := yc_putD (d := c + 2) (x := H2.2.1 52 5) hP g2
        refine zw_cn (pc' := 69) (zw_cv (q := 53) (Y := zm_96) W3.1 rfl rfl zm_96_t rfl rfl) rfl rfl rfl rfl rfl (k1) ?_
        refine zw_s (pc' := 70) rfl rfl ?_
        refine zw_rz rfl rfl (by decide) ?_
        exact yX_1 k2 (zk_Fr_t e3 (zk_Fr_t a3 (zk_Fr_t g3 k3))) (by show p < q3; omega) (show yQ3 T n lv2.tail (true :: lv2.tail) q3 from ⟨true, rfl, g6, fun h9 => by cases h9⟩) (yR_t e7 (yR_t (yR_s hN) g7))
      · refine zw_s (pc' := 62) rfl rfl ?_
        refine zw_rz rfl rfl (by decide) ?_
        rcases g4 with ⟨g4, _⟩ | ⟨g4, r, g5, g6, g7, g8⟩
        · omega
        · exact yX_0 g2 (zk_Fr_t e3 (zk_Fr_t a3 g3)) (e7 _ (yA_step hN g5)) g6 g7 g8
    · refine zw_c (pc' := 20) (zw_cv (q := 52) (Y := zm_86) W2.1 rfl rfl zm_86_t rfl rfl) rfl rfl rfl rfl rfl (yc_sg0 (d := c + 3) rfl e2 ha) ?_
      refine zw_bne1 (g := 37) (pc' := 23) rfl rfl rfl (rfl : _ = (0 : Int)) (fun h9 => absurd h9 (by decide)) (fun h9 => ?_)
      refine zw_ld (n := 1) (k := 0) (f := zp_isR) (pc' := 24) rfl rfl rfl rfl rfl ?_
      refine zw_gR (q := 53) (pc' := 27) W2 rfl rfl rfl rfl (W2.2 53 0 _ rfl) rfl ?_
      refine zw_s (pc' := 29) rfl rfl ?_
      by_cases hb2 : ys_kd T n q = 4 ∧ ys_vl T n q = 61
      · refine zw_c (pc' := 32) (zw_cv (q := 52) (Y := zm_86) W2.1 rfl rfl zm_86_t rfl rfl) rfl rfl rfl rfl rfl (yc_sg1 (d := c + 3) rfl e2 hb2) ?_
        refine zw_bne1 (g := 37) (pc' := 35) rfl rfl rfl (rfl : _ = (1 : Int)) (fun h9 => ?_) (fun h9 => absurd h9 (by decide))
        refine zw_ld (n := 1) (k := 0) (f := zp_isR) (pc' := 38) rfl rfl rfl rfl rfl ?_
        refine zw_gR (q := 53) (pc' := 41) W2 rfl rfl rfl rfl (W2.2 53 0 _ rfl) rfl ?_
        refine zw_gI (q := 52) (pc' := 44) W2 rfl rfl rfl rfl rfl rfl ?_
        refine zw_st (n := 1) (k := 3) (f := zp_isI) (pc' := 45) rfl rfl rfl rfl rfl ?_
        refine zw_ld (n := 1) (k := 0) (f := zp_isR) (pc' := 46) rfl rfl (zw_gt rfl rfl rfl) rfl rfl ?_
        refine zw_gR (q := 53) (pc' := 49) W2 rfl rfl rfl rfl (W2.2 53 0 _ rfl) rfl ?_
        have hN : yN T n (0, lv2, q) = .inl (1, true :: lv2.tail, ys_nx T n q) := by
          rw [hlv]
          exact yN_lt hb2.1 (Or.inr hb2.2)
        obtain ⟨H1, a1, a2, a3⟩ := yc_ad (L := L) (σ := σ) (d := c + 1) (wa := wa) e2
        have W1 := zB_Wd a2.1.1
        have hadv := ys_adv (T := T) e2.2.2 (by omega)
        refine zw_cn (pc' := 52) (zw_cv (q := 52) (Y := zm_55) W2.1 rfl rfl zm_55_t rfl rfl) rfl rfl rfl rfl rfl (a1) ?_
        obtain ⟨X1, d1, d2⟩ := hE (true :: lv2.tail) x _ H1 (by rw [← hl, hlv]; rfl) (fun b' h9 => by cases h9) hx a2
        obtain ⟨v2, H3, q3, rfl, g2, g3, g4⟩ := d2
        have W3 := zB_Wd g2.1.1
        refine zw_ld (n := 1) (k := 0) (f := zp_isR) (pc' := 53) rfl rfl (zw_gt rfl rfl rfl) rfl rfl ?_
        refine zw_ld (n := 1) (k := 1) (f := zp_isR) (pc' := 54) rfl rfl (zw_gt rfl rfl rfl) rfl rfl ?_
        refine zw_ld (n := 1) (k := 2) (f := zp_isI) (pc' := 55) rfl rfl (zw_gt rfl rfl rfl) rfl rfl ?_
        refine zw_c (pc' := 58) (zw_cv (q := 53) (Y := zm_92) W1.1 rfl rfl zm_92_t rfl rfl) rfl rfl rfl rfl rfl (d1) ?_
        refine zw_bne1 (g := 63) (pc' := 61) rfl rfl rfl rfl (fun hv2 => ?_) (fun hv2 => ?_)
        · rcases g4 with ⟨_, g5, lv3, g6, g7⟩ | ⟨g4, _⟩
          rotate_left
          · omega
          have g5 : ys_nx T n q < q3 := g5
          obtain rfl : lv3 = true :: lv2.tail := g6.1.1
          refine zw_ld (n := 1) (k := 0) (f := zp_isR) (pc' := 64) rfl rfl (zw_gt rfl rfl rfl) rfl rfl ?_
          refine zw_ld (n := 1) (k := 1) (f := zp_isR) (pc' := 65) rfl rfl (zw_gt rfl rfl rfl) rfl rfl ?_
          refine zw_ld (n := 1) (k := 3) (f := zp_isI) (pc' := 66) rfl rfl zw_g1 rfl rfl ?_
          obtain ⟨K, k1, k2, k3⟩ := yc_putD (d := c + 2) (x := H2.2.1 52 5) hP g2
          refine zw_cn (pc' := 69) (zw_cv (q := 53) (Y := zm_96) W3.1 rfl rfl zm_96_t rfl rfl) rfl rfl rfl rfl rfl (k1) ?_
          refine zw_s (pc' := 70) rfl rfl ?_
          refine zw_rz rfl rfl (by decide) ?_
          exact yX_1 k2 (zk_Fr_t e3 (zk_Fr_t a3 (zk_Fr_t g3 k3))) (by show p < q3; omega) (show yQ3 T n lv2.tail (true :: lv2.tail) q3 from ⟨true, rfl, g6, fun h9 => by cases h9⟩) (yR_t e7 (yR_t (yR_s hN) g7))
        · refine zw_s (pc' := 62) rfl rfl ?_
          refine zw_rz rfl rfl (by decide) ?_
          rcases g4 with ⟨g4, _⟩ | ⟨g4, r, g5, g6, g7, g8⟩
          · omega
          · exact yX_0 g2 (zk_Fr_t e3 (zk_Fr_t a3 g3)) (e7 _ (yA_step hN g5)) g6 g7 g8
      · refine zw_c (pc' := 32) (zw_cv (q := 52) (Y := zm_86) W2.1 rfl rfl zm_86_t rfl rfl) rfl rfl rfl rfl rfl (yc_sg0 (d := c + 3) rfl e2 hb2) ?_
        refine zw_bne1 (g := 37) (pc' := 35) rfl rfl rfl (rfl : _ = (0 : Int)) (fun h9 => absurd h9 (by decide)) (fun h9 => ?_)
        refine zw_s (pc' := 36) rfl rfl ?_
        refine zw_rz rfl rfl (by decide) ?_
        refine yX_1 e2 e3 e5 (show yQ3 T n lv2.tail lv2 q from ⟨false, hlv, by rw [← hlv]; exact e6, fun _ => by omega⟩) e7
  · refine zw_s (pc' := 10) rfl rfl ?_
    refine zw_rz rfl rfl (by decide) ?_
    rcases e4 with ⟨e4, _⟩ | ⟨e4, r, e5, e6, e7, e8⟩
    · omega
    · exact yX_0 e2 e3 e5 e6 e7 e8
end
