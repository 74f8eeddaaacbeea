/-! ===== the abstract executor: values, facts ===== -/
/-- (0, c): the number c; (j + 1, c): the j-th unknown and c -/
abbrev zk_I : Type := Nat × Int
/-- a number; none: a long; some r: a reference -/
abbrev zk_V : Type := zk_I ⊕ Option (Option Nat)
/-- least, most, isn't 0, what divides it -/
abbrev zk_E : Type := Int × Int × Bool × Nat
/-- how many unknowns; their ranges; fields (place, slot, written, value); array places; sums -/
abbrev zk_A : Type := Nat × List (Nat × zk_E) × List (Nat × Nat × Bool × zk_I) × List (Nat × zk_I × zk_I) × List (Nat × zk_I × zk_I × zk_I)
/-- shape, references, fields' ranges, arrays' ranges (modulus, ranges), conditions, what the ghost reads -/
abbrev zk_B : Type := List zp_K × (Nat → Nat → Option (Option Nat)) × (Nat → Nat → Option (Int × Int)) × (Nat → Nat × List (Int × Int)) × List (Nat × Nat × Int × Nat × Int × Int) × (Nat → Nat → Bool)
def zk_ev (τ : Nat → Int) (a : zk_I) : Int := match a.1 with
  | 0 => a.2
  | j + 1 => τ j + a.2
def zk_ok (t : Int) (e : zk_E) : Prop := e.1 ≤ t ∧ t ≤ e.2.1 ∧ (e.2.2.1 = true → t ≠ 0) ∧ ((e.2.2.2 : Int) ∣ t)
def zk_mo (τ : Nat → Int) (q : Nat × zk_I × zk_I × zk_I) : Prop := match q.1 with
  | 0 => zk_ev τ q.2.2.2 = zk_ev τ q.2.1 + zk_ev τ q.2.2.1 ∧ -2147483648 ≤ zk_ev τ q.2.2.2 ∧ zk_ev τ q.2.2.2 ≤ 2147483647
  | 1 => zk_ev τ q.2.2.2 = zk_ev τ q.2.1 - zk_ev τ q.2.2.1 ∧ -2147483648 ≤ zk_ev τ q.2.2.2 ∧ zk_ev τ q.2.2.2 ≤ 2147483647
  | 2 => zk_ev τ q.2.2.2 = (Int32.ofInt (zk_ev τ q.2.1) &&& Int32.ofInt (zk_ev τ q.2.2.1)).toInt
  | _ => zk_ev τ q.2.2.1 ≤ zk_ev τ q.2.1
/-- a field's number, or the ghost's -/
def zk_fv (gh : zp_H → Int) (H : zp_H) (p k : Nat) : Int := if p = 72 ∧ k = 100 then gh H else (H.2.1 p k).toInt
def zk_in (x : Int) (r : Int × Int) : Prop := r.1 ≤ x ∧ x ≤ r.2
/-- the numbers' part -/
def zk_N (τ : Nat → Int) (A : zk_A) : Prop := (∀ q ∈ A.2.1, q.1 < A.1 ∧ zk_ok (τ q.1) q.2) ∧ (∀ q ∈ A.2.2.2.2, q.2.1.1 ≤ A.1 ∧ q.2.2.1.1 ≤ A.1 ∧ q.2.2.2.1 ≤ A.1 ∧ zk_mo τ q)
/-- the heap's part -/
def zk_Hp (B : zk_B) (gh : zp_H → Int) (J : zp_H → Prop) (τ : Nat → Int) (A : zk_A) (H : zp_H) : Prop :=
  H.1 = B.1 ∧ (∀ p k r, B.2.1 p k = some r → H.2.2.2 p k = r) ∧
  (∀ q ∈ A.2.2.1, q.2.2.2.1 ≤ A.1 ∧ zk_fv gh H q.1 q.2.1 = zk_ev τ q.2.2.2) ∧
  (∀ q ∈ A.2.2.2.1, q.2.1.1 ≤ A.1 ∧ q.2.2.1 ≤ A.1 ∧ 0 ≤ zk_ev τ q.2.1 ∧ (H.2.1 q.1 (zk_ev τ q.2.1).toNat).toInt = zk_ev τ q.2.2) ∧
  (∀ p k r, B.2.2.1 p k = some r → (∃ q ∈ A.2.2.1, q.1 = p ∧ q.2.1 = k) ∨ zk_in (zk_fv gh H p k) r) ∧
  (∀ (p t n i : Nat) (r : Int × Int), B.1[p]? = some (.inr (t, n)) → i < n → (B.2.2.2.1 p).2[i % (B.2.2.2.1 p).1]? = some r → zk_in (H.2.1 p i).toInt r) ∧
  (∀ c ∈ B.2.2.2.2.1, (∃ q ∈ A.2.2.1, q.1 = c.1 ∧ (q.2.1 = c.2.1 ∨ q.2.1 = c.2.2.2.1) ∧ q.2.2.1 = true) ∨ (zk_fv gh H c.1 c.2.1 = c.2.2.1 → zk_in (zk_fv gh H c.1 c.2.2.2.1) c.2.2.2.2)) ∧
  J H
def zk_gV (τ : Nat → Int) (n : Nat) (a : zk_V) (v : zp_V) : Prop := match a, v with
  | .inl i, .inl x => i.1 ≤ n ∧ x.toInt = zk_ev τ i
  | .inr none, .inr (.inl _) => True
  | .inr (some r), .inr (.inr r') => r' = r
  | _, _ => False
def zk_gP (τ : Nat → Int) (n : Nat) (a : Nat × zk_V) (v : Nat × zp_V) : Prop := a.1 = v.1 ∧ zk_gV τ n a.2 v.2
def zk_ext (n : Nat) (τ τ' : Nat → Int) : Prop := ∀ j, j < n → τ' j = τ j
theorem zk_ext_r {n : Nat} (τ : Nat → Int) : zk_ext n τ τ := fun _ _ => rfl
theorem zk_ext_t {n n' : Nat} {τ τ' τ'' : Nat → Int} (hn : n ≤ n') (h1 : zk_ext n τ τ') (h2 : zk_ext n' τ' τ'') : zk_ext n τ τ'' := fun j hj => (h2 j (Nat.lt_of_lt_of_le hj hn)).trans (h1 j hj)
theorem zk_ev_x {n : Nat} {τ τ' : Nat → Int} {a : zk_I} (ha : a.1 ≤ n) (h : zk_ext n τ τ') : zk_ev τ' a = zk_ev τ a := by
  obtain ⟨k, c⟩ := a
  cases k with
  | zero => rfl
  | succ j =>
    show τ' j + c = τ j + c
    rw [h j ha]
theorem zk_gV_x {n n' : Nat} {τ τ' : Nat → Int} (hn : n ≤ n') (h : zk_ext n τ τ') {a : zk_V} {v : zp_V} (hv : zk_gV τ n a v) : zk_gV τ' n' a v := by
  match a, v, hv with
  | .inl i, .inl x, hv => exact ⟨Nat.le_trans hv.1 hn, by rw [zk_ev_x hv.1 h]; exact hv.2⟩
  | .inr none, .inr (.inl _), _ => trivial
  | .inr (some r), .inr (.inr r'), hv => exact hv
theorem zk_mo_x {n : Nat} {τ τ' : Nat → Int} (h : zk_ext n τ τ') {q : Nat × zk_I × zk_I × zk_I} (h1 : q.2.1.1 ≤ n) (h2 : q.2.2.1.1 ≤ n) (h3 : q.2.2.2.1 ≤ n) (hq : zk_mo τ q) : zk_mo τ' q := by
  unfold zk_mo at hq ⊢
  rw [zk_ev_x h1 h, zk_ev_x h2 h, zk_ev_x h3 h]
  exact hq
theorem zk_N_x {τ τ' : Nat → Int} {A : zk_A} (h : zk_ext A.1 τ τ') (hN : zk_N τ A) : zk_N τ' A :=
  ⟨fun q hq => ⟨(hN.1 q hq).1, by rw [h _ (hN.1 q hq).1]; exact (hN.1 q hq).2⟩, fun q hq => by
    obtain ⟨h1, h2, h3, h4⟩ := hN.2 q hq
    exact ⟨h1, h2, h3, zk_mo_x h h1 h2 h3 h4⟩⟩
/-! a new unknown -/
def zk_up (τ : Nat → Int) (n : Nat) (z : Int) : Nat → Int := fun j => if j = n then z else τ j
theorem zk_up_x (τ : Nat → Int) (n : Nat) (z : Int) : zk_ext n τ (zk_up τ n z) := fun j hj => by
  unfold zk_up
  rw [if_neg (Nat.ne_of_lt hj)]
def zk_new (A : zk_A) (e : zk_E) : zk_A := (A.1 + 1, (A.1, e) :: A.2.1, A.2.2)
theorem zk_new_N {τ : Nat → Int} {A : zk_A} {e : zk_E} {z : Int} (hN : zk_N τ A) (hz : zk_ok z e) : zk_N (zk_up τ A.1 z) (zk_new A e) := by
  have h9 := zk_N_x (zk_up_x τ A.1 z) hN
  refine ⟨fun q hq => ?_, fun q hq => ?_⟩
  · rcases List.mem_cons.mp hq with rfl | hq
    · exact ⟨Nat.lt_succ_self _, by unfold zk_up; rw [if_pos rfl]; exact hz⟩
    · exact ⟨Nat.lt_succ_of_lt (h9.1 q hq).1, (h9.1 q hq).2⟩
  · obtain ⟨h1, h2, h3, h4⟩ := h9.2 q hq
    exact ⟨Nat.le_succ_of_le h1, Nat.le_succ_of_le h2, Nat.le_succ_of_le h3, h4⟩
section KA
variable {B : zk_B} {gh : zp_H → Int} {J : zp_H → Prop} {τ τ' : Nat → Int} {A A' : zk_A} {H : zp_H}
/-- the heap's part looks at fields and array places alone -/
theorem zk_Hp_x (hn : A.1 ≤ A'.1) (ho : A'.2.2.1 = A.2.2.1) (ha : A'.2.2.2.1 = A.2.2.2.1) (h : zk_ext A.1 τ τ') (hH : zk_Hp B gh J τ A H) : zk_Hp B gh J τ' A' H := by
  obtain ⟨h1, h2, h3, h4, h5, h6, h7, h8⟩ := hH
  refine ⟨h1, h2, ?_, ?_, ?_, h6, ?_, h8⟩
  · rw [ho]
    intro q hq
    obtain ⟨g1, g2⟩ := h3 q hq
    exact ⟨Nat.le_trans g1 hn, by rw [zk_ev_x g1 h]; exact g2⟩
  · rw [ha]
    intro q hq
    obtain ⟨g1, g2, g3, g4⟩ := h4 q hq
    exact ⟨Nat.le_trans g1 hn, Nat.le_trans g2 hn, by rw [zk_ev_x g1 h]; exact g3, by rw [zk_ev_x g1 h, zk_ev_x g2 h]; exact g4⟩
  · rw [ho]; exact h5
  · rw [ho]; exact h7
end KA
/-! ranges -/
def zk_lk : List (Nat × zk_E) → Nat → Option zk_E
  | [], _ => none
  | q :: l, j => bif Nat.beq q.1 j then some q.2 else zk_lk l j
theorem zk_lk_m : ∀ {l : List (Nat × zk_E)} {j : Nat} {e : zk_E}, zk_lk l j = some e → (j, e) ∈ l
  | [], _, _, h => by cases h
  | q :: l, j, e, h => by
    unfold zk_lk at h
    cases hb : Nat.beq q.1 j with
    | true =>
      rw [hb] at h
      have e1 := za_beq hb
      cases h
      rw [← e1]
      exact List.mem_cons_self
    | false =>
      rw [hb] at h
      exact List.mem_cons_of_mem _ (zk_lk_m h)
def zk_rg (A : zk_A) (a : zk_I) : Option (Int × Int) := match a.1 with
  | 0 => some (a.2, a.2)
  | j + 1 => match zk_lk A.2.1 j with
    | some e => some (e.1 + a.2, e.2.1 + a.2)
    | none => none
theorem zk_rg_ok {τ : Nat → Int} {A : zk_A} {a : zk_I} {r : Int × Int} (hN : zk_N τ A) (h : zk_rg A a = some r) : zk_in (zk_ev τ a) r := by
  obtain ⟨k, c⟩ := a
  unfold zk_rg at h
  cases k with
  | zero =>
    cases h
    exact ⟨Int.le_refl _, Int.le_refl _⟩
  | succ j =>
    dsimp only at h
    split at h
    · rename_i e he
      cases h
      obtain ⟨-, g1, g2, -⟩ := hN.1 _ (zk_lk_m he)
      have g1 : e.1 ≤ τ j := g1
      have g2 : τ j ≤ e.2.1 := g2
      show e.1 + c ≤ τ j + c ∧ τ j + c ≤ e.2.1 + c
      omega
    · cases h
/-- what divides it -/
def zk_md (A : zk_A) (a : zk_I) : Nat := match a.1 with
  | 0 => a.2.natAbs
  | j + 1 => match zk_lk A.2.1 j with
    | some e => Nat.gcd e.2.2.2 a.2.natAbs
    | none => 1
theorem zk_md_ok {τ : Nat → Int} {A : zk_A} {a : zk_I} (hN : zk_N τ A) : ((zk_md A a : Nat) : Int) ∣ zk_ev τ a := by
  obtain ⟨k, c⟩ := a
  unfold zk_md
  cases k with
  | zero => exact Int.natAbs_dvd.mpr (Int.dvd_refl _)
  | succ j =>
    dsimp only
    split
    · rename_i e he
      obtain ⟨-, -, -, -, g4⟩ := hN.1 _ (zk_lk_m he)
      have h1 : ((Nat.gcd e.2.2.2 c.natAbs : Nat) : Int) ∣ τ j := Int.dvd_trans (Int.natCast_dvd_natCast.mpr (Nat.gcd_dvd_left _ _)) g4
      have h2 : ((Nat.gcd e.2.2.2 c.natAbs : Nat) : Int) ∣ c := Int.dvd_trans (Int.natCast_dvd_natCast.mpr (Nat.gcd_dvd_right _ _)) (Int.natAbs_dvd.mpr (Int.dvd_refl _))
      exact Int.dvd_add h1 h2
    · exact Int.one_dvd _
/-- a new unknown, or a number if it can be but one -/
def zk_fresh (A : zk_A) (lo hi : Int) (md : Nat) : zk_A × zk_I := bif za_ieq lo hi then (A, (0, lo)) else (zk_new A (lo, hi, false, md), (A.1 + 1, 0))
