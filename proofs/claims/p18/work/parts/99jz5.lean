/-! ===== rows of slates: which can be read, the first one ===== -/
/-- s can be read next when P are read -/
def tR (A : Nat → Bool) (B : Nat → Nat → Bool) (P : List Nat) (s : Nat) : Prop := A s = true ∨ ∃ t, t ∈ P ∧ B t s = true
/-- each of a row can be read, behind P -/
def tV (n : Nat) (A : Nat → Bool) (B : Nat → Nat → Bool) : List Nat → List Nat → Prop
  | _, [] => True
  | P, s :: r => s < n ∧ ¬ s ∈ P ∧ tR A B P s ∧ tV n A B (s :: P) r
/-- a row as a number -/
def tN : List Nat → Nat → Nat
  | [], a => a
  | s :: r, a => tN r (a * 16 + s)
section
variable {n : Nat} {A : Nat → Bool} {B : Nat → Nat → Bool}
theorem tR_m {P P' : List Nat} {s : Nat} (h : ∀ t, t ∈ P → t ∈ P') (h1 : tR A B P s) : tR A B P' s := h1.elim Or.inl (fun ⟨t, h2, h3⟩ => Or.inr ⟨t, h t h2, h3⟩)
theorem tV_p : ∀ {r P : List Nat}, tV n A B P r → ∀ s, s ∈ r → s < n ∧ ¬ s ∈ P
  | [], _, _, s, hs => absurd hs List.not_mem_nil
  | g :: r, P, h, s, hs => by
    rcases List.mem_cons.mp hs with h9 | h9
    · rw [h9]
      exact ⟨h.1, h.2.1⟩
    · have k := tV_p h.2.2.2 s h9
      exact ⟨k.1, fun h8 => k.2 (List.mem_cons_of_mem _ h8)⟩
theorem tV_m : ∀ {r P P' : List Nat}, (∀ t, t ∈ P → t ∈ P') → (∀ s, s ∈ r → ¬ s ∈ P') → tV n A B P r → tV n A B P' r
  | [], _, _, _, _, _ => trivial
  | g :: r, P, P', h, h1, h2 => by
    refine ⟨h2.1, h1 g List.mem_cons_self, tR_m h h2.2.2.1, tV_m (fun t ht => ?_) (fun s hs h9 => ?_) h2.2.2.2⟩
    · rcases List.mem_cons.mp ht with h9 | h9
      · rw [h9]
        exact List.mem_cons_self
      · exact List.mem_cons_of_mem _ (h t h9)
    · rcases List.mem_cons.mp h9 with h8 | h8
      · rw [h8] at hs
        exact (tV_p h2.2.2.2 g hs).2 List.mem_cons_self
      · exact h1 s (List.mem_cons_of_mem _ hs) h8
/-- a slate that can be read comes first -/
theorem tV_e : ∀ {r P : List Nat} {g : Nat}, tV n A B P r → g ∈ r → tR A B P g → tV n A B (g :: P) (r.erase g)
  | [], _, _, _, hg, _ => absurd hg List.not_mem_nil
  | s :: r, P, g, h, hg, hr => by
    by_cases h9 : s = g
    · rw [h9, List.erase_cons_head, ← h9]
      exact h.2.2.2
    · have hg' : g ∈ r := (List.mem_cons.mp hg).resolve_left (fun h8 => h9 h8.symm)
      rw [List.erase_cons_tail (by simpa using h9)]
      have ih := tV_e h.2.2.2 hg' (tR_m (fun t ht => List.mem_cons_of_mem _ ht) hr)
      have nd : ∀ t, t ∈ r.erase g → ¬ t ∈ g :: s :: P := fun t ht => (tV_p ih t ht).2
      refine ⟨h.1, fun h8 => ?_, tR_m (fun t ht => List.mem_cons_of_mem _ ht) h.2.2.1, tV_m (fun t ht => ?_) (fun t ht h8 => nd t ht ?_) ih⟩
      · rcases List.mem_cons.mp h8 with h7 | h7
        · exact h9 h7
        · exact h.2.1 h7
      · rcases List.mem_cons.mp ht with h7 | h7
        · rw [h7]
          exact List.mem_cons_of_mem _ List.mem_cons_self
        · rcases List.mem_cons.mp h7 with h6 | h6
          · rw [h6]
            exact List.mem_cons_self
          · exact List.mem_cons_of_mem _ (List.mem_cons_of_mem _ h6)
      · rcases List.mem_cons.mp h8 with h7 | h7
        · rw [h7]
          exact List.mem_cons_of_mem _ List.mem_cons_self
        · rcases List.mem_cons.mp h7 with h6 | h6
          · rw [h6]
            exact List.mem_cons_self
          · exact List.mem_cons_of_mem _ (List.mem_cons_of_mem _ h6)
theorem tV_nd : ∀ {r P : List Nat}, tV n A B P r → r.Nodup
  | [], _, _ => List.nodup_nil
  | g :: r, P, h => List.nodup_cons.mpr ⟨fun h9 => (tV_p h.2.2.2 g h9).2 List.mem_cons_self, tV_nd h.2.2.2⟩
/-- what is in a row without g -/
theorem t_er {r : List Nat} {g s : Nat} (h : r.Nodup) : s ∈ r.erase g ↔ (s ∈ r ∧ s ≠ g) := by
  rw [h.mem_erase_iff]
  exact ⟨fun h9 => ⟨h9.2, h9.1⟩, fun h9 => ⟨h9.2, h9.1⟩⟩
/-! numbers -/
theorem tN_lo : ∀ (r : List Nat) (a : Nat), a * 16 ^ r.length ≤ tN r a
  | [], a => by rw [List.length_nil, Nat.pow_zero, Nat.mul_one]; exact Nat.le_refl _
  | s :: r, a => by
    have h := tN_lo r (a * 16 + s)
    rw [List.length_cons, Nat.pow_succ]
    refine Nat.le_trans ?_ h
    rw [show a * (16 ^ r.length * 16) = (a * 16) * 16 ^ r.length by rw [Nat.mul_comm (16 ^ r.length) 16, Nat.mul_assoc]]
    exact Nat.mul_le_mul_right _ (Nat.le_add_right _ _)
theorem tN_hi : ∀ (r : List Nat) (a : Nat), (∀ s, s ∈ r → s < 16) → tN r a < (a + 1) * 16 ^ r.length
  | [], a, _ => by rw [List.length_nil, Nat.pow_zero, Nat.mul_one]; exact Nat.lt_succ_self _
  | s :: r, a, h => by
    have hs := h s List.mem_cons_self
    have h1 := tN_hi r (a * 16 + s) (fun t ht => h t (List.mem_cons_of_mem _ ht))
    rw [List.length_cons, Nat.pow_succ]
    refine Nat.lt_of_lt_of_le h1 ?_
    rw [show (a + 1) * (16 ^ r.length * 16) = ((a + 1) * 16) * 16 ^ r.length by rw [Nat.mul_comm (16 ^ r.length) 16, Nat.mul_assoc]]
    exact Nat.mul_le_mul_right _ (by omega)
theorem tN_inj : ∀ {r r' : List Nat} {a a' : Nat}, r.length = r'.length → (∀ s, s ∈ r → s < 16) → (∀ s, s ∈ r' → s < 16) → tN r a = tN r' a' → a = a' ∧ r = r'
  | [], [], _, _, _, _, _, h => ⟨h, rfl⟩
  | [], _ :: _, _, _, hl, _, _, _ => by cases hl
  | _ :: _, [], _, _, hl, _, _, _ => by cases hl
  | s :: r, s' :: r', a, a', hl, h1, h2, h => by
    obtain ⟨e1, e2⟩ := tN_inj (r := r) (r' := r') (a := a * 16 + s) (a' := a' * 16 + s') (Nat.succ.inj hl) (fun t ht => h1 t (List.mem_cons_of_mem _ ht)) (fun t ht => h2 t (List.mem_cons_of_mem _ ht)) h
    have b1 := h1 s List.mem_cons_self
    have b2 := h2 s' List.mem_cons_self
    have e3 : a = a' ∧ s = s' := by omega
    exact ⟨e3.1, by rw [e3.2, e2]⟩
theorem tN_app : ∀ (r : List Nat) (s a : Nat), tN (r ++ [s]) a = tN r a * 16 + s
  | [], _, _ => rfl
  | g :: r, s, a => tN_app r s (a * 16 + g)
theorem tN_a2 : ∀ (r q : List Nat) (a : Nat), tN (r ++ q) a = tN q (tN r a)
  | [], _, _ => rfl
  | g :: r, q, a => tN_a2 r q (a * 16 + g)
/-! the greedy row of a set -/
def tG (A : Nat → Bool) (B : Nat → Nat → Bool) : List Nat → (Nat → Bool) → List Nat → Prop
  | _, L, [] => ∀ s, L s = false
  | P, L, g :: r => L g = true ∧ tR A B P g ∧ (∀ s, s < g → L s = true → ¬ tR A B P s) ∧ tG A B (g :: P) (fun s => L s && decide (s ≠ g)) r
/-- there is none -/
def tF (A : Nat → Bool) (B : Nat → Nat → Bool) : List Nat → (Nat → Bool) → List Nat → Prop
  | P, L, [] => (∃ s, L s = true) ∧ ∀ s, L s = true → ¬ tR A B P s
  | P, L, g :: r => L g = true ∧ tR A B P g ∧ (∀ s, s < g → L s = true → ¬ tR A B P s) ∧ tF A B (g :: P) (fun s => L s && decide (s ≠ g)) r
theorem t_an {L : Nat → Bool} {g s : Nat} : (L s && decide (s ≠ g)) = true ↔ (L s = true ∧ s ≠ g) := by
  rw [Bool.and_eq_true]
  exact ⟨fun h => ⟨h.1, of_decide_eq_true h.2⟩, fun h => ⟨h.1, decide_eq_true h.2⟩⟩
theorem tG_mem : ∀ {r P : List Nat} {L : Nat → Bool}, tG A B P L r → ∀ s, s ∈ r ↔ L s = true
  | [], P, L, h, s => ⟨fun h9 => absurd h9 List.not_mem_nil, fun h9 => by rw [h s] at h9; cases h9⟩
  | g :: r, P, L, h, s => by
    have ih := tG_mem h.2.2.2 s
    rw [List.mem_cons, ih, t_an]
    by_cases h9 : s = g
    · rw [h9]
      exact ⟨fun _ => h.1, fun _ => Or.inl rfl⟩
    · exact ⟨fun h8 => h8.elim (fun h7 => absurd h7 h9) (fun h7 => h7.1), fun h8 => Or.inr ⟨h8, h9⟩⟩
theorem tG_V : ∀ {r P : List Nat} {L : Nat → Bool}, tG A B P L r → (∀ s, L s = true → s < n ∧ ¬ s ∈ P) → tV n A B P r
  | [], _, _, _, _ => trivial
  | g :: r, P, L, h, h1 => by
    refine ⟨(h1 g h.1).1, (h1 g h.1).2, h.2.1, tG_V h.2.2.2 (fun s hs => ?_)⟩
    obtain ⟨a, b⟩ := t_an.mp hs
    refine ⟨(h1 s a).1, fun h9 => ?_⟩
    rcases List.mem_cons.mp h9 with h8 | h8
    · exact b h8
    · exact (h1 s a).2 h8
/-- where a valid row of the set is, there is a greedy one -/
theorem tF_no : ∀ {r P r0 : List Nat} {L : Nat → Bool}, tV n A B P r0 → (∀ s, s ∈ r0 ↔ L s = true) → ¬ tF A B P L r
  | [], P, r0, L, hv, hm, h => by
    obtain ⟨⟨s, hs⟩, h2⟩ := h
    match r0, hv, hm with
    | [], _, hm => exact absurd ((hm s).mpr hs) List.not_mem_nil
    | g :: r0, hv, hm => exact h2 g ((hm g).mp List.mem_cons_self) hv.2.2.1
  | g :: r, P, r0, L, hv, hm, h => by
    have hg : g ∈ r0 := (hm g).mpr h.1
    refine tF_no (tV_e hv hg h.2.1) (fun s => ?_) h.2.2.2
    rw [t_er (tV_nd hv), t_an, hm s]
/-- and it is the first one -/
theorem tG_le : ∀ {r P r0 : List Nat} {L : Nat → Bool} {a : Nat}, n ≤ 16 → tV n A B P r0 → (∀ s, s ∈ r0 ↔ L s = true) → tG A B P L r → (∀ s, L s = true → s < n ∧ ¬ s ∈ P) → r.length = r0.length ∧ tN r a ≤ tN r0 a
  | [], P, r0, L, a, _, hv, hm, h, _ => by
    match r0, hm with
    | [], _ => exact ⟨rfl, Nat.le_refl _⟩
    | g :: r0, hm => exact absurd ((hm g).mp List.mem_cons_self) (by rw [h g]; decide)
  | g :: r, P, r0, L, a, hn, hv, hm, h, hL => by
    have hg : g ∈ r0 := (hm g).mpr h.1
    have nd := tV_nd hv
    have he := tV_e hv hg h.2.1
    have hme : ∀ s, s ∈ r0.erase g ↔ (L s && decide (s ≠ g)) = true := fun s => by rw [t_er nd, t_an, hm s]
    have hL' : ∀ s, (L s && decide (s ≠ g)) = true → s < n ∧ ¬ s ∈ g :: P := fun s hs => by
      obtain ⟨b, c⟩ := t_an.mp hs
      refine ⟨(hL s b).1, fun h9 => ?_⟩
      rcases List.mem_cons.mp h9 with h8 | h8
      · exact c h8
      · exact (hL s b).2 h8
    have ih := tG_le (a := a * 16 + g) hn he hme h.2.2.2 hL'
    have hlen : r.length + 1 = r0.length := by
      have e := List.length_erase_of_mem hg
      have p := List.length_pos_of_mem hg
      omega
    refine ⟨hlen, ?_⟩
    match r0, hv, hm, hg, he, ih, hlen with
    | q :: r0', hv, hm, hg, he, ih, hlen =>
      have hq : L q = true := (hm q).mp List.mem_cons_self
      have hle : g ≤ q := Nat.le_of_not_lt (fun h9 => h.2.2.1 q h9 hq hv.2.2.1)
      show tN r (a * 16 + g) ≤ tN r0' (a * 16 + q)
      by_cases h9 : q = g
      · have e : (q :: r0').erase g = r0' := by rw [h9]; exact List.erase_cons_head ..
        rw [e] at ih
        rw [h9]
        exact ih.2
      · have hr : ∀ s, s ∈ r → s < 16 := fun s hs => by
          have := (hL' s ((tG_mem h.2.2.2 s).mp hs)).1
          omega
        have k1 := tN_hi r (a * 16 + g) hr
        have k2 := tN_lo r0' (a * 16 + q)
        have hl : r.length = r0'.length := Nat.succ.inj hlen
        rw [hl] at k1
        have k3 : (a * 16 + g + 1) * 16 ^ r0'.length ≤ (a * 16 + q) * 16 ^ r0'.length := Nat.mul_le_mul_right _ (by omega)
        omega
end
/-! the first row of m slates that is good -/
def tOk (n : Nat) (A : Nat → Bool) (B : Nat → Nat → Bool) (T : (Nat → Bool) → Prop) (m : Nat) (r : List Nat) : Prop := r.length = m ∧ tV n A B [] r ∧ T (fun s => decide (s ∈ r))
def tFi (n : Nat) (A : Nat → Bool) (B : Nat → Nat → Bool) (T : (Nat → Bool) → Prop) (m : Nat) (r : List Nat) : Prop := tOk n A B T m r ∧ ∀ r', tOk n A B T m r' → tN r 0 ≤ tN r' 0
theorem tFi_u {n : Nat} {A : Nat → Bool} {B : Nat → Nat → Bool} {T : (Nat → Bool) → Prop} {m : Nat} {r r' : List Nat} (hn : n ≤ 16) (h : tFi n A B T m r) (h' : tFi n A B T m r') : r = r' := by
  have e : tN r 0 = tN r' 0 := Nat.le_antisymm (h.2 r' h'.1) (h'.2 r h.1)
  exact (tN_inj (h.1.1.trans h'.1.1.symm) (fun s hs => by have := (tV_p h.1.2.1 s hs).1; omega) (fun s hs => by have := (tV_p h'.1.2.1 s hs).1; omega) e).2
/-- from a set that is good to the first row -/
theorem tOk_G {n : Nat} {A : Nat → Bool} {B : Nat → Nat → Bool} {T : (Nat → Bool) → Prop} {m : Nat} {r : List Nat} {L : Nat → Bool} (hL : ∀ s, L s = true → s < n) (h : tG A B [] L r) (hm : r.length = m) (hT : T L) : tOk n A B T m r := by
  have e : (fun s => decide (s ∈ r)) = L := funext fun s => by
    cases hs : L s with
    | true => exact decide_eq_true ((tG_mem h s).mpr hs)
    | false => exact decide_eq_false (fun h9 => by rw [(tG_mem h s).mp h9] at hs; cases hs)
  exact ⟨hm, tG_V h (fun s hs => ⟨hL s hs, List.not_mem_nil⟩), by rw [e]; exact hT⟩
