/-! ===== the rows of all rules ===== -/
def xRow (T : Nat → Int) (n p : Nat) (C : List xIt) : Prop := ∃ q, yTA T n (2, [false], p) [] [] (q, C)
theorem xRow_u {T : Nat → Int} {n p : Nat} {C D : List xIt} (h : xRow T n p C) (h' : xRow T n p D) : C = D := by
  obtain ⟨q, h⟩ := h
  obtain ⟨q', h'⟩ := h'
  exact congrArg Prod.snd (yTA_u h h')
/-- P holds of each rule and the place where it begins: places are digits, the last rule's the lowest -/
def xRs (P : Nat → Nat → Prop) : Nat → Int → Prop
  | 0, _ => True
  | r + 1, D => P r (D % 1024).toNat ∧ xRs P r (D / 1024)
theorem xRs_0 {P : Nat → Nat → Prop} {R : Nat} {D : Int} (h : R = 0) : xRs P R D := by
  subst h
  trivial
theorem xRs_m {P Q : Nat → Nat → Prop} : ∀ {R : Nat} {D : Int}, (∀ r p, r < R → P r p → Q r p) → xRs P R D → xRs Q R D
  | 0, _, _, _ => trivial
  | R + 1, _, h, h1 => ⟨h R _ (by omega) h1.1, xRs_m (fun r p hr => h r p (by omega)) h1.2⟩
theorem xRs_s {P : Nat → Nat → Prop} {R p : Nat} {D : Int} (hp : p < 1024) (h1 : P R p) (h : xRs P R D) : xRs P (R + 1) (D * 1024 + (p : Int)) := by
  have e1 : ((D * 1024 + (p : Int)) % 1024).toNat = p := by omega
  have e2 : (D * 1024 + (p : Int)) / 1024 = D := by omega
  show P R ((D * 1024 + (p : Int)) % 1024).toNat ∧ xRs P R ((D * 1024 + (p : Int)) / 1024)
  rw [e1, e2]
  exact ⟨h1, h⟩
theorem xRs_2 {P Q : Nat → Nat → Prop} : ∀ {R : Nat} {D : Int}, xRs P R D → xRs Q R D → ∀ r, r < R → ∃ p, P r p ∧ Q r p
  | 0, _, _, _, r, hr => absurd hr (Nat.not_lt_zero _)
  | R + 1, D, h, h', r, hr => by
    by_cases h9 : r = R
    · rw [h9]
      exact ⟨_, h.1, h'.1⟩
    · exact xRs_2 h.2 h'.2 r (by omega)
/-- where the class's row r begins -/
def xBg (wp : Nat) (H : zp_H) (r : Nat) : Int := if r = 0 then 0 else (H.2.1 (wp + 9) (r - 1)).toInt
theorem xBg_e {wp r : Nat} {H H1 : zp_H} (h : ∀ k, k < r → H1.2.1 (wp + 9) k = H.2.1 (wp + 9) k) : xBg wp H1 r = xBg wp H r := by
  unfold xBg
  by_cases h0 : r = 0
  · rw [if_pos h0, if_pos h0]
  · rw [if_neg h0, if_neg h0, h _ (by omega)]
theorem xBg_s {wp r : Nat} {H : zp_H} : xBg wp H (r + 1) = (H.2.1 (wp + 9) r).toInt := if_neg (Nat.succ_ne_zero r)
/-- the class holds the row C for rule r -/
def xCl (wp : Nat) (H : zp_H) (r : Nat) (C : List xIt) : Prop := 0 ≤ xBg wp H r ∧ (H.2.1 (wp + 9) r).toInt = xBg wp H r + (C.length : Int) ∧ ∀ j i, C[j]? = some i → (H.2.1 (wp + 10) ((xBg wp H r).toNat + j)).toInt = xE2 i
theorem xCl_e {wp r : Nat} {C : List xIt} {H H1 : zp_H} (h9 : ∀ k, k ≤ r → H1.2.1 (wp + 9) k = H.2.1 (wp + 9) k) (h10 : ∀ k : Nat, (k : Int) < (H.2.1 (wp + 9) r).toInt → H1.2.1 (wp + 10) k = H.2.1 (wp + 10) k) (h : xCl wp H r C) : xCl wp H1 r C := by
  have e : xBg wp H1 r = xBg wp H r := xBg_e (fun k hk => h9 k (by omega))
  obtain ⟨h1, h2, h3⟩ := h
  refine ⟨by rw [e]; exact h1, by rw [e, h9 r (Nat.le_refl _)]; exact h2, fun j i hi => ?_⟩
  have hj : j < C.length := (List.getElem?_eq_some_iff.mp hi).1
  rw [e, h10 _ (by omega)]
  exact h3 j i hi
def xCr (T : Nat → Int) (n wp : Nat) (H : zp_H) (r p : Nat) : Prop := ∃ C, xRow T n p C ∧ xOp 37 C ∧ xCl wp H r C ∧ (H.2.1 (wp + 9) r).toInt ≤ (H.2.1 53 1).toInt
