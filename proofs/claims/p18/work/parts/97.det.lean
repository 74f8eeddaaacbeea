/-! ===== a call has but one end ===== -/
theorem zp_ex1 {L : Nat} {σ : Nat → Int32} {M : za_MI} {cp : Nat → Option za_row} {i : Instr} {pc : Nat} {lv : zp_LV} {st : List zp_V} {t : zp_T} {r : zp_S ⊕ zp_X} (h : zp_ins L σ M cp i pc lv st t = some r) : zp_end M cp i pc st t = none ∧ zp_cl cp i st t = none := by
  cases i with
  | invokestatic k =>
    refine ⟨rfl, ?_⟩
    have h : (match cp k with
      | some (14, _, _, _) => zp_acp pc lv st t
      | _ => none) = some r := h
    split at h
    · rename_i hcp
      show (match cp k with
        | some (2, j, n, _) => match za_MT j with
          | some Y => some (false, j, n, Y)
          | none => none
        | some (12, j, n, _) => match za_MT j with
          | some Y => some (true, j, n, Y)
          | none => none
        | _ => none) = none
      rw [hcp]
      rfl
    · cases h
  | _ => first | exact ⟨rfl, rfl⟩ | cases h
theorem zp_ex2 {M : za_MI} {cp : Nat → Option za_row} {i : Instr} {pc : Nat} {st : List zp_V} {t : zp_T} {X : zp_X} (h : zp_end M cp i pc st t = some X) : zp_cl cp i st t = none := by
  cases i <;> first | rfl | cases h
theorem zp_det {L : Nat} {σ : Nat → Int32} {M : za_MI} {C : zp_C} (hC : ∀ (j : Nat) (as : List zp_V) (h : zp_H) (X X' : zp_X), C j as h X → C j as h X' → X = X') : ∀ (n n' : Nat) (S : zp_S) (X X' : zp_X), zp_RunN L σ M C n S X → zp_RunN L σ M C n' S X' → X = X'
  | 0, _, _, _, _, h, _ => h.elim
  | _ + 1, 0, _, _, _, _, h => h.elim
  | n + 1, n' + 1, S, X, X', h, h' => by
    obtain ⟨i, hi, h⟩ := h
    obtain ⟨i', hi', h'⟩ := h'
    have e : i' = i := Option.some.inj (hi'.symm.trans hi)
    subst e
    rcases h with ⟨S1, h1, h2⟩ | h | ⟨nx, j, k, Y, X1, h1, h2, h3, h4, h5⟩
    · rcases h' with ⟨S1', h1', h2'⟩ | h' | ⟨nx', j', k', Y', X1', h1', h2', h3', h4', h5'⟩
      · have e : S1' = S1 := by
          have := h1'.symm.trans h1
          cases this
          rfl
        subst e
        exact zp_det hC n n' _ _ _ h2 h2'
      · rw [(zp_ex1 h1).1] at h'
        cases h'
      · rw [(zp_ex1 h1).2] at h1'
        cases h1'
    · rcases h' with ⟨S1', h1', h2'⟩ | h' | ⟨nx', j', k', Y', X1', h1', h2', h3', h4', h5'⟩
      · rw [(zp_ex1 h1').1] at h
        cases h
      · exact Option.some.inj (h.symm.trans h')
      · rw [zp_ex2 h] at h1'
        cases h1'
    · rcases h' with ⟨S1', h1', h2'⟩ | h' | ⟨nx', j', k', Y', X1', h1', h2', h3', h4', h5'⟩
      · rw [(zp_ex1 h1').2] at h1
        cases h1
      · rw [zp_ex2 h'] at h1
        cases h1
      · have e := h1.symm.trans h1'
        cases e
        have e1 := hC _ _ _ _ _ h3 h3'
        subst e1
        generalize zp_aft M (za_CP (za_cl M)) S.1 S.2.1 (S.2.2.1.drop k) (S.2.2.2.2.1 + za_mc Y) (S.2.2.2.2.2 + za_ms Y) X1 = o at h5 h5'
        match o, h5, h5' with
        | some (.inl S2), h5, h5' => exact zp_det hC n n' _ _ _ h5 h5'
        | some (.inr X2), h5, h5' => exact (show X2 = X from h5).symm.trans (show X2 = X' from h5')
theorem zp_Call_d {L : Nat} {σ : Nat → Int32} : ∀ (d j : Nat) (as : List zp_V) (h : zp_H) (X X' : zp_X), zp_Call L σ d j as h X → zp_Call L σ d j as h X' → X = X'
  | 0, _, _, _, _, _, h, _ => h.elim
  | d + 1, j, as, h, X, X', ⟨Y, n, h1, h2, h3⟩, ⟨Y', n', h1', h2', h3'⟩ => by
    have e : Y' = Y := Option.some.inj (h1'.symm.trans h1)
    subst e
    exact zp_det (zp_Call_d d) n n' _ _ _ h3 h3'
/-- whatever the depth -/
theorem zp_Call_u {L : Nat} {σ : Nat → Int32} {d d' j : Nat} {as : List zp_V} {h : zp_H} {X X' : zp_X} (h1 : zp_Call L σ d j as h X) (h2 : zp_Call L σ d' j as h X') : X = X' := zp_Call_d (max d d') j as h X X' (zp_Call_le (Nat.le_max_left _ _) h1) (zp_Call_le (Nat.le_max_right _ _) h2)
