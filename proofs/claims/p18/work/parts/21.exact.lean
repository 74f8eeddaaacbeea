/-! ===== each step of the exact interpreter is sound ===== -/
def zp_Mt (E : za_E) (nL : Nat) (s : State) (ads0 ads : List Nat) (S : zp_S) (H : Heap) (locs : List Loc) (ls : Array Slot) (stk : List Value) : Prop :=
  ads0 <+: ads ∧ za_F2 (zp_gV ads) S.2.2.1 stk ∧ (∃ lc, lv_has ls nL lc ∧ za_F2 (zp_gP ads) S.2.1 lc) ∧ zp_Wd E ads S.2.2.2.1 H ∧ va_S (za_A E) s.heap H locs
def zp_G (p : Program) (l : Launch) (e : Env) (R : Room) (s : State) (m : MethodId) (args : Array Value) (below : List Frame) (meth : Method) (c : Code) (Q : State → Prop) (E : za_E) (nL : Nat) (ads0 : List Nat) (S : zp_S) : Prop :=
  ∀ (ads : List Nat) (H : Heap) (locs : List Loc) (ls : Array Slot) (stk : List Value), zp_Mt E nL s ads0 ads S H locs ls stk → W p l e R s m args below meth c H locs S.2.2.2.2.1 S.2.2.2.2.2 Q (F0 m S.1 ls stk)
section ZE
variable {p : Program} {l : Launch} {e : Env} {R : Room} {s : State} {m : MethodId} {args : Array Value} {below : List Frame} {meth : Method} {c : Code} {Q : State → Prop} {E : za_E} {nL : Nat} {ads0 : List Nat} {pc : Nat} {lv : zp_LV} {t : zp_T} {st : List zp_V} {S9 : zp_S}
theorem zx_go {k : Nat} (h : zp_go lv t k st = some (.inl S9)) (hk : zp_G p l e R s m args below meth c Q E nL ads0 S9) : zp_G p l e R s m args below meth c Q E nL ads0 (k, lv, st, t) := by
  unfold zp_go at h
  cases h
  exact hk
theorem zx_binI (g : Int32 → Int32 → Int32)
    (rule : ∀ {H : Heap} {locs : List Loc} {cells slots : Nat} {ls : Array Slot} {rest : List Value} {x y : Int32}, W p l e R s m args below meth c H locs cells slots Q (F0 m (pc + 1) ls (.int (g x y) :: rest)) → W p l e R s m args below meth c H locs cells slots Q (F0 m pc ls (.int y :: .int x :: rest)))
    (h : zp_binI g pc lv st t = some (.inl S9)) (hk : zp_G p l e R s m args below meth c Q E nL ads0 S9) : zp_G p l e R s m args below meth c Q E nL ads0 (pc, lv, st, t) := by
  intro ads H locs ls stk M
  obtain ⟨h1, h3, h4, h5, h6⟩ := M
  unfold zp_binI at h
  split at h
  · rename_i y x r
    obtain ⟨_, stk1, rfl, rfl, q1⟩ := za_F2_cons h3
    obtain ⟨_, stk2, rfl, rfl, q2⟩ := za_F2_cons q1
    exact rule (zx_go h hk ads H locs ls (_ :: stk2) ⟨h1, ⟨rfl, q2⟩, h4, h5, h6⟩)
  · cases h
theorem zx_divI (g : Int32 → Int32 → Int32)
    (rule : ∀ {H : Heap} {locs : List Loc} {cells slots : Nat} {ls : Array Slot} {rest : List Value} {x y : Int32}, ¬ y = 0 → W p l e R s m args below meth c H locs cells slots Q (F0 m (pc + 1) ls (.int (g x y) :: rest)) → W p l e R s m args below meth c H locs cells slots Q (F0 m pc ls (.int y :: .int x :: rest)))
    (h : zp_divI g pc lv st t = some (.inl S9)) (hk : zp_G p l e R s m args below meth c Q E nL ads0 S9) : zp_G p l e R s m args below meth c Q E nL ads0 (pc, lv, st, t) := by
  intro ads H locs ls stk M
  obtain ⟨h1, h3, h4, h5, h6⟩ := M
  unfold zp_divI at h
  split at h
  · rename_i y x r
    split at h
    · cases h
    · rename_i hy
      obtain ⟨_, stk1, rfl, rfl, q1⟩ := za_F2_cons h3
      obtain ⟨_, stk2, rfl, rfl, q2⟩ := za_F2_cons q1
      exact rule hy (zx_go h hk ads H locs ls (_ :: stk2) ⟨h1, ⟨rfl, q2⟩, h4, h5, h6⟩)
  · cases h
theorem zx_binL (g : Int64 → Int64 → Int64)
    (rule : ∀ {H : Heap} {locs : List Loc} {cells slots : Nat} {ls : Array Slot} {rest : List Value} {x y : Int64}, W p l e R s m args below meth c H locs cells slots Q (F0 m (pc + 1) ls (.long (g x y) :: rest)) → W p l e R s m args below meth c H locs cells slots Q (F0 m pc ls (.long y :: .long x :: rest)))
    (h : zp_binL g pc lv st t = some (.inl S9)) (hk : zp_G p l e R s m args below meth c Q E nL ads0 S9) : zp_G p l e R s m args below meth c Q E nL ads0 (pc, lv, st, t) := by
  intro ads H locs ls stk M
  obtain ⟨h1, h3, h4, h5, h6⟩ := M
  unfold zp_binL at h
  split at h
  · rename_i y x r
    obtain ⟨_, stk1, rfl, rfl, q1⟩ := za_F2_cons h3
    obtain ⟨_, stk2, rfl, rfl, q2⟩ := za_F2_cons q1
    exact rule (zx_go h hk ads H locs ls (_ :: stk2) ⟨h1, ⟨rfl, q2⟩, h4, h5, h6⟩)
  · cases h
theorem zx_shL (g : Int64 → Int32 → Int64)
    (rule : ∀ {H : Heap} {locs : List Loc} {cells slots : Nat} {ls : Array Slot} {rest : List Value} {x : Int64} {y : Int32}, W p l e R s m args below meth c H locs cells slots Q (F0 m (pc + 1) ls (.long (g x y) :: rest)) → W p l e R s m args below meth c H locs cells slots Q (F0 m pc ls (.int y :: .long x :: rest)))
    (h : zp_shL g pc lv st t = some (.inl S9)) (hk : zp_G p l e R s m args below meth c Q E nL ads0 S9) : zp_G p l e R s m args below meth c Q E nL ads0 (pc, lv, st, t) := by
  intro ads H locs ls stk M
  obtain ⟨h1, h3, h4, h5, h6⟩ := M
  unfold zp_shL at h
  split at h
  · rename_i y x r
    obtain ⟨_, stk1, rfl, rfl, q1⟩ := za_F2_cons h3
    obtain ⟨_, stk2, rfl, rfl, q2⟩ := za_F2_cons q1
    exact rule (zx_go h hk ads H locs ls (_ :: stk2) ⟨h1, ⟨rfl, q2⟩, h4, h5, h6⟩)
  · cases h
theorem zx_getf {r : Option za_row}
    (rule : ∀ {ci k : Nat} {z : Int}, r = some (0, ci, k, z) → k < za_nX ci ∧ ∀ {H : Heap} {locs : List Loc} {cells slots : Nat} {ls : Array Slot} {rest : List Value} {ws : va_W} {q a : Nat} {vs : List Value} {v : Value}, va_P (za_D E) vwCl ws H → ws[q]? = some (a, .inr (ci, vs)) → vs[k]? = some v → W p l e R s m args below meth c H locs cells slots Q (F0 m (pc + 3) ls (v :: rest)) → W p l e R s m args below meth c H locs cells slots Q (F0 m pc ls (.ref a :: rest)))
    (h : zp_getf r pc lv st t = some (.inl S9)) (hk : zp_G p l e R s m args below meth c Q E nL ads0 S9) : zp_G p l e R s m args below meth c Q E nL ads0 (pc, lv, st, t) := by
  intro ads H locs ls stk M
  obtain ⟨h1, h3, h4, h5, h6⟩ := M
  unfold zp_getf at h
  split at h
  · rename_i ci k z q rest
    split at h
    · rename_i cj ho
      obtain ⟨hc, hg⟩ := za_bif h
      have hc := za_beq hc
      subst hc
      obtain ⟨_, stk1, rfl, ⟨a, rfl, ha⟩, q1⟩ := za_F2_cons h3
      obtain ⟨ws, x, e1, e2, e3, e4, e5, e6, e7⟩ := zp_obj h5 ha ho
      match x, e6, e7 with
      | .inr (cj9, vs), e6, e7 =>
        obtain ⟨rfl, f2, f3⟩ := e7
        obtain ⟨hlt, hrule⟩ := rule rfl
        cases hv : vs[k]? with
        | none => exact absurd (List.getElem?_eq_none_iff.mp hv) (by omega)
        | some w => exact hrule e4 e6 hv (zx_go hg hk ads H locs ls (w :: stk1) ⟨h1, ⟨f3 k w hv, q1⟩, h4, h5, h6⟩)
    · cases h
  · cases h
end ZE
