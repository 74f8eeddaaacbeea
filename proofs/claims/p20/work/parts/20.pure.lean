section
/-! ===== the exact interpreter: own values; the heap as a shape and three functions (place, slot) ===== -/
abbrev zp_V : Type := Int32 ⊕ (Int64 ⊕ Option Nat)
/-- an object of a kind; an array: 0 int, 1 byte, 2 boolean, 3 long; its length -/
abbrev zp_K : Type := Nat ⊕ (Nat × Nat)
abbrev zp_H : Type := List zp_K × (Nat → Nat → Int32) × (Nat → Nat → Int64) × (Nat → Nat → Option Nat)
/-- heap, cells, slots -/
abbrev zp_T : Type := zp_H × Nat × Nat
abbrev zp_LV : Type := List (Nat × zp_V)
abbrev zp_S : Type := Nat × zp_LV × List zp_V × zp_T
abbrev zp_X : Type := (Option zp_V ⊕ Nat) × zp_H
abbrev zp_N : Type := Option (zp_S ⊕ zp_X)
def zp_u {α : Type} (f : Nat → Nat → α) (p k : Nat) (v : α) : Nat → Nat → α := fun q i => if q = p ∧ i = k then v else f q i
theorem zp_u_self {α : Type} (f : Nat → Nat → α) (p k : Nat) (v : α) : zp_u f p k v p k = v := by simp [zp_u]
theorem zp_u_ne {α : Type} {f : Nat → Nat → α} {p k q i : Nat} {v : α} (h : ¬ (q = p ∧ i = k)) : zp_u f p k v q i = f q i := by simp [zp_u, h]
def zp_fv (H : zp_H) (p : Nat) (ty : FieldType) (k : Nat) : zp_V := match ty with
  | .long => .inr (.inl (H.2.2.1 p k))
  | .object _ => .inr (.inr (H.2.2.2 p k))
  | .array _ => .inr (.inr (H.2.2.2 p k))
  | _ => .inl (H.2.1 p k)
/-- what is kept of an int in an array of a type -/
def zp_nar (t : Nat) (x : Int32) : Int32 := match t with
  | 0 => x
  | 1 => vp_nar .byte x
  | _ => vp_nar .boolean x
def zp_gV (ads : List Nat) (v : zp_V) (w : Value) : Prop := match v with
  | .inl x => w = .int x
  | .inr (.inl x) => w = .long x
  | .inr (.inr none) => w = .null
  | .inr (.inr (some k)) => ∃ a, w = .ref a ∧ ads[k]? = some a
def zp_gP (ads : List Nat) (v : Nat × zp_V) (w : Nat × Value) : Prop := v.1 = w.1 ∧ zp_gV ads v.2 w.2
def zp_cat (v : zp_V) : Nat := match v with
  | .inr (.inl _) => 2
  | _ => 1
theorem zp_cat_ok {ads : List Nat} {v : zp_V} {w : Value} (h : zp_gV ads v w) : w.category = zp_cat v := by
  match v, h with
  | .inl x, h => rw [show w = .int x from h]; rfl
  | .inr (.inl x), h => rw [show w = .long x from h]; rfl
  | .inr (.inr none), h => rw [show w = .null from h]; rfl
  | .inr (.inr (some k)), ⟨a, h, _⟩ => rw [h]; rfl
theorem zp_gV_mono {ads ads' : List Nat} (h : ads <+: ads') {v : zp_V} {w : Value} (hv : zp_gV ads v w) : zp_gV ads' v w := by
  match v, hv with
  | .inl x, hv => exact hv
  | .inr (.inl x), hv => exact hv
  | .inr (.inr none), hv => exact hv
  | .inr (.inr (some k)), ⟨a, h1, h2⟩ =>
    obtain ⟨r, rfl⟩ := h
    exact ⟨a, h1, by rw [List.getElem?_append_left (List.getElem?_eq_some_iff.mp h2).1]; exact h2⟩
def zp_gO (E : za_E) (ads : List Nat) (H : zp_H) (p : Nat) (o : zp_K) (x : va_E) : Prop := match o, x with
  | .inl ci, .inr (cj, vs) => ci = cj ∧ vs.length = za_nX ci ∧ ∀ k w, vs[k]? = some w → zp_gV ads (zp_fv H p (za_tyX ci k) k) w
  | .inr (t, n), .inl (cA, n', .inl f) => n' = n ∧ t < 3 ∧ cA = za_tc E t ∧ ∀ i, i < n → f i = H.2.1 p i
  | .inr (t, n), .inl (cA, n', .inr (.inl f)) => n' = n ∧ t = 3 ∧ cA = E.2.2.2.1.2.2.2 ∧ ∀ i, i < n → f i = H.2.2.1 p i
  | _, _ => False
def zp_Wd (E : za_E) (ads : List Nat) (H : zp_H) (Hp : Heap) : Prop := ∃ ws : va_W, ads = za_b E :: ws.map (·.1) ∧ ws.length = H.1.length ∧ (∀ (p : Nat) (o : zp_K) (x : Nat × va_E), H.1[p]? = some o → ws[p]? = some x → zp_gO E ads H p o x.2) ∧ va_P (za_D E) vwCl ws Hp ∧ va_D (za_A E) ws
/-- an object's place: what stands there -/
theorem zp_obj {E : za_E} {ads : List Nat} {H : zp_H} {Hp : Heap} (hw : zp_Wd E ads H Hp) {p a : Nat} (ha : ads[p + 1]? = some a) {o : zp_K} (ho : H.1[p]? = some o) :
    ∃ (ws : va_W) (x : va_E), ads = za_b E :: ws.map (·.1) ∧ ws.length = H.1.length ∧ (∀ (p : Nat) (o : zp_K) (x : Nat × va_E), H.1[p]? = some o → ws[p]? = some x → zp_gO E ads H p o x.2) ∧ va_P (za_D E) vwCl ws Hp ∧ va_D (za_A E) ws ∧ ws[p]? = some (a, x) ∧ zp_gO E ads H p o x := by
  obtain ⟨ws, e1, e2, e3, e4, e5⟩ := hw
  rw [e1, List.getElem?_cons_succ, List.getElem?_map] at ha
  cases hx : ws[p]? with
  | none => rw [hx] at ha; cases ha
  | some q =>
    rw [hx] at ha
    have e9 : q.1 = a := Option.some.inj ha
    subst e9
    exact ⟨ws, q.2, e1, e2, e3, e4, e5, hx, e3 p o q ho hx⟩
/-! its steps -/
def zp_go (lv : zp_LV) (t : zp_T) (pc : Nat) (st : List zp_V) : zp_N := some (.inl (pc, lv, st, t))
def zp_get : zp_LV → Nat → Option zp_V
  | [], _ => none
  | q :: l, i => bif Nat.beq q.1 i then some q.2 else zp_get l i
def zp_st1 (lv : zp_LV) (i : Nat) (v : zp_V) : zp_LV := (i, v) :: lv.filter (fun q => !(q.1 == i) && !(q.1 + 1 == i && zp_cat q.2 == 2))
def zp_st2 (lv : zp_LV) (i : Nat) (v : zp_V) : zp_LV := (i, v) :: lv.filter (fun q => !(q.1 == i) && (!(q.1 == i + 1) && !(q.1 + 1 == i && zp_cat q.2 == 2)))
def zp_binI (g : Int32 → Int32 → Int32) (pc : Nat) (lv : zp_LV) (st : List zp_V) (t : zp_T) : zp_N := match st with
  | .inl y :: .inl x :: r => zp_go lv t (pc + 1) (.inl (g x y) :: r)
  | _ => none
def zp_divI (g : Int32 → Int32 → Int32) (pc : Nat) (lv : zp_LV) (st : List zp_V) (t : zp_T) : zp_N := match st with
  | .inl y :: .inl x :: r => if y = 0 then none else zp_go lv t (pc + 1) (.inl (g x y) :: r)
  | _ => none
def zp_binL (g : Int64 → Int64 → Int64) (pc : Nat) (lv : zp_LV) (st : List zp_V) (t : zp_T) : zp_N := match st with
  | .inr (.inl y) :: .inr (.inl x) :: r => zp_go lv t (pc + 1) (.inr (.inl (g x y)) :: r)
  | _ => none
def zp_shL (g : Int64 → Int32 → Int64) (pc : Nat) (lv : zp_LV) (st : List zp_V) (t : zp_T) : zp_N := match st with
  | .inl y :: .inr (.inl x) :: r => zp_go lv t (pc + 1) (.inr (.inl (g x y)) :: r)
  | _ => none
def zp_to (o : Int) (pc : Nat) : Option Nat := match (pc : Int) + o with
  | .ofNat g => some g
  | _ => none
def zp_getf (r : Option za_row) (pc : Nat) (lv : zp_LV) (st : List zp_V) (t : zp_T) : zp_N := match r, st with
  | some (0, ci, k, _), .inr (.inr (some (q + 1))) :: rest => match t.1.1[q]? with
    | some (.inl cj) => bif Nat.beq cj ci then zp_go lv t (pc + 3) (zp_fv t.1 q (za_tyX ci k) k :: rest) else none
    | _ => none
  | _, _ => none
def zp_ald (L : Nat) (σ : Nat → Int32) (b : Bool) (pc : Nat) (lv : zp_LV) (st : List zp_V) (t : zp_T) : zp_N := match st with
  | .inl i :: .inr (.inr (some 0)) :: rest => if b = false ∧ 0 ≤ i.toInt ∧ i.toInt < L then zp_go lv t (pc + 1) (.inl (σ i.toInt.toNat) :: rest) else none
  | .inl i :: .inr (.inr (some (q + 1))) :: rest => match t.1.1[q]? with
    | some (.inr (ty, n)) => if (b = false ↔ ty = 0) ∧ ty < 3 ∧ 0 ≤ i.toInt ∧ i.toInt < n then zp_go lv t (pc + 1) (.inl (t.1.2.1 q i.toInt.toNat) :: rest) else none
    | _ => none
  | _ => none
def zp_ast (b : Bool) (pc : Nat) (lv : zp_LV) (st : List zp_V) (t : zp_T) : zp_N := match st with
  | .inl x :: .inl i :: .inr (.inr (some (q + 1))) :: rest => match t.1.1[q]? with
    | some (.inr (ty, n)) => if (b = false ↔ ty = 0) ∧ ty < 3 ∧ 0 ≤ i.toInt ∧ i.toInt < n then zp_go lv ((t.1.1, zp_u t.1.2.1 q i.toInt.toNat (zp_nar ty x), t.1.2.2), t.2) (pc + 1) rest else none
    | _ => none
  | _ => none
def zp_lld (pc : Nat) (lv : zp_LV) (st : List zp_V) (t : zp_T) : zp_N := match st with
  | .inl i :: .inr (.inr (some (q + 1))) :: rest => match t.1.1[q]? with
    | some (.inr (3, n)) => if 0 ≤ i.toInt ∧ i.toInt < n then zp_go lv t (pc + 1) (.inr (.inl (t.1.2.2.1 q i.toInt.toNat)) :: rest) else none
    | _ => none
  | _ => none
def zp_lst (pc : Nat) (lv : zp_LV) (st : List zp_V) (t : zp_T) : zp_N := match st with
  | .inr (.inl x) :: .inl i :: .inr (.inr (some (q + 1))) :: rest => match t.1.1[q]? with
    | some (.inr (3, n)) => if 0 ≤ i.toInt ∧ i.toInt < n then zp_go lv ((t.1.1, t.1.2.1, zp_u t.1.2.2.1 q i.toInt.toNat x, t.1.2.2.2), t.2) (pc + 1) rest else none
    | _ => none
  | _ => none
def zp_alen (L : Nat) (pc : Nat) (lv : zp_LV) (st : List zp_V) (t : zp_T) : zp_N := match st with
  | .inr (.inr (some 0)) :: rest => zp_go lv t (pc + 1) (.inl (Int32.ofNat L) :: rest)
  | .inr (.inr (some (q + 1))) :: rest => match t.1.1[q]? with
    | some (.inr (_, n)) => zp_go lv t (pc + 1) (.inl (Int32.ofNat n) :: rest)
    | _ => none
  | _ => none
end
section
/-! ===== each step of the exact interpreter is sound ===== -/
def zp_Mt (E : za_E) (nL : Nat) (s : State) (ads0 ads : List Nat) (S : zp_S) (H : Heap) (locs : List Loc) (ls : Array Slot) (stk : List Value) : Prop :=
  ads0 <+: ads ∧ za_F2 (zp_gV ads) S.2.2.1 stk ∧ (∃ lc, lv_has ls nL lc ∧ za_F2 (zp_gP ads) S.2.1 lc) ∧ zp_Wd E ads S.2.2.2.1 H ∧ va_S (za_A E) s.heap H locs
def zp_G (p : Program) (l : Launch) (e : Env) (R : Room) (s : State) (m : MethodId) (args : Array Value) (below : List Frame) (meth : Method) (c : Code) (Q : State → Prop) (E : za_E) (nL : Nat) (ads0 : List Nat) (S : zp_S) : Prop :=
  ∀ (ads : List Nat) (H : Heap) (locs : List Loc) (ls : Array Slot) (stk : List Value), zp_Mt E nL s ads0 ads S H locs ls stk → W p l e R s m args below meth c H locs S.2.2.2.2.1 S.2.2.2.2.2 Q (F0 m S.1 ls stk)
section ZE
variable {p : Program} {l : Launch} {e : Env} {R : Room} {s : State} {m : MethodId} {args : Array Value} {below : List Frame} {meth : Method} {c : Code} {Q : State → Prop} {E : za_E} {nL : Nat} {ads0 : List Nat} {pc : Nat} {lv : zp_LV} {t : zp_T} {st : List zp_V} {S9 : zp_S}
theorem zx_go {k : Nat} (h : zp_go lv t k st = some (.inl S9)) (hk : zp_G p l e R s m args below meth c Q E nL ads0 S9) : zp_G p l e R s m args below meth c Q E nL ads0 (k, lv, st, t) := by
  unfold zp_go at h
  cases h
  exact hk
theorem zx_binI (g : Int32 → Int32 → Int32)
    (rule : ∀ {H : Heap} {locs : List Loc} {cells slots : Nat} {ls : Array Slot} {rest : List Value} {x y : Int32}, W p l e R s m args below meth c H locs cells slots Q (F0 m (pc + 1) ls (.int (g x y) :: rest)) → W p l e R s m args below meth c H locs cells slots Q (F0 m pc ls (.int y :: .int x :: rest)))
    (h : zp_binI g pc lv st t = some (.inl S9)) (hk : zp_G p l e R s m args below meth c Q E nL ads0 S9) : zp_G p l e R s m args below meth c Q E nL ads0 (pc, lv, st, t) := by
  intro ads H locs ls stk M
  obtain ⟨h1, h3, h4, h5, h6⟩ := M
  unfold zp_binI at h
  split at h
  · rename_i y x r
    obtain ⟨_, stk1, rfl, rfl, q1⟩ := za_F2_cons h3
    obtain ⟨_, stk2, rfl, rfl, q2⟩ := za_F2_cons q1
    exact rule (zx_go h hk ads H locs ls (_ :: stk2) ⟨h1, ⟨rfl, q2⟩, h4, h5, h6⟩)
  · cases h
theorem zx_divI (g : Int32 → Int32 → Int32)
    (rule : ∀ {H : Heap} {locs : List Loc} {cells slots : Nat} {ls : Array Slot} {rest : List Value} {x y : Int32}, ¬ y = 0 → W p l e R s m args below meth c H locs cells slots Q (F0 m (pc + 1) ls (.int (g x y) :: rest)) → W p l e R s m args below meth c H locs cells slots Q (F0 m pc ls (.int y :: .int x :: rest)))
    (h : zp_divI g pc lv st t = some (.inl S9)) (hk : zp_G p l e R s m args below meth c Q E nL ads0 S9) : zp_G p l e R s m args below meth c Q E nL ads0 (pc, lv, st, t) := by
  intro ads H locs ls stk M
  obtain ⟨h1, h3, h4, h5, h6⟩ := M
  unfold zp_divI at h
  split at h
  · rename_i y x r
    split at h
    · cases h
    · rename_i hy
      obtain ⟨_, stk1, rfl, rfl, q1⟩ := za_F2_cons h3
      obtain ⟨_, stk2, rfl, rfl, q2⟩ := za_F2_cons q1
      exact rule hy (zx_go h hk ads H locs ls (_ :: stk2) ⟨h1, ⟨rfl, q2⟩, h4, h5, h6⟩)
  · cases h
theorem zx_binL (g : Int64 → Int64 → Int64)
    (rule : ∀ {H : Heap} {locs : List Loc} {cells slots : Nat} {ls : Array Slot} {rest : List Value} {x y : Int64}, W p l e R s m args below meth c H locs cells slots Q (F0 m (pc + 1) ls (.long (g x y) :: rest)) → W p l e R s m args below meth c H locs cells slots Q (F0 m pc ls (.long y :: .long x :: rest)))
    (h : zp_binL g pc lv st t = some (.inl S9)) (hk : zp_G p l e R s m args below meth c Q E nL ads0 S9) : zp_G p l e R s m args below meth c Q E nL ads0 (pc, lv, st, t) := by
  intro ads H locs ls stk M
  obtain ⟨h1, h3, h4, h5, h6⟩ := M
  unfold zp_binL at h
  split at h
  · rename_i y x r
    obtain ⟨_, stk1, rfl, rfl, q1⟩ := za_F2_cons h3
    obtain ⟨_, stk2, rfl, rfl, q2⟩ := za_F2_cons q1
    exact rule (zx_go h hk ads H locs ls (_ :: stk2) ⟨h1, ⟨rfl, q2⟩, h4, h5, h6⟩)
  · cases h
theorem zx_shL (g : Int64 → Int32 → Int64)
    (rule : ∀ {H : Heap} {locs : List Loc} {cells slots : Nat} {ls : Array Slot} {rest : List Value} {x : Int64} {y : Int32}, W p l e R s m args below meth c H locs cells slots Q (F0 m (pc + 1) ls (.long (g x y) :: rest)) → W p l e R s m args below meth c H locs cells slots Q (F0 m pc ls (.int y :: .long x :: rest)))
    (h : zp_shL g pc lv st t = some (.inl S9)) (hk : zp_G p l e R s m args below meth c Q E nL ads0 S9) : zp_G p l e R s m args below meth c Q E nL ads0 (pc, lv, st, t) := by
  intro ads H locs ls stk M
  obtain ⟨h1, h3, h4, h5, h6⟩ := M
  unfold zp_shL at h
  split at h
  · rename_i y x r
    obtain ⟨_, stk1, rfl, rfl, q1⟩ := za_F2_cons h3
    obtain ⟨_, stk2, rfl, rfl, q2⟩ := za_F2_cons q1
    exact rule (zx_go h hk ads H locs ls (_ :: stk2) ⟨h1, ⟨rfl, q2⟩, h4, h5, h6⟩)
  · cases h
theorem zx_getf {r : Option za_row}
    (rule : ∀ {ci k : Nat} {z : Int}, r = some (0, ci, k, z) → k < za_nX ci ∧ ∀ {H : Heap} {locs : List Loc} {cells slots : Nat} {ls : Array Slot} {rest : List Value} {ws : va_W} {q a : Nat} {vs : List Value} {v : Value}, va_P (za_D E) vwCl ws H → ws[q]? = some (a, .inr (ci, vs)) → vs[k]? = some v → W p l e R s m args below meth c H locs cells slots Q (F0 m (pc + 3) ls (v :: rest)) → W p l e R s m args below meth c H locs cells slots Q (F0 m pc ls (.ref a :: rest)))
    (h : zp_getf r pc lv st t = some (.inl S9)) (hk : zp_G p l e R s m args below meth c Q E nL ads0 S9) : zp_G p l e R s m args below meth c Q E nL ads0 (pc, lv, st, t) := by
  intro ads H locs ls stk M
  obtain ⟨h1, h3, h4, h5, h6⟩ := M
  unfold zp_getf at h
  split at h
  · rename_i ci k z q rest
    split at h
    · rename_i cj ho
      obtain ⟨hc, hg⟩ := za_bif h
      have hc := za_beq hc
      subst hc
      obtain ⟨_, stk1, rfl, ⟨a, rfl, ha⟩, q1⟩ := za_F2_cons h3
      obtain ⟨ws, x, e1, e2, e3, e4, e5, e6, e7⟩ := zp_obj h5 ha ho
      match x, e6, e7 with
      | .inr (cj9, vs), e6, e7 =>
        obtain ⟨rfl, f2, f3⟩ := e7
        obtain ⟨hlt, hrule⟩ := rule rfl
        cases hv : vs[k]? with
        | none => exact absurd (List.getElem?_eq_none_iff.mp hv) (by omega)
        | some w => exact hrule e4 e6 hv (zx_go hg hk ads H locs ls (w :: stk1) ⟨h1, ⟨f3 k w hv, q1⟩, h4, h5, h6⟩)
    · cases h
  · cases h
end ZE
end
section
/-! ===== the exact heap: writes ===== -/
theorem zp_fv_c {H H' : zp_H} {p : Nat} (h1 : ∀ k, H'.2.1 p k = H.2.1 p k) (h2 : ∀ k, H'.2.2.1 p k = H.2.2.1 p k) (h3 : ∀ k, H'.2.2.2 p k = H.2.2.2 p k) (ty : FieldType) (k : Nat) : zp_fv H' p ty k = zp_fv H p ty k := by
  cases ty <;> simp [zp_fv, h1, h2, h3]
theorem zp_gO_c {E : za_E} {ads : List Nat} {H H' : zp_H} {p : Nat} {o : zp_K} {x : va_E} (h1 : ∀ k, H'.2.1 p k = H.2.1 p k) (h2 : ∀ k, H'.2.2.1 p k = H.2.2.1 p k) (h3 : ∀ k, H'.2.2.2 p k = H.2.2.2 p k) (h : zp_gO E ads H p o x) : zp_gO E ads H' p o x := by
  match o, x, h with
  | .inl ci, .inr (cj, vs), h => exact ⟨h.1, h.2.1, fun k w hw => by rw [zp_fv_c h1 h2 h3]; exact h.2.2 k w hw⟩
  | .inr (t, n), .inl (cA, n', .inl f), h => exact ⟨h.1, h.2.1, h.2.2.1, fun i hi => by rw [h1]; exact h.2.2.2 i hi⟩
  | .inr (t, n), .inl (cA, n', .inr (.inl f)), h => exact ⟨h.1, h.2.1, h.2.2.1, fun i hi => by rw [h2]; exact h.2.2.2 i hi⟩
theorem zp_ads {E : za_E} {ads : List Nat} {ws : va_W} {q a : Nat} {x y : va_E} (e1 : ads = za_b E :: ws.map (·.1)) (hx : ws[q]? = some (a, x)) : ads = za_b E :: (ws.set q (a, y)).map (·.1) := by
  rw [List.map_set, e1]
  congr 1
  apply List.ext_getElem?
  intro i
  have e5 : (ws.map (·.1))[q]? = some a := by rw [List.getElem?_map, hx]; rfl
  by_cases hi : q = i
  · subst hi
    rw [List.getElem?_set_self (by simpa using (List.getElem?_eq_some_iff.mp hx).1)]
    exact e5
  · rw [List.getElem?_set_ne hi]
/-- one place has changed -/
theorem zp_set {E : za_E} {ads : List Nat} {H H' : zp_H} {Hp : Heap} {ws : va_W} {q a : Nat} {x y : va_E} {o : zp_K} (e1 : ads = za_b E :: ws.map (·.1)) (e2 : ws.length = H.1.length) (e3 : ∀ (p : Nat) (o : zp_K) (x : Nat × va_E), H.1[p]? = some o → ws[p]? = some x → zp_gO E ads H p o x.2) (ho : H.1[q]? = some o) (hx : ws[q]? = some (a, x))
    (hs : H'.1 = H.1) (h1 : ∀ p, p ≠ q → ∀ k, H'.2.1 p k = H.2.1 p k) (h2 : ∀ p, p ≠ q → ∀ k, H'.2.2.1 p k = H.2.2.1 p k) (h3 : ∀ p, p ≠ q → ∀ k, H'.2.2.2 p k = H.2.2.2 p k)
    (g1 : va_P (za_D E) vwCl (ws.set q (a, y)) Hp) (g2 : va_D (za_A E) (ws.set q (a, y))) (hy : zp_gO E ads H' q o y) : zp_Wd E ads H' Hp := by
  refine ⟨ws.set q (a, y), zp_ads e1 hx, by rw [List.length_set, e2, hs], ?_, g1, g2⟩
  intro p o' x' hp hx'
  rw [hs] at hp
  by_cases hpq : q = p
  · subst hpq
    rw [List.getElem?_set_self (List.getElem?_eq_some_iff.mp hx).1] at hx'
    cases hx'
    cases Option.some.inj (hp.symm.trans ho)
    exact hy
  · rw [List.getElem?_set_ne hpq] at hx'
    exact zp_gO_c (h1 p (Ne.symm hpq)) (h2 p (Ne.symm hpq)) (h3 p (Ne.symm hpq)) (e3 p o' x' hp hx')
section ZF
variable {p : Program} {l : Launch} {e : Env} {R : Room} {s : State} {m : MethodId} {args : Array Value} {below : List Frame} {meth : Method} {c : Code} {Q : State → Prop} {E : za_E} {nL : Nat} {ads0 : List Nat} {pc : Nat} {lv : zp_LV} {t : zp_T} {st : List zp_V} {S9 : zp_S}
theorem zp_ix {i : Int32} {n : Nat} (h1 : 0 ≤ i.toInt) (h2 : i.toInt < n) : vp_in i n ∧ i.toNatClampNeg = i.toInt.toNat ∧ i.toInt.toNat < n := by
  have h3 : i.toInt = Int.ofNat i.toInt.toNat := by
    show i.toInt = ((i.toInt.toNat : Nat) : Int)
    omega
  have h4 : i.toInt.toNat < n := by omega
  exact ⟨za_vin h3 h4, (za_clamp h3).1, h4⟩
theorem zx_ast {b : Bool}
    (rule : ∀ {tt : Nat}, tt < 3 → (b = false ↔ tt = 0) → ∀ {H : Heap} {locs : List Loc} {cells slots : Nat} {ls : Array Slot} {rest : List Value} {ws : va_W} {q a n : Nat} {f : Nat → Int32} {i x : Int32}, va_P (za_D E) vwCl ws H → va_D (za_A E) ws → va_S (za_A E) s.heap H locs → ws[q]? = some (a, .inl (za_tc E tt, n, .inl f)) → vp_in i n →
      (∀ (H1 : Heap) (locs1 : List Loc), va_P (za_D E) vwCl (ws.set q (a, .inl (za_tc E tt, n, .inl (upd f i.toNatClampNeg (zp_nar tt x))))) H1 → va_D (za_A E) (ws.set q (a, .inl (za_tc E tt, n, .inl (upd f i.toNatClampNeg (zp_nar tt x))))) → va_S (za_A E) s.heap H1 locs1 → W p l e R s m args below meth c H1 locs1 cells slots Q (F0 m (pc + 1) ls rest)) → W p l e R s m args below meth c H locs cells slots Q (F0 m pc ls (.int x :: .int i :: .ref a :: rest)))
    (h : zp_ast b pc lv st t = some (.inl S9)) (hk : zp_G p l e R s m args below meth c Q E nL ads0 S9) : zp_G p l e R s m args below meth c Q E nL ads0 (pc, lv, st, t) := by
  intro ads H locs ls stk M
  obtain ⟨h1, h3, h4, h5, h6⟩ := M
  unfold zp_ast at h
  split at h
  · rename_i x i q rest
    split at h
    · rename_i ty n ho
      split at h
      · rename_i hc
        obtain ⟨c1, c2, c3, c4⟩ := hc
        obtain ⟨k1, k2, k3⟩ := zp_ix c3 c4
        obtain ⟨_, stk1, rfl, rfl, q1⟩ := za_F2_cons h3
        obtain ⟨_, stk2, rfl, rfl, q2⟩ := za_F2_cons q1
        obtain ⟨_, stk3, rfl, ⟨a, rfl, ha⟩, q3⟩ := za_F2_cons q2
        obtain ⟨ws, x9, e1, e2, e3, e4, e5, e6, e7⟩ := zp_obj h5 ha ho
        match x9, e6, e7 with
        | .inl (cA, n', .inl f), e6, e7 =>
          obtain ⟨rfl, -, rfl, f4⟩ := e7
          refine rule (x := x) c2 c1 e4 e5 h6 e6 k1 (fun H1 locs1 g1 g2 g3 => ?_)
          refine zx_go h hk ads H1 locs1 ls stk3 ⟨h1, q3, h4, ?_, g3⟩
          refine zp_set e1 e2 e3 ho e6 rfl ?_ (fun _ _ _ => rfl) (fun _ _ _ => rfl) g1 g2 ⟨rfl, c2, rfl, fun j hj => ?_⟩
          · intro p9 hp9 k9
            exact zp_u_ne (fun hh => hp9 hh.1)
          · show upd f i.toNatClampNeg (zp_nar ty x) j = zp_u t.1.2.1 q i.toInt.toNat (zp_nar ty x) q j
            rw [k2]
            unfold upd zp_u
            by_cases hj9 : j = i.toInt.toNat
            · rw [if_pos hj9, if_pos ⟨rfl, hj9⟩]
            · rw [if_neg hj9, if_neg (fun hh => hj9 hh.2)]
              exact f4 j hj
        | .inl (cA, n', .inr (.inl f)), e6, e7 => exact absurd e7.2.1 (by omega)
      · cases h
    · cases h
  · cases h
end ZF
end
section
/-! ===== locals, array reads, fields ===== -/
def zp_isI (v : zp_V) : Bool := match v with
  | .inl _ => true
  | _ => false
def zp_isL (v : zp_V) : Bool := match v with
  | .inr (.inl _) => true
  | _ => false
def zp_isR (v : zp_V) : Bool := match v with
  | .inr (.inr (some _)) => true
  | _ => false
def zp_load (k i : Nat) (f : zp_V → Bool) (pc : Nat) (lv : zp_LV) (st : List zp_V) (t : zp_T) : zp_N := match zp_get lv i with
  | some v => bif f v then zp_go lv t (pc + k) (v :: st) else none
  | none => none
def zp_stor1 (k i nL : Nat) (f : zp_V → Bool) (pc : Nat) (lv : zp_LV) (st : List zp_V) (t : zp_T) : zp_N := match st with
  | v :: r => bif f v then bif Nat.blt i nL then zp_go (zp_st1 lv i v) t (pc + k) r else none else none
  | _ => none
def zp_stor2 (k i nL : Nat) (pc : Nat) (lv : zp_LV) (st : List zp_V) (t : zp_T) : zp_N := match st with
  | .inr (.inl v) :: r => bif Nat.blt (i + 1) nL then zp_go (zp_st2 lv i (.inr (.inl v))) t (pc + k) r else none
  | _ => none
theorem zp_get_ok {ads : List Nat} {i : Nat} {v : zp_V} : ∀ {lv : zp_LV} {lc : List (Nat × Value)}, za_F2 (zp_gP ads) lv lc → zp_get lv i = some v → ∃ w, (i, w) ∈ lc ∧ zp_gV ads v w
  | [], [], _, h => by cases h
  | q :: l, r :: m, hp, h => by
    unfold zp_get at h
    cases hb : Nat.beq q.1 i with
    | true =>
      rw [hb] at h
      have e := za_beq hb
      cases h
      exact ⟨r.2, by rw [← e, hp.1.1]; exact List.mem_cons_self, hp.1.2⟩
    | false =>
      rw [hb] at h
      obtain ⟨w, h1, h2⟩ := zp_get_ok hp.2 h
      exact ⟨w, List.mem_cons_of_mem _ h1, h2⟩
  | [], _ :: _, hp, _ => hp.elim
  | _ :: _, [], hp, _ => hp.elim
theorem zp_st1_ok {ads : List Nat} {i : Nat} {v : zp_V} {w : Value} {lv : zp_LV} {lc : List (Nat × Value)} (h : za_F2 (zp_gP ads) lv lc) (hv : zp_gV ads v w) : za_F2 (zp_gP ads) (zp_st1 lv i v) ((i, w) :: lc.filter (fun q => !(q.1 == i) && !(q.1 + 1 == i && q.2.category == 2))) :=
  ⟨⟨rfl, hv⟩, za_F2_filter (fun a b hab => by rw [hab.1, zp_cat_ok hab.2]) h⟩
theorem zp_st2_ok {ads : List Nat} {i : Nat} {v : zp_V} {w : Value} {lv : zp_LV} {lc : List (Nat × Value)} (h : za_F2 (zp_gP ads) lv lc) (hv : zp_gV ads v w) : za_F2 (zp_gP ads) (zp_st2 lv i v) ((i, w) :: lc.filter (fun q => !(q.1 == i) && (!(q.1 == i + 1) && !(q.1 + 1 == i && q.2.category == 2)))) :=
  ⟨⟨rfl, hv⟩, za_F2_filter (fun a b hab => by rw [hab.1, zp_cat_ok hab.2]) h⟩
section ZL
variable {p : Program} {l : Launch} {e : Env} {R : Room} {s : State} {m : MethodId} {args : Array Value} {below : List Frame} {meth : Method} {c : Code} {Q : State → Prop} {E : za_E} {nL : Nat} {ads0 : List Nat} {pc : Nat} {lv : zp_LV} {t : zp_T} {st : List zp_V} {S9 : zp_S}
theorem zx_load {k i : Nat} {f : zp_V → Bool}
    (rule : ∀ {H : Heap} {locs : List Loc} {cells slots : Nat} {ls : Array Slot} {rest : List Value} {ads : List Nat} {v : zp_V} {w : Value}, f v = true → zp_gV ads v w → ls[i]? = some (.val w) → W p l e R s m args below meth c H locs cells slots Q (F0 m (pc + k) ls (w :: rest)) → W p l e R s m args below meth c H locs cells slots Q (F0 m pc ls rest))
    (h : zp_load k i f pc lv st t = some (.inl S9)) (hk : zp_G p l e R s m args below meth c Q E nL ads0 S9) : zp_G p l e R s m args below meth c Q E nL ads0 (pc, lv, st, t) := by
  intro ads H locs ls stk M
  obtain ⟨h1, h3, ⟨lc, l1, l2⟩, h5, h6⟩ := M
  unfold zp_load at h
  split at h
  · rename_i v hv
    obtain ⟨hf, h⟩ := za_bif h
    obtain ⟨w, w1, w2⟩ := zp_get_ok l2 hv
    exact rule hf w2 (l1.2.2 _ w1) (zx_go h hk ads H locs ls (w :: stk) ⟨h1, ⟨w2, h3⟩, ⟨lc, l1, l2⟩, h5, h6⟩)
  · cases h
theorem zx_stor1 {k i : Nat} {f : zp_V → Bool}
    (rule : ∀ {H : Heap} {locs : List Loc} {cells slots : Nat} {ls : Array Slot} {rest : List Value} {ads : List Nat} {v : zp_V} {w : Value} {lc : List (Nat × Value)}, f v = true → zp_gV ads v w → lv_has ls nL lc → i < nL → (∀ ls' : Array Slot, lv_has ls' nL ((i, w) :: lc.filter (fun q => !(q.1 == i) && !(q.1 + 1 == i && q.2.category == 2))) → W p l e R s m args below meth c H locs cells slots Q (F0 m (pc + k) ls' rest)) → W p l e R s m args below meth c H locs cells slots Q (F0 m pc ls (w :: rest)))
    (h : zp_stor1 k i nL f pc lv st t = some (.inl S9)) (hk : zp_G p l e R s m args below meth c Q E nL ads0 S9) : zp_G p l e R s m args below meth c Q E nL ads0 (pc, lv, st, t) := by
  intro ads H locs ls stk M
  obtain ⟨h1, h3, ⟨lc, l1, l2⟩, h5, h6⟩ := M
  unfold zp_stor1 at h
  split at h
  · rename_i v r
    obtain ⟨hf, h⟩ := za_bif h
    obtain ⟨hi, h⟩ := za_bif h
    obtain ⟨w, stk1, rfl, hw, q1⟩ := za_F2_cons h3
    exact rule hf hw l1 (za_blt hi) (fun ls' l1' => zx_go h hk ads H locs ls' stk1 ⟨h1, q1, ⟨_, l1', zp_st1_ok l2 hw⟩, h5, h6⟩)
  · cases h
theorem zx_stor2 {k i : Nat}
    (rule : ∀ {H : Heap} {locs : List Loc} {cells slots : Nat} {ls : Array Slot} {rest : List Value} {x : Int64} {lc : List (Nat × Value)}, lv_has ls nL lc → i + 1 < nL → (∀ ls' : Array Slot, lv_has ls' nL ((i, Value.long x) :: lc.filter (fun q => !(q.1 == i) && (!(q.1 == i + 1) && !(q.1 + 1 == i && q.2.category == 2)))) → W p l e R s m args below meth c H locs cells slots Q (F0 m (pc + k) ls' rest)) → W p l e R s m args below meth c H locs cells slots Q (F0 m pc ls (.long x :: rest)))
    (h : zp_stor2 k i nL pc lv st t = some (.inl S9)) (hk : zp_G p l e R s m args below meth c Q E nL ads0 S9) : zp_G p l e R s m args below meth c Q E nL ads0 (pc, lv, st, t) := by
  intro ads H locs ls stk M
  obtain ⟨h1, h3, ⟨lc, l1, l2⟩, h5, h6⟩ := M
  unfold zp_stor2 at h
  split at h
  · rename_i v r
    obtain ⟨hi, h⟩ := za_bif h
    obtain ⟨w, stk1, rfl, hw, q1⟩ := za_F2_cons h3
    have hw' : w = .long v := hw
    subst hw'
    exact rule l1 (za_blt hi) (fun ls' l1' => zx_go h hk ads H locs ls' stk1 ⟨h1, q1, ⟨_, l1', zp_st2_ok (w := .long v) l2 rfl⟩, h5, h6⟩)
  · cases h
theorem zx_ald {L : Nat} {b : Bool}
    (ruleS : b = false → ∀ {H : Heap} {locs : List Loc} {cells slots : Nat} {ls : Array Slot} {rest : List Value} {i : Int32}, va_S (za_A E) s.heap H locs → vp_in i L → W p l e R s m args below meth c H locs cells slots Q (F0 m (pc + 1) ls (.int (za_σ E i.toNatClampNeg) :: rest)) → W p l e R s m args below meth c H locs cells slots Q (F0 m pc ls (.int i :: .ref (za_b E) :: rest)))
    (rule : ∀ {tt : Nat}, tt < 3 → (b = false ↔ tt = 0) → ∀ {H : Heap} {locs : List Loc} {cells slots : Nat} {ls : Array Slot} {rest : List Value} {ws : va_W} {q a n : Nat} {f : Nat → Int32} {i : Int32}, va_P (za_D E) vwCl ws H → ws[q]? = some (a, .inl (za_tc E tt, n, .inl f)) → vp_in i n → W p l e R s m args below meth c H locs cells slots Q (F0 m (pc + 1) ls (.int (f i.toNatClampNeg) :: rest)) → W p l e R s m args below meth c H locs cells slots Q (F0 m pc ls (.int i :: .ref a :: rest)))
    (h : zp_ald L (za_σ E) b pc lv st t = some (.inl S9)) (hk : zp_G p l e R s m args below meth c Q E nL ads0 S9) : zp_G p l e R s m args below meth c Q E nL ads0 (pc, lv, st, t) := by
  intro ads H locs ls stk M
  obtain ⟨h1, h3, h4, h5, h6⟩ := M
  unfold zp_ald at h
  split at h
  · rename_i i rest
    split at h
    · rename_i hc
      obtain ⟨c1, c3, c4⟩ := hc
      obtain ⟨k1, k2, k3⟩ := zp_ix c3 c4
      obtain ⟨_, stk1, rfl, rfl, q1⟩ := za_F2_cons h3
      obtain ⟨_, stk2, rfl, ⟨a, rfl, ha⟩, q2⟩ := za_F2_cons q1
      have hab : a = za_b E := by
        obtain ⟨ws, e1, -⟩ := h5
        rw [e1] at ha
        exact (Option.some.inj ha).symm
      subst hab
      refine ruleS c1 h6 k1 (zx_go h hk ads H locs ls (_ :: stk2) ⟨h1, ⟨?_, q2⟩, h4, h5, h6⟩)
      rw [k2]
      rfl
    · cases h
  · rename_i i q rest
    split at h
    · rename_i ty n ho
      split at h
      · rename_i hc
        obtain ⟨c1, c2, c3, c4⟩ := hc
        obtain ⟨k1, k2, k3⟩ := zp_ix c3 c4
        obtain ⟨_, stk1, rfl, rfl, q1⟩ := za_F2_cons h3
        obtain ⟨_, stk2, rfl, ⟨a, rfl, ha⟩, q2⟩ := za_F2_cons q1
        obtain ⟨ws, x9, e1, e2, e3, e4, e5, e6, e7⟩ := zp_obj h5 ha ho
        match x9, e6, e7 with
        | .inl (cA, n', .inl f), e6, e7 =>
          obtain ⟨rfl, -, rfl, f4⟩ := e7
          refine rule c2 c1 e4 e6 k1 (zx_go h hk ads H locs ls (_ :: stk2) ⟨h1, ⟨?_, q2⟩, h4, h5, h6⟩)
          rw [k2, f4 _ k3]
          rfl
        | .inl (cA, n', .inr (.inl f)), e6, e7 => exact absurd e7.2.1 (by omega)
      · cases h
    · cases h
  · cases h
theorem zx_alen {L : Nat}
    (ruleS : ∀ {H : Heap} {locs : List Loc} {cells slots : Nat} {ls : Array Slot} {rest : List Value}, va_S (za_A E) s.heap H locs → W p l e R s m args below meth c H locs cells slots Q (F0 m (pc + 1) ls (.int (Int32.ofNat L) :: rest)) → W p l e R s m args below meth c H locs cells slots Q (F0 m pc ls (.ref (za_b E) :: rest)))
    (rule : ∀ {k : Nat} {ty : FieldType} {cA : ClassId} {H : Heap} {locs : List Loc} {cells slots : Nat} {ls : Array Slot} {rest : List Value} {ws : va_W} {q a : Nat} {x : vp_A}, (za_tys E)[k]? = some (cA, ty) → va_P (za_D E) vwCl ws H → ws[q]? = some (a, .inl (cA, x)) → W p l e R s m args below meth c H locs cells slots Q (F0 m (pc + 1) ls (.int (Int32.ofNat x.1) :: rest)) → W p l e R s m args below meth c H locs cells slots Q (F0 m pc ls (.ref a :: rest)))
    (h : zp_alen L pc lv st t = some (.inl S9)) (hk : zp_G p l e R s m args below meth c Q E nL ads0 S9) : zp_G p l e R s m args below meth c Q E nL ads0 (pc, lv, st, t) := by
  intro ads H locs ls stk M
  obtain ⟨h1, h3, h4, h5, h6⟩ := M
  unfold zp_alen at h
  split at h
  · rename_i rest
    obtain ⟨_, stk1, rfl, ⟨a, rfl, ha⟩, q1⟩ := za_F2_cons h3
    have hab : a = za_b E := by
      obtain ⟨ws, e1, -⟩ := h5
      rw [e1] at ha
      exact (Option.some.inj ha).symm
    subst hab
    exact ruleS h6 (zx_go h hk ads H locs ls (_ :: stk1) ⟨h1, ⟨rfl, q1⟩, h4, h5, h6⟩)
  · rename_i q rest
    split at h
    · rename_i ty n ho
      obtain ⟨_, stk1, rfl, ⟨a, rfl, ha⟩, q1⟩ := za_F2_cons h3
      obtain ⟨ws, x9, e1, e2, e3, e4, e5, e6, e7⟩ := zp_obj h5 ha ho
      match x9, e6, e7 with
      | .inl (cA, n', .inl f), e6, e7 =>
        obtain ⟨rfl, ht, rfl, f4⟩ := e7
        exact rule (za_tys_tc ht) e4 e6 (zx_go h hk ads H locs ls (_ :: stk1) ⟨h1, ⟨rfl, q1⟩, h4, h5, h6⟩)
      | .inl (cA, n', .inr (.inl f)), e6, e7 =>
        obtain ⟨rfl, ht, rfl, f4⟩ := e7
        exact rule (k := 3) rfl e4 e6 (zx_go h hk ads H locs ls (_ :: stk1) ⟨h1, ⟨rfl, q1⟩, h4, h5, h6⟩)
    · cases h
  · cases h
end ZL
end
section
/-! ===== longs in arrays, fields written, branches ===== -/
/-- is the value of this type? -/
def zp_fit (ty : FieldType) (v : zp_V) : Bool := match ty, v with
  | .int, .inl _ => true
  | .boolean, .inl x => decide (x = 0 ∨ x = 1)
  | .long, .inr (.inl _) => true
  | .object _, .inr (.inr _) => true
  | .array _, .inr (.inr _) => true
  | _, _ => false
def zp_wf (H : zp_H) (p k : Nat) (v : zp_V) : zp_H := match v with
  | .inl x => (H.1, zp_u H.2.1 p k x, H.2.2)
  | .inr (.inl x) => (H.1, H.2.1, zp_u H.2.2.1 p k x, H.2.2.2)
  | .inr (.inr x) => (H.1, H.2.1, H.2.2.1, zp_u H.2.2.2 p k x)
def zp_putf (r : Option za_row) (own : Nat) (ini : Bool) (pc : Nat) (lv : zp_LV) (st : List zp_V) (t : zp_T) : zp_N := match r, st with
  | some (0, ci, k, fin), v :: .inr (.inr (some (q + 1))) :: rest => match t.1.1[q]? with
    | some (.inl cj) => bif Nat.beq cj ci then bif Nat.blt k (za_nX ci) then bif zp_fit (za_tyX ci k) v then if fin = 0 ∨ (ini = true ∧ ci = own) then zp_go lv (zp_wf t.1 q k v, t.2) (pc + 3) rest else none else none else none else none
    | _ => none
  | _, _ => none
theorem zp_fit_ok {ads : List Nat} {ty : FieldType} {v : zp_V} {w : Value} (hf : zp_fit ty v = true) (hw : zp_gV ads v w) : narrow ty w = w ∧ fits ty w = true := by
  match ty, v, hf, hw with
  | .int, .inl x, _, hw => rw [show w = .int x from hw]; exact ⟨rfl, rfl⟩
  | .boolean, .inl x, hf, hw =>
    rw [show w = .int x from hw]
    have h9 : x = 0 ∨ x = 1 := of_decide_eq_true hf
    rcases h9 with rfl | rfl
    · exact ⟨rfl, rfl⟩
    · exact ⟨rfl, rfl⟩
  | .long, .inr (.inl x), _, hw => rw [show w = .long x from hw]; exact ⟨rfl, rfl⟩
  | .object C, .inr (.inr none), _, hw => rw [show w = .null from hw]; exact ⟨rfl, rfl⟩
  | .object C, .inr (.inr (some k)), _, ⟨a, h1, _⟩ => rw [h1]; exact ⟨rfl, rfl⟩
  | .array C, .inr (.inr none), _, hw => rw [show w = .null from hw]; exact ⟨rfl, rfl⟩
  | .array C, .inr (.inr (some k)), _, ⟨a, h1, _⟩ => rw [h1]; exact ⟨rfl, rfl⟩
theorem zp_wf_fv {H : zp_H} {p k : Nat} {ty : FieldType} {v : zp_V} (hf : zp_fit ty v = true) : zp_fv (zp_wf H p k v) p ty k = v := by
  match ty, v, hf with
  | .int, .inl x, _ => simp [zp_fv, zp_wf, zp_u]
  | .boolean, .inl x, _ => simp [zp_fv, zp_wf, zp_u]
  | .long, .inr (.inl x), _ => simp [zp_fv, zp_wf, zp_u]
  | .object C, .inr (.inr x), _ => simp [zp_fv, zp_wf, zp_u]
  | .array C, .inr (.inr x), _ => simp [zp_fv, zp_wf, zp_u]
theorem zp_wf_ne {H : zp_H} {p k q j : Nat} {ty : FieldType} {v : zp_V} (h : ¬ (q = p ∧ j = k)) : zp_fv (zp_wf H p k v) q ty j = zp_fv H q ty j := by
  match v with
  | .inl x => cases ty <;> simp [zp_fv, zp_wf, zp_u, h]
  | .inr (.inl x) => cases ty <;> simp [zp_fv, zp_wf, zp_u, h]
  | .inr (.inr x) => cases ty <;> simp [zp_fv, zp_wf, zp_u, h]
theorem zp_wf_s (H : zp_H) (p k : Nat) (v : zp_V) : (zp_wf H p k v).1 = H.1 := by
  match v with
  | .inl x => rfl
  | .inr (.inl x) => rfl
  | .inr (.inr x) => rfl
theorem zp_wf_1 {H : zp_H} {p k : Nat} {v : zp_V} {q : Nat} (h : q ≠ p) : (∀ j, (zp_wf H p k v).2.1 q j = H.2.1 q j) ∧ (∀ j, (zp_wf H p k v).2.2.1 q j = H.2.2.1 q j) ∧ ∀ j, (zp_wf H p k v).2.2.2 q j = H.2.2.2 q j := by
  match v with
  | .inl x => exact ⟨fun j => by simp [zp_wf, zp_u, h], fun j => rfl, fun j => rfl⟩
  | .inr (.inl x) => exact ⟨fun j => rfl, fun j => by simp [zp_wf, zp_u, h], fun j => rfl⟩
  | .inr (.inr x) => exact ⟨fun j => rfl, fun j => rfl, fun j => by simp [zp_wf, zp_u, h]⟩
section ZP
variable {p : Program} {l : Launch} {e : Env} {R : Room} {s : State} {m : MethodId} {args : Array Value} {below : List Frame} {meth : Method} {c : Code} {Q : State → Prop} {E : za_E} {nL : Nat} {ads0 : List Nat} {pc : Nat} {lv : zp_LV} {t : zp_T} {st : List zp_V} {S9 : zp_S}
theorem zx_putf {r : Option za_row} {own : Nat} {ini : Bool}
    (rule : ∀ {ci k : Nat} {z : Int}, r = some (0, ci, k, z) → (z = 0 ∨ (ini = true ∧ ci = own)) → ∀ {H : Heap} {locs : List Loc} {cells slots : Nat} {ls : Array Slot} {rest : List Value} {ws : va_W} {q a : Nat} {vs : List Value} {v : Value}, va_P (za_D E) vwCl ws H → va_D (za_A E) ws → va_S (za_A E) s.heap H locs → ws[q]? = some (a, .inr (ci, vs)) → k < vs.length → narrow (za_tyX ci k) v = v → fits (za_tyX ci k) v = true →
      (∀ (H1 : Heap) (locs1 : List Loc), va_P (za_D E) vwCl (ws.set q (a, .inr (ci, vs.set k v))) H1 → va_D (za_A E) (ws.set q (a, .inr (ci, vs.set k v))) → va_S (za_A E) s.heap H1 locs1 → W p l e R s m args below meth c H1 locs1 cells slots Q (F0 m (pc + 3) ls rest)) → W p l e R s m args below meth c H locs cells slots Q (F0 m pc ls (v :: .ref a :: rest)))
    (h : zp_putf r own ini pc lv st t = some (.inl S9)) (hk : zp_G p l e R s m args below meth c Q E nL ads0 S9) : zp_G p l e R s m args below meth c Q E nL ads0 (pc, lv, st, t) := by
  intro ads H locs ls stk M
  obtain ⟨h1, h3, h4, h5, h6⟩ := M
  unfold zp_putf at h
  split at h
  · rename_i ci k fin v q rest
    split at h
    · rename_i cj ho
      obtain ⟨hc, h8⟩ := za_bif h
      have hc := za_beq hc
      subst hc
      obtain ⟨hl, h8⟩ := za_bif h8
      obtain ⟨hf, h8⟩ := za_bif h8
      split at h8
      · rename_i hz
        obtain ⟨w, stk1, rfl, w2, q1⟩ := za_F2_cons h3
        obtain ⟨_, stk2, rfl, ⟨a, rfl, ha⟩, q2⟩ := za_F2_cons q1
        obtain ⟨ws, x9, e1, e2, e3, e4, e5, e6, e7⟩ := zp_obj h5 ha ho
        match x9, e6, e7 with
        | .inr (cj9, vs), e6, e7 =>
          obtain ⟨rfl, f2, f3⟩ := e7
          have hk9 : k < vs.length := by rw [f2]; exact za_blt hl
          obtain ⟨n1, n2⟩ := zp_fit_ok hf w2
          refine rule rfl hz e4 e5 h6 e6 hk9 n1 n2 (fun H1 locs1 g1 g2 g3 => ?_)
          refine zx_go h8 hk ads H1 locs1 ls stk2 ⟨h1, q2, h4, ?_, g3⟩
          refine zp_set e1 e2 e3 ho e6 (zp_wf_s _ _ _ _) (fun p9 hp9 => (zp_wf_1 hp9).1) (fun p9 hp9 => (zp_wf_1 hp9).2.1) (fun p9 hp9 => (zp_wf_1 hp9).2.2) g1 g2 ⟨rfl, by rw [List.length_set]; exact f2, fun j w' hw' => ?_⟩
          by_cases hj : k = j
          · subst hj
            rw [List.getElem?_set_self hk9] at hw'
            cases hw'
            rw [zp_wf_fv hf]
            exact w2
          · rw [List.getElem?_set_ne hj] at hw'
            rw [zp_wf_ne (fun hh => hj hh.2.symm)]
            exact f3 j w' hw'
      · cases h8
    · cases h
  · cases h
theorem zx_if1 {P : Int32 → Prop} {o : Int} {x : Int32} {rest : List zp_V}
    (rule : ∀ {g : Nat} {H : Heap} {locs : List Loc} {cells slots : Nat} {ls : Array Slot} {rest : List Value} {x : Int32}, (pc : Int) + o = (g : Int) → (P x → W p l e R s m args below meth c H locs cells slots Q (F0 m g ls rest)) → (¬ P x → W p l e R s m args below meth c H locs cells slots Q (F0 m (pc + 3) ls rest)) → W p l e R s m args below meth c H locs cells slots Q (F0 m pc ls (.int x :: rest)))
    {g : Nat} (hg : zp_to o pc = some g) (hy : P x → zp_G p l e R s m args below meth c Q E nL ads0 (g, lv, rest, t)) (hn : ¬ P x → zp_G p l e R s m args below meth c Q E nL ads0 (pc + 3, lv, rest, t)) : zp_G p l e R s m args below meth c Q E nL ads0 (pc, lv, .inl x :: rest, t) := by
  intro ads H locs ls stk M
  obtain ⟨h1, h3, h4, h5, h6⟩ := M
  obtain ⟨_, stk1, rfl, rfl, q1⟩ := za_F2_cons h3
  have hg' : (pc : Int) + o = (g : Int) := by
    unfold zp_to at hg
    split at hg
    · rename_i g9 h9
      cases hg
      exact h9
    · cases hg
  exact rule hg' (fun h => hy h ads H locs ls stk1 ⟨h1, q1, h4, h5, h6⟩) (fun h => hn h ads H locs ls stk1 ⟨h1, q1, h4, h5, h6⟩)
end ZP
end
section
/-! ===== stack alone; longs in arrays ===== -/
section ZT
variable {p : Program} {l : Launch} {e : Env} {R : Room} {s : State} {m : MethodId} {args : Array Value} {below : List Frame} {meth : Method} {c : Code} {Q : State → Prop} {E : za_E} {nL : Nat} {ads0 : List Nat} {pc : Nat} {lv : zp_LV} {t : zp_T} {st : List zp_V} {S9 : zp_S}
/-- an instruction of the stack alone -/
theorem zx_st {st' : List zp_V} {pc' : Nat}
    (rule : ∀ {H : Heap} {locs : List Loc} {cells slots : Nat} {ls : Array Slot} {ads : List Nat} {stk : List Value}, za_F2 (zp_gV ads) st stk → ∃ stk', za_F2 (zp_gV ads) st' stk' ∧ (W p l e R s m args below meth c H locs cells slots Q (F0 m pc' ls stk') → W p l e R s m args below meth c H locs cells slots Q (F0 m pc ls stk)))
    (hk : zp_G p l e R s m args below meth c Q E nL ads0 (pc', lv, st', t)) : zp_G p l e R s m args below meth c Q E nL ads0 (pc, lv, st, t) := by
  intro ads H locs ls stk M
  obtain ⟨h1, h3, h4, h5, h6⟩ := M
  obtain ⟨stk', g1, g2⟩ := rule (H := H) (locs := locs) (cells := t.2.1) (slots := t.2.2) (ls := ls) h3
  exact g2 (hk ads H locs ls stk' ⟨h1, g1, h4, h5, h6⟩)
theorem zx_push {v : zp_V} {w : Value} {k : Nat} (hv : ∀ ads, zp_gV ads v w)
    (rule : ∀ {H : Heap} {locs : List Loc} {cells slots : Nat} {ls : Array Slot} {rest : List Value}, W p l e R s m args below meth c H locs cells slots Q (F0 m (pc + k) ls (w :: rest)) → W p l e R s m args below meth c H locs cells slots Q (F0 m pc ls rest))
    (hk : zp_G p l e R s m args below meth c Q E nL ads0 (pc + k, lv, v :: st, t)) : zp_G p l e R s m args below meth c Q E nL ads0 (pc, lv, st, t) :=
  zx_st (st' := v :: st) (fun {H locs cells slots ls ads stk} h => ⟨w :: stk, ⟨hv ads, h⟩, rule⟩) hk
theorem zx_dup {v : zp_V} (hc : zp_cat v = 1)
    (rule : ∀ {H : Heap} {locs : List Loc} {cells slots : Nat} {ls : Array Slot} {rest : List Value} {w : Value}, w.category = 1 → W p l e R s m args below meth c H locs cells slots Q (F0 m (pc + 1) ls (w :: w :: rest)) → W p l e R s m args below meth c H locs cells slots Q (F0 m pc ls (w :: rest)))
    (hk : zp_G p l e R s m args below meth c Q E nL ads0 (pc + 1, lv, v :: v :: st, t)) : zp_G p l e R s m args below meth c Q E nL ads0 (pc, lv, v :: st, t) :=
  zx_st (fun {H locs cells slots ls ads stk} h => by
    obtain ⟨w, r, rfl, hw, q1⟩ := za_F2_cons h
    exact ⟨w :: w :: r, ⟨hw, hw, q1⟩, rule ((zp_cat_ok hw).trans hc)⟩) hk
theorem zx_pop {v : zp_V} (hc : zp_cat v = 1)
    (rule : ∀ {H : Heap} {locs : List Loc} {cells slots : Nat} {ls : Array Slot} {rest : List Value} {w : Value}, w.category = 1 → W p l e R s m args below meth c H locs cells slots Q (F0 m (pc + 1) ls rest) → W p l e R s m args below meth c H locs cells slots Q (F0 m pc ls (w :: rest)))
    (hk : zp_G p l e R s m args below meth c Q E nL ads0 (pc + 1, lv, st, t)) : zp_G p l e R s m args below meth c Q E nL ads0 (pc, lv, v :: st, t) :=
  zx_st (fun {H locs cells slots ls ads stk} h => by
    obtain ⟨w, r, rfl, hw, q1⟩ := za_F2_cons h
    exact ⟨r, q1, rule ((zp_cat_ok hw).trans hc)⟩) hk
theorem zx_dup2 {u v : zp_V} (hu : zp_cat u = 1) (hc : zp_cat v = 1)
    (rule : ∀ {H : Heap} {locs : List Loc} {cells slots : Nat} {ls : Array Slot} {rest : List Value} {w x : Value}, w.category = 1 → x.category = 1 → W p l e R s m args below meth c H locs cells slots Q (F0 m (pc + 1) ls (w :: x :: w :: x :: rest)) → W p l e R s m args below meth c H locs cells slots Q (F0 m pc ls (w :: x :: rest)))
    (hk : zp_G p l e R s m args below meth c Q E nL ads0 (pc + 1, lv, u :: v :: u :: v :: st, t)) : zp_G p l e R s m args below meth c Q E nL ads0 (pc, lv, u :: v :: st, t) :=
  zx_st (fun {H locs cells slots ls ads stk} h => by
    obtain ⟨w, r, rfl, hw, q1⟩ := za_F2_cons h
    obtain ⟨x, r2, rfl, hx, q2⟩ := za_F2_cons q1
    exact ⟨w :: x :: w :: x :: r2, ⟨hw, hx, hw, hx, q2⟩, rule ((zp_cat_ok hw).trans hu) ((zp_cat_ok hx).trans hc)⟩) hk
theorem zx_i2l {x : Int32}
    (rule : ∀ {H : Heap} {locs : List Loc} {cells slots : Nat} {ls : Array Slot} {rest : List Value} {x : Int32}, W p l e R s m args below meth c H locs cells slots Q (F0 m (pc + 1) ls (.long x.toInt64 :: rest)) → W p l e R s m args below meth c H locs cells slots Q (F0 m pc ls (.int x :: rest)))
    (hk : zp_G p l e R s m args below meth c Q E nL ads0 (pc + 1, lv, .inr (.inl x.toInt64) :: st, t)) : zp_G p l e R s m args below meth c Q E nL ads0 (pc, lv, .inl x :: st, t) :=
  zx_st (fun {H locs cells slots ls ads stk} h => by
    obtain ⟨_, r, rfl, rfl, q1⟩ := za_F2_cons h
    exact ⟨_ :: r, ⟨rfl, q1⟩, rule⟩) hk
theorem zx_l2i {x : Int64}
    (rule : ∀ {H : Heap} {locs : List Loc} {cells slots : Nat} {ls : Array Slot} {rest : List Value} {x : Int64}, W p l e R s m args below meth c H locs cells slots Q (F0 m (pc + 1) ls (.int x.toInt32 :: rest)) → W p l e R s m args below meth c H locs cells slots Q (F0 m pc ls (.long x :: rest)))
    (hk : zp_G p l e R s m args below meth c Q E nL ads0 (pc + 1, lv, .inl x.toInt32 :: st, t)) : zp_G p l e R s m args below meth c Q E nL ads0 (pc, lv, .inr (.inl x) :: st, t) :=
  zx_st (fun {H locs cells slots ls ads stk} h => by
    obtain ⟨_, r, rfl, rfl, q1⟩ := za_F2_cons h
    exact ⟨_ :: r, ⟨rfl, q1⟩, rule⟩) hk
theorem zx_if2 {P : Int32 → Int32 → Prop} {o : Int} {x y : Int32}
    (rule : ∀ {g : Nat} {H : Heap} {locs : List Loc} {cells slots : Nat} {ls : Array Slot} {rest : List Value} {x z : Int32}, (pc : Int) + o = (g : Int) → (P x z → W p l e R s m args below meth c H locs cells slots Q (F0 m g ls rest)) → (¬ P x z → W p l e R s m args below meth c H locs cells slots Q (F0 m (pc + 3) ls rest)) → W p l e R s m args below meth c H locs cells slots Q (F0 m pc ls (.int z :: .int x :: rest)))
    {g : Nat} (hg : (pc : Int) + o = (g : Int)) (hy : P x y → zp_G p l e R s m args below meth c Q E nL ads0 (g, lv, st, t)) (hn : ¬ P x y → zp_G p l e R s m args below meth c Q E nL ads0 (pc + 3, lv, st, t)) : zp_G p l e R s m args below meth c Q E nL ads0 (pc, lv, .inl y :: .inl x :: st, t) := by
  intro ads H locs ls stk M
  obtain ⟨h1, h3, h4, h5, h6⟩ := M
  obtain ⟨_, stk1, rfl, rfl, q1⟩ := za_F2_cons h3
  obtain ⟨_, stk2, rfl, rfl, q2⟩ := za_F2_cons q1
  exact rule hg (fun h => hy h ads H locs ls stk2 ⟨h1, q2, h4, h5, h6⟩) (fun h => hn h ads H locs ls stk2 ⟨h1, q2, h4, h5, h6⟩)
theorem zx_lld
    (rule : ∀ {H : Heap} {locs : List Loc} {cells slots : Nat} {ls : Array Slot} {rest : List Value} {ws : va_W} {q a n : Nat} {f : Nat → Int64} {i : Int32}, va_P (za_D E) vwCl ws H → ws[q]? = some (a, .inl (E.2.2.2.1.2.2.2, n, .inr (.inl f))) → vp_in i n → W p l e R s m args below meth c H locs cells slots Q (F0 m (pc + 1) ls (.long (f i.toNatClampNeg) :: rest)) → W p l e R s m args below meth c H locs cells slots Q (F0 m pc ls (.int i :: .ref a :: rest)))
    (h : zp_lld pc lv st t = some (.inl S9)) (hk : zp_G p l e R s m args below meth c Q E nL ads0 S9) : zp_G p l e R s m args below meth c Q E nL ads0 (pc, lv, st, t) := by
  intro ads H locs ls stk M
  obtain ⟨h1, h3, h4, h5, h6⟩ := M
  unfold zp_lld at h
  split at h
  · rename_i i q rest
    split at h
    · rename_i n ho
      split at h
      · rename_i hc
        obtain ⟨c3, c4⟩ := hc
        obtain ⟨k1, k2, k3⟩ := zp_ix c3 c4
        obtain ⟨_, stk1, rfl, rfl, q1⟩ := za_F2_cons h3
        obtain ⟨_, stk2, rfl, ⟨a, rfl, ha⟩, q2⟩ := za_F2_cons q1
        obtain ⟨ws, x9, e1, e2, e3, e4, e5, e6, e7⟩ := zp_obj h5 ha ho
        match x9, e6, e7 with
        | .inl (cA, n', .inr (.inl f)), e6, e7 =>
          obtain ⟨rfl, -, rfl, f4⟩ := e7
          refine rule e4 e6 k1 (zx_go h hk ads H locs ls (_ :: stk2) ⟨h1, ⟨?_, q2⟩, h4, h5, h6⟩)
          rw [k2, f4 _ k3]
          rfl
        | .inl (cA, n', .inl f), e6, e7 => exact absurd e7.2.1 (by omega)
      · cases h
    · cases h
  · cases h
theorem zx_lst
    (rule : ∀ {H : Heap} {locs : List Loc} {cells slots : Nat} {ls : Array Slot} {rest : List Value} {ws : va_W} {q a n : Nat} {f : Nat → Int64} {i : Int32} {x : Int64}, va_P (za_D E) vwCl ws H → va_D (za_A E) ws → va_S (za_A E) s.heap H locs → ws[q]? = some (a, .inl (E.2.2.2.1.2.2.2, n, .inr (.inl f))) → vp_in i n →
      (∀ (H1 : Heap) (locs1 : List Loc), va_P (za_D E) vwCl (ws.set q (a, .inl (E.2.2.2.1.2.2.2, n, .inr (.inl (vp_updL f i.toNatClampNeg x))))) H1 → va_D (za_A E) (ws.set q (a, .inl (E.2.2.2.1.2.2.2, n, .inr (.inl (vp_updL f i.toNatClampNeg x))))) → va_S (za_A E) s.heap H1 locs1 → W p l e R s m args below meth c H1 locs1 cells slots Q (F0 m (pc + 1) ls rest)) → W p l e R s m args below meth c H locs cells slots Q (F0 m pc ls (.long x :: .int i :: .ref a :: rest)))
    (h : zp_lst pc lv st t = some (.inl S9)) (hk : zp_G p l e R s m args below meth c Q E nL ads0 S9) : zp_G p l e R s m args below meth c Q E nL ads0 (pc, lv, st, t) := by
  intro ads H locs ls stk M
  obtain ⟨h1, h3, h4, h5, h6⟩ := M
  unfold zp_lst at h
  split at h
  · rename_i x i q rest
    split at h
    · rename_i n ho
      split at h
      · rename_i hc
        obtain ⟨c3, c4⟩ := hc
        obtain ⟨k1, k2, k3⟩ := zp_ix c3 c4
        obtain ⟨_, stk1, rfl, rfl, q1⟩ := za_F2_cons h3
        obtain ⟨_, stk2, rfl, rfl, q2⟩ := za_F2_cons q1
        obtain ⟨_, stk3, rfl, ⟨a, rfl, ha⟩, q3⟩ := za_F2_cons q2
        obtain ⟨ws, x9, e1, e2, e3, e4, e5, e6, e7⟩ := zp_obj h5 ha ho
        match x9, e6, e7 with
        | .inl (cA, n', .inr (.inl f)), e6, e7 =>
          obtain ⟨rfl, f5, rfl, f4⟩ := e7
          refine rule (x := x) e4 e5 h6 e6 k1 (fun H1 locs1 g1 g2 g3 => ?_)
          refine zx_go h hk ads H1 locs1 ls stk3 ⟨h1, q3, h4, ?_, g3⟩
          refine zp_set e1 e2 e3 ho e6 rfl (fun _ _ _ => rfl) ?_ (fun _ _ _ => rfl) g1 g2 ⟨rfl, f5, rfl, fun j hj => ?_⟩
          · intro p9 hp9 k9
            exact zp_u_ne (fun hh => hp9 hh.1)
          · show vp_updL f i.toNatClampNeg x j = zp_u t.1.2.2.1 q i.toInt.toNat x q j
            rw [k2]
            unfold vp_updL zp_u
            by_cases hj9 : j = i.toInt.toNat
            · rw [if_pos hj9, if_pos ⟨rfl, hj9⟩]
            · rw [if_neg hj9, if_neg (fun hh => hj9 hh.2)]
              exact f4 j hj
        | .inl (cA, n', .inl f), e6, e7 => exact absurd e7.2.1 (by omega)
      · cases h
    · cases h
  · cases h
end ZT
end
section
/-! ===== iinc, goto, switches, conversions ===== -/
section ZU
variable {p : Program} {l : Launch} {e : Env} {R : Room} {s : State} {m : MethodId} {args : Array Value} {below : List Frame} {meth : Method} {c : Code} {Q : State → Prop} {E : za_E} {nL : Nat} {ads0 : List Nat} {pc : Nat} {lv : zp_LV} {t : zp_T} {st : List zp_V}
theorem zx_goto {o : Int} {g : Nat}
    (rule : ∀ {g : Nat} {H : Heap} {locs : List Loc} {cells slots : Nat} {ls : Array Slot} {rest : List Value}, (pc : Int) + o = (g : Int) → W p l e R s m args below meth c H locs cells slots Q (F0 m g ls rest) → W p l e R s m args below meth c H locs cells slots Q (F0 m pc ls rest))
    (hg : (pc : Int) + o = (g : Int)) (hk : zp_G p l e R s m args below meth c Q E nL ads0 (g, lv, st, t)) : zp_G p l e R s m args below meth c Q E nL ads0 (pc, lv, st, t) :=
  zx_st (st' := st) (fun {H locs cells slots ls ads stk} h => ⟨stk, h, rule hg⟩) hk
theorem zx_unI {x : Int32} (g : Int32 → Int32)
    (rule : ∀ {H : Heap} {locs : List Loc} {cells slots : Nat} {ls : Array Slot} {rest : List Value} {x : Int32}, W p l e R s m args below meth c H locs cells slots Q (F0 m (pc + 1) ls (.int (g x) :: rest)) → W p l e R s m args below meth c H locs cells slots Q (F0 m pc ls (.int x :: rest)))
    (hk : zp_G p l e R s m args below meth c Q E nL ads0 (pc + 1, lv, .inl (g x) :: st, t)) : zp_G p l e R s m args below meth c Q E nL ads0 (pc, lv, .inl x :: st, t) :=
  zx_st (fun {H locs cells slots ls ads stk} h => by
    obtain ⟨_, r, rfl, rfl, q1⟩ := za_F2_cons h
    exact ⟨_ :: r, ⟨rfl, q1⟩, rule⟩) hk
theorem zx_lcmp {x y : Int64}
    (rule : ∀ {H : Heap} {locs : List Loc} {cells slots : Nat} {ls : Array Slot} {rest : List Value} {x y : Int64}, W p l e R s m args below meth c H locs cells slots Q (F0 m (pc + 1) ls (.int (lg_cmp x y) :: rest)) → W p l e R s m args below meth c H locs cells slots Q (F0 m pc ls (.long y :: .long x :: rest)))
    (hk : zp_G p l e R s m args below meth c Q E nL ads0 (pc + 1, lv, .inl (lg_cmp x y) :: st, t)) : zp_G p l e R s m args below meth c Q E nL ads0 (pc, lv, .inr (.inl y) :: .inr (.inl x) :: st, t) :=
  zx_st (fun {H locs cells slots ls ads stk} h => by
    obtain ⟨_, r, rfl, rfl, q1⟩ := za_F2_cons h
    obtain ⟨_, r2, rfl, rfl, q2⟩ := za_F2_cons q1
    exact ⟨_ :: r2, ⟨rfl, q2⟩, rule⟩) hk
theorem zx_tswIn {lo hi off : Int} {offs : Array Int} {x : Int32} {g : Nat}
    (rule : ∀ {g : Nat} {off : Int} {H : Heap} {locs : List Loc} {cells slots : Nat} {ls : Array Slot} {rest : List Value} {x : Int32}, ¬ x.toInt < lo → ¬ hi < x.toInt → offs[(x.toInt - lo).toNat]? = some off → (pc : Int) + off = (g : Int) → W p l e R s m args below meth c H locs cells slots Q (F0 m g ls rest) → W p l e R s m args below meth c H locs cells slots Q (F0 m pc ls (.int x :: rest)))
    (h1 : ¬ x.toInt < lo) (h2 : ¬ hi < x.toInt) (ho : offs[(x.toInt - lo).toNat]? = some off) (hg : (pc : Int) + off = (g : Int)) (hk : zp_G p l e R s m args below meth c Q E nL ads0 (g, lv, st, t)) : zp_G p l e R s m args below meth c Q E nL ads0 (pc, lv, .inl x :: st, t) :=
  zx_st (fun {H locs cells slots ls ads stk} h => by
    obtain ⟨_, r, rfl, rfl, q1⟩ := za_F2_cons h
    exact ⟨r, q1, rule h1 h2 ho hg⟩) hk
theorem zx_tswOut {lo hi dflt : Int} {x : Int32} {g : Nat}
    (rule : ∀ {g : Nat} {H : Heap} {locs : List Loc} {cells slots : Nat} {ls : Array Slot} {rest : List Value} {x : Int32}, x.toInt < lo ∨ hi < x.toInt → (pc : Int) + dflt = (g : Int) → W p l e R s m args below meth c H locs cells slots Q (F0 m g ls rest) → W p l e R s m args below meth c H locs cells slots Q (F0 m pc ls (.int x :: rest)))
    (h1 : x.toInt < lo ∨ hi < x.toInt) (hg : (pc : Int) + dflt = (g : Int)) (hk : zp_G p l e R s m args below meth c Q E nL ads0 (g, lv, st, t)) : zp_G p l e R s m args below meth c Q E nL ads0 (pc, lv, .inl x :: st, t) :=
  zx_st (fun {H locs cells slots ls ads stk} h => by
    obtain ⟨_, r, rfl, rfl, q1⟩ := za_F2_cons h
    exact ⟨r, q1, rule h1 hg⟩) hk
theorem zx_lsw {dflt off : Int} {ps : Array (Int × Int)} {x : Int32} {g : Nat}
    (rule : ∀ {g : Nat} {off : Int} {H : Heap} {locs : List Loc} {cells slots : Nat} {ls : Array Slot} {rest : List Value} {x : Int32}, Op.lookupswitch.offset ps.toList dflt x.toInt = off → (pc : Int) + off = (g : Int) → W p l e R s m args below meth c H locs cells slots Q (F0 m g ls rest) → W p l e R s m args below meth c H locs cells slots Q (F0 m pc ls (.int x :: rest)))
    (ho : Op.lookupswitch.offset ps.toList dflt x.toInt = off) (hg : (pc : Int) + off = (g : Int)) (hk : zp_G p l e R s m args below meth c Q E nL ads0 (g, lv, st, t)) : zp_G p l e R s m args below meth c Q E nL ads0 (pc, lv, .inl x :: st, t) :=
  zx_st (fun {H locs cells slots ls ads stk} h => by
    obtain ⟨_, r, rfl, rfl, q1⟩ := za_F2_cons h
    exact ⟨r, q1, rule ho hg⟩) hk
theorem zx_iinc {i : Nat} {d : Int} {x : Int32} (hv : zp_get lv i = some (.inl x)) (hi : i < nL)
    (rule : ∀ {H : Heap} {locs : List Loc} {cells slots : Nat} {ls : Array Slot} {rest : List Value} {x : Int32} {k : Nat} {lc : List (Nat × Value)}, lv_has ls nL lc → lc[k]? = some (i, .int x) → i < nL → (∀ ls' : Array Slot, lv_has ls' nL ((i, Value.int (x + Int32.ofInt d)) :: lc.filter (fun q => !(q.1 == i) && !(q.1 + 1 == i && q.2.category == 2))) → W p l e R s m args below meth c H locs cells slots Q (F0 m (pc + 3) ls' rest)) → W p l e R s m args below meth c H locs cells slots Q (F0 m pc ls rest))
    (hk : zp_G p l e R s m args below meth c Q E nL ads0 (pc + 3, zp_st1 lv i (.inl (x + Int32.ofInt d)), st, t)) : zp_G p l e R s m args below meth c Q E nL ads0 (pc, lv, st, t) := by
  intro ads H locs ls stk M
  obtain ⟨h1, h3, ⟨lc, l1, l2⟩, h5, h6⟩ := M
  obtain ⟨w, w1, w2⟩ := zp_get_ok l2 hv
  have hw : w = .int x := w2
  subst hw
  obtain ⟨k, hk9⟩ := List.getElem?_of_mem w1
  exact rule l1 hk9 hi (fun ls' l1' => hk ads H locs ls' stk ⟨h1, h3, ⟨_, l1', zp_st1_ok (w := .int (x + Int32.ofInt d)) l2 rfl⟩, h5, h6⟩)
end ZU
end
section
/-! ===== the exact interpreter: every instruction; a method's run; calls ===== -/
def zp_wt : List zp_V → Nat
  | [] => 0
  | v :: l => zp_cat v + zp_wt l
def zp_ua {α : Type} (f : Nat → Nat → α) (p : Nat) (g : Nat → α) : Nat → Nat → α := fun q i => if q = p then g i else f q i
def zp_iinc (i nL : Nat) (d : Int) (pc : Nat) (lv : zp_LV) (st : List zp_V) (t : zp_T) : zp_N := match zp_get lv i with
  | some (.inl x) => bif Nat.blt i nL then zp_go (zp_st1 lv i (.inl (x + Int32.ofInt d))) t (pc + 3) st else none
  | _ => none
def zp_acp (pc : Nat) (lv : zp_LV) (st : List zp_V) (t : zp_T) : zp_N := match st with
  | .inl cn :: .inl dp :: .inr (.inr (some (q1 + 1))) :: .inl sp :: .inr (.inr (some (q0 + 1))) :: rest => match t.1.1[q0]?, t.1.1[q1]? with
    | some (.inr (0, n0)), some (.inr (0, n1)) => if 0 ≤ cn.toInt ∧ 0 ≤ dp.toInt ∧ 0 ≤ sp.toInt ∧ sp.toInt + cn.toInt ≤ n0 ∧ dp.toInt + cn.toInt ≤ n1 ∧ zp_wt rest ≤ 8 then zp_go lv ((t.1.1, zp_ua t.1.2.1 q1 (va_cpy (t.1.2.1 q0) (t.1.2.1 q1) sp.toInt.toNat dp.toInt.toNat cn.toInt.toNat), t.1.2.2), t.2) (pc + 3) rest else none
    | _, _ => none
  | _ => none
def zp_jmp (o : Int) (pc : Nat) (lv : zp_LV) (st : List zp_V) (t : zp_T) : zp_N := match zp_to o pc with
  | some g => zp_go lv t g st
  | none => none
def zp_br (b : Bool) (o : Int) (pc : Nat) (lv : zp_LV) (st : List zp_V) (t : zp_T) : zp_N := match zp_to o pc with
  | some g => zp_go lv t (bif b then g else pc + 3) st
  | none => none
def zp_if1 (f : Int32 → Bool) (o : Int) (pc : Nat) (lv : zp_LV) (st : List zp_V) (t : zp_T) : zp_N := match st with
  | .inl x :: r => zp_br (f x) o pc lv r t
  | _ => none
def zp_if2 (f : Int32 → Int32 → Bool) (o : Int) (pc : Nat) (lv : zp_LV) (st : List zp_V) (t : zp_T) : zp_N := match st with
  | .inl y :: .inl x :: r => zp_br (f x y) o pc lv r t
  | _ => none
def zp_tsw (dflt lo hi : Int) (offs : Array Int) (pc : Nat) (lv : zp_LV) (st : List zp_V) (t : zp_T) : zp_N := match st with
  | .inl x :: r => if x.toInt < lo ∨ hi < x.toInt then zp_jmp dflt pc lv r t else match offs[(x.toInt - lo).toNat]? with
    | some off => zp_jmp off pc lv r t
    | none => none
  | _ => none
def zp_lsw (dflt : Int) (ps : Array (Int × Int)) (pc : Nat) (lv : zp_LV) (st : List zp_V) (t : zp_T) : zp_N := match st with
  | .inl x :: r => bif (ps.toList.zip (ps.toList.drop 1)).all (fun (a, next) => a.1 < next.1) then zp_jmp (Op.lookupswitch.offset ps.toList dflt x.toInt) pc lv r t else none
  | _ => none
def zp_unI (g : Int32 → Int32) (pc : Nat) (lv : zp_LV) (st : List zp_V) (t : zp_T) : zp_N := match st with
  | .inl x :: r => zp_go lv t (pc + 1) (.inl (g x) :: r)
  | _ => none
def zp_i2l (pc : Nat) (lv : zp_LV) (st : List zp_V) (t : zp_T) : zp_N := match st with
  | .inl x :: r => zp_go lv t (pc + 1) (.inr (.inl x.toInt64) :: r)
  | _ => none
def zp_l2i (pc : Nat) (lv : zp_LV) (st : List zp_V) (t : zp_T) : zp_N := match st with
  | .inr (.inl x) :: r => zp_go lv t (pc + 1) (.inl x.toInt32 :: r)
  | _ => none
def zp_lcmp (pc : Nat) (lv : zp_LV) (st : List zp_V) (t : zp_T) : zp_N := match st with
  | .inr (.inl y) :: .inr (.inl x) :: r => zp_go lv t (pc + 1) (.inl (lg_cmp x y) :: r)
  | _ => none
def zp_dup (pc : Nat) (lv : zp_LV) (st : List zp_V) (t : zp_T) : zp_N := match st with
  | v :: r => bif Nat.beq (zp_cat v) 1 then zp_go lv t (pc + 1) (v :: v :: r) else none
  | _ => none
def zp_pop (pc : Nat) (lv : zp_LV) (st : List zp_V) (t : zp_T) : zp_N := match st with
  | v :: r => bif Nat.beq (zp_cat v) 1 then zp_go lv t (pc + 1) r else none
  | _ => none
def zp_dup2 (pc : Nat) (lv : zp_LV) (st : List zp_V) (t : zp_T) : zp_N := match st with
  | u :: v :: r => bif Nat.beq (zp_cat u) 1 then bif Nat.beq (zp_cat v) 1 then zp_go lv t (pc + 1) (u :: v :: u :: v :: r) else none else none
  | _ => none
/-- the words that the reader knows, as bytes -/
def zp_spell : List Nat := [110, 111, 114, 116, 104, 32, 101, 97, 115, 116, 32, 115, 111, 117, 116, 104, 32, 119, 101, 115, 116, 32, 120, 32, 121, 32, 104, 111, 117, 114, 32, 116, 105, 100, 101, 32, 111, 114, 32, 97, 110, 100, 32, 110, 111, 116, 32, 103, 111, 32, 115, 101, 97, 32, 114, 111, 99, 107, 32, 99, 117, 114, 114, 101, 110, 116, 32, 115, 108, 97, 116, 101, 32, 104, 97, 110, 100, 32, 115, 99, 104, 111, 111, 108, 32, 103, 111, 97, 108, 32, 112, 105, 108, 111, 116, 32, 114, 117, 108, 101, 32]
/-- a text's length, or a letter of it: ldc, then length() or a local and charAt() -/
def zp_str (cl k : Nat) (is : List (Nat × Instr)) (pc : Nat) (lv : zp_LV) (st : List zp_V) (t : zp_T) : zp_N :=
  bif Nat.beq cl 9 then bif Nat.beq k 56 then bif Nat.ble (zp_wt st) 8 then match za_fe is (pc + 2) with
    | some (.invokevirtual j) => bif Nat.beq j 58 then zp_go lv t (pc + 5) (.inl (Int32.ofNat zp_spell.length) :: st) else none
    | some (.iload_n i) => match za_fe is (pc + 3), zp_get lv i.val with
      | some (.invokevirtual j), some (.inl x) => bif Nat.beq j 63 then if 0 ≤ x.toInt ∧ x.toInt < zp_spell.length then zp_go lv t (pc + 6) (.inl (Int32.ofNat (zp_spell.getD x.toInt.toNat 0)) :: st) else none else none
      | _, _ => none
    | _ => none
    else none else none else none
def zp_ldc (n : Nat) (r : Option za_row) (pc : Nat) (lv : zp_LV) (st : List zp_V) (t : zp_T) : zp_N := match r with
  | some (7, _, _, v) => zp_go lv t (pc + n) (.inl (Int32.ofInt v) :: st)
  | _ => none
def zp_ldc2 (r : Option za_row) (pc : Nat) (lv : zp_LV) (st : List zp_V) (t : zp_T) : zp_N := match r with
  | some (8, _, _, v) => zp_go lv t (pc + 3) (.inr (.inl (Int64.ofInt v)) :: st)
  | _ => none
def zp_ins (L : Nat) (σ : Nat → Int32) (M : za_MI) (cp : Nat → Option za_row) (i : Instr) (pc : Nat) (lv : zp_LV) (st : List zp_V) (t : zp_T) : zp_N := match i with
  | .iconst k => zp_go lv t (pc + 1) (.inl (Int32.ofInt k) :: st)
  | .bipush k => bif za_ile (-128) k then bif za_ile k 127 then zp_go lv t (pc + 2) (.inl (Int32.ofInt k) :: st) else none else none
  | .sipush k => zp_go lv t (pc + 3) (.inl (Int16.ofInt k).toInt32 :: st)
  | .lconst k => zp_go lv t (pc + 1) (.inr (.inl (Int64.ofNat k)) :: st)
  | .ldc k => bif Nat.beq k 56 then zp_str (za_cl M) k (za_is M) pc lv st t else zp_ldc 2 (cp k) pc lv st t
  | .ldc_w k => zp_ldc 3 (cp k) pc lv st t
  | .ldc2_w k => zp_ldc2 (cp k) pc lv st t
  | .iload k => zp_load 2 k zp_isI pc lv st t
  | .iload_n k => zp_load 1 k zp_isI pc lv st t
  | .lload k => zp_load 2 k zp_isL pc lv st t
  | .lload_n k => zp_load 1 k zp_isL pc lv st t
  | .aload k => zp_load 2 k zp_isR pc lv st t
  | .aload_n k => zp_load 1 k zp_isR pc lv st t
  | .istore k => zp_stor1 2 k (za_nL M) zp_isI pc lv st t
  | .istore_n k => zp_stor1 1 k (za_nL M) zp_isI pc lv st t
  | .astore k => zp_stor1 2 k (za_nL M) zp_isR pc lv st t
  | .astore_n k => zp_stor1 1 k (za_nL M) zp_isR pc lv st t
  | .lstore k => zp_stor2 2 k (za_nL M) pc lv st t
  | .lstore_n k => zp_stor2 1 k (za_nL M) pc lv st t
  | .iinc k d => zp_iinc k (za_nL M) d pc lv st t
  | .iadd => zp_binI (· + ·) pc lv st t
  | .isub => zp_binI (· - ·) pc lv st t
  | .imul => zp_binI (· * ·) pc lv st t
  | .iand => zp_binI (· &&& ·) pc lv st t
  | .ior => zp_binI (· ||| ·) pc lv st t
  | .ixor => zp_binI (· ^^^ ·) pc lv st t
  | .ishl => zp_binI (fun x y => x <<< (y &&& 31)) pc lv st t
  | .ishr => zp_binI (fun x y => x >>> (y &&& 31)) pc lv st t
  | .iushr => zp_binI (fun x y => (x.toUInt32 >>> (y.toUInt32 &&& Int32.toUInt32 31)).toInt32) pc lv st t
  | .idiv => zp_divI (· / ·) pc lv st t
  | .irem => zp_divI (fun x y => x - x / y * y) pc lv st t
  | .i2b => zp_unI (fun x => x.toInt8.toInt32) pc lv st t
  | .ineg => zp_unI (fun x => -x) pc lv st t
  | .ladd => zp_binL (· + ·) pc lv st t
  | .lsub => zp_binL (· - ·) pc lv st t
  | .lmul => zp_binL (· * ·) pc lv st t
  | .land => zp_binL (· &&& ·) pc lv st t
  | .lor => zp_binL (· ||| ·) pc lv st t
  | .lxor => zp_binL (· ^^^ ·) pc lv st t
  | .lshl => zp_shL za_shl0 pc lv st t
  | .lshr => zp_shL za_shr0 pc lv st t
  | .lushr => zp_shL za_ushr0 pc lv st t
  | .i2l => zp_i2l pc lv st t
  | .l2i => zp_l2i pc lv st t
  | .lcmp => zp_lcmp pc lv st t
  | .dup => zp_dup pc lv st t
  | .pop => zp_pop pc lv st t
  | .dup2 => zp_dup2 pc lv st t
  | .ifCond .eq o => zp_if1 (fun x => decide (x = 0)) o pc lv st t
  | .ifCond .ne o => zp_if1 (fun x => decide (¬ x = 0)) o pc lv st t
  | .ifCond .lt o => zp_if1 (fun x => decide (x < 0)) o pc lv st t
  | .ifCond .ge o => zp_if1 (fun x => decide (0 ≤ x)) o pc lv st t
  | .ifCond .gt o => zp_if1 (fun x => decide (0 < x)) o pc lv st t
  | .ifCond .le o => zp_if1 (fun x => decide (x ≤ 0)) o pc lv st t
  | .if_icmp .eq o => zp_if2 (fun x y => decide (x = y)) o pc lv st t
  | .if_icmp .ne o => zp_if2 (fun x y => decide (¬ x = y)) o pc lv st t
  | .if_icmp .lt o => zp_if2 (fun x y => decide (x < y)) o pc lv st t
  | .if_icmp .ge o => zp_if2 (fun x y => decide (y ≤ x)) o pc lv st t
  | .if_icmp .gt o => zp_if2 (fun x y => decide (y < x)) o pc lv st t
  | .if_icmp .le o => zp_if2 (fun x y => decide (x ≤ y)) o pc lv st t
  | .goto o => zp_jmp o pc lv st t
  | .tableswitch d lo hi os => zp_tsw d lo hi os pc lv st t
  | .lookupswitch d ps => zp_lsw d ps pc lv st t
  | .getfield k => zp_getf (cp k) pc lv st t
  | .putfield k => zp_putf (cp k) (za_cl M) (za_ini M) pc lv st t
  | .iaload => zp_ald L σ false pc lv st t
  | .baload => zp_ald L σ true pc lv st t
  | .iastore => zp_ast false pc lv st t
  | .bastore => zp_ast true pc lv st t
  | .laload => zp_lld pc lv st t
  | .lastore => zp_lst pc lv st t
  | .arraylength => zp_alen L pc lv st t
  | .invokestatic k => match cp k with
    | some (14, _, _, _) => zp_acp pc lv st t
    | _ => none
  | _ => none
/-! ends -/
def zp_iret (mc ms : Nat) (rt : Option FieldType) (st : List zp_V) (t : zp_T) : Option zp_X := match rt, st with
  | some .int, [.inl a] => if t.2.1 ≤ mc ∧ t.2.2 ≤ ms then some (.inl (some (.inl a)), t.1) else none
  | some .boolean, [.inl a] => if (t.2.1 ≤ mc ∧ t.2.2 ≤ ms) ∧ (a = 0 ∨ a = 1) then some (.inl (some (.inl a)), t.1) else none
  | _, _ => none
def zp_lret (mc ms : Nat) (rt : Option FieldType) (st : List zp_V) (t : zp_T) : Option zp_X := match rt, st with
  | some .long, [.inr (.inl a)] => if t.2.1 ≤ mc ∧ t.2.2 ≤ ms then some (.inl (some (.inr (.inl a))), t.1) else none
  | _, _ => none
def zp_vret (mc ms : Nat) (rt : Option FieldType) (st : List zp_V) (t : zp_T) : Option zp_X := match rt, st with
  | none, [] => if t.2.1 ≤ mc ∧ t.2.2 ≤ ms then some (.inl none, t.1) else none
  | _, _ => none
def zp_thr (mc ms : Nat) (tab : List (Nat × Instr)) (cp : Nat → Option za_row) (ex : Nat) (pc : Nat) (st : List zp_V) (t : zp_T) : Option zp_X := match za_fe tab (pc + 3), za_fe tab (pc + 4) with
  | some .dup, some (.ldc is) => match za_fe tab (pc + 6), za_fe tab (pc + 9) with
    | some (.invokespecial ic), some .athrow => match cp is, cp ic with
      | some (10, _, _, _), some (15, ex', _, _) => if ex' = ex ∧ zp_wt st ≤ 8 ∧ t.2.1 + 1 ≤ mc ∧ t.2.2 + 6 ≤ ms then some (.inr ex, t.1) else none
      | _, _ => none
    | _, _ => none
  | some .dup, some (.ldc_w is) => match za_fe tab (pc + 7), za_fe tab (pc + 10) with
    | some (.invokespecial ic), some .athrow => match cp is, cp ic with
      | some (10, _, _, _), some (15, ex', _, _) => if ex' = ex ∧ zp_wt st ≤ 8 ∧ t.2.1 + 1 ≤ mc ∧ t.2.2 + 6 ≤ ms then some (.inr ex, t.1) else none
      | _, _ => none
    | _, _ => none
  | _, _ => none
def zp_end (M : za_MI) (cp : Nat → Option za_row) (i : Instr) (pc : Nat) (st : List zp_V) (t : zp_T) : Option zp_X := match i with
  | .ireturn => zp_iret (za_mc M) (za_ms M) (za_rt M) st t
  | .lreturn => zp_lret (za_mc M) (za_ms M) (za_rt M) st t
  | .return_ => zp_vret (za_mc M) (za_ms M) (za_rt M) st t
  | .new k => match cp k, za_hh M with
    | some (6, ex, _, _), [] => zp_thr (za_mc M) (za_ms M) (za_is M) cp ex pc st t
    | _, _ => none
  | _ => none
/-! calls -/
/-- the receiver is an object of this kind -/
def zp_isRk (st : List zp_V) (k : Nat) (h : zp_H) (own : Nat) : Bool := match st[k]? with
  | some (.inr (.inr (some (q + 1)))) => match h.1[q]? with
    | some (.inl ci) => Nat.beq ci own
    | _ => false
  | _ => false
/-- may it throw? its number, how many values it takes, the method -/
def zp_cl (cp : Nat → Option za_row) (i : Instr) (st : List zp_V) (t : zp_T) : Option (Bool × Nat × Nat × za_MI) := match i with
  | .invokevirtual k => match cp k with
    | some (1, j, n, _) => match za_MT j with
      | some Y => bif zp_isRk st n t.1 (za_cl Y) then some (false, j, n + 1, Y) else none
      | none => none
    | some (11, j, n, _) => match za_MT j with
      | some Y => bif zp_isRk st n t.1 (za_cl Y) then some (true, j, n + 1, Y) else none
      | none => none
    | _ => none
  | .invokestatic k => match cp k with
    | some (2, j, n, _) => match za_MT j with
      | some Y => some (false, j, n, Y)
      | none => none
    | some (12, j, n, _) => match za_MT j with
      | some Y => some (true, j, n, Y)
      | none => none
    | _ => none
  | _ => none
abbrev zp_C : Type := Nat → List zp_V → zp_H → zp_X → Prop
def zp_pre (M Y : za_MI) (k : Nat) (st : List zp_V) (t : zp_T) : Prop := k ≤ st.length ∧ zp_wt (st.drop k) ≤ 8 ∧ t.2.1 + za_mc Y ≤ za_mc M ∧ t.2.2 + za_ms Y ≤ za_ms M
/-- the exception's own local is forgotten -/
def zp_fl (lv : zp_LV) (k : Nat) : zp_LV := lv.filter (fun q => !(q.1 == k) && !(q.1 + 1 == k && zp_cat q.2 == 2))
def zp_aft (M : za_MI) (cp : Nat → Option za_row) (pc : Nat) (lv : zp_LV) (rest : List zp_V) (cs sl : Nat) (x : zp_X) : Option (zp_S ⊕ zp_X) := match x with
  | (.inl (some v), h) => some (.inl (pc + 3, lv, v :: rest, h, cs, sl))
  | (.inl none, h) => some (.inl (pc + 3, lv, rest, h, cs, sl))
  | (.inr ex, h) => match za_hnd cp pc ex (za_hh M) with
    | none => none
    | some none => some (.inr (.inr ex, h))
    | some (some hp) => match za_fe (za_is M) hp with
      | some (.astore_n k) => bif Nat.blt k.val (za_nL M) then some (.inl (hp + 1, zp_fl lv k.val, [], h, cs, sl)) else none
      | some (.astore k) => bif Nat.blt k (za_nL M) then some (.inl (hp + 2, zp_fl lv k, [], h, cs, sl)) else none
      | _ => none
def zp_nox (x : zp_X) : Prop := match x.1 with
  | .inl _ => True
  | .inr _ => False
/-- it goes on there, or this is the end -/
def zp_K1 (R : zp_S → zp_X → Prop) (o : Option (zp_S ⊕ zp_X)) (X : zp_X) : Prop := match o with
  | some (.inl S) => R S X
  | some (.inr X') => X' = X
  | none => False
def zp_Stp (L : Nat) (σ : Nat → Int32) (M : za_MI) (C : zp_C) (R : zp_S → zp_X → Prop) (S : zp_S) (X : zp_X) : Prop := ∃ i, za_fe (za_is M) S.1 = some i ∧
  ((∃ S', zp_ins L σ M (za_CP (za_cl M)) i S.1 S.2.1 S.2.2.1 S.2.2.2 = some (.inl S') ∧ R S' X) ∨ zp_end M (za_CP (za_cl M)) i S.1 S.2.2.1 S.2.2.2 = some X ∨
    ∃ nx j k Y X1, zp_cl (za_CP (za_cl M)) i S.2.2.1 S.2.2.2 = some (nx, j, k, Y) ∧ zp_pre M Y k S.2.2.1 S.2.2.2 ∧ C j (S.2.2.1.take k).reverse S.2.2.2.1 X1 ∧ (nx = true → zp_nox X1) ∧ zp_K1 R (zp_aft M (za_CP (za_cl M)) S.1 S.2.1 (S.2.2.1.drop k) (S.2.2.2.2.1 + za_mc Y) (S.2.2.2.2.2 + za_ms Y) X1) X)
def zp_RunN (L : Nat) (σ : Nat → Int32) (M : za_MI) (C : zp_C) : Nat → zp_S → zp_X → Prop
  | 0 => fun _ _ => False
  | n + 1 => zp_Stp L σ M C (zp_RunN L σ M C n)
def zp_args : Nat → List zp_V → zp_LV
  | _, [] => []
  | i, v :: vs => (i, v) :: zp_args (if zp_cat v = 2 then i + 2 else i + 1) vs
def zp_Call (L : Nat) (σ : Nat → Int32) : Nat → zp_C
  | 0 => fun _ _ _ _ => False
  | d + 1 => fun j as h X => ∃ Y n, za_MT j = some Y ∧ zp_wt as ≤ za_nL Y ∧ zp_RunN L σ Y (zp_Call L σ d) n (0, zp_args 0 as, [], h, 0, 0) X
end
section
/-! ===== the exact interpreter is sound: every instruction that doesn't end ===== -/
theorem zp_jmpE {o : Int} {pc : Nat} {lv : zp_LV} {st : List zp_V} {t : zp_T} {S9 : zp_S} (h : zp_jmp o pc lv st t = some (.inl S9)) : ∃ g : Nat, (pc : Int) + o = (g : Int) ∧ zp_go lv t g st = some (.inl S9) := by
  unfold zp_jmp at h
  split at h
  · rename_i g hg
    refine ⟨g, ?_, h⟩
    unfold zp_to at hg
    split at hg
    · rename_i g9 h9
      cases hg
      exact h9
    · cases hg
  · cases h
theorem zp_brE {b : Bool} {o : Int} {pc : Nat} {lv : zp_LV} {st : List zp_V} {t : zp_T} {S9 : zp_S} (h : zp_br b o pc lv st t = some (.inl S9)) : ∃ g : Nat, zp_to o pc = some g ∧ (pc : Int) + o = (g : Int) ∧ zp_go lv t (bif b then g else pc + 3) st = some (.inl S9) := by
  unfold zp_br at h
  split at h
  · rename_i g hg
    refine ⟨g, hg, ?_, h⟩
    unfold zp_to at hg
    split at hg
    · rename_i g9 h9
      cases hg
      exact h9
    · cases hg
  · cases h
theorem zx_isI {ads : List Nat} {v : zp_V} {w : Value} (hf : zp_isI v = true) (h : zp_gV ads v w) : ∃ x, w = .int x := by
  match v, hf, h with
  | .inl x, _, h => exact ⟨x, h⟩
theorem zx_isL {ads : List Nat} {v : zp_V} {w : Value} (hf : zp_isL v = true) (h : zp_gV ads v w) : ∃ x, w = .long x := by
  match v, hf, h with
  | .inr (.inl x), _, h => exact ⟨x, h⟩
theorem zx_isR {ads : List Nat} {v : zp_V} {w : Value} (hf : zp_isR v = true) (h : zp_gV ads v w) : ∃ a, w = .ref a := by
  match v, hf, h with
  | .inr (.inr (some k)), _, ⟨a, h, _⟩ => exact ⟨a, h⟩
theorem zp_wt_ok : ∀ {ads : List Nat} {st : List zp_V} {stk : List Value}, za_F2 (zp_gV ads) st stk → (stk.map fun v => v.category).sum = zp_wt st
  | _, [], [], _ => rfl
  | _, v :: st, w :: stk, h => by
    have h1 := zp_wt_ok h.2
    have h2 := zp_cat_ok h.1
    show w.category + (stk.map fun v => v.category).sum = zp_cat v + zp_wt st
    omega
  | _, [], _ :: _, h => h.elim
  | _, _ :: _, [], h => h.elim
theorem zp_by8 {k : Int} (h1 : -128 ≤ k) (h2 : k ≤ 127) : (Int8.ofInt k).toInt32 = Int32.ofInt k := by
  apply Int32.toInt_inj.mp
  rw [Int8.toInt_toInt32, Int8.toInt_ofInt, Int32.toInt_ofInt]
  have e1 : k.bmod Int8.size = k := by
    show k.bmod 256 = k
    rw [Int.bmod_def]; split <;> omega
  have e2 : k.bmod Int32.size = k := by
    show k.bmod 4294967296 = k
    rw [Int.bmod_def]; split <;> omega
  rw [e1, e2]
section ZV
variable {p : Program} {l : Launch} {e : Env} {R : Room} {s s0 : State} {m : MethodId} {args : Array Value} {below : List Frame} {meth : Method} {c : Code} {Q : State → Prop} {E : za_E} {nL : Nat} {ads0 : List Nat} {pc L d : Nat} {M : za_MI} {lv : zp_LV} {t : zp_T} {st : List zp_V} {S9 : zp_S}
theorem zy_if1 {f : Int32 → Bool} {P : Int32 → Prop} (hf : ∀ x, f x = true ↔ P x) {o : Int}
    (rule : ∀ {g : Nat} {H : Heap} {locs : List Loc} {cells slots : Nat} {ls : Array Slot} {rest : List Value} {x : Int32}, (pc : Int) + o = (g : Int) → (P x → W p l e R s m args below meth c H locs cells slots Q (F0 m g ls rest)) → (¬ P x → W p l e R s m args below meth c H locs cells slots Q (F0 m (pc + 3) ls rest)) → W p l e R s m args below meth c H locs cells slots Q (F0 m pc ls (.int x :: rest)))
    (h : zp_if1 f o pc lv st t = some (.inl S9)) (hk : zp_G p l e R s m args below meth c Q E nL ads0 S9) : zp_G p l e R s m args below meth c Q E nL ads0 (pc, lv, st, t) := by
  unfold zp_if1 at h
  split at h
  · rename_i x r
    obtain ⟨g, hg, -, h⟩ := zp_brE h
    refine zx_if1 (P := P) rule hg (fun hp => ?_) (fun hn => ?_)
    · rw [(hf x).mpr hp] at h
      exact zx_go h hk
    · rw [show f x = false from Bool.eq_false_iff.mpr (fun z => hn ((hf x).mp z))] at h
      exact zx_go h hk
  · cases h
theorem zy_if2 {f : Int32 → Int32 → Bool} {P : Int32 → Int32 → Prop} (hf : ∀ x y, f x y = true ↔ P x y) {o : Int}
    (rule : ∀ {g : Nat} {H : Heap} {locs : List Loc} {cells slots : Nat} {ls : Array Slot} {rest : List Value} {x z : Int32}, (pc : Int) + o = (g : Int) → (P x z → W p l e R s m args below meth c H locs cells slots Q (F0 m g ls rest)) → (¬ P x z → W p l e R s m args below meth c H locs cells slots Q (F0 m (pc + 3) ls rest)) → W p l e R s m args below meth c H locs cells slots Q (F0 m pc ls (.int z :: .int x :: rest)))
    (h : zp_if2 f o pc lv st t = some (.inl S9)) (hk : zp_G p l e R s m args below meth c Q E nL ads0 S9) : zp_G p l e R s m args below meth c Q E nL ads0 (pc, lv, st, t) := by
  unfold zp_if2 at h
  split at h
  · rename_i y x r
    obtain ⟨g, -, hg, h⟩ := zp_brE h
    refine zx_if2 (P := P) rule hg (fun hp => ?_) (fun hn => ?_)
    · rw [(hf x y).mpr hp] at h
      exact zx_go h hk
    · rw [show f x y = false from Bool.eq_false_iff.mpr (fun z => hn ((hf x y).mp z))] at h
      exact zx_go h hk
  · cases h
theorem zy_acp
    (rule : ∀ {H : Heap} {locs : List Loc} {cells slots : Nat} {ls : Array Slot} {rest : List Value} {ws : va_W} {q0 q1 a0 a n0 n1 : Nat} {f g : Nat → Int32} {sp dp n : Int32}, ls.size = nL → va_P (za_D E) vwCl ws H → va_D (za_A E) ws → va_S (za_A E) s.heap H locs → ws[q0]? = some (a0, .inl (za_tc E 0, n0, .inl f)) → ws[q1]? = some (a, .inl (za_tc E 0, n1, .inl g)) → ¬ sp < 0 → ¬ dp < 0 → ¬ n < 0 → sp.toNatClampNeg + n.toNatClampNeg ≤ n0 → dp.toNatClampNeg + n.toNatClampNeg ≤ n1 → (rest.map fun v => v.category).sum ≤ 8 →
      (∀ (H1 : Heap) (locs1 : List Loc), va_P (za_D E) vwCl (ws.set q1 (a, .inl (za_tc E 0, n1, .inl (va_cpy f g sp.toNatClampNeg dp.toNatClampNeg n.toNatClampNeg)))) H1 → va_D (za_A E) (ws.set q1 (a, .inl (za_tc E 0, n1, .inl (va_cpy f g sp.toNatClampNeg dp.toNatClampNeg n.toNatClampNeg)))) → va_S (za_A E) s.heap H1 locs1 → W p l e R s m args below meth c H1 locs1 cells slots Q (F0 m (pc + 3) ls rest)) → W p l e R s m args below meth c H locs cells slots Q (F0 m pc ls (.int n :: .int dp :: .ref a :: .int sp :: .ref a0 :: rest)))
    (h : zp_acp pc lv st t = some (.inl S9)) (hk : zp_G p l e R s m args below meth c Q E nL ads0 S9) : zp_G p l e R s m args below meth c Q E nL ads0 (pc, lv, st, t) := by
  intro ads H locs ls stk M
  obtain ⟨h1, h3, h4, h5, h6⟩ := M
  unfold zp_acp at h
  split at h
  · rename_i cn dp r1 sp r0 rest
    split at h
    · rename_i n0 n1 o0 o1
      split at h
      · rename_i hc
        obtain ⟨c1, c2, c3, c4, c5, c6⟩ := hc
        obtain ⟨_, stk1, rfl, rfl, q1⟩ := za_F2_cons h3
        obtain ⟨_, stk2, rfl, rfl, q2⟩ := za_F2_cons q1
        obtain ⟨_, stk3, rfl, ⟨a, rfl, ha⟩, q3⟩ := za_F2_cons q2
        obtain ⟨_, stk4, rfl, rfl, q4⟩ := za_F2_cons q3
        obtain ⟨_, stk5, rfl, ⟨a0, rfl, ha0⟩, q5⟩ := za_F2_cons q4
        have k0 : ∀ {x : Int32}, 0 ≤ x.toInt → x.toInt = Int.ofNat x.toInt.toNat := fun {x} hx => by
          show x.toInt = ((x.toInt.toNat : Nat) : Int)
          omega
        obtain ⟨cn1, cn2⟩ := za_clamp (k0 c1)
        obtain ⟨cd1, cd2⟩ := za_clamp (k0 c2)
        obtain ⟨cs1, cs2⟩ := za_clamp (k0 c3)
        obtain ⟨ws, x0, e1, e2, e3, e4, e5, e6, e7⟩ := zp_obj h5 ha0 o0
        have hx1 : ∃ x1, ws[r1]? = some (a, x1) := by
          rw [e1, List.getElem?_cons_succ, List.getElem?_map] at ha
          cases hx : ws[r1]? with
          | none => rw [hx] at ha; cases ha
          | some q =>
            rw [hx] at ha
            have e9 : q.1 = a := Option.some.inj ha
            exact ⟨q.2, by rw [← e9]⟩
        obtain ⟨x1, z4⟩ := hx1
        have e8 := e3 _ _ _ o1 z4
        match x0, e6, e7, x1, z4, e8 with
        | .inl (cA, n', .inl f), e6, e7, .inl (cB, n'', .inl g), z4, e8 =>
          obtain ⟨rfl, -, rfl, f4⟩ := e7
          obtain ⟨rfl, -, rfl, g4⟩ := e8
          refine rule h4.choose_spec.1.1 e4 e5 h6 e6 z4 cs2 cd2 cn2 (by rw [cs1, cn1]; omega) (by rw [cd1, cn1]; omega) (by rw [zp_wt_ok q5]; exact c6) (fun H1 locs1 g1 g2 g3 => ?_)
          refine zx_go h hk ads H1 locs1 ls stk5 ⟨h1, q5, h4, ?_, g3⟩
          refine zp_set e1 e2 e3 o1 z4 rfl ?_ (fun _ _ _ => rfl) (fun _ _ _ => rfl) g1 g2 ⟨rfl, by decide, rfl, fun j hj => ?_⟩
          · intro p9 hp9 k9
            show (if p9 = r1 then _ else _) = _
            rw [if_neg hp9]
          · show va_cpy f g sp.toNatClampNeg dp.toNatClampNeg cn.toNatClampNeg j = (if r1 = r1 then _ else _)
            rw [if_pos rfl, cs1, cd1, cn1]
            unfold va_cpy
            by_cases e9 : dp.toInt.toNat ≤ j ∧ j < dp.toInt.toNat + cn.toInt.toNat
            · rw [if_pos e9, if_pos e9]
              exact f4 _ (by omega)
            · rw [if_neg e9, if_neg e9]
              exact g4 j hj
        | .inl (cA, n', .inr (.inl f)), e6, e7, _, z4, e8 => exact absurd e7.2.1 (by omega)
        | .inl (cA, n', .inl f), e6, e7, .inl (cB, n'', .inr (.inl g)), z4, e8 => exact absurd e8.2.1 (by omega)
      · cases h
    · cases h
  · cases h
theorem zy_getf {k : Nat} (X : za_Cx p l R s m args meth c E L s0 d M) (hdg : decode M.2.1 pc = .ok (.getfield k, 3)) (h : zp_getf (za_CP (za_cl M) k) pc lv st t = some (.inl S9)) (hk : zp_G p l e R s m args below meth c Q E (za_nL M) ads0 S9) : zp_G p l e R s m args below meth c Q E (za_nL M) ads0 (pc, lv, st, t) := by
  obtain ⟨hx, hb, hml, hr, hlocks, hnm, hown, htab, K, hW, h0, hdec, hRf, hRl, hRc, hRs⟩ := X
  refine zx_getf (fun {ci} {k9} {z} hrow => ?_) h hk
  obtain ⟨w1, w2⟩ := zc_row hrow
  obtain ⟨q9, hq9, g1, g2, g3⟩ := zb_0 w2
  obtain ⟨f1, f2, f3, f4, f5⟩ := zc_cls hq9
  refine ⟨by rw [← f4]; exact za_blt g1, ?_⟩
  intro H locs cells slots ls rest ws q a vs v hP he hv kk
  have hl := w1 (Cond.fieldLink (za_ow (za_cl M)) k (q9.2.1 k9).1 (q9.2.1 k9).2.1 (q9.2.1 k9).2.2.1) (by simp [za_need, za_wC, hq9])
  exact va_get hx hb (zk_w K hW) f1 hown (zk_K K hW) hP q he hq9 k9 (za_blt g1) (zk_w K hW _ hl) (fun x hx => hx) hv hdg kk
theorem zy_putf {k : Nat} (X : za_Cx p l R s m args meth c E L s0 d M) (hdg : decode M.2.1 pc = .ok (.putfield k, 3)) (h : zp_putf (za_CP (za_cl M) k) (za_cl M) (za_ini M) pc lv st t = some (.inl S9)) (hk : zp_G p l e R s m args below meth c Q E (za_nL M) ads0 S9) : zp_G p l e R s m args below meth c Q E (za_nL M) ads0 (pc, lv, st, t) := by
  obtain ⟨hx, hb, hml, hr, hlocks, hnm, hown, htab, K, hW, h0, hdec, hRf, hRl, hRc, hRs⟩ := X
  refine zx_putf (fun {ci} {k9} {z} hrow hz => ?_) h hk
  intro H locs cells slots ls rest ws q a vs v hP hD hS he hlen hn hf kk
  obtain ⟨w1, w2⟩ := zc_row hrow
  obtain ⟨q9, hq9, g1, g2, g3⟩ := zb_0 w2
  obtain ⟨f1, f2, f3, f4, f5⟩ := zc_cls hq9
  have hl := w1 (Cond.fieldLink (za_ow (za_cl M)) k (q9.2.1 k9).1 (q9.2.1 k9).2.1 (q9.2.1 k9).2.2.1) (by simp [za_need, za_wC, hq9])
  by_cases hz0 : z = 0
  · exact va_put hx hb (zk_w K hW) f1 (za_tyX ci) f2 f3 hown (zk_K K hW) hP hD hS q he hq9 k9 (za_blt g1) (zk_w K hW _ hl) (fun x hx => hx) (by rw [← g2, if_pos hz0]) (f2 k9 (za_blt g1)) hn hf hlen hdg kk
  · rcases hz with hz | ⟨hz1, hz2⟩
    · exact absurd hz hz0
    · have hin : meth.name = "<init>" := by rw [hnm]; exact of_decide_eq_true hz1
      exact va_putF hx hb (zk_w K hW) f1 (za_tyX ci) f2 f3 hown (zk_K K hW) hP hD hS q he hq9 k9 (za_blt g1) (zk_w K hW _ hl) (fun x hx => hx) (by rw [← g2, if_neg hz0]) hin (by rw [g3, f5, hz2]) (f2 k9 (za_blt g1)) hn hf hlen hdg kk
theorem zy_ald {bt : Bool} {i : Instr} (hi : i = if bt then .baload else .iaload) (X : za_Cx p l R s m args meth c E L s0 d M) (hdg : decode M.2.1 pc = .ok (i, 1)) (h : zp_ald L (za_σ E) bt pc lv st t = some (.inl S9)) (hk : zp_G p l e R s m args below meth c Q E (za_nL M) ads0 S9) : zp_G p l e R s m args below meth c Q E (za_nL M) ads0 (pc, lv, st, t) := by
  obtain ⟨hx, hb, hml, hr, hlocks, hnm, hown, htab, K, hW, h0, hdec, hRf, hRl, hRc, hRs⟩ := X
  have hK := zk_K K hW
  refine zx_ald (fun hbt => ?_) (fun {tt} htt hiff => ?_) h hk
  · intro H locs cells slots ls rest j hS hin kk
    subst hbt
    subst hi
    have hX : va_X (za_b E) L (za_σ E) s s.heap := (K.2.2.2.2.2.1.moved hW.alike).kept (by rw [h0.2 _ (by rw [K.2.1]; exact K.2.2.2.2.2.2.1), K.2.1])
    have hlt : za_b E < (za_H0 E).size := by rw [K.2.1]; exact K.2.2.2.2.2.2.1
    exact va_sld hx hb hX (Nat.lt_of_lt_of_le hlt h0.1) (Nat.not_le.mpr hlt) hS hin hdg kk
  · intro H locs cells slots ls rest ws q a n f j hP he hin kk
    match tt, htt, hiff, he with
    | 0, _, hiff, he =>
      have hbt := hiff.mpr rfl
      subst hbt; subst hi
      exact va_iald hx hb hK hP q 0 he rfl hin hdg kk
    | 1, _, hiff, he =>
      have hbt : bt = true := by cases bt with | true => rfl | false => exact absurd (hiff.mp rfl) (by decide)
      subst hbt; subst hi
      exact va_bald hx hb hK hP q 1 he rfl hin hdg kk
    | 2, _, hiff, he =>
      have hbt : bt = true := by cases bt with | true => rfl | false => exact absurd (hiff.mp rfl) (by decide)
      subst hbt; subst hi
      exact va_zald hx hb hK hP q 2 he rfl hin hdg kk
    | _ + 3, htt, _, _ => omega
theorem zy_ast {bt : Bool} {i : Instr} (hi : i = if bt then .bastore else .iastore) (X : za_Cx p l R s m args meth c E L s0 d M) (hdg : decode M.2.1 pc = .ok (i, 1)) (h : zp_ast bt pc lv st t = some (.inl S9)) (hk : zp_G p l e R s m args below meth c Q E (za_nL M) ads0 S9) : zp_G p l e R s m args below meth c Q E (za_nL M) ads0 (pc, lv, st, t) := by
  obtain ⟨hx, hb, hml, hr, hlocks, hnm, hown, htab, K, hW, h0, hdec, hRf, hRl, hRc, hRs⟩ := X
  have hK := zk_K K hW
  refine zx_ast (fun {tt} htt hiff => ?_) h hk
  intro H locs cells slots ls rest ws q a n f j x hP hD hS he hin kk
  match tt, htt, hiff, he, kk with
  | 0, _, hiff, he, kk =>
    have hbt := hiff.mpr rfl
    subst hbt; subst hi
    exact va_iast hx hb hK hP hD hS q 0 he rfl hin hdg kk
  | 1, _, hiff, he, kk =>
    have hbt : bt = true := by cases bt with | true => rfl | false => exact absurd (hiff.mp rfl) (by decide)
    subst hbt; subst hi
    exact va_bast hx hb hK hP hD hS q 1 he rfl hin hdg kk
  | 2, _, hiff, he, kk =>
    have hbt : bt = true := by cases bt with | true => rfl | false => exact absurd (hiff.mp rfl) (by decide)
    subst hbt; subst hi
    exact va_zast hx hb hK hP hD hS q 2 he rfl hin hdg kk
  | _ + 3, htt, _, _, _ => omega
theorem zy_alen (X : za_Cx p l R s m args meth c E L s0 d M) (hdg : decode M.2.1 pc = .ok (.arraylength, 1)) (h : zp_alen L pc lv st t = some (.inl S9)) (hk : zp_G p l e R s m args below meth c Q E (za_nL M) ads0 S9) : zp_G p l e R s m args below meth c Q E (za_nL M) ads0 (pc, lv, st, t) := by
  obtain ⟨hx, hb, hml, hr, hlocks, hnm, hown, htab, K, hW, h0, hdec, hRf, hRl, hRc, hRs⟩ := X
  have hK := zk_K K hW
  refine zx_alen ?_ ?_ h hk
  · intro H locs cells slots ls rest hS kk
    have hX : va_X (za_b E) L (za_σ E) s s.heap := (K.2.2.2.2.2.1.moved hW.alike).kept (by rw [h0.2 _ (by rw [K.2.1]; exact K.2.2.2.2.2.2.1), K.2.1])
    have hlt : za_b E < (za_H0 E).size := by rw [K.2.1]; exact K.2.2.2.2.2.2.1
    exact va_slen hx hb hX (Nat.lt_of_lt_of_le hlt h0.1) (Nat.not_le.mpr hlt) hS hdg kk
  · intro k ty cA H locs cells slots ls rest ws q a x htk hP he kk
    exact va_alen hx hb hK hP q k he htk rfl hdg kk
theorem zy_lld (X : za_Cx p l R s m args meth c E L s0 d M) (hdg : decode M.2.1 pc = .ok (.laload, 1)) (h : zp_lld pc lv st t = some (.inl S9)) (hk : zp_G p l e R s m args below meth c Q E (za_nL M) ads0 S9) : zp_G p l e R s m args below meth c Q E (za_nL M) ads0 (pc, lv, st, t) := by
  obtain ⟨hx, hb, hml, hr, hlocks, hnm, hown, htab, K, hW, h0, hdec, hRf, hRl, hRc, hRs⟩ := X
  have hK := zk_K K hW
  refine zx_lld ?_ h hk
  intro H locs cells slots ls rest ws q a n f j hP he hin kk
  exact va_lald (tys := za_tys E) hx hb hK hP q 3 he rfl hin hdg kk
theorem zy_lst (X : za_Cx p l R s m args meth c E L s0 d M) (hdg : decode M.2.1 pc = .ok (.lastore, 1)) (h : zp_lst pc lv st t = some (.inl S9)) (hk : zp_G p l e R s m args below meth c Q E (za_nL M) ads0 S9) : zp_G p l e R s m args below meth c Q E (za_nL M) ads0 (pc, lv, st, t) := by
  obtain ⟨hx, hb, hml, hr, hlocks, hnm, hown, htab, K, hW, h0, hdec, hRf, hRl, hRc, hRs⟩ := X
  have hK := zk_K K hW
  refine zx_lst ?_ h hk
  intro H locs cells slots ls rest ws q a n f j x hP hD hS he hin kk
  exact va_last (tys := za_tys E) hx hb hK hP hD hS q 3 he rfl hin hdg kk
theorem zy_acpC {k : Nat} {j9 k9 : Nat} {z9 : Int} (X : za_Cx p l R s m args meth c E L s0 d M) (hrow : za_CP (za_cl M) k = some (14, j9, k9, z9)) (hdg : decode M.2.1 pc = .ok (.invokestatic k, 3)) (h : zp_acp pc lv st t = some (.inl S9)) (hk : zp_G p l e R s m args below meth c Q E (za_nL M) ads0 S9) : zp_G p l e R s m args below meth c Q E (za_nL M) ads0 (pc, lv, st, t) := by
  obtain ⟨hx, hb, hml, hr, hlocks, hnm, hown, htab, K, hW, h0, hdec, hRf, hRl, hRc, hRs⟩ := X
  have hK := zk_K K hW
  refine zy_acp ?_ h hk
  intro H locs cells slots ls rest ws q0 q1 a0 a n0 n1 f g sp dp n hsz hP hD hS he0 he1 c1 c2 c3 c4 c5 c6 kk
  obtain ⟨w1, -⟩ := zc_row hrow
  have l1 := w1 (Cond.methodLink (za_ow (za_cl M)) k arraycopyName) (by simp [za_need])
  have l2 := w1 (Cond.native arraycopyName) (by simp [za_need])
  have l3 := w1 (Cond.static arraycopyName) (by simp [za_need])
  have l4 := w1 (Cond.initialized "java/lang/System") (by simp [za_need])
  have hnw : nativeFrameWords "java/lang/System" "arraycopy" 5 = 7 := by decide +kernel
  exact va_copyi (tys := za_tys E) hx hb (hml.trans hsz.symm) hown (zk_w K hW _ l1) (zk_w K hW _ l2) (zk_w K hW _ l3) (zk_w K hW _ l4) hK hP hD hS q0 q1 0 0 (ty := .int) he0 he1 rfl rfl rfl c1 c2 c3 c4 c5 (fun _ _ => rfl) (by omega) (by rw [hnw]; omega) hdg kk
theorem zy_ldc {k n : Nat} (X : za_Cx p l R s m args meth c E L s0 d M) (rule : ∀ {v : Int32} {H : Heap} {locs : List Loc} {cells slots : Nat} {ls : Array Slot} {rest : List Value}, (Cond.constant (za_ow (za_cl M)) k v).before args s = true → W p l e R s m args below meth c H locs cells slots Q (F0 m (pc + n) ls (.int v :: rest)) → W p l e R s m args below meth c H locs cells slots Q (F0 m pc ls rest))
    (h : zp_ldc n (za_CP (za_cl M) k) pc lv st t = some (.inl S9)) (hk : zp_G p l e R s m args below meth c Q E (za_nL M) ads0 S9) : zp_G p l e R s m args below meth c Q E (za_nL M) ads0 (pc, lv, st, t) := by
  obtain ⟨hx, hb, hml, hr, hlocks, hnm, hown, htab, K, hW, h0, hdec, hRf, hRl, hRc, hRs⟩ := X
  unfold zp_ldc at h
  split at h
  · rename_i j9 k9 v hrow
    obtain ⟨w1, -⟩ := zc_row hrow
    exact zx_push (v := .inl (Int32.ofInt v)) (w := .int (Int32.ofInt v)) (fun _ => rfl) (fun kk => rule (zk_w K hW _ (w1 _ (by simp [za_need]))) kk) (zx_go h hk)
  · cases h
theorem zy_ldc2 {k : Nat} (X : za_Cx p l R s m args meth c E L s0 d M) (hdg : decode M.2.1 pc = .ok (.ldc2_w k, 3)) (h : zp_ldc2 (za_CP (za_cl M) k) pc lv st t = some (.inl S9)) (hk : zp_G p l e R s m args below meth c Q E (za_nL M) ads0 S9) : zp_G p l e R s m args below meth c Q E (za_nL M) ads0 (pc, lv, st, t) := by
  obtain ⟨hx, hb, hml, hr, hlocks, hnm, hown, htab, K, hW, h0, hdec, hRf, hRl, hRc, hRs⟩ := X
  unfold zp_ldc2 at h
  split at h
  · rename_i j9 k9 v hrow
    obtain ⟨w1, -⟩ := zc_row hrow
    exact zx_push (v := .inr (.inl (Int64.ofInt v))) (w := .long (Int64.ofInt v)) (fun _ => rfl) (fun kk => lv_ldc2 hx hb hown (zk_w K hW _ (w1 _ (by simp [za_need]))) hdg kk) (zx_go h hk)
  · cases h
end ZV
end
section
/-! ===== the exact interpreter is sound: all instructions ===== -/
theorem zp_d {P : Prop} {i : Decidable P} : (@decide P i) = true ↔ P := decide_eq_true_iff
section ZW
variable {p : Program} {l : Launch} {e : Env} {R : Room} {s s0 : State} {m : MethodId} {args : Array Value} {below : List Frame} {meth : Method} {c : Code} {Q : State → Prop} {E : za_E} {ads0 : List Nat} {pc L d : Nat} {M : za_MI} {lv : zp_LV} {t : zp_T} {st : List zp_V} {S9 : zp_S}
end ZW
end
