/-! ===== the exact interpreter: own values; the heap as a shape and three functions (place, slot) ===== -/
abbrev zp_V : Type := Int32 ⊕ (Int64 ⊕ Option Nat)
/-- an object of a kind; an array: 0 int, 1 byte, 2 boolean, 3 long; its length -/
abbrev zp_K : Type := Nat ⊕ (Nat × Nat)
abbrev zp_H : Type := List zp_K × (Nat → Nat → Int32) × (Nat → Nat → Int64) × (Nat → Nat → Option Nat)
/-- heap, cells, slots -/
abbrev zp_T : Type := zp_H × Nat × Nat
abbrev zp_LV : Type := List (Nat × zp_V)
abbrev zp_S : Type := Nat × zp_LV × List zp_V × zp_T
abbrev zp_X : Type := (Option zp_V ⊕ Nat) × zp_H
abbrev zp_N : Type := Option (zp_S ⊕ zp_X)
def zp_u {α : Type} (f : Nat → Nat → α) (p k : Nat) (v : α) : Nat → Nat → α := fun q i => if q = p ∧ i = k then v else f q i
theorem zp_u_self {α : Type} (f : Nat → Nat → α) (p k : Nat) (v : α) : zp_u f p k v p k = v := by simp [zp_u]
theorem zp_u_ne {α : Type} {f : Nat → Nat → α} {p k q i : Nat} {v : α} (h : ¬ (q = p ∧ i = k)) : zp_u f p k v q i = f q i := by simp [zp_u, h]
def zp_fv (H : zp_H) (p : Nat) (ty : FieldType) (k : Nat) : zp_V := match ty with
  | .long => .inr (.inl (H.2.2.1 p k))
  | .object _ => .inr (.inr (H.2.2.2 p k))
  | .array _ => .inr (.inr (H.2.2.2 p k))
  | _ => .inl (H.2.1 p k)
/-- what is kept of an int in an array of a type -/
def zp_nar (t : Nat) (x : Int32) : Int32 := match t with
  | 0 => x
  | 1 => vp_nar .byte x
  | _ => vp_nar .boolean x
def zp_gV (ads : List Nat) (v : zp_V) (w : Value) : Prop := match v with
  | .inl x => w = .int x
  | .inr (.inl x) => w = .long x
  | .inr (.inr none) => w = .null
  | .inr (.inr (some k)) => ∃ a, w = .ref a ∧ ads[k]? = some a
def zp_gP (ads : List Nat) (v : Nat × zp_V) (w : Nat × Value) : Prop := v.1 = w.1 ∧ zp_gV ads v.2 w.2
def zp_cat (v : zp_V) : Nat := match v with
  | .inr (.inl _) => 2
  | _ => 1
theorem zp_cat_ok {ads : List Nat} {v : zp_V} {w : Value} (h : zp_gV ads v w) : w.category = zp_cat v := by
  match v, h with
  | .inl x, h => rw [show w = .int x from h]; rfl
  | .inr (.inl x), h => rw [show w = .long x from h]; rfl
  | .inr (.inr none), h => rw [show w = .null from h]; rfl
  | .inr (.inr (some k)), ⟨a, h, _⟩ => rw [h]; rfl
theorem zp_gV_mono {ads ads' : List Nat} (h : ads <+: ads') {v : zp_V} {w : Value} (hv : zp_gV ads v w) : zp_gV ads' v w := by
  match v, hv with
  | .inl x, hv => exact hv
  | .inr (.inl x), hv => exact hv
  | .inr (.inr none), hv => exact hv
  | .inr (.inr (some k)), ⟨a, h1, h2⟩ =>
    obtain ⟨r, rfl⟩ := h
    exact ⟨a, h1, by rw [List.getElem?_append_left (List.getElem?_eq_some_iff.mp h2).1]; exact h2⟩
def zp_gO (E : za_E) (ads : List Nat) (H : zp_H) (p : Nat) (o : zp_K) (x : va_E) : Prop := match o, x with
  | .inl ci, .inr (cj, vs) => ci = cj ∧ vs.length = za_nX ci ∧ ∀ k w, vs[k]? = some w → zp_gV ads (zp_fv H p (za_tyX ci k) k) w
  | .inr (t, n), .inl (cA, n', .inl f) => n' = n ∧ t < 3 ∧ cA = za_tc E t ∧ ∀ i, i < n → f i = H.2.1 p i
  | .inr (t, n), .inl (cA, n', .inr (.inl f)) => n' = n ∧ t = 3 ∧ cA = E.2.2.2.1.2.2.2 ∧ ∀ i, i < n → f i = H.2.2.1 p i
  | _, _ => False
def zp_Wd (E : za_E) (ads : List Nat) (H : zp_H) (Hp : Heap) : Prop := ∃ ws : va_W, ads = za_b E :: ws.map (·.1) ∧ ws.length = H.1.length ∧ (∀ (p : Nat) (o : zp_K) (x : Nat × va_E), H.1[p]? = some o → ws[p]? = some x → zp_gO E ads H p o x.2) ∧ va_P (za_D E) vwCl ws Hp ∧ va_D (za_A E) ws
/-- an object's place: what stands there -/
theorem zp_obj {E : za_E} {ads : List Nat} {H : zp_H} {Hp : Heap} (hw : zp_Wd E ads H Hp) {p a : Nat} (ha : ads[p + 1]? = some a) {o : zp_K} (ho : H.1[p]? = some o) :
    ∃ (ws : va_W) (x : va_E), ads = za_b E :: ws.map (·.1) ∧ ws.length = H.1.length ∧ (∀ (p : Nat) (o : zp_K) (x : Nat × va_E), H.1[p]? = some o → ws[p]? = some x → zp_gO E ads H p o x.2) ∧ va_P (za_D E) vwCl ws Hp ∧ va_D (za_A E) ws ∧ ws[p]? = some (a, x) ∧ zp_gO E ads H p o x := by
  obtain ⟨ws, e1, e2, e3, e4, e5⟩ := hw
  rw [e1, List.getElem?_cons_succ, List.getElem?_map] at ha
  cases hx : ws[p]? with
  | none => rw [hx] at ha; cases ha
  | some q =>
    rw [hx] at ha
    have e9 : q.1 = a := Option.some.inj ha
    subst e9
    exact ⟨ws, q.2, e1, e2, e3, e4, e5, hx, e3 p o q ho hx⟩
/-! its steps -/
def zp_go (lv : zp_LV) (t : zp_T) (pc : Nat) (st : List zp_V) : zp_N := some (.inl (pc, lv, st, t))
def zp_get : zp_LV → Nat → Option zp_V
  | [], _ => none
  | q :: l, i => bif Nat.beq q.1 i then some q.2 else zp_get l i
def zp_st1 (lv : zp_LV) (i : Nat) (v : zp_V) : zp_LV := (i, v) :: lv.filter (fun q => !(q.1 == i) && !(q.1 + 1 == i && zp_cat q.2 == 2))
def zp_st2 (lv : zp_LV) (i : Nat) (v : zp_V) : zp_LV := (i, v) :: lv.filter (fun q => !(q.1 == i) && (!(q.1 == i + 1) && !(q.1 + 1 == i && zp_cat q.2 == 2)))
def zp_binI (g : Int32 → Int32 → Int32) (pc : Nat) (lv : zp_LV) (st : List zp_V) (t : zp_T) : zp_N := match st with
  | .inl y :: .inl x :: r => zp_go lv t (pc + 1) (.inl (g x y) :: r)
  | _ => none
def zp_divI (g : Int32 → Int32 → Int32) (pc : Nat) (lv : zp_LV) (st : List zp_V) (t : zp_T) : zp_N := match st with
  | .inl y :: .inl x :: r => if y = 0 then none else zp_go lv t (pc + 1) (.inl (g x y) :: r)
  | _ => none
def zp_binL (g : Int64 → Int64 → Int64) (pc : Nat) (lv : zp_LV) (st : List zp_V) (t : zp_T) : zp_N := match st with
  | .inr (.inl y) :: .inr (.inl x) :: r => zp_go lv t (pc + 1) (.inr (.inl (g x y)) :: r)
  | _ => none
def zp_shL (g : Int64 → Int32 → Int64) (pc : Nat) (lv : zp_LV) (st : List zp_V) (t : zp_T) : zp_N := match st with
  | .inl y :: .inr (.inl x) :: r => zp_go lv t (pc + 1) (.inr (.inl (g x y)) :: r)
  | _ => none
def zp_to (o : Int) (pc : Nat) : Option Nat := match (pc : Int) + o with
  | .ofNat g => some g
  | _ => none
def zp_if (b : Bool) (o : Int) (pc : Nat) (lv : zp_LV) (st : List zp_V) (t : zp_T) : zp_N := if b then (match zp_to o pc with
  | some g => zp_go lv t g st
  | none => none) else zp_go lv t (pc + 3) st
def zp_getf (r : Option za_row) (pc : Nat) (lv : zp_LV) (st : List zp_V) (t : zp_T) : zp_N := match r, st with
  | some (0, ci, k, _), .inr (.inr (some (q + 1))) :: rest => match t.1.1[q]? with
    | some (.inl cj) => bif Nat.beq cj ci then zp_go lv t (pc + 3) (zp_fv t.1 q (za_tyX ci k) k :: rest) else none
    | _ => none
  | _, _ => none
def zp_ald (L : Nat) (σ : Nat → Int32) (b : Bool) (pc : Nat) (lv : zp_LV) (st : List zp_V) (t : zp_T) : zp_N := match st with
  | .inl i :: .inr (.inr (some 0)) :: rest => if b = false ∧ 0 ≤ i.toInt ∧ i.toInt < L then zp_go lv t (pc + 1) (.inl (σ i.toInt.toNat) :: rest) else none
  | .inl i :: .inr (.inr (some (q + 1))) :: rest => match t.1.1[q]? with
    | some (.inr (ty, n)) => if (b = false ↔ ty = 0) ∧ ty < 3 ∧ 0 ≤ i.toInt ∧ i.toInt < n then zp_go lv t (pc + 1) (.inl (t.1.2.1 q i.toInt.toNat) :: rest) else none
    | _ => none
  | _ => none
def zp_ast (b : Bool) (pc : Nat) (lv : zp_LV) (st : List zp_V) (t : zp_T) : zp_N := match st with
  | .inl x :: .inl i :: .inr (.inr (some (q + 1))) :: rest => match t.1.1[q]? with
    | some (.inr (ty, n)) => if (b = false ↔ ty = 0) ∧ ty < 3 ∧ 0 ≤ i.toInt ∧ i.toInt < n then zp_go lv ((t.1.1, zp_u t.1.2.1 q i.toInt.toNat (zp_nar ty x), t.1.2.2), t.2) (pc + 1) rest else none
    | _ => none
  | _ => none
def zp_lld (pc : Nat) (lv : zp_LV) (st : List zp_V) (t : zp_T) : zp_N := match st with
  | .inl i :: .inr (.inr (some (q + 1))) :: rest => match t.1.1[q]? with
    | some (.inr (3, n)) => if 0 ≤ i.toInt ∧ i.toInt < n then zp_go lv t (pc + 1) (.inr (.inl (t.1.2.2.1 q i.toInt.toNat)) :: rest) else none
    | _ => none
  | _ => none
def zp_lst (pc : Nat) (lv : zp_LV) (st : List zp_V) (t : zp_T) : zp_N := match st with
  | .inr (.inl x) :: .inl i :: .inr (.inr (some (q + 1))) :: rest => match t.1.1[q]? with
    | some (.inr (3, n)) => if 0 ≤ i.toInt ∧ i.toInt < n then zp_go lv ((t.1.1, t.1.2.1, zp_u t.1.2.2.1 q i.toInt.toNat x, t.1.2.2.2), t.2) (pc + 1) rest else none
    | _ => none
  | _ => none
def zp_alen (L : Nat) (pc : Nat) (lv : zp_LV) (st : List zp_V) (t : zp_T) : zp_N := match st with
  | .inr (.inr (some 0)) :: rest => zp_go lv t (pc + 1) (.inl (Int32.ofNat L) :: rest)
  | .inr (.inr (some (q + 1))) :: rest => match t.1.1[q]? with
    | some (.inr (_, n)) => zp_go lv t (pc + 1) (.inl (Int32.ofNat n) :: rest)
    | _ => none
  | _ => none
