/-! ===== what a state known in part stands for; each instruction is sound ===== -/
theorem za_bif {α : Type} {b : Bool} {x : Option α} {r : α} (h : (bif b then x else none) = some r) : b = true ∧ x = some r := by
  cases b
  · cases h
  · exact ⟨rfl, h⟩
theorem za_bifn {α : Type} {b : Bool} {x : Option α} {r : α} (h : (bif b then none else x) = some r) : b = false ∧ x = some r := by
  cases b
  · exact ⟨rfl, h⟩
  · cases h
theorem za_blt {a b : Nat} (h : Nat.blt a b = true) : a < b := Nat.le_of_ble_eq_true h
theorem za_ble {a b : Nat} (h : Nat.ble a b = true) : a ≤ b := Nat.le_of_ble_eq_true h
theorem za_beq {a b : Nat} (h : Nat.beq a b = true) : a = b := Nat.eq_of_beq_eq_true h
theorem za_F2_cons {α β : Type} {P : α → β → Prop} {a : α} {l : List α} {m : List β} (h : za_F2 P (a :: l) m) : ∃ b m', m = b :: m' ∧ P a b ∧ za_F2 P l m' := by
  cases m with
  | nil => exact h.elim
  | cons b m' => exact ⟨b, m', rfl, h.1, h.2⟩
theorem za_F2_nil {α β : Type} {P : α → β → Prop} {m : List β} (h : za_F2 P [] m) : m = [] := by
  cases m with
  | nil => rfl
  | cons b m' => exact h.elim
/-- the script's numbers, its address, the tables' numbers, the classes of arrays (int, byte, boolean, long), the heap at the start -/
abbrev za_E : Type := (Nat → Int32) × Nat × va_G × (ClassId × ClassId × ClassId × ClassId) × Heap
abbrev za_σ (E : za_E) : Nat → Int32 := E.1
abbrev za_b (E : za_E) : Nat := E.2.1
abbrev za_D (E : za_E) : va_G := E.2.2.1
abbrev za_H0 (E : za_E) : Heap := E.2.2.2.2
abbrev za_A (E : za_E) : Nat → Prop := fun q => (za_H0 E).size ≤ q
abbrev za_tys (E : za_E) : List (ClassId × FieldType) := [(E.2.2.2.1.1, .int), (E.2.2.2.1.2.1, .byte), (E.2.2.2.1.2.2.1, .boolean), (E.2.2.2.1.2.2.2, .long)]
def za_tc (E : za_E) (t : Nat) : ClassId := match t with
  | 0 => E.2.2.2.1.1
  | 1 => E.2.2.2.1.2.1
  | _ => E.2.2.2.1.2.2.1
def za_gO (E : za_E) (ads : List Nat) (o : za_O) (x : va_E) : Prop := match o, x with
  | .inl (ci, fs), .inr (cj, vs) => ci = cj ∧ za_F2 (za_gV (za_σ E) ads) fs vs
  | .inr (.inl (t, n, d, ups)), .inl (cA, n', .inl f) => n' = n ∧ t < 3 ∧ cA = za_tc E t ∧ ∀ i, i < n → za_gI (za_σ E) (za_at d ups i) (f i)
  | .inr (.inr (n, d, ups)), .inl (cA, n', .inr (.inl f)) => n' = n ∧ cA = E.2.2.2.1.2.2.2 ∧ ∀ i, i < n → za_gL (za_at d ups i) (f i)
  | _, _ => False
def za_Wd (E : za_E) (ads : List Nat) (h : List za_O) (H : Heap) : Prop := ∃ ws : va_W, ads = za_b E :: ws.map (·.1) ∧ za_F2 (fun o (q : Nat × va_E) => za_gO E ads o q.2) h ws ∧ va_P (za_D E) vwCl ws H ∧ va_D (za_A E) ws
def za_Mt (E : za_E) (nL : Nat) (s : State) (ads0 ads : List Nat) (S : za_S) (H : Heap) (locs : List Loc) (ls : Array Slot) (stk : List Value) : Prop :=
  ads0 <+: ads ∧ za_ok (za_σ E) S.2.2.2.2.1 ∧ za_F2 (za_gV (za_σ E) ads) S.2.2.1 stk ∧ (∃ lc, lv_has ls nL lc ∧ za_F2 (za_gP (za_σ E) ads) S.2.1 lc) ∧ za_Wd E ads S.2.2.2.1 H ∧ va_S (za_A E) s.heap H locs
def za_G (p : Program) (l : Launch) (e : Env) (R : Room) (s : State) (m : MethodId) (args : Array Value) (below : List Frame) (meth : Method) (c : Code) (Q : State → Prop) (E : za_E) (nL : Nat) (ads0 : List Nat) (S : za_S) : Prop :=
  ∀ (ads : List Nat) (H : Heap) (locs : List Loc) (ls : Array Slot) (stk : List Value), za_Mt E nL s ads0 ads S H locs ls stk → W p l e R s m args below meth c H locs S.2.2.2.2.2.1 S.2.2.2.2.2.2 Q (F0 m S.1 ls stk)
/-- more objects: what was known stays so -/
theorem za_gV_mono {σ : Nat → Int32} {ads ads' : List Nat} (h : ads <+: ads') {v : za_V} {w : Value} (hv : za_gV σ ads v w) : za_gV σ ads' v w := by
  match v, hv with
  | .inl i, hv => exact hv
  | .inr (.inl o), hv => exact hv
  | .inr (.inr none), hv => exact hv
  | .inr (.inr (some k)), ⟨a, h1, h2⟩ =>
    obtain ⟨r, rfl⟩ := h
    exact ⟨a, h1, by rw [List.getElem?_append_left (List.getElem?_eq_some_iff.mp h2).1]; exact h2⟩
theorem za_gP_mono {σ : Nat → Int32} {ads ads' : List Nat} (h : ads <+: ads') {v : Nat × za_V} {w : Nat × Value} (hv : za_gP σ ads v w) : za_gP σ ads' v w := ⟨hv.1, za_gV_mono h hv.2⟩
section ZS
variable {p : Program} {l : Launch} {e : Env} {R : Room} {s : State} {m : MethodId} {args : Array Value} {below : List Frame} {meth : Method} {c : Code} {Q : State → Prop} {E : za_E} {nL : Nat} {ads0 : List Nat} {cc : ByteArray} {pc : Nat}
theorem zs_go {lv : za_LV} {t : za_T} {k : Nat} {st : List za_V} {Z : List za_S × List za_X} (h : za_go lv t k st = some Z) (hk : ∀ S ∈ Z.1, za_G p l e R s m args below meth c Q E nL ads0 S) : za_G p l e R s m args below meth c Q E nL ads0 (k, lv, st, t) := by
  unfold za_go at h
  cases h
  exact hk _ List.mem_cons_self
theorem zs_push {lv : za_LV} {t : za_T} {k : Nat} {st : List za_V} {v : za_V} {Z : List za_S × List za_X} (w : Value) (hv : ∀ ads, za_gV (za_σ E) ads v w)
    (rule : ∀ {H : Heap} {locs : List Loc} {cells slots : Nat} {ls : Array Slot} {rest : List Value}, W p l e R s m args below meth c H locs cells slots Q (F0 m (pc + k) ls (w :: rest)) → W p l e R s m args below meth c H locs cells slots Q (F0 m pc ls rest))
    (h : za_go lv t (pc + k) (v :: st) = some Z) (hk : ∀ S ∈ Z.1, za_G p l e R s m args below meth c Q E nL ads0 S) : za_G p l e R s m args below meth c Q E nL ads0 (pc, lv, st, t) := by
  intro ads H locs ls stk M
  obtain ⟨h1, h2, h3, h4, h5, h6⟩ := M
  exact rule (zs_go h hk ads H locs ls (w :: stk) ⟨h1, h2, ⟨hv ads, h3⟩, h4, h5, h6⟩)
theorem zs_loadI {lv : za_LV} {t : za_T} {k i : Nat} {st : List za_V} {Z : List za_S × List za_X}
    (rule : ∀ {H : Heap} {locs : List Loc} {cells slots : Nat} {ls : Array Slot} {rest : List Value} {x : Int32}, ls[i]? = some (.val (.int x)) → W p l e R s m args below meth c H locs cells slots Q (F0 m (pc + k) ls (.int x :: rest)) → W p l e R s m args below meth c H locs cells slots Q (F0 m pc ls rest))
    (h : za_load k i za_isI pc lv st t = some Z) (hk : ∀ S ∈ Z.1, za_G p l e R s m args below meth c Q E nL ads0 S) : za_G p l e R s m args below meth c Q E nL ads0 (pc, lv, st, t) := by
  intro ads H locs ls stk M
  obtain ⟨h1, h2, h3, ⟨lc, h4, h4'⟩, h5, h6⟩ := M
  unfold za_load at h
  split at h
  · rename_i v hv
    obtain ⟨hs, h⟩ := za_bif h
    obtain ⟨w, w1, w2⟩ := za_get_ok h4' hv
    match v, hs, w2 with
    | .inl y, _, w2 =>
      obtain ⟨x, rfl, hx⟩ := id w2
      exact rule (h4.2.2 _ w1) (zs_go h hk ads H locs ls (_ :: stk) ⟨h1, h2, ⟨w2, h3⟩, ⟨lc, h4, h4'⟩, h5, h6⟩)
    | .inr (.inl _), hs, _ => cases hs
    | .inr (.inr _), hs, _ => cases hs
  · cases h
theorem zs_loadL {lv : za_LV} {t : za_T} {k i : Nat} {st : List za_V} {Z : List za_S × List za_X}
    (rule : ∀ {H : Heap} {locs : List Loc} {cells slots : Nat} {ls : Array Slot} {rest : List Value} {x : Int64}, ls[i]? = some (.val (.long x)) → W p l e R s m args below meth c H locs cells slots Q (F0 m (pc + k) ls (.long x :: rest)) → W p l e R s m args below meth c H locs cells slots Q (F0 m pc ls rest))
    (h : za_load k i za_isL pc lv st t = some Z) (hk : ∀ S ∈ Z.1, za_G p l e R s m args below meth c Q E nL ads0 S) : za_G p l e R s m args below meth c Q E nL ads0 (pc, lv, st, t) := by
  intro ads H locs ls stk M
  obtain ⟨h1, h2, h3, ⟨lc, h4, h4'⟩, h5, h6⟩ := M
  unfold za_load at h
  split at h
  · rename_i v hv
    obtain ⟨hs, h⟩ := za_bif h
    obtain ⟨w, w1, w2⟩ := za_get_ok h4' hv
    match v, hs, w2 with
    | .inr (.inl y), _, w2 =>
      obtain ⟨x, rfl, hx⟩ := id w2
      exact rule (h4.2.2 _ w1) (zs_go h hk ads H locs ls (_ :: stk) ⟨h1, h2, ⟨w2, h3⟩, ⟨lc, h4, h4'⟩, h5, h6⟩)
    | .inl _, hs, _ => cases hs
    | .inr (.inr _), hs, _ => cases hs
  · cases h
theorem zs_loadA {lv : za_LV} {t : za_T} {k i : Nat} {st : List za_V} {Z : List za_S × List za_X}
    (rule : ∀ {H : Heap} {locs : List Loc} {cells slots : Nat} {ls : Array Slot} {rest : List Value} {x : Nat}, ls[i]? = some (.val (.ref x)) → W p l e R s m args below meth c H locs cells slots Q (F0 m (pc + k) ls (.ref x :: rest)) → W p l e R s m args below meth c H locs cells slots Q (F0 m pc ls rest))
    (h : za_load k i za_isR pc lv st t = some Z) (hk : ∀ S ∈ Z.1, za_G p l e R s m args below meth c Q E nL ads0 S) : za_G p l e R s m args below meth c Q E nL ads0 (pc, lv, st, t) := by
  intro ads H locs ls stk M
  obtain ⟨h1, h2, h3, ⟨lc, h4, h4'⟩, h5, h6⟩ := M
  unfold za_load at h
  split at h
  · rename_i v hv
    obtain ⟨hs, h⟩ := za_bif h
    obtain ⟨w, w1, w2⟩ := za_get_ok h4' hv
    match v, hs, w2 with
    | .inr (.inr (some y)), _, w2 =>
      obtain ⟨x, rfl, hx⟩ := id w2
      exact rule (h4.2.2 _ w1) (zs_go h hk ads H locs ls (_ :: stk) ⟨h1, h2, ⟨w2, h3⟩, ⟨lc, h4, h4'⟩, h5, h6⟩)
    | .inl _, hs, _ => cases hs
    | .inr (.inl _), hs, _ => cases hs
    | .inr (.inr none), hs, _ => cases hs
  · cases h
theorem zs_storI {lv : za_LV} {t : za_T} {k i : Nat} {st : List za_V} {Z : List za_S × List za_X}
    (rule : ∀ {H : Heap} {locs : List Loc} {cells slots : Nat} {ls : Array Slot} {rest : List Value} {x : Int32} {lc : List (Nat × Value)}, lv_has ls nL lc → i < nL → (∀ ls' : Array Slot, lv_has ls' nL ((i, Value.int x) :: lc.filter (fun q => !(q.1 == i) && !(q.1 + 1 == i && q.2.category == 2))) → W p l e R s m args below meth c H locs cells slots Q (F0 m (pc + k) ls' rest)) → W p l e R s m args below meth c H locs cells slots Q (F0 m pc ls (.int x :: rest)))
    (h : za_stor1 k i nL za_isI pc lv st t = some Z) (hk : ∀ S ∈ Z.1, za_G p l e R s m args below meth c Q E nL ads0 S) : za_G p l e R s m args below meth c Q E nL ads0 (pc, lv, st, t) := by
  intro ads H locs ls stk M
  obtain ⟨h1, h2, h3, ⟨lc, h4, h4'⟩, h5, h6⟩ := M
  unfold za_stor1 at h
  split at h
  · rename_i v rest
    obtain ⟨hi, h⟩ := za_bif h
    obtain ⟨hs, h⟩ := za_bif h
    obtain ⟨w, stk1, rfl, w2, q1⟩ := za_F2_cons h3
    match v, hs, w2, h with
    | .inl y, _, w2, h =>
      obtain ⟨x, rfl, hx⟩ := id w2
      exact rule h4 (za_blt hi) (fun ls' h4 => zs_go h hk ads H locs ls' stk1 ⟨h1, h2, q1, ⟨_, h4, za_st1_ok h4' w2⟩, h5, h6⟩)
    | .inr (.inl _), hs, _, _ => cases hs
    | .inr (.inr _), hs, _, _ => cases hs
  · cases h
theorem zs_storA {lv : za_LV} {t : za_T} {k i : Nat} {st : List za_V} {Z : List za_S × List za_X}
    (rule : ∀ {H : Heap} {locs : List Loc} {cells slots : Nat} {ls : Array Slot} {rest : List Value} {x : Nat} {lc : List (Nat × Value)}, lv_has ls nL lc → i < nL → (∀ ls' : Array Slot, lv_has ls' nL ((i, Value.ref x) :: lc.filter (fun q => !(q.1 == i) && !(q.1 + 1 == i && q.2.category == 2))) → W p l e R s m args below meth c H locs cells slots Q (F0 m (pc + k) ls' rest)) → W p l e R s m args below meth c H locs cells slots Q (F0 m pc ls (.ref x :: rest)))
    (h : za_stor1 k i nL za_isR pc lv st t = some Z) (hk : ∀ S ∈ Z.1, za_G p l e R s m args below meth c Q E nL ads0 S) : za_G p l e R s m args below meth c Q E nL ads0 (pc, lv, st, t) := by
  intro ads H locs ls stk M
  obtain ⟨h1, h2, h3, ⟨lc, h4, h4'⟩, h5, h6⟩ := M
  unfold za_stor1 at h
  split at h
  · rename_i v rest
    obtain ⟨hi, h⟩ := za_bif h
    obtain ⟨hs, h⟩ := za_bif h
    obtain ⟨w, stk1, rfl, w2, q1⟩ := za_F2_cons h3
    match v, hs, w2, h with
    | .inr (.inr (some y)), _, w2, h =>
      obtain ⟨x, rfl, hx⟩ := id w2
      exact rule h4 (za_blt hi) (fun ls' h4 => zs_go h hk ads H locs ls' stk1 ⟨h1, h2, q1, ⟨_, h4, za_st1_ok h4' w2⟩, h5, h6⟩)
    | .inl _, hs, _, _ => cases hs
    | .inr (.inl _), hs, _, _ => cases hs
    | .inr (.inr none), hs, _, _ => cases hs
  · cases h
theorem zs_storL {lv : za_LV} {t : za_T} {k i : Nat} {st : List za_V} {Z : List za_S × List za_X}
    (rule : ∀ {H : Heap} {locs : List Loc} {cells slots : Nat} {ls : Array Slot} {rest : List Value} {x : Int64} {lc : List (Nat × Value)}, lv_has ls nL lc → i + 1 < nL → (∀ ls' : Array Slot, lv_has ls' nL ((i, Value.long x) :: lc.filter (fun q => !(q.1 == i) && (!(q.1 == i + 1) && !(q.1 + 1 == i && q.2.category == 2)))) → W p l e R s m args below meth c H locs cells slots Q (F0 m (pc + k) ls' rest)) → W p l e R s m args below meth c H locs cells slots Q (F0 m pc ls (.long x :: rest)))
    (h : za_stor2 k i nL pc lv st t = some Z) (hk : ∀ S ∈ Z.1, za_G p l e R s m args below meth c Q E nL ads0 S) : za_G p l e R s m args below meth c Q E nL ads0 (pc, lv, st, t) := by
  intro ads H locs ls stk M
  obtain ⟨h1, h2, h3, ⟨lc, h4, h4'⟩, h5, h6⟩ := M
  unfold za_stor2 at h
  split at h
  · rename_i o rest
    obtain ⟨hi, h⟩ := za_bif h
    obtain ⟨w, stk1, rfl, w2, q1⟩ := za_F2_cons h3
    obtain ⟨x, rfl, hx⟩ := id w2
    exact rule h4 (za_blt hi) (fun ls' h4 => zs_go h hk ads H locs ls' stk1 ⟨h1, h2, q1, ⟨_, h4, za_st2_ok h4' w2⟩, h5, h6⟩)
  · cases h
theorem za_ofInt {d : Int} (h : za_in d d = true) : (Int32.ofInt d).toInt = d := by
  have h1 := za_in_t h
  rw [Int32.toInt_ofInt]
  exact za_bmod h1.1 h1.2
theorem zs_iinc {lv : za_LV} {t : za_T} {i : Nat} {d : Int} {st : List za_V} {Z : List za_S × List za_X}
    (rule : ∀ {H : Heap} {locs : List Loc} {cells slots : Nat} {ls : Array Slot} {rest : List Value} {x : Int32} {k : Nat} {lc : List (Nat × Value)}, lv_has ls nL lc → lc[k]? = some (i, .int x) → i < nL → (∀ ls' : Array Slot, lv_has ls' nL ((i, Value.int (x + Int32.ofInt d)) :: lc.filter (fun q => !(q.1 == i) && !(q.1 + 1 == i && q.2.category == 2))) → W p l e R s m args below meth c H locs cells slots Q (F0 m (pc + 3) ls' rest)) → W p l e R s m args below meth c H locs cells slots Q (F0 m pc ls rest))
    (h : za_iinc i nL d pc lv st t = some Z) (hk : ∀ S ∈ Z.1, za_G p l e R s m args below meth c Q E nL ads0 S) : za_G p l e R s m args below meth c Q E nL ads0 (pc, lv, st, t) := by
  intro ads H locs ls stk M
  obtain ⟨h1, h2, h3, ⟨lc, h4, h4'⟩, h5, h6⟩ := M
  unfold za_iinc at h
  split at h
  · rename_i v hv
    obtain ⟨hi, h⟩ := za_bif h
    obtain ⟨hd, h⟩ := za_bif h
    obtain ⟨w, w1, w2⟩ := za_get_ok h4' hv
    obtain ⟨x, rfl, hx⟩ := id w2
    obtain ⟨k, hk'⟩ := List.getElem?_of_mem w1
    have w3 : za_gV (za_σ E) ads (.inl (za_add t.2.1 v (za_n d))) (.int (x + Int32.ofInt d)) := ⟨_, rfl, za_add_ok h2 hx (za_n_ok _ (za_ofInt hd))⟩
    exact rule h4 hk' (za_blt hi) (fun ls' h4 => zs_go h hk ads H locs ls' stk ⟨h1, h2, h3, ⟨_, h4, za_st1_ok h4' w3⟩, h5, h6⟩)
  · cases h
theorem zs_binI {lv : za_LV} {t : za_T} {st : List za_V} {Z : List za_S × List za_X} {f : za_R → za_I → za_I → za_I} (g : Int32 → Int32 → Int32) (hf : ∀ {σ : Nat → Int32} {ρ : za_R} {a b : za_I} {x y : Int32}, za_ok σ ρ → za_gI σ a x → za_gI σ b y → za_gI σ (f ρ a b) (g x y))
    (rule : ∀ {H : Heap} {locs : List Loc} {cells slots : Nat} {ls : Array Slot} {rest : List Value} {x y : Int32}, W p l e R s m args below meth c H locs cells slots Q (F0 m (pc + 1) ls (.int (g x y) :: rest)) → W p l e R s m args below meth c H locs cells slots Q (F0 m pc ls (.int y :: .int x :: rest)))
    (h : za_binI f pc lv st t = some Z) (hk : ∀ S ∈ Z.1, za_G p l e R s m args below meth c Q E nL ads0 S) : za_G p l e R s m args below meth c Q E nL ads0 (pc, lv, st, t) := by
  intro ads H locs ls stk M
  obtain ⟨h1, h2, h3, h4, h5, h6⟩ := M
  unfold za_binI at h
  split at h
  · rename_i b a rest
    obtain ⟨_, stk1, rfl, ⟨y, rfl, hy⟩, q1⟩ := za_F2_cons h3
    obtain ⟨_, stk2, rfl, ⟨x, rfl, hx⟩, q2⟩ := za_F2_cons q1
    exact rule (zs_go h hk ads H locs ls (_ :: stk2) ⟨h1, h2, ⟨⟨_, rfl, hf h2 hx hy⟩, q2⟩, h4, h5, h6⟩)
  · cases h
theorem zs_divI {lv : za_LV} {t : za_T} {st : List za_V} {Z : List za_S × List za_X} (g : Int32 → Int32 → Int32)
    (rule : ∀ {H : Heap} {locs : List Loc} {cells slots : Nat} {ls : Array Slot} {rest : List Value} {x y : Int32}, ¬ y = 0 → W p l e R s m args below meth c H locs cells slots Q (F0 m (pc + 1) ls (.int (g x y) :: rest)) → W p l e R s m args below meth c H locs cells slots Q (F0 m pc ls (.int y :: .int x :: rest)))
    (h : za_divI g pc lv st t = some Z) (hk : ∀ S ∈ Z.1, za_G p l e R s m args below meth c Q E nL ads0 S) : za_G p l e R s m args below meth c Q E nL ads0 (pc, lv, st, t) := by
  intro ads H locs ls stk M
  obtain ⟨h1, h2, h3, h4, h5, h6⟩ := M
  unfold za_divI at h
  split at h
  · rename_i b a rest
    split at h
    · rename_i d hd
      obtain ⟨hz, h⟩ := za_bifn h
      obtain ⟨_, stk1, rfl, ⟨y, rfl, hy⟩, q1⟩ := za_F2_cons h3
      obtain ⟨_, stk2, rfl, ⟨x, rfl, hx⟩, q2⟩ := za_F2_cons q1
      have hne : ¬ y = 0 := by
        intro e
        have := za_k_ok h2 hy hd
        rw [e] at this
        exact za_ieq_f hz this.symm
      exact rule hne (zs_go h hk ads H locs ls (_ :: stk2) ⟨h1, h2, ⟨⟨_, rfl, za_b2_ok g h2 hx hy⟩, q2⟩, h4, h5, h6⟩)
    · cases h
  · cases h
theorem zs_unI {lv : za_LV} {t : za_T} {st : List za_V} {Z : List za_S × List za_X} (g : Int32 → Int32)
    (rule : ∀ {H : Heap} {locs : List Loc} {cells slots : Nat} {ls : Array Slot} {rest : List Value} {x : Int32}, W p l e R s m args below meth c H locs cells slots Q (F0 m (pc + 1) ls (.int (g x) :: rest)) → W p l e R s m args below meth c H locs cells slots Q (F0 m pc ls (.int x :: rest)))
    (h : za_unI g pc lv st t = some Z) (hk : ∀ S ∈ Z.1, za_G p l e R s m args below meth c Q E nL ads0 S) : za_G p l e R s m args below meth c Q E nL ads0 (pc, lv, st, t) := by
  intro ads H locs ls stk M
  obtain ⟨h1, h2, h3, h4, h5, h6⟩ := M
  unfold za_unI at h
  split at h
  · rename_i a rest
    obtain ⟨_, stk1, rfl, ⟨x, rfl, hx⟩, q1⟩ := za_F2_cons h3
    exact rule (zs_go h hk ads H locs ls (_ :: stk1) ⟨h1, h2, ⟨⟨_, rfl, za_u1_ok g h2 hx⟩, q1⟩, h4, h5, h6⟩)
  · cases h
theorem zs_binL {lv : za_LV} {t : za_T} {st : List za_V} {Z : List za_S × List za_X} (g : Int64 → Int64 → Int64)
    (rule : ∀ {H : Heap} {locs : List Loc} {cells slots : Nat} {ls : Array Slot} {rest : List Value} {x y : Int64}, W p l e R s m args below meth c H locs cells slots Q (F0 m (pc + 1) ls (.long (g x y) :: rest)) → W p l e R s m args below meth c H locs cells slots Q (F0 m pc ls (.long y :: .long x :: rest)))
    (h : za_binL g pc lv st t = some Z) (hk : ∀ S ∈ Z.1, za_G p l e R s m args below meth c Q E nL ads0 S) : za_G p l e R s m args below meth c Q E nL ads0 (pc, lv, st, t) := by
  intro ads H locs ls stk M
  obtain ⟨h1, h2, h3, h4, h5, h6⟩ := M
  unfold za_binL at h
  split at h
  · rename_i b a rest
    obtain ⟨_, stk1, rfl, ⟨y, rfl, hy⟩, q1⟩ := za_F2_cons h3
    obtain ⟨_, stk2, rfl, ⟨x, rfl, hx⟩, q2⟩ := za_F2_cons q1
    exact rule (zs_go h hk ads H locs ls (_ :: stk2) ⟨h1, h2, ⟨⟨_, rfl, za_l2_ok g hx hy⟩, q2⟩, h4, h5, h6⟩)
  · cases h
theorem zs_shL {lv : za_LV} {t : za_T} {st : List za_V} {Z : List za_S × List za_X} (g : Int64 → Int32 → Int64) {z : Bool} (hz : z = true → ∀ y, g 0 y = 0)
    (rule : ∀ {H : Heap} {locs : List Loc} {cells slots : Nat} {ls : Array Slot} {rest : List Value} {x : Int64} {y : Int32}, W p l e R s m args below meth c H locs cells slots Q (F0 m (pc + 1) ls (.long (g x y) :: rest)) → W p l e R s m args below meth c H locs cells slots Q (F0 m pc ls (.int y :: .long x :: rest)))
    (h : za_shL g z pc lv st t = some Z) (hk : ∀ S ∈ Z.1, za_G p l e R s m args below meth c Q E nL ads0 S) : za_G p l e R s m args below meth c Q E nL ads0 (pc, lv, st, t) := by
  intro ads H locs ls stk M
  obtain ⟨h1, h2, h3, h4, h5, h6⟩ := M
  unfold za_shL at h
  split at h
  · rename_i b a rest
    obtain ⟨_, stk1, rfl, ⟨y, rfl, hy⟩, q1⟩ := za_F2_cons h3
    obtain ⟨_, stk2, rfl, ⟨x, rfl, hx⟩, q2⟩ := za_F2_cons q1
    exact rule (zs_go h hk ads H locs ls (_ :: stk2) ⟨h1, h2, ⟨⟨_, rfl, za_ls_ok g hz h2 hx hy⟩, q2⟩, h4, h5, h6⟩)
  · cases h
theorem zs_i2l {lv : za_LV} {t : za_T} {st : List za_V} {Z : List za_S × List za_X}
    (rule : ∀ {H : Heap} {locs : List Loc} {cells slots : Nat} {ls : Array Slot} {rest : List Value} {x : Int32}, W p l e R s m args below meth c H locs cells slots Q (F0 m (pc + 1) ls (.long x.toInt64 :: rest)) → W p l e R s m args below meth c H locs cells slots Q (F0 m pc ls (.int x :: rest)))
    (h : za_i2l pc lv st t = some Z) (hk : ∀ S ∈ Z.1, za_G p l e R s m args below meth c Q E nL ads0 S) : za_G p l e R s m args below meth c Q E nL ads0 (pc, lv, st, t) := by
  intro ads H locs ls stk M
  obtain ⟨h1, h2, h3, h4, h5, h6⟩ := M
  unfold za_i2l at h
  split at h
  · rename_i a rest
    obtain ⟨_, stk1, rfl, ⟨x, rfl, hx⟩, q1⟩ := za_F2_cons h3
    refine rule (zs_go h hk ads H locs ls (_ :: stk1) ⟨h1, h2, ⟨⟨_, rfl, fun d hd => ?_⟩, q1⟩, h4, h5, h6⟩)
    obtain ⟨c9, e1, e2⟩ := Option.map_eq_some_iff.mp hd
    rw [za_k_of h2 hx e1]
    exact e2
  · cases h
theorem zs_l2i {lv : za_LV} {t : za_T} {st : List za_V} {Z : List za_S × List za_X}
    (rule : ∀ {H : Heap} {locs : List Loc} {cells slots : Nat} {ls : Array Slot} {rest : List Value} {x : Int64}, W p l e R s m args below meth c H locs cells slots Q (F0 m (pc + 1) ls (.int x.toInt32 :: rest)) → W p l e R s m args below meth c H locs cells slots Q (F0 m pc ls (.long x :: rest)))
    (h : za_l2i pc lv st t = some Z) (hk : ∀ S ∈ Z.1, za_G p l e R s m args below meth c Q E nL ads0 S) : za_G p l e R s m args below meth c Q E nL ads0 (pc, lv, st, t) := by
  intro ads H locs ls stk M
  obtain ⟨h1, h2, h3, h4, h5, h6⟩ := M
  unfold za_l2i at h
  split at h
  · rename_i a rest
    obtain ⟨_, stk1, rfl, ⟨x, rfl, hx⟩, q1⟩ := za_F2_cons h3
    refine rule (zs_go h hk ads H locs ls (_ :: stk1) ⟨h1, h2, ⟨⟨_, rfl, ?_⟩, q1⟩, h4, h5, h6⟩)
    cases a with
    | none => exact za_top_ok _ _
    | some d => rw [hx d rfl]; exact za_c_ok _ _
  · cases h
theorem zs_lcmp {lv : za_LV} {t : za_T} {st : List za_V} {Z : List za_S × List za_X}
    (rule : ∀ {H : Heap} {locs : List Loc} {cells slots : Nat} {ls : Array Slot} {rest : List Value} {x y : Int64}, W p l e R s m args below meth c H locs cells slots Q (F0 m (pc + 1) ls (.int (lg_cmp x y) :: rest)) → W p l e R s m args below meth c H locs cells slots Q (F0 m pc ls (.long y :: .long x :: rest)))
    (h : za_lcmp pc lv st t = some Z) (hk : ∀ S ∈ Z.1, za_G p l e R s m args below meth c Q E nL ads0 S) : za_G p l e R s m args below meth c Q E nL ads0 (pc, lv, st, t) := by
  intro ads H locs ls stk M
  obtain ⟨h1, h2, h3, h4, h5, h6⟩ := M
  unfold za_lcmp at h
  split at h
  · rename_i b a rest
    obtain ⟨_, stk1, rfl, ⟨y, rfl, hy⟩, q1⟩ := za_F2_cons h3
    obtain ⟨_, stk2, rfl, ⟨x, rfl, hx⟩, q2⟩ := za_F2_cons q1
    refine rule (zs_go h hk ads H locs ls (_ :: stk2) ⟨h1, h2, ⟨⟨_, rfl, ?_⟩, q2⟩, h4, h5, h6⟩)
    cases a with
    | none => exact za_top_ok _ _
    | some d =>
      cases b with
      | none => exact za_top_ok _ _
      | some d' => rw [hx d rfl, hy d' rfl]; exact za_c_ok _ _
  · cases h
theorem zs_dup {lv : za_LV} {t : za_T} {st : List za_V} {Z : List za_S × List za_X}
    (rule : ∀ {H : Heap} {locs : List Loc} {cells slots : Nat} {ls : Array Slot} {rest : List Value} {w : Value}, w.category = 1 → W p l e R s m args below meth c H locs cells slots Q (F0 m (pc + 1) ls (w :: w :: rest)) → W p l e R s m args below meth c H locs cells slots Q (F0 m pc ls (w :: rest)))
    (h : za_dup pc lv st t = some Z) (hk : ∀ S ∈ Z.1, za_G p l e R s m args below meth c Q E nL ads0 S) : za_G p l e R s m args below meth c Q E nL ads0 (pc, lv, st, t) := by
  intro ads H locs ls stk M
  obtain ⟨h1, h2, h3, h4, h5, h6⟩ := M
  unfold za_dup at h
  split at h
  · rename_i v rest
    obtain ⟨hc, h⟩ := za_bif h
    obtain ⟨w, stk1, rfl, w2, q1⟩ := za_F2_cons h3
    exact rule ((za_cat_ok w2).trans (za_beq hc)) (zs_go h hk ads H locs ls (w :: w :: stk1) ⟨h1, h2, ⟨w2, w2, q1⟩, h4, h5, h6⟩)
  · cases h
theorem zs_pop {lv : za_LV} {t : za_T} {st : List za_V} {Z : List za_S × List za_X}
    (rule : ∀ {H : Heap} {locs : List Loc} {cells slots : Nat} {ls : Array Slot} {rest : List Value} {w : Value}, w.category = 1 → W p l e R s m args below meth c H locs cells slots Q (F0 m (pc + 1) ls rest) → W p l e R s m args below meth c H locs cells slots Q (F0 m pc ls (w :: rest)))
    (h : za_pop pc lv st t = some Z) (hk : ∀ S ∈ Z.1, za_G p l e R s m args below meth c Q E nL ads0 S) : za_G p l e R s m args below meth c Q E nL ads0 (pc, lv, st, t) := by
  intro ads H locs ls stk M
  obtain ⟨h1, h2, h3, h4, h5, h6⟩ := M
  unfold za_pop at h
  split at h
  · rename_i v rest
    obtain ⟨hc, h⟩ := za_bif h
    obtain ⟨w, stk1, rfl, w2, q1⟩ := za_F2_cons h3
    exact rule ((za_cat_ok w2).trans (za_beq hc)) (zs_go h hk ads H locs ls stk1 ⟨h1, h2, q1, h4, h5, h6⟩)
  · cases h
theorem zs_dup2 {lv : za_LV} {t : za_T} {st : List za_V} {Z : List za_S × List za_X}
    (rule : ∀ {H : Heap} {locs : List Loc} {cells slots : Nat} {ls : Array Slot} {rest : List Value} {w v : Value}, w.category = 1 → v.category = 1 → W p l e R s m args below meth c H locs cells slots Q (F0 m (pc + 1) ls (w :: v :: w :: v :: rest)) → W p l e R s m args below meth c H locs cells slots Q (F0 m pc ls (w :: v :: rest)))
    (h : za_dup2 pc lv st t = some Z) (hk : ∀ S ∈ Z.1, za_G p l e R s m args below meth c Q E nL ads0 S) : za_G p l e R s m args below meth c Q E nL ads0 (pc, lv, st, t) := by
  intro ads H locs ls stk M
  obtain ⟨h1, h2, h3, h4, h5, h6⟩ := M
  unfold za_dup2 at h
  split at h
  · rename_i v w rest
    obtain ⟨hc, h⟩ := za_bif h
    obtain ⟨hc', h⟩ := za_bif h
    obtain ⟨x, stk1, rfl, w2, q1⟩ := za_F2_cons h3
    obtain ⟨y, stk2, rfl, w3, q2⟩ := za_F2_cons q1
    exact rule ((za_cat_ok w2).trans (za_beq hc)) ((za_cat_ok w3).trans (za_beq hc')) (zs_go h hk ads H locs ls (x :: y :: x :: y :: stk2) ⟨h1, h2, ⟨w2, w3, w2, w3, q2⟩, h4, h5, h6⟩)
  · cases h
theorem za_tg_ok {off : Int} {g : Nat} (h : za_tg pc off = some g) : (pc : Int) + off = (g : Int) := by
  unfold za_tg at h
  split at h
  · rename_i n hn
    cases h
    exact hn
  · cases h
theorem zs_cst {lv : za_LV} {t : za_T} {k : Int} {n : Nat} {st : List za_V} {Z : List za_S × List za_X}
    (rule : ∀ {v : Int32} {H : Heap} {locs : List Loc} {cells slots : Nat} {ls : Array Slot} {rest : List Value}, -128 ≤ k → k ≤ 127 → v = Int32.ofInt k → W p l e R s m args below meth c H locs cells slots Q (F0 m (pc + n) ls (.int v :: rest)) → W p l e R s m args below meth c H locs cells slots Q (F0 m pc ls rest))
    (h : za_cst k n pc lv st t = some Z) (hk : ∀ S ∈ Z.1, za_G p l e R s m args below meth c Q E nL ads0 S) : za_G p l e R s m args below meth c Q E nL ads0 (pc, lv, st, t) := by
  unfold za_cst at h
  obtain ⟨g1, h⟩ := za_bif h
  obtain ⟨g2, h⟩ := za_bif h
  have g1 := za_ile_t g1
  have g2 := za_ile_t g2
  exact zs_push (v := .inl (za_n k)) (.int (Int32.ofInt k)) (fun ads => ⟨_, rfl, za_n_ok _ (by rw [Int32.toInt_ofInt]; exact za_bmod (by omega) (by omega))⟩) (fun k => rule g1 g2 rfl k) h hk
theorem zs_goto {lv : za_LV} {t : za_T} {off : Int} {st : List za_V} {Z : List za_S × List za_X}
    (rule : ∀ {g : Nat} {H : Heap} {locs : List Loc} {cells slots : Nat} {ls : Array Slot} {rest : List Value}, (pc : Int) + off = (g : Int) → W p l e R s m args below meth c H locs cells slots Q (F0 m g ls rest) → W p l e R s m args below meth c H locs cells slots Q (F0 m pc ls rest))
    (h : za_goto off pc lv st t = some Z) (hk : ∀ S ∈ Z.1, za_G p l e R s m args below meth c Q E nL ads0 S) : za_G p l e R s m args below meth c Q E nL ads0 (pc, lv, st, t) := by
  intro ads H locs ls stk M
  unfold za_goto at h
  split at h
  · rename_i g hg
    exact rule (za_tg_ok hg) (zs_go h hk ads H locs ls stk M)
  · cases h
theorem zs_one {lv : za_LV} {t : za_T} {g : Nat} {st : List za_V} {o : Option za_R} (hk : ∀ S ∈ za_one lv t g st o, za_G p l e R s m args below meth c Q E nL ads0 S) {ρ : za_R} (ho : o = some ρ) (hρ : za_ok (za_σ E) ρ) {ads : List Nat} {H : Heap} {locs : List Loc} {ls : Array Slot} {stk : List Value} (M : za_Mt E nL s ads0 ads (g, lv, st, t) H locs ls stk) : W p l e R s m args below meth c H locs t.2.2.1 t.2.2.2 Q (F0 m g ls stk) := by
  subst ho
  exact hk (g, lv, st, t.1, ρ, t.2.2) List.mem_cons_self ads H locs ls stk ⟨M.1, hρ, M.2.2⟩
theorem zs_two {lv : za_LV} {t : za_T} {off : Int} {yes no : Option za_R} {st : List za_V} {Z : List za_S × List za_X} (h : za_two off yes no pc lv st t = some Z) (hk : ∀ S ∈ Z.1, za_G p l e R s m args below meth c Q E nL ads0 S) :
    ∃ g : Nat, (pc : Int) + off = (g : Int) ∧ (∀ S ∈ za_one lv t g st yes, za_G p l e R s m args below meth c Q E nL ads0 S) ∧ ∀ S ∈ za_one lv t (pc + 3) st no, za_G p l e R s m args below meth c Q E nL ads0 S := by
  unfold za_two at h
  split at h
  · rename_i g hg
    cases h
    exact ⟨g, za_tg_ok hg, fun S hS => hk S (List.mem_append_left _ hS), fun S hS => hk S (List.mem_append_right _ hS)⟩
  · cases h
theorem zs_if1 {lv : za_LV} {t : za_T} {off : Int} {y no : za_R → za_I → za_I → Option za_R} (P : Int32 → Int32 → Prop) (hy : ∀ {σ : Nat → Int32} {ρ : za_R} {a b : za_I} {x z : Int32}, za_ok σ ρ → za_gI σ a x → za_gI σ b z → P x z → ∃ ρ', y ρ a b = some ρ' ∧ za_ok σ ρ') (hn : ∀ {σ : Nat → Int32} {ρ : za_R} {a b : za_I} {x z : Int32}, za_ok σ ρ → za_gI σ a x → za_gI σ b z → ¬ P x z → ∃ ρ', no ρ a b = some ρ' ∧ za_ok σ ρ') {st : List za_V} {Z : List za_S × List za_X}
    (rule : ∀ {g : Nat} {H : Heap} {locs : List Loc} {cells slots : Nat} {ls : Array Slot} {rest : List Value} {x : Int32}, (pc : Int) + off = (g : Int) → (P x 0 → W p l e R s m args below meth c H locs cells slots Q (F0 m g ls rest)) → (¬ P x 0 → W p l e R s m args below meth c H locs cells slots Q (F0 m (pc + 3) ls rest)) → W p l e R s m args below meth c H locs cells slots Q (F0 m pc ls (.int x :: rest)))
    (h : za_if1 off y no pc lv st t = some Z) (hk : ∀ S ∈ Z.1, za_G p l e R s m args below meth c Q E nL ads0 S) : za_G p l e R s m args below meth c Q E nL ads0 (pc, lv, st, t) := by
  intro ads H locs ls stk M
  obtain ⟨h1, h2, h3, h4, h5, h6⟩ := M
  unfold za_if1 at h
  split at h
  · rename_i a rest
    obtain ⟨g, hg, k1, k2⟩ := zs_two h hk
    obtain ⟨_, stk1, rfl, ⟨x, rfl, hx⟩, q1⟩ := za_F2_cons h3
    refine rule hg (fun hP => ?_) (fun hP => ?_)
    · obtain ⟨ρ', e1, e2⟩ := hy h2 hx (za_n_ok _ (x := 0) (k := 0) (by decide)) hP
      exact zs_one k1 e1 e2 ⟨h1, h2, q1, h4, h5, h6⟩
    · obtain ⟨ρ', e1, e2⟩ := hn h2 hx (za_n_ok _ (x := 0) (k := 0) (by decide)) hP
      exact zs_one k2 e1 e2 ⟨h1, h2, q1, h4, h5, h6⟩
  · cases h
theorem zs_if2 {lv : za_LV} {t : za_T} {off : Int} {y no : za_R → za_I → za_I → Option za_R} (P : Int32 → Int32 → Prop) (hy : ∀ {σ : Nat → Int32} {ρ : za_R} {a b : za_I} {x z : Int32}, za_ok σ ρ → za_gI σ a x → za_gI σ b z → P x z → ∃ ρ', y ρ a b = some ρ' ∧ za_ok σ ρ') (hn : ∀ {σ : Nat → Int32} {ρ : za_R} {a b : za_I} {x z : Int32}, za_ok σ ρ → za_gI σ a x → za_gI σ b z → ¬ P x z → ∃ ρ', no ρ a b = some ρ' ∧ za_ok σ ρ') {st : List za_V} {Z : List za_S × List za_X}
    (rule : ∀ {g : Nat} {H : Heap} {locs : List Loc} {cells slots : Nat} {ls : Array Slot} {rest : List Value} {x z : Int32}, (pc : Int) + off = (g : Int) → (P x z → W p l e R s m args below meth c H locs cells slots Q (F0 m g ls rest)) → (¬ P x z → W p l e R s m args below meth c H locs cells slots Q (F0 m (pc + 3) ls rest)) → W p l e R s m args below meth c H locs cells slots Q (F0 m pc ls (.int z :: .int x :: rest)))
    (h : za_if2 off y no pc lv st t = some Z) (hk : ∀ S ∈ Z.1, za_G p l e R s m args below meth c Q E nL ads0 S) : za_G p l e R s m args below meth c Q E nL ads0 (pc, lv, st, t) := by
  intro ads H locs ls stk M
  obtain ⟨h1, h2, h3, h4, h5, h6⟩ := M
  unfold za_if2 at h
  split at h
  · rename_i b a rest
    obtain ⟨g, hg, k1, k2⟩ := zs_two h hk
    obtain ⟨_, stk1, rfl, ⟨z, rfl, hz⟩, q1⟩ := za_F2_cons h3
    obtain ⟨_, stk2, rfl, ⟨x, rfl, hx⟩, q2⟩ := za_F2_cons q1
    refine rule hg (fun hP => ?_) (fun hP => ?_)
    · obtain ⟨ρ', e1, e2⟩ := hy h2 hx hz hP
      exact zs_one k1 e1 e2 ⟨h1, h2, q2, h4, h5, h6⟩
    · obtain ⟨ρ', e1, e2⟩ := hn h2 hx hz hP
      exact zs_one k2 e1 e2 ⟨h1, h2, q2, h4, h5, h6⟩
  · cases h

end ZS
