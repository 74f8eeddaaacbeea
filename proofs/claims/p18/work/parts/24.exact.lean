/-! ===== longs in arrays, fields written, branches ===== -/
/-- is the value of this type? -/
def zp_fit (ty : FieldType) (v : zp_V) : Bool := match ty, v with
  | .int, .inl _ => true
  | .boolean, .inl x => decide (x = 0 ∨ x = 1)
  | .long, .inr (.inl _) => true
  | .object _, .inr (.inr _) => true
  | .array _, .inr (.inr _) => true
  | _, _ => false
def zp_wf (H : zp_H) (p k : Nat) (v : zp_V) : zp_H := match v with
  | .inl x => (H.1, zp_u H.2.1 p k x, H.2.2)
  | .inr (.inl x) => (H.1, H.2.1, zp_u H.2.2.1 p k x, H.2.2.2)
  | .inr (.inr x) => (H.1, H.2.1, H.2.2.1, zp_u H.2.2.2 p k x)
def zp_putf (r : Option za_row) (own : Nat) (ini : Bool) (pc : Nat) (lv : zp_LV) (st : List zp_V) (t : zp_T) : zp_N := match r, st with
  | some (0, ci, k, fin), v :: .inr (.inr (some (q + 1))) :: rest => match t.1.1[q]? with
    | some (.inl cj) => bif Nat.beq cj ci then bif Nat.blt k (za_nX ci) then bif zp_fit (za_tyX ci k) v then if fin = 0 ∨ (ini = true ∧ ci = own) then zp_go lv (zp_wf t.1 q k v, t.2) (pc + 3) rest else none else none else none else none
    | _ => none
  | _, _ => none
theorem zp_fit_ok {ads : List Nat} {ty : FieldType} {v : zp_V} {w : Value} (hf : zp_fit ty v = true) (hw : zp_gV ads v w) : narrow ty w = w ∧ fits ty w = true := by
  match ty, v, hf, hw with
  | .int, .inl x, _, hw => rw [show w = .int x from hw]; exact ⟨rfl, rfl⟩
  | .boolean, .inl x, hf, hw =>
    rw [show w = .int x from hw]
    have h9 : x = 0 ∨ x = 1 := of_decide_eq_true hf
    rcases h9 with rfl | rfl
    · exact ⟨rfl, rfl⟩
    · exact ⟨rfl, rfl⟩
  | .long, .inr (.inl x), _, hw => rw [show w = .long x from hw]; exact ⟨rfl, rfl⟩
  | .object C, .inr (.inr none), _, hw => rw [show w = .null from hw]; exact ⟨rfl, rfl⟩
  | .object C, .inr (.inr (some k)), _, ⟨a, h1, _⟩ => rw [h1]; exact ⟨rfl, rfl⟩
  | .array C, .inr (.inr none), _, hw => rw [show w = .null from hw]; exact ⟨rfl, rfl⟩
  | .array C, .inr (.inr (some k)), _, ⟨a, h1, _⟩ => rw [h1]; exact ⟨rfl, rfl⟩
theorem zp_wf_fv {H : zp_H} {p k : Nat} {ty : FieldType} {v : zp_V} (hf : zp_fit ty v = true) : zp_fv (zp_wf H p k v) p ty k = v := by
  match ty, v, hf with
  | .int, .inl x, _ => simp [zp_fv, zp_wf, zp_u]
  | .boolean, .inl x, _ => simp [zp_fv, zp_wf, zp_u]
  | .long, .inr (.inl x), _ => simp [zp_fv, zp_wf, zp_u]
  | .object C, .inr (.inr x), _ => simp [zp_fv, zp_wf, zp_u]
  | .array C, .inr (.inr x), _ => simp [zp_fv, zp_wf, zp_u]
theorem zp_wf_ne {H : zp_H} {p k q j : Nat} {ty : FieldType} {v : zp_V} (h : ¬ (q = p ∧ j = k)) : zp_fv (zp_wf H p k v) q ty j = zp_fv H q ty j := by
  match v with
  | .inl x => cases ty <;> simp [zp_fv, zp_wf, zp_u, h]
  | .inr (.inl x) => cases ty <;> simp [zp_fv, zp_wf, zp_u, h]
  | .inr (.inr x) => cases ty <;> simp [zp_fv, zp_wf, zp_u, h]
theorem zp_wf_s (H : zp_H) (p k : Nat) (v : zp_V) : (zp_wf H p k v).1 = H.1 := by
  match v with
  | .inl x => rfl
  | .inr (.inl x) => rfl
  | .inr (.inr x) => rfl
theorem zp_wf_1 {H : zp_H} {p k : Nat} {v : zp_V} {q : Nat} (h : q ≠ p) : (∀ j, (zp_wf H p k v).2.1 q j = H.2.1 q j) ∧ (∀ j, (zp_wf H p k v).2.2.1 q j = H.2.2.1 q j) ∧ ∀ j, (zp_wf H p k v).2.2.2 q j = H.2.2.2 q j := by
  match v with
  | .inl x => exact ⟨fun j => by simp [zp_wf, zp_u, h], fun j => rfl, fun j => rfl⟩
  | .inr (.inl x) => exact ⟨fun j => rfl, fun j => by simp [zp_wf, zp_u, h], fun j => rfl⟩
  | .inr (.inr x) => exact ⟨fun j => rfl, fun j => rfl, fun j => by simp [zp_wf, zp_u, h]⟩
section ZP
variable {p : Program} {l : Launch} {e : Env} {R : Room} {s : State} {m : MethodId} {args : Array Value} {below : List Frame} {meth : Method} {c : Code} {Q : State → Prop} {E : za_E} {nL : Nat} {ads0 : List Nat} {pc : Nat} {lv : zp_LV} {t : zp_T} {st : List zp_V} {S9 : zp_S}
theorem zx_putf {r : Option za_row} {own : Nat} {ini : Bool}
    (rule : ∀ {ci k : Nat} {z : Int}, r = some (0, ci, k, z) → (z = 0 ∨ (ini = true ∧ ci = own)) → ∀ {H : Heap} {locs : List Loc} {cells slots : Nat} {ls : Array Slot} {rest : List Value} {ws : va_W} {q a : Nat} {vs : List Value} {v : Value}, va_P (za_D E) vwCl ws H → va_D (za_A E) ws → va_S (za_A E) s.heap H locs → ws[q]? = some (a, .inr (ci, vs)) → k < vs.length → narrow (za_tyX ci k) v = v → fits (za_tyX ci k) v = true →
      (∀ (H1 : Heap) (locs1 : List Loc), va_P (za_D E) vwCl (ws.set q (a, .inr (ci, vs.set k v))) H1 → va_D (za_A E) (ws.set q (a, .inr (ci, vs.set k v))) → va_S (za_A E) s.heap H1 locs1 → W p l e R s m args below meth c H1 locs1 cells slots Q (F0 m (pc + 3) ls rest)) → W p l e R s m args below meth c H locs cells slots Q (F0 m pc ls (v :: .ref a :: rest)))
    (h : zp_putf r own ini pc lv st t = some (.inl S9)) (hk : zp_G p l e R s m args below meth c Q E nL ads0 S9) : zp_G p l e R s m args below meth c Q E nL ads0 (pc, lv, st, t) := by
  intro ads H locs ls stk M
  obtain ⟨h1, h3, h4, h5, h6⟩ := M
  unfold zp_putf at h
  split at h
  · rename_i ci k fin v q rest
    split at h
    · rename_i cj ho
      obtain ⟨hc, h8⟩ := za_bif h
      have hc := za_beq hc
      subst hc
      obtain ⟨hl, h8⟩ := za_bif h8
      obtain ⟨hf, h8⟩ := za_bif h8
      split at h8
      · rename_i hz
        obtain ⟨w, stk1, rfl, w2, q1⟩ := za_F2_cons h3
        obtain ⟨_, stk2, rfl, ⟨a, rfl, ha⟩, q2⟩ := za_F2_cons q1
        obtain ⟨ws, x9, e1, e2, e3, e4, e5, e6, e7⟩ := zp_obj h5 ha ho
        match x9, e6, e7 with
        | .inr (cj9, vs), e6, e7 =>
          obtain ⟨rfl, f2, f3⟩ := e7
          have hk9 : k < vs.length := by rw [f2]; exact za_blt hl
          obtain ⟨n1, n2⟩ := zp_fit_ok hf w2
          refine rule rfl hz e4 e5 h6 e6 hk9 n1 n2 (fun H1 locs1 g1 g2 g3 => ?_)
          refine zx_go h8 hk ads H1 locs1 ls stk2 ⟨h1, q2, h4, ?_, g3⟩
          refine zp_set e1 e2 e3 ho e6 (zp_wf_s _ _ _ _) (fun p9 hp9 => (zp_wf_1 hp9).1) (fun p9 hp9 => (zp_wf_1 hp9).2.1) (fun p9 hp9 => (zp_wf_1 hp9).2.2) g1 g2 ⟨rfl, by rw [List.length_set]; exact f2, fun j w' hw' => ?_⟩
          by_cases hj : k = j
          · subst hj
            rw [List.getElem?_set_self hk9] at hw'
            cases hw'
            rw [zp_wf_fv hf]
            exact w2
          · rw [List.getElem?_set_ne hj] at hw'
            rw [zp_wf_ne (fun hh => hj hh.2.symm)]
            exact f3 j w' hw'
      · cases h8
    · cases h
  · cases h
theorem zx_if1 {P : Int32 → Prop} {o : Int} {x : Int32} {rest : List zp_V}
    (rule : ∀ {g : Nat} {H : Heap} {locs : List Loc} {cells slots : Nat} {ls : Array Slot} {rest : List Value} {x : Int32}, (pc : Int) + o = (g : Int) → (P x → W p l e R s m args below meth c H locs cells slots Q (F0 m g ls rest)) → (¬ P x → W p l e R s m args below meth c H locs cells slots Q (F0 m (pc + 3) ls rest)) → W p l e R s m args below meth c H locs cells slots Q (F0 m pc ls (.int x :: rest)))
    {g : Nat} (hg : zp_to o pc = some g) (hy : P x → zp_G p l e R s m args below meth c Q E nL ads0 (g, lv, rest, t)) (hn : ¬ P x → zp_G p l e R s m args below meth c Q E nL ads0 (pc + 3, lv, rest, t)) : zp_G p l e R s m args below meth c Q E nL ads0 (pc, lv, .inl x :: rest, t) := by
  intro ads H locs ls stk M
  obtain ⟨h1, h3, h4, h5, h6⟩ := M
  obtain ⟨_, stk1, rfl, rfl, q1⟩ := za_F2_cons h3
  have hg' : (pc : Int) + o = (g : Int) := by
    unfold zp_to at hg
    split at hg
    · rename_i g9 h9
      cases hg
      exact h9
    · cases hg
  exact rule hg' (fun h => hy h ads H locs ls stk1 ⟨h1, q1, h4, h5, h6⟩) (fun h => hn h ads H locs ls stk1 ⟨h1, q1, h4, h5, h6⟩)
end ZP
