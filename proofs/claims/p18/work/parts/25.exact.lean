/-! ===== stack alone; longs in arrays ===== -/
section ZT
variable {p : Program} {l : Launch} {e : Env} {R : Room} {s : State} {m : MethodId} {args : Array Value} {below : List Frame} {meth : Method} {c : Code} {Q : State → Prop} {E : za_E} {nL : Nat} {ads0 : List Nat} {pc : Nat} {lv : zp_LV} {t : zp_T} {st : List zp_V} {S9 : zp_S}
/-- an instruction of the stack alone -/
theorem zx_st {st' : List zp_V} {pc' : Nat}
    (rule : ∀ {H : Heap} {locs : List Loc} {cells slots : Nat} {ls : Array Slot} {ads : List Nat} {stk : List Value}, za_F2 (zp_gV ads) st stk → ∃ stk', za_F2 (zp_gV ads) st' stk' ∧ (W p l e R s m args below meth c H locs cells slots Q (F0 m pc' ls stk') → W p l e R s m args below meth c H locs cells slots Q (F0 m pc ls stk)))
    (hk : zp_G p l e R s m args below meth c Q E nL ads0 (pc', lv, st', t)) : zp_G p l e R s m args below meth c Q E nL ads0 (pc, lv, st, t) := by
  intro ads H locs ls stk M
  obtain ⟨h1, h3, h4, h5, h6⟩ := M
  obtain ⟨stk', g1, g2⟩ := rule (H := H) (locs := locs) (cells := t.2.1) (slots := t.2.2) (ls := ls) h3
  exact g2 (hk ads H locs ls stk' ⟨h1, g1, h4, h5, h6⟩)
theorem zx_push {v : zp_V} {w : Value} {k : Nat} (hv : ∀ ads, zp_gV ads v w)
    (rule : ∀ {H : Heap} {locs : List Loc} {cells slots : Nat} {ls : Array Slot} {rest : List Value}, W p l e R s m args below meth c H locs cells slots Q (F0 m (pc + k) ls (w :: rest)) → W p l e R s m args below meth c H locs cells slots Q (F0 m pc ls rest))
    (hk : zp_G p l e R s m args below meth c Q E nL ads0 (pc + k, lv, v :: st, t)) : zp_G p l e R s m args below meth c Q E nL ads0 (pc, lv, st, t) :=
  zx_st (st' := v :: st) (fun {H locs cells slots ls ads stk} h => ⟨w :: stk, ⟨hv ads, h⟩, rule⟩) hk
theorem zx_dup {v : zp_V} (hc : zp_cat v = 1)
    (rule : ∀ {H : Heap} {locs : List Loc} {cells slots : Nat} {ls : Array Slot} {rest : List Value} {w : Value}, w.category = 1 → W p l e R s m args below meth c H locs cells slots Q (F0 m (pc + 1) ls (w :: w :: rest)) → W p l e R s m args below meth c H locs cells slots Q (F0 m pc ls (w :: rest)))
    (hk : zp_G p l e R s m args below meth c Q E nL ads0 (pc + 1, lv, v :: v :: st, t)) : zp_G p l e R s m args below meth c Q E nL ads0 (pc, lv, v :: st, t) :=
  zx_st (fun {H locs cells slots ls ads stk} h => by
    obtain ⟨w, r, rfl, hw, q1⟩ := za_F2_cons h
    exact ⟨w :: w :: r, ⟨hw, hw, q1⟩, rule ((zp_cat_ok hw).trans hc)⟩) hk
theorem zx_pop {v : zp_V} (hc : zp_cat v = 1)
    (rule : ∀ {H : Heap} {locs : List Loc} {cells slots : Nat} {ls : Array Slot} {rest : List Value} {w : Value}, w.category = 1 → W p l e R s m args below meth c H locs cells slots Q (F0 m (pc + 1) ls rest) → W p l e R s m args below meth c H locs cells slots Q (F0 m pc ls (w :: rest)))
    (hk : zp_G p l e R s m args below meth c Q E nL ads0 (pc + 1, lv, st, t)) : zp_G p l e R s m args below meth c Q E nL ads0 (pc, lv, v :: st, t) :=
  zx_st (fun {H locs cells slots ls ads stk} h => by
    obtain ⟨w, r, rfl, hw, q1⟩ := za_F2_cons h
    exact ⟨r, q1, rule ((zp_cat_ok hw).trans hc)⟩) hk
theorem zx_dup2 {u v : zp_V} (hu : zp_cat u = 1) (hc : zp_cat v = 1)
    (rule : ∀ {H : Heap} {locs : List Loc} {cells slots : Nat} {ls : Array Slot} {rest : List Value} {w x : Value}, w.category = 1 → x.category = 1 → W p l e R s m args below meth c H locs cells slots Q (F0 m (pc + 1) ls (w :: x :: w :: x :: rest)) → W p l e R s m args below meth c H locs cells slots Q (F0 m pc ls (w :: x :: rest)))
    (hk : zp_G p l e R s m args below meth c Q E nL ads0 (pc + 1, lv, u :: v :: u :: v :: st, t)) : zp_G p l e R s m args below meth c Q E nL ads0 (pc, lv, u :: v :: st, t) :=
  zx_st (fun {H locs cells slots ls ads stk} h => by
    obtain ⟨w, r, rfl, hw, q1⟩ := za_F2_cons h
    obtain ⟨x, r2, rfl, hx, q2⟩ := za_F2_cons q1
    exact ⟨w :: x :: w :: x :: r2, ⟨hw, hx, hw, hx, q2⟩, rule ((zp_cat_ok hw).trans hu) ((zp_cat_ok hx).trans hc)⟩) hk
theorem zx_i2l {x : Int32}
    (rule : ∀ {H : Heap} {locs : List Loc} {cells slots : Nat} {ls : Array Slot} {rest : List Value} {x : Int32}, W p l e R s m args below meth c H locs cells slots Q (F0 m (pc + 1) ls (.long x.toInt64 :: rest)) → W p l e R s m args below meth c H locs cells slots Q (F0 m pc ls (.int x :: rest)))
    (hk : zp_G p l e R s m args below meth c Q E nL ads0 (pc + 1, lv, .inr (.inl x.toInt64) :: st, t)) : zp_G p l e R s m args below meth c Q E nL ads0 (pc, lv, .inl x :: st, t) :=
  zx_st (fun {H locs cells slots ls ads stk} h => by
    obtain ⟨_, r, rfl, rfl, q1⟩ := za_F2_cons h
    exact ⟨_ :: r, ⟨rfl, q1⟩, rule⟩) hk
theorem zx_l2i {x : Int64}
    (rule : ∀ {H : Heap} {locs : List Loc} {cells slots : Nat} {ls : Array Slot} {rest : List Value} {x : Int64}, W p l e R s m args below meth c H locs cells slots Q (F0 m (pc + 1) ls (.int x.toInt32 :: rest)) → W p l e R s m args below meth c H locs cells slots Q (F0 m pc ls (.long x :: rest)))
    (hk : zp_G p l e R s m args below meth c Q E nL ads0 (pc + 1, lv, .inl x.toInt32 :: st, t)) : zp_G p l e R s m args below meth c Q E nL ads0 (pc, lv, .inr (.inl x) :: st, t) :=
  zx_st (fun {H locs cells slots ls ads stk} h => by
    obtain ⟨_, r, rfl, rfl, q1⟩ := za_F2_cons h
    exact ⟨_ :: r, ⟨rfl, q1⟩, rule⟩) hk
theorem zx_if2 {P : Int32 → Int32 → Prop} {o : Int} {x y : Int32}
    (rule : ∀ {g : Nat} {H : Heap} {locs : List Loc} {cells slots : Nat} {ls : Array Slot} {rest : List Value} {x z : Int32}, (pc : Int) + o = (g : Int) → (P x z → W p l e R s m args below meth c H locs cells slots Q (F0 m g ls rest)) → (¬ P x z → W p l e R s m args below meth c H locs cells slots Q (F0 m (pc + 3) ls rest)) → W p l e R s m args below meth c H locs cells slots Q (F0 m pc ls (.int z :: .int x :: rest)))
    {g : Nat} (hg : (pc : Int) + o = (g : Int)) (hy : P x y → zp_G p l e R s m args below meth c Q E nL ads0 (g, lv, st, t)) (hn : ¬ P x y → zp_G p l e R s m args below meth c Q E nL ads0 (pc + 3, lv, st, t)) : zp_G p l e R s m args below meth c Q E nL ads0 (pc, lv, .inl y :: .inl x :: st, t) := by
  intro ads H locs ls stk M
  obtain ⟨h1, h3, h4, h5, h6⟩ := M
  obtain ⟨_, stk1, rfl, rfl, q1⟩ := za_F2_cons h3
  obtain ⟨_, stk2, rfl, rfl, q2⟩ := za_F2_cons q1
  exact rule hg (fun h => hy h ads H locs ls stk2 ⟨h1, q2, h4, h5, h6⟩) (fun h => hn h ads H locs ls stk2 ⟨h1, q2, h4, h5, h6⟩)
theorem zx_lld
    (rule : ∀ {H : Heap} {locs : List Loc} {cells slots : Nat} {ls : Array Slot} {rest : List Value} {ws : va_W} {q a n : Nat} {f : Nat → Int64} {i : Int32}, va_P (za_D E) vwCl ws H → ws[q]? = some (a, .inl (E.2.2.2.1.2.2.2, n, .inr (.inl f))) → vp_in i n → W p l e R s m args below meth c H locs cells slots Q (F0 m (pc + 1) ls (.long (f i.toNatClampNeg) :: rest)) → W p l e R s m args below meth c H locs cells slots Q (F0 m pc ls (.int i :: .ref a :: rest)))
    (h : zp_lld pc lv st t = some (.inl S9)) (hk : zp_G p l e R s m args below meth c Q E nL ads0 S9) : zp_G p l e R s m args below meth c Q E nL ads0 (pc, lv, st, t) := by
  intro ads H locs ls stk M
  obtain ⟨h1, h3, h4, h5, h6⟩ := M
  unfold zp_lld at h
  split at h
  · rename_i i q rest
    split at h
    · rename_i n ho
      split at h
      · rename_i hc
        obtain ⟨c3, c4⟩ := hc
        obtain ⟨k1, k2, k3⟩ := zp_ix c3 c4
        obtain ⟨_, stk1, rfl, rfl, q1⟩ := za_F2_cons h3
        obtain ⟨_, stk2, rfl, ⟨a, rfl, ha⟩, q2⟩ := za_F2_cons q1
        obtain ⟨ws, x9, e1, e2, e3, e4, e5, e6, e7⟩ := zp_obj h5 ha ho
        match x9, e6, e7 with
        | .inl (cA, n', .inr (.inl f)), e6, e7 =>
          obtain ⟨rfl, -, rfl, f4⟩ := e7
          refine rule e4 e6 k1 (zx_go h hk ads H locs ls (_ :: stk2) ⟨h1, ⟨?_, q2⟩, h4, h5, h6⟩)
          rw [k2, f4 _ k3]
          rfl
        | .inl (cA, n', .inl f), e6, e7 => exact absurd e7.2.1 (by omega)
      · cases h
    · cases h
  · cases h
theorem zx_lst
    (rule : ∀ {H : Heap} {locs : List Loc} {cells slots : Nat} {ls : Array Slot} {rest : List Value} {ws : va_W} {q a n : Nat} {f : Nat → Int64} {i : Int32} {x : Int64}, va_P (za_D E) vwCl ws H → va_D (za_A E) ws → va_S (za_A E) s.heap H locs → ws[q]? = some (a, .inl (E.2.2.2.1.2.2.2, n, .inr (.inl f))) → vp_in i n →
      (∀ (H1 : Heap) (locs1 : List Loc), va_P (za_D E) vwCl (ws.set q (a, .inl (E.2.2.2.1.2.2.2, n, .inr (.inl (vp_updL f i.toNatClampNeg x))))) H1 → va_D (za_A E) (ws.set q (a, .inl (E.2.2.2.1.2.2.2, n, .inr (.inl (vp_updL f i.toNatClampNeg x))))) → va_S (za_A E) s.heap H1 locs1 → W p l e R s m args below meth c H1 locs1 cells slots Q (F0 m (pc + 1) ls rest)) → W p l e R s m args below meth c H locs cells slots Q (F0 m pc ls (.long x :: .int i :: .ref a :: rest)))
    (h : zp_lst pc lv st t = some (.inl S9)) (hk : zp_G p l e R s m args below meth c Q E nL ads0 S9) : zp_G p l e R s m args below meth c Q E nL ads0 (pc, lv, st, t) := by
  intro ads H locs ls stk M
  obtain ⟨h1, h3, h4, h5, h6⟩ := M
  unfold zp_lst at h
  split at h
  · rename_i x i q rest
    split at h
    · rename_i n ho
      split at h
      · rename_i hc
        obtain ⟨c3, c4⟩ := hc
        obtain ⟨k1, k2, k3⟩ := zp_ix c3 c4
        obtain ⟨_, stk1, rfl, rfl, q1⟩ := za_F2_cons h3
        obtain ⟨_, stk2, rfl, rfl, q2⟩ := za_F2_cons q1
        obtain ⟨_, stk3, rfl, ⟨a, rfl, ha⟩, q3⟩ := za_F2_cons q2
        obtain ⟨ws, x9, e1, e2, e3, e4, e5, e6, e7⟩ := zp_obj h5 ha ho
        match x9, e6, e7 with
        | .inl (cA, n', .inr (.inl f)), e6, e7 =>
          obtain ⟨rfl, f5, rfl, f4⟩ := e7
          refine rule (x := x) e4 e5 h6 e6 k1 (fun H1 locs1 g1 g2 g3 => ?_)
          refine zx_go h hk ads H1 locs1 ls stk3 ⟨h1, q3, h4, ?_, g3⟩
          refine zp_set e1 e2 e3 ho e6 rfl (fun _ _ _ => rfl) ?_ (fun _ _ _ => rfl) g1 g2 ⟨rfl, f5, rfl, fun j hj => ?_⟩
          · intro p9 hp9 k9
            exact zp_u_ne (fun hh => hp9 hh.1)
          · show vp_updL f i.toNatClampNeg x j = zp_u t.1.2.2.1 q i.toInt.toNat x q j
            rw [k2]
            unfold vp_updL zp_u
            by_cases hj9 : j = i.toInt.toNat
            · rw [if_pos hj9, if_pos ⟨rfl, hj9⟩]
            · rw [if_neg hj9, if_neg (fun hh => hj9 hh.2)]
              exact f4 j hj
        | .inl (cA, n', .inl f), e6, e7 => exact absurd e7.2.1 (by omega)
      · cases h
    · cases h
  · cases h
end ZT
