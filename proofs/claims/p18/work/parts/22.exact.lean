/-! ===== the exact heap: writes ===== -/
theorem zp_fv_c {H H' : zp_H} {p : Nat} (h1 : ∀ k, H'.2.1 p k = H.2.1 p k) (h2 : ∀ k, H'.2.2.1 p k = H.2.2.1 p k) (h3 : ∀ k, H'.2.2.2 p k = H.2.2.2 p k) (ty : FieldType) (k : Nat) : zp_fv H' p ty k = zp_fv H p ty k := by
  cases ty <;> simp [zp_fv, h1, h2, h3]
theorem zp_gO_c {E : za_E} {ads : List Nat} {H H' : zp_H} {p : Nat} {o : zp_K} {x : va_E} (h1 : ∀ k, H'.2.1 p k = H.2.1 p k) (h2 : ∀ k, H'.2.2.1 p k = H.2.2.1 p k) (h3 : ∀ k, H'.2.2.2 p k = H.2.2.2 p k) (h : zp_gO E ads H p o x) : zp_gO E ads H' p o x := by
  match o, x, h with
  | .inl ci, .inr (cj, vs), h => exact ⟨h.1, h.2.1, fun k w hw => by rw [zp_fv_c h1 h2 h3]; exact h.2.2 k w hw⟩
  | .inr (t, n), .inl (cA, n', .inl f), h => exact ⟨h.1, h.2.1, h.2.2.1, fun i hi => by rw [h1]; exact h.2.2.2 i hi⟩
  | .inr (t, n), .inl (cA, n', .inr (.inl f)), h => exact ⟨h.1, h.2.1, h.2.2.1, fun i hi => by rw [h2]; exact h.2.2.2 i hi⟩
theorem zp_ads {E : za_E} {ads : List Nat} {ws : va_W} {q a : Nat} {x y : va_E} (e1 : ads = za_b E :: ws.map (·.1)) (hx : ws[q]? = some (a, x)) : ads = za_b E :: (ws.set q (a, y)).map (·.1) := by
  rw [List.map_set, e1]
  congr 1
  apply List.ext_getElem?
  intro i
  have e5 : (ws.map (·.1))[q]? = some a := by rw [List.getElem?_map, hx]; rfl
  by_cases hi : q = i
  · subst hi
    rw [List.getElem?_set_self (by simpa using (List.getElem?_eq_some_iff.mp hx).1)]
    exact e5
  · rw [List.getElem?_set_ne hi]
/-- one place has changed -/
theorem zp_set {E : za_E} {ads : List Nat} {H H' : zp_H} {Hp : Heap} {ws : va_W} {q a : Nat} {x y : va_E} {o : zp_K} (e1 : ads = za_b E :: ws.map (·.1)) (e2 : ws.length = H.1.length) (e3 : ∀ (p : Nat) (o : zp_K) (x : Nat × va_E), H.1[p]? = some o → ws[p]? = some x → zp_gO E ads H p o x.2) (ho : H.1[q]? = some o) (hx : ws[q]? = some (a, x))
    (hs : H'.1 = H.1) (h1 : ∀ p, p ≠ q → ∀ k, H'.2.1 p k = H.2.1 p k) (h2 : ∀ p, p ≠ q → ∀ k, H'.2.2.1 p k = H.2.2.1 p k) (h3 : ∀ p, p ≠ q → ∀ k, H'.2.2.2 p k = H.2.2.2 p k)
    (g1 : va_P (za_D E) vwCl (ws.set q (a, y)) Hp) (g2 : va_D (za_A E) (ws.set q (a, y))) (hy : zp_gO E ads H' q o y) : zp_Wd E ads H' Hp := by
  refine ⟨ws.set q (a, y), zp_ads e1 hx, by rw [List.length_set, e2, hs], ?_, g1, g2⟩
  intro p o' x' hp hx'
  rw [hs] at hp
  by_cases hpq : q = p
  · subst hpq
    rw [List.getElem?_set_self (List.getElem?_eq_some_iff.mp hx).1] at hx'
    cases hx'
    cases Option.some.inj (hp.symm.trans ho)
    exact hy
  · rw [List.getElem?_set_ne hpq] at hx'
    exact zp_gO_c (h1 p (Ne.symm hpq)) (h2 p (Ne.symm hpq)) (h3 p (Ne.symm hpq)) (e3 p o' x' hp hx')
section ZF
variable {p : Program} {l : Launch} {e : Env} {R : Room} {s : State} {m : MethodId} {args : Array Value} {below : List Frame} {meth : Method} {c : Code} {Q : State → Prop} {E : za_E} {nL : Nat} {ads0 : List Nat} {pc : Nat} {lv : zp_LV} {t : zp_T} {st : List zp_V} {S9 : zp_S}
theorem zp_ix {i : Int32} {n : Nat} (h1 : 0 ≤ i.toInt) (h2 : i.toInt < n) : vp_in i n ∧ i.toNatClampNeg = i.toInt.toNat ∧ i.toInt.toNat < n := by
  have h3 : i.toInt = Int.ofNat i.toInt.toNat := by
    show i.toInt = ((i.toInt.toNat : Nat) : Int)
    omega
  have h4 : i.toInt.toNat < n := by omega
  exact ⟨za_vin h3 h4, (za_clamp h3).1, h4⟩
theorem zx_ast {b : Bool}
    (rule : ∀ {tt : Nat}, tt < 3 → (b = false ↔ tt = 0) → ∀ {H : Heap} {locs : List Loc} {cells slots : Nat} {ls : Array Slot} {rest : List Value} {ws : va_W} {q a n : Nat} {f : Nat → Int32} {i x : Int32}, va_P (za_D E) vwCl ws H → va_D (za_A E) ws → va_S (za_A E) s.heap H locs → ws[q]? = some (a, .inl (za_tc E tt, n, .inl f)) → vp_in i n →
      (∀ (H1 : Heap) (locs1 : List Loc), va_P (za_D E) vwCl (ws.set q (a, .inl (za_tc E tt, n, .inl (upd f i.toNatClampNeg (zp_nar tt x))))) H1 → va_D (za_A E) (ws.set q (a, .inl (za_tc E tt, n, .inl (upd f i.toNatClampNeg (zp_nar tt x))))) → va_S (za_A E) s.heap H1 locs1 → W p l e R s m args below meth c H1 locs1 cells slots Q (F0 m (pc + 1) ls rest)) → W p l e R s m args below meth c H locs cells slots Q (F0 m pc ls (.int x :: .int i :: .ref a :: rest)))
    (h : zp_ast b pc lv st t = some (.inl S9)) (hk : zp_G p l e R s m args below meth c Q E nL ads0 S9) : zp_G p l e R s m args below meth c Q E nL ads0 (pc, lv, st, t) := by
  intro ads H locs ls stk M
  obtain ⟨h1, h3, h4, h5, h6⟩ := M
  unfold zp_ast at h
  split at h
  · rename_i x i q rest
    split at h
    · rename_i ty n ho
      split at h
      · rename_i hc
        obtain ⟨c1, c2, c3, c4⟩ := hc
        obtain ⟨k1, k2, k3⟩ := zp_ix c3 c4
        obtain ⟨_, stk1, rfl, rfl, q1⟩ := za_F2_cons h3
        obtain ⟨_, stk2, rfl, rfl, q2⟩ := za_F2_cons q1
        obtain ⟨_, stk3, rfl, ⟨a, rfl, ha⟩, q3⟩ := za_F2_cons q2
        obtain ⟨ws, x9, e1, e2, e3, e4, e5, e6, e7⟩ := zp_obj h5 ha ho
        match x9, e6, e7 with
        | .inl (cA, n', .inl f), e6, e7 =>
          obtain ⟨rfl, -, rfl, f4⟩ := e7
          refine rule (x := x) c2 c1 e4 e5 h6 e6 k1 (fun H1 locs1 g1 g2 g3 => ?_)
          refine zx_go h hk ads H1 locs1 ls stk3 ⟨h1, q3, h4, ?_, g3⟩
          refine zp_set e1 e2 e3 ho e6 rfl ?_ (fun _ _ _ => rfl) (fun _ _ _ => rfl) g1 g2 ⟨rfl, c2, rfl, fun j hj => ?_⟩
          · intro p9 hp9 k9
            exact zp_u_ne (fun hh => hp9 hh.1)
          · show upd f i.toNatClampNeg (zp_nar ty x) j = zp_u t.1.2.1 q i.toInt.toNat (zp_nar ty x) q j
            rw [k2]
            unfold upd zp_u
            by_cases hj9 : j = i.toInt.toNat
            · rw [if_pos hj9, if_pos ⟨rfl, hj9⟩]
            · rw [if_neg hj9, if_neg (fun hh => hj9 hh.2)]
              exact f4 j hj
        | .inl (cA, n', .inr (.inl f)), e6, e7 => exact absurd e7.2.1 (by omega)
      · cases h
    · cases h
  · cases h
end ZF
