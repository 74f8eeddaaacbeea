/-! ===== codes of rules: what the class writes ===== -/
def xE2 (i : xIt) : Int := if i.1 = 0 then i.2 else if i.1 = 1 then -1 - i.2 else if i.1 = 3 then -11 else if i.1 = 4 then -10 else if i.1 = 5 then -9 else if i.1 = 6 then -61 else if i.1 = 7 then -62 else if i.1 = 8 then -44 else if i.1 = 9 then -46 else if i.1 = 10 then -43 else -48
/-- the class's code grew by the row C -/
def xGr (wa : Nat) (C : List xIt) (H0 H1 : zp_H) : Prop := (H1.2.1 53 1).toInt = (H0.2.1 53 1).toInt + (C.length : Int) ∧ (∀ k : Nat, (k : Int) < (H0.2.1 53 1).toInt → H1.2.1 wa k = H0.2.1 wa k) ∧ ∀ j i, C[j]? = some i → (H1.2.1 wa ((H0.2.1 53 1).toInt.toNat + j)).toInt = xE2 i
/-- its code is left alone -/
def xSmw (wa : Nat) (H H1 : zp_H) : Prop := H1.2.1 53 1 = H.2.1 53 1 ∧ ∀ k, H1.2.1 wa k = H.2.1 wa k
/-- y is put behind its code, if there is room -/
def xPut (wa : Nat) (y : Int) (H H1 : zp_H) : Prop := 0 ≤ (H.2.1 53 1).toInt → (H.2.1 53 1).toInt < 700 → (H1.2.1 53 1).toInt = (H.2.1 53 1).toInt + 1 ∧ (∀ k, k ≠ (H.2.1 53 1).toInt.toNat → H1.2.1 wa k = H.2.1 wa k) ∧ (H1.2.1 wa (H.2.1 53 1).toInt.toNat).toInt = y
theorem xGr_0 {wa : Nat} {H H1 : zp_H} (h : xSmw wa H H1) : xGr wa [] H H1 := ⟨by rw [h.1]; exact (Int.add_zero _).symm, fun k _ => h.2 k, fun j i hi => by cases hi⟩
theorem xGr_a {wa : Nat} {C D : List xIt} {H0 H1 H2 : zp_H} (h0 : 0 ≤ (H0.2.1 53 1).toInt) (h : xGr wa C H0 H1) (h' : xGr wa D H1 H2) : xGr wa (C ++ D) H0 H2 := by
  obtain ⟨a1, a2, a3⟩ := h
  obtain ⟨b1, b2, b3⟩ := h'
  refine ⟨by rw [b1, a1, List.length_append]; omega, fun k hk => (b2 k (by omega)).trans (a2 k hk), fun j i hi => ?_⟩
  by_cases hj : j < C.length
  · rw [List.getElem?_append_left hj] at hi
    rw [b2 ((H0.2.1 53 1).toInt.toNat + j) (by omega)]
    exact a3 j i hi
  · rw [List.getElem?_append_right (Nat.le_of_not_lt hj)] at hi
    rw [show (H0.2.1 53 1).toInt.toNat + j = (H1.2.1 53 1).toInt.toNat + (j - C.length) by omega]
    exact b3 _ i hi
theorem xGr_p {wa : Nat} {y : Int} {i : xIt} {H H1 : zp_H} (h0 : 0 ≤ (H.2.1 53 1).toInt ∧ (H.2.1 53 1).toInt < 700) (h : xPut wa y H H1) (hy : y = xE2 i) : xGr wa [i] H H1 := by
  obtain ⟨b1, b2, b3⟩ := h h0.1 h0.2
  refine ⟨b1, fun k hk => b2 k (by omega), fun j e he => ?_⟩
  cases j with
  | zero =>
    have he : some i = some e := he
    cases he
    exact b3.trans hy
  | succ j => cases he
/-- as yR, and what the class put out between two heaps -/
def xRC (T : Nat → Int) (n wa l : Nat) (d : Int) (s s' : yM) (H0 H1 : zp_H) : Prop := yR T n s s' ∧ (0 ≤ (H0.2.1 53 1).toInt → (H0.2.1 53 1).toInt ≤ s.2.2 → ∃ C, xPo T n l s s' C ∧ xOp d C ∧ (C.length : Int) + s.2.2 ≤ s'.2.2 ∧ xGr wa C H0 H1)
theorem xRC_m {T : Nat → Int} {n wa l : Nat} {d : Int} {s s' : yM} {H0 H H1 : zp_H} (h : xRC T n wa l d s s' H0 H) (hm : xSmw wa H H1) : xRC T n wa l d s s' H0 H1 := ⟨h.1, fun h0 h1 => by
  obtain ⟨C, c1, c2, c3, c4⟩ := h.2 h0 h1
  have k := xGr_a h0 c4 (xGr_0 hm)
  rw [List.append_nil] at k
  exact ⟨C, c1, c2, c3, k⟩⟩
theorem xRC_f {T : Nat → Int} {n wa l : Nat} {d : Int} {s s' : yM} {H0 H H1 : zp_H} (hm : xSmw wa H0 H) (h : xRC T n wa l d s s' H H1) : xRC T n wa l d s s' H0 H1 := ⟨h.1, fun h0 h1 => by
  obtain ⟨C, c1, c2, c3, c4⟩ := h.2 (by rw [hm.1]; exact h0) (by rw [hm.1]; exact h1)
  exact ⟨C, c1, c2, c3, xGr_a h0 (xGr_0 hm) c4⟩⟩
theorem xRC_up {T : Nat → Int} {n wa l l2 : Nat} {d e : Int} {s s' : yM} {H0 H1 : zp_H} (hl : l ≤ l2) (hd : d ≤ e) (h : xRC T n wa l2 d s s' H0 H1) : xRC T n wa l e s s' H0 H1 := ⟨h.1, fun h0 h1 => by
  obtain ⟨C, c1, c2, c3, c4⟩ := h.2 h0 h1
  exact ⟨C, xPo_up hl c1, xOp_m hd c2, c3, c4⟩⟩
/-- one token that is an operand -/
theorem xRC_1 {T : Nat → Int} {n wa l : Nat} {y : Int} {s s' : yM} {i : xIt} {H0 H1 : zp_H} (hN : yN T n s = .inl s') (hw : ∀ W O, xWO T n s.1 s.2.2 W O = (W, O ++ [i])) (hi : i.1 < 2) (hv : 0 ≤ i.2 ∧ i.2 ≤ 9999 ∧ (i.1 = 1 → i.2 < 8)) (hs : s.2.2 < s'.2.2) (h7 : s.2.2 < 700) (hp : xPut wa y H0 H1) (hy : y = xE2 i) : xRC T n wa l 1 s s' H0 H1 := ⟨yR_s hN, fun h0 h1 => ⟨[i], xPo_one hN hw, xOp_1 hi hv, by show (1 : Int) + _ ≤ _; omega, xGr_p ⟨h0, by omega⟩ hp hy⟩⟩
/-- left, an act, right, and the act put out -/
theorem xRC_b {T : Nat → Int} {n wa l l2 a : Nat} {d d2 e y : Int} {s s1 s2 : yM} {lv : List Bool} {q : Nat} {H0 H H1 H2 H3 : zp_H} (h : xRC T n wa l d s (0, lv, q) H0 H) (hN : yN T n (0, lv, q) = .inl s1) (hw : ∀ W O, xWO T n 0 q W O = xPs l a W O) (ha : 4 ≤ a ∧ a < 12 ∧ xSg a = l) (hs : q < s1.2.2) (hm : xSmw wa H H1) (h2 : xRC T n wa l2 d2 s1 s2 H1 H2) (hl : l < l2) (hd : d ≤ e ∧ d2 + 1 ≤ e) (h7 : s2.2.2 ≤ 700) (hp : xPut wa y H2 H3) (hy : y = xE2 (xAc a)) : xRC T n wa l e s s2 H0 H3 := ⟨yR_t h.1 (yR_t (yR_s hN) h2.1), fun h0 h1 => by
  obtain ⟨C, c1, c2, c3, c4⟩ := h.2 h0 h1
  have e1 := c4.1
  have em : (H1.2.1 53 1).toInt = (H.2.1 53 1).toInt := congrArg Int32.toInt hm.1
  have c3 : (C.length : Int) + s.2.2 ≤ (q : Int) := c3
  obtain ⟨D, d1, d2', d3, d4⟩ := h2.2 (by omega) (by omega)
  have e2 := d4.1
  refine ⟨C ++ D ++ [xAc a], xPo_bin c1 hN hw ⟨by omega, ha.2.2⟩ d1 hl, xOp_bin ⟨ha.1, ha.2.1⟩ c2 d2' hd, ?_, ?_⟩
  · rw [List.length_append, List.length_append]
    show ((C.length + D.length + 1 : Nat) : Int) + _ ≤ _
    omega
  · have k := xGr_a h0 (xGr_a h0 c4 (xGr_0 hm)) d4
    rw [List.append_nil] at k
    refine xGr_a h0 k (xGr_p ⟨by omega, by omega⟩ hp hy)⟩
/-- k NOTs read, then a test; behind it i NOTs put out so far -/
def yRn (T : Nat → Int) (n wa k i : Nat) (d : Int) (s s1 s2 : yM) (H0 H1 : zp_H) : Prop := (∀ W O, yTR T n s W O s1 (List.replicate k 3 ++ W) O) ∧ yR T n s s2 ∧ (0 ≤ (H0.2.1 53 1).toInt → (H0.2.1 53 1).toInt ≤ s.2.2 → ∃ C, xPo T n 4 s1 s2 C ∧ xOp d C ∧ (C.length : Int) + s.2.2 + k ≤ s2.2.2 ∧ xGr wa (C ++ List.replicate i (xAc 3)) H0 H1)
theorem yRn_s {T : Nat → Int} {n wa k i : Nat} {d : Int} {s s1 s2 : yM} {H0 H H1 : zp_H} (h : yRn T n wa k i d s s1 s2 H0 H) (hi : i < k) (h7 : s2.2.2 ≤ 700) (hp : xPut wa (-11) H H1) : yRn T n wa k (i + 1) d s s1 s2 H0 H1 := ⟨h.1, h.2.1, fun h0 h1 => by
  obtain ⟨C, c1, c2, c3, c4⟩ := h.2.2 h0 h1
  have e1 := c4.1
  rw [List.length_append, List.length_replicate] at e1
  refine ⟨C, c1, c2, c3, ?_⟩
  have k9 := xGr_a h0 c4 (xGr_p (i := xAc 3) ⟨by omega, by omega⟩ hp rfl)
  rw [List.append_assoc, ← List.replicate_succ'] at k9
  exact k9⟩
theorem yRn_e {T : Nat → Int} {n wa k : Nat} {d : Int} {s s1 s2 : yM} {H0 H1 : zp_H} (h : yRn T n wa k k d s s1 s2 H0 H1) : xRC T n wa 3 d s s2 H0 H1 := ⟨h.2.1, fun h0 h1 => by
  obtain ⟨C, c1, c2, c3, c4⟩ := h.2.2 h0 h1
  refine ⟨_, xPo_not h.1 c1, xOp_nos c2 k, ?_, c4⟩
  rw [List.length_append, List.length_replicate]
  omega⟩
/-- an expression in parentheses -/
theorem xRC_p {T : Nat → Int} {n wa l q : Nat} {d : Int} {s : yM} {lv lv2 : List Bool} {p1 : Nat} {H0 H H1 : zp_H} (hN : yN T n s = .inl (2, false :: lv, p1)) (hw : ∀ W O, xWO T n s.1 s.2.2 W O = (14 :: W, O)) (hs : s.2.2 < p1) (hm : xSmw wa H0 H) (h : xRC T n wa 1 d (2, false :: lv, p1) (0, lv2, q) H H1) (hk : ys_kd T n q = 4) (hv : ys_vl T n q = 41) (hl : 1 < lv2.length) (hq : q ≤ ys_nx T n q) : xRC T n wa l d s (0, lv2.tail, ys_nx T n q) H0 H1 := ⟨yR_t (yR_s hN) (yR_t h.1 (yR_s (yN_cl hk hv hl))), fun h0 h1 => by
  have em : (H.2.1 53 1).toInt = (H0.2.1 53 1).toInt := congrArg Int32.toInt hm.1
  obtain ⟨C, c1, c2, c3, c4⟩ := h.2 (by omega) (by show _ ≤ (p1 : Int); omega)
  have c3 : (C.length : Int) + (p1 : Int) ≤ (q : Int) := c3
  exact ⟨C, xPo_par hN hw c1 hk hv hl, c2, by show _ ≤ ((ys_nx T n q : Nat) : Int); omega, xGr_a h0 (xGr_0 hm) c4⟩⟩
