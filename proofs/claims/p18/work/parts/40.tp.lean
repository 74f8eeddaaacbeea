/-! ===== the checker: a loop's state ===== -/
def zk_eqV (a b : zk_V) : Bool := match a, b with
  | .inl i, .inl j => zk_eqI i j
  | .inr none, .inr none => true
  | .inr (some none), .inr (some none) => true
  | .inr (some (some p)), .inr (some (some q)) => Nat.beq p q
  | _, _ => false
theorem zk_eqV_t : ∀ {a b : zk_V}, zk_eqV a b = true → a = b
  | .inl i, .inl j, h => congrArg Sum.inl (zk_eqI_t h)
  | .inr none, .inr none, _ => rfl
  | .inr (some none), .inr (some none), _ => rfl
  | .inr (some (some p)), .inr (some (some q)), h => by rw [za_beq (show Nat.beq p q = true from h)]
  | .inl _, .inr none, h => by cases h
  | .inl _, .inr (some none), h => by cases h
  | .inl _, .inr (some (some _)), h => by cases h
  | .inr none, .inl _, h => by cases h
  | .inr (some none), .inl _, h => by cases h
  | .inr (some (some _)), .inl _, h => by cases h
  | .inr none, .inr (some none), h => by cases h
  | .inr none, .inr (some (some _)), h => by cases h
  | .inr (some none), .inr none, h => by cases h
  | .inr (some none), .inr (some (some _)), h => by cases h
  | .inr (some (some _)), .inr none, h => by cases h
  | .inr (some (some _)), .inr (some none), h => by cases h
def zk_eqS : List zk_V → List zk_V → Bool
  | [], [] => true
  | a :: l, b :: m => (zk_eqV a b).and (zk_eqS l m)
  | _, _ => false
theorem zk_eqS_t : ∀ {l m : List zk_V}, zk_eqS l m = true → l = m
  | [], [], _ => rfl
  | a :: l, b :: m, h => by
    obtain ⟨h1, h2⟩ := Bool.and_eq_true_iff.mp h
    rw [zk_eqV_t h1, zk_eqS_t h2]
  | [], _ :: _, h => by cases h
  | _ :: _, [], h => by cases h
def zk_isl (its : List zk_It) (i : Nat) : Bool := its.any (fun it => match it.1 with
  | .inl j => Nat.beq j i
  | .inr _ => false)
def zk_isf (its : List zk_It) (p k : Nat) : Bool := its.any (fun it => match it.1 with
  | .inl _ => false
  | .inr (p', k') => (Nat.beq p' p).and (Nat.beq k' k))
/-- the locals, the fields that a loop leaves as they are -/
def zk_kl (an : zk_An) (lv : zk_LV) : zk_LV := lv.filter (fun q => ((zk_ina an.2.2.1 q.1).or (zk_isl an.2.1 q.1)).not)
def zk_ko (an : zk_An) (ov : List (Nat × Nat × Bool × zk_I)) : List (Nat × Nat × Bool × zk_I) := (ov.filter (fun q => ((zk_inm an.2.2.2.1 q.1 q.2.1).or (zk_isf an.2.1 q.1 q.2.1)).not)).map zk_cl1
def zk_tA (lp : zk_Lp) : zk_A := (lp.2.1.1 + lp.1.2.1.length, zk_rI lp.2.1.1 lp.1.2.1 ++ lp.2.1.2.1, zk_oI lp.2.1.1 lp.1.2.1 ++ zk_ko lp.1 lp.2.1.2.2.1, [], zk_mI lp.2.1.1 lp.1.2.1 lp.2.2.2.2.1 ++ lp.2.1.2.2.2.2)
def zk_tL (lp : zk_Lp) : zk_LV := zk_lI lp.2.1.1 lp.1.2.1 ++ zk_kl lp.1 lp.2.2.1
/-- the state is one of the loop's -/
def zk_mtc (B : zk_B) (lp : zk_Lp) (A : zk_A) (lv : zk_LV) (st : List zk_V) : Bool := (zk_flush B A).and ((zk_mts A lv lp.1.2.1 lp.2.2.2.2.1).and (((zk_kl lp.1 lp.2.2.1).all (fun q => match zk_get lv q.1 with
    | some v => zk_eqV v q.2
    | none => false)).and (((zk_ko lp.1 lp.2.1.2.2.1).all (fun q => match zk_og A.2.2.1 q.1 q.2.1 with
    | some a => zk_eqI a q.2.2.2
    | none => false)).and (zk_eqS st lp.2.2.2.1))))
def zk_scV (n : Nat) (v : zk_V) : Prop := match v with
  | .inl i => i.1 ≤ n
  | _ => True
/-- what a running loop stands on -/
def zk_Sc (τ : Nat → Int) (lp : zk_Lp) : Prop := zk_N τ lp.2.1 ∧ (∀ q ∈ zk_kl lp.1 lp.2.2.1, zk_scV lp.2.1.1 q.2) ∧ (∀ q ∈ zk_ko lp.1 lp.2.1.2.2.1, q.2.2.2.1 ≤ lp.2.1.1) ∧ (∀ a ∈ lp.2.2.2.2.1, a.1 ≤ lp.2.1.1) ∧ (∀ v ∈ lp.2.2.2.1, zk_scV lp.2.1.1 v)
theorem zk_gV_sc {n0 m m' : Nat} {τ τ2 : Nat → Int} {v : zk_V} {w : zp_V} (hs : zk_scV n0 v) (hx : zk_ext n0 τ τ2) (hm : n0 ≤ m') (h : zk_gV τ m v w) : zk_gV τ2 m' v w := by
  match v, w, hs, h with
  | .inl i, .inl x, hs, h => exact ⟨Nat.le_trans hs hm, by rw [zk_ev_x hs hx]; exact h.2⟩
  | .inr none, .inr (.inl _), _, _ => trivial
  | .inr (some r), .inr (.inr r'), _, h => exact h
theorem zk_F2_sc {n0 m m' : Nat} {τ τ2 : Nat → Int} (hx : zk_ext n0 τ τ2) (hm : n0 ≤ m') : ∀ {st : List zk_V} {sc : List zp_V}, (∀ v ∈ st, zk_scV n0 v) → za_F2 (zk_gV τ m) st sc → za_F2 (zk_gV τ2 m') st sc
  | [], [], _, _ => trivial
  | v :: st, w :: sc, hs, h => ⟨zk_gV_sc (hs v List.mem_cons_self) hx hm h.1, zk_F2_sc hx hm (fun v' h' => hs v' (List.mem_cons_of_mem _ h')) h.2⟩
  | [], _ :: _, _, h => h.elim
  | _ :: _, [], _, h => h.elim
theorem zk_get_mem {i : Nat} {v : zk_V} : ∀ {lv : zk_LV}, zk_get lv i = some v → (i, v) ∈ lv
  | [], h => by cases h
  | q :: l, h => by
    unfold zk_get at h
    cases hb : Nat.beq q.1 i with
    | true =>
      rw [hb] at h
      cases h
      rw [← za_beq hb]
      exact List.mem_cons_self
    | false =>
      rw [hb] at h
      exact List.mem_cons_of_mem _ (zk_get_mem h)
section KU
variable {B : zk_B} {gh : zp_H → Int} {J : zp_H → Prop} {τ : Nat → Int} {A : zk_A} {H : zp_H} {lv : zk_LV} {lc : zp_LV} {st : List zk_V} {sc : List zp_V} {lp : zk_Lp}
theorem zk_tp_ok (hS : zk_Sc τ lp) (hN : zk_N τ A) (hH : zk_Hp B gh J τ A H) (hl : zk_L τ A.1 lv lc) (hs : za_F2 (zk_gV τ A.1) st sc) (h : zk_mtc B lp A lv st = true) :
    ∃ τ2, zk_ext lp.2.1.1 τ τ2 ∧ zk_N τ2 (zk_tA lp) ∧ zk_Hp B gh J τ2 (zk_tA lp) H ∧ zk_L τ2 (zk_tA lp).1 (zk_tL lp) lc ∧ za_F2 (zk_gV τ2 (zk_tA lp).1) lp.2.2.2.1 sc ∧ zk_iv gh H lc τ2 lp.2.1.1 lp.1.2.1 := by
  obtain ⟨s1, s2, s3, s4, s5⟩ := hS
  obtain ⟨c1, h⟩ := Bool.and_eq_true_iff.mp h
  obtain ⟨c2, h⟩ := Bool.and_eq_true_iff.mp h
  obtain ⟨c3, h⟩ := Bool.and_eq_true_iff.mp h
  obtain ⟨c4, c5⟩ := Bool.and_eq_true_iff.mp h
  have e5 := zk_eqS_t c5
  subst e5
  obtain ⟨τ2, x1, iv, mv⟩ := zk_mts_ok (τ0 := τ) (n0 := lp.2.1.1) hN hH hl (zk_ext_r τ) lp.2.1.1 τ c2 s4 (Nat.le_refl _) (zk_ext_r τ)
  have hB := zk_flush_ok hN hH c1
  obtain ⟨b1, b2, -, -, b5, b6, b7, b8⟩ := hB
  have hle : lp.2.1.1 ≤ (zk_tA lp).1 := Nat.le_add_right _ _
  have s1x := zk_N_x x1 s1
  refine ⟨τ2, x1, ⟨fun q hq => ?_, fun q hq => ?_⟩, ⟨b1, b2, fun q hq => ?_, fun q hq => absurd hq List.not_mem_nil, fun p k r hr => ?_, b6, fun c hc => ?_, b8⟩, ?_, zk_F2_sc x1 hle s5 hs, iv⟩
  · rcases List.mem_append.mp hq with hq | hq
    · obtain ⟨g1, g2⟩ := zk_rI_ok iv q hq
      exact ⟨g1.2, g2⟩
    · exact ⟨Nat.lt_of_lt_of_le (s1x.1 q hq).1 hle, (s1x.1 q hq).2⟩
  · rcases List.mem_append.mp hq with hq | hq
    · exact zk_mI_ok (m := (zk_tA lp).1) mv (Nat.le_refl _) (fun a ha => Nat.le_trans (s4 a ha) hle) q hq
    · obtain ⟨g1, g2, g3, g4⟩ := s1x.2 q hq
      exact ⟨Nat.le_trans g1 hle, Nat.le_trans g2 hle, Nat.le_trans g3 hle, g4⟩
  · rcases List.mem_append.mp hq with hq | hq
    · obtain ⟨g1, g2, -⟩ := zk_oI_ok iv q hq
      exact ⟨g1, g2⟩
    · have g1 := s3 q hq
      have g2 := List.all_eq_true.mp c4 q hq
      refine ⟨Nat.le_trans g1 hle, ?_⟩
      split at g2
      · rename_i a ha
        have e := zk_eqI_t g2
        subst e
        obtain ⟨e0, f1, f2, f3, f4⟩ := zk_og_m ha
        have f5 := (hH.2.2.1 e0 f1).2
        rw [f2, f3, f4] at f5
        rw [f5, zk_ev_x g1 x1]
      · cases g2
  · rcases b5 p k r hr with ⟨e, he, -⟩ | h9
    · exact absurd he List.not_mem_nil
    · exact Or.inr h9
  · rcases b7 c hc with ⟨e, he, -⟩ | h9
    · exact absurd he List.not_mem_nil
    · exact Or.inr h9
  · intro i v hv
    refine zk_lI_ok iv (Nat.le_refl _) ?_ hv
    intro i' v' hv'
    have hm := zk_get_mem hv'
    have g2 := List.all_eq_true.mp c3 _ hm
    dsimp only at g2
    split at g2
    · rename_i v9 h9
      have e := zk_eqV_t g2
      subst e
      obtain ⟨w, w1, w2⟩ := hl i' v9 h9
      exact ⟨w, w1, zk_gV_sc (s2 _ hm) x1 hle w2⟩
    · cases g2
/-- what counts -/
theorem zk_iv_at {n k : Nat} {its : List zk_It} {it : zk_It} {a : zk_I} {τ2 : Nat → Int} (hH : zk_Hp B gh J τ A H) (hl : zk_L τ A.1 lv lc) (hi : its[k]? = some it) (ha : zk_ia A lv it = some a) (hv : zk_iv gh H lc τ2 n its) : τ2 (n + k) = zk_ev τ a := by
  induction its generalizing n k with
  | nil => simp at hi
  | cons x l ih =>
    cases k with
    | zero =>
      have e : x = it := by simpa using hi
      subst e
      have h1 := hv.2.1
      obtain ⟨-, h2⟩ := zk_ia_ok hH hl ha
      obtain ⟨k9, r9⟩ := x
      match k9, h1, h2 with
      | .inl i, h1, h2 =>
        obtain ⟨x1, x2, x3⟩ := h1
        obtain ⟨y1, y2, y3⟩ := h2
        rw [x2] at y2
        cases y2
        show τ2 n = _
        rw [← x3, y3]
      | .inr (p, k), h1, h2 =>
        show τ2 n = _
        rw [← h1, h2]
    | succ k =>
      have h9 := ih (n := n + 1) (k := k) (by simpa using hi) hv.2.2
      rw [show n + (k + 1) = n + 1 + k by omega]
      exact h9
theorem zk_iv_r {n k : Nat} {its : List zk_It} {it : zk_It} {τ2 : Nat → Int} (hi : its[k]? = some it) (hv : zk_iv gh H lc τ2 n its) : it.2.1 ≤ τ2 (n + k) ∧ τ2 (n + k) ≤ it.2.2.1 := by
  induction its generalizing n k with
  | nil => simp at hi
  | cons x l ih =>
    cases k with
    | zero =>
      have e : x = it := by simpa using hi
      subst e
      exact hv.1
    | succ k =>
      have h9 := ih (n := n + 1) (k := k) (by simpa using hi) hv.2.2
      rw [show n + (k + 1) = n + 1 + k by omega]
      exact h9
/-- a loop's measure -/
def zk_ms (lp : zk_Lp) (τ : Nat → Int) : Nat := match lp.1.2.1[lp.1.2.2.2.2.1]? with
  | some it => if lp.1.2.2.2.2.2 = true then (it.2.2.1 - τ (lp.2.1.1 + lp.1.2.2.2.2.1)).toNat else (τ (lp.2.1.1 + lp.1.2.2.2.2.1) - it.2.1).toNat
  | none => 0
/-- it has come nearer to its end -/
def zk_me (lp : zk_Lp) (A : zk_A) (lv : zk_LV) : Bool := match lp.1.2.1[lp.1.2.2.2.2.1]? with
  | some it => match zk_ia A lv it with
    | some a => bif lp.1.2.2.2.2.2 then zk_geq A 6 a (lp.2.1.1 + lp.1.2.2.2.2.1 + 1, 1) else zk_geq A 6 (lp.2.1.1 + lp.1.2.2.2.2.1 + 1, -1) a
    | none => false
  | none => false
theorem zk_me_ok {τ2 : Nat → Int} (hN : zk_N τ A) (hH : zk_Hp B gh J τ A H) (hl : zk_L τ A.1 lv lc) (hv : zk_iv gh H lc τ2 lp.2.1.1 lp.1.2.1) (h : zk_me lp A lv = true) : zk_ms lp τ2 < zk_ms lp τ := by
  unfold zk_me at h
  unfold zk_ms
  split at h
  · rename_i it hit
    try rw [hit]
    try dsimp only
    split at h
    · rename_i a ha
      have e := zk_iv_at hH hl hit ha hv
      have r := zk_iv_r hit hv
      cases hu : lp.1.2.2.2.2.2 with
      | true =>
        rw [hu] at h
        have g := zk_geq_ok hN h
        have g : τ (lp.2.1.1 + lp.1.2.2.2.2.1) + 1 ≤ zk_ev τ a := g
        rw [if_pos rfl, if_pos rfl]
        omega
      | false =>
        rw [hu] at h
        have g := zk_geq_ok hN h
        have g : zk_ev τ a ≤ τ (lp.2.1.1 + lp.1.2.2.2.2.1) + -1 := g
        rw [if_neg (by simp), if_neg (by simp)]
        omega
    · cases h
  · cases h
end KU
