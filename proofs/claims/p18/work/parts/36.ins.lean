/-! ===== the abstract executor: instructions ===== -/
abbrev zk_LV : Type := List (Nat × zk_V)
abbrev zk_O : Type := zk_A × Nat × zk_LV × List zk_V
def zk_cat (v : zk_V) : Nat := match v with
  | .inr none => 2
  | _ => 1
def zk_get : zk_LV → Nat → Option zk_V
  | [], _ => none
  | q :: l, i => bif Nat.beq q.1 i then some q.2 else zk_get l i
def zk_st1 (lv : zk_LV) (i : Nat) (v : zk_V) : zk_LV := (i, v) :: lv.filter (fun q => !(q.1 == i) && !(q.1 + 1 == i && zk_cat q.2 == 2))
def zk_st2 (lv : zk_LV) (i : Nat) (v : zk_V) : zk_LV := (i, v) :: lv.filter (fun q => !(q.1 == i) && (!(q.1 == i + 1) && !(q.1 + 1 == i && zk_cat q.2 == 2)))
theorem zk_cat_ok {τ : Nat → Int} {n : Nat} {a : zk_V} {v : zp_V} (h : zk_gV τ n a v) : zk_cat a = zp_cat v := by
  match a, v, h with
  | .inl i, .inl x, _ => rfl
  | .inr none, .inr (.inl _), _ => rfl
  | .inr (some r), .inr (.inr r'), _ => rfl
def zk_L (τ : Nat → Int) (n : Nat) (lv : zk_LV) (lc : zp_LV) : Prop := ∀ i v, zk_get lv i = some v → ∃ w, zp_get lc i = some w ∧ zk_gV τ n v w
theorem zk_get_ok {τ : Nat → Int} {n i : Nat} {v : zk_V} {lv : zk_LV} {lc : zp_LV} (h : zk_L τ n lv lc) (hv : zk_get lv i = some v) : ∃ w, zp_get lc i = some w ∧ zk_gV τ n v w := h i v hv
theorem zk_get_f {f : Nat × zk_V → Bool} {j : Nat} {v : zk_V} : ∀ {lv : zk_LV}, zk_get (lv.filter f) j = some v → ∃ q ∈ lv, q.1 = j ∧ q.2 = v ∧ f q = true
  | [], h => by cases h
  | q :: l, h => by
    rw [List.filter_cons] at h
    cases hf : f q with
    | false =>
      rw [hf] at h
      obtain ⟨q9, h1, h2⟩ := zk_get_f (lv := l) h
      exact ⟨q9, List.mem_cons_of_mem _ h1, h2⟩
    | true =>
      rw [hf] at h
      have h : zk_get (q :: l.filter f) j = some v := h
      unfold zk_get at h
      cases hb : Nat.beq q.1 j with
      | true =>
        rw [hb] at h
        exact ⟨q, List.mem_cons_self, za_beq hb, Option.some.inj h, hf⟩
      | false =>
        rw [hb] at h
        obtain ⟨q9, h1, h2⟩ := zk_get_f (lv := l) h
        exact ⟨q9, List.mem_cons_of_mem _ h1, h2⟩
/-- no local stands there twice -/
def zk_u1 : zk_LV → Bool
  | [] => true
  | q :: l => (l.all (fun r => (Nat.beq r.1 q.1).not)).and (zk_u1 l)
theorem zk_u1_get {q : Nat × zk_V} : ∀ {lv : zk_LV}, zk_u1 lv = true → q ∈ lv → zk_get lv q.1 = some q.2
  | [], _, hq => absurd hq List.not_mem_nil
  | r :: l, h, hq => by
    obtain ⟨h1, h2⟩ := Bool.and_eq_true_iff.mp h
    unfold zk_get
    rcases List.mem_cons.mp hq with rfl | hq
    · rw [Nat.beq_refl]
      rfl
    · have h3 := List.all_eq_true.mp h1 q hq
      cases hb : Nat.beq r.1 q.1 with
      | true =>
        rw [za_beq hb, Nat.beq_refl] at h3
        cases h3
      | false => exact zk_u1_get h2 hq
theorem zp_get_f {f : Nat × zp_V → Bool} {j : Nat} {w : zp_V} : ∀ {lc : zp_LV}, zp_get lc j = some w → (∀ q ∈ lc, q.1 = j → q.2 = w → f q = true) → zp_get (lc.filter f) j = some w
  | [], h, _ => by cases h
  | q :: l, h, hf => by
    unfold zp_get at h
    rw [List.filter_cons]
    cases hb : Nat.beq q.1 j with
    | true =>
      rw [hb] at h
      have e := Option.some.inj h
      rw [hf q List.mem_cons_self (za_beq hb) e]
      show (bif Nat.beq q.1 j then some q.2 else _) = _
      rw [hb]
      exact congrArg some e
    | false =>
      rw [hb] at h
      have ih := zp_get_f (lc := l) h (fun q9 h1 h2 h3 => hf q9 (List.mem_cons_of_mem _ h1) h2 h3)
      cases hq : f q with
      | false => exact ih
      | true =>
        show (bif Nat.beq q.1 j then some q.2 else zp_get (l.filter f) j) = _
        rw [hb]
        exact ih
/-- what is kept of a local behind a store -/
def zk_kp (lv : zk_LV) (f : Nat × zk_V → Bool) : zk_LV := lv.filter f
theorem zk_st1_ok {τ : Nat → Int} {n i : Nat} {v : zk_V} {w : zp_V} {lv : zk_LV} {lc : zp_LV} (hu : zk_u1 lv = true) (h : zk_L τ n lv lc) (hv : zk_gV τ n v w) : zk_L τ n (zk_st1 lv i v) (zp_st1 lc i w) := by
  intro j v' hj
  unfold zk_st1 at hj
  unfold zk_get at hj
  show ∃ w9, (bif Nat.beq i j then some w else zp_get (lc.filter _) j) = some w9 ∧ _
  cases hb : Nat.beq i j with
  | true =>
    rw [hb] at hj
    cases hj
    exact ⟨w, rfl, hv⟩
  | false =>
    rw [hb] at hj
    obtain ⟨q, q1, q2, q3, q4⟩ := zk_get_f hj
    have hg := zk_u1_get hu q1
    rw [q2, q3] at hg
    obtain ⟨w', w1, w2⟩ := h j v' hg
    refine ⟨w', zp_get_f w1 (fun r r1 r2 r3 => ?_), w2⟩
    rw [q2, q3] at q4
    rw [r2, r3, ← zk_cat_ok w2]
    exact q4
theorem zk_st2_ok {τ : Nat → Int} {n i : Nat} {v : zk_V} {w : zp_V} {lv : zk_LV} {lc : zp_LV} (hu : zk_u1 lv = true) (h : zk_L τ n lv lc) (hv : zk_gV τ n v w) : zk_L τ n (zk_st2 lv i v) (zp_st2 lc i w) := by
  intro j v' hj
  unfold zk_st2 at hj
  unfold zk_get at hj
  show ∃ w9, (bif Nat.beq i j then some w else zp_get (lc.filter _) j) = some w9 ∧ _
  cases hb : Nat.beq i j with
  | true =>
    rw [hb] at hj
    cases hj
    exact ⟨w, rfl, hv⟩
  | false =>
    rw [hb] at hj
    obtain ⟨q, q1, q2, q3, q4⟩ := zk_get_f hj
    have hg := zk_u1_get hu q1
    rw [q2, q3] at hg
    obtain ⟨w', w1, w2⟩ := h j v' hg
    refine ⟨w', zp_get_f w1 (fun r r1 r2 r3 => ?_), w2⟩
    rw [q2, q3] at q4
    rw [r2, r3, ← zk_cat_ok w2]
    exact q4
def zk_St (B : zk_B) (gh : zp_H → Int) (J : zp_H → Prop) (mods : List (Nat × Nat)) (am : List Nat) (τ : Nat → Int) (A : zk_A) (t : zp_T) (n : zp_N) (o : zk_O) : Prop :=
  ∃ τ' lc' sc' H', n = some (.inl (o.2.1, lc', sc', H', t.2)) ∧ zk_ext A.1 τ τ' ∧ A.1 ≤ o.1.1 ∧ zk_N τ' o.1 ∧ zk_Hp B gh J τ' o.1 H' ∧ zk_L τ' o.1.1 o.2.2.1 lc' ∧ za_F2 (zk_gV τ' o.1.1) o.2.2.2 sc' ∧ zk_Fr gh mods am t.1 H'
section KI
variable {B : zk_B} {gh : zp_H → Int} {J : zp_H → Prop} {fz : Nat → Nat → Bool} {τ : Nat → Int} {A : zk_A} {t : zp_T} {mods : List (Nat × Nat)} {am : List Nat} {pc pc' : Nat} {lv lv' : zk_LV} {st st' : List zk_V} {lc lc' : zp_LV} {sc sc' : List zp_V} {o : zk_O} {x : Int32} {q : zk_A × zk_I}
theorem zk_lv_x {n n' : Nat} {τ τ' : Nat → Int} (hn : n ≤ n') (h : zk_ext n τ τ') {lv : zk_LV} {lc : zp_LV} (hl : zk_L τ n lv lc) : zk_L τ' n' lv lc := fun i v hv => (hl i v hv).imp (fun _ hw => ⟨hw.1, zk_gV_x hn h hw.2⟩)
theorem zk_st_x {n n' : Nat} {τ τ' : Nat → Int} (hn : n ≤ n') (h : zk_ext n τ τ') {st : List zk_V} {sc : List zp_V} (hl : za_F2 (zk_gV τ n) st sc) : za_F2 (zk_gV τ' n') st sc := za_F2_mono (fun _ _ hab => zk_gV_x hn h hab) hl
theorem zk_St_same (hN : zk_N τ A) (hH : zk_Hp B gh J τ A t.1) (hl : zk_L τ A.1 lv' lc') (hs : za_F2 (zk_gV τ A.1) st' sc') : zk_St B gh J mods am τ A t (zp_go lc' t pc' sc') (A, pc', lv', st') :=
  ⟨τ, lc', sc', t.1, rfl, zk_ext_r τ, Nat.le_refl _, hN, hH, hl, hs, zk_Fr_r _⟩
theorem zk_St_push (hl : zk_L τ A.1 lv lc) (hs : za_F2 (zk_gV τ A.1) st sc) (h : zk_Rh B gh J τ A t.1 x.toInt q) : zk_St B gh J mods am τ A t (zp_go lc t pc' (.inl x :: sc)) (q.1, pc', lv, .inl q.2 :: st) := by
  obtain ⟨τ', h1, h2, h3, h4, h5, h6⟩ := h
  exact ⟨τ', lc, .inl x :: sc, t.1, rfl, h1, h2, h3, h4, zk_lv_x h2 h1 hl, ⟨⟨h5, h6⟩, zk_st_x h2 h1 hs⟩, zk_Fr_r _⟩
theorem zk_gI_v {n : Nat} {a : zk_I} {v : zp_V} (h : zk_gV τ n (.inl a) v) : ∃ x : Int32, v = .inl x ∧ a.1 ≤ n ∧ x.toInt = zk_ev τ a := by
  match v, h with
  | .inl x, h => exact ⟨x, rfl, h.1, h.2⟩
theorem zk_gL_v {n : Nat} {v : zp_V} (h : zk_gV τ n (.inr none) v) : ∃ x : Int64, v = .inr (.inl x) := by
  match v, h with
  | .inr (.inl x), _ => exact ⟨x, rfl⟩
theorem zk_gR_v {n : Nat} {r : Option Nat} {v : zp_V} (h : zk_gV τ n (.inr (some r)) v) : v = .inr (.inr r) := by
  match v, h with
  | .inr (.inr r'), h => rw [show r' = r from h]
def zk_bin (f : zk_A → zk_I → zk_I → Option (zk_A × zk_I)) (A : zk_A) (pc : Nat) (lv : zk_LV) (st : List zk_V) : Option zk_O := match st with
  | .inl b :: .inl a :: r => match f A a b with
    | some q => some (q.1, pc + 1, lv, .inl q.2 :: r)
    | none => none
  | _ => none
theorem zk_bin_ok {f : zk_A → zk_I → zk_I → Option (zk_A × zk_I)} (g : Int32 → Int32 → Int32) (hf : ∀ {a b : zk_I} {x y : Int32} {q : zk_A × zk_I}, a.1 ≤ A.1 → b.1 ≤ A.1 → x.toInt = zk_ev τ a → y.toInt = zk_ev τ b → f A a b = some q → zk_Rs τ A (g x y).toInt q) (hN : zk_N τ A) (hH : zk_Hp B gh J τ A t.1) (hl : zk_L τ A.1 lv lc) (hs : za_F2 (zk_gV τ A.1) st sc) (h : zk_bin f A pc lv st = some o) : zk_St B gh J mods am τ A t (zp_binI g pc lc sc t) o := by
  unfold zk_bin at h
  split at h
  · rename_i b a r
    obtain ⟨_, s1, rfl, v1, q1⟩ := za_F2_cons hs
    obtain ⟨_, s2, rfl, v2, q2⟩ := za_F2_cons q1
    obtain ⟨y, rfl, y1, y2⟩ := zk_gI_v v1
    obtain ⟨x, rfl, x1, x2⟩ := zk_gI_v v2
    split at h
    · rename_i q hq
      cases h
      exact zk_St_push hl q2 (zk_Rs_h hH (hf x1 y1 x2 y2 hq))
    · cases h
  · cases h
theorem zk_binD_ok {f : zk_A → zk_I → zk_I → Option (zk_A × zk_I)} (g : Int32 → Int32 → Int32) (hf : ∀ {a b : zk_I} {x y : Int32} {q : zk_A × zk_I}, a.1 ≤ A.1 → b.1 ≤ A.1 → x.toInt = zk_ev τ a → y.toInt = zk_ev τ b → f A a b = some q → y ≠ 0 ∧ zk_Rs τ A (g x y).toInt q) (hN : zk_N τ A) (hH : zk_Hp B gh J τ A t.1) (hl : zk_L τ A.1 lv lc) (hs : za_F2 (zk_gV τ A.1) st sc) (h : zk_bin f A pc lv st = some o) : zk_St B gh J mods am τ A t (zp_divI g pc lc sc t) o := by
  unfold zk_bin at h
  split at h
  · rename_i b a r
    obtain ⟨_, s1, rfl, v1, q1⟩ := za_F2_cons hs
    obtain ⟨_, s2, rfl, v2, q2⟩ := za_F2_cons q1
    obtain ⟨y, rfl, y1, y2⟩ := zk_gI_v v1
    obtain ⟨x, rfl, x1, x2⟩ := zk_gI_v v2
    split at h
    · rename_i q hq
      cases h
      obtain ⟨h1, h2⟩ := hf x1 y1 x2 y2 hq
      unfold zp_divI
      dsimp only
      rw [show (if y = 0 then none else zp_go lc t (pc + 1) (.inl (g x y) :: s2)) = zp_go lc t (pc + 1) (.inl (g x y) :: s2) from if_neg h1]
      exact zk_St_push hl q2 (zk_Rs_h hH h2)
    · cases h
  · cases h
/-- nothing is known of it -/
def zk_any (A : zk_A) (_ _ : zk_I) : Option (zk_A × zk_I) := some (zk_full A)
theorem zk_any_ok {a b : zk_I} (hN : zk_N τ A) (h : zk_any A a b = some q) : zk_Rs τ A x.toInt q := by
  cases h
  exact zk_full_ok hN x
def zk_un (f : zk_A → zk_I → Option (zk_A × zk_I)) (A : zk_A) (pc : Nat) (lv : zk_LV) (st : List zk_V) : Option zk_O := match st with
  | .inl a :: r => match f A a with
    | some q => some (q.1, pc + 1, lv, .inl q.2 :: r)
    | none => none
  | _ => none
theorem zk_un_ok {f : zk_A → zk_I → Option (zk_A × zk_I)} (g : Int32 → Int32) (hf : ∀ {a : zk_I} {x : Int32} {q : zk_A × zk_I}, a.1 ≤ A.1 → x.toInt = zk_ev τ a → f A a = some q → zk_Rs τ A (g x).toInt q) (hH : zk_Hp B gh J τ A t.1) (hl : zk_L τ A.1 lv lc) (hs : za_F2 (zk_gV τ A.1) st sc) (h : zk_un f A pc lv st = some o) : zk_St B gh J mods am τ A t (zp_unI g pc lc sc t) o := by
  unfold zk_un at h
  split at h
  · rename_i a r
    obtain ⟨_, s1, rfl, v1, q1⟩ := za_F2_cons hs
    obtain ⟨x, rfl, x1, x2⟩ := zk_gI_v v1
    split at h
    · rename_i q hq
      cases h
      exact zk_St_push hl q1 (zk_Rs_h hH (hf x1 x2 hq))
    · cases h
  · cases h
/-! longs -/
def zk_binL (A : zk_A) (pc : Nat) (lv : zk_LV) (st : List zk_V) : Option zk_O := match st with
  | .inr none :: .inr none :: r => some (A, pc + 1, lv, .inr none :: r)
  | _ => none
theorem zk_binL_ok (g : Int64 → Int64 → Int64) (hN : zk_N τ A) (hH : zk_Hp B gh J τ A t.1) (hl : zk_L τ A.1 lv lc) (hs : za_F2 (zk_gV τ A.1) st sc) (h : zk_binL A pc lv st = some o) : zk_St B gh J mods am τ A t (zp_binL g pc lc sc t) o := by
  unfold zk_binL at h
  split at h
  · obtain ⟨_, s1, rfl, v1, q1⟩ := za_F2_cons hs
    obtain ⟨_, s2, rfl, v2, q2⟩ := za_F2_cons q1
    obtain ⟨y, rfl⟩ := zk_gL_v v1
    obtain ⟨x, rfl⟩ := zk_gL_v v2
    cases h
    exact zk_St_same hN hH hl ⟨trivial, q2⟩
  · cases h
def zk_shL (A : zk_A) (pc : Nat) (lv : zk_LV) (st : List zk_V) : Option zk_O := match st with
  | .inl _ :: .inr none :: r => some (A, pc + 1, lv, .inr none :: r)
  | _ => none
theorem zk_shL_ok (g : Int64 → Int32 → Int64) (hN : zk_N τ A) (hH : zk_Hp B gh J τ A t.1) (hl : zk_L τ A.1 lv lc) (hs : za_F2 (zk_gV τ A.1) st sc) (h : zk_shL A pc lv st = some o) : zk_St B gh J mods am τ A t (zp_shL g pc lc sc t) o := by
  unfold zk_shL at h
  split at h
  · obtain ⟨_, s1, rfl, v1, q1⟩ := za_F2_cons hs
    obtain ⟨_, s2, rfl, v2, q2⟩ := za_F2_cons q1
    obtain ⟨y, rfl, -, -⟩ := zk_gI_v v1
    obtain ⟨x, rfl⟩ := zk_gL_v v2
    cases h
    exact zk_St_same hN hH hl ⟨trivial, q2⟩
  · cases h
def zk_i2l (A : zk_A) (pc : Nat) (lv : zk_LV) (st : List zk_V) : Option zk_O := match st with
  | .inl _ :: r => some (A, pc + 1, lv, .inr none :: r)
  | _ => none
theorem zk_i2l_ok (hN : zk_N τ A) (hH : zk_Hp B gh J τ A t.1) (hl : zk_L τ A.1 lv lc) (hs : za_F2 (zk_gV τ A.1) st sc) (h : zk_i2l A pc lv st = some o) : zk_St B gh J mods am τ A t (zp_i2l pc lc sc t) o := by
  unfold zk_i2l at h
  split at h
  · obtain ⟨_, s1, rfl, v1, q1⟩ := za_F2_cons hs
    obtain ⟨y, rfl, -, -⟩ := zk_gI_v v1
    cases h
    exact zk_St_same hN hH hl ⟨trivial, q1⟩
  · cases h
def zk_l2i (A : zk_A) (pc : Nat) (lv : zk_LV) (st : List zk_V) : Option zk_O := match st with
  | .inr none :: r => some ((zk_full A).1, pc + 1, lv, .inl (zk_full A).2 :: r)
  | _ => none
theorem zk_l2i_ok (hN : zk_N τ A) (hH : zk_Hp B gh J τ A t.1) (hl : zk_L τ A.1 lv lc) (hs : za_F2 (zk_gV τ A.1) st sc) (h : zk_l2i A pc lv st = some o) : zk_St B gh J mods am τ A t (zp_l2i pc lc sc t) o := by
  unfold zk_l2i at h
  split at h
  · obtain ⟨_, s1, rfl, v1, q1⟩ := za_F2_cons hs
    obtain ⟨y, rfl⟩ := zk_gL_v v1
    cases h
    exact zk_St_push hl q1 (zk_Rs_h hH (zk_full_ok hN _))
  · cases h
theorem zk_cmp1 (x y : Int64) : -1 ≤ (lg_cmp x y).toInt ∧ (lg_cmp x y).toInt ≤ 1 := by
  unfold lg_cmp
  split
  · decide
  · split <;> decide
def zk_lcmp (A : zk_A) (pc : Nat) (lv : zk_LV) (st : List zk_V) : Option zk_O := match st with
  | .inr none :: .inr none :: r => some ((zk_fresh A (-1) 1 1).1, pc + 1, lv, .inl (zk_fresh A (-1) 1 1).2 :: r)
  | _ => none
theorem zk_lcmp_ok (hN : zk_N τ A) (hH : zk_Hp B gh J τ A t.1) (hl : zk_L τ A.1 lv lc) (hs : za_F2 (zk_gV τ A.1) st sc) (h : zk_lcmp A pc lv st = some o) : zk_St B gh J mods am τ A t (zp_lcmp pc lc sc t) o := by
  unfold zk_lcmp at h
  split at h
  · obtain ⟨_, s1, rfl, v1, q1⟩ := za_F2_cons hs
    obtain ⟨_, s2, rfl, v2, q2⟩ := za_F2_cons q1
    obtain ⟨y, rfl⟩ := zk_gL_v v1
    obtain ⟨x, rfl⟩ := zk_gL_v v2
    cases h
    have z := zk_cmp1 x y
    exact zk_St_push hl q2 (zk_Rs_h hH (zk_fresh_ok hN z.1 z.2 (Int.one_dvd _)))
  · cases h
/-! locals, stack -/
def zk_sel (k : Nat) (v : zk_V) : Bool := match k, v with
  | 0, .inl _ => true
  | 1, .inr none => true
  | 2, .inr (some (some _)) => true
  | _, _ => false
def zk_load (n i k : Nat) (A : zk_A) (pc : Nat) (lv : zk_LV) (st : List zk_V) : Option zk_O := match zk_get lv i with
  | some v => bif zk_sel k v then some (A, pc + n, lv, v :: st) else none
  | none => none
theorem zk_sel_ok {n k : Nat} {v : zk_V} {w : zp_V} (h : zk_sel k v = true) (hv : zk_gV τ n v w) : (k = 0 → zp_isI w = true) ∧ (k = 1 → zp_isL w = true) ∧ (k = 2 → zp_isR w = true) := by
  match k, v, w, h, hv with
  | 0, .inl _, .inl _, _, _ => exact ⟨fun _ => rfl, fun h => (by cases h), fun h => (by cases h)⟩
  | 1, .inr none, .inr (.inl _), _, _ => exact ⟨fun h => (by cases h), fun _ => rfl, fun h => (by cases h)⟩
  | 2, .inr (some (some r)), .inr (.inr r'), _, hv =>
    have e : r' = some r := hv
    subst e
    exact ⟨fun h => (by cases h), fun h => (by cases h), fun _ => rfl⟩
theorem zk_load_ok {n i k : Nat} {f : zp_V → Bool} (hf : ∀ {v : zk_V} {w : zp_V}, zk_sel k v = true → zk_gV τ A.1 v w → f w = true) (hN : zk_N τ A) (hH : zk_Hp B gh J τ A t.1) (hl : zk_L τ A.1 lv lc) (hs : za_F2 (zk_gV τ A.1) st sc) (h : zk_load n i k A pc lv st = some o) : zk_St B gh J mods am τ A t (zp_load n i f pc lc sc t) o := by
  unfold zk_load at h
  split at h
  · rename_i v hv
    obtain ⟨h1, h⟩ := za_bif h
    cases h
    obtain ⟨w, w1, w2⟩ := zk_get_ok hl hv
    unfold zp_load
    rw [w1]
    dsimp only
    rw [hf h1 w2]
    exact zk_St_same hN hH hl ⟨w2, hs⟩
  · cases h
def zk_stor (n i k nL : Nat) (A : zk_A) (pc : Nat) (lv : zk_LV) (st : List zk_V) : Option zk_O := match st with
  | v :: r => bif zk_sel k v then bif Nat.blt i nL then bif zk_u1 lv then some (A, pc + n, zk_st1 lv i v, r) else none else none else none
  | _ => none
theorem zk_stor_ok {n i k nL : Nat} {f : zp_V → Bool} (hf : ∀ {v : zk_V} {w : zp_V}, zk_sel k v = true → zk_gV τ A.1 v w → f w = true) (hN : zk_N τ A) (hH : zk_Hp B gh J τ A t.1) (hl : zk_L τ A.1 lv lc) (hs : za_F2 (zk_gV τ A.1) st sc) (h : zk_stor n i k nL A pc lv st = some o) : zk_St B gh J mods am τ A t (zp_stor1 n i nL f pc lc sc t) o := by
  unfold zk_stor at h
  split at h
  · rename_i v r
    obtain ⟨h1, h⟩ := za_bif h
    obtain ⟨h2, h⟩ := za_bif h
    obtain ⟨hu, h⟩ := za_bif h
    cases h
    obtain ⟨w, s1, rfl, w2, q1⟩ := za_F2_cons hs
    unfold zp_stor1
    dsimp only
    rw [hf h1 w2, h2]
    exact zk_St_same hN hH (zk_st1_ok hu hl w2) q1
  · cases h
def zk_stor2 (n i nL : Nat) (A : zk_A) (pc : Nat) (lv : zk_LV) (st : List zk_V) : Option zk_O := match st with
  | .inr none :: r => bif Nat.blt (i + 1) nL then bif zk_u1 lv then some (A, pc + n, zk_st2 lv i (.inr none), r) else none else none
  | _ => none
theorem zk_stor2_ok {n i nL : Nat} (hN : zk_N τ A) (hH : zk_Hp B gh J τ A t.1) (hl : zk_L τ A.1 lv lc) (hs : za_F2 (zk_gV τ A.1) st sc) (h : zk_stor2 n i nL A pc lv st = some o) : zk_St B gh J mods am τ A t (zp_stor2 n i nL pc lc sc t) o := by
  unfold zk_stor2 at h
  split at h
  · obtain ⟨h2, h⟩ := za_bif h
    obtain ⟨hu, h⟩ := za_bif h
    cases h
    obtain ⟨_, s1, rfl, w2, q1⟩ := za_F2_cons hs
    obtain ⟨w, rfl⟩ := zk_gL_v w2
    unfold zp_stor2
    dsimp only
    rw [h2]
    exact zk_St_same hN hH (zk_st2_ok hu hl w2) q1
  · cases h
def zk_iinc (i nL : Nat) (d : Int) (A : zk_A) (pc : Nat) (lv : zk_LV) (st : List zk_V) : Option zk_O := bif za_in d d then match zk_get lv i with
  | some (.inl a) => match zk_add A a (0, d) with
    | some q => bif Nat.blt i nL then bif zk_u1 lv then some (q.1, pc + 3, zk_st1 lv i (.inl q.2), st) else none else none
    | none => none
  | _ => none
  else none
theorem zk_ofInt {d : Int} (h : za_in d d = true) : (Int32.ofInt d).toInt = d := by
  have h1 := za_in_t h
  rw [Int32.toInt_ofInt]
  exact za_bmod h1.1 h1.2
theorem zk_iinc_ok {i nL : Nat} {d : Int} (hN : zk_N τ A) (hH : zk_Hp B gh J τ A t.1) (hl : zk_L τ A.1 lv lc) (hs : za_F2 (zk_gV τ A.1) st sc) (h : zk_iinc i nL d A pc lv st = some o) : zk_St B gh J mods am τ A t (zp_iinc i nL d pc lc sc t) o := by
  unfold zk_iinc at h
  obtain ⟨h0, h⟩ := za_bif h
  split at h
  · rename_i a ha
    split at h
    · rename_i q hq
      obtain ⟨h2, h⟩ := za_bif h
      obtain ⟨hu, h⟩ := za_bif h
      cases h
      obtain ⟨w, w1, w2⟩ := zk_get_ok hl ha
      obtain ⟨x, rfl, x1, x2⟩ := zk_gI_v w2
      obtain ⟨τ', f1, f2, f3, f4, f5, f6⟩ := zk_Rs_h hH (zk_add_ok (y := Int32.ofInt d) (b := (0, d)) hN x1 (Nat.zero_le _) x2 (show _ = d from zk_ofInt h0) hq)
      unfold zp_iinc
      rw [w1]
      dsimp only
      rw [h2]
      exact ⟨τ', _, _, t.1, rfl, f1, f2, f3, f4, zk_st1_ok (w := .inl (x + Int32.ofInt d)) hu (zk_lv_x f2 f1 hl) ⟨f5, f6⟩, zk_st_x f2 f1 hs, zk_Fr_r _⟩
    · cases h
  · cases h
def zk_dup (A : zk_A) (pc : Nat) (lv : zk_LV) (st : List zk_V) : Option zk_O := match st with
  | v :: r => bif Nat.beq (zk_cat v) 1 then some (A, pc + 1, lv, v :: v :: r) else none
  | _ => none
theorem zk_dup_ok (hN : zk_N τ A) (hH : zk_Hp B gh J τ A t.1) (hl : zk_L τ A.1 lv lc) (hs : za_F2 (zk_gV τ A.1) st sc) (h : zk_dup A pc lv st = some o) : zk_St B gh J mods am τ A t (zp_dup pc lc sc t) o := by
  unfold zk_dup at h
  split at h
  · obtain ⟨h2, h⟩ := za_bif h
    cases h
    obtain ⟨w, s1, rfl, w2, q1⟩ := za_F2_cons hs
    unfold zp_dup
    dsimp only
    rw [← zk_cat_ok w2, h2]
    exact zk_St_same hN hH hl ⟨w2, w2, q1⟩
  · cases h
def zk_pop (A : zk_A) (pc : Nat) (lv : zk_LV) (st : List zk_V) : Option zk_O := match st with
  | v :: r => bif Nat.beq (zk_cat v) 1 then some (A, pc + 1, lv, r) else none
  | _ => none
theorem zk_pop_ok (hN : zk_N τ A) (hH : zk_Hp B gh J τ A t.1) (hl : zk_L τ A.1 lv lc) (hs : za_F2 (zk_gV τ A.1) st sc) (h : zk_pop A pc lv st = some o) : zk_St B gh J mods am τ A t (zp_pop pc lc sc t) o := by
  unfold zk_pop at h
  split at h
  · obtain ⟨h2, h⟩ := za_bif h
    cases h
    obtain ⟨w, s1, rfl, w2, q1⟩ := za_F2_cons hs
    unfold zp_pop
    dsimp only
    rw [← zk_cat_ok w2, h2]
    exact zk_St_same hN hH hl q1
  · cases h
def zk_dup2 (A : zk_A) (pc : Nat) (lv : zk_LV) (st : List zk_V) : Option zk_O := match st with
  | u :: v :: r => bif Nat.beq (zk_cat u) 1 then bif Nat.beq (zk_cat v) 1 then some (A, pc + 1, lv, u :: v :: u :: v :: r) else none else none
  | _ => none
theorem zk_dup2_ok (hN : zk_N τ A) (hH : zk_Hp B gh J τ A t.1) (hl : zk_L τ A.1 lv lc) (hs : za_F2 (zk_gV τ A.1) st sc) (h : zk_dup2 A pc lv st = some o) : zk_St B gh J mods am τ A t (zp_dup2 pc lc sc t) o := by
  unfold zk_dup2 at h
  split at h
  · obtain ⟨h2, h⟩ := za_bif h
    obtain ⟨h3, h⟩ := za_bif h
    cases h
    obtain ⟨w, s1, rfl, w2, q1⟩ := za_F2_cons hs
    obtain ⟨u, s2, rfl, u2, q2⟩ := za_F2_cons q1
    unfold zp_dup2
    dsimp only
    rw [← zk_cat_ok w2, h2, ← zk_cat_ok u2, h3]
    exact zk_St_same hN hH hl ⟨w2, u2, w2, u2, q2⟩
  · cases h
def zk_jmp (d : Int) (A : zk_A) (pc : Nat) (lv : zk_LV) (st : List zk_V) : Option zk_O := match zp_to d pc with
  | some g => some (A, g, lv, st)
  | none => none
theorem zk_jmp_ok {d : Int} (hN : zk_N τ A) (hH : zk_Hp B gh J τ A t.1) (hl : zk_L τ A.1 lv lc) (hs : za_F2 (zk_gV τ A.1) st sc) (h : zk_jmp d A pc lv st = some o) : zk_St B gh J mods am τ A t (zp_jmp d pc lc sc t) o := by
  unfold zk_jmp at h
  split at h
  · rename_i g hg
    cases h
    unfold zp_jmp
    rw [hg]
    exact zk_St_same hN hH hl hs
  · cases h
end KI
