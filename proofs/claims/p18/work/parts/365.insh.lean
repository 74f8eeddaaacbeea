/-! ===== the abstract executor: instructions of the heap ===== -/
def zk_kd (ty : FieldType) : Nat := match ty with
  | .long => 1
  | .object _ => 2
  | .array _ => 2
  | _ => 0
theorem zk_kd0 {H : zp_H} {p k : Nat} {ty : FieldType} (h : zk_kd ty = 0) : zp_fv H p ty k = .inl (H.2.1 p k) := by
  cases ty <;> first | rfl | cases h
theorem zk_kd1 {H : zp_H} {p k : Nat} {ty : FieldType} (h : zk_kd ty = 1) : zp_fv H p ty k = .inr (.inl (H.2.2.1 p k)) := by
  cases ty <;> first | rfl | cases h
theorem zk_kd2 {H : zp_H} {p k n : Nat} {ty : FieldType} (h : zk_kd ty = n + 2) : zp_fv H p ty k = .inr (.inr (H.2.2.2 p k)) := by
  cases ty <;> first | rfl | cases h
theorem zp_getf_e {ci k p cj : Nat} {z : Int} {pc : Nat} {lc : zp_LV} {s1 : List zp_V} {t : zp_T} (hp : t.1.1[p]? = some (.inl cj)) (h : Nat.beq cj ci = true) : zp_getf (some (0, ci, k, z)) pc lc (.inr (.inr (some (p + 1))) :: s1) t = zp_go lc t (pc + 3) (zp_fv t.1 p (za_tyX ci k) k :: s1) := by
  show (match t.1.1[p]? with
    | some (.inl cj) => bif Nat.beq cj ci then zp_go lc t (pc + 3) (zp_fv t.1 p (za_tyX ci k) k :: s1) else none
    | _ => none) = _
  rw [hp]
  show (bif Nat.beq cj ci then zp_go lc t (pc + 3) (zp_fv t.1 p (za_tyX ci k) k :: s1) else none) = _
  rw [h]
  rfl
theorem zp_putf_e {ci k p cj : Nat} {fin : Int} {own : Nat} {ini : Bool} {pc : Nat} {lc : zp_LV} {w : zp_V} {s1 : List zp_V} {t : zp_T} (hp : t.1.1[p]? = some (.inl cj)) (h1 : Nat.beq cj ci = true) (h2 : Nat.blt k (za_nX ci) = true) (hf : zp_fit (za_tyX ci k) w = true) (h3 : fin = 0) : zp_putf (some (0, ci, k, fin)) own ini pc lc (w :: .inr (.inr (some (p + 1))) :: s1) t = zp_go lc (zp_wf t.1 p k w, t.2) (pc + 3) s1 := by
  show (match t.1.1[p]? with
    | some (.inl cj) => bif Nat.beq cj ci then bif Nat.blt k (za_nX ci) then bif zp_fit (za_tyX ci k) w then if fin = 0 ∨ (ini = true ∧ ci = own) then zp_go lc (zp_wf t.1 p k w, t.2) (pc + 3) s1 else none else none else none else none
    | _ => none) = _
  rw [hp]
  show (bif Nat.beq cj ci then bif Nat.blt k (za_nX ci) then bif zp_fit (za_tyX ci k) w then if fin = 0 ∨ (ini = true ∧ ci = own) then zp_go lc (zp_wf t.1 p k w, t.2) (pc + 3) s1 else none else none else none else none) = _
  rw [h1, h2, hf]
  exact if_pos (Or.inl h3)
theorem zp_lld_e {p n : Nat} {x : Int32} {pc : Nat} {lc : zp_LV} {s1 : List zp_V} {t : zp_T} (hp : t.1.1[p]? = some (.inr (3, n))) (h : 0 ≤ x.toInt ∧ x.toInt < n) : zp_lld pc lc (.inl x :: .inr (.inr (some (p + 1))) :: s1) t = zp_go lc t (pc + 1) (.inr (.inl (t.1.2.2.1 p x.toInt.toNat)) :: s1) := by
  show (match t.1.1[p]? with
    | some (.inr (3, n)) => if 0 ≤ x.toInt ∧ x.toInt < n then zp_go lc t (pc + 1) (.inr (.inl (t.1.2.2.1 p x.toInt.toNat)) :: s1) else none
    | _ => none) = _
  rw [hp]
  exact if_pos h
theorem zp_lst_e {p n : Nat} {x : Int32} {y : Int64} {pc : Nat} {lc : zp_LV} {s1 : List zp_V} {t : zp_T} (hp : t.1.1[p]? = some (.inr (3, n))) (h : 0 ≤ x.toInt ∧ x.toInt < n) : zp_lst pc lc (.inr (.inl y) :: .inl x :: .inr (.inr (some (p + 1))) :: s1) t = zp_go lc ((t.1.1, t.1.2.1, zp_u t.1.2.2.1 p x.toInt.toNat y, t.1.2.2.2), t.2) (pc + 1) s1 := by
  show (match t.1.1[p]? with
    | some (.inr (3, n)) => if 0 ≤ x.toInt ∧ x.toInt < n then zp_go lc ((t.1.1, t.1.2.1, zp_u t.1.2.2.1 p x.toInt.toNat y, t.1.2.2.2), t.2) (pc + 1) s1 else none
    | _ => none) = _
  rw [hp]
  exact if_pos h
theorem zp_acp_e {p0 p1 n0 n1 : Nat} {cn dp sp : Int32} {pc : Nat} {lc : zp_LV} {rest : List zp_V} {t : zp_T} (hp0 : t.1.1[p0]? = some (.inr (0, n0))) (hp1 : t.1.1[p1]? = some (.inr (0, n1))) (h : 0 ≤ cn.toInt ∧ 0 ≤ dp.toInt ∧ 0 ≤ sp.toInt ∧ sp.toInt + cn.toInt ≤ n0 ∧ dp.toInt + cn.toInt ≤ n1 ∧ zp_wt rest ≤ 8) : zp_acp pc lc (.inl cn :: .inl dp :: .inr (.inr (some (p1 + 1))) :: .inl sp :: .inr (.inr (some (p0 + 1))) :: rest) t = zp_go lc ((t.1.1, zp_ua t.1.2.1 p1 (va_cpy (t.1.2.1 p0) (t.1.2.1 p1) sp.toInt.toNat dp.toInt.toNat cn.toInt.toNat), t.1.2.2), t.2) (pc + 3) rest := by
  show (match t.1.1[p0]?, t.1.1[p1]? with
    | some (.inr (0, n0)), some (.inr (0, n1)) => if 0 ≤ cn.toInt ∧ 0 ≤ dp.toInt ∧ 0 ≤ sp.toInt ∧ sp.toInt + cn.toInt ≤ n0 ∧ dp.toInt + cn.toInt ≤ n1 ∧ zp_wt rest ≤ 8 then zp_go lc ((t.1.1, zp_ua t.1.2.1 p1 (va_cpy (t.1.2.1 p0) (t.1.2.1 p1) sp.toInt.toNat dp.toInt.toNat cn.toInt.toNat), t.1.2.2), t.2) (pc + 3) rest else none
    | _, _ => none) = _
  rw [hp0, hp1]
  exact if_pos h
section KJ
variable {B : zk_B} {gh : zp_H → Int} {J : zp_H → Prop} {fz : Nat → Nat → Bool} {τ : Nat → Int} {A : zk_A} {t : zp_T} {mods : List (Nat × Nat)} {am : List Nat} {pc pc' : Nat} {lv lv' : zk_LV} {st st' : List zk_V} {lc lc' : zp_LV} {sc sc' : List zp_V} {o : zk_O} {x : Int32} {q : zk_A × zk_I}
def zk_getI (B : zk_B) (r : Option za_row) (A : zk_A) (pc : Nat) (lv : zk_LV) (st : List zk_V) : Option zk_O := match r, st with
  | some (0, ci, k, _), .inr (some (some (p + 1))) :: rest => match B.1[p]? with
    | some (.inl cj) => bif Nat.beq cj ci then bif Nat.blt k 100 then match zk_kd (za_tyX ci k) with
      | 0 => match zk_getf B A p k with
        | some z => some (z.1, pc + 3, lv, .inl z.2 :: rest)
        | none => none
      | 1 => some (A, pc + 3, lv, .inr none :: rest)
      | _ + 2 => match B.2.1 p k with
        | some r => some (A, pc + 3, lv, .inr (some r) :: rest)
        | none => none
      else none else none
    | _ => none
  | _, _ => none
theorem zk_getI_ok {r : Option za_row} (hN : zk_N τ A) (hH : zk_Hp B gh J τ A t.1) (hl : zk_L τ A.1 lv lc) (hs : za_F2 (zk_gV τ A.1) st sc) (h : zk_getI B r A pc lv st = some o) : zk_St B gh J mods am τ A t (zp_getf r pc lc sc t) o := by
  unfold zk_getI at h
  split at h
  · rename_i ci k z p rest
    obtain ⟨_, s1, rfl, v1, q1⟩ := za_F2_cons hs
    have e := zk_gR_v v1
    subst e
    split at h
    · rename_i cj hp
      obtain ⟨h1, h⟩ := za_bif h
      obtain ⟨h2, h⟩ := za_bif h
      have h2 := za_blt h2
      rw [show p.succ = p + 1 from rfl, zp_getf_e (by rw [hH.1]; exact hp) h1]
      split at h
      · rename_i hk
        split at h
        · rename_i z9 hz
          cases h
          rw [zk_kd0 hk]
          have g := zk_getf_ok hN hH hz
          have e : zk_fv gh t.1 p k = (t.1.2.1 p k).toInt := by
            unfold zk_fv
            rw [if_neg (fun hh => absurd hh.2 (by omega))]
          rw [e] at g
          exact zk_St_push hl q1 g
        · cases h
      · rename_i hk
        cases h
        rw [zk_kd1 hk]
        exact zk_St_same hN hH hl ⟨trivial, q1⟩
      · rename_i n hk
        split at h
        · rename_i r hr
          cases h
          rw [zk_kd2 hk, hH.2.1 p k r hr]
          exact zk_St_same hN hH hl ⟨rfl, q1⟩
        · cases h
    · cases h
  · cases h
/-- may this field be written? the ghost too -/
def zk_may (B : zk_B) (mods : List (Nat × Nat)) (p k : Nat) : Bool := (zk_inm mods p k).and (bif B.2.2.2.2.2 p k then zk_inm mods 72 100 else true)
theorem zk_Fr_put {H : zp_H} {p k : Nat} (hw : zk_W B gh J fz) (hm : zk_may B mods p k = true) : zk_Fr gh mods am H (H.1, zp_u H.2.1 p k x, H.2.2) := by
  refine ⟨rfl, ?_⟩
  intro p' k' h1 h2
  refine ⟨?_, rfl⟩
  obtain ⟨m1, m2⟩ := Bool.and_eq_true_iff.mp hm
  have hn : ¬ (p' = p ∧ k' = k) := by
    rintro ⟨rfl, rfl⟩
    rw [m1] at h1
    cases h1
  unfold zk_fv
  by_cases h3 : p' = 72 ∧ k' = 100
  · rw [if_pos h3, if_pos h3]
    refine hw.2.1 H _ (fun p9 k9 h9 => ⟨zp_u_ne ?_, rfl⟩)
    rintro ⟨rfl, rfl⟩
    rw [h9] at m2
    rw [h3.1, h3.2] at h1
    rw [show zk_inm mods 72 100 = true from m2] at h1
    cases h1
  · rw [if_neg h3, if_neg h3]
    show (zp_u H.2.1 p k x p' k').toInt = _
    rw [zp_u_ne hn]
theorem zk_Fr_putl {H : zp_H} {p k : Nat} {y : Int64} (hw : zk_W B gh J fz) (hm : zk_may B mods p k = true) : zk_Fr gh mods am H (H.1, H.2.1, zp_u H.2.2.1 p k y, H.2.2.2) := by
  refine ⟨rfl, ?_⟩
  intro p' k' h1 h2
  obtain ⟨m1, m2⟩ := Bool.and_eq_true_iff.mp hm
  have hn : ¬ (p' = p ∧ k' = k) := by
    rintro ⟨rfl, rfl⟩
    rw [m1] at h1
    cases h1
  refine ⟨?_, zp_u_ne hn⟩
  unfold zk_fv
  by_cases h3 : p' = 72 ∧ k' = 100
  · rw [if_pos h3, if_pos h3]
    refine hw.2.1 H _ (fun p9 k9 h9 => ⟨rfl, zp_u_ne ?_⟩)
    rintro ⟨rfl, rfl⟩
    rw [h9] at m2
    rw [h3.1, h3.2] at h1
    rw [show zk_inm mods 72 100 = true from m2] at h1
    cases h1
  · rw [if_neg h3, if_neg h3]
theorem zk_Fr_arr {H : zp_H} {p t n : Nat} {f : Nat → Nat → Int32} {g : Nat → Nat → Int64} (hw : zk_W B gh J fz) (hp : B.1[p]? = some (.inr (t, n))) (hm : zk_ina am p = true) (hf : ∀ p' k', p' ≠ p → f p' k' = H.2.1 p' k' ∧ g p' k' = H.2.2.1 p' k') : zk_Fr gh mods am H (H.1, f, g, H.2.2.2) := by
  refine ⟨rfl, ?_⟩
  intro p' k' h1 h2
  have hn : p' ≠ p := by
    rintro rfl
    rw [hm] at h2
    cases h2
  refine ⟨?_, (hf p' k' hn).2⟩
  unfold zk_fv
  by_cases h3 : p' = 72 ∧ k' = 100
  · rw [if_pos h3, if_pos h3]
    refine hw.2.1 H _ (fun p9 k9 h9 => ?_)
    obtain ⟨ci, h8⟩ := hw.2.2.2.2.2.1 p9 k9 h9
    refine hf p9 k9 ?_
    rintro rfl
    rw [hp] at h8
    cases h8
  · rw [if_neg h3, if_neg h3]
    show (f p' k').toInt = _
    rw [(hf p' k' hn).1]
def zk_putI (B : zk_B) (fz : Nat → Nat → Bool) (mods : List (Nat × Nat)) (r : Option za_row) (A : zk_A) (pc : Nat) (lv : zk_LV) (st : List zk_V) : Option zk_O := match r, st with
  | some (0, ci, k, fin), v :: .inr (some (some (p + 1))) :: rest => match B.1[p]? with
    | some (.inl cj) => bif Nat.beq cj ci then bif Nat.blt k (za_nX ci) then bif za_ieq fin 0 then bif zk_may B mods p k then match za_tyX ci k, v with
      | .int, .inl a => match zk_putf B fz A p k a with
        | some A' => some (A', pc + 3, lv, rest)
        | none => none
      | .boolean, .inl a => bif zk_sub1 A a (0, 1) then match zk_putf B fz A p k a with
        | some A' => some (A', pc + 3, lv, rest)
        | none => none else none
      | .long, .inr none => match zk_putl B fz A p k with
        | some A' => some (A', pc + 3, lv, rest)
        | none => none
      | _, _ => none
      else none else none else none else none
    | _ => none
  | _, _ => none
theorem zk_x01 {x : Int32} (h1 : 0 ≤ x.toInt) (h2 : x.toInt ≤ 1) : x = 0 ∨ x = 1 := by
  by_cases h : x.toInt = 0
  · exact Or.inl (Int32.toInt_inj.mp (by rw [h]; rfl))
  · exact Or.inr (Int32.toInt_inj.mp (by rw [show x.toInt = 1 by omega]; rfl))
theorem zk_putI_ok {r : Option za_row} {own : Nat} {ini : Bool} (hw : zk_W B gh J fz) (hN : zk_N τ A) (hH : zk_Hp B gh J τ A t.1) (hl : zk_L τ A.1 lv lc) (hs : za_F2 (zk_gV τ A.1) st sc) (h : zk_putI B fz mods r A pc lv st = some o) : zk_St B gh J mods am τ A t (zp_putf r own ini pc lc sc t) o := by
  unfold zk_putI at h
  split at h
  · rename_i ci k fin v p rest
    obtain ⟨w, s1, rfl, v1, q1⟩ := za_F2_cons hs
    obtain ⟨_, s2, rfl, v2, q2⟩ := za_F2_cons q1
    have e := zk_gR_v v2
    subst e
    split at h
    · rename_i cj hp
      replace h := za_bif h
      obtain ⟨h1, h⟩ := h
      replace h := za_bif h
      obtain ⟨h2, h⟩ := h
      replace h := za_bif h
      obtain ⟨h3, h⟩ := h
      replace h := za_bif h
      obtain ⟨h4, h⟩ := h
      have h3 := za_ieq_t h3
      have key : zp_fit (za_tyX ci k) w = true → zp_putf (some (0, ci, k, fin)) own ini pc lc (w :: .inr (.inr (some (p + 1))) :: s2) t = zp_go lc (zp_wf t.1 p k w, t.2) (pc + 3) s2 := by
        intro hf
        exact zp_putf_e (by rw [hH.1]; exact hp) h1 h2 hf h3
      split at h
      · rename_i a hty
        obtain ⟨x, rfl, x1, x2⟩ := zk_gI_v v1
        split at h
        · rename_i A' hA
          cases h
          rw [key (by rw [hty]; rfl)]
          obtain ⟨f1, f2, f3⟩ := zk_putf_ok hw hp hN hH x1 x2 hA
          exact ⟨τ, lc, s2, _, rfl, zk_ext_r τ, by rw [f1]; exact Nat.le_refl _, f2, f3, by rw [f1]; exact hl, by rw [f1]; exact q2, zk_Fr_put hw h4⟩
        · cases h
      · rename_i a hty
        replace h := za_bif h
        obtain ⟨h5, h⟩ := h
        obtain ⟨x, rfl, x1, x2⟩ := zk_gI_v v1
        have hb := zk_sub1_ok hN h5
        split at h
        · rename_i A' hA
          cases h
          rw [key (by rw [hty]; exact decide_eq_true (zk_x01 (by rw [x2]; exact hb.1) (by rw [x2]; exact hb.2)))]
          obtain ⟨f1, f2, f3⟩ := zk_putf_ok hw hp hN hH x1 x2 hA
          exact ⟨τ, lc, s2, _, rfl, zk_ext_r τ, by rw [f1]; exact Nat.le_refl _, f2, f3, by rw [f1]; exact hl, by rw [f1]; exact q2, zk_Fr_put hw h4⟩
        · cases h
      · rename_i hty
        obtain ⟨x, rfl⟩ := zk_gL_v v1
        split at h
        · rename_i A' hA
          cases h
          rw [key (by rw [hty]; rfl)]
          have hfz : fz p k = false := by
            unfold zk_putl at hA
            cases hz : fz p k with
            | false => rfl
            | true => rw [hz] at hA; cases hA
          obtain ⟨f1, f2, f3⟩ := zk_putl_ok (hl := zp_u t.1.2.2.1 p k x) hw hN hH hA (fun p' k' h' => zp_u_ne (by rintro ⟨rfl, rfl⟩; rw [hfz] at h'; cases h')) (fun hg p' k' h' => zp_u_ne (by rintro ⟨rfl, rfl⟩; rw [hg] at h'; cases h'))
          exact ⟨τ, lc, s2, _, rfl, zk_ext_r τ, by rw [f1]; exact Nat.le_refl _, f2, f3, by rw [f1]; exact hl, by rw [f1]; exact q2, zk_Fr_putl hw h4⟩
        · cases h
      · cases h
    · cases h
  · cases h
/-! arrays -/
def zk_aldI (B : zk_B) (bt : Bool) (A : zk_A) (pc : Nat) (lv : zk_LV) (st : List zk_V) : Option zk_O := match st with
  | .inl i :: .inr (some (some (p + 1))) :: rest => match B.1[p]? with
    | some (.inr (ty, n)) => bif Bool.xor bt (Nat.beq ty 0) then bif Nat.blt ty 3 then match zk_ald B A p n i with
      | some z => some (z.1, pc + 1, lv, .inl z.2 :: rest)
      | none => none
      else none else none
    | _ => none
  | _ => none
theorem zk_bt {bt : Bool} {ty : Nat} (h : Bool.xor bt (Nat.beq ty 0) = true) : bt = false ↔ ty = 0 := by
  cases bt with
  | false =>
    have h : Nat.beq ty 0 = true := by simpa using h
    exact ⟨fun _ => za_beq h, fun _ => rfl⟩
  | true =>
    have h : Nat.beq ty 0 = false := by simpa using h
    refine ⟨fun z => (by cases z), fun z => ?_⟩
    rw [z] at h
    cases h
theorem zk_aldI_ok {L : Nat} {σ : Nat → Int32} {bt : Bool} (hN : zk_N τ A) (hH : zk_Hp B gh J τ A t.1) (hl : zk_L τ A.1 lv lc) (hs : za_F2 (zk_gV τ A.1) st sc) (h : zk_aldI B bt A pc lv st = some o) : zk_St B gh J mods am τ A t (zp_ald L σ bt pc lc sc t) o := by
  unfold zk_aldI at h
  split at h
  · rename_i i p rest
    obtain ⟨_, s1, rfl, v1, q1⟩ := za_F2_cons hs
    obtain ⟨_, s2, rfl, v2, q2⟩ := za_F2_cons q1
    have e := zk_gR_v v2
    subst e
    obtain ⟨x, rfl, x1, x2⟩ := zk_gI_v v1
    split at h
    · rename_i ty n hp
      obtain ⟨h1, h⟩ := za_bif h
      obtain ⟨h2, h⟩ := za_bif h
      split at h
      · rename_i z hz
        cases h
        obtain ⟨i0, i1, hr⟩ := zk_ald_ok hp hN hH x1 hz
        rw [← x2] at i0 i1 hr
        unfold zp_ald
        try dsimp only
        rw [hH.1, hp]
        try dsimp only
        rw [if_pos ⟨zk_bt h1, za_blt h2, i0, i1⟩]
        exact zk_St_push hl q2 hr
      · cases h
    · cases h
  · cases h
def zk_astI (B : zk_B) (fz : Nat → Nat → Bool) (am : List Nat) (bt : Bool) (A : zk_A) (pc : Nat) (lv : zk_LV) (st : List zk_V) : Option zk_O := match st with
  | .inl v :: .inl i :: .inr (some (some (p + 1))) :: rest => match B.1[p]? with
    | some (.inr (ty, n)) => bif Bool.xor bt (Nat.beq ty 0) then bif zk_ina am p then bif (match ty with
        | 0 => true
        | 1 => zk_sub1 A v (-128, 127)
        | 2 => zk_sub1 A v (0, 1)
        | _ => false) then match zk_ast B fz A p n i v with
      | some A' => some (A', pc + 1, lv, rest)
      | none => none
      else none else none else none
    | _ => none
  | _ => none
theorem zk_nar1 {x : Int32} (h1 : -128 ≤ x.toInt) (h2 : x.toInt ≤ 127) : zp_nar 1 x = x := by
  show (match narrow .byte (.int x) with | .int y => y | _ => 0) = x
  show x.toInt8.toInt32 = x
  exact zn_i2b' h1 h2
theorem zk_nar2 {x : Int32} (h1 : 0 ≤ x.toInt) (h2 : x.toInt ≤ 1) : zp_nar 2 x = x := by
  rcases zk_x01 h1 h2 with rfl | rfl
  · rfl
  · rfl
theorem zk_astI_ok {bt : Bool} (hw : zk_W B gh J fz) (hN : zk_N τ A) (hH : zk_Hp B gh J τ A t.1) (hl : zk_L τ A.1 lv lc) (hs : za_F2 (zk_gV τ A.1) st sc) (h : zk_astI B fz am bt A pc lv st = some o) : zk_St B gh J mods am τ A t (zp_ast bt pc lc sc t) o := by
  unfold zk_astI at h
  split at h
  · rename_i v i p rest
    obtain ⟨_, s0, rfl, v0, q0⟩ := za_F2_cons hs
    obtain ⟨_, s1, rfl, v1, q1⟩ := za_F2_cons q0
    obtain ⟨_, s2, rfl, v2, q2⟩ := za_F2_cons q1
    have e := zk_gR_v v2
    subst e
    obtain ⟨x, rfl, x1, x2⟩ := zk_gI_v v1
    obtain ⟨y, rfl, y1, y2⟩ := zk_gI_v v0
    split at h
    · rename_i ty n hp
      obtain ⟨h1, h⟩ := za_bif h
      obtain ⟨h2, h⟩ := za_bif h
      obtain ⟨h3, h⟩ := za_bif h
      have hty : ty < 3 ∧ zp_nar ty y = y := by
        match ty, h3 with
        | 0, _ => exact ⟨by decide, rfl⟩
        | 1, h3 =>
          have hb := zk_sub1_ok hN h3
          exact ⟨by decide, zk_nar1 (by rw [y2]; exact hb.1) (by rw [y2]; exact hb.2)⟩
        | 2, h3 =>
          have hb := zk_sub1_ok hN h3
          exact ⟨by decide, zk_nar2 (by rw [y2]; exact hb.1) (by rw [y2]; exact hb.2)⟩
      split at h
      · rename_i A' hA
        cases h
        obtain ⟨i0, i1, f1, f2, f3⟩ := zk_ast_ok hw hp hN hH x1 y1 y2 hA
        rw [← x2] at i0 i1 f3
        unfold zp_ast
        try dsimp only
        rw [hH.1, hp]
        try dsimp only
        rw [if_pos ⟨zk_bt h1, hty.1, i0, i1⟩, hty.2]
        rw [hH.1] at f3
        exact ⟨τ, lc, s2, _, rfl, zk_ext_r τ, by rw [f1]; exact Nat.le_refl _, f2, f3, by rw [f1]; exact hl, by rw [f1]; exact q2, by
          rw [← hH.1]
          exact zk_Fr_arr hw hp h2 (fun p' k' hn => ⟨zp_u_ne (fun z => hn z.1), rfl⟩)⟩
      · cases h
    · cases h
  · cases h
def zk_lldI (B : zk_B) (A : zk_A) (pc : Nat) (lv : zk_LV) (st : List zk_V) : Option zk_O := match st with
  | .inl i :: .inr (some (some (p + 1))) :: rest => match B.1[p]? with
    | some (.inr (3, n)) => bif zk_ix A i n then some (A, pc + 1, lv, .inr none :: rest) else none
    | _ => none
  | _ => none
theorem zk_lldI_ok (hN : zk_N τ A) (hH : zk_Hp B gh J τ A t.1) (hl : zk_L τ A.1 lv lc) (hs : za_F2 (zk_gV τ A.1) st sc) (h : zk_lldI B A pc lv st = some o) : zk_St B gh J mods am τ A t (zp_lld pc lc sc t) o := by
  unfold zk_lldI at h
  split at h
  · rename_i i p rest
    obtain ⟨_, s1, rfl, v1, q1⟩ := za_F2_cons hs
    obtain ⟨_, s2, rfl, v2, q2⟩ := za_F2_cons q1
    have e := zk_gR_v v2
    subst e
    obtain ⟨x, rfl, x1, x2⟩ := zk_gI_v v1
    split at h
    · rename_i n hp
      obtain ⟨h1, h⟩ := za_bif h
      cases h
      have i0 := zk_ix_ok hN h1
      rw [← x2] at i0
      rw [show p.succ = p + 1 from rfl, zp_lld_e (by rw [hH.1]; exact hp) i0]
      exact zk_St_same hN hH hl ⟨trivial, q2⟩
    · cases h
  · cases h
def zk_lstI (B : zk_B) (fz : Nat → Nat → Bool) (am : List Nat) (A : zk_A) (pc : Nat) (lv : zk_LV) (st : List zk_V) : Option zk_O := match st with
  | .inr none :: .inl i :: .inr (some (some (p + 1))) :: rest => match B.1[p]? with
    | some (.inr (3, n)) => bif zk_ix A i n then bif zk_ina am p then match zk_putl B fz A p 0 with
      | some A' => some (A', pc + 1, lv, rest)
      | none => none
      else none else none
    | _ => none
  | _ => none
theorem zk_lstI_ok (hw : zk_W B gh J fz) (hN : zk_N τ A) (hH : zk_Hp B gh J τ A t.1) (hl : zk_L τ A.1 lv lc) (hs : za_F2 (zk_gV τ A.1) st sc) (h : zk_lstI B fz am A pc lv st = some o) : zk_St B gh J mods am τ A t (zp_lst pc lc sc t) o := by
  unfold zk_lstI at h
  split at h
  · rename_i i p rest
    obtain ⟨_, s0, rfl, v0, q0⟩ := za_F2_cons hs
    obtain ⟨_, s1, rfl, v1, q1⟩ := za_F2_cons q0
    obtain ⟨_, s2, rfl, v2, q2⟩ := za_F2_cons q1
    have e := zk_gR_v v2
    subst e
    obtain ⟨x, rfl, x1, x2⟩ := zk_gI_v v1
    obtain ⟨y, rfl⟩ := zk_gL_v v0
    split at h
    · rename_i n hp
      obtain ⟨h1, h⟩ := za_bif h
      obtain ⟨h2, h⟩ := za_bif h
      split at h
      · rename_i A' hA
        cases h
        have i0 := zk_ix_ok hN h1
        rw [← x2] at i0
        have hfz : fz p 0 = false := by
          unfold zk_putl at hA
          cases hz : fz p 0 with
          | false => rfl
          | true => rw [hz] at hA; cases hA
        obtain ⟨f1, f2, f3⟩ := zk_putl_ok (hl := zp_u t.1.2.2.1 p x.toInt.toNat y) hw hN hH hA (fun p' k' h' => zp_u_ne (by
          rintro ⟨rfl, rfl⟩
          rw [hw.2.2.2.2.2.2.1 _ _ _ _ hp, hfz] at h'
          cases h')) (fun _ p' k' h' => zp_u_ne (by
          rintro ⟨rfl, rfl⟩
          obtain ⟨ci, h8⟩ := hw.2.2.2.2.2.1 _ _ h'
          rw [hp] at h8
          cases h8))
        rw [show p.succ = p + 1 from rfl, zp_lst_e (by rw [hH.1]; exact hp) i0]
        exact ⟨τ, lc, s2, _, rfl, zk_ext_r τ, by rw [f1]; exact Nat.le_refl _, f2, f3, by rw [f1]; exact hl, by rw [f1]; exact q2, by
          exact zk_Fr_arr hw hp h2 (fun p' k' hn => ⟨rfl, zp_u_ne (fun z => hn z.1)⟩)⟩
      · cases h
    · cases h
  · cases h
def zk_alenI (B : zk_B) (A : zk_A) (pc : Nat) (lv : zk_LV) (st : List zk_V) : Option zk_O := match st with
  | .inr (some (some (p + 1))) :: rest => match B.1[p]? with
    | some (.inr (_, n)) => bif Nat.blt n 100000 then some (A, pc + 1, lv, .inl (0, (n : Int)) :: rest) else none
    | _ => none
  | _ => none
theorem zk_alenI_ok {L : Nat} (hN : zk_N τ A) (hH : zk_Hp B gh J τ A t.1) (hl : zk_L τ A.1 lv lc) (hs : za_F2 (zk_gV τ A.1) st sc) (h : zk_alenI B A pc lv st = some o) : zk_St B gh J mods am τ A t (zp_alen L pc lc sc t) o := by
  unfold zk_alenI at h
  split at h
  · rename_i p rest
    obtain ⟨_, s1, rfl, v1, q1⟩ := za_F2_cons hs
    have e := zk_gR_v v1
    subst e
    split at h
    · rename_i ty n hp
      obtain ⟨h1, h⟩ := za_bif h
      have h1 := za_blt h1
      cases h
      unfold zp_alen
      try dsimp only
      rw [hH.1, hp]
      exact zk_St_same hN hH hl ⟨⟨Nat.zero_le _, Int32.toInt_ofNat_of_lt (by omega)⟩, q1⟩
    · cases h
  · cases h
/-- one range within another -/
def zk_le2 (r s : Int × Int) : Bool := (za_ile s.1 r.1).and (za_ile r.2 s.2)
def zk_acpI (B : zk_B) (fz : Nat → Nat → Bool) (am : List Nat) (A : zk_A) (pc : Nat) (lv : zk_LV) (st : List zk_V) : Option zk_O := match st with
  | .inl (0, c) :: .inl (0, d) :: .inr (some (some (p1 + 1))) :: .inl (0, s) :: .inr (some (some (p0 + 1))) :: rest => match B.1[p0]?, B.1[p1]?, B.2.2.2.1 p0, B.2.2.2.1 p1 with
    | some (.inr (0, n0)), some (.inr (0, n1)), (1, [r0]), (1, [r1]) => bif zk_le2 r0 r1 then bif (za_ile 0 c).and ((za_ile 0 d).and ((za_ile 0 s).and ((za_ile (s + c) n0).and (za_ile (d + c) n1)))) then bif Nat.ble rest.length 4 then bif zk_ina am p1 then match zk_arw fz A p1 with
      | some A' => some (A', pc + 3, lv, rest)
      | none => none
      else none else none else none else none
    | _, _, _, _ => none
  | _ => none
theorem zk_wt4 {n : Nat} : ∀ {st : List zk_V} {sc : List zp_V}, za_F2 (zk_gV τ n) st sc → zp_wt sc ≤ 2 * st.length
  | [], [], _ => Nat.le_refl _
  | a :: st, v :: sc, h => by
    have ih := zk_wt4 h.2
    have h9 : zp_cat v ≤ 2 := by
      unfold zp_cat
      split <;> omega
    show zp_cat v + zp_wt sc ≤ 2 * (st.length + 1)
    omega
  | [], _ :: _, h => h.elim
  | _ :: _, [], h => h.elim
theorem zk_acpI_ok (hw : zk_W B gh J fz) (hN : zk_N τ A) (hH : zk_Hp B gh J τ A t.1) (hl : zk_L τ A.1 lv lc) (hs : za_F2 (zk_gV τ A.1) st sc) (h : zk_acpI B fz am A pc lv st = some o) : zk_St B gh J mods am τ A t (zp_acp pc lc sc t) o := by
  unfold zk_acpI at h
  split at h
  · rename_i c d p1 s p0 rest
    obtain ⟨_, s0, rfl, v0, q0⟩ := za_F2_cons hs
    obtain ⟨_, s1, rfl, v1, q1⟩ := za_F2_cons q0
    obtain ⟨_, s2, rfl, v2, q2⟩ := za_F2_cons q1
    obtain ⟨_, s3, rfl, v3, q3⟩ := za_F2_cons q2
    obtain ⟨_, s4, rfl, v4, q4⟩ := za_F2_cons q3
    have e2 := zk_gR_v v2
    subst e2
    have e4 := zk_gR_v v4
    subst e4
    obtain ⟨xc, rfl, -, xc2⟩ := zk_gI_v v0
    obtain ⟨xd, rfl, -, xd2⟩ := zk_gI_v v1
    obtain ⟨xs, rfl, -, xs2⟩ := zk_gI_v v3
    have xc2 : xc.toInt = c := xc2
    have xd2 : xd.toInt = d := xd2
    have xs2 : xs.toInt = s := xs2
    split at h
    · rename_i n0 n1 r0 r1 hp0 hp1 ha0 ha1
      obtain ⟨h1, h⟩ := za_bif h
      obtain ⟨h2, h⟩ := za_bif h
      obtain ⟨h3, h⟩ := za_bif h
      obtain ⟨h4, h⟩ := za_bif h
      obtain ⟨c1, h2⟩ := Bool.and_eq_true_iff.mp h2
      obtain ⟨c2, h2⟩ := Bool.and_eq_true_iff.mp h2
      obtain ⟨c3, h2⟩ := Bool.and_eq_true_iff.mp h2
      obtain ⟨c4, c5⟩ := Bool.and_eq_true_iff.mp h2
      have c1 := za_ile_t c1
      have c2 := za_ile_t c2
      have c3 := za_ile_t c3
      have c4 := za_ile_t c4
      have c5 := za_ile_t c5
      obtain ⟨d1, d2⟩ := Bool.and_eq_true_iff.mp h1
      have d1 := za_ile_t d1
      have d2 := za_ile_t d2
      have hwt := zk_wt4 q4
      have h3 := za_ble h3
      split at h
      · rename_i A' hA
        cases h
        have hA0 := hH.2.2.2.2.2.1
        obtain ⟨f1, f2, f3⟩ := zk_arw_ok (g := va_cpy (t.1.2.1 p0) (t.1.2.1 p1) xs.toInt.toNat xd.toInt.toNat xc.toInt.toNat) hw hp1 hN hH (fun i r hi hr => by
          rw [ha1] at hr
          have hr : [r1][i % 1]? = some r := hr
          rw [Nat.mod_one] at hr
          cases hr
          unfold va_cpy
          split
          · rename_i hc
            have g := hA0 p0 0 n0 (xs.toInt.toNat + (i - xd.toInt.toNat)) r0 hp0 (by omega) (by rw [ha0]; show [r0][_ % 1]? = _; rw [Nat.mod_one]; rfl)
            exact ⟨Int.le_trans d1 g.1, Int.le_trans g.2 d2⟩
          · exact hA0 p1 0 n1 i r1 hp1 hi (by rw [ha1]; show [r1][i % 1]? = _; rw [Nat.mod_one]; rfl)) hA
        rw [show p0.succ = p0 + 1 from rfl, show p1.succ = p1 + 1 from rfl, zp_acp_e (by rw [hH.1]; exact hp0) (by rw [hH.1]; exact hp1) ⟨by omega, by omega, by omega, by omega, by omega, by omega⟩]
        exact ⟨τ, lc, s4, _, rfl, zk_ext_r τ, by rw [f1]; exact Nat.le_refl _, f2, f3, by rw [f1]; exact hl, by rw [f1]; exact q4, by
          exact zk_Fr_arr hw hp1 h4 (fun p' k' hn => ⟨by unfold zp_ua; rw [if_neg hn], rfl⟩)⟩
      · cases h
    · cases h
  · cases h
end KJ
