section
/-! ===== the reference's token at hand, in the same words ===== -/
theorem yw_rl_len {T : Nat → Int} {s : Nat} : ∀ (m : Nat), (yw_rl T s m).length = m
  | 0 => rfl
  | m + 1 => by
    show (yw_rl T s m).length + 1 = m + 1
    rw [yw_rl_len m]
/-- a word's letters -/
theorem ys_let {T : Nat → Int} {n p : Nat} (h : ys_kd T n p = 3) : ∀ t, t < ys_nx T n p - ys_st T n p → 97 ≤ T (ys_st T n p + t) ∧ T (ys_st T n p + t) ≤ 122 := by
  obtain ⟨h1, h2, h3⟩ := ys_vl_w h
  have e : ys_nx T n p = ys_run ys_L T (n - ys_st T n p) (ys_st T n p) := by
    unfold ys_nx ys_es
    rw [if_neg (by omega), h2]
    rfl
  intro t ht
  rw [e] at ht
  exact of_decide_eq_true (ys_run_p _ _ t ht)
theorem yw_cls_l {R : List Nat} (h : 7 < R.length) : yw_cls R = 21 := by
  have k : ∀ (w : List Nat), w.length ≤ 7 → ¬ R = w := fun w hw h9 => by
    rw [h9] at h
    omega
  unfold yw_cls
  rw [if_neg (k _ (by decide)), if_neg (k _ (by decide)), if_neg (k _ (by decide)), if_neg (k _ (by decide)), if_neg (k _ (by decide)), if_neg (k _ (by decide)), if_neg (k _ (by decide)), if_neg (k _ (by decide)), if_neg (k _ (by decide)), if_neg (k _ (by decide)), if_neg (k _ (by decide)), if_neg (k _ (by decide)), if_neg (k _ (by decide)), if_neg (k _ (by decide)), if_neg (k _ (by decide)), if_neg (k _ (by decide)), if_neg (k _ (by decide)), if_neg (k _ (by decide)), if_neg (k _ (by decide)), if_neg (k _ (by decide)), if_neg (k _ (by decide))]
theorem yr_s_3 {k : Int} : yr_s k = 1 ↔ k = 3 := by
  unfold yr_s
  split
  · constructor <;> intro <;> omega
  · split
    · constructor <;> intro <;> omega
    · split
      · constructor <;> intro <;> omega
      · split <;> constructor <;> intro <;> omega
theorem yr_s_2 {k : Int} : yr_s k = 2 ↔ k = 2 := by
  unfold yr_s
  split
  · constructor <;> intro <;> omega
  · split
    · constructor <;> intro <;> omega
    · split
      · constructor <;> intro <;> omega
      · split <;> constructor <;> intro <;> omega
theorem yr_s_4 {k : Int} : yr_s k = 3 ↔ k = 4 := by
  unfold yr_s
  split
  · constructor <;> intro <;> omega
  · split
    · constructor <;> intro <;> omega
    · split
      · constructor <;> intro <;> omega
      · split <;> constructor <;> intro <;> omega
theorem ys_kd_c {T : Nat → Int} {n p : Nat} : ys_kd T n p = 0 ∨ ys_kd T n p = 1 ∨ ys_kd T n p = 2 ∨ ys_kd T n p = 3 ∨ ys_kd T n p = 4 := by
  unfold ys_kd ys_ks
  split
  · exact Or.inl rfl
  · cases ys_L (T (ys_st T n p)) with
    | true => exact Or.inr (Or.inr (Or.inr (Or.inl rfl)))
    | false =>
      cases ys_D (T (ys_st T n p)) with
      | true => exact Or.inr (Or.inr (Or.inl rfl))
      | false =>
        cases ys_G (T (ys_st T n p)) with
        | true => exact Or.inr (Or.inr (Or.inr (Or.inr rfl)))
        | false => exact Or.inr (Or.inl rfl)
theorem yr_s_0 {T : Nat → Int} {n p : Nat} : yr_s (ys_kd T n p) = 0 ↔ ys_kd T n p = 0 := by
  rcases ys_kd_c (T := T) (n := n) (p := p) with h | h | h | h | h <;> rw [h] <;> decide
/-- the word at hand -/
theorem yr_zg {T : Nat → Int} {n p : Nat} {H : zp_H} (hp : p ≤ n) (h : yr_k T n p H) : zg H = if ys_kd T n p = 3 then yw_m (ys_vl T n p) else -1 := by
  obtain ⟨h1, h2, h3, h4, h5, h6, h7⟩ := h
  unfold zg
  by_cases hk : ys_kd T n p = 3
  · rw [if_pos hk, (ys_vl_w hk).2.2, yw_wi (ys_nxb hp).2.1 (ys_let hk)]
    by_cases hl : 7 < ys_nx T n p - ys_st T n p
    · rw [if_pos (Or.inr (by omega)), yw_cls_l (by rw [yw_rl_len]; exact hl)]
      rfl
    · rw [if_neg (by rw [h3, yr_s_3.mpr hk]; omega), h7 hk, show min (ys_nx T n p - ys_st T n p) 7 = ys_nx T n p - ys_st T n p by omega, yw_zg (by omega) (ys_let hk), yw_rc]
  · rw [if_neg hk, if_pos (Or.inl (by rw [h3]; exact fun h9 => hk (yr_s_3.mp h9)))]
/-- a sign at hand -/
theorem ys_vl_g {T : Nat → Int} {n p : Nat} (h : ys_kd T n p = 4) : ys_vl T n p = T (ys_st T n p) ∧ ys_G (T (ys_st T n p)) = true := by
  unfold ys_kd ys_ks at h
  by_cases h1 : n ≤ ys_st T n p
  · rw [if_pos h1] at h
    omega
  · rw [if_neg h1] at h
    cases hL : ys_L (T (ys_st T n p)) with
    | true => rw [hL] at h; exact absurd (show (3 : Int) = 4 from h) (by decide)
    | false =>
      rw [hL] at h
      cases hD : ys_D (T (ys_st T n p)) with
      | true => rw [hD] at h; exact absurd (show (2 : Int) = 4 from h) (by decide)
      | false =>
        rw [hD] at h
        cases hG : ys_G (T (ys_st T n p)) with
        | true =>
          refine ⟨?_, rfl⟩
          unfold ys_vl ys_vs
          rw [hL, hD]
          rfl
        | false => rw [hG] at h; exact absurd (show (1 : Int) = 4 from h) (by decide)
theorem yr_sg {T : Nat → Int} {n p : Nat} {H : zp_H} (h : yr_k T n p H) {c : Int} : ((H.2.1 72 28).toInt = 3 ∧ (H.2.1 72 32).toInt = c) ↔ (ys_kd T n p = 4 ∧ ys_vl T n p = c) := by
  obtain ⟨h1, h2, h3, h4, h5, h6, h7⟩ := h
  rw [h3, yr_s_4]
  constructor
  · rintro ⟨a, b⟩
    obtain ⟨g1, g2⟩ := ys_vl_g a
    have g2 := of_decide_eq_true g2
    rw [h6 (by omega)] at b
    unfold ys_u at b
    rw [if_neg (by omega)] at b
    exact ⟨a, by omega⟩
  · rintro ⟨a, b⟩
    obtain ⟨g1, g2⟩ := ys_vl_g a
    have g2 := of_decide_eq_true g2
    refine ⟨a, ?_⟩
    rw [h6 (by omega)]
    unfold ys_u
    rw [if_neg (by omega)]
    omega
/-- a number at hand: its value, or it is too long -/
theorem yr_nm {T : Nat → Int} {n p : Nat} {H : zp_H} (hp : p ≤ n) (h : yr_k T n p H) (hk : ys_kd T n p = 2) : (4 < (H.2.1 72 30).toInt ∧ ys_vl T n p = 2147483647) ∨ ((H.2.1 72 30).toInt ≤ 4 ∧ (H.2.1 72 31).toInt = ys_vl T n p ∧ 0 ≤ ys_vl T n p ∧ ys_vl T n p ≤ 9999) := by
  obtain ⟨h1, h2, h3, h4, h5, h6, h7⟩ := h
  have hb := ys_nxb (T := T) hp
  obtain ⟨g1, g2, g3, g4⟩ := ys_vl_n hk
  by_cases hl : 4 < ys_nx T n p - ys_st T n p
  · rw [if_pos hl] at g4
    exact Or.inl ⟨by omega, g4⟩
  · rw [if_neg hl] at g4
    refine Or.inr ⟨by omega, ?_, ?_⟩
    · rw [h5 hk, show min (ys_nx T n p - ys_st T n p) 4 = ys_nx T n p - ys_st T n p by omega, g4]
    · rw [g4]
      have b := ys_nm_b (T := T) (s := ys_st T n p) (ys_nx T n p - ys_st T n p) (by omega) (fun t ht => by
        rw [g3] at ht
        exact of_decide_eq_true (ys_run_p _ _ t ht))
      have c : ys_10 (ys_nx T n p - ys_st T n p) ≤ 9999 := by
        have : ys_nx T n p - ys_st T n p ≤ 4 := by omega
        generalize ys_nx T n p - ys_st T n p = m at this
        match m, this with
        | 0, _ => decide
        | 1, _ => decide
        | 2, _ => decide
        | 3, _ => decide
        | 4, _ => decide
      omega
/-- where the reference stands: the text, the token, the open brackets -/
def yt (H : zp_H) : List Bool → Prop
  | [] => True
  | b :: l => (H.2.1 92 (l.length + 1)).toInt = (if b then 1 else 0) ∧ yt H l
def yV (T : Nat → Int) (n : Nat) (lv : List Bool) (p : Nat) (H : zp_H) : Prop := yr_T T n H ∧ yr_k T n p H ∧ p ≤ n ∧ (H.2.1 72 47).toInt = lv.length ∧ yt H lv
/-- where it met its fault -/
def yD (T : Nat → Int) (n : Nat) (r : Int × Nat) (H : zp_H) : Prop := yr_T T n H ∧ (H.2.1 72 23).toInt = r.1 ∧ r.1 ≠ 0 ∧ (H.2.1 72 24).toInt = ys_st T n r.2
theorem yt_c {H H1 : zp_H} (e : H1.2.1 92 = H.2.1 92) : ∀ {lv : List Bool}, yt H lv → yt H1 lv
  | [], _ => trivial
  | b :: l, h => ⟨by rw [e]; exact h.1, yt_c e h.2⟩
theorem yt_u {H H1 : zp_H} {m : Nat} (e : ∀ k, k ≤ m → H1.2.1 92 k = H.2.1 92 k) : ∀ {lv : List Bool}, lv.length ≤ m → yt H lv → yt H1 lv
  | [], _, _ => trivial
  | b :: l, hm, h => by
    have hm : l.length + 1 ≤ m := hm
    exact ⟨by rw [e _ hm]; exact h.1, yt_u e (by omega) h.2⟩
theorem yr_k_c {T : Nat → Int} {n p : Nat} {H H1 : zp_H} (e : ∀ k, (27 ≤ k ∧ k ≤ 32) → H1.2.1 72 k = H.2.1 72 k) (e2 : H1.2.2.1 72 33 = H.2.2.1 72 33) (h : yr_k T n p H) : yr_k T n p H1 := by
  unfold yr_k
  rw [e 27 (by decide), e 28 (by decide), e 29 (by decide), e 30 (by decide), e 31 (by decide), e 32 (by decide), e2]
  exact h
theorem yr_T_c {T : Nat → Int} {n : Nat} {H H1 : zp_H} (e : H1.2.1 72 26 = H.2.1 72 26) (e2 : H1.2.1 81 = H.2.1 81) (e3 : H1.2.1 72 23 = H.2.1 72 23) (e4 : H1.2.1 72 24 = H.2.1 72 24) (h : yr_T T n H) : yr_T T n H1 := by
  unfold yr_T yr_F
  rw [e, e2, e3, e4]
  exact h
/-- a frame that leaves the text, the token and the brackets alone -/
theorem yV_F {T : Nat → Int} {n p : Nat} {lv : List Bool} {mods : List (Nat × Nat)} {am : List Nat} {H H1 : zp_H} (h : yV T n lv p H) (hF : zk_Fr zg mods am H H1) (hm : ([23, 24, 26, 27, 28, 29, 30, 31, 32, 33, 47].all (fun k => ((zk_inm mods 72 k).or (zk_ina am 72)).not)) = true) (hm2 : (∀ k, zk_inm mods 81 k = false) ∧ (∀ k, zk_inm mods 92 k = false)) (ha : ((zk_ina am 81).or (zk_ina am 92)) = false) : yV T n lv p H1 := by
  have k0 : ∀ k, k ∈ [23, 24, 26, 27, 28, 29, 30, 31, 32, 33, 47] → (zk_inm mods 72 k = false ∧ zk_ina am 72 = false) := fun k hk => by
    have := List.all_eq_true.mp hm k hk
    cases h1 : zk_inm mods 72 k <;> cases h2 : zk_ina am 72 <;> rw [h1, h2] at this <;> first | exact ⟨rfl, rfl⟩ | exact absurd this (by decide)
  have kf : ∀ k, k ∈ [23, 24, 26, 27, 28, 29, 30, 31, 32, 33, 47] → Nat.beq k 100 = false → H1.2.1 72 k = H.2.1 72 k := fun k hk hk9 => Int32.toInt_inj.mp (zx_fe hF k (k0 k hk).1 (k0 k hk).2 hk9)
  obtain ⟨a1, a2⟩ : zk_ina am 81 = false ∧ zk_ina am 92 = false := by
    cases h1 : zk_ina am 81 <;> cases h2 : zk_ina am 92 <;> rw [h1, h2] at ha <;> first | exact ⟨rfl, rfl⟩ | exact absurd ha (by decide)
  obtain ⟨v1, v2, v3, v4, v5⟩ := h
  refine ⟨yr_T_c (kf 26 (by decide) rfl) (zx_ae hF 81 hm2.1 a1 rfl) (kf 23 (by decide) rfl) (kf 24 (by decide) rfl) v1, yr_k_c (fun k hk => ?_) ((hF.2 72 33 (k0 33 (by decide)).1 (k0 33 (by decide)).2).2) v2, v3, ?_, yt_c (zx_ae hF 92 hm2.2 a2 rfl) v5⟩
  · rcases (show k = 27 ∨ k = 28 ∨ k = 29 ∨ k = 30 ∨ k = 31 ∨ k = 32 by omega) with rfl | rfl | rfl | rfl | rfl | rfl
    · exact kf 27 (by decide) rfl
    · exact kf 28 (by decide) rfl
    · exact kf 29 (by decide) rfl
    · exact kf 30 (by decide) rfl
    · exact kf 31 (by decide) rfl
    · exact kf 32 (by decide) rfl
  · rw [kf 47 (by decide) rfl]
    exact v4
theorem yD_F {T : Nat → Int} {n : Nat} {r : Int × Nat} {mods : List (Nat × Nat)} {am : List Nat} {H H1 : zp_H} (h : yD T n r H) (hF : zk_Fr zg mods am H H1) (hm : ([23, 24, 26].all (fun k => ((zk_inm mods 72 k).or (zk_ina am 72)).not)) = true) (hm2 : ∀ k, zk_inm mods 81 k = false) (ha : zk_ina am 81 = false) : yD T n r H1 := by
  have k0 : ∀ k, k ∈ [23, 24, 26] → (zk_inm mods 72 k = false ∧ zk_ina am 72 = false) := fun k hk => by
    have := List.all_eq_true.mp hm k hk
    cases h1 : zk_inm mods 72 k <;> cases h2 : zk_ina am 72 <;> rw [h1, h2] at this <;> first | exact ⟨rfl, rfl⟩ | exact absurd this (by decide)
  have kf : ∀ k, k ∈ [23, 24, 26] → Nat.beq k 100 = false → H1.2.1 72 k = H.2.1 72 k := fun k hk hk9 => Int32.toInt_inj.mp (zx_fe hF k (k0 k hk).1 (k0 k hk).2 hk9)
  obtain ⟨v1, v2, v3, v4⟩ := h
  exact ⟨yr_T_c (kf 26 (by decide) rfl) (zx_ae hF 81 hm2 ha rfl) (kf 23 (by decide) rfl) (kf 24 (by decide) rfl) v1, by rw [kf 23 (by decide) rfl]; exact v2, v3, by rw [kf 24 (by decide) rfl]; exact v4⟩
theorem zR_T {H : zp_H} (h : zk_Bs zR zg zJ H) : zk_Bs zR0 zg zT H := by
  have h := zR_dn h
  exact ⟨h.1, h.2.1, h.2.2.1, h.2.2.2.1, h.2.2.2.2.1, h.2.2.2.2.2.1, h.2.2.2.2.2.2.1, trivial⟩
/-- on to the next token, exactly -/
theorem yx_goes {L : Nat} {σ : Nat → Int32} {d : Nat} {T : Nat → Int} {n p : Nat} {lv : List Bool} {H H1 : zp_H} (hb : ∀ k, k < n → -128 ≤ T k ∧ T k ≤ 127) (hB : zk_Bs zR zg zJ H) (h : yV T n lv p H) (hc : zp_Call L σ d 171 [.inr (.inr (some 73))] H (.inl none, H1)) : yV T n lv (ys_nx T n p) H1 ∧ zk_Fr zg yr_m [] H H1 := by
  obtain ⟨v1, v2, v3, v4, v5⟩ := h
  have hn := ys_nxb (T := T) v3
  obtain ⟨_, c1, H2, rfl, c2, c3, c4⟩ := yr_goes (L := L) (σ := σ) (d := d) (p := ys_nx T n p) hb ⟨zR_T hB, v1⟩ v2.2.1 hn.2.2.1
  have e := zp_Call_u hc c1
  have e : H1 = H2 := by cases e; rfl
  subst e
  refine ⟨⟨c2.2, c4, hn.2.2.1, ?_, yt_c (zx_ae c3 92 (fun k => rfl) rfl rfl) v5⟩, c3⟩
  rw [zx_fe c3 47 rfl rfl rfl]
  exact v4
/-- a fault, exactly -/
theorem yx_wrong {L : Nat} {σ : Nat → Int32} {d : Nat} {T : Nat → Int} {n p : Nat} {lv : List Bool} {H H1 : zp_H} {y : Int32} (hB : zk_Bs zR zg zJ H) (hg : (H.2.1 72 23).toInt = 0) (h : yV T n lv p H) (hy : y.toInt ≠ 0) (hc : zp_Call L σ d 180 [.inr (.inr (some 73)), .inl y] H (.inl none, H1)) : yD T n (y.toInt, p) H1 := by
  have e := zp_Call_u hc (zq_wrong0 (d := 0) (zR_Wd (zR_dn hB)) hg)
  have e : H1 = zw_I (zw_I H 72 23 y) 72 24 (H.2.1 72 29) := by cases e; rfl
  subst e
  refine ⟨yr_T_w h.1 hy, congrArg Int32.toInt (zw_ne zw_eq rfl), hy, ?_⟩
  exact (congrArg Int32.toInt zw_eq).trans h.2.1.1
end
section
/-! ===== codes of rules: the reference ===== -/

/-- the row as the reference keeps it -/
def xR2 : List xIt → List Int
  | [] => []
  | i :: O => (if i.1 < 2 then [(i.1 : Int) + 1, i.2] else [(i.1 : Int)]) ++ xR2 O
theorem xR2_a {O D : List xIt} : xR2 (O ++ D) = xR2 O ++ xR2 D := by
  induction O with
  | nil => rfl
  | cons i O ih =>
    show (if i.1 < 2 then [(i.1 : Int) + 1, i.2] else [(i.1 : Int)]) ++ xR2 (O ++ D) = ((if i.1 < 2 then [(i.1 : Int) + 1, i.2] else [(i.1 : Int)]) ++ xR2 O) ++ xR2 D
    rw [ih, List.append_assoc]
theorem xR2_ac {a : Nat} (ha : 2 ≤ a) : xR2 [xAc a] = [(a : Int)] := by
  show (if a < 2 then _ else [(a : Int)]) ++ [] = _
  rw [if_neg (by omega)]
  rfl
/-- what waits, the top first -/
def xWt (f : Nat → Int32) : List Nat → Prop
  | [] => True
  | b :: W => (f W.length).toInt = (b : Int) ∧ 2 ≤ b ∧ xWt f W
theorem xWt_c {f g : Nat → Int32} : ∀ {W : List Nat}, (∀ i, i < W.length → g i = f i) → xWt f W → xWt g W
  | [], _, _ => trivial
  | b :: W, h, h1 => ⟨by rw [h _ (by show W.length < W.length + 1; omega)]; exact h1.1, h1.2.1, xWt_c (fun i hi => h i (by show i < W.length + 1; omega)) h1.2.2⟩
def xRo (f : Nat → Int32) : Nat → List Int → Prop
  | _, [] => True
  | a, y :: M => (f a).toInt = y ∧ xRo f (a + 1) M
theorem xRo_c {f g : Nat → Int32} : ∀ {M : List Int} {a : Nat}, (∀ i, a ≤ i → i < a + M.length → g i = f i) → xRo f a M → xRo g a M
  | [], _, _, _ => trivial
  | y :: M, a, h, h1 => ⟨by rw [h a (Nat.le_refl _) (by show a < a + (M.length + 1); omega)]; exact h1.1, xRo_c (fun i i1 i2 => h i (by omega) (by show i < a + (M.length + 1); omega)) h1.2⟩
theorem xRo_a {f : Nat → Int32} : ∀ {M N : List Int} {a : Nat}, xRo f a M → xRo f (a + M.length) N → xRo f a (M ++ N)
  | [], _, _, _, h => h
  | y :: M, N, a, h, h1 => ⟨h.1, xRo_a h.2 (by rw [show a + 1 + M.length = a + (M.length + 1) by omega]; exact h1)⟩
/-- the reference's waits and the row that it put out from place a on -/
def xVn (a : Nat) (W : List Nat) (M : List Int) (H : zp_H) : Prop := (H.2.1 72 46).toInt = (W.length : Int) ∧ xWt (H.2.1 91) W ∧ (H.2.1 72 45).toInt = (a : Int) + (M.length : Int) ∧ xRo (H.2.1 90) a M
theorem xVn_c {a : Nat} {W : List Nat} {M : List Int} {H H1 : zp_H} (h46 : H1.2.1 72 46 = H.2.1 72 46) (h91 : H1.2.1 91 = H.2.1 91) (h45 : H1.2.1 72 45 = H.2.1 72 45) (h90 : H1.2.1 90 = H.2.1 90) (h : xVn a W M H) : xVn a W M H1 := ⟨by rw [h46]; exact h.1, by rw [h91]; exact h.2.1, by rw [h45]; exact h.2.2.1, by rw [h90]; exact h.2.2.2⟩
theorem xVn_pt {a : Nat} {W : List Nat} {M : List Int} {H : zp_H} {y : Int32} {z : Int} (hy : y.toInt = z) (h16 : (H.2.1 72 45).toInt < 1600) (h : xVn a W M H) : xVn a W (M ++ [z]) (zx_pt H y) := by
  have h3 := h.2.2.1
  refine ⟨by rw [zx_pt_f 46 rfl]; exact h.1, by rw [zx_pt_w]; exact h.2.1, ?_, xRo_a (xRo_c (fun i i1 i2 => zx_pt_c (by omega)) h.2.2.2) ⟨?_, trivial⟩⟩
  · rw [zx_pt_t h16, h3, List.length_append]
    show _ = _ + ((M.length + 1 : Nat) : Int)
    omega
  · rw [show a + M.length = (H.2.1 72 45).toInt.toNat by omega, zx_pt_y]
    exact hy
theorem xVn_pop {a b : Nat} {W : List Nat} {M : List Int} {H : zp_H} {x : Int32} (hx : x.toInt = (W.length : Int)) (h : xVn a (b :: W) M H) : xVn a W M (zw_I H 72 46 x) := ⟨(congrArg Int32.toInt zw_eq).trans hx, xWt_c (fun i _ => zw_ne rfl rfl) h.2.1.2.2, (congrArg Int32.toInt (zw_ne rfl rfl : _ = H.2.1 72 45)).trans h.2.2.1, xRo_c (fun i _ _ => zw_ne rfl rfl) h.2.2.2⟩
theorem xVn_wt {a b : Nat} {W : List Nat} {M : List Int} {H : zp_H} {y : Int32} (hy : y.toInt = (b : Int)) (hb : 2 ≤ b) (h8 : (H.2.1 72 46).toInt < 800) (h : xVn a W M H) : xVn a (b :: W) M (zx_wt H y) := by
  have h1 := h.1
  refine ⟨?_, ⟨?_, hb, xWt_c (fun i hi => ?_) h.2.1⟩, (congrArg Int32.toInt (zw_ne (zw_ne rfl rfl) rfl : _ = H.2.1 72 45)).trans h.2.2.1, xRo_c (fun i _ _ => zw_ne (zw_ne rfl rfl) rfl) h.2.2.2⟩
  · show ((zx_wt H y).2.1 72 46).toInt = ((W.length + 1 : Nat) : Int)
    refine (congrArg Int32.toInt zw_eq).trans ?_
    rw [zw_p1 (by omega)]
    omega
  · rw [show W.length = (H.2.1 72 46).toInt.toNat by omega]
    exact (congrArg Int32.toInt (zw_ne zw_eq rfl)).trans hy
  · show (zw_I (zw_I H 91 (H.2.1 72 46).toInt.toNat y) 72 46 (H.2.1 72 46 + Int32.ofInt 1)).2.1 91 i = H.2.1 91 i
    exact (zp_u_ne (f := (zw_I H 91 (H.2.1 72 46).toInt.toNat y).2.1) (p := 72) (k := 46) (q := 91) (i := i) (v := H.2.1 72 46 + Int32.ofInt 1) (fun h9 => absurd h9.1 (by decide))).trans (zp_u_ne (f := H.2.1) (p := 91) (k := (H.2.1 72 46).toInt.toNat) (q := 91) (i := i) (fun h9 => by have := h9.2; omega))
def xV (a : Nat) (W : List Nat) (O : List xIt) (H : zp_H) : Prop := xVn a W (xR2 O) H

theorem yx_isO {L : Nat} {σ : Nat → Int32} {d : Nat} {H : zp_H} {x1 : Int32} {b : Nat} (hb : x1.toInt = (b : Int)) : ∃ X, zp_Call L σ (d + 1) 200 [.inl x1] H X ∧ ∃ v, X = (.inl (some (.inl v)), H) ∧ ((b < 14 ∧ v = Int32.ofInt 0) ∨ (14 ≤ b ∧ v = Int32.ofInt 1)) := by
  refine zw_met zm_200_t rfl rfl ?_
  refine zw_ld (n := 1) (k := 0) (f := zp_isI) (pc' := 1) rfl rfl rfl rfl rfl ?_
  refine zw_s (pc' := 3) rfl rfl ?_
  refine zw_blt2 (g := 10) (pc' := 6) rfl rfl rfl rfl (rfl : _ = (14 : Int)) (fun h1 => ?_) (fun h1 => ?_)
  · refine zw_s (pc' := 11) rfl rfl ?_
    refine zw_rzg rfl rfl (Or.inl rfl) ⟨by decide, by decide⟩ ?_
    exact ⟨Int32.ofInt 0, rfl, Or.inl ⟨by have h1 : x1.toInt < 14 := h1; omega, rfl⟩⟩
  · refine zw_s (pc' := 7) rfl rfl ?_
    refine zw_s (pc' := 11) rfl rfl ?_
    refine zw_rzg rfl rfl (Or.inr rfl) ⟨by decide, by decide⟩ ?_
    exact ⟨Int32.ofInt 1, rfl, Or.inr ⟨by have h1 : 14 ≤ x1.toInt := h1; omega, rfl⟩⟩

theorem yx_str {L : Nat} {σ : Nat → Int32} {d : Nat} {H : zp_H} {x1 : Int32} {b : Nat} (hb : x1.toInt = (b : Int)) : ∃ X, zp_Call L σ (d + 1) 201 [.inl x1] H X ∧ ∃ v : Int32, X = (.inl (some (.inl v)), H) ∧ v.toInt = ((xSg b : Nat) : Int) := by
  refine zw_met zm_201_t rfl rfl ?_
  refine zw_ld (n := 1) (k := 0) (f := zp_isI) (pc' := 1) rfl rfl rfl rfl rfl ?_
  refine zw_s (pc' := 2) rfl rfl ?_
  refine zw_bne2 (g := 9) (pc' := 5) rfl rfl rfl rfl (rfl : _ = (5 : Int)) (fun h0 => ?_) (fun h0 => ?_)
  · refine zw_ld (n := 1) (k := 0) (f := zp_isI) (pc' := 10) rfl rfl rfl rfl rfl ?_
    refine zw_s (pc' := 11) rfl rfl ?_
    refine zw_bne2 (g := 18) (pc' := 14) rfl rfl rfl rfl (rfl : _ = (4 : Int)) (fun h1 => ?_) (fun h1 => ?_)
    · refine zw_ld (n := 1) (k := 0) (f := zp_isI) (pc' := 19) rfl rfl rfl rfl rfl ?_
      refine zw_s (pc' := 20) rfl rfl ?_
      refine zw_bne2 (g := 27) (pc' := 23) rfl rfl rfl rfl (rfl : _ = (3 : Int)) (fun h2 => ?_) (fun h2 => ?_)
      · refine zw_ld (n := 1) (k := 0) (f := zp_isI) (pc' := 28) rfl rfl rfl rfl rfl ?_
        refine zw_s (pc' := 30) rfl rfl ?_
        refine zw_beq2 (g := 39) (pc' := 33) rfl rfl rfl rfl (rfl : _ = (6 : Int)) (fun h3 => ?_) (fun h3 => ?_)
        · refine zw_s (pc' := 40) rfl rfl ?_
          refine zw_s (pc' := 61) rfl rfl ?_
          refine zw_rig rfl rfl ⟨by decide, by decide⟩ ?_
          refine ⟨_, rfl, ?_⟩
          unfold xSg
          repeat (first | rw [if_pos (by omega)] | rw [if_neg (by omega)])
          rfl
        · refine zw_ld (n := 1) (k := 0) (f := zp_isI) (pc' := 34) rfl rfl rfl rfl rfl ?_
          refine zw_s (pc' := 36) rfl rfl ?_
          refine zw_bne2 (g := 43) (pc' := 39) rfl rfl rfl rfl (rfl : _ = (7 : Int)) (fun h4 => ?_) (fun h4 => ?_)
          · refine zw_ld (n := 1) (k := 0) (f := zp_isI) (pc' := 44) rfl rfl rfl rfl rfl ?_
            refine zw_s (pc' := 46) rfl rfl ?_
            refine zw_beq2 (g := 55) (pc' := 49) rfl rfl rfl rfl (rfl : _ = (8 : Int)) (fun h5 => ?_) (fun h5 => ?_)
            · refine zw_s (pc' := 56) rfl rfl ?_
              refine zw_s (pc' := 61) rfl rfl ?_
              refine zw_rig rfl rfl ⟨by decide, by decide⟩ ?_
              refine ⟨_, rfl, ?_⟩
              unfold xSg
              repeat (first | rw [if_pos (by omega)] | rw [if_neg (by omega)])
              rfl
            · refine zw_ld (n := 1) (k := 0) (f := zp_isI) (pc' := 50) rfl rfl rfl rfl rfl ?_
              refine zw_s (pc' := 52) rfl rfl ?_
              refine zw_bne2 (g := 59) (pc' := 55) rfl rfl rfl rfl (rfl : _ = (9 : Int)) (fun h6 => ?_) (fun h6 => ?_)
              · refine zw_s (pc' := 61) rfl rfl ?_
                refine zw_rig rfl rfl ⟨by decide, by decide⟩ ?_
                refine ⟨_, rfl, ?_⟩
                unfold xSg
                repeat (first | rw [if_pos (by omega)] | rw [if_neg (by omega)])
                rfl
              · refine zw_s (pc' := 56) rfl rfl ?_
                refine zw_s (pc' := 61) rfl rfl ?_
                refine zw_rig rfl rfl ⟨by decide, by decide⟩ ?_
                refine ⟨_, rfl, ?_⟩
                unfold xSg
                repeat (first | rw [if_pos (by omega)] | rw [if_neg (by omega)])
                rfl
          · refine zw_s (pc' := 40) rfl rfl ?_
            refine zw_s (pc' := 61) rfl rfl ?_
            refine zw_rig rfl rfl ⟨by decide, by decide⟩ ?_
            refine ⟨_, rfl, ?_⟩
            unfold xSg
            repeat (first | rw [if_pos (by omega)] | rw [if_neg (by omega)])
            rfl
      · refine zw_s (pc' := 24) rfl rfl ?_
        refine zw_s (pc' := 61) rfl rfl ?_
        refine zw_rig rfl rfl ⟨by decide, by decide⟩ ?_
        refine ⟨_, rfl, ?_⟩
        unfold xSg
        repeat (first | rw [if_pos (by omega)] | rw [if_neg (by omega)])
        rfl
    · refine zw_s (pc' := 15) rfl rfl ?_
      refine zw_s (pc' := 61) rfl rfl ?_
      refine zw_rig rfl rfl ⟨by decide, by decide⟩ ?_
      refine ⟨_, rfl, ?_⟩
      unfold xSg
      repeat (first | rw [if_pos (by omega)] | rw [if_neg (by omega)])
      rfl
  · refine zw_s (pc' := 6) rfl rfl ?_
    refine zw_s (pc' := 61) rfl rfl ?_
    refine zw_rig rfl rfl ⟨by decide, by decide⟩ ?_
    refine ⟨_, rfl, ?_⟩
    unfold xSg
    repeat (first | rw [if_pos (by omega)] | rw [if_neg (by omega)])
    rfl

theorem yx_drL {L : Nat} {σ : Nat → Int32} {d : Nat} {P : zp_X → Prop} {a : Nat} {y : Int32} (hy : 0 ≤ y.toInt) : ∀ (W1 : List Nat) (O : List xIt) (H : zp_H) (lv : zp_LV), zw_W H → xV a W1 O H → W1.length ≤ 800 → W1.length + (xR2 O).length + a ≤ 1600 → zp_get lv 0 = some (.inr (.inr (some 73))) → zp_get lv 1 = some (.inl y) → (∀ H1, zw_W H1 → xV a (xDp y.toInt.toNat W1).2 (O ++ (xDp y.toInt.toNat W1).1.map xAc) H1 → P (.inl none, H1)) → zs_Safe L σ P zm_199 [] (d + 2) (0, lv, [], H, (0, 0)) := by
  intro W1
  induction W1 with
  | nil =>
    intro O H lv W hV hw hl l0 l1 hP
    obtain ⟨v1, v2, v3, v4⟩ := id hV
    refine zw_ld (n := 1) (k := 0) (f := zp_isR) (pc' := 1) rfl rfl l0 rfl rfl ?_
    refine zw_gI (q := 72) (pc' := 4) W rfl rfl rfl rfl rfl rfl ?_
    refine zw_ble1 (g := 68) (pc' := 7) rfl rfl rfl rfl (fun h1 => ?_) (fun h1 => ?_)
    · refine zw_rn rfl rfl ?_
      exact hP H W (by show xV a [] (O ++ []) H; rw [List.append_nil]; exact hV)
    · have h1 : 0 < (H.2.1 72 46).toInt := h1
      have v1 : (H.2.1 72 46).toInt = ((0 : Nat) : Int) := v1
      omega
  | cons b W1 ih =>
    intro O H lv W hV hw hl l0 l1 hP
    obtain ⟨v1, v2, v3, v4⟩ := id hV
    refine zw_ld (n := 1) (k := 0) (f := zp_isR) (pc' := 1) rfl rfl l0 rfl rfl ?_
    refine zw_gI (q := 72) (pc' := 4) W rfl rfl rfl rfl rfl rfl ?_
    refine zw_ble1 (g := 68) (pc' := 7) rfl rfl rfl rfl (fun h1 => ?_) (fun h1 => ?_)
    · have h1 : (H.2.1 72 46).toInt ≤ 0 := h1
      have v1 : (H.2.1 72 46).toInt = ((W1.length + 1 : Nat) : Int) := v1
      omega
    · have v1 : (H.2.1 72 46).toInt = ((W1.length + 1 : Nat) : Int) := v1
      have v2 : (H.2.1 91 W1.length).toInt = (b : Int) ∧ 2 ≤ b ∧ xWt (H.2.1 91) W1 := v2
      have hw8 : W1.length + 1 ≤ 800 := hw
      have e1 : (H.2.1 72 46 - Int32.ofInt 1).toInt = (W1.length : Int) := by rw [zw_m1 (by omega)]; omega
      have e2 : (H.2.1 72 46 - Int32.ofInt 1).toInt.toNat = W1.length := by omega
      have v9 : (H.2.1 91 (H.2.1 72 46 - Int32.ofInt 1).toInt.toNat).toInt = (b : Int) := by rw [e2]; exact v2.1
      have hlen : W1.length + 1 + (xR2 O).length + a ≤ 1600 := hl
      obtain ⟨_, i1, vo, rfl, i3⟩ := yx_isO (L := L) (σ := σ) (d := d + 1) (H := H) v9
      obtain ⟨_, s1, vs, rfl, s3⟩ := yx_str (L := L) (σ := σ) (d := d + 1) (H := H) v9
      refine zw_ld (n := 1) (k := 0) (f := zp_isR) (pc' := 8) rfl rfl l0 rfl rfl ?_
      refine zw_gR (q := 72) (pc' := 11) W rfl rfl rfl rfl (W.2 72 60 _ rfl) rfl ?_
      refine zw_ld (n := 1) (k := 0) (f := zp_isR) (pc' := 12) rfl rfl l0 rfl rfl ?_
      refine zw_gI (q := 72) (pc' := 15) W rfl rfl rfl rfl rfl rfl ?_
      refine zw_s (pc' := 16) rfl rfl ?_
      refine zw_isub (pc' := 17) rfl rfl ?_
      refine zw_ia (q := 91) (pc' := 18) W rfl rfl (by decide) (⟨by omega, by show _ < ((800 : Nat) : Int); omega⟩) rfl rfl ?_
      refine zw_c (pc' := 21) (zw_cs (Y := zm_200) rfl rfl zm_200_t) rfl rfl rfl rfl rfl (i1) ?_
      refine zw_bne1 (g := 68) (pc' := 24) rfl rfl rfl rfl (fun h2 => ?_) (fun h2 => ?_)
      · refine zw_rn rfl rfl ?_
        have hn : ¬ (b < 14 ∧ y.toInt.toNat ≤ xSg b) := fun h9 => i3.elim (fun i4 => h2 (by rw [i4.2]; rfl)) (fun i4 => by omega)
        have e : xDp y.toInt.toNat (b :: W1) = ([], b :: W1) := if_neg hn
        exact hP H W (by rw [e]; show xV a (b :: W1) (O ++ []) H; rw [List.append_nil]; exact hV)
      · have hb14 : b < 14 := by
          rcases i3 with ⟨i4, _⟩ | ⟨_, i4⟩
          · exact i4
          · rw [i4] at h2
            exact absurd h2 (by decide)
        refine zw_ld (n := 1) (k := 0) (f := zp_isR) (pc' := 25) rfl rfl l0 rfl rfl ?_
        refine zw_gR (q := 72) (pc' := 28) W rfl rfl rfl rfl (W.2 72 60 _ rfl) rfl ?_
        refine zw_ld (n := 1) (k := 0) (f := zp_isR) (pc' := 29) rfl rfl l0 rfl rfl ?_
        refine zw_gI (q := 72) (pc' := 32) W rfl rfl rfl rfl rfl rfl ?_
        refine zw_s (pc' := 33) rfl rfl ?_
        refine zw_isub (pc' := 34) rfl rfl ?_
        refine zw_ia (q := 91) (pc' := 35) W rfl rfl (by decide) (⟨by omega, by show _ < ((800 : Nat) : Int); omega⟩) rfl rfl ?_
        refine zw_c (pc' := 38) (zw_cs (Y := zm_201) rfl rfl zm_201_t) rfl rfl rfl rfl rfl (s1) ?_
        refine zw_ld (n := 1) (k := 1) (f := zp_isI) (pc' := 39) rfl rfl l1 rfl rfl ?_
        refine zw_blt2 (g := 68) (pc' := 42) rfl rfl rfl rfl rfl (fun h3 => ?_) (fun h3 => ?_)
        · refine zw_rn rfl rfl ?_
          have hn : ¬ (b < 14 ∧ y.toInt.toNat ≤ xSg b) := fun h9 => by have h3 : vs.toInt < y.toInt := h3; omega
          have e : xDp y.toInt.toNat (b :: W1) = ([], b :: W1) := if_neg hn
          exact hP H W (by rw [e]; show xV a (b :: W1) (O ++ []) H; rw [List.append_nil]; exact hV)
        · have h3 : y.toInt ≤ vs.toInt := h3
          have e : xDp y.toInt.toNat (b :: W1) = (b :: (xDp y.toInt.toNat W1).1, (xDp y.toInt.toNat W1).2) := if_pos ⟨hb14, by omega⟩
          have g45 : (zw_I H 72 46 (H.2.1 72 46 - Int32.ofInt 1)).2.1 72 45 = H.2.1 72 45 := zw_ne rfl rfl
          have k1 := xVn_pop (x := H.2.1 72 46 - Int32.ofInt 1) e1 hV
          have k2 := xVn_pt (y := H.2.1 91 (H.2.1 72 46 - Int32.ofInt 1).toInt.toNat) (z := (b : Int)) v9 (by rw [g45, v3]; omega) k1
          have k3 : xV a W1 (O ++ [xAc b]) (zx_pt (zw_I H 72 46 (H.2.1 72 46 - Int32.ofInt 1)) (H.2.1 91 (H.2.1 72 46 - Int32.ofInt 1).toInt.toNat)) := by
            show xVn a W1 (xR2 (O ++ [xAc b])) _
            rw [xR2_a, xR2_ac v2.2.1]
            exact k2
          refine zw_ld (n := 1) (k := 0) (f := zp_isR) (pc' := 43) rfl rfl l0 rfl rfl ?_
          refine zw_s (pc' := 44) rfl rfl ?_
          refine zw_gI (q := 72) (pc' := 47) W rfl rfl rfl rfl rfl rfl ?_
          refine zw_s (pc' := 48) rfl rfl ?_
          refine zw_isub (pc' := 49) rfl rfl ?_
          refine zw_pI (q := 72) (pc' := 52) W rfl rfl rfl rfl rfl rfl ?_
          refine zw_ld (n := 1) (k := 0) (f := zp_isR) (pc' := 53) rfl rfl l0 rfl rfl ?_
          refine zw_ld (n := 1) (k := 0) (f := zp_isR) (pc' := 54) rfl rfl l0 rfl rfl ?_
          refine zw_gR (q := 72) (pc' := 57) (zw_W_I W) rfl rfl rfl rfl ((zw_W_I W).2 72 60 _ rfl) rfl ?_
          refine zw_ld (n := 1) (k := 0) (f := zp_isR) (pc' := 58) rfl rfl l0 rfl rfl ?_
          refine zw_gI (q := 72) (pc' := 61) (zw_W_I W) rfl rfl rfl rfl zw_eq rfl ?_
          refine zw_ia (q := 91) (pc' := 62) (zw_W_I W) rfl rfl (by decide) (⟨by omega, by show _ < ((800 : Nat) : Int); omega⟩) (zw_ne rfl rfl) rfl ?_
          refine zw_cn (pc' := 65) (zw_cv (q := 72) (Y := zm_198) (zw_W_I W).1 rfl rfl zm_198_t rfl rfl) rfl rfl rfl rfl rfl (zq_puts (zw_W_I W) (by rw [g45, v3]; exact ⟨by omega, by omega⟩)) ?_
          refine zw_s (pc' := 0) rfl rfl ?_
          refine ih (O ++ [xAc b]) _ _ (zw_W_I (zw_W_I (zw_W_I W))) k3 (by omega) (by rw [xR2_a, List.length_append, xR2_ac v2.2.1]; show W1.length + ((xR2 O).length + 1) + a ≤ 1600; omega) l0 l1 (fun H1 w1 w2 => hP H1 w1 ?_)
          rw [e]
          show xV a (xDp y.toInt.toNat W1).2 (O ++ (xAc b :: (xDp y.toInt.toNat W1).1.map xAc)) H1
          rw [show O ++ (xAc b :: (xDp y.toInt.toNat W1).1.map xAc) = (O ++ [xAc b]) ++ (xDp y.toInt.toNat W1).1.map xAc by rw [List.append_assoc]; rfl]
          exact w2

theorem yx_drops {L : Nat} {σ : Nat → Int32} {d : Nat} {H : zp_H} {a : Nat} {x1 : Int32} {W1 : List Nat} {O : List xIt} (hy : 0 ≤ x1.toInt) (W : zw_W H) (hV : xV a W1 O H) (hw : W1.length ≤ 800) (hl : W1.length + (xR2 O).length + a ≤ 1600) : ∃ X, zp_Call L σ (d + 3) 199 [.inr (.inr (some 73)), .inl x1] H X ∧ ∃ H1, X = (.inl none, H1) ∧ zw_W H1 ∧ xV a (xDp x1.toInt.toNat W1).2 (O ++ (xDp x1.toInt.toNat W1).1.map xAc) H1 := by
  refine zw_met zm_199_t rfl rfl ?_
  exact yx_drL hy W1 O H _ W hV hw hl rfl rfl (fun H1 w1 w2 => ⟨H1, rfl, w1, w2⟩)

/-- reading on leaves waits and row -/
theorem xV_goes {L : Nat} {σ : Nat → Int32} {d a : Nat} {W : List Nat} {O : List xIt} {H H1 : zp_H} (hB : zk_Bs zR zg zJ H) (c : zp_Call L σ (d + 2) 171 [.inr (.inr (some 73))] H (.inl none, H1)) (h : xV a W O H) : xV a W O H1 := by
  obtain ⟨K, k1, k2, k3, -⟩ := zx_goes (L := L) (σ := σ) (d := d) hB
  have e := zp_Call_u c k1
  cases e
  exact xVn_c (zI_in k3 (p := 72) (k := 46) rfl rfl (fun h9 => absurd h9.2 (by decide))).1 (zx_ae k3 91 (fun k => rfl) rfl rfl) (zI_in k3 (p := 72) (k := 45) rfl rfl (fun h9 => absurd h9.2 (by decide))).1 (zx_ae k3 90 (fun k => rfl) rfl rfl) h
/-- as yR, and what the reference put out and holds back between two heaps -/
def xTr (T : Nat → Int) (n : Nat) (s s' : yM) (H0 H1 : zp_H) : Prop := ∀ (a : Nat) (W : List Nat) (O : List xIt), xV a W O H0 → ∃ W' O', xV a W' O' H1 ∧ yTR T n s W O s' W' O'
def xRR (T : Nat → Int) (n : Nat) (s s' : yM) (H0 H1 : zp_H) : Prop := yR T n s s' ∧ xTr T n s s' H0 H1
theorem xRR_r {T : Nat → Int} {n : Nat} {s : yM} {H : zp_H} : xRR T n s s H H := ⟨yR_r, fun a W O h => ⟨W, O, h, yTR_r⟩⟩
theorem xRR_t {T : Nat → Int} {n : Nat} {s1 s2 s3 : yM} {H1 H2 H3 : zp_H} (h : xRR T n s1 s2 H1 H2) (h' : xRR T n s2 s3 H2 H3) : xRR T n s1 s3 H1 H3 := ⟨yR_t h.1 h'.1, fun a W O k => by
  obtain ⟨W', O', k1, k2⟩ := h.2 a W O k
  obtain ⟨W2, O2, k3, k4⟩ := h'.2 a W' O' k1
  exact ⟨W2, O2, k3, yTR_t k2 k4⟩⟩
/-- a step of the machine, done by the reference -/
theorem xRR_s {T : Nat → Int} {n : Nat} {s s' : yM} {H0 H1 : zp_H} (hN : yN T n s = .inl s') (h : ∀ (a : Nat) (W : List Nat) (O : List xIt), xV a W O H0 → xV a (xWO T n s.1 s.2.2 W O).1 (xWO T n s.1 s.2.2 W O).2 H1) : xRR T n s s' H0 H1 := ⟨yR_s hN, fun a W O k => ⟨_, _, h a W O k, yTR_s hN⟩⟩
theorem xRR_e {T : Nat → Int} {n k p : Nat} {lv : List Bool} {H : zp_H} (h : ¬ (ys_kd T n p = 3 ∧ ys_vl T n p = 10)) : xRR T n (2 + k, lv, p) (1, lv, p) H H := ⟨yR_e (yN_nn h), fun a W O v => ⟨W, O, v, yTR_nn h⟩⟩

theorem xR2_2 {O : List xIt} {k : Nat} {v : Int} (hk : k < 2) : xR2 (O ++ [(k, v)]) = xR2 O ++ [(k : Int) + 1] ++ [v] := by
  rw [xR2_a, List.append_assoc]
  show xR2 O ++ ((if k < 2 then [(k : Int) + 1, v] else [(k : Int)]) ++ []) = xR2 O ++ ([(k : Int) + 1] ++ [v])
  rw [if_pos hk]
  rfl
/-- a part: two are put -/
theorem xV_2 {a k : Nat} {W : List Nat} {O : List xIt} {H : zp_H} {c y : Int32} {v : Int} (hk : k < 2) (hc : c.toInt = (k : Int) + 1) (hy : y.toInt = v) (h16 : (H.2.1 72 45).toInt < 1599) (h : xV a W O H) : xV a W (O ++ [(k, v)]) (zx_pt (zx_pt H c) y) := by
  show xVn a W (xR2 (O ++ [(k, v)])) _
  rw [xR2_2 hk]
  exact xVn_pt hy (by rw [zx_pt_t (by omega)]; omega) (xVn_pt hc (by omega) h)
theorem xV_92 {a j : Nat} {W : List Nat} {O : List xIt} {H : zp_H} {x : Int32} (h : xV a W O H) : xV a W O (zw_I H 92 j x) := xVn_c (zw_ne rfl rfl) (funext fun i => zw_ne rfl rfl) (zw_ne rfl rfl) (funext fun i => zw_ne rfl rfl) h
theorem xV_47 {a : Nat} {W : List Nat} {O : List xIt} {H : zp_H} {x : Int32} (h : xV a W O H) : xV a W O (zw_I H 72 47 x) := xVn_c (zw_ne rfl rfl) (funext fun i => zw_ne rfl rfl) (zw_ne rfl rfl) (funext fun i => zw_ne rfl rfl) h
theorem xV_dr {L : Nat} {σ : Nat → Int32} {d a a9 o l : Nat} {W1 : List Nat} {O : List xIt} {H Q : zp_H} {y : Int32} (hS : zx_S a9 1 o H) (hl : y.toInt = (l : Int)) (c : zp_Call L σ (d + 3) 199 [.inr (.inr (some 73)), .inl y] H (.inl none, Q)) (h : xV a W1 O H) : xV a (xDp l W1).2 (O ++ (xDp l W1).1.map xAc) Q := by
  have h1 := h.1
  have h3 := h.2.2.1
  have s1 := hS.2.1
  have s2 := hS.2.2.1
  obtain ⟨_, k1, K, rfl, k2, k3⟩ := yx_drops (L := L) (σ := σ) (d := d) (x1 := y) (by omega) (zR_Wd (zR_dn hS.1)) h (by omega) (by omega)
  have e := zp_Call_u c k1
  cases e
  rw [show y.toInt.toNat = l by omega] at k3
  exact k3
/-- an act between two operands: drops, waits, reads on -/
theorem xRR_op {L : Nat} {σ : Nat → Int32} {T : Nat → Int} {n d e9 a9 o l act p : Nat} {lv : List Bool} {s1 : yM} {H Q G K : zp_H} {y z : Int32} (hS : zx_S a9 1 o H) (hl : y.toInt = (l : Int)) (c1 : zp_Call L σ (d + 3) 199 [.inr (.inr (some 73)), .inl y] H (.inl none, Q)) (hz : z.toInt = (act : Int)) (ha : 2 ≤ act) (h8 : (Q.2.1 72 46).toInt < 800) (hG : ∀ a W O, xV a W O (zx_wt Q z) → xV a W O G) (hB : zk_Bs zR zg zJ G) (c2 : zp_Call L σ (e9 + 2) 171 [.inr (.inr (some 73))] G (.inl none, K)) (hN : yN T n (0, lv, p) = .inl s1) (hw : ∀ W O, xWO T n 0 p W O = xPs l act W O) : xRR T n (0, lv, p) s1 H K := xRR_s hN (fun a W O k => by
  show xV a (xWO T n 0 p W O).1 (xWO T n 0 p W O).2 K
  rw [hw]
  exact xV_goes hB c2 (hG _ _ _ (xVn_wt hz ha h8 (xV_dr hS hl c1 k))))

theorem yx_dp {L : Nat} {σ : Nat → Int32} {d : Nat} {H : zp_H} (W : zw_W H) (h : 0 ≤ (H.2.1 72 47).toInt ∧ (H.2.1 72 47).toInt < 6) : zp_Call L σ (d + 1) 193 [.inr (.inr (some 73))] H (.inl none, zw_I (zw_I H 72 47 (H.2.1 72 47 + Int32.ofInt 1)) 92 (H.2.1 72 47 + Int32.ofInt 1).toInt.toNat (zp_nar 2 (Int32.ofInt 0))) := by
  have e1 : (H.2.1 72 47 + Int32.ofInt 1).toInt = (H.2.1 72 47).toInt + 1 := zw_p1 (by omega)
  refine zw_ex (zw_met zm_193_t rfl rfl ?_)
  refine zw_ld (n := 1) (k := 0) (f := zp_isR) (pc' := 1) rfl rfl rfl rfl rfl ?_
  refine zw_gI (q := 72) (pc' := 4) W rfl rfl rfl rfl rfl rfl ?_
  refine zw_s (pc' := 6) rfl rfl ?_
  refine zw_bge2 (g := 30) (pc' := 9) rfl rfl rfl rfl (rfl : _ = (6 : Int)) (fun h1 => ?_) (fun h1 => ?_)
  · have h1 : 6 ≤ (H.2.1 72 47).toInt := h1
    omega
  · refine zw_ld (n := 1) (k := 0) (f := zp_isR) (pc' := 10) rfl rfl rfl rfl rfl ?_
    refine zw_s (pc' := 11) rfl rfl ?_
    refine zw_gI (q := 72) (pc' := 14) W rfl rfl rfl rfl rfl rfl ?_
    refine zw_s (pc' := 15) rfl rfl ?_
    refine zw_iadd (pc' := 16) rfl rfl ?_
    refine zw_pI (q := 72) (pc' := 19) W rfl rfl rfl rfl rfl rfl ?_
    refine zw_ld (n := 1) (k := 0) (f := zp_isR) (pc' := 20) rfl rfl rfl rfl rfl ?_
    refine zw_gR (q := 72) (pc' := 23) (zw_W_I W) rfl rfl rfl rfl ((zw_W_I W).2 72 61 _ rfl) rfl ?_
    refine zw_ld (n := 1) (k := 0) (f := zp_isR) (pc' := 24) rfl rfl rfl rfl rfl ?_
    refine zw_gI (q := 72) (pc' := 27) (zw_W_I W) rfl rfl rfl rfl zw_eq rfl ?_
    refine zw_s (pc' := 28) rfl rfl ?_
    refine zw_bs (q := 92) (pc' := 29) (zw_W_I W) rfl rfl (by decide) (⟨by omega, by show _ < ((9 : Nat) : Int); omega⟩) rfl ?_
    refine zw_rn rfl rfl ?_
    rfl

theorem xV_deep {L : Nat} {σ : Nat → Int32} {d a : Nat} {W1 : List Nat} {O : List xIt} {H H1 : zp_H} (W : zw_W H) (hd : 0 ≤ (H.2.1 72 47).toInt ∧ (H.2.1 72 47).toInt < 6) (c : zp_Call L σ (d + 1) 193 [.inr (.inr (some 73))] H (.inl none, H1)) (h : xV a W1 O H) : xV a W1 O H1 := by
  have e := zp_Call_u c (yx_dp (d := d) W hd)
  cases e
  exact xV_92 (xV_47 h)
end
section
/-! ===== the reference reads a part, exactly ===== -/

theorem yx_deeper {L : Nat} {σ : Nat → Int32} {d a : Nat} {T : Nat → Int} {n p : Nat} {lv : List Bool} {H : zp_H} (hby : ∀ k, k < n → -128 ≤ T k ∧ T k ≤ 127) {e : Nat} (h : zx_S a e 1 H) (hg : (H.2.1 72 23).toInt = 0) (hV : yV T n lv p H) : ∃ X, zp_Call L σ (d + 3) 193 [.inr (.inr (some 73))] H X ∧ ∃ H1, X = (.inl none, H1) ∧ zx_S a e 0 H1 ∧ zx_F a H H1 ∧ zx_phi H1 = zx_phi H ∧ (H1.2.1 72 45).toInt = (H.2.1 72 45).toInt ∧ (((H1.2.1 72 23).toInt = 0 ∧ lv.length < 6 ∧ yV T n (false :: lv) p H1) ∨ (¬ lv.length < 6 ∧ yD T n (if yB T n p then 2 else 1, p) H1)) := by
  have W := zR_Wd (zR_dn h.1)
  have hd := zR_fr1 (zR_dn h.1) (k := 47) (r := (0, 6)) rfl rfl
  have hd : 0 ≤ (H.2.1 72 47).toInt ∧ (H.2.1 72 47).toInt ≤ 6 := hd
  have hdl := hV.2.2.2.1
  have e1 : (H.2.1 72 47 + Int32.ofInt 1).toInt = (H.2.1 72 47).toInt + 1 := zw_p1 (by omega)
  have s28 := hV.2.1.2.2.1
  refine zw_met zm_193_t rfl rfl ?_
  refine zw_ld (n := 1) (k := 0) (f := zp_isR) (pc' := 1) rfl rfl rfl rfl rfl ?_
  refine zw_gI (q := 72) (pc' := 4) W rfl rfl rfl rfl rfl rfl ?_
  refine zw_s (pc' := 6) rfl rfl ?_
  refine zw_bge2 (g := 30) (pc' := 9) rfl rfl rfl rfl (rfl : _ = (6 : Int)) (fun hb => ?_) (fun hb => ?_)
  · refine zw_ld (n := 1) (k := 0) (f := zp_isR) (pc' := 31) rfl rfl rfl rfl rfl ?_
    refine zw_ld (n := 1) (k := 0) (f := zp_isR) (pc' := 32) rfl rfl rfl rfl rfl ?_
    refine zw_gI (q := 72) (pc' := 35) W rfl rfl rfl rfl rfl rfl ?_
    refine zw_s (pc' := 36) rfl rfl ?_
    refine zw_beq2 (g := 56) (pc' := 39) rfl rfl rfl rfl (rfl : _ = (2 : Int)) (fun h1 => ?_) (fun h1 => ?_)
    · refine zw_s (pc' := 57) rfl rfl ?_
      refine zw_s (pc' := 61) rfl rfl ?_
      obtain ⟨H1, c1, c2, c3, c4, c5, c6, c7⟩ := zx_wrong (L := L) (σ := σ) (d := d + 1) (y := Int32.ofInt 2) h (by decide)
      refine zw_cn (pc' := 64) (zw_cv (q := 72) (Y := zm_180) W.1 rfl rfl zm_180_t rfl rfl) rfl rfl rfl rfl rfl (c1) ?_
      refine zw_rn rfl rfl ?_
      have hw := yx_wrong h.1 hg hV (by decide) c1
      exact ⟨H1, rfl, c3 _ _, c4, c7, c5, Or.inr ⟨by omega, by rw [if_pos (show yB T n p from Or.inl (yr_s_2.mp (s28.symm.trans h1)))]; exact hw⟩⟩
    · refine zw_ld (n := 1) (k := 0) (f := zp_isR) (pc' := 40) rfl rfl rfl rfl rfl ?_
      refine zw_gI (q := 72) (pc' := 43) W rfl rfl rfl rfl rfl rfl ?_
      refine zw_s (pc' := 44) rfl rfl ?_
      refine zw_beq2 (g := 56) (pc' := 47) rfl rfl rfl rfl (rfl : _ = (1 : Int)) (fun h2 => ?_) (fun h2 => ?_)
      · refine zw_s (pc' := 57) rfl rfl ?_
        refine zw_s (pc' := 61) rfl rfl ?_
        obtain ⟨H1, c1, c2, c3, c4, c5, c6, c7⟩ := zx_wrong (L := L) (σ := σ) (d := d + 1) (y := Int32.ofInt 2) h (by decide)
        refine zw_cn (pc' := 64) (zw_cv (q := 72) (Y := zm_180) W.1 rfl rfl zm_180_t rfl rfl) rfl rfl rfl rfl rfl (c1) ?_
        refine zw_rn rfl rfl ?_
        have hw := yx_wrong h.1 hg hV (by decide) c1
        exact ⟨H1, rfl, c3 _ _, c4, c7, c5, Or.inr ⟨by omega, by rw [if_pos (show yB T n p from Or.inr (Or.inl (yr_s_3.mp (s28.symm.trans h2))))]; exact hw⟩⟩
      · refine zw_ld (n := 1) (k := 0) (f := zp_isR) (pc' := 48) rfl rfl rfl rfl rfl ?_
        refine zw_s (pc' := 50) rfl rfl ?_
        by_cases h3 : (H.2.1 72 28).toInt = 3 ∧ (H.2.1 72 32).toInt = (Int32.ofInt 40).toInt
        · refine zw_c (pc' := 53) (zw_cv (q := 72) (Y := zm_194) W.1 rfl rfl zm_194_t rfl rfl) rfl rfl rfl rfl rfl (zq_sign1 W h3) ?_
          refine zw_beq1 (g := 60) (pc' := 56) rfl rfl rfl (rfl : _ = (1 : Int)) (fun h9 => absurd h9 (by decide)) (fun hb => ?_)
          refine zw_s (pc' := 57) rfl rfl ?_
          refine zw_s (pc' := 61) rfl rfl ?_
          obtain ⟨H1, c1, c2, c3, c4, c5, c6, c7⟩ := zx_wrong (L := L) (σ := σ) (d := d + 1) (y := Int32.ofInt 2) h (by decide)
          refine zw_cn (pc' := 64) (zw_cv (q := 72) (Y := zm_180) W.1 rfl rfl zm_180_t rfl rfl) rfl rfl rfl rfl rfl (c1) ?_
          refine zw_rn rfl rfl ?_
          have hw := yx_wrong h.1 hg hV (by decide) c1
          exact ⟨H1, rfl, c3 _ _, c4, c7, c5, Or.inr ⟨by omega, by rw [if_pos (show yB T n p from Or.inr (Or.inr ((yr_sg hV.2.1 (c := 40)).mp h3)))]; exact hw⟩⟩
        · refine zw_c (pc' := 53) (zw_cv (q := 72) (Y := zm_194) W.1 rfl rfl zm_194_t rfl rfl) rfl rfl rfl rfl rfl (zq_sign0 W h3) ?_
          refine zw_beq1 (g := 60) (pc' := 56) rfl rfl rfl (rfl : _ = (0 : Int)) (fun hb => ?_) (fun h9 => absurd h9 (by decide))
          refine zw_s (pc' := 61) rfl rfl ?_
          have hnB : ¬ yB T n p := by
            rintro (h9 | h9 | h9)
            · exact h1 (s28.trans (yr_s_2.mpr h9))
            · exact h2 (s28.trans (yr_s_3.mpr h9))
            · exact h3 ((yr_sg hV.2.1 (c := 40)).mpr h9)
          obtain ⟨H1, c1, c2, c3, c4, c5, c6, c7⟩ := zx_wrong (L := L) (σ := σ) (d := d + 1) (y := Int32.ofInt 1) h (by decide)
          refine zw_cn (pc' := 64) (zw_cv (q := 72) (Y := zm_180) W.1 rfl rfl zm_180_t rfl rfl) rfl rfl rfl rfl rfl (c1) ?_
          refine zw_rn rfl rfl ?_
          have hw := yx_wrong h.1 hg hV (by decide) c1
          exact ⟨H1, rfl, c3 _ _, c4, c7, c5, Or.inr ⟨by omega, by rw [if_neg hnB]; exact hw⟩⟩
  · refine zw_ld (n := 1) (k := 0) (f := zp_isR) (pc' := 10) rfl rfl rfl rfl rfl ?_
    refine zw_s (pc' := 11) rfl rfl ?_
    refine zw_gI (q := 72) (pc' := 14) W rfl rfl rfl rfl rfl rfl ?_
    refine zw_s (pc' := 15) rfl rfl ?_
    refine zw_iadd (pc' := 16) rfl rfl ?_
    refine zw_pI (q := 72) (pc' := 19) W rfl rfl rfl rfl rfl rfl ?_
    refine zw_ld (n := 1) (k := 0) (f := zp_isR) (pc' := 20) rfl rfl rfl rfl rfl ?_
    refine zw_gR (q := 72) (pc' := 23) W rfl rfl rfl rfl (W.2 72 61 _ rfl) rfl ?_
    refine zw_ld (n := 1) (k := 0) (f := zp_isR) (pc' := 24) rfl rfl rfl rfl rfl ?_
    refine zw_gI (q := 72) (pc' := 27) W rfl rfl rfl rfl zw_eq rfl ?_
    refine zw_s (pc' := 28) rfl rfl ?_
    refine zw_bs (q := 92) (pc' := 29) W rfl rfl (by decide) (⟨by rw [e1]; omega, by rw [e1]; omega⟩) rfl ?_
    refine zw_rn rfl rfl ?_
    refine ⟨_, rfl, zx_deep h (by omega), ⟨zk_Fr_I (zk_Fr_I (zk_Fr_r H) rfl rfl) rfl rfl, fun i hi => zw_ne (zw_ne rfl rfl) rfl⟩, zx_phi_e (zw_ne (zw_ne rfl rfl) rfl) (zw_ne (zw_ne rfl rfl) rfl), congrArg Int32.toInt (zw_ne (zw_ne rfl rfl) rfl), Or.inl ⟨?_, by omega, ?_⟩⟩
    · exact (congrArg Int32.toInt (zw_ne (zw_ne rfl rfl) rfl)).trans hg
    · have ej : (H.2.1 72 47 + Int32.ofInt 1).toInt.toNat = lv.length + 1 := by omega
      rw [ej]
      refine ⟨yr_T_I (yr_T_I hV.1 rfl) rfl, yr_k_c (fun k hk => zw_ne (zw_ne rfl ?_) rfl) rfl hV.2.1, hV.2.2.1, ?_, ?_, ?_⟩
      · rcases (show k = 27 ∨ k = 28 ∨ k = 29 ∨ k = 30 ∨ k = 31 ∨ k = 32 by omega) with rfl | rfl | rfl | rfl | rfl | rfl <;> rfl
      · refine (congrArg Int32.toInt (zw_ne zw_eq rfl)).trans ?_
        rw [e1, List.length_cons]
        omega
      · exact (congrArg Int32.toInt zw_eq).trans (by decide)
      · refine yt_u (m := lv.length) (fun k hk => zw_ne (zw_ne rfl rfl) ?_) (Nat.le_refl _) hV.2.2.2.2
        have hkk : Nat.beq k (lv.length + 1) = false := by
          cases h9 : Nat.beq k (lv.length + 1) with
          | false => rfl
          | true => exact absurd (Nat.eq_of_beq_eq_true h9) (by omega)
        rw [hkk]
        rfl

theorem yV_pt {T : Nat → Int} {n p : Nat} {lv : List Bool} {H : zp_H} {c : Int32} (h : yV T n lv p H) : yV T n lv p (zx_pt H c) := by
  refine ⟨yr_T_c (zx_pt_f 26 rfl) ?_ (zx_pt_f 23 rfl) (zx_pt_f 24 rfl) h.1, yr_k_c (fun k hk => zx_pt_f k ?_) rfl h.2.1, h.2.2.1, ?_, yt_c ?_ h.2.2.2.2⟩
  · funext i
    exact zw_ne (zw_ne rfl rfl) rfl
  · rcases (show k = 27 ∨ k = 28 ∨ k = 29 ∨ k = 30 ∨ k = 31 ∨ k = 32 by omega) with rfl | rfl | rfl | rfl | rfl | rfl <;> rfl
  · rw [zx_pt_f 47 rfl]
    exact h.2.2.2.1
  · funext i
    exact zw_ne (zw_ne rfl rfl) rfl
theorem yD_pt {T : Nat → Int} {n : Nat} {r : Int × Nat} {H : zp_H} {c : Int32} (h : yD T n r H) : yD T n r (zx_pt H c) := by
  refine ⟨yr_T_c (zx_pt_f 26 rfl) ?_ (zx_pt_f 23 rfl) (zx_pt_f 24 rfl) h.1, ?_, h.2.2.1, ?_⟩
  · funext i
    exact zw_ne (zw_ne rfl rfl) rfl
  · rw [zx_pt_f 23 rfl]
    exact h.2.1
  · rw [zx_pt_f 24 rfl]
    exact h.2.2.2
/-- behind something that reads from s on -/
def yO (T : Nat → Int) (n : Nat) (s : yM) (H0 H1 : zp_H) : Prop := ((H1.2.1 72 23).toInt = 0 ∧ ∃ lv' q, lv' ≠ [] ∧ yV T n lv' q H1 ∧ xRR T n s (0, lv', q) H0 H1) ∨ (∃ r, yD T n r H1 ∧ yA T n s r)
theorem yO_R {T : Nat → Int} {n : Nat} {s s' : yM} {H0 H H1 : zp_H} (hR : xRR T n s s' H0 H) (h : yO T n s' H H1) : yO T n s H0 H1 := by
  rcases h with ⟨h1, lv', q, h2, h3, h4⟩ | ⟨r, h1, h2⟩
  · exact Or.inl ⟨h1, lv', q, h2, h3, xRR_t hR h4⟩
  · exact Or.inr ⟨r, h1, hR.1 r h2⟩

theorem yw_m8 {v : Int} (h : 0 ≤ v ∧ v ≤ 21) : (v < 8 ∧ yw_m v = v) ∨ (8 ≤ v ∧ (yw_m v = -1 ∨ 8 ≤ yw_m v)) := by
  obtain ⟨j, hj, rfl⟩ : ∃ j : Nat, j < 22 ∧ v = (j : Int) := ⟨v.toNat, by omega, by omega⟩
  revert j
  decide
theorem yx_part {L : Nat} {σ : Nat → Int32} {d a : Nat} {T : Nat → Int} {n p : Nat} {lv : List Bool} {H : zp_H} (hby : ∀ k, k < n → -128 ≤ T k ∧ T k ≤ 127) (hK : zx_KW L σ) (h : zx_S a 0 0 H) (ha : (a : Int) ≤ (H.2.1 72 45).toInt) (hg : (H.2.1 72 23).toInt = 0) (hV : yV T n lv p H) (hlv : lv ≠ []) (h40 : ¬ (ys_kd T n p = 4 ∧ ys_vl T n p = 40)) : ∃ X, zp_Call L σ (d + 5) 197 [.inr (.inr (some 73))] H X ∧ ∃ H1, X = (.inl none, H1) ∧ zx_S a 1 0 H1 ∧ zx_F a H H1 ∧ ((H1.2.1 72 23).toInt = 0 → zx_phi H + 2 ≤ zx_phi H1) ∧ (a : Int) ≤ (H1.2.1 72 45).toInt ∧ zx_phi H ≤ zx_phi H1 ∧ yO T n (1, lv, p) H H1 := by
  have W := zR_Wd (zR_dn h.1)
  obtain ⟨t0, w0⟩ := zx_top h
  have p1 := zx_phi_le h.1
  have s28 := hV.2.1.2.2.1
  refine zw_met zm_197_t rfl rfl ?_
  refine zw_ld (n := 1) (k := 0) (f := zp_isR) (pc' := 1) rfl rfl rfl rfl rfl ?_
  refine zw_c (pc' := 4) (zw_cv (q := 72) (Y := zm_175) W.1 rfl rfl zm_175_t rfl rfl) rfl rfl rfl rfl rfl (zq_good1 W hg) ?_
  have g1 := (h.2.2.2 hg).1
  refine zw_bne1 (g := 8) (pc' := 7) rfl rfl rfl (rfl : _ = (1 : Int)) (fun hb => ?_) (fun h9 => absurd h9 (by decide))
  refine zw_ld (n := 1) (k := 0) (f := zp_isR) (pc' := 9) rfl rfl rfl rfl rfl ?_
  refine zw_gI (q := 72) (pc' := 12) W rfl rfl rfl rfl rfl rfl ?_
  refine zw_s (pc' := 13) rfl rfl ?_
  refine zw_bne2 (g := 45) (pc' := 16) rfl rfl rfl rfl (rfl : _ = (2 : Int)) (fun h1 => ?_) (fun h1 => ?_)
  · refine zw_ld (n := 1) (k := 0) (f := zp_isR) (pc' := 46) rfl rfl rfl rfl rfl ?_
    refine zw_gI (q := 72) (pc' := 49) W rfl rfl rfl rfl rfl rfl ?_
    refine zw_s (pc' := 50) rfl rfl ?_
    refine zw_bne2 (g := 86) (pc' := 53) rfl rfl rfl rfl (rfl : _ = (1 : Int)) (fun h2 => ?_) (fun h2 => ?_)
    · obtain ⟨K, c1, c2, c3, c4, c5, c6, c7⟩ := zx_wrong (L := L) (σ := σ) (d := d + 3) (y := Int32.ofInt 1) h (by decide)
      have WK := zR_Wd (zR_dn (c3 0 0).1)
      have hw := yx_wrong h.1 hg hV (by decide) c1
      have hN := yN_un (T := T) (n := n) (p := p) (lv := lv) h40 (fun h9 => h1 (s28.trans (yr_s_2.mpr h9))) (fun h9 => h2 (s28.trans (yr_s_3.mpr h9)))
      refine zw_ld (n := 1) (k := 0) (f := zp_isR) (pc' := 87) rfl rfl rfl rfl rfl ?_
      refine zw_s (pc' := 88) rfl rfl ?_
      refine zw_cn (pc' := 91) (zw_cv (q := 72) (Y := zm_180) W.1 rfl rfl zm_180_t rfl rfl) rfl rfl rfl rfl rfl (c1) ?_
      refine zw_ld (n := 1) (k := 0) (f := zp_isR) (pc' := 92) rfl rfl rfl rfl rfl ?_
      refine zw_c (pc' := 95) (zw_cv (q := 72) (Y := zm_175) WK.1 rfl rfl zm_175_t rfl rfl) rfl rfl rfl rfl rfl (zq_good0 (H := K) WK c2) ?_
      refine zw_beq1 (g := 102) (pc' := 98) rfl rfl rfl (rfl : _ = (0 : Int)) (fun hb => ?_) (fun h9 => absurd h9 (by decide))
      refine zw_rn rfl rfl ?_
      exact ⟨K, rfl, c3 1 0, c4, fun h9 => absurd h9 c2, by omega, by omega, Or.inr ⟨_, hw, yA_done hN⟩⟩
    · refine zw_ld (n := 1) (k := 0) (f := zp_isR) (pc' := 54) rfl rfl rfl rfl rfl ?_
      obtain ⟨v, v1, v2⟩ := hK d H h.1
      have v3 := zg_in H
      have v3 : -1 ≤ zg H ∧ zg H ≤ 20 := v3
      have k3 : ys_kd T n p = 3 := yr_s_3.mp (s28.symm.trans h2)
      have hN := yN_wo (T := T) (n := n) (p := p) (lv := lv) k3
      have hz := yr_zg hV.2.2.1 hV.2.1
      rw [if_pos k3] at hz
      have hvb := ys_vl_b k3
      have hm := yw_m8 hvb
      refine zw_c (pc' := 57) (zw_cv (q := 72) (Y := zm_177) W.1 rfl rfl zm_177_t rfl rfl) rfl rfl rfl rfl rfl (v1) ?_
      refine zw_st (n := 1) (k := 1) (f := zp_isI) (pc' := 58) rfl rfl rfl rfl rfl ?_
      refine zw_ld (n := 1) (k := 1) (f := zp_isI) (pc' := 59) rfl rfl zw_g1 rfl rfl ?_
      refine zw_blt1 (g := 68) (pc' := 62) rfl rfl rfl rfl (fun h3 => ?_) (fun h3 => ?_)
      · rw [if_neg (by omega)] at hN
        refine zw_ld (n := 1) (k := 0) (f := zp_isR) (pc' := 69) rfl rfl (zw_gt rfl rfl rfl) rfl rfl ?_
        refine zw_s (pc' := 70) rfl rfl ?_
        obtain ⟨K, c1, c2, c3, c4, c5, c6, c7⟩ := zx_wrong (L := L) (σ := σ) (d := d + 3) (y := Int32.ofInt 3) h (by decide)
        have WK := zR_Wd (zR_dn (c3 0 0).1)
        obtain ⟨u0, u1⟩ := zx_top (c3 0 0)
        have hw := yx_wrong h.1 hg hV (by decide) c1
        refine zw_cn (pc' := 73) (zw_cv (q := 72) (Y := zm_180) W.1 rfl rfl zm_180_t rfl rfl) rfl rfl rfl rfl rfl (c1) ?_
        refine zw_ld (n := 1) (k := 0) (f := zp_isR) (pc' := 74) rfl rfl (zw_gt rfl rfl rfl) rfl rfl ?_
        refine zw_s (pc' := 75) rfl rfl ?_
        refine zw_cn (pc' := 78) (zw_cv (q := 72) (Y := zm_198) WK.1 rfl rfl zm_198_t rfl rfl) rfl rfl rfl rfl rfl (zq_puts (H := K) WK ⟨u0, by show _ < ((1600 : Nat) : Int); omega⟩) ?_
        have e1 : ((zx_pt K (Int32.ofInt 2)).2.1 72 45).toInt = (K.2.1 72 45).toInt + 1 := zx_pt_t (by omega)
        refine zw_ld (n := 1) (k := 0) (f := zp_isR) (pc' := 79) rfl rfl (zw_gt rfl rfl rfl) rfl rfl ?_
        refine zw_ld (n := 1) (k := 1) (f := zp_isI) (pc' := 80) rfl rfl zw_g1 rfl rfl ?_
        refine zw_cn (pc' := 83) (zw_cv (q := 72) (Y := zm_198) WK.1 rfl rfl zm_198_t rfl rfl) rfl rfl rfl rfl rfl (zq_puts (H := zx_pt K (Int32.ofInt 2)) WK ⟨by omega, by show _ < ((1600 : Nat) : Int); omega⟩) ?_
        have hS : ∀ e o, zx_S a e o (zx_pt (zx_pt K (Int32.ofInt 2)) (v)) := fun e o => zx_pp_b (c3 0 0) c2 (by omega)
        have hb9 : ((zx_pt (zx_pt K (Int32.ofInt 2)) (v)).2.1 72 23).toInt ≠ 0 := by rw [zx_pt_f 23 rfl, zx_pt_f 23 rfl]; exact c2
        refine zw_s (pc' := 91) rfl rfl ?_
        refine zw_ld (n := 1) (k := 0) (f := zp_isR) (pc' := 92) rfl rfl (zw_gt rfl rfl rfl) rfl rfl ?_
        refine zw_c (pc' := 95) (zw_cv (q := 72) (Y := zm_175) WK.1 rfl rfl zm_175_t rfl rfl) rfl rfl rfl rfl rfl (zq_good0 (H := zx_pt (zx_pt K (Int32.ofInt 2)) (v)) WK hb9) ?_
        refine zw_beq1 (g := 102) (pc' := 98) rfl rfl rfl (rfl : _ = (0 : Int)) (fun hb => ?_) (fun h9 => absurd h9 (by decide))
        refine zw_rn rfl rfl ?_
        have hp : zx_phi (zx_pt (zx_pt K (Int32.ofInt 2)) (v)) = zx_phi K := by
          unfold zx_phi
          rw [zx_pt_f 27 rfl, zx_pt_f 28 rfl, zx_pt_f 27 rfl, zx_pt_f 28 rfl]
        have e2 : ((zx_pt (zx_pt K (Int32.ofInt 2)) (v)).2.1 72 45).toInt = ((zx_pt K (Int32.ofInt 2)).2.1 72 45).toInt + 1 := zx_pt_t (by omega)
        exact ⟨_, rfl, hS 1 0, zx_F_t c4 (zx_F_t (zx_pt_F (by omega)) (zx_pt_F (by omega))), fun h9 => absurd h9 hb9, by omega, by omega, Or.inr ⟨_, yD_pt (yD_pt hw), yA_done (hN)⟩⟩
      · refine zw_ld (n := 1) (k := 1) (f := zp_isI) (pc' := 63) rfl rfl zw_g1 rfl rfl ?_
        refine zw_s (pc' := 65) rfl rfl ?_
        refine zw_ble2 (g := 73) (pc' := 68) rfl rfl rfl rfl (rfl : _ = (7 : Int)) (fun h4 => ?_) (fun h4 => ?_)
        · rw [if_pos (by omega)] at hN
          refine zw_ld (n := 1) (k := 0) (f := zp_isR) (pc' := 74) rfl rfl (zw_gt rfl rfl rfl) rfl rfl ?_
          refine zw_s (pc' := 75) rfl rfl ?_
          refine zw_cn (pc' := 78) (zw_cv (q := 72) (Y := zm_198) W.1 rfl rfl zm_198_t rfl rfl) rfl rfl rfl rfl rfl (zq_puts (H := H) W ⟨t0, by show _ < ((1600 : Nat) : Int); omega⟩) ?_
          have e1 : ((zx_pt H (Int32.ofInt 2)).2.1 72 45).toInt = (H.2.1 72 45).toInt + 1 := zx_pt_t (by omega)
          refine zw_ld (n := 1) (k := 0) (f := zp_isR) (pc' := 79) rfl rfl (zw_gt rfl rfl rfl) rfl rfl ?_
          refine zw_ld (n := 1) (k := 1) (f := zp_isI) (pc' := 80) rfl rfl zw_g1 rfl rfl ?_
          refine zw_cn (pc' := 83) (zw_cv (q := 72) (Y := zm_198) W.1 rfl rfl zm_198_t rfl rfl) rfl rfl rfl rfl rfl (zq_puts (H := zx_pt H (Int32.ofInt 2)) W ⟨by omega, by show _ < ((1600 : Nat) : Int); omega⟩) ?_
          have hT := zx_pp (c := Int32.ofInt 2) (y := v) h hg (by omega) (by decide)
          refine zw_s (pc' := 91) rfl rfl ?_
          refine zw_ld (n := 1) (k := 0) (f := zp_isR) (pc' := 92) rfl rfl (zw_gt rfl rfl rfl) rfl rfl ?_
          refine zw_c (pc' := 95) (zw_cv (q := 72) (Y := zm_175) W.1 rfl rfl zm_175_t rfl rfl) rfl rfl rfl rfl rfl (zq_good1 (H := zx_pt (zx_pt H (Int32.ofInt 2)) (v)) W hT.2.1) ?_
          refine zw_beq1 (g := 102) (pc' := 98) rfl rfl rfl (rfl : _ = (1 : Int)) (fun h9 => absurd h9 (by decide)) (fun hb => ?_)
          obtain ⟨H1, c1, c2, c3, c4, c5, c6⟩ := zx_T_goes (L := L) (σ := σ) (d := d + 2) hT
          refine zw_ld (n := 1) (k := 0) (f := zp_isR) (pc' := 99) rfl rfl (zw_gt rfl rfl rfl) rfl rfl ?_
          refine zw_cn (pc' := 102) (zw_cv (q := 72) (Y := zm_171) W.1 rfl rfl zm_171_t rfl rfl) rfl rfl rfl rfl rfl (c1) ?_
          refine zw_rn rfl rfl ?_
          have hp : zx_phi (zx_pt (zx_pt H (Int32.ofInt 2)) (v)) = zx_phi H := by
            unfold zx_phi
            rw [zx_pt_f 27 rfl, zx_pt_f 28 rfl, zx_pt_f 27 rfl, zx_pt_f 28 rfl]
          have e2 : ((zx_pt (zx_pt H (Int32.ofInt 2)) (v)).2.1 72 45).toInt = ((zx_pt H (Int32.ofInt 2)).2.1 72 45).toInt + 1 := zx_pt_t (by omega)
          have hgo := (yx_goes hby hT.1 (yV_pt (yV_pt hV)) c1).1
          exact ⟨H1, rfl, c2, zx_F_t (zx_F_t (zx_pt_F ha) (zx_pt_F (by omega))) c3, fun _ => by omega, by omega, by omega, Or.inl ⟨c4, lv, _, hlv, hgo, xRR_s hN (fun a' W' O' k' => by
            show xV a' (xWO T n 1 p W' O').1 (xWO T n 1 p W' O').2 H1
            rw [xWO_vl k3 (by omega) (by decide)]
            exact xV_goes hT.1 c1 (xV_2 (k := 1) (by decide) (by decide) (by omega) (by have := h.2.1; omega) k'))⟩⟩
        · rw [if_neg (by omega)] at hN
          refine zw_ld (n := 1) (k := 0) (f := zp_isR) (pc' := 69) rfl rfl (zw_gt rfl rfl rfl) rfl rfl ?_
          refine zw_s (pc' := 70) rfl rfl ?_
          obtain ⟨K, c1, c2, c3, c4, c5, c6, c7⟩ := zx_wrong (L := L) (σ := σ) (d := d + 3) (y := Int32.ofInt 3) h (by decide)
          have WK := zR_Wd (zR_dn (c3 0 0).1)
          obtain ⟨u0, u1⟩ := zx_top (c3 0 0)
          have hw := yx_wrong h.1 hg hV (by decide) c1
          refine zw_cn (pc' := 73) (zw_cv (q := 72) (Y := zm_180) W.1 rfl rfl zm_180_t rfl rfl) rfl rfl rfl rfl rfl (c1) ?_
          refine zw_ld (n := 1) (k := 0) (f := zp_isR) (pc' := 74) rfl rfl (zw_gt rfl rfl rfl) rfl rfl ?_
          refine zw_s (pc' := 75) rfl rfl ?_
          refine zw_cn (pc' := 78) (zw_cv (q := 72) (Y := zm_198) WK.1 rfl rfl zm_198_t rfl rfl) rfl rfl rfl rfl rfl (zq_puts (H := K) WK ⟨u0, by show _ < ((1600 : Nat) : Int); omega⟩) ?_
          have e1 : ((zx_pt K (Int32.ofInt 2)).2.1 72 45).toInt = (K.2.1 72 45).toInt + 1 := zx_pt_t (by omega)
          refine zw_ld (n := 1) (k := 0) (f := zp_isR) (pc' := 79) rfl rfl (zw_gt rfl rfl rfl) rfl rfl ?_
          refine zw_ld (n := 1) (k := 1) (f := zp_isI) (pc' := 80) rfl rfl zw_g1 rfl rfl ?_
          refine zw_cn (pc' := 83) (zw_cv (q := 72) (Y := zm_198) WK.1 rfl rfl zm_198_t rfl rfl) rfl rfl rfl rfl rfl (zq_puts (H := zx_pt K (Int32.ofInt 2)) WK ⟨by omega, by show _ < ((1600 : Nat) : Int); omega⟩) ?_
          have hS : ∀ e o, zx_S a e o (zx_pt (zx_pt K (Int32.ofInt 2)) (v)) := fun e o => zx_pp_b (c3 0 0) c2 (by omega)
          have hb9 : ((zx_pt (zx_pt K (Int32.ofInt 2)) (v)).2.1 72 23).toInt ≠ 0 := by rw [zx_pt_f 23 rfl, zx_pt_f 23 rfl]; exact c2
          refine zw_s (pc' := 91) rfl rfl ?_
          refine zw_ld (n := 1) (k := 0) (f := zp_isR) (pc' := 92) rfl rfl (zw_gt rfl rfl rfl) rfl rfl ?_
          refine zw_c (pc' := 95) (zw_cv (q := 72) (Y := zm_175) WK.1 rfl rfl zm_175_t rfl rfl) rfl rfl rfl rfl rfl (zq_good0 (H := zx_pt (zx_pt K (Int32.ofInt 2)) (v)) WK hb9) ?_
          refine zw_beq1 (g := 102) (pc' := 98) rfl rfl rfl (rfl : _ = (0 : Int)) (fun hb => ?_) (fun h9 => absurd h9 (by decide))
          refine zw_rn rfl rfl ?_
          have hp : zx_phi (zx_pt (zx_pt K (Int32.ofInt 2)) (v)) = zx_phi K := by
            unfold zx_phi
            rw [zx_pt_f 27 rfl, zx_pt_f 28 rfl, zx_pt_f 27 rfl, zx_pt_f 28 rfl]
          have e2 : ((zx_pt (zx_pt K (Int32.ofInt 2)) (v)).2.1 72 45).toInt = ((zx_pt K (Int32.ofInt 2)).2.1 72 45).toInt + 1 := zx_pt_t (by omega)
          exact ⟨_, rfl, hS 1 0, zx_F_t c4 (zx_F_t (zx_pt_F (by omega)) (zx_pt_F (by omega))), fun h9 => absurd h9 hb9, by omega, by omega, Or.inr ⟨_, yD_pt (yD_pt hw), yA_done (hN)⟩⟩
  · have k2 : ys_kd T n p = 2 := yr_s_2.mp (s28.symm.trans h1)
    have hN := yN_nu (T := T) (n := n) (p := p) (lv := lv) k2
    have hnm := yr_nm hV.2.2.1 hV.2.1 k2
    refine zw_ld (n := 1) (k := 0) (f := zp_isR) (pc' := 17) rfl rfl rfl rfl rfl ?_
    refine zw_gI (q := 72) (pc' := 20) W rfl rfl rfl rfl rfl rfl ?_
    refine zw_s (pc' := 21) rfl rfl ?_
    refine zw_ble2 (g := 29) (pc' := 24) rfl rfl rfl rfl (rfl : _ = (4 : Int)) (fun h2 => ?_) (fun h2 => ?_)
    · rw [if_neg (by omega)] at hN
      refine zw_ld (n := 1) (k := 0) (f := zp_isR) (pc' := 30) rfl rfl rfl rfl rfl ?_
      refine zw_s (pc' := 31) rfl rfl ?_
      refine zw_cn (pc' := 34) (zw_cv (q := 72) (Y := zm_198) W.1 rfl rfl zm_198_t rfl rfl) rfl rfl rfl rfl rfl (zq_puts (H := H) W ⟨t0, by show _ < ((1600 : Nat) : Int); omega⟩) ?_
      have e1 : ((zx_pt H (Int32.ofInt 1)).2.1 72 45).toInt = (H.2.1 72 45).toInt + 1 := zx_pt_t (by omega)
      refine zw_ld (n := 1) (k := 0) (f := zp_isR) (pc' := 35) rfl rfl rfl rfl rfl ?_
      refine zw_ld (n := 1) (k := 0) (f := zp_isR) (pc' := 36) rfl rfl rfl rfl rfl ?_
      refine zw_gI (q := 72) (pc' := 39) W rfl rfl rfl rfl rfl rfl ?_
      refine zw_cn (pc' := 42) (zw_cv (q := 72) (Y := zm_198) W.1 rfl rfl zm_198_t rfl rfl) rfl rfl rfl rfl rfl (zq_puts (H := zx_pt H (Int32.ofInt 1)) W ⟨by omega, by show _ < ((1600 : Nat) : Int); omega⟩) ?_
      have hT := zx_pp (c := Int32.ofInt 1) (y := H.2.1 72 31) h hg (by omega) (by decide)
      refine zw_s (pc' := 91) rfl rfl ?_
      refine zw_ld (n := 1) (k := 0) (f := zp_isR) (pc' := 92) rfl rfl rfl rfl rfl ?_
      refine zw_c (pc' := 95) (zw_cv (q := 72) (Y := zm_175) W.1 rfl rfl zm_175_t rfl rfl) rfl rfl rfl rfl rfl (zq_good1 (H := zx_pt (zx_pt H (Int32.ofInt 1)) (H.2.1 72 31)) W hT.2.1) ?_
      refine zw_beq1 (g := 102) (pc' := 98) rfl rfl rfl (rfl : _ = (1 : Int)) (fun h9 => absurd h9 (by decide)) (fun hb => ?_)
      obtain ⟨H1, c1, c2, c3, c4, c5, c6⟩ := zx_T_goes (L := L) (σ := σ) (d := d + 2) hT
      refine zw_ld (n := 1) (k := 0) (f := zp_isR) (pc' := 99) rfl rfl rfl rfl rfl ?_
      refine zw_cn (pc' := 102) (zw_cv (q := 72) (Y := zm_171) W.1 rfl rfl zm_171_t rfl rfl) rfl rfl rfl rfl rfl (c1) ?_
      refine zw_rn rfl rfl ?_
      have hp : zx_phi (zx_pt (zx_pt H (Int32.ofInt 1)) (H.2.1 72 31)) = zx_phi H := by
        unfold zx_phi
        rw [zx_pt_f 27 rfl, zx_pt_f 28 rfl, zx_pt_f 27 rfl, zx_pt_f 28 rfl]
      have e2 : ((zx_pt (zx_pt H (Int32.ofInt 1)) (H.2.1 72 31)).2.1 72 45).toInt = ((zx_pt H (Int32.ofInt 1)).2.1 72 45).toInt + 1 := zx_pt_t (by omega)
      have hgo := (yx_goes hby hT.1 (yV_pt (yV_pt hV)) c1).1
      exact ⟨H1, rfl, c2, zx_F_t (zx_F_t (zx_pt_F ha) (zx_pt_F (by omega))) c3, fun _ => by omega, by omega, by omega, Or.inl ⟨c4, lv, _, hlv, hgo, xRR_s hN (fun a' W' O' k' => by
            show xV a' (xWO T n 1 p W' O').1 (xWO T n 1 p W' O').2 H1
            rw [xWO_nu k2 (by decide)]
            exact xV_goes hT.1 c1 (xV_2 (k := 0) (by decide) (by decide) (by omega) (by have := h.2.1; omega) k'))⟩⟩
    · rw [if_pos (by omega)] at hN
      refine zw_ld (n := 1) (k := 0) (f := zp_isR) (pc' := 25) rfl rfl rfl rfl rfl ?_
      refine zw_s (pc' := 26) rfl rfl ?_
      obtain ⟨K, c1, c2, c3, c4, c5, c6, c7⟩ := zx_wrong (L := L) (σ := σ) (d := d + 3) (y := Int32.ofInt 2) h (by decide)
      have WK := zR_Wd (zR_dn (c3 0 0).1)
      obtain ⟨u0, u1⟩ := zx_top (c3 0 0)
      have hw := yx_wrong h.1 hg hV (by decide) c1
      refine zw_cn (pc' := 29) (zw_cv (q := 72) (Y := zm_180) W.1 rfl rfl zm_180_t rfl rfl) rfl rfl rfl rfl rfl (c1) ?_
      refine zw_ld (n := 1) (k := 0) (f := zp_isR) (pc' := 30) rfl rfl rfl rfl rfl ?_
      refine zw_s (pc' := 31) rfl rfl ?_
      refine zw_cn (pc' := 34) (zw_cv (q := 72) (Y := zm_198) WK.1 rfl rfl zm_198_t rfl rfl) rfl rfl rfl rfl rfl (zq_puts (H := K) WK ⟨u0, by show _ < ((1600 : Nat) : Int); omega⟩) ?_
      have e1 : ((zx_pt K (Int32.ofInt 1)).2.1 72 45).toInt = (K.2.1 72 45).toInt + 1 := zx_pt_t (by omega)
      refine zw_ld (n := 1) (k := 0) (f := zp_isR) (pc' := 35) rfl rfl rfl rfl rfl ?_
      refine zw_ld (n := 1) (k := 0) (f := zp_isR) (pc' := 36) rfl rfl rfl rfl rfl ?_
      refine zw_gI (q := 72) (pc' := 39) WK rfl rfl rfl rfl rfl rfl ?_
      refine zw_cn (pc' := 42) (zw_cv (q := 72) (Y := zm_198) WK.1 rfl rfl zm_198_t rfl rfl) rfl rfl rfl rfl rfl (zq_puts (H := zx_pt K (Int32.ofInt 1)) WK ⟨by omega, by show _ < ((1600 : Nat) : Int); omega⟩) ?_
      have hS : ∀ e o, zx_S a e o (zx_pt (zx_pt K (Int32.ofInt 1)) (K.2.1 72 31)) := fun e o => zx_pp_b (c3 0 0) c2 (by omega)
      have hb9 : ((zx_pt (zx_pt K (Int32.ofInt 1)) (K.2.1 72 31)).2.1 72 23).toInt ≠ 0 := by rw [zx_pt_f 23 rfl, zx_pt_f 23 rfl]; exact c2
      refine zw_s (pc' := 91) rfl rfl ?_
      refine zw_ld (n := 1) (k := 0) (f := zp_isR) (pc' := 92) rfl rfl rfl rfl rfl ?_
      refine zw_c (pc' := 95) (zw_cv (q := 72) (Y := zm_175) WK.1 rfl rfl zm_175_t rfl rfl) rfl rfl rfl rfl rfl (zq_good0 (H := zx_pt (zx_pt K (Int32.ofInt 1)) (K.2.1 72 31)) WK hb9) ?_
      refine zw_beq1 (g := 102) (pc' := 98) rfl rfl rfl (rfl : _ = (0 : Int)) (fun hb => ?_) (fun h9 => absurd h9 (by decide))
      refine zw_rn rfl rfl ?_
      have hp : zx_phi (zx_pt (zx_pt K (Int32.ofInt 1)) (K.2.1 72 31)) = zx_phi K := by
        unfold zx_phi
        rw [zx_pt_f 27 rfl, zx_pt_f 28 rfl, zx_pt_f 27 rfl, zx_pt_f 28 rfl]
      have e2 : ((zx_pt (zx_pt K (Int32.ofInt 1)) (K.2.1 72 31)).2.1 72 45).toInt = ((zx_pt K (Int32.ofInt 1)).2.1 72 45).toInt + 1 := zx_pt_t (by omega)
      exact ⟨_, rfl, hS 1 0, zx_F_t c4 (zx_F_t (zx_pt_F (by omega)) (zx_pt_F (by omega))), fun h9 => absurd h9 hb9, by omega, by omega, Or.inr ⟨_, yD_pt (yD_pt hw), yA_done (hN)⟩⟩
end
section
/-! ===== the reference reads an operand, exactly ===== -/

theorem yx_part0 {L : Nat} {σ : Nat → Int32} {d : Nat} {H : zp_H} (W : zw_W H) (hg : (H.2.1 72 23).toInt ≠ 0) : zp_Call L σ (d + 2) 197 [.inr (.inr (some 73))] H (.inl none, H) := by
  refine zw_ex (zw_met zm_197_t rfl rfl ?_)
  refine zw_ld (n := 1) (k := 0) (f := zp_isR) (pc' := 1) rfl rfl rfl rfl rfl ?_
  refine zw_c (pc' := 4) (zw_cv (q := 72) (Y := zm_175) W.1 rfl rfl zm_175_t rfl rfl) rfl rfl rfl rfl rfl (zq_good0 W hg) ?_
  refine zw_bne1 (g := 8) (pc' := 7) rfl rfl rfl (rfl : _ = (0 : Int)) (fun h9 => absurd h9 (by decide)) (fun hb => ?_)
  refine zw_rn rfl rfl ?_
  rfl

theorem yV_wt {T : Nat → Int} {n p : Nat} {lv : List Bool} {H : zp_H} {c : Int32} (h : yV T n lv p H) : yV T n lv p (zx_wt H c) := by
  refine ⟨yr_T_c (zx_wt_f 26 rfl) ?_ (zx_wt_f 23 rfl) (zx_wt_f 24 rfl) h.1, yr_k_c (fun k hk => zx_wt_f k ?_) rfl h.2.1, h.2.2.1, ?_, yt_c ?_ h.2.2.2.2⟩
  · funext i
    exact zw_ne (zw_ne rfl rfl) rfl
  · rcases (show k = 27 ∨ k = 28 ∨ k = 29 ∨ k = 30 ∨ k = 31 ∨ k = 32 by omega) with rfl | rfl | rfl | rfl | rfl | rfl <;> rfl
  · rw [zx_wt_f 47 rfl]
    exact h.2.2.2.1
  · funext i
    exact zw_ne (zw_ne rfl rfl) rfl
theorem yw_mv {v c : Int} (h : 0 ≤ v ∧ v ≤ 21) : (yw_m v = 20 ↔ v = 10) ∧ (yw_m v = 18 ↔ v = 9) ∧ (yw_m v = 19 ↔ v = 8) ∧ (yw_m v = 17 ↔ v = 11) := by
  obtain ⟨j, hj, rfl⟩ : ∃ j : Nat, j < 22 ∧ v = (j : Int) := ⟨v.toNat, by omega, by omega⟩
  revert j
  decide
/-- which word: in both counts -/
theorem yr_wd {T : Nat → Int} {n p : Nat} {H : zp_H} (hp : p ≤ n) (h : yr_k T n p H) : (zg H = 20 ↔ (ys_kd T n p = 3 ∧ ys_vl T n p = 10)) ∧ (zg H = 18 ↔ (ys_kd T n p = 3 ∧ ys_vl T n p = 9)) ∧ (zg H = 19 ↔ (ys_kd T n p = 3 ∧ ys_vl T n p = 8)) ∧ (zg H = 17 ↔ (ys_kd T n p = 3 ∧ ys_vl T n p = 11)) := by
  rw [yr_zg hp h]
  by_cases hk : ys_kd T n p = 3
  · rw [if_pos hk]
    have := yw_mv (c := 0) (ys_vl_b hk)
    exact ⟨⟨fun h9 => ⟨hk, this.1.mp h9⟩, fun h9 => this.1.mpr h9.2⟩, ⟨fun h9 => ⟨hk, this.2.1.mp h9⟩, fun h9 => this.2.1.mpr h9.2⟩, ⟨fun h9 => ⟨hk, this.2.2.1.mp h9⟩, fun h9 => this.2.2.1.mpr h9.2⟩, ⟨fun h9 => ⟨hk, this.2.2.2.mp h9⟩, fun h9 => this.2.2.2.mpr h9.2⟩⟩
  · rw [if_neg hk]
    exact ⟨⟨fun h9 => by omega, fun h9 => absurd h9.1 hk⟩, ⟨fun h9 => by omega, fun h9 => absurd h9.1 hk⟩, ⟨fun h9 => by omega, fun h9 => absurd h9.1 hk⟩, ⟨fun h9 => by omega, fun h9 => absurd h9.1 hk⟩⟩
def yBad (T : Nat → Int) (n : Nat) (s0 : yM) (H : zp_H) : Prop := ∃ r, yD T n r H ∧ yA T n s0 r
theorem yBad_g {T : Nat → Int} {n : Nat} {s0 : yM} {H : zp_H} (h : yBad T n s0 H) : (H.2.1 72 23).toInt ≠ 0 := by
  obtain ⟨r, h, _⟩ := h
  rw [h.2.1]
  exact h.2.2.1
/-- in mode m -/
def yGd (T : Nat → Int) (n : Nat) (s0 : yM) (m : Nat) (H0 H : zp_H) : Prop := (H.2.1 72 23).toInt = 0 ∧ ∃ lv p, lv ≠ [] ∧ yV T n lv p H ∧ xRR T n s0 (m, lv, p) H0 H
/-- before a part: no bracket opens -/
def yGp (T : Nat → Int) (n : Nat) (s0 : yM) (H0 H : zp_H) : Prop := (H.2.1 72 23).toInt = 0 ∧ ∃ lv p, lv ≠ [] ∧ yV T n lv p H ∧ xRR T n s0 (1, lv, p) H0 H ∧ ¬ (ys_kd T n p = 4 ∧ ys_vl T n p = 40)

theorem yx_opE {L : Nat} {σ : Nat → Int32} {d a : Nat} {T : Nat → Int} {n : Nat} {s0 : yM} {H0 : zp_H} (hby : ∀ k, k < n → -128 ≤ T k ∧ T k ≤ 127) {H : zp_H} {lv : zp_LV} (hK : zx_KW L σ) (l0 : zp_get lv 0 = some (.inr (.inr (some 73)))) (h : zx_S a 0 0 H) (hF : zx_F a H0 H) (ha : (a : Int) ≤ (H.2.1 72 45).toInt) (hp : zx_phi H0 ≤ zx_phi H) (hJ : yGp T n s0 H0 H ∨ yBad T n s0 H) : zs_Safe L σ (fun X => ∃ H1, X = (.inl none, H1) ∧ zx_S a 1 0 H1 ∧ zx_F a H0 H1 ∧ ((H1.2.1 72 23).toInt = 0 → zx_phi H0 + 2 ≤ zx_phi H1) ∧ (a : Int) ≤ (H1.2.1 72 45).toInt ∧ zx_phi H0 ≤ zx_phi H1 ∧ yO T n s0 H0 H1) zm_195 [] (d + 5) (120, lv, [], H, (0, 0)) := by
  have W := zR_Wd (zR_dn h.1)
  rcases hJ with ⟨hg, lvb, p, hlv, hV, hR, h40⟩ | hJ
  · obtain ⟨_, c1, H1, rfl, c2, c3, c4, c5, c6, c7⟩ := yx_part (L := L) (σ := σ) (d := d) hby hK h ha hg hV hlv h40
    refine zw_ld (n := 1) (k := 0) (f := zp_isR) (pc' := 121) rfl rfl l0 rfl rfl ?_
    refine zw_cn (pc' := 124) (zw_cv (q := 72) (Y := zm_197) W.1 rfl rfl zm_197_t rfl rfl) rfl rfl rfl rfl rfl (c1) ?_
    refine zw_rn rfl rfl ?_
    exact ⟨H1, rfl, c2, zx_F_t hF c3, fun h9 => by have := c4 h9; omega, c5, by omega, yO_R hR c7⟩
  · have hg := yBad_g hJ
    refine zw_ld (n := 1) (k := 0) (f := zp_isR) (pc' := 121) rfl rfl l0 rfl rfl ?_
    refine zw_cn (pc' := 124) (zw_cv (q := 72) (Y := zm_197) W.1 rfl rfl zm_197_t rfl rfl) rfl rfl rfl rfl rfl (yx_part0 (d := d + 3) W hg) ?_
    refine zw_rn rfl rfl ?_
    exact ⟨H, rfl, zx_S_b h hg, hF, fun h9 => absurd h9 hg, ha, hp, Or.inr hJ⟩

set_option maxRecDepth 8000 in
theorem yx_opI {L : Nat} {σ : Nat → Int32} {d a : Nat} {T : Nat → Int} {n : Nat} {s0 : yM} {H0 : zp_H} (hby : ∀ k, k < n → -128 ≤ T k ∧ T k ≤ 127) {x2 : Int32} (hK : zx_KW L σ) : ∀ (m : Nat) (H : zp_H) (lv : zp_LV) (x4 : Int32) (k : Nat), (1401 - zx_phi H).toNat = m → zp_get lv 0 = some (.inr (.inr (some 73))) → zp_get lv 2 = some (.inl x2) → zp_get lv 4 = some (.inl x4) → zx_S a 0 0 H → zx_F a H0 H → (a : Int) ≤ (H.2.1 72 45).toInt → zx_phi H0 ≤ zx_phi H → x4.toInt = k → k ≤ 6 → (yGd T n s0 (if x2.toInt = 0 then 1 else 2 + k) H0 H ∨ yBad T n s0 H) → (∀ (H1 : zp_H) (lv1 : zp_LV), zp_get lv1 0 = some (.inr (.inr (some 73))) → zp_get lv1 2 = some (.inl x2) → zx_S a 0 0 H1 → zx_F a H0 H1 → (a : Int) ≤ (H1.2.1 72 45).toInt → zx_phi H ≤ zx_phi H1 → (yGd T n s0 1 H0 H1 ∨ yBad T n s0 H1) → zs_Safe L σ (fun X => ∃ H1, X = (.inl none, H1) ∧ zx_S a 1 0 H1 ∧ zx_F a H0 H1 ∧ ((H1.2.1 72 23).toInt = 0 → zx_phi H0 + 2 ≤ zx_phi H1) ∧ (a : Int) ≤ (H1.2.1 72 45).toInt ∧ zx_phi H0 ≤ zx_phi H1 ∧ yO T n s0 H0 H1) zm_195 [] (d + 5) (75, lv1, [], H1, (0, 0))) → zs_Safe L σ (fun X => ∃ H1, X = (.inl none, H1) ∧ zx_S a 1 0 H1 ∧ zx_F a H0 H1 ∧ ((H1.2.1 72 23).toInt = 0 → zx_phi H0 + 2 ≤ zx_phi H1) ∧ (a : Int) ≤ (H1.2.1 72 45).toInt ∧ zx_phi H0 ≤ zx_phi H1 ∧ yO T n s0 H0 H1) zm_195 [] (d + 5) (18, lv, [], H, (0, 0)) := by
  intro m
  induction m using Nat.strongRecOn with
  | ind m ih =>
    intro H lv x4 k hm l0 l2 l4 h hF ha hp hx4 hk6 hJ hk
    have W := zR_Wd (zR_dn h.1)
    refine zw_ld (n := 1) (k := 0) (f := zp_isR) (pc' := 19) rfl rfl l0 rfl rfl ?_
    by_cases hg : (H.2.1 72 23).toInt = 0
    · refine zw_c (pc' := 22) (zw_cv (q := 72) (Y := zm_175) W.1 rfl rfl zm_175_t rfl rfl) rfl rfl rfl rfl rfl (zq_good1 W hg) ?_
      obtain ⟨_, lvb, p, hlv, hV, hR⟩ := hJ.resolve_right (fun h9 => yBad_g h9 hg)
      refine zw_beq1 (g := 75) (pc' := 25) rfl rfl rfl (rfl : _ = (1 : Int)) (fun h9 => absurd h9 (by decide)) (fun hb => ?_)
      refine zw_ld (n := 1) (k := 2) (f := zp_isI) (pc' := 26) rfl rfl l2 rfl rfl ?_
      refine zw_beq1 (g := 75) (pc' := 29) rfl rfl rfl rfl (fun h2 => ?_) (fun h2 => ?_)
      · rw [if_pos h2] at hR
        exact hk H lv l0 l2 h hF ha (Int.le_refl _) (Or.inl ⟨hg, lvb, p, hlv, hV, hR⟩)
      · rw [if_neg h2] at hR
        have hwd := (yr_wd hV.2.2.1 hV.2.1).1
        refine zw_ld (n := 1) (k := 0) (f := zp_isR) (pc' := 30) rfl rfl l0 rfl rfl ?_
        obtain ⟨v, v1, v2⟩ := hK (d + 1) H h.1
        refine zw_c (pc' := 33) (zw_cv (q := 72) (Y := zm_177) W.1 rfl rfl zm_177_t rfl rfl) rfl rfl rfl rfl rfl (v1) ?_
        refine zw_s (pc' := 35) rfl rfl ?_
        refine zw_bne2 (g := 75) (pc' := 38) rfl rfl rfl rfl (rfl : _ = (20 : Int)) (fun h3 => ?_) (fun h3 => ?_)
        · have hno : ¬ (ys_kd T n p = 3 ∧ ys_vl T n p = 10) := fun h9 => h3 (v2.trans (hwd.mpr h9))
          exact hk H lv l0 l2 h hF ha (Int.le_refl _) (Or.inl ⟨hg, lvb, p, hlv, hV, xRR_t hR (xRR_e hno)⟩)
        · have hs := zg_s (H := H) (by omega)
          have hno := hwd.mp (v2.symm.trans h3)
          refine zw_ld (n := 2) (k := 4) (f := zp_isI) (pc' := 40) rfl rfl l4 rfl rfl ?_
          refine zw_s (pc' := 42) rfl rfl ?_
          refine zw_bne2 (g := 50) (pc' := 45) rfl rfl rfl rfl (rfl : _ = (6 : Int)) (fun h4 => ?_) (fun h4 => ?_)
          · refine zw_ii (pc' := 53) rfl l4 rfl rfl ?_
            refine zw_ld (n := 1) (k := 0) (f := zp_isR) (pc' := 54) rfl rfl (zw_gt l0 rfl rfl) rfl rfl ?_
            refine zw_c (pc' := 57) (zw_cv (q := 72) (Y := zm_175) W.1 rfl rfl zm_175_t rfl rfl) rfl rfl rfl rfl rfl (zq_good1 W hg) ?_
            refine zw_bne1 (g := 63) (pc' := 60) rfl rfl rfl (rfl : _ = (1 : Int)) (fun hb => ?_) (fun h9 => absurd h9 (by decide))
            obtain ⟨k1, k2, k3, k4⟩ := zx_wait (y := Int32.ofInt 3) h hg (by omega) (by decide)
            have hT := k4 0 0 rfl rfl
            have f45 : (zx_wt H (Int32.ofInt 3)).2.1 72 45 = H.2.1 72 45 := zx_wt_f 45 rfl
            obtain ⟨t0, w0⟩ := zx_top h
            have wb := h.2.2.1
            refine zw_ld (n := 1) (k := 0) (f := zp_isR) (pc' := 64) rfl rfl (zw_gt l0 rfl rfl) rfl rfl ?_
            refine zw_s (pc' := 65) rfl rfl ?_
            refine zw_cn (pc' := 68) (zw_cv (q := 72) (Y := zm_196) W.1 rfl rfl zm_196_t rfl rfl) rfl rfl rfl rfl rfl (zq_waits W ⟨w0, by show _ < ((800 : Nat) : Int); omega⟩) ?_
            obtain ⟨K, c1, c2, c3, c4, c5, c6⟩ := zx_T_goes (L := L) (σ := σ) (d := d + 3) hT
            have pK := zx_phi_le c2.1
            have hgo := (yx_goes hby hT.1 (yV_wt hV) c1).1
            have e4 : (x4 + Int32.ofInt 1).toInt = x4.toInt + 1 := zw_p1 (by omega)
            refine zw_ld (n := 1) (k := 0) (f := zp_isR) (pc' := 69) rfl rfl (zw_gt l0 rfl rfl) rfl rfl ?_
            refine zw_cn (pc' := 72) (zw_cv (q := 72) (Y := zm_171) W.1 rfl rfl zm_171_t rfl rfl) rfl rfl rfl rfl rfl (c1) ?_
            refine zw_s (pc' := 18) rfl rfl ?_
            refine ih (1401 - zx_phi K).toNat (by omega) K _ _ (k + 1) rfl (zw_gt l0 rfl rfl) (zw_gt l2 rfl rfl) zw_g1 c2 (zx_F_t (zx_F_t hF k1) c3) (by rw [c6, f45]; exact ha) (by omega) (by omega) (by omega) (Or.inl ⟨c4, lvb, _, hlv, hgo, ?_⟩) ?_
            · rw [if_neg h2]
              exact xRR_t hR (xRR_s (yN_no hno.1 hno.2 (by omega)) (fun a' W' O' k' => by
                show xV a' (xWO T n (2 + k) p W' O').1 (xWO T n (2 + k) p W' O').2 K
                rw [xWO_no hno.1 hno.2 (by omega)]
                exact xV_goes hT.1 c1 (xVn_wt (b := 3) (by decide) (by decide) (by omega) k')))
            · intro H1 lv1 m0 m2 mS mF ma mp mJ
              exact hk H1 lv1 m0 m2 mS mF ma (by omega) mJ
          · refine zw_ld (n := 1) (k := 0) (f := zp_isR) (pc' := 46) rfl rfl l0 rfl rfl ?_
            refine zw_s (pc' := 47) rfl rfl ?_
            obtain ⟨K, c1, c2, c3, c4, c5, c6, c7⟩ := zx_wrong (L := L) (σ := σ) (d := d + 4) (y := Int32.ofInt 2) h (by decide)
            have WK := zR_Wd (zR_dn (c3 0 0).1)
            have hw := yx_wrong h.1 hg hV (by decide) c1
            obtain rfl : k = 6 := by omega
            have hbad : yBad T n s0 K := ⟨_, hw, hR.1 _ (yA_done (yN_no6 hno.1 hno.2))⟩
            refine zw_cn (pc' := 50) (zw_cv (q := 72) (Y := zm_180) W.1 rfl rfl zm_180_t rfl rfl) rfl rfl rfl rfl rfl (c1) ?_
            refine zw_ii (pc' := 53) rfl l4 rfl rfl ?_
            refine zw_ld (n := 1) (k := 0) (f := zp_isR) (pc' := 54) rfl rfl (zw_gt l0 rfl rfl) rfl rfl ?_
            refine zw_c (pc' := 57) (zw_cv (q := 72) (Y := zm_175) WK.1 rfl rfl zm_175_t rfl rfl) rfl rfl rfl rfl rfl (zq_good0 (H := K) WK c2) ?_
            refine zw_bne1 (g := 63) (pc' := 60) rfl rfl rfl (rfl : _ = (0 : Int)) (fun h9 => absurd h9 (by decide)) (fun hb => ?_)
            refine zw_s (pc' := 18) rfl rfl ?_
            refine zw_ld (n := 1) (k := 0) (f := zp_isR) (pc' := 19) rfl rfl (zw_gt l0 rfl rfl) rfl rfl ?_
            refine zw_c (pc' := 22) (zw_cv (q := 72) (Y := zm_175) WK.1 rfl rfl zm_175_t rfl rfl) rfl rfl rfl rfl rfl (zq_good0 (H := K) WK c2) ?_
            refine zw_beq1 (g := 75) (pc' := 25) rfl rfl rfl (rfl : _ = (0 : Int)) (fun hb => ?_) (fun h9 => absurd h9 (by decide))
            exact hk K _ (zw_gt l0 rfl rfl) (zw_gt l2 rfl rfl) (c3 0 0) (zx_F_t hF c4) (by omega) (by omega) (Or.inr hbad)
    · refine zw_c (pc' := 22) (zw_cv (q := 72) (Y := zm_175) W.1 rfl rfl zm_175_t rfl rfl) rfl rfl rfl rfl rfl (zq_good0 W hg) ?_
      refine zw_beq1 (g := 75) (pc' := 25) rfl rfl rfl (rfl : _ = (0 : Int)) (fun hb => ?_) (fun h9 => absurd h9 (by decide))
      exact hk H lv l0 l2 h hF ha (Int.le_refl _) (Or.inr (hJ.resolve_left (fun h9 => hg h9.1)))

set_option maxRecDepth 8000 in
theorem yx_opO {L : Nat} {σ : Nat → Int32} {d a : Nat} {T : Nat → Int} {n : Nat} {s0 : yM} {H0 : zp_H} (hby : ∀ k, k < n → -128 ≤ T k ∧ T k ≤ 127) (hK : zx_KW L σ) : ∀ (m : Nat) (H : zp_H) (lv : zp_LV) (x2 x3 : Int32), 2 * (1401 - zx_phi H).toNat + (if x3.toInt = 0 then 0 else 1) = m → zp_get lv 0 = some (.inr (.inr (some 73))) → zp_get lv 2 = some (.inl x2) → zp_get lv 3 = some (.inl x3) → zx_S a 0 0 H → zx_F a H0 H → (a : Int) ≤ (H.2.1 72 45).toInt → zx_phi H0 ≤ zx_phi H → ((((x3.toInt ≠ 0 → yGd T n s0 (if x2.toInt = 0 then 1 else 2) H0 H) ∧ (x3.toInt = 0 → yGp T n s0 H0 H))) ∨ yBad T n s0 H) → zs_Safe L σ (fun X => ∃ H1, X = (.inl none, H1) ∧ zx_S a 1 0 H1 ∧ zx_F a H0 H1 ∧ ((H1.2.1 72 23).toInt = 0 → zx_phi H0 + 2 ≤ zx_phi H1) ∧ (a : Int) ≤ (H1.2.1 72 45).toInt ∧ zx_phi H0 ≤ zx_phi H1 ∧ yO T n s0 H0 H1) zm_195 [] (d + 5) (4, lv, [], H, (0, 0)) := by
  intro m
  induction m using Nat.strongRecOn with
  | ind m ih =>
    intro H lv x2 x3 hm l0 l2 l3 h hF ha hp hJ
    have W := zR_Wd (zR_dn h.1)
    have pH := zx_phi_le h.1
    refine zw_ld (n := 1) (k := 3) (f := zp_isI) (pc' := 5) rfl rfl l3 rfl rfl ?_
    refine zw_beq1 (g := 120) (pc' := 8) rfl rfl rfl rfl (fun h3 => ?_) (fun h3 => ?_)
    · exact yx_opE hby hK l0 h hF ha hp (hJ.imp_left (fun h9 => h9.2 h3))
    · rw [if_neg h3] at hm
      refine zw_ld (n := 1) (k := 0) (f := zp_isR) (pc' := 9) rfl rfl l0 rfl rfl ?_
      by_cases hg : (H.2.1 72 23).toInt = 0
      · refine zw_c (pc' := 12) (zw_cv (q := 72) (Y := zm_175) W.1 rfl rfl zm_175_t rfl rfl) rfl rfl rfl rfl rfl (zq_good1 W hg) ?_
        refine zw_beq1 (g := 120) (pc' := 15) rfl rfl rfl (rfl : _ = (1 : Int)) (fun h9 => absurd h9 (by decide)) (fun hb => ?_)
        refine zw_s (pc' := 16) rfl rfl ?_
        refine zw_st (n := 2) (k := 4) (f := zp_isI) (pc' := 18) rfl rfl rfl rfl rfl ?_
        refine yx_opI hby hK _ H _ _ 0 rfl (zw_gt l0 rfl rfl) (zw_gt l2 rfl rfl) zw_g1 h hF ha hp rfl (by decide) (hJ.imp_left (fun h9 => h9.1 h3)) ?_
        clear l0 l2 l3
        intro K lv l0 l2 k1 k2 k3 k4 kJ
        have WK := zR_Wd (zR_dn k1.1)
        have pK := zx_phi_le k1.1
        refine zw_ld (n := 1) (k := 0) (f := zp_isR) (pc' := 76) rfl rfl l0 rfl rfl ?_
        by_cases hK0 : (K.2.1 72 23).toInt = 0
        · refine zw_c (pc' := 79) (zw_cv (q := 72) (Y := zm_175) WK.1 rfl rfl zm_175_t rfl rfl) rfl rfl rfl rfl rfl (zq_good1 WK hK0) ?_
          obtain ⟨_, lvb, p, hlv, hV, hR⟩ := kJ.resolve_right (fun h9 => yBad_g h9 hK0)
          refine zw_beq1 (g := 95) (pc' := 82) rfl rfl rfl (rfl : _ = (1 : Int)) (fun h9 => absurd h9 (by decide)) (fun hb => ?_)
          refine zw_ld (n := 1) (k := 0) (f := zp_isR) (pc' := 83) rfl rfl l0 rfl rfl ?_
          refine zw_s (pc' := 85) rfl rfl ?_
          by_cases hsg : (K.2.1 72 28).toInt = 3 ∧ (K.2.1 72 32).toInt = (Int32.ofInt 40).toInt
          · refine zw_c (pc' := 88) (zw_cv (q := 72) (Y := zm_194) WK.1 rfl rfl zm_194_t rfl rfl) rfl rfl rfl rfl rfl (zq_sign1 WK hsg) ?_
            have h40 := (yr_sg hV.2.1 (c := 40)).mp hsg
            have hN := yN_op (lv := lvb) h40.1 h40.2
            refine zw_beq1 (g := 95) (pc' := 91) rfl rfl rfl (rfl : _ = (1 : Int)) (fun h9 => absurd h9 (by decide)) (fun hb => ?_)
            refine zw_s (pc' := 92) rfl rfl ?_
            refine zw_s (pc' := 96) rfl rfl ?_
            refine zw_st (n := 1) (k := 3) (f := zp_isI) (pc' := 97) rfl rfl rfl rfl rfl ?_
            refine zw_ld (n := 1) (k := 3) (f := zp_isI) (pc' := 98) rfl rfl zw_g1 rfl rfl ?_
            refine zw_beq1 (g := 117) (pc' := 101) rfl rfl rfl (rfl : _ = (1 : Int)) (fun h9 => absurd h9 (by decide)) (fun hb => ?_)
            obtain ⟨m1, m2, m3, m4⟩ := zx_wait (y := Int32.ofInt 14) k1 hK0 (by omega) (by decide)
            have hT := m4 0 1 rfl rfl
            have f45 : (zx_wt K (Int32.ofInt 14)).2.1 72 45 = K.2.1 72 45 := zx_wt_f 45 rfl
            obtain ⟨t0, w0⟩ := zx_top k1
            have wb := k1.2.2.1
            refine zw_ld (n := 1) (k := 0) (f := zp_isR) (pc' := 102) rfl rfl (zw_gt l0 rfl rfl) rfl rfl ?_
            refine zw_s (pc' := 104) rfl rfl ?_
            refine zw_cn (pc' := 107) (zw_cv (q := 72) (Y := zm_196) WK.1 rfl rfl zm_196_t rfl rfl) rfl rfl rfl rfl rfl (zq_waits WK ⟨w0, by show _ < ((800 : Nat) : Int); omega⟩) ?_
            obtain ⟨K2, c1, c2, c3, c4, c5, c6⟩ := zx_T_goes (L := L) (σ := σ) (d := d + 3) hT
            have pK2 := zx_phi_le c2.1
            have hgo := (yx_goes hby hT.1 (yV_wt hV) c1).1
            refine zw_ld (n := 1) (k := 0) (f := zp_isR) (pc' := 108) rfl rfl (zw_gt l0 rfl rfl) rfl rfl ?_
            refine zw_cn (pc' := 111) (zw_cv (q := 72) (Y := zm_171) WK.1 rfl rfl zm_171_t rfl rfl) rfl rfl rfl rfl rfl (c1) ?_
            obtain ⟨_, e1, K3, rfl, e2, e3, e4, e5, e6⟩ := yx_deeper (L := L) (σ := σ) (d := d + 2) hby c2 c4 hgo
            have WK2 := zR_Wd (zR_dn c2.1)
            refine zw_ld (n := 1) (k := 0) (f := zp_isR) (pc' := 112) rfl rfl (zw_gt l0 rfl rfl) rfl rfl ?_
            refine zw_cn (pc' := 115) (zw_cv (q := 72) (Y := zm_193) WK2.1 rfl rfl zm_193_t rfl rfl) rfl rfl rfl rfl rfl (e1) ?_
            refine zw_s (pc' := 116) rfl rfl ?_
            refine zw_st (n := 1) (k := 2) (f := zp_isI) (pc' := 117) rfl rfl rfl rfl rfl ?_
            refine zw_s (pc' := 4) rfl rfl ?_
            refine ih _ (by rw [if_neg (by decide)]; omega) K3 _ _ _ rfl (zw_gt (zw_gt l0 rfl rfl) rfl rfl) zw_g1 (zw_gt zw_g1 rfl rfl) e2 (zx_F_t (zx_F_t (zx_F_t k2 m1) c3) e3) (by rw [e5, c6, f45]; exact k3) (by omega) ?_
            rcases e6 with ⟨f1, f2, f3⟩ | ⟨f1, f2⟩
            · rw [if_pos f2] at hN
              refine Or.inl ⟨fun _ => ⟨f1, false :: lvb, _, List.cons_ne_nil _ _, f3, ?_⟩, fun h9 => absurd h9 (by decide)⟩
              rw [if_neg (by decide)]
              exact xRR_t hR (xRR_s hN (fun a' W' O' k' => by
                show xV a' (xWO T n 1 p W' O').1 (xWO T n 1 p W' O').2 K3
                rw [xWO_op h40.1 (by decide)]
                have d47 : (K2.2.1 72 47).toInt = (lvb.length : Int) := hgo.2.2.2.1
                exact xV_deep (d := d + 4) WK2 (by rw [d47]; exact ⟨by omega, by omega⟩) e1 (xV_goes hT.1 c1 (xVn_wt (b := 14) (by decide) (by decide) (by omega) k'))))
            · rw [if_neg f1] at hN
              exact Or.inr ⟨_, f2, hR.1 _ (yA_done hN)⟩
          · refine zw_c (pc' := 88) (zw_cv (q := 72) (Y := zm_194) WK.1 rfl rfl zm_194_t rfl rfl) rfl rfl rfl rfl rfl (zq_sign0 WK hsg) ?_
            refine zw_beq1 (g := 95) (pc' := 91) rfl rfl rfl (rfl : _ = (0 : Int)) (fun hb => ?_) (fun h9 => absurd h9 (by decide))
            refine zw_s (pc' := 96) rfl rfl ?_
            refine zw_st (n := 1) (k := 3) (f := zp_isI) (pc' := 97) rfl rfl rfl rfl rfl ?_
            refine zw_ld (n := 1) (k := 3) (f := zp_isI) (pc' := 98) rfl rfl zw_g1 rfl rfl ?_
            refine zw_beq1 (g := 117) (pc' := 101) rfl rfl rfl (rfl : _ = (0 : Int)) (fun hb => ?_) (fun h9 => absurd h9 (by decide))
            refine zw_s (pc' := 4) rfl rfl ?_
            exact ih _ (by rw [if_pos (by decide)]; omega) K _ _ _ rfl (zw_gt l0 rfl rfl) (zw_gt l2 rfl rfl) zw_g1 k1 k2 k3 (by omega) (Or.inl ⟨fun h9 => absurd rfl h9, fun _ => ⟨hK0, lvb, p, hlv, hV, hR, fun h9 => hsg ((yr_sg hV.2.1 (c := 40)).mpr h9)⟩⟩)
        · refine zw_c (pc' := 79) (zw_cv (q := 72) (Y := zm_175) WK.1 rfl rfl zm_175_t rfl rfl) rfl rfl rfl rfl rfl (zq_good0 WK hK0) ?_
          refine zw_beq1 (g := 95) (pc' := 82) rfl rfl rfl (rfl : _ = (0 : Int)) (fun hb => ?_) (fun h9 => absurd h9 (by decide))
          refine zw_s (pc' := 96) rfl rfl ?_
          refine zw_st (n := 1) (k := 3) (f := zp_isI) (pc' := 97) rfl rfl rfl rfl rfl ?_
          refine zw_ld (n := 1) (k := 3) (f := zp_isI) (pc' := 98) rfl rfl zw_g1 rfl rfl ?_
          refine zw_beq1 (g := 117) (pc' := 101) rfl rfl rfl (rfl : _ = (0 : Int)) (fun hb => ?_) (fun h9 => absurd h9 (by decide))
          refine zw_s (pc' := 4) rfl rfl ?_
          exact ih _ (by rw [if_pos (by decide)]; omega) K _ _ _ rfl (zw_gt l0 rfl rfl) (zw_gt l2 rfl rfl) zw_g1 k1 k2 k3 (by omega) (Or.inr (kJ.resolve_left (fun h9 => hK0 h9.1)))
      · refine zw_c (pc' := 12) (zw_cv (q := 72) (Y := zm_175) W.1 rfl rfl zm_175_t rfl rfl) rfl rfl rfl rfl rfl (zq_good0 W hg) ?_
        refine zw_beq1 (g := 120) (pc' := 15) rfl rfl rfl (rfl : _ = (0 : Int)) (fun hb => ?_) (fun h9 => absurd h9 (by decide))
        refine yx_opE hby hK l0 h hF ha hp (Or.inr ?_)
        rcases hJ with hJ | hJ
        · exact absurd (hJ.1 h3).1 hg
        · exact hJ

theorem yx_operand {L : Nat} {σ : Nat → Int32} {d a : Nat} {T : Nat → Int} {n p : Nat} {lv : List Bool} {H : zp_H} {y : Int32} (hby : ∀ k, k < n → -128 ≤ T k ∧ T k ≤ 127) (hK : zx_KW L σ) (h : zx_S a 0 0 H) (ha : (a : Int) ≤ (H.2.1 72 45).toInt) (hg : (H.2.1 72 23).toInt = 0) (hV : yV T n lv p H) (hlv : lv ≠ []) : ∃ X, zp_Call L σ (d + 6) 195 [.inr (.inr (some 73)), .inl y] H X ∧ (fun X => ∃ H1, X = (.inl none, H1) ∧ zx_S a 1 0 H1 ∧ zx_F a H H1 ∧ ((H1.2.1 72 23).toInt = 0 → zx_phi H + 2 ≤ zx_phi H1) ∧ (a : Int) ≤ (H1.2.1 72 45).toInt ∧ zx_phi H ≤ zx_phi H1 ∧ yO T n (if y.toInt = 0 then 1 else 2, lv, p) H H1) X := by
  refine zw_met zm_195_t rfl rfl ?_
  refine zw_ld (n := 1) (k := 1) (f := zp_isI) (pc' := 1) rfl rfl rfl rfl rfl ?_
  refine zw_st (n := 1) (k := 2) (f := zp_isI) (pc' := 2) rfl rfl rfl rfl rfl ?_
  refine zw_s (pc' := 3) rfl rfl ?_
  refine zw_st (n := 1) (k := 3) (f := zp_isI) (pc' := 4) rfl rfl rfl rfl rfl ?_
  exact yx_opO hby hK _ H _ _ _ rfl (zw_gt (zw_gt rfl rfl rfl) rfl rfl) (zw_gt zw_g1 rfl rfl) zw_g1 h (zx_F_r H) ha (Int.le_refl _) (Or.inl ⟨fun _ => ⟨hg, lv, p, hlv, hV, xRR_r⟩, fun h9 => absurd h9 (by decide)⟩)
end
section
/-! ===== the reference closes a bracket, exactly ===== -/

theorem yr_opn_0 {w : Nat → Int32} : ∀ {n : Nat}, (∀ i, i < n → (w i).toInt < 14) → zr_opn w n = 0
  | 0, _ => rfl
  | n + 1, h => by
    unfold zr_opn
    rw [yr_opn_0 (fun i hi => h i (Nat.lt_succ_of_lt hi)), if_neg (by have := h n (Nat.lt_succ_self n); omega)]

theorem yx_isoL {L : Nat} {σ : Nat → Int32} {d : Nat} {H : zp_H} (W : zw_W H) (hw : 0 ≤ (H.2.1 72 46).toInt ∧ (H.2.1 72 46).toInt ≤ 700) : ∀ (n : Nat) (lv : zp_LV) (x : Int32), (x.toInt + 1).toNat = n → zp_get lv 0 = some (.inr (.inr (some 73))) → zp_get lv 1 = some (.inl x) → -1 ≤ x.toInt ∧ x.toInt < (H.2.1 72 46).toInt → (∀ i : Nat, x.toInt < i → i < (H.2.1 72 46).toInt.toNat → (H.2.1 91 i).toInt < 14) → zs_Safe L σ (fun X => ∃ v, X = (.inl (some (.inl v)), H) ∧ ((v = Int32.ofInt 1 ∧ ∃ i, i < (H.2.1 72 46).toInt.toNat ∧ 14 ≤ (H.2.1 91 i).toInt) ∨ (v = Int32.ofInt 0 ∧ ∀ i, i < (H.2.1 72 46).toInt.toNat → (H.2.1 91 i).toInt < 14))) zm_202 [] (d + 1) (7, lv, [], H, (0, 0)) := by
  intro n
  induction n with
  | zero =>
    intro lv x hn l0 l1 hx hno
    refine zw_ld (n := 1) (k := 1) (f := zp_isI) (pc' := 8) rfl rfl l1 rfl rfl ?_
    refine zw_blt1 (g := 29) (pc' := 11) rfl rfl rfl rfl (fun hb => ?_) (fun hb => ?_)
    · refine zw_ld (n := 1) (k := 1) (f := zp_isI) (pc' := 30) rfl rfl l1 rfl rfl ?_
      refine zw_blt1 (g := 37) (pc' := 33) rfl rfl rfl rfl (fun hc => ?_) (fun hc => ?_)
      · refine zw_s (pc' := 38) rfl rfl ?_
        refine zw_rz rfl rfl (by decide) ?_
        exact ⟨_, rfl, Or.inr ⟨rfl, fun i hi => hno i (by omega) hi⟩⟩
      · omega
    · omega
  | succ n ih =>
    intro lv x hn l0 l1 hx hno
    have e1 : (x + Int32.ofInt (-1)).toInt = x.toInt - 1 := by
      have h1 : (Int32.ofInt (-1)).toInt = -1 := rfl
      rw [zn_add (by omega) (by omega), h1]
      omega
    refine zw_ld (n := 1) (k := 1) (f := zp_isI) (pc' := 8) rfl rfl l1 rfl rfl ?_
    refine zw_blt1 (g := 29) (pc' := 11) rfl rfl rfl rfl (fun hb => ?_) (fun hb => ?_)
    · omega
    · refine zw_ld (n := 1) (k := 0) (f := zp_isR) (pc' := 12) rfl rfl l0 rfl rfl ?_
      refine zw_gR (q := 72) (pc' := 15) W rfl rfl rfl rfl (W.2 72 60 _ rfl) rfl ?_
      refine zw_ld (n := 1) (k := 1) (f := zp_isI) (pc' := 16) rfl rfl l1 rfl rfl ?_
      refine zw_ia (q := 91) (pc' := 17) W rfl rfl (by decide) (⟨hb, by show _ < ((800 : Nat) : Int); omega⟩) rfl rfl ?_
      by_cases ho : 14 ≤ (H.2.1 91 x.toInt.toNat).toInt
      · refine zw_c (pc' := 20) (zw_cs (Y := zm_200) rfl rfl zm_200_t) rfl rfl rfl rfl rfl (zq_open1 W ho) ?_
        refine zw_bne1 (g := 29) (pc' := 23) rfl rfl rfl (rfl : _ = (1 : Int)) (fun hb => ?_) (fun h9 => absurd h9 (by decide))
        refine zw_ld (n := 1) (k := 1) (f := zp_isI) (pc' := 30) rfl rfl l1 rfl rfl ?_
        refine zw_blt1 (g := 37) (pc' := 33) rfl rfl rfl rfl (fun hc => ?_) (fun hc => ?_)
        · omega
        · refine zw_s (pc' := 34) rfl rfl ?_
          refine zw_s (pc' := 38) rfl rfl ?_
          refine zw_rz rfl rfl (by decide) ?_
          exact ⟨_, rfl, Or.inl ⟨rfl, x.toInt.toNat, by omega, ho⟩⟩
      · refine zw_c (pc' := 20) (zw_cs (Y := zm_200) rfl rfl zm_200_t) rfl rfl rfl rfl rfl (zq_open0 W (by omega)) ?_
        refine zw_bne1 (g := 29) (pc' := 23) rfl rfl rfl (rfl : _ = (0 : Int)) (fun h9 => absurd h9 (by decide)) (fun hb => ?_)
        refine zw_ii (pc' := 26) rfl l1 rfl rfl ?_
        refine zw_s (pc' := 7) rfl rfl ?_
        refine ih _ _ (by omega) (zw_gt l0 rfl rfl) zw_g1 (by omega) ?_
        intro i hi hi2
        by_cases h9 : i = x.toInt.toNat
        · rw [h9]
          omega
        · exact hno i (by omega) hi2

theorem yx_isOpened {L : Nat} {σ : Nat → Int32} {d : Nat} {H : zp_H} (W : zw_W H) (hw : 0 ≤ (H.2.1 72 46).toInt ∧ (H.2.1 72 46).toInt ≤ 700) : ∃ X, zp_Call L σ (d + 2) 202 [.inr (.inr (some 73))] H X ∧ (fun X => ∃ v, X = (.inl (some (.inl v)), H) ∧ ((v = Int32.ofInt 1 ∧ ∃ i, i < (H.2.1 72 46).toInt.toNat ∧ 14 ≤ (H.2.1 91 i).toInt) ∨ (v = Int32.ofInt 0 ∧ ∀ i, i < (H.2.1 72 46).toInt.toNat → (H.2.1 91 i).toInt < 14))) X := by
  have e1 : (H.2.1 72 46 - Int32.ofInt 1).toInt = (H.2.1 72 46).toInt - 1 := zw_m1 (by omega)
  refine zw_met zm_202_t rfl rfl ?_
  refine zw_ld (n := 1) (k := 0) (f := zp_isR) (pc' := 1) rfl rfl rfl rfl rfl ?_
  refine zw_gI (q := 72) (pc' := 4) W rfl rfl rfl rfl rfl rfl ?_
  refine zw_s (pc' := 5) rfl rfl ?_
  refine zw_isub (pc' := 6) rfl rfl ?_
  refine zw_st (n := 1) (k := 1) (f := zp_isI) (pc' := 7) rfl rfl rfl rfl rfl ?_
  exact yx_isoL W hw _ _ _ rfl (zw_gt rfl rfl rfl) zw_g1 ⟨by omega, by omega⟩ (fun i h1 h2 => by omega)

theorem yx_closes {L : Nat} {σ : Nat → Int32} {d a : Nat} {T : Nat → Int} {n p : Nat} {b : Bool} {lv : List Bool} {H : zp_H} (hby : ∀ k, k < n → -128 ≤ T k ∧ T k ≤ 127) (h : zx_S a 1 0 H) (h0 : (H.2.1 72 23).toInt = 0) (hs : (H.2.1 72 28).toInt ≠ 0) (hop : 1 ≤ zr_opn (H.2.1 91) (H.2.1 72 46).toInt.toNat) (hV : yV T n (b :: lv) p H) : ∃ X, zp_Call L σ (d + 4) 203 [.inr (.inr (some 73))] H X ∧ ∃ H1, X = (.inl none, H1) ∧ zx_S a 1 0 H1 ∧ zx_F a H H1 ∧ (H1.2.1 72 23).toInt = 0 ∧ zx_phi H + 2 ≤ zx_phi H1 ∧ yV T n lv (ys_nx T n p) H1 ∧ ∀ a' W' O', xV a' W' O' H → xV a' (xDp 0 W').2.tail (O' ++ (xDp 0 W').1.map xAc) H1 := by
  have W := zR_Wd (zR_dn h.1)
  refine zw_met zm_203_t rfl rfl ?_
  obtain ⟨_, c1, K, rfl, c2, c3, c4, c5, c6⟩ := zx_drops (L := L) (σ := σ) (d := d) (y := Int32.ofInt 0) h (zx_S_a h h0)
  have WK := zR_Wd (zR_dn c2.1)
  have k23 := zx_fe c3.1 23 rfl rfl rfl
  have k27 := zx_fe c3.1 27 rfl rfl rfl
  have k28 := zx_fe c3.1 28 rfl rfl rfl
  have hphi := zx_phi_i k27 k28
  obtain ⟨t0, w0⟩ := zx_top c2
  have hw : 0 < (K.2.1 72 46).toInt := by
    by_cases h9 : (K.2.1 72 46).toInt = 0
    · have h8 : zr_opn (K.2.1 91) (K.2.1 72 46).toInt.toNat = 0 := by rw [h9]; rfl
      omega
    · omega
  have ho : 14 ≤ (K.2.1 91 ((K.2.1 72 46).toInt - 1).toNat).toInt := by
    rcases c6 (by decide) with h9 | h9
    · omega
    · exact h9
  have hT := zx_clT c2 (by omega) (by omega) hw ho
  obtain ⟨K1, d1, d2, d3, d4, d5, d6⟩ := zx_T_goes (L := L) (σ := σ) (d := d + 1) hT
  have e45 : (zw_I (zw_I K 72 46 (K.2.1 72 46 - Int32.ofInt 1)) 72 47 (K.2.1 72 47 - Int32.ofInt 1)).2.1 72 45 = K.2.1 72 45 := zw_ne (zw_ne rfl rfl) rfl
  have eph : zx_phi (zw_I (zw_I K 72 46 (K.2.1 72 46 - Int32.ofInt 1)) 72 47 (K.2.1 72 47 - Int32.ofInt 1)) = zx_phi K := zx_phi_e (zw_ne (zw_ne rfl rfl) rfl) (zw_ne (zw_ne rfl rfl) rfl)
  have hVK : yV T n (b :: lv) p K := yV_F hV c3.1 rfl ⟨fun k => rfl, fun k => rfl⟩ rfl
  have e47 : (K.2.1 72 47).toInt = ((lv.length + 1 : Nat) : Int) := hVK.2.2.2.1
  have hVC : yV T n lv p (zw_I (zw_I K 72 46 (K.2.1 72 46 - Int32.ofInt 1)) 72 47 (K.2.1 72 47 - Int32.ofInt 1)) := by
    refine ⟨yr_T_I (yr_T_I hVK.1 rfl) rfl, yr_k_c (fun k hk => zw_ne (zw_ne rfl ?_) ?_) rfl hVK.2.1, hVK.2.2.1, ?_, yt_c (funext fun i => zw_ne (zw_ne rfl rfl) rfl) hVK.2.2.2.2.2⟩
    · rcases (show k = 27 ∨ k = 28 ∨ k = 29 ∨ k = 30 ∨ k = 31 ∨ k = 32 by omega) with rfl | rfl | rfl | rfl | rfl | rfl <;> rfl
    · rcases (show k = 27 ∨ k = 28 ∨ k = 29 ∨ k = 30 ∨ k = 31 ∨ k = 32 by omega) with rfl | rfl | rfl | rfl | rfl | rfl <;> rfl
    · refine (congrArg Int32.toInt zw_eq).trans ?_
      rw [zw_m1 (by omega)]
      omega
  have hgo := (yx_goes hby hT.1 hVC d1).1
  refine zw_ld (n := 1) (k := 0) (f := zp_isR) (pc' := 1) rfl rfl rfl rfl rfl ?_
  refine zw_s (pc' := 2) rfl rfl ?_
  refine zw_cn (pc' := 5) (zw_cv (q := 72) (Y := zm_199) W.1 rfl rfl zm_199_t rfl rfl) rfl rfl rfl rfl rfl (c1) ?_
  refine zw_ld (n := 1) (k := 0) (f := zp_isR) (pc' := 6) rfl rfl rfl rfl rfl ?_
  refine zw_s (pc' := 7) rfl rfl ?_
  refine zw_gI (q := 72) (pc' := 10) WK rfl rfl rfl rfl rfl rfl ?_
  refine zw_s (pc' := 11) rfl rfl ?_
  refine zw_isub (pc' := 12) rfl rfl ?_
  refine zw_pI (q := 72) (pc' := 15) WK rfl rfl rfl rfl rfl rfl ?_
  refine zw_ld (n := 1) (k := 0) (f := zp_isR) (pc' := 16) rfl rfl rfl rfl rfl ?_
  refine zw_s (pc' := 17) rfl rfl ?_
  refine zw_gI (q := 72) (pc' := 20) WK rfl rfl rfl rfl (zw_ne rfl rfl) rfl ?_
  refine zw_s (pc' := 21) rfl rfl ?_
  refine zw_isub (pc' := 22) rfl rfl ?_
  refine zw_pI (q := 72) (pc' := 25) WK rfl rfl rfl rfl rfl rfl ?_
  refine zw_ld (n := 1) (k := 0) (f := zp_isR) (pc' := 26) rfl rfl rfl rfl rfl ?_
  refine zw_cn (pc' := 29) (zw_cv (q := 72) (Y := zm_171) WK.1 rfl rfl zm_171_t rfl rfl) rfl rfl rfl rfl rfl (d1) ?_
  refine zw_rn rfl rfl ?_
  refine ⟨K1, rfl, d2, zx_F_t (zx_Fd_F c3) (zx_F_t ⟨zk_Fr_I (zk_Fr_I (zk_Fr_r K) rfl rfl) rfl rfl, fun i _ => zw_ne (zw_ne rfl rfl) rfl⟩ d3), d4, by omega, hgo, fun a' W' O' k' => ?_⟩
  have kd := xV_dr (l := 0) h (by decide) c1 k'
  have n46 := kd.1
  have f : ∀ V O9, xV a' V O9 K → 0 < V.length → xV a' V.tail O9 (zw_I (zw_I K 72 46 (K.2.1 72 46 - Int32.ofInt 1)) 72 47 (K.2.1 72 47 - Int32.ofInt 1)) := fun V O9 k9 hl => by
    match V, hl with
    | b9 :: V9, _ =>
      have k8 := k9.1
      have k8 : (K.2.1 72 46).toInt = ((V9.length + 1 : Nat) : Int) := k8
      exact xV_47 (xVn_pop (by show _ = ((V9.length : Nat) : Int); rw [zw_m1 (by omega)]; omega) k9)
  exact xV_goes hT.1 d1 (f _ _ kd (by omega))
end
