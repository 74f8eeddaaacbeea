/-! ===== the reference's token at hand, in the same words ===== -/
theorem yw_rl_len {T : Nat → Int} {s : Nat} : ∀ (m : Nat), (yw_rl T s m).length = m
  | 0 => rfl
  | m + 1 => by
    show (yw_rl T s m).length + 1 = m + 1
    rw [yw_rl_len m]
/-- a word's letters -/
theorem ys_let {T : Nat → Int} {n p : Nat} (h : ys_kd T n p = 3) : ∀ t, t < ys_nx T n p - ys_st T n p → 97 ≤ T (ys_st T n p + t) ∧ T (ys_st T n p + t) ≤ 122 := by
  obtain ⟨h1, h2, h3⟩ := ys_vl_w h
  have e : ys_nx T n p = ys_run ys_L T (n - ys_st T n p) (ys_st T n p) := by
    unfold ys_nx ys_es
    rw [if_neg (by omega), h2]
    rfl
  intro t ht
  rw [e] at ht
  exact of_decide_eq_true (ys_run_p _ _ t ht)
theorem yw_cls_l {R : List Nat} (h : 7 < R.length) : yw_cls R = 21 := by
  have k : ∀ (w : List Nat), w.length ≤ 7 → ¬ R = w := fun w hw h9 => by
    rw [h9] at h
    omega
  unfold yw_cls
  rw [if_neg (k _ (by decide)), if_neg (k _ (by decide)), if_neg (k _ (by decide)), if_neg (k _ (by decide)), if_neg (k _ (by decide)), if_neg (k _ (by decide)), if_neg (k _ (by decide)), if_neg (k _ (by decide)), if_neg (k _ (by decide)), if_neg (k _ (by decide)), if_neg (k _ (by decide)), if_neg (k _ (by decide)), if_neg (k _ (by decide)), if_neg (k _ (by decide)), if_neg (k _ (by decide)), if_neg (k _ (by decide)), if_neg (k _ (by decide)), if_neg (k _ (by decide)), if_neg (k _ (by decide)), if_neg (k _ (by decide)), if_neg (k _ (by decide))]
theorem yr_s_3 {k : Int} : yr_s k = 1 ↔ k = 3 := by
  unfold yr_s
  split
  · constructor <;> intro <;> omega
  · split
    · constructor <;> intro <;> omega
    · split
      · constructor <;> intro <;> omega
      · split <;> constructor <;> intro <;> omega
theorem yr_s_2 {k : Int} : yr_s k = 2 ↔ k = 2 := by
  unfold yr_s
  split
  · constructor <;> intro <;> omega
  · split
    · constructor <;> intro <;> omega
    · split
      · constructor <;> intro <;> omega
      · split <;> constructor <;> intro <;> omega
theorem yr_s_4 {k : Int} : yr_s k = 3 ↔ k = 4 := by
  unfold yr_s
  split
  · constructor <;> intro <;> omega
  · split
    · constructor <;> intro <;> omega
    · split
      · constructor <;> intro <;> omega
      · split <;> constructor <;> intro <;> omega
theorem ys_kd_c {T : Nat → Int} {n p : Nat} : ys_kd T n p = 0 ∨ ys_kd T n p = 1 ∨ ys_kd T n p = 2 ∨ ys_kd T n p = 3 ∨ ys_kd T n p = 4 := by
  unfold ys_kd ys_ks
  split
  · exact Or.inl rfl
  · cases ys_L (T (ys_st T n p)) with
    | true => exact Or.inr (Or.inr (Or.inr (Or.inl rfl)))
    | false =>
      cases ys_D (T (ys_st T n p)) with
      | true => exact Or.inr (Or.inr (Or.inl rfl))
      | false =>
        cases ys_G (T (ys_st T n p)) with
        | true => exact Or.inr (Or.inr (Or.inr (Or.inr rfl)))
        | false => exact Or.inr (Or.inl rfl)
theorem yr_s_0 {T : Nat → Int} {n p : Nat} : yr_s (ys_kd T n p) = 0 ↔ ys_kd T n p = 0 := by
  rcases ys_kd_c (T := T) (n := n) (p := p) with h | h | h | h | h <;> rw [h] <;> decide
/-- the word at hand -/
theorem yr_zg {T : Nat → Int} {n p : Nat} {H : zp_H} (hp : p ≤ n) (h : yr_k T n p H) : zg H = if ys_kd T n p = 3 then yw_m (ys_vl T n p) else -1 := by
  obtain ⟨h1, h2, h3, h4, h5, h6, h7⟩ := h
  unfold zg
  by_cases hk : ys_kd T n p = 3
  · rw [if_pos hk, (ys_vl_w hk).2.2, yw_wi (ys_nxb hp).2.1 (ys_let hk)]
    by_cases hl : 7 < ys_nx T n p - ys_st T n p
    · rw [if_pos (Or.inr (by omega)), yw_cls_l (by rw [yw_rl_len]; exact hl)]
      rfl
    · rw [if_neg (by rw [h3, yr_s_3.mpr hk]; omega), h7 hk, show min (ys_nx T n p - ys_st T n p) 7 = ys_nx T n p - ys_st T n p by omega, yw_zg (by omega) (ys_let hk), yw_rc]
  · rw [if_neg hk, if_pos (Or.inl (by rw [h3]; exact fun h9 => hk (yr_s_3.mp h9)))]
/-- a sign at hand -/
theorem ys_vl_g {T : Nat → Int} {n p : Nat} (h : ys_kd T n p = 4) : ys_vl T n p = T (ys_st T n p) ∧ ys_G (T (ys_st T n p)) = true := by
  unfold ys_kd ys_ks at h
  by_cases h1 : n ≤ ys_st T n p
  · rw [if_pos h1] at h
    omega
  · rw [if_neg h1] at h
    cases hL : ys_L (T (ys_st T n p)) with
    | true => rw [hL] at h; exact absurd (show (3 : Int) = 4 from h) (by decide)
    | false =>
      rw [hL] at h
      cases hD : ys_D (T (ys_st T n p)) with
      | true => rw [hD] at h; exact absurd (show (2 : Int) = 4 from h) (by decide)
      | false =>
        rw [hD] at h
        cases hG : ys_G (T (ys_st T n p)) with
        | true =>
          refine ⟨?_, rfl⟩
          unfold ys_vl ys_vs
          rw [hL, hD]
          rfl
        | false => rw [hG] at h; exact absurd (show (1 : Int) = 4 from h) (by decide)
theorem yr_sg {T : Nat → Int} {n p : Nat} {H : zp_H} (h : yr_k T n p H) {c : Int} : ((H.2.1 72 28).toInt = 3 ∧ (H.2.1 72 32).toInt = c) ↔ (ys_kd T n p = 4 ∧ ys_vl T n p = c) := by
  obtain ⟨h1, h2, h3, h4, h5, h6, h7⟩ := h
  rw [h3, yr_s_4]
  constructor
  · rintro ⟨a, b⟩
    obtain ⟨g1, g2⟩ := ys_vl_g a
    have g2 := of_decide_eq_true g2
    rw [h6 (by omega)] at b
    unfold ys_u at b
    rw [if_neg (by omega)] at b
    exact ⟨a, by omega⟩
  · rintro ⟨a, b⟩
    obtain ⟨g1, g2⟩ := ys_vl_g a
    have g2 := of_decide_eq_true g2
    refine ⟨a, ?_⟩
    rw [h6 (by omega)]
    unfold ys_u
    rw [if_neg (by omega)]
    omega
/-- a number at hand: its value, or it is too long -/
theorem yr_nm {T : Nat → Int} {n p : Nat} {H : zp_H} (hp : p ≤ n) (h : yr_k T n p H) (hk : ys_kd T n p = 2) : (4 < (H.2.1 72 30).toInt ∧ ys_vl T n p = 2147483647) ∨ ((H.2.1 72 30).toInt ≤ 4 ∧ (H.2.1 72 31).toInt = ys_vl T n p ∧ 0 ≤ ys_vl T n p ∧ ys_vl T n p ≤ 9999) := by
  obtain ⟨h1, h2, h3, h4, h5, h6, h7⟩ := h
  have hb := ys_nxb (T := T) hp
  obtain ⟨g1, g2, g3, g4⟩ := ys_vl_n hk
  by_cases hl : 4 < ys_nx T n p - ys_st T n p
  · rw [if_pos hl] at g4
    exact Or.inl ⟨by omega, g4⟩
  · rw [if_neg hl] at g4
    refine Or.inr ⟨by omega, ?_, ?_⟩
    · rw [h5 hk, show min (ys_nx T n p - ys_st T n p) 4 = ys_nx T n p - ys_st T n p by omega, g4]
    · rw [g4]
      have b := ys_nm_b (T := T) (s := ys_st T n p) (ys_nx T n p - ys_st T n p) (by omega) (fun t ht => by
        rw [g3] at ht
        exact of_decide_eq_true (ys_run_p _ _ t ht))
      have c : ys_10 (ys_nx T n p - ys_st T n p) ≤ 9999 := by
        have : ys_nx T n p - ys_st T n p ≤ 4 := by omega
        generalize ys_nx T n p - ys_st T n p = m at this
        match m, this with
        | 0, _ => decide
        | 1, _ => decide
        | 2, _ => decide
        | 3, _ => decide
        | 4, _ => decide
      omega
/-- where the reference stands: the text, the token, the open brackets -/
def yt (H : zp_H) : List Bool → Prop
  | [] => True
  | b :: l => (H.2.1 92 (l.length + 1)).toInt = (if b then 1 else 0) ∧ yt H l
def yV (T : Nat → Int) (n : Nat) (lv : List Bool) (p : Nat) (H : zp_H) : Prop := yr_T T n H ∧ yr_k T n p H ∧ p ≤ n ∧ (H.2.1 72 47).toInt = lv.length ∧ yt H lv
/-- where it met its fault -/
def yD (T : Nat → Int) (n : Nat) (r : Int × Nat) (H : zp_H) : Prop := yr_T T n H ∧ (H.2.1 72 23).toInt = r.1 ∧ r.1 ≠ 0 ∧ (H.2.1 72 24).toInt = ys_st T n r.2
theorem yt_c {H H1 : zp_H} (e : H1.2.1 92 = H.2.1 92) : ∀ {lv : List Bool}, yt H lv → yt H1 lv
  | [], _ => trivial
  | b :: l, h => ⟨by rw [e]; exact h.1, yt_c e h.2⟩
theorem yt_u {H H1 : zp_H} {m : Nat} (e : ∀ k, k ≤ m → H1.2.1 92 k = H.2.1 92 k) : ∀ {lv : List Bool}, lv.length ≤ m → yt H lv → yt H1 lv
  | [], _, _ => trivial
  | b :: l, hm, h => by
    have hm : l.length + 1 ≤ m := hm
    exact ⟨by rw [e _ hm]; exact h.1, yt_u e (by omega) h.2⟩
theorem yr_k_c {T : Nat → Int} {n p : Nat} {H H1 : zp_H} (e : ∀ k, (27 ≤ k ∧ k ≤ 32) → H1.2.1 72 k = H.2.1 72 k) (e2 : H1.2.2.1 72 33 = H.2.2.1 72 33) (h : yr_k T n p H) : yr_k T n p H1 := by
  unfold yr_k
  rw [e 27 (by decide), e 28 (by decide), e 29 (by decide), e 30 (by decide), e 31 (by decide), e 32 (by decide), e2]
  exact h
theorem yr_T_c {T : Nat → Int} {n : Nat} {H H1 : zp_H} (e : H1.2.1 72 26 = H.2.1 72 26) (e2 : H1.2.1 81 = H.2.1 81) (e3 : H1.2.1 72 23 = H.2.1 72 23) (e4 : H1.2.1 72 24 = H.2.1 72 24) (h : yr_T T n H) : yr_T T n H1 := by
  unfold yr_T yr_F
  rw [e, e2, e3, e4]
  exact h
/-- a frame that leaves the text, the token and the brackets alone -/
theorem yV_F {T : Nat → Int} {n p : Nat} {lv : List Bool} {mods : List (Nat × Nat)} {am : List Nat} {H H1 : zp_H} (h : yV T n lv p H) (hF : zk_Fr zg mods am H H1) (hm : ([23, 24, 26, 27, 28, 29, 30, 31, 32, 33, 47].all (fun k => ((zk_inm mods 72 k).or (zk_ina am 72)).not)) = true) (hm2 : (∀ k, zk_inm mods 81 k = false) ∧ (∀ k, zk_inm mods 92 k = false)) (ha : ((zk_ina am 81).or (zk_ina am 92)) = false) : yV T n lv p H1 := by
  have k0 : ∀ k, k ∈ [23, 24, 26, 27, 28, 29, 30, 31, 32, 33, 47] → (zk_inm mods 72 k = false ∧ zk_ina am 72 = false) := fun k hk => by
    have := List.all_eq_true.mp hm k hk
    cases h1 : zk_inm mods 72 k <;> cases h2 : zk_ina am 72 <;> rw [h1, h2] at this <;> first | exact ⟨rfl, rfl⟩ | exact absurd this (by decide)
  have kf : ∀ k, k ∈ [23, 24, 26, 27, 28, 29, 30, 31, 32, 33, 47] → Nat.beq k 100 = false → H1.2.1 72 k = H.2.1 72 k := fun k hk hk9 => Int32.toInt_inj.mp (zx_fe hF k (k0 k hk).1 (k0 k hk).2 hk9)
  obtain ⟨a1, a2⟩ : zk_ina am 81 = false ∧ zk_ina am 92 = false := by
    cases h1 : zk_ina am 81 <;> cases h2 : zk_ina am 92 <;> rw [h1, h2] at ha <;> first | exact ⟨rfl, rfl⟩ | exact absurd ha (by decide)
  obtain ⟨v1, v2, v3, v4, v5⟩ := h
  refine ⟨yr_T_c (kf 26 (by decide) rfl) (zx_ae hF 81 hm2.1 a1 rfl) (kf 23 (by decide) rfl) (kf 24 (by decide) rfl) v1, yr_k_c (fun k hk => ?_) ((hF.2 72 33 (k0 33 (by decide)).1 (k0 33 (by decide)).2).2) v2, v3, ?_, yt_c (zx_ae hF 92 hm2.2 a2 rfl) v5⟩
  · rcases (show k = 27 ∨ k = 28 ∨ k = 29 ∨ k = 30 ∨ k = 31 ∨ k = 32 by omega) with rfl | rfl | rfl | rfl | rfl | rfl
    · exact kf 27 (by decide) rfl
    · exact kf 28 (by decide) rfl
    · exact kf 29 (by decide) rfl
    · exact kf 30 (by decide) rfl
    · exact kf 31 (by decide) rfl
    · exact kf 32 (by decide) rfl
  · rw [kf 47 (by decide) rfl]
    exact v4
theorem yD_F {T : Nat → Int} {n : Nat} {r : Int × Nat} {mods : List (Nat × Nat)} {am : List Nat} {H H1 : zp_H} (h : yD T n r H) (hF : zk_Fr zg mods am H H1) (hm : ([23, 24, 26].all (fun k => ((zk_inm mods 72 k).or (zk_ina am 72)).not)) = true) (hm2 : ∀ k, zk_inm mods 81 k = false) (ha : zk_ina am 81 = false) : yD T n r H1 := by
  have k0 : ∀ k, k ∈ [23, 24, 26] → (zk_inm mods 72 k = false ∧ zk_ina am 72 = false) := fun k hk => by
    have := List.all_eq_true.mp hm k hk
    cases h1 : zk_inm mods 72 k <;> cases h2 : zk_ina am 72 <;> rw [h1, h2] at this <;> first | exact ⟨rfl, rfl⟩ | exact absurd this (by decide)
  have kf : ∀ k, k ∈ [23, 24, 26] → Nat.beq k 100 = false → H1.2.1 72 k = H.2.1 72 k := fun k hk hk9 => Int32.toInt_inj.mp (zx_fe hF k (k0 k hk).1 (k0 k hk).2 hk9)
  obtain ⟨v1, v2, v3, v4⟩ := h
  exact ⟨yr_T_c (kf 26 (by decide) rfl) (zx_ae hF 81 hm2 ha rfl) (kf 23 (by decide) rfl) (kf 24 (by decide) rfl) v1, by rw [kf 23 (by decide) rfl]; exact v2, v3, by rw [kf 24 (by decide) rfl]; exact v4⟩
theorem zR_T {H : zp_H} (h : zk_Bs zR zg zJ H) : zk_Bs zR0 zg zT H := by
  have h := zR_dn h
  exact ⟨h.1, h.2.1, h.2.2.1, h.2.2.2.1, h.2.2.2.2.1, h.2.2.2.2.2.1, h.2.2.2.2.2.2.1, trivial⟩
/-- on to the next token, exactly -/
theorem yx_goes {L : Nat} {σ : Nat → Int32} {d : Nat} {T : Nat → Int} {n p : Nat} {lv : List Bool} {H H1 : zp_H} (hb : ∀ k, k < n → -128 ≤ T k ∧ T k ≤ 127) (hB : zk_Bs zR zg zJ H) (h : yV T n lv p H) (hc : zp_Call L σ d 171 [.inr (.inr (some 73))] H (.inl none, H1)) : yV T n lv (ys_nx T n p) H1 ∧ zk_Fr zg yr_m [] H H1 := by
  obtain ⟨v1, v2, v3, v4, v5⟩ := h
  have hn := ys_nxb (T := T) v3
  obtain ⟨_, c1, H2, rfl, c2, c3, c4⟩ := yr_goes (L := L) (σ := σ) (d := d) (p := ys_nx T n p) hb ⟨zR_T hB, v1⟩ v2.2.1 hn.2.2.1
  have e := zp_Call_u hc c1
  have e : H1 = H2 := by cases e; rfl
  subst e
  refine ⟨⟨c2.2, c4, hn.2.2.1, ?_, yt_c (zx_ae c3 92 (fun k => rfl) rfl rfl) v5⟩, c3⟩
  rw [zx_fe c3 47 rfl rfl rfl]
  exact v4
/-- a fault, exactly -/
theorem yx_wrong {L : Nat} {σ : Nat → Int32} {d : Nat} {T : Nat → Int} {n p : Nat} {lv : List Bool} {H H1 : zp_H} {y : Int32} (hB : zk_Bs zR zg zJ H) (hg : (H.2.1 72 23).toInt = 0) (h : yV T n lv p H) (hy : y.toInt ≠ 0) (hc : zp_Call L σ d 180 [.inr (.inr (some 73)), .inl y] H (.inl none, H1)) : yD T n (y.toInt, p) H1 := by
  have e := zp_Call_u hc (zq_wrong0 (d := 0) (zR_Wd (zR_dn hB)) hg)
  have e : H1 = zw_I (zw_I H 72 23 y) 72 24 (H.2.1 72 29) := by cases e; rfl
  subst e
  refine ⟨yr_T_w h.1 hy, congrArg Int32.toInt (zw_ne zw_eq rfl), hy, ?_⟩
  exact (congrArg Int32.toInt zw_eq).trans h.2.1.1
