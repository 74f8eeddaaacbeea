/-! ===== codes of rules: the reference ===== -/

/-- the row as the reference keeps it -/
def xR2 : List xIt → List Int
  | [] => []
  | i :: O => (if i.1 < 2 then [(i.1 : Int) + 1, i.2] else [(i.1 : Int)]) ++ xR2 O
theorem xR2_a {O D : List xIt} : xR2 (O ++ D) = xR2 O ++ xR2 D := by
  induction O with
  | nil => rfl
  | cons i O ih =>
    show (if i.1 < 2 then [(i.1 : Int) + 1, i.2] else [(i.1 : Int)]) ++ xR2 (O ++ D) = ((if i.1 < 2 then [(i.1 : Int) + 1, i.2] else [(i.1 : Int)]) ++ xR2 O) ++ xR2 D
    rw [ih, List.append_assoc]
theorem xR2_ac {a : Nat} (ha : 2 ≤ a) : xR2 [xAc a] = [(a : Int)] := by
  show (if a < 2 then _ else [(a : Int)]) ++ [] = _
  rw [if_neg (by omega)]
  rfl
/-- what waits, the top first -/
def xWt (f : Nat → Int32) : List Nat → Prop
  | [] => True
  | b :: W => (f W.length).toInt = (b : Int) ∧ 2 ≤ b ∧ xWt f W
theorem xWt_c {f g : Nat → Int32} : ∀ {W : List Nat}, (∀ i, i < W.length → g i = f i) → xWt f W → xWt g W
  | [], _, _ => trivial
  | b :: W, h, h1 => ⟨by rw [h _ (by show W.length < W.length + 1; omega)]; exact h1.1, h1.2.1, xWt_c (fun i hi => h i (by show i < W.length + 1; omega)) h1.2.2⟩
def xRo (f : Nat → Int32) : Nat → List Int → Prop
  | _, [] => True
  | a, y :: M => (f a).toInt = y ∧ xRo f (a + 1) M
theorem xRo_c {f g : Nat → Int32} : ∀ {M : List Int} {a : Nat}, (∀ i, a ≤ i → i < a + M.length → g i = f i) → xRo f a M → xRo g a M
  | [], _, _, _ => trivial
  | y :: M, a, h, h1 => ⟨by rw [h a (Nat.le_refl _) (by show a < a + (M.length + 1); omega)]; exact h1.1, xRo_c (fun i i1 i2 => h i (by omega) (by show i < a + (M.length + 1); omega)) h1.2⟩
theorem xRo_a {f : Nat → Int32} : ∀ {M N : List Int} {a : Nat}, xRo f a M → xRo f (a + M.length) N → xRo f a (M ++ N)
  | [], _, _, _, h => h
  | y :: M, N, a, h, h1 => ⟨h.1, xRo_a h.2 (by rw [show a + 1 + M.length = a + (M.length + 1) by omega]; exact h1)⟩
/-- the reference's waits and the row that it put out from place a on -/
def xVn (a : Nat) (W : List Nat) (M : List Int) (H : zp_H) : Prop := (H.2.1 72 46).toInt = (W.length : Int) ∧ xWt (H.2.1 91) W ∧ (H.2.1 72 45).toInt = (a : Int) + (M.length : Int) ∧ xRo (H.2.1 90) a M
theorem xVn_c {a : Nat} {W : List Nat} {M : List Int} {H H1 : zp_H} (h46 : H1.2.1 72 46 = H.2.1 72 46) (h91 : H1.2.1 91 = H.2.1 91) (h45 : H1.2.1 72 45 = H.2.1 72 45) (h90 : H1.2.1 90 = H.2.1 90) (h : xVn a W M H) : xVn a W M H1 := ⟨by rw [h46]; exact h.1, by rw [h91]; exact h.2.1, by rw [h45]; exact h.2.2.1, by rw [h90]; exact h.2.2.2⟩
theorem xVn_pt {a : Nat} {W : List Nat} {M : List Int} {H : zp_H} {y : Int32} {z : Int} (hy : y.toInt = z) (h16 : (H.2.1 72 45).toInt < 1600) (h : xVn a W M H) : xVn a W (M ++ [z]) (zx_pt H y) := by
  have h3 := h.2.2.1
  refine ⟨by rw [zx_pt_f 46 rfl]; exact h.1, by rw [zx_pt_w]; exact h.2.1, ?_, xRo_a (xRo_c (fun i i1 i2 => zx_pt_c (by omega)) h.2.2.2) ⟨?_, trivial⟩⟩
  · rw [zx_pt_t h16, h3, List.length_append]
    show _ = _ + ((M.length + 1 : Nat) : Int)
    omega
  · rw [show a + M.length = (H.2.1 72 45).toInt.toNat by omega, zx_pt_y]
    exact hy
theorem xVn_pop {a b : Nat} {W : List Nat} {M : List Int} {H : zp_H} {x : Int32} (hx : x.toInt = (W.length : Int)) (h : xVn a (b :: W) M H) : xVn a W M (zw_I H 72 46 x) := ⟨(congrArg Int32.toInt zw_eq).trans hx, xWt_c (fun i _ => zw_ne rfl rfl) h.2.1.2.2, (congrArg Int32.toInt (zw_ne rfl rfl : _ = H.2.1 72 45)).trans h.2.2.1, xRo_c (fun i _ _ => zw_ne rfl rfl) h.2.2.2⟩
theorem xVn_wt {a b : Nat} {W : List Nat} {M : List Int} {H : zp_H} {y : Int32} (hy : y.toInt = (b : Int)) (hb : 2 ≤ b) (h8 : (H.2.1 72 46).toInt < 800) (h : xVn a W M H) : xVn a (b :: W) M (zx_wt H y) := by
  have h1 := h.1
  refine ⟨?_, ⟨?_, hb, xWt_c (fun i hi => ?_) h.2.1⟩, (congrArg Int32.toInt (zw_ne (zw_ne rfl rfl) rfl : _ = H.2.1 72 45)).trans h.2.2.1, xRo_c (fun i _ _ => zw_ne (zw_ne rfl rfl) rfl) h.2.2.2⟩
  · show ((zx_wt H y).2.1 72 46).toInt = ((W.length + 1 : Nat) : Int)
    refine (congrArg Int32.toInt zw_eq).trans ?_
    rw [zw_p1 (by omega)]
    omega
  · rw [show W.length = (H.2.1 72 46).toInt.toNat by omega]
    exact (congrArg Int32.toInt (zw_ne zw_eq rfl)).trans hy
  · show (zw_I (zw_I H 91 (H.2.1 72 46).toInt.toNat y) 72 46 (H.2.1 72 46 + Int32.ofInt 1)).2.1 91 i = H.2.1 91 i
    exact (zp_u_ne (f := (zw_I H 91 (H.2.1 72 46).toInt.toNat y).2.1) (p := 72) (k := 46) (q := 91) (i := i) (v := H.2.1 72 46 + Int32.ofInt 1) (fun h9 => absurd h9.1 (by decide))).trans (zp_u_ne (f := H.2.1) (p := 91) (k := (H.2.1 72 46).toInt.toNat) (q := 91) (i := i) (fun h9 => by have := h9.2; omega))
def xV (a : Nat) (W : List Nat) (O : List xIt) (H : zp_H) : Prop := xVn a W (xR2 O) H

theorem yx_isO {L : Nat} {σ : Nat → Int32} {d : Nat} {H : zp_H} {x1 : Int32} {b : Nat} (hb : x1.toInt = (b : Int)) : ∃ X, zp_Call L σ (d + 1) 200 [.inl x1] H X ∧ ∃ v, X = (.inl (some (.inl v)), H) ∧ ((b < 14 ∧ v = Int32.ofInt 0) ∨ (14 ≤ b ∧ v = Int32.ofInt 1)) := by
  refine zw_met zm_200_t rfl rfl ?_
  refine zw_ld (n := 1) (k := 0) (f := zp_isI) (pc' := 1) rfl rfl rfl rfl rfl ?_
  refine zw_s (pc' := 3) rfl rfl ?_
  refine zw_blt2 (g := 10) (pc' := 6) rfl rfl rfl rfl (rfl : _ = (14 : Int)) (fun h1 => ?_) (fun h1 => ?_)
  · refine zw_s (pc' := 11) rfl rfl ?_
    refine zw_rzg rfl rfl (Or.inl rfl) ⟨by decide, by decide⟩ ?_
    exact ⟨Int32.ofInt 0, rfl, Or.inl ⟨by have h1 : x1.toInt < 14 := h1; omega, rfl⟩⟩
  · refine zw_s (pc' := 7) rfl rfl ?_
    refine zw_s (pc' := 11) rfl rfl ?_
    refine zw_rzg rfl rfl (Or.inr rfl) ⟨by decide, by decide⟩ ?_
    exact ⟨Int32.ofInt 1, rfl, Or.inr ⟨by have h1 : 14 ≤ x1.toInt := h1; omega, rfl⟩⟩

theorem yx_str {L : Nat} {σ : Nat → Int32} {d : Nat} {H : zp_H} {x1 : Int32} {b : Nat} (hb : x1.toInt = (b : Int)) : ∃ X, zp_Call L σ (d + 1) 201 [.inl x1] H X ∧ ∃ v : Int32, X = (.inl (some (.inl v)), H) ∧ v.toInt = ((xSg b : Nat) : Int) := by
  refine zw_met zm_201_t rfl rfl ?_
  refine zw_ld (n := 1) (k := 0) (f := zp_isI) (pc' := 1) rfl rfl rfl rfl rfl ?_
  refine zw_s (pc' := 2) rfl rfl ?_
  refine zw_bne2 (g := 9) (pc' := 5) rfl rfl rfl rfl (rfl : _ = (5 : Int)) (fun h0 => ?_) (fun h0 => ?_)
  · refine zw_ld (n := 1) (k := 0) (f := zp_isI) (pc' := 10) rfl rfl rfl rfl rfl ?_
    refine zw_s (pc' := 11) rfl rfl ?_
    refine zw_bne2 (g := 18) (pc' := 14) rfl rfl rfl rfl (rfl : _ = (4 : Int)) (fun h1 => ?_) (fun h1 => ?_)
    · refine zw_ld (n := 1) (k := 0) (f := zp_isI) (pc' := 19) rfl rfl rfl rfl rfl ?_
      refine zw_s (pc' := 20) rfl rfl ?_
      refine zw_bne2 (g := 27) (pc' := 23) rfl rfl rfl rfl (rfl : _ = (3 : Int)) (fun h2 => ?_) (fun h2 => ?_)
      · refine zw_ld (n := 1) (k := 0) (f := zp_isI) (pc' := 28) rfl rfl rfl rfl rfl ?_
        refine zw_s (pc' := 30) rfl rfl ?_
        refine zw_beq2 (g := 39) (pc' := 33) rfl rfl rfl rfl (rfl : _ = (6 : Int)) (fun h3 => ?_) (fun h3 => ?_)
        · refine zw_s (pc' := 40) rfl rfl ?_
          refine zw_s (pc' := 61) rfl rfl ?_
          refine zw_rig rfl rfl ⟨by decide, by decide⟩ ?_
          refine ⟨_, rfl, ?_⟩
          unfold xSg
          repeat (first | rw [if_pos (by omega)] | rw [if_neg (by omega)])
          rfl
        · refine zw_ld (n := 1) (k := 0) (f := zp_isI) (pc' := 34) rfl rfl rfl rfl rfl ?_
          refine zw_s (pc' := 36) rfl rfl ?_
          refine zw_bne2 (g := 43) (pc' := 39) rfl rfl rfl rfl (rfl : _ = (7 : Int)) (fun h4 => ?_) (fun h4 => ?_)
          · refine zw_ld (n := 1) (k := 0) (f := zp_isI) (pc' := 44) rfl rfl rfl rfl rfl ?_
            refine zw_s (pc' := 46) rfl rfl ?_
            refine zw_beq2 (g := 55) (pc' := 49) rfl rfl rfl rfl (rfl : _ = (8 : Int)) (fun h5 => ?_) (fun h5 => ?_)
            · refine zw_s (pc' := 56) rfl rfl ?_
              refine zw_s (pc' := 61) rfl rfl ?_
              refine zw_rig rfl rfl ⟨by decide, by decide⟩ ?_
              refine ⟨_, rfl, ?_⟩
              unfold xSg
              repeat (first | rw [if_pos (by omega)] | rw [if_neg (by omega)])
              rfl
            · refine zw_ld (n := 1) (k := 0) (f := zp_isI) (pc' := 50) rfl rfl rfl rfl rfl ?_
              refine zw_s (pc' := 52) rfl rfl ?_
              refine zw_bne2 (g := 59) (pc' := 55) rfl rfl rfl rfl (rfl : _ = (9 : Int)) (fun h6 => ?_) (fun h6 => ?_)
              · refine zw_s (pc' := 61) rfl rfl ?_
                refine zw_rig rfl rfl ⟨by decide, by decide⟩ ?_
                refine ⟨_, rfl, ?_⟩
                unfold xSg
                repeat (first | rw [if_pos (by omega)] | rw [if_neg (by omega)])
                rfl
              · refine zw_s (pc' := 56) rfl rfl ?_
                refine zw_s (pc' := 61) rfl rfl ?_
                refine zw_rig rfl rfl ⟨by decide, by decide⟩ ?_
                refine ⟨_, rfl, ?_⟩
                unfold xSg
                repeat (first | rw [if_pos (by omega)] | rw [if_neg (by omega)])
                rfl
          · refine zw_s (pc' := 40) rfl rfl ?_
            refine zw_s (pc' := 61) rfl rfl ?_
            refine zw_rig rfl rfl ⟨by decide, by decide⟩ ?_
            refine ⟨_, rfl, ?_⟩
            unfold xSg
            repeat (first | rw [if_pos (by omega)] | rw [if_neg (by omega)])
            rfl
      · refine zw_s (pc' := 24) rfl rfl ?_
        refine zw_s (pc' := 61) rfl rfl ?_
        refine zw_rig rfl rfl ⟨by decide, by decide⟩ ?_
        refine ⟨_, rfl, ?_⟩
        unfold xSg
        repeat (first | rw [if_pos (by omega)] | rw [if_neg (by omega)])
        rfl
    · refine zw_s (pc' := 15) rfl rfl ?_
      refine zw_s (pc' := 61) rfl rfl ?_
      refine zw_rig rfl rfl ⟨by decide, by decide⟩ ?_
      refine ⟨_, rfl, ?_⟩
      unfold xSg
      repeat (first | rw [if_pos (by omega)] | rw [if_neg (by omega)])
      rfl
  · refine zw_s (pc' := 6) rfl rfl ?_
    refine zw_s (pc' := 61) rfl rfl ?_
    refine zw_rig rfl rfl ⟨by decide, by decide⟩ ?_
    refine ⟨_, rfl, ?_⟩
    unfold xSg
    repeat (first | rw [if_pos (by omega)] | rw [if_neg (by omega)])
    rfl

theorem yx_drL {L : Nat} {σ : Nat → Int32} {d : Nat} {P : zp_X → Prop} {a : Nat} {y : Int32} (hy : 0 ≤ y.toInt) : ∀ (W1 : List Nat) (O : List xIt) (H : zp_H) (lv : zp_LV), zw_W H → xV a W1 O H → W1.length ≤ 800 → W1.length + (xR2 O).length + a ≤ 1600 → zp_get lv 0 = some (.inr (.inr (some 73))) → zp_get lv 1 = some (.inl y) → (∀ H1, zw_W H1 → xV a (xDp y.toInt.toNat W1).2 (O ++ (xDp y.toInt.toNat W1).1.map xAc) H1 → P (.inl none, H1)) → zs_Safe L σ P zm_199 [] (d + 2) (0, lv, [], H, (0, 0)) := by
  intro W1
  induction W1 with
  | nil =>
    intro O H lv W hV hw hl l0 l1 hP
    obtain ⟨v1, v2, v3, v4⟩ := id hV
    refine zw_ld (n := 1) (k := 0) (f := zp_isR) (pc' := 1) rfl rfl l0 rfl rfl ?_
    refine zw_gI (q := 72) (pc' := 4) W rfl rfl rfl rfl rfl rfl ?_
    refine zw_ble1 (g := 68) (pc' := 7) rfl rfl rfl rfl (fun h1 => ?_) (fun h1 => ?_)
    · refine zw_rn rfl rfl ?_
      exact hP H W (by show xV a [] (O ++ []) H; rw [List.append_nil]; exact hV)
    · have h1 : 0 < (H.2.1 72 46).toInt := h1
      have v1 : (H.2.1 72 46).toInt = ((0 : Nat) : Int) := v1
      omega
  | cons b W1 ih =>
    intro O H lv W hV hw hl l0 l1 hP
    obtain ⟨v1, v2, v3, v4⟩ := id hV
    refine zw_ld (n := 1) (k := 0) (f := zp_isR) (pc' := 1) rfl rfl l0 rfl rfl ?_
    refine zw_gI (q := 72) (pc' := 4) W rfl rfl rfl rfl rfl rfl ?_
    refine zw_ble1 (g := 68) (pc' := 7) rfl rfl rfl rfl (fun h1 => ?_) (fun h1 => ?_)
    · have h1 : (H.2.1 72 46).toInt ≤ 0 := h1
      have v1 : (H.2.1 72 46).toInt = ((W1.length + 1 : Nat) : Int) := v1
      omega
    · have v1 : (H.2.1 72 46).toInt = ((W1.length + 1 : Nat) : Int) := v1
      have v2 : (H.2.1 91 W1.length).toInt = (b : Int) ∧ 2 ≤ b ∧ xWt (H.2.1 91) W1 := v2
      have hw8 : W1.length + 1 ≤ 800 := hw
      have e1 : (H.2.1 72 46 - Int32.ofInt 1).toInt = (W1.length : Int) := by rw [zw_m1 (by omega)]; omega
      have e2 : (H.2.1 72 46 - Int32.ofInt 1).toInt.toNat = W1.length := by omega
      have v9 : (H.2.1 91 (H.2.1 72 46 - Int32.ofInt 1).toInt.toNat).toInt = (b : Int) := by rw [e2]; exact v2.1
      have hlen : W1.length + 1 + (xR2 O).length + a ≤ 1600 := hl
      obtain ⟨_, i1, vo, rfl, i3⟩ := yx_isO (L := L) (σ := σ) (d := d + 1) (H := H) v9
      obtain ⟨_, s1, vs, rfl, s3⟩ := yx_str (L := L) (σ := σ) (d := d + 1) (H := H) v9
      refine zw_ld (n := 1) (k := 0) (f := zp_isR) (pc' := 8) rfl rfl l0 rfl rfl ?_
      refine zw_gR (q := 72) (pc' := 11) W rfl rfl rfl rfl (W.2 72 60 _ rfl) rfl ?_
      refine zw_ld (n := 1) (k := 0) (f := zp_isR) (pc' := 12) rfl rfl l0 rfl rfl ?_
      refine zw_gI (q := 72) (pc' := 15) W rfl rfl rfl rfl rfl rfl ?_
      refine zw_s (pc' := 16) rfl rfl ?_
      refine zw_isub (pc' := 17) rfl rfl ?_
      refine zw_ia (q := 91) (pc' := 18) W rfl rfl (by decide) (⟨by omega, by show _ < ((800 : Nat) : Int); omega⟩) rfl rfl ?_
      refine zw_c (pc' := 21) (zw_cs (Y := zm_200) rfl rfl zm_200_t) rfl rfl rfl rfl rfl (i1) ?_
      refine zw_bne1 (g := 68) (pc' := 24) rfl rfl rfl rfl (fun h2 => ?_) (fun h2 => ?_)
      · refine zw_rn rfl rfl ?_
        have hn : ¬ (b < 14 ∧ y.toInt.toNat ≤ xSg b) := fun h9 => i3.elim (fun i4 => h2 (by rw [i4.2]; rfl)) (fun i4 => by omega)
        have e : xDp y.toInt.toNat (b :: W1) = ([], b :: W1) := if_neg hn
        exact hP H W (by rw [e]; show xV a (b :: W1) (O ++ []) H; rw [List.append_nil]; exact hV)
      · have hb14 : b < 14 := by
          rcases i3 with ⟨i4, _⟩ | ⟨_, i4⟩
          · exact i4
          · rw [i4] at h2
            exact absurd h2 (by decide)
        refine zw_ld (n := 1) (k := 0) (f := zp_isR) (pc' := 25) rfl rfl l0 rfl rfl ?_
        refine zw_gR (q := 72) (pc' := 28) W rfl rfl rfl rfl (W.2 72 60 _ rfl) rfl ?_
        refine zw_ld (n := 1) (k := 0) (f := zp_isR) (pc' := 29) rfl rfl l0 rfl rfl ?_
        refine zw_gI (q := 72) (pc' := 32) W rfl rfl rfl rfl rfl rfl ?_
        refine zw_s (pc' := 33) rfl rfl ?_
        refine zw_isub (pc' := 34) rfl rfl ?_
        refine zw_ia (q := 91) (pc' := 35) W rfl rfl (by decide) (⟨by omega, by show _ < ((800 : Nat) : Int); omega⟩) rfl rfl ?_
        refine zw_c (pc' := 38) (zw_cs (Y := zm_201) rfl rfl zm_201_t) rfl rfl rfl rfl rfl (s1) ?_
        refine zw_ld (n := 1) (k := 1) (f := zp_isI) (pc' := 39) rfl rfl l1 rfl rfl ?_
        refine zw_blt2 (g := 68) (pc' := 42) rfl rfl rfl rfl rfl (fun h3 => ?_) (fun h3 => ?_)
        · refine zw_rn rfl rfl ?_
          have hn : ¬ (b < 14 ∧ y.toInt.toNat ≤ xSg b) := fun h9 => by have h3 : vs.toInt < y.toInt := h3; omega
          have e : xDp y.toInt.toNat (b :: W1) = ([], b :: W1) := if_neg hn
          exact hP H W (by rw [e]; show xV a (b :: W1) (O ++ []) H; rw [List.append_nil]; exact hV)
        · have h3 : y.toInt ≤ vs.toInt := h3
          have e : xDp y.toInt.toNat (b :: W1) = (b :: (xDp y.toInt.toNat W1).1, (xDp y.toInt.toNat W1).2) := if_pos ⟨hb14, by omega⟩
          have g45 : (zw_I H 72 46 (H.2.1 72 46 - Int32.ofInt 1)).2.1 72 45 = H.2.1 72 45 := zw_ne rfl rfl
          have k1 := xVn_pop (x := H.2.1 72 46 - Int32.ofInt 1) e1 hV
          have k2 := xVn_pt (y := H.2.1 91 (H.2.1 72 46 - Int32.ofInt 1).toInt.toNat) (z := (b : Int)) v9 (by rw [g45, v3]; omega) k1
          have k3 : xV a W1 (O ++ [xAc b]) (zx_pt (zw_I H 72 46 (H.2.1 72 46 - Int32.ofInt 1)) (H.2.1 91 (H.2.1 72 46 - Int32.ofInt 1).toInt.toNat)) := by
            show xVn a W1 (xR2 (O ++ [xAc b])) _
            rw [xR2_a, xR2_ac v2.2.1]
            exact k2
          refine zw_ld (n := 1) (k := 0) (f := zp_isR) (pc' := 43) rfl rfl l0 rfl rfl ?_
          refine zw_s (pc' := 44) rfl rfl ?_
          refine zw_gI (q := 72) (pc' := 47) W rfl rfl rfl rfl rfl rfl ?_
          refine zw_s (pc' := 48) rfl rfl ?_
          refine zw_isub (pc' := 49) rfl rfl ?_
          refine zw_pI (q := 72) (pc' := 52) W rfl rfl rfl rfl rfl rfl ?_
          refine zw_ld (n := 1) (k := 0) (f := zp_isR) (pc' := 53) rfl rfl l0 rfl rfl ?_
          refine zw_ld (n := 1) (k := 0) (f := zp_isR) (pc' := 54) rfl rfl l0 rfl rfl ?_
          refine zw_gR (q := 72) (pc' := 57) (zw_W_I W) rfl rfl rfl rfl ((zw_W_I W).2 72 60 _ rfl) rfl ?_
          refine zw_ld (n := 1) (k := 0) (f := zp_isR) (pc' := 58) rfl rfl l0 rfl rfl ?_
          refine zw_gI (q := 72) (pc' := 61) (zw_W_I W) rfl rfl rfl rfl zw_eq rfl ?_
          refine zw_ia (q := 91) (pc' := 62) (zw_W_I W) rfl rfl (by decide) (⟨by omega, by show _ < ((800 : Nat) : Int); omega⟩) (zw_ne rfl rfl) rfl ?_
          refine zw_cn (pc' := 65) (zw_cv (q := 72) (Y := zm_198) (zw_W_I W).1 rfl rfl zm_198_t rfl rfl) rfl rfl rfl rfl rfl (zq_puts (zw_W_I W) (by rw [g45, v3]; exact ⟨by omega, by omega⟩)) ?_
          refine zw_s (pc' := 0) rfl rfl ?_
          refine ih (O ++ [xAc b]) _ _ (zw_W_I (zw_W_I (zw_W_I W))) k3 (by omega) (by rw [xR2_a, List.length_append, xR2_ac v2.2.1]; show W1.length + ((xR2 O).length + 1) + a ≤ 1600; omega) l0 l1 (fun H1 w1 w2 => hP H1 w1 ?_)
          rw [e]
          show xV a (xDp y.toInt.toNat W1).2 (O ++ (xAc b :: (xDp y.toInt.toNat W1).1.map xAc)) H1
          rw [show O ++ (xAc b :: (xDp y.toInt.toNat W1).1.map xAc) = (O ++ [xAc b]) ++ (xDp y.toInt.toNat W1).1.map xAc by rw [List.append_assoc]; rfl]
          exact w2

theorem yx_drops {L : Nat} {σ : Nat → Int32} {d : Nat} {H : zp_H} {a : Nat} {x1 : Int32} {W1 : List Nat} {O : List xIt} (hy : 0 ≤ x1.toInt) (W : zw_W H) (hV : xV a W1 O H) (hw : W1.length ≤ 800) (hl : W1.length + (xR2 O).length + a ≤ 1600) : ∃ X, zp_Call L σ (d + 3) 199 [.inr (.inr (some 73)), .inl x1] H X ∧ ∃ H1, X = (.inl none, H1) ∧ zw_W H1 ∧ xV a (xDp x1.toInt.toNat W1).2 (O ++ (xDp x1.toInt.toNat W1).1.map xAc) H1 := by
  refine zw_met zm_199_t rfl rfl ?_
  exact yx_drL hy W1 O H _ W hV hw hl rfl rfl (fun H1 w1 w2 => ⟨H1, rfl, w1, w2⟩)

/-- reading on leaves waits and row -/
theorem xV_goes {L : Nat} {σ : Nat → Int32} {d a : Nat} {W : List Nat} {O : List xIt} {H H1 : zp_H} (hB : zk_Bs zR zg zJ H) (c : zp_Call L σ (d + 2) 171 [.inr (.inr (some 73))] H (.inl none, H1)) (h : xV a W O H) : xV a W O H1 := by
  obtain ⟨K, k1, k2, k3, -⟩ := zx_goes (L := L) (σ := σ) (d := d) hB
  have e := zp_Call_u c k1
  cases e
  exact xVn_c (zI_in k3 (p := 72) (k := 46) rfl rfl (fun h9 => absurd h9.2 (by decide))).1 (zx_ae k3 91 (fun k => rfl) rfl rfl) (zI_in k3 (p := 72) (k := 45) rfl rfl (fun h9 => absurd h9.2 (by decide))).1 (zx_ae k3 90 (fun k => rfl) rfl rfl) h
/-- as yR, and what the reference put out and holds back between two heaps -/
def xTr (T : Nat → Int) (n : Nat) (s s' : yM) (H0 H1 : zp_H) : Prop := ∀ (a : Nat) (W : List Nat) (O : List xIt), xV a W O H0 → ∃ W' O', xV a W' O' H1 ∧ yTR T n s W O s' W' O'
def xRR (T : Nat → Int) (n : Nat) (s s' : yM) (H0 H1 : zp_H) : Prop := yR T n s s' ∧ xTr T n s s' H0 H1
theorem xRR_r {T : Nat → Int} {n : Nat} {s : yM} {H : zp_H} : xRR T n s s H H := ⟨yR_r, fun a W O h => ⟨W, O, h, yTR_r⟩⟩
theorem xRR_t {T : Nat → Int} {n : Nat} {s1 s2 s3 : yM} {H1 H2 H3 : zp_H} (h : xRR T n s1 s2 H1 H2) (h' : xRR T n s2 s3 H2 H3) : xRR T n s1 s3 H1 H3 := ⟨yR_t h.1 h'.1, fun a W O k => by
  obtain ⟨W', O', k1, k2⟩ := h.2 a W O k
  obtain ⟨W2, O2, k3, k4⟩ := h'.2 a W' O' k1
  exact ⟨W2, O2, k3, yTR_t k2 k4⟩⟩
/-- a step of the machine, done by the reference -/
theorem xRR_s {T : Nat → Int} {n : Nat} {s s' : yM} {H0 H1 : zp_H} (hN : yN T n s = .inl s') (h : ∀ (a : Nat) (W : List Nat) (O : List xIt), xV a W O H0 → xV a (xWO T n s.1 s.2.2 W O).1 (xWO T n s.1 s.2.2 W O).2 H1) : xRR T n s s' H0 H1 := ⟨yR_s hN, fun a W O k => ⟨_, _, h a W O k, yTR_s hN⟩⟩
theorem xRR_e {T : Nat → Int} {n k p : Nat} {lv : List Bool} {H : zp_H} (h : ¬ (ys_kd T n p = 3 ∧ ys_vl T n p = 10)) : xRR T n (2 + k, lv, p) (1, lv, p) H H := ⟨yR_e (yN_nn h), fun a W O v => ⟨W, O, v, yTR_nn h⟩⟩

theorem xR2_2 {O : List xIt} {k : Nat} {v : Int} (hk : k < 2) : xR2 (O ++ [(k, v)]) = xR2 O ++ [(k : Int) + 1] ++ [v] := by
  rw [xR2_a, List.append_assoc]
  show xR2 O ++ ((if k < 2 then [(k : Int) + 1, v] else [(k : Int)]) ++ []) = xR2 O ++ ([(k : Int) + 1] ++ [v])
  rw [if_pos hk]
  rfl
/-- a part: two are put -/
theorem xV_2 {a k : Nat} {W : List Nat} {O : List xIt} {H : zp_H} {c y : Int32} {v : Int} (hk : k < 2) (hc : c.toInt = (k : Int) + 1) (hy : y.toInt = v) (h16 : (H.2.1 72 45).toInt < 1599) (h : xV a W O H) : xV a W (O ++ [(k, v)]) (zx_pt (zx_pt H c) y) := by
  show xVn a W (xR2 (O ++ [(k, v)])) _
  rw [xR2_2 hk]
  exact xVn_pt hy (by rw [zx_pt_t (by omega)]; omega) (xVn_pt hc (by omega) h)
theorem xV_92 {a j : Nat} {W : List Nat} {O : List xIt} {H : zp_H} {x : Int32} (h : xV a W O H) : xV a W O (zw_I H 92 j x) := xVn_c (zw_ne rfl rfl) (funext fun i => zw_ne rfl rfl) (zw_ne rfl rfl) (funext fun i => zw_ne rfl rfl) h
theorem xV_47 {a : Nat} {W : List Nat} {O : List xIt} {H : zp_H} {x : Int32} (h : xV a W O H) : xV a W O (zw_I H 72 47 x) := xVn_c (zw_ne rfl rfl) (funext fun i => zw_ne rfl rfl) (zw_ne rfl rfl) (funext fun i => zw_ne rfl rfl) h
theorem xV_dr {L : Nat} {σ : Nat → Int32} {d a a9 o l : Nat} {W1 : List Nat} {O : List xIt} {H Q : zp_H} {y : Int32} (hS : zx_S a9 1 o H) (hl : y.toInt = (l : Int)) (c : zp_Call L σ (d + 3) 199 [.inr (.inr (some 73)), .inl y] H (.inl none, Q)) (h : xV a W1 O H) : xV a (xDp l W1).2 (O ++ (xDp l W1).1.map xAc) Q := by
  have h1 := h.1
  have h3 := h.2.2.1
  have s1 := hS.2.1
  have s2 := hS.2.2.1
  obtain ⟨_, k1, K, rfl, k2, k3⟩ := yx_drops (L := L) (σ := σ) (d := d) (x1 := y) (by omega) (zR_Wd (zR_dn hS.1)) h (by omega) (by omega)
  have e := zp_Call_u c k1
  cases e
  rw [show y.toInt.toNat = l by omega] at k3
  exact k3
/-- an act between two operands: drops, waits, reads on -/
theorem xRR_op {L : Nat} {σ : Nat → Int32} {T : Nat → Int} {n d e9 a9 o l act p : Nat} {lv : List Bool} {s1 : yM} {H Q G K : zp_H} {y z : Int32} (hS : zx_S a9 1 o H) (hl : y.toInt = (l : Int)) (c1 : zp_Call L σ (d + 3) 199 [.inr (.inr (some 73)), .inl y] H (.inl none, Q)) (hz : z.toInt = (act : Int)) (ha : 2 ≤ act) (h8 : (Q.2.1 72 46).toInt < 800) (hG : ∀ a W O, xV a W O (zx_wt Q z) → xV a W O G) (hB : zk_Bs zR zg zJ G) (c2 : zp_Call L σ (e9 + 2) 171 [.inr (.inr (some 73))] G (.inl none, K)) (hN : yN T n (0, lv, p) = .inl s1) (hw : ∀ W O, xWO T n 0 p W O = xPs l act W O) : xRR T n (0, lv, p) s1 H K := xRR_s hN (fun a W O k => by
  show xV a (xWO T n 0 p W O).1 (xWO T n 0 p W O).2 K
  rw [hw]
  exact xV_goes hB c2 (hG _ _ _ (xVn_wt hz ha h8 (xV_dr hS hl c1 k))))

theorem yx_dp {L : Nat} {σ : Nat → Int32} {d : Nat} {H : zp_H} (W : zw_W H) (h : 0 ≤ (H.2.1 72 47).toInt ∧ (H.2.1 72 47).toInt < 6) : zp_Call L σ (d + 1) 193 [.inr (.inr (some 73))] H (.inl none, zw_I (zw_I H 72 47 (H.2.1 72 47 + Int32.ofInt 1)) 92 (H.2.1 72 47 + Int32.ofInt 1).toInt.toNat (zp_nar 2 (Int32.ofInt 0))) := by
  have e1 : (H.2.1 72 47 + Int32.ofInt 1).toInt = (H.2.1 72 47).toInt + 1 := zw_p1 (by omega)
  refine zw_ex (zw_met zm_193_t rfl rfl ?_)
  refine zw_ld (n := 1) (k := 0) (f := zp_isR) (pc' := 1) rfl rfl rfl rfl rfl ?_
  refine zw_gI (q := 72) (pc' := 4) W rfl rfl rfl rfl rfl rfl ?_
  refine zw_s (pc' := 6) rfl rfl ?_
  refine zw_bge2 (g := 30) (pc' := 9) rfl rfl rfl rfl (rfl : _ = (6 : Int)) (fun h1 => ?_) (fun h1 => ?_)
  · have h1 : 6 ≤ (H.2.1 72 47).toInt := h1
    omega
  · refine zw_ld (n := 1) (k := 0) (f := zp_isR) (pc' := 10) rfl rfl rfl rfl rfl ?_
    refine zw_s (pc' := 11) rfl rfl ?_
    refine zw_gI (q := 72) (pc' := 14) W rfl rfl rfl rfl rfl rfl ?_
    refine zw_s (pc' := 15) rfl rfl ?_
    refine zw_iadd (pc' := 16) rfl rfl ?_
    refine zw_pI (q := 72) (pc' := 19) W rfl rfl rfl rfl rfl rfl ?_
    refine zw_ld (n := 1) (k := 0) (f := zp_isR) (pc' := 20) rfl rfl rfl rfl rfl ?_
    refine zw_gR (q := 72) (pc' := 23) (zw_W_I W) rfl rfl rfl rfl ((zw_W_I W).2 72 61 _ rfl) rfl ?_
    refine zw_ld (n := 1) (k := 0) (f := zp_isR) (pc' := 24) rfl rfl rfl rfl rfl ?_
    refine zw_gI (q := 72) (pc' := 27) (zw_W_I W) rfl rfl rfl rfl zw_eq rfl ?_
    refine zw_s (pc' := 28) rfl rfl ?_
    refine zw_bs (q := 92) (pc' := 29) (zw_W_I W) rfl rfl (by decide) (⟨by omega, by show _ < ((9 : Nat) : Int); omega⟩) rfl ?_
    refine zw_rn rfl rfl ?_
    rfl

theorem xV_deep {L : Nat} {σ : Nat → Int32} {d a : Nat} {W1 : List Nat} {O : List xIt} {H H1 : zp_H} (W : zw_W H) (hd : 0 ≤ (H.2.1 72 47).toInt ∧ (H.2.1 72 47).toInt < 6) (c : zp_Call L σ (d + 1) 193 [.inr (.inr (some 73))] H (.inl none, H1)) (h : xV a W1 O H) : xV a W1 O H1 := by
  have e := zp_Call_u c (yx_dp (d := d) W hd)
  cases e
  exact xV_92 (xV_47 h)
