/-! ===== the reference reads an expression: what stands waiting is put ===== -/
def zx_phi (H : zp_H) : Int := 2 * (H.2.1 72 27).toInt - (if (H.2.1 72 28).toInt = 0 then 0 else 2)
/-- as far as nothing is wrong: the code from a on leaves as many as the waiting ones take, and e more -/
def zx_g (a e o : Nat) (H : zp_H) : Prop := (H.2.1 72 45).toInt + (H.2.1 72 46).toInt + 2 ≤ zx_phi H ∧ 2 * (H.2.1 72 46).toInt ≤ zx_phi H ∧ (H.2.1 72 47).toInt + o = 1 + (zr_opn (H.2.1 91) (H.2.1 72 46).toInt.toNat : Nat) ∧ (∀ i, i < (H.2.1 72 46).toInt.toNat → 3 ≤ (H.2.1 91 i).toInt ∧ (H.2.1 91 i).toInt ≤ 14) ∧ ∃ n, zr_run (H.2.1 90) n a 0 = some ((H.2.1 72 45).toInt.toNat, zr_bin (H.2.1 91) (H.2.1 72 46).toInt.toNat + e)
def zx_S (a e o : Nat) (H : zp_H) : Prop := zk_Bs zR zg zJ H ∧ (H.2.1 72 45).toInt + (H.2.1 72 46).toInt ≤ 1401 ∧ (H.2.1 72 46).toInt ≤ 700 ∧ ((H.2.1 72 23).toInt = 0 → zx_g a e o H)
def zx_D : List (Nat × Nat) := [(72, 45), (72, 46)]
def zx_Fd (a : Nat) (H0 H : zp_H) : Prop := zk_Fr zg zx_D [90] H0 H ∧ ∀ i, i < a → H.2.1 90 i = H0.2.1 90 i
theorem zx_top {a e o : Nat} {H : zp_H} (h : zx_S a e o H) : 0 ≤ (H.2.1 72 45).toInt ∧ 0 ≤ (H.2.1 72 46).toInt := ⟨(zR_fr1 (zR_dn h.1) (k := 45) (r := (0, 1600)) rfl rfl).1, (zR_fr1 (zR_dn h.1) (k := 46) (r := (0, 800)) rfl rfl).1⟩
theorem zk_Fr_I {mods : List (Nat × Nat)} {am : List Nat} {H0 H : zp_H} {p k : Nat} {x : Int32} (h : zk_Fr zg mods am H0 H) (hm : (zk_inm mods p k).or (zk_ina am p) = true) (hg : zB_gk p k = false) : zk_Fr zg mods am H0 (zw_I H p k x) := by
  refine ⟨h.1, fun q j h1 h2 => ?_⟩
  have hne : ¬ (q = p ∧ j = k) := by
    rintro ⟨rfl, rfl⟩
    rw [h1, h2] at hm
    cases hm
  refine ⟨?_, (h.2 q j h1 h2).2⟩
  rw [← (h.2 q j h1 h2).1]
  unfold zk_fv
  by_cases h9 : q = 72 ∧ j = 100
  · rw [if_pos h9, if_pos h9]
    unfold zg
    have e1 : (zw_I H p k x).2.1 72 28 = H.2.1 72 28 := zp_u_ne (fun h8 => by rw [← h8.1, ← h8.2] at hg; cases hg)
    have e2 : (zw_I H p k x).2.1 72 30 = H.2.1 72 30 := zp_u_ne (fun h8 => by rw [← h8.1, ← h8.2] at hg; cases hg)
    rw [e1, e2]
    rfl
  · rw [if_neg h9, if_neg h9]
    exact congrArg Int32.toInt (zp_u_ne hne)
def zx_dr (H : zp_H) : zp_H := zw_I (zw_I (zw_I H 72 46 (H.2.1 72 46 - Int32.ofInt 1)) 90 (H.2.1 72 45).toInt.toNat (H.2.1 91 (H.2.1 72 46 - Int32.ofInt 1).toInt.toNat)) 72 45 (H.2.1 72 45 + Int32.ofInt 1)
theorem zx_drop1 {a o : Nat} {H0 H : zp_H} (h : zx_S a 1 o H) (hF : zx_Fd a H0 H) (ha : (a : Int) ≤ (H.2.1 72 45).toInt) (h1 : 0 < (H.2.1 72 46).toInt) (hy : (H.2.1 91 (H.2.1 72 46 - Int32.ofInt 1).toInt.toNat).toInt < 14) :
    zx_S a 1 o (zx_dr H) ∧ zx_Fd a H0 (zx_dr H) ∧ ((zx_dr H).2.1 72 46).toInt = (H.2.1 72 46).toInt - 1 ∧ ((zx_dr H).2.1 72 45).toInt = (H.2.1 72 45).toInt + 1 ∧ (zx_dr H).2.1 91 = H.2.1 91 ∧ zr_opn ((zx_dr H).2.1 91) ((zx_dr H).2.1 72 46).toInt.toNat = zr_opn (H.2.1 91) (H.2.1 72 46).toInt.toNat := by
  obtain ⟨t0, w0⟩ := zx_top h
  obtain ⟨hB, h2, h3, hg⟩ := h
  have e1 : (H.2.1 72 46 - Int32.ofInt 1).toInt = (H.2.1 72 46).toInt - 1 := zw_m1 (by omega)
  have e2 : (H.2.1 72 45 + Int32.ofInt 1).toInt = (H.2.1 72 45).toInt + 1 := zw_p1 (by omega)
  have f45 : (zx_dr H).2.1 72 45 = H.2.1 72 45 + Int32.ofInt 1 := zw_eq
  have f46 : (zx_dr H).2.1 72 46 = H.2.1 72 46 - Int32.ofInt 1 := zw_ne (zw_ne zw_eq rfl) rfl
  have f23 : (zx_dr H).2.1 72 23 = H.2.1 72 23 := zw_ne (zw_ne (zw_ne rfl rfl) rfl) rfl
  have f27 : (zx_dr H).2.1 72 27 = H.2.1 72 27 := zw_ne (zw_ne (zw_ne rfl rfl) rfl) rfl
  have f28 : (zx_dr H).2.1 72 28 = H.2.1 72 28 := zw_ne (zw_ne (zw_ne rfl rfl) rfl) rfl
  have f47 : (zx_dr H).2.1 72 47 = H.2.1 72 47 := zw_ne (zw_ne (zw_ne rfl rfl) rfl) rfl
  have f34 : (zx_dr H).2.1 72 34 = H.2.1 72 34 := zw_ne (zw_ne (zw_ne rfl rfl) rfl) rfl
  have f35 : (zx_dr H).2.1 72 35 = H.2.1 72 35 := zw_ne (zw_ne (zw_ne rfl rfl) rfl) rfl
  have f91 : (zx_dr H).2.1 91 = H.2.1 91 := funext (fun i => zw_ne (zw_ne (zw_ne rfl rfl) rfl) rfl)
  have f90 : ∀ i, i ≠ (H.2.1 72 45).toInt.toNat → (zx_dr H).2.1 90 i = H.2.1 90 i := by
    intro i hi
    refine zw_ne ?_ rfl
    exact (zp_u_ne (fun h9 => hi h9.2)).trans (zw_ne rfl rfl)
  have f90t : (zx_dr H).2.1 90 (H.2.1 72 45).toInt.toNat = H.2.1 91 (H.2.1 72 46 - Int32.ofInt 1).toInt.toNat := zw_ne zw_eq rfl
  have hphi : zx_phi (zx_dr H) = zx_phi H := by
    unfold zx_phi
    rw [f27, f28]
  have hw : (H.2.1 72 46).toInt.toNat = (H.2.1 72 46 - Int32.ofInt 1).toInt.toNat + 1 := by omega
  have hopn : zr_opn (H.2.1 91) (H.2.1 72 46).toInt.toNat = zr_opn (H.2.1 91) (H.2.1 72 46 - Int32.ofInt 1).toInt.toNat := by
    rw [hw]
    show zr_opn _ _ + _ = _
    rw [if_neg (by omega)]
    rfl
  have hB' : zk_Bs zR zg zJ (zx_dr H) := by
    have b0 := zR_dn hB
    have b1 := zR_putf (k := 46) (x := H.2.1 72 46 - Int32.ofInt 1) b0 (fun r hr => by cases hr; exact ⟨by show (0 : Int) ≤ _; omega, by show _ ≤ (800 : Int); omega⟩) rfl (zJ_I rfl b0.2.2.2.2.2.2.2)
    have b2 := zR_puta (p := 90) (j := (H.2.1 72 45).toInt.toNat) (x := H.2.1 91 (H.2.1 72 46 - Int32.ofInt 1).toInt.toNat) (t := 0) (n := 1600) b1 rfl (fun r hr => by
      have e : r = (-2147483648, 2147483647) := by
        have hr : [((-2147483648 : Int), (2147483647 : Int))][(H.2.1 72 45).toInt.toNat % 1]? = some r := hr
        rw [Nat.mod_one] at hr
        exact (Option.some.inj hr).symm
      rw [e]
      exact ⟨Int32.le_toInt _, Int32.toInt_le _⟩) (zJ_I rfl b1.2.2.2.2.2.2.2)
    have b3 := zR_putf (k := 45) (x := H.2.1 72 45 + Int32.ofInt 1) b2 (fun r hr => by cases hr; exact ⟨by show (0 : Int) ≤ _; omega, by show _ ≤ (1600 : Int); omega⟩) rfl (zJ_I rfl b2.2.2.2.2.2.2.2)
    refine zR_up b3 ?_
    have c := zR_cn hB
    unfold zR_cc
    show ((zx_dr H).2.1 72 23).toInt = 0 → _
    rw [f23, f34, f35]
    exact c
  refine ⟨⟨hB', ?_, ?_, ?_⟩, ⟨?_, ?_⟩, ?_, ?_, f91, ?_⟩
  · rw [f45, f46, e1, e2]; omega
  · rw [f46, e1]; omega
  · rw [f23]
    intro h0
    obtain ⟨g1, g2, g3, g4, n, g5⟩ := hg h0
    refine ⟨?_, ?_, ?_, ?_, n + 1, ?_⟩
    · rw [hphi, f45, f46, e1, e2]; omega
    · rw [hphi, f46, e1]; omega
    · rw [f47, f91, f46, ← hopn]; exact g3
    · rw [f46, f91]
      intro i hi
      exact g4 i (by omega)
    · rw [f91, f46, f45, e2]
      have r1 := zr_run_c (c := H.2.1 90) (c' := (zx_dr H).2.1 90) (b := (H.2.1 72 45).toInt.toNat) (fun i hi => f90 i (by omega)) g5 (Nat.le_refl _)
      rw [zr_run_app r1]
      have hb : zr_bin (H.2.1 91) (H.2.1 72 46).toInt.toNat = zr_bin (H.2.1 91) (H.2.1 72 46 - Int32.ofInt 1).toInt.toNat + (if 4 ≤ (H.2.1 91 (H.2.1 72 46 - Int32.ofInt 1).toInt.toNat).toInt ∧ (H.2.1 91 (H.2.1 72 46 - Int32.ofInt 1).toInt.toNat).toInt < 14 then 1 else 0) := by
        rw [hw]
        rfl
      have y3 := g4 (H.2.1 72 46 - Int32.ofInt 1).toInt.toNat (by omega)
      have et : ((H.2.1 72 45).toInt + 1).toNat = (H.2.1 72 45).toInt.toNat + 1 := by omega
      unfold zr_stp
      dsimp only
      rw [f90t, et]
      rw [if_neg (by omega)]
      by_cases hy3 : (H.2.1 91 (H.2.1 72 46 - Int32.ofInt 1).toInt.toNat).toInt = 3
      · rw [if_neg (by omega)] at hb
        rw [if_pos hy3, if_pos (by omega), hb]
      · have h4 : 4 ≤ (H.2.1 91 (H.2.1 72 46 - Int32.ofInt 1).toInt.toNat).toInt := by omega
        rw [if_pos ⟨h4, hy⟩] at hb
        rw [if_neg hy3, if_pos h4, hb, if_pos (by omega)]
        rfl
  · exact zk_Fr_I (zk_Fr_I (zk_Fr_I hF.1 rfl rfl) rfl rfl) rfl rfl
  · intro i hi
    rw [f90 i (by omega)]
    exact hF.2 i hi
  · rw [f46, e1]
  · rw [f45, e2]
  · rw [f91, f46, hopn]
def zm_199 : za_MI := (yX12_drops, prog_14_method_28_code, 2, none, 12, 0, 0, [], za_i199)
theorem zm_199_t : za_MT 199 = some zm_199 := rfl
def zm_201 : za_MI := (yX12_strength, prog_14_method_27_code, 1, (some FieldType.int), 12, 0, 0, [], za_i201)
theorem zm_201_t : za_MT 201 = some zm_201 := rfl
theorem zq_strength {L : Nat} {σ : Nat → Int32} {d : Nat} {H : zp_H} {y : Int32} : ∃ X, zp_Call L σ (d + 1) 201 [.inl y] H X ∧ ∃ v : Int32, X = (.inl (some (.inl v)), H) ∧ 1 ≤ v.toInt := by
  refine zw_met zm_201_t rfl rfl ?_
  refine zw_ld (n := 1) (k := 0) (f := zp_isI) (pc' := 1) rfl rfl rfl rfl rfl ?_
  refine zw_s (pc' := 2) rfl rfl ?_
  refine zw_bne2 (g := 9) (pc' := 5) rfl rfl rfl rfl (rfl : _ = (5 : Int)) (fun hb => ?_) (fun hb => ?_)
  · refine zw_ld (n := 1) (k := 0) (f := zp_isI) (pc' := 10) rfl rfl rfl rfl rfl ?_
    refine zw_s (pc' := 11) rfl rfl ?_
    refine zw_bne2 (g := 18) (pc' := 14) rfl rfl rfl rfl (rfl : _ = (4 : Int)) (fun hb => ?_) (fun hb => ?_)
    · refine zw_ld (n := 1) (k := 0) (f := zp_isI) (pc' := 19) rfl rfl rfl rfl rfl ?_
      refine zw_s (pc' := 20) rfl rfl ?_
      refine zw_bne2 (g := 27) (pc' := 23) rfl rfl rfl rfl (rfl : _ = (3 : Int)) (fun hb => ?_) (fun hb => ?_)
      · refine zw_ld (n := 1) (k := 0) (f := zp_isI) (pc' := 28) rfl rfl rfl rfl rfl ?_
        refine zw_s (pc' := 30) rfl rfl ?_
        refine zw_beq2 (g := 39) (pc' := 33) rfl rfl rfl rfl (rfl : _ = (6 : Int)) (fun hb => ?_) (fun hb => ?_)
        · refine zw_s (pc' := 40) rfl rfl ?_
          refine zw_s (pc' := 61) rfl rfl ?_
          refine zw_ri rfl rfl ?_
          exact ⟨_, rfl, by decide⟩
        · refine zw_ld (n := 1) (k := 0) (f := zp_isI) (pc' := 34) rfl rfl rfl rfl rfl ?_
          refine zw_s (pc' := 36) rfl rfl ?_
          refine zw_bne2 (g := 43) (pc' := 39) rfl rfl rfl rfl (rfl : _ = (7 : Int)) (fun hb => ?_) (fun hb => ?_)
          · refine zw_ld (n := 1) (k := 0) (f := zp_isI) (pc' := 44) rfl rfl rfl rfl rfl ?_
            refine zw_s (pc' := 46) rfl rfl ?_
            refine zw_beq2 (g := 55) (pc' := 49) rfl rfl rfl rfl (rfl : _ = (8 : Int)) (fun hb => ?_) (fun hb => ?_)
            · refine zw_s (pc' := 56) rfl rfl ?_
              refine zw_s (pc' := 61) rfl rfl ?_
              refine zw_ri rfl rfl ?_
              exact ⟨_, rfl, by decide⟩
            · refine zw_ld (n := 1) (k := 0) (f := zp_isI) (pc' := 50) rfl rfl rfl rfl rfl ?_
              refine zw_s (pc' := 52) rfl rfl ?_
              refine zw_bne2 (g := 59) (pc' := 55) rfl rfl rfl rfl (rfl : _ = (9 : Int)) (fun hb => ?_) (fun hb => ?_)
              · refine zw_s (pc' := 61) rfl rfl ?_
                refine zw_ri rfl rfl ?_
                exact ⟨_, rfl, by decide⟩
              · refine zw_s (pc' := 56) rfl rfl ?_
                refine zw_s (pc' := 61) rfl rfl ?_
                refine zw_ri rfl rfl ?_
                exact ⟨_, rfl, by decide⟩
          · refine zw_s (pc' := 40) rfl rfl ?_
            refine zw_s (pc' := 61) rfl rfl ?_
            refine zw_ri rfl rfl ?_
            exact ⟨_, rfl, by decide⟩
      · refine zw_s (pc' := 24) rfl rfl ?_
        refine zw_s (pc' := 61) rfl rfl ?_
        refine zw_ri rfl rfl ?_
        exact ⟨_, rfl, by decide⟩
    · refine zw_s (pc' := 15) rfl rfl ?_
      refine zw_s (pc' := 61) rfl rfl ?_
      refine zw_ri rfl rfl ?_
      exact ⟨_, rfl, by decide⟩
  · refine zw_s (pc' := 6) rfl rfl ?_
    refine zw_s (pc' := 61) rfl rfl ?_
    refine zw_ri rfl rfl ?_
    exact ⟨_, rfl, by decide⟩

theorem zx_drL {L : Nat} {σ : Nat → Int32} {d a o : Nat} {H0 : zp_H} {y : Int32} (n : Nat) : ∀ H : zp_H, (H.2.1 72 46).toInt.toNat = n → zx_S a 1 o H → zx_Fd a H0 H → (a : Int) ≤ (H.2.1 72 45).toInt → ((H.2.1 72 46).toInt ≤ (H0.2.1 72 46).toInt ∧ (H0.2.1 72 45).toInt ≤ (H.2.1 72 45).toInt) → zr_opn (H.2.1 91) (H.2.1 72 46).toInt.toNat = zr_opn (H0.2.1 91) (H0.2.1 72 46).toInt.toNat → zs_Safe L σ (fun X => ∃ H1, X = (.inl none, H1) ∧ zx_S a 1 o H1 ∧ zx_Fd a H0 H1 ∧ ((H1.2.1 72 46).toInt ≤ (H0.2.1 72 46).toInt ∧ (H0.2.1 72 45).toInt ≤ (H1.2.1 72 45).toInt) ∧ zr_opn (H1.2.1 91) (H1.2.1 72 46).toInt.toNat = zr_opn (H0.2.1 91) (H0.2.1 72 46).toInt.toNat ∧ (y.toInt ≤ 0 → (H1.2.1 72 46).toInt = 0 ∨ 14 ≤ (H1.2.1 91 ((H1.2.1 72 46).toInt - 1).toNat).toInt)) zm_199 [] (d + 2) (0, [(0, .inr (.inr (some 73))), (1, .inl y)], [], H, (0, 0)) := by
  induction n with
  | zero =>
    intro H hn h hF ha hw ho
    obtain ⟨t0, w0⟩ := zx_top h
    have W := zR_Wd (zR_dn h.1)
    refine zw_ld (n := 1) (k := 0) (f := zp_isR) (pc' := 1) rfl rfl rfl rfl rfl ?_
    refine zw_gI (q := 72) (pc' := 4) W rfl rfl rfl rfl rfl rfl ?_
    refine zw_ble1 (g := 68) (pc' := 7) rfl rfl rfl rfl (fun hb => ?_) (fun hb => ?_)
    · refine zw_rn rfl rfl ?_
      exact ⟨H, rfl, h, hF, hw, ho, fun _ => Or.inl (by omega)⟩
    · omega
  | succ n ih =>
    intro H hn h hF ha hw ho
    obtain ⟨t0, w0⟩ := zx_top h
    have W := zR_Wd (zR_dn h.1)
    have hb46 := (zR_fr1 (zR_dn h.1) (k := 46) (r := (0, 800)) rfl rfl).2
    have hb46 : (H.2.1 72 46).toInt ≤ 800 := hb46
    have h2 := h.2.1
    have e1 : (H.2.1 72 46 - Int32.ofInt 1).toInt = (H.2.1 72 46).toInt - 1 := zw_m1 (by omega)
    refine zw_ld (n := 1) (k := 0) (f := zp_isR) (pc' := 1) rfl rfl rfl rfl rfl ?_
    refine zw_gI (q := 72) (pc' := 4) W rfl rfl rfl rfl rfl rfl ?_
    refine zw_ble1 (g := 68) (pc' := 7) rfl rfl rfl rfl (fun hb => ?_) (fun hb => ?_)
    · omega
    · refine zw_ld (n := 1) (k := 0) (f := zp_isR) (pc' := 8) rfl rfl rfl rfl rfl ?_
      refine zw_gR (q := 72) (pc' := 11) W rfl rfl rfl rfl (W.2 72 60 _ rfl) rfl ?_
      refine zw_ld (n := 1) (k := 0) (f := zp_isR) (pc' := 12) rfl rfl rfl rfl rfl ?_
      refine zw_gI (q := 72) (pc' := 15) W rfl rfl rfl rfl rfl rfl ?_
      refine zw_s (pc' := 16) rfl rfl ?_
      refine zw_isub (pc' := 17) rfl rfl ?_
      refine zw_ia (q := 91) (pc' := 18) W rfl rfl (by decide) (⟨by rw [e1]; omega, by rw [e1]; omega⟩) rfl rfl ?_
      by_cases ho1 : 14 ≤ (H.2.1 91 (H.2.1 72 46 - Int32.ofInt 1).toInt.toNat).toInt
      · refine zw_c (pc' := 21) (zw_cs (Y := zm_200) rfl rfl zm_200_t) rfl rfl rfl rfl rfl (zq_open1 W ho1) ?_
        refine zw_bne1 (g := 68) (pc' := 24) rfl rfl rfl (rfl : _ = (1 : Int)) (fun hb => ?_) (fun h9 => absurd h9 (by decide))
        refine zw_rn rfl rfl ?_
        refine ⟨H, rfl, h, hF, hw, ho, fun _ => Or.inr ?_⟩
        rw [← e1]
        exact ho1
      · refine zw_c (pc' := 21) (zw_cs (Y := zm_200) rfl rfl zm_200_t) rfl rfl rfl rfl rfl (zq_open0 W (by omega)) ?_
        refine zw_bne1 (g := 68) (pc' := 24) rfl rfl rfl (rfl : _ = (0 : Int)) (fun h9 => absurd h9 (by decide)) (fun hb => ?_)
        refine zw_ld (n := 1) (k := 0) (f := zp_isR) (pc' := 25) rfl rfl rfl rfl rfl ?_
        refine zw_gR (q := 72) (pc' := 28) W rfl rfl rfl rfl (W.2 72 60 _ rfl) rfl ?_
        refine zw_ld (n := 1) (k := 0) (f := zp_isR) (pc' := 29) rfl rfl rfl rfl rfl ?_
        refine zw_gI (q := 72) (pc' := 32) W rfl rfl rfl rfl rfl rfl ?_
        refine zw_s (pc' := 33) rfl rfl ?_
        refine zw_isub (pc' := 34) rfl rfl ?_
        refine zw_ia (q := 91) (pc' := 35) W rfl rfl (by decide) (⟨by rw [e1]; omega, by rw [e1]; omega⟩) rfl rfl ?_
        obtain ⟨_, hC, v, rfl, hv⟩ := zq_strength (L := L) (σ := σ) (d := d + 1) (H := H) (y := H.2.1 91 (H.2.1 72 46 - Int32.ofInt 1).toInt.toNat)
        refine zw_c (pc' := 38) (zw_cs (Y := zm_201) rfl rfl zm_201_t) rfl rfl rfl rfl rfl (hC) ?_
        refine zw_ld (n := 1) (k := 1) (f := zp_isI) (pc' := 39) rfl rfl rfl rfl rfl ?_
        refine zw_blt2 (g := 68) (pc' := 42) rfl rfl rfl rfl rfl (fun hs => ?_) (fun hs => ?_)
        · refine zw_rn rfl rfl ?_
          exact ⟨H, rfl, h, hF, hw, ho, fun h9 => absurd h9 (by omega)⟩
        · refine zw_ld (n := 1) (k := 0) (f := zp_isR) (pc' := 43) rfl rfl rfl rfl rfl ?_
          refine zw_s (pc' := 44) rfl rfl ?_
          refine zw_gI (q := 72) (pc' := 47) W rfl rfl rfl rfl rfl rfl ?_
          refine zw_s (pc' := 48) rfl rfl ?_
          refine zw_isub (pc' := 49) rfl rfl ?_
          refine zw_pI (q := 72) (pc' := 52) W rfl rfl rfl rfl rfl rfl ?_
          refine zw_ld (n := 1) (k := 0) (f := zp_isR) (pc' := 53) rfl rfl rfl rfl rfl ?_
          refine zw_ld (n := 1) (k := 0) (f := zp_isR) (pc' := 54) rfl rfl rfl rfl rfl ?_
          refine zw_gR (q := 72) (pc' := 57) W rfl rfl rfl rfl (W.2 72 60 _ rfl) rfl ?_
          refine zw_ld (n := 1) (k := 0) (f := zp_isR) (pc' := 58) rfl rfl rfl rfl rfl ?_
          refine zw_gI (q := 72) (pc' := 61) W rfl rfl rfl rfl zw_eq rfl ?_
          refine zw_ia (q := 91) (pc' := 62) W rfl rfl (by decide) (⟨by rw [e1]; omega, by rw [e1]; omega⟩) (zw_ne rfl rfl) rfl ?_
          obtain ⟨k1, k2, k3, k4, k5, k6⟩ := zx_drop1 h hF ha (by omega) (by omega)
          refine zw_cn (pc' := 65) (zw_cv (q := 72) (Y := zm_198) W.1 rfl rfl zm_198_t rfl rfl) rfl rfl rfl rfl rfl (zq_puts (H := zw_I H 72 46 (H.2.1 72 46 - Int32.ofInt 1)) W ⟨by show 0 ≤ (H.2.1 72 45).toInt; omega, by show (H.2.1 72 45).toInt < ((1600 : Nat) : Int); omega⟩) ?_
          refine zw_s (pc' := 0) rfl rfl ?_
          exact ih (zx_dr H) (by omega) k1 k2 (by omega) ⟨by omega, by omega⟩ (by rw [k6]; exact ho)

theorem zx_drops {L : Nat} {σ : Nat → Int32} {d a o : Nat} {H : zp_H} {y : Int32} (h : zx_S a 1 o H) (ha : (a : Int) ≤ (H.2.1 72 45).toInt) : ∃ X, zp_Call L σ (d + 3) 199 [.inr (.inr (some 73)), .inl y] H X ∧ (fun X => ∃ H1, X = (.inl none, H1) ∧ zx_S a 1 o H1 ∧ zx_Fd a H H1 ∧ ((H1.2.1 72 46).toInt ≤ (H.2.1 72 46).toInt ∧ (H.2.1 72 45).toInt ≤ (H1.2.1 72 45).toInt) ∧ zr_opn (H1.2.1 91) (H1.2.1 72 46).toInt.toNat = zr_opn (H.2.1 91) (H.2.1 72 46).toInt.toNat ∧ (y.toInt ≤ 0 → (H1.2.1 72 46).toInt = 0 ∨ 14 ≤ (H1.2.1 91 ((H1.2.1 72 46).toInt - 1).toNat).toInt)) X := by
  exact zw_met zm_199_t rfl rfl (zx_drL (H0 := H) _ H rfl h ⟨zk_Fr_r H, fun _ _ => rfl⟩ ha ⟨Int.le_refl _, Int.le_refl _⟩ rfl)
