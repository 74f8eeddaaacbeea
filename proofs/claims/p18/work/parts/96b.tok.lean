/-! ===== the class's tokens, exactly ===== -/
def yc_m : List (Nat × Nat) := [(52, 2), (52, 3), (52, 4), (52, 5)]
def yc_Z (T : Nat → Int) (n : Nat) (H : zp_H) : Prop := zk_Bs zB0 zg zJc H ∧ yc_T T n H
theorem yc_T_I {T : Nat → Int} {n : Nat} {H : zp_H} {p k : Nat} {x : Int32} (h : yc_T T n H) (hp : ((Nat.beq p 1).or ((Nat.beq p 52).and (Nat.beq k 1))) = false) : yc_T T n (zw_I H p k x) := by
  obtain ⟨h1, h2, h3⟩ := h
  refine ⟨h1, ?_, fun j hj => ?_⟩
  · rw [show (zw_I H p k x).2.1 52 1 = H.2.1 52 1 from zp_u_ne (fun h9 => by rw [← h9.1, ← h9.2] at hp; cases hp)]
    exact h2
  · rw [show (zw_I H p k x).2.1 1 j = H.2.1 1 j from zp_u_ne (fun h9 => by rw [← h9.1] at hp; cases hp)]
    exact h3 j hj
def ys_10 (k : Nat) : Int := match k with
  | 0 => 0
  | 1 => 9
  | 2 => 99
  | 3 => 999
  | _ => 9999
theorem ys_10b {k : Nat} {x c : Int} (h : 0 ≤ x ∧ x ≤ ys_10 k) (hk : k < 4) (hc : 48 ≤ c ∧ c ≤ 57) : (0 ≤ x ∧ x ≤ 999) ∧ 0 ≤ x * 10 + c - 48 ∧ x * 10 + c - 48 ≤ ys_10 (k + 1) := by
  match k, hk, h with
  | 0, _, h =>
    have h : 0 ≤ x ∧ x ≤ 0 := h
    exact ⟨by omega, by omega, by show _ ≤ (9 : Int); omega⟩
  | 1, _, h =>
    have h : 0 ≤ x ∧ x ≤ 9 := h
    exact ⟨by omega, by omega, by show _ ≤ (99 : Int); omega⟩
  | 2, _, h =>
    have h : 0 ≤ x ∧ x ≤ 99 := h
    exact ⟨by omega, by omega, by show _ ≤ (999 : Int); omega⟩
  | 3, _, h =>
    have h : 0 ≤ x ∧ x ≤ 999 := h
    exact ⟨by omega, by omega, by show _ ≤ (9999 : Int); omega⟩
def zm_58 : za_MI := (yX9_isDigit, prog_11_method_5_code, 1, (some FieldType.boolean), 9, 0, 0, [], za_i58)
theorem zm_58_t : za_MT 58 = some zm_58 := rfl
def zm_59 : za_MI := (yX9_takeNumber, prog_11_method_7_code, 2, none, 9, 0, 0, [], za_i59)
theorem zm_59_t : za_MT 59 = some zm_59 := rfl
def zm_60 : za_MI := (yX9_takeSign, prog_11_method_8_code, 1, none, 9, 0, 0, [], za_i60)
theorem zm_60_t : za_MT 60 = some zm_60 := rfl
theorem yc_l1 {L : Nat} {σ : Nat → Int32} {d : Nat} {H : zp_H} {x : Int32} (h : 97 ≤ x.toInt ∧ x.toInt ≤ 122) : zp_Call L σ (d + 1) 56 [.inl x] H (.inl (some (.inl (Int32.ofInt 1))), H) := by
  refine zw_ex (zw_met zm_56_t rfl rfl ?_)
  refine zw_ld (n := 1) (k := 0) (f := zp_isI) (pc' := 1) rfl rfl rfl rfl rfl ?_
  refine zw_s (pc' := 3) rfl rfl ?_
  refine zw_blt2 (g := 16) (pc' := 6) rfl rfl rfl rfl (rfl : _ = (97 : Int)) (fun h1 => ?_) (fun h1 => ?_)
  · omega
  · refine zw_ld (n := 1) (k := 0) (f := zp_isI) (pc' := 7) rfl rfl rfl rfl rfl ?_
    refine zw_s (pc' := 9) rfl rfl ?_
    refine zw_bgt2 (g := 16) (pc' := 12) rfl rfl rfl rfl (rfl : _ = (122 : Int)) (fun h2 => ?_) (fun h2 => ?_)
    · omega
    · refine zw_s (pc' := 13) rfl rfl ?_
      refine zw_s (pc' := 17) rfl rfl ?_
      refine zw_rz rfl rfl (by decide) ?_
      rfl

theorem yc_l0 {L : Nat} {σ : Nat → Int32} {d : Nat} {H : zp_H} {x : Int32} (h : ¬ (97 ≤ x.toInt ∧ x.toInt ≤ 122)) : zp_Call L σ (d + 1) 56 [.inl x] H (.inl (some (.inl (Int32.ofInt 0))), H) := by
  refine zw_ex (zw_met zm_56_t rfl rfl ?_)
  refine zw_ld (n := 1) (k := 0) (f := zp_isI) (pc' := 1) rfl rfl rfl rfl rfl ?_
  refine zw_s (pc' := 3) rfl rfl ?_
  refine zw_blt2 (g := 16) (pc' := 6) rfl rfl rfl rfl (rfl : _ = (97 : Int)) (fun h1 => ?_) (fun h1 => ?_)
  · refine zw_s (pc' := 17) rfl rfl ?_
    refine zw_rz rfl rfl (by decide) ?_
    rfl
  · refine zw_ld (n := 1) (k := 0) (f := zp_isI) (pc' := 7) rfl rfl rfl rfl rfl ?_
    refine zw_s (pc' := 9) rfl rfl ?_
    refine zw_bgt2 (g := 16) (pc' := 12) rfl rfl rfl rfl (rfl : _ = (122 : Int)) (fun h2 => ?_) (fun h2 => ?_)
    · refine zw_s (pc' := 17) rfl rfl ?_
      refine zw_rz rfl rfl (by decide) ?_
      rfl
    · omega

theorem yc_g1 {L : Nat} {σ : Nat → Int32} {d : Nat} {H : zp_H} {x : Int32} (h : 48 ≤ x.toInt ∧ x.toInt ≤ 57) : zp_Call L σ (d + 1) 58 [.inl x] H (.inl (some (.inl (Int32.ofInt 1))), H) := by
  refine zw_ex (zw_met zm_58_t rfl rfl ?_)
  refine zw_ld (n := 1) (k := 0) (f := zp_isI) (pc' := 1) rfl rfl rfl rfl rfl ?_
  refine zw_s (pc' := 3) rfl rfl ?_
  refine zw_blt2 (g := 16) (pc' := 6) rfl rfl rfl rfl (rfl : _ = (48 : Int)) (fun h1 => ?_) (fun h1 => ?_)
  · omega
  · refine zw_ld (n := 1) (k := 0) (f := zp_isI) (pc' := 7) rfl rfl rfl rfl rfl ?_
    refine zw_s (pc' := 9) rfl rfl ?_
    refine zw_bgt2 (g := 16) (pc' := 12) rfl rfl rfl rfl (rfl : _ = (57 : Int)) (fun h2 => ?_) (fun h2 => ?_)
    · omega
    · refine zw_s (pc' := 13) rfl rfl ?_
      refine zw_s (pc' := 17) rfl rfl ?_
      refine zw_rz rfl rfl (by decide) ?_
      rfl

theorem yc_g0 {L : Nat} {σ : Nat → Int32} {d : Nat} {H : zp_H} {x : Int32} (h : ¬ (48 ≤ x.toInt ∧ x.toInt ≤ 57)) : zp_Call L σ (d + 1) 58 [.inl x] H (.inl (some (.inl (Int32.ofInt 0))), H) := by
  refine zw_ex (zw_met zm_58_t rfl rfl ?_)
  refine zw_ld (n := 1) (k := 0) (f := zp_isI) (pc' := 1) rfl rfl rfl rfl rfl ?_
  refine zw_s (pc' := 3) rfl rfl ?_
  refine zw_blt2 (g := 16) (pc' := 6) rfl rfl rfl rfl (rfl : _ = (48 : Int)) (fun h1 => ?_) (fun h1 => ?_)
  · refine zw_s (pc' := 17) rfl rfl ?_
    refine zw_rz rfl rfl (by decide) ?_
    rfl
  · refine zw_ld (n := 1) (k := 0) (f := zp_isI) (pc' := 7) rfl rfl rfl rfl rfl ?_
    refine zw_s (pc' := 9) rfl rfl ?_
    refine zw_bgt2 (g := 16) (pc' := 12) rfl rfl rfl rfl (rfl : _ = (57 : Int)) (fun h2 => ?_) (fun h2 => ?_)
    · refine zw_s (pc' := 17) rfl rfl ?_
      refine zw_rz rfl rfl (by decide) ?_
      rfl
    · omega

theorem yc_tnL {L : Nat} {σ : Nat → Int32} {d : Nat} {T : Nat → Int} {n : Nat} {H0 : zp_H} {s e : Nat} (hs : s ≤ e) : ∀ (m : Nat) (H : zp_H) (lv : zp_LV) (x : Int32) (q : Nat), yc_Z T n H → zk_Fr zg yc_m [] H0 H → zp_get lv 0 = some (.inr (.inr (some 53))) → zp_get lv 1 = some (.inl x) → (H.2.1 52 3).toInt = s → (H.2.1 52 2).toInt = q → s ≤ q ∧ q ≤ n → x.toInt = ys_nm T s (min (q - s) 4) → 0 ≤ x.toInt ∧ x.toInt ≤ ys_10 (min (q - s) 4) → ys_run ys_D T (n - q) q = e → n - q ≤ m → zs_Safe L σ (fun X : zp_X => ∃ H1, X = (.inl none, H1) ∧ yc_Z T n H1 ∧ zk_Fr zg yc_m [] H0 H1 ∧ (H1.2.1 52 3).toInt = s ∧ (H1.2.1 52 2).toInt = e ∧ (H1.2.1 52 4).toInt = 2 ∧ (H1.2.1 52 5).toInt = (if 4 < e - s then 2147483647 else ys_nm T s (e - s))) zm_59 [] (d + 1) (2, lv, [], H, (0, 0)) := by
  intro m
  induction m with
  | zero =>
    intro H lv x q hZ hF l0 l1 h3 h2 hq hx hb he hm
    have W := zB_Wd hZ.1
    have hn7 := hZ.2.1
    have r1 := hZ.2.2.1
    refine zw_ld (n := 1) (k := 0) (f := zp_isR) (pc' := 3) rfl rfl l0 rfl rfl ?_
    refine zw_gI (q := 52) (pc' := 6) W rfl rfl rfl rfl rfl rfl ?_
    refine zw_ld (n := 1) (k := 0) (f := zp_isR) (pc' := 7) rfl rfl l0 rfl rfl ?_
    refine zw_gI (q := 52) (pc' := 10) W rfl rfl rfl rfl rfl rfl ?_
    refine zw_bge2 (g := 72) (pc' := 13) rfl rfl rfl rfl rfl (fun hb1 => ?_) (fun hb1 => ?_)
    · have he : q = e := by
        rw [← he, ys_run_n (by omega)]
      have b2 := zB_putf (p := 52) (k := 4) (x := Int32.ofInt 2) hZ.1 rfl (fun r hr => by cases hr) (zJc_I rfl hZ.1.2.2.2.2.2.2.2)
      have hd : (H.2.1 52 2 - H.2.1 52 3).toInt = (H.2.1 52 2).toInt - (H.2.1 52 3).toInt := zq_sub (by omega) (by omega)
      refine zw_ld (n := 1) (k := 0) (f := zp_isR) (pc' := 73) rfl rfl l0 rfl rfl ?_
      refine zw_s (pc' := 74) rfl rfl ?_
      refine zw_pI (q := 52) (pc' := 77) W rfl rfl rfl rfl rfl rfl ?_
      refine zw_ld (n := 1) (k := 0) (f := zp_isR) (pc' := 78) rfl rfl l0 rfl rfl ?_
      refine zw_ld (n := 1) (k := 0) (f := zp_isR) (pc' := 79) rfl rfl l0 rfl rfl ?_
      refine zw_gI (q := 52) (pc' := 82) W rfl rfl rfl rfl (zw_ne rfl rfl) rfl ?_
      refine zw_ld (n := 1) (k := 0) (f := zp_isR) (pc' := 83) rfl rfl l0 rfl rfl ?_
      refine zw_gI (q := 52) (pc' := 86) W rfl rfl rfl rfl (zw_ne rfl rfl) rfl ?_
      refine zw_isub (pc' := 87) rfl rfl ?_
      refine zw_s (pc' := 88) rfl rfl ?_
      refine zw_ble2 (g := 96) (pc' := 91) rfl rfl rfl rfl (rfl : _ = (4 : Int)) (fun h4 => ?_) (fun h4 => ?_)
      · rw [hd] at h4
        have b3 := zB_putf (p := 52) (k := 5) (x := x) b2 rfl (fun r hr => by cases hr; exact ⟨Int32.le_toInt _, Int32.toInt_le _⟩) (zJc_I rfl b2.2.2.2.2.2.2.2)
        refine zw_ld (n := 1) (k := 1) (f := zp_isI) (pc' := 97) rfl rfl l1 rfl rfl ?_
        refine zw_pI (q := 52) (pc' := 100) W rfl rfl rfl rfl rfl rfl ?_
        refine zw_rn rfl rfl ?_
        refine ⟨_, rfl, ⟨b3, yc_T_I (yc_T_I hZ.2 rfl) rfl⟩, zk_Fr_I (zk_Fr_I hF rfl rfl) rfl rfl, ?_, ?_, ?_, ?_⟩
        · exact (congrArg Int32.toInt (zw_ne (zw_ne rfl rfl) rfl)).trans h3
        · exact (congrArg Int32.toInt (zw_ne (zw_ne rfl rfl) rfl)).trans (by rw [h2]; omega)
        · rw [show (zw_I (zw_I H 52 4 (Int32.ofInt 2)) 52 5 (x)).2.1 52 4 = Int32.ofInt 2 from zw_ne zw_eq rfl]
          decide
        · rw [show (zw_I (zw_I H 52 4 (Int32.ofInt 2)) 52 5 (x)).2.1 52 5 = x from zw_eq]
          rw [if_neg (by omega), hx, show min (q - s) 4 = e - s by omega]
      · rw [hd] at h4
        have b3 := zB_putf (p := 52) (k := 5) (x := Int32.ofInt 2147483647) b2 rfl (fun r hr => by cases hr; exact ⟨Int32.le_toInt _, Int32.toInt_le _⟩) (zJc_I rfl b2.2.2.2.2.2.2.2)
        refine zw_s (pc' := 93) rfl rfl ?_
        refine zw_s (pc' := 97) rfl rfl ?_
        refine zw_pI (q := 52) (pc' := 100) W rfl rfl rfl rfl rfl rfl ?_
        refine zw_rn rfl rfl ?_
        refine ⟨_, rfl, ⟨b3, yc_T_I (yc_T_I hZ.2 rfl) rfl⟩, zk_Fr_I (zk_Fr_I hF rfl rfl) rfl rfl, ?_, ?_, ?_, ?_⟩
        · exact (congrArg Int32.toInt (zw_ne (zw_ne rfl rfl) rfl)).trans h3
        · exact (congrArg Int32.toInt (zw_ne (zw_ne rfl rfl) rfl)).trans (by rw [h2]; omega)
        · rw [show (zw_I (zw_I H 52 4 (Int32.ofInt 2)) 52 5 (Int32.ofInt 2147483647)).2.1 52 4 = Int32.ofInt 2 from zw_ne zw_eq rfl]
          decide
        · rw [show (zw_I (zw_I H 52 4 (Int32.ofInt 2)) 52 5 (Int32.ofInt 2147483647)).2.1 52 5 = Int32.ofInt 2147483647 from zw_eq]
          rw [if_pos (by omega)]
          decide
    · omega
  | succ m ih =>
    intro H lv x q hZ hF l0 l1 h3 h2 hq hx hb he hm
    have W := zB_Wd hZ.1
    have hn7 := hZ.2.1
    have r1 := hZ.2.2.1
    refine zw_ld (n := 1) (k := 0) (f := zp_isR) (pc' := 3) rfl rfl l0 rfl rfl ?_
    refine zw_gI (q := 52) (pc' := 6) W rfl rfl rfl rfl rfl rfl ?_
    refine zw_ld (n := 1) (k := 0) (f := zp_isR) (pc' := 7) rfl rfl l0 rfl rfl ?_
    refine zw_gI (q := 52) (pc' := 10) W rfl rfl rfl rfl rfl rfl ?_
    refine zw_bge2 (g := 72) (pc' := 13) rfl rfl rfl rfl rfl (fun hb1 => ?_) (fun hb1 => ?_)
    · have he : q = e := by
        rw [← he, ys_run_n (by omega)]
      have b2 := zB_putf (p := 52) (k := 4) (x := Int32.ofInt 2) hZ.1 rfl (fun r hr => by cases hr) (zJc_I rfl hZ.1.2.2.2.2.2.2.2)
      have hd : (H.2.1 52 2 - H.2.1 52 3).toInt = (H.2.1 52 2).toInt - (H.2.1 52 3).toInt := zq_sub (by omega) (by omega)
      refine zw_ld (n := 1) (k := 0) (f := zp_isR) (pc' := 73) rfl rfl l0 rfl rfl ?_
      refine zw_s (pc' := 74) rfl rfl ?_
      refine zw_pI (q := 52) (pc' := 77) W rfl rfl rfl rfl rfl rfl ?_
      refine zw_ld (n := 1) (k := 0) (f := zp_isR) (pc' := 78) rfl rfl l0 rfl rfl ?_
      refine zw_ld (n := 1) (k := 0) (f := zp_isR) (pc' := 79) rfl rfl l0 rfl rfl ?_
      refine zw_gI (q := 52) (pc' := 82) W rfl rfl rfl rfl (zw_ne rfl rfl) rfl ?_
      refine zw_ld (n := 1) (k := 0) (f := zp_isR) (pc' := 83) rfl rfl l0 rfl rfl ?_
      refine zw_gI (q := 52) (pc' := 86) W rfl rfl rfl rfl (zw_ne rfl rfl) rfl ?_
      refine zw_isub (pc' := 87) rfl rfl ?_
      refine zw_s (pc' := 88) rfl rfl ?_
      refine zw_ble2 (g := 96) (pc' := 91) rfl rfl rfl rfl (rfl : _ = (4 : Int)) (fun h4 => ?_) (fun h4 => ?_)
      · rw [hd] at h4
        have b3 := zB_putf (p := 52) (k := 5) (x := x) b2 rfl (fun r hr => by cases hr; exact ⟨Int32.le_toInt _, Int32.toInt_le _⟩) (zJc_I rfl b2.2.2.2.2.2.2.2)
        refine zw_ld (n := 1) (k := 1) (f := zp_isI) (pc' := 97) rfl rfl l1 rfl rfl ?_
        refine zw_pI (q := 52) (pc' := 100) W rfl rfl rfl rfl rfl rfl ?_
        refine zw_rn rfl rfl ?_
        refine ⟨_, rfl, ⟨b3, yc_T_I (yc_T_I hZ.2 rfl) rfl⟩, zk_Fr_I (zk_Fr_I hF rfl rfl) rfl rfl, ?_, ?_, ?_, ?_⟩
        · exact (congrArg Int32.toInt (zw_ne (zw_ne rfl rfl) rfl)).trans h3
        · exact (congrArg Int32.toInt (zw_ne (zw_ne rfl rfl) rfl)).trans (by rw [h2]; omega)
        · rw [show (zw_I (zw_I H 52 4 (Int32.ofInt 2)) 52 5 (x)).2.1 52 4 = Int32.ofInt 2 from zw_ne zw_eq rfl]
          decide
        · rw [show (zw_I (zw_I H 52 4 (Int32.ofInt 2)) 52 5 (x)).2.1 52 5 = x from zw_eq]
          rw [if_neg (by omega), hx, show min (q - s) 4 = e - s by omega]
      · rw [hd] at h4
        have b3 := zB_putf (p := 52) (k := 5) (x := Int32.ofInt 2147483647) b2 rfl (fun r hr => by cases hr; exact ⟨Int32.le_toInt _, Int32.toInt_le _⟩) (zJc_I rfl b2.2.2.2.2.2.2.2)
        refine zw_s (pc' := 93) rfl rfl ?_
        refine zw_s (pc' := 97) rfl rfl ?_
        refine zw_pI (q := 52) (pc' := 100) W rfl rfl rfl rfl rfl rfl ?_
        refine zw_rn rfl rfl ?_
        refine ⟨_, rfl, ⟨b3, yc_T_I (yc_T_I hZ.2 rfl) rfl⟩, zk_Fr_I (zk_Fr_I hF rfl rfl) rfl rfl, ?_, ?_, ?_, ?_⟩
        · exact (congrArg Int32.toInt (zw_ne (zw_ne rfl rfl) rfl)).trans h3
        · exact (congrArg Int32.toInt (zw_ne (zw_ne rfl rfl) rfl)).trans (by rw [h2]; omega)
        · rw [show (zw_I (zw_I H 52 4 (Int32.ofInt 2)) 52 5 (Int32.ofInt 2147483647)).2.1 52 4 = Int32.ofInt 2 from zw_ne zw_eq rfl]
          decide
        · rw [show (zw_I (zw_I H 52 4 (Int32.ofInt 2)) 52 5 (Int32.ofInt 2147483647)).2.1 52 5 = Int32.ofInt 2147483647 from zw_eq]
          rw [if_pos (by omega)]
          decide
    · have tq : (H.2.1 1 (H.2.1 52 2).toInt.toNat).toInt = T q := by
        rw [show (H.2.1 52 2).toInt.toNat = q by omega]
        exact hZ.2.2.2 q (by omega)
      refine zw_ld (n := 1) (k := 0) (f := zp_isR) (pc' := 14) rfl rfl l0 rfl rfl ?_
      refine zw_gR (q := 52) (pc' := 17) W rfl rfl rfl rfl (W.2 52 0 _ rfl) rfl ?_
      refine zw_ld (n := 1) (k := 0) (f := zp_isR) (pc' := 18) rfl rfl l0 rfl rfl ?_
      refine zw_gI (q := 52) (pc' := 21) W rfl rfl rfl rfl rfl rfl ?_
      refine zw_ba (q := 1) (pc' := 22) W rfl rfl (by decide) (⟨by omega, by show _ < ((700 : Nat) : Int); omega⟩) rfl rfl ?_
      by_cases hdg : 48 ≤ (H.2.1 1 (H.2.1 52 2).toInt.toNat).toInt ∧ (H.2.1 1 (H.2.1 52 2).toInt.toNat).toInt ≤ 57
      · refine zw_c (pc' := 25) (zw_cs (Y := zm_58) rfl rfl zm_58_t) rfl rfl rfl rfl rfl (yc_g1 hdg) ?_
        refine zw_beq1 (g := 72) (pc' := 28) rfl rfl rfl (rfl : _ = (1 : Int)) (fun h9 => absurd h9 (by decide)) (fun h9 => ?_)
        have hP : ys_D (T q) = true := decide_eq_true (by rw [← tq]; exact hdg)
        rw [ys_run_t (by omega) hP] at he
        have e1 : (H.2.1 52 2 + Int32.ofInt 1).toInt = (H.2.1 52 2).toInt + 1 := zw_p1 (by omega)
        have hd : (H.2.1 52 2 - H.2.1 52 3).toInt = (H.2.1 52 2).toInt - (H.2.1 52 3).toInt := zq_sub (by omega) (by omega)
        have b2 := zB_putf (p := 52) (k := 2) (x := H.2.1 52 2 + Int32.ofInt 1) hZ.1 rfl (fun r hr => by cases hr; exact ⟨by show (0 : Int) ≤ _; omega, by show _ ≤ (700 : Int); omega⟩) (zJc_I rfl hZ.1.2.2.2.2.2.2.2)
        have g2 : ((zw_I H 52 2 (H.2.1 52 2 + Int32.ofInt 1)).2.1 52 2).toInt = ((q + 1 : Nat) : Int) := by
          rw [zw_eq, e1]
          omega
        have g3 : ((zw_I H 52 2 (H.2.1 52 2 + Int32.ofInt 1)).2.1 52 3).toInt = s := (congrArg Int32.toInt (zw_ne rfl rfl)).trans h3
        refine zw_ld (n := 1) (k := 0) (f := zp_isR) (pc' := 29) rfl rfl l0 rfl rfl ?_
        refine zw_gI (q := 52) (pc' := 32) W rfl rfl rfl rfl rfl rfl ?_
        refine zw_ld (n := 1) (k := 0) (f := zp_isR) (pc' := 33) rfl rfl l0 rfl rfl ?_
        refine zw_gI (q := 52) (pc' := 36) W rfl rfl rfl rfl rfl rfl ?_
        refine zw_isub (pc' := 37) rfl rfl ?_
        refine zw_s (pc' := 38) rfl rfl ?_
        refine zw_bge2 (g := 59) (pc' := 41) rfl rfl rfl rfl (rfl : _ = (4 : Int)) (fun h4 => ?_) (fun h4 => ?_)
        · rw [hd] at h4
          refine zw_ld (n := 1) (k := 0) (f := zp_isR) (pc' := 60) rfl rfl l0 rfl rfl ?_
          refine zw_s (pc' := 61) rfl rfl ?_
          refine zw_gI (q := 52) (pc' := 64) W rfl rfl rfl rfl rfl rfl ?_
          refine zw_s (pc' := 65) rfl rfl ?_
          refine zw_iadd (pc' := 66) rfl rfl ?_
          refine zw_pI (q := 52) (pc' := 69) W rfl rfl rfl rfl rfl rfl ?_
          refine zw_s (pc' := 2) rfl rfl ?_
          exact ih _ _ _ (q + 1) ⟨b2, yc_T_I hZ.2 rfl⟩ (zk_Fr_I hF rfl rfl) l0 l1 g3 g2 (by omega) (by rw [hx, show min (q - s) 4 = 4 by omega, show min (q + 1 - s) 4 = 4 by omega]) (by rw [show min (q - s) 4 = 4 by omega] at hb; rw [show min (q + 1 - s) 4 = 4 by omega]; exact hb) he (by omega)
        · rw [hd] at h4
          rw [show min (q - s) 4 = q - s by omega] at hx hb
          obtain ⟨hb1, hb2⟩ := ys_10b hb (by omega) hdg
          have m1 : (x * Int32.ofInt 10).toInt = x.toInt * 10 := zq_mul (y := Int32.ofInt 10) (z := 10) (by decide) (by omega) (by omega)
          have m2 : (x * Int32.ofInt 10 + H.2.1 1 (H.2.1 52 2).toInt.toNat).toInt = x.toInt * 10 + (H.2.1 1 (H.2.1 52 2).toInt.toNat).toInt := (zq_add (by omega) (by omega)).trans (by rw [m1])
          have m3 : (x * Int32.ofInt 10 + H.2.1 1 (H.2.1 52 2).toInt.toNat - Int32.ofInt 48).toInt = x.toInt * 10 + (H.2.1 1 (H.2.1 52 2).toInt.toNat).toInt - 48 := (zq_sub (by rw [m2]; show _ ≤ _ - (48 : Int); omega) (by rw [m2]; show _ - (48 : Int) ≤ _; omega)).trans (by rw [m2]; rfl)
          refine zw_ld (n := 1) (k := 1) (f := zp_isI) (pc' := 42) rfl rfl l1 rfl rfl ?_
          refine zw_s (pc' := 44) rfl rfl ?_
          refine zw_imul (pc' := 45) rfl rfl ?_
          refine zw_ld (n := 1) (k := 0) (f := zp_isR) (pc' := 46) rfl rfl l0 rfl rfl ?_
          refine zw_gR (q := 52) (pc' := 49) W rfl rfl rfl rfl (W.2 52 0 _ rfl) rfl ?_
          refine zw_ld (n := 1) (k := 0) (f := zp_isR) (pc' := 50) rfl rfl l0 rfl rfl ?_
          refine zw_gI (q := 52) (pc' := 53) W rfl rfl rfl rfl rfl rfl ?_
          refine zw_ba (q := 1) (pc' := 54) W rfl rfl (by decide) (⟨by omega, by show _ < ((700 : Nat) : Int); omega⟩) rfl rfl ?_
          refine zw_iadd (pc' := 55) rfl rfl ?_
          refine zw_s (pc' := 57) rfl rfl ?_
          refine zw_isub (pc' := 58) rfl rfl ?_
          refine zw_st (n := 1) (k := 1) (f := zp_isI) (pc' := 59) rfl rfl rfl rfl rfl ?_
          refine zw_ld (n := 1) (k := 0) (f := zp_isR) (pc' := 60) rfl rfl (zw_gt l0 rfl rfl) rfl rfl ?_
          refine zw_s (pc' := 61) rfl rfl ?_
          refine zw_gI (q := 52) (pc' := 64) W rfl rfl rfl rfl rfl rfl ?_
          refine zw_s (pc' := 65) rfl rfl ?_
          refine zw_iadd (pc' := 66) rfl rfl ?_
          refine zw_pI (q := 52) (pc' := 69) W rfl rfl rfl rfl rfl rfl ?_
          refine zw_s (pc' := 2) rfl rfl ?_
          refine ih _ _ _ (q + 1) ⟨b2, yc_T_I hZ.2 rfl⟩ (zk_Fr_I hF rfl rfl) (zw_gt l0 rfl rfl) zw_g1 g3 g2 (by omega) ?_ ?_ he (by omega)
          · rw [m3, show min (q + 1 - s) 4 = (q - s) + 1 by omega]
            show _ = ys_nm T s (q - s) * 10 + T (s + (q - s)) - 48
            rw [← hx, show s + (q - s) = q by omega, tq]
          · rw [m3, show min (q + 1 - s) 4 = (q - s) + 1 by omega]
            exact hb2
      · refine zw_c (pc' := 25) (zw_cs (Y := zm_58) rfl rfl zm_58_t) rfl rfl rfl rfl rfl (yc_g0 hdg) ?_
        refine zw_beq1 (g := 72) (pc' := 28) rfl rfl rfl (rfl : _ = (0 : Int)) (fun h9 => ?_) (fun h9 => absurd h9 (by decide))
        have hP : ys_D (T q) = false := decide_eq_false (by rw [← tq]; exact hdg)
        have he : q = e := by
          rw [← he, ys_run_f hP]
        have b2 := zB_putf (p := 52) (k := 4) (x := Int32.ofInt 2) hZ.1 rfl (fun r hr => by cases hr) (zJc_I rfl hZ.1.2.2.2.2.2.2.2)
        have hd : (H.2.1 52 2 - H.2.1 52 3).toInt = (H.2.1 52 2).toInt - (H.2.1 52 3).toInt := zq_sub (by omega) (by omega)
        refine zw_ld (n := 1) (k := 0) (f := zp_isR) (pc' := 73) rfl rfl l0 rfl rfl ?_
        refine zw_s (pc' := 74) rfl rfl ?_
        refine zw_pI (q := 52) (pc' := 77) W rfl rfl rfl rfl rfl rfl ?_
        refine zw_ld (n := 1) (k := 0) (f := zp_isR) (pc' := 78) rfl rfl l0 rfl rfl ?_
        refine zw_ld (n := 1) (k := 0) (f := zp_isR) (pc' := 79) rfl rfl l0 rfl rfl ?_
        refine zw_gI (q := 52) (pc' := 82) W rfl rfl rfl rfl (zw_ne rfl rfl) rfl ?_
        refine zw_ld (n := 1) (k := 0) (f := zp_isR) (pc' := 83) rfl rfl l0 rfl rfl ?_
        refine zw_gI (q := 52) (pc' := 86) W rfl rfl rfl rfl (zw_ne rfl rfl) rfl ?_
        refine zw_isub (pc' := 87) rfl rfl ?_
        refine zw_s (pc' := 88) rfl rfl ?_
        refine zw_ble2 (g := 96) (pc' := 91) rfl rfl rfl rfl (rfl : _ = (4 : Int)) (fun h4 => ?_) (fun h4 => ?_)
        · rw [hd] at h4
          have b3 := zB_putf (p := 52) (k := 5) (x := x) b2 rfl (fun r hr => by cases hr; exact ⟨Int32.le_toInt _, Int32.toInt_le _⟩) (zJc_I rfl b2.2.2.2.2.2.2.2)
          refine zw_ld (n := 1) (k := 1) (f := zp_isI) (pc' := 97) rfl rfl l1 rfl rfl ?_
          refine zw_pI (q := 52) (pc' := 100) W rfl rfl rfl rfl rfl rfl ?_
          refine zw_rn rfl rfl ?_
          refine ⟨_, rfl, ⟨b3, yc_T_I (yc_T_I hZ.2 rfl) rfl⟩, zk_Fr_I (zk_Fr_I hF rfl rfl) rfl rfl, ?_, ?_, ?_, ?_⟩
          · exact (congrArg Int32.toInt (zw_ne (zw_ne rfl rfl) rfl)).trans h3
          · exact (congrArg Int32.toInt (zw_ne (zw_ne rfl rfl) rfl)).trans (by rw [h2]; omega)
          · rw [show (zw_I (zw_I H 52 4 (Int32.ofInt 2)) 52 5 (x)).2.1 52 4 = Int32.ofInt 2 from zw_ne zw_eq rfl]
            decide
          · rw [show (zw_I (zw_I H 52 4 (Int32.ofInt 2)) 52 5 (x)).2.1 52 5 = x from zw_eq]
            rw [if_neg (by omega), hx, show min (q - s) 4 = e - s by omega]
        · rw [hd] at h4
          have b3 := zB_putf (p := 52) (k := 5) (x := Int32.ofInt 2147483647) b2 rfl (fun r hr => by cases hr; exact ⟨Int32.le_toInt _, Int32.toInt_le _⟩) (zJc_I rfl b2.2.2.2.2.2.2.2)
          refine zw_s (pc' := 93) rfl rfl ?_
          refine zw_s (pc' := 97) rfl rfl ?_
          refine zw_pI (q := 52) (pc' := 100) W rfl rfl rfl rfl rfl rfl ?_
          refine zw_rn rfl rfl ?_
          refine ⟨_, rfl, ⟨b3, yc_T_I (yc_T_I hZ.2 rfl) rfl⟩, zk_Fr_I (zk_Fr_I hF rfl rfl) rfl rfl, ?_, ?_, ?_, ?_⟩
          · exact (congrArg Int32.toInt (zw_ne (zw_ne rfl rfl) rfl)).trans h3
          · exact (congrArg Int32.toInt (zw_ne (zw_ne rfl rfl) rfl)).trans (by rw [h2]; omega)
          · rw [show (zw_I (zw_I H 52 4 (Int32.ofInt 2)) 52 5 (Int32.ofInt 2147483647)).2.1 52 4 = Int32.ofInt 2 from zw_ne zw_eq rfl]
            decide
          · rw [show (zw_I (zw_I H 52 4 (Int32.ofInt 2)) 52 5 (Int32.ofInt 2147483647)).2.1 52 5 = Int32.ofInt 2147483647 from zw_eq]
            rw [if_pos (by omega)]
            decide

theorem yc_tn {L : Nat} {σ : Nat → Int32} {d : Nat} {T : Nat → Int} {n : Nat} {H : zp_H} {s e : Nat} (hZ : yc_Z T n H) (h3 : (H.2.1 52 3).toInt = s) (h2 : (H.2.1 52 2).toInt = s) (hs : s ≤ n) (he : ys_run ys_D T (n - s) s = e) : ∃ X, zp_Call L σ (d + 2) 59 [.inr (.inr (some 53))] H X ∧ (fun X : zp_X => ∃ H1, X = (.inl none, H1) ∧ yc_Z T n H1 ∧ zk_Fr zg yc_m [] H H1 ∧ (H1.2.1 52 3).toInt = s ∧ (H1.2.1 52 2).toInt = e ∧ (H1.2.1 52 4).toInt = 2 ∧ (H1.2.1 52 5).toInt = (if 4 < e - s then 2147483647 else ys_nm T s (e - s))) X := by
  have hse := (ys_run_b (P := ys_D) (T := T) (n - s) s).1
  refine zw_met zm_59_t rfl rfl ?_
  refine zw_s (pc' := 1) rfl rfl ?_
  refine zw_st (n := 1) (k := 1) (f := zp_isI) (pc' := 2) rfl rfl rfl rfl rfl ?_
  exact yc_tnL (by omega) n H _ _ s hZ (zk_Fr_r H) (zw_gt rfl rfl rfl) zw_g1 h3 h2 ⟨Nat.le_refl _, hs⟩ (by rw [Nat.sub_self]; rfl) (by rw [Nat.sub_self]; decide) he (by omega)

theorem yc_swS {L : Nat} {σ : Nat → Int32} {d : Nat} {P : zp_X → Prop} {H : zp_H} {lv : zp_LV} {x : Int32} {c : Nat × Nat} (k1 : ys_G x.toInt = true → zs_Safe L σ P zm_60 [] d (120, lv, [], H, c)) (k2 : ys_G x.toInt = false → zs_Safe L σ P zm_60 [] d (128, lv, [], H, c)) : zs_Safe L σ P zm_60 [] d (17, lv, [.inl x], H, c) := by
  by_cases h40 : x.toInt = 40
  · obtain rfl : x = Int32.ofInt 40 := Int32.toInt_inj.mp h40
    exact zw_s (pc' := 120) rfl rfl (k1 rfl)
  by_cases h41 : x.toInt = 41
  · obtain rfl : x = Int32.ofInt 41 := Int32.toInt_inj.mp h41
    exact zw_s (pc' := 120) rfl rfl (k1 rfl)
  by_cases h42 : x.toInt = 42
  · obtain rfl : x = Int32.ofInt 42 := Int32.toInt_inj.mp h42
    exact zw_s (pc' := 120) rfl rfl (k1 rfl)
  by_cases h43 : x.toInt = 43
  · obtain rfl : x = Int32.ofInt 43 := Int32.toInt_inj.mp h43
    exact zw_s (pc' := 120) rfl rfl (k1 rfl)
  by_cases h44 : x.toInt = 44
  · obtain rfl : x = Int32.ofInt 44 := Int32.toInt_inj.mp h44
    exact zw_s (pc' := 128) rfl rfl (k2 rfl)
  by_cases h45 : x.toInt = 45
  · obtain rfl : x = Int32.ofInt 45 := Int32.toInt_inj.mp h45
    exact zw_s (pc' := 120) rfl rfl (k1 rfl)
  by_cases h46 : x.toInt = 46
  · obtain rfl : x = Int32.ofInt 46 := Int32.toInt_inj.mp h46
    exact zw_s (pc' := 128) rfl rfl (k2 rfl)
  by_cases h47 : x.toInt = 47
  · obtain rfl : x = Int32.ofInt 47 := Int32.toInt_inj.mp h47
    exact zw_s (pc' := 120) rfl rfl (k1 rfl)
  by_cases h48 : x.toInt = 48
  · obtain rfl : x = Int32.ofInt 48 := Int32.toInt_inj.mp h48
    exact zw_s (pc' := 128) rfl rfl (k2 rfl)
  by_cases h49 : x.toInt = 49
  · obtain rfl : x = Int32.ofInt 49 := Int32.toInt_inj.mp h49
    exact zw_s (pc' := 128) rfl rfl (k2 rfl)
  by_cases h50 : x.toInt = 50
  · obtain rfl : x = Int32.ofInt 50 := Int32.toInt_inj.mp h50
    exact zw_s (pc' := 128) rfl rfl (k2 rfl)
  by_cases h51 : x.toInt = 51
  · obtain rfl : x = Int32.ofInt 51 := Int32.toInt_inj.mp h51
    exact zw_s (pc' := 128) rfl rfl (k2 rfl)
  by_cases h52 : x.toInt = 52
  · obtain rfl : x = Int32.ofInt 52 := Int32.toInt_inj.mp h52
    exact zw_s (pc' := 128) rfl rfl (k2 rfl)
  by_cases h53 : x.toInt = 53
  · obtain rfl : x = Int32.ofInt 53 := Int32.toInt_inj.mp h53
    exact zw_s (pc' := 128) rfl rfl (k2 rfl)
  by_cases h54 : x.toInt = 54
  · obtain rfl : x = Int32.ofInt 54 := Int32.toInt_inj.mp h54
    exact zw_s (pc' := 128) rfl rfl (k2 rfl)
  by_cases h55 : x.toInt = 55
  · obtain rfl : x = Int32.ofInt 55 := Int32.toInt_inj.mp h55
    exact zw_s (pc' := 128) rfl rfl (k2 rfl)
  by_cases h56 : x.toInt = 56
  · obtain rfl : x = Int32.ofInt 56 := Int32.toInt_inj.mp h56
    exact zw_s (pc' := 128) rfl rfl (k2 rfl)
  by_cases h57 : x.toInt = 57
  · obtain rfl : x = Int32.ofInt 57 := Int32.toInt_inj.mp h57
    exact zw_s (pc' := 128) rfl rfl (k2 rfl)
  by_cases h58 : x.toInt = 58
  · obtain rfl : x = Int32.ofInt 58 := Int32.toInt_inj.mp h58
    exact zw_s (pc' := 128) rfl rfl (k2 rfl)
  by_cases h59 : x.toInt = 59
  · obtain rfl : x = Int32.ofInt 59 := Int32.toInt_inj.mp h59
    exact zw_s (pc' := 120) rfl rfl (k1 rfl)
  by_cases h60 : x.toInt = 60
  · obtain rfl : x = Int32.ofInt 60 := Int32.toInt_inj.mp h60
    exact zw_s (pc' := 120) rfl rfl (k1 rfl)
  by_cases h61 : x.toInt = 61
  · obtain rfl : x = Int32.ofInt 61 := Int32.toInt_inj.mp h61
    exact zw_s (pc' := 120) rfl rfl (k1 rfl)
  refine zw_s (pc' := 128) rfl ?_ (k2 (decide_eq_false (by omega)))
  have e : x.toInt < 40 ∨ 61 < x.toInt := by omega
  exact (if_pos e).trans rfl

theorem yc_ts {L : Nat} {σ : Nat → Int32} {d : Nat} {T : Nat → Int} {n : Nat} {H : zp_H} {s : Nat} (hZ : yc_Z T n H) (h3 : (H.2.1 52 3).toInt = s) (h2 : (H.2.1 52 2).toInt = s) (hs : s < n) : ∃ X, zp_Call L σ (d + 1) 60 [.inr (.inr (some 53))] H X ∧ (fun X : zp_X => ∃ H1, X = (.inl none, H1) ∧ yc_Z T n H1 ∧ zk_Fr zg yc_m [] H H1 ∧ (H1.2.1 52 3).toInt = s ∧ (H1.2.1 52 2).toInt = ((s + 1 : Nat) : Int) ∧ (H1.2.1 52 4).toInt = (bif ys_G (T s) then 4 else 1) ∧ (H1.2.1 52 5).toInt = T s) X := by
  have W := zB_Wd hZ.1
  have hn7 := hZ.2.1
  have tq : (H.2.1 1 (H.2.1 52 2).toInt.toNat).toInt = T s := by
    rw [show (H.2.1 52 2).toInt.toNat = s by omega]
    exact hZ.2.2.2 s (by omega)
  have e1 : (H.2.1 52 2 + Int32.ofInt 1).toInt = (H.2.1 52 2).toInt + 1 := zw_p1 (by omega)
  have b1 := zB_putf (p := 52) (k := 5) (x := H.2.1 1 (H.2.1 52 2).toInt.toNat) hZ.1 rfl (fun r hr => by cases hr; exact ⟨Int32.le_toInt _, Int32.toInt_le _⟩) (zJc_I rfl hZ.1.2.2.2.2.2.2.2)
  refine zw_met zm_60_t rfl rfl ?_
  refine zw_ld (n := 1) (k := 0) (f := zp_isR) (pc' := 1) rfl rfl rfl rfl rfl ?_
  refine zw_ld (n := 1) (k := 0) (f := zp_isR) (pc' := 2) rfl rfl rfl rfl rfl ?_
  refine zw_gR (q := 52) (pc' := 5) W rfl rfl rfl rfl (W.2 52 0 _ rfl) rfl ?_
  refine zw_ld (n := 1) (k := 0) (f := zp_isR) (pc' := 6) rfl rfl rfl rfl rfl ?_
  refine zw_gI (q := 52) (pc' := 9) W rfl rfl rfl rfl rfl rfl ?_
  refine zw_ba (q := 1) (pc' := 10) W rfl rfl (by decide) (⟨by omega, by show _ < ((700 : Nat) : Int); omega⟩) rfl rfl ?_
  refine zw_pI (q := 52) (pc' := 13) W rfl rfl rfl rfl rfl rfl ?_
  refine zw_ld (n := 1) (k := 0) (f := zp_isR) (pc' := 14) rfl rfl rfl rfl rfl ?_
  refine zw_gI (q := 52) (pc' := 17) W rfl rfl rfl rfl zw_eq rfl ?_
  refine yc_swS (fun hg => ?_) (fun hg => ?_)
  · rw [tq] at hg
    have b2 := zB_putf (p := 52) (k := 4) (x := Int32.ofInt 4) b1 rfl (fun r hr => by cases hr) (zJc_I rfl b1.2.2.2.2.2.2.2)
    have b3 := zB_putf (p := 52) (k := 2) (x := H.2.1 52 2 + Int32.ofInt 1) b2 rfl (fun r hr => by cases hr; exact ⟨by show (0 : Int) ≤ _; omega, by show _ ≤ (700 : Int); omega⟩) (zJc_I rfl b2.2.2.2.2.2.2.2)
    refine zw_ld (n := 1) (k := 0) (f := zp_isR) (pc' := 121) rfl rfl rfl rfl rfl ?_
    refine zw_s (pc' := 122) rfl rfl ?_
    refine zw_pI (q := 52) (pc' := 125) W rfl rfl rfl rfl rfl rfl ?_
    refine zw_s (pc' := 133) rfl rfl ?_
    refine zw_ld (n := 1) (k := 0) (f := zp_isR) (pc' := 134) rfl rfl rfl rfl rfl ?_
    refine zw_s (pc' := 135) rfl rfl ?_
    refine zw_gI (q := 52) (pc' := 138) W rfl rfl rfl rfl (zw_ne (zw_ne rfl rfl) rfl) rfl ?_
    refine zw_s (pc' := 139) rfl rfl ?_
    refine zw_iadd (pc' := 140) rfl rfl ?_
    refine zw_pI (q := 52) (pc' := 143) W rfl rfl rfl rfl rfl rfl ?_
    refine zw_rn rfl rfl ?_
    refine ⟨_, rfl, ⟨b3, yc_T_I (yc_T_I (yc_T_I hZ.2 rfl) rfl) rfl⟩, zk_Fr_I (zk_Fr_I (zk_Fr_I (zk_Fr_r H) rfl rfl) rfl rfl) rfl rfl, ?_, ?_, ?_, ?_⟩
    · exact (congrArg Int32.toInt (zw_ne (zw_ne (zw_ne rfl rfl) rfl) rfl)).trans h3
    · exact (congrArg Int32.toInt zw_eq).trans (by rw [e1]; omega)
    · rw [hg]
      exact (congrArg Int32.toInt (zw_ne zw_eq rfl)).trans (by decide)
    · exact (congrArg Int32.toInt (zw_ne (zw_ne zw_eq rfl) rfl)).trans tq
  · rw [tq] at hg
    have b2 := zB_putf (p := 52) (k := 4) (x := Int32.ofInt 1) b1 rfl (fun r hr => by cases hr) (zJc_I rfl b1.2.2.2.2.2.2.2)
    have b3 := zB_putf (p := 52) (k := 2) (x := H.2.1 52 2 + Int32.ofInt 1) b2 rfl (fun r hr => by cases hr; exact ⟨by show (0 : Int) ≤ _; omega, by show _ ≤ (700 : Int); omega⟩) (zJc_I rfl b2.2.2.2.2.2.2.2)
    refine zw_ld (n := 1) (k := 0) (f := zp_isR) (pc' := 129) rfl rfl rfl rfl rfl ?_
    refine zw_s (pc' := 130) rfl rfl ?_
    refine zw_pI (q := 52) (pc' := 133) W rfl rfl rfl rfl rfl rfl ?_
    refine zw_ld (n := 1) (k := 0) (f := zp_isR) (pc' := 134) rfl rfl rfl rfl rfl ?_
    refine zw_s (pc' := 135) rfl rfl ?_
    refine zw_gI (q := 52) (pc' := 138) W rfl rfl rfl rfl (zw_ne (zw_ne rfl rfl) rfl) rfl ?_
    refine zw_s (pc' := 139) rfl rfl ?_
    refine zw_iadd (pc' := 140) rfl rfl ?_
    refine zw_pI (q := 52) (pc' := 143) W rfl rfl rfl rfl rfl rfl ?_
    refine zw_rn rfl rfl ?_
    refine ⟨_, rfl, ⟨b3, yc_T_I (yc_T_I (yc_T_I hZ.2 rfl) rfl) rfl⟩, zk_Fr_I (zk_Fr_I (zk_Fr_I (zk_Fr_r H) rfl rfl) rfl rfl) rfl rfl, ?_, ?_, ?_, ?_⟩
    · exact (congrArg Int32.toInt (zw_ne (zw_ne (zw_ne rfl rfl) rfl) rfl)).trans h3
    · exact (congrArg Int32.toInt zw_eq).trans (by rw [e1]; omega)
    · rw [hg]
      exact (congrArg Int32.toInt (zw_ne zw_eq rfl)).trans (by decide)
    · exact (congrArg Int32.toInt (zw_ne (zw_ne zw_eq rfl) rfl)).trans tq

theorem yc_twA {L : Nat} {σ : Nat → Int32} {d : Nat} {T : Nat → Int} {n : Nat} {P : zp_X → Prop} {H0 : zp_H} {s e : Nat} (k : ∀ (H : zp_H) (lv : zp_LV), yc_Z T n H → zk_Fr zg yc_m [] H0 H → zp_get lv 0 = some (.inr (.inr (some 53))) → (H.2.1 52 3).toInt = s → (H.2.1 52 2).toInt = e → zs_Safe L σ P zm_57 [] (d + 1) (39, lv, [], H, (0, 0))) : ∀ (m : Nat) (H : zp_H) (lv : zp_LV) (q : Nat), yc_Z T n H → zk_Fr zg yc_m [] H0 H → zp_get lv 0 = some (.inr (.inr (some 53))) → (H.2.1 52 3).toInt = s → (H.2.1 52 2).toInt = q → s ≤ q ∧ q ≤ n → ys_run ys_L T (n - q) q = e → n - q ≤ m → zs_Safe L σ P zm_57 [] (d + 1) (0, lv, [], H, (0, 0)) := by
  intro m
  induction m with
  | zero =>
    intro H lv q hZ hF l0 h3 h2 hq he hm
    have W := zB_Wd hZ.1
    have hn7 := hZ.2.1
    have r1 := hZ.2.2.1
    refine zw_ld (n := 1) (k := 0) (f := zp_isR) (pc' := 1) rfl rfl l0 rfl rfl ?_
    refine zw_gI (q := 52) (pc' := 4) W rfl rfl rfl rfl rfl rfl ?_
    refine zw_ld (n := 1) (k := 0) (f := zp_isR) (pc' := 5) rfl rfl l0 rfl rfl ?_
    refine zw_gI (q := 52) (pc' := 8) W rfl rfl rfl rfl rfl rfl ?_
    refine zw_bge2 (g := 39) (pc' := 11) rfl rfl rfl rfl rfl (fun hb1 => ?_) (fun hb1 => ?_)
    · have hqe : q = e := by
        rw [← he, ys_run_n (by omega)]
      exact k H lv hZ hF l0 h3 (by rw [h2, hqe])
    · omega
  | succ m ih =>
    intro H lv q hZ hF l0 h3 h2 hq he hm
    have W := zB_Wd hZ.1
    have hn7 := hZ.2.1
    have r1 := hZ.2.2.1
    refine zw_ld (n := 1) (k := 0) (f := zp_isR) (pc' := 1) rfl rfl l0 rfl rfl ?_
    refine zw_gI (q := 52) (pc' := 4) W rfl rfl rfl rfl rfl rfl ?_
    refine zw_ld (n := 1) (k := 0) (f := zp_isR) (pc' := 5) rfl rfl l0 rfl rfl ?_
    refine zw_gI (q := 52) (pc' := 8) W rfl rfl rfl rfl rfl rfl ?_
    refine zw_bge2 (g := 39) (pc' := 11) rfl rfl rfl rfl rfl (fun hb1 => ?_) (fun hb1 => ?_)
    · have hqe : q = e := by
        rw [← he, ys_run_n (by omega)]
      exact k H lv hZ hF l0 h3 (by rw [h2, hqe])
    · have tq : (H.2.1 1 (H.2.1 52 2).toInt.toNat).toInt = T q := by
        rw [show (H.2.1 52 2).toInt.toNat = q by omega]
        exact hZ.2.2.2 q (by omega)
      refine zw_ld (n := 1) (k := 0) (f := zp_isR) (pc' := 12) rfl rfl l0 rfl rfl ?_
      refine zw_gR (q := 52) (pc' := 15) W rfl rfl rfl rfl (W.2 52 0 _ rfl) rfl ?_
      refine zw_ld (n := 1) (k := 0) (f := zp_isR) (pc' := 16) rfl rfl l0 rfl rfl ?_
      refine zw_gI (q := 52) (pc' := 19) W rfl rfl rfl rfl rfl rfl ?_
      refine zw_ba (q := 1) (pc' := 20) W rfl rfl (by decide) (⟨by omega, by show _ < ((700 : Nat) : Int); omega⟩) rfl rfl ?_
      by_cases hdg : 97 ≤ (H.2.1 1 (H.2.1 52 2).toInt.toNat).toInt ∧ (H.2.1 1 (H.2.1 52 2).toInt.toNat).toInt ≤ 122
      · refine zw_c (pc' := 23) (zw_cs (Y := zm_56) rfl rfl zm_56_t) rfl rfl rfl rfl rfl (yc_l1 hdg) ?_
        refine zw_beq1 (g := 39) (pc' := 26) rfl rfl rfl (rfl : _ = (1 : Int)) (fun h9 => absurd h9 (by decide)) (fun h9 => ?_)
        have hP : ys_L (T q) = true := decide_eq_true (by rw [← tq]; exact hdg)
        rw [ys_run_t (by omega) hP] at he
        have e1 : (H.2.1 52 2 + Int32.ofInt 1).toInt = (H.2.1 52 2).toInt + 1 := zw_p1 (by omega)
        have b2 := zB_putf (p := 52) (k := 2) (x := H.2.1 52 2 + Int32.ofInt 1) hZ.1 rfl (fun r hr => by cases hr; exact ⟨by show (0 : Int) ≤ _; omega, by show _ ≤ (700 : Int); omega⟩) (zJc_I rfl hZ.1.2.2.2.2.2.2.2)
        have g2 : ((zw_I H 52 2 (H.2.1 52 2 + Int32.ofInt 1)).2.1 52 2).toInt = ((q + 1 : Nat) : Int) := by
          rw [zw_eq, e1]
          omega
        have g3 : ((zw_I H 52 2 (H.2.1 52 2 + Int32.ofInt 1)).2.1 52 3).toInt = s := (congrArg Int32.toInt (zw_ne rfl rfl)).trans h3
        refine zw_ld (n := 1) (k := 0) (f := zp_isR) (pc' := 27) rfl rfl l0 rfl rfl ?_
        refine zw_s (pc' := 28) rfl rfl ?_
        refine zw_gI (q := 52) (pc' := 31) W rfl rfl rfl rfl rfl rfl ?_
        refine zw_s (pc' := 32) rfl rfl ?_
        refine zw_iadd (pc' := 33) rfl rfl ?_
        refine zw_pI (q := 52) (pc' := 36) W rfl rfl rfl rfl rfl rfl ?_
        refine zw_s (pc' := 0) rfl rfl ?_
        exact ih _ _ (q + 1) ⟨b2, yc_T_I hZ.2 rfl⟩ (zk_Fr_I hF rfl rfl) l0 g3 g2 (by omega) he (by omega)
      · refine zw_c (pc' := 23) (zw_cs (Y := zm_56) rfl rfl zm_56_t) rfl rfl rfl rfl rfl (yc_l0 hdg) ?_
        refine zw_beq1 (g := 39) (pc' := 26) rfl rfl rfl (rfl : _ = (0 : Int)) (fun h9 => ?_) (fun h9 => absurd h9 (by decide))
        have hP : ys_L (T q) = false := decide_eq_false (by rw [← tq]; exact hdg)
        have hqe : q = e := by
          rw [← he, ys_run_f hP]
        exact k H _ hZ hF l0 h3 (by rw [h2, hqe])

theorem yc_twB {L : Nat} {σ : Nat → Int32} {d : Nat} {T : Nat → Int} {n : Nat} {H0 : zp_H} {s e : Nat} {V : Int} (hse : s ≤ e ∧ e ≤ n) : ∀ (m : Nat) (H : zp_H) (lv : zp_LV) (a i : Int32), yc_Z T n H → zk_Fr zg yc_m [] H0 H → zp_get lv 0 = some (.inr (.inr (some 53))) → zp_get lv 1 = some (.inl a) → zp_get lv 2 = some (.inl i) → (H.2.1 52 3).toInt = s → (H.2.1 52 2).toInt = e → (H.2.1 52 4).toInt = 3 → (H.2.1 52 5).toInt = zq_sp i.toInt.toNat → a.toInt = ys_al T s e i.toInt.toNat → 0 ≤ i.toInt ∧ i.toInt ≤ 101 → 101 - i.toInt.toNat = m → ys_wl T s e m i.toInt.toNat = V → -1 ≤ a.toInt ∧ a.toInt ≤ i.toInt → zs_Safe L σ (fun X : zp_X => ∃ H1, X = (.inl none, H1) ∧ yc_Z T n H1 ∧ zk_Fr zg yc_m [] H0 H1 ∧ (H1.2.1 52 3).toInt = s ∧ (H1.2.1 52 2).toInt = e ∧ (H1.2.1 52 4).toInt = 3 ∧ (H1.2.1 52 5).toInt = V) zm_57 [] (d + 1) (53, lv, [], H, (0, 0)) := by
  intro m
  induction m with
  | zero =>
    intro H lv a i hZ hF l0 l1 l2 h3 h2 h4 h5 ha hi hm hV hab
    have W := zB_Wd hZ.1
    have hn7 := hZ.2.1
    have s0 := zq_sp_b (n := i.toInt.toNat) (by omega)
    refine zw_ld (n := 1) (k := 2) (f := zp_isI) (pc' := 54) rfl rfl l2 rfl rfl ?_
    refine zw_s (pc' := 59) rfl rfl ?_
    refine zw_bge2 (g := 163) (pc' := 62) rfl rfl rfl rfl (rfl : _ = (101 : Int)) (fun hb => ?_) (fun hb => ?_)
    · refine zw_rn rfl rfl ?_
      exact ⟨H, rfl, hZ, hF, h3, h2, h4, by rw [h5, ← hV]; rfl⟩
    · omega
  | succ m ih =>
    intro H lv a i hZ hF l0 l1 l2 h3 h2 h4 h5 ha hi hm hV hab
    have W := zB_Wd hZ.1
    have hn7 := hZ.2.1
    have s0 := zq_sp_b (n := i.toInt.toNat) (by omega)
    refine zw_ld (n := 1) (k := 2) (f := zp_isI) (pc' := 54) rfl rfl l2 rfl rfl ?_
    refine zw_s (pc' := 59) rfl rfl ?_
    refine zw_bge2 (g := 163) (pc' := 62) rfl rfl rfl rfl (rfl : _ = (101 : Int)) (fun hb => ?_) (fun hb => ?_)
    · omega
    · have e1 : (i + Int32.ofInt 1).toInt = i.toInt + 1 := zw_p1 (by omega)
      have e2 : (i + Int32.ofInt 1).toInt.toNat = i.toInt.toNat + 1 := by omega
      have hsp : zq_sp (i.toInt.toNat + 1) = zq_sp i.toInt.toNat + (if (Int32.ofNat (zp_spell.getD i.toInt.toNat 0)).toInt = 32 then 1 else 0) := rfl
      have hal : ys_al T s e (i.toInt.toNat + 1) = (if (Int32.ofNat (zp_spell.getD i.toInt.toNat 0)).toInt = 32 then 0 else if ys_al T s e i.toInt.toNat ≠ -1 ∧ (s : Int) + ys_al T s e i.toInt.toNat < e ∧ T ((s : Int) + ys_al T s e i.toInt.toNat).toNat = (Int32.ofNat (zp_spell.getD i.toInt.toNat 0)).toInt then ys_al T s e i.toInt.toNat + 1 else -1) := rfl
      have hwl : ys_wl T s e (m + 1) i.toInt.toNat = (if (Int32.ofNat (zp_spell.getD i.toInt.toNat 0)).toInt = 32 ∧ ys_al T s e i.toInt.toNat = (e : Int) - s then zq_sp i.toInt.toNat else ys_wl T s e m (i.toInt.toNat + 1)) := rfl
      refine zw_ch (k := 2) (pc' := 68) rfl rfl rfl rfl rfl rfl l2 (⟨by omega, by omega⟩) rfl ?_
      refine zw_st (n := 1) (k := 3) (f := zp_isI) (pc' := 69) rfl rfl rfl rfl rfl ?_
      refine zw_ld (n := 1) (k := 3) (f := zp_isI) (pc' := 70) rfl rfl zw_g1 rfl rfl ?_
      refine zw_s (pc' := 72) rfl rfl ?_
      refine zw_beq2 (g := 131) (pc' := 75) rfl rfl rfl rfl (rfl : _ = (32 : Int)) (fun hc => ?_) (fun hc => ?_)
      · rw [if_pos hc] at hsp hal
        have s1 := zq_sp_b (n := i.toInt.toNat + 1) (by omega)
        have hd : (H.2.1 52 2 - H.2.1 52 3).toInt = (H.2.1 52 2).toInt - (H.2.1 52 3).toInt := zq_sub (by omega) (by omega)
        refine zw_ld (n := 1) (k := 1) (f := zp_isI) (pc' := 132) rfl rfl (zw_gt l1 rfl rfl) rfl rfl ?_
        refine zw_ld (n := 1) (k := 0) (f := zp_isR) (pc' := 133) rfl rfl (zw_gt l0 rfl rfl) rfl rfl ?_
        refine zw_gI (q := 52) (pc' := 136) W rfl rfl rfl rfl rfl rfl ?_
        refine zw_ld (n := 1) (k := 0) (f := zp_isR) (pc' := 137) rfl rfl (zw_gt l0 rfl rfl) rfl rfl ?_
        refine zw_gI (q := 52) (pc' := 140) W rfl rfl rfl rfl rfl rfl ?_
        refine zw_isub (pc' := 141) rfl rfl ?_
        refine zw_bne2 (g := 145) (pc' := 144) rfl rfl rfl rfl rfl (fun ha1 => ?_) (fun ha1 => ?_)
        · rw [hd, h3, h2, ha] at ha1
          rw [if_neg (fun h9 => ha1 h9.2)] at hwl
          have e5 : (H.2.1 52 5 + Int32.ofInt 1).toInt = (H.2.1 52 5).toInt + 1 := zw_p1 (by omega)
          refine zw_s (pc' := 146) rfl rfl ?_
          refine zw_st (n := 1) (k := 1) (f := zp_isI) (pc' := 147) rfl rfl rfl rfl rfl ?_
          refine zw_ld (n := 1) (k := 0) (f := zp_isR) (pc' := 148) rfl rfl (zw_gt (zw_gt l0 rfl rfl) rfl rfl) rfl rfl ?_
          refine zw_s (pc' := 149) rfl rfl ?_
          refine zw_gI (q := 52) (pc' := 152) W rfl rfl rfl rfl rfl rfl ?_
          refine zw_s (pc' := 153) rfl rfl ?_
          refine zw_iadd (pc' := 154) rfl rfl ?_
          refine zw_pI (q := 52) (pc' := 157) W rfl rfl rfl rfl rfl rfl ?_
          refine zw_ii (pc' := 160) rfl (zw_gt (zw_gt l2 rfl rfl) rfl rfl) rfl rfl ?_
          refine zw_s (pc' := 53) rfl rfl ?_
          have g4 : (zw_I H 52 5 (H.2.1 52 5 + Int32.ofInt 1)).2.1 52 4 = H.2.1 52 4 := zw_ne rfl rfl
          have g3 : (zw_I H 52 5 (H.2.1 52 5 + Int32.ofInt 1)).2.1 52 3 = H.2.1 52 3 := zw_ne rfl rfl
          have g2 : (zw_I H 52 5 (H.2.1 52 5 + Int32.ofInt 1)).2.1 52 2 = H.2.1 52 2 := zw_ne rfl rfl
          have g5 : (zw_I H 52 5 (H.2.1 52 5 + Int32.ofInt 1)).2.1 52 5 = H.2.1 52 5 + Int32.ofInt 1 := zw_eq
          have e3 : (Int32.ofInt 0).toInt = 0 := by decide
          have b2 := zB_putf (p := 52) (k := 5) (x := H.2.1 52 5 + Int32.ofInt 1) hZ.1 rfl (fun r hr => by cases hr; exact ⟨Int32.le_toInt _, Int32.toInt_le _⟩) (zJc_I rfl hZ.1.2.2.2.2.2.2.2)
          exact ih _ _ _ _ ⟨b2, yc_T_I hZ.2 rfl⟩ (zk_Fr_I hF rfl rfl) (zw_gt (zw_gt (zw_gt l0 rfl rfl) rfl rfl) rfl rfl) (zw_gt zw_g1 rfl rfl) zw_g1 (by rw [g3]; exact h3) (by rw [g2]; exact h2) (by rw [g4]; exact h4) (by rw [g5, e5, e2, hsp, h5]) (by rw [e2, hal, e3]) (by omega) (by omega) (by rw [e2, ← hwl]; exact hV) (by omega)
        · rw [hd, h3, h2, ha] at ha1
          rw [if_pos ⟨hc, ha1⟩] at hwl
          refine zw_rn rfl rfl ?_
          exact ⟨H, rfl, hZ, hF, h3, h2, h4, by rw [h5, ← hV, hwl]⟩
      · rw [if_neg hc] at hsp hal
        rw [if_neg (fun h9 => hc h9.1)] at hwl
        refine zw_ld (n := 1) (k := 1) (f := zp_isI) (pc' := 76) rfl rfl (zw_gt l1 rfl rfl) rfl rfl ?_
        refine zw_s (pc' := 77) rfl rfl ?_
        refine zw_beq2 (g := 112) (pc' := 80) rfl rfl rfl rfl (rfl : _ = (-1 : Int)) (fun ha1 => ?_) (fun ha1 => ?_)
        · refine zw_s (pc' := 113) rfl rfl ?_
          refine zw_st (n := 2) (k := 4) (f := zp_isI) (pc' := 115) rfl rfl rfl rfl rfl ?_
          refine zw_ld (n := 2) (k := 4) (f := zp_isI) (pc' := 117) rfl rfl zw_g1 rfl rfl ?_
          refine zw_beq1 (g := 126) (pc' := 120) rfl rfl rfl (rfl : _ = (0 : Int)) (fun h9 => ?_) (fun h9 => absurd h9 (by decide))
          have e3 : (Int32.ofInt (-1)).toInt = -1 := by decide
          rw [if_neg (by rintro ⟨h8, -⟩; exact h8 (by rw [← ha]; exact ha1))] at hal
          refine zw_s (pc' := 127) rfl rfl ?_
          refine zw_st (n := 1) (k := 1) (f := zp_isI) (pc' := 128) rfl rfl rfl rfl rfl ?_
          refine zw_s (pc' := 157) rfl rfl ?_
          refine zw_ii (pc' := 160) rfl (zw_gt (zw_gt (zw_gt l2 rfl rfl) rfl rfl) rfl rfl) rfl rfl ?_
          refine zw_s (pc' := 53) rfl rfl ?_
          exact ih H _ _ _ hZ hF (zw_gt (zw_gt (zw_gt (zw_gt l0 rfl rfl) rfl rfl) rfl rfl) rfl rfl) (zw_gt zw_g1 rfl rfl) zw_g1 h3 h2 h4 (by rw [e2, hsp, h5]; omega) (by rw [e2, hal, e3]) (by omega) (by omega) (by rw [e2, ← hwl]; exact hV) (by omega)
        · have e4 : (H.2.1 52 3 + a).toInt = (H.2.1 52 3).toInt + a.toInt := zq_add (by omega) (by omega)
          refine zw_ld (n := 1) (k := 0) (f := zp_isR) (pc' := 81) rfl rfl (zw_gt l0 rfl rfl) rfl rfl ?_
          refine zw_gI (q := 52) (pc' := 84) W rfl rfl rfl rfl rfl rfl ?_
          refine zw_ld (n := 1) (k := 1) (f := zp_isI) (pc' := 85) rfl rfl (zw_gt l1 rfl rfl) rfl rfl ?_
          refine zw_iadd (pc' := 86) rfl rfl ?_
          refine zw_ld (n := 1) (k := 0) (f := zp_isR) (pc' := 87) rfl rfl (zw_gt l0 rfl rfl) rfl rfl ?_
          refine zw_gI (q := 52) (pc' := 90) W rfl rfl rfl rfl rfl rfl ?_
          refine zw_bge2 (g := 112) (pc' := 93) rfl rfl rfl rfl rfl (fun ha2 => ?_) (fun ha2 => ?_)
          · rw [e4] at ha2
            refine zw_s (pc' := 113) rfl rfl ?_
            refine zw_st (n := 2) (k := 4) (f := zp_isI) (pc' := 115) rfl rfl rfl rfl rfl ?_
            refine zw_ld (n := 2) (k := 4) (f := zp_isI) (pc' := 117) rfl rfl zw_g1 rfl rfl ?_
            refine zw_beq1 (g := 126) (pc' := 120) rfl rfl rfl (rfl : _ = (0 : Int)) (fun h9 => ?_) (fun h9 => absurd h9 (by decide))
            have e3 : (Int32.ofInt (-1)).toInt = -1 := by decide
            rw [if_neg (by rintro ⟨-, h8, -⟩; rw [← ha] at h8; omega)] at hal
            refine zw_s (pc' := 127) rfl rfl ?_
            refine zw_st (n := 1) (k := 1) (f := zp_isI) (pc' := 128) rfl rfl rfl rfl rfl ?_
            refine zw_s (pc' := 157) rfl rfl ?_
            refine zw_ii (pc' := 160) rfl (zw_gt (zw_gt (zw_gt l2 rfl rfl) rfl rfl) rfl rfl) rfl rfl ?_
            refine zw_s (pc' := 53) rfl rfl ?_
            exact ih H _ _ _ hZ hF (zw_gt (zw_gt (zw_gt (zw_gt l0 rfl rfl) rfl rfl) rfl rfl) rfl rfl) (zw_gt zw_g1 rfl rfl) zw_g1 h3 h2 h4 (by rw [e2, hsp, h5]; omega) (by rw [e2, hal, e3]) (by omega) (by omega) (by rw [e2, ← hwl]; exact hV) (by omega)
          · rw [e4, h3, h2] at ha2
            have tx : (H.2.1 1 (H.2.1 52 3 + a).toInt.toNat).toInt = T ((s : Int) + a.toInt).toNat := by
              rw [e4, h3]
              exact hZ.2.2.2 _ (by omega)
            refine zw_ld (n := 1) (k := 0) (f := zp_isR) (pc' := 94) rfl rfl (zw_gt l0 rfl rfl) rfl rfl ?_
            refine zw_gR (q := 52) (pc' := 97) W rfl rfl rfl rfl (W.2 52 0 _ rfl) rfl ?_
            refine zw_ld (n := 1) (k := 0) (f := zp_isR) (pc' := 98) rfl rfl (zw_gt l0 rfl rfl) rfl rfl ?_
            refine zw_gI (q := 52) (pc' := 101) W rfl rfl rfl rfl rfl rfl ?_
            refine zw_ld (n := 1) (k := 1) (f := zp_isI) (pc' := 102) rfl rfl (zw_gt l1 rfl rfl) rfl rfl ?_
            refine zw_iadd (pc' := 103) rfl rfl ?_
            refine zw_ba (q := 1) (pc' := 104) W rfl rfl (by decide) (⟨by rw [e4]; omega, by rw [e4]; show _ < ((700 : Nat) : Int); omega⟩) rfl rfl ?_
            refine zw_ld (n := 1) (k := 3) (f := zp_isI) (pc' := 105) rfl rfl zw_g1 rfl rfl ?_
            refine zw_bne2 (g := 112) (pc' := 108) rfl rfl rfl rfl rfl (fun ha3 => ?_) (fun ha3 => ?_)
            · refine zw_s (pc' := 113) rfl rfl ?_
              refine zw_st (n := 2) (k := 4) (f := zp_isI) (pc' := 115) rfl rfl rfl rfl rfl ?_
              refine zw_ld (n := 2) (k := 4) (f := zp_isI) (pc' := 117) rfl rfl zw_g1 rfl rfl ?_
              refine zw_beq1 (g := 126) (pc' := 120) rfl rfl rfl (rfl : _ = (0 : Int)) (fun h9 => ?_) (fun h9 => absurd h9 (by decide))
              have e3 : (Int32.ofInt (-1)).toInt = -1 := by decide
              rw [if_neg (by rintro ⟨-, -, h8⟩; rw [← ha, ← tx] at h8; exact ha3 h8)] at hal
              refine zw_s (pc' := 127) rfl rfl ?_
              refine zw_st (n := 1) (k := 1) (f := zp_isI) (pc' := 128) rfl rfl rfl rfl rfl ?_
              refine zw_s (pc' := 157) rfl rfl ?_
              refine zw_ii (pc' := 160) rfl (zw_gt (zw_gt (zw_gt l2 rfl rfl) rfl rfl) rfl rfl) rfl rfl ?_
              refine zw_s (pc' := 53) rfl rfl ?_
              exact ih H _ _ _ hZ hF (zw_gt (zw_gt (zw_gt (zw_gt l0 rfl rfl) rfl rfl) rfl rfl) rfl rfl) (zw_gt zw_g1 rfl rfl) zw_g1 h3 h2 h4 (by rw [e2, hsp, h5]; omega) (by rw [e2, hal, e3]) (by omega) (by omega) (by rw [e2, ← hwl]; exact hV) (by omega)
            · refine zw_s (pc' := 109) rfl rfl ?_
              refine zw_s (pc' := 113) rfl rfl ?_
              refine zw_st (n := 2) (k := 4) (f := zp_isI) (pc' := 115) rfl rfl rfl rfl rfl ?_
              refine zw_ld (n := 2) (k := 4) (f := zp_isI) (pc' := 117) rfl rfl zw_g1 rfl rfl ?_
              refine zw_beq1 (g := 126) (pc' := 120) rfl rfl rfl (rfl : _ = (1 : Int)) (fun h9 => absurd h9 (by decide)) (fun h9 => ?_)
              have e3 : (a + Int32.ofInt 1).toInt = a.toInt + 1 := zw_p1 (by omega)
              rw [if_pos ⟨by rw [← ha]; exact ha1, by rw [← ha]; exact ha2, by rw [← ha, ← tx]; exact ha3⟩] at hal
              refine zw_ld (n := 1) (k := 1) (f := zp_isI) (pc' := 121) rfl rfl (zw_gt (zw_gt l1 rfl rfl) rfl rfl) rfl rfl ?_
              refine zw_s (pc' := 122) rfl rfl ?_
              refine zw_iadd (pc' := 123) rfl rfl ?_
              refine zw_s (pc' := 127) rfl rfl ?_
              refine zw_st (n := 1) (k := 1) (f := zp_isI) (pc' := 128) rfl rfl rfl rfl rfl ?_
              refine zw_s (pc' := 157) rfl rfl ?_
              refine zw_ii (pc' := 160) rfl (zw_gt (zw_gt (zw_gt l2 rfl rfl) rfl rfl) rfl rfl) rfl rfl ?_
              refine zw_s (pc' := 53) rfl rfl ?_
              exact ih H _ _ _ hZ hF (zw_gt (zw_gt (zw_gt (zw_gt l0 rfl rfl) rfl rfl) rfl rfl) rfl rfl) (zw_gt zw_g1 rfl rfl) zw_g1 h3 h2 h4 (by rw [e2, hsp, h5]; omega) (by rw [e2, hal, e3, ha]) (by omega) (by omega) (by rw [e2, ← hwl]; exact hV) (by omega)

theorem yc_twC {L : Nat} {σ : Nat → Int32} {d : Nat} {T : Nat → Int} {n : Nat} {H0 H : zp_H} {lv : zp_LV} {s e : Nat} (hse : s ≤ e ∧ e ≤ n) (hZ : yc_Z T n H) (hF : zk_Fr zg yc_m [] H0 H) (l0 : zp_get lv 0 = some (.inr (.inr (some 53)))) (h3 : (H.2.1 52 3).toInt = s) (h2 : (H.2.1 52 2).toInt = e) : zs_Safe L σ (fun X : zp_X => ∃ H1, X = (.inl none, H1) ∧ yc_Z T n H1 ∧ zk_Fr zg yc_m [] H0 H1 ∧ (H1.2.1 52 3).toInt = s ∧ (H1.2.1 52 2).toInt = e ∧ (H1.2.1 52 4).toInt = 3 ∧ (H1.2.1 52 5).toInt = ys_wi T s e) zm_57 [] (d + 1) (39, lv, [], H, (0, 0)) := by
  have W := zB_Wd hZ.1
  refine zw_ld (n := 1) (k := 0) (f := zp_isR) (pc' := 40) rfl rfl l0 rfl rfl ?_
  refine zw_s (pc' := 41) rfl rfl ?_
  refine zw_pI (q := 52) (pc' := 44) W rfl rfl rfl rfl rfl rfl ?_
  refine zw_ld (n := 1) (k := 0) (f := zp_isR) (pc' := 45) rfl rfl l0 rfl rfl ?_
  refine zw_s (pc' := 46) rfl rfl ?_
  refine zw_pI (q := 52) (pc' := 49) W rfl rfl rfl rfl rfl rfl ?_
  refine zw_s (pc' := 50) rfl rfl ?_
  refine zw_st (n := 1) (k := 1) (f := zp_isI) (pc' := 51) rfl rfl rfl rfl rfl ?_
  refine zw_s (pc' := 52) rfl rfl ?_
  refine zw_st (n := 1) (k := 2) (f := zp_isI) (pc' := 53) rfl rfl rfl rfl rfl ?_
  have b1 := zB_putf (p := 52) (k := 4) (x := Int32.ofInt 3) hZ.1 rfl (fun r hr => by cases hr) (zJc_I rfl hZ.1.2.2.2.2.2.2.2)
  have b2 := zB_putf (p := 52) (k := 5) (x := Int32.ofInt 0) b1 rfl (fun r hr => by cases hr; decide) (zJc_I rfl b1.2.2.2.2.2.2.2)
  refine yc_twB hse 101 _ _ _ _ ⟨b2, yc_T_I (yc_T_I hZ.2 rfl) rfl⟩ (zk_Fr_I (zk_Fr_I hF rfl rfl) rfl rfl) (zw_gt (zw_gt l0 rfl rfl) rfl rfl) (zw_gt zw_g1 rfl rfl) zw_g1 ?_ ?_ ?_ ?_ rfl (by decide) (by decide) rfl (by decide)
  · exact (congrArg Int32.toInt (zw_ne (zw_ne rfl rfl) rfl)).trans h3
  · exact (congrArg Int32.toInt (zw_ne (zw_ne rfl rfl) rfl)).trans h2
  · exact (congrArg Int32.toInt (zw_ne zw_eq rfl)).trans (by decide)
  · exact (congrArg Int32.toInt zw_eq).trans (by decide)

theorem yc_tw {L : Nat} {σ : Nat → Int32} {d : Nat} {T : Nat → Int} {n : Nat} {H0 : zp_H} {s e : Nat} (hZ : yc_Z T n H0) (h3 : (H0.2.1 52 3).toInt = s) (h2 : (H0.2.1 52 2).toInt = s) (hs : s ≤ n) (he : ys_run ys_L T (n - s) s = e) : ∃ X, zp_Call L σ (d + 2) 57 [.inr (.inr (some 53))] H0 X ∧ (fun X : zp_X => ∃ H1, X = (.inl none, H1) ∧ yc_Z T n H1 ∧ zk_Fr zg yc_m [] H0 H1 ∧ (H1.2.1 52 3).toInt = s ∧ (H1.2.1 52 2).toInt = e ∧ (H1.2.1 52 4).toInt = 3 ∧ (H1.2.1 52 5).toInt = ys_wi T s e) X := by
  have hse := ys_run_b (P := ys_L) (T := T) (n - s) s
  refine zw_met zm_57_t rfl rfl ?_
  exact yc_twA (fun H lv g1 g2 g3 g4 g5 => yc_twC (by omega) g1 g2 g3 g4 g5) _ H0 _ s hZ (zk_Fr_r H0) rfl h3 h2 ⟨Nat.le_refl _, hs⟩ he (Nat.le_refl _)
