section
/-! ===== the class clears its waters, exactly ===== -/
def zm_2 : za_MI := (yX10_clear, prog_12_method_2_code, 1, none, 10, 0, 0, [], za_i2)
theorem zm_2_t : za_MT 2 = some zm_2 := rfl
def zm_5 : za_MI := (yJ7_fill_53178, prog_31_method_103_code, 4, none, 17, 0, 0, [], za_i5)
theorem zm_5_t : za_MT 5 = some zm_5 := rfl
set_option maxRecDepth 8000 in
theorem yc_fiL4 {L : Nat} {σ : Nat → Int32} {d : Nat} : ∀ (m : Nat) (H : zp_H) (lv : zp_LV) (x : Int32), zw_W H → (64 - x.toInt).toNat ≤ m → 0 ≤ x.toInt → (∀ k : Nat, (k : Int) < x.toInt → k < 64 → (H.2.1 4 k).toInt = -1) → zp_get lv 0 = some (.inr (.inr (some 5))) → zp_get lv 1 = some (.inl (Int32.ofInt (-1))) → zp_get lv 2 = some (.inl x) → zp_get lv 3 = some (.inl (Int32.ofNat 64)) → zs_Safe L σ (fun X => ∃ H1, X = (.inl none, H1) ∧ ∀ k, k < 64 → (H1.2.1 4 k).toInt = -1) zm_5 [] d (5, lv, [], H, (0, 0)) := by
  intro m
  induction m with
  | zero =>
    intro H lv x W hm h0 hk l0 l1 l2 l3
    refine zw_ld (n := 1) (k := 2) (f := zp_isI) (pc' := 6) rfl rfl l2 rfl rfl ?_
    refine zw_ld (n := 1) (k := 3) (f := zp_isI) (pc' := 7) rfl rfl l3 rfl rfl ?_
    refine zw_bge2 (g := 20) (pc' := 10) rfl rfl rfl rfl (rfl : _ = (64 : Int)) (fun h7 => ?_) (fun h7 => ?_)
    · refine zw_rn rfl rfl ?_
      exact ⟨H, rfl, fun k h9 => hk k (by omega) h9⟩
    · omega
  | succ m ih =>
    intro H lv x W hm h0 hk l0 l1 l2 l3
    refine zw_ld (n := 1) (k := 2) (f := zp_isI) (pc' := 6) rfl rfl l2 rfl rfl ?_
    refine zw_ld (n := 1) (k := 3) (f := zp_isI) (pc' := 7) rfl rfl l3 rfl rfl ?_
    refine zw_bge2 (g := 20) (pc' := 10) rfl rfl rfl rfl (rfl : _ = (64 : Int)) (fun h7 => ?_) (fun h7 => ?_)
    · refine zw_rn rfl rfl ?_
      exact ⟨H, rfl, fun k h9 => hk k (by omega) h9⟩
    · have e1 : (x + Int32.ofInt 1).toInt = x.toInt + 1 := zw_p1 (by omega)
      refine zw_ld (n := 1) (k := 0) (f := zp_isR) (pc' := 11) rfl rfl l0 rfl rfl ?_
      refine zw_ld (n := 1) (k := 2) (f := zp_isI) (pc' := 12) rfl rfl l2 rfl rfl ?_
      refine zw_ld (n := 1) (k := 1) (f := zp_isI) (pc' := 13) rfl rfl l1 rfl rfl ?_
      refine zw_is (q := 4) (pc' := 14) W rfl rfl (by decide) (⟨h0, by show _ < ((64 : Nat) : Int); omega⟩) rfl ?_
      refine zw_ii (pc' := 17) rfl l2 rfl rfl ?_
      refine zw_s (pc' := 5) rfl rfl ?_
      refine ih _ _ _ (zw_W_I W) (by omega) (by omega) (fun k h9 h64 => ?_) (zw_gt l0 rfl rfl) (zw_gt l1 rfl rfl) zw_g1 (zw_gt l3 rfl rfl)
      by_cases h8 : k = x.toInt.toNat
      · rw [h8]
        exact congrArg Int32.toInt zw_eq
      · rw [y_ne (fun h9 => h8 h9.2)]
        exact hk k (by omega) h64

set_option maxRecDepth 8000 in
theorem yc_fi4 {L : Nat} {σ : Nat → Int32} {d : Nat} {H : zp_H} (W : zw_W H) : ∃ X, zp_Call L σ (d + 1) 5 [.inr (.inr (some 5)), .inl (Int32.ofInt (-1))] H X ∧ ∃ H1, X = (.inl none, H1) ∧ ∀ k, k < 64 → (H1.2.1 4 k).toInt = -1 := by
  refine zw_met zm_5_t rfl rfl ?_
  refine zw_s (pc' := 1) rfl rfl ?_
  refine zw_st (n := 1) (k := 2) (f := zp_isI) (pc' := 2) rfl rfl rfl rfl rfl ?_
  refine zw_ld (n := 1) (k := 0) (f := zp_isR) (pc' := 3) rfl rfl (zw_gt rfl rfl rfl) rfl rfl ?_
  refine zw_al (q := 4) (pc' := 4) W rfl rfl rfl ?_
  refine zw_st (n := 1) (k := 3) (f := zp_isI) (pc' := 5) rfl rfl rfl rfl rfl ?_
  exact yc_fiL4 64 H _ _ W (by decide) (by decide) (fun k h9 _ => absurd h9 (by show ¬ ((k : Int) < 0); omega)) (zw_gt (zw_gt rfl rfl rfl) rfl rfl) (zw_gt (zw_gt rfl rfl rfl) rfl rfl) (zw_gt zw_g1 rfl rfl) zw_g1

set_option maxRecDepth 8000 in
theorem yc_fiL24 {L : Nat} {σ : Nat → Int32} {d : Nat} : ∀ (m : Nat) (H : zp_H) (lv : zp_LV) (x : Int32), zw_W H → (64 - x.toInt).toNat ≤ m → 0 ≤ x.toInt → (∀ k : Nat, (k : Int) < x.toInt → k < 64 → (H.2.1 24 k).toInt = -1) → zp_get lv 0 = some (.inr (.inr (some 25))) → zp_get lv 1 = some (.inl (Int32.ofInt (-1))) → zp_get lv 2 = some (.inl x) → zp_get lv 3 = some (.inl (Int32.ofNat 64)) → zs_Safe L σ (fun X => ∃ H1, X = (.inl none, H1) ∧ ∀ k, k < 64 → (H1.2.1 24 k).toInt = -1) zm_5 [] d (5, lv, [], H, (0, 0)) := by
  intro m
  induction m with
  | zero =>
    intro H lv x W hm h0 hk l0 l1 l2 l3
    refine zw_ld (n := 1) (k := 2) (f := zp_isI) (pc' := 6) rfl rfl l2 rfl rfl ?_
    refine zw_ld (n := 1) (k := 3) (f := zp_isI) (pc' := 7) rfl rfl l3 rfl rfl ?_
    refine zw_bge2 (g := 20) (pc' := 10) rfl rfl rfl rfl (rfl : _ = (64 : Int)) (fun h7 => ?_) (fun h7 => ?_)
    · refine zw_rn rfl rfl ?_
      exact ⟨H, rfl, fun k h9 => hk k (by omega) h9⟩
    · omega
  | succ m ih =>
    intro H lv x W hm h0 hk l0 l1 l2 l3
    refine zw_ld (n := 1) (k := 2) (f := zp_isI) (pc' := 6) rfl rfl l2 rfl rfl ?_
    refine zw_ld (n := 1) (k := 3) (f := zp_isI) (pc' := 7) rfl rfl l3 rfl rfl ?_
    refine zw_bge2 (g := 20) (pc' := 10) rfl rfl rfl rfl (rfl : _ = (64 : Int)) (fun h7 => ?_) (fun h7 => ?_)
    · refine zw_rn rfl rfl ?_
      exact ⟨H, rfl, fun k h9 => hk k (by omega) h9⟩
    · have e1 : (x + Int32.ofInt 1).toInt = x.toInt + 1 := zw_p1 (by omega)
      refine zw_ld (n := 1) (k := 0) (f := zp_isR) (pc' := 11) rfl rfl l0 rfl rfl ?_
      refine zw_ld (n := 1) (k := 2) (f := zp_isI) (pc' := 12) rfl rfl l2 rfl rfl ?_
      refine zw_ld (n := 1) (k := 1) (f := zp_isI) (pc' := 13) rfl rfl l1 rfl rfl ?_
      refine zw_is (q := 24) (pc' := 14) W rfl rfl (by decide) (⟨h0, by show _ < ((64 : Nat) : Int); omega⟩) rfl ?_
      refine zw_ii (pc' := 17) rfl l2 rfl rfl ?_
      refine zw_s (pc' := 5) rfl rfl ?_
      refine ih _ _ _ (zw_W_I W) (by omega) (by omega) (fun k h9 h64 => ?_) (zw_gt l0 rfl rfl) (zw_gt l1 rfl rfl) zw_g1 (zw_gt l3 rfl rfl)
      by_cases h8 : k = x.toInt.toNat
      · rw [h8]
        exact congrArg Int32.toInt zw_eq
      · rw [y_ne (fun h9 => h8 h9.2)]
        exact hk k (by omega) h64

set_option maxRecDepth 8000 in
theorem yc_fi24 {L : Nat} {σ : Nat → Int32} {d : Nat} {H : zp_H} (W : zw_W H) : ∃ X, zp_Call L σ (d + 1) 5 [.inr (.inr (some 25)), .inl (Int32.ofInt (-1))] H X ∧ ∃ H1, X = (.inl none, H1) ∧ ∀ k, k < 64 → (H1.2.1 24 k).toInt = -1 := by
  refine zw_met zm_5_t rfl rfl ?_
  refine zw_s (pc' := 1) rfl rfl ?_
  refine zw_st (n := 1) (k := 2) (f := zp_isI) (pc' := 2) rfl rfl rfl rfl rfl ?_
  refine zw_ld (n := 1) (k := 0) (f := zp_isR) (pc' := 3) rfl rfl (zw_gt rfl rfl rfl) rfl rfl ?_
  refine zw_al (q := 24) (pc' := 4) W rfl rfl rfl ?_
  refine zw_st (n := 1) (k := 3) (f := zp_isI) (pc' := 5) rfl rfl rfl rfl rfl ?_
  exact yc_fiL24 64 H _ _ W (by decide) (by decide) (fun k h9 _ => absurd h9 (by show ¬ ((k : Int) < 0); omega)) (zw_gt (zw_gt rfl rfl rfl) rfl rfl) (zw_gt (zw_gt rfl rfl rfl) rfl rfl) (zw_gt zw_g1 rfl rfl) zw_g1

def ze_y2 : zk_T := (2, [.inr (some (some 3))], [], [(2, 0), (2, 1), (2, 2), (2, 3), (2, 7), (2, 9), (2, 10), (2, 11), (2, 12), (2, 16)], [3, 4, 5], [(.inl none, [(2, 7, 0, 0), (2, 9, 0, 0), (2, 10, 2, 2), (2, 11, 5, 5), (2, 12, 0, 0), (2, 16, 0, 0)], [])], 3)
theorem zt_y2 : zk_chk zB zB_fz [ze_e104, ze_e105, ze_h1] [] 500 ze_y2 = true := by decide +kernel
theorem zc_y2 {L : Nat} {σ : Nat → Int32} : zk_Ct L σ zB zg zJc ze_y2 := zk_chk_ok zB_W (List.forall_mem_cons.mpr ⟨zc_e104 zB_W zh_all, List.forall_mem_cons.mpr ⟨zc_e105 zB_W zh_all, List.forall_mem_cons.mpr ⟨zh_all _ (List.mem_of_getElem? (i := 1) rfl), fun _ h => absurd h List.not_mem_nil⟩⟩⟩) zt_y2

set_option maxRecDepth 8000 in
theorem yc_cl2 {L : Nat} {σ : Nat → Int32} {d : Nat} {H : zp_H} (hB : zk_Bs zB zg zJc H) : ∃ X, zp_Call L σ (d + 3) 2 [.inr (.inr (some 3))] H X ∧ ∃ H1, X = (.inl none, H1) ∧ H1.2.1 2 0 = Int32.ofInt 6 ∧ H1.2.1 2 1 = Int32.ofInt 6 ∧ H1.2.2.1 2 3 = 0 ∧ (∀ k, k < 4 → H1.2.2.1 5 k = Int64.ofNat 0) ∧ ∀ k, k < 64 → (H1.2.1 4 k).toInt = -1 := by
  have W := zB_Wd (zB_dn hB)
  have s1 := zn_ss2 (L := L) (σ := σ) (d := d) (w := Int32.ofInt 6) (h := Int32.ofInt 6) hB (by decide)
  obtain ⟨X1, s2, b1, _, _⟩ := zh_all (L := L) (σ := σ) ze_h1 (List.mem_of_getElem? (i := 1) rfl) (d + 2) (by show 2 ≤ d + 2; omega) [.inr (.inr (some 3)), .inl (Int32.ofInt 6), .inl (Int32.ofInt 6)] H ⟨rfl, ⟨by decide, by decide⟩, ⟨by decide, by decide⟩, trivial⟩ hB (fun f hf => absurd hf List.not_mem_nil)
  obtain rfl := zp_Call_u s1 s2
  have a0 : (zn_ssH2 H (Int32.ofInt 6) (Int32.ofInt 6) (zq_col (Int32.ofInt 6) (Int32.ofInt 6))).2.1 2 0 = Int32.ofInt 6 := rfl
  have a1 : (zn_ssH2 H (Int32.ofInt 6) (Int32.ofInt 6) (zq_col (Int32.ofInt 6) (Int32.ofInt 6))).2.1 2 1 = Int32.ofInt 6 := rfl
  dsimp only at b1
  generalize zn_ssH2 H (Int32.ofInt 6) (Int32.ofInt 6) (zq_col (Int32.ofInt 6) (Int32.ofInt 6)) = K1 at s1 s2 b1 a0 a1
  have W1 := zB_Wd (zB_dn b1)
  have b2 : zk_Bs zB zg zJc (zw_J K1 2 3 (Int64.ofNat 0)) := zB_up (zB_putl (zB_dn b1) (zJc_J rfl b1.2.2.2.2.2.2.2)) (zB_cn (H := K1) b1)
  have a2 : (zw_J K1 2 3 (Int64.ofNat 0)).2.2.1 2 3 = 0 := rfl
  obtain ⟨⟨x3, K3⟩, c1, c2, c3, o, o1, o2⟩ := zc_e104 (L := L) (σ := σ) zB_W zh_all (d + 2) (by show 1 ≤ d + 2; omega) [.inr (.inr (some 5)), .inl (Int32.ofInt (-1))] _ ⟨rfl, ⟨by decide, by decide⟩, trivial⟩ b2 (fun f hf => absurd hf List.not_mem_nil)
  obtain rfl : x3 = .inl none := zI_v0 (outs := ze_e104.2.2.2.2.2.1) rfl ⟨o, o1, o2.1⟩
  have W3 := zB_Wd (zB_dn c2)
  obtain ⟨_, i1, K9, rfl, i2⟩ := yc_fi4 (L := L) (σ := σ) (d := d + 1) (H := zw_J K1 2 3 (Int64.ofNat 0)) W1
  have i3 := zp_Call_u i1 c1
  obtain rfl : K3 = K9 := by cases i3; rfl
  obtain ⟨X4, f1, K4, rfl, f2, f3⟩ := yc_fill5 (L := L) (σ := σ) (d := d + 1) (u := Int64.ofNat 0) W3
  obtain ⟨X5, g1, g2, g3, _⟩ := zc_e105 (L := L) (σ := σ) zB_W zh_all (d + 2) (by show 1 ≤ d + 2; omega) [.inr (.inr (some 6)), .inr (.inl (Int64.ofNat 0))] K3 ⟨rfl, trivial, trivial⟩ c2 (fun f hf => absurd hf List.not_mem_nil)
  obtain rfl := zp_Call_u f1 g1
  have W4 := zB_Wd (zB_dn g2)
  have r0 : K4.2.1 2 0 = Int32.ofInt 6 := by rw [f3, (zI_in c3 (p := 2) (k := 0) rfl rfl (by decide)).1]; exact a0
  have r1 : K4.2.1 2 1 = Int32.ofInt 6 := by rw [f3, (zI_in c3 (p := 2) (k := 1) rfl rfl (by decide)).1]; exact a1
  have r9 : ∀ k, k < 64 → (K4.2.1 4 k).toInt = -1 := fun k hk => by rw [f3]; exact i2 k hk
  have r2 : K4.2.2.1 2 3 = 0 := by rw [(zI_in g3 (p := 2) (k := 3) rfl rfl (by decide)).2, (zI_in c3 (p := 2) (k := 3) rfl rfl (by decide)).2]; exact a2
  refine zw_met zm_2_t rfl rfl ?_
  refine zw_ld (n := 1) (k := 0) (f := zp_isR) (pc' := 1) rfl rfl rfl rfl rfl ?_
  refine zw_s (pc' := 3) rfl rfl ?_
  refine zw_s (pc' := 5) rfl rfl ?_
  refine zw_cn (pc' := 8) (zw_cv (q := 2) (Y := zm_3) W.1 rfl rfl zm_3_t rfl rfl) rfl rfl rfl rfl rfl (s1) ?_
  refine zw_ld (n := 1) (k := 0) (f := zp_isR) (pc' := 9) rfl rfl rfl rfl rfl ?_
  refine zw_s (pc' := 10) rfl rfl ?_
  refine zw_pL (q := 2) (pc' := 13) W1 rfl rfl rfl rfl rfl rfl ?_
  refine zw_ld (n := 1) (k := 0) (f := zp_isR) (pc' := 14) rfl rfl rfl rfl rfl ?_
  refine zw_gR (q := 2) (pc' := 17) W1 rfl rfl rfl rfl (W1.2 2 5 _ rfl) rfl ?_
  refine zw_s (pc' := 18) rfl rfl ?_
  refine zw_cn (pc' := 21) (zw_cs (Y := zm_5) rfl rfl zm_5_t) rfl rfl rfl rfl rfl (c1) ?_
  refine zw_ld (n := 1) (k := 0) (f := zp_isR) (pc' := 22) rfl rfl rfl rfl rfl ?_
  refine zw_gR (q := 2) (pc' := 25) W3 rfl rfl rfl rfl (W3.2 2 6 _ rfl) rfl ?_
  refine zw_s (pc' := 26) rfl rfl ?_
  refine zw_cn (pc' := 29) (zw_cs (Y := zm_6) rfl rfl zm_6_t) rfl rfl rfl rfl rfl (f1) ?_
  refine zw_ld (n := 1) (k := 0) (f := zp_isR) (pc' := 30) rfl rfl rfl rfl rfl ?_
  refine zw_s (pc' := 31) rfl rfl ?_
  refine zw_pI (q := 2) (pc' := 34) W4 rfl rfl rfl rfl rfl rfl ?_
  refine zw_ld (n := 1) (k := 0) (f := zp_isR) (pc' := 35) rfl rfl rfl rfl rfl ?_
  refine zw_s (pc' := 36) rfl rfl ?_
  refine zw_pI (q := 2) (pc' := 39) W4 rfl rfl rfl rfl rfl rfl ?_
  refine zw_ld (n := 1) (k := 0) (f := zp_isR) (pc' := 40) rfl rfl rfl rfl rfl ?_
  refine zw_s (pc' := 41) rfl rfl ?_
  refine zw_pI (q := 2) (pc' := 44) W4 rfl rfl rfl rfl rfl rfl ?_
  refine zw_ld (n := 1) (k := 0) (f := zp_isR) (pc' := 45) rfl rfl rfl rfl rfl ?_
  refine zw_s (pc' := 46) rfl rfl ?_
  refine zw_pI (q := 2) (pc' := 49) W4 rfl rfl rfl rfl rfl rfl ?_
  refine zw_ld (n := 1) (k := 0) (f := zp_isR) (pc' := 50) rfl rfl rfl rfl rfl ?_
  refine zw_s (pc' := 51) rfl rfl ?_
  refine zw_pI (q := 2) (pc' := 54) W4 rfl rfl rfl rfl rfl rfl ?_
  refine zw_ld (n := 1) (k := 0) (f := zp_isR) (pc' := 55) rfl rfl rfl rfl rfl ?_
  refine zw_s (pc' := 56) rfl rfl ?_
  refine zw_pI (q := 2) (pc' := 59) W4 rfl rfl rfl rfl rfl rfl ?_
  refine zw_rn rfl rfl ?_
  exact ⟨_, rfl, (zw_ne (zw_ne (zw_ne (zw_ne (zw_ne (zw_ne r0 rfl) rfl) rfl) rfl) rfl) rfl), (zw_ne (zw_ne (zw_ne (zw_ne (zw_ne (zw_ne r1 rfl) rfl) rfl) rfl) rfl) rfl), r2, f2, fun k hk => (congrArg Int32.toInt (zw_ne (zw_ne (zw_ne (zw_ne (zw_ne (zw_ne rfl rfl) rfl) rfl) rfl) rfl) rfl)).trans (r9 k hk)⟩

set_option maxRecDepth 8000 in
theorem yc_clear2 {L : Nat} {σ : Nat → Int32} {d : Nat} {H : zp_H} (hB : zk_Bs zB zg zJc H) : ∃ H1, zp_Call L σ (d + 3) 2 [.inr (.inr (some 3))] H (.inl none, H1) ∧ zk_Bs zB zg zJc H1 ∧ zk_Fr zg [(2, 0), (2, 1), (2, 2), (2, 3), (2, 7), (2, 9), (2, 10), (2, 11), (2, 12), (2, 16)] [3, 4, 5] H H1 ∧ (H1.2.1 2 0).toInt = 6 ∧ (H1.2.1 2 1).toInt = 6 ∧ H1.2.2.1 2 3 = 0 ∧ (∀ k, k < 4 → H1.2.2.1 5 k = 0) ∧ (∀ k, k < 64 → (H1.2.1 4 k).toInt = -1) ∧ (H1.2.1 2 7).toInt = 0 ∧ (H1.2.1 2 9).toInt = 0 ∧ (H1.2.1 2 10).toInt = 2 ∧ (H1.2.1 2 11).toInt = 5 ∧ (H1.2.1 2 12).toInt = 0 ∧ (H1.2.1 2 16).toInt = 0 := by
  obtain ⟨_, c1, H1, rfl, k0, k1, k2, k3, k9⟩ := yc_cl2 (L := L) (σ := σ) (d := d) hB
  obtain ⟨X5, g1, g2, g3, o, o1, o2⟩ := zc_y2 (L := L) (σ := σ) (d + 3) (by show 3 ≤ d + 3; omega) [.inr (.inr (some 3))] H ⟨rfl, trivial⟩ hB (fun f hf => absurd hf List.not_mem_nil)
  obtain rfl := zp_Call_u c1 g1
  obtain rfl := List.mem_singleton.mp o1
  refine ⟨H1, c1, g2, g3, by rw [k0]; rfl, by rw [k1]; rfl, k2, k3, k9, ?_, ?_, ?_, ?_, ?_, ?_⟩
  · have h := o2.2.1 (2, 7, 0, 0) (List.mem_of_getElem? (i := 0) rfl)
    have h : (0 : Int) ≤ (H1.2.1 2 7).toInt ∧ (H1.2.1 2 7).toInt ≤ 0 := h
    omega
  · have h := o2.2.1 (2, 9, 0, 0) (List.mem_of_getElem? (i := 1) rfl)
    have h : (0 : Int) ≤ (H1.2.1 2 9).toInt ∧ (H1.2.1 2 9).toInt ≤ 0 := h
    omega
  · have h := o2.2.1 (2, 10, 2, 2) (List.mem_of_getElem? (i := 2) rfl)
    have h : (2 : Int) ≤ (H1.2.1 2 10).toInt ∧ (H1.2.1 2 10).toInt ≤ 2 := h
    omega
  · have h := o2.2.1 (2, 11, 5, 5) (List.mem_of_getElem? (i := 3) rfl)
    have h : (5 : Int) ≤ (H1.2.1 2 11).toInt ∧ (H1.2.1 2 11).toInt ≤ 5 := h
    omega
  · have h := o2.2.1 (2, 12, 0, 0) (List.mem_of_getElem? (i := 4) rfl)
    have h : (0 : Int) ≤ (H1.2.1 2 12).toInt ∧ (H1.2.1 2 12).toInt ≤ 0 := h
    omega
  · have h := o2.2.1 (2, 16, 0, 0) (List.mem_of_getElem? (i := 5) rfl)
    have h : (0 : Int) ≤ (H1.2.1 2 16).toInt ∧ (H1.2.1 2 16).toInt ≤ 0 := h
    omega

def ze_y22 : zk_T := (2, [.inr (some (some 23))], [], [(22, 0), (22, 1), (22, 2), (22, 3), (22, 7), (22, 9), (22, 10), (22, 11), (22, 12), (22, 16)], [23, 24, 25], [(.inl none, [(22, 7, 0, 0), (22, 9, 0, 0), (22, 10, 2, 2), (22, 11, 5, 5), (22, 12, 0, 0), (22, 16, 0, 0)], [])], 3)
theorem zt_y22 : zk_chk zB zB_fz [ze_e24, ze_e27, ze_h3] [] 500 ze_y22 = true := by decide +kernel
theorem zc_y22 {L : Nat} {σ : Nat → Int32} : zk_Ct L σ zB zg zJc ze_y22 := zk_chk_ok zB_W (List.forall_mem_cons.mpr ⟨zc_e24 zB_W zh_all, List.forall_mem_cons.mpr ⟨zc_e27 zB_W zh_all, List.forall_mem_cons.mpr ⟨zh_all _ (List.mem_of_getElem? (i := 3) rfl), fun _ h => absurd h List.not_mem_nil⟩⟩⟩) zt_y22

set_option maxRecDepth 8000 in
theorem yc_cl22 {L : Nat} {σ : Nat → Int32} {d : Nat} {H : zp_H} (hB : zk_Bs zB zg zJc H) : ∃ X, zp_Call L σ (d + 3) 2 [.inr (.inr (some 23))] H X ∧ ∃ H1, X = (.inl none, H1) ∧ H1.2.1 22 0 = Int32.ofInt 6 ∧ H1.2.1 22 1 = Int32.ofInt 6 ∧ H1.2.2.1 22 3 = 0 ∧ (∀ k, k < 4 → H1.2.2.1 25 k = Int64.ofNat 0) ∧ ∀ k, k < 64 → (H1.2.1 24 k).toInt = -1 := by
  have W := zB_Wd (zB_dn hB)
  have s1 := zn_ss22 (L := L) (σ := σ) (d := d) (w := Int32.ofInt 6) (h := Int32.ofInt 6) hB (by decide)
  obtain ⟨X1, s2, b1, _, _⟩ := zh_all (L := L) (σ := σ) ze_h3 (List.mem_of_getElem? (i := 3) rfl) (d + 2) (by show 2 ≤ d + 2; omega) [.inr (.inr (some 23)), .inl (Int32.ofInt 6), .inl (Int32.ofInt 6)] H ⟨rfl, ⟨by decide, by decide⟩, ⟨by decide, by decide⟩, trivial⟩ hB (fun f hf => absurd hf List.not_mem_nil)
  obtain rfl := zp_Call_u s1 s2
  have a0 : (zn_ssH22 H (Int32.ofInt 6) (Int32.ofInt 6) (zq_col (Int32.ofInt 6) (Int32.ofInt 6))).2.1 22 0 = Int32.ofInt 6 := rfl
  have a1 : (zn_ssH22 H (Int32.ofInt 6) (Int32.ofInt 6) (zq_col (Int32.ofInt 6) (Int32.ofInt 6))).2.1 22 1 = Int32.ofInt 6 := rfl
  dsimp only at b1
  generalize zn_ssH22 H (Int32.ofInt 6) (Int32.ofInt 6) (zq_col (Int32.ofInt 6) (Int32.ofInt 6)) = K1 at s1 s2 b1 a0 a1
  have W1 := zB_Wd (zB_dn b1)
  have b2 : zk_Bs zB zg zJc (zw_J K1 22 3 (Int64.ofNat 0)) := zB_up (zB_putl (zB_dn b1) (zJc_J rfl b1.2.2.2.2.2.2.2)) (zB_cn (H := K1) b1)
  have a2 : (zw_J K1 22 3 (Int64.ofNat 0)).2.2.1 22 3 = 0 := rfl
  obtain ⟨⟨x3, K3⟩, c1, c2, c3, o, o1, o2⟩ := zc_e24 (L := L) (σ := σ) zB_W zh_all (d + 2) (by show 1 ≤ d + 2; omega) [.inr (.inr (some 25)), .inl (Int32.ofInt (-1))] _ ⟨rfl, ⟨by decide, by decide⟩, trivial⟩ b2 (fun f hf => absurd hf List.not_mem_nil)
  obtain rfl : x3 = .inl none := zI_v0 (outs := ze_e24.2.2.2.2.2.1) rfl ⟨o, o1, o2.1⟩
  have W3 := zB_Wd (zB_dn c2)
  obtain ⟨_, i1, K9, rfl, i2⟩ := yc_fi24 (L := L) (σ := σ) (d := d + 1) (H := zw_J K1 22 3 (Int64.ofNat 0)) W1
  have i3 := zp_Call_u i1 c1
  obtain rfl : K3 = K9 := by cases i3; rfl
  obtain ⟨X4, f1, K4, rfl, f2, f3⟩ := yc_fill25 (L := L) (σ := σ) (d := d + 1) (u := Int64.ofNat 0) W3
  obtain ⟨X5, g1, g2, g3, _⟩ := zc_e27 (L := L) (σ := σ) zB_W zh_all (d + 2) (by show 1 ≤ d + 2; omega) [.inr (.inr (some 26)), .inr (.inl (Int64.ofNat 0))] K3 ⟨rfl, trivial, trivial⟩ c2 (fun f hf => absurd hf List.not_mem_nil)
  obtain rfl := zp_Call_u f1 g1
  have W4 := zB_Wd (zB_dn g2)
  have r0 : K4.2.1 22 0 = Int32.ofInt 6 := by rw [f3, (zI_in c3 (p := 22) (k := 0) rfl rfl (by decide)).1]; exact a0
  have r1 : K4.2.1 22 1 = Int32.ofInt 6 := by rw [f3, (zI_in c3 (p := 22) (k := 1) rfl rfl (by decide)).1]; exact a1
  have r9 : ∀ k, k < 64 → (K4.2.1 24 k).toInt = -1 := fun k hk => by rw [f3]; exact i2 k hk
  have r2 : K4.2.2.1 22 3 = 0 := by rw [(zI_in g3 (p := 22) (k := 3) rfl rfl (by decide)).2, (zI_in c3 (p := 22) (k := 3) rfl rfl (by decide)).2]; exact a2
  refine zw_met zm_2_t rfl rfl ?_
  refine zw_ld (n := 1) (k := 0) (f := zp_isR) (pc' := 1) rfl rfl rfl rfl rfl ?_
  refine zw_s (pc' := 3) rfl rfl ?_
  refine zw_s (pc' := 5) rfl rfl ?_
  refine zw_cn (pc' := 8) (zw_cv (q := 22) (Y := zm_3) W.1 rfl rfl zm_3_t rfl rfl) rfl rfl rfl rfl rfl (s1) ?_
  refine zw_ld (n := 1) (k := 0) (f := zp_isR) (pc' := 9) rfl rfl rfl rfl rfl ?_
  refine zw_s (pc' := 10) rfl rfl ?_
  refine zw_pL (q := 22) (pc' := 13) W1 rfl rfl rfl rfl rfl rfl ?_
  refine zw_ld (n := 1) (k := 0) (f := zp_isR) (pc' := 14) rfl rfl rfl rfl rfl ?_
  refine zw_gR (q := 22) (pc' := 17) W1 rfl rfl rfl rfl (W1.2 22 5 _ rfl) rfl ?_
  refine zw_s (pc' := 18) rfl rfl ?_
  refine zw_cn (pc' := 21) (zw_cs (Y := zm_5) rfl rfl zm_5_t) rfl rfl rfl rfl rfl (c1) ?_
  refine zw_ld (n := 1) (k := 0) (f := zp_isR) (pc' := 22) rfl rfl rfl rfl rfl ?_
  refine zw_gR (q := 22) (pc' := 25) W3 rfl rfl rfl rfl (W3.2 22 6 _ rfl) rfl ?_
  refine zw_s (pc' := 26) rfl rfl ?_
  refine zw_cn (pc' := 29) (zw_cs (Y := zm_6) rfl rfl zm_6_t) rfl rfl rfl rfl rfl (f1) ?_
  refine zw_ld (n := 1) (k := 0) (f := zp_isR) (pc' := 30) rfl rfl rfl rfl rfl ?_
  refine zw_s (pc' := 31) rfl rfl ?_
  refine zw_pI (q := 22) (pc' := 34) W4 rfl rfl rfl rfl rfl rfl ?_
  refine zw_ld (n := 1) (k := 0) (f := zp_isR) (pc' := 35) rfl rfl rfl rfl rfl ?_
  refine zw_s (pc' := 36) rfl rfl ?_
  refine zw_pI (q := 22) (pc' := 39) W4 rfl rfl rfl rfl rfl rfl ?_
  refine zw_ld (n := 1) (k := 0) (f := zp_isR) (pc' := 40) rfl rfl rfl rfl rfl ?_
  refine zw_s (pc' := 41) rfl rfl ?_
  refine zw_pI (q := 22) (pc' := 44) W4 rfl rfl rfl rfl rfl rfl ?_
  refine zw_ld (n := 1) (k := 0) (f := zp_isR) (pc' := 45) rfl rfl rfl rfl rfl ?_
  refine zw_s (pc' := 46) rfl rfl ?_
  refine zw_pI (q := 22) (pc' := 49) W4 rfl rfl rfl rfl rfl rfl ?_
  refine zw_ld (n := 1) (k := 0) (f := zp_isR) (pc' := 50) rfl rfl rfl rfl rfl ?_
  refine zw_s (pc' := 51) rfl rfl ?_
  refine zw_pI (q := 22) (pc' := 54) W4 rfl rfl rfl rfl rfl rfl ?_
  refine zw_ld (n := 1) (k := 0) (f := zp_isR) (pc' := 55) rfl rfl rfl rfl rfl ?_
  refine zw_s (pc' := 56) rfl rfl ?_
  refine zw_pI (q := 22) (pc' := 59) W4 rfl rfl rfl rfl rfl rfl ?_
  refine zw_rn rfl rfl ?_
  exact ⟨_, rfl, (zw_ne (zw_ne (zw_ne (zw_ne (zw_ne (zw_ne r0 rfl) rfl) rfl) rfl) rfl) rfl), (zw_ne (zw_ne (zw_ne (zw_ne (zw_ne (zw_ne r1 rfl) rfl) rfl) rfl) rfl) rfl), r2, f2, fun k hk => (congrArg Int32.toInt (zw_ne (zw_ne (zw_ne (zw_ne (zw_ne (zw_ne rfl rfl) rfl) rfl) rfl) rfl) rfl)).trans (r9 k hk)⟩

set_option maxRecDepth 8000 in
theorem yc_clear22 {L : Nat} {σ : Nat → Int32} {d : Nat} {H : zp_H} (hB : zk_Bs zB zg zJc H) : ∃ H1, zp_Call L σ (d + 3) 2 [.inr (.inr (some 23))] H (.inl none, H1) ∧ zk_Bs zB zg zJc H1 ∧ zk_Fr zg [(22, 0), (22, 1), (22, 2), (22, 3), (22, 7), (22, 9), (22, 10), (22, 11), (22, 12), (22, 16)] [23, 24, 25] H H1 ∧ (H1.2.1 22 0).toInt = 6 ∧ (H1.2.1 22 1).toInt = 6 ∧ H1.2.2.1 22 3 = 0 ∧ (∀ k, k < 4 → H1.2.2.1 25 k = 0) ∧ (∀ k, k < 64 → (H1.2.1 24 k).toInt = -1) ∧ (H1.2.1 22 7).toInt = 0 ∧ (H1.2.1 22 9).toInt = 0 ∧ (H1.2.1 22 10).toInt = 2 ∧ (H1.2.1 22 11).toInt = 5 ∧ (H1.2.1 22 12).toInt = 0 ∧ (H1.2.1 22 16).toInt = 0 := by
  obtain ⟨_, c1, H1, rfl, k0, k1, k2, k3, k9⟩ := yc_cl22 (L := L) (σ := σ) (d := d) hB
  obtain ⟨X5, g1, g2, g3, o, o1, o2⟩ := zc_y22 (L := L) (σ := σ) (d + 3) (by show 3 ≤ d + 3; omega) [.inr (.inr (some 23))] H ⟨rfl, trivial⟩ hB (fun f hf => absurd hf List.not_mem_nil)
  obtain rfl := zp_Call_u c1 g1
  obtain rfl := List.mem_singleton.mp o1
  refine ⟨H1, c1, g2, g3, by rw [k0]; rfl, by rw [k1]; rfl, k2, k3, k9, ?_, ?_, ?_, ?_, ?_, ?_⟩
  · have h := o2.2.1 (22, 7, 0, 0) (List.mem_of_getElem? (i := 0) rfl)
    have h : (0 : Int) ≤ (H1.2.1 22 7).toInt ∧ (H1.2.1 22 7).toInt ≤ 0 := h
    omega
  · have h := o2.2.1 (22, 9, 0, 0) (List.mem_of_getElem? (i := 1) rfl)
    have h : (0 : Int) ≤ (H1.2.1 22 9).toInt ∧ (H1.2.1 22 9).toInt ≤ 0 := h
    omega
  · have h := o2.2.1 (22, 10, 2, 2) (List.mem_of_getElem? (i := 2) rfl)
    have h : (2 : Int) ≤ (H1.2.1 22 10).toInt ∧ (H1.2.1 22 10).toInt ≤ 2 := h
    omega
  · have h := o2.2.1 (22, 11, 5, 5) (List.mem_of_getElem? (i := 3) rfl)
    have h : (5 : Int) ≤ (H1.2.1 22 11).toInt ∧ (H1.2.1 22 11).toInt ≤ 5 := h
    omega
  · have h := o2.2.1 (22, 12, 0, 0) (List.mem_of_getElem? (i := 4) rfl)
    have h : (0 : Int) ≤ (H1.2.1 22 12).toInt ∧ (H1.2.1 22 12).toInt ≤ 0 := h
    omega
  · have h := o2.2.1 (22, 16, 0, 0) (List.mem_of_getElem? (i := 5) rfl)
    have h : (0 : Int) ≤ (H1.2.1 22 16).toInt ∧ (H1.2.1 22 16).toInt ≤ 0 := h
    omega
end
section
/-! ===== the class reads a text from its start, exactly ===== -/
def zm_51 : za_MI := (yX0_clear, prog_2_method_2_code, 1, none, 0, 0, 0, [], za_i51)
theorem zm_51_t : za_MT 51 = some zm_51 := rfl
def zm_52 : za_MI := (yX2_clear, prog_4_method_2_code, 1, none, 2, 0, 0, [], za_i52)
theorem zm_52_t : za_MT 52 = some zm_52 := rfl
set_option maxRecDepth 8000 in
theorem yc_cc13 {L : Nat} {σ : Nat → Int32} {d : Nat} {H : zp_H} (W : zw_W H) : zp_Call L σ (d + 1) 51 [.inr (.inr (some 14))] H (.inl none, zw_I (zw_I H 13 0 (Int32.ofInt 0)) 13 7 (Int32.ofInt 0)) := by
  refine zw_ex (zw_met zm_51_t rfl rfl ?_)
  refine zw_ld (n := 1) (k := 0) (f := zp_isR) (pc' := 1) rfl rfl rfl rfl rfl ?_
  refine zw_s (pc' := 2) rfl rfl ?_
  refine zw_pI (q := 13) (pc' := 5) W rfl rfl rfl rfl rfl rfl ?_
  refine zw_ld (n := 1) (k := 0) (f := zp_isR) (pc' := 6) rfl rfl rfl rfl rfl ?_
  refine zw_s (pc' := 7) rfl rfl ?_
  refine zw_pI (q := 13) (pc' := 10) W rfl rfl rfl rfl rfl rfl ?_
  refine zw_rn rfl rfl ?_
  rfl

set_option maxRecDepth 8000 in
theorem yc_cc33 {L : Nat} {σ : Nat → Int32} {d : Nat} {H : zp_H} (W : zw_W H) : zp_Call L σ (d + 1) 51 [.inr (.inr (some 34))] H (.inl none, zw_I (zw_I H 33 0 (Int32.ofInt 0)) 33 7 (Int32.ofInt 0)) := by
  refine zw_ex (zw_met zm_51_t rfl rfl ?_)
  refine zw_ld (n := 1) (k := 0) (f := zp_isR) (pc' := 1) rfl rfl rfl rfl rfl ?_
  refine zw_s (pc' := 2) rfl rfl ?_
  refine zw_pI (q := 33) (pc' := 5) W rfl rfl rfl rfl rfl rfl ?_
  refine zw_ld (n := 1) (k := 0) (f := zp_isR) (pc' := 6) rfl rfl rfl rfl rfl ?_
  refine zw_s (pc' := 7) rfl rfl ?_
  refine zw_pI (q := 33) (pc' := 10) W rfl rfl rfl rfl rfl rfl ?_
  refine zw_rn rfl rfl ?_
  rfl

set_option maxRecDepth 8000 in
theorem yc_ce {L : Nat} {σ : Nat → Int32} {d : Nat} {H : zp_H} (W : zw_W H) : zp_Call L σ (d + 1) 52 [.inr (.inr (some 54))] H (.inl none, zw_I H 53 1 (Int32.ofInt 0)) := by
  refine zw_ex (zw_met zm_52_t rfl rfl ?_)
  refine zw_ld (n := 1) (k := 0) (f := zp_isR) (pc' := 1) rfl rfl rfl rfl rfl ?_
  refine zw_s (pc' := 2) rfl rfl ?_
  refine zw_pI (q := 53) (pc' := 5) W rfl rfl rfl rfl rfl rfl ?_
  refine zw_rn rfl rfl ?_
  rfl

set_option maxRecDepth 8000 in
theorem yc_read2_13 {L : Nat} {σ : Nat → Int32} {d : Nat} {T : Nat → Int} {n : Nat} {H : zp_H} {x : Int32} (hB : zk_Bs zB zg zJc H) (hn : n ≤ 700) (hx : x.toInt = n) (hT : ∀ k, k < n → (H.2.1 1 k).toInt = T k) : ∃ X, zp_Call L σ (d + 66) 50 [.inr (.inr (some 52)), .inl x, .inr (.inr (some 3)), .inr (.inr (some 14))] H X ∧ yRD 2 13 T n y00 X := by
  have W := zB_Wd (zB_dn hB)
  obtain ⟨H1, c1, c2, c3, v0, v1, v3, v4, vC, v7, v9, v10, v11, v12, v16⟩ := yc_clear2 (L := L) (σ := σ) (d := d + 62) hB
  have W1 := zB_Wd (zB_dn c2)
  have b0 := zB_dn c2
  have b1 := zB_putf (p := 13) (k := 0) (x := Int32.ofInt 0) b0 rfl (fun r hr => by cases hr; exact ⟨by decide, by decide⟩) (zJc_I rfl b0.2.2.2.2.2.2.2)
  have b2 := zB_putf (p := 13) (k := 7) (x := Int32.ofInt 0) b1 rfl (fun r hr => by cases hr; exact ⟨by decide, by decide⟩) (zJc_I rfl b1.2.2.2.2.2.2.2)
  have b3 := zB_putf (p := 53) (k := 1) (x := Int32.ofInt 0) b2 rfl (fun r hr => by cases hr; exact ⟨by decide, by decide⟩) (zJc_I rfl b2.2.2.2.2.2.2.2)
  have b4 := zB_putf (p := 51) (k := 2) (x := Int32.ofInt 0) b3 rfl (fun r hr => by cases hr; exact ⟨by decide, by decide⟩) (zJc_I rfl b3.2.2.2.2.2.2.2)
  have b5 := zB_putf (p := 51) (k := 3) (x := Int32.ofInt 0) b4 rfl (fun r hr => by cases hr; exact ⟨by decide, by decide⟩) (zJc_I rfl b4.2.2.2.2.2.2.2)
  have W5 := zB_Wd b5
  have eT : ∀ k, k < n → ((zw_I (zw_I (zw_I (zw_I (zw_I H1 13 0 (Int32.ofInt 0)) 13 7 (Int32.ofInt 0)) 53 1 (Int32.ofInt 0)) 51 2 (Int32.ofInt 0)) 51 3 (Int32.ofInt 0)).2.1 1 k).toInt = T k := fun k hk => by
    rw [show (zw_I (zw_I (zw_I (zw_I (zw_I H1 13 0 (Int32.ofInt 0)) 13 7 (Int32.ofInt 0)) 53 1 (Int32.ofInt 0)) 51 2 (Int32.ofInt 0)) 51 3 (Int32.ofInt 0)).2.1 1 k = H1.2.1 1 k from (zw_ne (zw_ne (zw_ne (zw_ne (zw_ne rfl rfl) rfl) rfl) rfl) rfl), (zI_in c3 (p := 1) (k := k) rfl rfl (fun h9 => absurd h9.1 (by decide))).1]
    exact hT k hk
  have e0 : (zw_I (zw_I (zw_I (zw_I (zw_I H1 13 0 (Int32.ofInt 0)) 13 7 (Int32.ofInt 0)) 53 1 (Int32.ofInt 0)) 51 2 (Int32.ofInt 0)) 51 3 (Int32.ofInt 0)).2.1 2 0 = H1.2.1 2 0 := (zw_ne (zw_ne (zw_ne (zw_ne (zw_ne rfl rfl) rfl) rfl) rfl) rfl)
  have e1 : (zw_I (zw_I (zw_I (zw_I (zw_I H1 13 0 (Int32.ofInt 0)) 13 7 (Int32.ofInt 0)) 53 1 (Int32.ofInt 0)) 51 2 (Int32.ofInt 0)) 51 3 (Int32.ofInt 0)).2.1 2 1 = H1.2.1 2 1 := (zw_ne (zw_ne (zw_ne (zw_ne (zw_ne rfl rfl) rfl) rfl) rfl) rfl)
  have e7 : (zw_I (zw_I (zw_I (zw_I (zw_I H1 13 0 (Int32.ofInt 0)) 13 7 (Int32.ofInt 0)) 53 1 (Int32.ofInt 0)) 51 2 (Int32.ofInt 0)) 51 3 (Int32.ofInt 0)).2.1 2 7 = H1.2.1 2 7 := (zw_ne (zw_ne (zw_ne (zw_ne (zw_ne rfl rfl) rfl) rfl) rfl) rfl)
  have e12 : (zw_I (zw_I (zw_I (zw_I (zw_I H1 13 0 (Int32.ofInt 0)) 13 7 (Int32.ofInt 0)) 53 1 (Int32.ofInt 0)) 51 2 (Int32.ofInt 0)) 51 3 (Int32.ofInt 0)).2.1 2 12 = H1.2.1 2 12 := (zw_ne (zw_ne (zw_ne (zw_ne (zw_ne rfl rfl) rfl) rfl) rfl) rfl)
  have e16 : (zw_I (zw_I (zw_I (zw_I (zw_I H1 13 0 (Int32.ofInt 0)) 13 7 (Int32.ofInt 0)) 53 1 (Int32.ofInt 0)) 51 2 (Int32.ofInt 0)) 51 3 (Int32.ofInt 0)).2.1 2 16 = H1.2.1 2 16 := (zw_ne (zw_ne (zw_ne (zw_ne (zw_ne rfl rfl) rfl) rfl) rfl) rfl)
  have ec : (zw_I (zw_I (zw_I (zw_I (zw_I H1 13 0 (Int32.ofInt 0)) 13 7 (Int32.ofInt 0)) 53 1 (Int32.ofInt 0)) 51 2 (Int32.ofInt 0)) 51 3 (Int32.ofInt 0)).2.1 13 0 = Int32.ofInt 0 := (zw_ne (zw_ne (zw_ne (zw_ne zw_eq rfl) rfl) rfl) rfl)
  have es : (zw_I (zw_I (zw_I (zw_I (zw_I H1 13 0 (Int32.ofInt 0)) 13 7 (Int32.ofInt 0)) 53 1 (Int32.ofInt 0)) 51 2 (Int32.ofInt 0)) 51 3 (Int32.ofInt 0)).2.1 51 2 = Int32.ofInt 0 := (zw_ne zw_eq rfl)
  have eg : (zw_I (zw_I (zw_I (zw_I (zw_I H1 13 0 (Int32.ofInt 0)) 13 7 (Int32.ofInt 0)) 53 1 (Int32.ofInt 0)) 51 2 (Int32.ofInt 0)) 51 3 (Int32.ofInt 0)).2.1 51 3 = Int32.ofInt 0 := zw_eq
  have D0 : yDc 2 13 y00d (zw_I (zw_I (zw_I (zw_I (zw_I H1 13 0 (Int32.ofInt 0)) 13 7 (Int32.ofInt 0)) 53 1 (Int32.ofInt 0)) 51 2 (Int32.ofInt 0)) 51 3 (Int32.ofInt 0)) := by
    refine ⟨by rw [e0, v0]; rfl, by rw [e1, v1]; rfl, by rw [ec]; rfl, by rw [e7, v7]; rfl, by rw [e12, v12]; rfl, by rw [e16, v16]; rfl, by rw [es]; rfl, by rw [eg]; rfl, v3, fun c hc => ⟨fun _ => y00d_f hc, fun _ => ?_⟩, by decide⟩
    show (H1.2.2.1 5 0 ||| H1.2.2.1 5 1 ||| H1.2.2.1 5 2 ||| H1.2.2.1 5 3) &&& yBit c = 0
    rw [v4 0 (by decide), v4 1 (by decide), v4 2 (by decide), v4 3 (by decide)]
    exact Int64.zero_and
  have X0 : yXd (yLc 2 13) [] y00d (zw_I (zw_I (zw_I (zw_I (zw_I H1 13 0 (Int32.ofInt 0)) 13 7 (Int32.ofInt 0)) 53 1 (Int32.ofInt 0)) 51 2 (Int32.ofInt 0)) 51 3 (Int32.ofInt 0)) := by
    intro i i1 i2 _
    rcases y00d_i i2 with rfl | rfl | rfl | ⟨i3, i4⟩
    · show ((zw_I (zw_I (zw_I (zw_I (zw_I H1 13 0 (Int32.ofInt 0)) 13 7 (Int32.ofInt 0)) 53 1 (Int32.ofInt 0)) 51 2 (Int32.ofInt 0)) 51 3 (Int32.ofInt 0)).2.1 2 9).toInt = 0
      rw [show (zw_I (zw_I (zw_I (zw_I (zw_I H1 13 0 (Int32.ofInt 0)) 13 7 (Int32.ofInt 0)) 53 1 (Int32.ofInt 0)) 51 2 (Int32.ofInt 0)) 51 3 (Int32.ofInt 0)).2.1 2 9 = H1.2.1 2 9 from (zw_ne (zw_ne (zw_ne (zw_ne (zw_ne rfl rfl) rfl) rfl) rfl) rfl)]
      exact v9
    · show ((zw_I (zw_I (zw_I (zw_I (zw_I H1 13 0 (Int32.ofInt 0)) 13 7 (Int32.ofInt 0)) 53 1 (Int32.ofInt 0)) 51 2 (Int32.ofInt 0)) 51 3 (Int32.ofInt 0)).2.1 2 10).toInt = 2
      rw [show (zw_I (zw_I (zw_I (zw_I (zw_I H1 13 0 (Int32.ofInt 0)) 13 7 (Int32.ofInt 0)) 53 1 (Int32.ofInt 0)) 51 2 (Int32.ofInt 0)) 51 3 (Int32.ofInt 0)).2.1 2 10 = H1.2.1 2 10 from (zw_ne (zw_ne (zw_ne (zw_ne (zw_ne rfl rfl) rfl) rfl) rfl) rfl)]
      exact v10
    · show ((zw_I (zw_I (zw_I (zw_I (zw_I H1 13 0 (Int32.ofInt 0)) 13 7 (Int32.ofInt 0)) 53 1 (Int32.ofInt 0)) 51 2 (Int32.ofInt 0)) 51 3 (Int32.ofInt 0)).2.1 2 11).toInt = 5
      rw [show (zw_I (zw_I (zw_I (zw_I (zw_I H1 13 0 (Int32.ofInt 0)) 13 7 (Int32.ofInt 0)) 53 1 (Int32.ofInt 0)) 51 2 (Int32.ofInt 0)) 51 3 (Int32.ofInt 0)).2.1 2 11 = H1.2.1 2 11 from (zw_ne (zw_ne (zw_ne (zw_ne (zw_ne rfl rfl) rfl) rfl) rfl) rfl)]
      exact v11
    · obtain ⟨c, rfl⟩ : ∃ c, i = 100 + c := ⟨i - 100, by omega⟩
      rw [yL_100 (by omega), y00d_c (by omega)]
      rw [show (zw_I (zw_I (zw_I (zw_I (zw_I H1 13 0 (Int32.ofInt 0)) 13 7 (Int32.ofInt 0)) 53 1 (Int32.ofInt 0)) 51 2 (Int32.ofInt 0)) 51 3 (Int32.ofInt 0)).2.1 (2 + 2) c = H1.2.1 (2 + 2) c from (zw_ne (zw_ne (zw_ne (zw_ne (zw_ne rfl rfl) rfl) rfl) rfl) rfl)]
      exact vC c (by omega)
  have hwc : yWC 2 13 := ⟨by decide, by decide⟩
  obtain ⟨_, o1, R, rfl, o2, o3⟩ := yc_open (L := L) (σ := σ) (d := d + 61) (x := x) b5 hn hx eT
  have D1 : yDd 2 13 y00d R := yDd_F hwc o3 rfl rfl ⟨D0, X0⟩
  have WR := zB_Wd o2.1.1
  refine zw_met zm_50_t rfl rfl ?_
  refine zw_ld (n := 1) (k := 2) (f := zp_isR) (pc' := 1) rfl rfl rfl rfl rfl ?_
  refine zw_cnx (pc' := 4) (zw_cvx (q := 2) (Y := zm_2) W.1 rfl rfl zm_2_t rfl rfl) rfl rfl rfl rfl rfl (c1) ?_
  refine zw_ld (n := 1) (k := 3) (f := zp_isR) (pc' := 5) rfl rfl rfl rfl rfl ?_
  refine zw_cn (pc' := 8) (zw_cv (q := 13) (Y := zm_51) W1.1 rfl rfl zm_51_t rfl rfl) rfl rfl rfl rfl rfl (yc_cc13 (d := d + 64) W1) ?_
  refine zw_ld (n := 1) (k := 0) (f := zp_isR) (pc' := 9) rfl rfl rfl rfl rfl ?_
  refine zw_gR (q := 51) (pc' := 12) (zw_W_I (zw_W_I W1)) rfl rfl rfl rfl ((zw_W_I (zw_W_I W1)).2 51 1 _ rfl) rfl ?_
  refine zw_cn (pc' := 15) (zw_cv (q := 53) (Y := zm_52) (zw_W_I (zw_W_I W1)).1 rfl rfl zm_52_t rfl rfl) rfl rfl rfl rfl rfl (yc_ce (d := d + 64) (zw_W_I (zw_W_I W1))) ?_
  refine zw_ld (n := 1) (k := 0) (f := zp_isR) (pc' := 16) rfl rfl rfl rfl rfl ?_
  refine zw_s (pc' := 17) rfl rfl ?_
  refine zw_pI (q := 51) (pc' := 20) (zw_W_I (zw_W_I (zw_W_I W1))) rfl rfl rfl rfl (rfl) rfl ?_
  refine zw_ld (n := 1) (k := 0) (f := zp_isR) (pc' := 21) rfl rfl rfl rfl rfl ?_
  refine zw_s (pc' := 22) rfl rfl ?_
  refine zw_pI (q := 51) (pc' := 25) (zw_W_I (zw_W_I (zw_W_I (zw_W_I W1)))) rfl rfl rfl rfl (rfl) rfl ?_
  refine zw_ld (n := 1) (k := 0) (f := zp_isR) (pc' := 26) rfl rfl rfl rfl rfl ?_
  refine zw_gR (q := 51) (pc' := 29) W5 rfl rfl rfl rfl (W5.2 51 0 _ rfl) rfl ?_
  refine zw_ld (n := 1) (k := 1) (f := zp_isI) (pc' := 30) rfl rfl rfl rfl rfl ?_
  refine zw_cn (pc' := 33) (zw_cv (q := 52) (Y := zm_53) W5.1 rfl rfl zm_53_t rfl rfl) rfl rfl rfl rfl rfl (o1) ?_
  refine zw_s (pc' := 34) rfl rfl ?_
  refine zw_st (n := 2) (k := 4) (f := zp_isI) (pc' := 36) rfl rfl rfl rfl rfl ?_
  exact yc_readL2_13 yBCt 701 R _ _ 0 y00d (by decide) (zw_gt rfl rfl rfl) (zw_gt rfl rfl rfl) (zw_gt rfl rfl rfl) zw_g1 ⟨by decide, by decide⟩ rfl o2 D1 yR2_r

set_option maxRecDepth 8000 in
theorem yc_read2_33 {L : Nat} {σ : Nat → Int32} {d : Nat} {T : Nat → Int} {n : Nat} {H : zp_H} {x : Int32} (hB : zk_Bs zB zg zJc H) (hn : n ≤ 700) (hx : x.toInt = n) (hT : ∀ k, k < n → (H.2.1 1 k).toInt = T k) : ∃ X, zp_Call L σ (d + 66) 50 [.inr (.inr (some 52)), .inl x, .inr (.inr (some 3)), .inr (.inr (some 34))] H X ∧ yRD 2 33 T n y00 X := by
  have W := zB_Wd (zB_dn hB)
  obtain ⟨H1, c1, c2, c3, v0, v1, v3, v4, vC, v7, v9, v10, v11, v12, v16⟩ := yc_clear2 (L := L) (σ := σ) (d := d + 62) hB
  have W1 := zB_Wd (zB_dn c2)
  have b0 := zB_dn c2
  have b1 := zB_putf (p := 33) (k := 0) (x := Int32.ofInt 0) b0 rfl (fun r hr => by cases hr; exact ⟨by decide, by decide⟩) (zJc_I rfl b0.2.2.2.2.2.2.2)
  have b2 := zB_putf (p := 33) (k := 7) (x := Int32.ofInt 0) b1 rfl (fun r hr => by cases hr; exact ⟨by decide, by decide⟩) (zJc_I rfl b1.2.2.2.2.2.2.2)
  have b3 := zB_putf (p := 53) (k := 1) (x := Int32.ofInt 0) b2 rfl (fun r hr => by cases hr; exact ⟨by decide, by decide⟩) (zJc_I rfl b2.2.2.2.2.2.2.2)
  have b4 := zB_putf (p := 51) (k := 2) (x := Int32.ofInt 0) b3 rfl (fun r hr => by cases hr; exact ⟨by decide, by decide⟩) (zJc_I rfl b3.2.2.2.2.2.2.2)
  have b5 := zB_putf (p := 51) (k := 3) (x := Int32.ofInt 0) b4 rfl (fun r hr => by cases hr; exact ⟨by decide, by decide⟩) (zJc_I rfl b4.2.2.2.2.2.2.2)
  have W5 := zB_Wd b5
  have eT : ∀ k, k < n → ((zw_I (zw_I (zw_I (zw_I (zw_I H1 33 0 (Int32.ofInt 0)) 33 7 (Int32.ofInt 0)) 53 1 (Int32.ofInt 0)) 51 2 (Int32.ofInt 0)) 51 3 (Int32.ofInt 0)).2.1 1 k).toInt = T k := fun k hk => by
    rw [show (zw_I (zw_I (zw_I (zw_I (zw_I H1 33 0 (Int32.ofInt 0)) 33 7 (Int32.ofInt 0)) 53 1 (Int32.ofInt 0)) 51 2 (Int32.ofInt 0)) 51 3 (Int32.ofInt 0)).2.1 1 k = H1.2.1 1 k from (zw_ne (zw_ne (zw_ne (zw_ne (zw_ne rfl rfl) rfl) rfl) rfl) rfl), (zI_in c3 (p := 1) (k := k) rfl rfl (fun h9 => absurd h9.1 (by decide))).1]
    exact hT k hk
  have e0 : (zw_I (zw_I (zw_I (zw_I (zw_I H1 33 0 (Int32.ofInt 0)) 33 7 (Int32.ofInt 0)) 53 1 (Int32.ofInt 0)) 51 2 (Int32.ofInt 0)) 51 3 (Int32.ofInt 0)).2.1 2 0 = H1.2.1 2 0 := (zw_ne (zw_ne (zw_ne (zw_ne (zw_ne rfl rfl) rfl) rfl) rfl) rfl)
  have e1 : (zw_I (zw_I (zw_I (zw_I (zw_I H1 33 0 (Int32.ofInt 0)) 33 7 (Int32.ofInt 0)) 53 1 (Int32.ofInt 0)) 51 2 (Int32.ofInt 0)) 51 3 (Int32.ofInt 0)).2.1 2 1 = H1.2.1 2 1 := (zw_ne (zw_ne (zw_ne (zw_ne (zw_ne rfl rfl) rfl) rfl) rfl) rfl)
  have e7 : (zw_I (zw_I (zw_I (zw_I (zw_I H1 33 0 (Int32.ofInt 0)) 33 7 (Int32.ofInt 0)) 53 1 (Int32.ofInt 0)) 51 2 (Int32.ofInt 0)) 51 3 (Int32.ofInt 0)).2.1 2 7 = H1.2.1 2 7 := (zw_ne (zw_ne (zw_ne (zw_ne (zw_ne rfl rfl) rfl) rfl) rfl) rfl)
  have e12 : (zw_I (zw_I (zw_I (zw_I (zw_I H1 33 0 (Int32.ofInt 0)) 33 7 (Int32.ofInt 0)) 53 1 (Int32.ofInt 0)) 51 2 (Int32.ofInt 0)) 51 3 (Int32.ofInt 0)).2.1 2 12 = H1.2.1 2 12 := (zw_ne (zw_ne (zw_ne (zw_ne (zw_ne rfl rfl) rfl) rfl) rfl) rfl)
  have e16 : (zw_I (zw_I (zw_I (zw_I (zw_I H1 33 0 (Int32.ofInt 0)) 33 7 (Int32.ofInt 0)) 53 1 (Int32.ofInt 0)) 51 2 (Int32.ofInt 0)) 51 3 (Int32.ofInt 0)).2.1 2 16 = H1.2.1 2 16 := (zw_ne (zw_ne (zw_ne (zw_ne (zw_ne rfl rfl) rfl) rfl) rfl) rfl)
  have ec : (zw_I (zw_I (zw_I (zw_I (zw_I H1 33 0 (Int32.ofInt 0)) 33 7 (Int32.ofInt 0)) 53 1 (Int32.ofInt 0)) 51 2 (Int32.ofInt 0)) 51 3 (Int32.ofInt 0)).2.1 33 0 = Int32.ofInt 0 := (zw_ne (zw_ne (zw_ne (zw_ne zw_eq rfl) rfl) rfl) rfl)
  have es : (zw_I (zw_I (zw_I (zw_I (zw_I H1 33 0 (Int32.ofInt 0)) 33 7 (Int32.ofInt 0)) 53 1 (Int32.ofInt 0)) 51 2 (Int32.ofInt 0)) 51 3 (Int32.ofInt 0)).2.1 51 2 = Int32.ofInt 0 := (zw_ne zw_eq rfl)
  have eg : (zw_I (zw_I (zw_I (zw_I (zw_I H1 33 0 (Int32.ofInt 0)) 33 7 (Int32.ofInt 0)) 53 1 (Int32.ofInt 0)) 51 2 (Int32.ofInt 0)) 51 3 (Int32.ofInt 0)).2.1 51 3 = Int32.ofInt 0 := zw_eq
  have D0 : yDc 2 33 y00d (zw_I (zw_I (zw_I (zw_I (zw_I H1 33 0 (Int32.ofInt 0)) 33 7 (Int32.ofInt 0)) 53 1 (Int32.ofInt 0)) 51 2 (Int32.ofInt 0)) 51 3 (Int32.ofInt 0)) := by
    refine ⟨by rw [e0, v0]; rfl, by rw [e1, v1]; rfl, by rw [ec]; rfl, by rw [e7, v7]; rfl, by rw [e12, v12]; rfl, by rw [e16, v16]; rfl, by rw [es]; rfl, by rw [eg]; rfl, v3, fun c hc => ⟨fun _ => y00d_f hc, fun _ => ?_⟩, by decide⟩
    show (H1.2.2.1 5 0 ||| H1.2.2.1 5 1 ||| H1.2.2.1 5 2 ||| H1.2.2.1 5 3) &&& yBit c = 0
    rw [v4 0 (by decide), v4 1 (by decide), v4 2 (by decide), v4 3 (by decide)]
    exact Int64.zero_and
  have X0 : yXd (yLc 2 33) [] y00d (zw_I (zw_I (zw_I (zw_I (zw_I H1 33 0 (Int32.ofInt 0)) 33 7 (Int32.ofInt 0)) 53 1 (Int32.ofInt 0)) 51 2 (Int32.ofInt 0)) 51 3 (Int32.ofInt 0)) := by
    intro i i1 i2 _
    rcases y00d_i i2 with rfl | rfl | rfl | ⟨i3, i4⟩
    · show ((zw_I (zw_I (zw_I (zw_I (zw_I H1 33 0 (Int32.ofInt 0)) 33 7 (Int32.ofInt 0)) 53 1 (Int32.ofInt 0)) 51 2 (Int32.ofInt 0)) 51 3 (Int32.ofInt 0)).2.1 2 9).toInt = 0
      rw [show (zw_I (zw_I (zw_I (zw_I (zw_I H1 33 0 (Int32.ofInt 0)) 33 7 (Int32.ofInt 0)) 53 1 (Int32.ofInt 0)) 51 2 (Int32.ofInt 0)) 51 3 (Int32.ofInt 0)).2.1 2 9 = H1.2.1 2 9 from (zw_ne (zw_ne (zw_ne (zw_ne (zw_ne rfl rfl) rfl) rfl) rfl) rfl)]
      exact v9
    · show ((zw_I (zw_I (zw_I (zw_I (zw_I H1 33 0 (Int32.ofInt 0)) 33 7 (Int32.ofInt 0)) 53 1 (Int32.ofInt 0)) 51 2 (Int32.ofInt 0)) 51 3 (Int32.ofInt 0)).2.1 2 10).toInt = 2
      rw [show (zw_I (zw_I (zw_I (zw_I (zw_I H1 33 0 (Int32.ofInt 0)) 33 7 (Int32.ofInt 0)) 53 1 (Int32.ofInt 0)) 51 2 (Int32.ofInt 0)) 51 3 (Int32.ofInt 0)).2.1 2 10 = H1.2.1 2 10 from (zw_ne (zw_ne (zw_ne (zw_ne (zw_ne rfl rfl) rfl) rfl) rfl) rfl)]
      exact v10
    · show ((zw_I (zw_I (zw_I (zw_I (zw_I H1 33 0 (Int32.ofInt 0)) 33 7 (Int32.ofInt 0)) 53 1 (Int32.ofInt 0)) 51 2 (Int32.ofInt 0)) 51 3 (Int32.ofInt 0)).2.1 2 11).toInt = 5
      rw [show (zw_I (zw_I (zw_I (zw_I (zw_I H1 33 0 (Int32.ofInt 0)) 33 7 (Int32.ofInt 0)) 53 1 (Int32.ofInt 0)) 51 2 (Int32.ofInt 0)) 51 3 (Int32.ofInt 0)).2.1 2 11 = H1.2.1 2 11 from (zw_ne (zw_ne (zw_ne (zw_ne (zw_ne rfl rfl) rfl) rfl) rfl) rfl)]
      exact v11
    · obtain ⟨c, rfl⟩ : ∃ c, i = 100 + c := ⟨i - 100, by omega⟩
      rw [yL_100 (by omega), y00d_c (by omega)]
      rw [show (zw_I (zw_I (zw_I (zw_I (zw_I H1 33 0 (Int32.ofInt 0)) 33 7 (Int32.ofInt 0)) 53 1 (Int32.ofInt 0)) 51 2 (Int32.ofInt 0)) 51 3 (Int32.ofInt 0)).2.1 (2 + 2) c = H1.2.1 (2 + 2) c from (zw_ne (zw_ne (zw_ne (zw_ne (zw_ne rfl rfl) rfl) rfl) rfl) rfl)]
      exact vC c (by omega)
  have hwc : yWC 2 33 := ⟨by decide, by decide⟩
  obtain ⟨_, o1, R, rfl, o2, o3⟩ := yc_open (L := L) (σ := σ) (d := d + 61) (x := x) b5 hn hx eT
  have D1 : yDd 2 33 y00d R := yDd_F hwc o3 rfl rfl ⟨D0, X0⟩
  have WR := zB_Wd o2.1.1
  refine zw_met zm_50_t rfl rfl ?_
  refine zw_ld (n := 1) (k := 2) (f := zp_isR) (pc' := 1) rfl rfl rfl rfl rfl ?_
  refine zw_cnx (pc' := 4) (zw_cvx (q := 2) (Y := zm_2) W.1 rfl rfl zm_2_t rfl rfl) rfl rfl rfl rfl rfl (c1) ?_
  refine zw_ld (n := 1) (k := 3) (f := zp_isR) (pc' := 5) rfl rfl rfl rfl rfl ?_
  refine zw_cn (pc' := 8) (zw_cv (q := 33) (Y := zm_51) W1.1 rfl rfl zm_51_t rfl rfl) rfl rfl rfl rfl rfl (yc_cc33 (d := d + 64) W1) ?_
  refine zw_ld (n := 1) (k := 0) (f := zp_isR) (pc' := 9) rfl rfl rfl rfl rfl ?_
  refine zw_gR (q := 51) (pc' := 12) (zw_W_I (zw_W_I W1)) rfl rfl rfl rfl ((zw_W_I (zw_W_I W1)).2 51 1 _ rfl) rfl ?_
  refine zw_cn (pc' := 15) (zw_cv (q := 53) (Y := zm_52) (zw_W_I (zw_W_I W1)).1 rfl rfl zm_52_t rfl rfl) rfl rfl rfl rfl rfl (yc_ce (d := d + 64) (zw_W_I (zw_W_I W1))) ?_
  refine zw_ld (n := 1) (k := 0) (f := zp_isR) (pc' := 16) rfl rfl rfl rfl rfl ?_
  refine zw_s (pc' := 17) rfl rfl ?_
  refine zw_pI (q := 51) (pc' := 20) (zw_W_I (zw_W_I (zw_W_I W1))) rfl rfl rfl rfl (rfl) rfl ?_
  refine zw_ld (n := 1) (k := 0) (f := zp_isR) (pc' := 21) rfl rfl rfl rfl rfl ?_
  refine zw_s (pc' := 22) rfl rfl ?_
  refine zw_pI (q := 51) (pc' := 25) (zw_W_I (zw_W_I (zw_W_I (zw_W_I W1)))) rfl rfl rfl rfl (rfl) rfl ?_
  refine zw_ld (n := 1) (k := 0) (f := zp_isR) (pc' := 26) rfl rfl rfl rfl rfl ?_
  refine zw_gR (q := 51) (pc' := 29) W5 rfl rfl rfl rfl (W5.2 51 0 _ rfl) rfl ?_
  refine zw_ld (n := 1) (k := 1) (f := zp_isI) (pc' := 30) rfl rfl rfl rfl rfl ?_
  refine zw_cn (pc' := 33) (zw_cv (q := 52) (Y := zm_53) W5.1 rfl rfl zm_53_t rfl rfl) rfl rfl rfl rfl rfl (o1) ?_
  refine zw_s (pc' := 34) rfl rfl ?_
  refine zw_st (n := 2) (k := 4) (f := zp_isI) (pc' := 36) rfl rfl rfl rfl rfl ?_
  exact yc_readL2_33 yBCt 701 R _ _ 0 y00d (by decide) (zw_gt rfl rfl rfl) (zw_gt rfl rfl rfl) (zw_gt rfl rfl rfl) zw_g1 ⟨by decide, by decide⟩ rfl o2 D1 yR2_r

set_option maxRecDepth 8000 in
theorem yc_read22_13 {L : Nat} {σ : Nat → Int32} {d : Nat} {T : Nat → Int} {n : Nat} {H : zp_H} {x : Int32} (hB : zk_Bs zB zg zJc H) (hn : n ≤ 700) (hx : x.toInt = n) (hT : ∀ k, k < n → (H.2.1 1 k).toInt = T k) : ∃ X, zp_Call L σ (d + 66) 50 [.inr (.inr (some 52)), .inl x, .inr (.inr (some 23)), .inr (.inr (some 14))] H X ∧ yRD 22 13 T n y00 X := by
  have W := zB_Wd (zB_dn hB)
  obtain ⟨H1, c1, c2, c3, v0, v1, v3, v4, vC, v7, v9, v10, v11, v12, v16⟩ := yc_clear22 (L := L) (σ := σ) (d := d + 62) hB
  have W1 := zB_Wd (zB_dn c2)
  have b0 := zB_dn c2
  have b1 := zB_putf (p := 13) (k := 0) (x := Int32.ofInt 0) b0 rfl (fun r hr => by cases hr; exact ⟨by decide, by decide⟩) (zJc_I rfl b0.2.2.2.2.2.2.2)
  have b2 := zB_putf (p := 13) (k := 7) (x := Int32.ofInt 0) b1 rfl (fun r hr => by cases hr; exact ⟨by decide, by decide⟩) (zJc_I rfl b1.2.2.2.2.2.2.2)
  have b3 := zB_putf (p := 53) (k := 1) (x := Int32.ofInt 0) b2 rfl (fun r hr => by cases hr; exact ⟨by decide, by decide⟩) (zJc_I rfl b2.2.2.2.2.2.2.2)
  have b4 := zB_putf (p := 51) (k := 2) (x := Int32.ofInt 0) b3 rfl (fun r hr => by cases hr; exact ⟨by decide, by decide⟩) (zJc_I rfl b3.2.2.2.2.2.2.2)
  have b5 := zB_putf (p := 51) (k := 3) (x := Int32.ofInt 0) b4 rfl (fun r hr => by cases hr; exact ⟨by decide, by decide⟩) (zJc_I rfl b4.2.2.2.2.2.2.2)
  have W5 := zB_Wd b5
  have eT : ∀ k, k < n → ((zw_I (zw_I (zw_I (zw_I (zw_I H1 13 0 (Int32.ofInt 0)) 13 7 (Int32.ofInt 0)) 53 1 (Int32.ofInt 0)) 51 2 (Int32.ofInt 0)) 51 3 (Int32.ofInt 0)).2.1 1 k).toInt = T k := fun k hk => by
    rw [show (zw_I (zw_I (zw_I (zw_I (zw_I H1 13 0 (Int32.ofInt 0)) 13 7 (Int32.ofInt 0)) 53 1 (Int32.ofInt 0)) 51 2 (Int32.ofInt 0)) 51 3 (Int32.ofInt 0)).2.1 1 k = H1.2.1 1 k from (zw_ne (zw_ne (zw_ne (zw_ne (zw_ne rfl rfl) rfl) rfl) rfl) rfl), (zI_in c3 (p := 1) (k := k) rfl rfl (fun h9 => absurd h9.1 (by decide))).1]
    exact hT k hk
  have e0 : (zw_I (zw_I (zw_I (zw_I (zw_I H1 13 0 (Int32.ofInt 0)) 13 7 (Int32.ofInt 0)) 53 1 (Int32.ofInt 0)) 51 2 (Int32.ofInt 0)) 51 3 (Int32.ofInt 0)).2.1 22 0 = H1.2.1 22 0 := (zw_ne (zw_ne (zw_ne (zw_ne (zw_ne rfl rfl) rfl) rfl) rfl) rfl)
  have e1 : (zw_I (zw_I (zw_I (zw_I (zw_I H1 13 0 (Int32.ofInt 0)) 13 7 (Int32.ofInt 0)) 53 1 (Int32.ofInt 0)) 51 2 (Int32.ofInt 0)) 51 3 (Int32.ofInt 0)).2.1 22 1 = H1.2.1 22 1 := (zw_ne (zw_ne (zw_ne (zw_ne (zw_ne rfl rfl) rfl) rfl) rfl) rfl)
  have e7 : (zw_I (zw_I (zw_I (zw_I (zw_I H1 13 0 (Int32.ofInt 0)) 13 7 (Int32.ofInt 0)) 53 1 (Int32.ofInt 0)) 51 2 (Int32.ofInt 0)) 51 3 (Int32.ofInt 0)).2.1 22 7 = H1.2.1 22 7 := (zw_ne (zw_ne (zw_ne (zw_ne (zw_ne rfl rfl) rfl) rfl) rfl) rfl)
  have e12 : (zw_I (zw_I (zw_I (zw_I (zw_I H1 13 0 (Int32.ofInt 0)) 13 7 (Int32.ofInt 0)) 53 1 (Int32.ofInt 0)) 51 2 (Int32.ofInt 0)) 51 3 (Int32.ofInt 0)).2.1 22 12 = H1.2.1 22 12 := (zw_ne (zw_ne (zw_ne (zw_ne (zw_ne rfl rfl) rfl) rfl) rfl) rfl)
  have e16 : (zw_I (zw_I (zw_I (zw_I (zw_I H1 13 0 (Int32.ofInt 0)) 13 7 (Int32.ofInt 0)) 53 1 (Int32.ofInt 0)) 51 2 (Int32.ofInt 0)) 51 3 (Int32.ofInt 0)).2.1 22 16 = H1.2.1 22 16 := (zw_ne (zw_ne (zw_ne (zw_ne (zw_ne rfl rfl) rfl) rfl) rfl) rfl)
  have ec : (zw_I (zw_I (zw_I (zw_I (zw_I H1 13 0 (Int32.ofInt 0)) 13 7 (Int32.ofInt 0)) 53 1 (Int32.ofInt 0)) 51 2 (Int32.ofInt 0)) 51 3 (Int32.ofInt 0)).2.1 13 0 = Int32.ofInt 0 := (zw_ne (zw_ne (zw_ne (zw_ne zw_eq rfl) rfl) rfl) rfl)
  have es : (zw_I (zw_I (zw_I (zw_I (zw_I H1 13 0 (Int32.ofInt 0)) 13 7 (Int32.ofInt 0)) 53 1 (Int32.ofInt 0)) 51 2 (Int32.ofInt 0)) 51 3 (Int32.ofInt 0)).2.1 51 2 = Int32.ofInt 0 := (zw_ne zw_eq rfl)
  have eg : (zw_I (zw_I (zw_I (zw_I (zw_I H1 13 0 (Int32.ofInt 0)) 13 7 (Int32.ofInt 0)) 53 1 (Int32.ofInt 0)) 51 2 (Int32.ofInt 0)) 51 3 (Int32.ofInt 0)).2.1 51 3 = Int32.ofInt 0 := zw_eq
  have D0 : yDc 22 13 y00d (zw_I (zw_I (zw_I (zw_I (zw_I H1 13 0 (Int32.ofInt 0)) 13 7 (Int32.ofInt 0)) 53 1 (Int32.ofInt 0)) 51 2 (Int32.ofInt 0)) 51 3 (Int32.ofInt 0)) := by
    refine ⟨by rw [e0, v0]; rfl, by rw [e1, v1]; rfl, by rw [ec]; rfl, by rw [e7, v7]; rfl, by rw [e12, v12]; rfl, by rw [e16, v16]; rfl, by rw [es]; rfl, by rw [eg]; rfl, v3, fun c hc => ⟨fun _ => y00d_f hc, fun _ => ?_⟩, by decide⟩
    show (H1.2.2.1 25 0 ||| H1.2.2.1 25 1 ||| H1.2.2.1 25 2 ||| H1.2.2.1 25 3) &&& yBit c = 0
    rw [v4 0 (by decide), v4 1 (by decide), v4 2 (by decide), v4 3 (by decide)]
    exact Int64.zero_and
  have X0 : yXd (yLc 22 13) [] y00d (zw_I (zw_I (zw_I (zw_I (zw_I H1 13 0 (Int32.ofInt 0)) 13 7 (Int32.ofInt 0)) 53 1 (Int32.ofInt 0)) 51 2 (Int32.ofInt 0)) 51 3 (Int32.ofInt 0)) := by
    intro i i1 i2 _
    rcases y00d_i i2 with rfl | rfl | rfl | ⟨i3, i4⟩
    · show ((zw_I (zw_I (zw_I (zw_I (zw_I H1 13 0 (Int32.ofInt 0)) 13 7 (Int32.ofInt 0)) 53 1 (Int32.ofInt 0)) 51 2 (Int32.ofInt 0)) 51 3 (Int32.ofInt 0)).2.1 22 9).toInt = 0
      rw [show (zw_I (zw_I (zw_I (zw_I (zw_I H1 13 0 (Int32.ofInt 0)) 13 7 (Int32.ofInt 0)) 53 1 (Int32.ofInt 0)) 51 2 (Int32.ofInt 0)) 51 3 (Int32.ofInt 0)).2.1 22 9 = H1.2.1 22 9 from (zw_ne (zw_ne (zw_ne (zw_ne (zw_ne rfl rfl) rfl) rfl) rfl) rfl)]
      exact v9
    · show ((zw_I (zw_I (zw_I (zw_I (zw_I H1 13 0 (Int32.ofInt 0)) 13 7 (Int32.ofInt 0)) 53 1 (Int32.ofInt 0)) 51 2 (Int32.ofInt 0)) 51 3 (Int32.ofInt 0)).2.1 22 10).toInt = 2
      rw [show (zw_I (zw_I (zw_I (zw_I (zw_I H1 13 0 (Int32.ofInt 0)) 13 7 (Int32.ofInt 0)) 53 1 (Int32.ofInt 0)) 51 2 (Int32.ofInt 0)) 51 3 (Int32.ofInt 0)).2.1 22 10 = H1.2.1 22 10 from (zw_ne (zw_ne (zw_ne (zw_ne (zw_ne rfl rfl) rfl) rfl) rfl) rfl)]
      exact v10
    · show ((zw_I (zw_I (zw_I (zw_I (zw_I H1 13 0 (Int32.ofInt 0)) 13 7 (Int32.ofInt 0)) 53 1 (Int32.ofInt 0)) 51 2 (Int32.ofInt 0)) 51 3 (Int32.ofInt 0)).2.1 22 11).toInt = 5
      rw [show (zw_I (zw_I (zw_I (zw_I (zw_I H1 13 0 (Int32.ofInt 0)) 13 7 (Int32.ofInt 0)) 53 1 (Int32.ofInt 0)) 51 2 (Int32.ofInt 0)) 51 3 (Int32.ofInt 0)).2.1 22 11 = H1.2.1 22 11 from (zw_ne (zw_ne (zw_ne (zw_ne (zw_ne rfl rfl) rfl) rfl) rfl) rfl)]
      exact v11
    · obtain ⟨c, rfl⟩ : ∃ c, i = 100 + c := ⟨i - 100, by omega⟩
      rw [yL_100 (by omega), y00d_c (by omega)]
      rw [show (zw_I (zw_I (zw_I (zw_I (zw_I H1 13 0 (Int32.ofInt 0)) 13 7 (Int32.ofInt 0)) 53 1 (Int32.ofInt 0)) 51 2 (Int32.ofInt 0)) 51 3 (Int32.ofInt 0)).2.1 (22 + 2) c = H1.2.1 (22 + 2) c from (zw_ne (zw_ne (zw_ne (zw_ne (zw_ne rfl rfl) rfl) rfl) rfl) rfl)]
      exact vC c (by omega)
  have hwc : yWC 22 13 := ⟨by decide, by decide⟩
  obtain ⟨_, o1, R, rfl, o2, o3⟩ := yc_open (L := L) (σ := σ) (d := d + 61) (x := x) b5 hn hx eT
  have D1 : yDd 22 13 y00d R := yDd_F hwc o3 rfl rfl ⟨D0, X0⟩
  have WR := zB_Wd o2.1.1
  refine zw_met zm_50_t rfl rfl ?_
  refine zw_ld (n := 1) (k := 2) (f := zp_isR) (pc' := 1) rfl rfl rfl rfl rfl ?_
  refine zw_cnx (pc' := 4) (zw_cvx (q := 22) (Y := zm_2) W.1 rfl rfl zm_2_t rfl rfl) rfl rfl rfl rfl rfl (c1) ?_
  refine zw_ld (n := 1) (k := 3) (f := zp_isR) (pc' := 5) rfl rfl rfl rfl rfl ?_
  refine zw_cn (pc' := 8) (zw_cv (q := 13) (Y := zm_51) W1.1 rfl rfl zm_51_t rfl rfl) rfl rfl rfl rfl rfl (yc_cc13 (d := d + 64) W1) ?_
  refine zw_ld (n := 1) (k := 0) (f := zp_isR) (pc' := 9) rfl rfl rfl rfl rfl ?_
  refine zw_gR (q := 51) (pc' := 12) (zw_W_I (zw_W_I W1)) rfl rfl rfl rfl ((zw_W_I (zw_W_I W1)).2 51 1 _ rfl) rfl ?_
  refine zw_cn (pc' := 15) (zw_cv (q := 53) (Y := zm_52) (zw_W_I (zw_W_I W1)).1 rfl rfl zm_52_t rfl rfl) rfl rfl rfl rfl rfl (yc_ce (d := d + 64) (zw_W_I (zw_W_I W1))) ?_
  refine zw_ld (n := 1) (k := 0) (f := zp_isR) (pc' := 16) rfl rfl rfl rfl rfl ?_
  refine zw_s (pc' := 17) rfl rfl ?_
  refine zw_pI (q := 51) (pc' := 20) (zw_W_I (zw_W_I (zw_W_I W1))) rfl rfl rfl rfl (rfl) rfl ?_
  refine zw_ld (n := 1) (k := 0) (f := zp_isR) (pc' := 21) rfl rfl rfl rfl rfl ?_
  refine zw_s (pc' := 22) rfl rfl ?_
  refine zw_pI (q := 51) (pc' := 25) (zw_W_I (zw_W_I (zw_W_I (zw_W_I W1)))) rfl rfl rfl rfl (rfl) rfl ?_
  refine zw_ld (n := 1) (k := 0) (f := zp_isR) (pc' := 26) rfl rfl rfl rfl rfl ?_
  refine zw_gR (q := 51) (pc' := 29) W5 rfl rfl rfl rfl (W5.2 51 0 _ rfl) rfl ?_
  refine zw_ld (n := 1) (k := 1) (f := zp_isI) (pc' := 30) rfl rfl rfl rfl rfl ?_
  refine zw_cn (pc' := 33) (zw_cv (q := 52) (Y := zm_53) W5.1 rfl rfl zm_53_t rfl rfl) rfl rfl rfl rfl rfl (o1) ?_
  refine zw_s (pc' := 34) rfl rfl ?_
  refine zw_st (n := 2) (k := 4) (f := zp_isI) (pc' := 36) rfl rfl rfl rfl rfl ?_
  exact yc_readL22_13 yBCt 701 R _ _ 0 y00d (by decide) (zw_gt rfl rfl rfl) (zw_gt rfl rfl rfl) (zw_gt rfl rfl rfl) zw_g1 ⟨by decide, by decide⟩ rfl o2 D1 yR2_r

set_option maxRecDepth 8000 in
theorem yc_read22_33 {L : Nat} {σ : Nat → Int32} {d : Nat} {T : Nat → Int} {n : Nat} {H : zp_H} {x : Int32} (hB : zk_Bs zB zg zJc H) (hn : n ≤ 700) (hx : x.toInt = n) (hT : ∀ k, k < n → (H.2.1 1 k).toInt = T k) : ∃ X, zp_Call L σ (d + 66) 50 [.inr (.inr (some 52)), .inl x, .inr (.inr (some 23)), .inr (.inr (some 34))] H X ∧ yRD 22 33 T n y00 X := by
  have W := zB_Wd (zB_dn hB)
  obtain ⟨H1, c1, c2, c3, v0, v1, v3, v4, vC, v7, v9, v10, v11, v12, v16⟩ := yc_clear22 (L := L) (σ := σ) (d := d + 62) hB
  have W1 := zB_Wd (zB_dn c2)
  have b0 := zB_dn c2
  have b1 := zB_putf (p := 33) (k := 0) (x := Int32.ofInt 0) b0 rfl (fun r hr => by cases hr; exact ⟨by decide, by decide⟩) (zJc_I rfl b0.2.2.2.2.2.2.2)
  have b2 := zB_putf (p := 33) (k := 7) (x := Int32.ofInt 0) b1 rfl (fun r hr => by cases hr; exact ⟨by decide, by decide⟩) (zJc_I rfl b1.2.2.2.2.2.2.2)
  have b3 := zB_putf (p := 53) (k := 1) (x := Int32.ofInt 0) b2 rfl (fun r hr => by cases hr; exact ⟨by decide, by decide⟩) (zJc_I rfl b2.2.2.2.2.2.2.2)
  have b4 := zB_putf (p := 51) (k := 2) (x := Int32.ofInt 0) b3 rfl (fun r hr => by cases hr; exact ⟨by decide, by decide⟩) (zJc_I rfl b3.2.2.2.2.2.2.2)
  have b5 := zB_putf (p := 51) (k := 3) (x := Int32.ofInt 0) b4 rfl (fun r hr => by cases hr; exact ⟨by decide, by decide⟩) (zJc_I rfl b4.2.2.2.2.2.2.2)
  have W5 := zB_Wd b5
  have eT : ∀ k, k < n → ((zw_I (zw_I (zw_I (zw_I (zw_I H1 33 0 (Int32.ofInt 0)) 33 7 (Int32.ofInt 0)) 53 1 (Int32.ofInt 0)) 51 2 (Int32.ofInt 0)) 51 3 (Int32.ofInt 0)).2.1 1 k).toInt = T k := fun k hk => by
    rw [show (zw_I (zw_I (zw_I (zw_I (zw_I H1 33 0 (Int32.ofInt 0)) 33 7 (Int32.ofInt 0)) 53 1 (Int32.ofInt 0)) 51 2 (Int32.ofInt 0)) 51 3 (Int32.ofInt 0)).2.1 1 k = H1.2.1 1 k from (zw_ne (zw_ne (zw_ne (zw_ne (zw_ne rfl rfl) rfl) rfl) rfl) rfl), (zI_in c3 (p := 1) (k := k) rfl rfl (fun h9 => absurd h9.1 (by decide))).1]
    exact hT k hk
  have e0 : (zw_I (zw_I (zw_I (zw_I (zw_I H1 33 0 (Int32.ofInt 0)) 33 7 (Int32.ofInt 0)) 53 1 (Int32.ofInt 0)) 51 2 (Int32.ofInt 0)) 51 3 (Int32.ofInt 0)).2.1 22 0 = H1.2.1 22 0 := (zw_ne (zw_ne (zw_ne (zw_ne (zw_ne rfl rfl) rfl) rfl) rfl) rfl)
  have e1 : (zw_I (zw_I (zw_I (zw_I (zw_I H1 33 0 (Int32.ofInt 0)) 33 7 (Int32.ofInt 0)) 53 1 (Int32.ofInt 0)) 51 2 (Int32.ofInt 0)) 51 3 (Int32.ofInt 0)).2.1 22 1 = H1.2.1 22 1 := (zw_ne (zw_ne (zw_ne (zw_ne (zw_ne rfl rfl) rfl) rfl) rfl) rfl)
  have e7 : (zw_I (zw_I (zw_I (zw_I (zw_I H1 33 0 (Int32.ofInt 0)) 33 7 (Int32.ofInt 0)) 53 1 (Int32.ofInt 0)) 51 2 (Int32.ofInt 0)) 51 3 (Int32.ofInt 0)).2.1 22 7 = H1.2.1 22 7 := (zw_ne (zw_ne (zw_ne (zw_ne (zw_ne rfl rfl) rfl) rfl) rfl) rfl)
  have e12 : (zw_I (zw_I (zw_I (zw_I (zw_I H1 33 0 (Int32.ofInt 0)) 33 7 (Int32.ofInt 0)) 53 1 (Int32.ofInt 0)) 51 2 (Int32.ofInt 0)) 51 3 (Int32.ofInt 0)).2.1 22 12 = H1.2.1 22 12 := (zw_ne (zw_ne (zw_ne (zw_ne (zw_ne rfl rfl) rfl) rfl) rfl) rfl)
  have e16 : (zw_I (zw_I (zw_I (zw_I (zw_I H1 33 0 (Int32.ofInt 0)) 33 7 (Int32.ofInt 0)) 53 1 (Int32.ofInt 0)) 51 2 (Int32.ofInt 0)) 51 3 (Int32.ofInt 0)).2.1 22 16 = H1.2.1 22 16 := (zw_ne (zw_ne (zw_ne (zw_ne (zw_ne rfl rfl) rfl) rfl) rfl) rfl)
  have ec : (zw_I (zw_I (zw_I (zw_I (zw_I H1 33 0 (Int32.ofInt 0)) 33 7 (Int32.ofInt 0)) 53 1 (Int32.ofInt 0)) 51 2 (Int32.ofInt 0)) 51 3 (Int32.ofInt 0)).2.1 33 0 = Int32.ofInt 0 := (zw_ne (zw_ne (zw_ne (zw_ne zw_eq rfl) rfl) rfl) rfl)
  have es : (zw_I (zw_I (zw_I (zw_I (zw_I H1 33 0 (Int32.ofInt 0)) 33 7 (Int32.ofInt 0)) 53 1 (Int32.ofInt 0)) 51 2 (Int32.ofInt 0)) 51 3 (Int32.ofInt 0)).2.1 51 2 = Int32.ofInt 0 := (zw_ne zw_eq rfl)
  have eg : (zw_I (zw_I (zw_I (zw_I (zw_I H1 33 0 (Int32.ofInt 0)) 33 7 (Int32.ofInt 0)) 53 1 (Int32.ofInt 0)) 51 2 (Int32.ofInt 0)) 51 3 (Int32.ofInt 0)).2.1 51 3 = Int32.ofInt 0 := zw_eq
  have D0 : yDc 22 33 y00d (zw_I (zw_I (zw_I (zw_I (zw_I H1 33 0 (Int32.ofInt 0)) 33 7 (Int32.ofInt 0)) 53 1 (Int32.ofInt 0)) 51 2 (Int32.ofInt 0)) 51 3 (Int32.ofInt 0)) := by
    refine ⟨by rw [e0, v0]; rfl, by rw [e1, v1]; rfl, by rw [ec]; rfl, by rw [e7, v7]; rfl, by rw [e12, v12]; rfl, by rw [e16, v16]; rfl, by rw [es]; rfl, by rw [eg]; rfl, v3, fun c hc => ⟨fun _ => y00d_f hc, fun _ => ?_⟩, by decide⟩
    show (H1.2.2.1 25 0 ||| H1.2.2.1 25 1 ||| H1.2.2.1 25 2 ||| H1.2.2.1 25 3) &&& yBit c = 0
    rw [v4 0 (by decide), v4 1 (by decide), v4 2 (by decide), v4 3 (by decide)]
    exact Int64.zero_and
  have X0 : yXd (yLc 22 33) [] y00d (zw_I (zw_I (zw_I (zw_I (zw_I H1 33 0 (Int32.ofInt 0)) 33 7 (Int32.ofInt 0)) 53 1 (Int32.ofInt 0)) 51 2 (Int32.ofInt 0)) 51 3 (Int32.ofInt 0)) := by
    intro i i1 i2 _
    rcases y00d_i i2 with rfl | rfl | rfl | ⟨i3, i4⟩
    · show ((zw_I (zw_I (zw_I (zw_I (zw_I H1 33 0 (Int32.ofInt 0)) 33 7 (Int32.ofInt 0)) 53 1 (Int32.ofInt 0)) 51 2 (Int32.ofInt 0)) 51 3 (Int32.ofInt 0)).2.1 22 9).toInt = 0
      rw [show (zw_I (zw_I (zw_I (zw_I (zw_I H1 33 0 (Int32.ofInt 0)) 33 7 (Int32.ofInt 0)) 53 1 (Int32.ofInt 0)) 51 2 (Int32.ofInt 0)) 51 3 (Int32.ofInt 0)).2.1 22 9 = H1.2.1 22 9 from (zw_ne (zw_ne (zw_ne (zw_ne (zw_ne rfl rfl) rfl) rfl) rfl) rfl)]
      exact v9
    · show ((zw_I (zw_I (zw_I (zw_I (zw_I H1 33 0 (Int32.ofInt 0)) 33 7 (Int32.ofInt 0)) 53 1 (Int32.ofInt 0)) 51 2 (Int32.ofInt 0)) 51 3 (Int32.ofInt 0)).2.1 22 10).toInt = 2
      rw [show (zw_I (zw_I (zw_I (zw_I (zw_I H1 33 0 (Int32.ofInt 0)) 33 7 (Int32.ofInt 0)) 53 1 (Int32.ofInt 0)) 51 2 (Int32.ofInt 0)) 51 3 (Int32.ofInt 0)).2.1 22 10 = H1.2.1 22 10 from (zw_ne (zw_ne (zw_ne (zw_ne (zw_ne rfl rfl) rfl) rfl) rfl) rfl)]
      exact v10
    · show ((zw_I (zw_I (zw_I (zw_I (zw_I H1 33 0 (Int32.ofInt 0)) 33 7 (Int32.ofInt 0)) 53 1 (Int32.ofInt 0)) 51 2 (Int32.ofInt 0)) 51 3 (Int32.ofInt 0)).2.1 22 11).toInt = 5
      rw [show (zw_I (zw_I (zw_I (zw_I (zw_I H1 33 0 (Int32.ofInt 0)) 33 7 (Int32.ofInt 0)) 53 1 (Int32.ofInt 0)) 51 2 (Int32.ofInt 0)) 51 3 (Int32.ofInt 0)).2.1 22 11 = H1.2.1 22 11 from (zw_ne (zw_ne (zw_ne (zw_ne (zw_ne rfl rfl) rfl) rfl) rfl) rfl)]
      exact v11
    · obtain ⟨c, rfl⟩ : ∃ c, i = 100 + c := ⟨i - 100, by omega⟩
      rw [yL_100 (by omega), y00d_c (by omega)]
      rw [show (zw_I (zw_I (zw_I (zw_I (zw_I H1 33 0 (Int32.ofInt 0)) 33 7 (Int32.ofInt 0)) 53 1 (Int32.ofInt 0)) 51 2 (Int32.ofInt 0)) 51 3 (Int32.ofInt 0)).2.1 (22 + 2) c = H1.2.1 (22 + 2) c from (zw_ne (zw_ne (zw_ne (zw_ne (zw_ne rfl rfl) rfl) rfl) rfl) rfl)]
      exact vC c (by omega)
  have hwc : yWC 22 33 := ⟨by decide, by decide⟩
  obtain ⟨_, o1, R, rfl, o2, o3⟩ := yc_open (L := L) (σ := σ) (d := d + 61) (x := x) b5 hn hx eT
  have D1 : yDd 22 33 y00d R := yDd_F hwc o3 rfl rfl ⟨D0, X0⟩
  have WR := zB_Wd o2.1.1
  refine zw_met zm_50_t rfl rfl ?_
  refine zw_ld (n := 1) (k := 2) (f := zp_isR) (pc' := 1) rfl rfl rfl rfl rfl ?_
  refine zw_cnx (pc' := 4) (zw_cvx (q := 22) (Y := zm_2) W.1 rfl rfl zm_2_t rfl rfl) rfl rfl rfl rfl rfl (c1) ?_
  refine zw_ld (n := 1) (k := 3) (f := zp_isR) (pc' := 5) rfl rfl rfl rfl rfl ?_
  refine zw_cn (pc' := 8) (zw_cv (q := 33) (Y := zm_51) W1.1 rfl rfl zm_51_t rfl rfl) rfl rfl rfl rfl rfl (yc_cc33 (d := d + 64) W1) ?_
  refine zw_ld (n := 1) (k := 0) (f := zp_isR) (pc' := 9) rfl rfl rfl rfl rfl ?_
  refine zw_gR (q := 51) (pc' := 12) (zw_W_I (zw_W_I W1)) rfl rfl rfl rfl ((zw_W_I (zw_W_I W1)).2 51 1 _ rfl) rfl ?_
  refine zw_cn (pc' := 15) (zw_cv (q := 53) (Y := zm_52) (zw_W_I (zw_W_I W1)).1 rfl rfl zm_52_t rfl rfl) rfl rfl rfl rfl rfl (yc_ce (d := d + 64) (zw_W_I (zw_W_I W1))) ?_
  refine zw_ld (n := 1) (k := 0) (f := zp_isR) (pc' := 16) rfl rfl rfl rfl rfl ?_
  refine zw_s (pc' := 17) rfl rfl ?_
  refine zw_pI (q := 51) (pc' := 20) (zw_W_I (zw_W_I (zw_W_I W1))) rfl rfl rfl rfl (rfl) rfl ?_
  refine zw_ld (n := 1) (k := 0) (f := zp_isR) (pc' := 21) rfl rfl rfl rfl rfl ?_
  refine zw_s (pc' := 22) rfl rfl ?_
  refine zw_pI (q := 51) (pc' := 25) (zw_W_I (zw_W_I (zw_W_I (zw_W_I W1)))) rfl rfl rfl rfl (rfl) rfl ?_
  refine zw_ld (n := 1) (k := 0) (f := zp_isR) (pc' := 26) rfl rfl rfl rfl rfl ?_
  refine zw_gR (q := 51) (pc' := 29) W5 rfl rfl rfl rfl (W5.2 51 0 _ rfl) rfl ?_
  refine zw_ld (n := 1) (k := 1) (f := zp_isI) (pc' := 30) rfl rfl rfl rfl rfl ?_
  refine zw_cn (pc' := 33) (zw_cv (q := 52) (Y := zm_53) W5.1 rfl rfl zm_53_t rfl rfl) rfl rfl rfl rfl rfl (o1) ?_
  refine zw_s (pc' := 34) rfl rfl ?_
  refine zw_st (n := 2) (k := 4) (f := zp_isI) (pc' := 36) rfl rfl rfl rfl rfl ?_
  exact yc_readL22_33 yBCt 701 R _ _ 0 y00d (by decide) (zw_gt rfl rfl rfl) (zw_gt rfl rfl rfl) (zw_gt rfl rfl rfl) zw_g1 ⟨by decide, by decide⟩ rfl o2 D1 yR2_r
end
section
/-! ===== a text that was read leaves no act ===== -/
def ze_xq0 : zk_T := (50, [.inr (some (some 52)), .inl (0, 700), .inr (some (some 23)), .inr (some (some 34))], [], [(22, 0), (22, 1), (22, 2), (22, 3), (22, 7), (22, 9), (22, 10), (22, 11), (22, 12), (22, 16), (33, 0), (33, 7), (51, 2), (51, 3), (51, 4), (51, 5), (52, 1), (52, 2), (52, 3), (52, 4), (52, 5), (53, 1), (53, 2)], [23, 24, 25, 26, 27, 28, 29, 30, 31, 32, 34, 35, 36, 37, 38, 39], [(.inl (some (.inl (0, 0))), [(33, 7, 0, 0)], []), (.inl (some (.inl (1, 1))), [(33, 7, 0, 0)], [])], 48)
theorem zt_xq0 : zk_chk zB zB_fz [ze_e24, ze_e26, ze_e27, ze_e28, ze_e29, ze_e30, ze_e73, ze_h3] [(36, [(.inl 4, 0, 800, false), (.inr (22, 7), 0, 5, false), (.inr (22, 9), 0, 63, false), (.inr (22, 10), 0, 9, false), (.inr (22, 11), 0, 7, false), (.inr (22, 12), 0, 4, false), (.inr (22, 16), 0, 8, false), (.inr (33, 0), 0, 8, false), (.inr (33, 7), 0, 0, false), (.inr (51, 2), 0, 1, false), (.inr (51, 3), 0, 1, false), (.inr (53, 1), 0, 700, false)], [], [], 0, true)] 5000 ze_xq0 = true := by decide +kernel
theorem zc_xq0 {L : Nat} {σ : Nat → Int32} {gh : zp_H → Int} {J : zp_H → Prop} (hw : zk_W zB gh J zB_fz) (hh : ∀ s ∈ zh_l, zk_Ct L σ zB gh J s) : zk_Ct L σ zB gh J ze_xq0 := zk_chk_ok hw (List.forall_mem_cons.mpr ⟨zc_e24 hw hh, List.forall_mem_cons.mpr ⟨zc_e26 hw hh, List.forall_mem_cons.mpr ⟨zc_e27 hw hh, List.forall_mem_cons.mpr ⟨zc_e28 hw hh, List.forall_mem_cons.mpr ⟨zc_e29 hw hh, List.forall_mem_cons.mpr ⟨zc_e30 hw hh, List.forall_mem_cons.mpr ⟨zc_e73 hw hh, List.forall_mem_cons.mpr ⟨hh _ (List.mem_of_getElem? (i := 3) rfl), fun _ h => absurd h List.not_mem_nil⟩⟩⟩⟩⟩⟩⟩⟩) zt_xq0
def ze_xq3 : zk_T := (50, [.inr (some (some 52)), .inl (0, 700), .inr (some (some 3)), .inr (some (some 14))], [], [(2, 0), (2, 1), (2, 2), (2, 3), (2, 7), (2, 9), (2, 10), (2, 11), (2, 12), (2, 16), (13, 0), (13, 7), (51, 2), (51, 3), (51, 4), (51, 5), (52, 1), (52, 2), (52, 3), (52, 4), (52, 5), (53, 1), (53, 2)], [3, 4, 5, 6, 7, 8, 9, 10, 11, 12, 14, 15, 16, 17, 18, 19], [(.inl (some (.inl (0, 0))), [(13, 7, 0, 0)], []), (.inl (some (.inl (1, 1))), [(13, 7, 0, 0)], [])], 48)
theorem zt_xq3 : zk_chk zB zB_fz [ze_e104, ze_e105, ze_e107, ze_e151, ze_e159, ze_e160, ze_e26, ze_h1] [(36, [(.inl 4, 0, 800, false), (.inr (2, 7), 0, 5, false), (.inr (2, 9), 0, 63, false), (.inr (2, 10), 0, 9, false), (.inr (2, 11), 0, 7, false), (.inr (2, 12), 0, 4, false), (.inr (2, 16), 0, 8, false), (.inr (13, 0), 0, 8, false), (.inr (13, 7), 0, 0, false), (.inr (51, 2), 0, 1, false), (.inr (51, 3), 0, 1, false), (.inr (53, 1), 0, 700, false)], [], [], 0, true)] 5000 ze_xq3 = true := by decide +kernel
theorem zc_xq3 {L : Nat} {σ : Nat → Int32} {gh : zp_H → Int} {J : zp_H → Prop} (hw : zk_W zB gh J zB_fz) (hh : ∀ s ∈ zh_l, zk_Ct L σ zB gh J s) : zk_Ct L σ zB gh J ze_xq3 := zk_chk_ok hw (List.forall_mem_cons.mpr ⟨zc_e104 hw hh, List.forall_mem_cons.mpr ⟨zc_e105 hw hh, List.forall_mem_cons.mpr ⟨zc_e107 hw hh, List.forall_mem_cons.mpr ⟨zc_e151 hw hh, List.forall_mem_cons.mpr ⟨zc_e159 hw hh, List.forall_mem_cons.mpr ⟨zc_e160 hw hh, List.forall_mem_cons.mpr ⟨zc_e26 hw hh, List.forall_mem_cons.mpr ⟨hh _ (List.mem_of_getElem? (i := 1) rfl), fun _ h => absurd h List.not_mem_nil⟩⟩⟩⟩⟩⟩⟩⟩) zt_xq3
end
section
/-! ===== the class: sea, exactly ===== -/

/-- what sea of the class leaves: the answer, where the fault stands, refused texts, whether there is an image -/
def ywp (c : Nat) : Nat := if c < 2 then 2 else 22
def ycp (c : Nat) : Nat := if c % 2 = 0 then 13 else 33
/-- the waters, the chalk and its image stay as they are -/
def ykb (c p : Nat) : Bool := ((Nat.ble (ywp c) p).and (Nat.ble p (ywp c + 10))).or (((Nat.ble (ycp c) p).and (Nat.ble p (ycp c + 8))).or ((Nat.ble 42 p).and (Nat.ble p 50)))
def yKp (c : Nat) (H0 H1 : zp_H) : Prop := ∀ p k, ykb c p = true → H1.2.1 p k = H0.2.1 p k ∧ H1.2.2.1 p k = H0.2.2.1 p k
theorem ykb_0 {c p : Nat} (h : ykb c p = true) : p ≠ 0 ∧ p ≤ 50 := by
  have hw : ywp c = 2 ∨ ywp c = 22 := by unfold ywp; split <;> simp
  have hc : ycp c = 13 ∨ ycp c = 33 := by unfold ycp; split <;> simp
  rcases Bool.or_eq_true_iff.mp h with h | h
  · obtain ⟨a, b⟩ := Bool.and_eq_true_iff.mp h
    have a := Nat.le_of_ble_eq_true a
    have b := Nat.le_of_ble_eq_true b
    omega
  rcases Bool.or_eq_true_iff.mp h with h | h
  · obtain ⟨a, b⟩ := Bool.and_eq_true_iff.mp h
    have a := Nat.le_of_ble_eq_true a
    have b := Nat.le_of_ble_eq_true b
    omega
  · obtain ⟨a, b⟩ := Bool.and_eq_true_iff.mp h
    have a := Nat.le_of_ble_eq_true a
    have b := Nat.le_of_ble_eq_true b
    omega
theorem yKp_I {c k : Nat} {x : Int32} {H0 H1 : zp_H} (h : yKp c H0 H1) : yKp c H0 (zw_I H1 0 k x) := fun p j hp => ⟨(y_ne (fun h9 => (ykb_0 hp).1 h9.1)).trans (h p j hp).1, (h p j hp).2⟩
theorem yKp_0 {c k : Nat} {x : Int32} {H0 H1 : zp_H} (h : yKp c (zw_I H0 0 k x) H1) : yKp c H0 H1 := fun p j hp => ⟨(h p j hp).1.trans (y_ne (fun h9 => (ykb_0 hp).1 h9.1)), (h p j hp).2⟩
theorem yKp_F {c : Nat} {mods : List (Nat × Nat)} {am : List Nat} {H H1 : zp_H} (h : zk_Fr zg mods am H H1) (hm : mods.all (fun q => (ykb c q.1).not) = true) (ha : am.all (fun q => (ykb c q).not) = true) : yKp c H H1 := fun p k hp => zI_in h (zI_nm (P := fun q => (ykb c q.1).not) hm (by show (ykb c p).not = false; rw [hp]; rfl)) (zI_na (P := fun q => (ykb c q).not) ha (by show (ykb c p).not = false; rw [hp]; rfl)) (fun h9 => by have := (ykb_0 hp).2; omega)
/-- whose the references are -/
def yCf (c : Nat) (H : zp_H) : Prop := H.2.2.2 0 5 = some (ywp c + 1) ∧ H.2.2.2 0 6 = some (ycp c + 1)
def ysc_P (c : Nat) (T : Nat → Int) (n : Nat) (H0 : zp_H) (X : zp_X) : Prop := ∃ (v : Int32) (H1 : zp_H), X = (.inl (some (.inl v)), H1) ∧ ∃ r : Int × Nat, yA2 T n y00 r ∧ v.toInt = r.1 ∧ (r.1 = 0 → (H1.2.1 0 2).toInt = -1 ∧ (H1.2.1 0 10).toInt = 0 ∧ H1.2.1 0 3 = H0.2.1 0 3 ∧ yCf (3 - c) H1 ∧ H1.2.1 0 4 = H0.2.1 0 4 ∧ ((c = 0 ∨ c = 3) → (H1.2.1 (ycp (3 - c)) 7).toInt = 0) ∧ ∃ d q, yR2 T n y00 (0, [], 0, 0, 0, d, q) ∧ ys_kd T n q = 0 ∧ yDd (ywp (3 - c)) (ycp (3 - c)) d H1) ∧ (r.1 ≠ 0 → (H1.2.1 0 2).toInt = ys_st T n r.2 ∧ H1.2.1 0 10 = H0.2.1 0 10 ∧ H1.2.1 0 3 = H0.2.1 0 3 + Int32.ofInt 1 ∧ yKp c H0 H1 ∧ yCf c H1 ∧ H1.2.1 0 4 = H0.2.1 0 4)

set_option maxRecDepth 8000 in
theorem ysc_y0 {L : Nat} {σ : Nat → Int32} {d : Nat} {T : Nat → Int} {n : Nat} {H : zp_H} {x : Int32} (hB : zk_Bs (zB_c 0) zg zJc H) (hn : n ≤ 700) (hxn : x.toInt = n) (hT : ∀ k, k < n → (H.2.1 1 k).toInt = T k) (hx : 0 ≤ x.toInt ∧ x.toInt ≤ (H.2.1 0 1).toInt) : ∃ X, zp_Call L σ (d + 67) 49 [.inr (.inr (some 1)), .inl x] H X ∧ ysc_P 0 T n H X := by
  have hb := zB_Bc hB
  have W := zB_Wd (zB_dn hb)
  have g5 : H.2.2.2 0 5 = some 3 := hB.2.1 0 5 _ rfl
  have g6 : H.2.2.2 0 6 = some 14 := hB.2.1 0 6 _ rfl
  have g7 : H.2.2.2 0 7 = some 23 := hB.2.1 0 7 _ rfl
  have g8 : H.2.2.2 0 8 = some 34 := hB.2.1 0 8 _ rfl
  have b0 : zk_Bs zB zg zJc (zw_I H 0 1 (Int32.ofInt 0)) := zB_up (zB_putf (p := 0) (k := 1) (x := Int32.ofInt 0) (zB_dn hb) rfl (fun r hr => by cases hr; decide) (zJc_I rfl hb.2.2.2.2.2.2.2)) (by
    rw [show (zw_I H 0 1 (Int32.ofInt 0)).2.1 52 4 = H.2.1 52 4 from zw_ne rfl rfl, show (zw_I H 0 1 (Int32.ofInt 0)).2.1 52 5 = H.2.1 52 5 from zw_ne rfl rfl]
    exact zB_cn hb)
  obtain ⟨X9, c1, c2, c3, _⟩ := zc_e74 (L := L) (σ := σ) zB_W zh_all (d + 48) (by show 48 ≤ d + 48; omega) [.inr (.inr (some 52)), .inl x, .inr (.inr (some 23)), .inr (.inr (some 34))] (zw_I H 0 1 (Int32.ofInt 0)) ⟨rfl, ⟨by show (0 : Int) ≤ _; omega, by show _ ≤ (700 : Int); omega⟩, rfl, rfl, trivial⟩ b0 (fun f hf => absurd hf List.not_mem_nil)
  obtain ⟨X7, q1, q2, q3, o, o1, -, o3, -⟩ := zc_xq0 (L := L) (σ := σ) zB_W zh_all (d + 48) (by show 48 ≤ d + 48; omega) [.inr (.inr (some 52)), .inl x, .inr (.inr (some 23)), .inr (.inr (some 34))] (zw_I H 0 1 (Int32.ofInt 0)) ⟨rfl, ⟨by show (0 : Int) ≤ _; omega, by show _ ≤ (700 : Int); omega⟩, rfl, rfl, trivial⟩ b0 (fun f hf => absurd hf List.not_mem_nil)
  obtain rfl := zp_Call_u c1 q1
  have e7 : (X9.2.2.1 33 7).toInt = 0 := by
    have a : 0 ≤ (X9.2.2.1 33 7).toInt ∧ (X9.2.2.1 33 7).toInt ≤ 0 := by
      rcases List.mem_cons.mp o1 with rfl | o1
      · exact o3 (33, 7, 0, 0) List.mem_cons_self
      · rcases List.mem_cons.mp o1 with rfl | o1
        · exact o3 (33, 7, 0, 0) List.mem_cons_self
        · exact absurd o1 List.not_mem_nil
    omega
  obtain ⟨X8, y1, v, H1, rfl, y2⟩ := yc_read22_33 (L := L) (σ := σ) (d := d) (T := T) (n := n) b0 hn hxn (fun k hk => (congrArg Int32.toInt (zw_ne rfl rfl)).trans (hT k hk))
  obtain rfl := zp_Call_u y1 c1
  have W1 := zB_Wd (zB_dn c2)
  have hr1 : H1.2.2.2 = H.2.2.2 := c3.1
  have e10 : H1.2.1 0 10 = H.2.1 0 10 := (zI_in c3 (p := 0) (k := 10) rfl rfl (by decide)).1.trans (zw_ne rfl rfl)
  have e3 : H1.2.1 0 3 = H.2.1 0 3 := (zI_in c3 (p := 0) (k := 3) rfl rfl (by decide)).1.trans (zw_ne rfl rfl)
  have e4 : H1.2.1 0 4 = H.2.1 0 4 := (zI_in c3 (p := 0) (k := 4) rfl rfl (by decide)).1.trans (zw_ne rfl rfl)
  refine zw_met zm_49_t rfl rfl ?_
  refine zw_ld (n := 1) (k := 1) (f := zp_isI) (pc' := 1) rfl rfl rfl rfl rfl ?_
  refine zw_blt1 (g := 12) (pc' := 4) rfl rfl rfl rfl (fun hb0 => ?_) (fun hb0 => ?_)
  · omega
  · refine zw_ld (n := 1) (k := 1) (f := zp_isI) (pc' := 5) rfl rfl rfl rfl rfl ?_
    refine zw_ld (n := 1) (k := 0) (f := zp_isR) (pc' := 6) rfl rfl rfl rfl rfl ?_
    refine zw_gI (q := 0) (pc' := 9) W rfl rfl rfl rfl rfl rfl ?_
    refine zw_ble2 (g := 22) (pc' := 12) rfl rfl rfl rfl rfl (fun hb1 => ?_) (fun hb1 => ?_)
    · refine zw_ld (n := 1) (k := 0) (f := zp_isR) (pc' := 23) rfl rfl rfl rfl rfl ?_
      refine zw_s (pc' := 24) rfl rfl ?_
      refine zw_pI (q := 0) (pc' := 27) W rfl rfl rfl rfl rfl rfl ?_
      refine zw_ld (n := 1) (k := 0) (f := zp_isR) (pc' := 28) rfl rfl rfl rfl rfl ?_
      refine zw_gR (q := 0) (pc' := 31) (zw_W_I W) rfl rfl rfl rfl ((zw_W_I W).2 0 11 _ rfl) rfl ?_
      refine zw_ld (n := 1) (k := 1) (f := zp_isI) (pc' := 32) rfl rfl rfl rfl rfl ?_
      refine zw_ld (n := 1) (k := 0) (f := zp_isR) (pc' := 33) rfl rfl rfl rfl rfl ?_
      refine zw_gR (q := 0) (pc' := 36) (zw_W_I W) rfl rfl rfl rfl g7 rfl ?_
      refine zw_ld (n := 1) (k := 0) (f := zp_isR) (pc' := 37) rfl rfl rfl rfl rfl ?_
      refine zw_gR (q := 0) (pc' := 40) (zw_W_I W) rfl rfl rfl rfl g8 rfl ?_
      refine zw_c (pc' := 43) (zw_cv (q := 51) (Y := zm_50) (zw_W_I W).1 rfl rfl zm_50_t rfl rfl) rfl rfl rfl rfl rfl (y1) ?_
      refine zw_bne1 (g := 75) (pc' := 46) rfl rfl rfl rfl (fun hv => ?_) (fun hv => ?_)
      · refine zw_ld (n := 1) (k := 0) (f := zp_isR) (pc' := 76) rfl rfl rfl rfl rfl ?_
        refine zw_cn (pc' := 79) (zw_cv (q := 0) (Y := zm_98) W1.1 rfl rfl zm_98_t rfl rfl) rfl rfl rfl rfl rfl (zsc_tn0 W1 (by rw [hr1]; exact g5) (by rw [hr1]; exact g6) (by rw [hr1]; exact g7) (by rw [hr1]; exact g8)) ?_
        refine zw_s (pc' := 80) rfl rfl ?_
        refine zw_ri rfl rfl ?_
        rcases y2 with ⟨_, q9, d9, k4, k5, k6, k7⟩ | ⟨k1, _⟩
        · refine ⟨_, _, rfl, (0, q9), k4, rfl, fun _ => ⟨?_, ?_, ?_, ⟨rfl, rfl⟩, (zw_ne (zw_ne (zw_ne rfl rfl) rfl) rfl).trans e4, fun _ => (congrArg Int32.toInt (zw_ne (zw_ne (zw_ne rfl rfl) rfl) rfl)).trans e7, d9, q9, k5, k6, ?_⟩, fun h9 => absurd rfl h9⟩
          · exact congrArg Int32.toInt (zw_ne (zw_ne zw_eq rfl) rfl)
          · exact congrArg Int32.toInt (zw_ne zw_eq rfl)
          · exact (zw_ne (zw_ne (zw_ne rfl rfl) rfl) rfl).trans e3
          · exact ⟨yDc_c (H := H1) (List.forall_mem_cons.mpr ⟨rfl, List.forall_mem_cons.mpr ⟨rfl, List.forall_mem_cons.mpr ⟨rfl, List.forall_mem_cons.mpr ⟨rfl, List.forall_mem_cons.mpr ⟨rfl, List.forall_mem_cons.mpr ⟨rfl, List.forall_mem_cons.mpr ⟨rfl, List.forall_mem_cons.mpr ⟨rfl, fun _ h => absurd h List.not_mem_nil⟩⟩⟩⟩⟩⟩⟩⟩) rfl rfl k7.1, fun i i1 i2 i3 => (yXd_o (p := 60) (k := 11) (x := Int32.ofInt 0) (by decide) (yXd_o (p := 0) (k := 10) (x := Int32.ofInt 0) (by decide) (yXd_o (p := 0) (k := 2) (x := Int32.ofInt (-1)) (by decide) k7.2))) i i1 i2 i3⟩
        · omega
      · refine zw_ld (n := 1) (k := 0) (f := zp_isR) (pc' := 47) rfl rfl rfl rfl rfl ?_
        refine zw_ld (n := 1) (k := 0) (f := zp_isR) (pc' := 48) rfl rfl rfl rfl rfl ?_
        refine zw_gR (q := 0) (pc' := 51) W1 rfl rfl rfl rfl (W1.2 0 11 _ rfl) rfl ?_
        refine zw_gI (q := 51) (pc' := 54) W1 rfl rfl rfl rfl rfl rfl ?_
        refine zw_pI (q := 0) (pc' := 57) W1 rfl rfl rfl rfl rfl rfl ?_
        refine zw_ld (n := 1) (k := 0) (f := zp_isR) (pc' := 58) rfl rfl rfl rfl rfl ?_
        refine zw_s (pc' := 59) rfl rfl ?_
        refine zw_gI (q := 0) (pc' := 62) (zw_W_I W1) rfl rfl rfl rfl (zw_ne rfl rfl) rfl ?_
        refine zw_s (pc' := 63) rfl rfl ?_
        refine zw_iadd (pc' := 64) rfl rfl ?_
        refine zw_pI (q := 0) (pc' := 67) (zw_W_I W1) rfl rfl rfl rfl rfl rfl ?_
        refine zw_ld (n := 1) (k := 0) (f := zp_isR) (pc' := 68) rfl rfl rfl rfl rfl ?_
        refine zw_gR (q := 0) (pc' := 71) (zw_W_I (zw_W_I W1)) rfl rfl rfl rfl ((zw_W_I (zw_W_I W1)).2 0 11 _ rfl) rfl ?_
        refine zw_gI (q := 51) (pc' := 74) (zw_W_I (zw_W_I W1)) rfl rfl rfl rfl (zw_ne (zw_ne rfl rfl) rfl) rfl ?_
        refine zw_ri rfl rfl ?_
        rcases y2 with ⟨k1, _⟩ | ⟨_, r, k3, k4, k5⟩
        · omega
        · refine ⟨_, _, rfl, r, k4, ?_, fun h9 => ?_, fun _ => ⟨?_, ?_, ?_, ?_, ⟨by show H1.2.2.2 0 5 = _; rw [hr1]; exact g5, by show H1.2.2.2 0 6 = _; rw [hr1]; exact g6⟩, (zw_ne (zw_ne rfl rfl) rfl).trans e4⟩⟩
          · exact k3.1
          · omega
          · exact (congrArg Int32.toInt (zw_ne zw_eq rfl)).trans k3.2
          · exact (zw_ne (zw_ne rfl rfl) rfl).trans e10
          · exact zw_eq.trans (by rw [e3])
          · exact yKp_I (yKp_I (yKp_0 (yKp_F c3 (by decide +kernel) (by decide +kernel))))
    · omega

set_option maxRecDepth 8000 in
theorem ysc_y1 {L : Nat} {σ : Nat → Int32} {d : Nat} {T : Nat → Int} {n : Nat} {H : zp_H} {x : Int32} (hB : zk_Bs (zB_c 1) zg zJc H) (hn : n ≤ 700) (hxn : x.toInt = n) (hT : ∀ k, k < n → (H.2.1 1 k).toInt = T k) (hx : 0 ≤ x.toInt ∧ x.toInt ≤ (H.2.1 0 1).toInt) : ∃ X, zp_Call L σ (d + 67) 49 [.inr (.inr (some 1)), .inl x] H X ∧ ysc_P 1 T n H X := by
  have hb := zB_Bc hB
  have W := zB_Wd (zB_dn hb)
  have g5 : H.2.2.2 0 5 = some 3 := hB.2.1 0 5 _ rfl
  have g6 : H.2.2.2 0 6 = some 34 := hB.2.1 0 6 _ rfl
  have g7 : H.2.2.2 0 7 = some 23 := hB.2.1 0 7 _ rfl
  have g8 : H.2.2.2 0 8 = some 14 := hB.2.1 0 8 _ rfl
  have b0 : zk_Bs zB zg zJc (zw_I H 0 1 (Int32.ofInt 0)) := zB_up (zB_putf (p := 0) (k := 1) (x := Int32.ofInt 0) (zB_dn hb) rfl (fun r hr => by cases hr; decide) (zJc_I rfl hb.2.2.2.2.2.2.2)) (by
    rw [show (zw_I H 0 1 (Int32.ofInt 0)).2.1 52 4 = H.2.1 52 4 from zw_ne rfl rfl, show (zw_I H 0 1 (Int32.ofInt 0)).2.1 52 5 = H.2.1 52 5 from zw_ne rfl rfl]
    exact zB_cn hb)
  obtain ⟨X9, c1, c2, c3, _⟩ := zc_e85 (L := L) (σ := σ) zB_W zh_all (d + 48) (by show 48 ≤ d + 48; omega) [.inr (.inr (some 52)), .inl x, .inr (.inr (some 23)), .inr (.inr (some 14))] (zw_I H 0 1 (Int32.ofInt 0)) ⟨rfl, ⟨by show (0 : Int) ≤ _; omega, by show _ ≤ (700 : Int); omega⟩, rfl, rfl, trivial⟩ b0 (fun f hf => absurd hf List.not_mem_nil)
  obtain ⟨X8, y1, v, H1, rfl, y2⟩ := yc_read22_13 (L := L) (σ := σ) (d := d) (T := T) (n := n) b0 hn hxn (fun k hk => (congrArg Int32.toInt (zw_ne rfl rfl)).trans (hT k hk))
  obtain rfl := zp_Call_u y1 c1
  have W1 := zB_Wd (zB_dn c2)
  have hr1 : H1.2.2.2 = H.2.2.2 := c3.1
  have e10 : H1.2.1 0 10 = H.2.1 0 10 := (zI_in c3 (p := 0) (k := 10) rfl rfl (by decide)).1.trans (zw_ne rfl rfl)
  have e3 : H1.2.1 0 3 = H.2.1 0 3 := (zI_in c3 (p := 0) (k := 3) rfl rfl (by decide)).1.trans (zw_ne rfl rfl)
  have e4 : H1.2.1 0 4 = H.2.1 0 4 := (zI_in c3 (p := 0) (k := 4) rfl rfl (by decide)).1.trans (zw_ne rfl rfl)
  refine zw_met zm_49_t rfl rfl ?_
  refine zw_ld (n := 1) (k := 1) (f := zp_isI) (pc' := 1) rfl rfl rfl rfl rfl ?_
  refine zw_blt1 (g := 12) (pc' := 4) rfl rfl rfl rfl (fun hb0 => ?_) (fun hb0 => ?_)
  · omega
  · refine zw_ld (n := 1) (k := 1) (f := zp_isI) (pc' := 5) rfl rfl rfl rfl rfl ?_
    refine zw_ld (n := 1) (k := 0) (f := zp_isR) (pc' := 6) rfl rfl rfl rfl rfl ?_
    refine zw_gI (q := 0) (pc' := 9) W rfl rfl rfl rfl rfl rfl ?_
    refine zw_ble2 (g := 22) (pc' := 12) rfl rfl rfl rfl rfl (fun hb1 => ?_) (fun hb1 => ?_)
    · refine zw_ld (n := 1) (k := 0) (f := zp_isR) (pc' := 23) rfl rfl rfl rfl rfl ?_
      refine zw_s (pc' := 24) rfl rfl ?_
      refine zw_pI (q := 0) (pc' := 27) W rfl rfl rfl rfl rfl rfl ?_
      refine zw_ld (n := 1) (k := 0) (f := zp_isR) (pc' := 28) rfl rfl rfl rfl rfl ?_
      refine zw_gR (q := 0) (pc' := 31) (zw_W_I W) rfl rfl rfl rfl ((zw_W_I W).2 0 11 _ rfl) rfl ?_
      refine zw_ld (n := 1) (k := 1) (f := zp_isI) (pc' := 32) rfl rfl rfl rfl rfl ?_
      refine zw_ld (n := 1) (k := 0) (f := zp_isR) (pc' := 33) rfl rfl rfl rfl rfl ?_
      refine zw_gR (q := 0) (pc' := 36) (zw_W_I W) rfl rfl rfl rfl g7 rfl ?_
      refine zw_ld (n := 1) (k := 0) (f := zp_isR) (pc' := 37) rfl rfl rfl rfl rfl ?_
      refine zw_gR (q := 0) (pc' := 40) (zw_W_I W) rfl rfl rfl rfl g8 rfl ?_
      refine zw_c (pc' := 43) (zw_cv (q := 51) (Y := zm_50) (zw_W_I W).1 rfl rfl zm_50_t rfl rfl) rfl rfl rfl rfl rfl (y1) ?_
      refine zw_bne1 (g := 75) (pc' := 46) rfl rfl rfl rfl (fun hv => ?_) (fun hv => ?_)
      · refine zw_ld (n := 1) (k := 0) (f := zp_isR) (pc' := 76) rfl rfl rfl rfl rfl ?_
        refine zw_cn (pc' := 79) (zw_cv (q := 0) (Y := zm_98) W1.1 rfl rfl zm_98_t rfl rfl) rfl rfl rfl rfl rfl (zsc_tn1 W1 (by rw [hr1]; exact g5) (by rw [hr1]; exact g6) (by rw [hr1]; exact g7) (by rw [hr1]; exact g8)) ?_
        refine zw_s (pc' := 80) rfl rfl ?_
        refine zw_ri rfl rfl ?_
        rcases y2 with ⟨_, q9, d9, k4, k5, k6, k7⟩ | ⟨k1, _⟩
        · refine ⟨_, _, rfl, (0, q9), k4, rfl, fun _ => ⟨?_, ?_, ?_, ⟨rfl, rfl⟩, (zw_ne (zw_ne (zw_ne rfl rfl) rfl) rfl).trans e4, fun h9 => absurd h9 (by decide), d9, q9, k5, k6, ?_⟩, fun h9 => absurd rfl h9⟩
          · exact congrArg Int32.toInt (zw_ne (zw_ne zw_eq rfl) rfl)
          · exact congrArg Int32.toInt (zw_ne zw_eq rfl)
          · exact (zw_ne (zw_ne (zw_ne rfl rfl) rfl) rfl).trans e3
          · exact ⟨yDc_c (H := H1) (List.forall_mem_cons.mpr ⟨rfl, List.forall_mem_cons.mpr ⟨rfl, List.forall_mem_cons.mpr ⟨rfl, List.forall_mem_cons.mpr ⟨rfl, List.forall_mem_cons.mpr ⟨rfl, List.forall_mem_cons.mpr ⟨rfl, List.forall_mem_cons.mpr ⟨rfl, List.forall_mem_cons.mpr ⟨rfl, fun _ h => absurd h List.not_mem_nil⟩⟩⟩⟩⟩⟩⟩⟩) rfl rfl k7.1, fun i i1 i2 i3 => (yXd_o (p := 60) (k := 11) (x := Int32.ofInt 0) (by decide) (yXd_o (p := 0) (k := 10) (x := Int32.ofInt 0) (by decide) (yXd_o (p := 0) (k := 2) (x := Int32.ofInt (-1)) (by decide) k7.2))) i i1 i2 i3⟩
        · omega
      · refine zw_ld (n := 1) (k := 0) (f := zp_isR) (pc' := 47) rfl rfl rfl rfl rfl ?_
        refine zw_ld (n := 1) (k := 0) (f := zp_isR) (pc' := 48) rfl rfl rfl rfl rfl ?_
        refine zw_gR (q := 0) (pc' := 51) W1 rfl rfl rfl rfl (W1.2 0 11 _ rfl) rfl ?_
        refine zw_gI (q := 51) (pc' := 54) W1 rfl rfl rfl rfl rfl rfl ?_
        refine zw_pI (q := 0) (pc' := 57) W1 rfl rfl rfl rfl rfl rfl ?_
        refine zw_ld (n := 1) (k := 0) (f := zp_isR) (pc' := 58) rfl rfl rfl rfl rfl ?_
        refine zw_s (pc' := 59) rfl rfl ?_
        refine zw_gI (q := 0) (pc' := 62) (zw_W_I W1) rfl rfl rfl rfl (zw_ne rfl rfl) rfl ?_
        refine zw_s (pc' := 63) rfl rfl ?_
        refine zw_iadd (pc' := 64) rfl rfl ?_
        refine zw_pI (q := 0) (pc' := 67) (zw_W_I W1) rfl rfl rfl rfl rfl rfl ?_
        refine zw_ld (n := 1) (k := 0) (f := zp_isR) (pc' := 68) rfl rfl rfl rfl rfl ?_
        refine zw_gR (q := 0) (pc' := 71) (zw_W_I (zw_W_I W1)) rfl rfl rfl rfl ((zw_W_I (zw_W_I W1)).2 0 11 _ rfl) rfl ?_
        refine zw_gI (q := 51) (pc' := 74) (zw_W_I (zw_W_I W1)) rfl rfl rfl rfl (zw_ne (zw_ne rfl rfl) rfl) rfl ?_
        refine zw_ri rfl rfl ?_
        rcases y2 with ⟨k1, _⟩ | ⟨_, r, k3, k4, k5⟩
        · omega
        · refine ⟨_, _, rfl, r, k4, ?_, fun h9 => ?_, fun _ => ⟨?_, ?_, ?_, ?_, ⟨by show H1.2.2.2 0 5 = _; rw [hr1]; exact g5, by show H1.2.2.2 0 6 = _; rw [hr1]; exact g6⟩, (zw_ne (zw_ne rfl rfl) rfl).trans e4⟩⟩
          · exact k3.1
          · omega
          · exact (congrArg Int32.toInt (zw_ne zw_eq rfl)).trans k3.2
          · exact (zw_ne (zw_ne rfl rfl) rfl).trans e10
          · exact zw_eq.trans (by rw [e3])
          · exact yKp_I (yKp_I (yKp_0 (yKp_F c3 (by decide +kernel) (by decide +kernel))))
    · omega

set_option maxRecDepth 8000 in
theorem ysc_y2 {L : Nat} {σ : Nat → Int32} {d : Nat} {T : Nat → Int} {n : Nat} {H : zp_H} {x : Int32} (hB : zk_Bs (zB_c 2) zg zJc H) (hn : n ≤ 700) (hxn : x.toInt = n) (hT : ∀ k, k < n → (H.2.1 1 k).toInt = T k) (hx : 0 ≤ x.toInt ∧ x.toInt ≤ (H.2.1 0 1).toInt) : ∃ X, zp_Call L σ (d + 67) 49 [.inr (.inr (some 1)), .inl x] H X ∧ ysc_P 2 T n H X := by
  have hb := zB_Bc hB
  have W := zB_Wd (zB_dn hb)
  have g5 : H.2.2.2 0 5 = some 23 := hB.2.1 0 5 _ rfl
  have g6 : H.2.2.2 0 6 = some 14 := hB.2.1 0 6 _ rfl
  have g7 : H.2.2.2 0 7 = some 3 := hB.2.1 0 7 _ rfl
  have g8 : H.2.2.2 0 8 = some 34 := hB.2.1 0 8 _ rfl
  have b0 : zk_Bs zB zg zJc (zw_I H 0 1 (Int32.ofInt 0)) := zB_up (zB_putf (p := 0) (k := 1) (x := Int32.ofInt 0) (zB_dn hb) rfl (fun r hr => by cases hr; decide) (zJc_I rfl hb.2.2.2.2.2.2.2)) (by
    rw [show (zw_I H 0 1 (Int32.ofInt 0)).2.1 52 4 = H.2.1 52 4 from zw_ne rfl rfl, show (zw_I H 0 1 (Int32.ofInt 0)).2.1 52 5 = H.2.1 52 5 from zw_ne rfl rfl]
    exact zB_cn hb)
  obtain ⟨X9, c1, c2, c3, _⟩ := zc_e152 (L := L) (σ := σ) zB_W zh_all (d + 48) (by show 48 ≤ d + 48; omega) [.inr (.inr (some 52)), .inl x, .inr (.inr (some 3)), .inr (.inr (some 34))] (zw_I H 0 1 (Int32.ofInt 0)) ⟨rfl, ⟨by show (0 : Int) ≤ _; omega, by show _ ≤ (700 : Int); omega⟩, rfl, rfl, trivial⟩ b0 (fun f hf => absurd hf List.not_mem_nil)
  obtain ⟨X8, y1, v, H1, rfl, y2⟩ := yc_read2_33 (L := L) (σ := σ) (d := d) (T := T) (n := n) b0 hn hxn (fun k hk => (congrArg Int32.toInt (zw_ne rfl rfl)).trans (hT k hk))
  obtain rfl := zp_Call_u y1 c1
  have W1 := zB_Wd (zB_dn c2)
  have hr1 : H1.2.2.2 = H.2.2.2 := c3.1
  have e10 : H1.2.1 0 10 = H.2.1 0 10 := (zI_in c3 (p := 0) (k := 10) rfl rfl (by decide)).1.trans (zw_ne rfl rfl)
  have e3 : H1.2.1 0 3 = H.2.1 0 3 := (zI_in c3 (p := 0) (k := 3) rfl rfl (by decide)).1.trans (zw_ne rfl rfl)
  have e4 : H1.2.1 0 4 = H.2.1 0 4 := (zI_in c3 (p := 0) (k := 4) rfl rfl (by decide)).1.trans (zw_ne rfl rfl)
  refine zw_met zm_49_t rfl rfl ?_
  refine zw_ld (n := 1) (k := 1) (f := zp_isI) (pc' := 1) rfl rfl rfl rfl rfl ?_
  refine zw_blt1 (g := 12) (pc' := 4) rfl rfl rfl rfl (fun hb0 => ?_) (fun hb0 => ?_)
  · omega
  · refine zw_ld (n := 1) (k := 1) (f := zp_isI) (pc' := 5) rfl rfl rfl rfl rfl ?_
    refine zw_ld (n := 1) (k := 0) (f := zp_isR) (pc' := 6) rfl rfl rfl rfl rfl ?_
    refine zw_gI (q := 0) (pc' := 9) W rfl rfl rfl rfl rfl rfl ?_
    refine zw_ble2 (g := 22) (pc' := 12) rfl rfl rfl rfl rfl (fun hb1 => ?_) (fun hb1 => ?_)
    · refine zw_ld (n := 1) (k := 0) (f := zp_isR) (pc' := 23) rfl rfl rfl rfl rfl ?_
      refine zw_s (pc' := 24) rfl rfl ?_
      refine zw_pI (q := 0) (pc' := 27) W rfl rfl rfl rfl rfl rfl ?_
      refine zw_ld (n := 1) (k := 0) (f := zp_isR) (pc' := 28) rfl rfl rfl rfl rfl ?_
      refine zw_gR (q := 0) (pc' := 31) (zw_W_I W) rfl rfl rfl rfl ((zw_W_I W).2 0 11 _ rfl) rfl ?_
      refine zw_ld (n := 1) (k := 1) (f := zp_isI) (pc' := 32) rfl rfl rfl rfl rfl ?_
      refine zw_ld (n := 1) (k := 0) (f := zp_isR) (pc' := 33) rfl rfl rfl rfl rfl ?_
      refine zw_gR (q := 0) (pc' := 36) (zw_W_I W) rfl rfl rfl rfl g7 rfl ?_
      refine zw_ld (n := 1) (k := 0) (f := zp_isR) (pc' := 37) rfl rfl rfl rfl rfl ?_
      refine zw_gR (q := 0) (pc' := 40) (zw_W_I W) rfl rfl rfl rfl g8 rfl ?_
      refine zw_c (pc' := 43) (zw_cv (q := 51) (Y := zm_50) (zw_W_I W).1 rfl rfl zm_50_t rfl rfl) rfl rfl rfl rfl rfl (y1) ?_
      refine zw_bne1 (g := 75) (pc' := 46) rfl rfl rfl rfl (fun hv => ?_) (fun hv => ?_)
      · refine zw_ld (n := 1) (k := 0) (f := zp_isR) (pc' := 76) rfl rfl rfl rfl rfl ?_
        refine zw_cn (pc' := 79) (zw_cv (q := 0) (Y := zm_98) W1.1 rfl rfl zm_98_t rfl rfl) rfl rfl rfl rfl rfl (zsc_tn2 W1 (by rw [hr1]; exact g5) (by rw [hr1]; exact g6) (by rw [hr1]; exact g7) (by rw [hr1]; exact g8)) ?_
        refine zw_s (pc' := 80) rfl rfl ?_
        refine zw_ri rfl rfl ?_
        rcases y2 with ⟨_, q9, d9, k4, k5, k6, k7⟩ | ⟨k1, _⟩
        · refine ⟨_, _, rfl, (0, q9), k4, rfl, fun _ => ⟨?_, ?_, ?_, ⟨rfl, rfl⟩, (zw_ne (zw_ne (zw_ne rfl rfl) rfl) rfl).trans e4, fun h9 => absurd h9 (by decide), d9, q9, k5, k6, ?_⟩, fun h9 => absurd rfl h9⟩
          · exact congrArg Int32.toInt (zw_ne (zw_ne zw_eq rfl) rfl)
          · exact congrArg Int32.toInt (zw_ne zw_eq rfl)
          · exact (zw_ne (zw_ne (zw_ne rfl rfl) rfl) rfl).trans e3
          · exact ⟨yDc_c (H := H1) (List.forall_mem_cons.mpr ⟨rfl, List.forall_mem_cons.mpr ⟨rfl, List.forall_mem_cons.mpr ⟨rfl, List.forall_mem_cons.mpr ⟨rfl, List.forall_mem_cons.mpr ⟨rfl, List.forall_mem_cons.mpr ⟨rfl, List.forall_mem_cons.mpr ⟨rfl, List.forall_mem_cons.mpr ⟨rfl, fun _ h => absurd h List.not_mem_nil⟩⟩⟩⟩⟩⟩⟩⟩) rfl rfl k7.1, fun i i1 i2 i3 => (yXd_o (p := 60) (k := 11) (x := Int32.ofInt 0) (by decide) (yXd_o (p := 0) (k := 10) (x := Int32.ofInt 0) (by decide) (yXd_o (p := 0) (k := 2) (x := Int32.ofInt (-1)) (by decide) k7.2))) i i1 i2 i3⟩
        · omega
      · refine zw_ld (n := 1) (k := 0) (f := zp_isR) (pc' := 47) rfl rfl rfl rfl rfl ?_
        refine zw_ld (n := 1) (k := 0) (f := zp_isR) (pc' := 48) rfl rfl rfl rfl rfl ?_
        refine zw_gR (q := 0) (pc' := 51) W1 rfl rfl rfl rfl (W1.2 0 11 _ rfl) rfl ?_
        refine zw_gI (q := 51) (pc' := 54) W1 rfl rfl rfl rfl rfl rfl ?_
        refine zw_pI (q := 0) (pc' := 57) W1 rfl rfl rfl rfl rfl rfl ?_
        refine zw_ld (n := 1) (k := 0) (f := zp_isR) (pc' := 58) rfl rfl rfl rfl rfl ?_
        refine zw_s (pc' := 59) rfl rfl ?_
        refine zw_gI (q := 0) (pc' := 62) (zw_W_I W1) rfl rfl rfl rfl (zw_ne rfl rfl) rfl ?_
        refine zw_s (pc' := 63) rfl rfl ?_
        refine zw_iadd (pc' := 64) rfl rfl ?_
        refine zw_pI (q := 0) (pc' := 67) (zw_W_I W1) rfl rfl rfl rfl rfl rfl ?_
        refine zw_ld (n := 1) (k := 0) (f := zp_isR) (pc' := 68) rfl rfl rfl rfl rfl ?_
        refine zw_gR (q := 0) (pc' := 71) (zw_W_I (zw_W_I W1)) rfl rfl rfl rfl ((zw_W_I (zw_W_I W1)).2 0 11 _ rfl) rfl ?_
        refine zw_gI (q := 51) (pc' := 74) (zw_W_I (zw_W_I W1)) rfl rfl rfl rfl (zw_ne (zw_ne rfl rfl) rfl) rfl ?_
        refine zw_ri rfl rfl ?_
        rcases y2 with ⟨k1, _⟩ | ⟨_, r, k3, k4, k5⟩
        · omega
        · refine ⟨_, _, rfl, r, k4, ?_, fun h9 => ?_, fun _ => ⟨?_, ?_, ?_, ?_, ⟨by show H1.2.2.2 0 5 = _; rw [hr1]; exact g5, by show H1.2.2.2 0 6 = _; rw [hr1]; exact g6⟩, (zw_ne (zw_ne rfl rfl) rfl).trans e4⟩⟩
          · exact k3.1
          · omega
          · exact (congrArg Int32.toInt (zw_ne zw_eq rfl)).trans k3.2
          · exact (zw_ne (zw_ne rfl rfl) rfl).trans e10
          · exact zw_eq.trans (by rw [e3])
          · exact yKp_I (yKp_I (yKp_0 (yKp_F c3 (by decide +kernel) (by decide +kernel))))
    · omega

set_option maxRecDepth 8000 in
theorem ysc_y3 {L : Nat} {σ : Nat → Int32} {d : Nat} {T : Nat → Int} {n : Nat} {H : zp_H} {x : Int32} (hB : zk_Bs (zB_c 3) zg zJc H) (hn : n ≤ 700) (hxn : x.toInt = n) (hT : ∀ k, k < n → (H.2.1 1 k).toInt = T k) (hx : 0 ≤ x.toInt ∧ x.toInt ≤ (H.2.1 0 1).toInt) : ∃ X, zp_Call L σ (d + 67) 49 [.inr (.inr (some 1)), .inl x] H X ∧ ysc_P 3 T n H X := by
  have hb := zB_Bc hB
  have W := zB_Wd (zB_dn hb)
  have g5 : H.2.2.2 0 5 = some 23 := hB.2.1 0 5 _ rfl
  have g6 : H.2.2.2 0 6 = some 34 := hB.2.1 0 6 _ rfl
  have g7 : H.2.2.2 0 7 = some 3 := hB.2.1 0 7 _ rfl
  have g8 : H.2.2.2 0 8 = some 14 := hB.2.1 0 8 _ rfl
  have b0 : zk_Bs zB zg zJc (zw_I H 0 1 (Int32.ofInt 0)) := zB_up (zB_putf (p := 0) (k := 1) (x := Int32.ofInt 0) (zB_dn hb) rfl (fun r hr => by cases hr; decide) (zJc_I rfl hb.2.2.2.2.2.2.2)) (by
    rw [show (zw_I H 0 1 (Int32.ofInt 0)).2.1 52 4 = H.2.1 52 4 from zw_ne rfl rfl, show (zw_I H 0 1 (Int32.ofInt 0)).2.1 52 5 = H.2.1 52 5 from zw_ne rfl rfl]
    exact zB_cn hb)
  obtain ⟨X9, c1, c2, c3, _⟩ := zc_e161 (L := L) (σ := σ) zB_W zh_all (d + 48) (by show 48 ≤ d + 48; omega) [.inr (.inr (some 52)), .inl x, .inr (.inr (some 3)), .inr (.inr (some 14))] (zw_I H 0 1 (Int32.ofInt 0)) ⟨rfl, ⟨by show (0 : Int) ≤ _; omega, by show _ ≤ (700 : Int); omega⟩, rfl, rfl, trivial⟩ b0 (fun f hf => absurd hf List.not_mem_nil)
  obtain ⟨X7, q1, q2, q3, o, o1, -, o3, -⟩ := zc_xq3 (L := L) (σ := σ) zB_W zh_all (d + 48) (by show 48 ≤ d + 48; omega) [.inr (.inr (some 52)), .inl x, .inr (.inr (some 3)), .inr (.inr (some 14))] (zw_I H 0 1 (Int32.ofInt 0)) ⟨rfl, ⟨by show (0 : Int) ≤ _; omega, by show _ ≤ (700 : Int); omega⟩, rfl, rfl, trivial⟩ b0 (fun f hf => absurd hf List.not_mem_nil)
  obtain rfl := zp_Call_u c1 q1
  have e7 : (X9.2.2.1 13 7).toInt = 0 := by
    have a : 0 ≤ (X9.2.2.1 13 7).toInt ∧ (X9.2.2.1 13 7).toInt ≤ 0 := by
      rcases List.mem_cons.mp o1 with rfl | o1
      · exact o3 (13, 7, 0, 0) List.mem_cons_self
      · rcases List.mem_cons.mp o1 with rfl | o1
        · exact o3 (13, 7, 0, 0) List.mem_cons_self
        · exact absurd o1 List.not_mem_nil
    omega
  obtain ⟨X8, y1, v, H1, rfl, y2⟩ := yc_read2_13 (L := L) (σ := σ) (d := d) (T := T) (n := n) b0 hn hxn (fun k hk => (congrArg Int32.toInt (zw_ne rfl rfl)).trans (hT k hk))
  obtain rfl := zp_Call_u y1 c1
  have W1 := zB_Wd (zB_dn c2)
  have hr1 : H1.2.2.2 = H.2.2.2 := c3.1
  have e10 : H1.2.1 0 10 = H.2.1 0 10 := (zI_in c3 (p := 0) (k := 10) rfl rfl (by decide)).1.trans (zw_ne rfl rfl)
  have e3 : H1.2.1 0 3 = H.2.1 0 3 := (zI_in c3 (p := 0) (k := 3) rfl rfl (by decide)).1.trans (zw_ne rfl rfl)
  have e4 : H1.2.1 0 4 = H.2.1 0 4 := (zI_in c3 (p := 0) (k := 4) rfl rfl (by decide)).1.trans (zw_ne rfl rfl)
  refine zw_met zm_49_t rfl rfl ?_
  refine zw_ld (n := 1) (k := 1) (f := zp_isI) (pc' := 1) rfl rfl rfl rfl rfl ?_
  refine zw_blt1 (g := 12) (pc' := 4) rfl rfl rfl rfl (fun hb0 => ?_) (fun hb0 => ?_)
  · omega
  · refine zw_ld (n := 1) (k := 1) (f := zp_isI) (pc' := 5) rfl rfl rfl rfl rfl ?_
    refine zw_ld (n := 1) (k := 0) (f := zp_isR) (pc' := 6) rfl rfl rfl rfl rfl ?_
    refine zw_gI (q := 0) (pc' := 9) W rfl rfl rfl rfl rfl rfl ?_
    refine zw_ble2 (g := 22) (pc' := 12) rfl rfl rfl rfl rfl (fun hb1 => ?_) (fun hb1 => ?_)
    · refine zw_ld (n := 1) (k := 0) (f := zp_isR) (pc' := 23) rfl rfl rfl rfl rfl ?_
      refine zw_s (pc' := 24) rfl rfl ?_
      refine zw_pI (q := 0) (pc' := 27) W rfl rfl rfl rfl rfl rfl ?_
      refine zw_ld (n := 1) (k := 0) (f := zp_isR) (pc' := 28) rfl rfl rfl rfl rfl ?_
      refine zw_gR (q := 0) (pc' := 31) (zw_W_I W) rfl rfl rfl rfl ((zw_W_I W).2 0 11 _ rfl) rfl ?_
      refine zw_ld (n := 1) (k := 1) (f := zp_isI) (pc' := 32) rfl rfl rfl rfl rfl ?_
      refine zw_ld (n := 1) (k := 0) (f := zp_isR) (pc' := 33) rfl rfl rfl rfl rfl ?_
      refine zw_gR (q := 0) (pc' := 36) (zw_W_I W) rfl rfl rfl rfl g7 rfl ?_
      refine zw_ld (n := 1) (k := 0) (f := zp_isR) (pc' := 37) rfl rfl rfl rfl rfl ?_
      refine zw_gR (q := 0) (pc' := 40) (zw_W_I W) rfl rfl rfl rfl g8 rfl ?_
      refine zw_c (pc' := 43) (zw_cv (q := 51) (Y := zm_50) (zw_W_I W).1 rfl rfl zm_50_t rfl rfl) rfl rfl rfl rfl rfl (y1) ?_
      refine zw_bne1 (g := 75) (pc' := 46) rfl rfl rfl rfl (fun hv => ?_) (fun hv => ?_)
      · refine zw_ld (n := 1) (k := 0) (f := zp_isR) (pc' := 76) rfl rfl rfl rfl rfl ?_
        refine zw_cn (pc' := 79) (zw_cv (q := 0) (Y := zm_98) W1.1 rfl rfl zm_98_t rfl rfl) rfl rfl rfl rfl rfl (zsc_tn3 W1 (by rw [hr1]; exact g5) (by rw [hr1]; exact g6) (by rw [hr1]; exact g7) (by rw [hr1]; exact g8)) ?_
        refine zw_s (pc' := 80) rfl rfl ?_
        refine zw_ri rfl rfl ?_
        rcases y2 with ⟨_, q9, d9, k4, k5, k6, k7⟩ | ⟨k1, _⟩
        · refine ⟨_, _, rfl, (0, q9), k4, rfl, fun _ => ⟨?_, ?_, ?_, ⟨rfl, rfl⟩, (zw_ne (zw_ne (zw_ne rfl rfl) rfl) rfl).trans e4, fun _ => (congrArg Int32.toInt (zw_ne (zw_ne (zw_ne rfl rfl) rfl) rfl)).trans e7, d9, q9, k5, k6, ?_⟩, fun h9 => absurd rfl h9⟩
          · exact congrArg Int32.toInt (zw_ne (zw_ne zw_eq rfl) rfl)
          · exact congrArg Int32.toInt (zw_ne zw_eq rfl)
          · exact (zw_ne (zw_ne (zw_ne rfl rfl) rfl) rfl).trans e3
          · exact ⟨yDc_c (H := H1) (List.forall_mem_cons.mpr ⟨rfl, List.forall_mem_cons.mpr ⟨rfl, List.forall_mem_cons.mpr ⟨rfl, List.forall_mem_cons.mpr ⟨rfl, List.forall_mem_cons.mpr ⟨rfl, List.forall_mem_cons.mpr ⟨rfl, List.forall_mem_cons.mpr ⟨rfl, List.forall_mem_cons.mpr ⟨rfl, fun _ h => absurd h List.not_mem_nil⟩⟩⟩⟩⟩⟩⟩⟩) rfl rfl k7.1, fun i i1 i2 i3 => (yXd_o (p := 60) (k := 11) (x := Int32.ofInt 0) (by decide) (yXd_o (p := 0) (k := 10) (x := Int32.ofInt 0) (by decide) (yXd_o (p := 0) (k := 2) (x := Int32.ofInt (-1)) (by decide) k7.2))) i i1 i2 i3⟩
        · omega
      · refine zw_ld (n := 1) (k := 0) (f := zp_isR) (pc' := 47) rfl rfl rfl rfl rfl ?_
        refine zw_ld (n := 1) (k := 0) (f := zp_isR) (pc' := 48) rfl rfl rfl rfl rfl ?_
        refine zw_gR (q := 0) (pc' := 51) W1 rfl rfl rfl rfl (W1.2 0 11 _ rfl) rfl ?_
        refine zw_gI (q := 51) (pc' := 54) W1 rfl rfl rfl rfl rfl rfl ?_
        refine zw_pI (q := 0) (pc' := 57) W1 rfl rfl rfl rfl rfl rfl ?_
        refine zw_ld (n := 1) (k := 0) (f := zp_isR) (pc' := 58) rfl rfl rfl rfl rfl ?_
        refine zw_s (pc' := 59) rfl rfl ?_
        refine zw_gI (q := 0) (pc' := 62) (zw_W_I W1) rfl rfl rfl rfl (zw_ne rfl rfl) rfl ?_
        refine zw_s (pc' := 63) rfl rfl ?_
        refine zw_iadd (pc' := 64) rfl rfl ?_
        refine zw_pI (q := 0) (pc' := 67) (zw_W_I W1) rfl rfl rfl rfl rfl rfl ?_
        refine zw_ld (n := 1) (k := 0) (f := zp_isR) (pc' := 68) rfl rfl rfl rfl rfl ?_
        refine zw_gR (q := 0) (pc' := 71) (zw_W_I (zw_W_I W1)) rfl rfl rfl rfl ((zw_W_I (zw_W_I W1)).2 0 11 _ rfl) rfl ?_
        refine zw_gI (q := 51) (pc' := 74) (zw_W_I (zw_W_I W1)) rfl rfl rfl rfl (zw_ne (zw_ne rfl rfl) rfl) rfl ?_
        refine zw_ri rfl rfl ?_
        rcases y2 with ⟨k1, _⟩ | ⟨_, r, k3, k4, k5⟩
        · omega
        · refine ⟨_, _, rfl, r, k4, ?_, fun h9 => ?_, fun _ => ⟨?_, ?_, ?_, ?_, ⟨by show H1.2.2.2 0 5 = _; rw [hr1]; exact g5, by show H1.2.2.2 0 6 = _; rw [hr1]; exact g6⟩, (zw_ne (zw_ne rfl rfl) rfl).trans e4⟩⟩
          · exact k3.1
          · omega
          · exact (congrArg Int32.toInt (zw_ne zw_eq rfl)).trans k3.2
          · exact (zw_ne (zw_ne rfl rfl) rfl).trans e10
          · exact zw_eq.trans (by rw [e3])
          · exact yKp_I (yKp_I (yKp_0 (yKp_F c3 (by decide +kernel) (by decide +kernel))))
    · omega

set_option maxRecDepth 8000 in
theorem ysc_yes {L : Nat} {σ : Nat → Int32} {d c : Nat} {T : Nat → Int} {n : Nat} {H : zp_H} {x : Int32} (hc : c < 4) (hB : zk_Bs (zB_c c) zg zJc H) (hn : n ≤ 700) (hxn : x.toInt = n) (hT : ∀ k, k < n → (H.2.1 1 k).toInt = T k) (hx : 0 ≤ x.toInt ∧ x.toInt ≤ (H.2.1 0 1).toInt) : ∃ X, zp_Call L σ (d + 67) 49 [.inr (.inr (some 1)), .inl x] H X ∧ ysc_P c T n H X := by
  match c, hc, hB with
  | 0, _, hB => exact ysc_y0 hB hn hxn hT hx
  | 1, _, hB => exact ysc_y1 hB hn hxn hT hx
  | 2, _, hB => exact ysc_y2 hB hn hxn hT hx
  | 3, _, hB => exact ysc_y3 hB hn hxn hT hx
end
