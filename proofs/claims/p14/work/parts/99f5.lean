/-! ===== the class clears its waters, exactly ===== -/
def zm_2 : za_MI := (yX10_clear, prog_12_method_2_code, 1, none, 10, 0, 0, [], za_i2)
theorem zm_2_t : za_MT 2 = some zm_2 := rfl
def zm_5 : za_MI := (yJ7_fill_53178, prog_31_method_103_code, 4, none, 17, 0, 0, [], za_i5)
theorem zm_5_t : za_MT 5 = some zm_5 := rfl
set_option maxRecDepth 8000 in
theorem yc_fiL4 {L : Nat} {σ : Nat → Int32} {d : Nat} : ∀ (m : Nat) (H : zp_H) (lv : zp_LV) (x : Int32), zw_W H → (64 - x.toInt).toNat ≤ m → 0 ≤ x.toInt → (∀ k : Nat, (k : Int) < x.toInt → k < 64 → (H.2.1 4 k).toInt = -1) → zp_get lv 0 = some (.inr (.inr (some 5))) → zp_get lv 1 = some (.inl (Int32.ofInt (-1))) → zp_get lv 2 = some (.inl x) → zp_get lv 3 = some (.inl (Int32.ofNat 64)) → zs_Safe L σ (fun X => ∃ H1, X = (.inl none, H1) ∧ ∀ k, k < 64 → (H1.2.1 4 k).toInt = -1) zm_5 [] d (5, lv, [], H, (0, 0)) := by
  intro m
  induction m with
  | zero =>
    intro H lv x W hm h0 hk l0 l1 l2 l3
    refine zw_ld (n := 1) (k := 2) (f := zp_isI) (pc' := 6) rfl rfl l2 rfl rfl ?_
    refine zw_ld (n := 1) (k := 3) (f := zp_isI) (pc' := 7) rfl rfl l3 rfl rfl ?_
    refine zw_bge2 (g := 20) (pc' := 10) rfl rfl rfl rfl (rfl : _ = (64 : Int)) (fun h7 => ?_) (fun h7 => ?_)
    · refine zw_rn rfl rfl ?_
      exact ⟨H, rfl, fun k h9 => hk k (by omega) h9⟩
    · omega
  | succ m ih =>
    intro H lv x W hm h0 hk l0 l1 l2 l3
    refine zw_ld (n := 1) (k := 2) (f := zp_isI) (pc' := 6) rfl rfl l2 rfl rfl ?_
    refine zw_ld (n := 1) (k := 3) (f := zp_isI) (pc' := 7) rfl rfl l3 rfl rfl ?_
    refine zw_bge2 (g := 20) (pc' := 10) rfl rfl rfl rfl (rfl : _ = (64 : Int)) (fun h7 => ?_) (fun h7 => ?_)
    · refine zw_rn rfl rfl ?_
      exact ⟨H, rfl, fun k h9 => hk k (by omega) h9⟩
    · have e1 : (x + Int32.ofInt 1).toInt = x.toInt + 1 := zw_p1 (by omega)
      refine zw_ld (n := 1) (k := 0) (f := zp_isR) (pc' := 11) rfl rfl l0 rfl rfl ?_
      refine zw_ld (n := 1) (k := 2) (f := zp_isI) (pc' := 12) rfl rfl l2 rfl rfl ?_
      refine zw_ld (n := 1) (k := 1) (f := zp_isI) (pc' := 13) rfl rfl l1 rfl rfl ?_
      refine zw_is (q := 4) (pc' := 14) W rfl rfl (by decide) (⟨h0, by show _ < ((64 : Nat) : Int); omega⟩) rfl ?_
      refine zw_ii (pc' := 17) rfl l2 rfl rfl ?_
      refine zw_s (pc' := 5) rfl rfl ?_
      refine ih _ _ _ (zw_W_I W) (by omega) (by omega) (fun k h9 h64 => ?_) (zw_gt l0 rfl rfl) (zw_gt l1 rfl rfl) zw_g1 (zw_gt l3 rfl rfl)
      by_cases h8 : k = x.toInt.toNat
      · rw [h8]
        exact congrArg Int32.toInt zw_eq
      · rw [y_ne (fun h9 => h8 h9.2)]
        exact hk k (by omega) h64

set_option maxRecDepth 8000 in
theorem yc_fi4 {L : Nat} {σ : Nat → Int32} {d : Nat} {H : zp_H} (W : zw_W H) : ∃ X, zp_Call L σ (d + 1) 5 [.inr (.inr (some 5)), .inl (Int32.ofInt (-1))] H X ∧ ∃ H1, X = (.inl none, H1) ∧ ∀ k, k < 64 → (H1.2.1 4 k).toInt = -1 := by
  refine zw_met zm_5_t rfl rfl ?_
  refine zw_s (pc' := 1) rfl rfl ?_
  refine zw_st (n := 1) (k := 2) (f := zp_isI) (pc' := 2) rfl rfl rfl rfl rfl ?_
  refine zw_ld (n := 1) (k := 0) (f := zp_isR) (pc' := 3) rfl rfl (zw_gt rfl rfl rfl) rfl rfl ?_
  refine zw_al (q := 4) (pc' := 4) W rfl rfl rfl ?_
  refine zw_st (n := 1) (k := 3) (f := zp_isI) (pc' := 5) rfl rfl rfl rfl rfl ?_
  exact yc_fiL4 64 H _ _ W (by decide) (by decide) (fun k h9 _ => absurd h9 (by show ¬ ((k : Int) < 0); omega)) (zw_gt (zw_gt rfl rfl rfl) rfl rfl) (zw_gt (zw_gt rfl rfl rfl) rfl rfl) (zw_gt zw_g1 rfl rfl) zw_g1

set_option maxRecDepth 8000 in
theorem yc_fiL24 {L : Nat} {σ : Nat → Int32} {d : Nat} : ∀ (m : Nat) (H : zp_H) (lv : zp_LV) (x : Int32), zw_W H → (64 - x.toInt).toNat ≤ m → 0 ≤ x.toInt → (∀ k : Nat, (k : Int) < x.toInt → k < 64 → (H.2.1 24 k).toInt = -1) → zp_get lv 0 = some (.inr (.inr (some 25))) → zp_get lv 1 = some (.inl (Int32.ofInt (-1))) → zp_get lv 2 = some (.inl x) → zp_get lv 3 = some (.inl (Int32.ofNat 64)) → zs_Safe L σ (fun X => ∃ H1, X = (.inl none, H1) ∧ ∀ k, k < 64 → (H1.2.1 24 k).toInt = -1) zm_5 [] d (5, lv, [], H, (0, 0)) := by
  intro m
  induction m with
  | zero =>
    intro H lv x W hm h0 hk l0 l1 l2 l3
    refine zw_ld (n := 1) (k := 2) (f := zp_isI) (pc' := 6) rfl rfl l2 rfl rfl ?_
    refine zw_ld (n := 1) (k := 3) (f := zp_isI) (pc' := 7) rfl rfl l3 rfl rfl ?_
    refine zw_bge2 (g := 20) (pc' := 10) rfl rfl rfl rfl (rfl : _ = (64 : Int)) (fun h7 => ?_) (fun h7 => ?_)
    · refine zw_rn rfl rfl ?_
      exact ⟨H, rfl, fun k h9 => hk k (by omega) h9⟩
    · omega
  | succ m ih =>
    intro H lv x W hm h0 hk l0 l1 l2 l3
    refine zw_ld (n := 1) (k := 2) (f := zp_isI) (pc' := 6) rfl rfl l2 rfl rfl ?_
    refine zw_ld (n := 1) (k := 3) (f := zp_isI) (pc' := 7) rfl rfl l3 rfl rfl ?_
    refine zw_bge2 (g := 20) (pc' := 10) rfl rfl rfl rfl (rfl : _ = (64 : Int)) (fun h7 => ?_) (fun h7 => ?_)
    · refine zw_rn rfl rfl ?_
      exact ⟨H, rfl, fun k h9 => hk k (by omega) h9⟩
    · have e1 : (x + Int32.ofInt 1).toInt = x.toInt + 1 := zw_p1 (by omega)
      refine zw_ld (n := 1) (k := 0) (f := zp_isR) (pc' := 11) rfl rfl l0 rfl rfl ?_
      refine zw_ld (n := 1) (k := 2) (f := zp_isI) (pc' := 12) rfl rfl l2 rfl rfl ?_
      refine zw_ld (n := 1) (k := 1) (f := zp_isI) (pc' := 13) rfl rfl l1 rfl rfl ?_
      refine zw_is (q := 24) (pc' := 14) W rfl rfl (by decide) (⟨h0, by show _ < ((64 : Nat) : Int); omega⟩) rfl ?_
      refine zw_ii (pc' := 17) rfl l2 rfl rfl ?_
      refine zw_s (pc' := 5) rfl rfl ?_
      refine ih _ _ _ (zw_W_I W) (by omega) (by omega) (fun k h9 h64 => ?_) (zw_gt l0 rfl rfl) (zw_gt l1 rfl rfl) zw_g1 (zw_gt l3 rfl rfl)
      by_cases h8 : k = x.toInt.toNat
      · rw [h8]
        exact congrArg Int32.toInt zw_eq
      · rw [y_ne (fun h9 => h8 h9.2)]
        exact hk k (by omega) h64

set_option maxRecDepth 8000 in
theorem yc_fi24 {L : Nat} {σ : Nat → Int32} {d : Nat} {H : zp_H} (W : zw_W H) : ∃ X, zp_Call L σ (d + 1) 5 [.inr (.inr (some 25)), .inl (Int32.ofInt (-1))] H X ∧ ∃ H1, X = (.inl none, H1) ∧ ∀ k, k < 64 → (H1.2.1 24 k).toInt = -1 := by
  refine zw_met zm_5_t rfl rfl ?_
  refine zw_s (pc' := 1) rfl rfl ?_
  refine zw_st (n := 1) (k := 2) (f := zp_isI) (pc' := 2) rfl rfl rfl rfl rfl ?_
  refine zw_ld (n := 1) (k := 0) (f := zp_isR) (pc' := 3) rfl rfl (zw_gt rfl rfl rfl) rfl rfl ?_
  refine zw_al (q := 24) (pc' := 4) W rfl rfl rfl ?_
  refine zw_st (n := 1) (k := 3) (f := zp_isI) (pc' := 5) rfl rfl rfl rfl rfl ?_
  exact yc_fiL24 64 H _ _ W (by decide) (by decide) (fun k h9 _ => absurd h9 (by show ¬ ((k : Int) < 0); omega)) (zw_gt (zw_gt rfl rfl rfl) rfl rfl) (zw_gt (zw_gt rfl rfl rfl) rfl rfl) (zw_gt zw_g1 rfl rfl) zw_g1

def ze_y2 : zk_T := (2, [.inr (some (some 3))], [], [(2, 0), (2, 1), (2, 2), (2, 3), (2, 7), (2, 9), (2, 10), (2, 11), (2, 12), (2, 16)], [3, 4, 5], [(.inl none, [(2, 7, 0, 0), (2, 9, 0, 0), (2, 10, 2, 2), (2, 11, 5, 5), (2, 12, 0, 0), (2, 16, 0, 0)], [])], 3)
theorem zt_y2 : zk_chk zB zB_fz [ze_e104, ze_e105, ze_h1] [] 500 ze_y2 = true := by decide +kernel
theorem zc_y2 {L : Nat} {σ : Nat → Int32} : zk_Ct L σ zB zg zJc ze_y2 := zk_chk_ok zB_W (List.forall_mem_cons.mpr ⟨zc_e104 zB_W zh_all, List.forall_mem_cons.mpr ⟨zc_e105 zB_W zh_all, List.forall_mem_cons.mpr ⟨zh_all _ (List.mem_of_getElem? (i := 1) rfl), fun _ h => absurd h List.not_mem_nil⟩⟩⟩) zt_y2

set_option maxRecDepth 8000 in
theorem yc_cl2 {L : Nat} {σ : Nat → Int32} {d : Nat} {H : zp_H} (hB : zk_Bs zB zg zJc H) : ∃ X, zp_Call L σ (d + 3) 2 [.inr (.inr (some 3))] H X ∧ ∃ H1, X = (.inl none, H1) ∧ H1.2.1 2 0 = Int32.ofInt 6 ∧ H1.2.1 2 1 = Int32.ofInt 6 ∧ H1.2.2.1 2 3 = 0 ∧ (∀ k, k < 4 → H1.2.2.1 5 k = Int64.ofNat 0) ∧ ∀ k, k < 64 → (H1.2.1 4 k).toInt = -1 := by
  have W := zB_Wd (zB_dn hB)
  have s1 := zn_ss2 (L := L) (σ := σ) (d := d) (w := Int32.ofInt 6) (h := Int32.ofInt 6) hB (by decide)
  obtain ⟨X1, s2, b1, _, _⟩ := zh_all (L := L) (σ := σ) ze_h1 (List.mem_of_getElem? (i := 1) rfl) (d + 2) (by show 2 ≤ d + 2; omega) [.inr (.inr (some 3)), .inl (Int32.ofInt 6), .inl (Int32.ofInt 6)] H ⟨rfl, ⟨by decide, by decide⟩, ⟨by decide, by decide⟩, trivial⟩ hB (fun f hf => absurd hf List.not_mem_nil)
  obtain rfl := zp_Call_u s1 s2
  have a0 : (zn_ssH2 H (Int32.ofInt 6) (Int32.ofInt 6) (zq_col (Int32.ofInt 6) (Int32.ofInt 6))).2.1 2 0 = Int32.ofInt 6 := rfl
  have a1 : (zn_ssH2 H (Int32.ofInt 6) (Int32.ofInt 6) (zq_col (Int32.ofInt 6) (Int32.ofInt 6))).2.1 2 1 = Int32.ofInt 6 := rfl
  dsimp only at b1
  generalize zn_ssH2 H (Int32.ofInt 6) (Int32.ofInt 6) (zq_col (Int32.ofInt 6) (Int32.ofInt 6)) = K1 at s1 s2 b1 a0 a1
  have W1 := zB_Wd (zB_dn b1)
  have b2 : zk_Bs zB zg zJc (zw_J K1 2 3 (Int64.ofNat 0)) := zB_up (zB_putl (zB_dn b1) (zJc_J rfl b1.2.2.2.2.2.2.2)) (zB_cn (H := K1) b1)
  have a2 : (zw_J K1 2 3 (Int64.ofNat 0)).2.2.1 2 3 = 0 := rfl
  obtain ⟨⟨x3, K3⟩, c1, c2, c3, o, o1, o2⟩ := zc_e104 (L := L) (σ := σ) zB_W zh_all (d + 2) (by show 1 ≤ d + 2; omega) [.inr (.inr (some 5)), .inl (Int32.ofInt (-1))] _ ⟨rfl, ⟨by decide, by decide⟩, trivial⟩ b2 (fun f hf => absurd hf List.not_mem_nil)
  obtain rfl : x3 = .inl none := zI_v0 (outs := ze_e104.2.2.2.2.2.1) rfl ⟨o, o1, o2.1⟩
  have W3 := zB_Wd (zB_dn c2)
  obtain ⟨_, i1, K9, rfl, i2⟩ := yc_fi4 (L := L) (σ := σ) (d := d + 1) (H := zw_J K1 2 3 (Int64.ofNat 0)) W1
  have i3 := zp_Call_u i1 c1
  obtain rfl : K3 = K9 := by cases i3; rfl
  obtain ⟨X4, f1, K4, rfl, f2, f3⟩ := yc_fill5 (L := L) (σ := σ) (d := d + 1) (u := Int64.ofNat 0) W3
  obtain ⟨X5, g1, g2, g3, _⟩ := zc_e105 (L := L) (σ := σ) zB_W zh_all (d + 2) (by show 1 ≤ d + 2; omega) [.inr (.inr (some 6)), .inr (.inl (Int64.ofNat 0))] K3 ⟨rfl, trivial, trivial⟩ c2 (fun f hf => absurd hf List.not_mem_nil)
  obtain rfl := zp_Call_u f1 g1
  have W4 := zB_Wd (zB_dn g2)
  have r0 : K4.2.1 2 0 = Int32.ofInt 6 := by rw [f3, (zI_in c3 (p := 2) (k := 0) rfl rfl (by decide)).1]; exact a0
  have r1 : K4.2.1 2 1 = Int32.ofInt 6 := by rw [f3, (zI_in c3 (p := 2) (k := 1) rfl rfl (by decide)).1]; exact a1
  have r9 : ∀ k, k < 64 → (K4.2.1 4 k).toInt = -1 := fun k hk => by rw [f3]; exact i2 k hk
  have r2 : K4.2.2.1 2 3 = 0 := by rw [(zI_in g3 (p := 2) (k := 3) rfl rfl (by decide)).2, (zI_in c3 (p := 2) (k := 3) rfl rfl (by decide)).2]; exact a2
  refine zw_met zm_2_t rfl rfl ?_
  refine zw_ld (n := 1) (k := 0) (f := zp_isR) (pc' := 1) rfl rfl rfl rfl rfl ?_
  refine zw_s (pc' := 3) rfl rfl ?_
  refine zw_s (pc' := 5) rfl rfl ?_
  refine zw_cn (pc' := 8) (zw_cv (q := 2) (Y := zm_3) W.1 rfl rfl zm_3_t rfl rfl) rfl rfl rfl rfl rfl (s1) ?_
  refine zw_ld (n := 1) (k := 0) (f := zp_isR) (pc' := 9) rfl rfl rfl rfl rfl ?_
  refine zw_s (pc' := 10) rfl rfl ?_
  refine zw_pL (q := 2) (pc' := 13) W1 rfl rfl rfl rfl rfl rfl ?_
  refine zw_ld (n := 1) (k := 0) (f := zp_isR) (pc' := 14) rfl rfl rfl rfl rfl ?_
  refine zw_gR (q := 2) (pc' := 17) W1 rfl rfl rfl rfl (W1.2 2 5 _ rfl) rfl ?_
  refine zw_s (pc' := 18) rfl rfl ?_
  refine zw_cn (pc' := 21) (zw_cs (Y := zm_5) rfl rfl zm_5_t) rfl rfl rfl rfl rfl (c1) ?_
  refine zw_ld (n := 1) (k := 0) (f := zp_isR) (pc' := 22) rfl rfl rfl rfl rfl ?_
  refine zw_gR (q := 2) (pc' := 25) W3 rfl rfl rfl rfl (W3.2 2 6 _ rfl) rfl ?_
  refine zw_s (pc' := 26) rfl rfl ?_
  refine zw_cn (pc' := 29) (zw_cs (Y := zm_6) rfl rfl zm_6_t) rfl rfl rfl rfl rfl (f1) ?_
  refine zw_ld (n := 1) (k := 0) (f := zp_isR) (pc' := 30) rfl rfl rfl rfl rfl ?_
  refine zw_s (pc' := 31) rfl rfl ?_
  refine zw_pI (q := 2) (pc' := 34) W4 rfl rfl rfl rfl rfl rfl ?_
  refine zw_ld (n := 1) (k := 0) (f := zp_isR) (pc' := 35) rfl rfl rfl rfl rfl ?_
  refine zw_s (pc' := 36) rfl rfl ?_
  refine zw_pI (q := 2) (pc' := 39) W4 rfl rfl rfl rfl rfl rfl ?_
  refine zw_ld (n := 1) (k := 0) (f := zp_isR) (pc' := 40) rfl rfl rfl rfl rfl ?_
  refine zw_s (pc' := 41) rfl rfl ?_
  refine zw_pI (q := 2) (pc' := 44) W4 rfl rfl rfl rfl rfl rfl ?_
  refine zw_ld (n := 1) (k := 0) (f := zp_isR) (pc' := 45) rfl rfl rfl rfl rfl ?_
  refine zw_s (pc' := 46) rfl rfl ?_
  refine zw_pI (q := 2) (pc' := 49) W4 rfl rfl rfl rfl rfl rfl ?_
  refine zw_ld (n := 1) (k := 0) (f := zp_isR) (pc' := 50) rfl rfl rfl rfl rfl ?_
  refine zw_s (pc' := 51) rfl rfl ?_
  refine zw_pI (q := 2) (pc' := 54) W4 rfl rfl rfl rfl rfl rfl ?_
  refine zw_ld (n := 1) (k := 0) (f := zp_isR) (pc' := 55) rfl rfl rfl rfl rfl ?_
  refine zw_s (pc' := 56) rfl rfl ?_
  refine zw_pI (q := 2) (pc' := 59) W4 rfl rfl rfl rfl rfl rfl ?_
  refine zw_rn rfl rfl ?_
  exact ⟨_, rfl, (zw_ne (zw_ne (zw_ne (zw_ne (zw_ne (zw_ne r0 rfl) rfl) rfl) rfl) rfl) rfl), (zw_ne (zw_ne (zw_ne (zw_ne (zw_ne (zw_ne r1 rfl) rfl) rfl) rfl) rfl) rfl), r2, f2, fun k hk => (congrArg Int32.toInt (zw_ne (zw_ne (zw_ne (zw_ne (zw_ne (zw_ne rfl rfl) rfl) rfl) rfl) rfl) rfl)).trans (r9 k hk)⟩

set_option maxRecDepth 8000 in
theorem yc_clear2 {L : Nat} {σ : Nat → Int32} {d : Nat} {H : zp_H} (hB : zk_Bs zB zg zJc H) : ∃ H1, zp_Call L σ (d + 3) 2 [.inr (.inr (some 3))] H (.inl none, H1) ∧ zk_Bs zB zg zJc H1 ∧ zk_Fr zg [(2, 0), (2, 1), (2, 2), (2, 3), (2, 7), (2, 9), (2, 10), (2, 11), (2, 12), (2, 16)] [3, 4, 5] H H1 ∧ (H1.2.1 2 0).toInt = 6 ∧ (H1.2.1 2 1).toInt = 6 ∧ H1.2.2.1 2 3 = 0 ∧ (∀ k, k < 4 → H1.2.2.1 5 k = 0) ∧ (∀ k, k < 64 → (H1.2.1 4 k).toInt = -1) ∧ (H1.2.1 2 7).toInt = 0 ∧ (H1.2.1 2 9).toInt = 0 ∧ (H1.2.1 2 10).toInt = 2 ∧ (H1.2.1 2 11).toInt = 5 ∧ (H1.2.1 2 12).toInt = 0 ∧ (H1.2.1 2 16).toInt = 0 := by
  obtain ⟨_, c1, H1, rfl, k0, k1, k2, k3, k9⟩ := yc_cl2 (L := L) (σ := σ) (d := d) hB
  obtain ⟨X5, g1, g2, g3, o, o1, o2⟩ := zc_y2 (L := L) (σ := σ) (d + 3) (by show 3 ≤ d + 3; omega) [.inr (.inr (some 3))] H ⟨rfl, trivial⟩ hB (fun f hf => absurd hf List.not_mem_nil)
  obtain rfl := zp_Call_u c1 g1
  obtain rfl := List.mem_singleton.mp o1
  refine ⟨H1, c1, g2, g3, by rw [k0]; rfl, by rw [k1]; rfl, k2, k3, k9, ?_, ?_, ?_, ?_, ?_, ?_⟩
  · have h := o2.2.1 (2, 7, 0, 0) (List.mem_of_getElem? (i := 0) rfl)
    have h : (0 : Int) ≤ (H1.2.1 2 7).toInt ∧ (H1.2.1 2 7).toInt ≤ 0 := h
    omega
  · have h := o2.2.1 (2, 9, 0, 0) (List.mem_of_getElem? (i := 1) rfl)
    have h : (0 : Int) ≤ (H1.2.1 2 9).toInt ∧ (H1.2.1 2 9).toInt ≤ 0 := h
    omega
  · have h := o2.2.1 (2, 10, 2, 2) (List.mem_of_getElem? (i := 2) rfl)
    have h : (2 : Int) ≤ (H1.2.1 2 10).toInt ∧ (H1.2.1 2 10).toInt ≤ 2 := h
    omega
  · have h := o2.2.1 (2, 11, 5, 5) (List.mem_of_getElem? (i := 3) rfl)
    have h : (5 : Int) ≤ (H1.2.1 2 11).toInt ∧ (H1.2.1 2 11).toInt ≤ 5 := h
    omega
  · have h := o2.2.1 (2, 12, 0, 0) (List.mem_of_getElem? (i := 4) rfl)
    have h : (0 : Int) ≤ (H1.2.1 2 12).toInt ∧ (H1.2.1 2 12).toInt ≤ 0 := h
    omega
  · have h := o2.2.1 (2, 16, 0, 0) (List.mem_of_getElem? (i := 5) rfl)
    have h : (0 : Int) ≤ (H1.2.1 2 16).toInt ∧ (H1.2.1 2 16).toInt ≤ 0 := h
    omega

def ze_y22 : zk_T := (2, [.inr (some (some 23))], [], [(22, 0), (22, 1), (22, 2), (22, 3), (22, 7), (22, 9), (22, 10), (22, 11), (22, 12), (22, 16)], [23, 24, 25], [(.inl none, [(22, 7, 0, 0), (22, 9, 0, 0), (22, 10, 2, 2), (22, 11, 5, 5), (22, 12, 0, 0), (22, 16, 0, 0)], [])], 3)
theorem zt_y22 : zk_chk zB zB_fz [ze_e24, ze_e27, ze_h3] [] 500 ze_y22 = true := by decide +kernel
theorem zc_y22 {L : Nat} {σ : Nat → Int32} : zk_Ct L σ zB zg zJc ze_y22 := zk_chk_ok zB_W (List.forall_mem_cons.mpr ⟨zc_e24 zB_W zh_all, List.forall_mem_cons.mpr ⟨zc_e27 zB_W zh_all, List.forall_mem_cons.mpr ⟨zh_all _ (List.mem_of_getElem? (i := 3) rfl), fun _ h => absurd h List.not_mem_nil⟩⟩⟩) zt_y22

set_option maxRecDepth 8000 in
theorem yc_cl22 {L : Nat} {σ : Nat → Int32} {d : Nat} {H : zp_H} (hB : zk_Bs zB zg zJc H) : ∃ X, zp_Call L σ (d + 3) 2 [.inr (.inr (some 23))] H X ∧ ∃ H1, X = (.inl none, H1) ∧ H1.2.1 22 0 = Int32.ofInt 6 ∧ H1.2.1 22 1 = Int32.ofInt 6 ∧ H1.2.2.1 22 3 = 0 ∧ (∀ k, k < 4 → H1.2.2.1 25 k = Int64.ofNat 0) ∧ ∀ k, k < 64 → (H1.2.1 24 k).toInt = -1 := by
  have W := zB_Wd (zB_dn hB)
  have s1 := zn_ss22 (L := L) (σ := σ) (d := d) (w := Int32.ofInt 6) (h := Int32.ofInt 6) hB (by decide)
  obtain ⟨X1, s2, b1, _, _⟩ := zh_all (L := L) (σ := σ) ze_h3 (List.mem_of_getElem? (i := 3) rfl) (d + 2) (by show 2 ≤ d + 2; omega) [.inr (.inr (some 23)), .inl (Int32.ofInt 6), .inl (Int32.ofInt 6)] H ⟨rfl, ⟨by decide, by decide⟩, ⟨by decide, by decide⟩, trivial⟩ hB (fun f hf => absurd hf List.not_mem_nil)
  obtain rfl := zp_Call_u s1 s2
  have a0 : (zn_ssH22 H (Int32.ofInt 6) (Int32.ofInt 6) (zq_col (Int32.ofInt 6) (Int32.ofInt 6))).2.1 22 0 = Int32.ofInt 6 := rfl
  have a1 : (zn_ssH22 H (Int32.ofInt 6) (Int32.ofInt 6) (zq_col (Int32.ofInt 6) (Int32.ofInt 6))).2.1 22 1 = Int32.ofInt 6 := rfl
  dsimp only at b1
  generalize zn_ssH22 H (Int32.ofInt 6) (Int32.ofInt 6) (zq_col (Int32.ofInt 6) (Int32.ofInt 6)) = K1 at s1 s2 b1 a0 a1
  have W1 := zB_Wd (zB_dn b1)
  have b2 : zk_Bs zB zg zJc (zw_J K1 22 3 (Int64.ofNat 0)) := zB_up (zB_putl (zB_dn b1) (zJc_J rfl b1.2.2.2.2.2.2.2)) (zB_cn (H := K1) b1)
  have a2 : (zw_J K1 22 3 (Int64.ofNat 0)).2.2.1 22 3 = 0 := rfl
  obtain ⟨⟨x3, K3⟩, c1, c2, c3, o, o1, o2⟩ := zc_e24 (L := L) (σ := σ) zB_W zh_all (d + 2) (by show 1 ≤ d + 2; omega) [.inr (.inr (some 25)), .inl (Int32.ofInt (-1))] _ ⟨rfl, ⟨by decide, by decide⟩, trivial⟩ b2 (fun f hf => absurd hf List.not_mem_nil)
  obtain rfl : x3 = .inl none := zI_v0 (outs := ze_e24.2.2.2.2.2.1) rfl ⟨o, o1, o2.1⟩
  have W3 := zB_Wd (zB_dn c2)
  obtain ⟨_, i1, K9, rfl, i2⟩ := yc_fi24 (L := L) (σ := σ) (d := d + 1) (H := zw_J K1 22 3 (Int64.ofNat 0)) W1
  have i3 := zp_Call_u i1 c1
  obtain rfl : K3 = K9 := by cases i3; rfl
  obtain ⟨X4, f1, K4, rfl, f2, f3⟩ := yc_fill25 (L := L) (σ := σ) (d := d + 1) (u := Int64.ofNat 0) W3
  obtain ⟨X5, g1, g2, g3, _⟩ := zc_e27 (L := L) (σ := σ) zB_W zh_all (d + 2) (by show 1 ≤ d + 2; omega) [.inr (.inr (some 26)), .inr (.inl (Int64.ofNat 0))] K3 ⟨rfl, trivial, trivial⟩ c2 (fun f hf => absurd hf List.not_mem_nil)
  obtain rfl := zp_Call_u f1 g1
  have W4 := zB_Wd (zB_dn g2)
  have r0 : K4.2.1 22 0 = Int32.ofInt 6 := by rw [f3, (zI_in c3 (p := 22) (k := 0) rfl rfl (by decide)).1]; exact a0
  have r1 : K4.2.1 22 1 = Int32.ofInt 6 := by rw [f3, (zI_in c3 (p := 22) (k := 1) rfl rfl (by decide)).1]; exact a1
  have r9 : ∀ k, k < 64 → (K4.2.1 24 k).toInt = -1 := fun k hk => by rw [f3]; exact i2 k hk
  have r2 : K4.2.2.1 22 3 = 0 := by rw [(zI_in g3 (p := 22) (k := 3) rfl rfl (by decide)).2, (zI_in c3 (p := 22) (k := 3) rfl rfl (by decide)).2]; exact a2
  refine zw_met zm_2_t rfl rfl ?_
  refine zw_ld (n := 1) (k := 0) (f := zp_isR) (pc' := 1) rfl rfl rfl rfl rfl ?_
  refine zw_s (pc' := 3) rfl rfl ?_
  refine zw_s (pc' := 5) rfl rfl ?_
  refine zw_cn (pc' := 8) (zw_cv (q := 22) (Y := zm_3) W.1 rfl rfl zm_3_t rfl rfl) rfl rfl rfl rfl rfl (s1) ?_
  refine zw_ld (n := 1) (k := 0) (f := zp_isR) (pc' := 9) rfl rfl rfl rfl rfl ?_
  refine zw_s (pc' := 10) rfl rfl ?_
  refine zw_pL (q := 22) (pc' := 13) W1 rfl rfl rfl rfl rfl rfl ?_
  refine zw_ld (n := 1) (k := 0) (f := zp_isR) (pc' := 14) rfl rfl rfl rfl rfl ?_
  refine zw_gR (q := 22) (pc' := 17) W1 rfl rfl rfl rfl (W1.2 22 5 _ rfl) rfl ?_
  refine zw_s (pc' := 18) rfl rfl ?_
  refine zw_cn (pc' := 21) (zw_cs (Y := zm_5) rfl rfl zm_5_t) rfl rfl rfl rfl rfl (c1) ?_
  refine zw_ld (n := 1) (k := 0) (f := zp_isR) (pc' := 22) rfl rfl rfl rfl rfl ?_
  refine zw_gR (q := 22) (pc' := 25) W3 rfl rfl rfl rfl (W3.2 22 6 _ rfl) rfl ?_
  refine zw_s (pc' := 26) rfl rfl ?_
  refine zw_cn (pc' := 29) (zw_cs (Y := zm_6) rfl rfl zm_6_t) rfl rfl rfl rfl rfl (f1) ?_
  refine zw_ld (n := 1) (k := 0) (f := zp_isR) (pc' := 30) rfl rfl rfl rfl rfl ?_
  refine zw_s (pc' := 31) rfl rfl ?_
  refine zw_pI (q := 22) (pc' := 34) W4 rfl rfl rfl rfl rfl rfl ?_
  refine zw_ld (n := 1) (k := 0) (f := zp_isR) (pc' := 35) rfl rfl rfl rfl rfl ?_
  refine zw_s (pc' := 36) rfl rfl ?_
  refine zw_pI (q := 22) (pc' := 39) W4 rfl rfl rfl rfl rfl rfl ?_
  refine zw_ld (n := 1) (k := 0) (f := zp_isR) (pc' := 40) rfl rfl rfl rfl rfl ?_
  refine zw_s (pc' := 41) rfl rfl ?_
  refine zw_pI (q := 22) (pc' := 44) W4 rfl rfl rfl rfl rfl rfl ?_
  refine zw_ld (n := 1) (k := 0) (f := zp_isR) (pc' := 45) rfl rfl rfl rfl rfl ?_
  refine zw_s (pc' := 46) rfl rfl ?_
  refine zw_pI (q := 22) (pc' := 49) W4 rfl rfl rfl rfl rfl rfl ?_
  refine zw_ld (n := 1) (k := 0) (f := zp_isR) (pc' := 50) rfl rfl rfl rfl rfl ?_
  refine zw_s (pc' := 51) rfl rfl ?_
  refine zw_pI (q := 22) (pc' := 54) W4 rfl rfl rfl rfl rfl rfl ?_
  refine zw_ld (n := 1) (k := 0) (f := zp_isR) (pc' := 55) rfl rfl rfl rfl rfl ?_
  refine zw_s (pc' := 56) rfl rfl ?_
  refine zw_pI (q := 22) (pc' := 59) W4 rfl rfl rfl rfl rfl rfl ?_
  refine zw_rn rfl rfl ?_
  exact ⟨_, rfl, (zw_ne (zw_ne (zw_ne (zw_ne (zw_ne (zw_ne r0 rfl) rfl) rfl) rfl) rfl) rfl), (zw_ne (zw_ne (zw_ne (zw_ne (zw_ne (zw_ne r1 rfl) rfl) rfl) rfl) rfl) rfl), r2, f2, fun k hk => (congrArg Int32.toInt (zw_ne (zw_ne (zw_ne (zw_ne (zw_ne (zw_ne rfl rfl) rfl) rfl) rfl) rfl) rfl)).trans (r9 k hk)⟩

set_option maxRecDepth 8000 in
theorem yc_clear22 {L : Nat} {σ : Nat → Int32} {d : Nat} {H : zp_H} (hB : zk_Bs zB zg zJc H) : ∃ H1, zp_Call L σ (d + 3) 2 [.inr (.inr (some 23))] H (.inl none, H1) ∧ zk_Bs zB zg zJc H1 ∧ zk_Fr zg [(22, 0), (22, 1), (22, 2), (22, 3), (22, 7), (22, 9), (22, 10), (22, 11), (22, 12), (22, 16)] [23, 24, 25] H H1 ∧ (H1.2.1 22 0).toInt = 6 ∧ (H1.2.1 22 1).toInt = 6 ∧ H1.2.2.1 22 3 = 0 ∧ (∀ k, k < 4 → H1.2.2.1 25 k = 0) ∧ (∀ k, k < 64 → (H1.2.1 24 k).toInt = -1) ∧ (H1.2.1 22 7).toInt = 0 ∧ (H1.2.1 22 9).toInt = 0 ∧ (H1.2.1 22 10).toInt = 2 ∧ (H1.2.1 22 11).toInt = 5 ∧ (H1.2.1 22 12).toInt = 0 ∧ (H1.2.1 22 16).toInt = 0 := by
  obtain ⟨_, c1, H1, rfl, k0, k1, k2, k3, k9⟩ := yc_cl22 (L := L) (σ := σ) (d := d) hB
  obtain ⟨X5, g1, g2, g3, o, o1, o2⟩ := zc_y22 (L := L) (σ := σ) (d + 3) (by show 3 ≤ d + 3; omega) [.inr (.inr (some 23))] H ⟨rfl, trivial⟩ hB (fun f hf => absurd hf List.not_mem_nil)
  obtain rfl := zp_Call_u c1 g1
  obtain rfl := List.mem_singleton.mp o1
  refine ⟨H1, c1, g2, g3, by rw [k0]; rfl, by rw [k1]; rfl, k2, k3, k9, ?_, ?_, ?_, ?_, ?_, ?_⟩
  · have h := o2.2.1 (22, 7, 0, 0) (List.mem_of_getElem? (i := 0) rfl)
    have h : (0 : Int) ≤ (H1.2.1 22 7).toInt ∧ (H1.2.1 22 7).toInt ≤ 0 := h
    omega
  · have h := o2.2.1 (22, 9, 0, 0) (List.mem_of_getElem? (i := 1) rfl)
    have h : (0 : Int) ≤ (H1.2.1 22 9).toInt ∧ (H1.2.1 22 9).toInt ≤ 0 := h
    omega
  · have h := o2.2.1 (22, 10, 2, 2) (List.mem_of_getElem? (i := 2) rfl)
    have h : (2 : Int) ≤ (H1.2.1 22 10).toInt ∧ (H1.2.1 22 10).toInt ≤ 2 := h
    omega
  · have h := o2.2.1 (22, 11, 5, 5) (List.mem_of_getElem? (i := 3) rfl)
    have h : (5 : Int) ≤ (H1.2.1 22 11).toInt ∧ (H1.2.1 22 11).toInt ≤ 5 := h
    omega
  · have h := o2.2.1 (22, 12, 0, 0) (List.mem_of_getElem? (i := 4) rfl)
    have h : (0 : Int) ≤ (H1.2.1 22 12).toInt ∧ (H1.2.1 22 12).toInt ≤ 0 := h
    omega
  · have h := o2.2.1 (22, 16, 0, 0) (List.mem_of_getElem? (i := 5) rfl)
    have h : (0 : Int) ≤ (H1.2.1 22 16).toInt ∧ (H1.2.1 22 16).toInt ≤ 0 := h
    omega
