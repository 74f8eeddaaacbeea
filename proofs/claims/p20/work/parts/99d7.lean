/-! ===== the class reads a slate, exactly, with data ===== -/
def zm_76 : za_MI := (yX7_readSlate, prog_9_method_15_code, 9, (some FieldType.boolean), 7, 0, 0, [], za_i76)
theorem zm_76_t : za_MT 76 = some zm_76 := rfl
def zm_77 : za_MI := (yX0_addSlate, prog_2_method_3_code, 3, none, 0, 0, 0, [], za_i77)
theorem zm_77_t : za_MT 77 = some zm_77 := rfl
def zm_78 : za_MI := (yX0_putMark, prog_2_method_4_code, 4, none, 0, 0, 0, [], za_i78)
theorem zm_78_t : za_MT 78 = some zm_78 := rfl
def yc_e77_13 : zk_T := (77, [.inr (some (some 14)), .inl (0, 63), .inl (0, 99)], [(13, 0, 0, 7)], [(13, 0)], [14, 15, 16, 17], [(.inl none, [], [])], 1)
theorem yc_t77_13 : zk_chk zB zB_fz [] [] 5000 yc_e77_13 = true := by decide +kernel
def yc_e78_13 : zk_T := (78, [.inr (some (some 14)), .inl (0, 7), .inl (0, 3), .inl (1, 9)], [], [], [16, 18, 19], [(.inl none, [], [])], 1)
theorem yc_t78_13 : zk_chk zB zB_fz [] [] 5000 yc_e78_13 = true := by decide +kernel
set_option maxRecDepth 8000 in
theorem yc_adS13 {L : Nat} {σ : Nat → Int32} {d : Nat} {H : zp_H} {x y : Int32} (W : zw_W H) (h : 0 ≤ (H.2.1 13 0).toInt ∧ (H.2.1 13 0).toInt < 8) : ∃ X, zp_Call L σ (d + 1) 77 [.inr (.inr (some 14)), .inl x, .inl y] H X ∧ ∃ H1, X = (.inl none, H1) ∧ (H1.2.1 13 0).toInt = (H.2.1 13 0).toInt + 1 ∧ H1 = zw_I (zw_I (zw_I (zw_I (zw_I H 14 (H.2.1 13 0).toInt.toNat x) 15 (H.2.1 13 0).toInt.toNat y) 16 (H.2.1 13 0).toInt.toNat (Int32.ofInt 0)) 17 (H.2.1 13 0).toInt.toNat (Int32.ofInt 0)) 13 0 (H.2.1 13 0 + Int32.ofInt 1) := by
  have e1 : (H.2.1 13 0 + Int32.ofInt 1).toInt = (H.2.1 13 0).toInt + 1 := zw_p1 (by omega)
  refine zw_met zm_77_t rfl rfl ?_
  refine zw_ld (n := 1) (k := 0) (f := zp_isR) (pc' := 1) rfl rfl rfl rfl rfl ?_
  refine zw_gI (q := 13) (pc' := 4) W rfl rfl rfl rfl rfl rfl ?_
  refine zw_s (pc' := 6) rfl rfl ?_
  refine zw_bge2 (g := 59) (pc' := 9) rfl rfl rfl rfl (rfl : _ = (8 : Int)) (fun h1 => ?_) (fun h1 => ?_)
  · omega
  · refine zw_ld (n := 1) (k := 0) (f := zp_isR) (pc' := 10) rfl rfl rfl rfl rfl ?_
    refine zw_gR (q := 13) (pc' := 13) W rfl rfl rfl rfl (W.2 13 1 _ rfl) rfl ?_
    refine zw_ld (n := 1) (k := 0) (f := zp_isR) (pc' := 14) rfl rfl rfl rfl rfl ?_
    refine zw_gI (q := 13) (pc' := 17) W rfl rfl rfl rfl rfl rfl ?_
    refine zw_ld (n := 1) (k := 1) (f := zp_isI) (pc' := 18) rfl rfl rfl rfl rfl ?_
    refine zw_is (q := 14) (pc' := 19) W rfl rfl (by decide) (⟨h.1, by show _ < ((8 : Nat) : Int); omega⟩) rfl ?_
    refine zw_ld (n := 1) (k := 0) (f := zp_isR) (pc' := 20) rfl rfl rfl rfl rfl ?_
    refine zw_gR (q := 13) (pc' := 23) W rfl rfl rfl rfl (W.2 13 2 _ rfl) rfl ?_
    refine zw_ld (n := 1) (k := 0) (f := zp_isR) (pc' := 24) rfl rfl rfl rfl rfl ?_
    refine zw_gI (q := 13) (pc' := 27) W rfl rfl rfl rfl (zw_ne rfl rfl) rfl ?_
    refine zw_ld (n := 1) (k := 2) (f := zp_isI) (pc' := 28) rfl rfl rfl rfl rfl ?_
    refine zw_is (q := 15) (pc' := 29) W rfl rfl (by decide) (⟨h.1, by show _ < ((8 : Nat) : Int); omega⟩) rfl ?_
    refine zw_ld (n := 1) (k := 0) (f := zp_isR) (pc' := 30) rfl rfl rfl rfl rfl ?_
    refine zw_gR (q := 13) (pc' := 33) W rfl rfl rfl rfl (W.2 13 3 _ rfl) rfl ?_
    refine zw_ld (n := 1) (k := 0) (f := zp_isR) (pc' := 34) rfl rfl rfl rfl rfl ?_
    refine zw_gI (q := 13) (pc' := 37) W rfl rfl rfl rfl (zw_ne (zw_ne rfl rfl) rfl) rfl ?_
    refine zw_s (pc' := 38) rfl rfl ?_
    refine zw_is (q := 16) (pc' := 39) W rfl rfl (by decide) (⟨h.1, by show _ < ((8 : Nat) : Int); omega⟩) rfl ?_
    refine zw_ld (n := 1) (k := 0) (f := zp_isR) (pc' := 40) rfl rfl rfl rfl rfl ?_
    refine zw_gR (q := 13) (pc' := 43) W rfl rfl rfl rfl (W.2 13 4 _ rfl) rfl ?_
    refine zw_ld (n := 1) (k := 0) (f := zp_isR) (pc' := 44) rfl rfl rfl rfl rfl ?_
    refine zw_gI (q := 13) (pc' := 47) W rfl rfl rfl rfl (zw_ne (zw_ne (zw_ne rfl rfl) rfl) rfl) rfl ?_
    refine zw_s (pc' := 48) rfl rfl ?_
    refine zw_is (q := 17) (pc' := 49) W rfl rfl (by decide) (⟨h.1, by show _ < ((8 : Nat) : Int); omega⟩) rfl ?_
    refine zw_ld (n := 1) (k := 0) (f := zp_isR) (pc' := 50) rfl rfl rfl rfl rfl ?_
    refine zw_s (pc' := 51) rfl rfl ?_
    refine zw_gI (q := 13) (pc' := 54) W rfl rfl rfl rfl (zw_ne (zw_ne (zw_ne (zw_ne rfl rfl) rfl) rfl) rfl) rfl ?_
    refine zw_s (pc' := 55) rfl rfl ?_
    refine zw_iadd (pc' := 56) rfl rfl ?_
    refine zw_pI (q := 13) (pc' := 59) W rfl rfl rfl rfl rfl rfl ?_
    refine zw_rn rfl rfl ?_
    exact ⟨_, rfl, (congrArg Int32.toInt zw_eq).trans e1, rfl⟩

set_option maxRecDepth 8000 in
theorem yc_pmX13 {L : Nat} {σ : Nat → Int32} {d : Nat} {H : zp_H} {s x y : Int32} {a : Nat} (W : zw_W H) (hs : 0 ≤ s.toInt ∧ s.toInt ≤ 7) (ha : (H.2.1 16 s.toInt.toNat).toInt = a) (h8 : a < 8) : zp_Call L σ (d + 1) 78 [.inr (.inr (some 14)), .inl s, .inl x, .inl y] H (.inl none, zw_I (zw_I (zw_I H 18 (s * Int32.ofInt 8 + H.2.1 16 s.toInt.toNat).toInt.toNat x) 19 (s * Int32.ofInt 8 + H.2.1 16 s.toInt.toNat).toInt.toNat y) 16 s.toInt.toNat (H.2.1 16 s.toInt.toNat + Int32.ofInt 1)) := by
  have em : (s * Int32.ofInt 8).toInt = s.toInt * 8 := zq_mul rfl (by omega) (by omega)
  have ej : (s * Int32.ofInt 8 + H.2.1 16 s.toInt.toNat).toInt = s.toInt * 8 + a := by
    rw [zq_add (by rw [em]; omega) (by rw [em]; omega), em, ha]
  refine zw_ex (zw_met zm_78_t rfl rfl ?_)
  refine zw_ld (n := 1) (k := 0) (f := zp_isR) (pc' := 1) rfl rfl rfl rfl rfl ?_
  refine zw_gR (q := 13) (pc' := 4) W rfl rfl rfl rfl (W.2 13 3 _ rfl) rfl ?_
  refine zw_ld (n := 1) (k := 1) (f := zp_isI) (pc' := 5) rfl rfl rfl rfl rfl ?_
  refine zw_ia (q := 16) (pc' := 6) W rfl rfl (by decide) (⟨hs.1, by show _ < ((8 : Nat) : Int); omega⟩) rfl rfl ?_
  refine zw_s (pc' := 8) rfl rfl ?_
  refine zw_bge2 (g := 55) (pc' := 11) rfl rfl rfl rfl (rfl : _ = (8 : Int)) (fun h1 => ?_) (fun h1 => ?_)
  · omega
  · refine zw_ld (n := 1) (k := 0) (f := zp_isR) (pc' := 12) rfl rfl rfl rfl rfl ?_
    refine zw_gR (q := 13) (pc' := 15) W rfl rfl rfl rfl (W.2 13 5 _ rfl) rfl ?_
    refine zw_ld (n := 1) (k := 1) (f := zp_isI) (pc' := 16) rfl rfl rfl rfl rfl ?_
    refine zw_s (pc' := 18) rfl rfl ?_
    refine zw_imul (pc' := 19) rfl rfl ?_
    refine zw_ld (n := 1) (k := 0) (f := zp_isR) (pc' := 20) rfl rfl rfl rfl rfl ?_
    refine zw_gR (q := 13) (pc' := 23) W rfl rfl rfl rfl (W.2 13 3 _ rfl) rfl ?_
    refine zw_ld (n := 1) (k := 1) (f := zp_isI) (pc' := 24) rfl rfl rfl rfl rfl ?_
    refine zw_ia (q := 16) (pc' := 25) W rfl rfl (by decide) (⟨hs.1, by show _ < ((8 : Nat) : Int); omega⟩) rfl rfl ?_
    refine zw_iadd (pc' := 26) rfl rfl ?_
    refine zw_ld (n := 1) (k := 2) (f := zp_isI) (pc' := 27) rfl rfl rfl rfl rfl ?_
    refine zw_is (q := 18) (pc' := 28) W rfl rfl (by decide) (⟨by rw [ej]; omega, by rw [ej]; show _ < ((64 : Nat) : Int); omega⟩) rfl ?_
    refine zw_ld (n := 1) (k := 0) (f := zp_isR) (pc' := 29) rfl rfl rfl rfl rfl ?_
    refine zw_gR (q := 13) (pc' := 32) W rfl rfl rfl rfl (W.2 13 6 _ rfl) rfl ?_
    refine zw_ld (n := 1) (k := 1) (f := zp_isI) (pc' := 33) rfl rfl rfl rfl rfl ?_
    refine zw_s (pc' := 35) rfl rfl ?_
    refine zw_imul (pc' := 36) rfl rfl ?_
    refine zw_ld (n := 1) (k := 0) (f := zp_isR) (pc' := 37) rfl rfl rfl rfl rfl ?_
    refine zw_gR (q := 13) (pc' := 40) W rfl rfl rfl rfl (W.2 13 3 _ rfl) rfl ?_
    refine zw_ld (n := 1) (k := 1) (f := zp_isI) (pc' := 41) rfl rfl rfl rfl rfl ?_
    refine zw_ia (q := 16) (pc' := 42) W rfl rfl (by decide) (⟨hs.1, by show _ < ((8 : Nat) : Int); omega⟩) (zw_ne rfl rfl) rfl ?_
    refine zw_iadd (pc' := 43) rfl rfl ?_
    refine zw_ld (n := 1) (k := 3) (f := zp_isI) (pc' := 44) rfl rfl rfl rfl rfl ?_
    refine zw_is (q := 19) (pc' := 45) W rfl rfl (by decide) (⟨by rw [ej]; omega, by rw [ej]; show _ < ((64 : Nat) : Int); omega⟩) rfl ?_
    refine zw_ld (n := 1) (k := 0) (f := zp_isR) (pc' := 46) rfl rfl rfl rfl rfl ?_
    refine zw_gR (q := 13) (pc' := 49) W rfl rfl rfl rfl (W.2 13 3 _ rfl) rfl ?_
    refine zw_ld (n := 1) (k := 1) (f := zp_isI) (pc' := 50) rfl rfl rfl rfl rfl ?_
    refine zw_s (pc' := 51) rfl rfl ?_
    refine zw_ia (q := 16) (pc' := 52) W rfl rfl (by decide) (⟨hs.1, by show _ < ((8 : Nat) : Int); omega⟩) (zw_ne (zw_ne rfl rfl) rfl) rfl ?_
    refine zw_s (pc' := 53) rfl rfl ?_
    refine zw_iadd (pc' := 54) rfl rfl ?_
    refine zw_is (q := 16) (pc' := 55) W rfl rfl (by decide) (⟨hs.1, by show _ < ((8 : Nat) : Int); omega⟩) rfl ?_
    refine zw_rn rfl rfl ?_
    rfl

set_option maxRecDepth 8000 in
theorem yc_ads13 {L : Nat} {σ : Nat → Int32} {d : Nat} {T : Nat → Int} {n p : Nat} {H : zp_H} {x y : Int32} (hE : yE T n p H) (h : 0 ≤ (H.2.1 13 0).toInt ∧ (H.2.1 13 0).toInt < 8) (hx : 0 ≤ x.toInt ∧ x.toInt ≤ 63) (hy : 0 ≤ y.toInt ∧ y.toInt ≤ 99) : ∃ H1, zp_Call L σ (d + 1) 77 [.inr (.inr (some 14)), .inl x, .inl y] H (.inl none, H1) ∧ yE T n p H1 ∧ zk_Fr zg [(13, 0)] [14, 15, 16, 17] H H1 ∧ (H1.2.1 13 0).toInt = (H.2.1 13 0).toInt + 1 ∧ H1 = zw_I (zw_I (zw_I (zw_I (zw_I H 14 (H.2.1 13 0).toInt.toNat x) 15 (H.2.1 13 0).toInt.toNat y) 16 (H.2.1 13 0).toInt.toNat (Int32.ofInt 0)) 17 (H.2.1 13 0).toInt.toNat (Int32.ofInt 0)) 13 0 (H.2.1 13 0 + Int32.ofInt 1) := by
  have hct : zk_Ct L σ zB zg zJc yc_e77_13 := zk_chk_ok zB_W (fun _ h => absurd h List.not_mem_nil) yc_t77_13
  obtain ⟨X, c1, c2, c3, _⟩ := hct 1 (Nat.le_refl _) [.inr (.inr (some 14)), .inl x, .inl y] H ⟨rfl, hx, hy, trivial⟩ (yE_B hE) (fun f hf => by
    rcases List.mem_cons.mp hf with rfl | hf
    · exact ⟨h.1, by show _ ≤ (7 : Int); exact Int.le_of_lt_add_one h.2⟩
    · exact absurd hf List.not_mem_nil)
  obtain ⟨_, d1, H1, rfl, d2, d3⟩ := yc_adS13 (L := L) (σ := σ) (d := d) (x := x) (y := y) (zB_Wd hE.1.1) h
  have e := zp_Call_u c1 d1
  rw [e] at c2 c3
  exact ⟨H1, d1, yE_c hE (zB_dn c2) (zx_ae c3 52 (fun k => rfl) rfl rfl) (zx_ae c3 1 (fun k => rfl) rfl rfl), c3, d2, d3⟩
theorem yc_pm13 {L : Nat} {σ : Nat → Int32} {d : Nat} {T : Nat → Int} {n p : Nat} {H : zp_H} {s x y : Int32} (hE : yE T n p H) (hs : 0 ≤ s.toInt ∧ s.toInt ≤ 7) (hx : 0 ≤ x.toInt ∧ x.toInt ≤ 3) (hy : 1 ≤ y.toInt ∧ y.toInt ≤ 9) : ∃ H1, zp_Call L σ (d + 1) 78 [.inr (.inr (some 14)), .inl s, .inl x, .inl y] H (.inl none, H1) ∧ yE T n p H1 ∧ zk_Fr zg [] [16, 18, 19] H H1 := by
  have hct : zk_Ct L σ zB zg zJc yc_e78_13 := zk_chk_ok zB_W (fun _ h => absurd h List.not_mem_nil) yc_t78_13
  obtain ⟨⟨x1, H1⟩, c1, c2, c3, o, o1, o2, _⟩ := hct (d + 1) (Nat.le_add_left 1 d) [.inr (.inr (some 14)), .inl s, .inl x, .inl y] H ⟨rfl, hs, hx, hy, trivial⟩ (yE_B hE) (fun f hf => absurd hf List.not_mem_nil)
  rcases List.mem_cons.mp o1 with rfl | o1
  · obtain rfl : x1 = .inl none := zk_rv_n o2
    exact ⟨H1, c1, yE_c hE (zB_dn c2) (zx_ae c3 52 (fun k => rfl) rfl rfl) (zx_ae c3 1 (fun k => rfl) rfl rfl), c3⟩
  · exact absurd o1 List.not_mem_nil

def yc_e77_33 : zk_T := (77, [.inr (some (some 34)), .inl (0, 63), .inl (0, 99)], [(33, 0, 0, 7)], [(33, 0)], [34, 35, 36, 37], [(.inl none, [], [])], 1)
theorem yc_t77_33 : zk_chk zB zB_fz [] [] 5000 yc_e77_33 = true := by decide +kernel
def yc_e78_33 : zk_T := (78, [.inr (some (some 34)), .inl (0, 7), .inl (0, 3), .inl (1, 9)], [], [], [36, 38, 39], [(.inl none, [], [])], 1)
theorem yc_t78_33 : zk_chk zB zB_fz [] [] 5000 yc_e78_33 = true := by decide +kernel
set_option maxRecDepth 8000 in
theorem yc_adS33 {L : Nat} {σ : Nat → Int32} {d : Nat} {H : zp_H} {x y : Int32} (W : zw_W H) (h : 0 ≤ (H.2.1 33 0).toInt ∧ (H.2.1 33 0).toInt < 8) : ∃ X, zp_Call L σ (d + 1) 77 [.inr (.inr (some 34)), .inl x, .inl y] H X ∧ ∃ H1, X = (.inl none, H1) ∧ (H1.2.1 33 0).toInt = (H.2.1 33 0).toInt + 1 ∧ H1 = zw_I (zw_I (zw_I (zw_I (zw_I H 34 (H.2.1 33 0).toInt.toNat x) 35 (H.2.1 33 0).toInt.toNat y) 36 (H.2.1 33 0).toInt.toNat (Int32.ofInt 0)) 37 (H.2.1 33 0).toInt.toNat (Int32.ofInt 0)) 33 0 (H.2.1 33 0 + Int32.ofInt 1) := by
  have e1 : (H.2.1 33 0 + Int32.ofInt 1).toInt = (H.2.1 33 0).toInt + 1 := zw_p1 (by omega)
  refine zw_met zm_77_t rfl rfl ?_
  refine zw_ld (n := 1) (k := 0) (f := zp_isR) (pc' := 1) rfl rfl rfl rfl rfl ?_
  refine zw_gI (q := 33) (pc' := 4) W rfl rfl rfl rfl rfl rfl ?_
  refine zw_s (pc' := 6) rfl rfl ?_
  refine zw_bge2 (g := 59) (pc' := 9) rfl rfl rfl rfl (rfl : _ = (8 : Int)) (fun h1 => ?_) (fun h1 => ?_)
  · omega
  · refine zw_ld (n := 1) (k := 0) (f := zp_isR) (pc' := 10) rfl rfl rfl rfl rfl ?_
    refine zw_gR (q := 33) (pc' := 13) W rfl rfl rfl rfl (W.2 33 1 _ rfl) rfl ?_
    refine zw_ld (n := 1) (k := 0) (f := zp_isR) (pc' := 14) rfl rfl rfl rfl rfl ?_
    refine zw_gI (q := 33) (pc' := 17) W rfl rfl rfl rfl rfl rfl ?_
    refine zw_ld (n := 1) (k := 1) (f := zp_isI) (pc' := 18) rfl rfl rfl rfl rfl ?_
    refine zw_is (q := 34) (pc' := 19) W rfl rfl (by decide) (⟨h.1, by show _ < ((8 : Nat) : Int); omega⟩) rfl ?_
    refine zw_ld (n := 1) (k := 0) (f := zp_isR) (pc' := 20) rfl rfl rfl rfl rfl ?_
    refine zw_gR (q := 33) (pc' := 23) W rfl rfl rfl rfl (W.2 33 2 _ rfl) rfl ?_
    refine zw_ld (n := 1) (k := 0) (f := zp_isR) (pc' := 24) rfl rfl rfl rfl rfl ?_
    refine zw_gI (q := 33) (pc' := 27) W rfl rfl rfl rfl (zw_ne rfl rfl) rfl ?_
    refine zw_ld (n := 1) (k := 2) (f := zp_isI) (pc' := 28) rfl rfl rfl rfl rfl ?_
    refine zw_is (q := 35) (pc' := 29) W rfl rfl (by decide) (⟨h.1, by show _ < ((8 : Nat) : Int); omega⟩) rfl ?_
    refine zw_ld (n := 1) (k := 0) (f := zp_isR) (pc' := 30) rfl rfl rfl rfl rfl ?_
    refine zw_gR (q := 33) (pc' := 33) W rfl rfl rfl rfl (W.2 33 3 _ rfl) rfl ?_
    refine zw_ld (n := 1) (k := 0) (f := zp_isR) (pc' := 34) rfl rfl rfl rfl rfl ?_
    refine zw_gI (q := 33) (pc' := 37) W rfl rfl rfl rfl (zw_ne (zw_ne rfl rfl) rfl) rfl ?_
    refine zw_s (pc' := 38) rfl rfl ?_
    refine zw_is (q := 36) (pc' := 39) W rfl rfl (by decide) (⟨h.1, by show _ < ((8 : Nat) : Int); omega⟩) rfl ?_
    refine zw_ld (n := 1) (k := 0) (f := zp_isR) (pc' := 40) rfl rfl rfl rfl rfl ?_
    refine zw_gR (q := 33) (pc' := 43) W rfl rfl rfl rfl (W.2 33 4 _ rfl) rfl ?_
    refine zw_ld (n := 1) (k := 0) (f := zp_isR) (pc' := 44) rfl rfl rfl rfl rfl ?_
    refine zw_gI (q := 33) (pc' := 47) W rfl rfl rfl rfl (zw_ne (zw_ne (zw_ne rfl rfl) rfl) rfl) rfl ?_
    refine zw_s (pc' := 48) rfl rfl ?_
    refine zw_is (q := 37) (pc' := 49) W rfl rfl (by decide) (⟨h.1, by show _ < ((8 : Nat) : Int); omega⟩) rfl ?_
    refine zw_ld (n := 1) (k := 0) (f := zp_isR) (pc' := 50) rfl rfl rfl rfl rfl ?_
    refine zw_s (pc' := 51) rfl rfl ?_
    refine zw_gI (q := 33) (pc' := 54) W rfl rfl rfl rfl (zw_ne (zw_ne (zw_ne (zw_ne rfl rfl) rfl) rfl) rfl) rfl ?_
    refine zw_s (pc' := 55) rfl rfl ?_
    refine zw_iadd (pc' := 56) rfl rfl ?_
    refine zw_pI (q := 33) (pc' := 59) W rfl rfl rfl rfl rfl rfl ?_
    refine zw_rn rfl rfl ?_
    exact ⟨_, rfl, (congrArg Int32.toInt zw_eq).trans e1, rfl⟩

set_option maxRecDepth 8000 in
theorem yc_pmX33 {L : Nat} {σ : Nat → Int32} {d : Nat} {H : zp_H} {s x y : Int32} {a : Nat} (W : zw_W H) (hs : 0 ≤ s.toInt ∧ s.toInt ≤ 7) (ha : (H.2.1 36 s.toInt.toNat).toInt = a) (h8 : a < 8) : zp_Call L σ (d + 1) 78 [.inr (.inr (some 34)), .inl s, .inl x, .inl y] H (.inl none, zw_I (zw_I (zw_I H 38 (s * Int32.ofInt 8 + H.2.1 36 s.toInt.toNat).toInt.toNat x) 39 (s * Int32.ofInt 8 + H.2.1 36 s.toInt.toNat).toInt.toNat y) 36 s.toInt.toNat (H.2.1 36 s.toInt.toNat + Int32.ofInt 1)) := by
  have em : (s * Int32.ofInt 8).toInt = s.toInt * 8 := zq_mul rfl (by omega) (by omega)
  have ej : (s * Int32.ofInt 8 + H.2.1 36 s.toInt.toNat).toInt = s.toInt * 8 + a := by
    rw [zq_add (by rw [em]; omega) (by rw [em]; omega), em, ha]
  refine zw_ex (zw_met zm_78_t rfl rfl ?_)
  refine zw_ld (n := 1) (k := 0) (f := zp_isR) (pc' := 1) rfl rfl rfl rfl rfl ?_
  refine zw_gR (q := 33) (pc' := 4) W rfl rfl rfl rfl (W.2 33 3 _ rfl) rfl ?_
  refine zw_ld (n := 1) (k := 1) (f := zp_isI) (pc' := 5) rfl rfl rfl rfl rfl ?_
  refine zw_ia (q := 36) (pc' := 6) W rfl rfl (by decide) (⟨hs.1, by show _ < ((8 : Nat) : Int); omega⟩) rfl rfl ?_
  refine zw_s (pc' := 8) rfl rfl ?_
  refine zw_bge2 (g := 55) (pc' := 11) rfl rfl rfl rfl (rfl : _ = (8 : Int)) (fun h1 => ?_) (fun h1 => ?_)
  · omega
  · refine zw_ld (n := 1) (k := 0) (f := zp_isR) (pc' := 12) rfl rfl rfl rfl rfl ?_
    refine zw_gR (q := 33) (pc' := 15) W rfl rfl rfl rfl (W.2 33 5 _ rfl) rfl ?_
    refine zw_ld (n := 1) (k := 1) (f := zp_isI) (pc' := 16) rfl rfl rfl rfl rfl ?_
    refine zw_s (pc' := 18) rfl rfl ?_
    refine zw_imul (pc' := 19) rfl rfl ?_
    refine zw_ld (n := 1) (k := 0) (f := zp_isR) (pc' := 20) rfl rfl rfl rfl rfl ?_
    refine zw_gR (q := 33) (pc' := 23) W rfl rfl rfl rfl (W.2 33 3 _ rfl) rfl ?_
    refine zw_ld (n := 1) (k := 1) (f := zp_isI) (pc' := 24) rfl rfl rfl rfl rfl ?_
    refine zw_ia (q := 36) (pc' := 25) W rfl rfl (by decide) (⟨hs.1, by show _ < ((8 : Nat) : Int); omega⟩) rfl rfl ?_
    refine zw_iadd (pc' := 26) rfl rfl ?_
    refine zw_ld (n := 1) (k := 2) (f := zp_isI) (pc' := 27) rfl rfl rfl rfl rfl ?_
    refine zw_is (q := 38) (pc' := 28) W rfl rfl (by decide) (⟨by rw [ej]; omega, by rw [ej]; show _ < ((64 : Nat) : Int); omega⟩) rfl ?_
    refine zw_ld (n := 1) (k := 0) (f := zp_isR) (pc' := 29) rfl rfl rfl rfl rfl ?_
    refine zw_gR (q := 33) (pc' := 32) W rfl rfl rfl rfl (W.2 33 6 _ rfl) rfl ?_
    refine zw_ld (n := 1) (k := 1) (f := zp_isI) (pc' := 33) rfl rfl rfl rfl rfl ?_
    refine zw_s (pc' := 35) rfl rfl ?_
    refine zw_imul (pc' := 36) rfl rfl ?_
    refine zw_ld (n := 1) (k := 0) (f := zp_isR) (pc' := 37) rfl rfl rfl rfl rfl ?_
    refine zw_gR (q := 33) (pc' := 40) W rfl rfl rfl rfl (W.2 33 3 _ rfl) rfl ?_
    refine zw_ld (n := 1) (k := 1) (f := zp_isI) (pc' := 41) rfl rfl rfl rfl rfl ?_
    refine zw_ia (q := 36) (pc' := 42) W rfl rfl (by decide) (⟨hs.1, by show _ < ((8 : Nat) : Int); omega⟩) (zw_ne rfl rfl) rfl ?_
    refine zw_iadd (pc' := 43) rfl rfl ?_
    refine zw_ld (n := 1) (k := 3) (f := zp_isI) (pc' := 44) rfl rfl rfl rfl rfl ?_
    refine zw_is (q := 39) (pc' := 45) W rfl rfl (by decide) (⟨by rw [ej]; omega, by rw [ej]; show _ < ((64 : Nat) : Int); omega⟩) rfl ?_
    refine zw_ld (n := 1) (k := 0) (f := zp_isR) (pc' := 46) rfl rfl rfl rfl rfl ?_
    refine zw_gR (q := 33) (pc' := 49) W rfl rfl rfl rfl (W.2 33 3 _ rfl) rfl ?_
    refine zw_ld (n := 1) (k := 1) (f := zp_isI) (pc' := 50) rfl rfl rfl rfl rfl ?_
    refine zw_s (pc' := 51) rfl rfl ?_
    refine zw_ia (q := 36) (pc' := 52) W rfl rfl (by decide) (⟨hs.1, by show _ < ((8 : Nat) : Int); omega⟩) (zw_ne (zw_ne rfl rfl) rfl) rfl ?_
    refine zw_s (pc' := 53) rfl rfl ?_
    refine zw_iadd (pc' := 54) rfl rfl ?_
    refine zw_is (q := 36) (pc' := 55) W rfl rfl (by decide) (⟨hs.1, by show _ < ((8 : Nat) : Int); omega⟩) rfl ?_
    refine zw_rn rfl rfl ?_
    rfl

set_option maxRecDepth 8000 in
theorem yc_ads33 {L : Nat} {σ : Nat → Int32} {d : Nat} {T : Nat → Int} {n p : Nat} {H : zp_H} {x y : Int32} (hE : yE T n p H) (h : 0 ≤ (H.2.1 33 0).toInt ∧ (H.2.1 33 0).toInt < 8) (hx : 0 ≤ x.toInt ∧ x.toInt ≤ 63) (hy : 0 ≤ y.toInt ∧ y.toInt ≤ 99) : ∃ H1, zp_Call L σ (d + 1) 77 [.inr (.inr (some 34)), .inl x, .inl y] H (.inl none, H1) ∧ yE T n p H1 ∧ zk_Fr zg [(33, 0)] [34, 35, 36, 37] H H1 ∧ (H1.2.1 33 0).toInt = (H.2.1 33 0).toInt + 1 ∧ H1 = zw_I (zw_I (zw_I (zw_I (zw_I H 34 (H.2.1 33 0).toInt.toNat x) 35 (H.2.1 33 0).toInt.toNat y) 36 (H.2.1 33 0).toInt.toNat (Int32.ofInt 0)) 37 (H.2.1 33 0).toInt.toNat (Int32.ofInt 0)) 33 0 (H.2.1 33 0 + Int32.ofInt 1) := by
  have hct : zk_Ct L σ zB zg zJc yc_e77_33 := zk_chk_ok zB_W (fun _ h => absurd h List.not_mem_nil) yc_t77_33
  obtain ⟨X, c1, c2, c3, _⟩ := hct 1 (Nat.le_refl _) [.inr (.inr (some 34)), .inl x, .inl y] H ⟨rfl, hx, hy, trivial⟩ (yE_B hE) (fun f hf => by
    rcases List.mem_cons.mp hf with rfl | hf
    · exact ⟨h.1, by show _ ≤ (7 : Int); exact Int.le_of_lt_add_one h.2⟩
    · exact absurd hf List.not_mem_nil)
  obtain ⟨_, d1, H1, rfl, d2, d3⟩ := yc_adS33 (L := L) (σ := σ) (d := d) (x := x) (y := y) (zB_Wd hE.1.1) h
  have e := zp_Call_u c1 d1
  rw [e] at c2 c3
  exact ⟨H1, d1, yE_c hE (zB_dn c2) (zx_ae c3 52 (fun k => rfl) rfl rfl) (zx_ae c3 1 (fun k => rfl) rfl rfl), c3, d2, d3⟩
theorem yc_pm33 {L : Nat} {σ : Nat → Int32} {d : Nat} {T : Nat → Int} {n p : Nat} {H : zp_H} {s x y : Int32} (hE : yE T n p H) (hs : 0 ≤ s.toInt ∧ s.toInt ≤ 7) (hx : 0 ≤ x.toInt ∧ x.toInt ≤ 3) (hy : 1 ≤ y.toInt ∧ y.toInt ≤ 9) : ∃ H1, zp_Call L σ (d + 1) 78 [.inr (.inr (some 34)), .inl s, .inl x, .inl y] H (.inl none, H1) ∧ yE T n p H1 ∧ zk_Fr zg [] [36, 38, 39] H H1 := by
  have hct : zk_Ct L σ zB zg zJc yc_e78_33 := zk_chk_ok zB_W (fun _ h => absurd h List.not_mem_nil) yc_t78_33
  obtain ⟨⟨x1, H1⟩, c1, c2, c3, o, o1, o2, _⟩ := hct (d + 1) (Nat.le_add_left 1 d) [.inr (.inr (some 34)), .inl s, .inl x, .inl y] H ⟨rfl, hs, hx, hy, trivial⟩ (yE_B hE) (fun f hf => absurd hf List.not_mem_nil)
  rcases List.mem_cons.mp o1 with rfl | o1
  · obtain rfl : x1 = .inl none := zk_rv_n o2
    exact ⟨H1, c1, yE_c hE (zB_dn c2) (zx_ae c3 52 (fun k => rfl) rfl rfl) (zx_ae c3 1 (fun k => rfl) rfl rfl), c3⟩
  · exact absurd o1 List.not_mem_nil

set_option maxRecDepth 8000 in
theorem yc_slL2_13 {L : Nat} {σ : Nat → Int32} {dd : Nat} {T : Nat → Int} {n : Nat} {s0 : yL} {sl : Int32} (hs : 0 ≤ sl.toInt ∧ sl.toInt ≤ 7) : ∀ (m : Nat) (H : zp_H) (lv9 : zp_LV) (i : Int32) (q a : Nat) (d : yLD), 9 - a ≤ m → zp_get lv9 0 = some (.inr (.inr (some 52))) → zp_get lv9 1 = some (.inr (.inr (some 3))) → zp_get lv9 2 = some (.inr (.inr (some 14))) → zp_get lv9 5 = some (.inl sl) → zp_get lv9 6 = some (.inl i) → i.toInt = a → a ≤ 8 → sl.toInt = d.1 4 → (d.1 (220 + (d.1 4).toNat) = (a : Int) ∧ d.2.2 (1000 + (220 + (d.1 4).toNat)) = true) → yE T n q H → yDc 2 13 (yU d.1 4 (d.1 4 + 1), d.2) H → yXd (yLc 2 13) [] d H → yR2 T n s0 (11, [], 0, (a : Int), 0, d, q) → s0.2.2.2.2.2.2 ≤ q → zs_Safe L σ (yRL T n 2 13 s0) zm_76 [] (dd + 4) (49, lv9, [], H, (0, 0)) := by
  intro m
  induction m with
  | zero =>
    intro H lv9 i q a d hm l0 l1 l2 l5 l6 hi ha hsd hq h hD hX hR hsq
    have hwc : yWC 2 13 := ⟨by decide, by decide⟩
    have W := zB_Wd h.1.1
    refine zw_ld (n := 2) (k := 6) (f := zp_isI) (pc' := 51) rfl rfl l6 rfl rfl ?_
    refine zw_s (pc' := 53) rfl rfl ?_
    refine zw_bgt2 (g := 118) (pc' := 56) rfl rfl rfl rfl (rfl : _ = (8 : Int)) (fun h7 => ?_) (fun h7 => ?_)
    · omega
    · omega
  | succ m ih =>
    intro H lv9 i q a d hm l0 l1 l2 l5 l6 hi ha hsd hq h hD hX hR hsq
    have hwc : yWC 2 13 := ⟨by decide, by decide⟩
    have W := zB_Wd h.1.1
    refine zw_ld (n := 2) (k := 6) (f := zp_isI) (pc' := 51) rfl rfl l6 rfl rfl ?_
    refine zw_s (pc' := 53) rfl rfl ?_
    refine zw_bgt2 (g := 118) (pc' := 56) rfl rfl rfl rfl (rfl : _ = (8 : Int)) (fun h7 => ?_) (fun h7 => ?_)
    · omega
    · refine zw_ld (n := 1) (k := 0) (f := zp_isR) (pc' := 57) rfl rfl l0 rfl rfl ?_
      refine zw_gR (q := 51) (pc' := 60) W rfl rfl rfl rfl (W.2 51 0 _ rfl) rfl ?_
      by_cases hw : ys_kd T n q = 3 ∧ ys_vl T n q < 4
      · refine zw_c (pc' := 63) (zw_cv (q := 52) (Y := zm_74) W.1 rfl rfl zm_74_t rfl rfl) rfl rfl rfl rfl rfl (yc_wy1 (d := dd + 3) h hw) ?_
        refine zw_beq1 (g := 118) (pc' := 66) rfl rfl rfl (rfl : _ = (1 : Int)) (fun h9 => absurd h9 (by decide)) (fun h9 => ?_)
        refine zw_ld (n := 2) (k := 6) (f := zp_isI) (pc' := 68) rfl rfl l6 rfl rfl ?_
        refine zw_s (pc' := 70) rfl rfl ?_
        refine zw_bne2 (g := 79) (pc' := 73) rfl rfl rfl rfl (rfl : _ = (8 : Int)) (fun h8 => ?_) (fun h8 => ?_)
        · have hR1 := yR2_t hR (yR2_s (yN2_11.trans ((if_pos hw).trans (if_neg (show ¬ (a : Int) = 8 by omega)))))
          have hvb := ys_vl_b hw.1
          obtain ⟨_, c1, v, H1, rfl, c2, c3⟩ := yc_way (L := L) (σ := σ) (d := dd) h
          rcases c3 with ⟨k1, _, k3⟩ | ⟨_, k2, _⟩
          rotate_left
          · exact absurd hw k2
          have W1 := zB_Wd k3.1.1
          have hD1 : yDc 2 13 (yU d.1 4 (d.1 4 + 1), d.2) H1 := yDc_F c2 rfl hD
          have hX1 := yXd_F hwc c2 rfl hX
          obtain ⟨_, d1, v2, H2, rfl, d2, d3⟩ := yc_num (L := L) (σ := σ) (d := dd) (x := Int32.ofInt 1) (y := Int32.ofInt 9) (lo := 1) (hi := 9) rfl rfl k3
          refine zw_ld (n := 1) (k := 0) (f := zp_isR) (pc' := 80) rfl rfl l0 rfl rfl ?_
          refine zw_c (pc' := 83) (zw_cv (q := 51) (Y := zm_73) W.1 rfl rfl zm_73_t rfl rfl) rfl rfl rfl rfl rfl (c1) ?_
          refine zw_st (n := 2) (k := 7) (f := zp_isI) (pc' := 85) rfl rfl rfl rfl rfl ?_
          refine zw_ld (n := 1) (k := 0) (f := zp_isR) (pc' := 86) rfl rfl (zw_gt l0 rfl rfl) rfl rfl ?_
          refine zw_s (pc' := 87) rfl rfl ?_
          refine zw_s (pc' := 89) rfl rfl ?_
          refine zw_c (pc' := 92) (zw_cv (q := 51) (Y := zm_65) W1.1 rfl rfl zm_65_t rfl rfl) rfl rfl rfl rfl rfl (d1) ?_
          refine zw_st (n := 2) (k := 8) (f := zp_isI) (pc' := 94) rfl rfl rfl rfl rfl ?_
          refine zw_ld (n := 2) (k := 8) (f := zp_isI) (pc' := 96) rfl rfl zw_g1 rfl rfl ?_
          refine zw_s (pc' := 97) rfl rfl ?_
          refine zw_bne2 (g := 102) (pc' := 100) rfl rfl rfl rfl (rfl : _ = (-1 : Int)) (fun h6 => ?_) (fun h6 => ?_)
          · rcases d3 with ⟨m1, m2, m3, m4, m5, m6, m7⟩ | ⟨m1, _⟩
            rotate_left
            · omega
            have W2 := zB_Wd m7.1.1
            have hD2 : yDc 2 13 (yU d.1 4 (d.1 4 + 1), d.2) H2 := yDc_F d2 rfl hD1
            have hX2 := yXd_F hwc d2 rfl hX1
            obtain ⟨K, p1, p2, p3⟩ := yc_pm13 (L := L) (σ := σ) (d := dd + 3) (s := sl) (x := v) (y := v2) m7 hs ⟨by omega, by omega⟩ ⟨by omega, by omega⟩
            have hD3 : yDc 2 13 (yU d.1 4 (d.1 4 + 1), d.2) K := yDc_F p3 rfl hD2
            have hst : sl.toInt.toNat = (d.1 4).toNat := by omega
            have hma : (H2.2.1 16 sl.toInt.toNat).toInt = a := by
              have h9 := hX2 (220 + (d.1 4).toNat) (by omega) hq.2 List.not_mem_nil
              rw [yL_220 (by omega), hq.1] at h9
              rw [hst]
              exact h9
            have p4 := zp_Call_u p1 (yc_pmX13 (L := L) (σ := σ) (d := dd + 3) (s := sl) (x := v) (y := v2) (a := a) W2 hs hma (by omega))
            have em : (sl * Int32.ofInt 8).toInt = sl.toInt * 8 := zq_mul rfl (by omega) (by omega)
            have ej : (sl * Int32.ofInt 8 + H2.2.1 16 sl.toInt.toNat).toInt = sl.toInt * 8 + a := by
              rw [zq_add (by rw [em]; omega) (by rw [em]; omega), em, hma]
            have e1 : (H2.2.1 16 sl.toInt.toNat + Int32.ofInt 1).toInt = (a : Int) + 1 := by rw [zw_p1 (by omega), hma]
            have hXK : yXd (yLc 2 13) [] (yWmk d (a : Int) (ys_vl T n q) (ys_vl T n (ys_nx T n q))) K := by
              cases p4
              refine yXd_wD (yLc_inj hwc) (by omega) ?_ e1 (yXd_wD (yLc_inj hwc) (by omega) ?_ m1 (yXd_wD (yLc_inj hwc) (by omega) ?_ k1 hX2))
              · rw [yL_220 (by omega), hst]
              · rw [yL_400 (by omega), ej]
                exact congrArg (Prod.mk _) (by omega)
              · rw [yL_300 (by omega), ej]
                exact congrArg (Prod.mk _) (by omega)
            have hD4 := yDc_W4 (i := 220 + (d.1 4).toNat) (v := (a : Int) + 1) (by omega) (yDc_W4 (i := 400 + (8 * (d.1 4).toNat + (a : Int).toNat)) (v := ys_vl T n (ys_nx T n q)) (by omega) (yDc_W4 (i := 300 + (8 * (d.1 4).toNat + (a : Int).toNat)) (v := ys_vl T n q) (by omega) hD3))
            have e4 : (yWmk d (a : Int) (ys_vl T n q) (ys_vl T n (ys_nx T n q))).1 4 = d.1 4 := (yW_n (by omega)).trans ((yW_n (by omega)).trans (yW_n (by omega)))
            have hq4 : (yWmk d (a : Int) (ys_vl T n q) (ys_vl T n (ys_nx T n q))).1 (220 + (d.1 4).toNat) = ((a + 1 : Nat) : Int) := yW_e
            have hq5 : (yWmk d (a : Int) (ys_vl T n q) (ys_vl T n (ys_nx T n q))).2.2 (1000 + (220 + (d.1 4).toNat)) = true := yW_fe
            have ei : (i + Int32.ofInt 1).toInt = i.toInt + 1 := zw_p1 (by omega)
            refine zw_ld (n := 1) (k := 2) (f := zp_isR) (pc' := 103) rfl rfl (zw_gt (zw_gt l2 rfl rfl) rfl rfl) rfl rfl ?_
            refine zw_ld (n := 2) (k := 5) (f := zp_isI) (pc' := 105) rfl rfl (zw_gt (zw_gt l5 rfl rfl) rfl rfl) rfl rfl ?_
            refine zw_ld (n := 2) (k := 7) (f := zp_isI) (pc' := 107) rfl rfl (zw_gt zw_g1 rfl rfl) rfl rfl ?_
            refine zw_ld (n := 2) (k := 8) (f := zp_isI) (pc' := 109) rfl rfl zw_g1 rfl rfl ?_
            refine zw_cn (pc' := 112) (zw_cv (q := 13) (Y := zm_78) W2.1 rfl rfl zm_78_t rfl rfl) rfl rfl rfl rfl rfl (p1) ?_
            refine zw_ii (pc' := 115) rfl (zw_gt (zw_gt l6 rfl rfl) rfl rfl) rfl rfl ?_
            refine zw_s (pc' := 49) rfl rfl ?_
            refine ih K _ _ _ (a + 1) (yWmk d (a : Int) (ys_vl T n q) (ys_vl T n (ys_nx T n q))) (by omega) (zw_gt (zw_gt (zw_gt l0 rfl rfl) rfl rfl) rfl rfl) (zw_gt (zw_gt (zw_gt l1 rfl rfl) rfl rfl) rfl rfl) (zw_gt (zw_gt (zw_gt l2 rfl rfl) rfl rfl) rfl rfl) (zw_gt (zw_gt (zw_gt l5 rfl rfl) rfl rfl) rfl rfl) zw_g1 (by omega) (by omega) (by rw [e4]; exact hsd) (by rw [e4]; exact ⟨hq4, hq5⟩) p2 hD4 hXK ?_ (Nat.le_trans hsq (ys_le2 h.2.2))
            exact yR2_t hR1 (yR2_s (yN2_12.trans (m6 _)))
          · refine zw_s (pc' := 101) rfl rfl ?_
            refine zw_rz rfl rfl (by decide) ?_
            rcases d3 with ⟨m1, m2, m3, m4, _⟩ | ⟨_, k, m1, m2, m3, m4, m5⟩
            · omega
            · exact yRL_0 m5 m3 (yR2_a hR1 (yA2_done (yN2_12.trans (m4 _)))) ⟨m1, m2⟩
        · refine zw_ld (n := 1) (k := 0) (f := zp_isR) (pc' := 74) rfl rfl l0 rfl rfl ?_
          refine zw_s (pc' := 75) rfl rfl ?_
          obtain ⟨K, c1, c2, c3, c4⟩ := yc_ref (L := L) (σ := σ) (d := dd + 3) (x := Int32.ofInt 2) h
          refine zw_c (pc' := 78) (zw_cv (q := 51) (Y := zm_62) W.1 rfl rfl zm_62_t rfl rfl) rfl rfl rfl rfl rfl (c1) ?_
          refine zw_rz rfl rfl (by decide) ?_
          exact yRL_0 c2 c4 (yR2_a hR (yA2_done (yN2_11.trans ((if_pos hw).trans (if_pos (by omega)))))) (show 1 ≤ (2 : Int) ∧ (2 : Int) ≤ 5 from by decide)
      · refine zw_c (pc' := 63) (zw_cv (q := 52) (Y := zm_74) W.1 rfl rfl zm_74_t rfl rfl) rfl rfl rfl rfl rfl (yc_wy0 (d := dd + 3) h hw) ?_
        refine zw_beq1 (g := 118) (pc' := 66) rfl rfl rfl (rfl : _ = (0 : Int)) (fun h9 => ?_) (fun h9 => absurd h9 (by decide))
        refine zw_s (pc' := 119) rfl rfl ?_
        refine zw_rz rfl rfl (by decide) ?_
        exact yRL_1 h ⟨hD, yXd_k (by decide) hX⟩ (yR2_t hR (yR2_s (yN2_11.trans (if_neg hw)))) hsq

set_option maxRecDepth 8000 in
theorem yc_slate2_13 {L : Nat} {σ : Nat → Int32} {dd : Nat} {T : Nat → Int} {n p : Nat} {d : yLD} {H : zp_H} (h8 : d.1 4 < 8) (h : yE T n p H) (hDd : yDd 2 13 d H) : ∃ X, zp_Call L σ (dd + 5) 76 [.inr (.inr (some 52)), .inr (.inr (some 3)), .inr (.inr (some 14))] H X ∧ yRL T n 2 13 (8, [], 0, 0, 0, d, p) X := by
  obtain ⟨hD, hX⟩ := hDd
  have hwc : yWC 2 13 := ⟨by decide, by decide⟩
  have W := zB_Wd h.1.1
  obtain ⟨_, c1, v, H1, rfl, c2, c3⟩ := yc_cell2 (L := L) (σ := σ) (d := dd) (taken := Int64.ofNat 0) hD.1 hD.2.1 h
  refine zw_met zm_76_t rfl rfl ?_
  refine zw_ld (n := 1) (k := 0) (f := zp_isR) (pc' := 1) rfl rfl rfl rfl rfl ?_
  refine zw_ld (n := 1) (k := 1) (f := zp_isR) (pc' := 2) rfl rfl rfl rfl rfl ?_
  refine zw_s (pc' := 3) rfl rfl ?_
  refine zw_c (pc' := 6) (zw_cv (q := 51) (Y := zm_70) W.1 rfl rfl zm_70_t rfl rfl) rfl rfl rfl rfl rfl (c1) ?_
  refine zw_st (n := 1) (k := 3) (f := zp_isI) (pc' := 7) rfl rfl rfl rfl rfl ?_
  refine zw_ld (n := 1) (k := 3) (f := zp_isI) (pc' := 8) rfl rfl zw_g1 rfl rfl ?_
  refine zw_s (pc' := 9) rfl rfl ?_
  refine zw_bne2 (g := 16) (pc' := 12) rfl rfl rfl rfl (rfl : _ = (-1 : Int)) (fun h1 => ?_) (fun h1 => ?_)
  · rcases c3 with ⟨k1, k2, k3, k4, k5, k6⟩ | ⟨k1, _⟩
    rotate_left
    · omega
    have W1 := zB_Wd k6.1.1
    have hD1 : yDc 2 13 d H1 := yDc_F c2 rfl hD
    have hX1 := yXd_F hwc c2 rfl hX
    obtain ⟨_, d1, v2, H2, rfl, d2, d3⟩ := yc_num (L := L) (σ := σ) (d := dd) (x := Int32.ofInt 0) (y := Int32.ofInt 99) (lo := 0) (hi := 99) rfl rfl k6
    refine zw_ld (n := 1) (k := 0) (f := zp_isR) (pc' := 17) rfl rfl (zw_gt rfl rfl rfl) rfl rfl ?_
    refine zw_s (pc' := 18) rfl rfl ?_
    refine zw_s (pc' := 20) rfl rfl ?_
    refine zw_c (pc' := 23) (zw_cv (q := 51) (Y := zm_65) W1.1 rfl rfl zm_65_t rfl rfl) rfl rfl rfl rfl rfl (d1) ?_
    refine zw_st (n := 2) (k := 4) (f := zp_isI) (pc' := 25) rfl rfl rfl rfl rfl ?_
    refine zw_ld (n := 2) (k := 4) (f := zp_isI) (pc' := 27) rfl rfl zw_g1 rfl rfl ?_
    refine zw_s (pc' := 28) rfl rfl ?_
    refine zw_bne2 (g := 33) (pc' := 31) rfl rfl rfl rfl (rfl : _ = (-1 : Int)) (fun h2 => ?_) (fun h2 => ?_)
    · rcases d3 with ⟨m1, m2, m3, m4, m5, m6, m7⟩ | ⟨m1, _⟩
      rotate_left
      · omega
      have W2 := zB_Wd m7.1.1
      have hD2 : yDc 2 13 d H2 := yDc_F d2 rfl hD1
      have hX2 := yXd_F hwc d2 rfl hX1
      have hsl : (H2.2.1 13 0).toInt = d.1 4 := hD2.2.2.1
      have rs := zB_fr1 m7.1.1 (p := 13) (k := 0) (r := (0, 8)) rfl
      have rs : 0 ≤ (H2.2.1 13 0).toInt ∧ (H2.2.1 13 0).toInt ≤ 8 := rs
      obtain ⟨K, p1, p2, p3, p4, p5⟩ := yc_ads13 (L := L) (σ := σ) (d := dd + 3) (x := v) (y := v2) m7 ⟨by omega, by omega⟩ k4 ⟨by omega, by omega⟩
      have WK := zB_Wd p2.1.1
      have hD3 : yDc 2 13 (yU d.1 4 (d.1 4 + 1), d.2) K := by
        obtain ⟨g1, g2, g3, g4, g5, g6, g7, g8, g9, g10⟩ := hD2
        have e2 : K.2.1 2 = H2.2.1 2 := zx_ae p3 2 (fun k => rfl) rfl rfl
        have e51 : K.2.1 51 = H2.2.1 51 := zx_ae p3 51 (fun k => rfl) rfl rfl
        refine ⟨?_, ?_, ?_, ?_, ?_, ?_, ?_, ?_, ?_, ?_⟩
        · rw [e2]; exact g1
        · rw [e2]; exact g2
        · rw [p4, g3]; rfl
        · rw [e2]; exact g4
        · rw [e2]; exact g5
        · rw [e2]; exact g6
        · rw [e51]; exact g7
        · rw [e51]; exact g8
        · rw [(p3.2 2 3 rfl rfl).2]; exact g9
        · refine ⟨?_, g10.2⟩
          have hc : yCur 2 K = yCur 2 H2 := by
            unfold yCur
            rw [(p3.2 (2 + 3) 0 rfl rfl).2, (p3.2 (2 + 3) 1 rfl rfl).2, (p3.2 (2 + 3) 2 rfl rfl).2, (p3.2 (2 + 3) 3 rfl rfl).2]
          intro c hlt
          rw [hc]
          exact g10.1 c hlt
      have hXK : yXd (yLc 2 13) [] (yWsl d (d.1 1 * ys_vl T n (ys_nx T n p) + ys_vl T n p) (ys_vl T n (ys_nx T n (ys_nx T n p)))) K := by
        rw [p5]
        refine yXd_o (by decide) (yXd_wD (yLc_inj hwc) (by omega) ?_ rfl (yXd_wD (yLc_inj hwc) (by omega) ?_ rfl (yXd_wD (yLc_inj hwc) (by omega) ?_ m1 (yXd_wD (yLc_inj hwc) (by omega) ?_ k1 hX2))))
        · rw [yL_230 (by omega), hsl]
        · rw [yL_220 (by omega), hsl]
        · rw [yL_210 (by omega), hsl]
        · rw [yL_200 (by omega), hsl]
      have hD4 := yDc_W4 (i := 230 + (d.1 4).toNat) (v := 0) (by omega) (yDc_W4 (i := 220 + (d.1 4).toNat) (v := 0) (by omega) (yDc_W4 (i := 210 + (d.1 4).toNat) (v := ys_vl T n (ys_nx T n (ys_nx T n p))) (by omega) (yDc_W4 (i := 200 + (d.1 4).toNat) (v := d.1 1 * ys_vl T n (ys_nx T n p) + ys_vl T n p) (by omega) hD3)))
      have e4 : (yWsl d (d.1 1 * ys_vl T n (ys_nx T n p) + ys_vl T n p) (ys_vl T n (ys_nx T n (ys_nx T n p)))).1 4 = d.1 4 := (yW_n (by omega)).trans ((yW_n (by omega)).trans ((yW_n (by omega)).trans (yW_n (by omega))))
      have hq4 : (yWsl d (d.1 1 * ys_vl T n (ys_nx T n p) + ys_vl T n p) (ys_vl T n (ys_nx T n (ys_nx T n p)))).1 (220 + (d.1 4).toNat) = ((0 : Nat) : Int) := (yW_n (by omega)).trans yW_e
      have hq5 : (yWsl d (d.1 1 * ys_vl T n (ys_nx T n p) + ys_vl T n p) (ys_vl T n (ys_nx T n (ys_nx T n p)))).2.2 (1000 + (220 + (d.1 4).toNat)) = true := (yW_fn (by omega)).trans yW_fe
      refine zw_ld (n := 1) (k := 2) (f := zp_isR) (pc' := 34) rfl rfl (zw_gt (zw_gt rfl rfl rfl) rfl rfl) rfl rfl ?_
      refine zw_gI (q := 13) (pc' := 37) W2 rfl rfl rfl rfl rfl rfl ?_
      refine zw_st (n := 2) (k := 5) (f := zp_isI) (pc' := 39) rfl rfl rfl rfl rfl ?_
      refine zw_ld (n := 1) (k := 2) (f := zp_isR) (pc' := 40) rfl rfl (zw_gt (zw_gt (zw_gt rfl rfl rfl) rfl rfl) rfl rfl) rfl rfl ?_
      refine zw_ld (n := 1) (k := 3) (f := zp_isI) (pc' := 41) rfl rfl (zw_gt (zw_gt zw_g1 rfl rfl) rfl rfl) rfl rfl ?_
      refine zw_ld (n := 2) (k := 4) (f := zp_isI) (pc' := 43) rfl rfl (zw_gt zw_g1 rfl rfl) rfl rfl ?_
      refine zw_cn (pc' := 46) (zw_cv (q := 13) (Y := zm_77) W2.1 rfl rfl zm_77_t rfl rfl) rfl rfl rfl rfl rfl (p1) ?_
      refine zw_s (pc' := 47) rfl rfl ?_
      refine zw_st (n := 2) (k := 6) (f := zp_isI) (pc' := 49) rfl rfl rfl rfl rfl ?_
      exact yc_slL2_13 ⟨by omega, by omega⟩ _ K _ _ _ 0 (yWsl d (d.1 1 * ys_vl T n (ys_nx T n p) + ys_vl T n p) (ys_vl T n (ys_nx T n (ys_nx T n p)))) (Nat.le_refl _) (zw_gt (zw_gt (zw_gt (zw_gt rfl rfl rfl) rfl rfl) rfl rfl) rfl rfl) (zw_gt (zw_gt (zw_gt (zw_gt rfl rfl rfl) rfl rfl) rfl rfl) rfl rfl) (zw_gt (zw_gt (zw_gt (zw_gt rfl rfl rfl) rfl rfl) rfl rfl) rfl rfl) (zw_gt zw_g1 rfl rfl) zw_g1 rfl (by decide) (by rw [e4]; exact hsl) (by rw [e4]; exact ⟨hq4, hq5⟩) p2 hD4 hXK (yR2_t (yR2_s (yN2_8.trans (k2 _))) (yR2_t (yR2_s (yN2_9.trans (k3 _))) (yR2_s (yN2_10.trans (m6 _))))) (ys_le3 h.2.2)
    · refine zw_s (pc' := 32) rfl rfl ?_
      refine zw_rz rfl rfl (by decide) ?_
      rcases d3 with ⟨m1, m2, m3, m4, _⟩ | ⟨_, k, m1, m2, m3, m4, m5⟩
      · omega
      · exact yRL_0 m5 m3 (yA2_step (yN2_8.trans (k2 _)) (yA2_step (yN2_9.trans (k3 _)) (yA2_done (yN2_10.trans (m4 _))))) ⟨m1, m2⟩
  · refine zw_s (pc' := 13) rfl rfl ?_
    refine zw_s (pc' := 23) rfl rfl ?_
    refine zw_st (n := 2) (k := 4) (f := zp_isI) (pc' := 25) rfl rfl rfl rfl rfl ?_
    refine zw_ld (n := 2) (k := 4) (f := zp_isI) (pc' := 27) rfl rfl zw_g1 rfl rfl ?_
    refine zw_s (pc' := 28) rfl rfl ?_
    refine zw_bne2 (g := 33) (pc' := 31) rfl rfl rfl (rfl : _ = (-1 : Int)) (rfl : _ = (-1 : Int)) (fun h9 => absurd h9 (by decide)) (fun h2 => ?_)
    refine zw_s (pc' := 32) rfl rfl ?_
    refine zw_rz rfl rfl (by decide) ?_
    rcases c3 with ⟨_, _, _, k4, _⟩ | ⟨_, k, q, k1, k2, k3, k5, k6⟩
    · omega
    · refine yRL_0 k5 k3 ?_ ⟨k1, k2⟩
      rcases k6 with ⟨rfl, m1⟩ | ⟨rfl, m1, m2⟩ | ⟨_, rfl, m1, m2, m3⟩
      · exact yA2_done (yN2_8.trans (m1 _))
      · exact yA2_step (yN2_8.trans (m1 _)) (yA2_done (yN2_9.trans (m2 _)))
      · exact absurd Int64.zero_and m3

set_option maxRecDepth 8000 in
theorem yc_slL2_33 {L : Nat} {σ : Nat → Int32} {dd : Nat} {T : Nat → Int} {n : Nat} {s0 : yL} {sl : Int32} (hs : 0 ≤ sl.toInt ∧ sl.toInt ≤ 7) : ∀ (m : Nat) (H : zp_H) (lv9 : zp_LV) (i : Int32) (q a : Nat) (d : yLD), 9 - a ≤ m → zp_get lv9 0 = some (.inr (.inr (some 52))) → zp_get lv9 1 = some (.inr (.inr (some 3))) → zp_get lv9 2 = some (.inr (.inr (some 34))) → zp_get lv9 5 = some (.inl sl) → zp_get lv9 6 = some (.inl i) → i.toInt = a → a ≤ 8 → sl.toInt = d.1 4 → (d.1 (220 + (d.1 4).toNat) = (a : Int) ∧ d.2.2 (1000 + (220 + (d.1 4).toNat)) = true) → yE T n q H → yDc 2 33 (yU d.1 4 (d.1 4 + 1), d.2) H → yXd (yLc 2 33) [] d H → yR2 T n s0 (11, [], 0, (a : Int), 0, d, q) → s0.2.2.2.2.2.2 ≤ q → zs_Safe L σ (yRL T n 2 33 s0) zm_76 [] (dd + 4) (49, lv9, [], H, (0, 0)) := by
  intro m
  induction m with
  | zero =>
    intro H lv9 i q a d hm l0 l1 l2 l5 l6 hi ha hsd hq h hD hX hR hsq
    have hwc : yWC 2 33 := ⟨by decide, by decide⟩
    have W := zB_Wd h.1.1
    refine zw_ld (n := 2) (k := 6) (f := zp_isI) (pc' := 51) rfl rfl l6 rfl rfl ?_
    refine zw_s (pc' := 53) rfl rfl ?_
    refine zw_bgt2 (g := 118) (pc' := 56) rfl rfl rfl rfl (rfl : _ = (8 : Int)) (fun h7 => ?_) (fun h7 => ?_)
    · omega
    · omega
  | succ m ih =>
    intro H lv9 i q a d hm l0 l1 l2 l5 l6 hi ha hsd hq h hD hX hR hsq
    have hwc : yWC 2 33 := ⟨by decide, by decide⟩
    have W := zB_Wd h.1.1
    refine zw_ld (n := 2) (k := 6) (f := zp_isI) (pc' := 51) rfl rfl l6 rfl rfl ?_
    refine zw_s (pc' := 53) rfl rfl ?_
    refine zw_bgt2 (g := 118) (pc' := 56) rfl rfl rfl rfl (rfl : _ = (8 : Int)) (fun h7 => ?_) (fun h7 => ?_)
    · omega
    · refine zw_ld (n := 1) (k := 0) (f := zp_isR) (pc' := 57) rfl rfl l0 rfl rfl ?_
      refine zw_gR (q := 51) (pc' := 60) W rfl rfl rfl rfl (W.2 51 0 _ rfl) rfl ?_
      by_cases hw : ys_kd T n q = 3 ∧ ys_vl T n q < 4
      · refine zw_c (pc' := 63) (zw_cv (q := 52) (Y := zm_74) W.1 rfl rfl zm_74_t rfl rfl) rfl rfl rfl rfl rfl (yc_wy1 (d := dd + 3) h hw) ?_
        refine zw_beq1 (g := 118) (pc' := 66) rfl rfl rfl (rfl : _ = (1 : Int)) (fun h9 => absurd h9 (by decide)) (fun h9 => ?_)
        refine zw_ld (n := 2) (k := 6) (f := zp_isI) (pc' := 68) rfl rfl l6 rfl rfl ?_
        refine zw_s (pc' := 70) rfl rfl ?_
        refine zw_bne2 (g := 79) (pc' := 73) rfl rfl rfl rfl (rfl : _ = (8 : Int)) (fun h8 => ?_) (fun h8 => ?_)
        · have hR1 := yR2_t hR (yR2_s (yN2_11.trans ((if_pos hw).trans (if_neg (show ¬ (a : Int) = 8 by omega)))))
          have hvb := ys_vl_b hw.1
          obtain ⟨_, c1, v, H1, rfl, c2, c3⟩ := yc_way (L := L) (σ := σ) (d := dd) h
          rcases c3 with ⟨k1, _, k3⟩ | ⟨_, k2, _⟩
          rotate_left
          · exact absurd hw k2
          have W1 := zB_Wd k3.1.1
          have hD1 : yDc 2 33 (yU d.1 4 (d.1 4 + 1), d.2) H1 := yDc_F c2 rfl hD
          have hX1 := yXd_F hwc c2 rfl hX
          obtain ⟨_, d1, v2, H2, rfl, d2, d3⟩ := yc_num (L := L) (σ := σ) (d := dd) (x := Int32.ofInt 1) (y := Int32.ofInt 9) (lo := 1) (hi := 9) rfl rfl k3
          refine zw_ld (n := 1) (k := 0) (f := zp_isR) (pc' := 80) rfl rfl l0 rfl rfl ?_
          refine zw_c (pc' := 83) (zw_cv (q := 51) (Y := zm_73) W.1 rfl rfl zm_73_t rfl rfl) rfl rfl rfl rfl rfl (c1) ?_
          refine zw_st (n := 2) (k := 7) (f := zp_isI) (pc' := 85) rfl rfl rfl rfl rfl ?_
          refine zw_ld (n := 1) (k := 0) (f := zp_isR) (pc' := 86) rfl rfl (zw_gt l0 rfl rfl) rfl rfl ?_
          refine zw_s (pc' := 87) rfl rfl ?_
          refine zw_s (pc' := 89) rfl rfl ?_
          refine zw_c (pc' := 92) (zw_cv (q := 51) (Y := zm_65) W1.1 rfl rfl zm_65_t rfl rfl) rfl rfl rfl rfl rfl (d1) ?_
          refine zw_st (n := 2) (k := 8) (f := zp_isI) (pc' := 94) rfl rfl rfl rfl rfl ?_
          refine zw_ld (n := 2) (k := 8) (f := zp_isI) (pc' := 96) rfl rfl zw_g1 rfl rfl ?_
          refine zw_s (pc' := 97) rfl rfl ?_
          refine zw_bne2 (g := 102) (pc' := 100) rfl rfl rfl rfl (rfl : _ = (-1 : Int)) (fun h6 => ?_) (fun h6 => ?_)
          · rcases d3 with ⟨m1, m2, m3, m4, m5, m6, m7⟩ | ⟨m1, _⟩
            rotate_left
            · omega
            have W2 := zB_Wd m7.1.1
            have hD2 : yDc 2 33 (yU d.1 4 (d.1 4 + 1), d.2) H2 := yDc_F d2 rfl hD1
            have hX2 := yXd_F hwc d2 rfl hX1
            obtain ⟨K, p1, p2, p3⟩ := yc_pm33 (L := L) (σ := σ) (d := dd + 3) (s := sl) (x := v) (y := v2) m7 hs ⟨by omega, by omega⟩ ⟨by omega, by omega⟩
            have hD3 : yDc 2 33 (yU d.1 4 (d.1 4 + 1), d.2) K := yDc_F p3 rfl hD2
            have hst : sl.toInt.toNat = (d.1 4).toNat := by omega
            have hma : (H2.2.1 36 sl.toInt.toNat).toInt = a := by
              have h9 := hX2 (220 + (d.1 4).toNat) (by omega) hq.2 List.not_mem_nil
              rw [yL_220 (by omega), hq.1] at h9
              rw [hst]
              exact h9
            have p4 := zp_Call_u p1 (yc_pmX33 (L := L) (σ := σ) (d := dd + 3) (s := sl) (x := v) (y := v2) (a := a) W2 hs hma (by omega))
            have em : (sl * Int32.ofInt 8).toInt = sl.toInt * 8 := zq_mul rfl (by omega) (by omega)
            have ej : (sl * Int32.ofInt 8 + H2.2.1 36 sl.toInt.toNat).toInt = sl.toInt * 8 + a := by
              rw [zq_add (by rw [em]; omega) (by rw [em]; omega), em, hma]
            have e1 : (H2.2.1 36 sl.toInt.toNat + Int32.ofInt 1).toInt = (a : Int) + 1 := by rw [zw_p1 (by omega), hma]
            have hXK : yXd (yLc 2 33) [] (yWmk d (a : Int) (ys_vl T n q) (ys_vl T n (ys_nx T n q))) K := by
              cases p4
              refine yXd_wD (yLc_inj hwc) (by omega) ?_ e1 (yXd_wD (yLc_inj hwc) (by omega) ?_ m1 (yXd_wD (yLc_inj hwc) (by omega) ?_ k1 hX2))
              · rw [yL_220 (by omega), hst]
              · rw [yL_400 (by omega), ej]
                exact congrArg (Prod.mk _) (by omega)
              · rw [yL_300 (by omega), ej]
                exact congrArg (Prod.mk _) (by omega)
            have hD4 := yDc_W4 (i := 220 + (d.1 4).toNat) (v := (a : Int) + 1) (by omega) (yDc_W4 (i := 400 + (8 * (d.1 4).toNat + (a : Int).toNat)) (v := ys_vl T n (ys_nx T n q)) (by omega) (yDc_W4 (i := 300 + (8 * (d.1 4).toNat + (a : Int).toNat)) (v := ys_vl T n q) (by omega) hD3))
            have e4 : (yWmk d (a : Int) (ys_vl T n q) (ys_vl T n (ys_nx T n q))).1 4 = d.1 4 := (yW_n (by omega)).trans ((yW_n (by omega)).trans (yW_n (by omega)))
            have hq4 : (yWmk d (a : Int) (ys_vl T n q) (ys_vl T n (ys_nx T n q))).1 (220 + (d.1 4).toNat) = ((a + 1 : Nat) : Int) := yW_e
            have hq5 : (yWmk d (a : Int) (ys_vl T n q) (ys_vl T n (ys_nx T n q))).2.2 (1000 + (220 + (d.1 4).toNat)) = true := yW_fe
            have ei : (i + Int32.ofInt 1).toInt = i.toInt + 1 := zw_p1 (by omega)
            refine zw_ld (n := 1) (k := 2) (f := zp_isR) (pc' := 103) rfl rfl (zw_gt (zw_gt l2 rfl rfl) rfl rfl) rfl rfl ?_
            refine zw_ld (n := 2) (k := 5) (f := zp_isI) (pc' := 105) rfl rfl (zw_gt (zw_gt l5 rfl rfl) rfl rfl) rfl rfl ?_
            refine zw_ld (n := 2) (k := 7) (f := zp_isI) (pc' := 107) rfl rfl (zw_gt zw_g1 rfl rfl) rfl rfl ?_
            refine zw_ld (n := 2) (k := 8) (f := zp_isI) (pc' := 109) rfl rfl zw_g1 rfl rfl ?_
            refine zw_cn (pc' := 112) (zw_cv (q := 33) (Y := zm_78) W2.1 rfl rfl zm_78_t rfl rfl) rfl rfl rfl rfl rfl (p1) ?_
            refine zw_ii (pc' := 115) rfl (zw_gt (zw_gt l6 rfl rfl) rfl rfl) rfl rfl ?_
            refine zw_s (pc' := 49) rfl rfl ?_
            refine ih K _ _ _ (a + 1) (yWmk d (a : Int) (ys_vl T n q) (ys_vl T n (ys_nx T n q))) (by omega) (zw_gt (zw_gt (zw_gt l0 rfl rfl) rfl rfl) rfl rfl) (zw_gt (zw_gt (zw_gt l1 rfl rfl) rfl rfl) rfl rfl) (zw_gt (zw_gt (zw_gt l2 rfl rfl) rfl rfl) rfl rfl) (zw_gt (zw_gt (zw_gt l5 rfl rfl) rfl rfl) rfl rfl) zw_g1 (by omega) (by omega) (by rw [e4]; exact hsd) (by rw [e4]; exact ⟨hq4, hq5⟩) p2 hD4 hXK ?_ (Nat.le_trans hsq (ys_le2 h.2.2))
            exact yR2_t hR1 (yR2_s (yN2_12.trans (m6 _)))
          · refine zw_s (pc' := 101) rfl rfl ?_
            refine zw_rz rfl rfl (by decide) ?_
            rcases d3 with ⟨m1, m2, m3, m4, _⟩ | ⟨_, k, m1, m2, m3, m4, m5⟩
            · omega
            · exact yRL_0 m5 m3 (yR2_a hR1 (yA2_done (yN2_12.trans (m4 _)))) ⟨m1, m2⟩
        · refine zw_ld (n := 1) (k := 0) (f := zp_isR) (pc' := 74) rfl rfl l0 rfl rfl ?_
          refine zw_s (pc' := 75) rfl rfl ?_
          obtain ⟨K, c1, c2, c3, c4⟩ := yc_ref (L := L) (σ := σ) (d := dd + 3) (x := Int32.ofInt 2) h
          refine zw_c (pc' := 78) (zw_cv (q := 51) (Y := zm_62) W.1 rfl rfl zm_62_t rfl rfl) rfl rfl rfl rfl rfl (c1) ?_
          refine zw_rz rfl rfl (by decide) ?_
          exact yRL_0 c2 c4 (yR2_a hR (yA2_done (yN2_11.trans ((if_pos hw).trans (if_pos (by omega)))))) (show 1 ≤ (2 : Int) ∧ (2 : Int) ≤ 5 from by decide)
      · refine zw_c (pc' := 63) (zw_cv (q := 52) (Y := zm_74) W.1 rfl rfl zm_74_t rfl rfl) rfl rfl rfl rfl rfl (yc_wy0 (d := dd + 3) h hw) ?_
        refine zw_beq1 (g := 118) (pc' := 66) rfl rfl rfl (rfl : _ = (0 : Int)) (fun h9 => ?_) (fun h9 => absurd h9 (by decide))
        refine zw_s (pc' := 119) rfl rfl ?_
        refine zw_rz rfl rfl (by decide) ?_
        exact yRL_1 h ⟨hD, yXd_k (by decide) hX⟩ (yR2_t hR (yR2_s (yN2_11.trans (if_neg hw)))) hsq

set_option maxRecDepth 8000 in
theorem yc_slate2_33 {L : Nat} {σ : Nat → Int32} {dd : Nat} {T : Nat → Int} {n p : Nat} {d : yLD} {H : zp_H} (h8 : d.1 4 < 8) (h : yE T n p H) (hDd : yDd 2 33 d H) : ∃ X, zp_Call L σ (dd + 5) 76 [.inr (.inr (some 52)), .inr (.inr (some 3)), .inr (.inr (some 34))] H X ∧ yRL T n 2 33 (8, [], 0, 0, 0, d, p) X := by
  obtain ⟨hD, hX⟩ := hDd
  have hwc : yWC 2 33 := ⟨by decide, by decide⟩
  have W := zB_Wd h.1.1
  obtain ⟨_, c1, v, H1, rfl, c2, c3⟩ := yc_cell2 (L := L) (σ := σ) (d := dd) (taken := Int64.ofNat 0) hD.1 hD.2.1 h
  refine zw_met zm_76_t rfl rfl ?_
  refine zw_ld (n := 1) (k := 0) (f := zp_isR) (pc' := 1) rfl rfl rfl rfl rfl ?_
  refine zw_ld (n := 1) (k := 1) (f := zp_isR) (pc' := 2) rfl rfl rfl rfl rfl ?_
  refine zw_s (pc' := 3) rfl rfl ?_
  refine zw_c (pc' := 6) (zw_cv (q := 51) (Y := zm_70) W.1 rfl rfl zm_70_t rfl rfl) rfl rfl rfl rfl rfl (c1) ?_
  refine zw_st (n := 1) (k := 3) (f := zp_isI) (pc' := 7) rfl rfl rfl rfl rfl ?_
  refine zw_ld (n := 1) (k := 3) (f := zp_isI) (pc' := 8) rfl rfl zw_g1 rfl rfl ?_
  refine zw_s (pc' := 9) rfl rfl ?_
  refine zw_bne2 (g := 16) (pc' := 12) rfl rfl rfl rfl (rfl : _ = (-1 : Int)) (fun h1 => ?_) (fun h1 => ?_)
  · rcases c3 with ⟨k1, k2, k3, k4, k5, k6⟩ | ⟨k1, _⟩
    rotate_left
    · omega
    have W1 := zB_Wd k6.1.1
    have hD1 : yDc 2 33 d H1 := yDc_F c2 rfl hD
    have hX1 := yXd_F hwc c2 rfl hX
    obtain ⟨_, d1, v2, H2, rfl, d2, d3⟩ := yc_num (L := L) (σ := σ) (d := dd) (x := Int32.ofInt 0) (y := Int32.ofInt 99) (lo := 0) (hi := 99) rfl rfl k6
    refine zw_ld (n := 1) (k := 0) (f := zp_isR) (pc' := 17) rfl rfl (zw_gt rfl rfl rfl) rfl rfl ?_
    refine zw_s (pc' := 18) rfl rfl ?_
    refine zw_s (pc' := 20) rfl rfl ?_
    refine zw_c (pc' := 23) (zw_cv (q := 51) (Y := zm_65) W1.1 rfl rfl zm_65_t rfl rfl) rfl rfl rfl rfl rfl (d1) ?_
    refine zw_st (n := 2) (k := 4) (f := zp_isI) (pc' := 25) rfl rfl rfl rfl rfl ?_
    refine zw_ld (n := 2) (k := 4) (f := zp_isI) (pc' := 27) rfl rfl zw_g1 rfl rfl ?_
    refine zw_s (pc' := 28) rfl rfl ?_
    refine zw_bne2 (g := 33) (pc' := 31) rfl rfl rfl rfl (rfl : _ = (-1 : Int)) (fun h2 => ?_) (fun h2 => ?_)
    · rcases d3 with ⟨m1, m2, m3, m4, m5, m6, m7⟩ | ⟨m1, _⟩
      rotate_left
      · omega
      have W2 := zB_Wd m7.1.1
      have hD2 : yDc 2 33 d H2 := yDc_F d2 rfl hD1
      have hX2 := yXd_F hwc d2 rfl hX1
      have hsl : (H2.2.1 33 0).toInt = d.1 4 := hD2.2.2.1
      have rs := zB_fr1 m7.1.1 (p := 33) (k := 0) (r := (0, 8)) rfl
      have rs : 0 ≤ (H2.2.1 33 0).toInt ∧ (H2.2.1 33 0).toInt ≤ 8 := rs
      obtain ⟨K, p1, p2, p3, p4, p5⟩ := yc_ads33 (L := L) (σ := σ) (d := dd + 3) (x := v) (y := v2) m7 ⟨by omega, by omega⟩ k4 ⟨by omega, by omega⟩
      have WK := zB_Wd p2.1.1
      have hD3 : yDc 2 33 (yU d.1 4 (d.1 4 + 1), d.2) K := by
        obtain ⟨g1, g2, g3, g4, g5, g6, g7, g8, g9, g10⟩ := hD2
        have e2 : K.2.1 2 = H2.2.1 2 := zx_ae p3 2 (fun k => rfl) rfl rfl
        have e51 : K.2.1 51 = H2.2.1 51 := zx_ae p3 51 (fun k => rfl) rfl rfl
        refine ⟨?_, ?_, ?_, ?_, ?_, ?_, ?_, ?_, ?_, ?_⟩
        · rw [e2]; exact g1
        · rw [e2]; exact g2
        · rw [p4, g3]; rfl
        · rw [e2]; exact g4
        · rw [e2]; exact g5
        · rw [e2]; exact g6
        · rw [e51]; exact g7
        · rw [e51]; exact g8
        · rw [(p3.2 2 3 rfl rfl).2]; exact g9
        · refine ⟨?_, g10.2⟩
          have hc : yCur 2 K = yCur 2 H2 := by
            unfold yCur
            rw [(p3.2 (2 + 3) 0 rfl rfl).2, (p3.2 (2 + 3) 1 rfl rfl).2, (p3.2 (2 + 3) 2 rfl rfl).2, (p3.2 (2 + 3) 3 rfl rfl).2]
          intro c hlt
          rw [hc]
          exact g10.1 c hlt
      have hXK : yXd (yLc 2 33) [] (yWsl d (d.1 1 * ys_vl T n (ys_nx T n p) + ys_vl T n p) (ys_vl T n (ys_nx T n (ys_nx T n p)))) K := by
        rw [p5]
        refine yXd_o (by decide) (yXd_wD (yLc_inj hwc) (by omega) ?_ rfl (yXd_wD (yLc_inj hwc) (by omega) ?_ rfl (yXd_wD (yLc_inj hwc) (by omega) ?_ m1 (yXd_wD (yLc_inj hwc) (by omega) ?_ k1 hX2))))
        · rw [yL_230 (by omega), hsl]
        · rw [yL_220 (by omega), hsl]
        · rw [yL_210 (by omega), hsl]
        · rw [yL_200 (by omega), hsl]
      have hD4 := yDc_W4 (i := 230 + (d.1 4).toNat) (v := 0) (by omega) (yDc_W4 (i := 220 + (d.1 4).toNat) (v := 0) (by omega) (yDc_W4 (i := 210 + (d.1 4).toNat) (v := ys_vl T n (ys_nx T n (ys_nx T n p))) (by omega) (yDc_W4 (i := 200 + (d.1 4).toNat) (v := d.1 1 * ys_vl T n (ys_nx T n p) + ys_vl T n p) (by omega) hD3)))
      have e4 : (yWsl d (d.1 1 * ys_vl T n (ys_nx T n p) + ys_vl T n p) (ys_vl T n (ys_nx T n (ys_nx T n p)))).1 4 = d.1 4 := (yW_n (by omega)).trans ((yW_n (by omega)).trans ((yW_n (by omega)).trans (yW_n (by omega))))
      have hq4 : (yWsl d (d.1 1 * ys_vl T n (ys_nx T n p) + ys_vl T n p) (ys_vl T n (ys_nx T n (ys_nx T n p)))).1 (220 + (d.1 4).toNat) = ((0 : Nat) : Int) := (yW_n (by omega)).trans yW_e
      have hq5 : (yWsl d (d.1 1 * ys_vl T n (ys_nx T n p) + ys_vl T n p) (ys_vl T n (ys_nx T n (ys_nx T n p)))).2.2 (1000 + (220 + (d.1 4).toNat)) = true := (yW_fn (by omega)).trans yW_fe
      refine zw_ld (n := 1) (k := 2) (f := zp_isR) (pc' := 34) rfl rfl (zw_gt (zw_gt rfl rfl rfl) rfl rfl) rfl rfl ?_
      refine zw_gI (q := 33) (pc' := 37) W2 rfl rfl rfl rfl rfl rfl ?_
      refine zw_st (n := 2) (k := 5) (f := zp_isI) (pc' := 39) rfl rfl rfl rfl rfl ?_
      refine zw_ld (n := 1) (k := 2) (f := zp_isR) (pc' := 40) rfl rfl (zw_gt (zw_gt (zw_gt rfl rfl rfl) rfl rfl) rfl rfl) rfl rfl ?_
      refine zw_ld (n := 1) (k := 3) (f := zp_isI) (pc' := 41) rfl rfl (zw_gt (zw_gt zw_g1 rfl rfl) rfl rfl) rfl rfl ?_
      refine zw_ld (n := 2) (k := 4) (f := zp_isI) (pc' := 43) rfl rfl (zw_gt zw_g1 rfl rfl) rfl rfl ?_
      refine zw_cn (pc' := 46) (zw_cv (q := 33) (Y := zm_77) W2.1 rfl rfl zm_77_t rfl rfl) rfl rfl rfl rfl rfl (p1) ?_
      refine zw_s (pc' := 47) rfl rfl ?_
      refine zw_st (n := 2) (k := 6) (f := zp_isI) (pc' := 49) rfl rfl rfl rfl rfl ?_
      exact yc_slL2_33 ⟨by omega, by omega⟩ _ K _ _ _ 0 (yWsl d (d.1 1 * ys_vl T n (ys_nx T n p) + ys_vl T n p) (ys_vl T n (ys_nx T n (ys_nx T n p)))) (Nat.le_refl _) (zw_gt (zw_gt (zw_gt (zw_gt rfl rfl rfl) rfl rfl) rfl rfl) rfl rfl) (zw_gt (zw_gt (zw_gt (zw_gt rfl rfl rfl) rfl rfl) rfl rfl) rfl rfl) (zw_gt (zw_gt (zw_gt (zw_gt rfl rfl rfl) rfl rfl) rfl rfl) rfl rfl) (zw_gt zw_g1 rfl rfl) zw_g1 rfl (by decide) (by rw [e4]; exact hsl) (by rw [e4]; exact ⟨hq4, hq5⟩) p2 hD4 hXK (yR2_t (yR2_s (yN2_8.trans (k2 _))) (yR2_t (yR2_s (yN2_9.trans (k3 _))) (yR2_s (yN2_10.trans (m6 _))))) (ys_le3 h.2.2)
    · refine zw_s (pc' := 32) rfl rfl ?_
      refine zw_rz rfl rfl (by decide) ?_
      rcases d3 with ⟨m1, m2, m3, m4, _⟩ | ⟨_, k, m1, m2, m3, m4, m5⟩
      · omega
      · exact yRL_0 m5 m3 (yA2_step (yN2_8.trans (k2 _)) (yA2_step (yN2_9.trans (k3 _)) (yA2_done (yN2_10.trans (m4 _))))) ⟨m1, m2⟩
  · refine zw_s (pc' := 13) rfl rfl ?_
    refine zw_s (pc' := 23) rfl rfl ?_
    refine zw_st (n := 2) (k := 4) (f := zp_isI) (pc' := 25) rfl rfl rfl rfl rfl ?_
    refine zw_ld (n := 2) (k := 4) (f := zp_isI) (pc' := 27) rfl rfl zw_g1 rfl rfl ?_
    refine zw_s (pc' := 28) rfl rfl ?_
    refine zw_bne2 (g := 33) (pc' := 31) rfl rfl rfl (rfl : _ = (-1 : Int)) (rfl : _ = (-1 : Int)) (fun h9 => absurd h9 (by decide)) (fun h2 => ?_)
    refine zw_s (pc' := 32) rfl rfl ?_
    refine zw_rz rfl rfl (by decide) ?_
    rcases c3 with ⟨_, _, _, k4, _⟩ | ⟨_, k, q, k1, k2, k3, k5, k6⟩
    · omega
    · refine yRL_0 k5 k3 ?_ ⟨k1, k2⟩
      rcases k6 with ⟨rfl, m1⟩ | ⟨rfl, m1, m2⟩ | ⟨_, rfl, m1, m2, m3⟩
      · exact yA2_done (yN2_8.trans (m1 _))
      · exact yA2_step (yN2_8.trans (m1 _)) (yA2_done (yN2_9.trans (m2 _)))
      · exact absurd Int64.zero_and m3

set_option maxRecDepth 8000 in
theorem yc_slL22_13 {L : Nat} {σ : Nat → Int32} {dd : Nat} {T : Nat → Int} {n : Nat} {s0 : yL} {sl : Int32} (hs : 0 ≤ sl.toInt ∧ sl.toInt ≤ 7) : ∀ (m : Nat) (H : zp_H) (lv9 : zp_LV) (i : Int32) (q a : Nat) (d : yLD), 9 - a ≤ m → zp_get lv9 0 = some (.inr (.inr (some 52))) → zp_get lv9 1 = some (.inr (.inr (some 23))) → zp_get lv9 2 = some (.inr (.inr (some 14))) → zp_get lv9 5 = some (.inl sl) → zp_get lv9 6 = some (.inl i) → i.toInt = a → a ≤ 8 → sl.toInt = d.1 4 → (d.1 (220 + (d.1 4).toNat) = (a : Int) ∧ d.2.2 (1000 + (220 + (d.1 4).toNat)) = true) → yE T n q H → yDc 22 13 (yU d.1 4 (d.1 4 + 1), d.2) H → yXd (yLc 22 13) [] d H → yR2 T n s0 (11, [], 0, (a : Int), 0, d, q) → s0.2.2.2.2.2.2 ≤ q → zs_Safe L σ (yRL T n 22 13 s0) zm_76 [] (dd + 4) (49, lv9, [], H, (0, 0)) := by
  intro m
  induction m with
  | zero =>
    intro H lv9 i q a d hm l0 l1 l2 l5 l6 hi ha hsd hq h hD hX hR hsq
    have hwc : yWC 22 13 := ⟨by decide, by decide⟩
    have W := zB_Wd h.1.1
    refine zw_ld (n := 2) (k := 6) (f := zp_isI) (pc' := 51) rfl rfl l6 rfl rfl ?_
    refine zw_s (pc' := 53) rfl rfl ?_
    refine zw_bgt2 (g := 118) (pc' := 56) rfl rfl rfl rfl (rfl : _ = (8 : Int)) (fun h7 => ?_) (fun h7 => ?_)
    · omega
    · omega
  | succ m ih =>
    intro H lv9 i q a d hm l0 l1 l2 l5 l6 hi ha hsd hq h hD hX hR hsq
    have hwc : yWC 22 13 := ⟨by decide, by decide⟩
    have W := zB_Wd h.1.1
    refine zw_ld (n := 2) (k := 6) (f := zp_isI) (pc' := 51) rfl rfl l6 rfl rfl ?_
    refine zw_s (pc' := 53) rfl rfl ?_
    refine zw_bgt2 (g := 118) (pc' := 56) rfl rfl rfl rfl (rfl : _ = (8 : Int)) (fun h7 => ?_) (fun h7 => ?_)
    · omega
    · refine zw_ld (n := 1) (k := 0) (f := zp_isR) (pc' := 57) rfl rfl l0 rfl rfl ?_
      refine zw_gR (q := 51) (pc' := 60) W rfl rfl rfl rfl (W.2 51 0 _ rfl) rfl ?_
      by_cases hw : ys_kd T n q = 3 ∧ ys_vl T n q < 4
      · refine zw_c (pc' := 63) (zw_cv (q := 52) (Y := zm_74) W.1 rfl rfl zm_74_t rfl rfl) rfl rfl rfl rfl rfl (yc_wy1 (d := dd + 3) h hw) ?_
        refine zw_beq1 (g := 118) (pc' := 66) rfl rfl rfl (rfl : _ = (1 : Int)) (fun h9 => absurd h9 (by decide)) (fun h9 => ?_)
        refine zw_ld (n := 2) (k := 6) (f := zp_isI) (pc' := 68) rfl rfl l6 rfl rfl ?_
        refine zw_s (pc' := 70) rfl rfl ?_
        refine zw_bne2 (g := 79) (pc' := 73) rfl rfl rfl rfl (rfl : _ = (8 : Int)) (fun h8 => ?_) (fun h8 => ?_)
        · have hR1 := yR2_t hR (yR2_s (yN2_11.trans ((if_pos hw).trans (if_neg (show ¬ (a : Int) = 8 by omega)))))
          have hvb := ys_vl_b hw.1
          obtain ⟨_, c1, v, H1, rfl, c2, c3⟩ := yc_way (L := L) (σ := σ) (d := dd) h
          rcases c3 with ⟨k1, _, k3⟩ | ⟨_, k2, _⟩
          rotate_left
          · exact absurd hw k2
          have W1 := zB_Wd k3.1.1
          have hD1 : yDc 22 13 (yU d.1 4 (d.1 4 + 1), d.2) H1 := yDc_F c2 rfl hD
          have hX1 := yXd_F hwc c2 rfl hX
          obtain ⟨_, d1, v2, H2, rfl, d2, d3⟩ := yc_num (L := L) (σ := σ) (d := dd) (x := Int32.ofInt 1) (y := Int32.ofInt 9) (lo := 1) (hi := 9) rfl rfl k3
          refine zw_ld (n := 1) (k := 0) (f := zp_isR) (pc' := 80) rfl rfl l0 rfl rfl ?_
          refine zw_c (pc' := 83) (zw_cv (q := 51) (Y := zm_73) W.1 rfl rfl zm_73_t rfl rfl) rfl rfl rfl rfl rfl (c1) ?_
          refine zw_st (n := 2) (k := 7) (f := zp_isI) (pc' := 85) rfl rfl rfl rfl rfl ?_
          refine zw_ld (n := 1) (k := 0) (f := zp_isR) (pc' := 86) rfl rfl (zw_gt l0 rfl rfl) rfl rfl ?_
          refine zw_s (pc' := 87) rfl rfl ?_
          refine zw_s (pc' := 89) rfl rfl ?_
          refine zw_c (pc' := 92) (zw_cv (q := 51) (Y := zm_65) W1.1 rfl rfl zm_65_t rfl rfl) rfl rfl rfl rfl rfl (d1) ?_
          refine zw_st (n := 2) (k := 8) (f := zp_isI) (pc' := 94) rfl rfl rfl rfl rfl ?_
          refine zw_ld (n := 2) (k := 8) (f := zp_isI) (pc' := 96) rfl rfl zw_g1 rfl rfl ?_
          refine zw_s (pc' := 97) rfl rfl ?_
          refine zw_bne2 (g := 102) (pc' := 100) rfl rfl rfl rfl (rfl : _ = (-1 : Int)) (fun h6 => ?_) (fun h6 => ?_)
          · rcases d3 with ⟨m1, m2, m3, m4, m5, m6, m7⟩ | ⟨m1, _⟩
            rotate_left
            · omega
            have W2 := zB_Wd m7.1.1
            have hD2 : yDc 22 13 (yU d.1 4 (d.1 4 + 1), d.2) H2 := yDc_F d2 rfl hD1
            have hX2 := yXd_F hwc d2 rfl hX1
            obtain ⟨K, p1, p2, p3⟩ := yc_pm13 (L := L) (σ := σ) (d := dd + 3) (s := sl) (x := v) (y := v2) m7 hs ⟨by omega, by omega⟩ ⟨by omega, by omega⟩
            have hD3 : yDc 22 13 (yU d.1 4 (d.1 4 + 1), d.2) K := yDc_F p3 rfl hD2
            have hst : sl.toInt.toNat = (d.1 4).toNat := by omega
            have hma : (H2.2.1 16 sl.toInt.toNat).toInt = a := by
              have h9 := hX2 (220 + (d.1 4).toNat) (by omega) hq.2 List.not_mem_nil
              rw [yL_220 (by omega), hq.1] at h9
              rw [hst]
              exact h9
            have p4 := zp_Call_u p1 (yc_pmX13 (L := L) (σ := σ) (d := dd + 3) (s := sl) (x := v) (y := v2) (a := a) W2 hs hma (by omega))
            have em : (sl * Int32.ofInt 8).toInt = sl.toInt * 8 := zq_mul rfl (by omega) (by omega)
            have ej : (sl * Int32.ofInt 8 + H2.2.1 16 sl.toInt.toNat).toInt = sl.toInt * 8 + a := by
              rw [zq_add (by rw [em]; omega) (by rw [em]; omega), em, hma]
            have e1 : (H2.2.1 16 sl.toInt.toNat + Int32.ofInt 1).toInt = (a : Int) + 1 := by rw [zw_p1 (by omega), hma]
            have hXK : yXd (yLc 22 13) [] (yWmk d (a : Int) (ys_vl T n q) (ys_vl T n (ys_nx T n q))) K := by
              cases p4
              refine yXd_wD (yLc_inj hwc) (by omega) ?_ e1 (yXd_wD (yLc_inj hwc) (by omega) ?_ m1 (yXd_wD (yLc_inj hwc) (by omega) ?_ k1 hX2))
              · rw [yL_220 (by omega), hst]
              · rw [yL_400 (by omega), ej]
                exact congrArg (Prod.mk _) (by omega)
              · rw [yL_300 (by omega), ej]
                exact congrArg (Prod.mk _) (by omega)
            have hD4 := yDc_W4 (i := 220 + (d.1 4).toNat) (v := (a : Int) + 1) (by omega) (yDc_W4 (i := 400 + (8 * (d.1 4).toNat + (a : Int).toNat)) (v := ys_vl T n (ys_nx T n q)) (by omega) (yDc_W4 (i := 300 + (8 * (d.1 4).toNat + (a : Int).toNat)) (v := ys_vl T n q) (by omega) hD3))
            have e4 : (yWmk d (a : Int) (ys_vl T n q) (ys_vl T n (ys_nx T n q))).1 4 = d.1 4 := (yW_n (by omega)).trans ((yW_n (by omega)).trans (yW_n (by omega)))
            have hq4 : (yWmk d (a : Int) (ys_vl T n q) (ys_vl T n (ys_nx T n q))).1 (220 + (d.1 4).toNat) = ((a + 1 : Nat) : Int) := yW_e
            have hq5 : (yWmk d (a : Int) (ys_vl T n q) (ys_vl T n (ys_nx T n q))).2.2 (1000 + (220 + (d.1 4).toNat)) = true := yW_fe
            have ei : (i + Int32.ofInt 1).toInt = i.toInt + 1 := zw_p1 (by omega)
            refine zw_ld (n := 1) (k := 2) (f := zp_isR) (pc' := 103) rfl rfl (zw_gt (zw_gt l2 rfl rfl) rfl rfl) rfl rfl ?_
            refine zw_ld (n := 2) (k := 5) (f := zp_isI) (pc' := 105) rfl rfl (zw_gt (zw_gt l5 rfl rfl) rfl rfl) rfl rfl ?_
            refine zw_ld (n := 2) (k := 7) (f := zp_isI) (pc' := 107) rfl rfl (zw_gt zw_g1 rfl rfl) rfl rfl ?_
            refine zw_ld (n := 2) (k := 8) (f := zp_isI) (pc' := 109) rfl rfl zw_g1 rfl rfl ?_
            refine zw_cn (pc' := 112) (zw_cv (q := 13) (Y := zm_78) W2.1 rfl rfl zm_78_t rfl rfl) rfl rfl rfl rfl rfl (p1) ?_
            refine zw_ii (pc' := 115) rfl (zw_gt (zw_gt l6 rfl rfl) rfl rfl) rfl rfl ?_
            refine zw_s (pc' := 49) rfl rfl ?_
            refine ih K _ _ _ (a + 1) (yWmk d (a : Int) (ys_vl T n q) (ys_vl T n (ys_nx T n q))) (by omega) (zw_gt (zw_gt (zw_gt l0 rfl rfl) rfl rfl) rfl rfl) (zw_gt (zw_gt (zw_gt l1 rfl rfl) rfl rfl) rfl rfl) (zw_gt (zw_gt (zw_gt l2 rfl rfl) rfl rfl) rfl rfl) (zw_gt (zw_gt (zw_gt l5 rfl rfl) rfl rfl) rfl rfl) zw_g1 (by omega) (by omega) (by rw [e4]; exact hsd) (by rw [e4]; exact ⟨hq4, hq5⟩) p2 hD4 hXK ?_ (Nat.le_trans hsq (ys_le2 h.2.2))
            exact yR2_t hR1 (yR2_s (yN2_12.trans (m6 _)))
          · refine zw_s (pc' := 101) rfl rfl ?_
            refine zw_rz rfl rfl (by decide) ?_
            rcases d3 with ⟨m1, m2, m3, m4, _⟩ | ⟨_, k, m1, m2, m3, m4, m5⟩
            · omega
            · exact yRL_0 m5 m3 (yR2_a hR1 (yA2_done (yN2_12.trans (m4 _)))) ⟨m1, m2⟩
        · refine zw_ld (n := 1) (k := 0) (f := zp_isR) (pc' := 74) rfl rfl l0 rfl rfl ?_
          refine zw_s (pc' := 75) rfl rfl ?_
          obtain ⟨K, c1, c2, c3, c4⟩ := yc_ref (L := L) (σ := σ) (d := dd + 3) (x := Int32.ofInt 2) h
          refine zw_c (pc' := 78) (zw_cv (q := 51) (Y := zm_62) W.1 rfl rfl zm_62_t rfl rfl) rfl rfl rfl rfl rfl (c1) ?_
          refine zw_rz rfl rfl (by decide) ?_
          exact yRL_0 c2 c4 (yR2_a hR (yA2_done (yN2_11.trans ((if_pos hw).trans (if_pos (by omega)))))) (show 1 ≤ (2 : Int) ∧ (2 : Int) ≤ 5 from by decide)
      · refine zw_c (pc' := 63) (zw_cv (q := 52) (Y := zm_74) W.1 rfl rfl zm_74_t rfl rfl) rfl rfl rfl rfl rfl (yc_wy0 (d := dd + 3) h hw) ?_
        refine zw_beq1 (g := 118) (pc' := 66) rfl rfl rfl (rfl : _ = (0 : Int)) (fun h9 => ?_) (fun h9 => absurd h9 (by decide))
        refine zw_s (pc' := 119) rfl rfl ?_
        refine zw_rz rfl rfl (by decide) ?_
        exact yRL_1 h ⟨hD, yXd_k (by decide) hX⟩ (yR2_t hR (yR2_s (yN2_11.trans (if_neg hw)))) hsq

set_option maxRecDepth 8000 in
theorem yc_slate22_13 {L : Nat} {σ : Nat → Int32} {dd : Nat} {T : Nat → Int} {n p : Nat} {d : yLD} {H : zp_H} (h8 : d.1 4 < 8) (h : yE T n p H) (hDd : yDd 22 13 d H) : ∃ X, zp_Call L σ (dd + 5) 76 [.inr (.inr (some 52)), .inr (.inr (some 23)), .inr (.inr (some 14))] H X ∧ yRL T n 22 13 (8, [], 0, 0, 0, d, p) X := by
  obtain ⟨hD, hX⟩ := hDd
  have hwc : yWC 22 13 := ⟨by decide, by decide⟩
  have W := zB_Wd h.1.1
  obtain ⟨_, c1, v, H1, rfl, c2, c3⟩ := yc_cell22 (L := L) (σ := σ) (d := dd) (taken := Int64.ofNat 0) hD.1 hD.2.1 h
  refine zw_met zm_76_t rfl rfl ?_
  refine zw_ld (n := 1) (k := 0) (f := zp_isR) (pc' := 1) rfl rfl rfl rfl rfl ?_
  refine zw_ld (n := 1) (k := 1) (f := zp_isR) (pc' := 2) rfl rfl rfl rfl rfl ?_
  refine zw_s (pc' := 3) rfl rfl ?_
  refine zw_c (pc' := 6) (zw_cv (q := 51) (Y := zm_70) W.1 rfl rfl zm_70_t rfl rfl) rfl rfl rfl rfl rfl (c1) ?_
  refine zw_st (n := 1) (k := 3) (f := zp_isI) (pc' := 7) rfl rfl rfl rfl rfl ?_
  refine zw_ld (n := 1) (k := 3) (f := zp_isI) (pc' := 8) rfl rfl zw_g1 rfl rfl ?_
  refine zw_s (pc' := 9) rfl rfl ?_
  refine zw_bne2 (g := 16) (pc' := 12) rfl rfl rfl rfl (rfl : _ = (-1 : Int)) (fun h1 => ?_) (fun h1 => ?_)
  · rcases c3 with ⟨k1, k2, k3, k4, k5, k6⟩ | ⟨k1, _⟩
    rotate_left
    · omega
    have W1 := zB_Wd k6.1.1
    have hD1 : yDc 22 13 d H1 := yDc_F c2 rfl hD
    have hX1 := yXd_F hwc c2 rfl hX
    obtain ⟨_, d1, v2, H2, rfl, d2, d3⟩ := yc_num (L := L) (σ := σ) (d := dd) (x := Int32.ofInt 0) (y := Int32.ofInt 99) (lo := 0) (hi := 99) rfl rfl k6
    refine zw_ld (n := 1) (k := 0) (f := zp_isR) (pc' := 17) rfl rfl (zw_gt rfl rfl rfl) rfl rfl ?_
    refine zw_s (pc' := 18) rfl rfl ?_
    refine zw_s (pc' := 20) rfl rfl ?_
    refine zw_c (pc' := 23) (zw_cv (q := 51) (Y := zm_65) W1.1 rfl rfl zm_65_t rfl rfl) rfl rfl rfl rfl rfl (d1) ?_
    refine zw_st (n := 2) (k := 4) (f := zp_isI) (pc' := 25) rfl rfl rfl rfl rfl ?_
    refine zw_ld (n := 2) (k := 4) (f := zp_isI) (pc' := 27) rfl rfl zw_g1 rfl rfl ?_
    refine zw_s (pc' := 28) rfl rfl ?_
    refine zw_bne2 (g := 33) (pc' := 31) rfl rfl rfl rfl (rfl : _ = (-1 : Int)) (fun h2 => ?_) (fun h2 => ?_)
    · rcases d3 with ⟨m1, m2, m3, m4, m5, m6, m7⟩ | ⟨m1, _⟩
      rotate_left
      · omega
      have W2 := zB_Wd m7.1.1
      have hD2 : yDc 22 13 d H2 := yDc_F d2 rfl hD1
      have hX2 := yXd_F hwc d2 rfl hX1
      have hsl : (H2.2.1 13 0).toInt = d.1 4 := hD2.2.2.1
      have rs := zB_fr1 m7.1.1 (p := 13) (k := 0) (r := (0, 8)) rfl
      have rs : 0 ≤ (H2.2.1 13 0).toInt ∧ (H2.2.1 13 0).toInt ≤ 8 := rs
      obtain ⟨K, p1, p2, p3, p4, p5⟩ := yc_ads13 (L := L) (σ := σ) (d := dd + 3) (x := v) (y := v2) m7 ⟨by omega, by omega⟩ k4 ⟨by omega, by omega⟩
      have WK := zB_Wd p2.1.1
      have hD3 : yDc 22 13 (yU d.1 4 (d.1 4 + 1), d.2) K := by
        obtain ⟨g1, g2, g3, g4, g5, g6, g7, g8, g9, g10⟩ := hD2
        have e22 : K.2.1 22 = H2.2.1 22 := zx_ae p3 22 (fun k => rfl) rfl rfl
        have e51 : K.2.1 51 = H2.2.1 51 := zx_ae p3 51 (fun k => rfl) rfl rfl
        refine ⟨?_, ?_, ?_, ?_, ?_, ?_, ?_, ?_, ?_, ?_⟩
        · rw [e22]; exact g1
        · rw [e22]; exact g2
        · rw [p4, g3]; rfl
        · rw [e22]; exact g4
        · rw [e22]; exact g5
        · rw [e22]; exact g6
        · rw [e51]; exact g7
        · rw [e51]; exact g8
        · rw [(p3.2 22 3 rfl rfl).2]; exact g9
        · refine ⟨?_, g10.2⟩
          have hc : yCur 22 K = yCur 22 H2 := by
            unfold yCur
            rw [(p3.2 (22 + 3) 0 rfl rfl).2, (p3.2 (22 + 3) 1 rfl rfl).2, (p3.2 (22 + 3) 2 rfl rfl).2, (p3.2 (22 + 3) 3 rfl rfl).2]
          intro c hlt
          rw [hc]
          exact g10.1 c hlt
      have hXK : yXd (yLc 22 13) [] (yWsl d (d.1 1 * ys_vl T n (ys_nx T n p) + ys_vl T n p) (ys_vl T n (ys_nx T n (ys_nx T n p)))) K := by
        rw [p5]
        refine yXd_o (by decide) (yXd_wD (yLc_inj hwc) (by omega) ?_ rfl (yXd_wD (yLc_inj hwc) (by omega) ?_ rfl (yXd_wD (yLc_inj hwc) (by omega) ?_ m1 (yXd_wD (yLc_inj hwc) (by omega) ?_ k1 hX2))))
        · rw [yL_230 (by omega), hsl]
        · rw [yL_220 (by omega), hsl]
        · rw [yL_210 (by omega), hsl]
        · rw [yL_200 (by omega), hsl]
      have hD4 := yDc_W4 (i := 230 + (d.1 4).toNat) (v := 0) (by omega) (yDc_W4 (i := 220 + (d.1 4).toNat) (v := 0) (by omega) (yDc_W4 (i := 210 + (d.1 4).toNat) (v := ys_vl T n (ys_nx T n (ys_nx T n p))) (by omega) (yDc_W4 (i := 200 + (d.1 4).toNat) (v := d.1 1 * ys_vl T n (ys_nx T n p) + ys_vl T n p) (by omega) hD3)))
      have e4 : (yWsl d (d.1 1 * ys_vl T n (ys_nx T n p) + ys_vl T n p) (ys_vl T n (ys_nx T n (ys_nx T n p)))).1 4 = d.1 4 := (yW_n (by omega)).trans ((yW_n (by omega)).trans ((yW_n (by omega)).trans (yW_n (by omega))))
      have hq4 : (yWsl d (d.1 1 * ys_vl T n (ys_nx T n p) + ys_vl T n p) (ys_vl T n (ys_nx T n (ys_nx T n p)))).1 (220 + (d.1 4).toNat) = ((0 : Nat) : Int) := (yW_n (by omega)).trans yW_e
      have hq5 : (yWsl d (d.1 1 * ys_vl T n (ys_nx T n p) + ys_vl T n p) (ys_vl T n (ys_nx T n (ys_nx T n p)))).2.2 (1000 + (220 + (d.1 4).toNat)) = true := (yW_fn (by omega)).trans yW_fe
      refine zw_ld (n := 1) (k := 2) (f := zp_isR) (pc' := 34) rfl rfl (zw_gt (zw_gt rfl rfl rfl) rfl rfl) rfl rfl ?_
      refine zw_gI (q := 13) (pc' := 37) W2 rfl rfl rfl rfl rfl rfl ?_
      refine zw_st (n := 2) (k := 5) (f := zp_isI) (pc' := 39) rfl rfl rfl rfl rfl ?_
      refine zw_ld (n := 1) (k := 2) (f := zp_isR) (pc' := 40) rfl rfl (zw_gt (zw_gt (zw_gt rfl rfl rfl) rfl rfl) rfl rfl) rfl rfl ?_
      refine zw_ld (n := 1) (k := 3) (f := zp_isI) (pc' := 41) rfl rfl (zw_gt (zw_gt zw_g1 rfl rfl) rfl rfl) rfl rfl ?_
      refine zw_ld (n := 2) (k := 4) (f := zp_isI) (pc' := 43) rfl rfl (zw_gt zw_g1 rfl rfl) rfl rfl ?_
      refine zw_cn (pc' := 46) (zw_cv (q := 13) (Y := zm_77) W2.1 rfl rfl zm_77_t rfl rfl) rfl rfl rfl rfl rfl (p1) ?_
      refine zw_s (pc' := 47) rfl rfl ?_
      refine zw_st (n := 2) (k := 6) (f := zp_isI) (pc' := 49) rfl rfl rfl rfl rfl ?_
      exact yc_slL22_13 ⟨by omega, by omega⟩ _ K _ _ _ 0 (yWsl d (d.1 1 * ys_vl T n (ys_nx T n p) + ys_vl T n p) (ys_vl T n (ys_nx T n (ys_nx T n p)))) (Nat.le_refl _) (zw_gt (zw_gt (zw_gt (zw_gt rfl rfl rfl) rfl rfl) rfl rfl) rfl rfl) (zw_gt (zw_gt (zw_gt (zw_gt rfl rfl rfl) rfl rfl) rfl rfl) rfl rfl) (zw_gt (zw_gt (zw_gt (zw_gt rfl rfl rfl) rfl rfl) rfl rfl) rfl rfl) (zw_gt zw_g1 rfl rfl) zw_g1 rfl (by decide) (by rw [e4]; exact hsl) (by rw [e4]; exact ⟨hq4, hq5⟩) p2 hD4 hXK (yR2_t (yR2_s (yN2_8.trans (k2 _))) (yR2_t (yR2_s (yN2_9.trans (k3 _))) (yR2_s (yN2_10.trans (m6 _))))) (ys_le3 h.2.2)
    · refine zw_s (pc' := 32) rfl rfl ?_
      refine zw_rz rfl rfl (by decide) ?_
      rcases d3 with ⟨m1, m2, m3, m4, _⟩ | ⟨_, k, m1, m2, m3, m4, m5⟩
      · omega
      · exact yRL_0 m5 m3 (yA2_step (yN2_8.trans (k2 _)) (yA2_step (yN2_9.trans (k3 _)) (yA2_done (yN2_10.trans (m4 _))))) ⟨m1, m2⟩
  · refine zw_s (pc' := 13) rfl rfl ?_
    refine zw_s (pc' := 23) rfl rfl ?_
    refine zw_st (n := 2) (k := 4) (f := zp_isI) (pc' := 25) rfl rfl rfl rfl rfl ?_
    refine zw_ld (n := 2) (k := 4) (f := zp_isI) (pc' := 27) rfl rfl zw_g1 rfl rfl ?_
    refine zw_s (pc' := 28) rfl rfl ?_
    refine zw_bne2 (g := 33) (pc' := 31) rfl rfl rfl (rfl : _ = (-1 : Int)) (rfl : _ = (-1 : Int)) (fun h9 => absurd h9 (by decide)) (fun h2 => ?_)
    refine zw_s (pc' := 32) rfl rfl ?_
    refine zw_rz rfl rfl (by decide) ?_
    rcases c3 with ⟨_, _, _, k4, _⟩ | ⟨_, k, q, k1, k2, k3, k5, k6⟩
    · omega
    · refine yRL_0 k5 k3 ?_ ⟨k1, k2⟩
      rcases k6 with ⟨rfl, m1⟩ | ⟨rfl, m1, m2⟩ | ⟨_, rfl, m1, m2, m3⟩
      · exact yA2_done (yN2_8.trans (m1 _))
      · exact yA2_step (yN2_8.trans (m1 _)) (yA2_done (yN2_9.trans (m2 _)))
      · exact absurd Int64.zero_and m3

set_option maxRecDepth 8000 in
theorem yc_slL22_33 {L : Nat} {σ : Nat → Int32} {dd : Nat} {T : Nat → Int} {n : Nat} {s0 : yL} {sl : Int32} (hs : 0 ≤ sl.toInt ∧ sl.toInt ≤ 7) : ∀ (m : Nat) (H : zp_H) (lv9 : zp_LV) (i : Int32) (q a : Nat) (d : yLD), 9 - a ≤ m → zp_get lv9 0 = some (.inr (.inr (some 52))) → zp_get lv9 1 = some (.inr (.inr (some 23))) → zp_get lv9 2 = some (.inr (.inr (some 34))) → zp_get lv9 5 = some (.inl sl) → zp_get lv9 6 = some (.inl i) → i.toInt = a → a ≤ 8 → sl.toInt = d.1 4 → (d.1 (220 + (d.1 4).toNat) = (a : Int) ∧ d.2.2 (1000 + (220 + (d.1 4).toNat)) = true) → yE T n q H → yDc 22 33 (yU d.1 4 (d.1 4 + 1), d.2) H → yXd (yLc 22 33) [] d H → yR2 T n s0 (11, [], 0, (a : Int), 0, d, q) → s0.2.2.2.2.2.2 ≤ q → zs_Safe L σ (yRL T n 22 33 s0) zm_76 [] (dd + 4) (49, lv9, [], H, (0, 0)) := by
  intro m
  induction m with
  | zero =>
    intro H lv9 i q a d hm l0 l1 l2 l5 l6 hi ha hsd hq h hD hX hR hsq
    have hwc : yWC 22 33 := ⟨by decide, by decide⟩
    have W := zB_Wd h.1.1
    refine zw_ld (n := 2) (k := 6) (f := zp_isI) (pc' := 51) rfl rfl l6 rfl rfl ?_
    refine zw_s (pc' := 53) rfl rfl ?_
    refine zw_bgt2 (g := 118) (pc' := 56) rfl rfl rfl rfl (rfl : _ = (8 : Int)) (fun h7 => ?_) (fun h7 => ?_)
    · omega
    · omega
  | succ m ih =>
    intro H lv9 i q a d hm l0 l1 l2 l5 l6 hi ha hsd hq h hD hX hR hsq
    have hwc : yWC 22 33 := ⟨by decide, by decide⟩
    have W := zB_Wd h.1.1
    refine zw_ld (n := 2) (k := 6) (f := zp_isI) (pc' := 51) rfl rfl l6 rfl rfl ?_
    refine zw_s (pc' := 53) rfl rfl ?_
    refine zw_bgt2 (g := 118) (pc' := 56) rfl rfl rfl rfl (rfl : _ = (8 : Int)) (fun h7 => ?_) (fun h7 => ?_)
    · omega
    · refine zw_ld (n := 1) (k := 0) (f := zp_isR) (pc' := 57) rfl rfl l0 rfl rfl ?_
      refine zw_gR (q := 51) (pc' := 60) W rfl rfl rfl rfl (W.2 51 0 _ rfl) rfl ?_
      by_cases hw : ys_kd T n q = 3 ∧ ys_vl T n q < 4
      · refine zw_c (pc' := 63) (zw_cv (q := 52) (Y := zm_74) W.1 rfl rfl zm_74_t rfl rfl) rfl rfl rfl rfl rfl (yc_wy1 (d := dd + 3) h hw) ?_
        refine zw_beq1 (g := 118) (pc' := 66) rfl rfl rfl (rfl : _ = (1 : Int)) (fun h9 => absurd h9 (by decide)) (fun h9 => ?_)
        refine zw_ld (n := 2) (k := 6) (f := zp_isI) (pc' := 68) rfl rfl l6 rfl rfl ?_
        refine zw_s (pc' := 70) rfl rfl ?_
        refine zw_bne2 (g := 79) (pc' := 73) rfl rfl rfl rfl (rfl : _ = (8 : Int)) (fun h8 => ?_) (fun h8 => ?_)
        · have hR1 := yR2_t hR (yR2_s (yN2_11.trans ((if_pos hw).trans (if_neg (show ¬ (a : Int) = 8 by omega)))))
          have hvb := ys_vl_b hw.1
          obtain ⟨_, c1, v, H1, rfl, c2, c3⟩ := yc_way (L := L) (σ := σ) (d := dd) h
          rcases c3 with ⟨k1, _, k3⟩ | ⟨_, k2, _⟩
          rotate_left
          · exact absurd hw k2
          have W1 := zB_Wd k3.1.1
          have hD1 : yDc 22 33 (yU d.1 4 (d.1 4 + 1), d.2) H1 := yDc_F c2 rfl hD
          have hX1 := yXd_F hwc c2 rfl hX
          obtain ⟨_, d1, v2, H2, rfl, d2, d3⟩ := yc_num (L := L) (σ := σ) (d := dd) (x := Int32.ofInt 1) (y := Int32.ofInt 9) (lo := 1) (hi := 9) rfl rfl k3
          refine zw_ld (n := 1) (k := 0) (f := zp_isR) (pc' := 80) rfl rfl l0 rfl rfl ?_
          refine zw_c (pc' := 83) (zw_cv (q := 51) (Y := zm_73) W.1 rfl rfl zm_73_t rfl rfl) rfl rfl rfl rfl rfl (c1) ?_
          refine zw_st (n := 2) (k := 7) (f := zp_isI) (pc' := 85) rfl rfl rfl rfl rfl ?_
          refine zw_ld (n := 1) (k := 0) (f := zp_isR) (pc' := 86) rfl rfl (zw_gt l0 rfl rfl) rfl rfl ?_
          refine zw_s (pc' := 87) rfl rfl ?_
          refine zw_s (pc' := 89) rfl rfl ?_
          refine zw_c (pc' := 92) (zw_cv (q := 51) (Y := zm_65) W1.1 rfl rfl zm_65_t rfl rfl) rfl rfl rfl rfl rfl (d1) ?_
          refine zw_st (n := 2) (k := 8) (f := zp_isI) (pc' := 94) rfl rfl rfl rfl rfl ?_
          refine zw_ld (n := 2) (k := 8) (f := zp_isI) (pc' := 96) rfl rfl zw_g1 rfl rfl ?_
          refine zw_s (pc' := 97) rfl rfl ?_
          refine zw_bne2 (g := 102) (pc' := 100) rfl rfl rfl rfl (rfl : _ = (-1 : Int)) (fun h6 => ?_) (fun h6 => ?_)
          · rcases d3 with ⟨m1, m2, m3, m4, m5, m6, m7⟩ | ⟨m1, _⟩
            rotate_left
            · omega
            have W2 := zB_Wd m7.1.1
            have hD2 : yDc 22 33 (yU d.1 4 (d.1 4 + 1), d.2) H2 := yDc_F d2 rfl hD1
            have hX2 := yXd_F hwc d2 rfl hX1
            obtain ⟨K, p1, p2, p3⟩ := yc_pm33 (L := L) (σ := σ) (d := dd + 3) (s := sl) (x := v) (y := v2) m7 hs ⟨by omega, by omega⟩ ⟨by omega, by omega⟩
            have hD3 : yDc 22 33 (yU d.1 4 (d.1 4 + 1), d.2) K := yDc_F p3 rfl hD2
            have hst : sl.toInt.toNat = (d.1 4).toNat := by omega
            have hma : (H2.2.1 36 sl.toInt.toNat).toInt = a := by
              have h9 := hX2 (220 + (d.1 4).toNat) (by omega) hq.2 List.not_mem_nil
              rw [yL_220 (by omega), hq.1] at h9
              rw [hst]
              exact h9
            have p4 := zp_Call_u p1 (yc_pmX33 (L := L) (σ := σ) (d := dd + 3) (s := sl) (x := v) (y := v2) (a := a) W2 hs hma (by omega))
            have em : (sl * Int32.ofInt 8).toInt = sl.toInt * 8 := zq_mul rfl (by omega) (by omega)
            have ej : (sl * Int32.ofInt 8 + H2.2.1 36 sl.toInt.toNat).toInt = sl.toInt * 8 + a := by
              rw [zq_add (by rw [em]; omega) (by rw [em]; omega), em, hma]
            have e1 : (H2.2.1 36 sl.toInt.toNat + Int32.ofInt 1).toInt = (a : Int) + 1 := by rw [zw_p1 (by omega), hma]
            have hXK : yXd (yLc 22 33) [] (yWmk d (a : Int) (ys_vl T n q) (ys_vl T n (ys_nx T n q))) K := by
              cases p4
              refine yXd_wD (yLc_inj hwc) (by omega) ?_ e1 (yXd_wD (yLc_inj hwc) (by omega) ?_ m1 (yXd_wD (yLc_inj hwc) (by omega) ?_ k1 hX2))
              · rw [yL_220 (by omega), hst]
              · rw [yL_400 (by omega), ej]
                exact congrArg (Prod.mk _) (by omega)
              · rw [yL_300 (by omega), ej]
                exact congrArg (Prod.mk _) (by omega)
            have hD4 := yDc_W4 (i := 220 + (d.1 4).toNat) (v := (a : Int) + 1) (by omega) (yDc_W4 (i := 400 + (8 * (d.1 4).toNat + (a : Int).toNat)) (v := ys_vl T n (ys_nx T n q)) (by omega) (yDc_W4 (i := 300 + (8 * (d.1 4).toNat + (a : Int).toNat)) (v := ys_vl T n q) (by omega) hD3))
            have e4 : (yWmk d (a : Int) (ys_vl T n q) (ys_vl T n (ys_nx T n q))).1 4 = d.1 4 := (yW_n (by omega)).trans ((yW_n (by omega)).trans (yW_n (by omega)))
            have hq4 : (yWmk d (a : Int) (ys_vl T n q) (ys_vl T n (ys_nx T n q))).1 (220 + (d.1 4).toNat) = ((a + 1 : Nat) : Int) := yW_e
            have hq5 : (yWmk d (a : Int) (ys_vl T n q) (ys_vl T n (ys_nx T n q))).2.2 (1000 + (220 + (d.1 4).toNat)) = true := yW_fe
            have ei : (i + Int32.ofInt 1).toInt = i.toInt + 1 := zw_p1 (by omega)
            refine zw_ld (n := 1) (k := 2) (f := zp_isR) (pc' := 103) rfl rfl (zw_gt (zw_gt l2 rfl rfl) rfl rfl) rfl rfl ?_
            refine zw_ld (n := 2) (k := 5) (f := zp_isI) (pc' := 105) rfl rfl (zw_gt (zw_gt l5 rfl rfl) rfl rfl) rfl rfl ?_
            refine zw_ld (n := 2) (k := 7) (f := zp_isI) (pc' := 107) rfl rfl (zw_gt zw_g1 rfl rfl) rfl rfl ?_
            refine zw_ld (n := 2) (k := 8) (f := zp_isI) (pc' := 109) rfl rfl zw_g1 rfl rfl ?_
            refine zw_cn (pc' := 112) (zw_cv (q := 33) (Y := zm_78) W2.1 rfl rfl zm_78_t rfl rfl) rfl rfl rfl rfl rfl (p1) ?_
            refine zw_ii (pc' := 115) rfl (zw_gt (zw_gt l6 rfl rfl) rfl rfl) rfl rfl ?_
            refine zw_s (pc' := 49) rfl rfl ?_
            refine ih K _ _ _ (a + 1) (yWmk d (a : Int) (ys_vl T n q) (ys_vl T n (ys_nx T n q))) (by omega) (zw_gt (zw_gt (zw_gt l0 rfl rfl) rfl rfl) rfl rfl) (zw_gt (zw_gt (zw_gt l1 rfl rfl) rfl rfl) rfl rfl) (zw_gt (zw_gt (zw_gt l2 rfl rfl) rfl rfl) rfl rfl) (zw_gt (zw_gt (zw_gt l5 rfl rfl) rfl rfl) rfl rfl) zw_g1 (by omega) (by omega) (by rw [e4]; exact hsd) (by rw [e4]; exact ⟨hq4, hq5⟩) p2 hD4 hXK ?_ (Nat.le_trans hsq (ys_le2 h.2.2))
            exact yR2_t hR1 (yR2_s (yN2_12.trans (m6 _)))
          · refine zw_s (pc' := 101) rfl rfl ?_
            refine zw_rz rfl rfl (by decide) ?_
            rcases d3 with ⟨m1, m2, m3, m4, _⟩ | ⟨_, k, m1, m2, m3, m4, m5⟩
            · omega
            · exact yRL_0 m5 m3 (yR2_a hR1 (yA2_done (yN2_12.trans (m4 _)))) ⟨m1, m2⟩
        · refine zw_ld (n := 1) (k := 0) (f := zp_isR) (pc' := 74) rfl rfl l0 rfl rfl ?_
          refine zw_s (pc' := 75) rfl rfl ?_
          obtain ⟨K, c1, c2, c3, c4⟩ := yc_ref (L := L) (σ := σ) (d := dd + 3) (x := Int32.ofInt 2) h
          refine zw_c (pc' := 78) (zw_cv (q := 51) (Y := zm_62) W.1 rfl rfl zm_62_t rfl rfl) rfl rfl rfl rfl rfl (c1) ?_
          refine zw_rz rfl rfl (by decide) ?_
          exact yRL_0 c2 c4 (yR2_a hR (yA2_done (yN2_11.trans ((if_pos hw).trans (if_pos (by omega)))))) (show 1 ≤ (2 : Int) ∧ (2 : Int) ≤ 5 from by decide)
      · refine zw_c (pc' := 63) (zw_cv (q := 52) (Y := zm_74) W.1 rfl rfl zm_74_t rfl rfl) rfl rfl rfl rfl rfl (yc_wy0 (d := dd + 3) h hw) ?_
        refine zw_beq1 (g := 118) (pc' := 66) rfl rfl rfl (rfl : _ = (0 : Int)) (fun h9 => ?_) (fun h9 => absurd h9 (by decide))
        refine zw_s (pc' := 119) rfl rfl ?_
        refine zw_rz rfl rfl (by decide) ?_
        exact yRL_1 h ⟨hD, yXd_k (by decide) hX⟩ (yR2_t hR (yR2_s (yN2_11.trans (if_neg hw)))) hsq

set_option maxRecDepth 8000 in
theorem yc_slate22_33 {L : Nat} {σ : Nat → Int32} {dd : Nat} {T : Nat → Int} {n p : Nat} {d : yLD} {H : zp_H} (h8 : d.1 4 < 8) (h : yE T n p H) (hDd : yDd 22 33 d H) : ∃ X, zp_Call L σ (dd + 5) 76 [.inr (.inr (some 52)), .inr (.inr (some 23)), .inr (.inr (some 34))] H X ∧ yRL T n 22 33 (8, [], 0, 0, 0, d, p) X := by
  obtain ⟨hD, hX⟩ := hDd
  have hwc : yWC 22 33 := ⟨by decide, by decide⟩
  have W := zB_Wd h.1.1
  obtain ⟨_, c1, v, H1, rfl, c2, c3⟩ := yc_cell22 (L := L) (σ := σ) (d := dd) (taken := Int64.ofNat 0) hD.1 hD.2.1 h
  refine zw_met zm_76_t rfl rfl ?_
  refine zw_ld (n := 1) (k := 0) (f := zp_isR) (pc' := 1) rfl rfl rfl rfl rfl ?_
  refine zw_ld (n := 1) (k := 1) (f := zp_isR) (pc' := 2) rfl rfl rfl rfl rfl ?_
  refine zw_s (pc' := 3) rfl rfl ?_
  refine zw_c (pc' := 6) (zw_cv (q := 51) (Y := zm_70) W.1 rfl rfl zm_70_t rfl rfl) rfl rfl rfl rfl rfl (c1) ?_
  refine zw_st (n := 1) (k := 3) (f := zp_isI) (pc' := 7) rfl rfl rfl rfl rfl ?_
  refine zw_ld (n := 1) (k := 3) (f := zp_isI) (pc' := 8) rfl rfl zw_g1 rfl rfl ?_
  refine zw_s (pc' := 9) rfl rfl ?_
  refine zw_bne2 (g := 16) (pc' := 12) rfl rfl rfl rfl (rfl : _ = (-1 : Int)) (fun h1 => ?_) (fun h1 => ?_)
  · rcases c3 with ⟨k1, k2, k3, k4, k5, k6⟩ | ⟨k1, _⟩
    rotate_left
    · omega
    have W1 := zB_Wd k6.1.1
    have hD1 : yDc 22 33 d H1 := yDc_F c2 rfl hD
    have hX1 := yXd_F hwc c2 rfl hX
    obtain ⟨_, d1, v2, H2, rfl, d2, d3⟩ := yc_num (L := L) (σ := σ) (d := dd) (x := Int32.ofInt 0) (y := Int32.ofInt 99) (lo := 0) (hi := 99) rfl rfl k6
    refine zw_ld (n := 1) (k := 0) (f := zp_isR) (pc' := 17) rfl rfl (zw_gt rfl rfl rfl) rfl rfl ?_
    refine zw_s (pc' := 18) rfl rfl ?_
    refine zw_s (pc' := 20) rfl rfl ?_
    refine zw_c (pc' := 23) (zw_cv (q := 51) (Y := zm_65) W1.1 rfl rfl zm_65_t rfl rfl) rfl rfl rfl rfl rfl (d1) ?_
    refine zw_st (n := 2) (k := 4) (f := zp_isI) (pc' := 25) rfl rfl rfl rfl rfl ?_
    refine zw_ld (n := 2) (k := 4) (f := zp_isI) (pc' := 27) rfl rfl zw_g1 rfl rfl ?_
    refine zw_s (pc' := 28) rfl rfl ?_
    refine zw_bne2 (g := 33) (pc' := 31) rfl rfl rfl rfl (rfl : _ = (-1 : Int)) (fun h2 => ?_) (fun h2 => ?_)
    · rcases d3 with ⟨m1, m2, m3, m4, m5, m6, m7⟩ | ⟨m1, _⟩
      rotate_left
      · omega
      have W2 := zB_Wd m7.1.1
      have hD2 : yDc 22 33 d H2 := yDc_F d2 rfl hD1
      have hX2 := yXd_F hwc d2 rfl hX1
      have hsl : (H2.2.1 33 0).toInt = d.1 4 := hD2.2.2.1
      have rs := zB_fr1 m7.1.1 (p := 33) (k := 0) (r := (0, 8)) rfl
      have rs : 0 ≤ (H2.2.1 33 0).toInt ∧ (H2.2.1 33 0).toInt ≤ 8 := rs
      obtain ⟨K, p1, p2, p3, p4, p5⟩ := yc_ads33 (L := L) (σ := σ) (d := dd + 3) (x := v) (y := v2) m7 ⟨by omega, by omega⟩ k4 ⟨by omega, by omega⟩
      have WK := zB_Wd p2.1.1
      have hD3 : yDc 22 33 (yU d.1 4 (d.1 4 + 1), d.2) K := by
        obtain ⟨g1, g2, g3, g4, g5, g6, g7, g8, g9, g10⟩ := hD2
        have e22 : K.2.1 22 = H2.2.1 22 := zx_ae p3 22 (fun k => rfl) rfl rfl
        have e51 : K.2.1 51 = H2.2.1 51 := zx_ae p3 51 (fun k => rfl) rfl rfl
        refine ⟨?_, ?_, ?_, ?_, ?_, ?_, ?_, ?_, ?_, ?_⟩
        · rw [e22]; exact g1
        · rw [e22]; exact g2
        · rw [p4, g3]; rfl
        · rw [e22]; exact g4
        · rw [e22]; exact g5
        · rw [e22]; exact g6
        · rw [e51]; exact g7
        · rw [e51]; exact g8
        · rw [(p3.2 22 3 rfl rfl).2]; exact g9
        · refine ⟨?_, g10.2⟩
          have hc : yCur 22 K = yCur 22 H2 := by
            unfold yCur
            rw [(p3.2 (22 + 3) 0 rfl rfl).2, (p3.2 (22 + 3) 1 rfl rfl).2, (p3.2 (22 + 3) 2 rfl rfl).2, (p3.2 (22 + 3) 3 rfl rfl).2]
          intro c hlt
          rw [hc]
          exact g10.1 c hlt
      have hXK : yXd (yLc 22 33) [] (yWsl d (d.1 1 * ys_vl T n (ys_nx T n p) + ys_vl T n p) (ys_vl T n (ys_nx T n (ys_nx T n p)))) K := by
        rw [p5]
        refine yXd_o (by decide) (yXd_wD (yLc_inj hwc) (by omega) ?_ rfl (yXd_wD (yLc_inj hwc) (by omega) ?_ rfl (yXd_wD (yLc_inj hwc) (by omega) ?_ m1 (yXd_wD (yLc_inj hwc) (by omega) ?_ k1 hX2))))
        · rw [yL_230 (by omega), hsl]
        · rw [yL_220 (by omega), hsl]
        · rw [yL_210 (by omega), hsl]
        · rw [yL_200 (by omega), hsl]
      have hD4 := yDc_W4 (i := 230 + (d.1 4).toNat) (v := 0) (by omega) (yDc_W4 (i := 220 + (d.1 4).toNat) (v := 0) (by omega) (yDc_W4 (i := 210 + (d.1 4).toNat) (v := ys_vl T n (ys_nx T n (ys_nx T n p))) (by omega) (yDc_W4 (i := 200 + (d.1 4).toNat) (v := d.1 1 * ys_vl T n (ys_nx T n p) + ys_vl T n p) (by omega) hD3)))
      have e4 : (yWsl d (d.1 1 * ys_vl T n (ys_nx T n p) + ys_vl T n p) (ys_vl T n (ys_nx T n (ys_nx T n p)))).1 4 = d.1 4 := (yW_n (by omega)).trans ((yW_n (by omega)).trans ((yW_n (by omega)).trans (yW_n (by omega))))
      have hq4 : (yWsl d (d.1 1 * ys_vl T n (ys_nx T n p) + ys_vl T n p) (ys_vl T n (ys_nx T n (ys_nx T n p)))).1 (220 + (d.1 4).toNat) = ((0 : Nat) : Int) := (yW_n (by omega)).trans yW_e
      have hq5 : (yWsl d (d.1 1 * ys_vl T n (ys_nx T n p) + ys_vl T n p) (ys_vl T n (ys_nx T n (ys_nx T n p)))).2.2 (1000 + (220 + (d.1 4).toNat)) = true := (yW_fn (by omega)).trans yW_fe
      refine zw_ld (n := 1) (k := 2) (f := zp_isR) (pc' := 34) rfl rfl (zw_gt (zw_gt rfl rfl rfl) rfl rfl) rfl rfl ?_
      refine zw_gI (q := 33) (pc' := 37) W2 rfl rfl rfl rfl rfl rfl ?_
      refine zw_st (n := 2) (k := 5) (f := zp_isI) (pc' := 39) rfl rfl rfl rfl rfl ?_
      refine zw_ld (n := 1) (k := 2) (f := zp_isR) (pc' := 40) rfl rfl (zw_gt (zw_gt (zw_gt rfl rfl rfl) rfl rfl) rfl rfl) rfl rfl ?_
      refine zw_ld (n := 1) (k := 3) (f := zp_isI) (pc' := 41) rfl rfl (zw_gt (zw_gt zw_g1 rfl rfl) rfl rfl) rfl rfl ?_
      refine zw_ld (n := 2) (k := 4) (f := zp_isI) (pc' := 43) rfl rfl (zw_gt zw_g1 rfl rfl) rfl rfl ?_
      refine zw_cn (pc' := 46) (zw_cv (q := 33) (Y := zm_77) W2.1 rfl rfl zm_77_t rfl rfl) rfl rfl rfl rfl rfl (p1) ?_
      refine zw_s (pc' := 47) rfl rfl ?_
      refine zw_st (n := 2) (k := 6) (f := zp_isI) (pc' := 49) rfl rfl rfl rfl rfl ?_
      exact yc_slL22_33 ⟨by omega, by omega⟩ _ K _ _ _ 0 (yWsl d (d.1 1 * ys_vl T n (ys_nx T n p) + ys_vl T n p) (ys_vl T n (ys_nx T n (ys_nx T n p)))) (Nat.le_refl _) (zw_gt (zw_gt (zw_gt (zw_gt rfl rfl rfl) rfl rfl) rfl rfl) rfl rfl) (zw_gt (zw_gt (zw_gt (zw_gt rfl rfl rfl) rfl rfl) rfl rfl) rfl rfl) (zw_gt (zw_gt (zw_gt (zw_gt rfl rfl rfl) rfl rfl) rfl rfl) rfl rfl) (zw_gt zw_g1 rfl rfl) zw_g1 rfl (by decide) (by rw [e4]; exact hsl) (by rw [e4]; exact ⟨hq4, hq5⟩) p2 hD4 hXK (yR2_t (yR2_s (yN2_8.trans (k2 _))) (yR2_t (yR2_s (yN2_9.trans (k3 _))) (yR2_s (yN2_10.trans (m6 _))))) (ys_le3 h.2.2)
    · refine zw_s (pc' := 32) rfl rfl ?_
      refine zw_rz rfl rfl (by decide) ?_
      rcases d3 with ⟨m1, m2, m3, m4, _⟩ | ⟨_, k, m1, m2, m3, m4, m5⟩
      · omega
      · exact yRL_0 m5 m3 (yA2_step (yN2_8.trans (k2 _)) (yA2_step (yN2_9.trans (k3 _)) (yA2_done (yN2_10.trans (m4 _))))) ⟨m1, m2⟩
  · refine zw_s (pc' := 13) rfl rfl ?_
    refine zw_s (pc' := 23) rfl rfl ?_
    refine zw_st (n := 2) (k := 4) (f := zp_isI) (pc' := 25) rfl rfl rfl rfl rfl ?_
    refine zw_ld (n := 2) (k := 4) (f := zp_isI) (pc' := 27) rfl rfl zw_g1 rfl rfl ?_
    refine zw_s (pc' := 28) rfl rfl ?_
    refine zw_bne2 (g := 33) (pc' := 31) rfl rfl rfl (rfl : _ = (-1 : Int)) (rfl : _ = (-1 : Int)) (fun h9 => absurd h9 (by decide)) (fun h2 => ?_)
    refine zw_s (pc' := 32) rfl rfl ?_
    refine zw_rz rfl rfl (by decide) ?_
    rcases c3 with ⟨_, _, _, k4, _⟩ | ⟨_, k, q, k1, k2, k3, k5, k6⟩
    · omega
    · refine yRL_0 k5 k3 ?_ ⟨k1, k2⟩
      rcases k6 with ⟨rfl, m1⟩ | ⟨rfl, m1, m2⟩ | ⟨_, rfl, m1, m2, m3⟩
      · exact yA2_done (yN2_8.trans (m1 _))
      · exact yA2_step (yN2_8.trans (m1 _)) (yA2_done (yN2_9.trans (m2 _)))
      · exact absurd Int64.zero_and m3
