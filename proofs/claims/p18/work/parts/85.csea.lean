/-! ===== the class: sea ===== -/
def zm_49 : za_MI := (yX11_sea, prog_1_method_4_code, 2, (some FieldType.int), 11, 1, 6, [], za_i49)
theorem zm_49_t : za_MT 49 = some zm_49 := rfl
def zm_50 : za_MI := (yX7_read, prog_9_method_2_code, 5, (some FieldType.boolean), 7, 0, 0, [], za_i50)
theorem zm_50_t : za_MT 50 = some zm_50 := rfl
def zm_98 : za_MI := (yX11_takeNext, prog_1_method_5_code, 3, none, 11, 0, 0, [], za_i98)
theorem zm_98_t : za_MT 98 = some zm_98 := rfl
def zm_99 : za_MI := (yX1_forget, prog_3_method_2_code, 1, none, 1, 0, 0, [], za_i99)
theorem zm_99_t : za_MT 99 = some zm_99 := rfl
def zsc_G (H : zp_H) (a b e f : Nat) : zp_H := zw_I (zw_I (zw_I (zw_R (zw_R (zw_R (zw_R H 0 5 (some e)) 0 6 (some f)) 0 7 (some a)) 0 8 (some b)) 0 2 (Int32.ofInt (-1))) 0 10 (Int32.ofInt 0)) 60 11 (Int32.ofInt 0)
theorem zw_Rne {H : zp_H} {p k q j : Nat} {x r : Option Nat} (h : H.2.2.2 q j = r) (hn : (Nat.beq q p).and (Nat.beq j k) = false) : (zw_R H p k x).2.2.2 q j = r := by
  refine (zp_u_ne ?_).trans h
  rintro ⟨rfl, rfl⟩
  rw [Nat.beq_refl, Nat.beq_refl] at hn
  cases hn
theorem zw_W_R {H : zp_H} {p k : Nat} {r : Option Nat} (h : zw_W H) (hn : zB_l2 zB_rf p k = none) : zw_W (zw_R H p k r) := by
  refine ⟨h.1, fun p' k' r' h' => (zp_u_ne ?_).trans (h.2 p' k' r' h')⟩
  rintro ⟨rfl, rfl⟩
  rw [hn] at h'
  cases h'
theorem zsc_l4 {a b e f r : Option Nat} {k : Nat} (h : zB_l2.zB_l1 [(5, a), (6, b), (7, e), (8, f)] k = some r) : (k = 5 ∧ r = a) ∨ (k = 6 ∧ r = b) ∨ (k = 7 ∧ r = e) ∨ (k = 8 ∧ r = f) := by
  by_cases h5 : k = 5
  · subst h5
    cases h
    exact Or.inl ⟨rfl, rfl⟩
  by_cases h6 : k = 6
  · subst h6
    cases h
    exact Or.inr (Or.inl ⟨rfl, rfl⟩)
  by_cases h7 : k = 7
  · subst h7
    cases h
    exact Or.inr (Or.inr (Or.inl ⟨rfl, rfl⟩))
  by_cases h8 : k = 8
  · subst h8
    cases h
    exact Or.inr (Or.inr (Or.inr ⟨rfl, rfl⟩))
  have e5 : Nat.beq 5 k = false := zI_nb (fun h9 => h5 h9.symm)
  have e6 : Nat.beq 6 k = false := zI_nb (fun h9 => h6 h9.symm)
  have e7 : Nat.beq 7 k = false := zI_nb (fun h9 => h7 h9.symm)
  have e8 : Nat.beq 8 k = false := zI_nb (fun h9 => h8 h9.symm)
  simp only [zB_l2.zB_l1, e5, e6, e7, e8, cond_false] at h
  cases h
/-- the heap behind a swap: references -/
theorem zsc_rk {c : Nat} {H : zp_H} {a b e f : Nat} (W : ∀ p k r, zB_l2 zB_rf p k = some r → H.2.2.2 p k = r) (hc : zB_cr c = [(5, some e), (6, some f), (7, some a), (8, some b)]) : ∀ p k r, zB_r c p k = some r → (zsc_G H a b e f).2.2.2 p k = r := by
  intro p k r h
  unfold zB_r at h
  rw [hc] at h
  have base : ∀ {p k : Nat} {r : Option Nat}, zB_l2 zB_rf p k = some r → (zsc_G H a b e f).2.2.2 p k = r := by
    intro p k r h
    refine (zp_u_ne ?_).trans ((zp_u_ne ?_).trans ((zp_u_ne ?_).trans ((zp_u_ne ?_).trans (W p k r h))))
    all_goals (rintro ⟨rfl, rfl⟩; cases h)
  cases hp : Nat.beq p 0 with
  | false =>
    rw [hp] at h
    exact base h
  | true =>
    have e0 := za_beq hp
    subst e0
    rw [hp] at h
    simp only [cond_true] at h
    cases h1 : zB_l2.zB_l1 [(5, some e), (6, some f), (7, some a), (8, some b)] k with
    | none =>
      rw [h1] at h
      exact base h
    | some r1 =>
      rw [h1] at h
      cases h
      rcases zsc_l4 h1 with ⟨rfl, rfl⟩ | ⟨rfl, rfl⟩ | ⟨rfl, rfl⟩ | ⟨rfl, rfl⟩
      · rfl
      · rfl
      · rfl
      · rfl
theorem zsc_Gne {H : zp_H} {a b e f p k : Nat} (h : 72 ≤ p) : (zsc_G H a b e f).2.1 p k = H.2.1 p k := (zp_u_ne (fun h9 => by have := h9.1; omega)).trans ((zp_u_ne (fun h9 => by have := h9.1; omega)).trans (zp_u_ne (fun h9 => by have := h9.1; omega)))
theorem zsc_B2 {c : Nat} {H H1 : zp_H} {x y : Int32} (hB : zk_Bs (zB_c c) zg zJc H) (h1 : zk_Bs zB zg zJc H1) (hr : H1.2.2.2 = H.2.2.2) (_ : True = True) (_ : True = True) : zk_Bs (zB_c c) zg zJc (zw_I (zw_I H1 0 2 x) 0 3 y) := by
  have b1 := zB_putf (p := 0) (k := 2) (x := x) (zB_dn h1) rfl (fun r hr => by cases hr) (zJc_I rfl h1.2.2.2.2.2.2.2)
  have b2 := zB_putf (p := 0) (k := 3) (x := y) b1 rfl (fun r hr => by cases hr) (zJc_I rfl b1.2.2.2.2.2.2.2)
  refine zB_cB (zB_up b2 ?_) (fun p k r h => ?_)
  · rw [show (zw_I (zw_I H1 0 2 x) 0 3 y).2.1 52 4 = H1.2.1 52 4 from zw_ne (zw_ne rfl rfl) rfl, show (zw_I (zw_I H1 0 2 x) 0 3 y).2.1 52 5 = H1.2.1 52 5 from zw_ne (zw_ne rfl rfl) rfl]
    exact zB_cn h1
  · show H1.2.2.2 p k = r
    rw [hr]
    exact hB.2.1 p k r h
theorem zsc_Bn {c : Nat} {H : zp_H} {a b e f : Nat} (h1 : zk_Bs zB zg zJc H) (_ : c < 4) (hr : ∀ p k r, zB_r c p k = some r → (zsc_G H a b e f).2.2.2 p k = r) : zk_Bs (zB_c c) zg zJc (zsc_G H a b e f) := by
  have h0 : zk_Bs zB0 zg zJc (zw_R (zw_R (zw_R (zw_R H 0 5 (some e)) 0 6 (some f)) 0 7 (some a)) 0 8 (some b)) := by
    have W := zw_W_R (p := 0) (k := 8) (r := some b) (zw_W_R (p := 0) (k := 7) (r := some a) (zw_W_R (p := 0) (k := 6) (r := some f) (zw_W_R (p := 0) (k := 5) (r := some e) (zB_Wd (zB_dn h1)) rfl) rfl) rfl) rfl
    have h2 := zB_dn h1
    refine ⟨h2.1, W.2, h2.2.2.1, h2.2.2.2.1, fun p k r h => Or.inr ?_, h2.2.2.2.2.2.1, fun c hc => absurd hc List.not_mem_nil, h2.2.2.2.2.2.2.2⟩
    rcases h2.2.2.2.2.1 p k r h with ⟨q, q1, _⟩ | h9
    · exact absurd q1 List.not_mem_nil
    · exact h9
  have b1 := zB_putf (p := 0) (k := 2) (x := Int32.ofInt (-1)) h0 rfl (fun r hr => by cases hr) (zJc_I rfl h0.2.2.2.2.2.2.2)
  have b2 := zB_putf (p := 0) (k := 10) (x := Int32.ofInt 0) b1 rfl (fun r hr => by cases hr; decide) (zJc_I rfl b1.2.2.2.2.2.2.2)
  have b3 := zB_putf (p := 60) (k := 11) (x := Int32.ofInt 0) b2 rfl (fun r hr => by cases hr; decide) (zJc_I rfl b2.2.2.2.2.2.2.2)
  refine zB_cB (zB_up b3 ?_) hr
  rw [show (zsc_G H a b e f).2.1 52 4 = H.2.1 52 4 from zw_ne (zw_ne (zw_ne rfl rfl) rfl) rfl, show (zsc_G H a b e f).2.1 52 5 = H.2.1 52 5 from zw_ne (zw_ne (zw_ne rfl rfl) rfl) rfl]
  exact zB_cn h1
theorem zsc_no {L : Nat} {σ : Nat → Int32} {d : Nat} {H : zp_H} {x : Int32} (hB : zk_Bs zB zg zJc H) (hx : ¬ (0 ≤ x.toInt ∧ x.toInt ≤ (H.2.1 0 1).toInt)) : zp_Call L σ (d + 1) 49 [.inr (.inr (some 1)), .inl x] H (.inr 1, H) := by
  have W := zB_Wd (zB_dn hB)
  refine zw_ex (zw_met zm_49_t rfl rfl ?_)
  refine zw_ld (n := 1) (k := 1) (f := zp_isI) (pc' := 1) rfl rfl rfl rfl rfl ?_
  refine zw_blt1 (g := 12) (pc' := 4) rfl rfl rfl rfl (fun hb => ?_) (fun hb => ?_)
  · exact zs_end (S := (12, _, [], H, (0, 0))) (X := (.inr 1, H)) rfl rfl rfl
  · refine zw_ld (n := 1) (k := 1) (f := zp_isI) (pc' := 5) rfl rfl rfl rfl rfl ?_
    refine zw_ld (n := 1) (k := 0) (f := zp_isR) (pc' := 6) rfl rfl rfl rfl rfl ?_
    refine zw_gI (q := 0) (pc' := 9) W rfl rfl rfl rfl rfl rfl ?_
    refine zw_ble2 (g := 22) (pc' := 12) rfl rfl rfl rfl rfl (fun hb2 => ?_) (fun hb2 => ?_)
    · omega
    · exact zs_end (S := (12, _, [], H, (0, 0))) (X := (.inr 1, H)) rfl rfl rfl

theorem zsc_fg {L : Nat} {σ : Nat → Int32} {d : Nat} {H : zp_H} (W : zw_W H) : zp_Call L σ (d + 1) 99 [.inr (.inr (some 61))] H (.inl none, zw_I H 60 11 (Int32.ofInt 0)) := by
  refine zw_ex (zw_met zm_99_t rfl rfl ?_)
  refine zw_ld (n := 1) (k := 0) (f := zp_isR) (pc' := 1) rfl rfl rfl rfl rfl ?_
  refine zw_s (pc' := 2) rfl rfl ?_
  refine zw_pI (q := 60) (pc' := 5) W rfl rfl rfl rfl rfl rfl ?_
  refine zw_rn rfl rfl ?_
  rfl

theorem zsc_tn0 {L : Nat} {σ : Nat → Int32} {d : Nat} {H : zp_H} (W : zw_W H) (g5 : H.2.2.2 0 5 = some 3) (g6 : H.2.2.2 0 6 = some 14) (g7 : H.2.2.2 0 7 = some 23) (g8 : H.2.2.2 0 8 = some 34) : zp_Call L σ (d + 2) 98 [.inr (.inr (some 1))] H (.inl none, zsc_G H 3 14 23 34) := by
  refine zw_ex (zw_met zm_98_t rfl rfl ?_)
  refine zw_ld (n := 1) (k := 0) (f := zp_isR) (pc' := 1) rfl rfl rfl rfl rfl ?_
  refine zw_gR (q := 0) (pc' := 4) W rfl rfl rfl rfl g5 rfl ?_
  refine zw_st (n := 1) (k := 1) (f := zp_isR) (pc' := 5) rfl rfl rfl rfl rfl ?_
  refine zw_ld (n := 1) (k := 0) (f := zp_isR) (pc' := 6) rfl rfl (zw_gt rfl rfl rfl) rfl rfl ?_
  refine zw_gR (q := 0) (pc' := 9) W rfl rfl rfl rfl g6 rfl ?_
  refine zw_st (n := 1) (k := 2) (f := zp_isR) (pc' := 10) rfl rfl rfl rfl rfl ?_
  refine zw_ld (n := 1) (k := 0) (f := zp_isR) (pc' := 11) rfl rfl (zw_gt (zw_gt rfl rfl rfl) rfl rfl) rfl rfl ?_
  refine zw_ld (n := 1) (k := 0) (f := zp_isR) (pc' := 12) rfl rfl (zw_gt (zw_gt rfl rfl rfl) rfl rfl) rfl rfl ?_
  refine zw_gR (q := 0) (pc' := 15) W rfl rfl rfl rfl g7 rfl ?_
  refine zw_pR (q := 0) (pc' := 18) W.1 rfl rfl rfl rfl rfl rfl ?_
  refine zw_ld (n := 1) (k := 0) (f := zp_isR) (pc' := 19) rfl rfl (zw_gt (zw_gt rfl rfl rfl) rfl rfl) rfl rfl ?_
  refine zw_ld (n := 1) (k := 0) (f := zp_isR) (pc' := 20) rfl rfl (zw_gt (zw_gt rfl rfl rfl) rfl rfl) rfl rfl ?_
  refine zw_gR (q := 0) (pc' := 23) (zw_W_R W rfl) rfl rfl rfl rfl (zw_Rne g8 rfl) rfl ?_
  refine zw_pR (q := 0) (pc' := 26) (zw_W_R W rfl).1 rfl rfl rfl rfl rfl rfl ?_
  refine zw_ld (n := 1) (k := 0) (f := zp_isR) (pc' := 27) rfl rfl (zw_gt (zw_gt rfl rfl rfl) rfl rfl) rfl rfl ?_
  refine zw_ld (n := 1) (k := 1) (f := zp_isR) (pc' := 28) rfl rfl (zw_gt zw_g1 rfl rfl) rfl rfl ?_
  refine zw_pR (q := 0) (pc' := 31) (zw_W_R (zw_W_R W rfl) rfl).1 rfl rfl rfl rfl rfl rfl ?_
  refine zw_ld (n := 1) (k := 0) (f := zp_isR) (pc' := 32) rfl rfl (zw_gt (zw_gt rfl rfl rfl) rfl rfl) rfl rfl ?_
  refine zw_ld (n := 1) (k := 2) (f := zp_isR) (pc' := 33) rfl rfl zw_g1 rfl rfl ?_
  refine zw_pR (q := 0) (pc' := 36) (zw_W_R (zw_W_R (zw_W_R W rfl) rfl) rfl).1 rfl rfl rfl rfl rfl rfl ?_
  refine zw_ld (n := 1) (k := 0) (f := zp_isR) (pc' := 37) rfl rfl (zw_gt (zw_gt rfl rfl rfl) rfl rfl) rfl rfl ?_
  refine zw_s (pc' := 38) rfl rfl ?_
  refine zw_pI (q := 0) (pc' := 41) (zw_W_R (zw_W_R (zw_W_R (zw_W_R W rfl) rfl) rfl) rfl) rfl rfl rfl rfl rfl rfl ?_
  refine zw_ld (n := 1) (k := 0) (f := zp_isR) (pc' := 42) rfl rfl (zw_gt (zw_gt rfl rfl rfl) rfl rfl) rfl rfl ?_
  refine zw_s (pc' := 43) rfl rfl ?_
  refine zw_pI (q := 0) (pc' := 46) (zw_W_I (zw_W_R (zw_W_R (zw_W_R (zw_W_R W rfl) rfl) rfl) rfl)) rfl rfl rfl rfl (rfl) rfl ?_
  refine zw_ld (n := 1) (k := 0) (f := zp_isR) (pc' := 47) rfl rfl (zw_gt (zw_gt rfl rfl rfl) rfl rfl) rfl rfl ?_
  refine zw_gR (q := 0) (pc' := 50) (zw_W_I (zw_W_I (zw_W_R (zw_W_R (zw_W_R (zw_W_R W rfl) rfl) rfl) rfl))) rfl rfl rfl rfl ((zw_W_I (zw_W_I (zw_W_R (zw_W_R (zw_W_R (zw_W_R W rfl) rfl) rfl) rfl))).2 0 15 _ rfl) rfl ?_
  refine zw_cn (pc' := 53) (zw_cv (q := 60) (Y := zm_99) (zw_W_I (zw_W_I (zw_W_R (zw_W_R (zw_W_R (zw_W_R W rfl) rfl) rfl) rfl))).1 rfl rfl zm_99_t rfl rfl) rfl rfl rfl rfl rfl (zsc_fg (zw_W_I (zw_W_I (zw_W_R (zw_W_R (zw_W_R (zw_W_R W rfl) rfl) rfl) rfl)))) ?_
  refine zw_rn rfl rfl ?_
  rfl

theorem zsc_y0 {L : Nat} {σ : Nat → Int32} {d : Nat} {H : zp_H} {x : Int32} (hB : zk_Bs (zB_c 0) zg zJc H) (hx : 0 ≤ x.toInt ∧ x.toInt ≤ (H.2.1 0 1).toInt) : ∃ X, zp_Call L σ (d + 49) 49 [.inr (.inr (some 1)), .inl x] H X ∧ (fun X : zp_X => ∃ (v : Int32) (H1 : zp_H) (c : Nat), X = (.inl (some (.inl v)), H1) ∧ c < 4 ∧ zk_Bs (zB_c c) zg zJc H1 ∧ zf_C H H1 ∧ (H1.2.1 0 1).toInt = 0) X := by
  have hb := zB_Bc hB
  have W := zB_Wd (zB_dn hb)
  have r1 := zB_fr1 (zB_dn hb) (p := 0) (k := 1) (r := (0, 700)) rfl
  have r1 : 0 ≤ (H.2.1 0 1).toInt ∧ (H.2.1 0 1).toInt ≤ 700 := r1
  have g5 : H.2.2.2 0 5 = some 3 := hB.2.1 0 5 _ rfl
  have g6 : H.2.2.2 0 6 = some 14 := hB.2.1 0 6 _ rfl
  have g7 : H.2.2.2 0 7 = some 23 := hB.2.1 0 7 _ rfl
  have g8 : H.2.2.2 0 8 = some 34 := hB.2.1 0 8 _ rfl
  have b0 : zk_Bs zB zg zJc (zw_I H 0 1 (Int32.ofInt 0)) := zB_up (zB_putf (p := 0) (k := 1) (x := Int32.ofInt 0) (zB_dn hb) rfl (fun r hr => by cases hr; decide) (zJc_I rfl hb.2.2.2.2.2.2.2)) (by
    rw [show (zw_I H 0 1 (Int32.ofInt 0)).2.1 52 4 = H.2.1 52 4 from zw_ne rfl rfl, show (zw_I H 0 1 (Int32.ofInt 0)).2.1 52 5 = H.2.1 52 5 from zw_ne rfl rfl]
    exact zB_cn hb)
  obtain ⟨⟨x1, H1⟩, c1, c2, c3, o, o1, o2⟩ := zc_e74 (L := L) (σ := σ) zB_W zh_all (d + 48) (by show 48 ≤ d + 48; omega) [.inr (.inr (some 52)), .inl x, .inr (.inr (some 23)), .inr (.inr (some 34))] (zw_I H 0 1 (Int32.ofInt 0)) ⟨rfl, ⟨by show (0 : Int) ≤ _; omega, by show _ ≤ (700 : Int); omega⟩, rfl, rfl, trivial⟩ b0 (fun f hf => absurd hf List.not_mem_nil)
  obtain ⟨v, rfl⟩ : ∃ v, x1 = .inl (some (.inl v)) := zI_v1 (outs := ze_e74.2.2.2.2.2.1) rfl ⟨o, o1, o2.1⟩
  have W1 := zB_Wd (zB_dn c2)
  have hr1 : H1.2.2.2 = H.2.2.2 := c3.1
  have t1 : (H1.2.1 0 1).toInt = 0 := by
    rw [(zI_in c3 (p := 0) (k := 1) rfl rfl (by decide)).1, zw_eq]
    decide
  have hC : zf_C H H1 := by
    intro p k h1 h2 h3
    have z := zI_frc c3 (by decide +kernel) (by decide +kernel) p k h1 h2 h3
    exact ⟨z.1.trans (zp_u_ne (fun h9 => by have := h9.1; omega)), z.2⟩
  refine zw_met zm_49_t rfl rfl ?_
  refine zw_ld (n := 1) (k := 1) (f := zp_isI) (pc' := 1) rfl rfl rfl rfl rfl ?_
  refine zw_blt1 (g := 12) (pc' := 4) rfl rfl rfl rfl (fun hb0 => ?_) (fun hb0 => ?_)
  · omega
  · refine zw_ld (n := 1) (k := 1) (f := zp_isI) (pc' := 5) rfl rfl rfl rfl rfl ?_
    refine zw_ld (n := 1) (k := 0) (f := zp_isR) (pc' := 6) rfl rfl rfl rfl rfl ?_
    refine zw_gI (q := 0) (pc' := 9) W rfl rfl rfl rfl rfl rfl ?_
    refine zw_ble2 (g := 22) (pc' := 12) rfl rfl rfl rfl rfl (fun hb1 => ?_) (fun hb1 => ?_)
    · refine zw_ld (n := 1) (k := 0) (f := zp_isR) (pc' := 23) rfl rfl rfl rfl rfl ?_
      refine zw_s (pc' := 24) rfl rfl ?_
      refine zw_pI (q := 0) (pc' := 27) W rfl rfl rfl rfl rfl rfl ?_
      refine zw_ld (n := 1) (k := 0) (f := zp_isR) (pc' := 28) rfl rfl rfl rfl rfl ?_
      refine zw_gR (q := 0) (pc' := 31) (zw_W_I W) rfl rfl rfl rfl ((zw_W_I W).2 0 11 _ rfl) rfl ?_
      refine zw_ld (n := 1) (k := 1) (f := zp_isI) (pc' := 32) rfl rfl rfl rfl rfl ?_
      refine zw_ld (n := 1) (k := 0) (f := zp_isR) (pc' := 33) rfl rfl rfl rfl rfl ?_
      refine zw_gR (q := 0) (pc' := 36) (zw_W_I W) rfl rfl rfl rfl g7 rfl ?_
      refine zw_ld (n := 1) (k := 0) (f := zp_isR) (pc' := 37) rfl rfl rfl rfl rfl ?_
      refine zw_gR (q := 0) (pc' := 40) (zw_W_I W) rfl rfl rfl rfl g8 rfl ?_
      refine zw_c (pc' := 43) (zw_cv (q := 51) (Y := zm_50) (zw_W_I W).1 rfl rfl zm_50_t rfl rfl) rfl rfl rfl rfl rfl (c1) ?_
      refine zw_bne1 (g := 75) (pc' := 46) rfl rfl rfl rfl (fun hv => ?_) (fun hv => ?_)
      · refine zw_ld (n := 1) (k := 0) (f := zp_isR) (pc' := 76) rfl rfl rfl rfl rfl ?_
        refine zw_cn (pc' := 79) (zw_cv (q := 0) (Y := zm_98) W1.1 rfl rfl zm_98_t rfl rfl) rfl rfl rfl rfl rfl (zsc_tn0 W1 (by rw [hr1]; exact g5) (by rw [hr1]; exact g6) (by rw [hr1]; exact g7) (by rw [hr1]; exact g8)) ?_
        refine zw_s (pc' := 80) rfl rfl ?_
        refine zw_ri rfl rfl ?_
        refine ⟨_, _, 3, rfl, by decide, zsc_Bn c2 (by decide) (zsc_rk W1.2 rfl), fun p k h1 h2 h3 => ?_, ?_⟩
        · exact ⟨(zsc_Gne h1).trans (hC p k h1 h2 h3).1, (hC p k h1 h2 h3).2⟩
        · exact (congrArg Int32.toInt (zw_ne (zw_ne (zw_ne rfl rfl) rfl) rfl)).trans t1
      · refine zw_ld (n := 1) (k := 0) (f := zp_isR) (pc' := 47) rfl rfl rfl rfl rfl ?_
        refine zw_ld (n := 1) (k := 0) (f := zp_isR) (pc' := 48) rfl rfl rfl rfl rfl ?_
        refine zw_gR (q := 0) (pc' := 51) W1 rfl rfl rfl rfl (W1.2 0 11 _ rfl) rfl ?_
        refine zw_gI (q := 51) (pc' := 54) W1 rfl rfl rfl rfl rfl rfl ?_
        refine zw_pI (q := 0) (pc' := 57) W1 rfl rfl rfl rfl rfl rfl ?_
        refine zw_ld (n := 1) (k := 0) (f := zp_isR) (pc' := 58) rfl rfl rfl rfl rfl ?_
        refine zw_s (pc' := 59) rfl rfl ?_
        refine zw_gI (q := 0) (pc' := 62) (zw_W_I W1) rfl rfl rfl rfl (zw_ne rfl rfl) rfl ?_
        refine zw_s (pc' := 63) rfl rfl ?_
        refine zw_iadd (pc' := 64) rfl rfl ?_
        refine zw_pI (q := 0) (pc' := 67) (zw_W_I W1) rfl rfl rfl rfl rfl rfl ?_
        refine zw_ld (n := 1) (k := 0) (f := zp_isR) (pc' := 68) rfl rfl rfl rfl rfl ?_
        refine zw_gR (q := 0) (pc' := 71) (zw_W_I (zw_W_I W1)) rfl rfl rfl rfl ((zw_W_I (zw_W_I W1)).2 0 11 _ rfl) rfl ?_
        refine zw_gI (q := 51) (pc' := 74) (zw_W_I (zw_W_I W1)) rfl rfl rfl rfl (zw_ne (zw_ne rfl rfl) rfl) rfl ?_
        refine zw_ri rfl rfl ?_
        refine ⟨_, _, 0, rfl, by decide, zsc_B2 hB c2 hr1 rfl rfl, fun p k h1 h2 h3 => ?_, ?_⟩
        · exact ⟨(zp_u_ne (fun h9 => by have := h9.1; omega)).trans ((zp_u_ne (fun h9 => by have := h9.1; omega)).trans (hC p k h1 h2 h3).1), (hC p k h1 h2 h3).2⟩
        · exact (congrArg Int32.toInt (zw_ne (zw_ne rfl rfl) rfl)).trans t1
    · omega

theorem zsc_tn1 {L : Nat} {σ : Nat → Int32} {d : Nat} {H : zp_H} (W : zw_W H) (g5 : H.2.2.2 0 5 = some 3) (g6 : H.2.2.2 0 6 = some 34) (g7 : H.2.2.2 0 7 = some 23) (g8 : H.2.2.2 0 8 = some 14) : zp_Call L σ (d + 2) 98 [.inr (.inr (some 1))] H (.inl none, zsc_G H 3 34 23 14) := by
  refine zw_ex (zw_met zm_98_t rfl rfl ?_)
  refine zw_ld (n := 1) (k := 0) (f := zp_isR) (pc' := 1) rfl rfl rfl rfl rfl ?_
  refine zw_gR (q := 0) (pc' := 4) W rfl rfl rfl rfl g5 rfl ?_
  refine zw_st (n := 1) (k := 1) (f := zp_isR) (pc' := 5) rfl rfl rfl rfl rfl ?_
  refine zw_ld (n := 1) (k := 0) (f := zp_isR) (pc' := 6) rfl rfl (zw_gt rfl rfl rfl) rfl rfl ?_
  refine zw_gR (q := 0) (pc' := 9) W rfl rfl rfl rfl g6 rfl ?_
  refine zw_st (n := 1) (k := 2) (f := zp_isR) (pc' := 10) rfl rfl rfl rfl rfl ?_
  refine zw_ld (n := 1) (k := 0) (f := zp_isR) (pc' := 11) rfl rfl (zw_gt (zw_gt rfl rfl rfl) rfl rfl) rfl rfl ?_
  refine zw_ld (n := 1) (k := 0) (f := zp_isR) (pc' := 12) rfl rfl (zw_gt (zw_gt rfl rfl rfl) rfl rfl) rfl rfl ?_
  refine zw_gR (q := 0) (pc' := 15) W rfl rfl rfl rfl g7 rfl ?_
  refine zw_pR (q := 0) (pc' := 18) W.1 rfl rfl rfl rfl rfl rfl ?_
  refine zw_ld (n := 1) (k := 0) (f := zp_isR) (pc' := 19) rfl rfl (zw_gt (zw_gt rfl rfl rfl) rfl rfl) rfl rfl ?_
  refine zw_ld (n := 1) (k := 0) (f := zp_isR) (pc' := 20) rfl rfl (zw_gt (zw_gt rfl rfl rfl) rfl rfl) rfl rfl ?_
  refine zw_gR (q := 0) (pc' := 23) (zw_W_R W rfl) rfl rfl rfl rfl (zw_Rne g8 rfl) rfl ?_
  refine zw_pR (q := 0) (pc' := 26) (zw_W_R W rfl).1 rfl rfl rfl rfl rfl rfl ?_
  refine zw_ld (n := 1) (k := 0) (f := zp_isR) (pc' := 27) rfl rfl (zw_gt (zw_gt rfl rfl rfl) rfl rfl) rfl rfl ?_
  refine zw_ld (n := 1) (k := 1) (f := zp_isR) (pc' := 28) rfl rfl (zw_gt zw_g1 rfl rfl) rfl rfl ?_
  refine zw_pR (q := 0) (pc' := 31) (zw_W_R (zw_W_R W rfl) rfl).1 rfl rfl rfl rfl rfl rfl ?_
  refine zw_ld (n := 1) (k := 0) (f := zp_isR) (pc' := 32) rfl rfl (zw_gt (zw_gt rfl rfl rfl) rfl rfl) rfl rfl ?_
  refine zw_ld (n := 1) (k := 2) (f := zp_isR) (pc' := 33) rfl rfl zw_g1 rfl rfl ?_
  refine zw_pR (q := 0) (pc' := 36) (zw_W_R (zw_W_R (zw_W_R W rfl) rfl) rfl).1 rfl rfl rfl rfl rfl rfl ?_
  refine zw_ld (n := 1) (k := 0) (f := zp_isR) (pc' := 37) rfl rfl (zw_gt (zw_gt rfl rfl rfl) rfl rfl) rfl rfl ?_
  refine zw_s (pc' := 38) rfl rfl ?_
  refine zw_pI (q := 0) (pc' := 41) (zw_W_R (zw_W_R (zw_W_R (zw_W_R W rfl) rfl) rfl) rfl) rfl rfl rfl rfl rfl rfl ?_
  refine zw_ld (n := 1) (k := 0) (f := zp_isR) (pc' := 42) rfl rfl (zw_gt (zw_gt rfl rfl rfl) rfl rfl) rfl rfl ?_
  refine zw_s (pc' := 43) rfl rfl ?_
  refine zw_pI (q := 0) (pc' := 46) (zw_W_I (zw_W_R (zw_W_R (zw_W_R (zw_W_R W rfl) rfl) rfl) rfl)) rfl rfl rfl rfl (rfl) rfl ?_
  refine zw_ld (n := 1) (k := 0) (f := zp_isR) (pc' := 47) rfl rfl (zw_gt (zw_gt rfl rfl rfl) rfl rfl) rfl rfl ?_
  refine zw_gR (q := 0) (pc' := 50) (zw_W_I (zw_W_I (zw_W_R (zw_W_R (zw_W_R (zw_W_R W rfl) rfl) rfl) rfl))) rfl rfl rfl rfl ((zw_W_I (zw_W_I (zw_W_R (zw_W_R (zw_W_R (zw_W_R W rfl) rfl) rfl) rfl))).2 0 15 _ rfl) rfl ?_
  refine zw_cn (pc' := 53) (zw_cv (q := 60) (Y := zm_99) (zw_W_I (zw_W_I (zw_W_R (zw_W_R (zw_W_R (zw_W_R W rfl) rfl) rfl) rfl))).1 rfl rfl zm_99_t rfl rfl) rfl rfl rfl rfl rfl (zsc_fg (zw_W_I (zw_W_I (zw_W_R (zw_W_R (zw_W_R (zw_W_R W rfl) rfl) rfl) rfl)))) ?_
  refine zw_rn rfl rfl ?_
  rfl

theorem zsc_y1 {L : Nat} {σ : Nat → Int32} {d : Nat} {H : zp_H} {x : Int32} (hB : zk_Bs (zB_c 1) zg zJc H) (hx : 0 ≤ x.toInt ∧ x.toInt ≤ (H.2.1 0 1).toInt) : ∃ X, zp_Call L σ (d + 49) 49 [.inr (.inr (some 1)), .inl x] H X ∧ (fun X : zp_X => ∃ (v : Int32) (H1 : zp_H) (c : Nat), X = (.inl (some (.inl v)), H1) ∧ c < 4 ∧ zk_Bs (zB_c c) zg zJc H1 ∧ zf_C H H1 ∧ (H1.2.1 0 1).toInt = 0) X := by
  have hb := zB_Bc hB
  have W := zB_Wd (zB_dn hb)
  have r1 := zB_fr1 (zB_dn hb) (p := 0) (k := 1) (r := (0, 700)) rfl
  have r1 : 0 ≤ (H.2.1 0 1).toInt ∧ (H.2.1 0 1).toInt ≤ 700 := r1
  have g5 : H.2.2.2 0 5 = some 3 := hB.2.1 0 5 _ rfl
  have g6 : H.2.2.2 0 6 = some 34 := hB.2.1 0 6 _ rfl
  have g7 : H.2.2.2 0 7 = some 23 := hB.2.1 0 7 _ rfl
  have g8 : H.2.2.2 0 8 = some 14 := hB.2.1 0 8 _ rfl
  have b0 : zk_Bs zB zg zJc (zw_I H 0 1 (Int32.ofInt 0)) := zB_up (zB_putf (p := 0) (k := 1) (x := Int32.ofInt 0) (zB_dn hb) rfl (fun r hr => by cases hr; decide) (zJc_I rfl hb.2.2.2.2.2.2.2)) (by
    rw [show (zw_I H 0 1 (Int32.ofInt 0)).2.1 52 4 = H.2.1 52 4 from zw_ne rfl rfl, show (zw_I H 0 1 (Int32.ofInt 0)).2.1 52 5 = H.2.1 52 5 from zw_ne rfl rfl]
    exact zB_cn hb)
  obtain ⟨⟨x1, H1⟩, c1, c2, c3, o, o1, o2⟩ := zc_e85 (L := L) (σ := σ) zB_W zh_all (d + 48) (by show 48 ≤ d + 48; omega) [.inr (.inr (some 52)), .inl x, .inr (.inr (some 23)), .inr (.inr (some 14))] (zw_I H 0 1 (Int32.ofInt 0)) ⟨rfl, ⟨by show (0 : Int) ≤ _; omega, by show _ ≤ (700 : Int); omega⟩, rfl, rfl, trivial⟩ b0 (fun f hf => absurd hf List.not_mem_nil)
  obtain ⟨v, rfl⟩ : ∃ v, x1 = .inl (some (.inl v)) := zI_v1 (outs := ze_e85.2.2.2.2.2.1) rfl ⟨o, o1, o2.1⟩
  have W1 := zB_Wd (zB_dn c2)
  have hr1 : H1.2.2.2 = H.2.2.2 := c3.1
  have t1 : (H1.2.1 0 1).toInt = 0 := by
    rw [(zI_in c3 (p := 0) (k := 1) rfl rfl (by decide)).1, zw_eq]
    decide
  have hC : zf_C H H1 := by
    intro p k h1 h2 h3
    have z := zI_frc c3 (by decide +kernel) (by decide +kernel) p k h1 h2 h3
    exact ⟨z.1.trans (zp_u_ne (fun h9 => by have := h9.1; omega)), z.2⟩
  refine zw_met zm_49_t rfl rfl ?_
  refine zw_ld (n := 1) (k := 1) (f := zp_isI) (pc' := 1) rfl rfl rfl rfl rfl ?_
  refine zw_blt1 (g := 12) (pc' := 4) rfl rfl rfl rfl (fun hb0 => ?_) (fun hb0 => ?_)
  · omega
  · refine zw_ld (n := 1) (k := 1) (f := zp_isI) (pc' := 5) rfl rfl rfl rfl rfl ?_
    refine zw_ld (n := 1) (k := 0) (f := zp_isR) (pc' := 6) rfl rfl rfl rfl rfl ?_
    refine zw_gI (q := 0) (pc' := 9) W rfl rfl rfl rfl rfl rfl ?_
    refine zw_ble2 (g := 22) (pc' := 12) rfl rfl rfl rfl rfl (fun hb1 => ?_) (fun hb1 => ?_)
    · refine zw_ld (n := 1) (k := 0) (f := zp_isR) (pc' := 23) rfl rfl rfl rfl rfl ?_
      refine zw_s (pc' := 24) rfl rfl ?_
      refine zw_pI (q := 0) (pc' := 27) W rfl rfl rfl rfl rfl rfl ?_
      refine zw_ld (n := 1) (k := 0) (f := zp_isR) (pc' := 28) rfl rfl rfl rfl rfl ?_
      refine zw_gR (q := 0) (pc' := 31) (zw_W_I W) rfl rfl rfl rfl ((zw_W_I W).2 0 11 _ rfl) rfl ?_
      refine zw_ld (n := 1) (k := 1) (f := zp_isI) (pc' := 32) rfl rfl rfl rfl rfl ?_
      refine zw_ld (n := 1) (k := 0) (f := zp_isR) (pc' := 33) rfl rfl rfl rfl rfl ?_
      refine zw_gR (q := 0) (pc' := 36) (zw_W_I W) rfl rfl rfl rfl g7 rfl ?_
      refine zw_ld (n := 1) (k := 0) (f := zp_isR) (pc' := 37) rfl rfl rfl rfl rfl ?_
      refine zw_gR (q := 0) (pc' := 40) (zw_W_I W) rfl rfl rfl rfl g8 rfl ?_
      refine zw_c (pc' := 43) (zw_cv (q := 51) (Y := zm_50) (zw_W_I W).1 rfl rfl zm_50_t rfl rfl) rfl rfl rfl rfl rfl (c1) ?_
      refine zw_bne1 (g := 75) (pc' := 46) rfl rfl rfl rfl (fun hv => ?_) (fun hv => ?_)
      · refine zw_ld (n := 1) (k := 0) (f := zp_isR) (pc' := 76) rfl rfl rfl rfl rfl ?_
        refine zw_cn (pc' := 79) (zw_cv (q := 0) (Y := zm_98) W1.1 rfl rfl zm_98_t rfl rfl) rfl rfl rfl rfl rfl (zsc_tn1 W1 (by rw [hr1]; exact g5) (by rw [hr1]; exact g6) (by rw [hr1]; exact g7) (by rw [hr1]; exact g8)) ?_
        refine zw_s (pc' := 80) rfl rfl ?_
        refine zw_ri rfl rfl ?_
        refine ⟨_, _, 2, rfl, by decide, zsc_Bn c2 (by decide) (zsc_rk W1.2 rfl), fun p k h1 h2 h3 => ?_, ?_⟩
        · exact ⟨(zsc_Gne h1).trans (hC p k h1 h2 h3).1, (hC p k h1 h2 h3).2⟩
        · exact (congrArg Int32.toInt (zw_ne (zw_ne (zw_ne rfl rfl) rfl) rfl)).trans t1
      · refine zw_ld (n := 1) (k := 0) (f := zp_isR) (pc' := 47) rfl rfl rfl rfl rfl ?_
        refine zw_ld (n := 1) (k := 0) (f := zp_isR) (pc' := 48) rfl rfl rfl rfl rfl ?_
        refine zw_gR (q := 0) (pc' := 51) W1 rfl rfl rfl rfl (W1.2 0 11 _ rfl) rfl ?_
        refine zw_gI (q := 51) (pc' := 54) W1 rfl rfl rfl rfl rfl rfl ?_
        refine zw_pI (q := 0) (pc' := 57) W1 rfl rfl rfl rfl rfl rfl ?_
        refine zw_ld (n := 1) (k := 0) (f := zp_isR) (pc' := 58) rfl rfl rfl rfl rfl ?_
        refine zw_s (pc' := 59) rfl rfl ?_
        refine zw_gI (q := 0) (pc' := 62) (zw_W_I W1) rfl rfl rfl rfl (zw_ne rfl rfl) rfl ?_
        refine zw_s (pc' := 63) rfl rfl ?_
        refine zw_iadd (pc' := 64) rfl rfl ?_
        refine zw_pI (q := 0) (pc' := 67) (zw_W_I W1) rfl rfl rfl rfl rfl rfl ?_
        refine zw_ld (n := 1) (k := 0) (f := zp_isR) (pc' := 68) rfl rfl rfl rfl rfl ?_
        refine zw_gR (q := 0) (pc' := 71) (zw_W_I (zw_W_I W1)) rfl rfl rfl rfl ((zw_W_I (zw_W_I W1)).2 0 11 _ rfl) rfl ?_
        refine zw_gI (q := 51) (pc' := 74) (zw_W_I (zw_W_I W1)) rfl rfl rfl rfl (zw_ne (zw_ne rfl rfl) rfl) rfl ?_
        refine zw_ri rfl rfl ?_
        refine ⟨_, _, 1, rfl, by decide, zsc_B2 hB c2 hr1 rfl rfl, fun p k h1 h2 h3 => ?_, ?_⟩
        · exact ⟨(zp_u_ne (fun h9 => by have := h9.1; omega)).trans ((zp_u_ne (fun h9 => by have := h9.1; omega)).trans (hC p k h1 h2 h3).1), (hC p k h1 h2 h3).2⟩
        · exact (congrArg Int32.toInt (zw_ne (zw_ne rfl rfl) rfl)).trans t1
    · omega

theorem zsc_tn2 {L : Nat} {σ : Nat → Int32} {d : Nat} {H : zp_H} (W : zw_W H) (g5 : H.2.2.2 0 5 = some 23) (g6 : H.2.2.2 0 6 = some 14) (g7 : H.2.2.2 0 7 = some 3) (g8 : H.2.2.2 0 8 = some 34) : zp_Call L σ (d + 2) 98 [.inr (.inr (some 1))] H (.inl none, zsc_G H 23 14 3 34) := by
  refine zw_ex (zw_met zm_98_t rfl rfl ?_)
  refine zw_ld (n := 1) (k := 0) (f := zp_isR) (pc' := 1) rfl rfl rfl rfl rfl ?_
  refine zw_gR (q := 0) (pc' := 4) W rfl rfl rfl rfl g5 rfl ?_
  refine zw_st (n := 1) (k := 1) (f := zp_isR) (pc' := 5) rfl rfl rfl rfl rfl ?_
  refine zw_ld (n := 1) (k := 0) (f := zp_isR) (pc' := 6) rfl rfl (zw_gt rfl rfl rfl) rfl rfl ?_
  refine zw_gR (q := 0) (pc' := 9) W rfl rfl rfl rfl g6 rfl ?_
  refine zw_st (n := 1) (k := 2) (f := zp_isR) (pc' := 10) rfl rfl rfl rfl rfl ?_
  refine zw_ld (n := 1) (k := 0) (f := zp_isR) (pc' := 11) rfl rfl (zw_gt (zw_gt rfl rfl rfl) rfl rfl) rfl rfl ?_
  refine zw_ld (n := 1) (k := 0) (f := zp_isR) (pc' := 12) rfl rfl (zw_gt (zw_gt rfl rfl rfl) rfl rfl) rfl rfl ?_
  refine zw_gR (q := 0) (pc' := 15) W rfl rfl rfl rfl g7 rfl ?_
  refine zw_pR (q := 0) (pc' := 18) W.1 rfl rfl rfl rfl rfl rfl ?_
  refine zw_ld (n := 1) (k := 0) (f := zp_isR) (pc' := 19) rfl rfl (zw_gt (zw_gt rfl rfl rfl) rfl rfl) rfl rfl ?_
  refine zw_ld (n := 1) (k := 0) (f := zp_isR) (pc' := 20) rfl rfl (zw_gt (zw_gt rfl rfl rfl) rfl rfl) rfl rfl ?_
  refine zw_gR (q := 0) (pc' := 23) (zw_W_R W rfl) rfl rfl rfl rfl (zw_Rne g8 rfl) rfl ?_
  refine zw_pR (q := 0) (pc' := 26) (zw_W_R W rfl).1 rfl rfl rfl rfl rfl rfl ?_
  refine zw_ld (n := 1) (k := 0) (f := zp_isR) (pc' := 27) rfl rfl (zw_gt (zw_gt rfl rfl rfl) rfl rfl) rfl rfl ?_
  refine zw_ld (n := 1) (k := 1) (f := zp_isR) (pc' := 28) rfl rfl (zw_gt zw_g1 rfl rfl) rfl rfl ?_
  refine zw_pR (q := 0) (pc' := 31) (zw_W_R (zw_W_R W rfl) rfl).1 rfl rfl rfl rfl rfl rfl ?_
  refine zw_ld (n := 1) (k := 0) (f := zp_isR) (pc' := 32) rfl rfl (zw_gt (zw_gt rfl rfl rfl) rfl rfl) rfl rfl ?_
  refine zw_ld (n := 1) (k := 2) (f := zp_isR) (pc' := 33) rfl rfl zw_g1 rfl rfl ?_
  refine zw_pR (q := 0) (pc' := 36) (zw_W_R (zw_W_R (zw_W_R W rfl) rfl) rfl).1 rfl rfl rfl rfl rfl rfl ?_
  refine zw_ld (n := 1) (k := 0) (f := zp_isR) (pc' := 37) rfl rfl (zw_gt (zw_gt rfl rfl rfl) rfl rfl) rfl rfl ?_
  refine zw_s (pc' := 38) rfl rfl ?_
  refine zw_pI (q := 0) (pc' := 41) (zw_W_R (zw_W_R (zw_W_R (zw_W_R W rfl) rfl) rfl) rfl) rfl rfl rfl rfl rfl rfl ?_
  refine zw_ld (n := 1) (k := 0) (f := zp_isR) (pc' := 42) rfl rfl (zw_gt (zw_gt rfl rfl rfl) rfl rfl) rfl rfl ?_
  refine zw_s (pc' := 43) rfl rfl ?_
  refine zw_pI (q := 0) (pc' := 46) (zw_W_I (zw_W_R (zw_W_R (zw_W_R (zw_W_R W rfl) rfl) rfl) rfl)) rfl rfl rfl rfl (rfl) rfl ?_
  refine zw_ld (n := 1) (k := 0) (f := zp_isR) (pc' := 47) rfl rfl (zw_gt (zw_gt rfl rfl rfl) rfl rfl) rfl rfl ?_
  refine zw_gR (q := 0) (pc' := 50) (zw_W_I (zw_W_I (zw_W_R (zw_W_R (zw_W_R (zw_W_R W rfl) rfl) rfl) rfl))) rfl rfl rfl rfl ((zw_W_I (zw_W_I (zw_W_R (zw_W_R (zw_W_R (zw_W_R W rfl) rfl) rfl) rfl))).2 0 15 _ rfl) rfl ?_
  refine zw_cn (pc' := 53) (zw_cv (q := 60) (Y := zm_99) (zw_W_I (zw_W_I (zw_W_R (zw_W_R (zw_W_R (zw_W_R W rfl) rfl) rfl) rfl))).1 rfl rfl zm_99_t rfl rfl) rfl rfl rfl rfl rfl (zsc_fg (zw_W_I (zw_W_I (zw_W_R (zw_W_R (zw_W_R (zw_W_R W rfl) rfl) rfl) rfl)))) ?_
  refine zw_rn rfl rfl ?_
  rfl

theorem zsc_y2 {L : Nat} {σ : Nat → Int32} {d : Nat} {H : zp_H} {x : Int32} (hB : zk_Bs (zB_c 2) zg zJc H) (hx : 0 ≤ x.toInt ∧ x.toInt ≤ (H.2.1 0 1).toInt) : ∃ X, zp_Call L σ (d + 49) 49 [.inr (.inr (some 1)), .inl x] H X ∧ (fun X : zp_X => ∃ (v : Int32) (H1 : zp_H) (c : Nat), X = (.inl (some (.inl v)), H1) ∧ c < 4 ∧ zk_Bs (zB_c c) zg zJc H1 ∧ zf_C H H1 ∧ (H1.2.1 0 1).toInt = 0) X := by
  have hb := zB_Bc hB
  have W := zB_Wd (zB_dn hb)
  have r1 := zB_fr1 (zB_dn hb) (p := 0) (k := 1) (r := (0, 700)) rfl
  have r1 : 0 ≤ (H.2.1 0 1).toInt ∧ (H.2.1 0 1).toInt ≤ 700 := r1
  have g5 : H.2.2.2 0 5 = some 23 := hB.2.1 0 5 _ rfl
  have g6 : H.2.2.2 0 6 = some 14 := hB.2.1 0 6 _ rfl
  have g7 : H.2.2.2 0 7 = some 3 := hB.2.1 0 7 _ rfl
  have g8 : H.2.2.2 0 8 = some 34 := hB.2.1 0 8 _ rfl
  have b0 : zk_Bs zB zg zJc (zw_I H 0 1 (Int32.ofInt 0)) := zB_up (zB_putf (p := 0) (k := 1) (x := Int32.ofInt 0) (zB_dn hb) rfl (fun r hr => by cases hr; decide) (zJc_I rfl hb.2.2.2.2.2.2.2)) (by
    rw [show (zw_I H 0 1 (Int32.ofInt 0)).2.1 52 4 = H.2.1 52 4 from zw_ne rfl rfl, show (zw_I H 0 1 (Int32.ofInt 0)).2.1 52 5 = H.2.1 52 5 from zw_ne rfl rfl]
    exact zB_cn hb)
  obtain ⟨⟨x1, H1⟩, c1, c2, c3, o, o1, o2⟩ := zc_e152 (L := L) (σ := σ) zB_W zh_all (d + 48) (by show 48 ≤ d + 48; omega) [.inr (.inr (some 52)), .inl x, .inr (.inr (some 3)), .inr (.inr (some 34))] (zw_I H 0 1 (Int32.ofInt 0)) ⟨rfl, ⟨by show (0 : Int) ≤ _; omega, by show _ ≤ (700 : Int); omega⟩, rfl, rfl, trivial⟩ b0 (fun f hf => absurd hf List.not_mem_nil)
  obtain ⟨v, rfl⟩ : ∃ v, x1 = .inl (some (.inl v)) := zI_v1 (outs := ze_e152.2.2.2.2.2.1) rfl ⟨o, o1, o2.1⟩
  have W1 := zB_Wd (zB_dn c2)
  have hr1 : H1.2.2.2 = H.2.2.2 := c3.1
  have t1 : (H1.2.1 0 1).toInt = 0 := by
    rw [(zI_in c3 (p := 0) (k := 1) rfl rfl (by decide)).1, zw_eq]
    decide
  have hC : zf_C H H1 := by
    intro p k h1 h2 h3
    have z := zI_frc c3 (by decide +kernel) (by decide +kernel) p k h1 h2 h3
    exact ⟨z.1.trans (zp_u_ne (fun h9 => by have := h9.1; omega)), z.2⟩
  refine zw_met zm_49_t rfl rfl ?_
  refine zw_ld (n := 1) (k := 1) (f := zp_isI) (pc' := 1) rfl rfl rfl rfl rfl ?_
  refine zw_blt1 (g := 12) (pc' := 4) rfl rfl rfl rfl (fun hb0 => ?_) (fun hb0 => ?_)
  · omega
  · refine zw_ld (n := 1) (k := 1) (f := zp_isI) (pc' := 5) rfl rfl rfl rfl rfl ?_
    refine zw_ld (n := 1) (k := 0) (f := zp_isR) (pc' := 6) rfl rfl rfl rfl rfl ?_
    refine zw_gI (q := 0) (pc' := 9) W rfl rfl rfl rfl rfl rfl ?_
    refine zw_ble2 (g := 22) (pc' := 12) rfl rfl rfl rfl rfl (fun hb1 => ?_) (fun hb1 => ?_)
    · refine zw_ld (n := 1) (k := 0) (f := zp_isR) (pc' := 23) rfl rfl rfl rfl rfl ?_
      refine zw_s (pc' := 24) rfl rfl ?_
      refine zw_pI (q := 0) (pc' := 27) W rfl rfl rfl rfl rfl rfl ?_
      refine zw_ld (n := 1) (k := 0) (f := zp_isR) (pc' := 28) rfl rfl rfl rfl rfl ?_
      refine zw_gR (q := 0) (pc' := 31) (zw_W_I W) rfl rfl rfl rfl ((zw_W_I W).2 0 11 _ rfl) rfl ?_
      refine zw_ld (n := 1) (k := 1) (f := zp_isI) (pc' := 32) rfl rfl rfl rfl rfl ?_
      refine zw_ld (n := 1) (k := 0) (f := zp_isR) (pc' := 33) rfl rfl rfl rfl rfl ?_
      refine zw_gR (q := 0) (pc' := 36) (zw_W_I W) rfl rfl rfl rfl g7 rfl ?_
      refine zw_ld (n := 1) (k := 0) (f := zp_isR) (pc' := 37) rfl rfl rfl rfl rfl ?_
      refine zw_gR (q := 0) (pc' := 40) (zw_W_I W) rfl rfl rfl rfl g8 rfl ?_
      refine zw_c (pc' := 43) (zw_cv (q := 51) (Y := zm_50) (zw_W_I W).1 rfl rfl zm_50_t rfl rfl) rfl rfl rfl rfl rfl (c1) ?_
      refine zw_bne1 (g := 75) (pc' := 46) rfl rfl rfl rfl (fun hv => ?_) (fun hv => ?_)
      · refine zw_ld (n := 1) (k := 0) (f := zp_isR) (pc' := 76) rfl rfl rfl rfl rfl ?_
        refine zw_cn (pc' := 79) (zw_cv (q := 0) (Y := zm_98) W1.1 rfl rfl zm_98_t rfl rfl) rfl rfl rfl rfl rfl (zsc_tn2 W1 (by rw [hr1]; exact g5) (by rw [hr1]; exact g6) (by rw [hr1]; exact g7) (by rw [hr1]; exact g8)) ?_
        refine zw_s (pc' := 80) rfl rfl ?_
        refine zw_ri rfl rfl ?_
        refine ⟨_, _, 1, rfl, by decide, zsc_Bn c2 (by decide) (zsc_rk W1.2 rfl), fun p k h1 h2 h3 => ?_, ?_⟩
        · exact ⟨(zsc_Gne h1).trans (hC p k h1 h2 h3).1, (hC p k h1 h2 h3).2⟩
        · exact (congrArg Int32.toInt (zw_ne (zw_ne (zw_ne rfl rfl) rfl) rfl)).trans t1
      · refine zw_ld (n := 1) (k := 0) (f := zp_isR) (pc' := 47) rfl rfl rfl rfl rfl ?_
        refine zw_ld (n := 1) (k := 0) (f := zp_isR) (pc' := 48) rfl rfl rfl rfl rfl ?_
        refine zw_gR (q := 0) (pc' := 51) W1 rfl rfl rfl rfl (W1.2 0 11 _ rfl) rfl ?_
        refine zw_gI (q := 51) (pc' := 54) W1 rfl rfl rfl rfl rfl rfl ?_
        refine zw_pI (q := 0) (pc' := 57) W1 rfl rfl rfl rfl rfl rfl ?_
        refine zw_ld (n := 1) (k := 0) (f := zp_isR) (pc' := 58) rfl rfl rfl rfl rfl ?_
        refine zw_s (pc' := 59) rfl rfl ?_
        refine zw_gI (q := 0) (pc' := 62) (zw_W_I W1) rfl rfl rfl rfl (zw_ne rfl rfl) rfl ?_
        refine zw_s (pc' := 63) rfl rfl ?_
        refine zw_iadd (pc' := 64) rfl rfl ?_
        refine zw_pI (q := 0) (pc' := 67) (zw_W_I W1) rfl rfl rfl rfl rfl rfl ?_
        refine zw_ld (n := 1) (k := 0) (f := zp_isR) (pc' := 68) rfl rfl rfl rfl rfl ?_
        refine zw_gR (q := 0) (pc' := 71) (zw_W_I (zw_W_I W1)) rfl rfl rfl rfl ((zw_W_I (zw_W_I W1)).2 0 11 _ rfl) rfl ?_
        refine zw_gI (q := 51) (pc' := 74) (zw_W_I (zw_W_I W1)) rfl rfl rfl rfl (zw_ne (zw_ne rfl rfl) rfl) rfl ?_
        refine zw_ri rfl rfl ?_
        refine ⟨_, _, 2, rfl, by decide, zsc_B2 hB c2 hr1 rfl rfl, fun p k h1 h2 h3 => ?_, ?_⟩
        · exact ⟨(zp_u_ne (fun h9 => by have := h9.1; omega)).trans ((zp_u_ne (fun h9 => by have := h9.1; omega)).trans (hC p k h1 h2 h3).1), (hC p k h1 h2 h3).2⟩
        · exact (congrArg Int32.toInt (zw_ne (zw_ne rfl rfl) rfl)).trans t1
    · omega

theorem zsc_tn3 {L : Nat} {σ : Nat → Int32} {d : Nat} {H : zp_H} (W : zw_W H) (g5 : H.2.2.2 0 5 = some 23) (g6 : H.2.2.2 0 6 = some 34) (g7 : H.2.2.2 0 7 = some 3) (g8 : H.2.2.2 0 8 = some 14) : zp_Call L σ (d + 2) 98 [.inr (.inr (some 1))] H (.inl none, zsc_G H 23 34 3 14) := by
  refine zw_ex (zw_met zm_98_t rfl rfl ?_)
  refine zw_ld (n := 1) (k := 0) (f := zp_isR) (pc' := 1) rfl rfl rfl rfl rfl ?_
  refine zw_gR (q := 0) (pc' := 4) W rfl rfl rfl rfl g5 rfl ?_
  refine zw_st (n := 1) (k := 1) (f := zp_isR) (pc' := 5) rfl rfl rfl rfl rfl ?_
  refine zw_ld (n := 1) (k := 0) (f := zp_isR) (pc' := 6) rfl rfl (zw_gt rfl rfl rfl) rfl rfl ?_
  refine zw_gR (q := 0) (pc' := 9) W rfl rfl rfl rfl g6 rfl ?_
  refine zw_st (n := 1) (k := 2) (f := zp_isR) (pc' := 10) rfl rfl rfl rfl rfl ?_
  refine zw_ld (n := 1) (k := 0) (f := zp_isR) (pc' := 11) rfl rfl (zw_gt (zw_gt rfl rfl rfl) rfl rfl) rfl rfl ?_
  refine zw_ld (n := 1) (k := 0) (f := zp_isR) (pc' := 12) rfl rfl (zw_gt (zw_gt rfl rfl rfl) rfl rfl) rfl rfl ?_
  refine zw_gR (q := 0) (pc' := 15) W rfl rfl rfl rfl g7 rfl ?_
  refine zw_pR (q := 0) (pc' := 18) W.1 rfl rfl rfl rfl rfl rfl ?_
  refine zw_ld (n := 1) (k := 0) (f := zp_isR) (pc' := 19) rfl rfl (zw_gt (zw_gt rfl rfl rfl) rfl rfl) rfl rfl ?_
  refine zw_ld (n := 1) (k := 0) (f := zp_isR) (pc' := 20) rfl rfl (zw_gt (zw_gt rfl rfl rfl) rfl rfl) rfl rfl ?_
  refine zw_gR (q := 0) (pc' := 23) (zw_W_R W rfl) rfl rfl rfl rfl (zw_Rne g8 rfl) rfl ?_
  refine zw_pR (q := 0) (pc' := 26) (zw_W_R W rfl).1 rfl rfl rfl rfl rfl rfl ?_
  refine zw_ld (n := 1) (k := 0) (f := zp_isR) (pc' := 27) rfl rfl (zw_gt (zw_gt rfl rfl rfl) rfl rfl) rfl rfl ?_
  refine zw_ld (n := 1) (k := 1) (f := zp_isR) (pc' := 28) rfl rfl (zw_gt zw_g1 rfl rfl) rfl rfl ?_
  refine zw_pR (q := 0) (pc' := 31) (zw_W_R (zw_W_R W rfl) rfl).1 rfl rfl rfl rfl rfl rfl ?_
  refine zw_ld (n := 1) (k := 0) (f := zp_isR) (pc' := 32) rfl rfl (zw_gt (zw_gt rfl rfl rfl) rfl rfl) rfl rfl ?_
  refine zw_ld (n := 1) (k := 2) (f := zp_isR) (pc' := 33) rfl rfl zw_g1 rfl rfl ?_
  refine zw_pR (q := 0) (pc' := 36) (zw_W_R (zw_W_R (zw_W_R W rfl) rfl) rfl).1 rfl rfl rfl rfl rfl rfl ?_
  refine zw_ld (n := 1) (k := 0) (f := zp_isR) (pc' := 37) rfl rfl (zw_gt (zw_gt rfl rfl rfl) rfl rfl) rfl rfl ?_
  refine zw_s (pc' := 38) rfl rfl ?_
  refine zw_pI (q := 0) (pc' := 41) (zw_W_R (zw_W_R (zw_W_R (zw_W_R W rfl) rfl) rfl) rfl) rfl rfl rfl rfl rfl rfl ?_
  refine zw_ld (n := 1) (k := 0) (f := zp_isR) (pc' := 42) rfl rfl (zw_gt (zw_gt rfl rfl rfl) rfl rfl) rfl rfl ?_
  refine zw_s (pc' := 43) rfl rfl ?_
  refine zw_pI (q := 0) (pc' := 46) (zw_W_I (zw_W_R (zw_W_R (zw_W_R (zw_W_R W rfl) rfl) rfl) rfl)) rfl rfl rfl rfl (rfl) rfl ?_
  refine zw_ld (n := 1) (k := 0) (f := zp_isR) (pc' := 47) rfl rfl (zw_gt (zw_gt rfl rfl rfl) rfl rfl) rfl rfl ?_
  refine zw_gR (q := 0) (pc' := 50) (zw_W_I (zw_W_I (zw_W_R (zw_W_R (zw_W_R (zw_W_R W rfl) rfl) rfl) rfl))) rfl rfl rfl rfl ((zw_W_I (zw_W_I (zw_W_R (zw_W_R (zw_W_R (zw_W_R W rfl) rfl) rfl) rfl))).2 0 15 _ rfl) rfl ?_
  refine zw_cn (pc' := 53) (zw_cv (q := 60) (Y := zm_99) (zw_W_I (zw_W_I (zw_W_R (zw_W_R (zw_W_R (zw_W_R W rfl) rfl) rfl) rfl))).1 rfl rfl zm_99_t rfl rfl) rfl rfl rfl rfl rfl (zsc_fg (zw_W_I (zw_W_I (zw_W_R (zw_W_R (zw_W_R (zw_W_R W rfl) rfl) rfl) rfl)))) ?_
  refine zw_rn rfl rfl ?_
  rfl

theorem zsc_y3 {L : Nat} {σ : Nat → Int32} {d : Nat} {H : zp_H} {x : Int32} (hB : zk_Bs (zB_c 3) zg zJc H) (hx : 0 ≤ x.toInt ∧ x.toInt ≤ (H.2.1 0 1).toInt) : ∃ X, zp_Call L σ (d + 49) 49 [.inr (.inr (some 1)), .inl x] H X ∧ (fun X : zp_X => ∃ (v : Int32) (H1 : zp_H) (c : Nat), X = (.inl (some (.inl v)), H1) ∧ c < 4 ∧ zk_Bs (zB_c c) zg zJc H1 ∧ zf_C H H1 ∧ (H1.2.1 0 1).toInt = 0) X := by
  have hb := zB_Bc hB
  have W := zB_Wd (zB_dn hb)
  have r1 := zB_fr1 (zB_dn hb) (p := 0) (k := 1) (r := (0, 700)) rfl
  have r1 : 0 ≤ (H.2.1 0 1).toInt ∧ (H.2.1 0 1).toInt ≤ 700 := r1
  have g5 : H.2.2.2 0 5 = some 23 := hB.2.1 0 5 _ rfl
  have g6 : H.2.2.2 0 6 = some 34 := hB.2.1 0 6 _ rfl
  have g7 : H.2.2.2 0 7 = some 3 := hB.2.1 0 7 _ rfl
  have g8 : H.2.2.2 0 8 = some 14 := hB.2.1 0 8 _ rfl
  have b0 : zk_Bs zB zg zJc (zw_I H 0 1 (Int32.ofInt 0)) := zB_up (zB_putf (p := 0) (k := 1) (x := Int32.ofInt 0) (zB_dn hb) rfl (fun r hr => by cases hr; decide) (zJc_I rfl hb.2.2.2.2.2.2.2)) (by
    rw [show (zw_I H 0 1 (Int32.ofInt 0)).2.1 52 4 = H.2.1 52 4 from zw_ne rfl rfl, show (zw_I H 0 1 (Int32.ofInt 0)).2.1 52 5 = H.2.1 52 5 from zw_ne rfl rfl]
    exact zB_cn hb)
  obtain ⟨⟨x1, H1⟩, c1, c2, c3, o, o1, o2⟩ := zc_e161 (L := L) (σ := σ) zB_W zh_all (d + 48) (by show 48 ≤ d + 48; omega) [.inr (.inr (some 52)), .inl x, .inr (.inr (some 3)), .inr (.inr (some 14))] (zw_I H 0 1 (Int32.ofInt 0)) ⟨rfl, ⟨by show (0 : Int) ≤ _; omega, by show _ ≤ (700 : Int); omega⟩, rfl, rfl, trivial⟩ b0 (fun f hf => absurd hf List.not_mem_nil)
  obtain ⟨v, rfl⟩ : ∃ v, x1 = .inl (some (.inl v)) := zI_v1 (outs := ze_e161.2.2.2.2.2.1) rfl ⟨o, o1, o2.1⟩
  have W1 := zB_Wd (zB_dn c2)
  have hr1 : H1.2.2.2 = H.2.2.2 := c3.1
  have t1 : (H1.2.1 0 1).toInt = 0 := by
    rw [(zI_in c3 (p := 0) (k := 1) rfl rfl (by decide)).1, zw_eq]
    decide
  have hC : zf_C H H1 := by
    intro p k h1 h2 h3
    have z := zI_frc c3 (by decide +kernel) (by decide +kernel) p k h1 h2 h3
    exact ⟨z.1.trans (zp_u_ne (fun h9 => by have := h9.1; omega)), z.2⟩
  refine zw_met zm_49_t rfl rfl ?_
  refine zw_ld (n := 1) (k := 1) (f := zp_isI) (pc' := 1) rfl rfl rfl rfl rfl ?_
  refine zw_blt1 (g := 12) (pc' := 4) rfl rfl rfl rfl (fun hb0 => ?_) (fun hb0 => ?_)
  · omega
  · refine zw_ld (n := 1) (k := 1) (f := zp_isI) (pc' := 5) rfl rfl rfl rfl rfl ?_
    refine zw_ld (n := 1) (k := 0) (f := zp_isR) (pc' := 6) rfl rfl rfl rfl rfl ?_
    refine zw_gI (q := 0) (pc' := 9) W rfl rfl rfl rfl rfl rfl ?_
    refine zw_ble2 (g := 22) (pc' := 12) rfl rfl rfl rfl rfl (fun hb1 => ?_) (fun hb1 => ?_)
    · refine zw_ld (n := 1) (k := 0) (f := zp_isR) (pc' := 23) rfl rfl rfl rfl rfl ?_
      refine zw_s (pc' := 24) rfl rfl ?_
      refine zw_pI (q := 0) (pc' := 27) W rfl rfl rfl rfl rfl rfl ?_
      refine zw_ld (n := 1) (k := 0) (f := zp_isR) (pc' := 28) rfl rfl rfl rfl rfl ?_
      refine zw_gR (q := 0) (pc' := 31) (zw_W_I W) rfl rfl rfl rfl ((zw_W_I W).2 0 11 _ rfl) rfl ?_
      refine zw_ld (n := 1) (k := 1) (f := zp_isI) (pc' := 32) rfl rfl rfl rfl rfl ?_
      refine zw_ld (n := 1) (k := 0) (f := zp_isR) (pc' := 33) rfl rfl rfl rfl rfl ?_
      refine zw_gR (q := 0) (pc' := 36) (zw_W_I W) rfl rfl rfl rfl g7 rfl ?_
      refine zw_ld (n := 1) (k := 0) (f := zp_isR) (pc' := 37) rfl rfl rfl rfl rfl ?_
      refine zw_gR (q := 0) (pc' := 40) (zw_W_I W) rfl rfl rfl rfl g8 rfl ?_
      refine zw_c (pc' := 43) (zw_cv (q := 51) (Y := zm_50) (zw_W_I W).1 rfl rfl zm_50_t rfl rfl) rfl rfl rfl rfl rfl (c1) ?_
      refine zw_bne1 (g := 75) (pc' := 46) rfl rfl rfl rfl (fun hv => ?_) (fun hv => ?_)
      · refine zw_ld (n := 1) (k := 0) (f := zp_isR) (pc' := 76) rfl rfl rfl rfl rfl ?_
        refine zw_cn (pc' := 79) (zw_cv (q := 0) (Y := zm_98) W1.1 rfl rfl zm_98_t rfl rfl) rfl rfl rfl rfl rfl (zsc_tn3 W1 (by rw [hr1]; exact g5) (by rw [hr1]; exact g6) (by rw [hr1]; exact g7) (by rw [hr1]; exact g8)) ?_
        refine zw_s (pc' := 80) rfl rfl ?_
        refine zw_ri rfl rfl ?_
        refine ⟨_, _, 0, rfl, by decide, zsc_Bn c2 (by decide) (zsc_rk W1.2 rfl), fun p k h1 h2 h3 => ?_, ?_⟩
        · exact ⟨(zsc_Gne h1).trans (hC p k h1 h2 h3).1, (hC p k h1 h2 h3).2⟩
        · exact (congrArg Int32.toInt (zw_ne (zw_ne (zw_ne rfl rfl) rfl) rfl)).trans t1
      · refine zw_ld (n := 1) (k := 0) (f := zp_isR) (pc' := 47) rfl rfl rfl rfl rfl ?_
        refine zw_ld (n := 1) (k := 0) (f := zp_isR) (pc' := 48) rfl rfl rfl rfl rfl ?_
        refine zw_gR (q := 0) (pc' := 51) W1 rfl rfl rfl rfl (W1.2 0 11 _ rfl) rfl ?_
        refine zw_gI (q := 51) (pc' := 54) W1 rfl rfl rfl rfl rfl rfl ?_
        refine zw_pI (q := 0) (pc' := 57) W1 rfl rfl rfl rfl rfl rfl ?_
        refine zw_ld (n := 1) (k := 0) (f := zp_isR) (pc' := 58) rfl rfl rfl rfl rfl ?_
        refine zw_s (pc' := 59) rfl rfl ?_
        refine zw_gI (q := 0) (pc' := 62) (zw_W_I W1) rfl rfl rfl rfl (zw_ne rfl rfl) rfl ?_
        refine zw_s (pc' := 63) rfl rfl ?_
        refine zw_iadd (pc' := 64) rfl rfl ?_
        refine zw_pI (q := 0) (pc' := 67) (zw_W_I W1) rfl rfl rfl rfl rfl rfl ?_
        refine zw_ld (n := 1) (k := 0) (f := zp_isR) (pc' := 68) rfl rfl rfl rfl rfl ?_
        refine zw_gR (q := 0) (pc' := 71) (zw_W_I (zw_W_I W1)) rfl rfl rfl rfl ((zw_W_I (zw_W_I W1)).2 0 11 _ rfl) rfl ?_
        refine zw_gI (q := 51) (pc' := 74) (zw_W_I (zw_W_I W1)) rfl rfl rfl rfl (zw_ne (zw_ne rfl rfl) rfl) rfl ?_
        refine zw_ri rfl rfl ?_
        refine ⟨_, _, 3, rfl, by decide, zsc_B2 hB c2 hr1 rfl rfl, fun p k h1 h2 h3 => ?_, ?_⟩
        · exact ⟨(zp_u_ne (fun h9 => by have := h9.1; omega)).trans ((zp_u_ne (fun h9 => by have := h9.1; omega)).trans (hC p k h1 h2 h3).1), (hC p k h1 h2 h3).2⟩
        · exact (congrArg Int32.toInt (zw_ne (zw_ne rfl rfl) rfl)).trans t1
    · omega

theorem zsc_yes {L : Nat} {σ : Nat → Int32} {d c : Nat} {H : zp_H} {x : Int32} (hc : c < 4) (hB : zk_Bs (zB_c c) zg zJc H) (hx : 0 ≤ x.toInt ∧ x.toInt ≤ (H.2.1 0 1).toInt) : ∃ X, zp_Call L σ (d + 49) 49 [.inr (.inr (some 1)), .inl x] H X ∧ (fun X : zp_X => ∃ (v : Int32) (H1 : zp_H) (c : Nat), X = (.inl (some (.inl v)), H1) ∧ c < 4 ∧ zk_Bs (zB_c c) zg zJc H1 ∧ zf_C H H1 ∧ (H1.2.1 0 1).toInt = 0) X := by
  match c, hc, hB with
  | 0, _, hB => exact zsc_y0 hB hx
  | 1, _, hB => exact zsc_y1 hB hx
  | 2, _, hB => exact zsc_y2 hB hx
  | 3, _, hB => exact zsc_y3 hB hx
