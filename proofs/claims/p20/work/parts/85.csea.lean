section
/-! ===== the class: sea ===== -/
def zm_49 : za_MI := (yX11_sea, prog_1_method_4_code, 2, (some FieldType.int), 11, 1, 6, [], za_i49)
theorem zm_49_t : za_MT 49 = some zm_49 := rfl
def zm_50 : za_MI := (yX7_read, prog_9_method_2_code, 5, (some FieldType.boolean), 7, 0, 0, [], za_i50)
theorem zm_50_t : za_MT 50 = some zm_50 := rfl
def zm_98 : za_MI := (yX11_takeNext, prog_1_method_5_code, 3, none, 11, 0, 0, [], za_i98)
theorem zm_98_t : za_MT 98 = some zm_98 := rfl
def zm_99 : za_MI := (yX1_forget, prog_3_method_2_code, 1, none, 1, 0, 0, [], za_i99)
theorem zm_99_t : za_MT 99 = some zm_99 := rfl
def zsc_G (H : zp_H) (a b e f : Nat) : zp_H := zw_I (zw_I (zw_I (zw_R (zw_R (zw_R (zw_R H 0 5 (some e)) 0 6 (some f)) 0 7 (some a)) 0 8 (some b)) 0 2 (Int32.ofInt (-1))) 0 10 (Int32.ofInt 0)) 60 11 (Int32.ofInt 0)
theorem zw_Rne {H : zp_H} {p k q j : Nat} {x r : Option Nat} (h : H.2.2.2 q j = r) (hn : (Nat.beq q p).and (Nat.beq j k) = false) : (zw_R H p k x).2.2.2 q j = r := by
  refine (zp_u_ne ?_).trans h
  rintro ⟨rfl, rfl⟩
  rw [Nat.beq_refl, Nat.beq_refl] at hn
  cases hn
theorem zw_W_R {H : zp_H} {p k : Nat} {r : Option Nat} (h : zw_W H) (hn : zB_l2 zB_rf p k = none) : zw_W (zw_R H p k r) := by
  refine ⟨h.1, fun p' k' r' h' => (zp_u_ne ?_).trans (h.2 p' k' r' h')⟩
  rintro ⟨rfl, rfl⟩
  rw [hn] at h'
  cases h'
theorem zsc_l4 {a b e f r : Option Nat} {k : Nat} (h : zB_l2.zB_l1 [(5, a), (6, b), (7, e), (8, f)] k = some r) : (k = 5 ∧ r = a) ∨ (k = 6 ∧ r = b) ∨ (k = 7 ∧ r = e) ∨ (k = 8 ∧ r = f) := by
  by_cases h5 : k = 5
  · subst h5
    cases h
    exact Or.inl ⟨rfl, rfl⟩
  by_cases h6 : k = 6
  · subst h6
    cases h
    exact Or.inr (Or.inl ⟨rfl, rfl⟩)
  by_cases h7 : k = 7
  · subst h7
    cases h
    exact Or.inr (Or.inr (Or.inl ⟨rfl, rfl⟩))
  by_cases h8 : k = 8
  · subst h8
    cases h
    exact Or.inr (Or.inr (Or.inr ⟨rfl, rfl⟩))
  have e5 : Nat.beq 5 k = false := zI_nb (fun h9 => h5 h9.symm)
  have e6 : Nat.beq 6 k = false := zI_nb (fun h9 => h6 h9.symm)
  have e7 : Nat.beq 7 k = false := zI_nb (fun h9 => h7 h9.symm)
  have e8 : Nat.beq 8 k = false := zI_nb (fun h9 => h8 h9.symm)
  simp only [zB_l2.zB_l1, e5, e6, e7, e8, cond_false] at h
  cases h
/-- the heap behind a swap: references -/
theorem zsc_rk {c : Nat} {H : zp_H} {a b e f : Nat} (W : ∀ p k r, zB_l2 zB_rf p k = some r → H.2.2.2 p k = r) (hc : zB_cr c = [(5, some e), (6, some f), (7, some a), (8, some b)]) : ∀ p k r, zB_r c p k = some r → (zsc_G H a b e f).2.2.2 p k = r := by
  intro p k r h
  unfold zB_r at h
  rw [hc] at h
  have base : ∀ {p k : Nat} {r : Option Nat}, zB_l2 zB_rf p k = some r → (zsc_G H a b e f).2.2.2 p k = r := by
    intro p k r h
    refine (zp_u_ne ?_).trans ((zp_u_ne ?_).trans ((zp_u_ne ?_).trans ((zp_u_ne ?_).trans (W p k r h))))
    all_goals (rintro ⟨rfl, rfl⟩; cases h)
  cases hp : Nat.beq p 0 with
  | false =>
    rw [hp] at h
    exact base h
  | true =>
    have e0 := za_beq hp
    subst e0
    rw [hp] at h
    simp only [cond_true] at h
    cases h1 : zB_l2.zB_l1 [(5, some e), (6, some f), (7, some a), (8, some b)] k with
    | none =>
      rw [h1] at h
      exact base h
    | some r1 =>
      rw [h1] at h
      cases h
      rcases zsc_l4 h1 with ⟨rfl, rfl⟩ | ⟨rfl, rfl⟩ | ⟨rfl, rfl⟩ | ⟨rfl, rfl⟩
      · rfl
      · rfl
      · rfl
      · rfl
theorem zsc_Gne {H : zp_H} {a b e f p k : Nat} (h : 72 ≤ p) : (zsc_G H a b e f).2.1 p k = H.2.1 p k := (zp_u_ne (fun h9 => by have := h9.1; omega)).trans ((zp_u_ne (fun h9 => by have := h9.1; omega)).trans (zp_u_ne (fun h9 => by have := h9.1; omega)))
theorem zsc_B2 {c : Nat} {H H1 : zp_H} {x y : Int32} (hB : zk_Bs (zB_c c) zg zJc H) (h1 : zk_Bs zB zg zJc H1) (hr : H1.2.2.2 = H.2.2.2) (_ : True = True) (_ : True = True) : zk_Bs (zB_c c) zg zJc (zw_I (zw_I H1 0 2 x) 0 3 y) := by
  have b1 := zB_putf (p := 0) (k := 2) (x := x) (zB_dn h1) rfl (fun r hr => by cases hr) (zJc_I rfl h1.2.2.2.2.2.2.2)
  have b2 := zB_putf (p := 0) (k := 3) (x := y) b1 rfl (fun r hr => by cases hr) (zJc_I rfl b1.2.2.2.2.2.2.2)
  refine zB_cB (zB_up b2 ?_) (fun p k r h => ?_)
  · rw [show (zw_I (zw_I H1 0 2 x) 0 3 y).2.1 52 4 = H1.2.1 52 4 from zw_ne (zw_ne rfl rfl) rfl, show (zw_I (zw_I H1 0 2 x) 0 3 y).2.1 52 5 = H1.2.1 52 5 from zw_ne (zw_ne rfl rfl) rfl]
    exact zB_cn h1
  · show H1.2.2.2 p k = r
    rw [hr]
    exact hB.2.1 p k r h
theorem zsc_Bn {c : Nat} {H : zp_H} {a b e f : Nat} (h1 : zk_Bs zB zg zJc H) (_ : c < 4) (hr : ∀ p k r, zB_r c p k = some r → (zsc_G H a b e f).2.2.2 p k = r) : zk_Bs (zB_c c) zg zJc (zsc_G H a b e f) := by
  have h0 : zk_Bs zB0 zg zJc (zw_R (zw_R (zw_R (zw_R H 0 5 (some e)) 0 6 (some f)) 0 7 (some a)) 0 8 (some b)) := by
    have W := zw_W_R (p := 0) (k := 8) (r := some b) (zw_W_R (p := 0) (k := 7) (r := some a) (zw_W_R (p := 0) (k := 6) (r := some f) (zw_W_R (p := 0) (k := 5) (r := some e) (zB_Wd (zB_dn h1)) rfl) rfl) rfl) rfl
    have h2 := zB_dn h1
    refine ⟨h2.1, W.2, h2.2.2.1, h2.2.2.2.1, fun p k r h => Or.inr ?_, h2.2.2.2.2.2.1, fun c hc => absurd hc List.not_mem_nil, h2.2.2.2.2.2.2.2⟩
    rcases h2.2.2.2.2.1 p k r h with ⟨q, q1, _⟩ | h9
    · exact absurd q1 List.not_mem_nil
    · exact h9
  have b1 := zB_putf (p := 0) (k := 2) (x := Int32.ofInt (-1)) h0 rfl (fun r hr => by cases hr) (zJc_I rfl h0.2.2.2.2.2.2.2)
  have b2 := zB_putf (p := 0) (k := 10) (x := Int32.ofInt 0) b1 rfl (fun r hr => by cases hr; decide) (zJc_I rfl b1.2.2.2.2.2.2.2)
  have b3 := zB_putf (p := 60) (k := 11) (x := Int32.ofInt 0) b2 rfl (fun r hr => by cases hr; decide) (zJc_I rfl b2.2.2.2.2.2.2.2)
  refine zB_cB (zB_up b3 ?_) hr
  rw [show (zsc_G H a b e f).2.1 52 4 = H.2.1 52 4 from zw_ne (zw_ne (zw_ne rfl rfl) rfl) rfl, show (zsc_G H a b e f).2.1 52 5 = H.2.1 52 5 from zw_ne (zw_ne (zw_ne rfl rfl) rfl) rfl]
  exact zB_cn h1
theorem zsc_no {L : Nat} {σ : Nat → Int32} {d : Nat} {H : zp_H} {x : Int32} (hB : zk_Bs zB zg zJc H) (hx : ¬ (0 ≤ x.toInt ∧ x.toInt ≤ (H.2.1 0 1).toInt)) : zp_Call L σ (d + 1) 49 [.inr (.inr (some 1)), .inl x] H (.inr 1, H) := by
  have W := zB_Wd (zB_dn hB)
  refine zw_ex (zw_met zm_49_t rfl rfl ?_)
  refine zw_ld (n := 1) (k := 1) (f := zp_isI) (pc' := 1) rfl rfl rfl rfl rfl ?_
  refine zw_blt1 (g := 12) (pc' := 4) rfl rfl rfl rfl (fun hb => ?_) (fun hb => ?_)
  · exact zs_end (S := (12, _, [], H, (0, 0))) (X := (.inr 1, H)) rfl rfl rfl
  · refine zw_ld (n := 1) (k := 1) (f := zp_isI) (pc' := 5) rfl rfl rfl rfl rfl ?_
    refine zw_ld (n := 1) (k := 0) (f := zp_isR) (pc' := 6) rfl rfl rfl rfl rfl ?_
    refine zw_gI (q := 0) (pc' := 9) W rfl rfl rfl rfl rfl rfl ?_
    refine zw_ble2 (g := 22) (pc' := 12) rfl rfl rfl rfl rfl (fun hb2 => ?_) (fun hb2 => ?_)
    · omega
    · exact zs_end (S := (12, _, [], H, (0, 0))) (X := (.inr 1, H)) rfl rfl rfl

theorem zsc_fg {L : Nat} {σ : Nat → Int32} {d : Nat} {H : zp_H} (W : zw_W H) : zp_Call L σ (d + 1) 99 [.inr (.inr (some 61))] H (.inl none, zw_I H 60 11 (Int32.ofInt 0)) := by
  refine zw_ex (zw_met zm_99_t rfl rfl ?_)
  refine zw_ld (n := 1) (k := 0) (f := zp_isR) (pc' := 1) rfl rfl rfl rfl rfl ?_
  refine zw_s (pc' := 2) rfl rfl ?_
  refine zw_pI (q := 60) (pc' := 5) W rfl rfl rfl rfl rfl rfl ?_
  refine zw_rn rfl rfl ?_
  rfl

theorem zsc_tn0 {L : Nat} {σ : Nat → Int32} {d : Nat} {H : zp_H} (W : zw_W H) (g5 : H.2.2.2 0 5 = some 3) (g6 : H.2.2.2 0 6 = some 14) (g7 : H.2.2.2 0 7 = some 23) (g8 : H.2.2.2 0 8 = some 34) : zp_Call L σ (d + 2) 98 [.inr (.inr (some 1))] H (.inl none, zsc_G H 3 14 23 34) := by
  refine zw_ex (zw_met zm_98_t rfl rfl ?_)
  refine zw_ld (n := 1) (k := 0) (f := zp_isR) (pc' := 1) rfl rfl rfl rfl rfl ?_
  refine zw_gR (q := 0) (pc' := 4) W rfl rfl rfl rfl g5 rfl ?_
  refine zw_st (n := 1) (k := 1) (f := zp_isR) (pc' := 5) rfl rfl rfl rfl rfl ?_
  refine zw_ld (n := 1) (k := 0) (f := zp_isR) (pc' := 6) rfl rfl (zw_gt rfl rfl rfl) rfl rfl ?_
  refine zw_gR (q := 0) (pc' := 9) W rfl rfl rfl rfl g6 rfl ?_
  refine zw_st (n := 1) (k := 2) (f := zp_isR) (pc' := 10) rfl rfl rfl rfl rfl ?_
  refine zw_ld (n := 1) (k := 0) (f := zp_isR) (pc' := 11) rfl rfl (zw_gt (zw_gt rfl rfl rfl) rfl rfl) rfl rfl ?_
  refine zw_ld (n := 1) (k := 0) (f := zp_isR) (pc' := 12) rfl rfl (zw_gt (zw_gt rfl rfl rfl) rfl rfl) rfl rfl ?_
  refine zw_gR (q := 0) (pc' := 15) W rfl rfl rfl rfl g7 rfl ?_
  refine zw_pR (q := 0) (pc' := 18) W.1 rfl rfl rfl rfl rfl rfl ?_
  refine zw_ld (n := 1) (k := 0) (f := zp_isR) (pc' := 19) rfl rfl (zw_gt (zw_gt rfl rfl rfl) rfl rfl) rfl rfl ?_
  refine zw_ld (n := 1) (k := 0) (f := zp_isR) (pc' := 20) rfl rfl (zw_gt (zw_gt rfl rfl rfl) rfl rfl) rfl rfl ?_
  refine zw_gR (q := 0) (pc' := 23) (zw_W_R W rfl) rfl rfl rfl rfl (zw_Rne g8 rfl) rfl ?_
  refine zw_pR (q := 0) (pc' := 26) (zw_W_R W rfl).1 rfl rfl rfl rfl rfl rfl ?_
  refine zw_ld (n := 1) (k := 0) (f := zp_isR) (pc' := 27) rfl rfl (zw_gt (zw_gt rfl rfl rfl) rfl rfl) rfl rfl ?_
  refine zw_ld (n := 1) (k := 1) (f := zp_isR) (pc' := 28) rfl rfl (zw_gt zw_g1 rfl rfl) rfl rfl ?_
  refine zw_pR (q := 0) (pc' := 31) (zw_W_R (zw_W_R W rfl) rfl).1 rfl rfl rfl rfl rfl rfl ?_
  refine zw_ld (n := 1) (k := 0) (f := zp_isR) (pc' := 32) rfl rfl (zw_gt (zw_gt rfl rfl rfl) rfl rfl) rfl rfl ?_
  refine zw_ld (n := 1) (k := 2) (f := zp_isR) (pc' := 33) rfl rfl zw_g1 rfl rfl ?_
  refine zw_pR (q := 0) (pc' := 36) (zw_W_R (zw_W_R (zw_W_R W rfl) rfl) rfl).1 rfl rfl rfl rfl rfl rfl ?_
  refine zw_ld (n := 1) (k := 0) (f := zp_isR) (pc' := 37) rfl rfl (zw_gt (zw_gt rfl rfl rfl) rfl rfl) rfl rfl ?_
  refine zw_s (pc' := 38) rfl rfl ?_
  refine zw_pI (q := 0) (pc' := 41) (zw_W_R (zw_W_R (zw_W_R (zw_W_R W rfl) rfl) rfl) rfl) rfl rfl rfl rfl rfl rfl ?_
  refine zw_ld (n := 1) (k := 0) (f := zp_isR) (pc' := 42) rfl rfl (zw_gt (zw_gt rfl rfl rfl) rfl rfl) rfl rfl ?_
  refine zw_s (pc' := 43) rfl rfl ?_
  refine zw_pI (q := 0) (pc' := 46) (zw_W_I (zw_W_R (zw_W_R (zw_W_R (zw_W_R W rfl) rfl) rfl) rfl)) rfl rfl rfl rfl (rfl) rfl ?_
  refine zw_ld (n := 1) (k := 0) (f := zp_isR) (pc' := 47) rfl rfl (zw_gt (zw_gt rfl rfl rfl) rfl rfl) rfl rfl ?_
  refine zw_gR (q := 0) (pc' := 50) (zw_W_I (zw_W_I (zw_W_R (zw_W_R (zw_W_R (zw_W_R W rfl) rfl) rfl) rfl))) rfl rfl rfl rfl ((zw_W_I (zw_W_I (zw_W_R (zw_W_R (zw_W_R (zw_W_R W rfl) rfl) rfl) rfl))).2 0 15 _ rfl) rfl ?_
  refine zw_cn (pc' := 53) (zw_cv (q := 60) (Y := zm_99) (zw_W_I (zw_W_I (zw_W_R (zw_W_R (zw_W_R (zw_W_R W rfl) rfl) rfl) rfl))).1 rfl rfl zm_99_t rfl rfl) rfl rfl rfl rfl rfl (zsc_fg (zw_W_I (zw_W_I (zw_W_R (zw_W_R (zw_W_R (zw_W_R W rfl) rfl) rfl) rfl)))) ?_
  refine zw_rn rfl rfl ?_
  rfl

theorem zsc_y0 {L : Nat} {σ : Nat → Int32} {d : Nat} {H : zp_H} {x : Int32} (hB : zk_Bs (zB_c 0) zg zJc H) (hx : 0 ≤ x.toInt ∧ x.toInt ≤ (H.2.1 0 1).toInt) : ∃ X, zp_Call L σ (d + 49) 49 [.inr (.inr (some 1)), .inl x] H X ∧ (fun X : zp_X => ∃ (v : Int32) (H1 : zp_H) (c : Nat), X = (.inl (some (.inl v)), H1) ∧ c < 4 ∧ zk_Bs (zB_c c) zg zJc H1 ∧ zf_C H H1 ∧ (H1.2.1 0 1).toInt = 0) X := by
  have hb := zB_Bc hB
  have W := zB_Wd (zB_dn hb)
  have r1 := zB_fr1 (zB_dn hb) (p := 0) (k := 1) (r := (0, 700)) rfl
  have r1 : 0 ≤ (H.2.1 0 1).toInt ∧ (H.2.1 0 1).toInt ≤ 700 := r1
  have g5 : H.2.2.2 0 5 = some 3 := hB.2.1 0 5 _ rfl
  have g6 : H.2.2.2 0 6 = some 14 := hB.2.1 0 6 _ rfl
  have g7 : H.2.2.2 0 7 = some 23 := hB.2.1 0 7 _ rfl
  have g8 : H.2.2.2 0 8 = some 34 := hB.2.1 0 8 _ rfl
  have b0 : zk_Bs zB zg zJc (zw_I H 0 1 (Int32.ofInt 0)) := zB_up (zB_putf (p := 0) (k := 1) (x := Int32.ofInt 0) (zB_dn hb) rfl (fun r hr => by cases hr; decide) (zJc_I rfl hb.2.2.2.2.2.2.2)) (by
    rw [show (zw_I H 0 1 (Int32.ofInt 0)).2.1 52 4 = H.2.1 52 4 from zw_ne rfl rfl, show (zw_I H 0 1 (Int32.ofInt 0)).2.1 52 5 = H.2.1 52 5 from zw_ne rfl rfl]
    exact zB_cn hb)
  obtain ⟨⟨x1, H1⟩, c1, c2, c3, o, o1, o2⟩ := zc_e74 (L := L) (σ := σ) zB_W zh_all (d + 48) (by show 48 ≤ d + 48; omega) [.inr (.inr (some 52)), .inl x, .inr (.inr (some 23)), .inr (.inr (some 34))] (zw_I H 0 1 (Int32.ofInt 0)) ⟨rfl, ⟨by show (0 : Int) ≤ _; omega, by show _ ≤ (700 : Int); omega⟩, rfl, rfl, trivial⟩ b0 (fun f hf => absurd hf List.not_mem_nil)
  obtain ⟨v, rfl⟩ : ∃ v, x1 = .inl (some (.inl v)) := zI_v1 (outs := ze_e74.2.2.2.2.2.1) rfl ⟨o, o1, o2.1⟩
  have W1 := zB_Wd (zB_dn c2)
  have hr1 : H1.2.2.2 = H.2.2.2 := c3.1
  have t1 : (H1.2.1 0 1).toInt = 0 := by
    rw [(zI_in c3 (p := 0) (k := 1) rfl rfl (by decide)).1, zw_eq]
    decide
  have hC : zf_C H H1 := by
    intro p k h1 h2 h3
    have z := zI_frc c3 (by decide +kernel) (by decide +kernel) p k h1 h2 h3
    exact ⟨z.1.trans (zp_u_ne (fun h9 => by have := h9.1; omega)), z.2⟩
  refine zw_met zm_49_t rfl rfl ?_
  refine zw_ld (n := 1) (k := 1) (f := zp_isI) (pc' := 1) rfl rfl rfl rfl rfl ?_
  refine zw_blt1 (g := 12) (pc' := 4) rfl rfl rfl rfl (fun hb0 => ?_) (fun hb0 => ?_)
  · omega
  · refine zw_ld (n := 1) (k := 1) (f := zp_isI) (pc' := 5) rfl rfl rfl rfl rfl ?_
    refine zw_ld (n := 1) (k := 0) (f := zp_isR) (pc' := 6) rfl rfl rfl rfl rfl ?_
    refine zw_gI (q := 0) (pc' := 9) W rfl rfl rfl rfl rfl rfl ?_
    refine zw_ble2 (g := 22) (pc' := 12) rfl rfl rfl rfl rfl (fun hb1 => ?_) (fun hb1 => ?_)
    · refine zw_ld (n := 1) (k := 0) (f := zp_isR) (pc' := 23) rfl rfl rfl rfl rfl ?_
      refine zw_s (pc' := 24) rfl rfl ?_
      refine zw_pI (q := 0) (pc' := 27) W rfl rfl rfl rfl rfl rfl ?_
      refine zw_ld (n := 1) (k := 0) (f := zp_isR) (pc' := 28) rfl rfl rfl rfl rfl ?_
      refine zw_gR (q := 0) (pc' := 31) (zw_W_I W) rfl rfl rfl rfl ((zw_W_I W).2 0 11 _ rfl) rfl ?_
      refine zw_ld (n := 1) (k := 1) (f := zp_isI) (pc' := 32) rfl rfl rfl rfl rfl ?_
      refine zw_ld (n := 1) (k := 0) (f := zp_isR) (pc' := 33) rfl rfl rfl rfl rfl ?_
      refine zw_gR (q := 0) (pc' := 36) (zw_W_I W) rfl rfl rfl rfl g7 rfl ?_
      refine zw_ld (n := 1) (k := 0) (f := zp_isR) (pc' := 37) rfl rfl rfl rfl rfl ?_
      refine zw_gR (q := 0) (pc' := 40) (zw_W_I W) rfl rfl rfl rfl g8 rfl ?_
      refine zw_c (pc' := 43) (zw_cv (q := 51) (Y := zm_50) (zw_W_I W).1 rfl rfl zm_50_t rfl rfl) rfl rfl rfl rfl rfl (c1) ?_
      refine zw_bne1 (g := 75) (pc' := 46) rfl rfl rfl rfl (fun hv => ?_) (fun hv => ?_)
      · refine zw_ld (n := 1) (k := 0) (f := zp_isR) (pc' := 76) rfl rfl rfl rfl rfl ?_
        refine zw_cn (pc' := 79) (zw_cv (q := 0) (Y := zm_98) W1.1 rfl rfl zm_98_t rfl rfl) rfl rfl rfl rfl rfl (zsc_tn0 W1 (by rw [hr1]; exact g5) (by rw [hr1]; exact g6) (by rw [hr1]; exact g7) (by rw [hr1]; exact g8)) ?_
        refine zw_s (pc' := 80) rfl rfl ?_
        refine zw_ri rfl rfl ?_
        refine ⟨_, _, 3, rfl, by decide, zsc_Bn c2 (by decide) (zsc_rk W1.2 rfl), fun p k h1 h2 h3 => ?_, ?_⟩
        · exact ⟨(zsc_Gne h1).trans (hC p k h1 h2 h3).1, (hC p k h1 h2 h3).2⟩
        · exact (congrArg Int32.toInt (zw_ne (zw_ne (zw_ne rfl rfl) rfl) rfl)).trans t1
      · refine zw_ld (n := 1) (k := 0) (f := zp_isR) (pc' := 47) rfl rfl rfl rfl rfl ?_
        refine zw_ld (n := 1) (k := 0) (f := zp_isR) (pc' := 48) rfl rfl rfl rfl rfl ?_
        refine zw_gR (q := 0) (pc' := 51) W1 rfl rfl rfl rfl (W1.2 0 11 _ rfl) rfl ?_
        refine zw_gI (q := 51) (pc' := 54) W1 rfl rfl rfl rfl rfl rfl ?_
        refine zw_pI (q := 0) (pc' := 57) W1 rfl rfl rfl rfl rfl rfl ?_
        refine zw_ld (n := 1) (k := 0) (f := zp_isR) (pc' := 58) rfl rfl rfl rfl rfl ?_
        refine zw_s (pc' := 59) rfl rfl ?_
        refine zw_gI (q := 0) (pc' := 62) (zw_W_I W1) rfl rfl rfl rfl (zw_ne rfl rfl) rfl ?_
        refine zw_s (pc' := 63) rfl rfl ?_
        refine zw_iadd (pc' := 64) rfl rfl ?_
        refine zw_pI (q := 0) (pc' := 67) (zw_W_I W1) rfl rfl rfl rfl rfl rfl ?_
        refine zw_ld (n := 1) (k := 0) (f := zp_isR) (pc' := 68) rfl rfl rfl rfl rfl ?_
        refine zw_gR (q := 0) (pc' := 71) (zw_W_I (zw_W_I W1)) rfl rfl rfl rfl ((zw_W_I (zw_W_I W1)).2 0 11 _ rfl) rfl ?_
        refine zw_gI (q := 51) (pc' := 74) (zw_W_I (zw_W_I W1)) rfl rfl rfl rfl (zw_ne (zw_ne rfl rfl) rfl) rfl ?_
        refine zw_ri rfl rfl ?_
        refine ⟨_, _, 0, rfl, by decide, zsc_B2 hB c2 hr1 rfl rfl, fun p k h1 h2 h3 => ?_, ?_⟩
        · exact ⟨(zp_u_ne (fun h9 => by have := h9.1; omega)).trans ((zp_u_ne (fun h9 => by have := h9.1; omega)).trans (hC p k h1 h2 h3).1), (hC p k h1 h2 h3).2⟩
        · exact (congrArg Int32.toInt (zw_ne (zw_ne rfl rfl) rfl)).trans t1
    · omega

theorem zsc_tn1 {L : Nat} {σ : Nat → Int32} {d : Nat} {H : zp_H} (W : zw_W H) (g5 : H.2.2.2 0 5 = some 3) (g6 : H.2.2.2 0 6 = some 34) (g7 : H.2.2.2 0 7 = some 23) (g8 : H.2.2.2 0 8 = some 14) : zp_Call L σ (d + 2) 98 [.inr (.inr (some 1))] H (.inl none, zsc_G H 3 34 23 14) := by
  refine zw_ex (zw_met zm_98_t rfl rfl ?_)
  refine zw_ld (n := 1) (k := 0) (f := zp_isR) (pc' := 1) rfl rfl rfl rfl rfl ?_
  refine zw_gR (q := 0) (pc' := 4) W rfl rfl rfl rfl g5 rfl ?_
  refine zw_st (n := 1) (k := 1) (f := zp_isR) (pc' := 5) rfl rfl rfl rfl rfl ?_
  refine zw_ld (n := 1) (k := 0) (f := zp_isR) (pc' := 6) rfl rfl (zw_gt rfl rfl rfl) rfl rfl ?_
  refine zw_gR (q := 0) (pc' := 9) W rfl rfl rfl rfl g6 rfl ?_
  refine zw_st (n := 1) (k := 2) (f := zp_isR) (pc' := 10) rfl rfl rfl rfl rfl ?_
  refine zw_ld (n := 1) (k := 0) (f := zp_isR) (pc' := 11) rfl rfl (zw_gt (zw_gt rfl rfl rfl) rfl rfl) rfl rfl ?_
  refine zw_ld (n := 1) (k := 0) (f := zp_isR) (pc' := 12) rfl rfl (zw_gt (zw_gt rfl rfl rfl) rfl rfl) rfl rfl ?_
  refine zw_gR (q := 0) (pc' := 15) W rfl rfl rfl rfl g7 rfl ?_
  refine zw_pR (q := 0) (pc' := 18) W.1 rfl rfl rfl rfl rfl rfl ?_
  refine zw_ld (n := 1) (k := 0) (f := zp_isR) (pc' := 19) rfl rfl (zw_gt (zw_gt rfl rfl rfl) rfl rfl) rfl rfl ?_
  refine zw_ld (n := 1) (k := 0) (f := zp_isR) (pc' := 20) rfl rfl (zw_gt (zw_gt rfl rfl rfl) rfl rfl) rfl rfl ?_
  refine zw_gR (q := 0) (pc' := 23) (zw_W_R W rfl) rfl rfl rfl rfl (zw_Rne g8 rfl) rfl ?_
  refine zw_pR (q := 0) (pc' := 26) (zw_W_R W rfl).1 rfl rfl rfl rfl rfl rfl ?_
  refine zw_ld (n := 1) (k := 0) (f := zp_isR) (pc' := 27) rfl rfl (zw_gt (zw_gt rfl rfl rfl) rfl rfl) rfl rfl ?_
  refine zw_ld (n := 1) (k := 1) (f := zp_isR) (pc' := 28) rfl rfl (zw_gt zw_g1 rfl rfl) rfl rfl ?_
  refine zw_pR (q := 0) (pc' := 31) (zw_W_R (zw_W_R W rfl) rfl).1 rfl rfl rfl rfl rfl rfl ?_
  refine zw_ld (n := 1) (k := 0) (f := zp_isR) (pc' := 32) rfl rfl (zw_gt (zw_gt rfl rfl rfl) rfl rfl) rfl rfl ?_
  refine zw_ld (n := 1) (k := 2) (f := zp_isR) (pc' := 33) rfl rfl zw_g1 rfl rfl ?_
  refine zw_pR (q := 0) (pc' := 36) (zw_W_R (zw_W_R (zw_W_R W rfl) rfl) rfl).1 rfl rfl rfl rfl rfl rfl ?_
  refine zw_ld (n := 1) (k := 0) (f := zp_isR) (pc' := 37) rfl rfl (zw_gt (zw_gt rfl rfl rfl) rfl rfl) rfl rfl ?_
  refine zw_s (pc' := 38) rfl rfl ?_
  refine zw_pI (q := 0) (pc' := 41) (zw_W_R (zw_W_R (zw_W_R (zw_W_R W rfl) rfl) rfl) rfl) rfl rfl rfl rfl rfl rfl ?_
  refine zw_ld (n := 1) (k := 0) (f := zp_isR) (pc' := 42) rfl rfl (zw_gt (zw_gt rfl rfl rfl) rfl rfl) rfl rfl ?_
  refine zw_s (pc' := 43) rfl rfl ?_
  refine zw_pI (q := 0) (pc' := 46) (zw_W_I (zw_W_R (zw_W_R (zw_W_R (zw_W_R W rfl) rfl) rfl) rfl)) rfl rfl rfl rfl (rfl) rfl ?_
  refine zw_ld (n := 1) (k := 0) (f := zp_isR) (pc' := 47) rfl rfl (zw_gt (zw_gt rfl rfl rfl) rfl rfl) rfl rfl ?_
  refine zw_gR (q := 0) (pc' := 50) (zw_W_I (zw_W_I (zw_W_R (zw_W_R (zw_W_R (zw_W_R W rfl) rfl) rfl) rfl))) rfl rfl rfl rfl ((zw_W_I (zw_W_I (zw_W_R (zw_W_R (zw_W_R (zw_W_R W rfl) rfl) rfl) rfl))).2 0 15 _ rfl) rfl ?_
  refine zw_cn (pc' := 53) (zw_cv (q := 60) (Y := zm_99) (zw_W_I (zw_W_I (zw_W_R (zw_W_R (zw_W_R (zw_W_R W rfl) rfl) rfl) rfl))).1 rfl rfl zm_99_t rfl rfl) rfl rfl rfl rfl rfl (zsc_fg (zw_W_I (zw_W_I (zw_W_R (zw_W_R (zw_W_R (zw_W_R W rfl) rfl) rfl) rfl)))) ?_
  refine zw_rn rfl rfl ?_
  rfl

theorem zsc_y1 {L : Nat} {σ : Nat → Int32} {d : Nat} {H : zp_H} {x : Int32} (hB : zk_Bs (zB_c 1) zg zJc H) (hx : 0 ≤ x.toInt ∧ x.toInt ≤ (H.2.1 0 1).toInt) : ∃ X, zp_Call L σ (d + 49) 49 [.inr (.inr (some 1)), .inl x] H X ∧ (fun X : zp_X => ∃ (v : Int32) (H1 : zp_H) (c : Nat), X = (.inl (some (.inl v)), H1) ∧ c < 4 ∧ zk_Bs (zB_c c) zg zJc H1 ∧ zf_C H H1 ∧ (H1.2.1 0 1).toInt = 0) X := by
  have hb := zB_Bc hB
  have W := zB_Wd (zB_dn hb)
  have r1 := zB_fr1 (zB_dn hb) (p := 0) (k := 1) (r := (0, 700)) rfl
  have r1 : 0 ≤ (H.2.1 0 1).toInt ∧ (H.2.1 0 1).toInt ≤ 700 := r1
  have g5 : H.2.2.2 0 5 = some 3 := hB.2.1 0 5 _ rfl
  have g6 : H.2.2.2 0 6 = some 34 := hB.2.1 0 6 _ rfl
  have g7 : H.2.2.2 0 7 = some 23 := hB.2.1 0 7 _ rfl
  have g8 : H.2.2.2 0 8 = some 14 := hB.2.1 0 8 _ rfl
  have b0 : zk_Bs zB zg zJc (zw_I H 0 1 (Int32.ofInt 0)) := zB_up (zB_putf (p := 0) (k := 1) (x := Int32.ofInt 0) (zB_dn hb) rfl (fun r hr => by cases hr; decide) (zJc_I rfl hb.2.2.2.2.2.2.2)) (by
    rw [show (zw_I H 0 1 (Int32.ofInt 0)).2.1 52 4 = H.2.1 52 4 from zw_ne rfl rfl, show (zw_I H 0 1 (Int32.ofInt 0)).2.1 52 5 = H.2.1 52 5 from zw_ne rfl rfl]
    exact zB_cn hb)
  obtain ⟨⟨x1, H1⟩, c1, c2, c3, o, o1, o2⟩ := zc_e85 (L := L) (σ := σ) zB_W zh_all (d + 48) (by show 48 ≤ d + 48; omega) [.inr (.inr (some 52)), .inl x, .inr (.inr (some 23)), .inr (.inr (some 14))] (zw_I H 0 1 (Int32.ofInt 0)) ⟨rfl, ⟨by show (0 : Int) ≤ _; omega, by show _ ≤ (700 : Int); omega⟩, rfl, rfl, trivial⟩ b0 (fun f hf => absurd hf List.not_mem_nil)
  obtain ⟨v, rfl⟩ : ∃ v, x1 = .inl (some (.inl v)) := zI_v1 (outs := ze_e85.2.2.2.2.2.1) rfl ⟨o, o1, o2.1⟩
  have W1 := zB_Wd (zB_dn c2)
  have hr1 : H1.2.2.2 = H.2.2.2 := c3.1
  have t1 : (H1.2.1 0 1).toInt = 0 := by
    rw [(zI_in c3 (p := 0) (k := 1) rfl rfl (by decide)).1, zw_eq]
    decide
  have hC : zf_C H H1 := by
    intro p k h1 h2 h3
    have z := zI_frc c3 (by decide +kernel) (by decide +kernel) p k h1 h2 h3
    exact ⟨z.1.trans (zp_u_ne (fun h9 => by have := h9.1; omega)), z.2⟩
  refine zw_met zm_49_t rfl rfl ?_
  refine zw_ld (n := 1) (k := 1) (f := zp_isI) (pc' := 1) rfl rfl rfl rfl rfl ?_
  refine zw_blt1 (g := 12) (pc' := 4) rfl rfl rfl rfl (fun hb0 => ?_) (fun hb0 => ?_)
  · omega
  · refine zw_ld (n := 1) (k := 1) (f := zp_isI) (pc' := 5) rfl rfl rfl rfl rfl ?_
    refine zw_ld (n := 1) (k := 0) (f := zp_isR) (pc' := 6) rfl rfl rfl rfl rfl ?_
    refine zw_gI (q := 0) (pc' := 9) W rfl rfl rfl rfl rfl rfl ?_
    refine zw_ble2 (g := 22) (pc' := 12) rfl rfl rfl rfl rfl (fun hb1 => ?_) (fun hb1 => ?_)
    · refine zw_ld (n := 1) (k := 0) (f := zp_isR) (pc' := 23) rfl rfl rfl rfl rfl ?_
      refine zw_s (pc' := 24) rfl rfl ?_
      refine zw_pI (q := 0) (pc' := 27) W rfl rfl rfl rfl rfl rfl ?_
      refine zw_ld (n := 1) (k := 0) (f := zp_isR) (pc' := 28) rfl rfl rfl rfl rfl ?_
      refine zw_gR (q := 0) (pc' := 31) (zw_W_I W) rfl rfl rfl rfl ((zw_W_I W).2 0 11 _ rfl) rfl ?_
      refine zw_ld (n := 1) (k := 1) (f := zp_isI) (pc' := 32) rfl rfl rfl rfl rfl ?_
      refine zw_ld (n := 1) (k := 0) (f := zp_isR) (pc' := 33) rfl rfl rfl rfl rfl ?_
      refine zw_gR (q := 0) (pc' := 36) (zw_W_I W) rfl rfl rfl rfl g7 rfl ?_
      refine zw_ld (n := 1) (k := 0) (f := zp_isR) (pc' := 37) rfl rfl rfl rfl rfl ?_
      refine zw_gR (q := 0) (pc' := 40) (zw_W_I W) rfl rfl rfl rfl g8 rfl ?_
      refine zw_c (pc' := 43) (zw_cv (q := 51) (Y := zm_50) (zw_W_I W).1 rfl rfl zm_50_t rfl rfl) rfl rfl rfl rfl rfl (c1) ?_
      refine zw_bne1 (g := 75) (pc' := 46) rfl rfl rfl rfl (fun hv => ?_) (fun hv => ?_)
      · refine zw_ld (n := 1) (k := 0) (f := zp_isR) (pc' := 76) rfl rfl rfl rfl rfl ?_
        refine zw_cn (pc' := 79) (zw_cv (q := 0) (Y := zm_98) W1.1 rfl rfl zm_98_t rfl rfl) rfl rfl rfl rfl rfl (zsc_tn1 W1 (by rw [hr1]; exact g5) (by rw [hr1]; exact g6) (by rw [hr1]; exact g7) (by rw [hr1]; exact g8)) ?_
        refine zw_s (pc' := 80) rfl rfl ?_
        refine zw_ri rfl rfl ?_
        refine ⟨_, _, 2, rfl, by decide, zsc_Bn c2 (by decide) (zsc_rk W1.2 rfl), fun p k h1 h2 h3 => ?_, ?_⟩
        · exact ⟨(zsc_Gne h1).trans (hC p k h1 h2 h3).1, (hC p k h1 h2 h3).2⟩
        · exact (congrArg Int32.toInt (zw_ne (zw_ne (zw_ne rfl rfl) rfl) rfl)).trans t1
      · refine zw_ld (n := 1) (k := 0) (f := zp_isR) (pc' := 47) rfl rfl rfl rfl rfl ?_
        refine zw_ld (n := 1) (k := 0) (f := zp_isR) (pc' := 48) rfl rfl rfl rfl rfl ?_
        refine zw_gR (q := 0) (pc' := 51) W1 rfl rfl rfl rfl (W1.2 0 11 _ rfl) rfl ?_
        refine zw_gI (q := 51) (pc' := 54) W1 rfl rfl rfl rfl rfl rfl ?_
        refine zw_pI (q := 0) (pc' := 57) W1 rfl rfl rfl rfl rfl rfl ?_
        refine zw_ld (n := 1) (k := 0) (f := zp_isR) (pc' := 58) rfl rfl rfl rfl rfl ?_
        refine zw_s (pc' := 59) rfl rfl ?_
        refine zw_gI (q := 0) (pc' := 62) (zw_W_I W1) rfl rfl rfl rfl (zw_ne rfl rfl) rfl ?_
        refine zw_s (pc' := 63) rfl rfl ?_
        refine zw_iadd (pc' := 64) rfl rfl ?_
        refine zw_pI (q := 0) (pc' := 67) (zw_W_I W1) rfl rfl rfl rfl rfl rfl ?_
        refine zw_ld (n := 1) (k := 0) (f := zp_isR) (pc' := 68) rfl rfl rfl rfl rfl ?_
        refine zw_gR (q := 0) (pc' := 71) (zw_W_I (zw_W_I W1)) rfl rfl rfl rfl ((zw_W_I (zw_W_I W1)).2 0 11 _ rfl) rfl ?_
        refine zw_gI (q := 51) (pc' := 74) (zw_W_I (zw_W_I W1)) rfl rfl rfl rfl (zw_ne (zw_ne rfl rfl) rfl) rfl ?_
        refine zw_ri rfl rfl ?_
        refine ⟨_, _, 1, rfl, by decide, zsc_B2 hB c2 hr1 rfl rfl, fun p k h1 h2 h3 => ?_, ?_⟩
        · exact ⟨(zp_u_ne (fun h9 => by have := h9.1; omega)).trans ((zp_u_ne (fun h9 => by have := h9.1; omega)).trans (hC p k h1 h2 h3).1), (hC p k h1 h2 h3).2⟩
        · exact (congrArg Int32.toInt (zw_ne (zw_ne rfl rfl) rfl)).trans t1
    · omega

theorem zsc_tn2 {L : Nat} {σ : Nat → Int32} {d : Nat} {H : zp_H} (W : zw_W H) (g5 : H.2.2.2 0 5 = some 23) (g6 : H.2.2.2 0 6 = some 14) (g7 : H.2.2.2 0 7 = some 3) (g8 : H.2.2.2 0 8 = some 34) : zp_Call L σ (d + 2) 98 [.inr (.inr (some 1))] H (.inl none, zsc_G H 23 14 3 34) := by
  refine zw_ex (zw_met zm_98_t rfl rfl ?_)
  refine zw_ld (n := 1) (k := 0) (f := zp_isR) (pc' := 1) rfl rfl rfl rfl rfl ?_
  refine zw_gR (q := 0) (pc' := 4) W rfl rfl rfl rfl g5 rfl ?_
  refine zw_st (n := 1) (k := 1) (f := zp_isR) (pc' := 5) rfl rfl rfl rfl rfl ?_
  refine zw_ld (n := 1) (k := 0) (f := zp_isR) (pc' := 6) rfl rfl (zw_gt rfl rfl rfl) rfl rfl ?_
  refine zw_gR (q := 0) (pc' := 9) W rfl rfl rfl rfl g6 rfl ?_
  refine zw_st (n := 1) (k := 2) (f := zp_isR) (pc' := 10) rfl rfl rfl rfl rfl ?_
  refine zw_ld (n := 1) (k := 0) (f := zp_isR) (pc' := 11) rfl rfl (zw_gt (zw_gt rfl rfl rfl) rfl rfl) rfl rfl ?_
  refine zw_ld (n := 1) (k := 0) (f := zp_isR) (pc' := 12) rfl rfl (zw_gt (zw_gt rfl rfl rfl) rfl rfl) rfl rfl ?_
  refine zw_gR (q := 0) (pc' := 15) W rfl rfl rfl rfl g7 rfl ?_
  refine zw_pR (q := 0) (pc' := 18) W.1 rfl rfl rfl rfl rfl rfl ?_
  refine zw_ld (n := 1) (k := 0) (f := zp_isR) (pc' := 19) rfl rfl (zw_gt (zw_gt rfl rfl rfl) rfl rfl) rfl rfl ?_
  refine zw_ld (n := 1) (k := 0) (f := zp_isR) (pc' := 20) rfl rfl (zw_gt (zw_gt rfl rfl rfl) rfl rfl) rfl rfl ?_
  refine zw_gR (q := 0) (pc' := 23) (zw_W_R W rfl) rfl rfl rfl rfl (zw_Rne g8 rfl) rfl ?_
  refine zw_pR (q := 0) (pc' := 26) (zw_W_R W rfl).1 rfl rfl rfl rfl rfl rfl ?_
  refine zw_ld (n := 1) (k := 0) (f := zp_isR) (pc' := 27) rfl rfl (zw_gt (zw_gt rfl rfl rfl) rfl rfl) rfl rfl ?_
  refine zw_ld (n := 1) (k := 1) (f := zp_isR) (pc' := 28) rfl rfl (zw_gt zw_g1 rfl rfl) rfl rfl ?_
  refine zw_pR (q := 0) (pc' := 31) (zw_W_R (zw_W_R W rfl) rfl).1 rfl rfl rfl rfl rfl rfl ?_
  refine zw_ld (n := 1) (k := 0) (f := zp_isR) (pc' := 32) rfl rfl (zw_gt (zw_gt rfl rfl rfl) rfl rfl) rfl rfl ?_
  refine zw_ld (n := 1) (k := 2) (f := zp_isR) (pc' := 33) rfl rfl zw_g1 rfl rfl ?_
  refine zw_pR (q := 0) (pc' := 36) (zw_W_R (zw_W_R (zw_W_R W rfl) rfl) rfl).1 rfl rfl rfl rfl rfl rfl ?_
  refine zw_ld (n := 1) (k := 0) (f := zp_isR) (pc' := 37) rfl rfl (zw_gt (zw_gt rfl rfl rfl) rfl rfl) rfl rfl ?_
  refine zw_s (pc' := 38) rfl rfl ?_
  refine zw_pI (q := 0) (pc' := 41) (zw_W_R (zw_W_R (zw_W_R (zw_W_R W rfl) rfl) rfl) rfl) rfl rfl rfl rfl rfl rfl ?_
  refine zw_ld (n := 1) (k := 0) (f := zp_isR) (pc' := 42) rfl rfl (zw_gt (zw_gt rfl rfl rfl) rfl rfl) rfl rfl ?_
  refine zw_s (pc' := 43) rfl rfl ?_
  refine zw_pI (q := 0) (pc' := 46) (zw_W_I (zw_W_R (zw_W_R (zw_W_R (zw_W_R W rfl) rfl) rfl) rfl)) rfl rfl rfl rfl (rfl) rfl ?_
  refine zw_ld (n := 1) (k := 0) (f := zp_isR) (pc' := 47) rfl rfl (zw_gt (zw_gt rfl rfl rfl) rfl rfl) rfl rfl ?_
  refine zw_gR (q := 0) (pc' := 50) (zw_W_I (zw_W_I (zw_W_R (zw_W_R (zw_W_R (zw_W_R W rfl) rfl) rfl) rfl))) rfl rfl rfl rfl ((zw_W_I (zw_W_I (zw_W_R (zw_W_R (zw_W_R (zw_W_R W rfl) rfl) rfl) rfl))).2 0 15 _ rfl) rfl ?_
  refine zw_cn (pc' := 53) (zw_cv (q := 60) (Y := zm_99) (zw_W_I (zw_W_I (zw_W_R (zw_W_R (zw_W_R (zw_W_R W rfl) rfl) rfl) rfl))).1 rfl rfl zm_99_t rfl rfl) rfl rfl rfl rfl rfl (zsc_fg (zw_W_I (zw_W_I (zw_W_R (zw_W_R (zw_W_R (zw_W_R W rfl) rfl) rfl) rfl)))) ?_
  refine zw_rn rfl rfl ?_
  rfl

theorem zsc_y2 {L : Nat} {σ : Nat → Int32} {d : Nat} {H : zp_H} {x : Int32} (hB : zk_Bs (zB_c 2) zg zJc H) (hx : 0 ≤ x.toInt ∧ x.toInt ≤ (H.2.1 0 1).toInt) : ∃ X, zp_Call L σ (d + 49) 49 [.inr (.inr (some 1)), .inl x] H X ∧ (fun X : zp_X => ∃ (v : Int32) (H1 : zp_H) (c : Nat), X = (.inl (some (.inl v)), H1) ∧ c < 4 ∧ zk_Bs (zB_c c) zg zJc H1 ∧ zf_C H H1 ∧ (H1.2.1 0 1).toInt = 0) X := by
  have hb := zB_Bc hB
  have W := zB_Wd (zB_dn hb)
  have r1 := zB_fr1 (zB_dn hb) (p := 0) (k := 1) (r := (0, 700)) rfl
  have r1 : 0 ≤ (H.2.1 0 1).toInt ∧ (H.2.1 0 1).toInt ≤ 700 := r1
  have g5 : H.2.2.2 0 5 = some 23 := hB.2.1 0 5 _ rfl
  have g6 : H.2.2.2 0 6 = some 14 := hB.2.1 0 6 _ rfl
  have g7 : H.2.2.2 0 7 = some 3 := hB.2.1 0 7 _ rfl
  have g8 : H.2.2.2 0 8 = some 34 := hB.2.1 0 8 _ rfl
  have b0 : zk_Bs zB zg zJc (zw_I H 0 1 (Int32.ofInt 0)) := zB_up (zB_putf (p := 0) (k := 1) (x := Int32.ofInt 0) (zB_dn hb) rfl (fun r hr => by cases hr; decide) (zJc_I rfl hb.2.2.2.2.2.2.2)) (by
    rw [show (zw_I H 0 1 (Int32.ofInt 0)).2.1 52 4 = H.2.1 52 4 from zw_ne rfl rfl, show (zw_I H 0 1 (Int32.ofInt 0)).2.1 52 5 = H.2.1 52 5 from zw_ne rfl rfl]
    exact zB_cn hb)
  obtain ⟨⟨x1, H1⟩, c1, c2, c3, o, o1, o2⟩ := zc_e152 (L := L) (σ := σ) zB_W zh_all (d + 48) (by show 48 ≤ d + 48; omega) [.inr (.inr (some 52)), .inl x, .inr (.inr (some 3)), .inr (.inr (some 34))] (zw_I H 0 1 (Int32.ofInt 0)) ⟨rfl, ⟨by show (0 : Int) ≤ _; omega, by show _ ≤ (700 : Int); omega⟩, rfl, rfl, trivial⟩ b0 (fun f hf => absurd hf List.not_mem_nil)
  obtain ⟨v, rfl⟩ : ∃ v, x1 = .inl (some (.inl v)) := zI_v1 (outs := ze_e152.2.2.2.2.2.1) rfl ⟨o, o1, o2.1⟩
  have W1 := zB_Wd (zB_dn c2)
  have hr1 : H1.2.2.2 = H.2.2.2 := c3.1
  have t1 : (H1.2.1 0 1).toInt = 0 := by
    rw [(zI_in c3 (p := 0) (k := 1) rfl rfl (by decide)).1, zw_eq]
    decide
  have hC : zf_C H H1 := by
    intro p k h1 h2 h3
    have z := zI_frc c3 (by decide +kernel) (by decide +kernel) p k h1 h2 h3
    exact ⟨z.1.trans (zp_u_ne (fun h9 => by have := h9.1; omega)), z.2⟩
  refine zw_met zm_49_t rfl rfl ?_
  refine zw_ld (n := 1) (k := 1) (f := zp_isI) (pc' := 1) rfl rfl rfl rfl rfl ?_
  refine zw_blt1 (g := 12) (pc' := 4) rfl rfl rfl rfl (fun hb0 => ?_) (fun hb0 => ?_)
  · omega
  · refine zw_ld (n := 1) (k := 1) (f := zp_isI) (pc' := 5) rfl rfl rfl rfl rfl ?_
    refine zw_ld (n := 1) (k := 0) (f := zp_isR) (pc' := 6) rfl rfl rfl rfl rfl ?_
    refine zw_gI (q := 0) (pc' := 9) W rfl rfl rfl rfl rfl rfl ?_
    refine zw_ble2 (g := 22) (pc' := 12) rfl rfl rfl rfl rfl (fun hb1 => ?_) (fun hb1 => ?_)
    · refine zw_ld (n := 1) (k := 0) (f := zp_isR) (pc' := 23) rfl rfl rfl rfl rfl ?_
      refine zw_s (pc' := 24) rfl rfl ?_
      refine zw_pI (q := 0) (pc' := 27) W rfl rfl rfl rfl rfl rfl ?_
      refine zw_ld (n := 1) (k := 0) (f := zp_isR) (pc' := 28) rfl rfl rfl rfl rfl ?_
      refine zw_gR (q := 0) (pc' := 31) (zw_W_I W) rfl rfl rfl rfl ((zw_W_I W).2 0 11 _ rfl) rfl ?_
      refine zw_ld (n := 1) (k := 1) (f := zp_isI) (pc' := 32) rfl rfl rfl rfl rfl ?_
      refine zw_ld (n := 1) (k := 0) (f := zp_isR) (pc' := 33) rfl rfl rfl rfl rfl ?_
      refine zw_gR (q := 0) (pc' := 36) (zw_W_I W) rfl rfl rfl rfl g7 rfl ?_
      refine zw_ld (n := 1) (k := 0) (f := zp_isR) (pc' := 37) rfl rfl rfl rfl rfl ?_
      refine zw_gR (q := 0) (pc' := 40) (zw_W_I W) rfl rfl rfl rfl g8 rfl ?_
      refine zw_c (pc' := 43) (zw_cv (q := 51) (Y := zm_50) (zw_W_I W).1 rfl rfl zm_50_t rfl rfl) rfl rfl rfl rfl rfl (c1) ?_
      refine zw_bne1 (g := 75) (pc' := 46) rfl rfl rfl rfl (fun hv => ?_) (fun hv => ?_)
      · refine zw_ld (n := 1) (k := 0) (f := zp_isR) (pc' := 76) rfl rfl rfl rfl rfl ?_
        refine zw_cn (pc' := 79) (zw_cv (q := 0) (Y := zm_98) W1.1 rfl rfl zm_98_t rfl rfl) rfl rfl rfl rfl rfl (zsc_tn2 W1 (by rw [hr1]; exact g5) (by rw [hr1]; exact g6) (by rw [hr1]; exact g7) (by rw [hr1]; exact g8)) ?_
        refine zw_s (pc' := 80) rfl rfl ?_
        refine zw_ri rfl rfl ?_
        refine ⟨_, _, 1, rfl, by decide, zsc_Bn c2 (by decide) (zsc_rk W1.2 rfl), fun p k h1 h2 h3 => ?_, ?_⟩
        · exact ⟨(zsc_Gne h1).trans (hC p k h1 h2 h3).1, (hC p k h1 h2 h3).2⟩
        · exact (congrArg Int32.toInt (zw_ne (zw_ne (zw_ne rfl rfl) rfl) rfl)).trans t1
      · refine zw_ld (n := 1) (k := 0) (f := zp_isR) (pc' := 47) rfl rfl rfl rfl rfl ?_
        refine zw_ld (n := 1) (k := 0) (f := zp_isR) (pc' := 48) rfl rfl rfl rfl rfl ?_
        refine zw_gR (q := 0) (pc' := 51) W1 rfl rfl rfl rfl (W1.2 0 11 _ rfl) rfl ?_
        refine zw_gI (q := 51) (pc' := 54) W1 rfl rfl rfl rfl rfl rfl ?_
        refine zw_pI (q := 0) (pc' := 57) W1 rfl rfl rfl rfl rfl rfl ?_
        refine zw_ld (n := 1) (k := 0) (f := zp_isR) (pc' := 58) rfl rfl rfl rfl rfl ?_
        refine zw_s (pc' := 59) rfl rfl ?_
        refine zw_gI (q := 0) (pc' := 62) (zw_W_I W1) rfl rfl rfl rfl (zw_ne rfl rfl) rfl ?_
        refine zw_s (pc' := 63) rfl rfl ?_
        refine zw_iadd (pc' := 64) rfl rfl ?_
        refine zw_pI (q := 0) (pc' := 67) (zw_W_I W1) rfl rfl rfl rfl rfl rfl ?_
        refine zw_ld (n := 1) (k := 0) (f := zp_isR) (pc' := 68) rfl rfl rfl rfl rfl ?_
        refine zw_gR (q := 0) (pc' := 71) (zw_W_I (zw_W_I W1)) rfl rfl rfl rfl ((zw_W_I (zw_W_I W1)).2 0 11 _ rfl) rfl ?_
        refine zw_gI (q := 51) (pc' := 74) (zw_W_I (zw_W_I W1)) rfl rfl rfl rfl (zw_ne (zw_ne rfl rfl) rfl) rfl ?_
        refine zw_ri rfl rfl ?_
        refine ⟨_, _, 2, rfl, by decide, zsc_B2 hB c2 hr1 rfl rfl, fun p k h1 h2 h3 => ?_, ?_⟩
        · exact ⟨(zp_u_ne (fun h9 => by have := h9.1; omega)).trans ((zp_u_ne (fun h9 => by have := h9.1; omega)).trans (hC p k h1 h2 h3).1), (hC p k h1 h2 h3).2⟩
        · exact (congrArg Int32.toInt (zw_ne (zw_ne rfl rfl) rfl)).trans t1
    · omega

theorem zsc_tn3 {L : Nat} {σ : Nat → Int32} {d : Nat} {H : zp_H} (W : zw_W H) (g5 : H.2.2.2 0 5 = some 23) (g6 : H.2.2.2 0 6 = some 34) (g7 : H.2.2.2 0 7 = some 3) (g8 : H.2.2.2 0 8 = some 14) : zp_Call L σ (d + 2) 98 [.inr (.inr (some 1))] H (.inl none, zsc_G H 23 34 3 14) := by
  refine zw_ex (zw_met zm_98_t rfl rfl ?_)
  refine zw_ld (n := 1) (k := 0) (f := zp_isR) (pc' := 1) rfl rfl rfl rfl rfl ?_
  refine zw_gR (q := 0) (pc' := 4) W rfl rfl rfl rfl g5 rfl ?_
  refine zw_st (n := 1) (k := 1) (f := zp_isR) (pc' := 5) rfl rfl rfl rfl rfl ?_
  refine zw_ld (n := 1) (k := 0) (f := zp_isR) (pc' := 6) rfl rfl (zw_gt rfl rfl rfl) rfl rfl ?_
  refine zw_gR (q := 0) (pc' := 9) W rfl rfl rfl rfl g6 rfl ?_
  refine zw_st (n := 1) (k := 2) (f := zp_isR) (pc' := 10) rfl rfl rfl rfl rfl ?_
  refine zw_ld (n := 1) (k := 0) (f := zp_isR) (pc' := 11) rfl rfl (zw_gt (zw_gt rfl rfl rfl) rfl rfl) rfl rfl ?_
  refine zw_ld (n := 1) (k := 0) (f := zp_isR) (pc' := 12) rfl rfl (zw_gt (zw_gt rfl rfl rfl) rfl rfl) rfl rfl ?_
  refine zw_gR (q := 0) (pc' := 15) W rfl rfl rfl rfl g7 rfl ?_
  refine zw_pR (q := 0) (pc' := 18) W.1 rfl rfl rfl rfl rfl rfl ?_
  refine zw_ld (n := 1) (k := 0) (f := zp_isR) (pc' := 19) rfl rfl (zw_gt (zw_gt rfl rfl rfl) rfl rfl) rfl rfl ?_
  refine zw_ld (n := 1) (k := 0) (f := zp_isR) (pc' := 20) rfl rfl (zw_gt (zw_gt rfl rfl rfl) rfl rfl) rfl rfl ?_
  refine zw_gR (q := 0) (pc' := 23) (zw_W_R W rfl) rfl rfl rfl rfl (zw_Rne g8 rfl) rfl ?_
  refine zw_pR (q := 0) (pc' := 26) (zw_W_R W rfl).1 rfl rfl rfl rfl rfl rfl ?_
  refine zw_ld (n := 1) (k := 0) (f := zp_isR) (pc' := 27) rfl rfl (zw_gt (zw_gt rfl rfl rfl) rfl rfl) rfl rfl ?_
  refine zw_ld (n := 1) (k := 1) (f := zp_isR) (pc' := 28) rfl rfl (zw_gt zw_g1 rfl rfl) rfl rfl ?_
  refine zw_pR (q := 0) (pc' := 31) (zw_W_R (zw_W_R W rfl) rfl).1 rfl rfl rfl rfl rfl rfl ?_
  refine zw_ld (n := 1) (k := 0) (f := zp_isR) (pc' := 32) rfl rfl (zw_gt (zw_gt rfl rfl rfl) rfl rfl) rfl rfl ?_
  refine zw_ld (n := 1) (k := 2) (f := zp_isR) (pc' := 33) rfl rfl zw_g1 rfl rfl ?_
  refine zw_pR (q := 0) (pc' := 36) (zw_W_R (zw_W_R (zw_W_R W rfl) rfl) rfl).1 rfl rfl rfl rfl rfl rfl ?_
  refine zw_ld (n := 1) (k := 0) (f := zp_isR) (pc' := 37) rfl rfl (zw_gt (zw_gt rfl rfl rfl) rfl rfl) rfl rfl ?_
  refine zw_s (pc' := 38) rfl rfl ?_
  refine zw_pI (q := 0) (pc' := 41) (zw_W_R (zw_W_R (zw_W_R (zw_W_R W rfl) rfl) rfl) rfl) rfl rfl rfl rfl rfl rfl ?_
  refine zw_ld (n := 1) (k := 0) (f := zp_isR) (pc' := 42) rfl rfl (zw_gt (zw_gt rfl rfl rfl) rfl rfl) rfl rfl ?_
  refine zw_s (pc' := 43) rfl rfl ?_
  refine zw_pI (q := 0) (pc' := 46) (zw_W_I (zw_W_R (zw_W_R (zw_W_R (zw_W_R W rfl) rfl) rfl) rfl)) rfl rfl rfl rfl (rfl) rfl ?_
  refine zw_ld (n := 1) (k := 0) (f := zp_isR) (pc' := 47) rfl rfl (zw_gt (zw_gt rfl rfl rfl) rfl rfl) rfl rfl ?_
  refine zw_gR (q := 0) (pc' := 50) (zw_W_I (zw_W_I (zw_W_R (zw_W_R (zw_W_R (zw_W_R W rfl) rfl) rfl) rfl))) rfl rfl rfl rfl ((zw_W_I (zw_W_I (zw_W_R (zw_W_R (zw_W_R (zw_W_R W rfl) rfl) rfl) rfl))).2 0 15 _ rfl) rfl ?_
  refine zw_cn (pc' := 53) (zw_cv (q := 60) (Y := zm_99) (zw_W_I (zw_W_I (zw_W_R (zw_W_R (zw_W_R (zw_W_R W rfl) rfl) rfl) rfl))).1 rfl rfl zm_99_t rfl rfl) rfl rfl rfl rfl rfl (zsc_fg (zw_W_I (zw_W_I (zw_W_R (zw_W_R (zw_W_R (zw_W_R W rfl) rfl) rfl) rfl)))) ?_
  refine zw_rn rfl rfl ?_
  rfl

theorem zsc_y3 {L : Nat} {σ : Nat → Int32} {d : Nat} {H : zp_H} {x : Int32} (hB : zk_Bs (zB_c 3) zg zJc H) (hx : 0 ≤ x.toInt ∧ x.toInt ≤ (H.2.1 0 1).toInt) : ∃ X, zp_Call L σ (d + 49) 49 [.inr (.inr (some 1)), .inl x] H X ∧ (fun X : zp_X => ∃ (v : Int32) (H1 : zp_H) (c : Nat), X = (.inl (some (.inl v)), H1) ∧ c < 4 ∧ zk_Bs (zB_c c) zg zJc H1 ∧ zf_C H H1 ∧ (H1.2.1 0 1).toInt = 0) X := by
  have hb := zB_Bc hB
  have W := zB_Wd (zB_dn hb)
  have r1 := zB_fr1 (zB_dn hb) (p := 0) (k := 1) (r := (0, 700)) rfl
  have r1 : 0 ≤ (H.2.1 0 1).toInt ∧ (H.2.1 0 1).toInt ≤ 700 := r1
  have g5 : H.2.2.2 0 5 = some 23 := hB.2.1 0 5 _ rfl
  have g6 : H.2.2.2 0 6 = some 34 := hB.2.1 0 6 _ rfl
  have g7 : H.2.2.2 0 7 = some 3 := hB.2.1 0 7 _ rfl
  have g8 : H.2.2.2 0 8 = some 14 := hB.2.1 0 8 _ rfl
  have b0 : zk_Bs zB zg zJc (zw_I H 0 1 (Int32.ofInt 0)) := zB_up (zB_putf (p := 0) (k := 1) (x := Int32.ofInt 0) (zB_dn hb) rfl (fun r hr => by cases hr; decide) (zJc_I rfl hb.2.2.2.2.2.2.2)) (by
    rw [show (zw_I H 0 1 (Int32.ofInt 0)).2.1 52 4 = H.2.1 52 4 from zw_ne rfl rfl, show (zw_I H 0 1 (Int32.ofInt 0)).2.1 52 5 = H.2.1 52 5 from zw_ne rfl rfl]
    exact zB_cn hb)
  obtain ⟨⟨x1, H1⟩, c1, c2, c3, o, o1, o2⟩ := zc_e161 (L := L) (σ := σ) zB_W zh_all (d + 48) (by show 48 ≤ d + 48; omega) [.inr (.inr (some 52)), .inl x, .inr (.inr (some 3)), .inr (.inr (some 14))] (zw_I H 0 1 (Int32.ofInt 0)) ⟨rfl, ⟨by show (0 : Int) ≤ _; omega, by show _ ≤ (700 : Int); omega⟩, rfl, rfl, trivial⟩ b0 (fun f hf => absurd hf List.not_mem_nil)
  obtain ⟨v, rfl⟩ : ∃ v, x1 = .inl (some (.inl v)) := zI_v1 (outs := ze_e161.2.2.2.2.2.1) rfl ⟨o, o1, o2.1⟩
  have W1 := zB_Wd (zB_dn c2)
  have hr1 : H1.2.2.2 = H.2.2.2 := c3.1
  have t1 : (H1.2.1 0 1).toInt = 0 := by
    rw [(zI_in c3 (p := 0) (k := 1) rfl rfl (by decide)).1, zw_eq]
    decide
  have hC : zf_C H H1 := by
    intro p k h1 h2 h3
    have z := zI_frc c3 (by decide +kernel) (by decide +kernel) p k h1 h2 h3
    exact ⟨z.1.trans (zp_u_ne (fun h9 => by have := h9.1; omega)), z.2⟩
  refine zw_met zm_49_t rfl rfl ?_
  refine zw_ld (n := 1) (k := 1) (f := zp_isI) (pc' := 1) rfl rfl rfl rfl rfl ?_
  refine zw_blt1 (g := 12) (pc' := 4) rfl rfl rfl rfl (fun hb0 => ?_) (fun hb0 => ?_)
  · omega
  · refine zw_ld (n := 1) (k := 1) (f := zp_isI) (pc' := 5) rfl rfl rfl rfl rfl ?_
    refine zw_ld (n := 1) (k := 0) (f := zp_isR) (pc' := 6) rfl rfl rfl rfl rfl ?_
    refine zw_gI (q := 0) (pc' := 9) W rfl rfl rfl rfl rfl rfl ?_
    refine zw_ble2 (g := 22) (pc' := 12) rfl rfl rfl rfl rfl (fun hb1 => ?_) (fun hb1 => ?_)
    · refine zw_ld (n := 1) (k := 0) (f := zp_isR) (pc' := 23) rfl rfl rfl rfl rfl ?_
      refine zw_s (pc' := 24) rfl rfl ?_
      refine zw_pI (q := 0) (pc' := 27) W rfl rfl rfl rfl rfl rfl ?_
      refine zw_ld (n := 1) (k := 0) (f := zp_isR) (pc' := 28) rfl rfl rfl rfl rfl ?_
      refine zw_gR (q := 0) (pc' := 31) (zw_W_I W) rfl rfl rfl rfl ((zw_W_I W).2 0 11 _ rfl) rfl ?_
      refine zw_ld (n := 1) (k := 1) (f := zp_isI) (pc' := 32) rfl rfl rfl rfl rfl ?_
      refine zw_ld (n := 1) (k := 0) (f := zp_isR) (pc' := 33) rfl rfl rfl rfl rfl ?_
      refine zw_gR (q := 0) (pc' := 36) (zw_W_I W) rfl rfl rfl rfl g7 rfl ?_
      refine zw_ld (n := 1) (k := 0) (f := zp_isR) (pc' := 37) rfl rfl rfl rfl rfl ?_
      refine zw_gR (q := 0) (pc' := 40) (zw_W_I W) rfl rfl rfl rfl g8 rfl ?_
      refine zw_c (pc' := 43) (zw_cv (q := 51) (Y := zm_50) (zw_W_I W).1 rfl rfl zm_50_t rfl rfl) rfl rfl rfl rfl rfl (c1) ?_
      refine zw_bne1 (g := 75) (pc' := 46) rfl rfl rfl rfl (fun hv => ?_) (fun hv => ?_)
      · refine zw_ld (n := 1) (k := 0) (f := zp_isR) (pc' := 76) rfl rfl rfl rfl rfl ?_
        refine zw_cn (pc' := 79) (zw_cv (q := 0) (Y := zm_98) W1.1 rfl rfl zm_98_t rfl rfl) rfl rfl rfl rfl rfl (zsc_tn3 W1 (by rw [hr1]; exact g5) (by rw [hr1]; exact g6) (by rw [hr1]; exact g7) (by rw [hr1]; exact g8)) ?_
        refine zw_s (pc' := 80) rfl rfl ?_
        refine zw_ri rfl rfl ?_
        refine ⟨_, _, 0, rfl, by decide, zsc_Bn c2 (by decide) (zsc_rk W1.2 rfl), fun p k h1 h2 h3 => ?_, ?_⟩
        · exact ⟨(zsc_Gne h1).trans (hC p k h1 h2 h3).1, (hC p k h1 h2 h3).2⟩
        · exact (congrArg Int32.toInt (zw_ne (zw_ne (zw_ne rfl rfl) rfl) rfl)).trans t1
      · refine zw_ld (n := 1) (k := 0) (f := zp_isR) (pc' := 47) rfl rfl rfl rfl rfl ?_
        refine zw_ld (n := 1) (k := 0) (f := zp_isR) (pc' := 48) rfl rfl rfl rfl rfl ?_
        refine zw_gR (q := 0) (pc' := 51) W1 rfl rfl rfl rfl (W1.2 0 11 _ rfl) rfl ?_
        refine zw_gI (q := 51) (pc' := 54) W1 rfl rfl rfl rfl rfl rfl ?_
        refine zw_pI (q := 0) (pc' := 57) W1 rfl rfl rfl rfl rfl rfl ?_
        refine zw_ld (n := 1) (k := 0) (f := zp_isR) (pc' := 58) rfl rfl rfl rfl rfl ?_
        refine zw_s (pc' := 59) rfl rfl ?_
        refine zw_gI (q := 0) (pc' := 62) (zw_W_I W1) rfl rfl rfl rfl (zw_ne rfl rfl) rfl ?_
        refine zw_s (pc' := 63) rfl rfl ?_
        refine zw_iadd (pc' := 64) rfl rfl ?_
        refine zw_pI (q := 0) (pc' := 67) (zw_W_I W1) rfl rfl rfl rfl rfl rfl ?_
        refine zw_ld (n := 1) (k := 0) (f := zp_isR) (pc' := 68) rfl rfl rfl rfl rfl ?_
        refine zw_gR (q := 0) (pc' := 71) (zw_W_I (zw_W_I W1)) rfl rfl rfl rfl ((zw_W_I (zw_W_I W1)).2 0 11 _ rfl) rfl ?_
        refine zw_gI (q := 51) (pc' := 74) (zw_W_I (zw_W_I W1)) rfl rfl rfl rfl (zw_ne (zw_ne rfl rfl) rfl) rfl ?_
        refine zw_ri rfl rfl ?_
        refine ⟨_, _, 3, rfl, by decide, zsc_B2 hB c2 hr1 rfl rfl, fun p k h1 h2 h3 => ?_, ?_⟩
        · exact ⟨(zp_u_ne (fun h9 => by have := h9.1; omega)).trans ((zp_u_ne (fun h9 => by have := h9.1; omega)).trans (hC p k h1 h2 h3).1), (hC p k h1 h2 h3).2⟩
        · exact (congrArg Int32.toInt (zw_ne (zw_ne rfl rfl) rfl)).trans t1
    · omega

theorem zsc_yes {L : Nat} {σ : Nat → Int32} {d c : Nat} {H : zp_H} {x : Int32} (hc : c < 4) (hB : zk_Bs (zB_c c) zg zJc H) (hx : 0 ≤ x.toInt ∧ x.toInt ≤ (H.2.1 0 1).toInt) : ∃ X, zp_Call L σ (d + 49) 49 [.inr (.inr (some 1)), .inl x] H X ∧ (fun X : zp_X => ∃ (v : Int32) (H1 : zp_H) (c : Nat), X = (.inl (some (.inl v)), H1) ∧ c < 4 ∧ zk_Bs (zB_c c) zg zJc H1 ∧ zf_C H H1 ∧ (H1.2.1 0 1).toInt = 0) X := by
  match c, hc, hB with
  | 0, _, hB => exact zsc_y0 hB hx
  | 1, _, hB => exact zsc_y1 hB hx
  | 2, _, hB => exact zsc_y2 hB hx
  | 3, _, hB => exact zsc_y3 hB hx
end
section
/-! ===== every call of both sides ===== -/
def zm_48 : za_MI := (yL_sea, method_3_code, 4, (some FieldType.int), 13, 1, 6, [(0, 9, 12, 13)], za_i48)
theorem zm_48_t : za_MT 48 = some zm_48 := rfl
section WV
variable {L : Nat} {σ : Nat → Int32} {P : zp_X → Prop} {M Y : za_MI} {fs : List zs_F} {d : Nat} {pc pc' : Nat} {lv lv' : zp_LV} {st st' : List zp_V} {H H1 : zp_H} {c c' : Nat × Nat} {x y : Int32} {u v : Int64} {a b : Int} {i : Instr}
/-- calls that may need new cells -/
theorem zw_ct {k j : Nat} {as : List zp_V} {w : zp_V} {nx : Bool} (h : za_fe (za_is M) pc = some i ∧ zp_cl (za_CP (za_cl M)) i st (H, c) = some (nx, j, k, Y)) (hp : zp_pre M Y k st (H, c)) (ha : (st.take k).reverse = as) (hst : st.drop k = st') (hc : (c.1 + za_mc Y, c.2 + za_ms Y) = c') (hpc : pc + 3 = pc') (hC : zp_Call L σ d j as H (.inl (some w), H1)) (hS : zs_Safe L σ P M fs d (pc', lv, w :: st', H1, c')) : zs_Safe L σ P M fs d (pc, lv, st, H, c) := by
  subst ha hst hpc hc
  exact zs_sum (S := (pc, lv, st, H, c)) h.1 h.2 hp hC (fun _ => trivial) (Or.inl ⟨(pc + 3, lv, w :: st.drop k, H1, (c.1 + za_mc Y, c.2 + za_ms Y)), rfl, hS⟩)
theorem zw_ctn {k j : Nat} {as : List zp_V} {nx : Bool} (h : za_fe (za_is M) pc = some i ∧ zp_cl (za_CP (za_cl M)) i st (H, c) = some (nx, j, k, Y)) (hp : zp_pre M Y k st (H, c)) (ha : (st.take k).reverse = as) (hst : st.drop k = st') (hc : (c.1 + za_mc Y, c.2 + za_ms Y) = c') (hpc : pc + 3 = pc') (hC : zp_Call L σ d j as H (.inl none, H1)) (hS : zs_Safe L σ P M fs d (pc', lv, st', H1, c')) : zs_Safe L σ P M fs d (pc, lv, st, H, c) := by
  subst ha hst hpc hc
  exact zs_sum (S := (pc, lv, st, H, c)) h.1 h.2 hp hC (fun _ => trivial) (Or.inl ⟨(pc + 3, lv, st.drop k, H1, (c.1 + za_mc Y, c.2 + za_ms Y)), rfl, hS⟩)
/-- it throws, and that is caught here -/
theorem zw_cex {k j ex hp9 : Nat} {k9 : Fin 4} {as : List zp_V} (h : za_fe (za_is M) pc = some i ∧ zp_cl (za_CP (za_cl M)) i st (H, c) = some (false, j, k, Y)) (hp : zp_pre M Y k st (H, c)) (ha : (st.take k).reverse = as) (hc : (c.1 + za_mc Y, c.2 + za_ms Y) = c') (hh : za_hnd (za_CP (za_cl M)) pc ex (za_hh M) = some (some hp9)) (hi9 : za_fe (za_is M) hp9 = some (.astore_n k9)) (hk9 : Nat.blt k9.val (za_nL M) = true) (hpc : hp9 + 1 = pc') (hlv : zp_fl lv k9.val = lv') (hC : zp_Call L σ d j as H (.inr ex, H1)) (hS : zs_Safe L σ P M fs d (pc', lv', [], H1, c')) : zs_Safe L σ P M fs d (pc, lv, st, H, c) := by
  subst ha hpc hc hlv
  refine zs_sum (S := (pc, lv, st, H, c)) h.1 h.2 hp hC (fun z => Bool.noConfusion z) (Or.inl ⟨(hp9 + 1, zp_fl lv k9.val, [], H1, (c.1 + za_mc Y, c.2 + za_ms Y)), ?_, hS⟩)
  show (match za_hnd (za_CP (za_cl M)) pc ex (za_hh M) with
    | none => none
    | some none => some (.inr (.inr ex, H1))
    | some (some hp) => match za_fe (za_is M) hp with
      | some (.astore_n k) => bif Nat.blt k.val (za_nL M) then some (.inl (hp + 1, zp_fl lv k.val, [], H1, c.1 + za_mc Y, c.2 + za_ms Y)) else none
      | some (.astore k) => bif Nat.blt k (za_nL M) then some (.inl (hp + 2, zp_fl lv k, [], H1, c.1 + za_mc Y, c.2 + za_ms Y)) else none
      | _ => none : Option (zp_S ⊕ zp_X)) = _
  rw [hh]
  show (match za_fe (za_is M) hp9 with
      | some (.astore_n k) => bif Nat.blt k.val (za_nL M) then some (.inl (hp9 + 1, zp_fl lv k.val, [], H1, c.1 + za_mc Y, c.2 + za_ms Y)) else none
      | some (.astore k) => bif Nat.blt k (za_nL M) then some (.inl (hp9 + 2, zp_fl lv k, [], H1, c.1 + za_mc Y, c.2 + za_ms Y)) else none
      | _ => none : Option (zp_S ⊕ zp_X)) = _
  rw [hi9]
  show (bif Nat.blt k9.val (za_nL M) then some (.inl (hp9 + 1, zp_fl lv k9.val, [], H1, c.1 + za_mc Y, c.2 + za_ms Y)) else none : Option (zp_S ⊕ zp_X)) = _
  rw [hk9]
  rfl
theorem zw_rig (hi : za_fe (za_is M) pc = some .ireturn) (hr : za_rt M = some .int) (hc : c.1 ≤ za_mc M ∧ c.2 ≤ za_ms M) (hP : P (.inl (some (.inl x)), H)) : zs_Safe L σ P M [] d (pc, lv, [.inl x], H, c) := by
  refine zs_end (S := (pc, lv, [.inl x], H, c)) (X := (.inl (some (.inl x)), H)) hi ?_ hP
  show zp_iret (za_mc M) (za_ms M) (za_rt M) [.inl x] (H, c) = _
  rw [hr]
  exact if_pos hc
theorem zw_rzg (hi : za_fe (za_is M) pc = some .ireturn) (hr : za_rt M = some .boolean) (hx : x = 0 ∨ x = 1) (hc : c.1 ≤ za_mc M ∧ c.2 ≤ za_ms M) (hP : P (.inl (some (.inl x)), H)) : zs_Safe L σ P M [] d (pc, lv, [.inl x], H, c) := by
  refine zs_end (S := (pc, lv, [.inl x], H, c)) (X := (.inl (some (.inl x)), H)) hi ?_ hP
  show zp_iret (za_mc M) (za_ms M) (za_rt M) [.inl x] (H, c) = _
  rw [hr]
  exact if_pos ⟨hc, hx⟩
/-- a number of the script -/
theorem zw_sc (hi : za_fe (za_is M) pc = some .iaload) (hb : 0 ≤ y.toInt ∧ y.toInt < L) (hp : pc + 1 = pc') (hS : zs_Safe L σ P M fs d (pc', lv, .inl (σ y.toInt.toNat) :: st, H, c)) : zs_Safe L σ P M fs d (pc, lv, .inl y :: .inr (.inr (some 0)) :: st, H, c) := by
  refine zs_step (S := (pc, lv, .inl y :: .inr (.inr (some 0)) :: st, H, c)) (S' := (pc', lv, .inl (σ y.toInt.toNat) :: st, H, c)) hi ?_ hS
  show (if false = false ∧ 0 ≤ y.toInt ∧ y.toInt < L then zp_go lv (H, c) (pc + 1) (.inl (σ y.toInt.toNat) :: st) else none) = _
  rw [if_pos ⟨rfl, hb.1, hb.2⟩, hp]
  rfl
end WV
/-! one call of each, both sides kept -/
theorem zo_feed {L : Nat} {σ : Nat → Int32} {d c t : Nat} {H : zp_H} {x1 x2 x3 x4 x5 : Int32} (hI : zI c t H) : ∃ H1 H2 v w t', zp_Call L σ (d + 60) 17 [.inr (.inr (some 1)), .inl x1, .inl x2, .inl x3, .inl x4, .inl x5] H (.inl (some (.inl v)), H1) ∧ zp_Call L σ (d + 60) 167 [.inr (.inr (some 73)), .inl x1, .inl x2, .inl x3, .inl x4, .inl x5] H1 (.inl (some (.inl w)), H2) ∧ v.toInt = w.toInt ∧ H1.1 = zB_sh ∧ zI c t' H2 := by
  obtain ⟨h1, h2, h3, h4, h5, h6⟩ := hI
  obtain ⟨⟨x, H1⟩, a1, a2, a3, o, a4, a5⟩ := zB_ct (c := c) (zdo_fd (L := L) (σ := σ) zB_W (c := t) (by omega)) (d + 60) (by show 2 ≤ d + 60; omega) [.inr (.inr (some 1)), .inl x1, .inl x2, .inl x3, .inl x4, .inl x5] H ⟨rfl, zl_full _, zl_full _, zl_full _, zl_full _, zl_full _, trivial⟩ h1 (fun f hf => by
    rcases List.mem_cons.mp hf with rfl | hf
    · show zk_in (H.2.1 0 1).toInt _
      rw [h3]
      exact ⟨Int.le_refl _, Int.le_refl _⟩
    · exact absurd hf List.not_mem_nil)
  have hC : zf_C H H1 := zI_frc a3 rfl rfl
  have b2 : zk_Bs z0R zg zJ H1 := zI_R h2 a2.1 (zI_rf a2) hC
  have g4 : (H1.2.1 72 22).toInt = (20 * t : Nat) := by
    rw [(hC 72 22 (by decide) (by decide) (by decide)).1]
    exact h4
  obtain ⟨⟨y, H2⟩, b1, c2, b3, o', b4, b5⟩ := z0ro_fd (L := L) (σ := σ) (c := t) (by omega) (d + 60) (by show 2 ≤ d + 60; omega) [.inr (.inr (some 73)), .inl x1, .inl x2, .inl x3, .inl x4, .inl x5] H1 ⟨rfl, zl_full _, zl_full _, zl_full _, zl_full _, zl_full _, trivial⟩ b2 (fun f hf => by
    rcases List.mem_cons.mp hf with rfl | hf
    · show zk_in (H1.2.1 72 22).toInt _
      rw [g4]
      exact ⟨Int.le_refl _, Int.le_refl _⟩
    · exact absurd hf List.not_mem_nil)
  have hF : zf_72 H1 H2 := zf_of b3 rfl rfl
  have k1 := zI_B a2 c2.1 hF
  have e01 : H2.2.1 0 1 = H1.2.1 0 1 := (hF.2 0 1 (by decide)).1
  have a4 := List.mem_singleton.mp a4
  have b4 := List.mem_singleton.mp b4
  subst a4 b4
  by_cases ht : t < 35
  · have hb : Nat.blt t 35 = true := Nat.ble_eq_true_of_le ht
    rw [hb] at a5 b5
    obtain ⟨p1, p2, -⟩ := a5
    obtain ⟨q1, q2, -⟩ := b5
    have p3 := p2 _ List.mem_cons_self
    have q3 := q2 _ List.mem_cons_self
    match x, y, p1, q1 with
    | .inl (some (.inl v)), .inl (some (.inl w)), p1, q1 =>
      have p1 : ((20 * t + 20 : Nat) : Int) ≤ v.toInt ∧ v.toInt ≤ ((20 * t + 20 : Nat) : Int) := p1
      have q1 : ((20 * t + 20 : Nat) : Int) ≤ w.toInt ∧ w.toInt ≤ ((20 * t + 20 : Nat) : Int) := q1
      have p3 : ((20 * t + 20 : Nat) : Int) ≤ (H1.2.1 0 1).toInt ∧ (H1.2.1 0 1).toInt ≤ ((20 * t + 20 : Nat) : Int) := p3
      have q3 : ((20 * t + 20 : Nat) : Int) ≤ (H2.2.1 72 22).toInt ∧ (H2.2.1 72 22).toInt ≤ ((20 * t + 20 : Nat) : Int) := q3
      exact ⟨H1, H2, v, w, t + 1, a1, b1, by omega, a2.1, k1, c2, by rw [e01]; omega, by omega, by omega, h6⟩
  · have hb : Nat.blt t 35 = false := by
      cases hb : Nat.blt t 35 with
      | false => rfl
      | true => exact absurd (za_blt hb) ht
    have ht : t = 35 := by omega
    subst ht
    obtain ⟨p1, p2, -⟩ := a5
    obtain ⟨q1, q2, -⟩ := b5
    have p3 := p2 _ List.mem_cons_self
    have q3 := q2 _ List.mem_cons_self
    match x, y, p1, q1 with
    | .inl (some (.inl v)), .inl (some (.inl w)), p1, q1 =>
      have p1 : (-1 : Int) ≤ v.toInt ∧ v.toInt ≤ (-1 : Int) := p1
      have q1 : (-1 : Int) ≤ w.toInt ∧ w.toInt ≤ (-1 : Int) := q1
      have p3 : (700 : Int) ≤ (H1.2.1 0 1).toInt ∧ (H1.2.1 0 1).toInt ≤ (700 : Int) := p3
      have q3 : (700 : Int) ≤ (H2.2.1 72 22).toInt ∧ (H2.2.1 72 22).toInt ≤ (700 : Int) := q3
      exact ⟨H1, H2, v, w, 35, a1, b1, by omega, a2.1, k1, c2, by rw [e01]; omega, by omega, by omega, h6⟩

theorem zo_seaN {L : Nat} {σ : Nat → Int32} {d c t : Nat} {H : zp_H} {x : Int32} (hI : zI c t H) (hx : ¬ (0 ≤ x.toInt ∧ x.toInt ≤ (H.2.1 0 1).toInt)) : zp_Call L σ (d + 2) 48 [.inr (.inr (some 1)), .inl x, .inr (.inr (some 105))] H (.inl (some (.inl (Int32.ofInt 1))), H) := by
  have W := zB_Wd (zB_dn (zB_Bc hI.1))
  refine zw_ex (zw_met zm_48_t rfl rfl ?_)
  refine zw_ld (n := 1) (k := 2) (f := zp_isR) (pc' := 1) rfl rfl rfl rfl rfl ?_
  refine zw_s (pc' := 2) rfl rfl ?_
  refine zw_ld (n := 1) (k := 0) (f := zp_isR) (pc' := 3) rfl rfl rfl rfl rfl ?_
  refine zw_ld (n := 1) (k := 1) (f := zp_isI) (pc' := 4) rfl rfl rfl rfl rfl ?_
  refine zw_cex (ex := 1) (hp9 := 12) (pc' := 13) (c' := (1, 6)) (zw_cv (q := 0) (Y := zm_49) W.1 rfl rfl zm_49_t rfl rfl) (zw_pb_ok rfl) rfl rfl rfl rfl rfl rfl rfl (zsc_no (zB_Bc hI.1) hx) ?_
  refine zw_s (pc' := 14) rfl rfl ?_
  refine zw_rig rfl rfl ⟨by decide, by decide⟩ ?_
  rfl

theorem zsc_o {c k : Nat} {H : zp_H} {u : Int64} (h : zk_Bs (zB_c c) zg zJc H) : zk_Bs (zB_c c) zg zJc (zw_J H 104 k u) := by
  refine ⟨h.1, h.2.1, fun q hq => absurd hq List.not_mem_nil, fun q hq => absurd hq List.not_mem_nil, fun p' j r hr' => Or.inr ?_, h.2.2.2.2.2.1, fun e he => Or.inr ?_, zJc_c (H := H) (fun q j hz => ⟨rfl, zp_u_ne (fun h9 => by have := zI_bz hz; have := h9.1; omega)⟩) h.2.2.2.2.2.2.2⟩
  · rcases h.2.2.2.2.1 p' j r hr' with ⟨q, q1, _⟩ | h9
    · exact absurd q1 List.not_mem_nil
    unfold zk_fv at h9 ⊢
    by_cases hh : p' = 72 ∧ j = 100
    · obtain ⟨rfl, rfl⟩ := hh
      cases hr'
    · rw [if_neg hh] at h9 ⊢
      exact h9
  · rcases h.2.2.2.2.2.2.1 e he with ⟨q, q1, _⟩ | h9
    · exact absurd q1 List.not_mem_nil
    have he : e ∈ zB_cd := he
    unfold zB_cd at he
    rcases List.mem_cons.mp he with rfl | he
    · exact h9
    · exact absurd he List.not_mem_nil

theorem zo_seaY {L : Nat} {σ : Nat → Int32} {d c t : Nat} {H : zp_H} {x : Int32} (hI : zI c t H) (hx : 0 ≤ x.toInt ∧ x.toInt ≤ (H.2.1 0 1).toInt) : ∃ X, zp_Call L σ (d + 60) 48 [.inr (.inr (some 1)), .inl x, .inr (.inr (some 105))] H X ∧ (fun X : zp_X => ∃ (v : Int32) (H1 : zp_H) (c : Nat), X = (.inl (some (.inl v)), H1) ∧ c < 4 ∧ zk_Bs (zB_c c) zg zJc H1 ∧ zf_C H H1 ∧ (H1.2.1 0 1).toInt = 0) X := by
  have W := zB_Wd (zB_dn (zB_Bc hI.1))
  obtain ⟨_, c1, v, H1, c', rfl, c2, c3, c4, c5⟩ := zsc_yes (L := L) (σ := σ) (d := d + 10) hI.2.2.2.2.2 hI.1 hx
  have W1 := zB_Wd (zB_dn (zB_Bc c3))
  refine zw_met zm_48_t rfl rfl ?_
  refine zw_ld (n := 1) (k := 2) (f := zp_isR) (pc' := 1) rfl rfl rfl rfl rfl ?_
  refine zw_s (pc' := 2) rfl rfl ?_
  refine zw_ld (n := 1) (k := 0) (f := zp_isR) (pc' := 3) rfl rfl rfl rfl rfl ?_
  refine zw_ld (n := 1) (k := 1) (f := zp_isI) (pc' := 4) rfl rfl rfl rfl rfl ?_
  refine zw_ct (pc' := 7) (c' := (1, 6)) (zw_cv (q := 0) (Y := zm_49) W.1 rfl rfl zm_49_t rfl rfl) (zw_pb_ok rfl) rfl rfl rfl rfl c1 ?_
  refine zw_s (pc' := 8) rfl rfl ?_
  refine zw_ls (q := 104) (pc' := 9) W1 rfl rfl (⟨by decide, by decide⟩) rfl ?_
  refine zw_s (pc' := 15) rfl rfl ?_
  refine zw_s (pc' := 16) rfl rfl ?_
  refine zw_rig rfl rfl ⟨by decide, by decide⟩ ?_
  exact ⟨_, _, c', rfl, c2, zsc_o c3, fun p k h1 h2 h3 => ⟨(c4 p k h1 h2 h3).1, (zp_u_ne (fun h9 => h2 h9.1)).trans (c4 p k h1 h2 h3).2⟩, c5⟩
end
