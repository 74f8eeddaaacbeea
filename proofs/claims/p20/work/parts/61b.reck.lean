section
/-! ===== the reference reckons a code; a pilot's way ===== -/
theorem zk_rv_i {r : Int × Int} {x : Option zp_V ⊕ Nat} (h : zk_rv (.inl (some (.inl r))) x) : ∃ v : Int32, x = .inl (some (.inl v)) ∧ zk_in v.toInt r := by
  match x, h with
  | .inl (some (.inl v)), h => exact ⟨v, rfl, h⟩
theorem zl_full (x : Int32) : zk_in x.toInt (-2147483648, 2147483647) := ⟨Int32.le_toInt _, Int32.toInt_le _⟩
theorem zw_iiy {L : Nat} {σ : Nat → Int32} {P : zp_X → Prop} {M : za_MI} {fs : List zs_F} {d pc pc' k : Nat} {lv : zp_LV} {st : List zp_V} {H : zp_H} {c : Nat × Nat} {x y : Int32} {dd : Int} (hi : za_fe (za_is M) pc = some (.iinc k dd)) (hv : zp_get lv k = some (.inl x)) (hk : Nat.blt k (za_nL M) = true) (hp : pc + 3 = pc') (hy : x + Int32.ofInt dd = y) (hS : zs_Safe L σ P M fs d (pc', zp_st1 lv k (.inl y), st, H, c)) : zs_Safe L σ P M fs d (pc, lv, st, H, c) := by
  subst hy
  exact zw_ii hi hv hk hp hS
def zm_233 : za_MI := (yX12_reckons, prog_14_method_69_code, 9, (some FieldType.int), 12, 0, 0, [], za_i233)
theorem zm_233_t : za_MT 233 = some zm_233 := rfl
def zm_234 : za_MI := (yX12_valueOf, prog_14_method_67_code, 7, (some FieldType.int), 12, 0, 0, [], za_i234)
theorem zm_234_t : za_MT 234 = some zm_234 := rfl
def zm_235 : za_MI := (yX12_works, prog_14_method_68_code, 3, (some FieldType.int), 12, 0, 0, [], za_i235)
theorem zm_235_t : za_MT 235 = some zm_235 := rfl
end
section
/-! ===== the reference: the way by the rules ===== -/
def zm_232 : za_MI := (yX12_wayOf, prog_14_method_70_code, 6, (some FieldType.int), 12, 0, 0, [], za_i232)
theorem zm_232_t : za_MT 232 = some zm_232 := rfl
end
section
/-! ===== the reference copies ===== -/
/-- the first k numbers of q1 stand in q2 -/
def zc_k (H : zp_H) (q1 q2 k : Nat) : zp_H := (H.1, (fun p i => if p = q2 ∧ i < k then H.2.1 q1 i else H.2.1 p i), H.2.2)
theorem zc_k0 {H : zp_H} {q1 q2 : Nat} : zc_k H q1 q2 0 = H := by
  unfold zc_k
  have e : (fun p i => if p = q2 ∧ i < 0 then H.2.1 q1 i else H.2.1 p i) = H.2.1 := by
    funext p i
    rw [if_neg (fun h => Nat.not_lt_zero _ h.2)]
  rw [e]
theorem zc_k1 {H : zp_H} {q1 q2 k : Nat} (hne : q1 ≠ q2) : zw_I (zc_k H q1 q2 k) q2 k ((zc_k H q1 q2 k).2.1 q1 k) = zc_k H q1 q2 (k + 1) := by
  have e1 : (zc_k H q1 q2 k).2.1 q1 k = H.2.1 q1 k := if_neg (fun h => hne h.1)
  rw [e1]
  unfold zw_I zc_k
  have e : zp_u (fun p i => if p = q2 ∧ i < k then H.2.1 q1 i else H.2.1 p i) q2 k (H.2.1 q1 k) = (fun p i => if p = q2 ∧ i < k + 1 then H.2.1 q1 i else H.2.1 p i) := by
    funext p i
    show (if p = q2 ∧ i = k then H.2.1 q1 k else (if p = q2 ∧ i < k then H.2.1 q1 i else H.2.1 p i)) = (if p = q2 ∧ i < k + 1 then H.2.1 q1 i else H.2.1 p i)
    by_cases h1 : p = q2
    · by_cases h2 : i = k
      · rw [if_pos ⟨h1, h2⟩, if_pos ⟨h1, by omega⟩, h2]
      · rw [if_neg (fun h => h2 h.2)]
        by_cases h3 : i < k
        · rw [if_pos ⟨h1, h3⟩, if_pos ⟨h1, by omega⟩]
        · rw [if_neg (fun h => h3 h.2), if_neg (fun h => by have := h.2; omega)]
    · rw [if_neg (fun h => h1 h.1), if_neg (fun h => h1 h.1), if_neg (fun h => h1 h.1)]
  dsimp only
  rw [e]
def zm_204 : za_MI := (yX12_copies, prog_14_method_7_code, 4, none, 12, 0, 0, [], za_i204)
theorem zm_204_t : za_MT 204 = some zm_204 := rfl
theorem zc_L {L : Nat} {σ : Nat → Int32} {d q1 q2 n : Nat} {H : zp_H} (W : zw_W H) (h_q1 : zB_sh[q1]? = some (.inr (0, n))) (h_q2 : zB_sh[q2]? = some (.inr (0, n))) (hne : q1 ≠ q2) (hn : n ≤ 2000) (hno : (Int32.ofNat n).toInt = (n : Int)) : ∀ (m : Nat) (lv : zp_LV) (k : Int32), ((n : Int) - k.toInt).toNat = m → 0 ≤ k.toInt ∧ k.toInt ≤ (n : Int) → zp_get lv 1 = some (.inr (.inr (some (q1 + 1)))) → zp_get lv 2 = some (.inr (.inr (some (q2 + 1)))) → zp_get lv 3 = some (.inl k) → zs_Safe L σ (fun X => X = (.inl none, zc_k H q1 q2 n)) zm_204 [] d (2, lv, [], zc_k H q1 q2 k.toInt.toNat, (0, 0)) := by
  intro m
  induction m with
  | zero =>
    intro lv k hm hk l1 l2 l3
    have WK : zw_W (zc_k H q1 q2 k.toInt.toNat) := W
    refine zw_ld (n := 1) (k := 3) (f := zp_isI) (pc' := 3) rfl rfl l3 rfl rfl ?_
    refine zw_ld (n := 1) (k := 1) (f := zp_isR) (pc' := 4) rfl rfl l1 rfl rfl ?_
    refine zw_al (q := q1) (pc' := 5) WK rfl h_q1 rfl ?_
    refine zw_bge2 (g := 20) (pc' := 8) rfl rfl rfl rfl rfl (fun hb => ?_) (fun hb => ?_)
    · refine zw_rn rfl rfl ?_
      have e : k.toInt.toNat = n := by omega
      rw [e]
    · omega
  | succ m ih =>
    intro lv k hm hk l1 l2 l3
    have WK : zw_W (zc_k H q1 q2 k.toInt.toNat) := W
    have e1 : (k + Int32.ofInt 1).toInt = k.toInt + 1 := zw_p1 (by omega)
    refine zw_ld (n := 1) (k := 3) (f := zp_isI) (pc' := 3) rfl rfl l3 rfl rfl ?_
    refine zw_ld (n := 1) (k := 1) (f := zp_isR) (pc' := 4) rfl rfl l1 rfl rfl ?_
    refine zw_al (q := q1) (pc' := 5) WK rfl h_q1 rfl ?_
    refine zw_bge2 (g := 20) (pc' := 8) rfl rfl rfl rfl rfl (fun hb => ?_) (fun hb => ?_)
    · omega
    · refine zw_ld (n := 1) (k := 2) (f := zp_isR) (pc' := 9) rfl rfl l2 rfl rfl ?_
      refine zw_ld (n := 1) (k := 3) (f := zp_isI) (pc' := 10) rfl rfl l3 rfl rfl ?_
      refine zw_ld (n := 1) (k := 1) (f := zp_isR) (pc' := 11) rfl rfl l1 rfl rfl ?_
      refine zw_ld (n := 1) (k := 3) (f := zp_isI) (pc' := 12) rfl rfl l3 rfl rfl ?_
      refine zw_ia (q := q1) (pc' := 13) WK rfl h_q1 (by decide) (⟨hk.1, by omega⟩) rfl rfl ?_
      refine zw_is (q := q2) (pc' := 14) WK rfl h_q2 (by decide) (⟨hk.1, by omega⟩) rfl ?_
      refine zw_ii (pc' := 17) rfl l3 rfl rfl ?_
      refine zw_s (pc' := 2) rfl rfl ?_
      have e2 : (k + Int32.ofInt 1).toInt.toNat = k.toInt.toNat + 1 := by omega
      have ih9 := ih _ (k + Int32.ofInt 1) (by omega) ⟨by omega, by omega⟩ (zw_gt l1 rfl rfl) (zw_gt l2 rfl rfl) zw_g1
      rw [e2, ← zc_k1 hne] at ih9
      exact ih9

theorem zc_copies {L : Nat} {σ : Nat → Int32} {d q1 q2 n : Nat} {H : zp_H} (W : zw_W H) (h_q1 : zB_sh[q1]? = some (.inr (0, n))) (h_q2 : zB_sh[q2]? = some (.inr (0, n))) (hne : q1 ≠ q2) (hn : n ≤ 2000) (hno : (Int32.ofNat n).toInt = (n : Int)) : zp_Call L σ (d + 1) 204 [.inr (.inr (some 73)), .inr (.inr (some (q1 + 1))), .inr (.inr (some (q2 + 1)))] H (.inl none, zc_k H q1 q2 n) := by
  refine zw_ex (zw_met zm_204_t rfl rfl ?_)
  refine zw_s (pc' := 1) rfl rfl ?_
  refine zw_st (n := 1) (k := 3) (f := zp_isI) (pc' := 2) rfl rfl rfl rfl rfl ?_
  have h9 := zc_L (L := L) (σ := σ) (d := d) W h_q1 h_q2 hne hn hno _ (zp_st1 (zp_args 0 [.inr (.inr (some 73)), .inr (.inr (some (q1 + 1))), .inr (.inr (some (q2 + 1)))]) 3 (.inl (Int32.ofInt 0))) (Int32.ofInt 0) rfl ⟨by decide, by show (0 : Int) ≤ _; omega⟩ (zw_gt rfl rfl rfl) (zw_gt rfl rfl rfl) zw_g1
  rw [show (Int32.ofInt 0).toInt.toNat = 0 from rfl, zc_k0] at h9
  exact h9
end
