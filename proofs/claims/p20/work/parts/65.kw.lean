section
/-! ===== the reference: the word at hand ===== -/
theorem zl_cmp {x y : Int64} : (lg_cmp x y).toInt = 0 ↔ x = y := by
  unfold lg_cmp
  constructor
  · intro h
    by_cases h1 : x > y
    · rw [if_pos h1] at h
      cases h
    · rw [if_neg h1] at h
      by_cases h2 : x = y
      · exact h2
      · rw [if_neg h2] at h
        cases h
  · intro h
    subst h
    rw [if_neg (show ¬ x > x from Int64.lt_irrefl), if_pos rfl]
    rfl
theorem zl_oi {k : Nat} (h : k < 1000) : (Int32.ofInt (k : Int)).toInt = (k : Int) := by
  rw [Int32.toInt_ofInt]
  have e : ((Int32.size : Nat) : Int) = 4294967296 := rfl
  exact Int.bmod_eq_of_le (by omega) (by omega)
theorem zl_o1 {k : Nat} (h : k < 900) : Int32.ofInt (k : Int) + Int32.ofInt 1 = Int32.ofInt ((k + 1 : Nat) : Int) := by
  refine Int32.toInt_inj.mp ?_
  have h9 : k < 1000 := by omega
  rw [zw_p1 (by rw [zl_oi h9]; omega), zl_oi h9, zl_oi (k := k + 1) (by omega)]
  omega
theorem zl_kwL {L : Nat} {σ : Nat → Int32} {d : Nat} {H : zp_H} (W : zw_W H) : ∀ (n k : Nat) (lv : zp_LV), k + n = 21 → zp_get lv 0 = some (.inr (.inr (some 73))) → zp_get lv 1 = some (.inl (Int32.ofInt (k : Int))) → zs_Safe L σ (fun X : zp_X => ∃ v : Int32, X = (.inl (some (.inl v)), H) ∧ v.toInt = zg_f (H.2.2.1 72 33) k (zg_l.drop k)) zm_177 [] (d + 2) (21, lv, [], H, (0, 0)) := by
  intro n
  induction n with
  | zero =>
    intro k lv hk l0 l1
    have e0 := zl_oi (k := k) (by omega)
    refine zw_ld (n := 1) (k := 1) (f := zp_isI) (pc' := 22) rfl rfl l1 rfl rfl ?_
    refine zw_s (pc' := 24) rfl rfl ?_
    refine zw_bge2 (g := 47) (pc' := 27) rfl rfl rfl rfl (rfl : _ = (21 : Int)) (fun hb => ?_) (fun hb => ?_)
    · refine zw_s (pc' := 48) rfl rfl ?_
      refine zw_ri rfl rfl ?_
      refine ⟨_, rfl, ?_⟩
      have e : k = 21 := by omega
      subst e
      rfl
    · omega
  | succ n ih =>
    intro k lv hk l0 l1
    have e0 := zl_oi (k := k) (by omega)
    have hl : k < zg_l.length := by
      have e : zg_l.length = 21 := rfl
      omega
    have hd : zg_l.drop k = zg_l[k] :: zg_l.drop (k + 1) := List.drop_eq_getElem_cons hl
    have hC := zl_letters (L := L) (σ := σ) (d := d) (H := H) k zg_l[k] (List.getElem?_eq_getElem hl)
    have hz : zg_f (H.2.2.1 72 33) k (zg_l.drop k) = (if zg_l[k] = H.2.2.1 72 33 then (k : Int) else zg_f (H.2.2.1 72 33) (k + 1) (zg_l.drop (k + 1))) := by
      rw [hd]
      rfl
    refine zw_ld (n := 1) (k := 1) (f := zp_isI) (pc' := 22) rfl rfl l1 rfl rfl ?_
    refine zw_s (pc' := 24) rfl rfl ?_
    refine zw_bge2 (g := 47) (pc' := 27) rfl rfl rfl rfl (rfl : _ = (21 : Int)) (fun hb => ?_) (fun hb => ?_)
    · omega
    · refine zw_ld (n := 1) (k := 1) (f := zp_isI) (pc' := 28) rfl rfl l1 rfl rfl ?_
      refine zw_c (pc' := 31) (zw_cs (Y := zm_178) rfl rfl zm_178_t) rfl rfl rfl rfl rfl (hC) ?_
      refine zw_ld (n := 1) (k := 0) (f := zp_isR) (pc' := 32) rfl rfl l0 rfl rfl ?_
      refine zw_gL (q := 72) (pc' := 35) W rfl rfl rfl rfl rfl ?_
      refine zw_s (pc' := 36) rfl rfl ?_
      refine zw_bne1 (g := 41) (pc' := 39) rfl rfl rfl rfl (fun hc => ?_) (fun hc => ?_)
      · have hc : zg_l[k] ≠ H.2.2.1 72 33 := fun h9 => hc (zl_cmp.mpr h9)
        refine zw_iiy (pc' := 44) rfl l1 rfl rfl (zl_o1 (k := k) (by omega)) ?_
        refine zw_s (pc' := 21) rfl rfl ?_
        rw [hz, if_neg hc]
        exact ih (k + 1) _ (by omega) (zw_gt l0 rfl rfl) zw_g1
      · have hc := zl_cmp.mp hc
        refine zw_ld (n := 1) (k := 1) (f := zp_isI) (pc' := 40) rfl rfl l1 rfl rfl ?_
        refine zw_ri rfl rfl ?_
        refine ⟨_, rfl, ?_⟩
        rw [hz, if_pos hc]
        exact e0

theorem zl_kw {L : Nat} {σ : Nat → Int32} {d : Nat} {H : zp_H} (hB : zk_Bs zR zg zJ H) : ∃ X, zp_Call L σ (d + 3) 177 [.inr (.inr (some 73))] H X ∧ ∃ v : Int32, X = (.inl (some (.inl v)), H) ∧ v.toInt = zg H := by
  have W := zR_Wd (zR_dn hB)
  refine zw_met zm_177_t rfl rfl ?_
  refine zw_ld (n := 1) (k := 0) (f := zp_isR) (pc' := 1) rfl rfl rfl rfl rfl ?_
  refine zw_gI (q := 72) (pc' := 4) W rfl rfl rfl rfl rfl rfl ?_
  refine zw_s (pc' := 5) rfl rfl ?_
  refine zw_bne2 (g := 17) (pc' := 8) rfl rfl rfl rfl (rfl : _ = (1 : Int)) (fun h1 => ?_) (fun h1 => ?_)
  · refine zw_s (pc' := 18) rfl rfl ?_
    refine zw_ri rfl rfl ?_
    refine ⟨_, rfl, ?_⟩
    unfold zg
    rw [if_pos (Or.inl h1)]
    rfl
  · refine zw_ld (n := 1) (k := 0) (f := zp_isR) (pc' := 9) rfl rfl rfl rfl rfl ?_
    refine zw_gI (q := 72) (pc' := 12) W rfl rfl rfl rfl rfl rfl ?_
    refine zw_s (pc' := 14) rfl rfl ?_
    refine zw_ble2 (g := 19) (pc' := 17) rfl rfl rfl rfl (rfl : _ = (7 : Int)) (fun h2 => ?_) (fun h2 => ?_)
    · refine zw_s (pc' := 20) rfl rfl ?_
      refine zw_st (n := 1) (k := 1) (f := zp_isI) (pc' := 21) rfl rfl rfl rfl rfl ?_
      have hz : zg H = zg_f (H.2.2.1 72 33) 0 (zg_l.drop 0) := by
        unfold zg
        rw [if_neg (by omega)]
        rfl
      rw [hz]
      exact zl_kwL W 21 0 _ rfl (zw_gt rfl rfl rfl) zw_g1
    · refine zw_s (pc' := 18) rfl rfl ?_
      refine zw_ri rfl rfl ?_
      refine ⟨_, rfl, ?_⟩
      unfold zg
      rw [if_pos (Or.inr h2)]
      rfl

theorem zx_KWt {L : Nat} {σ : Nat → Int32} : zx_KW L σ := by
  intro d H hB
  obtain ⟨_, c1, v, rfl, c2⟩ := zl_kw (L := L) (σ := σ) (d := d + 1) hB
  exact ⟨v, c1, c2⟩
/-- as the checker takes it -/
theorem zl_kwC {L : Nat} {σ : Nat → Int32} {pre : List (Nat × Nat × Int × Int)} {outs : List zk_Oc} (ho : ∀ (H : zp_H) (v : Int32), (∀ f ∈ pre, zk_in (zk_fv zg H f.1 f.2.1) f.2.2) → v.toInt = zg H → ∃ o ∈ outs, zk_oc zg H o (.inl (some (.inl v)), H)) : zk_Ct L σ zR zg zJ (177, [.inr (some (some 73))], pre, [], [], outs, 4) := by
  intro d hd as H ha hB hp
  have hd : 4 ≤ d := hd
  obtain ⟨d0, rfl⟩ : ∃ d0, d = d0 + 4 := ⟨d - 4, by omega⟩
  match as, ha with
  | [.inr (.inr r)], ha =>
    have h1 : r = some 73 := ha.1
    subst h1
    obtain ⟨v, c1, c2⟩ := zx_KWt (L := L) (σ := σ) d0 H hB
    exact ⟨_, c1, hB, zk_Fr_r H, ho H v hp c2⟩
theorem zrc_h0 {L : Nat} {σ : Nat → Int32} : zk_Ct L σ zR zg zJ zr_h0 := zl_kwC (fun H v hp hv => ⟨_, List.mem_cons_self, by have h := hp _ List.mem_cons_self; show zk_in v.toInt (0, 3); rw [hv]; exact h, fun f hf => absurd hf List.not_mem_nil, fun f hf => absurd hf List.not_mem_nil⟩)
theorem zrc_h1 {L : Nat} {σ : Nat → Int32} : zk_Ct L σ zR zg zJ zr_h1 := zl_kwC (fun H v hp hv => ⟨_, List.mem_cons_self, by have h := hp _ List.mem_cons_self; show zk_in v.toInt (-1, 15); rw [hv]; exact h, fun f hf => absurd hf List.not_mem_nil, fun f hf => absurd hf List.not_mem_nil⟩)
theorem zrc_h2 {L : Nat} {σ : Nat → Int32} : zk_Ct L σ zR zg zJ zr_h2 := zl_kwC (fun H v hp hv => ⟨_, List.mem_cons_self, by have h := hp _ List.mem_cons_self; show zk_in v.toInt (17, 20); rw [hv]; exact h, fun f hf => absurd hf List.not_mem_nil, fun f hf => absurd hf List.not_mem_nil⟩)
theorem zrc_h3 {L : Nat} {σ : Nat → Int32} : zk_Ct L σ zR zg zJ zr_h3 := zl_kwC (fun H v hp hv => by
  have h := zg_in H
  have h : -1 ≤ zg H ∧ zg H ≤ 20 := h
  have key : ∀ lo hi : Int, lo ≤ zg H ∧ zg H ≤ hi → zk_oc zg H (.inl (some (.inl (lo, hi))), [(72, 100, lo, hi)], []) (.inl (some (.inl v)), H) := by
    intro lo hi hh
    refine ⟨by show zk_in v.toInt (lo, hi); rw [hv]; exact hh, fun f hf => ?_, fun f hf => absurd hf List.not_mem_nil⟩
    rcases List.mem_cons.mp hf with rfl | hf
    · exact hh
    · exact absurd hf List.not_mem_nil
  by_cases h1 : zg H = -1
  · exact ⟨_, List.mem_cons_of_mem _ List.mem_cons_self, key (-1) (-1) ⟨by omega, by omega⟩⟩
  · by_cases h2 : zg H ≤ 3
    · exact ⟨_, List.mem_cons_self, key 0 3 ⟨by omega, by omega⟩⟩
    · exact ⟨_, List.mem_cons_of_mem _ (List.mem_cons_of_mem _ List.mem_cons_self), key 4 20 ⟨by omega, by omega⟩⟩)
end
section
/-! ===== the reference takes back an act ===== -/
def zT (_ : zp_H) : Prop := True
theorem zT_fr1 {H : zp_H} (h : zk_Bs zR0 zg zT H) {k : Nat} {r : Int × Int} (hr : zB_l2 zR_fr 72 k = some r) (hk : Nat.beq k 100 = false) : r.1 ≤ (H.2.1 72 k).toInt ∧ (H.2.1 72 k).toInt ≤ r.2 := by
  rcases h.2.2.2.2.1 72 k r hr with ⟨q, q1, _⟩ | h9
  · exact absurd q1 List.not_mem_nil
  · have e : zk_fv zg H 72 k = (H.2.1 72 k).toInt := by
      unfold zk_fv
      rw [if_neg]
      rintro ⟨_, e⟩
      rw [e] at hk
      cases hk
    rw [e] at h9
    exact h9
theorem zT_ar1 {H : zp_H} (h : zk_Bs zR0 zg zT H) {p t n i : Nat} {r : Int × Int} (hp : zB_sh[p]? = some (.inr (t, n))) (hi : i < n) (hr : (zB_al zR_ar p).2[i % (zB_al zR_ar p).1]? = some r) : r.1 ≤ (H.2.1 p i).toInt ∧ (H.2.1 p i).toInt ≤ r.2 := h.2.2.2.2.2.1 p t n i r hp hi hr
theorem zT_putf {H : zp_H} (h : zk_Bs zR0 zg zT H) {k : Nat} {x : Int32} (hr : ∀ r, zB_l2 zR_fr 72 k = some r → r.1 ≤ x.toInt ∧ x.toInt ≤ r.2) (hk : Nat.beq k 100 = false) (hJ : zT (zw_I H 72 k x)) : zk_Bs zR0 zg zT (zw_I H 72 k x) := by
  refine ⟨h.1, h.2.1, fun q hq => absurd hq List.not_mem_nil, fun q hq => absurd hq List.not_mem_nil, fun p j r hr' => Or.inr ?_, fun p t n i r hp hi hr' => ?_, fun c hc => absurd hc List.not_mem_nil, hJ⟩
  · rcases h.2.2.2.2.1 p j r hr' with ⟨q, q1, _⟩ | h9
    · exact absurd q1 List.not_mem_nil
    unfold zk_fv at h9 ⊢
    by_cases h1 : p = 72 ∧ j = 100
    · rw [if_pos h1]
      obtain ⟨e1, e2⟩ := h1
      subst e1 e2
      have e : r = (-1, 20) := (Option.some.inj hr').symm
      rw [e]
      exact zg_in _
    · rw [if_neg h1] at h9 ⊢
      by_cases h2 : p = 72 ∧ j = k
      · obtain ⟨e1, e2⟩ := h2
        subst e1 e2
        rw [zw_eq]
        exact hr r hr'
      · have e : (zw_I H 72 k x).2.1 p j = H.2.1 p j := zp_u_ne h2
        rw [e]
        exact h9
  · have e : (zw_I H 72 k x).2.1 p i = H.2.1 p i := zp_u_ne (fun h9 => by
      have hp : zB_sh[p]? = some (.inr (t, n)) := hp
      rw [h9.1] at hp
      cases hp)
    rw [e]
    exact h.2.2.2.2.2.1 p t n i r hp hi hr'
theorem zT_puta {H : zp_H} (h : zk_Bs zR0 zg zT H) {p j : Nat} {x : Int32} {t n : Nat} (hp : zB_sh[p]? = some (.inr (t, n))) (hr : ∀ r, (zB_al zR_ar p).2[j % (zB_al zR_ar p).1]? = some r → r.1 ≤ x.toInt ∧ x.toInt ≤ r.2) (hJ : zT (zw_I H p j x)) : zk_Bs zR0 zg zT (zw_I H p j x) := by
  have hne : p ≠ 72 := by
    rintro rfl
    cases hp
  refine ⟨h.1, h.2.1, fun q hq => absurd hq List.not_mem_nil, fun q hq => absurd hq List.not_mem_nil, fun p' j' r hr' => Or.inr ?_, fun p' t' n' i r hp' hi hr' => ?_, fun c hc => absurd hc List.not_mem_nil, hJ⟩
  · have hp72 : p' = 72 := by
      cases hb : Nat.beq 72 p' with
      | true => exact (za_beq hb).symm
      | false =>
        have hr' : zB_l2 zR_fr p' j' = some r := hr'
        unfold zR_fr zB_l2 at hr'
        rw [hb] at hr'
        cases hr'
    subst hp72
    rcases h.2.2.2.2.1 72 j' r hr' with ⟨q, q1, _⟩ | h9
    · exact absurd q1 List.not_mem_nil
    unfold zk_fv at h9 ⊢
    by_cases h1 : (72 : Nat) = 72 ∧ j' = 100
    · rw [if_pos h1]
      obtain ⟨_, e2⟩ := h1
      subst e2
      have e : r = (-1, 20) := (Option.some.inj hr').symm
      rw [e]
      exact zg_in _
    · rw [if_neg h1] at h9 ⊢
      have e : (zw_I H p j x).2.1 72 j' = H.2.1 72 j' := zp_u_ne (fun h9 => hne h9.1.symm)
      rw [e]
      exact h9
  · by_cases h2 : p' = p ∧ i = j
    · obtain ⟨e1, e2⟩ := h2
      subst e1 e2
      rw [zw_eq]
      exact hr r hr'
    · have e : (zw_I H p j x).2.1 p' i = H.2.1 p' i := zp_u_ne h2
      rw [e]
      exact h.2.2.2.2.2.1 p' t' n' i r hp' hi hr'
theorem zT_Wd {H : zp_H} (h : zk_Bs zR0 zg zT H) : zw_W H := ⟨h.1, h.2.1⟩

theorem zT_dn {H : zp_H} (h : zk_Bs zR zg zJ H) : zk_Bs zR0 zg zT H := ⟨h.1, h.2.1, h.2.2.1, h.2.2.2.1, h.2.2.2.2.1, h.2.2.2.2.2.1, fun c hc => absurd hc List.not_mem_nil, trivial⟩
theorem zT_up {H : zp_H} (h : zk_Bs zR0 zg zT H) (hJ : zJ H) (hc : zR_cc H) : zk_Bs zR zg zJ H := zR_up ⟨h.1, h.2.1, h.2.2.1, h.2.2.2.1, h.2.2.2.2.1, h.2.2.2.2.2.1, fun c hc => absurd hc List.not_mem_nil, hJ⟩ hc
theorem zt_mul {a : Int} {x : Int32} (ha : 0 ≤ a ∧ a ≤ 100) (h : 0 ≤ x.toInt ∧ x.toInt ≤ 1000) : (Int32.ofInt a * x).toInt = a * x.toInt := by
  have e : (Int32.ofInt a).toInt = a := by
    have := zl_oi (k := a.toNat) (by omega)
    rw [show ((a.toNat : Nat) : Int) = a by omega] at this
    exact this
  have h1 : 0 ≤ a * x.toInt := Int.mul_nonneg ha.1 h.1
  have h2 : a * x.toInt ≤ 100 * 1000 := Int.mul_le_mul ha.2 h.2 h.1 (by decide)
  rw [zn_mul (by rw [e]; omega) (by rw [e]; omega), e]
theorem zt_add {a : Int} {x : Int32} (ha : 0 ≤ a ∧ a ≤ 100) (h : 0 ≤ x.toInt ∧ x.toInt ≤ 1000000) : (x + Int32.ofInt a).toInt = x.toInt + a := by
  have e : (Int32.ofInt a).toInt = a := by
    have := zl_oi (k := a.toNat) (by omega)
    rw [show ((a.toNat : Nat) : Int) = a by omega] at this
    exact this
  rw [zn_add (by rw [e]; omega) (by rw [e]; omega), e]
theorem zt_cnt_le {act : Nat → Int32} {s : Int} {n : Nat} : zr_cnt act s n ≤ zr_cnt act s (n + 1) := by
  show _ ≤ zr_cnt act s n + _
  omega
/-- one is taken back -/
def zt_u1 (H : zp_H) : zp_H := zw_I (zw_I H 72 0 (Int32.ofInt 0)) 72 62 (H.2.1 72 62 - Int32.ofInt 1)
theorem zt_acts {H : zp_H} (h : zk_Bs zR0 zg zT H) : 0 ≤ (H.2.1 72 62).toInt ∧ (H.2.1 72 62).toInt ≤ 30 := zT_fr1 h (k := 62) (r := (0, 30)) rfl rfl
theorem zt_a0 {H : zp_H} (h : zk_Bs zR0 zg zT H) {k : Nat} (hk : k < 30) : 0 ≤ (H.2.1 93 (2 * k)).toInt ∧ (H.2.1 93 (2 * k)).toInt ≤ 7 := zT_ar1 h (p := 93) (t := 0) (n := 60) (i := 2 * k) (r := (0, 7)) rfl (by omega) (by show [((0 : Int), (7 : Int)), (-1, 255)][2 * k % 2]? = _; rw [Nat.mul_mod_right]; rfl)
theorem zt_a1 {H : zp_H} (h : zk_Bs zR0 zg zT H) {k : Nat} (hk : k < 30) : -1 ≤ (H.2.1 93 (2 * k + 1)).toInt ∧ (H.2.1 93 (2 * k + 1)).toInt ≤ 255 := zT_ar1 h (p := 93) (t := 0) (n := 60) (i := 2 * k + 1) (r := (-1, 255)) rfl (by omega) (by show [((0 : Int), (7 : Int)), (-1, 255)][(2 * k + 1) % 2]? = _; rw [show (2 * k + 1) % 2 = 1 by omega]; rfl)
theorem zt_s2 {H : zp_H} (h : zk_Bs zR0 zg zT H) {k : Nat} (hk : k < 8) : 0 ≤ (H.2.1 74 (4 * k + 2)).toInt ∧ (H.2.1 74 (4 * k + 2)).toInt ≤ 8 := zT_ar1 h (p := 74) (t := 0) (n := 32) (i := 4 * k + 2) (r := (0, 8)) rfl (by omega) (by show [((0 : Int), (63 : Int)), (-2147483648, 2147483647), (0, 8), (0, 255)][(4 * k + 2) % 4]? = _; rw [show (4 * k + 2) % 4 = 2 by omega]; rfl)
theorem zt_B1 {H : zp_H} (hB : zk_Bs zR0 zg zT H) (ha : 0 < (H.2.1 72 62).toInt) : zk_Bs zR0 zg zT (zt_u1 H) := by
  have a0 := zt_acts hB
  have e1 : (H.2.1 72 62 - Int32.ofInt 1).toInt = (H.2.1 72 62).toInt - 1 := zw_m1 (by omega)
  have b1 := zT_putf (k := 0) (x := Int32.ofInt 0) hB (fun r hr => by cases hr) rfl trivial
  exact zT_putf (k := 62) (x := H.2.1 72 62 - Int32.ofInt 1) b1 (fun r hr => by cases hr; exact ⟨by show (0 : Int) ≤ _; omega, by show _ ≤ (30 : Int); omega⟩) rfl trivial
/-- what is kept, if slates have no fewer marks than is asked -/
theorem zt_J {H H1 : zp_H} (hJ : zJ H) (h8 : (H1.2.1 72 8).toInt = (H.2.1 72 8).toInt) (h78 : H1.2.1 78 = H.2.1 78) (h80 : H1.2.1 80 = H.2.1 80) (h81 : (H1.2.1 72 81).toInt = (H.2.1 72 81).toInt) (h101 : H1.2.1 101 = H.2.1 101) (h103 : H1.2.1 103 = H.2.1 103) (hc : zJ_cnt H1) : zJ H1 := by
  refine ⟨?_, hc, ?_⟩
  · unfold zJ_code
    rw [h8, h78, h80]
    exact hJ.1
  · unfold zJ_img
    rw [h81, h101, h103]
    exact hJ.2.2
def zm_218 : za_MI := (yX12_undo, prog_14_method_56_code, 2, (some FieldType.int), 12, 0, 0, [], za_i218)
theorem zm_218_t : za_MT 218 = some zm_218 := rfl
end
section
/-! ===== the reference keeps an act ===== -/
theorem zt_cnt_c {act act' : Nat → Int32} {s : Int} : ∀ {n : Nat}, (∀ i, i < 2 * n → act' i = act i) → zr_cnt act' s n = zr_cnt act s n
  | 0, _ => rfl
  | n + 1, h => by
    unfold zr_cnt
    rw [zt_cnt_c (fun i hi => h i (by omega)), h (2 * n) (by omega), h (2 * n + 1) (by omega)]
theorem zt_cnt_s {act act' : Nat → Int32} {s : Int} : ∀ {n : Nat}, (∀ i, i < 2 * n → act' i = act (i + 2)) → zr_cnt act' s n ≤ zr_cnt act s (n + 1)
  | 0, _ => Nat.zero_le _
  | n + 1, h => by
    have ih := zt_cnt_s (act := act) (act' := act') (s := s) (n := n) (fun i hi => h i (by omega))
    have e1 := h (2 * n) (by omega)
    have e2 := h (2 * n + 1) (by omega)
    show zr_cnt act' s n + _ ≤ zr_cnt act s (n + 1) + _
    rw [e1, e2, show 2 * n + 2 = 2 * (n + 1) by omega, show 2 * n + 1 + 2 = 2 * (n + 1) + 1 by omega]
    omega
/-- all acts stand one place ahead, as far as k -/
def zt_sh (H : zp_H) (k : Nat) : zp_H := (H.1, (fun p i => if p = 93 ∧ i + 2 < k then H.2.1 93 (i + 2) else H.2.1 p i), H.2.2)
theorem zt_sh2 {H : zp_H} : zt_sh H 2 = H := by
  unfold zt_sh
  have e : (fun p i => if p = 93 ∧ i + 2 < 2 then H.2.1 93 (i + 2) else H.2.1 p i) = H.2.1 := by
    funext p i
    rw [if_neg (fun h => by have := h.2; omega)]
  rw [e]
theorem zt_sh1 {H : zp_H} {k : Nat} (hk : 2 ≤ k) : zw_I (zt_sh H k) 93 (k - 2) ((zt_sh H k).2.1 93 k) = zt_sh H (k + 1) := by
  have e1 : (zt_sh H k).2.1 93 k = H.2.1 93 k := if_neg (fun h => by have := h.2; omega)
  rw [e1]
  unfold zw_I zt_sh
  have e : zp_u (fun p i => if p = 93 ∧ i + 2 < k then H.2.1 93 (i + 2) else H.2.1 p i) 93 (k - 2) (H.2.1 93 k) = (fun p i => if p = 93 ∧ i + 2 < k + 1 then H.2.1 93 (i + 2) else H.2.1 p i) := by
    funext p i
    show (if p = 93 ∧ i = k - 2 then H.2.1 93 k else (if p = 93 ∧ i + 2 < k then H.2.1 93 (i + 2) else H.2.1 p i)) = (if p = 93 ∧ i + 2 < k + 1 then H.2.1 93 (i + 2) else H.2.1 p i)
    by_cases h1 : p = 93
    · by_cases h2 : i = k - 2
      · rw [if_pos ⟨h1, h2⟩, if_pos ⟨h1, by omega⟩, show i + 2 = k by omega]
      · rw [if_neg (fun h => h2 h.2)]
        by_cases h3 : i + 2 < k
        · rw [if_pos ⟨h1, h3⟩, if_pos ⟨h1, by omega⟩]
        · rw [if_neg (fun h => h3 h.2), if_neg (fun h => by have := h.2; omega)]
    · rw [if_neg (fun h => h1 h.1), if_neg (fun h => h1 h.1), if_neg (fun h => h1 h.1)]
  dsimp only
  rw [e]
theorem zt_sh_ne {H : zp_H} {k p i : Nat} (h : p ≠ 93) : (zt_sh H k).2.1 p i = H.2.1 p i := by
  show (if p = 93 ∧ i + 2 < k then H.2.1 93 (i + 2) else H.2.1 p i) = _
  rw [if_neg (fun h9 => h h9.1)]
theorem zt_sh_eq {H : zp_H} {k i : Nat} (h : i + 2 < k) : (zt_sh H k).2.1 93 i = H.2.1 93 (i + 2) := by
  show (if 93 = 93 ∧ i + 2 < k then H.2.1 93 (i + 2) else H.2.1 93 i) = _
  rw [if_pos ⟨rfl, h⟩]
theorem zt_shB {H : zp_H} (h : zk_Bs zR0 zg zT H) : zk_Bs zR0 zg zT (zt_sh H 60) := by
  refine ⟨h.1, h.2.1, fun q hq => absurd hq List.not_mem_nil, fun q hq => absurd hq List.not_mem_nil, fun p j r hr => Or.inr ?_, fun p t n i r hp hi hr => ?_, fun c hc => absurd hc List.not_mem_nil, trivial⟩
  · rcases h.2.2.2.2.1 p j r hr with ⟨q, q1, _⟩ | h9
    · exact absurd q1 List.not_mem_nil
    have hp72 : p = 72 := by
      cases hb : Nat.beq 72 p with
      | true => exact (za_beq hb).symm
      | false =>
        have hr : zB_l2 zR_fr p j = some r := hr
        unfold zR_fr zB_l2 at hr
        rw [hb] at hr
        cases hr
    subst hp72
    unfold zk_fv at h9 ⊢
    by_cases h1 : (72 : Nat) = 72 ∧ j = 100
    · rw [if_pos h1]
      obtain ⟨_, e2⟩ := h1
      subst e2
      have e : r = (-1, 20) := (Option.some.inj hr).symm
      rw [e]
      exact zg_in _
    · rw [if_neg h1] at h9 ⊢
      exact h9
  · by_cases h1 : p = 93 ∧ i + 2 < 60
    · have e : (zt_sh H 60).2.1 p i = H.2.1 93 (i + 2) := if_pos h1
      rw [e]
      obtain ⟨rfl, h2⟩ := h1
      have hr : [((0 : Int), (7 : Int)), (-1, 255)][i % 2]? = some r := hr
      refine h.2.2.2.2.2.1 93 0 60 (i + 2) r rfl (by omega) ?_
      show [((0 : Int), (7 : Int)), (-1, 255)][(i + 2) % 2]? = some r
      rw [show (i + 2) % 2 = i % 2 by omega]
      exact hr
    · have e : (zt_sh H 60).2.1 p i = H.2.1 p i := if_neg h1
      rw [e]
      exact h.2.2.2.2.2.1 p t n i r hp hi hr
def zt_kC (H : zp_H) (s v : Int) : Prop := ∀ s' : Nat, s' < 8 → ((zr_cnt (H.2.1 93) s' (H.2.1 72 62).toInt.toNat : Nat) : Int) + (if (s' : Int) = s ∧ v = -1 then 1 else 0) ≤ (H.2.1 74 (4 * s' + 2)).toInt
def zm_215 : za_MI := (yX12_keeps, prog_14_method_52_code, 4, none, 12, 0, 0, [], za_i215)
theorem zm_215_t : za_MT 215 = some zm_215 := rfl
theorem zt_kT {L : Nat} {σ : Nat → Int32} {d : Nat} {H0 H : zp_H} {lv : zp_LV} {xs xv : Int32} (l0 : zp_get lv 0 = some (.inr (.inr (some 73)))) (l1 : zp_get lv 1 = some (.inl xs)) (l2 : zp_get lv 2 = some (.inl xv)) (hs : 0 ≤ xs.toInt ∧ xs.toInt ≤ 7) (hv : -1 ≤ xv.toInt ∧ xv.toInt ≤ 255) (hB : zk_Bs zR0 zg zT H) (hF : zk_Fr zg [(72, 62)] [93] H0 H) (hC : zt_kC H xs.toInt xv.toInt) (h29 : (H.2.1 72 62).toInt ≤ 29) : zs_Safe L σ (fun X : zp_X => ∃ H1, X = (.inl none, H1) ∧ zk_Bs zR0 zg zT H1 ∧ zJ_cnt H1 ∧ zk_Fr zg [(72, 62)] [93] H0 H1) zm_215 [] d (47, lv, [], H, (0, 0)) := by
  have W := zT_Wd hB
  have a0 := zt_acts hB
  have em : (Int32.ofInt 2 * H.2.1 72 62).toInt = 2 * (H.2.1 72 62).toInt := zt_mul (by decide) (by omega)
  have em1 : (Int32.ofInt 2 * H.2.1 72 62 + Int32.ofInt 1).toInt = 2 * (H.2.1 72 62).toInt + 1 := by rw [zw_p1 (by omega), em]
  have ea : (H.2.1 72 62 + Int32.ofInt 1).toInt = (H.2.1 72 62).toInt + 1 := zw_p1 (by omega)
  obtain ⟨n, hn⟩ : ∃ n : Nat, (H.2.1 72 62).toInt = (n : Int) := ⟨(H.2.1 72 62).toInt.toNat, by omega⟩
  have en : (Int32.ofInt 2 * H.2.1 72 62).toInt.toNat = 2 * n := by omega
  have en1 : (Int32.ofInt 2 * H.2.1 72 62 + Int32.ofInt 1).toInt.toNat = 2 * n + 1 := by omega
  refine zw_ld (n := 1) (k := 0) (f := zp_isR) (pc' := 48) rfl rfl l0 rfl rfl ?_
  refine zw_gR (q := 72) (pc' := 51) W rfl rfl rfl rfl (W.2 72 63 _ rfl) rfl ?_
  refine zw_s (pc' := 52) rfl rfl ?_
  refine zw_ld (n := 1) (k := 0) (f := zp_isR) (pc' := 53) rfl rfl l0 rfl rfl ?_
  refine zw_gI (q := 72) (pc' := 56) W rfl rfl rfl rfl rfl rfl ?_
  refine zw_imul (pc' := 57) rfl rfl ?_
  refine zw_ld (n := 1) (k := 1) (f := zp_isI) (pc' := 58) rfl rfl l1 rfl rfl ?_
  refine zw_is (q := 93) (pc' := 59) W rfl rfl (by decide) (⟨by omega, by show _ < ((60 : Nat) : Int); omega⟩) rfl ?_
  refine zw_ld (n := 1) (k := 0) (f := zp_isR) (pc' := 60) rfl rfl l0 rfl rfl ?_
  refine zw_gR (q := 72) (pc' := 63) W rfl rfl rfl rfl (W.2 72 63 _ rfl) rfl ?_
  refine zw_s (pc' := 64) rfl rfl ?_
  refine zw_ld (n := 1) (k := 0) (f := zp_isR) (pc' := 65) rfl rfl l0 rfl rfl ?_
  refine zw_gI (q := 72) (pc' := 68) W rfl rfl rfl rfl (zw_ne rfl rfl) rfl ?_
  refine zw_imul (pc' := 69) rfl rfl ?_
  refine zw_s (pc' := 70) rfl rfl ?_
  refine zw_iadd (pc' := 71) rfl rfl ?_
  refine zw_ld (n := 1) (k := 2) (f := zp_isI) (pc' := 72) rfl rfl l2 rfl rfl ?_
  refine zw_is (q := 93) (pc' := 73) W rfl rfl (by decide) (⟨by omega, by show _ < ((60 : Nat) : Int); omega⟩) rfl ?_
  refine zw_ld (n := 1) (k := 0) (f := zp_isR) (pc' := 74) rfl rfl l0 rfl rfl ?_
  refine zw_s (pc' := 75) rfl rfl ?_
  refine zw_gI (q := 72) (pc' := 78) W rfl rfl rfl rfl (zw_ne (zw_ne rfl rfl) rfl) rfl ?_
  refine zw_s (pc' := 79) rfl rfl ?_
  refine zw_iadd (pc' := 80) rfl rfl ?_
  refine zw_pI (q := 72) (pc' := 83) W rfl rfl rfl rfl rfl rfl ?_
  refine zw_rn rfl rfl ?_
  rw [en, en1]
  have b1 := zT_puta (p := 93) (j := 2 * n) (x := zp_nar 0 xs) (t := 0) (n := 60) hB rfl (fun r hr => by
    have hr : [((0 : Int), (7 : Int)), (-1, 255)][2 * n % 2]? = some r := hr
    rw [Nat.mul_mod_right] at hr
    cases hr
    exact hs) trivial
  have b2 := zT_puta (p := 93) (j := 2 * n + 1) (x := zp_nar 0 xv) (t := 0) (n := 60) b1 rfl (fun r hr => by
    have hr : [((0 : Int), (7 : Int)), (-1, 255)][(2 * n + 1) % 2]? = some r := hr
    rw [show (2 * n + 1) % 2 = 1 by omega] at hr
    cases hr
    exact hv) trivial
  have b3 := zT_putf (k := 62) (x := H.2.1 72 62 + Int32.ofInt 1) b2 (fun r hr => by cases hr; exact ⟨by show (0 : Int) ≤ _; omega, by show _ ≤ (30 : Int); omega⟩) rfl trivial
  refine ⟨_, rfl, b3, ?_, zk_Fr_I (zk_Fr_I (zk_Fr_I hF rfl rfl) rfl rfl) rfl rfl⟩
  intro s' h'
  have hc := hC s' h'
  have e74 : (zw_I (zw_I (zw_I H 93 (2 * n) (zp_nar 0 xs)) 93 (2 * n + 1) (zp_nar 0 xv)) 72 62 (H.2.1 72 62 + Int32.ofInt 1)).2.1 74 (4 * s' + 2) = H.2.1 74 (4 * s' + 2) := zw_ne (zw_ne (zw_ne rfl rfl) rfl) rfl
  have e62 : (zw_I (zw_I (zw_I H 93 (2 * n) (zp_nar 0 xs)) 93 (2 * n + 1) (zp_nar 0 xv)) 72 62 (H.2.1 72 62 + Int32.ofInt 1)).2.1 72 62 = H.2.1 72 62 + Int32.ofInt 1 := zw_eq
  rw [e74, e62, show (H.2.1 72 62 + Int32.ofInt 1).toInt.toNat = n + 1 by omega]
  rw [show (H.2.1 72 62).toInt.toNat = n by omega] at hc
  generalize hK : zw_I (zw_I (zw_I H 93 (2 * n) (zp_nar 0 xs)) 93 (2 * n + 1) (zp_nar 0 xv)) 72 62 (H.2.1 72 62 + Int32.ofInt 1) = K
  have k0 : K.2.1 93 (2 * n) = xs := by rw [← hK]; exact zw_ne ((zp_u_ne (fun h9 => by have := h9.2; omega)).trans zw_eq) rfl
  have k1 : K.2.1 93 (2 * n + 1) = xv := by rw [← hK]; exact zw_ne zw_eq rfl
  have kc : ∀ i, i < 2 * n → K.2.1 93 i = H.2.1 93 i := fun i hi => by rw [← hK]; exact zw_ne ((zp_u_ne (fun h9 => by have := h9.2; omega)).trans (zp_u_ne (fun h9 => by have := h9.2; omega))) rfl
  have ec : zr_cnt (K.2.1 93) (s' : Int) (n + 1) = zr_cnt (H.2.1 93) (s' : Int) n + (if xs.toInt = (s' : Int) ∧ xv.toInt = -1 then 1 else 0) := by
    show zr_cnt (K.2.1 93) (s' : Int) n + _ = _
    rw [zt_cnt_c kc, k0, k1]
  rw [ec]
  by_cases h9 : (s' : Int) = xs.toInt ∧ xv.toInt = -1
  · rw [if_pos h9] at hc
    rw [if_pos ⟨h9.1.symm, h9.2⟩]
    omega
  · rw [if_neg h9] at hc
    rw [if_neg (fun h8 => h9 ⟨h8.1.symm, h8.2⟩)]
    omega

theorem zt_kL {L : Nat} {σ : Nat → Int32} {P : zp_X → Prop} {d : Nat} {H : zp_H} {xs xv : Int32} (W : zw_W H) (hk9 : ∀ lv : zp_LV, zp_get lv 0 = some (.inr (.inr (some 73))) → zp_get lv 1 = some (.inl xs) → zp_get lv 2 = some (.inl xv) → zs_Safe L σ P zm_215 [] d (37, lv, [], zt_sh H 60, (0, 0))) : ∀ (m : Nat) (lv : zp_LV) (k : Int32), (60 - k.toInt).toNat = m → 2 ≤ k.toInt ∧ k.toInt ≤ 60 → zp_get lv 0 = some (.inr (.inr (some 73))) → zp_get lv 1 = some (.inl xs) → zp_get lv 2 = some (.inl xv) → zp_get lv 3 = some (.inl k) → zs_Safe L σ P zm_215 [] d (11, lv, [], zt_sh H k.toInt.toNat, (0, 0)) := by
  intro m
  induction m with
  | zero =>
    intro lv k hm hk l0 l1 l2 l3
    have WK : zw_W (zt_sh H k.toInt.toNat) := W
    refine zw_ld (n := 1) (k := 3) (f := zp_isI) (pc' := 12) rfl rfl l3 rfl rfl ?_
    refine zw_s (pc' := 14) rfl rfl ?_
    refine zw_bge2 (g := 37) (pc' := 17) rfl rfl rfl rfl (rfl : _ = (60 : Int)) (fun hb => ?_) (fun hb => ?_)
    · have e : k.toInt.toNat = 60 := by omega
      rw [e]
      exact hk9 _ l0 l1 l2
    · omega
  | succ m ih =>
    intro lv k hm hk l0 l1 l2 l3
    have WK : zw_W (zt_sh H k.toInt.toNat) := W
    have e1 : (k + Int32.ofInt 1).toInt = k.toInt + 1 := zw_p1 (by omega)
    have e2 : (k - Int32.ofInt 2).toInt = k.toInt - 2 := by
      have h1 : (Int32.ofInt 2).toInt = 2 := rfl
      rw [zn_sub (by omega) (by omega), h1]
    refine zw_ld (n := 1) (k := 3) (f := zp_isI) (pc' := 12) rfl rfl l3 rfl rfl ?_
    refine zw_s (pc' := 14) rfl rfl ?_
    refine zw_bge2 (g := 37) (pc' := 17) rfl rfl rfl rfl (rfl : _ = (60 : Int)) (fun hb => ?_) (fun hb => ?_)
    · omega
    · refine zw_ld (n := 1) (k := 0) (f := zp_isR) (pc' := 18) rfl rfl l0 rfl rfl ?_
      refine zw_gR (q := 72) (pc' := 21) WK rfl rfl rfl rfl (WK.2 72 63 _ rfl) rfl ?_
      refine zw_ld (n := 1) (k := 3) (f := zp_isI) (pc' := 22) rfl rfl l3 rfl rfl ?_
      refine zw_s (pc' := 23) rfl rfl ?_
      refine zw_isub (pc' := 24) rfl rfl ?_
      refine zw_ld (n := 1) (k := 0) (f := zp_isR) (pc' := 25) rfl rfl l0 rfl rfl ?_
      refine zw_gR (q := 72) (pc' := 28) WK rfl rfl rfl rfl (WK.2 72 63 _ rfl) rfl ?_
      refine zw_ld (n := 1) (k := 3) (f := zp_isI) (pc' := 29) rfl rfl l3 rfl rfl ?_
      refine zw_ia (q := 93) (pc' := 30) WK rfl rfl (by decide) (⟨by omega, by show _ < ((60 : Nat) : Int); omega⟩) rfl rfl ?_
      refine zw_is (q := 93) (pc' := 31) WK rfl rfl (by decide) (⟨by rw [e2]; omega, by rw [e2]; show _ < ((60 : Nat) : Int); omega⟩) rfl ?_
      refine zw_ii (pc' := 34) rfl l3 rfl rfl ?_
      refine zw_s (pc' := 11) rfl rfl ?_
      have e3 : (k + Int32.ofInt 1).toInt.toNat = k.toInt.toNat + 1 := by omega
      have e4 : (k - Int32.ofInt 2).toInt.toNat = k.toInt.toNat - 2 := by omega
      have ih9 := ih _ (k + Int32.ofInt 1) (by omega) ⟨by omega, by omega⟩ (zw_gt l0 rfl rfl) (zw_gt l1 rfl rfl) (zw_gt l2 rfl rfl) zw_g1
      rw [e3, ← zt_sh1 (by omega)] at ih9
      rw [e4]
      exact ih9

theorem zt_keeps {L : Nat} {σ : Nat → Int32} {d : Nat} {H : zp_H} {xs xv : Int32} (hs : 0 ≤ xs.toInt ∧ xs.toInt ≤ 7) (hv : -1 ≤ xv.toInt ∧ xv.toInt ≤ 255) (hB : zk_Bs zR0 zg zT H) (hC : zt_kC H xs.toInt xv.toInt) : ∃ X, zp_Call L σ (d + 1) 215 [.inr (.inr (some 73)), .inl xs, .inl xv] H X ∧ (fun X : zp_X => ∃ H1, X = (.inl none, H1) ∧ zk_Bs zR0 zg zT H1 ∧ zJ_cnt H1 ∧ zk_Fr zg [(72, 62)] [93] H H1) X := by
  have W := zT_Wd hB
  have a0 := zt_acts hB
  refine zw_met zm_215_t rfl rfl ?_
  refine zw_ld (n := 1) (k := 0) (f := zp_isR) (pc' := 1) rfl rfl rfl rfl rfl ?_
  refine zw_gI (q := 72) (pc' := 4) W rfl rfl rfl rfl rfl rfl ?_
  refine zw_s (pc' := 6) rfl rfl ?_
  refine zw_bne2 (g := 47) (pc' := 9) rfl rfl rfl rfl (rfl : _ = (30 : Int)) (fun h30 => ?_) (fun h30 => ?_)
  · exact zt_kT rfl rfl rfl hs hv hB (zk_Fr_r H) hC (by omega)
  · refine zw_s (pc' := 10) rfl rfl ?_
    refine zw_st (n := 1) (k := 3) (f := zp_isI) (pc' := 11) rfl rfl rfl rfl rfl ?_
    have ea : (H.2.1 72 62 - Int32.ofInt 1).toInt = (H.2.1 72 62).toInt - 1 := zw_m1 (by omega)
    have b1 := zt_shB hB
    have b2 := zT_putf (k := 62) (x := H.2.1 72 62 - Int32.ofInt 1) b1 (fun r hr => by cases hr; exact ⟨by show (0 : Int) ≤ _; omega, by show _ ≤ (30 : Int); omega⟩) rfl trivial
    have h9 := zt_kL (L := L) (σ := σ) (P := (fun X : zp_X => ∃ H1, X = (.inl none, H1) ∧ zk_Bs zR0 zg zT H1 ∧ zJ_cnt H1 ∧ zk_Fr zg [(72, 62)] [93] H H1)) (d := d) (xs := xs) (xv := xv) W ?_ _ (zp_st1 (zp_args 0 [.inr (.inr (some 73)), .inl xs, .inl xv]) 3 (.inl (Int32.ofInt 2))) (Int32.ofInt 2) rfl ⟨by decide, by decide⟩ (zw_gt rfl rfl rfl) (zw_gt rfl rfl rfl) (zw_gt rfl rfl rfl) zw_g1
    · rw [show (Int32.ofInt 2).toInt.toNat = 2 from rfl, zt_sh2] at h9
      exact h9
    · intro lv l0 l1 l2
      have W2 : zw_W (zt_sh H 60) := W
      refine zw_ld (n := 1) (k := 0) (f := zp_isR) (pc' := 38) rfl rfl l0 rfl rfl ?_
      refine zw_s (pc' := 39) rfl rfl ?_
      refine zw_gI (q := 72) (pc' := 42) W2 rfl rfl rfl rfl rfl rfl ?_
      refine zw_s (pc' := 43) rfl rfl ?_
      refine zw_isub (pc' := 44) rfl rfl ?_
      refine zw_pI (q := 72) (pc' := 47) W2 rfl rfl rfl rfl rfl rfl ?_
      have eS : (zt_sh H 60).2.1 72 62 = H.2.1 72 62 := zt_sh_ne (by decide)
      rw [eS]
      refine zt_kT l0 l1 l2 hs hv b2 ?_ ?_ ?_
      · refine zk_Fr_I ⟨rfl, fun p j h1 h2 => ⟨?_, rfl⟩⟩ rfl rfl
        have hne : p ≠ 93 := by
          rintro rfl
          cases h2
        unfold zk_fv
        by_cases h9 : p = 72 ∧ j = 100
        · rw [if_pos h9, if_pos h9]
          rfl
        · rw [if_neg h9, if_neg h9]
          exact congrArg Int32.toInt (zt_sh_ne hne)
      · intro s' h'
        have hc := hC s' h'
        rw [show (H.2.1 72 62).toInt.toNat = 29 + 1 by omega] at hc
        have e62 : (zw_I (zt_sh H 60) 72 62 (H.2.1 72 62 - Int32.ofInt 1)).2.1 72 62 = H.2.1 72 62 - Int32.ofInt 1 := zw_eq
        rw [e62, show (H.2.1 72 62 - Int32.ofInt 1).toInt.toNat = 29 by omega]
        have e74 : (zw_I (zt_sh H 60) 72 62 (H.2.1 72 62 - Int32.ofInt 1)).2.1 74 (4 * s' + 2) = H.2.1 74 (4 * s' + 2) := zw_ne (zt_sh_ne (by decide)) rfl
        rw [e74]
        have ec := zt_cnt_s (act := H.2.1 93) (act' := (zw_I (zt_sh H 60) 72 62 (H.2.1 72 62 - Int32.ofInt 1)).2.1 93) (s := (s' : Int)) (n := 29) (fun i hi => zw_ne (zt_sh_eq (by omega)) rfl)
        omega
      · have e62 : (zw_I (zt_sh H 60) 72 62 (H.2.1 72 62 - Int32.ofInt 1)).2.1 72 62 = H.2.1 72 62 - Int32.ofInt 1 := zw_eq
        rw [e62]
        omega
end
section
/-! ===== the reference writes a mark ===== -/
def zm_170 : za_MI := (yX12_right, prog_14_method_3_code, 3, (some FieldType.boolean), 12, 0, 0, [], za_i170)
theorem zm_170_t : za_MT 170 = some zm_170 := rfl
def zm_210 : za_MI := (yX12_isSlate, prog_14_method_45_code, 2, (some FieldType.boolean), 12, 0, 0, [], za_i210)
theorem zm_210_t : za_MT 210 = some zm_210 := rfl
def zm_212 : za_MI := (yX12_marks, prog_14_method_49_code, 2, (some FieldType.int), 12, 0, 0, [], za_i212)
theorem zm_212_t : za_MT 212 = some zm_212 := rfl
def zm_214 : za_MI := (yX12_refuses, prog_14_method_53_code, 1, (some FieldType.int), 12, 0, 0, [], za_i214)
theorem zm_214_t : za_MT 214 = some zm_214 := rfl
theorem zq_right1 {L : Nat} {σ : Nat → Int32} {d : Nat} {H : zp_H} (W : zw_W H) {y : Int32} (h : (H.2.1 72 0).toInt = 0) : zp_Call L σ (d + 1) 170 [.inr (.inr (some 73)), .inl (Int32.ofInt 1), .inl y] H (.inl (some (.inl (Int32.ofInt 1))), H) := by
  refine zw_ex (zw_met zm_170_t rfl rfl ?_)
  refine zw_ld (n := 1) (k := 0) (f := zp_isR) (pc' := 1) rfl rfl rfl rfl rfl ?_
  refine zw_gI (q := 72) (pc' := 4) W rfl rfl rfl rfl rfl rfl ?_
  refine zw_bne1 (g := 16) (pc' := 7) rfl rfl rfl rfl (fun h1 => ?_) (fun h1 => ?_)
  · exact absurd h h1
  · refine zw_ld (n := 1) (k := 1) (f := zp_isI) (pc' := 8) rfl rfl rfl rfl rfl ?_
    refine zw_bne1 (g := 16) (pc' := 11) rfl rfl rfl (rfl : _ = (1 : Int)) (fun hb => ?_) (fun h9 => absurd h9 (by decide))
    refine zw_ld (n := 1) (k := 0) (f := zp_isR) (pc' := 17) rfl rfl rfl rfl rfl ?_
    refine zw_gI (q := 72) (pc' := 20) W rfl rfl rfl rfl rfl rfl ?_
    refine zw_bne1 (g := 27) (pc' := 23) rfl rfl rfl rfl (fun h3 => ?_) (fun h3 => ?_)
    · exact absurd h h3
    · refine zw_s (pc' := 24) rfl rfl ?_
      refine zw_s (pc' := 28) rfl rfl ?_
      refine zw_rz rfl rfl (by decide) ?_
      rfl

theorem zq_right0 {L : Nat} {σ : Nat → Int32} {d : Nat} {H : zp_H} (W : zw_W H) {y : Int32} (h : (H.2.1 72 0).toInt = 0) (hy : y.toInt ≠ 0) : zp_Call L σ (d + 1) 170 [.inr (.inr (some 73)), .inl (Int32.ofInt 0), .inl y] H (.inl (some (.inl (Int32.ofInt 0))), zw_I H 72 0 y) := by
  refine zw_ex (zw_met zm_170_t rfl rfl ?_)
  refine zw_ld (n := 1) (k := 0) (f := zp_isR) (pc' := 1) rfl rfl rfl rfl rfl ?_
  refine zw_gI (q := 72) (pc' := 4) W rfl rfl rfl rfl rfl rfl ?_
  refine zw_bne1 (g := 16) (pc' := 7) rfl rfl rfl rfl (fun h1 => ?_) (fun h1 => ?_)
  · exact absurd h h1
  · refine zw_ld (n := 1) (k := 1) (f := zp_isI) (pc' := 8) rfl rfl rfl rfl rfl ?_
    refine zw_bne1 (g := 16) (pc' := 11) rfl rfl rfl (rfl : _ = (0 : Int)) (fun h9 => absurd h9 (by decide)) (fun hb => ?_)
    refine zw_ld (n := 1) (k := 0) (f := zp_isR) (pc' := 12) rfl rfl rfl rfl rfl ?_
    refine zw_ld (n := 1) (k := 2) (f := zp_isI) (pc' := 13) rfl rfl rfl rfl rfl ?_
    refine zw_pI (q := 72) (pc' := 16) W rfl rfl rfl rfl rfl rfl ?_
    refine zw_ld (n := 1) (k := 0) (f := zp_isR) (pc' := 17) rfl rfl rfl rfl rfl ?_
    refine zw_gI (q := 72) (pc' := 20) W rfl rfl rfl rfl zw_eq rfl ?_
    refine zw_bne1 (g := 27) (pc' := 23) rfl rfl rfl rfl (fun h3 => ?_) (fun h3 => ?_)
    · refine zw_s (pc' := 28) rfl rfl ?_
      refine zw_rz rfl rfl (by decide) ?_
      rfl
    · exact absurd h3 hy

theorem zq_slate1 {L : Nat} {σ : Nat → Int32} {d : Nat} {H : zp_H} (W : zw_W H) {x : Int32} (h : (H.2.1 72 0).toInt = 0) (hx : 0 ≤ x.toInt ∧ x.toInt < (H.2.1 72 5).toInt) : zp_Call L σ (d + 2) 210 [.inr (.inr (some 73)), .inl x] H (.inl (some (.inl (Int32.ofInt 1))), H) := by
  refine zw_ex (zw_met zm_210_t rfl rfl ?_)
  refine zw_ld (n := 1) (k := 0) (f := zp_isR) (pc' := 1) rfl rfl rfl rfl rfl ?_
  refine zw_ld (n := 1) (k := 1) (f := zp_isI) (pc' := 2) rfl rfl rfl rfl rfl ?_
  refine zw_blt1 (g := 17) (pc' := 5) rfl rfl rfl rfl (fun h1 => ?_) (fun h1 => ?_)
  · omega
  · refine zw_ld (n := 1) (k := 1) (f := zp_isI) (pc' := 6) rfl rfl rfl rfl rfl ?_
    refine zw_ld (n := 1) (k := 0) (f := zp_isR) (pc' := 7) rfl rfl rfl rfl rfl ?_
    refine zw_gI (q := 72) (pc' := 10) W rfl rfl rfl rfl rfl rfl ?_
    refine zw_bge2 (g := 17) (pc' := 13) rfl rfl rfl rfl rfl (fun h2 => ?_) (fun h2 => ?_)
    · omega
    · refine zw_s (pc' := 14) rfl rfl ?_
      refine zw_s (pc' := 18) rfl rfl ?_
      refine zw_s (pc' := 19) rfl rfl ?_
      refine zw_c (pc' := 22) (zw_cv (q := 72) (Y := zm_170) W.1 rfl rfl zm_170_t rfl rfl) rfl rfl rfl rfl rfl (zq_right1 W h) ?_
      refine zw_rz rfl rfl (by decide) ?_
      rfl

theorem zq_slate0 {L : Nat} {σ : Nat → Int32} {d : Nat} {H : zp_H} (W : zw_W H) {x : Int32} (h : (H.2.1 72 0).toInt = 0) (hx : ¬ (0 ≤ x.toInt ∧ x.toInt < (H.2.1 72 5).toInt)) : zp_Call L σ (d + 2) 210 [.inr (.inr (some 73)), .inl x] H (.inl (some (.inl (Int32.ofInt 0))), zw_I H 72 0 (Int32.ofInt 1)) := by
  refine zw_ex (zw_met zm_210_t rfl rfl ?_)
  refine zw_ld (n := 1) (k := 0) (f := zp_isR) (pc' := 1) rfl rfl rfl rfl rfl ?_
  refine zw_ld (n := 1) (k := 1) (f := zp_isI) (pc' := 2) rfl rfl rfl rfl rfl ?_
  refine zw_blt1 (g := 17) (pc' := 5) rfl rfl rfl rfl (fun h1 => ?_) (fun h1 => ?_)
  · refine zw_s (pc' := 18) rfl rfl ?_
    refine zw_s (pc' := 19) rfl rfl ?_
    refine zw_c (pc' := 22) (zw_cv (q := 72) (Y := zm_170) W.1 rfl rfl zm_170_t rfl rfl) rfl rfl rfl rfl rfl (zq_right0 W h (by decide)) ?_
    refine zw_rz rfl rfl (by decide) ?_
    rfl
  · refine zw_ld (n := 1) (k := 1) (f := zp_isI) (pc' := 6) rfl rfl rfl rfl rfl ?_
    refine zw_ld (n := 1) (k := 0) (f := zp_isR) (pc' := 7) rfl rfl rfl rfl rfl ?_
    refine zw_gI (q := 72) (pc' := 10) W rfl rfl rfl rfl rfl rfl ?_
    refine zw_bge2 (g := 17) (pc' := 13) rfl rfl rfl rfl rfl (fun h2 => ?_) (fun h2 => ?_)
    · refine zw_s (pc' := 18) rfl rfl ?_
      refine zw_s (pc' := 19) rfl rfl ?_
      refine zw_c (pc' := 22) (zw_cv (q := 72) (Y := zm_170) W.1 rfl rfl zm_170_t rfl rfl) rfl rfl rfl rfl rfl (zq_right0 W h (by decide)) ?_
      refine zw_rz rfl rfl (by decide) ?_
      rfl
    · exact absurd ⟨h1, h2⟩ hx

theorem zq_marks {L : Nat} {σ : Nat → Int32} {d : Nat} {H : zp_H} (W : zw_W H) {x : Int32} (hx : 0 ≤ x.toInt ∧ x.toInt ≤ 7) : zp_Call L σ (d + 1) 212 [.inr (.inr (some 73)), .inl x] H (.inl (some (.inl (H.2.1 74 (4 * x.toInt.toNat + 2)))), H) := by
  refine zw_ex (zw_met zm_212_t rfl rfl ?_)
  have e1 : (Int32.ofInt 4 * x).toInt = 4 * x.toInt := zt_mul (by decide) (by omega)
  have e2 : (Int32.ofInt 4 * x + Int32.ofInt 2).toInt = 4 * x.toInt + 2 := by rw [zt_add (by decide) (by omega), e1]
  have e3 : (Int32.ofInt 4 * x + Int32.ofInt 2).toInt.toNat = 4 * x.toInt.toNat + 2 := by omega
  refine zw_ld (n := 1) (k := 0) (f := zp_isR) (pc' := 1) rfl rfl rfl rfl rfl ?_
  refine zw_gR (q := 72) (pc' := 4) W rfl rfl rfl rfl (W.2 72 14 _ rfl) rfl ?_
  refine zw_s (pc' := 5) rfl rfl ?_
  refine zw_ld (n := 1) (k := 1) (f := zp_isI) (pc' := 6) rfl rfl rfl rfl rfl ?_
  refine zw_imul (pc' := 7) rfl rfl ?_
  refine zw_s (pc' := 8) rfl rfl ?_
  refine zw_iadd (pc' := 9) rfl rfl ?_
  refine zw_ia (q := 74) (pc' := 10) W rfl rfl (by decide) (⟨by omega, by show _ < ((32 : Nat) : Int); omega⟩) rfl rfl ?_
  refine zw_ri rfl rfl ?_
  rw [e3]

theorem zq_refuses {L : Nat} {σ : Nat → Int32} {d : Nat} {H : zp_H} (W : zw_W H)  : zp_Call L σ (d + 1) 214 [.inr (.inr (some 73))] H (.inl (some (.inl (Int32.ofInt (-1)))), zw_I H 82 1 (H.2.1 82 1 + Int32.ofInt 1)) := by
  refine zw_ex (zw_met zm_214_t rfl rfl ?_)
  refine zw_ld (n := 1) (k := 0) (f := zp_isR) (pc' := 1) rfl rfl rfl rfl rfl ?_
  refine zw_gR (q := 72) (pc' := 4) W rfl rfl rfl rfl (W.2 72 25 _ rfl) rfl ?_
  refine zw_s (pc' := 5) rfl rfl ?_
  refine zw_s (pc' := 6) rfl rfl ?_
  refine zw_ia (q := 82) (pc' := 7) W rfl rfl (by decide) (⟨by decide, by decide⟩) rfl rfl ?_
  refine zw_s (pc' := 8) rfl rfl ?_
  refine zw_iadd (pc' := 9) rfl rfl ?_
  refine zw_is (q := 82) (pc' := 10) W rfl rfl (by decide) (⟨by decide, by decide⟩) rfl ?_
  refine zw_s (pc' := 11) rfl rfl ?_
  refine zw_ri rfl rfl ?_
  rfl
end
section
/-! ===== the reference writes a mark ===== -/
def zm_213 : za_MI := (yX12_write, prog_14_method_54_code, 5, (some FieldType.int), 12, 0, 0, [], za_i213)
theorem zm_213_t : za_MT 213 = some zm_213 := rfl
theorem zq_within1 {L : Nat} {σ : Nat → Int32} {d : Nat} {H : zp_H} {x y z : Int32} (h : y.toInt ≤ x.toInt ∧ x.toInt ≤ z.toInt) : zp_Call L σ (d + 1) 185 [.inl x, .inl y, .inl z] H (.inl (some (.inl (Int32.ofInt 1))), H) := by
  refine zw_ex (zw_met zm_185_t rfl rfl ?_)
  refine zw_ld (n := 1) (k := 0) (f := zp_isI) (pc' := 1) rfl rfl rfl rfl rfl ?_
  refine zw_ld (n := 1) (k := 1) (f := zp_isI) (pc' := 2) rfl rfl rfl rfl rfl ?_
  refine zw_blt2 (g := 14) (pc' := 5) rfl rfl rfl rfl rfl (fun h1 => ?_) (fun h1 => ?_)
  · omega
  · refine zw_ld (n := 1) (k := 0) (f := zp_isI) (pc' := 6) rfl rfl rfl rfl rfl ?_
    refine zw_ld (n := 1) (k := 2) (f := zp_isI) (pc' := 7) rfl rfl rfl rfl rfl ?_
    refine zw_bgt2 (g := 14) (pc' := 10) rfl rfl rfl rfl rfl (fun h2 => ?_) (fun h2 => ?_)
    · omega
    · refine zw_s (pc' := 11) rfl rfl ?_
      refine zw_s (pc' := 15) rfl rfl ?_
      refine zw_rz rfl rfl (by decide) ?_
      rfl

theorem zq_within0 {L : Nat} {σ : Nat → Int32} {d : Nat} {H : zp_H} {x y z : Int32} (h : ¬ (y.toInt ≤ x.toInt ∧ x.toInt ≤ z.toInt)) : zp_Call L σ (d + 1) 185 [.inl x, .inl y, .inl z] H (.inl (some (.inl (Int32.ofInt 0))), H) := by
  refine zw_ex (zw_met zm_185_t rfl rfl ?_)
  refine zw_ld (n := 1) (k := 0) (f := zp_isI) (pc' := 1) rfl rfl rfl rfl rfl ?_
  refine zw_ld (n := 1) (k := 1) (f := zp_isI) (pc' := 2) rfl rfl rfl rfl rfl ?_
  refine zw_blt2 (g := 14) (pc' := 5) rfl rfl rfl rfl rfl (fun h1 => ?_) (fun h1 => ?_)
  · refine zw_s (pc' := 15) rfl rfl ?_
    refine zw_rz rfl rfl (by decide) ?_
    rfl
  · refine zw_ld (n := 1) (k := 0) (f := zp_isI) (pc' := 6) rfl rfl rfl rfl rfl ?_
    refine zw_ld (n := 1) (k := 2) (f := zp_isI) (pc' := 7) rfl rfl rfl rfl rfl ?_
    refine zw_bgt2 (g := 14) (pc' := 10) rfl rfl rfl rfl rfl (fun h2 => ?_) (fun h2 => ?_)
    · refine zw_s (pc' := 15) rfl rfl ?_
      refine zw_rz rfl rfl (by decide) ?_
      rfl
    · omega

def zt_wM : List (Nat × Nat) := [(72, 0), (72, 62)]
def zt_wA : List Nat := [74, 75, 82, 93]
end
section
/-! ===== the reference's image ===== -/
theorem zc_ne {H : zp_H} {q1 q2 n p i : Nat} (h : p ≠ q2) : (zc_k H q1 q2 n).2.1 p i = H.2.1 p i := by
  show (if p = q2 ∧ i < n then H.2.1 q1 i else H.2.1 p i) = _
  rw [if_neg (fun h9 => h h9.1)]
theorem zc_eq {H : zp_H} {q1 q2 n i : Nat} (h : i < n) : (zc_k H q1 q2 n).2.1 q2 i = H.2.1 q1 i := by
  show (if q2 = q2 ∧ i < n then H.2.1 q1 i else H.2.1 q2 i) = _
  rw [if_pos ⟨rfl, h⟩]
theorem zc_B {H : zp_H} {q1 q2 n : Nat} (h : zk_Bs zR0 zg zT H) (h1 : zB_sh[q1]? = some (.inr (0, n))) (h2 : zB_sh[q2]? = some (.inr (0, n))) (ha : zB_al zR_ar q2 = zB_al zR_ar q1) : zk_Bs zR0 zg zT (zc_k H q1 q2 n) := by
  have hne : (72 : Nat) ≠ q2 := by
    rintro rfl
    cases h2
  refine ⟨h.1, h.2.1, fun q hq => absurd hq List.not_mem_nil, fun q hq => absurd hq List.not_mem_nil, fun p j r hr => Or.inr ?_, fun p t m i r hp hi hr => ?_, fun c hc => absurd hc List.not_mem_nil, trivial⟩
  · rcases h.2.2.2.2.1 p j r hr with ⟨q, q1, _⟩ | h9
    · exact absurd q1 List.not_mem_nil
    have hp72 : p = 72 := by
      cases hb : Nat.beq 72 p with
      | true => exact (za_beq hb).symm
      | false =>
        have hr : zB_l2 zR_fr p j = some r := hr
        unfold zR_fr zB_l2 at hr
        rw [hb] at hr
        cases hr
    subst hp72
    unfold zk_fv at h9 ⊢
    by_cases h1 : (72 : Nat) = 72 ∧ j = 100
    · rw [if_pos h1]
      obtain ⟨_, e2⟩ := h1
      subst e2
      have e : r = (-1, 20) := (Option.some.inj hr).symm
      rw [e]
      exact zg_in _
    · rw [if_neg h1] at h9 ⊢
      rw [zc_ne hne]
      exact h9
  · by_cases h9 : p = q2
    · subst h9
      have e := Option.some.inj (h2.symm.trans hp)
      cases e
      rw [zc_eq hi]
      have hr : (zB_al zR_ar p).2[i % (zB_al zR_ar p).1]? = some r := hr
      rw [ha] at hr
      exact h.2.2.2.2.2.1 q1 0 n i r h1 hi hr
    · rw [zc_ne h9]
      exact h.2.2.2.2.2.1 p t m i r hp hi hr
theorem zc_F {mods : List (Nat × Nat)} {am : List Nat} {H0 H : zp_H} {q1 q2 n : Nat} (h : zk_Fr zg mods am H0 H) (hm : zk_ina am q2 = true) (hq : Nat.beq 72 q2 = false) : zk_Fr zg mods am H0 (zc_k H q1 q2 n) := by
  have hne : (72 : Nat) ≠ q2 := by
    rintro rfl
    cases hq
  refine ⟨h.1, fun p k h1 h2 => ⟨?_, (h.2 p k h1 h2).2⟩⟩
  have hp : p ≠ q2 := by
    rintro rfl
    rw [hm] at h2
    cases h2
  rw [← (h.2 p k h1 h2).1]
  unfold zk_fv
  by_cases h9 : p = 72 ∧ k = 100
  · rw [if_pos h9, if_pos h9]
    unfold zg
    rw [zc_ne hne, zc_ne hne]
    rfl
  · rw [if_neg h9, if_neg h9, zc_ne hp]
def zm_249 : za_MI := (yX12_image, prog_14_method_85_code, 1, none, 12, 0, 0, [], za_i249)
set_option maxRecDepth 4000 in
theorem zm_249_t : za_MT 249 = some zm_249 := rfl
def zm_250 : za_MI := (yX12_restore, prog_14_method_86_code, 1, (some FieldType.boolean), 12, 0, 0, [], za_i250)
set_option maxRecDepth 4000 in
theorem zm_250_t : za_MT 250 = some zm_250 := rfl
end
section
/-! ===== more summaries of the reference (printed) ===== -/
/-- yX12_bits -/
def zr_b : zk_T := (217, [.inl ((-2147483648), 2147483647)], [], [], [], [(.inl (some (.inl ((-2147483648), 2147483647))), [], [])], 1)
end
section
/-! ===== the reference rubs marks ===== -/
theorem zw_rem {L : Nat} {σ : Nat → Int32} {P : zp_X → Prop} {M : za_MI} {fs : List zs_F} {d pc pc' : Nat} {lv : zp_LV} {st : List zp_V} {H : zp_H} {c : Nat × Nat} {x y : Int32} (hi : za_fe (za_is M) pc = some .irem) (hy : y ≠ 0) (hp : pc + 1 = pc') (hS : zs_Safe L σ P M fs d (pc', lv, .inl (x - x / y * y) :: st, H, c)) : zs_Safe L σ P M fs d (pc, lv, .inl y :: .inl x :: st, H, c) := by
  refine zs_step (S := (pc, lv, .inl y :: .inl x :: st, H, c)) (S' := (pc', lv, .inl (x - x / y * y) :: st, H, c)) hi ?_ hS
  show (if y = 0 then none else zp_go lv (H, c) (pc + 1) (.inl (x - x / y * y) :: st)) = _
  rw [if_neg hy, ← hp]
  rfl
theorem zt_s3 {H : zp_H} (h : zk_Bs zR0 zg zT H) {k : Nat} (hk : k < 8) : 0 ≤ (H.2.1 74 (4 * k + 3)).toInt ∧ (H.2.1 74 (4 * k + 3)).toInt ≤ 255 := zT_ar1 h (p := 74) (t := 0) (n := 32) (i := 4 * k + 3) (r := (0, 255)) rfl (by omega) (by show [((0 : Int), (63 : Int)), (-2147483648, 2147483647), (0, 8), (0, 255)][(4 * k + 3) % 4]? = _; rw [show (4 * k + 3) % 4 = 3 by omega]; rfl)
def zm_216 : za_MI := (yX12_rub, prog_14_method_55_code, 6, (some FieldType.int), 12, 0, 0, [], za_i216)
theorem zm_216_t : za_MT 216 = some zm_216 := rfl
def zm_217 : za_MI := (yX12_bits, prog_14_method_6_code, 3, (some FieldType.int), 12, 0, 0, [], za_i217)
theorem zm_217_t : za_MT 217 = some zm_217 := rfl
end
section
/-! ===== more summaries of the reference (printed) ===== -/
/-- yX12_isNear -/
def zr_n : zk_T := (240, [.inr (some (some 73)), .inl (0, 63), .inl (0, 63), .inl ((-2147483648), 2147483647)], [], [], [], [(.inl (some (.inl (0, 1))), [], [])], 3)
end
section
/-! ===== the reference: may a slate be read next ===== -/
theorem zt_s0 {H : zp_H} (h : zk_Bs zR0 zg zT H) {k : Nat} (hk : k < 8) : 0 ≤ (H.2.1 74 (4 * k)).toInt ∧ (H.2.1 74 (4 * k)).toInt ≤ 63 := zT_ar1 h (p := 74) (t := 0) (n := 32) (i := 4 * k) (r := (0, 63)) rfl (by omega) (by show [((0 : Int), (63 : Int)), (-2147483648, 2147483647), (0, 8), (0, 255)][(4 * k) % 4]? = _; rw [Nat.mul_mod_right]; rfl)
theorem zt_en {H : zp_H} (h : zk_Bs zR0 zg zT H) {k : Nat} (hk : k < 8) : 0 ≤ (H.2.1 99 k).toInt ∧ (H.2.1 99 k).toInt ≤ 63 := zT_ar1 h (p := 99) (t := 0) (n := 8) (i := k) (r := (0, 63)) rfl hk (by show [((0 : Int), (63 : Int))][k % 1]? = _; rw [Nat.mod_one]; rfl)
def zm_239 : za_MI := (yX12_isRead, prog_14_method_75_code, 4, (some FieldType.boolean), 12, 0, 0, [], za_i239)
set_option maxRecDepth 4000 in
theorem zm_239_t : za_MT 239 = some zm_239 := rfl
def zm_240 : za_MI := (yX12_isNear, prog_14_method_74_code, 4, (some FieldType.boolean), 12, 0, 0, [], za_i240)
set_option maxRecDepth 4000 in
theorem zm_240_t : za_MT 240 = some zm_240 := rfl
end
section
/-! ===== the reference: studies end ===== -/
def zs_SM : List (Nat × Nat) := [(72, 64), (72, 65), (72, 66), (72, 67), (72, 68), (72, 69), (72, 70), (72, 71)]
/-- a row's measure: what is left at each place -/
def zs_mu (row : Nat → Int32) (S : Int) : Nat → Nat
  | 0 => 0
  | n + 1 => zs_mu row S n + (S + 1 - (row n).toInt).toNat * 11 ^ (7 - n)
theorem zs_mu_c {row row' : Nat → Int32} {S : Int} : ∀ {n : Nat}, (∀ i, i < n → row' i = row i) → zs_mu row' S n = zs_mu row S n
  | 0, _ => rfl
  | n + 1, h => by
    unfold zs_mu
    rw [zs_mu_c (fun i hi => h i (Nat.lt_succ_of_lt hi)), h n (Nat.lt_succ_self n)]
def zs_ms (row : Nat → Int32) (S k m : Int) : Nat := 2 * zs_mu row S (if k = m then k else k + 1).toNat + (if k = m then 1 else 0)
theorem zs_d1 {S : Int} {row row' : Nat → Int32} {k : Nat} {S0 : 0 ≤ S} (hS : S ≤ 8) (hk : k ≤ 7) (hr : ∀ i, i < k → row' i = row i) (h0 : (row k).toInt ≤ S) (h1 : (row k).toInt < (row' k).toInt) : zs_mu row' S (k + 1) + 11 ^ (7 - k) ≤ zs_mu row S (k + 1) := by
  show zs_mu row' S k + (S + 1 - (row' k).toInt).toNat * 11 ^ (7 - k) + 11 ^ (7 - k) ≤ zs_mu row S k + (S + 1 - (row k).toInt).toNat * 11 ^ (7 - k)
  rw [zs_mu_c hr]
  have h2 : (S + 1 - (row' k).toInt).toNat + 1 ≤ (S + 1 - (row k).toInt).toNat := by omega
  have h3 := Nat.mul_le_mul_right (11 ^ (7 - k)) h2
  rw [Nat.add_mul, Nat.one_mul] at h3
  omega
theorem zs_w98 {H : zp_H} {j i : Nat} {x : Int32} (h : i ≠ j) : (zw_I H 98 j (zp_nar 0 x)).2.1 98 i = H.2.1 98 i := zp_u_ne (fun h8 => h h8.2)
def zm_230 : za_MI := (yX12_pilots, prog_14_method_71_code, 6, none, 12, 0, 0, [], za_i230)
theorem zm_230_t : za_MT 230 = some zm_230 := rfl
def zm_238 : za_MI := (yX12_studies, prog_14_method_76_code, 6, (some FieldType.boolean), 12, 0, 0, [], za_i238)
theorem zm_238_t : za_MT 238 = some zm_238 := rfl
end
section
/-! ===== the reference: lines, without the summaries that stand behind it (printed) ===== -/
theorem zro_e0 {L : Nat} {σ : Nat → Int32} : zk_Ct L σ zR zg zJ zr_e0 := zk_chk_ok zR_W (fun _ h => absurd h List.not_mem_nil) zrt_e0
theorem zro_e30 {L : Nat} {σ : Nat → Int32} : zk_Ct L σ zR zg zJ zr_e30 := zk_chk_ok zR_W (List.forall_mem_cons.mpr ⟨zro_e0, fun _ h => absurd h List.not_mem_nil⟩) zrt_e30
theorem zro_e37 {L : Nat} {σ : Nat → Int32} : zk_Ct L σ zR zg zJ zr_e37 := zk_chk_ok zR_W (List.forall_mem_cons.mpr ⟨zro_e0, fun _ h => absurd h List.not_mem_nil⟩) zrt_e37
theorem zro_e36 {L : Nat} {σ : Nat → Int32} : zk_Ct L σ zR zg zJ zr_e36 := zk_chk_ok zR_W (List.forall_mem_cons.mpr ⟨zro_e0, fun _ h => absurd h List.not_mem_nil⟩) zrt_e36
theorem zro_e26 {L : Nat} {σ : Nat → Int32} : zk_Ct L σ zR zg zJ zr_e26 := zk_chk_ok zR_W (List.forall_mem_cons.mpr ⟨zro_e0, fun _ h => absurd h List.not_mem_nil⟩) zrt_e26
theorem zro_e28 {L : Nat} {σ : Nat → Int32} : zk_Ct L σ zR zg zJ zr_e28 := zk_chk_ok zR_W (List.forall_mem_cons.mpr ⟨zro_e0, fun _ h => absurd h List.not_mem_nil⟩) zrt_e28
theorem zro_e31 {L : Nat} {σ : Nat → Int32} : zk_Ct L σ zR zg zJ zr_e31 := zk_chk_ok zR_W (fun _ h => absurd h List.not_mem_nil) zrt_e31
theorem zro_e35 {L : Nat} {σ : Nat → Int32} : zk_Ct L σ zR zg zJ zr_e35 := zk_chk_ok zR_W (List.forall_mem_cons.mpr ⟨zro_e0, fun _ h => absurd h List.not_mem_nil⟩) zrt_e35
theorem zro_e27 {L : Nat} {σ : Nat → Int32} : zk_Ct L σ zR zg zJ zr_e27 := zk_chk_ok zR_W (List.forall_mem_cons.mpr ⟨zro_e0, fun _ h => absurd h List.not_mem_nil⟩) zrt_e27
theorem zro_e29 {L : Nat} {σ : Nat → Int32} : zk_Ct L σ zR zg zJ zr_e29 := zk_chk_ok zR_W (List.forall_mem_cons.mpr ⟨zrc_h0, List.forall_mem_cons.mpr ⟨zrc_h1, List.forall_mem_cons.mpr ⟨zrc_h2, List.forall_mem_cons.mpr ⟨zrc_h3, List.forall_mem_cons.mpr ⟨zro_e0, List.forall_mem_cons.mpr ⟨zro_e26, List.forall_mem_cons.mpr ⟨zro_e28, List.forall_mem_cons.mpr ⟨zro_e27, fun _ h => absurd h List.not_mem_nil⟩⟩⟩⟩⟩⟩⟩⟩) zrt_e29
theorem zro_e32 {L : Nat} {σ : Nat → Int32} : zk_Ct L σ zR zg zJ zr_e32 := zk_chk_ok zR_W (List.forall_mem_cons.mpr ⟨zro_e0, fun _ h => absurd h List.not_mem_nil⟩) zrt_e32
theorem zro_e33 {L : Nat} {σ : Nat → Int32} : zk_Ct L σ zR zg zJ zr_e33 := zk_chk_ok zR_W (List.forall_mem_cons.mpr ⟨zro_e0, List.forall_mem_cons.mpr ⟨zro_e30, List.forall_mem_cons.mpr ⟨zro_e31, List.forall_mem_cons.mpr ⟨zro_e32, fun _ h => absurd h List.not_mem_nil⟩⟩⟩⟩) zrt_e33
theorem zro_e34 {L : Nat} {σ : Nat → Int32} : zk_Ct L σ zR zg zJ zr_e34 := zk_chk_ok zR_W (List.forall_mem_cons.mpr ⟨zro_e0, List.forall_mem_cons.mpr ⟨zro_e26, List.forall_mem_cons.mpr ⟨zro_e27, fun _ h => absurd h List.not_mem_nil⟩⟩⟩) zrt_e34
theorem zro_e38 {L : Nat} {σ : Nat → Int32} : zk_Ct L σ zR zg zJ zr_e38 := zk_chk_ok zR_W (List.forall_mem_cons.mpr ⟨zrc_h0, List.forall_mem_cons.mpr ⟨zrc_h1, List.forall_mem_cons.mpr ⟨zrc_h2, List.forall_mem_cons.mpr ⟨zrc_h3, List.forall_mem_cons.mpr ⟨zro_e0, List.forall_mem_cons.mpr ⟨zro_e30, List.forall_mem_cons.mpr ⟨zro_e37, List.forall_mem_cons.mpr ⟨zro_e36, List.forall_mem_cons.mpr ⟨zro_e26, List.forall_mem_cons.mpr ⟨zro_e28, List.forall_mem_cons.mpr ⟨zro_e31, List.forall_mem_cons.mpr ⟨zro_e35, List.forall_mem_cons.mpr ⟨zro_e29, List.forall_mem_cons.mpr ⟨zro_e33, List.forall_mem_cons.mpr ⟨zro_e34, List.forall_mem_cons.mpr ⟨zro_e27, fun _ h => absurd h List.not_mem_nil⟩⟩⟩⟩⟩⟩⟩⟩⟩⟩⟩⟩⟩⟩⟩⟩) zrt_e38
theorem zro_e39 {L : Nat} {σ : Nat → Int32} : zk_Ct L σ zR zg zJ zr_e39 := zk_chk_ok zR_W (List.forall_mem_cons.mpr ⟨zrc_h0, List.forall_mem_cons.mpr ⟨zrc_h1, List.forall_mem_cons.mpr ⟨zrc_h2, List.forall_mem_cons.mpr ⟨zrc_h3, List.forall_mem_cons.mpr ⟨zro_e0, List.forall_mem_cons.mpr ⟨zro_e30, List.forall_mem_cons.mpr ⟨zro_e37, List.forall_mem_cons.mpr ⟨zro_e36, List.forall_mem_cons.mpr ⟨zro_e26, List.forall_mem_cons.mpr ⟨zro_e28, List.forall_mem_cons.mpr ⟨zro_e31, List.forall_mem_cons.mpr ⟨zro_e35, List.forall_mem_cons.mpr ⟨zro_e29, List.forall_mem_cons.mpr ⟨zro_e33, List.forall_mem_cons.mpr ⟨zro_e34, List.forall_mem_cons.mpr ⟨zro_e27, fun _ h => absurd h List.not_mem_nil⟩⟩⟩⟩⟩⟩⟩⟩⟩⟩⟩⟩⟩⟩⟩⟩) zrt_e39
end
section
/-! ===== the reference: any line ===== -/
/-- nothing of the class is touched -/
def zf_72 (H H1 : zp_H) : Prop := H1.2.2.2 = H.2.2.2 ∧ ∀ p k, p < 72 → H1.2.1 p k = H.2.1 p k ∧ H1.2.2.1 p k = H.2.2.1 p k
theorem zf_r (H : zp_H) : zf_72 H H := ⟨rfl, fun _ _ _ => ⟨rfl, rfl⟩⟩
theorem zf_t {H H1 H2 : zp_H} (h1 : zf_72 H H1) (h2 : zf_72 H1 H2) : zf_72 H H2 := ⟨h2.1.trans h1.1, fun p k hp => ⟨(h2.2 p k hp).1.trans (h1.2 p k hp).1, (h2.2 p k hp).2.trans (h1.2 p k hp).2⟩⟩
theorem zf_of {mods : List (Nat × Nat)} {am : List Nat} {H H1 : zp_H} (h : zk_Fr zg mods am H H1) (hm : mods.all (fun q => Nat.ble 72 q.1) = true) (ha : am.all (fun q => Nat.ble 72 q) = true) : zf_72 H H1 := by
  refine ⟨h.1, fun p k hp => ?_⟩
  have h1 : zk_inm mods p k = false := by
    cases hb : zk_inm mods p k with
    | false => rfl
    | true =>
      obtain ⟨q, q1, q2⟩ := List.any_eq_true.mp hb
      have q3 := za_beq (Bool.and_eq_true_iff.mp q2).1
      have q4 := za_ble (List.all_eq_true.mp hm q q1)
      omega
  have h2 : zk_ina am p = false := by
    cases hb : zk_ina am p with
    | false => rfl
    | true =>
      obtain ⟨q, q1, q2⟩ := List.any_eq_true.mp hb
      have q3 := za_beq q2
      have q4 := za_ble (List.all_eq_true.mp ha q q1)
      omega
  obtain ⟨g1, g2⟩ := h.2 p k h1 h2
  refine ⟨?_, g2⟩
  have hne : ¬ (p = 72 ∧ k = 100) := fun h9 => by have := h9.1; omega
  unfold zk_fv at g1
  rw [if_neg hne, if_neg hne] at g1
  exact Int32.toInt_inj.mp g1
theorem zf_I {H0 H : zp_H} {p k : Nat} {x : Int32} (h : zf_72 H0 H) (hp : Nat.ble 72 p = true) : zf_72 H0 (zw_I H p k x) := ⟨h.1, fun q j hq => ⟨(zp_u_ne (fun h9 => by have := za_ble hp; have := h9.1; omega)).trans (h.2 q j hq).1, (h.2 q j hq).2⟩⟩
theorem zf_J {H0 H : zp_H} {p k : Nat} {x : Int64} (h : zf_72 H0 H) (hp : Nat.ble 72 p = true) : zf_72 H0 (zw_J H p k x) := ⟨h.1, fun q j hq => ⟨(h.2 q j hq).1, (zp_u_ne (fun h9 => by have := za_ble hp; have := h9.1; omega)).trans (h.2 q j hq).2⟩⟩
theorem zf_c {H0 H : zp_H} {q1 q2 n : Nat} (h : zf_72 H0 H) (hp : Nat.ble 72 q2 = true) : zf_72 H0 (zc_k H q1 q2 n) := ⟨h.1, fun q j hq => ⟨(zc_ne (fun h9 => by have := za_ble hp; omega)).trans (h.2 q j hq).1, (h.2 q j hq).2⟩⟩
/-- behind a line -/
def zl_R2 (H H1 : zp_H) : Prop := zk_Bs zR zg zJ H1 ∧ zf_72 H H1 ∧ (H1.2.1 72 45).toInt ≤ 1402 ∧ (H1.2.1 72 22).toInt = (H.2.1 72 22).toInt ∧ ((H1.2.1 72 23).toInt = 0 → zl_J H1 ∧ ((H1.2.1 72 28).toInt ≠ 0 → (H1.2.1 72 45).toInt ≤ zx_phi H1 ∧ zx_phi H + 2 ≤ zx_phi H1))
theorem zl_lineC {L : Nat} {σ : Nat → Int32} {d : Nat} {H : zp_H} {lo hi : Int} (hct : zk_Ct L σ zR zg zJ (176, [.inr (some (some 73))], [(72, 23, 0, 0), (72, 100, lo, hi)], zr_e38.2.2.2.1, zr_e38.2.2.2.2.1, zr_e38.2.2.2.2.2.1, 12)) (hB : zk_Bs zR zg zJ H) (h0 : (H.2.1 72 23).toInt = 0) (hs : (H.2.1 72 28).toInt ≠ 0) (hg : lo ≤ zg H ∧ zg H ≤ hi) (hJ : zl_J H) (ht : (H.2.1 72 45).toInt ≤ zx_phi H) : ∃ H1, zp_Call L σ (d + 12) 176 [.inr (.inr (some 73))] H (.inl none, H1) ∧ zl_R2 H H1 := by
  obtain ⟨X, x1, x2, x3, o, o1, o2, o3, o4⟩ := hct (d + 12) (Nat.le_add_left 12 d) [.inr (.inr (some 73))] H ⟨rfl, trivial⟩ hB (fun f hf => by
    rcases List.mem_cons.mp hf with rfl | hf
    · exact ⟨by show (0 : Int) ≤ (H.2.1 72 23).toInt; omega, by show (H.2.1 72 23).toInt ≤ (0 : Int); omega⟩
    · rcases List.mem_cons.mp hf with rfl | hf
      · exact hg
      · exact absurd hf List.not_mem_nil)
  obtain ⟨X1, X2⟩ := X
  have x2 : zk_Bs zR zg zJ X2 := x2
  have e22 := zx_fe x3 22 rfl rfl rfl
  have e41 := zx_fe x3 41 rfl rfl rfl
  have e45 := zx_fe x3 45 rfl rfl rfl
  have e88 := zx_ae x3 88 (fun _ => rfl) rfl rfl
  have e90 := zx_ae x3 90 (fun _ => rfl) rfl rfl
  have pH := zx_phi_le hB
  have ps := zx_phi_s hs
  have e22 : (X2.2.1 72 22).toInt = (H.2.1 72 22).toInt := e22
  have e41 : (X2.2.1 72 41).toInt = (H.2.1 72 41).toInt := e41
  have e45 : (X2.2.1 72 45).toInt = (H.2.1 72 45).toInt := e45
  have hJ2 : zl_J X2 := by
    unfold zl_J
    rw [e41, e45, show X2.2.1 88 = H.2.1 88 from e88, show X2.2.1 90 = H.2.1 90 from e90]
    exact hJ
  have o1 : o ∈ [((Sum.inl none, [(72, 23, 1, 5)], []) : zk_Oc), (Sum.inl none, [(72, 23, 0, 0), (72, 27, 0, 700), (72, 28, 0, 0)], []), (Sum.inl none, [(72, 23, 0, 0), (72, 27, 0, 700), (72, 28, 1, 4)], [(72, 27, 1)])] := o1
  have key : X1 = .inl none ∧ ((X2.2.1 72 23).toInt = 0 → (X2.2.1 72 28).toInt ≠ 0 → (X2.2.1 72 45).toInt ≤ zx_phi X2 ∧ zx_phi H + 2 ≤ zx_phi X2) := by
    rcases List.mem_cons.mp o1 with rfl | o1
    · have a := o3 (72, 23, 1, 5) List.mem_cons_self
      have a : 1 ≤ (X2.2.1 72 23).toInt ∧ _ := a
      exact ⟨zk_rv_n o2, fun h9 => by omega⟩
    · rcases List.mem_cons.mp o1 with rfl | o1
      · have a := o3 (72, 28, 0, 0) (List.mem_cons_of_mem _ (List.mem_cons_of_mem _ List.mem_cons_self))
        have a : 0 ≤ (X2.2.1 72 28).toInt ∧ (X2.2.1 72 28).toInt ≤ 0 := a
        exact ⟨zk_rv_n o2, fun _ h9 => by omega⟩
      · rcases List.mem_cons.mp o1 with rfl | o1
        · have a := o4 (72, 27, 1) List.mem_cons_self
          have a : (H.2.1 72 27).toInt + 1 ≤ (X2.2.1 72 27).toInt := a
          refine ⟨zk_rv_n o2, fun _ h9 => ?_⟩
          have p2 := zx_phi_s h9
          omega
        · exact absurd o1 List.not_mem_nil
  obtain ⟨rfl, k2⟩ := key
  exact ⟨X2, x1, x2, zf_of x3 rfl rfl, by omega, e22, fun h9 => ⟨hJ2, k2 h9⟩⟩
theorem zl_line {L : Nat} {σ : Nat → Int32} {d : Nat} {H : zp_H} (hB : zk_Bs zR zg zJ H) (h0 : (H.2.1 72 23).toInt = 0) (hs : (H.2.1 72 28).toInt ≠ 0) (hJ : zl_J H) (ht : (H.2.1 72 45).toInt ≤ zx_phi H) : ∃ H1, zp_Call L σ (d + 12) 176 [.inr (.inr (some 73))] H (.inl none, H1) ∧ zl_R2 H H1 := by
  have g := zg_in H
  have g : -1 ≤ zg H ∧ zg H ≤ 20 := g
  by_cases h1 : zg H ≤ 15
  · exact zl_lineC (lo := -1) (hi := 15) zro_e38 hB h0 hs ⟨g.1, h1⟩ hJ ht
  · by_cases h2 : zg H = 16
    · obtain ⟨_, c1, H1, rfl, ⟨c2, c3, c4⟩, c5⟩ := zl_line16 (L := L) (σ := σ) (d := d + 2) zx_KWt hB h0 h2 hJ ht
      exact ⟨H1, c1, c2, zf_of c5 rfl rfl, c3, zx_fe c5 22 rfl rfl rfl, fun h9 => ⟨(c4 h9).1, fun _ => (c4 h9).2⟩⟩
    · exact zl_lineC (lo := 17) (hi := 20) zro_e39 hB h0 hs ⟨by omega, g.2⟩ hJ ht
end
section
def zm_169 : za_MI := (yX12_sea, prog_14_method_42_code, 3, (some FieldType.int), 12, 0, 0, [], za_i169)
theorem zm_169_t : za_MT 169 = some zm_169 := rfl
/-! ===== the reference: sea, the loop over lines ===== -/
def zse_I (H0 H : zp_H) : Prop := zk_Bs zR zg zJ H ∧ zf_72 H0 H ∧ (H.2.1 72 45).toInt ≤ 1402 ∧ (H.2.1 72 22).toInt = 0 ∧ ((H.2.1 72 23).toInt = 0 → zl_J H ∧ ((H.2.1 72 28).toInt ≠ 0 → (H.2.1 72 45).toInt ≤ zx_phi H))
end
section
/-! ===== the reference: sea, what was read is taken ===== -/
theorem zT_J {H : zp_H} {x : Int64} (h : zk_Bs zR0 zg zT H) : zk_Bs zR0 zg zT (zw_J H 72 12 x) := by
  refine ⟨h.1, h.2.1, fun q hq => absurd hq List.not_mem_nil, fun q hq => absurd hq List.not_mem_nil, fun p j r hr => Or.inr ?_, h.2.2.2.2.2.1, fun c hc => absurd hc List.not_mem_nil, trivial⟩
  rcases h.2.2.2.2.1 p j r hr with ⟨q, q1, _⟩ | h9
  · exact absurd q1 List.not_mem_nil
  unfold zk_fv at h9 ⊢
  by_cases h1 : p = 72 ∧ j = 100
  · rw [if_pos h1]
    obtain ⟨e1, e2⟩ := h1
    subst e1 e2
    have e : r = (-1, 20) := (Option.some.inj hr).symm
    rw [e]
    exact zg_in _
  · rw [if_neg h1] at h9 ⊢
    exact h9

theorem zse_k {H : zp_H} {k : Nat} (hk : 12 ≤ k) : (zw_J (zw_I (zw_I (zw_I (zw_I (zw_I (zw_I (zw_I (zw_I (zw_I (zw_I (zw_I (H) 72 1 (H.2.1 72 34)) 72 2 (H.2.1 72 35)) 72 3 (H.2.1 72 36)) 72 4 (H.2.1 72 37)) 72 5 (H.2.1 72 38)) 72 6 (H.2.1 72 39)) 72 7 (H.2.1 72 40)) 72 8 (H.2.1 72 41)) 72 9 (H.2.1 72 42)) 72 10 (H.2.1 72 43)) 72 11 (H.2.1 72 44)) 72 12 ((zw_I (zw_I (zw_I (zw_I (zw_I (zw_I (zw_I (zw_I (zw_I (zw_I (zw_I (H) 72 1 (H.2.1 72 34)) 72 2 (H.2.1 72 35)) 72 3 (H.2.1 72 36)) 72 4 (H.2.1 72 37)) 72 5 (H.2.1 72 38)) 72 6 (H.2.1 72 39)) 72 7 (H.2.1 72 40)) 72 8 (H.2.1 72 41)) 72 9 (H.2.1 72 42)) 72 10 (H.2.1 72 43)) 72 11 (H.2.1 72 44)).2.2.1 72 51)).2.1 72 k = H.2.1 72 k := (zp_u_ne (fun h9 => by have := h9.2; omega)).trans ((zp_u_ne (fun h9 => by have := h9.2; omega)).trans ((zp_u_ne (fun h9 => by have := h9.2; omega)).trans ((zp_u_ne (fun h9 => by have := h9.2; omega)).trans ((zp_u_ne (fun h9 => by have := h9.2; omega)).trans ((zp_u_ne (fun h9 => by have := h9.2; omega)).trans ((zp_u_ne (fun h9 => by have := h9.2; omega)).trans ((zp_u_ne (fun h9 => by have := h9.2; omega)).trans ((zp_u_ne (fun h9 => by have := h9.2; omega)).trans ((zp_u_ne (fun h9 => by have := h9.2; omega)).trans (zp_u_ne (fun h9 => by have := h9.2; omega)))))))))))
theorem zse_p {H : zp_H} {p i : Nat} (hp : p ≠ 72) : (zw_J (zw_I (zw_I (zw_I (zw_I (zw_I (zw_I (zw_I (zw_I (zw_I (zw_I (zw_I (H) 72 1 (H.2.1 72 34)) 72 2 (H.2.1 72 35)) 72 3 (H.2.1 72 36)) 72 4 (H.2.1 72 37)) 72 5 (H.2.1 72 38)) 72 6 (H.2.1 72 39)) 72 7 (H.2.1 72 40)) 72 8 (H.2.1 72 41)) 72 9 (H.2.1 72 42)) 72 10 (H.2.1 72 43)) 72 11 (H.2.1 72 44)) 72 12 ((zw_I (zw_I (zw_I (zw_I (zw_I (zw_I (zw_I (zw_I (zw_I (zw_I (zw_I (H) 72 1 (H.2.1 72 34)) 72 2 (H.2.1 72 35)) 72 3 (H.2.1 72 36)) 72 4 (H.2.1 72 37)) 72 5 (H.2.1 72 38)) 72 6 (H.2.1 72 39)) 72 7 (H.2.1 72 40)) 72 8 (H.2.1 72 41)) 72 9 (H.2.1 72 42)) 72 10 (H.2.1 72 43)) 72 11 (H.2.1 72 44)).2.2.1 72 51)).2.1 p i = H.2.1 p i := (zp_u_ne (fun h9 => hp h9.1)).trans ((zp_u_ne (fun h9 => hp h9.1)).trans ((zp_u_ne (fun h9 => hp h9.1)).trans ((zp_u_ne (fun h9 => hp h9.1)).trans ((zp_u_ne (fun h9 => hp h9.1)).trans ((zp_u_ne (fun h9 => hp h9.1)).trans ((zp_u_ne (fun h9 => hp h9.1)).trans ((zp_u_ne (fun h9 => hp h9.1)).trans ((zp_u_ne (fun h9 => hp h9.1)).trans ((zp_u_ne (fun h9 => hp h9.1)).trans (zp_u_ne (fun h9 => hp h9.1)))))))))))
end
section
/-! ===== the reference: sea ===== -/
theorem zT_J2 {H : zp_H} {k : Nat} {x : Int64} (h : zk_Bs zR0 zg zT H) : zk_Bs zR0 zg zT (zw_J H 72 k x) := by
  refine ⟨h.1, h.2.1, fun q hq => absurd hq List.not_mem_nil, fun q hq => absurd hq List.not_mem_nil, fun p j r hr => Or.inr ?_, h.2.2.2.2.2.1, fun c hc => absurd hc List.not_mem_nil, trivial⟩
  rcases h.2.2.2.2.1 p j r hr with ⟨q, q1, _⟩ | h9
  · exact absurd q1 List.not_mem_nil
  unfold zk_fv at h9 ⊢
  by_cases h1 : p = 72 ∧ j = 100
  · rw [if_pos h1]
    obtain ⟨e1, e2⟩ := h1
    subst e1 e2
    have e : r = (-1, 20) := (Option.some.inj hr).symm
    rw [e]
    exact zg_in _
  · rw [if_neg h1] at h9 ⊢
    exact h9
def zse_N (H0 H1 H : zp_H) : Prop := zk_Bs zR0 zg zT H ∧ zJ H ∧ zf_72 H0 H ∧ ∀ j, H.2.1 72 j = H1.2.1 72 j
end
section
/-! ===== feed, at every length that a tape can have (printed) ===== -/
def zr_fd (c : Nat) : zk_T := (167, [.inr (some (some 73)), .inl ((-2147483648), 2147483647), .inl ((-2147483648), 2147483647), .inl ((-2147483648), 2147483647), .inl ((-2147483648), 2147483647), .inl ((-2147483648), 2147483647)], [(72, 22, (20 * c : Nat), (20 * c : Nat))], [(72, 0), (72, 22)], [81], [bif Nat.blt c 35 then (.inl (some (.inl ((20 * c + 20 : Nat), (20 * c + 20 : Nat)))), [(72, 22, (20 * c + 20 : Nat), (20 * c + 20 : Nat))], []) else (.inl (some (.inl (-1, -1))), [(72, 22, 700, 700)], [])], 2)
end
section
/-! ===== the class's feed, at every length that a tape can have (printed) ===== -/
def zd_fd (c : Nat) : zk_T := (17, [.inr (some (some 1)), .inl ((-2147483648), 2147483647), .inl ((-2147483648), 2147483647), .inl ((-2147483648), 2147483647), .inl ((-2147483648), 2147483647), .inl ((-2147483648), 2147483647)], [(0, 1, (20 * c : Nat), (20 * c : Nat))], [(0, 1)], [1], [bif Nat.blt c 35 then (.inl (some (.inl ((20 * c + 20 : Nat), (20 * c + 20 : Nat)))), [(0, 1, (20 * c + 20 : Nat), (20 * c + 20 : Nat))], []) else (.inl (some (.inl (-1, -1))), [(0, 1, 700, 700)], [])], 2)
theorem zdt_fd : (List.range 36).all (fun c => zk_chk zB zB_fz [] [] 3000 (zd_fd c)) = true := by decide +kernel
theorem zdo_fd {L : Nat} {σ : Nat → Int32} {gh : zp_H → Int} {J : zp_H → Prop} (hw : zk_W zB gh J zB_fz) {c : Nat} (hc : c < 36) : zk_Ct L σ zB gh J (zd_fd c) := zk_chk_ok hw (fun _ h => absurd h List.not_mem_nil) (List.all_eq_true.mp zdt_fd c (List.mem_range.mpr hc))
end
section
/-! ===== the reference once more, without the condition on what it reads (printed from the parts above) ===== -/
def z0R : zk_B := (zB_sh, zB_l2 zB_rf, zB_l2 zR_fr, zB_al zR_ar, [], zB_gk)
theorem z0rt_e1 : zk_chk z0R zR_fz [] [] 5000 zr_e1 = true := by decide +kernel
theorem z0rc_e1 {L : Nat} {σ : Nat → Int32} {gh : zp_H → Int} {J : zp_H → Prop} (hw : zk_W z0R gh J zR_fz) (hh : ∀ s ∈ zr_l, zk_Ct L σ z0R gh J s) : zk_Ct L σ z0R gh J zr_e1 := zk_chk_ok hw (fun _ h => absurd h List.not_mem_nil) z0rt_e1
theorem z0rt_e2 : zk_chk z0R zR_fz [] [] 5000 zr_e2 = true := by decide +kernel
theorem z0rc_e2 {L : Nat} {σ : Nat → Int32} {gh : zp_H → Int} {J : zp_H → Prop} (hw : zk_W z0R gh J zR_fz) (hh : ∀ s ∈ zr_l, zk_Ct L σ z0R gh J s) : zk_Ct L σ z0R gh J zr_e2 := zk_chk_ok hw (fun _ h => absurd h List.not_mem_nil) z0rt_e2
theorem z0rt_e3 : zk_chk z0R zR_fz [] [] 5000 zr_e3 = true := by decide +kernel
theorem z0rc_e3 {L : Nat} {σ : Nat → Int32} {gh : zp_H → Int} {J : zp_H → Prop} (hw : zk_W z0R gh J zR_fz) (hh : ∀ s ∈ zr_l, zk_Ct L σ z0R gh J s) : zk_Ct L σ z0R gh J zr_e3 := zk_chk_ok hw (fun _ h => absurd h List.not_mem_nil) z0rt_e3
theorem z0rt_e4 : zk_chk z0R zR_fz [] [] 5000 zr_e4 = true := by decide +kernel
theorem z0rc_e4 {L : Nat} {σ : Nat → Int32} {gh : zp_H → Int} {J : zp_H → Prop} (hw : zk_W z0R gh J zR_fz) (hh : ∀ s ∈ zr_l, zk_Ct L σ z0R gh J s) : zk_Ct L σ z0R gh J zr_e4 := zk_chk_ok hw (fun _ h => absurd h List.not_mem_nil) z0rt_e4
theorem z0rt_e5 : zk_chk z0R zR_fz [] [] 5000 zr_e5 = true := by decide +kernel
theorem z0rc_e5 {L : Nat} {σ : Nat → Int32} {gh : zp_H → Int} {J : zp_H → Prop} (hw : zk_W z0R gh J zR_fz) (hh : ∀ s ∈ zr_l, zk_Ct L σ z0R gh J s) : zk_Ct L σ z0R gh J zr_e5 := zk_chk_ok hw (fun _ h => absurd h List.not_mem_nil) z0rt_e5
theorem z0rt_e6 : zk_chk z0R zR_fz [] [] 5000 zr_e6 = true := by decide +kernel
theorem z0rc_e6 {L : Nat} {σ : Nat → Int32} {gh : zp_H → Int} {J : zp_H → Prop} (hw : zk_W z0R gh J zR_fz) (hh : ∀ s ∈ zr_l, zk_Ct L σ z0R gh J s) : zk_Ct L σ z0R gh J zr_e6 := zk_chk_ok hw (fun _ h => absurd h List.not_mem_nil) z0rt_e6
theorem z0rt_e7 : zk_chk z0R zR_fz [zr_e6] [] 5000 zr_e7 = true := by decide +kernel
theorem z0rc_e7 {L : Nat} {σ : Nat → Int32} {gh : zp_H → Int} {J : zp_H → Prop} (hw : zk_W z0R gh J zR_fz) (hh : ∀ s ∈ zr_l, zk_Ct L σ z0R gh J s) : zk_Ct L σ z0R gh J zr_e7 := zk_chk_ok hw (List.forall_mem_cons.mpr ⟨z0rc_e6 hw hh, fun _ h => absurd h List.not_mem_nil⟩) z0rt_e7
theorem z0rt_e8 : zk_chk z0R zR_fz [zr_e7] [(46, [(.inr (72, 64), 0, 63, false), (.inr (72, 67), 0, 8, false), (.inr (72, 69), (-2147483648), 2147483647, false)], [], [], 1, true), (79, [(.inr (72, 64), 0, 63, false), (.inr (72, 68), 0, 2147483647, false), (.inr (72, 69), (-2147483648), 2147483647, false)], [], [], 1, true)] 5000 zr_e8 = true := by decide +kernel
theorem z0rc_e8 {L : Nat} {σ : Nat → Int32} {gh : zp_H → Int} {J : zp_H → Prop} (hw : zk_W z0R gh J zR_fz) (hh : ∀ s ∈ zr_l, zk_Ct L σ z0R gh J s) : zk_Ct L σ z0R gh J zr_e8 := zk_chk_ok hw (List.forall_mem_cons.mpr ⟨z0rc_e7 hw hh, fun _ h => absurd h List.not_mem_nil⟩) z0rt_e8
theorem z0rt_e9 : zk_chk z0R zR_fz [zr_e8] [] 5000 zr_e9 = true := by decide +kernel
theorem z0rc_e9 {L : Nat} {σ : Nat → Int32} {gh : zp_H → Int} {J : zp_H → Prop} (hw : zk_W z0R gh J zR_fz) (hh : ∀ s ∈ zr_l, zk_Ct L σ z0R gh J s) : zk_Ct L σ z0R gh J zr_e9 := zk_chk_ok hw (List.forall_mem_cons.mpr ⟨z0rc_e8 hw hh, fun _ h => absurd h List.not_mem_nil⟩) z0rt_e9
theorem z0rt_e10 : zk_chk z0R zR_fz [zr_e8, zr_e7] [(45, [(.inl 3, 0, 2147483647, false), (.inr (72, 64), 0, 63, false)], [], [], 0, true)] 5000 zr_e10 = true := by decide +kernel
theorem z0rc_e10 {L : Nat} {σ : Nat → Int32} {gh : zp_H → Int} {J : zp_H → Prop} (hw : zk_W z0R gh J zR_fz) (hh : ∀ s ∈ zr_l, zk_Ct L σ z0R gh J s) : zk_Ct L σ z0R gh J zr_e10 := zk_chk_ok hw (List.forall_mem_cons.mpr ⟨z0rc_e8 hw hh, List.forall_mem_cons.mpr ⟨z0rc_e7 hw hh, fun _ h => absurd h List.not_mem_nil⟩⟩) z0rt_e10
theorem z0rt_e11 : zk_chk z0R zR_fz [zr_e7] [(3, [(.inl 3, 0, 72, false)], [], [], 0, false), (13, [(.inl 6, 0, 64, false)], [], [], 0, true)] 5000 zr_e11 = true := by decide +kernel
theorem z0rc_e11 {L : Nat} {σ : Nat → Int32} {gh : zp_H → Int} {J : zp_H → Prop} (hw : zk_W z0R gh J zR_fz) (hh : ∀ s ∈ zr_l, zk_Ct L σ z0R gh J s) : zk_Ct L σ z0R gh J zr_e11 := zk_chk_ok hw (List.forall_mem_cons.mpr ⟨z0rc_e7 hw hh, fun _ h => absurd h List.not_mem_nil⟩) z0rt_e11
theorem z0rt_e12 : zk_chk z0R zR_fz [zr_e11] [(43, [(.inl 3, 0, 99, false)], [], [], 0, true), (80, [(.inl 3, 0, 8, false)], [], [], 0, true), (113, [(.inl 5, 0, 99, false)], [], [], 0, true), (137, [(.inl 5, 0, 4, false)], [], [], 0, true), (172, [(.inl 6, 0, 99, false)], [], [], 0, true), (202, [(.inl 6, 1, 12, false)], [], [], 0, true), (298, [(.inl 5, 0, 99, false)], [], [], 0, true), (336, [(.inl 5, 0, 99, false)], [], [], 0, true), (228, [(.inl 7, 0, 99, false)], [], [], 0, true)] 5000 zr_e12 = true := by decide +kernel
theorem z0rc_e12 {L : Nat} {σ : Nat → Int32} {gh : zp_H → Int} {J : zp_H → Prop} (hw : zk_W z0R gh J zR_fz) (hh : ∀ s ∈ zr_l, zk_Ct L σ z0R gh J s) : zk_Ct L σ z0R gh J zr_e12 := zk_chk_ok hw (List.forall_mem_cons.mpr ⟨z0rc_e11 hw hh, fun _ h => absurd h List.not_mem_nil⟩) z0rt_e12
theorem z0rt_e13 : zk_chk z0R zR_fz [] [] 5000 zr_e13 = true := by decide +kernel
theorem z0rc_e13 {L : Nat} {σ : Nat → Int32} {gh : zp_H → Int} {J : zp_H → Prop} (hw : zk_W z0R gh J zR_fz) (hh : ∀ s ∈ zr_l, zk_Ct L σ z0R gh J s) : zk_Ct L σ z0R gh J zr_e13 := zk_chk_ok hw (fun _ h => absurd h List.not_mem_nil) z0rt_e13
theorem z0rt_e14 : zk_chk z0R zR_fz [zr_e8] [(5, [(.inl 4, 0, 8, false)], [], [], 0, true)] 5000 zr_e14 = true := by decide +kernel
theorem z0rc_e14 {L : Nat} {σ : Nat → Int32} {gh : zp_H → Int} {J : zp_H → Prop} (hw : zk_W z0R gh J zR_fz) (hh : ∀ s ∈ zr_l, zk_Ct L σ z0R gh J s) : zk_Ct L σ z0R gh J zr_e14 := zk_chk_ok hw (List.forall_mem_cons.mpr ⟨z0rc_e8 hw hh, fun _ h => absurd h List.not_mem_nil⟩) z0rt_e14
theorem z0rt_e15 : zk_chk z0R zR_fz [zr_h4, zr_e14, zr_e7] [(60, [(.inl 5, 0, 60, false), (.inr (72, 64), 0, 63, false), (.inr (72, 66), 0, 4, false), (.inr (72, 69), (-2147483648), 2147483647, false)], [], [], 0, true)] 5000 zr_e15 = true := by decide +kernel
theorem z0rc_e15 {L : Nat} {σ : Nat → Int32} {gh : zp_H → Int} {J : zp_H → Prop} (hw : zk_W z0R gh J zR_fz) (hh : ∀ s ∈ zr_l, zk_Ct L σ z0R gh J s) : zk_Ct L σ z0R gh J zr_e15 := zk_chk_ok hw (List.forall_mem_cons.mpr ⟨hh _ (List.mem_of_getElem? (i := 4) rfl), List.forall_mem_cons.mpr ⟨z0rc_e14 hw hh, List.forall_mem_cons.mpr ⟨z0rc_e7 hw hh, fun _ h => absurd h List.not_mem_nil⟩⟩⟩) z0rt_e15
theorem z0rt_e16 : zk_chk z0R zR_fz [zr_e15] [] 5000 zr_e16 = true := by decide +kernel
theorem z0rc_e16 {L : Nat} {σ : Nat → Int32} {gh : zp_H → Int} {J : zp_H → Prop} (hw : zk_W z0R gh J zR_fz) (hh : ∀ s ∈ zr_l, zk_Ct L σ z0R gh J s) : zk_Ct L σ z0R gh J zr_e16 := zk_chk_ok hw (List.forall_mem_cons.mpr ⟨z0rc_e15 hw hh, fun _ h => absurd h List.not_mem_nil⟩) z0rt_e16
theorem z0rt_e17 : zk_chk z0R zR_fz [zr_e15] [(9, [(.inl 1, 0, 255, false), (.inl 2, 0, 4, false)], [], [], 1, true)] 5000 zr_e17 = true := by decide +kernel
theorem z0rc_e17 {L : Nat} {σ : Nat → Int32} {gh : zp_H → Int} {J : zp_H → Prop} (hw : zk_W z0R gh J zR_fz) (hh : ∀ s ∈ zr_l, zk_Ct L σ z0R gh J s) : zk_Ct L σ z0R gh J zr_e17 := zk_chk_ok hw (List.forall_mem_cons.mpr ⟨z0rc_e15 hw hh, fun _ h => absurd h List.not_mem_nil⟩) z0rt_e17
theorem z0rt_e18 : zk_chk z0R zR_fz [zr_h5, zr_h6, zr_e8] [(17, [(.inl 2, 0, 8, false)], [], [], 0, true), (48, [(.inl 2, 0, 9, false)], [], [], 0, true)] 5000 zr_e18 = true := by decide +kernel
theorem z0rc_e18 {L : Nat} {σ : Nat → Int32} {gh : zp_H → Int} {J : zp_H → Prop} (hw : zk_W z0R gh J zR_fz) (hh : ∀ s ∈ zr_l, zk_Ct L σ z0R gh J s) : zk_Ct L σ z0R gh J zr_e18 := zk_chk_ok hw (List.forall_mem_cons.mpr ⟨hh _ (List.mem_of_getElem? (i := 5) rfl), List.forall_mem_cons.mpr ⟨hh _ (List.mem_of_getElem? (i := 6) rfl), List.forall_mem_cons.mpr ⟨z0rc_e8 hw hh, fun _ h => absurd h List.not_mem_nil⟩⟩⟩) z0rt_e18
theorem z0rt_e19 : zk_chk z0R zR_fz [] [] 5000 zr_e19 = true := by decide +kernel
theorem z0rc_e19 {L : Nat} {σ : Nat → Int32} {gh : zp_H → Int} {J : zp_H → Prop} (hw : zk_W z0R gh J zR_fz) (hh : ∀ s ∈ zr_l, zk_Ct L σ z0R gh J s) : zk_Ct L σ z0R gh J zr_e19 := zk_chk_ok hw (fun _ h => absurd h List.not_mem_nil) z0rt_e19
theorem z0rt_e20 : zk_chk z0R zR_fz [zr_e8] [(39, [(.inl 3, (-1), 63, false), (.inl 4, (-2147483648), 2147483647, false), (.inl 5, 0, 64, false)], [], [], 2, true), (59, [(.inl 6, (-2147483648), 2147483647, false), (.inl 7, 0, 8, false)], [], [], 1, true)] 5000 zr_e20 = true := by decide +kernel
theorem z0rc_e20 {L : Nat} {σ : Nat → Int32} {gh : zp_H → Int} {J : zp_H → Prop} (hw : zk_W z0R gh J zR_fz) (hh : ∀ s ∈ zr_l, zk_Ct L σ z0R gh J s) : zk_Ct L σ z0R gh J zr_e20 := zk_chk_ok hw (List.forall_mem_cons.mpr ⟨z0rc_e8 hw hh, fun _ h => absurd h List.not_mem_nil⟩) z0rt_e20
theorem z0rt_e21 : zk_chk z0R zR_fz [zr_e8, zr_e14] [(35, [(.inl 6, 0, 8, false)], [], [], 0, true), (85, [(.inl 8, 0, 64, false)], [], [], 0, true)] 5000 zr_e21 = true := by decide +kernel
theorem z0rc_e21 {L : Nat} {σ : Nat → Int32} {gh : zp_H → Int} {J : zp_H → Prop} (hw : zk_W z0R gh J zR_fz) (hh : ∀ s ∈ zr_l, zk_Ct L σ z0R gh J s) : zk_Ct L σ z0R gh J zr_e21 := zk_chk_ok hw (List.forall_mem_cons.mpr ⟨z0rc_e8 hw hh, List.forall_mem_cons.mpr ⟨z0rc_e14 hw hh, fun _ h => absurd h List.not_mem_nil⟩⟩) z0rt_e21
theorem z0rt_e22 : zk_chk z0R zR_fz [] [(6, [(.inl 7, 0, 8, false)], [], [], 0, true)] 5000 zr_e22 = true := by decide +kernel
theorem z0rc_e22 {L : Nat} {σ : Nat → Int32} {gh : zp_H → Int} {J : zp_H → Prop} (hw : zk_W z0R gh J zR_fz) (hh : ∀ s ∈ zr_l, zk_Ct L σ z0R gh J s) : zk_Ct L σ z0R gh J zr_e22 := zk_chk_ok hw (fun _ h => absurd h List.not_mem_nil) z0rt_e22
theorem z0rt_e23 : zk_chk z0R zR_fz [zr_e22] [(38, [(.inl 3, (-1), 4, false), (.inl 4, (-1), 4, false), (.inl 5, (-1), 7, false), (.inl 8, 0, 5, false)], [], [], 3, true), (50, [(.inl 3, (-1), 4, false), (.inl 4, (-1), 4, false), (.inl 5, (-1), 7, false), (.inl 9, 0, 5, false)], [], [], 3, true), (62, [(.inl 3, (-1), 4, false), (.inl 4, (-1), 4, false), (.inl 5, (-1), 7, false), (.inl 10, 1, 8, false)], [], [], 3, true)] 5000 zr_e23 = true := by decide +kernel
theorem z0rc_e23 {L : Nat} {σ : Nat → Int32} {gh : zp_H → Int} {J : zp_H → Prop} (hw : zk_W z0R gh J zR_fz) (hh : ∀ s ∈ zr_l, zk_Ct L σ z0R gh J s) : zk_Ct L σ z0R gh J zr_e23 := zk_chk_ok hw (List.forall_mem_cons.mpr ⟨z0rc_e22 hw hh, fun _ h => absurd h List.not_mem_nil⟩) z0rt_e23
theorem z0rt_e24 : zk_chk z0R zR_fz [] [(3, [(.inl 5, 0, 8, false)], [], [], 0, true)] 5000 zr_e24 = true := by decide +kernel
theorem z0rc_e24 {L : Nat} {σ : Nat → Int32} {gh : zp_H → Int} {J : zp_H → Prop} (hw : zk_W z0R gh J zR_fz) (hh : ∀ s ∈ zr_l, zk_Ct L σ z0R gh J s) : zk_Ct L σ z0R gh J zr_e24 := zk_chk_ok hw (fun _ h => absurd h List.not_mem_nil) z0rt_e24
theorem z0rt_e25 : zk_chk z0R zR_fz [zr_e24] [(62, [(.inl 4, 0, 8, false), (.inl 5, (-1), 7, false), (.inl 6, (-1), 7, false), (.inl 7, 0, 8, false)], [], [], 3, true), (75, [(.inl 4, 0, 8, false), (.inl 5, (-1), 7, false), (.inl 6, (-1), 7, false), (.inl 8, 0, 8, false)], [], [], 3, true)] 5000 zr_e25 = true := by decide +kernel
theorem z0rc_e25 {L : Nat} {σ : Nat → Int32} {gh : zp_H → Int} {J : zp_H → Prop} (hw : zk_W z0R gh J zR_fz) (hh : ∀ s ∈ zr_l, zk_Ct L σ z0R gh J s) : zk_Ct L σ z0R gh J zr_e25 := zk_chk_ok hw (List.forall_mem_cons.mpr ⟨z0rc_e24 hw hh, fun _ h => absurd h List.not_mem_nil⟩) z0rt_e25
end
section
/-! ===== the reference once more, without the condition on what it reads (printed from the parts above) ===== -/
theorem z0R_W : zk_W z0R zg zJ zR_fz := by
  refine ⟨fun H H' _ h hJ => zJ_c (fun p k hf => (h p k hf).1) hJ, ?_, ?_, ?_, ?_, ?_, ?_, ⟨12, rfl⟩⟩
  · intro H H' h
    have a1 := (h 72 28 rfl).1
    have a2 := (h 72 30 rfl).1
    have a3 := (h 72 33 rfl).2
    unfold zg
    rw [a1, a2, a3]
  · intro H r hr
    have e : r = (-1, 20) := (Option.some.inj hr).symm
    rw [e]
    exact zg_in H
  · intro p k r hr
    have hp : p = 72 := by
      cases hb : Nat.beq 72 p with
      | true => exact (za_beq hb).symm
      | false =>
        have hr : zB_l2 zR_fr p k = some r := hr
        unfold zR_fr zB_l2 at hr
        rw [hb] at hr
        cases hr
    subst hp
    exact ⟨12, rfl⟩
  · intro c hc
    exact absurd hc List.not_mem_nil
  · intro p k h
    have h : (Nat.beq p 72).and _ = true := h
    have e := za_beq (Bool.and_eq_true_iff.mp h).1
    subst e
    exact ⟨12, rfl⟩
  · intro p k t n hp
    have hp : zB_sh[p]? = some (.inr (t, n)) := hp
    unfold zR_fz
    have hk : ∀ k, zk_inm zR_fl p k = false := by
      intro k
      cases hb : zk_inm zR_fl p k with
      | false => rfl
      | true =>
        obtain ⟨q, q1, q2⟩ := List.any_eq_true.mp hb
        have q3 := za_beq (Bool.and_eq_true_iff.mp q2).1
        have q4 : q.1 = 72 := by
          unfold zR_fl at q1
          rcases List.mem_cons.mp q1 with rfl | q1
          · rfl
          · rcases List.mem_cons.mp q1 with rfl | q1
            · rfl
            · rcases List.mem_cons.mp q1 with rfl | q1
              · rfl
              · exact absurd q1 List.not_mem_nil
        rw [← q3, q4] at hp
        cases hp
    rw [hk k, hk 0]
theorem z0R_dn {H : zp_H} (h : zk_Bs z0R zg zJ H) : zk_Bs zR0 zg zJ H := h
def z0R_cc (H : zp_H) : Prop := (H.2.1 72 23).toInt = 0 → ((2 ≤ (H.2.1 72 34).toInt ∧ (H.2.1 72 34).toInt ≤ 8) ∧ 2 ≤ (H.2.1 72 35).toInt ∧ (H.2.1 72 35).toInt ≤ 8) ∨ True
theorem z0R_up {H : zp_H} (h : zk_Bs zR0 zg zJ H) (_ : z0R_cc H) : zk_Bs z0R zg zJ H := h
theorem z0R_cn {H : zp_H} (_ : zk_Bs z0R zg zJ H) : z0R_cc H := fun _ => Or.inr trivial
end
section
/-! ===== the reference once more, without the condition on what it reads (printed from the parts above) ===== -/
/-- the word at hand (shown further on) -/
def z0x_KW (L : Nat) (σ : Nat → Int32) : Prop := ∀ (d : Nat) (H : zp_H), zk_Bs z0R zg zJ H → ∃ v : Int32, zp_Call L σ (d + 4) 177 [.inr (.inr (some 73))] H (.inl (some (.inl v)), H) ∧ v.toInt = zg H
end
