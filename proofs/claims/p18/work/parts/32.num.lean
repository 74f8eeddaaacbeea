/-! ===== numbers: bounds of what the machine reckons ===== -/
theorem zn_t (x : Int32) : x.toInt = if 2 * x.toBitVec.toNat < 2 ^ 32 then (x.toBitVec.toNat : Int) else (x.toBitVec.toNat : Int) - ((2 ^ 32 : Nat) : Int) := BitVec.toInt_eq_toNat_cond x.toBitVec
theorem zn_nn {x : Int32} (h : 0 ≤ x.toInt) : x.toInt = (x.toBitVec.toNat : Int) ∧ x.toBitVec.toNat < 2147483648 := by
  have h1 := zn_t x
  have h2 := x.toBitVec.isLt
  split at h1
  · exact ⟨h1, by omega⟩
  · omega
theorem zn_of {x : Int32} (h : x.toBitVec.toNat < 2147483648) : x.toInt = (x.toBitVec.toNat : Int) := by
  have h1 := zn_t x
  split at h1
  · exact h1
  · omega
theorem zn_andR (x : Int32) {y : Int32} (h : 0 ≤ y.toInt) : 0 ≤ (x &&& y).toInt ∧ (x &&& y).toInt ≤ y.toInt := by
  obtain ⟨h1, h2⟩ := zn_nn h
  have h3 : (x &&& y).toBitVec.toNat = x.toBitVec.toNat &&& y.toBitVec.toNat := by
    rw [Int32.toBitVec_and, BitVec.toNat_and]
  have h4 : x.toBitVec.toNat &&& y.toBitVec.toNat ≤ y.toBitVec.toNat := Nat.and_le_right
  have h5 := zn_of (x := x &&& y) (by omega)
  omega
theorem zn_andL {x : Int32} (y : Int32) (h : 0 ≤ x.toInt) : 0 ≤ (x &&& y).toInt ∧ (x &&& y).toInt ≤ x.toInt := by
  obtain ⟨h1, h2⟩ := zn_nn h
  have h3 : (x &&& y).toBitVec.toNat = x.toBitVec.toNat &&& y.toBitVec.toNat := by
    rw [Int32.toBitVec_and, BitVec.toNat_and]
  have h4 : x.toBitVec.toNat &&& y.toBitVec.toNat ≤ x.toBitVec.toNat := Nat.and_le_left
  have h5 := zn_of (x := x &&& y) (by omega)
  omega
theorem zn_or {x y : Int32} {k : Nat} (hk : k ≤ 31) (h1 : 0 ≤ x.toInt) (h2 : 0 ≤ y.toInt) (h3 : x.toInt < ((2 ^ k : Nat) : Int)) (h4 : y.toInt < ((2 ^ k : Nat) : Int)) : 0 ≤ (x ||| y).toInt ∧ (x ||| y).toInt < ((2 ^ k : Nat) : Int) := by
  obtain ⟨a1, a2⟩ := zn_nn h1
  obtain ⟨b1, b2⟩ := zn_nn h2
  have h5 : (x ||| y).toBitVec.toNat = x.toBitVec.toNat ||| y.toBitVec.toNat := by
    rw [Int32.toBitVec_or, BitVec.toNat_or]
  have h6 : x.toBitVec.toNat ||| y.toBitVec.toNat < 2 ^ k := Nat.or_lt_two_pow (by omega) (by omega)
  have h7 : 2 ^ k ≤ 2 ^ 31 := Nat.pow_le_pow_right (by decide) hk
  have h8 := zn_of (x := x ||| y) (by omega)
  omega
theorem zn_shl0 : ∀ c : Fin 31, ((1 : Int32) <<< (Int32.ofNat c.val &&& 31)).toInt = ((2 ^ c.val : Nat) : Int) := by decide +kernel
theorem zn_shl {y : Int32} (h1 : 0 ≤ y.toInt) (h2 : y.toInt ≤ 30) : ((1 : Int32) <<< (y &&& 31)).toInt = ((2 ^ y.toInt.toNat : Nat) : Int) := by
  have h3 : y = Int32.ofNat y.toInt.toNat := by
    apply Int32.toInt_inj.mp
    rw [Int32.toInt_ofNat_of_lt (by omega)]
    omega
  have h4 := zn_shl0 ⟨y.toInt.toNat, by omega⟩
  rw [← h3] at h4
  exact h4
theorem zn_add {x y : Int32} (h1 : -2147483648 ≤ x.toInt + y.toInt) (h2 : x.toInt + y.toInt ≤ 2147483647) : (x + y).toInt = x.toInt + y.toInt := by
  rw [Int32.toInt_add]
  exact za_bmod h1 h2
theorem zn_sub {x y : Int32} (h1 : -2147483648 ≤ x.toInt - y.toInt) (h2 : x.toInt - y.toInt ≤ 2147483647) : (x - y).toInt = x.toInt - y.toInt := by
  rw [Int32.toInt_sub]
  exact za_bmod h1 h2
theorem zn_mul {x y : Int32} (h1 : -2147483648 ≤ x.toInt * y.toInt) (h2 : x.toInt * y.toInt ≤ 2147483647) : (x * y).toInt = x.toInt * y.toInt := by
  rw [Int32.toInt_mul]
  exact za_bmod h1 h2
theorem zn_neg {x : Int32} (h1 : -2147483647 ≤ x.toInt) : (-x).toInt = 0 - x.toInt := by
  have h2 := za_int x
  rw [Int32.toInt_neg, za_bmod (by omega) (by omega)]
  omega
theorem zn_div {x y : Int32} (h1 : 0 ≤ x.toInt) (h2 : 0 < y.toInt) : (x / y).toInt = x.toInt / y.toInt ∧ 0 ≤ x.toInt / y.toInt ∧ x.toInt / y.toInt ≤ x.toInt := by
  have h3 : 0 ≤ x.toInt / y.toInt := Int.ediv_nonneg h1 (by omega)
  have h4 : x.toInt / y.toInt ≤ x.toInt := Int.ediv_le_self _ h1
  have h5 := za_int x
  refine ⟨?_, h3, h4⟩
  rw [Int32.toInt_div, Int.tdiv_eq_ediv_of_nonneg h1]
  exact za_bmod (by omega) (by omega)
theorem zn_rem {x y : Int32} (h1 : 0 ≤ x.toInt) (h2 : 0 < y.toInt) : 0 ≤ (x - x / y * y).toInt ∧ (x - x / y * y).toInt ≤ x.toInt ∧ (x - x / y * y).toInt < y.toInt := by
  obtain ⟨g1, g2, g3⟩ := zn_div h1 h2
  have h5 := za_int x
  have h6 : x.toInt / y.toInt * y.toInt ≤ x.toInt := Int.ediv_mul_le _ (by omega)
  have h7 : x.toInt < (x.toInt / y.toInt + 1) * y.toInt := Int.lt_ediv_add_one_mul_self _ h2
  have h8 : 0 ≤ x.toInt / y.toInt * y.toInt := Int.mul_nonneg g2 (by omega)
  rw [Int.add_mul, Int.one_mul] at h7
  have h9 : (x / y * y).toInt = x.toInt / y.toInt * y.toInt := by
    rw [zn_mul (by rw [g1]; omega) (by rw [g1]; omega), g1]
  have h10 : (x - x / y * y).toInt = x.toInt - x.toInt / y.toInt * y.toInt := by
    rw [zn_sub (by rw [h9]; omega) (by rw [h9]; omega), h9]
  omega
theorem zn_i2b (x : Int32) : -128 ≤ x.toInt8.toInt32.toInt ∧ x.toInt8.toInt32.toInt ≤ 127 := by
  rw [Int8.toInt_toInt32]
  have h1 := Int8.le_toInt x.toInt8
  have h2 := Int8.toInt_lt x.toInt8
  omega
theorem zn_i2b' {x : Int32} (h1 : -128 ≤ x.toInt) (h2 : x.toInt ≤ 127) : x.toInt8.toInt32 = x := by
  apply Int32.toInt_inj.mp
  rw [Int8.toInt_toInt32, Int32.toInt_toInt8]
  rw [Int.bmod_def]
  omega
/-! ===== reckoning on what is known of numbers ===== -/
def zk_Rs (τ : Nat → Int) (A : zk_A) (z : Int) (q : zk_A × zk_I) : Prop := ∃ τ', zk_ext A.1 τ τ' ∧ A.1 ≤ q.1.1 ∧ zk_N τ' q.1 ∧ q.1.2.2.1 = A.2.2.1 ∧ q.1.2.2.2.1 = A.2.2.2.1 ∧ q.2.1 ≤ q.1.1 ∧ z = zk_ev τ' q.2
section KN
variable {τ : Nat → Int} {A : zk_A} {z : Int} {a b r : zk_I} {x y : Int32} {q : zk_A × zk_I}
theorem zk_Rs_s (hN : zk_N τ A) (hr : r.1 ≤ A.1) (hz : z = zk_ev τ r) : zk_Rs τ A z (A, r) := ⟨τ, zk_ext_r τ, Nat.le_refl _, hN, rfl, rfl, hr, hz⟩
theorem zk_fresh_ok {lo hi : Int} {md : Nat} (hN : zk_N τ A) (h1 : lo ≤ z) (h2 : z ≤ hi) (h3 : (md : Int) ∣ z) : zk_Rs τ A z (zk_fresh A lo hi md) := by
  unfold zk_fresh
  cases h : za_ieq lo hi with
  | true =>
    have e := za_ieq_t h
    exact zk_Rs_s hN (Nat.zero_le _) (by show z = lo; omega)
  | false =>
    refine ⟨zk_up τ A.1 z, zk_up_x τ A.1 z, Nat.le_succ _, zk_new_N hN ⟨h1, h2, (fun h => Bool.noConfusion h), h3⟩, rfl, rfl, Nat.le_refl _, ?_⟩
    show z = zk_up τ A.1 z A.1 + 0
    unfold zk_up
    rw [if_pos rfl]
    omega
def zk_full (A : zk_A) : zk_A × zk_I := zk_fresh A (-2147483648) 2147483647 1
theorem zk_full_ok (hN : zk_N τ A) (x : Int32) : zk_Rs τ A x.toInt (zk_full A) := by
  have h := za_int x
  exact zk_fresh_ok hN h.1 h.2 (Int.one_dvd _)
def zk_memo (q : zk_A × zk_I) (op : Nat) (a b : zk_I) : zk_A × zk_I := ((q.1.1, q.1.2.1, q.1.2.2.1, q.1.2.2.2.1, (op, a, b, q.2) :: q.1.2.2.2.2), q.2)
theorem zk_memo_ok {op : Nat} (h : zk_Rs τ A z q) (ha : a.1 ≤ A.1) (hb : b.1 ≤ A.1) (hm : ∀ τ', zk_ext A.1 τ τ' → z = zk_ev τ' q.2 → zk_mo τ' (op, a, b, q.2)) : zk_Rs τ A z (zk_memo q op a b) := by
  obtain ⟨τ', h1, h2, h3, h4, h5, h6, h7⟩ := h
  refine ⟨τ', h1, h2, ⟨h3.1, fun m hmm => ?_⟩, h4, h5, h6, h7⟩
  rcases List.mem_cons.mp hmm with rfl | hmm
  · exact ⟨Nat.le_trans ha h2, Nat.le_trans hb h2, h6, hm τ' h1 h7⟩
  · exact h3.2 m hmm
def zk_eqI (a b : zk_I) : Bool := bif Nat.beq a.1 b.1 then za_ieq a.2 b.2 else false
theorem zk_eqI_t (h : zk_eqI a b = true) : a = b := by
  unfold zk_eqI at h
  cases h1 : Nat.beq a.1 b.1 with
  | false => rw [h1] at h; cases h
  | true =>
    rw [h1] at h
    exact Prod.ext (za_beq h1) (za_ieq_t h)
def zk_look (op : Nat) (a b : zk_I) : List (Nat × zk_I × zk_I × zk_I) → Option zk_I
  | [] => none
  | q :: l => bif Nat.beq q.1 op then bif zk_eqI q.2.1 a then bif zk_eqI q.2.2.1 b then some q.2.2.2 else zk_look op a b l else zk_look op a b l else zk_look op a b l
theorem zk_look_m {op : Nat} : ∀ {l : List (Nat × zk_I × zk_I × zk_I)}, zk_look op a b l = some r → (op, a, b, r) ∈ l
  | [], h => by cases h
  | q :: l, h => by
    unfold zk_look at h
    cases h1 : Nat.beq q.1 op with
    | false => rw [h1] at h; exact List.mem_cons_of_mem _ (zk_look_m h)
    | true =>
      cases h2 : zk_eqI q.2.1 a with
      | false => rw [h1, h2] at h; exact List.mem_cons_of_mem _ (zk_look_m h)
      | true =>
        cases h3 : zk_eqI q.2.2.1 b with
        | false => rw [h1, h2, h3] at h; exact List.mem_cons_of_mem _ (zk_look_m h)
        | true =>
          rw [h1, h2, h3] at h
          cases h
          have e1 := za_beq h1
          have e2 := zk_eqI_t h2
          have e3 := zk_eqI_t h3
          rw [← e1, ← e2, ← e3]
          exact List.mem_cons_self
theorem zk_ev_off (τ : Nat → Int) (a : zk_I) (c : Int) : zk_ev τ (a.1, a.2 + c) = zk_ev τ a + c := by
  obtain ⟨k, d⟩ := a
  cases k with
  | zero => rfl
  | succ j =>
    show τ j + (d + c) = τ j + d + c
    omega
theorem zk_ev_0 {τ : Nat → Int} (h : Nat.beq a.1 0 = true) : zk_ev τ a = a.2 := by
  have e := za_beq h
  obtain ⟨k, d⟩ := a
  have e : k = 0 := e
  subst e
  rfl
def zk_add (A : zk_A) (a b : zk_I) : Option (zk_A × zk_I) := match zk_rg A a, zk_rg A b with
  | some (la, ha), some (lb, hb) =>
    bif (Nat.beq b.1 0).and (za_in (la + b.2) (ha + b.2)) then some (A, (a.1, a.2 + b.2))
    else bif (Nat.beq a.1 0).and (za_in (lb + a.2) (hb + a.2)) then some (A, (b.1, b.2 + a.2))
    else match zk_look 0 a b A.2.2.2.2 with
      | some r => some (A, r)
      | none => bif za_in (la + lb) (ha + hb) then some (zk_memo (zk_fresh A (la + lb) (ha + hb) (Nat.gcd (zk_md A a) (zk_md A b))) 0 a b) else some (zk_full A)
  | _, _ => none
theorem zk_add_ok (hN : zk_N τ A) (ha : a.1 ≤ A.1) (hb : b.1 ≤ A.1) (hx : x.toInt = zk_ev τ a) (hy : y.toInt = zk_ev τ b) (h : zk_add A a b = some q) : zk_Rs τ A (x + y).toInt q := by
  unfold zk_add at h
  split at h
  · rename_i la h1 lb h2 g1 g2
    have r1 := zk_rg_ok hN g1
    have r2 := zk_rg_ok hN g2
    unfold zk_in at r1 r2
    dsimp only at r1 r2
    cases c1 : (Nat.beq b.1 0).and (za_in (la + b.2) (h1 + b.2)) with
    | true =>
      rw [c1] at h
      cases h
      obtain ⟨c2, c3⟩ := Bool.and_eq_true_iff.mp c1
      have e1 := zk_ev_0 (τ := τ) c2
      have e2 := za_in_t c3
      refine zk_Rs_s hN ha ?_
      rw [zk_ev_off, zn_add (by omega) (by omega)]
      omega
    | false =>
      rw [c1] at h
      cases c4 : (Nat.beq a.1 0).and (za_in (lb + a.2) (h2 + a.2)) with
      | true =>
        rw [c4] at h
        cases h
        obtain ⟨c2, c3⟩ := Bool.and_eq_true_iff.mp c4
        have e1 := zk_ev_0 (τ := τ) c2
        have e2 := za_in_t c3
        refine zk_Rs_s hN hb ?_
        rw [zk_ev_off, zn_add (by omega) (by omega)]
        omega
      | false =>
        rw [c4] at h
        simp only [cond_false] at h
        split at h
        · rename_i r hr
          cases h
          obtain ⟨-, -, m3, m4, m5, m6⟩ := hN.2 _ (zk_look_m hr)
          have m4 : zk_ev τ r = zk_ev τ a + zk_ev τ b := m4
          refine zk_Rs_s hN m3 ?_
          dsimp only at m5 m6
          rw [zn_add (by omega) (by omega)]
          omega
        · cases c5 : za_in (la + lb) (h1 + h2) with
          | true =>
            rw [c5] at h
            cases h
            have e2 := za_in_t c5
            have e3 : (x + y).toInt = zk_ev τ a + zk_ev τ b := by rw [zn_add (by omega) (by omega)]; omega
            refine zk_memo_ok (zk_fresh_ok hN (by omega) (by omega) ?_) ha hb (fun τ' hτ hz => ?_)
            · rw [e3]
              exact Int.dvd_add (Int.dvd_trans (Int.natCast_dvd_natCast.mpr (Nat.gcd_dvd_left _ _)) (zk_md_ok hN)) (Int.dvd_trans (Int.natCast_dvd_natCast.mpr (Nat.gcd_dvd_right _ _)) (zk_md_ok hN))
            · have f1 := zk_ev_x ha hτ
              have f2 := zk_ev_x hb hτ
              generalize zk_fresh A (la + lb) (h1 + h2) (Nat.gcd (zk_md A a) (zk_md A b)) = q9 at hz
              show zk_ev τ' q9.2 = zk_ev τ' a + zk_ev τ' b ∧ -2147483648 ≤ zk_ev τ' q9.2 ∧ zk_ev τ' q9.2 ≤ 2147483647
              exact ⟨by omega, by omega, by omega⟩
          | false =>
            rw [c5] at h
            cases h
            exact zk_full_ok hN _
  · cases h
def zk_sub (A : zk_A) (a b : zk_I) : Option (zk_A × zk_I) := match zk_rg A a, zk_rg A b with
  | some (la, ha), some (lb, hb) =>
    bif (Nat.beq b.1 0).and (za_in (la - b.2) (ha - b.2)) then some (A, (a.1, a.2 + -b.2))
    else bif (Nat.beq a.1 b.1).and (za_in (a.2 - b.2) (a.2 - b.2)) then some (A, (0, a.2 - b.2))
    else match zk_look 1 a b A.2.2.2.2 with
      | some r => some (A, r)
      | none => bif za_in (la - hb) (ha - lb) then some (zk_memo (zk_fresh A (la - hb) (ha - lb) 1) 1 a b) else some (zk_full A)
  | _, _ => none
theorem zk_ev_d {τ : Nat → Int} (h : Nat.beq a.1 b.1 = true) : zk_ev τ a - zk_ev τ b = a.2 - b.2 := by
  have e := za_beq h
  obtain ⟨k, c⟩ := a
  obtain ⟨k', d⟩ := b
  have e : k = k' := e
  subst e
  cases k with
  | zero => rfl
  | succ j =>
    show τ j + c - (τ j + d) = c - d
    omega
theorem zk_sub_ok (hN : zk_N τ A) (ha : a.1 ≤ A.1) (hb : b.1 ≤ A.1) (hx : x.toInt = zk_ev τ a) (hy : y.toInt = zk_ev τ b) (h : zk_sub A a b = some q) : zk_Rs τ A (x - y).toInt q := by
  unfold zk_sub at h
  split at h
  · rename_i la h1 lb h2 g1 g2
    have r1 := zk_rg_ok hN g1
    have r2 := zk_rg_ok hN g2
    unfold zk_in at r1 r2
    dsimp only at r1 r2
    cases c1 : (Nat.beq b.1 0).and (za_in (la - b.2) (h1 - b.2)) with
    | true =>
      rw [c1] at h
      cases h
      obtain ⟨c2, c3⟩ := Bool.and_eq_true_iff.mp c1
      have e1 := zk_ev_0 (τ := τ) c2
      have e2 := za_in_t c3
      refine zk_Rs_s hN ha ?_
      rw [zk_ev_off, zn_sub (by omega) (by omega)]
      omega
    | false =>
      rw [c1] at h
      cases c4 : (Nat.beq a.1 b.1).and (za_in (a.2 - b.2) (a.2 - b.2)) with
      | true =>
        rw [c4] at h
        cases h
        obtain ⟨c2, c3⟩ := Bool.and_eq_true_iff.mp c4
        have e1 := zk_ev_d (τ := τ) c2
        have e2 := za_in_t c3
        refine zk_Rs_s hN (Nat.zero_le _) ?_
        show (x - y).toInt = a.2 - b.2
        rw [zn_sub (by omega) (by omega)]
        omega
      | false =>
        rw [c4] at h
        simp only [cond_false] at h
        split at h
        · rename_i r hr
          cases h
          obtain ⟨-, -, m3, m4, m5, m6⟩ := hN.2 _ (zk_look_m hr)
          have m4 : zk_ev τ r = zk_ev τ a - zk_ev τ b := m4
          refine zk_Rs_s hN m3 ?_
          dsimp only at m5 m6
          rw [zn_sub (by omega) (by omega)]
          omega
        · cases c5 : za_in (la - h2) (h1 - lb) with
          | true =>
            rw [c5] at h
            cases h
            have e2 := za_in_t c5
            have e3 : (x - y).toInt = zk_ev τ a - zk_ev τ b := by rw [zn_sub (by omega) (by omega)]; omega
            refine zk_memo_ok (zk_fresh_ok hN (by omega) (by omega) (Int.one_dvd _)) ha hb (fun τ' hτ hz => ?_)
            have f1 := zk_ev_x ha hτ
            have f2 := zk_ev_x hb hτ
            generalize zk_fresh A (la - h2) (h1 - lb) 1 = q9 at hz
            show zk_ev τ' q9.2 = zk_ev τ' a - zk_ev τ' b ∧ -2147483648 ≤ zk_ev τ' q9.2 ∧ zk_ev τ' q9.2 ≤ 2147483647
            exact ⟨by omega, by omega, by omega⟩
          | false =>
            rw [c5] at h
            cases h
            exact zk_full_ok hN _
  · cases h
def zk_mul (A : zk_A) (a b : zk_I) : Option (zk_A × zk_I) := match zk_rg A a, zk_rg A b with
  | some (la, ha), some (lb, hb) => bif (za_ile 0 la).and ((za_ile 0 lb).and (za_ile (ha * hb) 2147483647)) then some (zk_fresh A (la * lb) (ha * hb) (zk_md A a * zk_md A b)) else some (zk_full A)
  | _, _ => none
theorem zk_mul_ok (hN : zk_N τ A) (hx : x.toInt = zk_ev τ a) (hy : y.toInt = zk_ev τ b) (h : zk_mul A a b = some q) : zk_Rs τ A (x * y).toInt q := by
  unfold zk_mul at h
  split at h
  · rename_i la h1 lb h2 g1 g2
    have r1 := zk_rg_ok hN g1
    have r2 := zk_rg_ok hN g2
    unfold zk_in at r1 r2
    dsimp only at r1 r2
    cases c1 : (za_ile 0 la).and ((za_ile 0 lb).and (za_ile (h1 * h2) 2147483647)) with
    | true =>
      rw [c1] at h
      cases h
      obtain ⟨c2, c3⟩ := Bool.and_eq_true_iff.mp c1
      obtain ⟨c3, c4⟩ := Bool.and_eq_true_iff.mp c3
      have c2 := za_ile_t c2
      have c3 := za_ile_t c3
      have c4 := za_ile_t c4
      have e1 : la * lb ≤ zk_ev τ a * zk_ev τ b := Int.mul_le_mul r1.1 r2.1 c3 (by omega)
      have e2 : zk_ev τ a * zk_ev τ b ≤ h1 * h2 := Int.mul_le_mul r1.2 r2.2 (by omega) (by omega)
      have e3 : 0 ≤ la * lb := Int.mul_nonneg c2 c3
      have e4 : (x * y).toInt = zk_ev τ a * zk_ev τ b := by
        rw [zn_mul (by rw [hx, hy]; omega) (by rw [hx, hy]; omega), hx, hy]
      refine zk_fresh_ok hN (by omega) (by omega) ?_
      rw [e4, Int.natCast_mul]
      exact Int.mul_dvd_mul (zk_md_ok hN) (zk_md_ok hN)
    | false =>
      rw [c1] at h
      cases h
      exact zk_full_ok hN _
  · cases h
def zk_and (A : zk_A) (a b : zk_I) : Option (zk_A × zk_I) := match zk_rg A a, zk_rg A b with
  | some (la, ha), some (lb, hb) => match zk_look 2 a b A.2.2.2.2 with
    | some r => some (A, r)
    | none => bif za_ile 0 lb then bif za_ile 0 la then bif za_ile ha hb then some (zk_memo (zk_fresh A 0 ha 1) 2 a b) else some (zk_memo (zk_fresh A 0 hb 1) 2 a b) else some (zk_memo (zk_fresh A 0 hb 1) 2 a b)
      else bif za_ile 0 la then some (zk_memo (zk_fresh A 0 ha 1) 2 a b) else some (zk_memo (zk_full A) 2 a b)
  | _, _ => none
theorem zk_and_ok (hN : zk_N τ A) (ha : a.1 ≤ A.1) (hb : b.1 ≤ A.1) (hx : x.toInt = zk_ev τ a) (hy : y.toInt = zk_ev τ b) (h : zk_and A a b = some q) : zk_Rs τ A (x &&& y).toInt q := by
  have ex : Int32.ofInt (zk_ev τ a) = x := by rw [← hx]; exact Int32.ofInt_toInt x
  have ey : Int32.ofInt (zk_ev τ b) = y := by rw [← hy]; exact Int32.ofInt_toInt y
  have hm : ∀ {r : zk_I}, ∀ τ', zk_ext A.1 τ τ' → (x &&& y).toInt = zk_ev τ' r → zk_mo τ' (2, a, b, r) := by
    intro r τ' hτ hz
    show zk_ev τ' r = (Int32.ofInt (zk_ev τ' a) &&& Int32.ofInt (zk_ev τ' b)).toInt
    rw [zk_ev_x ha hτ, zk_ev_x hb hτ, ex, ey]
    exact hz.symm
  unfold zk_and at h
  split at h
  · rename_i la h1 lb h2 g1 g2
    have r1 := zk_rg_ok hN g1
    have r2 := zk_rg_ok hN g2
    unfold zk_in at r1 r2
    dsimp only at r1 r2
    split at h
    · rename_i r hr
      cases h
      obtain ⟨-, -, m3, m4⟩ := hN.2 _ (zk_look_m hr)
      have m4 : zk_ev τ r = (Int32.ofInt (zk_ev τ a) &&& Int32.ofInt (zk_ev τ b)).toInt := m4
      exact zk_Rs_s hN m3 (by rw [m4, ex, ey])
    · cases c1 : za_ile 0 lb with
      | true =>
        have c1' := za_ile_t c1
        have z1 := zn_andR x (y := y) (by omega)
        rw [c1] at h
        cases c2 : za_ile 0 la with
        | true =>
          have c2' := za_ile_t c2
          have z2 := zn_andL (x := x) y (by omega)
          rw [c2] at h
          cases c3 : za_ile h1 h2 with
          | true =>
            rw [c3] at h
            cases h
            exact zk_memo_ok (zk_fresh_ok hN (by omega) (by omega) (Int.one_dvd _)) ha hb hm
          | false =>
            rw [c3] at h
            cases h
            exact zk_memo_ok (zk_fresh_ok hN (by omega) (by omega) (Int.one_dvd _)) ha hb hm
        | false =>
          rw [c2] at h
          cases h
          exact zk_memo_ok (zk_fresh_ok hN (by omega) (by omega) (Int.one_dvd _)) ha hb hm
      | false =>
        rw [c1] at h
        cases c2 : za_ile 0 la with
        | true =>
          have c2' := za_ile_t c2
          have z2 := zn_andL (x := x) y (by omega)
          rw [c2] at h
          cases h
          exact zk_memo_ok (zk_fresh_ok hN (by omega) (by omega) (Int.one_dvd _)) ha hb hm
        | false =>
          rw [c2] at h
          cases h
          exact zk_memo_ok (zk_full_ok hN _) ha hb hm
  · cases h
/-- up to 2 ^ k - 1 -/
def zk_pw (h : Int) : Nat := bif za_ile h 1 then 1 else bif za_ile h 255 then 8 else bif za_ile h 65535 then 16 else 31
def zk_or (A : zk_A) (a b : zk_I) : Option (zk_A × zk_I) := match zk_rg A a, zk_rg A b with
  | some (la, ha), some (lb, hb) => bif (za_ile 0 la).and (za_ile 0 lb) then bif (za_ile ha 255).and (za_ile hb 255) then some (zk_fresh A 0 255 1) else some (zk_full A) else some (zk_full A)
  | _, _ => none
theorem zk_or_ok (hN : zk_N τ A) (hx : x.toInt = zk_ev τ a) (hy : y.toInt = zk_ev τ b) (h : zk_or A a b = some q) : zk_Rs τ A (x ||| y).toInt q := by
  unfold zk_or at h
  split at h
  · rename_i la h1 lb h2 g1 g2
    have r1 := zk_rg_ok hN g1
    have r2 := zk_rg_ok hN g2
    unfold zk_in at r1 r2
    dsimp only at r1 r2
    cases c1 : (za_ile 0 la).and (za_ile 0 lb) with
    | true =>
      rw [c1] at h
      cases c2 : (za_ile h1 255).and (za_ile h2 255) with
      | true =>
        rw [c2] at h
        cases h
        obtain ⟨d1, d2⟩ := Bool.and_eq_true_iff.mp c1
        obtain ⟨d3, d4⟩ := Bool.and_eq_true_iff.mp c2
        have d1 := za_ile_t d1
        have d2 := za_ile_t d2
        have d3 := za_ile_t d3
        have d4 := za_ile_t d4
        have z := zn_or (x := x) (y := y) (k := 8) (by decide) (by omega) (by omega) (by omega) (by omega)
        exact zk_fresh_ok hN (by omega) (by omega) (Int.one_dvd _)
      | false =>
        rw [c2] at h
        cases h
        exact zk_full_ok hN _
    | false =>
      rw [c1] at h
      cases h
      exact zk_full_ok hN _
  · cases h
def zk_shl (A : zk_A) (a b : zk_I) : Option (zk_A × zk_I) := match zk_rg A b with
  | some (lb, hb) => bif (zk_eqI a (0, 1)).and ((za_ile 0 lb).and (za_ile hb 30)) then some (zk_fresh A ((2 ^ lb.toNat : Nat) : Int) ((2 ^ hb.toNat : Nat) : Int) 1) else some (zk_full A)
  | none => none
theorem zk_shl_ok (hN : zk_N τ A) (hx : x.toInt = zk_ev τ a) (hy : y.toInt = zk_ev τ b) (h : zk_shl A a b = some q) : zk_Rs τ A (x <<< (y &&& 31)).toInt q := by
  unfold zk_shl at h
  split at h
  · rename_i lb h2 g2
    have r2 := zk_rg_ok hN g2
    unfold zk_in at r2
    dsimp only at r2
    cases c1 : (zk_eqI a (0, 1)).and ((za_ile 0 lb).and (za_ile h2 30)) with
    | true =>
      rw [c1] at h
      cases h
      obtain ⟨d1, d2⟩ := Bool.and_eq_true_iff.mp c1
      obtain ⟨d2, d3⟩ := Bool.and_eq_true_iff.mp d2
      have d1 := zk_eqI_t d1
      have d2 := za_ile_t d2
      have d3 := za_ile_t d3
      subst d1
      have hx1 : x = 1 := Int32.toInt_inj.mp hx
      subst hx1
      rw [zn_shl (by omega) (by omega)]
      have e1 : 2 ^ lb.toNat ≤ 2 ^ y.toInt.toNat := Nat.pow_le_pow_right (by decide) (by omega)
      have e2 : 2 ^ y.toInt.toNat ≤ 2 ^ h2.toNat := Nat.pow_le_pow_right (by decide) (by omega)
      exact zk_fresh_ok hN (Int.ofNat_le.mpr e1) (Int.ofNat_le.mpr e2) (Int.one_dvd _)
    | false =>
      rw [c1] at h
      cases h
      exact zk_full_ok hN _
  · cases h
/-- can't it be 0? -/
def zk_nz (A : zk_A) (a : zk_I) : Bool := match zk_rg A a with
  | some (lo, hi) => bif za_ile 1 lo then true else bif za_ile hi (-1) then true else match a.1 with
    | 0 => false
    | j + 1 => bif za_ieq a.2 0 then match zk_lk A.2.1 j with
      | some e => e.2.2.1
      | none => false
      else false
  | none => false
theorem zk_nz_ok (hN : zk_N τ A) (h : zk_nz A a = true) : zk_ev τ a ≠ 0 := by
  unfold zk_nz at h
  split at h
  · rename_i lo hi g
    have r := zk_rg_ok hN g
    unfold zk_in at r
    dsimp only at r
    cases c1 : za_ile 1 lo with
    | true => have := za_ile_t c1; omega
    | false =>
      rw [c1] at h
      cases c2 : za_ile hi (-1) with
      | true => have := za_ile_t c2; omega
      | false =>
        rw [c2] at h
        simp only [cond_false] at h
        obtain ⟨k, c⟩ := a
        cases k with
        | zero => cases h
        | succ j =>
          dsimp only at h
          cases c3 : za_ieq c 0 with
          | false => rw [c3] at h; cases h
          | true =>
            rw [c3] at h
            have e3 := za_ieq_t c3
            simp only [cond_true] at h
            split at h
            · rename_i e he
              obtain ⟨-, -, -, g3, -⟩ := hN.1 _ (zk_lk_m he)
              have g3 := g3 h
              show τ j + c ≠ 0
              dsimp only at g3
              omega
            · cases h
  · cases h
def zk_div (A : zk_A) (a b : zk_I) : Option (zk_A × zk_I) := bif zk_nz A b then match zk_rg A a, zk_rg A b with
  | some (la, ha), some (lb, _) => bif (za_ile 0 la).and (za_ile 1 lb) then some (zk_fresh A 0 ha 1) else some (zk_full A)
  | _, _ => none
  else none
def zk_rem (A : zk_A) (a b : zk_I) : Option (zk_A × zk_I) := bif zk_nz A b then match zk_rg A a, zk_rg A b with
  | some (la, ha), some (lb, hb) => bif (za_ile 0 la).and (za_ile 1 lb) then some (zk_fresh A 0 (bif za_ile ha (hb - 1) then ha else hb - 1) 1) else some (zk_full A)
  | _, _ => none
  else none
theorem zk_div_ok (hN : zk_N τ A) (hx : x.toInt = zk_ev τ a) (hy : y.toInt = zk_ev τ b) (h : zk_div A a b = some q) : y ≠ 0 ∧ zk_Rs τ A (x / y).toInt q := by
  unfold zk_div at h
  obtain ⟨h0, h⟩ := za_bif h
  have n0 := zk_nz_ok hN h0
  refine ⟨fun z => n0 (by rw [← hy, z]; rfl), ?_⟩
  split at h
  · rename_i la h1 lb h2 g1 g2
    have r1 := zk_rg_ok hN g1
    have r2 := zk_rg_ok hN g2
    unfold zk_in at r1 r2
    dsimp only at r1 r2
    cases c1 : (za_ile 0 la).and (za_ile 1 lb) with
    | true =>
      rw [c1] at h
      cases h
      obtain ⟨d1, d2⟩ := Bool.and_eq_true_iff.mp c1
      have d1 := za_ile_t d1
      have d2 := za_ile_t d2
      obtain ⟨z1, z2, z3⟩ := zn_div (x := x) (y := y) (by omega) (by omega)
      exact zk_fresh_ok hN (by omega) (by omega) (Int.one_dvd _)
    | false =>
      rw [c1] at h
      cases h
      exact zk_full_ok hN _
  · cases h
theorem zk_rem_ok (hN : zk_N τ A) (hx : x.toInt = zk_ev τ a) (hy : y.toInt = zk_ev τ b) (h : zk_rem A a b = some q) : y ≠ 0 ∧ zk_Rs τ A (x - x / y * y).toInt q := by
  unfold zk_rem at h
  obtain ⟨h0, h⟩ := za_bif h
  have n0 := zk_nz_ok hN h0
  refine ⟨fun z => n0 (by rw [← hy, z]; rfl), ?_⟩
  split at h
  · rename_i la h1 lb h2 g1 g2
    have r1 := zk_rg_ok hN g1
    have r2 := zk_rg_ok hN g2
    unfold zk_in at r1 r2
    dsimp only at r1 r2
    cases c1 : (za_ile 0 la).and (za_ile 1 lb) with
    | true =>
      rw [c1] at h
      cases h
      obtain ⟨d1, d2⟩ := Bool.and_eq_true_iff.mp c1
      have d1 := za_ile_t d1
      have d2 := za_ile_t d2
      obtain ⟨z1, z2, z3⟩ := zn_rem (x := x) (y := y) (by omega) (by omega)
      refine zk_fresh_ok hN (by omega) ?_ (Int.one_dvd _)
      cases c3 : za_ile h1 (h2 - 1) with
      | true => show _ ≤ h1; omega
      | false => show _ ≤ h2 - 1; omega
    | false =>
      rw [c1] at h
      cases h
      exact zk_full_ok hN _
  · cases h
def zk_i2b (A : zk_A) (a : zk_I) : Option (zk_A × zk_I) := match zk_rg A a with
  | some (lo, hi) => bif (za_ile (-128) lo).and (za_ile hi 127) then some (A, a) else some (zk_fresh A (-128) 127 1)
  | none => none
theorem zk_i2b_ok (hN : zk_N τ A) (ha : a.1 ≤ A.1) (hx : x.toInt = zk_ev τ a) (h : zk_i2b A a = some q) : zk_Rs τ A x.toInt8.toInt32.toInt q := by
  unfold zk_i2b at h
  split at h
  · rename_i lo hi g
    have r := zk_rg_ok hN g
    unfold zk_in at r
    dsimp only at r
    cases c1 : (za_ile (-128) lo).and (za_ile hi 127) with
    | true =>
      rw [c1] at h
      cases h
      obtain ⟨d1, d2⟩ := Bool.and_eq_true_iff.mp c1
      have d1 := za_ile_t d1
      have d2 := za_ile_t d2
      rw [zn_i2b' (by omega) (by omega)]
      exact zk_Rs_s hN ha hx
    | false =>
      rw [c1] at h
      cases h
      have z := zn_i2b x
      exact zk_fresh_ok hN z.1 z.2 (Int.one_dvd _)
  · cases h
def zk_neg (A : zk_A) (a : zk_I) : Option (zk_A × zk_I) := match zk_rg A a with
  | some (lo, _) => bif za_ile (-2147483647) lo then zk_sub A (0, 0) a else some (zk_full A)
  | none => none
theorem zk_neg_ok (hN : zk_N τ A) (ha : a.1 ≤ A.1) (hx : x.toInt = zk_ev τ a) (h : zk_neg A a = some q) : zk_Rs τ A (-x).toInt q := by
  unfold zk_neg at h
  split at h
  · rename_i lo hi g
    have r := zk_rg_ok hN g
    unfold zk_in at r
    dsimp only at r
    cases c1 : za_ile (-2147483647) lo with
    | true =>
      rw [c1] at h
      have d1 := za_ile_t c1
      have z := zk_sub_ok (x := 0) (y := x) hN (Nat.zero_le _) ha rfl hx h
      have h9 := za_int x
      rw [zn_sub (by show _ ≤ 0 - x.toInt; omega) (by show 0 - x.toInt ≤ _; omega)] at z
      rw [zn_neg (by omega)]
      exact z
    | false =>
      rw [c1] at h
      cases h
      exact zk_full_ok hN _
  · cases h
end KN
