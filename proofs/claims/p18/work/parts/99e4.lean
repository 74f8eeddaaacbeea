/-! ===== the same of the long ===== -/
theorem yN_add (a b : Int64) : (a + b).toBitVec.toNat = (a.toBitVec.toNat + b.toBitVec.toNat) % 2 ^ 64 := by
  rw [Int64.toBitVec_add, BitVec.toNat_add]
theorem yN_sub (a b : Int64) : (a - b).toBitVec.toNat = (2 ^ 64 - b.toBitVec.toNat + a.toBitVec.toNat) % 2 ^ 64 := by
  rw [Int64.toBitVec_sub, BitVec.toNat_sub]
theorem yN_and (a b : Int64) : (a &&& b).toBitVec.toNat = a.toBitVec.toNat &&& b.toBitVec.toNat := by
  rw [Int64.toBitVec_and, BitVec.toNat_and]
theorem yN_or (a b : Int64) : (a ||| b).toBitVec.toNat = a.toBitVec.toNat ||| b.toBitVec.toNat := by
  rw [Int64.toBitVec_or, BitVec.toNat_or]
theorem yN_ushr {x : Int64} {s : Int32} {m D : Nat} (h : (s.toInt64.toUInt64 &&& Int64.toUInt64 63).toNat % 64 = m) (hD : 2 ^ m = D) : (za_ushr0 x s).toBitVec.toNat = x.toBitVec.toNat / D := by
  show (x.toUInt64 >>> (s.toInt64.toUInt64 &&& Int64.toUInt64 63)).toNat = _
  rw [UInt64.toNat_shiftRight, h, Nat.shiftRight_eq_div_pow, hD]
  rfl
theorem yN_f (g : Int64) : (g.toInt32 &&& Int32.ofInt 127).toInt = ((g.toBitVec.toNat % 128 : Nat) : Int) := by
  have e : (g.toInt32 &&& Int32.ofInt 127).toBitVec.toNat = g.toBitVec.toNat % 128 := by
    rw [Int32.toBitVec_and, BitVec.toNat_and, show (Int32.ofInt 127).toBitVec.toNat = 2 ^ 7 - 1 from by decide, Nat.and_two_pow_sub_one_eq_mod, Int64.toBitVec_toInt32, BitVec.signExtend_eq_setWidth_of_le _ (by decide), BitVec.toNat_setWidth]
    omega
  rw [← Int32.toInt_toBitVec, BitVec.toInt_eq_toNat_of_lt (by rw [e]; omega), e]
theorem y_and15 : ∀ x, x < 16 → x &&& 15 = x := by decide +kernel
theorem y_dv {r m q : Nat} (hm : 0 < m) (h : r < m) : (r + m * q) / m = q := by
  rw [Nat.add_mul_div_left _ _ hm, Nat.div_eq_of_lt h, Nat.zero_add]
theorem y_256 {x z : Nat} : x + 16 * (0 + 16 * z) = x + 256 * z := by omega
theorem y_ar {b0 b1 b2 b3 b4 b5 b6 b7 C D1 D2 D3 D4 D5 D6 D7 E F : Nat} (h : b0 ≤ 8 ∧ b1 ≤ 8 ∧ b2 ≤ 8 ∧ b3 ≤ 8 ∧ b4 ≤ 8 ∧ b5 ≤ 8 ∧ b6 ≤ 8 ∧ b7 ≤ 8) (h0 : C = b0 + 256 * D1) (h1 : D1 = b1 + 256 * D2) (h2 : D2 = b2 + 256 * D3) (h3 : D3 = b3 + 256 * D4) (h4 : D4 = b4 + 256 * D5) (h5 : D5 = b5 + 256 * D6) (h6 : D6 = b6 + 256 * D7) (h7 : D7 = b7 + 256 * 0) (hE : E = C + C / 256) (hF : F = E + E / 65536) : F < 2 ^ 63 ∧ E < 2 ^ 62 ∧ (F + F / 4294967296) % 128 = b0 + b1 + b2 + b3 + b4 + b5 + b6 + b7 := by
  have c1 : C / 256 = D1 := by
    rw [h0]
    exact y_dv (by decide) (by omega)
  rw [c1] at hE
  have e0 : E = (b0 + b1 + 256 * (b1 + b2)) + 65536 * (D2 + D3) := by
    clear h hF c1 h3 h4 h5 h6 h7
    omega
  have e1 : E / 65536 = D2 + D3 := by
    rw [e0]
    exact y_dv (by decide) (by clear hE hF e0 h0 h1 h2 h3 h4 h5 h6 h7 c1; omega)
  rw [e1] at hF
  have k1 : D2 + D3 = (b2 + b3) + 256 * (b3 + b4) + 65536 * (D4 + D5) := by
    clear h hF c1 h0 h1 h5 h6 h7 hE e0 e1
    omega
  have k2 : D4 + D5 = (b4 + b5) + 256 * (b5 + b6) + 65536 * (D6 + D7) := by
    clear h hF c1 h0 h1 h2 h3 h7 hE e0 e1 k1
    omega
  have f0 : F = ((b0 + b1 + b2 + b3) + 256 * (b1 + b2 + b3 + b4) + 65536 * (b2 + b3 + b4 + b5) + 16777216 * (b3 + b4 + b5 + b6)) + 4294967296 * (D4 + D5 + D6 + D7) := by
    clear h c1 h0 h1 h2 h3 h4 h5 h6 h7 hE e1
    omega
  have f1 : F / 4294967296 = D4 + D5 + D6 + D7 := by
    rw [f0]
    exact y_dv (by decide) (by clear hE hF e0 e1 h0 h1 h2 h3 h4 h5 h6 h7 c1 k1 k2 f0; omega)
  have b : D2 ≤ 10000000000000 := by
    clear hE hF e0 e1 h0 h1 c1 k1 k2 f0 f1
    omega
  refine ⟨by clear hE h0 c1 f0 f1 e1 k2 h4 h5 h6 h7 k1; omega, by clear hF c1 f0 f1 e1 k2 h4 h5 h6 h7 k1 hE; omega, ?_⟩
  have g0 : F + F / 4294967296 = (b0 + b1 + b2 + b3 + b4 + b5 + b6 + b7) + 128 * (2 * (b1 + b2 + b3 + b4) + 512 * (b2 + b3 + b4 + b5) + 131072 * (b3 + b4 + b5 + b6) + 33554432 * (D4 + D5 + D6 + D7) + 2 * (D5 + D6 + D7)) := by
    rw [f1, f0]
    clear h hE hF h0 h1 h2 h3 c1 e0 e1 f0 f1 k1 k2 b
    omega
  rw [g0, Nat.add_mul_mod_self_left]
  exact Nat.mod_eq_of_lt (by clear hE hF h0 h1 h2 h3 h4 h5 h6 h7 c1 e0 e1 f0 f1 g0 k1 k2 b; omega)
theorem yBC_s (u : Int64) {U : Nat} (eU : u.toBitVec.toNat = U) : (yBC u).toInt = ((yT (yf 0 U) + yT (yf 1 U) + yT (yf 2 U) + yT (yf 3 U) + yT (yf 4 U) + yT (yf 5 U) + yT (yf 6 U) + yT (yf 7 U) + yT (yf 8 U) + yT (yf 9 U) + yT (yf 10 U) + yT (yf 11 U) + yT (yf 12 U) + yT (yf 13 U) + yT (yf 14 U) + yT (yf 15 U) : Nat) : Int) := by
  have hU : U < 16 ^ 16 := by
    rw [← eU]
    exact Nat.lt_of_lt_of_le u.toBitVec.isLt (by decide)
  obtain ⟨s1, s2⟩ := y_s1 hU
  unfold yBC
  dsimp only
  generalize ha : u - (za_ushr0 u (Int32.ofInt 1) &&& 6148914691236517205) = a
  have ea : a.toBitVec.toNat = (U &&& 6148914691236517205) + (U / 2 &&& 6148914691236517205) := by
    rw [← ha, yN_sub, yN_and, yN_ushr (m := 1) (D := 2) (by decide +kernel) rfl, eU, show (6148914691236517205 : Int64).toBitVec.toNat = 6148914691236517205 from by decide +kernel]
    generalize (U / 2 &&& 6148914691236517205) = V at s1 ⊢
    generalize (U &&& 6148914691236517205) = X at s1 ⊢
    omega
  generalize hA : a.toBitVec.toNat = A at ea
  have hA16 : A < 16 ^ 16 := by
    rw [← hA]
    exact Nat.lt_of_lt_of_le a.toBitVec.isLt (by decide)
  have s3 := y_s2 hA16
  generalize hb : (a &&& 3689348814741910323) + (za_ushr0 a (Int32.ofInt 2) &&& 3689348814741910323) = b
  have l1 : (A &&& 3689348814741910323) ≤ 3689348814741910323 := Nat.and_le_right
  have l2 : (A / 4 &&& 3689348814741910323) ≤ 3689348814741910323 := Nat.and_le_right
  have eb : b.toBitVec.toNat = (A &&& 3689348814741910323) + (A / 4 &&& 3689348814741910323) := by
    rw [← hb, yN_add, yN_and, yN_and, yN_ushr (m := 2) (D := 4) (by decide +kernel) rfl, hA, show (3689348814741910323 : Int64).toBitVec.toNat = 3689348814741910323 from by decide +kernel]
    omega
  have kB : ∀ k, yf k b.toBitVec.toNat = yT (yf k U) := fun k => by
    rw [eb, s3 k, ea, s2 k]
    rfl
  generalize hB : b.toBitVec.toNat = B at eb kB
  generalize hc : (b + za_ushr0 b (Int32.ofInt 4)) &&& 1085102592571150095 = c
  have ec : c.toBitVec.toNat = (B + B / 16) &&& 1085102592571150095 := by
    rw [← hc, yN_and, yN_add, yN_ushr (m := 4) (D := 16) (by decide +kernel) rfl, hB, show (1085102592571150095 : Int64).toBitVec.toNat = 1085102592571150095 from by decide +kernel, Nat.mod_eq_of_lt (by omega)]
  generalize hC : c.toBitVec.toNat = C at ec
  have t4 : ∀ k, yT (yf k U) ≤ 4 := fun k => (yt_k3 _ yf_lt).1
  have kC : ∀ k, yf k C = (yT (yf k U) + yT (yf (k + 1) U)) &&& yf k 1085102592571150095 := fun k => by
    have e2 : ∀ j, yf j (B / 16) = yT (yf (j + 1) U) := fun j => by rw [← yf_s, kB]
    rw [ec, yf_and, yf_add k B (B / 16) (fun j => by rw [kB, e2]; have := t4 j; have := t4 (j + 1); omega), kB, e2]
  have kE : ∀ k, yf k 1085102592571150095 = 15 → yf k C = yT (yf k U) + yT (yf (k + 1) U) := fun k h => by
    rw [kC, h]
    exact y_and15 _ (by have := t4 k; have := t4 (k + 1); omega)
  have kO : ∀ k, yf k 1085102592571150095 = 0 → yf k C = 0 := fun k h => by
    rw [kC, h]
    exact Nat.and_zero _
  have lC : C ≤ 1085102592571150095 := by
    rw [ec]
    exact Nat.and_le_right
  have sC := y16 16 C (by omega)
  simp only [yv] at sC
  rw [kE 0 (by decide +kernel), kO 1 (by decide +kernel), kE 2 (by decide +kernel), kO 3 (by decide +kernel), kE 4 (by decide +kernel), kO 5 (by decide +kernel), kE 6 (by decide +kernel), kO 7 (by decide +kernel), kE 8 (by decide +kernel), kO 9 (by decide +kernel), kE 10 (by decide +kernel), kO 11 (by decide +kernel), kE 12 (by decide +kernel), kO 13 (by decide +kernel), kE 14 (by decide +kernel), kO 15 (by decide +kernel)] at sC
  simp only [y_256] at sC
  have tt : ∀ k, yT (yf k U) + yT (yf (k + 1) U) ≤ 8 := fun k => by have := t4 k; have := t4 (k + 1); omega
  obtain ⟨a1, a2, a3⟩ := y_ar (E := C + C / 256) (F := C + C / 256 + (C + C / 256) / 65536) ⟨tt 0, tt 2, tt 4, tt 6, tt 8, tt 10, tt 12, tt 14⟩ sC rfl rfl rfl rfl rfl rfl rfl rfl rfl
  clear sC kC kE kO kB s1 s2 s3 tt t4
  generalize he : c + za_ushr0 c (Int32.ofInt 8) = e
  have ee : e.toBitVec.toNat = C + C / 256 := by
    rw [← he, yN_add, yN_ushr (m := 8) (D := 256) (by decide +kernel) rfl, hC]
    omega
  generalize hE : e.toBitVec.toNat = E at ee
  generalize hf : e + za_ushr0 e (Int32.ofInt 16) = f
  have ef : f.toBitVec.toNat = E + E / 65536 := by
    rw [← hf, yN_add, yN_ushr (m := 16) (D := 65536) (by decide +kernel) rfl, hE]
    omega
  generalize hF : f.toBitVec.toNat = F at ef
  generalize hg : f + za_ushr0 f (Int32.ofInt 32) = g
  have eg : g.toBitVec.toNat = F + F / 4294967296 := by
    rw [← hg, yN_add, yN_ushr (m := 32) (D := 4294967296) (by decide +kernel) rfl, hF]
    omega
  rw [yN_f, eg, ef, ee, a3]
  show ((yT (yf 0 U) + yT (yf 1 U) + (yT (yf 2 U) + yT (yf 3 U)) + (yT (yf 4 U) + yT (yf 5 U)) + (yT (yf 6 U) + yT (yf 7 U)) + (yT (yf 8 U) + yT (yf 9 U)) + (yT (yf 10 U) + yT (yf 11 U)) + (yT (yf 12 U) + yT (yf 13 U)) + (yT (yf 14 U) + yT (yf 15 U)) : Nat) : Int) = _
  refine congrArg Int.ofNat ?_
  clear a1 a2 a3 ee ef eg lC hU hA16 l1 l2
  omega
theorem yBit_n : ∀ c, c < 64 → (yBit (c : Nat)).toBitVec.toNat = 2 ^ c := by decide +kernel
theorem yBit_1 : ∀ c, c < 64 → yT (yf 0 (2 ^ c)) + yT (yf 1 (2 ^ c)) + yT (yf 2 (2 ^ c)) + yT (yf 3 (2 ^ c)) + yT (yf 4 (2 ^ c)) + yT (yf 5 (2 ^ c)) + yT (yf 6 (2 ^ c)) + yT (yf 7 (2 ^ c)) + yT (yf 8 (2 ^ c)) + yT (yf 9 (2 ^ c)) + yT (yf 10 (2 ^ c)) + yT (yf 11 (2 ^ c)) + yT (yf 12 (2 ^ c)) + yT (yf 13 (2 ^ c)) + yT (yf 14 (2 ^ c)) + yT (yf 15 (2 ^ c)) = 1 := by decide +kernel
theorem yBCt : yBCu := by
  intro r c hc h
  have e0 : r.toBitVec.toNat &&& 2 ^ c = 0 := by
    have := congrArg (fun x : Int64 => x.toBitVec.toNat) h
    have : (r &&& yBit c).toBitVec.toNat = 0 := this
    rw [yN_and, yBit_n c hc] at this
    exact this
  have k0 : ∀ k, yT (yf k (r.toBitVec.toNat ||| 2 ^ c)) = yT (yf k r.toBitVec.toNat) + yT (yf k (2 ^ c)) := fun k => by
    rw [yf_or]
    refine yT_or _ yf_lt _ yf_lt ?_
    rw [← yf_and, e0]
    unfold yf
    rw [Nat.zero_div]
  have e1 := yBit_1 c hc
  rw [yBC_s (r ||| yBit c) (U := r.toBitVec.toNat ||| 2 ^ c) (by rw [yN_or, yBit_n c hc]), yBC_s r rfl]
  simp only [k0]
  omega
