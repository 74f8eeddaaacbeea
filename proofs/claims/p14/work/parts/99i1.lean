section
/-! ===== the class keeps acts, exactly ===== -/
def zm_113 : za_MI := (yX0_keepAct, prog_2_method_9_code, 3, none, 0, 0, 0, [], za_i113)
theorem zm_113_t : za_MT 113 = some zm_113 := rfl
theorem yc_kt13 {L : Nat} {σ : Nat → Int32} {d : Nat} {P : zp_X → Prop} {H : zp_H} {lv : zp_LV} {s v : Int32} (W : zw_W H) (h29 : 0 ≤ (H.2.1 13 7).toInt ∧ (H.2.1 13 7).toInt ≤ 29) (l0 : zp_get lv 0 = some (.inr (.inr (some 14)))) (l1 : zp_get lv 1 = some (.inl s)) (l2 : zp_get lv 2 = some (.inl v)) (hP : P (.inl none, zw_I (zw_I (zw_I H 20 (H.2.1 13 7).toInt.toNat s) 21 (H.2.1 13 7).toInt.toNat v) 13 7 (H.2.1 13 7 + Int32.ofInt 1))) : zs_Safe L σ P zm_113 [] d (45, lv, [], H, (0, 0)) := by
  refine zw_ld (n := 1) (k := 0) (f := zp_isR) (pc' := 46) rfl rfl l0 rfl rfl ?_
  refine zw_gR (q := 13) (pc' := 49) W rfl rfl rfl rfl (W.2 13 8 _ rfl) rfl ?_
  refine zw_ld (n := 1) (k := 0) (f := zp_isR) (pc' := 50) rfl rfl l0 rfl rfl ?_
  refine zw_gI (q := 13) (pc' := 53) W rfl rfl rfl rfl rfl rfl ?_
  refine zw_ld (n := 1) (k := 1) (f := zp_isI) (pc' := 54) rfl rfl l1 rfl rfl ?_
  refine zw_is (q := 20) (pc' := 55) W rfl rfl (by decide) (⟨by omega, by show _ < ((30 : Nat) : Int); omega⟩) rfl ?_
  refine zw_ld (n := 1) (k := 0) (f := zp_isR) (pc' := 56) rfl rfl l0 rfl rfl ?_
  refine zw_gR (q := 13) (pc' := 59) (zw_W_I W) rfl rfl rfl rfl ((zw_W_I W).2 13 9 _ rfl) rfl ?_
  refine zw_ld (n := 1) (k := 0) (f := zp_isR) (pc' := 60) rfl rfl l0 rfl rfl ?_
  refine zw_gI (q := 13) (pc' := 63) (zw_W_I W) rfl rfl rfl rfl (zw_ne rfl rfl) rfl ?_
  refine zw_ld (n := 1) (k := 2) (f := zp_isI) (pc' := 64) rfl rfl l2 rfl rfl ?_
  refine zw_is (q := 21) (pc' := 65) (zw_W_I W) rfl rfl (by decide) (⟨by omega, by show _ < ((30 : Nat) : Int); omega⟩) rfl ?_
  refine zw_ld (n := 1) (k := 0) (f := zp_isR) (pc' := 66) rfl rfl l0 rfl rfl ?_
  refine zw_s (pc' := 67) rfl rfl ?_
  refine zw_gI (q := 13) (pc' := 70) (zw_W_I (zw_W_I W)) rfl rfl rfl rfl (zw_ne (zw_ne rfl rfl) rfl) rfl ?_
  refine zw_s (pc' := 71) rfl rfl ?_
  refine zw_iadd (pc' := 72) rfl rfl ?_
  refine zw_pI (q := 13) (pc' := 75) (zw_W_I (zw_W_I W)) rfl rfl rfl rfl rfl rfl ?_
  refine zw_rn rfl rfl ?_
  exact hP

theorem yc_keep13 {L : Nat} {σ : Nat → Int32} {d : Nat} {H : zp_H} {A : xK} {s v : Int32} (W : zw_W H) (hw : xKw A) (h : yHc 13 A H) : ∃ X, zp_Call L σ (d + 1) 113 [.inr (.inr (some 14)), .inl s, .inl v] H X ∧ ∃ H1, X = (.inl none, H1) ∧ zw_W H1 ∧ H1.2.2 = H.2.2 ∧ yHc 13 (xKk A s v) H1 ∧ ∀ p k, p ≠ 20 → p ≠ 21 → ¬ (p = 13 ∧ k = 7) → H1.2.1 p k = H.2.1 p k := by
  obtain ⟨b1, b2, b3, b4⟩ := hw
  have h7 := h.2.1
  have f7 : 0 ≤ (H.2.1 13 7).toInt ∧ (H.2.1 13 7).toInt ≤ 30 := by omega
  have en : (H.2.1 13 7).toInt.toNat = A.2.1 := by omega
  refine zw_met zm_113_t rfl rfl ?_
  refine zw_ld (n := 1) (k := 0) (f := zp_isR) (pc' := 1) rfl rfl rfl rfl rfl ?_
  refine zw_gI (q := 13) (pc' := 4) W rfl rfl rfl rfl rfl rfl ?_
  refine zw_s (pc' := 6) rfl rfl ?_
  refine zw_blt2 (g := 45) (pc' := 9) rfl rfl rfl rfl (rfl : _ = (30 : Int)) (fun hb => ?_) (fun hb => ?_)
  · refine yc_kt13 W ⟨f7.1, by omega⟩ rfl rfl rfl ⟨_, rfl, zw_W_I (zw_W_I (zw_W_I W)), rfl, ?_, fun p k p1 p2 p3 => (y_ne (fun h9 => p3 h9)).trans ((y_ne (fun h9 => p2 h9.1)).trans (y_ne (fun h9 => p1 h9.1)))⟩
    rw [en]
    refine yHc_k1 h (by omega) (fun p k p1 p2 p3 => (y_ne (fun h9 => p3 h9)).trans ((y_ne (fun h9 => by have := h9.1; omega)).trans (y_ne (fun h9 => by have := h9.1; omega)))) ?_ (fun k w hw hk => ?_) ?_ ?_
    · rw [show (zw_I (zw_I (zw_I H 20 A.2.1 s) 21 A.2.1 v) 13 7 (H.2.1 13 7 + Int32.ofInt 1)).2.1 13 7 = H.2.1 13 7 + Int32.ofInt 1 from zw_eq, zw_p1 (by omega)]
      omega
    · exact (y_ne (fun h9 => by have := h9.1; omega)).trans ((y_ne (fun h9 => hk h9.2)).trans (y_ne (fun h9 => hk h9.2)))
    · exact (y_ne (fun h9 => absurd h9.1 (by decide))).trans ((y_ne (fun h9 => absurd h9.1 (by decide))).trans zw_eq)
    · exact (y_ne (fun h9 => absurd h9.1 (by decide))).trans zw_eq
  · refine zw_ld (n := 1) (k := 0) (f := zp_isR) (pc' := 10) rfl rfl rfl rfl rfl ?_
    refine zw_gR (q := 13) (pc' := 13) W rfl rfl rfl rfl (W.2 13 8 _ rfl) rfl ?_
    refine zw_s (pc' := 14) rfl rfl ?_
    refine zw_ld (n := 1) (k := 0) (f := zp_isR) (pc' := 15) rfl rfl rfl rfl rfl ?_
    refine zw_gR (q := 13) (pc' := 18) W rfl rfl rfl rfl (W.2 13 8 _ rfl) rfl ?_
    refine zw_s (pc' := 19) rfl rfl ?_
    refine zw_s (pc' := 21) rfl rfl ?_
    refine zw_ac (q0 := 20) (q1 := 20) (pc' := 24) W rfl rfl rfl rfl ⟨by decide, by decide, by decide, by decide, by decide, by decide⟩ rfl ?_
    refine zw_ld (n := 1) (k := 0) (f := zp_isR) (pc' := 25) rfl rfl rfl rfl rfl ?_
    refine zw_gR (q := 13) (pc' := 28) W rfl rfl rfl rfl (W.2 13 9 _ rfl) rfl ?_
    refine zw_s (pc' := 29) rfl rfl ?_
    refine zw_ld (n := 1) (k := 0) (f := zp_isR) (pc' := 30) rfl rfl rfl rfl rfl ?_
    refine zw_gR (q := 13) (pc' := 33) W rfl rfl rfl rfl (W.2 13 9 _ rfl) rfl ?_
    refine zw_s (pc' := 34) rfl rfl ?_
    refine zw_s (pc' := 36) rfl rfl ?_
    refine zw_ac (q0 := 21) (q1 := 21) (pc' := 39) W rfl rfl rfl rfl ⟨by decide, by decide, by decide, by decide, by decide, by decide⟩ rfl ?_
    have k1 : ∀ p k, p ≠ 20 → p ≠ 21 → (zw_K (zw_K H 20 (va_cpy (H.2.1 20) (H.2.1 20) 1 0 29)) 21 (va_cpy (H.2.1 21) (H.2.1 21) 1 0 29)).2.1 p k = H.2.1 p k := fun p k p1 p2 => (zw_Kn p2).trans (zw_Kn p1)
    have k2 : ∀ k, k < 29 → (zw_K (zw_K H 20 (va_cpy (H.2.1 20) (H.2.1 20) 1 0 29)) 21 (va_cpy (H.2.1 21) (H.2.1 21) 1 0 29)).2.1 20 k = H.2.1 20 (k + 1) := fun k hk => (zw_Kn (by decide)).trans (zw_Ke.trans ((va_cpy_i ⟨Nat.zero_le _, by omega⟩).trans (congrArg (H.2.1 20) (by omega))))
    have k3 : ∀ k, k < 29 → (zw_K (zw_K H 20 (va_cpy (H.2.1 20) (H.2.1 20) 1 0 29)) 21 (va_cpy (H.2.1 21) (H.2.1 21) 1 0 29)).2.1 21 k = H.2.1 21 (k + 1) := fun k hk => zw_Ke.trans ((va_cpy_i ⟨Nat.zero_le _, by omega⟩).trans (congrArg (H.2.1 21) (by omega)))
    have WK : zw_W (zw_K (zw_K H 20 (va_cpy (H.2.1 20) (H.2.1 20) 1 0 29)) 21 (va_cpy (H.2.1 21) (H.2.1 21) 1 0 29)) := W
    have k4 : (zw_K (zw_K H 20 (va_cpy (H.2.1 20) (H.2.1 20) 1 0 29)) 21 (va_cpy (H.2.1 21) (H.2.1 21) 1 0 29)).2.2 = H.2.2 := rfl
    show zs_Safe L σ _ zm_113 [] d (39, _, [], zw_K (zw_K H 20 (va_cpy (H.2.1 20) (H.2.1 20) 1 0 29)) 21 (va_cpy (H.2.1 21) (H.2.1 21) 1 0 29), (0, 0))
    generalize zw_K (zw_K H 20 (va_cpy (H.2.1 20) (H.2.1 20) 1 0 29)) 21 (va_cpy (H.2.1 21) (H.2.1 21) 1 0 29) = K at k1 k2 k3 k4 WK ⊢
    refine zw_ld (n := 1) (k := 0) (f := zp_isR) (pc' := 40) rfl rfl rfl rfl rfl ?_
    refine zw_s (pc' := 42) rfl rfl ?_
    refine zw_pI (q := 13) (pc' := 45) WK rfl rfl rfl rfl rfl rfl ?_
    have e7 : (zw_I K 13 7 (Int32.ofInt 29)).2.1 13 7 = Int32.ofInt 29 := zw_eq
    refine yc_kt13 (zw_W_I WK) (by rw [e7]; exact ⟨by decide, by decide⟩) rfl rfl rfl ⟨_, rfl, zw_W_I (zw_W_I (zw_W_I (zw_W_I WK))), k4, ?_, fun p k p1 p2 p3 => (y_ne (fun h9 => p3 h9)).trans ((y_ne (fun h9 => p2 h9.1)).trans ((y_ne (fun h9 => p1 h9.1)).trans ((y_ne (fun h9 => p3 h9)).trans (k1 p k p1 p2))))⟩
    rw [e7]
    show yHc 13 _ (zw_I (zw_I (zw_I (zw_I K 13 7 (Int32.ofInt 29)) 20 29 s) 21 29 v) 13 7 (Int32.ofInt 29 + Int32.ofInt 1))
    refine yHc_k2 h (by omega) (fun p k p1 p2 p3 => (y_ne (fun h9 => p3 h9)).trans ((y_ne (fun h9 => by have := h9.1; omega)).trans ((y_ne (fun h9 => by have := h9.1; omega)).trans ((y_ne (fun h9 => p3 h9)).trans (k1 p k (by omega) (by omega)))))) ?_ (fun k w hw hk => ?_) ?_ ?_
    · exact congrArg Int32.toInt zw_eq
    · rcases (show w = 0 ∨ w = 1 by omega) with rfl | rfl
      · exact (y_ne (fun h9 => absurd (show (20 : Nat) = 13 from h9.1) (by decide))).trans ((y_ne (fun h9 => by have := h9.2; omega)).trans ((y_ne (fun h9 => by have := h9.2; omega)).trans ((y_ne (fun h9 => absurd (show (20 : Nat) = 13 from h9.1) (by decide))).trans (k2 k hk))))
      · exact (y_ne (fun h9 => absurd (show (21 : Nat) = 13 from h9.1) (by decide))).trans ((y_ne (fun h9 => by have := h9.2; omega)).trans ((y_ne (fun h9 => by have := h9.2; omega)).trans ((y_ne (fun h9 => absurd (show (21 : Nat) = 13 from h9.1) (by decide))).trans (k3 k hk))))
    · exact (y_ne (fun h9 => absurd h9.1 (by decide))).trans ((y_ne (fun h9 => absurd h9.1 (by decide))).trans zw_eq)
    · exact (y_ne (fun h9 => absurd h9.1 (by decide))).trans zw_eq

theorem yc_kt33 {L : Nat} {σ : Nat → Int32} {d : Nat} {P : zp_X → Prop} {H : zp_H} {lv : zp_LV} {s v : Int32} (W : zw_W H) (h29 : 0 ≤ (H.2.1 33 7).toInt ∧ (H.2.1 33 7).toInt ≤ 29) (l0 : zp_get lv 0 = some (.inr (.inr (some 34)))) (l1 : zp_get lv 1 = some (.inl s)) (l2 : zp_get lv 2 = some (.inl v)) (hP : P (.inl none, zw_I (zw_I (zw_I H 40 (H.2.1 33 7).toInt.toNat s) 41 (H.2.1 33 7).toInt.toNat v) 33 7 (H.2.1 33 7 + Int32.ofInt 1))) : zs_Safe L σ P zm_113 [] d (45, lv, [], H, (0, 0)) := by
  refine zw_ld (n := 1) (k := 0) (f := zp_isR) (pc' := 46) rfl rfl l0 rfl rfl ?_
  refine zw_gR (q := 33) (pc' := 49) W rfl rfl rfl rfl (W.2 33 8 _ rfl) rfl ?_
  refine zw_ld (n := 1) (k := 0) (f := zp_isR) (pc' := 50) rfl rfl l0 rfl rfl ?_
  refine zw_gI (q := 33) (pc' := 53) W rfl rfl rfl rfl rfl rfl ?_
  refine zw_ld (n := 1) (k := 1) (f := zp_isI) (pc' := 54) rfl rfl l1 rfl rfl ?_
  refine zw_is (q := 40) (pc' := 55) W rfl rfl (by decide) (⟨by omega, by show _ < ((30 : Nat) : Int); omega⟩) rfl ?_
  refine zw_ld (n := 1) (k := 0) (f := zp_isR) (pc' := 56) rfl rfl l0 rfl rfl ?_
  refine zw_gR (q := 33) (pc' := 59) (zw_W_I W) rfl rfl rfl rfl ((zw_W_I W).2 33 9 _ rfl) rfl ?_
  refine zw_ld (n := 1) (k := 0) (f := zp_isR) (pc' := 60) rfl rfl l0 rfl rfl ?_
  refine zw_gI (q := 33) (pc' := 63) (zw_W_I W) rfl rfl rfl rfl (zw_ne rfl rfl) rfl ?_
  refine zw_ld (n := 1) (k := 2) (f := zp_isI) (pc' := 64) rfl rfl l2 rfl rfl ?_
  refine zw_is (q := 41) (pc' := 65) (zw_W_I W) rfl rfl (by decide) (⟨by omega, by show _ < ((30 : Nat) : Int); omega⟩) rfl ?_
  refine zw_ld (n := 1) (k := 0) (f := zp_isR) (pc' := 66) rfl rfl l0 rfl rfl ?_
  refine zw_s (pc' := 67) rfl rfl ?_
  refine zw_gI (q := 33) (pc' := 70) (zw_W_I (zw_W_I W)) rfl rfl rfl rfl (zw_ne (zw_ne rfl rfl) rfl) rfl ?_
  refine zw_s (pc' := 71) rfl rfl ?_
  refine zw_iadd (pc' := 72) rfl rfl ?_
  refine zw_pI (q := 33) (pc' := 75) (zw_W_I (zw_W_I W)) rfl rfl rfl rfl rfl rfl ?_
  refine zw_rn rfl rfl ?_
  exact hP

theorem yc_keep33 {L : Nat} {σ : Nat → Int32} {d : Nat} {H : zp_H} {A : xK} {s v : Int32} (W : zw_W H) (hw : xKw A) (h : yHc 33 A H) : ∃ X, zp_Call L σ (d + 1) 113 [.inr (.inr (some 34)), .inl s, .inl v] H X ∧ ∃ H1, X = (.inl none, H1) ∧ zw_W H1 ∧ H1.2.2 = H.2.2 ∧ yHc 33 (xKk A s v) H1 ∧ ∀ p k, p ≠ 40 → p ≠ 41 → ¬ (p = 33 ∧ k = 7) → H1.2.1 p k = H.2.1 p k := by
  obtain ⟨b1, b2, b3, b4⟩ := hw
  have h7 := h.2.1
  have f7 : 0 ≤ (H.2.1 33 7).toInt ∧ (H.2.1 33 7).toInt ≤ 30 := by omega
  have en : (H.2.1 33 7).toInt.toNat = A.2.1 := by omega
  refine zw_met zm_113_t rfl rfl ?_
  refine zw_ld (n := 1) (k := 0) (f := zp_isR) (pc' := 1) rfl rfl rfl rfl rfl ?_
  refine zw_gI (q := 33) (pc' := 4) W rfl rfl rfl rfl rfl rfl ?_
  refine zw_s (pc' := 6) rfl rfl ?_
  refine zw_blt2 (g := 45) (pc' := 9) rfl rfl rfl rfl (rfl : _ = (30 : Int)) (fun hb => ?_) (fun hb => ?_)
  · refine yc_kt33 W ⟨f7.1, by omega⟩ rfl rfl rfl ⟨_, rfl, zw_W_I (zw_W_I (zw_W_I W)), rfl, ?_, fun p k p1 p2 p3 => (y_ne (fun h9 => p3 h9)).trans ((y_ne (fun h9 => p2 h9.1)).trans (y_ne (fun h9 => p1 h9.1)))⟩
    rw [en]
    refine yHc_k1 h (by omega) (fun p k p1 p2 p3 => (y_ne (fun h9 => p3 h9)).trans ((y_ne (fun h9 => by have := h9.1; omega)).trans (y_ne (fun h9 => by have := h9.1; omega)))) ?_ (fun k w hw hk => ?_) ?_ ?_
    · rw [show (zw_I (zw_I (zw_I H 40 A.2.1 s) 41 A.2.1 v) 33 7 (H.2.1 33 7 + Int32.ofInt 1)).2.1 33 7 = H.2.1 33 7 + Int32.ofInt 1 from zw_eq, zw_p1 (by omega)]
      omega
    · exact (y_ne (fun h9 => by have := h9.1; omega)).trans ((y_ne (fun h9 => hk h9.2)).trans (y_ne (fun h9 => hk h9.2)))
    · exact (y_ne (fun h9 => absurd h9.1 (by decide))).trans ((y_ne (fun h9 => absurd h9.1 (by decide))).trans zw_eq)
    · exact (y_ne (fun h9 => absurd h9.1 (by decide))).trans zw_eq
  · refine zw_ld (n := 1) (k := 0) (f := zp_isR) (pc' := 10) rfl rfl rfl rfl rfl ?_
    refine zw_gR (q := 33) (pc' := 13) W rfl rfl rfl rfl (W.2 33 8 _ rfl) rfl ?_
    refine zw_s (pc' := 14) rfl rfl ?_
    refine zw_ld (n := 1) (k := 0) (f := zp_isR) (pc' := 15) rfl rfl rfl rfl rfl ?_
    refine zw_gR (q := 33) (pc' := 18) W rfl rfl rfl rfl (W.2 33 8 _ rfl) rfl ?_
    refine zw_s (pc' := 19) rfl rfl ?_
    refine zw_s (pc' := 21) rfl rfl ?_
    refine zw_ac (q0 := 40) (q1 := 40) (pc' := 24) W rfl rfl rfl rfl ⟨by decide, by decide, by decide, by decide, by decide, by decide⟩ rfl ?_
    refine zw_ld (n := 1) (k := 0) (f := zp_isR) (pc' := 25) rfl rfl rfl rfl rfl ?_
    refine zw_gR (q := 33) (pc' := 28) W rfl rfl rfl rfl (W.2 33 9 _ rfl) rfl ?_
    refine zw_s (pc' := 29) rfl rfl ?_
    refine zw_ld (n := 1) (k := 0) (f := zp_isR) (pc' := 30) rfl rfl rfl rfl rfl ?_
    refine zw_gR (q := 33) (pc' := 33) W rfl rfl rfl rfl (W.2 33 9 _ rfl) rfl ?_
    refine zw_s (pc' := 34) rfl rfl ?_
    refine zw_s (pc' := 36) rfl rfl ?_
    refine zw_ac (q0 := 41) (q1 := 41) (pc' := 39) W rfl rfl rfl rfl ⟨by decide, by decide, by decide, by decide, by decide, by decide⟩ rfl ?_
    have k1 : ∀ p k, p ≠ 40 → p ≠ 41 → (zw_K (zw_K H 40 (va_cpy (H.2.1 40) (H.2.1 40) 1 0 29)) 41 (va_cpy (H.2.1 41) (H.2.1 41) 1 0 29)).2.1 p k = H.2.1 p k := fun p k p1 p2 => (zw_Kn p2).trans (zw_Kn p1)
    have k2 : ∀ k, k < 29 → (zw_K (zw_K H 40 (va_cpy (H.2.1 40) (H.2.1 40) 1 0 29)) 41 (va_cpy (H.2.1 41) (H.2.1 41) 1 0 29)).2.1 40 k = H.2.1 40 (k + 1) := fun k hk => (zw_Kn (by decide)).trans (zw_Ke.trans ((va_cpy_i ⟨Nat.zero_le _, by omega⟩).trans (congrArg (H.2.1 40) (by omega))))
    have k3 : ∀ k, k < 29 → (zw_K (zw_K H 40 (va_cpy (H.2.1 40) (H.2.1 40) 1 0 29)) 41 (va_cpy (H.2.1 41) (H.2.1 41) 1 0 29)).2.1 41 k = H.2.1 41 (k + 1) := fun k hk => zw_Ke.trans ((va_cpy_i ⟨Nat.zero_le _, by omega⟩).trans (congrArg (H.2.1 41) (by omega)))
    have WK : zw_W (zw_K (zw_K H 40 (va_cpy (H.2.1 40) (H.2.1 40) 1 0 29)) 41 (va_cpy (H.2.1 41) (H.2.1 41) 1 0 29)) := W
    have k4 : (zw_K (zw_K H 40 (va_cpy (H.2.1 40) (H.2.1 40) 1 0 29)) 41 (va_cpy (H.2.1 41) (H.2.1 41) 1 0 29)).2.2 = H.2.2 := rfl
    show zs_Safe L σ _ zm_113 [] d (39, _, [], zw_K (zw_K H 40 (va_cpy (H.2.1 40) (H.2.1 40) 1 0 29)) 41 (va_cpy (H.2.1 41) (H.2.1 41) 1 0 29), (0, 0))
    generalize zw_K (zw_K H 40 (va_cpy (H.2.1 40) (H.2.1 40) 1 0 29)) 41 (va_cpy (H.2.1 41) (H.2.1 41) 1 0 29) = K at k1 k2 k3 k4 WK ⊢
    refine zw_ld (n := 1) (k := 0) (f := zp_isR) (pc' := 40) rfl rfl rfl rfl rfl ?_
    refine zw_s (pc' := 42) rfl rfl ?_
    refine zw_pI (q := 33) (pc' := 45) WK rfl rfl rfl rfl rfl rfl ?_
    have e7 : (zw_I K 33 7 (Int32.ofInt 29)).2.1 33 7 = Int32.ofInt 29 := zw_eq
    refine yc_kt33 (zw_W_I WK) (by rw [e7]; exact ⟨by decide, by decide⟩) rfl rfl rfl ⟨_, rfl, zw_W_I (zw_W_I (zw_W_I (zw_W_I WK))), k4, ?_, fun p k p1 p2 p3 => (y_ne (fun h9 => p3 h9)).trans ((y_ne (fun h9 => p2 h9.1)).trans ((y_ne (fun h9 => p1 h9.1)).trans ((y_ne (fun h9 => p3 h9)).trans (k1 p k p1 p2))))⟩
    rw [e7]
    show yHc 33 _ (zw_I (zw_I (zw_I (zw_I K 33 7 (Int32.ofInt 29)) 40 29 s) 41 29 v) 33 7 (Int32.ofInt 29 + Int32.ofInt 1))
    refine yHc_k2 h (by omega) (fun p k p1 p2 p3 => (y_ne (fun h9 => p3 h9)).trans ((y_ne (fun h9 => by have := h9.1; omega)).trans ((y_ne (fun h9 => by have := h9.1; omega)).trans ((y_ne (fun h9 => p3 h9)).trans (k1 p k (by omega) (by omega)))))) ?_ (fun k w hw hk => ?_) ?_ ?_
    · exact congrArg Int32.toInt zw_eq
    · rcases (show w = 0 ∨ w = 1 by omega) with rfl | rfl
      · exact (y_ne (fun h9 => absurd (show (40 : Nat) = 33 from h9.1) (by decide))).trans ((y_ne (fun h9 => by have := h9.2; omega)).trans ((y_ne (fun h9 => by have := h9.2; omega)).trans ((y_ne (fun h9 => absurd (show (40 : Nat) = 33 from h9.1) (by decide))).trans (k2 k hk))))
      · exact (y_ne (fun h9 => absurd (show (41 : Nat) = 33 from h9.1) (by decide))).trans ((y_ne (fun h9 => by have := h9.2; omega)).trans ((y_ne (fun h9 => by have := h9.2; omega)).trans ((y_ne (fun h9 => absurd (show (41 : Nat) = 33 from h9.1) (by decide))).trans (k3 k hk))))
    · exact (y_ne (fun h9 => absurd h9.1 (by decide))).trans ((y_ne (fun h9 => absurd h9.1 (by decide))).trans zw_eq)
    · exact (y_ne (fun h9 => absurd h9.1 (by decide))).trans zw_eq
end
section
/-! ===== write of the class, exactly ===== -/
def zm_108 : za_MI := (yX11_needSlate, prog_1_method_28_code, 2, none, 11, 1, 6, [], za_i108)
theorem zm_108_t : za_MT 108 = some zm_108 := rfl
def zm_111 : za_MI := (yL_write, method_8_code, 6, (some FieldType.int), 13, 1, 6, [(0, 12, 15, 18)], za_i111)
theorem zm_111_t : za_MT 111 = some zm_111 := rfl
def zm_112 : za_MI := (yX11_write, prog_1_method_11_code, 5, (some FieldType.int), 11, 1, 6, [], za_i112)
theorem zm_112_t : za_MT 112 = some zm_112 := rfl
theorem yc_ns1_0 {L : Nat} {σ : Nat → Int32} {d : Nat} {H : zp_H} {x : Int32} (hB : zk_Bs (zB_c 0) zg zJc H) (h : (0 ≤ x.toInt ∧ x.toInt < (H.2.1 13 0).toInt)) : zp_Call L σ (d + 1) 108 [.inr (.inr (some 1)), .inl x] H (.inl none, H) := by
  have W := zB_Wd (zB_dn (zB_Bc hB))
  have g5 : H.2.2.2 0 5 = some 3 := hB.2.1 0 5 _ rfl
  have g6 : H.2.2.2 0 6 = some 14 := hB.2.1 0 6 _ rfl
  have g7 : H.2.2.2 0 7 = some 23 := hB.2.1 0 7 _ rfl
  have g8 : H.2.2.2 0 8 = some 34 := hB.2.1 0 8 _ rfl
  refine zw_ex (zw_met zm_108_t rfl rfl ?_)
  refine zw_ld (n := 1) (k := 1) (f := zp_isI) (pc' := 1) rfl rfl rfl rfl rfl ?_
  refine zw_blt1 (g := 15) (pc' := 4) rfl rfl rfl rfl (fun h1 => ?_) (fun h1 => ?_)
  · omega
  · refine zw_ld (n := 1) (k := 1) (f := zp_isI) (pc' := 5) rfl rfl rfl rfl rfl ?_
    refine zw_ld (n := 1) (k := 0) (f := zp_isR) (pc' := 6) rfl rfl rfl rfl rfl ?_
    refine zw_gR (q := 0) (pc' := 9) W rfl rfl rfl rfl g6 rfl ?_
    refine zw_gI (q := 13) (pc' := 12) W rfl rfl rfl rfl rfl rfl ?_
    refine zw_blt2 (g := 26) (pc' := 15) rfl rfl rfl rfl rfl (fun h2 => ?_) (fun h2 => ?_)
    · refine zw_rn rfl rfl ?_
      rfl
    · omega

theorem yc_ns0_0 {L : Nat} {σ : Nat → Int32} {d : Nat} {H : zp_H} {x : Int32} (hB : zk_Bs (zB_c 0) zg zJc H) (h : ¬ (0 ≤ x.toInt ∧ x.toInt < (H.2.1 13 0).toInt)) : zp_Call L σ (d + 1) 108 [.inr (.inr (some 1)), .inl x] H (.inr 0, H) := by
  have W := zB_Wd (zB_dn (zB_Bc hB))
  have g5 : H.2.2.2 0 5 = some 3 := hB.2.1 0 5 _ rfl
  have g6 : H.2.2.2 0 6 = some 14 := hB.2.1 0 6 _ rfl
  have g7 : H.2.2.2 0 7 = some 23 := hB.2.1 0 7 _ rfl
  have g8 : H.2.2.2 0 8 = some 34 := hB.2.1 0 8 _ rfl
  refine zw_ex (zw_met zm_108_t rfl rfl ?_)
  refine zw_ld (n := 1) (k := 1) (f := zp_isI) (pc' := 1) rfl rfl rfl rfl rfl ?_
  refine zw_blt1 (g := 15) (pc' := 4) rfl rfl rfl rfl (fun h1 => ?_) (fun h1 => ?_)
  · exact zs_end (S := (15, _, [], H, (0, 0))) (X := (.inr 0, H)) rfl rfl rfl
  · refine zw_ld (n := 1) (k := 1) (f := zp_isI) (pc' := 5) rfl rfl rfl rfl rfl ?_
    refine zw_ld (n := 1) (k := 0) (f := zp_isR) (pc' := 6) rfl rfl rfl rfl rfl ?_
    refine zw_gR (q := 0) (pc' := 9) W rfl rfl rfl rfl g6 rfl ?_
    refine zw_gI (q := 13) (pc' := 12) W rfl rfl rfl rfl rfl rfl ?_
    refine zw_blt2 (g := 26) (pc' := 15) rfl rfl rfl rfl rfl (fun h2 => ?_) (fun h2 => ?_)
    · omega
    · exact zs_end (S := (15, _, [], H, (0, 0))) (X := (.inr 0, H)) rfl rfl rfl

theorem yc_ns1_3 {L : Nat} {σ : Nat → Int32} {d : Nat} {H : zp_H} {x : Int32} (hB : zk_Bs (zB_c 3) zg zJc H) (h : (0 ≤ x.toInt ∧ x.toInt < (H.2.1 33 0).toInt)) : zp_Call L σ (d + 1) 108 [.inr (.inr (some 1)), .inl x] H (.inl none, H) := by
  have W := zB_Wd (zB_dn (zB_Bc hB))
  have g5 : H.2.2.2 0 5 = some 23 := hB.2.1 0 5 _ rfl
  have g6 : H.2.2.2 0 6 = some 34 := hB.2.1 0 6 _ rfl
  have g7 : H.2.2.2 0 7 = some 3 := hB.2.1 0 7 _ rfl
  have g8 : H.2.2.2 0 8 = some 14 := hB.2.1 0 8 _ rfl
  refine zw_ex (zw_met zm_108_t rfl rfl ?_)
  refine zw_ld (n := 1) (k := 1) (f := zp_isI) (pc' := 1) rfl rfl rfl rfl rfl ?_
  refine zw_blt1 (g := 15) (pc' := 4) rfl rfl rfl rfl (fun h1 => ?_) (fun h1 => ?_)
  · omega
  · refine zw_ld (n := 1) (k := 1) (f := zp_isI) (pc' := 5) rfl rfl rfl rfl rfl ?_
    refine zw_ld (n := 1) (k := 0) (f := zp_isR) (pc' := 6) rfl rfl rfl rfl rfl ?_
    refine zw_gR (q := 0) (pc' := 9) W rfl rfl rfl rfl g6 rfl ?_
    refine zw_gI (q := 33) (pc' := 12) W rfl rfl rfl rfl rfl rfl ?_
    refine zw_blt2 (g := 26) (pc' := 15) rfl rfl rfl rfl rfl (fun h2 => ?_) (fun h2 => ?_)
    · refine zw_rn rfl rfl ?_
      rfl
    · omega

theorem yc_ns0_3 {L : Nat} {σ : Nat → Int32} {d : Nat} {H : zp_H} {x : Int32} (hB : zk_Bs (zB_c 3) zg zJc H) (h : ¬ (0 ≤ x.toInt ∧ x.toInt < (H.2.1 33 0).toInt)) : zp_Call L σ (d + 1) 108 [.inr (.inr (some 1)), .inl x] H (.inr 0, H) := by
  have W := zB_Wd (zB_dn (zB_Bc hB))
  have g5 : H.2.2.2 0 5 = some 23 := hB.2.1 0 5 _ rfl
  have g6 : H.2.2.2 0 6 = some 34 := hB.2.1 0 6 _ rfl
  have g7 : H.2.2.2 0 7 = some 3 := hB.2.1 0 7 _ rfl
  have g8 : H.2.2.2 0 8 = some 14 := hB.2.1 0 8 _ rfl
  refine zw_ex (zw_met zm_108_t rfl rfl ?_)
  refine zw_ld (n := 1) (k := 1) (f := zp_isI) (pc' := 1) rfl rfl rfl rfl rfl ?_
  refine zw_blt1 (g := 15) (pc' := 4) rfl rfl rfl rfl (fun h1 => ?_) (fun h1 => ?_)
  · exact zs_end (S := (15, _, [], H, (0, 0))) (X := (.inr 0, H)) rfl rfl rfl
  · refine zw_ld (n := 1) (k := 1) (f := zp_isI) (pc' := 5) rfl rfl rfl rfl rfl ?_
    refine zw_ld (n := 1) (k := 0) (f := zp_isR) (pc' := 6) rfl rfl rfl rfl rfl ?_
    refine zw_gR (q := 0) (pc' := 9) W rfl rfl rfl rfl g6 rfl ?_
    refine zw_gI (q := 33) (pc' := 12) W rfl rfl rfl rfl rfl rfl ?_
    refine zw_blt2 (g := 26) (pc' := 15) rfl rfl rfl rfl rfl (fun h2 => ?_) (fun h2 => ?_)
    · omega
    · exact zs_end (S := (15, _, [], H, (0, 0))) (X := (.inr 0, H)) rfl rfl rfl

theorem yc_wr0 {L : Nat} {σ : Nat → Int32} {d : Nat} {H : zp_H} {A : xK} {xs xw xt : Int32} (hB : zk_Bs (zB_c 0) zg zJc H) (hw : xKw A) (h : yHc 13 A H) (hs : 0 ≤ xs.toInt ∧ xs.toInt < A.1) : ∃ X, zp_Call L σ (d + 3) 112 [.inr (.inr (some 1)), .inl xs, .inl xw, .inl xt] H X ∧ ∃ H1 u, X = (.inl (some (.inl u)), H1) ∧ ((((A.2.2.1 xs.toInt.toNat 2).toInt < 8 ∧ (0 ≤ xw.toInt ∧ xw.toInt ≤ 3) ∧ 1 ≤ xt.toInt ∧ xt.toInt ≤ 9) ∧ u.toInt = (A.2.2.1 xs.toInt.toNat 2).toInt + 1 ∧ yHc 13 (xKk (xKm A xs.toInt.toNat xw xt) xs (Int32.ofInt (-1))) H1 ∧ H1.2.1 0 4 = H.2.1 0 4) ∨ (¬ ((A.2.2.1 xs.toInt.toNat 2).toInt < 8 ∧ (0 ≤ xw.toInt ∧ xw.toInt ≤ 3) ∧ 1 ≤ xt.toInt ∧ xt.toInt ≤ 9) ∧ u = Int32.ofInt (-1) ∧ yHc 13 A H1 ∧ H1.2.1 0 4 = H.2.1 0 4 + Int32.ofInt 1)) ∧ zw_W H1 ∧ H1.2.2 = H.2.2 := by
  have W := zB_Wd (zB_dn (zB_Bc hB))
  have g5 : H.2.2.2 0 5 = some 3 := hB.2.1 0 5 _ rfl
  have g6 : H.2.2.2 0 6 = some 14 := hB.2.1 0 6 _ rfl
  have g7 : H.2.2.2 0 7 = some 23 := hB.2.1 0 7 _ rfl
  have g8 : H.2.2.2 0 8 = some 34 := hB.2.1 0 8 _ rfl
  obtain ⟨b1, b2, b3, b4⟩ := hw
  have n0 := h.1
  have em : H.2.1 16 xs.toInt.toNat = A.2.2.1 xs.toInt.toNat 2 := h.2.2.1 xs.toInt.toNat 2 (by omega) (by decide)
  have em9 : (H.2.1 16 xs.toInt.toNat).toInt = (A.2.2.1 xs.toInt.toNat 2).toInt := congrArg Int32.toInt em
  have hm := b3 xs.toInt.toNat (by omega)
  refine zw_met zm_112_t rfl rfl ?_
  refine zw_ld (n := 1) (k := 0) (f := zp_isR) (pc' := 1) rfl rfl rfl rfl rfl ?_
  refine zw_ld (n := 1) (k := 1) (f := zp_isI) (pc' := 2) rfl rfl rfl rfl rfl ?_
  refine zw_ctn (pc' := 5) (c' := (1, 6)) (zw_cv (q := 0) (Y := zm_108) W.1 rfl rfl zm_108_t rfl rfl) (zw_pb_ok rfl) rfl rfl rfl rfl (yc_ns1_0 hB (by omega)) ?_
  refine zw_ld (n := 1) (k := 2) (f := zp_isI) (pc' := 6) rfl rfl rfl rfl rfl ?_
  refine zw_blt1 (g := 29) (pc' := 9) rfl rfl rfl rfl (fun g0 => ?_) (fun g0 => ?_)
  · refine zw_s (pc' := 30) rfl rfl ?_
    refine zw_st (n := 2) (k := 4) (f := zp_isI) (pc' := 32) rfl rfl rfl rfl rfl ?_
    refine zw_ld (n := 2) (k := 4) (f := zp_isI) (pc' := 34) rfl rfl zw_g1 rfl rfl ?_
    refine zw_beq1 (g := 51) (pc' := 37) rfl rfl rfl (rfl : _ = (0 : Int)) (fun h9 => ?_) (fun h9 => absurd h9 (by decide))
    refine zw_ld (n := 1) (k := 0) (f := zp_isR) (pc' := 52) rfl rfl (zw_gt rfl rfl rfl) rfl rfl ?_
    refine zw_s (pc' := 53) rfl rfl ?_
    refine zw_gI (q := 0) (pc' := 56) W rfl rfl rfl rfl rfl rfl ?_
    refine zw_s (pc' := 57) rfl rfl ?_
    refine zw_iadd (pc' := 58) rfl rfl ?_
    refine zw_pI (q := 0) (pc' := 61) W rfl rfl rfl rfl rfl rfl ?_
    refine zw_s (pc' := 62) rfl rfl ?_
    refine zw_rig rfl rfl ⟨by decide, by decide⟩ ?_
    refine ⟨_, _, rfl, Or.inr ⟨by omega, rfl, yHc_c (H := H) (fun p k p1 p2 => y_ne (fun h9 => by have := h9.1; omega)) h, zw_eq⟩, zw_W_I W, rfl⟩
  · refine zw_ld (n := 1) (k := 2) (f := zp_isI) (pc' := 10) rfl rfl rfl rfl rfl ?_
    refine zw_s (pc' := 11) rfl rfl ?_
    refine zw_bge2 (g := 29) (pc' := 14) rfl rfl rfl rfl (rfl : _ = (4 : Int)) (fun g1 => ?_) (fun g1 => ?_)
    · refine zw_s (pc' := 30) rfl rfl ?_
      refine zw_st (n := 2) (k := 4) (f := zp_isI) (pc' := 32) rfl rfl rfl rfl rfl ?_
      refine zw_ld (n := 2) (k := 4) (f := zp_isI) (pc' := 34) rfl rfl zw_g1 rfl rfl ?_
      refine zw_beq1 (g := 51) (pc' := 37) rfl rfl rfl (rfl : _ = (0 : Int)) (fun h9 => ?_) (fun h9 => absurd h9 (by decide))
      refine zw_ld (n := 1) (k := 0) (f := zp_isR) (pc' := 52) rfl rfl (zw_gt rfl rfl rfl) rfl rfl ?_
      refine zw_s (pc' := 53) rfl rfl ?_
      refine zw_gI (q := 0) (pc' := 56) W rfl rfl rfl rfl rfl rfl ?_
      refine zw_s (pc' := 57) rfl rfl ?_
      refine zw_iadd (pc' := 58) rfl rfl ?_
      refine zw_pI (q := 0) (pc' := 61) W rfl rfl rfl rfl rfl rfl ?_
      refine zw_s (pc' := 62) rfl rfl ?_
      refine zw_rig rfl rfl ⟨by decide, by decide⟩ ?_
      refine ⟨_, _, rfl, Or.inr ⟨by omega, rfl, yHc_c (H := H) (fun p k p1 p2 => y_ne (fun h9 => by have := h9.1; omega)) h, zw_eq⟩, zw_W_I W, rfl⟩
    · refine zw_ld (n := 1) (k := 3) (f := zp_isI) (pc' := 15) rfl rfl rfl rfl rfl ?_
      refine zw_s (pc' := 16) rfl rfl ?_
      refine zw_blt2 (g := 29) (pc' := 19) rfl rfl rfl rfl (rfl : _ = (1 : Int)) (fun g2 => ?_) (fun g2 => ?_)
      · refine zw_s (pc' := 30) rfl rfl ?_
        refine zw_st (n := 2) (k := 4) (f := zp_isI) (pc' := 32) rfl rfl rfl rfl rfl ?_
        refine zw_ld (n := 2) (k := 4) (f := zp_isI) (pc' := 34) rfl rfl zw_g1 rfl rfl ?_
        refine zw_beq1 (g := 51) (pc' := 37) rfl rfl rfl (rfl : _ = (0 : Int)) (fun h9 => ?_) (fun h9 => absurd h9 (by decide))
        refine zw_ld (n := 1) (k := 0) (f := zp_isR) (pc' := 52) rfl rfl (zw_gt rfl rfl rfl) rfl rfl ?_
        refine zw_s (pc' := 53) rfl rfl ?_
        refine zw_gI (q := 0) (pc' := 56) W rfl rfl rfl rfl rfl rfl ?_
        refine zw_s (pc' := 57) rfl rfl ?_
        refine zw_iadd (pc' := 58) rfl rfl ?_
        refine zw_pI (q := 0) (pc' := 61) W rfl rfl rfl rfl rfl rfl ?_
        refine zw_s (pc' := 62) rfl rfl ?_
        refine zw_rig rfl rfl ⟨by decide, by decide⟩ ?_
        refine ⟨_, _, rfl, Or.inr ⟨by omega, rfl, yHc_c (H := H) (fun p k p1 p2 => y_ne (fun h9 => by have := h9.1; omega)) h, zw_eq⟩, zw_W_I W, rfl⟩
      · refine zw_ld (n := 1) (k := 3) (f := zp_isI) (pc' := 20) rfl rfl rfl rfl rfl ?_
        refine zw_s (pc' := 22) rfl rfl ?_
        refine zw_bgt2 (g := 29) (pc' := 25) rfl rfl rfl rfl (rfl : _ = (9 : Int)) (fun g3 => ?_) (fun g3 => ?_)
        · refine zw_s (pc' := 30) rfl rfl ?_
          refine zw_st (n := 2) (k := 4) (f := zp_isI) (pc' := 32) rfl rfl rfl rfl rfl ?_
          refine zw_ld (n := 2) (k := 4) (f := zp_isI) (pc' := 34) rfl rfl zw_g1 rfl rfl ?_
          refine zw_beq1 (g := 51) (pc' := 37) rfl rfl rfl (rfl : _ = (0 : Int)) (fun h9 => ?_) (fun h9 => absurd h9 (by decide))
          refine zw_ld (n := 1) (k := 0) (f := zp_isR) (pc' := 52) rfl rfl (zw_gt rfl rfl rfl) rfl rfl ?_
          refine zw_s (pc' := 53) rfl rfl ?_
          refine zw_gI (q := 0) (pc' := 56) W rfl rfl rfl rfl rfl rfl ?_
          refine zw_s (pc' := 57) rfl rfl ?_
          refine zw_iadd (pc' := 58) rfl rfl ?_
          refine zw_pI (q := 0) (pc' := 61) W rfl rfl rfl rfl rfl rfl ?_
          refine zw_s (pc' := 62) rfl rfl ?_
          refine zw_rig rfl rfl ⟨by decide, by decide⟩ ?_
          refine ⟨_, _, rfl, Or.inr ⟨by omega, rfl, yHc_c (H := H) (fun p k p1 p2 => y_ne (fun h9 => by have := h9.1; omega)) h, zw_eq⟩, zw_W_I W, rfl⟩
        · refine zw_s (pc' := 26) rfl rfl ?_
          refine zw_s (pc' := 30) rfl rfl ?_
          refine zw_st (n := 2) (k := 4) (f := zp_isI) (pc' := 32) rfl rfl rfl rfl rfl ?_
          refine zw_ld (n := 2) (k := 4) (f := zp_isI) (pc' := 34) rfl rfl zw_g1 rfl rfl ?_
          refine zw_beq1 (g := 51) (pc' := 37) rfl rfl rfl (rfl : _ = (1 : Int)) (fun h9 => absurd h9 (by decide)) (fun h9 => ?_)
          refine zw_ld (n := 1) (k := 0) (f := zp_isR) (pc' := 38) rfl rfl (zw_gt rfl rfl rfl) rfl rfl ?_
          refine zw_gR (q := 0) (pc' := 41) W rfl rfl rfl rfl g6 rfl ?_
          refine zw_gR (q := 13) (pc' := 44) W rfl rfl rfl rfl (W.2 13 3 _ rfl) rfl ?_
          refine zw_ld (n := 1) (k := 1) (f := zp_isI) (pc' := 45) rfl rfl (zw_gt rfl rfl rfl) rfl rfl ?_
          refine zw_ia (q := 16) (pc' := 46) W rfl rfl (by decide) (⟨hs.1, by show _ < ((8 : Nat) : Int); omega⟩) rfl rfl ?_
          refine zw_s (pc' := 48) rfl rfl ?_
          refine zw_blt2 (g := 63) (pc' := 51) rfl rfl rfl rfl (rfl : _ = (8 : Int)) (fun h10 => ?_) (fun h10 => ?_)
          · obtain ⟨_, q1, H1, rfl, W1, q2, q3, q4⟩ := yc_keep13 (L := L) (σ := σ) (d := d + 1) (s := xs) (v := Int32.ofInt (-1)) W ⟨b1, b2, b3, b4⟩ h
            have g6b : H1.2.2.2 0 6 = some 14 := (congrArg (fun z => z.2 0 6) q2).trans g6
            refine zw_ld (n := 1) (k := 0) (f := zp_isR) (pc' := 64) rfl rfl (zw_gt rfl rfl rfl) rfl rfl ?_
            refine zw_gR (q := 0) (pc' := 67) W rfl rfl rfl rfl g6 rfl ?_
            refine zw_ld (n := 1) (k := 1) (f := zp_isI) (pc' := 68) rfl rfl (zw_gt rfl rfl rfl) rfl rfl ?_
            refine zw_s (pc' := 69) rfl rfl ?_
            refine zw_cn (pc' := 72) (zw_cv (q := 13) (Y := zm_113) W.1 rfl rfl zm_113_t rfl rfl) rfl rfl rfl rfl rfl (q1) ?_
            have em1 : H1.2.1 16 xs.toInt.toNat = A.2.2.1 xs.toInt.toNat 2 := q3.2.2.1 xs.toInt.toNat 2 (by show xs.toInt.toNat < A.1; omega) (by decide)
            have e8 : (xs * Int32.ofInt 8 + H1.2.1 16 xs.toInt.toNat).toInt.toNat = 8 * xs.toInt.toNat + (A.2.2.1 xs.toInt.toNat 2).toInt.toNat := by
              have m1 : (xs * Int32.ofInt 8).toInt = xs.toInt * 8 := zq_mul rfl (by omega) (by omega)
              rw [em1, zq_add (by rw [m1]; omega) (by rw [m1]; omega), m1]
              omega
            refine zw_ld (n := 1) (k := 0) (f := zp_isR) (pc' := 73) rfl rfl (zw_gt rfl rfl rfl) rfl rfl ?_
            refine zw_gR (q := 0) (pc' := 76) W1 rfl rfl rfl rfl g6b rfl ?_
            refine zw_ld (n := 1) (k := 1) (f := zp_isI) (pc' := 77) rfl rfl (zw_gt rfl rfl rfl) rfl rfl ?_
            refine zw_ld (n := 1) (k := 2) (f := zp_isI) (pc' := 78) rfl rfl (zw_gt rfl rfl rfl) rfl rfl ?_
            refine zw_ld (n := 1) (k := 3) (f := zp_isI) (pc' := 79) rfl rfl (zw_gt rfl rfl rfl) rfl rfl ?_
            refine zw_cn (pc' := 82) (zw_cv (q := 13) (Y := zm_78) W1.1 rfl rfl zm_78_t rfl rfl) rfl rfl rfl rfl rfl (yc_pmX13 W1 (a := (A.2.2.1 xs.toInt.toNat 2).toInt.toNat) (by omega) (by rw [em1]; omega) (by omega)) ?_
            refine zw_ld (n := 1) (k := 0) (f := zp_isR) (pc' := 83) rfl rfl (zw_gt rfl rfl rfl) rfl rfl ?_
            refine zw_gR (q := 0) (pc' := 86) (zw_W_I (zw_W_I (zw_W_I W1))) rfl rfl rfl rfl g6b rfl ?_
            refine zw_gR (q := 13) (pc' := 89) (zw_W_I (zw_W_I (zw_W_I W1))) rfl rfl rfl rfl ((zw_W_I (zw_W_I (zw_W_I W1))).2 13 3 _ rfl) rfl ?_
            refine zw_ld (n := 1) (k := 1) (f := zp_isI) (pc' := 90) rfl rfl (zw_gt rfl rfl rfl) rfl rfl ?_
            refine zw_ia (q := 16) (pc' := 91) (zw_W_I (zw_W_I (zw_W_I W1))) rfl rfl (by decide) (⟨hs.1, by show _ < ((8 : Nat) : Int); omega⟩) rfl rfl ?_
            refine zw_rig rfl rfl ⟨by decide, by decide⟩ ?_
            refine ⟨_, _, rfl, Or.inl ⟨⟨by omega, by omega, by omega⟩, ?_, ?_, ?_⟩, zw_W_I (zw_W_I (zw_W_I W1)), q2⟩
            · refine (congrArg Int32.toInt zw_eq).trans ?_
              rw [em1, zw_p1 (by omega)]
            · rw [e8]
              refine (show yHc 13 (xKm (xKk A xs (Int32.ofInt (-1))) xs.toInt.toNat xw xt) _ from yHc_m q3 (xKw_k ⟨b1, b2, b3, b4⟩ ⟨hs.1, hs.2⟩) (by show xs.toInt.toNat < A.1; omega) (by show (A.2.2.1 xs.toInt.toNat 2).toInt < 8; omega) (fun p k p1 p2 p3 p4 p5 => (y_ne (fun h9 => p3 h9)).trans ((y_ne (fun h9 => p5 h9)).trans (y_ne (fun h9 => p4 h9)))) ?_ ?_ ?_)
              · exact zw_eq.trans (congrArg (fun z : Int32 => z + Int32.ofInt 1) em1)
              · exact (y_ne (fun h9 => absurd h9.1 (by decide))).trans ((y_ne (fun h9 => absurd h9.1 (by decide))).trans zw_eq)
              · exact (y_ne (fun h9 => absurd h9.1 (by decide))).trans zw_eq
            · exact (y_ne (fun h9 => absurd h9.1 (by decide))).trans ((y_ne (fun h9 => absurd h9.1 (by decide))).trans ((y_ne (fun h9 => absurd h9.1 (by decide))).trans (q4 0 4 (by decide) (by decide) (by decide))))
          · refine zw_ld (n := 1) (k := 0) (f := zp_isR) (pc' := 52) rfl rfl (zw_gt rfl rfl rfl) rfl rfl ?_
            refine zw_s (pc' := 53) rfl rfl ?_
            refine zw_gI (q := 0) (pc' := 56) W rfl rfl rfl rfl rfl rfl ?_
            refine zw_s (pc' := 57) rfl rfl ?_
            refine zw_iadd (pc' := 58) rfl rfl ?_
            refine zw_pI (q := 0) (pc' := 61) W rfl rfl rfl rfl rfl rfl ?_
            refine zw_s (pc' := 62) rfl rfl ?_
            refine zw_rig rfl rfl ⟨by decide, by decide⟩ ?_
            refine ⟨_, _, rfl, Or.inr ⟨by omega, rfl, yHc_c (H := H) (fun p k p1 p2 => y_ne (fun h9 => by have := h9.1; omega)) h, zw_eq⟩, zw_W_I W, rfl⟩

theorem yl_wr0 {L : Nat} {σ : Nat → Int32} {d : Nat} {H : zp_H} {A : xK} {xs xw xt : Int32} (hB : zk_Bs (zB_c 0) zg zJc H) (hw : xKw A) (h : yHc 13 A H) (hs : 0 ≤ xs.toInt ∧ xs.toInt < A.1) : ∃ H1 u, zp_Call L σ (d + 4) 111 [.inr (.inr (some 1)), .inl xs, .inl xw, .inl xt, .inr (.inr (some 105))] H (.inl (some (.inl (Int32.ofInt 0))), zw_J H1 104 0 u.toInt64) ∧ ((((A.2.2.1 xs.toInt.toNat 2).toInt < 8 ∧ (0 ≤ xw.toInt ∧ xw.toInt ≤ 3) ∧ 1 ≤ xt.toInt ∧ xt.toInt ≤ 9) ∧ u.toInt = (A.2.2.1 xs.toInt.toNat 2).toInt + 1 ∧ yHc 13 (xKk (xKm A xs.toInt.toNat xw xt) xs (Int32.ofInt (-1))) H1 ∧ H1.2.1 0 4 = H.2.1 0 4) ∨ (¬ ((A.2.2.1 xs.toInt.toNat 2).toInt < 8 ∧ (0 ≤ xw.toInt ∧ xw.toInt ≤ 3) ∧ 1 ≤ xt.toInt ∧ xt.toInt ≤ 9) ∧ u = Int32.ofInt (-1) ∧ yHc 13 A H1 ∧ H1.2.1 0 4 = H.2.1 0 4 + Int32.ofInt 1)) ∧ zw_W H1 ∧ H1.2.2 = H.2.2 := by
  obtain ⟨_, q1, H1, u, rfl, q2, W1, q3⟩ := yc_wr0 (L := L) (σ := σ) (d := d) (xw := xw) (xt := xt) hB hw h hs
  have W := zB_Wd (zB_dn (zB_Bc hB))
  refine ⟨H1, u, zw_ex (zw_met zm_111_t rfl rfl ?_), q2, W1, q3⟩
  refine zw_ld (n := 2) (k := 4) (f := zp_isR) (pc' := 2) rfl rfl rfl rfl rfl ?_
  refine zw_s (pc' := 3) rfl rfl ?_
  refine zw_ld (n := 1) (k := 0) (f := zp_isR) (pc' := 4) rfl rfl rfl rfl rfl ?_
  refine zw_ld (n := 1) (k := 1) (f := zp_isI) (pc' := 5) rfl rfl rfl rfl rfl ?_
  refine zw_ld (n := 1) (k := 2) (f := zp_isI) (pc' := 6) rfl rfl rfl rfl rfl ?_
  refine zw_ld (n := 1) (k := 3) (f := zp_isI) (pc' := 7) rfl rfl rfl rfl rfl ?_
  refine zw_ct (pc' := 10) (c' := (1, 6)) (zw_cv (q := 0) (Y := zm_112) W.1 rfl rfl zm_112_t rfl rfl) (zw_pb_ok rfl) rfl rfl rfl rfl (q1) ?_
  refine zw_s (pc' := 11) rfl rfl ?_
  refine zw_ls (q := 104) (pc' := 12) W1 rfl rfl (⟨by decide, by decide⟩) rfl ?_
  refine zw_s (pc' := 19) rfl rfl ?_
  refine zw_s (pc' := 20) rfl rfl ?_
  refine zw_rig rfl rfl ⟨by decide, by decide⟩ ?_
  rfl

theorem yc_wrn0 {L : Nat} {σ : Nat → Int32} {d : Nat} {H : zp_H} {xs xw xt : Int32} (hB : zk_Bs (zB_c 0) zg zJc H) (h : ¬ (0 ≤ xs.toInt ∧ xs.toInt < (H.2.1 13 0).toInt)) : zp_Call L σ (d + 3) 112 [.inr (.inr (some 1)), .inl xs, .inl xw, .inl xt] H (.inr 0, H) := by
  have W := zB_Wd (zB_dn (zB_Bc hB))
  have g5 : H.2.2.2 0 5 = some 3 := hB.2.1 0 5 _ rfl
  have g6 : H.2.2.2 0 6 = some 14 := hB.2.1 0 6 _ rfl
  have g7 : H.2.2.2 0 7 = some 23 := hB.2.1 0 7 _ rfl
  have g8 : H.2.2.2 0 8 = some 34 := hB.2.1 0 8 _ rfl
  refine zw_ex (zw_met zm_112_t rfl rfl ?_)
  refine zw_ld (n := 1) (k := 0) (f := zp_isR) (pc' := 1) rfl rfl rfl rfl rfl ?_
  refine zw_ld (n := 1) (k := 1) (f := zp_isI) (pc' := 2) rfl rfl rfl rfl rfl ?_
  refine zw_cthr (ex := 0) (zw_cv (q := 0) (Y := zm_108) W.1 rfl rfl zm_108_t rfl rfl) (zw_pb_ok rfl) rfl rfl (yc_ns0_0 hB h) ?_
  rfl

theorem yl_wrn0 {L : Nat} {σ : Nat → Int32} {d : Nat} {H : zp_H} {xs xw xt : Int32} (hB : zk_Bs (zB_c 0) zg zJc H) (h : ¬ (0 ≤ xs.toInt ∧ xs.toInt < (H.2.1 13 0).toInt)) : zp_Call L σ (d + 4) 111 [.inr (.inr (some 1)), .inl xs, .inl xw, .inl xt, .inr (.inr (some 105))] H (.inl (some (.inl (Int32.ofInt 1))), H) := by
  have W := zB_Wd (zB_dn (zB_Bc hB))
  refine zw_ex (zw_met zm_111_t rfl rfl ?_)
  refine zw_ld (n := 2) (k := 4) (f := zp_isR) (pc' := 2) rfl rfl rfl rfl rfl ?_
  refine zw_s (pc' := 3) rfl rfl ?_
  refine zw_ld (n := 1) (k := 0) (f := zp_isR) (pc' := 4) rfl rfl rfl rfl rfl ?_
  refine zw_ld (n := 1) (k := 1) (f := zp_isI) (pc' := 5) rfl rfl rfl rfl rfl ?_
  refine zw_ld (n := 1) (k := 2) (f := zp_isI) (pc' := 6) rfl rfl rfl rfl rfl ?_
  refine zw_ld (n := 1) (k := 3) (f := zp_isI) (pc' := 7) rfl rfl rfl rfl rfl ?_
  refine zw_cexw (ex := 0) (hp9 := 15) (k9 := 5) (pc' := 17) (c' := (1, 6)) (zw_cv (q := 0) (Y := zm_112) W.1 rfl rfl zm_112_t rfl rfl) (zw_pb_ok rfl) rfl rfl rfl rfl rfl rfl rfl (yc_wrn0 hB h) ?_
  refine zw_s (pc' := 18) rfl rfl ?_
  refine zw_rig rfl rfl ⟨by decide, by decide⟩ ?_
  rfl

theorem yc_wr3 {L : Nat} {σ : Nat → Int32} {d : Nat} {H : zp_H} {A : xK} {xs xw xt : Int32} (hB : zk_Bs (zB_c 3) zg zJc H) (hw : xKw A) (h : yHc 33 A H) (hs : 0 ≤ xs.toInt ∧ xs.toInt < A.1) : ∃ X, zp_Call L σ (d + 3) 112 [.inr (.inr (some 1)), .inl xs, .inl xw, .inl xt] H X ∧ ∃ H1 u, X = (.inl (some (.inl u)), H1) ∧ ((((A.2.2.1 xs.toInt.toNat 2).toInt < 8 ∧ (0 ≤ xw.toInt ∧ xw.toInt ≤ 3) ∧ 1 ≤ xt.toInt ∧ xt.toInt ≤ 9) ∧ u.toInt = (A.2.2.1 xs.toInt.toNat 2).toInt + 1 ∧ yHc 33 (xKk (xKm A xs.toInt.toNat xw xt) xs (Int32.ofInt (-1))) H1 ∧ H1.2.1 0 4 = H.2.1 0 4) ∨ (¬ ((A.2.2.1 xs.toInt.toNat 2).toInt < 8 ∧ (0 ≤ xw.toInt ∧ xw.toInt ≤ 3) ∧ 1 ≤ xt.toInt ∧ xt.toInt ≤ 9) ∧ u = Int32.ofInt (-1) ∧ yHc 33 A H1 ∧ H1.2.1 0 4 = H.2.1 0 4 + Int32.ofInt 1)) ∧ zw_W H1 ∧ H1.2.2 = H.2.2 := by
  have W := zB_Wd (zB_dn (zB_Bc hB))
  have g5 : H.2.2.2 0 5 = some 23 := hB.2.1 0 5 _ rfl
  have g6 : H.2.2.2 0 6 = some 34 := hB.2.1 0 6 _ rfl
  have g7 : H.2.2.2 0 7 = some 3 := hB.2.1 0 7 _ rfl
  have g8 : H.2.2.2 0 8 = some 14 := hB.2.1 0 8 _ rfl
  obtain ⟨b1, b2, b3, b4⟩ := hw
  have n0 := h.1
  have em : H.2.1 36 xs.toInt.toNat = A.2.2.1 xs.toInt.toNat 2 := h.2.2.1 xs.toInt.toNat 2 (by omega) (by decide)
  have em9 : (H.2.1 36 xs.toInt.toNat).toInt = (A.2.2.1 xs.toInt.toNat 2).toInt := congrArg Int32.toInt em
  have hm := b3 xs.toInt.toNat (by omega)
  refine zw_met zm_112_t rfl rfl ?_
  refine zw_ld (n := 1) (k := 0) (f := zp_isR) (pc' := 1) rfl rfl rfl rfl rfl ?_
  refine zw_ld (n := 1) (k := 1) (f := zp_isI) (pc' := 2) rfl rfl rfl rfl rfl ?_
  refine zw_ctn (pc' := 5) (c' := (1, 6)) (zw_cv (q := 0) (Y := zm_108) W.1 rfl rfl zm_108_t rfl rfl) (zw_pb_ok rfl) rfl rfl rfl rfl (yc_ns1_3 hB (by omega)) ?_
  refine zw_ld (n := 1) (k := 2) (f := zp_isI) (pc' := 6) rfl rfl rfl rfl rfl ?_
  refine zw_blt1 (g := 29) (pc' := 9) rfl rfl rfl rfl (fun g0 => ?_) (fun g0 => ?_)
  · refine zw_s (pc' := 30) rfl rfl ?_
    refine zw_st (n := 2) (k := 4) (f := zp_isI) (pc' := 32) rfl rfl rfl rfl rfl ?_
    refine zw_ld (n := 2) (k := 4) (f := zp_isI) (pc' := 34) rfl rfl zw_g1 rfl rfl ?_
    refine zw_beq1 (g := 51) (pc' := 37) rfl rfl rfl (rfl : _ = (0 : Int)) (fun h9 => ?_) (fun h9 => absurd h9 (by decide))
    refine zw_ld (n := 1) (k := 0) (f := zp_isR) (pc' := 52) rfl rfl (zw_gt rfl rfl rfl) rfl rfl ?_
    refine zw_s (pc' := 53) rfl rfl ?_
    refine zw_gI (q := 0) (pc' := 56) W rfl rfl rfl rfl rfl rfl ?_
    refine zw_s (pc' := 57) rfl rfl ?_
    refine zw_iadd (pc' := 58) rfl rfl ?_
    refine zw_pI (q := 0) (pc' := 61) W rfl rfl rfl rfl rfl rfl ?_
    refine zw_s (pc' := 62) rfl rfl ?_
    refine zw_rig rfl rfl ⟨by decide, by decide⟩ ?_
    refine ⟨_, _, rfl, Or.inr ⟨by omega, rfl, yHc_c (H := H) (fun p k p1 p2 => y_ne (fun h9 => by have := h9.1; omega)) h, zw_eq⟩, zw_W_I W, rfl⟩
  · refine zw_ld (n := 1) (k := 2) (f := zp_isI) (pc' := 10) rfl rfl rfl rfl rfl ?_
    refine zw_s (pc' := 11) rfl rfl ?_
    refine zw_bge2 (g := 29) (pc' := 14) rfl rfl rfl rfl (rfl : _ = (4 : Int)) (fun g1 => ?_) (fun g1 => ?_)
    · refine zw_s (pc' := 30) rfl rfl ?_
      refine zw_st (n := 2) (k := 4) (f := zp_isI) (pc' := 32) rfl rfl rfl rfl rfl ?_
      refine zw_ld (n := 2) (k := 4) (f := zp_isI) (pc' := 34) rfl rfl zw_g1 rfl rfl ?_
      refine zw_beq1 (g := 51) (pc' := 37) rfl rfl rfl (rfl : _ = (0 : Int)) (fun h9 => ?_) (fun h9 => absurd h9 (by decide))
      refine zw_ld (n := 1) (k := 0) (f := zp_isR) (pc' := 52) rfl rfl (zw_gt rfl rfl rfl) rfl rfl ?_
      refine zw_s (pc' := 53) rfl rfl ?_
      refine zw_gI (q := 0) (pc' := 56) W rfl rfl rfl rfl rfl rfl ?_
      refine zw_s (pc' := 57) rfl rfl ?_
      refine zw_iadd (pc' := 58) rfl rfl ?_
      refine zw_pI (q := 0) (pc' := 61) W rfl rfl rfl rfl rfl rfl ?_
      refine zw_s (pc' := 62) rfl rfl ?_
      refine zw_rig rfl rfl ⟨by decide, by decide⟩ ?_
      refine ⟨_, _, rfl, Or.inr ⟨by omega, rfl, yHc_c (H := H) (fun p k p1 p2 => y_ne (fun h9 => by have := h9.1; omega)) h, zw_eq⟩, zw_W_I W, rfl⟩
    · refine zw_ld (n := 1) (k := 3) (f := zp_isI) (pc' := 15) rfl rfl rfl rfl rfl ?_
      refine zw_s (pc' := 16) rfl rfl ?_
      refine zw_blt2 (g := 29) (pc' := 19) rfl rfl rfl rfl (rfl : _ = (1 : Int)) (fun g2 => ?_) (fun g2 => ?_)
      · refine zw_s (pc' := 30) rfl rfl ?_
        refine zw_st (n := 2) (k := 4) (f := zp_isI) (pc' := 32) rfl rfl rfl rfl rfl ?_
        refine zw_ld (n := 2) (k := 4) (f := zp_isI) (pc' := 34) rfl rfl zw_g1 rfl rfl ?_
        refine zw_beq1 (g := 51) (pc' := 37) rfl rfl rfl (rfl : _ = (0 : Int)) (fun h9 => ?_) (fun h9 => absurd h9 (by decide))
        refine zw_ld (n := 1) (k := 0) (f := zp_isR) (pc' := 52) rfl rfl (zw_gt rfl rfl rfl) rfl rfl ?_
        refine zw_s (pc' := 53) rfl rfl ?_
        refine zw_gI (q := 0) (pc' := 56) W rfl rfl rfl rfl rfl rfl ?_
        refine zw_s (pc' := 57) rfl rfl ?_
        refine zw_iadd (pc' := 58) rfl rfl ?_
        refine zw_pI (q := 0) (pc' := 61) W rfl rfl rfl rfl rfl rfl ?_
        refine zw_s (pc' := 62) rfl rfl ?_
        refine zw_rig rfl rfl ⟨by decide, by decide⟩ ?_
        refine ⟨_, _, rfl, Or.inr ⟨by omega, rfl, yHc_c (H := H) (fun p k p1 p2 => y_ne (fun h9 => by have := h9.1; omega)) h, zw_eq⟩, zw_W_I W, rfl⟩
      · refine zw_ld (n := 1) (k := 3) (f := zp_isI) (pc' := 20) rfl rfl rfl rfl rfl ?_
        refine zw_s (pc' := 22) rfl rfl ?_
        refine zw_bgt2 (g := 29) (pc' := 25) rfl rfl rfl rfl (rfl : _ = (9 : Int)) (fun g3 => ?_) (fun g3 => ?_)
        · refine zw_s (pc' := 30) rfl rfl ?_
          refine zw_st (n := 2) (k := 4) (f := zp_isI) (pc' := 32) rfl rfl rfl rfl rfl ?_
          refine zw_ld (n := 2) (k := 4) (f := zp_isI) (pc' := 34) rfl rfl zw_g1 rfl rfl ?_
          refine zw_beq1 (g := 51) (pc' := 37) rfl rfl rfl (rfl : _ = (0 : Int)) (fun h9 => ?_) (fun h9 => absurd h9 (by decide))
          refine zw_ld (n := 1) (k := 0) (f := zp_isR) (pc' := 52) rfl rfl (zw_gt rfl rfl rfl) rfl rfl ?_
          refine zw_s (pc' := 53) rfl rfl ?_
          refine zw_gI (q := 0) (pc' := 56) W rfl rfl rfl rfl rfl rfl ?_
          refine zw_s (pc' := 57) rfl rfl ?_
          refine zw_iadd (pc' := 58) rfl rfl ?_
          refine zw_pI (q := 0) (pc' := 61) W rfl rfl rfl rfl rfl rfl ?_
          refine zw_s (pc' := 62) rfl rfl ?_
          refine zw_rig rfl rfl ⟨by decide, by decide⟩ ?_
          refine ⟨_, _, rfl, Or.inr ⟨by omega, rfl, yHc_c (H := H) (fun p k p1 p2 => y_ne (fun h9 => by have := h9.1; omega)) h, zw_eq⟩, zw_W_I W, rfl⟩
        · refine zw_s (pc' := 26) rfl rfl ?_
          refine zw_s (pc' := 30) rfl rfl ?_
          refine zw_st (n := 2) (k := 4) (f := zp_isI) (pc' := 32) rfl rfl rfl rfl rfl ?_
          refine zw_ld (n := 2) (k := 4) (f := zp_isI) (pc' := 34) rfl rfl zw_g1 rfl rfl ?_
          refine zw_beq1 (g := 51) (pc' := 37) rfl rfl rfl (rfl : _ = (1 : Int)) (fun h9 => absurd h9 (by decide)) (fun h9 => ?_)
          refine zw_ld (n := 1) (k := 0) (f := zp_isR) (pc' := 38) rfl rfl (zw_gt rfl rfl rfl) rfl rfl ?_
          refine zw_gR (q := 0) (pc' := 41) W rfl rfl rfl rfl g6 rfl ?_
          refine zw_gR (q := 33) (pc' := 44) W rfl rfl rfl rfl (W.2 33 3 _ rfl) rfl ?_
          refine zw_ld (n := 1) (k := 1) (f := zp_isI) (pc' := 45) rfl rfl (zw_gt rfl rfl rfl) rfl rfl ?_
          refine zw_ia (q := 36) (pc' := 46) W rfl rfl (by decide) (⟨hs.1, by show _ < ((8 : Nat) : Int); omega⟩) rfl rfl ?_
          refine zw_s (pc' := 48) rfl rfl ?_
          refine zw_blt2 (g := 63) (pc' := 51) rfl rfl rfl rfl (rfl : _ = (8 : Int)) (fun h10 => ?_) (fun h10 => ?_)
          · obtain ⟨_, q1, H1, rfl, W1, q2, q3, q4⟩ := yc_keep33 (L := L) (σ := σ) (d := d + 1) (s := xs) (v := Int32.ofInt (-1)) W ⟨b1, b2, b3, b4⟩ h
            have g6b : H1.2.2.2 0 6 = some 34 := (congrArg (fun z => z.2 0 6) q2).trans g6
            refine zw_ld (n := 1) (k := 0) (f := zp_isR) (pc' := 64) rfl rfl (zw_gt rfl rfl rfl) rfl rfl ?_
            refine zw_gR (q := 0) (pc' := 67) W rfl rfl rfl rfl g6 rfl ?_
            refine zw_ld (n := 1) (k := 1) (f := zp_isI) (pc' := 68) rfl rfl (zw_gt rfl rfl rfl) rfl rfl ?_
            refine zw_s (pc' := 69) rfl rfl ?_
            refine zw_cn (pc' := 72) (zw_cv (q := 33) (Y := zm_113) W.1 rfl rfl zm_113_t rfl rfl) rfl rfl rfl rfl rfl (q1) ?_
            have em1 : H1.2.1 36 xs.toInt.toNat = A.2.2.1 xs.toInt.toNat 2 := q3.2.2.1 xs.toInt.toNat 2 (by show xs.toInt.toNat < A.1; omega) (by decide)
            have e8 : (xs * Int32.ofInt 8 + H1.2.1 36 xs.toInt.toNat).toInt.toNat = 8 * xs.toInt.toNat + (A.2.2.1 xs.toInt.toNat 2).toInt.toNat := by
              have m1 : (xs * Int32.ofInt 8).toInt = xs.toInt * 8 := zq_mul rfl (by omega) (by omega)
              rw [em1, zq_add (by rw [m1]; omega) (by rw [m1]; omega), m1]
              omega
            refine zw_ld (n := 1) (k := 0) (f := zp_isR) (pc' := 73) rfl rfl (zw_gt rfl rfl rfl) rfl rfl ?_
            refine zw_gR (q := 0) (pc' := 76) W1 rfl rfl rfl rfl g6b rfl ?_
            refine zw_ld (n := 1) (k := 1) (f := zp_isI) (pc' := 77) rfl rfl (zw_gt rfl rfl rfl) rfl rfl ?_
            refine zw_ld (n := 1) (k := 2) (f := zp_isI) (pc' := 78) rfl rfl (zw_gt rfl rfl rfl) rfl rfl ?_
            refine zw_ld (n := 1) (k := 3) (f := zp_isI) (pc' := 79) rfl rfl (zw_gt rfl rfl rfl) rfl rfl ?_
            refine zw_cn (pc' := 82) (zw_cv (q := 33) (Y := zm_78) W1.1 rfl rfl zm_78_t rfl rfl) rfl rfl rfl rfl rfl (yc_pmX33 W1 (a := (A.2.2.1 xs.toInt.toNat 2).toInt.toNat) (by omega) (by rw [em1]; omega) (by omega)) ?_
            refine zw_ld (n := 1) (k := 0) (f := zp_isR) (pc' := 83) rfl rfl (zw_gt rfl rfl rfl) rfl rfl ?_
            refine zw_gR (q := 0) (pc' := 86) (zw_W_I (zw_W_I (zw_W_I W1))) rfl rfl rfl rfl g6b rfl ?_
            refine zw_gR (q := 33) (pc' := 89) (zw_W_I (zw_W_I (zw_W_I W1))) rfl rfl rfl rfl ((zw_W_I (zw_W_I (zw_W_I W1))).2 33 3 _ rfl) rfl ?_
            refine zw_ld (n := 1) (k := 1) (f := zp_isI) (pc' := 90) rfl rfl (zw_gt rfl rfl rfl) rfl rfl ?_
            refine zw_ia (q := 36) (pc' := 91) (zw_W_I (zw_W_I (zw_W_I W1))) rfl rfl (by decide) (⟨hs.1, by show _ < ((8 : Nat) : Int); omega⟩) rfl rfl ?_
            refine zw_rig rfl rfl ⟨by decide, by decide⟩ ?_
            refine ⟨_, _, rfl, Or.inl ⟨⟨by omega, by omega, by omega⟩, ?_, ?_, ?_⟩, zw_W_I (zw_W_I (zw_W_I W1)), q2⟩
            · refine (congrArg Int32.toInt zw_eq).trans ?_
              rw [em1, zw_p1 (by omega)]
            · rw [e8]
              refine (show yHc 33 (xKm (xKk A xs (Int32.ofInt (-1))) xs.toInt.toNat xw xt) _ from yHc_m q3 (xKw_k ⟨b1, b2, b3, b4⟩ ⟨hs.1, hs.2⟩) (by show xs.toInt.toNat < A.1; omega) (by show (A.2.2.1 xs.toInt.toNat 2).toInt < 8; omega) (fun p k p1 p2 p3 p4 p5 => (y_ne (fun h9 => p3 h9)).trans ((y_ne (fun h9 => p5 h9)).trans (y_ne (fun h9 => p4 h9)))) ?_ ?_ ?_)
              · exact zw_eq.trans (congrArg (fun z : Int32 => z + Int32.ofInt 1) em1)
              · exact (y_ne (fun h9 => absurd h9.1 (by decide))).trans ((y_ne (fun h9 => absurd h9.1 (by decide))).trans zw_eq)
              · exact (y_ne (fun h9 => absurd h9.1 (by decide))).trans zw_eq
            · exact (y_ne (fun h9 => absurd h9.1 (by decide))).trans ((y_ne (fun h9 => absurd h9.1 (by decide))).trans ((y_ne (fun h9 => absurd h9.1 (by decide))).trans (q4 0 4 (by decide) (by decide) (by decide))))
          · refine zw_ld (n := 1) (k := 0) (f := zp_isR) (pc' := 52) rfl rfl (zw_gt rfl rfl rfl) rfl rfl ?_
            refine zw_s (pc' := 53) rfl rfl ?_
            refine zw_gI (q := 0) (pc' := 56) W rfl rfl rfl rfl rfl rfl ?_
            refine zw_s (pc' := 57) rfl rfl ?_
            refine zw_iadd (pc' := 58) rfl rfl ?_
            refine zw_pI (q := 0) (pc' := 61) W rfl rfl rfl rfl rfl rfl ?_
            refine zw_s (pc' := 62) rfl rfl ?_
            refine zw_rig rfl rfl ⟨by decide, by decide⟩ ?_
            refine ⟨_, _, rfl, Or.inr ⟨by omega, rfl, yHc_c (H := H) (fun p k p1 p2 => y_ne (fun h9 => by have := h9.1; omega)) h, zw_eq⟩, zw_W_I W, rfl⟩

theorem yl_wr3 {L : Nat} {σ : Nat → Int32} {d : Nat} {H : zp_H} {A : xK} {xs xw xt : Int32} (hB : zk_Bs (zB_c 3) zg zJc H) (hw : xKw A) (h : yHc 33 A H) (hs : 0 ≤ xs.toInt ∧ xs.toInt < A.1) : ∃ H1 u, zp_Call L σ (d + 4) 111 [.inr (.inr (some 1)), .inl xs, .inl xw, .inl xt, .inr (.inr (some 105))] H (.inl (some (.inl (Int32.ofInt 0))), zw_J H1 104 0 u.toInt64) ∧ ((((A.2.2.1 xs.toInt.toNat 2).toInt < 8 ∧ (0 ≤ xw.toInt ∧ xw.toInt ≤ 3) ∧ 1 ≤ xt.toInt ∧ xt.toInt ≤ 9) ∧ u.toInt = (A.2.2.1 xs.toInt.toNat 2).toInt + 1 ∧ yHc 33 (xKk (xKm A xs.toInt.toNat xw xt) xs (Int32.ofInt (-1))) H1 ∧ H1.2.1 0 4 = H.2.1 0 4) ∨ (¬ ((A.2.2.1 xs.toInt.toNat 2).toInt < 8 ∧ (0 ≤ xw.toInt ∧ xw.toInt ≤ 3) ∧ 1 ≤ xt.toInt ∧ xt.toInt ≤ 9) ∧ u = Int32.ofInt (-1) ∧ yHc 33 A H1 ∧ H1.2.1 0 4 = H.2.1 0 4 + Int32.ofInt 1)) ∧ zw_W H1 ∧ H1.2.2 = H.2.2 := by
  obtain ⟨_, q1, H1, u, rfl, q2, W1, q3⟩ := yc_wr3 (L := L) (σ := σ) (d := d) (xw := xw) (xt := xt) hB hw h hs
  have W := zB_Wd (zB_dn (zB_Bc hB))
  refine ⟨H1, u, zw_ex (zw_met zm_111_t rfl rfl ?_), q2, W1, q3⟩
  refine zw_ld (n := 2) (k := 4) (f := zp_isR) (pc' := 2) rfl rfl rfl rfl rfl ?_
  refine zw_s (pc' := 3) rfl rfl ?_
  refine zw_ld (n := 1) (k := 0) (f := zp_isR) (pc' := 4) rfl rfl rfl rfl rfl ?_
  refine zw_ld (n := 1) (k := 1) (f := zp_isI) (pc' := 5) rfl rfl rfl rfl rfl ?_
  refine zw_ld (n := 1) (k := 2) (f := zp_isI) (pc' := 6) rfl rfl rfl rfl rfl ?_
  refine zw_ld (n := 1) (k := 3) (f := zp_isI) (pc' := 7) rfl rfl rfl rfl rfl ?_
  refine zw_ct (pc' := 10) (c' := (1, 6)) (zw_cv (q := 0) (Y := zm_112) W.1 rfl rfl zm_112_t rfl rfl) (zw_pb_ok rfl) rfl rfl rfl rfl (q1) ?_
  refine zw_s (pc' := 11) rfl rfl ?_
  refine zw_ls (q := 104) (pc' := 12) W1 rfl rfl (⟨by decide, by decide⟩) rfl ?_
  refine zw_s (pc' := 19) rfl rfl ?_
  refine zw_s (pc' := 20) rfl rfl ?_
  refine zw_rig rfl rfl ⟨by decide, by decide⟩ ?_
  rfl

theorem yc_wrn3 {L : Nat} {σ : Nat → Int32} {d : Nat} {H : zp_H} {xs xw xt : Int32} (hB : zk_Bs (zB_c 3) zg zJc H) (h : ¬ (0 ≤ xs.toInt ∧ xs.toInt < (H.2.1 33 0).toInt)) : zp_Call L σ (d + 3) 112 [.inr (.inr (some 1)), .inl xs, .inl xw, .inl xt] H (.inr 0, H) := by
  have W := zB_Wd (zB_dn (zB_Bc hB))
  have g5 : H.2.2.2 0 5 = some 23 := hB.2.1 0 5 _ rfl
  have g6 : H.2.2.2 0 6 = some 34 := hB.2.1 0 6 _ rfl
  have g7 : H.2.2.2 0 7 = some 3 := hB.2.1 0 7 _ rfl
  have g8 : H.2.2.2 0 8 = some 14 := hB.2.1 0 8 _ rfl
  refine zw_ex (zw_met zm_112_t rfl rfl ?_)
  refine zw_ld (n := 1) (k := 0) (f := zp_isR) (pc' := 1) rfl rfl rfl rfl rfl ?_
  refine zw_ld (n := 1) (k := 1) (f := zp_isI) (pc' := 2) rfl rfl rfl rfl rfl ?_
  refine zw_cthr (ex := 0) (zw_cv (q := 0) (Y := zm_108) W.1 rfl rfl zm_108_t rfl rfl) (zw_pb_ok rfl) rfl rfl (yc_ns0_3 hB h) ?_
  rfl

theorem yl_wrn3 {L : Nat} {σ : Nat → Int32} {d : Nat} {H : zp_H} {xs xw xt : Int32} (hB : zk_Bs (zB_c 3) zg zJc H) (h : ¬ (0 ≤ xs.toInt ∧ xs.toInt < (H.2.1 33 0).toInt)) : zp_Call L σ (d + 4) 111 [.inr (.inr (some 1)), .inl xs, .inl xw, .inl xt, .inr (.inr (some 105))] H (.inl (some (.inl (Int32.ofInt 1))), H) := by
  have W := zB_Wd (zB_dn (zB_Bc hB))
  refine zw_ex (zw_met zm_111_t rfl rfl ?_)
  refine zw_ld (n := 2) (k := 4) (f := zp_isR) (pc' := 2) rfl rfl rfl rfl rfl ?_
  refine zw_s (pc' := 3) rfl rfl ?_
  refine zw_ld (n := 1) (k := 0) (f := zp_isR) (pc' := 4) rfl rfl rfl rfl rfl ?_
  refine zw_ld (n := 1) (k := 1) (f := zp_isI) (pc' := 5) rfl rfl rfl rfl rfl ?_
  refine zw_ld (n := 1) (k := 2) (f := zp_isI) (pc' := 6) rfl rfl rfl rfl rfl ?_
  refine zw_ld (n := 1) (k := 3) (f := zp_isI) (pc' := 7) rfl rfl rfl rfl rfl ?_
  refine zw_cexw (ex := 0) (hp9 := 15) (k9 := 5) (pc' := 17) (c' := (1, 6)) (zw_cv (q := 0) (Y := zm_112) W.1 rfl rfl zm_112_t rfl rfl) (zw_pb_ok rfl) rfl rfl rfl rfl rfl rfl rfl (yc_wrn3 hB h) ?_
  refine zw_s (pc' := 18) rfl rfl ?_
  refine zw_rig rfl rfl ⟨by decide, by decide⟩ ?_
  rfl
end
