/-! ===== the class keeps acts, exactly ===== -/
def zm_113 : za_MI := (yX0_keepAct, prog_2_method_9_code, 3, none, 0, 0, 0, [], za_i113)
theorem zm_113_t : za_MT 113 = some zm_113 := rfl
theorem yc_kt13 {L : Nat} {σ : Nat → Int32} {d : Nat} {P : zp_X → Prop} {H : zp_H} {lv : zp_LV} {s v : Int32} (W : zw_W H) (h29 : 0 ≤ (H.2.1 13 7).toInt ∧ (H.2.1 13 7).toInt ≤ 29) (l0 : zp_get lv 0 = some (.inr (.inr (some 14)))) (l1 : zp_get lv 1 = some (.inl s)) (l2 : zp_get lv 2 = some (.inl v)) (hP : P (.inl none, zw_I (zw_I (zw_I H 20 (H.2.1 13 7).toInt.toNat s) 21 (H.2.1 13 7).toInt.toNat v) 13 7 (H.2.1 13 7 + Int32.ofInt 1))) : zs_Safe L σ P zm_113 [] d (45, lv, [], H, (0, 0)) := by
  refine zw_ld (n := 1) (k := 0) (f := zp_isR) (pc' := 46) rfl rfl l0 rfl rfl ?_
  refine zw_gR (q := 13) (pc' := 49) W rfl rfl rfl rfl (W.2 13 8 _ rfl) rfl ?_
  refine zw_ld (n := 1) (k := 0) (f := zp_isR) (pc' := 50) rfl rfl l0 rfl rfl ?_
  refine zw_gI (q := 13) (pc' := 53) W rfl rfl rfl rfl rfl rfl ?_
  refine zw_ld (n := 1) (k := 1) (f := zp_isI) (pc' := 54) rfl rfl l1 rfl rfl ?_
  refine zw_is (q := 20) (pc' := 55) W rfl rfl (by decide) (⟨by omega, by show _ < ((30 : Nat) : Int); omega⟩) rfl ?_
  refine zw_ld (n := 1) (k := 0) (f := zp_isR) (pc' := 56) rfl rfl l0 rfl rfl ?_
  refine zw_gR (q := 13) (pc' := 59) (zw_W_I W) rfl rfl rfl rfl ((zw_W_I W).2 13 9 _ rfl) rfl ?_
  refine zw_ld (n := 1) (k := 0) (f := zp_isR) (pc' := 60) rfl rfl l0 rfl rfl ?_
  refine zw_gI (q := 13) (pc' := 63) (zw_W_I W) rfl rfl rfl rfl (zw_ne rfl rfl) rfl ?_
  refine zw_ld (n := 1) (k := 2) (f := zp_isI) (pc' := 64) rfl rfl l2 rfl rfl ?_
  refine zw_is (q := 21) (pc' := 65) (zw_W_I W) rfl rfl (by decide) (⟨by omega, by show _ < ((30 : Nat) : Int); omega⟩) rfl ?_
  refine zw_ld (n := 1) (k := 0) (f := zp_isR) (pc' := 66) rfl rfl l0 rfl rfl ?_
  refine zw_s (pc' := 67) rfl rfl ?_
  refine zw_gI (q := 13) (pc' := 70) (zw_W_I (zw_W_I W)) rfl rfl rfl rfl (zw_ne (zw_ne rfl rfl) rfl) rfl ?_
  refine zw_s (pc' := 71) rfl rfl ?_
  refine zw_iadd (pc' := 72) rfl rfl ?_
  refine zw_pI (q := 13) (pc' := 75) (zw_W_I (zw_W_I W)) rfl rfl rfl rfl rfl rfl ?_
  refine zw_rn rfl rfl ?_
  exact hP

theorem yc_keep13 {L : Nat} {σ : Nat → Int32} {d : Nat} {H : zp_H} {A : xK} {s v : Int32} (W : zw_W H) (hw : xKw A) (h : yHc 13 A H) : ∃ X, zp_Call L σ (d + 1) 113 [.inr (.inr (some 14)), .inl s, .inl v] H X ∧ ∃ H1, X = (.inl none, H1) ∧ zw_W H1 ∧ H1.2.2 = H.2.2 ∧ yHc 13 (xKk A s v) H1 ∧ ∀ p k, p ≠ 20 → p ≠ 21 → ¬ (p = 13 ∧ k = 7) → H1.2.1 p k = H.2.1 p k := by
  obtain ⟨b1, b2, b3, b4⟩ := hw
  have h7 := h.2.1
  have f7 : 0 ≤ (H.2.1 13 7).toInt ∧ (H.2.1 13 7).toInt ≤ 30 := by omega
  have en : (H.2.1 13 7).toInt.toNat = A.2.1 := by omega
  refine zw_met zm_113_t rfl rfl ?_
  refine zw_ld (n := 1) (k := 0) (f := zp_isR) (pc' := 1) rfl rfl rfl rfl rfl ?_
  refine zw_gI (q := 13) (pc' := 4) W rfl rfl rfl rfl rfl rfl ?_
  refine zw_s (pc' := 6) rfl rfl ?_
  refine zw_blt2 (g := 45) (pc' := 9) rfl rfl rfl rfl (rfl : _ = (30 : Int)) (fun hb => ?_) (fun hb => ?_)
  · refine yc_kt13 W ⟨f7.1, by omega⟩ rfl rfl rfl ⟨_, rfl, zw_W_I (zw_W_I (zw_W_I W)), rfl, ?_, fun p k p1 p2 p3 => (y_ne (fun h9 => p3 h9)).trans ((y_ne (fun h9 => p2 h9.1)).trans (y_ne (fun h9 => p1 h9.1)))⟩
    rw [en]
    refine yHc_k1 h (by omega) (fun p k p1 p2 p3 => (y_ne (fun h9 => p3 h9)).trans ((y_ne (fun h9 => by have := h9.1; omega)).trans (y_ne (fun h9 => by have := h9.1; omega)))) ?_ (fun k w hw hk => ?_) ?_ ?_
    · rw [show (zw_I (zw_I (zw_I H 20 A.2.1 s) 21 A.2.1 v) 13 7 (H.2.1 13 7 + Int32.ofInt 1)).2.1 13 7 = H.2.1 13 7 + Int32.ofInt 1 from zw_eq, zw_p1 (by omega)]
      omega
    · exact (y_ne (fun h9 => by have := h9.1; omega)).trans ((y_ne (fun h9 => hk h9.2)).trans (y_ne (fun h9 => hk h9.2)))
    · exact (y_ne (fun h9 => absurd h9.1 (by decide))).trans ((y_ne (fun h9 => absurd h9.1 (by decide))).trans zw_eq)
    · exact (y_ne (fun h9 => absurd h9.1 (by decide))).trans zw_eq
  · refine zw_ld (n := 1) (k := 0) (f := zp_isR) (pc' := 10) rfl rfl rfl rfl rfl ?_
    refine zw_gR (q := 13) (pc' := 13) W rfl rfl rfl rfl (W.2 13 8 _ rfl) rfl ?_
    refine zw_s (pc' := 14) rfl rfl ?_
    refine zw_ld (n := 1) (k := 0) (f := zp_isR) (pc' := 15) rfl rfl rfl rfl rfl ?_
    refine zw_gR (q := 13) (pc' := 18) W rfl rfl rfl rfl (W.2 13 8 _ rfl) rfl ?_
    refine zw_s (pc' := 19) rfl rfl ?_
    refine zw_s (pc' := 21) rfl rfl ?_
    refine zw_ac (q0 := 20) (q1 := 20) (pc' := 24) W rfl rfl rfl rfl ⟨by decide, by decide, by decide, by decide, by decide, by decide⟩ rfl ?_
    refine zw_ld (n := 1) (k := 0) (f := zp_isR) (pc' := 25) rfl rfl rfl rfl rfl ?_
    refine zw_gR (q := 13) (pc' := 28) W rfl rfl rfl rfl (W.2 13 9 _ rfl) rfl ?_
    refine zw_s (pc' := 29) rfl rfl ?_
    refine zw_ld (n := 1) (k := 0) (f := zp_isR) (pc' := 30) rfl rfl rfl rfl rfl ?_
    refine zw_gR (q := 13) (pc' := 33) W rfl rfl rfl rfl (W.2 13 9 _ rfl) rfl ?_
    refine zw_s (pc' := 34) rfl rfl ?_
    refine zw_s (pc' := 36) rfl rfl ?_
    refine zw_ac (q0 := 21) (q1 := 21) (pc' := 39) W rfl rfl rfl rfl ⟨by decide, by decide, by decide, by decide, by decide, by decide⟩ rfl ?_
    have k1 : ∀ p k, p ≠ 20 → p ≠ 21 → (zw_K (zw_K H 20 (va_cpy (H.2.1 20) (H.2.1 20) 1 0 29)) 21 (va_cpy (H.2.1 21) (H.2.1 21) 1 0 29)).2.1 p k = H.2.1 p k := fun p k p1 p2 => (zw_Kn p2).trans (zw_Kn p1)
    have k2 : ∀ k, k < 29 → (zw_K (zw_K H 20 (va_cpy (H.2.1 20) (H.2.1 20) 1 0 29)) 21 (va_cpy (H.2.1 21) (H.2.1 21) 1 0 29)).2.1 20 k = H.2.1 20 (k + 1) := fun k hk => (zw_Kn (by decide)).trans (zw_Ke.trans ((va_cpy_i ⟨Nat.zero_le _, by omega⟩).trans (congrArg (H.2.1 20) (by omega))))
    have k3 : ∀ k, k < 29 → (zw_K (zw_K H 20 (va_cpy (H.2.1 20) (H.2.1 20) 1 0 29)) 21 (va_cpy (H.2.1 21) (H.2.1 21) 1 0 29)).2.1 21 k = H.2.1 21 (k + 1) := fun k hk => zw_Ke.trans ((va_cpy_i ⟨Nat.zero_le _, by omega⟩).trans (congrArg (H.2.1 21) (by omega)))
    have WK : zw_W (zw_K (zw_K H 20 (va_cpy (H.2.1 20) (H.2.1 20) 1 0 29)) 21 (va_cpy (H.2.1 21) (H.2.1 21) 1 0 29)) := W
    have k4 : (zw_K (zw_K H 20 (va_cpy (H.2.1 20) (H.2.1 20) 1 0 29)) 21 (va_cpy (H.2.1 21) (H.2.1 21) 1 0 29)).2.2 = H.2.2 := rfl
    show zs_Safe L σ _ zm_113 [] d (39, _, [], zw_K (zw_K H 20 (va_cpy (H.2.1 20) (H.2.1 20) 1 0 29)) 21 (va_cpy (H.2.1 21) (H.2.1 21) 1 0 29), (0, 0))
    generalize zw_K (zw_K H 20 (va_cpy (H.2.1 20) (H.2.1 20) 1 0 29)) 21 (va_cpy (H.2.1 21) (H.2.1 21) 1 0 29) = K at k1 k2 k3 k4 WK ⊢
    refine zw_ld (n := 1) (k := 0) (f := zp_isR) (pc' := 40) rfl rfl rfl rfl rfl ?_
    refine zw_s (pc' := 42) rfl rfl ?_
    refine zw_pI (q := 13) (pc' := 45) WK rfl rfl rfl rfl rfl rfl ?_
    have e7 : (zw_I K 13 7 (Int32.ofInt 29)).2.1 13 7 = Int32.ofInt 29 := zw_eq
    refine yc_kt13 (zw_W_I WK) (by rw [e7]; exact ⟨by decide, by decide⟩) rfl rfl rfl ⟨_, rfl, zw_W_I (zw_W_I (zw_W_I (zw_W_I WK))), k4, ?_, fun p k p1 p2 p3 => (y_ne (fun h9 => p3 h9)).trans ((y_ne (fun h9 => p2 h9.1)).trans ((y_ne (fun h9 => p1 h9.1)).trans ((y_ne (fun h9 => p3 h9)).trans (k1 p k p1 p2))))⟩
    rw [e7]
    show yHc 13 _ (zw_I (zw_I (zw_I (zw_I K 13 7 (Int32.ofInt 29)) 20 29 s) 21 29 v) 13 7 (Int32.ofInt 29 + Int32.ofInt 1))
    refine yHc_k2 h (by omega) (fun p k p1 p2 p3 => (y_ne (fun h9 => p3 h9)).trans ((y_ne (fun h9 => by have := h9.1; omega)).trans ((y_ne (fun h9 => by have := h9.1; omega)).trans ((y_ne (fun h9 => p3 h9)).trans (k1 p k (by omega) (by omega)))))) ?_ (fun k w hw hk => ?_) ?_ ?_
    · exact congrArg Int32.toInt zw_eq
    · rcases (show w = 0 ∨ w = 1 by omega) with rfl | rfl
      · exact (y_ne (fun h9 => absurd (show (20 : Nat) = 13 from h9.1) (by decide))).trans ((y_ne (fun h9 => by have := h9.2; omega)).trans ((y_ne (fun h9 => by have := h9.2; omega)).trans ((y_ne (fun h9 => absurd (show (20 : Nat) = 13 from h9.1) (by decide))).trans (k2 k hk))))
      · exact (y_ne (fun h9 => absurd (show (21 : Nat) = 13 from h9.1) (by decide))).trans ((y_ne (fun h9 => by have := h9.2; omega)).trans ((y_ne (fun h9 => by have := h9.2; omega)).trans ((y_ne (fun h9 => absurd (show (21 : Nat) = 13 from h9.1) (by decide))).trans (k3 k hk))))
    · exact (y_ne (fun h9 => absurd h9.1 (by decide))).trans ((y_ne (fun h9 => absurd h9.1 (by decide))).trans zw_eq)
    · exact (y_ne (fun h9 => absurd h9.1 (by decide))).trans zw_eq

theorem yc_kt33 {L : Nat} {σ : Nat → Int32} {d : Nat} {P : zp_X → Prop} {H : zp_H} {lv : zp_LV} {s v : Int32} (W : zw_W H) (h29 : 0 ≤ (H.2.1 33 7).toInt ∧ (H.2.1 33 7).toInt ≤ 29) (l0 : zp_get lv 0 = some (.inr (.inr (some 34)))) (l1 : zp_get lv 1 = some (.inl s)) (l2 : zp_get lv 2 = some (.inl v)) (hP : P (.inl none, zw_I (zw_I (zw_I H 40 (H.2.1 33 7).toInt.toNat s) 41 (H.2.1 33 7).toInt.toNat v) 33 7 (H.2.1 33 7 + Int32.ofInt 1))) : zs_Safe L σ P zm_113 [] d (45, lv, [], H, (0, 0)) := by
  refine zw_ld (n := 1) (k := 0) (f := zp_isR) (pc' := 46) rfl rfl l0 rfl rfl ?_
  refine zw_gR (q := 33) (pc' := 49) W rfl rfl rfl rfl (W.2 33 8 _ rfl) rfl ?_
  refine zw_ld (n := 1) (k := 0) (f := zp_isR) (pc' := 50) rfl rfl l0 rfl rfl ?_
  refine zw_gI (q := 33) (pc' := 53) W rfl rfl rfl rfl rfl rfl ?_
  refine zw_ld (n := 1) (k := 1) (f := zp_isI) (pc' := 54) rfl rfl l1 rfl rfl ?_
  refine zw_is (q := 40) (pc' := 55) W rfl rfl (by decide) (⟨by omega, by show _ < ((30 : Nat) : Int); omega⟩) rfl ?_
  refine zw_ld (n := 1) (k := 0) (f := zp_isR) (pc' := 56) rfl rfl l0 rfl rfl ?_
  refine zw_gR (q := 33) (pc' := 59) (zw_W_I W) rfl rfl rfl rfl ((zw_W_I W).2 33 9 _ rfl) rfl ?_
  refine zw_ld (n := 1) (k := 0) (f := zp_isR) (pc' := 60) rfl rfl l0 rfl rfl ?_
  refine zw_gI (q := 33) (pc' := 63) (zw_W_I W) rfl rfl rfl rfl (zw_ne rfl rfl) rfl ?_
  refine zw_ld (n := 1) (k := 2) (f := zp_isI) (pc' := 64) rfl rfl l2 rfl rfl ?_
  refine zw_is (q := 41) (pc' := 65) (zw_W_I W) rfl rfl (by decide) (⟨by omega, by show _ < ((30 : Nat) : Int); omega⟩) rfl ?_
  refine zw_ld (n := 1) (k := 0) (f := zp_isR) (pc' := 66) rfl rfl l0 rfl rfl ?_
  refine zw_s (pc' := 67) rfl rfl ?_
  refine zw_gI (q := 33) (pc' := 70) (zw_W_I (zw_W_I W)) rfl rfl rfl rfl (zw_ne (zw_ne rfl rfl) rfl) rfl ?_
  refine zw_s (pc' := 71) rfl rfl ?_
  refine zw_iadd (pc' := 72) rfl rfl ?_
  refine zw_pI (q := 33) (pc' := 75) (zw_W_I (zw_W_I W)) rfl rfl rfl rfl rfl rfl ?_
  refine zw_rn rfl rfl ?_
  exact hP

theorem yc_keep33 {L : Nat} {σ : Nat → Int32} {d : Nat} {H : zp_H} {A : xK} {s v : Int32} (W : zw_W H) (hw : xKw A) (h : yHc 33 A H) : ∃ X, zp_Call L σ (d + 1) 113 [.inr (.inr (some 34)), .inl s, .inl v] H X ∧ ∃ H1, X = (.inl none, H1) ∧ zw_W H1 ∧ H1.2.2 = H.2.2 ∧ yHc 33 (xKk A s v) H1 ∧ ∀ p k, p ≠ 40 → p ≠ 41 → ¬ (p = 33 ∧ k = 7) → H1.2.1 p k = H.2.1 p k := by
  obtain ⟨b1, b2, b3, b4⟩ := hw
  have h7 := h.2.1
  have f7 : 0 ≤ (H.2.1 33 7).toInt ∧ (H.2.1 33 7).toInt ≤ 30 := by omega
  have en : (H.2.1 33 7).toInt.toNat = A.2.1 := by omega
  refine zw_met zm_113_t rfl rfl ?_
  refine zw_ld (n := 1) (k := 0) (f := zp_isR) (pc' := 1) rfl rfl rfl rfl rfl ?_
  refine zw_gI (q := 33) (pc' := 4) W rfl rfl rfl rfl rfl rfl ?_
  refine zw_s (pc' := 6) rfl rfl ?_
  refine zw_blt2 (g := 45) (pc' := 9) rfl rfl rfl rfl (rfl : _ = (30 : Int)) (fun hb => ?_) (fun hb => ?_)
  · refine yc_kt33 W ⟨f7.1, by omega⟩ rfl rfl rfl ⟨_, rfl, zw_W_I (zw_W_I (zw_W_I W)), rfl, ?_, fun p k p1 p2 p3 => (y_ne (fun h9 => p3 h9)).trans ((y_ne (fun h9 => p2 h9.1)).trans (y_ne (fun h9 => p1 h9.1)))⟩
    rw [en]
    refine yHc_k1 h (by omega) (fun p k p1 p2 p3 => (y_ne (fun h9 => p3 h9)).trans ((y_ne (fun h9 => by have := h9.1; omega)).trans (y_ne (fun h9 => by have := h9.1; omega)))) ?_ (fun k w hw hk => ?_) ?_ ?_
    · rw [show (zw_I (zw_I (zw_I H 40 A.2.1 s) 41 A.2.1 v) 33 7 (H.2.1 33 7 + Int32.ofInt 1)).2.1 33 7 = H.2.1 33 7 + Int32.ofInt 1 from zw_eq, zw_p1 (by omega)]
      omega
    · exact (y_ne (fun h9 => by have := h9.1; omega)).trans ((y_ne (fun h9 => hk h9.2)).trans (y_ne (fun h9 => hk h9.2)))
    · exact (y_ne (fun h9 => absurd h9.1 (by decide))).trans ((y_ne (fun h9 => absurd h9.1 (by decide))).trans zw_eq)
    · exact (y_ne (fun h9 => absurd h9.1 (by decide))).trans zw_eq
  · refine zw_ld (n := 1) (k := 0) (f := zp_isR) (pc' := 10) rfl rfl rfl rfl rfl ?_
    refine zw_gR (q := 33) (pc' := 13) W rfl rfl rfl rfl (W.2 33 8 _ rfl) rfl ?_
    refine zw_s (pc' := 14) rfl rfl ?_
    refine zw_ld (n := 1) (k := 0) (f := zp_isR) (pc' := 15) rfl rfl rfl rfl rfl ?_
    refine zw_gR (q := 33) (pc' := 18) W rfl rfl rfl rfl (W.2 33 8 _ rfl) rfl ?_
    refine zw_s (pc' := 19) rfl rfl ?_
    refine zw_s (pc' := 21) rfl rfl ?_
    refine zw_ac (q0 := 40) (q1 := 40) (pc' := 24) W rfl rfl rfl rfl ⟨by decide, by decide, by decide, by decide, by decide, by decide⟩ rfl ?_
    refine zw_ld (n := 1) (k := 0) (f := zp_isR) (pc' := 25) rfl rfl rfl rfl rfl ?_
    refine zw_gR (q := 33) (pc' := 28) W rfl rfl rfl rfl (W.2 33 9 _ rfl) rfl ?_
    refine zw_s (pc' := 29) rfl rfl ?_
    refine zw_ld (n := 1) (k := 0) (f := zp_isR) (pc' := 30) rfl rfl rfl rfl rfl ?_
    refine zw_gR (q := 33) (pc' := 33) W rfl rfl rfl rfl (W.2 33 9 _ rfl) rfl ?_
    refine zw_s (pc' := 34) rfl rfl ?_
    refine zw_s (pc' := 36) rfl rfl ?_
    refine zw_ac (q0 := 41) (q1 := 41) (pc' := 39) W rfl rfl rfl rfl ⟨by decide, by decide, by decide, by decide, by decide, by decide⟩ rfl ?_
    have k1 : ∀ p k, p ≠ 40 → p ≠ 41 → (zw_K (zw_K H 40 (va_cpy (H.2.1 40) (H.2.1 40) 1 0 29)) 41 (va_cpy (H.2.1 41) (H.2.1 41) 1 0 29)).2.1 p k = H.2.1 p k := fun p k p1 p2 => (zw_Kn p2).trans (zw_Kn p1)
    have k2 : ∀ k, k < 29 → (zw_K (zw_K H 40 (va_cpy (H.2.1 40) (H.2.1 40) 1 0 29)) 41 (va_cpy (H.2.1 41) (H.2.1 41) 1 0 29)).2.1 40 k = H.2.1 40 (k + 1) := fun k hk => (zw_Kn (by decide)).trans (zw_Ke.trans ((va_cpy_i ⟨Nat.zero_le _, by omega⟩).trans (congrArg (H.2.1 40) (by omega))))
    have k3 : ∀ k, k < 29 → (zw_K (zw_K H 40 (va_cpy (H.2.1 40) (H.2.1 40) 1 0 29)) 41 (va_cpy (H.2.1 41) (H.2.1 41) 1 0 29)).2.1 41 k = H.2.1 41 (k + 1) := fun k hk => zw_Ke.trans ((va_cpy_i ⟨Nat.zero_le _, by omega⟩).trans (congrArg (H.2.1 41) (by omega)))
    have WK : zw_W (zw_K (zw_K H 40 (va_cpy (H.2.1 40) (H.2.1 40) 1 0 29)) 41 (va_cpy (H.2.1 41) (H.2.1 41) 1 0 29)) := W
    have k4 : (zw_K (zw_K H 40 (va_cpy (H.2.1 40) (H.2.1 40) 1 0 29)) 41 (va_cpy (H.2.1 41) (H.2.1 41) 1 0 29)).2.2 = H.2.2 := rfl
    show zs_Safe L σ _ zm_113 [] d (39, _, [], zw_K (zw_K H 40 (va_cpy (H.2.1 40) (H.2.1 40) 1 0 29)) 41 (va_cpy (H.2.1 41) (H.2.1 41) 1 0 29), (0, 0))
    generalize zw_K (zw_K H 40 (va_cpy (H.2.1 40) (H.2.1 40) 1 0 29)) 41 (va_cpy (H.2.1 41) (H.2.1 41) 1 0 29) = K at k1 k2 k3 k4 WK ⊢
    refine zw_ld (n := 1) (k := 0) (f := zp_isR) (pc' := 40) rfl rfl rfl rfl rfl ?_
    refine zw_s (pc' := 42) rfl rfl ?_
    refine zw_pI (q := 33) (pc' := 45) WK rfl rfl rfl rfl rfl rfl ?_
    have e7 : (zw_I K 33 7 (Int32.ofInt 29)).2.1 33 7 = Int32.ofInt 29 := zw_eq
    refine yc_kt33 (zw_W_I WK) (by rw [e7]; exact ⟨by decide, by decide⟩) rfl rfl rfl ⟨_, rfl, zw_W_I (zw_W_I (zw_W_I (zw_W_I WK))), k4, ?_, fun p k p1 p2 p3 => (y_ne (fun h9 => p3 h9)).trans ((y_ne (fun h9 => p2 h9.1)).trans ((y_ne (fun h9 => p1 h9.1)).trans ((y_ne (fun h9 => p3 h9)).trans (k1 p k p1 p2))))⟩
    rw [e7]
    show yHc 33 _ (zw_I (zw_I (zw_I (zw_I K 33 7 (Int32.ofInt 29)) 40 29 s) 41 29 v) 33 7 (Int32.ofInt 29 + Int32.ofInt 1))
    refine yHc_k2 h (by omega) (fun p k p1 p2 p3 => (y_ne (fun h9 => p3 h9)).trans ((y_ne (fun h9 => by have := h9.1; omega)).trans ((y_ne (fun h9 => by have := h9.1; omega)).trans ((y_ne (fun h9 => p3 h9)).trans (k1 p k (by omega) (by omega)))))) ?_ (fun k w hw hk => ?_) ?_ ?_
    · exact congrArg Int32.toInt zw_eq
    · rcases (show w = 0 ∨ w = 1 by omega) with rfl | rfl
      · exact (y_ne (fun h9 => absurd (show (40 : Nat) = 33 from h9.1) (by decide))).trans ((y_ne (fun h9 => by have := h9.2; omega)).trans ((y_ne (fun h9 => by have := h9.2; omega)).trans ((y_ne (fun h9 => absurd (show (40 : Nat) = 33 from h9.1) (by decide))).trans (k2 k hk))))
      · exact (y_ne (fun h9 => absurd (show (41 : Nat) = 33 from h9.1) (by decide))).trans ((y_ne (fun h9 => by have := h9.2; omega)).trans ((y_ne (fun h9 => by have := h9.2; omega)).trans ((y_ne (fun h9 => absurd (show (41 : Nat) = 33 from h9.1) (by decide))).trans (k3 k hk))))
    · exact (y_ne (fun h9 => absurd h9.1 (by decide))).trans ((y_ne (fun h9 => absurd h9.1 (by decide))).trans zw_eq)
    · exact (y_ne (fun h9 => absurd h9.1 (by decide))).trans zw_eq
