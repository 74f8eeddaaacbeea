/-! ===== the chalk, said once for both sides ===== -/
/-- slates, acts; of a slate its cell, hour, marks, rubbed; of a mark way, steps; of an act slate, found -/
abbrev xK : Type := Nat × Nat × (Nat → Nat → Int32) × (Nat → Nat → Nat → Int32) × (Nat → Nat → Int32)
def yHc (cp : Nat) (A : xK) (H : zp_H) : Prop := (H.2.1 cp 0).toInt = A.1 ∧ (H.2.1 cp 7).toInt = A.2.1 ∧ (∀ s w, s < A.1 → w < 4 → H.2.1 (cp + 1 + w) s = A.2.2.1 s w) ∧ (∀ s j w, s < A.1 → j < (A.2.2.1 s 2).toInt.toNat → w < 2 → H.2.1 (cp + 5 + w) (8 * s + j) = A.2.2.2.1 s j w) ∧ ∀ k w, k < A.2.1 → w < 2 → H.2.1 (cp + 7 + w) k = A.2.2.2.2 k w
def yHr (rs rm ra af : Nat) (A : xK) (H : zp_H) : Prop := (H.2.1 72 5).toInt = A.1 ∧ (H.2.1 72 af).toInt = A.2.1 ∧ (∀ s w, s < A.1 → w < 4 → H.2.1 rs (4 * s + w) = A.2.2.1 s w) ∧ (∀ s j w, s < A.1 → j < (A.2.2.1 s 2).toInt.toNat → w < 2 → H.2.1 rm (16 * s + 2 * j + w) = A.2.2.2.1 s j w) ∧ ∀ k w, k < A.2.1 → w < 2 → H.2.1 ra (2 * k + w) = A.2.2.2.2 k w
def xKw (A : xK) : Prop := A.1 ≤ 8 ∧ A.2.1 ≤ 30 ∧ (∀ s, s < A.1 → 0 ≤ (A.2.2.1 s 2).toInt ∧ (A.2.2.1 s 2).toInt ≤ 8) ∧ (∀ k, k < A.2.1 → 0 ≤ (A.2.2.2.2 k 0).toInt ∧ (A.2.2.2.2 k 0).toInt < A.1) ∧ ∀ s j, s < A.1 → j < (A.2.2.1 s 2).toInt.toNat → 1 ≤ (A.2.2.2.1 s j 1).toInt ∧ (A.2.2.2.1 s j 1).toInt ≤ 9
def yU2 (f : Nat → Nat → Int32) (s w : Nat) (v : Int32) : Nat → Nat → Int32 := fun i j => if i = s ∧ j = w then v else f i j
def yU3 (f : Nat → Nat → Nat → Int32) (s j w : Nat) (v : Int32) : Nat → Nat → Nat → Int32 := fun a b c => if a = s ∧ b = j ∧ c = w then v else f a b c
theorem yU2_e {f : Nat → Nat → Int32} {s w : Nat} {v : Int32} : yU2 f s w v s w = v := if_pos ⟨rfl, rfl⟩
theorem yU2_n {f : Nat → Nat → Int32} {s w i j : Nat} {v : Int32} (h : ¬ (i = s ∧ j = w)) : yU2 f s w v i j = f i j := if_neg h
theorem yU3_e {f : Nat → Nat → Nat → Int32} {s j w : Nat} {v : Int32} : yU3 f s j w v s j w = v := if_pos ⟨rfl, rfl, rfl⟩
theorem yU3_n {f : Nat → Nat → Nat → Int32} {s j w a b c : Nat} {v : Int32} (h : ¬ (a = s ∧ b = j ∧ c = w)) : yU3 f s j w v a b c = f a b c := if_neg h
/-- an act is kept -/
def xKa (a : Nat) (f : Nat → Nat → Int32) (s v : Int32) : Nat → Nat → Int32 := if a < 30 then yU2 (yU2 f a 0 s) a 1 v else yU2 (yU2 (fun k w => f (k + 1) w) 29 0 s) 29 1 v
def xKk (A : xK) (s v : Int32) : xK := (A.1, (if A.2.1 < 30 then A.2.1 + 1 else 30), A.2.2.1, A.2.2.2.1, xKa A.2.1 A.2.2.2.2 s v)
/-- a mark is written -/
def xKm (A : xK) (s : Nat) (w t : Int32) : xK := (A.1, A.2.1, yU2 A.2.2.1 s 2 (A.2.2.1 s 2 + Int32.ofInt 1), yU3 (yU3 A.2.2.2.1 s (A.2.2.1 s 2).toInt.toNat 0 w) s (A.2.2.1 s 2).toInt.toNat 1 t, A.2.2.2.2)
/-- which are rubbed -/
def xKr (A : xK) (s : Nat) (v : Int32) : xK := (A.1, A.2.1, yU2 A.2.2.1 s 3 v, A.2.2.2.1, A.2.2.2.2)
/-- the last act is undone -/
def xKu (A : xK) : xK := (A.1, A.2.1 - 1, (if (A.2.2.2.2 (A.2.1 - 1) 1).toInt = -1 then yU2 A.2.2.1 (A.2.2.2.2 (A.2.1 - 1) 0).toInt.toNat 2 (A.2.2.1 (A.2.2.2.2 (A.2.1 - 1) 0).toInt.toNat 2 - Int32.ofInt 1) else yU2 A.2.2.1 (A.2.2.2.2 (A.2.1 - 1) 0).toInt.toNat 3 (A.2.2.2.2 (A.2.1 - 1) 1)), A.2.2.2.1, A.2.2.2.2)
theorem xKw_k {A : xK} {s v : Int32} (h : xKw A) (hs : 0 ≤ s.toInt ∧ s.toInt < A.1) : xKw (xKk A s v) := by
  obtain ⟨h1, h2, h3, h4, h5⟩ := h
  refine ⟨h1, ?_, h3, fun k hk => ?_, h5⟩
  · show (if A.2.1 < 30 then A.2.1 + 1 else 30) ≤ 30
    by_cases h9 : A.2.1 < 30
    · rw [if_pos h9]; omega
    · rw [if_neg h9]; omega
  · show 0 ≤ (xKa A.2.1 A.2.2.2.2 s v k 0).toInt ∧ (xKa A.2.1 A.2.2.2.2 s v k 0).toInt < (A.1 : Int)
    have hk : k < (if A.2.1 < 30 then A.2.1 + 1 else 30) := hk
    unfold xKa
    by_cases h9 : A.2.1 < 30
    · rw [if_pos h9] at hk ⊢
      rw [yU2_n (by omega)]
      by_cases h8 : k = A.2.1
      · rw [h8, yU2_e]; exact hs
      · rw [yU2_n (by omega)]; exact h4 k (by omega)
    · rw [if_neg h9] at hk ⊢
      rw [yU2_n (by omega)]
      by_cases h8 : k = 29
      · rw [h8, yU2_e]; exact hs
      · rw [yU2_n (by omega)]; exact h4 (k + 1) (by omega)
theorem xKw_m {A : xK} {s : Nat} {w t : Int32} (h : xKw A) (hs : s < A.1) (hm : (A.2.2.1 s 2).toInt < 8) (ht : 1 ≤ t.toInt ∧ t.toInt ≤ 9) : xKw (xKm A s w t) := by
  obtain ⟨h1, h2, h3, h4, h5⟩ := h
  have e : ∀ i, i ≠ s → yU2 A.2.2.1 s 2 (A.2.2.1 s 2 + Int32.ofInt 1) i 2 = A.2.2.1 i 2 := fun i h9 => yU2_n (fun h8 => h9 h8.1)
  have b := h3 s hs
  refine ⟨h1, h2, fun i hi => ?_, h4, fun i j hi hj => ?_⟩
  · show 0 ≤ (yU2 A.2.2.1 s 2 (A.2.2.1 s 2 + Int32.ofInt 1) i 2).toInt ∧ (yU2 A.2.2.1 s 2 (A.2.2.1 s 2 + Int32.ofInt 1) i 2).toInt ≤ 8
    by_cases h9 : i = s
    · rw [h9, yU2_e, zw_p1 (by omega)]
      omega
    · rw [e i h9]; exact h3 i hi
  · have hj : j < (yU2 A.2.2.1 s 2 (A.2.2.1 s 2 + Int32.ofInt 1) i 2).toInt.toNat := hj
    show 1 ≤ (yU3 (yU3 A.2.2.2.1 s (A.2.2.1 s 2).toInt.toNat 0 w) s (A.2.2.1 s 2).toInt.toNat 1 t i j 1).toInt ∧ (yU3 (yU3 A.2.2.2.1 s (A.2.2.1 s 2).toInt.toNat 0 w) s (A.2.2.1 s 2).toInt.toNat 1 t i j 1).toInt ≤ 9
    by_cases h8 : i = s ∧ j = (A.2.2.1 s 2).toInt.toNat
    · rw [h8.1, h8.2, yU3_e]; exact ht
    · rw [yU3_n (fun h7 => h8 ⟨h7.1, h7.2.1⟩), yU3_n (fun h7 => h8 ⟨h7.1, h7.2.1⟩)]
      refine h5 i j hi ?_
      by_cases h9 : i = s
      · rw [h9, yU2_e, zw_p1 (by omega)] at hj
        have h7 : j ≠ (A.2.2.1 s 2).toInt.toNat := fun h6 => h8 ⟨h9, h6⟩
        rw [h9]
        omega
      · rw [e i h9] at hj; exact hj
theorem xKw_r {A : xK} {s : Nat} {v : Int32} (h : xKw A) : xKw (xKr A s v) := by
  obtain ⟨h1, h2, h3, h4, h5⟩ := h
  have e : ∀ i, yU2 A.2.2.1 s 3 v i 2 = A.2.2.1 i 2 := fun i => yU2_n (fun h8 => absurd h8.2 (by decide))
  refine ⟨h1, h2, fun i hi => ?_, h4, fun i j hi hj => ?_⟩
  · show 0 ≤ (yU2 A.2.2.1 s 3 v i 2).toInt ∧ (yU2 A.2.2.1 s 3 v i 2).toInt ≤ 8
    rw [e]
    exact h3 i hi
  · have hj : j < (yU2 A.2.2.1 s 3 v i 2).toInt.toNat := hj
    rw [e] at hj
    exact h5 i j hi hj
/-- places of ints that stay -/
theorem yHc_c {cp : Nat} {A : xK} {H H' : zp_H} (hf : ∀ p k, cp ≤ p → p ≤ cp + 8 → H'.2.1 p k = H.2.1 p k) (h : yHc cp A H) : yHc cp A H' := by
  obtain ⟨h1, h2, h3, h4, h5⟩ := h
  refine ⟨by rw [hf _ _ (by omega) (by omega)]; exact h1, by rw [hf _ _ (by omega) (by omega)]; exact h2, fun s w hs hw => ?_, fun s j w hs hj hw => ?_, fun k w hk hw => ?_⟩
  · rw [hf _ _ (by omega) (by omega)]; exact h3 s w hs hw
  · rw [hf _ _ (by omega) (by omega)]; exact h4 s j w hs hj hw
  · rw [hf _ _ (by omega) (by omega)]; exact h5 k w hk hw
theorem yHr_c {rs rm ra af : Nat} {A : xK} {H H' : zp_H} (h5' : H'.2.1 72 5 = H.2.1 72 5) (hf' : H'.2.1 72 af = H.2.1 72 af) (fs : ∀ k, H'.2.1 rs k = H.2.1 rs k) (fm : ∀ k, H'.2.1 rm k = H.2.1 rm k) (fa : ∀ k, H'.2.1 ra k = H.2.1 ra k) (h : yHr rs rm ra af A H) : yHr rs rm ra af A H' := by
  obtain ⟨h1, h2, h3, h4, h5⟩ := h
  refine ⟨by rw [h5']; exact h1, by rw [hf']; exact h2, fun s w hs hw => ?_, fun s j w hs hj hw => ?_, fun k w hk hw => ?_⟩
  · rw [fs]; exact h3 s w hs hw
  · rw [fm]; exact h4 s j w hs hj hw
  · rw [fa]; exact h5 k w hk hw
/-- acts: kept on the class -/
theorem yHc_k {cp : Nat} {A : xK} {H H' : zp_H} {s v : Int32} (h : yHc cp A H) (hf : ∀ p k, cp ≤ p → p ≤ cp + 6 → ¬ (p = cp ∧ k = 7) → H'.2.1 p k = H.2.1 p k) (h7 : (H'.2.1 cp 7).toInt = (xKk A s v).2.1) (ha : ∀ k w, k < (xKk A s v).2.1 → w < 2 → H'.2.1 (cp + 7 + w) k = xKa A.2.1 A.2.2.2.2 s v k w) : yHc cp (xKk A s v) H' := by
  obtain ⟨h1, h2, h3, h4, h5⟩ := h
  refine ⟨by rw [hf _ _ (by omega) (by omega) (by omega)]; exact h1, h7, fun s w hs hw => ?_, fun s j w hs hj hw => ?_, ha⟩
  · rw [hf _ _ (by omega) (by omega) (by omega)]; exact h3 s w hs hw
  · rw [hf _ _ (by omega) (by omega) (by omega)]; exact h4 s j w hs hj hw
theorem yHr_k {rs rm ra af : Nat} {A : xK} {H H' : zp_H} {s v : Int32} (h : yHr rs rm ra af A H) (h5' : H'.2.1 72 5 = H.2.1 72 5) (fs : ∀ k, H'.2.1 rs k = H.2.1 rs k) (fm : ∀ k, H'.2.1 rm k = H.2.1 rm k) (h7 : (H'.2.1 72 af).toInt = (xKk A s v).2.1) (ha : ∀ k w, k < (xKk A s v).2.1 → w < 2 → H'.2.1 ra (2 * k + w) = xKa A.2.1 A.2.2.2.2 s v k w) : yHr rs rm ra af (xKk A s v) H' := by
  obtain ⟨h1, h2, h3, h4, h5⟩ := h
  refine ⟨by rw [h5']; exact h1, h7, fun s w hs hw => ?_, fun s j w hs hj hw => ?_, ha⟩
  · rw [fs]; exact h3 s w hs hw
  · rw [fm]; exact h4 s j w hs hj hw
/-- one place of a slate is written on the class -/
theorem yHc_m {cp s : Nat} {A : xK} {H H' : zp_H} {w t : Int32} (h : yHc cp A H) (hA : xKw A) (hs : s < A.1) (hm : (A.2.2.1 s 2).toInt < 8) (hf : ∀ p k, cp ≤ p → p ≤ cp + 8 → ¬ (p = cp + 3 ∧ k = s) → ¬ (p = cp + 5 ∧ k = 8 * s + (A.2.2.1 s 2).toInt.toNat) → ¬ (p = cp + 6 ∧ k = 8 * s + (A.2.2.1 s 2).toInt.toNat) → H'.2.1 p k = H.2.1 p k) (e3 : H'.2.1 (cp + 3) s = A.2.2.1 s 2 + Int32.ofInt 1) (e5 : H'.2.1 (cp + 5) (8 * s + (A.2.2.1 s 2).toInt.toNat) = w) (e6 : H'.2.1 (cp + 6) (8 * s + (A.2.2.1 s 2).toInt.toNat) = t) : yHc cp (xKm A s w t) H' := by
  obtain ⟨h1, h2, h3, h4, h5⟩ := h
  have hb := hA.2.2.1
  refine ⟨by rw [hf _ _ (by omega) (by omega) (by omega) (by omega) (by omega)]; exact h1, by rw [hf _ _ (by omega) (by omega) (by omega) (by omega) (by omega)]; exact h2, fun i x hi hx => ?_, fun i j x hi hj hx => ?_, fun k x hk hx => ?_⟩
  · show _ = yU2 A.2.2.1 s 2 (A.2.2.1 s 2 + Int32.ofInt 1) i x
    by_cases h9 : i = s ∧ x = 2
    · obtain ⟨rfl, rfl⟩ := h9
      rw [yU2_e]; exact e3
    · rw [yU2_n h9, hf _ _ (by omega) (by omega) (by omega) (by omega) (by omega)]; exact h3 i x hi hx
  · show _ = yU3 (yU3 A.2.2.2.1 s (A.2.2.1 s 2).toInt.toNat 0 w) s (A.2.2.1 s 2).toInt.toNat 1 t i j x
    have hj : j < (yU2 A.2.2.1 s 2 (A.2.2.1 s 2 + Int32.ofInt 1) i 2).toInt.toNat := hj
    by_cases h9 : i = s
    · have b := hb s hs
      rw [h9, yU2_e, zw_p1 (by omega)] at hj
      by_cases h8 : j = (A.2.2.1 s 2).toInt.toNat
      · rcases (show x = 0 ∨ x = 1 by omega) with h7 | h7
        · rw [h9, h8, h7, yU3_n (fun h6 => absurd h6.2.2 (by decide)), yU3_e]; exact e5
        · rw [h9, h8, h7, yU3_e]; exact e6
      · rw [yU3_n (fun h6 => h8 h6.2.1), yU3_n (fun h6 => h8 h6.2.1), hf _ _ (by omega) (by omega) (by omega) (by omega) (by omega)]
        exact h4 i j x hi (by rw [h9]; omega) hx
    · rw [yU2_n (fun h6 => h9 h6.1)] at hj
      have b := hb i hi
      rw [yU3_n (fun h6 => h9 h6.1), yU3_n (fun h6 => h9 h6.1), hf _ _ (by omega) (by omega) (by omega) (by omega) (by omega)]
      exact h4 i j x hi hj hx
  · rw [hf _ _ (by omega) (by omega) (by omega) (by omega) (by omega)]; exact h5 k x hk hx
theorem yHr_m {rs rm ra af s : Nat} {A : xK} {H H' : zp_H} {w t : Int32} (h : yHr rs rm ra af A H) (hA : xKw A) (hs : s < A.1) (hm : (A.2.2.1 s 2).toInt < 8) (h5' : H'.2.1 72 5 = H.2.1 72 5) (hf' : H'.2.1 72 af = H.2.1 72 af) (fs : ∀ k, k ≠ 4 * s + 2 → H'.2.1 rs k = H.2.1 rs k) (fm : ∀ k, k ≠ 16 * s + 2 * (A.2.2.1 s 2).toInt.toNat → k ≠ 16 * s + 2 * (A.2.2.1 s 2).toInt.toNat + 1 → H'.2.1 rm k = H.2.1 rm k) (fa : ∀ k, H'.2.1 ra k = H.2.1 ra k) (e3 : H'.2.1 rs (4 * s + 2) = A.2.2.1 s 2 + Int32.ofInt 1) (e5 : H'.2.1 rm (16 * s + 2 * (A.2.2.1 s 2).toInt.toNat) = w) (e6 : H'.2.1 rm (16 * s + 2 * (A.2.2.1 s 2).toInt.toNat + 1) = t) : yHr rs rm ra af (xKm A s w t) H' := by
  obtain ⟨h1, h2, h3, h4, h5⟩ := h
  have hb := hA.2.2.1
  refine ⟨by rw [h5']; exact h1, by rw [hf']; exact h2, fun i x hi hx => ?_, fun i j x hi hj hx => ?_, fun k x hk hx => by rw [fa]; exact h5 k x hk hx⟩
  · show _ = yU2 A.2.2.1 s 2 (A.2.2.1 s 2 + Int32.ofInt 1) i x
    by_cases h9 : i = s ∧ x = 2
    · obtain ⟨rfl, rfl⟩ := h9
      rw [yU2_e]; exact e3
    · rw [yU2_n h9, fs _ (by omega)]; exact h3 i x hi hx
  · show _ = yU3 (yU3 A.2.2.2.1 s (A.2.2.1 s 2).toInt.toNat 0 w) s (A.2.2.1 s 2).toInt.toNat 1 t i j x
    have hj : j < (yU2 A.2.2.1 s 2 (A.2.2.1 s 2 + Int32.ofInt 1) i 2).toInt.toNat := hj
    by_cases h9 : i = s
    · have b := hb s hs
      rw [h9, yU2_e, zw_p1 (by omega)] at hj
      by_cases h8 : j = (A.2.2.1 s 2).toInt.toNat
      · rcases (show x = 0 ∨ x = 1 by omega) with h7 | h7
        · rw [h9, h8, h7, yU3_n (fun h6 => absurd h6.2.2 (by decide)), yU3_e]; exact e5
        · rw [h9, h8, h7, yU3_e]; exact e6
      · rw [yU3_n (fun h6 => h8 h6.2.1), yU3_n (fun h6 => h8 h6.2.1), fm _ (by omega) (by omega)]
        exact h4 i j x hi (by rw [h9]; omega) hx
    · rw [yU2_n (fun h6 => h9 h6.1)] at hj
      have b := hb i hi
      rw [yU3_n (fun h6 => h9 h6.1), yU3_n (fun h6 => h9 h6.1), fm _ (by omega) (by omega)]
      exact h4 i j x hi hj hx
theorem yHc_r {cp s : Nat} {A : xK} {H H' : zp_H} {v : Int32} (h : yHc cp A H) (hf : ∀ p k, cp ≤ p → p ≤ cp + 8 → ¬ (p = cp + 4 ∧ k = s) → H'.2.1 p k = H.2.1 p k) (e4 : H'.2.1 (cp + 4) s = v) : yHc cp (xKr A s v) H' := by
  obtain ⟨h1, h2, h3, h4, h5⟩ := h
  refine ⟨by rw [hf _ _ (by omega) (by omega) (by omega)]; exact h1, by rw [hf _ _ (by omega) (by omega) (by omega)]; exact h2, fun i x hi hx => ?_, fun i j x hi hj hx => ?_, fun k x hk hx => ?_⟩
  · show _ = yU2 A.2.2.1 s 3 v i x
    by_cases h9 : i = s ∧ x = 3
    · obtain ⟨rfl, rfl⟩ := h9
      rw [yU2_e]; exact e4
    · rw [yU2_n h9, hf _ _ (by omega) (by omega) (by omega)]; exact h3 i x hi hx
  · have hj : j < (yU2 A.2.2.1 s 3 v i 2).toInt.toNat := hj
    rw [yU2_n (fun h8 => absurd h8.2 (by decide))] at hj
    rw [hf _ _ (by omega) (by omega) (by omega)]; exact h4 i j x hi hj hx
  · rw [hf _ _ (by omega) (by omega) (by omega)]; exact h5 k x hk hx
theorem yHr_r {rs rm ra af s : Nat} {A : xK} {H H' : zp_H} {v : Int32} (h : yHr rs rm ra af A H) (h5' : H'.2.1 72 5 = H.2.1 72 5) (hf' : H'.2.1 72 af = H.2.1 72 af) (fs : ∀ k, k ≠ 4 * s + 3 → H'.2.1 rs k = H.2.1 rs k) (fm : ∀ k, H'.2.1 rm k = H.2.1 rm k) (fa : ∀ k, H'.2.1 ra k = H.2.1 ra k) (e4 : H'.2.1 rs (4 * s + 3) = v) : yHr rs rm ra af (xKr A s v) H' := by
  obtain ⟨h1, h2, h3, h4, h5⟩ := h
  refine ⟨by rw [h5']; exact h1, by rw [hf']; exact h2, fun i x hi hx => ?_, fun i j x hi hj hx => ?_, fun k x hk hx => by rw [fa]; exact h5 k x hk hx⟩
  · show _ = yU2 A.2.2.1 s 3 v i x
    by_cases h9 : i = s ∧ x = 3
    · obtain ⟨rfl, rfl⟩ := h9
      rw [yU2_e]; exact e4
    · rw [yU2_n h9, fs _ (by omega)]; exact h3 i x hi hx
  · have hj : j < (yU2 A.2.2.1 s 3 v i 2).toInt.toNat := hj
    rw [yU2_n (fun h8 => absurd h8.2 (by decide))] at hj
    rw [fm]; exact h4 i j x hi hj hx
/-- an act is kept: room for one more, or the oldest goes -/
theorem yHc_k1 {cp : Nat} {A : xK} {H H' : zp_H} {s v : Int32} (h : yHc cp A H) (ha : A.2.1 < 30) (hf : ∀ p k, cp ≤ p → p ≤ cp + 6 → ¬ (p = cp ∧ k = 7) → H'.2.1 p k = H.2.1 p k) (h7 : (H'.2.1 cp 7).toInt = (A.2.1 + 1 : Nat)) (hn : ∀ k w, w < 2 → k ≠ A.2.1 → H'.2.1 (cp + 7 + w) k = H.2.1 (cp + 7 + w) k) (e0 : H'.2.1 (cp + 7) A.2.1 = s) (e1 : H'.2.1 (cp + 8) A.2.1 = v) : yHc cp (xKk A s v) H' := by
  refine yHc_k h hf ?_ (fun k w hk hw => ?_)
  · show _ = ((if A.2.1 < 30 then A.2.1 + 1 else 30 : Nat) : Int)
    rw [if_pos ha]; exact h7
  · have hk : k < (if A.2.1 < 30 then A.2.1 + 1 else 30) := hk
    rw [if_pos ha] at hk
    unfold xKa
    rw [if_pos ha]
    by_cases h9 : k = A.2.1
    · rcases (show w = 0 ∨ w = 1 by omega) with h8 | h8
      · rw [h9, h8, yU2_n (fun h6 => absurd h6.2 (by decide)), yU2_e]; exact e0
      · rw [h9, h8, yU2_e]; exact e1
    · rw [yU2_n (fun h6 => h9 h6.1), yU2_n (fun h6 => h9 h6.1), hn k w hw h9]
      exact h.2.2.2.2 k w (by omega) hw
theorem yHc_k2 {cp : Nat} {A : xK} {H H' : zp_H} {s v : Int32} (h : yHc cp A H) (ha : A.2.1 = 30) (hf : ∀ p k, cp ≤ p → p ≤ cp + 6 → ¬ (p = cp ∧ k = 7) → H'.2.1 p k = H.2.1 p k) (h7 : (H'.2.1 cp 7).toInt = 30) (hn : ∀ k w, w < 2 → k < 29 → H'.2.1 (cp + 7 + w) k = H.2.1 (cp + 7 + w) (k + 1)) (e0 : H'.2.1 (cp + 7) 29 = s) (e1 : H'.2.1 (cp + 8) 29 = v) : yHc cp (xKk A s v) H' := by
  have hb : ¬ A.2.1 < 30 := by omega
  refine yHc_k h hf ?_ (fun k w hk hw => ?_)
  · show _ = ((if A.2.1 < 30 then A.2.1 + 1 else 30 : Nat) : Int)
    rw [if_neg hb]; exact h7
  · have hk : k < (if A.2.1 < 30 then A.2.1 + 1 else 30) := hk
    rw [if_neg hb] at hk
    unfold xKa
    rw [if_neg hb]
    by_cases h9 : k = 29
    · rcases (show w = 0 ∨ w = 1 by omega) with h8 | h8
      · rw [h9, h8, yU2_n (fun h6 => absurd h6.2 (by decide)), yU2_e]; exact e0
      · rw [h9, h8, yU2_e]; exact e1
    · rw [yU2_n (fun h6 => h9 h6.1), yU2_n (fun h6 => h9 h6.1), hn k w hw (by omega)]
      exact h.2.2.2.2 (k + 1) w (by omega) hw
theorem yHr_k1 {rs rm ra af : Nat} {A : xK} {H H' : zp_H} {s v : Int32} (h : yHr rs rm ra af A H) (ha : A.2.1 < 30) (h5' : H'.2.1 72 5 = H.2.1 72 5) (fs : ∀ k, H'.2.1 rs k = H.2.1 rs k) (fm : ∀ k, H'.2.1 rm k = H.2.1 rm k) (h7 : (H'.2.1 72 af).toInt = (A.2.1 + 1 : Nat)) (hn : ∀ k w, w < 2 → k ≠ A.2.1 → H'.2.1 ra (2 * k + w) = H.2.1 ra (2 * k + w)) (e0 : H'.2.1 ra (2 * A.2.1) = s) (e1 : H'.2.1 ra (2 * A.2.1 + 1) = v) : yHr rs rm ra af (xKk A s v) H' := by
  refine yHr_k h h5' fs fm ?_ (fun k w hk hw => ?_)
  · show _ = ((if A.2.1 < 30 then A.2.1 + 1 else 30 : Nat) : Int)
    rw [if_pos ha]; exact h7
  · have hk : k < (if A.2.1 < 30 then A.2.1 + 1 else 30) := hk
    rw [if_pos ha] at hk
    unfold xKa
    rw [if_pos ha]
    by_cases h9 : k = A.2.1
    · rcases (show w = 0 ∨ w = 1 by omega) with h8 | h8
      · rw [h9, h8, yU2_n (fun h6 => absurd h6.2 (by decide)), yU2_e]; exact e0
      · rw [h9, h8, yU2_e]; exact e1
    · rw [yU2_n (fun h6 => h9 h6.1), yU2_n (fun h6 => h9 h6.1), hn k w hw h9]
      exact h.2.2.2.2 k w (by omega) hw
theorem yHr_k2 {rs rm ra af : Nat} {A : xK} {H H' : zp_H} {s v : Int32} (h : yHr rs rm ra af A H) (ha : A.2.1 = 30) (h5' : H'.2.1 72 5 = H.2.1 72 5) (fs : ∀ k, H'.2.1 rs k = H.2.1 rs k) (fm : ∀ k, H'.2.1 rm k = H.2.1 rm k) (h7 : (H'.2.1 72 af).toInt = 30) (hn : ∀ k w, w < 2 → k < 29 → H'.2.1 ra (2 * k + w) = H.2.1 ra (2 * (k + 1) + w)) (e0 : H'.2.1 ra (2 * 29) = s) (e1 : H'.2.1 ra (2 * 29 + 1) = v) : yHr rs rm ra af (xKk A s v) H' := by
  have hb : ¬ A.2.1 < 30 := by omega
  refine yHr_k h h5' fs fm ?_ (fun k w hk hw => ?_)
  · show _ = ((if A.2.1 < 30 then A.2.1 + 1 else 30 : Nat) : Int)
    rw [if_neg hb]; exact h7
  · have hk : k < (if A.2.1 < 30 then A.2.1 + 1 else 30) := hk
    rw [if_neg hb] at hk
    unfold xKa
    rw [if_neg hb]
    by_cases h9 : k = 29
    · rcases (show w = 0 ∨ w = 1 by omega) with h8 | h8
      · rw [h9, h8, yU2_n (fun h6 => absurd h6.2 (by decide)), yU2_e]; exact e0
      · rw [h9, h8, yU2_e]; exact e1
    · rw [yU2_n (fun h6 => h9 h6.1), yU2_n (fun h6 => h9 h6.1), hn k w hw (by omega)]
      exact h.2.2.2.2 (k + 1) w (by omega) hw
section WX2
variable {L : Nat} {σ : Nat → Int32} {P : zp_X → Prop} {M Y : za_MI} {fs : List zs_F} {d : Nat} {pc pc' : Nat} {lv lv' : zp_LV} {st st' : List zp_V} {H H1 : zp_H} {c c' : Nat × Nat} {i : Instr}
/-- an array filled by a function -/
def zw_K (H : zp_H) (q : Nat) (g : Nat → Int32) : zp_H := (H.1, zp_ua H.2.1 q g, H.2.2)
theorem zw_Kn {q p k : Nat} {g : Nat → Int32} (h : p ≠ q) : (zw_K H q g).2.1 p k = H.2.1 p k := if_neg h
theorem zw_Ke {q k : Nat} {g : Nat → Int32} : (zw_K H q g).2.1 q k = g k := if_pos rfl
theorem zw_ac {q0 q1 n0 n1 k j9 k9 : Nat} {z9 : Int} {cn dp sp : Int32} (W : zw_W H) (hi : za_fe (za_is M) pc = some (.invokestatic k)) (hk : za_CP (za_cl M) k = some (14, j9, k9, z9)) (h0 : zB_sh[q0]? = some (.inr (0, n0))) (h1 : zB_sh[q1]? = some (.inr (0, n1))) (hb : 0 ≤ cn.toInt ∧ 0 ≤ dp.toInt ∧ 0 ≤ sp.toInt ∧ sp.toInt + cn.toInt ≤ n0 ∧ dp.toInt + cn.toInt ≤ n1 ∧ zp_wt st ≤ 8) (hp : pc + 3 = pc') (hS : zs_Safe L σ P M fs d (pc', lv, st, zw_K H q1 (va_cpy (H.2.1 q0) (H.2.1 q1) sp.toInt.toNat dp.toInt.toNat cn.toInt.toNat), c)) : zs_Safe L σ P M fs d (pc, lv, .inl cn :: .inl dp :: .inr (.inr (some (q1 + 1))) :: .inl sp :: .inr (.inr (some (q0 + 1))) :: st, H, c) := by
  refine zs_step (S := (pc, lv, .inl cn :: .inl dp :: .inr (.inr (some (q1 + 1))) :: .inl sp :: .inr (.inr (some (q0 + 1))) :: st, H, c)) (S' := (pc', lv, st, zw_K H q1 (va_cpy (H.2.1 q0) (H.2.1 q1) sp.toInt.toNat dp.toInt.toNat cn.toInt.toNat), c)) hi ?_ hS
  show (match za_CP (za_cl M) k with
    | some (14, _, _, _) => zp_acp pc lv (.inl cn :: .inl dp :: .inr (.inr (some (q1 + 1))) :: .inl sp :: .inr (.inr (some (q0 + 1))) :: st) (H, c)
    | _ => none) = _
  rw [hk]
  show (match H.1[q0]?, H.1[q1]? with
    | some (.inr (0, n0)), some (.inr (0, n1)) => if 0 ≤ cn.toInt ∧ 0 ≤ dp.toInt ∧ 0 ≤ sp.toInt ∧ sp.toInt + cn.toInt ≤ n0 ∧ dp.toInt + cn.toInt ≤ n1 ∧ zp_wt st ≤ 8 then zp_go lv (zw_K H q1 (va_cpy (H.2.1 q0) (H.2.1 q1) sp.toInt.toNat dp.toInt.toNat cn.toInt.toNat), c) (pc + 3) st else none
    | _, _ => none) = _
  rw [(congrArg (fun s : List zp_K => s[q0]?) W.1).trans h0, (congrArg (fun s : List zp_K => s[q1]?) W.1).trans h1]
  show (if 0 ≤ cn.toInt ∧ 0 ≤ dp.toInt ∧ 0 ≤ sp.toInt ∧ sp.toInt + cn.toInt ≤ n0 ∧ dp.toInt + cn.toInt ≤ n1 ∧ zp_wt st ≤ 8 then _ else none) = _
  rw [if_pos hb, ← hp]
  rfl
end WX2
theorem va_cpy_i {f g : Nat → Int32} {sp dp n i : Nat} (h : dp ≤ i ∧ i < dp + n) : va_cpy f g sp dp n i = f (sp + (i - dp)) := if_pos h
