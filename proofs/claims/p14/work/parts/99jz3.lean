/-! ===== where he may be: the reference ===== -/
def zm_225 : za_MI := (yX12_where, prog_14_method_64_code, 8, (some FieldType.long), 12, 0, 0, [], za_i225)
theorem zm_225_t : za_MT 225 = some zm_225 := rfl
set_option maxRecDepth 8000 in
theorem yr_wA {L : Nat} {σ : Nat → Int32} {d : Nat} {P : zp_X → Prop} {H0 : zp_H} {s kk : Int32} : ∀ (z : Nat) (H : zp_H) (lv : zp_LV) (i : Int32), zw_W H → xFw H0 H → (∀ q : Nat, (q : Int) < i.toInt → H.2.2.1 94 q = Int64.ofNat 0) → 0 ≤ i.toInt → i.toInt + z = 73 → zp_get lv 0 = some (.inr (.inr (some 73))) → zp_get lv 1 = some (.inl s) → zp_get lv 2 = some (.inl kk) → zp_get lv 3 = some (.inl i) → (∀ H1 lv1, zw_W H1 → xFw H0 H1 → (∀ q : Nat, q ≤ 72 → H1.2.2.1 94 q = Int64.ofNat 0) → zp_get lv1 0 = some (.inr (.inr (some 73))) → zp_get lv1 1 = some (.inl s) → zp_get lv1 2 = some (.inl kk) → zs_Safe L σ P zm_225 [] (d + 3) (62, lv1, [], H1, (0, 0))) → zs_Safe L σ P zm_225 [] (d + 3) (43, lv, [], H, (0, 0)) := by
  intro z
  induction z with
  | zero =>
    intro H lv i W hF  hI h5 hn l0 l1 l2 l3 hP
    refine zw_ld (n := 1) (k := 3) (f := zp_isI) (pc' := 44) rfl rfl l3 rfl rfl ?_
    refine zw_s (pc' := 46) rfl rfl ?_
    refine zw_bgt2 (g := 62) (pc' := 49) rfl rfl rfl rfl (rfl : _ = (72 : Int)) (fun h1 => ?_) (fun h1 => ?_)
    · exact hP H lv W hF  (fun q hq => hI q (by omega)) l0 l1 l2
    · have h1 : i.toInt ≤ 72 := h1
      omega
  | succ z ih =>
    intro H lv i W hF  hI h5 hn l0 l1 l2 l3 hP
    refine zw_ld (n := 1) (k := 3) (f := zp_isI) (pc' := 44) rfl rfl l3 rfl rfl ?_
    refine zw_s (pc' := 46) rfl rfl ?_
    refine zw_bgt2 (g := 62) (pc' := 49) rfl rfl rfl rfl (rfl : _ = (72 : Int)) (fun h1 => ?_) (fun h1 => ?_)
    · have h1 : 72 < i.toInt := h1
      omega
    · have h1 : i.toInt ≤ 72 := h1
      have ei : (i + Int32.ofInt 1).toInt = i.toInt + 1 := zw_p1 (by omega)
      have ii : ((i.toInt.toNat : Nat) : Int) = i.toInt := by omega
      refine zw_ld (n := 1) (k := 0) (f := zp_isR) (pc' := 50) rfl rfl l0 rfl rfl ?_
      refine zw_gR (q := 72) (pc' := 53) W rfl rfl rfl rfl (W.2 72 72 _ rfl) rfl ?_
      refine zw_ld (n := 1) (k := 3) (f := zp_isI) (pc' := 54) rfl rfl l3 rfl rfl ?_
      refine zw_s (pc' := 55) rfl rfl ?_
      refine zw_ls (q := 94) (pc' := 56) W rfl rfl (⟨h5, by show _ < ((73 : Nat) : Int); omega⟩) rfl ?_
      refine zw_ii (pc' := 59) rfl l3 rfl rfl ?_
      refine zw_s (pc' := 43) rfl rfl ?_
      refine ih (zw_J H 94 i.toInt.toNat (Int64.ofNat 0)) _ (i + Int32.ofInt 1) (zw_W_J W) (xFw_J hF ⟨by decide, by decide⟩)  (fun q hq => ?_) (by omega) (by omega) (zw_gt l0 rfl rfl) (zw_gt l1 rfl rfl) (zw_gt l2 rfl rfl) zw_g1 hP
      by_cases h9 : q = i.toInt.toNat
      · rw [h9]
        exact zp_u_self _ _ _ _
      · exact (zp_u_ne (fun h8 => h9 h8.2)).trans (hI q (by omega))

set_option maxRecDepth 8000 in
theorem yr_wB {L : Nat} {σ : Nat → Int32} {d : Nat} {P : zp_X → Prop} {H0 : zp_H} {s kk m rb : Int32} : ∀ (z : Nat) (H : zp_H) (lv : zp_LV) (i : Int32), zw_W H → xFw H0 H → (∀ q, H.2.2.1 94 q = H0.2.2.1 94 q) → (∀ q : Nat, (q : Int) < i.toInt → H.2.2.1 95 q = Int64.ofNat 0) → 0 ≤ i.toInt → i.toInt + z = 73 → zp_get lv 0 = some (.inr (.inr (some 73))) → zp_get lv 1 = some (.inl s) → zp_get lv 2 = some (.inl kk) → zp_get lv 3 = some (.inl m) → zp_get lv 4 = some (.inl rb) → zp_get lv 5 = some (.inl i) → (∀ H1 lv1, zw_W H1 → xFw H0 H1 → (∀ q, H1.2.2.1 94 q = H0.2.2.1 94 q) → (∀ q : Nat, q ≤ 72 → H1.2.2.1 95 q = Int64.ofNat 0) → zp_get lv1 0 = some (.inr (.inr (some 73))) → zp_get lv1 1 = some (.inl s) → zp_get lv1 2 = some (.inl kk) → zp_get lv1 3 = some (.inl m) → zp_get lv1 4 = some (.inl rb) → zs_Safe L σ P zm_225 [] (d + 3) (134, lv1, [], H1, (0, 0))) → zs_Safe L σ P zm_225 [] (d + 3) (113, lv, [], H, (0, 0)) := by
  intro z
  induction z with
  | zero =>
    intro H lv i W hF k94 hI h5 hn l0 l1 l2 l3 l4 l5 hP
    refine zw_ld (n := 2) (k := 5) (f := zp_isI) (pc' := 115) rfl rfl l5 rfl rfl ?_
    refine zw_s (pc' := 117) rfl rfl ?_
    refine zw_bgt2 (g := 134) (pc' := 120) rfl rfl rfl rfl (rfl : _ = (72 : Int)) (fun h1 => ?_) (fun h1 => ?_)
    · exact hP H lv W hF k94 (fun q hq => hI q (by omega)) l0 l1 l2 l3 l4
    · have h1 : i.toInt ≤ 72 := h1
      omega
  | succ z ih =>
    intro H lv i W hF k94 hI h5 hn l0 l1 l2 l3 l4 l5 hP
    refine zw_ld (n := 2) (k := 5) (f := zp_isI) (pc' := 115) rfl rfl l5 rfl rfl ?_
    refine zw_s (pc' := 117) rfl rfl ?_
    refine zw_bgt2 (g := 134) (pc' := 120) rfl rfl rfl rfl (rfl : _ = (72 : Int)) (fun h1 => ?_) (fun h1 => ?_)
    · have h1 : 72 < i.toInt := h1
      omega
    · have h1 : i.toInt ≤ 72 := h1
      have ei : (i + Int32.ofInt 1).toInt = i.toInt + 1 := zw_p1 (by omega)
      have ii : ((i.toInt.toNat : Nat) : Int) = i.toInt := by omega
      refine zw_ld (n := 1) (k := 0) (f := zp_isR) (pc' := 121) rfl rfl l0 rfl rfl ?_
      refine zw_gR (q := 72) (pc' := 124) W rfl rfl rfl rfl (W.2 72 73 _ rfl) rfl ?_
      refine zw_ld (n := 2) (k := 5) (f := zp_isI) (pc' := 126) rfl rfl l5 rfl rfl ?_
      refine zw_s (pc' := 127) rfl rfl ?_
      refine zw_ls (q := 95) (pc' := 128) W rfl rfl (⟨h5, by show _ < ((73 : Nat) : Int); omega⟩) rfl ?_
      refine zw_ii (pc' := 131) rfl l5 rfl rfl ?_
      refine zw_s (pc' := 113) rfl rfl ?_
      refine ih (zw_J H 95 i.toInt.toNat (Int64.ofNat 0)) _ (i + Int32.ofInt 1) (zw_W_J W) (xFw_J hF ⟨by decide, by decide⟩) (fun q => (xJne (by decide)).trans (k94 q)) (fun q hq => ?_) (by omega) (by omega) (zw_gt l0 rfl rfl) (zw_gt l1 rfl rfl) (zw_gt l2 rfl rfl) (zw_gt l3 rfl rfl) (zw_gt l4 rfl rfl) zw_g1 hP
      by_cases h9 : q = i.toInt.toNat
      · rw [h9]
        exact zp_u_self _ _ _ _
      · exact (zp_u_ne (fun h8 => h9 h8.2)).trans (hI q (by omega))

set_option maxRecDepth 8000 in
theorem yr_wC {L : Nat} {σ : Nat → Int32} {d : Nat} {P : zp_X → Prop} {H0 : zp_H} {s kk m rb w : Int32} : ∀ (z : Nat) (H : zp_H) (lv : zp_LV) (i : Int32), zw_W H → xFw H0 H → (∀ q, H.2.2.1 94 q = H0.2.2.1 94 q) → (∀ q, H.2.2.1 95 q = H0.2.2.1 95 q) → (∀ q : Nat, (q : Int) < i.toInt → H.2.2.1 96 q = H0.2.2.1 94 q) → 0 ≤ i.toInt → i.toInt + z = 73 → zp_get lv 0 = some (.inr (.inr (some 73))) → zp_get lv 1 = some (.inl s) → zp_get lv 2 = some (.inl kk) → zp_get lv 3 = some (.inl m) → zp_get lv 4 = some (.inl rb) → zp_get lv 5 = some (.inl w) → zp_get lv 6 = some (.inl i) → (∀ H1 lv1, zw_W H1 → xFw H0 H1 → (∀ q, H1.2.2.1 94 q = H0.2.2.1 94 q) → (∀ q, H1.2.2.1 95 q = H0.2.2.1 95 q) → (∀ q : Nat, q ≤ 72 → H1.2.2.1 96 q = H0.2.2.1 94 q) → zp_get lv1 0 = some (.inr (.inr (some 73))) → zp_get lv1 1 = some (.inl s) → zp_get lv1 2 = some (.inl kk) → zp_get lv1 3 = some (.inl m) → zp_get lv1 4 = some (.inl rb) → zp_get lv1 5 = some (.inl w) → zs_Safe L σ P zm_225 [] (d + 3) (199, lv1, [], H1, (0, 0))) → zs_Safe L σ P zm_225 [] (d + 3) (172, lv, [], H, (0, 0)) := by
  intro z
  induction z with
  | zero =>
    intro H lv i W hF k94 k95 hI h5 hn l0 l1 l2 l3 l4 l5 l6 hP
    refine zw_ld (n := 2) (k := 6) (f := zp_isI) (pc' := 174) rfl rfl l6 rfl rfl ?_
    refine zw_s (pc' := 176) rfl rfl ?_
    refine zw_bgt2 (g := 199) (pc' := 179) rfl rfl rfl rfl (rfl : _ = (72 : Int)) (fun h1 => ?_) (fun h1 => ?_)
    · exact hP H lv W hF k94 k95 (fun q hq => hI q (by omega)) l0 l1 l2 l3 l4 l5
    · have h1 : i.toInt ≤ 72 := h1
      omega
  | succ z ih =>
    intro H lv i W hF k94 k95 hI h5 hn l0 l1 l2 l3 l4 l5 l6 hP
    refine zw_ld (n := 2) (k := 6) (f := zp_isI) (pc' := 174) rfl rfl l6 rfl rfl ?_
    refine zw_s (pc' := 176) rfl rfl ?_
    refine zw_bgt2 (g := 199) (pc' := 179) rfl rfl rfl rfl (rfl : _ = (72 : Int)) (fun h1 => ?_) (fun h1 => ?_)
    · have h1 : 72 < i.toInt := h1
      omega
    · have h1 : i.toInt ≤ 72 := h1
      have ei : (i + Int32.ofInt 1).toInt = i.toInt + 1 := zw_p1 (by omega)
      have ii : ((i.toInt.toNat : Nat) : Int) = i.toInt := by omega
      refine zw_ld (n := 1) (k := 0) (f := zp_isR) (pc' := 180) rfl rfl l0 rfl rfl ?_
      refine zw_gR (q := 72) (pc' := 183) W rfl rfl rfl rfl (W.2 72 74 _ rfl) rfl ?_
      refine zw_ld (n := 2) (k := 6) (f := zp_isI) (pc' := 185) rfl rfl l6 rfl rfl ?_
      refine zw_ld (n := 1) (k := 0) (f := zp_isR) (pc' := 186) rfl rfl l0 rfl rfl ?_
      refine zw_gR (q := 72) (pc' := 189) W rfl rfl rfl rfl (W.2 72 72 _ rfl) rfl ?_
      refine zw_ld (n := 2) (k := 6) (f := zp_isI) (pc' := 191) rfl rfl l6 rfl rfl ?_
      refine zw_la (q := 94) (pc' := 192) W rfl rfl (⟨h5, by show _ < ((73 : Nat) : Int); omega⟩) rfl ?_
      refine zw_ls (q := 96) (pc' := 193) W rfl rfl (⟨h5, by show _ < ((73 : Nat) : Int); omega⟩) rfl ?_
      refine zw_ii (pc' := 196) rfl l6 rfl rfl ?_
      refine zw_s (pc' := 172) rfl rfl ?_
      refine ih (zw_J H 96 i.toInt.toNat (H.2.2.1 94 i.toInt.toNat)) _ (i + Int32.ofInt 1) (zw_W_J W) (xFw_J hF ⟨by decide, by decide⟩) (fun q => (xJne (by decide)).trans (k94 q)) (fun q => (xJne (by decide)).trans (k95 q)) (fun q hq => ?_) (by omega) (by omega) (zw_gt l0 rfl rfl) (zw_gt l1 rfl rfl) (zw_gt l2 rfl rfl) (zw_gt l3 rfl rfl) (zw_gt l4 rfl rfl) (zw_gt l5 rfl rfl) zw_g1 hP
      by_cases h9 : q = i.toInt.toNat
      · rw [h9]
        exact (zp_u_self _ _ _ _).trans (k94 _)
      · exact (zp_u_ne (fun h8 => h9 h8.2)).trans (hI q (by omega))

set_option maxRecDepth 8000 in
theorem yr_wE {L : Nat} {σ : Nat → Int32} {d : Nat} {P : zp_X → Prop} {H0 : zp_H} {s kk m rb : Int32} : ∀ (z : Nat) (H : zp_H) (lv : zp_LV) (i : Int32), zw_W H → xFw H0 H → (∀ q, H.2.2.1 95 q = H0.2.2.1 95 q) → (∀ q : Nat, (q : Int) < i.toInt → H.2.2.1 94 q = H0.2.2.1 95 q) → 0 ≤ i.toInt → i.toInt + z = 73 → zp_get lv 0 = some (.inr (.inr (some 73))) → zp_get lv 1 = some (.inl s) → zp_get lv 2 = some (.inl kk) → zp_get lv 3 = some (.inl m) → zp_get lv 4 = some (.inl rb) → zp_get lv 5 = some (.inl i) → (∀ H1 lv1, zw_W H1 → xFw H0 H1 → (∀ q, H1.2.2.1 95 q = H0.2.2.1 95 q) → (∀ q : Nat, q ≤ 72 → H1.2.2.1 94 q = H0.2.2.1 95 q) → zp_get lv1 0 = some (.inr (.inr (some 73))) → zp_get lv1 1 = some (.inl s) → zp_get lv1 2 = some (.inl kk) → zp_get lv1 3 = some (.inl m) → zp_get lv1 4 = some (.inl rb) → zs_Safe L σ P zm_225 [] (d + 3) (325, lv1, [], H1, (0, 0))) → zs_Safe L σ P zm_225 [] (d + 3) (298, lv, [], H, (0, 0)) := by
  intro z
  induction z with
  | zero =>
    intro H lv i W hF k95 hI h5 hn l0 l1 l2 l3 l4 l5 hP
    refine zw_ld (n := 2) (k := 5) (f := zp_isI) (pc' := 300) rfl rfl l5 rfl rfl ?_
    refine zw_s (pc' := 302) rfl rfl ?_
    refine zw_bgt2 (g := 325) (pc' := 305) rfl rfl rfl rfl (rfl : _ = (72 : Int)) (fun h1 => ?_) (fun h1 => ?_)
    · exact hP H lv W hF k95 (fun q hq => hI q (by omega)) l0 l1 l2 l3 l4
    · have h1 : i.toInt ≤ 72 := h1
      omega
  | succ z ih =>
    intro H lv i W hF k95 hI h5 hn l0 l1 l2 l3 l4 l5 hP
    refine zw_ld (n := 2) (k := 5) (f := zp_isI) (pc' := 300) rfl rfl l5 rfl rfl ?_
    refine zw_s (pc' := 302) rfl rfl ?_
    refine zw_bgt2 (g := 325) (pc' := 305) rfl rfl rfl rfl (rfl : _ = (72 : Int)) (fun h1 => ?_) (fun h1 => ?_)
    · have h1 : 72 < i.toInt := h1
      omega
    · have h1 : i.toInt ≤ 72 := h1
      have ei : (i + Int32.ofInt 1).toInt = i.toInt + 1 := zw_p1 (by omega)
      have ii : ((i.toInt.toNat : Nat) : Int) = i.toInt := by omega
      refine zw_ld (n := 1) (k := 0) (f := zp_isR) (pc' := 306) rfl rfl l0 rfl rfl ?_
      refine zw_gR (q := 72) (pc' := 309) W rfl rfl rfl rfl (W.2 72 72 _ rfl) rfl ?_
      refine zw_ld (n := 2) (k := 5) (f := zp_isI) (pc' := 311) rfl rfl l5 rfl rfl ?_
      refine zw_ld (n := 1) (k := 0) (f := zp_isR) (pc' := 312) rfl rfl l0 rfl rfl ?_
      refine zw_gR (q := 72) (pc' := 315) W rfl rfl rfl rfl (W.2 72 73 _ rfl) rfl ?_
      refine zw_ld (n := 2) (k := 5) (f := zp_isI) (pc' := 317) rfl rfl l5 rfl rfl ?_
      refine zw_la (q := 95) (pc' := 318) W rfl rfl (⟨h5, by show _ < ((73 : Nat) : Int); omega⟩) rfl ?_
      refine zw_ls (q := 94) (pc' := 319) W rfl rfl (⟨h5, by show _ < ((73 : Nat) : Int); omega⟩) rfl ?_
      refine zw_ii (pc' := 322) rfl l5 rfl rfl ?_
      refine zw_s (pc' := 298) rfl rfl ?_
      refine ih (zw_J H 94 i.toInt.toNat (H.2.2.1 95 i.toInt.toNat)) _ (i + Int32.ofInt 1) (zw_W_J W) (xFw_J hF ⟨by decide, by decide⟩) (fun q => (xJne (by decide)).trans (k95 q)) (fun q hq => ?_) (by omega) (by omega) (zw_gt l0 rfl rfl) (zw_gt l1 rfl rfl) (zw_gt l2 rfl rfl) (zw_gt l3 rfl rfl) (zw_gt l4 rfl rfl) zw_g1 hP
      by_cases h9 : q = i.toInt.toNat
      · rw [h9]
        exact (zp_u_self _ _ _ _).trans (k95 _)
      · exact (zp_u_ne (fun h8 => h9 h8.2)).trans (hI q (by omega))

set_option maxRecDepth 8000 in
theorem yr_wDr {L : Nat} {σ : Nat → Int32} {d : Nat} {P : zp_X → Prop} {H0 : zp_H} {s kk m w n : Int32} : ∀ (z : Nat) (H : zp_H) (lv : zp_LV) (i : Int32), zw_W H → xFw H0 H → (∀ q, H.2.2.1 94 q = H0.2.2.1 94 q) → (∀ q, H.2.2.1 96 q = H0.2.2.1 96 q) → (∀ q : Nat, (q : Int) < i.toInt → H.2.2.1 95 q = H0.2.2.1 95 q ||| H0.2.2.1 96 q) → (∀ q : Nat, i.toInt ≤ (q : Int) → H.2.2.1 95 q = H0.2.2.1 95 q) → 0 ≤ i.toInt → i.toInt + z = 73 → zp_get lv 0 = some (.inr (.inr (some 73))) → zp_get lv 1 = some (.inl s) → zp_get lv 2 = some (.inl kk) → zp_get lv 3 = some (.inl m) → zp_get lv 4 = some (.inl (Int32.ofInt 1)) → zp_get lv 5 = some (.inl w) → zp_get lv 6 = some (.inl n) → zp_get lv 7 = some (.inl i) → (∀ H1 lv1, zw_W H1 → xFw H0 H1 → (∀ q, H1.2.2.1 94 q = H0.2.2.1 94 q) → (∀ q, H1.2.2.1 96 q = H0.2.2.1 96 q) → (∀ q : Nat, q ≤ 72 → H1.2.2.1 95 q = H0.2.2.1 95 q ||| H0.2.2.1 96 q) → zp_get lv1 0 = some (.inr (.inr (some 73))) → zp_get lv1 1 = some (.inl s) → zp_get lv1 2 = some (.inl kk) → zp_get lv1 3 = some (.inl m) → zp_get lv1 4 = some (.inl (Int32.ofInt 1)) → zp_get lv1 5 = some (.inl w) → zp_get lv1 6 = some (.inl n) → zs_Safe L σ P zm_225 [] (d + 3) (283, lv1, [], H1, (0, 0))) → zs_Safe L σ P zm_225 [] (d + 3) (228, lv, [], H, (0, 0)) := by
  intro z
  induction z with
  | zero =>
    intro H lv i W hF k94 k96 hI hU h5 hn l0 l1 l2 l3 l4 l5 l6 l7 hP
    refine zw_ld (n := 2) (k := 7) (f := zp_isI) (pc' := 230) rfl rfl l7 rfl rfl ?_
    refine zw_s (pc' := 232) rfl rfl ?_
    refine zw_bgt2 (g := 283) (pc' := 235) rfl rfl rfl rfl (rfl : _ = (72 : Int)) (fun h1 => ?_) (fun h1 => ?_)
    · exact hP H lv W hF k94 k96 (fun q hq => hI q (by omega)) l0 l1 l2 l3 l4 l5 l6
    · have h1 : i.toInt ≤ 72 := h1
      omega
  | succ z ih =>
    intro H lv i W hF k94 k96 hI hU h5 hn l0 l1 l2 l3 l4 l5 l6 l7 hP
    refine zw_ld (n := 2) (k := 7) (f := zp_isI) (pc' := 230) rfl rfl l7 rfl rfl ?_
    refine zw_s (pc' := 232) rfl rfl ?_
    refine zw_bgt2 (g := 283) (pc' := 235) rfl rfl rfl rfl (rfl : _ = (72 : Int)) (fun h1 => ?_) (fun h1 => ?_)
    · have h1 : 72 < i.toInt := h1
      omega
    · have h1 : i.toInt ≤ 72 := h1
      have ei : (i + Int32.ofInt 1).toInt = i.toInt + 1 := zw_p1 (by omega)
      have ii : ((i.toInt.toNat : Nat) : Int) = i.toInt := by omega
      refine zw_ld (n := 2) (k := 4) (f := zp_isI) (pc' := 237) rfl rfl l4 rfl rfl ?_
      refine zw_bne1 (g := 260) (pc' := 240) rfl rfl rfl (rfl : _ = (1 : Int)) (fun h7 => ?_) (fun h9 => absurd h9 (by decide))
      refine zw_ld (n := 1) (k := 0) (f := zp_isR) (pc' := 261) rfl rfl l0 rfl rfl ?_
      refine zw_gR (q := 72) (pc' := 264) W rfl rfl rfl rfl (W.2 72 73 _ rfl) rfl ?_
      refine zw_ld (n := 2) (k := 7) (f := zp_isI) (pc' := 266) rfl rfl l7 rfl rfl ?_
      refine zw_s (pc' := 267) rfl rfl ?_
      refine zw_la (q := 95) (pc' := 268) W rfl rfl (⟨h5, by show _ < ((73 : Nat) : Int); omega⟩) rfl ?_
      refine zw_ld (n := 1) (k := 0) (f := zp_isR) (pc' := 269) rfl rfl l0 rfl rfl ?_
      refine zw_gR (q := 72) (pc' := 272) W rfl rfl rfl rfl (W.2 72 74 _ rfl) rfl ?_
      refine zw_ld (n := 2) (k := 7) (f := zp_isI) (pc' := 274) rfl rfl l7 rfl rfl ?_
      refine zw_la (q := 96) (pc' := 275) W rfl rfl (⟨h5, by show _ < ((73 : Nat) : Int); omega⟩) rfl ?_
      refine zw_lor (pc' := 276) rfl rfl ?_
      refine zw_ls (q := 95) (pc' := 277) W rfl rfl (⟨h5, by show _ < ((73 : Nat) : Int); omega⟩) rfl ?_
      refine zw_ii (pc' := 280) rfl l7 rfl rfl ?_
      refine zw_s (pc' := 228) rfl rfl ?_
      refine ih (zw_J H 95 i.toInt.toNat (H.2.2.1 95 i.toInt.toNat ||| H.2.2.1 96 i.toInt.toNat)) _ (i + Int32.ofInt 1) (zw_W_J W) (xFw_J hF ⟨by decide, by decide⟩) (fun q => (xJne (by decide)).trans (k94 q)) (fun q => (xJne (by decide)).trans (k96 q)) (fun q hq => ?_) (fun q hq => (zp_u_ne (fun h8 => by have := h8.2; omega)).trans (hU q (by omega))) (by omega) (by omega) (zw_gt l0 rfl rfl) (zw_gt l1 rfl rfl) (zw_gt l2 rfl rfl) (zw_gt l3 rfl rfl) (zw_gt l4 rfl rfl) (zw_gt l5 rfl rfl) (zw_gt l6 rfl rfl) zw_g1 hP
      by_cases h9 : q = i.toInt.toNat
      · rw [h9]
        exact (zp_u_self _ _ _ _).trans (by rw [hU _ (by omega), k96])
      · exact (zp_u_ne (fun h8 => h9 h8.2)).trans (hI q (by omega))

set_option maxRecDepth 8000 in
theorem yr_wDu {L : Nat} {σ : Nat → Int32} {d : Nat} {P : zp_X → Prop} {H0 : zp_H} {s kk m w n : Int32} (hs : 0 ≤ s.toInt ∧ s.toInt < 8) (hm : 0 ≤ m.toInt ∧ m.toInt < 8) (hst : H0.2.1 75 (16 * s.toInt.toNat + 2 * m.toInt.toNat + 1) = n) : ∀ (z : Nat) (H : zp_H) (lv : zp_LV) (i : Int32), zw_W H → xFw H0 H → (∀ q, H.2.2.1 94 q = H0.2.2.1 94 q) → (∀ q, H.2.2.1 96 q = H0.2.2.1 96 q) → (∀ q : Nat, (q : Int) < i.toInt → H.2.2.1 95 q = H0.2.2.1 95 q ||| H0.2.2.1 96 q) → (∀ q : Nat, i.toInt ≤ (q : Int) → H.2.2.1 95 q = H0.2.2.1 95 q) → 0 ≤ i.toInt → i.toInt + z = 73 → zp_get lv 0 = some (.inr (.inr (some 73))) → zp_get lv 1 = some (.inl s) → zp_get lv 2 = some (.inl kk) → zp_get lv 3 = some (.inl m) → zp_get lv 4 = some (.inl (Int32.ofInt 0)) → zp_get lv 5 = some (.inl w) → zp_get lv 6 = some (.inl n) → zp_get lv 7 = some (.inl i) → (∀ H1 lv1, zw_W H1 → xFw H0 H1 → (∀ q, H1.2.2.1 94 q = H0.2.2.1 94 q) → (∀ q, H1.2.2.1 96 q = H0.2.2.1 96 q) → (∀ q : Nat, q ≤ 72 → H1.2.2.1 95 q = H0.2.2.1 95 q ||| H0.2.2.1 96 q) → zp_get lv1 0 = some (.inr (.inr (some 73))) → zp_get lv1 1 = some (.inl s) → zp_get lv1 2 = some (.inl kk) → zp_get lv1 3 = some (.inl m) → zp_get lv1 4 = some (.inl (Int32.ofInt 0)) → zp_get lv1 5 = some (.inl w) → zp_get lv1 6 = some (.inl n) → zs_Safe L σ P zm_225 [] (d + 3) (283, lv1, [], H1, (0, 0))) → zs_Safe L σ P zm_225 [] (d + 3) (228, lv, [], H, (0, 0)) := by
  intro z
  induction z with
  | zero =>
    intro H lv i W hF k94 k96 hI hU h5 hn l0 l1 l2 l3 l4 l5 l6 l7 hP
    refine zw_ld (n := 2) (k := 7) (f := zp_isI) (pc' := 230) rfl rfl l7 rfl rfl ?_
    refine zw_s (pc' := 232) rfl rfl ?_
    refine zw_bgt2 (g := 283) (pc' := 235) rfl rfl rfl rfl (rfl : _ = (72 : Int)) (fun h1 => ?_) (fun h1 => ?_)
    · exact hP H lv W hF k94 k96 (fun q hq => hI q (by omega)) l0 l1 l2 l3 l4 l5 l6
    · have h1 : i.toInt ≤ 72 := h1
      omega
  | succ z ih =>
    intro H lv i W hF k94 k96 hI hU h5 hn l0 l1 l2 l3 l4 l5 l6 l7 hP
    refine zw_ld (n := 2) (k := 7) (f := zp_isI) (pc' := 230) rfl rfl l7 rfl rfl ?_
    refine zw_s (pc' := 232) rfl rfl ?_
    refine zw_bgt2 (g := 283) (pc' := 235) rfl rfl rfl rfl (rfl : _ = (72 : Int)) (fun h1 => ?_) (fun h1 => ?_)
    · have h1 : 72 < i.toInt := h1
      omega
    · have h1 : i.toInt ≤ 72 := h1
      have ei : (i + Int32.ofInt 1).toInt = i.toInt + 1 := zw_p1 (by omega)
      have ii : ((i.toInt.toNat : Nat) : Int) = i.toInt := by omega
      refine zw_ld (n := 2) (k := 4) (f := zp_isI) (pc' := 237) rfl rfl l4 rfl rfl ?_
      refine zw_bne1 (g := 260) (pc' := 240) rfl rfl rfl (rfl : _ = (0 : Int)) (fun h9 => absurd h9 (by decide)) (fun h7 => ?_)
      have i1 : (Int32.ofInt 16 * s).toInt = 16 * s.toInt := zt_mul (by decide) (by omega)
      have i2 : (Int32.ofInt 2 * m).toInt = 2 * m.toInt := zt_mul (by decide) (by omega)
      have i3 : (Int32.ofInt 16 * s + Int32.ofInt 2 * m).toInt = 16 * s.toInt + 2 * m.toInt := by rw [zq_add (by rw [i1, i2]; omega) (by rw [i1, i2]; omega), i1, i2]
      have i4 : (Int32.ofInt 16 * s + Int32.ofInt 2 * m + Int32.ofInt 1).toInt = 16 * s.toInt + 2 * m.toInt + 1 := by rw [zt_add (by decide) (by omega), i3]
      have i5 : (Int32.ofInt 16 * s + Int32.ofInt 2 * m + Int32.ofInt 1).toInt.toNat = 16 * s.toInt.toNat + 2 * m.toInt.toNat + 1 := by omega
      have i6 : (Int32.ofInt 16 * s + Int32.ofInt 2 * m).toInt.toNat = 16 * s.toInt.toNat + 2 * m.toInt.toNat := by omega
      refine zw_ld (n := 2) (k := 6) (f := zp_isI) (pc' := 242) rfl rfl l6 rfl rfl ?_
      refine zw_ld (n := 1) (k := 0) (f := zp_isR) (pc' := 243) rfl rfl l0 rfl rfl ?_
      refine zw_gR (q := 72) (pc' := 246) W rfl rfl rfl rfl (W.2 72 15 _ rfl) rfl ?_
      refine zw_s (pc' := 248) rfl rfl ?_
      refine zw_ld (n := 1) (k := 1) (f := zp_isI) (pc' := 249) rfl rfl l1 rfl rfl ?_
      refine zw_imul (pc' := 250) rfl rfl ?_
      refine zw_s (pc' := 251) rfl rfl ?_
      refine zw_ld (n := 1) (k := 3) (f := zp_isI) (pc' := 252) rfl rfl l3 rfl rfl ?_
      refine zw_imul (pc' := 253) rfl rfl ?_
      refine zw_iadd (pc' := 254) rfl rfl ?_
      refine zw_s (pc' := 255) rfl rfl ?_
      refine zw_iadd (pc' := 256) rfl rfl ?_
      refine zw_ia (q := 75) (pc' := 257) W rfl rfl (by decide) (⟨by omega, by show _ < ((128 : Nat) : Int); omega⟩) rfl rfl ?_
      rw [i5, hF.2.2.1 75 _ (fun h9 => absurd h9.1 (by decide))]
      refine zw_bne2 (g := 283) (pc' := 260) rfl rfl rfl rfl rfl (fun h2 => ?_) (fun h2 => ?_)
      · exact absurd (congrArg Int32.toInt hst.symm) h2
      · refine zw_ld (n := 1) (k := 0) (f := zp_isR) (pc' := 261) rfl rfl l0 rfl rfl ?_
        refine zw_gR (q := 72) (pc' := 264) W rfl rfl rfl rfl (W.2 72 73 _ rfl) rfl ?_
        refine zw_ld (n := 2) (k := 7) (f := zp_isI) (pc' := 266) rfl rfl l7 rfl rfl ?_
        refine zw_s (pc' := 267) rfl rfl ?_
        refine zw_la (q := 95) (pc' := 268) W rfl rfl (⟨h5, by show _ < ((73 : Nat) : Int); omega⟩) rfl ?_
        refine zw_ld (n := 1) (k := 0) (f := zp_isR) (pc' := 269) rfl rfl l0 rfl rfl ?_
        refine zw_gR (q := 72) (pc' := 272) W rfl rfl rfl rfl (W.2 72 74 _ rfl) rfl ?_
        refine zw_ld (n := 2) (k := 7) (f := zp_isI) (pc' := 274) rfl rfl l7 rfl rfl ?_
        refine zw_la (q := 96) (pc' := 275) W rfl rfl (⟨h5, by show _ < ((73 : Nat) : Int); omega⟩) rfl ?_
        refine zw_lor (pc' := 276) rfl rfl ?_
        refine zw_ls (q := 95) (pc' := 277) W rfl rfl (⟨h5, by show _ < ((73 : Nat) : Int); omega⟩) rfl ?_
        refine zw_ii (pc' := 280) rfl l7 rfl rfl ?_
        refine zw_s (pc' := 228) rfl rfl ?_
        refine ih (zw_J H 95 i.toInt.toNat (H.2.2.1 95 i.toInt.toNat ||| H.2.2.1 96 i.toInt.toNat)) _ (i + Int32.ofInt 1) (zw_W_J W) (xFw_J hF ⟨by decide, by decide⟩) (fun q => (xJne (by decide)).trans (k94 q)) (fun q => (xJne (by decide)).trans (k96 q)) (fun q hq => ?_) (fun q hq => (zp_u_ne (fun h8 => by have := h8.2; omega)).trans (hU q (by omega))) (by omega) (by omega) (zw_gt l0 rfl rfl) (zw_gt l1 rfl rfl) (zw_gt l2 rfl rfl) (zw_gt l3 rfl rfl) (zw_gt l4 rfl rfl) (zw_gt l5 rfl rfl) (zw_gt l6 rfl rfl) zw_g1 hP
        by_cases h9 : q = i.toInt.toNat
        · rw [h9]
          exact (zp_u_self _ _ _ _).trans (by rw [hU _ (by omega), k96])
        · exact (zp_u_ne (fun h8 => h9 h8.2)).trans (hI q (by omega))

set_option maxRecDepth 8000 in
theorem yr_wNr {L : Nat} {σ : Nat → Int32} {d : Nat} {P : zp_X → Prop} {H0 : zp_H} {s kk m w : Int32} {S : xSea} {p q : Nat → Nat → Prop} (hS : xOk S) (hR : xSR H0 S) (hs : 0 ≤ s.toInt ∧ s.toInt < 8) : ∀ (z : Nat) (H : zp_H) (lv : zp_LV) (n : Int32) (j : Nat), zw_W H → xFw H0 H → (∀ q, H.2.2.1 94 q = H0.2.2.1 94 q) → xML (xUf S (H0.2.1 74 (4 * s.toInt.toNat + 1)).toInt p q w.toInt j) (H.2.2.1 95) → xML (xItn S (H0.2.1 74 (4 * s.toInt.toNat + 1)).toInt q w.toInt j) (H.2.2.1 96) → n.toInt = j + 1 → j + z = 9 → zp_get lv 0 = some (.inr (.inr (some 73))) → zp_get lv 1 = some (.inl s) → zp_get lv 2 = some (.inl kk) → zp_get lv 3 = some (.inl m) → zp_get lv 4 = some (.inl (Int32.ofInt 1)) → zp_get lv 5 = some (.inl w) → zp_get lv 6 = some (.inl n) → (∀ H1 lv1, zw_W H1 → xFw H0 H1 → (∀ q, H1.2.2.1 94 q = H0.2.2.1 94 q) → xML (xUf S (H0.2.1 74 (4 * s.toInt.toNat + 1)).toInt p q w.toInt 9) (H1.2.2.1 95) → zp_get lv1 0 = some (.inr (.inr (some 73))) → zp_get lv1 1 = some (.inl s) → zp_get lv1 2 = some (.inl kk) → zp_get lv1 3 = some (.inl m) → zp_get lv1 4 = some (.inl (Int32.ofInt 1)) → zp_get lv1 5 = some (.inl w) → zs_Safe L σ P zm_225 [] (d + 3) (289, lv1, [], H1, (0, 0))) → zs_Safe L σ P zm_225 [] (d + 3) (202, lv, [], H, (0, 0)) := by
  intro z
  induction z with
  | zero =>
    intro H lv n j W hF k94 hp hc h5 hn l0 l1 l2 l3 l4 l5 l6 hP
    refine zw_ld (n := 2) (k := 6) (f := zp_isI) (pc' := 204) rfl rfl l6 rfl rfl ?_
    refine zw_s (pc' := 206) rfl rfl ?_
    refine zw_bgt2 (g := 289) (pc' := 209) rfl rfl rfl rfl (rfl : _ = (9 : Int)) (fun h1 => ?_) (fun h1 => ?_)
    · have e : j = 9 := by omega
      rw [e] at hp
      exact hP H lv W hF k94 hp l0 l1 l2 l3 l4 l5
    · have h1 : n.toInt ≤ 9 := h1
      omega
  | succ z ih =>
    intro H lv n j W hF k94 hp hc h5 hn l0 l1 l2 l3 l4 l5 l6 hP
    refine zw_ld (n := 2) (k := 6) (f := zp_isI) (pc' := 204) rfl rfl l6 rfl rfl ?_
    refine zw_s (pc' := 206) rfl rfl ?_
    refine zw_bgt2 (g := 289) (pc' := 209) rfl rfl rfl rfl (rfl : _ = (9 : Int)) (fun h1 => ?_) (fun h1 => ?_)
    · have h1 : 9 < n.toInt := h1
      omega
    · have h1 : n.toInt ≤ 9 := h1
      have en : (n + Int32.ofInt 1).toInt = n.toInt + 1 := zw_p1 (by omega)
      have j1 : (Int32.ofInt 4 * s).toInt = 4 * s.toInt := zt_mul (by decide) (by omega)
      have j2 : (Int32.ofInt 4 * s + Int32.ofInt 1).toInt = 4 * s.toInt + 1 := by rw [zt_add (by decide) (by omega), j1]
      have j4 : (Int32.ofInt 4 * s + Int32.ofInt 1).toInt.toNat = 4 * s.toInt.toNat + 1 := by omega
      refine zw_ld (n := 1) (k := 0) (f := zp_isR) (pc' := 210) rfl rfl l0 rfl rfl ?_
      refine zw_ld (n := 2) (k := 5) (f := zp_isI) (pc' := 212) rfl rfl l5 rfl rfl ?_
      refine zw_ld (n := 1) (k := 0) (f := zp_isR) (pc' := 213) rfl rfl l0 rfl rfl ?_
      refine zw_gR (q := 72) (pc' := 216) W rfl rfl rfl rfl (W.2 72 14 _ rfl) rfl ?_
      refine zw_s (pc' := 217) rfl rfl ?_
      refine zw_ld (n := 1) (k := 1) (f := zp_isI) (pc' := 218) rfl rfl l1 rfl rfl ?_
      refine zw_imul (pc' := 219) rfl rfl ?_
      refine zw_s (pc' := 220) rfl rfl ?_
      refine zw_iadd (pc' := 221) rfl rfl ?_
      refine zw_ia (q := 74) (pc' := 222) W rfl rfl (by decide) (⟨by omega, by show _ < ((32 : Nat) : Int); omega⟩) rfl rfl ?_
      rw [j4, hF.2.2.1 74 _ (fun h9 => absurd h9.1 (by decide))]
      obtain ⟨_, q1, H1, rfl, W1, q2, a94, a95, a0, a96⟩ := yr_stepsAll (L := L) (σ := σ) (d := d) (x := w) (y := H0.2.1 74 (4 * s.toInt.toNat + 1)) hS (xSR_w hF hR) W
      have c96 : xML (xItn S (H0.2.1 74 (4 * s.toInt.toNat + 1)).toInt q w.toInt (j + 1)) (H1.2.2.1 96) := xML_s hS hc a0 a96
      have f1 : xFw H0 H1 := xFw_t hF q2
      refine zw_cn (pc' := 225) (zw_cv (q := 72) (Y := zm_226) W.1 rfl rfl zm_226_t rfl rfl) rfl rfl rfl rfl rfl (q1) ?_
      refine zw_s (pc' := 226) rfl rfl ?_
      refine zw_st (n := 2) (k := 7) (f := zp_isI) (pc' := 228) rfl rfl rfl rfl rfl ?_
      refine yr_wDr (H0 := H1) 73 H1 _ (Int32.ofInt 0) W1 (xFw_r H1) (fun _ => rfl) (fun _ => rfl) (fun q hq => absurd hq (by rw [show (Int32.ofInt 0).toInt = 0 by decide]; omega)) (fun _ _ => rfl) (by decide) (by rw [show (Int32.ofInt 0).toInt = 0 by decide]; omega) (zw_gt l0 rfl rfl) (zw_gt l1 rfl rfl) (zw_gt l2 rfl rfl) (zw_gt l3 rfl rfl) (zw_gt l4 rfl rfl) (zw_gt l5 rfl rfl) (zw_gt l6 rfl rfl) zw_g1 (fun H2 lv2 w1 w2 b94 b96 b95 m0 m1 m2 m3 m4 m5 m6 => ?_)
      refine zw_ii (pc' := 286) rfl m6 rfl rfl ?_
      refine zw_s (pc' := 202) rfl rfl ?_
      exact ih H2 _ (n + Int32.ofInt 1) (j + 1) w1 (xFw_t f1 w2) (fun q => (b94 q).trans ((a94 q).trans (k94 q))) (xML_o hp c96 (fun g hg => by rw [b95 g hg, a95])) (fun h9 h8 k hk => by rw [b96]; exact c96 h9 h8 k hk) (by omega) (by omega) (zw_gt m0 rfl rfl) (zw_gt m1 rfl rfl) (zw_gt m2 rfl rfl) (zw_gt m3 rfl rfl) (zw_gt m4 rfl rfl) (zw_gt m5 rfl rfl) zw_g1 hP

set_option maxRecDepth 8000 in
theorem yr_wNu {L : Nat} {σ : Nat → Int32} {d : Nat} {P : zp_X → Prop} {H0 : zp_H} {s kk m w : Int32} {S : xSea} {p q : Nat → Nat → Prop} (hS : xOk S) (hR : xSR H0 S) (hs : 0 ≤ s.toInt ∧ s.toInt < 8) (hm : 0 ≤ m.toInt ∧ m.toInt < 8) {st : Int32} (hst : H0.2.1 75 (16 * s.toInt.toNat + 2 * m.toInt.toNat + 1) = st) (h19 : 1 ≤ st.toInt ∧ st.toInt ≤ 9) : ∀ (z : Nat) (H : zp_H) (lv : zp_LV) (n : Int32) (j : Nat), zw_W H → xFw H0 H → (∀ q, H.2.2.1 94 q = H0.2.2.1 94 q) → xML ((if j < st.toInt.toNat then p else fun a b => p a b ∨ xItn S (H0.2.1 74 (4 * s.toInt.toNat + 1)).toInt q w.toInt st.toInt.toNat a b)) (H.2.2.1 95) → xML (xItn S (H0.2.1 74 (4 * s.toInt.toNat + 1)).toInt q w.toInt j) (H.2.2.1 96) → n.toInt = j + 1 → j + z = 9 → zp_get lv 0 = some (.inr (.inr (some 73))) → zp_get lv 1 = some (.inl s) → zp_get lv 2 = some (.inl kk) → zp_get lv 3 = some (.inl m) → zp_get lv 4 = some (.inl (Int32.ofInt 0)) → zp_get lv 5 = some (.inl w) → zp_get lv 6 = some (.inl n) → (∀ H1 lv1, zw_W H1 → xFw H0 H1 → (∀ q, H1.2.2.1 94 q = H0.2.2.1 94 q) → xML (fun a b => p a b ∨ xItn S (H0.2.1 74 (4 * s.toInt.toNat + 1)).toInt q w.toInt st.toInt.toNat a b) (H1.2.2.1 95) → zp_get lv1 0 = some (.inr (.inr (some 73))) → zp_get lv1 1 = some (.inl s) → zp_get lv1 2 = some (.inl kk) → zp_get lv1 3 = some (.inl m) → zp_get lv1 4 = some (.inl (Int32.ofInt 0)) → zp_get lv1 5 = some (.inl w) → zs_Safe L σ P zm_225 [] (d + 3) (289, lv1, [], H1, (0, 0))) → zs_Safe L σ P zm_225 [] (d + 3) (202, lv, [], H, (0, 0)) := by
  intro z
  induction z with
  | zero =>
    intro H lv n j W hF k94 hp hc h5 hn l0 l1 l2 l3 l4 l5 l6 hP
    refine zw_ld (n := 2) (k := 6) (f := zp_isI) (pc' := 204) rfl rfl l6 rfl rfl ?_
    refine zw_s (pc' := 206) rfl rfl ?_
    refine zw_bgt2 (g := 289) (pc' := 209) rfl rfl rfl rfl (rfl : _ = (9 : Int)) (fun h1 => ?_) (fun h1 => ?_)
    · rw [if_neg (by omega)] at hp
      exact hP H lv W hF k94 hp l0 l1 l2 l3 l4 l5
    · have h1 : n.toInt ≤ 9 := h1
      omega
  | succ z ih =>
    intro H lv n j W hF k94 hp hc h5 hn l0 l1 l2 l3 l4 l5 l6 hP
    refine zw_ld (n := 2) (k := 6) (f := zp_isI) (pc' := 204) rfl rfl l6 rfl rfl ?_
    refine zw_s (pc' := 206) rfl rfl ?_
    refine zw_bgt2 (g := 289) (pc' := 209) rfl rfl rfl rfl (rfl : _ = (9 : Int)) (fun h1 => ?_) (fun h1 => ?_)
    · have h1 : 9 < n.toInt := h1
      omega
    · have h1 : n.toInt ≤ 9 := h1
      have en : (n + Int32.ofInt 1).toInt = n.toInt + 1 := zw_p1 (by omega)
      have j1 : (Int32.ofInt 4 * s).toInt = 4 * s.toInt := zt_mul (by decide) (by omega)
      have j2 : (Int32.ofInt 4 * s + Int32.ofInt 1).toInt = 4 * s.toInt + 1 := by rw [zt_add (by decide) (by omega), j1]
      have j4 : (Int32.ofInt 4 * s + Int32.ofInt 1).toInt.toNat = 4 * s.toInt.toNat + 1 := by omega
      refine zw_ld (n := 1) (k := 0) (f := zp_isR) (pc' := 210) rfl rfl l0 rfl rfl ?_
      refine zw_ld (n := 2) (k := 5) (f := zp_isI) (pc' := 212) rfl rfl l5 rfl rfl ?_
      refine zw_ld (n := 1) (k := 0) (f := zp_isR) (pc' := 213) rfl rfl l0 rfl rfl ?_
      refine zw_gR (q := 72) (pc' := 216) W rfl rfl rfl rfl (W.2 72 14 _ rfl) rfl ?_
      refine zw_s (pc' := 217) rfl rfl ?_
      refine zw_ld (n := 1) (k := 1) (f := zp_isI) (pc' := 218) rfl rfl l1 rfl rfl ?_
      refine zw_imul (pc' := 219) rfl rfl ?_
      refine zw_s (pc' := 220) rfl rfl ?_
      refine zw_iadd (pc' := 221) rfl rfl ?_
      refine zw_ia (q := 74) (pc' := 222) W rfl rfl (by decide) (⟨by omega, by show _ < ((32 : Nat) : Int); omega⟩) rfl rfl ?_
      rw [j4, hF.2.2.1 74 _ (fun h9 => absurd h9.1 (by decide))]
      obtain ⟨_, q1, H1, rfl, W1, q2, a94, a95, a0, a96⟩ := yr_stepsAll (L := L) (σ := σ) (d := d) (x := w) (y := H0.2.1 74 (4 * s.toInt.toNat + 1)) hS (xSR_w hF hR) W
      have c96 : xML (xItn S (H0.2.1 74 (4 * s.toInt.toNat + 1)).toInt q w.toInt (j + 1)) (H1.2.2.1 96) := xML_s hS hc a0 a96
      have f1 : xFw H0 H1 := xFw_t hF q2
      refine zw_cn (pc' := 225) (zw_cv (q := 72) (Y := zm_226) W.1 rfl rfl zm_226_t rfl rfl) rfl rfl rfl rfl rfl (q1) ?_
      refine zw_s (pc' := 226) rfl rfl ?_
      refine zw_st (n := 2) (k := 7) (f := zp_isI) (pc' := 228) rfl rfl rfl rfl rfl ?_
      by_cases hnn : st = n
      · refine yr_wDu (H0 := H1) hs hm (by rw [f1.2.2.1 75 _ (fun h9 => absurd h9.1 (by decide)), hst]; exact hnn) 73 H1 _ (Int32.ofInt 0) W1 (xFw_r H1) (fun _ => rfl) (fun _ => rfl) (fun q hq => absurd hq (by rw [show (Int32.ofInt 0).toInt = 0 by decide]; omega)) (fun _ _ => rfl) (by decide) (by rw [show (Int32.ofInt 0).toInt = 0 by decide]; omega) (zw_gt l0 rfl rfl) (zw_gt l1 rfl rfl) (zw_gt l2 rfl rfl) (zw_gt l3 rfl rfl) (zw_gt l4 rfl rfl) (zw_gt l5 rfl rfl) (zw_gt l6 rfl rfl) zw_g1 (fun H2 lv2 w1 w2 b94 b96 b95 m0 m1 m2 m3 m4 m5 m6 => ?_)
        refine zw_ii (pc' := 286) rfl m6 rfl rfl ?_
        refine zw_s (pc' := 202) rfl rfl ?_
        exact ih H2 _ (n + Int32.ofInt 1) (j + 1) w1 (xFw_t f1 w2) (fun q => (b94 q).trans ((a94 q).trans (k94 q))) (by rw [if_neg (by rw [hnn]; omega)]; rw [if_pos (by rw [hnn]; omega)] at hp; rw [show st.toInt.toNat = j + 1 by rw [hnn]; omega]; exact xML_o hp c96 (fun g hg => by rw [b95 g hg, a95])) (fun h9 h8 k hk => by rw [b96]; exact c96 h9 h8 k hk) (by omega) (by omega) (zw_gt m0 rfl rfl) (zw_gt m1 rfl rfl) (zw_gt m2 rfl rfl) (zw_gt m3 rfl rfl) (zw_gt m4 rfl rfl) (zw_gt m5 rfl rfl) zw_g1 hP
      · refine zw_ld (n := 2) (k := 7) (f := zp_isI) (pc' := 230) rfl rfl zw_g1 rfl rfl ?_
        refine zw_s (pc' := 232) rfl rfl ?_
        refine zw_bgt2 (g := 283) (pc' := 235) rfl rfl rfl (rfl : _ = (0 : Int)) (rfl : _ = (72 : Int)) (fun h9 => absurd h9 (by decide)) (fun h3 => ?_)
        refine zw_ld (n := 2) (k := 4) (f := zp_isI) (pc' := 237) rfl rfl (zw_gt l4 rfl rfl) rfl rfl ?_
        refine zw_bne1 (g := 260) (pc' := 240) rfl rfl rfl (rfl : _ = (0 : Int)) (fun h9 => absurd h9 (by decide)) (fun h7 => ?_)
        have i1 : (Int32.ofInt 16 * s).toInt = 16 * s.toInt := zt_mul (by decide) (by omega)
        have i2 : (Int32.ofInt 2 * m).toInt = 2 * m.toInt := zt_mul (by decide) (by omega)
        have i3 : (Int32.ofInt 16 * s + Int32.ofInt 2 * m).toInt = 16 * s.toInt + 2 * m.toInt := by rw [zq_add (by rw [i1, i2]; omega) (by rw [i1, i2]; omega), i1, i2]
        have i4 : (Int32.ofInt 16 * s + Int32.ofInt 2 * m + Int32.ofInt 1).toInt = 16 * s.toInt + 2 * m.toInt + 1 := by rw [zt_add (by decide) (by omega), i3]
        have i5 : (Int32.ofInt 16 * s + Int32.ofInt 2 * m + Int32.ofInt 1).toInt.toNat = 16 * s.toInt.toNat + 2 * m.toInt.toNat + 1 := by omega
        have i6 : (Int32.ofInt 16 * s + Int32.ofInt 2 * m).toInt.toNat = 16 * s.toInt.toNat + 2 * m.toInt.toNat := by omega
        refine zw_ld (n := 2) (k := 6) (f := zp_isI) (pc' := 242) rfl rfl (zw_gt l6 rfl rfl) rfl rfl ?_
        refine zw_ld (n := 1) (k := 0) (f := zp_isR) (pc' := 243) rfl rfl (zw_gt l0 rfl rfl) rfl rfl ?_
        refine zw_gR (q := 72) (pc' := 246) W1 rfl rfl rfl rfl (W1.2 72 15 _ rfl) rfl ?_
        refine zw_s (pc' := 248) rfl rfl ?_
        refine zw_ld (n := 1) (k := 1) (f := zp_isI) (pc' := 249) rfl rfl (zw_gt l1 rfl rfl) rfl rfl ?_
        refine zw_imul (pc' := 250) rfl rfl ?_
        refine zw_s (pc' := 251) rfl rfl ?_
        refine zw_ld (n := 1) (k := 3) (f := zp_isI) (pc' := 252) rfl rfl (zw_gt l3 rfl rfl) rfl rfl ?_
        refine zw_imul (pc' := 253) rfl rfl ?_
        refine zw_iadd (pc' := 254) rfl rfl ?_
        refine zw_s (pc' := 255) rfl rfl ?_
        refine zw_iadd (pc' := 256) rfl rfl ?_
        refine zw_ia (q := 75) (pc' := 257) W1 rfl rfl (by decide) (⟨by omega, by show _ < ((128 : Nat) : Int); omega⟩) rfl rfl ?_
        rw [i5, f1.2.2.1 75 _ (fun h9 => absurd h9.1 (by decide)), hst]
        refine zw_bne2 (g := 283) (pc' := 260) rfl rfl rfl rfl rfl (fun h4 => ?_) (fun h4 => ?_)
        · refine zw_ii (pc' := 286) rfl (zw_gt l6 rfl rfl) rfl rfl ?_
          refine zw_s (pc' := 202) rfl rfl ?_
          exact ih H1 _ (n + Int32.ofInt 1) (j + 1) W1 f1 (fun q => (a94 q).trans (k94 q)) (by
            have hne : st.toInt ≠ n.toInt := fun h9 => hnn (Int32.toInt_inj.mp h9)
            have e95 : H1.2.2.1 95 = H.2.2.1 95 := funext a95
            rw [e95]
            by_cases hj : j < st.toInt.toNat
            · rw [if_pos hj] at hp
              rw [if_pos (by omega)]
              exact hp
            · rw [if_neg hj] at hp
              rw [if_neg (by omega)]
              exact hp) c96 (by omega) (by omega) (zw_gt (zw_gt l0 rfl rfl) rfl rfl) (zw_gt (zw_gt l1 rfl rfl) rfl rfl) (zw_gt (zw_gt l2 rfl rfl) rfl rfl) (zw_gt (zw_gt l3 rfl rfl) rfl rfl) (zw_gt (zw_gt l4 rfl rfl) rfl rfl) (zw_gt (zw_gt l5 rfl rfl) rfl rfl) zw_g1 hP
        · exact absurd (Int32.toInt_inj.mp h4.symm) hnn

set_option maxRecDepth 8000 in
theorem yr_wWr_0 {L : Nat} {σ : Nat → Int32} {d : Nat} {P : zp_X → Prop} {H0 : zp_H} {s kk m : Int32} {S : xSea} {p q : Nat → Nat → Prop} (hS : xOk S) (hR : xSR H0 S) (hs : 0 ≤ s.toInt ∧ s.toInt < 8) (hc : xML q (H0.2.2.1 94)) {H : zp_H} {lv : zp_LV} (W : zw_W H) (hF : xFw H0 H) (k94 : ∀ q, H.2.2.1 94 q = H0.2.2.1 94 q) (hp : xML p (H.2.2.1 95)) (l0 : zp_get lv 0 = some (.inr (.inr (some 73)))) (l1 : zp_get lv 1 = some (.inl s)) (l2 : zp_get lv 2 = some (.inl kk)) (l3 : zp_get lv 3 = some (.inl m)) (l4 : zp_get lv 4 = some (.inl (Int32.ofInt 1))) (l5 : zp_get lv 5 = some (.inl (Int32.ofInt 0))) (hP : ∀ H1 lv1, zw_W H1 → xFw H0 H1 → (∀ q, H1.2.2.1 94 q = H0.2.2.1 94 q) → xML (xUf S (H0.2.1 74 (4 * s.toInt.toNat + 1)).toInt p q 0 9) (H1.2.2.1 95) → zp_get lv1 0 = some (.inr (.inr (some 73))) → zp_get lv1 1 = some (.inl s) → zp_get lv1 2 = some (.inl kk) → zp_get lv1 3 = some (.inl m) → zp_get lv1 4 = some (.inl (Int32.ofInt 1)) → zp_get lv1 5 = some (.inl (Int32.ofInt 1)) → zs_Safe L σ P zm_225 [] (d + 3) (137, lv1, [], H1, (0, 0))) : zs_Safe L σ P zm_225 [] (d + 3) (137, lv, [], H, (0, 0)) := by
  refine zw_ld (n := 2) (k := 5) (f := zp_isI) (pc' := 139) rfl rfl l5 rfl rfl ?_
  refine zw_s (pc' := 140) rfl rfl ?_
  refine zw_bge2 (g := 295) (pc' := 143) rfl rfl rfl (rfl : _ = (0 : Int)) (rfl : _ = (4 : Int)) (fun h9 => absurd h9 (by decide)) (fun h1 => ?_)
  refine zw_ld (n := 2) (k := 4) (f := zp_isI) (pc' := 145) rfl rfl l4 rfl rfl ?_
  refine zw_bne1 (g := 169) (pc' := 148) rfl rfl rfl (rfl : _ = (1 : Int)) (fun h7 => ?_) (fun h9 => absurd h9 (by decide))
  refine zw_s (pc' := 170) rfl rfl ?_
  refine zw_st (n := 2) (k := 6) (f := zp_isI) (pc' := 172) rfl rfl rfl rfl rfl ?_
  refine yr_wC (H0 := H) (w := Int32.ofInt 0) 73 H _ (Int32.ofInt 0) W (xFw_r H) (fun _ => rfl) (fun _ => rfl) (fun q hq => absurd hq (by rw [show (Int32.ofInt 0).toInt = 0 by decide]; omega)) (by decide) (by rw [show (Int32.ofInt 0).toInt = 0 by decide]; omega) (zw_gt l0 rfl rfl) (zw_gt l1 rfl rfl) (zw_gt l2 rfl rfl) (zw_gt l3 rfl rfl) (zw_gt l4 rfl rfl) (zw_gt l5 rfl rfl) zw_g1 (fun H1 lv1 w1 w2 a94 a95 a96 m0 m1 m2 m3 m4 m5 => ?_)
  refine zw_s (pc' := 200) rfl rfl ?_
  refine zw_st (n := 2) (k := 6) (f := zp_isI) (pc' := 202) rfl rfl rfl rfl rfl ?_
  refine yr_wNr (H0 := H0) (p := p) (q := q) hS hR hs 9 H1 _ (Int32.ofInt 1) 0 w1 (xFw_t hF w2) (fun q => (a94 q).trans (k94 q)) (by rw [show H1.2.2.1 95 = H.2.2.1 95 from funext a95]; exact hp) (fun h9 h8 b hb => by rw [a96 h9 h8, k94]; exact hc h9 h8 b hb) (by decide) rfl (zw_gt m0 rfl rfl) (zw_gt m1 rfl rfl) (zw_gt m2 rfl rfl) (zw_gt m3 rfl rfl) (zw_gt m4 rfl rfl) (zw_gt m5 rfl rfl) zw_g1 (fun H2 lv2 v1 v2 b94 b95 n0 n1 n2 n3 n4 n5 => ?_)
  refine zw_ii (pc' := 292) rfl n5 rfl rfl ?_
  rw [show Int32.ofInt 0 + Int32.ofInt 1 = Int32.ofInt 1 by decide]
  refine zw_s (pc' := 137) rfl rfl ?_
  exact hP H2 _ v1 v2 b94 b95 (zw_gt n0 rfl rfl) (zw_gt n1 rfl rfl) (zw_gt n2 rfl rfl) (zw_gt n3 rfl rfl) (zw_gt n4 rfl rfl) zw_g1

set_option maxRecDepth 8000 in
theorem yr_wWr_1 {L : Nat} {σ : Nat → Int32} {d : Nat} {P : zp_X → Prop} {H0 : zp_H} {s kk m : Int32} {S : xSea} {p q : Nat → Nat → Prop} (hS : xOk S) (hR : xSR H0 S) (hs : 0 ≤ s.toInt ∧ s.toInt < 8) (hc : xML q (H0.2.2.1 94)) {H : zp_H} {lv : zp_LV} (W : zw_W H) (hF : xFw H0 H) (k94 : ∀ q, H.2.2.1 94 q = H0.2.2.1 94 q) (hp : xML p (H.2.2.1 95)) (l0 : zp_get lv 0 = some (.inr (.inr (some 73)))) (l1 : zp_get lv 1 = some (.inl s)) (l2 : zp_get lv 2 = some (.inl kk)) (l3 : zp_get lv 3 = some (.inl m)) (l4 : zp_get lv 4 = some (.inl (Int32.ofInt 1))) (l5 : zp_get lv 5 = some (.inl (Int32.ofInt 1))) (hP : ∀ H1 lv1, zw_W H1 → xFw H0 H1 → (∀ q, H1.2.2.1 94 q = H0.2.2.1 94 q) → xML (xUf S (H0.2.1 74 (4 * s.toInt.toNat + 1)).toInt p q 1 9) (H1.2.2.1 95) → zp_get lv1 0 = some (.inr (.inr (some 73))) → zp_get lv1 1 = some (.inl s) → zp_get lv1 2 = some (.inl kk) → zp_get lv1 3 = some (.inl m) → zp_get lv1 4 = some (.inl (Int32.ofInt 1)) → zp_get lv1 5 = some (.inl (Int32.ofInt 2)) → zs_Safe L σ P zm_225 [] (d + 3) (137, lv1, [], H1, (0, 0))) : zs_Safe L σ P zm_225 [] (d + 3) (137, lv, [], H, (0, 0)) := by
  refine zw_ld (n := 2) (k := 5) (f := zp_isI) (pc' := 139) rfl rfl l5 rfl rfl ?_
  refine zw_s (pc' := 140) rfl rfl ?_
  refine zw_bge2 (g := 295) (pc' := 143) rfl rfl rfl (rfl : _ = (1 : Int)) (rfl : _ = (4 : Int)) (fun h9 => absurd h9 (by decide)) (fun h1 => ?_)
  refine zw_ld (n := 2) (k := 4) (f := zp_isI) (pc' := 145) rfl rfl l4 rfl rfl ?_
  refine zw_bne1 (g := 169) (pc' := 148) rfl rfl rfl (rfl : _ = (1 : Int)) (fun h7 => ?_) (fun h9 => absurd h9 (by decide))
  refine zw_s (pc' := 170) rfl rfl ?_
  refine zw_st (n := 2) (k := 6) (f := zp_isI) (pc' := 172) rfl rfl rfl rfl rfl ?_
  refine yr_wC (H0 := H) (w := Int32.ofInt 1) 73 H _ (Int32.ofInt 0) W (xFw_r H) (fun _ => rfl) (fun _ => rfl) (fun q hq => absurd hq (by rw [show (Int32.ofInt 0).toInt = 0 by decide]; omega)) (by decide) (by rw [show (Int32.ofInt 0).toInt = 0 by decide]; omega) (zw_gt l0 rfl rfl) (zw_gt l1 rfl rfl) (zw_gt l2 rfl rfl) (zw_gt l3 rfl rfl) (zw_gt l4 rfl rfl) (zw_gt l5 rfl rfl) zw_g1 (fun H1 lv1 w1 w2 a94 a95 a96 m0 m1 m2 m3 m4 m5 => ?_)
  refine zw_s (pc' := 200) rfl rfl ?_
  refine zw_st (n := 2) (k := 6) (f := zp_isI) (pc' := 202) rfl rfl rfl rfl rfl ?_
  refine yr_wNr (H0 := H0) (p := p) (q := q) hS hR hs 9 H1 _ (Int32.ofInt 1) 0 w1 (xFw_t hF w2) (fun q => (a94 q).trans (k94 q)) (by rw [show H1.2.2.1 95 = H.2.2.1 95 from funext a95]; exact hp) (fun h9 h8 b hb => by rw [a96 h9 h8, k94]; exact hc h9 h8 b hb) (by decide) rfl (zw_gt m0 rfl rfl) (zw_gt m1 rfl rfl) (zw_gt m2 rfl rfl) (zw_gt m3 rfl rfl) (zw_gt m4 rfl rfl) (zw_gt m5 rfl rfl) zw_g1 (fun H2 lv2 v1 v2 b94 b95 n0 n1 n2 n3 n4 n5 => ?_)
  refine zw_ii (pc' := 292) rfl n5 rfl rfl ?_
  rw [show Int32.ofInt 1 + Int32.ofInt 1 = Int32.ofInt 2 by decide]
  refine zw_s (pc' := 137) rfl rfl ?_
  exact hP H2 _ v1 v2 b94 b95 (zw_gt n0 rfl rfl) (zw_gt n1 rfl rfl) (zw_gt n2 rfl rfl) (zw_gt n3 rfl rfl) (zw_gt n4 rfl rfl) zw_g1

set_option maxRecDepth 8000 in
theorem yr_wWr_2 {L : Nat} {σ : Nat → Int32} {d : Nat} {P : zp_X → Prop} {H0 : zp_H} {s kk m : Int32} {S : xSea} {p q : Nat → Nat → Prop} (hS : xOk S) (hR : xSR H0 S) (hs : 0 ≤ s.toInt ∧ s.toInt < 8) (hc : xML q (H0.2.2.1 94)) {H : zp_H} {lv : zp_LV} (W : zw_W H) (hF : xFw H0 H) (k94 : ∀ q, H.2.2.1 94 q = H0.2.2.1 94 q) (hp : xML p (H.2.2.1 95)) (l0 : zp_get lv 0 = some (.inr (.inr (some 73)))) (l1 : zp_get lv 1 = some (.inl s)) (l2 : zp_get lv 2 = some (.inl kk)) (l3 : zp_get lv 3 = some (.inl m)) (l4 : zp_get lv 4 = some (.inl (Int32.ofInt 1))) (l5 : zp_get lv 5 = some (.inl (Int32.ofInt 2))) (hP : ∀ H1 lv1, zw_W H1 → xFw H0 H1 → (∀ q, H1.2.2.1 94 q = H0.2.2.1 94 q) → xML (xUf S (H0.2.1 74 (4 * s.toInt.toNat + 1)).toInt p q 2 9) (H1.2.2.1 95) → zp_get lv1 0 = some (.inr (.inr (some 73))) → zp_get lv1 1 = some (.inl s) → zp_get lv1 2 = some (.inl kk) → zp_get lv1 3 = some (.inl m) → zp_get lv1 4 = some (.inl (Int32.ofInt 1)) → zp_get lv1 5 = some (.inl (Int32.ofInt 3)) → zs_Safe L σ P zm_225 [] (d + 3) (137, lv1, [], H1, (0, 0))) : zs_Safe L σ P zm_225 [] (d + 3) (137, lv, [], H, (0, 0)) := by
  refine zw_ld (n := 2) (k := 5) (f := zp_isI) (pc' := 139) rfl rfl l5 rfl rfl ?_
  refine zw_s (pc' := 140) rfl rfl ?_
  refine zw_bge2 (g := 295) (pc' := 143) rfl rfl rfl (rfl : _ = (2 : Int)) (rfl : _ = (4 : Int)) (fun h9 => absurd h9 (by decide)) (fun h1 => ?_)
  refine zw_ld (n := 2) (k := 4) (f := zp_isI) (pc' := 145) rfl rfl l4 rfl rfl ?_
  refine zw_bne1 (g := 169) (pc' := 148) rfl rfl rfl (rfl : _ = (1 : Int)) (fun h7 => ?_) (fun h9 => absurd h9 (by decide))
  refine zw_s (pc' := 170) rfl rfl ?_
  refine zw_st (n := 2) (k := 6) (f := zp_isI) (pc' := 172) rfl rfl rfl rfl rfl ?_
  refine yr_wC (H0 := H) (w := Int32.ofInt 2) 73 H _ (Int32.ofInt 0) W (xFw_r H) (fun _ => rfl) (fun _ => rfl) (fun q hq => absurd hq (by rw [show (Int32.ofInt 0).toInt = 0 by decide]; omega)) (by decide) (by rw [show (Int32.ofInt 0).toInt = 0 by decide]; omega) (zw_gt l0 rfl rfl) (zw_gt l1 rfl rfl) (zw_gt l2 rfl rfl) (zw_gt l3 rfl rfl) (zw_gt l4 rfl rfl) (zw_gt l5 rfl rfl) zw_g1 (fun H1 lv1 w1 w2 a94 a95 a96 m0 m1 m2 m3 m4 m5 => ?_)
  refine zw_s (pc' := 200) rfl rfl ?_
  refine zw_st (n := 2) (k := 6) (f := zp_isI) (pc' := 202) rfl rfl rfl rfl rfl ?_
  refine yr_wNr (H0 := H0) (p := p) (q := q) hS hR hs 9 H1 _ (Int32.ofInt 1) 0 w1 (xFw_t hF w2) (fun q => (a94 q).trans (k94 q)) (by rw [show H1.2.2.1 95 = H.2.2.1 95 from funext a95]; exact hp) (fun h9 h8 b hb => by rw [a96 h9 h8, k94]; exact hc h9 h8 b hb) (by decide) rfl (zw_gt m0 rfl rfl) (zw_gt m1 rfl rfl) (zw_gt m2 rfl rfl) (zw_gt m3 rfl rfl) (zw_gt m4 rfl rfl) (zw_gt m5 rfl rfl) zw_g1 (fun H2 lv2 v1 v2 b94 b95 n0 n1 n2 n3 n4 n5 => ?_)
  refine zw_ii (pc' := 292) rfl n5 rfl rfl ?_
  rw [show Int32.ofInt 2 + Int32.ofInt 1 = Int32.ofInt 3 by decide]
  refine zw_s (pc' := 137) rfl rfl ?_
  exact hP H2 _ v1 v2 b94 b95 (zw_gt n0 rfl rfl) (zw_gt n1 rfl rfl) (zw_gt n2 rfl rfl) (zw_gt n3 rfl rfl) (zw_gt n4 rfl rfl) zw_g1

set_option maxRecDepth 8000 in
theorem yr_wWr_3 {L : Nat} {σ : Nat → Int32} {d : Nat} {P : zp_X → Prop} {H0 : zp_H} {s kk m : Int32} {S : xSea} {p q : Nat → Nat → Prop} (hS : xOk S) (hR : xSR H0 S) (hs : 0 ≤ s.toInt ∧ s.toInt < 8) (hc : xML q (H0.2.2.1 94)) {H : zp_H} {lv : zp_LV} (W : zw_W H) (hF : xFw H0 H) (k94 : ∀ q, H.2.2.1 94 q = H0.2.2.1 94 q) (hp : xML p (H.2.2.1 95)) (l0 : zp_get lv 0 = some (.inr (.inr (some 73)))) (l1 : zp_get lv 1 = some (.inl s)) (l2 : zp_get lv 2 = some (.inl kk)) (l3 : zp_get lv 3 = some (.inl m)) (l4 : zp_get lv 4 = some (.inl (Int32.ofInt 1))) (l5 : zp_get lv 5 = some (.inl (Int32.ofInt 3))) (hP : ∀ H1 lv1, zw_W H1 → xFw H0 H1 → (∀ q, H1.2.2.1 94 q = H0.2.2.1 94 q) → xML (xUf S (H0.2.1 74 (4 * s.toInt.toNat + 1)).toInt p q 3 9) (H1.2.2.1 95) → zp_get lv1 0 = some (.inr (.inr (some 73))) → zp_get lv1 1 = some (.inl s) → zp_get lv1 2 = some (.inl kk) → zp_get lv1 3 = some (.inl m) → zp_get lv1 4 = some (.inl (Int32.ofInt 1)) → zp_get lv1 5 = some (.inl (Int32.ofInt 4)) → zs_Safe L σ P zm_225 [] (d + 3) (137, lv1, [], H1, (0, 0))) : zs_Safe L σ P zm_225 [] (d + 3) (137, lv, [], H, (0, 0)) := by
  refine zw_ld (n := 2) (k := 5) (f := zp_isI) (pc' := 139) rfl rfl l5 rfl rfl ?_
  refine zw_s (pc' := 140) rfl rfl ?_
  refine zw_bge2 (g := 295) (pc' := 143) rfl rfl rfl (rfl : _ = (3 : Int)) (rfl : _ = (4 : Int)) (fun h9 => absurd h9 (by decide)) (fun h1 => ?_)
  refine zw_ld (n := 2) (k := 4) (f := zp_isI) (pc' := 145) rfl rfl l4 rfl rfl ?_
  refine zw_bne1 (g := 169) (pc' := 148) rfl rfl rfl (rfl : _ = (1 : Int)) (fun h7 => ?_) (fun h9 => absurd h9 (by decide))
  refine zw_s (pc' := 170) rfl rfl ?_
  refine zw_st (n := 2) (k := 6) (f := zp_isI) (pc' := 172) rfl rfl rfl rfl rfl ?_
  refine yr_wC (H0 := H) (w := Int32.ofInt 3) 73 H _ (Int32.ofInt 0) W (xFw_r H) (fun _ => rfl) (fun _ => rfl) (fun q hq => absurd hq (by rw [show (Int32.ofInt 0).toInt = 0 by decide]; omega)) (by decide) (by rw [show (Int32.ofInt 0).toInt = 0 by decide]; omega) (zw_gt l0 rfl rfl) (zw_gt l1 rfl rfl) (zw_gt l2 rfl rfl) (zw_gt l3 rfl rfl) (zw_gt l4 rfl rfl) (zw_gt l5 rfl rfl) zw_g1 (fun H1 lv1 w1 w2 a94 a95 a96 m0 m1 m2 m3 m4 m5 => ?_)
  refine zw_s (pc' := 200) rfl rfl ?_
  refine zw_st (n := 2) (k := 6) (f := zp_isI) (pc' := 202) rfl rfl rfl rfl rfl ?_
  refine yr_wNr (H0 := H0) (p := p) (q := q) hS hR hs 9 H1 _ (Int32.ofInt 1) 0 w1 (xFw_t hF w2) (fun q => (a94 q).trans (k94 q)) (by rw [show H1.2.2.1 95 = H.2.2.1 95 from funext a95]; exact hp) (fun h9 h8 b hb => by rw [a96 h9 h8, k94]; exact hc h9 h8 b hb) (by decide) rfl (zw_gt m0 rfl rfl) (zw_gt m1 rfl rfl) (zw_gt m2 rfl rfl) (zw_gt m3 rfl rfl) (zw_gt m4 rfl rfl) (zw_gt m5 rfl rfl) zw_g1 (fun H2 lv2 v1 v2 b94 b95 n0 n1 n2 n3 n4 n5 => ?_)
  refine zw_ii (pc' := 292) rfl n5 rfl rfl ?_
  rw [show Int32.ofInt 3 + Int32.ofInt 1 = Int32.ofInt 4 by decide]
  refine zw_s (pc' := 137) rfl rfl ?_
  exact hP H2 _ v1 v2 b94 b95 (zw_gt n0 rfl rfl) (zw_gt n1 rfl rfl) (zw_gt n2 rfl rfl) (zw_gt n3 rfl rfl) (zw_gt n4 rfl rfl) zw_g1

set_option maxRecDepth 8000 in
theorem yr_wWu_0 {L : Nat} {σ : Nat → Int32} {d : Nat} {P : zp_X → Prop} {H0 : zp_H} {s kk m : Int32} {S : xSea} {p q : Nat → Nat → Prop} (hS : xOk S) (hR : xSR H0 S) (hs : 0 ≤ s.toInt ∧ s.toInt < 8) (hm : 0 ≤ m.toInt ∧ m.toInt < 8) {st wy : Int32} (hst : H0.2.1 75 (16 * s.toInt.toNat + 2 * m.toInt.toNat + 1) = st) (h19 : 1 ≤ st.toInt ∧ st.toInt ≤ 9) (hwy0 : H0.2.1 75 (16 * s.toInt.toNat + 2 * m.toInt.toNat) = wy) (hwy : (H0.2.1 75 (16 * s.toInt.toNat + 2 * m.toInt.toNat) = Int32.ofInt 0)) (hc : xML q (H0.2.2.1 94)) {H : zp_H} {lv : zp_LV} (W : zw_W H) (hF : xFw H0 H) (k94 : ∀ q, H.2.2.1 94 q = H0.2.2.1 94 q) (hp : xML p (H.2.2.1 95)) (l0 : zp_get lv 0 = some (.inr (.inr (some 73)))) (l1 : zp_get lv 1 = some (.inl s)) (l2 : zp_get lv 2 = some (.inl kk)) (l3 : zp_get lv 3 = some (.inl m)) (l4 : zp_get lv 4 = some (.inl (Int32.ofInt 0))) (l5 : zp_get lv 5 = some (.inl (Int32.ofInt 0))) (hP : ∀ H1 lv1, zw_W H1 → xFw H0 H1 → (∀ q, H1.2.2.1 94 q = H0.2.2.1 94 q) → xML (fun a b => p a b ∨ xItn S (H0.2.1 74 (4 * s.toInt.toNat + 1)).toInt q 0 st.toInt.toNat a b) (H1.2.2.1 95) → zp_get lv1 0 = some (.inr (.inr (some 73))) → zp_get lv1 1 = some (.inl s) → zp_get lv1 2 = some (.inl kk) → zp_get lv1 3 = some (.inl m) → zp_get lv1 4 = some (.inl (Int32.ofInt 0)) → zp_get lv1 5 = some (.inl (Int32.ofInt 1)) → zs_Safe L σ P zm_225 [] (d + 3) (137, lv1, [], H1, (0, 0))) : zs_Safe L σ P zm_225 [] (d + 3) (137, lv, [], H, (0, 0)) := by
  refine zw_ld (n := 2) (k := 5) (f := zp_isI) (pc' := 139) rfl rfl l5 rfl rfl ?_
  refine zw_s (pc' := 140) rfl rfl ?_
  refine zw_bge2 (g := 295) (pc' := 143) rfl rfl rfl (rfl : _ = (0 : Int)) (rfl : _ = (4 : Int)) (fun h9 => absurd h9 (by decide)) (fun h1 => ?_)
  refine zw_ld (n := 2) (k := 4) (f := zp_isI) (pc' := 145) rfl rfl l4 rfl rfl ?_
  refine zw_bne1 (g := 169) (pc' := 148) rfl rfl rfl (rfl : _ = (0 : Int)) (fun h9 => absurd h9 (by decide)) (fun h7 => ?_)
  have i1 : (Int32.ofInt 16 * s).toInt = 16 * s.toInt := zt_mul (by decide) (by omega)
  have i2 : (Int32.ofInt 2 * m).toInt = 2 * m.toInt := zt_mul (by decide) (by omega)
  have i3 : (Int32.ofInt 16 * s + Int32.ofInt 2 * m).toInt = 16 * s.toInt + 2 * m.toInt := by rw [zq_add (by rw [i1, i2]; omega) (by rw [i1, i2]; omega), i1, i2]
  have i4 : (Int32.ofInt 16 * s + Int32.ofInt 2 * m + Int32.ofInt 1).toInt = 16 * s.toInt + 2 * m.toInt + 1 := by rw [zt_add (by decide) (by omega), i3]
  have i5 : (Int32.ofInt 16 * s + Int32.ofInt 2 * m + Int32.ofInt 1).toInt.toNat = 16 * s.toInt.toNat + 2 * m.toInt.toNat + 1 := by omega
  have i6 : (Int32.ofInt 16 * s + Int32.ofInt 2 * m).toInt.toNat = 16 * s.toInt.toNat + 2 * m.toInt.toNat := by omega
  refine zw_ld (n := 2) (k := 5) (f := zp_isI) (pc' := 150) rfl rfl l5 rfl rfl ?_
  refine zw_ld (n := 1) (k := 0) (f := zp_isR) (pc' := 151) rfl rfl l0 rfl rfl ?_
  refine zw_gR (q := 72) (pc' := 154) W rfl rfl rfl rfl (W.2 72 15 _ rfl) rfl ?_
  refine zw_s (pc' := 156) rfl rfl ?_
  refine zw_ld (n := 1) (k := 1) (f := zp_isI) (pc' := 157) rfl rfl l1 rfl rfl ?_
  refine zw_imul (pc' := 158) rfl rfl ?_
  refine zw_s (pc' := 159) rfl rfl ?_
  refine zw_ld (n := 1) (k := 3) (f := zp_isI) (pc' := 160) rfl rfl l3 rfl rfl ?_
  refine zw_imul (pc' := 161) rfl rfl ?_
  refine zw_iadd (pc' := 162) rfl rfl ?_
  refine zw_ia (q := 75) (pc' := 163) W rfl rfl (by decide) (⟨by omega, by show _ < ((128 : Nat) : Int); omega⟩) rfl rfl ?_
  rw [i6, hF.2.2.1 75 _ (fun h9 => absurd h9.1 (by decide))]
  refine zw_beq2 (g := 169) (pc' := 166) rfl rfl rfl (rfl : _ = (0 : Int)) rfl (fun h2 => ?_) (fun h2 => ?_)
  · refine zw_s (pc' := 170) rfl rfl ?_
    refine zw_st (n := 2) (k := 6) (f := zp_isI) (pc' := 172) rfl rfl rfl rfl rfl ?_
    refine yr_wC (H0 := H) (w := Int32.ofInt 0) 73 H _ (Int32.ofInt 0) W (xFw_r H) (fun _ => rfl) (fun _ => rfl) (fun q hq => absurd hq (by rw [show (Int32.ofInt 0).toInt = 0 by decide]; omega)) (by decide) (by rw [show (Int32.ofInt 0).toInt = 0 by decide]; omega) (zw_gt l0 rfl rfl) (zw_gt l1 rfl rfl) (zw_gt l2 rfl rfl) (zw_gt l3 rfl rfl) (zw_gt l4 rfl rfl) (zw_gt l5 rfl rfl) zw_g1 (fun H1 lv1 w1 w2 a94 a95 a96 m0 m1 m2 m3 m4 m5 => ?_)
    refine zw_s (pc' := 200) rfl rfl ?_
    refine zw_st (n := 2) (k := 6) (f := zp_isI) (pc' := 202) rfl rfl rfl rfl rfl ?_
    refine yr_wNu (H0 := H0) (p := p) (q := q) hS hR hs hm hst h19 9 H1 _ (Int32.ofInt 1) 0 w1 (xFw_t hF w2) (fun q => (a94 q).trans (k94 q)) (by rw [if_pos (by omega), show H1.2.2.1 95 = H.2.2.1 95 from funext a95]; exact hp) (fun h9 h8 b hb => by rw [a96 h9 h8, k94]; exact hc h9 h8 b hb) (by decide) rfl (zw_gt m0 rfl rfl) (zw_gt m1 rfl rfl) (zw_gt m2 rfl rfl) (zw_gt m3 rfl rfl) (zw_gt m4 rfl rfl) (zw_gt m5 rfl rfl) zw_g1 (fun H2 lv2 v1 v2 b94 b95 n0 n1 n2 n3 n4 n5 => ?_)
    refine zw_ii (pc' := 292) rfl n5 rfl rfl ?_
    rw [show Int32.ofInt 0 + Int32.ofInt 1 = Int32.ofInt 1 by decide]
    refine zw_s (pc' := 137) rfl rfl ?_
    exact hP H2 _ v1 v2 b94 b95 (zw_gt n0 rfl rfl) (zw_gt n1 rfl rfl) (zw_gt n2 rfl rfl) (zw_gt n3 rfl rfl) (zw_gt n4 rfl rfl) zw_g1
  · exact absurd (congrArg Int32.toInt hwy.symm) h2

set_option maxRecDepth 8000 in
theorem yr_wWn_0 {L : Nat} {σ : Nat → Int32} {d : Nat} {P : zp_X → Prop} {H0 : zp_H} {s kk m : Int32} {S : xSea} {p q : Nat → Nat → Prop} (hS : xOk S) (hR : xSR H0 S) (hs : 0 ≤ s.toInt ∧ s.toInt < 8) (hm : 0 ≤ m.toInt ∧ m.toInt < 8) {st wy : Int32} (hst : H0.2.1 75 (16 * s.toInt.toNat + 2 * m.toInt.toNat + 1) = st) (h19 : 1 ≤ st.toInt ∧ st.toInt ≤ 9) (hwy0 : H0.2.1 75 (16 * s.toInt.toNat + 2 * m.toInt.toNat) = wy) (hwy : ¬ (H0.2.1 75 (16 * s.toInt.toNat + 2 * m.toInt.toNat) = Int32.ofInt 0)) (hc : xML q (H0.2.2.1 94)) {H : zp_H} {lv : zp_LV} (W : zw_W H) (hF : xFw H0 H) (k94 : ∀ q, H.2.2.1 94 q = H0.2.2.1 94 q) (hp : xML p (H.2.2.1 95)) (l0 : zp_get lv 0 = some (.inr (.inr (some 73)))) (l1 : zp_get lv 1 = some (.inl s)) (l2 : zp_get lv 2 = some (.inl kk)) (l3 : zp_get lv 3 = some (.inl m)) (l4 : zp_get lv 4 = some (.inl (Int32.ofInt 0))) (l5 : zp_get lv 5 = some (.inl (Int32.ofInt 0))) (hP : ∀ H1 lv1, zw_W H1 → xFw H0 H1 → (∀ q, H1.2.2.1 94 q = H0.2.2.1 94 q) → xML (p) (H1.2.2.1 95) → zp_get lv1 0 = some (.inr (.inr (some 73))) → zp_get lv1 1 = some (.inl s) → zp_get lv1 2 = some (.inl kk) → zp_get lv1 3 = some (.inl m) → zp_get lv1 4 = some (.inl (Int32.ofInt 0)) → zp_get lv1 5 = some (.inl (Int32.ofInt 1)) → zs_Safe L σ P zm_225 [] (d + 3) (137, lv1, [], H1, (0, 0))) : zs_Safe L σ P zm_225 [] (d + 3) (137, lv, [], H, (0, 0)) := by
  refine zw_ld (n := 2) (k := 5) (f := zp_isI) (pc' := 139) rfl rfl l5 rfl rfl ?_
  refine zw_s (pc' := 140) rfl rfl ?_
  refine zw_bge2 (g := 295) (pc' := 143) rfl rfl rfl (rfl : _ = (0 : Int)) (rfl : _ = (4 : Int)) (fun h9 => absurd h9 (by decide)) (fun h1 => ?_)
  refine zw_ld (n := 2) (k := 4) (f := zp_isI) (pc' := 145) rfl rfl l4 rfl rfl ?_
  refine zw_bne1 (g := 169) (pc' := 148) rfl rfl rfl (rfl : _ = (0 : Int)) (fun h9 => absurd h9 (by decide)) (fun h7 => ?_)
  have i1 : (Int32.ofInt 16 * s).toInt = 16 * s.toInt := zt_mul (by decide) (by omega)
  have i2 : (Int32.ofInt 2 * m).toInt = 2 * m.toInt := zt_mul (by decide) (by omega)
  have i3 : (Int32.ofInt 16 * s + Int32.ofInt 2 * m).toInt = 16 * s.toInt + 2 * m.toInt := by rw [zq_add (by rw [i1, i2]; omega) (by rw [i1, i2]; omega), i1, i2]
  have i4 : (Int32.ofInt 16 * s + Int32.ofInt 2 * m + Int32.ofInt 1).toInt = 16 * s.toInt + 2 * m.toInt + 1 := by rw [zt_add (by decide) (by omega), i3]
  have i5 : (Int32.ofInt 16 * s + Int32.ofInt 2 * m + Int32.ofInt 1).toInt.toNat = 16 * s.toInt.toNat + 2 * m.toInt.toNat + 1 := by omega
  have i6 : (Int32.ofInt 16 * s + Int32.ofInt 2 * m).toInt.toNat = 16 * s.toInt.toNat + 2 * m.toInt.toNat := by omega
  refine zw_ld (n := 2) (k := 5) (f := zp_isI) (pc' := 150) rfl rfl l5 rfl rfl ?_
  refine zw_ld (n := 1) (k := 0) (f := zp_isR) (pc' := 151) rfl rfl l0 rfl rfl ?_
  refine zw_gR (q := 72) (pc' := 154) W rfl rfl rfl rfl (W.2 72 15 _ rfl) rfl ?_
  refine zw_s (pc' := 156) rfl rfl ?_
  refine zw_ld (n := 1) (k := 1) (f := zp_isI) (pc' := 157) rfl rfl l1 rfl rfl ?_
  refine zw_imul (pc' := 158) rfl rfl ?_
  refine zw_s (pc' := 159) rfl rfl ?_
  refine zw_ld (n := 1) (k := 3) (f := zp_isI) (pc' := 160) rfl rfl l3 rfl rfl ?_
  refine zw_imul (pc' := 161) rfl rfl ?_
  refine zw_iadd (pc' := 162) rfl rfl ?_
  refine zw_ia (q := 75) (pc' := 163) W rfl rfl (by decide) (⟨by omega, by show _ < ((128 : Nat) : Int); omega⟩) rfl rfl ?_
  rw [i6, hF.2.2.1 75 _ (fun h9 => absurd h9.1 (by decide))]
  refine zw_beq2 (g := 169) (pc' := 166) rfl rfl rfl (rfl : _ = (0 : Int)) rfl (fun h2 => ?_) (fun h2 => ?_)
  · exact absurd (Int32.toInt_inj.mp h2.symm) hwy
  · refine zw_s (pc' := 289) rfl rfl ?_
    refine zw_ii (pc' := 292) rfl l5 rfl rfl ?_
    rw [show Int32.ofInt 0 + Int32.ofInt 1 = Int32.ofInt 1 by decide]
    refine zw_s (pc' := 137) rfl rfl ?_
    exact hP H _ W hF k94 hp (zw_gt l0 rfl rfl) (zw_gt l1 rfl rfl) (zw_gt l2 rfl rfl) (zw_gt l3 rfl rfl) (zw_gt l4 rfl rfl) zw_g1

set_option maxRecDepth 8000 in
theorem yr_wWu_1 {L : Nat} {σ : Nat → Int32} {d : Nat} {P : zp_X → Prop} {H0 : zp_H} {s kk m : Int32} {S : xSea} {p q : Nat → Nat → Prop} (hS : xOk S) (hR : xSR H0 S) (hs : 0 ≤ s.toInt ∧ s.toInt < 8) (hm : 0 ≤ m.toInt ∧ m.toInt < 8) {st wy : Int32} (hst : H0.2.1 75 (16 * s.toInt.toNat + 2 * m.toInt.toNat + 1) = st) (h19 : 1 ≤ st.toInt ∧ st.toInt ≤ 9) (hwy0 : H0.2.1 75 (16 * s.toInt.toNat + 2 * m.toInt.toNat) = wy) (hwy : (H0.2.1 75 (16 * s.toInt.toNat + 2 * m.toInt.toNat) = Int32.ofInt 1)) (hc : xML q (H0.2.2.1 94)) {H : zp_H} {lv : zp_LV} (W : zw_W H) (hF : xFw H0 H) (k94 : ∀ q, H.2.2.1 94 q = H0.2.2.1 94 q) (hp : xML p (H.2.2.1 95)) (l0 : zp_get lv 0 = some (.inr (.inr (some 73)))) (l1 : zp_get lv 1 = some (.inl s)) (l2 : zp_get lv 2 = some (.inl kk)) (l3 : zp_get lv 3 = some (.inl m)) (l4 : zp_get lv 4 = some (.inl (Int32.ofInt 0))) (l5 : zp_get lv 5 = some (.inl (Int32.ofInt 1))) (hP : ∀ H1 lv1, zw_W H1 → xFw H0 H1 → (∀ q, H1.2.2.1 94 q = H0.2.2.1 94 q) → xML (fun a b => p a b ∨ xItn S (H0.2.1 74 (4 * s.toInt.toNat + 1)).toInt q 1 st.toInt.toNat a b) (H1.2.2.1 95) → zp_get lv1 0 = some (.inr (.inr (some 73))) → zp_get lv1 1 = some (.inl s) → zp_get lv1 2 = some (.inl kk) → zp_get lv1 3 = some (.inl m) → zp_get lv1 4 = some (.inl (Int32.ofInt 0)) → zp_get lv1 5 = some (.inl (Int32.ofInt 2)) → zs_Safe L σ P zm_225 [] (d + 3) (137, lv1, [], H1, (0, 0))) : zs_Safe L σ P zm_225 [] (d + 3) (137, lv, [], H, (0, 0)) := by
  refine zw_ld (n := 2) (k := 5) (f := zp_isI) (pc' := 139) rfl rfl l5 rfl rfl ?_
  refine zw_s (pc' := 140) rfl rfl ?_
  refine zw_bge2 (g := 295) (pc' := 143) rfl rfl rfl (rfl : _ = (1 : Int)) (rfl : _ = (4 : Int)) (fun h9 => absurd h9 (by decide)) (fun h1 => ?_)
  refine zw_ld (n := 2) (k := 4) (f := zp_isI) (pc' := 145) rfl rfl l4 rfl rfl ?_
  refine zw_bne1 (g := 169) (pc' := 148) rfl rfl rfl (rfl : _ = (0 : Int)) (fun h9 => absurd h9 (by decide)) (fun h7 => ?_)
  have i1 : (Int32.ofInt 16 * s).toInt = 16 * s.toInt := zt_mul (by decide) (by omega)
  have i2 : (Int32.ofInt 2 * m).toInt = 2 * m.toInt := zt_mul (by decide) (by omega)
  have i3 : (Int32.ofInt 16 * s + Int32.ofInt 2 * m).toInt = 16 * s.toInt + 2 * m.toInt := by rw [zq_add (by rw [i1, i2]; omega) (by rw [i1, i2]; omega), i1, i2]
  have i4 : (Int32.ofInt 16 * s + Int32.ofInt 2 * m + Int32.ofInt 1).toInt = 16 * s.toInt + 2 * m.toInt + 1 := by rw [zt_add (by decide) (by omega), i3]
  have i5 : (Int32.ofInt 16 * s + Int32.ofInt 2 * m + Int32.ofInt 1).toInt.toNat = 16 * s.toInt.toNat + 2 * m.toInt.toNat + 1 := by omega
  have i6 : (Int32.ofInt 16 * s + Int32.ofInt 2 * m).toInt.toNat = 16 * s.toInt.toNat + 2 * m.toInt.toNat := by omega
  refine zw_ld (n := 2) (k := 5) (f := zp_isI) (pc' := 150) rfl rfl l5 rfl rfl ?_
  refine zw_ld (n := 1) (k := 0) (f := zp_isR) (pc' := 151) rfl rfl l0 rfl rfl ?_
  refine zw_gR (q := 72) (pc' := 154) W rfl rfl rfl rfl (W.2 72 15 _ rfl) rfl ?_
  refine zw_s (pc' := 156) rfl rfl ?_
  refine zw_ld (n := 1) (k := 1) (f := zp_isI) (pc' := 157) rfl rfl l1 rfl rfl ?_
  refine zw_imul (pc' := 158) rfl rfl ?_
  refine zw_s (pc' := 159) rfl rfl ?_
  refine zw_ld (n := 1) (k := 3) (f := zp_isI) (pc' := 160) rfl rfl l3 rfl rfl ?_
  refine zw_imul (pc' := 161) rfl rfl ?_
  refine zw_iadd (pc' := 162) rfl rfl ?_
  refine zw_ia (q := 75) (pc' := 163) W rfl rfl (by decide) (⟨by omega, by show _ < ((128 : Nat) : Int); omega⟩) rfl rfl ?_
  rw [i6, hF.2.2.1 75 _ (fun h9 => absurd h9.1 (by decide))]
  refine zw_beq2 (g := 169) (pc' := 166) rfl rfl rfl (rfl : _ = (1 : Int)) rfl (fun h2 => ?_) (fun h2 => ?_)
  · refine zw_s (pc' := 170) rfl rfl ?_
    refine zw_st (n := 2) (k := 6) (f := zp_isI) (pc' := 172) rfl rfl rfl rfl rfl ?_
    refine yr_wC (H0 := H) (w := Int32.ofInt 1) 73 H _ (Int32.ofInt 0) W (xFw_r H) (fun _ => rfl) (fun _ => rfl) (fun q hq => absurd hq (by rw [show (Int32.ofInt 0).toInt = 0 by decide]; omega)) (by decide) (by rw [show (Int32.ofInt 0).toInt = 0 by decide]; omega) (zw_gt l0 rfl rfl) (zw_gt l1 rfl rfl) (zw_gt l2 rfl rfl) (zw_gt l3 rfl rfl) (zw_gt l4 rfl rfl) (zw_gt l5 rfl rfl) zw_g1 (fun H1 lv1 w1 w2 a94 a95 a96 m0 m1 m2 m3 m4 m5 => ?_)
    refine zw_s (pc' := 200) rfl rfl ?_
    refine zw_st (n := 2) (k := 6) (f := zp_isI) (pc' := 202) rfl rfl rfl rfl rfl ?_
    refine yr_wNu (H0 := H0) (p := p) (q := q) hS hR hs hm hst h19 9 H1 _ (Int32.ofInt 1) 0 w1 (xFw_t hF w2) (fun q => (a94 q).trans (k94 q)) (by rw [if_pos (by omega), show H1.2.2.1 95 = H.2.2.1 95 from funext a95]; exact hp) (fun h9 h8 b hb => by rw [a96 h9 h8, k94]; exact hc h9 h8 b hb) (by decide) rfl (zw_gt m0 rfl rfl) (zw_gt m1 rfl rfl) (zw_gt m2 rfl rfl) (zw_gt m3 rfl rfl) (zw_gt m4 rfl rfl) (zw_gt m5 rfl rfl) zw_g1 (fun H2 lv2 v1 v2 b94 b95 n0 n1 n2 n3 n4 n5 => ?_)
    refine zw_ii (pc' := 292) rfl n5 rfl rfl ?_
    rw [show Int32.ofInt 1 + Int32.ofInt 1 = Int32.ofInt 2 by decide]
    refine zw_s (pc' := 137) rfl rfl ?_
    exact hP H2 _ v1 v2 b94 b95 (zw_gt n0 rfl rfl) (zw_gt n1 rfl rfl) (zw_gt n2 rfl rfl) (zw_gt n3 rfl rfl) (zw_gt n4 rfl rfl) zw_g1
  · exact absurd (congrArg Int32.toInt hwy.symm) h2

set_option maxRecDepth 8000 in
theorem yr_wWn_1 {L : Nat} {σ : Nat → Int32} {d : Nat} {P : zp_X → Prop} {H0 : zp_H} {s kk m : Int32} {S : xSea} {p q : Nat → Nat → Prop} (hS : xOk S) (hR : xSR H0 S) (hs : 0 ≤ s.toInt ∧ s.toInt < 8) (hm : 0 ≤ m.toInt ∧ m.toInt < 8) {st wy : Int32} (hst : H0.2.1 75 (16 * s.toInt.toNat + 2 * m.toInt.toNat + 1) = st) (h19 : 1 ≤ st.toInt ∧ st.toInt ≤ 9) (hwy0 : H0.2.1 75 (16 * s.toInt.toNat + 2 * m.toInt.toNat) = wy) (hwy : ¬ (H0.2.1 75 (16 * s.toInt.toNat + 2 * m.toInt.toNat) = Int32.ofInt 1)) (hc : xML q (H0.2.2.1 94)) {H : zp_H} {lv : zp_LV} (W : zw_W H) (hF : xFw H0 H) (k94 : ∀ q, H.2.2.1 94 q = H0.2.2.1 94 q) (hp : xML p (H.2.2.1 95)) (l0 : zp_get lv 0 = some (.inr (.inr (some 73)))) (l1 : zp_get lv 1 = some (.inl s)) (l2 : zp_get lv 2 = some (.inl kk)) (l3 : zp_get lv 3 = some (.inl m)) (l4 : zp_get lv 4 = some (.inl (Int32.ofInt 0))) (l5 : zp_get lv 5 = some (.inl (Int32.ofInt 1))) (hP : ∀ H1 lv1, zw_W H1 → xFw H0 H1 → (∀ q, H1.2.2.1 94 q = H0.2.2.1 94 q) → xML (p) (H1.2.2.1 95) → zp_get lv1 0 = some (.inr (.inr (some 73))) → zp_get lv1 1 = some (.inl s) → zp_get lv1 2 = some (.inl kk) → zp_get lv1 3 = some (.inl m) → zp_get lv1 4 = some (.inl (Int32.ofInt 0)) → zp_get lv1 5 = some (.inl (Int32.ofInt 2)) → zs_Safe L σ P zm_225 [] (d + 3) (137, lv1, [], H1, (0, 0))) : zs_Safe L σ P zm_225 [] (d + 3) (137, lv, [], H, (0, 0)) := by
  refine zw_ld (n := 2) (k := 5) (f := zp_isI) (pc' := 139) rfl rfl l5 rfl rfl ?_
  refine zw_s (pc' := 140) rfl rfl ?_
  refine zw_bge2 (g := 295) (pc' := 143) rfl rfl rfl (rfl : _ = (1 : Int)) (rfl : _ = (4 : Int)) (fun h9 => absurd h9 (by decide)) (fun h1 => ?_)
  refine zw_ld (n := 2) (k := 4) (f := zp_isI) (pc' := 145) rfl rfl l4 rfl rfl ?_
  refine zw_bne1 (g := 169) (pc' := 148) rfl rfl rfl (rfl : _ = (0 : Int)) (fun h9 => absurd h9 (by decide)) (fun h7 => ?_)
  have i1 : (Int32.ofInt 16 * s).toInt = 16 * s.toInt := zt_mul (by decide) (by omega)
  have i2 : (Int32.ofInt 2 * m).toInt = 2 * m.toInt := zt_mul (by decide) (by omega)
  have i3 : (Int32.ofInt 16 * s + Int32.ofInt 2 * m).toInt = 16 * s.toInt + 2 * m.toInt := by rw [zq_add (by rw [i1, i2]; omega) (by rw [i1, i2]; omega), i1, i2]
  have i4 : (Int32.ofInt 16 * s + Int32.ofInt 2 * m + Int32.ofInt 1).toInt = 16 * s.toInt + 2 * m.toInt + 1 := by rw [zt_add (by decide) (by omega), i3]
  have i5 : (Int32.ofInt 16 * s + Int32.ofInt 2 * m + Int32.ofInt 1).toInt.toNat = 16 * s.toInt.toNat + 2 * m.toInt.toNat + 1 := by omega
  have i6 : (Int32.ofInt 16 * s + Int32.ofInt 2 * m).toInt.toNat = 16 * s.toInt.toNat + 2 * m.toInt.toNat := by omega
  refine zw_ld (n := 2) (k := 5) (f := zp_isI) (pc' := 150) rfl rfl l5 rfl rfl ?_
  refine zw_ld (n := 1) (k := 0) (f := zp_isR) (pc' := 151) rfl rfl l0 rfl rfl ?_
  refine zw_gR (q := 72) (pc' := 154) W rfl rfl rfl rfl (W.2 72 15 _ rfl) rfl ?_
  refine zw_s (pc' := 156) rfl rfl ?_
  refine zw_ld (n := 1) (k := 1) (f := zp_isI) (pc' := 157) rfl rfl l1 rfl rfl ?_
  refine zw_imul (pc' := 158) rfl rfl ?_
  refine zw_s (pc' := 159) rfl rfl ?_
  refine zw_ld (n := 1) (k := 3) (f := zp_isI) (pc' := 160) rfl rfl l3 rfl rfl ?_
  refine zw_imul (pc' := 161) rfl rfl ?_
  refine zw_iadd (pc' := 162) rfl rfl ?_
  refine zw_ia (q := 75) (pc' := 163) W rfl rfl (by decide) (⟨by omega, by show _ < ((128 : Nat) : Int); omega⟩) rfl rfl ?_
  rw [i6, hF.2.2.1 75 _ (fun h9 => absurd h9.1 (by decide))]
  refine zw_beq2 (g := 169) (pc' := 166) rfl rfl rfl (rfl : _ = (1 : Int)) rfl (fun h2 => ?_) (fun h2 => ?_)
  · exact absurd (Int32.toInt_inj.mp h2.symm) hwy
  · refine zw_s (pc' := 289) rfl rfl ?_
    refine zw_ii (pc' := 292) rfl l5 rfl rfl ?_
    rw [show Int32.ofInt 1 + Int32.ofInt 1 = Int32.ofInt 2 by decide]
    refine zw_s (pc' := 137) rfl rfl ?_
    exact hP H _ W hF k94 hp (zw_gt l0 rfl rfl) (zw_gt l1 rfl rfl) (zw_gt l2 rfl rfl) (zw_gt l3 rfl rfl) (zw_gt l4 rfl rfl) zw_g1

set_option maxRecDepth 8000 in
theorem yr_wWu_2 {L : Nat} {σ : Nat → Int32} {d : Nat} {P : zp_X → Prop} {H0 : zp_H} {s kk m : Int32} {S : xSea} {p q : Nat → Nat → Prop} (hS : xOk S) (hR : xSR H0 S) (hs : 0 ≤ s.toInt ∧ s.toInt < 8) (hm : 0 ≤ m.toInt ∧ m.toInt < 8) {st wy : Int32} (hst : H0.2.1 75 (16 * s.toInt.toNat + 2 * m.toInt.toNat + 1) = st) (h19 : 1 ≤ st.toInt ∧ st.toInt ≤ 9) (hwy0 : H0.2.1 75 (16 * s.toInt.toNat + 2 * m.toInt.toNat) = wy) (hwy : (H0.2.1 75 (16 * s.toInt.toNat + 2 * m.toInt.toNat) = Int32.ofInt 2)) (hc : xML q (H0.2.2.1 94)) {H : zp_H} {lv : zp_LV} (W : zw_W H) (hF : xFw H0 H) (k94 : ∀ q, H.2.2.1 94 q = H0.2.2.1 94 q) (hp : xML p (H.2.2.1 95)) (l0 : zp_get lv 0 = some (.inr (.inr (some 73)))) (l1 : zp_get lv 1 = some (.inl s)) (l2 : zp_get lv 2 = some (.inl kk)) (l3 : zp_get lv 3 = some (.inl m)) (l4 : zp_get lv 4 = some (.inl (Int32.ofInt 0))) (l5 : zp_get lv 5 = some (.inl (Int32.ofInt 2))) (hP : ∀ H1 lv1, zw_W H1 → xFw H0 H1 → (∀ q, H1.2.2.1 94 q = H0.2.2.1 94 q) → xML (fun a b => p a b ∨ xItn S (H0.2.1 74 (4 * s.toInt.toNat + 1)).toInt q 2 st.toInt.toNat a b) (H1.2.2.1 95) → zp_get lv1 0 = some (.inr (.inr (some 73))) → zp_get lv1 1 = some (.inl s) → zp_get lv1 2 = some (.inl kk) → zp_get lv1 3 = some (.inl m) → zp_get lv1 4 = some (.inl (Int32.ofInt 0)) → zp_get lv1 5 = some (.inl (Int32.ofInt 3)) → zs_Safe L σ P zm_225 [] (d + 3) (137, lv1, [], H1, (0, 0))) : zs_Safe L σ P zm_225 [] (d + 3) (137, lv, [], H, (0, 0)) := by
  refine zw_ld (n := 2) (k := 5) (f := zp_isI) (pc' := 139) rfl rfl l5 rfl rfl ?_
  refine zw_s (pc' := 140) rfl rfl ?_
  refine zw_bge2 (g := 295) (pc' := 143) rfl rfl rfl (rfl : _ = (2 : Int)) (rfl : _ = (4 : Int)) (fun h9 => absurd h9 (by decide)) (fun h1 => ?_)
  refine zw_ld (n := 2) (k := 4) (f := zp_isI) (pc' := 145) rfl rfl l4 rfl rfl ?_
  refine zw_bne1 (g := 169) (pc' := 148) rfl rfl rfl (rfl : _ = (0 : Int)) (fun h9 => absurd h9 (by decide)) (fun h7 => ?_)
  have i1 : (Int32.ofInt 16 * s).toInt = 16 * s.toInt := zt_mul (by decide) (by omega)
  have i2 : (Int32.ofInt 2 * m).toInt = 2 * m.toInt := zt_mul (by decide) (by omega)
  have i3 : (Int32.ofInt 16 * s + Int32.ofInt 2 * m).toInt = 16 * s.toInt + 2 * m.toInt := by rw [zq_add (by rw [i1, i2]; omega) (by rw [i1, i2]; omega), i1, i2]
  have i4 : (Int32.ofInt 16 * s + Int32.ofInt 2 * m + Int32.ofInt 1).toInt = 16 * s.toInt + 2 * m.toInt + 1 := by rw [zt_add (by decide) (by omega), i3]
  have i5 : (Int32.ofInt 16 * s + Int32.ofInt 2 * m + Int32.ofInt 1).toInt.toNat = 16 * s.toInt.toNat + 2 * m.toInt.toNat + 1 := by omega
  have i6 : (Int32.ofInt 16 * s + Int32.ofInt 2 * m).toInt.toNat = 16 * s.toInt.toNat + 2 * m.toInt.toNat := by omega
  refine zw_ld (n := 2) (k := 5) (f := zp_isI) (pc' := 150) rfl rfl l5 rfl rfl ?_
  refine zw_ld (n := 1) (k := 0) (f := zp_isR) (pc' := 151) rfl rfl l0 rfl rfl ?_
  refine zw_gR (q := 72) (pc' := 154) W rfl rfl rfl rfl (W.2 72 15 _ rfl) rfl ?_
  refine zw_s (pc' := 156) rfl rfl ?_
  refine zw_ld (n := 1) (k := 1) (f := zp_isI) (pc' := 157) rfl rfl l1 rfl rfl ?_
  refine zw_imul (pc' := 158) rfl rfl ?_
  refine zw_s (pc' := 159) rfl rfl ?_
  refine zw_ld (n := 1) (k := 3) (f := zp_isI) (pc' := 160) rfl rfl l3 rfl rfl ?_
  refine zw_imul (pc' := 161) rfl rfl ?_
  refine zw_iadd (pc' := 162) rfl rfl ?_
  refine zw_ia (q := 75) (pc' := 163) W rfl rfl (by decide) (⟨by omega, by show _ < ((128 : Nat) : Int); omega⟩) rfl rfl ?_
  rw [i6, hF.2.2.1 75 _ (fun h9 => absurd h9.1 (by decide))]
  refine zw_beq2 (g := 169) (pc' := 166) rfl rfl rfl (rfl : _ = (2 : Int)) rfl (fun h2 => ?_) (fun h2 => ?_)
  · refine zw_s (pc' := 170) rfl rfl ?_
    refine zw_st (n := 2) (k := 6) (f := zp_isI) (pc' := 172) rfl rfl rfl rfl rfl ?_
    refine yr_wC (H0 := H) (w := Int32.ofInt 2) 73 H _ (Int32.ofInt 0) W (xFw_r H) (fun _ => rfl) (fun _ => rfl) (fun q hq => absurd hq (by rw [show (Int32.ofInt 0).toInt = 0 by decide]; omega)) (by decide) (by rw [show (Int32.ofInt 0).toInt = 0 by decide]; omega) (zw_gt l0 rfl rfl) (zw_gt l1 rfl rfl) (zw_gt l2 rfl rfl) (zw_gt l3 rfl rfl) (zw_gt l4 rfl rfl) (zw_gt l5 rfl rfl) zw_g1 (fun H1 lv1 w1 w2 a94 a95 a96 m0 m1 m2 m3 m4 m5 => ?_)
    refine zw_s (pc' := 200) rfl rfl ?_
    refine zw_st (n := 2) (k := 6) (f := zp_isI) (pc' := 202) rfl rfl rfl rfl rfl ?_
    refine yr_wNu (H0 := H0) (p := p) (q := q) hS hR hs hm hst h19 9 H1 _ (Int32.ofInt 1) 0 w1 (xFw_t hF w2) (fun q => (a94 q).trans (k94 q)) (by rw [if_pos (by omega), show H1.2.2.1 95 = H.2.2.1 95 from funext a95]; exact hp) (fun h9 h8 b hb => by rw [a96 h9 h8, k94]; exact hc h9 h8 b hb) (by decide) rfl (zw_gt m0 rfl rfl) (zw_gt m1 rfl rfl) (zw_gt m2 rfl rfl) (zw_gt m3 rfl rfl) (zw_gt m4 rfl rfl) (zw_gt m5 rfl rfl) zw_g1 (fun H2 lv2 v1 v2 b94 b95 n0 n1 n2 n3 n4 n5 => ?_)
    refine zw_ii (pc' := 292) rfl n5 rfl rfl ?_
    rw [show Int32.ofInt 2 + Int32.ofInt 1 = Int32.ofInt 3 by decide]
    refine zw_s (pc' := 137) rfl rfl ?_
    exact hP H2 _ v1 v2 b94 b95 (zw_gt n0 rfl rfl) (zw_gt n1 rfl rfl) (zw_gt n2 rfl rfl) (zw_gt n3 rfl rfl) (zw_gt n4 rfl rfl) zw_g1
  · exact absurd (congrArg Int32.toInt hwy.symm) h2

set_option maxRecDepth 8000 in
theorem yr_wWn_2 {L : Nat} {σ : Nat → Int32} {d : Nat} {P : zp_X → Prop} {H0 : zp_H} {s kk m : Int32} {S : xSea} {p q : Nat → Nat → Prop} (hS : xOk S) (hR : xSR H0 S) (hs : 0 ≤ s.toInt ∧ s.toInt < 8) (hm : 0 ≤ m.toInt ∧ m.toInt < 8) {st wy : Int32} (hst : H0.2.1 75 (16 * s.toInt.toNat + 2 * m.toInt.toNat + 1) = st) (h19 : 1 ≤ st.toInt ∧ st.toInt ≤ 9) (hwy0 : H0.2.1 75 (16 * s.toInt.toNat + 2 * m.toInt.toNat) = wy) (hwy : ¬ (H0.2.1 75 (16 * s.toInt.toNat + 2 * m.toInt.toNat) = Int32.ofInt 2)) (hc : xML q (H0.2.2.1 94)) {H : zp_H} {lv : zp_LV} (W : zw_W H) (hF : xFw H0 H) (k94 : ∀ q, H.2.2.1 94 q = H0.2.2.1 94 q) (hp : xML p (H.2.2.1 95)) (l0 : zp_get lv 0 = some (.inr (.inr (some 73)))) (l1 : zp_get lv 1 = some (.inl s)) (l2 : zp_get lv 2 = some (.inl kk)) (l3 : zp_get lv 3 = some (.inl m)) (l4 : zp_get lv 4 = some (.inl (Int32.ofInt 0))) (l5 : zp_get lv 5 = some (.inl (Int32.ofInt 2))) (hP : ∀ H1 lv1, zw_W H1 → xFw H0 H1 → (∀ q, H1.2.2.1 94 q = H0.2.2.1 94 q) → xML (p) (H1.2.2.1 95) → zp_get lv1 0 = some (.inr (.inr (some 73))) → zp_get lv1 1 = some (.inl s) → zp_get lv1 2 = some (.inl kk) → zp_get lv1 3 = some (.inl m) → zp_get lv1 4 = some (.inl (Int32.ofInt 0)) → zp_get lv1 5 = some (.inl (Int32.ofInt 3)) → zs_Safe L σ P zm_225 [] (d + 3) (137, lv1, [], H1, (0, 0))) : zs_Safe L σ P zm_225 [] (d + 3) (137, lv, [], H, (0, 0)) := by
  refine zw_ld (n := 2) (k := 5) (f := zp_isI) (pc' := 139) rfl rfl l5 rfl rfl ?_
  refine zw_s (pc' := 140) rfl rfl ?_
  refine zw_bge2 (g := 295) (pc' := 143) rfl rfl rfl (rfl : _ = (2 : Int)) (rfl : _ = (4 : Int)) (fun h9 => absurd h9 (by decide)) (fun h1 => ?_)
  refine zw_ld (n := 2) (k := 4) (f := zp_isI) (pc' := 145) rfl rfl l4 rfl rfl ?_
  refine zw_bne1 (g := 169) (pc' := 148) rfl rfl rfl (rfl : _ = (0 : Int)) (fun h9 => absurd h9 (by decide)) (fun h7 => ?_)
  have i1 : (Int32.ofInt 16 * s).toInt = 16 * s.toInt := zt_mul (by decide) (by omega)
  have i2 : (Int32.ofInt 2 * m).toInt = 2 * m.toInt := zt_mul (by decide) (by omega)
  have i3 : (Int32.ofInt 16 * s + Int32.ofInt 2 * m).toInt = 16 * s.toInt + 2 * m.toInt := by rw [zq_add (by rw [i1, i2]; omega) (by rw [i1, i2]; omega), i1, i2]
  have i4 : (Int32.ofInt 16 * s + Int32.ofInt 2 * m + Int32.ofInt 1).toInt = 16 * s.toInt + 2 * m.toInt + 1 := by rw [zt_add (by decide) (by omega), i3]
  have i5 : (Int32.ofInt 16 * s + Int32.ofInt 2 * m + Int32.ofInt 1).toInt.toNat = 16 * s.toInt.toNat + 2 * m.toInt.toNat + 1 := by omega
  have i6 : (Int32.ofInt 16 * s + Int32.ofInt 2 * m).toInt.toNat = 16 * s.toInt.toNat + 2 * m.toInt.toNat := by omega
  refine zw_ld (n := 2) (k := 5) (f := zp_isI) (pc' := 150) rfl rfl l5 rfl rfl ?_
  refine zw_ld (n := 1) (k := 0) (f := zp_isR) (pc' := 151) rfl rfl l0 rfl rfl ?_
  refine zw_gR (q := 72) (pc' := 154) W rfl rfl rfl rfl (W.2 72 15 _ rfl) rfl ?_
  refine zw_s (pc' := 156) rfl rfl ?_
  refine zw_ld (n := 1) (k := 1) (f := zp_isI) (pc' := 157) rfl rfl l1 rfl rfl ?_
  refine zw_imul (pc' := 158) rfl rfl ?_
  refine zw_s (pc' := 159) rfl rfl ?_
  refine zw_ld (n := 1) (k := 3) (f := zp_isI) (pc' := 160) rfl rfl l3 rfl rfl ?_
  refine zw_imul (pc' := 161) rfl rfl ?_
  refine zw_iadd (pc' := 162) rfl rfl ?_
  refine zw_ia (q := 75) (pc' := 163) W rfl rfl (by decide) (⟨by omega, by show _ < ((128 : Nat) : Int); omega⟩) rfl rfl ?_
  rw [i6, hF.2.2.1 75 _ (fun h9 => absurd h9.1 (by decide))]
  refine zw_beq2 (g := 169) (pc' := 166) rfl rfl rfl (rfl : _ = (2 : Int)) rfl (fun h2 => ?_) (fun h2 => ?_)
  · exact absurd (Int32.toInt_inj.mp h2.symm) hwy
  · refine zw_s (pc' := 289) rfl rfl ?_
    refine zw_ii (pc' := 292) rfl l5 rfl rfl ?_
    rw [show Int32.ofInt 2 + Int32.ofInt 1 = Int32.ofInt 3 by decide]
    refine zw_s (pc' := 137) rfl rfl ?_
    exact hP H _ W hF k94 hp (zw_gt l0 rfl rfl) (zw_gt l1 rfl rfl) (zw_gt l2 rfl rfl) (zw_gt l3 rfl rfl) (zw_gt l4 rfl rfl) zw_g1

set_option maxRecDepth 8000 in
theorem yr_wWu_3 {L : Nat} {σ : Nat → Int32} {d : Nat} {P : zp_X → Prop} {H0 : zp_H} {s kk m : Int32} {S : xSea} {p q : Nat → Nat → Prop} (hS : xOk S) (hR : xSR H0 S) (hs : 0 ≤ s.toInt ∧ s.toInt < 8) (hm : 0 ≤ m.toInt ∧ m.toInt < 8) {st wy : Int32} (hst : H0.2.1 75 (16 * s.toInt.toNat + 2 * m.toInt.toNat + 1) = st) (h19 : 1 ≤ st.toInt ∧ st.toInt ≤ 9) (hwy0 : H0.2.1 75 (16 * s.toInt.toNat + 2 * m.toInt.toNat) = wy) (hwy : (H0.2.1 75 (16 * s.toInt.toNat + 2 * m.toInt.toNat) = Int32.ofInt 3)) (hc : xML q (H0.2.2.1 94)) {H : zp_H} {lv : zp_LV} (W : zw_W H) (hF : xFw H0 H) (k94 : ∀ q, H.2.2.1 94 q = H0.2.2.1 94 q) (hp : xML p (H.2.2.1 95)) (l0 : zp_get lv 0 = some (.inr (.inr (some 73)))) (l1 : zp_get lv 1 = some (.inl s)) (l2 : zp_get lv 2 = some (.inl kk)) (l3 : zp_get lv 3 = some (.inl m)) (l4 : zp_get lv 4 = some (.inl (Int32.ofInt 0))) (l5 : zp_get lv 5 = some (.inl (Int32.ofInt 3))) (hP : ∀ H1 lv1, zw_W H1 → xFw H0 H1 → (∀ q, H1.2.2.1 94 q = H0.2.2.1 94 q) → xML (fun a b => p a b ∨ xItn S (H0.2.1 74 (4 * s.toInt.toNat + 1)).toInt q 3 st.toInt.toNat a b) (H1.2.2.1 95) → zp_get lv1 0 = some (.inr (.inr (some 73))) → zp_get lv1 1 = some (.inl s) → zp_get lv1 2 = some (.inl kk) → zp_get lv1 3 = some (.inl m) → zp_get lv1 4 = some (.inl (Int32.ofInt 0)) → zp_get lv1 5 = some (.inl (Int32.ofInt 4)) → zs_Safe L σ P zm_225 [] (d + 3) (137, lv1, [], H1, (0, 0))) : zs_Safe L σ P zm_225 [] (d + 3) (137, lv, [], H, (0, 0)) := by
  refine zw_ld (n := 2) (k := 5) (f := zp_isI) (pc' := 139) rfl rfl l5 rfl rfl ?_
  refine zw_s (pc' := 140) rfl rfl ?_
  refine zw_bge2 (g := 295) (pc' := 143) rfl rfl rfl (rfl : _ = (3 : Int)) (rfl : _ = (4 : Int)) (fun h9 => absurd h9 (by decide)) (fun h1 => ?_)
  refine zw_ld (n := 2) (k := 4) (f := zp_isI) (pc' := 145) rfl rfl l4 rfl rfl ?_
  refine zw_bne1 (g := 169) (pc' := 148) rfl rfl rfl (rfl : _ = (0 : Int)) (fun h9 => absurd h9 (by decide)) (fun h7 => ?_)
  have i1 : (Int32.ofInt 16 * s).toInt = 16 * s.toInt := zt_mul (by decide) (by omega)
  have i2 : (Int32.ofInt 2 * m).toInt = 2 * m.toInt := zt_mul (by decide) (by omega)
  have i3 : (Int32.ofInt 16 * s + Int32.ofInt 2 * m).toInt = 16 * s.toInt + 2 * m.toInt := by rw [zq_add (by rw [i1, i2]; omega) (by rw [i1, i2]; omega), i1, i2]
  have i4 : (Int32.ofInt 16 * s + Int32.ofInt 2 * m + Int32.ofInt 1).toInt = 16 * s.toInt + 2 * m.toInt + 1 := by rw [zt_add (by decide) (by omega), i3]
  have i5 : (Int32.ofInt 16 * s + Int32.ofInt 2 * m + Int32.ofInt 1).toInt.toNat = 16 * s.toInt.toNat + 2 * m.toInt.toNat + 1 := by omega
  have i6 : (Int32.ofInt 16 * s + Int32.ofInt 2 * m).toInt.toNat = 16 * s.toInt.toNat + 2 * m.toInt.toNat := by omega
  refine zw_ld (n := 2) (k := 5) (f := zp_isI) (pc' := 150) rfl rfl l5 rfl rfl ?_
  refine zw_ld (n := 1) (k := 0) (f := zp_isR) (pc' := 151) rfl rfl l0 rfl rfl ?_
  refine zw_gR (q := 72) (pc' := 154) W rfl rfl rfl rfl (W.2 72 15 _ rfl) rfl ?_
  refine zw_s (pc' := 156) rfl rfl ?_
  refine zw_ld (n := 1) (k := 1) (f := zp_isI) (pc' := 157) rfl rfl l1 rfl rfl ?_
  refine zw_imul (pc' := 158) rfl rfl ?_
  refine zw_s (pc' := 159) rfl rfl ?_
  refine zw_ld (n := 1) (k := 3) (f := zp_isI) (pc' := 160) rfl rfl l3 rfl rfl ?_
  refine zw_imul (pc' := 161) rfl rfl ?_
  refine zw_iadd (pc' := 162) rfl rfl ?_
  refine zw_ia (q := 75) (pc' := 163) W rfl rfl (by decide) (⟨by omega, by show _ < ((128 : Nat) : Int); omega⟩) rfl rfl ?_
  rw [i6, hF.2.2.1 75 _ (fun h9 => absurd h9.1 (by decide))]
  refine zw_beq2 (g := 169) (pc' := 166) rfl rfl rfl (rfl : _ = (3 : Int)) rfl (fun h2 => ?_) (fun h2 => ?_)
  · refine zw_s (pc' := 170) rfl rfl ?_
    refine zw_st (n := 2) (k := 6) (f := zp_isI) (pc' := 172) rfl rfl rfl rfl rfl ?_
    refine yr_wC (H0 := H) (w := Int32.ofInt 3) 73 H _ (Int32.ofInt 0) W (xFw_r H) (fun _ => rfl) (fun _ => rfl) (fun q hq => absurd hq (by rw [show (Int32.ofInt 0).toInt = 0 by decide]; omega)) (by decide) (by rw [show (Int32.ofInt 0).toInt = 0 by decide]; omega) (zw_gt l0 rfl rfl) (zw_gt l1 rfl rfl) (zw_gt l2 rfl rfl) (zw_gt l3 rfl rfl) (zw_gt l4 rfl rfl) (zw_gt l5 rfl rfl) zw_g1 (fun H1 lv1 w1 w2 a94 a95 a96 m0 m1 m2 m3 m4 m5 => ?_)
    refine zw_s (pc' := 200) rfl rfl ?_
    refine zw_st (n := 2) (k := 6) (f := zp_isI) (pc' := 202) rfl rfl rfl rfl rfl ?_
    refine yr_wNu (H0 := H0) (p := p) (q := q) hS hR hs hm hst h19 9 H1 _ (Int32.ofInt 1) 0 w1 (xFw_t hF w2) (fun q => (a94 q).trans (k94 q)) (by rw [if_pos (by omega), show H1.2.2.1 95 = H.2.2.1 95 from funext a95]; exact hp) (fun h9 h8 b hb => by rw [a96 h9 h8, k94]; exact hc h9 h8 b hb) (by decide) rfl (zw_gt m0 rfl rfl) (zw_gt m1 rfl rfl) (zw_gt m2 rfl rfl) (zw_gt m3 rfl rfl) (zw_gt m4 rfl rfl) (zw_gt m5 rfl rfl) zw_g1 (fun H2 lv2 v1 v2 b94 b95 n0 n1 n2 n3 n4 n5 => ?_)
    refine zw_ii (pc' := 292) rfl n5 rfl rfl ?_
    rw [show Int32.ofInt 3 + Int32.ofInt 1 = Int32.ofInt 4 by decide]
    refine zw_s (pc' := 137) rfl rfl ?_
    exact hP H2 _ v1 v2 b94 b95 (zw_gt n0 rfl rfl) (zw_gt n1 rfl rfl) (zw_gt n2 rfl rfl) (zw_gt n3 rfl rfl) (zw_gt n4 rfl rfl) zw_g1
  · exact absurd (congrArg Int32.toInt hwy.symm) h2

set_option maxRecDepth 8000 in
theorem yr_wWn_3 {L : Nat} {σ : Nat → Int32} {d : Nat} {P : zp_X → Prop} {H0 : zp_H} {s kk m : Int32} {S : xSea} {p q : Nat → Nat → Prop} (hS : xOk S) (hR : xSR H0 S) (hs : 0 ≤ s.toInt ∧ s.toInt < 8) (hm : 0 ≤ m.toInt ∧ m.toInt < 8) {st wy : Int32} (hst : H0.2.1 75 (16 * s.toInt.toNat + 2 * m.toInt.toNat + 1) = st) (h19 : 1 ≤ st.toInt ∧ st.toInt ≤ 9) (hwy0 : H0.2.1 75 (16 * s.toInt.toNat + 2 * m.toInt.toNat) = wy) (hwy : ¬ (H0.2.1 75 (16 * s.toInt.toNat + 2 * m.toInt.toNat) = Int32.ofInt 3)) (hc : xML q (H0.2.2.1 94)) {H : zp_H} {lv : zp_LV} (W : zw_W H) (hF : xFw H0 H) (k94 : ∀ q, H.2.2.1 94 q = H0.2.2.1 94 q) (hp : xML p (H.2.2.1 95)) (l0 : zp_get lv 0 = some (.inr (.inr (some 73)))) (l1 : zp_get lv 1 = some (.inl s)) (l2 : zp_get lv 2 = some (.inl kk)) (l3 : zp_get lv 3 = some (.inl m)) (l4 : zp_get lv 4 = some (.inl (Int32.ofInt 0))) (l5 : zp_get lv 5 = some (.inl (Int32.ofInt 3))) (hP : ∀ H1 lv1, zw_W H1 → xFw H0 H1 → (∀ q, H1.2.2.1 94 q = H0.2.2.1 94 q) → xML (p) (H1.2.2.1 95) → zp_get lv1 0 = some (.inr (.inr (some 73))) → zp_get lv1 1 = some (.inl s) → zp_get lv1 2 = some (.inl kk) → zp_get lv1 3 = some (.inl m) → zp_get lv1 4 = some (.inl (Int32.ofInt 0)) → zp_get lv1 5 = some (.inl (Int32.ofInt 4)) → zs_Safe L σ P zm_225 [] (d + 3) (137, lv1, [], H1, (0, 0))) : zs_Safe L σ P zm_225 [] (d + 3) (137, lv, [], H, (0, 0)) := by
  refine zw_ld (n := 2) (k := 5) (f := zp_isI) (pc' := 139) rfl rfl l5 rfl rfl ?_
  refine zw_s (pc' := 140) rfl rfl ?_
  refine zw_bge2 (g := 295) (pc' := 143) rfl rfl rfl (rfl : _ = (3 : Int)) (rfl : _ = (4 : Int)) (fun h9 => absurd h9 (by decide)) (fun h1 => ?_)
  refine zw_ld (n := 2) (k := 4) (f := zp_isI) (pc' := 145) rfl rfl l4 rfl rfl ?_
  refine zw_bne1 (g := 169) (pc' := 148) rfl rfl rfl (rfl : _ = (0 : Int)) (fun h9 => absurd h9 (by decide)) (fun h7 => ?_)
  have i1 : (Int32.ofInt 16 * s).toInt = 16 * s.toInt := zt_mul (by decide) (by omega)
  have i2 : (Int32.ofInt 2 * m).toInt = 2 * m.toInt := zt_mul (by decide) (by omega)
  have i3 : (Int32.ofInt 16 * s + Int32.ofInt 2 * m).toInt = 16 * s.toInt + 2 * m.toInt := by rw [zq_add (by rw [i1, i2]; omega) (by rw [i1, i2]; omega), i1, i2]
  have i4 : (Int32.ofInt 16 * s + Int32.ofInt 2 * m + Int32.ofInt 1).toInt = 16 * s.toInt + 2 * m.toInt + 1 := by rw [zt_add (by decide) (by omega), i3]
  have i5 : (Int32.ofInt 16 * s + Int32.ofInt 2 * m + Int32.ofInt 1).toInt.toNat = 16 * s.toInt.toNat + 2 * m.toInt.toNat + 1 := by omega
  have i6 : (Int32.ofInt 16 * s + Int32.ofInt 2 * m).toInt.toNat = 16 * s.toInt.toNat + 2 * m.toInt.toNat := by omega
  refine zw_ld (n := 2) (k := 5) (f := zp_isI) (pc' := 150) rfl rfl l5 rfl rfl ?_
  refine zw_ld (n := 1) (k := 0) (f := zp_isR) (pc' := 151) rfl rfl l0 rfl rfl ?_
  refine zw_gR (q := 72) (pc' := 154) W rfl rfl rfl rfl (W.2 72 15 _ rfl) rfl ?_
  refine zw_s (pc' := 156) rfl rfl ?_
  refine zw_ld (n := 1) (k := 1) (f := zp_isI) (pc' := 157) rfl rfl l1 rfl rfl ?_
  refine zw_imul (pc' := 158) rfl rfl ?_
  refine zw_s (pc' := 159) rfl rfl ?_
  refine zw_ld (n := 1) (k := 3) (f := zp_isI) (pc' := 160) rfl rfl l3 rfl rfl ?_
  refine zw_imul (pc' := 161) rfl rfl ?_
  refine zw_iadd (pc' := 162) rfl rfl ?_
  refine zw_ia (q := 75) (pc' := 163) W rfl rfl (by decide) (⟨by omega, by show _ < ((128 : Nat) : Int); omega⟩) rfl rfl ?_
  rw [i6, hF.2.2.1 75 _ (fun h9 => absurd h9.1 (by decide))]
  refine zw_beq2 (g := 169) (pc' := 166) rfl rfl rfl (rfl : _ = (3 : Int)) rfl (fun h2 => ?_) (fun h2 => ?_)
  · exact absurd (Int32.toInt_inj.mp h2.symm) hwy
  · refine zw_s (pc' := 289) rfl rfl ?_
    refine zw_ii (pc' := 292) rfl l5 rfl rfl ?_
    rw [show Int32.ofInt 3 + Int32.ofInt 1 = Int32.ofInt 4 by decide]
    refine zw_s (pc' := 137) rfl rfl ?_
    exact hP H _ W hF k94 hp (zw_gt l0 rfl rfl) (zw_gt l1 rfl rfl) (zw_gt l2 rfl rfl) (zw_gt l3 rfl rfl) (zw_gt l4 rfl rfl) zw_g1

set_option maxRecDepth 8000 in
theorem x_01 {x : Int32} : (x &&& Int32.ofInt 1).toInt = 0 ∨ (x &&& Int32.ofInt 1).toInt = 1 := by
  have e : (x &&& Int32.ofInt 1).toBitVec.toNat = x.toBitVec.toNat % 2 := by
    rw [Int32.toBitVec_and, BitVec.toNat_and]
    exact Nat.and_two_pow_sub_one_eq_mod _ 1
  have e1 : (x &&& Int32.ofInt 1).toInt = ((x.toBitVec.toNat % 2 : Nat) : Int) := by
    rw [← Int32.toInt_toBitVec, BitVec.toInt_eq_toNat_of_lt (by rw [e]; omega), e]
  omega

set_option maxRecDepth 8000 in
theorem yr_wM {L : Nat} {σ : Nat → Int32} {d : Nat} {P : zp_X → Prop} {H0 : zp_H} {s kk : Int32} {S : xSea} (hS : xOk S) (hR : xSR H0 S) (hs : 0 ≤ s.toInt ∧ s.toInt < 8) (hk : 0 ≤ kk.toInt ∧ kk.toInt ≤ 8) (hw : ∀ j, j < kk.toInt.toNat → 0 ≤ (H0.2.1 75 (16 * s.toInt.toNat + 2 * j)).toInt ∧ (H0.2.1 75 (16 * s.toInt.toNat + 2 * j)).toInt ≤ 3) (h19 : ∀ j, j < kk.toInt.toNat → 1 ≤ (H0.2.1 75 (16 * s.toInt.toNat + 2 * j + 1)).toInt ∧ (H0.2.1 75 (16 * s.toInt.toNat + 2 * j + 1)).toInt ≤ 9) : ∀ (z : Nat) (H : zp_H) (lv : zp_LV) (m : Int32) (j : Nat), zw_W H → xFw H0 H → xML (xMay S (H0.2.1 74 (4 * s.toInt.toNat + 1)).toInt (H0.2.1 74 (4 * s.toInt.toNat)).toInt.toNat (fun m => xRb (H0.2.1 74 (4 * s.toInt.toNat + 3)) (Int32.ofInt (m : Int))) (fun m => H0.2.1 75 (16 * s.toInt.toNat + 2 * m)) (fun m => H0.2.1 75 (16 * s.toInt.toNat + 2 * m + 1)) j) (H.2.2.1 94) → m.toInt = j → j + z = kk.toInt.toNat → zp_get lv 0 = some (.inr (.inr (some 73))) → zp_get lv 1 = some (.inl s) → zp_get lv 2 = some (.inl kk) → zp_get lv 3 = some (.inl m) → (∀ H1 lv1, zw_W H1 → xFw H0 H1 → xML (xMay S (H0.2.1 74 (4 * s.toInt.toNat + 1)).toInt (H0.2.1 74 (4 * s.toInt.toNat)).toInt.toNat (fun m => xRb (H0.2.1 74 (4 * s.toInt.toNat + 3)) (Int32.ofInt (m : Int))) (fun m => H0.2.1 75 (16 * s.toInt.toNat + 2 * m)) (fun m => H0.2.1 75 (16 * s.toInt.toNat + 2 * m + 1)) kk.toInt.toNat) (H1.2.2.1 94) → zp_get lv1 0 = some (.inr (.inr (some 73))) → zp_get lv1 1 = some (.inl s) → zp_get lv1 2 = some (.inl kk) → zs_Safe L σ P zm_225 [] (d + 3) (331, lv1, [], H1, (0, 0))) → zs_Safe L σ P zm_225 [] (d + 3) (80, lv, [], H, (0, 0)) := by
  intro z
  induction z with
  | zero =>
    intro H lv m j W hF hc h5 hn l0 l1 l2 l3 hP
    refine zw_ld (n := 1) (k := 3) (f := zp_isI) (pc' := 81) rfl rfl l3 rfl rfl ?_
    refine zw_ld (n := 1) (k := 2) (f := zp_isI) (pc' := 82) rfl rfl l2 rfl rfl ?_
    refine zw_bge2 (g := 331) (pc' := 85) rfl rfl rfl rfl rfl (fun h1 => ?_) (fun h1 => ?_)
    · have e : j = kk.toInt.toNat := by omega
      rw [e] at hc
      exact hP H lv W hF hc l0 l1 l2
    · omega
  | succ z ih =>
    intro H lv m j W hF hc h5 hn l0 l1 l2 l3 hP
    refine zw_ld (n := 1) (k := 3) (f := zp_isI) (pc' := 81) rfl rfl l3 rfl rfl ?_
    refine zw_ld (n := 1) (k := 2) (f := zp_isI) (pc' := 82) rfl rfl l2 rfl rfl ?_
    refine zw_bge2 (g := 331) (pc' := 85) rfl rfl rfl rfl rfl (fun h1 => ?_) (fun h1 => ?_)
    · omega
    · have em : (m + Int32.ofInt 1).toInt = m.toInt + 1 := zw_p1 (by omega)
      have eo : Int32.ofInt (j : Int) = m := (congrArg Int32.ofInt h5.symm).trans (x_oi m)
      have ej : m.toInt.toNat = j := by omega
      have j1 : (Int32.ofInt 4 * s).toInt = 4 * s.toInt := zt_mul (by decide) (by omega)
      have j2 : (Int32.ofInt 4 * s + Int32.ofInt 3).toInt = 4 * s.toInt + 3 := by rw [zt_add (by decide) (by omega), j1]
      have j4 : (Int32.ofInt 4 * s + Int32.ofInt 3).toInt.toNat = 4 * s.toInt.toNat + 3 := by omega
      have hbw := hw j (by omega)
      have h19 := h19 j (by omega)
      refine zw_ld (n := 1) (k := 0) (f := zp_isR) (pc' := 86) rfl rfl l0 rfl rfl ?_
      refine zw_gR (q := 72) (pc' := 89) W rfl rfl rfl rfl (W.2 72 14 _ rfl) rfl ?_
      refine zw_s (pc' := 90) rfl rfl ?_
      refine zw_ld (n := 1) (k := 1) (f := zp_isI) (pc' := 91) rfl rfl l1 rfl rfl ?_
      refine zw_imul (pc' := 92) rfl rfl ?_
      refine zw_s (pc' := 93) rfl rfl ?_
      refine zw_iadd (pc' := 94) rfl rfl ?_
      refine zw_ia (q := 74) (pc' := 95) W rfl rfl (by decide) (⟨by omega, by show _ < ((32 : Nat) : Int); omega⟩) rfl rfl ?_
      refine zw_ld (n := 1) (k := 3) (f := zp_isI) (pc' := 96) rfl rfl l3 rfl rfl ?_
      refine zw_ishr (pc' := 97) rfl rfl ?_
      refine zw_s (pc' := 98) rfl rfl ?_
      refine zw_iand (pc' := 99) rfl rfl ?_
      refine zw_s (pc' := 100) rfl rfl ?_
      rw [j4, hF.2.2.1 74 _ (fun h9 => absurd h9.1 (by decide))]
      refine zw_bne2 (g := 107) (pc' := 103) rfl rfl rfl rfl (rfl : _ = (1 : Int)) (fun h2 => ?_) (fun h2 => ?_)
      · have h2 : ¬ (((H0.2.1 74 (4 * s.toInt.toNat + 3)) >>> (m &&& 31)) &&& Int32.ofInt 1).toInt = 1 := h2
        have h01 := x_01 (x := (H0.2.1 74 (4 * s.toInt.toNat + 3)) >>> (m &&& 31))
        have hb : ¬ xRb (H0.2.1 74 (4 * s.toInt.toNat + 3)) m = true := fun h9 => of_decide_eq_true h9 (by omega)
        refine zw_s (pc' := 108) rfl rfl ?_
        refine zw_st (n := 2) (k := 4) (f := zp_isI) (pc' := 110) rfl rfl rfl rfl rfl ?_
        refine zw_s (pc' := 111) rfl rfl ?_
        refine zw_st (n := 2) (k := 5) (f := zp_isI) (pc' := 113) rfl rfl rfl rfl rfl ?_
        refine yr_wB (H0 := H) (rb := Int32.ofInt 0) 73 H _ (Int32.ofInt 0) W (xFw_r H) (fun _ => rfl) (fun q hq => absurd hq (by rw [show (Int32.ofInt 0).toInt = 0 by decide]; omega)) (by decide) (by rw [show (Int32.ofInt 0).toInt = 0 by decide]; omega) (zw_gt (zw_gt l0 rfl rfl) rfl rfl) (zw_gt (zw_gt l1 rfl rfl) rfl rfl) (zw_gt (zw_gt l2 rfl rfl) rfl rfl) (zw_gt (zw_gt l3 rfl rfl) rfl rfl) (zw_gt zw_g1 rfl rfl) zw_g1 (fun H1 lv1 w1 w2 a94 a95 m0 m1 m2 m3 m4 => ?_)
        refine zw_s (pc' := 135) rfl rfl ?_
        refine zw_st (n := 2) (k := 5) (f := zp_isI) (pc' := 137) rfl rfl rfl rfl rfl ?_
        have f1 : xFw H0 H1 := xFw_t hF w2
        have hRH := xSR_w f1 hR
        have c94 : xML (xMay S (H0.2.1 74 (4 * s.toInt.toNat + 1)).toInt (H0.2.1 74 (4 * s.toInt.toNat)).toInt.toNat (fun m => xRb (H0.2.1 74 (4 * s.toInt.toNat + 3)) (Int32.ofInt (m : Int))) (fun m => H0.2.1 75 (16 * s.toInt.toNat + 2 * m)) (fun m => H0.2.1 75 (16 * s.toInt.toNat + 2 * m + 1)) j) (H1.2.2.1 94) := fun h9 h8 b hb9 => by rw [a94]; exact hc h9 h8 b hb9
        have c95 : xML xFa (H1.2.2.1 95) := xML_f a95
        have e74 : ∀ k, H1.2.1 74 k = H0.2.1 74 k := fun k => f1.2.2.1 74 k (fun h9 => absurd h9.1 (by decide))
        have e75 : ∀ k, H1.2.1 75 k = H0.2.1 75 k := fun k => f1.2.2.1 75 k (fun h9 => absurd h9.1 (by decide))
        have hw4 : 0 ≤ (H0.2.1 75 (16 * s.toInt.toNat + 2 * m.toInt.toNat)).toInt ∧ (H0.2.1 75 (16 * s.toInt.toNat + 2 * m.toInt.toNat)).toInt ≤ 3 := by rw [ej]; exact hbw
        have hst1 : H1.2.1 75 (16 * s.toInt.toNat + 2 * m.toInt.toNat + 1) = H0.2.1 75 (16 * s.toInt.toNat + 2 * j + 1) := by rw [e75, ej]
        rcases y0123 (x := (H0.2.1 75 (16 * s.toInt.toNat + 2 * m.toInt.toNat))) ⟨hw4.1, hw4.2⟩ with hv | hv | hv | hv
        · refine yr_wWu_0 (H0 := H1) (q := xMay S (H0.2.1 74 (4 * s.toInt.toNat + 1)).toInt (H0.2.1 74 (4 * s.toInt.toNat)).toInt.toNat (fun m => xRb (H0.2.1 74 (4 * s.toInt.toNat + 3)) (Int32.ofInt (m : Int))) (fun m => H0.2.1 75 (16 * s.toInt.toNat + 2 * m)) (fun m => H0.2.1 75 (16 * s.toInt.toNat + 2 * m + 1)) j) hS hRH hs ⟨by omega, by omega⟩ hst1 h19 rfl (by rw [e75, hv]) c94 w1 (xFw_r H1) (fun _ => rfl) c95 (zw_gt m0 rfl rfl) (zw_gt m1 rfl rfl) (zw_gt m2 rfl rfl) (zw_gt m3 rfl rfl) (zw_gt m4 rfl rfl) zw_g1 (fun H09 lv09 w09 f09 k09 p09 a0 b0 c0 d0 e0 g0 => ?_)
          refine yr_wWn_1 (H0 := H1) (q := xMay S (H0.2.1 74 (4 * s.toInt.toNat + 1)).toInt (H0.2.1 74 (4 * s.toInt.toNat)).toInt.toNat (fun m => xRb (H0.2.1 74 (4 * s.toInt.toNat + 3)) (Int32.ofInt (m : Int))) (fun m => H0.2.1 75 (16 * s.toInt.toNat + 2 * m)) (fun m => H0.2.1 75 (16 * s.toInt.toNat + 2 * m + 1)) j) hS hRH hs ⟨by omega, by omega⟩ hst1 h19 rfl (by rw [e75, hv]; decide) c94 w09 f09 k09 p09 a0 b0 c0 d0 e0 g0 (fun H19 lv19 w19 f19 k19 p19 a1 b1 c1 d1 e1 g1 => ?_)
          refine yr_wWn_2 (H0 := H1) (q := xMay S (H0.2.1 74 (4 * s.toInt.toNat + 1)).toInt (H0.2.1 74 (4 * s.toInt.toNat)).toInt.toNat (fun m => xRb (H0.2.1 74 (4 * s.toInt.toNat + 3)) (Int32.ofInt (m : Int))) (fun m => H0.2.1 75 (16 * s.toInt.toNat + 2 * m)) (fun m => H0.2.1 75 (16 * s.toInt.toNat + 2 * m + 1)) j) hS hRH hs ⟨by omega, by omega⟩ hst1 h19 rfl (by rw [e75, hv]; decide) c94 w19 f19 k19 p19 a1 b1 c1 d1 e1 g1 (fun H29 lv29 w29 f29 k29 p29 a2 b2 c2 d2 e2 g2 => ?_)
          refine yr_wWn_3 (H0 := H1) (q := xMay S (H0.2.1 74 (4 * s.toInt.toNat + 1)).toInt (H0.2.1 74 (4 * s.toInt.toNat)).toInt.toNat (fun m => xRb (H0.2.1 74 (4 * s.toInt.toNat + 3)) (Int32.ofInt (m : Int))) (fun m => H0.2.1 75 (16 * s.toInt.toNat + 2 * m)) (fun m => H0.2.1 75 (16 * s.toInt.toNat + 2 * m + 1)) j) hS hRH hs ⟨by omega, by omega⟩ hst1 h19 rfl (by rw [e75, hv]; decide) c94 w29 f29 k29 p29 a2 b2 c2 d2 e2 g2 (fun H39 lv39 w39 f39 k39 p39 a3 b3 c3 d3 e3 g3 => ?_)
          refine zw_ld (n := 2) (k := 5) (f := zp_isI) (pc' := 139) rfl rfl g3 rfl rfl ?_
          refine zw_s (pc' := 140) rfl rfl ?_
          refine zw_bge2 (g := 295) (pc' := 143) rfl rfl rfl (rfl : _ = (4 : Int)) (rfl : _ = (4 : Int)) (fun h1 => ?_) (fun h9 => absurd h9 (by decide))
          refine zw_s (pc' := 296) rfl rfl ?_
          refine zw_st (n := 2) (k := 5) (f := zp_isI) (pc' := 298) rfl rfl rfl rfl rfl ?_
          refine yr_wE (H0 := H39) (rb := Int32.ofInt 0) 73 H39 _ (Int32.ofInt 0) w39 (xFw_r H39) (fun _ => rfl) (fun q hq => absurd hq (by rw [show (Int32.ofInt 0).toInt = 0 by decide]; omega)) (by decide) (by rw [show (Int32.ofInt 0).toInt = 0 by decide]; omega) (zw_gt a3 rfl rfl) (zw_gt b3 rfl rfl) (zw_gt c3 rfl rfl) (zw_gt d3 rfl rfl) (zw_gt e3 rfl rfl) zw_g1 (fun H5 lv5 w5 f5 k5 b5 n0 n1 n2 n3 n4 => ?_)
          refine zw_ii (pc' := 328) rfl n3 rfl rfl ?_
          refine zw_s (pc' := 80) rfl rfl ?_
          refine ih H5 _ (m + Int32.ofInt 1) (j + 1) w5 (xFw_t f1 (xFw_t f39 f5)) ?_ (by omega) (by omega) (zw_gt n0 rfl rfl) (zw_gt n1 rfl rfl) (zw_gt n2 rfl rfl) zw_g1 hP
          intro h9 h8 b hb9
          rw [b5 h9 h8, p39 h9 h8 b hb9]
          show _ ↔ xMark S (H0.2.1 74 (4 * s.toInt.toNat + 1)).toInt (xRb (H0.2.1 74 (4 * s.toInt.toNat + 3)) (Int32.ofInt (j : Int))) _ _ (xMay S (H0.2.1 74 (4 * s.toInt.toNat + 1)).toInt (H0.2.1 74 (4 * s.toInt.toNat)).toInt.toNat (fun m => xRb (H0.2.1 74 (4 * s.toInt.toNat + 3)) (Int32.ofInt (m : Int))) (fun m => H0.2.1 75 (16 * s.toInt.toNat + 2 * m)) (fun m => H0.2.1 75 (16 * s.toInt.toNat + 2 * m + 1)) j) h9 b
          unfold xMark
          rw [eo, if_neg hb]
          rw [← e74 (4 * s.toInt.toNat + 1), show (H0.2.1 75 (16 * s.toInt.toNat + 2 * j)).toInt = 0 from by rw [← ej, hv]; decide]
          exact ⟨fun h => h.elim (fun h => h.elim) id, Or.inr⟩
        · refine yr_wWn_0 (H0 := H1) (q := xMay S (H0.2.1 74 (4 * s.toInt.toNat + 1)).toInt (H0.2.1 74 (4 * s.toInt.toNat)).toInt.toNat (fun m => xRb (H0.2.1 74 (4 * s.toInt.toNat + 3)) (Int32.ofInt (m : Int))) (fun m => H0.2.1 75 (16 * s.toInt.toNat + 2 * m)) (fun m => H0.2.1 75 (16 * s.toInt.toNat + 2 * m + 1)) j) hS hRH hs ⟨by omega, by omega⟩ hst1 h19 rfl (by rw [e75, hv]; decide) c94 w1 (xFw_r H1) (fun _ => rfl) c95 (zw_gt m0 rfl rfl) (zw_gt m1 rfl rfl) (zw_gt m2 rfl rfl) (zw_gt m3 rfl rfl) (zw_gt m4 rfl rfl) zw_g1 (fun H09 lv09 w09 f09 k09 p09 a0 b0 c0 d0 e0 g0 => ?_)
          refine yr_wWu_1 (H0 := H1) (q := xMay S (H0.2.1 74 (4 * s.toInt.toNat + 1)).toInt (H0.2.1 74 (4 * s.toInt.toNat)).toInt.toNat (fun m => xRb (H0.2.1 74 (4 * s.toInt.toNat + 3)) (Int32.ofInt (m : Int))) (fun m => H0.2.1 75 (16 * s.toInt.toNat + 2 * m)) (fun m => H0.2.1 75 (16 * s.toInt.toNat + 2 * m + 1)) j) hS hRH hs ⟨by omega, by omega⟩ hst1 h19 rfl (by rw [e75, hv]) c94 w09 f09 k09 p09 a0 b0 c0 d0 e0 g0 (fun H19 lv19 w19 f19 k19 p19 a1 b1 c1 d1 e1 g1 => ?_)
          refine yr_wWn_2 (H0 := H1) (q := xMay S (H0.2.1 74 (4 * s.toInt.toNat + 1)).toInt (H0.2.1 74 (4 * s.toInt.toNat)).toInt.toNat (fun m => xRb (H0.2.1 74 (4 * s.toInt.toNat + 3)) (Int32.ofInt (m : Int))) (fun m => H0.2.1 75 (16 * s.toInt.toNat + 2 * m)) (fun m => H0.2.1 75 (16 * s.toInt.toNat + 2 * m + 1)) j) hS hRH hs ⟨by omega, by omega⟩ hst1 h19 rfl (by rw [e75, hv]; decide) c94 w19 f19 k19 p19 a1 b1 c1 d1 e1 g1 (fun H29 lv29 w29 f29 k29 p29 a2 b2 c2 d2 e2 g2 => ?_)
          refine yr_wWn_3 (H0 := H1) (q := xMay S (H0.2.1 74 (4 * s.toInt.toNat + 1)).toInt (H0.2.1 74 (4 * s.toInt.toNat)).toInt.toNat (fun m => xRb (H0.2.1 74 (4 * s.toInt.toNat + 3)) (Int32.ofInt (m : Int))) (fun m => H0.2.1 75 (16 * s.toInt.toNat + 2 * m)) (fun m => H0.2.1 75 (16 * s.toInt.toNat + 2 * m + 1)) j) hS hRH hs ⟨by omega, by omega⟩ hst1 h19 rfl (by rw [e75, hv]; decide) c94 w29 f29 k29 p29 a2 b2 c2 d2 e2 g2 (fun H39 lv39 w39 f39 k39 p39 a3 b3 c3 d3 e3 g3 => ?_)
          refine zw_ld (n := 2) (k := 5) (f := zp_isI) (pc' := 139) rfl rfl g3 rfl rfl ?_
          refine zw_s (pc' := 140) rfl rfl ?_
          refine zw_bge2 (g := 295) (pc' := 143) rfl rfl rfl (rfl : _ = (4 : Int)) (rfl : _ = (4 : Int)) (fun h1 => ?_) (fun h9 => absurd h9 (by decide))
          refine zw_s (pc' := 296) rfl rfl ?_
          refine zw_st (n := 2) (k := 5) (f := zp_isI) (pc' := 298) rfl rfl rfl rfl rfl ?_
          refine yr_wE (H0 := H39) (rb := Int32.ofInt 0) 73 H39 _ (Int32.ofInt 0) w39 (xFw_r H39) (fun _ => rfl) (fun q hq => absurd hq (by rw [show (Int32.ofInt 0).toInt = 0 by decide]; omega)) (by decide) (by rw [show (Int32.ofInt 0).toInt = 0 by decide]; omega) (zw_gt a3 rfl rfl) (zw_gt b3 rfl rfl) (zw_gt c3 rfl rfl) (zw_gt d3 rfl rfl) (zw_gt e3 rfl rfl) zw_g1 (fun H5 lv5 w5 f5 k5 b5 n0 n1 n2 n3 n4 => ?_)
          refine zw_ii (pc' := 328) rfl n3 rfl rfl ?_
          refine zw_s (pc' := 80) rfl rfl ?_
          refine ih H5 _ (m + Int32.ofInt 1) (j + 1) w5 (xFw_t f1 (xFw_t f39 f5)) ?_ (by omega) (by omega) (zw_gt n0 rfl rfl) (zw_gt n1 rfl rfl) (zw_gt n2 rfl rfl) zw_g1 hP
          intro h9 h8 b hb9
          rw [b5 h9 h8, p39 h9 h8 b hb9]
          show _ ↔ xMark S (H0.2.1 74 (4 * s.toInt.toNat + 1)).toInt (xRb (H0.2.1 74 (4 * s.toInt.toNat + 3)) (Int32.ofInt (j : Int))) _ _ (xMay S (H0.2.1 74 (4 * s.toInt.toNat + 1)).toInt (H0.2.1 74 (4 * s.toInt.toNat)).toInt.toNat (fun m => xRb (H0.2.1 74 (4 * s.toInt.toNat + 3)) (Int32.ofInt (m : Int))) (fun m => H0.2.1 75 (16 * s.toInt.toNat + 2 * m)) (fun m => H0.2.1 75 (16 * s.toInt.toNat + 2 * m + 1)) j) h9 b
          unfold xMark
          rw [eo, if_neg hb]
          rw [← e74 (4 * s.toInt.toNat + 1), show (H0.2.1 75 (16 * s.toInt.toNat + 2 * j)).toInt = 1 from by rw [← ej, hv]; decide]
          exact ⟨fun h => h.elim (fun h => h.elim) id, Or.inr⟩
        · refine yr_wWn_0 (H0 := H1) (q := xMay S (H0.2.1 74 (4 * s.toInt.toNat + 1)).toInt (H0.2.1 74 (4 * s.toInt.toNat)).toInt.toNat (fun m => xRb (H0.2.1 74 (4 * s.toInt.toNat + 3)) (Int32.ofInt (m : Int))) (fun m => H0.2.1 75 (16 * s.toInt.toNat + 2 * m)) (fun m => H0.2.1 75 (16 * s.toInt.toNat + 2 * m + 1)) j) hS hRH hs ⟨by omega, by omega⟩ hst1 h19 rfl (by rw [e75, hv]; decide) c94 w1 (xFw_r H1) (fun _ => rfl) c95 (zw_gt m0 rfl rfl) (zw_gt m1 rfl rfl) (zw_gt m2 rfl rfl) (zw_gt m3 rfl rfl) (zw_gt m4 rfl rfl) zw_g1 (fun H09 lv09 w09 f09 k09 p09 a0 b0 c0 d0 e0 g0 => ?_)
          refine yr_wWn_1 (H0 := H1) (q := xMay S (H0.2.1 74 (4 * s.toInt.toNat + 1)).toInt (H0.2.1 74 (4 * s.toInt.toNat)).toInt.toNat (fun m => xRb (H0.2.1 74 (4 * s.toInt.toNat + 3)) (Int32.ofInt (m : Int))) (fun m => H0.2.1 75 (16 * s.toInt.toNat + 2 * m)) (fun m => H0.2.1 75 (16 * s.toInt.toNat + 2 * m + 1)) j) hS hRH hs ⟨by omega, by omega⟩ hst1 h19 rfl (by rw [e75, hv]; decide) c94 w09 f09 k09 p09 a0 b0 c0 d0 e0 g0 (fun H19 lv19 w19 f19 k19 p19 a1 b1 c1 d1 e1 g1 => ?_)
          refine yr_wWu_2 (H0 := H1) (q := xMay S (H0.2.1 74 (4 * s.toInt.toNat + 1)).toInt (H0.2.1 74 (4 * s.toInt.toNat)).toInt.toNat (fun m => xRb (H0.2.1 74 (4 * s.toInt.toNat + 3)) (Int32.ofInt (m : Int))) (fun m => H0.2.1 75 (16 * s.toInt.toNat + 2 * m)) (fun m => H0.2.1 75 (16 * s.toInt.toNat + 2 * m + 1)) j) hS hRH hs ⟨by omega, by omega⟩ hst1 h19 rfl (by rw [e75, hv]) c94 w19 f19 k19 p19 a1 b1 c1 d1 e1 g1 (fun H29 lv29 w29 f29 k29 p29 a2 b2 c2 d2 e2 g2 => ?_)
          refine yr_wWn_3 (H0 := H1) (q := xMay S (H0.2.1 74 (4 * s.toInt.toNat + 1)).toInt (H0.2.1 74 (4 * s.toInt.toNat)).toInt.toNat (fun m => xRb (H0.2.1 74 (4 * s.toInt.toNat + 3)) (Int32.ofInt (m : Int))) (fun m => H0.2.1 75 (16 * s.toInt.toNat + 2 * m)) (fun m => H0.2.1 75 (16 * s.toInt.toNat + 2 * m + 1)) j) hS hRH hs ⟨by omega, by omega⟩ hst1 h19 rfl (by rw [e75, hv]; decide) c94 w29 f29 k29 p29 a2 b2 c2 d2 e2 g2 (fun H39 lv39 w39 f39 k39 p39 a3 b3 c3 d3 e3 g3 => ?_)
          refine zw_ld (n := 2) (k := 5) (f := zp_isI) (pc' := 139) rfl rfl g3 rfl rfl ?_
          refine zw_s (pc' := 140) rfl rfl ?_
          refine zw_bge2 (g := 295) (pc' := 143) rfl rfl rfl (rfl : _ = (4 : Int)) (rfl : _ = (4 : Int)) (fun h1 => ?_) (fun h9 => absurd h9 (by decide))
          refine zw_s (pc' := 296) rfl rfl ?_
          refine zw_st (n := 2) (k := 5) (f := zp_isI) (pc' := 298) rfl rfl rfl rfl rfl ?_
          refine yr_wE (H0 := H39) (rb := Int32.ofInt 0) 73 H39 _ (Int32.ofInt 0) w39 (xFw_r H39) (fun _ => rfl) (fun q hq => absurd hq (by rw [show (Int32.ofInt 0).toInt = 0 by decide]; omega)) (by decide) (by rw [show (Int32.ofInt 0).toInt = 0 by decide]; omega) (zw_gt a3 rfl rfl) (zw_gt b3 rfl rfl) (zw_gt c3 rfl rfl) (zw_gt d3 rfl rfl) (zw_gt e3 rfl rfl) zw_g1 (fun H5 lv5 w5 f5 k5 b5 n0 n1 n2 n3 n4 => ?_)
          refine zw_ii (pc' := 328) rfl n3 rfl rfl ?_
          refine zw_s (pc' := 80) rfl rfl ?_
          refine ih H5 _ (m + Int32.ofInt 1) (j + 1) w5 (xFw_t f1 (xFw_t f39 f5)) ?_ (by omega) (by omega) (zw_gt n0 rfl rfl) (zw_gt n1 rfl rfl) (zw_gt n2 rfl rfl) zw_g1 hP
          intro h9 h8 b hb9
          rw [b5 h9 h8, p39 h9 h8 b hb9]
          show _ ↔ xMark S (H0.2.1 74 (4 * s.toInt.toNat + 1)).toInt (xRb (H0.2.1 74 (4 * s.toInt.toNat + 3)) (Int32.ofInt (j : Int))) _ _ (xMay S (H0.2.1 74 (4 * s.toInt.toNat + 1)).toInt (H0.2.1 74 (4 * s.toInt.toNat)).toInt.toNat (fun m => xRb (H0.2.1 74 (4 * s.toInt.toNat + 3)) (Int32.ofInt (m : Int))) (fun m => H0.2.1 75 (16 * s.toInt.toNat + 2 * m)) (fun m => H0.2.1 75 (16 * s.toInt.toNat + 2 * m + 1)) j) h9 b
          unfold xMark
          rw [eo, if_neg hb]
          rw [← e74 (4 * s.toInt.toNat + 1), show (H0.2.1 75 (16 * s.toInt.toNat + 2 * j)).toInt = 2 from by rw [← ej, hv]; decide]
          exact ⟨fun h => h.elim (fun h => h.elim) id, Or.inr⟩
        · refine yr_wWn_0 (H0 := H1) (q := xMay S (H0.2.1 74 (4 * s.toInt.toNat + 1)).toInt (H0.2.1 74 (4 * s.toInt.toNat)).toInt.toNat (fun m => xRb (H0.2.1 74 (4 * s.toInt.toNat + 3)) (Int32.ofInt (m : Int))) (fun m => H0.2.1 75 (16 * s.toInt.toNat + 2 * m)) (fun m => H0.2.1 75 (16 * s.toInt.toNat + 2 * m + 1)) j) hS hRH hs ⟨by omega, by omega⟩ hst1 h19 rfl (by rw [e75, hv]; decide) c94 w1 (xFw_r H1) (fun _ => rfl) c95 (zw_gt m0 rfl rfl) (zw_gt m1 rfl rfl) (zw_gt m2 rfl rfl) (zw_gt m3 rfl rfl) (zw_gt m4 rfl rfl) zw_g1 (fun H09 lv09 w09 f09 k09 p09 a0 b0 c0 d0 e0 g0 => ?_)
          refine yr_wWn_1 (H0 := H1) (q := xMay S (H0.2.1 74 (4 * s.toInt.toNat + 1)).toInt (H0.2.1 74 (4 * s.toInt.toNat)).toInt.toNat (fun m => xRb (H0.2.1 74 (4 * s.toInt.toNat + 3)) (Int32.ofInt (m : Int))) (fun m => H0.2.1 75 (16 * s.toInt.toNat + 2 * m)) (fun m => H0.2.1 75 (16 * s.toInt.toNat + 2 * m + 1)) j) hS hRH hs ⟨by omega, by omega⟩ hst1 h19 rfl (by rw [e75, hv]; decide) c94 w09 f09 k09 p09 a0 b0 c0 d0 e0 g0 (fun H19 lv19 w19 f19 k19 p19 a1 b1 c1 d1 e1 g1 => ?_)
          refine yr_wWn_2 (H0 := H1) (q := xMay S (H0.2.1 74 (4 * s.toInt.toNat + 1)).toInt (H0.2.1 74 (4 * s.toInt.toNat)).toInt.toNat (fun m => xRb (H0.2.1 74 (4 * s.toInt.toNat + 3)) (Int32.ofInt (m : Int))) (fun m => H0.2.1 75 (16 * s.toInt.toNat + 2 * m)) (fun m => H0.2.1 75 (16 * s.toInt.toNat + 2 * m + 1)) j) hS hRH hs ⟨by omega, by omega⟩ hst1 h19 rfl (by rw [e75, hv]; decide) c94 w19 f19 k19 p19 a1 b1 c1 d1 e1 g1 (fun H29 lv29 w29 f29 k29 p29 a2 b2 c2 d2 e2 g2 => ?_)
          refine yr_wWu_3 (H0 := H1) (q := xMay S (H0.2.1 74 (4 * s.toInt.toNat + 1)).toInt (H0.2.1 74 (4 * s.toInt.toNat)).toInt.toNat (fun m => xRb (H0.2.1 74 (4 * s.toInt.toNat + 3)) (Int32.ofInt (m : Int))) (fun m => H0.2.1 75 (16 * s.toInt.toNat + 2 * m)) (fun m => H0.2.1 75 (16 * s.toInt.toNat + 2 * m + 1)) j) hS hRH hs ⟨by omega, by omega⟩ hst1 h19 rfl (by rw [e75, hv]) c94 w29 f29 k29 p29 a2 b2 c2 d2 e2 g2 (fun H39 lv39 w39 f39 k39 p39 a3 b3 c3 d3 e3 g3 => ?_)
          refine zw_ld (n := 2) (k := 5) (f := zp_isI) (pc' := 139) rfl rfl g3 rfl rfl ?_
          refine zw_s (pc' := 140) rfl rfl ?_
          refine zw_bge2 (g := 295) (pc' := 143) rfl rfl rfl (rfl : _ = (4 : Int)) (rfl : _ = (4 : Int)) (fun h1 => ?_) (fun h9 => absurd h9 (by decide))
          refine zw_s (pc' := 296) rfl rfl ?_
          refine zw_st (n := 2) (k := 5) (f := zp_isI) (pc' := 298) rfl rfl rfl rfl rfl ?_
          refine yr_wE (H0 := H39) (rb := Int32.ofInt 0) 73 H39 _ (Int32.ofInt 0) w39 (xFw_r H39) (fun _ => rfl) (fun q hq => absurd hq (by rw [show (Int32.ofInt 0).toInt = 0 by decide]; omega)) (by decide) (by rw [show (Int32.ofInt 0).toInt = 0 by decide]; omega) (zw_gt a3 rfl rfl) (zw_gt b3 rfl rfl) (zw_gt c3 rfl rfl) (zw_gt d3 rfl rfl) (zw_gt e3 rfl rfl) zw_g1 (fun H5 lv5 w5 f5 k5 b5 n0 n1 n2 n3 n4 => ?_)
          refine zw_ii (pc' := 328) rfl n3 rfl rfl ?_
          refine zw_s (pc' := 80) rfl rfl ?_
          refine ih H5 _ (m + Int32.ofInt 1) (j + 1) w5 (xFw_t f1 (xFw_t f39 f5)) ?_ (by omega) (by omega) (zw_gt n0 rfl rfl) (zw_gt n1 rfl rfl) (zw_gt n2 rfl rfl) zw_g1 hP
          intro h9 h8 b hb9
          rw [b5 h9 h8, p39 h9 h8 b hb9]
          show _ ↔ xMark S (H0.2.1 74 (4 * s.toInt.toNat + 1)).toInt (xRb (H0.2.1 74 (4 * s.toInt.toNat + 3)) (Int32.ofInt (j : Int))) _ _ (xMay S (H0.2.1 74 (4 * s.toInt.toNat + 1)).toInt (H0.2.1 74 (4 * s.toInt.toNat)).toInt.toNat (fun m => xRb (H0.2.1 74 (4 * s.toInt.toNat + 3)) (Int32.ofInt (m : Int))) (fun m => H0.2.1 75 (16 * s.toInt.toNat + 2 * m)) (fun m => H0.2.1 75 (16 * s.toInt.toNat + 2 * m + 1)) j) h9 b
          unfold xMark
          rw [eo, if_neg hb]
          rw [← e74 (4 * s.toInt.toNat + 1), show (H0.2.1 75 (16 * s.toInt.toNat + 2 * j)).toInt = 3 from by rw [← ej, hv]; decide]
          exact ⟨fun h => h.elim (fun h => h.elim) id, Or.inr⟩
      · have h2 : (((H0.2.1 74 (4 * s.toInt.toNat + 3)) >>> (m &&& 31)) &&& Int32.ofInt 1).toInt = 1 := h2
        have hb : xRb (H0.2.1 74 (4 * s.toInt.toNat + 3)) m = true := decide_eq_true (by omega)
        refine zw_s (pc' := 104) rfl rfl ?_
        refine zw_s (pc' := 108) rfl rfl ?_
        refine zw_st (n := 2) (k := 4) (f := zp_isI) (pc' := 110) rfl rfl rfl rfl rfl ?_
        refine zw_s (pc' := 111) rfl rfl ?_
        refine zw_st (n := 2) (k := 5) (f := zp_isI) (pc' := 113) rfl rfl rfl rfl rfl ?_
        refine yr_wB (H0 := H) (rb := Int32.ofInt 1) 73 H _ (Int32.ofInt 0) W (xFw_r H) (fun _ => rfl) (fun q hq => absurd hq (by rw [show (Int32.ofInt 0).toInt = 0 by decide]; omega)) (by decide) (by rw [show (Int32.ofInt 0).toInt = 0 by decide]; omega) (zw_gt (zw_gt l0 rfl rfl) rfl rfl) (zw_gt (zw_gt l1 rfl rfl) rfl rfl) (zw_gt (zw_gt l2 rfl rfl) rfl rfl) (zw_gt (zw_gt l3 rfl rfl) rfl rfl) (zw_gt zw_g1 rfl rfl) zw_g1 (fun H1 lv1 w1 w2 a94 a95 m0 m1 m2 m3 m4 => ?_)
        refine zw_s (pc' := 135) rfl rfl ?_
        refine zw_st (n := 2) (k := 5) (f := zp_isI) (pc' := 137) rfl rfl rfl rfl rfl ?_
        have f1 : xFw H0 H1 := xFw_t hF w2
        have hRH := xSR_w f1 hR
        have c94 : xML (xMay S (H0.2.1 74 (4 * s.toInt.toNat + 1)).toInt (H0.2.1 74 (4 * s.toInt.toNat)).toInt.toNat (fun m => xRb (H0.2.1 74 (4 * s.toInt.toNat + 3)) (Int32.ofInt (m : Int))) (fun m => H0.2.1 75 (16 * s.toInt.toNat + 2 * m)) (fun m => H0.2.1 75 (16 * s.toInt.toNat + 2 * m + 1)) j) (H1.2.2.1 94) := fun h9 h8 b hb9 => by rw [a94]; exact hc h9 h8 b hb9
        have c95 : xML xFa (H1.2.2.1 95) := xML_f a95
        have e74 : ∀ k, H1.2.1 74 k = H0.2.1 74 k := fun k => f1.2.2.1 74 k (fun h9 => absurd h9.1 (by decide))
        have e75 : ∀ k, H1.2.1 75 k = H0.2.1 75 k := fun k => f1.2.2.1 75 k (fun h9 => absurd h9.1 (by decide))
        refine yr_wWr_0 (H0 := H1) (q := xMay S (H0.2.1 74 (4 * s.toInt.toNat + 1)).toInt (H0.2.1 74 (4 * s.toInt.toNat)).toInt.toNat (fun m => xRb (H0.2.1 74 (4 * s.toInt.toNat + 3)) (Int32.ofInt (m : Int))) (fun m => H0.2.1 75 (16 * s.toInt.toNat + 2 * m)) (fun m => H0.2.1 75 (16 * s.toInt.toNat + 2 * m + 1)) j) hS hRH hs c94 w1 (xFw_r H1) (fun _ => rfl) c95 (zw_gt m0 rfl rfl) (zw_gt m1 rfl rfl) (zw_gt m2 rfl rfl) (zw_gt m3 rfl rfl) (zw_gt m4 rfl rfl) zw_g1 (fun H09 lv09 w09 f09 k09 p09 a0 b0 c0 d0 e0 g0 => ?_)
        refine yr_wWr_1 (H0 := H1) (q := xMay S (H0.2.1 74 (4 * s.toInt.toNat + 1)).toInt (H0.2.1 74 (4 * s.toInt.toNat)).toInt.toNat (fun m => xRb (H0.2.1 74 (4 * s.toInt.toNat + 3)) (Int32.ofInt (m : Int))) (fun m => H0.2.1 75 (16 * s.toInt.toNat + 2 * m)) (fun m => H0.2.1 75 (16 * s.toInt.toNat + 2 * m + 1)) j) hS hRH hs c94 w09 f09 k09 p09 a0 b0 c0 d0 e0 g0 (fun H19 lv19 w19 f19 k19 p19 a1 b1 c1 d1 e1 g1 => ?_)
        refine yr_wWr_2 (H0 := H1) (q := xMay S (H0.2.1 74 (4 * s.toInt.toNat + 1)).toInt (H0.2.1 74 (4 * s.toInt.toNat)).toInt.toNat (fun m => xRb (H0.2.1 74 (4 * s.toInt.toNat + 3)) (Int32.ofInt (m : Int))) (fun m => H0.2.1 75 (16 * s.toInt.toNat + 2 * m)) (fun m => H0.2.1 75 (16 * s.toInt.toNat + 2 * m + 1)) j) hS hRH hs c94 w19 f19 k19 p19 a1 b1 c1 d1 e1 g1 (fun H29 lv29 w29 f29 k29 p29 a2 b2 c2 d2 e2 g2 => ?_)
        refine yr_wWr_3 (H0 := H1) (q := xMay S (H0.2.1 74 (4 * s.toInt.toNat + 1)).toInt (H0.2.1 74 (4 * s.toInt.toNat)).toInt.toNat (fun m => xRb (H0.2.1 74 (4 * s.toInt.toNat + 3)) (Int32.ofInt (m : Int))) (fun m => H0.2.1 75 (16 * s.toInt.toNat + 2 * m)) (fun m => H0.2.1 75 (16 * s.toInt.toNat + 2 * m + 1)) j) hS hRH hs c94 w29 f29 k29 p29 a2 b2 c2 d2 e2 g2 (fun H39 lv39 w39 f39 k39 p39 a3 b3 c3 d3 e3 g3 => ?_)
        refine zw_ld (n := 2) (k := 5) (f := zp_isI) (pc' := 139) rfl rfl g3 rfl rfl ?_
        refine zw_s (pc' := 140) rfl rfl ?_
        refine zw_bge2 (g := 295) (pc' := 143) rfl rfl rfl (rfl : _ = (4 : Int)) (rfl : _ = (4 : Int)) (fun h1 => ?_) (fun h9 => absurd h9 (by decide))
        refine zw_s (pc' := 296) rfl rfl ?_
        refine zw_st (n := 2) (k := 5) (f := zp_isI) (pc' := 298) rfl rfl rfl rfl rfl ?_
        refine yr_wE (H0 := H39) (rb := Int32.ofInt 1) 73 H39 _ (Int32.ofInt 0) w39 (xFw_r H39) (fun _ => rfl) (fun q hq => absurd hq (by rw [show (Int32.ofInt 0).toInt = 0 by decide]; omega)) (by decide) (by rw [show (Int32.ofInt 0).toInt = 0 by decide]; omega) (zw_gt a3 rfl rfl) (zw_gt b3 rfl rfl) (zw_gt c3 rfl rfl) (zw_gt d3 rfl rfl) (zw_gt e3 rfl rfl) zw_g1 (fun H5 lv5 w5 f5 k5 b5 n0 n1 n2 n3 n4 => ?_)
        refine zw_ii (pc' := 328) rfl n3 rfl rfl ?_
        refine zw_s (pc' := 80) rfl rfl ?_
        refine ih H5 _ (m + Int32.ofInt 1) (j + 1) w5 (xFw_t f1 (xFw_t f39 f5)) ?_ (by omega) (by omega) (zw_gt n0 rfl rfl) (zw_gt n1 rfl rfl) (zw_gt n2 rfl rfl) zw_g1 hP
        intro h9 h8 b hb9
        rw [b5 h9 h8, p39 h9 h8 b hb9]
        show _ ↔ xMark S (H0.2.1 74 (4 * s.toInt.toNat + 1)).toInt (xRb (H0.2.1 74 (4 * s.toInt.toNat + 3)) (Int32.ofInt (j : Int))) _ _ (xMay S (H0.2.1 74 (4 * s.toInt.toNat + 1)).toInt (H0.2.1 74 (4 * s.toInt.toNat)).toInt.toNat (fun m => xRb (H0.2.1 74 (4 * s.toInt.toNat + 3)) (Int32.ofInt (m : Int))) (fun m => H0.2.1 75 (16 * s.toInt.toNat + 2 * m)) (fun m => H0.2.1 75 (16 * s.toInt.toNat + 2 * m + 1)) j) h9 b
        unfold xMark
        rw [eo, if_pos hb]
        rw [← e74 (4 * s.toInt.toNat + 1)]
        exact Iff.rfl

set_option maxRecDepth 8000 in
theorem yr_wF {L : Nat} {σ : Nat → Int32} {d : Nat} {P : zp_X → Prop} {H : zp_H} {Q : Nat → Nat → Prop} (W : zw_W H) (hc : xML Q (H.2.2.1 94)) : ∀ (z : Nat) (lv : zp_LV) (v : Int64) (i : Int32), (∀ k, k < 64 → (yTb v k = true ↔ ∃ g : Nat, (g : Int) < i.toInt ∧ Q g k)) → 0 ≤ i.toInt → i.toInt + z = 73 → zp_get lv 0 = some (.inr (.inr (some 73))) → zp_get lv 3 = some (.inr (.inl v)) → zp_get lv 5 = some (.inl i) → (∀ u : Int64, (∀ k, k < 64 → (yTb u k = true ↔ ∃ g : Nat, g ≤ 72 ∧ Q g k)) → P (.inl (some (.inr (.inl u))), H)) → zs_Safe L σ P zm_225 [] (d + 3) (336, lv, [], H, (0, 0)) := by
  intro z
  induction z with
  | zero =>
    intro lv v i hv h5 hn l0 l3 l5 hP
    refine zw_ld (n := 2) (k := 5) (f := zp_isI) (pc' := 338) rfl rfl l5 rfl rfl ?_
    refine zw_s (pc' := 340) rfl rfl ?_
    refine zw_bgt2 (g := 359) (pc' := 343) rfl rfl rfl rfl (rfl : _ = (72 : Int)) (fun h1 => ?_) (fun h1 => ?_)
    · refine zw_ld (n := 1) (k := 3) (f := zp_isL) (pc' := 360) rfl rfl l3 rfl rfl ?_
      refine zw_rl rfl rfl ?_
      exact hP v (fun k hk => (hv k hk).trans ⟨fun ⟨g, g1, g2⟩ => ⟨g, by omega, g2⟩, fun ⟨g, g1, g2⟩ => ⟨g, by omega, g2⟩⟩)
    · have h1 : i.toInt ≤ 72 := h1
      omega
  | succ z ih =>
    intro lv v i hv h5 hn l0 l3 l5 hP
    refine zw_ld (n := 2) (k := 5) (f := zp_isI) (pc' := 338) rfl rfl l5 rfl rfl ?_
    refine zw_s (pc' := 340) rfl rfl ?_
    refine zw_bgt2 (g := 359) (pc' := 343) rfl rfl rfl rfl (rfl : _ = (72 : Int)) (fun h1 => ?_) (fun h1 => ?_)
    · have h1 : 72 < i.toInt := h1
      omega
    · have h1 : i.toInt ≤ 72 := h1
      have ei : (i + Int32.ofInt 1).toInt = i.toInt + 1 := zw_p1 (by omega)
      refine zw_ld (n := 1) (k := 3) (f := zp_isL) (pc' := 344) rfl rfl l3 rfl rfl ?_
      refine zw_ld (n := 1) (k := 0) (f := zp_isR) (pc' := 345) rfl rfl l0 rfl rfl ?_
      refine zw_gR (q := 72) (pc' := 348) W rfl rfl rfl rfl (W.2 72 72 _ rfl) rfl ?_
      refine zw_ld (n := 2) (k := 5) (f := zp_isI) (pc' := 350) rfl rfl l5 rfl rfl ?_
      refine zw_la (q := 94) (pc' := 351) W rfl rfl (⟨h5, by show _ < ((73 : Nat) : Int); omega⟩) rfl ?_
      refine zw_lor (pc' := 352) rfl rfl ?_
      refine zw_sl (n := 1) (k := 3) (pc' := 353) rfl rfl rfl rfl ?_
      refine zw_ii (pc' := 356) rfl (zw_gt2 l5 rfl rfl) rfl rfl ?_
      refine zw_s (pc' := 336) rfl rfl ?_
      refine ih _ _ (i + Int32.ofInt 1) (fun k hk => ?_) (by omega) (by omega) (zw_gt (zw_gt2 l0 rfl rfl) rfl rfl) (zw_gt zw_g2 rfl rfl) zw_g1 hP
      rw [tb_or, Bool.or_eq_true_iff, hv k hk, hc i.toInt.toNat (by omega) k hk]
      constructor
      · rintro (⟨g, g1, g2⟩ | g2)
        · exact ⟨g, by omega, g2⟩
        · exact ⟨i.toInt.toNat, by omega, g2⟩
      · rintro ⟨g, g1, g2⟩
        by_cases h9 : g = i.toInt.toNat
        · rw [h9] at g2
          exact Or.inr g2
        · exact Or.inl ⟨g, by omega, g2⟩

set_option maxRecDepth 8000 in
theorem yr_whr {L : Nat} {σ : Nat → Int32} {d : Nat} {H : zp_H} {S : xSea} {x1 x2 : Int32} (W : zw_W H) (hS : xOk S) (hR : xSR H S) (hx : 0 ≤ x1.toInt ∧ x1.toInt < (H.2.1 72 5).toInt) (hs : 0 ≤ x1.toInt ∧ x1.toInt < 8) (hk : 0 ≤ x2.toInt ∧ x2.toInt ≤ 8) (hw : ∀ j, j < x2.toInt.toNat → 0 ≤ ((zw_I H 72 0 (Int32.ofInt 0)).2.1 75 (16 * x1.toInt.toNat + 2 * j)).toInt ∧ ((zw_I H 72 0 (Int32.ofInt 0)).2.1 75 (16 * x1.toInt.toNat + 2 * j)).toInt ≤ 3) (h19 : ∀ j, j < x2.toInt.toNat → 1 ≤ ((zw_I H 72 0 (Int32.ofInt 0)).2.1 75 (16 * x1.toInt.toNat + 2 * j + 1)).toInt ∧ ((zw_I H 72 0 (Int32.ofInt 0)).2.1 75 (16 * x1.toInt.toNat + 2 * j + 1)).toInt ≤ 9) (hk2 : x2.toInt ≤ ((zw_I H 72 0 (Int32.ofInt 0)).2.1 74 (4 * x1.toInt.toNat + 2)).toInt) (hcl : 0 ≤ ((zw_I H 72 0 (Int32.ofInt 0)).2.1 74 (4 * x1.toInt.toNat)).toInt ∧ ((zw_I H 72 0 (Int32.ofInt 0)).2.1 74 (4 * x1.toInt.toNat)).toInt ≤ 63) : ∃ Z, zp_Call L σ (d + 4) 225 [.inr (.inr (some 73)), .inl x1, .inl x2] H Z ∧ ∃ H1 u, Z = (.inl (some (.inr (.inl u))), H1) ∧ xFw (zw_I H 72 0 (Int32.ofInt 0)) H1 ∧ ∀ k, k < 64 → (yTb u k = true ↔ ∃ g : Nat, g ≤ 72 ∧ xMay S ((zw_I H 72 0 (Int32.ofInt 0)).2.1 74 (4 * x1.toInt.toNat + 1)).toInt ((zw_I H 72 0 (Int32.ofInt 0)).2.1 74 (4 * x1.toInt.toNat)).toInt.toNat (fun m => xRb ((zw_I H 72 0 (Int32.ofInt 0)).2.1 74 (4 * x1.toInt.toNat + 3)) (Int32.ofInt (m : Int))) (fun m => (zw_I H 72 0 (Int32.ofInt 0)).2.1 75 (16 * x1.toInt.toNat + 2 * m)) (fun m => (zw_I H 72 0 (Int32.ofInt 0)).2.1 75 (16 * x1.toInt.toNat + 2 * m + 1)) x2.toInt.toNat g k) := by
  have h0 : ((zw_I H 72 0 (Int32.ofInt 0)).2.1 72 0).toInt = 0 := congrArg Int32.toInt zw_eq
  have e5 : (zw_I H 72 0 (Int32.ofInt 0)).2.1 72 5 = H.2.1 72 5 := zw_ne rfl rfl
  have j1 : (Int32.ofInt 4 * x1).toInt = 4 * x1.toInt := zt_mul (by decide) (by omega)
  have j3 : (Int32.ofInt 4 * x1).toInt.toNat = 4 * x1.toInt.toNat := by omega
  refine zw_met zm_225_t rfl rfl ?_
  refine zw_ld (n := 1) (k := 0) (f := zp_isR) (pc' := 1) rfl rfl rfl rfl rfl ?_
  refine zw_s (pc' := 2) rfl rfl ?_
  refine zw_pI (q := 72) (pc' := 5) W rfl rfl rfl rfl rfl rfl ?_
  refine zw_ld (n := 1) (k := 0) (f := zp_isR) (pc' := 6) rfl rfl rfl rfl rfl ?_
  refine zw_ld (n := 1) (k := 1) (f := zp_isI) (pc' := 7) rfl rfl rfl rfl rfl ?_
  refine zw_c (pc' := 10) (zw_cv (q := 72) (Y := zm_210) (zw_W_I W).1 rfl rfl zm_210_t rfl rfl) rfl rfl rfl rfl rfl (zq_slate1 (zw_W_I W) h0 (by rw [e5]; exact hx)) ?_
  refine zw_beq1 (g := 39) (pc' := 13) rfl rfl rfl (rfl : _ = (1 : Int)) (fun h9 => absurd h9 (by decide)) (fun h7 => ?_)
  refine zw_ld (n := 1) (k := 0) (f := zp_isR) (pc' := 14) rfl rfl rfl rfl rfl ?_
  refine zw_ld (n := 1) (k := 2) (f := zp_isI) (pc' := 15) rfl rfl rfl rfl rfl ?_
  refine zw_blt1 (g := 31) (pc' := 18) rfl rfl rfl rfl (fun h1 => ?_) (fun h1 => ?_)
  · have h1 : x2.toInt < 0 := h1
    omega
  · refine zw_ld (n := 1) (k := 2) (f := zp_isI) (pc' := 19) rfl rfl rfl rfl rfl ?_
    refine zw_ld (n := 1) (k := 0) (f := zp_isR) (pc' := 20) rfl rfl rfl rfl rfl ?_
    refine zw_ld (n := 1) (k := 1) (f := zp_isI) (pc' := 21) rfl rfl rfl rfl rfl ?_
    refine zw_c (pc' := 24) (zw_cv (q := 72) (Y := zm_212) (zw_W_I W).1 rfl rfl zm_212_t rfl rfl) rfl rfl rfl rfl rfl (zq_marks (zw_W_I W) ⟨hx.1, by omega⟩) ?_
    refine zw_bgt2 (g := 31) (pc' := 27) rfl rfl rfl rfl rfl (fun h2 => ?_) (fun h2 => ?_)
    · exact absurd hk2 (Int.not_le.mpr h2)
    · refine zw_s (pc' := 28) rfl rfl ?_
      refine zw_s (pc' := 32) rfl rfl ?_
      refine zw_s (pc' := 33) rfl rfl ?_
      refine zw_c (pc' := 36) (zw_cv (q := 72) (Y := zm_170) (zw_W_I W).1 rfl rfl zm_170_t rfl rfl) rfl rfl rfl rfl rfl (zq_right1 (zw_W_I W) h0) ?_
      refine zw_bne1 (g := 41) (pc' := 39) rfl rfl rfl (rfl : _ = (1 : Int)) (fun h7 => ?_) (fun h9 => absurd h9 (by decide))
      refine zw_s (pc' := 42) rfl rfl ?_
      refine zw_st (n := 1) (k := 3) (f := zp_isI) (pc' := 43) rfl rfl rfl rfl rfl ?_
      refine yr_wA (H0 := (zw_I H 72 0 (Int32.ofInt 0))) 73 _ _ (Int32.ofInt 0) (zw_W_I W) (xFw_r _) (fun q hq => absurd hq (by rw [show (Int32.ofInt 0).toInt = 0 by decide]; omega)) (by decide) (by rw [show (Int32.ofInt 0).toInt = 0 by decide]; omega) (zw_gt rfl rfl rfl) (zw_gt rfl rfl rfl) (zw_gt rfl rfl rfl) zw_g1 (fun H1 lv1 w1 w2 a94 m0 m1 m2 => ?_)
      refine zw_ld (n := 1) (k := 0) (f := zp_isR) (pc' := 63) rfl rfl m0 rfl rfl ?_
      refine zw_gR (q := 72) (pc' := 66) w1 rfl rfl rfl rfl (w1.2 72 72 _ rfl) rfl ?_
      refine zw_s (pc' := 67) rfl rfl ?_
      refine zw_s (pc' := 68) rfl rfl ?_
      refine zw_ld (n := 1) (k := 0) (f := zp_isR) (pc' := 69) rfl rfl m0 rfl rfl ?_
      refine zw_gR (q := 72) (pc' := 72) w1 rfl rfl rfl rfl (w1.2 72 14 _ rfl) rfl ?_
      refine zw_s (pc' := 73) rfl rfl ?_
      refine zw_ld (n := 1) (k := 1) (f := zp_isI) (pc' := 74) rfl rfl m1 rfl rfl ?_
      refine zw_imul (pc' := 75) rfl rfl ?_
      refine zw_ia (q := 74) (pc' := 76) w1 rfl rfl (by decide) (⟨by omega, by show _ < ((32 : Nat) : Int); omega⟩) rfl rfl ?_
      refine zw_lshl (pc' := 77) rfl rfl ?_
      refine zw_ls (q := 94) (pc' := 78) w1 rfl rfl (⟨by decide, by show (Int32.ofInt 0).toInt < ((73 : Nat) : Int); decide⟩) rfl ?_
      refine zw_s (pc' := 79) rfl rfl ?_
      refine zw_st (n := 1) (k := 3) (f := zp_isI) (pc' := 80) rfl rfl rfl rfl rfl ?_
      have c0 : H1.2.1 74 (Int32.ofInt 4 * x1).toInt.toNat = ((zw_I H 72 0 (Int32.ofInt 0)).2.1 74 (4 * x1.toInt.toNat)) := by rw [j3]; exact w2.2.2.1 74 _ (fun h9 => absurd h9.1 (by decide))
      refine yr_wM (H0 := (zw_I H 72 0 (Int32.ofInt 0))) hS (xSR_0 hR) hs hk hw h19 x2.toInt.toNat (zw_J H1 94 (Int32.ofInt 0).toInt.toNat (za_shl0 (Int64.ofNat 1) (H1.2.1 74 (Int32.ofInt 4 * x1).toInt.toNat))) _ (Int32.ofInt 0) 0 (zw_W_J w1) (xFw_J w2 ⟨by decide, by decide⟩) ?_ (by decide) (Nat.zero_add _) (zw_gt m0 rfl rfl) (zw_gt m1 rfl rfl) (zw_gt m2 rfl rfl) zw_g1 (fun H2 lv2 v1 v2 c94 n0 n1 n2 => ?_)
      · intro g hg k hk9
        show yTb ((zw_J H1 94 (Int32.ofInt 0).toInt.toNat (za_shl0 (Int64.ofNat 1) (H1.2.1 74 (Int32.ofInt 4 * x1).toInt.toNat))).2.2.1 94 g) k = true ↔ (g = 0 ∧ k = ((zw_I H 72 0 (Int32.ofInt 0)).2.1 74 (4 * x1.toInt.toNat)).toInt.toNat)
        by_cases h9 : g = 0
        · rw [h9, show (zw_J H1 94 (Int32.ofInt 0).toInt.toNat (za_shl0 (Int64.ofNat 1) (H1.2.1 74 (Int32.ofInt 4 * x1).toInt.toNat))).2.2.1 94 0 = za_shl0 (Int64.ofNat 1) (H1.2.1 74 (Int32.ofInt 4 * x1).toInt.toNat) from (by rw [xI0z]; exact xJns), c0, tb_bit hcl hk9, decide_eq_true_iff]
          exact ⟨fun h => ⟨rfl, h⟩, fun h => h.2⟩
        · rw [show (zw_J H1 94 (Int32.ofInt 0).toInt.toNat (za_shl0 (Int64.ofNat 1) (H1.2.1 74 (Int32.ofInt 4 * x1).toInt.toNat))).2.2.1 94 g = H1.2.2.1 94 g from zp_u_ne (fun h8 => h9 h8.2), a94 g hg, tb_0]
          exact ⟨fun h => (by cases h), fun h => absurd h.1 h9⟩
      refine zw_s (pc' := 332) rfl rfl ?_
      refine zw_sl (n := 1) (k := 3) (pc' := 333) rfl rfl rfl rfl ?_
      refine zw_s (pc' := 334) rfl rfl ?_
      refine zw_st (n := 2) (k := 5) (f := zp_isI) (pc' := 336) rfl rfl rfl rfl rfl ?_
      exact yr_wF v1 c94 73 _ (Int64.ofNat 0) (Int32.ofInt 0) (fun k _ => by rw [tb_0, show (Int32.ofInt 0).toInt = 0 by decide]; exact ⟨fun h => (by cases h), fun ⟨g, h, _⟩ => by omega⟩) (by decide) (by rw [show (Int32.ofInt 0).toInt = 0 by decide]; omega) (zw_gt (zw_gt2 n0 rfl rfl) rfl rfl) (zw_gt zw_g2 rfl rfl) zw_g1 (fun u hu => ⟨H2, u, rfl, v2, hu⟩)

set_option maxRecDepth 8000 in
theorem yr_whn {L : Nat} {σ : Nat → Int32} {d : Nat} {H : zp_H} (W : zw_W H) {x1 x2 : Int32} (h8 : (H.2.1 72 5).toInt ≤ 8) (h : ¬ ((0 ≤ x1.toInt ∧ x1.toInt < (H.2.1 72 5).toInt) ∧ 0 ≤ x2.toInt ∧ x2.toInt ≤ ((zw_I H 72 0 (Int32.ofInt 0)).2.1 74 (4 * x1.toInt.toNat + 2)).toInt)) : zp_Call L σ (d + 4) 225 [.inr (.inr (some 73)), .inl x1, .inl x2] H (.inl (some (.inr (.inl (Int64.ofNat 0)))), zw_I (zw_I H 72 0 (Int32.ofInt 0)) 72 0 (Int32.ofInt 1)) := by
  have h0 : ((zw_I H 72 0 (Int32.ofInt 0)).2.1 72 0).toInt = 0 := congrArg Int32.toInt zw_eq
  have e5 : (zw_I H 72 0 (Int32.ofInt 0)).2.1 72 5 = H.2.1 72 5 := zw_ne rfl rfl
  refine zw_ex (zw_met zm_225_t rfl rfl ?_)
  refine zw_ld (n := 1) (k := 0) (f := zp_isR) (pc' := 1) rfl rfl rfl rfl rfl ?_
  refine zw_s (pc' := 2) rfl rfl ?_
  refine zw_pI (q := 72) (pc' := 5) W rfl rfl rfl rfl rfl rfl ?_
  refine zw_ld (n := 1) (k := 0) (f := zp_isR) (pc' := 6) rfl rfl rfl rfl rfl ?_
  refine zw_ld (n := 1) (k := 1) (f := zp_isI) (pc' := 7) rfl rfl rfl rfl rfl ?_
  by_cases hp : 0 ≤ x1.toInt ∧ x1.toInt < (H.2.1 72 5).toInt
  · refine zw_c (pc' := 10) (zw_cv (q := 72) (Y := zm_210) (zw_W_I W).1 rfl rfl zm_210_t rfl rfl) rfl rfl rfl rfl rfl (zq_slate1 (zw_W_I W) h0 (by rw [e5]; exact hp)) ?_
    refine zw_beq1 (g := 39) (pc' := 13) rfl rfl rfl (rfl : _ = (1 : Int)) (fun h9 => absurd h9 (by decide)) (fun h7 => ?_)
    refine zw_ld (n := 1) (k := 0) (f := zp_isR) (pc' := 14) rfl rfl rfl rfl rfl ?_
    refine zw_ld (n := 1) (k := 2) (f := zp_isI) (pc' := 15) rfl rfl rfl rfl rfl ?_
    refine zw_blt1 (g := 31) (pc' := 18) rfl rfl rfl rfl (fun h1 => ?_) (fun h1 => ?_)
    · have h1 : x2.toInt < 0 := h1
      refine zw_s (pc' := 32) rfl rfl ?_
      refine zw_s (pc' := 33) rfl rfl ?_
      refine zw_c (pc' := 36) (zw_cv (q := 72) (Y := zm_170) (zw_W_I W).1 rfl rfl zm_170_t rfl rfl) rfl rfl rfl rfl rfl (zq_right0 (zw_W_I W) h0 (by decide)) ?_
      refine zw_bne1 (g := 41) (pc' := 39) rfl rfl rfl (rfl : _ = (0 : Int)) (fun h9 => absurd h9 (by decide)) (fun h7 => ?_)
      refine zw_s (pc' := 40) rfl rfl ?_
      refine zw_rl rfl rfl ?_
      rfl
    · refine zw_ld (n := 1) (k := 2) (f := zp_isI) (pc' := 19) rfl rfl rfl rfl rfl ?_
      refine zw_ld (n := 1) (k := 0) (f := zp_isR) (pc' := 20) rfl rfl rfl rfl rfl ?_
      refine zw_ld (n := 1) (k := 1) (f := zp_isI) (pc' := 21) rfl rfl rfl rfl rfl ?_
      refine zw_c (pc' := 24) (zw_cv (q := 72) (Y := zm_212) (zw_W_I W).1 rfl rfl zm_212_t rfl rfl) rfl rfl rfl rfl rfl (zq_marks (zw_W_I W) ⟨hp.1, by omega⟩) ?_
      refine zw_bgt2 (g := 31) (pc' := 27) rfl rfl rfl rfl rfl (fun h2 => ?_) (fun h2 => ?_)
      · refine zw_s (pc' := 32) rfl rfl ?_
        refine zw_s (pc' := 33) rfl rfl ?_
        refine zw_c (pc' := 36) (zw_cv (q := 72) (Y := zm_170) (zw_W_I W).1 rfl rfl zm_170_t rfl rfl) rfl rfl rfl rfl rfl (zq_right0 (zw_W_I W) h0 (by decide)) ?_
        refine zw_bne1 (g := 41) (pc' := 39) rfl rfl rfl (rfl : _ = (0 : Int)) (fun h9 => absurd h9 (by decide)) (fun h7 => ?_)
        refine zw_s (pc' := 40) rfl rfl ?_
        refine zw_rl rfl rfl ?_
        rfl
      · exact absurd ⟨hp, h1, h2⟩ h
  · refine zw_c (pc' := 10) (zw_cv (q := 72) (Y := zm_210) (zw_W_I W).1 rfl rfl zm_210_t rfl rfl) rfl rfl rfl rfl rfl (zq_slate0 (zw_W_I W) h0 (by rw [e5]; exact hp)) ?_
    refine zw_beq1 (g := 39) (pc' := 13) rfl rfl rfl (rfl : _ = (0 : Int)) (fun h7 => ?_) (fun h9 => absurd h9 (by decide))
    refine zw_s (pc' := 40) rfl rfl ?_
    refine zw_rl rfl rfl ?_
    rfl
