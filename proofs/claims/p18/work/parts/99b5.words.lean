/-! ===== the class's words are the letters' ===== -/
def yw_fl (T : Nat → Int) : Nat → Nat → List Int
  | _, 0 => []
  | s, m + 1 => T s :: yw_fl T (s + 1) m
def yw_sc (i : Nat) : Int := (Int32.ofNat (zp_spell.getD i 0)).toInt
/-- spelled from i on: these letters, then a space -/
def yw_at : Nat → List Int → Prop
  | i, [] => yw_sc i = 32
  | i, c :: r => yw_sc i = c ∧ c ≠ 32 ∧ yw_at (i + 1) r
def yw_mt (T : Nat → Int) (s e : Nat) : Int → List Int → Prop
  | a, [] => a = (e : Int) - s
  | a, c :: r => (a ≠ -1 ∧ (s : Int) + a < e ∧ T ((s : Int) + a).toNat = c) ∧ yw_mt T s e (a + 1) r
theorem yw_mt_no {T : Nat → Int} {s e : Nat} (h : s ≤ e) : ∀ (cs : List Int), ¬ yw_mt T s e (-1) cs
  | [], h9 => by
    have h9 : (-1 : Int) = (e : Int) - s := h9
    omega
  | _ :: _, h9 => h9.1.1 rfl
theorem yw_wl {T : Nat → Int} {s e : Nat} (h : s ≤ e) (f : Nat) : ∀ (cs : List Int) (i : Nat) (a : Int), ys_al T s e i = a → yw_at i cs → (yw_mt T s e a cs → ys_wl T s e (f + 1 + cs.length) i = zq_sp (i + cs.length)) ∧ (¬ yw_mt T s e a cs → ys_wl T s e (f + 1 + cs.length) i = ys_wl T s e f (i + cs.length + 1)) ∧ ys_al T s e (i + cs.length + 1) = 0
  | [], i, a, ha, hs => by
    have hs : yw_sc i = 32 := hs
    refine ⟨fun hm => ?_, fun hm => ?_, ?_⟩
    · show (if _ then _ else _) = _
      rw [if_pos ⟨hs, ha.trans hm⟩]
      rfl
    · show (if _ then _ else _) = _
      rw [if_neg (fun h9 => hm (ha.symm.trans h9.2))]
      rfl
    · exact if_pos hs
  | c :: r, i, a, ha, hs => by
    obtain ⟨h1, h2, h3⟩ := hs
    have e1 : ∀ g, ys_wl T s e (g + 1) i = ys_wl T s e g (i + 1) := fun g => by
      show (if _ then _ else _) = _
      rw [if_neg (fun h9 => h2 (h1.symm.trans h9.1))]
    have e2 : f + 1 + (c :: r).length = f + 1 + r.length + 1 := rfl
    have e3 : i + (c :: r).length = i + 1 + r.length := by
      rw [List.length_cons]
      omega
    rw [e2, e1, e3]
    have e4 : ys_al T s e (i + 1) = if a ≠ -1 ∧ (s : Int) + a < e ∧ T ((s : Int) + a).toNat = c then a + 1 else -1 := by
      refine (if_neg (show ¬ yw_sc i = 32 from fun h9 => h2 (h1.symm.trans h9))).trans ?_
      rw [ha]
      show (if a ≠ -1 ∧ (s : Int) + a < e ∧ T ((s : Int) + a).toNat = yw_sc i then a + 1 else -1) = _
      rw [h1]
    by_cases hc : a ≠ -1 ∧ (s : Int) + a < e ∧ T ((s : Int) + a).toNat = c
    · rw [if_pos hc] at e4
      obtain ⟨k1, k2, k3⟩ := yw_wl h f r (i + 1) (a + 1) e4 h3
      exact ⟨fun hm => k1 hm.2, fun hm => k2 (fun h9 => hm ⟨hc, h9⟩), k3⟩
    · rw [if_neg hc] at e4
      obtain ⟨k1, k2, k3⟩ := yw_wl h f r (i + 1) (-1) e4 h3
      exact ⟨fun hm => absurd hm.1 hc, fun hm => k2 (yw_mt_no h r), k3⟩
theorem yw_mt_f {T : Nat → Int} {s e : Nat} : ∀ (cs : List Int) (j : Nat), s + j ≤ e → (yw_mt T s e j cs ↔ yw_fl T (s + j) (e - (s + j)) = cs)
  | [], j, hj => by
    constructor
    · intro h
      have h : (j : Int) = (e : Int) - s := h
      rw [show e - (s + j) = 0 by omega]
      rfl
    · intro h
      show (j : Int) = (e : Int) - s
      cases hm : e - (s + j) with
      | zero => omega
      | succ m =>
        rw [hm] at h
        cases h
  | c :: r, j, hj => by
    cases hm : e - (s + j) with
    | zero =>
      constructor
      · intro h
        have := h.1.2.1
        omega
      · intro h
        cases h
    | succ m =>
      have ih := yw_mt_f (T := T) (s := s) (e := e) r (j + 1) (by omega)
      have e1 : e - (s + (j + 1)) = m := by omega
      rw [e1] at ih
      have e2 : ((s : Int) + (j : Int)).toNat = s + j := by omega
      constructor
      · intro h
        have h2 := ih.mp h.2
        have h1 := h.1.2.2
        rw [e2] at h1
        show T (s + j) :: yw_fl T (s + j + 1) m = c :: r
        rw [h1, show s + j + 1 = s + (j + 1) by omega, h2]
      · intro h
        have h : T (s + j) :: yw_fl T (s + j + 1) m = c :: r := h
        obtain ⟨h1, h2⟩ := List.cons.inj h
        refine ⟨⟨by omega, by omega, ?_⟩, ih.mpr h2⟩
        rw [e2]
        exact h1
theorem yw_fl_s {T : Nat → Int} : ∀ (m s : Nat), yw_fl T s (m + 1) = yw_fl T s m ++ [T (s + m)]
  | 0, s => rfl
  | m + 1, s => by
    show T s :: yw_fl T (s + 1) (m + 1) = T s :: yw_fl T (s + 1) m ++ [T (s + (m + 1))]
    rw [yw_fl_s m (s + 1), show s + 1 + m = s + (m + 1) by omega]
    rfl
def yw_g (c : Int) : Nat := (c - 96).toNat
theorem yw_rl_f {T : Nat → Int} {s : Nat} : ∀ (m : Nat), yw_rl T s m = ((yw_fl T s m).map yw_g).reverse
  | 0 => rfl
  | m + 1 => by
    rw [yw_fl_s, List.map_append, List.reverse_append, ← yw_rl_f m]
    rfl
theorem yw_fl_d {T : Nat → Int} : ∀ (m s : Nat), (∀ t, t < m → 97 ≤ T (s + t) ∧ T (s + t) ≤ 122) → ∀ c ∈ yw_fl T s m, 97 ≤ c ∧ c ≤ 122
  | 0, s, _, c, hc => absurd hc List.not_mem_nil
  | m + 1, s, h, c, hc => by
    rcases List.mem_cons.mp hc with rfl | hc
    · exact h 0 (Nat.succ_pos _)
    · exact yw_fl_d m (s + 1) (fun t ht => by rw [show s + 1 + t = s + (t + 1) by omega]; exact h (t + 1) (by omega)) c hc
theorem yw_map {a b : List Int} (ha : ∀ c ∈ a, 97 ≤ c ∧ c ≤ 122) (hb : ∀ c ∈ b, 97 ≤ c ∧ c ≤ 122) (h : a.map yw_g = b.map yw_g) : a = b := by
  induction a generalizing b with
  | nil =>
    cases b with
    | nil => rfl
    | cons _ _ => cases h
  | cons x a ih =>
    cases b with
    | nil => cases h
    | cons y b =>
      obtain ⟨h1, h2⟩ := List.cons.inj h
      have hx := ha x List.mem_cons_self
      have hy := hb y List.mem_cons_self
      have h1 : (x - 96).toNat = (y - 96).toNat := h1
      rw [ih (fun c hc => ha c (List.mem_cons_of_mem _ hc)) (fun c hc => hb c (List.mem_cons_of_mem _ hc)) h2, show x = y by omega]
theorem yw_mt_r {T : Nat → Int} {s e : Nat} {cs : List Int} {w : List Nat} (hse : s ≤ e) (h : ∀ t, t < e - s → 97 ≤ T (s + t) ∧ T (s + t) ≤ 122) (hw : (cs.map yw_g).reverse = w) (hc : cs.all (fun c => decide (97 ≤ c ∧ c ≤ 122)) = true) : yw_mt T s e 0 cs ↔ yw_rl T s (e - s) = w := by
  have h1 := yw_mt_f (T := T) (s := s) (e := e) cs 0 hse
  have h1 : yw_mt T s e 0 cs ↔ yw_fl T s (e - s) = cs := h1
  rw [h1, yw_rl_f, ← hw]
  constructor
  · intro h9
    rw [h9]
  · intro h9
    exact yw_map (yw_fl_d _ _ h) (fun c h8 => of_decide_eq_true (List.all_eq_true.mp hc c h8)) (List.reverse_inj.mp h9)

theorem yw_wi {T : Nat → Int} {s e : Nat} (hse : s ≤ e) (h : ∀ t, t < e - s → 97 ≤ T (s + t) ∧ T (s + t) ≤ 122) : ys_wi T s e = yw_cls (yw_rl T s (e - s)) := by
  have a0 : ys_al T s e 0 = 0 := rfl
  have m0 := yw_mt_r (cs := [110, 111, 114, 116, 104]) (w := [8, 20, 18, 15, 14]) hse h rfl rfl
  obtain ⟨p0, n0, a1⟩ := yw_wl hse 95 [110, 111, 114, 116, 104] 0 0 a0 (by refine ⟨rfl, by decide, rfl, by decide, rfl, by decide, rfl, by decide, rfl, by decide, rfl⟩)
  have m1 := yw_mt_r (cs := [101, 97, 115, 116]) (w := [20, 19, 1, 5]) hse h rfl rfl
  obtain ⟨p1, n1, a2⟩ := yw_wl hse 90 [101, 97, 115, 116] 6 0 a1 (by refine ⟨rfl, by decide, rfl, by decide, rfl, by decide, rfl, by decide, rfl⟩)
  have m2 := yw_mt_r (cs := [115, 111, 117, 116, 104]) (w := [8, 20, 21, 15, 19]) hse h rfl rfl
  obtain ⟨p2, n2, a3⟩ := yw_wl hse 84 [115, 111, 117, 116, 104] 11 0 a2 (by refine ⟨rfl, by decide, rfl, by decide, rfl, by decide, rfl, by decide, rfl, by decide, rfl⟩)
  have m3 := yw_mt_r (cs := [119, 101, 115, 116]) (w := [20, 19, 5, 23]) hse h rfl rfl
  obtain ⟨p3, n3, a4⟩ := yw_wl hse 79 [119, 101, 115, 116] 17 0 a3 (by refine ⟨rfl, by decide, rfl, by decide, rfl, by decide, rfl, by decide, rfl⟩)
  have m4 := yw_mt_r (cs := [120]) (w := [24]) hse h rfl rfl
  obtain ⟨p4, n4, a5⟩ := yw_wl hse 77 [120] 22 0 a4 (by refine ⟨rfl, by decide, rfl⟩)
  have m5 := yw_mt_r (cs := [121]) (w := [25]) hse h rfl rfl
  obtain ⟨p5, n5, a6⟩ := yw_wl hse 75 [121] 24 0 a5 (by refine ⟨rfl, by decide, rfl⟩)
  have m6 := yw_mt_r (cs := [104, 111, 117, 114]) (w := [18, 21, 15, 8]) hse h rfl rfl
  obtain ⟨p6, n6, a7⟩ := yw_wl hse 70 [104, 111, 117, 114] 26 0 a6 (by refine ⟨rfl, by decide, rfl, by decide, rfl, by decide, rfl, by decide, rfl⟩)
  have m7 := yw_mt_r (cs := [116, 105, 100, 101]) (w := [5, 4, 9, 20]) hse h rfl rfl
  obtain ⟨p7, n7, a8⟩ := yw_wl hse 65 [116, 105, 100, 101] 31 0 a7 (by refine ⟨rfl, by decide, rfl, by decide, rfl, by decide, rfl, by decide, rfl⟩)
  have m8 := yw_mt_r (cs := [111, 114]) (w := [18, 15]) hse h rfl rfl
  obtain ⟨p8, n8, a9⟩ := yw_wl hse 62 [111, 114] 36 0 a8 (by refine ⟨rfl, by decide, rfl, by decide, rfl⟩)
  have m9 := yw_mt_r (cs := [97, 110, 100]) (w := [4, 14, 1]) hse h rfl rfl
  obtain ⟨p9, n9, a10⟩ := yw_wl hse 58 [97, 110, 100] 39 0 a9 (by refine ⟨rfl, by decide, rfl, by decide, rfl, by decide, rfl⟩)
  have m10 := yw_mt_r (cs := [110, 111, 116]) (w := [20, 15, 14]) hse h rfl rfl
  obtain ⟨p10, n10, a11⟩ := yw_wl hse 54 [110, 111, 116] 43 0 a10 (by refine ⟨rfl, by decide, rfl, by decide, rfl, by decide, rfl⟩)
  have m11 := yw_mt_r (cs := [103, 111]) (w := [15, 7]) hse h rfl rfl
  obtain ⟨p11, n11, a12⟩ := yw_wl hse 51 [103, 111] 47 0 a11 (by refine ⟨rfl, by decide, rfl, by decide, rfl⟩)
  have m12 := yw_mt_r (cs := [115, 101, 97]) (w := [1, 5, 19]) hse h rfl rfl
  obtain ⟨p12, n12, a13⟩ := yw_wl hse 47 [115, 101, 97] 50 0 a12 (by refine ⟨rfl, by decide, rfl, by decide, rfl, by decide, rfl⟩)
  have m13 := yw_mt_r (cs := [114, 111, 99, 107]) (w := [11, 3, 15, 18]) hse h rfl rfl
  obtain ⟨p13, n13, a14⟩ := yw_wl hse 42 [114, 111, 99, 107] 54 0 a13 (by refine ⟨rfl, by decide, rfl, by decide, rfl, by decide, rfl, by decide, rfl⟩)
  have m14 := yw_mt_r (cs := [99, 117, 114, 114, 101, 110, 116]) (w := [20, 14, 5, 18, 18, 21, 3]) hse h rfl rfl
  obtain ⟨p14, n14, a15⟩ := yw_wl hse 34 [99, 117, 114, 114, 101, 110, 116] 59 0 a14 (by refine ⟨rfl, by decide, rfl, by decide, rfl, by decide, rfl, by decide, rfl, by decide, rfl, by decide, rfl, by decide, rfl⟩)
  have m15 := yw_mt_r (cs := [115, 108, 97, 116, 101]) (w := [5, 20, 1, 12, 19]) hse h rfl rfl
  obtain ⟨p15, n15, a16⟩ := yw_wl hse 28 [115, 108, 97, 116, 101] 67 0 a15 (by refine ⟨rfl, by decide, rfl, by decide, rfl, by decide, rfl, by decide, rfl, by decide, rfl⟩)
  have m16 := yw_mt_r (cs := [104, 97, 110, 100]) (w := [4, 14, 1, 8]) hse h rfl rfl
  obtain ⟨p16, n16, a17⟩ := yw_wl hse 23 [104, 97, 110, 100] 73 0 a16 (by refine ⟨rfl, by decide, rfl, by decide, rfl, by decide, rfl, by decide, rfl⟩)
  have m17 := yw_mt_r (cs := [115, 99, 104, 111, 111, 108]) (w := [12, 15, 15, 8, 3, 19]) hse h rfl rfl
  obtain ⟨p17, n17, a18⟩ := yw_wl hse 16 [115, 99, 104, 111, 111, 108] 78 0 a17 (by refine ⟨rfl, by decide, rfl, by decide, rfl, by decide, rfl, by decide, rfl, by decide, rfl, by decide, rfl⟩)
  have m18 := yw_mt_r (cs := [103, 111, 97, 108]) (w := [12, 1, 15, 7]) hse h rfl rfl
  obtain ⟨p18, n18, a19⟩ := yw_wl hse 11 [103, 111, 97, 108] 85 0 a18 (by refine ⟨rfl, by decide, rfl, by decide, rfl, by decide, rfl, by decide, rfl⟩)
  have m19 := yw_mt_r (cs := [112, 105, 108, 111, 116]) (w := [20, 15, 12, 9, 16]) hse h rfl rfl
  obtain ⟨p19, n19, a20⟩ := yw_wl hse 5 [112, 105, 108, 111, 116] 90 0 a19 (by refine ⟨rfl, by decide, rfl, by decide, rfl, by decide, rfl, by decide, rfl, by decide, rfl⟩)
  have m20 := yw_mt_r (cs := [114, 117, 108, 101]) (w := [5, 12, 21, 18]) hse h rfl rfl
  obtain ⟨p20, n20, a21⟩ := yw_wl hse 0 [114, 117, 108, 101] 96 0 a20 (by refine ⟨rfl, by decide, rfl, by decide, rfl, by decide, rfl, by decide, rfl⟩)
  unfold yw_cls
  by_cases h0 : yw_rl T s (e - s) = [8, 20, 18, 15, 14]
  · rw [if_pos h0]
    exact (p0 (m0.mpr h0)).trans (by decide +kernel)
  rw [if_neg h0]
  by_cases h1 : yw_rl T s (e - s) = [20, 19, 1, 5]
  · rw [if_pos h1]
    exact (n0 (fun hz => h0 (m0.mp hz))).trans ((p1 (m1.mpr h1)).trans (by decide +kernel))
  rw [if_neg h1]
  by_cases h2 : yw_rl T s (e - s) = [8, 20, 21, 15, 19]
  · rw [if_pos h2]
    exact (n0 (fun hz => h0 (m0.mp hz))).trans ((n1 (fun hz => h1 (m1.mp hz))).trans ((p2 (m2.mpr h2)).trans (by decide +kernel)))
  rw [if_neg h2]
  by_cases h3 : yw_rl T s (e - s) = [20, 19, 5, 23]
  · rw [if_pos h3]
    exact (n0 (fun hz => h0 (m0.mp hz))).trans ((n1 (fun hz => h1 (m1.mp hz))).trans ((n2 (fun hz => h2 (m2.mp hz))).trans ((p3 (m3.mpr h3)).trans (by decide +kernel))))
  rw [if_neg h3]
  by_cases h4 : yw_rl T s (e - s) = [24]
  · rw [if_pos h4]
    exact (n0 (fun hz => h0 (m0.mp hz))).trans ((n1 (fun hz => h1 (m1.mp hz))).trans ((n2 (fun hz => h2 (m2.mp hz))).trans ((n3 (fun hz => h3 (m3.mp hz))).trans ((p4 (m4.mpr h4)).trans (by decide +kernel)))))
  rw [if_neg h4]
  by_cases h5 : yw_rl T s (e - s) = [25]
  · rw [if_pos h5]
    exact (n0 (fun hz => h0 (m0.mp hz))).trans ((n1 (fun hz => h1 (m1.mp hz))).trans ((n2 (fun hz => h2 (m2.mp hz))).trans ((n3 (fun hz => h3 (m3.mp hz))).trans ((n4 (fun hz => h4 (m4.mp hz))).trans ((p5 (m5.mpr h5)).trans (by decide +kernel))))))
  rw [if_neg h5]
  by_cases h6 : yw_rl T s (e - s) = [18, 21, 15, 8]
  · rw [if_pos h6]
    exact (n0 (fun hz => h0 (m0.mp hz))).trans ((n1 (fun hz => h1 (m1.mp hz))).trans ((n2 (fun hz => h2 (m2.mp hz))).trans ((n3 (fun hz => h3 (m3.mp hz))).trans ((n4 (fun hz => h4 (m4.mp hz))).trans ((n5 (fun hz => h5 (m5.mp hz))).trans ((p6 (m6.mpr h6)).trans (by decide +kernel)))))))
  rw [if_neg h6]
  by_cases h7 : yw_rl T s (e - s) = [5, 4, 9, 20]
  · rw [if_pos h7]
    exact (n0 (fun hz => h0 (m0.mp hz))).trans ((n1 (fun hz => h1 (m1.mp hz))).trans ((n2 (fun hz => h2 (m2.mp hz))).trans ((n3 (fun hz => h3 (m3.mp hz))).trans ((n4 (fun hz => h4 (m4.mp hz))).trans ((n5 (fun hz => h5 (m5.mp hz))).trans ((n6 (fun hz => h6 (m6.mp hz))).trans ((p7 (m7.mpr h7)).trans (by decide +kernel))))))))
  rw [if_neg h7]
  by_cases h8 : yw_rl T s (e - s) = [18, 15]
  · rw [if_pos h8]
    exact (n0 (fun hz => h0 (m0.mp hz))).trans ((n1 (fun hz => h1 (m1.mp hz))).trans ((n2 (fun hz => h2 (m2.mp hz))).trans ((n3 (fun hz => h3 (m3.mp hz))).trans ((n4 (fun hz => h4 (m4.mp hz))).trans ((n5 (fun hz => h5 (m5.mp hz))).trans ((n6 (fun hz => h6 (m6.mp hz))).trans ((n7 (fun hz => h7 (m7.mp hz))).trans ((p8 (m8.mpr h8)).trans (by decide +kernel)))))))))
  rw [if_neg h8]
  by_cases h9 : yw_rl T s (e - s) = [4, 14, 1]
  · rw [if_pos h9]
    exact (n0 (fun hz => h0 (m0.mp hz))).trans ((n1 (fun hz => h1 (m1.mp hz))).trans ((n2 (fun hz => h2 (m2.mp hz))).trans ((n3 (fun hz => h3 (m3.mp hz))).trans ((n4 (fun hz => h4 (m4.mp hz))).trans ((n5 (fun hz => h5 (m5.mp hz))).trans ((n6 (fun hz => h6 (m6.mp hz))).trans ((n7 (fun hz => h7 (m7.mp hz))).trans ((n8 (fun hz => h8 (m8.mp hz))).trans ((p9 (m9.mpr h9)).trans (by decide +kernel))))))))))
  rw [if_neg h9]
  by_cases h10 : yw_rl T s (e - s) = [20, 15, 14]
  · rw [if_pos h10]
    exact (n0 (fun hz => h0 (m0.mp hz))).trans ((n1 (fun hz => h1 (m1.mp hz))).trans ((n2 (fun hz => h2 (m2.mp hz))).trans ((n3 (fun hz => h3 (m3.mp hz))).trans ((n4 (fun hz => h4 (m4.mp hz))).trans ((n5 (fun hz => h5 (m5.mp hz))).trans ((n6 (fun hz => h6 (m6.mp hz))).trans ((n7 (fun hz => h7 (m7.mp hz))).trans ((n8 (fun hz => h8 (m8.mp hz))).trans ((n9 (fun hz => h9 (m9.mp hz))).trans ((p10 (m10.mpr h10)).trans (by decide +kernel)))))))))))
  rw [if_neg h10]
  by_cases h11 : yw_rl T s (e - s) = [15, 7]
  · rw [if_pos h11]
    exact (n0 (fun hz => h0 (m0.mp hz))).trans ((n1 (fun hz => h1 (m1.mp hz))).trans ((n2 (fun hz => h2 (m2.mp hz))).trans ((n3 (fun hz => h3 (m3.mp hz))).trans ((n4 (fun hz => h4 (m4.mp hz))).trans ((n5 (fun hz => h5 (m5.mp hz))).trans ((n6 (fun hz => h6 (m6.mp hz))).trans ((n7 (fun hz => h7 (m7.mp hz))).trans ((n8 (fun hz => h8 (m8.mp hz))).trans ((n9 (fun hz => h9 (m9.mp hz))).trans ((n10 (fun hz => h10 (m10.mp hz))).trans ((p11 (m11.mpr h11)).trans (by decide +kernel))))))))))))
  rw [if_neg h11]
  by_cases h12 : yw_rl T s (e - s) = [1, 5, 19]
  · rw [if_pos h12]
    exact (n0 (fun hz => h0 (m0.mp hz))).trans ((n1 (fun hz => h1 (m1.mp hz))).trans ((n2 (fun hz => h2 (m2.mp hz))).trans ((n3 (fun hz => h3 (m3.mp hz))).trans ((n4 (fun hz => h4 (m4.mp hz))).trans ((n5 (fun hz => h5 (m5.mp hz))).trans ((n6 (fun hz => h6 (m6.mp hz))).trans ((n7 (fun hz => h7 (m7.mp hz))).trans ((n8 (fun hz => h8 (m8.mp hz))).trans ((n9 (fun hz => h9 (m9.mp hz))).trans ((n10 (fun hz => h10 (m10.mp hz))).trans ((n11 (fun hz => h11 (m11.mp hz))).trans ((p12 (m12.mpr h12)).trans (by decide +kernel)))))))))))))
  rw [if_neg h12]
  by_cases h13 : yw_rl T s (e - s) = [11, 3, 15, 18]
  · rw [if_pos h13]
    exact (n0 (fun hz => h0 (m0.mp hz))).trans ((n1 (fun hz => h1 (m1.mp hz))).trans ((n2 (fun hz => h2 (m2.mp hz))).trans ((n3 (fun hz => h3 (m3.mp hz))).trans ((n4 (fun hz => h4 (m4.mp hz))).trans ((n5 (fun hz => h5 (m5.mp hz))).trans ((n6 (fun hz => h6 (m6.mp hz))).trans ((n7 (fun hz => h7 (m7.mp hz))).trans ((n8 (fun hz => h8 (m8.mp hz))).trans ((n9 (fun hz => h9 (m9.mp hz))).trans ((n10 (fun hz => h10 (m10.mp hz))).trans ((n11 (fun hz => h11 (m11.mp hz))).trans ((n12 (fun hz => h12 (m12.mp hz))).trans ((p13 (m13.mpr h13)).trans (by decide +kernel))))))))))))))
  rw [if_neg h13]
  by_cases h14 : yw_rl T s (e - s) = [20, 14, 5, 18, 18, 21, 3]
  · rw [if_pos h14]
    exact (n0 (fun hz => h0 (m0.mp hz))).trans ((n1 (fun hz => h1 (m1.mp hz))).trans ((n2 (fun hz => h2 (m2.mp hz))).trans ((n3 (fun hz => h3 (m3.mp hz))).trans ((n4 (fun hz => h4 (m4.mp hz))).trans ((n5 (fun hz => h5 (m5.mp hz))).trans ((n6 (fun hz => h6 (m6.mp hz))).trans ((n7 (fun hz => h7 (m7.mp hz))).trans ((n8 (fun hz => h8 (m8.mp hz))).trans ((n9 (fun hz => h9 (m9.mp hz))).trans ((n10 (fun hz => h10 (m10.mp hz))).trans ((n11 (fun hz => h11 (m11.mp hz))).trans ((n12 (fun hz => h12 (m12.mp hz))).trans ((n13 (fun hz => h13 (m13.mp hz))).trans ((p14 (m14.mpr h14)).trans (by decide +kernel)))))))))))))))
  rw [if_neg h14]
  by_cases h15 : yw_rl T s (e - s) = [5, 20, 1, 12, 19]
  · rw [if_pos h15]
    exact (n0 (fun hz => h0 (m0.mp hz))).trans ((n1 (fun hz => h1 (m1.mp hz))).trans ((n2 (fun hz => h2 (m2.mp hz))).trans ((n3 (fun hz => h3 (m3.mp hz))).trans ((n4 (fun hz => h4 (m4.mp hz))).trans ((n5 (fun hz => h5 (m5.mp hz))).trans ((n6 (fun hz => h6 (m6.mp hz))).trans ((n7 (fun hz => h7 (m7.mp hz))).trans ((n8 (fun hz => h8 (m8.mp hz))).trans ((n9 (fun hz => h9 (m9.mp hz))).trans ((n10 (fun hz => h10 (m10.mp hz))).trans ((n11 (fun hz => h11 (m11.mp hz))).trans ((n12 (fun hz => h12 (m12.mp hz))).trans ((n13 (fun hz => h13 (m13.mp hz))).trans ((n14 (fun hz => h14 (m14.mp hz))).trans ((p15 (m15.mpr h15)).trans (by decide +kernel))))))))))))))))
  rw [if_neg h15]
  by_cases h16 : yw_rl T s (e - s) = [4, 14, 1, 8]
  · rw [if_pos h16]
    exact (n0 (fun hz => h0 (m0.mp hz))).trans ((n1 (fun hz => h1 (m1.mp hz))).trans ((n2 (fun hz => h2 (m2.mp hz))).trans ((n3 (fun hz => h3 (m3.mp hz))).trans ((n4 (fun hz => h4 (m4.mp hz))).trans ((n5 (fun hz => h5 (m5.mp hz))).trans ((n6 (fun hz => h6 (m6.mp hz))).trans ((n7 (fun hz => h7 (m7.mp hz))).trans ((n8 (fun hz => h8 (m8.mp hz))).trans ((n9 (fun hz => h9 (m9.mp hz))).trans ((n10 (fun hz => h10 (m10.mp hz))).trans ((n11 (fun hz => h11 (m11.mp hz))).trans ((n12 (fun hz => h12 (m12.mp hz))).trans ((n13 (fun hz => h13 (m13.mp hz))).trans ((n14 (fun hz => h14 (m14.mp hz))).trans ((n15 (fun hz => h15 (m15.mp hz))).trans ((p16 (m16.mpr h16)).trans (by decide +kernel)))))))))))))))))
  rw [if_neg h16]
  by_cases h17 : yw_rl T s (e - s) = [12, 15, 15, 8, 3, 19]
  · rw [if_pos h17]
    exact (n0 (fun hz => h0 (m0.mp hz))).trans ((n1 (fun hz => h1 (m1.mp hz))).trans ((n2 (fun hz => h2 (m2.mp hz))).trans ((n3 (fun hz => h3 (m3.mp hz))).trans ((n4 (fun hz => h4 (m4.mp hz))).trans ((n5 (fun hz => h5 (m5.mp hz))).trans ((n6 (fun hz => h6 (m6.mp hz))).trans ((n7 (fun hz => h7 (m7.mp hz))).trans ((n8 (fun hz => h8 (m8.mp hz))).trans ((n9 (fun hz => h9 (m9.mp hz))).trans ((n10 (fun hz => h10 (m10.mp hz))).trans ((n11 (fun hz => h11 (m11.mp hz))).trans ((n12 (fun hz => h12 (m12.mp hz))).trans ((n13 (fun hz => h13 (m13.mp hz))).trans ((n14 (fun hz => h14 (m14.mp hz))).trans ((n15 (fun hz => h15 (m15.mp hz))).trans ((n16 (fun hz => h16 (m16.mp hz))).trans ((p17 (m17.mpr h17)).trans (by decide +kernel))))))))))))))))))
  rw [if_neg h17]
  by_cases h18 : yw_rl T s (e - s) = [12, 1, 15, 7]
  · rw [if_pos h18]
    exact (n0 (fun hz => h0 (m0.mp hz))).trans ((n1 (fun hz => h1 (m1.mp hz))).trans ((n2 (fun hz => h2 (m2.mp hz))).trans ((n3 (fun hz => h3 (m3.mp hz))).trans ((n4 (fun hz => h4 (m4.mp hz))).trans ((n5 (fun hz => h5 (m5.mp hz))).trans ((n6 (fun hz => h6 (m6.mp hz))).trans ((n7 (fun hz => h7 (m7.mp hz))).trans ((n8 (fun hz => h8 (m8.mp hz))).trans ((n9 (fun hz => h9 (m9.mp hz))).trans ((n10 (fun hz => h10 (m10.mp hz))).trans ((n11 (fun hz => h11 (m11.mp hz))).trans ((n12 (fun hz => h12 (m12.mp hz))).trans ((n13 (fun hz => h13 (m13.mp hz))).trans ((n14 (fun hz => h14 (m14.mp hz))).trans ((n15 (fun hz => h15 (m15.mp hz))).trans ((n16 (fun hz => h16 (m16.mp hz))).trans ((n17 (fun hz => h17 (m17.mp hz))).trans ((p18 (m18.mpr h18)).trans (by decide +kernel)))))))))))))))))))
  rw [if_neg h18]
  by_cases h19 : yw_rl T s (e - s) = [20, 15, 12, 9, 16]
  · rw [if_pos h19]
    exact (n0 (fun hz => h0 (m0.mp hz))).trans ((n1 (fun hz => h1 (m1.mp hz))).trans ((n2 (fun hz => h2 (m2.mp hz))).trans ((n3 (fun hz => h3 (m3.mp hz))).trans ((n4 (fun hz => h4 (m4.mp hz))).trans ((n5 (fun hz => h5 (m5.mp hz))).trans ((n6 (fun hz => h6 (m6.mp hz))).trans ((n7 (fun hz => h7 (m7.mp hz))).trans ((n8 (fun hz => h8 (m8.mp hz))).trans ((n9 (fun hz => h9 (m9.mp hz))).trans ((n10 (fun hz => h10 (m10.mp hz))).trans ((n11 (fun hz => h11 (m11.mp hz))).trans ((n12 (fun hz => h12 (m12.mp hz))).trans ((n13 (fun hz => h13 (m13.mp hz))).trans ((n14 (fun hz => h14 (m14.mp hz))).trans ((n15 (fun hz => h15 (m15.mp hz))).trans ((n16 (fun hz => h16 (m16.mp hz))).trans ((n17 (fun hz => h17 (m17.mp hz))).trans ((n18 (fun hz => h18 (m18.mp hz))).trans ((p19 (m19.mpr h19)).trans (by decide +kernel))))))))))))))))))))
  rw [if_neg h19]
  by_cases h20 : yw_rl T s (e - s) = [5, 12, 21, 18]
  · rw [if_pos h20]
    exact (n0 (fun hz => h0 (m0.mp hz))).trans ((n1 (fun hz => h1 (m1.mp hz))).trans ((n2 (fun hz => h2 (m2.mp hz))).trans ((n3 (fun hz => h3 (m3.mp hz))).trans ((n4 (fun hz => h4 (m4.mp hz))).trans ((n5 (fun hz => h5 (m5.mp hz))).trans ((n6 (fun hz => h6 (m6.mp hz))).trans ((n7 (fun hz => h7 (m7.mp hz))).trans ((n8 (fun hz => h8 (m8.mp hz))).trans ((n9 (fun hz => h9 (m9.mp hz))).trans ((n10 (fun hz => h10 (m10.mp hz))).trans ((n11 (fun hz => h11 (m11.mp hz))).trans ((n12 (fun hz => h12 (m12.mp hz))).trans ((n13 (fun hz => h13 (m13.mp hz))).trans ((n14 (fun hz => h14 (m14.mp hz))).trans ((n15 (fun hz => h15 (m15.mp hz))).trans ((n16 (fun hz => h16 (m16.mp hz))).trans ((n17 (fun hz => h17 (m17.mp hz))).trans ((n18 (fun hz => h18 (m18.mp hz))).trans ((n19 (fun hz => h19 (m19.mp hz))).trans ((p20 (m20.mpr h20)).trans (by decide +kernel)))))))))))))))))))))
  rw [if_neg h20]
  exact (n0 (fun hz => h0 (m0.mp hz))).trans ((n1 (fun hz => h1 (m1.mp hz))).trans ((n2 (fun hz => h2 (m2.mp hz))).trans ((n3 (fun hz => h3 (m3.mp hz))).trans ((n4 (fun hz => h4 (m4.mp hz))).trans ((n5 (fun hz => h5 (m5.mp hz))).trans ((n6 (fun hz => h6 (m6.mp hz))).trans ((n7 (fun hz => h7 (m7.mp hz))).trans ((n8 (fun hz => h8 (m8.mp hz))).trans ((n9 (fun hz => h9 (m9.mp hz))).trans ((n10 (fun hz => h10 (m10.mp hz))).trans ((n11 (fun hz => h11 (m11.mp hz))).trans ((n12 (fun hz => h12 (m12.mp hz))).trans ((n13 (fun hz => h13 (m13.mp hz))).trans ((n14 (fun hz => h14 (m14.mp hz))).trans ((n15 (fun hz => h15 (m15.mp hz))).trans ((n16 (fun hz => h16 (m16.mp hz))).trans ((n17 (fun hz => h17 (m17.mp hz))).trans ((n18 (fun hz => h18 (m18.mp hz))).trans ((n19 (fun hz => h19 (m19.mp hz))).trans ((n20 (fun hz => h20 (m20.mp hz))).trans (show zq_sp 101 = 21 from by decide +kernel)))))))))))))))))))))
