/-! ===== the class: sea, exactly ===== -/

/-- what sea of the class leaves: the answer, where the fault stands, refused texts, whether there is an image -/
def ywp (c : Nat) : Nat := if c < 2 then 2 else 22
def ycp (c : Nat) : Nat := if c % 2 = 0 then 13 else 33
/-- the waters, the chalk and its image stay as they are -/
def ykb (c p : Nat) : Bool := ((Nat.ble (ywp c) p).and (Nat.ble p (ywp c + 10))).or (((Nat.ble (ycp c) p).and (Nat.ble p (ycp c + 8))).or ((Nat.ble 42 p).and (Nat.ble p 50)))
def yKp (c : Nat) (H0 H1 : zp_H) : Prop := ∀ p k, ykb c p = true → H1.2.1 p k = H0.2.1 p k ∧ H1.2.2.1 p k = H0.2.2.1 p k
theorem ykb_0 {c p : Nat} (h : ykb c p = true) : p ≠ 0 ∧ p ≤ 50 := by
  have hw : ywp c = 2 ∨ ywp c = 22 := by unfold ywp; split <;> simp
  have hc : ycp c = 13 ∨ ycp c = 33 := by unfold ycp; split <;> simp
  rcases Bool.or_eq_true_iff.mp h with h | h
  · obtain ⟨a, b⟩ := Bool.and_eq_true_iff.mp h
    have a := Nat.le_of_ble_eq_true a
    have b := Nat.le_of_ble_eq_true b
    omega
  rcases Bool.or_eq_true_iff.mp h with h | h
  · obtain ⟨a, b⟩ := Bool.and_eq_true_iff.mp h
    have a := Nat.le_of_ble_eq_true a
    have b := Nat.le_of_ble_eq_true b
    omega
  · obtain ⟨a, b⟩ := Bool.and_eq_true_iff.mp h
    have a := Nat.le_of_ble_eq_true a
    have b := Nat.le_of_ble_eq_true b
    omega
theorem yKp_I {c k : Nat} {x : Int32} {H0 H1 : zp_H} (h : yKp c H0 H1) : yKp c H0 (zw_I H1 0 k x) := fun p j hp => ⟨(y_ne (fun h9 => (ykb_0 hp).1 h9.1)).trans (h p j hp).1, (h p j hp).2⟩
theorem yKp_0 {c k : Nat} {x : Int32} {H0 H1 : zp_H} (h : yKp c (zw_I H0 0 k x) H1) : yKp c H0 H1 := fun p j hp => ⟨(h p j hp).1.trans (y_ne (fun h9 => (ykb_0 hp).1 h9.1)), (h p j hp).2⟩
theorem yKp_F {c : Nat} {mods : List (Nat × Nat)} {am : List Nat} {H H1 : zp_H} (h : zk_Fr zg mods am H H1) (hm : mods.all (fun q => (ykb c q.1).not) = true) (ha : am.all (fun q => (ykb c q).not) = true) : yKp c H H1 := fun p k hp => zI_in h (zI_nm (P := fun q => (ykb c q.1).not) hm (by show (ykb c p).not = false; rw [hp]; rfl)) (zI_na (P := fun q => (ykb c q).not) ha (by show (ykb c p).not = false; rw [hp]; rfl)) (fun h9 => by have := (ykb_0 hp).2; omega)
/-- whose the references are -/
def yCf (c : Nat) (H : zp_H) : Prop := H.2.2.2 0 5 = some (ywp c + 1) ∧ H.2.2.2 0 6 = some (ycp c + 1)
def ysc_P (c : Nat) (T : Nat → Int) (n : Nat) (H0 : zp_H) (X : zp_X) : Prop := ∃ (v : Int32) (H1 : zp_H), X = (.inl (some (.inl v)), H1) ∧ ∃ r : Int × Nat, yA2 T n y00 r ∧ v.toInt = r.1 ∧ (r.1 = 0 → (H1.2.1 0 2).toInt = -1 ∧ (H1.2.1 0 10).toInt = 0 ∧ H1.2.1 0 3 = H0.2.1 0 3 ∧ yCf (3 - c) H1 ∧ H1.2.1 0 4 = H0.2.1 0 4 ∧ ((c = 0 ∨ c = 3) → (H1.2.1 (ycp (3 - c)) 7).toInt = 0) ∧ ∃ d q, yR2 T n y00 (0, [], 0, 0, 0, d, q) ∧ ys_kd T n q = 0 ∧ yDd (ywp (3 - c)) (ycp (3 - c)) d H1) ∧ (r.1 ≠ 0 → (H1.2.1 0 2).toInt = ys_st T n r.2 ∧ H1.2.1 0 10 = H0.2.1 0 10 ∧ H1.2.1 0 3 = H0.2.1 0 3 + Int32.ofInt 1 ∧ yKp c H0 H1 ∧ yCf c H1 ∧ H1.2.1 0 4 = H0.2.1 0 4)

set_option maxRecDepth 8000 in
theorem ysc_y0 {L : Nat} {σ : Nat → Int32} {d : Nat} {T : Nat → Int} {n : Nat} {H : zp_H} {x : Int32} (hB : zk_Bs (zB_c 0) zg zJc H) (hn : n ≤ 700) (hxn : x.toInt = n) (hT : ∀ k, k < n → (H.2.1 1 k).toInt = T k) (hx : 0 ≤ x.toInt ∧ x.toInt ≤ (H.2.1 0 1).toInt) : ∃ X, zp_Call L σ (d + 67) 49 [.inr (.inr (some 1)), .inl x] H X ∧ ysc_P 0 T n H X := by
  have hb := zB_Bc hB
  have W := zB_Wd (zB_dn hb)
  have g5 : H.2.2.2 0 5 = some 3 := hB.2.1 0 5 _ rfl
  have g6 : H.2.2.2 0 6 = some 14 := hB.2.1 0 6 _ rfl
  have g7 : H.2.2.2 0 7 = some 23 := hB.2.1 0 7 _ rfl
  have g8 : H.2.2.2 0 8 = some 34 := hB.2.1 0 8 _ rfl
  have b0 : zk_Bs zB zg zJc (zw_I H 0 1 (Int32.ofInt 0)) := zB_up (zB_putf (p := 0) (k := 1) (x := Int32.ofInt 0) (zB_dn hb) rfl (fun r hr => by cases hr; decide) (zJc_I rfl hb.2.2.2.2.2.2.2)) (by
    rw [show (zw_I H 0 1 (Int32.ofInt 0)).2.1 52 4 = H.2.1 52 4 from zw_ne rfl rfl, show (zw_I H 0 1 (Int32.ofInt 0)).2.1 52 5 = H.2.1 52 5 from zw_ne rfl rfl]
    exact zB_cn hb)
  obtain ⟨X9, c1, c2, c3, _⟩ := zc_e74 (L := L) (σ := σ) zB_W zh_all (d + 48) (by show 48 ≤ d + 48; omega) [.inr (.inr (some 52)), .inl x, .inr (.inr (some 23)), .inr (.inr (some 34))] (zw_I H 0 1 (Int32.ofInt 0)) ⟨rfl, ⟨by show (0 : Int) ≤ _; omega, by show _ ≤ (700 : Int); omega⟩, rfl, rfl, trivial⟩ b0 (fun f hf => absurd hf List.not_mem_nil)
  obtain ⟨X7, q1, q2, q3, o, o1, -, o3, -⟩ := zc_xq0 (L := L) (σ := σ) zB_W zh_all (d + 48) (by show 48 ≤ d + 48; omega) [.inr (.inr (some 52)), .inl x, .inr (.inr (some 23)), .inr (.inr (some 34))] (zw_I H 0 1 (Int32.ofInt 0)) ⟨rfl, ⟨by show (0 : Int) ≤ _; omega, by show _ ≤ (700 : Int); omega⟩, rfl, rfl, trivial⟩ b0 (fun f hf => absurd hf List.not_mem_nil)
  obtain rfl := zp_Call_u c1 q1
  have e7 : (X9.2.2.1 33 7).toInt = 0 := by
    have a : 0 ≤ (X9.2.2.1 33 7).toInt ∧ (X9.2.2.1 33 7).toInt ≤ 0 := by
      rcases List.mem_cons.mp o1 with rfl | o1
      · exact o3 (33, 7, 0, 0) List.mem_cons_self
      · rcases List.mem_cons.mp o1 with rfl | o1
        · exact o3 (33, 7, 0, 0) List.mem_cons_self
        · exact absurd o1 List.not_mem_nil
    omega
  obtain ⟨X8, y1, v, H1, rfl, y2⟩ := yc_read22_33 (L := L) (σ := σ) (d := d) (T := T) (n := n) b0 hn hxn (fun k hk => (congrArg Int32.toInt (zw_ne rfl rfl)).trans (hT k hk))
  obtain rfl := zp_Call_u y1 c1
  have W1 := zB_Wd (zB_dn c2)
  have hr1 : H1.2.2.2 = H.2.2.2 := c3.1
  have e10 : H1.2.1 0 10 = H.2.1 0 10 := (zI_in c3 (p := 0) (k := 10) rfl rfl (by decide)).1.trans (zw_ne rfl rfl)
  have e3 : H1.2.1 0 3 = H.2.1 0 3 := (zI_in c3 (p := 0) (k := 3) rfl rfl (by decide)).1.trans (zw_ne rfl rfl)
  have e4 : H1.2.1 0 4 = H.2.1 0 4 := (zI_in c3 (p := 0) (k := 4) rfl rfl (by decide)).1.trans (zw_ne rfl rfl)
  refine zw_met zm_49_t rfl rfl ?_
  refine zw_ld (n := 1) (k := 1) (f := zp_isI) (pc' := 1) rfl rfl rfl rfl rfl ?_
  refine zw_blt1 (g := 12) (pc' := 4) rfl rfl rfl rfl (fun hb0 => ?_) (fun hb0 => ?_)
  · omega
  · refine zw_ld (n := 1) (k := 1) (f := zp_isI) (pc' := 5) rfl rfl rfl rfl rfl ?_
    refine zw_ld (n := 1) (k := 0) (f := zp_isR) (pc' := 6) rfl rfl rfl rfl rfl ?_
    refine zw_gI (q := 0) (pc' := 9) W rfl rfl rfl rfl rfl rfl ?_
    refine zw_ble2 (g := 22) (pc' := 12) rfl rfl rfl rfl rfl (fun hb1 => ?_) (fun hb1 => ?_)
    · refine zw_ld (n := 1) (k := 0) (f := zp_isR) (pc' := 23) rfl rfl rfl rfl rfl ?_
      refine zw_s (pc' := 24) rfl rfl ?_
      refine zw_pI (q := 0) (pc' := 27) W rfl rfl rfl rfl rfl rfl ?_
      refine zw_ld (n := 1) (k := 0) (f := zp_isR) (pc' := 28) rfl rfl rfl rfl rfl ?_
      refine zw_gR (q := 0) (pc' := 31) (zw_W_I W) rfl rfl rfl rfl ((zw_W_I W).2 0 11 _ rfl) rfl ?_
      refine zw_ld (n := 1) (k := 1) (f := zp_isI) (pc' := 32) rfl rfl rfl rfl rfl ?_
      refine zw_ld (n := 1) (k := 0) (f := zp_isR) (pc' := 33) rfl rfl rfl rfl rfl ?_
      refine zw_gR (q := 0) (pc' := 36) (zw_W_I W) rfl rfl rfl rfl g7 rfl ?_
      refine zw_ld (n := 1) (k := 0) (f := zp_isR) (pc' := 37) rfl rfl rfl rfl rfl ?_
      refine zw_gR (q := 0) (pc' := 40) (zw_W_I W) rfl rfl rfl rfl g8 rfl ?_
      refine zw_c (pc' := 43) (zw_cv (q := 51) (Y := zm_50) (zw_W_I W).1 rfl rfl zm_50_t rfl rfl) rfl rfl rfl rfl rfl (y1) ?_
      refine zw_bne1 (g := 75) (pc' := 46) rfl rfl rfl rfl (fun hv => ?_) (fun hv => ?_)
      · refine zw_ld (n := 1) (k := 0) (f := zp_isR) (pc' := 76) rfl rfl rfl rfl rfl ?_
        refine zw_cn (pc' := 79) (zw_cv (q := 0) (Y := zm_98) W1.1 rfl rfl zm_98_t rfl rfl) rfl rfl rfl rfl rfl (zsc_tn0 W1 (by rw [hr1]; exact g5) (by rw [hr1]; exact g6) (by rw [hr1]; exact g7) (by rw [hr1]; exact g8)) ?_
        refine zw_s (pc' := 80) rfl rfl ?_
        refine zw_ri rfl rfl ?_
        rcases y2 with ⟨_, q9, d9, k4, k5, k6, k7⟩ | ⟨k1, _⟩
        · refine ⟨_, _, rfl, (0, q9), k4, rfl, fun _ => ⟨?_, ?_, ?_, ⟨rfl, rfl⟩, (zw_ne (zw_ne (zw_ne rfl rfl) rfl) rfl).trans e4, fun _ => (congrArg Int32.toInt (zw_ne (zw_ne (zw_ne rfl rfl) rfl) rfl)).trans e7, d9, q9, k5, k6, ?_⟩, fun h9 => absurd rfl h9⟩
          · exact congrArg Int32.toInt (zw_ne (zw_ne zw_eq rfl) rfl)
          · exact congrArg Int32.toInt (zw_ne zw_eq rfl)
          · exact (zw_ne (zw_ne (zw_ne rfl rfl) rfl) rfl).trans e3
          · exact ⟨yDc_c (H := H1) (List.forall_mem_cons.mpr ⟨rfl, List.forall_mem_cons.mpr ⟨rfl, List.forall_mem_cons.mpr ⟨rfl, List.forall_mem_cons.mpr ⟨rfl, List.forall_mem_cons.mpr ⟨rfl, List.forall_mem_cons.mpr ⟨rfl, List.forall_mem_cons.mpr ⟨rfl, List.forall_mem_cons.mpr ⟨rfl, fun _ h => absurd h List.not_mem_nil⟩⟩⟩⟩⟩⟩⟩⟩) rfl rfl rfl k7.1, fun i i1 i2 i3 => (yXd_o (p := 60) (k := 11) (x := Int32.ofInt 0) (by decide) (yXd_o (p := 0) (k := 10) (x := Int32.ofInt 0) (by decide) (yXd_o (p := 0) (k := 2) (x := Int32.ofInt (-1)) (by decide) k7.2))) i i1 i2 i3⟩
        · omega
      · refine zw_ld (n := 1) (k := 0) (f := zp_isR) (pc' := 47) rfl rfl rfl rfl rfl ?_
        refine zw_ld (n := 1) (k := 0) (f := zp_isR) (pc' := 48) rfl rfl rfl rfl rfl ?_
        refine zw_gR (q := 0) (pc' := 51) W1 rfl rfl rfl rfl (W1.2 0 11 _ rfl) rfl ?_
        refine zw_gI (q := 51) (pc' := 54) W1 rfl rfl rfl rfl rfl rfl ?_
        refine zw_pI (q := 0) (pc' := 57) W1 rfl rfl rfl rfl rfl rfl ?_
        refine zw_ld (n := 1) (k := 0) (f := zp_isR) (pc' := 58) rfl rfl rfl rfl rfl ?_
        refine zw_s (pc' := 59) rfl rfl ?_
        refine zw_gI (q := 0) (pc' := 62) (zw_W_I W1) rfl rfl rfl rfl (zw_ne rfl rfl) rfl ?_
        refine zw_s (pc' := 63) rfl rfl ?_
        refine zw_iadd (pc' := 64) rfl rfl ?_
        refine zw_pI (q := 0) (pc' := 67) (zw_W_I W1) rfl rfl rfl rfl rfl rfl ?_
        refine zw_ld (n := 1) (k := 0) (f := zp_isR) (pc' := 68) rfl rfl rfl rfl rfl ?_
        refine zw_gR (q := 0) (pc' := 71) (zw_W_I (zw_W_I W1)) rfl rfl rfl rfl ((zw_W_I (zw_W_I W1)).2 0 11 _ rfl) rfl ?_
        refine zw_gI (q := 51) (pc' := 74) (zw_W_I (zw_W_I W1)) rfl rfl rfl rfl (zw_ne (zw_ne rfl rfl) rfl) rfl ?_
        refine zw_ri rfl rfl ?_
        rcases y2 with ⟨k1, _⟩ | ⟨_, r, k3, k4, k5⟩
        · omega
        · refine ⟨_, _, rfl, r, k4, ?_, fun h9 => ?_, fun _ => ⟨?_, ?_, ?_, ?_, ⟨by show H1.2.2.2 0 5 = _; rw [hr1]; exact g5, by show H1.2.2.2 0 6 = _; rw [hr1]; exact g6⟩, (zw_ne (zw_ne rfl rfl) rfl).trans e4⟩⟩
          · exact k3.1
          · omega
          · exact (congrArg Int32.toInt (zw_ne zw_eq rfl)).trans k3.2
          · exact (zw_ne (zw_ne rfl rfl) rfl).trans e10
          · exact zw_eq.trans (by rw [e3])
          · exact yKp_I (yKp_I (yKp_0 (yKp_F c3 (by decide +kernel) (by decide +kernel))))
    · omega

set_option maxRecDepth 8000 in
theorem ysc_y1 {L : Nat} {σ : Nat → Int32} {d : Nat} {T : Nat → Int} {n : Nat} {H : zp_H} {x : Int32} (hB : zk_Bs (zB_c 1) zg zJc H) (hn : n ≤ 700) (hxn : x.toInt = n) (hT : ∀ k, k < n → (H.2.1 1 k).toInt = T k) (hx : 0 ≤ x.toInt ∧ x.toInt ≤ (H.2.1 0 1).toInt) : ∃ X, zp_Call L σ (d + 67) 49 [.inr (.inr (some 1)), .inl x] H X ∧ ysc_P 1 T n H X := by
  have hb := zB_Bc hB
  have W := zB_Wd (zB_dn hb)
  have g5 : H.2.2.2 0 5 = some 3 := hB.2.1 0 5 _ rfl
  have g6 : H.2.2.2 0 6 = some 34 := hB.2.1 0 6 _ rfl
  have g7 : H.2.2.2 0 7 = some 23 := hB.2.1 0 7 _ rfl
  have g8 : H.2.2.2 0 8 = some 14 := hB.2.1 0 8 _ rfl
  have b0 : zk_Bs zB zg zJc (zw_I H 0 1 (Int32.ofInt 0)) := zB_up (zB_putf (p := 0) (k := 1) (x := Int32.ofInt 0) (zB_dn hb) rfl (fun r hr => by cases hr; decide) (zJc_I rfl hb.2.2.2.2.2.2.2)) (by
    rw [show (zw_I H 0 1 (Int32.ofInt 0)).2.1 52 4 = H.2.1 52 4 from zw_ne rfl rfl, show (zw_I H 0 1 (Int32.ofInt 0)).2.1 52 5 = H.2.1 52 5 from zw_ne rfl rfl]
    exact zB_cn hb)
  obtain ⟨X9, c1, c2, c3, _⟩ := zc_e85 (L := L) (σ := σ) zB_W zh_all (d + 48) (by show 48 ≤ d + 48; omega) [.inr (.inr (some 52)), .inl x, .inr (.inr (some 23)), .inr (.inr (some 14))] (zw_I H 0 1 (Int32.ofInt 0)) ⟨rfl, ⟨by show (0 : Int) ≤ _; omega, by show _ ≤ (700 : Int); omega⟩, rfl, rfl, trivial⟩ b0 (fun f hf => absurd hf List.not_mem_nil)
  obtain ⟨X8, y1, v, H1, rfl, y2⟩ := yc_read22_13 (L := L) (σ := σ) (d := d) (T := T) (n := n) b0 hn hxn (fun k hk => (congrArg Int32.toInt (zw_ne rfl rfl)).trans (hT k hk))
  obtain rfl := zp_Call_u y1 c1
  have W1 := zB_Wd (zB_dn c2)
  have hr1 : H1.2.2.2 = H.2.2.2 := c3.1
  have e10 : H1.2.1 0 10 = H.2.1 0 10 := (zI_in c3 (p := 0) (k := 10) rfl rfl (by decide)).1.trans (zw_ne rfl rfl)
  have e3 : H1.2.1 0 3 = H.2.1 0 3 := (zI_in c3 (p := 0) (k := 3) rfl rfl (by decide)).1.trans (zw_ne rfl rfl)
  have e4 : H1.2.1 0 4 = H.2.1 0 4 := (zI_in c3 (p := 0) (k := 4) rfl rfl (by decide)).1.trans (zw_ne rfl rfl)
  refine zw_met zm_49_t rfl rfl ?_
  refine zw_ld (n := 1) (k := 1) (f := zp_isI) (pc' := 1) rfl rfl rfl rfl rfl ?_
  refine zw_blt1 (g := 12) (pc' := 4) rfl rfl rfl rfl (fun hb0 => ?_) (fun hb0 => ?_)
  · omega
  · refine zw_ld (n := 1) (k := 1) (f := zp_isI) (pc' := 5) rfl rfl rfl rfl rfl ?_
    refine zw_ld (n := 1) (k := 0) (f := zp_isR) (pc' := 6) rfl rfl rfl rfl rfl ?_
    refine zw_gI (q := 0) (pc' := 9) W rfl rfl rfl rfl rfl rfl ?_
    refine zw_ble2 (g := 22) (pc' := 12) rfl rfl rfl rfl rfl (fun hb1 => ?_) (fun hb1 => ?_)
    · refine zw_ld (n := 1) (k := 0) (f := zp_isR) (pc' := 23) rfl rfl rfl rfl rfl ?_
      refine zw_s (pc' := 24) rfl rfl ?_
      refine zw_pI (q := 0) (pc' := 27) W rfl rfl rfl rfl rfl rfl ?_
      refine zw_ld (n := 1) (k := 0) (f := zp_isR) (pc' := 28) rfl rfl rfl rfl rfl ?_
      refine zw_gR (q := 0) (pc' := 31) (zw_W_I W) rfl rfl rfl rfl ((zw_W_I W).2 0 11 _ rfl) rfl ?_
      refine zw_ld (n := 1) (k := 1) (f := zp_isI) (pc' := 32) rfl rfl rfl rfl rfl ?_
      refine zw_ld (n := 1) (k := 0) (f := zp_isR) (pc' := 33) rfl rfl rfl rfl rfl ?_
      refine zw_gR (q := 0) (pc' := 36) (zw_W_I W) rfl rfl rfl rfl g7 rfl ?_
      refine zw_ld (n := 1) (k := 0) (f := zp_isR) (pc' := 37) rfl rfl rfl rfl rfl ?_
      refine zw_gR (q := 0) (pc' := 40) (zw_W_I W) rfl rfl rfl rfl g8 rfl ?_
      refine zw_c (pc' := 43) (zw_cv (q := 51) (Y := zm_50) (zw_W_I W).1 rfl rfl zm_50_t rfl rfl) rfl rfl rfl rfl rfl (y1) ?_
      refine zw_bne1 (g := 75) (pc' := 46) rfl rfl rfl rfl (fun hv => ?_) (fun hv => ?_)
      · refine zw_ld (n := 1) (k := 0) (f := zp_isR) (pc' := 76) rfl rfl rfl rfl rfl ?_
        refine zw_cn (pc' := 79) (zw_cv (q := 0) (Y := zm_98) W1.1 rfl rfl zm_98_t rfl rfl) rfl rfl rfl rfl rfl (zsc_tn1 W1 (by rw [hr1]; exact g5) (by rw [hr1]; exact g6) (by rw [hr1]; exact g7) (by rw [hr1]; exact g8)) ?_
        refine zw_s (pc' := 80) rfl rfl ?_
        refine zw_ri rfl rfl ?_
        rcases y2 with ⟨_, q9, d9, k4, k5, k6, k7⟩ | ⟨k1, _⟩
        · refine ⟨_, _, rfl, (0, q9), k4, rfl, fun _ => ⟨?_, ?_, ?_, ⟨rfl, rfl⟩, (zw_ne (zw_ne (zw_ne rfl rfl) rfl) rfl).trans e4, fun h9 => absurd h9 (by decide), d9, q9, k5, k6, ?_⟩, fun h9 => absurd rfl h9⟩
          · exact congrArg Int32.toInt (zw_ne (zw_ne zw_eq rfl) rfl)
          · exact congrArg Int32.toInt (zw_ne zw_eq rfl)
          · exact (zw_ne (zw_ne (zw_ne rfl rfl) rfl) rfl).trans e3
          · exact ⟨yDc_c (H := H1) (List.forall_mem_cons.mpr ⟨rfl, List.forall_mem_cons.mpr ⟨rfl, List.forall_mem_cons.mpr ⟨rfl, List.forall_mem_cons.mpr ⟨rfl, List.forall_mem_cons.mpr ⟨rfl, List.forall_mem_cons.mpr ⟨rfl, List.forall_mem_cons.mpr ⟨rfl, List.forall_mem_cons.mpr ⟨rfl, fun _ h => absurd h List.not_mem_nil⟩⟩⟩⟩⟩⟩⟩⟩) rfl rfl rfl k7.1, fun i i1 i2 i3 => (yXd_o (p := 60) (k := 11) (x := Int32.ofInt 0) (by decide) (yXd_o (p := 0) (k := 10) (x := Int32.ofInt 0) (by decide) (yXd_o (p := 0) (k := 2) (x := Int32.ofInt (-1)) (by decide) k7.2))) i i1 i2 i3⟩
        · omega
      · refine zw_ld (n := 1) (k := 0) (f := zp_isR) (pc' := 47) rfl rfl rfl rfl rfl ?_
        refine zw_ld (n := 1) (k := 0) (f := zp_isR) (pc' := 48) rfl rfl rfl rfl rfl ?_
        refine zw_gR (q := 0) (pc' := 51) W1 rfl rfl rfl rfl (W1.2 0 11 _ rfl) rfl ?_
        refine zw_gI (q := 51) (pc' := 54) W1 rfl rfl rfl rfl rfl rfl ?_
        refine zw_pI (q := 0) (pc' := 57) W1 rfl rfl rfl rfl rfl rfl ?_
        refine zw_ld (n := 1) (k := 0) (f := zp_isR) (pc' := 58) rfl rfl rfl rfl rfl ?_
        refine zw_s (pc' := 59) rfl rfl ?_
        refine zw_gI (q := 0) (pc' := 62) (zw_W_I W1) rfl rfl rfl rfl (zw_ne rfl rfl) rfl ?_
        refine zw_s (pc' := 63) rfl rfl ?_
        refine zw_iadd (pc' := 64) rfl rfl ?_
        refine zw_pI (q := 0) (pc' := 67) (zw_W_I W1) rfl rfl rfl rfl rfl rfl ?_
        refine zw_ld (n := 1) (k := 0) (f := zp_isR) (pc' := 68) rfl rfl rfl rfl rfl ?_
        refine zw_gR (q := 0) (pc' := 71) (zw_W_I (zw_W_I W1)) rfl rfl rfl rfl ((zw_W_I (zw_W_I W1)).2 0 11 _ rfl) rfl ?_
        refine zw_gI (q := 51) (pc' := 74) (zw_W_I (zw_W_I W1)) rfl rfl rfl rfl (zw_ne (zw_ne rfl rfl) rfl) rfl ?_
        refine zw_ri rfl rfl ?_
        rcases y2 with ⟨k1, _⟩ | ⟨_, r, k3, k4, k5⟩
        · omega
        · refine ⟨_, _, rfl, r, k4, ?_, fun h9 => ?_, fun _ => ⟨?_, ?_, ?_, ?_, ⟨by show H1.2.2.2 0 5 = _; rw [hr1]; exact g5, by show H1.2.2.2 0 6 = _; rw [hr1]; exact g6⟩, (zw_ne (zw_ne rfl rfl) rfl).trans e4⟩⟩
          · exact k3.1
          · omega
          · exact (congrArg Int32.toInt (zw_ne zw_eq rfl)).trans k3.2
          · exact (zw_ne (zw_ne rfl rfl) rfl).trans e10
          · exact zw_eq.trans (by rw [e3])
          · exact yKp_I (yKp_I (yKp_0 (yKp_F c3 (by decide +kernel) (by decide +kernel))))
    · omega

set_option maxRecDepth 8000 in
theorem ysc_y2 {L : Nat} {σ : Nat → Int32} {d : Nat} {T : Nat → Int} {n : Nat} {H : zp_H} {x : Int32} (hB : zk_Bs (zB_c 2) zg zJc H) (hn : n ≤ 700) (hxn : x.toInt = n) (hT : ∀ k, k < n → (H.2.1 1 k).toInt = T k) (hx : 0 ≤ x.toInt ∧ x.toInt ≤ (H.2.1 0 1).toInt) : ∃ X, zp_Call L σ (d + 67) 49 [.inr (.inr (some 1)), .inl x] H X ∧ ysc_P 2 T n H X := by
  have hb := zB_Bc hB
  have W := zB_Wd (zB_dn hb)
  have g5 : H.2.2.2 0 5 = some 23 := hB.2.1 0 5 _ rfl
  have g6 : H.2.2.2 0 6 = some 14 := hB.2.1 0 6 _ rfl
  have g7 : H.2.2.2 0 7 = some 3 := hB.2.1 0 7 _ rfl
  have g8 : H.2.2.2 0 8 = some 34 := hB.2.1 0 8 _ rfl
  have b0 : zk_Bs zB zg zJc (zw_I H 0 1 (Int32.ofInt 0)) := zB_up (zB_putf (p := 0) (k := 1) (x := Int32.ofInt 0) (zB_dn hb) rfl (fun r hr => by cases hr; decide) (zJc_I rfl hb.2.2.2.2.2.2.2)) (by
    rw [show (zw_I H 0 1 (Int32.ofInt 0)).2.1 52 4 = H.2.1 52 4 from zw_ne rfl rfl, show (zw_I H 0 1 (Int32.ofInt 0)).2.1 52 5 = H.2.1 52 5 from zw_ne rfl rfl]
    exact zB_cn hb)
  obtain ⟨X9, c1, c2, c3, _⟩ := zc_e152 (L := L) (σ := σ) zB_W zh_all (d + 48) (by show 48 ≤ d + 48; omega) [.inr (.inr (some 52)), .inl x, .inr (.inr (some 3)), .inr (.inr (some 34))] (zw_I H 0 1 (Int32.ofInt 0)) ⟨rfl, ⟨by show (0 : Int) ≤ _; omega, by show _ ≤ (700 : Int); omega⟩, rfl, rfl, trivial⟩ b0 (fun f hf => absurd hf List.not_mem_nil)
  obtain ⟨X8, y1, v, H1, rfl, y2⟩ := yc_read2_33 (L := L) (σ := σ) (d := d) (T := T) (n := n) b0 hn hxn (fun k hk => (congrArg Int32.toInt (zw_ne rfl rfl)).trans (hT k hk))
  obtain rfl := zp_Call_u y1 c1
  have W1 := zB_Wd (zB_dn c2)
  have hr1 : H1.2.2.2 = H.2.2.2 := c3.1
  have e10 : H1.2.1 0 10 = H.2.1 0 10 := (zI_in c3 (p := 0) (k := 10) rfl rfl (by decide)).1.trans (zw_ne rfl rfl)
  have e3 : H1.2.1 0 3 = H.2.1 0 3 := (zI_in c3 (p := 0) (k := 3) rfl rfl (by decide)).1.trans (zw_ne rfl rfl)
  have e4 : H1.2.1 0 4 = H.2.1 0 4 := (zI_in c3 (p := 0) (k := 4) rfl rfl (by decide)).1.trans (zw_ne rfl rfl)
  refine zw_met zm_49_t rfl rfl ?_
  refine zw_ld (n := 1) (k := 1) (f := zp_isI) (pc' := 1) rfl rfl rfl rfl rfl ?_
  refine zw_blt1 (g := 12) (pc' := 4) rfl rfl rfl rfl (fun hb0 => ?_) (fun hb0 => ?_)
  · omega
  · refine zw_ld (n := 1) (k := 1) (f := zp_isI) (pc' := 5) rfl rfl rfl rfl rfl ?_
    refine zw_ld (n := 1) (k := 0) (f := zp_isR) (pc' := 6) rfl rfl rfl rfl rfl ?_
    refine zw_gI (q := 0) (pc' := 9) W rfl rfl rfl rfl rfl rfl ?_
    refine zw_ble2 (g := 22) (pc' := 12) rfl rfl rfl rfl rfl (fun hb1 => ?_) (fun hb1 => ?_)
    · refine zw_ld (n := 1) (k := 0) (f := zp_isR) (pc' := 23) rfl rfl rfl rfl rfl ?_
      refine zw_s (pc' := 24) rfl rfl ?_
      refine zw_pI (q := 0) (pc' := 27) W rfl rfl rfl rfl rfl rfl ?_
      refine zw_ld (n := 1) (k := 0) (f := zp_isR) (pc' := 28) rfl rfl rfl rfl rfl ?_
      refine zw_gR (q := 0) (pc' := 31) (zw_W_I W) rfl rfl rfl rfl ((zw_W_I W).2 0 11 _ rfl) rfl ?_
      refine zw_ld (n := 1) (k := 1) (f := zp_isI) (pc' := 32) rfl rfl rfl rfl rfl ?_
      refine zw_ld (n := 1) (k := 0) (f := zp_isR) (pc' := 33) rfl rfl rfl rfl rfl ?_
      refine zw_gR (q := 0) (pc' := 36) (zw_W_I W) rfl rfl rfl rfl g7 rfl ?_
      refine zw_ld (n := 1) (k := 0) (f := zp_isR) (pc' := 37) rfl rfl rfl rfl rfl ?_
      refine zw_gR (q := 0) (pc' := 40) (zw_W_I W) rfl rfl rfl rfl g8 rfl ?_
      refine zw_c (pc' := 43) (zw_cv (q := 51) (Y := zm_50) (zw_W_I W).1 rfl rfl zm_50_t rfl rfl) rfl rfl rfl rfl rfl (y1) ?_
      refine zw_bne1 (g := 75) (pc' := 46) rfl rfl rfl rfl (fun hv => ?_) (fun hv => ?_)
      · refine zw_ld (n := 1) (k := 0) (f := zp_isR) (pc' := 76) rfl rfl rfl rfl rfl ?_
        refine zw_cn (pc' := 79) (zw_cv (q := 0) (Y := zm_98) W1.1 rfl rfl zm_98_t rfl rfl) rfl rfl rfl rfl rfl (zsc_tn2 W1 (by rw [hr1]; exact g5) (by rw [hr1]; exact g6) (by rw [hr1]; exact g7) (by rw [hr1]; exact g8)) ?_
        refine zw_s (pc' := 80) rfl rfl ?_
        refine zw_ri rfl rfl ?_
        rcases y2 with ⟨_, q9, d9, k4, k5, k6, k7⟩ | ⟨k1, _⟩
        · refine ⟨_, _, rfl, (0, q9), k4, rfl, fun _ => ⟨?_, ?_, ?_, ⟨rfl, rfl⟩, (zw_ne (zw_ne (zw_ne rfl rfl) rfl) rfl).trans e4, fun h9 => absurd h9 (by decide), d9, q9, k5, k6, ?_⟩, fun h9 => absurd rfl h9⟩
          · exact congrArg Int32.toInt (zw_ne (zw_ne zw_eq rfl) rfl)
          · exact congrArg Int32.toInt (zw_ne zw_eq rfl)
          · exact (zw_ne (zw_ne (zw_ne rfl rfl) rfl) rfl).trans e3
          · exact ⟨yDc_c (H := H1) (List.forall_mem_cons.mpr ⟨rfl, List.forall_mem_cons.mpr ⟨rfl, List.forall_mem_cons.mpr ⟨rfl, List.forall_mem_cons.mpr ⟨rfl, List.forall_mem_cons.mpr ⟨rfl, List.forall_mem_cons.mpr ⟨rfl, List.forall_mem_cons.mpr ⟨rfl, List.forall_mem_cons.mpr ⟨rfl, fun _ h => absurd h List.not_mem_nil⟩⟩⟩⟩⟩⟩⟩⟩) rfl rfl rfl k7.1, fun i i1 i2 i3 => (yXd_o (p := 60) (k := 11) (x := Int32.ofInt 0) (by decide) (yXd_o (p := 0) (k := 10) (x := Int32.ofInt 0) (by decide) (yXd_o (p := 0) (k := 2) (x := Int32.ofInt (-1)) (by decide) k7.2))) i i1 i2 i3⟩
        · omega
      · refine zw_ld (n := 1) (k := 0) (f := zp_isR) (pc' := 47) rfl rfl rfl rfl rfl ?_
        refine zw_ld (n := 1) (k := 0) (f := zp_isR) (pc' := 48) rfl rfl rfl rfl rfl ?_
        refine zw_gR (q := 0) (pc' := 51) W1 rfl rfl rfl rfl (W1.2 0 11 _ rfl) rfl ?_
        refine zw_gI (q := 51) (pc' := 54) W1 rfl rfl rfl rfl rfl rfl ?_
        refine zw_pI (q := 0) (pc' := 57) W1 rfl rfl rfl rfl rfl rfl ?_
        refine zw_ld (n := 1) (k := 0) (f := zp_isR) (pc' := 58) rfl rfl rfl rfl rfl ?_
        refine zw_s (pc' := 59) rfl rfl ?_
        refine zw_gI (q := 0) (pc' := 62) (zw_W_I W1) rfl rfl rfl rfl (zw_ne rfl rfl) rfl ?_
        refine zw_s (pc' := 63) rfl rfl ?_
        refine zw_iadd (pc' := 64) rfl rfl ?_
        refine zw_pI (q := 0) (pc' := 67) (zw_W_I W1) rfl rfl rfl rfl rfl rfl ?_
        refine zw_ld (n := 1) (k := 0) (f := zp_isR) (pc' := 68) rfl rfl rfl rfl rfl ?_
        refine zw_gR (q := 0) (pc' := 71) (zw_W_I (zw_W_I W1)) rfl rfl rfl rfl ((zw_W_I (zw_W_I W1)).2 0 11 _ rfl) rfl ?_
        refine zw_gI (q := 51) (pc' := 74) (zw_W_I (zw_W_I W1)) rfl rfl rfl rfl (zw_ne (zw_ne rfl rfl) rfl) rfl ?_
        refine zw_ri rfl rfl ?_
        rcases y2 with ⟨k1, _⟩ | ⟨_, r, k3, k4, k5⟩
        · omega
        · refine ⟨_, _, rfl, r, k4, ?_, fun h9 => ?_, fun _ => ⟨?_, ?_, ?_, ?_, ⟨by show H1.2.2.2 0 5 = _; rw [hr1]; exact g5, by show H1.2.2.2 0 6 = _; rw [hr1]; exact g6⟩, (zw_ne (zw_ne rfl rfl) rfl).trans e4⟩⟩
          · exact k3.1
          · omega
          · exact (congrArg Int32.toInt (zw_ne zw_eq rfl)).trans k3.2
          · exact (zw_ne (zw_ne rfl rfl) rfl).trans e10
          · exact zw_eq.trans (by rw [e3])
          · exact yKp_I (yKp_I (yKp_0 (yKp_F c3 (by decide +kernel) (by decide +kernel))))
    · omega

set_option maxRecDepth 8000 in
theorem ysc_y3 {L : Nat} {σ : Nat → Int32} {d : Nat} {T : Nat → Int} {n : Nat} {H : zp_H} {x : Int32} (hB : zk_Bs (zB_c 3) zg zJc H) (hn : n ≤ 700) (hxn : x.toInt = n) (hT : ∀ k, k < n → (H.2.1 1 k).toInt = T k) (hx : 0 ≤ x.toInt ∧ x.toInt ≤ (H.2.1 0 1).toInt) : ∃ X, zp_Call L σ (d + 67) 49 [.inr (.inr (some 1)), .inl x] H X ∧ ysc_P 3 T n H X := by
  have hb := zB_Bc hB
  have W := zB_Wd (zB_dn hb)
  have g5 : H.2.2.2 0 5 = some 23 := hB.2.1 0 5 _ rfl
  have g6 : H.2.2.2 0 6 = some 34 := hB.2.1 0 6 _ rfl
  have g7 : H.2.2.2 0 7 = some 3 := hB.2.1 0 7 _ rfl
  have g8 : H.2.2.2 0 8 = some 14 := hB.2.1 0 8 _ rfl
  have b0 : zk_Bs zB zg zJc (zw_I H 0 1 (Int32.ofInt 0)) := zB_up (zB_putf (p := 0) (k := 1) (x := Int32.ofInt 0) (zB_dn hb) rfl (fun r hr => by cases hr; decide) (zJc_I rfl hb.2.2.2.2.2.2.2)) (by
    rw [show (zw_I H 0 1 (Int32.ofInt 0)).2.1 52 4 = H.2.1 52 4 from zw_ne rfl rfl, show (zw_I H 0 1 (Int32.ofInt 0)).2.1 52 5 = H.2.1 52 5 from zw_ne rfl rfl]
    exact zB_cn hb)
  obtain ⟨X9, c1, c2, c3, _⟩ := zc_e161 (L := L) (σ := σ) zB_W zh_all (d + 48) (by show 48 ≤ d + 48; omega) [.inr (.inr (some 52)), .inl x, .inr (.inr (some 3)), .inr (.inr (some 14))] (zw_I H 0 1 (Int32.ofInt 0)) ⟨rfl, ⟨by show (0 : Int) ≤ _; omega, by show _ ≤ (700 : Int); omega⟩, rfl, rfl, trivial⟩ b0 (fun f hf => absurd hf List.not_mem_nil)
  obtain ⟨X7, q1, q2, q3, o, o1, -, o3, -⟩ := zc_xq3 (L := L) (σ := σ) zB_W zh_all (d + 48) (by show 48 ≤ d + 48; omega) [.inr (.inr (some 52)), .inl x, .inr (.inr (some 3)), .inr (.inr (some 14))] (zw_I H 0 1 (Int32.ofInt 0)) ⟨rfl, ⟨by show (0 : Int) ≤ _; omega, by show _ ≤ (700 : Int); omega⟩, rfl, rfl, trivial⟩ b0 (fun f hf => absurd hf List.not_mem_nil)
  obtain rfl := zp_Call_u c1 q1
  have e7 : (X9.2.2.1 13 7).toInt = 0 := by
    have a : 0 ≤ (X9.2.2.1 13 7).toInt ∧ (X9.2.2.1 13 7).toInt ≤ 0 := by
      rcases List.mem_cons.mp o1 with rfl | o1
      · exact o3 (13, 7, 0, 0) List.mem_cons_self
      · rcases List.mem_cons.mp o1 with rfl | o1
        · exact o3 (13, 7, 0, 0) List.mem_cons_self
        · exact absurd o1 List.not_mem_nil
    omega
  obtain ⟨X8, y1, v, H1, rfl, y2⟩ := yc_read2_13 (L := L) (σ := σ) (d := d) (T := T) (n := n) b0 hn hxn (fun k hk => (congrArg Int32.toInt (zw_ne rfl rfl)).trans (hT k hk))
  obtain rfl := zp_Call_u y1 c1
  have W1 := zB_Wd (zB_dn c2)
  have hr1 : H1.2.2.2 = H.2.2.2 := c3.1
  have e10 : H1.2.1 0 10 = H.2.1 0 10 := (zI_in c3 (p := 0) (k := 10) rfl rfl (by decide)).1.trans (zw_ne rfl rfl)
  have e3 : H1.2.1 0 3 = H.2.1 0 3 := (zI_in c3 (p := 0) (k := 3) rfl rfl (by decide)).1.trans (zw_ne rfl rfl)
  have e4 : H1.2.1 0 4 = H.2.1 0 4 := (zI_in c3 (p := 0) (k := 4) rfl rfl (by decide)).1.trans (zw_ne rfl rfl)
  refine zw_met zm_49_t rfl rfl ?_
  refine zw_ld (n := 1) (k := 1) (f := zp_isI) (pc' := 1) rfl rfl rfl rfl rfl ?_
  refine zw_blt1 (g := 12) (pc' := 4) rfl rfl rfl rfl (fun hb0 => ?_) (fun hb0 => ?_)
  · omega
  · refine zw_ld (n := 1) (k := 1) (f := zp_isI) (pc' := 5) rfl rfl rfl rfl rfl ?_
    refine zw_ld (n := 1) (k := 0) (f := zp_isR) (pc' := 6) rfl rfl rfl rfl rfl ?_
    refine zw_gI (q := 0) (pc' := 9) W rfl rfl rfl rfl rfl rfl ?_
    refine zw_ble2 (g := 22) (pc' := 12) rfl rfl rfl rfl rfl (fun hb1 => ?_) (fun hb1 => ?_)
    · refine zw_ld (n := 1) (k := 0) (f := zp_isR) (pc' := 23) rfl rfl rfl rfl rfl ?_
      refine zw_s (pc' := 24) rfl rfl ?_
      refine zw_pI (q := 0) (pc' := 27) W rfl rfl rfl rfl rfl rfl ?_
      refine zw_ld (n := 1) (k := 0) (f := zp_isR) (pc' := 28) rfl rfl rfl rfl rfl ?_
      refine zw_gR (q := 0) (pc' := 31) (zw_W_I W) rfl rfl rfl rfl ((zw_W_I W).2 0 11 _ rfl) rfl ?_
      refine zw_ld (n := 1) (k := 1) (f := zp_isI) (pc' := 32) rfl rfl rfl rfl rfl ?_
      refine zw_ld (n := 1) (k := 0) (f := zp_isR) (pc' := 33) rfl rfl rfl rfl rfl ?_
      refine zw_gR (q := 0) (pc' := 36) (zw_W_I W) rfl rfl rfl rfl g7 rfl ?_
      refine zw_ld (n := 1) (k := 0) (f := zp_isR) (pc' := 37) rfl rfl rfl rfl rfl ?_
      refine zw_gR (q := 0) (pc' := 40) (zw_W_I W) rfl rfl rfl rfl g8 rfl ?_
      refine zw_c (pc' := 43) (zw_cv (q := 51) (Y := zm_50) (zw_W_I W).1 rfl rfl zm_50_t rfl rfl) rfl rfl rfl rfl rfl (y1) ?_
      refine zw_bne1 (g := 75) (pc' := 46) rfl rfl rfl rfl (fun hv => ?_) (fun hv => ?_)
      · refine zw_ld (n := 1) (k := 0) (f := zp_isR) (pc' := 76) rfl rfl rfl rfl rfl ?_
        refine zw_cn (pc' := 79) (zw_cv (q := 0) (Y := zm_98) W1.1 rfl rfl zm_98_t rfl rfl) rfl rfl rfl rfl rfl (zsc_tn3 W1 (by rw [hr1]; exact g5) (by rw [hr1]; exact g6) (by rw [hr1]; exact g7) (by rw [hr1]; exact g8)) ?_
        refine zw_s (pc' := 80) rfl rfl ?_
        refine zw_ri rfl rfl ?_
        rcases y2 with ⟨_, q9, d9, k4, k5, k6, k7⟩ | ⟨k1, _⟩
        · refine ⟨_, _, rfl, (0, q9), k4, rfl, fun _ => ⟨?_, ?_, ?_, ⟨rfl, rfl⟩, (zw_ne (zw_ne (zw_ne rfl rfl) rfl) rfl).trans e4, fun _ => (congrArg Int32.toInt (zw_ne (zw_ne (zw_ne rfl rfl) rfl) rfl)).trans e7, d9, q9, k5, k6, ?_⟩, fun h9 => absurd rfl h9⟩
          · exact congrArg Int32.toInt (zw_ne (zw_ne zw_eq rfl) rfl)
          · exact congrArg Int32.toInt (zw_ne zw_eq rfl)
          · exact (zw_ne (zw_ne (zw_ne rfl rfl) rfl) rfl).trans e3
          · exact ⟨yDc_c (H := H1) (List.forall_mem_cons.mpr ⟨rfl, List.forall_mem_cons.mpr ⟨rfl, List.forall_mem_cons.mpr ⟨rfl, List.forall_mem_cons.mpr ⟨rfl, List.forall_mem_cons.mpr ⟨rfl, List.forall_mem_cons.mpr ⟨rfl, List.forall_mem_cons.mpr ⟨rfl, List.forall_mem_cons.mpr ⟨rfl, fun _ h => absurd h List.not_mem_nil⟩⟩⟩⟩⟩⟩⟩⟩) rfl rfl rfl k7.1, fun i i1 i2 i3 => (yXd_o (p := 60) (k := 11) (x := Int32.ofInt 0) (by decide) (yXd_o (p := 0) (k := 10) (x := Int32.ofInt 0) (by decide) (yXd_o (p := 0) (k := 2) (x := Int32.ofInt (-1)) (by decide) k7.2))) i i1 i2 i3⟩
        · omega
      · refine zw_ld (n := 1) (k := 0) (f := zp_isR) (pc' := 47) rfl rfl rfl rfl rfl ?_
        refine zw_ld (n := 1) (k := 0) (f := zp_isR) (pc' := 48) rfl rfl rfl rfl rfl ?_
        refine zw_gR (q := 0) (pc' := 51) W1 rfl rfl rfl rfl (W1.2 0 11 _ rfl) rfl ?_
        refine zw_gI (q := 51) (pc' := 54) W1 rfl rfl rfl rfl rfl rfl ?_
        refine zw_pI (q := 0) (pc' := 57) W1 rfl rfl rfl rfl rfl rfl ?_
        refine zw_ld (n := 1) (k := 0) (f := zp_isR) (pc' := 58) rfl rfl rfl rfl rfl ?_
        refine zw_s (pc' := 59) rfl rfl ?_
        refine zw_gI (q := 0) (pc' := 62) (zw_W_I W1) rfl rfl rfl rfl (zw_ne rfl rfl) rfl ?_
        refine zw_s (pc' := 63) rfl rfl ?_
        refine zw_iadd (pc' := 64) rfl rfl ?_
        refine zw_pI (q := 0) (pc' := 67) (zw_W_I W1) rfl rfl rfl rfl rfl rfl ?_
        refine zw_ld (n := 1) (k := 0) (f := zp_isR) (pc' := 68) rfl rfl rfl rfl rfl ?_
        refine zw_gR (q := 0) (pc' := 71) (zw_W_I (zw_W_I W1)) rfl rfl rfl rfl ((zw_W_I (zw_W_I W1)).2 0 11 _ rfl) rfl ?_
        refine zw_gI (q := 51) (pc' := 74) (zw_W_I (zw_W_I W1)) rfl rfl rfl rfl (zw_ne (zw_ne rfl rfl) rfl) rfl ?_
        refine zw_ri rfl rfl ?_
        rcases y2 with ⟨k1, _⟩ | ⟨_, r, k3, k4, k5⟩
        · omega
        · refine ⟨_, _, rfl, r, k4, ?_, fun h9 => ?_, fun _ => ⟨?_, ?_, ?_, ?_, ⟨by show H1.2.2.2 0 5 = _; rw [hr1]; exact g5, by show H1.2.2.2 0 6 = _; rw [hr1]; exact g6⟩, (zw_ne (zw_ne rfl rfl) rfl).trans e4⟩⟩
          · exact k3.1
          · omega
          · exact (congrArg Int32.toInt (zw_ne zw_eq rfl)).trans k3.2
          · exact (zw_ne (zw_ne rfl rfl) rfl).trans e10
          · exact zw_eq.trans (by rw [e3])
          · exact yKp_I (yKp_I (yKp_0 (yKp_F c3 (by decide +kernel) (by decide +kernel))))
    · omega

set_option maxRecDepth 8000 in
theorem ysc_yes {L : Nat} {σ : Nat → Int32} {d c : Nat} {T : Nat → Int} {n : Nat} {H : zp_H} {x : Int32} (hc : c < 4) (hB : zk_Bs (zB_c c) zg zJc H) (hn : n ≤ 700) (hxn : x.toInt = n) (hT : ∀ k, k < n → (H.2.1 1 k).toInt = T k) (hx : 0 ≤ x.toInt ∧ x.toInt ≤ (H.2.1 0 1).toInt) : ∃ X, zp_Call L σ (d + 67) 49 [.inr (.inr (some 1)), .inl x] H X ∧ ysc_P c T n H X := by
  match c, hc, hB with
  | 0, _, hB => exact ysc_y0 hB hn hxn hT hx
  | 1, _, hB => exact ysc_y1 hB hn hxn hT hx
  | 2, _, hB => exact ysc_y2 hB hn hxn hT hx
  | 3, _, hB => exact ysc_y3 hB hn hxn hT hx
