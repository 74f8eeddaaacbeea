/-! ===== the desk: find, the sets ===== -/
def zm_141 : za_MI := (yX1_find, prog_3_method_6_code, 8, (some FieldType.int), 1, 0, 0, [], za_i141)
theorem zm_141_t : za_MT 141 = some zm_141 := rfl
theorem tm_t9 {a : Nat} (h : a < 1000) : (Int32.ofNat a).toInt = (a : Int) := Int32.toInt_ofNat_of_lt (by show a < 2147483648; omega)
theorem tm_s {a : Nat} (h : a < 900) : Int32.ofNat a + Int32.ofInt 1 = Int32.ofNat (a + 1) := by
  have e := tm_t9 (a := a) (by omega)
  exact Int32.toInt_inj.mp (by rw [zw_p1 (by omega), e, tm_t9 (by omega)]; omega)
theorem tm_s8_t : (List.range 9).all (fun s => decide ((Int32.ofInt 1 <<< (Int32.ofNat s &&& 31)).toInt = (((2 ^ s : Nat)) : Int))) = true := by decide +kernel
theorem tm_s8 {s : Int32} (h0 : 0 ≤ s.toInt) (h8 : s.toInt ≤ 8) : (Int32.ofInt 1 <<< (s &&& 31)).toInt = (((2 ^ s.toInt.toNat : Nat)) : Int) := by
  have t : (Int32.ofInt 1 <<< (Int32.ofNat s.toInt.toNat &&& 31)).toInt = (((2 ^ s.toInt.toNat : Nat)) : Int) := of_decide_eq_true (List.all_eq_true.mp tm_s8_t s.toInt.toNat (List.mem_range.mpr (by omega)))
  rw [← tm_o h0] at t
  exact t
theorem xTv_c {b : Bool} {v : Int32} (h : v = xTv b) : (v = Int32.ofInt 1 ∧ b = true) ∨ (v = Int32.ofInt 0 ∧ b = false) := by
  cases b with
  | true => exact Or.inl ⟨h, rfl⟩
  | false => exact Or.inr ⟨h, rfl⟩
/-- a row that can be the first one: of the set a, of length m -/
def tCd (A : Nat → Bool) (B : Nat → Nat → Bool) (G : Nat → Bool) (m a : Nat) (r : List Nat) : Prop := tC a = m ∧ tG A B [] (fun s => a.testBit s) r ∧ G a = true
/-- what find knows of size m when the sets below a0 are seen -/
def tFV (C : Nat → List Nat → Prop) (m : Nat) (sz : Int32) (a0 : Nat) (len : Int32) (H : zp_H) : Prop := (len = Int32.ofInt (-1) ∧ ∀ a, a < a0 → ∀ r, ¬ C a r) ∨ (len = sz ∧ ∃ q, q.length = m ∧ (∀ k, k < m → H.2.1 68 k = Int32.ofNat (q.getD k 0)) ∧ (∃ a, a < a0 ∧ C a q) ∧ ∀ a, a < a0 → ∀ r', C a r' → tN q 0 ≤ tN r' 0)
theorem tFV_no {C : Nat → List Nat → Prop} {m a : Nat} {sz len : Int32} {H H1 : zp_H} (h : tFV C m sz a len H) (e : ∀ k, H1.2.1 68 k = H.2.1 68 k) (hn : ∀ r, ¬ C a r) : tFV C m sz (a + 1) len H1 := by
  rcases h with ⟨h1, h2⟩ | ⟨h1, q, h2, h3, ⟨x, h4, h5⟩, h6⟩
  · refine Or.inl ⟨h1, fun a' ha r hr => ?_⟩
    by_cases h9 : a' = a
    · rw [h9] at hr
      exact hn r hr
    · exact h2 a' (by omega) r hr
  · refine Or.inr ⟨h1, q, h2, fun k hk => (e k).trans (h3 k hk), ⟨x, by omega, h5⟩, fun a' ha r hr => ?_⟩
    by_cases h9 : a' = a
    · rw [h9] at hr
      exact absurd hr (hn r)
    · exact h6 a' (by omega) r hr
theorem tFV_ge {C : Nat → List Nat → Prop} {m a : Nat} {sz : Int32} {H H1 : zp_H} {q : List Nat} (h2 : q.length = m) (h3 : ∀ k, k < m → H.2.1 68 k = Int32.ofNat (q.getD k 0)) (h4 : ∃ x, x < a ∧ C x q) (h6 : ∀ a', a' < a → ∀ r', C a' r' → tN q 0 ≤ tN r' 0) (e : ∀ k, H1.2.1 68 k = H.2.1 68 k) (hn : ∀ r', C a r' → tN q 0 ≤ tN r' 0) : tFV C m sz (a + 1) sz H1 := by
  obtain ⟨x, h4, h5⟩ := h4
  refine Or.inr ⟨rfl, q, h2, fun k hk => (e k).trans (h3 k hk), ⟨x, by omega, h5⟩, fun a' ha r hr => ?_⟩
  by_cases h9 : a' = a
  · rw [h9] at hr
    exact hn r hr
  · exact h6 a' (by omega) r hr
theorem tFV_new {C : Nat → List Nat → Prop} {m a : Nat} {sz : Int32} {H1 : zp_H} {r : List Nat} (h2 : r.length = m) (h3 : ∀ k, k < m → H1.2.1 68 k = Int32.ofNat (r.getD k 0)) (hc : C a r) (hl : ∀ a', a' < a → ∀ r', C a' r' → tN r 0 ≤ tN r' 0) (hs : ∀ r', C a r' → tN r 0 ≤ tN r' 0) : tFV C m sz (a + 1) sz H1 := by
  refine Or.inr ⟨rfl, r, h2, h3, ⟨a, by omega, hc⟩, fun a' ha r' hr => ?_⟩
  by_cases h9 : a' = a
  · rw [h9] at hr
    exact hs r' hr
  · exact hl a' (by omega) r' hr
/-- what find knows when the sizes below j are seen -/
def tFZ (C : Nat → Nat → List Nat → Prop) (NN : Nat) (len : Int32) (H : zp_H) (j : Nat) : Prop := (len = Int32.ofInt (-1) ∧ ∀ m, m < j → ∀ a, a < NN → ∀ r, ¬ C m a r) ∨ ∃ m q, m < j ∧ len = Int32.ofNat m ∧ q.length = m ∧ (∀ k, k < m → H.2.1 68 k = Int32.ofNat (q.getD k 0)) ∧ (∃ a, a < NN ∧ C m a q) ∧ (∀ a, a < NN → ∀ r', C m a r' → tN q 0 ≤ tN r' 0) ∧ ∀ m', m' < m → ∀ a, a < NN → ∀ r', ¬ C m' a r'
theorem tFZ_up {C : Nat → Nat → List Nat → Prop} {NN j j' : Nat} {len : Int32} {H : zp_H} (h : tFZ C NN len H j) (hl : ¬ len.toInt = -1) (hj : j ≤ j') : tFZ C NN len H j' := by
  rcases h with ⟨h1, _⟩ | ⟨m, q, h1, h2⟩
  · exact absurd (by rw [h1]; decide) hl
  · exact Or.inr ⟨m, q, by omega, h2⟩
theorem tFZ_s {C : Nat → Nat → List Nat → Prop} {NN j : Nat} {len len1 : Int32} {H H1 : zp_H} (hj : j < 900) (h : tFZ C NN len H j) (hl : len.toInt = -1) (h1 : tFV (C j) j (Int32.ofNat j) NN len1 H1) : tFZ C NN len1 H1 (j + 1) := by
  have hn : ∀ m, m < j → ∀ a, a < NN → ∀ r, ¬ C m a r := by
    rcases h with ⟨_, h2⟩ | ⟨m, q, k1, k2, k3, k4, ⟨a, k5, k6⟩, _⟩
    · exact h2
    · rw [k2, tm_t9 (by omega)] at hl
      omega
  rcases h1 with ⟨k1, k2⟩ | ⟨k1, q, k2, k3, k4, k5⟩
  · refine Or.inl ⟨k1, fun m hm a ha r hr => ?_⟩
    by_cases h9 : m = j
    · rw [h9] at hr
      exact k2 a ha r hr
    · exact hn m (by omega) a ha r hr
  · exact Or.inr ⟨j, q, by omega, k1, k2, k3, k4, k5, hn⟩

def tGd (S : xSea) (CC : Nat → List xIt) (wp : Nat) (H0 : zp_H) (p : Int32) (N a : Nat) : Bool := xTh S CC wp H0 p.toInt.toNat (xKn (H0.2.2.1 63) (Int32.ofNat a) N (Int32.ofInt 0) (Int64.ofNat 0))
/-- what the desk is given -/
def tHy (S : xSea) (CC : Nat → List xIt) (wp : Nat) (H0 : zp_H) (p : Int32) (N : Nat) (A : Nat → Bool) (B : Nat → Nat → Bool) (b6 : Nat) (m6 : Nat → Nat) : Prop := xOk S ∧ xSC wp H0 S ∧ xCC wp CC H0 ∧ (0 ≤ p.toInt ∧ p.toInt < 4) ∧ xIn S (H0.2.1 (wp + 5) p.toInt.toNat).toInt ∧ N ≤ 8 ∧ (H0.2.1 60 0).toInt = (N : Int) ∧ (∀ j, j < N → H0.2.1 64 j = xLo (H0.2.2.1 63) (Int32.ofNat j)) ∧ b6 < 256 ∧ (∀ s, b6.testBit s = true ↔ A s = true) ∧ ∀ g, g < N → m6 g < 256 ∧ ∀ s, (m6 g).testBit s = true ↔ B g s = true
/-- what the desk holds while it looks -/
def tDk (b6 : Nat) (m6 : Nat → Nat) (G : Nat → Bool) (N : Nat) (H0 H : zp_H) : Prop := tFw tQ8 H0 H ∧ H.2.1 60 6 = Int32.ofNat b6 ∧ (∀ g, g < N → H.2.1 66 g = Int32.ofNat (m6 g)) ∧ ∀ l, l < 256 → H.2.1 65 l = Int32.ofInt (-1) ∨ H.2.1 65 l = xTv (G l)
theorem tDk_o {b6 : Nat} {m6 : Nat → Nat} {G : Nat → Bool} {N : Nat} {H0 H H1 : zp_H} (h : tDk b6 m6 G N H0 H) (h1 : tFw (fun p _ => p = 67 ∨ p = 68) H H1) : tDk b6 m6 G N H0 H1 := ⟨tFw_t h.1 (tFw_m (fun p k (h9 : p = 67 ∨ p = 68) => Or.inr (Or.inl (by omega))) h1), (h1.2.2.1 60 6 (show ¬ ((60 : Nat) = 67 ∨ (60 : Nat) = 68) by decide)).trans h.2.1, fun g hg => (h1.2.2.1 66 g (show ¬ ((66 : Nat) = 67 ∨ (66 : Nat) = 68) by decide)).trans (h.2.2.1 g hg), fun l hl => by rw [h1.2.2.1 65 l (show ¬ ((65 : Nat) = 67 ∨ (65 : Nat) = 68) by decide)]; exact h.2.2.2 l hl⟩

theorem yd_pr2 {L : Nat} {σ : Nat → Int32} {d : Nat} {a : Nat} {S : xSea} {CC : Nat → List xIt} {H0 H : zp_H} {p : Int32} {N : Nat} {A : Nat → Bool} {B : Nat → Nat → Bool} {b6 : Nat} {m6 : Nat → Nat} (hy : tHy S CC 2 H0 p N A B b6 m6) (W : zw_W H) (hD : tDk b6 m6 (tGd S CC 2 H0 p N) N H0 H) (ha : a < 256) (hb : ∀ s, a.testBit s = true → s < N) : ∃ K v, zp_Call L σ (d + 2) 146 [.inr (.inr (some 61)), .inl (Int32.ofNat a)] H (.inl (some (.inl v)), K) ∧ zw_W K ∧ tDk b6 m6 (tGd S CC 2 H0 p N) N H0 K ∧ (∀ k, K.2.1 68 k = H.2.1 68 k) ∧ ((v = Int32.ofInt 1 ∧ ∃ r, r.length = tC a ∧ tG A B [] (fun s => a.testBit s) r ∧ ∀ k, k < r.length → K.2.1 67 k = Int32.ofNat (r.getD k 0)) ∨ (v = Int32.ofInt 0 ∧ ∃ r, tF A B [] (fun s => a.testBit s) r)) := by
  obtain ⟨hS, hC, hCC, hp, hc, hN8, hn, h64, hb6, hA, hm6⟩ := hy
  obtain ⟨_, q1, K, v, rfl, W1, q2, q3⟩ := yc_pr (L := L) (σ := σ) (d := d) (H := H) (A := A) (B := B) (m := m6) (n9 := N) (a := a) (b := b6) W (fun g hg => ⟨hD.2.2.1 g hg, hm6 g hg⟩) ha hb hb6 hD.2.1 hA
  exact ⟨K, v, q1, W1, tDk_o hD (tFw_m (fun _ _ h9 => Or.inl h9) q2), fun k => q2.2.2.1 68 k (show ¬ ((68 : Nat) = 67) by decide), q3⟩
theorem yd_bt2 {L : Nat} {σ : Nat → Int32} {d : Nat} {a : Nat} {S : xSea} {CC : Nat → List xIt} {H0 H : zp_H} {p : Int32} {N : Nat} {A : Nat → Bool} {B : Nat → Nat → Bool} {b6 : Nat} {m6 : Nat → Nat} (hy : tHy S CC 2 H0 p N A B b6 m6) (W : zw_W H) (hD : tDk b6 m6 (tGd S CC 2 H0 p N) N H0 H) (ha : a < 256) : ∃ K v, zp_Call L σ (d + 6) 149 [.inr (.inr (some 61)), .inr (.inr (some 3)), .inr (.inr (some 57)), .inl p, .inl (Int32.ofNat a)] H (.inl (some (.inl v)), K) ∧ zw_W K ∧ tDk b6 m6 (tGd S CC 2 H0 p N) N H0 K ∧ v = xTv ((tGd S CC 2 H0 p N) a) ∧ (∀ k, K.2.1 67 k = H.2.1 67 k) ∧ ∀ k, K.2.1 68 k = H.2.1 68 k := by
  obtain ⟨hS, hC, hCC, hp, hc, hN8, hn, h64, hb6, hA, hm6⟩ := hy
  obtain ⟨F, e6, e66, hv⟩ := hD
  have f : ∀ q k, q < 54 → H.2.1 q k = H0.2.1 q k := fun q k hq => F.2.2.1 q k (by unfold tQ8 tQh; omega)
  have f1 : ∀ q k, q < 54 → H.2.2.1 q k = H0.2.2.1 q k := fun q k hq => F.2.2.2 q k (by omega) (by omega)
  have e0 : H.2.1 60 0 = H0.2.1 60 0 := F.2.2.1 60 0 (by unfold tQ8 tQh; omega)
  have e64 : H.2.1 64 = H0.2.1 64 := funext fun k => F.2.2.1 64 k (by unfold tQ8 tQh; omega)
  have e63 : H.2.2.1 63 = H0.2.2.1 63 := funext fun k => F.2.2.2 63 k (by decide) (by decide)
  have en : (H.2.1 60 0).toInt.toNat = N := by rw [e0]; omega
  have z0 : (Int32.ofInt 0).toInt = 0 := by decide
  have hm : ∃ m : Nat → Nat, ∀ j, j < N → m j < 256 ∧ xLo (H0.2.2.1 63) (Int32.ofNat j) = Int32.ofNat (m j) := by
    have k : ∀ j, ∃ x, j < N → x < 256 ∧ xLo (H0.2.2.1 63) (Int32.ofNat j) = Int32.ofNat x := fun j => by
      by_cases hj : j < N
      · obtain ⟨x, x1, x2, -⟩ := tLo (f := H0.2.2.1 63) (s := j) (by omega)
        exact ⟨x, fun _ => ⟨x1, x2⟩⟩
      · exact ⟨0, fun h => absurd h hj⟩
    exact ⟨fun j => Classical.choose (k j), fun j => Classical.choose_spec (k j)⟩
  obtain ⟨m, hm⟩ := hm
  obtain ⟨l, l1, l2, -⟩ := tLs_m (g := H0.2.1 64) (m := m) ha N (Int32.ofInt 0) 0 (by decide) (by decide) (by rw [z0]; omega) (fun j hj => by
    rw [z0] at hj
    obtain ⟨k1, k2⟩ := hm j (by omega)
    exact ⟨(h64 j (by omega)).trans k2, k1⟩)
  rw [← tm_z] at l2
  have gl := tKn_l (f := H0.2.2.1 63) (g := H0.2.1 64) ha l1 hN8 h64 l2
  have eG : (tGd S CC 2 H0 p N) l = (tGd S CC 2 H0 p N) a := by
    unfold tGd
    rw [gl]
  obtain ⟨_, q1, K, v, rfl, W1, q2, q3, q4, q5⟩ := yc_bt2 (L := L) (σ := σ) (d := d) (S := S) (CC := CC) (H0 := H) (H9 := H0) (p := p) (set := Int32.ofNat a) (l := l) W (by rw [e0]; omega) f f1 hS hC hCC hp hc l1 (by rw [en, e64]; exact l2) (by
    rw [en, e63, ← gl]
    exact hv l l1)
  rw [en, e63] at q3 q5
  refine ⟨K, v, q1, W1, ⟨tFw_t F (tFw_m (fun p k h => h.elim Or.inl (fun (h9 : p = 65) => Or.inr (Or.inl (by omega)))) q2), (q2.2.2.1 60 6 (by unfold tQ2 tQh; omega)).trans e6, fun g hg => (q2.2.2.1 66 g (by unfold tQ2 tQh; omega)).trans (e66 g hg), fun j hj => ?_⟩, q3, fun k => q2.2.2.1 67 k (by unfold tQ2 tQh; omega), fun k => q2.2.2.1 68 k (by unfold tQ2 tQh; omega)⟩
  by_cases h9 : j = l
  · rw [h9, eG]
    exact Or.inr q5
  · rw [q4 j h9]
    exact hv j hj

theorem yc_fdS2 {L : Nat} {σ : Nat → Int32} {d : Nat} {P : zp_X → Prop} {NN : Nat} {S : xSea} {CC : Nat → List xIt} {H0 : zp_H} {p : Int32} {N : Nat} {A : Nat → Bool} {B : Nat → Nat → Bool} {b6 : Nat} {m6 : Nat → Nat} (hy : tHy S CC 2 H0 p N A B b6 m6) (hNN : NN = 2 ^ N) (hN2 : NN ≤ 256) : ∀ (n : Nat) (H : zp_H) (lv : zp_LV) (m a : Nat) (sz len : Int32), sz.toInt = (m : Int) → zw_W H → tDk b6 m6 (tGd S CC 2 H0 p N) N H0 H → a + n = NN → tFV ((tCd A B (tGd S CC 2 H0 p N)) m) m sz a len H → zp_get lv 0 = some (.inr (.inr (some 61))) → zp_get lv 1 = some (.inr (.inr (some 3))) → zp_get lv 2 = some (.inr (.inr (some 57))) → zp_get lv 3 = some (.inl p) → zp_get lv 4 = some (.inl len) → zp_get lv 5 = some (.inl sz) → zp_get lv 6 = some (.inl (Int32.ofNat a)) → (∀ H lv len, zw_W H → tDk b6 m6 (tGd S CC 2 H0 p N) N H0 H → tFV ((tCd A B (tGd S CC 2 H0 p N)) m) m sz NN len H → zp_get lv 0 = some (.inr (.inr (some 61))) → zp_get lv 1 = some (.inr (.inr (some 3))) → zp_get lv 2 = some (.inr (.inr (some 57))) → zp_get lv 3 = some (.inl p) → zp_get lv 4 = some (.inl len) → zp_get lv 5 = some (.inl sz) → zs_Safe L σ P zm_141 [] (d + 6) (176, lv, [], H, (0, 0))) → zs_Safe L σ P zm_141 [] (d + 6) (82, lv, [], H, (0, 0)) := by
  intro n
  induction n with
  | zero =>
    intro H lv m a sz len hsz W hD hn hV l0 l1 l2 l3 l4 l5 l6 hP
    have e60 : (H.2.1 60 0).toInt = (N : Int) := (congrArg Int32.toInt (hD.1.2.2.1 60 0 (by unfold tQ8 tQh; omega))).trans hy.2.2.2.2.2.2.1
    have hN8 := hy.2.2.2.2.2.1
    have hsh := tm_s8 (s := H.2.1 60 0) (by omega) (by omega)
    rw [show (H.2.1 60 0).toInt.toNat = N by omega, ← hNN] at hsh
    have tA := tm_t9 (a := a) (by omega)
    refine zw_ld (n := 2) (k := 6) (f := zp_isI) (pc' := 84) rfl rfl l6 rfl rfl ?_
    refine zw_s (pc' := 85) rfl rfl ?_
    refine zw_ld (n := 1) (k := 0) (f := zp_isR) (pc' := 86) rfl rfl l0 rfl rfl ?_
    refine zw_gI (q := 60) (pc' := 89) W rfl rfl rfl rfl rfl rfl ?_
    refine zw_ishl (pc' := 90) rfl rfl ?_
    refine zw_bge2 (g := 176) (pc' := 93) rfl rfl rfl rfl rfl (fun h1 => ?_) (fun h1 => ?_)
    · have ea : a = NN := by omega
      rw [ea] at hV
      exact hP H _ len W hD hV l0 l1 l2 l3 l4 l5
    · have hn : a + 0 = NN := hn
      omega
  | succ n ih =>
    intro H lv m a sz len hsz W hD hn hV l0 l1 l2 l3 l4 l5 l6 hP
    have e60 : (H.2.1 60 0).toInt = (N : Int) := (congrArg Int32.toInt (hD.1.2.2.1 60 0 (by unfold tQ8 tQh; omega))).trans hy.2.2.2.2.2.2.1
    have hN8 := hy.2.2.2.2.2.1
    have hsh := tm_s8 (s := H.2.1 60 0) (by omega) (by omega)
    rw [show (H.2.1 60 0).toInt.toNat = N by omega, ← hNN] at hsh
    have tA := tm_t9 (a := a) (by omega)
    refine zw_ld (n := 2) (k := 6) (f := zp_isI) (pc' := 84) rfl rfl l6 rfl rfl ?_
    refine zw_s (pc' := 85) rfl rfl ?_
    refine zw_ld (n := 1) (k := 0) (f := zp_isR) (pc' := 86) rfl rfl l0 rfl rfl ?_
    refine zw_gI (q := 60) (pc' := 89) W rfl rfl rfl rfl rfl rfl ?_
    refine zw_ishl (pc' := 90) rfl rfl ?_
    refine zw_bge2 (g := 176) (pc' := 93) rfl rfl rfl rfl rfl (fun h1 => ?_) (fun h1 => ?_)
    · omega
    · have ha : a < 256 := by omega
      have hbN : ∀ s, a.testBit s = true → s < N := fun s hs => by
        refine Nat.lt_of_not_le (fun h9 => ?_)
        have h7 : (2 : Nat) ^ N ≤ 2 ^ s := Nat.pow_le_pow_right (by decide) h9
        rw [Nat.testBit_lt_two_pow (show a < 2 ^ s by omega)] at hs
        cases hs
      have tc1 := (tC_b ha).1
      have as := tm_s (a := a) (by omega)
      refine zw_ld (n := 2) (k := 6) (f := zp_isI) (pc' := 95) rfl rfl l6 rfl rfl ?_
      refine zw_c (pc' := 98) (zw_cs (Y := zm_117) rfl rfl zm_117_t) rfl rfl rfl rfl rfl (yc_bcI) ?_
      refine zw_ld (n := 2) (k := 5) (f := zp_isI) (pc' := 100) rfl rfl l5 rfl rfl ?_
      refine zw_bne2 (g := 131) (pc' := 103) rfl rfl rfl rfl rfl (fun h2 => ?_) (fun h2 => ?_)
      · have h2 : ¬ (yIb (Int32.ofNat a)).toInt = sz.toInt := h2
        refine zw_s (pc' := 132) rfl rfl ?_
        refine zw_st (n := 2) (k := 7) (f := zp_isI) (pc' := 134) rfl rfl rfl rfl rfl ?_
        refine zw_ld (n := 2) (k := 7) (f := zp_isI) (pc' := 136) rfl rfl zw_g1 rfl rfl ?_
        refine zw_beq1 (g := 170) (pc' := 139) rfl rfl rfl (rfl : _ = (0 : Int)) (fun h9 => ?_) (fun h9 => absurd h9 (by decide))
        refine zw_ii (pc' := 173) rfl (zw_gt l6 rfl rfl) rfl rfl ?_
        refine zw_s (pc' := 82) rfl rfl ?_
        rw [as]
        exact ih H _ m (a + 1) sz len hsz W hD (by omega) (tFV_no hV (fun _ => rfl) (fun r hr => h2 (by rw [tc1, hr.1, hsz]))) (zw_gt (zw_gt l0 rfl rfl) rfl rfl) (zw_gt (zw_gt l1 rfl rfl) rfl rfl) (zw_gt (zw_gt l2 rfl rfl) rfl rfl) (zw_gt (zw_gt l3 rfl rfl) rfl rfl) (zw_gt (zw_gt l4 rfl rfl) rfl rfl) (zw_gt (zw_gt l5 rfl rfl) rfl rfl) zw_g1 hP
      · have h2 : (yIb (Int32.ofNat a)).toInt = sz.toInt := h2
        have hta : tC a = m := by omega
        obtain ⟨K, v, q1, W1, D1, q2, q3⟩ := yd_pr2 (L := L) (σ := σ) (d := d + 4) hy W hD ha hbN
        have hle : ∀ r r', tG A B [] (fun s => a.testBit s) r → (tCd A B (tGd S CC 2 H0 p N)) m a r' → tN r 0 ≤ tN r' 0 := fun r r' h8 h9 => (tG_le (n := N) (by omega) (tG_V h9.2.1 (fun s hs => ⟨hbN s hs, List.not_mem_nil⟩)) (tG_mem h9.2.1) h8 (fun s hs => ⟨hbN s hs, List.not_mem_nil⟩)).2
        refine zw_ld (n := 1) (k := 0) (f := zp_isR) (pc' := 104) rfl rfl l0 rfl rfl ?_
        refine zw_ld (n := 2) (k := 6) (f := zp_isI) (pc' := 106) rfl rfl l6 rfl rfl ?_
        rcases q3 with ⟨rfl, r, r1, r2, r3⟩ | ⟨rfl, r, r2⟩
        · refine zw_c (pc' := 109) (zw_cv (q := 60) (Y := zm_146) W.1 rfl rfl zm_146_t rfl rfl) rfl rfl rfl rfl rfl (q1) ?_
          refine zw_beq1 (g := 131) (pc' := 112) rfl rfl rfl (rfl : _ = (1 : Int)) (fun h9 => absurd h9 (by decide)) (fun h9 => ?_)
          refine zw_ld (n := 2) (k := 4) (f := zp_isI) (pc' := 114) rfl rfl l4 rfl rfl ?_
          refine zw_s (pc' := 115) rfl rfl ?_
          have hm8 : m ≤ 8 := by have := (tC_b ha).2; omega
          refine zw_beq2 (g := 127) (pc' := 118) rfl rfl rfl rfl (rfl : _ = (-1 : Int)) (fun h4 => ?_) (fun h4 => ?_)
          · have h4 : len.toInt = -1 := h4
            have hlow : ∀ a', a' < a → ∀ r', (tCd A B (tGd S CC 2 H0 p N)) m a' r' → tN r 0 ≤ tN r' 0 := fun a' ha' r' hr' => by
              rcases hV with ⟨_, v2⟩ | ⟨v1, _⟩
              · exact absurd hr' (v2 a' ha' r')
              · rw [v1] at h4
                omega
            refine zw_s (pc' := 128) rfl rfl ?_
            refine zw_s (pc' := 132) rfl rfl ?_
            refine zw_st (n := 2) (k := 7) (f := zp_isI) (pc' := 134) rfl rfl rfl rfl rfl ?_
            refine zw_ld (n := 2) (k := 7) (f := zp_isI) (pc' := 136) rfl rfl zw_g1 rfl rfl ?_
            refine zw_beq1 (g := 170) (pc' := 139) rfl rfl rfl (rfl : _ = (1 : Int)) (fun h9 => absurd h9 (by decide)) (fun h9 => ?_)
            obtain ⟨K2, v2, b1, W2, D2, b4, b67, b68⟩ := yd_bt2 (L := L) (σ := σ) (d := d) hy W1 D1 ha
            refine zw_ld (n := 1) (k := 0) (f := zp_isR) (pc' := 140) rfl rfl (zw_gt l0 rfl rfl) rfl rfl ?_
            refine zw_ld (n := 1) (k := 1) (f := zp_isR) (pc' := 141) rfl rfl (zw_gt l1 rfl rfl) rfl rfl ?_
            refine zw_ld (n := 1) (k := 2) (f := zp_isR) (pc' := 142) rfl rfl (zw_gt l2 rfl rfl) rfl rfl ?_
            refine zw_ld (n := 1) (k := 3) (f := zp_isI) (pc' := 143) rfl rfl (zw_gt l3 rfl rfl) rfl rfl ?_
            refine zw_ld (n := 2) (k := 6) (f := zp_isI) (pc' := 145) rfl rfl (zw_gt l6 rfl rfl) rfl rfl ?_
            rcases xTv_c b4 with ⟨rfl, hG⟩ | ⟨rfl, hG⟩
            · refine zw_c (pc' := 148) (zw_cv (q := 60) (Y := zm_149) W1.1 rfl rfl zm_149_t rfl rfl) rfl rfl rfl rfl rfl (b1) ?_
              refine zw_beq1 (g := 170) (pc' := 151) rfl rfl rfl (rfl : _ = (1 : Int)) (fun h9 => absurd h9 (by decide)) (fun h9 => ?_)
              refine zw_ld (n := 1) (k := 0) (f := zp_isR) (pc' := 152) rfl rfl (zw_gt l0 rfl rfl) rfl rfl ?_
              refine zw_gR (q := 60) (pc' := 155) W2 rfl rfl rfl rfl (W2.2 60 8 _ rfl) rfl ?_
              refine zw_s (pc' := 156) rfl rfl ?_
              refine zw_ld (n := 1) (k := 0) (f := zp_isR) (pc' := 157) rfl rfl (zw_gt l0 rfl rfl) rfl rfl ?_
              refine zw_gR (q := 60) (pc' := 160) W2 rfl rfl rfl rfl (W2.2 60 9 _ rfl) rfl ?_
              refine zw_s (pc' := 161) rfl rfl ?_
              refine zw_s (pc' := 163) rfl rfl ?_
              have k3 : ∀ p k, p ≠ 68 → (zw_K K2 68 (va_cpy (K2.2.1 67) (K2.2.1 68) (Int32.ofInt 0).toInt.toNat (Int32.ofInt 0).toInt.toNat (Int32.ofInt 8).toInt.toNat)).2.1 p k = K2.2.1 p k := fun p k hp => zw_Kn hp
              have k4 : ∀ k, k < 8 → (zw_K K2 68 (va_cpy (K2.2.1 67) (K2.2.1 68) (Int32.ofInt 0).toInt.toNat (Int32.ofInt 0).toInt.toNat (Int32.ofInt 8).toInt.toNat)).2.1 68 k = K2.2.1 67 k := fun k hk => zw_Ke.trans ((va_cpy_i ⟨Nat.zero_le _, by show k < 0 + 8; omega⟩).trans (congrArg (K2.2.1 67) (show 0 + (k - 0) = k by omega)))
              have W3 : zw_W (zw_K K2 68 (va_cpy (K2.2.1 67) (K2.2.1 68) (Int32.ofInt 0).toInt.toNat (Int32.ofInt 0).toInt.toNat (Int32.ofInt 8).toInt.toNat)) := W2
              have D3 : tDk b6 m6 (tGd S CC 2 H0 p N) N H0 (zw_K K2 68 (va_cpy (K2.2.1 67) (K2.2.1 68) (Int32.ofInt 0).toInt.toNat (Int32.ofInt 0).toInt.toNat (Int32.ofInt 8).toInt.toNat)) := tDk_o D2 ⟨rfl, rfl, fun p k hp => k3 p k (fun h9 => hp (Or.inr h9)), fun _ _ _ _ => rfl⟩
              refine zw_ac (q0 := 67) (q1 := 68) (pc' := 166) W2 rfl rfl rfl rfl ⟨by decide, by decide, by decide, by decide, by decide, (show (0 : Nat) ≤ 8 by decide)⟩ rfl ?_
              refine zw_ld (n := 2) (k := 5) (f := zp_isI) (pc' := 168) rfl rfl (zw_gt l5 rfl rfl) rfl rfl ?_
              refine zw_st (n := 2) (k := 4) (f := zp_isI) (pc' := 170) rfl rfl rfl rfl rfl ?_
              refine zw_ii (pc' := 173) rfl (zw_gt (zw_gt l6 rfl rfl) rfl rfl) rfl rfl ?_
              refine zw_s (pc' := 82) rfl rfl ?_
              rw [as]
              exact ih (zw_K K2 68 (va_cpy (K2.2.1 67) (K2.2.1 68) (Int32.ofInt 0).toInt.toNat (Int32.ofInt 0).toInt.toNat (Int32.ofInt 8).toInt.toNat)) _ m (a + 1) sz sz hsz W3 D3 (by omega) (tFV_new (r1.trans hta) (fun k hk => (k4 k (by omega)).trans ((b67 k).trans (r3 k (by omega)))) ⟨hta, r2, hG⟩ hlow (fun r' hr => hle r r' r2 hr)) (zw_gt (zw_gt (zw_gt l0 rfl rfl) rfl rfl) rfl rfl) (zw_gt (zw_gt (zw_gt l1 rfl rfl) rfl rfl) rfl rfl) (zw_gt (zw_gt (zw_gt l2 rfl rfl) rfl rfl) rfl rfl) (zw_gt (zw_gt (zw_gt l3 rfl rfl) rfl rfl) rfl rfl) (zw_gt zw_g1 rfl rfl) (zw_gt (zw_gt (zw_gt l5 rfl rfl) rfl rfl) rfl rfl) zw_g1 hP
            · refine zw_c (pc' := 148) (zw_cv (q := 60) (Y := zm_149) W1.1 rfl rfl zm_149_t rfl rfl) rfl rfl rfl rfl rfl (b1) ?_
              refine zw_beq1 (g := 170) (pc' := 151) rfl rfl rfl (rfl : _ = (0 : Int)) (fun h9 => ?_) (fun h9 => absurd h9 (by decide))
              refine zw_ii (pc' := 173) rfl (zw_gt l6 rfl rfl) rfl rfl ?_
              refine zw_s (pc' := 82) rfl rfl ?_
              rw [as]
              exact ih K2 _ m (a + 1) sz len hsz W2 D2 (by omega) (tFV_no hV (fun k => (b68 k).trans (q2 k)) (fun r' hr => by rw [hr.2.2] at hG; cases hG)) (zw_gt (zw_gt l0 rfl rfl) rfl rfl) (zw_gt (zw_gt l1 rfl rfl) rfl rfl) (zw_gt (zw_gt l2 rfl rfl) rfl rfl) (zw_gt (zw_gt l3 rfl rfl) rfl rfl) (zw_gt (zw_gt l4 rfl rfl) rfl rfl) (zw_gt (zw_gt l5 rfl rfl) rfl rfl) zw_g1 hP
          · have h4 : ¬ len.toInt = -1 := h4
            have hV' := hV
            rcases hV' with ⟨v1, _⟩ | ⟨v1, q, v2, v3, v4, v5⟩
            · exact absurd (by rw [v1]; decide) h4
            have z0 : (Int32.ofInt 0).toInt = 0 := by decide
            have zn : (Int32.ofInt 0).toInt.toNat = 0 := by decide
            have hq8 : ∀ s, s ∈ q → s < 8 := fun s hs => by
              obtain ⟨x, x1, x2⟩ := v4
              exact tm_8 (by omega) ((tG_mem x2.2.1 s).mp hs)
            have hr8 : ∀ s, s ∈ r → s < 8 := fun s hs => tm_8 ha ((tG_mem r2 s).mp hs)
            have hA9 := tAh_N (f := K.2.1 67) (g := K.2.1 68) r q (Int32.ofInt 0) 0 (by omega) (by decide) (by rw [z0]; omega) hr8 hq8 (fun k hk => by rw [zn, Nat.zero_add]; exact r3 k hk) (fun k hk => by rw [zn, Nat.zero_add]; exact (q2 k).trans (v3 k (by omega)))
            have ra := yc_ra (L := L) (σ := σ) (d := d + 5) (H := K) (x1 := sz) W1 (by omega)
            rw [show sz.toInt.toNat = r.length by omega] at ra
            refine zw_ld (n := 1) (k := 0) (f := zp_isR) (pc' := 119) rfl rfl l0 rfl rfl ?_
            refine zw_ld (n := 2) (k := 5) (f := zp_isI) (pc' := 121) rfl rfl l5 rfl rfl ?_
            rcases hA9 with ⟨t1, t2⟩ | ⟨t1, t2⟩ <;> rw [t1] at ra
            · refine zw_c (pc' := 124) (zw_cv (q := 60) (Y := zm_148) W1.1 rfl rfl zm_148_t rfl rfl) rfl rfl rfl rfl rfl (ra) ?_
              refine zw_beq1 (g := 131) (pc' := 127) rfl rfl rfl (rfl : _ = (1 : Int)) (fun h9 => absurd h9 (by decide)) (fun h9 => ?_)
              have hlow : ∀ a', a' < a → ∀ r', (tCd A B (tGd S CC 2 H0 p N)) m a' r' → tN r 0 ≤ tN r' 0 := fun a' ha' r' hr' => by
                have := v5 a' ha' r' hr'
                omega
              refine zw_s (pc' := 128) rfl rfl ?_
              refine zw_s (pc' := 132) rfl rfl ?_
              refine zw_st (n := 2) (k := 7) (f := zp_isI) (pc' := 134) rfl rfl rfl rfl rfl ?_
              refine zw_ld (n := 2) (k := 7) (f := zp_isI) (pc' := 136) rfl rfl zw_g1 rfl rfl ?_
              refine zw_beq1 (g := 170) (pc' := 139) rfl rfl rfl (rfl : _ = (1 : Int)) (fun h9 => absurd h9 (by decide)) (fun h9 => ?_)
              obtain ⟨K2, v2, b1, W2, D2, b4, b67, b68⟩ := yd_bt2 (L := L) (σ := σ) (d := d) hy W1 D1 ha
              refine zw_ld (n := 1) (k := 0) (f := zp_isR) (pc' := 140) rfl rfl (zw_gt l0 rfl rfl) rfl rfl ?_
              refine zw_ld (n := 1) (k := 1) (f := zp_isR) (pc' := 141) rfl rfl (zw_gt l1 rfl rfl) rfl rfl ?_
              refine zw_ld (n := 1) (k := 2) (f := zp_isR) (pc' := 142) rfl rfl (zw_gt l2 rfl rfl) rfl rfl ?_
              refine zw_ld (n := 1) (k := 3) (f := zp_isI) (pc' := 143) rfl rfl (zw_gt l3 rfl rfl) rfl rfl ?_
              refine zw_ld (n := 2) (k := 6) (f := zp_isI) (pc' := 145) rfl rfl (zw_gt l6 rfl rfl) rfl rfl ?_
              rcases xTv_c b4 with ⟨rfl, hG⟩ | ⟨rfl, hG⟩
              · refine zw_c (pc' := 148) (zw_cv (q := 60) (Y := zm_149) W1.1 rfl rfl zm_149_t rfl rfl) rfl rfl rfl rfl rfl (b1) ?_
                refine zw_beq1 (g := 170) (pc' := 151) rfl rfl rfl (rfl : _ = (1 : Int)) (fun h9 => absurd h9 (by decide)) (fun h9 => ?_)
                refine zw_ld (n := 1) (k := 0) (f := zp_isR) (pc' := 152) rfl rfl (zw_gt l0 rfl rfl) rfl rfl ?_
                refine zw_gR (q := 60) (pc' := 155) W2 rfl rfl rfl rfl (W2.2 60 8 _ rfl) rfl ?_
                refine zw_s (pc' := 156) rfl rfl ?_
                refine zw_ld (n := 1) (k := 0) (f := zp_isR) (pc' := 157) rfl rfl (zw_gt l0 rfl rfl) rfl rfl ?_
                refine zw_gR (q := 60) (pc' := 160) W2 rfl rfl rfl rfl (W2.2 60 9 _ rfl) rfl ?_
                refine zw_s (pc' := 161) rfl rfl ?_
                refine zw_s (pc' := 163) rfl rfl ?_
                have k3 : ∀ p k, p ≠ 68 → (zw_K K2 68 (va_cpy (K2.2.1 67) (K2.2.1 68) (Int32.ofInt 0).toInt.toNat (Int32.ofInt 0).toInt.toNat (Int32.ofInt 8).toInt.toNat)).2.1 p k = K2.2.1 p k := fun p k hp => zw_Kn hp
                have k4 : ∀ k, k < 8 → (zw_K K2 68 (va_cpy (K2.2.1 67) (K2.2.1 68) (Int32.ofInt 0).toInt.toNat (Int32.ofInt 0).toInt.toNat (Int32.ofInt 8).toInt.toNat)).2.1 68 k = K2.2.1 67 k := fun k hk => zw_Ke.trans ((va_cpy_i ⟨Nat.zero_le _, by show k < 0 + 8; omega⟩).trans (congrArg (K2.2.1 67) (show 0 + (k - 0) = k by omega)))
                have W3 : zw_W (zw_K K2 68 (va_cpy (K2.2.1 67) (K2.2.1 68) (Int32.ofInt 0).toInt.toNat (Int32.ofInt 0).toInt.toNat (Int32.ofInt 8).toInt.toNat)) := W2
                have D3 : tDk b6 m6 (tGd S CC 2 H0 p N) N H0 (zw_K K2 68 (va_cpy (K2.2.1 67) (K2.2.1 68) (Int32.ofInt 0).toInt.toNat (Int32.ofInt 0).toInt.toNat (Int32.ofInt 8).toInt.toNat)) := tDk_o D2 ⟨rfl, rfl, fun p k hp => k3 p k (fun h9 => hp (Or.inr h9)), fun _ _ _ _ => rfl⟩
                refine zw_ac (q0 := 67) (q1 := 68) (pc' := 166) W2 rfl rfl rfl rfl ⟨by decide, by decide, by decide, by decide, by decide, (show (0 : Nat) ≤ 8 by decide)⟩ rfl ?_
                refine zw_ld (n := 2) (k := 5) (f := zp_isI) (pc' := 168) rfl rfl (zw_gt l5 rfl rfl) rfl rfl ?_
                refine zw_st (n := 2) (k := 4) (f := zp_isI) (pc' := 170) rfl rfl rfl rfl rfl ?_
                refine zw_ii (pc' := 173) rfl (zw_gt (zw_gt l6 rfl rfl) rfl rfl) rfl rfl ?_
                refine zw_s (pc' := 82) rfl rfl ?_
                rw [as]
                exact ih (zw_K K2 68 (va_cpy (K2.2.1 67) (K2.2.1 68) (Int32.ofInt 0).toInt.toNat (Int32.ofInt 0).toInt.toNat (Int32.ofInt 8).toInt.toNat)) _ m (a + 1) sz sz hsz W3 D3 (by omega) (tFV_new (r1.trans hta) (fun k hk => (k4 k (by omega)).trans ((b67 k).trans (r3 k (by omega)))) ⟨hta, r2, hG⟩ hlow (fun r' hr => hle r r' r2 hr)) (zw_gt (zw_gt (zw_gt l0 rfl rfl) rfl rfl) rfl rfl) (zw_gt (zw_gt (zw_gt l1 rfl rfl) rfl rfl) rfl rfl) (zw_gt (zw_gt (zw_gt l2 rfl rfl) rfl rfl) rfl rfl) (zw_gt (zw_gt (zw_gt l3 rfl rfl) rfl rfl) rfl rfl) (zw_gt zw_g1 rfl rfl) (zw_gt (zw_gt (zw_gt l5 rfl rfl) rfl rfl) rfl rfl) zw_g1 hP
              · refine zw_c (pc' := 148) (zw_cv (q := 60) (Y := zm_149) W1.1 rfl rfl zm_149_t rfl rfl) rfl rfl rfl rfl rfl (b1) ?_
                refine zw_beq1 (g := 170) (pc' := 151) rfl rfl rfl (rfl : _ = (0 : Int)) (fun h9 => ?_) (fun h9 => absurd h9 (by decide))
                refine zw_ii (pc' := 173) rfl (zw_gt l6 rfl rfl) rfl rfl ?_
                refine zw_s (pc' := 82) rfl rfl ?_
                rw [as]
                exact ih K2 _ m (a + 1) sz len hsz W2 D2 (by omega) (tFV_no hV (fun k => (b68 k).trans (q2 k)) (fun r' hr => by rw [hr.2.2] at hG; cases hG)) (zw_gt (zw_gt l0 rfl rfl) rfl rfl) (zw_gt (zw_gt l1 rfl rfl) rfl rfl) (zw_gt (zw_gt l2 rfl rfl) rfl rfl) (zw_gt (zw_gt l3 rfl rfl) rfl rfl) (zw_gt (zw_gt l4 rfl rfl) rfl rfl) (zw_gt (zw_gt l5 rfl rfl) rfl rfl) zw_g1 hP
            · refine zw_c (pc' := 124) (zw_cv (q := 60) (Y := zm_148) W1.1 rfl rfl zm_148_t rfl rfl) rfl rfl rfl rfl rfl (ra) ?_
              refine zw_beq1 (g := 131) (pc' := 127) rfl rfl rfl (rfl : _ = (0 : Int)) (fun h9 => ?_) (fun h9 => absurd h9 (by decide))
              refine zw_s (pc' := 132) rfl rfl ?_
              refine zw_st (n := 2) (k := 7) (f := zp_isI) (pc' := 134) rfl rfl rfl rfl rfl ?_
              refine zw_ld (n := 2) (k := 7) (f := zp_isI) (pc' := 136) rfl rfl zw_g1 rfl rfl ?_
              refine zw_beq1 (g := 170) (pc' := 139) rfl rfl rfl (rfl : _ = (0 : Int)) (fun h9 => ?_) (fun h9 => absurd h9 (by decide))
              refine zw_ii (pc' := 173) rfl (zw_gt l6 rfl rfl) rfl rfl ?_
              refine zw_s (pc' := 82) rfl rfl ?_
              rw [as]
              exact ih K _ m (a + 1) sz len hsz W1 D1 (by omega) (by rw [v1]; exact tFV_ge v2 v3 v4 v5 q2 (fun r' hr => by have := hle r r' r2 hr; omega)) (zw_gt (zw_gt l0 rfl rfl) rfl rfl) (zw_gt (zw_gt l1 rfl rfl) rfl rfl) (zw_gt (zw_gt l2 rfl rfl) rfl rfl) (zw_gt (zw_gt l3 rfl rfl) rfl rfl) (zw_gt (zw_gt l4 rfl rfl) rfl rfl) (zw_gt (zw_gt l5 rfl rfl) rfl rfl) zw_g1 hP
        · refine zw_c (pc' := 109) (zw_cv (q := 60) (Y := zm_146) W.1 rfl rfl zm_146_t rfl rfl) rfl rfl rfl rfl rfl (q1) ?_
          refine zw_beq1 (g := 131) (pc' := 112) rfl rfl rfl (rfl : _ = (0 : Int)) (fun h9 => ?_) (fun h9 => absurd h9 (by decide))
          refine zw_s (pc' := 132) rfl rfl ?_
          refine zw_st (n := 2) (k := 7) (f := zp_isI) (pc' := 134) rfl rfl rfl rfl rfl ?_
          refine zw_ld (n := 2) (k := 7) (f := zp_isI) (pc' := 136) rfl rfl zw_g1 rfl rfl ?_
          refine zw_beq1 (g := 170) (pc' := 139) rfl rfl rfl (rfl : _ = (0 : Int)) (fun h9 => ?_) (fun h9 => absurd h9 (by decide))
          refine zw_ii (pc' := 173) rfl (zw_gt l6 rfl rfl) rfl rfl ?_
          refine zw_s (pc' := 82) rfl rfl ?_
          rw [as]
          exact ih K _ m (a + 1) sz len hsz W1 D1 (by omega) (tFV_no hV q2 (fun r' hr => tF_no (n := N) (tG_V hr.2.1 (fun s hs => ⟨hbN s hs, List.not_mem_nil⟩)) (tG_mem hr.2.1) r2)) (zw_gt (zw_gt l0 rfl rfl) rfl rfl) (zw_gt (zw_gt l1 rfl rfl) rfl rfl) (zw_gt (zw_gt l2 rfl rfl) rfl rfl) (zw_gt (zw_gt l3 rfl rfl) rfl rfl) (zw_gt (zw_gt l4 rfl rfl) rfl rfl) (zw_gt (zw_gt l5 rfl rfl) rfl rfl) zw_g1 hP

theorem yd_pr22 {L : Nat} {σ : Nat → Int32} {d : Nat} {a : Nat} {S : xSea} {CC : Nat → List xIt} {H0 H : zp_H} {p : Int32} {N : Nat} {A : Nat → Bool} {B : Nat → Nat → Bool} {b6 : Nat} {m6 : Nat → Nat} (hy : tHy S CC 22 H0 p N A B b6 m6) (W : zw_W H) (hD : tDk b6 m6 (tGd S CC 22 H0 p N) N H0 H) (ha : a < 256) (hb : ∀ s, a.testBit s = true → s < N) : ∃ K v, zp_Call L σ (d + 2) 146 [.inr (.inr (some 61)), .inl (Int32.ofNat a)] H (.inl (some (.inl v)), K) ∧ zw_W K ∧ tDk b6 m6 (tGd S CC 22 H0 p N) N H0 K ∧ (∀ k, K.2.1 68 k = H.2.1 68 k) ∧ ((v = Int32.ofInt 1 ∧ ∃ r, r.length = tC a ∧ tG A B [] (fun s => a.testBit s) r ∧ ∀ k, k < r.length → K.2.1 67 k = Int32.ofNat (r.getD k 0)) ∨ (v = Int32.ofInt 0 ∧ ∃ r, tF A B [] (fun s => a.testBit s) r)) := by
  obtain ⟨hS, hC, hCC, hp, hc, hN8, hn, h64, hb6, hA, hm6⟩ := hy
  obtain ⟨_, q1, K, v, rfl, W1, q2, q3⟩ := yc_pr (L := L) (σ := σ) (d := d) (H := H) (A := A) (B := B) (m := m6) (n9 := N) (a := a) (b := b6) W (fun g hg => ⟨hD.2.2.1 g hg, hm6 g hg⟩) ha hb hb6 hD.2.1 hA
  exact ⟨K, v, q1, W1, tDk_o hD (tFw_m (fun _ _ h9 => Or.inl h9) q2), fun k => q2.2.2.1 68 k (show ¬ ((68 : Nat) = 67) by decide), q3⟩
theorem yd_bt22 {L : Nat} {σ : Nat → Int32} {d : Nat} {a : Nat} {S : xSea} {CC : Nat → List xIt} {H0 H : zp_H} {p : Int32} {N : Nat} {A : Nat → Bool} {B : Nat → Nat → Bool} {b6 : Nat} {m6 : Nat → Nat} (hy : tHy S CC 22 H0 p N A B b6 m6) (W : zw_W H) (hD : tDk b6 m6 (tGd S CC 22 H0 p N) N H0 H) (ha : a < 256) : ∃ K v, zp_Call L σ (d + 6) 149 [.inr (.inr (some 61)), .inr (.inr (some 23)), .inr (.inr (some 57)), .inl p, .inl (Int32.ofNat a)] H (.inl (some (.inl v)), K) ∧ zw_W K ∧ tDk b6 m6 (tGd S CC 22 H0 p N) N H0 K ∧ v = xTv ((tGd S CC 22 H0 p N) a) ∧ (∀ k, K.2.1 67 k = H.2.1 67 k) ∧ ∀ k, K.2.1 68 k = H.2.1 68 k := by
  obtain ⟨hS, hC, hCC, hp, hc, hN8, hn, h64, hb6, hA, hm6⟩ := hy
  obtain ⟨F, e6, e66, hv⟩ := hD
  have f : ∀ q k, q < 54 → H.2.1 q k = H0.2.1 q k := fun q k hq => F.2.2.1 q k (by unfold tQ8 tQh; omega)
  have f1 : ∀ q k, q < 54 → H.2.2.1 q k = H0.2.2.1 q k := fun q k hq => F.2.2.2 q k (by omega) (by omega)
  have e0 : H.2.1 60 0 = H0.2.1 60 0 := F.2.2.1 60 0 (by unfold tQ8 tQh; omega)
  have e64 : H.2.1 64 = H0.2.1 64 := funext fun k => F.2.2.1 64 k (by unfold tQ8 tQh; omega)
  have e63 : H.2.2.1 63 = H0.2.2.1 63 := funext fun k => F.2.2.2 63 k (by decide) (by decide)
  have en : (H.2.1 60 0).toInt.toNat = N := by rw [e0]; omega
  have z0 : (Int32.ofInt 0).toInt = 0 := by decide
  have hm : ∃ m : Nat → Nat, ∀ j, j < N → m j < 256 ∧ xLo (H0.2.2.1 63) (Int32.ofNat j) = Int32.ofNat (m j) := by
    have k : ∀ j, ∃ x, j < N → x < 256 ∧ xLo (H0.2.2.1 63) (Int32.ofNat j) = Int32.ofNat x := fun j => by
      by_cases hj : j < N
      · obtain ⟨x, x1, x2, -⟩ := tLo (f := H0.2.2.1 63) (s := j) (by omega)
        exact ⟨x, fun _ => ⟨x1, x2⟩⟩
      · exact ⟨0, fun h => absurd h hj⟩
    exact ⟨fun j => Classical.choose (k j), fun j => Classical.choose_spec (k j)⟩
  obtain ⟨m, hm⟩ := hm
  obtain ⟨l, l1, l2, -⟩ := tLs_m (g := H0.2.1 64) (m := m) ha N (Int32.ofInt 0) 0 (by decide) (by decide) (by rw [z0]; omega) (fun j hj => by
    rw [z0] at hj
    obtain ⟨k1, k2⟩ := hm j (by omega)
    exact ⟨(h64 j (by omega)).trans k2, k1⟩)
  rw [← tm_z] at l2
  have gl := tKn_l (f := H0.2.2.1 63) (g := H0.2.1 64) ha l1 hN8 h64 l2
  have eG : (tGd S CC 22 H0 p N) l = (tGd S CC 22 H0 p N) a := by
    unfold tGd
    rw [gl]
  obtain ⟨_, q1, K, v, rfl, W1, q2, q3, q4, q5⟩ := yc_bt22 (L := L) (σ := σ) (d := d) (S := S) (CC := CC) (H0 := H) (H9 := H0) (p := p) (set := Int32.ofNat a) (l := l) W (by rw [e0]; omega) f f1 hS hC hCC hp hc l1 (by rw [en, e64]; exact l2) (by
    rw [en, e63, ← gl]
    exact hv l l1)
  rw [en, e63] at q3 q5
  refine ⟨K, v, q1, W1, ⟨tFw_t F (tFw_m (fun p k h => h.elim Or.inl (fun (h9 : p = 65) => Or.inr (Or.inl (by omega)))) q2), (q2.2.2.1 60 6 (by unfold tQ2 tQh; omega)).trans e6, fun g hg => (q2.2.2.1 66 g (by unfold tQ2 tQh; omega)).trans (e66 g hg), fun j hj => ?_⟩, q3, fun k => q2.2.2.1 67 k (by unfold tQ2 tQh; omega), fun k => q2.2.2.1 68 k (by unfold tQ2 tQh; omega)⟩
  by_cases h9 : j = l
  · rw [h9, eG]
    exact Or.inr q5
  · rw [q4 j h9]
    exact hv j hj

theorem yc_fdS22 {L : Nat} {σ : Nat → Int32} {d : Nat} {P : zp_X → Prop} {NN : Nat} {S : xSea} {CC : Nat → List xIt} {H0 : zp_H} {p : Int32} {N : Nat} {A : Nat → Bool} {B : Nat → Nat → Bool} {b6 : Nat} {m6 : Nat → Nat} (hy : tHy S CC 22 H0 p N A B b6 m6) (hNN : NN = 2 ^ N) (hN2 : NN ≤ 256) : ∀ (n : Nat) (H : zp_H) (lv : zp_LV) (m a : Nat) (sz len : Int32), sz.toInt = (m : Int) → zw_W H → tDk b6 m6 (tGd S CC 22 H0 p N) N H0 H → a + n = NN → tFV ((tCd A B (tGd S CC 22 H0 p N)) m) m sz a len H → zp_get lv 0 = some (.inr (.inr (some 61))) → zp_get lv 1 = some (.inr (.inr (some 23))) → zp_get lv 2 = some (.inr (.inr (some 57))) → zp_get lv 3 = some (.inl p) → zp_get lv 4 = some (.inl len) → zp_get lv 5 = some (.inl sz) → zp_get lv 6 = some (.inl (Int32.ofNat a)) → (∀ H lv len, zw_W H → tDk b6 m6 (tGd S CC 22 H0 p N) N H0 H → tFV ((tCd A B (tGd S CC 22 H0 p N)) m) m sz NN len H → zp_get lv 0 = some (.inr (.inr (some 61))) → zp_get lv 1 = some (.inr (.inr (some 23))) → zp_get lv 2 = some (.inr (.inr (some 57))) → zp_get lv 3 = some (.inl p) → zp_get lv 4 = some (.inl len) → zp_get lv 5 = some (.inl sz) → zs_Safe L σ P zm_141 [] (d + 6) (176, lv, [], H, (0, 0))) → zs_Safe L σ P zm_141 [] (d + 6) (82, lv, [], H, (0, 0)) := by
  intro n
  induction n with
  | zero =>
    intro H lv m a sz len hsz W hD hn hV l0 l1 l2 l3 l4 l5 l6 hP
    have e60 : (H.2.1 60 0).toInt = (N : Int) := (congrArg Int32.toInt (hD.1.2.2.1 60 0 (by unfold tQ8 tQh; omega))).trans hy.2.2.2.2.2.2.1
    have hN8 := hy.2.2.2.2.2.1
    have hsh := tm_s8 (s := H.2.1 60 0) (by omega) (by omega)
    rw [show (H.2.1 60 0).toInt.toNat = N by omega, ← hNN] at hsh
    have tA := tm_t9 (a := a) (by omega)
    refine zw_ld (n := 2) (k := 6) (f := zp_isI) (pc' := 84) rfl rfl l6 rfl rfl ?_
    refine zw_s (pc' := 85) rfl rfl ?_
    refine zw_ld (n := 1) (k := 0) (f := zp_isR) (pc' := 86) rfl rfl l0 rfl rfl ?_
    refine zw_gI (q := 60) (pc' := 89) W rfl rfl rfl rfl rfl rfl ?_
    refine zw_ishl (pc' := 90) rfl rfl ?_
    refine zw_bge2 (g := 176) (pc' := 93) rfl rfl rfl rfl rfl (fun h1 => ?_) (fun h1 => ?_)
    · have ea : a = NN := by omega
      rw [ea] at hV
      exact hP H _ len W hD hV l0 l1 l2 l3 l4 l5
    · have hn : a + 0 = NN := hn
      omega
  | succ n ih =>
    intro H lv m a sz len hsz W hD hn hV l0 l1 l2 l3 l4 l5 l6 hP
    have e60 : (H.2.1 60 0).toInt = (N : Int) := (congrArg Int32.toInt (hD.1.2.2.1 60 0 (by unfold tQ8 tQh; omega))).trans hy.2.2.2.2.2.2.1
    have hN8 := hy.2.2.2.2.2.1
    have hsh := tm_s8 (s := H.2.1 60 0) (by omega) (by omega)
    rw [show (H.2.1 60 0).toInt.toNat = N by omega, ← hNN] at hsh
    have tA := tm_t9 (a := a) (by omega)
    refine zw_ld (n := 2) (k := 6) (f := zp_isI) (pc' := 84) rfl rfl l6 rfl rfl ?_
    refine zw_s (pc' := 85) rfl rfl ?_
    refine zw_ld (n := 1) (k := 0) (f := zp_isR) (pc' := 86) rfl rfl l0 rfl rfl ?_
    refine zw_gI (q := 60) (pc' := 89) W rfl rfl rfl rfl rfl rfl ?_
    refine zw_ishl (pc' := 90) rfl rfl ?_
    refine zw_bge2 (g := 176) (pc' := 93) rfl rfl rfl rfl rfl (fun h1 => ?_) (fun h1 => ?_)
    · omega
    · have ha : a < 256 := by omega
      have hbN : ∀ s, a.testBit s = true → s < N := fun s hs => by
        refine Nat.lt_of_not_le (fun h9 => ?_)
        have h7 : (2 : Nat) ^ N ≤ 2 ^ s := Nat.pow_le_pow_right (by decide) h9
        rw [Nat.testBit_lt_two_pow (show a < 2 ^ s by omega)] at hs
        cases hs
      have tc1 := (tC_b ha).1
      have as := tm_s (a := a) (by omega)
      refine zw_ld (n := 2) (k := 6) (f := zp_isI) (pc' := 95) rfl rfl l6 rfl rfl ?_
      refine zw_c (pc' := 98) (zw_cs (Y := zm_117) rfl rfl zm_117_t) rfl rfl rfl rfl rfl (yc_bcI) ?_
      refine zw_ld (n := 2) (k := 5) (f := zp_isI) (pc' := 100) rfl rfl l5 rfl rfl ?_
      refine zw_bne2 (g := 131) (pc' := 103) rfl rfl rfl rfl rfl (fun h2 => ?_) (fun h2 => ?_)
      · have h2 : ¬ (yIb (Int32.ofNat a)).toInt = sz.toInt := h2
        refine zw_s (pc' := 132) rfl rfl ?_
        refine zw_st (n := 2) (k := 7) (f := zp_isI) (pc' := 134) rfl rfl rfl rfl rfl ?_
        refine zw_ld (n := 2) (k := 7) (f := zp_isI) (pc' := 136) rfl rfl zw_g1 rfl rfl ?_
        refine zw_beq1 (g := 170) (pc' := 139) rfl rfl rfl (rfl : _ = (0 : Int)) (fun h9 => ?_) (fun h9 => absurd h9 (by decide))
        refine zw_ii (pc' := 173) rfl (zw_gt l6 rfl rfl) rfl rfl ?_
        refine zw_s (pc' := 82) rfl rfl ?_
        rw [as]
        exact ih H _ m (a + 1) sz len hsz W hD (by omega) (tFV_no hV (fun _ => rfl) (fun r hr => h2 (by rw [tc1, hr.1, hsz]))) (zw_gt (zw_gt l0 rfl rfl) rfl rfl) (zw_gt (zw_gt l1 rfl rfl) rfl rfl) (zw_gt (zw_gt l2 rfl rfl) rfl rfl) (zw_gt (zw_gt l3 rfl rfl) rfl rfl) (zw_gt (zw_gt l4 rfl rfl) rfl rfl) (zw_gt (zw_gt l5 rfl rfl) rfl rfl) zw_g1 hP
      · have h2 : (yIb (Int32.ofNat a)).toInt = sz.toInt := h2
        have hta : tC a = m := by omega
        obtain ⟨K, v, q1, W1, D1, q2, q3⟩ := yd_pr22 (L := L) (σ := σ) (d := d + 4) hy W hD ha hbN
        have hle : ∀ r r', tG A B [] (fun s => a.testBit s) r → (tCd A B (tGd S CC 22 H0 p N)) m a r' → tN r 0 ≤ tN r' 0 := fun r r' h8 h9 => (tG_le (n := N) (by omega) (tG_V h9.2.1 (fun s hs => ⟨hbN s hs, List.not_mem_nil⟩)) (tG_mem h9.2.1) h8 (fun s hs => ⟨hbN s hs, List.not_mem_nil⟩)).2
        refine zw_ld (n := 1) (k := 0) (f := zp_isR) (pc' := 104) rfl rfl l0 rfl rfl ?_
        refine zw_ld (n := 2) (k := 6) (f := zp_isI) (pc' := 106) rfl rfl l6 rfl rfl ?_
        rcases q3 with ⟨rfl, r, r1, r2, r3⟩ | ⟨rfl, r, r2⟩
        · refine zw_c (pc' := 109) (zw_cv (q := 60) (Y := zm_146) W.1 rfl rfl zm_146_t rfl rfl) rfl rfl rfl rfl rfl (q1) ?_
          refine zw_beq1 (g := 131) (pc' := 112) rfl rfl rfl (rfl : _ = (1 : Int)) (fun h9 => absurd h9 (by decide)) (fun h9 => ?_)
          refine zw_ld (n := 2) (k := 4) (f := zp_isI) (pc' := 114) rfl rfl l4 rfl rfl ?_
          refine zw_s (pc' := 115) rfl rfl ?_
          have hm8 : m ≤ 8 := by have := (tC_b ha).2; omega
          refine zw_beq2 (g := 127) (pc' := 118) rfl rfl rfl rfl (rfl : _ = (-1 : Int)) (fun h4 => ?_) (fun h4 => ?_)
          · have h4 : len.toInt = -1 := h4
            have hlow : ∀ a', a' < a → ∀ r', (tCd A B (tGd S CC 22 H0 p N)) m a' r' → tN r 0 ≤ tN r' 0 := fun a' ha' r' hr' => by
              rcases hV with ⟨_, v2⟩ | ⟨v1, _⟩
              · exact absurd hr' (v2 a' ha' r')
              · rw [v1] at h4
                omega
            refine zw_s (pc' := 128) rfl rfl ?_
            refine zw_s (pc' := 132) rfl rfl ?_
            refine zw_st (n := 2) (k := 7) (f := zp_isI) (pc' := 134) rfl rfl rfl rfl rfl ?_
            refine zw_ld (n := 2) (k := 7) (f := zp_isI) (pc' := 136) rfl rfl zw_g1 rfl rfl ?_
            refine zw_beq1 (g := 170) (pc' := 139) rfl rfl rfl (rfl : _ = (1 : Int)) (fun h9 => absurd h9 (by decide)) (fun h9 => ?_)
            obtain ⟨K2, v2, b1, W2, D2, b4, b67, b68⟩ := yd_bt22 (L := L) (σ := σ) (d := d) hy W1 D1 ha
            refine zw_ld (n := 1) (k := 0) (f := zp_isR) (pc' := 140) rfl rfl (zw_gt l0 rfl rfl) rfl rfl ?_
            refine zw_ld (n := 1) (k := 1) (f := zp_isR) (pc' := 141) rfl rfl (zw_gt l1 rfl rfl) rfl rfl ?_
            refine zw_ld (n := 1) (k := 2) (f := zp_isR) (pc' := 142) rfl rfl (zw_gt l2 rfl rfl) rfl rfl ?_
            refine zw_ld (n := 1) (k := 3) (f := zp_isI) (pc' := 143) rfl rfl (zw_gt l3 rfl rfl) rfl rfl ?_
            refine zw_ld (n := 2) (k := 6) (f := zp_isI) (pc' := 145) rfl rfl (zw_gt l6 rfl rfl) rfl rfl ?_
            rcases xTv_c b4 with ⟨rfl, hG⟩ | ⟨rfl, hG⟩
            · refine zw_c (pc' := 148) (zw_cv (q := 60) (Y := zm_149) W1.1 rfl rfl zm_149_t rfl rfl) rfl rfl rfl rfl rfl (b1) ?_
              refine zw_beq1 (g := 170) (pc' := 151) rfl rfl rfl (rfl : _ = (1 : Int)) (fun h9 => absurd h9 (by decide)) (fun h9 => ?_)
              refine zw_ld (n := 1) (k := 0) (f := zp_isR) (pc' := 152) rfl rfl (zw_gt l0 rfl rfl) rfl rfl ?_
              refine zw_gR (q := 60) (pc' := 155) W2 rfl rfl rfl rfl (W2.2 60 8 _ rfl) rfl ?_
              refine zw_s (pc' := 156) rfl rfl ?_
              refine zw_ld (n := 1) (k := 0) (f := zp_isR) (pc' := 157) rfl rfl (zw_gt l0 rfl rfl) rfl rfl ?_
              refine zw_gR (q := 60) (pc' := 160) W2 rfl rfl rfl rfl (W2.2 60 9 _ rfl) rfl ?_
              refine zw_s (pc' := 161) rfl rfl ?_
              refine zw_s (pc' := 163) rfl rfl ?_
              have k3 : ∀ p k, p ≠ 68 → (zw_K K2 68 (va_cpy (K2.2.1 67) (K2.2.1 68) (Int32.ofInt 0).toInt.toNat (Int32.ofInt 0).toInt.toNat (Int32.ofInt 8).toInt.toNat)).2.1 p k = K2.2.1 p k := fun p k hp => zw_Kn hp
              have k4 : ∀ k, k < 8 → (zw_K K2 68 (va_cpy (K2.2.1 67) (K2.2.1 68) (Int32.ofInt 0).toInt.toNat (Int32.ofInt 0).toInt.toNat (Int32.ofInt 8).toInt.toNat)).2.1 68 k = K2.2.1 67 k := fun k hk => zw_Ke.trans ((va_cpy_i ⟨Nat.zero_le _, by show k < 0 + 8; omega⟩).trans (congrArg (K2.2.1 67) (show 0 + (k - 0) = k by omega)))
              have W3 : zw_W (zw_K K2 68 (va_cpy (K2.2.1 67) (K2.2.1 68) (Int32.ofInt 0).toInt.toNat (Int32.ofInt 0).toInt.toNat (Int32.ofInt 8).toInt.toNat)) := W2
              have D3 : tDk b6 m6 (tGd S CC 22 H0 p N) N H0 (zw_K K2 68 (va_cpy (K2.2.1 67) (K2.2.1 68) (Int32.ofInt 0).toInt.toNat (Int32.ofInt 0).toInt.toNat (Int32.ofInt 8).toInt.toNat)) := tDk_o D2 ⟨rfl, rfl, fun p k hp => k3 p k (fun h9 => hp (Or.inr h9)), fun _ _ _ _ => rfl⟩
              refine zw_ac (q0 := 67) (q1 := 68) (pc' := 166) W2 rfl rfl rfl rfl ⟨by decide, by decide, by decide, by decide, by decide, (show (0 : Nat) ≤ 8 by decide)⟩ rfl ?_
              refine zw_ld (n := 2) (k := 5) (f := zp_isI) (pc' := 168) rfl rfl (zw_gt l5 rfl rfl) rfl rfl ?_
              refine zw_st (n := 2) (k := 4) (f := zp_isI) (pc' := 170) rfl rfl rfl rfl rfl ?_
              refine zw_ii (pc' := 173) rfl (zw_gt (zw_gt l6 rfl rfl) rfl rfl) rfl rfl ?_
              refine zw_s (pc' := 82) rfl rfl ?_
              rw [as]
              exact ih (zw_K K2 68 (va_cpy (K2.2.1 67) (K2.2.1 68) (Int32.ofInt 0).toInt.toNat (Int32.ofInt 0).toInt.toNat (Int32.ofInt 8).toInt.toNat)) _ m (a + 1) sz sz hsz W3 D3 (by omega) (tFV_new (r1.trans hta) (fun k hk => (k4 k (by omega)).trans ((b67 k).trans (r3 k (by omega)))) ⟨hta, r2, hG⟩ hlow (fun r' hr => hle r r' r2 hr)) (zw_gt (zw_gt (zw_gt l0 rfl rfl) rfl rfl) rfl rfl) (zw_gt (zw_gt (zw_gt l1 rfl rfl) rfl rfl) rfl rfl) (zw_gt (zw_gt (zw_gt l2 rfl rfl) rfl rfl) rfl rfl) (zw_gt (zw_gt (zw_gt l3 rfl rfl) rfl rfl) rfl rfl) (zw_gt zw_g1 rfl rfl) (zw_gt (zw_gt (zw_gt l5 rfl rfl) rfl rfl) rfl rfl) zw_g1 hP
            · refine zw_c (pc' := 148) (zw_cv (q := 60) (Y := zm_149) W1.1 rfl rfl zm_149_t rfl rfl) rfl rfl rfl rfl rfl (b1) ?_
              refine zw_beq1 (g := 170) (pc' := 151) rfl rfl rfl (rfl : _ = (0 : Int)) (fun h9 => ?_) (fun h9 => absurd h9 (by decide))
              refine zw_ii (pc' := 173) rfl (zw_gt l6 rfl rfl) rfl rfl ?_
              refine zw_s (pc' := 82) rfl rfl ?_
              rw [as]
              exact ih K2 _ m (a + 1) sz len hsz W2 D2 (by omega) (tFV_no hV (fun k => (b68 k).trans (q2 k)) (fun r' hr => by rw [hr.2.2] at hG; cases hG)) (zw_gt (zw_gt l0 rfl rfl) rfl rfl) (zw_gt (zw_gt l1 rfl rfl) rfl rfl) (zw_gt (zw_gt l2 rfl rfl) rfl rfl) (zw_gt (zw_gt l3 rfl rfl) rfl rfl) (zw_gt (zw_gt l4 rfl rfl) rfl rfl) (zw_gt (zw_gt l5 rfl rfl) rfl rfl) zw_g1 hP
          · have h4 : ¬ len.toInt = -1 := h4
            have hV' := hV
            rcases hV' with ⟨v1, _⟩ | ⟨v1, q, v2, v3, v4, v5⟩
            · exact absurd (by rw [v1]; decide) h4
            have z0 : (Int32.ofInt 0).toInt = 0 := by decide
            have zn : (Int32.ofInt 0).toInt.toNat = 0 := by decide
            have hq8 : ∀ s, s ∈ q → s < 8 := fun s hs => by
              obtain ⟨x, x1, x2⟩ := v4
              exact tm_8 (by omega) ((tG_mem x2.2.1 s).mp hs)
            have hr8 : ∀ s, s ∈ r → s < 8 := fun s hs => tm_8 ha ((tG_mem r2 s).mp hs)
            have hA9 := tAh_N (f := K.2.1 67) (g := K.2.1 68) r q (Int32.ofInt 0) 0 (by omega) (by decide) (by rw [z0]; omega) hr8 hq8 (fun k hk => by rw [zn, Nat.zero_add]; exact r3 k hk) (fun k hk => by rw [zn, Nat.zero_add]; exact (q2 k).trans (v3 k (by omega)))
            have ra := yc_ra (L := L) (σ := σ) (d := d + 5) (H := K) (x1 := sz) W1 (by omega)
            rw [show sz.toInt.toNat = r.length by omega] at ra
            refine zw_ld (n := 1) (k := 0) (f := zp_isR) (pc' := 119) rfl rfl l0 rfl rfl ?_
            refine zw_ld (n := 2) (k := 5) (f := zp_isI) (pc' := 121) rfl rfl l5 rfl rfl ?_
            rcases hA9 with ⟨t1, t2⟩ | ⟨t1, t2⟩ <;> rw [t1] at ra
            · refine zw_c (pc' := 124) (zw_cv (q := 60) (Y := zm_148) W1.1 rfl rfl zm_148_t rfl rfl) rfl rfl rfl rfl rfl (ra) ?_
              refine zw_beq1 (g := 131) (pc' := 127) rfl rfl rfl (rfl : _ = (1 : Int)) (fun h9 => absurd h9 (by decide)) (fun h9 => ?_)
              have hlow : ∀ a', a' < a → ∀ r', (tCd A B (tGd S CC 22 H0 p N)) m a' r' → tN r 0 ≤ tN r' 0 := fun a' ha' r' hr' => by
                have := v5 a' ha' r' hr'
                omega
              refine zw_s (pc' := 128) rfl rfl ?_
              refine zw_s (pc' := 132) rfl rfl ?_
              refine zw_st (n := 2) (k := 7) (f := zp_isI) (pc' := 134) rfl rfl rfl rfl rfl ?_
              refine zw_ld (n := 2) (k := 7) (f := zp_isI) (pc' := 136) rfl rfl zw_g1 rfl rfl ?_
              refine zw_beq1 (g := 170) (pc' := 139) rfl rfl rfl (rfl : _ = (1 : Int)) (fun h9 => absurd h9 (by decide)) (fun h9 => ?_)
              obtain ⟨K2, v2, b1, W2, D2, b4, b67, b68⟩ := yd_bt22 (L := L) (σ := σ) (d := d) hy W1 D1 ha
              refine zw_ld (n := 1) (k := 0) (f := zp_isR) (pc' := 140) rfl rfl (zw_gt l0 rfl rfl) rfl rfl ?_
              refine zw_ld (n := 1) (k := 1) (f := zp_isR) (pc' := 141) rfl rfl (zw_gt l1 rfl rfl) rfl rfl ?_
              refine zw_ld (n := 1) (k := 2) (f := zp_isR) (pc' := 142) rfl rfl (zw_gt l2 rfl rfl) rfl rfl ?_
              refine zw_ld (n := 1) (k := 3) (f := zp_isI) (pc' := 143) rfl rfl (zw_gt l3 rfl rfl) rfl rfl ?_
              refine zw_ld (n := 2) (k := 6) (f := zp_isI) (pc' := 145) rfl rfl (zw_gt l6 rfl rfl) rfl rfl ?_
              rcases xTv_c b4 with ⟨rfl, hG⟩ | ⟨rfl, hG⟩
              · refine zw_c (pc' := 148) (zw_cv (q := 60) (Y := zm_149) W1.1 rfl rfl zm_149_t rfl rfl) rfl rfl rfl rfl rfl (b1) ?_
                refine zw_beq1 (g := 170) (pc' := 151) rfl rfl rfl (rfl : _ = (1 : Int)) (fun h9 => absurd h9 (by decide)) (fun h9 => ?_)
                refine zw_ld (n := 1) (k := 0) (f := zp_isR) (pc' := 152) rfl rfl (zw_gt l0 rfl rfl) rfl rfl ?_
                refine zw_gR (q := 60) (pc' := 155) W2 rfl rfl rfl rfl (W2.2 60 8 _ rfl) rfl ?_
                refine zw_s (pc' := 156) rfl rfl ?_
                refine zw_ld (n := 1) (k := 0) (f := zp_isR) (pc' := 157) rfl rfl (zw_gt l0 rfl rfl) rfl rfl ?_
                refine zw_gR (q := 60) (pc' := 160) W2 rfl rfl rfl rfl (W2.2 60 9 _ rfl) rfl ?_
                refine zw_s (pc' := 161) rfl rfl ?_
                refine zw_s (pc' := 163) rfl rfl ?_
                have k3 : ∀ p k, p ≠ 68 → (zw_K K2 68 (va_cpy (K2.2.1 67) (K2.2.1 68) (Int32.ofInt 0).toInt.toNat (Int32.ofInt 0).toInt.toNat (Int32.ofInt 8).toInt.toNat)).2.1 p k = K2.2.1 p k := fun p k hp => zw_Kn hp
                have k4 : ∀ k, k < 8 → (zw_K K2 68 (va_cpy (K2.2.1 67) (K2.2.1 68) (Int32.ofInt 0).toInt.toNat (Int32.ofInt 0).toInt.toNat (Int32.ofInt 8).toInt.toNat)).2.1 68 k = K2.2.1 67 k := fun k hk => zw_Ke.trans ((va_cpy_i ⟨Nat.zero_le _, by show k < 0 + 8; omega⟩).trans (congrArg (K2.2.1 67) (show 0 + (k - 0) = k by omega)))
                have W3 : zw_W (zw_K K2 68 (va_cpy (K2.2.1 67) (K2.2.1 68) (Int32.ofInt 0).toInt.toNat (Int32.ofInt 0).toInt.toNat (Int32.ofInt 8).toInt.toNat)) := W2
                have D3 : tDk b6 m6 (tGd S CC 22 H0 p N) N H0 (zw_K K2 68 (va_cpy (K2.2.1 67) (K2.2.1 68) (Int32.ofInt 0).toInt.toNat (Int32.ofInt 0).toInt.toNat (Int32.ofInt 8).toInt.toNat)) := tDk_o D2 ⟨rfl, rfl, fun p k hp => k3 p k (fun h9 => hp (Or.inr h9)), fun _ _ _ _ => rfl⟩
                refine zw_ac (q0 := 67) (q1 := 68) (pc' := 166) W2 rfl rfl rfl rfl ⟨by decide, by decide, by decide, by decide, by decide, (show (0 : Nat) ≤ 8 by decide)⟩ rfl ?_
                refine zw_ld (n := 2) (k := 5) (f := zp_isI) (pc' := 168) rfl rfl (zw_gt l5 rfl rfl) rfl rfl ?_
                refine zw_st (n := 2) (k := 4) (f := zp_isI) (pc' := 170) rfl rfl rfl rfl rfl ?_
                refine zw_ii (pc' := 173) rfl (zw_gt (zw_gt l6 rfl rfl) rfl rfl) rfl rfl ?_
                refine zw_s (pc' := 82) rfl rfl ?_
                rw [as]
                exact ih (zw_K K2 68 (va_cpy (K2.2.1 67) (K2.2.1 68) (Int32.ofInt 0).toInt.toNat (Int32.ofInt 0).toInt.toNat (Int32.ofInt 8).toInt.toNat)) _ m (a + 1) sz sz hsz W3 D3 (by omega) (tFV_new (r1.trans hta) (fun k hk => (k4 k (by omega)).trans ((b67 k).trans (r3 k (by omega)))) ⟨hta, r2, hG⟩ hlow (fun r' hr => hle r r' r2 hr)) (zw_gt (zw_gt (zw_gt l0 rfl rfl) rfl rfl) rfl rfl) (zw_gt (zw_gt (zw_gt l1 rfl rfl) rfl rfl) rfl rfl) (zw_gt (zw_gt (zw_gt l2 rfl rfl) rfl rfl) rfl rfl) (zw_gt (zw_gt (zw_gt l3 rfl rfl) rfl rfl) rfl rfl) (zw_gt zw_g1 rfl rfl) (zw_gt (zw_gt (zw_gt l5 rfl rfl) rfl rfl) rfl rfl) zw_g1 hP
              · refine zw_c (pc' := 148) (zw_cv (q := 60) (Y := zm_149) W1.1 rfl rfl zm_149_t rfl rfl) rfl rfl rfl rfl rfl (b1) ?_
                refine zw_beq1 (g := 170) (pc' := 151) rfl rfl rfl (rfl : _ = (0 : Int)) (fun h9 => ?_) (fun h9 => absurd h9 (by decide))
                refine zw_ii (pc' := 173) rfl (zw_gt l6 rfl rfl) rfl rfl ?_
                refine zw_s (pc' := 82) rfl rfl ?_
                rw [as]
                exact ih K2 _ m (a + 1) sz len hsz W2 D2 (by omega) (tFV_no hV (fun k => (b68 k).trans (q2 k)) (fun r' hr => by rw [hr.2.2] at hG; cases hG)) (zw_gt (zw_gt l0 rfl rfl) rfl rfl) (zw_gt (zw_gt l1 rfl rfl) rfl rfl) (zw_gt (zw_gt l2 rfl rfl) rfl rfl) (zw_gt (zw_gt l3 rfl rfl) rfl rfl) (zw_gt (zw_gt l4 rfl rfl) rfl rfl) (zw_gt (zw_gt l5 rfl rfl) rfl rfl) zw_g1 hP
            · refine zw_c (pc' := 124) (zw_cv (q := 60) (Y := zm_148) W1.1 rfl rfl zm_148_t rfl rfl) rfl rfl rfl rfl rfl (ra) ?_
              refine zw_beq1 (g := 131) (pc' := 127) rfl rfl rfl (rfl : _ = (0 : Int)) (fun h9 => ?_) (fun h9 => absurd h9 (by decide))
              refine zw_s (pc' := 132) rfl rfl ?_
              refine zw_st (n := 2) (k := 7) (f := zp_isI) (pc' := 134) rfl rfl rfl rfl rfl ?_
              refine zw_ld (n := 2) (k := 7) (f := zp_isI) (pc' := 136) rfl rfl zw_g1 rfl rfl ?_
              refine zw_beq1 (g := 170) (pc' := 139) rfl rfl rfl (rfl : _ = (0 : Int)) (fun h9 => ?_) (fun h9 => absurd h9 (by decide))
              refine zw_ii (pc' := 173) rfl (zw_gt l6 rfl rfl) rfl rfl ?_
              refine zw_s (pc' := 82) rfl rfl ?_
              rw [as]
              exact ih K _ m (a + 1) sz len hsz W1 D1 (by omega) (by rw [v1]; exact tFV_ge v2 v3 v4 v5 q2 (fun r' hr => by have := hle r r' r2 hr; omega)) (zw_gt (zw_gt l0 rfl rfl) rfl rfl) (zw_gt (zw_gt l1 rfl rfl) rfl rfl) (zw_gt (zw_gt l2 rfl rfl) rfl rfl) (zw_gt (zw_gt l3 rfl rfl) rfl rfl) (zw_gt (zw_gt l4 rfl rfl) rfl rfl) (zw_gt (zw_gt l5 rfl rfl) rfl rfl) zw_g1 hP
        · refine zw_c (pc' := 109) (zw_cv (q := 60) (Y := zm_146) W.1 rfl rfl zm_146_t rfl rfl) rfl rfl rfl rfl rfl (q1) ?_
          refine zw_beq1 (g := 131) (pc' := 112) rfl rfl rfl (rfl : _ = (0 : Int)) (fun h9 => ?_) (fun h9 => absurd h9 (by decide))
          refine zw_s (pc' := 132) rfl rfl ?_
          refine zw_st (n := 2) (k := 7) (f := zp_isI) (pc' := 134) rfl rfl rfl rfl rfl ?_
          refine zw_ld (n := 2) (k := 7) (f := zp_isI) (pc' := 136) rfl rfl zw_g1 rfl rfl ?_
          refine zw_beq1 (g := 170) (pc' := 139) rfl rfl rfl (rfl : _ = (0 : Int)) (fun h9 => ?_) (fun h9 => absurd h9 (by decide))
          refine zw_ii (pc' := 173) rfl (zw_gt l6 rfl rfl) rfl rfl ?_
          refine zw_s (pc' := 82) rfl rfl ?_
          rw [as]
          exact ih K _ m (a + 1) sz len hsz W1 D1 (by omega) (tFV_no hV q2 (fun r' hr => tF_no (n := N) (tG_V hr.2.1 (fun s hs => ⟨hbN s hs, List.not_mem_nil⟩)) (tG_mem hr.2.1) r2)) (zw_gt (zw_gt l0 rfl rfl) rfl rfl) (zw_gt (zw_gt l1 rfl rfl) rfl rfl) (zw_gt (zw_gt l2 rfl rfl) rfl rfl) (zw_gt (zw_gt l3 rfl rfl) rfl rfl) (zw_gt (zw_gt l4 rfl rfl) rfl rfl) (zw_gt (zw_gt l5 rfl rfl) rfl rfl) zw_g1 hP
