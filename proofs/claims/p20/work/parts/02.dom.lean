section
/-! ===== values that are known in part: numbers as ranges or as the script's own; objects by their places ===== -/
abbrev za_I : Type := Nat × Int × Int
abbrev za_V : Type := za_I ⊕ (Option Int64 ⊕ Option Nat)
abbrev za_O : Type := (Nat × List za_V) ⊕ ((Nat × Nat × za_I × List (Nat × za_I)) ⊕ (Nat × Option Int64 × List (Nat × Option Int64)))
abbrev za_R : Type := List (Int × Int)
/-- pc, locals, stack, heap, ranges, cells, slots -/
abbrev za_S : Type := Nat × List (Nat × za_V) × List za_V × List za_O × za_R × Nat × Nat
/-- an end: what it returns, or the number of the exception; heap, ranges -/
abbrev za_X : Type := (Option za_V ⊕ Nat) × List za_O × za_R
def za_F2 {α β : Type} (P : α → β → Prop) : List α → List β → Prop
  | [], [] => True
  | a :: l, b :: m => P a b ∧ za_F2 P l m
  | _, _ => False
theorem za_F2_mono {α β : Type} {P Q : α → β → Prop} (h : ∀ a b, P a b → Q a b) : ∀ {l : List α} {m : List β}, za_F2 P l m → za_F2 Q l m
  | [], [], _ => trivial
  | _ :: _, _ :: _, hp => ⟨h _ _ hp.1, za_F2_mono h hp.2⟩
  | [], _ :: _, hp => hp.elim
  | _ :: _, [], hp => hp.elim
theorem za_F2_len {α β : Type} {P : α → β → Prop} : ∀ {l : List α} {m : List β}, za_F2 P l m → l.length = m.length
  | [], [], _ => rfl
  | _ :: _, _ :: _, hp => congrArg (· + 1) (za_F2_len hp.2)
  | [], _ :: _, hp => hp.elim
  | _ :: _, [], hp => hp.elim
theorem za_F2_get {α β : Type} {P : α → β → Prop} : ∀ {l : List α} {m : List β}, za_F2 P l m → ∀ {k : Nat} {a : α}, l[k]? = some a → ∃ b, m[k]? = some b ∧ P a b
  | [], [], _, k, a, h => by simp at h
  | x :: l, y :: m, hp, 0, a, h => by
    simp only [List.getElem?_cons_zero, Option.some.injEq] at h
    subst h
    exact ⟨y, rfl, hp.1⟩
  | x :: l, y :: m, hp, k + 1, a, h => by
    simp only [List.getElem?_cons_succ] at h ⊢
    exact za_F2_get hp.2 h
  | [], _ :: _, hp, _, _, _ => hp.elim
  | _ :: _, [], hp, _, _, _ => hp.elim
theorem za_F2_set {α β : Type} {P : α → β → Prop} : ∀ {l : List α} {m : List β}, za_F2 P l m → ∀ (k : Nat) {a : α} {b : β}, P a b → za_F2 P (l.set k a) (m.set k b)
  | [], [], _, k, a, b, _ => trivial
  | x :: l, y :: m, hp, 0, a, b, h => ⟨h, hp.2⟩
  | x :: l, y :: m, hp, k + 1, a, b, h => ⟨hp.1, za_F2_set hp.2 k h⟩
  | [], _ :: _, hp, _, _, _, _ => hp.elim
  | _ :: _, [], hp, _, _, _, _ => hp.elim
theorem za_F2_app {α β : Type} {P : α → β → Prop} : ∀ {l : List α} {m : List β} {l' : List α} {m' : List β}, za_F2 P l m → za_F2 P l' m' → za_F2 P (l ++ l') (m ++ m')
  | [], [], _, _, _, h => h
  | _ :: _, _ :: _, _, _, hp, h => ⟨hp.1, za_F2_app hp.2 h⟩
  | [], _ :: _, _, _, hp, _ => hp.elim
  | _ :: _, [], _, _, hp, _ => hp.elim
theorem za_F2_rev {α β : Type} {P : α → β → Prop} : ∀ {l : List α} {m : List β}, za_F2 P l m → za_F2 P l.reverse m.reverse
  | [], [], _ => trivial
  | x :: l, y :: m, hp => by
    rw [List.reverse_cons, List.reverse_cons]
    exact za_F2_app (za_F2_rev hp.2) ⟨hp.1, trivial⟩
  | [], _ :: _, hp => hp.elim
  | _ :: _, [], hp => hp.elim
theorem za_F2_split {α β : Type} {P : α → β → Prop} : ∀ (n : Nat) {l : List α} {m : List β}, za_F2 P l m → za_F2 P (l.take n) (m.take n) ∧ za_F2 P (l.drop n) (m.drop n)
  | 0, l, m, hp => ⟨by simp [za_F2], by simpa using hp⟩
  | n + 1, [], [], _ => ⟨trivial, trivial⟩
  | n + 1, x :: l, y :: m, hp => ⟨⟨hp.1, (za_F2_split n hp.2).1⟩, (za_F2_split n hp.2).2⟩
  | n + 1, [], _ :: _, hp => hp.elim
  | n + 1, _ :: _, [], hp => hp.elim
theorem za_F2_filter {α β : Type} {P : α → β → Prop} {f : α → Bool} {g : β → Bool} (h : ∀ a b, P a b → f a = g b) : ∀ {l : List α} {m : List β}, za_F2 P l m → za_F2 P (l.filter f) (m.filter g)
  | [], [], _ => trivial
  | x :: l, y :: m, hp => by
    have e := h x y hp.1
    rw [List.filter_cons, List.filter_cons, e]
    cases g y
    · exact za_F2_filter h hp.2
    · exact ⟨hp.1, za_F2_filter h hp.2⟩
  | [], _ :: _, hp => hp.elim
  | _ :: _, [], hp => hp.elim
/-! what they stand for: σ the script's numbers, ads the objects' addresses -/
def za_gI (σ : Nat → Int32) (i : za_I) (x : Int32) : Prop := match i.1 with
  | 0 => i.2.1 ≤ x.toInt ∧ x.toInt ≤ i.2.2
  | j + 1 => x = σ j
def za_gL (o : Option Int64) (x : Int64) : Prop := ∀ c, o = some c → x = c
def za_gV (σ : Nat → Int32) (ads : List Nat) (v : za_V) (w : Value) : Prop := match v with
  | .inl i => ∃ x, w = .int x ∧ za_gI σ i x
  | .inr (.inl o) => ∃ x, w = .long x ∧ za_gL o x
  | .inr (.inr none) => w = .null
  | .inr (.inr (some k)) => ∃ a, w = .ref a ∧ ads[k]? = some a
def za_ok (σ : Nat → Int32) (ρ : za_R) : Prop := ∀ (j : Nat) (q : Int × Int), ρ[j]? = some q → q.1 ≤ (σ j).toInt ∧ (σ j).toInt ≤ q.2
def za_rg (ρ : za_R) (i : za_I) : Int × Int := match i.1 with
  | 0 => i.2
  | j + 1 => (ρ[j]?).getD (-2147483648, 2147483647)
theorem za_int (x : Int32) : -2147483648 ≤ x.toInt ∧ x.toInt ≤ 2147483647 := by
  have h1 := Int32.le_toInt x
  have h2 := Int32.toInt_lt x
  omega
theorem za_rg_ok {σ : Nat → Int32} {ρ : za_R} {i : za_I} {x : Int32} (hρ : za_ok σ ρ) (h : za_gI σ i x) : (za_rg ρ i).1 ≤ x.toInt ∧ x.toInt ≤ (za_rg ρ i).2 := by
  obtain ⟨t, lo, hi⟩ := i
  cases t with
  | zero => exact h
  | succ j =>
    have hx : x = σ j := h
    subst hx
    show ((ρ[j]?).getD (-2147483648, 2147483647)).1 ≤ (σ j).toInt ∧ (σ j).toInt ≤ ((ρ[j]?).getD (-2147483648, 2147483647)).2
    cases hq : ρ[j]? with
    | none => exact za_int _
    | some q => exact hρ j q hq
def za_c (x : Int32) : za_I := (0, x.toInt, x.toInt)
def za_top : za_I := (0, -2147483648, 2147483647)
theorem za_c_ok (σ : Nat → Int32) (x : Int32) : za_gI σ (za_c x) x := ⟨Int.le_refl _, Int.le_refl _⟩
theorem za_top_ok (σ : Nat → Int32) (x : Int32) : za_gI σ za_top x := za_int x
/-- comparing whole numbers, quickly -/
def za_ieq : Int → Int → Bool
  | .ofNat a, .ofNat b => Nat.beq a b
  | .negSucc a, .negSucc b => Nat.beq a b
  | _, _ => false
theorem za_ieq_t : ∀ {a b : Int}, za_ieq a b = true → a = b
  | .ofNat a, .ofNat b, h => congrArg Int.ofNat (Nat.eq_of_beq_eq_true h)
  | .negSucc a, .negSucc b, h => congrArg Int.negSucc (Nat.eq_of_beq_eq_true h)
  | .ofNat _, .negSucc _, h => by cases h
  | .negSucc _, .ofNat _, h => by cases h
theorem za_ieq_f : ∀ {a b : Int}, za_ieq a b = false → ¬ a = b
  | .ofNat a, .ofNat b, h => fun e => by cases e; exact Nat.ne_of_beq_eq_false h rfl
  | .negSucc a, .negSucc b, h => fun e => by cases e; exact Nat.ne_of_beq_eq_false h rfl
  | .ofNat _, .negSucc _, _ => fun e => by cases e
  | .negSucc _, .ofNat _, _ => fun e => by cases e
def za_ile : Int → Int → Bool
  | .ofNat a, .ofNat b => Nat.ble a b
  | .negSucc a, .negSucc b => Nat.ble b a
  | .negSucc _, .ofNat _ => true
  | .ofNat _, .negSucc _ => false
theorem za_ile_i : ∀ {a b : Int}, za_ile a b = true ↔ a ≤ b
  | .ofNat a, .ofNat b => by
    show Nat.ble a b = true ↔ Int.ofNat a ≤ Int.ofNat b
    rw [Nat.ble_eq]
    exact Int.ofNat_le.symm
  | .negSucc a, .negSucc b => by
    show Nat.ble b a = true ↔ Int.negSucc a ≤ Int.negSucc b
    rw [Nat.ble_eq, Int.negSucc_eq, Int.negSucc_eq]
    omega
  | .negSucc a, .ofNat b => by
    show true = true ↔ Int.negSucc a ≤ Int.ofNat b
    rw [Int.negSucc_eq, Int.ofNat_eq_natCast]
    exact ⟨fun _ => (by omega), fun _ => rfl⟩
  | .ofNat a, .negSucc b => by
    show false = true ↔ Int.ofNat a ≤ Int.negSucc b
    rw [Int.negSucc_eq, Int.ofNat_eq_natCast]
    exact ⟨fun h => (by cases h), fun h => (by omega)⟩
theorem za_ile_t {a b : Int} (h : za_ile a b = true) : a ≤ b := za_ile_i.mp h
theorem za_ile_f {a b : Int} (h : za_ile a b = false) : b < a := by
  have h1 : ¬ a ≤ b := fun z => by rw [za_ile_i.mpr z] at h; cases h
  omega
/-- the one number that it can be -/
def za_k (ρ : za_R) (i : za_I) : Option Int := match za_rg ρ i with
  | (a, b) => bif za_ieq a b then some a else none
theorem za_k_eq {ρ : za_R} {i : za_I} {c : Int} (h : za_k ρ i = some c) : (za_rg ρ i).1 = c ∧ (za_rg ρ i).2 = c := by
  unfold za_k at h
  generalize za_rg ρ i = q at h ⊢
  obtain ⟨a, b⟩ := q
  dsimp only at h ⊢
  cases he : za_ieq a b with
  | false => simp [he] at h
  | true =>
    have e := za_ieq_t he
    subst e
    simp [he] at h
    exact ⟨h, h⟩
theorem za_k_ok {σ : Nat → Int32} {ρ : za_R} {i : za_I} {x : Int32} {c : Int} (hρ : za_ok σ ρ) (h : za_gI σ i x) (hk : za_k ρ i = some c) : x.toInt = c := by
  have h1 := za_rg_ok hρ h
  obtain ⟨h2, h3⟩ := za_k_eq hk
  omega
theorem za_k_of {σ : Nat → Int32} {ρ : za_R} {i : za_I} {x : Int32} {c : Int} (hρ : za_ok σ ρ) (h : za_gI σ i x) (hk : za_k ρ i = some c) : x = Int32.ofInt c := by
  rw [← za_k_ok hρ h hk, Int32.ofInt_toInt]
/-- a small number as it stands -/
def za_n (k : Int) : za_I := (0, k, k)
theorem za_n_ok (σ : Nat → Int32) {k : Int} {x : Int32} (h : x.toInt = k) : za_gI σ (za_n k) x := ⟨by show k ≤ x.toInt; omega, by show x.toInt ≤ k; omega⟩
/-! arithmetic -/
def za_b2 (f : Int32 → Int32 → Int32) (ρ : za_R) (a b : za_I) : za_I := match za_k ρ a, za_k ρ b with
  | some c, some d => za_c (f (Int32.ofInt c) (Int32.ofInt d))
  | _, _ => za_top
theorem za_b2_ok {σ : Nat → Int32} {ρ : za_R} (f : Int32 → Int32 → Int32) {a b : za_I} {x y : Int32} (hρ : za_ok σ ρ) (ha : za_gI σ a x) (hb : za_gI σ b y) : za_gI σ (za_b2 f ρ a b) (f x y) := by
  unfold za_b2
  split
  · rename_i c d h1 h2
    rw [za_k_of hρ ha h1, za_k_of hρ hb h2]
    exact za_c_ok _ _
  · exact za_top_ok _ _
def za_u1 (f : Int32 → Int32) (ρ : za_R) (a : za_I) : za_I := match za_k ρ a with
  | some c => za_c (f (Int32.ofInt c))
  | none => za_top
theorem za_u1_ok {σ : Nat → Int32} {ρ : za_R} (f : Int32 → Int32) {a : za_I} {x : Int32} (hρ : za_ok σ ρ) (ha : za_gI σ a x) : za_gI σ (za_u1 f ρ a) (f x) := by
  unfold za_u1
  split
  · rename_i c h1
    rw [za_k_of hρ ha h1]
    exact za_c_ok _ _
  · exact za_top_ok _ _
def za_in (lo hi : Int) : Bool := bif za_ile (-2147483648) lo then za_ile hi 2147483647 else false
theorem za_in_t {lo hi : Int} (h : za_in lo hi = true) : -2147483648 ≤ lo ∧ hi ≤ 2147483647 := by
  unfold za_in at h
  cases h1 : za_ile (-2147483648) lo with
  | false => simp [h1] at h
  | true =>
    simp [h1] at h
    exact ⟨za_ile_t h1, za_ile_t h⟩
def za_add (ρ : za_R) (a b : za_I) : za_I := match za_rg ρ a, za_rg ρ b with
  | (a1, a2), (b1, b2) => bif za_in (a1 + b1) (a2 + b2) then (0, a1 + b1, a2 + b2) else za_b2 (· + ·) ρ a b
def za_sub (ρ : za_R) (a b : za_I) : za_I := match za_rg ρ a, za_rg ρ b with
  | (a1, a2), (b1, b2) => bif za_in (a1 - b2) (a2 - b1) then (0, a1 - b2, a2 - b1) else za_b2 (· - ·) ρ a b
theorem za_bmod {n : Int} (h1 : -2147483648 ≤ n) (h2 : n ≤ 2147483647) : n.bmod (2 ^ 32) = n := by
  rw [Int.bmod_def]
  simp only [Nat.reducePow]
  omega
theorem za_add_ok {σ : Nat → Int32} {ρ : za_R} {a b : za_I} {x y : Int32} (hρ : za_ok σ ρ) (ha : za_gI σ a x) (hb : za_gI σ b y) : za_gI σ (za_add ρ a b) (x + y) := by
  have h1 := za_rg_ok hρ ha
  have h2 := za_rg_ok hρ hb
  have h3 := za_b2_ok (· + ·) hρ ha hb
  unfold za_add
  revert h1 h2
  obtain ⟨a1, a2⟩ := za_rg ρ a
  obtain ⟨b1, b2⟩ := za_rg ρ b
  intro h1 h2
  dsimp only at h1 h2 ⊢
  cases h : za_in (a1 + b1) (a2 + b2) with
  | false => exact h3
  | true =>
    have h4 := za_in_t h
    have e : (x + y).toInt = x.toInt + y.toInt := by rw [Int32.toInt_add]; exact za_bmod (by omega) (by omega)
    show a1 + b1 ≤ (x + y).toInt ∧ (x + y).toInt ≤ a2 + b2
    omega
theorem za_sub_ok {σ : Nat → Int32} {ρ : za_R} {a b : za_I} {x y : Int32} (hρ : za_ok σ ρ) (ha : za_gI σ a x) (hb : za_gI σ b y) : za_gI σ (za_sub ρ a b) (x - y) := by
  have h1 := za_rg_ok hρ ha
  have h2 := za_rg_ok hρ hb
  have h3 := za_b2_ok (· - ·) hρ ha hb
  unfold za_sub
  revert h1 h2
  obtain ⟨a1, a2⟩ := za_rg ρ a
  obtain ⟨b1, b2⟩ := za_rg ρ b
  intro h1 h2
  dsimp only at h1 h2 ⊢
  cases h : za_in (a1 - b2) (a2 - b1) with
  | false => exact h3
  | true =>
    have h4 := za_in_t h
    have e : (x - y).toInt = x.toInt - y.toInt := by rw [Int32.toInt_sub]; exact za_bmod (by omega) (by omega)
    show a1 - b2 ≤ (x - y).toInt ∧ (x - y).toInt ≤ a2 - b1
    omega
/-- a mask of low bits -/
def za_and (ρ : za_R) (a b : za_I) : za_I := match za_k ρ a, za_k ρ b with
  | none, some m => bif za_ieq m 31 then (0, 0, 31) else bif za_ieq m 255 then (0, 0, 255) else za_top
  | _, _ => za_b2 (· &&& ·) ρ a b
theorem za_and_ok {σ : Nat → Int32} {ρ : za_R} {a b : za_I} {x y : Int32} (hρ : za_ok σ ρ) (ha : za_gI σ a x) (hb : za_gI σ b y) : za_gI σ (za_and ρ a b) (x &&& y) := by
  have key : ∀ k : Nat, k ≤ 30 → ∀ m : Int32, m.toBitVec.toNat = 2 ^ k - 1 → 0 ≤ (x &&& m).toInt ∧ (x &&& m).toInt < 2 ^ k := by
    intro k hk m hm
    rw [pk_and x k hm]
    have h0 : (0 : Nat) < 2 ^ k := Nat.pow_pos (by decide)
    have h1 : x.toBitVec.toNat % 2 ^ k < 2 ^ k := Nat.mod_lt _ h0
    have h3 : (2 : Nat) ^ k ≤ 2 ^ 30 := Nat.pow_le_pow_right (by decide) hk
    rw [nI_toInt (by omega)]
    constructor
    · omega
    · exact_mod_cast h1
  unfold za_and
  split
  · rename_i m _ hm
    have hy := za_k_of hρ hb hm
    cases h1 : za_ieq m 31 with
    | true =>
      have e := za_ieq_t h1
      subst e
      subst hy
      have h := key 5 (by decide) 31 (by decide)
      exact ⟨h.1, by have := h.2; show (x &&& 31).toInt ≤ 31; omega⟩
    | false =>
      cases h2 : za_ieq m 255 with
      | true =>
        have e := za_ieq_t h2
        subst e
        subst hy
        have h := key 8 (by decide) 255 (by decide)
        exact ⟨h.1, by have := h.2; show (x &&& 255).toInt ≤ 255; omega⟩
      | false => exact za_top_ok _ _
  · exact za_b2_ok _ hρ ha hb
def za_l2 (f : Int64 → Int64 → Int64) (a b : Option Int64) : Option Int64 := match a, b with
  | some c, some d => some (f c d)
  | _, _ => none
theorem za_l2_ok (f : Int64 → Int64 → Int64) {a b : Option Int64} {x y : Int64} (ha : za_gL a x) (hb : za_gL b y) : za_gL (za_l2 f a b) (f x y) := by
  intro c hc
  unfold za_l2 at hc
  split at hc
  · rename_i p q
    cases hc
    rw [ha p rfl, hb q rfl]
  · cases hc
/-- a shift of a long by an int: 0 stays 0, whatever the number -/
def za_ls (f : Int64 → Int32 → Int64) (z : Bool) (ρ : za_R) (a : Option Int64) (b : za_I) : Option Int64 := match a with
  | some c => if z = true ∧ c = 0 then some 0 else match za_k ρ b with
    | some d => some (f c (Int32.ofInt d))
    | none => none
  | none => none
theorem za_ls_ok {σ : Nat → Int32} {ρ : za_R} (f : Int64 → Int32 → Int64) {z : Bool} (hz : z = true → ∀ y, f 0 y = 0) {a : Option Int64} {b : za_I} {x : Int64} {y : Int32} (hρ : za_ok σ ρ) (ha : za_gL a x) (hb : za_gI σ b y) : za_gL (za_ls f z ρ a b) (f x y) := by
  intro c hc
  unfold za_ls at hc
  split at hc
  · rename_i p
    have hx := ha p rfl
    subst hx
    split at hc
    · rename_i h
      cases hc
      rw [h.2]
      exact hz h.1 y
    · split at hc
      · rename_i d hd
        cases hc
        rw [za_k_of hρ hb hd]
      · cases hc
  · cases hc
/-! ranges cut at a branch -/
def za_cut (ρ : za_R) (i : za_I) (lo hi : Int) : za_R := match i.1 with
  | 0 => ρ
  | j + 1 => match ρ[j]? with
    | some q => ρ.set j (max lo q.1, min hi q.2)
    | none => ρ
theorem za_cut_ok {σ : Nat → Int32} {ρ : za_R} {i : za_I} {x : Int32} {lo hi : Int} (hρ : za_ok σ ρ) (h : za_gI σ i x) (h1 : lo ≤ x.toInt) (h2 : x.toInt ≤ hi) : za_ok σ (za_cut ρ i lo hi) := by
  obtain ⟨t, p, r⟩ := i
  unfold za_cut
  cases t with
  | zero => exact hρ
  | succ j =>
    have hx : x = σ j := h
    subst hx
    show za_ok σ (match ρ[j]? with
      | some q => ρ.set j (max lo q.1, min hi q.2)
      | none => ρ)
    cases hq : ρ[j]? with
    | none => exact hρ
    | some q =>
      intro k z hz
      have hz : (ρ.set j (max lo q.1, min hi q.2))[k]? = some z := hz
      by_cases hk : j = k
      · subst hk
        have hl : j < ρ.length := (List.getElem?_eq_some_iff.mp hq).1
        rw [List.getElem?_set_self hl] at hz
        cases hz
        have := hρ j q hq
        show max lo q.1 ≤ (σ j).toInt ∧ (σ j).toInt ≤ min hi q.2
        omega
      · rw [List.getElem?_set_ne hk] at hz
        exact hρ k z hz
def za_lt (ρ : za_R) (a b : za_I) : Option za_R := match za_rg ρ a, za_rg ρ b with
  | (a1, _), (_, b2) => bif za_ile b2 a1 then none else some (za_cut (za_cut ρ a a1 (b2 - 1)) b (a1 + 1) b2)
theorem za_lt_ok {σ : Nat → Int32} {ρ : za_R} {a b : za_I} {x y : Int32} (hρ : za_ok σ ρ) (ha : za_gI σ a x) (hb : za_gI σ b y) (h : x < y) : ∃ ρ', za_lt ρ a b = some ρ' ∧ za_ok σ ρ' := by
  have h1 := za_rg_ok hρ ha
  have h2 := za_rg_ok hρ hb
  rw [Int32.lt_iff_toInt_lt] at h
  unfold za_lt
  revert h1 h2
  obtain ⟨a1, a2⟩ := za_rg ρ a
  obtain ⟨b1, b2⟩ := za_rg ρ b
  intro h1 h2
  dsimp only at h1 h2 ⊢
  cases hc : za_ile b2 a1 with
  | true => have := za_ile_t hc; omega
  | false => exact ⟨_, rfl, za_cut_ok (za_cut_ok hρ ha (by omega) (by omega)) hb (by omega) (by omega)⟩
def za_le (ρ : za_R) (a b : za_I) : Option za_R := match za_rg ρ a, za_rg ρ b with
  | (a1, _), (_, b2) => bif za_ile a1 b2 then some (za_cut (za_cut ρ a a1 b2) b a1 b2) else none
theorem za_le_ok {σ : Nat → Int32} {ρ : za_R} {a b : za_I} {x y : Int32} (hρ : za_ok σ ρ) (ha : za_gI σ a x) (hb : za_gI σ b y) (h : x ≤ y) : ∃ ρ', za_le ρ a b = some ρ' ∧ za_ok σ ρ' := by
  have h1 := za_rg_ok hρ ha
  have h2 := za_rg_ok hρ hb
  rw [Int32.le_iff_toInt_le] at h
  unfold za_le
  revert h1 h2
  obtain ⟨a1, a2⟩ := za_rg ρ a
  obtain ⟨b1, b2⟩ := za_rg ρ b
  intro h1 h2
  dsimp only at h1 h2 ⊢
  cases hc : za_ile a1 b2 with
  | false => have := za_ile_f hc; omega
  | true => exact ⟨_, rfl, za_cut_ok (za_cut_ok hρ ha (by omega) (by omega)) hb (by omega) (by omega)⟩
def za_eq (ρ : za_R) (a b : za_I) : Option za_R := match za_rg ρ a, za_rg ρ b with
  | (a1, a2), (b1, b2) => bif za_ile a1 b2 then bif za_ile b1 a2 then some (za_cut (za_cut ρ a b1 b2) b a1 a2) else none else none
theorem za_eq_ok {σ : Nat → Int32} {ρ : za_R} {a b : za_I} {x y : Int32} (hρ : za_ok σ ρ) (ha : za_gI σ a x) (hb : za_gI σ b y) (h : x = y) : ∃ ρ', za_eq ρ a b = some ρ' ∧ za_ok σ ρ' := by
  have h1 := za_rg_ok hρ ha
  have h2 := za_rg_ok hρ hb
  subst h
  unfold za_eq
  revert h1 h2
  obtain ⟨a1, a2⟩ := za_rg ρ a
  obtain ⟨b1, b2⟩ := za_rg ρ b
  intro h1 h2
  dsimp only at h1 h2 ⊢
  cases hc : za_ile a1 b2 with
  | false => have := za_ile_f hc; omega
  | true =>
    cases hd : za_ile b1 a2 with
    | false => have := za_ile_f hd; omega
    | true => exact ⟨_, rfl, za_cut_ok (za_cut_ok hρ ha (by omega) (by omega)) hb (by omega) (by omega)⟩
def za_ne (ρ : za_R) (a b : za_I) : Option za_R := match za_rg ρ a, za_rg ρ b with
  | (a1, a2), (b1, b2) => bif za_ieq b1 b2 then
      bif za_ieq a1 b1 then bif za_ieq a2 b1 then none else some (za_cut ρ a (a1 + 1) a2)
      else bif za_ieq a2 b1 then some (za_cut ρ a a1 (a2 - 1)) else some ρ
    else some ρ
theorem za_ne_ok {σ : Nat → Int32} {ρ : za_R} {a b : za_I} {x y : Int32} (hρ : za_ok σ ρ) (ha : za_gI σ a x) (hb : za_gI σ b y) (h : ¬ x = y) : ∃ ρ', za_ne ρ a b = some ρ' ∧ za_ok σ ρ' := by
  have h1 := za_rg_ok hρ ha
  have h2 := za_rg_ok hρ hb
  have h : ¬ x.toInt = y.toInt := fun e => h (Int32.toInt_inj.mp e)
  unfold za_ne
  revert h1 h2
  obtain ⟨a1, a2⟩ := za_rg ρ a
  obtain ⟨b1, b2⟩ := za_rg ρ b
  intro h1 h2
  dsimp only at h1 h2 ⊢
  cases e1 : za_ieq b1 b2 with
  | false => exact ⟨_, rfl, hρ⟩
  | true =>
    have e1 := za_ieq_t e1
    cases e2 : za_ieq a1 b1 with
    | true =>
      have e2 := za_ieq_t e2
      cases e3 : za_ieq a2 b1 with
      | true => have e3 := za_ieq_t e3; omega
      | false => exact ⟨_, rfl, za_cut_ok hρ ha (by omega) (by omega)⟩
    | false =>
      cases e3 : za_ieq a2 b1 with
      | true => have e3 := za_ieq_t e3; exact ⟨_, rfl, za_cut_ok hρ ha (by omega) (by omega)⟩
      | false => exact ⟨_, rfl, hρ⟩
/-! arrays: a default and what was written since -/
def za_at {α : Type} (d : α) (ups : List (Nat × α)) (i : Nat) : α := match ups with
  | [] => d
  | q :: l => bif Nat.beq q.1 i then q.2 else za_at d l i
def za_jn (ρ : za_R) (a b : za_I) : za_I := if a = b then a else (0, min (za_rg ρ a).1 (za_rg ρ b).1, max (za_rg ρ a).2 (za_rg ρ b).2)
theorem za_jn_l {σ : Nat → Int32} {ρ : za_R} {a b : za_I} {x : Int32} (hρ : za_ok σ ρ) (h : za_gI σ a x) : za_gI σ (za_jn ρ a b) x := by
  unfold za_jn
  split
  · exact h
  · have h1 := za_rg_ok hρ h
    show min (za_rg ρ a).1 (za_rg ρ b).1 ≤ x.toInt ∧ x.toInt ≤ max (za_rg ρ a).2 (za_rg ρ b).2
    omega
theorem za_jn_r {σ : Nat → Int32} {ρ : za_R} {a b : za_I} {x : Int32} (hρ : za_ok σ ρ) (h : za_gI σ b x) : za_gI σ (za_jn ρ a b) x := by
  unfold za_jn
  split
  · rename_i e
    rw [e]; exact h
  · have h1 := za_rg_ok hρ h
    show min (za_rg ρ a).1 (za_rg ρ b).1 ≤ x.toInt ∧ x.toInt ≤ max (za_rg ρ a).2 (za_rg ρ b).2
    omega
/-- the values at the places k, .., k + c -/
def za_rd (ρ : za_R) (d : za_I) (ups : List (Nat × za_I)) (k : Nat) : Nat → za_I
  | 0 => za_at d ups k
  | c + 1 => za_jn ρ (za_at d ups (k + (c + 1))) (za_rd ρ d ups k c)
theorem za_rd_ok {σ : Nat → Int32} {ρ : za_R} {d : za_I} {ups : List (Nat × za_I)} {f : Nat → Int32} {n : Nat} (hρ : za_ok σ ρ) (h : ∀ i, i < n → za_gI σ (za_at d ups i) (f i)) (k : Nat) : ∀ (c i : Nat), k ≤ i → i ≤ k + c → i < n → za_gI σ (za_rd ρ d ups k c) (f i)
  | 0, i, h1, h2, h3 => by
    have e : i = k := by omega
    subst e
    exact h i h3
  | c + 1, i, h1, h2, h3 => by
    by_cases e : i = k + (c + 1)
    · subst e
      exact za_jn_l hρ (h _ h3)
    · exact za_jn_r hρ (za_rd_ok hρ h k c i h1 (by omega) h3)
def za_wr {α : Type} [DecidableEq α] (d : α) (ups : List (Nat × α)) (k : Nat) (v : α) : List (Nat × α) := if za_at d ups k = v then ups else (k, v) :: ups
theorem za_beq_r (k : Nat) : Nat.beq k k = true := by simp
theorem za_beq_n {k i : Nat} (h : i ≠ k) : Nat.beq k i = false := by
  cases hb : Nat.beq k i with
  | false => rfl
  | true => exact absurd (Nat.eq_of_beq_eq_true hb).symm h
theorem za_wr_self {α : Type} [DecidableEq α] (d : α) (ups : List (Nat × α)) (k : Nat) (v : α) : za_at d (za_wr d ups k v) k = v := by
  unfold za_wr
  split
  · assumption
  · simp only [za_at, za_beq_r, cond_true]
theorem za_wr_ne {α : Type} [DecidableEq α] (d : α) (ups : List (Nat × α)) {k i : Nat} (v : α) (h : i ≠ k) : za_at d (za_wr d ups k v) i = za_at d ups i := by
  unfold za_wr
  split
  · rfl
  · simp only [za_at, za_beq_n h, cond_false]
/-! a value's weight on the stack, and its being found among the locals -/
def za_cat (v : za_V) : Nat := match v with
  | .inr (.inl _) => 2
  | _ => 1
theorem za_cat_ok {σ : Nat → Int32} {ads : List Nat} {v : za_V} {w : Value} (h : za_gV σ ads v w) : w.category = za_cat v := by
  match v, h with
  | .inl i, ⟨x, e, _⟩ => rw [e]; rfl
  | .inr (.inl o), ⟨x, e, _⟩ => rw [e]; rfl
  | .inr (.inr none), e => rw [show w = .null from e]; rfl
  | .inr (.inr (some k)), ⟨x, e, _⟩ => rw [e]; rfl
def za_get (lv : List (Nat × za_V)) (i : Nat) : Option za_V := match lv with
  | [] => none
  | q :: l => bif Nat.beq q.1 i then some q.2 else za_get l i
def za_gP (σ : Nat → Int32) (ads : List Nat) (a : Nat × za_V) (c : Nat × Value) : Prop := a.1 = c.1 ∧ za_gV σ ads a.2 c.2
theorem za_get_ok {σ : Nat → Int32} {ads : List Nat} {i : Nat} {v : za_V} : ∀ {lv : List (Nat × za_V)} {lc : List (Nat × Value)}, za_F2 (za_gP σ ads) lv lc → za_get lv i = some v → ∃ w, (i, w) ∈ lc ∧ za_gV σ ads v w
  | [], [], _, h => by cases h
  | q :: l, r :: m, hp, h => by
    unfold za_get at h
    cases hb : Nat.beq q.1 i with
    | true =>
      have e := Nat.eq_of_beq_eq_true hb
      simp only [hb, cond_true, Option.some.injEq] at h
      subst h
      obtain ⟨r1, r2⟩ := r
      have e1 : q.1 = r1 := hp.1.1
      exact ⟨r2, by rw [← e, e1]; exact List.mem_cons_self, hp.1.2⟩
    | false =>
      simp only [hb, cond_false] at h
      obtain ⟨w, h1, h2⟩ := za_get_ok hp.2 h
      exact ⟨w, List.mem_cons_of_mem _ h1, h2⟩
  | [], _ :: _, hp, _ => hp.elim
  | _ :: _, [], hp, _ => hp.elim
def za_st1 (lv : List (Nat × za_V)) (i : Nat) (v : za_V) : List (Nat × za_V) := (i, v) :: lv.filter (fun q => !(q.1 == i) && !(q.1 + 1 == i && za_cat q.2 == 2))
def za_st2 (lv : List (Nat × za_V)) (i : Nat) (v : za_V) : List (Nat × za_V) := (i, v) :: lv.filter (fun q => !(q.1 == i) && (!(q.1 == i + 1) && !(q.1 + 1 == i && za_cat q.2 == 2)))
theorem za_st1_ok {σ : Nat → Int32} {ads : List Nat} {i : Nat} {v : za_V} {w : Value} {lv : List (Nat × za_V)} {lc : List (Nat × Value)} (h : za_F2 (za_gP σ ads) lv lc) (hv : za_gV σ ads v w) : za_F2 (za_gP σ ads) (za_st1 lv i v) ((i, w) :: lc.filter (fun q => !(q.1 == i) && !(q.1 + 1 == i && q.2.category == 2))) :=
  ⟨⟨rfl, hv⟩, za_F2_filter (fun a b hab => by rw [hab.1, za_cat_ok hab.2]) h⟩
theorem za_st2_ok {σ : Nat → Int32} {ads : List Nat} {i : Nat} {v : za_V} {w : Value} {lv : List (Nat × za_V)} {lc : List (Nat × Value)} (h : za_F2 (za_gP σ ads) lv lc) (hv : za_gV σ ads v w) : za_F2 (za_gP σ ads) (za_st2 lv i v) ((i, w) :: lc.filter (fun q => !(q.1 == i) && (!(q.1 == i + 1) && !(q.1 + 1 == i && q.2.category == 2)))) :=
  ⟨⟨rfl, hv⟩, za_F2_filter (fun a b hab => by rw [hab.1, za_cat_ok hab.2]) h⟩
end
section
/-! ===== the shape of the tables ===== -/
/-- an entry of a constant pool: its kind; two numbers; a value. Kinds: 0 field (object kind, place), 1 virtual, 2 static, 3 constructor (method, number of parameters), 4 Object's constructor, 5 an object kind, 6 an exception, 7 an int, 8 a long, 10 a text, 11 12 13 as 1 2 3 of a nest mate, 14 arraycopy, 15 an exception's constructor -/
abbrev za_row : Type := Nat × Nat × Nat × Int
/-- a method: name, code, locals, what it returns, its constant pool, the most cells and slots that it makes, its table, its instructions -/
abbrev za_MI : Type := MethodName × ByteArray × Nat × Option FieldType × Nat × Nat × Nat × List (Nat × Nat × Nat × Nat) × List (Nat × Instr)
abbrev za_nL (M : za_MI) : Nat := M.2.2.1
abbrev za_rt (M : za_MI) : Option FieldType := M.2.2.2.1
abbrev za_cl (M : za_MI) : Nat := M.2.2.2.2.1
abbrev za_mc (M : za_MI) : Nat := M.2.2.2.2.2.1
abbrev za_ms (M : za_MI) : Nat := M.2.2.2.2.2.2.1
abbrev za_hh (M : za_MI) : List (Nat × Nat × Nat × Nat) := M.2.2.2.2.2.2.2.1
abbrev za_is (M : za_MI) : List (Nat × Instr) := M.2.2.2.2.2.2.2.2
def za_tyX (ci k : Nat) : FieldType := match ci with
  | 0 => tyX0 k
  | 1 => tyX1 k
  | 2 => tyX2 k
  | 3 => tyX3 k
  | 4 => tyX4 k
  | 5 => tyX5 k
  | 6 => tyX6 k
  | 7 => tyX7 k
  | 8 => tyX8 k
  | 9 => tyX9 k
  | 10 => tyX10 k
  | 11 => tyX11 k
  | _ => tyX12 k
def za_nX (ci : Nat) : Nat := match ci with
  | 0 => 10
  | 1 => 12
  | 2 => 3
  | 3 => 2
  | 4 => 4
  | 5 => 4
  | 6 => 3
  | 7 => 6
  | 8 => 8
  | 9 => 6
  | 10 => 20
  | 11 => 18
  | _ => 85
/-- the instruction at pc -/
def za_fe : List (Nat × Instr) → Nat → Option Instr
  | [], _ => none
  | q :: l, pc => bif Nat.beq q.1 pc then some q.2 else za_fe l pc
end
