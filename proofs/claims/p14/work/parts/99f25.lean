/-! ===== a field that no method of a set writes stays as it is ===== -/
/-- the shape is kept, the fields F (a kind, a slot) of every object of the kind, and all arrays of the types A -/
def ykF (A : List Nat) (F : List (Nat × Nat)) (h h' : zp_H) : Prop := h'.1 = h.1 ∧ (∀ f ∈ F, ∀ q, h.1[q]? = some (.inl f.1) → h'.2.1 q f.2 = h.2.1 q f.2 ∧ h'.2.2.1 q f.2 = h.2.2.1 q f.2) ∧ ∀ a ∈ A, ∀ q n, h.1[q]? = some (.inr (a, n)) → ∀ i, h'.2.1 q i = h.2.1 q i ∧ h'.2.2.1 q i = h.2.2.1 q i
theorem ykF_r {A : List Nat} {F : List (Nat × Nat)} {h : zp_H} : ykF A F h h := ⟨rfl, fun _ _ _ _ => ⟨rfl, rfl⟩, fun _ _ _ _ _ _ => ⟨rfl, rfl⟩⟩
theorem ykF_t {A : List Nat} {F : List (Nat × Nat)} {h h' h'' : zp_H} (h1 : ykF A F h h') (h2 : ykF A F h' h'') : ykF A F h h'' := ⟨h2.1.trans h1.1, fun f hf q hq => ⟨(h2.2.1 f hf q (by rw [h1.1]; exact hq)).1.trans (h1.2.1 f hf q hq).1, (h2.2.1 f hf q (by rw [h1.1]; exact hq)).2.trans (h1.2.1 f hf q hq).2⟩, fun a ha q n hq i => ⟨(h2.2.2 a ha q n (by rw [h1.1]; exact hq) i).1.trans (h1.2.2 a ha q n hq i).1, (h2.2.2 a ha q n (by rw [h1.1]; exact hq) i).2.trans (h1.2.2 a ha q n hq i).2⟩⟩
theorem ykF_ar {A : List Nat} {F : List (Nat × Nat)} {h : zp_H} {q j t n : Nat} {x : Int32} (hq : h.1[q]? = some (.inr (t, n))) (hA : ∀ a ∈ A, a ≠ t) : ykF A F h (h.1, zp_u h.2.1 q j x, h.2.2) := ⟨rfl, fun f _ q' hq' => ⟨zp_u_ne (fun h9 => by rw [h9.1, hq] at hq'; cases hq'), rfl⟩, fun a ha q' n' hq' i => ⟨zp_u_ne (fun h9 => by rw [h9.1, hq] at hq'; cases hq'; exact hA _ ha rfl), rfl⟩⟩
theorem ykF_al {A : List Nat} {F : List (Nat × Nat)} {h : zp_H} {q j t n : Nat} {x : Int64} (hq : h.1[q]? = some (.inr (t, n))) (hA : ∀ a ∈ A, a ≠ t) : ykF A F h (h.1, h.2.1, zp_u h.2.2.1 q j x, h.2.2.2) := ⟨rfl, fun f _ q' hq' => ⟨rfl, zp_u_ne (fun h9 => by rw [h9.1, hq] at hq'; cases hq')⟩, fun a ha q' n' hq' i => ⟨rfl, zp_u_ne (fun h9 => by rw [h9.1, hq] at hq'; cases hq'; exact hA _ ha rfl)⟩⟩
theorem ykF_aa {A : List Nat} {F : List (Nat × Nat)} {h : zp_H} {q t n : Nat} {g : Nat → Int32} (hq : h.1[q]? = some (.inr (t, n))) (hA : ∀ a ∈ A, a ≠ t) : ykF A F h (h.1, zp_ua h.2.1 q g, h.2.2) := ⟨rfl, fun f _ q' hq' => ⟨by
  show (if q' = q then _ else _) = _
  rw [if_neg (fun h9 => by rw [h9, hq] at hq'; cases hq')], rfl⟩, fun a ha q' n' hq' i => ⟨by
  show (if q' = q then _ else _) = _
  rw [if_neg (fun h9 => by rw [h9, hq] at hq'; cases hq'; exact hA _ ha rfl)], rfl⟩⟩
theorem ykF_pf {A : List Nat} {F : List (Nat × Nat)} {h : zp_H} {q k c : Nat} {v : zp_V} (hq : h.1[q]? = some (.inl c)) (hn : ∀ f ∈ F, ¬ (f.1 = c ∧ f.2 = k)) : ykF A F h (zp_wf h q k v) := by
  have e : ∀ f ∈ F, ∀ q', h.1[q']? = some (.inl f.1) → ¬ (q' = q ∧ f.2 = k) := fun f hf q' hq' h9 => hn f hf ⟨by
    rw [h9.1, hq] at hq'
    cases hq'
    rfl, h9.2⟩
  have e2 : ∀ (a q' n' : Nat) (i : Nat), h.1[q']? = some (.inr (a, n')) → ¬ (q' = q ∧ i = k) := fun a q' n' i hq' h9 => by
    rw [h9.1, hq] at hq'
    cases hq'
  match v with
  | .inl x => exact ⟨rfl, fun f hf q' hq' => ⟨zp_u_ne (e f hf q' hq'), rfl⟩, fun a _ q' n' hq' i => ⟨zp_u_ne (e2 a q' n' i hq'), rfl⟩⟩
  | .inr (.inl x) => exact ⟨rfl, fun f hf q' hq' => ⟨rfl, zp_u_ne (e f hf q' hq')⟩, fun a _ q' n' hq' i => ⟨rfl, zp_u_ne (e2 a q' n' i hq')⟩⟩
  | .inr (.inr x) => exact ⟨rfl, fun f hf q' hq' => ⟨rfl, rfl⟩, fun _ _ _ _ _ _ => ⟨rfl, rfl⟩⟩
/-- what a step leaves -/
def ykN (A : List Nat) (F : List (Nat × Nat)) (h : zp_H) (o : zp_N) : Prop := ∀ S', o = some (.inl S') → ykF A F h S'.2.2.2.1
section
variable {A : List Nat} {F : List (Nat × Nat)} {pc : Nat} {lv : zp_LV} {st : List zp_V} {t : zp_T}
theorem ykN_go : ykN A F t.1 (zp_go lv t pc st) := fun S' e => by
  have e : (some (Sum.inl (pc, lv, st, t)) : zp_N) = some (.inl S') := e
  cases e
  exact ykF_r
theorem ykN_n {h : zp_H} : ykN A F h none := fun _ e => by cases e
theorem ykN_b {h : zp_H} {b : Bool} {x y : zp_N} (h1 : ykN A F h x) (h2 : ykN A F h y) : ykN A F h (bif b then x else y) := by
  cases b
  · exact h2
  · exact h1
theorem ykN_i {h : zp_H} {p : Prop} {_ : Decidable p} {x y : zp_N} (h1 : ykN A F h x) (h2 : ykN A F h y) : ykN A F h (if p then x else y) := by
  split
  · exact h1
  · exact h2
theorem ykN_binI (g : Int32 → Int32 → Int32) : ykN A F t.1 (zp_binI g pc lv st t) := by
  unfold zp_binI
  repeat' (first | exact ykN_go | exact ykN_n | apply ykN_b | apply ykN_i | split)
theorem ykN_divI (g : Int32 → Int32 → Int32) : ykN A F t.1 (zp_divI g pc lv st t) := by
  unfold zp_divI
  repeat' (first | exact ykN_go | exact ykN_n | apply ykN_b | apply ykN_i | split)
theorem ykN_binL (g : Int64 → Int64 → Int64) : ykN A F t.1 (zp_binL g pc lv st t) := by
  unfold zp_binL
  repeat' (first | exact ykN_go | exact ykN_n | apply ykN_b | apply ykN_i | split)
theorem ykN_shL (g : Int64 → Int32 → Int64) : ykN A F t.1 (zp_shL g pc lv st t) := by
  unfold zp_shL
  repeat' (first | exact ykN_go | exact ykN_n | apply ykN_b | apply ykN_i | split)
theorem ykN_getf (r : Option za_row) : ykN A F t.1 (zp_getf r pc lv st t) := by
  unfold zp_getf
  repeat' (first | exact ykN_go | exact ykN_n | apply ykN_b | apply ykN_i | split)
theorem ykN_ald (L : Nat) (σ : Nat → Int32) (b : Bool) : ykN A F t.1 (zp_ald L σ b pc lv st t) := by
  unfold zp_ald
  repeat' (first | exact ykN_go | exact ykN_n | apply ykN_b | apply ykN_i | split)
theorem ykN_lld  : ykN A F t.1 (zp_lld  pc lv st t) := by
  unfold zp_lld
  repeat' (first | exact ykN_go | exact ykN_n | apply ykN_b | apply ykN_i | split)
theorem ykN_alen (L : Nat) : ykN A F t.1 (zp_alen L pc lv st t) := by
  unfold zp_alen
  repeat' (first | exact ykN_go | exact ykN_n | apply ykN_b | apply ykN_i | split)
theorem ykN_iinc (i nL : Nat) (d : Int) : ykN A F t.1 (zp_iinc i nL d pc lv st t) := by
  unfold zp_iinc
  repeat' (first | exact ykN_go | exact ykN_n | apply ykN_b | apply ykN_i | split)
theorem ykN_jmp (o : Int) : ykN A F t.1 (zp_jmp o pc lv st t) := by
  unfold zp_jmp
  repeat' (first | exact ykN_go | exact ykN_n | apply ykN_b | apply ykN_i | split)
theorem ykN_br (b : Bool) (o : Int) : ykN A F t.1 (zp_br b o pc lv st t) := by
  unfold zp_br
  repeat' (first | exact ykN_go | exact ykN_n | apply ykN_b | apply ykN_i | split)
theorem ykN_if1 (f : Int32 → Bool) (o : Int) : ykN A F t.1 (zp_if1 f o pc lv st t) := by
  unfold zp_if1
  repeat' (first | exact ykN_br _ _ | exact ykN_go | exact ykN_n | apply ykN_b | apply ykN_i | split)
theorem ykN_if2 (f : Int32 → Int32 → Bool) (o : Int) : ykN A F t.1 (zp_if2 f o pc lv st t) := by
  unfold zp_if2
  repeat' (first | exact ykN_br _ _ | exact ykN_go | exact ykN_n | apply ykN_b | apply ykN_i | split)
theorem ykN_tsw (dflt lo hi : Int) (offs : Array Int) : ykN A F t.1 (zp_tsw dflt lo hi offs pc lv st t) := by
  unfold zp_tsw
  repeat' (first | exact ykN_jmp _ | exact ykN_go | exact ykN_n | apply ykN_b | apply ykN_i | split)
theorem ykN_lsw (dflt : Int) (ps : Array (Int × Int)) : ykN A F t.1 (zp_lsw dflt ps pc lv st t) := by
  unfold zp_lsw
  repeat' (first | exact ykN_jmp _ | exact ykN_go | exact ykN_n | apply ykN_b | apply ykN_i | split)
theorem ykN_unI (g : Int32 → Int32) : ykN A F t.1 (zp_unI g pc lv st t) := by
  unfold zp_unI
  repeat' (first | exact ykN_go | exact ykN_n | apply ykN_b | apply ykN_i | split)
theorem ykN_i2l  : ykN A F t.1 (zp_i2l  pc lv st t) := by
  unfold zp_i2l
  repeat' (first | exact ykN_go | exact ykN_n | apply ykN_b | apply ykN_i | split)
theorem ykN_l2i  : ykN A F t.1 (zp_l2i  pc lv st t) := by
  unfold zp_l2i
  repeat' (first | exact ykN_go | exact ykN_n | apply ykN_b | apply ykN_i | split)
theorem ykN_lcmp  : ykN A F t.1 (zp_lcmp  pc lv st t) := by
  unfold zp_lcmp
  repeat' (first | exact ykN_go | exact ykN_n | apply ykN_b | apply ykN_i | split)
theorem ykN_dup  : ykN A F t.1 (zp_dup  pc lv st t) := by
  unfold zp_dup
  repeat' (first | exact ykN_go | exact ykN_n | apply ykN_b | apply ykN_i | split)
theorem ykN_pop  : ykN A F t.1 (zp_pop  pc lv st t) := by
  unfold zp_pop
  repeat' (first | exact ykN_go | exact ykN_n | apply ykN_b | apply ykN_i | split)
theorem ykN_dup2  : ykN A F t.1 (zp_dup2  pc lv st t) := by
  unfold zp_dup2
  repeat' (first | exact ykN_go | exact ykN_n | apply ykN_b | apply ykN_i | split)
theorem ykN_str (cl k : Nat) (is : List (Nat × Instr)) : ykN A F t.1 (zp_str cl k is pc lv st t) := by
  unfold zp_str
  repeat' (first | exact ykN_go | exact ykN_n | apply ykN_b | apply ykN_i | split)
theorem ykN_ldc (n : Nat) (r : Option za_row) : ykN A F t.1 (zp_ldc n r pc lv st t) := by
  unfold zp_ldc
  repeat' (first | exact ykN_go | exact ykN_n | apply ykN_b | apply ykN_i | split)
theorem ykN_ldc2 (r : Option za_row) : ykN A F t.1 (zp_ldc2 r pc lv st t) := by
  unfold zp_ldc2
  repeat' (first | exact ykN_go | exact ykN_n | apply ykN_b | apply ykN_i | split)
theorem ykN_load (k i : Nat) (f : zp_V → Bool) : ykN A F t.1 (zp_load k i f pc lv st t) := by
  unfold zp_load
  repeat' (first | exact ykN_go | exact ykN_n | apply ykN_b | apply ykN_i | split)
theorem ykN_stor1 (k i nL : Nat) (f : zp_V → Bool) : ykN A F t.1 (zp_stor1 k i nL f pc lv st t) := by
  unfold zp_stor1
  repeat' (first | exact ykN_go | exact ykN_n | apply ykN_b | apply ykN_i | split)
theorem ykN_stor2 (k i nL : Nat) : ykN A F t.1 (zp_stor2 k i nL pc lv st t) := by
  unfold zp_stor2
  repeat' (first | exact ykN_go | exact ykN_n | apply ykN_b | apply ykN_i | split)
theorem ykN_ast (b : Bool) (hA : ∀ a ∈ A, ¬ ((b = false ↔ a = 0) ∧ a < 3)) : ykN A F t.1 (zp_ast b pc lv st t) := by
  intro S' e
  unfold zp_ast at e
  split at e
  · split at e
    · rename_i hq
      split at e
      · rename_i hc
        cases e
        exact ykF_ar hq (fun a ha h9 => hA a ha (by rw [h9]; exact ⟨hc.1, hc.2.1⟩))
      · cases e
    · cases e
  · cases e
theorem ykN_lst (hA : ∀ a ∈ A, a ≠ 3) : ykN A F t.1 (zp_lst pc lv st t) := by
  intro S' e
  unfold zp_lst at e
  split at e
  · split at e
    · rename_i hq
      split at e
      · cases e
        exact ykF_al hq hA
      · cases e
    · cases e
  · cases e
theorem ykN_acp (hA : ∀ a ∈ A, a ≠ 0) : ykN A F t.1 (zp_acp pc lv st t) := by
  intro S' e
  unfold zp_acp at e
  split at e
  · split at e
    · rename_i hq0 hq1
      split at e
      · cases e
        exact ykF_aa hq1 hA
      · cases e
    · cases e
  · cases e
theorem ykN_putf {r : Option za_row} {own : Nat} {ini : Bool} (hn : ∀ c k z, r = some (0, c, k, z) → ∀ f ∈ F, ¬ (f.1 = c ∧ f.2 = k)) : ykN A F t.1 (zp_putf r own ini pc lv st t) := by
  intro S' e
  unfold zp_putf at e
  split at e
  · rename_i c k z v q rest
    split at e
    · rename_i cj hq
      cases h1 : Nat.beq cj c with
      | false => rw [h1] at e; cases e
      | true =>
        rw [h1] at e
        have e1 := za_beq h1
        subst e1
        cases h2 : Nat.blt k (za_nX cj) with
        | false => rw [h2] at e; cases e
        | true =>
          rw [h2] at e
          cases h3 : zp_fit (za_tyX cj k) v with
          | false => rw [h3] at e; cases e
          | true =>
            rw [h3] at e
            simp only [cond_true] at e
            split at e
            · cases e
              exact ykF_pf hq (hn _ _ _ rfl)
            · cases e
    · cases e
  · cases e
end
/-- an instruction puts none of the fields, no such array; it calls methods of S alone -/
def ykP (cl : Nat) (A : List Nat) (F : List (Nat × Nat)) (i : Instr) : Bool := match i with
  | .putfield n => (match za_CP cl n with
    | some (0, c, k, _) => F.all (fun f => ((Nat.beq f.1 c).and (Nat.beq f.2 k)).not)
    | _ => true)
  | .iastore => A.all (fun a => (Nat.beq a 0).not)
  | .bastore => A.all (fun a => (Nat.beq a 0).or (Nat.ble 3 a))
  | .lastore => A.all (fun a => (Nat.beq a 3).not)
  | .invokestatic n => (match za_CP cl n with
    | some (14, _, _, _) => A.all (fun a => (Nat.beq a 0).not)
    | _ => true)
  | _ => true
theorem ykP_n {A : List Nat} {k : Nat} (h : A.all (fun a => (Nat.beq a k).not) = true) : ∀ a ∈ A, a ≠ k := fun a ha h9 => by
  have h8 := List.all_eq_true.mp h a ha
  rw [h9, Nat.beq_refl] at h8
  cases h8
def ykC (cl : Nat) (S : List Nat) (i : Instr) : Bool := match i with
  | .invokevirtual n => (match za_CP cl n with
    | some (1, j, _, _) => S.any (Nat.beq j)
    | some (11, j, _, _) => S.any (Nat.beq j)
    | _ => true)
  | .invokestatic n => (match za_CP cl n with
    | some (2, j, _, _) => S.any (Nat.beq j)
    | some (12, j, _, _) => S.any (Nat.beq j)
    | _ => true)
  | _ => true
def ykS (A : List Nat) (F : List (Nat × Nat)) (S : List Nat) : Bool := S.all (fun j => match za_MT j with
  | some M => (za_is M).all (fun q => (ykP (za_cl M) A F q.2).and (ykC (za_cl M) S q.2))
  | none => false)
theorem ykN_ins {A : List Nat} {F : List (Nat × Nat)} {L : Nat} {σ : Nat → Int32} {M : za_MI} {i : Instr} {pc : Nat} {lv : zp_LV} {st : List zp_V} {t : zp_T} (hi : ykP (za_cl M) A F i = true) : ykN A F t.1 (zp_ins L σ M (za_CP (za_cl M)) i pc lv st t) := by
  cases i with
  | iconst k => exact ykN_go
  | bipush k => exact ykN_b (ykN_b ykN_go ykN_n) ykN_n
  | sipush k => exact ykN_go
  | lconst k => exact ykN_go
  | ldc k => exact ykN_b (ykN_str _ _ _) (ykN_ldc _ _)
  | ldc_w k => exact ykN_ldc _ _
  | ldc2_w k => exact ykN_ldc2 _
  | iload k => exact ykN_load _ _ _
  | iload_n k => exact ykN_load _ _ _
  | lload k => exact ykN_load _ _ _
  | lload_n k => exact ykN_load _ _ _
  | aload k => exact ykN_load _ _ _
  | aload_n k => exact ykN_load _ _ _
  | istore k => exact ykN_stor1 _ _ _ _
  | istore_n k => exact ykN_stor1 _ _ _ _
  | astore k => exact ykN_stor1 _ _ _ _
  | astore_n k => exact ykN_stor1 _ _ _ _
  | lstore k => exact ykN_stor2 _ _ _
  | lstore_n k => exact ykN_stor2 _ _ _
  | iinc k d => exact ykN_iinc _ _ _
  | iadd => exact ykN_binI _
  | isub => exact ykN_binI _
  | imul => exact ykN_binI _
  | iand => exact ykN_binI _
  | ior => exact ykN_binI _
  | ixor => exact ykN_binI _
  | ishl => exact ykN_binI _
  | ishr => exact ykN_binI _
  | iushr => exact ykN_binI _
  | idiv => exact ykN_divI _
  | irem => exact ykN_divI _
  | i2b => exact ykN_unI _
  | ineg => exact ykN_unI _
  | ladd => exact ykN_binL _
  | lsub => exact ykN_binL _
  | lmul => exact ykN_binL _
  | land => exact ykN_binL _
  | lor => exact ykN_binL _
  | lxor => exact ykN_binL _
  | lshl => exact ykN_shL _
  | lshr => exact ykN_shL _
  | lushr => exact ykN_shL _
  | i2l => exact ykN_i2l
  | l2i => exact ykN_l2i
  | lcmp => exact ykN_lcmp
  | dup => exact ykN_dup
  | pop => exact ykN_pop
  | dup2 => exact ykN_dup2
  | laload => exact ykN_lld
  | lastore => exact ykN_lst (ykP_n hi)
  | ifCond c o => cases c <;> exact ykN_if1 _ _
  | if_icmp c o => cases c <;> exact ykN_if2 _ _
  | goto o => exact ykN_jmp _
  | tableswitch d lo hi os => exact ykN_tsw _ _ _ _
  | lookupswitch d ps => exact ykN_lsw _ _
  | getfield k => exact ykN_getf _
  | putfield k =>
    refine ykN_putf (fun c k9 z hr f hf h9 => ?_)
    unfold ykP at hi
    simp only [hr] at hi
    have h8 := List.all_eq_true.mp hi f hf
    rw [h9.1, h9.2, Nat.beq_refl, Nat.beq_refl] at h8
    cases h8
  | iaload => exact ykN_ald _ _ _
  | baload => exact ykN_ald _ _ _
  | iastore => exact ykN_ast _ (fun a ha h9 => ykP_n (k := 0) hi a ha (h9.1.mp rfl))
  | bastore => exact ykN_ast _ (fun a ha h9 => by
      rcases Bool.or_eq_true_iff.mp (List.all_eq_true.mp hi a ha) with h8 | h8
      · cases h9.1.mpr (za_beq h8)
      · have := za_ble h8
        omega)
  | arraylength => exact ykN_alen _
  | invokestatic k =>
    unfold zp_ins
    unfold ykP at hi
    dsimp only at hi ⊢
    split
    · rename_i hr
      simp only [hr] at hi
      exact ykN_acp (ykP_n hi)
    · exact ykN_n
  | _ => exact ykN_n
theorem ykX_end {M : za_MI} {cp : Nat → Option za_row} {i : Instr} {pc : Nat} {st : List zp_V} {t : zp_T} {X : zp_X} (h : zp_end M cp i pc st t = some X) : X.2 = t.1 := by
  unfold zp_end at h
  split at h
  · unfold zp_iret at h
    split at h
    · split at h <;> cases h <;> rfl
    · split at h <;> cases h <;> rfl
    · cases h
  · unfold zp_lret at h
    split at h
    · split at h <;> cases h <;> rfl
    · cases h
  · unfold zp_vret at h
    split at h
    · split at h <;> cases h <;> rfl
    · cases h
  · split at h
    · unfold zp_thr at h
      split at h
      · split at h
        · split at h
          · split at h <;> cases h <;> rfl
          · cases h
        · cases h
      · split at h
        · split at h
          · split at h <;> cases h <;> rfl
          · cases h
        · cases h
      · cases h
    · cases h
  · cases h
theorem ykC_m {j : Nat} {S : List Nat} (h : S.any (Nat.beq j) = true) : j ∈ S := by
  obtain ⟨x, h1, h2⟩ := List.any_eq_true.mp h
  rw [za_beq h2]
  exact h1
theorem ykC_cl {M : za_MI} {i : Instr} {st : List zp_V} {t : zp_T} {nx : Bool} {j k : Nat} {Y : za_MI} {S : List Nat} (h : zp_cl (za_CP (za_cl M)) i st t = some (nx, j, k, Y)) (hc : ykC (za_cl M) S i = true) : j ∈ S := by
  unfold zp_cl at h
  split at h
  · unfold ykC at hc
    split at h
    · rename_i hr
      simp only [hr] at hc
      split at h
      · cases hb : zp_isRk st _ t.1 _ with
        | false => rw [hb] at h; cases h
        | true => rw [hb] at h; cases h; exact ykC_m hc
      · cases h
    · rename_i hr
      simp only [hr] at hc
      split at h
      · cases hb : zp_isRk st _ t.1 _ with
        | false => rw [hb] at h; cases h
        | true => rw [hb] at h; cases h; exact ykC_m hc
      · cases h
    · cases h
  · unfold ykC at hc
    split at h
    · rename_i hr
      simp only [hr] at hc
      split at h
      · cases h; exact ykC_m hc
      · cases h
    · rename_i hr
      simp only [hr] at hc
      split at h
      · cases h; exact ykC_m hc
      · cases h
    · cases h
  · cases h
theorem ykA {A : List Nat} {M : za_MI} {cp : Nat → Option za_row} {pc cs sl : Nat} {lv : zp_LV} {rest : List zp_V} {X1 : zp_X} {F : List (Nat × Nat)} {R : zp_S → zp_X → Prop} {X : zp_X} (hR : ∀ S, R S X → ykF A F S.2.2.2.1 X.2) (h : zp_K1 R (zp_aft M cp pc lv rest cs sl X1) X) : ykF A F X1.2 X.2 := by
  unfold zp_aft at h
  split at h
  · exact hR _ h
  · exact hR _ h
  · split at h
    · exact h.elim
    · rw [← (show _ = X from h)]
      exact ykF_r
    · split at h
      · rename_i k9 _
        cases hb : Nat.blt k9.val (za_nL M) with
        | false => rw [hb] at h; exact h.elim
        | true => rw [hb] at h; exact hR _ h
      · rename_i k9 _
        cases hb : Nat.blt k9 (za_nL M) with
        | false => rw [hb] at h; exact h.elim
        | true => rw [hb] at h; exact hR _ h
      · exact h.elim
theorem ykF_run {A : List Nat} {F : List (Nat × Nat)} {L : Nat} {σ : Nat → Int32} {M : za_MI} {C : zp_C} {S : List Nat} (hM : (za_is M).all (fun q => (ykP (za_cl M) A F q.2).and (ykC (za_cl M) S q.2)) = true) (hC : ∀ j as h X, j ∈ S → C j as h X → ykF A F h X.2) : ∀ (n : Nat) (s : zp_S) (X : zp_X), zp_RunN L σ M C n s X → ykF A F s.2.2.2.1 X.2
  | 0, _, _, h => h.elim
  | n + 1, s, X, h => by
    obtain ⟨i, hi, h⟩ := h
    have hm := Bool.and_eq_true_iff.mp (List.all_eq_true.mp hM _ (za_fe_mem hi))
    rcases h with ⟨s', h1, h2⟩ | h1 | ⟨nx, j, k, Y, X1, h1, h2, h3, h4, h5⟩
    · exact ykF_t (ykN_ins hm.1 s' h1) (ykF_run hM hC n s' X h2)
    · rw [ykX_end h1]
      exact ykF_r
    · exact ykF_t (hC _ _ _ _ (ykC_cl h1 hm.2) h3) (ykA (fun s9 h9 => ykF_run hM hC n s9 X h9) h5)
theorem ykF_call {A : List Nat} {F : List (Nat × Nat)} {L : Nat} {σ : Nat → Int32} {S : List Nat} (hS : ykS A F S = true) : ∀ (d j : Nat) (as : List zp_V) (h : zp_H) (X : zp_X), j ∈ S → zp_Call L σ d j as h X → ykF A F h X.2
  | 0, _, _, _, _, _, h => h.elim
  | d + 1, j, as, h, X, hj, hc => by
    obtain ⟨Y, n, h1, h2, h3⟩ := hc
    have hM := List.all_eq_true.mp hS j hj
    rw [h1] at hM
    exact ykF_run hM (fun j as h X hj hc => ykF_call hS d j as h X hj hc) n _ X h3
/-- line and all that it calls -/
def ykS_line : List Nat := [171, 172, 173, 174, 175, 176, 177, 178, 179, 180, 181, 182, 183, 184, 185, 186, 187, 188, 189, 190, 191, 192, 193, 194, 195, 196, 197, 198, 199, 200, 201, 202, 203]
theorem ykS_line_t : ykS [] [(12, 0), (12, 80)] ykS_line = true := by decide +kernel
theorem ykF_line {L : Nat} {σ : Nat → Int32} {d : Nat} {as : List zp_V} {H : zp_H} {X : zp_X} (W : zw_W H) (h : zp_Call L σ d 176 as H X) : X.2.2.1 72 0 = H.2.1 72 0 := ((ykF_call ykS_line_t d 176 as H X (by decide) h).2.1 (12, 0) (by decide) 72 (by rw [W.1]; rfl)).1
/-- sea of the reference and all that it calls: no long array, and no object but its own is written -/
def ykS_sea : List Nat := [169, 170, 171, 172, 173, 174, 175, 176, 177, 178, 179, 180, 181, 182, 183, 184, 185, 186, 187, 188, 189, 190, 191, 192, 193, 194, 195, 196, 197, 198, 199, 200, 201, 202, 203, 204]
theorem ykS_sea_t : ykS [3] [] ykS_sea = true := by decide +kernel
theorem ykF_sea {L : Nat} {σ : Nat → Int32} {d : Nat} {as : List zp_V} {H : zp_H} {X : zp_X} (W : zw_W H) (h : zp_Call L σ d 169 as H X) : ∀ i, X.2.2.2.1 104 i = H.2.2.1 104 i := fun i => ((ykF_call ykS_sea_t d 169 as H X (by decide) h).2.2 3 (by decide) 104 1 (by rw [W.1]; rfl) i).2
