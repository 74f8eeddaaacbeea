section
/-! ===== the abstract executor: every instruction that goes on ===== -/
def zk_cst (n : Nat) (k : Int) (A : zk_A) (pc : Nat) (lv : zk_LV) (st : List zk_V) : Option zk_O := bif za_in k k then some (A, pc + n, lv, .inl (0, k) :: st) else none
def zk_ldcI (n : Nat) (r : Option za_row) (A : zk_A) (pc : Nat) (lv : zk_LV) (st : List zk_V) : Option zk_O := match r with
  | some (7, _, _, v) => zk_cst n v A pc lv st
  | _ => none
def zk_ldc2I (r : Option za_row) (A : zk_A) (pc : Nat) (lv : zk_LV) (st : List zk_V) : Option zk_O := match r with
  | some (8, _, _, _) => some (A, pc + 3, lv, .inr none :: st)
  | _ => none
def zk_ins (B : zk_B) (fz : Nat → Nat → Bool) (mods : List (Nat × Nat)) (am : List Nat) (M : za_MI) (cp : Nat → Option za_row) (i : Instr) (A : zk_A) (pc : Nat) (lv : zk_LV) (st : List zk_V) : Option zk_O := match i with
  | .iconst k => zk_cst 1 k A pc lv st
  | .bipush k => bif za_ile (-128) k then bif za_ile k 127 then zk_cst 2 k A pc lv st else none else none
  | .sipush k => bif za_ile (-32768) k then bif za_ile k 32767 then zk_cst 3 k A pc lv st else none else none
  | .lconst _ => some (A, pc + 1, lv, .inr none :: st)
  | .ldc k => bif Nat.beq k 56 then none else zk_ldcI 2 (cp k) A pc lv st
  | .ldc_w k => zk_ldcI 3 (cp k) A pc lv st
  | .ldc2_w k => zk_ldc2I (cp k) A pc lv st
  | .iload k => zk_load 2 k 0 A pc lv st
  | .iload_n k => zk_load 1 k 0 A pc lv st
  | .lload k => zk_load 2 k 1 A pc lv st
  | .lload_n k => zk_load 1 k 1 A pc lv st
  | .aload k => zk_load 2 k 2 A pc lv st
  | .aload_n k => zk_load 1 k 2 A pc lv st
  | .istore k => zk_stor 2 k 0 (za_nL M) A pc lv st
  | .istore_n k => zk_stor 1 k 0 (za_nL M) A pc lv st
  | .astore k => zk_stor 2 k 2 (za_nL M) A pc lv st
  | .astore_n k => zk_stor 1 k 2 (za_nL M) A pc lv st
  | .lstore k => zk_stor2 2 k (za_nL M) A pc lv st
  | .lstore_n k => zk_stor2 1 k (za_nL M) A pc lv st
  | .iinc k d => zk_iinc k (za_nL M) d A pc lv st
  | .iadd => zk_bin zk_add A pc lv st
  | .isub => zk_bin zk_sub A pc lv st
  | .imul => zk_bin zk_mul A pc lv st
  | .iand => zk_bin zk_and A pc lv st
  | .ior => zk_bin zk_or A pc lv st
  | .ixor => zk_bin zk_any A pc lv st
  | .ishl => zk_bin zk_shl A pc lv st
  | .ishr => zk_bin zk_any A pc lv st
  | .iushr => zk_bin zk_any A pc lv st
  | .idiv => zk_bin zk_div A pc lv st
  | .irem => zk_bin zk_rem A pc lv st
  | .i2b => zk_un zk_i2b A pc lv st
  | .ineg => zk_un zk_neg A pc lv st
  | .ladd => zk_binL A pc lv st
  | .lsub => zk_binL A pc lv st
  | .lmul => zk_binL A pc lv st
  | .land => zk_binL A pc lv st
  | .lor => zk_binL A pc lv st
  | .lxor => zk_binL A pc lv st
  | .lshl => zk_shL A pc lv st
  | .lshr => zk_shL A pc lv st
  | .lushr => zk_shL A pc lv st
  | .i2l => zk_i2l A pc lv st
  | .l2i => zk_l2i A pc lv st
  | .lcmp => zk_lcmp A pc lv st
  | .dup => zk_dup A pc lv st
  | .pop => zk_pop A pc lv st
  | .dup2 => zk_dup2 A pc lv st
  | .goto o => zk_jmp o A pc lv st
  | .getfield k => zk_getI B (cp k) A pc lv st
  | .putfield k => zk_putI B fz mods (cp k) A pc lv st
  | .iaload => zk_aldI B false A pc lv st
  | .baload => zk_aldI B true A pc lv st
  | .iastore => zk_astI B fz am false A pc lv st
  | .bastore => zk_astI B fz am true A pc lv st
  | .laload => zk_lldI B A pc lv st
  | .lastore => zk_lstI B fz am A pc lv st
  | .arraylength => zk_alenI B A pc lv st
  | .invokestatic k => match cp k with
    | some (14, _, _, _) => zk_acpI B fz am A pc lv st
    | _ => none
  | _ => none
theorem zk_i16 {k : Int} (h1 : -32768 ≤ k) (h2 : k ≤ 32767) : (Int16.ofInt k).toInt32.toInt = k := by
  rw [Int16.toInt_toInt32, Int16.toInt_ofInt]
  show k.bmod 65536 = k
  rw [Int.bmod_def]
  omega
section KK
variable {B : zk_B} {gh : zp_H → Int} {J : zp_H → Prop} {fz : Nat → Nat → Bool} {τ : Nat → Int} {A : zk_A} {t : zp_T} {mods : List (Nat × Nat)} {am : List Nat} {pc : Nat} {lv : zk_LV} {st : List zk_V} {lc : zp_LV} {sc : List zp_V} {o : zk_O} {L : Nat} {σ : Nat → Int32} {M : za_MI} {cp : Nat → Option za_row} {i : Instr}
theorem zk_cst_ok {n : Nat} {k : Int} {x : Int32} (hx : x.toInt = k) (hN : zk_N τ A) (hH : zk_Hp B gh J τ A t.1) (hl : zk_L τ A.1 lv lc) (hs : za_F2 (zk_gV τ A.1) st sc) (h : zk_cst n k A pc lv st = some o) : zk_St B gh J mods am τ A t (zp_go lc t (pc + n) (.inl x :: sc)) o := by
  unfold zk_cst at h
  obtain ⟨-, h⟩ := za_bif h
  cases h
  exact zk_St_same hN hH hl ⟨⟨Nat.zero_le _, hx⟩, hs⟩
theorem zk_cst_in {n : Nat} {k : Int} (h : zk_cst n k A pc lv st = some o) : za_in k k = true := (za_bif h).1
theorem zk_ldcI_ok {n : Nat} {r : Option za_row} (hN : zk_N τ A) (hH : zk_Hp B gh J τ A t.1) (hl : zk_L τ A.1 lv lc) (hs : za_F2 (zk_gV τ A.1) st sc) (h : zk_ldcI n r A pc lv st = some o) : zk_St B gh J mods am τ A t (zp_ldc n r pc lc sc t) o := by
  unfold zk_ldcI at h
  split at h
  · exact zk_cst_ok (zk_ofInt (zk_cst_in h)) hN hH hl hs h
  · cases h
theorem zk_ldc2I_ok {r : Option za_row} (hN : zk_N τ A) (hH : zk_Hp B gh J τ A t.1) (hl : zk_L τ A.1 lv lc) (hs : za_F2 (zk_gV τ A.1) st sc) (h : zk_ldc2I r A pc lv st = some o) : zk_St B gh J mods am τ A t (zp_ldc2 r pc lc sc t) o := by
  unfold zk_ldc2I at h
  split at h
  · cases h
    exact zk_St_same hN hH hl ⟨trivial, hs⟩
  · cases h
theorem zk_ins_ok (hw : zk_W B gh J fz) (hN : zk_N τ A) (hH : zk_Hp B gh J τ A t.1) (hl : zk_L τ A.1 lv lc) (hs : za_F2 (zk_gV τ A.1) st sc) (h : zk_ins B fz mods am M cp i A pc lv st = some o) : zk_St B gh J mods am τ A t (zp_ins L σ M cp i pc lc sc t) o := by
  cases i with
  | iconst k => exact zk_cst_ok (zk_ofInt (zk_cst_in h)) hN hH hl hs h
  | bipush k =>
    change (bif za_ile (-128) k then bif za_ile k 127 then zk_cst 2 k A pc lv st else none else none) = _ at h
    obtain ⟨h1, h⟩ := za_bif h
    obtain ⟨h2, h⟩ := za_bif h
    show zk_St B gh J mods am τ A t (bif za_ile (-128) k then bif za_ile k 127 then zp_go lc t (pc + 2) (.inl (Int32.ofInt k) :: sc) else none else none) o
    rw [h1, h2]
    exact zk_cst_ok (zk_ofInt (zk_cst_in h)) hN hH hl hs h
  | sipush k =>
    change (bif za_ile (-32768) k then bif za_ile k 32767 then zk_cst 3 k A pc lv st else none else none) = _ at h
    obtain ⟨h1, h⟩ := za_bif h
    obtain ⟨h2, h⟩ := za_bif h
    exact zk_cst_ok (zk_i16 (za_ile_t h1) (za_ile_t h2)) hN hH hl hs h
  | lconst k =>
    cases h
    exact zk_St_same hN hH hl ⟨trivial, hs⟩
  | ldc k =>
    change (bif Nat.beq k 56 then none else zk_ldcI 2 (cp k) A pc lv st) = _ at h
    show zk_St B gh J mods am τ A t (bif Nat.beq k 56 then zp_str (za_cl M) k (za_is M) pc lc sc t else zp_ldc 2 (cp k) pc lc sc t) o
    cases h9 : Nat.beq k 56 with
    | true => rw [h9] at h; cases h
    | false =>
      rw [h9] at h
      exact zk_ldcI_ok hN hH hl hs h
  | ldc_w k => exact zk_ldcI_ok hN hH hl hs h
  | ldc2_w k => exact zk_ldc2I_ok hN hH hl hs h
  | iload k => exact zk_load_ok (fun h1 h2 => (zk_sel_ok h1 h2).1 rfl) hN hH hl hs h
  | iload_n k => exact zk_load_ok (fun h1 h2 => (zk_sel_ok h1 h2).1 rfl) hN hH hl hs h
  | lload k => exact zk_load_ok (fun h1 h2 => (zk_sel_ok h1 h2).2.1 rfl) hN hH hl hs h
  | lload_n k => exact zk_load_ok (fun h1 h2 => (zk_sel_ok h1 h2).2.1 rfl) hN hH hl hs h
  | aload k => exact zk_load_ok (fun h1 h2 => (zk_sel_ok h1 h2).2.2 rfl) hN hH hl hs h
  | aload_n k => exact zk_load_ok (fun h1 h2 => (zk_sel_ok h1 h2).2.2 rfl) hN hH hl hs h
  | istore k => exact zk_stor_ok (fun h1 h2 => (zk_sel_ok h1 h2).1 rfl) hN hH hl hs h
  | istore_n k => exact zk_stor_ok (fun h1 h2 => (zk_sel_ok h1 h2).1 rfl) hN hH hl hs h
  | astore k => exact zk_stor_ok (fun h1 h2 => (zk_sel_ok h1 h2).2.2 rfl) hN hH hl hs h
  | astore_n k => exact zk_stor_ok (fun h1 h2 => (zk_sel_ok h1 h2).2.2 rfl) hN hH hl hs h
  | lstore k => exact zk_stor2_ok hN hH hl hs h
  | lstore_n k => exact zk_stor2_ok hN hH hl hs h
  | iinc k d => exact zk_iinc_ok hN hH hl hs h
  | iadd => exact zk_bin_ok (· + ·) (fun ha hb hx hy h => zk_add_ok hN ha hb hx hy h) hN hH hl hs h
  | isub => exact zk_bin_ok (· - ·) (fun ha hb hx hy h => zk_sub_ok hN ha hb hx hy h) hN hH hl hs h
  | imul => exact zk_bin_ok (· * ·) (fun ha hb hx hy h => zk_mul_ok hN hx hy h) hN hH hl hs h
  | iand => exact zk_bin_ok (· &&& ·) (fun ha hb hx hy h => zk_and_ok hN ha hb hx hy h) hN hH hl hs h
  | ior => exact zk_bin_ok (· ||| ·) (fun ha hb hx hy h => zk_or_ok hN hx hy h) hN hH hl hs h
  | ixor => exact zk_bin_ok (· ^^^ ·) (fun ha hb hx hy h => zk_any_ok hN h) hN hH hl hs h
  | ishl => exact zk_bin_ok (fun x y => x <<< (y &&& 31)) (fun ha hb hx hy h => zk_shl_ok hN hx hy h) hN hH hl hs h
  | ishr => exact zk_bin_ok (fun x y => x >>> (y &&& 31)) (fun ha hb hx hy h => zk_any_ok hN h) hN hH hl hs h
  | iushr => exact zk_bin_ok (fun x y => (x.toUInt32 >>> (y.toUInt32 &&& Int32.toUInt32 31)).toInt32) (fun ha hb hx hy h => zk_any_ok hN h) hN hH hl hs h
  | idiv => exact zk_binD_ok (· / ·) (fun ha hb hx hy h => zk_div_ok hN hx hy h) hN hH hl hs h
  | irem => exact zk_binD_ok (fun x y => x - x / y * y) (fun ha hb hx hy h => zk_rem_ok hN hx hy h) hN hH hl hs h
  | i2b => exact zk_un_ok (fun x => x.toInt8.toInt32) (fun ha hx h => zk_i2b_ok hN ha hx h) hH hl hs h
  | ineg => exact zk_un_ok (fun x => -x) (fun ha hx h => zk_neg_ok hN ha hx h) hH hl hs h
  | ladd => exact zk_binL_ok (· + ·) hN hH hl hs h
  | lsub => exact zk_binL_ok (· - ·) hN hH hl hs h
  | lmul => exact zk_binL_ok (· * ·) hN hH hl hs h
  | land => exact zk_binL_ok (· &&& ·) hN hH hl hs h
  | lor => exact zk_binL_ok (· ||| ·) hN hH hl hs h
  | lxor => exact zk_binL_ok (· ^^^ ·) hN hH hl hs h
  | lshl => exact zk_shL_ok za_shl0 hN hH hl hs h
  | lshr => exact zk_shL_ok za_shr0 hN hH hl hs h
  | lushr => exact zk_shL_ok za_ushr0 hN hH hl hs h
  | i2l => exact zk_i2l_ok hN hH hl hs h
  | l2i => exact zk_l2i_ok hN hH hl hs h
  | lcmp => exact zk_lcmp_ok hN hH hl hs h
  | dup => exact zk_dup_ok hN hH hl hs h
  | pop => exact zk_pop_ok hN hH hl hs h
  | dup2 => exact zk_dup2_ok hN hH hl hs h
  | goto o9 => exact zk_jmp_ok hN hH hl hs h
  | getfield k => exact zk_getI_ok hN hH hl hs h
  | putfield k => exact zk_putI_ok hw hN hH hl hs h
  | iaload => exact zk_aldI_ok hN hH hl hs h
  | baload => exact zk_aldI_ok hN hH hl hs h
  | iastore => exact zk_astI_ok hw hN hH hl hs h
  | bastore => exact zk_astI_ok hw hN hH hl hs h
  | laload => exact zk_lldI_ok hN hH hl hs h
  | lastore => exact zk_lstI_ok hw hN hH hl hs h
  | arraylength => exact zk_alenI_ok hN hH hl hs h
  | invokestatic k =>
    change (match cp k with
      | some (14, _, _, _) => zk_acpI B fz am A pc lv st
      | _ => none) = _ at h
    show zk_St B gh J mods am τ A t (match cp k with
      | some (14, _, _, _) => zp_acp pc lc sc t
      | _ => none) o
    split at h
    · exact zk_acpI_ok hw hN hH hl hs h
    · cases h
  | _ => exact nomatch (show (none : Option zk_O) = some o from h)
/-! branches -/
def zk_b2 (A : zk_A) (off : Int) (pc : Nat) (lv : zk_LV) (st : List zk_V) (yes no : Option zk_A) : Option (List zk_O) := match zp_to off pc with
  | some g => some ((match yes with
      | some A' => [(A', g, lv, st)]
      | none => []) ++ (match no with
      | some A' => [(A', pc + 3, lv, st)]
      | none => []))
  | none => none
/-- one of these states it is -/
def zk_Sts (B : zk_B) (gh : zp_H → Int) (J : zp_H → Prop) (mods : List (Nat × Nat)) (am : List Nat) (τ : Nat → Int) (A : zk_A) (t : zp_T) (n : zp_N) (l : List zk_O) : Prop := ∃ o ∈ l, zk_St B gh J mods am τ A t n o
theorem zk_cut_St {yes : Option zk_A} {pc' : Nat} (hH : zk_Hp B gh J τ A t.1) (hl : zk_L τ A.1 lv lc) (hs : za_F2 (zk_gV τ A.1) st sc) (hc : zk_Cut τ A yes) : ∃ A', yes = some A' ∧ zk_St B gh J mods am τ A t (zp_go lc t pc' sc) (A', pc', lv, st) := by
  obtain ⟨A', rfl, h2, h3, h4⟩ := hc
  refine ⟨A', rfl, τ, lc, sc, t.1, rfl, zk_ext_r τ, by rw [h3]; exact Nat.le_refl _, h2, zk_Hp_x (by rw [h3]; exact Nat.le_refl _) (by rw [h4]) (by rw [h4]) (zk_ext_r τ) hH, by rw [h3]; exact hl, by rw [h3]; exact hs, zk_Fr_r _⟩
/-- cut, and perhaps an order noted -/
def zk_Cu2 (τ : Nat → Int) (A : zk_A) (o : Option zk_A) : Prop := ∃ A', o = some A' ∧ zk_N τ A' ∧ A'.1 = A.1 ∧ A'.2.2.1 = A.2.2.1 ∧ A'.2.2.2.1 = A.2.2.2.1
theorem zk_Cu_of {o : Option zk_A} (h : zk_Cut τ A o) : zk_Cu2 τ A o := by
  obtain ⟨A', e, h2, h3, h4⟩ := h
  exact ⟨A', e, h2, h3, by rw [h4], by rw [h4]⟩
theorem zk_cut_St2 {yes : Option zk_A} {pc' : Nat} (hH : zk_Hp B gh J τ A t.1) (hl : zk_L τ A.1 lv lc) (hs : za_F2 (zk_gV τ A.1) st sc) (hc : zk_Cu2 τ A yes) : ∃ A', yes = some A' ∧ zk_St B gh J mods am τ A t (zp_go lc t pc' sc) (A', pc', lv, st) := by
  obtain ⟨A', rfl, h2, h3, h4, h5⟩ := hc
  refine ⟨A', rfl, τ, lc, sc, t.1, rfl, zk_ext_r τ, by rw [h3]; exact Nat.le_refl _, h2, zk_Hp_x (by rw [h3]; exact Nat.le_refl _) h4 h5 (zk_ext_r τ) hH, by rw [h3]; exact hl, by rw [h3]; exact hs, zk_Fr_r _⟩
theorem zk_b2_ok {b : Bool} {off : Int} {yes no : Option zk_A} {l : List zk_O} (hH : zk_Hp B gh J τ A t.1) (hl : zk_L τ A.1 lv lc) (hs : za_F2 (zk_gV τ A.1) st sc) (hy : b = true → zk_Cu2 τ A yes) (hn : b = false → zk_Cu2 τ A no) (h : zk_b2 A off pc lv st yes no = some l) : zk_Sts B gh J mods am τ A t (zp_br b off pc lc sc t) l := by
  unfold zk_b2 at h
  split at h
  · rename_i g hg
    cases h
    unfold zp_br
    rw [hg]
    cases b with
    | true =>
      obtain ⟨A', e, hS⟩ := zk_cut_St2 (pc' := g) hH hl hs (hy rfl)
      subst e
      exact ⟨_, List.mem_append_left _ List.mem_cons_self, hS⟩
    | false =>
      obtain ⟨A', e, hS⟩ := zk_cut_St2 (pc' := pc + 3) hH hl hs (hn rfl)
      subst e
      exact ⟨_, List.mem_append_right _ List.mem_cons_self, hS⟩
  · cases h
theorem zk_lti {x y : Int32} : x < y ↔ x.toInt < y.toInt := Int32.lt_iff_toInt_lt
theorem zk_lei {x y : Int32} : x ≤ y ↔ x.toInt ≤ y.toInt := Int32.le_iff_toInt_le
theorem zk_eqi {x y : Int32} : x = y ↔ x.toInt = y.toInt := Int32.toInt_inj.symm
/-- comparing two numbers: what it tells if so, if not -/
def zk_cy (c : Nat) (A : zk_A) (a b : zk_I) : Option zk_A := match c with
  | 0 => zk_eq A a b
  | 1 => zk_ne A a b
  | 2 => zk_lt 1 A a b
  | 3 => zk_lt 0 A b a
  | 4 => zk_lt 1 A b a
  | _ => zk_lt 0 A a b
def zk_cP (c : Nat) (x y : Int) : Prop := match c with
  | 0 => x = y
  | 1 => x ≠ y
  | 2 => x < y
  | 3 => y ≤ x
  | 4 => y < x
  | _ => x ≤ y
def zk_cn1 (c : Nat) : Nat := match c with
  | 0 => 1
  | 1 => 0
  | 2 => 3
  | 3 => 2
  | 4 => 5
  | _ => 4
theorem zk_cy_ok {c : Nat} {a b : zk_I} (hN : zk_N τ A) (h : zk_cP c (zk_ev τ a) (zk_ev τ b)) : zk_Cut τ A (zk_cy c A a b) := by
  match c, h with
  | 0, h => exact zk_eq_ok hN h
  | 1, h => exact zk_ne_ok hN h
  | 2, h => exact zk_lt_ok hN (show zk_ev τ a + 1 ≤ zk_ev τ b from h)
  | 3, h =>
    have h : zk_ev τ b ≤ zk_ev τ a := h
    exact zk_lt_ok hN (by omega)
  | 4, h => exact zk_lt_ok hN (show zk_ev τ b + 1 ≤ zk_ev τ a from h)
  | _ + 5, h =>
    have h : zk_ev τ a ≤ zk_ev τ b := h
    exact zk_lt_ok hN (by omega)
theorem zk_cn1_ok {c : Nat} {x y : Int} (h : ¬ zk_cP c x y) : zk_cP (zk_cn1 c) x y := by
  match c, h with
  | 0, h => exact h
  | 1, h => exact Classical.not_not.mp h
  | 2, h => exact Int.not_lt.mp h
  | 3, h => exact Int.not_le.mp h
  | 4, h => exact Int.not_lt.mp h
  | _ + 5, h => exact Int.not_le.mp h
def zk_if1 (c : Nat) (off : Int) (A : zk_A) (pc : Nat) (lv : zk_LV) (st : List zk_V) : Option (List zk_O) := match st with
  | .inl a :: r => zk_b2 A off pc lv r (zk_cy c A a (0, 0)) (zk_cy (zk_cn1 c) A a (0, 0))
  | _ => none
theorem zk_if1_ok {f : Int32 → Bool} {c : Nat} {off : Int} {l : List zk_O} (hf : ∀ x, f x = true ↔ zk_cP c x.toInt 0) (hN : zk_N τ A) (hH : zk_Hp B gh J τ A t.1) (hl : zk_L τ A.1 lv lc) (hs : za_F2 (zk_gV τ A.1) st sc) (h : zk_if1 c off A pc lv st = some l) : zk_Sts B gh J mods am τ A t (zp_if1 f off pc lc sc t) l := by
  unfold zk_if1 at h
  split at h
  · rename_i a r
    obtain ⟨_, s1, rfl, v1, q1⟩ := za_F2_cons hs
    obtain ⟨x, rfl, x1, x2⟩ := zk_gI_v v1
    refine zk_b2_ok (b := f x) hH hl q1 (fun hb => zk_Cu_of (zk_cy_ok hN ?_)) (fun hb => zk_Cu_of (zk_cy_ok hN (zk_cn1_ok ?_))) h
    · rw [← x2]
      exact (hf x).mp hb
    · rw [← x2]
      intro z
      rw [(hf x).mpr z] at hb
      cases hb
  · cases h
/-- a is no less than b -/
def zk_geq (A : zk_A) : Nat → zk_I → zk_I → Bool
  | 0, _, _ => false
  | f + 1, a, b => bif (Nat.beq a.1 b.1).and (za_ile b.2 a.2) then true else
    bif (match zk_rg A a, zk_rg A b with
      | some (la, _), some (_, hb) => za_ile hb la
      | _, _ => false) then true else A.2.2.2.2.any (fun q => (Nat.beq q.1 3).and ((Nat.beq q.2.1.1 a.1).and (zk_geq A f (q.2.2.1.1, q.2.2.1.2 + (a.2 - q.2.1.2)) b)))
theorem zk_geq_ok (hN : zk_N τ A) : ∀ {f : Nat} {a b : zk_I}, zk_geq A f a b = true → zk_ev τ b ≤ zk_ev τ a
  | 0, _, _, h => by cases h
  | f + 1, a, b, h => by
    unfold zk_geq at h
    cases h1 : (Nat.beq a.1 b.1).and (za_ile b.2 a.2) with
    | true =>
      obtain ⟨h2, h3⟩ := Bool.and_eq_true_iff.mp h1
      have e := zk_ev_d (τ := τ) h2
      have h3 := za_ile_t h3
      omega
    | false =>
      rw [h1] at h
      simp only [cond_false] at h
      split at h
      · rename_i la ha lb hb g1 g2
        have r1 := zk_rg_ok hN g1
        have r2 := zk_rg_ok hN g2
        unfold zk_in at r1 r2
        dsimp only at r1 r2
        cases h2 : za_ile hb la with
        | true => have := za_ile_t h2; omega
        | false =>
          rw [h2] at h
          obtain ⟨q, q1, q2⟩ := List.any_eq_true.mp h
          obtain ⟨q3, q4⟩ := Bool.and_eq_true_iff.mp q2
          obtain ⟨q4, q5⟩ := Bool.and_eq_true_iff.mp q4
          have ih := zk_geq_ok hN q5
          have hm := (hN.2 q q1).2.2.2
          unfold zk_mo at hm
          rw [za_beq q3] at hm
          have hm : zk_ev τ q.2.2.1 ≤ zk_ev τ q.2.1 := hm
          have e := zk_ev_d (τ := τ) q4
          rw [zk_ev_off] at ih
          omega
      · obtain ⟨q, q1, q2⟩ := List.any_eq_true.mp h
        obtain ⟨q3, q4⟩ := Bool.and_eq_true_iff.mp q2
        obtain ⟨q4, q5⟩ := Bool.and_eq_true_iff.mp q4
        have ih := zk_geq_ok hN q5
        have hm := (hN.2 q q1).2.2.2
        unfold zk_mo at hm
        rw [za_beq q3] at hm
        have hm : zk_ev τ q.2.2.1 ≤ zk_ev τ q.2.1 := hm
        have e := zk_ev_d (τ := τ) q4
        rw [zk_ev_off] at ih
        omega
/-- an order is noted -/
def zk_rel (q : Option zk_A) (hi lo : zk_I) : Option zk_A := match q with
  | some A => some (A.1, A.2.1, A.2.2.1, A.2.2.2.1, (3, hi, lo, (0, 0)) :: A.2.2.2.2)
  | none => none
theorem zk_rel_ok {q : Option zk_A} {hi lo : zk_I} (h : zk_Cut τ A q) (h1 : hi.1 ≤ A.1) (h2 : lo.1 ≤ A.1) (h3 : zk_ev τ lo ≤ zk_ev τ hi) : zk_Cu2 τ A (zk_rel q hi lo) := by
  obtain ⟨A', rfl, g2, g3, g4⟩ := h
  refine ⟨_, rfl, ⟨g2.1, fun e he => ?_⟩, g3, by rw [g4], by rw [g4]⟩
  rcases List.mem_cons.mp he with rfl | he
  · exact ⟨by rw [← g3] at h1; exact h1, by rw [← g3] at h2; exact h2, Nat.zero_le _, h3⟩
  · exact g2.2 e he
def zk_cy2 (c : Nat) (A : zk_A) (a b : zk_I) : Option zk_A := bif (Nat.beq a.1 0).or (Nat.beq b.1 0) then zk_cy c A a b else match c with
  | 0 => zk_cy 0 A a b
  | 1 => zk_cy 1 A a b
  | 2 => bif zk_geq A 2 a b then none else zk_rel (zk_cy 2 A a b) b (a.1, a.2 + 1)
  | 3 => bif zk_geq A 2 b (a.1, a.2 + 1) then none else zk_rel (zk_cy 3 A a b) a b
  | 4 => bif zk_geq A 2 b a then none else zk_rel (zk_cy 4 A a b) a (b.1, b.2 + 1)
  | c + 5 => bif zk_geq A 2 a (b.1, b.2 + 1) then none else zk_rel (zk_cy (c + 5) A a b) b a
theorem zk_cy2_ok {c : Nat} {a b : zk_I} (hN : zk_N τ A) (ha : a.1 ≤ A.1) (hb : b.1 ≤ A.1) (h : zk_cP c (zk_ev τ a) (zk_ev τ b)) : zk_Cu2 τ A (zk_cy2 c A a b) := by
  have hc := zk_cy_ok hN h
  unfold zk_cy2
  cases h0 : (Nat.beq a.1 0).or (Nat.beq b.1 0) with
  | true => exact zk_Cu_of hc
  | false =>
    simp only [cond_false]
    match c, h, hc with
    | 0, h, hc => exact zk_Cu_of hc
    | 1, h, hc => exact zk_Cu_of hc
    | 2, h, hc =>
      have h : zk_ev τ a < zk_ev τ b := h
      dsimp only
      cases hg : zk_geq A 2 a b with
      | true => have := zk_geq_ok hN hg; omega
      | false => exact zk_rel_ok hc hb ha (by rw [zk_ev_off]; omega)
    | 3, h, hc =>
      have h : zk_ev τ b ≤ zk_ev τ a := h
      dsimp only
      cases hg : zk_geq A 2 b (a.1, a.2 + 1) with
      | true => have := zk_geq_ok hN hg; rw [zk_ev_off] at this; omega
      | false => exact zk_rel_ok hc ha hb h
    | 4, h, hc =>
      have h : zk_ev τ b < zk_ev τ a := h
      dsimp only
      cases hg : zk_geq A 2 b a with
      | true => have := zk_geq_ok hN hg; omega
      | false => exact zk_rel_ok hc ha hb (by rw [zk_ev_off]; omega)
    | c + 5, h, hc =>
      have h : zk_ev τ a ≤ zk_ev τ b := h
      dsimp only
      cases hg : zk_geq A 2 a (b.1, b.2 + 1) with
      | true => have := zk_geq_ok hN hg; rw [zk_ev_off] at this; omega
      | false => exact zk_rel_ok hc hb ha h
def zk_if2 (c : Nat) (off : Int) (A : zk_A) (pc : Nat) (lv : zk_LV) (st : List zk_V) : Option (List zk_O) := match st with
  | .inl b :: .inl a :: r => zk_b2 A off pc lv r (zk_cy2 c A a b) (zk_cy2 (zk_cn1 c) A a b)
  | _ => none
theorem zk_if2_ok {f : Int32 → Int32 → Bool} {c : Nat} {off : Int} {l : List zk_O} (hf : ∀ x y, f x y = true ↔ zk_cP c x.toInt y.toInt) (hN : zk_N τ A) (hH : zk_Hp B gh J τ A t.1) (hl : zk_L τ A.1 lv lc) (hs : za_F2 (zk_gV τ A.1) st sc) (h : zk_if2 c off A pc lv st = some l) : zk_Sts B gh J mods am τ A t (zp_if2 f off pc lc sc t) l := by
  unfold zk_if2 at h
  split at h
  · rename_i b a r
    obtain ⟨_, s1, rfl, v1, q1⟩ := za_F2_cons hs
    obtain ⟨_, s2, rfl, v2, q2⟩ := za_F2_cons q1
    obtain ⟨y, rfl, y1, y2⟩ := zk_gI_v v1
    obtain ⟨x, rfl, x1, x2⟩ := zk_gI_v v2
    refine zk_b2_ok (b := f x y) hH hl q2 (fun hb => zk_cy2_ok hN x1 y1 ?_) (fun hb => zk_cy2_ok hN x1 y1 (zk_cn1_ok ?_)) h
    · rw [← x2, ← y2]
      exact (hf x y).mp hb
    · rw [← x2, ← y2]
      intro z
      rw [(hf x y).mpr z] at hb
      cases hb
  · cases h
/-- the cases of a table, v, v + 1, .. -/
def zk_tab (A : zk_A) (a : zk_I) (pc : Nat) (lv : zk_LV) (st : List zk_V) : Int → List Int → Option (List zk_O)
  | _, [] => some []
  | v, off :: offs => match zk_tab A a pc lv st (v + 1) offs, zp_to off pc with
    | some l, some g => some (match zk_eq A a (0, v) with
      | some A' => (A', g, lv, st) :: l
      | none => l)
    | _, _ => none
theorem zk_tab_ok {a : zk_I} {x : Int32} : ∀ {offs : List Int} {v : Int} {l : List zk_O}, zk_tab A a pc lv st v offs = some l → ∀ {k : Nat} {off : Int}, offs[k]? = some off → zk_N τ A → zk_Hp B gh J τ A t.1 → zk_L τ A.1 lv lc → za_F2 (zk_gV τ A.1) st sc → x.toInt = zk_ev τ a → x.toInt = v + k → zk_Sts B gh J mods am τ A t (zp_jmp off pc lc sc t) l
  | [], v, l, _, k, off, hk, _, _, _, _, _, _ => by simp at hk
  | off0 :: offs, v, l, h, k, off, hk, hN, hH, hl, hs, hx, hv => by
    unfold zk_tab at h
    split at h
    · rename_i l' g h1 h2
      cases h
      cases k with
      | zero =>
        have e : off0 = off := by simpa using hk
        subst e
        obtain ⟨A', e1, hS⟩ := zk_cut_St (pc' := g) (mods := mods) (am := am) hH hl hs (zk_eq_ok (a := a) (b := (0, v)) hN (by show zk_ev τ a = v; simp at hv; omega))
        rw [e1]
        unfold zp_jmp
        rw [h2]
        exact ⟨_, List.mem_cons_self, hS⟩
      | succ k =>
        obtain ⟨o, o1, o2⟩ := zk_tab_ok h1 (k := k) (off := off) (by simpa using hk) hN hH hl hs hx (by push_cast at hv; omega)
        refine ⟨o, ?_, o2⟩
        split
        · exact List.mem_cons_of_mem _ o1
        · exact o1
    · cases h
def zk_opt (pc' : Nat) (lv : zk_LV) (st : List zk_V) (o : Option zk_A) : List zk_O := match o with
  | some A' => [(A', pc', lv, st)]
  | none => []
def zk_tsw (dflt lo hi : Int) (offs : Array Int) (A : zk_A) (pc : Nat) (lv : zk_LV) (st : List zk_V) : Option (List zk_O) := match st with
  | .inl a :: r => match zk_tab A a pc lv r lo offs.toList, zp_to dflt pc with
    | some l, some g => bif za_ieq (lo + offs.toList.length) (hi + 1) then some (zk_opt g lv r (zk_lt 1 A a (0, lo)) ++ (zk_opt g lv r (zk_lt 1 A (0, hi) a) ++ l)) else none
    | _, _ => none
  | _ => none
theorem zk_tsw_ok {dflt lo hi : Int} {offs : Array Int} {l : List zk_O} (hN : zk_N τ A) (hH : zk_Hp B gh J τ A t.1) (hl : zk_L τ A.1 lv lc) (hs : za_F2 (zk_gV τ A.1) st sc) (h : zk_tsw dflt lo hi offs A pc lv st = some l) : zk_Sts B gh J mods am τ A t (zp_tsw dflt lo hi offs pc lc sc t) l := by
  unfold zk_tsw at h
  split at h
  · rename_i a r
    obtain ⟨_, s1, rfl, v1, q1⟩ := za_F2_cons hs
    obtain ⟨x, rfl, x1, x2⟩ := zk_gI_v v1
    split at h
    · rename_i l' g h1 h2
      obtain ⟨h3, h⟩ := za_bif h
      have h3 := za_ieq_t h3
      cases h
      show zk_Sts B gh J mods am τ A t (if x.toInt < lo ∨ hi < x.toInt then zp_jmp dflt pc lc s1 t else match offs[(x.toInt - lo).toNat]? with
        | some off => zp_jmp off pc lc s1 t
        | none => none) _
      by_cases hc : x.toInt < lo ∨ hi < x.toInt
      · rw [if_pos hc]
        unfold zp_jmp
        rw [h2]
        rcases hc with hc | hc
        · obtain ⟨A', e1, hS⟩ := zk_cut_St (pc' := g) (mods := mods) (am := am) hH hl q1 (zk_lt_ok (e := 1) (a := a) (b := (0, lo)) hN (by show zk_ev τ a + 1 ≤ lo; omega))
          rw [e1]
          exact ⟨_, List.mem_append_left _ List.mem_cons_self, hS⟩
        · obtain ⟨A', e1, hS⟩ := zk_cut_St (pc' := g) (mods := mods) (am := am) hH hl q1 (zk_lt_ok (e := 1) (a := (0, hi)) (b := a) hN (by show hi + 1 ≤ zk_ev τ a; omega))
          rw [e1]
          exact ⟨_, List.mem_append_right _ (List.mem_append_left _ List.mem_cons_self), hS⟩
      · rw [if_neg hc]
        have hlt : (x.toInt - lo).toNat < offs.toList.length := by omega
        have hk : offs.toList[(x.toInt - lo).toNat]? = some (offs.toList[(x.toInt - lo).toNat]'hlt) := List.getElem?_eq_getElem hlt
        rw [show offs[(x.toInt - lo).toNat]? = offs.toList[(x.toInt - lo).toNat]? from (Array.getElem?_toList).symm, hk]
        obtain ⟨o, o1, o2⟩ := zk_tab_ok (mods := mods) (am := am) h1 hk hN hH hl q1 x2 (by omega)
        exact ⟨o, List.mem_append_right _ (List.mem_append_right _ o1), o2⟩
    · cases h
  · cases h
/-- the cases of a list of numbers, the rest -/
def zk_lwl (A0 : zk_A) (a : zk_I) (dflt : Int) (pc : Nat) (lv : zk_LV) (st : List zk_V) : List (Int × Int) → Option zk_A → Option (List zk_O)
  | [], A => match zp_to dflt pc with
    | some g => some (zk_opt g lv st A)
    | none => none
  | (v, off) :: ps, A => match zk_lwl A0 a dflt pc lv st ps (A.bind fun A => zk_ne A a (0, v)), zp_to off pc with
    | some l, some g => some (zk_opt g lv st (zk_eq A0 a (0, v)) ++ l)
    | _, _ => none
def zk_lsw (dflt : Int) (ps : Array (Int × Int)) (A : zk_A) (pc : Nat) (lv : zk_LV) (st : List zk_V) : Option (List zk_O) := match st with
  | .inl a :: r => bif (ps.toList.zip (ps.toList.drop 1)).all (fun (a, next) => a.1 < next.1) then zk_lwl A a dflt pc lv r ps.toList (some A) else none
  | _ => none
end KK
end
section
/-! ===== the abstract executor: one instruction; runs with frames below ===== -/
section KL
variable {B : zk_B} {gh : zp_H → Int} {J : zp_H → Prop} {fz : Nat → Nat → Bool} {τ : Nat → Int} {A : zk_A} {t : zp_T} {mods : List (Nat × Nat)} {am : List Nat} {pc : Nat} {lv : zk_LV} {st : List zk_V} {lc : zp_LV} {sc : List zp_V} {o : zk_O} {L : Nat} {σ : Nat → Int32} {M : za_MI} {cp : Nat → Option za_row} {i : Instr}
theorem zk_opt_m {pc' : Nat} {A' : zk_A} {o : Option zk_A} (h : o = some A') : (A', pc', lv, st) ∈ zk_opt pc' lv st o := by
  subst h
  exact List.mem_cons_self
theorem zk_lwl_ok {a : zk_I} {x : Int32} {dflt : Int} (hN : zk_N τ A) (hH : zk_Hp B gh J τ A t.1) (hl : zk_L τ A.1 lv lc) (hs : za_F2 (zk_gV τ A.1) st sc) (hx : x.toInt = zk_ev τ a) : ∀ {ps : List (Int × Int)} {A1 : Option zk_A} {l : List zk_O}, zk_Cut τ A A1 → zk_lwl A a dflt pc lv st ps A1 = some l → zk_Sts B gh J mods am τ A t (zp_jmp (Op.lookupswitch.offset ps dflt x.toInt) pc lc sc t) l
  | [], A1, l, hc, h => by
    unfold zk_lwl at h
    split at h
    · rename_i g hg
      cases h
      obtain ⟨A', e1, hS⟩ := zk_cut_St (pc' := g) (mods := mods) (am := am) hH hl hs hc
      show zk_Sts B gh J mods am τ A t (zp_jmp dflt pc lc sc t) _
      unfold zp_jmp
      rw [hg]
      exact ⟨_, zk_opt_m e1, hS⟩
    · cases h
  | (v, off) :: ps, A1, l, hc, h => by
    unfold zk_lwl at h
    split at h
    · rename_i l' g h1 h2
      cases h
      rw [Op.lookupswitch.offset_cons]
      by_cases hv : v = x.toInt
      · rw [if_pos hv]
        obtain ⟨A', e1, hS⟩ := zk_cut_St (pc' := g) (mods := mods) (am := am) hH hl hs (zk_eq_ok (a := a) (b := (0, v)) hN (by show zk_ev τ a = v; omega))
        unfold zp_jmp
        rw [h2]
        exact ⟨_, List.mem_append_left _ (zk_opt_m e1), hS⟩
      · rw [if_neg hv]
        obtain ⟨o, o1, o2⟩ := zk_lwl_ok hN hH hl hs hx (zk_Cut_b hc (fun A' n1 _ _ => zk_ne_ok (a := a) (b := (0, v)) n1 (by show zk_ev τ a ≠ v; omega))) h1
        exact ⟨o, List.mem_append_right _ o1, o2⟩
    · cases h
theorem zk_lsw_ok {dflt : Int} {ps : Array (Int × Int)} {l : List zk_O} (hN : zk_N τ A) (hH : zk_Hp B gh J τ A t.1) (hl : zk_L τ A.1 lv lc) (hs : za_F2 (zk_gV τ A.1) st sc) (h : zk_lsw dflt ps A pc lv st = some l) : zk_Sts B gh J mods am τ A t (zp_lsw dflt ps pc lc sc t) l := by
  unfold zk_lsw at h
  split at h
  · rename_i a r
    obtain ⟨_, s1, rfl, v1, q1⟩ := za_F2_cons hs
    obtain ⟨x, rfl, x1, x2⟩ := zk_gI_v v1
    obtain ⟨h1, h⟩ := za_bif h
    unfold zp_lsw
    dsimp only
    rw [h1]
    exact zk_lwl_ok hN hH hl q1 x2 (zk_Cut_s hN) h
  · cases h
def zk_nxt (B : zk_B) (fz : Nat → Nat → Bool) (mods : List (Nat × Nat)) (am : List Nat) (M : za_MI) (cp : Nat → Option za_row) (i : Instr) (A : zk_A) (pc : Nat) (lv : zk_LV) (st : List zk_V) : Option (List zk_O) := match i with
  | .ifCond .eq o => zk_if1 0 o A pc lv st
  | .ifCond .ne o => zk_if1 1 o A pc lv st
  | .ifCond .lt o => zk_if1 2 o A pc lv st
  | .ifCond .ge o => zk_if1 3 o A pc lv st
  | .ifCond .gt o => zk_if1 4 o A pc lv st
  | .ifCond .le o => zk_if1 5 o A pc lv st
  | .if_icmp .eq o => zk_if2 0 o A pc lv st
  | .if_icmp .ne o => zk_if2 1 o A pc lv st
  | .if_icmp .lt o => zk_if2 2 o A pc lv st
  | .if_icmp .ge o => zk_if2 3 o A pc lv st
  | .if_icmp .gt o => zk_if2 4 o A pc lv st
  | .if_icmp .le o => zk_if2 5 o A pc lv st
  | .tableswitch d lo hi os => zk_tsw d lo hi os A pc lv st
  | .lookupswitch d ps => zk_lsw d ps A pc lv st
  | i => match zk_ins B fz mods am M cp i A pc lv st with
    | some o => some [o]
    | none => none
theorem zk_nxt_ok {l : List zk_O} (hw : zk_W B gh J fz) (hN : zk_N τ A) (hH : zk_Hp B gh J τ A t.1) (hl : zk_L τ A.1 lv lc) (hs : za_F2 (zk_gV τ A.1) st sc) (h : zk_nxt B fz mods am M cp i A pc lv st = some l) : zk_Sts B gh J mods am τ A t (zp_ins L σ M cp i pc lc sc t) l := by
  unfold zk_nxt at h
  split at h
  · exact zk_if1_ok (c := 0) (fun x => by rw [zp_d, zk_eqi]; exact Iff.rfl) hN hH hl hs h
  · exact zk_if1_ok (c := 1) (fun x => by rw [zp_d, zk_eqi]; exact Iff.rfl) hN hH hl hs h
  · exact zk_if1_ok (c := 2) (fun x => by rw [zp_d, zk_lti]; exact Iff.rfl) hN hH hl hs h
  · exact zk_if1_ok (c := 3) (fun x => by rw [zp_d, zk_lei]; exact Iff.rfl) hN hH hl hs h
  · exact zk_if1_ok (c := 4) (fun x => by rw [zp_d, zk_lti]; exact Iff.rfl) hN hH hl hs h
  · exact zk_if1_ok (c := 5) (fun x => by rw [zp_d, zk_lei]; exact Iff.rfl) hN hH hl hs h
  · exact zk_if2_ok (c := 0) (fun x y => by rw [zp_d, zk_eqi]; exact Iff.rfl) hN hH hl hs h
  · exact zk_if2_ok (c := 1) (fun x y => by rw [zp_d, zk_eqi]; exact Iff.rfl) hN hH hl hs h
  · exact zk_if2_ok (c := 2) (fun x y => by rw [zp_d, zk_lti]; exact Iff.rfl) hN hH hl hs h
  · exact zk_if2_ok (c := 3) (fun x y => by rw [zp_d, zk_lei]; exact Iff.rfl) hN hH hl hs h
  · exact zk_if2_ok (c := 4) (fun x y => by rw [zp_d, zk_lti]; exact Iff.rfl) hN hH hl hs h
  · exact zk_if2_ok (c := 5) (fun x y => by rw [zp_d, zk_lei]; exact Iff.rfl) hN hH hl hs h
  · exact zk_tsw_ok hN hH hl hs h
  · exact zk_lsw_ok hN hH hl hs h
  · split at h
    · rename_i o ho
      cases h
      exact ⟨o, List.mem_cons_self, zk_ins_ok hw hN hH hl hs ho⟩
    · cases h
end KL
/-! runs with frames below -/
/-- must it not throw; method, place of the call, locals, the rest of the stack, cells, slots -/
abbrev zs_F : Type := Bool × za_MI × Nat × zp_LV × List zp_V × Nat × Nat
def zs_K (L : Nat) (σ : Nat → Int32) (P : zp_X → Prop) : List zs_F → Nat → zp_X → Prop
  | [], _, X => P X
  | f :: fs, d, X => (f.1 = true → zp_nox X) ∧ ((∃ S1 X1 n, zp_aft f.2.1 (za_CP (za_cl f.2.1)) f.2.2.1 f.2.2.2.1 f.2.2.2.2.1 f.2.2.2.2.2.1 f.2.2.2.2.2.2 X = some (.inl S1) ∧ zp_RunN L σ f.2.1 (zp_Call L σ d) n S1 X1 ∧ zs_K L σ P fs (d + 1) X1) ∨
    ∃ X1, zp_aft f.2.1 (za_CP (za_cl f.2.1)) f.2.2.1 f.2.2.2.1 f.2.2.2.2.1 f.2.2.2.2.2.1 f.2.2.2.2.2.2 X = some (.inr X1) ∧ zs_K L σ P fs (d + 1) X1)
/-- it ends, and then the frames below do, and P holds -/
def zs_Safe (L : Nat) (σ : Nat → Int32) (P : zp_X → Prop) (M : za_MI) (fs : List zs_F) (d : Nat) (S : zp_S) : Prop := ∃ X n, zp_RunN L σ M (zp_Call L σ d) n S X ∧ zs_K L σ P fs (d + 1) X
section KS
variable {L : Nat} {σ : Nat → Int32} {P : zp_X → Prop} {M Y : za_MI} {fs : List zs_F} {d : Nat} {S S' : zp_S} {X X1 : zp_X} {i : Instr} {nx : Bool} {j k : Nat}
theorem zs_step (hi : za_fe (za_is M) S.1 = some i) (h : zp_ins L σ M (za_CP (za_cl M)) i S.1 S.2.1 S.2.2.1 S.2.2.2 = some (.inl S')) (hS : zs_Safe L σ P M fs d S') : zs_Safe L σ P M fs d S := by
  obtain ⟨X, n, h1, h2⟩ := hS
  exact ⟨X, n + 1, ⟨i, hi, Or.inl ⟨S', h, h1⟩⟩, h2⟩
theorem zs_end (hi : za_fe (za_is M) S.1 = some i) (h : zp_end M (za_CP (za_cl M)) i S.1 S.2.2.1 S.2.2.2 = some X) (hK : zs_K L σ P fs (d + 1) X) : zs_Safe L σ P M fs d S :=
  ⟨X, 1, ⟨i, hi, Or.inr (Or.inl h)⟩, hK⟩
theorem zs_Kcons {f : zs_F} {X : zp_X} {S1 : zp_S} (hn : f.1 = true → zp_nox X) (ha : zp_aft f.2.1 (za_CP (za_cl f.2.1)) f.2.2.1 f.2.2.2.1 f.2.2.2.2.1 f.2.2.2.2.2.1 f.2.2.2.2.2.2 X = some (.inl S1)) (hS : zs_Safe L σ P f.2.1 fs d S1) : zs_K L σ P (f :: fs) d X := by
  obtain ⟨X1, n, h1, h2⟩ := hS
  exact ⟨hn, Or.inl ⟨S1, X1, n, ha, h1, h2⟩⟩
theorem zs_inl (hi : za_fe (za_is M) S.1 = some i) (hj : za_MT j = some Y) (h : zp_cl (za_CP (za_cl M)) i S.2.2.1 S.2.2.2 = some (nx, j, k, Y)) (hp : zp_pre M Y k S.2.2.1 S.2.2.2) (hwt : zp_wt (S.2.2.1.take k).reverse ≤ za_nL Y)
    (hS : zs_Safe L σ P Y ((nx, M, S.1, S.2.1, S.2.2.1.drop k, S.2.2.2.2.1 + za_mc Y, S.2.2.2.2.2 + za_ms Y) :: fs) d (0, zp_args 0 (S.2.2.1.take k).reverse, [], S.2.2.2.1, 0, 0)) : zs_Safe L σ P M fs (d + 1) S := by
  obtain ⟨X1, n, h1, hn, h2⟩ := hS
  have hC : zp_Call L σ (d + 1) j (S.2.2.1.take k).reverse S.2.2.2.1 X1 := ⟨Y, n, hj, hwt, h1⟩
  rcases h2 with ⟨S1, X2, n2, g1, g2, g3⟩ | ⟨X2, g1, g2⟩
  · exact ⟨X2, n2 + 1, ⟨i, hi, Or.inr (Or.inr ⟨nx, j, k, Y, X1, h, hp, hC, hn, by
      have g1 : zp_aft M (za_CP (za_cl M)) S.1 S.2.1 (S.2.2.1.drop k) (S.2.2.2.2.1 + za_mc Y) (S.2.2.2.2.2 + za_ms Y) X1 = some (.inl S1) := g1
      rw [g1]
      exact g2⟩)⟩, g3⟩
  · exact ⟨X2, 1, ⟨i, hi, Or.inr (Or.inr ⟨nx, j, k, Y, X1, h, hp, hC, hn, by
      have g1 : zp_aft M (za_CP (za_cl M)) S.1 S.2.1 (S.2.2.1.drop k) (S.2.2.2.2.1 + za_mc Y) (S.2.2.2.2.2 + za_ms Y) X1 = some (.inr X2) := g1
      rw [g1]
      exact rfl⟩)⟩, g2⟩
theorem zs_sum (hi : za_fe (za_is M) S.1 = some i) (h : zp_cl (za_CP (za_cl M)) i S.2.2.1 S.2.2.2 = some (nx, j, k, Y)) (hp : zp_pre M Y k S.2.2.1 S.2.2.2) (hC : zp_Call L σ d j (S.2.2.1.take k).reverse S.2.2.2.1 X1) (hn : nx = true → zp_nox X1)
    (hS : (∃ S1, zp_aft M (za_CP (za_cl M)) S.1 S.2.1 (S.2.2.1.drop k) (S.2.2.2.2.1 + za_mc Y) (S.2.2.2.2.2 + za_ms Y) X1 = some (.inl S1) ∧ zs_Safe L σ P M fs d S1) ∨ ∃ X2, zp_aft M (za_CP (za_cl M)) S.1 S.2.1 (S.2.2.1.drop k) (S.2.2.2.2.1 + za_mc Y) (S.2.2.2.2.2 + za_ms Y) X1 = some (.inr X2) ∧ zs_K L σ P fs (d + 1) X2) : zs_Safe L σ P M fs d S := by
  rcases hS with ⟨S1, g1, X2, n2, g2, g3⟩ | ⟨X2, g1, g2⟩
  · exact ⟨X2, n2 + 1, ⟨i, hi, Or.inr (Or.inr ⟨nx, j, k, Y, X1, h, hp, hC, hn, by rw [g1]; exact g2⟩)⟩, g3⟩
  · exact ⟨X2, 1, ⟨i, hi, Or.inr (Or.inr ⟨nx, j, k, Y, X1, h, hp, hC, hn, by rw [g1]; exact rfl⟩)⟩, g2⟩
end KS
/-! deeper is no harm -/
theorem zp_Stp_m {L : Nat} {σ : Nat → Int32} {M : za_MI} {C C' : zp_C} {R R' : zp_S → zp_X → Prop} (hC : ∀ j as h X, C j as h X → C' j as h X) (hR : ∀ S X, R S X → R' S X) {S : zp_S} {X : zp_X} (h : zp_Stp L σ M C R S X) : zp_Stp L σ M C' R' S X := by
  obtain ⟨i, hi, h⟩ := h
  refine ⟨i, hi, ?_⟩
  rcases h with ⟨S', h1, h2⟩ | h | ⟨nx, j, k, Y, X1, h1, h2, h3, h4, h5⟩
  · exact Or.inl ⟨S', h1, hR _ _ h2⟩
  · exact Or.inr (Or.inl h)
  · refine Or.inr (Or.inr ⟨nx, j, k, Y, X1, h1, h2, hC _ _ _ _ h3, h4, ?_⟩)
    generalize zp_aft M (za_CP (za_cl M)) S.1 S.2.1 (S.2.2.1.drop k) (S.2.2.2.2.1 + za_mc Y) (S.2.2.2.2.2 + za_ms Y) X1 = o at h5 ⊢
    match o, h5 with
    | some (.inl S'), h5 => exact hR _ _ h5
    | some (.inr X'), h5 => exact h5
theorem zp_RunN_m {L : Nat} {σ : Nat → Int32} {M : za_MI} {C C' : zp_C} (hC : ∀ j as h X, C j as h X → C' j as h X) : ∀ {n : Nat} {S : zp_S} {X : zp_X}, zp_RunN L σ M C n S X → zp_RunN L σ M C' n S X
  | 0, _, _, h => h
  | _ + 1, _, _, h => zp_Stp_m hC (fun _ _ h9 => zp_RunN_m hC h9) h
theorem zp_Call_m {L : Nat} {σ : Nat → Int32} : ∀ {d : Nat} {j : Nat} {as : List zp_V} {h : zp_H} {X : zp_X}, zp_Call L σ d j as h X → zp_Call L σ (d + 1) j as h X
  | 0, _, _, _, _, h => h.elim
  | _ + 1, _, _, _, _, ⟨Y, n, h1, h2, h3⟩ => ⟨Y, n, h1, h2, zp_RunN_m (fun _ _ _ _ h9 => zp_Call_m h9) h3⟩
theorem zp_Call_le {L : Nat} {σ : Nat → Int32} {d d' : Nat} (hd : d ≤ d') {j : Nat} {as : List zp_V} {h : zp_H} {X : zp_X} (hc : zp_Call L σ d j as h X) : zp_Call L σ d' j as h X := by
  induction hd with
  | refl => exact hc
  | step _ ih => exact zp_Call_m ih
end
section
/-! ===== the checker: summaries, loops ===== -/
/-- what a value is like: a number in a range; a long; a reference -/
abbrev zk_P : Type := (Int × Int) ⊕ Option (Option Nat)
/-- an outcome: what is returned or thrown; fields' ranges; fields that are no less than before -/
abbrev zk_Oc : Type := (Option zk_P ⊕ Nat) × List (Nat × Nat × Int × Int) × List (Nat × Nat × Int)
/-- a summary: method, arguments, fields before; what may change: fields, arrays; outcomes; its depth -/
abbrev zk_T : Type := Nat × List zk_P × List (Nat × Nat × Int × Int) × List (Nat × Nat) × List Nat × List zk_Oc × Nat
def zk_pv (p : zk_P) (v : zp_V) : Prop := match p, v with
  | .inl r, .inl x => zk_in x.toInt r
  | .inr none, .inr (.inl _) => True
  | .inr (some r), .inr (.inr r') => r' = r
  | _, _ => False
def zk_rv (o : Option zk_P ⊕ Nat) (x : Option zp_V ⊕ Nat) : Prop := match o, x with
  | .inl none, .inl none => True
  | .inl (some p), .inl (some v) => zk_pv p v
  | .inr e, .inr e' => e' = e
  | _, _ => False
def zk_oc (gh : zp_H → Int) (H : zp_H) (o : zk_Oc) (X : zp_X) : Prop := zk_rv o.1 X.1 ∧ (∀ f ∈ o.2.1, zk_in (zk_fv gh X.2 f.1 f.2.1) f.2.2) ∧ ∀ f ∈ o.2.2, zk_fv gh H f.1 f.2.1 + f.2.2 ≤ zk_fv gh X.2 f.1 f.2.1
def zk_PX (B : zk_B) (gh : zp_H → Int) (J : zp_H → Prop) (mods : List (Nat × Nat)) (am : List Nat) (outs : List zk_Oc) (H0 : zp_H) (X : zp_X) : Prop := zk_Bs B gh J X.2 ∧ zk_Fr gh mods am H0 X.2 ∧ ∃ o ∈ outs, zk_oc gh H0 o X
def zk_Ct (L : Nat) (σ : Nat → Int32) (B : zk_B) (gh : zp_H → Int) (J : zp_H → Prop) (e : zk_T) : Prop := ∀ d, e.2.2.2.2.2.2 ≤ d → ∀ (as : List zp_V) (H : zp_H), za_F2 zk_pv e.2.1 as → zk_Bs B gh J H → (∀ f ∈ e.2.2.1, zk_in (zk_fv gh H f.1 f.2.1) f.2.2) → ∃ X, zp_Call L σ d e.1 as H X ∧ zk_PX B gh J e.2.2.2.1 e.2.2.2.2.1 e.2.2.2.2.2.1 H X
/-! frames -/
abbrev zk_F1 : Type := Bool × za_MI × Nat × zk_LV × List zk_V × Nat × Nat
def zk_gF (τ : Nat → Int) (n : Nat) (a : zk_F1) (c : zs_F) : Prop := a.1 = c.1 ∧ a.2.1 = c.2.1 ∧ a.2.2.1 = c.2.2.1 ∧ zk_L τ n a.2.2.2.1 c.2.2.2.1 ∧ za_F2 (zk_gV τ n) a.2.2.2.2.1 c.2.2.2.2.1 ∧ a.2.2.2.2.2 = c.2.2.2.2.2
theorem zk_gF_x {n n' : Nat} {τ τ' : Nat → Int} (hn : n ≤ n') (h : zk_ext n τ τ') {fs : List zk_F1} {fc : List zs_F} (hf : za_F2 (zk_gF τ n) fs fc) : za_F2 (zk_gF τ' n') fs fc := za_F2_mono (fun _ _ ⟨h1, h2, h3, h4, h5, h6⟩ => ⟨h1, h2, h3, zk_lv_x hn h h4, zk_st_x hn h h5, h6⟩) hf
def zk_bot (M : za_MI) : List zk_F1 → za_MI
  | [] => M
  | f :: fs => zk_bot f.2.1 fs
/-! loops -/
/-- what changes in a loop: a local or a field; its range; it never falls -/
abbrev zk_It : Type := (Nat ⊕ (Nat × Nat)) × Int × Int × Bool
/-- a loop's head: place; what changes; locals, fields that are forgotten; which of them counts, upwards? -/
abbrev zk_An : Type := Nat × List zk_It × List Nat × List (Nat × Nat) × Nat × Bool
/-- a loop that runs: its head; numbers, locals, stack as it was entered; what changes, as it was; cells, slots -/
abbrev zk_Lp : Type := zk_An × zk_A × zk_LV × List zk_V × List zk_I × Nat × Nat
def zk_ia (A : zk_A) (lv : zk_LV) (it : zk_It) : Option zk_I := match it.1 with
  | .inl i => match zk_get lv i with
    | some (.inl a) => some a
    | _ => none
  | .inr (p, k) => zk_og A.2.2.1 p k
def zk_ias (A : zk_A) (lv : zk_LV) : List zk_It → Option (List zk_I)
  | [] => some []
  | it :: l => match zk_ia A lv it, zk_ias A lv l with
    | some a, some as => some (a :: as)
    | _, _ => none
def zk_rI : Nat → List zk_It → List (Nat × zk_E)
  | _, [] => []
  | n, it :: l => (n, (it.2.1, it.2.2.1, false, 1)) :: zk_rI (n + 1) l
def zk_oI : Nat → List zk_It → List (Nat × Nat × Bool × zk_I)
  | _, [] => []
  | n, it :: l => match it.1 with
    | .inl _ => zk_oI (n + 1) l
    | .inr (p, k) => (p, k, false, (n + 1, 0)) :: zk_oI (n + 1) l
def zk_lI : Nat → List zk_It → zk_LV
  | _, [] => []
  | n, it :: l => match it.1 with
    | .inl i => (i, .inl (n + 1, 0)) :: zk_lI (n + 1) l
    | .inr _ => zk_lI (n + 1) l
def zk_mI : Nat → List zk_It → List zk_I → List (Nat × zk_I × zk_I × zk_I)
  | n, it :: l, a :: as => bif it.2.2.2 then (3, (n + 1, 0), a, (0, 0)) :: zk_mI (n + 1) l as else zk_mI (n + 1) l as
  | _, _, _ => []
/-- the unknowns of what changes have its values -/
def zk_iv (gh : zp_H → Int) (H : zp_H) (lc : zp_LV) (τ : Nat → Int) : Nat → List zk_It → Prop
  | _, [] => True
  | n, it :: l => (it.2.1 ≤ τ n ∧ τ n ≤ it.2.2.1) ∧ (match it.1 with
    | .inl i => ∃ x : Int32, zp_get lc i = some (.inl x) ∧ x.toInt = τ n
    | .inr (p, k) => zk_fv gh H p k = τ n) ∧ zk_iv gh H lc τ (n + 1) l
def zk_mv (τ : Nat → Int) : Nat → List zk_It → List zk_I → Prop
  | n, it :: l, a :: as => (it.2.2.2 = true → zk_ev τ a ≤ τ n) ∧ zk_mv τ (n + 1) l as
  | _, _, _ => True
section KT
variable {B : zk_B} {gh : zp_H → Int} {J : zp_H → Prop} {τ τ0 : Nat → Int} {A : zk_A} {H : zp_H} {lv : zk_LV} {lc : zp_LV}
theorem zk_ia_ok {it : zk_It} {a : zk_I} (hH : zk_Hp B gh J τ A H) (hl : zk_L τ A.1 lv lc) (h : zk_ia A lv it = some a) : a.1 ≤ A.1 ∧ (match it.1 with
    | .inl i => ∃ x : Int32, zp_get lc i = some (.inl x) ∧ x.toInt = zk_ev τ a
    | .inr (p, k) => zk_fv gh H p k = zk_ev τ a) := by
  obtain ⟨k9, r9⟩ := it
  unfold zk_ia at h
  match k9, h with
  | .inl i, h =>
    dsimp only at h
    split at h
    · rename_i a9 ha
      cases h
      obtain ⟨w, w1, w2⟩ := hl _ _ ha
      obtain ⟨x, rfl, x1, x2⟩ := zk_gI_v w2
      exact ⟨x1, x, w1, x2⟩
    · cases h
  | .inr (p, k), h =>
    obtain ⟨e, e1, e2, e3, e4⟩ := zk_og_m h
    obtain ⟨g1, g2⟩ := hH.2.2.1 e e1
    rw [e2, e3, e4] at g2
    rw [e4] at g1
    exact ⟨g1, g2⟩
/-- the state fits what changes -/
def zk_mts (A : zk_A) (lv : zk_LV) : List zk_It → List zk_I → Bool
  | [], [] => true
  | it :: l, a0 :: as => match zk_ia A lv it with
    | some a => (zk_sub1 A a (it.2.1, it.2.2.1)).and ((bif it.2.2.2 then zk_geq A 6 a a0 else true).and (zk_mts A lv l as))
    | none => false
  | _, _ => false
theorem zk_mts_ok {n0 : Nat} (hN : zk_N τ A) (hH : zk_Hp B gh J τ A H) (hl : zk_L τ A.1 lv lc) (hx : zk_ext n0 τ0 τ) : ∀ {its : List zk_It} {as : List zk_I} (n : Nat) (τ1 : Nat → Int), zk_mts A lv its as = true → (∀ a ∈ as, a.1 ≤ n0) → n0 ≤ n → zk_ext n0 τ0 τ1 → ∃ τ2, zk_ext n τ1 τ2 ∧ zk_iv gh H lc τ2 n its ∧ zk_mv τ2 n its as
  | [], [], n, τ1, _, _, _, _ => ⟨τ1, zk_ext_r τ1, trivial, trivial⟩
  | it :: l, a0 :: as, n, τ1, h, ha, hn, h1 => by
    unfold zk_mts at h
    split at h
    · rename_i a hia
      obtain ⟨g1, h⟩ := Bool.and_eq_true_iff.mp h
      obtain ⟨g2, h⟩ := Bool.and_eq_true_iff.mp h
      obtain ⟨i1, i2⟩ := zk_ia_ok hH hl hia
      have hr := zk_sub1_ok hN g1
      obtain ⟨τ2, k1, k2, k3⟩ := zk_mts_ok hN hH hl hx (n + 1) (zk_up τ1 n (zk_ev τ a)) h (fun a9 h9 => ha a9 (List.mem_cons_of_mem _ h9)) (Nat.le_succ_of_le hn) (zk_ext_t hn h1 (zk_up_x τ1 n _))
      have e : τ2 n = zk_ev τ a := by
        rw [k1 n (Nat.lt_succ_self _)]
        unfold zk_up
        rw [if_pos rfl]
      have k0 : zk_ext n τ1 τ2 := zk_ext_t (Nat.le_succ n) (zk_up_x τ1 n (zk_ev τ a)) k1
      refine ⟨τ2, k0, ⟨?_, ?_, k2⟩, ?_, k3⟩
      · rw [e]; exact hr
      · rw [e]
        exact i2
      · intro hm
        rw [hm] at g2
        have g3 := zk_geq_ok hN g2
        have ha0 := ha a0 List.mem_cons_self
        rw [e, zk_ev_x ha0 (zk_ext_t hn h1 k0), ← zk_ev_x ha0 hx]
        exact g3
    · cases h
  | [], _ :: _, _, _, h, _, _, _ => by cases h
  | _ :: _, [], _, _, h, _, _, _ => by cases h
theorem zk_rI_ok : ∀ {its : List zk_It} {n : Nat}, zk_iv gh H lc τ n its → ∀ q ∈ zk_rI n its, (n ≤ q.1 ∧ q.1 < n + its.length) ∧ zk_ok (τ q.1) q.2
  | [], _, _, q, hq => absurd hq List.not_mem_nil
  | it :: l, n, h, q, hq => by
    rcases List.mem_cons.mp hq with rfl | hq
    · exact ⟨⟨Nat.le_refl _, by show n < n + (l.length + 1); omega⟩, h.1.1, h.1.2, (fun z => Bool.noConfusion z), Int.one_dvd _⟩
    · obtain ⟨⟨g1, g2⟩, g3⟩ := zk_rI_ok h.2.2 q hq
      exact ⟨⟨by omega, by show q.1 < n + (l.length + 1); omega⟩, g3⟩
theorem zk_oI_ok : ∀ {its : List zk_It} {n : Nat}, zk_iv gh H lc τ n its → ∀ q ∈ zk_oI n its, q.2.2.2.1 ≤ n + its.length ∧ zk_fv gh H q.1 q.2.1 = zk_ev τ q.2.2.2 ∧ q.2.2.1 = false
  | [], _, _, q, hq => absurd hq List.not_mem_nil
  | (.inl i, r) :: l, n, h, q, hq => by
    obtain ⟨g1, g2⟩ := zk_oI_ok h.2.2 q hq
    exact ⟨by show _ ≤ n + (l.length + 1); omega, g2⟩
  | (.inr (p, k), r) :: l, n, h, q, hq => by
    rcases List.mem_cons.mp hq with rfl | hq
    · refine ⟨by show n + 1 ≤ n + (l.length + 1); omega, ?_, rfl⟩
      show zk_fv gh H p k = τ n + 0
      rw [h.2.1]
      omega
    · obtain ⟨g1, g2⟩ := zk_oI_ok h.2.2 q hq
      exact ⟨by show _ ≤ n + (l.length + 1); omega, g2⟩
theorem zk_lI_ok {i : Nat} {v : zk_V} {rest : zk_LV} {m : Nat} : ∀ {its : List zk_It} {n : Nat}, zk_iv gh H lc τ n its → n + its.length ≤ m → zk_L τ m rest lc → zk_get (zk_lI n its ++ rest) i = some v → ∃ w, zp_get lc i = some w ∧ zk_gV τ m v w
  | [], _, _, _, hr, h => hr i v h
  | (.inl j, r) :: l, n, hv, hm, hr, h => by
    have hm : n + (l.length + 1) ≤ m := hm
    have h : zk_get ((j, .inl (n + 1, 0)) :: (zk_lI (n + 1) l ++ rest)) i = some v := h
    unfold zk_get at h
    cases hb : Nat.beq j i with
    | true =>
      rw [hb] at h
      cases h
      have e := za_beq hb
      subst e
      obtain ⟨x, x1, x2⟩ := hv.2.1
      refine ⟨.inl x, x1, ?_, ?_⟩
      · show n + 1 ≤ m
        omega
      · show x.toInt = τ n + 0
        omega
    | false =>
      rw [hb] at h
      exact zk_lI_ok hv.2.2 (by omega) hr h
  | (.inr q, r) :: l, n, hv, hm, hr, h => by
    have hm : n + (l.length + 1) ≤ m := hm
    exact zk_lI_ok (its := l) (n := n + 1) hv.2.2 (by omega) hr h
theorem zk_mI_ok {m : Nat} : ∀ {its : List zk_It} {as : List zk_I} {n : Nat}, zk_mv τ n its as → n + its.length ≤ m → (∀ a ∈ as, a.1 ≤ m) → ∀ q ∈ zk_mI n its as, q.2.1.1 ≤ m ∧ q.2.2.1.1 ≤ m ∧ q.2.2.2.1 ≤ m ∧ zk_mo τ q
  | [], _, _, _, _, _, q, hq => by
    unfold zk_mI at hq
    exact absurd hq List.not_mem_nil
  | _ :: _, [], _, _, _, _, q, hq => by
    unfold zk_mI at hq
    exact absurd hq List.not_mem_nil
  | it :: l, a :: as, n, h, hm, ha, q, hq => by
    have hm : n + (l.length + 1) ≤ m := hm
    have hr := fun q9 h9 => zk_mI_ok (n := n + 1) h.2 (by omega) (fun a9 h8 => ha a9 (List.mem_cons_of_mem _ h8)) q9 h9
    unfold zk_mI at hq
    cases hb : it.2.2.2 with
    | false => rw [hb] at hq; exact hr q hq
    | true =>
      rw [hb] at hq
      rcases List.mem_cons.mp hq with rfl | hq
      · refine ⟨by show n + 1 ≤ m; omega, ha a List.mem_cons_self, Nat.zero_le _, ?_⟩
        show zk_ev τ a ≤ τ n + 0
        have := h.1 hb
        omega
      · exact hr q hq
end KT
end
section
/-! ===== the checker: a loop's state ===== -/
def zk_eqV (a b : zk_V) : Bool := match a, b with
  | .inl i, .inl j => zk_eqI i j
  | .inr none, .inr none => true
  | .inr (some none), .inr (some none) => true
  | .inr (some (some p)), .inr (some (some q)) => Nat.beq p q
  | _, _ => false
theorem zk_eqV_t : ∀ {a b : zk_V}, zk_eqV a b = true → a = b
  | .inl i, .inl j, h => congrArg Sum.inl (zk_eqI_t h)
  | .inr none, .inr none, _ => rfl
  | .inr (some none), .inr (some none), _ => rfl
  | .inr (some (some p)), .inr (some (some q)), h => by rw [za_beq (show Nat.beq p q = true from h)]
  | .inl _, .inr none, h => by cases h
  | .inl _, .inr (some none), h => by cases h
  | .inl _, .inr (some (some _)), h => by cases h
  | .inr none, .inl _, h => by cases h
  | .inr (some none), .inl _, h => by cases h
  | .inr (some (some _)), .inl _, h => by cases h
  | .inr none, .inr (some none), h => by cases h
  | .inr none, .inr (some (some _)), h => by cases h
  | .inr (some none), .inr none, h => by cases h
  | .inr (some none), .inr (some (some _)), h => by cases h
  | .inr (some (some _)), .inr none, h => by cases h
  | .inr (some (some _)), .inr (some none), h => by cases h
def zk_eqS : List zk_V → List zk_V → Bool
  | [], [] => true
  | a :: l, b :: m => (zk_eqV a b).and (zk_eqS l m)
  | _, _ => false
theorem zk_eqS_t : ∀ {l m : List zk_V}, zk_eqS l m = true → l = m
  | [], [], _ => rfl
  | a :: l, b :: m, h => by
    obtain ⟨h1, h2⟩ := Bool.and_eq_true_iff.mp h
    rw [zk_eqV_t h1, zk_eqS_t h2]
  | [], _ :: _, h => by cases h
  | _ :: _, [], h => by cases h
def zk_isl (its : List zk_It) (i : Nat) : Bool := its.any (fun it => match it.1 with
  | .inl j => Nat.beq j i
  | .inr _ => false)
def zk_isf (its : List zk_It) (p k : Nat) : Bool := its.any (fun it => match it.1 with
  | .inl _ => false
  | .inr (p', k') => (Nat.beq p' p).and (Nat.beq k' k))
/-- the locals, the fields that a loop leaves as they are -/
def zk_kl (an : zk_An) (lv : zk_LV) : zk_LV := lv.filter (fun q => ((zk_ina an.2.2.1 q.1).or (zk_isl an.2.1 q.1)).not)
def zk_ko (an : zk_An) (ov : List (Nat × Nat × Bool × zk_I)) : List (Nat × Nat × Bool × zk_I) := (ov.filter (fun q => ((zk_inm an.2.2.2.1 q.1 q.2.1).or (zk_isf an.2.1 q.1 q.2.1)).not)).map zk_cl1
def zk_tA (lp : zk_Lp) : zk_A := (lp.2.1.1 + lp.1.2.1.length, zk_rI lp.2.1.1 lp.1.2.1 ++ lp.2.1.2.1, zk_oI lp.2.1.1 lp.1.2.1 ++ zk_ko lp.1 lp.2.1.2.2.1, [], zk_mI lp.2.1.1 lp.1.2.1 lp.2.2.2.2.1 ++ lp.2.1.2.2.2.2)
def zk_tL (lp : zk_Lp) : zk_LV := zk_lI lp.2.1.1 lp.1.2.1 ++ zk_kl lp.1 lp.2.2.1
/-- the state is one of the loop's -/
def zk_mtc (B : zk_B) (lp : zk_Lp) (A : zk_A) (lv : zk_LV) (st : List zk_V) : Bool := (zk_flush B A).and ((zk_mts A lv lp.1.2.1 lp.2.2.2.2.1).and (((zk_kl lp.1 lp.2.2.1).all (fun q => match zk_get lv q.1 with
    | some v => zk_eqV v q.2
    | none => false)).and (((zk_ko lp.1 lp.2.1.2.2.1).all (fun q => match zk_og A.2.2.1 q.1 q.2.1 with
    | some a => zk_eqI a q.2.2.2
    | none => false)).and (zk_eqS st lp.2.2.2.1))))
def zk_scV (n : Nat) (v : zk_V) : Prop := match v with
  | .inl i => i.1 ≤ n
  | _ => True
/-- what a running loop stands on -/
def zk_Sc (τ : Nat → Int) (lp : zk_Lp) : Prop := zk_N τ lp.2.1 ∧ (∀ q ∈ zk_kl lp.1 lp.2.2.1, zk_scV lp.2.1.1 q.2) ∧ (∀ q ∈ zk_ko lp.1 lp.2.1.2.2.1, q.2.2.2.1 ≤ lp.2.1.1) ∧ (∀ a ∈ lp.2.2.2.2.1, a.1 ≤ lp.2.1.1) ∧ (∀ v ∈ lp.2.2.2.1, zk_scV lp.2.1.1 v)
theorem zk_gV_sc {n0 m m' : Nat} {τ τ2 : Nat → Int} {v : zk_V} {w : zp_V} (hs : zk_scV n0 v) (hx : zk_ext n0 τ τ2) (hm : n0 ≤ m') (h : zk_gV τ m v w) : zk_gV τ2 m' v w := by
  match v, w, hs, h with
  | .inl i, .inl x, hs, h => exact ⟨Nat.le_trans hs hm, by rw [zk_ev_x hs hx]; exact h.2⟩
  | .inr none, .inr (.inl _), _, _ => trivial
  | .inr (some r), .inr (.inr r'), _, h => exact h
theorem zk_F2_sc {n0 m m' : Nat} {τ τ2 : Nat → Int} (hx : zk_ext n0 τ τ2) (hm : n0 ≤ m') : ∀ {st : List zk_V} {sc : List zp_V}, (∀ v ∈ st, zk_scV n0 v) → za_F2 (zk_gV τ m) st sc → za_F2 (zk_gV τ2 m') st sc
  | [], [], _, _ => trivial
  | v :: st, w :: sc, hs, h => ⟨zk_gV_sc (hs v List.mem_cons_self) hx hm h.1, zk_F2_sc hx hm (fun v' h' => hs v' (List.mem_cons_of_mem _ h')) h.2⟩
  | [], _ :: _, _, h => h.elim
  | _ :: _, [], _, h => h.elim
theorem zk_get_mem {i : Nat} {v : zk_V} : ∀ {lv : zk_LV}, zk_get lv i = some v → (i, v) ∈ lv
  | [], h => by cases h
  | q :: l, h => by
    unfold zk_get at h
    cases hb : Nat.beq q.1 i with
    | true =>
      rw [hb] at h
      cases h
      rw [← za_beq hb]
      exact List.mem_cons_self
    | false =>
      rw [hb] at h
      exact List.mem_cons_of_mem _ (zk_get_mem h)
section KU
variable {B : zk_B} {gh : zp_H → Int} {J : zp_H → Prop} {τ : Nat → Int} {A : zk_A} {H : zp_H} {lv : zk_LV} {lc : zp_LV} {st : List zk_V} {sc : List zp_V} {lp : zk_Lp}
theorem zk_tp_ok (hS : zk_Sc τ lp) (hN : zk_N τ A) (hH : zk_Hp B gh J τ A H) (hl : zk_L τ A.1 lv lc) (hs : za_F2 (zk_gV τ A.1) st sc) (h : zk_mtc B lp A lv st = true) :
    ∃ τ2, zk_ext lp.2.1.1 τ τ2 ∧ zk_N τ2 (zk_tA lp) ∧ zk_Hp B gh J τ2 (zk_tA lp) H ∧ zk_L τ2 (zk_tA lp).1 (zk_tL lp) lc ∧ za_F2 (zk_gV τ2 (zk_tA lp).1) lp.2.2.2.1 sc ∧ zk_iv gh H lc τ2 lp.2.1.1 lp.1.2.1 := by
  obtain ⟨s1, s2, s3, s4, s5⟩ := hS
  obtain ⟨c1, h⟩ := Bool.and_eq_true_iff.mp h
  obtain ⟨c2, h⟩ := Bool.and_eq_true_iff.mp h
  obtain ⟨c3, h⟩ := Bool.and_eq_true_iff.mp h
  obtain ⟨c4, c5⟩ := Bool.and_eq_true_iff.mp h
  have e5 := zk_eqS_t c5
  subst e5
  obtain ⟨τ2, x1, iv, mv⟩ := zk_mts_ok (τ0 := τ) (n0 := lp.2.1.1) hN hH hl (zk_ext_r τ) lp.2.1.1 τ c2 s4 (Nat.le_refl _) (zk_ext_r τ)
  have hB := zk_flush_ok hN hH c1
  obtain ⟨b1, b2, -, -, b5, b6, b7, b8⟩ := hB
  have hle : lp.2.1.1 ≤ (zk_tA lp).1 := Nat.le_add_right _ _
  have s1x := zk_N_x x1 s1
  refine ⟨τ2, x1, ⟨fun q hq => ?_, fun q hq => ?_⟩, ⟨b1, b2, fun q hq => ?_, fun q hq => absurd hq List.not_mem_nil, fun p k r hr => ?_, b6, fun c hc => ?_, b8⟩, ?_, zk_F2_sc x1 hle s5 hs, iv⟩
  · rcases List.mem_append.mp hq with hq | hq
    · obtain ⟨g1, g2⟩ := zk_rI_ok iv q hq
      exact ⟨g1.2, g2⟩
    · exact ⟨Nat.lt_of_lt_of_le (s1x.1 q hq).1 hle, (s1x.1 q hq).2⟩
  · rcases List.mem_append.mp hq with hq | hq
    · exact zk_mI_ok (m := (zk_tA lp).1) mv (Nat.le_refl _) (fun a ha => Nat.le_trans (s4 a ha) hle) q hq
    · obtain ⟨g1, g2, g3, g4⟩ := s1x.2 q hq
      exact ⟨Nat.le_trans g1 hle, Nat.le_trans g2 hle, Nat.le_trans g3 hle, g4⟩
  · rcases List.mem_append.mp hq with hq | hq
    · obtain ⟨g1, g2, -⟩ := zk_oI_ok iv q hq
      exact ⟨g1, g2⟩
    · have g1 := s3 q hq
      have g2 := List.all_eq_true.mp c4 q hq
      refine ⟨Nat.le_trans g1 hle, ?_⟩
      split at g2
      · rename_i a ha
        have e := zk_eqI_t g2
        subst e
        obtain ⟨e0, f1, f2, f3, f4⟩ := zk_og_m ha
        have f5 := (hH.2.2.1 e0 f1).2
        rw [f2, f3, f4] at f5
        rw [f5, zk_ev_x g1 x1]
      · cases g2
  · rcases b5 p k r hr with ⟨e, he, -⟩ | h9
    · exact absurd he List.not_mem_nil
    · exact Or.inr h9
  · rcases b7 c hc with ⟨e, he, -⟩ | h9
    · exact absurd he List.not_mem_nil
    · exact Or.inr h9
  · intro i v hv
    refine zk_lI_ok iv (Nat.le_refl _) ?_ hv
    intro i' v' hv'
    have hm := zk_get_mem hv'
    have g2 := List.all_eq_true.mp c3 _ hm
    dsimp only at g2
    split at g2
    · rename_i v9 h9
      have e := zk_eqV_t g2
      subst e
      obtain ⟨w, w1, w2⟩ := hl i' v9 h9
      exact ⟨w, w1, zk_gV_sc (s2 _ hm) x1 hle w2⟩
    · cases g2
/-- what counts -/
theorem zk_iv_at {n k : Nat} {its : List zk_It} {it : zk_It} {a : zk_I} {τ2 : Nat → Int} (hH : zk_Hp B gh J τ A H) (hl : zk_L τ A.1 lv lc) (hi : its[k]? = some it) (ha : zk_ia A lv it = some a) (hv : zk_iv gh H lc τ2 n its) : τ2 (n + k) = zk_ev τ a := by
  induction its generalizing n k with
  | nil => simp at hi
  | cons x l ih =>
    cases k with
    | zero =>
      have e : x = it := by simpa using hi
      subst e
      have h1 := hv.2.1
      obtain ⟨-, h2⟩ := zk_ia_ok hH hl ha
      obtain ⟨k9, r9⟩ := x
      match k9, h1, h2 with
      | .inl i, h1, h2 =>
        obtain ⟨x1, x2, x3⟩ := h1
        obtain ⟨y1, y2, y3⟩ := h2
        rw [x2] at y2
        cases y2
        show τ2 n = _
        rw [← x3, y3]
      | .inr (p, k), h1, h2 =>
        show τ2 n = _
        rw [← h1, h2]
    | succ k =>
      have h9 := ih (n := n + 1) (k := k) (by simpa using hi) hv.2.2
      rw [show n + (k + 1) = n + 1 + k by omega]
      exact h9
theorem zk_iv_r {n k : Nat} {its : List zk_It} {it : zk_It} {τ2 : Nat → Int} (hi : its[k]? = some it) (hv : zk_iv gh H lc τ2 n its) : it.2.1 ≤ τ2 (n + k) ∧ τ2 (n + k) ≤ it.2.2.1 := by
  induction its generalizing n k with
  | nil => simp at hi
  | cons x l ih =>
    cases k with
    | zero =>
      have e : x = it := by simpa using hi
      subst e
      exact hv.1
    | succ k =>
      have h9 := ih (n := n + 1) (k := k) (by simpa using hi) hv.2.2
      rw [show n + (k + 1) = n + 1 + k by omega]
      exact h9
/-- a loop's measure -/
def zk_ms (lp : zk_Lp) (τ : Nat → Int) : Nat := match lp.1.2.1[lp.1.2.2.2.2.1]? with
  | some it => if lp.1.2.2.2.2.2 = true then (it.2.2.1 - τ (lp.2.1.1 + lp.1.2.2.2.2.1)).toNat else (τ (lp.2.1.1 + lp.1.2.2.2.2.1) - it.2.1).toNat
  | none => 0
/-- it has come nearer to its end -/
def zk_me (lp : zk_Lp) (A : zk_A) (lv : zk_LV) : Bool := match lp.1.2.1[lp.1.2.2.2.2.1]? with
  | some it => match zk_ia A lv it with
    | some a => bif lp.1.2.2.2.2.2 then zk_geq A 6 a (lp.2.1.1 + lp.1.2.2.2.2.1 + 1, 1) else zk_geq A 6 (lp.2.1.1 + lp.1.2.2.2.2.1 + 1, -1) a
    | none => false
  | none => false
theorem zk_me_ok {τ2 : Nat → Int} (hN : zk_N τ A) (hH : zk_Hp B gh J τ A H) (hl : zk_L τ A.1 lv lc) (hv : zk_iv gh H lc τ2 lp.2.1.1 lp.1.2.1) (h : zk_me lp A lv = true) : zk_ms lp τ2 < zk_ms lp τ := by
  unfold zk_me at h
  unfold zk_ms
  split at h
  · rename_i it hit
    try rw [hit]
    try dsimp only
    split at h
    · rename_i a ha
      have e := zk_iv_at hH hl hit ha hv
      have r := zk_iv_r hit hv
      cases hu : lp.1.2.2.2.2.2 with
      | true =>
        rw [hu] at h
        have g := zk_geq_ok hN h
        have g : τ (lp.2.1.1 + lp.1.2.2.2.2.1) + 1 ≤ zk_ev τ a := g
        rw [if_pos rfl, if_pos rfl]
        omega
      | false =>
        rw [hu] at h
        have g := zk_geq_ok hN h
        have g : zk_ev τ a ≤ τ (lp.2.1.1 + lp.1.2.2.2.2.1) + -1 := g
        rw [if_neg (by simp), if_neg (by simp)]
        omega
    · cases h
  · cases h
end KU
end
section
/-! ===== the checker: ends, calls ===== -/
abbrev zk_XV : Type := Option zk_V ⊕ Nat
def zk_gX (τ : Nat → Int) (n : Nat) (x : zk_XV) (X : Option zp_V ⊕ Nat) : Prop := match x, X with
  | .inl none, .inl none => True
  | .inl (some a), .inl (some v) => zk_gV τ n a v
  | .inr e, .inr e' => e' = e
  | _, _ => False
def zk_thrB (mc ms : Nat) (tab : List (Nat × Instr)) (cp : Nat → Option za_row) (ex pc w cs sl : Nat) : Bool := match za_fe tab (pc + 3), za_fe tab (pc + 4) with
  | some .dup, some (.ldc is) => match za_fe tab (pc + 6), za_fe tab (pc + 9) with
    | some (.invokespecial ic), some .athrow => match cp is, cp ic with
      | some (10, _, _, _), some (15, ex', _, _) => (Nat.beq ex' ex).and ((Nat.ble w 4).and ((Nat.ble (cs + 1) mc).and (Nat.ble (sl + 6) ms)))
      | _, _ => false
    | _, _ => false
  | some .dup, some (.ldc_w is) => match za_fe tab (pc + 7), za_fe tab (pc + 10) with
    | some (.invokespecial ic), some .athrow => match cp is, cp ic with
      | some (10, _, _, _), some (15, ex', _, _) => (Nat.beq ex' ex).and ((Nat.ble w 4).and ((Nat.ble (cs + 1) mc).and (Nat.ble (sl + 6) ms)))
      | _, _ => false
    | _, _ => false
  | _, _ => false
theorem zk_thrB_ok {mc ms : Nat} {tab : List (Nat × Instr)} {cp : Nat → Option za_row} {ex pc w : Nat} {sc : List zp_V} {t : zp_T} (hw : zp_wt sc ≤ 2 * w) (h : zk_thrB mc ms tab cp ex pc w t.2.1 t.2.2 = true) : zp_thr mc ms tab cp ex pc sc t = some (.inr ex, t.1) := by
  unfold zk_thrB at h
  unfold zp_thr
  split at h
  · rename_i is f3 f4
    rw [f3, f4]
    dsimp only
    split at h
    · rename_i ic f6 f9
      rw [f6, f9]
      dsimp only
      split at h
      · rename_i r1 r2 r3 ex' r4 r5 c1 c2
        rw [c1, c2]
        obtain ⟨g1, h⟩ := Bool.and_eq_true_iff.mp h
        obtain ⟨g2, h⟩ := Bool.and_eq_true_iff.mp h
        obtain ⟨g3, g4⟩ := Bool.and_eq_true_iff.mp h
        have g2 := za_ble g2
        exact if_pos ⟨za_beq g1, by omega, za_ble g3, za_ble g4⟩
      · cases h
    · cases h
  · rename_i is f3 f4
    rw [f3, f4]
    dsimp only
    split at h
    · rename_i ic f6 f9
      rw [f6, f9]
      dsimp only
      split at h
      · rename_i r1 r2 r3 ex' r4 r5 c1 c2
        rw [c1, c2]
        obtain ⟨g1, h⟩ := Bool.and_eq_true_iff.mp h
        obtain ⟨g2, h⟩ := Bool.and_eq_true_iff.mp h
        obtain ⟨g3, g4⟩ := Bool.and_eq_true_iff.mp h
        have g2 := za_ble g2
        exact if_pos ⟨za_beq g1, by omega, za_ble g3, za_ble g4⟩
      · cases h
    · cases h
  · cases h
def zk_endI (M : za_MI) (cp : Nat → Option za_row) (i : Instr) (A : zk_A) (pc : Nat) (st : List zk_V) (cs sl : Nat) : Option zk_XV := match i with
  | .ireturn => match za_rt M, st with
    | some .int, [.inl a] => bif (Nat.ble cs (za_mc M)).and (Nat.ble sl (za_ms M)) then some (.inl (some (.inl a))) else none
    | some .boolean, [.inl a] => bif ((Nat.ble cs (za_mc M)).and (Nat.ble sl (za_ms M))).and (zk_sub1 A a (0, 1)) then some (.inl (some (.inl a))) else none
    | _, _ => none
  | .lreturn => match za_rt M, st with
    | some .long, [.inr none] => bif (Nat.ble cs (za_mc M)).and (Nat.ble sl (za_ms M)) then some (.inl (some (.inr none))) else none
    | _, _ => none
  | .return_ => match za_rt M, st with
    | none, [] => bif (Nat.ble cs (za_mc M)).and (Nat.ble sl (za_ms M)) then some (.inl none) else none
    | _, _ => none
  | .new k => match cp k, za_hh M with
    | some (6, ex, _, _), [] => bif zk_thrB (za_mc M) (za_ms M) (za_is M) cp ex pc st.length cs sl then some (.inr ex) else none
    | _, _ => none
  | _ => none
theorem zk_endI_ok {M : za_MI} {cp : Nat → Option za_row} {i : Instr} {τ : Nat → Int} {A : zk_A} {pc : Nat} {st : List zk_V} {sc : List zp_V} {t : zp_T} {x : zk_XV} (hN : zk_N τ A) (hs : za_F2 (zk_gV τ A.1) st sc) (h : zk_endI M cp i A pc st t.2.1 t.2.2 = some x) : ∃ X, zp_end M cp i pc sc t = some X ∧ X.2 = t.1 ∧ zk_gX τ A.1 x X.1 := by
  unfold zk_endI at h
  split at h
  · split at h
    · rename_i a hrt
      obtain ⟨h1, h⟩ := za_bif h
      cases h
      obtain ⟨h1, h2⟩ := Bool.and_eq_true_iff.mp h1
      obtain ⟨_, s1, rfl, v1, q1⟩ := za_F2_cons hs
      have e := za_F2_nil q1
      subst e
      obtain ⟨y, rfl, y1, y2⟩ := zk_gI_v v1
      refine ⟨(.inl (some (.inl y)), t.1), ?_, rfl, ⟨y1, y2⟩⟩
      show zp_iret (za_mc M) (za_ms M) (za_rt M) [.inl y] t = _
      rw [hrt]
      exact if_pos ⟨za_ble h1, za_ble h2⟩
    · rename_i a hrt
      obtain ⟨h1, h⟩ := za_bif h
      cases h
      obtain ⟨h1, h3⟩ := Bool.and_eq_true_iff.mp h1
      obtain ⟨h1, h2⟩ := Bool.and_eq_true_iff.mp h1
      obtain ⟨_, s1, rfl, v1, q1⟩ := za_F2_cons hs
      have e := za_F2_nil q1
      subst e
      obtain ⟨y, rfl, y1, y2⟩ := zk_gI_v v1
      have hb := zk_sub1_ok hN h3
      refine ⟨(.inl (some (.inl y)), t.1), ?_, rfl, ⟨y1, y2⟩⟩
      show zp_iret (za_mc M) (za_ms M) (za_rt M) [.inl y] t = _
      rw [hrt]
      exact if_pos ⟨⟨za_ble h1, za_ble h2⟩, zk_x01 (by rw [y2]; exact hb.1) (by rw [y2]; exact hb.2)⟩
    · cases h
  · split at h
    · rename_i hrt
      obtain ⟨h1, h⟩ := za_bif h
      cases h
      obtain ⟨h1, h2⟩ := Bool.and_eq_true_iff.mp h1
      obtain ⟨_, s1, rfl, v1, q1⟩ := za_F2_cons hs
      have e := za_F2_nil q1
      subst e
      obtain ⟨y, rfl⟩ := zk_gL_v v1
      refine ⟨(.inl (some (.inr (.inl y))), t.1), ?_, rfl, trivial⟩
      show zp_lret (za_mc M) (za_ms M) (za_rt M) [.inr (.inl y)] t = _
      rw [hrt]
      exact if_pos ⟨za_ble h1, za_ble h2⟩
    · cases h
  · split at h
    · rename_i hrt
      obtain ⟨h1, h⟩ := za_bif h
      cases h
      obtain ⟨h1, h2⟩ := Bool.and_eq_true_iff.mp h1
      have e := za_F2_nil hs
      subst e
      refine ⟨(.inl none, t.1), ?_, rfl, trivial⟩
      show zp_vret (za_mc M) (za_ms M) (za_rt M) [] t = _
      rw [hrt]
      exact if_pos ⟨za_ble h1, za_ble h2⟩
    · cases h
  · rename_i k
    split at h
    · rename_i ex r1 r2 hrow hhe
      obtain ⟨h1, h⟩ := za_bif h
      cases h
      refine ⟨(.inr ex, t.1), ?_, rfl, rfl⟩
      show (match cp k, za_hh M with
        | some (6, ex, _, _), [] => zp_thr (za_mc M) (za_ms M) (za_is M) cp ex pc sc t
        | _, _ => none) = _
      rw [hrow, hhe]
      exact zk_thrB_ok (zk_wt4 hs) h1
    · cases h
  · cases h
/-! calls -/
def zk_isRk (B : zk_B) (st : List zk_V) (k own : Nat) : Bool := match st[k]? with
  | some (.inr (some (some (q + 1)))) => match B.1[q]? with
    | some (.inl ci) => Nat.beq ci own
    | _ => false
  | _ => false
theorem zk_isRk_ok {B : zk_B} {τ : Nat → Int} {n k own : Nat} {st : List zk_V} {sc : List zp_V} {H : zp_H} (hH : H.1 = B.1) (hs : za_F2 (zk_gV τ n) st sc) (h : zk_isRk B st k own = true) : zp_isRk sc k H own = true := by
  unfold zk_isRk at h
  split at h
  · rename_i q hq
    split at h
    · rename_i ci hc
      obtain ⟨w, w1, w2⟩ := za_F2_get hs hq
      have e := zk_gR_v w2
      subst e
      unfold zp_isRk
      rw [w1]
      show (match H.1[q]? with
        | some (.inl ci) => Nat.beq ci own
        | _ => false) = true
      rw [hH, hc]
      exact h
    · cases h
  · cases h
def zk_clA (B : zk_B) (cp : Nat → Option za_row) (i : Instr) (st : List zk_V) : Option (Bool × Nat × Nat × za_MI) := match i with
  | .invokevirtual k => match cp k with
    | some (1, j, n, _) => match za_MT j with
      | some Y => bif zk_isRk B st n (za_cl Y) then some (false, j, n + 1, Y) else none
      | none => none
    | some (11, j, n, _) => match za_MT j with
      | some Y => bif zk_isRk B st n (za_cl Y) then some (true, j, n + 1, Y) else none
      | none => none
    | _ => none
  | .invokestatic k => match cp k with
    | some (2, j, n, _) => match za_MT j with
      | some Y => some (false, j, n, Y)
      | none => none
    | some (12, j, n, _) => match za_MT j with
      | some Y => some (true, j, n, Y)
      | none => none
    | _ => none
  | _ => none
theorem zk_clA_ok {B : zk_B} {τ : Nat → Int} {n : Nat} {cp : Nat → Option za_row} {i : Instr} {st : List zk_V} {sc : List zp_V} {t : zp_T} {nx : Bool} {j k : Nat} {Y : za_MI} (hH : t.1.1 = B.1) (hs : za_F2 (zk_gV τ n) st sc) (h : zk_clA B cp i st = some (nx, j, k, Y)) : zp_cl cp i sc t = some (nx, j, k, Y) ∧ za_MT j = some Y := by
  unfold zk_clA at h
  unfold zp_cl
  split at h
  · rename_i kk
    try dsimp only
    split at h
    · rename_i j9 n9 z hrow
      rw [hrow]
      show (match za_MT j9 with
        | some Y => bif zp_isRk sc n9 t.1 (za_cl Y) then some (false, j9, n9 + 1, Y) else none
        | none => none) = some (nx, j, k, Y) ∧ za_MT j = some Y
      split at h
      · rename_i Y9 hj
        obtain ⟨h1, h⟩ := za_bif h
        cases h
        rw [hj]
        try dsimp only
        rw [zk_isRk_ok hH hs h1]
        exact ⟨rfl, rfl⟩
      · cases h
    · rename_i j9 n9 z hrow
      rw [hrow]
      show (match za_MT j9 with
        | some Y => bif zp_isRk sc n9 t.1 (za_cl Y) then some (true, j9, n9 + 1, Y) else none
        | none => none) = some (nx, j, k, Y) ∧ za_MT j = some Y
      split at h
      · rename_i Y9 hj
        obtain ⟨h1, h⟩ := za_bif h
        cases h
        rw [hj]
        try dsimp only
        rw [zk_isRk_ok hH hs h1]
        exact ⟨rfl, rfl⟩
      · cases h
    · cases h
  · rename_i kk
    try dsimp only
    split at h
    · rename_i j9 n9 z hrow
      rw [hrow]
      show (match za_MT j9 with
        | some Y => some (false, j9, n9, Y)
        | none => none) = some (nx, j, k, Y) ∧ za_MT j = some Y
      split at h
      · rename_i Y9 hj
        cases h
        rw [hj]
        exact ⟨rfl, rfl⟩
      · cases h
    · rename_i j9 n9 z hrow
      rw [hrow]
      show (match za_MT j9 with
        | some Y => some (true, j9, n9, Y)
        | none => none) = some (nx, j, k, Y) ∧ za_MT j = some Y
      split at h
      · rename_i Y9 hj
        cases h
        rw [hj]
        exact ⟨rfl, rfl⟩
      · cases h
    · cases h
  · cases h
def zk_wtA : List zk_V → Nat
  | [] => 0
  | v :: l => zk_cat v + zk_wtA l
theorem zk_wtA_ok {τ : Nat → Int} {n : Nat} : ∀ {st : List zk_V} {sc : List zp_V}, za_F2 (zk_gV τ n) st sc → zp_wt sc = zk_wtA st
  | [], [], _ => rfl
  | v :: st, w :: sc, h => by
    show zp_cat w + zp_wt sc = zk_cat v + zk_wtA st
    rw [zk_wtA_ok h.2, zk_cat_ok h.1]
  | [], _ :: _, h => h.elim
  | _ :: _, [], h => h.elim
def zk_args : Nat → List zk_V → zk_LV
  | _, [] => []
  | i, v :: vs => (i, v) :: zk_args (if zk_cat v = 2 then i + 2 else i + 1) vs
theorem zk_args_ok {τ : Nat → Int} {n : Nat} : ∀ {as : List zk_V} {vs : List zp_V} (i : Nat), za_F2 (zk_gV τ n) as vs → zk_L τ n (zk_args i as) (zp_args i vs)
  | [], [], _, _ => fun j v h => by cases h
  | a :: as, v :: vs, i, h => by
    intro j w hw
    have ih := zk_args_ok (if zk_cat a = 2 then i + 2 else i + 1) h.2
    unfold zk_args at hw
    unfold zk_get at hw
    show ∃ w9, (bif Nat.beq i j then some v else zp_get (zp_args (if zp_cat v = 2 then i + 2 else i + 1) vs) j) = some w9 ∧ _
    cases hb : Nat.beq i j with
    | true =>
      rw [hb] at hw
      cases hw
      exact ⟨v, rfl, h.1⟩
    | false =>
      rw [hb] at hw
      rw [← zk_cat_ok h.1]
      exact ih j w hw
  | [], _ :: _, _, h => h.elim
  | _ :: _, [], _, h => h.elim
/-! a summary's use -/
def zk_pB (A : zk_A) (p : zk_P) (v : zk_V) : Bool := match p, v with
  | .inl r, .inl a => zk_sub1 A a r
  | .inr none, .inr none => true
  | .inr (some none), .inr (some none) => true
  | .inr (some (some p)), .inr (some (some q)) => Nat.beq p q
  | _, _ => false
theorem zk_pB_ok {τ : Nat → Int} {A : zk_A} {p : zk_P} {v : zk_V} {w : zp_V} (hN : zk_N τ A) (hv : zk_gV τ A.1 v w) (h : zk_pB A p v = true) : zk_pv p w := by
  match p, v, h with
  | .inl r, .inl a, h =>
    obtain ⟨x, rfl, x1, x2⟩ := zk_gI_v hv
    show zk_in x.toInt r
    rw [x2]
    exact zk_sub1_ok hN h
  | .inr none, .inr none, _ =>
    obtain ⟨x, rfl⟩ := zk_gL_v hv
    trivial
  | .inr (some none), .inr (some none), _ =>
    have e := zk_gR_v hv
    subst e
    rfl
  | .inr (some (some p)), .inr (some (some q)), h =>
    have e := zk_gR_v hv
    subst e
    show some q = some p
    rw [za_beq (show Nat.beq p q = true from h)]
def zk_amB (A : zk_A) : List zk_P → List zk_V → Bool
  | [], [] => true
  | p :: l, v :: m => (zk_pB A p v).and (zk_amB A l m)
  | _, _ => false
theorem zk_amB_ok {τ : Nat → Int} {A : zk_A} (hN : zk_N τ A) : ∀ {ps : List zk_P} {vs : List zk_V} {ws : List zp_V}, za_F2 (zk_gV τ A.1) vs ws → zk_amB A ps vs = true → za_F2 zk_pv ps ws
  | [], [], [], _, _ => trivial
  | p :: ps, v :: vs, w :: ws, hv, h => by
    obtain ⟨h1, h2⟩ := Bool.and_eq_true_iff.mp h
    exact ⟨zk_pB_ok hN hv.1 h1, zk_amB_ok hN hv.2 h2⟩
  | _, [], _ :: _, hv, _ => hv.elim
  | _, _ :: _, [], hv, _ => hv.elim
  | [], _ :: _, _, _, h => by cases h
  | _ :: _, [], _, _, h => by cases h
/-- a field lies in a range -/
def zk_ff (B : zk_B) (A : zk_A) (f : Nat × Nat × Int × Int) : Bool := match zk_fr1 B A f.1 f.2.1 with
  | some r => zk_le2 r f.2.2
  | none => false
theorem zk_ff_ok {B : zk_B} {gh : zp_H → Int} {J : zp_H → Prop} {τ : Nat → Int} {A : zk_A} {H : zp_H} {f : Nat × Nat × Int × Int} (hN : zk_N τ A) (hH : zk_Hp B gh J τ A H) (h : zk_ff B A f = true) : zk_in (zk_fv gh H f.1 f.2.1) f.2.2 := by
  unfold zk_ff at h
  split at h
  · rename_i r hr
    have g := zk_fr1_ok hN hH hr
    obtain ⟨h1, h2⟩ := Bool.and_eq_true_iff.mp h
    exact ⟨Int.le_trans (za_ile_t h1) g.1, Int.le_trans g.2 (za_ile_t h2)⟩
  · cases h
def zk_fd (B : zk_B) (A : zk_A) (j : Nat) (vs : List zk_V) : List zk_T → Option zk_T
  | [] => none
  | e :: l => bif Nat.beq e.1 j then bif (zk_amB A e.2.1 vs).and (e.2.2.1.all (zk_ff B A)) then some e else zk_fd B A j vs l else zk_fd B A j vs l
theorem zk_fd_ok {B : zk_B} {A : zk_A} {j : Nat} {vs : List zk_V} {s : zk_T} : ∀ {T : List zk_T}, zk_fd B A j vs T = some s → s ∈ T ∧ s.1 = j ∧ zk_amB A s.2.1 vs = true
  | [], h => by cases h
  | e :: l, h => by
    unfold zk_fd at h
    cases h1 : Nat.beq e.1 j with
    | false =>
      rw [h1] at h
      obtain ⟨g1, g2⟩ := zk_fd_ok h
      exact ⟨List.mem_cons_of_mem _ g1, g2⟩
    | true =>
      rw [h1] at h
      cases h2 : (zk_amB A e.2.1 vs).and (e.2.2.1.all (zk_ff B A)) with
      | false =>
        rw [h2] at h
        obtain ⟨g1, g2⟩ := zk_fd_ok h
        exact ⟨List.mem_cons_of_mem _ g1, g2⟩
      | true =>
        rw [h2] at h
        cases h
        exact ⟨List.mem_cons_self, za_beq h1, (Bool.and_eq_true_iff.mp h2).1⟩
def zk_fa : List (Nat × Nat × Int × Int) → zk_A → zk_A
  | [], A => A
  | f :: l, A => zk_fa l (zk_addo (zk_fresh A f.2.2.1 f.2.2.2 1) f.1 f.2.1).1
theorem zk_fa_ok {B : zk_B} {gh : zp_H → Int} {J : zp_H → Prop} {H : zp_H} : ∀ {fs : List (Nat × Nat × Int × Int)} {τ : Nat → Int} {A : zk_A}, (∀ f ∈ fs, zk_in (zk_fv gh H f.1 f.2.1) f.2.2) → zk_N τ A → zk_Hp B gh J τ A H → ∃ τ', zk_ext A.1 τ τ' ∧ A.1 ≤ (zk_fa fs A).1 ∧ zk_N τ' (zk_fa fs A) ∧ zk_Hp B gh J τ' (zk_fa fs A) H
  | [], τ, A, _, hN, hH => ⟨τ, zk_ext_r τ, Nat.le_refl _, hN, hH⟩
  | f :: l, τ, A, hf, hN, hH => by
    have h1 := hf f List.mem_cons_self
    obtain ⟨τ1, a1, a2, a3, a4, -, -⟩ := zk_addo_ok (p := f.1) (k := f.2.1) (zk_Rs_h hH (zk_fresh_ok (md := 1) hN h1.1 h1.2 (Int.one_dvd _)))
    obtain ⟨τ2, b1, b2, b3, b4⟩ := zk_fa_ok (fs := l) (fun f' h' => hf f' (List.mem_cons_of_mem _ h')) a3 a4
    exact ⟨τ2, zk_ext_t a2 a1 b1, Nat.le_trans a2 b2, b3, b4⟩
def zk_ra (ov0 : List (Nat × Nat × Bool × zk_I)) : List (Nat × Nat × Int) → zk_A → zk_A
  | [], A => A
  | f :: l, A => zk_ra ov0 l (match zk_og ov0 f.1 f.2.1, zk_og A.2.2.1 f.1 f.2.1 with
    | some a0, some a1 => (A.1, A.2.1, A.2.2.1, A.2.2.2.1, (3, a1, (a0.1, a0.2 + f.2.2), (0, 0)) :: A.2.2.2.2)
    | _, _ => A)
theorem zk_ra_ok {B : zk_B} {gh : zp_H → Int} {J : zp_H → Prop} {H0 H : zp_H} {τ : Nat → Int} {ov0 : List (Nat × Nat × Bool × zk_I)} {n0 : Nat} (h0 : ∀ q ∈ ov0, q.2.2.2.1 ≤ n0 ∧ zk_fv gh H0 q.1 q.2.1 = zk_ev τ q.2.2.2) : ∀ {fs : List (Nat × Nat × Int)} {A : zk_A}, n0 ≤ A.1 → (∀ f ∈ fs, zk_fv gh H0 f.1 f.2.1 + f.2.2 ≤ zk_fv gh H f.1 f.2.1) → zk_N τ A → zk_Hp B gh J τ A H → (zk_ra ov0 fs A).1 = A.1 ∧ zk_N τ (zk_ra ov0 fs A) ∧ zk_Hp B gh J τ (zk_ra ov0 fs A) H
  | [], A, _, _, hN, hH => ⟨rfl, hN, hH⟩
  | f :: l, A, hn, hf, hN, hH => by
    unfold zk_ra
    have hf' := fun f' h' => hf f' (List.mem_cons_of_mem f h')
    split
    · rename_i a0 a1 g0 g1
      obtain ⟨e0, x1, x2, x3, x4⟩ := zk_og_m g0
      obtain ⟨e1, y1, y2, y3, y4⟩ := zk_og_m g1
      obtain ⟨u1, u2⟩ := h0 e0 x1
      obtain ⟨v1, v2⟩ := hH.2.2.1 e1 y1
      rw [x2, x3, x4] at u2
      rw [y2, y3, y4] at v2
      rw [x4] at u1
      rw [y4] at v1
      have h9 := hf f List.mem_cons_self
      refine zk_ra_ok h0 (A := (A.1, A.2.1, A.2.2.1, A.2.2.2.1, (3, a1, (a0.1, a0.2 + f.2.2), (0, 0)) :: A.2.2.2.2)) hn hf' ⟨hN.1, fun q hq => ?_⟩ hH
      rcases List.mem_cons.mp hq with rfl | hq
      · refine ⟨v1, Nat.le_trans u1 hn, Nat.zero_le _, ?_⟩
        show zk_ev τ (a0.1, a0.2 + f.2.2) ≤ zk_ev τ a1
        rw [zk_ev_off]
        omega
      · exact hN.2 q hq
    · exact zk_ra_ok h0 hn hf' hN hH
def zk_rt (A : zk_A) (o : Option zk_P ⊕ Nat) : zk_A × zk_XV := match o with
  | .inl none => (A, .inl none)
  | .inl (some (.inl r)) => ((zk_fresh A r.1 r.2 1).1, .inl (some (.inl (zk_fresh A r.1 r.2 1).2)))
  | .inl (some (.inr z)) => (A, .inl (some (.inr z)))
  | .inr e => (A, .inr e)
theorem zk_rt_ok {B : zk_B} {gh : zp_H → Int} {J : zp_H → Prop} {H : zp_H} {τ : Nat → Int} {A : zk_A} {o : Option zk_P ⊕ Nat} {X : Option zp_V ⊕ Nat} (hN : zk_N τ A) (hH : zk_Hp B gh J τ A H) (h : zk_rv o X) : ∃ τ', zk_ext A.1 τ τ' ∧ A.1 ≤ (zk_rt A o).1.1 ∧ zk_N τ' (zk_rt A o).1 ∧ zk_Hp B gh J τ' (zk_rt A o).1 H ∧ zk_gX τ' (zk_rt A o).1.1 (zk_rt A o).2 X := by
  match o, X, h with
  | .inl none, .inl none, _ => exact ⟨τ, zk_ext_r τ, Nat.le_refl _, hN, hH, trivial⟩
  | .inl (some (.inl r)), .inl (some (.inl x)), h =>
    have h : zk_in x.toInt r := h
    obtain ⟨τ1, a1, a2, a3, a4, a5, a6⟩ := zk_Rs_h hH (zk_fresh_ok (md := 1) hN h.1 h.2 (Int.one_dvd _))
    exact ⟨τ1, a1, a2, a3, a4, a5, a6⟩
  | .inl (some (.inr none)), .inl (some (.inr (.inl y))), _ => exact ⟨τ, zk_ext_r τ, Nat.le_refl _, hN, hH, trivial⟩
  | .inl (some (.inr (some r))), .inl (some (.inr (.inr r'))), h => exact ⟨τ, zk_ext_r τ, Nat.le_refl _, hN, hH, h⟩
  | .inr e, .inr e', h => exact ⟨τ, zk_ext_r τ, Nat.le_refl _, hN, hH, h⟩
/-- the state behind an outcome -/
def zk_so (s : zk_T) (o : zk_Oc) (A : zk_A) : zk_A × zk_XV := zk_rt (zk_ra A.2.2.1 o.2.2 (zk_fa o.2.1 (zk_bh s.2.2.2.1 s.2.2.2.2.1 A))) o.1
theorem zk_so_ok {B : zk_B} {gh : zp_H → Int} {J : zp_H → Prop} {fz : Nat → Nat → Bool} {H : zp_H} {τ : Nat → Int} {A : zk_A} {s : zk_T} {o : zk_Oc} {X : zp_X} (hw : zk_W B gh J fz) (hN : zk_N τ A) (hH : zk_Hp B gh J τ A H) (hB : zk_Bs B gh J X.2) (hF : zk_Fr gh s.2.2.2.1 s.2.2.2.2.1 H X.2) (ho : zk_oc gh H o X) : ∃ τ', zk_ext A.1 τ τ' ∧ A.1 ≤ (zk_so s o A).1.1 ∧ zk_N τ' (zk_so s o A).1 ∧ zk_Hp B gh J τ' (zk_so s o A).1 X.2 ∧ zk_gX τ' (zk_so s o A).1.1 (zk_so s o A).2 X.1 := by
  obtain ⟨a1, a2⟩ := zk_bh_ok hw hN hH hB hF
  obtain ⟨τ1, b1, b2, b3, b4⟩ := zk_fa_ok (fs := o.2.1) ho.2.1 a1 a2
  have b1 : zk_ext A.1 τ τ1 := b1
  have b2 : A.1 ≤ (zk_fa o.2.1 (zk_bh s.2.2.2.1 s.2.2.2.2.1 A)).1 := b2
  obtain ⟨c1, c2, c3⟩ := zk_ra_ok (H0 := H) (ov0 := A.2.2.1) (n0 := A.1) (fun q hq => ⟨(hH.2.2.1 q hq).1, by rw [zk_ev_x (hH.2.2.1 q hq).1 b1]; exact (hH.2.2.1 q hq).2⟩) (fs := o.2.2) b2 ho.2.2 b3 b4
  obtain ⟨τ2, d1, d2, d3, d4, d5⟩ := zk_rt_ok c2 c3 ho.1
  rw [c1] at d1 d2
  exact ⟨τ2, zk_ext_t b2 b1 d1, Nat.le_trans b2 d2, d3, d4, d5⟩
theorem zk_Fr_w {gh : zp_H → Int} {mods mods' : List (Nat × Nat)} {am am' : List Nat} {H H' : zp_H} (h1 : mods'.all (fun q => zk_inm mods q.1 q.2) = true) (h2 : am'.all (fun q => zk_ina am q) = true) (h : zk_Fr gh mods' am' H H') : zk_Fr gh mods am H H' := by
  refine ⟨h.1, ?_⟩
  intro p k g1 g2
  refine h.2 p k ?_ ?_
  · cases hb : zk_inm mods' p k with
    | false => rfl
    | true =>
      obtain ⟨q, q1, q2⟩ := List.any_eq_true.mp hb
      obtain ⟨q3, q4⟩ := Bool.and_eq_true_iff.mp q2
      have h9 := List.all_eq_true.mp h1 q q1
      rw [za_beq q3, za_beq q4, g1] at h9
      cases h9
  · cases hb : zk_ina am' p with
    | false => rfl
    | true =>
      obtain ⟨q, q1, q2⟩ := List.any_eq_true.mp hb
      have h9 := List.all_eq_true.mp h2 q q1
      rw [za_beq q2, g2] at h9
      cases h9
end
section
/-! ===== the checker ===== -/
abbrev zk_Rc : Type := zk_A → za_MI → Nat → zk_LV → List zk_V → Nat → Nat → List zk_F1 → List zk_Lp → Bool
def zk_rvB (A : zk_A) (o : Option zk_P ⊕ Nat) (x : zk_XV) : Bool := match o, x with
  | .inl none, .inl none => true
  | .inl (some p), .inl (some v) => zk_pB A p v
  | .inr e, .inr e' => Nat.beq e e'
  | _, _ => false
def zk_rl (A : zk_A) (ini : List (Nat × Nat × Nat)) (f : Nat × Nat × Int) : Bool := ini.any (fun q => (Nat.beq q.1 f.1).and ((Nat.beq q.2.1 f.2.1).and (match zk_og A.2.2.1 f.1 f.2.1 with
  | some a => zk_geq A 12 a (q.2.2 + 1, f.2.2)
  | none => false)))
def zk_pst (B : zk_B) (outs : List zk_Oc) (ini : List (Nat × Nat × Nat)) (A : zk_A) (x : zk_XV) : Bool := (zk_flush B A).and (outs.any (fun o => (zk_rvB A o.1 x).and ((o.2.1.all (zk_ff B A)).and (o.2.2.all (zk_rl A ini)))))
def zk_flA (lv : zk_LV) (k : Nat) : zk_LV := lv.filter (fun q => !(q.1 == k) && !(q.1 + 1 == k && zk_cat q.2 == 2))
theorem zk_flA_ok {τ : Nat → Int} {n k : Nat} {lv : zk_LV} {lc : zp_LV} (hu : zk_u1 lv = true) (h : zk_L τ n lv lc) : zk_L τ n (zk_flA lv k) (zp_fl lc k) := by
  intro j v' hj
  obtain ⟨q, q1, q2, q3, q4⟩ := zk_get_f hj
  have hg := zk_u1_get hu q1
  rw [q2, q3] at hg
  obtain ⟨w', w1, w2⟩ := h j v' hg
  refine ⟨w', zp_get_f w1 (fun r r1 r2 r3 => ?_), w2⟩
  rw [q2, q3] at q4
  rw [r2, r3, ← zk_cat_ok w2]
  exact q4
def zk_ret (B : zk_B) (outs : List zk_Oc) (ini : List (Nat × Nat × Nat)) (rec : zk_Rc) (A : zk_A) (lps : List zk_Lp) (x : zk_XV) : List zk_F1 → Bool
  | [] => zk_pst B outs ini A x
  | f :: fs => match x with
    | .inl none => rec A f.2.1 (f.2.2.1 + 3) f.2.2.2.1 f.2.2.2.2.1 f.2.2.2.2.2.1 f.2.2.2.2.2.2 fs lps
    | .inl (some v) => rec A f.2.1 (f.2.2.1 + 3) f.2.2.2.1 (v :: f.2.2.2.2.1) f.2.2.2.2.2.1 f.2.2.2.2.2.2 fs lps
    | .inr ex => bif f.1 then false else match za_hnd (za_CP (za_cl f.2.1)) f.2.2.1 ex (za_hh f.2.1) with
      | none => false
      | some none => zk_ret B outs ini rec A lps x fs
      | some (some hp) => match za_fe (za_is f.2.1) hp with
        | some (.astore_n k) => bif Nat.blt k.val (za_nL f.2.1) then bif zk_u1 f.2.2.2.1 then rec A f.2.1 (hp + 1) (zk_flA f.2.2.2.1 k.val) [] f.2.2.2.2.2.1 f.2.2.2.2.2.2 fs lps else false else false
        | some (.astore k) => bif Nat.blt k (za_nL f.2.1) then bif zk_u1 f.2.2.2.1 then rec A f.2.1 (hp + 2) (zk_flA f.2.2.2.1 k) [] f.2.2.2.2.2.1 f.2.2.2.2.2.2 fs lps else false else false
        | _ => false
def zk_g1 (B : zk_B) (fz : Nat → Nat → Bool) (T : List zk_T) (mods : List (Nat × Nat)) (am : List Nat) (outs : List zk_Oc) (lev : Nat) (ini : List (Nat × Nat × Nat)) (rec : zk_Rc) : zk_Rc := fun A M pc lv st cs sl fs lps => match za_fe (za_is M) pc with
  | none => false
  | some i => match zk_nxt B fz mods am M (za_CP (za_cl M)) i A pc lv st with
    | some l => l.all (fun o => rec o.1 M o.2.1 o.2.2.1 o.2.2.2 cs sl fs lps)
    | none => match zk_endI M (za_CP (za_cl M)) i A pc st cs sl with
      | some x => zk_ret B outs ini rec A lps x fs
      | none => match zk_clA B (za_CP (za_cl M)) i st with
        | none => false
        | some (nx, j, k, Y) => bif (Nat.ble k st.length).and ((Nat.ble (st.drop k).length 4).and ((Nat.ble (cs + za_mc Y) (za_mc M)).and (Nat.ble (sl + za_ms Y) (za_ms M)))) then
          match zk_fd B A j (st.take k).reverse T with
          | some s => (zk_flush B A).and ((s.2.2.1.all (zk_ff B A)).and ((Nat.ble (s.2.2.2.2.2.2 + fs.length + 1) lev).and ((s.2.2.2.1.all (fun q => zk_inm mods q.1 q.2)).and ((s.2.2.2.2.1.all (fun q => zk_ina am q)).and
              (s.2.2.2.2.2.1.all (fun o => zk_ret B outs ini rec (zk_so s o A).1 lps (zk_so s o A).2 ((nx, M, pc, lv, st.drop k, cs + za_mc Y, sl + za_ms Y) :: fs)))))))
          | none => bif (Nat.ble (fs.length + 2) lev).and (Nat.ble (zk_wtA (st.take k).reverse) (za_nL Y)) then rec A Y 0 (zk_args 0 (st.take k).reverse) [] 0 0 ((nx, M, pc, lv, st.drop k, cs + za_mc Y, sl + za_ms Y) :: fs) lps else false
          else false
/-! what it means -/
section KX
variable {L : Nat} {σ : Nat → Int32} {B : zk_B} {gh : zp_H → Int} {J : zp_H → Prop} {fz : Nat → Nat → Bool} {T : List zk_T} {mods : List (Nat × Nat)} {am : List Nat} {outs : List zk_Oc} {lev : Nat} {ini : List (Nat × Nat × Nat)} {M0 : za_MI} {D : Nat} {H0 : zp_H} {τi : Nat → Int} {ni : Nat}
/-- a running loop may be entered anew, nearer to its end -/
def zk_LI (L : Nat) (σ : Nat → Int32) (B : zk_B) (gh : zp_H → Int) (J : zp_H → Prop) (mods : List (Nat × Nat)) (am : List Nat) (outs : List zk_Oc) (M0 : za_MI) (D : Nat) (H0 : zp_H) (τ : Nat → Int) (lp : zk_Lp) : Prop := ∀ τ2 lc sc H, zk_ext lp.2.1.1 τ τ2 → zk_N τ2 (zk_tA lp) → zk_Hp B gh J τ2 (zk_tA lp) H → zk_L τ2 (zk_tA lp).1 (zk_tL lp) lc → za_F2 (zk_gV τ2 (zk_tA lp).1) lp.2.2.2.1 sc → zk_Fr gh mods am H0 H → zk_ms lp τ2 < zk_ms lp τ → ∀ d, d + 1 = D → zs_Safe L σ (zk_PX B gh J mods am outs H0) M0 [] d (lp.1.1, lc, sc, H, lp.2.2.2.2.2)
def zk_HL (L : Nat) (σ : Nat → Int32) (B : zk_B) (gh : zp_H → Int) (J : zp_H → Prop) (mods : List (Nat × Nat)) (am : List Nat) (outs : List zk_Oc) (M0 : za_MI) (D : Nat) (H0 : zp_H) (ni : Nat) (τ : Nat → Int) (n : Nat) (lps : List zk_Lp) : Prop := ∀ lp ∈ lps, (zk_tA lp).1 ≤ n ∧ ni ≤ lp.2.1.1 ∧ zk_Sc τ lp ∧ zk_LI L σ B gh J mods am outs M0 D H0 τ lp
def zk_Gd (L : Nat) (σ : Nat → Int32) (B : zk_B) (gh : zp_H → Int) (J : zp_H → Prop) (mods : List (Nat × Nat)) (am : List Nat) (outs : List zk_Oc) (M0 : za_MI) (D : Nat) (H0 : zp_H) (τi : Nat → Int) (ni : Nat) (A : zk_A) (M : za_MI) (pc : Nat) (lv : zk_LV) (st : List zk_V) (cs sl : Nat) (fs : List zk_F1) (lps : List zk_Lp) : Prop :=
  ∀ τ lc sc H fc d, zk_N τ A → zk_Hp B gh J τ A H → zk_L τ A.1 lv lc → za_F2 (zk_gV τ A.1) st sc → za_F2 (zk_gF τ A.1) fs fc → zk_Fr gh mods am H0 H → ni ≤ A.1 → zk_ext ni τi τ → d + fs.length + 1 = D → zk_bot M fs = M0 → zk_HL L σ B gh J mods am outs M0 D H0 ni τ A.1 lps → zs_Safe L σ (zk_PX B gh J mods am outs H0) M fc d (pc, lc, sc, H, cs, sl)
theorem zk_ms_x {τ τ' : Nat → Int} {lp : zk_Lp} {n : Nat} (hn : (zk_tA lp).1 ≤ n) (h : zk_ext n τ τ') : zk_ms lp τ' = zk_ms lp τ := by
  unfold zk_ms
  split
  · rename_i it hit
    have h1 : lp.1.2.2.2.2.1 < lp.1.2.1.length := (List.getElem?_eq_some_iff.mp hit).1
    have h2 : lp.2.1.1 + lp.1.2.1.length ≤ n := hn
    rw [h (lp.2.1.1 + lp.1.2.2.2.2.1) (by omega)]
  · rfl
theorem zk_HL_x {τ τ' : Nat → Int} {n n' : Nat} {lps : List zk_Lp} (hn : n ≤ n') (h : zk_ext n τ τ') (hl : zk_HL L σ B gh J mods am outs M0 D H0 ni τ n lps) : zk_HL L σ B gh J mods am outs M0 D H0 ni τ' n' lps := by
  intro lp hlp
  obtain ⟨h1, h2, ⟨s1, s2⟩, h4⟩ := hl lp hlp
  have h5 : lp.2.1.1 ≤ n := Nat.le_trans (Nat.le_add_right _ _) h1
  have hx : zk_ext lp.2.1.1 τ τ' := fun j hj => h j (Nat.lt_of_lt_of_le hj h5)
  refine ⟨Nat.le_trans h1 hn, h2, ⟨zk_N_x hx s1, s2⟩, ?_⟩
  intro τ2 lc sc H g1 g2 g3 g4 g5 g6 g7 d hd
  exact h4 τ2 lc sc H (zk_ext_t (Nat.le_refl _) hx g1) g2 g3 g4 g5 g6 (by rw [← zk_ms_x h1 h]; exact g7) d hd
theorem zk_rvB_ok {A : zk_A} {τ : Nat → Int} (hN : zk_N τ A) : ∀ {o : Option zk_P ⊕ Nat} {x : zk_XV} {X : Option zp_V ⊕ Nat}, zk_gX τ A.1 x X → zk_rvB A o x = true → zk_rv o X
  | .inl none, .inl none, .inl none, _, _ => trivial
  | .inl (some p), .inl (some v), .inl (some w), hg, h => zk_pB_ok (p := p) (v := v) hN hg h
  | .inr e, .inr e', .inr e9, hg, h => by
    have hg : e9 = e' := hg
    show e9 = e
    rw [hg, za_beq (show Nat.beq e e' = true from h)]
  | .inl none, .inl (some _), _, _, h => by cases h
  | .inl (some _), .inl none, _, _, h => by cases h
  | .inl none, .inr _, _, _, h => by cases h
  | .inl (some _), .inr _, _, _, h => by cases h
  | .inr _, .inl none, _, _, h => by cases h
  | .inr _, .inl (some _), _, _, h => by cases h
  | .inl none, .inl none, .inl (some _), hg, _ => hg.elim
  | .inl none, .inl none, .inr _, hg, _ => hg.elim
  | .inl (some _), .inl (some _), .inl none, hg, _ => hg.elim
  | .inl (some _), .inl (some _), .inr _, hg, _ => hg.elim
  | .inr _, .inr _, .inl none, hg, _ => hg.elim
  | .inr _, .inr _, .inl (some _), hg, _ => hg.elim
theorem zk_pst_ok {A : zk_A} {x : zk_XV} {τ : Nat → Int} {H : zp_H} {X : zp_X} (hini : ∀ q ∈ ini, q.2.2 < ni ∧ τi q.2.2 = zk_fv gh H0 q.1 q.2.1) (hN : zk_N τ A) (hH : zk_Hp B gh J τ A H) (hF : zk_Fr gh mods am H0 H) (hx : zk_ext ni τi τ) (hX : X.2 = H) (hg : zk_gX τ A.1 x X.1) (h : zk_pst B outs ini A x = true) : zk_PX B gh J mods am outs H0 X := by
  obtain ⟨h1, h2⟩ := Bool.and_eq_true_iff.mp h
  obtain ⟨o, o1, o2⟩ := List.any_eq_true.mp h2
  obtain ⟨o2, o3⟩ := Bool.and_eq_true_iff.mp o2
  obtain ⟨o3, o4⟩ := Bool.and_eq_true_iff.mp o3
  refine ⟨by rw [hX]; exact zk_flush_ok hN hH h1, by rw [hX]; exact hF, o, o1, ?_, ?_, ?_⟩
  · exact zk_rvB_ok hN hg o2
  · intro f hf
    rw [hX]
    exact zk_ff_ok hN hH (List.all_eq_true.mp o3 f hf)
  · intro f hf
    rw [hX]
    obtain ⟨q, q1, q2⟩ := List.any_eq_true.mp (List.all_eq_true.mp o4 f hf)
    obtain ⟨q2, q3⟩ := Bool.and_eq_true_iff.mp q2
    obtain ⟨q3, q4⟩ := Bool.and_eq_true_iff.mp q3
    have e1 := za_beq q2
    have e2 := za_beq q3
    split at q4
    · rename_i a ha
      have g := zk_geq_ok hN q4
      obtain ⟨i1, i2⟩ := hini q q1
      obtain ⟨e0, f1, f2, f3, f4⟩ := zk_og_m ha
      have f5 := (hH.2.2.1 e0 f1).2
      rw [f2, f3, f4] at f5
      have g : τ q.2.2 + f.2.2 ≤ zk_ev τ a := g
      rw [hx _ i1, i2, e1, e2] at g
      rw [f5]
      exact g
    · cases q4
def zk_bt1 (M0 : za_MI) : List zk_F1 → Prop
  | [] => True
  | f :: fs => zk_bot f.2.1 fs = M0
theorem zk_ret_ok {rec : zk_Rc} (hini : ∀ q ∈ ini, q.2.2 < ni ∧ τi q.2.2 = zk_fv gh H0 q.1 q.2.1) (hrec : ∀ A M pc lv st cs sl fs lps, rec A M pc lv st cs sl fs lps = true → zk_Gd L σ B gh J mods am outs M0 D H0 τi ni A M pc lv st cs sl fs lps) {A : zk_A} {lps : List zk_Lp} {τ : Nat → Int} {H : zp_H} (hN : zk_N τ A) (hH : zk_Hp B gh J τ A H) (hF : zk_Fr gh mods am H0 H) (hni : ni ≤ A.1) (hx : zk_ext ni τi τ) (hl : zk_HL L σ B gh J mods am outs M0 D H0 ni τ A.1 lps) {x : zk_XV} {X : zp_X} (hX : X.2 = H) (hg : zk_gX τ A.1 x X.1) : ∀ {fs : List zk_F1} {fc : List zs_F} {d : Nat}, zk_ret B outs ini rec A lps x fs = true → za_F2 (zk_gF τ A.1) fs fc → d + fs.length = D → zk_bt1 M0 fs → zs_K L σ (zk_PX B gh J mods am outs H0) fc d X
  | [], [], d, h, _, _, _ => zk_pst_ok hini hN hH hF hx hX hg h
  | f :: fs, c :: fc, d, h, hf, hd, hb => by
    obtain ⟨⟨e1, e2, e3, e4, e5, e6⟩, hf⟩ := hf
    obtain ⟨cnx, cM, cpc, clv, cst, ccs, csl⟩ := c
    obtain ⟨fnx, fM, fpc, flv, fst, fcs, fsl⟩ := f
    have k1 : fnx = cnx := e1
    have k2 : fM = cM := e2
    have k3 : fpc = cpc := e3
    have k6 : fcs = ccs := congrArg Prod.fst e6
    have k7 : fsl = csl := congrArg Prod.snd e6
    clear e1 e2 e3 e6
    subst k1 k2 k3 k6 k7
    have e4 : zk_L τ A.1 flv clv := e4
    have e5 : za_F2 (zk_gV τ A.1) fst cst := e5
    have hd : d + (fs.length + 1) = D := hd
    have hb : zk_bot fM fs = M0 := hb
    obtain ⟨X1, X2⟩ := X
    have hX : X2 = H := hX
    subst hX
    unfold zk_ret at h
    match x, X1, hg, h with
    | .inl none, .inl none, _, h =>
      refine zs_Kcons (S1 := (fpc + 3, clv, cst, X2, fcs, fsl)) (fun _ => trivial) rfl ?_
      exact hrec _ _ _ _ _ _ _ _ _ h τ clv cst X2 fc d hN hH e4 e5 hf hF hni hx (by omega) hb hl
    | .inl (some v), .inl (some w), hg, h =>
      refine zs_Kcons (S1 := (fpc + 3, clv, w :: cst, X2, fcs, fsl)) (fun _ => trivial) rfl ?_
      exact hrec _ _ _ _ _ _ _ _ _ h τ clv (w :: cst) X2 fc d hN hH e4 ⟨hg, e5⟩ hf hF hni hx (by omega) hb hl
    | .inr ex, .inr ex', hg, h =>
      have hg : ex' = ex := hg
      subst hg
      dsimp only at h
      cases hnx : fnx with
      | true => rw [hnx] at h; cases h
      | false =>
        rw [hnx] at h
        simp only [cond_false] at h
        split at h
        · cases h
        · rename_i hh
          refine ⟨(fun z => nomatch z), Or.inr ⟨(.inr ex', X2), ?_, ?_⟩⟩
          · show (match za_hnd (za_CP (za_cl fM)) fpc ex' (za_hh fM) with
              | none => none
              | some none => some (Sum.inr (Sum.inr ex', X2))
              | some (some hp) => match za_fe (za_is fM) hp with
                | some (.astore_n k) => bif Nat.blt k.val (za_nL fM) then some (Sum.inl (hp + 1, zp_fl clv k.val, [], X2, fcs, fsl)) else none
                | some (.astore k) => bif Nat.blt k (za_nL fM) then some (Sum.inl (hp + 2, zp_fl clv k, [], X2, fcs, fsl)) else none
                | _ => none) = _
            rw [hh]
          · refine zk_ret_ok hini hrec hN hH hF hni hx hl (x := .inr ex') (X := (.inr ex', X2)) rfl rfl h hf (by omega) ?_
            cases fs with
            | nil => trivial
            | cons g gs => exact hb
        · rename_i hp hh
          split at h
          · rename_i k hk
            obtain ⟨h1, h⟩ := za_bif (show (bif Nat.blt k.val (za_nL fM) then some (bif zk_u1 flv then rec A fM (hp + 1) (zk_flA flv k.val) [] fcs fsl fs lps else false) else none) = some true by
              cases h9 : Nat.blt k.val (za_nL fM) with
              | true => rw [h9] at h; exact congrArg some h
              | false => rw [h9] at h; cases h)
            have h := Option.some.inj h
            cases h2 : zk_u1 flv with
            | false => rw [h2] at h; cases h
            | true =>
              rw [h2] at h
              refine zs_Kcons (S1 := (hp + 1, zp_fl clv k.val, [], X2, fcs, fsl)) (fun z => nomatch z) ?_ ?_
              · show (match za_hnd (za_CP (za_cl fM)) fpc ex' (za_hh fM) with
                  | none => none
                  | some none => some (Sum.inr (Sum.inr ex', X2))
                  | some (some hp) => match za_fe (za_is fM) hp with
                    | some (.astore_n k) => bif Nat.blt k.val (za_nL fM) then some (Sum.inl (hp + 1, zp_fl clv k.val, [], X2, fcs, fsl)) else none
                    | some (.astore k) => bif Nat.blt k (za_nL fM) then some (Sum.inl (hp + 2, zp_fl clv k, [], X2, fcs, fsl)) else none
                    | _ => none) = _
                rw [hh]
                dsimp only
                rw [hk]
                dsimp only
                rw [h1]
                rfl
              · exact hrec _ _ _ _ _ _ _ _ _ h τ _ [] X2 fc d hN hH (zk_flA_ok h2 e4) trivial hf hF hni hx (by omega) hb hl
          · rename_i k hk
            obtain ⟨h1, h⟩ := za_bif (show (bif Nat.blt k (za_nL fM) then some (bif zk_u1 flv then rec A fM (hp + 2) (zk_flA flv k) [] fcs fsl fs lps else false) else none) = some true by
              cases h9 : Nat.blt k (za_nL fM) with
              | true => rw [h9] at h; exact congrArg some h
              | false => rw [h9] at h; cases h)
            have h := Option.some.inj h
            cases h2 : zk_u1 flv with
            | false => rw [h2] at h; cases h
            | true =>
              rw [h2] at h
              refine zs_Kcons (S1 := (hp + 2, zp_fl clv k, [], X2, fcs, fsl)) (fun z => nomatch z) ?_ ?_
              · show (match za_hnd (za_CP (za_cl fM)) fpc ex' (za_hh fM) with
                  | none => none
                  | some none => some (Sum.inr (Sum.inr ex', X2))
                  | some (some hp) => match za_fe (za_is fM) hp with
                    | some (.astore_n k) => bif Nat.blt k.val (za_nL fM) then some (Sum.inl (hp + 1, zp_fl clv k.val, [], X2, fcs, fsl)) else none
                    | some (.astore k) => bif Nat.blt k (za_nL fM) then some (Sum.inl (hp + 2, zp_fl clv k, [], X2, fcs, fsl)) else none
                    | _ => none) = _
                rw [hh]
                dsimp only
                rw [hk]
                dsimp only
                rw [h1]
                rfl
              · exact hrec _ _ _ _ _ _ _ _ _ h τ _ [] X2 fc d hN hH (zk_flA_ok h2 e4) trivial hf hF hni hx (by omega) hb hl
          · cases h
  | [], _ :: _, _, _, h, _, _ => h.elim
  | _ :: _, [], _, _, h, _, _ => h.elim
end KX
end
