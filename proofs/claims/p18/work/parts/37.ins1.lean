/-! ===== the abstract executor: every instruction that goes on ===== -/
def zk_cst (n : Nat) (k : Int) (A : zk_A) (pc : Nat) (lv : zk_LV) (st : List zk_V) : Option zk_O := bif za_in k k then some (A, pc + n, lv, .inl (0, k) :: st) else none
def zk_ldcI (n : Nat) (r : Option za_row) (A : zk_A) (pc : Nat) (lv : zk_LV) (st : List zk_V) : Option zk_O := match r with
  | some (7, _, _, v) => zk_cst n v A pc lv st
  | _ => none
def zk_ldc2I (r : Option za_row) (A : zk_A) (pc : Nat) (lv : zk_LV) (st : List zk_V) : Option zk_O := match r with
  | some (8, _, _, _) => some (A, pc + 3, lv, .inr none :: st)
  | _ => none
def zk_ins (B : zk_B) (fz : Nat → Nat → Bool) (mods : List (Nat × Nat)) (am : List Nat) (M : za_MI) (cp : Nat → Option za_row) (i : Instr) (A : zk_A) (pc : Nat) (lv : zk_LV) (st : List zk_V) : Option zk_O := match i with
  | .iconst k => zk_cst 1 k A pc lv st
  | .bipush k => bif za_ile (-128) k then bif za_ile k 127 then zk_cst 2 k A pc lv st else none else none
  | .sipush k => bif za_ile (-32768) k then bif za_ile k 32767 then zk_cst 3 k A pc lv st else none else none
  | .lconst _ => some (A, pc + 1, lv, .inr none :: st)
  | .ldc k => bif Nat.beq k 56 then none else zk_ldcI 2 (cp k) A pc lv st
  | .ldc_w k => zk_ldcI 3 (cp k) A pc lv st
  | .ldc2_w k => zk_ldc2I (cp k) A pc lv st
  | .iload k => zk_load 2 k 0 A pc lv st
  | .iload_n k => zk_load 1 k 0 A pc lv st
  | .lload k => zk_load 2 k 1 A pc lv st
  | .lload_n k => zk_load 1 k 1 A pc lv st
  | .aload k => zk_load 2 k 2 A pc lv st
  | .aload_n k => zk_load 1 k 2 A pc lv st
  | .istore k => zk_stor 2 k 0 (za_nL M) A pc lv st
  | .istore_n k => zk_stor 1 k 0 (za_nL M) A pc lv st
  | .astore k => zk_stor 2 k 2 (za_nL M) A pc lv st
  | .astore_n k => zk_stor 1 k 2 (za_nL M) A pc lv st
  | .lstore k => zk_stor2 2 k (za_nL M) A pc lv st
  | .lstore_n k => zk_stor2 1 k (za_nL M) A pc lv st
  | .iinc k d => zk_iinc k (za_nL M) d A pc lv st
  | .iadd => zk_bin zk_add A pc lv st
  | .isub => zk_bin zk_sub A pc lv st
  | .imul => zk_bin zk_mul A pc lv st
  | .iand => zk_bin zk_and A pc lv st
  | .ior => zk_bin zk_or A pc lv st
  | .ixor => zk_bin zk_any A pc lv st
  | .ishl => zk_bin zk_shl A pc lv st
  | .ishr => zk_bin zk_any A pc lv st
  | .iushr => zk_bin zk_any A pc lv st
  | .idiv => zk_bin zk_div A pc lv st
  | .irem => zk_bin zk_rem A pc lv st
  | .i2b => zk_un zk_i2b A pc lv st
  | .ineg => zk_un zk_neg A pc lv st
  | .ladd => zk_binL A pc lv st
  | .lsub => zk_binL A pc lv st
  | .lmul => zk_binL A pc lv st
  | .land => zk_binL A pc lv st
  | .lor => zk_binL A pc lv st
  | .lxor => zk_binL A pc lv st
  | .lshl => zk_shL A pc lv st
  | .lshr => zk_shL A pc lv st
  | .lushr => zk_shL A pc lv st
  | .i2l => zk_i2l A pc lv st
  | .l2i => zk_l2i A pc lv st
  | .lcmp => zk_lcmp A pc lv st
  | .dup => zk_dup A pc lv st
  | .pop => zk_pop A pc lv st
  | .dup2 => zk_dup2 A pc lv st
  | .goto o => zk_jmp o A pc lv st
  | .getfield k => zk_getI B (cp k) A pc lv st
  | .putfield k => zk_putI B fz mods (cp k) A pc lv st
  | .iaload => zk_aldI B false A pc lv st
  | .baload => zk_aldI B true A pc lv st
  | .iastore => zk_astI B fz am false A pc lv st
  | .bastore => zk_astI B fz am true A pc lv st
  | .laload => zk_lldI B A pc lv st
  | .lastore => zk_lstI B fz am A pc lv st
  | .arraylength => zk_alenI B A pc lv st
  | .invokestatic k => match cp k with
    | some (14, _, _, _) => zk_acpI B fz am A pc lv st
    | _ => none
  | _ => none
theorem zk_i16 {k : Int} (h1 : -32768 ≤ k) (h2 : k ≤ 32767) : (Int16.ofInt k).toInt32.toInt = k := by
  rw [Int16.toInt_toInt32, Int16.toInt_ofInt]
  show k.bmod 65536 = k
  rw [Int.bmod_def]
  omega
section KK
variable {B : zk_B} {gh : zp_H → Int} {J : zp_H → Prop} {fz : Nat → Nat → Bool} {τ : Nat → Int} {A : zk_A} {t : zp_T} {mods : List (Nat × Nat)} {am : List Nat} {pc : Nat} {lv : zk_LV} {st : List zk_V} {lc : zp_LV} {sc : List zp_V} {o : zk_O} {L : Nat} {σ : Nat → Int32} {M : za_MI} {cp : Nat → Option za_row} {i : Instr}
theorem zk_cst_ok {n : Nat} {k : Int} {x : Int32} (hx : x.toInt = k) (hN : zk_N τ A) (hH : zk_Hp B gh J τ A t.1) (hl : zk_L τ A.1 lv lc) (hs : za_F2 (zk_gV τ A.1) st sc) (h : zk_cst n k A pc lv st = some o) : zk_St B gh J mods am τ A t (zp_go lc t (pc + n) (.inl x :: sc)) o := by
  unfold zk_cst at h
  obtain ⟨-, h⟩ := za_bif h
  cases h
  exact zk_St_same hN hH hl ⟨⟨Nat.zero_le _, hx⟩, hs⟩
theorem zk_cst_in {n : Nat} {k : Int} (h : zk_cst n k A pc lv st = some o) : za_in k k = true := (za_bif h).1
theorem zk_ldcI_ok {n : Nat} {r : Option za_row} (hN : zk_N τ A) (hH : zk_Hp B gh J τ A t.1) (hl : zk_L τ A.1 lv lc) (hs : za_F2 (zk_gV τ A.1) st sc) (h : zk_ldcI n r A pc lv st = some o) : zk_St B gh J mods am τ A t (zp_ldc n r pc lc sc t) o := by
  unfold zk_ldcI at h
  split at h
  · exact zk_cst_ok (zk_ofInt (zk_cst_in h)) hN hH hl hs h
  · cases h
theorem zk_ldc2I_ok {r : Option za_row} (hN : zk_N τ A) (hH : zk_Hp B gh J τ A t.1) (hl : zk_L τ A.1 lv lc) (hs : za_F2 (zk_gV τ A.1) st sc) (h : zk_ldc2I r A pc lv st = some o) : zk_St B gh J mods am τ A t (zp_ldc2 r pc lc sc t) o := by
  unfold zk_ldc2I at h
  split at h
  · cases h
    exact zk_St_same hN hH hl ⟨trivial, hs⟩
  · cases h
theorem zk_ins_ok (hw : zk_W B gh J fz) (hN : zk_N τ A) (hH : zk_Hp B gh J τ A t.1) (hl : zk_L τ A.1 lv lc) (hs : za_F2 (zk_gV τ A.1) st sc) (h : zk_ins B fz mods am M cp i A pc lv st = some o) : zk_St B gh J mods am τ A t (zp_ins L σ M cp i pc lc sc t) o := by
  cases i with
  | iconst k => exact zk_cst_ok (zk_ofInt (zk_cst_in h)) hN hH hl hs h
  | bipush k =>
    change (bif za_ile (-128) k then bif za_ile k 127 then zk_cst 2 k A pc lv st else none else none) = _ at h
    obtain ⟨h1, h⟩ := za_bif h
    obtain ⟨h2, h⟩ := za_bif h
    show zk_St B gh J mods am τ A t (bif za_ile (-128) k then bif za_ile k 127 then zp_go lc t (pc + 2) (.inl (Int32.ofInt k) :: sc) else none else none) o
    rw [h1, h2]
    exact zk_cst_ok (zk_ofInt (zk_cst_in h)) hN hH hl hs h
  | sipush k =>
    change (bif za_ile (-32768) k then bif za_ile k 32767 then zk_cst 3 k A pc lv st else none else none) = _ at h
    obtain ⟨h1, h⟩ := za_bif h
    obtain ⟨h2, h⟩ := za_bif h
    exact zk_cst_ok (zk_i16 (za_ile_t h1) (za_ile_t h2)) hN hH hl hs h
  | lconst k =>
    cases h
    exact zk_St_same hN hH hl ⟨trivial, hs⟩
  | ldc k =>
    change (bif Nat.beq k 56 then none else zk_ldcI 2 (cp k) A pc lv st) = _ at h
    show zk_St B gh J mods am τ A t (bif Nat.beq k 56 then zp_str (za_cl M) k (za_is M) pc lc sc t else zp_ldc 2 (cp k) pc lc sc t) o
    cases h9 : Nat.beq k 56 with
    | true => rw [h9] at h; cases h
    | false =>
      rw [h9] at h
      exact zk_ldcI_ok hN hH hl hs h
  | ldc_w k => exact zk_ldcI_ok hN hH hl hs h
  | ldc2_w k => exact zk_ldc2I_ok hN hH hl hs h
  | iload k => exact zk_load_ok (fun h1 h2 => (zk_sel_ok h1 h2).1 rfl) hN hH hl hs h
  | iload_n k => exact zk_load_ok (fun h1 h2 => (zk_sel_ok h1 h2).1 rfl) hN hH hl hs h
  | lload k => exact zk_load_ok (fun h1 h2 => (zk_sel_ok h1 h2).2.1 rfl) hN hH hl hs h
  | lload_n k => exact zk_load_ok (fun h1 h2 => (zk_sel_ok h1 h2).2.1 rfl) hN hH hl hs h
  | aload k => exact zk_load_ok (fun h1 h2 => (zk_sel_ok h1 h2).2.2 rfl) hN hH hl hs h
  | aload_n k => exact zk_load_ok (fun h1 h2 => (zk_sel_ok h1 h2).2.2 rfl) hN hH hl hs h
  | istore k => exact zk_stor_ok (fun h1 h2 => (zk_sel_ok h1 h2).1 rfl) hN hH hl hs h
  | istore_n k => exact zk_stor_ok (fun h1 h2 => (zk_sel_ok h1 h2).1 rfl) hN hH hl hs h
  | astore k => exact zk_stor_ok (fun h1 h2 => (zk_sel_ok h1 h2).2.2 rfl) hN hH hl hs h
  | astore_n k => exact zk_stor_ok (fun h1 h2 => (zk_sel_ok h1 h2).2.2 rfl) hN hH hl hs h
  | lstore k => exact zk_stor2_ok hN hH hl hs h
  | lstore_n k => exact zk_stor2_ok hN hH hl hs h
  | iinc k d => exact zk_iinc_ok hN hH hl hs h
  | iadd => exact zk_bin_ok (· + ·) (fun ha hb hx hy h => zk_add_ok hN ha hb hx hy h) hN hH hl hs h
  | isub => exact zk_bin_ok (· - ·) (fun ha hb hx hy h => zk_sub_ok hN ha hb hx hy h) hN hH hl hs h
  | imul => exact zk_bin_ok (· * ·) (fun ha hb hx hy h => zk_mul_ok hN hx hy h) hN hH hl hs h
  | iand => exact zk_bin_ok (· &&& ·) (fun ha hb hx hy h => zk_and_ok hN ha hb hx hy h) hN hH hl hs h
  | ior => exact zk_bin_ok (· ||| ·) (fun ha hb hx hy h => zk_or_ok hN hx hy h) hN hH hl hs h
  | ixor => exact zk_bin_ok (· ^^^ ·) (fun ha hb hx hy h => zk_any_ok hN h) hN hH hl hs h
  | ishl => exact zk_bin_ok (fun x y => x <<< (y &&& 31)) (fun ha hb hx hy h => zk_shl_ok hN hx hy h) hN hH hl hs h
  | ishr => exact zk_bin_ok (fun x y => x >>> (y &&& 31)) (fun ha hb hx hy h => zk_any_ok hN h) hN hH hl hs h
  | iushr => exact zk_bin_ok (fun x y => (x.toUInt32 >>> (y.toUInt32 &&& Int32.toUInt32 31)).toInt32) (fun ha hb hx hy h => zk_any_ok hN h) hN hH hl hs h
  | idiv => exact zk_binD_ok (· / ·) (fun ha hb hx hy h => zk_div_ok hN hx hy h) hN hH hl hs h
  | irem => exact zk_binD_ok (fun x y => x - x / y * y) (fun ha hb hx hy h => zk_rem_ok hN hx hy h) hN hH hl hs h
  | i2b => exact zk_un_ok (fun x => x.toInt8.toInt32) (fun ha hx h => zk_i2b_ok hN ha hx h) hH hl hs h
  | ineg => exact zk_un_ok (fun x => -x) (fun ha hx h => zk_neg_ok hN ha hx h) hH hl hs h
  | ladd => exact zk_binL_ok (· + ·) hN hH hl hs h
  | lsub => exact zk_binL_ok (· - ·) hN hH hl hs h
  | lmul => exact zk_binL_ok (· * ·) hN hH hl hs h
  | land => exact zk_binL_ok (· &&& ·) hN hH hl hs h
  | lor => exact zk_binL_ok (· ||| ·) hN hH hl hs h
  | lxor => exact zk_binL_ok (· ^^^ ·) hN hH hl hs h
  | lshl => exact zk_shL_ok za_shl0 hN hH hl hs h
  | lshr => exact zk_shL_ok za_shr0 hN hH hl hs h
  | lushr => exact zk_shL_ok za_ushr0 hN hH hl hs h
  | i2l => exact zk_i2l_ok hN hH hl hs h
  | l2i => exact zk_l2i_ok hN hH hl hs h
  | lcmp => exact zk_lcmp_ok hN hH hl hs h
  | dup => exact zk_dup_ok hN hH hl hs h
  | pop => exact zk_pop_ok hN hH hl hs h
  | dup2 => exact zk_dup2_ok hN hH hl hs h
  | goto o9 => exact zk_jmp_ok hN hH hl hs h
  | getfield k => exact zk_getI_ok hN hH hl hs h
  | putfield k => exact zk_putI_ok hw hN hH hl hs h
  | iaload => exact zk_aldI_ok hN hH hl hs h
  | baload => exact zk_aldI_ok hN hH hl hs h
  | iastore => exact zk_astI_ok hw hN hH hl hs h
  | bastore => exact zk_astI_ok hw hN hH hl hs h
  | laload => exact zk_lldI_ok hN hH hl hs h
  | lastore => exact zk_lstI_ok hw hN hH hl hs h
  | arraylength => exact zk_alenI_ok hN hH hl hs h
  | invokestatic k =>
    change (match cp k with
      | some (14, _, _, _) => zk_acpI B fz am A pc lv st
      | _ => none) = _ at h
    show zk_St B gh J mods am τ A t (match cp k with
      | some (14, _, _, _) => zp_acp pc lc sc t
      | _ => none) o
    split at h
    · exact zk_acpI_ok hw hN hH hl hs h
    · cases h
  | _ => exact nomatch (show (none : Option zk_O) = some o from h)
/-! branches -/
def zk_b2 (A : zk_A) (off : Int) (pc : Nat) (lv : zk_LV) (st : List zk_V) (yes no : Option zk_A) : Option (List zk_O) := match zp_to off pc with
  | some g => some ((match yes with
      | some A' => [(A', g, lv, st)]
      | none => []) ++ (match no with
      | some A' => [(A', pc + 3, lv, st)]
      | none => []))
  | none => none
/-- one of these states it is -/
def zk_Sts (B : zk_B) (gh : zp_H → Int) (J : zp_H → Prop) (mods : List (Nat × Nat)) (am : List Nat) (τ : Nat → Int) (A : zk_A) (t : zp_T) (n : zp_N) (l : List zk_O) : Prop := ∃ o ∈ l, zk_St B gh J mods am τ A t n o
theorem zk_cut_St {yes : Option zk_A} {pc' : Nat} (hH : zk_Hp B gh J τ A t.1) (hl : zk_L τ A.1 lv lc) (hs : za_F2 (zk_gV τ A.1) st sc) (hc : zk_Cut τ A yes) : ∃ A', yes = some A' ∧ zk_St B gh J mods am τ A t (zp_go lc t pc' sc) (A', pc', lv, st) := by
  obtain ⟨A', rfl, h2, h3, h4⟩ := hc
  refine ⟨A', rfl, τ, lc, sc, t.1, rfl, zk_ext_r τ, by rw [h3]; exact Nat.le_refl _, h2, zk_Hp_x (by rw [h3]; exact Nat.le_refl _) (by rw [h4]) (by rw [h4]) (zk_ext_r τ) hH, by rw [h3]; exact hl, by rw [h3]; exact hs, zk_Fr_r _⟩
/-- cut, and perhaps an order noted -/
def zk_Cu2 (τ : Nat → Int) (A : zk_A) (o : Option zk_A) : Prop := ∃ A', o = some A' ∧ zk_N τ A' ∧ A'.1 = A.1 ∧ A'.2.2.1 = A.2.2.1 ∧ A'.2.2.2.1 = A.2.2.2.1
theorem zk_Cu_of {o : Option zk_A} (h : zk_Cut τ A o) : zk_Cu2 τ A o := by
  obtain ⟨A', e, h2, h3, h4⟩ := h
  exact ⟨A', e, h2, h3, by rw [h4], by rw [h4]⟩
theorem zk_cut_St2 {yes : Option zk_A} {pc' : Nat} (hH : zk_Hp B gh J τ A t.1) (hl : zk_L τ A.1 lv lc) (hs : za_F2 (zk_gV τ A.1) st sc) (hc : zk_Cu2 τ A yes) : ∃ A', yes = some A' ∧ zk_St B gh J mods am τ A t (zp_go lc t pc' sc) (A', pc', lv, st) := by
  obtain ⟨A', rfl, h2, h3, h4, h5⟩ := hc
  refine ⟨A', rfl, τ, lc, sc, t.1, rfl, zk_ext_r τ, by rw [h3]; exact Nat.le_refl _, h2, zk_Hp_x (by rw [h3]; exact Nat.le_refl _) h4 h5 (zk_ext_r τ) hH, by rw [h3]; exact hl, by rw [h3]; exact hs, zk_Fr_r _⟩
theorem zk_b2_ok {b : Bool} {off : Int} {yes no : Option zk_A} {l : List zk_O} (hH : zk_Hp B gh J τ A t.1) (hl : zk_L τ A.1 lv lc) (hs : za_F2 (zk_gV τ A.1) st sc) (hy : b = true → zk_Cu2 τ A yes) (hn : b = false → zk_Cu2 τ A no) (h : zk_b2 A off pc lv st yes no = some l) : zk_Sts B gh J mods am τ A t (zp_br b off pc lc sc t) l := by
  unfold zk_b2 at h
  split at h
  · rename_i g hg
    cases h
    unfold zp_br
    rw [hg]
    cases b with
    | true =>
      obtain ⟨A', e, hS⟩ := zk_cut_St2 (pc' := g) hH hl hs (hy rfl)
      subst e
      exact ⟨_, List.mem_append_left _ List.mem_cons_self, hS⟩
    | false =>
      obtain ⟨A', e, hS⟩ := zk_cut_St2 (pc' := pc + 3) hH hl hs (hn rfl)
      subst e
      exact ⟨_, List.mem_append_right _ List.mem_cons_self, hS⟩
  · cases h
theorem zk_lti {x y : Int32} : x < y ↔ x.toInt < y.toInt := Int32.lt_iff_toInt_lt
theorem zk_lei {x y : Int32} : x ≤ y ↔ x.toInt ≤ y.toInt := Int32.le_iff_toInt_le
theorem zk_eqi {x y : Int32} : x = y ↔ x.toInt = y.toInt := Int32.toInt_inj.symm
/-- comparing two numbers: what it tells if so, if not -/
def zk_cy (c : Nat) (A : zk_A) (a b : zk_I) : Option zk_A := match c with
  | 0 => zk_eq A a b
  | 1 => zk_ne A a b
  | 2 => zk_lt 1 A a b
  | 3 => zk_lt 0 A b a
  | 4 => zk_lt 1 A b a
  | _ => zk_lt 0 A a b
def zk_cP (c : Nat) (x y : Int) : Prop := match c with
  | 0 => x = y
  | 1 => x ≠ y
  | 2 => x < y
  | 3 => y ≤ x
  | 4 => y < x
  | _ => x ≤ y
def zk_cn1 (c : Nat) : Nat := match c with
  | 0 => 1
  | 1 => 0
  | 2 => 3
  | 3 => 2
  | 4 => 5
  | _ => 4
theorem zk_cy_ok {c : Nat} {a b : zk_I} (hN : zk_N τ A) (h : zk_cP c (zk_ev τ a) (zk_ev τ b)) : zk_Cut τ A (zk_cy c A a b) := by
  match c, h with
  | 0, h => exact zk_eq_ok hN h
  | 1, h => exact zk_ne_ok hN h
  | 2, h => exact zk_lt_ok hN (show zk_ev τ a + 1 ≤ zk_ev τ b from h)
  | 3, h =>
    have h : zk_ev τ b ≤ zk_ev τ a := h
    exact zk_lt_ok hN (by omega)
  | 4, h => exact zk_lt_ok hN (show zk_ev τ b + 1 ≤ zk_ev τ a from h)
  | _ + 5, h =>
    have h : zk_ev τ a ≤ zk_ev τ b := h
    exact zk_lt_ok hN (by omega)
theorem zk_cn1_ok {c : Nat} {x y : Int} (h : ¬ zk_cP c x y) : zk_cP (zk_cn1 c) x y := by
  match c, h with
  | 0, h => exact h
  | 1, h => exact Classical.not_not.mp h
  | 2, h => exact Int.not_lt.mp h
  | 3, h => exact Int.not_le.mp h
  | 4, h => exact Int.not_lt.mp h
  | _ + 5, h => exact Int.not_le.mp h
def zk_if1 (c : Nat) (off : Int) (A : zk_A) (pc : Nat) (lv : zk_LV) (st : List zk_V) : Option (List zk_O) := match st with
  | .inl a :: r => zk_b2 A off pc lv r (zk_cy c A a (0, 0)) (zk_cy (zk_cn1 c) A a (0, 0))
  | _ => none
theorem zk_if1_ok {f : Int32 → Bool} {c : Nat} {off : Int} {l : List zk_O} (hf : ∀ x, f x = true ↔ zk_cP c x.toInt 0) (hN : zk_N τ A) (hH : zk_Hp B gh J τ A t.1) (hl : zk_L τ A.1 lv lc) (hs : za_F2 (zk_gV τ A.1) st sc) (h : zk_if1 c off A pc lv st = some l) : zk_Sts B gh J mods am τ A t (zp_if1 f off pc lc sc t) l := by
  unfold zk_if1 at h
  split at h
  · rename_i a r
    obtain ⟨_, s1, rfl, v1, q1⟩ := za_F2_cons hs
    obtain ⟨x, rfl, x1, x2⟩ := zk_gI_v v1
    refine zk_b2_ok (b := f x) hH hl q1 (fun hb => zk_Cu_of (zk_cy_ok hN ?_)) (fun hb => zk_Cu_of (zk_cy_ok hN (zk_cn1_ok ?_))) h
    · rw [← x2]
      exact (hf x).mp hb
    · rw [← x2]
      intro z
      rw [(hf x).mpr z] at hb
      cases hb
  · cases h
/-- a is no less than b -/
def zk_geq (A : zk_A) : Nat → zk_I → zk_I → Bool
  | 0, _, _ => false
  | f + 1, a, b => bif (Nat.beq a.1 b.1).and (za_ile b.2 a.2) then true else
    bif (match zk_rg A a, zk_rg A b with
      | some (la, _), some (_, hb) => za_ile hb la
      | _, _ => false) then true else A.2.2.2.2.any (fun q => (Nat.beq q.1 3).and ((Nat.beq q.2.1.1 a.1).and (zk_geq A f (q.2.2.1.1, q.2.2.1.2 + (a.2 - q.2.1.2)) b)))
theorem zk_geq_ok (hN : zk_N τ A) : ∀ {f : Nat} {a b : zk_I}, zk_geq A f a b = true → zk_ev τ b ≤ zk_ev τ a
  | 0, _, _, h => by cases h
  | f + 1, a, b, h => by
    unfold zk_geq at h
    cases h1 : (Nat.beq a.1 b.1).and (za_ile b.2 a.2) with
    | true =>
      obtain ⟨h2, h3⟩ := Bool.and_eq_true_iff.mp h1
      have e := zk_ev_d (τ := τ) h2
      have h3 := za_ile_t h3
      omega
    | false =>
      rw [h1] at h
      simp only [cond_false] at h
      split at h
      · rename_i la ha lb hb g1 g2
        have r1 := zk_rg_ok hN g1
        have r2 := zk_rg_ok hN g2
        unfold zk_in at r1 r2
        dsimp only at r1 r2
        cases h2 : za_ile hb la with
        | true => have := za_ile_t h2; omega
        | false =>
          rw [h2] at h
          obtain ⟨q, q1, q2⟩ := List.any_eq_true.mp h
          obtain ⟨q3, q4⟩ := Bool.and_eq_true_iff.mp q2
          obtain ⟨q4, q5⟩ := Bool.and_eq_true_iff.mp q4
          have ih := zk_geq_ok hN q5
          have hm := (hN.2 q q1).2.2.2
          unfold zk_mo at hm
          rw [za_beq q3] at hm
          have hm : zk_ev τ q.2.2.1 ≤ zk_ev τ q.2.1 := hm
          have e := zk_ev_d (τ := τ) q4
          rw [zk_ev_off] at ih
          omega
      · obtain ⟨q, q1, q2⟩ := List.any_eq_true.mp h
        obtain ⟨q3, q4⟩ := Bool.and_eq_true_iff.mp q2
        obtain ⟨q4, q5⟩ := Bool.and_eq_true_iff.mp q4
        have ih := zk_geq_ok hN q5
        have hm := (hN.2 q q1).2.2.2
        unfold zk_mo at hm
        rw [za_beq q3] at hm
        have hm : zk_ev τ q.2.2.1 ≤ zk_ev τ q.2.1 := hm
        have e := zk_ev_d (τ := τ) q4
        rw [zk_ev_off] at ih
        omega
/-- an order is noted -/
def zk_rel (q : Option zk_A) (hi lo : zk_I) : Option zk_A := match q with
  | some A => some (A.1, A.2.1, A.2.2.1, A.2.2.2.1, (3, hi, lo, (0, 0)) :: A.2.2.2.2)
  | none => none
theorem zk_rel_ok {q : Option zk_A} {hi lo : zk_I} (h : zk_Cut τ A q) (h1 : hi.1 ≤ A.1) (h2 : lo.1 ≤ A.1) (h3 : zk_ev τ lo ≤ zk_ev τ hi) : zk_Cu2 τ A (zk_rel q hi lo) := by
  obtain ⟨A', rfl, g2, g3, g4⟩ := h
  refine ⟨_, rfl, ⟨g2.1, fun e he => ?_⟩, g3, by rw [g4], by rw [g4]⟩
  rcases List.mem_cons.mp he with rfl | he
  · exact ⟨by rw [← g3] at h1; exact h1, by rw [← g3] at h2; exact h2, Nat.zero_le _, h3⟩
  · exact g2.2 e he
def zk_cy2 (c : Nat) (A : zk_A) (a b : zk_I) : Option zk_A := bif (Nat.beq a.1 0).or (Nat.beq b.1 0) then zk_cy c A a b else match c with
  | 0 => zk_cy 0 A a b
  | 1 => zk_cy 1 A a b
  | 2 => bif zk_geq A 2 a b then none else zk_rel (zk_cy 2 A a b) b (a.1, a.2 + 1)
  | 3 => bif zk_geq A 2 b (a.1, a.2 + 1) then none else zk_rel (zk_cy 3 A a b) a b
  | 4 => bif zk_geq A 2 b a then none else zk_rel (zk_cy 4 A a b) a (b.1, b.2 + 1)
  | c + 5 => bif zk_geq A 2 a (b.1, b.2 + 1) then none else zk_rel (zk_cy (c + 5) A a b) b a
theorem zk_cy2_ok {c : Nat} {a b : zk_I} (hN : zk_N τ A) (ha : a.1 ≤ A.1) (hb : b.1 ≤ A.1) (h : zk_cP c (zk_ev τ a) (zk_ev τ b)) : zk_Cu2 τ A (zk_cy2 c A a b) := by
  have hc := zk_cy_ok hN h
  unfold zk_cy2
  cases h0 : (Nat.beq a.1 0).or (Nat.beq b.1 0) with
  | true => exact zk_Cu_of hc
  | false =>
    simp only [cond_false]
    match c, h, hc with
    | 0, h, hc => exact zk_Cu_of hc
    | 1, h, hc => exact zk_Cu_of hc
    | 2, h, hc =>
      have h : zk_ev τ a < zk_ev τ b := h
      dsimp only
      cases hg : zk_geq A 2 a b with
      | true => have := zk_geq_ok hN hg; omega
      | false => exact zk_rel_ok hc hb ha (by rw [zk_ev_off]; omega)
    | 3, h, hc =>
      have h : zk_ev τ b ≤ zk_ev τ a := h
      dsimp only
      cases hg : zk_geq A 2 b (a.1, a.2 + 1) with
      | true => have := zk_geq_ok hN hg; rw [zk_ev_off] at this; omega
      | false => exact zk_rel_ok hc ha hb h
    | 4, h, hc =>
      have h : zk_ev τ b < zk_ev τ a := h
      dsimp only
      cases hg : zk_geq A 2 b a with
      | true => have := zk_geq_ok hN hg; omega
      | false => exact zk_rel_ok hc ha hb (by rw [zk_ev_off]; omega)
    | c + 5, h, hc =>
      have h : zk_ev τ a ≤ zk_ev τ b := h
      dsimp only
      cases hg : zk_geq A 2 a (b.1, b.2 + 1) with
      | true => have := zk_geq_ok hN hg; rw [zk_ev_off] at this; omega
      | false => exact zk_rel_ok hc hb ha h
def zk_if2 (c : Nat) (off : Int) (A : zk_A) (pc : Nat) (lv : zk_LV) (st : List zk_V) : Option (List zk_O) := match st with
  | .inl b :: .inl a :: r => zk_b2 A off pc lv r (zk_cy2 c A a b) (zk_cy2 (zk_cn1 c) A a b)
  | _ => none
theorem zk_if2_ok {f : Int32 → Int32 → Bool} {c : Nat} {off : Int} {l : List zk_O} (hf : ∀ x y, f x y = true ↔ zk_cP c x.toInt y.toInt) (hN : zk_N τ A) (hH : zk_Hp B gh J τ A t.1) (hl : zk_L τ A.1 lv lc) (hs : za_F2 (zk_gV τ A.1) st sc) (h : zk_if2 c off A pc lv st = some l) : zk_Sts B gh J mods am τ A t (zp_if2 f off pc lc sc t) l := by
  unfold zk_if2 at h
  split at h
  · rename_i b a r
    obtain ⟨_, s1, rfl, v1, q1⟩ := za_F2_cons hs
    obtain ⟨_, s2, rfl, v2, q2⟩ := za_F2_cons q1
    obtain ⟨y, rfl, y1, y2⟩ := zk_gI_v v1
    obtain ⟨x, rfl, x1, x2⟩ := zk_gI_v v2
    refine zk_b2_ok (b := f x y) hH hl q2 (fun hb => zk_cy2_ok hN x1 y1 ?_) (fun hb => zk_cy2_ok hN x1 y1 (zk_cn1_ok ?_)) h
    · rw [← x2, ← y2]
      exact (hf x y).mp hb
    · rw [← x2, ← y2]
      intro z
      rw [(hf x y).mpr z] at hb
      cases hb
  · cases h
/-- the cases of a table, v, v + 1, .. -/
def zk_tab (A : zk_A) (a : zk_I) (pc : Nat) (lv : zk_LV) (st : List zk_V) : Int → List Int → Option (List zk_O)
  | _, [] => some []
  | v, off :: offs => match zk_tab A a pc lv st (v + 1) offs, zp_to off pc with
    | some l, some g => some (match zk_eq A a (0, v) with
      | some A' => (A', g, lv, st) :: l
      | none => l)
    | _, _ => none
theorem zk_tab_ok {a : zk_I} {x : Int32} : ∀ {offs : List Int} {v : Int} {l : List zk_O}, zk_tab A a pc lv st v offs = some l → ∀ {k : Nat} {off : Int}, offs[k]? = some off → zk_N τ A → zk_Hp B gh J τ A t.1 → zk_L τ A.1 lv lc → za_F2 (zk_gV τ A.1) st sc → x.toInt = zk_ev τ a → x.toInt = v + k → zk_Sts B gh J mods am τ A t (zp_jmp off pc lc sc t) l
  | [], v, l, _, k, off, hk, _, _, _, _, _, _ => by simp at hk
  | off0 :: offs, v, l, h, k, off, hk, hN, hH, hl, hs, hx, hv => by
    unfold zk_tab at h
    split at h
    · rename_i l' g h1 h2
      cases h
      cases k with
      | zero =>
        have e : off0 = off := by simpa using hk
        subst e
        obtain ⟨A', e1, hS⟩ := zk_cut_St (pc' := g) (mods := mods) (am := am) hH hl hs (zk_eq_ok (a := a) (b := (0, v)) hN (by show zk_ev τ a = v; simp at hv; omega))
        rw [e1]
        unfold zp_jmp
        rw [h2]
        exact ⟨_, List.mem_cons_self, hS⟩
      | succ k =>
        obtain ⟨o, o1, o2⟩ := zk_tab_ok h1 (k := k) (off := off) (by simpa using hk) hN hH hl hs hx (by push_cast at hv; omega)
        refine ⟨o, ?_, o2⟩
        split
        · exact List.mem_cons_of_mem _ o1
        · exact o1
    · cases h
def zk_opt (pc' : Nat) (lv : zk_LV) (st : List zk_V) (o : Option zk_A) : List zk_O := match o with
  | some A' => [(A', pc', lv, st)]
  | none => []
def zk_tsw (dflt lo hi : Int) (offs : Array Int) (A : zk_A) (pc : Nat) (lv : zk_LV) (st : List zk_V) : Option (List zk_O) := match st with
  | .inl a :: r => match zk_tab A a pc lv r lo offs.toList, zp_to dflt pc with
    | some l, some g => bif za_ieq (lo + offs.toList.length) (hi + 1) then some (zk_opt g lv r (zk_lt 1 A a (0, lo)) ++ (zk_opt g lv r (zk_lt 1 A (0, hi) a) ++ l)) else none
    | _, _ => none
  | _ => none
theorem zk_tsw_ok {dflt lo hi : Int} {offs : Array Int} {l : List zk_O} (hN : zk_N τ A) (hH : zk_Hp B gh J τ A t.1) (hl : zk_L τ A.1 lv lc) (hs : za_F2 (zk_gV τ A.1) st sc) (h : zk_tsw dflt lo hi offs A pc lv st = some l) : zk_Sts B gh J mods am τ A t (zp_tsw dflt lo hi offs pc lc sc t) l := by
  unfold zk_tsw at h
  split at h
  · rename_i a r
    obtain ⟨_, s1, rfl, v1, q1⟩ := za_F2_cons hs
    obtain ⟨x, rfl, x1, x2⟩ := zk_gI_v v1
    split at h
    · rename_i l' g h1 h2
      obtain ⟨h3, h⟩ := za_bif h
      have h3 := za_ieq_t h3
      cases h
      show zk_Sts B gh J mods am τ A t (if x.toInt < lo ∨ hi < x.toInt then zp_jmp dflt pc lc s1 t else match offs[(x.toInt - lo).toNat]? with
        | some off => zp_jmp off pc lc s1 t
        | none => none) _
      by_cases hc : x.toInt < lo ∨ hi < x.toInt
      · rw [if_pos hc]
        unfold zp_jmp
        rw [h2]
        rcases hc with hc | hc
        · obtain ⟨A', e1, hS⟩ := zk_cut_St (pc' := g) (mods := mods) (am := am) hH hl q1 (zk_lt_ok (e := 1) (a := a) (b := (0, lo)) hN (by show zk_ev τ a + 1 ≤ lo; omega))
          rw [e1]
          exact ⟨_, List.mem_append_left _ List.mem_cons_self, hS⟩
        · obtain ⟨A', e1, hS⟩ := zk_cut_St (pc' := g) (mods := mods) (am := am) hH hl q1 (zk_lt_ok (e := 1) (a := (0, hi)) (b := a) hN (by show hi + 1 ≤ zk_ev τ a; omega))
          rw [e1]
          exact ⟨_, List.mem_append_right _ (List.mem_append_left _ List.mem_cons_self), hS⟩
      · rw [if_neg hc]
        have hlt : (x.toInt - lo).toNat < offs.toList.length := by omega
        have hk : offs.toList[(x.toInt - lo).toNat]? = some (offs.toList[(x.toInt - lo).toNat]'hlt) := List.getElem?_eq_getElem hlt
        rw [show offs[(x.toInt - lo).toNat]? = offs.toList[(x.toInt - lo).toNat]? from (Array.getElem?_toList).symm, hk]
        obtain ⟨o, o1, o2⟩ := zk_tab_ok (mods := mods) (am := am) h1 hk hN hH hl q1 x2 (by omega)
        exact ⟨o, List.mem_append_right _ (List.mem_append_right _ o1), o2⟩
    · cases h
  · cases h
/-- the cases of a list of numbers, the rest -/
def zk_lwl (A0 : zk_A) (a : zk_I) (dflt : Int) (pc : Nat) (lv : zk_LV) (st : List zk_V) : List (Int × Int) → Option zk_A → Option (List zk_O)
  | [], A => match zp_to dflt pc with
    | some g => some (zk_opt g lv st A)
    | none => none
  | (v, off) :: ps, A => match zk_lwl A0 a dflt pc lv st ps (A.bind fun A => zk_ne A a (0, v)), zp_to off pc with
    | some l, some g => some (zk_opt g lv st (zk_eq A0 a (0, v)) ++ l)
    | _, _ => none
def zk_lsw (dflt : Int) (ps : Array (Int × Int)) (A : zk_A) (pc : Nat) (lv : zk_LV) (st : List zk_V) : Option (List zk_O) := match st with
  | .inl a :: r => bif (ps.toList.zip (ps.toList.drop 1)).all (fun (a, next) => a.1 < next.1) then zk_lwl A a dflt pc lv r ps.toList (some A) else none
  | _ => none
end KK
