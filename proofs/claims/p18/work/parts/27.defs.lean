/-! ===== the exact interpreter: every instruction; a method's run; calls ===== -/
def zp_wt : List zp_V → Nat
  | [] => 0
  | v :: l => zp_cat v + zp_wt l
def zp_ua {α : Type} (f : Nat → Nat → α) (p : Nat) (g : Nat → α) : Nat → Nat → α := fun q i => if q = p then g i else f q i
def zp_iinc (i nL : Nat) (d : Int) (pc : Nat) (lv : zp_LV) (st : List zp_V) (t : zp_T) : zp_N := match zp_get lv i with
  | some (.inl x) => bif Nat.blt i nL then zp_go (zp_st1 lv i (.inl (x + Int32.ofInt d))) t (pc + 3) st else none
  | _ => none
def zp_acp (pc : Nat) (lv : zp_LV) (st : List zp_V) (t : zp_T) : zp_N := match st with
  | .inl cn :: .inl dp :: .inr (.inr (some (q1 + 1))) :: .inl sp :: .inr (.inr (some (q0 + 1))) :: rest => match t.1.1[q0]?, t.1.1[q1]? with
    | some (.inr (0, n0)), some (.inr (0, n1)) => if 0 ≤ cn.toInt ∧ 0 ≤ dp.toInt ∧ 0 ≤ sp.toInt ∧ sp.toInt + cn.toInt ≤ n0 ∧ dp.toInt + cn.toInt ≤ n1 ∧ zp_wt rest ≤ 8 then zp_go lv ((t.1.1, zp_ua t.1.2.1 q1 (va_cpy (t.1.2.1 q0) (t.1.2.1 q1) sp.toInt.toNat dp.toInt.toNat cn.toInt.toNat), t.1.2.2), t.2) (pc + 3) rest else none
    | _, _ => none
  | _ => none
def zp_jmp (o : Int) (pc : Nat) (lv : zp_LV) (st : List zp_V) (t : zp_T) : zp_N := match zp_to o pc with
  | some g => zp_go lv t g st
  | none => none
def zp_br (b : Bool) (o : Int) (pc : Nat) (lv : zp_LV) (st : List zp_V) (t : zp_T) : zp_N := match zp_to o pc with
  | some g => zp_go lv t (bif b then g else pc + 3) st
  | none => none
def zp_if1 (f : Int32 → Bool) (o : Int) (pc : Nat) (lv : zp_LV) (st : List zp_V) (t : zp_T) : zp_N := match st with
  | .inl x :: r => zp_br (f x) o pc lv r t
  | _ => none
def zp_if2 (f : Int32 → Int32 → Bool) (o : Int) (pc : Nat) (lv : zp_LV) (st : List zp_V) (t : zp_T) : zp_N := match st with
  | .inl y :: .inl x :: r => zp_br (f x y) o pc lv r t
  | _ => none
def zp_tsw (dflt lo hi : Int) (offs : Array Int) (pc : Nat) (lv : zp_LV) (st : List zp_V) (t : zp_T) : zp_N := match st with
  | .inl x :: r => if x.toInt < lo ∨ hi < x.toInt then zp_jmp dflt pc lv r t else match offs[(x.toInt - lo).toNat]? with
    | some off => zp_jmp off pc lv r t
    | none => none
  | _ => none
def zp_lsw (dflt : Int) (ps : Array (Int × Int)) (pc : Nat) (lv : zp_LV) (st : List zp_V) (t : zp_T) : zp_N := match st with
  | .inl x :: r => bif (ps.toList.zip (ps.toList.drop 1)).all (fun (a, next) => a.1 < next.1) then zp_jmp (Op.lookupswitch.offset ps.toList dflt x.toInt) pc lv r t else none
  | _ => none
def zp_unI (g : Int32 → Int32) (pc : Nat) (lv : zp_LV) (st : List zp_V) (t : zp_T) : zp_N := match st with
  | .inl x :: r => zp_go lv t (pc + 1) (.inl (g x) :: r)
  | _ => none
def zp_i2l (pc : Nat) (lv : zp_LV) (st : List zp_V) (t : zp_T) : zp_N := match st with
  | .inl x :: r => zp_go lv t (pc + 1) (.inr (.inl x.toInt64) :: r)
  | _ => none
def zp_l2i (pc : Nat) (lv : zp_LV) (st : List zp_V) (t : zp_T) : zp_N := match st with
  | .inr (.inl x) :: r => zp_go lv t (pc + 1) (.inl x.toInt32 :: r)
  | _ => none
def zp_lcmp (pc : Nat) (lv : zp_LV) (st : List zp_V) (t : zp_T) : zp_N := match st with
  | .inr (.inl y) :: .inr (.inl x) :: r => zp_go lv t (pc + 1) (.inl (lg_cmp x y) :: r)
  | _ => none
def zp_dup (pc : Nat) (lv : zp_LV) (st : List zp_V) (t : zp_T) : zp_N := match st with
  | v :: r => bif Nat.beq (zp_cat v) 1 then zp_go lv t (pc + 1) (v :: v :: r) else none
  | _ => none
def zp_pop (pc : Nat) (lv : zp_LV) (st : List zp_V) (t : zp_T) : zp_N := match st with
  | v :: r => bif Nat.beq (zp_cat v) 1 then zp_go lv t (pc + 1) r else none
  | _ => none
def zp_dup2 (pc : Nat) (lv : zp_LV) (st : List zp_V) (t : zp_T) : zp_N := match st with
  | u :: v :: r => bif Nat.beq (zp_cat u) 1 then bif Nat.beq (zp_cat v) 1 then zp_go lv t (pc + 1) (u :: v :: u :: v :: r) else none else none
  | _ => none
/-- the words that the reader knows, as bytes -/
def zp_spell : List Nat := [110, 111, 114, 116, 104, 32, 101, 97, 115, 116, 32, 115, 111, 117, 116, 104, 32, 119, 101, 115, 116, 32, 120, 32, 121, 32, 104, 111, 117, 114, 32, 116, 105, 100, 101, 32, 111, 114, 32, 97, 110, 100, 32, 110, 111, 116, 32, 103, 111, 32, 115, 101, 97, 32, 114, 111, 99, 107, 32, 99, 117, 114, 114, 101, 110, 116, 32, 115, 108, 97, 116, 101, 32, 104, 97, 110, 100, 32, 115, 99, 104, 111, 111, 108, 32, 103, 111, 97, 108, 32, 112, 105, 108, 111, 116, 32, 114, 117, 108, 101, 32]
/-- a text's length, or a letter of it: ldc, then length() or a local and charAt() -/
def zp_str (cl k : Nat) (is : List (Nat × Instr)) (pc : Nat) (lv : zp_LV) (st : List zp_V) (t : zp_T) : zp_N :=
  bif Nat.beq cl 9 then bif Nat.beq k 56 then bif Nat.ble (zp_wt st) 8 then match za_fe is (pc + 2) with
    | some (.invokevirtual j) => bif Nat.beq j 58 then zp_go lv t (pc + 5) (.inl (Int32.ofNat zp_spell.length) :: st) else none
    | some (.iload_n i) => match za_fe is (pc + 3), zp_get lv i.val with
      | some (.invokevirtual j), some (.inl x) => bif Nat.beq j 63 then if 0 ≤ x.toInt ∧ x.toInt < zp_spell.length then zp_go lv t (pc + 6) (.inl (Int32.ofNat (zp_spell.getD x.toInt.toNat 0)) :: st) else none else none
      | _, _ => none
    | _ => none
    else none else none else none
def zp_ldc (n : Nat) (r : Option za_row) (pc : Nat) (lv : zp_LV) (st : List zp_V) (t : zp_T) : zp_N := match r with
  | some (7, _, _, v) => zp_go lv t (pc + n) (.inl (Int32.ofInt v) :: st)
  | _ => none
def zp_ldc2 (r : Option za_row) (pc : Nat) (lv : zp_LV) (st : List zp_V) (t : zp_T) : zp_N := match r with
  | some (8, _, _, v) => zp_go lv t (pc + 3) (.inr (.inl (Int64.ofInt v)) :: st)
  | _ => none
def zp_ins (L : Nat) (σ : Nat → Int32) (M : za_MI) (cp : Nat → Option za_row) (i : Instr) (pc : Nat) (lv : zp_LV) (st : List zp_V) (t : zp_T) : zp_N := match i with
  | .iconst k => zp_go lv t (pc + 1) (.inl (Int32.ofInt k) :: st)
  | .bipush k => bif za_ile (-128) k then bif za_ile k 127 then zp_go lv t (pc + 2) (.inl (Int32.ofInt k) :: st) else none else none
  | .sipush k => zp_go lv t (pc + 3) (.inl (Int16.ofInt k).toInt32 :: st)
  | .lconst k => zp_go lv t (pc + 1) (.inr (.inl (Int64.ofNat k)) :: st)
  | .ldc k => bif Nat.beq k 56 then zp_str (za_cl M) k (za_is M) pc lv st t else zp_ldc 2 (cp k) pc lv st t
  | .ldc_w k => zp_ldc 3 (cp k) pc lv st t
  | .ldc2_w k => zp_ldc2 (cp k) pc lv st t
  | .iload k => zp_load 2 k zp_isI pc lv st t
  | .iload_n k => zp_load 1 k zp_isI pc lv st t
  | .lload k => zp_load 2 k zp_isL pc lv st t
  | .lload_n k => zp_load 1 k zp_isL pc lv st t
  | .aload k => zp_load 2 k zp_isR pc lv st t
  | .aload_n k => zp_load 1 k zp_isR pc lv st t
  | .istore k => zp_stor1 2 k (za_nL M) zp_isI pc lv st t
  | .istore_n k => zp_stor1 1 k (za_nL M) zp_isI pc lv st t
  | .astore k => zp_stor1 2 k (za_nL M) zp_isR pc lv st t
  | .astore_n k => zp_stor1 1 k (za_nL M) zp_isR pc lv st t
  | .lstore k => zp_stor2 2 k (za_nL M) pc lv st t
  | .lstore_n k => zp_stor2 1 k (za_nL M) pc lv st t
  | .iinc k d => zp_iinc k (za_nL M) d pc lv st t
  | .iadd => zp_binI (· + ·) pc lv st t
  | .isub => zp_binI (· - ·) pc lv st t
  | .imul => zp_binI (· * ·) pc lv st t
  | .iand => zp_binI (· &&& ·) pc lv st t
  | .ior => zp_binI (· ||| ·) pc lv st t
  | .ixor => zp_binI (· ^^^ ·) pc lv st t
  | .ishl => zp_binI (fun x y => x <<< (y &&& 31)) pc lv st t
  | .ishr => zp_binI (fun x y => x >>> (y &&& 31)) pc lv st t
  | .iushr => zp_binI (fun x y => (x.toUInt32 >>> (y.toUInt32 &&& Int32.toUInt32 31)).toInt32) pc lv st t
  | .idiv => zp_divI (· / ·) pc lv st t
  | .irem => zp_divI (fun x y => x - x / y * y) pc lv st t
  | .i2b => zp_unI (fun x => x.toInt8.toInt32) pc lv st t
  | .ineg => zp_unI (fun x => -x) pc lv st t
  | .ladd => zp_binL (· + ·) pc lv st t
  | .lsub => zp_binL (· - ·) pc lv st t
  | .lmul => zp_binL (· * ·) pc lv st t
  | .land => zp_binL (· &&& ·) pc lv st t
  | .lor => zp_binL (· ||| ·) pc lv st t
  | .lxor => zp_binL (· ^^^ ·) pc lv st t
  | .lshl => zp_shL za_shl0 pc lv st t
  | .lshr => zp_shL za_shr0 pc lv st t
  | .lushr => zp_shL za_ushr0 pc lv st t
  | .i2l => zp_i2l pc lv st t
  | .l2i => zp_l2i pc lv st t
  | .lcmp => zp_lcmp pc lv st t
  | .dup => zp_dup pc lv st t
  | .pop => zp_pop pc lv st t
  | .dup2 => zp_dup2 pc lv st t
  | .ifCond .eq o => zp_if1 (fun x => decide (x = 0)) o pc lv st t
  | .ifCond .ne o => zp_if1 (fun x => decide (¬ x = 0)) o pc lv st t
  | .ifCond .lt o => zp_if1 (fun x => decide (x < 0)) o pc lv st t
  | .ifCond .ge o => zp_if1 (fun x => decide (0 ≤ x)) o pc lv st t
  | .ifCond .gt o => zp_if1 (fun x => decide (0 < x)) o pc lv st t
  | .ifCond .le o => zp_if1 (fun x => decide (x ≤ 0)) o pc lv st t
  | .if_icmp .eq o => zp_if2 (fun x y => decide (x = y)) o pc lv st t
  | .if_icmp .ne o => zp_if2 (fun x y => decide (¬ x = y)) o pc lv st t
  | .if_icmp .lt o => zp_if2 (fun x y => decide (x < y)) o pc lv st t
  | .if_icmp .ge o => zp_if2 (fun x y => decide (y ≤ x)) o pc lv st t
  | .if_icmp .gt o => zp_if2 (fun x y => decide (y < x)) o pc lv st t
  | .if_icmp .le o => zp_if2 (fun x y => decide (x ≤ y)) o pc lv st t
  | .goto o => zp_jmp o pc lv st t
  | .tableswitch d lo hi os => zp_tsw d lo hi os pc lv st t
  | .lookupswitch d ps => zp_lsw d ps pc lv st t
  | .getfield k => zp_getf (cp k) pc lv st t
  | .putfield k => zp_putf (cp k) (za_cl M) (za_ini M) pc lv st t
  | .iaload => zp_ald L σ false pc lv st t
  | .baload => zp_ald L σ true pc lv st t
  | .iastore => zp_ast false pc lv st t
  | .bastore => zp_ast true pc lv st t
  | .laload => zp_lld pc lv st t
  | .lastore => zp_lst pc lv st t
  | .arraylength => zp_alen L pc lv st t
  | .invokestatic k => match cp k with
    | some (14, _, _, _) => zp_acp pc lv st t
    | _ => none
  | _ => none
/-! ends -/
def zp_iret (mc ms : Nat) (rt : Option FieldType) (st : List zp_V) (t : zp_T) : Option zp_X := match rt, st with
  | some .int, [.inl a] => if t.2.1 ≤ mc ∧ t.2.2 ≤ ms then some (.inl (some (.inl a)), t.1) else none
  | some .boolean, [.inl a] => if (t.2.1 ≤ mc ∧ t.2.2 ≤ ms) ∧ (a = 0 ∨ a = 1) then some (.inl (some (.inl a)), t.1) else none
  | _, _ => none
def zp_lret (mc ms : Nat) (rt : Option FieldType) (st : List zp_V) (t : zp_T) : Option zp_X := match rt, st with
  | some .long, [.inr (.inl a)] => if t.2.1 ≤ mc ∧ t.2.2 ≤ ms then some (.inl (some (.inr (.inl a))), t.1) else none
  | _, _ => none
def zp_vret (mc ms : Nat) (rt : Option FieldType) (st : List zp_V) (t : zp_T) : Option zp_X := match rt, st with
  | none, [] => if t.2.1 ≤ mc ∧ t.2.2 ≤ ms then some (.inl none, t.1) else none
  | _, _ => none
def zp_thr (mc ms : Nat) (tab : List (Nat × Instr)) (cp : Nat → Option za_row) (ex : Nat) (pc : Nat) (st : List zp_V) (t : zp_T) : Option zp_X := match za_fe tab (pc + 3), za_fe tab (pc + 4) with
  | some .dup, some (.ldc is) => match za_fe tab (pc + 6), za_fe tab (pc + 9) with
    | some (.invokespecial ic), some .athrow => match cp is, cp ic with
      | some (10, _, _, _), some (15, ex', _, _) => if ex' = ex ∧ zp_wt st ≤ 8 ∧ t.2.1 + 1 ≤ mc ∧ t.2.2 + 6 ≤ ms then some (.inr ex, t.1) else none
      | _, _ => none
    | _, _ => none
  | some .dup, some (.ldc_w is) => match za_fe tab (pc + 7), za_fe tab (pc + 10) with
    | some (.invokespecial ic), some .athrow => match cp is, cp ic with
      | some (10, _, _, _), some (15, ex', _, _) => if ex' = ex ∧ zp_wt st ≤ 8 ∧ t.2.1 + 1 ≤ mc ∧ t.2.2 + 6 ≤ ms then some (.inr ex, t.1) else none
      | _, _ => none
    | _, _ => none
  | _, _ => none
def zp_end (M : za_MI) (cp : Nat → Option za_row) (i : Instr) (pc : Nat) (st : List zp_V) (t : zp_T) : Option zp_X := match i with
  | .ireturn => zp_iret (za_mc M) (za_ms M) (za_rt M) st t
  | .lreturn => zp_lret (za_mc M) (za_ms M) (za_rt M) st t
  | .return_ => zp_vret (za_mc M) (za_ms M) (za_rt M) st t
  | .new k => match cp k, za_hh M with
    | some (6, ex, _, _), [] => zp_thr (za_mc M) (za_ms M) (za_is M) cp ex pc st t
    | _, _ => none
  | _ => none
/-! calls -/
/-- the receiver is an object of this kind -/
def zp_isRk (st : List zp_V) (k : Nat) (h : zp_H) (own : Nat) : Bool := match st[k]? with
  | some (.inr (.inr (some (q + 1)))) => match h.1[q]? with
    | some (.inl ci) => Nat.beq ci own
    | _ => false
  | _ => false
/-- may it throw? its number, how many values it takes, the method -/
def zp_cl (cp : Nat → Option za_row) (i : Instr) (st : List zp_V) (t : zp_T) : Option (Bool × Nat × Nat × za_MI) := match i with
  | .invokevirtual k => match cp k with
    | some (1, j, n, _) => match za_MT j with
      | some Y => bif zp_isRk st n t.1 (za_cl Y) then some (false, j, n + 1, Y) else none
      | none => none
    | some (11, j, n, _) => match za_MT j with
      | some Y => bif zp_isRk st n t.1 (za_cl Y) then some (true, j, n + 1, Y) else none
      | none => none
    | _ => none
  | .invokestatic k => match cp k with
    | some (2, j, n, _) => match za_MT j with
      | some Y => some (false, j, n, Y)
      | none => none
    | some (12, j, n, _) => match za_MT j with
      | some Y => some (true, j, n, Y)
      | none => none
    | _ => none
  | _ => none
abbrev zp_C : Type := Nat → List zp_V → zp_H → zp_X → Prop
def zp_pre (M Y : za_MI) (k : Nat) (st : List zp_V) (t : zp_T) : Prop := k ≤ st.length ∧ zp_wt (st.drop k) ≤ 8 ∧ t.2.1 + za_mc Y ≤ za_mc M ∧ t.2.2 + za_ms Y ≤ za_ms M
/-- the exception's own local is forgotten -/
def zp_fl (lv : zp_LV) (k : Nat) : zp_LV := lv.filter (fun q => !(q.1 == k) && !(q.1 + 1 == k && zp_cat q.2 == 2))
def zp_aft (M : za_MI) (cp : Nat → Option za_row) (pc : Nat) (lv : zp_LV) (rest : List zp_V) (cs sl : Nat) (x : zp_X) : Option (zp_S ⊕ zp_X) := match x with
  | (.inl (some v), h) => some (.inl (pc + 3, lv, v :: rest, h, cs, sl))
  | (.inl none, h) => some (.inl (pc + 3, lv, rest, h, cs, sl))
  | (.inr ex, h) => match za_hnd cp pc ex (za_hh M) with
    | none => none
    | some none => some (.inr (.inr ex, h))
    | some (some hp) => match za_fe (za_is M) hp with
      | some (.astore_n k) => bif Nat.blt k.val (za_nL M) then some (.inl (hp + 1, zp_fl lv k.val, [], h, cs, sl)) else none
      | some (.astore k) => bif Nat.blt k (za_nL M) then some (.inl (hp + 2, zp_fl lv k, [], h, cs, sl)) else none
      | _ => none
def zp_nox (x : zp_X) : Prop := match x.1 with
  | .inl _ => True
  | .inr _ => False
/-- it goes on there, or this is the end -/
def zp_K1 (R : zp_S → zp_X → Prop) (o : Option (zp_S ⊕ zp_X)) (X : zp_X) : Prop := match o with
  | some (.inl S) => R S X
  | some (.inr X') => X' = X
  | none => False
def zp_Stp (L : Nat) (σ : Nat → Int32) (M : za_MI) (C : zp_C) (R : zp_S → zp_X → Prop) (S : zp_S) (X : zp_X) : Prop := ∃ i, za_fe (za_is M) S.1 = some i ∧
  ((∃ S', zp_ins L σ M (za_CP (za_cl M)) i S.1 S.2.1 S.2.2.1 S.2.2.2 = some (.inl S') ∧ R S' X) ∨ zp_end M (za_CP (za_cl M)) i S.1 S.2.2.1 S.2.2.2 = some X ∨
    ∃ nx j k Y X1, zp_cl (za_CP (za_cl M)) i S.2.2.1 S.2.2.2 = some (nx, j, k, Y) ∧ zp_pre M Y k S.2.2.1 S.2.2.2 ∧ C j (S.2.2.1.take k).reverse S.2.2.2.1 X1 ∧ (nx = true → zp_nox X1) ∧ zp_K1 R (zp_aft M (za_CP (za_cl M)) S.1 S.2.1 (S.2.2.1.drop k) (S.2.2.2.2.1 + za_mc Y) (S.2.2.2.2.2 + za_ms Y) X1) X)
def zp_RunN (L : Nat) (σ : Nat → Int32) (M : za_MI) (C : zp_C) : Nat → zp_S → zp_X → Prop
  | 0 => fun _ _ => False
  | n + 1 => zp_Stp L σ M C (zp_RunN L σ M C n)
def zp_args : Nat → List zp_V → zp_LV
  | _, [] => []
  | i, v :: vs => (i, v) :: zp_args (if zp_cat v = 2 then i + 2 else i + 1) vs
def zp_Call (L : Nat) (σ : Nat → Int32) : Nat → zp_C
  | 0 => fun _ _ _ _ => False
  | d + 1 => fun j as h X => ∃ Y n, za_MT j = some Y ∧ zp_wt as ≤ za_nL Y ∧ zp_RunN L σ Y (zp_Call L σ d) n (0, zp_args 0 as, [], h, 0, 0) X
