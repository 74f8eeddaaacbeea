section
/-! ===== one instruction over values known in part; a method's run; a call ===== -/
abbrev za_N : Type := Option (List za_S × List za_X)
/-- heap, ranges, cells, slots -/
abbrev za_T : Type := List za_O × za_R × Nat × Nat
abbrev za_LV : Type := List (Nat × za_V)
def za_go (lv : za_LV) (t : za_T) (pc : Nat) (st : List za_V) : za_N := some ([(pc, lv, st, t)], [])
def za_load (k i : Nat) (sel : za_V → Bool) (pc : Nat) (lv : za_LV) (st : List za_V) (t : za_T) : za_N := match za_get lv i with
  | some v => bif sel v then za_go lv t (pc + k) (v :: st) else none
  | none => none
def za_isI (v : za_V) : Bool := match v with
  | .inl _ => true
  | _ => false
def za_isL (v : za_V) : Bool := match v with
  | .inr (.inl _) => true
  | _ => false
def za_isR (v : za_V) : Bool := match v with
  | .inr (.inr (some _)) => true
  | _ => false
def za_stor1 (k i nL : Nat) (sel : za_V → Bool) (pc : Nat) (lv : za_LV) (st : List za_V) (t : za_T) : za_N := match st with
  | v :: rest => bif Nat.blt i nL then bif sel v then za_go (za_st1 lv i v) t (pc + k) rest else none else none
  | _ => none
def za_stor2 (k i nL : Nat) (pc : Nat) (lv : za_LV) (st : List za_V) (t : za_T) : za_N := match st with
  | .inr (.inl o) :: rest => bif Nat.blt (i + 1) nL then za_go (za_st2 lv i (.inr (.inl o))) t (pc + k) rest else none
  | _ => none
def za_iinc (i nL : Nat) (d : Int) (pc : Nat) (lv : za_LV) (st : List za_V) (t : za_T) : za_N := match za_get lv i with
  | some (.inl v) => bif Nat.blt i nL then bif za_in d d then za_go (za_st1 lv i (.inl (za_add t.2.1 v (za_n d)))) t (pc + 3) st else none else none
  | _ => none
def za_cst (k : Int) (n : Nat) (pc : Nat) (lv : za_LV) (st : List za_V) (t : za_T) : za_N := bif za_ile (-128) k then bif za_ile k 127 then za_go lv t (pc + n) (.inl (za_n k) :: st) else none else none
def za_binI (f : za_R → za_I → za_I → za_I) (pc : Nat) (lv : za_LV) (st : List za_V) (t : za_T) : za_N := match st with
  | .inl b :: .inl a :: rest => za_go lv t (pc + 1) (.inl (f t.2.1 a b) :: rest)
  | _ => none
def za_divI (f : Int32 → Int32 → Int32) (pc : Nat) (lv : za_LV) (st : List za_V) (t : za_T) : za_N := match st with
  | .inl b :: .inl a :: rest => match za_k t.2.1 b with
    | some d => bif za_ieq d 0 then none else za_go lv t (pc + 1) (.inl (za_b2 f t.2.1 a b) :: rest)
    | none => none
  | _ => none
def za_unI (f : Int32 → Int32) (pc : Nat) (lv : za_LV) (st : List za_V) (t : za_T) : za_N := match st with
  | .inl a :: rest => za_go lv t (pc + 1) (.inl (za_u1 f t.2.1 a) :: rest)
  | _ => none
def za_binL (f : Int64 → Int64 → Int64) (pc : Nat) (lv : za_LV) (st : List za_V) (t : za_T) : za_N := match st with
  | .inr (.inl b) :: .inr (.inl a) :: rest => za_go lv t (pc + 1) (.inr (.inl (za_l2 f a b)) :: rest)
  | _ => none
def za_shL (f : Int64 → Int32 → Int64) (z : Bool) (pc : Nat) (lv : za_LV) (st : List za_V) (t : za_T) : za_N := match st with
  | .inl b :: .inr (.inl a) :: rest => za_go lv t (pc + 1) (.inr (.inl (za_ls f z t.2.1 a b)) :: rest)
  | _ => none
def za_i2l (pc : Nat) (lv : za_LV) (st : List za_V) (t : za_T) : za_N := match st with
  | .inl a :: rest => za_go lv t (pc + 1) (.inr (.inl ((za_k t.2.1 a).map (fun c => (Int32.ofInt c).toInt64))) :: rest)
  | _ => none
def za_l2iv (o : Option Int64) : za_I := match o with
  | some c => za_c c.toInt32
  | none => za_top
def za_l2i (pc : Nat) (lv : za_LV) (st : List za_V) (t : za_T) : za_N := match st with
  | .inr (.inl a) :: rest => za_go lv t (pc + 1) (.inl (za_l2iv a) :: rest)
  | _ => none
def za_cmpv (a b : Option Int64) : za_I := match a, b with
  | some c, some d => za_c (lg_cmp c d)
  | _, _ => za_top
def za_lcmp (pc : Nat) (lv : za_LV) (st : List za_V) (t : za_T) : za_N := match st with
  | .inr (.inl b) :: .inr (.inl a) :: rest => za_go lv t (pc + 1) (.inl (za_cmpv a b) :: rest)
  | _ => none
def za_dup (pc : Nat) (lv : za_LV) (st : List za_V) (t : za_T) : za_N := match st with
  | v :: rest => bif Nat.beq (za_cat v) 1 then za_go lv t (pc + 1) (v :: v :: rest) else none
  | _ => none
def za_pop (pc : Nat) (lv : za_LV) (st : List za_V) (t : za_T) : za_N := match st with
  | v :: rest => bif Nat.beq (za_cat v) 1 then za_go lv t (pc + 1) rest else none
  | _ => none
def za_dup2 (pc : Nat) (lv : za_LV) (st : List za_V) (t : za_T) : za_N := match st with
  | v :: w :: rest => bif Nat.beq (za_cat v) 1 then bif Nat.beq (za_cat w) 1 then za_go lv t (pc + 1) (v :: w :: v :: w :: rest) else none else none
  | _ => none
/-- where a branch leads -/
def za_tg (pc : Nat) (off : Int) : Option Nat := match (pc : Int) + off with
  | .ofNat n => some n
  | .negSucc _ => none
def za_one (lv : za_LV) (t : za_T) (pc : Nat) (st : List za_V) (o : Option za_R) : List za_S := match o with
  | some ρ => [(pc, lv, st, t.1, ρ, t.2.2)]
  | none => []
def za_two (off : Int) (yes no : Option za_R) (pc : Nat) (lv : za_LV) (st : List za_V) (t : za_T) : za_N := match za_tg pc off with
  | some g => some (za_one lv t g st yes ++ za_one lv t (pc + 3) st no, [])
  | none => none
def za_if1 (off : Int) (y no : za_R → za_I → za_I → Option za_R) (pc : Nat) (lv : za_LV) (st : List za_V) (t : za_T) : za_N := match st with
  | .inl a :: rest => za_two off (y t.2.1 a (za_n 0)) (no t.2.1 a (za_n 0)) pc lv rest t
  | _ => none
def za_if2 (off : Int) (y no : za_R → za_I → za_I → Option za_R) (pc : Nat) (lv : za_LV) (st : List za_V) (t : za_T) : za_N := match st with
  | .inl b :: .inl a :: rest => za_two off (y t.2.1 a b) (no t.2.1 a b) pc lv rest t
  | _ => none
def za_goto (off : Int) (pc : Nat) (lv : za_LV) (st : List za_V) (t : za_T) : za_N := match za_tg pc off with
  | some g => za_go lv t g st
  | none => none
/-- the branches of a table: v, v + 1, .. by its offsets -/
def za_tab (pc : Nat) (lv : za_LV) (st : List za_V) (t : za_T) (a : za_I) (r1 r2 : Int) : Int → List Int → Option (List za_S)
  | _, [] => some []
  | v, off :: offs => match za_tab pc lv st t a r1 r2 (v + 1) offs with
    | none => none
    | some l => bif za_ile r1 v then bif za_ile v r2 then match za_tg pc off with
      | some g => some ((g, lv, st, t.1, za_cut t.2.1 a v v, t.2.2) :: l)
      | none => none
      else some l else some l
def za_tsw (dflt lo hi : Int) (offs : Array Int) (pc : Nat) (lv : za_LV) (st : List za_V) (t : za_T) : za_N := match st with
  | .inl a :: rest => match za_rg t.2.1 a with
    | (r1, r2) => match za_tg pc dflt, za_tab pc lv rest t a r1 r2 lo offs.toList with
      | some g, some l => bif za_ieq (lo + offs.toList.length) (hi + 1) then some ((bif za_ile lo r1 then [] else [(g, lv, rest, t.1, za_cut t.2.1 a r1 (lo - 1), t.2.2)]) ++ ((bif za_ile r2 hi then [] else [(g, lv, rest, t.1, za_cut t.2.1 a (hi + 1) r2, t.2.2)]) ++ l), []) else none
      | _, _ => none
  | _ => none
def za_lsw (dflt : Int) (ps : Array (Int × Int)) (pc : Nat) (lv : za_LV) (st : List za_V) (t : za_T) : za_N := match st with
  | .inl a :: rest => match za_k t.2.1 a with
    | some c => match za_tg pc (Op.lookupswitch.offset ps.toList dflt c) with
      | some g => bif (ps.toList.zip (ps.toList.drop 1)).all (fun (a, next) => a.1 < next.1) then za_go lv t g rest else none
      | none => none
    | none => none
  | _ => none
/-! the heap -/
def za_fit (ρ : za_R) (ty : FieldType) (v : za_V) : Bool := match ty, v with
  | .int, .inl _ => true
  | .boolean, .inl i => match za_rg ρ i with
    | (a, b) => bif za_ile 0 a then za_ile b 1 else false
  | .long, .inr (.inl _) => true
  | .object _, .inr (.inr _) => true
  | .array _, .inr (.inr _) => true
  | _, _ => false
def za_getf (r : Option za_row) (pc : Nat) (lv : za_LV) (st : List za_V) (t : za_T) : za_N := match r, st with
  | some (0, ci, k, _), .inr (.inr (some (q + 1))) :: rest => match t.1[q]? with
    | some (.inl (cj, fs)) => match fs[k]? with
      | some v => bif Nat.beq cj ci then za_go lv t (pc + 3) (v :: rest) else none
      | none => none
    | _ => none
  | _, _ => none
/-- is it a final field? (the value of a field's entry: 1 for a final one) -/
def za_putf (r : Option za_row) (own : Nat) (ini : Bool) (pc : Nat) (lv : za_LV) (st : List za_V) (t : za_T) : za_N := match r, st with
  | some (0, ci, k, fin), v :: .inr (.inr (some (q + 1))) :: rest => match t.1[q]? with
    | some (.inl (cj, fs)) => bif Nat.beq cj ci then bif Nat.blt k fs.length then bif za_fit t.2.1 (za_tyX ci k) v then
        bif za_ieq fin 0 then za_go lv (t.1.set q (.inl (ci, fs.set k v)), t.2) (pc + 3) rest
        else bif ini then bif Nat.beq ci own then za_go lv (t.1.set q (.inl (ci, fs.set k v)), t.2) (pc + 3) rest else none else none
      else none else none else none
    | _ => none
  | _, _ => none
def za_ild (bt : Bool) (L : Nat) (pc : Nat) (lv : za_LV) (st : List za_V) (t : za_T) : za_N := match st with
  | .inl i :: .inr (.inr (some 0)) :: rest => match za_k t.2.1 i with
    | some (.ofNat c) => bif bt then none else bif Nat.blt c L then za_go lv t (pc + 1) (.inl (c + 1, 0, 0) :: rest) else none
    | _ => none
  | .inl i :: .inr (.inr (some (q + 1))) :: rest => match t.1[q]? with
    | some (.inr (.inl (ty, m, d, ups))) => bif Bool.xor bt (Nat.beq ty 0) then match za_rg t.2.1 i with
      | (.ofNat a, .ofNat b) => bif Nat.ble a b then bif Nat.blt b m then za_go lv t (pc + 1) (.inl (za_rd t.2.1 d ups a (b - a)) :: rest) else none else none
      | _ => none
      else none
    | _ => none
  | _ => none
def za_nar (ρ : za_R) (ty : Nat) (v : za_I) : za_I := match ty with
  | 0 => v
  | 1 => za_u1 (vp_nar .byte) ρ v
  | _ => za_u1 (vp_nar .boolean) ρ v
def za_ist (bt : Bool) (pc : Nat) (lv : za_LV) (st : List za_V) (t : za_T) : za_N := match st with
  | .inl v :: .inl i :: .inr (.inr (some (q + 1))) :: rest => match t.1[q]?, za_k t.2.1 i with
    | some (.inr (.inl (ty, m, d, ups))), some (.ofNat c) => bif Bool.xor bt (Nat.beq ty 0) then bif Nat.blt c m then za_go lv (t.1.set q (.inr (.inl (ty, m, d, za_wr d ups c (za_nar t.2.1 ty v)))), t.2) (pc + 1) rest else none else none
    | _, _ => none
  | _ => none
def za_lld (pc : Nat) (lv : za_LV) (st : List za_V) (t : za_T) : za_N := match st with
  | .inl i :: .inr (.inr (some (q + 1))) :: rest => match t.1[q]?, za_k t.2.1 i with
    | some (.inr (.inr (m, d, ups))), some (.ofNat c) => bif Nat.blt c m then za_go lv t (pc + 1) (.inr (.inl (za_at d ups c)) :: rest) else none
    | _, _ => none
  | _ => none
def za_lst (pc : Nat) (lv : za_LV) (st : List za_V) (t : za_T) : za_N := match st with
  | .inr (.inl v) :: .inl i :: .inr (.inr (some (q + 1))) :: rest => match t.1[q]?, za_k t.2.1 i with
    | some (.inr (.inr (m, d, ups))), some (.ofNat c) => bif Nat.blt c m then za_go lv (t.1.set q (.inr (.inr (m, d, za_wr d ups c v))), t.2) (pc + 1) rest else none
    | _, _ => none
  | _ => none
def za_alen (L : Nat) (pc : Nat) (lv : za_LV) (st : List za_V) (t : za_T) : za_N := match st with
  | .inr (.inr (some 0)) :: rest => bif Nat.blt L 100000 then za_go lv t (pc + 1) (.inl (za_n L) :: rest) else none
  | .inr (.inr (some (q + 1))) :: rest => match t.1[q]? with
    | some (.inr (.inl (_, m, _, _))) => bif Nat.blt m 100000 then za_go lv t (pc + 1) (.inl (za_n m) :: rest) else none
    | some (.inr (.inr (m, _, _))) => bif Nat.blt m 100000 then za_go lv t (pc + 1) (.inl (za_n m) :: rest) else none
    | _ => none
  | _ => none
def za_df (ty : FieldType) : za_V := match ty with
  | .int => .inl (0, 0, 0)
  | .boolean => .inl (0, 0, 0)
  | .long => .inr (.inl (some 0))
  | _ => .inr (.inr none)
/-- the fields of a new object -/
def za_fs (ci : Nat) : Nat → List za_V
  | 0 => []
  | k + 1 => za_fs ci k ++ [za_df (za_tyX ci k)]
def za_newo (mc ms : Nat) (r : Option za_row) (pc : Nat) (lv : za_LV) (st : List za_V) (t : za_T) : za_N := match r with
  | some (5, ci, _, _) => bif Nat.blt t.2.2.1 mc then bif Nat.ble (t.2.2.2 + za_nX ci) ms then za_go lv (t.1 ++ [.inl (ci, za_fs ci (za_nX ci))], t.2.1, t.2.2.1 + 1, t.2.2.2 + za_nX ci) (pc + 3) (.inr (.inr (some (t.1.length + 1))) :: st) else none else none
  | _ => none
def za_newa (mc ms : Nat) (ty : ArrayType) (pc : Nat) (lv : za_LV) (st : List za_V) (t : za_T) : za_N := match st with
  | .inl i :: rest => match za_k t.2.1 i with
    | some (.ofNat c) => bif Nat.ble c 100000 then bif Nat.blt t.2.2.1 mc then bif Nat.ble (t.2.2.2 + c) ms then match ty with
      | .int => za_go lv (t.1 ++ [.inr (.inl (0, c, (0, 0, 0), []))], t.2.1, t.2.2.1 + 1, t.2.2.2 + c) (pc + 2) (.inr (.inr (some (t.1.length + 1))) :: rest)
      | .byte => za_go lv (t.1 ++ [.inr (.inl (1, c, (0, 0, 0), []))], t.2.1, t.2.2.1 + 1, t.2.2.2 + c) (pc + 2) (.inr (.inr (some (t.1.length + 1))) :: rest)
      | .boolean => za_go lv (t.1 ++ [.inr (.inl (2, c, (0, 0, 0), []))], t.2.1, t.2.2.1 + 1, t.2.2.2 + c) (pc + 2) (.inr (.inr (some (t.1.length + 1))) :: rest)
      | .long => za_go lv (t.1 ++ [.inr (.inr (c, some 0, []))], t.2.1, t.2.2.1 + 1, t.2.2.2 + c) (pc + 2) (.inr (.inr (some (t.1.length + 1))) :: rest)
      | _ => none
      else none else none else none
    | _ => none
  | _ => none
/-! ends -/
def za_iret (mc ms : Nat) (rt : Option FieldType) (st : List za_V) (t : za_T) : za_N := match rt, st with
  | some .int, [.inl a] => bif Nat.ble t.2.2.1 mc then bif Nat.ble t.2.2.2 ms then some ([], [(.inl (some (.inl a)), t.1, t.2.1)]) else none else none
  | some .boolean, [.inl a] => bif Nat.ble t.2.2.1 mc then bif Nat.ble t.2.2.2 ms then bif za_fit t.2.1 .boolean (.inl a) then some ([], [(.inl (some (.inl a)), t.1, t.2.1)]) else none else none else none
  | _, _ => none
def za_lret (mc ms : Nat) (rt : Option FieldType) (st : List za_V) (t : za_T) : za_N := match rt, st with
  | some .long, [.inr (.inl a)] => bif Nat.ble t.2.2.1 mc then bif Nat.ble t.2.2.2 ms then some ([], [(.inl (some (.inr (.inl a))), t.1, t.2.1)]) else none else none
  | _, _ => none
def za_vret (mc ms : Nat) (rt : Option FieldType) (st : List za_V) (t : za_T) : za_N := match rt, st with
  | none, [] => bif Nat.ble t.2.2.1 mc then bif Nat.ble t.2.2.2 ms then some ([], [(.inl none, t.1, t.2.1)]) else none else none
  | _, _ => none
def za_wt : List za_V → Nat
  | [] => 0
  | v :: l => za_cat v + za_wt l
/-- throw new E(text): new, dup, ldc, invokespecial, athrow -/
def za_thr (mc ms : Nat) (tab : List (Nat × Instr)) (cp : Nat → Option za_row) (ex : Nat) (pc : Nat) (st : List za_V) (t : za_T) : za_N := match za_fe tab (pc + 3), za_fe tab (pc + 4) with
  | some .dup, some (.ldc is) => match za_fe tab (pc + 6), za_fe tab (pc + 9) with
    | some (.invokespecial ic), some .athrow => match cp is, cp ic with
      | some (10, _, _, _), some (15, ex', _, _) => bif Nat.beq ex' ex then bif Nat.ble (za_wt st) 8 then bif Nat.blt t.2.2.1 mc then bif Nat.ble (t.2.2.2 + 6) ms then some ([], [(.inr ex, t.1, t.2.1)]) else none else none else none else none
      | _, _ => none
    | _, _ => none
  | some .dup, some (.ldc_w is) => match za_fe tab (pc + 7), za_fe tab (pc + 10) with
    | some (.invokespecial ic), some .athrow => match cp is, cp ic with
      | some (10, _, _, _), some (15, ex', _, _) => bif Nat.beq ex' ex then bif Nat.ble (za_wt st) 8 then bif Nat.blt t.2.2.1 mc then bif Nat.ble (t.2.2.2 + 6) ms then some ([], [(.inr ex, t.1, t.2.1)]) else none else none else none else none
      | _, _ => none
    | _, _ => none
  | _, _ => none
/-! calls -/
/-- the row of a table that takes the exception: 'none' an error, 'some none' it leaves -/
def za_hnd (cp : Nat → Option za_row) (pc ex : Nat) : List (Nat × Nat × Nat × Nat) → Option (Option Nat)
  | [] => some none
  | (a, b, hp, ct) :: l => bif Nat.ble a pc then bif Nat.blt pc b then match cp ct with
    | some (6, ex', _, _) => bif Nat.beq ct 0 then none else bif Nat.beq ex' ex then some (some hp) else match za_hnd cp pc ex l with
      | some (some hp') => some (some hp')
      | _ => none
    | _ => none
    else za_hnd cp pc ex l else za_hnd cp pc ex l
def za_aft (M : za_MI) (cp : Nat → Option za_row) (pc : Nat) (lv : za_LV) (rest : List za_V) (cs sl : Nat) (x : za_X) : za_N := match x with
  | (.inl (some v), h, ρ) => some ([(pc + 3, lv, v :: rest, h, ρ, cs, sl)], [])
  | (.inl none, h, ρ) => some ([(pc + 3, lv, rest, h, ρ, cs, sl)], [])
  | (.inr ex, h, ρ) => match za_hnd cp pc ex (za_hh M) with
    | none => none
    | some none => some ([], [(.inr ex, h, ρ)])
    | some (some hp) => match za_fe (za_is M) hp with
      | some (.astore_n k) => bif Nat.blt k.val (za_nL M) then some ([(hp + 1, lv.filter (fun q => !(q.1 == k.val) && !(q.1 + 1 == k.val && za_cat q.2 == 2)), [], h, ρ, cs, sl)], []) else none
      | some (.astore k) => bif Nat.blt k (za_nL M) then some ([(hp + 2, lv.filter (fun q => !(q.1 == k) && !(q.1 + 1 == k && za_cat q.2 == 2)), [], h, ρ, cs, sl)], []) else none
      | _ => none
def za_cat2 (f : za_X → za_N) : List za_X → za_N
  | [] => some ([], [])
  | x :: l => match f x, za_cat2 f l with
    | some a, some b => some (a.1 ++ b.1, a.2 ++ b.2)
    | _, _ => none
abbrev za_CF : Type := Nat → List za_V → List za_O → za_R → Option (List za_X)
/-- the call of method j with so many values of the stack -/
def za_nox (xs : List za_X) : Bool := match xs with
  | [] => true
  | (.inl _, _) :: l => za_nox l
  | (.inr _, _) :: _ => false
def za_inv (nx : Bool) (M : za_MI) (cp : Nat → Option za_row) (Y : za_MI) (call : za_CF) (j k : Nat) (pc : Nat) (lv : za_LV) (st : List za_V) (t : za_T) : za_N :=
  bif Nat.ble k st.length then bif Nat.ble (za_wt (st.drop k)) 8 then bif Nat.ble (t.2.2.1 + za_mc Y) (za_mc M) then bif Nat.ble (t.2.2.2 + za_ms Y) (za_ms M) then match call j (st.take k).reverse t.1 t.2.1 with
    | none => none
    | some xs => bif Bool.or (Bool.not nx) (za_nox xs) then za_cat2 (za_aft M cp pc lv (st.drop k) (t.2.2.1 + za_mc Y) (t.2.2.2 + za_ms Y)) xs else none
    else none else none else none else none
/-- the receiver is an object of this kind -/
def za_isRk (st : List za_V) (k : Nat) (h : List za_O) (own : Nat) : Bool := match st[k]? with
  | some (.inr (.inr (some (q + 1)))) => match h[q]? with
    | some (.inl (ci, _)) => Nat.beq ci own
    | _ => false
  | _ => false
def za_isRf (st : List za_V) (k : Nat) : Bool := match st[k]? with
  | some (.inr (.inr (some (_ + 1)))) => true
  | _ => false
/-- the copy of n numbers -/
def za_cpy {α : Type} [DecidableEq α] (d : α) (ups : List (Nat × α)) (d' : α) (ups' : List (Nat × α)) (sp dp : Nat) : Nat → List (Nat × α)
  | 0 => ups'
  | n + 1 => za_wr d' (za_cpy d ups d' ups' sp dp n) (dp + n) (za_at d ups (sp + n))
def za_acp (pc : Nat) (lv : za_LV) (st : List za_V) (t : za_T) : za_N := match st with
  | .inl cn :: .inl dp :: .inr (.inr (some (q1 + 1))) :: .inl sp :: .inr (.inr (some (q0 + 1))) :: rest => match t.1[q0]?, t.1[q1]?, za_k t.2.1 cn, za_k t.2.1 dp, za_k t.2.1 sp with
    | some (.inr (.inl (0, n0, d0, u0))), some (.inr (.inl (0, n1, d1, u1))), some (.ofNat c), some (.ofNat d), some (.ofNat s) => bif Nat.ble (s + c) n0 then bif Nat.ble (d + c) n1 then bif Nat.ble (za_wt rest) 8 then
        za_go lv (t.1.set q1 (.inr (.inl (0, n1, d1, za_cpy d0 u0 d1 u1 s d c))), t.2) (pc + 3) rest else none else none else none
    | _, _, _, _, _ => none
  | _ => none
def za_virt (M : za_MI) (cp : Nat → Option za_row) (MT : Nat → Option za_MI) (call : za_CF) (r : Option za_row) (pc : Nat) (lv : za_LV) (st : List za_V) (t : za_T) : za_N := match r with
  | some (1, j, k, _) => match MT j with
    | some Y => bif za_isRk st k t.1 (za_cl Y) then za_inv false M cp Y call j (k + 1) pc lv st t else none
    | none => none
  | some (11, j, k, _) => match MT j with
    | some Y => bif za_isRk st k t.1 (za_cl Y) then za_inv true M cp Y call j (k + 1) pc lv st t else none
    | none => none
  | _ => none
def za_stat (M : za_MI) (cp : Nat → Option za_row) (MT : Nat → Option za_MI) (call : za_CF) (r : Option za_row) (pc : Nat) (lv : za_LV) (st : List za_V) (t : za_T) : za_N := match r with
  | some (2, j, k, _) => match MT j with
    | some Y => za_inv false M cp Y call j k pc lv st t
    | none => none
  | some (12, j, k, _) => match MT j with
    | some Y => za_inv true M cp Y call j k pc lv st t
    | none => none
  | some (14, _, _, _) => za_acp pc lv st t
  | _ => none
def za_spec (M : za_MI) (cp : Nat → Option za_row) (MT : Nat → Option za_MI) (call : za_CF) (r : Option za_row) (pc : Nat) (lv : za_LV) (st : List za_V) (t : za_T) : za_N := match r with
  | some (3, j, k, _) => match MT j with
    | some Y => bif za_isRf st k then za_inv true M cp Y call j (k + 1) pc lv st t else none
    | none => none
  | some (13, j, k, _) => match MT j with
    | some Y => bif za_isRf st k then za_inv true M cp Y call j (k + 1) pc lv st t else none
    | none => none
  | some (4, _, _, _) => match st with
    | .inr (.inr (some (_ + 1))) :: rest => bif Nat.ble (za_wt rest) 8 then za_go lv t (pc + 3) rest else none
    | _ => none
  | _ => none
def za_new (M : za_MI) (cp : Nat → Option za_row) (r : Option za_row) (pc : Nat) (lv : za_LV) (st : List za_V) (t : za_T) : za_N := match r with
  | some (6, ex, _, _) => match za_hh M with
    | [] => za_thr (za_mc M) (za_ms M) (za_is M) cp ex pc st t
    | _ => none
  | r => za_newo (za_mc M) (za_ms M) r pc lv st t
def za_ldc (k : Nat) (r : Option za_row) (pc : Nat) (lv : za_LV) (st : List za_V) (t : za_T) : za_N := match r with
  | some (7, _, _, v) => za_go lv t (pc + k) (.inl (za_c (Int32.ofInt v)) :: st)
  | _ => none
def za_ldc2 (r : Option za_row) (pc : Nat) (lv : za_LV) (st : List za_V) (t : za_T) : za_N := match r with
  | some (8, _, _, v) => za_go lv t (pc + 3) (.inr (.inl (some (Int64.ofInt v))) :: st)
  | _ => none
def za_shr0 (x : Int64) (y : Int32) : Int64 := x >>> (y.toInt64 &&& 63)
def za_ushr0 (x : Int64) (y : Int32) : Int64 := (x.toUInt64 >>> (y.toInt64.toUInt64 &&& Int64.toUInt64 63)).toInt64
def za_shl0 (x : Int64) (y : Int32) : Int64 := x <<< (y.toInt64 &&& 63)
def za_ini (M : za_MI) : Bool := decide (M.1.name = "<init>")
def za_ins (L : Nat) (M : za_MI) (cp : Nat → Option za_row) (MT : Nat → Option za_MI) (call : za_CF) (i : Instr) (pc : Nat) (lv : za_LV) (st : List za_V) (t : za_T) : za_N := match i with
  | .iconst k => za_cst k 1 pc lv st t
  | .bipush k => za_cst k 2 pc lv st t
  | .sipush k => za_go lv t (pc + 3) (.inl (za_c (Int16.ofInt k).toInt32) :: st)
  | .lconst k => za_go lv t (pc + 1) (.inr (.inl (some (Int64.ofNat k))) :: st)
  | .ldc k => za_ldc 2 (cp k) pc lv st t
  | .ldc_w k => za_ldc 3 (cp k) pc lv st t
  | .ldc2_w k => za_ldc2 (cp k) pc lv st t
  | .iload k => za_load 2 k za_isI pc lv st t
  | .iload_n k => za_load 1 k za_isI pc lv st t
  | .lload k => za_load 2 k za_isL pc lv st t
  | .lload_n k => za_load 1 k za_isL pc lv st t
  | .aload k => za_load 2 k za_isR pc lv st t
  | .aload_n k => za_load 1 k za_isR pc lv st t
  | .istore k => za_stor1 2 k (za_nL M) za_isI pc lv st t
  | .istore_n k => za_stor1 1 k (za_nL M) za_isI pc lv st t
  | .astore k => za_stor1 2 k (za_nL M) za_isR pc lv st t
  | .astore_n k => za_stor1 1 k (za_nL M) za_isR pc lv st t
  | .lstore k => za_stor2 2 k (za_nL M) pc lv st t
  | .lstore_n k => za_stor2 1 k (za_nL M) pc lv st t
  | .iinc k d => za_iinc k (za_nL M) d pc lv st t
  | .iadd => za_binI za_add pc lv st t
  | .isub => za_binI za_sub pc lv st t
  | .imul => za_binI (za_b2 (· * ·)) pc lv st t
  | .iand => za_binI za_and pc lv st t
  | .ior => za_binI (za_b2 (· ||| ·)) pc lv st t
  | .ixor => za_binI (za_b2 (· ^^^ ·)) pc lv st t
  | .ishl => za_binI (za_b2 (fun x y => x <<< (y &&& 31))) pc lv st t
  | .ishr => za_binI (za_b2 (fun x y => x >>> (y &&& 31))) pc lv st t
  | .iushr => za_binI (za_b2 (fun x y => (x.toUInt32 >>> (y.toUInt32 &&& Int32.toUInt32 31)).toInt32)) pc lv st t
  | .idiv => za_divI (· / ·) pc lv st t
  | .irem => za_divI (fun x y => x - x / y * y) pc lv st t
  | .i2b => za_unI (fun x => x.toInt8.toInt32) pc lv st t
  | .ladd => za_binL (· + ·) pc lv st t
  | .lsub => za_binL (· - ·) pc lv st t
  | .lmul => za_binL (· * ·) pc lv st t
  | .land => za_binL (· &&& ·) pc lv st t
  | .lor => za_binL (· ||| ·) pc lv st t
  | .lxor => za_binL (· ^^^ ·) pc lv st t
  | .lshl => za_shL za_shl0 false pc lv st t
  | .lshr => za_shL za_shr0 true pc lv st t
  | .lushr => za_shL za_ushr0 true pc lv st t
  | .i2l => za_i2l pc lv st t
  | .l2i => za_l2i pc lv st t
  | .lcmp => za_lcmp pc lv st t
  | .dup => za_dup pc lv st t
  | .pop => za_pop pc lv st t
  | .dup2 => za_dup2 pc lv st t
  | .ifCond .eq o => za_if1 o za_eq za_ne pc lv st t
  | .ifCond .ne o => za_if1 o za_ne za_eq pc lv st t
  | .ifCond .lt o => za_if1 o za_lt (fun ρ a b => za_le ρ b a) pc lv st t
  | .ifCond .ge o => za_if1 o (fun ρ a b => za_le ρ b a) za_lt pc lv st t
  | .ifCond .gt o => za_if1 o (fun ρ a b => za_lt ρ b a) za_le pc lv st t
  | .ifCond .le o => za_if1 o za_le (fun ρ a b => za_lt ρ b a) pc lv st t
  | .if_icmp .eq o => za_if2 o za_eq za_ne pc lv st t
  | .if_icmp .ne o => za_if2 o za_ne za_eq pc lv st t
  | .if_icmp .lt o => za_if2 o za_lt (fun ρ a b => za_le ρ b a) pc lv st t
  | .if_icmp .ge o => za_if2 o (fun ρ a b => za_le ρ b a) za_lt pc lv st t
  | .if_icmp .gt o => za_if2 o (fun ρ a b => za_lt ρ b a) za_le pc lv st t
  | .if_icmp .le o => za_if2 o za_le (fun ρ a b => za_lt ρ b a) pc lv st t
  | .goto o => za_goto o pc lv st t
  | .tableswitch d lo hi os => za_tsw d lo hi os pc lv st t
  | .lookupswitch d ps => za_lsw d ps pc lv st t
  | .getfield k => za_getf (cp k) pc lv st t
  | .putfield k => za_putf (cp k) (za_cl M) (za_ini M) pc lv st t
  | .iaload => za_ild false L pc lv st t
  | .baload => za_ild true L pc lv st t
  | .iastore => za_ist false pc lv st t
  | .bastore => za_ist true pc lv st t
  | .laload => za_lld pc lv st t
  | .lastore => za_lst pc lv st t
  | .arraylength => za_alen L pc lv st t
  | .new k => za_new M cp (cp k) pc lv st t
  | .newarray ty => za_newa (za_mc M) (za_ms M) ty pc lv st t
  | .ireturn => za_iret (za_mc M) (za_ms M) (za_rt M) st t
  | .lreturn => za_lret (za_mc M) (za_ms M) (za_rt M) st t
  | .return_ => za_vret (za_mc M) (za_ms M) (za_rt M) st t
  | .invokevirtual k => za_virt M cp MT call (cp k) pc lv st t
  | .invokestatic k => za_stat M cp MT call (cp k) pc lv st t
  | .invokespecial k => za_spec M cp MT call (cp k) pc lv st t
  | _ => none
def za_run (step : za_S → za_N) : Nat → List za_S → List za_X → Option (List za_X)
  | 0, _, _ => none
  | _ + 1, [], acc => some acc
  | n + 1, S :: wk, acc => match step S with
    | none => none
    | some (ss, xs) => za_run step n (ss ++ wk) (xs ++ acc)
def za_args : Nat → List za_V → List (Nat × za_V)
  | _, [] => []
  | i, v :: vs => (i, v) :: za_args (if za_cat v = 2 then i + 2 else i + 1) vs
end
section
/-! ===== what a state known in part stands for; each instruction is sound ===== -/
theorem za_bif {α : Type} {b : Bool} {x : Option α} {r : α} (h : (bif b then x else none) = some r) : b = true ∧ x = some r := by
  cases b
  · cases h
  · exact ⟨rfl, h⟩
theorem za_bifn {α : Type} {b : Bool} {x : Option α} {r : α} (h : (bif b then none else x) = some r) : b = false ∧ x = some r := by
  cases b
  · exact ⟨rfl, h⟩
  · cases h
theorem za_blt {a b : Nat} (h : Nat.blt a b = true) : a < b := Nat.le_of_ble_eq_true h
theorem za_ble {a b : Nat} (h : Nat.ble a b = true) : a ≤ b := Nat.le_of_ble_eq_true h
theorem za_beq {a b : Nat} (h : Nat.beq a b = true) : a = b := Nat.eq_of_beq_eq_true h
theorem za_F2_cons {α β : Type} {P : α → β → Prop} {a : α} {l : List α} {m : List β} (h : za_F2 P (a :: l) m) : ∃ b m', m = b :: m' ∧ P a b ∧ za_F2 P l m' := by
  cases m with
  | nil => exact h.elim
  | cons b m' => exact ⟨b, m', rfl, h.1, h.2⟩
theorem za_F2_nil {α β : Type} {P : α → β → Prop} {m : List β} (h : za_F2 P [] m) : m = [] := by
  cases m with
  | nil => rfl
  | cons b m' => exact h.elim
/-- the script's numbers, its address, the tables' numbers, the classes of arrays (int, byte, boolean, long), the heap at the start -/
abbrev za_E : Type := (Nat → Int32) × Nat × va_G × (ClassId × ClassId × ClassId × ClassId) × Heap
abbrev za_σ (E : za_E) : Nat → Int32 := E.1
abbrev za_b (E : za_E) : Nat := E.2.1
abbrev za_D (E : za_E) : va_G := E.2.2.1
abbrev za_H0 (E : za_E) : Heap := E.2.2.2.2
abbrev za_A (E : za_E) : Nat → Prop := fun q => (za_H0 E).size ≤ q
abbrev za_tys (E : za_E) : List (ClassId × FieldType) := [(E.2.2.2.1.1, .int), (E.2.2.2.1.2.1, .byte), (E.2.2.2.1.2.2.1, .boolean), (E.2.2.2.1.2.2.2, .long)]
def za_tc (E : za_E) (t : Nat) : ClassId := match t with
  | 0 => E.2.2.2.1.1
  | 1 => E.2.2.2.1.2.1
  | _ => E.2.2.2.1.2.2.1
def za_gO (E : za_E) (ads : List Nat) (o : za_O) (x : va_E) : Prop := match o, x with
  | .inl (ci, fs), .inr (cj, vs) => ci = cj ∧ za_F2 (za_gV (za_σ E) ads) fs vs
  | .inr (.inl (t, n, d, ups)), .inl (cA, n', .inl f) => n' = n ∧ t < 3 ∧ cA = za_tc E t ∧ ∀ i, i < n → za_gI (za_σ E) (za_at d ups i) (f i)
  | .inr (.inr (n, d, ups)), .inl (cA, n', .inr (.inl f)) => n' = n ∧ cA = E.2.2.2.1.2.2.2 ∧ ∀ i, i < n → za_gL (za_at d ups i) (f i)
  | _, _ => False
def za_Wd (E : za_E) (ads : List Nat) (h : List za_O) (H : Heap) : Prop := ∃ ws : va_W, ads = za_b E :: ws.map (·.1) ∧ za_F2 (fun o (q : Nat × va_E) => za_gO E ads o q.2) h ws ∧ va_P (za_D E) vwCl ws H ∧ va_D (za_A E) ws
def za_Mt (E : za_E) (nL : Nat) (s : State) (ads0 ads : List Nat) (S : za_S) (H : Heap) (locs : List Loc) (ls : Array Slot) (stk : List Value) : Prop :=
  ads0 <+: ads ∧ za_ok (za_σ E) S.2.2.2.2.1 ∧ za_F2 (za_gV (za_σ E) ads) S.2.2.1 stk ∧ (∃ lc, lv_has ls nL lc ∧ za_F2 (za_gP (za_σ E) ads) S.2.1 lc) ∧ za_Wd E ads S.2.2.2.1 H ∧ va_S (za_A E) s.heap H locs
def za_G (p : Program) (l : Launch) (e : Env) (R : Room) (s : State) (m : MethodId) (args : Array Value) (below : List Frame) (meth : Method) (c : Code) (Q : State → Prop) (E : za_E) (nL : Nat) (ads0 : List Nat) (S : za_S) : Prop :=
  ∀ (ads : List Nat) (H : Heap) (locs : List Loc) (ls : Array Slot) (stk : List Value), za_Mt E nL s ads0 ads S H locs ls stk → W p l e R s m args below meth c H locs S.2.2.2.2.2.1 S.2.2.2.2.2.2 Q (F0 m S.1 ls stk)
/-- more objects: what was known stays so -/
theorem za_gV_mono {σ : Nat → Int32} {ads ads' : List Nat} (h : ads <+: ads') {v : za_V} {w : Value} (hv : za_gV σ ads v w) : za_gV σ ads' v w := by
  match v, hv with
  | .inl i, hv => exact hv
  | .inr (.inl o), hv => exact hv
  | .inr (.inr none), hv => exact hv
  | .inr (.inr (some k)), ⟨a, h1, h2⟩ =>
    obtain ⟨r, rfl⟩ := h
    exact ⟨a, h1, by rw [List.getElem?_append_left (List.getElem?_eq_some_iff.mp h2).1]; exact h2⟩
theorem za_gP_mono {σ : Nat → Int32} {ads ads' : List Nat} (h : ads <+: ads') {v : Nat × za_V} {w : Nat × Value} (hv : za_gP σ ads v w) : za_gP σ ads' v w := ⟨hv.1, za_gV_mono h hv.2⟩
section ZS
variable {p : Program} {l : Launch} {e : Env} {R : Room} {s : State} {m : MethodId} {args : Array Value} {below : List Frame} {meth : Method} {c : Code} {Q : State → Prop} {E : za_E} {nL : Nat} {ads0 : List Nat} {cc : ByteArray} {pc : Nat}
theorem zs_go {lv : za_LV} {t : za_T} {k : Nat} {st : List za_V} {Z : List za_S × List za_X} (h : za_go lv t k st = some Z) (hk : ∀ S ∈ Z.1, za_G p l e R s m args below meth c Q E nL ads0 S) : za_G p l e R s m args below meth c Q E nL ads0 (k, lv, st, t) := by
  unfold za_go at h
  cases h
  exact hk _ List.mem_cons_self
theorem zs_push {lv : za_LV} {t : za_T} {k : Nat} {st : List za_V} {v : za_V} {Z : List za_S × List za_X} (w : Value) (hv : ∀ ads, za_gV (za_σ E) ads v w)
    (rule : ∀ {H : Heap} {locs : List Loc} {cells slots : Nat} {ls : Array Slot} {rest : List Value}, W p l e R s m args below meth c H locs cells slots Q (F0 m (pc + k) ls (w :: rest)) → W p l e R s m args below meth c H locs cells slots Q (F0 m pc ls rest))
    (h : za_go lv t (pc + k) (v :: st) = some Z) (hk : ∀ S ∈ Z.1, za_G p l e R s m args below meth c Q E nL ads0 S) : za_G p l e R s m args below meth c Q E nL ads0 (pc, lv, st, t) := by
  intro ads H locs ls stk M
  obtain ⟨h1, h2, h3, h4, h5, h6⟩ := M
  exact rule (zs_go h hk ads H locs ls (w :: stk) ⟨h1, h2, ⟨hv ads, h3⟩, h4, h5, h6⟩)
theorem zs_loadI {lv : za_LV} {t : za_T} {k i : Nat} {st : List za_V} {Z : List za_S × List za_X}
    (rule : ∀ {H : Heap} {locs : List Loc} {cells slots : Nat} {ls : Array Slot} {rest : List Value} {x : Int32}, ls[i]? = some (.val (.int x)) → W p l e R s m args below meth c H locs cells slots Q (F0 m (pc + k) ls (.int x :: rest)) → W p l e R s m args below meth c H locs cells slots Q (F0 m pc ls rest))
    (h : za_load k i za_isI pc lv st t = some Z) (hk : ∀ S ∈ Z.1, za_G p l e R s m args below meth c Q E nL ads0 S) : za_G p l e R s m args below meth c Q E nL ads0 (pc, lv, st, t) := by
  intro ads H locs ls stk M
  obtain ⟨h1, h2, h3, ⟨lc, h4, h4'⟩, h5, h6⟩ := M
  unfold za_load at h
  split at h
  · rename_i v hv
    obtain ⟨hs, h⟩ := za_bif h
    obtain ⟨w, w1, w2⟩ := za_get_ok h4' hv
    match v, hs, w2 with
    | .inl y, _, w2 =>
      obtain ⟨x, rfl, hx⟩ := id w2
      exact rule (h4.2.2 _ w1) (zs_go h hk ads H locs ls (_ :: stk) ⟨h1, h2, ⟨w2, h3⟩, ⟨lc, h4, h4'⟩, h5, h6⟩)
    | .inr (.inl _), hs, _ => cases hs
    | .inr (.inr _), hs, _ => cases hs
  · cases h
theorem zs_loadL {lv : za_LV} {t : za_T} {k i : Nat} {st : List za_V} {Z : List za_S × List za_X}
    (rule : ∀ {H : Heap} {locs : List Loc} {cells slots : Nat} {ls : Array Slot} {rest : List Value} {x : Int64}, ls[i]? = some (.val (.long x)) → W p l e R s m args below meth c H locs cells slots Q (F0 m (pc + k) ls (.long x :: rest)) → W p l e R s m args below meth c H locs cells slots Q (F0 m pc ls rest))
    (h : za_load k i za_isL pc lv st t = some Z) (hk : ∀ S ∈ Z.1, za_G p l e R s m args below meth c Q E nL ads0 S) : za_G p l e R s m args below meth c Q E nL ads0 (pc, lv, st, t) := by
  intro ads H locs ls stk M
  obtain ⟨h1, h2, h3, ⟨lc, h4, h4'⟩, h5, h6⟩ := M
  unfold za_load at h
  split at h
  · rename_i v hv
    obtain ⟨hs, h⟩ := za_bif h
    obtain ⟨w, w1, w2⟩ := za_get_ok h4' hv
    match v, hs, w2 with
    | .inr (.inl y), _, w2 =>
      obtain ⟨x, rfl, hx⟩ := id w2
      exact rule (h4.2.2 _ w1) (zs_go h hk ads H locs ls (_ :: stk) ⟨h1, h2, ⟨w2, h3⟩, ⟨lc, h4, h4'⟩, h5, h6⟩)
    | .inl _, hs, _ => cases hs
    | .inr (.inr _), hs, _ => cases hs
  · cases h
theorem zs_loadA {lv : za_LV} {t : za_T} {k i : Nat} {st : List za_V} {Z : List za_S × List za_X}
    (rule : ∀ {H : Heap} {locs : List Loc} {cells slots : Nat} {ls : Array Slot} {rest : List Value} {x : Nat}, ls[i]? = some (.val (.ref x)) → W p l e R s m args below meth c H locs cells slots Q (F0 m (pc + k) ls (.ref x :: rest)) → W p l e R s m args below meth c H locs cells slots Q (F0 m pc ls rest))
    (h : za_load k i za_isR pc lv st t = some Z) (hk : ∀ S ∈ Z.1, za_G p l e R s m args below meth c Q E nL ads0 S) : za_G p l e R s m args below meth c Q E nL ads0 (pc, lv, st, t) := by
  intro ads H locs ls stk M
  obtain ⟨h1, h2, h3, ⟨lc, h4, h4'⟩, h5, h6⟩ := M
  unfold za_load at h
  split at h
  · rename_i v hv
    obtain ⟨hs, h⟩ := za_bif h
    obtain ⟨w, w1, w2⟩ := za_get_ok h4' hv
    match v, hs, w2 with
    | .inr (.inr (some y)), _, w2 =>
      obtain ⟨x, rfl, hx⟩ := id w2
      exact rule (h4.2.2 _ w1) (zs_go h hk ads H locs ls (_ :: stk) ⟨h1, h2, ⟨w2, h3⟩, ⟨lc, h4, h4'⟩, h5, h6⟩)
    | .inl _, hs, _ => cases hs
    | .inr (.inl _), hs, _ => cases hs
    | .inr (.inr none), hs, _ => cases hs
  · cases h
theorem zs_storI {lv : za_LV} {t : za_T} {k i : Nat} {st : List za_V} {Z : List za_S × List za_X}
    (rule : ∀ {H : Heap} {locs : List Loc} {cells slots : Nat} {ls : Array Slot} {rest : List Value} {x : Int32} {lc : List (Nat × Value)}, lv_has ls nL lc → i < nL → (∀ ls' : Array Slot, lv_has ls' nL ((i, Value.int x) :: lc.filter (fun q => !(q.1 == i) && !(q.1 + 1 == i && q.2.category == 2))) → W p l e R s m args below meth c H locs cells slots Q (F0 m (pc + k) ls' rest)) → W p l e R s m args below meth c H locs cells slots Q (F0 m pc ls (.int x :: rest)))
    (h : za_stor1 k i nL za_isI pc lv st t = some Z) (hk : ∀ S ∈ Z.1, za_G p l e R s m args below meth c Q E nL ads0 S) : za_G p l e R s m args below meth c Q E nL ads0 (pc, lv, st, t) := by
  intro ads H locs ls stk M
  obtain ⟨h1, h2, h3, ⟨lc, h4, h4'⟩, h5, h6⟩ := M
  unfold za_stor1 at h
  split at h
  · rename_i v rest
    obtain ⟨hi, h⟩ := za_bif h
    obtain ⟨hs, h⟩ := za_bif h
    obtain ⟨w, stk1, rfl, w2, q1⟩ := za_F2_cons h3
    match v, hs, w2, h with
    | .inl y, _, w2, h =>
      obtain ⟨x, rfl, hx⟩ := id w2
      exact rule h4 (za_blt hi) (fun ls' h4 => zs_go h hk ads H locs ls' stk1 ⟨h1, h2, q1, ⟨_, h4, za_st1_ok h4' w2⟩, h5, h6⟩)
    | .inr (.inl _), hs, _, _ => cases hs
    | .inr (.inr _), hs, _, _ => cases hs
  · cases h
theorem zs_storA {lv : za_LV} {t : za_T} {k i : Nat} {st : List za_V} {Z : List za_S × List za_X}
    (rule : ∀ {H : Heap} {locs : List Loc} {cells slots : Nat} {ls : Array Slot} {rest : List Value} {x : Nat} {lc : List (Nat × Value)}, lv_has ls nL lc → i < nL → (∀ ls' : Array Slot, lv_has ls' nL ((i, Value.ref x) :: lc.filter (fun q => !(q.1 == i) && !(q.1 + 1 == i && q.2.category == 2))) → W p l e R s m args below meth c H locs cells slots Q (F0 m (pc + k) ls' rest)) → W p l e R s m args below meth c H locs cells slots Q (F0 m pc ls (.ref x :: rest)))
    (h : za_stor1 k i nL za_isR pc lv st t = some Z) (hk : ∀ S ∈ Z.1, za_G p l e R s m args below meth c Q E nL ads0 S) : za_G p l e R s m args below meth c Q E nL ads0 (pc, lv, st, t) := by
  intro ads H locs ls stk M
  obtain ⟨h1, h2, h3, ⟨lc, h4, h4'⟩, h5, h6⟩ := M
  unfold za_stor1 at h
  split at h
  · rename_i v rest
    obtain ⟨hi, h⟩ := za_bif h
    obtain ⟨hs, h⟩ := za_bif h
    obtain ⟨w, stk1, rfl, w2, q1⟩ := za_F2_cons h3
    match v, hs, w2, h with
    | .inr (.inr (some y)), _, w2, h =>
      obtain ⟨x, rfl, hx⟩ := id w2
      exact rule h4 (za_blt hi) (fun ls' h4 => zs_go h hk ads H locs ls' stk1 ⟨h1, h2, q1, ⟨_, h4, za_st1_ok h4' w2⟩, h5, h6⟩)
    | .inl _, hs, _, _ => cases hs
    | .inr (.inl _), hs, _, _ => cases hs
    | .inr (.inr none), hs, _, _ => cases hs
  · cases h
theorem zs_storL {lv : za_LV} {t : za_T} {k i : Nat} {st : List za_V} {Z : List za_S × List za_X}
    (rule : ∀ {H : Heap} {locs : List Loc} {cells slots : Nat} {ls : Array Slot} {rest : List Value} {x : Int64} {lc : List (Nat × Value)}, lv_has ls nL lc → i + 1 < nL → (∀ ls' : Array Slot, lv_has ls' nL ((i, Value.long x) :: lc.filter (fun q => !(q.1 == i) && (!(q.1 == i + 1) && !(q.1 + 1 == i && q.2.category == 2)))) → W p l e R s m args below meth c H locs cells slots Q (F0 m (pc + k) ls' rest)) → W p l e R s m args below meth c H locs cells slots Q (F0 m pc ls (.long x :: rest)))
    (h : za_stor2 k i nL pc lv st t = some Z) (hk : ∀ S ∈ Z.1, za_G p l e R s m args below meth c Q E nL ads0 S) : za_G p l e R s m args below meth c Q E nL ads0 (pc, lv, st, t) := by
  intro ads H locs ls stk M
  obtain ⟨h1, h2, h3, ⟨lc, h4, h4'⟩, h5, h6⟩ := M
  unfold za_stor2 at h
  split at h
  · rename_i o rest
    obtain ⟨hi, h⟩ := za_bif h
    obtain ⟨w, stk1, rfl, w2, q1⟩ := za_F2_cons h3
    obtain ⟨x, rfl, hx⟩ := id w2
    exact rule h4 (za_blt hi) (fun ls' h4 => zs_go h hk ads H locs ls' stk1 ⟨h1, h2, q1, ⟨_, h4, za_st2_ok h4' w2⟩, h5, h6⟩)
  · cases h
theorem za_ofInt {d : Int} (h : za_in d d = true) : (Int32.ofInt d).toInt = d := by
  have h1 := za_in_t h
  rw [Int32.toInt_ofInt]
  exact za_bmod h1.1 h1.2
theorem zs_iinc {lv : za_LV} {t : za_T} {i : Nat} {d : Int} {st : List za_V} {Z : List za_S × List za_X}
    (rule : ∀ {H : Heap} {locs : List Loc} {cells slots : Nat} {ls : Array Slot} {rest : List Value} {x : Int32} {k : Nat} {lc : List (Nat × Value)}, lv_has ls nL lc → lc[k]? = some (i, .int x) → i < nL → (∀ ls' : Array Slot, lv_has ls' nL ((i, Value.int (x + Int32.ofInt d)) :: lc.filter (fun q => !(q.1 == i) && !(q.1 + 1 == i && q.2.category == 2))) → W p l e R s m args below meth c H locs cells slots Q (F0 m (pc + 3) ls' rest)) → W p l e R s m args below meth c H locs cells slots Q (F0 m pc ls rest))
    (h : za_iinc i nL d pc lv st t = some Z) (hk : ∀ S ∈ Z.1, za_G p l e R s m args below meth c Q E nL ads0 S) : za_G p l e R s m args below meth c Q E nL ads0 (pc, lv, st, t) := by
  intro ads H locs ls stk M
  obtain ⟨h1, h2, h3, ⟨lc, h4, h4'⟩, h5, h6⟩ := M
  unfold za_iinc at h
  split at h
  · rename_i v hv
    obtain ⟨hi, h⟩ := za_bif h
    obtain ⟨hd, h⟩ := za_bif h
    obtain ⟨w, w1, w2⟩ := za_get_ok h4' hv
    obtain ⟨x, rfl, hx⟩ := id w2
    obtain ⟨k, hk'⟩ := List.getElem?_of_mem w1
    have w3 : za_gV (za_σ E) ads (.inl (za_add t.2.1 v (za_n d))) (.int (x + Int32.ofInt d)) := ⟨_, rfl, za_add_ok h2 hx (za_n_ok _ (za_ofInt hd))⟩
    exact rule h4 hk' (za_blt hi) (fun ls' h4 => zs_go h hk ads H locs ls' stk ⟨h1, h2, h3, ⟨_, h4, za_st1_ok h4' w3⟩, h5, h6⟩)
  · cases h
theorem zs_binI {lv : za_LV} {t : za_T} {st : List za_V} {Z : List za_S × List za_X} {f : za_R → za_I → za_I → za_I} (g : Int32 → Int32 → Int32) (hf : ∀ {σ : Nat → Int32} {ρ : za_R} {a b : za_I} {x y : Int32}, za_ok σ ρ → za_gI σ a x → za_gI σ b y → za_gI σ (f ρ a b) (g x y))
    (rule : ∀ {H : Heap} {locs : List Loc} {cells slots : Nat} {ls : Array Slot} {rest : List Value} {x y : Int32}, W p l e R s m args below meth c H locs cells slots Q (F0 m (pc + 1) ls (.int (g x y) :: rest)) → W p l e R s m args below meth c H locs cells slots Q (F0 m pc ls (.int y :: .int x :: rest)))
    (h : za_binI f pc lv st t = some Z) (hk : ∀ S ∈ Z.1, za_G p l e R s m args below meth c Q E nL ads0 S) : za_G p l e R s m args below meth c Q E nL ads0 (pc, lv, st, t) := by
  intro ads H locs ls stk M
  obtain ⟨h1, h2, h3, h4, h5, h6⟩ := M
  unfold za_binI at h
  split at h
  · rename_i b a rest
    obtain ⟨_, stk1, rfl, ⟨y, rfl, hy⟩, q1⟩ := za_F2_cons h3
    obtain ⟨_, stk2, rfl, ⟨x, rfl, hx⟩, q2⟩ := za_F2_cons q1
    exact rule (zs_go h hk ads H locs ls (_ :: stk2) ⟨h1, h2, ⟨⟨_, rfl, hf h2 hx hy⟩, q2⟩, h4, h5, h6⟩)
  · cases h
theorem zs_divI {lv : za_LV} {t : za_T} {st : List za_V} {Z : List za_S × List za_X} (g : Int32 → Int32 → Int32)
    (rule : ∀ {H : Heap} {locs : List Loc} {cells slots : Nat} {ls : Array Slot} {rest : List Value} {x y : Int32}, ¬ y = 0 → W p l e R s m args below meth c H locs cells slots Q (F0 m (pc + 1) ls (.int (g x y) :: rest)) → W p l e R s m args below meth c H locs cells slots Q (F0 m pc ls (.int y :: .int x :: rest)))
    (h : za_divI g pc lv st t = some Z) (hk : ∀ S ∈ Z.1, za_G p l e R s m args below meth c Q E nL ads0 S) : za_G p l e R s m args below meth c Q E nL ads0 (pc, lv, st, t) := by
  intro ads H locs ls stk M
  obtain ⟨h1, h2, h3, h4, h5, h6⟩ := M
  unfold za_divI at h
  split at h
  · rename_i b a rest
    split at h
    · rename_i d hd
      obtain ⟨hz, h⟩ := za_bifn h
      obtain ⟨_, stk1, rfl, ⟨y, rfl, hy⟩, q1⟩ := za_F2_cons h3
      obtain ⟨_, stk2, rfl, ⟨x, rfl, hx⟩, q2⟩ := za_F2_cons q1
      have hne : ¬ y = 0 := by
        intro e
        have := za_k_ok h2 hy hd
        rw [e] at this
        exact za_ieq_f hz this.symm
      exact rule hne (zs_go h hk ads H locs ls (_ :: stk2) ⟨h1, h2, ⟨⟨_, rfl, za_b2_ok g h2 hx hy⟩, q2⟩, h4, h5, h6⟩)
    · cases h
  · cases h
theorem zs_unI {lv : za_LV} {t : za_T} {st : List za_V} {Z : List za_S × List za_X} (g : Int32 → Int32)
    (rule : ∀ {H : Heap} {locs : List Loc} {cells slots : Nat} {ls : Array Slot} {rest : List Value} {x : Int32}, W p l e R s m args below meth c H locs cells slots Q (F0 m (pc + 1) ls (.int (g x) :: rest)) → W p l e R s m args below meth c H locs cells slots Q (F0 m pc ls (.int x :: rest)))
    (h : za_unI g pc lv st t = some Z) (hk : ∀ S ∈ Z.1, za_G p l e R s m args below meth c Q E nL ads0 S) : za_G p l e R s m args below meth c Q E nL ads0 (pc, lv, st, t) := by
  intro ads H locs ls stk M
  obtain ⟨h1, h2, h3, h4, h5, h6⟩ := M
  unfold za_unI at h
  split at h
  · rename_i a rest
    obtain ⟨_, stk1, rfl, ⟨x, rfl, hx⟩, q1⟩ := za_F2_cons h3
    exact rule (zs_go h hk ads H locs ls (_ :: stk1) ⟨h1, h2, ⟨⟨_, rfl, za_u1_ok g h2 hx⟩, q1⟩, h4, h5, h6⟩)
  · cases h
theorem zs_binL {lv : za_LV} {t : za_T} {st : List za_V} {Z : List za_S × List za_X} (g : Int64 → Int64 → Int64)
    (rule : ∀ {H : Heap} {locs : List Loc} {cells slots : Nat} {ls : Array Slot} {rest : List Value} {x y : Int64}, W p l e R s m args below meth c H locs cells slots Q (F0 m (pc + 1) ls (.long (g x y) :: rest)) → W p l e R s m args below meth c H locs cells slots Q (F0 m pc ls (.long y :: .long x :: rest)))
    (h : za_binL g pc lv st t = some Z) (hk : ∀ S ∈ Z.1, za_G p l e R s m args below meth c Q E nL ads0 S) : za_G p l e R s m args below meth c Q E nL ads0 (pc, lv, st, t) := by
  intro ads H locs ls stk M
  obtain ⟨h1, h2, h3, h4, h5, h6⟩ := M
  unfold za_binL at h
  split at h
  · rename_i b a rest
    obtain ⟨_, stk1, rfl, ⟨y, rfl, hy⟩, q1⟩ := za_F2_cons h3
    obtain ⟨_, stk2, rfl, ⟨x, rfl, hx⟩, q2⟩ := za_F2_cons q1
    exact rule (zs_go h hk ads H locs ls (_ :: stk2) ⟨h1, h2, ⟨⟨_, rfl, za_l2_ok g hx hy⟩, q2⟩, h4, h5, h6⟩)
  · cases h
theorem zs_shL {lv : za_LV} {t : za_T} {st : List za_V} {Z : List za_S × List za_X} (g : Int64 → Int32 → Int64) {z : Bool} (hz : z = true → ∀ y, g 0 y = 0)
    (rule : ∀ {H : Heap} {locs : List Loc} {cells slots : Nat} {ls : Array Slot} {rest : List Value} {x : Int64} {y : Int32}, W p l e R s m args below meth c H locs cells slots Q (F0 m (pc + 1) ls (.long (g x y) :: rest)) → W p l e R s m args below meth c H locs cells slots Q (F0 m pc ls (.int y :: .long x :: rest)))
    (h : za_shL g z pc lv st t = some Z) (hk : ∀ S ∈ Z.1, za_G p l e R s m args below meth c Q E nL ads0 S) : za_G p l e R s m args below meth c Q E nL ads0 (pc, lv, st, t) := by
  intro ads H locs ls stk M
  obtain ⟨h1, h2, h3, h4, h5, h6⟩ := M
  unfold za_shL at h
  split at h
  · rename_i b a rest
    obtain ⟨_, stk1, rfl, ⟨y, rfl, hy⟩, q1⟩ := za_F2_cons h3
    obtain ⟨_, stk2, rfl, ⟨x, rfl, hx⟩, q2⟩ := za_F2_cons q1
    exact rule (zs_go h hk ads H locs ls (_ :: stk2) ⟨h1, h2, ⟨⟨_, rfl, za_ls_ok g hz h2 hx hy⟩, q2⟩, h4, h5, h6⟩)
  · cases h
theorem zs_i2l {lv : za_LV} {t : za_T} {st : List za_V} {Z : List za_S × List za_X}
    (rule : ∀ {H : Heap} {locs : List Loc} {cells slots : Nat} {ls : Array Slot} {rest : List Value} {x : Int32}, W p l e R s m args below meth c H locs cells slots Q (F0 m (pc + 1) ls (.long x.toInt64 :: rest)) → W p l e R s m args below meth c H locs cells slots Q (F0 m pc ls (.int x :: rest)))
    (h : za_i2l pc lv st t = some Z) (hk : ∀ S ∈ Z.1, za_G p l e R s m args below meth c Q E nL ads0 S) : za_G p l e R s m args below meth c Q E nL ads0 (pc, lv, st, t) := by
  intro ads H locs ls stk M
  obtain ⟨h1, h2, h3, h4, h5, h6⟩ := M
  unfold za_i2l at h
  split at h
  · rename_i a rest
    obtain ⟨_, stk1, rfl, ⟨x, rfl, hx⟩, q1⟩ := za_F2_cons h3
    refine rule (zs_go h hk ads H locs ls (_ :: stk1) ⟨h1, h2, ⟨⟨_, rfl, fun d hd => ?_⟩, q1⟩, h4, h5, h6⟩)
    obtain ⟨c9, e1, e2⟩ := Option.map_eq_some_iff.mp hd
    rw [za_k_of h2 hx e1]
    exact e2
  · cases h
theorem zs_l2i {lv : za_LV} {t : za_T} {st : List za_V} {Z : List za_S × List za_X}
    (rule : ∀ {H : Heap} {locs : List Loc} {cells slots : Nat} {ls : Array Slot} {rest : List Value} {x : Int64}, W p l e R s m args below meth c H locs cells slots Q (F0 m (pc + 1) ls (.int x.toInt32 :: rest)) → W p l e R s m args below meth c H locs cells slots Q (F0 m pc ls (.long x :: rest)))
    (h : za_l2i pc lv st t = some Z) (hk : ∀ S ∈ Z.1, za_G p l e R s m args below meth c Q E nL ads0 S) : za_G p l e R s m args below meth c Q E nL ads0 (pc, lv, st, t) := by
  intro ads H locs ls stk M
  obtain ⟨h1, h2, h3, h4, h5, h6⟩ := M
  unfold za_l2i at h
  split at h
  · rename_i a rest
    obtain ⟨_, stk1, rfl, ⟨x, rfl, hx⟩, q1⟩ := za_F2_cons h3
    refine rule (zs_go h hk ads H locs ls (_ :: stk1) ⟨h1, h2, ⟨⟨_, rfl, ?_⟩, q1⟩, h4, h5, h6⟩)
    cases a with
    | none => exact za_top_ok _ _
    | some d => rw [hx d rfl]; exact za_c_ok _ _
  · cases h
theorem zs_lcmp {lv : za_LV} {t : za_T} {st : List za_V} {Z : List za_S × List za_X}
    (rule : ∀ {H : Heap} {locs : List Loc} {cells slots : Nat} {ls : Array Slot} {rest : List Value} {x y : Int64}, W p l e R s m args below meth c H locs cells slots Q (F0 m (pc + 1) ls (.int (lg_cmp x y) :: rest)) → W p l e R s m args below meth c H locs cells slots Q (F0 m pc ls (.long y :: .long x :: rest)))
    (h : za_lcmp pc lv st t = some Z) (hk : ∀ S ∈ Z.1, za_G p l e R s m args below meth c Q E nL ads0 S) : za_G p l e R s m args below meth c Q E nL ads0 (pc, lv, st, t) := by
  intro ads H locs ls stk M
  obtain ⟨h1, h2, h3, h4, h5, h6⟩ := M
  unfold za_lcmp at h
  split at h
  · rename_i b a rest
    obtain ⟨_, stk1, rfl, ⟨y, rfl, hy⟩, q1⟩ := za_F2_cons h3
    obtain ⟨_, stk2, rfl, ⟨x, rfl, hx⟩, q2⟩ := za_F2_cons q1
    refine rule (zs_go h hk ads H locs ls (_ :: stk2) ⟨h1, h2, ⟨⟨_, rfl, ?_⟩, q2⟩, h4, h5, h6⟩)
    cases a with
    | none => exact za_top_ok _ _
    | some d =>
      cases b with
      | none => exact za_top_ok _ _
      | some d' => rw [hx d rfl, hy d' rfl]; exact za_c_ok _ _
  · cases h
theorem zs_dup {lv : za_LV} {t : za_T} {st : List za_V} {Z : List za_S × List za_X}
    (rule : ∀ {H : Heap} {locs : List Loc} {cells slots : Nat} {ls : Array Slot} {rest : List Value} {w : Value}, w.category = 1 → W p l e R s m args below meth c H locs cells slots Q (F0 m (pc + 1) ls (w :: w :: rest)) → W p l e R s m args below meth c H locs cells slots Q (F0 m pc ls (w :: rest)))
    (h : za_dup pc lv st t = some Z) (hk : ∀ S ∈ Z.1, za_G p l e R s m args below meth c Q E nL ads0 S) : za_G p l e R s m args below meth c Q E nL ads0 (pc, lv, st, t) := by
  intro ads H locs ls stk M
  obtain ⟨h1, h2, h3, h4, h5, h6⟩ := M
  unfold za_dup at h
  split at h
  · rename_i v rest
    obtain ⟨hc, h⟩ := za_bif h
    obtain ⟨w, stk1, rfl, w2, q1⟩ := za_F2_cons h3
    exact rule ((za_cat_ok w2).trans (za_beq hc)) (zs_go h hk ads H locs ls (w :: w :: stk1) ⟨h1, h2, ⟨w2, w2, q1⟩, h4, h5, h6⟩)
  · cases h
theorem zs_pop {lv : za_LV} {t : za_T} {st : List za_V} {Z : List za_S × List za_X}
    (rule : ∀ {H : Heap} {locs : List Loc} {cells slots : Nat} {ls : Array Slot} {rest : List Value} {w : Value}, w.category = 1 → W p l e R s m args below meth c H locs cells slots Q (F0 m (pc + 1) ls rest) → W p l e R s m args below meth c H locs cells slots Q (F0 m pc ls (w :: rest)))
    (h : za_pop pc lv st t = some Z) (hk : ∀ S ∈ Z.1, za_G p l e R s m args below meth c Q E nL ads0 S) : za_G p l e R s m args below meth c Q E nL ads0 (pc, lv, st, t) := by
  intro ads H locs ls stk M
  obtain ⟨h1, h2, h3, h4, h5, h6⟩ := M
  unfold za_pop at h
  split at h
  · rename_i v rest
    obtain ⟨hc, h⟩ := za_bif h
    obtain ⟨w, stk1, rfl, w2, q1⟩ := za_F2_cons h3
    exact rule ((za_cat_ok w2).trans (za_beq hc)) (zs_go h hk ads H locs ls stk1 ⟨h1, h2, q1, h4, h5, h6⟩)
  · cases h
theorem zs_dup2 {lv : za_LV} {t : za_T} {st : List za_V} {Z : List za_S × List za_X}
    (rule : ∀ {H : Heap} {locs : List Loc} {cells slots : Nat} {ls : Array Slot} {rest : List Value} {w v : Value}, w.category = 1 → v.category = 1 → W p l e R s m args below meth c H locs cells slots Q (F0 m (pc + 1) ls (w :: v :: w :: v :: rest)) → W p l e R s m args below meth c H locs cells slots Q (F0 m pc ls (w :: v :: rest)))
    (h : za_dup2 pc lv st t = some Z) (hk : ∀ S ∈ Z.1, za_G p l e R s m args below meth c Q E nL ads0 S) : za_G p l e R s m args below meth c Q E nL ads0 (pc, lv, st, t) := by
  intro ads H locs ls stk M
  obtain ⟨h1, h2, h3, h4, h5, h6⟩ := M
  unfold za_dup2 at h
  split at h
  · rename_i v w rest
    obtain ⟨hc, h⟩ := za_bif h
    obtain ⟨hc', h⟩ := za_bif h
    obtain ⟨x, stk1, rfl, w2, q1⟩ := za_F2_cons h3
    obtain ⟨y, stk2, rfl, w3, q2⟩ := za_F2_cons q1
    exact rule ((za_cat_ok w2).trans (za_beq hc)) ((za_cat_ok w3).trans (za_beq hc')) (zs_go h hk ads H locs ls (x :: y :: x :: y :: stk2) ⟨h1, h2, ⟨w2, w3, w2, w3, q2⟩, h4, h5, h6⟩)
  · cases h
theorem za_tg_ok {off : Int} {g : Nat} (h : za_tg pc off = some g) : (pc : Int) + off = (g : Int) := by
  unfold za_tg at h
  split at h
  · rename_i n hn
    cases h
    exact hn
  · cases h
theorem zs_cst {lv : za_LV} {t : za_T} {k : Int} {n : Nat} {st : List za_V} {Z : List za_S × List za_X}
    (rule : ∀ {v : Int32} {H : Heap} {locs : List Loc} {cells slots : Nat} {ls : Array Slot} {rest : List Value}, -128 ≤ k → k ≤ 127 → v = Int32.ofInt k → W p l e R s m args below meth c H locs cells slots Q (F0 m (pc + n) ls (.int v :: rest)) → W p l e R s m args below meth c H locs cells slots Q (F0 m pc ls rest))
    (h : za_cst k n pc lv st t = some Z) (hk : ∀ S ∈ Z.1, za_G p l e R s m args below meth c Q E nL ads0 S) : za_G p l e R s m args below meth c Q E nL ads0 (pc, lv, st, t) := by
  unfold za_cst at h
  obtain ⟨g1, h⟩ := za_bif h
  obtain ⟨g2, h⟩ := za_bif h
  have g1 := za_ile_t g1
  have g2 := za_ile_t g2
  exact zs_push (v := .inl (za_n k)) (.int (Int32.ofInt k)) (fun ads => ⟨_, rfl, za_n_ok _ (by rw [Int32.toInt_ofInt]; exact za_bmod (by omega) (by omega))⟩) (fun k => rule g1 g2 rfl k) h hk
theorem zs_goto {lv : za_LV} {t : za_T} {off : Int} {st : List za_V} {Z : List za_S × List za_X}
    (rule : ∀ {g : Nat} {H : Heap} {locs : List Loc} {cells slots : Nat} {ls : Array Slot} {rest : List Value}, (pc : Int) + off = (g : Int) → W p l e R s m args below meth c H locs cells slots Q (F0 m g ls rest) → W p l e R s m args below meth c H locs cells slots Q (F0 m pc ls rest))
    (h : za_goto off pc lv st t = some Z) (hk : ∀ S ∈ Z.1, za_G p l e R s m args below meth c Q E nL ads0 S) : za_G p l e R s m args below meth c Q E nL ads0 (pc, lv, st, t) := by
  intro ads H locs ls stk M
  unfold za_goto at h
  split at h
  · rename_i g hg
    exact rule (za_tg_ok hg) (zs_go h hk ads H locs ls stk M)
  · cases h
theorem zs_one {lv : za_LV} {t : za_T} {g : Nat} {st : List za_V} {o : Option za_R} (hk : ∀ S ∈ za_one lv t g st o, za_G p l e R s m args below meth c Q E nL ads0 S) {ρ : za_R} (ho : o = some ρ) (hρ : za_ok (za_σ E) ρ) {ads : List Nat} {H : Heap} {locs : List Loc} {ls : Array Slot} {stk : List Value} (M : za_Mt E nL s ads0 ads (g, lv, st, t) H locs ls stk) : W p l e R s m args below meth c H locs t.2.2.1 t.2.2.2 Q (F0 m g ls stk) := by
  subst ho
  exact hk (g, lv, st, t.1, ρ, t.2.2) List.mem_cons_self ads H locs ls stk ⟨M.1, hρ, M.2.2⟩
theorem zs_two {lv : za_LV} {t : za_T} {off : Int} {yes no : Option za_R} {st : List za_V} {Z : List za_S × List za_X} (h : za_two off yes no pc lv st t = some Z) (hk : ∀ S ∈ Z.1, za_G p l e R s m args below meth c Q E nL ads0 S) :
    ∃ g : Nat, (pc : Int) + off = (g : Int) ∧ (∀ S ∈ za_one lv t g st yes, za_G p l e R s m args below meth c Q E nL ads0 S) ∧ ∀ S ∈ za_one lv t (pc + 3) st no, za_G p l e R s m args below meth c Q E nL ads0 S := by
  unfold za_two at h
  split at h
  · rename_i g hg
    cases h
    exact ⟨g, za_tg_ok hg, fun S hS => hk S (List.mem_append_left _ hS), fun S hS => hk S (List.mem_append_right _ hS)⟩
  · cases h
theorem zs_if1 {lv : za_LV} {t : za_T} {off : Int} {y no : za_R → za_I → za_I → Option za_R} (P : Int32 → Int32 → Prop) (hy : ∀ {σ : Nat → Int32} {ρ : za_R} {a b : za_I} {x z : Int32}, za_ok σ ρ → za_gI σ a x → za_gI σ b z → P x z → ∃ ρ', y ρ a b = some ρ' ∧ za_ok σ ρ') (hn : ∀ {σ : Nat → Int32} {ρ : za_R} {a b : za_I} {x z : Int32}, za_ok σ ρ → za_gI σ a x → za_gI σ b z → ¬ P x z → ∃ ρ', no ρ a b = some ρ' ∧ za_ok σ ρ') {st : List za_V} {Z : List za_S × List za_X}
    (rule : ∀ {g : Nat} {H : Heap} {locs : List Loc} {cells slots : Nat} {ls : Array Slot} {rest : List Value} {x : Int32}, (pc : Int) + off = (g : Int) → (P x 0 → W p l e R s m args below meth c H locs cells slots Q (F0 m g ls rest)) → (¬ P x 0 → W p l e R s m args below meth c H locs cells slots Q (F0 m (pc + 3) ls rest)) → W p l e R s m args below meth c H locs cells slots Q (F0 m pc ls (.int x :: rest)))
    (h : za_if1 off y no pc lv st t = some Z) (hk : ∀ S ∈ Z.1, za_G p l e R s m args below meth c Q E nL ads0 S) : za_G p l e R s m args below meth c Q E nL ads0 (pc, lv, st, t) := by
  intro ads H locs ls stk M
  obtain ⟨h1, h2, h3, h4, h5, h6⟩ := M
  unfold za_if1 at h
  split at h
  · rename_i a rest
    obtain ⟨g, hg, k1, k2⟩ := zs_two h hk
    obtain ⟨_, stk1, rfl, ⟨x, rfl, hx⟩, q1⟩ := za_F2_cons h3
    refine rule hg (fun hP => ?_) (fun hP => ?_)
    · obtain ⟨ρ', e1, e2⟩ := hy h2 hx (za_n_ok _ (x := 0) (k := 0) (by decide)) hP
      exact zs_one k1 e1 e2 ⟨h1, h2, q1, h4, h5, h6⟩
    · obtain ⟨ρ', e1, e2⟩ := hn h2 hx (za_n_ok _ (x := 0) (k := 0) (by decide)) hP
      exact zs_one k2 e1 e2 ⟨h1, h2, q1, h4, h5, h6⟩
  · cases h
theorem zs_if2 {lv : za_LV} {t : za_T} {off : Int} {y no : za_R → za_I → za_I → Option za_R} (P : Int32 → Int32 → Prop) (hy : ∀ {σ : Nat → Int32} {ρ : za_R} {a b : za_I} {x z : Int32}, za_ok σ ρ → za_gI σ a x → za_gI σ b z → P x z → ∃ ρ', y ρ a b = some ρ' ∧ za_ok σ ρ') (hn : ∀ {σ : Nat → Int32} {ρ : za_R} {a b : za_I} {x z : Int32}, za_ok σ ρ → za_gI σ a x → za_gI σ b z → ¬ P x z → ∃ ρ', no ρ a b = some ρ' ∧ za_ok σ ρ') {st : List za_V} {Z : List za_S × List za_X}
    (rule : ∀ {g : Nat} {H : Heap} {locs : List Loc} {cells slots : Nat} {ls : Array Slot} {rest : List Value} {x z : Int32}, (pc : Int) + off = (g : Int) → (P x z → W p l e R s m args below meth c H locs cells slots Q (F0 m g ls rest)) → (¬ P x z → W p l e R s m args below meth c H locs cells slots Q (F0 m (pc + 3) ls rest)) → W p l e R s m args below meth c H locs cells slots Q (F0 m pc ls (.int z :: .int x :: rest)))
    (h : za_if2 off y no pc lv st t = some Z) (hk : ∀ S ∈ Z.1, za_G p l e R s m args below meth c Q E nL ads0 S) : za_G p l e R s m args below meth c Q E nL ads0 (pc, lv, st, t) := by
  intro ads H locs ls stk M
  obtain ⟨h1, h2, h3, h4, h5, h6⟩ := M
  unfold za_if2 at h
  split at h
  · rename_i b a rest
    obtain ⟨g, hg, k1, k2⟩ := zs_two h hk
    obtain ⟨_, stk1, rfl, ⟨z, rfl, hz⟩, q1⟩ := za_F2_cons h3
    obtain ⟨_, stk2, rfl, ⟨x, rfl, hx⟩, q2⟩ := za_F2_cons q1
    refine rule hg (fun hP => ?_) (fun hP => ?_)
    · obtain ⟨ρ', e1, e2⟩ := hy h2 hx hz hP
      exact zs_one k1 e1 e2 ⟨h1, h2, q2, h4, h5, h6⟩
    · obtain ⟨ρ', e1, e2⟩ := hn h2 hx hz hP
      exact zs_one k2 e1 e2 ⟨h1, h2, q2, h4, h5, h6⟩
  · cases h

end ZS
end
section
section ZH
variable {p : Program} {l : Launch} {e : Env} {R : Room} {s : State} {m : MethodId} {args : Array Value} {below : List Frame} {meth : Method} {c : Code} {Q : State → Prop} {E : za_E} {nL : Nat} {ads0 : List Nat} {cc : ByteArray} {pc : Nat}
theorem za_tab_ok {lv : za_LV} {st : List za_V} {t : za_T} {a : za_I} {r1 r2 : Int} : ∀ {offs : List Int} {v : Int} {l9 : List za_S}, za_tab pc lv st t a r1 r2 v offs = some l9 → ∀ {k : Nat} {off : Int}, offs[k]? = some off → r1 ≤ v + k → v + k ≤ r2 → ∃ g : Nat, (pc : Int) + off = (g : Int) ∧ (g, lv, st, t.1, za_cut t.2.1 a (v + k) (v + k), t.2.2) ∈ l9
  | [], v, l9, h, k, off, hk, h1, h2 => by simp at hk
  | o :: offs, v, l9, h, k, off, hk, h1, h2 => by
    unfold za_tab at h
    split at h
    · cases h
    · rename_i l8 hl
      cases k with
      | zero =>
        simp only [List.getElem?_cons_zero, Option.some.injEq] at hk
        subst hk
        have e1 : za_ile r1 v = true := za_ile_i.mpr (by omega)
        have e2 : za_ile v r2 = true := za_ile_i.mpr (by omega)
        simp only [e1, e2, cond_true] at h
        split at h
        · rename_i g hg
          cases h
          refine ⟨g, za_tg_ok hg, ?_⟩
          have e3 : v + ((0 : Nat) : Int) = v := by omega
          rw [e3]
          exact List.mem_cons_self
        · cases h
      | succ k =>
        simp only [List.getElem?_cons_succ] at hk
        obtain ⟨g, hg, hm⟩ := za_tab_ok hl hk (by omega) (by omega)
        have e3 : v + 1 + (k : Int) = v + ((k + 1 : Nat) : Int) := by omega
        rw [e3] at hm
        refine ⟨g, hg, ?_⟩
        cases e1 : za_ile r1 v with
        | false =>
          simp only [e1, cond_false, Option.some.injEq] at h
          subst h
          exact hm
        | true =>
          cases e2 : za_ile v r2 with
          | false =>
            simp only [e1, e2, cond_true, cond_false, Option.some.injEq] at h
            subst h
            exact hm
          | true =>
            simp only [e1, e2, cond_true] at h
            split at h
            · cases h
              exact List.mem_cons_of_mem _ hm
            · cases h
theorem zs_tsw {lv : za_LV} {t : za_T} {dflt lo hi : Int} {offs : Array Int} {st : List za_V} {Z : List za_S × List za_X}
    (ruleIn : ∀ {g : Nat} {off : Int} {H : Heap} {locs : List Loc} {cells slots : Nat} {ls : Array Slot} {rest : List Value} {x : Int32}, ¬ x.toInt < lo → ¬ hi < x.toInt → offs[(x.toInt - lo).toNat]? = some off → (pc : Int) + off = (g : Int) → W p l e R s m args below meth c H locs cells slots Q (F0 m g ls rest) → W p l e R s m args below meth c H locs cells slots Q (F0 m pc ls (.int x :: rest)))
    (ruleOut : ∀ {g : Nat} {H : Heap} {locs : List Loc} {cells slots : Nat} {ls : Array Slot} {rest : List Value} {x : Int32}, x.toInt < lo ∨ hi < x.toInt → (pc : Int) + dflt = (g : Int) → W p l e R s m args below meth c H locs cells slots Q (F0 m g ls rest) → W p l e R s m args below meth c H locs cells slots Q (F0 m pc ls (.int x :: rest)))
    (h : za_tsw dflt lo hi offs pc lv st t = some Z) (hk : ∀ S ∈ Z.1, za_G p l e R s m args below meth c Q E nL ads0 S) : za_G p l e R s m args below meth c Q E nL ads0 (pc, lv, st, t) := by
  intro ads H locs ls stk M
  obtain ⟨h1, h2, h3, h4, h5, h6⟩ := M
  unfold za_tsw at h
  split at h
  · rename_i a rest
    obtain ⟨_, stk1, rfl, ⟨x, rfl, hx⟩, q1⟩ := za_F2_cons h3
    have hr := za_rg_ok h2 hx
    dsimp only at h2
    generalize hq : za_rg t.2.1 a = q at h
    have hr : q.1 ≤ x.toInt ∧ x.toInt ≤ q.2 := by rw [← hq]; exact hr
    obtain ⟨r1, r2⟩ := q
    dsimp only at h hr
    split at h
    · rename_i g l9 hg hl
      obtain ⟨hsz, h⟩ := za_bif h
      have hsz := za_ieq_t hsz
      cases h
      by_cases c1 : x.toInt < lo
      · have e1 : za_ile lo r1 = false := by
          cases hz : za_ile lo r1 with
          | false => rfl
          | true => have := za_ile_t hz; omega
        refine ruleOut (Or.inl c1) (za_tg_ok hg) (hk (g, lv, rest, t.1, za_cut t.2.1 a r1 (lo - 1), t.2.2) ?_ ads H locs ls stk1 ⟨h1, za_cut_ok h2 hx (by omega) (by omega), q1, h4, h5, h6⟩)
        simp [e1]
      · by_cases c2 : hi < x.toInt
        · have e1 : za_ile r2 hi = false := by
            cases hz : za_ile r2 hi with
            | false => rfl
            | true => have := za_ile_t hz; omega
          refine ruleOut (Or.inr c2) (za_tg_ok hg) (hk (g, lv, rest, t.1, za_cut t.2.1 a (hi + 1) r2, t.2.2) ?_ ads H locs ls stk1 ⟨h1, za_cut_ok h2 hx (by omega) (by omega), q1, h4, h5, h6⟩)
          simp [e1]
        · have hlt : (x.toInt - lo).toNat < offs.toList.length := by omega
          have ho : offs.toList[(x.toInt - lo).toNat]? = some offs.toList[(x.toInt - lo).toNat] := List.getElem?_eq_getElem hlt
          have e4 : lo + (((x.toInt - lo).toNat : Nat) : Int) = x.toInt := by omega
          obtain ⟨g', hg', hm⟩ := za_tab_ok hl ho (by omega) (by omega)
          rw [e4] at hm
          exact ruleIn c1 c2 (by rw [← Array.getElem?_toList]; exact ho) hg' (hk _ (List.mem_append_right _ (List.mem_append_right _ hm)) ads H locs ls stk1 ⟨h1, za_cut_ok h2 hx (by omega) (by omega), q1, h4, h5, h6⟩)
    · cases h
  · cases h
theorem zs_lsw {lv : za_LV} {t : za_T} {dflt : Int} {ps : Array (Int × Int)} {st : List za_V} {Z : List za_S × List za_X}
    (rule : ∀ {g : Nat} {off : Int} {H : Heap} {locs : List Loc} {cells slots : Nat} {ls : Array Slot} {rest : List Value} {x : Int32}, (ps.toList.zip (ps.toList.drop 1)).all (fun (a, next) => a.1 < next.1) = true → Op.lookupswitch.offset ps.toList dflt x.toInt = off → (pc : Int) + off = (g : Int) → W p l e R s m args below meth c H locs cells slots Q (F0 m g ls rest) → W p l e R s m args below meth c H locs cells slots Q (F0 m pc ls (.int x :: rest)))
    (h : za_lsw dflt ps pc lv st t = some Z) (hk : ∀ S ∈ Z.1, za_G p l e R s m args below meth c Q E nL ads0 S) : za_G p l e R s m args below meth c Q E nL ads0 (pc, lv, st, t) := by
  intro ads H locs ls stk M
  obtain ⟨h1, h2, h3, h4, h5, h6⟩ := M
  unfold za_lsw at h
  split at h
  · rename_i a rest
    split at h
    · rename_i d hd
      split at h
      · rename_i g hg
        obtain ⟨ha, h⟩ := za_bif h
        obtain ⟨_, stk1, rfl, ⟨x, rfl, hx⟩, q1⟩ := za_F2_cons h3
        exact rule ha rfl (by rw [za_k_ok h2 hx hd]; exact za_tg_ok hg) (zs_go h hk ads H locs ls stk1 ⟨h1, h2, q1, h4, h5, h6⟩)
      · cases h
    · cases h
  · cases h
/-- the object that a reference names -/
theorem za_obj {ads : List Nat} {h : List za_O} {H : Heap} (hw : za_Wd E ads h H) {q : Nat} {a : Nat} (ha : ads[q + 1]? = some a) {o : za_O} (ho : h[q]? = some o) :
    ∃ (ws : va_W) (x : va_E), ads = za_b E :: ws.map (·.1) ∧ za_F2 (fun o (q : Nat × va_E) => za_gO E ads o q.2) h ws ∧ va_P (za_D E) vwCl ws H ∧ va_D (za_A E) ws ∧ ws[q]? = some (a, x) ∧ za_gO E ads o x := by
  obtain ⟨ws, e1, e2, e3, e4⟩ := hw
  obtain ⟨z, z1, z2⟩ := za_F2_get e2 ho
  refine ⟨ws, z.2, e1, e2, e3, e4, ?_, z2⟩
  have e5 : (ws.map (·.1))[q]? = some a := by
    rw [e1, List.getElem?_cons_succ] at ha
    exact ha
  rw [List.getElem?_map, z1] at e5
  have e6 : z.1 = a := Option.some.inj e5
  rw [← e6]
  exact z1
theorem za_gO_o {ads : List Nat} {ci : Nat} {fs : List za_V} {x : va_E} (h : za_gO E ads (.inl (ci, fs)) x) : ∃ vs, x = .inr (ci, vs) ∧ za_F2 (za_gV (za_σ E) ads) fs vs := by
  match x, h with
  | .inr (cj, vs), h => exact ⟨vs, by rw [h.1], h.2⟩
theorem za_gO_i {ads : List Nat} {t n : Nat} {d : za_I} {ups : List (Nat × za_I)} {x : va_E} (h : za_gO E ads (.inr (.inl (t, n, d, ups))) x) : ∃ f : Nat → Int32, x = .inl (za_tc E t, n, .inl f) ∧ t < 3 ∧ ∀ i, i < n → za_gI (za_σ E) (za_at d ups i) (f i) := by
  match x, h with
  | .inl (cA, n', .inl f), h => exact ⟨f, by rw [h.1, h.2.2.1], h.2.1, h.2.2.2⟩
theorem za_gO_l {ads : List Nat} {n : Nat} {d : Option Int64} {ups : List (Nat × Option Int64)} {x : va_E} (h : za_gO E ads (.inr (.inr (n, d, ups))) x) : ∃ f : Nat → Int64, x = .inl (E.2.2.2.1.2.2.2, n, .inr (.inl f)) ∧ ∀ i, i < n → za_gL (za_at d ups i) (f i) := by
  match x, h with
  | .inl (cA, n', .inr (.inl f)), h => exact ⟨f, by rw [h.1, h.2.1], h.2.2⟩
theorem za_set {ads : List Nat} {h : List za_O} {H1 : Heap} {ws : va_W} {q a : Nat} {x y : va_E} {o : za_O} (e1 : ads = za_b E :: ws.map (·.1)) (e2 : za_F2 (fun o (q : Nat × va_E) => za_gO E ads o q.2) h ws) (hx : ws[q]? = some (a, x)) (hy : za_gO E ads o y) (e3 : va_P (za_D E) vwCl (ws.set q (a, y)) H1) (e4 : va_D (za_A E) (ws.set q (a, y))) : za_Wd E ads (h.set q o) H1 := by
  refine ⟨ws.set q (a, y), ?_, za_F2_set e2 q hy, e3, e4⟩
  rw [List.map_set]
  have e5 : (ws.map (·.1))[q]? = some a := by rw [List.getElem?_map, hx]; rfl
  rw [e1]
  congr 1
  apply List.ext_getElem?
  intro i
  by_cases hi : q = i
  · subst hi
    rw [List.getElem?_set_self (by simpa using (List.getElem?_eq_some_iff.mp hx).1)]
    exact e5
  · rw [List.getElem?_set_ne hi]
theorem zs_getf {lv : za_LV} {t : za_T} {st : List za_V} {Z : List za_S × List za_X} {r : Option za_row}
    (rule : ∀ {ci k : Nat} {z : Int}, r = some (0, ci, k, z) → ∀ {H : Heap} {locs : List Loc} {cells slots : Nat} {ls : Array Slot} {rest : List Value} {ws : va_W} {q a : Nat} {vs : List Value} {v : Value}, va_P (za_D E) vwCl ws H → ws[q]? = some (a, .inr (ci, vs)) → vs[k]? = some v → W p l e R s m args below meth c H locs cells slots Q (F0 m (pc + 3) ls (v :: rest)) → W p l e R s m args below meth c H locs cells slots Q (F0 m pc ls (.ref a :: rest)))
    (h : za_getf r pc lv st t = some Z) (hk : ∀ S ∈ Z.1, za_G p l e R s m args below meth c Q E nL ads0 S) : za_G p l e R s m args below meth c Q E nL ads0 (pc, lv, st, t) := by
  intro ads H locs ls stk M
  obtain ⟨h1, h2, h3, h4, h5, h6⟩ := M
  unfold za_getf at h
  split at h
  · rename_i ci k z q rest
    split at h
    · rename_i cj fs ho
      split at h
      · rename_i v hv
        obtain ⟨hc, hg⟩ := za_bif h
        have hc := za_beq hc
        subst hc
        obtain ⟨_, stk1, rfl, ⟨a, rfl, ha⟩, q1⟩ := za_F2_cons h3
        obtain ⟨ws, x, e1, e2, e3, e4, e5, e6⟩ := za_obj h5 ha ho
        obtain ⟨vs, rfl, e7⟩ := za_gO_o e6
        obtain ⟨w, w1, w2⟩ := za_F2_get e7 hv
        exact rule rfl e3 e5 w1 (zs_go hg hk ads H locs ls (w :: stk1) ⟨h1, h2, ⟨w2, q1⟩, h4, h5, h6⟩)
      · cases h
    · cases h
  · cases h
theorem za_fit_ok {ads : List Nat} {ρ : za_R} {ty : FieldType} {v : za_V} {w : Value} (hρ : za_ok (za_σ E) ρ) (hv : za_gV (za_σ E) ads v w) (h : za_fit ρ ty v = true) : narrow ty w = w ∧ fits ty w = true := by
  unfold za_fit at h
  split at h
  · obtain ⟨x, rfl, hx⟩ := hv
    exact ⟨rfl, rfl⟩
  · rename_i i
    obtain ⟨x, rfl, hx⟩ := hv
    have hr := za_rg_ok hρ hx
    generalize za_rg ρ i = q at h hr
    obtain ⟨a, b⟩ := q
    dsimp only at h hr
    have h9 : za_ile 0 a = true ∧ za_ile b 1 = true := by
      cases hz : za_ile 0 a with
      | false => rw [hz] at h; cases h
      | true => rw [hz] at h; exact ⟨rfl, h⟩
    have h8 := za_ile_t h9.1
    have h7 := za_ile_t h9.2
    have h6 : x = 0 ∨ x = 1 := by
      rcases (show x.toInt = 0 ∨ x.toInt = 1 by omega) with z | z
      · exact Or.inl (Int32.toInt_inj.mp (by rw [z]; decide))
      · exact Or.inr (Int32.toInt_inj.mp (by rw [z]; decide))
    rcases h6 with rfl | rfl
    · exact ⟨by decide, by decide⟩
    · exact ⟨by decide, by decide⟩
  · obtain ⟨x, rfl, hx⟩ := hv
    exact ⟨rfl, rfl⟩
  · rename_i n o
    cases o with
    | none => rw [show w = .null from hv]; exact ⟨rfl, rfl⟩
    | some k => obtain ⟨x, rfl, hx⟩ := hv; exact ⟨rfl, rfl⟩
  · rename_i n o
    cases o with
    | none => rw [show w = .null from hv]; exact ⟨rfl, rfl⟩
    | some k => obtain ⟨x, rfl, hx⟩ := hv; exact ⟨rfl, rfl⟩
  · cases h
theorem zs_putf {lv : za_LV} {t : za_T} {st : List za_V} {Z : List za_S × List za_X} {r : Option za_row} {own : Nat} {ini : Bool}
    (rule : ∀ {ci k : Nat} {z : Int}, r = some (0, ci, k, z) → (z = 0 ∨ (ini = true ∧ ci = own)) → ∀ {H : Heap} {locs : List Loc} {cells slots : Nat} {ls : Array Slot} {rest : List Value} {ws : va_W} {q a : Nat} {vs : List Value} {v : Value}, va_P (za_D E) vwCl ws H → va_D (za_A E) ws → va_S (za_A E) s.heap H locs → ws[q]? = some (a, .inr (ci, vs)) → k < vs.length → narrow (za_tyX ci k) v = v → fits (za_tyX ci k) v = true →
      (∀ (H1 : Heap) (locs1 : List Loc), va_P (za_D E) vwCl (ws.set q (a, .inr (ci, vs.set k v))) H1 → va_D (za_A E) (ws.set q (a, .inr (ci, vs.set k v))) → va_S (za_A E) s.heap H1 locs1 → W p l e R s m args below meth c H1 locs1 cells slots Q (F0 m (pc + 3) ls rest)) → W p l e R s m args below meth c H locs cells slots Q (F0 m pc ls (v :: .ref a :: rest)))
    (h : za_putf r own ini pc lv st t = some Z) (hk : ∀ S ∈ Z.1, za_G p l e R s m args below meth c Q E nL ads0 S) : za_G p l e R s m args below meth c Q E nL ads0 (pc, lv, st, t) := by
  intro ads H locs ls stk M
  obtain ⟨h1, h2, h3, h4, h5, h6⟩ := M
  unfold za_putf at h
  split at h
  · rename_i ci k z v q rest
    split at h
    · rename_i cj fs ho
      obtain ⟨hc, h⟩ := za_bif h
      obtain ⟨hl, h⟩ := za_bif h
      obtain ⟨hf, h⟩ := za_bif h
      have hc := za_beq hc
      subst hc
      have key : (z = 0 ∨ (ini = true ∧ cj = own)) ∧ za_go lv (t.1.set q (.inl (cj, fs.set k v)), t.2) (pc + 3) rest = some Z := by
        cases hz : za_ieq z 0 with
        | true =>
          rw [hz] at h
          exact ⟨Or.inl (za_ieq_t hz), h⟩
        | false =>
          rw [hz] at h
          obtain ⟨g1, h⟩ := za_bif h
          obtain ⟨g2, h⟩ := za_bif h
          exact ⟨Or.inr ⟨g1, za_beq g2⟩, h⟩
      obtain ⟨kz, h⟩ := key
      obtain ⟨w, stk1, rfl, w2, q1⟩ := za_F2_cons h3
      obtain ⟨_, stk2, rfl, ⟨a, rfl, ha⟩, q2⟩ := za_F2_cons q1
      obtain ⟨ws, x, e1, e2, e3, e4, e5, e6⟩ := za_obj h5 ha ho
      obtain ⟨vs, rfl, e7⟩ := za_gO_o e6
      obtain ⟨f1, f2⟩ := za_fit_ok h2 w2 hf
      refine rule rfl kz e3 e4 h6 e5 (by rw [← za_F2_len e7]; exact za_blt hl) f1 f2 (fun H1 locs1 g1 g2 g3 => ?_)
      exact zs_go h hk ads H1 locs1 ls stk2 ⟨h1, h2, q2, h4, za_set e1 e2 e5 (o := .inl (cj, fs.set k v)) (show za_gO E ads (.inl (cj, fs.set k v)) (.inr (cj, vs.set k w)) from ⟨rfl, za_F2_set e7 k w2⟩) g1 g2, g3⟩
    · cases h
  · cases h
theorem za_clamp {x : Int32} {c9 : Nat} (h : x.toInt = Int.ofNat c9) : x.toNatClampNeg = c9 ∧ ¬ x < 0 := by
  constructor
  · show x.toInt.toNat = c9
    rw [h]; rfl
  · rw [Int32.lt_iff_toInt_lt, h]
    show ¬ (Int.ofNat c9 < (0 : Int32).toInt)
    rw [show (0 : Int32).toInt = 0 by decide]
    have : (0 : Int) ≤ Int.ofNat c9 := Int.natCast_nonneg _
    omega
theorem za_vin {x : Int32} {c9 n : Nat} (h : x.toInt = Int.ofNat c9) (hn : c9 < n) : vp_in x n := by
  intro z
  obtain ⟨e1, e2⟩ := za_clamp h
  rcases z with z | z
  · exact e2 z
  · rw [e1] at z; omega
theorem za_tys_tc {t : Nat} (h : t < 3) : (za_tys E)[t]? = some (za_tc E t, match t with | 0 => .int | 1 => .byte | _ => .boolean) := by
  match t, h with
  | 0, _ => rfl
  | 1, _ => rfl
  | 2, _ => rfl
  | _ + 3, h => omega
theorem zs_ild {lv : za_LV} {t : za_T} {st : List za_V} {Z : List za_S × List za_X} {bt : Bool} {L : Nat}
    (ruleS : bt = false → ∀ {H : Heap} {locs : List Loc} {cells slots : Nat} {ls : Array Slot} {rest : List Value} {i : Int32}, va_S (za_A E) s.heap H locs → vp_in i L → W p l e R s m args below meth c H locs cells slots Q (F0 m (pc + 1) ls (.int (za_σ E i.toNatClampNeg) :: rest)) → W p l e R s m args below meth c H locs cells slots Q (F0 m pc ls (.int i :: .ref (za_b E) :: rest)))
    (rule : ∀ {tt : Nat}, tt < 3 → (bt = false ↔ tt = 0) → ∀ {H : Heap} {locs : List Loc} {cells slots : Nat} {ls : Array Slot} {rest : List Value} {ws : va_W} {q a n : Nat} {f : Nat → Int32} {i : Int32}, va_P (za_D E) vwCl ws H → ws[q]? = some (a, .inl (za_tc E tt, n, .inl f)) → vp_in i n → W p l e R s m args below meth c H locs cells slots Q (F0 m (pc + 1) ls (.int (f i.toNatClampNeg) :: rest)) → W p l e R s m args below meth c H locs cells slots Q (F0 m pc ls (.int i :: .ref a :: rest)))
    (h : za_ild bt L pc lv st t = some Z) (hk : ∀ S ∈ Z.1, za_G p l e R s m args below meth c Q E nL ads0 S) : za_G p l e R s m args below meth c Q E nL ads0 (pc, lv, st, t) := by
  intro ads H locs ls stk M
  obtain ⟨h1, h2, h3, h4, h5, h6⟩ := M
  unfold za_ild at h
  split at h
  · rename_i i rest
    split at h
    · rename_i c9 hc
      obtain ⟨hb, h⟩ := za_bifn h
      obtain ⟨hl, h⟩ := za_bif h
      obtain ⟨_, stk1, rfl, ⟨x, rfl, hx⟩, q1⟩ := za_F2_cons h3
      obtain ⟨_, stk2, rfl, ⟨a, rfl, ha⟩, q2⟩ := za_F2_cons q1
      have hxc := za_k_ok h2 hx hc
      have hab : a = za_b E := by
        obtain ⟨ws, e1, -⟩ := h5
        rw [e1] at ha
        exact (Option.some.inj ha).symm
      subst hab
      refine ruleS hb h6 (za_vin hxc (za_blt hl)) (zs_go h hk ads H locs ls (_ :: stk2) ⟨h1, h2, ⟨⟨_, rfl, ?_⟩, q2⟩, h4, h5, h6⟩)
      show za_σ E x.toNatClampNeg = za_σ E c9
      rw [(za_clamp hxc).1]
    · cases h
  · rename_i i q rest
    split at h
    · rename_i ty n d ups ho
      obtain ⟨hb, h⟩ := za_bif h
      split at h
      · rename_i a9 b9 hrg
        obtain ⟨hab, h⟩ := za_bif h
        obtain ⟨hbm, h⟩ := za_bif h
        obtain ⟨_, stk3, rfl, ⟨x, rfl, hx⟩, q3⟩ := za_F2_cons h3
        obtain ⟨_, stk4, rfl, ⟨a, rfl, ha⟩, q4⟩ := za_F2_cons q3
        have hr := za_rg_ok h2 hx
        rw [show za_rg (pc, lv, Sum.inl i :: Sum.inr (Sum.inr (some (q + 1))) :: rest, t).2.2.2.2.1 i = (Int.ofNat a9, Int.ofNat b9) from hrg] at hr
        have hr1 : (a9 : Int) ≤ x.toInt := hr.1
        have hr2 : x.toInt ≤ (b9 : Int) := hr.2
        have hxc : x.toInt = Int.ofNat x.toInt.toNat := by
          show x.toInt = ((x.toInt.toNat : Nat) : Int)
          omega
        have hbm := za_blt hbm
        obtain ⟨ws, y, e1, e2, e3, e4, e5, e6⟩ := za_obj h5 ha ho
        obtain ⟨f, rfl, ht, e7⟩ := za_gO_i e6
        refine rule ht ?_ e3 e5 (za_vin hxc (by omega)) (zs_go h hk ads H locs ls (_ :: stk4) ⟨h1, h2, ⟨⟨_, rfl, ?_⟩, q4⟩, h4, h5, h6⟩)
        · cases bt with
          | false =>
            simp only [Bool.false_xor] at hb
            exact ⟨fun _ => za_beq hb, fun _ => rfl⟩
          | true =>
            simp only [Bool.true_xor, Bool.not_eq_true'] at hb
            exact ⟨fun z => (by cases z), fun z => (by rw [z] at hb; cases hb)⟩
        · rw [(za_clamp hxc).1]
          have hab := za_ble hab
          exact za_rd_ok h2 e7 a9 (b9 - a9) _ (by omega) (by omega) (by omega)
      · cases h
    · cases h
  · cases h
theorem za_wr_ok {σ : Nat → Int32} {d : za_I} {ups : List (Nat × za_I)} {f : Nat → Int32} {n k : Nat} {v : za_I} {x : Int32} (h : ∀ i, i < n → za_gI σ (za_at d ups i) (f i)) (hv : za_gI σ v x) : ∀ i, i < n → za_gI σ (za_at d (za_wr d ups k v) i) (upd f k x i) := by
  intro i hi
  by_cases e9 : i = k
  · subst e9
    rw [za_wr_self]
    simpa [upd] using hv
  · rw [za_wr_ne _ _ _ e9]
    simpa [upd, e9] using h i hi
theorem za_nar_ok {σ : Nat → Int32} {ρ : za_R} {ty : Nat} {v : za_I} {x : Int32} (hρ : za_ok σ ρ) (hv : za_gI σ v x) : za_gI σ (za_nar ρ ty v) (match ty with | 0 => x | 1 => vp_nar .byte x | _ => vp_nar .boolean x) := by
  match ty with
  | 0 => exact hv
  | 1 => exact za_u1_ok _ hρ hv
  | _ + 2 => exact za_u1_ok _ hρ hv
theorem zs_ist {lv : za_LV} {t : za_T} {st : List za_V} {Z : List za_S × List za_X} {bt : Bool}
    (rule : ∀ {tt : Nat}, tt < 3 → (bt = false ↔ tt = 0) → ∀ {H : Heap} {locs : List Loc} {cells slots : Nat} {ls : Array Slot} {rest : List Value} {ws : va_W} {q a n : Nat} {f : Nat → Int32} {i x : Int32}, va_P (za_D E) vwCl ws H → va_D (za_A E) ws → va_S (za_A E) s.heap H locs → ws[q]? = some (a, .inl (za_tc E tt, n, .inl f)) → vp_in i n →
      (∀ (H1 : Heap) (locs1 : List Loc), va_P (za_D E) vwCl (ws.set q (a, .inl (za_tc E tt, n, .inl (upd f i.toNatClampNeg (match tt with | 0 => x | 1 => vp_nar .byte x | _ => vp_nar .boolean x))))) H1 → va_D (za_A E) (ws.set q (a, .inl (za_tc E tt, n, .inl (upd f i.toNatClampNeg (match tt with | 0 => x | 1 => vp_nar .byte x | _ => vp_nar .boolean x))))) → va_S (za_A E) s.heap H1 locs1 → W p l e R s m args below meth c H1 locs1 cells slots Q (F0 m (pc + 1) ls rest)) → W p l e R s m args below meth c H locs cells slots Q (F0 m pc ls (.int x :: .int i :: .ref a :: rest)))
    (h : za_ist bt pc lv st t = some Z) (hk : ∀ S ∈ Z.1, za_G p l e R s m args below meth c Q E nL ads0 S) : za_G p l e R s m args below meth c Q E nL ads0 (pc, lv, st, t) := by
  intro ads H locs ls stk M
  obtain ⟨h1, h2, h3, h4, h5, h6⟩ := M
  unfold za_ist at h
  split at h
  · rename_i v i q rest
    split at h
    · rename_i ty n d ups c9 ho hc
      obtain ⟨hb, h⟩ := za_bif h
      obtain ⟨hl, h⟩ := za_bif h
      obtain ⟨_, stk1, rfl, ⟨y, rfl, hy⟩, q1⟩ := za_F2_cons h3
      obtain ⟨_, stk2, rfl, ⟨x, rfl, hx⟩, q2⟩ := za_F2_cons q1
      obtain ⟨_, stk3, rfl, ⟨a, rfl, ha⟩, q3⟩ := za_F2_cons q2
      have hxc := za_k_ok h2 hx hc
      obtain ⟨ws, z, e1, e2, e3, e4, e5, e6⟩ := za_obj h5 ha ho
      obtain ⟨f, rfl, ht, e7⟩ := za_gO_i e6
      refine rule (x := y) ht ?_ e3 e4 h6 e5 (za_vin hxc (za_blt hl)) (fun H1 locs1 g1 g2 g3 => ?_)
      · cases bt with
        | false =>
          simp only [Bool.false_xor] at hb
          exact ⟨fun _ => za_beq hb, fun _ => rfl⟩
        | true =>
          simp only [Bool.true_xor, Bool.not_eq_true'] at hb
          exact ⟨fun z => (by cases z), fun z => (by rw [z] at hb; cases hb)⟩
      · refine zs_go h hk ads H1 locs1 ls stk3 ⟨h1, h2, q3, h4, za_set e1 e2 e5 (o := .inr (.inl (ty, n, d, za_wr d ups c9 (za_nar t.2.1 ty v)))) ?_ g1 g2, g3⟩
        refine ⟨rfl, ht, rfl, ?_⟩
        rw [(za_clamp hxc).1]
        exact za_wr_ok e7 (za_nar_ok h2 hy)
    · cases h
  · cases h
theorem zs_lld {lv : za_LV} {t : za_T} {st : List za_V} {Z : List za_S × List za_X}
    (rule : ∀ {H : Heap} {locs : List Loc} {cells slots : Nat} {ls : Array Slot} {rest : List Value} {ws : va_W} {q a n : Nat} {f : Nat → Int64} {i : Int32}, va_P (za_D E) vwCl ws H → ws[q]? = some (a, .inl (E.2.2.2.1.2.2.2, n, .inr (.inl f))) → vp_in i n → W p l e R s m args below meth c H locs cells slots Q (F0 m (pc + 1) ls (.long (f i.toNatClampNeg) :: rest)) → W p l e R s m args below meth c H locs cells slots Q (F0 m pc ls (.int i :: .ref a :: rest)))
    (h : za_lld pc lv st t = some Z) (hk : ∀ S ∈ Z.1, za_G p l e R s m args below meth c Q E nL ads0 S) : za_G p l e R s m args below meth c Q E nL ads0 (pc, lv, st, t) := by
  intro ads H locs ls stk M
  obtain ⟨h1, h2, h3, h4, h5, h6⟩ := M
  unfold za_lld at h
  split at h
  · rename_i i q rest
    split at h
    · rename_i n d ups c9 ho hc
      obtain ⟨hl, h⟩ := za_bif h
      obtain ⟨_, stk1, rfl, ⟨x, rfl, hx⟩, q1⟩ := za_F2_cons h3
      obtain ⟨_, stk2, rfl, ⟨a, rfl, ha⟩, q2⟩ := za_F2_cons q1
      have hxc := za_k_ok h2 hx hc
      obtain ⟨ws, z, e1, e2, e3, e4, e5, e6⟩ := za_obj h5 ha ho
      obtain ⟨f, rfl, e7⟩ := za_gO_l e6
      refine rule e3 e5 (za_vin hxc (za_blt hl)) (zs_go h hk ads H locs ls (_ :: stk2) ⟨h1, h2, ⟨⟨_, rfl, ?_⟩, q2⟩, h4, h5, h6⟩)
      rw [(za_clamp hxc).1]
      exact e7 c9 (za_blt hl)
    · cases h
  · cases h
theorem zs_lst {lv : za_LV} {t : za_T} {st : List za_V} {Z : List za_S × List za_X}
    (rule : ∀ {H : Heap} {locs : List Loc} {cells slots : Nat} {ls : Array Slot} {rest : List Value} {ws : va_W} {q a n : Nat} {f : Nat → Int64} {i : Int32} {x : Int64}, va_P (za_D E) vwCl ws H → va_D (za_A E) ws → va_S (za_A E) s.heap H locs → ws[q]? = some (a, .inl (E.2.2.2.1.2.2.2, n, .inr (.inl f))) → vp_in i n →
      (∀ (H1 : Heap) (locs1 : List Loc), va_P (za_D E) vwCl (ws.set q (a, .inl (E.2.2.2.1.2.2.2, n, .inr (.inl (vp_updL f i.toNatClampNeg x))))) H1 → va_D (za_A E) (ws.set q (a, .inl (E.2.2.2.1.2.2.2, n, .inr (.inl (vp_updL f i.toNatClampNeg x))))) → va_S (za_A E) s.heap H1 locs1 → W p l e R s m args below meth c H1 locs1 cells slots Q (F0 m (pc + 1) ls rest)) → W p l e R s m args below meth c H locs cells slots Q (F0 m pc ls (.long x :: .int i :: .ref a :: rest)))
    (h : za_lst pc lv st t = some Z) (hk : ∀ S ∈ Z.1, za_G p l e R s m args below meth c Q E nL ads0 S) : za_G p l e R s m args below meth c Q E nL ads0 (pc, lv, st, t) := by
  intro ads H locs ls stk M
  obtain ⟨h1, h2, h3, h4, h5, h6⟩ := M
  unfold za_lst at h
  split at h
  · rename_i v i q rest
    split at h
    · rename_i n d ups c9 ho hc
      obtain ⟨hl, h⟩ := za_bif h
      obtain ⟨_, stk1, rfl, ⟨y, rfl, hy⟩, q1⟩ := za_F2_cons h3
      obtain ⟨_, stk2, rfl, ⟨x, rfl, hx⟩, q2⟩ := za_F2_cons q1
      obtain ⟨_, stk3, rfl, ⟨a, rfl, ha⟩, q3⟩ := za_F2_cons q2
      have hxc := za_k_ok h2 hx hc
      obtain ⟨ws, z, e1, e2, e3, e4, e5, e6⟩ := za_obj h5 ha ho
      obtain ⟨f, rfl, e7⟩ := za_gO_l e6
      refine rule (x := y) e3 e4 h6 e5 (za_vin hxc (za_blt hl)) (fun H1 locs1 g1 g2 g3 => ?_)
      refine zs_go h hk ads H1 locs1 ls stk3 ⟨h1, h2, q3, h4, za_set e1 e2 e5 (o := .inr (.inr (n, d, za_wr d ups c9 v))) ?_ g1 g2, g3⟩
      refine ⟨rfl, rfl, ?_⟩
      rw [(za_clamp hxc).1]
      intro j hj
      by_cases e9 : j = c9
      · subst e9
        rw [za_wr_self]
        simpa [vp_updL] using hy
      · rw [za_wr_ne _ _ _ e9]
        simpa [vp_updL, e9] using e7 j hj
    · cases h
  · cases h
theorem za_n_len {n : Nat} (h : n < 100000) : (Int32.ofNat n).toInt = (n : Int) := by
  rw [Int32.toInt_ofNat']
  exact za_bmod (by omega) (by omega)
theorem zs_alen {lv : za_LV} {t : za_T} {st : List za_V} {Z : List za_S × List za_X} {L : Nat}
    (ruleS : ∀ {H : Heap} {locs : List Loc} {cells slots : Nat} {ls : Array Slot} {rest : List Value}, va_S (za_A E) s.heap H locs → W p l e R s m args below meth c H locs cells slots Q (F0 m (pc + 1) ls (.int (Int32.ofNat L) :: rest)) → W p l e R s m args below meth c H locs cells slots Q (F0 m pc ls (.ref (za_b E) :: rest)))
    (rule : ∀ {k : Nat} {ty : FieldType} {cA : ClassId} {H : Heap} {locs : List Loc} {cells slots : Nat} {ls : Array Slot} {rest : List Value} {ws : va_W} {q a : Nat} {x : vp_A}, (za_tys E)[k]? = some (cA, ty) → va_P (za_D E) vwCl ws H → ws[q]? = some (a, .inl (cA, x)) → W p l e R s m args below meth c H locs cells slots Q (F0 m (pc + 1) ls (.int (Int32.ofNat x.1) :: rest)) → W p l e R s m args below meth c H locs cells slots Q (F0 m pc ls (.ref a :: rest)))
    (h : za_alen L pc lv st t = some Z) (hk : ∀ S ∈ Z.1, za_G p l e R s m args below meth c Q E nL ads0 S) : za_G p l e R s m args below meth c Q E nL ads0 (pc, lv, st, t) := by
  intro ads H locs ls stk M
  obtain ⟨h1, h2, h3, h4, h5, h6⟩ := M
  unfold za_alen at h
  split at h
  · rename_i rest
    obtain ⟨hl, h⟩ := za_bif h
    obtain ⟨_, stk1, rfl, ⟨a, rfl, ha⟩, q1⟩ := za_F2_cons h3
    have hab : a = za_b E := by
      obtain ⟨ws, e1, -⟩ := h5
      rw [e1] at ha
      exact (Option.some.inj ha).symm
    subst hab
    exact ruleS h6 (zs_go h hk ads H locs ls (_ :: stk1) ⟨h1, h2, ⟨⟨_, rfl, za_n_ok _ (za_n_len (za_blt hl))⟩, q1⟩, h4, h5, h6⟩)
  · rename_i q rest
    obtain ⟨_, stk2, rfl, ⟨a, rfl, ha⟩, q2⟩ := za_F2_cons h3
    split at h
    · rename_i ty n d ups ho
      obtain ⟨hl, h⟩ := za_bif h
      obtain ⟨ws, z, e1, e2, e3, e4, e5, e6⟩ := za_obj h5 ha ho
      obtain ⟨f, rfl, ht, e7⟩ := za_gO_i e6
      exact rule (za_tys_tc ht) e3 e5 (zs_go h hk ads H locs ls (_ :: stk2) ⟨h1, h2, ⟨⟨_, rfl, za_n_ok _ (za_n_len (za_blt hl))⟩, q2⟩, h4, h5, h6⟩)
    · rename_i n d ups ho
      obtain ⟨hl, h⟩ := za_bif h
      obtain ⟨ws, z, e1, e2, e3, e4, e5, e6⟩ := za_obj h5 ha ho
      obtain ⟨f, rfl, e7⟩ := za_gO_l e6
      exact rule (k := 3) rfl e3 e5 (zs_go h hk ads H locs ls (_ :: stk2) ⟨h1, h2, ⟨⟨_, rfl, za_n_ok _ (za_n_len (za_blt hl))⟩, q2⟩, h4, h5, h6⟩)
    · cases h
  · cases h
end ZH
end
