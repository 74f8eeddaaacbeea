/-! ===== one instruction over values known in part; a method's run; a call ===== -/
abbrev za_N : Type := Option (List za_S × List za_X)
/-- heap, ranges, cells, slots -/
abbrev za_T : Type := List za_O × za_R × Nat × Nat
abbrev za_LV : Type := List (Nat × za_V)
def za_go (lv : za_LV) (t : za_T) (pc : Nat) (st : List za_V) : za_N := some ([(pc, lv, st, t)], [])
def za_load (k i : Nat) (sel : za_V → Bool) (pc : Nat) (lv : za_LV) (st : List za_V) (t : za_T) : za_N := match za_get lv i with
  | some v => bif sel v then za_go lv t (pc + k) (v :: st) else none
  | none => none
def za_isI (v : za_V) : Bool := match v with
  | .inl _ => true
  | _ => false
def za_isL (v : za_V) : Bool := match v with
  | .inr (.inl _) => true
  | _ => false
def za_isR (v : za_V) : Bool := match v with
  | .inr (.inr (some _)) => true
  | _ => false
def za_stor1 (k i nL : Nat) (sel : za_V → Bool) (pc : Nat) (lv : za_LV) (st : List za_V) (t : za_T) : za_N := match st with
  | v :: rest => bif Nat.blt i nL then bif sel v then za_go (za_st1 lv i v) t (pc + k) rest else none else none
  | _ => none
def za_stor2 (k i nL : Nat) (pc : Nat) (lv : za_LV) (st : List za_V) (t : za_T) : za_N := match st with
  | .inr (.inl o) :: rest => bif Nat.blt (i + 1) nL then za_go (za_st2 lv i (.inr (.inl o))) t (pc + k) rest else none
  | _ => none
def za_iinc (i nL : Nat) (d : Int) (pc : Nat) (lv : za_LV) (st : List za_V) (t : za_T) : za_N := match za_get lv i with
  | some (.inl v) => bif Nat.blt i nL then bif za_in d d then za_go (za_st1 lv i (.inl (za_add t.2.1 v (za_n d)))) t (pc + 3) st else none else none
  | _ => none
def za_cst (k : Int) (n : Nat) (pc : Nat) (lv : za_LV) (st : List za_V) (t : za_T) : za_N := bif za_ile (-128) k then bif za_ile k 127 then za_go lv t (pc + n) (.inl (za_n k) :: st) else none else none
def za_binI (f : za_R → za_I → za_I → za_I) (pc : Nat) (lv : za_LV) (st : List za_V) (t : za_T) : za_N := match st with
  | .inl b :: .inl a :: rest => za_go lv t (pc + 1) (.inl (f t.2.1 a b) :: rest)
  | _ => none
def za_divI (f : Int32 → Int32 → Int32) (pc : Nat) (lv : za_LV) (st : List za_V) (t : za_T) : za_N := match st with
  | .inl b :: .inl a :: rest => match za_k t.2.1 b with
    | some d => bif za_ieq d 0 then none else za_go lv t (pc + 1) (.inl (za_b2 f t.2.1 a b) :: rest)
    | none => none
  | _ => none
def za_unI (f : Int32 → Int32) (pc : Nat) (lv : za_LV) (st : List za_V) (t : za_T) : za_N := match st with
  | .inl a :: rest => za_go lv t (pc + 1) (.inl (za_u1 f t.2.1 a) :: rest)
  | _ => none
def za_binL (f : Int64 → Int64 → Int64) (pc : Nat) (lv : za_LV) (st : List za_V) (t : za_T) : za_N := match st with
  | .inr (.inl b) :: .inr (.inl a) :: rest => za_go lv t (pc + 1) (.inr (.inl (za_l2 f a b)) :: rest)
  | _ => none
def za_shL (f : Int64 → Int32 → Int64) (z : Bool) (pc : Nat) (lv : za_LV) (st : List za_V) (t : za_T) : za_N := match st with
  | .inl b :: .inr (.inl a) :: rest => za_go lv t (pc + 1) (.inr (.inl (za_ls f z t.2.1 a b)) :: rest)
  | _ => none
def za_i2l (pc : Nat) (lv : za_LV) (st : List za_V) (t : za_T) : za_N := match st with
  | .inl a :: rest => za_go lv t (pc + 1) (.inr (.inl ((za_k t.2.1 a).map (fun c => (Int32.ofInt c).toInt64))) :: rest)
  | _ => none
def za_l2iv (o : Option Int64) : za_I := match o with
  | some c => za_c c.toInt32
  | none => za_top
def za_l2i (pc : Nat) (lv : za_LV) (st : List za_V) (t : za_T) : za_N := match st with
  | .inr (.inl a) :: rest => za_go lv t (pc + 1) (.inl (za_l2iv a) :: rest)
  | _ => none
def za_cmpv (a b : Option Int64) : za_I := match a, b with
  | some c, some d => za_c (lg_cmp c d)
  | _, _ => za_top
def za_lcmp (pc : Nat) (lv : za_LV) (st : List za_V) (t : za_T) : za_N := match st with
  | .inr (.inl b) :: .inr (.inl a) :: rest => za_go lv t (pc + 1) (.inl (za_cmpv a b) :: rest)
  | _ => none
def za_dup (pc : Nat) (lv : za_LV) (st : List za_V) (t : za_T) : za_N := match st with
  | v :: rest => bif Nat.beq (za_cat v) 1 then za_go lv t (pc + 1) (v :: v :: rest) else none
  | _ => none
def za_pop (pc : Nat) (lv : za_LV) (st : List za_V) (t : za_T) : za_N := match st with
  | v :: rest => bif Nat.beq (za_cat v) 1 then za_go lv t (pc + 1) rest else none
  | _ => none
def za_dup2 (pc : Nat) (lv : za_LV) (st : List za_V) (t : za_T) : za_N := match st with
  | v :: w :: rest => bif Nat.beq (za_cat v) 1 then bif Nat.beq (za_cat w) 1 then za_go lv t (pc + 1) (v :: w :: v :: w :: rest) else none else none
  | _ => none
/-- where a branch leads -/
def za_tg (pc : Nat) (off : Int) : Option Nat := match (pc : Int) + off with
  | .ofNat n => some n
  | .negSucc _ => none
def za_one (lv : za_LV) (t : za_T) (pc : Nat) (st : List za_V) (o : Option za_R) : List za_S := match o with
  | some ρ => [(pc, lv, st, t.1, ρ, t.2.2)]
  | none => []
def za_two (off : Int) (yes no : Option za_R) (pc : Nat) (lv : za_LV) (st : List za_V) (t : za_T) : za_N := match za_tg pc off with
  | some g => some (za_one lv t g st yes ++ za_one lv t (pc + 3) st no, [])
  | none => none
def za_if1 (off : Int) (y no : za_R → za_I → za_I → Option za_R) (pc : Nat) (lv : za_LV) (st : List za_V) (t : za_T) : za_N := match st with
  | .inl a :: rest => za_two off (y t.2.1 a (za_n 0)) (no t.2.1 a (za_n 0)) pc lv rest t
  | _ => none
def za_if2 (off : Int) (y no : za_R → za_I → za_I → Option za_R) (pc : Nat) (lv : za_LV) (st : List za_V) (t : za_T) : za_N := match st with
  | .inl b :: .inl a :: rest => za_two off (y t.2.1 a b) (no t.2.1 a b) pc lv rest t
  | _ => none
def za_goto (off : Int) (pc : Nat) (lv : za_LV) (st : List za_V) (t : za_T) : za_N := match za_tg pc off with
  | some g => za_go lv t g st
  | none => none
/-- the branches of a table: v, v + 1, .. by its offsets -/
def za_tab (pc : Nat) (lv : za_LV) (st : List za_V) (t : za_T) (a : za_I) (r1 r2 : Int) : Int → List Int → Option (List za_S)
  | _, [] => some []
  | v, off :: offs => match za_tab pc lv st t a r1 r2 (v + 1) offs with
    | none => none
    | some l => bif za_ile r1 v then bif za_ile v r2 then match za_tg pc off with
      | some g => some ((g, lv, st, t.1, za_cut t.2.1 a v v, t.2.2) :: l)
      | none => none
      else some l else some l
def za_tsw (dflt lo hi : Int) (offs : Array Int) (pc : Nat) (lv : za_LV) (st : List za_V) (t : za_T) : za_N := match st with
  | .inl a :: rest => match za_rg t.2.1 a with
    | (r1, r2) => match za_tg pc dflt, za_tab pc lv rest t a r1 r2 lo offs.toList with
      | some g, some l => bif za_ieq (lo + offs.toList.length) (hi + 1) then some ((bif za_ile lo r1 then [] else [(g, lv, rest, t.1, za_cut t.2.1 a r1 (lo - 1), t.2.2)]) ++ ((bif za_ile r2 hi then [] else [(g, lv, rest, t.1, za_cut t.2.1 a (hi + 1) r2, t.2.2)]) ++ l), []) else none
      | _, _ => none
  | _ => none
def za_lsw (dflt : Int) (ps : Array (Int × Int)) (pc : Nat) (lv : za_LV) (st : List za_V) (t : za_T) : za_N := match st with
  | .inl a :: rest => match za_k t.2.1 a with
    | some c => match za_tg pc (Op.lookupswitch.offset ps.toList dflt c) with
      | some g => bif (ps.toList.zip (ps.toList.drop 1)).all (fun (a, next) => a.1 < next.1) then za_go lv t g rest else none
      | none => none
    | none => none
  | _ => none
/-! the heap -/
def za_fit (ρ : za_R) (ty : FieldType) (v : za_V) : Bool := match ty, v with
  | .int, .inl _ => true
  | .boolean, .inl i => match za_rg ρ i with
    | (a, b) => bif za_ile 0 a then za_ile b 1 else false
  | .long, .inr (.inl _) => true
  | .object _, .inr (.inr _) => true
  | .array _, .inr (.inr _) => true
  | _, _ => false
def za_getf (r : Option za_row) (pc : Nat) (lv : za_LV) (st : List za_V) (t : za_T) : za_N := match r, st with
  | some (0, ci, k, _), .inr (.inr (some (q + 1))) :: rest => match t.1[q]? with
    | some (.inl (cj, fs)) => match fs[k]? with
      | some v => bif Nat.beq cj ci then za_go lv t (pc + 3) (v :: rest) else none
      | none => none
    | _ => none
  | _, _ => none
/-- is it a final field? (the value of a field's entry: 1 for a final one) -/
def za_putf (r : Option za_row) (own : Nat) (ini : Bool) (pc : Nat) (lv : za_LV) (st : List za_V) (t : za_T) : za_N := match r, st with
  | some (0, ci, k, fin), v :: .inr (.inr (some (q + 1))) :: rest => match t.1[q]? with
    | some (.inl (cj, fs)) => bif Nat.beq cj ci then bif Nat.blt k fs.length then bif za_fit t.2.1 (za_tyX ci k) v then
        bif za_ieq fin 0 then za_go lv (t.1.set q (.inl (ci, fs.set k v)), t.2) (pc + 3) rest
        else bif ini then bif Nat.beq ci own then za_go lv (t.1.set q (.inl (ci, fs.set k v)), t.2) (pc + 3) rest else none else none
      else none else none else none
    | _ => none
  | _, _ => none
def za_ild (bt : Bool) (L : Nat) (pc : Nat) (lv : za_LV) (st : List za_V) (t : za_T) : za_N := match st with
  | .inl i :: .inr (.inr (some 0)) :: rest => match za_k t.2.1 i with
    | some (.ofNat c) => bif bt then none else bif Nat.blt c L then za_go lv t (pc + 1) (.inl (c + 1, 0, 0) :: rest) else none
    | _ => none
  | .inl i :: .inr (.inr (some (q + 1))) :: rest => match t.1[q]? with
    | some (.inr (.inl (ty, m, d, ups))) => bif Bool.xor bt (Nat.beq ty 0) then match za_rg t.2.1 i with
      | (.ofNat a, .ofNat b) => bif Nat.ble a b then bif Nat.blt b m then za_go lv t (pc + 1) (.inl (za_rd t.2.1 d ups a (b - a)) :: rest) else none else none
      | _ => none
      else none
    | _ => none
  | _ => none
def za_nar (ρ : za_R) (ty : Nat) (v : za_I) : za_I := match ty with
  | 0 => v
  | 1 => za_u1 (vp_nar .byte) ρ v
  | _ => za_u1 (vp_nar .boolean) ρ v
def za_ist (bt : Bool) (pc : Nat) (lv : za_LV) (st : List za_V) (t : za_T) : za_N := match st with
  | .inl v :: .inl i :: .inr (.inr (some (q + 1))) :: rest => match t.1[q]?, za_k t.2.1 i with
    | some (.inr (.inl (ty, m, d, ups))), some (.ofNat c) => bif Bool.xor bt (Nat.beq ty 0) then bif Nat.blt c m then za_go lv (t.1.set q (.inr (.inl (ty, m, d, za_wr d ups c (za_nar t.2.1 ty v)))), t.2) (pc + 1) rest else none else none
    | _, _ => none
  | _ => none
def za_lld (pc : Nat) (lv : za_LV) (st : List za_V) (t : za_T) : za_N := match st with
  | .inl i :: .inr (.inr (some (q + 1))) :: rest => match t.1[q]?, za_k t.2.1 i with
    | some (.inr (.inr (m, d, ups))), some (.ofNat c) => bif Nat.blt c m then za_go lv t (pc + 1) (.inr (.inl (za_at d ups c)) :: rest) else none
    | _, _ => none
  | _ => none
def za_lst (pc : Nat) (lv : za_LV) (st : List za_V) (t : za_T) : za_N := match st with
  | .inr (.inl v) :: .inl i :: .inr (.inr (some (q + 1))) :: rest => match t.1[q]?, za_k t.2.1 i with
    | some (.inr (.inr (m, d, ups))), some (.ofNat c) => bif Nat.blt c m then za_go lv (t.1.set q (.inr (.inr (m, d, za_wr d ups c v))), t.2) (pc + 1) rest else none
    | _, _ => none
  | _ => none
def za_alen (L : Nat) (pc : Nat) (lv : za_LV) (st : List za_V) (t : za_T) : za_N := match st with
  | .inr (.inr (some 0)) :: rest => bif Nat.blt L 100000 then za_go lv t (pc + 1) (.inl (za_n L) :: rest) else none
  | .inr (.inr (some (q + 1))) :: rest => match t.1[q]? with
    | some (.inr (.inl (_, m, _, _))) => bif Nat.blt m 100000 then za_go lv t (pc + 1) (.inl (za_n m) :: rest) else none
    | some (.inr (.inr (m, _, _))) => bif Nat.blt m 100000 then za_go lv t (pc + 1) (.inl (za_n m) :: rest) else none
    | _ => none
  | _ => none
def za_df (ty : FieldType) : za_V := match ty with
  | .int => .inl (0, 0, 0)
  | .boolean => .inl (0, 0, 0)
  | .long => .inr (.inl (some 0))
  | _ => .inr (.inr none)
/-- the fields of a new object -/
def za_fs (ci : Nat) : Nat → List za_V
  | 0 => []
  | k + 1 => za_fs ci k ++ [za_df (za_tyX ci k)]
def za_newo (mc ms : Nat) (r : Option za_row) (pc : Nat) (lv : za_LV) (st : List za_V) (t : za_T) : za_N := match r with
  | some (5, ci, _, _) => bif Nat.blt t.2.2.1 mc then bif Nat.ble (t.2.2.2 + za_nX ci) ms then za_go lv (t.1 ++ [.inl (ci, za_fs ci (za_nX ci))], t.2.1, t.2.2.1 + 1, t.2.2.2 + za_nX ci) (pc + 3) (.inr (.inr (some (t.1.length + 1))) :: st) else none else none
  | _ => none
def za_newa (mc ms : Nat) (ty : ArrayType) (pc : Nat) (lv : za_LV) (st : List za_V) (t : za_T) : za_N := match st with
  | .inl i :: rest => match za_k t.2.1 i with
    | some (.ofNat c) => bif Nat.ble c 100000 then bif Nat.blt t.2.2.1 mc then bif Nat.ble (t.2.2.2 + c) ms then match ty with
      | .int => za_go lv (t.1 ++ [.inr (.inl (0, c, (0, 0, 0), []))], t.2.1, t.2.2.1 + 1, t.2.2.2 + c) (pc + 2) (.inr (.inr (some (t.1.length + 1))) :: rest)
      | .byte => za_go lv (t.1 ++ [.inr (.inl (1, c, (0, 0, 0), []))], t.2.1, t.2.2.1 + 1, t.2.2.2 + c) (pc + 2) (.inr (.inr (some (t.1.length + 1))) :: rest)
      | .boolean => za_go lv (t.1 ++ [.inr (.inl (2, c, (0, 0, 0), []))], t.2.1, t.2.2.1 + 1, t.2.2.2 + c) (pc + 2) (.inr (.inr (some (t.1.length + 1))) :: rest)
      | .long => za_go lv (t.1 ++ [.inr (.inr (c, some 0, []))], t.2.1, t.2.2.1 + 1, t.2.2.2 + c) (pc + 2) (.inr (.inr (some (t.1.length + 1))) :: rest)
      | _ => none
      else none else none else none
    | _ => none
  | _ => none
/-! ends -/
def za_iret (mc ms : Nat) (rt : Option FieldType) (st : List za_V) (t : za_T) : za_N := match rt, st with
  | some .int, [.inl a] => bif Nat.ble t.2.2.1 mc then bif Nat.ble t.2.2.2 ms then some ([], [(.inl (some (.inl a)), t.1, t.2.1)]) else none else none
  | some .boolean, [.inl a] => bif Nat.ble t.2.2.1 mc then bif Nat.ble t.2.2.2 ms then bif za_fit t.2.1 .boolean (.inl a) then some ([], [(.inl (some (.inl a)), t.1, t.2.1)]) else none else none else none
  | _, _ => none
def za_lret (mc ms : Nat) (rt : Option FieldType) (st : List za_V) (t : za_T) : za_N := match rt, st with
  | some .long, [.inr (.inl a)] => bif Nat.ble t.2.2.1 mc then bif Nat.ble t.2.2.2 ms then some ([], [(.inl (some (.inr (.inl a))), t.1, t.2.1)]) else none else none
  | _, _ => none
def za_vret (mc ms : Nat) (rt : Option FieldType) (st : List za_V) (t : za_T) : za_N := match rt, st with
  | none, [] => bif Nat.ble t.2.2.1 mc then bif Nat.ble t.2.2.2 ms then some ([], [(.inl none, t.1, t.2.1)]) else none else none
  | _, _ => none
def za_wt : List za_V → Nat
  | [] => 0
  | v :: l => za_cat v + za_wt l
/-- throw new E(text): new, dup, ldc, invokespecial, athrow -/
def za_thr (mc ms : Nat) (tab : List (Nat × Instr)) (cp : Nat → Option za_row) (ex : Nat) (pc : Nat) (st : List za_V) (t : za_T) : za_N := match za_fe tab (pc + 3), za_fe tab (pc + 4) with
  | some .dup, some (.ldc is) => match za_fe tab (pc + 6), za_fe tab (pc + 9) with
    | some (.invokespecial ic), some .athrow => match cp is, cp ic with
      | some (10, _, _, _), some (15, ex', _, _) => bif Nat.beq ex' ex then bif Nat.ble (za_wt st) 8 then bif Nat.blt t.2.2.1 mc then bif Nat.ble (t.2.2.2 + 6) ms then some ([], [(.inr ex, t.1, t.2.1)]) else none else none else none else none
      | _, _ => none
    | _, _ => none
  | some .dup, some (.ldc_w is) => match za_fe tab (pc + 7), za_fe tab (pc + 10) with
    | some (.invokespecial ic), some .athrow => match cp is, cp ic with
      | some (10, _, _, _), some (15, ex', _, _) => bif Nat.beq ex' ex then bif Nat.ble (za_wt st) 8 then bif Nat.blt t.2.2.1 mc then bif Nat.ble (t.2.2.2 + 6) ms then some ([], [(.inr ex, t.1, t.2.1)]) else none else none else none else none
      | _, _ => none
    | _, _ => none
  | _, _ => none
/-! calls -/
/-- the row of a table that takes the exception: 'none' an error, 'some none' it leaves -/
def za_hnd (cp : Nat → Option za_row) (pc ex : Nat) : List (Nat × Nat × Nat × Nat) → Option (Option Nat)
  | [] => some none
  | (a, b, hp, ct) :: l => bif Nat.ble a pc then bif Nat.blt pc b then match cp ct with
    | some (6, ex', _, _) => bif Nat.beq ct 0 then none else bif Nat.beq ex' ex then some (some hp) else match za_hnd cp pc ex l with
      | some (some hp') => some (some hp')
      | _ => none
    | _ => none
    else za_hnd cp pc ex l else za_hnd cp pc ex l
def za_aft (M : za_MI) (cp : Nat → Option za_row) (pc : Nat) (lv : za_LV) (rest : List za_V) (cs sl : Nat) (x : za_X) : za_N := match x with
  | (.inl (some v), h, ρ) => some ([(pc + 3, lv, v :: rest, h, ρ, cs, sl)], [])
  | (.inl none, h, ρ) => some ([(pc + 3, lv, rest, h, ρ, cs, sl)], [])
  | (.inr ex, h, ρ) => match za_hnd cp pc ex (za_hh M) with
    | none => none
    | some none => some ([], [(.inr ex, h, ρ)])
    | some (some hp) => match za_fe (za_is M) hp with
      | some (.astore_n k) => bif Nat.blt k.val (za_nL M) then some ([(hp + 1, lv.filter (fun q => !(q.1 == k.val) && !(q.1 + 1 == k.val && za_cat q.2 == 2)), [], h, ρ, cs, sl)], []) else none
      | some (.astore k) => bif Nat.blt k (za_nL M) then some ([(hp + 2, lv.filter (fun q => !(q.1 == k) && !(q.1 + 1 == k && za_cat q.2 == 2)), [], h, ρ, cs, sl)], []) else none
      | _ => none
def za_cat2 (f : za_X → za_N) : List za_X → za_N
  | [] => some ([], [])
  | x :: l => match f x, za_cat2 f l with
    | some a, some b => some (a.1 ++ b.1, a.2 ++ b.2)
    | _, _ => none
abbrev za_CF : Type := Nat → List za_V → List za_O → za_R → Option (List za_X)
/-- the call of method j with so many values of the stack -/
def za_nox (xs : List za_X) : Bool := match xs with
  | [] => true
  | (.inl _, _) :: l => za_nox l
  | (.inr _, _) :: _ => false
def za_inv (nx : Bool) (M : za_MI) (cp : Nat → Option za_row) (Y : za_MI) (call : za_CF) (j k : Nat) (pc : Nat) (lv : za_LV) (st : List za_V) (t : za_T) : za_N :=
  bif Nat.ble k st.length then bif Nat.ble (za_wt (st.drop k)) 8 then bif Nat.ble (t.2.2.1 + za_mc Y) (za_mc M) then bif Nat.ble (t.2.2.2 + za_ms Y) (za_ms M) then match call j (st.take k).reverse t.1 t.2.1 with
    | none => none
    | some xs => bif Bool.or (Bool.not nx) (za_nox xs) then za_cat2 (za_aft M cp pc lv (st.drop k) (t.2.2.1 + za_mc Y) (t.2.2.2 + za_ms Y)) xs else none
    else none else none else none else none
/-- the receiver is an object of this kind -/
def za_isRk (st : List za_V) (k : Nat) (h : List za_O) (own : Nat) : Bool := match st[k]? with
  | some (.inr (.inr (some (q + 1)))) => match h[q]? with
    | some (.inl (ci, _)) => Nat.beq ci own
    | _ => false
  | _ => false
def za_isRf (st : List za_V) (k : Nat) : Bool := match st[k]? with
  | some (.inr (.inr (some (_ + 1)))) => true
  | _ => false
/-- the copy of n numbers -/
def za_cpy {α : Type} [DecidableEq α] (d : α) (ups : List (Nat × α)) (d' : α) (ups' : List (Nat × α)) (sp dp : Nat) : Nat → List (Nat × α)
  | 0 => ups'
  | n + 1 => za_wr d' (za_cpy d ups d' ups' sp dp n) (dp + n) (za_at d ups (sp + n))
def za_acp (pc : Nat) (lv : za_LV) (st : List za_V) (t : za_T) : za_N := match st with
  | .inl cn :: .inl dp :: .inr (.inr (some (q1 + 1))) :: .inl sp :: .inr (.inr (some (q0 + 1))) :: rest => match t.1[q0]?, t.1[q1]?, za_k t.2.1 cn, za_k t.2.1 dp, za_k t.2.1 sp with
    | some (.inr (.inl (0, n0, d0, u0))), some (.inr (.inl (0, n1, d1, u1))), some (.ofNat c), some (.ofNat d), some (.ofNat s) => bif Nat.ble (s + c) n0 then bif Nat.ble (d + c) n1 then bif Nat.ble (za_wt rest) 8 then
        za_go lv (t.1.set q1 (.inr (.inl (0, n1, d1, za_cpy d0 u0 d1 u1 s d c))), t.2) (pc + 3) rest else none else none else none
    | _, _, _, _, _ => none
  | _ => none
def za_virt (M : za_MI) (cp : Nat → Option za_row) (MT : Nat → Option za_MI) (call : za_CF) (r : Option za_row) (pc : Nat) (lv : za_LV) (st : List za_V) (t : za_T) : za_N := match r with
  | some (1, j, k, _) => match MT j with
    | some Y => bif za_isRk st k t.1 (za_cl Y) then za_inv false M cp Y call j (k + 1) pc lv st t else none
    | none => none
  | some (11, j, k, _) => match MT j with
    | some Y => bif za_isRk st k t.1 (za_cl Y) then za_inv true M cp Y call j (k + 1) pc lv st t else none
    | none => none
  | _ => none
def za_stat (M : za_MI) (cp : Nat → Option za_row) (MT : Nat → Option za_MI) (call : za_CF) (r : Option za_row) (pc : Nat) (lv : za_LV) (st : List za_V) (t : za_T) : za_N := match r with
  | some (2, j, k, _) => match MT j with
    | some Y => za_inv false M cp Y call j k pc lv st t
    | none => none
  | some (12, j, k, _) => match MT j with
    | some Y => za_inv true M cp Y call j k pc lv st t
    | none => none
  | some (14, _, _, _) => za_acp pc lv st t
  | _ => none
def za_spec (M : za_MI) (cp : Nat → Option za_row) (MT : Nat → Option za_MI) (call : za_CF) (r : Option za_row) (pc : Nat) (lv : za_LV) (st : List za_V) (t : za_T) : za_N := match r with
  | some (3, j, k, _) => match MT j with
    | some Y => bif za_isRf st k then za_inv true M cp Y call j (k + 1) pc lv st t else none
    | none => none
  | some (13, j, k, _) => match MT j with
    | some Y => bif za_isRf st k then za_inv true M cp Y call j (k + 1) pc lv st t else none
    | none => none
  | some (4, _, _, _) => match st with
    | .inr (.inr (some (_ + 1))) :: rest => bif Nat.ble (za_wt rest) 8 then za_go lv t (pc + 3) rest else none
    | _ => none
  | _ => none
def za_new (M : za_MI) (cp : Nat → Option za_row) (r : Option za_row) (pc : Nat) (lv : za_LV) (st : List za_V) (t : za_T) : za_N := match r with
  | some (6, ex, _, _) => match za_hh M with
    | [] => za_thr (za_mc M) (za_ms M) (za_is M) cp ex pc st t
    | _ => none
  | r => za_newo (za_mc M) (za_ms M) r pc lv st t
def za_ldc (k : Nat) (r : Option za_row) (pc : Nat) (lv : za_LV) (st : List za_V) (t : za_T) : za_N := match r with
  | some (7, _, _, v) => za_go lv t (pc + k) (.inl (za_c (Int32.ofInt v)) :: st)
  | _ => none
def za_ldc2 (r : Option za_row) (pc : Nat) (lv : za_LV) (st : List za_V) (t : za_T) : za_N := match r with
  | some (8, _, _, v) => za_go lv t (pc + 3) (.inr (.inl (some (Int64.ofInt v))) :: st)
  | _ => none
def za_shr0 (x : Int64) (y : Int32) : Int64 := x >>> (y.toInt64 &&& 63)
def za_ushr0 (x : Int64) (y : Int32) : Int64 := (x.toUInt64 >>> (y.toInt64.toUInt64 &&& Int64.toUInt64 63)).toInt64
def za_shl0 (x : Int64) (y : Int32) : Int64 := x <<< (y.toInt64 &&& 63)
def za_ini (M : za_MI) : Bool := decide (M.1.name = "<init>")
def za_ins (L : Nat) (M : za_MI) (cp : Nat → Option za_row) (MT : Nat → Option za_MI) (call : za_CF) (i : Instr) (pc : Nat) (lv : za_LV) (st : List za_V) (t : za_T) : za_N := match i with
  | .iconst k => za_cst k 1 pc lv st t
  | .bipush k => za_cst k 2 pc lv st t
  | .sipush k => za_go lv t (pc + 3) (.inl (za_c (Int16.ofInt k).toInt32) :: st)
  | .lconst k => za_go lv t (pc + 1) (.inr (.inl (some (Int64.ofNat k))) :: st)
  | .ldc k => za_ldc 2 (cp k) pc lv st t
  | .ldc_w k => za_ldc 3 (cp k) pc lv st t
  | .ldc2_w k => za_ldc2 (cp k) pc lv st t
  | .iload k => za_load 2 k za_isI pc lv st t
  | .iload_n k => za_load 1 k za_isI pc lv st t
  | .lload k => za_load 2 k za_isL pc lv st t
  | .lload_n k => za_load 1 k za_isL pc lv st t
  | .aload k => za_load 2 k za_isR pc lv st t
  | .aload_n k => za_load 1 k za_isR pc lv st t
  | .istore k => za_stor1 2 k (za_nL M) za_isI pc lv st t
  | .istore_n k => za_stor1 1 k (za_nL M) za_isI pc lv st t
  | .astore k => za_stor1 2 k (za_nL M) za_isR pc lv st t
  | .astore_n k => za_stor1 1 k (za_nL M) za_isR pc lv st t
  | .lstore k => za_stor2 2 k (za_nL M) pc lv st t
  | .lstore_n k => za_stor2 1 k (za_nL M) pc lv st t
  | .iinc k d => za_iinc k (za_nL M) d pc lv st t
  | .iadd => za_binI za_add pc lv st t
  | .isub => za_binI za_sub pc lv st t
  | .imul => za_binI (za_b2 (· * ·)) pc lv st t
  | .iand => za_binI za_and pc lv st t
  | .ior => za_binI (za_b2 (· ||| ·)) pc lv st t
  | .ixor => za_binI (za_b2 (· ^^^ ·)) pc lv st t
  | .ishl => za_binI (za_b2 (fun x y => x <<< (y &&& 31))) pc lv st t
  | .ishr => za_binI (za_b2 (fun x y => x >>> (y &&& 31))) pc lv st t
  | .iushr => za_binI (za_b2 (fun x y => (x.toUInt32 >>> (y.toUInt32 &&& Int32.toUInt32 31)).toInt32)) pc lv st t
  | .idiv => za_divI (· / ·) pc lv st t
  | .irem => za_divI (fun x y => x - x / y * y) pc lv st t
  | .i2b => za_unI (fun x => x.toInt8.toInt32) pc lv st t
  | .ladd => za_binL (· + ·) pc lv st t
  | .lsub => za_binL (· - ·) pc lv st t
  | .lmul => za_binL (· * ·) pc lv st t
  | .land => za_binL (· &&& ·) pc lv st t
  | .lor => za_binL (· ||| ·) pc lv st t
  | .lxor => za_binL (· ^^^ ·) pc lv st t
  | .lshl => za_shL za_shl0 false pc lv st t
  | .lshr => za_shL za_shr0 true pc lv st t
  | .lushr => za_shL za_ushr0 true pc lv st t
  | .i2l => za_i2l pc lv st t
  | .l2i => za_l2i pc lv st t
  | .lcmp => za_lcmp pc lv st t
  | .dup => za_dup pc lv st t
  | .pop => za_pop pc lv st t
  | .dup2 => za_dup2 pc lv st t
  | .ifCond .eq o => za_if1 o za_eq za_ne pc lv st t
  | .ifCond .ne o => za_if1 o za_ne za_eq pc lv st t
  | .ifCond .lt o => za_if1 o za_lt (fun ρ a b => za_le ρ b a) pc lv st t
  | .ifCond .ge o => za_if1 o (fun ρ a b => za_le ρ b a) za_lt pc lv st t
  | .ifCond .gt o => za_if1 o (fun ρ a b => za_lt ρ b a) za_le pc lv st t
  | .ifCond .le o => za_if1 o za_le (fun ρ a b => za_lt ρ b a) pc lv st t
  | .if_icmp .eq o => za_if2 o za_eq za_ne pc lv st t
  | .if_icmp .ne o => za_if2 o za_ne za_eq pc lv st t
  | .if_icmp .lt o => za_if2 o za_lt (fun ρ a b => za_le ρ b a) pc lv st t
  | .if_icmp .ge o => za_if2 o (fun ρ a b => za_le ρ b a) za_lt pc lv st t
  | .if_icmp .gt o => za_if2 o (fun ρ a b => za_lt ρ b a) za_le pc lv st t
  | .if_icmp .le o => za_if2 o za_le (fun ρ a b => za_lt ρ b a) pc lv st t
  | .goto o => za_goto o pc lv st t
  | .tableswitch d lo hi os => za_tsw d lo hi os pc lv st t
  | .lookupswitch d ps => za_lsw d ps pc lv st t
  | .getfield k => za_getf (cp k) pc lv st t
  | .putfield k => za_putf (cp k) (za_cl M) (za_ini M) pc lv st t
  | .iaload => za_ild false L pc lv st t
  | .baload => za_ild true L pc lv st t
  | .iastore => za_ist false pc lv st t
  | .bastore => za_ist true pc lv st t
  | .laload => za_lld pc lv st t
  | .lastore => za_lst pc lv st t
  | .arraylength => za_alen L pc lv st t
  | .new k => za_new M cp (cp k) pc lv st t
  | .newarray ty => za_newa (za_mc M) (za_ms M) ty pc lv st t
  | .ireturn => za_iret (za_mc M) (za_ms M) (za_rt M) st t
  | .lreturn => za_lret (za_mc M) (za_ms M) (za_rt M) st t
  | .return_ => za_vret (za_mc M) (za_ms M) (za_rt M) st t
  | .invokevirtual k => za_virt M cp MT call (cp k) pc lv st t
  | .invokestatic k => za_stat M cp MT call (cp k) pc lv st t
  | .invokespecial k => za_spec M cp MT call (cp k) pc lv st t
  | _ => none
def za_step (L : Nat) (M : za_MI) (cp : Nat → Option za_row) (MT : Nat → Option za_MI) (call : za_CF) (S : za_S) : za_N := match S with
  | (pc, lv, st, t) => match za_fe (za_is M) pc with
    | some i => za_ins L M cp MT call i pc lv st t
    | none => none
def za_run (step : za_S → za_N) : Nat → List za_S → List za_X → Option (List za_X)
  | 0, _, _ => none
  | _ + 1, [], acc => some acc
  | n + 1, S :: wk, acc => match step S with
    | none => none
    | some (ss, xs) => za_run step n (ss ++ wk) (xs ++ acc)
def za_args : Nat → List za_V → List (Nat × za_V)
  | _, [] => []
  | i, v :: vs => (i, v) :: za_args (if za_cat v = 2 then i + 2 else i + 1) vs
def za_call (L fuel : Nat) (CP : Nat → Nat → Option za_row) (MT : Nat → Option za_MI) : Nat → za_CF
  | 0, _, _, _, _ => none
  | d + 1, j, as, h, ρ => match MT j with
    | none => none
    | some M => bif Nat.ble (za_wt as) (za_nL M) then za_run (za_step L M (CP (za_cl M)) MT (za_call L fuel CP MT d)) fuel [(0, za_args 0 as, [], h, ρ, 0, 0)] [] else none
