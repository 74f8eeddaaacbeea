/-! ===== every instruction; the run ===== -/
theorem za_by8 {k : Int} (h1 : -128 ≤ k) (h2 : k ≤ 127) : (Int8.ofInt k).toInt32 = Int32.ofInt k := by
  apply Int32.toInt_inj.mp
  rw [Int8.toInt_toInt32, Int8.toInt_ofInt, Int32.toInt_ofInt]
  have e1 : k.bmod Int8.size = k := by
    show k.bmod 256 = k
    rw [Int.bmod_def]; split <;> omega
  have e2 : k.bmod Int32.size = k := by
    show k.bmod 4294967296 = k
    rw [Int.bmod_def]; split <;> omega
  rw [e1, e2]
theorem za_lnot {x y : Int32} (h : ¬ x < y) : y ≤ x := Int32.not_lt.mp h
theorem za_lnot' {x y : Int32} (h : ¬ x ≤ y) : y < x := Int32.not_le.mp h
theorem za_shr0_0 (y : Int32) : za_shr0 0 y = 0 := by
  unfold za_shr0
  simp
theorem za_ushr0_0 (y : Int32) : za_ushr0 0 y = 0 := by
  unfold za_ushr0
  rw [show (0 : Int64).toUInt64 = 0 from rfl, UInt64.zero_shiftRight]
  rfl
section ZN
variable {p : Program} {l : Launch} {e : Env} {R : Room} {s s0 : State} {m : MethodId} {args : Array Value} {below : List Frame} {meth : Method} {c : Code} {E : za_E} {ads0 : List Nat} {pc L d : Nat} {M : za_MI} {call : za_CF} {outs : List za_X} {lv : za_LV} {st : List za_V} {t : za_T} {Z : List za_S × List za_X}
theorem zg_lld (X : za_Cx p l R s m args meth c E L s0 d M) (hdg : decode M.2.1 pc = .ok (.laload, 1)) (h : za_lld pc lv st t = some Z) (hk : ∀ S ∈ Z.1, za_G p l e R s m args below meth c (vx_MQ below (za_Qc E ads0 outs) (za_XC E ads0 outs) args s (za_mc M) (za_ms M) (za_A E)) E (za_nL M) ads0 S) : za_G p l e R s m args below meth c (vx_MQ below (za_Qc E ads0 outs) (za_XC E ads0 outs) args s (za_mc M) (za_ms M) (za_A E)) E (za_nL M) ads0 (pc, lv, st, t) := by
  obtain ⟨hx, hb, hml, hr, hlocks, hnm, hown, htab, K, hW, h0, hdec, hRf, hRl, hRc, hRs⟩ := X
  have hK := zk_K K hW
  refine zs_lld ?_ h hk
  intro H locs cells slots ls rest ws q a n f j hP he hin kk
  exact va_lald (tys := za_tys E) hx hb hK hP q 3 he rfl hin hdg kk
theorem zg_lst (X : za_Cx p l R s m args meth c E L s0 d M) (hdg : decode M.2.1 pc = .ok (.lastore, 1)) (h : za_lst pc lv st t = some Z) (hk : ∀ S ∈ Z.1, za_G p l e R s m args below meth c (vx_MQ below (za_Qc E ads0 outs) (za_XC E ads0 outs) args s (za_mc M) (za_ms M) (za_A E)) E (za_nL M) ads0 S) : za_G p l e R s m args below meth c (vx_MQ below (za_Qc E ads0 outs) (za_XC E ads0 outs) args s (za_mc M) (za_ms M) (za_A E)) E (za_nL M) ads0 (pc, lv, st, t) := by
  obtain ⟨hx, hb, hml, hr, hlocks, hnm, hown, htab, K, hW, h0, hdec, hRf, hRl, hRc, hRs⟩ := X
  have hK := zk_K K hW
  refine zs_lst ?_ h hk
  intro H locs cells slots ls rest ws q a n f j x hP hD hS he hin kk
  exact va_last (tys := za_tys E) hx hb hK hP hD hS q 3 he rfl hin hdg kk
theorem zg_new {k : Nat} (X : za_Cx p l R s m args meth c E L s0 d M) (hdg : decode M.2.1 pc = .ok (.new k, 3)) (h : za_new M (za_CP (za_cl M)) (za_CP (za_cl M) k) pc lv st t = some Z) (hk : ∀ S ∈ Z.1, za_G p l e R s m args below meth c (vx_MQ below (za_Qc E ads0 outs) (za_XC E ads0 outs) args s (za_mc M) (za_ms M) (za_A E)) E (za_nL M) ads0 S) (ho : ∀ x ∈ Z.2, x ∈ outs) : za_G p l e R s m args below meth c (vx_MQ below (za_Qc E ads0 outs) (za_XC E ads0 outs) args s (za_mc M) (za_ms M) (za_A E)) E (za_nL M) ads0 (pc, lv, st, t) := by
  unfold za_new at h
  split at h
  · rename_i ex j9 z9 hrow
    split at h
    · rename_i hhe
      exact zg_thr X hhe hrow hdg h ho
    · cases h
  · exact zg_newo X hdg h hk
theorem zg_ldc {k n : Nat} (X : za_Cx p l R s m args meth c E L s0 d M) (rule : ∀ {v : Int32} {H : Heap} {locs : List Loc} {cells slots : Nat} {ls : Array Slot} {rest : List Value}, (Cond.constant (za_ow (za_cl M)) k v).before args s = true → W p l e R s m args below meth c H locs cells slots (vx_MQ below (za_Qc E ads0 outs) (za_XC E ads0 outs) args s (za_mc M) (za_ms M) (za_A E)) (F0 m (pc + n) ls (.int v :: rest)) → W p l e R s m args below meth c H locs cells slots (vx_MQ below (za_Qc E ads0 outs) (za_XC E ads0 outs) args s (za_mc M) (za_ms M) (za_A E)) (F0 m pc ls rest))
    (h : za_ldc n (za_CP (za_cl M) k) pc lv st t = some Z) (hk : ∀ S ∈ Z.1, za_G p l e R s m args below meth c (vx_MQ below (za_Qc E ads0 outs) (za_XC E ads0 outs) args s (za_mc M) (za_ms M) (za_A E)) E (za_nL M) ads0 S) : za_G p l e R s m args below meth c (vx_MQ below (za_Qc E ads0 outs) (za_XC E ads0 outs) args s (za_mc M) (za_ms M) (za_A E)) E (za_nL M) ads0 (pc, lv, st, t) := by
  obtain ⟨hx, hb, hml, hr, hlocks, hnm, hown, htab, K, hW, h0, hdec, hRf, hRl, hRc, hRs⟩ := X
  unfold za_ldc at h
  split at h
  · rename_i j9 k9 v hrow
    obtain ⟨w1, -⟩ := zc_row hrow
    exact zs_push (v := .inl (za_c (Int32.ofInt v))) (.int (Int32.ofInt v)) (fun _ => ⟨_, rfl, za_c_ok _ _⟩) (fun kk => rule (zk_w K hW _ (w1 _ (by simp [za_need]))) kk) h hk
  · cases h
theorem zg_ldc2 {k : Nat} (X : za_Cx p l R s m args meth c E L s0 d M) (hdg : decode M.2.1 pc = .ok (.ldc2_w k, 3)) (h : za_ldc2 (za_CP (za_cl M) k) pc lv st t = some Z) (hk : ∀ S ∈ Z.1, za_G p l e R s m args below meth c (vx_MQ below (za_Qc E ads0 outs) (za_XC E ads0 outs) args s (za_mc M) (za_ms M) (za_A E)) E (za_nL M) ads0 S) : za_G p l e R s m args below meth c (vx_MQ below (za_Qc E ads0 outs) (za_XC E ads0 outs) args s (za_mc M) (za_ms M) (za_A E)) E (za_nL M) ads0 (pc, lv, st, t) := by
  obtain ⟨hx, hb, hml, hr, hlocks, hnm, hown, htab, K, hW, h0, hdec, hRf, hRl, hRc, hRs⟩ := X
  unfold za_ldc2 at h
  split at h
  · rename_i j9 k9 v hrow
    obtain ⟨w1, -⟩ := zc_row hrow
    exact zs_push (v := .inr (.inl (some (Int64.ofInt v)))) (.long (Int64.ofInt v)) (fun _ => ⟨_, rfl, fun d hd => by cases hd; rfl⟩) (fun kk => lv_ldc2 hx hb hown (zk_w K hW _ (w1 _ (by simp [za_need]))) hdg kk) h hk
  · cases h
theorem zg_ins {i : Instr} (X : za_Cx p l R s m args meth c E L s0 d M) (IH : za_IH l E s0 d call) (hmm : (pc, i) ∈ za_is M) (h : za_ins L M (za_CP (za_cl M)) za_MT call i pc lv st t = some Z) (hk : ∀ S ∈ Z.1, za_G p l e R s m args below meth c (vx_MQ below (za_Qc E ads0 outs) (za_XC E ads0 outs) args s (za_mc M) (za_ms M) (za_A E)) E (za_nL M) ads0 S) (ho : ∀ x ∈ Z.2, x ∈ outs) : za_G p l e R s m args below meth c (vx_MQ below (za_Qc E ads0 outs) (za_XC E ads0 outs) args s (za_mc M) (za_ms M) (za_A E)) E (za_nL M) ads0 (pc, lv, st, t) := by
  obtain ⟨hx, hb, hml, hr, hlocks, hnm, hown, htab, K, hW, h0, hdec, hRf, hRl, hRc, hRs⟩ := id X
  obtain ⟨len, hd0, hln⟩ := za_dok_ok (q := (pc, i)) (List.all_eq_true.mp hdec _ hmm)
  have hd : za_sw i = false → decode M.2.1 pc = .ok (i, za_ln i) := fun z => by
    rcases hln with h9 | h9
    · rw [show za_sw i = true from h9] at z; cases z
    · rw [show len = za_ln i from h9] at hd0; exact hd0
  cases i with
  | iconst k =>
    exact zs_cst (fun _ _ h3 kk => lv_iconst hx hb (hd rfl) h3.symm kk) h hk
  | bipush k =>
    exact zs_cst (fun h1 h2 h3 kk => lv_bipush hx hb (hd rfl) ((za_by8 h1 h2).trans h3.symm) kk) h hk
  | sipush k =>
    exact zs_push (v := .inl (za_c (Int16.ofInt k).toInt32)) (.int _) (fun _ => ⟨_, rfl, za_c_ok _ _⟩) (fun kk => lv_sipush hx hb (hd rfl) rfl kk) h hk
  | lconst k =>
    exact zs_push (v := .inr (.inl (some (Int64.ofNat k)))) (.long _) (fun _ => ⟨_, rfl, fun d hd => by cases hd; rfl⟩) (fun kk => lv_lconst hx hb (hd rfl) rfl kk) h hk
  | ldc k =>
    exact zg_ldc X (fun hc kk => lv_ldc hx hb hown hc (hd rfl) kk) h hk
  | ldc_w k =>
    exact zg_ldc X (fun hc kk => lv_ldcw hx hb hown hc (hd rfl) kk) h hk
  | ldc2_w k =>
    exact zg_ldc2 X (hd rfl) h hk
  | iload k =>
    exact zs_loadI (fun hl kk => lv_iload hx hb (hd rfl) hl kk) h hk
  | iload_n k =>
    exact zs_loadI (fun hl kk => lv_iload_n hx hb (hd rfl) rfl hl kk) h hk
  | istore k =>
    exact zs_storI (fun h1 h2 kk => lv_istore hx hb (hd rfl) h1 h2 rfl kk) h hk
  | istore_n k =>
    exact zs_storI (fun h1 h2 kk => lv_istore_n hx hb (hd rfl) rfl h1 h2 rfl kk) h hk
  | lload k =>
    exact zs_loadL (fun hl kk => lv_lload hx hb (hd rfl) hl kk) h hk
  | lload_n k =>
    exact zs_loadL (fun hl kk => lv_lload_n hx hb (hd rfl) rfl hl kk) h hk
  | lstore k =>
    exact zs_storL (fun h1 h2 kk => lv_lstore hx hb (hd rfl) h1 h2 rfl kk) h hk
  | lstore_n k =>
    exact zs_storL (fun h1 h2 kk => lv_lstore_n hx hb (hd rfl) rfl h1 h2 rfl kk) h hk
  | aload k =>
    exact zs_loadA (fun hl kk => lv_aload hx hb (hd rfl) hl kk) h hk
  | aload_n k =>
    exact zs_loadA (fun hl kk => lv_aload_n hx hb (hd rfl) rfl hl kk) h hk
  | astore k =>
    exact zs_storA (fun h1 h2 kk => lv_astore hx hb (hd rfl) h1 h2 rfl kk) h hk
  | astore_n k =>
    exact zs_storA (fun h1 h2 kk => lv_astore_n hx hb (hd rfl) rfl h1 h2 rfl kk) h hk
  | iinc k d9 =>
    exact zs_iinc (fun h1 h2 h3 kk => lv_iinc hx hb (hd rfl) h1 h2 rfl h3 rfl kk) h hk
  | iadd =>
    exact zs_binI (· + ·) (fun h1 h2 h3 => za_add_ok h1 h2 h3) (fun kk => lv_iadd hx hb (hd rfl) kk) h hk
  | isub =>
    exact zs_binI (· - ·) (fun h1 h2 h3 => za_sub_ok h1 h2 h3) (fun kk => lv_isub hx hb (hd rfl) kk) h hk
  | iand =>
    exact zs_binI (· &&& ·) (fun h1 h2 h3 => za_and_ok h1 h2 h3) (fun kk => lv_iand hx hb (hd rfl) kk) h hk
  | imul =>
    exact zs_binI (· * ·) (fun h1 h2 h3 => za_b2_ok (· * ·) h1 h2 h3) (fun kk => lv_imul hx hb (hd rfl) kk) h hk
  | ior =>
    exact zs_binI (· ||| ·) (fun h1 h2 h3 => za_b2_ok (· ||| ·) h1 h2 h3) (fun kk => lv_ior hx hb (hd rfl) kk) h hk
  | ixor =>
    exact zs_binI (· ^^^ ·) (fun h1 h2 h3 => za_b2_ok (· ^^^ ·) h1 h2 h3) (fun kk => lv_ixor hx hb (hd rfl) kk) h hk
  | ishl =>
    exact zs_binI (fun x y => x <<< (y &&& 31)) (fun h1 h2 h3 => za_b2_ok (fun x y => x <<< (y &&& 31)) h1 h2 h3) (fun kk => lv_ishl hx hb (hd rfl) kk) h hk
  | ishr =>
    exact zs_binI (fun x y => x >>> (y &&& 31)) (fun h1 h2 h3 => za_b2_ok (fun x y => x >>> (y &&& 31)) h1 h2 h3) (fun kk => lv_ishr hx hb (hd rfl) kk) h hk
  | iushr =>
    exact zs_binI (fun x y => (x.toUInt32 >>> (y.toUInt32 &&& Int32.toUInt32 31)).toInt32) (fun h1 h2 h3 => za_b2_ok _ h1 h2 h3) (fun kk => lv_iushr hx hb (hd rfl) rfl kk) h hk
  | idiv =>
    exact zs_divI (· / ·) (fun hn kk => lv_idiv hx hb (hd rfl) hn kk) h hk
  | irem =>
    exact zs_divI (fun x y => x - x / y * y) (fun hn kk => lv_irem hx hb (hd rfl) hn kk) h hk
  | i2b =>
    exact zs_unI (fun x => x.toInt8.toInt32) (fun kk => lv_i2b hx hb (hd rfl) rfl kk) h hk
  | ladd =>
    exact zs_binL (· + ·) (fun kk => lv_ladd hx hb (hd rfl) kk) h hk
  | lsub =>
    exact zs_binL (· - ·) (fun kk => lv_lsub hx hb (hd rfl) kk) h hk
  | lmul =>
    exact zs_binL (· * ·) (fun kk => lv_lmul hx hb (hd rfl) kk) h hk
  | land =>
    exact zs_binL (· &&& ·) (fun kk => lv_land hx hb (hd rfl) kk) h hk
  | lor =>
    exact zs_binL (· ||| ·) (fun kk => lv_lor hx hb (hd rfl) kk) h hk
  | lxor =>
    exact zs_binL (· ^^^ ·) (fun kk => lv_lxor hx hb (hd rfl) kk) h hk
  | lshl =>
    exact zs_shL za_shl0 (fun hz => by cases hz) (fun kk => lv_lshl hx hb (hd rfl) rfl kk) h hk
  | lshr =>
    exact zs_shL za_shr0 (fun _ => za_shr0_0) (fun kk => lv_lshr hx hb (hd rfl) rfl kk) h hk
  | lushr =>
    exact zs_shL za_ushr0 (fun _ => za_ushr0_0) (fun kk => lv_lushr hx hb (hd rfl) rfl kk) h hk
  | i2l =>
    exact zs_i2l (fun kk => lv_i2l hx hb (hd rfl) rfl kk) h hk
  | l2i =>
    exact zs_l2i (fun kk => lv_l2i hx hb (hd rfl) rfl kk) h hk
  | lcmp =>
    exact zs_lcmp (fun kk => W.lcmp hx hb (hd rfl) kk) h hk
  | dup =>
    exact zs_dup (fun h1 kk => lv_dup hx hb (hd rfl) h1 kk) h hk
  | pop =>
    exact zs_pop (fun h1 kk => lv_pop hx hb (hd rfl) h1 kk) h hk
  | dup2 =>
    exact zs_dup2 (fun h1 h2 kk => lv_dup2_11 hx hb (hd rfl) h1 h2 kk) h hk
  | ifCond cnd o9 =>
    cases cnd with
    | eq => exact zs_if1 (fun x z => x = z) (fun h1 h2 h3 h4 => za_eq_ok h1 h2 h3 h4) (fun h1 h2 h3 h4 => za_ne_ok h1 h2 h3 h4) (fun ht ky kn => lv_if_eq hx hb (hd rfl) ht ky kn) h hk
    | ne => exact zs_if1 (fun x z => ¬ x = z) (fun h1 h2 h3 h4 => za_ne_ok h1 h2 h3 h4) (fun h1 h2 h3 h4 => za_eq_ok h1 h2 h3 (Decidable.not_not.mp h4)) (fun ht ky kn => lv_if_ne hx hb (hd rfl) ht ky (fun h9 => kn (not_not_intro h9))) h hk
    | lt => exact zs_if1 (fun x z => x < z) (fun h1 h2 h3 h4 => za_lt_ok h1 h2 h3 h4) (fun h1 h2 h3 h4 => za_le_ok h1 h3 h2 (za_lnot h4)) (fun ht ky kn => lv_if_lt hx hb (hd rfl) ht ky kn) h hk
    | ge => exact zs_if1 (fun x z => z ≤ x) (fun h1 h2 h3 h4 => za_le_ok h1 h3 h2 h4) (fun h1 h2 h3 h4 => za_lt_ok h1 h2 h3 (za_lnot' h4)) (fun ht ky kn => lv_if_ge hx hb (hd rfl) ht ky kn) h hk
    | gt => exact zs_if1 (fun x z => z < x) (fun h1 h2 h3 h4 => za_lt_ok h1 h3 h2 h4) (fun h1 h2 h3 h4 => za_le_ok h1 h2 h3 (za_lnot h4)) (fun ht ky kn => lv_if_gt hx hb (hd rfl) ht ky kn) h hk
    | le => exact zs_if1 (fun x z => x ≤ z) (fun h1 h2 h3 h4 => za_le_ok h1 h2 h3 h4) (fun h1 h2 h3 h4 => za_lt_ok h1 h3 h2 (za_lnot' h4)) (fun ht ky kn => lv_if_le hx hb (hd rfl) ht ky kn) h hk
  | if_icmp cnd o9 =>
    cases cnd with
    | eq => exact zs_if2 (fun x z => x = z) (fun h1 h2 h3 h4 => za_eq_ok h1 h2 h3 h4) (fun h1 h2 h3 h4 => za_ne_ok h1 h2 h3 h4) (fun ht ky kn => lv_icmp_eq hx hb (hd rfl) ht ky kn) h hk
    | ne => exact zs_if2 (fun x z => ¬ x = z) (fun h1 h2 h3 h4 => za_ne_ok h1 h2 h3 h4) (fun h1 h2 h3 h4 => za_eq_ok h1 h2 h3 (Decidable.not_not.mp h4)) (fun ht ky kn => lv_icmp_ne hx hb (hd rfl) ht ky (fun h9 => kn (not_not_intro h9))) h hk
    | lt => exact zs_if2 (fun x z => x < z) (fun h1 h2 h3 h4 => za_lt_ok h1 h2 h3 h4) (fun h1 h2 h3 h4 => za_le_ok h1 h3 h2 (za_lnot h4)) (fun ht ky kn => lv_icmp_lt hx hb (hd rfl) ht ky kn) h hk
    | ge => exact zs_if2 (fun x z => z ≤ x) (fun h1 h2 h3 h4 => za_le_ok h1 h3 h2 h4) (fun h1 h2 h3 h4 => za_lt_ok h1 h2 h3 (za_lnot' h4)) (fun ht ky kn => lv_icmp_ge hx hb (hd rfl) ht ky kn) h hk
    | gt => exact zs_if2 (fun x z => z < x) (fun h1 h2 h3 h4 => za_lt_ok h1 h3 h2 h4) (fun h1 h2 h3 h4 => za_le_ok h1 h2 h3 (za_lnot h4)) (fun ht ky kn => lv_icmp_gt hx hb (hd rfl) ht ky kn) h hk
    | le => exact zs_if2 (fun x z => x ≤ z) (fun h1 h2 h3 h4 => za_le_ok h1 h2 h3 h4) (fun h1 h2 h3 h4 => za_lt_ok h1 h3 h2 (za_lnot' h4)) (fun ht ky kn => lv_icmp_le hx hb (hd rfl) ht ky kn) h hk
  | goto o9 =>
    exact zs_goto (fun ht kk => lv_goto hx hb (hd rfl) ht kk) h hk
  | tableswitch dd lo hi os =>
    exact zs_tsw (fun h1 h2 h3 h4 kk => lv_tableIn hx hb hd0 h1 h2 h3 h4 kk) (fun h1 h2 kk => lv_tableOut hx hb hd0 h1 h2 kk) h hk
  | lookupswitch dd ps =>
    exact zs_lsw (fun h1 h2 h3 kk => lv_lookup hx hb hd0 h1 h2 h3 kk) h hk
  | getfield k =>
    exact zg_getf X (hd rfl) h hk
  | putfield k =>
    exact zg_putf X (hd rfl) h hk
  | iaload =>
    exact zg_ild (bt := false) rfl X (hd rfl) h hk
  | baload =>
    exact zg_ild (bt := true) rfl X (hd rfl) h hk
  | iastore =>
    exact zg_ist (bt := false) rfl X (hd rfl) h hk
  | bastore =>
    exact zg_ist (bt := true) rfl X (hd rfl) h hk
  | laload =>
    exact zg_lld X (hd rfl) h hk
  | lastore =>
    exact zg_lst X (hd rfl) h hk
  | arraylength =>
    exact zg_alen X (hd rfl) h hk
  | new k =>
    exact zg_new X (hd rfl) h hk ho
  | newarray ty =>
    exact zg_newa X (hd rfl) h hk
  | ireturn =>
    exact zs_iret hx hb hr hlocks h0 (hd rfl) h ho
  | lreturn =>
    exact zs_lret hx hb hr hlocks h0 (hd rfl) h ho
  | return_ =>
    exact zs_vret hx hb hr hlocks h0 (hd rfl) h ho
  | invokevirtual k =>
    exact zg_virt X IH (hd rfl) h hk ho
  | invokestatic k =>
    exact zg_stat X IH (hd rfl) h hk ho
  | invokespecial k =>
    exact zg_spec X IH (hd rfl) h hk ho
  | _ => exact nomatch (show (none : Option (List za_S × List za_X)) = some Z from h)
theorem zg_stepF {S : za_S} {T : za_TT} (X : za_Cx p l R s m args meth c E L s0 d M) (IH : za_IH l E s0 d call) (hT : za_fl T = za_is M) (h : za_stepF L M T (za_CP (za_cl M)) za_MTf call S = some Z) (hk : ∀ S ∈ Z.1, za_G p l e R s m args below meth c (vx_MQ below (za_Qc E ads0 outs) (za_XC E ads0 outs) args s (za_mc M) (za_ms M) (za_A E)) E (za_nL M) ads0 S) (ho : ∀ x ∈ Z.2, x ∈ outs) : za_G p l e R s m args below meth c (vx_MQ below (za_Qc E ads0 outs) (za_XC E ads0 outs) args s (za_mc M) (za_ms M) (za_A E)) E (za_nL M) ads0 S := by
  obtain ⟨pc, lv, st, t⟩ := S
  rw [show za_MTf = za_MT from funext ze_M] at h
  unfold za_stepF at h
  dsimp only at h
  split at h
  · rename_i i hfe
    exact zg_ins X IH (by rw [← hT]; exact za_f3_mem hfe) h hk ho
  · cases h
theorem za_run_acc {step : za_S → za_N} : ∀ {n : Nat} {wk : List za_S} {acc xs : List za_X}, za_run step n wk acc = some xs → ∀ x ∈ acc, x ∈ xs
  | 0, _, _, _, h => by cases h
  | n + 1, [], acc, xs, h => by
    intro x hx
    cases h
    exact hx
  | n + 1, S :: wk, acc, xs, h => by
    intro x hx
    unfold za_run at h
    split at h
    · cases h
    · exact za_run_acc h x (List.mem_append_right _ hx)
theorem zg_run {T : za_TT} (X : za_Cx p l R s m args meth c E L s0 d M) (IH : za_IH l E s0 d call) (hT : za_fl T = za_is M) : ∀ {n : Nat} {wk : List za_S} {acc : List za_X}, za_run (za_stepF L M T (za_CP (za_cl M)) za_MTf call) n wk acc = some outs → ∀ S ∈ wk, za_G p l e R s m args below meth c (vx_MQ below (za_Qc E ads0 outs) (za_XC E ads0 outs) args s (za_mc M) (za_ms M) (za_A E)) E (za_nL M) ads0 S
  | 0, _, _, h => by cases h
  | n + 1, [], _, _ => fun S hS => absurd hS List.not_mem_nil
  | n + 1, S9 :: wk, acc, h => by
    unfold za_run at h
    split at h
    · cases h
    · rename_i ss xs hstep
      have ih := zg_run X IH hT h
      intro S hS
      rcases List.mem_cons.mp hS with rfl | hS
      · exact zg_stepF X IH hT hstep (fun S8 h8 => ih S8 (List.mem_append_left _ h8)) (fun x hx => za_run_acc h x (List.mem_append_left _ hx))
      · exact ih S (List.mem_append_right _ hS)
end ZN
