section
/-! ===== every instruction; the run ===== -/
theorem za_by8 {k : Int} (h1 : -128 ≤ k) (h2 : k ≤ 127) : (Int8.ofInt k).toInt32 = Int32.ofInt k := by
  apply Int32.toInt_inj.mp
  rw [Int8.toInt_toInt32, Int8.toInt_ofInt, Int32.toInt_ofInt]
  have e1 : k.bmod Int8.size = k := by
    show k.bmod 256 = k
    rw [Int.bmod_def]; split <;> omega
  have e2 : k.bmod Int32.size = k := by
    show k.bmod 4294967296 = k
    rw [Int.bmod_def]; split <;> omega
  rw [e1, e2]
theorem za_lnot {x y : Int32} (h : ¬ x < y) : y ≤ x := Int32.not_lt.mp h
theorem za_lnot' {x y : Int32} (h : ¬ x ≤ y) : y < x := Int32.not_le.mp h
theorem za_shr0_0 (y : Int32) : za_shr0 0 y = 0 := by
  unfold za_shr0
  simp
theorem za_ushr0_0 (y : Int32) : za_ushr0 0 y = 0 := by
  unfold za_ushr0
  rw [show (0 : Int64).toUInt64 = 0 from rfl, UInt64.zero_shiftRight]
  rfl
section ZN
variable {p : Program} {l : Launch} {e : Env} {R : Room} {s s0 : State} {m : MethodId} {args : Array Value} {below : List Frame} {meth : Method} {c : Code} {E : za_E} {ads0 : List Nat} {pc L d : Nat} {M : za_MI} {call : za_CF} {outs : List za_X} {lv : za_LV} {st : List za_V} {t : za_T} {Z : List za_S × List za_X}
theorem zg_lld (X : za_Cx p l R s m args meth c E L s0 d M) (hdg : decode M.2.1 pc = .ok (.laload, 1)) (h : za_lld pc lv st t = some Z) (hk : ∀ S ∈ Z.1, za_G p l e R s m args below meth c (vx_MQ below (za_Qc E ads0 outs) (za_XC E ads0 outs) args s (za_mc M) (za_ms M) (za_A E)) E (za_nL M) ads0 S) : za_G p l e R s m args below meth c (vx_MQ below (za_Qc E ads0 outs) (za_XC E ads0 outs) args s (za_mc M) (za_ms M) (za_A E)) E (za_nL M) ads0 (pc, lv, st, t) := by
  obtain ⟨hx, hb, hml, hr, hlocks, hnm, hown, htab, K, hW, h0, hdec, hRf, hRl, hRc, hRs⟩ := X
  have hK := zk_K K hW
  refine zs_lld ?_ h hk
  intro H locs cells slots ls rest ws q a n f j hP he hin kk
  exact va_lald (tys := za_tys E) hx hb hK hP q 3 he rfl hin hdg kk
theorem zg_lst (X : za_Cx p l R s m args meth c E L s0 d M) (hdg : decode M.2.1 pc = .ok (.lastore, 1)) (h : za_lst pc lv st t = some Z) (hk : ∀ S ∈ Z.1, za_G p l e R s m args below meth c (vx_MQ below (za_Qc E ads0 outs) (za_XC E ads0 outs) args s (za_mc M) (za_ms M) (za_A E)) E (za_nL M) ads0 S) : za_G p l e R s m args below meth c (vx_MQ below (za_Qc E ads0 outs) (za_XC E ads0 outs) args s (za_mc M) (za_ms M) (za_A E)) E (za_nL M) ads0 (pc, lv, st, t) := by
  obtain ⟨hx, hb, hml, hr, hlocks, hnm, hown, htab, K, hW, h0, hdec, hRf, hRl, hRc, hRs⟩ := X
  have hK := zk_K K hW
  refine zs_lst ?_ h hk
  intro H locs cells slots ls rest ws q a n f j x hP hD hS he hin kk
  exact va_last (tys := za_tys E) hx hb hK hP hD hS q 3 he rfl hin hdg kk
theorem zg_new {k : Nat} (X : za_Cx p l R s m args meth c E L s0 d M) (hdg : decode M.2.1 pc = .ok (.new k, 3)) (h : za_new M (za_CP (za_cl M)) (za_CP (za_cl M) k) pc lv st t = some Z) (hk : ∀ S ∈ Z.1, za_G p l e R s m args below meth c (vx_MQ below (za_Qc E ads0 outs) (za_XC E ads0 outs) args s (za_mc M) (za_ms M) (za_A E)) E (za_nL M) ads0 S) (ho : ∀ x ∈ Z.2, x ∈ outs) : za_G p l e R s m args below meth c (vx_MQ below (za_Qc E ads0 outs) (za_XC E ads0 outs) args s (za_mc M) (za_ms M) (za_A E)) E (za_nL M) ads0 (pc, lv, st, t) := by
  unfold za_new at h
  split at h
  · rename_i ex j9 z9 hrow
    split at h
    · rename_i hhe
      exact zg_thr X hhe hrow hdg h ho
    · cases h
  · exact zg_newo X hdg h hk
theorem zg_ldc {k n : Nat} (X : za_Cx p l R s m args meth c E L s0 d M) (rule : ∀ {v : Int32} {H : Heap} {locs : List Loc} {cells slots : Nat} {ls : Array Slot} {rest : List Value}, (Cond.constant (za_ow (za_cl M)) k v).before args s = true → W p l e R s m args below meth c H locs cells slots (vx_MQ below (za_Qc E ads0 outs) (za_XC E ads0 outs) args s (za_mc M) (za_ms M) (za_A E)) (F0 m (pc + n) ls (.int v :: rest)) → W p l e R s m args below meth c H locs cells slots (vx_MQ below (za_Qc E ads0 outs) (za_XC E ads0 outs) args s (za_mc M) (za_ms M) (za_A E)) (F0 m pc ls rest))
    (h : za_ldc n (za_CP (za_cl M) k) pc lv st t = some Z) (hk : ∀ S ∈ Z.1, za_G p l e R s m args below meth c (vx_MQ below (za_Qc E ads0 outs) (za_XC E ads0 outs) args s (za_mc M) (za_ms M) (za_A E)) E (za_nL M) ads0 S) : za_G p l e R s m args below meth c (vx_MQ below (za_Qc E ads0 outs) (za_XC E ads0 outs) args s (za_mc M) (za_ms M) (za_A E)) E (za_nL M) ads0 (pc, lv, st, t) := by
  obtain ⟨hx, hb, hml, hr, hlocks, hnm, hown, htab, K, hW, h0, hdec, hRf, hRl, hRc, hRs⟩ := X
  unfold za_ldc at h
  split at h
  · rename_i j9 k9 v hrow
    obtain ⟨w1, -⟩ := zc_row hrow
    exact zs_push (v := .inl (za_c (Int32.ofInt v))) (.int (Int32.ofInt v)) (fun _ => ⟨_, rfl, za_c_ok _ _⟩) (fun kk => rule (zk_w K hW _ (w1 _ (by simp [za_need]))) kk) h hk
  · cases h
theorem zg_ldc2 {k : Nat} (X : za_Cx p l R s m args meth c E L s0 d M) (hdg : decode M.2.1 pc = .ok (.ldc2_w k, 3)) (h : za_ldc2 (za_CP (za_cl M) k) pc lv st t = some Z) (hk : ∀ S ∈ Z.1, za_G p l e R s m args below meth c (vx_MQ below (za_Qc E ads0 outs) (za_XC E ads0 outs) args s (za_mc M) (za_ms M) (za_A E)) E (za_nL M) ads0 S) : za_G p l e R s m args below meth c (vx_MQ below (za_Qc E ads0 outs) (za_XC E ads0 outs) args s (za_mc M) (za_ms M) (za_A E)) E (za_nL M) ads0 (pc, lv, st, t) := by
  obtain ⟨hx, hb, hml, hr, hlocks, hnm, hown, htab, K, hW, h0, hdec, hRf, hRl, hRc, hRs⟩ := X
  unfold za_ldc2 at h
  split at h
  · rename_i j9 k9 v hrow
    obtain ⟨w1, -⟩ := zc_row hrow
    exact zs_push (v := .inr (.inl (some (Int64.ofInt v)))) (.long (Int64.ofInt v)) (fun _ => ⟨_, rfl, fun d hd => by cases hd; rfl⟩) (fun kk => lv_ldc2 hx hb hown (zk_w K hW _ (w1 _ (by simp [za_need]))) hdg kk) h hk
  · cases h
theorem zg_ins {i : Instr} (X : za_Cx p l R s m args meth c E L s0 d M) (IH : za_IH l E s0 d call) (hmm : (pc, i) ∈ za_is M) (h : za_ins L M (za_CP (za_cl M)) za_MT call i pc lv st t = some Z) (hk : ∀ S ∈ Z.1, za_G p l e R s m args below meth c (vx_MQ below (za_Qc E ads0 outs) (za_XC E ads0 outs) args s (za_mc M) (za_ms M) (za_A E)) E (za_nL M) ads0 S) (ho : ∀ x ∈ Z.2, x ∈ outs) : za_G p l e R s m args below meth c (vx_MQ below (za_Qc E ads0 outs) (za_XC E ads0 outs) args s (za_mc M) (za_ms M) (za_A E)) E (za_nL M) ads0 (pc, lv, st, t) := by
  obtain ⟨hx, hb, hml, hr, hlocks, hnm, hown, htab, K, hW, h0, hdec, hRf, hRl, hRc, hRs⟩ := id X
  obtain ⟨len, hd0, hln⟩ := za_dok_ok (q := (pc, i)) (List.all_eq_true.mp hdec _ hmm)
  have hd : za_sw i = false → decode M.2.1 pc = .ok (i, za_ln i) := fun z => by
    rcases hln with h9 | h9
    · rw [show za_sw i = true from h9] at z; cases z
    · rw [show len = za_ln i from h9] at hd0; exact hd0
  cases i with
  | iconst k =>
    exact zs_cst (fun _ _ h3 kk => lv_iconst hx hb (hd rfl) h3.symm kk) h hk
  | bipush k =>
    exact zs_cst (fun h1 h2 h3 kk => lv_bipush hx hb (hd rfl) ((za_by8 h1 h2).trans h3.symm) kk) h hk
  | sipush k =>
    exact zs_push (v := .inl (za_c (Int16.ofInt k).toInt32)) (.int _) (fun _ => ⟨_, rfl, za_c_ok _ _⟩) (fun kk => lv_sipush hx hb (hd rfl) rfl kk) h hk
  | lconst k =>
    exact zs_push (v := .inr (.inl (some (Int64.ofNat k)))) (.long _) (fun _ => ⟨_, rfl, fun d hd => by cases hd; rfl⟩) (fun kk => lv_lconst hx hb (hd rfl) rfl kk) h hk
  | ldc k =>
    exact zg_ldc X (fun hc kk => lv_ldc hx hb hown hc (hd rfl) kk) h hk
  | ldc_w k =>
    exact zg_ldc X (fun hc kk => lv_ldcw hx hb hown hc (hd rfl) kk) h hk
  | ldc2_w k =>
    exact zg_ldc2 X (hd rfl) h hk
  | iload k =>
    exact zs_loadI (fun hl kk => lv_iload hx hb (hd rfl) hl kk) h hk
  | iload_n k =>
    exact zs_loadI (fun hl kk => lv_iload_n hx hb (hd rfl) rfl hl kk) h hk
  | istore k =>
    exact zs_storI (fun h1 h2 kk => lv_istore hx hb (hd rfl) h1 h2 rfl kk) h hk
  | istore_n k =>
    exact zs_storI (fun h1 h2 kk => lv_istore_n hx hb (hd rfl) rfl h1 h2 rfl kk) h hk
  | lload k =>
    exact zs_loadL (fun hl kk => lv_lload hx hb (hd rfl) hl kk) h hk
  | lload_n k =>
    exact zs_loadL (fun hl kk => lv_lload_n hx hb (hd rfl) rfl hl kk) h hk
  | lstore k =>
    exact zs_storL (fun h1 h2 kk => lv_lstore hx hb (hd rfl) h1 h2 rfl kk) h hk
  | lstore_n k =>
    exact zs_storL (fun h1 h2 kk => lv_lstore_n hx hb (hd rfl) rfl h1 h2 rfl kk) h hk
  | aload k =>
    exact zs_loadA (fun hl kk => lv_aload hx hb (hd rfl) hl kk) h hk
  | aload_n k =>
    exact zs_loadA (fun hl kk => lv_aload_n hx hb (hd rfl) rfl hl kk) h hk
  | astore k =>
    exact zs_storA (fun h1 h2 kk => lv_astore hx hb (hd rfl) h1 h2 rfl kk) h hk
  | astore_n k =>
    exact zs_storA (fun h1 h2 kk => lv_astore_n hx hb (hd rfl) rfl h1 h2 rfl kk) h hk
  | iinc k d9 =>
    exact zs_iinc (fun h1 h2 h3 kk => lv_iinc hx hb (hd rfl) h1 h2 rfl h3 rfl kk) h hk
  | iadd =>
    exact zs_binI (· + ·) (fun h1 h2 h3 => za_add_ok h1 h2 h3) (fun kk => lv_iadd hx hb (hd rfl) kk) h hk
  | isub =>
    exact zs_binI (· - ·) (fun h1 h2 h3 => za_sub_ok h1 h2 h3) (fun kk => lv_isub hx hb (hd rfl) kk) h hk
  | iand =>
    exact zs_binI (· &&& ·) (fun h1 h2 h3 => za_and_ok h1 h2 h3) (fun kk => lv_iand hx hb (hd rfl) kk) h hk
  | imul =>
    exact zs_binI (· * ·) (fun h1 h2 h3 => za_b2_ok (· * ·) h1 h2 h3) (fun kk => lv_imul hx hb (hd rfl) kk) h hk
  | ior =>
    exact zs_binI (· ||| ·) (fun h1 h2 h3 => za_b2_ok (· ||| ·) h1 h2 h3) (fun kk => lv_ior hx hb (hd rfl) kk) h hk
  | ixor =>
    exact zs_binI (· ^^^ ·) (fun h1 h2 h3 => za_b2_ok (· ^^^ ·) h1 h2 h3) (fun kk => lv_ixor hx hb (hd rfl) kk) h hk
  | ishl =>
    exact zs_binI (fun x y => x <<< (y &&& 31)) (fun h1 h2 h3 => za_b2_ok (fun x y => x <<< (y &&& 31)) h1 h2 h3) (fun kk => lv_ishl hx hb (hd rfl) kk) h hk
  | ishr =>
    exact zs_binI (fun x y => x >>> (y &&& 31)) (fun h1 h2 h3 => za_b2_ok (fun x y => x >>> (y &&& 31)) h1 h2 h3) (fun kk => lv_ishr hx hb (hd rfl) kk) h hk
  | iushr =>
    exact zs_binI (fun x y => (x.toUInt32 >>> (y.toUInt32 &&& Int32.toUInt32 31)).toInt32) (fun h1 h2 h3 => za_b2_ok _ h1 h2 h3) (fun kk => lv_iushr hx hb (hd rfl) rfl kk) h hk
  | idiv =>
    exact zs_divI (· / ·) (fun hn kk => lv_idiv hx hb (hd rfl) hn kk) h hk
  | irem =>
    exact zs_divI (fun x y => x - x / y * y) (fun hn kk => lv_irem hx hb (hd rfl) hn kk) h hk
  | i2b =>
    exact zs_unI (fun x => x.toInt8.toInt32) (fun kk => lv_i2b hx hb (hd rfl) rfl kk) h hk
  | ladd =>
    exact zs_binL (· + ·) (fun kk => lv_ladd hx hb (hd rfl) kk) h hk
  | lsub =>
    exact zs_binL (· - ·) (fun kk => lv_lsub hx hb (hd rfl) kk) h hk
  | lmul =>
    exact zs_binL (· * ·) (fun kk => lv_lmul hx hb (hd rfl) kk) h hk
  | land =>
    exact zs_binL (· &&& ·) (fun kk => lv_land hx hb (hd rfl) kk) h hk
  | lor =>
    exact zs_binL (· ||| ·) (fun kk => lv_lor hx hb (hd rfl) kk) h hk
  | lxor =>
    exact zs_binL (· ^^^ ·) (fun kk => lv_lxor hx hb (hd rfl) kk) h hk
  | lshl =>
    exact zs_shL za_shl0 (fun hz => by cases hz) (fun kk => lv_lshl hx hb (hd rfl) rfl kk) h hk
  | lshr =>
    exact zs_shL za_shr0 (fun _ => za_shr0_0) (fun kk => lv_lshr hx hb (hd rfl) rfl kk) h hk
  | lushr =>
    exact zs_shL za_ushr0 (fun _ => za_ushr0_0) (fun kk => lv_lushr hx hb (hd rfl) rfl kk) h hk
  | i2l =>
    exact zs_i2l (fun kk => lv_i2l hx hb (hd rfl) rfl kk) h hk
  | l2i =>
    exact zs_l2i (fun kk => lv_l2i hx hb (hd rfl) rfl kk) h hk
  | lcmp =>
    exact zs_lcmp (fun kk => W.lcmp hx hb (hd rfl) kk) h hk
  | dup =>
    exact zs_dup (fun h1 kk => lv_dup hx hb (hd rfl) h1 kk) h hk
  | pop =>
    exact zs_pop (fun h1 kk => lv_pop hx hb (hd rfl) h1 kk) h hk
  | dup2 =>
    exact zs_dup2 (fun h1 h2 kk => lv_dup2_11 hx hb (hd rfl) h1 h2 kk) h hk
  | ifCond cnd o9 =>
    cases cnd with
    | eq => exact zs_if1 (fun x z => x = z) (fun h1 h2 h3 h4 => za_eq_ok h1 h2 h3 h4) (fun h1 h2 h3 h4 => za_ne_ok h1 h2 h3 h4) (fun ht ky kn => lv_if_eq hx hb (hd rfl) ht ky kn) h hk
    | ne => exact zs_if1 (fun x z => ¬ x = z) (fun h1 h2 h3 h4 => za_ne_ok h1 h2 h3 h4) (fun h1 h2 h3 h4 => za_eq_ok h1 h2 h3 (Decidable.not_not.mp h4)) (fun ht ky kn => lv_if_ne hx hb (hd rfl) ht ky (fun h9 => kn (not_not_intro h9))) h hk
    | lt => exact zs_if1 (fun x z => x < z) (fun h1 h2 h3 h4 => za_lt_ok h1 h2 h3 h4) (fun h1 h2 h3 h4 => za_le_ok h1 h3 h2 (za_lnot h4)) (fun ht ky kn => lv_if_lt hx hb (hd rfl) ht ky kn) h hk
    | ge => exact zs_if1 (fun x z => z ≤ x) (fun h1 h2 h3 h4 => za_le_ok h1 h3 h2 h4) (fun h1 h2 h3 h4 => za_lt_ok h1 h2 h3 (za_lnot' h4)) (fun ht ky kn => lv_if_ge hx hb (hd rfl) ht ky kn) h hk
    | gt => exact zs_if1 (fun x z => z < x) (fun h1 h2 h3 h4 => za_lt_ok h1 h3 h2 h4) (fun h1 h2 h3 h4 => za_le_ok h1 h2 h3 (za_lnot h4)) (fun ht ky kn => lv_if_gt hx hb (hd rfl) ht ky kn) h hk
    | le => exact zs_if1 (fun x z => x ≤ z) (fun h1 h2 h3 h4 => za_le_ok h1 h2 h3 h4) (fun h1 h2 h3 h4 => za_lt_ok h1 h3 h2 (za_lnot' h4)) (fun ht ky kn => lv_if_le hx hb (hd rfl) ht ky kn) h hk
  | if_icmp cnd o9 =>
    cases cnd with
    | eq => exact zs_if2 (fun x z => x = z) (fun h1 h2 h3 h4 => za_eq_ok h1 h2 h3 h4) (fun h1 h2 h3 h4 => za_ne_ok h1 h2 h3 h4) (fun ht ky kn => lv_icmp_eq hx hb (hd rfl) ht ky kn) h hk
    | ne => exact zs_if2 (fun x z => ¬ x = z) (fun h1 h2 h3 h4 => za_ne_ok h1 h2 h3 h4) (fun h1 h2 h3 h4 => za_eq_ok h1 h2 h3 (Decidable.not_not.mp h4)) (fun ht ky kn => lv_icmp_ne hx hb (hd rfl) ht ky (fun h9 => kn (not_not_intro h9))) h hk
    | lt => exact zs_if2 (fun x z => x < z) (fun h1 h2 h3 h4 => za_lt_ok h1 h2 h3 h4) (fun h1 h2 h3 h4 => za_le_ok h1 h3 h2 (za_lnot h4)) (fun ht ky kn => lv_icmp_lt hx hb (hd rfl) ht ky kn) h hk
    | ge => exact zs_if2 (fun x z => z ≤ x) (fun h1 h2 h3 h4 => za_le_ok h1 h3 h2 h4) (fun h1 h2 h3 h4 => za_lt_ok h1 h2 h3 (za_lnot' h4)) (fun ht ky kn => lv_icmp_ge hx hb (hd rfl) ht ky kn) h hk
    | gt => exact zs_if2 (fun x z => z < x) (fun h1 h2 h3 h4 => za_lt_ok h1 h3 h2 h4) (fun h1 h2 h3 h4 => za_le_ok h1 h2 h3 (za_lnot h4)) (fun ht ky kn => lv_icmp_gt hx hb (hd rfl) ht ky kn) h hk
    | le => exact zs_if2 (fun x z => x ≤ z) (fun h1 h2 h3 h4 => za_le_ok h1 h2 h3 h4) (fun h1 h2 h3 h4 => za_lt_ok h1 h3 h2 (za_lnot' h4)) (fun ht ky kn => lv_icmp_le hx hb (hd rfl) ht ky kn) h hk
  | goto o9 =>
    exact zs_goto (fun ht kk => lv_goto hx hb (hd rfl) ht kk) h hk
  | tableswitch dd lo hi os =>
    exact zs_tsw (fun h1 h2 h3 h4 kk => lv_tableIn hx hb hd0 h1 h2 h3 h4 kk) (fun h1 h2 kk => lv_tableOut hx hb hd0 h1 h2 kk) h hk
  | lookupswitch dd ps =>
    exact zs_lsw (fun h1 h2 h3 kk => lv_lookup hx hb hd0 h1 h2 h3 kk) h hk
  | getfield k =>
    exact zg_getf X (hd rfl) h hk
  | putfield k =>
    exact zg_putf X (hd rfl) h hk
  | iaload =>
    exact zg_ild (bt := false) rfl X (hd rfl) h hk
  | baload =>
    exact zg_ild (bt := true) rfl X (hd rfl) h hk
  | iastore =>
    exact zg_ist (bt := false) rfl X (hd rfl) h hk
  | bastore =>
    exact zg_ist (bt := true) rfl X (hd rfl) h hk
  | laload =>
    exact zg_lld X (hd rfl) h hk
  | lastore =>
    exact zg_lst X (hd rfl) h hk
  | arraylength =>
    exact zg_alen X (hd rfl) h hk
  | new k =>
    exact zg_new X (hd rfl) h hk ho
  | newarray ty =>
    exact zg_newa X (hd rfl) h hk
  | ireturn =>
    exact zs_iret hx hb hr hlocks h0 (hd rfl) h ho
  | lreturn =>
    exact zs_lret hx hb hr hlocks h0 (hd rfl) h ho
  | return_ =>
    exact zs_vret hx hb hr hlocks h0 (hd rfl) h ho
  | invokevirtual k =>
    exact zg_virt X IH (hd rfl) h hk ho
  | invokestatic k =>
    exact zg_stat X IH (hd rfl) h hk ho
  | invokespecial k =>
    exact zg_spec X IH (hd rfl) h hk ho
  | _ => exact nomatch (show (none : Option (List za_S × List za_X)) = some Z from h)
theorem zg_stepF {S : za_S} {T : za_TT} (X : za_Cx p l R s m args meth c E L s0 d M) (IH : za_IH l E s0 d call) (hT : za_fl T = za_is M) (h : za_stepF L M T (za_CP (za_cl M)) za_MTf call S = some Z) (hk : ∀ S ∈ Z.1, za_G p l e R s m args below meth c (vx_MQ below (za_Qc E ads0 outs) (za_XC E ads0 outs) args s (za_mc M) (za_ms M) (za_A E)) E (za_nL M) ads0 S) (ho : ∀ x ∈ Z.2, x ∈ outs) : za_G p l e R s m args below meth c (vx_MQ below (za_Qc E ads0 outs) (za_XC E ads0 outs) args s (za_mc M) (za_ms M) (za_A E)) E (za_nL M) ads0 S := by
  obtain ⟨pc, lv, st, t⟩ := S
  rw [show za_MTf = za_MT from funext ze_M] at h
  unfold za_stepF at h
  dsimp only at h
  split at h
  · rename_i i hfe
    exact zg_ins X IH (by rw [← hT]; exact za_f3_mem hfe) h hk ho
  · cases h
theorem za_run_acc {step : za_S → za_N} : ∀ {n : Nat} {wk : List za_S} {acc xs : List za_X}, za_run step n wk acc = some xs → ∀ x ∈ acc, x ∈ xs
  | 0, _, _, _, h => by cases h
  | n + 1, [], acc, xs, h => by
    intro x hx
    cases h
    exact hx
  | n + 1, S :: wk, acc, xs, h => by
    intro x hx
    unfold za_run at h
    split at h
    · cases h
    · exact za_run_acc h x (List.mem_append_right _ hx)
theorem zg_run {T : za_TT} (X : za_Cx p l R s m args meth c E L s0 d M) (IH : za_IH l E s0 d call) (hT : za_fl T = za_is M) : ∀ {n : Nat} {wk : List za_S} {acc : List za_X}, za_run (za_stepF L M T (za_CP (za_cl M)) za_MTf call) n wk acc = some outs → ∀ S ∈ wk, za_G p l e R s m args below meth c (vx_MQ below (za_Qc E ads0 outs) (za_XC E ads0 outs) args s (za_mc M) (za_ms M) (za_A E)) E (za_nL M) ads0 S
  | 0, _, _, h => by cases h
  | n + 1, [], _, _ => fun S hS => absurd hS List.not_mem_nil
  | n + 1, S9 :: wk, acc, h => by
    unfold za_run at h
    split at h
    · cases h
    · rename_i ss xs hstep
      have ih := zg_run X IH hT h
      intro S hS
      rcases List.mem_cons.mp hS with rfl | hS
      · exact zg_stepF X IH hT hstep (fun S8 h8 => ih S8 (List.mem_append_left _ h8)) (fun x hx => za_run_acc h x (List.mem_append_left _ hx))
      · exact ih S (List.mem_append_right _ hS)
end ZN
end
section
/-! ===== a method's contract by its run; the depth ===== -/
theorem zl_sl : ∀ {σ : Nat → Int32} {ads : List Nat} {as : List za_V} {vs : List Value}, za_F2 (za_gV σ ads) as vs → (lg_sl vs).length = za_wt as
  | _, _, [], [], _ => rfl
  | _, _, v :: as, w :: vs, h => by
    have h1 := zl_sl h.2
    have h2 := za_cat_ok h.1
    have h3 : lg_sl (w :: vs) = (if w.category = 2 then [Slot.val w, Slot.second] else [Slot.val w]) ++ lg_sl vs := rfl
    have h4 : za_wt (v :: as) = za_cat v + za_wt as := rfl
    rw [h3, h4, List.length_append, h1, ← h2]
    cases w <;> rfl
  | _, _, [], _ :: _, h => h.elim
  | _, _, _ :: _, [], h => h.elim
theorem zl_args : ∀ {σ : Nat → Int32} {ads : List Nat} {as : List za_V} {vs : List Value} (i : Nat), za_F2 (za_gV σ ads) as vs → za_F2 (za_gP σ ads) (za_args i as) (lv_args i vs)
  | _, _, [], [], _, _ => trivial
  | _, _, v :: as, w :: vs, i, h => by
    have h2 := za_cat_ok h.1
    refine ⟨⟨rfl, h.1⟩, ?_⟩
    rw [h2]
    exact zl_args _ h.2
  | _, _, [], _ :: _, _, h => h.elim
  | _, _, _ :: _, [], _, h => h.elim
theorem zj_spec {Y : za_MI} {args : Array Value} {s : State} {m : MethodId} (h : (za_word Y).before args s = true) (hn : s.methodNamed? Y.1 = some m) : ∃ meth c, s.vm.method? m = some meth ∧ meth.code = some c ∧ c.code = Y.2.1 ∧ c.maxLocals = za_nL Y ∧ meth.sig.returnType = za_rt Y ∧ meth.locks = false ∧ c.exceptionTable.toList = tableOf (za_hh Y) := by
  by_cases hh : za_hh Y = []
  · rw [zj_code hh] at h
    obtain ⟨meth, c, h1, h2, h3, h4, h5, h6, h7, -⟩ := Cond.code_spec hn h
    exact ⟨meth, c, h1, h2, h3, h4, h5, h6, by rw [Array.isEmpty_iff.mp h7, hh]; rfl⟩
  · rw [zj_with hh] at h
    obtain ⟨m9, meth, c, hn9, h1, h2, h3, h4, h6, h5, h7, -⟩ := Cond.codeWith_spec h
    cases Option.some.inj (hn9.symm.trans hn)
    exact ⟨meth, c, h1, h2, h3, h4, h5, h7, by rw [← h6, table_eq]⟩
/-! the same run where the script is never read: it doesn't matter how long the script is -/
def za_grd (i : Instr) (st : List za_V) : Bool := match i with
  | .iaload => false
  | .baload => false
  | .arraylength => match st with
    | .inr (.inr (some (_ + 1))) :: _ => true
    | _ => false
  | _ => true
theorem za_grd_ok {L : Nat} {M : za_MI} {cp : Nat → Option za_row} {MT : Nat → Option za_MI} {call : za_CF} {i : Instr} {pc : Nat} {lv : za_LV} {st : List za_V} {t : za_T} (h : za_grd i st = true) : za_ins 0 M cp MT call i pc lv st t = za_ins L M cp MT call i pc lv st t := by
  cases i with
  | iaload => cases h
  | baload => cases h
  | arraylength =>
    match st, h with
    | .inr (.inr (some (q + 1))) :: rest, _ => rfl
  | if_icmp cnd o => cases cnd <;> rfl
  | ifCond cnd o => cases cnd <;> rfl
  | _ => rfl
def za_step0 (M : za_MI) (T : za_TT) (cp : Nat → Option za_row) (MT : Nat → Option za_MI) (call : za_CF) (S : za_S) : za_N := match S with
  | (pc, lv, st, t) => match za_f3 T pc with
    | some i => bif za_grd i st then za_ins 0 M cp MT call i pc lv st t else none
    | none => none
theorem za_step0_ok {L : Nat} {M : za_MI} {T : za_TT} {cp : Nat → Option za_row} {MT : Nat → Option za_MI} {call : za_CF} {S : za_S} {Z : List za_S × List za_X} (h : za_step0 M T cp MT call S = some Z) : za_stepF L M T cp MT call S = some Z := by
  obtain ⟨pc, lv, st, t⟩ := S
  unfold za_step0 at h
  unfold za_stepF
  dsimp only at h ⊢
  split at h
  · rename_i i hfe
    obtain ⟨g1, h⟩ := za_bif h
    rw [hfe]
    rw [za_grd_ok (L := L) g1] at h
    exact h
  · cases h
def za_call0 (fuel : Nat) : Nat → za_CF
  | 0, _, _, _, _ => none
  | d + 1, j, as, h, ρ => match za_MTf j, za_TTf j with
    | some M, some T => bif Nat.ble (za_wt as) (za_nL M) then za_run (za_step0 M T (za_CP (za_cl M)) za_MTf (za_call0 fuel d)) fuel [(0, za_args 0 as, [], h, ρ, 0, 0)] [] else none
    | _, _ => none
theorem za_run_m {f g : za_S → za_N} (hfg : ∀ S Z, f S = some Z → g S = some Z) : ∀ {n : Nat} {wk : List za_S} {acc xs : List za_X}, za_run f n wk acc = some xs → za_run g n wk acc = some xs
  | 0, _, _, _, h => by cases h
  | n + 1, [], acc, xs, h => h
  | n + 1, S :: wk, acc, xs, h => by
    unfold za_run at h ⊢
    split at h
    · cases h
    · rename_i ss ys hs
      rw [hfg S _ hs]
      exact za_run_m hfg h
theorem zg_met {l : Launch} {E : za_E} {s0 : State} {L d fuel : Nat} {call : za_CF} {Y : za_MI} {as : List za_V} {h : List za_O} {ρ : za_R} {xs : List za_X} {ads : List Nat} {T : za_TT} (hT : za_fl T = za_is Y) (K : za_K0 l E L s0) (IH : za_IH l E s0 d call) (hpl : plainFor Y.1 = true) (how : za_ow (za_cl Y) = Y.1.cls) (hdec : (za_is Y).all (za_dok Y.2.1) = true) (hwt : za_wt as ≤ za_nL Y) (hrun : za_run (za_stepF L Y T (za_CP (za_cl Y)) za_MTf call) fuel [(0, za_args 0 as, [], h, ρ, 0, 0)] [] = some xs) :
    vx_Met l Y.1 [za_word Y] (za_rm (d + 1) Y) (za_Pc E s0 ads as h ρ) (za_Qc E ads xs) (za_XC E ads xs) (za_mc Y) (za_ms Y) (za_A E) := by
  refine MetFree.of_bodySF (code := Y.2.1) (maxLocals := za_nL Y) (ret := za_rt Y) hpl ?_ ?_
  · intro args s m h hn
    obtain ⟨meth, c, h1, h2, h3, h4, h5, h6, -⟩ := zj_spec (atoms_spec (ws := [za_word Y]) h _ List.mem_cons_self) hn
    exact ⟨meth, c, h1, h2, h3, h4, h5, h6⟩
  · intro p e s m args below meth c s₁ B hml hP _
    have hh0 : s₁.heap = s.heap := by rw [B.state]; rfl
    obtain ⟨vs, rfl, hA, hok, hWd, hW, hBl⟩ := hP
    have htab : c.exceptionTable.toList = tableOf (za_hh Y) := by
      obtain ⟨meth9, c9, h1, h2, -, -, -, -, h7⟩ := zj_spec (atoms_spec (ws := [za_word Y]) B.pre _ List.mem_cons_self) B.named
      cases Option.some.inj (h1.symm.trans B.method)
      cases Option.some.inj (h2.symm.trans (Stand.of_body B).code)
      exact h7
    have X : za_Cx p l (headSpec [za_word Y] (za_rm (d + 1) Y)).room s m vs.toArray meth c E L s0 d Y := ⟨B.exec, B.bytes, hml, B.returns, B.notSynchronized, (name_of_methodNamed B.named B.method).1, by rw [how]; exact findClass_of_methodNamed B.named, htab, K, hW, hBl, hdec, by show d + 9 ≤ d + 1 + 8; omega, by show 64 * d + 259 ≤ 64 * (d + 1) + 200; omega, rfl, rfl⟩
    have hG := zg_run (below := below) (e := e) (ads0 := ads) X IH hT hrun _ List.mem_cons_self ads s.heap [] ((lg_sl vs ++ List.replicate (za_nL Y - (lg_sl vs).length) Slot.unset).toArray) [] ⟨List.prefix_rfl, hok, trivial, ⟨lv_args 0 vs, lv_entry vs (by rw [zl_sl hA]; exact hwt), zl_args 0 hA⟩, hWd, ⟨Nat.le_refl _, fun _ _ _ => rfl, fun z hz => absurd hz List.not_mem_nil⟩⟩
    rw [lg_entry_eq]
    obtain ⟨t, a1, o, b1, b2, b3⟩ := hG s₁ hh0 (Stand.of_body B)
    exact ⟨t, o, a1, b1, b2, b3⟩
theorem zg_all0 {l : Launch} {E : za_E} {s0 : State} {L fuel : Nat} (K : za_K0 l E L s0) : ∀ d : Nat, za_IH l E s0 d (za_call0 fuel d)
  | 0 => by
    intro j Y as h ρ xs ads hj hc
    cases hc
  | d + 1 => by
    intro j Y as h ρ xs ads hj hc
    unfold za_call0 at hc
    split at hc
    · rename_i M T hM hT
      rw [ze_M, hj] at hM
      cases hM
      obtain ⟨g1, hc⟩ := za_bif hc
      obtain ⟨o1, o2, -⟩ := zj_ok hj
      exact zg_met (L := L) (ze_flat hj hT) K (zg_all0 K d) o1 o2 (zm_d _ (zm_all hj)) (za_ble g1) (za_run_m (fun S Z h => za_step0_ok h) hc)
    · cases hc
end
section
/-! ===== the law's start: objects are made, whatever is asked of the end ===== -/
section ZGQ
variable {p : Program} {l : Launch} {e : Env} {R : Room} {s s0 : State} {m : MethodId} {args : Array Value} {below : List Frame} {meth : Method} {c : Code} {E : za_E} {ads0 : List Nat} {pc L d : Nat} {M : za_MI} {call : za_CF} {lv : za_LV} {st : List za_V} {t : za_T} {Z : List za_S × List za_X} {Q : State → Prop}
theorem zG_newo {k : Nat} (X : za_Cx p l R s m args meth c E L s0 d M) (hdg : decode M.2.1 pc = .ok (.new k, 3)) (h : za_newo (za_mc M) (za_ms M) (za_CP (za_cl M) k) pc lv st t = some Z) (hk : ∀ S ∈ Z.1, za_G p l e R s m args below meth c Q E (za_nL M) ads0 S) : za_G p l e R s m args below meth c Q E (za_nL M) ads0 (pc, lv, st, t) := by
  obtain ⟨hx, hb, hml, hr, hlocks, hnm, hown, htab, K, hW, h0, hdec, hRf, hRl, hRc, hRs⟩ := X
  refine zs_newo (fun {ci} {k9} {z} hrow => ?_) h hk
  obtain ⟨w1, w2⟩ := zc_row hrow
  obtain ⟨q9, hq9⟩ := zb_5 w2
  obtain ⟨f1, f2, f3, f4, f5⟩ := zc_cls hq9
  refine ⟨by have := (List.getElem?_eq_some_iff.mp hq9).1; simpa using this, ?_⟩
  intro H locs cells slots ls rest ws hP hD hS hc hs kk
  have hl1 := w1 (Cond.classLink (za_ow (za_cl M)) k q9.1) (by simp [za_need, za_wC, hq9])
  have hl2 := w1 (Cond.instantiable q9.1 q9.2.2) (by simp [za_need, za_wC, hq9])
  have hl3 := w1 (Cond.initialized q9.1) (by simp [za_need, za_wC, hq9])
  rw [← f4] at hs kk
  refine va_new (fs := za_dfs ci q9.2.2) hx hb (zk_w K hW) f1 (za_tyX ci) f2 hown (zk_w K hW _ hl1) (zk_w K hW _ hl2) (zk_w K hW _ hl3) (zk_K K hW) hP hD hS (fun q hq => Nat.le_trans h0.1 hq) hq9 (fun j hj => ?_) (by rw [hRc]; exact hc) (by rw [hRs]; exact hs) hdg kk
  show _ = (za_dfs ci q9.2.2).getD j .null
  rw [List.getD_eq_getElem?_getD, za_dfs_at ci _ j hj]
  rfl
theorem zG_newa {ty : ArrayType} (X : za_Cx p l R s m args meth c E L s0 d M) (hdg : decode M.2.1 pc = .ok (.newarray ty, 2)) (h : za_newa (za_mc M) (za_ms M) ty pc lv st t = some Z) (hk : ∀ S ∈ Z.1, za_G p l e R s m args below meth c Q E (za_nL M) ads0 S) : za_G p l e R s m args below meth c Q E (za_nL M) ads0 (pc, lv, st, t) := by
  obtain ⟨hx, hb, hml, hr, hlocks, hnm, hown, htab, K, hW, h0, hdec, hRf, hRl, hRc, hRs⟩ := X
  refine zs_newa (fun {ft} {k} {cA} a0 hty htk hcell => ?_) h hk
  intro H locs cells slots ls rest ws n hP hD hS hn hN hle hc hs kk
  have hK := zk_K K hW
  have harr : (Cond.arrayClass ft).before args s = true ∧ a0.1 * componentBytes ft ≤ 536870912 ∧ ∀ cB : ClassId, va_RA s cB ft → cB = cA := by
    have h9 := (hK.2 k (cA, ft) htk).2
    match k, htk with
    | 0, htk =>
      cases htk
      exact ⟨zk_w K hW _ zx_arI, Nat.le_trans (Nat.mul_le_mul_right _ hle) (by decide), fun cB hB => Option.some.inj (Eq.trans (Eq.symm hB) h9)⟩
    | 1, htk =>
      cases htk
      exact ⟨zk_w K hW _ zx_arB, Nat.le_trans (Nat.mul_le_mul_right _ hle) (by decide), fun cB hB => Option.some.inj (Eq.trans (Eq.symm hB) h9)⟩
    | 2, htk =>
      cases htk
      exact ⟨zk_w K hW _ zx_arZ, Nat.le_trans (Nat.mul_le_mul_right _ hle) (by decide), fun cB hB => Option.some.inj (Eq.trans (Eq.symm hB) h9)⟩
    | 3, htk =>
      cases htk
      exact ⟨zk_w K hW _ zx_arJ, Nat.le_trans (Nat.mul_le_mul_right _ hle) (by decide), fun cB hB => Option.some.inj (Eq.trans (Eq.symm hB) h9)⟩
    | _ + 4, htk => cases htk
  obtain ⟨ha1, ha2, ha3⟩ := harr
  refine va_newa (a0 := a0) hx hb (by rw [hty]; exact ha1) hty hK hP hD hS (fun q hq => Nat.le_trans h0.1 hq) hcell hn hN ha2 (by rw [hRc]; exact hc) (by rw [hRs]; exact hs) hdg (fun q cB H1 g1 g2 g3 g4 => ?_)
  have hB : va_RA s cB ft := (g1.2 4 (cB, ft) rfl).2
  have e9 := ha3 cB hB
  subst e9
  exact kk q H1 g2 g3 g4
theorem zG_aft {rest : List za_V} {xs : List za_X} {cp : Nat → Option za_row} {a9 : Array Value} {mcY msY cells slots : Nat} {ads : List Nat} {H : Heap} {locs : List Loc} {ls : Array Slot} {stk rst : List Value}
    (h0 : za_Bl E s.heap) (hnx : za_nox xs = true)
    (hr : vx_Run p l e R s m args below meth c H locs cells slots mcY msY (F0 m pc ls stk) rst (za_Qc E ads xs a9) (za_XC E ads xs) (za_A E))
    (hcat : za_cat2 (za_aft M cp pc lv rest (cells + mcY) (slots + msY)) xs = some Z)
    (hk : ∀ S ∈ Z.1, za_G p l e R s m args below meth c Q E (za_nL M) ads0 S)
    (h1 : ads0 <+: ads) (h3 : za_F2 (za_gV (za_σ E) ads) rest rst) (h4 : ∃ lc, lv_has ls (za_nL M) lc ∧ za_F2 (za_gP (za_σ E) ads) lv lc) (h6 : va_S (za_A E) s.heap H locs) :
    W p l e R s m args below meth c H locs cells slots Q (F0 m pc ls stk) := by
  intro T hT X
  rcases hr T hT X with ⟨v, st₀, t9, T', L9, g0, X', hL, e1, e2, hq, st⟩ | ⟨q, st₀, t9, T', L9, nm, ce, g0, X', hL, e1, e2, hx9, hce, hcv, hcl, st⟩
  · obtain ⟨v9, h9, ρ9, ads9, w9, m1, m2, m3, m4, m5, m6, m7⟩ := hq
    cases m2
    have hS : va_S (za_A E) s.heap T'.heap (locs ++ L9) := by
      refine ⟨X'.same.2.1, fun q hq1 hq2 => ?_, fun z hz => ?_⟩
      · have hq3 : q < (za_H0 E).size := Nat.not_le.mp hq2
        rw [e1, m7.2 q hq3, h0.2 q hq3]
      · rcases List.mem_append.mp hz with z1 | z1
        · exact h6.2.2 z z1
        · exact hL z z1
    obtain ⟨z, z1, z2, -⟩ := za_cat2_mem hcat m1
    have hG : za_G p l e R s m args below meth c Q E (za_nL M) ads0 (pc + 3, lv, v9.toList ++ rest, h9, ρ9, cells + mcY, slots + msY) := by
      cases v9 with
      | none => cases z1; exact hk _ (z2 _ List.mem_cons_self)
      | some v9 => cases z1; exact hk _ (z2 _ List.mem_cons_self)
    obtain ⟨t2, a1, b1⟩ := hG ads9 T'.heap (locs ++ L9) ls (v.toList ++ rst) ⟨h1.trans m4, m5, za_gW_st m3 (za_F2_mono (fun _ _ => za_gV_mono m4) h3), za_lv_mono m4 h4, by rw [e1]; exact m6, hS⟩ T' rfl X'
    exact ⟨t2, st t2 a1, b1⟩
  · obtain ⟨ex, h9, ρ9, ads9, m1, mex, m2, m4, m5, m6, m7⟩ := hx9
    exact absurd m1 (za_nox_ok hnx)
theorem zG_inv {Y : za_MI} {j k : Nat} (X : za_Cx p l R s m args meth c E L s0 d M) (IH : za_IH l E s0 d call) (hj : za_MT j = some Y)
    (rule : ∀ {H : Heap} {locs : List Loc} {cells slots : Nat} {ls : Array Slot} {as : List za_V} {As rst : List Value} {xs : List za_X} {ads : List Nat}, as = (st.take k).reverse → cells + za_mc Y ≤ R.cells ∧ slots + za_ms Y ≤ R.slots → vx_Met l Y.1 [za_word Y] (za_rm d Y) (za_Pc E s0 ads as t.1 t.2.1) (za_Qc E ads xs) (za_XC E ads xs) (za_mc Y) (za_ms Y) (za_A E) → za_nox xs = true → (∀ U : State, U.heap = H → s.WarmedH U.vm → za_Pc E s0 ads as t.1 t.2.1 As.toArray U) → za_F2 (za_gV (za_σ E) ads) as As → za_Wd E ads t.1 H → k ≤ st.length → ls.size = za_nL M → (rst.map fun v => v.category).sum ≤ 8 →
      vx_Run p l e R s m args below meth c H locs cells slots (za_mc Y) (za_ms Y) (F0 m pc ls (As.reverse ++ rst)) rst (za_Qc E ads xs As.toArray) (za_XC E ads xs) (za_A E))
    (h : za_inv true M (za_CP (za_cl M)) Y call j k pc lv st t = some Z) (hk : ∀ S ∈ Z.1, za_G p l e R s m args below meth c Q E (za_nL M) ads0 S) : za_G p l e R s m args below meth c Q E (za_nL M) ads0 (pc, lv, st, t) := by
  obtain ⟨hx, hb, hml, hr, hlocks, hnm, hown, htab, K, hW, h0, hdec, hRf, hRl, hRc, hRs⟩ := X
  unfold za_inv at h
  obtain ⟨g1, h⟩ := za_bif h
  obtain ⟨g2, h⟩ := za_bif h
  obtain ⟨g3, h⟩ := za_bif h
  obtain ⟨g4, h⟩ := za_bif h
  split at h
  · cases h
  · rename_i xs hc
    obtain ⟨g5, h⟩ := za_bif h
    intro ads H locs ls stk Mm
    obtain ⟨h1, h2, h3, h4, h5, h6⟩ := Mm
    obtain ⟨As, rst, e9, s1, s2⟩ : ∃ As rst, stk = As.reverse ++ rst ∧ za_F2 (za_gV (za_σ E) ads) (st.take k).reverse As ∧ za_F2 (za_gV (za_σ E) ads) (st.drop k) rst :=
      ⟨(stk.take k).reverse, stk.drop k, by simp, za_F2_rev (za_F2_split k h3).1, (za_F2_split k h3).2⟩
    subst e9
    have hsz : ls.size = za_nL M := by
      obtain ⟨lc, l9, -⟩ := h4
      exact l9.1
    have hB := za_Bl_S h0 h6
    have hnx : za_nox xs = true := g5
    have hrun := rule (H := H) (locs := locs) (cells := t.2.2.1) (slots := t.2.2.2) (ls := ls) (rst := rst) rfl ⟨by rw [hRc]; exact za_ble g3, by rw [hRs]; exact za_ble g4⟩ (IH j Y _ _ _ xs ads hj hc) hnx (fun U hU hWU => ⟨As, rfl, s1, h2, by rw [hU]; exact h5, State.WarmedH.trans hW hWU, by rw [hU]; exact hB⟩) s1 h5 (za_ble g1) hsz (by rw [za_wt_ok s2]; exact za_ble g2)
    exact zG_aft h0 hnx hrun h hk h1 s2 h4 h6
theorem zG_spec {k : Nat} (X : za_Cx p l R s m args meth c E L s0 d M) (IH : za_IH l E s0 d call) (hdg : decode M.2.1 pc = .ok (.invokespecial k, 3)) (h : za_spec M (za_CP (za_cl M)) za_MT call (za_CP (za_cl M) k) pc lv st t = some Z) (hk : ∀ S ∈ Z.1, za_G p l e R s m args below meth c Q E (za_nL M) ads0 S) : za_G p l e R s m args below meth c Q E (za_nL M) ads0 (pc, lv, st, t) := by
  have hfix := zj_fix X
  obtain ⟨hx, hb, hml, -, -, -, hown, -, K, hW, -, -, hRf, hRl, -⟩ := id X
  have recv : ∀ {n : Nat}, za_isRf st n = true → ∀ {ads : List Nat} {As : List Value}, za_F2 (za_gV (za_σ E) ads) (st.take (n + 1)).reverse As → n + 1 ≤ st.length → ∃ b Bs, As = .ref b :: Bs ∧ Bs.length = n := by
    intro n hrf ads As hA hle
    obtain ⟨q, e1⟩ := zl_rf hrf
    rw [zl_rev e1] at hA
    obtain ⟨_, Bs, rfl, ⟨b, rfl, hb⟩, hB⟩ := za_F2_cons hA
    exact ⟨b, Bs, rfl, zl_len (n := n) hB (by omega)⟩
  unfold za_spec at h
  split at h
  · rename_i j n z hrow
    obtain ⟨w1, w2⟩ := zc_row hrow
    split at h
    · rename_i Y hj
      obtain ⟨hrk, h⟩ := za_bif h
      have hs := zb_Y (show za_sY j _ = true from w2) hj
      simp only [Bool.and_eq_true, decide_eq_true_eq] at hs
      obtain ⟨⟨⟨s1, s2⟩, s3⟩, s4⟩ := hs
      have l1 := zk_w K hW (a9 := args) _ (w1 (Cond.methodLink (za_ow (za_cl M)) k Y.1) (by simp [za_need, za_wY, hj]))
      have l2 := zk_w K hW (a9 := args) _ (w1 (Cond.instanceMethod Y.1) (by simp [za_need, za_wY, hj]))
      refine zG_inv X IH hj ?_ h hk
      intro H locs cells slots ls as As rst xs ads has hf hM hnx hPc hA hw hle hsz h8
      subst has
      obtain ⟨b, Bs, rfl, hlen⟩ := recv hrk hA hle
      have hcb := zj_CB X hj s4 s1 l1
      rw [s3] at hcb
      exact zr_of (va_runI hfix (zo_met hM hnx) ⟨hcb, s2, l2⟩ ⟨za_Pc_blind, hPc⟩ rfl hlen hsz (by show (Value.ref b :: Bs).reverse ++ rst = _; simp) (by show 2 * 0 + _ ≤ 8; omega) hdg hf)
    · cases h
  · rename_i j n z hrow
    obtain ⟨w1, w2⟩ := zc_row hrow
    split at h
    · rename_i Y hj
      obtain ⟨hrk, h⟩ := za_bif h
      have hs := zb_Y (show za_sY j _ = true from w2) hj
      simp only [Bool.and_eq_true, decide_eq_true_eq] at hs
      obtain ⟨⟨⟨s1, s2⟩, s3⟩, s4⟩ := hs
      have l1 := va_Nw.use (A := args) rfl (((K.2.2.2.1 _ (zc_nest hrow (Cond.methodLinkNest (za_ow (za_cl M)) k Y.1 RX11) (by simp [za_nneed, za_wY, hj])))).warmM hW)
      have l2 := zk_w K hW (a9 := args) _ (w1 (Cond.instanceMethod Y.1) (by simp [za_need, za_wY, hj]))
      refine zG_inv X IH hj ?_ h hk
      intro H locs cells slots ls as As rst xs ads has hf hM hnx hPc hA hw hle hsz h8
      subst has
      obtain ⟨b, Bs, rfl, hlen⟩ := recv hrk hA hle
      have hcb := zj_CN X hj s4 s1 l1
      rw [s3] at hcb
      exact zr_of (va_runIN hfix (zo_met hM hnx) ⟨hcb, s2, l2⟩ ⟨za_Pc_blind, hPc⟩ rfl hlen hsz (by show (Value.ref b :: Bs).reverse ++ rst = _; simp) (by show 2 * 0 + _ ≤ 8; omega) hdg hf)
    · cases h
  · rename_i j n z hrow
    obtain ⟨w1, -⟩ := zc_row hrow
    split at h
    · rename_i q rest
      obtain ⟨g1, h⟩ := za_bif h
      intro ads H locs ls stk Mm
      obtain ⟨h1, h2, h3, h4, h5, h6⟩ := Mm
      obtain ⟨_, stk1, rfl, ⟨a, rfl, ha⟩, q1⟩ := za_F2_cons h3
      have l1 := zk_w K hW (a9 := args) _ (w1 (Cond.methodLink (za_ow (za_cl M)) k objectInit) (by simp [za_need]))
      have l2 := zk_w K hW (a9 := args) _ (w1 (Cond.instanceMethod objectInit) (by simp [za_need]))
      have l3 := zk_w K hW (a9 := args) _ (w1 (Cond.code objectInit ⟨#[0xb1]⟩ 1 none) (by simp [za_need]))
      have hsz : ls.size = c.maxLocals := by
        obtain ⟨lc, l9, -⟩ := h4
        exact l9.1.trans hml.symm
      have hw9 := za_wt_ok q1
      have g1 := za_ble g1
      exact W.objInit hx hb hown l1 l2 l3 (g := F0 m pc ls (.ref a :: stk1)) rfl hsz rfl hdg (by omega) (by show 2 * 0 + _ + 12 ≤ R.locals; omega) (zs_go h hk ads H locs ls stk1 ⟨h1, h2, q1, h4, h5, h6⟩)
    · cases h
  · cases h
end ZGQ
end
section
/-! ===== the law's start: where it stands at its loop's head ===== -/
def zd_one (r : za_N) : Option za_S := match r with
  | some ([S], []) => some S
  | _ => none
theorem zd_one_t {r : za_N} {S : za_S} (h : zd_one r = some S) : r = some ([S], []) := by
  unfold zd_one at h
  split at h
  · cases h
    rfl
  · cases h
def zd_st (call : za_CF) (S : za_S) : Option za_S := match S with
  | (pc, lv, st, t) => match za_fe (za_is zL) pc with
    | some (.new k) => zd_one (za_newo (za_mc zL) (za_ms zL) (za_CP (za_cl zL) k) pc lv st t)
    | some .dup => zd_one (za_dup pc lv st t)
    | some (.invokespecial k) => zd_one (za_spec zL (za_CP (za_cl zL)) za_MT call (za_CP (za_cl zL) k) pc lv st t)
    | some (.astore_n k) => zd_one (za_stor1 1 k (za_nL zL) za_isR pc lv st t)
    | some (.iconst k) => zd_one (za_cst k 1 pc lv st t)
    | some (.newarray ty) => zd_one (za_newa (za_mc zL) (za_ms zL) ty pc lv st t)
    | some (.istore k) => zd_one (za_stor1 2 k (za_nL zL) za_isI pc lv st t)
    | _ => none
section ZDS
variable {p : Program} {l : Launch} {e : Env} {R : Room} {s s0 : State} {m : MethodId} {args : Array Value} {below : List Frame} {meth : Method} {c : Code} {E : za_E} {ads0 : List Nat} {L d : Nat} {call : za_CF} {Q : State → Prop}
theorem zd_st_ok {S S' : za_S} (X : za_Cx p l R s m args meth c E L s0 d zL) (IH : za_IH l E s0 d call) (h : zd_st call S = some S') (hk : za_G p l e R s m args below meth c Q E (za_nL zL) ads0 S') : za_G p l e R s m args below meth c Q E (za_nL zL) ads0 S := by
  obtain ⟨hx, hb, hml, hr, hlocks, hnm, hown, htab, K, hW, h0, hdec, hRf, hRl, hRc, hRs⟩ := id X
  obtain ⟨pc, lv, st, t⟩ := S
  have hk' : ∀ S ∈ ([S'], ([] : List za_X)).1, za_G p l e R s m args below meth c Q E (za_nL zL) ads0 S := by
    intro S hS
    rw [List.mem_singleton.mp hS]
    exact hk
  unfold zd_st at h
  dsimp only at h
  split at h
  · rename_i k hfe
    exact zG_newo X (za_fe_1 hdec hfe rfl) (zd_one_t h) hk'
  · rename_i hfe
    exact zs_dup (fun h1 kk => lv_dup hx hb (za_fe_1 hdec hfe rfl) h1 kk) (zd_one_t h) hk'
  · rename_i k hfe
    exact zG_spec X IH (za_fe_1 hdec hfe rfl) (zd_one_t h) hk'
  · rename_i k hfe
    exact zs_storA (fun h1 h2 kk => lv_astore_n hx hb (za_fe_1 hdec hfe rfl) rfl h1 h2 rfl kk) (zd_one_t h) hk'
  · rename_i k hfe
    exact zs_cst (fun _ _ h3 kk => lv_iconst hx hb (za_fe_1 hdec hfe rfl) h3.symm kk) (zd_one_t h) hk'
  · rename_i ty hfe
    exact zG_newa X (za_fe_1 hdec hfe rfl) (zd_one_t h) hk'
  · rename_i k hfe
    exact zs_storI (fun h1 h2 kk => lv_istore hx hb (za_fe_1 hdec hfe rfl) h1 h2 rfl kk) (zd_one_t h) hk'
  · cases h
def zd_go (call : za_CF) : Nat → za_S → Option za_S
  | 0, S => some S
  | n + 1, S => match zd_st call S with
    | some S' => zd_go call n S'
    | none => none
theorem zd_go_ok (X : za_Cx p l R s m args meth c E L s0 d zL) (IH : za_IH l E s0 d call) : ∀ {n : Nat} {S S' : za_S}, zd_go call n S = some S' → za_G p l e R s m args below meth c Q E (za_nL zL) ads0 S' → za_G p l e R s m args below meth c Q E (za_nL zL) ads0 S
  | 0, S, S', h, hk => by
    cases h
    exact hk
  | n + 1, S, S', h, hk => by
    unfold zd_go at h
    split at h
    · rename_i S1 h1
      exact zd_st_ok X IH h1 (zd_go_ok X IH h hk)
    · cases h
end ZDS
/-! the heap in exact words -/
def zd_kd (ty : FieldType) : Nat := match ty with
  | .long => 1
  | .object _ => 2
  | .array _ => 2
  | _ => 0
theorem zd_k0 {H : zp_H} {p k : Nat} {ty : FieldType} (h : zd_kd ty = 0) : zp_fv H p ty k = .inl (H.2.1 p k) := by
  cases ty <;> first | rfl | cases h
theorem zd_k1 {H : zp_H} {p k : Nat} {ty : FieldType} (h : zd_kd ty = 1) : zp_fv H p ty k = .inr (.inl (H.2.2.1 p k)) := by
  cases ty <;> first | rfl | cases h
theorem zd_k2 {H : zp_H} {p k : Nat} {ty : FieldType} (h : zd_kd ty = 2) : zp_fv H p ty k = .inr (.inr (H.2.2.2 p k)) := by
  cases ty <;> first | rfl | cases h
def zd_vk (v : za_V) : Nat := match v with
  | .inl _ => 0
  | .inr (.inl _) => 1
  | .inr (.inr _) => 2
def zd_fok (ci : Nat) : Nat → List za_V → Bool
  | _, [] => true
  | k, v :: l => (Nat.beq (zd_kd (za_tyX ci k)) (zd_vk v)).and (zd_fok ci (k + 1) l)
theorem zd_fok_t {ci : Nat} : ∀ {l : List za_V} {k j : Nat} {v : za_V}, zd_fok ci k l = true → l[j]? = some v → zd_kd (za_tyX ci (k + j)) = zd_vk v
  | [], _, _, _, _, h => by simp at h
  | w :: l, k, 0, v, h, hj => by
    have e : w = v := Option.some.inj hj
    subst e
    exact za_beq (Bool.and_eq_true_iff.mp h).1
  | w :: l, k, j + 1, v, h, hj => by
    have e := zd_fok_t (k := k + 1) (j := j) (Bool.and_eq_true_iff.mp h).2 (show l[j]? = some v from hj)
    rw [show k + (j + 1) = k + 1 + j by omega]
    exact e
def zd_ook (o : za_O) (K : zp_K) : Bool := match o, K with
  | .inl (ci, fs), .inl cj => (Nat.beq ci cj).and ((Nat.beq fs.length (za_nX ci)).and (zd_fok ci 0 fs))
  | .inr (.inl (t, n, _, _)), .inr (t', n') => (Nat.beq t t').and ((Nat.blt t 3).and (Nat.beq n n'))
  | .inr (.inr (n, _, _)), .inr (t', n') => (Nat.beq t' 3).and (Nat.beq n n')
  | _, _ => false
def zd_hok : List za_O → List zp_K → Bool
  | [], [] => true
  | o :: l, K :: m => (zd_ook o K).and (zd_hok l m)
  | _, _ => false
theorem zd_hok_t : ∀ {h : List za_O} {sh : List zp_K}, zd_hok h sh = true → h.length = sh.length ∧ ∀ (p : Nat) (o : zp_K), sh[p]? = some o → ∃ a, h[p]? = some a ∧ zd_ook a o = true
  | [], [], _ => ⟨rfl, fun p o h => by simp at h⟩
  | a :: l, K :: m, hh => by
    obtain ⟨h1, h2⟩ := Bool.and_eq_true_iff.mp hh
    obtain ⟨g1, g2⟩ := zd_hok_t h2
    refine ⟨by simp [g1], fun p o hp => ?_⟩
    cases p with
    | zero =>
      have e : K = o := Option.some.inj hp
      subst e
      exact ⟨a, rfl, h1⟩
    | succ p => exact g2 p o hp
  | [], _ :: _, h => by cases h
  | _ :: _, [], h => by cases h
def zd_int (ws : va_W) (p k : Nat) : Int32 := match ws[p]? with
  | some (_, .inr (_, vs)) => match vs[k]? with
    | some (.int x) => x
    | _ => 0
  | some (_, .inl (_, _, .inl f)) => f k
  | _ => 0
def zd_lng (ws : va_W) (p k : Nat) : Int64 := match ws[p]? with
  | some (_, .inr (_, vs)) => match vs[k]? with
    | some (.long x) => x
    | _ => 0
  | some (_, .inl (_, _, .inr (.inl f))) => f k
  | _ => 0
def zd_ref (h : List za_O) (p k : Nat) : Option Nat := match h[p]? with
  | some (.inl (_, fs)) => match fs[k]? with
    | some (.inr (.inr r)) => r
    | _ => none
  | _ => none
def zd_H (ws : va_W) (h : List za_O) : zp_H := (zB_sh, zd_int ws, zd_lng ws, zd_ref h)
theorem zd_F2g {α β : Type} {P : α → β → Prop} : ∀ {l : List α} {m : List β}, za_F2 P l m → ∀ {k : Nat} {b : β}, m[k]? = some b → ∃ a, l[k]? = some a ∧ P a b
  | [], [], _, k, b, h => by simp at h
  | x :: l, y :: m, hp, 0, b, h => by
    have e : y = b := Option.some.inj h
    subst e
    exact ⟨x, rfl, hp.1⟩
  | x :: l, y :: m, hp, k + 1, b, h => zd_F2g hp.2 (show m[k]? = some b from h)
  | [], _ :: _, hp, _, _, _ => hp.elim
  | _ :: _, [], hp, _, _, _ => hp.elim
theorem zd_W {E : za_E} {ads : List Nat} {h : List za_O} {Hp : Heap} (hW : za_Wd E ads h Hp) (hc : zd_hok h zB_sh = true) : ∃ ws : va_W, zp_Wd E ads (zd_H ws h) Hp ∧ za_F2 (fun o (q : Nat × va_E) => za_gO E ads o q.2) h ws := by
  obtain ⟨ws, e1, e2, e3, e4⟩ := hW
  obtain ⟨g1, g2⟩ := zd_hok_t hc
  refine ⟨ws, ⟨ws, e1, ?_, ?_, e3, e4⟩, e2⟩
  · rw [← za_F2_len e2]
    exact g1
  · intro p o x hp hx
    obtain ⟨a, a1, a2⟩ := g2 p o hp
    obtain ⟨a', b1, b2⟩ := zd_F2g e2 hx
    have ea : a' = a := Option.some.inj (b1.symm.trans a1)
    subst ea
    obtain ⟨ad, x⟩ := x
    match a', o, x, a2, b2, hx, a1 with
    | .inl (ci, fs), .inl cj, .inr (ck, vs), a2, b2, hx, a1 =>
      obtain ⟨c1, c2⟩ := Bool.and_eq_true_iff.mp a2
      obtain ⟨c2, c3⟩ := Bool.and_eq_true_iff.mp c2
      obtain ⟨d1, d2⟩ := b2
      have c1 := za_beq c1
      have c2 := za_beq c2
      subst c1
      subst d1
      refine ⟨rfl, by rw [← za_F2_len d2]; exact c2, fun k w hw => ?_⟩
      obtain ⟨v, v1, v2⟩ := zd_F2g d2 hw
      have ht := zd_fok_t c3 v1
      rw [Nat.zero_add] at ht
      have hI : zd_int ws p k = (match vs[k]? with
        | some (.int x) => x
        | _ => 0) := by
        unfold zd_int
        rw [hx]
      have hLg : zd_lng ws p k = (match vs[k]? with
        | some (.long x) => x
        | _ => 0) := by
        unfold zd_lng
        rw [hx]
      have hRf : zd_ref h p k = (match fs[k]? with
        | some (.inr (.inr r)) => r
        | _ => none) := by
        unfold zd_ref
        rw [a1]
      match v, v2, ht, v1 with
      | .inl i, v2, ht, v1 =>
        obtain ⟨y, rfl, v3⟩ := v2
        rw [zd_k0 ht]
        show Value.int y = .int (zd_int ws p k)
        rw [hI, hw]
      | .inr (.inl i), v2, ht, v1 =>
        obtain ⟨y, rfl, v3⟩ := v2
        rw [zd_k1 ht]
        show Value.long y = .long (zd_lng ws p k)
        rw [hLg, hw]
      | .inr (.inr none), v2, ht, v1 =>
        rw [zd_k2 ht]
        have e9 : zd_ref h p k = none := by rw [hRf, v1]
        show zp_gV ads (.inr (.inr (zd_ref h p k))) w
        rw [e9]
        exact v2
      | .inr (.inr (some r)), v2, ht, v1 =>
        rw [zd_k2 ht]
        have e9 : zd_ref h p k = some r := by rw [hRf, v1]
        show zp_gV ads (.inr (.inr (zd_ref h p k))) w
        rw [e9]
        exact v2
    | .inr (.inl (t, n, d, ups)), .inr (t', n'), .inl (cA, n9, .inl f), a2, b2, hx, a1 =>
      obtain ⟨c1, c2⟩ := Bool.and_eq_true_iff.mp a2
      obtain ⟨c2, c3⟩ := Bool.and_eq_true_iff.mp c2
      obtain ⟨d1, d2, d3, d4⟩ := b2
      have c1 := za_beq c1
      have c3 := za_beq c3
      subst c1 c3 d1
      refine ⟨rfl, d2, d3, fun i hi => ?_⟩
      show f i = zd_int ws p i
      unfold zd_int
      rw [hx]
    | .inr (.inr (n, d, ups)), .inr (t', n'), .inl (cA, n9, .inr (.inl f)), a2, b2, hx, a1 =>
      obtain ⟨c1, c2⟩ := Bool.and_eq_true_iff.mp a2
      obtain ⟨d1, d2, d3⟩ := b2
      have c1 := za_beq c1
      have c2 := za_beq c2
      subst c1 c2 d1
      refine ⟨rfl, rfl, d2, fun i hi => ?_⟩
      show f i = zd_lng ws p i
      unfold zd_lng
      rw [hx]
/-! what is known of its numbers -/
def zd_c (h : List za_O) (p k : Nat) : Option (Int × Int) := match h[p]? with
  | some (.inl (_, fs)) => match fs[k]? with
    | some (.inl (0, lo, hi)) => some (lo, hi)
    | _ => none
  | _ => none
theorem zd_c_ok {E : za_E} {ads : List Nat} {h : List za_O} {ws : va_W} (hF : za_F2 (fun o (q : Nat × va_E) => za_gO E ads o q.2) h ws) {p k : Nat} {lo hi : Int} (hc : zd_c h p k = some (lo, hi)) : lo ≤ (zd_int ws p k).toInt ∧ (zd_int ws p k).toInt ≤ hi := by
  unfold zd_c at hc
  split at hc
  · rename_i ci fs hp
    split at hc
    · rename_i lo' hi' hk
      cases hc
      obtain ⟨⟨ad, x⟩, x1, x2⟩ := za_F2_get hF hp
      match x, x2, x1 with
      | .inr (ck, vs), x2, x1 =>
        obtain ⟨w, w1, y, rfl, w3⟩ := za_F2_get x2.2 hk
        have hI : zd_int ws p k = y := by
          unfold zd_int
          rw [x1]
          show (match vs[k]? with
            | some (.int x) => x
            | _ => 0) = y
          rw [w1]
        rw [hI]
        exact w3
    · cases hc
  · cases hc
def zd_a (h : List za_O) (p i : Nat) : Option (Int × Int) := match h[p]? with
  | some (.inr (.inl (_, n, d, ups))) => bif Nat.blt i n then match za_at d ups i with
    | (0, lo, hi) => some (lo, hi)
    | _ => none else none
  | _ => none
theorem zd_a_ok {E : za_E} {ads : List Nat} {h : List za_O} {ws : va_W} (hF : za_F2 (fun o (q : Nat × va_E) => za_gO E ads o q.2) h ws) {p i : Nat} {lo hi : Int} (hc : zd_a h p i = some (lo, hi)) : lo ≤ (zd_int ws p i).toInt ∧ (zd_int ws p i).toInt ≤ hi := by
  unfold zd_a at hc
  split at hc
  · rename_i t n d ups hp
    obtain ⟨g1, hc⟩ := za_bif hc
    have g1 := za_blt g1
    obtain ⟨⟨ad, x⟩, x1, x2⟩ := za_F2_get hF hp
    match x, x2, x1 with
    | .inl (cA, n9, .inl f), x2, x1 =>
      have w3 := x2.2.2.2 i g1
      have hI : zd_int ws p i = f i := by
        unfold zd_int
        rw [x1]
      rw [hI]
      split at hc
      · rename_i lo' hi' ha
        cases hc
        rw [ha] at w3
        exact w3
      · cases hc
  · cases hc
def zd_l (h : List za_O) (p i : Nat) : Option Int64 := match h[p]? with
  | some (.inr (.inr (n, d, ups))) => bif Nat.blt i n then za_at d ups i else none
  | _ => none
theorem zd_l_ok {E : za_E} {ads : List Nat} {h : List za_O} {ws : va_W} (hF : za_F2 (fun o (q : Nat × va_E) => za_gO E ads o q.2) h ws) {p i : Nat} {u : Int64} (hc : zd_l h p i = some u) : zd_lng ws p i = u := by
  unfold zd_l at hc
  split at hc
  · rename_i n d ups hp
    obtain ⟨g1, hc⟩ := za_bif hc
    have g1 := za_blt g1
    obtain ⟨⟨ad, x⟩, x1, x2⟩ := za_F2_get hF hp
    match x, x2, x1 with
    | .inl (cA, n9, .inr (.inl f)), x2, x1 =>
      have w3 := x2.2.2 i g1 u hc
      have hI : zd_lng ws p i = f i := by
        unfold zd_lng
        rw [x1]
      rw [hI]
      exact w3
  · cases hc
/-! the checks -/
def zd_in (o : Option (Int × Int)) (r : Int × Int) : Bool := match o with
  | some (lo, hi) => (za_ile r.1 lo).and (za_ile hi r.2)
  | none => false
def zd_fck (fr : List (Nat × List (Nat × Int × Int))) (h : List za_O) : Bool := fr.all (fun q => q.2.all (fun f => (Nat.beq f.1 100).or (zd_in (zd_c h q.1 f.1) f.2)))
def zd_ack (ar : List (Nat × Nat × List (Int × Int))) (h : List za_O) : Bool := ar.all (fun q => match zB_sh[q.1]? with
  | some (.inr (_, n)) => (List.range n).all (fun i => match (zB_al ar q.1).2[i % (zB_al ar q.1).1]? with
    | some r => zd_in (zd_a h q.1 i) r
    | none => true)
  | _ => false)
def zd_eqr (a b : Option Nat) : Bool := match a, b with
  | none, none => true
  | some x, some y => Nat.beq x y
  | _, _ => false
theorem zd_eqr_t : ∀ {a b : Option Nat}, zd_eqr a b = true → a = b
  | none, none, _ => rfl
  | some x, some y, h => by rw [za_beq (show Nat.beq x y = true from h)]
  | none, some _, h => by cases h
  | some _, none, h => by cases h
def zd_rck (h : List za_O) : Bool := (zB_rf.all (fun q => q.2.all (fun f => zd_eqr (zd_ref h q.1 f.1) f.2))).and ((zB_cr 0).all (fun f => zd_eqr (zd_ref h 0 f.1) f.2))
def zd_i6 : Int32 := Int32.ofNat 6
def zd_qck (h : List za_O) (a : Nat) : Bool := (List.range 4).all (fun k => match zd_l h a k with
  | some u => decide (u = zq_o zd_i6 zd_i6 (zq_col zd_i6 zd_i6) k)
  | none => false)
def zd_ck (h : List za_O) : Bool := (zd_hok h zB_sh).and ((zd_fck zB_fr h).and ((zd_fck zR_fr h).and ((zd_ack zB_ar h).and ((zd_ack zR_ar h).and ((zd_rck h).and ((zd_qck h 3).and ((zd_qck h 23).and ((zd_in (zd_c h 2 0) (6, 6)).and ((zd_in (zd_c h 22 0) (6, 6)).and ((zd_in (zd_c h 52 4) (0, 2)).and ((zd_in (zd_c h 72 8) (0, 0)).and ((zd_in (zd_c h 72 62) (0, 0)).and ((zd_in (zd_c h 72 81) (0, 0)).and ((zd_in (zd_c h 0 1) (0, 0)).and ((zd_in (zd_c h 72 22) (0, 0)).and ((zd_in (zd_c h 2 1) (6, 6)).and (zd_in (zd_c h 22 1) (6, 6))))))))))))))))))
theorem zd_in_ok {E : za_E} {ads : List Nat} {h : List za_O} {ws : va_W} (hF : za_F2 (fun o (q : Nat × va_E) => za_gO E ads o q.2) h ws) {p k : Nat} {r : Int × Int} (hc : zd_in (zd_c h p k) r = true) : r.1 ≤ (zd_int ws p k).toInt ∧ (zd_int ws p k).toInt ≤ r.2 := by
  unfold zd_in at hc
  split at hc
  · rename_i lo hi h1
    obtain ⟨a, b⟩ := Bool.and_eq_true_iff.mp hc
    obtain ⟨c, d⟩ := zd_c_ok hF h1
    exact ⟨Int.le_trans (za_ile_t a) c, Int.le_trans d (za_ile_t b)⟩
  · cases hc
theorem zd_ina_ok {E : za_E} {ads : List Nat} {h : List za_O} {ws : va_W} (hF : za_F2 (fun o (q : Nat × va_E) => za_gO E ads o q.2) h ws) {p k : Nat} {r : Int × Int} (hc : zd_in (zd_a h p k) r = true) : r.1 ≤ (zd_int ws p k).toInt ∧ (zd_int ws p k).toInt ≤ r.2 := by
  unfold zd_in at hc
  split at hc
  · rename_i lo hi h1
    obtain ⟨a, b⟩ := Bool.and_eq_true_iff.mp hc
    obtain ⟨c, d⟩ := zd_a_ok hF h1
    exact ⟨Int.le_trans (za_ile_t a) c, Int.le_trans d (za_ile_t b)⟩
  · cases hc
theorem zd_l1 {α : Type} {k : Nat} {r : α} : ∀ {l : List (Nat × α)}, zB_l2.zB_l1 l k = some r → ∃ f ∈ l, f.1 = k ∧ f.2 = r
  | [], h => by cases h
  | q :: l, h => by
    unfold zB_l2.zB_l1 at h
    cases hb : Nat.beq q.1 k with
    | true =>
      rw [hb] at h
      cases h
      exact ⟨q, List.mem_cons_self, za_beq hb, rfl⟩
    | false =>
      rw [hb] at h
      obtain ⟨q', h1, h2⟩ := zd_l1 h
      exact ⟨q', List.mem_cons_of_mem _ h1, h2⟩
theorem zd_l2 {α : Type} {p k : Nat} {r : α} : ∀ {l : List (Nat × List (Nat × α))}, zB_l2 l p k = some r → ∃ q ∈ l, q.1 = p ∧ ∃ f ∈ q.2, f.1 = k ∧ f.2 = r
  | [], h => by cases h
  | q :: l, h => by
    unfold zB_l2 at h
    cases hb : Nat.beq q.1 p with
    | true =>
      rw [hb] at h
      exact ⟨q, List.mem_cons_self, za_beq hb, zd_l1 h⟩
    | false =>
      rw [hb] at h
      obtain ⟨q', h1, h2⟩ := zd_l2 h
      exact ⟨q', List.mem_cons_of_mem _ h1, h2⟩
theorem zd_al {p : Nat} : ∀ (l : List (Nat × Nat × List (Int × Int))), (∃ q ∈ l, q.1 = p) ∨ zB_al l p = (1, [(-2147483648, 2147483647)])
  | [] => Or.inr rfl
  | q :: l => by
    cases hb : Nat.beq q.1 p with
    | true => exact Or.inl ⟨q, List.mem_cons_self, za_beq hb⟩
    | false =>
      rcases zd_al (p := p) l with ⟨q', h1, h2⟩ | h1
      · exact Or.inl ⟨q', List.mem_cons_of_mem _ h1, h2⟩
      · refine Or.inr ?_
        unfold zB_al
        rw [hb]
        exact h1
section ZDC
variable {E : za_E} {ads : List Nat} {h : List za_O} {ws : va_W}
theorem zd_fck_ok (hF : za_F2 (fun o (q : Nat × va_E) => za_gO E ads o q.2) h ws) {fr : List (Nat × List (Nat × Int × Int))} (hc : zd_fck fr h = true) {p k : Nat} {r : Int × Int} (hr : zB_l2 fr p k = some r) (hk : k ≠ 100) : r.1 ≤ (zd_int ws p k).toInt ∧ (zd_int ws p k).toInt ≤ r.2 := by
  obtain ⟨q, q1, rfl, f, f1, rfl, rfl⟩ := zd_l2 hr
  have h1 := List.all_eq_true.mp (List.all_eq_true.mp hc q q1) f f1
  rcases Bool.or_eq_true_iff.mp h1 with h2 | h2
  · exact absurd (za_beq h2) hk
  · exact zd_in_ok hF h2
theorem zd_ack_ok (hF : za_F2 (fun o (q : Nat × va_E) => za_gO E ads o q.2) h ws) {ar : List (Nat × Nat × List (Int × Int))} (hc : zd_ack ar h = true) {p t n i : Nat} {r : Int × Int} (hp : zB_sh[p]? = some (.inr (t, n))) (hi : i < n) (hr : (zB_al ar p).2[i % (zB_al ar p).1]? = some r) : zk_in (zd_int ws p i).toInt r := by
  rcases zd_al (p := p) ar with ⟨q, q1, rfl⟩ | h1
  · have h2 := List.all_eq_true.mp hc q q1
    rw [hp] at h2
    have h3 := List.all_eq_true.mp h2 i (List.mem_range.mpr hi)
    rw [hr] at h3
    exact zd_ina_ok hF h3
  · exact zI_full h1 hr
theorem zd_rck_ok (hc : zd_rck h = true) : ∀ p k r, zB_r 0 p k = some r → zd_ref h p k = r := by
  obtain ⟨c1, c2⟩ := Bool.and_eq_true_iff.mp hc
  have base : ∀ {p k : Nat} {r : Option Nat}, zB_l2 zB_rf p k = some r → zd_ref h p k = r := by
    intro p k r hr
    obtain ⟨q, q1, rfl, f, f1, rfl, rfl⟩ := zd_l2 hr
    exact zd_eqr_t (List.all_eq_true.mp (List.all_eq_true.mp c1 q q1) f f1)
  intro p k r hr
  unfold zB_r at hr
  cases hp : Nat.beq p 0 with
  | false =>
    rw [hp] at hr
    exact base hr
  | true =>
    have e := za_beq hp
    subst e
    rw [hp] at hr
    simp only [cond_true] at hr
    cases h1 : zB_l2.zB_l1 (zB_cr 0) k with
    | none =>
      rw [h1] at hr
      exact base hr
    | some r1 =>
      rw [h1] at hr
      cases hr
      obtain ⟨f, f1, rfl, rfl⟩ := zd_l1 h1
      exact zd_eqr_t (List.all_eq_true.mp c2 f f1)
theorem zd_qck_ok (hF : za_F2 (fun o (q : Nat × va_E) => za_gO E ads o q.2) h ws) {p a : Nat} (hc : zd_qck h a = true) (h0 : zd_in (zd_c h p 0) (6, 6) = true) (h9 : zd_in (zd_c h p 1) (6, 6) = true) : zQ p a (zd_H ws h) := by
  have e0 := zd_in_ok hF h0
  have e0 : (6 : Int) ≤ (zd_int ws p 0).toInt ∧ (zd_int ws p 0).toInt ≤ (6 : Int) := e0
  have e1 : zd_int ws p 0 = zd_i6 := Int32.toInt_inj.mp (by
    have : zd_i6.toInt = 6 := by decide
    omega)
  have e9 := zd_in_ok hF h9
  have e9 : (6 : Int) ≤ (zd_int ws p 1).toInt ∧ (zd_int ws p 1).toInt ≤ (6 : Int) := e9
  have e3 : zd_int ws p 1 = zd_i6 := Int32.toInt_inj.mp (by
    have : zd_i6.toInt = 6 := by decide
    omega)
  have e2 : ∀ k, k < 4 → zd_lng ws a k = zq_o zd_i6 zd_i6 (zq_col zd_i6 zd_i6) k := by
    intro k k1
    have h1 := List.all_eq_true.mp hc k (List.mem_range.mpr k1)
    split at h1
    · rename_i u hu
      rw [zd_l_ok hF hu]
      exact of_decide_eq_true h1
    · cases h1
  refine ⟨?_, fun k hk => ?_⟩
  rotate_left
  · show zd_lng ws a k = zq_o (zd_int ws p 0) (zd_int ws p 1) (zq_col (zd_int ws p 0) (zd_int ws p 1)) k
    rw [e1, e3]
    exact e2 k hk
  intro k c k1 k2 k3 k4
  show 0 ≤ zq_n k c.toInt (zd_int ws p 0).toInt ∧ zq_n k c.toInt (zd_int ws p 0).toInt ≤ 63
  rw [e1]
  refine zq_ok (h := zd_i6) (by decide) (by decide) k1 k2 k3 ?_
  have k4 : zq_b (zd_lng ws a k) c ≠ 0 := k4
  rw [e2 k k1] at k4
  exact k4
theorem zd_ck_ok (hF : za_F2 (fun o (q : Nat × va_E) => za_gO E ads o q.2) h ws) (hc : zd_ck h = true) : zI 0 0 (zd_H ws h) := by
  unfold zd_ck at hc
  obtain ⟨-, hc⟩ := Bool.and_eq_true_iff.mp hc
  obtain ⟨cb, hc⟩ := Bool.and_eq_true_iff.mp hc
  obtain ⟨cr, hc⟩ := Bool.and_eq_true_iff.mp hc
  obtain ⟨ab, hc⟩ := Bool.and_eq_true_iff.mp hc
  obtain ⟨ar, hc⟩ := Bool.and_eq_true_iff.mp hc
  obtain ⟨rc, hc⟩ := Bool.and_eq_true_iff.mp hc
  obtain ⟨q3, hc⟩ := Bool.and_eq_true_iff.mp hc
  obtain ⟨q23, hc⟩ := Bool.and_eq_true_iff.mp hc
  obtain ⟨w2, hc⟩ := Bool.and_eq_true_iff.mp hc
  obtain ⟨w22, hc⟩ := Bool.and_eq_true_iff.mp hc
  obtain ⟨c52, hc⟩ := Bool.and_eq_true_iff.mp hc
  obtain ⟨c8, hc⟩ := Bool.and_eq_true_iff.mp hc
  obtain ⟨c62, hc⟩ := Bool.and_eq_true_iff.mp hc
  obtain ⟨c81, hc⟩ := Bool.and_eq_true_iff.mp hc
  obtain ⟨c01, c22⟩ := Bool.and_eq_true_iff.mp hc
  obtain ⟨c22, c61⟩ := Bool.and_eq_true_iff.mp c22
  obtain ⟨c61, c62'⟩ := Bool.and_eq_true_iff.mp c61
  have c52 : (0 : Int) ≤ (zd_int ws 52 4).toInt ∧ (zd_int ws 52 4).toInt ≤ (2 : Int) := zd_in_ok hF c52
  have c8 : (0 : Int) ≤ (zd_int ws 72 8).toInt ∧ (zd_int ws 72 8).toInt ≤ (0 : Int) := zd_in_ok hF c8
  have c62 : (0 : Int) ≤ (zd_int ws 72 62).toInt ∧ (zd_int ws 72 62).toInt ≤ (0 : Int) := zd_in_ok hF c62
  have c81 : (0 : Int) ≤ (zd_int ws 72 81).toInt ∧ (zd_int ws 72 81).toInt ≤ (0 : Int) := zd_in_ok hF c81
  have c01 : (0 : Int) ≤ (zd_int ws 0 1).toInt ∧ (zd_int ws 0 1).toInt ≤ (0 : Int) := zd_in_ok hF c01
  have c22 : (0 : Int) ≤ (zd_int ws 72 22).toInt ∧ (zd_int ws 72 22).toInt ≤ (0 : Int) := zd_in_ok hF c22
  have hfv : ∀ p k, ¬ (p = 72 ∧ k = 100) → zk_fv zg (zd_H ws h) p k = (zd_int ws p k).toInt := by
    intro p k hn
    unfold zk_fv
    rw [if_neg hn]
    rfl
  have hrf := zd_rck_ok rc
  have hB : zk_Bs (zB_c 0) zg zJc (zd_H ws h) := by
    refine ⟨rfl, hrf, fun q hq => absurd hq List.not_mem_nil, fun q hq => absurd hq List.not_mem_nil, fun p k r hr => Or.inr ?_, fun p t n i r hp hi hr => zd_ack_ok hF ab hp hi hr, fun c hc => Or.inr ?_, zd_qck_ok hF q3 w2 c61, zd_qck_ok hF q23 w22 c62'⟩
    · have hr : zB_l2 zB_fr p k = some r := hr
      have hk : k ≠ 100 := by
        rintro rfl
        obtain ⟨q, q1, q2, f, f1, f2, f3⟩ := zd_l2 hr
        have t : zB_fr.all (fun q => q.2.all (fun f => (Nat.beq f.1 100).not)) = true := by decide +kernel
        have t1 := List.all_eq_true.mp (List.all_eq_true.mp t q q1) f f1
        rw [f2] at t1
        cases t1
      rw [hfv p k (fun h9 => hk h9.2)]
      exact zd_fck_ok hF cb hr hk
    · have hc : c ∈ zB_cd := hc
      unfold zB_cd at hc
      rcases List.mem_cons.mp hc with rfl | hc
      · intro h9
        rw [hfv 52 4 (by decide)] at h9
        have h9 : (zd_int ws 52 4).toInt = 3 := h9
        omega
      · exact absurd hc List.not_mem_nil
  have hZ : zk_Bs z0R zg zJ (zd_H ws h) := by
    have har : ∀ (p t n i : Nat) (r : Int × Int), z0R.1[p]? = some (.inr (t, n)) → i < n → (z0R.2.2.2.1 p).2[i % (z0R.2.2.2.1 p).1]? = some r → zk_in ((zd_H ws h).2.1 p i).toInt r := fun p t n i r hp hi hr => zd_ack_ok hF ar hp hi hr
    refine ⟨rfl, (zB_Bc hB).2.1, fun q hq => absurd hq List.not_mem_nil, fun q hq => absurd hq List.not_mem_nil, fun p k r hr => Or.inr ?_, har, fun c hc => absurd hc List.not_mem_nil, ?_, ?_, ?_⟩
    · by_cases hk : p = 72 ∧ k = 100
      · obtain ⟨rfl, rfl⟩ := hk
        have e : r = (-1, 20) := (Option.some.inj hr).symm
        rw [e]
        unfold zk_fv
        rw [if_pos ⟨rfl, rfl⟩]
        exact zg_in _
      · rw [hfv p k hk]
        have hr : zB_l2 zR_fr p k = some r := hr
        refine zd_fck_ok hF cr hr ?_
        intro h9
        apply hk
        refine ⟨?_, h9⟩
        cases hb : Nat.beq 72 p with
        | true => exact (za_beq hb).symm
        | false =>
          unfold zR_fr zB_l2 at hr
          rw [hb] at hr
          cases hr
    · intro r hr
      have hr : (r : Int) < (zd_int ws 72 8).toInt := hr
      omega
    · intro s hs
      have e : ((zd_H ws h).2.1 72 62).toInt.toNat = 0 := by
        show (zd_int ws 72 62).toInt.toNat = 0
        omega
      rw [e]
      have b := har 74 0 32 (4 * s + 2) (0, 8) rfl (by omega) (by
        show (zB_al zR_ar 74).2[(4 * s + 2) % (zB_al zR_ar 74).1]? = some (0, 8)
        rw [show (zB_al zR_ar 74) = (4, [(0, 63), ((-2147483648), 2147483647), (0, 8), (0, 255)]) from rfl]
        show ([(0, 63), ((-2147483648), 2147483647), (0, 8), (0, 255)] : List (Int × Int))[(4 * s + 2) % 4]? = _
        rw [show (4 * s + 2) % 4 = 2 by omega]
        rfl)
      exact b.1
    · intro s hs
      have e : ((zd_H ws h).2.1 72 81).toInt.toNat = 0 := by
        show (zd_int ws 72 81).toInt.toNat = 0
        omega
      rw [e]
      have b := har 101 0 32 (4 * s + 2) (0, 8) rfl (by omega) (by
        show (zB_al zR_ar 101).2[(4 * s + 2) % (zB_al zR_ar 101).1]? = some (0, 8)
        rw [show (zB_al zR_ar 101) = (4, [(0, 63), ((-2147483648), 2147483647), (0, 8), (0, 255)]) from rfl]
        show ([(0, 63), ((-2147483648), 2147483647), (0, 8), (0, 255)] : List (Int × Int))[(4 * s + 2) % 4]? = _
        rw [show (4 * s + 2) % 4 = 2 by omega]
        rfl)
      exact b.1
  exact ⟨hB, hZ, by show (zd_int ws 0 1).toInt = ((20 * 0 : Nat) : Int); omega, by show (zd_int ws 72 22).toInt = ((20 * 0 : Nat) : Int); omega, by decide, by decide⟩
end ZDC
end
section
/-! ===== the constructors, run ===== -/
def zd_S0 : za_S := (0, [(0, .inr (.inr (some 0)))], [], [], [], 0, 0)
def zd_lv : List (Nat × za_V) := [(4, .inl (0, 0, 0)), (3, .inr (.inr (some 105))), (2, .inr (.inr (some 73))), (1, .inr (.inr (some 1))), (0, .inr (.inr (some 0)))]
def zd_nil (l : List za_V) : Bool := match l with
  | [] => true
  | _ => false
def zd_fin (S : za_S) : Bool := (Nat.beq S.1 23).and ((decide (S.2.1 = zd_lv)).and ((zd_nil S.2.2.1).and ((zd_ck S.2.2.2.1).and ((Nat.ble S.2.2.2.2.2.1 500000).and (Nat.ble S.2.2.2.2.2.2 7000000)))))
def zd_all (o : Option za_S) : Bool := match o with
  | some S => zd_fin S
  | none => false
set_option maxRecDepth 100000 in
theorem zd_run : zd_all (zd_go (za_call0 100000 60) 13 zd_S0) = true := by decide +kernel
end
section
/-! ===== the words that the reader knows: String.length, String.charAt over the constant ===== -/
def zS_by : List Int32 := zp_spell.map Int32.ofNat
/-- the constant at the start: its object, its bytes; what String's methods ask besides -/
def zS_K (E : za_E) (s0 : State) (a b : Nat) : Prop := va_Z RJ0 "COMPACT_STRINGS" "Z" (.int 1) (za_A E) s0 s0.heap ∧ va_Zq RJ3 "SIOOBE_FORMATTER" "Ljava/util/function/BiFunction;" (za_A E) s0 s0.heap ∧ va_O RJ0 a (za_A E) s0 s0.heap ∧ va_OF RJ0 "coder" "B" (.int 0) a (za_A E) s0 s0.heap ∧ va_OF RJ0 "value" "[B" (.ref b) a (za_A E) s0 s0.heap ∧ va_T .byte b 101 (fun j => .int (zS_by.getD j 0)) (za_A E) s0 s0.heap ∧ ∃ tx, vk_R RX9 56 tx a s0
def zS_Pc (E : za_E) (s0 : State) (as : List Value) : Array Value → State → Prop := fun a U => a = as.toArray ∧ s0.WarmedH U.vm ∧ za_Bl E U.heap
def zS_Qc (v : Option Value) : Array Value → State → Outcome → State → Prop := fun _ s o t => o = .returned v ∧ t.heap = s.heap
theorem zS_blind {E : za_E} {s0 : State} {as : List Value} : FrameBlind (zS_Pc E s0 as) := fun _ _ _ _ q => q
theorem zS_np {y : MethodName} {n : Nat} (h : (parseMethodDescriptor y.desc).map (fun d => d.parameters.length) = some n) : ∀ sig, parseMethodDescriptor y.desc = some sig → n = sig.parameters.length := by
  intro sig hs
  rw [hs] at h
  exact (Option.some.inj h).symm
abbrev zS_r (n : Nat) : Room := { frames := n, cells := 0, slots := 0, locals := 40 * n }
theorem zSd_c0 : decode cJ0_coder_7d493 0 = .ok (.getstatic 38, 3) := by decide +kernel
theorem zSd_c3 : decode cJ0_coder_7d493 3 = .ok (.ifCond .eq 10, 3) := by decide +kernel
theorem zSd_c6 : decode cJ0_coder_7d493 6 = .ok (.aload_n 0, 1) := by decide +kernel
theorem zSd_c7 : decode cJ0_coder_7d493 7 = .ok (.getfield 15, 3) := by decide +kernel
theorem zSd_c10 : decode cJ0_coder_7d493 10 = .ok (.goto 4, 3) := by decide +kernel
theorem zSd_c14 : decode cJ0_coder_7d493 14 = .ok (.ireturn, 1) := by decide +kernel
theorem zSd_i0 : decode prog_24_method_154_code 0 = .ok (.getstatic 38, 3) := by decide +kernel
theorem zSd_i3 : decode prog_24_method_154_code 3 = .ok (.ifCond .eq 14, 3) := by decide +kernel
theorem zSd_i6 : decode prog_24_method_154_code 6 = .ok (.aload_n 0, 1) := by decide +kernel
theorem zSd_i7 : decode prog_24_method_154_code 7 = .ok (.getfield 15, 3) := by decide +kernel
theorem zSd_i10 : decode prog_24_method_154_code 10 = .ok (.ifCond .ne 7, 3) := by decide +kernel
theorem zSd_i13 : decode prog_24_method_154_code 13 = .ok (.iconst 1, 1) := by decide +kernel
theorem zSd_i14 : decode prog_24_method_154_code 14 = .ok (.goto 4, 3) := by decide +kernel
theorem zSd_i18 : decode prog_24_method_154_code 18 = .ok (.ireturn, 1) := by decide +kernel
theorem zSd_l0 : decode cJ0_length_8abf5 0 = .ok (.aload_n 0, 1) := by decide +kernel
theorem zSd_l1 : decode cJ0_length_8abf5 1 = .ok (.getfield 9, 3) := by decide +kernel
theorem zSd_l4 : decode cJ0_length_8abf5 4 = .ok (.arraylength, 1) := by decide +kernel
theorem zSd_l5 : decode cJ0_length_8abf5 5 = .ok (.aload_n 0, 1) := by decide +kernel
theorem zSd_l6 : decode cJ0_length_8abf5 6 = .ok (.invokevirtual 335, 3) := by decide +kernel
theorem zSd_l9 : decode cJ0_length_8abf5 9 = .ok (.ishr, 1) := by decide +kernel
theorem zSd_l10 : decode cJ0_length_8abf5 10 = .ok (.ireturn, 1) := by decide +kernel
theorem zSd_p0 : decode cJ3_checkIndex_8e157 0 = .ok (.iload_n 0, 1) := by decide +kernel
theorem zSd_p1 : decode cJ3_checkIndex_8e157 1 = .ok (.ifCond .lt 8, 3) := by decide +kernel
theorem zSd_p4 : decode cJ3_checkIndex_8e157 4 = .ok (.iload_n 0, 1) := by decide +kernel
theorem zSd_p5 : decode cJ3_checkIndex_8e157 5 = .ok (.iload_n 1, 1) := by decide +kernel
theorem zSd_p6 : decode cJ3_checkIndex_8e157 6 = .ok (.if_icmp .lt 10, 3) := by decide +kernel
theorem zSd_p16 : decode cJ3_checkIndex_8e157 16 = .ok (.iload_n 0, 1) := by decide +kernel
theorem zSd_p17 : decode cJ3_checkIndex_8e157 17 = .ok (.ireturn, 1) := by decide +kernel
theorem zSd_k0 : decode prog_24_method_155_code 0 = .ok (.iload_n 0, 1) := by decide +kernel
theorem zSd_k1 : decode prog_24_method_155_code 1 = .ok (.iload_n 1, 1) := by decide +kernel
theorem zSd_k2 : decode prog_24_method_155_code 2 = .ok (.getstatic 1053, 3) := by decide +kernel
theorem zSd_k5 : decode prog_24_method_155_code 5 = .ok (.invokestatic 1059, 3) := by decide +kernel
theorem zSd_k8 : decode prog_24_method_155_code 8 = .ok (.pop, 1) := by decide +kernel
theorem zSd_k9 : decode prog_24_method_155_code 9 = .ok (.return_, 1) := by decide +kernel
theorem zSd_t0 : decode cJ1_charAt_3b067 0 = .ok (.iload_n 1, 1) := by decide +kernel
theorem zSd_t1 : decode cJ1_charAt_3b067 1 = .ok (.aload_n 0, 1) := by decide +kernel
theorem zSd_t2 : decode cJ1_charAt_3b067 2 = .ok (.arraylength, 1) := by decide +kernel
theorem zSd_t3 : decode cJ1_charAt_3b067 3 = .ok (.invokestatic 9, 3) := by decide +kernel
theorem zSd_t6 : decode cJ1_charAt_3b067 6 = .ok (.aload_n 0, 1) := by decide +kernel
theorem zSd_t7 : decode cJ1_charAt_3b067 7 = .ok (.iload_n 1, 1) := by decide +kernel
theorem zSd_t8 : decode cJ1_charAt_3b067 8 = .ok (.baload, 1) := by decide +kernel
theorem zSd_t9 : decode cJ1_charAt_3b067 9 = .ok (.sipush 255, 3) := by decide +kernel
theorem zSd_t12 : decode cJ1_charAt_3b067 12 = .ok (.iand, 1) := by decide +kernel
theorem zSd_t13 : decode cJ1_charAt_3b067 13 = .ok (.i2c, 1) := by decide +kernel
theorem zSd_t14 : decode cJ1_charAt_3b067 14 = .ok (.ireturn, 1) := by decide +kernel
theorem zSd_h0 : decode cJ0_charAt_5068e 0 = .ok (.aload_n 0, 1) := by decide +kernel
theorem zSd_h1 : decode cJ0_charAt_5068e 1 = .ok (.invokevirtual 492, 3) := by decide +kernel
theorem zSd_h4 : decode cJ0_charAt_5068e 4 = .ok (.ifCond .eq 12, 3) := by decide +kernel
theorem zSd_h7 : decode cJ0_charAt_5068e 7 = .ok (.aload_n 0, 1) := by decide +kernel
theorem zSd_h8 : decode cJ0_charAt_5068e 8 = .ok (.getfield 9, 3) := by decide +kernel
theorem zSd_h11 : decode cJ0_charAt_5068e 11 = .ok (.iload_n 1, 1) := by decide +kernel
theorem zSd_h12 : decode cJ0_charAt_5068e 12 = .ok (.invokestatic 495, 3) := by decide +kernel
theorem zSd_h15 : decode cJ0_charAt_5068e 15 = .ok (.ireturn, 1) := by decide +kernel
/-! words -/
def zS_ws : List Cond := [.fieldLink RJ0 38 RJ0 "COMPACT_STRINGS" "Z", .fieldLink RJ0 15 RJ0 "coder" "B", .fieldLink RJ0 9 RJ0 "value" "[B",
  .code yJ0_coder_7d493 cJ0_coder_7d493 1 (some .byte), .initialized RJ0, .methodLink RJ0 335 yJ0_coder_7d493, .instanceMethod yJ0_coder_7d493, .selects RJ0 yJ0_coder_7d493 yJ0_coder_7d493,
  .code yJ0_isLatin1_aae02 prog_24_method_154_code 1 (some .boolean), .methodLink RJ0 492 yJ0_isLatin1_aae02, .instanceMethod yJ0_isLatin1_aae02, .selects RJ0 yJ0_isLatin1_aae02 yJ0_isLatin1_aae02,
  .code yJ3_checkIndex_8e157 cJ3_checkIndex_8e157 3 (some .int), .initialized RJ3, .methodLink RJ0 1059 yJ3_checkIndex_8e157, .static yJ3_checkIndex_8e157,
  .fieldLink RJ0 1053 RJ3 "SIOOBE_FORMATTER" "Ljava/util/function/BiFunction;",
  .code yJ0_checkIndex_df160 prog_24_method_155_code 2 none, .methodLink RJ1 9 yJ0_checkIndex_df160, .static yJ0_checkIndex_df160,
  .code yJ1_charAt_3b067 cJ1_charAt_3b067 2 (some .char), .initialized RJ1, .methodLink RJ0 495 yJ1_charAt_3b067, .static yJ1_charAt_3b067,
  .code yJ0_length_8abf5 cJ0_length_8abf5 1 (some .int), .methodLink RX9 58 yJ0_length_8abf5, .instanceMethod yJ0_length_8abf5, .selects RJ0 yJ0_length_8abf5 yJ0_length_8abf5,
  .code yJ0_charAt_5068e cJ0_charAt_5068e 2 (some .char), .methodLink RX9 63 yJ0_charAt_5068e, .instanceMethod yJ0_charAt_5068e, .selects RJ0 yJ0_charAt_5068e yJ0_charAt_5068e]
theorem zS_in : ∀ w ∈ zS_ws, w ∈ za_wd := by decide +kernel
section ZST
variable {p : Program} {l : Launch} {e : Env} {R : Room} {s s0 : State} {m : MethodId} {args : Array Value} {below : List Frame} {meth : Method} {c : Code} {E : za_E} {L : Nat} {Q : State → Prop} {a b : Nat}
theorem zS_w (K : za_K0 l E L s0) (hW : s0.WarmedH s.vm) (i : Nat) {w : Cond} (h : zS_ws[i]? = some w) {a9 : Array Value} : w.before a9 s = true := zk_w K hW _ (zS_in _ (List.mem_of_getElem? h))
theorem zS_q (K : za_K0 l E L s0) (hB : za_Bl E s.heap) : ∀ a : Nat, a < s0.heap.size → ¬ za_A E a → s.heap[a]? = s0.heap[a]? := by
  have hH0 : s0.heap = za_H0 E := K.2.1.symm
  intro a ha _
  rw [hH0] at ha ⊢
  exact hB.2 a ha
theorem zS_at (K : za_K0 l E L s0) (hW : s0.WarmedH s.vm) (hB : za_Bl E s.heap) (h : zS_K E s0 a b) : va_Z RJ0 "COMPACT_STRINGS" "Z" (.int 1) (za_A E) s s.heap ∧ va_Zq RJ3 "SIOOBE_FORMATTER" "Ljava/util/function/BiFunction;" (za_A E) s s.heap ∧ va_O RJ0 a (za_A E) s s.heap ∧ va_OF RJ0 "coder" "B" (.int 0) a (za_A E) s s.heap ∧ va_OF RJ0 "value" "[B" (.ref b) a (za_A E) s s.heap ∧ va_T .byte b 101 (fun j => .int (zS_by.getD j 0)) (za_A E) s s.heap := by
  obtain ⟨h1, h2, h3, h4, h5, h6, -⟩ := h
  have q := zS_q K hB
  exact ⟨(h1.kept q).moved hW.alike, (h2.kept q).moved hW.alike, (h3.kept q).moved hW.alike, (h4.kept q).moved hW.alike, (h5.kept q).moved hW.alike, (h6.kept q).moved hW.alike⟩
/-- a call that leaves the heap as it is -/
theorem zS_call {H : Heap} {locs : List Loc} {cells slots : Nat} {ls : Array Slot} {pc : Nat} {st0 rest : List Value} {v : Option Value} {a9 : Array Value} (hr : va_Run p l e R s m args below meth c H locs cells slots 0 0 (F0 m pc ls st0) rest (zS_Qc v a9) (za_A E)) (hS : va_S (za_A E) s.heap H locs) (kk : ∀ locs1, va_S (za_A E) s.heap H locs1 → W p l e R s m args below meth c H locs1 cells slots Q (F0 m (pc + 3) ls (v.toList ++ rest))) : W p l e R s m args below meth c H locs cells slots Q (F0 m pc ls st0) := by
  intro T hT X
  obtain ⟨v9, st₀, t, T', L9, h0, X', hL, e1, e2, ⟨hv, hh⟩, st⟩ := hr T hT X
  cases hv
  have hS1 : va_S (za_A E) s.heap H (locs ++ L9) := ⟨hS.1, hS.2.1, fun z hz => by
    rcases List.mem_append.mp hz with z1 | z1
    · exact hS.2.2 z z1
    · exact hL z z1⟩
  obtain ⟨t2, a1, b1⟩ := kk (locs ++ L9) hS1 T' (by rw [e1, hh, h0]) X'
  exact ⟨t2, st t2 a1, b1⟩
theorem zS_CB (K : za_K0 l E L s0) (hW : s0.WarmedH s.vm) {own : String} {k n maxL r : Nat} {y : MethodName} {cc : ByteArray} {ret : Option FieldType} (i1 i2 i3 : Nat) (h1 : zS_ws[i1]? = some (.code y cc maxL ret)) (h2 : zS_ws[i2]? = some (.initialized y.cls)) (h3 : zS_ws[i3]? = some (.methodLink own k y)) (hd : y.cls ≠ "java/lang/invoke/MethodHandle" ∧ y.cls ≠ "java/lang/invoke/VarHandle") (hn : (parseMethodDescriptor y.desc).map (fun d => d.parameters.length) = some n) (hf : r + 1 ≤ R.frames) (hl : 8 + (maxL + 11) + 40 * r ≤ R.locals) : CallB R s args own k y cc maxL ret [.code y cc maxL ret] (zS_r r) 0 0 n := by
  refine ⟨rfl, rfl, hf, hl, ?_, List.mem_cons_self, zS_w K hW i1 h1, zS_w K hW i2 h2, hd, zS_np hn, zS_w K hW i3 h3⟩
  intro w hw a' U hU
  cases List.mem_singleton.mp hw
  exact zS_w K (State.WarmedH.trans hW hU) i1 h1
theorem zS_coder (K : za_K0 l E L s0) (hK : zS_K E s0 a b) : Met l yJ0_coder_7d493 [.code yJ0_coder_7d493 cJ0_coder_7d493 1 (some .byte)] (zS_r 0) (zS_Pc E s0 [.ref a]) (zS_Qc (some (.int 0))) 0 0 (za_A E) := by
  refine Met.ofW (cc := cJ0_coder_7d493) (maxL := 1) (ret := some .byte) (by decide) rfl ?_
  intro p e s m args below meth c s₁ B hml hv
  obtain ⟨rfl, hW, hBl⟩ := hv
  have hx := B.exec
  have hb := B.bytes
  have hr := B.returns
  have hown : s.vm.findClass RJ0 = some m.cls := findClass_of_methodNamed B.named
  have hlocks := B.notSynchronized
  obtain ⟨k1, k2, k3, k4, k5, k6⟩ := zS_at K hW hBl hK
  have hS : va_S (za_A E) s.heap s.heap [] := va_S.rf
  have hl := lv_entry ([.ref a]) (n := 1) (Nat.le_of_ble_eq_true rfl)
  rw [lg_entry_eq]
  generalize (lg_sl ([.ref a]) ++ List.replicate (1 - (lg_sl ([.ref a])).length) Slot.unset).toArray = ls at hl ⊢
  have hl : lv_has ls 1 [(0, .ref a)] := hl
  refine va_gets hx hb k1 hS hown (zS_w K hW 0 rfl) (fun _ h => h) zSd_c0 ?_
  refine lv_if_eq (tgt := 13) hx hb zSd_c3 rfl (fun h => absurd h (by decide)) (fun _ => ?_)
  refine lv_aload_n hx hb zSd_c6 rfl (lv_at hl 0 rfl) ?_
  refine vk_getf hx hb k4 hS hown (zS_w K hW 1 rfl) (fun _ h => h) zSd_c7 ?_
  refine lv_goto (tgt := 14) hx hb zSd_c10 rfl ?_
  exact W.zret hx hb hr (by rfl) (fun t ht _ => ⟨rfl, ht⟩) hS.2.2 zSd_c14 hlocks
theorem zS_isL (K : za_K0 l E L s0) (hK : zS_K E s0 a b) : Met l yJ0_isLatin1_aae02 [.code yJ0_isLatin1_aae02 prog_24_method_154_code 1 (some .boolean)] (zS_r 0) (zS_Pc E s0 [.ref a]) (zS_Qc (some (.int 1))) 0 0 (za_A E) := by
  refine Met.ofW (cc := prog_24_method_154_code) (maxL := 1) (ret := some .boolean) (by decide) rfl ?_
  intro p e s m args below meth c s₁ B hml hv
  obtain ⟨rfl, hW, hBl⟩ := hv
  have hx := B.exec
  have hb := B.bytes
  have hr := B.returns
  have hown : s.vm.findClass RJ0 = some m.cls := findClass_of_methodNamed B.named
  have hlocks := B.notSynchronized
  obtain ⟨k1, k2, k3, k4, k5, k6⟩ := zS_at K hW hBl hK
  have hS : va_S (za_A E) s.heap s.heap [] := va_S.rf
  have hl := lv_entry ([.ref a]) (n := 1) (Nat.le_of_ble_eq_true rfl)
  rw [lg_entry_eq]
  generalize (lg_sl ([.ref a]) ++ List.replicate (1 - (lg_sl ([.ref a])).length) Slot.unset).toArray = ls at hl ⊢
  have hl : lv_has ls 1 [(0, .ref a)] := hl
  refine va_gets hx hb k1 hS hown (zS_w K hW 0 rfl) (fun _ h => h) zSd_i0 ?_
  refine lv_if_eq (tgt := 17) hx hb zSd_i3 rfl (fun h => absurd h (by decide)) (fun _ => ?_)
  refine lv_aload_n hx hb zSd_i6 rfl (lv_at hl 0 rfl) ?_
  refine vk_getf hx hb k4 hS hown (zS_w K hW 1 rfl) (fun _ h => h) zSd_i7 ?_
  refine lv_if_ne (tgt := 17) hx hb zSd_i10 rfl (fun h => absurd rfl h) (fun _ => ?_)
  refine lv_iconst hx hb zSd_i13 rfl ?_
  refine lv_goto (tgt := 18) hx hb zSd_i14 rfl ?_
  exact W.zret hx hb hr (by rfl) (fun t ht _ => ⟨rfl, ht⟩) hS.2.2 zSd_i18 hlocks
theorem zS_length (K : za_K0 l E L s0) (hK : zS_K E s0 a b) : Met l yJ0_length_8abf5 [.code yJ0_length_8abf5 cJ0_length_8abf5 1 (some .int)] (zS_r 1) (zS_Pc E s0 [.ref a]) (zS_Qc (some (.int (Int32.ofNat zp_spell.length)))) 0 0 (za_A E) := by
  refine Met.ofW (cc := cJ0_length_8abf5) (maxL := 1) (ret := some .int) (by decide) rfl ?_
  intro p e s m args below meth c s₁ B hml hv
  obtain ⟨rfl, hW, hBl⟩ := hv
  have hx := B.exec
  have hb := B.bytes
  have hr := B.returns
  have hown : s.vm.findClass RJ0 = some m.cls := findClass_of_methodNamed B.named
  have hlocks := B.notSynchronized
  obtain ⟨k1, k2, k3, k4, k5, k6⟩ := zS_at K hW hBl hK
  have hS : va_S (za_A E) s.heap s.heap [] := va_S.rf
  have hl := lv_entry ([.ref a]) (n := 1) (Nat.le_of_ble_eq_true rfl)
  rw [lg_entry_eq]
  generalize (lg_sl ([.ref a]) ++ List.replicate (1 - (lg_sl ([.ref a])).length) Slot.unset).toArray = ls at hl ⊢
  have hl : lv_has ls 1 [(0, .ref a)] := hl
  refine lv_aload_n hx hb zSd_l0 rfl (lv_at hl 0 rfl) ?_
  refine vk_getf hx hb k5 hS hown (zS_w K hW 2 rfl) (fun _ h => h) zSd_l1 ?_
  refine va_tlen hx hb k6 hS rfl zSd_l4 ?_
  refine lv_aload_n hx hb zSd_l5 rfl (lv_at hl 0 rfl) ?_
  obtain ⟨cell, o1, o2, o3, -⟩ := k3
  refine zS_call (va_runV (Ts := []) (nL := 1) ⟨hx, hb, hml, hown, fun w hw => absurd hw List.not_mem_nil⟩ (zS_coder K hK) ⟨zS_CB K hW 3 4 5 rfl rfl rfl (by decide) (by decide) (by decide) (by decide), zS_w K hW 6 rfl, zS_w K hW 7 rfl⟩ ⟨zS_blind, ⟨cell, o1, o2, o3⟩, fun U hU hWU => ⟨rfl, State.WarmedH.trans hW hWU, by rw [hU]; exact hBl⟩⟩ rfl rfl hl.1 rfl (Nat.le_of_ble_eq_true rfl) zSd_l6 ⟨Nat.zero_le _, Nat.zero_le _⟩) hS (fun locs1 hS1 => ?_)
  refine lv_ishr hx hb zSd_l9 ?_
  exact W.iret hx hb hr (fun t ht _ => ⟨rfl, ht⟩) hS1.2.2 zSd_l10 hlocks
theorem zS_pre (K : za_K0 l E L s0) {x n : Int32} {w : Value} (h0 : ¬ x < 0) (h1 : x < n) (hw : w.category = 1) : Met l yJ3_checkIndex_8e157 [.code yJ3_checkIndex_8e157 cJ3_checkIndex_8e157 3 (some .int)] (zS_r 0) (zS_Pc E s0 [.int x, .int n, w]) (zS_Qc (some (.int x))) 0 0 (za_A E) := by
  refine Met.ofW (cc := cJ3_checkIndex_8e157) (maxL := 3) (ret := some .int) (by decide) rfl ?_
  intro p e s m args below meth c s₁ B hml hv
  obtain ⟨rfl, hW, hBl⟩ := hv
  have hx := B.exec
  have hb := B.bytes
  have hr := B.returns
  have hlocks := B.notSynchronized
  have hS : va_S (za_A E) s.heap s.heap [] := va_S.rf
  have hlen : (lg_sl ([.int x, .int n, w] : List Value)).length = 3 := by
    show (lg_sl ([.int x] : List Value) ++ (lg_sl ([.int n] : List Value) ++ ((if w.category = 2 then [Slot.val w, Slot.second] else [Slot.val w]) ++ []))).length = 3
    rw [hw]
    rfl
  have hl := lv_entry ([.int x, .int n, w]) (n := 3) (by rw [hlen]; exact Nat.le_refl _)
  rw [lg_entry_eq]
  generalize (lg_sl ([.int x, .int n, w] : List Value) ++ List.replicate (3 - (lg_sl ([.int x, .int n, w] : List Value)).length) Slot.unset).toArray = ls at hl ⊢
  refine lv_iload_n hx hb zSd_p0 rfl (lv_at hl 0 rfl) ?_
  refine lv_if_lt (tgt := 9) hx hb zSd_p1 rfl (fun h => absurd h h0) (fun _ => ?_)
  refine lv_iload_n hx hb zSd_p4 rfl (lv_at hl 0 rfl) ?_
  refine lv_iload_n hx hb zSd_p5 rfl (lv_at hl 1 rfl) ?_
  refine lv_icmp_lt (tgt := 16) hx hb zSd_p6 rfl (fun _ => ?_) (fun h => absurd h1 h)
  refine lv_iload_n hx hb zSd_p16 rfl (lv_at hl 0 rfl) ?_
  exact W.iret hx hb hr (fun t ht _ => ⟨rfl, ht⟩) hS.2.2 zSd_p17 hlocks
theorem zS_chk (K : za_K0 l E L s0) (hK : zS_K E s0 a b) {x n : Int32} (h0 : ¬ x < 0) (h1 : x < n) : Met l yJ0_checkIndex_df160 [.code yJ0_checkIndex_df160 prog_24_method_155_code 2 none] (zS_r 1) (zS_Pc E s0 [.int x, .int n]) (zS_Qc none) 0 0 (za_A E) := by
  refine Met.ofW (cc := prog_24_method_155_code) (maxL := 2) (ret := none) (by decide) rfl ?_
  intro p e s m args below meth c s₁ B hml hv
  obtain ⟨rfl, hW, hBl⟩ := hv
  have hx := B.exec
  have hb := B.bytes
  have hr := B.returns
  have hown : s.vm.findClass RJ0 = some m.cls := findClass_of_methodNamed B.named
  have hlocks := B.notSynchronized
  obtain ⟨k1, k2, k3, k4, k5, k6⟩ := zS_at K hW hBl hK
  have hS : va_S (za_A E) s.heap s.heap [] := va_S.rf
  have hl := lv_entry ([.int x, .int n]) (n := 2) (Nat.le_of_ble_eq_true rfl)
  rw [lg_entry_eq]
  generalize (lg_sl ([.int x, .int n]) ++ List.replicate (2 - (lg_sl ([.int x, .int n])).length) Slot.unset).toArray = ls at hl ⊢
  have hl : lv_has ls 2 [(0, .int x), (1, .int n)] := hl
  refine lv_iload_n hx hb zSd_k0 rfl (lv_at hl 0 rfl) ?_
  refine lv_iload_n hx hb zSd_k1 rfl (lv_at hl 1 rfl) ?_
  have hZ : ∃ w : Value, w.category = 1 ∧ va_Z RJ3 "SIOOBE_FORMATTER" "Ljava/util/function/BiFunction;" w (za_A E) s s.heap := by
    rcases k2 with h | ⟨t, h⟩
    · exact ⟨.null, rfl, h⟩
    · exact ⟨.ref t, rfl, h⟩
  obtain ⟨w, hw, hZ⟩ := hZ
  refine va_gets hx hb hZ hS hown (zS_w K hW 16 rfl) (fun _ h => h) zSd_k2 ?_
  refine zS_call (va_runS (Ts := []) (nL := 2) (As := [.int x, .int n, w]) (rest := []) ⟨hx, hb, hml, hown, fun w hw => absurd hw List.not_mem_nil⟩ (zS_pre K h0 h1 hw) ⟨zS_CB (n := 3) K hW 12 13 14 rfl rfl rfl (by decide) (by decide) (by decide) (by decide), zS_w K hW 15 rfl⟩ ⟨zS_blind, fun U hU hWU => ⟨rfl, State.WarmedH.trans hW hWU, by rw [hU]; exact hBl⟩⟩ rfl rfl hl.1 rfl (Nat.le_of_ble_eq_true rfl) zSd_k5 ⟨Nat.zero_le _, Nat.zero_le _⟩) hS (fun locs1 hS1 => ?_)
  refine lv_pop hx hb zSd_k8 rfl ?_
  exact W.vret hx hb hr (fun t ht _ => ⟨rfl, ht⟩) hS1.2.2 zSd_k9 hlocks
def zS_ch (k : Nat) : Int32 := Int32.ofNat (zp_spell.getD k 0)
theorem zS_tab : (List.range 101).all (fun k => (decide (((zS_by.getD k 0 &&& (Int16.ofInt 255).toInt32).toUInt32 % 65536).toInt32 = zS_ch k)).and (decide ((zS_ch k).toUInt32.toUInt16.toUInt32.toInt32 = zS_ch k))) = true := by decide +kernel
theorem zS_t {k : Nat} (h : k < 101) : ((zS_by.getD k 0 &&& (Int16.ofInt 255).toInt32).toUInt32 % 65536).toInt32 = zS_ch k ∧ narrow .char (.int (zS_ch k)) = .int (zS_ch k) := by
  have t := List.all_eq_true.mp zS_tab k (List.mem_range.mpr h)
  obtain ⟨t1, t2⟩ := Bool.and_eq_true_iff.mp t
  have t2 := of_decide_eq_true t2
  refine ⟨of_decide_eq_true t1, ?_⟩
  show Value.int ((zS_ch k).toUInt32.toUInt16.toUInt32.toInt32) = _
  rw [t2]
theorem zS_lat (K : za_K0 l E L s0) (hK : zS_K E s0 a b) {x : Int32} (h : 0 ≤ x.toInt ∧ x.toInt < 101) : Met l yJ1_charAt_3b067 [.code yJ1_charAt_3b067 cJ1_charAt_3b067 2 (some .char)] (zS_r 2) (zS_Pc E s0 [.ref b, .int x]) (zS_Qc (some (.int (zS_ch x.toInt.toNat)))) 0 0 (za_A E) := by
  have h0 : ¬ x < 0 := by
    rw [Int32.lt_iff_toInt_lt]
    show ¬ x.toInt < 0
    omega
  have h1 : x < Int32.ofNat 101 := by
    rw [Int32.lt_iff_toInt_lt]
    show x.toInt < 101
    omega
  have hcl : x.toNatClampNeg = x.toInt.toNat := rfl
  have hin : vp_in x 101 := by
    rintro (h9 | h9)
    · exact h0 h9
    · rw [hcl] at h9
      omega
  obtain ⟨t1, t2⟩ := zS_t (k := x.toInt.toNat) (by omega)
  refine Met.ofW (cc := cJ1_charAt_3b067) (maxL := 2) (ret := some .char) (by decide) rfl ?_
  intro p e s m args below meth c s₁ B hml hv
  obtain ⟨rfl, hW, hBl⟩ := hv
  have hx := B.exec
  have hb := B.bytes
  have hr := B.returns
  have hown : s.vm.findClass RJ1 = some m.cls := findClass_of_methodNamed B.named
  have hlocks := B.notSynchronized
  obtain ⟨k1, k2, k3, k4, k5, k6⟩ := zS_at K hW hBl hK
  have hS : va_S (za_A E) s.heap s.heap [] := va_S.rf
  have hl := lv_entry ([.ref b, .int x]) (n := 2) (Nat.le_of_ble_eq_true rfl)
  rw [lg_entry_eq]
  generalize (lg_sl ([.ref b, .int x]) ++ List.replicate (2 - (lg_sl ([.ref b, .int x])).length) Slot.unset).toArray = ls at hl ⊢
  have hl : lv_has ls 2 [(0, .ref b), (1, .int x)] := hl
  refine lv_iload_n hx hb zSd_t0 rfl (lv_at hl 1 rfl) ?_
  refine lv_aload_n hx hb zSd_t1 rfl (lv_at hl 0 rfl) ?_
  refine va_tlen hx hb k6 hS rfl zSd_t2 ?_
  refine zS_call (va_runS (Ts := []) (nL := 2) (As := [.int x, .int (Int32.ofNat 101)]) (rest := []) ⟨hx, hb, hml, hown, fun w hw => absurd hw List.not_mem_nil⟩ (zS_chk K hK h0 h1) ⟨zS_CB (n := 2) K hW 17 4 18 rfl rfl rfl (by decide) (by decide) (by decide) (by decide), zS_w K hW 19 rfl⟩ ⟨zS_blind, fun U hU hWU => ⟨rfl, State.WarmedH.trans hW hWU, by rw [hU]; exact hBl⟩⟩ rfl rfl hl.1 rfl (Nat.le_of_ble_eq_true rfl) zSd_t3 ⟨Nat.zero_le _, Nat.zero_le _⟩) hS (fun locs1 hS1 => ?_)
  refine lv_aload_n hx hb zSd_t6 rfl (lv_at hl 0 rfl) ?_
  refine lv_iload_n hx hb zSd_t7 rfl (lv_at hl 1 rfl) ?_
  refine va_tb hx hb k6 hS1 hin rfl zSd_t8 ?_
  refine lv_sipush hx hb zSd_t9 rfl ?_
  refine lv_iand hx hb zSd_t12 ?_
  refine lv_i2c hx hb zSd_t13 (v := zS_ch x.toInt.toNat) t1 ?_
  exact W.zret hx hb hr t2 (fun t ht _ => ⟨rfl, ht⟩) hS1.2.2 zSd_t14 hlocks
theorem zS_charAt (K : za_K0 l E L s0) (hK : zS_K E s0 a b) {x : Int32} (h : 0 ≤ x.toInt ∧ x.toInt < 101) : Met l yJ0_charAt_5068e [.code yJ0_charAt_5068e cJ0_charAt_5068e 2 (some .char)] (zS_r 3) (zS_Pc E s0 [.ref a, .int x]) (zS_Qc (some (.int (zS_ch x.toInt.toNat)))) 0 0 (za_A E) := by
  obtain ⟨t1, t2⟩ := zS_t (k := x.toInt.toNat) (by omega)
  refine Met.ofW (cc := cJ0_charAt_5068e) (maxL := 2) (ret := some .char) (by decide) rfl ?_
  intro p e s m args below meth c s₁ B hml hv
  obtain ⟨rfl, hW, hBl⟩ := hv
  have hx := B.exec
  have hb := B.bytes
  have hr := B.returns
  have hown : s.vm.findClass RJ0 = some m.cls := findClass_of_methodNamed B.named
  have hlocks := B.notSynchronized
  obtain ⟨k1, k2, k3, k4, k5, k6⟩ := zS_at K hW hBl hK
  have hS : va_S (za_A E) s.heap s.heap [] := va_S.rf
  have hl := lv_entry ([.ref a, .int x]) (n := 2) (Nat.le_of_ble_eq_true rfl)
  rw [lg_entry_eq]
  generalize (lg_sl ([.ref a, .int x]) ++ List.replicate (2 - (lg_sl ([.ref a, .int x])).length) Slot.unset).toArray = ls at hl ⊢
  have hl : lv_has ls 2 [(0, .ref a), (1, .int x)] := hl
  obtain ⟨cell, o1, o2, o3, -⟩ := k3
  refine lv_aload_n hx hb zSd_h0 rfl (lv_at hl 0 rfl) ?_
  refine zS_call (va_runV (Ts := []) (nL := 2) (As := []) (rest := []) ⟨hx, hb, hml, hown, fun w hw => absurd hw List.not_mem_nil⟩ (zS_isL K hK) ⟨zS_CB K hW 8 4 9 rfl rfl rfl (by decide) (by decide) (by decide) (by decide), zS_w K hW 10 rfl, zS_w K hW 11 rfl⟩ ⟨zS_blind, ⟨cell, o1, o2, o3⟩, fun U hU hWU => ⟨rfl, State.WarmedH.trans hW hWU, by rw [hU]; exact hBl⟩⟩ rfl rfl hl.1 rfl (Nat.le_of_ble_eq_true rfl) zSd_h1 ⟨Nat.zero_le _, Nat.zero_le _⟩) hS (fun locs1 hS1 => ?_)
  refine lv_if_eq (tgt := 16) hx hb zSd_h4 rfl (fun h => absurd h (by decide)) (fun _ => ?_)
  refine lv_aload_n hx hb zSd_h7 rfl (lv_at hl 0 rfl) ?_
  refine vk_getf hx hb k5 hS1 hown (zS_w K hW 2 rfl) (fun _ h => h) zSd_h8 ?_
  refine lv_iload_n hx hb zSd_h11 rfl (lv_at hl 1 rfl) ?_
  refine zS_call (va_runS (Ts := []) (nL := 2) (As := [.ref b, .int x]) (rest := []) ⟨hx, hb, hml, hown, fun w hw => absurd hw List.not_mem_nil⟩ (zS_lat K hK h) ⟨zS_CB (n := 2) K hW 20 21 22 rfl rfl rfl (by decide) (by decide) (by decide) (by decide), zS_w K hW 23 rfl⟩ ⟨zS_blind, fun U hU hWU => ⟨rfl, State.WarmedH.trans hW hWU, by rw [hU]; exact hBl⟩⟩ rfl rfl hl.1 rfl (Nat.le_of_ble_eq_true rfl) zSd_h12 ⟨Nat.zero_le _, Nat.zero_le _⟩) hS1 (fun locs2 hS2 => ?_)
  exact W.zret hx hb hr t2 (fun t ht _ => ⟨rfl, ht⟩) hS2.2.2 zSd_h15 hlocks
end ZST
end
