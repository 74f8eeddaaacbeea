/-! ===== the exact interpreter is sound: all instructions ===== -/
theorem zp_d {P : Prop} {i : Decidable P} : (@decide P i) = true ↔ P := decide_eq_true_iff
section ZW
variable {p : Program} {l : Launch} {e : Env} {R : Room} {s s0 : State} {m : MethodId} {args : Array Value} {below : List Frame} {meth : Method} {c : Code} {Q : State → Prop} {E : za_E} {ads0 : List Nat} {pc L d : Nat} {M : za_MI} {lv : zp_LV} {t : zp_T} {st : List zp_V} {S9 : zp_S}
theorem zy_ins {i : Instr} (X : za_Cx p l R s m args meth c E L s0 d M) (hstr : zp_strOK l E L s0) (hmm : (pc, i) ∈ za_is M) (h : zp_ins L (za_σ E) M (za_CP (za_cl M)) i pc lv st t = some (.inl S9)) (hk : zp_G p l e R s m args below meth c Q E (za_nL M) ads0 S9) : zp_G p l e R s m args below meth c Q E (za_nL M) ads0 (pc, lv, st, t) := by
  obtain ⟨hx, hb, hml, hr, hlocks, hnm, hown, htab, K, hW, h0, hdec, hRf, hRl, hRc, hRs⟩ := id X
  obtain ⟨len, hd0, hln⟩ := za_dok_ok (q := (pc, i)) (List.all_eq_true.mp hdec _ hmm)
  have hd : za_sw i = false → decode M.2.1 pc = .ok (i, za_ln i) := fun z => by
    rcases hln with h9 | h9
    · rw [show za_sw i = true from h9] at z; cases z
    · rw [show len = za_ln i from h9] at hd0; exact hd0
  cases i with
  | iconst k =>
    exact zx_push (v := .inl (Int32.ofInt k)) (w := .int (Int32.ofInt k)) (fun _ => rfl) (fun kk => lv_iconst hx hb (hd rfl) rfl kk) (zx_go h hk)
  | bipush k =>
    change (bif za_ile (-128) k then bif za_ile k 127 then zp_go lv t (pc + 2) (.inl (Int32.ofInt k) :: st) else none else none) = _ at h
    obtain ⟨h1, h⟩ := za_bif h
    obtain ⟨h2, h⟩ := za_bif h
    exact zx_push (v := .inl (Int32.ofInt k)) (w := .int (Int32.ofInt k)) (fun _ => rfl) (fun kk => lv_bipush hx hb (hd rfl) (zp_by8 (za_ile_t h1) (za_ile_t h2)) kk) (zx_go h hk)
  | sipush k =>
    exact zx_push (v := .inl (Int16.ofInt k).toInt32) (w := .int (Int16.ofInt k).toInt32) (fun _ => rfl) (fun kk => lv_sipush hx hb (hd rfl) rfl kk) (zx_go h hk)
  | lconst k =>
    exact zx_push (v := .inr (.inl (Int64.ofNat k))) (w := .long (Int64.ofNat k)) (fun _ => rfl) (fun kk => lv_lconst hx hb (hd rfl) rfl kk) (zx_go h hk)
  | ldc k =>
    change (bif Nat.beq k 56 then zp_str (za_cl M) k (za_is M) pc lv st t else zp_ldc 2 (za_CP (za_cl M) k) pc lv st t) = _ at h
    cases h9 : Nat.beq k 56 with
    | true =>
      rw [h9] at h
      exact hstr p e R s m args below meth c Q ads0 d pc k M lv st t S9 X (hd rfl) h hk
    | false =>
      rw [h9] at h
      exact zy_ldc X (fun hc kk => lv_ldc hx hb hown hc (hd rfl) kk) h hk
  | ldc_w k =>
    exact zy_ldc X (fun hc kk => lv_ldcw hx hb hown hc (hd rfl) kk) h hk
  | ldc2_w k =>
    exact zy_ldc2 X (hd rfl) h hk
  | iload k =>
    exact zx_load (fun hf hg hl kk => by
      obtain ⟨x, rfl⟩ := zx_isI hf hg
      exact lv_iload hx hb (hd rfl) hl kk) h hk
  | iload_n k =>
    exact zx_load (fun hf hg hl kk => by
      obtain ⟨x, rfl⟩ := zx_isI hf hg
      exact lv_iload_n hx hb (hd rfl) rfl hl kk) h hk
  | lload k =>
    exact zx_load (fun hf hg hl kk => by
      obtain ⟨x, rfl⟩ := zx_isL hf hg
      exact lv_lload hx hb (hd rfl) hl kk) h hk
  | lload_n k =>
    exact zx_load (fun hf hg hl kk => by
      obtain ⟨x, rfl⟩ := zx_isL hf hg
      exact lv_lload_n hx hb (hd rfl) rfl hl kk) h hk
  | aload k =>
    exact zx_load (fun hf hg hl kk => by
      obtain ⟨x, rfl⟩ := zx_isR hf hg
      exact lv_aload hx hb (hd rfl) hl kk) h hk
  | aload_n k =>
    exact zx_load (fun hf hg hl kk => by
      obtain ⟨x, rfl⟩ := zx_isR hf hg
      exact lv_aload_n hx hb (hd rfl) rfl hl kk) h hk
  | istore k =>
    exact zx_stor1 (fun hf hg h1 h2 kk => by
      obtain ⟨x, rfl⟩ := zx_isI hf hg
      exact lv_istore hx hb (hd rfl) h1 h2 rfl kk) h hk
  | istore_n k =>
    exact zx_stor1 (fun hf hg h1 h2 kk => by
      obtain ⟨x, rfl⟩ := zx_isI hf hg
      exact lv_istore_n hx hb (hd rfl) rfl h1 h2 rfl kk) h hk
  | astore k =>
    exact zx_stor1 (fun hf hg h1 h2 kk => by
      obtain ⟨x, rfl⟩ := zx_isR hf hg
      exact lv_astore hx hb (hd rfl) h1 h2 rfl kk) h hk
  | astore_n k =>
    exact zx_stor1 (fun hf hg h1 h2 kk => by
      obtain ⟨x, rfl⟩ := zx_isR hf hg
      exact lv_astore_n hx hb (hd rfl) rfl h1 h2 rfl kk) h hk
  | lstore k =>
    exact zx_stor2 (fun h1 h2 kk => lv_lstore hx hb (hd rfl) h1 h2 rfl kk) h hk
  | lstore_n k =>
    exact zx_stor2 (fun h1 h2 kk => lv_lstore_n hx hb (hd rfl) rfl h1 h2 rfl kk) h hk
  | iinc k d9 =>
    change zp_iinc k (za_nL M) d9 pc lv st t = _ at h
    unfold zp_iinc at h
    split at h
    · rename_i x hv
      obtain ⟨hi, h⟩ := za_bif h
      exact zx_iinc hv (za_blt hi) (fun h1 h2 h3 kk => lv_iinc hx hb (hd rfl) h1 h2 rfl h3 rfl kk) (zx_go h hk)
    · cases h
  | iadd =>
    exact zx_binI (· + ·) (fun kk => lv_iadd hx hb (hd rfl) kk) h hk
  | isub =>
    exact zx_binI (· - ·) (fun kk => lv_isub hx hb (hd rfl) kk) h hk
  | imul =>
    exact zx_binI (· * ·) (fun kk => lv_imul hx hb (hd rfl) kk) h hk
  | iand =>
    exact zx_binI (· &&& ·) (fun kk => lv_iand hx hb (hd rfl) kk) h hk
  | ior =>
    exact zx_binI (· ||| ·) (fun kk => lv_ior hx hb (hd rfl) kk) h hk
  | ixor =>
    exact zx_binI (· ^^^ ·) (fun kk => lv_ixor hx hb (hd rfl) kk) h hk
  | ishl =>
    exact zx_binI (fun x y => x <<< (y &&& 31)) (fun kk => lv_ishl hx hb (hd rfl) kk) h hk
  | ishr =>
    exact zx_binI (fun x y => x >>> (y &&& 31)) (fun kk => lv_ishr hx hb (hd rfl) kk) h hk
  | iushr =>
    exact zx_binI (fun x y => (x.toUInt32 >>> (y.toUInt32 &&& Int32.toUInt32 31)).toInt32) (fun kk => lv_iushr hx hb (hd rfl) rfl kk) h hk
  | idiv =>
    exact zx_divI (· / ·) (fun hn kk => lv_idiv hx hb (hd rfl) hn kk) h hk
  | irem =>
    exact zx_divI (fun x y => x - x / y * y) (fun hn kk => lv_irem hx hb (hd rfl) hn kk) h hk
  | i2b =>
    change zp_unI _ pc lv st t = _ at h
    unfold zp_unI at h
    split at h
    · exact zx_unI (fun x => x.toInt8.toInt32) (fun kk => lv_i2b hx hb (hd rfl) rfl kk) (zx_go h hk)
    · cases h
  | ineg =>
    change zp_unI _ pc lv st t = _ at h
    unfold zp_unI at h
    split at h
    · exact zx_unI (fun x => -x) (fun kk => lv_ineg hx hb (hd rfl) kk) (zx_go h hk)
    · cases h
  | ladd =>
    exact zx_binL (· + ·) (fun kk => lv_ladd hx hb (hd rfl) kk) h hk
  | lsub =>
    exact zx_binL (· - ·) (fun kk => lv_lsub hx hb (hd rfl) kk) h hk
  | lmul =>
    exact zx_binL (· * ·) (fun kk => lv_lmul hx hb (hd rfl) kk) h hk
  | land =>
    exact zx_binL (· &&& ·) (fun kk => lv_land hx hb (hd rfl) kk) h hk
  | lor =>
    exact zx_binL (· ||| ·) (fun kk => lv_lor hx hb (hd rfl) kk) h hk
  | lxor =>
    exact zx_binL (· ^^^ ·) (fun kk => lv_lxor hx hb (hd rfl) kk) h hk
  | lshl =>
    exact zx_shL za_shl0 (fun kk => lv_lshl hx hb (hd rfl) rfl kk) h hk
  | lshr =>
    exact zx_shL za_shr0 (fun kk => lv_lshr hx hb (hd rfl) rfl kk) h hk
  | lushr =>
    exact zx_shL za_ushr0 (fun kk => lv_lushr hx hb (hd rfl) rfl kk) h hk
  | i2l =>
    change zp_i2l pc lv st t = _ at h
    unfold zp_i2l at h
    split at h
    · exact zx_i2l (fun kk => lv_i2l hx hb (hd rfl) rfl kk) (zx_go h hk)
    · cases h
  | l2i =>
    change zp_l2i pc lv st t = _ at h
    unfold zp_l2i at h
    split at h
    · exact zx_l2i (fun kk => lv_l2i hx hb (hd rfl) rfl kk) (zx_go h hk)
    · cases h
  | lcmp =>
    change zp_lcmp pc lv st t = _ at h
    unfold zp_lcmp at h
    split at h
    · exact zx_lcmp (fun kk => W.lcmp hx hb (hd rfl) kk) (zx_go h hk)
    · cases h
  | dup =>
    change zp_dup pc lv st t = _ at h
    unfold zp_dup at h
    split at h
    · obtain ⟨g1, h⟩ := za_bif h
      exact zx_dup (za_beq g1) (fun h1 kk => lv_dup hx hb (hd rfl) h1 kk) (zx_go h hk)
    · cases h
  | pop =>
    change zp_pop pc lv st t = _ at h
    unfold zp_pop at h
    split at h
    · obtain ⟨g1, h⟩ := za_bif h
      exact zx_pop (za_beq g1) (fun h1 kk => lv_pop hx hb (hd rfl) h1 kk) (zx_go h hk)
    · cases h
  | dup2 =>
    change zp_dup2 pc lv st t = _ at h
    unfold zp_dup2 at h
    split at h
    · obtain ⟨g1, h⟩ := za_bif h
      obtain ⟨g2, h⟩ := za_bif h
      exact zx_dup2 (za_beq g1) (za_beq g2) (fun h1 h2 kk => lv_dup2_11 hx hb (hd rfl) h1 h2 kk) (zx_go h hk)
    · cases h
  | ifCond cnd o9 =>
    cases cnd with
    | eq => exact zy_if1 (P := fun x => x = 0) (fun _ => zp_d) (fun ht ky kn => lv_if_eq hx hb (hd rfl) ht ky kn) h hk
    | ne => exact zy_if1 (P := fun x => ¬ x = 0) (fun _ => zp_d) (fun ht ky kn => lv_if_ne hx hb (hd rfl) ht ky (fun h9 => kn (not_not_intro h9))) h hk
    | lt => exact zy_if1 (P := fun x => x < 0) (fun _ => zp_d) (fun ht ky kn => lv_if_lt hx hb (hd rfl) ht ky kn) h hk
    | ge => exact zy_if1 (P := fun x => 0 ≤ x) (fun _ => zp_d) (fun ht ky kn => lv_if_ge hx hb (hd rfl) ht ky kn) h hk
    | gt => exact zy_if1 (P := fun x => 0 < x) (fun _ => zp_d) (fun ht ky kn => lv_if_gt hx hb (hd rfl) ht ky kn) h hk
    | le => exact zy_if1 (P := fun x => x ≤ 0) (fun _ => zp_d) (fun ht ky kn => lv_if_le hx hb (hd rfl) ht ky kn) h hk
  | if_icmp cnd o9 =>
    cases cnd with
    | eq => exact zy_if2 (P := fun x y => x = y) (fun _ _ => zp_d) (fun ht ky kn => lv_icmp_eq hx hb (hd rfl) ht ky kn) h hk
    | ne => exact zy_if2 (P := fun x y => ¬ x = y) (fun _ _ => zp_d) (fun ht ky kn => lv_icmp_ne hx hb (hd rfl) ht ky (fun h9 => kn (not_not_intro h9))) h hk
    | lt => exact zy_if2 (P := fun x y => x < y) (fun _ _ => zp_d) (fun ht ky kn => lv_icmp_lt hx hb (hd rfl) ht ky kn) h hk
    | ge => exact zy_if2 (P := fun x y => y ≤ x) (fun _ _ => zp_d) (fun ht ky kn => lv_icmp_ge hx hb (hd rfl) ht ky kn) h hk
    | gt => exact zy_if2 (P := fun x y => y < x) (fun _ _ => zp_d) (fun ht ky kn => lv_icmp_gt hx hb (hd rfl) ht ky kn) h hk
    | le => exact zy_if2 (P := fun x y => x ≤ y) (fun _ _ => zp_d) (fun ht ky kn => lv_icmp_le hx hb (hd rfl) ht ky kn) h hk
  | goto o9 =>
    obtain ⟨g, hg, h⟩ := zp_jmpE (show zp_jmp o9 pc lv st t = some (.inl S9) from h)
    exact zx_goto (fun ht kk => lv_goto hx hb (hd rfl) ht kk) hg (zx_go h hk)
  | tableswitch dd lo hi os =>
    change zp_tsw dd lo hi os pc lv st t = _ at h
    unfold zp_tsw at h
    split at h
    · rename_i x r
      split at h
      · rename_i hc
        obtain ⟨g, hg, h⟩ := zp_jmpE h
        exact zx_tswOut (fun h1 h2 kk => lv_tableOut hx hb hd0 h1 h2 kk) hc hg (zx_go h hk)
      · rename_i hc
        split at h
        · rename_i off hoff
          obtain ⟨g, hg, h⟩ := zp_jmpE h
          exact zx_tswIn (fun h1 h2 h3 h4 kk => lv_tableIn hx hb hd0 h1 h2 h3 h4 kk) (fun z => hc (Or.inl z)) (fun z => hc (Or.inr z)) hoff hg (zx_go h hk)
        · cases h
    · cases h
  | lookupswitch dd ps =>
    change zp_lsw dd ps pc lv st t = _ at h
    unfold zp_lsw at h
    split at h
    · rename_i x r
      obtain ⟨g1, h⟩ := za_bif h
      obtain ⟨g, hg, h⟩ := zp_jmpE h
      exact zx_lsw (fun h2 h3 kk => lv_lookup hx hb hd0 g1 h2 h3 kk) rfl hg (zx_go h hk)
    · cases h
  | getfield k =>
    exact zy_getf X (hd rfl) h hk
  | putfield k =>
    exact zy_putf X (hd rfl) h hk
  | iaload =>
    exact zy_ald (bt := false) rfl X (hd rfl) h hk
  | baload =>
    exact zy_ald (bt := true) rfl X (hd rfl) h hk
  | iastore =>
    exact zy_ast (bt := false) rfl X (hd rfl) h hk
  | bastore =>
    exact zy_ast (bt := true) rfl X (hd rfl) h hk
  | laload =>
    exact zy_lld X (hd rfl) h hk
  | lastore =>
    exact zy_lst X (hd rfl) h hk
  | arraylength =>
    exact zy_alen X (hd rfl) h hk
  | invokestatic k =>
    change (match za_CP (za_cl M) k with
      | some (14, _, _, _) => zp_acp pc lv st t
      | _ => none) = _ at h
    split at h
    · rename_i j9 k9 z9 hrow
      exact zy_acpC X hrow (hd rfl) h hk
    · cases h
  | _ => exact nomatch (show (none : zp_N) = some (.inl S9) from h)
end ZW
