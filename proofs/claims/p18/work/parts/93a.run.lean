/-! ===== the run once more: the cells that are left are told to the text's questions ===== -/
theorem zp_go_c {lv : zp_LV} {t : zp_T} {pc : Nat} {st : List zp_V} {S9 : zp_S} (h : zp_go lv t pc st = some (.inl S9)) : S9.2.2.2.2 = t.2 := by
  cases h
  rfl
set_option maxHeartbeats 4000000 in
theorem zp_ins_c {L : Nat} {σ : Nat → Int32} {M : za_MI} {cp : Nat → Option za_row} {i : Instr} {pc : Nat} {lv : zp_LV} {st : List zp_V} {t : zp_T} {S9 : zp_S} (h : zp_ins L σ M cp i pc lv st t = some (.inl S9)) : S9.2.2.2.2 = t.2 := by
  unfold zp_ins at h
  split at h <;>
    (try unfold zp_str at h) <;> (try unfold zp_ldc at h) <;> (try unfold zp_ldc2 at h) <;> (try unfold zp_load at h) <;> (try unfold zp_stor1 at h) <;> (try unfold zp_stor2 at h) <;> (try unfold zp_iinc at h) <;> (try unfold zp_binI at h) <;> (try unfold zp_divI at h) <;> (try unfold zp_unI at h) <;> (try unfold zp_binL at h) <;> (try unfold zp_shL at h) <;> (try unfold zp_i2l at h) <;> (try unfold zp_l2i at h) <;> (try unfold zp_lcmp at h) <;> (try unfold zp_dup at h) <;> (try unfold zp_pop at h) <;> (try unfold zp_dup2 at h) <;> (try unfold zp_if1 at h) <;> (try unfold zp_if2 at h) <;> (try unfold zp_tsw at h) <;> (try unfold zp_lsw at h) <;> (try unfold zp_getf at h) <;> (try unfold zp_putf at h) <;> (try unfold zp_ald at h) <;> (try unfold zp_ast at h) <;> (try unfold zp_lld at h) <;> (try unfold zp_lst at h) <;> (try unfold zp_alen at h) <;> (try unfold zp_acp at h) <;>
    (try unfold zp_br at h) <;> (try unfold zp_jmp at h) <;>
    (try simp only [cond_eq_ite] at h) <;>
    (repeat' (split at h)) <;>
    first
      | exact zp_go_c h
      | (cases h; rfl)
      | cases h
def zp_str2 (l : Launch) (E : za_E) (L : Nat) (s0 : State) : Prop := ∀ (p : Program) (e : Env) (R : Room) (s : State) (m : MethodId) (args : Array Value) (below : List Frame) (meth : Method) (c : Code) (Q : State → Prop) (ads0 : List Nat) (d pc k : Nat) (M : za_MI) (lv : zp_LV) (st : List zp_V) (t : zp_T) (S9 : zp_S),
  za_Cx p l R s m args meth c E L s0 d M → t.2.1 ≤ za_mc M ∧ t.2.2 ≤ za_ms M → decode M.2.1 pc = .ok (.ldc k, 2) → zp_str (za_cl M) k (za_is M) pc lv st t = some (.inl S9) → zp_G p l e R s m args below meth c Q E (za_nL M) ads0 S9 → zp_G p l e R s m args below meth c Q E (za_nL M) ads0 (pc, lv, st, t)
section ZW2
variable {p : Program} {l : Launch} {e : Env} {R : Room} {s s0 : State} {m : MethodId} {args : Array Value} {below : List Frame} {meth : Method} {c : Code} {Q : State → Prop} {E : za_E} {ads0 : List Nat} {pc L d : Nat} {M : za_MI} {lv : zp_LV} {t : zp_T} {st : List zp_V} {S9 : zp_S}
theorem zy_ins2 {i : Instr} (X : za_Cx p l R s m args meth c E L s0 d M) (hstr : zp_str2 l E L s0) (hcap : t.2.1 ≤ za_mc M ∧ t.2.2 ≤ za_ms M) (hmm : (pc, i) ∈ za_is M) (h : zp_ins L (za_σ E) M (za_CP (za_cl M)) i pc lv st t = some (.inl S9)) (hk : zp_G p l e R s m args below meth c Q E (za_nL M) ads0 S9) : zp_G p l e R s m args below meth c Q E (za_nL M) ads0 (pc, lv, st, t) := by
  obtain ⟨hx, hb, hml, hr, hlocks, hnm, hown, htab, K, hW, h0, hdec, hRf, hRl, hRc, hRs⟩ := id X
  obtain ⟨len, hd0, hln⟩ := za_dok_ok (q := (pc, i)) (List.all_eq_true.mp hdec _ hmm)
  have hd : za_sw i = false → decode M.2.1 pc = .ok (i, za_ln i) := fun z => by
    rcases hln with h9 | h9
    · rw [show za_sw i = true from h9] at z; cases z
    · rw [show len = za_ln i from h9] at hd0; exact hd0
  cases i with
  | iconst k =>
    exact zx_push (v := .inl (Int32.ofInt k)) (w := .int (Int32.ofInt k)) (fun _ => rfl) (fun kk => lv_iconst hx hb (hd rfl) rfl kk) (zx_go h hk)
  | bipush k =>
    change (bif za_ile (-128) k then bif za_ile k 127 then zp_go lv t (pc + 2) (.inl (Int32.ofInt k) :: st) else none else none) = _ at h
    obtain ⟨h1, h⟩ := za_bif h
    obtain ⟨h2, h⟩ := za_bif h
    exact zx_push (v := .inl (Int32.ofInt k)) (w := .int (Int32.ofInt k)) (fun _ => rfl) (fun kk => lv_bipush hx hb (hd rfl) (zp_by8 (za_ile_t h1) (za_ile_t h2)) kk) (zx_go h hk)
  | sipush k =>
    exact zx_push (v := .inl (Int16.ofInt k).toInt32) (w := .int (Int16.ofInt k).toInt32) (fun _ => rfl) (fun kk => lv_sipush hx hb (hd rfl) rfl kk) (zx_go h hk)
  | lconst k =>
    exact zx_push (v := .inr (.inl (Int64.ofNat k))) (w := .long (Int64.ofNat k)) (fun _ => rfl) (fun kk => lv_lconst hx hb (hd rfl) rfl kk) (zx_go h hk)
  | ldc k =>
    change (bif Nat.beq k 56 then zp_str (za_cl M) k (za_is M) pc lv st t else zp_ldc 2 (za_CP (za_cl M) k) pc lv st t) = _ at h
    cases h9 : Nat.beq k 56 with
    | true =>
      rw [h9] at h
      exact hstr p e R s m args below meth c Q ads0 d pc k M lv st t S9 X hcap (hd rfl) h hk
    | false =>
      rw [h9] at h
      exact zy_ldc X (fun hc kk => lv_ldc hx hb hown hc (hd rfl) kk) h hk
  | ldc_w k =>
    exact zy_ldc X (fun hc kk => lv_ldcw hx hb hown hc (hd rfl) kk) h hk
  | ldc2_w k =>
    exact zy_ldc2 X (hd rfl) h hk
  | iload k =>
    exact zx_load (fun hf hg hl kk => by
      obtain ⟨x, rfl⟩ := zx_isI hf hg
      exact lv_iload hx hb (hd rfl) hl kk) h hk
  | iload_n k =>
    exact zx_load (fun hf hg hl kk => by
      obtain ⟨x, rfl⟩ := zx_isI hf hg
      exact lv_iload_n hx hb (hd rfl) rfl hl kk) h hk
  | lload k =>
    exact zx_load (fun hf hg hl kk => by
      obtain ⟨x, rfl⟩ := zx_isL hf hg
      exact lv_lload hx hb (hd rfl) hl kk) h hk
  | lload_n k =>
    exact zx_load (fun hf hg hl kk => by
      obtain ⟨x, rfl⟩ := zx_isL hf hg
      exact lv_lload_n hx hb (hd rfl) rfl hl kk) h hk
  | aload k =>
    exact zx_load (fun hf hg hl kk => by
      obtain ⟨x, rfl⟩ := zx_isR hf hg
      exact lv_aload hx hb (hd rfl) hl kk) h hk
  | aload_n k =>
    exact zx_load (fun hf hg hl kk => by
      obtain ⟨x, rfl⟩ := zx_isR hf hg
      exact lv_aload_n hx hb (hd rfl) rfl hl kk) h hk
  | istore k =>
    exact zx_stor1 (fun hf hg h1 h2 kk => by
      obtain ⟨x, rfl⟩ := zx_isI hf hg
      exact lv_istore hx hb (hd rfl) h1 h2 rfl kk) h hk
  | istore_n k =>
    exact zx_stor1 (fun hf hg h1 h2 kk => by
      obtain ⟨x, rfl⟩ := zx_isI hf hg
      exact lv_istore_n hx hb (hd rfl) rfl h1 h2 rfl kk) h hk
  | astore k =>
    exact zx_stor1 (fun hf hg h1 h2 kk => by
      obtain ⟨x, rfl⟩ := zx_isR hf hg
      exact lv_astore hx hb (hd rfl) h1 h2 rfl kk) h hk
  | astore_n k =>
    exact zx_stor1 (fun hf hg h1 h2 kk => by
      obtain ⟨x, rfl⟩ := zx_isR hf hg
      exact lv_astore_n hx hb (hd rfl) rfl h1 h2 rfl kk) h hk
  | lstore k =>
    exact zx_stor2 (fun h1 h2 kk => lv_lstore hx hb (hd rfl) h1 h2 rfl kk) h hk
  | lstore_n k =>
    exact zx_stor2 (fun h1 h2 kk => lv_lstore_n hx hb (hd rfl) rfl h1 h2 rfl kk) h hk
  | iinc k d9 =>
    change zp_iinc k (za_nL M) d9 pc lv st t = _ at h
    unfold zp_iinc at h
    split at h
    · rename_i x hv
      obtain ⟨hi, h⟩ := za_bif h
      exact zx_iinc hv (za_blt hi) (fun h1 h2 h3 kk => lv_iinc hx hb (hd rfl) h1 h2 rfl h3 rfl kk) (zx_go h hk)
    · cases h
  | iadd =>
    exact zx_binI (· + ·) (fun kk => lv_iadd hx hb (hd rfl) kk) h hk
  | isub =>
    exact zx_binI (· - ·) (fun kk => lv_isub hx hb (hd rfl) kk) h hk
  | imul =>
    exact zx_binI (· * ·) (fun kk => lv_imul hx hb (hd rfl) kk) h hk
  | iand =>
    exact zx_binI (· &&& ·) (fun kk => lv_iand hx hb (hd rfl) kk) h hk
  | ior =>
    exact zx_binI (· ||| ·) (fun kk => lv_ior hx hb (hd rfl) kk) h hk
  | ixor =>
    exact zx_binI (· ^^^ ·) (fun kk => lv_ixor hx hb (hd rfl) kk) h hk
  | ishl =>
    exact zx_binI (fun x y => x <<< (y &&& 31)) (fun kk => lv_ishl hx hb (hd rfl) kk) h hk
  | ishr =>
    exact zx_binI (fun x y => x >>> (y &&& 31)) (fun kk => lv_ishr hx hb (hd rfl) kk) h hk
  | iushr =>
    exact zx_binI (fun x y => (x.toUInt32 >>> (y.toUInt32 &&& Int32.toUInt32 31)).toInt32) (fun kk => lv_iushr hx hb (hd rfl) rfl kk) h hk
  | idiv =>
    exact zx_divI (· / ·) (fun hn kk => lv_idiv hx hb (hd rfl) hn kk) h hk
  | irem =>
    exact zx_divI (fun x y => x - x / y * y) (fun hn kk => lv_irem hx hb (hd rfl) hn kk) h hk
  | i2b =>
    change zp_unI _ pc lv st t = _ at h
    unfold zp_unI at h
    split at h
    · exact zx_unI (fun x => x.toInt8.toInt32) (fun kk => lv_i2b hx hb (hd rfl) rfl kk) (zx_go h hk)
    · cases h
  | ineg =>
    change zp_unI _ pc lv st t = _ at h
    unfold zp_unI at h
    split at h
    · exact zx_unI (fun x => -x) (fun kk => lv_ineg hx hb (hd rfl) kk) (zx_go h hk)
    · cases h
  | ladd =>
    exact zx_binL (· + ·) (fun kk => lv_ladd hx hb (hd rfl) kk) h hk
  | lsub =>
    exact zx_binL (· - ·) (fun kk => lv_lsub hx hb (hd rfl) kk) h hk
  | lmul =>
    exact zx_binL (· * ·) (fun kk => lv_lmul hx hb (hd rfl) kk) h hk
  | land =>
    exact zx_binL (· &&& ·) (fun kk => lv_land hx hb (hd rfl) kk) h hk
  | lor =>
    exact zx_binL (· ||| ·) (fun kk => lv_lor hx hb (hd rfl) kk) h hk
  | lxor =>
    exact zx_binL (· ^^^ ·) (fun kk => lv_lxor hx hb (hd rfl) kk) h hk
  | lshl =>
    exact zx_shL za_shl0 (fun kk => lv_lshl hx hb (hd rfl) rfl kk) h hk
  | lshr =>
    exact zx_shL za_shr0 (fun kk => lv_lshr hx hb (hd rfl) rfl kk) h hk
  | lushr =>
    exact zx_shL za_ushr0 (fun kk => lv_lushr hx hb (hd rfl) rfl kk) h hk
  | i2l =>
    change zp_i2l pc lv st t = _ at h
    unfold zp_i2l at h
    split at h
    · exact zx_i2l (fun kk => lv_i2l hx hb (hd rfl) rfl kk) (zx_go h hk)
    · cases h
  | l2i =>
    change zp_l2i pc lv st t = _ at h
    unfold zp_l2i at h
    split at h
    · exact zx_l2i (fun kk => lv_l2i hx hb (hd rfl) rfl kk) (zx_go h hk)
    · cases h
  | lcmp =>
    change zp_lcmp pc lv st t = _ at h
    unfold zp_lcmp at h
    split at h
    · exact zx_lcmp (fun kk => W.lcmp hx hb (hd rfl) kk) (zx_go h hk)
    · cases h
  | dup =>
    change zp_dup pc lv st t = _ at h
    unfold zp_dup at h
    split at h
    · obtain ⟨g1, h⟩ := za_bif h
      exact zx_dup (za_beq g1) (fun h1 kk => lv_dup hx hb (hd rfl) h1 kk) (zx_go h hk)
    · cases h
  | pop =>
    change zp_pop pc lv st t = _ at h
    unfold zp_pop at h
    split at h
    · obtain ⟨g1, h⟩ := za_bif h
      exact zx_pop (za_beq g1) (fun h1 kk => lv_pop hx hb (hd rfl) h1 kk) (zx_go h hk)
    · cases h
  | dup2 =>
    change zp_dup2 pc lv st t = _ at h
    unfold zp_dup2 at h
    split at h
    · obtain ⟨g1, h⟩ := za_bif h
      obtain ⟨g2, h⟩ := za_bif h
      exact zx_dup2 (za_beq g1) (za_beq g2) (fun h1 h2 kk => lv_dup2_11 hx hb (hd rfl) h1 h2 kk) (zx_go h hk)
    · cases h
  | ifCond cnd o9 =>
    cases cnd with
    | eq => exact zy_if1 (P := fun x => x = 0) (fun _ => zp_d) (fun ht ky kn => lv_if_eq hx hb (hd rfl) ht ky kn) h hk
    | ne => exact zy_if1 (P := fun x => ¬ x = 0) (fun _ => zp_d) (fun ht ky kn => lv_if_ne hx hb (hd rfl) ht ky (fun h9 => kn (not_not_intro h9))) h hk
    | lt => exact zy_if1 (P := fun x => x < 0) (fun _ => zp_d) (fun ht ky kn => lv_if_lt hx hb (hd rfl) ht ky kn) h hk
    | ge => exact zy_if1 (P := fun x => 0 ≤ x) (fun _ => zp_d) (fun ht ky kn => lv_if_ge hx hb (hd rfl) ht ky kn) h hk
    | gt => exact zy_if1 (P := fun x => 0 < x) (fun _ => zp_d) (fun ht ky kn => lv_if_gt hx hb (hd rfl) ht ky kn) h hk
    | le => exact zy_if1 (P := fun x => x ≤ 0) (fun _ => zp_d) (fun ht ky kn => lv_if_le hx hb (hd rfl) ht ky kn) h hk
  | if_icmp cnd o9 =>
    cases cnd with
    | eq => exact zy_if2 (P := fun x y => x = y) (fun _ _ => zp_d) (fun ht ky kn => lv_icmp_eq hx hb (hd rfl) ht ky kn) h hk
    | ne => exact zy_if2 (P := fun x y => ¬ x = y) (fun _ _ => zp_d) (fun ht ky kn => lv_icmp_ne hx hb (hd rfl) ht ky (fun h9 => kn (not_not_intro h9))) h hk
    | lt => exact zy_if2 (P := fun x y => x < y) (fun _ _ => zp_d) (fun ht ky kn => lv_icmp_lt hx hb (hd rfl) ht ky kn) h hk
    | ge => exact zy_if2 (P := fun x y => y ≤ x) (fun _ _ => zp_d) (fun ht ky kn => lv_icmp_ge hx hb (hd rfl) ht ky kn) h hk
    | gt => exact zy_if2 (P := fun x y => y < x) (fun _ _ => zp_d) (fun ht ky kn => lv_icmp_gt hx hb (hd rfl) ht ky kn) h hk
    | le => exact zy_if2 (P := fun x y => x ≤ y) (fun _ _ => zp_d) (fun ht ky kn => lv_icmp_le hx hb (hd rfl) ht ky kn) h hk
  | goto o9 =>
    obtain ⟨g, hg, h⟩ := zp_jmpE (show zp_jmp o9 pc lv st t = some (.inl S9) from h)
    exact zx_goto (fun ht kk => lv_goto hx hb (hd rfl) ht kk) hg (zx_go h hk)
  | tableswitch dd lo hi os =>
    change zp_tsw dd lo hi os pc lv st t = _ at h
    unfold zp_tsw at h
    split at h
    · rename_i x r
      split at h
      · rename_i hc
        obtain ⟨g, hg, h⟩ := zp_jmpE h
        exact zx_tswOut (fun h1 h2 kk => lv_tableOut hx hb hd0 h1 h2 kk) hc hg (zx_go h hk)
      · rename_i hc
        split at h
        · rename_i off hoff
          obtain ⟨g, hg, h⟩ := zp_jmpE h
          exact zx_tswIn (fun h1 h2 h3 h4 kk => lv_tableIn hx hb hd0 h1 h2 h3 h4 kk) (fun z => hc (Or.inl z)) (fun z => hc (Or.inr z)) hoff hg (zx_go h hk)
        · cases h
    · cases h
  | lookupswitch dd ps =>
    change zp_lsw dd ps pc lv st t = _ at h
    unfold zp_lsw at h
    split at h
    · rename_i x r
      obtain ⟨g1, h⟩ := za_bif h
      obtain ⟨g, hg, h⟩ := zp_jmpE h
      exact zx_lsw (fun h2 h3 kk => lv_lookup hx hb hd0 g1 h2 h3 kk) rfl hg (zx_go h hk)
    · cases h
  | getfield k =>
    exact zy_getf X (hd rfl) h hk
  | putfield k =>
    exact zy_putf X (hd rfl) h hk
  | iaload =>
    exact zy_ald (bt := false) rfl X (hd rfl) h hk
  | baload =>
    exact zy_ald (bt := true) rfl X (hd rfl) h hk
  | iastore =>
    exact zy_ast (bt := false) rfl X (hd rfl) h hk
  | bastore =>
    exact zy_ast (bt := true) rfl X (hd rfl) h hk
  | laload =>
    exact zy_lld X (hd rfl) h hk
  | lastore =>
    exact zy_lst X (hd rfl) h hk
  | arraylength =>
    exact zy_alen X (hd rfl) h hk
  | invokestatic k =>
    change (match za_CP (za_cl M) k with
      | some (14, _, _, _) => zp_acp pc lv st t
      | _ => none) = _ at h
    split at h
    · rename_i j9 k9 z9 hrow
      exact zy_acpC X hrow (hd rfl) h hk
    · cases h
  | _ => exact nomatch (show (none : zp_N) = some (.inl S9) from h)
end ZW2
section ZY2
variable {p : Program} {l : Launch} {e : Env} {R : Room} {s s0 : State} {m : MethodId} {args : Array Value} {below : List Frame} {meth : Method} {c : Code} {E : za_E} {ads0 : List Nat} {pc L d : Nat} {M : za_MI} {C : zp_C} {lv : zp_LV} {t : zp_T} {st : List zp_V} {X0 : zp_X}
theorem zy_aft_c {rest : List zp_V} {X1 : zp_X} {cs sl : Nat} {S' : zp_S} (h : zp_aft M (za_CP (za_cl M)) pc lv rest cs sl X1 = some (.inl S')) : S'.2.2.2.2 = (cs, sl) := by
  unfold zp_aft at h
  split at h
  · cases h; rfl
  · cases h; rfl
  · split at h
    · cases h
    · cases h
    · split at h
      · obtain ⟨-, h⟩ := za_bif h
        cases h; rfl
      · obtain ⟨-, h⟩ := za_bif h
        cases h; rfl
      · cases h
theorem zy_run2 (X : za_Cx p l R s m args meth c E L s0 d M) (hstr : zp_str2 l E L s0) (IH : zp_IH l E s0 d C) : ∀ (n : Nat) (S : zp_S) (X0 : zp_X), S.2.2.2.2.1 ≤ za_mc M ∧ S.2.2.2.2.2 ≤ za_ms M → zp_RunN L (za_σ E) M C n S X0 → zp_G p l e R s m args below meth c (vx_MQ below (zp_Qc E ads0 X0) (zp_XC E ads0 X0) args s (za_mc M) (za_ms M) (za_A E)) E (za_nL M) ads0 S
  | 0, _, _, _, h => h.elim
  | n + 1, (pc, lv, st, t), X0, hcap, h => by
    obtain ⟨i, hi, h⟩ := h
    have hmm := za_fe_mem hi
    rcases h with ⟨S', h1, h2⟩ | h | ⟨nx, j, k, Y, X1, h1, h2, h3, h4, h5⟩
    · have e := zp_ins_c h1
      exact zy_ins2 X hstr hcap hmm h1 (zy_run2 X hstr IH n S' X0 (by rw [e]; exact hcap) h2)
    · exact zy_end X hmm h
    · refine zy_call X IH hmm h1 h2 h3 h4 ?_
      generalize ho : zp_aft M (za_CP (za_cl M)) pc lv (st.drop k) (t.2.1 + za_mc Y) (t.2.2 + za_ms Y) X1 = o at h5 ⊢
      match o, h5, ho with
      | some (.inl S'), h5, ho =>
        have e := zy_aft_c ho
        exact zy_run2 X hstr IH n S' X0 (by rw [e]; exact ⟨h2.2.2.1, h2.2.2.2⟩) h5
      | some (.inr X'), h5, _ => exact h5
end ZY2
theorem zy_met2 {l : Launch} {E : za_E} {s0 : State} {L d n : Nat} {C : zp_C} {Y : za_MI} {as : List zp_V} {h : zp_H} {X0 : zp_X} {ads : List Nat} (K : za_K0 l E L s0) (hstr : zp_str2 l E L s0) (IH : zp_IH l E s0 d C) (hpl : plainFor Y.1 = true) (how : za_ow (za_cl Y) = Y.1.cls) (hdec : (za_is Y).all (za_dok Y.2.1) = true) (hwt : zp_wt as ≤ za_nL Y) (hrun : zp_RunN L (za_σ E) Y C n (0, zp_args 0 as, [], h, 0, 0) X0) :
    vx_Met l Y.1 [za_word Y] (za_rm (d + 1) Y) (zp_Pc E s0 ads as h) (zp_Qc E ads X0) (zp_XC E ads X0) (za_mc Y) (za_ms Y) (za_A E) := by
  refine MetFree.of_bodySF (code := Y.2.1) (maxLocals := za_nL Y) (ret := za_rt Y) hpl ?_ ?_
  · intro args s m h hn
    obtain ⟨meth, c, h1, h2, h3, h4, h5, h6, -⟩ := zy_spec (atoms_spec (ws := [za_word Y]) h _ List.mem_cons_self) hn
    exact ⟨meth, c, h1, h2, h3, h4, h5, h6⟩
  · intro p e s m args below meth c s₁ B hml hP _
    have hh0 : s₁.heap = s.heap := by rw [B.state]; rfl
    obtain ⟨vs, rfl, hA, hWd, hW, hBl⟩ := hP
    have htab : c.exceptionTable.toList = tableOf (za_hh Y) := by
      obtain ⟨meth9, c9, h1, h2, -, -, -, -, h7⟩ := zy_spec (atoms_spec (ws := [za_word Y]) B.pre _ List.mem_cons_self) B.named
      cases Option.some.inj (h1.symm.trans B.method)
      cases Option.some.inj (h2.symm.trans (Stand.of_body B).code)
      exact h7
    have X : za_Cx p l (headSpec [za_word Y] (za_rm (d + 1) Y)).room s m vs.toArray meth c E L s0 d Y := ⟨B.exec, B.bytes, hml, B.returns, B.notSynchronized, (name_of_methodNamed B.named B.method).1, by rw [how]; exact findClass_of_methodNamed B.named, htab, K, hW, hBl, hdec, by show d + 9 ≤ d + 1 + 8; omega, by show 64 * d + 259 ≤ 64 * (d + 1) + 200; omega, rfl, rfl⟩
    have hG := zy_run2 (below := below) (e := e) (ads0 := ads) X hstr IH n _ X0 ⟨Nat.zero_le _, Nat.zero_le _⟩ hrun ads s.heap [] ((lg_sl vs ++ List.replicate (za_nL Y - (lg_sl vs).length) Slot.unset).toArray) [] ⟨List.prefix_rfl, trivial, ⟨lv_args 0 vs, lv_entry vs (by rw [zp_sl hA]; exact hwt), zp_args_ok 0 hA⟩, hWd, ⟨Nat.le_refl _, fun _ _ _ => rfl, fun z hz => absurd hz List.not_mem_nil⟩⟩
    rw [lg_entry_eq]
    obtain ⟨t, a1, o, b1, b2, b3⟩ := hG s₁ hh0 (Stand.of_body B)
    exact ⟨t, o, a1, b1, b2, b3⟩
theorem zy_all2 {l : Launch} {E : za_E} {s0 : State} {L : Nat} (K : za_K0 l E L s0) (hstr : zp_str2 l E L s0) : ∀ d : Nat, zp_IH l E s0 d (zp_Call L (za_σ E) d)
  | 0 => fun _ _ _ _ _ _ _ hc => hc.elim
  | d + 1 => by
    intro j Y as h X ads hj hc
    obtain ⟨Y9, n, h1, h2, h3⟩ := hc
    cases Option.some.inj (h1.symm.trans hj)
    obtain ⟨o1, o2, -⟩ := zj_ok hj
    exact zy_met2 K hstr (zy_all2 K hstr d) o1 o2 (zm_d _ (zm_all hj)) h2 h3

