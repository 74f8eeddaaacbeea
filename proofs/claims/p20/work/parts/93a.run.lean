section
/-! ===== the run once more: the cells that are left are told to the text's questions ===== -/
theorem zp_go_c {lv : zp_LV} {t : zp_T} {pc : Nat} {st : List zp_V} {S9 : zp_S} (h : zp_go lv t pc st = some (.inl S9)) : S9.2.2.2.2 = t.2 := by
  cases h
  rfl
set_option maxHeartbeats 4000000 in
theorem zp_ins_c {L : Nat} {σ : Nat → Int32} {M : za_MI} {cp : Nat → Option za_row} {i : Instr} {pc : Nat} {lv : zp_LV} {st : List zp_V} {t : zp_T} {S9 : zp_S} (h : zp_ins L σ M cp i pc lv st t = some (.inl S9)) : S9.2.2.2.2 = t.2 := by
  unfold zp_ins at h
  split at h <;>
    (try unfold zp_str at h) <;> (try unfold zp_ldc at h) <;> (try unfold zp_ldc2 at h) <;> (try unfold zp_load at h) <;> (try unfold zp_stor1 at h) <;> (try unfold zp_stor2 at h) <;> (try unfold zp_iinc at h) <;> (try unfold zp_binI at h) <;> (try unfold zp_divI at h) <;> (try unfold zp_unI at h) <;> (try unfold zp_binL at h) <;> (try unfold zp_shL at h) <;> (try unfold zp_i2l at h) <;> (try unfold zp_l2i at h) <;> (try unfold zp_lcmp at h) <;> (try unfold zp_dup at h) <;> (try unfold zp_pop at h) <;> (try unfold zp_dup2 at h) <;> (try unfold zp_if1 at h) <;> (try unfold zp_if2 at h) <;> (try unfold zp_tsw at h) <;> (try unfold zp_lsw at h) <;> (try unfold zp_getf at h) <;> (try unfold zp_putf at h) <;> (try unfold zp_ald at h) <;> (try unfold zp_ast at h) <;> (try unfold zp_lld at h) <;> (try unfold zp_lst at h) <;> (try unfold zp_alen at h) <;> (try unfold zp_acp at h) <;>
    (try unfold zp_br at h) <;> (try unfold zp_jmp at h) <;>
    (try simp only [cond_eq_ite] at h) <;>
    (repeat' (split at h)) <;>
    first
      | exact zp_go_c h
      | (cases h; rfl)
      | cases h
def zp_str2 (l : Launch) (E : za_E) (L : Nat) (s0 : State) : Prop := ∀ (p : Program) (e : Env) (R : Room) (s : State) (m : MethodId) (args : Array Value) (below : List Frame) (meth : Method) (c : Code) (Q : State → Prop) (ads0 : List Nat) (d pc k : Nat) (M : za_MI) (lv : zp_LV) (st : List zp_V) (t : zp_T) (S9 : zp_S),
  za_Cx p l R s m args meth c E L s0 d M → t.2.1 ≤ za_mc M ∧ t.2.2 ≤ za_ms M → decode M.2.1 pc = .ok (.ldc k, 2) → zp_str (za_cl M) k (za_is M) pc lv st t = some (.inl S9) → zp_G p l e R s m args below meth c Q E (za_nL M) ads0 S9 → zp_G p l e R s m args below meth c Q E (za_nL M) ads0 (pc, lv, st, t)
section ZW2
variable {p : Program} {l : Launch} {e : Env} {R : Room} {s s0 : State} {m : MethodId} {args : Array Value} {below : List Frame} {meth : Method} {c : Code} {Q : State → Prop} {E : za_E} {ads0 : List Nat} {pc L d : Nat} {M : za_MI} {lv : zp_LV} {t : zp_T} {st : List zp_V} {S9 : zp_S}
theorem zy_ins2 {i : Instr} (X : za_Cx p l R s m args meth c E L s0 d M) (hstr : zp_str2 l E L s0) (hcap : t.2.1 ≤ za_mc M ∧ t.2.2 ≤ za_ms M) (hmm : (pc, i) ∈ za_is M) (h : zp_ins L (za_σ E) M (za_CP (za_cl M)) i pc lv st t = some (.inl S9)) (hk : zp_G p l e R s m args below meth c Q E (za_nL M) ads0 S9) : zp_G p l e R s m args below meth c Q E (za_nL M) ads0 (pc, lv, st, t) := by
  obtain ⟨hx, hb, hml, hr, hlocks, hnm, hown, htab, K, hW, h0, hdec, hRf, hRl, hRc, hRs⟩ := id X
  obtain ⟨len, hd0, hln⟩ := za_dok_ok (q := (pc, i)) (List.all_eq_true.mp hdec _ hmm)
  have hd : za_sw i = false → decode M.2.1 pc = .ok (i, za_ln i) := fun z => by
    rcases hln with h9 | h9
    · rw [show za_sw i = true from h9] at z; cases z
    · rw [show len = za_ln i from h9] at hd0; exact hd0
  cases i with
  | iconst k =>
    exact zx_push (v := .inl (Int32.ofInt k)) (w := .int (Int32.ofInt k)) (fun _ => rfl) (fun kk => lv_iconst hx hb (hd rfl) rfl kk) (zx_go h hk)
  | bipush k =>
    change (bif za_ile (-128) k then bif za_ile k 127 then zp_go lv t (pc + 2) (.inl (Int32.ofInt k) :: st) else none else none) = _ at h
    obtain ⟨h1, h⟩ := za_bif h
    obtain ⟨h2, h⟩ := za_bif h
    exact zx_push (v := .inl (Int32.ofInt k)) (w := .int (Int32.ofInt k)) (fun _ => rfl) (fun kk => lv_bipush hx hb (hd rfl) (zp_by8 (za_ile_t h1) (za_ile_t h2)) kk) (zx_go h hk)
  | sipush k =>
    exact zx_push (v := .inl (Int16.ofInt k).toInt32) (w := .int (Int16.ofInt k).toInt32) (fun _ => rfl) (fun kk => lv_sipush hx hb (hd rfl) rfl kk) (zx_go h hk)
  | lconst k =>
    exact zx_push (v := .inr (.inl (Int64.ofNat k))) (w := .long (Int64.ofNat k)) (fun _ => rfl) (fun kk => lv_lconst hx hb (hd rfl) rfl kk) (zx_go h hk)
  | ldc k =>
    change (bif Nat.beq k 56 then zp_str (za_cl M) k (za_is M) pc lv st t else zp_ldc 2 (za_CP (za_cl M) k) pc lv st t) = _ at h
    cases h9 : Nat.beq k 56 with
    | true =>
      rw [h9] at h
      exact hstr p e R s m args below meth c Q ads0 d pc k M lv st t S9 X hcap (hd rfl) h hk
    | false =>
      rw [h9] at h
      exact zy_ldc X (fun hc kk => lv_ldc hx hb hown hc (hd rfl) kk) h hk
  | ldc_w k =>
    exact zy_ldc X (fun hc kk => lv_ldcw hx hb hown hc (hd rfl) kk) h hk
  | ldc2_w k =>
    exact zy_ldc2 X (hd rfl) h hk
  | iload k =>
    exact zx_load (fun hf hg hl kk => by
      obtain ⟨x, rfl⟩ := zx_isI hf hg
      exact lv_iload hx hb (hd rfl) hl kk) h hk
  | iload_n k =>
    exact zx_load (fun hf hg hl kk => by
      obtain ⟨x, rfl⟩ := zx_isI hf hg
      exact lv_iload_n hx hb (hd rfl) rfl hl kk) h hk
  | lload k =>
    exact zx_load (fun hf hg hl kk => by
      obtain ⟨x, rfl⟩ := zx_isL hf hg
      exact lv_lload hx hb (hd rfl) hl kk) h hk
  | lload_n k =>
    exact zx_load (fun hf hg hl kk => by
      obtain ⟨x, rfl⟩ := zx_isL hf hg
      exact lv_lload_n hx hb (hd rfl) rfl hl kk) h hk
  | aload k =>
    exact zx_load (fun hf hg hl kk => by
      obtain ⟨x, rfl⟩ := zx_isR hf hg
      exact lv_aload hx hb (hd rfl) hl kk) h hk
  | aload_n k =>
    exact zx_load (fun hf hg hl kk => by
      obtain ⟨x, rfl⟩ := zx_isR hf hg
      exact lv_aload_n hx hb (hd rfl) rfl hl kk) h hk
  | istore k =>
    exact zx_stor1 (fun hf hg h1 h2 kk => by
      obtain ⟨x, rfl⟩ := zx_isI hf hg
      exact lv_istore hx hb (hd rfl) h1 h2 rfl kk) h hk
  | istore_n k =>
    exact zx_stor1 (fun hf hg h1 h2 kk => by
      obtain ⟨x, rfl⟩ := zx_isI hf hg
      exact lv_istore_n hx hb (hd rfl) rfl h1 h2 rfl kk) h hk
  | astore k =>
    exact zx_stor1 (fun hf hg h1 h2 kk => by
      obtain ⟨x, rfl⟩ := zx_isR hf hg
      exact lv_astore hx hb (hd rfl) h1 h2 rfl kk) h hk
  | astore_n k =>
    exact zx_stor1 (fun hf hg h1 h2 kk => by
      obtain ⟨x, rfl⟩ := zx_isR hf hg
      exact lv_astore_n hx hb (hd rfl) rfl h1 h2 rfl kk) h hk
  | lstore k =>
    exact zx_stor2 (fun h1 h2 kk => lv_lstore hx hb (hd rfl) h1 h2 rfl kk) h hk
  | lstore_n k =>
    exact zx_stor2 (fun h1 h2 kk => lv_lstore_n hx hb (hd rfl) rfl h1 h2 rfl kk) h hk
  | iinc k d9 =>
    change zp_iinc k (za_nL M) d9 pc lv st t = _ at h
    unfold zp_iinc at h
    split at h
    · rename_i x hv
      obtain ⟨hi, h⟩ := za_bif h
      exact zx_iinc hv (za_blt hi) (fun h1 h2 h3 kk => lv_iinc hx hb (hd rfl) h1 h2 rfl h3 rfl kk) (zx_go h hk)
    · cases h
  | iadd =>
    exact zx_binI (· + ·) (fun kk => lv_iadd hx hb (hd rfl) kk) h hk
  | isub =>
    exact zx_binI (· - ·) (fun kk => lv_isub hx hb (hd rfl) kk) h hk
  | imul =>
    exact zx_binI (· * ·) (fun kk => lv_imul hx hb (hd rfl) kk) h hk
  | iand =>
    exact zx_binI (· &&& ·) (fun kk => lv_iand hx hb (hd rfl) kk) h hk
  | ior =>
    exact zx_binI (· ||| ·) (fun kk => lv_ior hx hb (hd rfl) kk) h hk
  | ixor =>
    exact zx_binI (· ^^^ ·) (fun kk => lv_ixor hx hb (hd rfl) kk) h hk
  | ishl =>
    exact zx_binI (fun x y => x <<< (y &&& 31)) (fun kk => lv_ishl hx hb (hd rfl) kk) h hk
  | ishr =>
    exact zx_binI (fun x y => x >>> (y &&& 31)) (fun kk => lv_ishr hx hb (hd rfl) kk) h hk
  | iushr =>
    exact zx_binI (fun x y => (x.toUInt32 >>> (y.toUInt32 &&& Int32.toUInt32 31)).toInt32) (fun kk => lv_iushr hx hb (hd rfl) rfl kk) h hk
  | idiv =>
    exact zx_divI (· / ·) (fun hn kk => lv_idiv hx hb (hd rfl) hn kk) h hk
  | irem =>
    exact zx_divI (fun x y => x - x / y * y) (fun hn kk => lv_irem hx hb (hd rfl) hn kk) h hk
  | i2b =>
    change zp_unI _ pc lv st t = _ at h
    unfold zp_unI at h
    split at h
    · exact zx_unI (fun x => x.toInt8.toInt32) (fun kk => lv_i2b hx hb (hd rfl) rfl kk) (zx_go h hk)
    · cases h
  | ineg =>
    change zp_unI _ pc lv st t = _ at h
    unfold zp_unI at h
    split at h
    · exact zx_unI (fun x => -x) (fun kk => lv_ineg hx hb (hd rfl) kk) (zx_go h hk)
    · cases h
  | ladd =>
    exact zx_binL (· + ·) (fun kk => lv_ladd hx hb (hd rfl) kk) h hk
  | lsub =>
    exact zx_binL (· - ·) (fun kk => lv_lsub hx hb (hd rfl) kk) h hk
  | lmul =>
    exact zx_binL (· * ·) (fun kk => lv_lmul hx hb (hd rfl) kk) h hk
  | land =>
    exact zx_binL (· &&& ·) (fun kk => lv_land hx hb (hd rfl) kk) h hk
  | lor =>
    exact zx_binL (· ||| ·) (fun kk => lv_lor hx hb (hd rfl) kk) h hk
  | lxor =>
    exact zx_binL (· ^^^ ·) (fun kk => lv_lxor hx hb (hd rfl) kk) h hk
  | lshl =>
    exact zx_shL za_shl0 (fun kk => lv_lshl hx hb (hd rfl) rfl kk) h hk
  | lshr =>
    exact zx_shL za_shr0 (fun kk => lv_lshr hx hb (hd rfl) rfl kk) h hk
  | lushr =>
    exact zx_shL za_ushr0 (fun kk => lv_lushr hx hb (hd rfl) rfl kk) h hk
  | i2l =>
    change zp_i2l pc lv st t = _ at h
    unfold zp_i2l at h
    split at h
    · exact zx_i2l (fun kk => lv_i2l hx hb (hd rfl) rfl kk) (zx_go h hk)
    · cases h
  | l2i =>
    change zp_l2i pc lv st t = _ at h
    unfold zp_l2i at h
    split at h
    · exact zx_l2i (fun kk => lv_l2i hx hb (hd rfl) rfl kk) (zx_go h hk)
    · cases h
  | lcmp =>
    change zp_lcmp pc lv st t = _ at h
    unfold zp_lcmp at h
    split at h
    · exact zx_lcmp (fun kk => W.lcmp hx hb (hd rfl) kk) (zx_go h hk)
    · cases h
  | dup =>
    change zp_dup pc lv st t = _ at h
    unfold zp_dup at h
    split at h
    · obtain ⟨g1, h⟩ := za_bif h
      exact zx_dup (za_beq g1) (fun h1 kk => lv_dup hx hb (hd rfl) h1 kk) (zx_go h hk)
    · cases h
  | pop =>
    change zp_pop pc lv st t = _ at h
    unfold zp_pop at h
    split at h
    · obtain ⟨g1, h⟩ := za_bif h
      exact zx_pop (za_beq g1) (fun h1 kk => lv_pop hx hb (hd rfl) h1 kk) (zx_go h hk)
    · cases h
  | dup2 =>
    change zp_dup2 pc lv st t = _ at h
    unfold zp_dup2 at h
    split at h
    · obtain ⟨g1, h⟩ := za_bif h
      obtain ⟨g2, h⟩ := za_bif h
      exact zx_dup2 (za_beq g1) (za_beq g2) (fun h1 h2 kk => lv_dup2_11 hx hb (hd rfl) h1 h2 kk) (zx_go h hk)
    · cases h
  | ifCond cnd o9 =>
    cases cnd with
    | eq => exact zy_if1 (P := fun x => x = 0) (fun _ => zp_d) (fun ht ky kn => lv_if_eq hx hb (hd rfl) ht ky kn) h hk
    | ne => exact zy_if1 (P := fun x => ¬ x = 0) (fun _ => zp_d) (fun ht ky kn => lv_if_ne hx hb (hd rfl) ht ky (fun h9 => kn (not_not_intro h9))) h hk
    | lt => exact zy_if1 (P := fun x => x < 0) (fun _ => zp_d) (fun ht ky kn => lv_if_lt hx hb (hd rfl) ht ky kn) h hk
    | ge => exact zy_if1 (P := fun x => 0 ≤ x) (fun _ => zp_d) (fun ht ky kn => lv_if_ge hx hb (hd rfl) ht ky kn) h hk
    | gt => exact zy_if1 (P := fun x => 0 < x) (fun _ => zp_d) (fun ht ky kn => lv_if_gt hx hb (hd rfl) ht ky kn) h hk
    | le => exact zy_if1 (P := fun x => x ≤ 0) (fun _ => zp_d) (fun ht ky kn => lv_if_le hx hb (hd rfl) ht ky kn) h hk
  | if_icmp cnd o9 =>
    cases cnd with
    | eq => exact zy_if2 (P := fun x y => x = y) (fun _ _ => zp_d) (fun ht ky kn => lv_icmp_eq hx hb (hd rfl) ht ky kn) h hk
    | ne => exact zy_if2 (P := fun x y => ¬ x = y) (fun _ _ => zp_d) (fun ht ky kn => lv_icmp_ne hx hb (hd rfl) ht ky (fun h9 => kn (not_not_intro h9))) h hk
    | lt => exact zy_if2 (P := fun x y => x < y) (fun _ _ => zp_d) (fun ht ky kn => lv_icmp_lt hx hb (hd rfl) ht ky kn) h hk
    | ge => exact zy_if2 (P := fun x y => y ≤ x) (fun _ _ => zp_d) (fun ht ky kn => lv_icmp_ge hx hb (hd rfl) ht ky kn) h hk
    | gt => exact zy_if2 (P := fun x y => y < x) (fun _ _ => zp_d) (fun ht ky kn => lv_icmp_gt hx hb (hd rfl) ht ky kn) h hk
    | le => exact zy_if2 (P := fun x y => x ≤ y) (fun _ _ => zp_d) (fun ht ky kn => lv_icmp_le hx hb (hd rfl) ht ky kn) h hk
  | goto o9 =>
    obtain ⟨g, hg, h⟩ := zp_jmpE (show zp_jmp o9 pc lv st t = some (.inl S9) from h)
    exact zx_goto (fun ht kk => lv_goto hx hb (hd rfl) ht kk) hg (zx_go h hk)
  | tableswitch dd lo hi os =>
    change zp_tsw dd lo hi os pc lv st t = _ at h
    unfold zp_tsw at h
    split at h
    · rename_i x r
      split at h
      · rename_i hc
        obtain ⟨g, hg, h⟩ := zp_jmpE h
        exact zx_tswOut (fun h1 h2 kk => lv_tableOut hx hb hd0 h1 h2 kk) hc hg (zx_go h hk)
      · rename_i hc
        split at h
        · rename_i off hoff
          obtain ⟨g, hg, h⟩ := zp_jmpE h
          exact zx_tswIn (fun h1 h2 h3 h4 kk => lv_tableIn hx hb hd0 h1 h2 h3 h4 kk) (fun z => hc (Or.inl z)) (fun z => hc (Or.inr z)) hoff hg (zx_go h hk)
        · cases h
    · cases h
  | lookupswitch dd ps =>
    change zp_lsw dd ps pc lv st t = _ at h
    unfold zp_lsw at h
    split at h
    · rename_i x r
      obtain ⟨g1, h⟩ := za_bif h
      obtain ⟨g, hg, h⟩ := zp_jmpE h
      exact zx_lsw (fun h2 h3 kk => lv_lookup hx hb hd0 g1 h2 h3 kk) rfl hg (zx_go h hk)
    · cases h
  | getfield k =>
    exact zy_getf X (hd rfl) h hk
  | putfield k =>
    exact zy_putf X (hd rfl) h hk
  | iaload =>
    exact zy_ald (bt := false) rfl X (hd rfl) h hk
  | baload =>
    exact zy_ald (bt := true) rfl X (hd rfl) h hk
  | iastore =>
    exact zy_ast (bt := false) rfl X (hd rfl) h hk
  | bastore =>
    exact zy_ast (bt := true) rfl X (hd rfl) h hk
  | laload =>
    exact zy_lld X (hd rfl) h hk
  | lastore =>
    exact zy_lst X (hd rfl) h hk
  | arraylength =>
    exact zy_alen X (hd rfl) h hk
  | invokestatic k =>
    change (match za_CP (za_cl M) k with
      | some (14, _, _, _) => zp_acp pc lv st t
      | _ => none) = _ at h
    split at h
    · rename_i j9 k9 z9 hrow
      exact zy_acpC X hrow (hd rfl) h hk
    · cases h
  | _ => exact nomatch (show (none : zp_N) = some (.inl S9) from h)
end ZW2
section ZY2
variable {p : Program} {l : Launch} {e : Env} {R : Room} {s s0 : State} {m : MethodId} {args : Array Value} {below : List Frame} {meth : Method} {c : Code} {E : za_E} {ads0 : List Nat} {pc L d : Nat} {M : za_MI} {C : zp_C} {lv : zp_LV} {t : zp_T} {st : List zp_V} {X0 : zp_X}
theorem zy_aft_c {rest : List zp_V} {X1 : zp_X} {cs sl : Nat} {S' : zp_S} (h : zp_aft M (za_CP (za_cl M)) pc lv rest cs sl X1 = some (.inl S')) : S'.2.2.2.2 = (cs, sl) := by
  unfold zp_aft at h
  split at h
  · cases h; rfl
  · cases h; rfl
  · split at h
    · cases h
    · cases h
    · split at h
      · obtain ⟨-, h⟩ := za_bif h
        cases h; rfl
      · obtain ⟨-, h⟩ := za_bif h
        cases h; rfl
      · cases h
theorem zy_run2 (X : za_Cx p l R s m args meth c E L s0 d M) (hstr : zp_str2 l E L s0) (IH : zp_IH l E s0 d C) : ∀ (n : Nat) (S : zp_S) (X0 : zp_X), S.2.2.2.2.1 ≤ za_mc M ∧ S.2.2.2.2.2 ≤ za_ms M → zp_RunN L (za_σ E) M C n S X0 → zp_G p l e R s m args below meth c (vx_MQ below (zp_Qc E ads0 X0) (zp_XC E ads0 X0) args s (za_mc M) (za_ms M) (za_A E)) E (za_nL M) ads0 S
  | 0, _, _, _, h => h.elim
  | n + 1, (pc, lv, st, t), X0, hcap, h => by
    obtain ⟨i, hi, h⟩ := h
    have hmm := za_fe_mem hi
    rcases h with ⟨S', h1, h2⟩ | h | ⟨nx, j, k, Y, X1, h1, h2, h3, h4, h5⟩
    · have e := zp_ins_c h1
      exact zy_ins2 X hstr hcap hmm h1 (zy_run2 X hstr IH n S' X0 (by rw [e]; exact hcap) h2)
    · exact zy_end X hmm h
    · refine zy_call X IH hmm h1 h2 h3 h4 ?_
      generalize ho : zp_aft M (za_CP (za_cl M)) pc lv (st.drop k) (t.2.1 + za_mc Y) (t.2.2 + za_ms Y) X1 = o at h5 ⊢
      match o, h5, ho with
      | some (.inl S'), h5, ho =>
        have e := zy_aft_c ho
        exact zy_run2 X hstr IH n S' X0 (by rw [e]; exact ⟨h2.2.2.1, h2.2.2.2⟩) h5
      | some (.inr X'), h5, _ => exact h5
end ZY2
theorem zy_met2 {l : Launch} {E : za_E} {s0 : State} {L d n : Nat} {C : zp_C} {Y : za_MI} {as : List zp_V} {h : zp_H} {X0 : zp_X} {ads : List Nat} (K : za_K0 l E L s0) (hstr : zp_str2 l E L s0) (IH : zp_IH l E s0 d C) (hpl : plainFor Y.1 = true) (how : za_ow (za_cl Y) = Y.1.cls) (hdec : (za_is Y).all (za_dok Y.2.1) = true) (hwt : zp_wt as ≤ za_nL Y) (hrun : zp_RunN L (za_σ E) Y C n (0, zp_args 0 as, [], h, 0, 0) X0) :
    vx_Met l Y.1 [za_word Y] (za_rm (d + 1) Y) (zp_Pc E s0 ads as h) (zp_Qc E ads X0) (zp_XC E ads X0) (za_mc Y) (za_ms Y) (za_A E) := by
  refine MetFree.of_bodySF (code := Y.2.1) (maxLocals := za_nL Y) (ret := za_rt Y) hpl ?_ ?_
  · intro args s m h hn
    obtain ⟨meth, c, h1, h2, h3, h4, h5, h6, -⟩ := zy_spec (atoms_spec (ws := [za_word Y]) h _ List.mem_cons_self) hn
    exact ⟨meth, c, h1, h2, h3, h4, h5, h6⟩
  · intro p e s m args below meth c s₁ B hml hP _
    have hh0 : s₁.heap = s.heap := by rw [B.state]; rfl
    obtain ⟨vs, rfl, hA, hWd, hW, hBl⟩ := hP
    have htab : c.exceptionTable.toList = tableOf (za_hh Y) := by
      obtain ⟨meth9, c9, h1, h2, -, -, -, -, h7⟩ := zy_spec (atoms_spec (ws := [za_word Y]) B.pre _ List.mem_cons_self) B.named
      cases Option.some.inj (h1.symm.trans B.method)
      cases Option.some.inj (h2.symm.trans (Stand.of_body B).code)
      exact h7
    have X : za_Cx p l (headSpec [za_word Y] (za_rm (d + 1) Y)).room s m vs.toArray meth c E L s0 d Y := ⟨B.exec, B.bytes, hml, B.returns, B.notSynchronized, (name_of_methodNamed B.named B.method).1, by rw [how]; exact findClass_of_methodNamed B.named, htab, K, hW, hBl, hdec, by show d + 9 ≤ d + 1 + 8; omega, by show 64 * d + 259 ≤ 64 * (d + 1) + 200; omega, rfl, rfl⟩
    have hG := zy_run2 (below := below) (e := e) (ads0 := ads) X hstr IH n _ X0 ⟨Nat.zero_le _, Nat.zero_le _⟩ hrun ads s.heap [] ((lg_sl vs ++ List.replicate (za_nL Y - (lg_sl vs).length) Slot.unset).toArray) [] ⟨List.prefix_rfl, trivial, ⟨lv_args 0 vs, lv_entry vs (by rw [zp_sl hA]; exact hwt), zp_args_ok 0 hA⟩, hWd, ⟨Nat.le_refl _, fun _ _ _ => rfl, fun z hz => absurd hz List.not_mem_nil⟩⟩
    rw [lg_entry_eq]
    obtain ⟨t, a1, o, b1, b2, b3⟩ := hG s₁ hh0 (Stand.of_body B)
    exact ⟨t, o, a1, b1, b2, b3⟩
theorem zy_all2 {l : Launch} {E : za_E} {s0 : State} {L : Nat} (K : za_K0 l E L s0) (hstr : zp_str2 l E L s0) : ∀ d : Nat, zp_IH l E s0 d (zp_Call L (za_σ E) d)
  | 0 => fun _ _ _ _ _ _ _ hc => hc.elim
  | d + 1 => by
    intro j Y as h X ads hj hc
    obtain ⟨Y9, n, h1, h2, h3⟩ := hc
    cases Option.some.inj (h1.symm.trans hj)
    obtain ⟨o1, o2, -⟩ := zj_ok hj
    exact zy_met2 K hstr (zy_all2 K hstr d) o1 o2 (zm_d _ (zm_all hj)) h2 h3
end
section
/-! ===== the reader's two questions of its constant ===== -/
theorem zS_strOK {l : Launch} {E : za_E} {L : Nat} {s0 : State} {a b : Nat} (K : za_K0 l E L s0) (hK : zS_K E s0 a b) : zp_str2 l E L s0 := by
  intro p e R s m args below meth c Q ads0 d pc k M lv st t S9 X hcap hdg h hk
  obtain ⟨hx, hb, hml, hr, hlocks, hnm, hown, htab, -, hW, h0, hdec, hRf, hRl, hRc, hRs⟩ := id X
  have hfix := zj_fix X
  unfold zp_str at h
  obtain ⟨g1, hA⟩ := za_bif h
  obtain ⟨g2, hB⟩ := za_bif hA
  obtain ⟨g3, hC⟩ := za_bif hB
  clear h hA hB
  have g2 := za_beq g2
  subst g2
  have g1 := za_beq g1
  have g3 := za_ble g3
  rw [g1] at hown hfix
  have hown : s.vm.findClass RX9 = some m.cls := hown
  obtain ⟨tx, hR⟩ := hK.2.2.2.2.2.2
  split at hC
  · rename_i j hfe
    obtain ⟨g4, hD⟩ := za_bif hC
    have g4 := za_beq g4
    subst g4
    cases hD
    intro ads H locs ls stk Mm
    obtain ⟨m1, m3, m4, m5, m6⟩ := Mm
    have hBl : za_Bl E H := za_Bl_S h0 m6
    obtain ⟨cell, o1, o2, o3, o4⟩ := (zS_at K hW h0 hK).2.2.1
    have hcell : H[a]? = some cell := by
      rw [m6.2.1 a (Array.getElem?_eq_some_iff.mp o1).1 o4]
      exact o1
    have hsz : ls.size = za_nL M := by
      obtain ⟨lc, l9, -⟩ := m4
      exact l9.1
    refine va_ldcS hx hb hown (hR.warm hW) hdg ?_
    exact zS_call (va_runV (As := []) (rest := stk) (g := F0 m (pc + 2) ls (.ref a :: stk)) hfix (zS_length K hK) ⟨zS_CB (n := 0) K hW 24 4 25 rfl rfl rfl (by decide) (by decide) (by omega) (by omega), zS_w K hW 26 rfl, zS_w K hW 27 rfl⟩ ⟨zS_blind, ⟨cell, hcell, o2, o3⟩, fun U hU hWU => ⟨rfl, State.WarmedH.trans hW hWU, by rw [hU]; exact hBl⟩⟩ rfl rfl hsz rfl (by rw [zp_wt_ok m3]; show 2 * 0 + zp_wt st ≤ 8; omega) (za_fe_1 hdec hfe rfl) (by rw [hRc, hRs]; exact hcap) ) m6 (fun locs1 hS1 => hk ads H locs1 ls (.int (Int32.ofNat zp_spell.length) :: stk) ⟨m1, ⟨rfl, m3⟩, m4, m5, hS1⟩)
  · rename_i i hfe
    split at hC
    · rename_i j x hfe2 hget
      obtain ⟨g4, hD⟩ := za_bif hC
      have g4 := za_beq g4
      subst g4
      split at hD
      · rename_i hx9
        cases hD
        intro ads H locs ls stk Mm
        obtain ⟨m1, m3, m4, m5, m6⟩ := Mm
        have hBl : za_Bl E H := za_Bl_S h0 m6
        obtain ⟨cell, o1, o2, o3, o4⟩ := (zS_at K hW h0 hK).2.2.1
        have hcell : H[a]? = some cell := by
          rw [m6.2.1 a (Array.getElem?_eq_some_iff.mp o1).1 o4]
          exact o1
        have hsz : ls.size = za_nL M := by
          obtain ⟨lc, l9, -⟩ := m4
          exact l9.1
        have hi : ls[i.val]? = some (Slot.val (.int x)) := by
          obtain ⟨lc, l9, l8⟩ := m4
          obtain ⟨w, w1, w2⟩ := zp_get_ok l8 hget
          cases w2
          exact l9.2.2 _ w1
        refine va_ldcS hx hb hown (hR.warm hW) hdg ?_
        refine lv_iload_n hx hb (za_fe_1 hdec hfe rfl) rfl hi ?_
        exact zS_call (va_runV (As := [.int x]) (rest := stk) (g := F0 m (pc + 3) ls (.int x :: .ref a :: stk)) hfix (zS_charAt K hK hx9) ⟨zS_CB (n := 1) K hW 28 4 29 rfl rfl rfl (by decide) (by decide) (by omega) (by omega), zS_w K hW 30 rfl, zS_w K hW 31 rfl⟩ ⟨zS_blind, ⟨cell, hcell, o2, o3⟩, fun U hU hWU => ⟨rfl, State.WarmedH.trans hW hWU, by rw [hU]; exact hBl⟩⟩ rfl rfl hsz rfl (by rw [zp_wt_ok m3]; show 2 * 0 + zp_wt st ≤ 8; omega) (za_fe_1 hdec hfe2 rfl) (by rw [hRc, hRs]; exact hcap)) m6 (fun locs1 hS1 => hk ads H locs1 ls (.int (zS_ch x.toInt.toNat) :: stk) ⟨m1, ⟨rfl, m3⟩, m4, m5, hS1⟩)
      · cases hD
    · cases hC
  · cases hC
end
section
/-! ===== the law's start ===== -/
def zy_tx : List (Nat × String) := [(112, "the tape has not so many bytes"), (176, "no such count"), (187, "no such cell"), (212, "no such mark"), (268, "no such number of marks"), (286, "no such slates"), (308, "no such slate was studied"), (313, "no such reach"), (345, "both are one slate"), (363, "no such slate"), (365, "no such pilot"), (367, "no such what")]
theorem zy_k : za_sk = zy_tx.map (·.1) := rfl
theorem zy_t : ∀ q ∈ zy_tx, Cond.stringRef RX11 q.1 q.2 ∈ lw_tbl := by decide +kernel
theorem zy_e : ∀ q ∈ zy_tx, Cond.exactly (.string RX11 q.1) "java/lang/String" ∈ flatC (Jvm.Cond.and given_1 narrow_1) := by decide +kernel
theorem zy_i : vwCl.all (fun q => decide (Cond.instantiable q.1 q.2.2 ∈ lw_tbl)) = true := by decide +kernel
theorem zy_l1 : Cond.laysStatic Bundle.tN "UNASSIGNED_STACK" Bundle.steD ∈ lw_tbl := by decide +kernel
theorem zy_l2 : Cond.laysStatic Bundle.tN "SUPPRESSED_SENTINEL" Bundle.listD ∈ lw_tbl := by decide +kernel
theorem zy_l3 : Cond.initialized Bundle.tN ∈ lw_tbl := by decide +kernel
theorem zy_r1 : Cond.isRef (.static Bundle.tN "UNASSIGNED_STACK" Bundle.steD) ∈ flatC (Jvm.Cond.and given_1 narrow_1) := by decide +kernel
theorem zy_r2 : Cond.isRef (.static Bundle.tN "SUPPRESSED_SENTINEL" Bundle.listD) ∈ flatC (Jvm.Cond.and given_1 narrow_1) := by decide +kernel
theorem zy_n1 : Cond.not (.castable (za_exn 0) (za_exn 1)) ∈ flatC (Jvm.Cond.and given_1 narrow_1) := by decide +kernel
theorem zy_n2 : Cond.not (.castable (za_exn 1) (za_exn 0)) ∈ flatC (Jvm.Cond.and given_1 narrow_1) := by decide +kernel
theorem zy_c0 : Cond.castable (za_exn 0) (za_exn 0) ∈ lw_tbl := by decide +kernel
theorem zy_c1 : Cond.castable (za_exn 1) (za_exn 1) ∈ lw_tbl := by decide +kernel
theorem zy_D {args : Array Value} {s : State} (hts : ∀ w ∈ lw_tbl, w.before args s = true) : ∃ D : va_G, ∀ (c : Nat) (q : vw_C), vwCl[c]? = some q → u_Kn s q.1 q.2.1 q.2.2 (D.1 c) (D.2 c) := by
  have h : ∀ c : Nat, ∃ z : ClassId × (Nat → Nat), ∀ q : vw_C, vwCl[c]? = some q → u_Kn s q.1 q.2.1 q.2.2 z.1 z.2 := by
    intro c
    cases hq : vwCl[c]? with
    | none => exact ⟨(0, fun _ => 0), fun q h => by cases h⟩
    | some q =>
      have hi := of_decide_eq_true (List.all_eq_true.mp zy_i q (List.mem_of_getElem? hq))
      obtain ⟨cC, iS, hk⟩ := u_known hts (fun w hw => (List.mem_filter.mp ((zc_cls hq).1 w hw)).1) (hts _ hi)
      exact ⟨(cC, iS), fun q' h' => by cases h'; exact hk⟩
  exact ⟨(fun c => (h c).choose.1, fun c => (h c).choose.2), fun c q hq => (h c).choose_spec q hq⟩
theorem zy_K0 {l : Launch} {s : State} {b L : Nat} {xs : Nat → Int32} (hl : l.stackTraces = false) (hts : ∀ w ∈ lw_tbl, w.before #[Value.ref b] s = true) (hX : va_X b L xs s s.heap) (hb : b < s.heap.size) (hgv : (Jvm.Cond.and given_1 narrow_1).before #[Value.ref b] s = true) : ∃ E : za_E, za_σ E = xs ∧ za_b E = b ∧ za_H0 E = s.heap ∧ za_K0 l E L s := by
  have hs := flat_of_before _ hgv
  obtain ⟨D, hD⟩ := zy_D hts
  have hwd : ∀ w ∈ za_wd, w.before #[Value.ref b] s = true := fun w hw => hts w (List.mem_filter.mp hw).1
  obtain ⟨cI, kI, oI, i1, i2, i3⟩ := Cond.arrayClass_spec (show (Cond.arrayClass .int).holds #[Value.ref b] s none s [] = true from hwd _ zx_arI)
  obtain ⟨cB, kB, oB, b1, b2, b3⟩ := Cond.arrayClass_spec (show (Cond.arrayClass .byte).holds #[Value.ref b] s none s [] = true from hwd _ zx_arB)
  obtain ⟨cZ, kZ, oZ, z1, z2, z3⟩ := Cond.arrayClass_spec (show (Cond.arrayClass .boolean).holds #[Value.ref b] s none s [] = true from hwd _ zx_arZ)
  obtain ⟨cJ, kJ, oJ, j1, j2, j3⟩ := Cond.arrayClass_spec (show (Cond.arrayClass .long).holds #[Value.ref b] s none s [] = true from hwd _ zx_arJ)
  have hA : ∀ a : Nat, a < s.heap.size → ¬ (s.heap.size ≤ a) := fun a h => Nat.not_le.mpr h
  refine ⟨(xs, b, D, (cI, cB, cZ, cJ), s.heap), rfl, rfl, rfl, hl, rfl, ?_, ?_, ⟨hD, ?_⟩, hX, hb, ?_, ?_, ?_, ?_, ?_⟩
  · intro w hw
    exact word_at (State.WarmedH.refl s) (good_of_word (List.mem_filter.mp hw).2) (hwd w hw)
  · intro w hw
    exact va_Nw.of (zn_on (List.mem_filter.mp hw).2) (hts w (List.mem_filter.mp hw).1)
  · intro k q hk
    match k, hk with
    | 0, hk => cases hk; exact ⟨fun n z => ⟨fun k h => (by cases h), kI, i2, oI, i3⟩, i1⟩
    | 1, hk => cases hk; exact ⟨fun n z => ⟨fun k h => (by cases h), kB, b2, oB, b3⟩, b1⟩
    | 2, hk => cases hk; exact ⟨fun n z => ⟨fun k h => (by cases h), kZ, z2, oZ, z3⟩, z1⟩
    | 3, hk => cases hk; exact ⟨fun n z => ⟨fun k h => (by cases h), kJ, j2, oJ, j3⟩, j1⟩
    | _ + 4, hk => cases hk
  · exact vx_Zqof (hts _ zy_l1) (hts _ zy_l3) (hs _ zy_r1) hA
  · exact vx_Zqof (hts _ zy_l2) (hts _ zy_l3) (hs _ zy_r2) hA
  · intro ex hex
    match ex, hex with
    | 0, _ => exact va_Nw.of rfl (hts _ zy_c0)
    | 1, _ => exact va_Nw.of rfl (hts _ zy_c1)
    | _ + 2, hex => omega
  · intro ex ex' h1 h2 h3
    match ex, ex', h1, h2, h3 with
    | 0, 1, _, _, _ => exact va_Nc.of (hs _ zy_n1)
    | 1, 0, _, _, _ => exact va_Nc.of (hs _ zy_n2)
    | 0, 0, _, _, h3 => exact absurd rfl h3
    | 1, 1, _, _, h3 => exact absurd rfl h3
    | _ + 2, _, h1, _, _ => omega
    | _, _ + 2, _, h2, _ => omega
  · intro k hk
    rw [zy_k] at hk
    obtain ⟨q, hq, rfl⟩ := List.mem_map.mp hk
    obtain ⟨a, c, cA, kA, q1, -⟩ := Cond.exactly_spec (args := #[Value.ref b]) (first := s) (o := none) (s := s) (idx := []) (t := .string RX11 q.1) (cls := "java/lang/String") (hs _ (zy_e q hq))
    exact ⟨q.2, a, vk_R.of (A := #[Value.ref b]) (hts _ (zy_t q hq)) q1⟩
/-! the constant of the reader -/
def zS_tx : String := "north east south west x y hour tide or and not go sea rock current slate hand school goal pilot rule "
def zS_tm : Term := .string RX9 56
def zS_va : Term := .field zS_tm "java/lang/String" "value" "[B"
theorem zS_c1 : Cond.exactly zS_tm "java/lang/String" ∈ flatC (Jvm.Cond.and given_1 narrow_1) := by decide +kernel
theorem zS_c2 : Cond.eq (.field zS_tm "java/lang/String" "coder" "B") (.int 0) ∈ flatC (Jvm.Cond.and given_1 narrow_1) := by decide +kernel
theorem zS_c3 : Cond.arrayOf zS_va .byte ∈ flatC (Jvm.Cond.and given_1 narrow_1) := by decide +kernel
theorem zS_c4 : Cond.eq (.length zS_va) (.int (Int32.ofNat 101)) ∈ flatC (Jvm.Cond.and given_1 narrow_1) := by decide +kernel
theorem zS_c5 : (List.range 101).all (fun j => decide (Cond.eq (.elem zS_va (.int (Int32.ofNat j))) (.int (zS_by.getD j 0)) ∈ flatC (Jvm.Cond.and given_1 narrow_1))) = true := by decide +kernel
theorem zS_c6 : Cond.eq (.static RJ0 "COMPACT_STRINGS" "Z") (.int 1) ∈ flatC (Jvm.Cond.and given_1 narrow_1) := by decide +kernel
theorem zS_c7 : Cond.isRef (.static RJ3 "SIOOBE_FORMATTER" "Ljava/util/function/BiFunction;") ∈ flatC (Jvm.Cond.and given_1 narrow_1) := by decide +kernel
theorem zS_c8 : Cond.stringRef RX9 56 zS_tx ∈ lw_tbl := by decide +kernel
theorem zS_c9 : ∀ w ∈ [Cond.laysStatic RJ0 "COMPACT_STRINGS" "Z", Cond.initialized RJ0, Cond.laysStatic RJ3 "SIOOBE_FORMATTER" "Ljava/util/function/BiFunction;", Cond.initialized RJ3], w ∈ lw_tbl := by decide +kernel
theorem zS_of {E : za_E} {s : State} {b : Nat} (hE : za_H0 E = s.heap) (hts : ∀ w ∈ lw_tbl, w.before #[Value.ref b] s = true) (hgv : (Jvm.Cond.and given_1 narrow_1).before #[Value.ref b] s = true) : ∃ a v, zS_K E s a v := by
  have hs := flat_of_before _ hgv
  have hA : ∀ a : Nat, a < s.heap.size → ¬ za_A E a := by
    intro a ha h9
    have h9 : (za_H0 E).size ≤ a := h9
    rw [hE] at h9
    omega
  obtain ⟨adK, adV, hS, hev⟩ := vk_Sof (args := #[Value.ref b]) (s := s) (N := 1) (tm := fun _ => zS_tm) (len := [101]) (byt := [zS_by]) (A := za_A E)
    (fun i hi => by
      obtain rfl : i = 0 := by omega
      decide)
    (fun i hi => hs _ zS_c1) (fun i hi => hs _ zS_c2) (fun i hi => hs _ zS_c3)
    (fun i hi => by
      obtain rfl : i = 0 := by omega
      exact hs _ zS_c4)
    (fun i hi j hj => by
      obtain rfl : i = 0 := by omega
      have hj : j < 101 := hj
      exact hs _ (of_decide_eq_true (List.all_eq_true.mp zS_c5 j (List.mem_range.mpr hj))))
    (fun i j hi hj hij => absurd (show i = j by omega) hij) hA
  obtain ⟨o1, o2, o3, o4⟩ := hS.1 0 (by decide)
  refine ⟨adK 0, adV 0, ?_, ?_, o1, o2, o3, o4, zS_tx, vk_R.of (A := #[Value.ref b]) (hts _ zS_c8) (hev 0 (by decide))⟩
  · exact va_Zof (hts _ (zS_c9 _ List.mem_cons_self)) (hts _ (zS_c9 _ (List.mem_cons_of_mem _ List.mem_cons_self))) (va_eqt (hs _ zS_c6)) hA
  · exact va_Zqof (hts _ (zS_c9 _ (List.mem_cons_of_mem _ (List.mem_cons_of_mem _ List.mem_cons_self)))) (hts _ (zS_c9 _ (List.mem_cons_of_mem _ (List.mem_cons_of_mem _ (List.mem_cons_of_mem _ List.mem_cons_self))))) (hs _ zS_c7) hA
end
section
/-! ===== a text's tokens, said once for both sides ===== -/
def ys_sp (c : Int) : Bool := decide (c = 32 ∨ c = 10)
def ys_L (c : Int) : Bool := decide (97 ≤ c ∧ c ≤ 122)
def ys_D (c : Int) : Bool := decide (48 ≤ c ∧ c ≤ 57)
/-- ; ( ) + - * / < = -/
def ys_G (c : Int) : Bool := decide (c = 59 ∨ c = 40 ∨ c = 41 ∨ c = 43 ∨ c = 45 ∨ c = 42 ∨ c = 47 ∨ c = 60 ∨ c = 61)
def ys_run (P : Int → Bool) (T : Nat → Int) : Nat → Nat → Nat
  | 0, p => p
  | f + 1, p => bif P (T p) then ys_run P T f (p + 1) else p
theorem ys_run_t {P : Int → Bool} {T : Nat → Int} {n q : Nat} (hq : q < n) (h : P (T q) = true) : ys_run P T (n - q) q = ys_run P T (n - (q + 1)) (q + 1) := by
  rw [show n - q = (n - (q + 1)) + 1 by omega]
  show (bif P (T q) then _ else _) = _
  rw [h]
  rfl
theorem ys_run_f {P : Int → Bool} {T : Nat → Int} {n q : Nat} (h : P (T q) = false) : ys_run P T (n - q) q = q := by
  cases n - q with
  | zero => rfl
  | succ f =>
    show (bif P (T q) then _ else _) = _
    rw [h]
    rfl
theorem ys_run_n {P : Int → Bool} {T : Nat → Int} {n q : Nat} (h : n ≤ q) : ys_run P T (n - q) q = q := by
  rw [show n - q = 0 by omega]
  rfl
theorem ys_run_b {P : Int → Bool} {T : Nat → Int} : ∀ (f q : Nat), q ≤ ys_run P T f q ∧ ys_run P T f q ≤ q + f
  | 0, q => ⟨Nat.le_refl _, Nat.le_refl _⟩
  | f + 1, q => by
    show q ≤ (bif P (T q) then ys_run P T f (q + 1) else q) ∧ (bif P (T q) then ys_run P T f (q + 1) else q) ≤ q + (f + 1)
    cases P (T q) with
    | false => exact ⟨Nat.le_refl _, by show q ≤ q + (f + 1); omega⟩
    | true =>
      have h := ys_run_b (P := P) (T := T) f (q + 1)
      show q ≤ ys_run P T f (q + 1) ∧ ys_run P T f (q + 1) ≤ q + (f + 1)
      omega
def ys_nm (T : Nat → Int) (s : Nat) : Nat → Int
  | 0 => 0
  | k + 1 => ys_nm T s k * 10 + T (s + k) - 48
/-- how much of a known word fits, as the reader goes along them -/
def ys_al (T : Nat → Int) (s e : Nat) : Nat → Int
  | 0 => 0
  | i + 1 => if (Int32.ofNat (zp_spell.getD i 0)).toInt = 32 then 0 else if ys_al T s e i ≠ -1 ∧ (s : Int) + ys_al T s e i < e ∧ T ((s : Int) + ys_al T s e i).toNat = (Int32.ofNat (zp_spell.getD i 0)).toInt then ys_al T s e i + 1 else -1
def ys_wl (T : Nat → Int) (s e : Nat) : Nat → Nat → Int
  | 0, i => zq_sp i
  | f + 1, i => if (Int32.ofNat (zp_spell.getD i 0)).toInt = 32 ∧ ys_al T s e i = (e : Int) - s then zq_sp i else ys_wl T s e f (i + 1)
/-- which word it is -/
def ys_wi (T : Nat → Int) (s e : Nat) : Int := ys_wl T s e 101 0
/-- where the token behind p begins, what it is, where it ends, its value -/
def ys_st (T : Nat → Int) (n p : Nat) : Nat := ys_run ys_sp T (n - p) p
def ys_ks (T : Nat → Int) (n s : Nat) : Int := if n ≤ s then 0 else bif ys_L (T s) then 3 else bif ys_D (T s) then 2 else bif ys_G (T s) then 4 else 1
def ys_es (T : Nat → Int) (n s : Nat) : Nat := if n ≤ s then s else bif ys_L (T s) then ys_run ys_L T (n - s) s else bif ys_D (T s) then ys_run ys_D T (n - s) s else s + 1
def ys_vs (T : Nat → Int) (s e : Nat) : Int := bif ys_L (T s) then ys_wi T s e else bif ys_D (T s) then (if 4 < e - s then 2147483647 else ys_nm T s (e - s)) else T s
def ys_kd (T : Nat → Int) (n p : Nat) : Int := ys_ks T n (ys_st T n p)
def ys_nx (T : Nat → Int) (n p : Nat) : Nat := ys_es T n (ys_st T n p)
def ys_vl (T : Nat → Int) (n p : Nat) : Int := ys_vs T (ys_st T n p) (ys_nx T n p)
/-- the class has this text, and this token of it at hand -/
def yc_T (T : Nat → Int) (n : Nat) (H : zp_H) : Prop := n ≤ 700 ∧ (H.2.1 52 1).toInt = n ∧ ∀ k, k < n → (H.2.1 1 k).toInt = T k
def yc_k (T : Nat → Int) (n p : Nat) (H : zp_H) : Prop := (H.2.1 52 3).toInt = ys_st T n p ∧ (H.2.1 52 2).toInt = ys_nx T n p ∧ (H.2.1 52 4).toInt = ys_kd T n p ∧ (ys_kd T n p ≠ 0 → (H.2.1 52 5).toInt = ys_vl T n p)
theorem ys_stb {T : Nat → Int} {n p : Nat} (hp : p ≤ n) : p ≤ ys_st T n p ∧ ys_st T n p ≤ n := by
  have h := ys_run_b (P := ys_sp) (T := T) (n - p) p
  unfold ys_st
  omega
theorem ys_esb {T : Nat → Int} {n s : Nat} (hs : s ≤ n) : s ≤ ys_es T n s ∧ ys_es T n s ≤ n ∧ (ys_ks T n s ≠ 0 → s < ys_es T n s) := by
  unfold ys_es ys_ks
  by_cases h : n ≤ s
  · rw [if_pos h, if_pos h]
    exact ⟨Nat.le_refl _, hs, fun h9 => absurd rfl h9⟩
  · rw [if_neg h, if_neg h]
    cases hL : ys_L (T s) with
    | true =>
      have e : ys_run ys_L T (n - s) s = ys_run ys_L T (n - (s + 1)) (s + 1) := ys_run_t (by omega) hL
      have b := ys_run_b (P := ys_L) (T := T) (n - (s + 1)) (s + 1)
      show s ≤ ys_run ys_L T (n - s) s ∧ ys_run ys_L T (n - s) s ≤ n ∧ (_ → s < ys_run ys_L T (n - s) s)
      rw [e]
      exact ⟨by omega, by omega, fun _ => by omega⟩
    | false =>
      cases hD : ys_D (T s) with
      | true =>
        have e : ys_run ys_D T (n - s) s = ys_run ys_D T (n - (s + 1)) (s + 1) := ys_run_t (by omega) hD
        have b := ys_run_b (P := ys_D) (T := T) (n - (s + 1)) (s + 1)
        show s ≤ ys_run ys_D T (n - s) s ∧ ys_run ys_D T (n - s) s ≤ n ∧ (_ → s < ys_run ys_D T (n - s) s)
        rw [e]
        exact ⟨by omega, by omega, fun _ => by omega⟩
      | false =>
        show s ≤ s + 1 ∧ s + 1 ≤ n ∧ (_ → s < s + 1)
        exact ⟨by omega, by omega, fun _ => by omega⟩
theorem ys_nxb {T : Nat → Int} {n p : Nat} (hp : p ≤ n) : p ≤ ys_st T n p ∧ ys_st T n p ≤ ys_nx T n p ∧ ys_nx T n p ≤ n ∧ (ys_kd T n p ≠ 0 → ys_st T n p < ys_nx T n p) := by
  have h1 := ys_stb (T := T) hp
  have h2 := ys_esb (T := T) h1.2
  exact ⟨h1.1, h2.1, h2.2.1, h2.2.2⟩
end
section
/-! ===== the class's tokens, exactly ===== -/
def yc_m : List (Nat × Nat) := [(52, 2), (52, 3), (52, 4), (52, 5)]
def yc_Z (T : Nat → Int) (n : Nat) (H : zp_H) : Prop := zk_Bs zB0 zg zJc H ∧ yc_T T n H
theorem yc_T_I {T : Nat → Int} {n : Nat} {H : zp_H} {p k : Nat} {x : Int32} (h : yc_T T n H) (hp : ((Nat.beq p 1).or ((Nat.beq p 52).and (Nat.beq k 1))) = false) : yc_T T n (zw_I H p k x) := by
  obtain ⟨h1, h2, h3⟩ := h
  refine ⟨h1, ?_, fun j hj => ?_⟩
  · rw [show (zw_I H p k x).2.1 52 1 = H.2.1 52 1 from zp_u_ne (fun h9 => by rw [← h9.1, ← h9.2] at hp; cases hp)]
    exact h2
  · rw [show (zw_I H p k x).2.1 1 j = H.2.1 1 j from zp_u_ne (fun h9 => by rw [← h9.1] at hp; cases hp)]
    exact h3 j hj
def ys_10 (k : Nat) : Int := match k with
  | 0 => 0
  | 1 => 9
  | 2 => 99
  | 3 => 999
  | _ => 9999
theorem ys_10b {k : Nat} {x c : Int} (h : 0 ≤ x ∧ x ≤ ys_10 k) (hk : k < 4) (hc : 48 ≤ c ∧ c ≤ 57) : (0 ≤ x ∧ x ≤ 999) ∧ 0 ≤ x * 10 + c - 48 ∧ x * 10 + c - 48 ≤ ys_10 (k + 1) := by
  match k, hk, h with
  | 0, _, h =>
    have h : 0 ≤ x ∧ x ≤ 0 := h
    exact ⟨by omega, by omega, by show _ ≤ (9 : Int); omega⟩
  | 1, _, h =>
    have h : 0 ≤ x ∧ x ≤ 9 := h
    exact ⟨by omega, by omega, by show _ ≤ (99 : Int); omega⟩
  | 2, _, h =>
    have h : 0 ≤ x ∧ x ≤ 99 := h
    exact ⟨by omega, by omega, by show _ ≤ (999 : Int); omega⟩
  | 3, _, h =>
    have h : 0 ≤ x ∧ x ≤ 999 := h
    exact ⟨by omega, by omega, by show _ ≤ (9999 : Int); omega⟩
def zm_58 : za_MI := (yX9_isDigit, prog_11_method_5_code, 1, (some FieldType.boolean), 9, 0, 0, [], za_i58)
theorem zm_58_t : za_MT 58 = some zm_58 := rfl
def zm_59 : za_MI := (yX9_takeNumber, prog_11_method_7_code, 2, none, 9, 0, 0, [], za_i59)
theorem zm_59_t : za_MT 59 = some zm_59 := rfl
def zm_60 : za_MI := (yX9_takeSign, prog_11_method_8_code, 1, none, 9, 0, 0, [], za_i60)
theorem zm_60_t : za_MT 60 = some zm_60 := rfl
theorem yc_l1 {L : Nat} {σ : Nat → Int32} {d : Nat} {H : zp_H} {x : Int32} (h : 97 ≤ x.toInt ∧ x.toInt ≤ 122) : zp_Call L σ (d + 1) 56 [.inl x] H (.inl (some (.inl (Int32.ofInt 1))), H) := by
  refine zw_ex (zw_met zm_56_t rfl rfl ?_)
  refine zw_ld (n := 1) (k := 0) (f := zp_isI) (pc' := 1) rfl rfl rfl rfl rfl ?_
  refine zw_s (pc' := 3) rfl rfl ?_
  refine zw_blt2 (g := 16) (pc' := 6) rfl rfl rfl rfl (rfl : _ = (97 : Int)) (fun h1 => ?_) (fun h1 => ?_)
  · omega
  · refine zw_ld (n := 1) (k := 0) (f := zp_isI) (pc' := 7) rfl rfl rfl rfl rfl ?_
    refine zw_s (pc' := 9) rfl rfl ?_
    refine zw_bgt2 (g := 16) (pc' := 12) rfl rfl rfl rfl (rfl : _ = (122 : Int)) (fun h2 => ?_) (fun h2 => ?_)
    · omega
    · refine zw_s (pc' := 13) rfl rfl ?_
      refine zw_s (pc' := 17) rfl rfl ?_
      refine zw_rz rfl rfl (by decide) ?_
      rfl

theorem yc_l0 {L : Nat} {σ : Nat → Int32} {d : Nat} {H : zp_H} {x : Int32} (h : ¬ (97 ≤ x.toInt ∧ x.toInt ≤ 122)) : zp_Call L σ (d + 1) 56 [.inl x] H (.inl (some (.inl (Int32.ofInt 0))), H) := by
  refine zw_ex (zw_met zm_56_t rfl rfl ?_)
  refine zw_ld (n := 1) (k := 0) (f := zp_isI) (pc' := 1) rfl rfl rfl rfl rfl ?_
  refine zw_s (pc' := 3) rfl rfl ?_
  refine zw_blt2 (g := 16) (pc' := 6) rfl rfl rfl rfl (rfl : _ = (97 : Int)) (fun h1 => ?_) (fun h1 => ?_)
  · refine zw_s (pc' := 17) rfl rfl ?_
    refine zw_rz rfl rfl (by decide) ?_
    rfl
  · refine zw_ld (n := 1) (k := 0) (f := zp_isI) (pc' := 7) rfl rfl rfl rfl rfl ?_
    refine zw_s (pc' := 9) rfl rfl ?_
    refine zw_bgt2 (g := 16) (pc' := 12) rfl rfl rfl rfl (rfl : _ = (122 : Int)) (fun h2 => ?_) (fun h2 => ?_)
    · refine zw_s (pc' := 17) rfl rfl ?_
      refine zw_rz rfl rfl (by decide) ?_
      rfl
    · omega

theorem yc_g1 {L : Nat} {σ : Nat → Int32} {d : Nat} {H : zp_H} {x : Int32} (h : 48 ≤ x.toInt ∧ x.toInt ≤ 57) : zp_Call L σ (d + 1) 58 [.inl x] H (.inl (some (.inl (Int32.ofInt 1))), H) := by
  refine zw_ex (zw_met zm_58_t rfl rfl ?_)
  refine zw_ld (n := 1) (k := 0) (f := zp_isI) (pc' := 1) rfl rfl rfl rfl rfl ?_
  refine zw_s (pc' := 3) rfl rfl ?_
  refine zw_blt2 (g := 16) (pc' := 6) rfl rfl rfl rfl (rfl : _ = (48 : Int)) (fun h1 => ?_) (fun h1 => ?_)
  · omega
  · refine zw_ld (n := 1) (k := 0) (f := zp_isI) (pc' := 7) rfl rfl rfl rfl rfl ?_
    refine zw_s (pc' := 9) rfl rfl ?_
    refine zw_bgt2 (g := 16) (pc' := 12) rfl rfl rfl rfl (rfl : _ = (57 : Int)) (fun h2 => ?_) (fun h2 => ?_)
    · omega
    · refine zw_s (pc' := 13) rfl rfl ?_
      refine zw_s (pc' := 17) rfl rfl ?_
      refine zw_rz rfl rfl (by decide) ?_
      rfl

theorem yc_g0 {L : Nat} {σ : Nat → Int32} {d : Nat} {H : zp_H} {x : Int32} (h : ¬ (48 ≤ x.toInt ∧ x.toInt ≤ 57)) : zp_Call L σ (d + 1) 58 [.inl x] H (.inl (some (.inl (Int32.ofInt 0))), H) := by
  refine zw_ex (zw_met zm_58_t rfl rfl ?_)
  refine zw_ld (n := 1) (k := 0) (f := zp_isI) (pc' := 1) rfl rfl rfl rfl rfl ?_
  refine zw_s (pc' := 3) rfl rfl ?_
  refine zw_blt2 (g := 16) (pc' := 6) rfl rfl rfl rfl (rfl : _ = (48 : Int)) (fun h1 => ?_) (fun h1 => ?_)
  · refine zw_s (pc' := 17) rfl rfl ?_
    refine zw_rz rfl rfl (by decide) ?_
    rfl
  · refine zw_ld (n := 1) (k := 0) (f := zp_isI) (pc' := 7) rfl rfl rfl rfl rfl ?_
    refine zw_s (pc' := 9) rfl rfl ?_
    refine zw_bgt2 (g := 16) (pc' := 12) rfl rfl rfl rfl (rfl : _ = (57 : Int)) (fun h2 => ?_) (fun h2 => ?_)
    · refine zw_s (pc' := 17) rfl rfl ?_
      refine zw_rz rfl rfl (by decide) ?_
      rfl
    · omega

theorem yc_tnL {L : Nat} {σ : Nat → Int32} {d : Nat} {T : Nat → Int} {n : Nat} {H0 : zp_H} {s e : Nat} (hs : s ≤ e) : ∀ (m : Nat) (H : zp_H) (lv : zp_LV) (x : Int32) (q : Nat), yc_Z T n H → zk_Fr zg yc_m [] H0 H → zp_get lv 0 = some (.inr (.inr (some 53))) → zp_get lv 1 = some (.inl x) → (H.2.1 52 3).toInt = s → (H.2.1 52 2).toInt = q → s ≤ q ∧ q ≤ n → x.toInt = ys_nm T s (min (q - s) 4) → 0 ≤ x.toInt ∧ x.toInt ≤ ys_10 (min (q - s) 4) → ys_run ys_D T (n - q) q = e → n - q ≤ m → zs_Safe L σ (fun X : zp_X => ∃ H1, X = (.inl none, H1) ∧ yc_Z T n H1 ∧ zk_Fr zg yc_m [] H0 H1 ∧ (H1.2.1 52 3).toInt = s ∧ (H1.2.1 52 2).toInt = e ∧ (H1.2.1 52 4).toInt = 2 ∧ (H1.2.1 52 5).toInt = (if 4 < e - s then 2147483647 else ys_nm T s (e - s))) zm_59 [] (d + 1) (2, lv, [], H, (0, 0)) := by
  intro m
  induction m with
  | zero =>
    intro H lv x q hZ hF l0 l1 h3 h2 hq hx hb he hm
    have W := zB_Wd hZ.1
    have hn7 := hZ.2.1
    have r1 := hZ.2.2.1
    refine zw_ld (n := 1) (k := 0) (f := zp_isR) (pc' := 3) rfl rfl l0 rfl rfl ?_
    refine zw_gI (q := 52) (pc' := 6) W rfl rfl rfl rfl rfl rfl ?_
    refine zw_ld (n := 1) (k := 0) (f := zp_isR) (pc' := 7) rfl rfl l0 rfl rfl ?_
    refine zw_gI (q := 52) (pc' := 10) W rfl rfl rfl rfl rfl rfl ?_
    refine zw_bge2 (g := 72) (pc' := 13) rfl rfl rfl rfl rfl (fun hb1 => ?_) (fun hb1 => ?_)
    · have he : q = e := by
        rw [← he, ys_run_n (by omega)]
      have b2 := zB_putf (p := 52) (k := 4) (x := Int32.ofInt 2) hZ.1 rfl (fun r hr => by cases hr) (zJc_I rfl hZ.1.2.2.2.2.2.2.2)
      have hd : (H.2.1 52 2 - H.2.1 52 3).toInt = (H.2.1 52 2).toInt - (H.2.1 52 3).toInt := zq_sub (by omega) (by omega)
      refine zw_ld (n := 1) (k := 0) (f := zp_isR) (pc' := 73) rfl rfl l0 rfl rfl ?_
      refine zw_s (pc' := 74) rfl rfl ?_
      refine zw_pI (q := 52) (pc' := 77) W rfl rfl rfl rfl rfl rfl ?_
      refine zw_ld (n := 1) (k := 0) (f := zp_isR) (pc' := 78) rfl rfl l0 rfl rfl ?_
      refine zw_ld (n := 1) (k := 0) (f := zp_isR) (pc' := 79) rfl rfl l0 rfl rfl ?_
      refine zw_gI (q := 52) (pc' := 82) W rfl rfl rfl rfl (zw_ne rfl rfl) rfl ?_
      refine zw_ld (n := 1) (k := 0) (f := zp_isR) (pc' := 83) rfl rfl l0 rfl rfl ?_
      refine zw_gI (q := 52) (pc' := 86) W rfl rfl rfl rfl (zw_ne rfl rfl) rfl ?_
      refine zw_isub (pc' := 87) rfl rfl ?_
      refine zw_s (pc' := 88) rfl rfl ?_
      refine zw_ble2 (g := 96) (pc' := 91) rfl rfl rfl rfl (rfl : _ = (4 : Int)) (fun h4 => ?_) (fun h4 => ?_)
      · rw [hd] at h4
        have b3 := zB_putf (p := 52) (k := 5) (x := x) b2 rfl (fun r hr => by cases hr; exact ⟨Int32.le_toInt _, Int32.toInt_le _⟩) (zJc_I rfl b2.2.2.2.2.2.2.2)
        refine zw_ld (n := 1) (k := 1) (f := zp_isI) (pc' := 97) rfl rfl l1 rfl rfl ?_
        refine zw_pI (q := 52) (pc' := 100) W rfl rfl rfl rfl rfl rfl ?_
        refine zw_rn rfl rfl ?_
        refine ⟨_, rfl, ⟨b3, yc_T_I (yc_T_I hZ.2 rfl) rfl⟩, zk_Fr_I (zk_Fr_I hF rfl rfl) rfl rfl, ?_, ?_, ?_, ?_⟩
        · exact (congrArg Int32.toInt (zw_ne (zw_ne rfl rfl) rfl)).trans h3
        · exact (congrArg Int32.toInt (zw_ne (zw_ne rfl rfl) rfl)).trans (by rw [h2]; omega)
        · rw [show (zw_I (zw_I H 52 4 (Int32.ofInt 2)) 52 5 (x)).2.1 52 4 = Int32.ofInt 2 from zw_ne zw_eq rfl]
          decide
        · rw [show (zw_I (zw_I H 52 4 (Int32.ofInt 2)) 52 5 (x)).2.1 52 5 = x from zw_eq]
          rw [if_neg (by omega), hx, show min (q - s) 4 = e - s by omega]
      · rw [hd] at h4
        have b3 := zB_putf (p := 52) (k := 5) (x := Int32.ofInt 2147483647) b2 rfl (fun r hr => by cases hr; exact ⟨Int32.le_toInt _, Int32.toInt_le _⟩) (zJc_I rfl b2.2.2.2.2.2.2.2)
        refine zw_s (pc' := 93) rfl rfl ?_
        refine zw_s (pc' := 97) rfl rfl ?_
        refine zw_pI (q := 52) (pc' := 100) W rfl rfl rfl rfl rfl rfl ?_
        refine zw_rn rfl rfl ?_
        refine ⟨_, rfl, ⟨b3, yc_T_I (yc_T_I hZ.2 rfl) rfl⟩, zk_Fr_I (zk_Fr_I hF rfl rfl) rfl rfl, ?_, ?_, ?_, ?_⟩
        · exact (congrArg Int32.toInt (zw_ne (zw_ne rfl rfl) rfl)).trans h3
        · exact (congrArg Int32.toInt (zw_ne (zw_ne rfl rfl) rfl)).trans (by rw [h2]; omega)
        · rw [show (zw_I (zw_I H 52 4 (Int32.ofInt 2)) 52 5 (Int32.ofInt 2147483647)).2.1 52 4 = Int32.ofInt 2 from zw_ne zw_eq rfl]
          decide
        · rw [show (zw_I (zw_I H 52 4 (Int32.ofInt 2)) 52 5 (Int32.ofInt 2147483647)).2.1 52 5 = Int32.ofInt 2147483647 from zw_eq]
          rw [if_pos (by omega)]
          decide
    · omega
  | succ m ih =>
    intro H lv x q hZ hF l0 l1 h3 h2 hq hx hb he hm
    have W := zB_Wd hZ.1
    have hn7 := hZ.2.1
    have r1 := hZ.2.2.1
    refine zw_ld (n := 1) (k := 0) (f := zp_isR) (pc' := 3) rfl rfl l0 rfl rfl ?_
    refine zw_gI (q := 52) (pc' := 6) W rfl rfl rfl rfl rfl rfl ?_
    refine zw_ld (n := 1) (k := 0) (f := zp_isR) (pc' := 7) rfl rfl l0 rfl rfl ?_
    refine zw_gI (q := 52) (pc' := 10) W rfl rfl rfl rfl rfl rfl ?_
    refine zw_bge2 (g := 72) (pc' := 13) rfl rfl rfl rfl rfl (fun hb1 => ?_) (fun hb1 => ?_)
    · have he : q = e := by
        rw [← he, ys_run_n (by omega)]
      have b2 := zB_putf (p := 52) (k := 4) (x := Int32.ofInt 2) hZ.1 rfl (fun r hr => by cases hr) (zJc_I rfl hZ.1.2.2.2.2.2.2.2)
      have hd : (H.2.1 52 2 - H.2.1 52 3).toInt = (H.2.1 52 2).toInt - (H.2.1 52 3).toInt := zq_sub (by omega) (by omega)
      refine zw_ld (n := 1) (k := 0) (f := zp_isR) (pc' := 73) rfl rfl l0 rfl rfl ?_
      refine zw_s (pc' := 74) rfl rfl ?_
      refine zw_pI (q := 52) (pc' := 77) W rfl rfl rfl rfl rfl rfl ?_
      refine zw_ld (n := 1) (k := 0) (f := zp_isR) (pc' := 78) rfl rfl l0 rfl rfl ?_
      refine zw_ld (n := 1) (k := 0) (f := zp_isR) (pc' := 79) rfl rfl l0 rfl rfl ?_
      refine zw_gI (q := 52) (pc' := 82) W rfl rfl rfl rfl (zw_ne rfl rfl) rfl ?_
      refine zw_ld (n := 1) (k := 0) (f := zp_isR) (pc' := 83) rfl rfl l0 rfl rfl ?_
      refine zw_gI (q := 52) (pc' := 86) W rfl rfl rfl rfl (zw_ne rfl rfl) rfl ?_
      refine zw_isub (pc' := 87) rfl rfl ?_
      refine zw_s (pc' := 88) rfl rfl ?_
      refine zw_ble2 (g := 96) (pc' := 91) rfl rfl rfl rfl (rfl : _ = (4 : Int)) (fun h4 => ?_) (fun h4 => ?_)
      · rw [hd] at h4
        have b3 := zB_putf (p := 52) (k := 5) (x := x) b2 rfl (fun r hr => by cases hr; exact ⟨Int32.le_toInt _, Int32.toInt_le _⟩) (zJc_I rfl b2.2.2.2.2.2.2.2)
        refine zw_ld (n := 1) (k := 1) (f := zp_isI) (pc' := 97) rfl rfl l1 rfl rfl ?_
        refine zw_pI (q := 52) (pc' := 100) W rfl rfl rfl rfl rfl rfl ?_
        refine zw_rn rfl rfl ?_
        refine ⟨_, rfl, ⟨b3, yc_T_I (yc_T_I hZ.2 rfl) rfl⟩, zk_Fr_I (zk_Fr_I hF rfl rfl) rfl rfl, ?_, ?_, ?_, ?_⟩
        · exact (congrArg Int32.toInt (zw_ne (zw_ne rfl rfl) rfl)).trans h3
        · exact (congrArg Int32.toInt (zw_ne (zw_ne rfl rfl) rfl)).trans (by rw [h2]; omega)
        · rw [show (zw_I (zw_I H 52 4 (Int32.ofInt 2)) 52 5 (x)).2.1 52 4 = Int32.ofInt 2 from zw_ne zw_eq rfl]
          decide
        · rw [show (zw_I (zw_I H 52 4 (Int32.ofInt 2)) 52 5 (x)).2.1 52 5 = x from zw_eq]
          rw [if_neg (by omega), hx, show min (q - s) 4 = e - s by omega]
      · rw [hd] at h4
        have b3 := zB_putf (p := 52) (k := 5) (x := Int32.ofInt 2147483647) b2 rfl (fun r hr => by cases hr; exact ⟨Int32.le_toInt _, Int32.toInt_le _⟩) (zJc_I rfl b2.2.2.2.2.2.2.2)
        refine zw_s (pc' := 93) rfl rfl ?_
        refine zw_s (pc' := 97) rfl rfl ?_
        refine zw_pI (q := 52) (pc' := 100) W rfl rfl rfl rfl rfl rfl ?_
        refine zw_rn rfl rfl ?_
        refine ⟨_, rfl, ⟨b3, yc_T_I (yc_T_I hZ.2 rfl) rfl⟩, zk_Fr_I (zk_Fr_I hF rfl rfl) rfl rfl, ?_, ?_, ?_, ?_⟩
        · exact (congrArg Int32.toInt (zw_ne (zw_ne rfl rfl) rfl)).trans h3
        · exact (congrArg Int32.toInt (zw_ne (zw_ne rfl rfl) rfl)).trans (by rw [h2]; omega)
        · rw [show (zw_I (zw_I H 52 4 (Int32.ofInt 2)) 52 5 (Int32.ofInt 2147483647)).2.1 52 4 = Int32.ofInt 2 from zw_ne zw_eq rfl]
          decide
        · rw [show (zw_I (zw_I H 52 4 (Int32.ofInt 2)) 52 5 (Int32.ofInt 2147483647)).2.1 52 5 = Int32.ofInt 2147483647 from zw_eq]
          rw [if_pos (by omega)]
          decide
    · have tq : (H.2.1 1 (H.2.1 52 2).toInt.toNat).toInt = T q := by
        rw [show (H.2.1 52 2).toInt.toNat = q by omega]
        exact hZ.2.2.2 q (by omega)
      refine zw_ld (n := 1) (k := 0) (f := zp_isR) (pc' := 14) rfl rfl l0 rfl rfl ?_
      refine zw_gR (q := 52) (pc' := 17) W rfl rfl rfl rfl (W.2 52 0 _ rfl) rfl ?_
      refine zw_ld (n := 1) (k := 0) (f := zp_isR) (pc' := 18) rfl rfl l0 rfl rfl ?_
      refine zw_gI (q := 52) (pc' := 21) W rfl rfl rfl rfl rfl rfl ?_
      refine zw_ba (q := 1) (pc' := 22) W rfl rfl (by decide) (⟨by omega, by show _ < ((700 : Nat) : Int); omega⟩) rfl rfl ?_
      by_cases hdg : 48 ≤ (H.2.1 1 (H.2.1 52 2).toInt.toNat).toInt ∧ (H.2.1 1 (H.2.1 52 2).toInt.toNat).toInt ≤ 57
      · refine zw_c (pc' := 25) (zw_cs (Y := zm_58) rfl rfl zm_58_t) rfl rfl rfl rfl rfl (yc_g1 hdg) ?_
        refine zw_beq1 (g := 72) (pc' := 28) rfl rfl rfl (rfl : _ = (1 : Int)) (fun h9 => absurd h9 (by decide)) (fun h9 => ?_)
        have hP : ys_D (T q) = true := decide_eq_true (by rw [← tq]; exact hdg)
        rw [ys_run_t (by omega) hP] at he
        have e1 : (H.2.1 52 2 + Int32.ofInt 1).toInt = (H.2.1 52 2).toInt + 1 := zw_p1 (by omega)
        have hd : (H.2.1 52 2 - H.2.1 52 3).toInt = (H.2.1 52 2).toInt - (H.2.1 52 3).toInt := zq_sub (by omega) (by omega)
        have b2 := zB_putf (p := 52) (k := 2) (x := H.2.1 52 2 + Int32.ofInt 1) hZ.1 rfl (fun r hr => by cases hr; exact ⟨by show (0 : Int) ≤ _; omega, by show _ ≤ (700 : Int); omega⟩) (zJc_I rfl hZ.1.2.2.2.2.2.2.2)
        have g2 : ((zw_I H 52 2 (H.2.1 52 2 + Int32.ofInt 1)).2.1 52 2).toInt = ((q + 1 : Nat) : Int) := by
          rw [zw_eq, e1]
          omega
        have g3 : ((zw_I H 52 2 (H.2.1 52 2 + Int32.ofInt 1)).2.1 52 3).toInt = s := (congrArg Int32.toInt (zw_ne rfl rfl)).trans h3
        refine zw_ld (n := 1) (k := 0) (f := zp_isR) (pc' := 29) rfl rfl l0 rfl rfl ?_
        refine zw_gI (q := 52) (pc' := 32) W rfl rfl rfl rfl rfl rfl ?_
        refine zw_ld (n := 1) (k := 0) (f := zp_isR) (pc' := 33) rfl rfl l0 rfl rfl ?_
        refine zw_gI (q := 52) (pc' := 36) W rfl rfl rfl rfl rfl rfl ?_
        refine zw_isub (pc' := 37) rfl rfl ?_
        refine zw_s (pc' := 38) rfl rfl ?_
        refine zw_bge2 (g := 59) (pc' := 41) rfl rfl rfl rfl (rfl : _ = (4 : Int)) (fun h4 => ?_) (fun h4 => ?_)
        · rw [hd] at h4
          refine zw_ld (n := 1) (k := 0) (f := zp_isR) (pc' := 60) rfl rfl l0 rfl rfl ?_
          refine zw_s (pc' := 61) rfl rfl ?_
          refine zw_gI (q := 52) (pc' := 64) W rfl rfl rfl rfl rfl rfl ?_
          refine zw_s (pc' := 65) rfl rfl ?_
          refine zw_iadd (pc' := 66) rfl rfl ?_
          refine zw_pI (q := 52) (pc' := 69) W rfl rfl rfl rfl rfl rfl ?_
          refine zw_s (pc' := 2) rfl rfl ?_
          exact ih _ _ _ (q + 1) ⟨b2, yc_T_I hZ.2 rfl⟩ (zk_Fr_I hF rfl rfl) l0 l1 g3 g2 (by omega) (by rw [hx, show min (q - s) 4 = 4 by omega, show min (q + 1 - s) 4 = 4 by omega]) (by rw [show min (q - s) 4 = 4 by omega] at hb; rw [show min (q + 1 - s) 4 = 4 by omega]; exact hb) he (by omega)
        · rw [hd] at h4
          rw [show min (q - s) 4 = q - s by omega] at hx hb
          obtain ⟨hb1, hb2⟩ := ys_10b hb (by omega) hdg
          have m1 : (x * Int32.ofInt 10).toInt = x.toInt * 10 := zq_mul (y := Int32.ofInt 10) (z := 10) (by decide) (by omega) (by omega)
          have m2 : (x * Int32.ofInt 10 + H.2.1 1 (H.2.1 52 2).toInt.toNat).toInt = x.toInt * 10 + (H.2.1 1 (H.2.1 52 2).toInt.toNat).toInt := (zq_add (by omega) (by omega)).trans (by rw [m1])
          have m3 : (x * Int32.ofInt 10 + H.2.1 1 (H.2.1 52 2).toInt.toNat - Int32.ofInt 48).toInt = x.toInt * 10 + (H.2.1 1 (H.2.1 52 2).toInt.toNat).toInt - 48 := (zq_sub (by rw [m2]; show _ ≤ _ - (48 : Int); omega) (by rw [m2]; show _ - (48 : Int) ≤ _; omega)).trans (by rw [m2]; rfl)
          refine zw_ld (n := 1) (k := 1) (f := zp_isI) (pc' := 42) rfl rfl l1 rfl rfl ?_
          refine zw_s (pc' := 44) rfl rfl ?_
          refine zw_imul (pc' := 45) rfl rfl ?_
          refine zw_ld (n := 1) (k := 0) (f := zp_isR) (pc' := 46) rfl rfl l0 rfl rfl ?_
          refine zw_gR (q := 52) (pc' := 49) W rfl rfl rfl rfl (W.2 52 0 _ rfl) rfl ?_
          refine zw_ld (n := 1) (k := 0) (f := zp_isR) (pc' := 50) rfl rfl l0 rfl rfl ?_
          refine zw_gI (q := 52) (pc' := 53) W rfl rfl rfl rfl rfl rfl ?_
          refine zw_ba (q := 1) (pc' := 54) W rfl rfl (by decide) (⟨by omega, by show _ < ((700 : Nat) : Int); omega⟩) rfl rfl ?_
          refine zw_iadd (pc' := 55) rfl rfl ?_
          refine zw_s (pc' := 57) rfl rfl ?_
          refine zw_isub (pc' := 58) rfl rfl ?_
          refine zw_st (n := 1) (k := 1) (f := zp_isI) (pc' := 59) rfl rfl rfl rfl rfl ?_
          refine zw_ld (n := 1) (k := 0) (f := zp_isR) (pc' := 60) rfl rfl (zw_gt l0 rfl rfl) rfl rfl ?_
          refine zw_s (pc' := 61) rfl rfl ?_
          refine zw_gI (q := 52) (pc' := 64) W rfl rfl rfl rfl rfl rfl ?_
          refine zw_s (pc' := 65) rfl rfl ?_
          refine zw_iadd (pc' := 66) rfl rfl ?_
          refine zw_pI (q := 52) (pc' := 69) W rfl rfl rfl rfl rfl rfl ?_
          refine zw_s (pc' := 2) rfl rfl ?_
          refine ih _ _ _ (q + 1) ⟨b2, yc_T_I hZ.2 rfl⟩ (zk_Fr_I hF rfl rfl) (zw_gt l0 rfl rfl) zw_g1 g3 g2 (by omega) ?_ ?_ he (by omega)
          · rw [m3, show min (q + 1 - s) 4 = (q - s) + 1 by omega]
            show _ = ys_nm T s (q - s) * 10 + T (s + (q - s)) - 48
            rw [← hx, show s + (q - s) = q by omega, tq]
          · rw [m3, show min (q + 1 - s) 4 = (q - s) + 1 by omega]
            exact hb2
      · refine zw_c (pc' := 25) (zw_cs (Y := zm_58) rfl rfl zm_58_t) rfl rfl rfl rfl rfl (yc_g0 hdg) ?_
        refine zw_beq1 (g := 72) (pc' := 28) rfl rfl rfl (rfl : _ = (0 : Int)) (fun h9 => ?_) (fun h9 => absurd h9 (by decide))
        have hP : ys_D (T q) = false := decide_eq_false (by rw [← tq]; exact hdg)
        have he : q = e := by
          rw [← he, ys_run_f hP]
        have b2 := zB_putf (p := 52) (k := 4) (x := Int32.ofInt 2) hZ.1 rfl (fun r hr => by cases hr) (zJc_I rfl hZ.1.2.2.2.2.2.2.2)
        have hd : (H.2.1 52 2 - H.2.1 52 3).toInt = (H.2.1 52 2).toInt - (H.2.1 52 3).toInt := zq_sub (by omega) (by omega)
        refine zw_ld (n := 1) (k := 0) (f := zp_isR) (pc' := 73) rfl rfl l0 rfl rfl ?_
        refine zw_s (pc' := 74) rfl rfl ?_
        refine zw_pI (q := 52) (pc' := 77) W rfl rfl rfl rfl rfl rfl ?_
        refine zw_ld (n := 1) (k := 0) (f := zp_isR) (pc' := 78) rfl rfl l0 rfl rfl ?_
        refine zw_ld (n := 1) (k := 0) (f := zp_isR) (pc' := 79) rfl rfl l0 rfl rfl ?_
        refine zw_gI (q := 52) (pc' := 82) W rfl rfl rfl rfl (zw_ne rfl rfl) rfl ?_
        refine zw_ld (n := 1) (k := 0) (f := zp_isR) (pc' := 83) rfl rfl l0 rfl rfl ?_
        refine zw_gI (q := 52) (pc' := 86) W rfl rfl rfl rfl (zw_ne rfl rfl) rfl ?_
        refine zw_isub (pc' := 87) rfl rfl ?_
        refine zw_s (pc' := 88) rfl rfl ?_
        refine zw_ble2 (g := 96) (pc' := 91) rfl rfl rfl rfl (rfl : _ = (4 : Int)) (fun h4 => ?_) (fun h4 => ?_)
        · rw [hd] at h4
          have b3 := zB_putf (p := 52) (k := 5) (x := x) b2 rfl (fun r hr => by cases hr; exact ⟨Int32.le_toInt _, Int32.toInt_le _⟩) (zJc_I rfl b2.2.2.2.2.2.2.2)
          refine zw_ld (n := 1) (k := 1) (f := zp_isI) (pc' := 97) rfl rfl l1 rfl rfl ?_
          refine zw_pI (q := 52) (pc' := 100) W rfl rfl rfl rfl rfl rfl ?_
          refine zw_rn rfl rfl ?_
          refine ⟨_, rfl, ⟨b3, yc_T_I (yc_T_I hZ.2 rfl) rfl⟩, zk_Fr_I (zk_Fr_I hF rfl rfl) rfl rfl, ?_, ?_, ?_, ?_⟩
          · exact (congrArg Int32.toInt (zw_ne (zw_ne rfl rfl) rfl)).trans h3
          · exact (congrArg Int32.toInt (zw_ne (zw_ne rfl rfl) rfl)).trans (by rw [h2]; omega)
          · rw [show (zw_I (zw_I H 52 4 (Int32.ofInt 2)) 52 5 (x)).2.1 52 4 = Int32.ofInt 2 from zw_ne zw_eq rfl]
            decide
          · rw [show (zw_I (zw_I H 52 4 (Int32.ofInt 2)) 52 5 (x)).2.1 52 5 = x from zw_eq]
            rw [if_neg (by omega), hx, show min (q - s) 4 = e - s by omega]
        · rw [hd] at h4
          have b3 := zB_putf (p := 52) (k := 5) (x := Int32.ofInt 2147483647) b2 rfl (fun r hr => by cases hr; exact ⟨Int32.le_toInt _, Int32.toInt_le _⟩) (zJc_I rfl b2.2.2.2.2.2.2.2)
          refine zw_s (pc' := 93) rfl rfl ?_
          refine zw_s (pc' := 97) rfl rfl ?_
          refine zw_pI (q := 52) (pc' := 100) W rfl rfl rfl rfl rfl rfl ?_
          refine zw_rn rfl rfl ?_
          refine ⟨_, rfl, ⟨b3, yc_T_I (yc_T_I hZ.2 rfl) rfl⟩, zk_Fr_I (zk_Fr_I hF rfl rfl) rfl rfl, ?_, ?_, ?_, ?_⟩
          · exact (congrArg Int32.toInt (zw_ne (zw_ne rfl rfl) rfl)).trans h3
          · exact (congrArg Int32.toInt (zw_ne (zw_ne rfl rfl) rfl)).trans (by rw [h2]; omega)
          · rw [show (zw_I (zw_I H 52 4 (Int32.ofInt 2)) 52 5 (Int32.ofInt 2147483647)).2.1 52 4 = Int32.ofInt 2 from zw_ne zw_eq rfl]
            decide
          · rw [show (zw_I (zw_I H 52 4 (Int32.ofInt 2)) 52 5 (Int32.ofInt 2147483647)).2.1 52 5 = Int32.ofInt 2147483647 from zw_eq]
            rw [if_pos (by omega)]
            decide

theorem yc_tn {L : Nat} {σ : Nat → Int32} {d : Nat} {T : Nat → Int} {n : Nat} {H : zp_H} {s e : Nat} (hZ : yc_Z T n H) (h3 : (H.2.1 52 3).toInt = s) (h2 : (H.2.1 52 2).toInt = s) (hs : s ≤ n) (he : ys_run ys_D T (n - s) s = e) : ∃ X, zp_Call L σ (d + 2) 59 [.inr (.inr (some 53))] H X ∧ (fun X : zp_X => ∃ H1, X = (.inl none, H1) ∧ yc_Z T n H1 ∧ zk_Fr zg yc_m [] H H1 ∧ (H1.2.1 52 3).toInt = s ∧ (H1.2.1 52 2).toInt = e ∧ (H1.2.1 52 4).toInt = 2 ∧ (H1.2.1 52 5).toInt = (if 4 < e - s then 2147483647 else ys_nm T s (e - s))) X := by
  have hse := (ys_run_b (P := ys_D) (T := T) (n - s) s).1
  refine zw_met zm_59_t rfl rfl ?_
  refine zw_s (pc' := 1) rfl rfl ?_
  refine zw_st (n := 1) (k := 1) (f := zp_isI) (pc' := 2) rfl rfl rfl rfl rfl ?_
  exact yc_tnL (by omega) n H _ _ s hZ (zk_Fr_r H) (zw_gt rfl rfl rfl) zw_g1 h3 h2 ⟨Nat.le_refl _, hs⟩ (by rw [Nat.sub_self]; rfl) (by rw [Nat.sub_self]; decide) he (by omega)

theorem yc_swS {L : Nat} {σ : Nat → Int32} {d : Nat} {P : zp_X → Prop} {H : zp_H} {lv : zp_LV} {x : Int32} {c : Nat × Nat} (k1 : ys_G x.toInt = true → zs_Safe L σ P zm_60 [] d (120, lv, [], H, c)) (k2 : ys_G x.toInt = false → zs_Safe L σ P zm_60 [] d (128, lv, [], H, c)) : zs_Safe L σ P zm_60 [] d (17, lv, [.inl x], H, c) := by
  by_cases h40 : x.toInt = 40
  · obtain rfl : x = Int32.ofInt 40 := Int32.toInt_inj.mp h40
    exact zw_s (pc' := 120) rfl rfl (k1 rfl)
  by_cases h41 : x.toInt = 41
  · obtain rfl : x = Int32.ofInt 41 := Int32.toInt_inj.mp h41
    exact zw_s (pc' := 120) rfl rfl (k1 rfl)
  by_cases h42 : x.toInt = 42
  · obtain rfl : x = Int32.ofInt 42 := Int32.toInt_inj.mp h42
    exact zw_s (pc' := 120) rfl rfl (k1 rfl)
  by_cases h43 : x.toInt = 43
  · obtain rfl : x = Int32.ofInt 43 := Int32.toInt_inj.mp h43
    exact zw_s (pc' := 120) rfl rfl (k1 rfl)
  by_cases h44 : x.toInt = 44
  · obtain rfl : x = Int32.ofInt 44 := Int32.toInt_inj.mp h44
    exact zw_s (pc' := 128) rfl rfl (k2 rfl)
  by_cases h45 : x.toInt = 45
  · obtain rfl : x = Int32.ofInt 45 := Int32.toInt_inj.mp h45
    exact zw_s (pc' := 120) rfl rfl (k1 rfl)
  by_cases h46 : x.toInt = 46
  · obtain rfl : x = Int32.ofInt 46 := Int32.toInt_inj.mp h46
    exact zw_s (pc' := 128) rfl rfl (k2 rfl)
  by_cases h47 : x.toInt = 47
  · obtain rfl : x = Int32.ofInt 47 := Int32.toInt_inj.mp h47
    exact zw_s (pc' := 120) rfl rfl (k1 rfl)
  by_cases h48 : x.toInt = 48
  · obtain rfl : x = Int32.ofInt 48 := Int32.toInt_inj.mp h48
    exact zw_s (pc' := 128) rfl rfl (k2 rfl)
  by_cases h49 : x.toInt = 49
  · obtain rfl : x = Int32.ofInt 49 := Int32.toInt_inj.mp h49
    exact zw_s (pc' := 128) rfl rfl (k2 rfl)
  by_cases h50 : x.toInt = 50
  · obtain rfl : x = Int32.ofInt 50 := Int32.toInt_inj.mp h50
    exact zw_s (pc' := 128) rfl rfl (k2 rfl)
  by_cases h51 : x.toInt = 51
  · obtain rfl : x = Int32.ofInt 51 := Int32.toInt_inj.mp h51
    exact zw_s (pc' := 128) rfl rfl (k2 rfl)
  by_cases h52 : x.toInt = 52
  · obtain rfl : x = Int32.ofInt 52 := Int32.toInt_inj.mp h52
    exact zw_s (pc' := 128) rfl rfl (k2 rfl)
  by_cases h53 : x.toInt = 53
  · obtain rfl : x = Int32.ofInt 53 := Int32.toInt_inj.mp h53
    exact zw_s (pc' := 128) rfl rfl (k2 rfl)
  by_cases h54 : x.toInt = 54
  · obtain rfl : x = Int32.ofInt 54 := Int32.toInt_inj.mp h54
    exact zw_s (pc' := 128) rfl rfl (k2 rfl)
  by_cases h55 : x.toInt = 55
  · obtain rfl : x = Int32.ofInt 55 := Int32.toInt_inj.mp h55
    exact zw_s (pc' := 128) rfl rfl (k2 rfl)
  by_cases h56 : x.toInt = 56
  · obtain rfl : x = Int32.ofInt 56 := Int32.toInt_inj.mp h56
    exact zw_s (pc' := 128) rfl rfl (k2 rfl)
  by_cases h57 : x.toInt = 57
  · obtain rfl : x = Int32.ofInt 57 := Int32.toInt_inj.mp h57
    exact zw_s (pc' := 128) rfl rfl (k2 rfl)
  by_cases h58 : x.toInt = 58
  · obtain rfl : x = Int32.ofInt 58 := Int32.toInt_inj.mp h58
    exact zw_s (pc' := 128) rfl rfl (k2 rfl)
  by_cases h59 : x.toInt = 59
  · obtain rfl : x = Int32.ofInt 59 := Int32.toInt_inj.mp h59
    exact zw_s (pc' := 120) rfl rfl (k1 rfl)
  by_cases h60 : x.toInt = 60
  · obtain rfl : x = Int32.ofInt 60 := Int32.toInt_inj.mp h60
    exact zw_s (pc' := 120) rfl rfl (k1 rfl)
  by_cases h61 : x.toInt = 61
  · obtain rfl : x = Int32.ofInt 61 := Int32.toInt_inj.mp h61
    exact zw_s (pc' := 120) rfl rfl (k1 rfl)
  refine zw_s (pc' := 128) rfl ?_ (k2 (decide_eq_false (by omega)))
  have e : x.toInt < 40 ∨ 61 < x.toInt := by omega
  exact (if_pos e).trans rfl

theorem yc_ts {L : Nat} {σ : Nat → Int32} {d : Nat} {T : Nat → Int} {n : Nat} {H : zp_H} {s : Nat} (hZ : yc_Z T n H) (h3 : (H.2.1 52 3).toInt = s) (h2 : (H.2.1 52 2).toInt = s) (hs : s < n) : ∃ X, zp_Call L σ (d + 1) 60 [.inr (.inr (some 53))] H X ∧ (fun X : zp_X => ∃ H1, X = (.inl none, H1) ∧ yc_Z T n H1 ∧ zk_Fr zg yc_m [] H H1 ∧ (H1.2.1 52 3).toInt = s ∧ (H1.2.1 52 2).toInt = ((s + 1 : Nat) : Int) ∧ (H1.2.1 52 4).toInt = (bif ys_G (T s) then 4 else 1) ∧ (H1.2.1 52 5).toInt = T s) X := by
  have W := zB_Wd hZ.1
  have hn7 := hZ.2.1
  have tq : (H.2.1 1 (H.2.1 52 2).toInt.toNat).toInt = T s := by
    rw [show (H.2.1 52 2).toInt.toNat = s by omega]
    exact hZ.2.2.2 s (by omega)
  have e1 : (H.2.1 52 2 + Int32.ofInt 1).toInt = (H.2.1 52 2).toInt + 1 := zw_p1 (by omega)
  have b1 := zB_putf (p := 52) (k := 5) (x := H.2.1 1 (H.2.1 52 2).toInt.toNat) hZ.1 rfl (fun r hr => by cases hr; exact ⟨Int32.le_toInt _, Int32.toInt_le _⟩) (zJc_I rfl hZ.1.2.2.2.2.2.2.2)
  refine zw_met zm_60_t rfl rfl ?_
  refine zw_ld (n := 1) (k := 0) (f := zp_isR) (pc' := 1) rfl rfl rfl rfl rfl ?_
  refine zw_ld (n := 1) (k := 0) (f := zp_isR) (pc' := 2) rfl rfl rfl rfl rfl ?_
  refine zw_gR (q := 52) (pc' := 5) W rfl rfl rfl rfl (W.2 52 0 _ rfl) rfl ?_
  refine zw_ld (n := 1) (k := 0) (f := zp_isR) (pc' := 6) rfl rfl rfl rfl rfl ?_
  refine zw_gI (q := 52) (pc' := 9) W rfl rfl rfl rfl rfl rfl ?_
  refine zw_ba (q := 1) (pc' := 10) W rfl rfl (by decide) (⟨by omega, by show _ < ((700 : Nat) : Int); omega⟩) rfl rfl ?_
  refine zw_pI (q := 52) (pc' := 13) W rfl rfl rfl rfl rfl rfl ?_
  refine zw_ld (n := 1) (k := 0) (f := zp_isR) (pc' := 14) rfl rfl rfl rfl rfl ?_
  refine zw_gI (q := 52) (pc' := 17) W rfl rfl rfl rfl zw_eq rfl ?_
  refine yc_swS (fun hg => ?_) (fun hg => ?_)
  · rw [tq] at hg
    have b2 := zB_putf (p := 52) (k := 4) (x := Int32.ofInt 4) b1 rfl (fun r hr => by cases hr) (zJc_I rfl b1.2.2.2.2.2.2.2)
    have b3 := zB_putf (p := 52) (k := 2) (x := H.2.1 52 2 + Int32.ofInt 1) b2 rfl (fun r hr => by cases hr; exact ⟨by show (0 : Int) ≤ _; omega, by show _ ≤ (700 : Int); omega⟩) (zJc_I rfl b2.2.2.2.2.2.2.2)
    refine zw_ld (n := 1) (k := 0) (f := zp_isR) (pc' := 121) rfl rfl rfl rfl rfl ?_
    refine zw_s (pc' := 122) rfl rfl ?_
    refine zw_pI (q := 52) (pc' := 125) W rfl rfl rfl rfl rfl rfl ?_
    refine zw_s (pc' := 133) rfl rfl ?_
    refine zw_ld (n := 1) (k := 0) (f := zp_isR) (pc' := 134) rfl rfl rfl rfl rfl ?_
    refine zw_s (pc' := 135) rfl rfl ?_
    refine zw_gI (q := 52) (pc' := 138) W rfl rfl rfl rfl (zw_ne (zw_ne rfl rfl) rfl) rfl ?_
    refine zw_s (pc' := 139) rfl rfl ?_
    refine zw_iadd (pc' := 140) rfl rfl ?_
    refine zw_pI (q := 52) (pc' := 143) W rfl rfl rfl rfl rfl rfl ?_
    refine zw_rn rfl rfl ?_
    refine ⟨_, rfl, ⟨b3, yc_T_I (yc_T_I (yc_T_I hZ.2 rfl) rfl) rfl⟩, zk_Fr_I (zk_Fr_I (zk_Fr_I (zk_Fr_r H) rfl rfl) rfl rfl) rfl rfl, ?_, ?_, ?_, ?_⟩
    · exact (congrArg Int32.toInt (zw_ne (zw_ne (zw_ne rfl rfl) rfl) rfl)).trans h3
    · exact (congrArg Int32.toInt zw_eq).trans (by rw [e1]; omega)
    · rw [hg]
      exact (congrArg Int32.toInt (zw_ne zw_eq rfl)).trans (by decide)
    · exact (congrArg Int32.toInt (zw_ne (zw_ne zw_eq rfl) rfl)).trans tq
  · rw [tq] at hg
    have b2 := zB_putf (p := 52) (k := 4) (x := Int32.ofInt 1) b1 rfl (fun r hr => by cases hr) (zJc_I rfl b1.2.2.2.2.2.2.2)
    have b3 := zB_putf (p := 52) (k := 2) (x := H.2.1 52 2 + Int32.ofInt 1) b2 rfl (fun r hr => by cases hr; exact ⟨by show (0 : Int) ≤ _; omega, by show _ ≤ (700 : Int); omega⟩) (zJc_I rfl b2.2.2.2.2.2.2.2)
    refine zw_ld (n := 1) (k := 0) (f := zp_isR) (pc' := 129) rfl rfl rfl rfl rfl ?_
    refine zw_s (pc' := 130) rfl rfl ?_
    refine zw_pI (q := 52) (pc' := 133) W rfl rfl rfl rfl rfl rfl ?_
    refine zw_ld (n := 1) (k := 0) (f := zp_isR) (pc' := 134) rfl rfl rfl rfl rfl ?_
    refine zw_s (pc' := 135) rfl rfl ?_
    refine zw_gI (q := 52) (pc' := 138) W rfl rfl rfl rfl (zw_ne (zw_ne rfl rfl) rfl) rfl ?_
    refine zw_s (pc' := 139) rfl rfl ?_
    refine zw_iadd (pc' := 140) rfl rfl ?_
    refine zw_pI (q := 52) (pc' := 143) W rfl rfl rfl rfl rfl rfl ?_
    refine zw_rn rfl rfl ?_
    refine ⟨_, rfl, ⟨b3, yc_T_I (yc_T_I (yc_T_I hZ.2 rfl) rfl) rfl⟩, zk_Fr_I (zk_Fr_I (zk_Fr_I (zk_Fr_r H) rfl rfl) rfl rfl) rfl rfl, ?_, ?_, ?_, ?_⟩
    · exact (congrArg Int32.toInt (zw_ne (zw_ne (zw_ne rfl rfl) rfl) rfl)).trans h3
    · exact (congrArg Int32.toInt zw_eq).trans (by rw [e1]; omega)
    · rw [hg]
      exact (congrArg Int32.toInt (zw_ne zw_eq rfl)).trans (by decide)
    · exact (congrArg Int32.toInt (zw_ne (zw_ne zw_eq rfl) rfl)).trans tq

theorem yc_twA {L : Nat} {σ : Nat → Int32} {d : Nat} {T : Nat → Int} {n : Nat} {P : zp_X → Prop} {H0 : zp_H} {s e : Nat} (k : ∀ (H : zp_H) (lv : zp_LV), yc_Z T n H → zk_Fr zg yc_m [] H0 H → zp_get lv 0 = some (.inr (.inr (some 53))) → (H.2.1 52 3).toInt = s → (H.2.1 52 2).toInt = e → zs_Safe L σ P zm_57 [] (d + 1) (39, lv, [], H, (0, 0))) : ∀ (m : Nat) (H : zp_H) (lv : zp_LV) (q : Nat), yc_Z T n H → zk_Fr zg yc_m [] H0 H → zp_get lv 0 = some (.inr (.inr (some 53))) → (H.2.1 52 3).toInt = s → (H.2.1 52 2).toInt = q → s ≤ q ∧ q ≤ n → ys_run ys_L T (n - q) q = e → n - q ≤ m → zs_Safe L σ P zm_57 [] (d + 1) (0, lv, [], H, (0, 0)) := by
  intro m
  induction m with
  | zero =>
    intro H lv q hZ hF l0 h3 h2 hq he hm
    have W := zB_Wd hZ.1
    have hn7 := hZ.2.1
    have r1 := hZ.2.2.1
    refine zw_ld (n := 1) (k := 0) (f := zp_isR) (pc' := 1) rfl rfl l0 rfl rfl ?_
    refine zw_gI (q := 52) (pc' := 4) W rfl rfl rfl rfl rfl rfl ?_
    refine zw_ld (n := 1) (k := 0) (f := zp_isR) (pc' := 5) rfl rfl l0 rfl rfl ?_
    refine zw_gI (q := 52) (pc' := 8) W rfl rfl rfl rfl rfl rfl ?_
    refine zw_bge2 (g := 39) (pc' := 11) rfl rfl rfl rfl rfl (fun hb1 => ?_) (fun hb1 => ?_)
    · have hqe : q = e := by
        rw [← he, ys_run_n (by omega)]
      exact k H lv hZ hF l0 h3 (by rw [h2, hqe])
    · omega
  | succ m ih =>
    intro H lv q hZ hF l0 h3 h2 hq he hm
    have W := zB_Wd hZ.1
    have hn7 := hZ.2.1
    have r1 := hZ.2.2.1
    refine zw_ld (n := 1) (k := 0) (f := zp_isR) (pc' := 1) rfl rfl l0 rfl rfl ?_
    refine zw_gI (q := 52) (pc' := 4) W rfl rfl rfl rfl rfl rfl ?_
    refine zw_ld (n := 1) (k := 0) (f := zp_isR) (pc' := 5) rfl rfl l0 rfl rfl ?_
    refine zw_gI (q := 52) (pc' := 8) W rfl rfl rfl rfl rfl rfl ?_
    refine zw_bge2 (g := 39) (pc' := 11) rfl rfl rfl rfl rfl (fun hb1 => ?_) (fun hb1 => ?_)
    · have hqe : q = e := by
        rw [← he, ys_run_n (by omega)]
      exact k H lv hZ hF l0 h3 (by rw [h2, hqe])
    · have tq : (H.2.1 1 (H.2.1 52 2).toInt.toNat).toInt = T q := by
        rw [show (H.2.1 52 2).toInt.toNat = q by omega]
        exact hZ.2.2.2 q (by omega)
      refine zw_ld (n := 1) (k := 0) (f := zp_isR) (pc' := 12) rfl rfl l0 rfl rfl ?_
      refine zw_gR (q := 52) (pc' := 15) W rfl rfl rfl rfl (W.2 52 0 _ rfl) rfl ?_
      refine zw_ld (n := 1) (k := 0) (f := zp_isR) (pc' := 16) rfl rfl l0 rfl rfl ?_
      refine zw_gI (q := 52) (pc' := 19) W rfl rfl rfl rfl rfl rfl ?_
      refine zw_ba (q := 1) (pc' := 20) W rfl rfl (by decide) (⟨by omega, by show _ < ((700 : Nat) : Int); omega⟩) rfl rfl ?_
      by_cases hdg : 97 ≤ (H.2.1 1 (H.2.1 52 2).toInt.toNat).toInt ∧ (H.2.1 1 (H.2.1 52 2).toInt.toNat).toInt ≤ 122
      · refine zw_c (pc' := 23) (zw_cs (Y := zm_56) rfl rfl zm_56_t) rfl rfl rfl rfl rfl (yc_l1 hdg) ?_
        refine zw_beq1 (g := 39) (pc' := 26) rfl rfl rfl (rfl : _ = (1 : Int)) (fun h9 => absurd h9 (by decide)) (fun h9 => ?_)
        have hP : ys_L (T q) = true := decide_eq_true (by rw [← tq]; exact hdg)
        rw [ys_run_t (by omega) hP] at he
        have e1 : (H.2.1 52 2 + Int32.ofInt 1).toInt = (H.2.1 52 2).toInt + 1 := zw_p1 (by omega)
        have b2 := zB_putf (p := 52) (k := 2) (x := H.2.1 52 2 + Int32.ofInt 1) hZ.1 rfl (fun r hr => by cases hr; exact ⟨by show (0 : Int) ≤ _; omega, by show _ ≤ (700 : Int); omega⟩) (zJc_I rfl hZ.1.2.2.2.2.2.2.2)
        have g2 : ((zw_I H 52 2 (H.2.1 52 2 + Int32.ofInt 1)).2.1 52 2).toInt = ((q + 1 : Nat) : Int) := by
          rw [zw_eq, e1]
          omega
        have g3 : ((zw_I H 52 2 (H.2.1 52 2 + Int32.ofInt 1)).2.1 52 3).toInt = s := (congrArg Int32.toInt (zw_ne rfl rfl)).trans h3
        refine zw_ld (n := 1) (k := 0) (f := zp_isR) (pc' := 27) rfl rfl l0 rfl rfl ?_
        refine zw_s (pc' := 28) rfl rfl ?_
        refine zw_gI (q := 52) (pc' := 31) W rfl rfl rfl rfl rfl rfl ?_
        refine zw_s (pc' := 32) rfl rfl ?_
        refine zw_iadd (pc' := 33) rfl rfl ?_
        refine zw_pI (q := 52) (pc' := 36) W rfl rfl rfl rfl rfl rfl ?_
        refine zw_s (pc' := 0) rfl rfl ?_
        exact ih _ _ (q + 1) ⟨b2, yc_T_I hZ.2 rfl⟩ (zk_Fr_I hF rfl rfl) l0 g3 g2 (by omega) he (by omega)
      · refine zw_c (pc' := 23) (zw_cs (Y := zm_56) rfl rfl zm_56_t) rfl rfl rfl rfl rfl (yc_l0 hdg) ?_
        refine zw_beq1 (g := 39) (pc' := 26) rfl rfl rfl (rfl : _ = (0 : Int)) (fun h9 => ?_) (fun h9 => absurd h9 (by decide))
        have hP : ys_L (T q) = false := decide_eq_false (by rw [← tq]; exact hdg)
        have hqe : q = e := by
          rw [← he, ys_run_f hP]
        exact k H _ hZ hF l0 h3 (by rw [h2, hqe])

theorem yc_twB {L : Nat} {σ : Nat → Int32} {d : Nat} {T : Nat → Int} {n : Nat} {H0 : zp_H} {s e : Nat} {V : Int} (hse : s ≤ e ∧ e ≤ n) : ∀ (m : Nat) (H : zp_H) (lv : zp_LV) (a i : Int32), yc_Z T n H → zk_Fr zg yc_m [] H0 H → zp_get lv 0 = some (.inr (.inr (some 53))) → zp_get lv 1 = some (.inl a) → zp_get lv 2 = some (.inl i) → (H.2.1 52 3).toInt = s → (H.2.1 52 2).toInt = e → (H.2.1 52 4).toInt = 3 → (H.2.1 52 5).toInt = zq_sp i.toInt.toNat → a.toInt = ys_al T s e i.toInt.toNat → 0 ≤ i.toInt ∧ i.toInt ≤ 101 → 101 - i.toInt.toNat = m → ys_wl T s e m i.toInt.toNat = V → -1 ≤ a.toInt ∧ a.toInt ≤ i.toInt → zs_Safe L σ (fun X : zp_X => ∃ H1, X = (.inl none, H1) ∧ yc_Z T n H1 ∧ zk_Fr zg yc_m [] H0 H1 ∧ (H1.2.1 52 3).toInt = s ∧ (H1.2.1 52 2).toInt = e ∧ (H1.2.1 52 4).toInt = 3 ∧ (H1.2.1 52 5).toInt = V) zm_57 [] (d + 1) (53, lv, [], H, (0, 0)) := by
  intro m
  induction m with
  | zero =>
    intro H lv a i hZ hF l0 l1 l2 h3 h2 h4 h5 ha hi hm hV hab
    have W := zB_Wd hZ.1
    have hn7 := hZ.2.1
    have s0 := zq_sp_b (n := i.toInt.toNat) (by omega)
    refine zw_ld (n := 1) (k := 2) (f := zp_isI) (pc' := 54) rfl rfl l2 rfl rfl ?_
    refine zw_s (pc' := 59) rfl rfl ?_
    refine zw_bge2 (g := 163) (pc' := 62) rfl rfl rfl rfl (rfl : _ = (101 : Int)) (fun hb => ?_) (fun hb => ?_)
    · refine zw_rn rfl rfl ?_
      exact ⟨H, rfl, hZ, hF, h3, h2, h4, by rw [h5, ← hV]; rfl⟩
    · omega
  | succ m ih =>
    intro H lv a i hZ hF l0 l1 l2 h3 h2 h4 h5 ha hi hm hV hab
    have W := zB_Wd hZ.1
    have hn7 := hZ.2.1
    have s0 := zq_sp_b (n := i.toInt.toNat) (by omega)
    refine zw_ld (n := 1) (k := 2) (f := zp_isI) (pc' := 54) rfl rfl l2 rfl rfl ?_
    refine zw_s (pc' := 59) rfl rfl ?_
    refine zw_bge2 (g := 163) (pc' := 62) rfl rfl rfl rfl (rfl : _ = (101 : Int)) (fun hb => ?_) (fun hb => ?_)
    · omega
    · have e1 : (i + Int32.ofInt 1).toInt = i.toInt + 1 := zw_p1 (by omega)
      have e2 : (i + Int32.ofInt 1).toInt.toNat = i.toInt.toNat + 1 := by omega
      have hsp : zq_sp (i.toInt.toNat + 1) = zq_sp i.toInt.toNat + (if (Int32.ofNat (zp_spell.getD i.toInt.toNat 0)).toInt = 32 then 1 else 0) := rfl
      have hal : ys_al T s e (i.toInt.toNat + 1) = (if (Int32.ofNat (zp_spell.getD i.toInt.toNat 0)).toInt = 32 then 0 else if ys_al T s e i.toInt.toNat ≠ -1 ∧ (s : Int) + ys_al T s e i.toInt.toNat < e ∧ T ((s : Int) + ys_al T s e i.toInt.toNat).toNat = (Int32.ofNat (zp_spell.getD i.toInt.toNat 0)).toInt then ys_al T s e i.toInt.toNat + 1 else -1) := rfl
      have hwl : ys_wl T s e (m + 1) i.toInt.toNat = (if (Int32.ofNat (zp_spell.getD i.toInt.toNat 0)).toInt = 32 ∧ ys_al T s e i.toInt.toNat = (e : Int) - s then zq_sp i.toInt.toNat else ys_wl T s e m (i.toInt.toNat + 1)) := rfl
      refine zw_ch (k := 2) (pc' := 68) rfl rfl rfl rfl rfl rfl l2 (⟨by omega, by omega⟩) rfl ?_
      refine zw_st (n := 1) (k := 3) (f := zp_isI) (pc' := 69) rfl rfl rfl rfl rfl ?_
      refine zw_ld (n := 1) (k := 3) (f := zp_isI) (pc' := 70) rfl rfl zw_g1 rfl rfl ?_
      refine zw_s (pc' := 72) rfl rfl ?_
      refine zw_beq2 (g := 131) (pc' := 75) rfl rfl rfl rfl (rfl : _ = (32 : Int)) (fun hc => ?_) (fun hc => ?_)
      · rw [if_pos hc] at hsp hal
        have s1 := zq_sp_b (n := i.toInt.toNat + 1) (by omega)
        have hd : (H.2.1 52 2 - H.2.1 52 3).toInt = (H.2.1 52 2).toInt - (H.2.1 52 3).toInt := zq_sub (by omega) (by omega)
        refine zw_ld (n := 1) (k := 1) (f := zp_isI) (pc' := 132) rfl rfl (zw_gt l1 rfl rfl) rfl rfl ?_
        refine zw_ld (n := 1) (k := 0) (f := zp_isR) (pc' := 133) rfl rfl (zw_gt l0 rfl rfl) rfl rfl ?_
        refine zw_gI (q := 52) (pc' := 136) W rfl rfl rfl rfl rfl rfl ?_
        refine zw_ld (n := 1) (k := 0) (f := zp_isR) (pc' := 137) rfl rfl (zw_gt l0 rfl rfl) rfl rfl ?_
        refine zw_gI (q := 52) (pc' := 140) W rfl rfl rfl rfl rfl rfl ?_
        refine zw_isub (pc' := 141) rfl rfl ?_
        refine zw_bne2 (g := 145) (pc' := 144) rfl rfl rfl rfl rfl (fun ha1 => ?_) (fun ha1 => ?_)
        · rw [hd, h3, h2, ha] at ha1
          rw [if_neg (fun h9 => ha1 h9.2)] at hwl
          have e5 : (H.2.1 52 5 + Int32.ofInt 1).toInt = (H.2.1 52 5).toInt + 1 := zw_p1 (by omega)
          refine zw_s (pc' := 146) rfl rfl ?_
          refine zw_st (n := 1) (k := 1) (f := zp_isI) (pc' := 147) rfl rfl rfl rfl rfl ?_
          refine zw_ld (n := 1) (k := 0) (f := zp_isR) (pc' := 148) rfl rfl (zw_gt (zw_gt l0 rfl rfl) rfl rfl) rfl rfl ?_
          refine zw_s (pc' := 149) rfl rfl ?_
          refine zw_gI (q := 52) (pc' := 152) W rfl rfl rfl rfl rfl rfl ?_
          refine zw_s (pc' := 153) rfl rfl ?_
          refine zw_iadd (pc' := 154) rfl rfl ?_
          refine zw_pI (q := 52) (pc' := 157) W rfl rfl rfl rfl rfl rfl ?_
          refine zw_ii (pc' := 160) rfl (zw_gt (zw_gt l2 rfl rfl) rfl rfl) rfl rfl ?_
          refine zw_s (pc' := 53) rfl rfl ?_
          have g4 : (zw_I H 52 5 (H.2.1 52 5 + Int32.ofInt 1)).2.1 52 4 = H.2.1 52 4 := zw_ne rfl rfl
          have g3 : (zw_I H 52 5 (H.2.1 52 5 + Int32.ofInt 1)).2.1 52 3 = H.2.1 52 3 := zw_ne rfl rfl
          have g2 : (zw_I H 52 5 (H.2.1 52 5 + Int32.ofInt 1)).2.1 52 2 = H.2.1 52 2 := zw_ne rfl rfl
          have g5 : (zw_I H 52 5 (H.2.1 52 5 + Int32.ofInt 1)).2.1 52 5 = H.2.1 52 5 + Int32.ofInt 1 := zw_eq
          have e3 : (Int32.ofInt 0).toInt = 0 := by decide
          have b2 := zB_putf (p := 52) (k := 5) (x := H.2.1 52 5 + Int32.ofInt 1) hZ.1 rfl (fun r hr => by cases hr; exact ⟨Int32.le_toInt _, Int32.toInt_le _⟩) (zJc_I rfl hZ.1.2.2.2.2.2.2.2)
          exact ih _ _ _ _ ⟨b2, yc_T_I hZ.2 rfl⟩ (zk_Fr_I hF rfl rfl) (zw_gt (zw_gt (zw_gt l0 rfl rfl) rfl rfl) rfl rfl) (zw_gt zw_g1 rfl rfl) zw_g1 (by rw [g3]; exact h3) (by rw [g2]; exact h2) (by rw [g4]; exact h4) (by rw [g5, e5, e2, hsp, h5]) (by rw [e2, hal, e3]) (by omega) (by omega) (by rw [e2, ← hwl]; exact hV) (by omega)
        · rw [hd, h3, h2, ha] at ha1
          rw [if_pos ⟨hc, ha1⟩] at hwl
          refine zw_rn rfl rfl ?_
          exact ⟨H, rfl, hZ, hF, h3, h2, h4, by rw [h5, ← hV, hwl]⟩
      · rw [if_neg hc] at hsp hal
        rw [if_neg (fun h9 => hc h9.1)] at hwl
        refine zw_ld (n := 1) (k := 1) (f := zp_isI) (pc' := 76) rfl rfl (zw_gt l1 rfl rfl) rfl rfl ?_
        refine zw_s (pc' := 77) rfl rfl ?_
        refine zw_beq2 (g := 112) (pc' := 80) rfl rfl rfl rfl (rfl : _ = (-1 : Int)) (fun ha1 => ?_) (fun ha1 => ?_)
        · refine zw_s (pc' := 113) rfl rfl ?_
          refine zw_st (n := 2) (k := 4) (f := zp_isI) (pc' := 115) rfl rfl rfl rfl rfl ?_
          refine zw_ld (n := 2) (k := 4) (f := zp_isI) (pc' := 117) rfl rfl zw_g1 rfl rfl ?_
          refine zw_beq1 (g := 126) (pc' := 120) rfl rfl rfl (rfl : _ = (0 : Int)) (fun h9 => ?_) (fun h9 => absurd h9 (by decide))
          have e3 : (Int32.ofInt (-1)).toInt = -1 := by decide
          rw [if_neg (by rintro ⟨h8, -⟩; exact h8 (by rw [← ha]; exact ha1))] at hal
          refine zw_s (pc' := 127) rfl rfl ?_
          refine zw_st (n := 1) (k := 1) (f := zp_isI) (pc' := 128) rfl rfl rfl rfl rfl ?_
          refine zw_s (pc' := 157) rfl rfl ?_
          refine zw_ii (pc' := 160) rfl (zw_gt (zw_gt (zw_gt l2 rfl rfl) rfl rfl) rfl rfl) rfl rfl ?_
          refine zw_s (pc' := 53) rfl rfl ?_
          exact ih H _ _ _ hZ hF (zw_gt (zw_gt (zw_gt (zw_gt l0 rfl rfl) rfl rfl) rfl rfl) rfl rfl) (zw_gt zw_g1 rfl rfl) zw_g1 h3 h2 h4 (by rw [e2, hsp, h5]; omega) (by rw [e2, hal, e3]) (by omega) (by omega) (by rw [e2, ← hwl]; exact hV) (by omega)
        · have e4 : (H.2.1 52 3 + a).toInt = (H.2.1 52 3).toInt + a.toInt := zq_add (by omega) (by omega)
          refine zw_ld (n := 1) (k := 0) (f := zp_isR) (pc' := 81) rfl rfl (zw_gt l0 rfl rfl) rfl rfl ?_
          refine zw_gI (q := 52) (pc' := 84) W rfl rfl rfl rfl rfl rfl ?_
          refine zw_ld (n := 1) (k := 1) (f := zp_isI) (pc' := 85) rfl rfl (zw_gt l1 rfl rfl) rfl rfl ?_
          refine zw_iadd (pc' := 86) rfl rfl ?_
          refine zw_ld (n := 1) (k := 0) (f := zp_isR) (pc' := 87) rfl rfl (zw_gt l0 rfl rfl) rfl rfl ?_
          refine zw_gI (q := 52) (pc' := 90) W rfl rfl rfl rfl rfl rfl ?_
          refine zw_bge2 (g := 112) (pc' := 93) rfl rfl rfl rfl rfl (fun ha2 => ?_) (fun ha2 => ?_)
          · rw [e4] at ha2
            refine zw_s (pc' := 113) rfl rfl ?_
            refine zw_st (n := 2) (k := 4) (f := zp_isI) (pc' := 115) rfl rfl rfl rfl rfl ?_
            refine zw_ld (n := 2) (k := 4) (f := zp_isI) (pc' := 117) rfl rfl zw_g1 rfl rfl ?_
            refine zw_beq1 (g := 126) (pc' := 120) rfl rfl rfl (rfl : _ = (0 : Int)) (fun h9 => ?_) (fun h9 => absurd h9 (by decide))
            have e3 : (Int32.ofInt (-1)).toInt = -1 := by decide
            rw [if_neg (by rintro ⟨-, h8, -⟩; rw [← ha] at h8; omega)] at hal
            refine zw_s (pc' := 127) rfl rfl ?_
            refine zw_st (n := 1) (k := 1) (f := zp_isI) (pc' := 128) rfl rfl rfl rfl rfl ?_
            refine zw_s (pc' := 157) rfl rfl ?_
            refine zw_ii (pc' := 160) rfl (zw_gt (zw_gt (zw_gt l2 rfl rfl) rfl rfl) rfl rfl) rfl rfl ?_
            refine zw_s (pc' := 53) rfl rfl ?_
            exact ih H _ _ _ hZ hF (zw_gt (zw_gt (zw_gt (zw_gt l0 rfl rfl) rfl rfl) rfl rfl) rfl rfl) (zw_gt zw_g1 rfl rfl) zw_g1 h3 h2 h4 (by rw [e2, hsp, h5]; omega) (by rw [e2, hal, e3]) (by omega) (by omega) (by rw [e2, ← hwl]; exact hV) (by omega)
          · rw [e4, h3, h2] at ha2
            have tx : (H.2.1 1 (H.2.1 52 3 + a).toInt.toNat).toInt = T ((s : Int) + a.toInt).toNat := by
              rw [e4, h3]
              exact hZ.2.2.2 _ (by omega)
            refine zw_ld (n := 1) (k := 0) (f := zp_isR) (pc' := 94) rfl rfl (zw_gt l0 rfl rfl) rfl rfl ?_
            refine zw_gR (q := 52) (pc' := 97) W rfl rfl rfl rfl (W.2 52 0 _ rfl) rfl ?_
            refine zw_ld (n := 1) (k := 0) (f := zp_isR) (pc' := 98) rfl rfl (zw_gt l0 rfl rfl) rfl rfl ?_
            refine zw_gI (q := 52) (pc' := 101) W rfl rfl rfl rfl rfl rfl ?_
            refine zw_ld (n := 1) (k := 1) (f := zp_isI) (pc' := 102) rfl rfl (zw_gt l1 rfl rfl) rfl rfl ?_
            refine zw_iadd (pc' := 103) rfl rfl ?_
            refine zw_ba (q := 1) (pc' := 104) W rfl rfl (by decide) (⟨by rw [e4]; omega, by rw [e4]; show _ < ((700 : Nat) : Int); omega⟩) rfl rfl ?_
            refine zw_ld (n := 1) (k := 3) (f := zp_isI) (pc' := 105) rfl rfl zw_g1 rfl rfl ?_
            refine zw_bne2 (g := 112) (pc' := 108) rfl rfl rfl rfl rfl (fun ha3 => ?_) (fun ha3 => ?_)
            · refine zw_s (pc' := 113) rfl rfl ?_
              refine zw_st (n := 2) (k := 4) (f := zp_isI) (pc' := 115) rfl rfl rfl rfl rfl ?_
              refine zw_ld (n := 2) (k := 4) (f := zp_isI) (pc' := 117) rfl rfl zw_g1 rfl rfl ?_
              refine zw_beq1 (g := 126) (pc' := 120) rfl rfl rfl (rfl : _ = (0 : Int)) (fun h9 => ?_) (fun h9 => absurd h9 (by decide))
              have e3 : (Int32.ofInt (-1)).toInt = -1 := by decide
              rw [if_neg (by rintro ⟨-, -, h8⟩; rw [← ha, ← tx] at h8; exact ha3 h8)] at hal
              refine zw_s (pc' := 127) rfl rfl ?_
              refine zw_st (n := 1) (k := 1) (f := zp_isI) (pc' := 128) rfl rfl rfl rfl rfl ?_
              refine zw_s (pc' := 157) rfl rfl ?_
              refine zw_ii (pc' := 160) rfl (zw_gt (zw_gt (zw_gt l2 rfl rfl) rfl rfl) rfl rfl) rfl rfl ?_
              refine zw_s (pc' := 53) rfl rfl ?_
              exact ih H _ _ _ hZ hF (zw_gt (zw_gt (zw_gt (zw_gt l0 rfl rfl) rfl rfl) rfl rfl) rfl rfl) (zw_gt zw_g1 rfl rfl) zw_g1 h3 h2 h4 (by rw [e2, hsp, h5]; omega) (by rw [e2, hal, e3]) (by omega) (by omega) (by rw [e2, ← hwl]; exact hV) (by omega)
            · refine zw_s (pc' := 109) rfl rfl ?_
              refine zw_s (pc' := 113) rfl rfl ?_
              refine zw_st (n := 2) (k := 4) (f := zp_isI) (pc' := 115) rfl rfl rfl rfl rfl ?_
              refine zw_ld (n := 2) (k := 4) (f := zp_isI) (pc' := 117) rfl rfl zw_g1 rfl rfl ?_
              refine zw_beq1 (g := 126) (pc' := 120) rfl rfl rfl (rfl : _ = (1 : Int)) (fun h9 => absurd h9 (by decide)) (fun h9 => ?_)
              have e3 : (a + Int32.ofInt 1).toInt = a.toInt + 1 := zw_p1 (by omega)
              rw [if_pos ⟨by rw [← ha]; exact ha1, by rw [← ha]; exact ha2, by rw [← ha, ← tx]; exact ha3⟩] at hal
              refine zw_ld (n := 1) (k := 1) (f := zp_isI) (pc' := 121) rfl rfl (zw_gt (zw_gt l1 rfl rfl) rfl rfl) rfl rfl ?_
              refine zw_s (pc' := 122) rfl rfl ?_
              refine zw_iadd (pc' := 123) rfl rfl ?_
              refine zw_s (pc' := 127) rfl rfl ?_
              refine zw_st (n := 1) (k := 1) (f := zp_isI) (pc' := 128) rfl rfl rfl rfl rfl ?_
              refine zw_s (pc' := 157) rfl rfl ?_
              refine zw_ii (pc' := 160) rfl (zw_gt (zw_gt (zw_gt l2 rfl rfl) rfl rfl) rfl rfl) rfl rfl ?_
              refine zw_s (pc' := 53) rfl rfl ?_
              exact ih H _ _ _ hZ hF (zw_gt (zw_gt (zw_gt (zw_gt l0 rfl rfl) rfl rfl) rfl rfl) rfl rfl) (zw_gt zw_g1 rfl rfl) zw_g1 h3 h2 h4 (by rw [e2, hsp, h5]; omega) (by rw [e2, hal, e3, ha]) (by omega) (by omega) (by rw [e2, ← hwl]; exact hV) (by omega)

theorem yc_twC {L : Nat} {σ : Nat → Int32} {d : Nat} {T : Nat → Int} {n : Nat} {H0 H : zp_H} {lv : zp_LV} {s e : Nat} (hse : s ≤ e ∧ e ≤ n) (hZ : yc_Z T n H) (hF : zk_Fr zg yc_m [] H0 H) (l0 : zp_get lv 0 = some (.inr (.inr (some 53)))) (h3 : (H.2.1 52 3).toInt = s) (h2 : (H.2.1 52 2).toInt = e) : zs_Safe L σ (fun X : zp_X => ∃ H1, X = (.inl none, H1) ∧ yc_Z T n H1 ∧ zk_Fr zg yc_m [] H0 H1 ∧ (H1.2.1 52 3).toInt = s ∧ (H1.2.1 52 2).toInt = e ∧ (H1.2.1 52 4).toInt = 3 ∧ (H1.2.1 52 5).toInt = ys_wi T s e) zm_57 [] (d + 1) (39, lv, [], H, (0, 0)) := by
  have W := zB_Wd hZ.1
  refine zw_ld (n := 1) (k := 0) (f := zp_isR) (pc' := 40) rfl rfl l0 rfl rfl ?_
  refine zw_s (pc' := 41) rfl rfl ?_
  refine zw_pI (q := 52) (pc' := 44) W rfl rfl rfl rfl rfl rfl ?_
  refine zw_ld (n := 1) (k := 0) (f := zp_isR) (pc' := 45) rfl rfl l0 rfl rfl ?_
  refine zw_s (pc' := 46) rfl rfl ?_
  refine zw_pI (q := 52) (pc' := 49) W rfl rfl rfl rfl rfl rfl ?_
  refine zw_s (pc' := 50) rfl rfl ?_
  refine zw_st (n := 1) (k := 1) (f := zp_isI) (pc' := 51) rfl rfl rfl rfl rfl ?_
  refine zw_s (pc' := 52) rfl rfl ?_
  refine zw_st (n := 1) (k := 2) (f := zp_isI) (pc' := 53) rfl rfl rfl rfl rfl ?_
  have b1 := zB_putf (p := 52) (k := 4) (x := Int32.ofInt 3) hZ.1 rfl (fun r hr => by cases hr) (zJc_I rfl hZ.1.2.2.2.2.2.2.2)
  have b2 := zB_putf (p := 52) (k := 5) (x := Int32.ofInt 0) b1 rfl (fun r hr => by cases hr; decide) (zJc_I rfl b1.2.2.2.2.2.2.2)
  refine yc_twB hse 101 _ _ _ _ ⟨b2, yc_T_I (yc_T_I hZ.2 rfl) rfl⟩ (zk_Fr_I (zk_Fr_I hF rfl rfl) rfl rfl) (zw_gt (zw_gt l0 rfl rfl) rfl rfl) (zw_gt zw_g1 rfl rfl) zw_g1 ?_ ?_ ?_ ?_ rfl (by decide) (by decide) rfl (by decide)
  · exact (congrArg Int32.toInt (zw_ne (zw_ne rfl rfl) rfl)).trans h3
  · exact (congrArg Int32.toInt (zw_ne (zw_ne rfl rfl) rfl)).trans h2
  · exact (congrArg Int32.toInt (zw_ne zw_eq rfl)).trans (by decide)
  · exact (congrArg Int32.toInt zw_eq).trans (by decide)

theorem yc_tw {L : Nat} {σ : Nat → Int32} {d : Nat} {T : Nat → Int} {n : Nat} {H0 : zp_H} {s e : Nat} (hZ : yc_Z T n H0) (h3 : (H0.2.1 52 3).toInt = s) (h2 : (H0.2.1 52 2).toInt = s) (hs : s ≤ n) (he : ys_run ys_L T (n - s) s = e) : ∃ X, zp_Call L σ (d + 2) 57 [.inr (.inr (some 53))] H0 X ∧ (fun X : zp_X => ∃ H1, X = (.inl none, H1) ∧ yc_Z T n H1 ∧ zk_Fr zg yc_m [] H0 H1 ∧ (H1.2.1 52 3).toInt = s ∧ (H1.2.1 52 2).toInt = e ∧ (H1.2.1 52 4).toInt = 3 ∧ (H1.2.1 52 5).toInt = ys_wi T s e) X := by
  have hse := ys_run_b (P := ys_L) (T := T) (n - s) s
  refine zw_met zm_57_t rfl rfl ?_
  exact yc_twA (fun H lv g1 g2 g3 g4 g5 => yc_twC (by omega) g1 g2 g3 g4 g5) _ H0 _ s hZ (zk_Fr_r H0) rfl h3 h2 ⟨Nat.le_refl _, hs⟩ he (Nat.le_refl _)
end
