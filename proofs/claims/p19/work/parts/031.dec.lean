/-! ===== the instructions are the code's; each method's word ===== -/
def za_ln (i : Instr) : Nat := match i with
  | .iload _ | .lload _ | .aload _ | .istore _ | .lstore _ | .astore _ | .bipush _ | .ldc _ | .newarray _ => 2
  | .sipush _ | .ldc_w _ | .ldc2_w _ | .iinc _ _ | .ifCond _ _ | .if_icmp _ _ | .goto _ | .getfield _ | .putfield _ | .invokevirtual _ | .invokestatic _ | .invokespecial _ | .new _ => 3
  | _ => 1
def za_sw (i : Instr) : Bool := match i with
  | .tableswitch _ _ _ _ => true
  | .lookupswitch _ _ => true
  | _ => false
def za_dok (cc : ByteArray) (q : Nat × Instr) : Bool := match decode cc q.1 with
  | .ok (i, n) => decide (i = q.2) && (za_sw i || Nat.beq n (za_ln i))
  | _ => false
theorem za_dok_ok {cc : ByteArray} {q : Nat × Instr} (h : za_dok cc q = true) : ∃ n, decode cc q.1 = .ok (q.2, n) ∧ (za_sw q.2 = true ∨ n = za_ln q.2) := by
  unfold za_dok at h
  split at h
  · rename_i i n hd
    simp only [Bool.and_eq_true, decide_eq_true_eq, Bool.or_eq_true] at h
    obtain ⟨e, h⟩ := h
    subst e
    exact ⟨n, hd, h.elim Or.inl (fun z => Or.inr (Nat.eq_of_beq_eq_true z))⟩
  · cases h
theorem za_fe_mem : ∀ {l : List (Nat × Instr)} {pc : Nat} {i : Instr}, za_fe l pc = some i → (pc, i) ∈ l
  | [], _, _, h => by cases h
  | q :: l, k, r, h => by
    unfold za_fe at h
    cases hb : Nat.beq q.1 k with
    | true =>
      have e := Nat.eq_of_beq_eq_true hb
      simp only [hb, cond_true, Option.some.injEq] at h
      obtain ⟨q1, q2⟩ := q
      dsimp only at h e
      rw [← e, ← h]
      exact List.mem_cons_self
    | false =>
      simp only [hb, cond_false] at h
      exact List.mem_cons_of_mem _ (za_fe_mem h)
theorem za_fe_ok {cc : ByteArray} {l : List (Nat × Instr)} {pc : Nat} {i : Instr} (hl : l.all (za_dok cc) = true) (h : za_fe l pc = some i) : ∃ n, decode cc pc = .ok (i, n) ∧ (za_sw i = true ∨ n = za_ln i) := za_dok_ok (q := (pc, i)) (List.all_eq_true.mp hl (pc, i) (za_fe_mem h))
theorem za_fe_1 {cc : ByteArray} {l : List (Nat × Instr)} {pc : Nat} {i : Instr} (hl : l.all (za_dok cc) = true) (h : za_fe l pc = some i) (hs : za_sw i = false) : decode cc pc = .ok (i, za_ln i) := by
  obtain ⟨n, h1, h2⟩ := za_fe_ok hl h
  rcases h2 with h2 | h2
  · rw [h2] at hs; cases hs
  · rw [← h2]; exact h1
/-! ===== instructions as numbers (they are compared faster so) ===== -/
def za_co (i : Instr) : Nat × Nat × Int := match i with
  | .aaload => (1, 0, 0)
  | .aastore => (2, 0, 0)
  | .aconst_null => (3, 0, 0)
  | .areturn => (4, 0, 0)
  | .arraylength => (5, 0, 0)
  | .athrow => (6, 0, 0)
  | .baload => (7, 0, 0)
  | .bastore => (8, 0, 0)
  | .dup => (9, 0, 0)
  | .dup_x1 => (10, 0, 0)
  | .dup_x2 => (11, 0, 0)
  | .dup2 => (12, 0, 0)
  | .i2b => (13, 0, 0)
  | .i2c => (14, 0, 0)
  | .i2l => (15, 0, 0)
  | .i2s => (16, 0, 0)
  | .iadd => (17, 0, 0)
  | .iaload => (18, 0, 0)
  | .iand => (19, 0, 0)
  | .iastore => (20, 0, 0)
  | .idiv => (21, 0, 0)
  | .imul => (22, 0, 0)
  | .ineg => (23, 0, 0)
  | .ior => (24, 0, 0)
  | .irem => (25, 0, 0)
  | .ireturn => (26, 0, 0)
  | .ishl => (27, 0, 0)
  | .ishr => (28, 0, 0)
  | .isub => (29, 0, 0)
  | .iushr => (30, 0, 0)
  | .ixor => (31, 0, 0)
  | .l2i => (32, 0, 0)
  | .ladd => (33, 0, 0)
  | .laload => (34, 0, 0)
  | .land => (35, 0, 0)
  | .lastore => (36, 0, 0)
  | .lcmp => (37, 0, 0)
  | .ldiv => (38, 0, 0)
  | .lmul => (39, 0, 0)
  | .lneg => (40, 0, 0)
  | .lor => (41, 0, 0)
  | .lrem => (42, 0, 0)
  | .lreturn => (43, 0, 0)
  | .lshl => (44, 0, 0)
  | .lshr => (45, 0, 0)
  | .lsub => (46, 0, 0)
  | .lushr => (47, 0, 0)
  | .lxor => (48, 0, 0)
  | .nop => (49, 0, 0)
  | .pop => (50, 0, 0)
  | .pop2 => (51, 0, 0)
  | .return_ => (52, 0, 0)
  | .aload n => (53, n, 0)
  | .anewarray n => (54, n, 0)
  | .astore n => (55, n, 0)
  | .getfield n => (56, n, 0)
  | .getstatic n => (57, n, 0)
  | .iload n => (58, n, 0)
  | .invokespecial n => (59, n, 0)
  | .invokestatic n => (60, n, 0)
  | .invokevirtual n => (61, n, 0)
  | .istore n => (62, n, 0)
  | .ldc n => (63, n, 0)
  | .ldc_w n => (64, n, 0)
  | .ldc2_w n => (65, n, 0)
  | .lload n => (66, n, 0)
  | .lstore n => (67, n, 0)
  | .new n => (68, n, 0)
  | .putfield n => (69, n, 0)
  | .putstatic n => (70, n, 0)
  | .bipush n => (71, 0, n)
  | .goto n => (72, 0, n)
  | .iconst n => (73, 0, n)
  | .sipush n => (74, 0, n)
  | .aload_n n => (75, n.val, 0)
  | .astore_n n => (76, n.val, 0)
  | .iload_n n => (77, n.val, 0)
  | .istore_n n => (78, n.val, 0)
  | .lload_n n => (79, n.val, 0)
  | .lstore_n n => (80, n.val, 0)
  | .lconst n => (81, n.val, 0)
  | .iinc n d => (82, n, d)
  | .ifCond c n => (83, (match c with | .eq => 0 | .ne => 1 | .lt => 2 | .ge => 3 | .gt => 4 | .le => 5), n)
  | .if_icmp c n => (84, (match c with | .eq => 0 | .ne => 1 | .lt => 2 | .ge => 3 | .gt => 4 | .le => 5), n)
  | .newarray c => (85, (match c with | .boolean => 0 | .char => 1 | .float => 2 | .double => 3 | .byte => 4 | .short => 5 | .int => 6 | .long => 7), 0)
  | _ => (0, 0, 0)
def za_un (x : Nat × Nat × Int) : Instr := match x.1 with
  | 1 => .aaload
  | 2 => .aastore
  | 3 => .aconst_null
  | 4 => .areturn
  | 5 => .arraylength
  | 6 => .athrow
  | 7 => .baload
  | 8 => .bastore
  | 9 => .dup
  | 10 => .dup_x1
  | 11 => .dup_x2
  | 12 => .dup2
  | 13 => .i2b
  | 14 => .i2c
  | 15 => .i2l
  | 16 => .i2s
  | 17 => .iadd
  | 18 => .iaload
  | 19 => .iand
  | 20 => .iastore
  | 21 => .idiv
  | 22 => .imul
  | 23 => .ineg
  | 24 => .ior
  | 25 => .irem
  | 26 => .ireturn
  | 27 => .ishl
  | 28 => .ishr
  | 29 => .isub
  | 30 => .iushr
  | 31 => .ixor
  | 32 => .l2i
  | 33 => .ladd
  | 34 => .laload
  | 35 => .land
  | 36 => .lastore
  | 37 => .lcmp
  | 38 => .ldiv
  | 39 => .lmul
  | 40 => .lneg
  | 41 => .lor
  | 42 => .lrem
  | 43 => .lreturn
  | 44 => .lshl
  | 45 => .lshr
  | 46 => .lsub
  | 47 => .lushr
  | 48 => .lxor
  | 49 => .nop
  | 50 => .pop
  | 51 => .pop2
  | 52 => .return_
  | 53 => .aload x.2.1
  | 54 => .anewarray x.2.1
  | 55 => .astore x.2.1
  | 56 => .getfield x.2.1
  | 57 => .getstatic x.2.1
  | 58 => .iload x.2.1
  | 59 => .invokespecial x.2.1
  | 60 => .invokestatic x.2.1
  | 61 => .invokevirtual x.2.1
  | 62 => .istore x.2.1
  | 63 => .ldc x.2.1
  | 64 => .ldc_w x.2.1
  | 65 => .ldc2_w x.2.1
  | 66 => .lload x.2.1
  | 67 => .lstore x.2.1
  | 68 => .new x.2.1
  | 69 => .putfield x.2.1
  | 70 => .putstatic x.2.1
  | 71 => .bipush x.2.2
  | 72 => .goto x.2.2
  | 73 => .iconst x.2.2
  | 74 => .sipush x.2.2
  | 75 => if h : x.2.1 < 4 then .aload_n ⟨x.2.1, h⟩ else .nop
  | 76 => if h : x.2.1 < 4 then .astore_n ⟨x.2.1, h⟩ else .nop
  | 77 => if h : x.2.1 < 4 then .iload_n ⟨x.2.1, h⟩ else .nop
  | 78 => if h : x.2.1 < 4 then .istore_n ⟨x.2.1, h⟩ else .nop
  | 79 => if h : x.2.1 < 4 then .lload_n ⟨x.2.1, h⟩ else .nop
  | 80 => if h : x.2.1 < 4 then .lstore_n ⟨x.2.1, h⟩ else .nop
  | 81 => if h : x.2.1 < 2 then .lconst ⟨x.2.1, h⟩ else .nop
  | 82 => .iinc x.2.1 x.2.2
  | 83 => (match x.2.1 with | 0 => .ifCond .eq x.2.2 | 1 => .ifCond .ne x.2.2 | 2 => .ifCond .lt x.2.2 | 3 => .ifCond .ge x.2.2 | 4 => .ifCond .gt x.2.2 | _ => .ifCond .le x.2.2)
  | 84 => (match x.2.1 with | 0 => .if_icmp .eq x.2.2 | 1 => .if_icmp .ne x.2.2 | 2 => .if_icmp .lt x.2.2 | 3 => .if_icmp .ge x.2.2 | 4 => .if_icmp .gt x.2.2 | _ => .if_icmp .le x.2.2)
  | 85 => (match x.2.1 with | 0 => .newarray .boolean | 1 => .newarray .char | 2 => .newarray .float | 3 => .newarray .double | 4 => .newarray .byte | 5 => .newarray .short | 6 => .newarray .int | _ => .newarray .long)
  | _ => .nop
set_option maxRecDepth 8000 in
theorem za_un_co : ∀ (i : Instr), ¬ (za_co i).1 = 0 → za_un (za_co i) = i := by
  intro i
  cases i <;> intro h <;> first
    | exact absurd rfl h
    | rfl
    | exact dif_pos (Fin.isLt _)
    | (rename_i n; cases n; rename_i v hv; exact dif_pos hv)
    | (rename_i c n; cases c <;> rfl)
    | (rename_i c; cases c <;> rfl)
def za_ceq (x y : Nat × Nat × Int) : Bool := (Nat.beq x.1 y.1).and ((Nat.beq x.2.1 y.2.1).and ((decide (x.2.2 = y.2.2)).and (Nat.beq x.1 0).not))
theorem za_ceq_ok {i j : Instr} (h : za_ceq (za_co i) (za_co j) = true) : i = j := by
  obtain ⟨h1, h⟩ := Bool.and_eq_true_iff.mp h
  obtain ⟨h2, h⟩ := Bool.and_eq_true_iff.mp h
  obtain ⟨h3, h4⟩ := Bool.and_eq_true_iff.mp h
  have e1 := Nat.eq_of_beq_eq_true h1
  have e2 := Nat.eq_of_beq_eq_true h2
  have e3 := of_decide_eq_true h3
  have e : za_co i = za_co j := Prod.ext e1 (Prod.ext e2 e3)
  have n1 : ¬ (za_co i).1 = 0 := fun h9 => by
    rw [h9] at h4
    exact absurd (show false = true from h4) (by decide)
  have n2 : ¬ (za_co j).1 = 0 := by rw [← e]; exact n1
  exact (za_un_co i n1).symm.trans ((congrArg za_un e).trans (za_un_co j n2))
def za_d1 (cc : ByteArray) (q : Nat × Instr) : Bool := match decode cc q.1 with
  | .ok (i, n) => (za_ceq (za_co i) (za_co q.2)).and (Nat.beq n (za_ln q.2))
  | _ => false
def za_dm (cc : ByteArray) (q : Nat × Instr) : Bool := bif za_sw q.2 then za_dok cc q else za_d1 cc q
theorem za_d1_ok {cc : ByteArray} {q : Nat × Instr} (h : za_d1 cc q = true) : za_dok cc q = true := by
  unfold za_d1 at h
  split at h
  · rename_i i n hd
    obtain ⟨h1, h2⟩ := Bool.and_eq_true_iff.mp h
    have e := za_ceq_ok h1
    subst e
    unfold za_dok
    rw [hd]
    exact Bool.and_eq_true_iff.mpr ⟨decide_eq_true rfl, Bool.or_eq_true_iff.mpr (Or.inr h2)⟩
  · cases h
theorem za_dm_ok {cc : ByteArray} {q : Nat × Instr} (h : za_dm cc q = true) : za_dok cc q = true := by
  unfold za_dm at h
  cases hs : za_sw q.2 with
  | true =>
    rw [hs] at h
    exact h
  | false =>
    rw [hs] at h
    exact za_d1_ok h
theorem za_dml {cc : ByteArray} {l : List (Nat × Instr)} (h : l.all (za_dm cc) = true) : l.all (za_dok cc) = true := List.all_eq_true.mpr (fun q hq => za_dm_ok (List.all_eq_true.mp h q hq))

theorem zd_0 : za_i0.all (za_dok prog_1_method_1_code) = true := za_dml (by decide +kernel)
theorem zd_1 : za_i1.all (za_dok prog_12_method_1_code) = true := za_dml (by decide +kernel)
theorem zd_2 : za_i2.all (za_dok prog_12_method_2_code) = true := za_dml (by decide +kernel)
theorem zd_3 : za_i3.all (za_dok prog_12_method_3_code) = true := za_dml (by decide +kernel)
theorem zd_4 : za_i4.all (za_dok prog_1_method_31_code) = true := za_dml (by decide +kernel)
theorem zd_5 : za_i5.all (za_dok prog_31_method_103_code) = true := za_dml (by decide +kernel)
theorem zd_6 : za_i6.all (za_dok prog_31_method_101_code) = true := za_dml (by decide +kernel)
theorem zd_7 : za_i7.all (za_dok prog_2_method_1_code) = true := za_dml (by decide +kernel)
theorem zd_8 : za_i8.all (za_dok prog_9_method_1_code) = true := za_dml (by decide +kernel)
theorem zd_9 : za_i9.all (za_dok prog_11_method_1_code) = true := za_dml (by decide +kernel)
theorem zd_10 : za_i10.all (za_dok prog_4_method_1_code) = true := za_dml (by decide +kernel)
theorem zd_11 : za_i11.all (za_dok prog_10_method_1_code) = true := za_dml (by decide +kernel)
theorem zd_12 : za_i12.all (za_dok prog_5_method_1_code) = true := za_dml (by decide +kernel)
theorem zd_13 : za_i13.all (za_dok prog_7_method_1_code) = true := za_dml (by decide +kernel)
theorem zd_14 : za_i14.all (za_dok prog_3_method_1_code) = true := za_dml (by decide +kernel)
theorem zd_15 : za_i15.all (za_dok prog_6_method_1_code) = true := za_dml (by decide +kernel)
theorem zd_16 : za_i16.all (za_dok prog_8_method_1_code) = true := za_dml (by decide +kernel)
theorem zd_17 : za_i17.all (za_dok prog_1_method_2_code) = true := za_dml (by decide +kernel)
theorem zd_18 : za_i18.all (za_dok prog_1_method_3_code) = true := za_dml (by decide +kernel)
theorem zd_19 : za_i19.all (za_dok prog_1_method_6_code) = true := za_dml (by decide +kernel)
theorem zd_20 : za_i20.all (za_dok prog_1_method_13_code) = true := za_dml (by decide +kernel)
theorem zd_21 : za_i21.all (za_dok prog_2_method_10_code) = true := za_dml (by decide +kernel)
theorem zd_22 : za_i22.all (za_dok prog_1_method_19_code) = true := za_dml (by decide +kernel)
theorem zd_23 : za_i23.all (za_dok prog_10_method_8_code) = true := za_dml (by decide +kernel)
theorem zd_24 : za_i24.all (za_dok prog_10_method_6_code) = true := za_dml (by decide +kernel)
theorem zd_25 : za_i25.all (za_dok prog_10_method_2_code) = true := za_dml (by decide +kernel)
theorem zd_26 : za_i26.all (za_dok prog_2_method_5_code) = true := za_dml (by decide +kernel)
theorem zd_27 : za_i27.all (za_dok prog_2_method_6_code) = true := za_dml (by decide +kernel)
theorem zd_28 : za_i28.all (za_dok prog_10_method_5_code) = true := za_dml (by decide +kernel)
theorem zd_29 : za_i29.all (za_dok prog_10_method_3_code) = true := za_dml (by decide +kernel)
theorem zd_30 : za_i30.all (za_dok prog_12_method_10_code) = true := za_dml (by decide +kernel)
theorem zd_31 : za_i31.all (za_dok prog_10_method_4_code) = true := za_dml (by decide +kernel)
theorem zd_32 : za_i32.all (za_dok prog_12_method_7_code) = true := za_dml (by decide +kernel)
theorem zd_33 : za_i33.all (za_dok prog_12_method_11_code) = true := za_dml (by decide +kernel)
theorem zd_34 : za_i34.all (za_dok prog_10_method_7_code) = true := za_dml (by decide +kernel)
theorem zd_35 : za_i35.all (za_dok prog_7_method_2_code) = true := za_dml (by decide +kernel)
theorem zd_36 : za_i36.all (za_dok prog_7_method_3_code) = true := za_dml (by decide +kernel)
theorem zd_37 : za_i37.all (za_dok prog_12_method_5_code) = true := za_dml (by decide +kernel)
theorem zd_38 : za_i38.all (za_dok prog_7_method_4_code) = true := za_dml (by decide +kernel)
theorem zd_39 : za_i39.all (za_dok prog_12_method_6_code) = true := za_dml (by decide +kernel)
theorem zd_40 : za_i40.all (za_dok prog_7_method_5_code) = true := za_dml (by decide +kernel)
theorem zd_41 : za_i41.all (za_dok prog_7_method_6_code) = true := za_dml (by decide +kernel)
theorem zd_42 : za_i42.all (za_dok prog_7_method_7_code) = true := za_dml (by decide +kernel)
theorem zd_43 : za_i43.all (za_dok prog_7_method_8_code) = true := za_dml (by decide +kernel)
theorem zd_44 : za_i44.all (za_dok prog_7_method_9_code) = true := za_dml (by decide +kernel)
theorem zd_45 : za_i45.all (za_dok prog_1_method_26_code) = true := za_dml (by decide +kernel)
theorem zd_46 : za_i46.all (za_dok prog_2_method_11_code) = true := za_dml (by decide +kernel)
theorem zd_47 : za_i47.all (za_dok prog_1_method_27_code) = true := za_dml (by decide +kernel)
theorem zd_48 : za_i48.all (za_dok method_3_code) = true := za_dml (by decide +kernel)
theorem zd_49 : za_i49.all (za_dok prog_1_method_4_code) = true := za_dml (by decide +kernel)
theorem zd_50 : za_i50.all (za_dok prog_9_method_2_code) = true := za_dml (by decide +kernel)
theorem zd_51 : za_i51.all (za_dok prog_2_method_2_code) = true := za_dml (by decide +kernel)
theorem zd_52 : za_i52.all (za_dok prog_4_method_2_code) = true := za_dml (by decide +kernel)
theorem zd_53 : za_i53.all (za_dok prog_11_method_2_code) = true := za_dml (by decide +kernel)
theorem zd_54 : za_i54.all (za_dok prog_22_method_69_code) = true := za_dml (by decide +kernel)
theorem zd_55 : za_i55.all (za_dok prog_11_method_3_code) = true := za_dml (by decide +kernel)
theorem zd_56 : za_i56.all (za_dok prog_11_method_4_code) = true := za_dml (by decide +kernel)
theorem zd_57 : za_i57.all (za_dok prog_11_method_6_code) = true := za_dml (by decide +kernel)
theorem zd_58 : za_i58.all (za_dok prog_11_method_5_code) = true := za_dml (by decide +kernel)
theorem zd_59 : za_i59.all (za_dok prog_11_method_7_code) = true := za_dml (by decide +kernel)
theorem zd_60 : za_i60.all (za_dok prog_11_method_8_code) = true := za_dml (by decide +kernel)
theorem zd_61 : za_i61.all (za_dok prog_9_method_5_code) = true := za_dml (by decide +kernel)
theorem zd_62 : za_i62.all (za_dok prog_9_method_3_code) = true := za_dml (by decide +kernel)
theorem zd_63 : za_i63.all (za_dok prog_9_method_6_code) = true := za_dml (by decide +kernel)
theorem zd_64 : za_i64.all (za_dok prog_9_method_12_code) = true := za_dml (by decide +kernel)
theorem zd_65 : za_i65.all (za_dok prog_9_method_9_code) = true := za_dml (by decide +kernel)
theorem zd_66 : za_i66.all (za_dok prog_9_method_8_code) = true := za_dml (by decide +kernel)
theorem zd_67 : za_i67.all (za_dok prog_21_method_50_code) = true := za_dml (by decide +kernel)
theorem zd_68 : za_i68.all (za_dok prog_9_method_7_code) = true := za_dml (by decide +kernel)
theorem zd_69 : za_i69.all (za_dok prog_9_method_13_code) = true := za_dml (by decide +kernel)
theorem zd_70 : za_i70.all (za_dok prog_9_method_11_code) = true := za_dml (by decide +kernel)
theorem zd_71 : za_i71.all (za_dok prog_9_method_14_code) = true := za_dml (by decide +kernel)
theorem zd_72 : za_i72.all (za_dok prog_12_method_9_code) = true := za_dml (by decide +kernel)
theorem zd_73 : za_i73.all (za_dok prog_9_method_10_code) = true := za_dml (by decide +kernel)
theorem zd_74 : za_i74.all (za_dok prog_11_method_10_code) = true := za_dml (by decide +kernel)
theorem zd_75 : za_i75.all (za_dok prog_12_method_8_code) = true := za_dml (by decide +kernel)
theorem zd_76 : za_i76.all (za_dok prog_9_method_15_code) = true := za_dml (by decide +kernel)
theorem zd_77 : za_i77.all (za_dok prog_2_method_3_code) = true := za_dml (by decide +kernel)
theorem zd_78 : za_i78.all (za_dok prog_2_method_4_code) = true := za_dml (by decide +kernel)
theorem zd_79 : za_i79.all (za_dok prog_9_method_16_code) = true := za_dml (by decide +kernel)
theorem zd_80 : za_i80.all (za_dok prog_9_method_17_code) = true := za_dml (by decide +kernel)
theorem zd_81 : za_i81.all (za_dok prog_9_method_18_code) = true := za_dml (by decide +kernel)
theorem zd_82 : za_i82.all (za_dok prog_9_method_19_code) = true := za_dml (by decide +kernel)
theorem zd_83 : za_i83.all (za_dok prog_9_method_20_code) = true := za_dml (by decide +kernel)
theorem zd_84 : za_i84.all (za_dok prog_9_method_21_code) = true := za_dml (by decide +kernel)
theorem zd_85 : za_i85.all (za_dok prog_4_method_6_code) = true := za_dml (by decide +kernel)
theorem zd_86 : za_i86.all (za_dok prog_11_method_11_code) = true := za_dml (by decide +kernel)
theorem zd_87 : za_i87.all (za_dok prog_4_method_3_code) = true := za_dml (by decide +kernel)
theorem zd_88 : za_i88.all (za_dok prog_4_method_7_code) = true := za_dml (by decide +kernel)
theorem zd_89 : za_i89.all (za_dok prog_4_method_8_code) = true := za_dml (by decide +kernel)
theorem zd_90 : za_i90.all (za_dok prog_11_method_9_code) = true := za_dml (by decide +kernel)
theorem zd_91 : za_i91.all (za_dok prog_4_method_9_code) = true := za_dml (by decide +kernel)
theorem zd_92 : za_i92.all (za_dok prog_4_method_10_code) = true := za_dml (by decide +kernel)
theorem zd_93 : za_i93.all (za_dok prog_4_method_11_code) = true := za_dml (by decide +kernel)
theorem zd_94 : za_i94.all (za_dok prog_4_method_12_code) = true := za_dml (by decide +kernel)
theorem zd_95 : za_i95.all (za_dok prog_4_method_4_code) = true := za_dml (by decide +kernel)
theorem zd_96 : za_i96.all (za_dok prog_4_method_5_code) = true := za_dml (by decide +kernel)
theorem zd_97 : za_i97.all (za_dok prog_9_method_4_code) = true := za_dml (by decide +kernel)
theorem zd_98 : za_i98.all (za_dok prog_1_method_5_code) = true := za_dml (by decide +kernel)
theorem zd_99 : za_i99.all (za_dok prog_3_method_2_code) = true := za_dml (by decide +kernel)
theorem zd_100 : za_i100.all (za_dok method_4_code) = true := za_dml (by decide +kernel)
theorem zd_101 : za_i101.all (za_dok prog_1_method_7_code) = true := za_dml (by decide +kernel)
theorem zd_102 : za_i102.all (za_dok method_5_code) = true := za_dml (by decide +kernel)
theorem zd_103 : za_i103.all (za_dok prog_1_method_8_code) = true := za_dml (by decide +kernel)
theorem zd_104 : za_i104.all (za_dok prog_1_method_30_code) = true := za_dml (by decide +kernel)
theorem zd_105 : za_i105.all (za_dok prog_12_method_4_code) = true := za_dml (by decide +kernel)
theorem zd_106 : za_i106.all (za_dok method_6_code) = true := za_dml (by decide +kernel)
theorem zd_107 : za_i107.all (za_dok prog_1_method_9_code) = true := za_dml (by decide +kernel)
theorem zd_108 : za_i108.all (za_dok prog_1_method_28_code) = true := za_dml (by decide +kernel)
theorem zd_109 : za_i109.all (za_dok method_7_code) = true := za_dml (by decide +kernel)
theorem zd_110 : za_i110.all (za_dok prog_1_method_10_code) = true := za_dml (by decide +kernel)
theorem zd_111 : za_i111.all (za_dok method_8_code) = true := za_dml (by decide +kernel)
theorem zd_112 : za_i112.all (za_dok prog_1_method_11_code) = true := za_dml (by decide +kernel)
theorem zd_113 : za_i113.all (za_dok prog_2_method_9_code) = true := za_dml (by decide +kernel)
theorem zd_114 : za_i114.all (za_dok method_9_code) = true := za_dml (by decide +kernel)
theorem zd_115 : za_i115.all (za_dok prog_1_method_12_code) = true := za_dml (by decide +kernel)
theorem zd_116 : za_i116.all (za_dok prog_2_method_8_code) = true := za_dml (by decide +kernel)
theorem zd_117 : za_i117.all (za_dok prog_20_method_49_code) = true := za_dml (by decide +kernel)
theorem zd_118 : za_i118.all (za_dok method_10_code) = true := za_dml (by decide +kernel)
theorem zd_119 : za_i119.all (za_dok prog_1_method_14_code) = true := za_dml (by decide +kernel)
theorem zd_120 : za_i120.all (za_dok method_11_code) = true := za_dml (by decide +kernel)
theorem zd_121 : za_i121.all (za_dok prog_1_method_15_code) = true := za_dml (by decide +kernel)
theorem zd_122 : za_i122.all (za_dok method_12_code) = true := za_dml (by decide +kernel)
theorem zd_123 : za_i123.all (za_dok prog_1_method_16_code) = true := za_dml (by decide +kernel)
theorem zd_124 : za_i124.all (za_dok prog_5_method_2_code) = true := za_dml (by decide +kernel)
