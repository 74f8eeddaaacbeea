/-! ===== the instructions are the code's; each method's word ===== -/
def za_ln (i : Instr) : Nat := match i with
  | .iload _ | .lload _ | .aload _ | .istore _ | .lstore _ | .astore _ | .bipush _ | .ldc _ | .newarray _ => 2
  | .sipush _ | .ldc_w _ | .ldc2_w _ | .iinc _ _ | .ifCond _ _ | .if_icmp _ _ | .goto _ | .getfield _ | .putfield _ | .invokevirtual _ | .invokestatic _ | .invokespecial _ | .new _ => 3
  | _ => 1
def za_sw (i : Instr) : Bool := match i with
  | .tableswitch _ _ _ _ => true
  | .lookupswitch _ _ => true
  | _ => false
def za_dok (cc : ByteArray) (q : Nat × Instr) : Bool := match decode cc q.1 with
  | .ok (i, n) => decide (i = q.2) && (za_sw i || Nat.beq n (za_ln i))
  | _ => false
theorem za_dok_ok {cc : ByteArray} {q : Nat × Instr} (h : za_dok cc q = true) : ∃ n, decode cc q.1 = .ok (q.2, n) ∧ (za_sw q.2 = true ∨ n = za_ln q.2) := by
  unfold za_dok at h
  split at h
  · rename_i i n hd
    simp only [Bool.and_eq_true, decide_eq_true_eq, Bool.or_eq_true] at h
    obtain ⟨e, h⟩ := h
    subst e
    exact ⟨n, hd, h.elim Or.inl (fun z => Or.inr (Nat.eq_of_beq_eq_true z))⟩
  · cases h
theorem za_fe_mem : ∀ {l : List (Nat × Instr)} {pc : Nat} {i : Instr}, za_fe l pc = some i → (pc, i) ∈ l
  | [], _, _, h => by cases h
  | q :: l, k, r, h => by
    unfold za_fe at h
    cases hb : Nat.beq q.1 k with
    | true =>
      have e := Nat.eq_of_beq_eq_true hb
      simp only [hb, cond_true, Option.some.injEq] at h
      obtain ⟨q1, q2⟩ := q
      dsimp only at h e
      rw [← e, ← h]
      exact List.mem_cons_self
    | false =>
      simp only [hb, cond_false] at h
      exact List.mem_cons_of_mem _ (za_fe_mem h)
theorem za_fe_ok {cc : ByteArray} {l : List (Nat × Instr)} {pc : Nat} {i : Instr} (hl : l.all (za_dok cc) = true) (h : za_fe l pc = some i) : ∃ n, decode cc pc = .ok (i, n) ∧ (za_sw i = true ∨ n = za_ln i) := za_dok_ok (q := (pc, i)) (List.all_eq_true.mp hl (pc, i) (za_fe_mem h))
theorem za_fe_1 {cc : ByteArray} {l : List (Nat × Instr)} {pc : Nat} {i : Instr} (hl : l.all (za_dok cc) = true) (h : za_fe l pc = some i) (hs : za_sw i = false) : decode cc pc = .ok (i, za_ln i) := by
  obtain ⟨n, h1, h2⟩ := za_fe_ok hl h
  rcases h2 with h2 | h2
  · rw [h2] at hs; cases hs
  · rw [← h2]; exact h1
theorem zd_0 : za_i0.all (za_dok prog_1_method_1_code) = true := by decide +kernel
theorem zd_1 : za_i1.all (za_dok prog_12_method_1_code) = true := by decide +kernel
theorem zd_2 : za_i2.all (za_dok prog_12_method_2_code) = true := by decide +kernel
theorem zd_3 : za_i3.all (za_dok prog_12_method_3_code) = true := by decide +kernel
theorem zd_4 : za_i4.all (za_dok prog_1_method_31_code) = true := by decide +kernel
theorem zd_5 : za_i5.all (za_dok prog_31_method_103_code) = true := by decide +kernel
theorem zd_6 : za_i6.all (za_dok prog_31_method_101_code) = true := by decide +kernel
theorem zd_7 : za_i7.all (za_dok prog_2_method_1_code) = true := by decide +kernel
theorem zd_8 : za_i8.all (za_dok prog_9_method_1_code) = true := by decide +kernel
theorem zd_9 : za_i9.all (za_dok prog_11_method_1_code) = true := by decide +kernel
theorem zd_10 : za_i10.all (za_dok prog_4_method_1_code) = true := by decide +kernel
theorem zd_11 : za_i11.all (za_dok prog_10_method_1_code) = true := by decide +kernel
theorem zd_12 : za_i12.all (za_dok prog_5_method_1_code) = true := by decide +kernel
theorem zd_13 : za_i13.all (za_dok prog_7_method_1_code) = true := by decide +kernel
theorem zd_14 : za_i14.all (za_dok prog_3_method_1_code) = true := by decide +kernel
theorem zd_15 : za_i15.all (za_dok prog_6_method_1_code) = true := by decide +kernel
theorem zd_16 : za_i16.all (za_dok prog_8_method_1_code) = true := by decide +kernel
theorem zd_17 : za_i17.all (za_dok prog_1_method_2_code) = true := by decide +kernel
theorem zd_18 : za_i18.all (za_dok prog_1_method_3_code) = true := by decide +kernel
theorem zd_19 : za_i19.all (za_dok prog_1_method_6_code) = true := by decide +kernel
theorem zd_20 : za_i20.all (za_dok prog_1_method_13_code) = true := by decide +kernel
theorem zd_21 : za_i21.all (za_dok prog_2_method_10_code) = true := by decide +kernel
theorem zd_22 : za_i22.all (za_dok prog_1_method_19_code) = true := by decide +kernel
theorem zd_23 : za_i23.all (za_dok prog_10_method_8_code) = true := by decide +kernel
theorem zd_24 : za_i24.all (za_dok prog_10_method_6_code) = true := by decide +kernel
theorem zd_25 : za_i25.all (za_dok prog_10_method_2_code) = true := by decide +kernel
theorem zd_26 : za_i26.all (za_dok prog_2_method_5_code) = true := by decide +kernel
theorem zd_27 : za_i27.all (za_dok prog_2_method_6_code) = true := by decide +kernel
theorem zd_28 : za_i28.all (za_dok prog_10_method_5_code) = true := by decide +kernel
theorem zd_29 : za_i29.all (za_dok prog_10_method_3_code) = true := by decide +kernel
theorem zd_30 : za_i30.all (za_dok prog_12_method_10_code) = true := by decide +kernel
theorem zd_31 : za_i31.all (za_dok prog_10_method_4_code) = true := by decide +kernel
theorem zd_32 : za_i32.all (za_dok prog_12_method_7_code) = true := by decide +kernel
theorem zd_33 : za_i33.all (za_dok prog_12_method_11_code) = true := by decide +kernel
theorem zd_34 : za_i34.all (za_dok prog_10_method_7_code) = true := by decide +kernel
theorem zd_35 : za_i35.all (za_dok prog_7_method_2_code) = true := by decide +kernel
theorem zd_36 : za_i36.all (za_dok prog_7_method_3_code) = true := by decide +kernel
theorem zd_37 : za_i37.all (za_dok prog_12_method_5_code) = true := by decide +kernel
theorem zd_38 : za_i38.all (za_dok prog_7_method_4_code) = true := by decide +kernel
theorem zd_39 : za_i39.all (za_dok prog_12_method_6_code) = true := by decide +kernel
theorem zd_40 : za_i40.all (za_dok prog_7_method_5_code) = true := by decide +kernel
theorem zd_41 : za_i41.all (za_dok prog_7_method_6_code) = true := by decide +kernel
theorem zd_42 : za_i42.all (za_dok prog_7_method_7_code) = true := by decide +kernel
theorem zd_43 : za_i43.all (za_dok prog_7_method_8_code) = true := by decide +kernel
theorem zd_44 : za_i44.all (za_dok prog_7_method_9_code) = true := by decide +kernel
theorem zd_45 : za_i45.all (za_dok prog_1_method_26_code) = true := by decide +kernel
theorem zd_46 : za_i46.all (za_dok prog_2_method_11_code) = true := by decide +kernel
theorem zd_47 : za_i47.all (za_dok prog_1_method_27_code) = true := by decide +kernel
theorem zd_48 : za_i48.all (za_dok method_3_code) = true := by decide +kernel
theorem zd_49 : za_i49.all (za_dok prog_1_method_4_code) = true := by decide +kernel
theorem zd_50 : za_i50.all (za_dok prog_9_method_2_code) = true := by decide +kernel
theorem zd_51 : za_i51.all (za_dok prog_2_method_2_code) = true := by decide +kernel
theorem zd_52 : za_i52.all (za_dok prog_4_method_2_code) = true := by decide +kernel
theorem zd_53 : za_i53.all (za_dok prog_11_method_2_code) = true := by decide +kernel
theorem zd_54 : za_i54.all (za_dok prog_22_method_69_code) = true := by decide +kernel
theorem zd_55 : za_i55.all (za_dok prog_11_method_3_code) = true := by decide +kernel
theorem zd_56 : za_i56.all (za_dok prog_11_method_4_code) = true := by decide +kernel
theorem zd_57 : za_i57.all (za_dok prog_11_method_6_code) = true := by decide +kernel
theorem zd_58 : za_i58.all (za_dok prog_11_method_5_code) = true := by decide +kernel
theorem zd_59 : za_i59.all (za_dok prog_11_method_7_code) = true := by decide +kernel
theorem zd_60 : za_i60.all (za_dok prog_11_method_8_code) = true := by decide +kernel
theorem zd_61 : za_i61.all (za_dok prog_9_method_5_code) = true := by decide +kernel
theorem zd_62 : za_i62.all (za_dok prog_9_method_3_code) = true := by decide +kernel
theorem zd_63 : za_i63.all (za_dok prog_9_method_6_code) = true := by decide +kernel
theorem zd_64 : za_i64.all (za_dok prog_9_method_12_code) = true := by decide +kernel
theorem zd_65 : za_i65.all (za_dok prog_9_method_9_code) = true := by decide +kernel
theorem zd_66 : za_i66.all (za_dok prog_9_method_8_code) = true := by decide +kernel
theorem zd_67 : za_i67.all (za_dok prog_21_method_50_code) = true := by decide +kernel
theorem zd_68 : za_i68.all (za_dok prog_9_method_7_code) = true := by decide +kernel
theorem zd_69 : za_i69.all (za_dok prog_9_method_13_code) = true := by decide +kernel
theorem zd_70 : za_i70.all (za_dok prog_9_method_11_code) = true := by decide +kernel
theorem zd_71 : za_i71.all (za_dok prog_9_method_14_code) = true := by decide +kernel
theorem zd_72 : za_i72.all (za_dok prog_12_method_9_code) = true := by decide +kernel
theorem zd_73 : za_i73.all (za_dok prog_9_method_10_code) = true := by decide +kernel
theorem zd_74 : za_i74.all (za_dok prog_11_method_10_code) = true := by decide +kernel
theorem zd_75 : za_i75.all (za_dok prog_12_method_8_code) = true := by decide +kernel
theorem zd_76 : za_i76.all (za_dok prog_9_method_15_code) = true := by decide +kernel
theorem zd_77 : za_i77.all (za_dok prog_2_method_3_code) = true := by decide +kernel
theorem zd_78 : za_i78.all (za_dok prog_2_method_4_code) = true := by decide +kernel
theorem zd_79 : za_i79.all (za_dok prog_9_method_16_code) = true := by decide +kernel
theorem zd_80 : za_i80.all (za_dok prog_9_method_17_code) = true := by decide +kernel
theorem zd_81 : za_i81.all (za_dok prog_9_method_18_code) = true := by decide +kernel
theorem zd_82 : za_i82.all (za_dok prog_9_method_19_code) = true := by decide +kernel
theorem zd_83 : za_i83.all (za_dok prog_9_method_20_code) = true := by decide +kernel
theorem zd_84 : za_i84.all (za_dok prog_9_method_21_code) = true := by decide +kernel
theorem zd_85 : za_i85.all (za_dok prog_4_method_6_code) = true := by decide +kernel
theorem zd_86 : za_i86.all (za_dok prog_11_method_11_code) = true := by decide +kernel
theorem zd_87 : za_i87.all (za_dok prog_4_method_3_code) = true := by decide +kernel
theorem zd_88 : za_i88.all (za_dok prog_4_method_7_code) = true := by decide +kernel
theorem zd_89 : za_i89.all (za_dok prog_4_method_8_code) = true := by decide +kernel
theorem zd_90 : za_i90.all (za_dok prog_11_method_9_code) = true := by decide +kernel
theorem zd_91 : za_i91.all (za_dok prog_4_method_9_code) = true := by decide +kernel
theorem zd_92 : za_i92.all (za_dok prog_4_method_10_code) = true := by decide +kernel
theorem zd_93 : za_i93.all (za_dok prog_4_method_11_code) = true := by decide +kernel
theorem zd_94 : za_i94.all (za_dok prog_4_method_12_code) = true := by decide +kernel
theorem zd_95 : za_i95.all (za_dok prog_4_method_4_code) = true := by decide +kernel
theorem zd_96 : za_i96.all (za_dok prog_4_method_5_code) = true := by decide +kernel
theorem zd_97 : za_i97.all (za_dok prog_9_method_4_code) = true := by decide +kernel
theorem zd_98 : za_i98.all (za_dok prog_1_method_5_code) = true := by decide +kernel
theorem zd_99 : za_i99.all (za_dok prog_3_method_2_code) = true := by decide +kernel
theorem zd_100 : za_i100.all (za_dok method_4_code) = true := by decide +kernel
theorem zd_101 : za_i101.all (za_dok prog_1_method_7_code) = true := by decide +kernel
theorem zd_102 : za_i102.all (za_dok method_5_code) = true := by decide +kernel
theorem zd_103 : za_i103.all (za_dok prog_1_method_8_code) = true := by decide +kernel
theorem zd_104 : za_i104.all (za_dok prog_1_method_30_code) = true := by decide +kernel
theorem zd_105 : za_i105.all (za_dok prog_12_method_4_code) = true := by decide +kernel
theorem zd_106 : za_i106.all (za_dok method_6_code) = true := by decide +kernel
theorem zd_107 : za_i107.all (za_dok prog_1_method_9_code) = true := by decide +kernel
theorem zd_108 : za_i108.all (za_dok prog_1_method_28_code) = true := by decide +kernel
theorem zd_109 : za_i109.all (za_dok method_7_code) = true := by decide +kernel
theorem zd_110 : za_i110.all (za_dok prog_1_method_10_code) = true := by decide +kernel
theorem zd_111 : za_i111.all (za_dok method_8_code) = true := by decide +kernel
theorem zd_112 : za_i112.all (za_dok prog_1_method_11_code) = true := by decide +kernel
theorem zd_113 : za_i113.all (za_dok prog_2_method_9_code) = true := by decide +kernel
theorem zd_114 : za_i114.all (za_dok method_9_code) = true := by decide +kernel
theorem zd_115 : za_i115.all (za_dok prog_1_method_12_code) = true := by decide +kernel
theorem zd_116 : za_i116.all (za_dok prog_2_method_8_code) = true := by decide +kernel
theorem zd_117 : za_i117.all (za_dok prog_20_method_49_code) = true := by decide +kernel
theorem zd_118 : za_i118.all (za_dok method_10_code) = true := by decide +kernel
theorem zd_119 : za_i119.all (za_dok prog_1_method_14_code) = true := by decide +kernel
theorem zd_120 : za_i120.all (za_dok method_11_code) = true := by decide +kernel
theorem zd_121 : za_i121.all (za_dok prog_1_method_15_code) = true := by decide +kernel
theorem zd_122 : za_i122.all (za_dok method_12_code) = true := by decide +kernel
theorem zd_123 : za_i123.all (za_dok prog_1_method_16_code) = true := by decide +kernel
theorem zd_124 : za_i124.all (za_dok prog_5_method_2_code) = true := by decide +kernel
