/-! ===== the instructions are the code's; each method's word ===== -/
def za_ln (i : Instr) : Nat := match i with
  | .iload _ | .lload _ | .aload _ | .istore _ | .lstore _ | .astore _ | .bipush _ | .ldc _ | .newarray _ => 2
  | .sipush _ | .ldc_w _ | .ldc2_w _ | .iinc _ _ | .ifCond _ _ | .if_icmp _ _ | .goto _ | .getfield _ | .putfield _ | .invokevirtual _ | .invokestatic _ | .invokespecial _ | .new _ => 3
  | _ => 1
def za_sw (i : Instr) : Bool := match i with
  | .tableswitch _ _ _ _ => true
  | .lookupswitch _ _ => true
  | _ => false
def za_dok (cc : ByteArray) (q : Nat × Instr) : Bool := match decode cc q.1 with
  | .ok (i, n) => decide (i = q.2) && (za_sw i || Nat.beq n (za_ln i))
  | _ => false
theorem za_dok_ok {cc : ByteArray} {q : Nat × Instr} (h : za_dok cc q = true) : ∃ n, decode cc q.1 = .ok (q.2, n) ∧ (za_sw q.2 = true ∨ n = za_ln q.2) := by
  unfold za_dok at h
  split at h
  · rename_i i n hd
    simp only [Bool.and_eq_true, decide_eq_true_eq, Bool.or_eq_true] at h
    obtain ⟨e, h⟩ := h
    subst e
    exact ⟨n, hd, h.elim Or.inl (fun z => Or.inr (Nat.eq_of_beq_eq_true z))⟩
  · cases h
theorem za_fe_mem : ∀ {l : List (Nat × Instr)} {pc : Nat} {i : Instr}, za_fe l pc = some i → (pc, i) ∈ l
  | [], _, _, h => by cases h
  | q :: l, k, r, h => by
    unfold za_fe at h
    cases hb : Nat.beq q.1 k with
    | true =>
      have e := Nat.eq_of_beq_eq_true hb
      simp only [hb, cond_true, Option.some.injEq] at h
      obtain ⟨q1, q2⟩ := q
      dsimp only at h e
      rw [← e, ← h]
      exact List.mem_cons_self
    | false =>
      simp only [hb, cond_false] at h
      exact List.mem_cons_of_mem _ (za_fe_mem h)
theorem za_fe_ok {cc : ByteArray} {l : List (Nat × Instr)} {pc : Nat} {i : Instr} (hl : l.all (za_dok cc) = true) (h : za_fe l pc = some i) : ∃ n, decode cc pc = .ok (i, n) ∧ (za_sw i = true ∨ n = za_ln i) := za_dok_ok (q := (pc, i)) (List.all_eq_true.mp hl (pc, i) (za_fe_mem h))
theorem za_fe_1 {cc : ByteArray} {l : List (Nat × Instr)} {pc : Nat} {i : Instr} (hl : l.all (za_dok cc) = true) (h : za_fe l pc = some i) (hs : za_sw i = false) : decode cc pc = .ok (i, za_ln i) := by
  obtain ⟨n, h1, h2⟩ := za_fe_ok hl h
  rcases h2 with h2 | h2
  · rw [h2] at hs; cases hs
  · rw [← h2]; exact h1
theorem zd_0 : za_i0.all (za_dok prog_1_method_1_code) = true := by decide +kernel
theorem zd_1 : za_i1.all (za_dok prog_12_method_1_code) = true := by decide +kernel
theorem zd_2 : za_i2.all (za_dok prog_12_method_2_code) = true := by decide +kernel
theorem zd_3 : za_i3.all (za_dok prog_12_method_3_code) = true := by decide +kernel
theorem zd_4 : za_i4.all (za_dok prog_1_method_31_code) = true := by decide +kernel
theorem zd_5 : za_i5.all (za_dok prog_31_method_103_code) = true := by decide +kernel
theorem zd_6 : za_i6.all (za_dok prog_31_method_101_code) = true := by decide +kernel
theorem zd_7 : za_i7.all (za_dok prog_2_method_1_code) = true := by decide +kernel
theorem zd_8 : za_i8.all (za_dok prog_9_method_1_code) = true := by decide +kernel
theorem zd_9 : za_i9.all (za_dok prog_11_method_1_code) = true := by decide +kernel
theorem zd_10 : za_i10.all (za_dok prog_4_method_1_code) = true := by decide +kernel
theorem zd_11 : za_i11.all (za_dok prog_10_method_1_code) = true := by decide +kernel
theorem zd_12 : za_i12.all (za_dok prog_5_method_1_code) = true := by decide +kernel
theorem zd_13 : za_i13.all (za_dok prog_7_method_1_code) = true := by decide +kernel
theorem zd_14 : za_i14.all (za_dok prog_3_method_1_code) = true := by decide +kernel
theorem zd_15 : za_i15.all (za_dok prog_6_method_1_code) = true := by decide +kernel
theorem zd_16 : za_i16.all (za_dok prog_8_method_1_code) = true := by decide +kernel
theorem zd_17 : za_i17.all (za_dok prog_1_method_2_code) = true := by decide +kernel
theorem zd_18 : za_i18.all (za_dok prog_1_method_3_code) = true := by decide +kernel
theorem zd_19 : za_i19.all (za_dok prog_1_method_6_code) = true := by decide +kernel
theorem zd_20 : za_i20.all (za_dok prog_1_method_13_code) = true := by decide +kernel
theorem zd_21 : za_i21.all (za_dok prog_2_method_10_code) = true := by decide +kernel
theorem zd_22 : za_i22.all (za_dok prog_1_method_19_code) = true := by decide +kernel
theorem zd_23 : za_i23.all (za_dok prog_10_method_8_code) = true := by decide +kernel
theorem zd_24 : za_i24.all (za_dok prog_10_method_6_code) = true := by decide +kernel
theorem zd_25 : za_i25.all (za_dok prog_10_method_2_code) = true := by decide +kernel
theorem zd_26 : za_i26.all (za_dok prog_2_method_5_code) = true := by decide +kernel
theorem zd_27 : za_i27.all (za_dok prog_2_method_6_code) = true := by decide +kernel
theorem zd_28 : za_i28.all (za_dok prog_10_method_5_code) = true := by decide +kernel
theorem zd_29 : za_i29.all (za_dok prog_10_method_3_code) = true := by decide +kernel
theorem zd_30 : za_i30.all (za_dok prog_12_method_10_code) = true := by decide +kernel
theorem zd_31 : za_i31.all (za_dok prog_10_method_4_code) = true := by decide +kernel
theorem zd_32 : za_i32.all (za_dok prog_12_method_7_code) = true := by decide +kernel
theorem zd_33 : za_i33.all (za_dok prog_12_method_11_code) = true := by decide +kernel
theorem zd_34 : za_i34.all (za_dok prog_10_method_7_code) = true := by decide +kernel
theorem zd_35 : za_i35.all (za_dok prog_7_method_2_code) = true := by decide +kernel
theorem zd_36 : za_i36.all (za_dok prog_7_method_3_code) = true := by decide +kernel
theorem zd_37 : za_i37.all (za_dok prog_12_method_5_code) = true := by decide +kernel
theorem zd_38 : za_i38.all (za_dok prog_7_method_4_code) = true := by decide +kernel
theorem zd_39 : za_i39.all (za_dok prog_12_method_6_code) = true := by decide +kernel
theorem zd_40 : za_i40.all (za_dok prog_7_method_5_code) = true := by decide +kernel
theorem zd_41 : za_i41.all (za_dok prog_7_method_6_code) = true := by decide +kernel
theorem zd_42 : za_i42.all (za_dok prog_7_method_7_code) = true := by decide +kernel
theorem zd_43 : za_i43.all (za_dok prog_7_method_8_code) = true := by decide +kernel
theorem zd_44 : za_i44.all (za_dok prog_7_method_9_code) = true := by decide +kernel
theorem zd_45 : za_i45.all (za_dok prog_1_method_26_code) = true := by decide +kernel
theorem zd_46 : za_i46.all (za_dok prog_2_method_11_code) = true := by decide +kernel
theorem zd_47 : za_i47.all (za_dok prog_1_method_27_code) = true := by decide +kernel
theorem zd_48 : za_i48.all (za_dok method_3_code) = true := by decide +kernel
theorem zd_49 : za_i49.all (za_dok prog_1_method_4_code) = true := by decide +kernel
theorem zd_50 : za_i50.all (za_dok prog_9_method_2_code) = true := by decide +kernel
theorem zd_51 : za_i51.all (za_dok prog_2_method_2_code) = true := by decide +kernel
theorem zd_52 : za_i52.all (za_dok prog_4_method_2_code) = true := by decide +kernel
theorem zd_53 : za_i53.all (za_dok prog_11_method_2_code) = true := by decide +kernel
theorem zd_54 : za_i54.all (za_dok prog_22_method_69_code) = true := by decide +kernel
theorem zd_55 : za_i55.all (za_dok prog_11_method_3_code) = true := by decide +kernel
theorem zd_56 : za_i56.all (za_dok prog_11_method_4_code) = true := by decide +kernel
theorem zd_57 : za_i57.all (za_dok prog_11_method_6_code) = true := by decide +kernel
theorem zd_58 : za_i58.all (za_dok prog_11_method_5_code) = true := by decide +kernel
theorem zd_59 : za_i59.all (za_dok prog_11_method_7_code) = true := by decide +kernel
theorem zd_60 : za_i60.all (za_dok prog_11_method_8_code) = true := by decide +kernel
theorem zd_61 : za_i61.all (za_dok prog_9_method_5_code) = true := by decide +kernel
theorem zd_62 : za_i62.all (za_dok prog_9_method_3_code) = true := by decide +kernel
theorem zd_63 : za_i63.all (za_dok prog_9_method_6_code) = true := by decide +kernel
theorem zd_64 : za_i64.all (za_dok prog_9_method_12_code) = true := by decide +kernel
theorem zd_65 : za_i65.all (za_dok prog_9_method_9_code) = true := by decide +kernel
theorem zd_66 : za_i66.all (za_dok prog_9_method_8_code) = true := by decide +kernel
theorem zd_67 : za_i67.all (za_dok prog_21_method_50_code) = true := by decide +kernel
theorem zd_68 : za_i68.all (za_dok prog_9_method_7_code) = true := by decide +kernel
theorem zd_69 : za_i69.all (za_dok prog_9_method_13_code) = true := by decide +kernel
theorem zd_70 : za_i70.all (za_dok prog_9_method_11_code) = true := by decide +kernel
theorem zd_71 : za_i71.all (za_dok prog_9_method_14_code) = true := by decide +kernel
theorem zd_72 : za_i72.all (za_dok prog_12_method_9_code) = true := by decide +kernel
theorem zd_73 : za_i73.all (za_dok prog_9_method_10_code) = true := by decide +kernel
theorem zd_74 : za_i74.all (za_dok prog_11_method_10_code) = true := by decide +kernel
theorem zd_75 : za_i75.all (za_dok prog_12_method_8_code) = true := by decide +kernel
theorem zd_76 : za_i76.all (za_dok prog_9_method_15_code) = true := by decide +kernel
theorem zd_77 : za_i77.all (za_dok prog_2_method_3_code) = true := by decide +kernel
theorem zd_78 : za_i78.all (za_dok prog_2_method_4_code) = true := by decide +kernel
theorem zd_79 : za_i79.all (za_dok prog_9_method_16_code) = true := by decide +kernel
theorem zd_80 : za_i80.all (za_dok prog_9_method_17_code) = true := by decide +kernel
theorem zd_81 : za_i81.all (za_dok prog_9_method_18_code) = true := by decide +kernel
theorem zd_82 : za_i82.all (za_dok prog_9_method_19_code) = true := by decide +kernel
theorem zd_83 : za_i83.all (za_dok prog_9_method_20_code) = true := by decide +kernel
theorem zd_84 : za_i84.all (za_dok prog_9_method_21_code) = true := by decide +kernel
theorem zd_85 : za_i85.all (za_dok prog_4_method_6_code) = true := by decide +kernel
theorem zd_86 : za_i86.all (za_dok prog_11_method_11_code) = true := by decide +kernel
theorem zd_87 : za_i87.all (za_dok prog_4_method_3_code) = true := by decide +kernel
theorem zd_88 : za_i88.all (za_dok prog_4_method_7_code) = true := by decide +kernel
theorem zd_89 : za_i89.all (za_dok prog_4_method_8_code) = true := by decide +kernel
theorem zd_90 : za_i90.all (za_dok prog_11_method_9_code) = true := by decide +kernel
theorem zd_91 : za_i91.all (za_dok prog_4_method_9_code) = true := by decide +kernel
theorem zd_92 : za_i92.all (za_dok prog_4_method_10_code) = true := by decide +kernel
theorem zd_93 : za_i93.all (za_dok prog_4_method_11_code) = true := by decide +kernel
theorem zd_94 : za_i94.all (za_dok prog_4_method_12_code) = true := by decide +kernel
theorem zd_95 : za_i95.all (za_dok prog_4_method_4_code) = true := by decide +kernel
theorem zd_96 : za_i96.all (za_dok prog_4_method_5_code) = true := by decide +kernel
theorem zd_97 : za_i97.all (za_dok prog_9_method_4_code) = true := by decide +kernel
theorem zd_98 : za_i98.all (za_dok prog_1_method_5_code) = true := by decide +kernel
theorem zd_99 : za_i99.all (za_dok prog_3_method_2_code) = true := by decide +kernel
theorem zd_100 : za_i100.all (za_dok method_4_code) = true := by decide +kernel
theorem zd_101 : za_i101.all (za_dok prog_1_method_7_code) = true := by decide +kernel
theorem zd_102 : za_i102.all (za_dok method_5_code) = true := by decide +kernel
theorem zd_103 : za_i103.all (za_dok prog_1_method_8_code) = true := by decide +kernel
theorem zd_104 : za_i104.all (za_dok prog_1_method_30_code) = true := by decide +kernel
theorem zd_105 : za_i105.all (za_dok prog_12_method_4_code) = true := by decide +kernel
theorem zd_106 : za_i106.all (za_dok method_6_code) = true := by decide +kernel
theorem zd_107 : za_i107.all (za_dok prog_1_method_9_code) = true := by decide +kernel
theorem zd_108 : za_i108.all (za_dok prog_1_method_28_code) = true := by decide +kernel
theorem zd_109 : za_i109.all (za_dok method_7_code) = true := by decide +kernel
theorem zd_110 : za_i110.all (za_dok prog_1_method_10_code) = true := by decide +kernel
theorem zd_111 : za_i111.all (za_dok method_8_code) = true := by decide +kernel
theorem zd_112 : za_i112.all (za_dok prog_1_method_11_code) = true := by decide +kernel
theorem zd_113 : za_i113.all (za_dok prog_2_method_9_code) = true := by decide +kernel
theorem zd_114 : za_i114.all (za_dok method_9_code) = true := by decide +kernel
theorem zd_115 : za_i115.all (za_dok prog_1_method_12_code) = true := by decide +kernel
theorem zd_116 : za_i116.all (za_dok prog_2_method_8_code) = true := by decide +kernel
theorem zd_117 : za_i117.all (za_dok prog_20_method_49_code) = true := by decide +kernel
theorem zd_118 : za_i118.all (za_dok method_10_code) = true := by decide +kernel
theorem zd_119 : za_i119.all (za_dok prog_1_method_14_code) = true := by decide +kernel
theorem zd_120 : za_i120.all (za_dok method_11_code) = true := by decide +kernel
theorem zd_121 : za_i121.all (za_dok prog_1_method_15_code) = true := by decide +kernel
theorem zd_122 : za_i122.all (za_dok method_12_code) = true := by decide +kernel
theorem zd_123 : za_i123.all (za_dok prog_1_method_16_code) = true := by decide +kernel
theorem zd_124 : za_i124.all (za_dok prog_5_method_2_code) = true := by decide +kernel
theorem zd_125 : za_i125.all (za_dok prog_2_method_7_code) = true := by decide +kernel
theorem zd_126 : za_i126.all (za_dok prog_5_method_5_code) = true := by decide +kernel
theorem zd_127 : za_i127.all (za_dok prog_5_method_3_code) = true := by decide +kernel
theorem zd_128 : za_i128.all (za_dok prog_12_method_14_code) = true := by decide +kernel
theorem zd_129 : za_i129.all (za_dok prog_12_method_13_code) = true := by decide +kernel
theorem zd_130 : za_i130.all (za_dok prog_12_method_15_code) = true := by decide +kernel
theorem zd_131 : za_i131.all (za_dok prog_5_method_4_code) = true := by decide +kernel
theorem zd_132 : za_i132.all (za_dok method_13_code) = true := by decide +kernel
theorem zd_133 : za_i133.all (za_dok prog_1_method_17_code) = true := by decide +kernel
theorem zd_134 : za_i134.all (za_dok prog_1_method_29_code) = true := by decide +kernel
theorem zd_135 : za_i135.all (za_dok method_14_code) = true := by decide +kernel
theorem zd_136 : za_i136.all (za_dok prog_1_method_18_code) = true := by decide +kernel
theorem zd_137 : za_i137.all (za_dok method_15_code) = true := by decide +kernel
theorem zd_138 : za_i138.all (za_dok prog_1_method_20_code) = true := by decide +kernel
theorem zd_139 : za_i139.all (za_dok prog_3_method_3_code) = true := by decide +kernel
theorem zd_140 : za_i140.all (za_dok prog_3_method_4_code) = true := by decide +kernel
theorem zd_141 : za_i141.all (za_dok prog_3_method_6_code) = true := by decide +kernel
theorem zd_142 : za_i142.all (za_dok prog_3_method_7_code) = true := by decide +kernel
theorem zd_143 : za_i143.all (za_dok prog_12_method_12_code) = true := by decide +kernel
theorem zd_144 : za_i144.all (za_dok prog_22_method_59_code) = true := by decide +kernel
theorem zd_145 : za_i145.all (za_dok prog_22_method_65_code) = true := by decide +kernel
theorem zd_146 : za_i146.all (za_dok prog_3_method_8_code) = true := by decide +kernel
theorem zd_147 : za_i147.all (za_dok prog_20_method_48_code) = true := by decide +kernel
theorem zd_148 : za_i148.all (za_dok prog_3_method_9_code) = true := by decide +kernel
theorem zd_149 : za_i149.all (za_dok prog_3_method_10_code) = true := by decide +kernel
theorem zd_150 : za_i150.all (za_dok method_16_code) = true := by decide +kernel
theorem zd_151 : za_i151.all (za_dok prog_1_method_21_code) = true := by decide +kernel
theorem zd_152 : za_i152.all (za_dok method_17_code) = true := by decide +kernel
theorem zd_153 : za_i153.all (za_dok prog_1_method_22_code) = true := by decide +kernel
theorem zd_154 : za_i154.all (za_dok prog_3_method_5_code) = true := by decide +kernel
theorem zd_155 : za_i155.all (za_dok method_18_code) = true := by decide +kernel
theorem zd_156 : za_i156.all (za_dok prog_1_method_23_code) = true := by decide +kernel
theorem zd_157 : za_i157.all (za_dok method_19_code) = true := by decide +kernel
theorem zd_158 : za_i158.all (za_dok prog_1_method_24_code) = true := by decide +kernel
theorem zd_159 : za_i159.all (za_dok prog_6_method_2_code) = true := by decide +kernel
theorem zd_160 : za_i160.all (za_dok prog_6_method_3_code) = true := by decide +kernel
theorem zd_161 : za_i161.all (za_dok prog_12_method_16_code) = true := by decide +kernel
theorem zd_162 : za_i162.all (za_dok method_20_code) = true := by decide +kernel
theorem zd_163 : za_i163.all (za_dok prog_1_method_25_code) = true := by decide +kernel
theorem zd_164 : za_i164.all (za_dok prog_8_method_2_code) = true := by decide +kernel
theorem zd_165 : za_i165.all (za_dok prog_8_method_3_code) = true := by decide +kernel
theorem zd_166 : za_i166.all (za_dok prog_14_method_1_code) = true := by decide +kernel
theorem zd_167 : za_i167.all (za_dok prog_14_method_8_code) = true := by decide +kernel
theorem zd_168 : za_i168.all (za_dok prog_14_method_9_code) = true := by decide +kernel
theorem zd_169 : za_i169.all (za_dok prog_14_method_42_code) = true := by decide +kernel
theorem zd_170 : za_i170.all (za_dok prog_14_method_3_code) = true := by decide +kernel
theorem zd_171 : za_i171.all (za_dok prog_14_method_13_code) = true := by decide +kernel
theorem zd_172 : za_i172.all (za_dok prog_14_method_10_code) = true := by decide +kernel
theorem zd_173 : za_i173.all (za_dok prog_14_method_11_code) = true := by decide +kernel
theorem zd_174 : za_i174.all (za_dok prog_14_method_12_code) = true := by decide +kernel
theorem zd_175 : za_i175.all (za_dok prog_14_method_18_code) = true := by decide +kernel
theorem zd_176 : za_i176.all (za_dok prog_14_method_41_code) = true := by decide +kernel
theorem zd_177 : za_i177.all (za_dok prog_14_method_16_code) = true := by decide +kernel
theorem zd_178 : za_i178.all (za_dok prog_14_method_15_code) = true := by decide +kernel
theorem zd_179 : za_i179.all (za_dok prog_14_method_14_code) = true := by decide +kernel
theorem zd_180 : za_i180.all (za_dok prog_14_method_17_code) = true := by decide +kernel
theorem zd_181 : za_i181.all (za_dok prog_14_method_22_code) = true := by decide +kernel
theorem zd_182 : za_i182.all (za_dok prog_14_method_21_code) = true := by decide +kernel
theorem zd_183 : za_i183.all (za_dok prog_14_method_36_code) = true := by decide +kernel
theorem zd_184 : za_i184.all (za_dok prog_14_method_24_code) = true := by decide +kernel
theorem zd_185 : za_i185.all (za_dok prog_14_method_4_code) = true := by decide +kernel
theorem zd_186 : za_i186.all (za_dok prog_14_method_20_code) = true := by decide +kernel
theorem zd_187 : za_i187.all (za_dok prog_14_method_38_code) = true := by decide +kernel
theorem zd_188 : za_i188.all (za_dok prog_14_method_37_code) = true := by decide +kernel
theorem zd_189 : za_i189.all (za_dok prog_14_method_23_code) = true := by decide +kernel
theorem zd_190 : za_i190.all (za_dok prog_14_method_39_code) = true := by decide +kernel
theorem zd_191 : za_i191.all (za_dok prog_14_method_40_code) = true := by decide +kernel
theorem zd_192 : za_i192.all (za_dok prog_14_method_35_code) = true := by decide +kernel
theorem zd_193 : za_i193.all (za_dok prog_14_method_31_code) = true := by decide +kernel
theorem zd_194 : za_i194.all (za_dok prog_14_method_19_code) = true := by decide +kernel
theorem zd_195 : za_i195.all (za_dok prog_14_method_32_code) = true := by decide +kernel
theorem zd_196 : za_i196.all (za_dok prog_14_method_29_code) = true := by decide +kernel
theorem zd_197 : za_i197.all (za_dok prog_14_method_30_code) = true := by decide +kernel
theorem zd_198 : za_i198.all (za_dok prog_14_method_25_code) = true := by decide +kernel
theorem zd_199 : za_i199.all (za_dok prog_14_method_28_code) = true := by decide +kernel
theorem zd_200 : za_i200.all (za_dok prog_14_method_26_code) = true := by decide +kernel
theorem zd_201 : za_i201.all (za_dok prog_14_method_27_code) = true := by decide +kernel
theorem zd_202 : za_i202.all (za_dok prog_14_method_33_code) = true := by decide +kernel
theorem zd_203 : za_i203.all (za_dok prog_14_method_34_code) = true := by decide +kernel
theorem zd_204 : za_i204.all (za_dok prog_14_method_7_code) = true := by decide +kernel
theorem zd_205 : za_i205.all (za_dok prog_14_method_43_code) = true := by decide +kernel
theorem zd_206 : za_i206.all (za_dok prog_14_method_44_code) = true := by decide +kernel
theorem zd_207 : za_i207.all (za_dok prog_14_method_48_code) = true := by decide +kernel
theorem zd_208 : za_i208.all (za_dok prog_14_method_47_code) = true := by decide +kernel
theorem zd_209 : za_i209.all (za_dok prog_14_method_50_code) = true := by decide +kernel
theorem zd_210 : za_i210.all (za_dok prog_14_method_45_code) = true := by decide +kernel
theorem zd_211 : za_i211.all (za_dok prog_14_method_51_code) = true := by decide +kernel
theorem zd_212 : za_i212.all (za_dok prog_14_method_49_code) = true := by decide +kernel
theorem zd_213 : za_i213.all (za_dok prog_14_method_54_code) = true := by decide +kernel
theorem zd_214 : za_i214.all (za_dok prog_14_method_53_code) = true := by decide +kernel
theorem zd_215 : za_i215.all (za_dok prog_14_method_52_code) = true := by decide +kernel
theorem zd_216 : za_i216.all (za_dok prog_14_method_55_code) = true := by decide +kernel
theorem zd_217 : za_i217.all (za_dok prog_14_method_6_code) = true := by decide +kernel
theorem zd_218 : za_i218.all (za_dok prog_14_method_56_code) = true := by decide +kernel
theorem zd_219 : za_i219.all (za_dok prog_14_method_61_code) = true := by decide +kernel
theorem zd_220 : za_i220.all (za_dok prog_14_method_60_code) = true := by decide +kernel
theorem zd_221 : za_i221.all (za_dok prog_14_method_59_code) = true := by decide +kernel
theorem zd_222 : za_i222.all (za_dok prog_14_method_57_code) = true := by decide +kernel
theorem zd_223 : za_i223.all (za_dok prog_14_method_58_code) = true := by decide +kernel
theorem zd_224 : za_i224.all (za_dok prog_14_method_62_code) = true := by decide +kernel
theorem zd_225 : za_i225.all (za_dok prog_14_method_64_code) = true := by decide +kernel
theorem zd_226 : za_i226.all (za_dok prog_14_method_63_code) = true := by decide +kernel
theorem zd_227 : za_i227.all (za_dok prog_14_method_65_code) = true := by decide +kernel
theorem zd_228 : za_i228.all (za_dok prog_14_method_46_code) = true := by decide +kernel
theorem zd_229 : za_i229.all (za_dok prog_14_method_72_code) = true := by decide +kernel
theorem zd_230 : za_i230.all (za_dok prog_14_method_71_code) = true := by decide +kernel
theorem zd_231 : za_i231.all (za_dok prog_14_method_66_code) = true := by decide +kernel
theorem zd_232 : za_i232.all (za_dok prog_14_method_70_code) = true := by decide +kernel
theorem zd_233 : za_i233.all (za_dok prog_14_method_69_code) = true := by decide +kernel
theorem zd_234 : za_i234.all (za_dok prog_14_method_67_code) = true := by decide +kernel
theorem zd_235 : za_i235.all (za_dok prog_14_method_68_code) = true := by decide +kernel
theorem zd_236 : za_i236.all (za_dok prog_14_method_73_code) = true := by decide +kernel
theorem zd_237 : za_i237.all (za_dok prog_14_method_77_code) = true := by decide +kernel
theorem zd_238 : za_i238.all (za_dok prog_14_method_76_code) = true := by decide +kernel
theorem zd_239 : za_i239.all (za_dok prog_14_method_75_code) = true := by decide +kernel
theorem zd_240 : za_i240.all (za_dok prog_14_method_74_code) = true := by decide +kernel
theorem zd_241 : za_i241.all (za_dok prog_14_method_5_code) = true := by decide +kernel
theorem zd_242 : za_i242.all (za_dok prog_14_method_78_code) = true := by decide +kernel
theorem zd_243 : za_i243.all (za_dok prog_14_method_79_code) = true := by decide +kernel
theorem zd_244 : za_i244.all (za_dok prog_14_method_80_code) = true := by decide +kernel
theorem zd_245 : za_i245.all (za_dok prog_14_method_82_code) = true := by decide +kernel
theorem zd_246 : za_i246.all (za_dok prog_14_method_81_code) = true := by decide +kernel
theorem zd_247 : za_i247.all (za_dok prog_14_method_84_code) = true := by decide +kernel
theorem zd_248 : za_i248.all (za_dok prog_14_method_83_code) = true := by decide +kernel
theorem zd_249 : za_i249.all (za_dok prog_14_method_85_code) = true := by decide +kernel
theorem zd_250 : za_i250.all (za_dok prog_14_method_86_code) = true := by decide +kernel
