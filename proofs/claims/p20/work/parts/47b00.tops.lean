/-! ===== the class's calls (printed) ===== -/
/-- yL_count -/
def ze_t0 : zk_T := (100, [.inr (some (some 1)), .inl ((-2147483648), 2147483647), .inr (some (some 105))], [], [], [104], [(.inl (some (.inl (0, 1))), [], [])], 3)
theorem zt_t0 : zk_chk (zB_c 0) zB_fz [] [] 5000 ze_t0 = true := by decide +kernel
theorem zc_t0 {L : Nat} {σ : Nat → Int32} {gh : zp_H → Int} {J : zp_H → Prop} (hw : zk_W zB gh J zB_fz) (hh : ∀ s ∈ zh_l, zk_Ct L σ zB gh J s) : zk_Ct L σ (zB_c 0) gh J ze_t0 := zk_chk_ok (zB_cw hw) (fun _ h => absurd h List.not_mem_nil) zt_t0
/-- yL_cell -/
def ze_t1 : zk_T := (102, [.inr (some (some 1)), .inl ((-2147483648), 2147483647), .inl ((-2147483648), 2147483647), .inr (some (some 105))], [], [], [104], [(.inl (some (.inl (0, 1))), [], [])], 3)
theorem zt_t1 : zk_chk (zB_c 0) zB_fz [] [] 5000 ze_t1 = true := by decide +kernel
theorem zc_t1 {L : Nat} {σ : Nat → Int32} {gh : zp_H → Int} {J : zp_H → Prop} (hw : zk_W zB gh J zB_fz) (hh : ∀ s ∈ zh_l, zk_Ct L σ zB gh J s) : zk_Ct L σ (zB_c 0) gh J ze_t1 := zk_chk_ok (zB_cw hw) (fun _ h => absurd h List.not_mem_nil) zt_t1
/-- yL_slate -/
def ze_t2 : zk_T := (106, [.inr (some (some 1)), .inl ((-2147483648), 2147483647), .inl ((-2147483648), 2147483647), .inr (some (some 105))], [], [], [104], [(.inl (some (.inl (0, 1))), [], [])], 3)
theorem zt_t2 : zk_chk (zB_c 0) zB_fz [] [] 5000 ze_t2 = true := by decide +kernel
theorem zc_t2 {L : Nat} {σ : Nat → Int32} {gh : zp_H → Int} {J : zp_H → Prop} (hw : zk_W zB gh J zB_fz) (hh : ∀ s ∈ zh_l, zk_Ct L σ zB gh J s) : zk_Ct L σ (zB_c 0) gh J ze_t2 := zk_chk_ok (zB_cw hw) (fun _ h => absurd h List.not_mem_nil) zt_t2
/-- yL_mark -/
def ze_t3 : zk_T := (109, [.inr (some (some 1)), .inl ((-2147483648), 2147483647), .inl ((-2147483648), 2147483647), .inl ((-2147483648), 2147483647), .inr (some (some 105))], [], [], [104], [(.inl (some (.inl (0, 1))), [], [])], 3)
theorem zt_t3 : zk_chk (zB_c 0) zB_fz [] [] 5000 ze_t3 = true := by decide +kernel
theorem zc_t3 {L : Nat} {σ : Nat → Int32} {gh : zp_H → Int} {J : zp_H → Prop} (hw : zk_W zB gh J zB_fz) (hh : ∀ s ∈ zh_l, zk_Ct L σ zB gh J s) : zk_Ct L σ (zB_c 0) gh J ze_t3 := zk_chk_ok (zB_cw hw) (fun _ h => absurd h List.not_mem_nil) zt_t3
/-- yL_write -/
def ze_t4 : zk_T := (111, [.inr (some (some 1)), .inl ((-2147483648), 2147483647), .inl ((-2147483648), 2147483647), .inl ((-2147483648), 2147483647), .inr (some (some 105))], [], [(0, 4), (13, 7)], [16, 18, 19, 20, 21, 104], [(.inl (some (.inl (0, 1))), [], [])], 3)
theorem zt_t4 : zk_chk (zB_c 0) zB_fz [] [] 5000 ze_t4 = true := by decide +kernel
theorem zc_t4 {L : Nat} {σ : Nat → Int32} {gh : zp_H → Int} {J : zp_H → Prop} (hw : zk_W zB gh J zB_fz) (hh : ∀ s ∈ zh_l, zk_Ct L σ zB gh J s) : zk_Ct L σ (zB_c 0) gh J ze_t4 := zk_chk_ok (zB_cw hw) (fun _ h => absurd h List.not_mem_nil) zt_t4
/-- yL_rub -/
def ze_t5 : zk_T := (114, [.inr (some (some 1)), .inl ((-2147483648), 2147483647), .inl ((-2147483648), 2147483647), .inl ((-2147483648), 2147483647), .inr (some (some 105))], [], [(0, 4), (13, 7)], [17, 20, 21, 104], [(.inl (some (.inl (0, 1))), [], [])], 3)
theorem zt_t5 : zk_chk (zB_c 0) zB_fz [ze_e0] [] 5000 ze_t5 = true := by decide +kernel
theorem zc_t5 {L : Nat} {σ : Nat → Int32} {gh : zp_H → Int} {J : zp_H → Prop} (hw : zk_W zB gh J zB_fz) (hh : ∀ s ∈ zh_l, zk_Ct L σ zB gh J s) : zk_Ct L σ (zB_c 0) gh J ze_t5 := zk_chk_ok (zB_cw hw) (List.forall_mem_cons.mpr ⟨zB_ct (zc_e0 hw hh), fun _ h => absurd h List.not_mem_nil⟩) zt_t5
/-- yL_voyage -/
def ze_t6 : zk_T := (118, [.inr (some (some 1)), .inl ((-2147483648), 2147483647), .inl ((-2147483648), 2147483647), .inr (some (some 105))], [], [(54, 0), (54, 1), (54, 2), (54, 3), (54, 4), (54, 5), (54, 6), (54, 7)], [104], [(.inl (some (.inl (0, 1))), [], [])], 7)
theorem zt_t6 : zk_chk (zB_c 0) zB_fz [ze_e2] [] 5000 ze_t6 = true := by decide +kernel
theorem zc_t6 {L : Nat} {σ : Nat → Int32} {gh : zp_H → Int} {J : zp_H → Prop} (hw : zk_W zB gh J zB_fz) (hh : ∀ s ∈ zh_l, zk_Ct L σ zB gh J s) : zk_Ct L σ (zB_c 0) gh J ze_t6 := zk_chk_ok (zB_cw hw) (List.forall_mem_cons.mpr ⟨zB_ct (zc_e2 hw hh), fun _ h => absurd h List.not_mem_nil⟩) zt_t6
/-- yL_explained -/
def ze_t7 : zk_T := (120, [.inr (some (some 1)), .inl ((-2147483648), 2147483647), .inr (some (some 105))], [], [(54, 0), (54, 1), (54, 2), (54, 3), (54, 4), (54, 5), (54, 6), (54, 7)], [104], [(.inl (some (.inl (0, 1))), [], [])], 7)
theorem zt_t7 : zk_chk (zB_c 0) zB_fz [ze_e1, ze_e2] [] 5000 ze_t7 = true := by decide +kernel
theorem zc_t7 {L : Nat} {σ : Nat → Int32} {gh : zp_H → Int} {J : zp_H → Prop} (hw : zk_W zB gh J zB_fz) (hh : ∀ s ∈ zh_l, zk_Ct L σ zB gh J s) : zk_Ct L σ (zB_c 0) gh J ze_t7 := zk_chk_ok (zB_cw hw) (List.forall_mem_cons.mpr ⟨zB_ct (zc_e1 hw hh), List.forall_mem_cons.mpr ⟨zB_ct (zc_e2 hw hh), fun _ h => absurd h List.not_mem_nil⟩⟩) zt_t7
/-- yL_where -/
def ze_t8 : zk_T := (122, [.inr (some (some 1)), .inl ((-2147483648), 2147483647), .inl ((-2147483648), 2147483647), .inr (some (some 105))], [], [(55, 0), (55, 1)], [104], [(.inl (some (.inl (0, 1))), [], [])], 8)
theorem zt_t8 : zk_chk (zB_c 0) zB_fz [ze_e6] [] 5000 ze_t8 = true := by decide +kernel
theorem zc_t8 {L : Nat} {σ : Nat → Int32} {gh : zp_H → Int} {J : zp_H → Prop} (hw : zk_W zB gh J zB_fz) (hh : ∀ s ∈ zh_l, zk_Ct L σ zB gh J s) : zk_Ct L σ (zB_c 0) gh J ze_t8 := zk_chk_ok (zB_cw hw) (List.forall_mem_cons.mpr ⟨zB_ct (zc_e6 hw hh), fun _ h => absurd h List.not_mem_nil⟩) zt_t8
/-- yL_pilot -/
def ze_t9 : zk_T := (132, [.inr (some (some 1)), .inl ((-2147483648), 2147483647), .inl ((-2147483648), 2147483647), .inr (some (some 105))], [], [], [104], [(.inl (some (.inl (0, 1))), [], [])], 3)
theorem zt_t9 : zk_chk (zB_c 0) zB_fz [] [] 5000 ze_t9 = true := by decide +kernel
theorem zc_t9 {L : Nat} {σ : Nat → Int32} {gh : zp_H → Int} {J : zp_H → Prop} (hw : zk_W zB gh J zB_fz) (hh : ∀ s ∈ zh_l, zk_Ct L σ zB gh J s) : zk_Ct L σ (zB_c 0) gh J ze_t9 := zk_chk_ok (zB_cw hw) (fun _ h => absurd h List.not_mem_nil) zt_t9
/-- yL_sails -/
def ze_t10 : zk_T := (135, [.inr (some (some 1)), .inl ((-2147483648), 2147483647), .inl ((-2147483648), 2147483647), .inl ((-2147483648), 2147483647), .inr (some (some 105))], [], [(54, 0), (54, 1), (54, 2), (54, 3), (54, 4), (54, 5), (54, 6), (54, 7), (56, 2), (57, 0), (57, 1), (57, 2), (57, 3), (57, 4), (57, 7)], [58, 59, 104], [(.inl (some (.inl (0, 2))), [], [])], 8)
theorem zt_t10 : zk_chk (zB_c 0) zB_fz [ze_e11, ze_e7] [] 5000 ze_t10 = true := by decide +kernel
theorem zc_t10 {L : Nat} {σ : Nat → Int32} {gh : zp_H → Int} {J : zp_H → Prop} (hw : zk_W zB gh J zB_fz) (hh : ∀ s ∈ zh_l, zk_Ct L σ zB gh J s) : zk_Ct L σ (zB_c 0) gh J ze_t10 := zk_chk_ok (zB_cw hw) (List.forall_mem_cons.mpr ⟨zB_ct (zc_e11 hw hh), List.forall_mem_cons.mpr ⟨zB_ct (zc_e7 hw hh), fun _ h => absurd h List.not_mem_nil⟩⟩) zt_t10
/-- yL_study -/
def ze_t11 : zk_T := (137, [.inr (some (some 1)), .inl ((-2147483648), 2147483647), .inr (some (some 105))], [], [(54, 0), (54, 1), (54, 2), (54, 3), (54, 4), (54, 5), (54, 6), (54, 7), (56, 2), (57, 0), (57, 1), (57, 2), (57, 3), (57, 4), (57, 7), (60, 0), (60, 6), (60, 11)], [58, 59, 61, 62, 63, 64, 65, 66, 67, 68, 69, 104], [(.inl (some (.inl (0, 1))), [], [])], 8)
theorem zt_t11 : zk_chk (zB_c 0) zB_fz [ze_e13, ze_e19] [] 5000 ze_t11 = true := by decide +kernel
theorem zc_t11 {L : Nat} {σ : Nat → Int32} {gh : zp_H → Int} {J : zp_H → Prop} (hw : zk_W zB gh J zB_fz) (hh : ∀ s ∈ zh_l, zk_Ct L σ zB gh J s) : zk_Ct L σ (zB_c 0) gh J ze_t11 := zk_chk_ok (zB_cw hw) (List.forall_mem_cons.mpr ⟨zB_ct (zc_e13 hw hh), List.forall_mem_cons.mpr ⟨zB_ct (zc_e19 hw hh), fun _ h => absurd h List.not_mem_nil⟩⟩) zt_t11
/-- yL_studied -/
def ze_t12 : zk_T := (150, [.inr (some (some 1)), .inl ((-2147483648), 2147483647), .inr (some (some 105))], [], [], [104], [(.inl (some (.inl (0, 1))), [], [])], 2)
theorem zt_t12 : zk_chk (zB_c 0) zB_fz [] [] 5000 ze_t12 = true := by decide +kernel
theorem zc_t12 {L : Nat} {σ : Nat → Int32} {gh : zp_H → Int} {J : zp_H → Prop} (hw : zk_W zB gh J zB_fz) (hh : ∀ s ∈ zh_l, zk_Ct L σ zB gh J s) : zk_Ct L σ (zB_c 0) gh J ze_t12 := zk_chk_ok (zB_cw hw) (fun _ h => absurd h List.not_mem_nil) zt_t12
/-- yX11_dive -/
def ze_t13 : zk_T := (153, [.inr (some (some 1)), .inl ((-2147483648), 2147483647), .inl ((-2147483648), 2147483647)], [], [(54, 0), (54, 1), (54, 2), (54, 3), (54, 4), (54, 5), (54, 6), (54, 7), (60, 0)], [61, 62, 63, 64], [(.inr 0, [], []), (.inr 1, [], []), (.inl (some (.inl (0, 2147483647))), [], [])], 7)
theorem zt_t13 : zk_chk (zB_c 0) zB_fz [ze_e13, ze_e20] [(53, [(.inl 3, 0, 63, false), (.inl 4, 0, 2147483647, false), (.inl 5, 0, 64, false)], [], [], 2, true)] 5000 ze_t13 = true := by decide +kernel
theorem zc_t13 {L : Nat} {σ : Nat → Int32} {gh : zp_H → Int} {J : zp_H → Prop} (hw : zk_W zB gh J zB_fz) (hh : ∀ s ∈ zh_l, zk_Ct L σ zB gh J s) : zk_Ct L σ (zB_c 0) gh J ze_t13 := zk_chk_ok (zB_cw hw) (List.forall_mem_cons.mpr ⟨zB_ct (zc_e13 hw hh), List.forall_mem_cons.mpr ⟨zB_ct (zc_e20 hw hh), fun _ h => absurd h List.not_mem_nil⟩⟩) zt_t13
/-- yL_dive -/
def ze_t14 : zk_T := (152, [.inr (some (some 1)), .inl ((-2147483648), 2147483647), .inl ((-2147483648), 2147483647), .inr (some (some 105))], [], [(54, 0), (54, 1), (54, 2), (54, 3), (54, 4), (54, 5), (54, 6), (54, 7), (60, 0)], [61, 62, 63, 64, 104], [(.inl (some (.inl (0, 2))), [], [])], 8)
theorem zt_t14 : zk_chk (zB_c 0) zB_fz [ze_t13] [] 5000 ze_t14 = true := by decide +kernel
theorem zc_t14 {L : Nat} {σ : Nat → Int32} {gh : zp_H → Int} {J : zp_H → Prop} (hw : zk_W zB gh J zB_fz) (hh : ∀ s ∈ zh_l, zk_Ct L σ zB gh J s) : zk_Ct L σ (zB_c 0) gh J ze_t14 := zk_chk_ok (zB_cw hw) (List.forall_mem_cons.mpr ⟨zc_t13 hw hh, fun _ h => absurd h List.not_mem_nil⟩) zt_t14
/-- yX11_chart -/
def ze_t15 : zk_T := (156, [.inr (some (some 1)), .inl ((-2147483648), 2147483647)], [], [(54, 0), (54, 1), (54, 2), (54, 3), (54, 4), (54, 5), (54, 6), (54, 7)], [], [(.inr 0, [], []), (.inl (some (.inr none)), [], [])], 6)
theorem zt_t15 : zk_chk (zB_c 0) zB_fz [ze_e2] [(13, [(.inl 6, 0, 8, false)], [], [], 0, true)] 5000 ze_t15 = true := by decide +kernel
theorem zc_t15 {L : Nat} {σ : Nat → Int32} {gh : zp_H → Int} {J : zp_H → Prop} (hw : zk_W zB gh J zB_fz) (hh : ∀ s ∈ zh_l, zk_Ct L σ zB gh J s) : zk_Ct L σ (zB_c 0) gh J ze_t15 := zk_chk_ok (zB_cw hw) (List.forall_mem_cons.mpr ⟨zB_ct (zc_e2 hw hh), fun _ h => absurd h List.not_mem_nil⟩) zt_t15
/-- yL_chart -/
def ze_t16 : zk_T := (155, [.inr (some (some 1)), .inl ((-2147483648), 2147483647), .inr (some (some 105))], [], [(54, 0), (54, 1), (54, 2), (54, 3), (54, 4), (54, 5), (54, 6), (54, 7)], [104], [(.inl (some (.inl (0, 1))), [], [])], 7)
theorem zt_t16 : zk_chk (zB_c 0) zB_fz [ze_t15] [] 5000 ze_t16 = true := by decide +kernel
theorem zc_t16 {L : Nat} {σ : Nat → Int32} {gh : zp_H → Int} {J : zp_H → Prop} (hw : zk_W zB gh J zB_fz) (hh : ∀ s ∈ zh_l, zk_Ct L σ zB gh J s) : zk_Ct L σ (zB_c 0) gh J ze_t16 := zk_chk_ok (zB_cw hw) (List.forall_mem_cons.mpr ⟨zc_t15 hw hh, fun _ h => absurd h List.not_mem_nil⟩) zt_t16
/-- yL_hand -/
def ze_t17 : zk_T := (157, [.inr (some (some 1)), .inl ((-2147483648), 2147483647), .inl ((-2147483648), 2147483647), .inr (some (some 105))], [], [(70, 0), (70, 1), (70, 2), (70, 3)], [104], [(.inl (some (.inl (0, 1))), [], [])], 5)
theorem zt_t17 : zk_chk (zB_c 0) zB_fz [ze_e22] [] 5000 ze_t17 = true := by decide +kernel
theorem zc_t17 {L : Nat} {σ : Nat → Int32} {gh : zp_H → Int} {J : zp_H → Prop} (hw : zk_W zB gh J zB_fz) (hh : ∀ s ∈ zh_l, zk_Ct L σ zB gh J s) : zk_Ct L σ (zB_c 0) gh J ze_t17 := zk_chk_ok (zB_cw hw) (List.forall_mem_cons.mpr ⟨zB_ct (zc_e22 hw hh), fun _ h => absurd h List.not_mem_nil⟩) zt_t17
/-- yL_copied -/
def ze_t18 : zk_T := (162, [.inr (some (some 1)), .inl ((-2147483648), 2147483647), .inl ((-2147483648), 2147483647), .inl ((-2147483648), 2147483647), .inr (some (some 105))], [], [(71, 0), (71, 1), (71, 2)], [104], [(.inl (some (.inl (0, 2))), [], [])], 5)
theorem zt_t18 : zk_chk (zB_c 0) zB_fz [ze_e23] [] 5000 ze_t18 = true := by decide +kernel
theorem zc_t18 {L : Nat} {σ : Nat → Int32} {gh : zp_H → Int} {J : zp_H → Prop} (hw : zk_W zB gh J zB_fz) (hh : ∀ s ∈ zh_l, zk_Ct L σ zB gh J s) : zk_Ct L σ (zB_c 0) gh J ze_t18 := zk_chk_ok (zB_cw hw) (List.forall_mem_cons.mpr ⟨zB_ct (zc_e23 hw hh), fun _ h => absurd h List.not_mem_nil⟩) zt_t18
/-- yX11_fault -/
def ze_t19 : zk_T := (19, [.inr (some (some 1))], [], [], [], [(.inl (some (.inl ((-2147483648), 2147483647))), [], [])], 1)
theorem zt_t19 : zk_chk (zB_c 0) zB_fz [] [] 5000 ze_t19 = true := by decide +kernel
theorem zc_t19 {L : Nat} {σ : Nat → Int32} {gh : zp_H → Int} {J : zp_H → Prop} (hw : zk_W zB gh J zB_fz) (hh : ∀ s ∈ zh_l, zk_Ct L σ zB gh J s) : zk_Ct L σ (zB_c 0) gh J ze_t19 := zk_chk_ok (zB_cw hw) (fun _ h => absurd h List.not_mem_nil) zt_t19
/-- yX11_undo -/
def ze_t20 : zk_T := (20, [.inr (some (some 1))], [], [(13, 7)], [16, 17], [(.inl (some (.inl ((-1), 29))), [], [])], 2)
theorem zt_t20 : zk_chk (zB_c 0) zB_fz [] [] 5000 ze_t20 = true := by decide +kernel
theorem zc_t20 {L : Nat} {σ : Nat → Int32} {gh : zp_H → Int} {J : zp_H → Prop} (hw : zk_W zB gh J zB_fz) (hh : ∀ s ∈ zh_l, zk_Ct L σ zB gh J s) : zk_Ct L σ (zB_c 0) gh J ze_t20 := zk_chk_ok (zB_cw hw) (fun _ h => absurd h List.not_mem_nil) zt_t20
/-- yX11_exam -/
def ze_t21 : zk_T := (22, [.inr (some (some 1))], [], [(54, 0), (54, 1), (54, 2), (54, 3), (54, 4), (54, 5), (54, 6), (54, 7), (56, 2), (57, 0), (57, 1), (57, 2), (57, 3), (57, 4), (57, 7)], [58, 59], [(.inl (some (.inl (0, 255))), [], [])], 7)
theorem zt_t21 : zk_chk (zB_c 0) zB_fz [ze_e11, ze_e7] [(4, [(.inl 1, 0, 255, false), (.inl 2, 0, 4, false)], [], [], 1, true)] 5000 ze_t21 = true := by decide +kernel
theorem zc_t21 {L : Nat} {σ : Nat → Int32} {gh : zp_H → Int} {J : zp_H → Prop} (hw : zk_W zB gh J zB_fz) (hh : ∀ s ∈ zh_l, zk_Ct L σ zB gh J s) : zk_Ct L σ (zB_c 0) gh J ze_t21 := zk_chk_ok (zB_cw hw) (List.forall_mem_cons.mpr ⟨zB_ct (zc_e11 hw hh), List.forall_mem_cons.mpr ⟨zB_ct (zc_e7 hw hh), fun _ h => absurd h List.not_mem_nil⟩⟩) zt_t21
/-- yX11_image -/
def ze_t22 : zk_T := (45, [.inr (some (some 1))], [], [(0, 10), (42, 0), (42, 7)], [43, 44, 45, 46, 47, 48, 49, 50], [(.inl none, [], [])], 2)
theorem zt_t22 : zk_chk (zB_c 0) zB_fz [] [] 5000 ze_t22 = true := by decide +kernel
theorem zc_t22 {L : Nat} {σ : Nat → Int32} {gh : zp_H → Int} {J : zp_H → Prop} (hw : zk_W zB gh J zB_fz) (hh : ∀ s ∈ zh_l, zk_Ct L σ zB gh J s) : zk_Ct L σ (zB_c 0) gh J ze_t22 := zk_chk_ok (zB_cw hw) (fun _ h => absurd h List.not_mem_nil) zt_t22
/-- yX11_restore -/
def ze_t23 : zk_T := (47, [.inr (some (some 1))], [], [(13, 0), (13, 7)], [14, 15, 16, 17, 18, 19, 20, 21], [(.inl (some (.inl (1, 1))), [], []), (.inl (some (.inl (0, 0))), [], [])], 2)
theorem zt_t23 : zk_chk (zB_c 0) zB_fz [] [] 5000 ze_t23 = true := by decide +kernel
theorem zc_t23 {L : Nat} {σ : Nat → Int32} {gh : zp_H → Int} {J : zp_H → Prop} (hw : zk_W zB gh J zB_fz) (hh : ∀ s ∈ zh_l, zk_Ct L σ zB gh J s) : zk_Ct L σ (zB_c 0) gh J ze_t23 := zk_chk_ok (zB_cw hw) (fun _ h => absurd h List.not_mem_nil) zt_t23
