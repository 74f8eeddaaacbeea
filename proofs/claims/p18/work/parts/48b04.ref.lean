/-! ===== summaries of the reference (printed) ===== -/
/-- yX12_sails -/
def zr_e16 : zk_T := (229, [.inr (some (some 73)), .inl ((-2147483648), 2147483647), .inl ((-2147483648), 2147483647), .inl ((-2147483648), 2147483647)], [], [(72, 0), (72, 64), (72, 65), (72, 66), (72, 67), (72, 68), (72, 69), (72, 70), (72, 71)], [97], [(.inl (some (.inl ((-2147483648), 2147483647))), [], [])], 10)
theorem zrt_e16 : zk_chk zR zR_fz [zr_e15] [] 5000 zr_e16 = true := by decide +kernel
theorem zrc_e16 {L : Nat} {σ : Nat → Int32} {gh : zp_H → Int} {J : zp_H → Prop} (hw : zk_W zR gh J zR_fz) (hh : ∀ s ∈ zr_l, zk_Ct L σ zR gh J s) : zk_Ct L σ zR gh J zr_e16 := zk_chk_ok hw (List.forall_mem_cons.mpr ⟨zrc_e15 hw hh, fun _ h => absurd h List.not_mem_nil⟩) zrt_e16
/-- yX12_exam -/
def zr_e17 : zk_T := (236, [.inr (some (some 73))], [], [(72, 0), (72, 64), (72, 65), (72, 66), (72, 67), (72, 68), (72, 69), (72, 70), (72, 71)], [97], [(.inl (some (.inl (0, 255))), [], [])], 10)
theorem zrt_e17 : zk_chk zR zR_fz [zr_e15] [(9, [(.inl 1, 0, 255, false), (.inl 2, 0, 4, false)], [], [], 1, true)] 5000 zr_e17 = true := by decide +kernel
theorem zrc_e17 {L : Nat} {σ : Nat → Int32} {gh : zp_H → Int} {J : zp_H → Prop} (hw : zk_W zR gh J zR_fz) (hh : ∀ s ∈ zr_l, zk_Ct L σ zR gh J s) : zk_Ct L σ zR gh J zr_e17 := zk_chk_ok hw (List.forall_mem_cons.mpr ⟨zrc_e15 hw hh, fun _ h => absurd h List.not_mem_nil⟩) zrt_e17
/-- yX12_study -/
def zr_e18 : zk_T := (237, [.inr (some (some 73)), .inl ((-2147483648), 2147483647)], [], [(72, 0), (72, 64), (72, 65), (72, 66), (72, 67), (72, 68), (72, 69), (72, 70), (72, 71), (72, 79)], [97, 98, 99, 100], [(.inl (some (.inl ((-1), 8))), [], [])], 25)
theorem zrt_e18 : zk_chk zR zR_fz [zr_h5, zr_h6, zr_e8] [(17, [(.inl 2, 0, 8, false)], [], [], 0, true), (48, [(.inl 2, 0, 9, false)], [], [], 0, true)] 5000 zr_e18 = true := by decide +kernel
theorem zrc_e18 {L : Nat} {σ : Nat → Int32} {gh : zp_H → Int} {J : zp_H → Prop} (hw : zk_W zR gh J zR_fz) (hh : ∀ s ∈ zr_l, zk_Ct L σ zR gh J s) : zk_Ct L σ zR gh J zr_e18 := zk_chk_ok hw (List.forall_mem_cons.mpr ⟨hh _ (List.mem_of_getElem? (i := 5) rfl), List.forall_mem_cons.mpr ⟨hh _ (List.mem_of_getElem? (i := 6) rfl), List.forall_mem_cons.mpr ⟨zrc_e8 hw hh, fun _ h => absurd h List.not_mem_nil⟩⟩⟩) zrt_e18
/-- yX12_studied -/
def zr_e19 : zk_T := (242, [.inr (some (some 73)), .inl ((-2147483648), 2147483647)], [], [(72, 0)], [], [(.inl (some (.inl ((-2147483648), 2147483647))), [], [])], 2)
theorem zrt_e19 : zk_chk zR zR_fz [] [] 5000 zr_e19 = true := by decide +kernel
theorem zrc_e19 {L : Nat} {σ : Nat → Int32} {gh : zp_H → Int} {J : zp_H → Prop} (hw : zk_W zR gh J zR_fz) (hh : ∀ s ∈ zr_l, zk_Ct L σ zR gh J s) : zk_Ct L σ zR gh J zr_e19 := zk_chk_ok hw (fun _ h => absurd h List.not_mem_nil) zrt_e19
