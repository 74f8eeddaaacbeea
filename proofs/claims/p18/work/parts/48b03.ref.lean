/-! ===== summaries of the reference (printed) ===== -/
/-- yX12_where -/
def zr_e12 : zk_T := (225, [.inr (some (some 73)), .inl ((-2147483648), 2147483647), .inl ((-2147483648), 2147483647)], [], [(72, 0), (72, 64), (72, 65)], [94, 95, 96], [(.inl (some (.inr none)), [], [])], 4)
theorem zrt_e12 : zk_chk zR zR_fz [zr_e11] [(43, [(.inl 3, 0, 99, false)], [], [], 0, true), (80, [(.inl 3, 0, 8, false)], [], [], 0, true), (113, [(.inl 5, 0, 99, false)], [], [], 0, true), (137, [(.inl 5, 0, 4, false)], [], [], 0, true), (172, [(.inl 6, 0, 99, false)], [], [], 0, true), (202, [(.inl 6, 1, 12, false)], [], [], 0, true), (298, [(.inl 5, 0, 99, false)], [], [], 0, true), (336, [(.inl 5, 0, 99, false)], [], [], 0, true), (228, [(.inl 7, 0, 99, false)], [], [], 0, true)] 5000 zr_e12 = true := by decide +kernel
theorem zrc_e12 {L : Nat} {σ : Nat → Int32} {gh : zp_H → Int} {J : zp_H → Prop} (hw : zk_W zR gh J zR_fz) (hh : ∀ s ∈ zr_l, zk_Ct L σ zR gh J s) : zk_Ct L σ zR gh J zr_e12 := zk_chk_ok hw (List.forall_mem_cons.mpr ⟨zrc_e11 hw hh, fun _ h => absurd h List.not_mem_nil⟩) zrt_e12
/-- yX12_pilot -/
def zr_e13 : zk_T := (227, [.inr (some (some 73)), .inl ((-2147483648), 2147483647), .inl ((-2147483648), 2147483647)], [], [(72, 0)], [], [(.inl (some (.inl ((-2147483648), 2147483647))), [], [])], 3)
theorem zrt_e13 : zk_chk zR zR_fz [] [] 5000 zr_e13 = true := by decide +kernel
theorem zrc_e13 {L : Nat} {σ : Nat → Int32} {gh : zp_H → Int} {J : zp_H → Prop} (hw : zk_W zR gh J zR_fz) (hh : ∀ s ∈ zr_l, zk_Ct L σ zR gh J s) : zk_Ct L σ zR gh J zr_e13 := zk_chk_ok hw (fun _ h => absurd h List.not_mem_nil) zrt_e13
/-- yX12_knownBy -/
def zr_e14 : zk_T := (231, [.inr (some (some 73)), .inl ((-2147483648), 2147483647)], [], [(72, 64), (72, 65), (72, 66), (72, 67), (72, 68), (72, 69), (72, 70), (72, 71)], [], [(.inl (some (.inr none)), [], [])], 4)
theorem zrt_e14 : zk_chk zR zR_fz [zr_e8] [(5, [(.inl 4, 0, 8, false)], [], [], 0, true)] 5000 zr_e14 = true := by decide +kernel
theorem zrc_e14 {L : Nat} {σ : Nat → Int32} {gh : zp_H → Int} {J : zp_H → Prop} (hw : zk_W zR gh J zR_fz) (hh : ∀ s ∈ zr_l, zk_Ct L σ zR gh J s) : zk_Ct L σ zR gh J zr_e14 := zk_chk_ok hw (List.forall_mem_cons.mpr ⟨zrc_e8 hw hh, fun _ h => absurd h List.not_mem_nil⟩) zrt_e14
/-- yX12_pilots -/
def zr_e15 : zk_T := (230, [.inr (some (some 73)), .inl (0, 3), .inl ((-2147483648), 2147483647)], [], [(72, 64), (72, 65), (72, 66), (72, 67), (72, 68), (72, 69), (72, 70), (72, 71)], [97], [(.inl none, [], [])], 9)
theorem zrt_e15 : zk_chk zR zR_fz [zr_h4, zr_e14, zr_e7] [(60, [(.inl 5, 0, 60, false), (.inr (72, 64), 0, 63, false), (.inr (72, 66), 0, 4, false), (.inr (72, 69), (-2147483648), 2147483647, false)], [], [], 0, true)] 5000 zr_e15 = true := by decide +kernel
theorem zrc_e15 {L : Nat} {σ : Nat → Int32} {gh : zp_H → Int} {J : zp_H → Prop} (hw : zk_W zR gh J zR_fz) (hh : ∀ s ∈ zr_l, zk_Ct L σ zR gh J s) : zk_Ct L σ zR gh J zr_e15 := zk_chk_ok hw (List.forall_mem_cons.mpr ⟨hh _ (List.mem_of_getElem? (i := 4) rfl), List.forall_mem_cons.mpr ⟨zrc_e14 hw hh, List.forall_mem_cons.mpr ⟨zrc_e7 hw hh, fun _ h => absurd h List.not_mem_nil⟩⟩⟩) zrt_e15
