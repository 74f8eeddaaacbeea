/-! ===== summaries of the reference (printed) ===== -/
/-- yX12_goes -/
def zr_e0 : zk_T := (171, [.inr (some (some 73))], [], [(72, 27), (72, 28), (72, 29), (72, 30), (72, 31), (72, 32), (72, 33), (72, 100)], [], [(.inl none, [(72, 27, 0, 700), (72, 28, 0, 0)], [(72, 27, 0)]), (.inl none, [(72, 27, 0, 700), (72, 28, 1, 4)], [(72, 27, 1)])], 2)
theorem zrt_e0 : zk_chk zR zR_fz [] [(0, [(.inr (72, 27), 0, 700, true)], [], [], 0, true), (122, [(.inr (72, 27), 0, 699, true)], [], [], 0, true), (201, [(.inr (72, 27), 0, 699, true)], [], [(72, 31)], 0, true)] 5000 zr_e0 = true := by decide +kernel
theorem zrc_e0 {L : Nat} {σ : Nat → Int32} {gh : zp_H → Int} {J : zp_H → Prop} (hw : zk_W zR gh J zR_fz) (hh : ∀ s ∈ zr_l, zk_Ct L σ zR gh J s) : zk_Ct L σ zR gh J zr_e0 := zk_chk_ok hw (fun _ h => absurd h List.not_mem_nil) zrt_e0
/-- yX12_fault -/
def zr_e1 : zk_T := (205, [.inr (some (some 73))], [], [(72, 0)], [], [(.inl (some (.inl ((-2147483648), 2147483647))), [], [])], 1)
theorem zrt_e1 : zk_chk zR zR_fz [] [] 5000 zr_e1 = true := by decide +kernel
theorem zrc_e1 {L : Nat} {σ : Nat → Int32} {gh : zp_H → Int} {J : zp_H → Prop} (hw : zk_W zR gh J zR_fz) (hh : ∀ s ∈ zr_l, zk_Ct L σ zR gh J s) : zk_Ct L σ zR gh J zr_e1 := zk_chk_ok hw (fun _ h => absurd h List.not_mem_nil) zrt_e1
/-- yX12_count -/
def zr_e2 : zk_T := (206, [.inr (some (some 73)), .inl ((-2147483648), 2147483647)], [], [(72, 0)], [], [(.inl (some (.inl ((-2147483648), 2147483647))), [], [])], 2)
theorem zrt_e2 : zk_chk zR zR_fz [] [] 5000 zr_e2 = true := by decide +kernel
theorem zrc_e2 {L : Nat} {σ : Nat → Int32} {gh : zp_H → Int} {J : zp_H → Prop} (hw : zk_W zR gh J zR_fz) (hh : ∀ s ∈ zr_l, zk_Ct L σ zR gh J s) : zk_Ct L σ zR gh J zr_e2 := zk_chk_ok hw (fun _ h => absurd h List.not_mem_nil) zrt_e2
/-- yX12_cell -/
def zr_e3 : zk_T := (207, [.inr (some (some 73)), .inl ((-2147483648), 2147483647), .inl ((-2147483648), 2147483647)], [], [(72, 0)], [], [(.inl (some (.inl ((-2147483648), 2147483647))), [], [])], 3)
theorem zrt_e3 : zk_chk zR zR_fz [] [] 5000 zr_e3 = true := by decide +kernel
theorem zrc_e3 {L : Nat} {σ : Nat → Int32} {gh : zp_H → Int} {J : zp_H → Prop} (hw : zk_W zR gh J zR_fz) (hh : ∀ s ∈ zr_l, zk_Ct L σ zR gh J s) : zk_Ct L σ zR gh J zr_e3 := zk_chk_ok hw (fun _ h => absurd h List.not_mem_nil) zrt_e3
