/-! ===== summaries of the reference (printed) ===== -/
/-- yX12_slate -/
def zr_e4 : zk_T := (209, [.inr (some (some 73)), .inl ((-2147483648), 2147483647), .inl ((-2147483648), 2147483647)], [], [(72, 0)], [], [(.inl (some (.inl ((-2147483648), 2147483647))), [], [])], 3)
theorem zrt_e4 : zk_chk zR zR_fz [] [] 5000 zr_e4 = true := by decide +kernel
theorem zrc_e4 {L : Nat} {σ : Nat → Int32} {gh : zp_H → Int} {J : zp_H → Prop} (hw : zk_W zR gh J zR_fz) (hh : ∀ s ∈ zr_l, zk_Ct L σ zR gh J s) : zk_Ct L σ zR gh J zr_e4 := zk_chk_ok hw (fun _ h => absurd h List.not_mem_nil) zrt_e4
/-- yX12_mark -/
def zr_e5 : zk_T := (211, [.inr (some (some 73)), .inl ((-2147483648), 2147483647), .inl ((-2147483648), 2147483647), .inl ((-2147483648), 2147483647)], [], [(72, 0)], [], [(.inl (some (.inl ((-2147483648), 2147483647))), [], [])], 3)
theorem zrt_e5 : zk_chk zR zR_fz [] [] 5000 zr_e5 = true := by decide +kernel
theorem zrc_e5 {L : Nat} {σ : Nat → Int32} {gh : zp_H → Int} {J : zp_H → Prop} (hw : zk_W zR gh J zR_fz) (hh : ∀ s ∈ zr_l, zk_Ct L σ zR gh J s) : zk_Ct L σ zR gh J zr_e5 := zk_chk_ok hw (fun _ h => absurd h List.not_mem_nil) zrt_e5
/-- yX12_beside -/
def zr_e6 : zk_T := (222, [.inr (some (some 73)), .inl (0, 63), .inl ((-2147483648), 2147483647)], [], [], [], [(.inl (some (.inl ((-1), (-1)))), [], []), (.inl (some (.inl (0, 63))), [], [])], 1)
theorem zrt_e6 : zk_chk zR zR_fz [] [] 5000 zr_e6 = true := by decide +kernel
theorem zrc_e6 {L : Nat} {σ : Nat → Int32} {gh : zp_H → Int} {J : zp_H → Prop} (hw : zk_W zR gh J zR_fz) (hh : ∀ s ∈ zr_l, zk_Ct L σ zR gh J s) : zk_Ct L σ zR gh J zr_e6 := zk_chk_ok hw (fun _ h => absurd h List.not_mem_nil) zrt_e6
/-- yX12_steps -/
def zr_e7 : zk_T := (221, [.inr (some (some 73)), .inl ((-2147483648), 2147483647), .inl ((-2147483648), 2147483647), .inl (0, 1)], [], [(72, 64), (72, 65)], [], [(.inl (some (.inl (1, 1))), [], []), (.inl (some (.inl (2, 2))), [], []), (.inl (some (.inl (0, 0))), [], []), (.inl (some (.inl (3, 3))), [], [])], 2)
theorem zrt_e7 : zk_chk zR zR_fz [zr_e6] [] 5000 zr_e7 = true := by decide +kernel
theorem zrc_e7 {L : Nat} {σ : Nat → Int32} {gh : zp_H → Int} {J : zp_H → Prop} (hw : zk_W zR gh J zR_fz) (hh : ∀ s ∈ zr_l, zk_Ct L σ zR gh J s) : zk_Ct L σ zR gh J zr_e7 := zk_chk_ok hw (List.forall_mem_cons.mpr ⟨zrc_e6 hw hh, fun _ h => absurd h List.not_mem_nil⟩) zrt_e7
