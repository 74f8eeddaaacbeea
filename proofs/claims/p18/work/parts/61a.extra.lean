/-! ===== more summaries of the reference (printed) ===== -/
/-- yX12_valueOf -/
def zr_v : zk_T := (234, [.inr (some (some 73)), .inl ((-2147483648), 2147483647), .inl (0, 63), .inl ((-2147483648), 2147483647), .inr none], [], [], [], [(.inl (some (.inl ((-2147483648), 2147483647))), [], [])], 4)
theorem zrt_v : zk_chk zR zR_fz [zr_e6] [] 5000 zr_v = true := by decide +kernel
theorem zrc_v {L : Nat} {σ : Nat → Int32} {gh : zp_H → Int} {J : zp_H → Prop} (hw : zk_W zR gh J zR_fz) (hh : ∀ s ∈ zr_l, zk_Ct L σ zR gh J s) : zk_Ct L σ zR gh J zr_v := zk_chk_ok hw (List.forall_mem_cons.mpr ⟨zrc_e6 hw hh, fun _ h => absurd h List.not_mem_nil⟩) zrt_v
/-- yX12_works -/
def zr_w : zk_T := (235, [.inl ((-2147483648), 2147483647), .inl ((-2147483648), 2147483647), .inl ((-2147483648), 2147483647)], [], [], [], [(.inl (some (.inl ((-2147483648), 2147483647))), [], [])], 1)
theorem zrt_w : zk_chk zR zR_fz [] [] 5000 zr_w = true := by decide +kernel
theorem zrc_w {L : Nat} {σ : Nat → Int32} {gh : zp_H → Int} {J : zp_H → Prop} (hw : zk_W zR gh J zR_fz) (hh : ∀ s ∈ zr_l, zk_Ct L σ zR gh J s) : zk_Ct L σ zR gh J zr_w := zk_chk_ok hw (fun _ h => absurd h List.not_mem_nil) zrt_w
