/-! ===== more summaries of the reference (printed) ===== -/
/-- yX12_isNear -/
def zr_n : zk_T := (240, [.inr (some (some 73)), .inl (0, 63), .inl (0, 63), .inl ((-2147483648), 2147483647)], [], [], [], [(.inl (some (.inl (0, 1))), [], [])], 3)
theorem zrt_n : zk_chk zR zR_fz [] [] 5000 zr_n = true := by decide +kernel
theorem zrc_n {L : Nat} {σ : Nat → Int32} {gh : zp_H → Int} {J : zp_H → Prop} (hw : zk_W zR gh J zR_fz) (hh : ∀ s ∈ zr_l, zk_Ct L σ zR gh J s) : zk_Ct L σ zR gh J zr_n := zk_chk_ok hw (fun _ h => absurd h List.not_mem_nil) zrt_n
