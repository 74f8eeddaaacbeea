/-! ===== the reference once more, without the condition on what it reads (printed from the parts above) ===== -/
theorem z0rt_fd : (List.range 36).all (fun c => zk_chk z0R zR_fz [] [] 3000 (zr_fd c)) = true := by decide +kernel
theorem z0ro_fd {L : Nat} {σ : Nat → Int32} {c : Nat} (hc : c < 36) : zk_Ct L σ z0R zg zJ (zr_fd c) := zk_chk_ok z0R_W (fun _ h => absurd h List.not_mem_nil) (List.all_eq_true.mp z0rt_fd c (List.mem_range.mpr hc))
