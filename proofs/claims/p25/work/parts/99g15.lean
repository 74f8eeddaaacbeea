/-! ===== whether there is an image ===== -/
def ze_i0 : zk_T := (45, [.inr (some (some 1))], [], [(0, 10), (42, 0), (42, 7)], [43, 44, 45, 46, 47, 48, 49, 50], [(.inl none, [(0, 10, 1, 1)], [])], 2)
theorem zt_i0 : zk_chk (zB_c 0) zB_fz [] [] 5000 ze_i0 = true := by decide +kernel
theorem zc_i0 {L : Nat} {σ : Nat → Int32} : zk_Ct L σ (zB_c 0) zg zJc ze_i0 := zk_chk_ok (zB_cw zB_W) (fun _ h => absurd h List.not_mem_nil) zt_i0
def ze_r00 : zk_T := (47, [.inr (some (some 1))], [(0, 10, 0, 0)], [(13, 0), (13, 7)], [14, 15, 16, 17, 18, 19, 20, 21], [(.inl (some (.inl (0, 0))), [], [])], 2)
theorem zt_r00 : zk_chk (zB_c 0) zB_fz [] [] 5000 ze_r00 = true := by decide +kernel
theorem zc_r00 {L : Nat} {σ : Nat → Int32} : zk_Ct L σ (zB_c 0) zg zJc ze_r00 := zk_chk_ok (zB_cw zB_W) (fun _ h => absurd h List.not_mem_nil) zt_r00
def ze_r01 : zk_T := (47, [.inr (some (some 1))], [(0, 10, 1, 1)], [(13, 0), (13, 7)], [14, 15, 16, 17, 18, 19, 20, 21], [(.inl (some (.inl (1, 1))), [], [])], 2)
theorem zt_r01 : zk_chk (zB_c 0) zB_fz [] [] 5000 ze_r01 = true := by decide +kernel
theorem zc_r01 {L : Nat} {σ : Nat → Int32} : zk_Ct L σ (zB_c 0) zg zJc ze_r01 := zk_chk_ok (zB_cw zB_W) (fun _ h => absurd h List.not_mem_nil) zt_r01
def ze_i1 : zk_T := (45, [.inr (some (some 1))], [], [(0, 10), (42, 0), (42, 7)], [43, 44, 45, 46, 47, 48, 49, 50], [(.inl none, [(0, 10, 1, 1)], [])], 2)
theorem zt_i1 : zk_chk (zB_c 1) zB_fz [] [] 5000 ze_i1 = true := by decide +kernel
theorem zc_i1 {L : Nat} {σ : Nat → Int32} : zk_Ct L σ (zB_c 1) zg zJc ze_i1 := zk_chk_ok (zB_cw zB_W) (fun _ h => absurd h List.not_mem_nil) zt_i1
def ze_r10 : zk_T := (47, [.inr (some (some 1))], [(0, 10, 0, 0)], [(33, 0), (33, 7)], [34, 35, 36, 37, 38, 39, 40, 41], [(.inl (some (.inl (0, 0))), [], [])], 2)
theorem zt_r10 : zk_chk (zB_c 1) zB_fz [] [] 5000 ze_r10 = true := by decide +kernel
theorem zc_r10 {L : Nat} {σ : Nat → Int32} : zk_Ct L σ (zB_c 1) zg zJc ze_r10 := zk_chk_ok (zB_cw zB_W) (fun _ h => absurd h List.not_mem_nil) zt_r10
def ze_r11 : zk_T := (47, [.inr (some (some 1))], [(0, 10, 1, 1)], [(33, 0), (33, 7)], [34, 35, 36, 37, 38, 39, 40, 41], [(.inl (some (.inl (1, 1))), [], [])], 2)
theorem zt_r11 : zk_chk (zB_c 1) zB_fz [] [] 5000 ze_r11 = true := by decide +kernel
theorem zc_r11 {L : Nat} {σ : Nat → Int32} : zk_Ct L σ (zB_c 1) zg zJc ze_r11 := zk_chk_ok (zB_cw zB_W) (fun _ h => absurd h List.not_mem_nil) zt_r11
def ze_i2 : zk_T := (45, [.inr (some (some 1))], [], [(0, 10), (42, 0), (42, 7)], [43, 44, 45, 46, 47, 48, 49, 50], [(.inl none, [(0, 10, 1, 1)], [])], 2)
theorem zt_i2 : zk_chk (zB_c 2) zB_fz [] [] 5000 ze_i2 = true := by decide +kernel
theorem zc_i2 {L : Nat} {σ : Nat → Int32} : zk_Ct L σ (zB_c 2) zg zJc ze_i2 := zk_chk_ok (zB_cw zB_W) (fun _ h => absurd h List.not_mem_nil) zt_i2
def ze_r20 : zk_T := (47, [.inr (some (some 1))], [(0, 10, 0, 0)], [(13, 0), (13, 7)], [14, 15, 16, 17, 18, 19, 20, 21], [(.inl (some (.inl (0, 0))), [], [])], 2)
theorem zt_r20 : zk_chk (zB_c 2) zB_fz [] [] 5000 ze_r20 = true := by decide +kernel
theorem zc_r20 {L : Nat} {σ : Nat → Int32} : zk_Ct L σ (zB_c 2) zg zJc ze_r20 := zk_chk_ok (zB_cw zB_W) (fun _ h => absurd h List.not_mem_nil) zt_r20
def ze_r21 : zk_T := (47, [.inr (some (some 1))], [(0, 10, 1, 1)], [(13, 0), (13, 7)], [14, 15, 16, 17, 18, 19, 20, 21], [(.inl (some (.inl (1, 1))), [], [])], 2)
theorem zt_r21 : zk_chk (zB_c 2) zB_fz [] [] 5000 ze_r21 = true := by decide +kernel
theorem zc_r21 {L : Nat} {σ : Nat → Int32} : zk_Ct L σ (zB_c 2) zg zJc ze_r21 := zk_chk_ok (zB_cw zB_W) (fun _ h => absurd h List.not_mem_nil) zt_r21
def ze_i3 : zk_T := (45, [.inr (some (some 1))], [], [(0, 10), (42, 0), (42, 7)], [43, 44, 45, 46, 47, 48, 49, 50], [(.inl none, [(0, 10, 1, 1)], [])], 2)
theorem zt_i3 : zk_chk (zB_c 3) zB_fz [] [] 5000 ze_i3 = true := by decide +kernel
theorem zc_i3 {L : Nat} {σ : Nat → Int32} : zk_Ct L σ (zB_c 3) zg zJc ze_i3 := zk_chk_ok (zB_cw zB_W) (fun _ h => absurd h List.not_mem_nil) zt_i3
def ze_r30 : zk_T := (47, [.inr (some (some 1))], [(0, 10, 0, 0)], [(33, 0), (33, 7)], [34, 35, 36, 37, 38, 39, 40, 41], [(.inl (some (.inl (0, 0))), [], [])], 2)
theorem zt_r30 : zk_chk (zB_c 3) zB_fz [] [] 5000 ze_r30 = true := by decide +kernel
theorem zc_r30 {L : Nat} {σ : Nat → Int32} : zk_Ct L σ (zB_c 3) zg zJc ze_r30 := zk_chk_ok (zB_cw zB_W) (fun _ h => absurd h List.not_mem_nil) zt_r30
def ze_r31 : zk_T := (47, [.inr (some (some 1))], [(0, 10, 1, 1)], [(33, 0), (33, 7)], [34, 35, 36, 37, 38, 39, 40, 41], [(.inl (some (.inl (1, 1))), [], [])], 2)
theorem zt_r31 : zk_chk (zB_c 3) zB_fz [] [] 5000 ze_r31 = true := by decide +kernel
theorem zc_r31 {L : Nat} {σ : Nat → Int32} : zk_Ct L σ (zB_c 3) zg zJc ze_r31 := zk_chk_ok (zB_cw zB_W) (fun _ h => absurd h List.not_mem_nil) zt_r31
theorem yd_imc {L : Nat} {σ : Nat → Int32} {d c : Nat} {H : zp_H} (hc : c < 4) (hB : zk_Bs (zB_c c) zg zJc H) : ∃ X, zp_Call L σ (d + 2) 45 [.inr (.inr (some 1))] H X ∧ zk_Fr zg [(0, 10), (42, 0), (42, 7)] [43, 44, 45, 46, 47, 48, 49, 50] H X.2 ∧ (X.2.2.1 0 10).toInt = 1 := by
  have k : ∀ {e : zk_T}, e.1 = 45 → e.2.1 = [.inr (some (some 1))] → e.2.2.1 = [] → e.2.2.2.1 = [(0, 10), (42, 0), (42, 7)] → e.2.2.2.2.1 = [43, 44, 45, 46, 47, 48, 49, 50] → e.2.2.2.2.2.1 = [(.inl none, [(0, 10, 1, 1)], [])] → e.2.2.2.2.2.2 = 2 → zk_Ct L σ (zB_c c) zg zJc e → ∃ X, zp_Call L σ (d + 2) 45 [.inr (.inr (some 1))] H X ∧ zk_Fr zg [(0, 10), (42, 0), (42, 7)] [43, 44, 45, 46, 47, 48, 49, 50] H X.2 ∧ (X.2.2.1 0 10).toInt = 1 := by
    intro e e1 e2 e3 e4 e5 e6 e7 hct
    obtain ⟨X, x1, x2, x3, o, o1, o2⟩ := hct (d + 2) (by omega) [.inr (.inr (some 1))] H (by rw [e2]; exact ⟨rfl, trivial⟩) hB (by rw [e3]; exact fun f hf => absurd hf List.not_mem_nil)
    rw [e1] at x1
    rw [e4, e5] at x3
    rw [e6] at o1
    obtain rfl := List.mem_singleton.mp o1
    have h := o2.2.1 (0, 10, 1, 1) List.mem_cons_self
    have h : (1 : Int) ≤ (X.2.2.1 0 10).toInt ∧ (X.2.2.1 0 10).toInt ≤ 1 := h
    exact ⟨X, x1, x3, by omega⟩
  match c, hc, hB with
  | 0, _, hB => exact k (e := ze_i0) rfl rfl rfl rfl rfl rfl rfl zc_i0
  | 1, _, hB => exact k (e := ze_i1) rfl rfl rfl rfl rfl rfl rfl zc_i1
  | 2, _, hB => exact k (e := ze_i2) rfl rfl rfl rfl rfl rfl rfl zc_i2
  | 3, _, hB => exact k (e := ze_i3) rfl rfl rfl rfl rfl rfl rfl zc_i3
theorem yd_image {L : Nat} {σ : Nat → Int32} {d c t : Nat} {H : zp_H} (hI : yI c t H) : ∃ H1 H2, zp_Call L σ (d + 60) 45 [.inr (.inr (some 1))] H (.inl none, H1) ∧ zp_Call L σ (d + 60) 249 [.inr (.inr (some 73))] H1 (.inl none, H2) ∧ H1.1 = zB_sh ∧ yI c t H2 := by
  obtain ⟨H1, c1, hI1⟩ := zo_image (L := L) (σ := σ) (d := d) hI.1
  obtain ⟨H2, c2, hI2⟩ := zu_image (L := L) (σ := σ) (d := d) hI1
  obtain ⟨X, x1, x2, x3⟩ := yd_imc (L := L) (σ := σ) (d := 0) hI.1.2.2.2.2.2 hI.1.1
  obtain rfl := zp_Call_u x1 c1
  have W1 := zB_Wd (zB_dn (zB_Bc hI1.1))
  have e2 := zp_Call_u c2 (yx_image (L := L) (σ := σ) (d := 0) W1)
  obtain rfl : H2 = yIm H1 := by cases e2; rfl
  have f : ∀ p k, p ≠ 72 → p ≠ 101 → p ≠ 102 → p ≠ 103 → (yIm H1).2.1 p k = H1.2.1 p k := fun p k q0 q1 q2 q3 => (zc_ne q3).trans ((zc_ne q2).trans ((zc_ne q1).trans ((y_ne (fun h9 => q0 h9.1)).trans ((y_ne (fun h9 => q0 h9.1)).trans (y_ne (fun h9 => q0 h9.1))))))
  refine ⟨H1, _, c1, c2, hI1.1.1, hI2, yTp_c (fun k => ?_) (fun k => ?_) hI.2.1, ?_⟩
  · rw [f 1 k (by decide) (by decide) (by decide) (by decide)]
    exact (zI_in x2 (p := 1) (k := k) rfl rfl (fun h9 => absurd h9.1 (by decide))).1
  · rw [f 81 k (by decide) (by decide) (by decide) (by decide)]
    exact (zI_in x2 (p := 81) (k := k) rfl rfl (fun h9 => absurd h9.1 (by decide))).1
  · show (yIm H1).2.1 0 10 = (yIm H1).2.1 72 80
    rw [f 0 10 (by decide) (by decide) (by decide) (by decide)]
    have e80 : (yIm H1).2.1 72 80 = Int32.ofInt 1 := (zc_ne (by decide)).trans ((zc_ne (by decide)).trans ((zc_ne (by decide)).trans (zw_ne zw_eq rfl)))
    rw [e80]
    exact Int32.toInt_inj.mp x3
theorem yd_rsc {L : Nat} {σ : Nat → Int32} {d c : Nat} {H : zp_H} (hc : c < 4) (hB : zk_Bs (zB_c c) zg zJc H) : ∃ v H1, zp_Call L σ (d + 2) 47 [.inr (.inr (some 1))] H (.inl (some (.inl v)), H1) ∧ v.toInt = (H.2.1 0 10).toInt := by
  have r10 := zB_fr1 (zB_dn (zB_Bc hB)) (p := 0) (k := 10) (r := (0, 1)) rfl
  have r10 : 0 ≤ (H.2.1 0 10).toInt ∧ (H.2.1 0 10).toInt ≤ 1 := r10
  have k : ∀ {e : zk_T} {v : Int}, e.1 = 47 → e.2.1 = [.inr (some (some 1))] → e.2.2.1 = [(0, 10, v, v)] → e.2.2.2.2.2.1 = [(.inl (some (.inl (v, v))), [], [])] → e.2.2.2.2.2.2 = 2 → (H.2.1 0 10).toInt = v → zk_Ct L σ (zB_c c) zg zJc e → ∃ v H1, zp_Call L σ (d + 2) 47 [.inr (.inr (some 1))] H (.inl (some (.inl v)), H1) ∧ v.toInt = (H.2.1 0 10).toInt := by
    intro e v e1 e2 e3 e6 e7 hv hct
    obtain ⟨X, x1, x2, x3, o, o1, o2⟩ := hct (d + 2) (by omega) [.inr (.inr (some 1))] H (by rw [e2]; exact ⟨rfl, trivial⟩) hB (by
      rw [e3]
      intro f hf
      obtain rfl := List.mem_singleton.mp hf
      show zk_in (H.2.1 0 10).toInt _
      rw [hv]
      exact ⟨Int.le_refl _, Int.le_refl _⟩)
    rw [e1] at x1
    rw [e6] at o1
    obtain rfl := List.mem_singleton.mp o1
    obtain ⟨p1, -⟩ := o2
    match X, x1, p1 with
    | (.inl (some (.inl u)), H1), x1, p1 =>
      have p1 : v ≤ u.toInt ∧ u.toInt ≤ v := p1
      exact ⟨u, H1, x1, by omega⟩
  by_cases h0 : (H.2.1 0 10).toInt = 0
  · match c, hc, hB with
    | 0, _, hB => exact k (e := ze_r00) rfl rfl rfl rfl rfl h0 zc_r00
    | 1, _, hB => exact k (e := ze_r10) rfl rfl rfl rfl rfl h0 zc_r10
    | 2, _, hB => exact k (e := ze_r20) rfl rfl rfl rfl rfl h0 zc_r20
    | 3, _, hB => exact k (e := ze_r30) rfl rfl rfl rfl rfl h0 zc_r30
  · have h1 : (H.2.1 0 10).toInt = 1 := by omega
    match c, hc, hB with
    | 0, _, hB => exact k (e := ze_r01) rfl rfl rfl rfl rfl h1 zc_r01
    | 1, _, hB => exact k (e := ze_r11) rfl rfl rfl rfl rfl h1 zc_r11
    | 2, _, hB => exact k (e := ze_r21) rfl rfl rfl rfl rfl h1 zc_r21
    | 3, _, hB => exact k (e := ze_r31) rfl rfl rfl rfl rfl h1 zc_r31
def ykS_rc : List Nat := [46, 47]
theorem ykS_rc_t : ykS [] [(11, 10)] ykS_rc = true := by decide +kernel
theorem yd_restore {L : Nat} {σ : Nat → Int32} {d c t : Nat} {H : zp_H} (hI : yI c t H) : ∃ H1 H2 v u, zp_Call L σ (d + 60) 47 [.inr (.inr (some 1))] H (.inl (some (.inl v)), H1) ∧ zp_Call L σ (d + 60) 250 [.inr (.inr (some 73))] H1 (.inl (some (.inl u)), H2) ∧ H1.1 = zB_sh ∧ v.toInt = u.toInt ∧ yI c t H2 := by
  obtain ⟨H1, v, c1, hI1⟩ := yo_restore (L := L) (σ := σ) (d := d) hI
  obtain ⟨H2, u, c2, hI2⟩ := yu_restore (L := L) (σ := σ) (d := d) hI1
  obtain ⟨v', H1', x1, x2⟩ := yd_rsc (L := L) (σ := σ) (d := 0) hI.1.2.2.2.2.2 hI.1.1
  have e1 := zp_Call_u x1 c1
  cases e1
  have W1 := zB_Wd (zB_dn (zB_Bc hI1.1.1))
  have e10 : H1.2.1 0 10 = H.2.1 0 10 := ((ykF_call ykS_rc_t _ _ _ _ _ (by decide) c1).2.1 (11, 10) (by decide) 0 (by rw [hI.1.1.1]; rfl)).1
  refine ⟨H1, H2, v, u, c1, c2, hI1.1.1.1, ?_, hI2⟩
  have q1 : H1.2.1 0 10 = H1.2.1 72 80 := hI1.2.2
  have r10 := zB_fr1 (zB_dn (zB_Bc hI.1.1)) (p := 0) (k := 10) (r := (0, 1)) rfl
  have r10 : 0 ≤ (H.2.1 0 10).toInt ∧ (H.2.1 0 10).toInt ≤ 1 := r10
  by_cases h0 : (H1.2.1 72 80).toInt = 0
  · have e2 := zp_Call_u c2 (yx_res0 (L := L) (σ := σ) (d := 0) W1 h0)
    cases e2
    rw [x2, ← e10, q1]
    exact h0
  · have e2 := zp_Call_u c2 (yx_res1 (L := L) (σ := σ) (d := 0) W1 h0)
    cases e2
    show v.toInt = 1
    rw [← q1, e10] at h0
    omega
