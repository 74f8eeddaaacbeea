/-! ===== the reader's two questions of its constant ===== -/
theorem zS_strOK {l : Launch} {E : za_E} {L : Nat} {s0 : State} {a b : Nat} (K : za_K0 l E L s0) (hK : zS_K E s0 a b) : zp_str2 l E L s0 := by
  intro p e R s m args below meth c Q ads0 d pc k M lv st t S9 X hcap hdg h hk
  obtain ⟨hx, hb, hml, hr, hlocks, hnm, hown, htab, -, hW, h0, hdec, hRf, hRl, hRc, hRs⟩ := id X
  have hfix := zj_fix X
  unfold zp_str at h
  obtain ⟨g1, hA⟩ := za_bif h
  obtain ⟨g2, hB⟩ := za_bif hA
  obtain ⟨g3, hC⟩ := za_bif hB
  clear h hA hB
  have g2 := za_beq g2
  subst g2
  have g1 := za_beq g1
  have g3 := za_ble g3
  rw [g1] at hown hfix
  have hown : s.vm.findClass RX9 = some m.cls := hown
  obtain ⟨tx, hR⟩ := hK.2.2.2.2.2.2
  split at hC
  · rename_i j hfe
    obtain ⟨g4, hD⟩ := za_bif hC
    have g4 := za_beq g4
    subst g4
    cases hD
    intro ads H locs ls stk Mm
    obtain ⟨m1, m3, m4, m5, m6⟩ := Mm
    have hBl : za_Bl E H := za_Bl_S h0 m6
    obtain ⟨cell, o1, o2, o3, o4⟩ := (zS_at K hW h0 hK).2.2.1
    have hcell : H[a]? = some cell := by
      rw [m6.2.1 a (Array.getElem?_eq_some_iff.mp o1).1 o4]
      exact o1
    have hsz : ls.size = za_nL M := by
      obtain ⟨lc, l9, -⟩ := m4
      exact l9.1
    refine va_ldcS hx hb hown (hR.warm hW) hdg ?_
    exact zS_call (va_runV (As := []) (rest := stk) (g := F0 m (pc + 2) ls (.ref a :: stk)) hfix (zS_length K hK) ⟨zS_CB (n := 0) K hW 24 4 25 rfl rfl rfl (by decide) (by decide) (by omega) (by omega), zS_w K hW 26 rfl, zS_w K hW 27 rfl⟩ ⟨zS_blind, ⟨cell, hcell, o2, o3⟩, fun U hU hWU => ⟨rfl, State.WarmedH.trans hW hWU, by rw [hU]; exact hBl⟩⟩ rfl rfl hsz rfl (by rw [zp_wt_ok m3]; show 2 * 0 + zp_wt st ≤ 8; omega) (za_fe_1 hdec hfe rfl) (by rw [hRc, hRs]; exact hcap) ) m6 (fun locs1 hS1 => hk ads H locs1 ls (.int (Int32.ofNat zp_spell.length) :: stk) ⟨m1, ⟨rfl, m3⟩, m4, m5, hS1⟩)
  · rename_i i hfe
    split at hC
    · rename_i j x hfe2 hget
      obtain ⟨g4, hD⟩ := za_bif hC
      have g4 := za_beq g4
      subst g4
      split at hD
      · rename_i hx9
        cases hD
        intro ads H locs ls stk Mm
        obtain ⟨m1, m3, m4, m5, m6⟩ := Mm
        have hBl : za_Bl E H := za_Bl_S h0 m6
        obtain ⟨cell, o1, o2, o3, o4⟩ := (zS_at K hW h0 hK).2.2.1
        have hcell : H[a]? = some cell := by
          rw [m6.2.1 a (Array.getElem?_eq_some_iff.mp o1).1 o4]
          exact o1
        have hsz : ls.size = za_nL M := by
          obtain ⟨lc, l9, -⟩ := m4
          exact l9.1
        have hi : ls[i.val]? = some (Slot.val (.int x)) := by
          obtain ⟨lc, l9, l8⟩ := m4
          obtain ⟨w, w1, w2⟩ := zp_get_ok l8 hget
          cases w2
          exact l9.2.2 _ w1
        refine va_ldcS hx hb hown (hR.warm hW) hdg ?_
        refine lv_iload_n hx hb (za_fe_1 hdec hfe rfl) rfl hi ?_
        exact zS_call (va_runV (As := [.int x]) (rest := stk) (g := F0 m (pc + 3) ls (.int x :: .ref a :: stk)) hfix (zS_charAt K hK hx9) ⟨zS_CB (n := 1) K hW 28 4 29 rfl rfl rfl (by decide) (by decide) (by omega) (by omega), zS_w K hW 30 rfl, zS_w K hW 31 rfl⟩ ⟨zS_blind, ⟨cell, hcell, o2, o3⟩, fun U hU hWU => ⟨rfl, State.WarmedH.trans hW hWU, by rw [hU]; exact hBl⟩⟩ rfl rfl hsz rfl (by rw [zp_wt_ok m3]; show 2 * 0 + zp_wt st ≤ 8; omega) (za_fe_1 hdec hfe2 rfl) (by rw [hRc, hRs]; exact hcap)) m6 (fun locs1 hS1 => hk ads H locs1 ls (.int (zS_ch x.toInt.toNat) :: stk) ⟨m1, ⟨rfl, m3⟩, m4, m5, hS1⟩)
      · cases hD
    · cases hC
  · cases hC
