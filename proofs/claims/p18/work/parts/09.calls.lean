/-! ===== a method's contract out of its run: returns, throws, calls ===== -/
def za_Bl (E : za_E) (H : Heap) : Prop := (za_H0 E).size ≤ H.size ∧ ∀ q : Nat, q < (za_H0 E).size → H[q]? = (za_H0 E)[q]?
def za_gW (σ : Nat → Int32) (ads : List Nat) (v : Option za_V) (w : Option Value) : Prop := match v, w with
  | none, none => True
  | some v, some w => za_gV σ ads v w
  | _, _ => False
def za_Qc (E : za_E) (ads0 : List Nat) (outs : List za_X) : Array Value → State → Outcome → State → Prop := fun _ _ o t => ∃ (v : Option za_V) (h : List za_O) (ρ : za_R) (ads : List Nat) (w : Option Value), ((.inl v, h, ρ) : za_X) ∈ outs ∧ o = .returned w ∧ za_gW (za_σ E) ads v w ∧ ads0 <+: ads ∧ za_ok (za_σ E) ρ ∧ za_Wd E ads h t.heap ∧ za_Bl E t.heap
def za_XC (E : za_E) (ads0 : List Nat) (outs : List za_X) : String → State → State → Prop := fun nm _ t => ∃ (ex : Nat) (h : List za_O) (ρ : za_R) (ads : List Nat), ((.inr ex, h, ρ) : za_X) ∈ outs ∧ ex < 2 ∧ nm = za_exn ex ∧ ads0 <+: ads ∧ za_ok (za_σ E) ρ ∧ za_Wd E ads h t.heap ∧ za_Bl E t.heap
def za_Pc (E : za_E) (s0 : State) (ads : List Nat) (as : List za_V) (h : List za_O) (ρ : za_R) : Array Value → State → Prop := fun a U => ∃ vs : List Value, a = vs.toArray ∧ za_F2 (za_gV (za_σ E) ads) as vs ∧ za_ok (za_σ E) ρ ∧ za_Wd E ads h U.heap ∧ s0.WarmedH U.vm ∧ za_Bl E U.heap
theorem za_Pc_blind {E : za_E} {s0 : State} {ads : List Nat} {as : List za_V} {h : List za_O} {ρ : za_R} : FrameBlind (za_Pc E s0 ads as h ρ) := fun _ _ _ _ q => q
/-- a method's room at a depth -/
def za_rm (d : Nat) (Y : za_MI) : Room := { frames := d + 8, cells := za_mc Y, slots := za_ms Y, locals := 64 * d + 200 }
section ZR
variable {p : Program} {l : Launch} {e : Env} {R : Room} {s : State} {m : MethodId} {args : Array Value} {below : List Frame} {meth : Method} {c : Code} {E : za_E} {nL : Nat} {ads0 : List Nat} {cc : ByteArray} {pc : Nat}
theorem za_Bl_S {H : Heap} {locs : List Loc} (h0 : za_Bl E s.heap) (hS : va_S (za_A E) s.heap H locs) : za_Bl E H :=
  ⟨Nat.le_trans h0.1 hS.1, fun q hq => (hS.2.1 q (Nat.lt_of_lt_of_le hq h0.1) (Nat.not_le.mpr hq)).trans (h0.2 q hq)⟩
theorem zs_iret {lv : za_LV} {t : za_T} {st : List za_V} {Z : List za_S × List za_X} {mc ms : Nat} {rt : Option FieldType} {outs : List za_X} (hx : p.tables.exec = Jvm.exec) (hb : c.code = cc) (hr : meth.sig.returnType = rt) (hlocks : meth.locks = false) (h0 : za_Bl E s.heap) (hdg : decode cc pc = .ok (.ireturn, 1))
    (h : za_iret mc ms rt st t = some Z) (ho : ∀ x ∈ Z.2, x ∈ outs) : za_G p l e R s m args below meth c (vx_MQ below (za_Qc E ads0 outs) (za_XC E ads0 outs) args s mc ms (za_A E)) E nL ads0 (pc, lv, st, t) := by
  intro ads H locs ls stk M
  obtain ⟨h1, h2, h3, h4, h5, h6⟩ := M
  unfold za_iret at h
  split at h
  · rename_i a
    obtain ⟨g1, h⟩ := za_bif h
    obtain ⟨g2, h⟩ := za_bif h
    obtain ⟨w, stk1, rfl, w2, q1⟩ := za_F2_cons h3
    have e1 := za_F2_nil q1
    subst e1
    obtain ⟨x, rfl, hx9⟩ := id w2
    cases h
    exact W.widen (za_ble g1) (za_ble g2) (vx_ret (W.iret hx hb hr (fun t9 ht _ => ⟨_, _, _, ads, _, ho _ List.mem_cons_self, rfl, w2, h1, h2, by rw [ht]; exact h5, by rw [ht]; exact za_Bl_S h0 h6⟩) (fun q hq => h6.2.2 q hq) hdg hlocks))
  · rename_i a
    obtain ⟨g1, h⟩ := za_bif h
    obtain ⟨g2, h⟩ := za_bif h
    obtain ⟨g3, h⟩ := za_bif h
    obtain ⟨w, stk1, rfl, w2, q1⟩ := za_F2_cons h3
    have e1 := za_F2_nil q1
    subst e1
    obtain ⟨x, rfl, hx9⟩ := id w2
    have hn := (za_fit_ok h2 w2 g3).1
    cases h
    exact W.widen (za_ble g1) (za_ble g2) (vx_ret (W.zret hx hb hr hn (fun t9 ht _ => ⟨_, _, _, ads, _, ho _ List.mem_cons_self, rfl, w2, h1, h2, by rw [ht]; exact h5, by rw [ht]; exact za_Bl_S h0 h6⟩) (fun q hq => h6.2.2 q hq) hdg hlocks))
  · cases h
theorem zs_lret {lv : za_LV} {t : za_T} {st : List za_V} {Z : List za_S × List za_X} {mc ms : Nat} {rt : Option FieldType} {outs : List za_X} (hx : p.tables.exec = Jvm.exec) (hb : c.code = cc) (hr : meth.sig.returnType = rt) (hlocks : meth.locks = false) (h0 : za_Bl E s.heap) (hdg : decode cc pc = .ok (.lreturn, 1))
    (h : za_lret mc ms rt st t = some Z) (ho : ∀ x ∈ Z.2, x ∈ outs) : za_G p l e R s m args below meth c (vx_MQ below (za_Qc E ads0 outs) (za_XC E ads0 outs) args s mc ms (za_A E)) E nL ads0 (pc, lv, st, t) := by
  intro ads H locs ls stk M
  obtain ⟨h1, h2, h3, h4, h5, h6⟩ := M
  unfold za_lret at h
  split at h
  · rename_i a
    obtain ⟨g1, h⟩ := za_bif h
    obtain ⟨g2, h⟩ := za_bif h
    obtain ⟨w, stk1, rfl, w2, q1⟩ := za_F2_cons h3
    have e1 := za_F2_nil q1
    subst e1
    obtain ⟨x, rfl, hx9⟩ := id w2
    cases h
    exact W.widen (za_ble g1) (za_ble g2) (vx_ret (W.lret hx hb hr (fun t9 ht _ => ⟨_, _, _, ads, _, ho _ List.mem_cons_self, rfl, w2, h1, h2, by rw [ht]; exact h5, by rw [ht]; exact za_Bl_S h0 h6⟩) (fun q hq => h6.2.2 q hq) hdg hlocks))
  · cases h
theorem zs_vret {lv : za_LV} {t : za_T} {st : List za_V} {Z : List za_S × List za_X} {mc ms : Nat} {rt : Option FieldType} {outs : List za_X} (hx : p.tables.exec = Jvm.exec) (hb : c.code = cc) (hr : meth.sig.returnType = rt) (hlocks : meth.locks = false) (h0 : za_Bl E s.heap) (hdg : decode cc pc = .ok (.return_, 1))
    (h : za_vret mc ms rt st t = some Z) (ho : ∀ x ∈ Z.2, x ∈ outs) : za_G p l e R s m args below meth c (vx_MQ below (za_Qc E ads0 outs) (za_XC E ads0 outs) args s mc ms (za_A E)) E nL ads0 (pc, lv, st, t) := by
  intro ads H locs ls stk M
  obtain ⟨h1, h2, h3, h4, h5, h6⟩ := M
  unfold za_vret at h
  split at h
  · obtain ⟨g1, h⟩ := za_bif h
    obtain ⟨g2, h⟩ := za_bif h
    have e1 := za_F2_nil h3
    subst e1
    cases h
    exact W.widen (za_ble g1) (za_ble g2) (vx_ret (W.vret hx hb hr (fun t9 ht _ => ⟨none, _, _, ads, none, ho _ List.mem_cons_self, rfl, trivial, h1, h2, by rw [ht]; exact h5, by rw [ht]; exact za_Bl_S h0 h6⟩) (fun q hq => h6.2.2 q hq) hdg hlocks))
  · cases h
/-! behind a call -/
theorem za_cat2_mem {f : za_X → za_N} : ∀ {xs : List za_X} {Z : List za_S × List za_X}, za_cat2 f xs = some Z → ∀ {x : za_X}, x ∈ xs → ∃ z, f x = some z ∧ (∀ S ∈ z.1, S ∈ Z.1) ∧ ∀ y ∈ z.2, y ∈ Z.2
  | [], _, _, _, hx => absurd hx List.not_mem_nil
  | y :: xs, Z, h, x, hx => by
    unfold za_cat2 at h
    split at h
    · rename_i a b ha hb
      cases h
      rcases List.mem_cons.mp hx with rfl | hx
      · exact ⟨a, ha, fun S hS => List.mem_append_left _ hS, fun S hS => List.mem_append_left _ hS⟩
      · obtain ⟨z, z1, z2, z3⟩ := za_cat2_mem hb hx
        exact ⟨z, z1, fun S hS => List.mem_append_right _ (z2 S hS), fun S hS => List.mem_append_right _ (z3 S hS)⟩
    · cases h
theorem za_hnd_out {cp : Nat → Option za_row} {ex : Nat} : ∀ {hh : List (Nat × Nat × Nat × Nat)}, za_hnd cp pc ex hh = some none → ∀ x ∈ tableOf hh, covers x pc = false
  | [], _, x, hx => absurd hx List.not_mem_nil
  | (a1, b1, h1, ct) :: hh, h, x, hx => by
    have htab : tableOf ((a1, b1, h1, ct) :: hh) = ⟨a1, b1, h1, ct⟩ :: tableOf hh := rfl
    rw [htab] at hx
    unfold za_hnd at h
    by_cases hcov : a1 ≤ pc ∧ pc < b1
    · have e1 : Nat.ble a1 pc = true := Nat.ble_eq.mpr hcov.1
      have e2 : Nat.blt pc b1 = true := Nat.ble_eq.mpr hcov.2
      simp only [e1, e2, cond_true] at h
      split at h
      · obtain ⟨h0, h⟩ := za_bifn h
        cases hb : Nat.beq _ ex with
        | true => rw [hb] at h; cases h
        | false =>
          rw [hb] at h
          simp only [cond_false] at h
          split at h
          · cases h
          · cases h
      · cases h
    · have h : za_hnd cp pc ex hh = some none := by
        cases e1 : Nat.ble a1 pc with
        | false => simp only [e1, cond_false] at h; exact h
        | true =>
          cases e2 : Nat.blt pc b1 with
          | false => simp only [e1, e2, cond_true, cond_false] at h; exact h
          | true => exact absurd ⟨za_ble e1, za_blt e2⟩ hcov
      rcases List.mem_cons.mp hx with rfl | hx
      · simp only [covers, Bool.and_eq_false_iff, decide_eq_false_iff_not]
        by_cases z : a1 ≤ pc
        · exact Or.inr (fun w => hcov ⟨z, w⟩)
        · exact Or.inl z
      · exact za_hnd_out h x hx
theorem za_gW_st {σ : Nat → Int32} {ads : List Nat} {v : Option za_V} {w : Option Value} {rest : List za_V} {rst : List Value} (h : za_gW σ ads v w) (hr : za_F2 (za_gV σ ads) rest rst) : za_F2 (za_gV σ ads) (v.toList ++ rest) (w.toList ++ rst) := by
  match v, w, h with
  | none, none, _ => exact hr
  | some v, some w, h => exact ⟨h, hr⟩
theorem zs_aft {M : za_MI} {own : String} {lv : za_LV} {rest : List za_V} {Z : List za_S × List za_X} {xs outs : List za_X} {cp : Nat → Option za_row} {a9 : Array Value} {mcY msY cells slots : Nat} {ads : List Nat} {H : Heap} {locs : List Loc} {ls : Array Slot} {stk rst : List Value}
    (hx : p.tables.exec = Jvm.exec) (hb : c.code = M.2.1) (hown : s.vm.findClass own = some m.cls) (hlocks : meth.locks = false) (h0 : za_Bl E s.heap) (htab : c.exceptionTable.toList = tableOf (za_hh M)) (hzk : zh_ok s args own cp) (hdec : (za_is M).all (za_dok M.2.1) = true) (hcs : cells + mcY ≤ za_mc M) (hsl : slots + msY ≤ za_ms M)
    (hr : vx_Run p l e R s m args below meth c H locs cells slots mcY msY (F0 m pc ls stk) rst (za_Qc E ads xs a9) (za_XC E ads xs) (za_A E))
    (hcat : za_cat2 (za_aft M cp pc lv rest (cells + mcY) (slots + msY)) xs = some Z)
    (hk : ∀ S ∈ Z.1, za_G p l e R s m args below meth c (vx_MQ below (za_Qc E ads0 outs) (za_XC E ads0 outs) args s (za_mc M) (za_ms M) (za_A E)) E (za_nL M) ads0 S) (ho : ∀ x ∈ Z.2, x ∈ outs)
    (h1 : ads0 <+: ads) (h3 : za_F2 (za_gV (za_σ E) ads) rest rst) (h4 : ∃ lc, lv_has ls (za_nL M) lc ∧ za_F2 (za_gP (za_σ E) ads) lv lc) (h6 : va_S (za_A E) s.heap H locs) :
    W p l e R s m args below meth c H locs cells slots (vx_MQ below (za_Qc E ads0 outs) (za_XC E ads0 outs) args s (za_mc M) (za_ms M) (za_A E)) (F0 m pc ls stk) := by
  intro T hT X
  rcases hr T hT X with ⟨v, st₀, t9, T', L9, g0, X', hL, e1, e2, hq, st⟩ | ⟨q, st₀, t9, T', L9, nm, ce, g0, X', hL, e1, e2, hx9, hce, hcv, hcl, st⟩
  · obtain ⟨v9, h9, ρ9, ads9, w9, m1, m2, m3, m4, m5, m6, m7⟩ := hq
    cases m2
    have hS : va_S (za_A E) s.heap T'.heap (locs ++ L9) := by
      refine ⟨X'.same.2.1, fun q hq1 hq2 => ?_, fun z hz => ?_⟩
      · have hq3 : q < (za_H0 E).size := Nat.not_le.mp hq2
        rw [e1, m7.2 q hq3, h0.2 q hq3]
      · rcases List.mem_append.mp hz with z1 | z1
        · exact h6.2.2 z z1
        · exact hL z z1
    obtain ⟨z, z1, z2, -⟩ := za_cat2_mem hcat m1
    have hG : za_G p l e R s m args below meth c (vx_MQ below (za_Qc E ads0 outs) (za_XC E ads0 outs) args s (za_mc M) (za_ms M) (za_A E)) E (za_nL M) ads0 (pc + 3, lv, v9.toList ++ rest, h9, ρ9, cells + mcY, slots + msY) := by
      cases v9 with
      | none => cases z1; exact hk _ (z2 _ List.mem_cons_self)
      | some v9 => cases z1; exact hk _ (z2 _ List.mem_cons_self)
    obtain ⟨t2, a1, b1⟩ := hG ads9 T'.heap (locs ++ L9) ls (v.toList ++ rst) ⟨h1.trans m4, m5, za_gW_st m3 (za_F2_mono (fun _ _ => za_gV_mono m4) h3), za_lv_mono m4 h4, by rw [e1]; exact m6, hS⟩ T' rfl X'
    exact ⟨t2, st t2 a1, b1⟩
  · obtain ⟨ex, h9, ρ9, ads9, m1, mex, m2, m4, m5, m6, m7⟩ := hx9
    subst m2
    have hS : va_S (za_A E) s.heap T'.heap (locs ++ L9) := by
      refine ⟨X'.same.2.1, fun q hq1 hq2 => ?_, fun z hz => ?_⟩
      · have hq3 : q < (za_H0 E).size := Nat.not_le.mp hq2
        rw [e1, m7.2 q hq3, h0.2 q hq3]
      · rcases List.mem_append.mp hz with z1 | z1
        · exact h6.2.2 z z1
        · exact hL z z1
    obtain ⟨z, z1, z2, z3⟩ := za_cat2_mem hcat m1
    have z1 : (match za_hnd cp pc ex (za_hh M) with
      | none => none
      | some none => some ([], [(.inr ex, h9, ρ9)])
      | some (some hp) => match za_fe (za_is M) hp with
        | some (.astore_n k) => bif Nat.blt k.val (za_nL M) then some ([(hp + 1, lv.filter (fun q => !(q.1 == k.val) && !(q.1 + 1 == k.val && za_cat q.2 == 2)), [], h9, ρ9, cells + mcY, slots + msY)], []) else none
        | some (.astore k) => bif Nat.blt k (za_nL M) then some ([(hp + 2, lv.filter (fun q => !(q.1 == k) && !(q.1 + 1 == k && za_cat q.2 == 2)), [], h9, ρ9, cells + mcY, slots + msY)], []) else none
        | _ => none : za_N) = some z := z1
    have hce9 : T'.heap[q]? = some ce := by rw [e1]; exact hce
    split at z1
    · cases z1
    · rename_i hhnd
      cases z1
      have hV : vx_W p l e R s m args below meth c T'.heap (locs ++ L9) (cells + mcY) (slots + msY) (vx_MQ below (za_Qc E ads0 outs) (za_XC E ads0 outs) args s (za_mc M) (za_ms M) (za_A E)) (F0 m pc ls rst) q :=
        vx_out (fun x hx => za_hnd_out hhnd x (by rw [← htab]; exact hx)) hlocks hce9 hcv hcl (fun t8 ht _ => ⟨ex, h9, ρ9, ads9, ho _ (z3 _ List.mem_cons_self), mex, rfl, h1.trans m4, m5, by rw [ht, e1]; exact m6, by rw [ht, e1]; exact m7⟩) (fun z hz => hS.2.2 z hz) hcs hsl
      obtain ⟨t2, a1, b1⟩ := hV T' rfl X'
      exact ⟨t2, st.trans a1, b1⟩
    · rename_i hp hhnd
      have h4 := za_lv_mono m4 h4
      obtain ⟨lc, l1, l2⟩ := h4
      have hV : vx_W p l e R s m args below meth c T'.heap (locs ++ L9) (cells + mcY) (slots + msY) (vx_MQ below (za_Qc E ads0 outs) (za_XC E ads0 outs) args s (za_mc M) (za_ms M) (za_A E)) (F0 m pc ls rst) q := by
        refine zh_catch hown htab hzk mex hhnd hce9 hcv hcl ?_
        split at z1
        · rename_i k hfe
          obtain ⟨g1, z1⟩ := za_bif z1
          cases z1
          refine lv_astore_n hx hb (za_fe_1 hdec hfe rfl) rfl l1 (za_blt g1) rfl (fun ls' h4 => ?_)
          exact hk _ (z2 _ List.mem_cons_self) ads9 T'.heap (locs ++ L9) ls' [] ⟨h1.trans m4, m5, trivial, ⟨_, ⟨h4.1, h4.2.1, fun z hz => h4.2.2 z (List.mem_cons_of_mem _ hz)⟩, za_F2_filter (fun a b hab => by rw [hab.1, za_cat_ok hab.2]) l2⟩, by rw [e1]; exact m6, hS⟩
        · rename_i k hfe
          obtain ⟨g1, z1⟩ := za_bif z1
          cases z1
          refine lv_astore hx hb (za_fe_1 hdec hfe rfl) l1 (za_blt g1) rfl (fun ls' h4 => ?_)
          exact hk _ (z2 _ List.mem_cons_self) ads9 T'.heap (locs ++ L9) ls' [] ⟨h1.trans m4, m5, trivial, ⟨_, ⟨h4.1, h4.2.1, fun z hz => h4.2.2 z (List.mem_cons_of_mem _ hz)⟩, za_F2_filter (fun a b hab => by rw [hab.1, za_cat_ok hab.2]) l2⟩, by rw [e1]; exact m6, hS⟩
        · cases z1
      obtain ⟨t2, a1, b1⟩ := hV T' rfl X'
      exact ⟨t2, st.trans a1, b1⟩
theorem zr_of {H : Heap} {locs : List Loc} {cells slots mc ms : Nat} {g : JFrame} {rest : List Value} {Qa : State → Outcome → State → Prop} {XC : String → State → State → Prop} {free : Addr → Prop} (h : va_Run p l e R s m args below meth c H locs cells slots mc ms g rest Qa free) : vx_Run p l e R s m args below meth c H locs cells slots mc ms g rest Qa XC free := fun T hT X => Or.inl (h T hT X)
theorem za_nox_ok : ∀ {xs : List za_X}, za_nox xs = true → ∀ {ex : Nat} {h : List za_O} {ρ : za_R}, ((.inr ex, h, ρ) : za_X) ∉ xs
  | [], _, _, _, _ => List.not_mem_nil
  | (.inl v, y) :: xs, hn, ex, h, ρ => fun hm => by
    rcases List.mem_cons.mp hm with z | z
    · cases z
    · exact za_nox_ok (xs := xs) hn z
  | (.inr v, y) :: xs, hn, ex, h, ρ => by cases hn
theorem zo_met {y : MethodName} {ws : List Cond} {rm : Room} {Pc : Array Value → State → Prop} {xs : List za_X} {ads : List Nat} {mc ms : Nat} {free : Addr → Prop} (h : vx_Met l y ws rm Pc (za_Qc E ads xs) (za_XC E ads xs) mc ms free) (hn : za_nox xs = true) : Met l y ws rm Pc (za_Qc E ads xs) mc ms free := by
  intro p e h1 h2 h3 s m args below h4 h5 h6 h7
  obtain ⟨n, o, k1, k2, k3, k4⟩ := h p e h1 h2 h3 s m args below h4 h5 h6 h7
  refine ⟨n, o, k1, k2, k3, ?_⟩
  rcases k4 with k4 | ⟨q, -, E9, ce, L9, ⟨ex, h9, ρ9, ads9, m1, -⟩, -⟩
  · exact k4
  · exact absurd m1 (za_nox_ok hn)
end ZR
