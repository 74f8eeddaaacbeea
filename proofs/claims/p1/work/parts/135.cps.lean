/-! ===== the model's own copy of an array, as one step ===== -/
def zM5 : za_MI := (yX12_copies, prog_14_method_7_code, 4, none, 12, 0, 0, [], za_i205)
theorem zM5_ok : za_MT 205 = some zM5 := rfl
section ZQ
variable {p : Program} {l : Launch} {e : Env} {R : Room} {s s0 : State} {m : MethodId} {args : Array Value} {below : List Frame} {meth : Method} {c : Code} {E : za_E} {L d : Nat} {Q : State → Prop}
theorem zq_upd {f g : Nat → Int32} (i : Nat) : upd (va_cpy f g 0 0 i) i (f i) = va_cpy f g 0 0 (i + 1) := by
  funext k
  unfold upd va_cpy
  by_cases h1 : k = i
  · subst h1
    rw [if_pos rfl, if_pos (by omega)]
    simp
  · rw [if_neg h1]
    by_cases h2 : 0 ≤ k ∧ k < 0 + i
    · rw [if_pos h2, if_pos (by omega)]
    · rw [if_neg h2, if_neg (by omega)]
theorem zq_loop (X : za_Cx p l R s m args meth c E L s0 d zM5) {ws : va_W} {q0 q1 aT a0 a1 n0 n1 : Nat} {f g : Nat → Int32} (hq : q0 ≠ q1) (hle : n0 ≤ n1) (hn : n1 < 100000) (he0 : ws[q0]? = some (a0, .inl (za_tc E 0, n0, .inl f))) (he1 : ws[q1]? = some (a1, .inl (za_tc E 0, n1, .inl g)))
    (kk : ∀ (H : Heap) (locs : List Loc) (ls : Array Slot), lv_has ls 4 [] → va_P (za_D E) vwCl (ws.set q1 (a1, .inl (za_tc E 0, n1, .inl (va_cpy f g 0 0 n0)))) H → va_D (za_A E) (ws.set q1 (a1, .inl (za_tc E 0, n1, .inl (va_cpy f g 0 0 n0)))) → va_S (za_A E) s.heap H locs → W p l e R s m args below meth c H locs 0 0 Q (F0 m 20 ls [])) :
    ∀ (r i : Nat) (x : Int32), i + r = n0 → x.toInt = Int.ofNat i → ∀ (H : Heap) (locs : List Loc) (ls : Array Slot), lv_has ls 4 [(3, .int x), (0, .ref aT), (1, .ref a0), (2, .ref a1)] → va_P (za_D E) vwCl (ws.set q1 (a1, .inl (za_tc E 0, n1, .inl (va_cpy f g 0 0 i)))) H → va_D (za_A E) (ws.set q1 (a1, .inl (za_tc E 0, n1, .inl (va_cpy f g 0 0 i)))) → va_S (za_A E) s.heap H locs → W p l e R s m args below meth c H locs 0 0 Q (F0 m 2 ls []) := by
  obtain ⟨hx, hb, hml, hr, hlocks, hnm, hown, htab, K, hW, h0, hdec, hRf, hRl, hRc, hRs⟩ := X
  have hK := zk_K K hW
  have dk : ∀ {pc : Nat} {i : Instr}, za_fe za_i205 pc = some i → za_sw i = false → decode prog_14_method_7_code pc = .ok (i, za_ln i) := fun h1 h2 => za_fe_1 hdec h1 h2
  have hb : c.code = prog_14_method_7_code := hb
  have hl1 : q1 < ws.length := (List.getElem?_eq_some_iff.mp he1).1
  intro r
  induction r with
  | zero =>
    intro i x hi hxi H locs ls hl hP hD hS
    have hi' : i = n0 := by omega
    have h0' : (ws.set q1 (a1, .inl (za_tc E 0, n1, .inl (va_cpy f g 0 0 i))))[q0]? = some (a0, .inl (za_tc E 0, n0, .inl f)) := by rw [List.getElem?_set_ne (Ne.symm hq)]; exact he0
    refine lv_iload_n hx hb (dk rfl rfl) rfl (lv_at hl 0 rfl) ?_
    refine lv_aload_n hx hb (dk (pc := 3) rfl rfl) rfl (lv_at hl 2 rfl) ?_
    refine va_alen (tys := za_tys E) hx hb hK hP q0 0 h0' rfl rfl (dk (pc := 4) rfl rfl) ?_
    refine lv_icmp_ge (tgt := 20) hx hb (dk (pc := 5) rfl rfl) rfl (fun _ => ?_) (fun hc => ?_)
    · subst hi'
      exact kk H locs ls ⟨hl.1, hl.2.1, fun z hz => absurd hz List.not_mem_nil⟩ hP hD hS
    · exfalso
      apply hc
      rw [Int32.le_iff_toInt_le, za_n_len (by omega), hxi, hi']
      exact Int.le_refl _
  | succ r ih =>
    intro i x hi hxi H locs ls hl hP hD hS
    have h0' : (ws.set q1 (a1, .inl (za_tc E 0, n1, .inl (va_cpy f g 0 0 i))))[q0]? = some (a0, .inl (za_tc E 0, n0, .inl f)) := by rw [List.getElem?_set_ne (Ne.symm hq)]; exact he0
    have h1' : (ws.set q1 (a1, .inl (za_tc E 0, n1, .inl (va_cpy f g 0 0 i))))[q1]? = some (a1, .inl (za_tc E 0, n1, .inl (va_cpy f g 0 0 i))) := List.getElem?_set_self hl1
    have hcl := (za_clamp hxi).1
    refine lv_iload_n hx hb (dk rfl rfl) rfl (lv_at hl 0 rfl) ?_
    refine lv_aload_n hx hb (dk (pc := 3) rfl rfl) rfl (lv_at hl 2 rfl) ?_
    refine va_alen (tys := za_tys E) hx hb hK hP q0 0 h0' rfl rfl (dk (pc := 4) rfl rfl) ?_
    refine lv_icmp_ge (tgt := 20) hx hb (dk (pc := 5) rfl rfl) rfl (fun hc => ?_) (fun _ => ?_)
    · exfalso
      rw [Int32.le_iff_toInt_le, za_n_len (by omega), hxi] at hc
      have hc' : (n0 : Int) ≤ (i : Int) := hc
      omega
    · refine lv_aload_n hx hb (dk (pc := 8) rfl rfl) rfl (lv_at hl 3 rfl) ?_
      refine lv_iload_n hx hb (dk (pc := 9) rfl rfl) rfl (lv_at hl 0 rfl) ?_
      refine lv_aload_n hx hb (dk (pc := 10) rfl rfl) rfl (lv_at hl 2 rfl) ?_
      refine lv_iload_n hx hb (dk (pc := 11) rfl rfl) rfl (lv_at hl 0 rfl) ?_
      refine va_iald (tys := za_tys E) hx hb hK hP q0 0 h0' rfl (za_vin hxi (by omega)) (dk (pc := 12) rfl rfl) ?_
      refine va_iast (tys := za_tys E) hx hb hK hP hD hS q1 0 h1' rfl (za_vin hxi (by omega)) (dk (pc := 13) rfl rfl) (fun H1 locs1 g1 g2 g3 => ?_)
      rw [hcl, zq_upd, List.set_set] at g1 g2
      refine lv_iinc hx hb (dk (pc := 14) rfl rfl) hl (k := 0) rfl rfl (by decide) rfl (fun ls' hl' => ?_)
      refine lv_goto (tgt := 2) hx hb (dk (pc := 17) rfl rfl) rfl ?_
      refine ih (i + 1) _ (by omega) ?_ H1 locs1 ls' hl' g1 g2 g3
      rw [Int32.toInt_add, hxi, show (Int32.ofInt 1).toInt = 1 from by decide, za_bmod (by show (-2147483648 : Int) ≤ (i : Int) + 1; omega) (by show (i : Int) + 1 ≤ 2147483647; omega)]
      rfl
end ZQ
def za_cps (as : List za_V) (h : List za_O) (ρ : za_R) : Option (List za_X) := match as with
  | [.inr (.inr (some (_ + 1))), .inr (.inr (some (q0 + 1))), .inr (.inr (some (q1 + 1)))] => match h[q0]?, h[q1]? with
    | some (.inr (.inl (0, n0, d0, u0))), some (.inr (.inl (0, n1, d1, u1))) => bif Nat.ble n0 n1 then bif Nat.blt n1 100000 then bif Nat.beq q0 q1 then none else some [(.inl none, h.set q1 (.inr (.inl (0, n1, d1, za_cpy d0 u0 d1 u1 0 0 n0))), ρ)] else none else none
    | _, _ => none
  | _ => none
def za_callG (L fuel : Nat) : Nat → za_CF
  | 0, _, _, _, _ => none
  | d + 1, j, as, h, ρ => bif Nat.beq j 205 then za_cps as h ρ else match za_MTf j, za_TTf j with
    | some M, some T => bif Nat.ble (za_wt as) (za_nL M) then za_run (za_stepF L M T (za_CP (za_cl M)) za_MTf (za_callG L fuel d)) fuel [(0, za_args 0 as, [], h, ρ, 0, 0)] [] else none
    | _, _ => none
theorem zq_met {l : Launch} {E : za_E} {s0 : State} {L d : Nat} {as : List za_V} {h : List za_O} {ρ : za_R} {xs : List za_X} {ads : List Nat} (K : za_K0 l E L s0) (hc : za_cps as h ρ = some xs) :
    vx_Met l zM5.1 [za_word zM5] (za_rm (d + 1) zM5) (za_Pc E s0 ads as h ρ) (za_Qc E ads xs) (za_XC E ads xs) (za_mc zM5) (za_ms zM5) (za_A E) := by
  obtain ⟨o1, o2, -⟩ := zj_ok zM5_ok
  refine MetFree.of_bodySF (code := zM5.2.1) (maxLocals := za_nL zM5) (ret := za_rt zM5) o1 ?_ ?_
  · intro args s m h hn
    obtain ⟨meth, c, h1, h2, h3, h4, h5, h6, -⟩ := zj_spec (atoms_spec (ws := [za_word zM5]) h _ List.mem_cons_self) hn
    exact ⟨meth, c, h1, h2, h3, h4, h5, h6⟩
  · intro p e s m args below meth c s₁ B hml hP _
    have hh0 : s₁.heap = s.heap := by rw [B.state]; rfl
    obtain ⟨vs, rfl, hA, hok, hWd, hW, hBl⟩ := hP
    have htab : c.exceptionTable.toList = tableOf (za_hh zM5) := by
      obtain ⟨meth9, c9, h1, h2, -, -, -, -, h7⟩ := zj_spec (atoms_spec (ws := [za_word zM5]) B.pre _ List.mem_cons_self) B.named
      cases Option.some.inj (h1.symm.trans B.method)
      cases Option.some.inj (h2.symm.trans (Stand.of_body B).code)
      exact h7
    have X : za_Cx p l (headSpec [za_word zM5] (za_rm (d + 1) zM5)).room s m vs.toArray meth c E L s0 d zM5 := ⟨B.exec, B.bytes, hml, B.returns, B.notSynchronized, (name_of_methodNamed B.named B.method).1, by rw [o2]; exact findClass_of_methodNamed B.named, htab, K, hW, hBl, zm_d zM5 (zm_all zM5_ok), by show d + 9 ≤ d + 1 + 8; omega, by show 64 * d + 259 ≤ 64 * (d + 1) + 200; omega, rfl, rfl⟩
    have hG : W p l e (headSpec [za_word zM5] (za_rm (d + 1) zM5)).room s m vs.toArray below meth c s.heap [] 0 0 (vx_MQ below (za_Qc E ads xs) (za_XC E ads xs) vs.toArray s (za_mc zM5) (za_ms zM5) (za_A E)) (F0 m 0 ((lg_sl vs ++ List.replicate (4 - (lg_sl vs).length) Slot.unset).toArray) []) := by
      obtain ⟨hx, hb, -, hr, hlocks, -, -, -, -, -, h0, hdec, -⟩ := id X
      have hb' : c.code = prog_14_method_7_code := hb
      have dk : ∀ {pc : Nat} {i : Instr}, za_fe za_i205 pc = some i → za_sw i = false → decode prog_14_method_7_code pc = .ok (i, za_ln i) := fun h1 h2 => za_fe_1 hdec h1 h2
      unfold za_cps at hc
      split at hc
      · rename_i qT q0 q1
        split at hc
        · rename_i n0 d0 u0 n1 d1 u1 o0 o1
          obtain ⟨b1, hc⟩ := za_bif hc
          obtain ⟨b2, hc⟩ := za_bif hc
          obtain ⟨b3, hc⟩ := za_bifn hc
          cases hc
          have hq : q0 ≠ q1 := fun h9 => by
            subst h9
            rw [za_beq_r] at b3
            cases b3
          obtain ⟨_, vs1, rfl, ⟨aT, rfl, hT⟩, k1⟩ := za_F2_cons hA
          obtain ⟨_, vs2, rfl, ⟨a0, rfl, ha0⟩, k2⟩ := za_F2_cons k1
          obtain ⟨_, vs3, rfl, ⟨a1, rfl, ha1⟩, k3⟩ := za_F2_cons k2
          cases za_F2_nil k3
          obtain ⟨ws, x0, e1, e2, e3, e4, e5, e6⟩ := za_obj hWd ha0 o0
          obtain ⟨f, rfl, ht, e7⟩ := za_gO_i e6
          obtain ⟨z, z1, z2⟩ := za_F2_get e2 o1
          obtain ⟨g, z3, _, e8⟩ := za_gO_i z2
          have z4 : ws[q1]? = some (a1, .inl (za_tc E 0, n1, .inl g)) := by
            rw [e1, List.getElem?_cons_succ, List.getElem?_map, z1] at ha1
            have e9 : z.1 = a1 := Option.some.inj ha1
            rw [z1, ← e9, ← z3]
          have hcp0 : va_cpy f g 0 0 0 = g := by
            funext k
            unfold va_cpy
            rw [if_neg (by omega)]
          have hset : ws.set q1 (a1, .inl (za_tc E 0, n1, .inl (va_cpy f g 0 0 0))) = ws := by
            rw [hcp0]
            apply List.ext_getElem?
            intro i9
            by_cases h9 : q1 = i9
            · subst h9
              rw [List.getElem?_set_self (List.getElem?_eq_some_iff.mp z4).1, z4]
            · rw [List.getElem?_set_ne h9]
          have hent : lv_has ((lg_sl [Value.ref aT, Value.ref a0, Value.ref a1] ++ List.replicate (4 - (lg_sl [Value.ref aT, Value.ref a0, Value.ref a1]).length) Slot.unset).toArray) 4 (lv_args 0 [Value.ref aT, Value.ref a0, Value.ref a1]) := lv_entry _ (by show 3 ≤ 4; decide)
          refine lv_iconst hx hb' (dk (pc := 0) rfl rfl) rfl ?_
          refine lv_istore_n (lv' := [(3, .int (Int32.ofInt 0)), (0, .ref aT), (1, .ref a0), (2, .ref a1)]) hx hb' (dk (pc := 1) rfl rfl) rfl hent (by decide) rfl (fun ls' hl' => ?_)
          refine zq_loop X hq (za_ble b1) (za_blt b2) e5 z4 (fun H locs ls hl hP hD hS => ?_) n0 0 (Int32.ofInt 0) (by omega) (by decide) s.heap [] ls' hl' (by rw [hset]; exact e3) (by rw [hset]; exact e4) ⟨Nat.le_refl _, fun _ _ _ => rfl, fun z hz => absurd hz List.not_mem_nil⟩
          refine zs_vret (lv := []) (t := (h.set q1 (.inr (.inl (0, n1, d1, za_cpy d0 u0 d1 u1 0 0 n0))), ρ, 0, 0)) (nL := 4) (ads0 := ads) hx hb' hr hlocks h0 (dk (pc := 20) rfl rfl) (show za_vret 0 0 none [] (h.set q1 (.inr (.inl (0, n1, d1, za_cpy d0 u0 d1 u1 0 0 n0))), ρ, 0, 0) = some ([], [(.inl none, h.set q1 (.inr (.inl (0, n1, d1, za_cpy d0 u0 d1 u1 0 0 n0))), ρ)]) from rfl) (fun x hx => hx) ads H locs ls [] ⟨List.prefix_rfl, hok, trivial, ⟨[], hl, trivial⟩, ?_, hS⟩
          refine za_set e1 e2 z4 (o := .inr (.inl (0, n1, d1, za_cpy d0 u0 d1 u1 0 0 n0))) ?_ hP hD
          refine ⟨rfl, by decide, rfl, fun j hj => ?_⟩
          rw [za_cpy_at]
          have b1 := za_ble b1
          unfold va_cpy
          by_cases e9 : 0 ≤ j ∧ j < 0 + n0
          · rw [if_pos e9, if_pos e9]
            exact e7 _ (by omega)
          · rw [if_neg e9, if_neg e9]
            exact e8 j hj
        · cases hc
      · cases hc
    rw [lg_entry_eq]
    obtain ⟨t, a1, o, b1, b2, b3⟩ := hG s₁ hh0 (Stand.of_body B)
    exact ⟨t, o, a1, b1, b2, b3⟩
theorem zg_allG {l : Launch} {E : za_E} {s0 : State} {L fuel : Nat} (K : za_K0 l E L s0) : ∀ d : Nat, za_IH l E s0 d (za_callG L fuel d)
  | 0 => by
    intro j Y as h ρ xs ads hj hc
    cases hc
  | d + 1 => by
    intro j Y as h ρ xs ads hj hc
    unfold za_callG at hc
    cases hb : Nat.beq j 205 with
    | true =>
      rw [hb] at hc
      have h9 := za_beq hb
      subst h9
      cases Option.some.inj (hj.symm.trans zM5_ok)
      exact zq_met K hc
    | false =>
      rw [hb, cond_false] at hc
      split at hc
      · rename_i M T hM hT
        rw [ze_M, hj] at hM
        cases hM
        obtain ⟨g1, hc⟩ := za_bif hc
        obtain ⟨o1, o2, -⟩ := zj_ok hj
        exact zg_met (ze_flat hj hT) K (zg_allG K d) o1 o2 (zm_d _ (zm_all hj)) (za_ble g1) hc
      · cases hc
