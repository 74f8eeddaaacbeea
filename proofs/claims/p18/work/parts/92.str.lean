/-! ===== the words that the reader knows: String.length, String.charAt over the constant ===== -/
def zS_by : List Int32 := zp_spell.map Int32.ofNat
/-- the constant at the start: its object, its bytes; what String's methods ask besides -/
def zS_K (E : za_E) (s0 : State) (a b : Nat) : Prop := va_Z RJ0 "COMPACT_STRINGS" "Z" (.int 1) (za_A E) s0 s0.heap ∧ va_Zq RJ3 "SIOOBE_FORMATTER" "Ljava/util/function/BiFunction;" (za_A E) s0 s0.heap ∧ va_O RJ0 a (za_A E) s0 s0.heap ∧ va_OF RJ0 "coder" "B" (.int 0) a (za_A E) s0 s0.heap ∧ va_OF RJ0 "value" "[B" (.ref b) a (za_A E) s0 s0.heap ∧ va_T .byte b 101 (fun j => .int (zS_by.getD j 0)) (za_A E) s0 s0.heap ∧ ∃ tx, vk_R RX9 56 tx a s0
def zS_Pc (E : za_E) (s0 : State) (as : List Value) : Array Value → State → Prop := fun a U => a = as.toArray ∧ s0.WarmedH U.vm ∧ za_Bl E U.heap
def zS_Qc (v : Option Value) : Array Value → State → Outcome → State → Prop := fun _ s o t => o = .returned v ∧ t.heap = s.heap
theorem zS_blind {E : za_E} {s0 : State} {as : List Value} : FrameBlind (zS_Pc E s0 as) := fun _ _ _ _ q => q
theorem zS_np {y : MethodName} {n : Nat} (h : (parseMethodDescriptor y.desc).map (fun d => d.parameters.length) = some n) : ∀ sig, parseMethodDescriptor y.desc = some sig → n = sig.parameters.length := by
  intro sig hs
  rw [hs] at h
  exact (Option.some.inj h).symm
abbrev zS_r (n : Nat) : Room := { frames := n, cells := 0, slots := 0, locals := 40 * n }
theorem zSd_c0 : decode cJ0_coder_7d493 0 = .ok (.getstatic 38, 3) := by decide +kernel
theorem zSd_c3 : decode cJ0_coder_7d493 3 = .ok (.ifCond .eq 10, 3) := by decide +kernel
theorem zSd_c6 : decode cJ0_coder_7d493 6 = .ok (.aload_n 0, 1) := by decide +kernel
theorem zSd_c7 : decode cJ0_coder_7d493 7 = .ok (.getfield 15, 3) := by decide +kernel
theorem zSd_c10 : decode cJ0_coder_7d493 10 = .ok (.goto 4, 3) := by decide +kernel
theorem zSd_c14 : decode cJ0_coder_7d493 14 = .ok (.ireturn, 1) := by decide +kernel
theorem zSd_i0 : decode prog_24_method_154_code 0 = .ok (.getstatic 38, 3) := by decide +kernel
theorem zSd_i3 : decode prog_24_method_154_code 3 = .ok (.ifCond .eq 14, 3) := by decide +kernel
theorem zSd_i6 : decode prog_24_method_154_code 6 = .ok (.aload_n 0, 1) := by decide +kernel
theorem zSd_i7 : decode prog_24_method_154_code 7 = .ok (.getfield 15, 3) := by decide +kernel
theorem zSd_i10 : decode prog_24_method_154_code 10 = .ok (.ifCond .ne 7, 3) := by decide +kernel
theorem zSd_i13 : decode prog_24_method_154_code 13 = .ok (.iconst 1, 1) := by decide +kernel
theorem zSd_i14 : decode prog_24_method_154_code 14 = .ok (.goto 4, 3) := by decide +kernel
theorem zSd_i18 : decode prog_24_method_154_code 18 = .ok (.ireturn, 1) := by decide +kernel
theorem zSd_l0 : decode cJ0_length_8abf5 0 = .ok (.aload_n 0, 1) := by decide +kernel
theorem zSd_l1 : decode cJ0_length_8abf5 1 = .ok (.getfield 9, 3) := by decide +kernel
theorem zSd_l4 : decode cJ0_length_8abf5 4 = .ok (.arraylength, 1) := by decide +kernel
theorem zSd_l5 : decode cJ0_length_8abf5 5 = .ok (.aload_n 0, 1) := by decide +kernel
theorem zSd_l6 : decode cJ0_length_8abf5 6 = .ok (.invokevirtual 335, 3) := by decide +kernel
theorem zSd_l9 : decode cJ0_length_8abf5 9 = .ok (.ishr, 1) := by decide +kernel
theorem zSd_l10 : decode cJ0_length_8abf5 10 = .ok (.ireturn, 1) := by decide +kernel
theorem zSd_p0 : decode cJ3_checkIndex_8e157 0 = .ok (.iload_n 0, 1) := by decide +kernel
theorem zSd_p1 : decode cJ3_checkIndex_8e157 1 = .ok (.ifCond .lt 8, 3) := by decide +kernel
theorem zSd_p4 : decode cJ3_checkIndex_8e157 4 = .ok (.iload_n 0, 1) := by decide +kernel
theorem zSd_p5 : decode cJ3_checkIndex_8e157 5 = .ok (.iload_n 1, 1) := by decide +kernel
theorem zSd_p6 : decode cJ3_checkIndex_8e157 6 = .ok (.if_icmp .lt 10, 3) := by decide +kernel
theorem zSd_p16 : decode cJ3_checkIndex_8e157 16 = .ok (.iload_n 0, 1) := by decide +kernel
theorem zSd_p17 : decode cJ3_checkIndex_8e157 17 = .ok (.ireturn, 1) := by decide +kernel
theorem zSd_k0 : decode prog_24_method_155_code 0 = .ok (.iload_n 0, 1) := by decide +kernel
theorem zSd_k1 : decode prog_24_method_155_code 1 = .ok (.iload_n 1, 1) := by decide +kernel
theorem zSd_k2 : decode prog_24_method_155_code 2 = .ok (.getstatic 1053, 3) := by decide +kernel
theorem zSd_k5 : decode prog_24_method_155_code 5 = .ok (.invokestatic 1059, 3) := by decide +kernel
theorem zSd_k8 : decode prog_24_method_155_code 8 = .ok (.pop, 1) := by decide +kernel
theorem zSd_k9 : decode prog_24_method_155_code 9 = .ok (.return_, 1) := by decide +kernel
theorem zSd_t0 : decode cJ1_charAt_3b067 0 = .ok (.iload_n 1, 1) := by decide +kernel
theorem zSd_t1 : decode cJ1_charAt_3b067 1 = .ok (.aload_n 0, 1) := by decide +kernel
theorem zSd_t2 : decode cJ1_charAt_3b067 2 = .ok (.arraylength, 1) := by decide +kernel
theorem zSd_t3 : decode cJ1_charAt_3b067 3 = .ok (.invokestatic 9, 3) := by decide +kernel
theorem zSd_t6 : decode cJ1_charAt_3b067 6 = .ok (.aload_n 0, 1) := by decide +kernel
theorem zSd_t7 : decode cJ1_charAt_3b067 7 = .ok (.iload_n 1, 1) := by decide +kernel
theorem zSd_t8 : decode cJ1_charAt_3b067 8 = .ok (.baload, 1) := by decide +kernel
theorem zSd_t9 : decode cJ1_charAt_3b067 9 = .ok (.sipush 255, 3) := by decide +kernel
theorem zSd_t12 : decode cJ1_charAt_3b067 12 = .ok (.iand, 1) := by decide +kernel
theorem zSd_t13 : decode cJ1_charAt_3b067 13 = .ok (.i2c, 1) := by decide +kernel
theorem zSd_t14 : decode cJ1_charAt_3b067 14 = .ok (.ireturn, 1) := by decide +kernel
theorem zSd_h0 : decode cJ0_charAt_5068e 0 = .ok (.aload_n 0, 1) := by decide +kernel
theorem zSd_h1 : decode cJ0_charAt_5068e 1 = .ok (.invokevirtual 492, 3) := by decide +kernel
theorem zSd_h4 : decode cJ0_charAt_5068e 4 = .ok (.ifCond .eq 12, 3) := by decide +kernel
theorem zSd_h7 : decode cJ0_charAt_5068e 7 = .ok (.aload_n 0, 1) := by decide +kernel
theorem zSd_h8 : decode cJ0_charAt_5068e 8 = .ok (.getfield 9, 3) := by decide +kernel
theorem zSd_h11 : decode cJ0_charAt_5068e 11 = .ok (.iload_n 1, 1) := by decide +kernel
theorem zSd_h12 : decode cJ0_charAt_5068e 12 = .ok (.invokestatic 495, 3) := by decide +kernel
theorem zSd_h15 : decode cJ0_charAt_5068e 15 = .ok (.ireturn, 1) := by decide +kernel
/-! words -/
def zS_ws : List Cond := [.fieldLink RJ0 38 RJ0 "COMPACT_STRINGS" "Z", .fieldLink RJ0 15 RJ0 "coder" "B", .fieldLink RJ0 9 RJ0 "value" "[B",
  .code yJ0_coder_7d493 cJ0_coder_7d493 1 (some .byte), .initialized RJ0, .methodLink RJ0 335 yJ0_coder_7d493, .instanceMethod yJ0_coder_7d493, .selects RJ0 yJ0_coder_7d493 yJ0_coder_7d493,
  .code yJ0_isLatin1_aae02 prog_24_method_154_code 1 (some .boolean), .methodLink RJ0 492 yJ0_isLatin1_aae02, .instanceMethod yJ0_isLatin1_aae02, .selects RJ0 yJ0_isLatin1_aae02 yJ0_isLatin1_aae02,
  .code yJ3_checkIndex_8e157 cJ3_checkIndex_8e157 3 (some .int), .initialized RJ3, .methodLink RJ0 1059 yJ3_checkIndex_8e157, .static yJ3_checkIndex_8e157,
  .fieldLink RJ0 1053 RJ3 "SIOOBE_FORMATTER" "Ljava/util/function/BiFunction;",
  .code yJ0_checkIndex_df160 prog_24_method_155_code 2 none, .methodLink RJ1 9 yJ0_checkIndex_df160, .static yJ0_checkIndex_df160,
  .code yJ1_charAt_3b067 cJ1_charAt_3b067 2 (some .char), .initialized RJ1, .methodLink RJ0 495 yJ1_charAt_3b067, .static yJ1_charAt_3b067,
  .code yJ0_length_8abf5 cJ0_length_8abf5 1 (some .int), .methodLink RX9 58 yJ0_length_8abf5, .instanceMethod yJ0_length_8abf5, .selects RJ0 yJ0_length_8abf5 yJ0_length_8abf5,
  .code yJ0_charAt_5068e cJ0_charAt_5068e 2 (some .char), .methodLink RX9 63 yJ0_charAt_5068e, .instanceMethod yJ0_charAt_5068e, .selects RJ0 yJ0_charAt_5068e yJ0_charAt_5068e]
theorem zS_in : ∀ w ∈ zS_ws, w ∈ za_wd := by decide +kernel
section ZST
variable {p : Program} {l : Launch} {e : Env} {R : Room} {s s0 : State} {m : MethodId} {args : Array Value} {below : List Frame} {meth : Method} {c : Code} {E : za_E} {L : Nat} {Q : State → Prop} {a b : Nat}
theorem zS_w (K : za_K0 l E L s0) (hW : s0.WarmedH s.vm) (i : Nat) {w : Cond} (h : zS_ws[i]? = some w) {a9 : Array Value} : w.before a9 s = true := zk_w K hW _ (zS_in _ (List.mem_of_getElem? h))
theorem zS_q (K : za_K0 l E L s0) (hB : za_Bl E s.heap) : ∀ a : Nat, a < s0.heap.size → ¬ za_A E a → s.heap[a]? = s0.heap[a]? := by
  have hH0 : s0.heap = za_H0 E := K.2.1.symm
  intro a ha _
  rw [hH0] at ha ⊢
  exact hB.2 a ha
theorem zS_at (K : za_K0 l E L s0) (hW : s0.WarmedH s.vm) (hB : za_Bl E s.heap) (h : zS_K E s0 a b) : va_Z RJ0 "COMPACT_STRINGS" "Z" (.int 1) (za_A E) s s.heap ∧ va_Zq RJ3 "SIOOBE_FORMATTER" "Ljava/util/function/BiFunction;" (za_A E) s s.heap ∧ va_O RJ0 a (za_A E) s s.heap ∧ va_OF RJ0 "coder" "B" (.int 0) a (za_A E) s s.heap ∧ va_OF RJ0 "value" "[B" (.ref b) a (za_A E) s s.heap ∧ va_T .byte b 101 (fun j => .int (zS_by.getD j 0)) (za_A E) s s.heap := by
  obtain ⟨h1, h2, h3, h4, h5, h6, -⟩ := h
  have q := zS_q K hB
  exact ⟨(h1.kept q).moved hW.alike, (h2.kept q).moved hW.alike, (h3.kept q).moved hW.alike, (h4.kept q).moved hW.alike, (h5.kept q).moved hW.alike, (h6.kept q).moved hW.alike⟩
/-- a call that leaves the heap as it is -/
theorem zS_call {H : Heap} {locs : List Loc} {cells slots : Nat} {ls : Array Slot} {pc : Nat} {st0 rest : List Value} {v : Option Value} {a9 : Array Value} (hr : va_Run p l e R s m args below meth c H locs cells slots 0 0 (F0 m pc ls st0) rest (zS_Qc v a9) (za_A E)) (hS : va_S (za_A E) s.heap H locs) (kk : ∀ locs1, va_S (za_A E) s.heap H locs1 → W p l e R s m args below meth c H locs1 cells slots Q (F0 m (pc + 3) ls (v.toList ++ rest))) : W p l e R s m args below meth c H locs cells slots Q (F0 m pc ls st0) := by
  intro T hT X
  obtain ⟨v9, st₀, t, T', L9, h0, X', hL, e1, e2, ⟨hv, hh⟩, st⟩ := hr T hT X
  cases hv
  have hS1 : va_S (za_A E) s.heap H (locs ++ L9) := ⟨hS.1, hS.2.1, fun z hz => by
    rcases List.mem_append.mp hz with z1 | z1
    · exact hS.2.2 z z1
    · exact hL z z1⟩
  obtain ⟨t2, a1, b1⟩ := kk (locs ++ L9) hS1 T' (by rw [e1, hh, h0]) X'
  exact ⟨t2, st t2 a1, b1⟩
theorem zS_CB (K : za_K0 l E L s0) (hW : s0.WarmedH s.vm) {own : String} {k n maxL r : Nat} {y : MethodName} {cc : ByteArray} {ret : Option FieldType} (i1 i2 i3 : Nat) (h1 : zS_ws[i1]? = some (.code y cc maxL ret)) (h2 : zS_ws[i2]? = some (.initialized y.cls)) (h3 : zS_ws[i3]? = some (.methodLink own k y)) (hd : y.cls ≠ "java/lang/invoke/MethodHandle" ∧ y.cls ≠ "java/lang/invoke/VarHandle") (hn : (parseMethodDescriptor y.desc).map (fun d => d.parameters.length) = some n) (hf : r + 1 ≤ R.frames) (hl : 8 + (maxL + 11) + 40 * r ≤ R.locals) : CallB R s args own k y cc maxL ret [.code y cc maxL ret] (zS_r r) 0 0 n := by
  refine ⟨rfl, rfl, hf, hl, ?_, List.mem_cons_self, zS_w K hW i1 h1, zS_w K hW i2 h2, hd, zS_np hn, zS_w K hW i3 h3⟩
  intro w hw a' U hU
  cases List.mem_singleton.mp hw
  exact zS_w K (State.WarmedH.trans hW hU) i1 h1
theorem zS_coder (K : za_K0 l E L s0) (hK : zS_K E s0 a b) : Met l yJ0_coder_7d493 [.code yJ0_coder_7d493 cJ0_coder_7d493 1 (some .byte)] (zS_r 0) (zS_Pc E s0 [.ref a]) (zS_Qc (some (.int 0))) 0 0 (za_A E) := by
  refine Met.ofW (cc := cJ0_coder_7d493) (maxL := 1) (ret := some .byte) (by decide) rfl ?_
  intro p e s m args below meth c s₁ B hml hv
  obtain ⟨rfl, hW, hBl⟩ := hv
  have hx := B.exec
  have hb := B.bytes
  have hr := B.returns
  have hown : s.vm.findClass RJ0 = some m.cls := findClass_of_methodNamed B.named
  have hlocks := B.notSynchronized
  obtain ⟨k1, k2, k3, k4, k5, k6⟩ := zS_at K hW hBl hK
  have hS : va_S (za_A E) s.heap s.heap [] := va_S.rf
  have hl := lv_entry ([.ref a]) (n := 1) (Nat.le_of_ble_eq_true rfl)
  rw [lg_entry_eq]
  generalize (lg_sl ([.ref a]) ++ List.replicate (1 - (lg_sl ([.ref a])).length) Slot.unset).toArray = ls at hl ⊢
  have hl : lv_has ls 1 [(0, .ref a)] := hl
  refine va_gets hx hb k1 hS hown (zS_w K hW 0 rfl) (fun _ h => h) zSd_c0 ?_
  refine lv_if_eq (tgt := 13) hx hb zSd_c3 rfl (fun h => absurd h (by decide)) (fun _ => ?_)
  refine lv_aload_n hx hb zSd_c6 rfl (lv_at hl 0 rfl) ?_
  refine vk_getf hx hb k4 hS hown (zS_w K hW 1 rfl) (fun _ h => h) zSd_c7 ?_
  refine lv_goto (tgt := 14) hx hb zSd_c10 rfl ?_
  exact W.zret hx hb hr (by rfl) (fun t ht _ => ⟨rfl, ht⟩) hS.2.2 zSd_c14 hlocks
theorem zS_isL (K : za_K0 l E L s0) (hK : zS_K E s0 a b) : Met l yJ0_isLatin1_aae02 [.code yJ0_isLatin1_aae02 prog_24_method_154_code 1 (some .boolean)] (zS_r 0) (zS_Pc E s0 [.ref a]) (zS_Qc (some (.int 1))) 0 0 (za_A E) := by
  refine Met.ofW (cc := prog_24_method_154_code) (maxL := 1) (ret := some .boolean) (by decide) rfl ?_
  intro p e s m args below meth c s₁ B hml hv
  obtain ⟨rfl, hW, hBl⟩ := hv
  have hx := B.exec
  have hb := B.bytes
  have hr := B.returns
  have hown : s.vm.findClass RJ0 = some m.cls := findClass_of_methodNamed B.named
  have hlocks := B.notSynchronized
  obtain ⟨k1, k2, k3, k4, k5, k6⟩ := zS_at K hW hBl hK
  have hS : va_S (za_A E) s.heap s.heap [] := va_S.rf
  have hl := lv_entry ([.ref a]) (n := 1) (Nat.le_of_ble_eq_true rfl)
  rw [lg_entry_eq]
  generalize (lg_sl ([.ref a]) ++ List.replicate (1 - (lg_sl ([.ref a])).length) Slot.unset).toArray = ls at hl ⊢
  have hl : lv_has ls 1 [(0, .ref a)] := hl
  refine va_gets hx hb k1 hS hown (zS_w K hW 0 rfl) (fun _ h => h) zSd_i0 ?_
  refine lv_if_eq (tgt := 17) hx hb zSd_i3 rfl (fun h => absurd h (by decide)) (fun _ => ?_)
  refine lv_aload_n hx hb zSd_i6 rfl (lv_at hl 0 rfl) ?_
  refine vk_getf hx hb k4 hS hown (zS_w K hW 1 rfl) (fun _ h => h) zSd_i7 ?_
  refine lv_if_ne (tgt := 17) hx hb zSd_i10 rfl (fun h => absurd rfl h) (fun _ => ?_)
  refine lv_iconst hx hb zSd_i13 rfl ?_
  refine lv_goto (tgt := 18) hx hb zSd_i14 rfl ?_
  exact W.zret hx hb hr (by rfl) (fun t ht _ => ⟨rfl, ht⟩) hS.2.2 zSd_i18 hlocks
theorem zS_length (K : za_K0 l E L s0) (hK : zS_K E s0 a b) : Met l yJ0_length_8abf5 [.code yJ0_length_8abf5 cJ0_length_8abf5 1 (some .int)] (zS_r 1) (zS_Pc E s0 [.ref a]) (zS_Qc (some (.int (Int32.ofNat zp_spell.length)))) 0 0 (za_A E) := by
  refine Met.ofW (cc := cJ0_length_8abf5) (maxL := 1) (ret := some .int) (by decide) rfl ?_
  intro p e s m args below meth c s₁ B hml hv
  obtain ⟨rfl, hW, hBl⟩ := hv
  have hx := B.exec
  have hb := B.bytes
  have hr := B.returns
  have hown : s.vm.findClass RJ0 = some m.cls := findClass_of_methodNamed B.named
  have hlocks := B.notSynchronized
  obtain ⟨k1, k2, k3, k4, k5, k6⟩ := zS_at K hW hBl hK
  have hS : va_S (za_A E) s.heap s.heap [] := va_S.rf
  have hl := lv_entry ([.ref a]) (n := 1) (Nat.le_of_ble_eq_true rfl)
  rw [lg_entry_eq]
  generalize (lg_sl ([.ref a]) ++ List.replicate (1 - (lg_sl ([.ref a])).length) Slot.unset).toArray = ls at hl ⊢
  have hl : lv_has ls 1 [(0, .ref a)] := hl
  refine lv_aload_n hx hb zSd_l0 rfl (lv_at hl 0 rfl) ?_
  refine vk_getf hx hb k5 hS hown (zS_w K hW 2 rfl) (fun _ h => h) zSd_l1 ?_
  refine va_tlen hx hb k6 hS rfl zSd_l4 ?_
  refine lv_aload_n hx hb zSd_l5 rfl (lv_at hl 0 rfl) ?_
  obtain ⟨cell, o1, o2, o3, -⟩ := k3
  refine zS_call (va_runV (Ts := []) (nL := 1) ⟨hx, hb, hml, hown, fun w hw => absurd hw List.not_mem_nil⟩ (zS_coder K hK) ⟨zS_CB K hW 3 4 5 rfl rfl rfl (by decide) (by decide) (by decide) (by decide), zS_w K hW 6 rfl, zS_w K hW 7 rfl⟩ ⟨zS_blind, ⟨cell, o1, o2, o3⟩, fun U hU hWU => ⟨rfl, State.WarmedH.trans hW hWU, by rw [hU]; exact hBl⟩⟩ rfl rfl hl.1 rfl (Nat.le_of_ble_eq_true rfl) zSd_l6 ⟨Nat.zero_le _, Nat.zero_le _⟩) hS (fun locs1 hS1 => ?_)
  refine lv_ishr hx hb zSd_l9 ?_
  exact W.iret hx hb hr (fun t ht _ => ⟨rfl, ht⟩) hS1.2.2 zSd_l10 hlocks
theorem zS_pre (K : za_K0 l E L s0) {x n : Int32} {w : Value} (h0 : ¬ x < 0) (h1 : x < n) (hw : w.category = 1) : Met l yJ3_checkIndex_8e157 [.code yJ3_checkIndex_8e157 cJ3_checkIndex_8e157 3 (some .int)] (zS_r 0) (zS_Pc E s0 [.int x, .int n, w]) (zS_Qc (some (.int x))) 0 0 (za_A E) := by
  refine Met.ofW (cc := cJ3_checkIndex_8e157) (maxL := 3) (ret := some .int) (by decide) rfl ?_
  intro p e s m args below meth c s₁ B hml hv
  obtain ⟨rfl, hW, hBl⟩ := hv
  have hx := B.exec
  have hb := B.bytes
  have hr := B.returns
  have hlocks := B.notSynchronized
  have hS : va_S (za_A E) s.heap s.heap [] := va_S.rf
  have hlen : (lg_sl ([.int x, .int n, w] : List Value)).length = 3 := by
    show (lg_sl ([.int x] : List Value) ++ (lg_sl ([.int n] : List Value) ++ ((if w.category = 2 then [Slot.val w, Slot.second] else [Slot.val w]) ++ []))).length = 3
    rw [hw]
    rfl
  have hl := lv_entry ([.int x, .int n, w]) (n := 3) (by rw [hlen]; exact Nat.le_refl _)
  rw [lg_entry_eq]
  generalize (lg_sl ([.int x, .int n, w] : List Value) ++ List.replicate (3 - (lg_sl ([.int x, .int n, w] : List Value)).length) Slot.unset).toArray = ls at hl ⊢
  refine lv_iload_n hx hb zSd_p0 rfl (lv_at hl 0 rfl) ?_
  refine lv_if_lt (tgt := 9) hx hb zSd_p1 rfl (fun h => absurd h h0) (fun _ => ?_)
  refine lv_iload_n hx hb zSd_p4 rfl (lv_at hl 0 rfl) ?_
  refine lv_iload_n hx hb zSd_p5 rfl (lv_at hl 1 rfl) ?_
  refine lv_icmp_lt (tgt := 16) hx hb zSd_p6 rfl (fun _ => ?_) (fun h => absurd h1 h)
  refine lv_iload_n hx hb zSd_p16 rfl (lv_at hl 0 rfl) ?_
  exact W.iret hx hb hr (fun t ht _ => ⟨rfl, ht⟩) hS.2.2 zSd_p17 hlocks
theorem zS_chk (K : za_K0 l E L s0) (hK : zS_K E s0 a b) {x n : Int32} (h0 : ¬ x < 0) (h1 : x < n) : Met l yJ0_checkIndex_df160 [.code yJ0_checkIndex_df160 prog_24_method_155_code 2 none] (zS_r 1) (zS_Pc E s0 [.int x, .int n]) (zS_Qc none) 0 0 (za_A E) := by
  refine Met.ofW (cc := prog_24_method_155_code) (maxL := 2) (ret := none) (by decide) rfl ?_
  intro p e s m args below meth c s₁ B hml hv
  obtain ⟨rfl, hW, hBl⟩ := hv
  have hx := B.exec
  have hb := B.bytes
  have hr := B.returns
  have hown : s.vm.findClass RJ0 = some m.cls := findClass_of_methodNamed B.named
  have hlocks := B.notSynchronized
  obtain ⟨k1, k2, k3, k4, k5, k6⟩ := zS_at K hW hBl hK
  have hS : va_S (za_A E) s.heap s.heap [] := va_S.rf
  have hl := lv_entry ([.int x, .int n]) (n := 2) (Nat.le_of_ble_eq_true rfl)
  rw [lg_entry_eq]
  generalize (lg_sl ([.int x, .int n]) ++ List.replicate (2 - (lg_sl ([.int x, .int n])).length) Slot.unset).toArray = ls at hl ⊢
  have hl : lv_has ls 2 [(0, .int x), (1, .int n)] := hl
  refine lv_iload_n hx hb zSd_k0 rfl (lv_at hl 0 rfl) ?_
  refine lv_iload_n hx hb zSd_k1 rfl (lv_at hl 1 rfl) ?_
  have hZ : ∃ w : Value, w.category = 1 ∧ va_Z RJ3 "SIOOBE_FORMATTER" "Ljava/util/function/BiFunction;" w (za_A E) s s.heap := by
    rcases k2 with h | ⟨t, h⟩
    · exact ⟨.null, rfl, h⟩
    · exact ⟨.ref t, rfl, h⟩
  obtain ⟨w, hw, hZ⟩ := hZ
  refine va_gets hx hb hZ hS hown (zS_w K hW 16 rfl) (fun _ h => h) zSd_k2 ?_
  refine zS_call (va_runS (Ts := []) (nL := 2) (As := [.int x, .int n, w]) (rest := []) ⟨hx, hb, hml, hown, fun w hw => absurd hw List.not_mem_nil⟩ (zS_pre K h0 h1 hw) ⟨zS_CB (n := 3) K hW 12 13 14 rfl rfl rfl (by decide) (by decide) (by decide) (by decide), zS_w K hW 15 rfl⟩ ⟨zS_blind, fun U hU hWU => ⟨rfl, State.WarmedH.trans hW hWU, by rw [hU]; exact hBl⟩⟩ rfl rfl hl.1 rfl (Nat.le_of_ble_eq_true rfl) zSd_k5 ⟨Nat.zero_le _, Nat.zero_le _⟩) hS (fun locs1 hS1 => ?_)
  refine lv_pop hx hb zSd_k8 rfl ?_
  exact W.vret hx hb hr (fun t ht _ => ⟨rfl, ht⟩) hS1.2.2 zSd_k9 hlocks
def zS_ch (k : Nat) : Int32 := Int32.ofNat (zp_spell.getD k 0)
theorem zS_tab : (List.range 101).all (fun k => (decide (((zS_by.getD k 0 &&& (Int16.ofInt 255).toInt32).toUInt32 % 65536).toInt32 = zS_ch k)).and (decide ((zS_ch k).toUInt32.toUInt16.toUInt32.toInt32 = zS_ch k))) = true := by decide +kernel
theorem zS_t {k : Nat} (h : k < 101) : ((zS_by.getD k 0 &&& (Int16.ofInt 255).toInt32).toUInt32 % 65536).toInt32 = zS_ch k ∧ narrow .char (.int (zS_ch k)) = .int (zS_ch k) := by
  have t := List.all_eq_true.mp zS_tab k (List.mem_range.mpr h)
  obtain ⟨t1, t2⟩ := Bool.and_eq_true_iff.mp t
  have t2 := of_decide_eq_true t2
  refine ⟨of_decide_eq_true t1, ?_⟩
  show Value.int ((zS_ch k).toUInt32.toUInt16.toUInt32.toInt32) = _
  rw [t2]
theorem zS_lat (K : za_K0 l E L s0) (hK : zS_K E s0 a b) {x : Int32} (h : 0 ≤ x.toInt ∧ x.toInt < 101) : Met l yJ1_charAt_3b067 [.code yJ1_charAt_3b067 cJ1_charAt_3b067 2 (some .char)] (zS_r 2) (zS_Pc E s0 [.ref b, .int x]) (zS_Qc (some (.int (zS_ch x.toInt.toNat)))) 0 0 (za_A E) := by
  have h0 : ¬ x < 0 := by
    rw [Int32.lt_iff_toInt_lt]
    show ¬ x.toInt < 0
    omega
  have h1 : x < Int32.ofNat 101 := by
    rw [Int32.lt_iff_toInt_lt]
    show x.toInt < 101
    omega
  have hcl : x.toNatClampNeg = x.toInt.toNat := rfl
  have hin : vp_in x 101 := by
    rintro (h9 | h9)
    · exact h0 h9
    · rw [hcl] at h9
      omega
  obtain ⟨t1, t2⟩ := zS_t (k := x.toInt.toNat) (by omega)
  refine Met.ofW (cc := cJ1_charAt_3b067) (maxL := 2) (ret := some .char) (by decide) rfl ?_
  intro p e s m args below meth c s₁ B hml hv
  obtain ⟨rfl, hW, hBl⟩ := hv
  have hx := B.exec
  have hb := B.bytes
  have hr := B.returns
  have hown : s.vm.findClass RJ1 = some m.cls := findClass_of_methodNamed B.named
  have hlocks := B.notSynchronized
  obtain ⟨k1, k2, k3, k4, k5, k6⟩ := zS_at K hW hBl hK
  have hS : va_S (za_A E) s.heap s.heap [] := va_S.rf
  have hl := lv_entry ([.ref b, .int x]) (n := 2) (Nat.le_of_ble_eq_true rfl)
  rw [lg_entry_eq]
  generalize (lg_sl ([.ref b, .int x]) ++ List.replicate (2 - (lg_sl ([.ref b, .int x])).length) Slot.unset).toArray = ls at hl ⊢
  have hl : lv_has ls 2 [(0, .ref b), (1, .int x)] := hl
  refine lv_iload_n hx hb zSd_t0 rfl (lv_at hl 1 rfl) ?_
  refine lv_aload_n hx hb zSd_t1 rfl (lv_at hl 0 rfl) ?_
  refine va_tlen hx hb k6 hS rfl zSd_t2 ?_
  refine zS_call (va_runS (Ts := []) (nL := 2) (As := [.int x, .int (Int32.ofNat 101)]) (rest := []) ⟨hx, hb, hml, hown, fun w hw => absurd hw List.not_mem_nil⟩ (zS_chk K hK h0 h1) ⟨zS_CB (n := 2) K hW 17 4 18 rfl rfl rfl (by decide) (by decide) (by decide) (by decide), zS_w K hW 19 rfl⟩ ⟨zS_blind, fun U hU hWU => ⟨rfl, State.WarmedH.trans hW hWU, by rw [hU]; exact hBl⟩⟩ rfl rfl hl.1 rfl (Nat.le_of_ble_eq_true rfl) zSd_t3 ⟨Nat.zero_le _, Nat.zero_le _⟩) hS (fun locs1 hS1 => ?_)
  refine lv_aload_n hx hb zSd_t6 rfl (lv_at hl 0 rfl) ?_
  refine lv_iload_n hx hb zSd_t7 rfl (lv_at hl 1 rfl) ?_
  refine va_tb hx hb k6 hS1 hin rfl zSd_t8 ?_
  refine lv_sipush hx hb zSd_t9 rfl ?_
  refine lv_iand hx hb zSd_t12 ?_
  refine lv_i2c hx hb zSd_t13 (v := zS_ch x.toInt.toNat) t1 ?_
  exact W.zret hx hb hr t2 (fun t ht _ => ⟨rfl, ht⟩) hS1.2.2 zSd_t14 hlocks
theorem zS_charAt (K : za_K0 l E L s0) (hK : zS_K E s0 a b) {x : Int32} (h : 0 ≤ x.toInt ∧ x.toInt < 101) : Met l yJ0_charAt_5068e [.code yJ0_charAt_5068e cJ0_charAt_5068e 2 (some .char)] (zS_r 3) (zS_Pc E s0 [.ref a, .int x]) (zS_Qc (some (.int (zS_ch x.toInt.toNat)))) 0 0 (za_A E) := by
  obtain ⟨t1, t2⟩ := zS_t (k := x.toInt.toNat) (by omega)
  refine Met.ofW (cc := cJ0_charAt_5068e) (maxL := 2) (ret := some .char) (by decide) rfl ?_
  intro p e s m args below meth c s₁ B hml hv
  obtain ⟨rfl, hW, hBl⟩ := hv
  have hx := B.exec
  have hb := B.bytes
  have hr := B.returns
  have hown : s.vm.findClass RJ0 = some m.cls := findClass_of_methodNamed B.named
  have hlocks := B.notSynchronized
  obtain ⟨k1, k2, k3, k4, k5, k6⟩ := zS_at K hW hBl hK
  have hS : va_S (za_A E) s.heap s.heap [] := va_S.rf
  have hl := lv_entry ([.ref a, .int x]) (n := 2) (Nat.le_of_ble_eq_true rfl)
  rw [lg_entry_eq]
  generalize (lg_sl ([.ref a, .int x]) ++ List.replicate (2 - (lg_sl ([.ref a, .int x])).length) Slot.unset).toArray = ls at hl ⊢
  have hl : lv_has ls 2 [(0, .ref a), (1, .int x)] := hl
  obtain ⟨cell, o1, o2, o3, -⟩ := k3
  refine lv_aload_n hx hb zSd_h0 rfl (lv_at hl 0 rfl) ?_
  refine zS_call (va_runV (Ts := []) (nL := 2) (As := []) (rest := []) ⟨hx, hb, hml, hown, fun w hw => absurd hw List.not_mem_nil⟩ (zS_isL K hK) ⟨zS_CB K hW 8 4 9 rfl rfl rfl (by decide) (by decide) (by decide) (by decide), zS_w K hW 10 rfl, zS_w K hW 11 rfl⟩ ⟨zS_blind, ⟨cell, o1, o2, o3⟩, fun U hU hWU => ⟨rfl, State.WarmedH.trans hW hWU, by rw [hU]; exact hBl⟩⟩ rfl rfl hl.1 rfl (Nat.le_of_ble_eq_true rfl) zSd_h1 ⟨Nat.zero_le _, Nat.zero_le _⟩) hS (fun locs1 hS1 => ?_)
  refine lv_if_eq (tgt := 16) hx hb zSd_h4 rfl (fun h => absurd h (by decide)) (fun _ => ?_)
  refine lv_aload_n hx hb zSd_h7 rfl (lv_at hl 0 rfl) ?_
  refine vk_getf hx hb k5 hS1 hown (zS_w K hW 2 rfl) (fun _ h => h) zSd_h8 ?_
  refine lv_iload_n hx hb zSd_h11 rfl (lv_at hl 1 rfl) ?_
  refine zS_call (va_runS (Ts := []) (nL := 2) (As := [.ref b, .int x]) (rest := []) ⟨hx, hb, hml, hown, fun w hw => absurd hw List.not_mem_nil⟩ (zS_lat K hK h) ⟨zS_CB (n := 2) K hW 20 21 22 rfl rfl rfl (by decide) (by decide) (by decide) (by decide), zS_w K hW 23 rfl⟩ ⟨zS_blind, fun U hU hWU => ⟨rfl, State.WarmedH.trans hW hWU, by rw [hU]; exact hBl⟩⟩ rfl rfl hl.1 rfl (Nat.le_of_ble_eq_true rfl) zSd_h12 ⟨Nat.zero_le _, Nat.zero_le _⟩) hS1 (fun locs2 hS2 => ?_)
  exact W.zret hx hb hr t2 (fun t ht _ => ⟨rfl, ht⟩) hS2.2.2 zSd_h15 hlocks
end ZST
