/-! ===== the instructions are the code's; each method's word ===== -/
def za_ln (i : Instr) : Nat := match i with
  | .iload _ | .lload _ | .aload _ | .istore _ | .lstore _ | .astore _ | .bipush _ | .ldc _ | .newarray _ => 2
  | .sipush _ | .ldc_w _ | .ldc2_w _ | .iinc _ _ | .ifCond _ _ | .if_icmp _ _ | .goto _ | .getfield _ | .putfield _ | .invokevirtual _ | .invokestatic _ | .invokespecial _ | .new _ => 3
  | _ => 1
def za_sw (i : Instr) : Bool := match i with
  | .tableswitch _ _ _ _ => true
  | .lookupswitch _ _ => true
  | _ => false
def za_dok (cc : ByteArray) (q : Nat × Instr) : Bool := match decode cc q.1 with
  | .ok (i, n) => decide (i = q.2) && (za_sw i || Nat.beq n (za_ln i))
  | _ => false
theorem za_dok_ok {cc : ByteArray} {q : Nat × Instr} (h : za_dok cc q = true) : ∃ n, decode cc q.1 = .ok (q.2, n) ∧ (za_sw q.2 = true ∨ n = za_ln q.2) := by
  unfold za_dok at h
  split at h
  · rename_i i n hd
    simp only [Bool.and_eq_true, decide_eq_true_eq, Bool.or_eq_true] at h
    obtain ⟨e, h⟩ := h
    subst e
    exact ⟨n, hd, h.elim Or.inl (fun z => Or.inr (Nat.eq_of_beq_eq_true z))⟩
  · cases h
theorem za_fe_mem : ∀ {l : List (Nat × Instr)} {pc : Nat} {i : Instr}, za_fe l pc = some i → (pc, i) ∈ l
  | [], _, _, h => by cases h
  | q :: l, k, r, h => by
    unfold za_fe at h
    cases hb : Nat.beq q.1 k with
    | true =>
      have e := Nat.eq_of_beq_eq_true hb
      simp only [hb, cond_true, Option.some.injEq] at h
      obtain ⟨q1, q2⟩ := q
      dsimp only at h e
      rw [← e, ← h]
      exact List.mem_cons_self
    | false =>
      simp only [hb, cond_false] at h
      exact List.mem_cons_of_mem _ (za_fe_mem h)
theorem za_fe_ok {cc : ByteArray} {l : List (Nat × Instr)} {pc : Nat} {i : Instr} (hl : l.all (za_dok cc) = true) (h : za_fe l pc = some i) : ∃ n, decode cc pc = .ok (i, n) ∧ (za_sw i = true ∨ n = za_ln i) := za_dok_ok (q := (pc, i)) (List.all_eq_true.mp hl (pc, i) (za_fe_mem h))
theorem za_fe_1 {cc : ByteArray} {l : List (Nat × Instr)} {pc : Nat} {i : Instr} (hl : l.all (za_dok cc) = true) (h : za_fe l pc = some i) (hs : za_sw i = false) : decode cc pc = .ok (i, za_ln i) := by
  obtain ⟨n, h1, h2⟩ := za_fe_ok hl h
  rcases h2 with h2 | h2
  · rw [h2] at hs; cases hs
  · rw [← h2]; exact h1
/-! ===== a method's bytes, in one pass ===== -/
def za_sh (i : Instr) : Nat × Nat × Nat × Int := match i with
  | .aaload => (1, 50, 0, 0)
  | .aastore => (1, 83, 0, 0)
  | .aconst_null => (1, 1, 0, 0)
  | .areturn => (1, 176, 0, 0)
  | .arraylength => (1, 190, 0, 0)
  | .athrow => (1, 191, 0, 0)
  | .baload => (1, 51, 0, 0)
  | .bastore => (1, 84, 0, 0)
  | .dup => (1, 89, 0, 0)
  | .dup_x1 => (1, 90, 0, 0)
  | .dup_x2 => (1, 91, 0, 0)
  | .dup2 => (1, 92, 0, 0)
  | .i2b => (1, 145, 0, 0)
  | .i2c => (1, 146, 0, 0)
  | .i2l => (1, 133, 0, 0)
  | .i2s => (1, 147, 0, 0)
  | .iadd => (1, 96, 0, 0)
  | .iaload => (1, 46, 0, 0)
  | .iand => (1, 126, 0, 0)
  | .iastore => (1, 79, 0, 0)
  | .idiv => (1, 108, 0, 0)
  | .imul => (1, 104, 0, 0)
  | .ineg => (1, 116, 0, 0)
  | .ior => (1, 128, 0, 0)
  | .irem => (1, 112, 0, 0)
  | .ireturn => (1, 172, 0, 0)
  | .ishl => (1, 120, 0, 0)
  | .ishr => (1, 122, 0, 0)
  | .isub => (1, 100, 0, 0)
  | .iushr => (1, 124, 0, 0)
  | .ixor => (1, 130, 0, 0)
  | .l2i => (1, 136, 0, 0)
  | .ladd => (1, 97, 0, 0)
  | .laload => (1, 47, 0, 0)
  | .land => (1, 127, 0, 0)
  | .lastore => (1, 80, 0, 0)
  | .lcmp => (1, 148, 0, 0)
  | .ldiv => (1, 109, 0, 0)
  | .lmul => (1, 105, 0, 0)
  | .lneg => (1, 117, 0, 0)
  | .lor => (1, 129, 0, 0)
  | .lrem => (1, 113, 0, 0)
  | .lreturn => (1, 173, 0, 0)
  | .lshl => (1, 121, 0, 0)
  | .lshr => (1, 123, 0, 0)
  | .lsub => (1, 101, 0, 0)
  | .lushr => (1, 125, 0, 0)
  | .lxor => (1, 131, 0, 0)
  | .nop => (1, 0, 0, 0)
  | .pop => (1, 87, 0, 0)
  | .pop2 => (1, 88, 0, 0)
  | .return_ => (1, 177, 0, 0)
  | .aload_n n => (1, 42 + n.val, 0, 0)
  | .astore_n n => (1, 75 + n.val, 0, 0)
  | .iload_n n => (1, 26 + n.val, 0, 0)
  | .istore_n n => (1, 59 + n.val, 0, 0)
  | .lload_n n => (1, 30 + n.val, 0, 0)
  | .lstore_n n => (1, 63 + n.val, 0, 0)
  | .lconst n => (1, 9 + n.val, 0, 0)
  | .iconst z => (match z with | .ofNat 0 => (1, 3, 0, 0) | .ofNat 1 => (1, 4, 0, 0) | .ofNat 2 => (1, 5, 0, 0) | .ofNat 3 => (1, 6, 0, 0) | .ofNat 4 => (1, 7, 0, 0) | .ofNat 5 => (1, 8, 0, 0) | .negSucc 0 => (1, 2, 0, 0) | _ => (0, 0, 0, 0))
  | .aload n => (2, 25, n, 0)
  | .astore n => (2, 58, n, 0)
  | .iload n => (2, 21, n, 0)
  | .istore n => (2, 54, n, 0)
  | .lload n => (2, 22, n, 0)
  | .lstore n => (2, 55, n, 0)
  | .ldc n => (2, 18, n, 0)
  | .newarray c => (2, 188, (match c with | .boolean => 4 | .char => 5 | .float => 6 | .double => 7 | .byte => 8 | .short => 9 | .int => 10 | .long => 11), 0)
  | .getfield n => (3, 180, n, 0)
  | .putfield n => (3, 181, n, 0)
  | .invokespecial n => (3, 183, n, 0)
  | .invokestatic n => (3, 184, n, 0)
  | .invokevirtual n => (3, 182, n, 0)
  | .new n => (3, 187, n, 0)
  | .ldc_w n => (3, 19, n, 0)
  | .ldc2_w n => (3, 20, n, 0)
  | .bipush z => (4, 16, 0, z)
  | .goto z => (5, 167, 0, z)
  | .sipush z => (5, 17, 0, z)
  | .ifCond c z => (5, (match c with | .eq => 153 | .ne => 154 | .lt => 155 | .ge => 156 | .gt => 157 | .le => 158), 0, z)
  | .if_icmp c z => (5, (match c with | .eq => 159 | .ne => 160 | .lt => 161 | .ge => 162 | .gt => 163 | .le => 164), 0, z)
  | .iinc n z => (6, 132, n, z)
  | _ => (0, 0, 0, 0)
def zdb_1 : List UInt8 → Nat → Bool
  | b :: _, v => Nat.beq b.toNat v
  | [], _ => false
def zdb_2 : List UInt8 → Nat → Nat → Bool
  | b :: c :: _, v, n => (Nat.beq b.toNat v).and (Nat.beq c.toNat n)
  | _, _, _ => false
def zdb_3 : List UInt8 → Nat → Nat → Bool
  | b :: c :: e :: _, v, n => (Nat.beq b.toNat v).and (Nat.beq (c.toNat * 256 + e.toNat) n)
  | _, _, _ => false
def zdb_4 : List UInt8 → Nat → Int → Bool
  | b :: c :: _, v, z => (Nat.beq b.toNat v).and (decide (Reader.signed 8 c.toNat = z))
  | _, _, _ => false
def zdb_5 : List UInt8 → Nat → Int → Bool
  | b :: c :: e :: _, v, z => (Nat.beq b.toNat v).and (decide (Reader.signed 16 (c.toNat * 256 + e.toNat) = z))
  | _, _, _ => false
def zdb_6 : List UInt8 → Nat → Nat → Int → Bool
  | b :: c :: e :: _, v, n, z => (Nat.beq b.toNat v).and ((Nat.beq c.toNat n).and (decide (Reader.signed 8 e.toNat = z)))
  | _, _, _, _ => false
def za_bq (bs : List UInt8) (x : Nat × Nat × Nat × Int) : Bool := match x.1 with
  | 1 => zdb_1 bs x.2.1
  | 2 => zdb_2 bs x.2.1 x.2.2.1
  | 3 => zdb_3 bs x.2.1 x.2.2.1
  | 4 => zdb_4 bs x.2.1 x.2.2.2
  | 5 => zdb_5 bs x.2.1 x.2.2.2
  | 6 => zdb_6 bs x.2.1 x.2.2.1 x.2.2.2
  | _ => false
def za_bm (bs : List UInt8) (i : Instr) : Bool := za_bq bs (za_sh i)
theorem zdf_bind {α β : Type} {x : Decoder α} {f : α → Decoder β} {cc : ByteArray} {p p' : Nat} {a : α} (h : x cc p = Except.ok (a, p')) : (x >>= f) cc p = f a cc p' := by
  have e : (x >>= f) cc p = Except.bind (x cc p) (fun q => f q.1 cc q.2) := rfl
  rw [e, h]
  first | rfl | done
theorem zdf_map {α β : Type} {x : Decoder α} {f : α → β} {cc : ByteArray} {p p' : Nat} {a : α} (h : x cc p = Except.ok (a, p')) : (f <$> x) cc p = Except.ok (f a, p') := by
  have e : (f <$> x) cc p = Except.bind (x cc p) (fun q => Except.ok (f q.1, q.2)) := rfl
  rw [e, h]
  first | rfl | done
theorem zdf_dec {cc : ByteArray} {pc p : Nat} {i : Instr} (h : Decoder.instr pc cc pc = Except.ok (i, p)) : decode cc pc = Except.ok (i, p - pc) := by
  have e : decode cc pc = Except.bind (Decoder.instr pc cc pc) (fun q => Except.ok (q.1, q.2 - pc)) := rfl
  rw [e, h]
  first | rfl | done
theorem zdf_dr {l : List UInt8} {p : Nat} {b : UInt8} {r : List UInt8} (h : l.drop p = b :: r) : l.drop (p + 1) = r := by
  have e : (l.drop p).drop 1 = r := by rw [h]; rfl
  rw [List.drop_drop] at e
  exact e
theorem zdf_u1 {cc : ByteArray} {p : Nat} {b : UInt8} {r : List UInt8} (h : cc.data.toList.drop p = b :: r) : (Reader.u1 : Decoder Nat) cc p = Except.ok (b.toNat, p + 1) := by
  have e0 : (cc.data.toList.drop p)[0]? = some b := by rw [h]; rfl
  rw [List.getElem?_drop] at e0
  have e1 : cc.data.toList[p]? = some b := e0
  obtain ⟨hl, e⟩ := List.getElem?_eq_some_iff.mp e1
  have hs : p < cc.size := hl
  have eb : cc[p]'hs = b := e
  unfold Reader.u1
  rw [zdf_bind (show (read : Decoder ByteArray) cc p = Except.ok (cc, p) from rfl), zdf_bind (show (get : Decoder Nat) cc p = Except.ok (p, p) from rfl), dif_pos hs, ← eb]
  first | rfl | done
theorem zdf_u2 {cc : ByteArray} {p a b : Nat} (h1 : (Reader.u1 : Decoder Nat) cc p = Except.ok (a, p + 1)) (h2 : (Reader.u1 : Decoder Nat) cc (p + 1) = Except.ok (b, p + 1 + 1)) : (Reader.u2 : Decoder Nat) cc p = Except.ok (a * 256 + b, p + 1 + 1) := by
  unfold Reader.u2
  rw [zdf_bind h1]
  exact (zdf_bind h2).trans rfl
section
variable {i : Instr} {v n : Nat} {z : Int} {cc : ByteArray} {pc : Nat}
theorem zdf_s1 (hs : za_sh i = (1, v, 0, 0)) (hl : za_ln i = 1) (hI : ∀ (pc p : Nat) (cc : ByteArray), (Reader.u1 : Decoder Nat) cc pc = Except.ok (v, p) → Decoder.instr pc cc pc = Except.ok (i, p)) (h : za_bm (cc.data.toList.drop pc) i = true) : decode cc pc = .ok (i, za_ln i) := by
  have h : za_bq (cc.data.toList.drop pc) (1, v, 0, 0) = true := by rw [← hs]; exact h
  have h : zdb_1 (cc.data.toList.drop pc) v = true := h
  generalize hb : cc.data.toList.drop pc = bs at h
  match bs, hb, h with
  | [], _, h => exact absurd (show false = true from h) (by decide)
  | b :: r, hb, h =>
    have u := zdf_u1 hb
    rw [Nat.eq_of_beq_eq_true (show Nat.beq b.toNat v = true from h)] at u
    rw [hl, zdf_dec (hI pc (pc + 1) cc u), show pc + 1 - pc = 1 by omega]
theorem zdf_s2 (hs : za_sh i = (2, v, n, 0)) (hl : za_ln i = 2) (hI : ∀ (pc p : Nat) (cc : ByteArray), (Reader.u1 : Decoder Nat) cc pc = Except.ok (v, p) → (Reader.u1 : Decoder Nat) cc p = Except.ok (n, p + 1) → Decoder.instr pc cc pc = Except.ok (i, p + 1)) (h : za_bm (cc.data.toList.drop pc) i = true) : decode cc pc = .ok (i, za_ln i) := by
  have h : za_bq (cc.data.toList.drop pc) (2, v, n, 0) = true := by rw [← hs]; exact h
  have h : zdb_2 (cc.data.toList.drop pc) v n = true := h
  generalize hb : cc.data.toList.drop pc = bs at h
  match bs, hb, h with
  | [], _, h => exact absurd (show false = true from h) (by decide)
  | [_], _, h => exact absurd (show false = true from h) (by decide)
  | b :: c :: r, hb, h =>
    obtain ⟨h1, h2⟩ := Bool.and_eq_true_iff.mp (show (Nat.beq b.toNat v).and (Nat.beq c.toNat n) = true from h)
    have u := zdf_u1 hb
    have w := zdf_u1 (zdf_dr hb)
    rw [Nat.eq_of_beq_eq_true h1] at u
    rw [Nat.eq_of_beq_eq_true h2] at w
    rw [hl, zdf_dec (hI pc (pc + 1) cc u w), show pc + 1 + 1 - pc = 2 by omega]
theorem zdf_s3 (hs : za_sh i = (3, v, n, 0)) (hl : za_ln i = 3) (hI : ∀ (pc p : Nat) (cc : ByteArray), (Reader.u1 : Decoder Nat) cc pc = Except.ok (v, p) → (Reader.u2 : Decoder Nat) cc p = Except.ok (n, p + 1 + 1) → Decoder.instr pc cc pc = Except.ok (i, p + 1 + 1)) (h : za_bm (cc.data.toList.drop pc) i = true) : decode cc pc = .ok (i, za_ln i) := by
  have h : za_bq (cc.data.toList.drop pc) (3, v, n, 0) = true := by rw [← hs]; exact h
  have h : zdb_3 (cc.data.toList.drop pc) v n = true := h
  generalize hb : cc.data.toList.drop pc = bs at h
  match bs, hb, h with
  | [], _, h => exact absurd (show false = true from h) (by decide)
  | [_], _, h => exact absurd (show false = true from h) (by decide)
  | [_, _], _, h => exact absurd (show false = true from h) (by decide)
  | b :: c :: e :: r, hb, h =>
    obtain ⟨h1, h2⟩ := Bool.and_eq_true_iff.mp (show (Nat.beq b.toNat v).and (Nat.beq (c.toNat * 256 + e.toNat) n) = true from h)
    have u := zdf_u1 hb
    have w := zdf_u2 (zdf_u1 (zdf_dr hb)) (zdf_u1 (zdf_dr (zdf_dr hb)))
    rw [Nat.eq_of_beq_eq_true h1] at u
    rw [Nat.eq_of_beq_eq_true h2] at w
    rw [hl, zdf_dec (hI pc (pc + 1) cc u w), show pc + 1 + 1 + 1 - pc = 3 by omega]
theorem zdf_s4 (hs : za_sh i = (4, v, 0, z)) (hl : za_ln i = 2) (hI : ∀ (pc p : Nat) (cc : ByteArray), (Reader.u1 : Decoder Nat) cc pc = Except.ok (v, p) → (Reader.s1 : Decoder Int) cc p = Except.ok (z, p + 1) → Decoder.instr pc cc pc = Except.ok (i, p + 1)) (h : za_bm (cc.data.toList.drop pc) i = true) : decode cc pc = .ok (i, za_ln i) := by
  have h : za_bq (cc.data.toList.drop pc) (4, v, 0, z) = true := by rw [← hs]; exact h
  have h : zdb_4 (cc.data.toList.drop pc) v z = true := h
  generalize hb : cc.data.toList.drop pc = bs at h
  match bs, hb, h with
  | [], _, h => exact absurd (show false = true from h) (by decide)
  | [_], _, h => exact absurd (show false = true from h) (by decide)
  | b :: c :: r, hb, h =>
    obtain ⟨h1, h2⟩ := Bool.and_eq_true_iff.mp (show (Nat.beq b.toNat v).and (decide (Reader.signed 8 c.toNat = z)) = true from h)
    have u := zdf_u1 hb
    have w : (Reader.s1 : Decoder Int) cc (pc + 1) = Except.ok (Reader.signed 8 c.toNat, pc + 1 + 1) := zdf_map (zdf_u1 (zdf_dr hb))
    rw [Nat.eq_of_beq_eq_true h1] at u
    rw [of_decide_eq_true h2] at w
    rw [hl, zdf_dec (hI pc (pc + 1) cc u w), show pc + 1 + 1 - pc = 2 by omega]
theorem zdf_s5 (hs : za_sh i = (5, v, 0, z)) (hl : za_ln i = 3) (hI : ∀ (pc p : Nat) (cc : ByteArray), (Reader.u1 : Decoder Nat) cc pc = Except.ok (v, p) → (Reader.s2 : Decoder Int) cc p = Except.ok (z, p + 1 + 1) → Decoder.instr pc cc pc = Except.ok (i, p + 1 + 1)) (h : za_bm (cc.data.toList.drop pc) i = true) : decode cc pc = .ok (i, za_ln i) := by
  have h : za_bq (cc.data.toList.drop pc) (5, v, 0, z) = true := by rw [← hs]; exact h
  have h : zdb_5 (cc.data.toList.drop pc) v z = true := h
  generalize hb : cc.data.toList.drop pc = bs at h
  match bs, hb, h with
  | [], _, h => exact absurd (show false = true from h) (by decide)
  | [_], _, h => exact absurd (show false = true from h) (by decide)
  | [_, _], _, h => exact absurd (show false = true from h) (by decide)
  | b :: c :: e :: r, hb, h =>
    obtain ⟨h1, h2⟩ := Bool.and_eq_true_iff.mp (show (Nat.beq b.toNat v).and (decide (Reader.signed 16 (c.toNat * 256 + e.toNat) = z)) = true from h)
    have u := zdf_u1 hb
    have w : (Reader.s2 : Decoder Int) cc (pc + 1) = Except.ok (Reader.signed 16 (c.toNat * 256 + e.toNat), pc + 1 + 1 + 1) := zdf_map (zdf_u2 (zdf_u1 (zdf_dr hb)) (zdf_u1 (zdf_dr (zdf_dr hb))))
    rw [Nat.eq_of_beq_eq_true h1] at u
    rw [of_decide_eq_true h2] at w
    rw [hl, zdf_dec (hI pc (pc + 1) cc u w), show pc + 1 + 1 + 1 - pc = 3 by omega]
theorem zdf_s6 (hs : za_sh i = (6, v, n, z)) (hl : za_ln i = 3) (hI : ∀ (pc p : Nat) (cc : ByteArray), (Reader.u1 : Decoder Nat) cc pc = Except.ok (v, p) → (Reader.u1 : Decoder Nat) cc p = Except.ok (n, p + 1) → (Reader.s1 : Decoder Int) cc (p + 1) = Except.ok (z, p + 1 + 1) → Decoder.instr pc cc pc = Except.ok (i, p + 1 + 1)) (h : za_bm (cc.data.toList.drop pc) i = true) : decode cc pc = .ok (i, za_ln i) := by
  have h : za_bq (cc.data.toList.drop pc) (6, v, n, z) = true := by rw [← hs]; exact h
  have h : zdb_6 (cc.data.toList.drop pc) v n z = true := h
  generalize hb : cc.data.toList.drop pc = bs at h
  match bs, hb, h with
  | [], _, h => exact absurd (show false = true from h) (by decide)
  | [_], _, h => exact absurd (show false = true from h) (by decide)
  | [_, _], _, h => exact absurd (show false = true from h) (by decide)
  | b :: c :: e :: r, hb, h =>
    obtain ⟨h1, h2⟩ := Bool.and_eq_true_iff.mp (show (Nat.beq b.toNat v).and ((Nat.beq c.toNat n).and (decide (Reader.signed 8 e.toNat = z))) = true from h)
    obtain ⟨h2, h3⟩ := Bool.and_eq_true_iff.mp h2
    have u := zdf_u1 hb
    have w := zdf_u1 (zdf_dr hb)
    have y : (Reader.s1 : Decoder Int) cc (pc + 1 + 1) = Except.ok (Reader.signed 8 e.toNat, pc + 1 + 1 + 1) := zdf_map (zdf_u1 (zdf_dr (zdf_dr hb)))
    rw [Nat.eq_of_beq_eq_true h1] at u
    rw [Nat.eq_of_beq_eq_true h2] at w
    rw [of_decide_eq_true h3] at y
    rw [hl, zdf_dec (hI pc (pc + 1) cc u w y), show pc + 1 + 1 + 1 - pc = 3 by omega]
end
set_option maxRecDepth 8000 in
theorem zdf_ok : ∀ (i : Instr) {cc : ByteArray} {pc : Nat}, za_bm (cc.data.toList.drop pc) i = true → decode cc pc = .ok (i, za_ln i) := by
  intro i cc pc h
  cases i <;> first
    | exact absurd (show false = true from h) (by decide)
    | exact zdf_s1 rfl rfl (fun pc p cc k => by unfold Decoder.instr; exact (zdf_bind k).trans rfl) h
    | exact zdf_s2 rfl rfl (fun pc p cc k l => by unfold Decoder.instr; rw [zdf_bind k]; exact (zdf_bind l).trans rfl) h
    | exact zdf_s3 rfl rfl (fun pc p cc k l => by unfold Decoder.instr; rw [zdf_bind k]; exact (zdf_bind l).trans rfl) h
    | exact zdf_s4 rfl rfl (fun pc p cc k l => by unfold Decoder.instr; rw [zdf_bind k]; exact (zdf_bind l).trans rfl) h
    | exact zdf_s5 rfl rfl (fun pc p cc k l => by unfold Decoder.instr; rw [zdf_bind k]; exact (zdf_bind l).trans rfl) h
    | exact zdf_s6 rfl rfl (fun pc p cc k l m => by unfold Decoder.instr; rw [zdf_bind k]; exact (zdf_bind l).trans ((zdf_bind m).trans rfl)) h
    | (rename_i c z; cases c <;> exact zdf_s5 rfl rfl (fun pc p cc k l => by unfold Decoder.instr; rw [zdf_bind k]; exact (zdf_bind l).trans rfl) h)
    | (rename_i c; cases c <;> exact zdf_s2 rfl rfl (fun pc p cc k l => by unfold Decoder.instr; rw [zdf_bind k]; show Decoder.newarray pc cc p = _; unfold Decoder.newarray; exact (zdf_bind l).trans rfl) h)
    | (rename_i n; rcases n with ⟨_ | _ | _ | _ | n, hn⟩ <;> first | exact absurd hn (by omega) | exact zdf_s1 rfl rfl (fun pc p cc k => by unfold Decoder.instr; exact (zdf_bind k).trans rfl) h)
    | (rename_i n; rcases n with ⟨_ | _ | n, hn⟩ <;> first | exact absurd hn (by omega) | exact zdf_s1 rfl rfl (fun pc p cc k => by unfold Decoder.instr; exact (zdf_bind k).trans rfl) h)
    | (rename_i z; rcases z with (_ | _ | _ | _ | _ | _ | n) | (_ | n) <;> first | exact absurd (show false = true from h) (by decide) | exact zdf_s1 rfl rfl (fun pc p cc k => by unfold Decoder.instr; exact (zdf_bind k).trans rfl) h)
def za_pass (cc : ByteArray) : List (Nat × Instr) → Nat → List UInt8 → Bool
  | [], _, _ => true
  | q :: l, pc, bs => (Nat.ble pc q.1).and (((za_bm (bs.drop (q.1 - pc)) q.2).or ((za_sw q.2).and (za_dok cc q))).and (za_pass cc l q.1 (bs.drop (q.1 - pc))))
theorem za_bm_ok {cc : ByteArray} {q : Nat × Instr} (h : za_bm (cc.data.toList.drop q.1) q.2 = true) : za_dok cc q = true := by
  unfold za_dok
  rw [zdf_ok q.2 h]
  exact Bool.and_eq_true_iff.mpr ⟨decide_eq_true rfl, Bool.or_eq_true_iff.mpr (Or.inr (Nat.beq_refl _))⟩
theorem za_pass_ok {cc : ByteArray} : ∀ (l : List (Nat × Instr)) (pc : Nat) (bs : List UInt8), bs = cc.data.toList.drop pc → za_pass cc l pc bs = true → l.all (za_dok cc) = true
  | [], _, _, _, _ => rfl
  | q :: l, pc, bs, hb, h => by
    obtain ⟨h1, h⟩ := Bool.and_eq_true_iff.mp h
    obtain ⟨h2, h3⟩ := Bool.and_eq_true_iff.mp h
    have h1 := Nat.le_of_ble_eq_true h1
    have e : bs.drop (q.1 - pc) = cc.data.toList.drop q.1 := by
      rw [hb, List.drop_drop, show pc + (q.1 - pc) = q.1 by omega]
    rw [e] at h2
    have a : za_dok cc q = true := by
      rcases Bool.or_eq_true_iff.mp h2 with h2 | h2
      · exact za_bm_ok h2
      · exact (Bool.and_eq_true_iff.mp h2).2
    rw [List.all_cons]
    exact Bool.and_eq_true_iff.mpr ⟨a, za_pass_ok l q.1 _ e h3⟩
theorem za_dml {cc : ByteArray} {l : List (Nat × Instr)} (h : za_pass cc l 0 cc.data.toList = true) : l.all (za_dok cc) = true := za_pass_ok l 0 _ rfl h

theorem zd_0 : za_i0.all (za_dok prog_1_method_1_code) = true := za_dml (by decide +kernel)
theorem zd_1 : za_i1.all (za_dok prog_12_method_1_code) = true := za_dml (by decide +kernel)
theorem zd_2 : za_i2.all (za_dok prog_12_method_2_code) = true := za_dml (by decide +kernel)
theorem zd_3 : za_i3.all (za_dok prog_12_method_3_code) = true := za_dml (by decide +kernel)
theorem zd_4 : za_i4.all (za_dok prog_1_method_31_code) = true := za_dml (by decide +kernel)
theorem zd_5 : za_i5.all (za_dok prog_31_method_103_code) = true := za_dml (by decide +kernel)
theorem zd_6 : za_i6.all (za_dok prog_31_method_101_code) = true := za_dml (by decide +kernel)
theorem zd_7 : za_i7.all (za_dok prog_2_method_1_code) = true := za_dml (by decide +kernel)
theorem zd_8 : za_i8.all (za_dok prog_9_method_1_code) = true := za_dml (by decide +kernel)
theorem zd_9 : za_i9.all (za_dok prog_11_method_1_code) = true := za_dml (by decide +kernel)
theorem zd_10 : za_i10.all (za_dok prog_4_method_1_code) = true := za_dml (by decide +kernel)
theorem zd_11 : za_i11.all (za_dok prog_10_method_1_code) = true := za_dml (by decide +kernel)
theorem zd_12 : za_i12.all (za_dok prog_5_method_1_code) = true := za_dml (by decide +kernel)
theorem zd_13 : za_i13.all (za_dok prog_7_method_1_code) = true := za_dml (by decide +kernel)
theorem zd_14 : za_i14.all (za_dok prog_3_method_1_code) = true := za_dml (by decide +kernel)
theorem zd_15 : za_i15.all (za_dok prog_6_method_1_code) = true := za_dml (by decide +kernel)
theorem zd_16 : za_i16.all (za_dok prog_8_method_1_code) = true := za_dml (by decide +kernel)
theorem zd_17 : za_i17.all (za_dok prog_1_method_2_code) = true := za_dml (by decide +kernel)
theorem zd_18 : za_i18.all (za_dok prog_1_method_3_code) = true := za_dml (by decide +kernel)
theorem zd_19 : za_i19.all (za_dok prog_1_method_6_code) = true := za_dml (by decide +kernel)
theorem zd_20 : za_i20.all (za_dok prog_1_method_13_code) = true := za_dml (by decide +kernel)
theorem zd_21 : za_i21.all (za_dok prog_2_method_10_code) = true := za_dml (by decide +kernel)
theorem zd_22 : za_i22.all (za_dok prog_1_method_19_code) = true := za_dml (by decide +kernel)
theorem zd_23 : za_i23.all (za_dok prog_10_method_8_code) = true := za_dml (by decide +kernel)
theorem zd_24 : za_i24.all (za_dok prog_10_method_6_code) = true := za_dml (by decide +kernel)
theorem zd_25 : za_i25.all (za_dok prog_10_method_2_code) = true := za_dml (by decide +kernel)
theorem zd_26 : za_i26.all (za_dok prog_2_method_5_code) = true := za_dml (by decide +kernel)
theorem zd_27 : za_i27.all (za_dok prog_2_method_6_code) = true := za_dml (by decide +kernel)
theorem zd_28 : za_i28.all (za_dok prog_10_method_5_code) = true := za_dml (by decide +kernel)
theorem zd_29 : za_i29.all (za_dok prog_10_method_3_code) = true := za_dml (by decide +kernel)
theorem zd_30 : za_i30.all (za_dok prog_12_method_10_code) = true := za_dml (by decide +kernel)
theorem zd_31 : za_i31.all (za_dok prog_10_method_4_code) = true := za_dml (by decide +kernel)
theorem zd_32 : za_i32.all (za_dok prog_12_method_7_code) = true := za_dml (by decide +kernel)
theorem zd_33 : za_i33.all (za_dok prog_12_method_11_code) = true := za_dml (by decide +kernel)
theorem zd_34 : za_i34.all (za_dok prog_10_method_7_code) = true := za_dml (by decide +kernel)
theorem zd_35 : za_i35.all (za_dok prog_7_method_2_code) = true := za_dml (by decide +kernel)
theorem zd_36 : za_i36.all (za_dok prog_7_method_3_code) = true := za_dml (by decide +kernel)
theorem zd_37 : za_i37.all (za_dok prog_12_method_5_code) = true := za_dml (by decide +kernel)
theorem zd_38 : za_i38.all (za_dok prog_7_method_4_code) = true := za_dml (by decide +kernel)
theorem zd_39 : za_i39.all (za_dok prog_12_method_6_code) = true := za_dml (by decide +kernel)
theorem zd_40 : za_i40.all (za_dok prog_7_method_5_code) = true := za_dml (by decide +kernel)
theorem zd_41 : za_i41.all (za_dok prog_7_method_6_code) = true := za_dml (by decide +kernel)
theorem zd_42 : za_i42.all (za_dok prog_7_method_7_code) = true := za_dml (by decide +kernel)
theorem zd_43 : za_i43.all (za_dok prog_7_method_8_code) = true := za_dml (by decide +kernel)
theorem zd_44 : za_i44.all (za_dok prog_7_method_9_code) = true := za_dml (by decide +kernel)
theorem zd_45 : za_i45.all (za_dok prog_1_method_26_code) = true := za_dml (by decide +kernel)
theorem zd_46 : za_i46.all (za_dok prog_2_method_11_code) = true := za_dml (by decide +kernel)
theorem zd_47 : za_i47.all (za_dok prog_1_method_27_code) = true := za_dml (by decide +kernel)
theorem zd_48 : za_i48.all (za_dok method_3_code) = true := za_dml (by decide +kernel)
theorem zd_49 : za_i49.all (za_dok prog_1_method_4_code) = true := za_dml (by decide +kernel)
theorem zd_50 : za_i50.all (za_dok prog_9_method_2_code) = true := za_dml (by decide +kernel)
theorem zd_51 : za_i51.all (za_dok prog_2_method_2_code) = true := za_dml (by decide +kernel)
theorem zd_52 : za_i52.all (za_dok prog_4_method_2_code) = true := za_dml (by decide +kernel)
theorem zd_53 : za_i53.all (za_dok prog_11_method_2_code) = true := za_dml (by decide +kernel)
theorem zd_54 : za_i54.all (za_dok prog_22_method_69_code) = true := za_dml (by decide +kernel)
theorem zd_55 : za_i55.all (za_dok prog_11_method_3_code) = true := za_dml (by decide +kernel)
theorem zd_56 : za_i56.all (za_dok prog_11_method_4_code) = true := za_dml (by decide +kernel)
theorem zd_57 : za_i57.all (za_dok prog_11_method_6_code) = true := za_dml (by decide +kernel)
theorem zd_58 : za_i58.all (za_dok prog_11_method_5_code) = true := za_dml (by decide +kernel)
theorem zd_59 : za_i59.all (za_dok prog_11_method_7_code) = true := za_dml (by decide +kernel)
theorem zd_60 : za_i60.all (za_dok prog_11_method_8_code) = true := za_dml (by decide +kernel)
theorem zd_61 : za_i61.all (za_dok prog_9_method_5_code) = true := za_dml (by decide +kernel)
theorem zd_62 : za_i62.all (za_dok prog_9_method_3_code) = true := za_dml (by decide +kernel)
theorem zd_63 : za_i63.all (za_dok prog_9_method_6_code) = true := za_dml (by decide +kernel)
theorem zd_64 : za_i64.all (za_dok prog_9_method_12_code) = true := za_dml (by decide +kernel)
theorem zd_65 : za_i65.all (za_dok prog_9_method_9_code) = true := za_dml (by decide +kernel)
theorem zd_66 : za_i66.all (za_dok prog_9_method_8_code) = true := za_dml (by decide +kernel)
theorem zd_67 : za_i67.all (za_dok prog_21_method_50_code) = true := za_dml (by decide +kernel)
theorem zd_68 : za_i68.all (za_dok prog_9_method_7_code) = true := za_dml (by decide +kernel)
theorem zd_69 : za_i69.all (za_dok prog_9_method_13_code) = true := za_dml (by decide +kernel)
theorem zd_70 : za_i70.all (za_dok prog_9_method_11_code) = true := za_dml (by decide +kernel)
theorem zd_71 : za_i71.all (za_dok prog_9_method_14_code) = true := za_dml (by decide +kernel)
theorem zd_72 : za_i72.all (za_dok prog_12_method_9_code) = true := za_dml (by decide +kernel)
theorem zd_73 : za_i73.all (za_dok prog_9_method_10_code) = true := za_dml (by decide +kernel)
theorem zd_74 : za_i74.all (za_dok prog_11_method_10_code) = true := za_dml (by decide +kernel)
theorem zd_75 : za_i75.all (za_dok prog_12_method_8_code) = true := za_dml (by decide +kernel)
theorem zd_76 : za_i76.all (za_dok prog_9_method_15_code) = true := za_dml (by decide +kernel)
theorem zd_77 : za_i77.all (za_dok prog_2_method_3_code) = true := za_dml (by decide +kernel)
theorem zd_78 : za_i78.all (za_dok prog_2_method_4_code) = true := za_dml (by decide +kernel)
theorem zd_79 : za_i79.all (za_dok prog_9_method_16_code) = true := za_dml (by decide +kernel)
theorem zd_80 : za_i80.all (za_dok prog_9_method_17_code) = true := za_dml (by decide +kernel)
theorem zd_81 : za_i81.all (za_dok prog_9_method_18_code) = true := za_dml (by decide +kernel)
theorem zd_82 : za_i82.all (za_dok prog_9_method_19_code) = true := za_dml (by decide +kernel)
theorem zd_83 : za_i83.all (za_dok prog_9_method_20_code) = true := za_dml (by decide +kernel)
theorem zd_84 : za_i84.all (za_dok prog_9_method_21_code) = true := za_dml (by decide +kernel)
theorem zd_85 : za_i85.all (za_dok prog_4_method_6_code) = true := za_dml (by decide +kernel)
theorem zd_86 : za_i86.all (za_dok prog_11_method_11_code) = true := za_dml (by decide +kernel)
theorem zd_87 : za_i87.all (za_dok prog_4_method_3_code) = true := za_dml (by decide +kernel)
theorem zd_88 : za_i88.all (za_dok prog_4_method_7_code) = true := za_dml (by decide +kernel)
theorem zd_89 : za_i89.all (za_dok prog_4_method_8_code) = true := za_dml (by decide +kernel)
theorem zd_90 : za_i90.all (za_dok prog_11_method_9_code) = true := za_dml (by decide +kernel)
theorem zd_91 : za_i91.all (za_dok prog_4_method_9_code) = true := za_dml (by decide +kernel)
theorem zd_92 : za_i92.all (za_dok prog_4_method_10_code) = true := za_dml (by decide +kernel)
theorem zd_93 : za_i93.all (za_dok prog_4_method_11_code) = true := za_dml (by decide +kernel)
theorem zd_94 : za_i94.all (za_dok prog_4_method_12_code) = true := za_dml (by decide +kernel)
theorem zd_95 : za_i95.all (za_dok prog_4_method_4_code) = true := za_dml (by decide +kernel)
theorem zd_96 : za_i96.all (za_dok prog_4_method_5_code) = true := za_dml (by decide +kernel)
theorem zd_97 : za_i97.all (za_dok prog_9_method_4_code) = true := za_dml (by decide +kernel)
theorem zd_98 : za_i98.all (za_dok prog_1_method_5_code) = true := za_dml (by decide +kernel)
theorem zd_99 : za_i99.all (za_dok prog_3_method_2_code) = true := za_dml (by decide +kernel)
theorem zd_100 : za_i100.all (za_dok method_4_code) = true := za_dml (by decide +kernel)
theorem zd_101 : za_i101.all (za_dok prog_1_method_7_code) = true := za_dml (by decide +kernel)
theorem zd_102 : za_i102.all (za_dok method_5_code) = true := za_dml (by decide +kernel)
theorem zd_103 : za_i103.all (za_dok prog_1_method_8_code) = true := za_dml (by decide +kernel)
theorem zd_104 : za_i104.all (za_dok prog_1_method_30_code) = true := za_dml (by decide +kernel)
theorem zd_105 : za_i105.all (za_dok prog_12_method_4_code) = true := za_dml (by decide +kernel)
theorem zd_106 : za_i106.all (za_dok method_6_code) = true := za_dml (by decide +kernel)
theorem zd_107 : za_i107.all (za_dok prog_1_method_9_code) = true := za_dml (by decide +kernel)
theorem zd_108 : za_i108.all (za_dok prog_1_method_28_code) = true := za_dml (by decide +kernel)
theorem zd_109 : za_i109.all (za_dok method_7_code) = true := za_dml (by decide +kernel)
theorem zd_110 : za_i110.all (za_dok prog_1_method_10_code) = true := za_dml (by decide +kernel)
theorem zd_111 : za_i111.all (za_dok method_8_code) = true := za_dml (by decide +kernel)
theorem zd_112 : za_i112.all (za_dok prog_1_method_11_code) = true := za_dml (by decide +kernel)
theorem zd_113 : za_i113.all (za_dok prog_2_method_9_code) = true := za_dml (by decide +kernel)
theorem zd_114 : za_i114.all (za_dok method_9_code) = true := za_dml (by decide +kernel)
theorem zd_115 : za_i115.all (za_dok prog_1_method_12_code) = true := za_dml (by decide +kernel)
theorem zd_116 : za_i116.all (za_dok prog_2_method_8_code) = true := za_dml (by decide +kernel)
theorem zd_117 : za_i117.all (za_dok prog_20_method_49_code) = true := za_dml (by decide +kernel)
theorem zd_118 : za_i118.all (za_dok method_10_code) = true := za_dml (by decide +kernel)
theorem zd_119 : za_i119.all (za_dok prog_1_method_14_code) = true := za_dml (by decide +kernel)
theorem zd_120 : za_i120.all (za_dok method_11_code) = true := za_dml (by decide +kernel)
theorem zd_121 : za_i121.all (za_dok prog_1_method_15_code) = true := za_dml (by decide +kernel)
theorem zd_122 : za_i122.all (za_dok method_12_code) = true := za_dml (by decide +kernel)
theorem zd_123 : za_i123.all (za_dok prog_1_method_16_code) = true := za_dml (by decide +kernel)
theorem zd_124 : za_i124.all (za_dok prog_5_method_2_code) = true := za_dml (by decide +kernel)
