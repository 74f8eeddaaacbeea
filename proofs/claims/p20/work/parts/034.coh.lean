/-! ===== the tables hold what the Statement's words say ===== -/
def za_wd : List Cond := lw_tbl.filter goodWord
def za_exn (ex : Nat) : String := match ex with
  | 0 => "java/util/NoSuchElementException"
  | _ => "java/lang/IllegalArgumentException"
def za_wY (j : Nat) (f : MethodName → List Cond) : List Cond := match za_MT j with
  | some Y => f Y.1
  | none => []
def za_wC (ci : Nat) (f : vw_C → List Cond) : List Cond := match vwCl[ci]? with
  | some q => f q
  | none => []
/-- the words that an entry of a constant pool needs -/
def za_need (own : String) (k : Nat) (r : za_row) : List Cond := match r.1 with
  | 0 => za_wC r.2.1 (fun q => [.fieldLink own k (q.2.1 r.2.2.1).1 (q.2.1 r.2.2.1).2.1 (q.2.1 r.2.2.1).2.2.1])
  | 1 => za_wY r.2.1 (fun y => [.methodLink own k y, .instanceMethod y, .selects y.cls y y])
  | 2 => za_wY r.2.1 (fun y => [.methodLink own k y, .static y])
  | 3 => za_wY r.2.1 (fun y => [.methodLink own k y, .instanceMethod y])
  | 4 => [.methodLink own k objectInit, .instanceMethod objectInit, .code objectInit ⟨#[0xb1]⟩ 1 none]
  | 5 => za_wC r.2.1 (fun q => [.classLink own k q.1, .instantiable q.1 q.2.2, .initialized q.1])
  | 6 => [.classLink own k (za_exn r.2.1), .initialized (za_exn r.2.1)]
  | 7 => [.constant own k (Int32.ofInt r.2.2.2)]
  | 8 => [.constantLong own k (Int64.ofInt r.2.2.2)]
  | 11 => za_wY r.2.1 (fun y => [.instanceMethod y, .selects y.cls y y])
  | 12 => za_wY r.2.1 (fun y => [.static y])
  | 13 => za_wY r.2.1 (fun y => [.instanceMethod y])
  | 14 => [.methodLink own k arraycopyName, .native arraycopyName, .static arraycopyName, .initialized "java/lang/System"]
  | _ => []
def za_sY (j : Nat) (f : za_MI → Bool) : Bool := match za_MT j with
  | some Y => f Y
  | none => false
/-- what is asked beside the words -/
def za_np (Y : za_MI) (n : Nat) : Bool := decide ((parseMethodDescriptor Y.1.desc).map (fun d => d.parameters.length) = some n)
def za_side (r : za_row) : Bool := match r.1 with
  | 0 => match vwCl[r.2.1]? with
    | some q => Nat.blt r.2.2.1 q.2.2 && decide ((if r.2.2.2 = 0 then false else true) = (q.2.1 r.2.2.1).2.2.2) && decide ((q.2.1 r.2.2.1).1 = q.1)
    | none => false
  | 1 => za_sY r.2.1 (fun Y => za_np Y r.2.2.1 && decide ((vwCl[za_cl Y]?).map (fun q => q.1) = some Y.1.cls) && decide (za_hh Y = []))
  | 11 => za_sY r.2.1 (fun Y => za_np Y r.2.2.1 && decide ((vwCl[za_cl Y]?).map (fun q => q.1) = some Y.1.cls) && decide (za_hh Y = []))
  | 2 => za_sY r.2.1 (fun Y => za_np Y r.2.2.1)
  | 12 => za_sY r.2.1 (fun Y => za_np Y r.2.2.1 && decide (za_hh Y = []))
  | 3 => za_sY r.2.1 (fun Y => za_np Y r.2.2.1 && decide (Y.1.name = "<init>") && decide (za_rt Y = none) && decide (za_hh Y = []))
  | 13 => za_sY r.2.1 (fun Y => za_np Y r.2.2.1 && decide (Y.1.name = "<init>") && decide (za_rt Y = none) && decide (za_hh Y = []))
  | 5 => match vwCl[r.2.1]? with
    | some _ => true
    | none => false
  | 6 => Nat.blt r.2.1 2
  | _ => true
def za_words (own : String) (rs : List (Nat × za_row)) : List Cond := rs.flatMap (fun q => za_need own q.1 q.2)
theorem zc_s0 : za_cp0.all (fun q => za_side q.2) = true := by decide +kernel
theorem zc_s1 : za_cp1.all (fun q => za_side q.2) = true := by decide +kernel
theorem zc_s2 : za_cp2.all (fun q => za_side q.2) = true := by decide +kernel
theorem zc_s3 : za_cp3.all (fun q => za_side q.2) = true := by decide +kernel
theorem zc_s4 : za_cp4.all (fun q => za_side q.2) = true := by decide +kernel
theorem zc_s5 : za_cp5.all (fun q => za_side q.2) = true := by decide +kernel
theorem zc_s6 : za_cp6.all (fun q => za_side q.2) = true := by decide +kernel
theorem zc_s7 : za_cp7.all (fun q => za_side q.2) = true := by decide +kernel
theorem zc_s8 : za_cp8.all (fun q => za_side q.2) = true := by decide +kernel
theorem zc_s9 : za_cp9.all (fun q => za_side q.2) = true := by decide +kernel
theorem zc_s10 : za_cp10.all (fun q => za_side q.2) = true := by decide +kernel
theorem zc_s11 : za_cp11.all (fun q => za_side q.2) = true := by decide +kernel
theorem zc_s12 : za_cp12.all (fun q => za_side q.2) = true := by decide +kernel
theorem zc_s13 : za_cp13.all (fun q => za_side q.2) = true := by decide +kernel
theorem zc_s14 : za_cp14.all (fun q => za_side q.2) = true := by decide +kernel
theorem zc_s15 : za_cp15.all (fun q => za_side q.2) = true := by decide +kernel
theorem zc_s16 : za_cp16.all (fun q => za_side q.2) = true := by decide +kernel
theorem zc_s17 : za_cp17.all (fun q => za_side q.2) = true := by decide +kernel
/-! ===== the words, by their places in the table's chunks ===== -/
theorem zx_c {a : Cond} {l : List Cond} (h1 : a ∈ za_wd) (h2 : ∀ w ∈ l, w ∈ za_wd) : ∀ w ∈ a :: l, w ∈ za_wd := List.forall_mem_cons.mpr ⟨h1, h2⟩
theorem zx_n : ∀ w ∈ ([] : List Cond), w ∈ za_wd := fun _ h => absurd h List.not_mem_nil
theorem zxs_1 {q : MethodName × Nat} (j : Nat) (h : lw_privs_1[j]? = some q) : Cond.selects q.1.cls q.1 q.1 ∈ za_wd := by
  have hm := List.mem_of_getElem? h
  have h2 : q ∈ lw_privs := by
    show q ∈ lw_privs_1 ++ (lw_privs_2 ++ (lw_privs_3 ++ (lw_privs_4 ++ (lw_privs_5 ++ (lw_privs_6 ++ (lw_privs_7))))))
    exact List.mem_append_left _ hm
  have h3 : Cond.selects q.1.cls q.1 q.1 ∈ lw_tbl := by
    show Cond.selects q.1.cls q.1 q.1 ∈ k2_sels lw_privs ++ tables_1
    exact List.mem_append_left _ (List.mem_map.mpr ⟨q, h2, rfl⟩)
  exact List.mem_filter.mpr ⟨h3, rfl⟩
theorem zxs_2 {q : MethodName × Nat} (j : Nat) (h : lw_privs_2[j]? = some q) : Cond.selects q.1.cls q.1 q.1 ∈ za_wd := by
  have hm := List.mem_of_getElem? h
  have h2 : q ∈ lw_privs := by
    show q ∈ lw_privs_1 ++ (lw_privs_2 ++ (lw_privs_3 ++ (lw_privs_4 ++ (lw_privs_5 ++ (lw_privs_6 ++ (lw_privs_7))))))
    exact List.mem_append_right _ (List.mem_append_left _ hm)
  have h3 : Cond.selects q.1.cls q.1 q.1 ∈ lw_tbl := by
    show Cond.selects q.1.cls q.1 q.1 ∈ k2_sels lw_privs ++ tables_1
    exact List.mem_append_left _ (List.mem_map.mpr ⟨q, h2, rfl⟩)
  exact List.mem_filter.mpr ⟨h3, rfl⟩
theorem zxs_3 {q : MethodName × Nat} (j : Nat) (h : lw_privs_3[j]? = some q) : Cond.selects q.1.cls q.1 q.1 ∈ za_wd := by
  have hm := List.mem_of_getElem? h
  have h2 : q ∈ lw_privs := by
    show q ∈ lw_privs_1 ++ (lw_privs_2 ++ (lw_privs_3 ++ (lw_privs_4 ++ (lw_privs_5 ++ (lw_privs_6 ++ (lw_privs_7))))))
    exact List.mem_append_right _ (List.mem_append_right _ (List.mem_append_left _ hm))
  have h3 : Cond.selects q.1.cls q.1 q.1 ∈ lw_tbl := by
    show Cond.selects q.1.cls q.1 q.1 ∈ k2_sels lw_privs ++ tables_1
    exact List.mem_append_left _ (List.mem_map.mpr ⟨q, h2, rfl⟩)
  exact List.mem_filter.mpr ⟨h3, rfl⟩
theorem zxs_4 {q : MethodName × Nat} (j : Nat) (h : lw_privs_4[j]? = some q) : Cond.selects q.1.cls q.1 q.1 ∈ za_wd := by
  have hm := List.mem_of_getElem? h
  have h2 : q ∈ lw_privs := by
    show q ∈ lw_privs_1 ++ (lw_privs_2 ++ (lw_privs_3 ++ (lw_privs_4 ++ (lw_privs_5 ++ (lw_privs_6 ++ (lw_privs_7))))))
    exact List.mem_append_right _ (List.mem_append_right _ (List.mem_append_right _ (List.mem_append_left _ hm)))
  have h3 : Cond.selects q.1.cls q.1 q.1 ∈ lw_tbl := by
    show Cond.selects q.1.cls q.1 q.1 ∈ k2_sels lw_privs ++ tables_1
    exact List.mem_append_left _ (List.mem_map.mpr ⟨q, h2, rfl⟩)
  exact List.mem_filter.mpr ⟨h3, rfl⟩
theorem zxs_5 {q : MethodName × Nat} (j : Nat) (h : lw_privs_5[j]? = some q) : Cond.selects q.1.cls q.1 q.1 ∈ za_wd := by
  have hm := List.mem_of_getElem? h
  have h2 : q ∈ lw_privs := by
    show q ∈ lw_privs_1 ++ (lw_privs_2 ++ (lw_privs_3 ++ (lw_privs_4 ++ (lw_privs_5 ++ (lw_privs_6 ++ (lw_privs_7))))))
    exact List.mem_append_right _ (List.mem_append_right _ (List.mem_append_right _ (List.mem_append_right _ (List.mem_append_left _ hm))))
  have h3 : Cond.selects q.1.cls q.1 q.1 ∈ lw_tbl := by
    show Cond.selects q.1.cls q.1 q.1 ∈ k2_sels lw_privs ++ tables_1
    exact List.mem_append_left _ (List.mem_map.mpr ⟨q, h2, rfl⟩)
  exact List.mem_filter.mpr ⟨h3, rfl⟩
theorem zxs_6 {q : MethodName × Nat} (j : Nat) (h : lw_privs_6[j]? = some q) : Cond.selects q.1.cls q.1 q.1 ∈ za_wd := by
  have hm := List.mem_of_getElem? h
  have h2 : q ∈ lw_privs := by
    show q ∈ lw_privs_1 ++ (lw_privs_2 ++ (lw_privs_3 ++ (lw_privs_4 ++ (lw_privs_5 ++ (lw_privs_6 ++ (lw_privs_7))))))
    exact List.mem_append_right _ (List.mem_append_right _ (List.mem_append_right _ (List.mem_append_right _ (List.mem_append_right _ (List.mem_append_left _ hm)))))
  have h3 : Cond.selects q.1.cls q.1 q.1 ∈ lw_tbl := by
    show Cond.selects q.1.cls q.1 q.1 ∈ k2_sels lw_privs ++ tables_1
    exact List.mem_append_left _ (List.mem_map.mpr ⟨q, h2, rfl⟩)
  exact List.mem_filter.mpr ⟨h3, rfl⟩
theorem zxs_7 {q : MethodName × Nat} (j : Nat) (h : lw_privs_7[j]? = some q) : Cond.selects q.1.cls q.1 q.1 ∈ za_wd := by
  have hm := List.mem_of_getElem? h
  have h2 : q ∈ lw_privs := by
    show q ∈ lw_privs_1 ++ (lw_privs_2 ++ (lw_privs_3 ++ (lw_privs_4 ++ (lw_privs_5 ++ (lw_privs_6 ++ (lw_privs_7))))))
    exact List.mem_append_right _ (List.mem_append_right _ (List.mem_append_right _ (List.mem_append_right _ (List.mem_append_right _ (List.mem_append_right _ (hm))))))
  have h3 : Cond.selects q.1.cls q.1 q.1 ∈ lw_tbl := by
    show Cond.selects q.1.cls q.1 q.1 ∈ k2_sels lw_privs ++ tables_1
    exact List.mem_append_left _ (List.mem_map.mpr ⟨q, h2, rfl⟩)
  exact List.mem_filter.mpr ⟨h3, rfl⟩
theorem zxt_1 {w : Cond} (j : Nat) (h : tables_1_1[j]? = some w) (g : goodWord w = true) : w ∈ za_wd := by
  have hm := List.mem_of_getElem? h
  have h2 : w ∈ tables_1 := by
    show w ∈ tables_1_1 ++ (tables_1_2 ++ (tables_1_3 ++ (tables_1_4 ++ (tables_1_5 ++ (tables_1_6 ++ (tables_1_7 ++ tables_1_8))))))
    exact List.mem_append_left _ hm
  have h3 : w ∈ lw_tbl := by
    show w ∈ k2_sels lw_privs ++ tables_1
    exact List.mem_append_right _ h2
  exact List.mem_filter.mpr ⟨h3, g⟩
theorem zxt_2 {w : Cond} (j : Nat) (h : tables_1_2[j]? = some w) (g : goodWord w = true) : w ∈ za_wd := by
  have hm := List.mem_of_getElem? h
  have h2 : w ∈ tables_1 := by
    show w ∈ tables_1_1 ++ (tables_1_2 ++ (tables_1_3 ++ (tables_1_4 ++ (tables_1_5 ++ (tables_1_6 ++ (tables_1_7 ++ tables_1_8))))))
    exact List.mem_append_right _ (List.mem_append_left _ hm)
  have h3 : w ∈ lw_tbl := by
    show w ∈ k2_sels lw_privs ++ tables_1
    exact List.mem_append_right _ h2
  exact List.mem_filter.mpr ⟨h3, g⟩
theorem zxt_3 {w : Cond} (j : Nat) (h : tables_1_3[j]? = some w) (g : goodWord w = true) : w ∈ za_wd := by
  have hm := List.mem_of_getElem? h
  have h2 : w ∈ tables_1 := by
    show w ∈ tables_1_1 ++ (tables_1_2 ++ (tables_1_3 ++ (tables_1_4 ++ (tables_1_5 ++ (tables_1_6 ++ (tables_1_7 ++ tables_1_8))))))
    exact List.mem_append_right _ (List.mem_append_right _ (List.mem_append_left _ hm))
  have h3 : w ∈ lw_tbl := by
    show w ∈ k2_sels lw_privs ++ tables_1
    exact List.mem_append_right _ h2
  exact List.mem_filter.mpr ⟨h3, g⟩
theorem zxt_4 {w : Cond} (j : Nat) (h : tables_1_4[j]? = some w) (g : goodWord w = true) : w ∈ za_wd := by
  have hm := List.mem_of_getElem? h
  have h2 : w ∈ tables_1 := by
    show w ∈ tables_1_1 ++ (tables_1_2 ++ (tables_1_3 ++ (tables_1_4 ++ (tables_1_5 ++ (tables_1_6 ++ (tables_1_7 ++ tables_1_8))))))
    exact List.mem_append_right _ (List.mem_append_right _ (List.mem_append_right _ (List.mem_append_left _ hm)))
  have h3 : w ∈ lw_tbl := by
    show w ∈ k2_sels lw_privs ++ tables_1
    exact List.mem_append_right _ h2
  exact List.mem_filter.mpr ⟨h3, g⟩
theorem zxt_5 {w : Cond} (j : Nat) (h : tables_1_5[j]? = some w) (g : goodWord w = true) : w ∈ za_wd := by
  have hm := List.mem_of_getElem? h
  have h2 : w ∈ tables_1 := by
    show w ∈ tables_1_1 ++ (tables_1_2 ++ (tables_1_3 ++ (tables_1_4 ++ (tables_1_5 ++ (tables_1_6 ++ (tables_1_7 ++ tables_1_8))))))
    exact List.mem_append_right _ (List.mem_append_right _ (List.mem_append_right _ (List.mem_append_right _ (List.mem_append_left _ hm))))
  have h3 : w ∈ lw_tbl := by
    show w ∈ k2_sels lw_privs ++ tables_1
    exact List.mem_append_right _ h2
  exact List.mem_filter.mpr ⟨h3, g⟩
theorem zxt_6 {w : Cond} (j : Nat) (h : tables_1_6[j]? = some w) (g : goodWord w = true) : w ∈ za_wd := by
  have hm := List.mem_of_getElem? h
  have h2 : w ∈ tables_1 := by
    show w ∈ tables_1_1 ++ (tables_1_2 ++ (tables_1_3 ++ (tables_1_4 ++ (tables_1_5 ++ (tables_1_6 ++ (tables_1_7 ++ tables_1_8))))))
    exact List.mem_append_right _ (List.mem_append_right _ (List.mem_append_right _ (List.mem_append_right _ (List.mem_append_right _ (List.mem_append_left _ hm)))))
  have h3 : w ∈ lw_tbl := by
    show w ∈ k2_sels lw_privs ++ tables_1
    exact List.mem_append_right _ h2
  exact List.mem_filter.mpr ⟨h3, g⟩
theorem zxt_7 {w : Cond} (j : Nat) (h : tables_1_7[j]? = some w) (g : goodWord w = true) : w ∈ za_wd := by
  have hm := List.mem_of_getElem? h
  have h2 : w ∈ tables_1 := by
    show w ∈ tables_1_1 ++ (tables_1_2 ++ (tables_1_3 ++ (tables_1_4 ++ (tables_1_5 ++ (tables_1_6 ++ (tables_1_7 ++ tables_1_8))))))
    exact List.mem_append_right _ (List.mem_append_right _ (List.mem_append_right _ (List.mem_append_right _ (List.mem_append_right _ (List.mem_append_right _ (List.mem_append_left _ hm))))))
  have h3 : w ∈ lw_tbl := by
    show w ∈ k2_sels lw_privs ++ tables_1
    exact List.mem_append_right _ h2
  exact List.mem_filter.mpr ⟨h3, g⟩
theorem zxt_8 {w : Cond} (j : Nat) (h : tables_1_8[j]? = some w) (g : goodWord w = true) : w ∈ za_wd := by
  have hm := List.mem_of_getElem? h
  have h2 : w ∈ tables_1 := by
    show w ∈ tables_1_1 ++ (tables_1_2 ++ (tables_1_3 ++ (tables_1_4 ++ (tables_1_5 ++ (tables_1_6 ++ (tables_1_7 ++ tables_1_8))))))
    exact List.mem_append_right _ (List.mem_append_right _ (List.mem_append_right _ (List.mem_append_right _ (List.mem_append_right _ (List.mem_append_right _ (List.mem_append_right _ (hm)))))))
  have h3 : w ∈ lw_tbl := by
    show w ∈ k2_sels lw_privs ++ tables_1
    exact List.mem_append_right _ h2
  exact List.mem_filter.mpr ⟨h3, g⟩
theorem zx_0 : Cond.selects ((⟨"DrownedSlates$Waters", "clear", "()V"⟩, 20) : MethodName × Nat).1.cls ((⟨"DrownedSlates$Waters", "clear", "()V"⟩, 20) : MethodName × Nat).1 ((⟨"DrownedSlates$Waters", "clear", "()V"⟩, 20) : MethodName × Nat).1 ∈ za_wd := zxs_1 0 rfl
theorem zx_1 : Cond.selects ((⟨"DrownedSlates$Waters", "setSize", "(II)V"⟩, 20) : MethodName × Nat).1.cls ((⟨"DrownedSlates$Waters", "setSize", "(II)V"⟩, 20) : MethodName × Nat).1 ((⟨"DrownedSlates$Waters", "setSize", "(II)V"⟩, 20) : MethodName × Nat).1 ∈ za_wd := zxs_1 1 rfl
theorem zx_2 : Cond.selects ((⟨"DrownedSlates", "putNumber", "(I)V"⟩, 18) : MethodName × Nat).1.cls ((⟨"DrownedSlates", "putNumber", "(I)V"⟩, 18) : MethodName × Nat).1 ((⟨"DrownedSlates", "putNumber", "(I)V"⟩, 18) : MethodName × Nat).1 ∈ za_wd := zxs_1 2 rfl
theorem zx_3 : Cond.selects ((⟨"DrownedSlates$Ship", "goTo", "(LDrownedSlates$Waters;II)V"⟩, 8) : MethodName × Nat).1.cls ((⟨"DrownedSlates$Ship", "goTo", "(LDrownedSlates$Waters;II)V"⟩, 8) : MethodName × Nat).1 ((⟨"DrownedSlates$Ship", "goTo", "(LDrownedSlates$Waters;II)V"⟩, 8) : MethodName × Nat).1 ∈ za_wd := zxs_1 3 rfl
theorem zx_4 : Cond.selects ((⟨"DrownedSlates$Helm", "lookForGoal", "(LDrownedSlates$Waters;)V"⟩, 4) : MethodName × Nat).1.cls ((⟨"DrownedSlates$Helm", "lookForGoal", "(LDrownedSlates$Waters;)V"⟩, 4) : MethodName × Nat).1 ((⟨"DrownedSlates$Helm", "lookForGoal", "(LDrownedSlates$Waters;)V"⟩, 4) : MethodName × Nat).1 ∈ za_wd := zxs_1 4 rfl
theorem zx_5 : Cond.selects ((⟨"DrownedSlates$Helm", "lookAround", "(LDrownedSlates$Waters;J)V"⟩, 4) : MethodName × Nat).1.cls ((⟨"DrownedSlates$Helm", "lookAround", "(LDrownedSlates$Waters;J)V"⟩, 4) : MethodName × Nat).1 ((⟨"DrownedSlates$Helm", "lookAround", "(LDrownedSlates$Waters;J)V"⟩, 4) : MethodName × Nat).1 ∈ za_wd := zxs_1 5 rfl
theorem zx_6 : Cond.selects ((⟨"DrownedSlates$Helm", "wayByRules", "(LDrownedSlates$Waters;)I"⟩, 4) : MethodName × Nat).1.cls ((⟨"DrownedSlates$Helm", "wayByRules", "(LDrownedSlates$Waters;)I"⟩, 4) : MethodName × Nat).1 ((⟨"DrownedSlates$Helm", "wayByRules", "(LDrownedSlates$Waters;)I"⟩, 4) : MethodName × Nat).1 ∈ za_wd := zxs_1 6 rfl
theorem zx_7 : Cond.selects ((⟨"DrownedSlates$Helm", "worth", "(LDrownedSlates$Waters;II)I"⟩, 4) : MethodName × Nat).1.cls ((⟨"DrownedSlates$Helm", "worth", "(LDrownedSlates$Waters;II)I"⟩, 4) : MethodName × Nat).1 ((⟨"DrownedSlates$Helm", "worth", "(LDrownedSlates$Waters;II)I"⟩, 4) : MethodName × Nat).1 ∈ za_wd := zxs_1 7 rfl
theorem zx_8 : Cond.selects ((⟨"DrownedSlates$Helm", "push", "(I)V"⟩, 4) : MethodName × Nat).1.cls ((⟨"DrownedSlates$Helm", "push", "(I)V"⟩, 4) : MethodName × Nat).1 ((⟨"DrownedSlates$Helm", "push", "(I)V"⟩, 4) : MethodName × Nat).1 ∈ za_wd := zxs_1 8 rfl
theorem zx_9 : Cond.selects ((⟨"DrownedSlates$Helm", "pop", "()I"⟩, 4) : MethodName × Nat).1.cls ((⟨"DrownedSlates$Helm", "pop", "()I"⟩, 4) : MethodName × Nat).1 ((⟨"DrownedSlates$Helm", "pop", "()I"⟩, 4) : MethodName × Nat).1 ∈ za_wd := zxs_1 9 rfl
theorem zx_11 : Cond.selects ((⟨"DrownedSlates$Tokens", "takeWord", "()V"⟩, 6) : MethodName × Nat).1.cls ((⟨"DrownedSlates$Tokens", "takeWord", "()V"⟩, 6) : MethodName × Nat).1 ((⟨"DrownedSlates$Tokens", "takeWord", "()V"⟩, 6) : MethodName × Nat).1 ∈ za_wd := zxs_1 11 rfl
theorem zx_12 : Cond.selects ((⟨"DrownedSlates$Tokens", "takeNumber", "()V"⟩, 6) : MethodName × Nat).1.cls ((⟨"DrownedSlates$Tokens", "takeNumber", "()V"⟩, 6) : MethodName × Nat).1 ((⟨"DrownedSlates$Tokens", "takeNumber", "()V"⟩, 6) : MethodName × Nat).1 ∈ za_wd := zxs_1 12 rfl
theorem zx_13 : Cond.selects ((⟨"DrownedSlates$Tokens", "takeSign", "()V"⟩, 6) : MethodName × Nat).1.cls ((⟨"DrownedSlates$Tokens", "takeSign", "()V"⟩, 6) : MethodName × Nat).1 ((⟨"DrownedSlates$Tokens", "takeSign", "()V"⟩, 6) : MethodName × Nat).1 ∈ za_wd := zxs_1 13 rfl
theorem zx_14 : Cond.selects ((⟨"DrownedSlates$Lines", "readLine", "(ZLDrownedSlates$Waters;LDrownedSlates$Chalk;)Z"⟩, 6) : MethodName × Nat).1.cls ((⟨"DrownedSlates$Lines", "readLine", "(ZLDrownedSlates$Waters;LDrownedSlates$Chalk;)Z"⟩, 6) : MethodName × Nat).1 ((⟨"DrownedSlates$Lines", "readLine", "(ZLDrownedSlates$Waters;LDrownedSlates$Chalk;)Z"⟩, 6) : MethodName × Nat).1 ∈ za_wd := zxs_1 14 rfl
theorem zx_15 : Cond.selects ((⟨"DrownedSlates$Lines", "refuse", "(I)Z"⟩, 6) : MethodName × Nat).1.cls ((⟨"DrownedSlates$Lines", "refuse", "(I)Z"⟩, 6) : MethodName × Nat).1 ((⟨"DrownedSlates$Lines", "refuse", "(I)Z"⟩, 6) : MethodName × Nat).1 ∈ za_wd := zxs_1 15 rfl
theorem zx_16 : Cond.selects ((⟨"DrownedSlates$Lines", "readHead", "(Z)Z"⟩, 6) : MethodName × Nat).1.cls ((⟨"DrownedSlates$Lines", "readHead", "(Z)Z"⟩, 6) : MethodName × Nat).1 ((⟨"DrownedSlates$Lines", "readHead", "(Z)Z"⟩, 6) : MethodName × Nat).1 ∈ za_wd := zxs_2 0 rfl
theorem zx_17 : Cond.selects ((⟨"DrownedSlates$Lines", "readSize", "(LDrownedSlates$Waters;)Z"⟩, 6) : MethodName × Nat).1.cls ((⟨"DrownedSlates$Lines", "readSize", "(LDrownedSlates$Waters;)Z"⟩, 6) : MethodName × Nat).1 ((⟨"DrownedSlates$Lines", "readSize", "(LDrownedSlates$Waters;)Z"⟩, 6) : MethodName × Nat).1 ∈ za_wd := zxs_2 1 rfl
theorem zx_18 : Cond.selects ((⟨"DrownedSlates$Lines", "readNumber", "(II)I"⟩, 6) : MethodName × Nat).1.cls ((⟨"DrownedSlates$Lines", "readNumber", "(II)I"⟩, 6) : MethodName × Nat).1 ((⟨"DrownedSlates$Lines", "readNumber", "(II)I"⟩, 6) : MethodName × Nat).1 ∈ za_wd := zxs_2 2 rfl
theorem zx_19 : Cond.selects ((⟨"DrownedSlates$Lines", "lookAtNumber", "(II)I"⟩, 6) : MethodName × Nat).1.cls ((⟨"DrownedSlates$Lines", "lookAtNumber", "(II)I"⟩, 6) : MethodName × Nat).1 ((⟨"DrownedSlates$Lines", "lookAtNumber", "(II)I"⟩, 6) : MethodName × Nat).1 ∈ za_wd := zxs_2 3 rfl
theorem zx_20 : Cond.selects ((⟨"DrownedSlates$Lines", "readHead", "(II)Z"⟩, 6) : MethodName × Nat).1.cls ((⟨"DrownedSlates$Lines", "readHead", "(II)Z"⟩, 6) : MethodName × Nat).1 ((⟨"DrownedSlates$Lines", "readHead", "(II)Z"⟩, 6) : MethodName × Nat).1 ∈ za_wd := zxs_2 4 rfl
theorem zx_21 : Cond.selects ((⟨"DrownedSlates$Lines", "readRock", "(LDrownedSlates$Waters;)Z"⟩, 6) : MethodName × Nat).1.cls ((⟨"DrownedSlates$Lines", "readRock", "(LDrownedSlates$Waters;)Z"⟩, 6) : MethodName × Nat).1 ((⟨"DrownedSlates$Lines", "readRock", "(LDrownedSlates$Waters;)Z"⟩, 6) : MethodName × Nat).1 ∈ za_wd := zxs_2 5 rfl
theorem zx_22 : Cond.selects ((⟨"DrownedSlates$Lines", "readCell", "(LDrownedSlates$Waters;J)I"⟩, 6) : MethodName × Nat).1.cls ((⟨"DrownedSlates$Lines", "readCell", "(LDrownedSlates$Waters;J)I"⟩, 6) : MethodName × Nat).1 ((⟨"DrownedSlates$Lines", "readCell", "(LDrownedSlates$Waters;J)I"⟩, 6) : MethodName × Nat).1 ∈ za_wd := zxs_2 6 rfl
theorem zx_23 : Cond.selects ((⟨"DrownedSlates$Lines", "readCurrent", "(LDrownedSlates$Waters;)Z"⟩, 6) : MethodName × Nat).1.cls ((⟨"DrownedSlates$Lines", "readCurrent", "(LDrownedSlates$Waters;)Z"⟩, 6) : MethodName × Nat).1 ((⟨"DrownedSlates$Lines", "readCurrent", "(LDrownedSlates$Waters;)Z"⟩, 6) : MethodName × Nat).1 ∈ za_wd := zxs_2 7 rfl
theorem zx_24 : Cond.selects ((⟨"DrownedSlates$Lines", "readWay", "()I"⟩, 6) : MethodName × Nat).1.cls ((⟨"DrownedSlates$Lines", "readWay", "()I"⟩, 6) : MethodName × Nat).1 ((⟨"DrownedSlates$Lines", "readWay", "()I"⟩, 6) : MethodName × Nat).1 ∈ za_wd := zxs_2 8 rfl
theorem zx_25 : Cond.selects ((⟨"DrownedSlates$Lines", "readSlate", "(LDrownedSlates$Waters;LDrownedSlates$Chalk;)Z"⟩, 6) : MethodName × Nat).1.cls ((⟨"DrownedSlates$Lines", "readSlate", "(LDrownedSlates$Waters;LDrownedSlates$Chalk;)Z"⟩, 6) : MethodName × Nat).1 ((⟨"DrownedSlates$Lines", "readSlate", "(LDrownedSlates$Waters;LDrownedSlates$Chalk;)Z"⟩, 6) : MethodName × Nat).1 ∈ za_wd := zxs_2 9 rfl
theorem zx_26 : Cond.selects ((⟨"DrownedSlates$Lines", "readHand", "(LDrownedSlates$Waters;)Z"⟩, 6) : MethodName × Nat).1.cls ((⟨"DrownedSlates$Lines", "readHand", "(LDrownedSlates$Waters;)Z"⟩, 6) : MethodName × Nat).1 ((⟨"DrownedSlates$Lines", "readHand", "(LDrownedSlates$Waters;)Z"⟩, 6) : MethodName × Nat).1 ∈ za_wd := zxs_2 10 rfl
theorem zx_27 : Cond.selects ((⟨"DrownedSlates$Lines", "readSchool", "(LDrownedSlates$Waters;)Z"⟩, 6) : MethodName × Nat).1.cls ((⟨"DrownedSlates$Lines", "readSchool", "(LDrownedSlates$Waters;)Z"⟩, 6) : MethodName × Nat).1 ((⟨"DrownedSlates$Lines", "readSchool", "(LDrownedSlates$Waters;)Z"⟩, 6) : MethodName × Nat).1 ∈ za_wd := zxs_2 11 rfl
theorem zx_28 : Cond.selects ((⟨"DrownedSlates$Lines", "readGoal", "(LDrownedSlates$Waters;)Z"⟩, 6) : MethodName × Nat).1.cls ((⟨"DrownedSlates$Lines", "readGoal", "(LDrownedSlates$Waters;)Z"⟩, 6) : MethodName × Nat).1 ((⟨"DrownedSlates$Lines", "readGoal", "(LDrownedSlates$Waters;)Z"⟩, 6) : MethodName × Nat).1 ∈ za_wd := zxs_2 12 rfl
theorem zx_29 : Cond.selects ((⟨"DrownedSlates$Lines", "readPilot", "(LDrownedSlates$Waters;LDrownedSlates$Chalk;)Z"⟩, 6) : MethodName × Nat).1.cls ((⟨"DrownedSlates$Lines", "readPilot", "(LDrownedSlates$Waters;LDrownedSlates$Chalk;)Z"⟩, 6) : MethodName × Nat).1 ((⟨"DrownedSlates$Lines", "readPilot", "(LDrownedSlates$Waters;LDrownedSlates$Chalk;)Z"⟩, 6) : MethodName × Nat).1 ∈ za_wd := zxs_2 13 rfl
theorem zx_30 : Cond.selects ((⟨"DrownedSlates$Lines", "readRead", "(LDrownedSlates$Chalk;I)I"⟩, 6) : MethodName × Nat).1.cls ((⟨"DrownedSlates$Lines", "readRead", "(LDrownedSlates$Chalk;I)I"⟩, 6) : MethodName × Nat).1 ((⟨"DrownedSlates$Lines", "readRead", "(LDrownedSlates$Chalk;I)I"⟩, 6) : MethodName × Nat).1 ∈ za_wd := zxs_2 14 rfl
theorem zx_31 : Cond.selects ((⟨"DrownedSlates$Lines", "readRule", "(LDrownedSlates$Waters;)Z"⟩, 6) : MethodName × Nat).1.cls ((⟨"DrownedSlates$Lines", "readRule", "(LDrownedSlates$Waters;)Z"⟩, 6) : MethodName × Nat).1 ((⟨"DrownedSlates$Lines", "readRule", "(LDrownedSlates$Waters;)Z"⟩, 6) : MethodName × Nat).1 ∈ za_wd := zxs_2 15 rfl
theorem zx_32 : Cond.selects ((⟨"DrownedSlates$Exprs", "readExpr", "(LDrownedSlates$Waters;I)Z"⟩, 3) : MethodName × Nat).1.cls ((⟨"DrownedSlates$Exprs", "readExpr", "(LDrownedSlates$Waters;I)Z"⟩, 3) : MethodName × Nat).1 ((⟨"DrownedSlates$Exprs", "readExpr", "(LDrownedSlates$Waters;I)Z"⟩, 3) : MethodName × Nat).1 ∈ za_wd := zxs_3 0 rfl
theorem zx_33 : Cond.selects ((⟨"DrownedSlates$Exprs", "refuse", "(I)Z"⟩, 3) : MethodName × Nat).1.cls ((⟨"DrownedSlates$Exprs", "refuse", "(I)Z"⟩, 3) : MethodName × Nat).1 ((⟨"DrownedSlates$Exprs", "refuse", "(I)Z"⟩, 3) : MethodName × Nat).1 ∈ za_wd := zxs_3 1 rfl
theorem zx_34 : Cond.selects ((⟨"DrownedSlates$Exprs", "readAnd", "(LDrownedSlates$Waters;I)Z"⟩, 3) : MethodName × Nat).1.cls ((⟨"DrownedSlates$Exprs", "readAnd", "(LDrownedSlates$Waters;I)Z"⟩, 3) : MethodName × Nat).1 ((⟨"DrownedSlates$Exprs", "readAnd", "(LDrownedSlates$Waters;I)Z"⟩, 3) : MethodName × Nat).1 ∈ za_wd := zxs_3 2 rfl
theorem zx_35 : Cond.selects ((⟨"DrownedSlates$Exprs", "readNot", "(LDrownedSlates$Waters;I)Z"⟩, 3) : MethodName × Nat).1.cls ((⟨"DrownedSlates$Exprs", "readNot", "(LDrownedSlates$Waters;I)Z"⟩, 3) : MethodName × Nat).1 ((⟨"DrownedSlates$Exprs", "readNot", "(LDrownedSlates$Waters;I)Z"⟩, 3) : MethodName × Nat).1 ∈ za_wd := zxs_3 3 rfl
theorem zx_36 : Cond.selects ((⟨"DrownedSlates$Exprs", "readTest", "(LDrownedSlates$Waters;I)Z"⟩, 3) : MethodName × Nat).1.cls ((⟨"DrownedSlates$Exprs", "readTest", "(LDrownedSlates$Waters;I)Z"⟩, 3) : MethodName × Nat).1 ((⟨"DrownedSlates$Exprs", "readTest", "(LDrownedSlates$Waters;I)Z"⟩, 3) : MethodName × Nat).1 ∈ za_wd := zxs_3 4 rfl
theorem zx_37 : Cond.selects ((⟨"DrownedSlates$Exprs", "readSum", "(LDrownedSlates$Waters;I)Z"⟩, 3) : MethodName × Nat).1.cls ((⟨"DrownedSlates$Exprs", "readSum", "(LDrownedSlates$Waters;I)Z"⟩, 3) : MethodName × Nat).1 ((⟨"DrownedSlates$Exprs", "readSum", "(LDrownedSlates$Waters;I)Z"⟩, 3) : MethodName × Nat).1 ∈ za_wd := zxs_3 5 rfl
theorem zx_38 : Cond.selects ((⟨"DrownedSlates$Exprs", "readProduct", "(LDrownedSlates$Waters;I)Z"⟩, 3) : MethodName × Nat).1.cls ((⟨"DrownedSlates$Exprs", "readProduct", "(LDrownedSlates$Waters;I)Z"⟩, 3) : MethodName × Nat).1 ((⟨"DrownedSlates$Exprs", "readProduct", "(LDrownedSlates$Waters;I)Z"⟩, 3) : MethodName × Nat).1 ∈ za_wd := zxs_3 6 rfl
theorem zx_39 : Cond.selects ((⟨"DrownedSlates$Exprs", "readPart", "(LDrownedSlates$Waters;I)Z"⟩, 3) : MethodName × Nat).1.cls ((⟨"DrownedSlates$Exprs", "readPart", "(LDrownedSlates$Waters;I)Z"⟩, 3) : MethodName × Nat).1 ((⟨"DrownedSlates$Exprs", "readPart", "(LDrownedSlates$Waters;I)Z"⟩, 3) : MethodName × Nat).1 ∈ za_wd := zxs_3 7 rfl
theorem zx_40 : Cond.selects ((⟨"DrownedSlates$Exprs", "put", "(LDrownedSlates$Waters;I)V"⟩, 3) : MethodName × Nat).1.cls ((⟨"DrownedSlates$Exprs", "put", "(LDrownedSlates$Waters;I)V"⟩, 3) : MethodName × Nat).1 ((⟨"DrownedSlates$Exprs", "put", "(LDrownedSlates$Waters;I)V"⟩, 3) : MethodName × Nat).1 ∈ za_wd := zxs_3 8 rfl
theorem zx_41 : Cond.selects ((⟨"DrownedSlates$Exprs", "putDone", "(LDrownedSlates$Waters;I)V"⟩, 3) : MethodName × Nat).1.cls ((⟨"DrownedSlates$Exprs", "putDone", "(LDrownedSlates$Waters;I)V"⟩, 3) : MethodName × Nat).1 ((⟨"DrownedSlates$Exprs", "putDone", "(LDrownedSlates$Waters;I)V"⟩, 3) : MethodName × Nat).1 ∈ za_wd := zxs_3 9 rfl
theorem zx_42 : Cond.selects ((⟨"DrownedSlates$Lines", "readEnd", "()Z"⟩, 6) : MethodName × Nat).1.cls ((⟨"DrownedSlates$Lines", "readEnd", "()Z"⟩, 6) : MethodName × Nat).1 ((⟨"DrownedSlates$Lines", "readEnd", "()Z"⟩, 6) : MethodName × Nat).1 ∈ za_wd := zxs_3 10 rfl
theorem zx_43 : Cond.selects ((⟨"DrownedSlates", "takeNext", "()V"⟩, 18) : MethodName × Nat).1.cls ((⟨"DrownedSlates", "takeNext", "()V"⟩, 18) : MethodName × Nat).1 ((⟨"DrownedSlates", "takeNext", "()V"⟩, 18) : MethodName × Nat).1 ∈ za_wd := zxs_3 11 rfl
theorem zx_44 : Cond.selects ((⟨"DrownedSlates", "needSlate", "(I)V"⟩, 18) : MethodName × Nat).1.cls ((⟨"DrownedSlates", "needSlate", "(I)V"⟩, 18) : MethodName × Nat).1 ((⟨"DrownedSlates", "needSlate", "(I)V"⟩, 18) : MethodName × Nat).1 ∈ za_wd := zxs_3 12 rfl
theorem zx_45 : Cond.selects ((⟨"DrownedSlates$Fog", "sailAnyhow", "(LDrownedSlates$Waters;)V"⟩, 2) : MethodName × Nat).1.cls ((⟨"DrownedSlates$Fog", "sailAnyhow", "(LDrownedSlates$Waters;)V"⟩, 2) : MethodName × Nat).1 ((⟨"DrownedSlates$Fog", "sailAnyhow", "(LDrownedSlates$Waters;)V"⟩, 2) : MethodName × Nat).1 ∈ za_wd := zxs_3 13 rfl
theorem zx_46 : Cond.selects ((⟨"DrownedSlates$Fog", "sailStep", "(LDrownedSlates$Waters;I)V"⟩, 2) : MethodName × Nat).1.cls ((⟨"DrownedSlates$Fog", "sailStep", "(LDrownedSlates$Waters;I)V"⟩, 2) : MethodName × Nat).1 ((⟨"DrownedSlates$Fog", "sailStep", "(LDrownedSlates$Waters;I)V"⟩, 2) : MethodName × Nat).1 ∈ za_wd := zxs_3 14 rfl
theorem zx_47 : Cond.selects ((⟨"DrownedSlates$Waters", "moved", "(JI)J"⟩, 20) : MethodName × Nat).1.cls ((⟨"DrownedSlates$Waters", "moved", "(JI)J"⟩, 20) : MethodName × Nat).1 ((⟨"DrownedSlates$Waters", "moved", "(JI)J"⟩, 20) : MethodName × Nat).1 ∈ za_wd := zxs_3 15 rfl
theorem zx_48 : Cond.selects ((⟨"DrownedSlates$Waters", "driven", "(J)J"⟩, 20) : MethodName × Nat).1.cls ((⟨"DrownedSlates$Waters", "driven", "(J)J"⟩, 20) : MethodName × Nat).1 ((⟨"DrownedSlates$Waters", "driven", "(J)J"⟩, 20) : MethodName × Nat).1 ∈ za_wd := zxs_4 0 rfl
theorem zx_49 : Cond.selects ((⟨"DrownedSlates$Fog", "sailMark", "(LDrownedSlates$Waters;II)V"⟩, 2) : MethodName × Nat).1.cls ((⟨"DrownedSlates$Fog", "sailMark", "(LDrownedSlates$Waters;II)V"⟩, 2) : MethodName × Nat).1 ((⟨"DrownedSlates$Fog", "sailMark", "(LDrownedSlates$Waters;II)V"⟩, 2) : MethodName × Nat).1 ∈ za_wd := zxs_4 1 rfl
theorem zx_50 : Cond.selects ((⟨"DrownedSlates", "needPilot", "(I)V"⟩, 18) : MethodName × Nat).1.cls ((⟨"DrownedSlates", "needPilot", "(I)V"⟩, 18) : MethodName × Nat).1 ((⟨"DrownedSlates", "needPilot", "(I)V"⟩, 18) : MethodName × Nat).1 ∈ za_wd := zxs_4 2 rfl
theorem zx_51 : Cond.selects ((⟨"DrownedSlates$Desk", "lessonOf", "(I)I"⟩, 12) : MethodName × Nat).1.cls ((⟨"DrownedSlates$Desk", "lessonOf", "(I)I"⟩, 12) : MethodName × Nat).1 ((⟨"DrownedSlates$Desk", "lessonOf", "(I)I"⟩, 12) : MethodName × Nat).1 ∈ za_wd := zxs_4 3 rfl
theorem zx_52 : Cond.selects ((⟨"DrownedSlates$Desk", "beginningNear", "(LDrownedSlates$Waters;I)I"⟩, 12) : MethodName × Nat).1.cls ((⟨"DrownedSlates$Desk", "beginningNear", "(LDrownedSlates$Waters;I)I"⟩, 12) : MethodName × Nat).1 ((⟨"DrownedSlates$Desk", "beginningNear", "(LDrownedSlates$Waters;I)I"⟩, 12) : MethodName × Nat).1 ∈ za_wd := zxs_4 4 rfl
theorem zx_53 : Cond.selects ((⟨"DrownedSlates$Desk", "putInRow", "(I)Z"⟩, 12) : MethodName × Nat).1.cls ((⟨"DrownedSlates$Desk", "putInRow", "(I)Z"⟩, 12) : MethodName × Nat).1 ((⟨"DrownedSlates$Desk", "putInRow", "(I)Z"⟩, 12) : MethodName × Nat).1 ∈ za_wd := zxs_4 5 rfl
theorem zx_54 : Cond.selects ((⟨"DrownedSlates$Desk", "rowIsAhead", "(I)Z"⟩, 12) : MethodName × Nat).1.cls ((⟨"DrownedSlates$Desk", "rowIsAhead", "(I)Z"⟩, 12) : MethodName × Nat).1 ((⟨"DrownedSlates$Desk", "rowIsAhead", "(I)Z"⟩, 12) : MethodName × Nat).1 ∈ za_wd := zxs_4 6 rfl
theorem zx_55 : Cond.selects ((⟨"DrownedSlates$Desk", "bringsThrough", "(LDrownedSlates$Waters;LDrownedSlates$Helm;II)Z"⟩, 12) : MethodName × Nat).1.cls ((⟨"DrownedSlates$Desk", "bringsThrough", "(LDrownedSlates$Waters;LDrownedSlates$Helm;II)Z"⟩, 12) : MethodName × Nat).1 ((⟨"DrownedSlates$Desk", "bringsThrough", "(LDrownedSlates$Waters;LDrownedSlates$Helm;II)Z"⟩, 12) : MethodName × Nat).1 ∈ za_wd := zxs_4 7 rfl
theorem zx_56 : Cond.selects ((⟨"DrownedSlates$Hands", "weigh", "(LDrownedSlates$Waters;LDrownedSlates$Chalk;IIII)V"⟩, 4) : MethodName × Nat).1.cls ((⟨"DrownedSlates$Hands", "weigh", "(LDrownedSlates$Waters;LDrownedSlates$Chalk;IIII)V"⟩, 4) : MethodName × Nat).1 ((⟨"DrownedSlates$Hands", "weigh", "(LDrownedSlates$Waters;LDrownedSlates$Chalk;IIII)V"⟩, 4) : MethodName × Nat).1 ∈ za_wd := zxs_4 8 rfl
theorem zx_57 : Cond.selects ((⟨"DrownedSlatesModel", "lays", "(I)V"⟩, 85) : MethodName × Nat).1.cls ((⟨"DrownedSlatesModel", "lays", "(I)V"⟩, 85) : MethodName × Nat).1 ((⟨"DrownedSlatesModel", "lays", "(I)V"⟩, 85) : MethodName × Nat).1 ∈ za_wd := zxs_4 9 rfl
theorem zx_58 : Cond.selects ((⟨"DrownedSlatesModel", "right", "(ZI)Z"⟩, 85) : MethodName × Nat).1.cls ((⟨"DrownedSlatesModel", "right", "(ZI)Z"⟩, 85) : MethodName × Nat).1 ((⟨"DrownedSlatesModel", "right", "(ZI)Z"⟩, 85) : MethodName × Nat).1 ∈ za_wd := zxs_4 10 rfl
theorem zx_59 : Cond.selects ((⟨"DrownedSlatesModel", "goes", "()V"⟩, 85) : MethodName × Nat).1.cls ((⟨"DrownedSlatesModel", "goes", "()V"⟩, 85) : MethodName × Nat).1 ((⟨"DrownedSlatesModel", "goes", "()V"⟩, 85) : MethodName × Nat).1 ∈ za_wd := zxs_4 11 rfl
theorem zx_60 : Cond.selects ((⟨"DrownedSlatesModel", "byteAt", "(I)I"⟩, 85) : MethodName × Nat).1.cls ((⟨"DrownedSlatesModel", "byteAt", "(I)I"⟩, 85) : MethodName × Nat).1 ((⟨"DrownedSlatesModel", "byteAt", "(I)I"⟩, 85) : MethodName × Nat).1 ∈ za_wd := zxs_4 12 rfl
theorem zx_61 : Cond.selects ((⟨"DrownedSlatesModel", "isGood", "()Z"⟩, 85) : MethodName × Nat).1.cls ((⟨"DrownedSlatesModel", "isGood", "()Z"⟩, 85) : MethodName × Nat).1 ((⟨"DrownedSlatesModel", "isGood", "()Z"⟩, 85) : MethodName × Nat).1 ∈ za_wd := zxs_4 13 rfl
theorem zx_62 : Cond.selects ((⟨"DrownedSlatesModel", "line", "()V"⟩, 85) : MethodName × Nat).1.cls ((⟨"DrownedSlatesModel", "line", "()V"⟩, 85) : MethodName × Nat).1 ((⟨"DrownedSlatesModel", "line", "()V"⟩, 85) : MethodName × Nat).1 ∈ za_wd := zxs_4 14 rfl
theorem zx_63 : Cond.selects ((⟨"DrownedSlatesModel", "knownWord", "()I"⟩, 85) : MethodName × Nat).1.cls ((⟨"DrownedSlatesModel", "knownWord", "()I"⟩, 85) : MethodName × Nat).1 ((⟨"DrownedSlatesModel", "knownWord", "()I"⟩, 85) : MethodName × Nat).1 ∈ za_wd := zxs_4 15 rfl
theorem zx_64 : Cond.selects ((⟨"DrownedSlatesModel", "wrong", "(I)V"⟩, 85) : MethodName × Nat).1.cls ((⟨"DrownedSlatesModel", "wrong", "(I)V"⟩, 85) : MethodName × Nat).1 ((⟨"DrownedSlatesModel", "wrong", "(I)V"⟩, 85) : MethodName × Nat).1 ∈ za_wd := zxs_5 0 rfl
theorem zx_65 : Cond.selects ((⟨"DrownedSlatesModel", "number", "(II)I"⟩, 85) : MethodName × Nat).1.cls ((⟨"DrownedSlatesModel", "number", "(II)I"⟩, 85) : MethodName × Nat).1 ((⟨"DrownedSlatesModel", "number", "(II)I"⟩, 85) : MethodName × Nat).1 ∈ za_wd := zxs_5 1 rfl
theorem zx_66 : Cond.selects ((⟨"DrownedSlatesModel", "numberHere", "(II)Z"⟩, 85) : MethodName × Nat).1.cls ((⟨"DrownedSlatesModel", "numberHere", "(II)Z"⟩, 85) : MethodName × Nat).1 ((⟨"DrownedSlatesModel", "numberHere", "(II)Z"⟩, 85) : MethodName × Nat).1 ∈ za_wd := zxs_5 2 rfl
theorem zx_67 : Cond.selects ((⟨"DrownedSlatesModel", "cellHere", "()I"⟩, 85) : MethodName × Nat).1.cls ((⟨"DrownedSlatesModel", "cellHere", "()I"⟩, 85) : MethodName × Nat).1 ((⟨"DrownedSlatesModel", "cellHere", "()I"⟩, 85) : MethodName × Nat).1 ∈ za_wd := zxs_5 3 rfl
theorem zx_68 : Cond.selects ((⟨"DrownedSlatesModel", "way", "()I"⟩, 85) : MethodName × Nat).1.cls ((⟨"DrownedSlatesModel", "way", "()I"⟩, 85) : MethodName × Nat).1 ((⟨"DrownedSlatesModel", "way", "()I"⟩, 85) : MethodName × Nat).1 ∈ za_wd := zxs_5 4 rfl
theorem zx_69 : Cond.selects ((⟨"DrownedSlatesModel", "need", "(Z)V"⟩, 85) : MethodName × Nat).1.cls ((⟨"DrownedSlatesModel", "need", "(Z)V"⟩, 85) : MethodName × Nat).1 ((⟨"DrownedSlatesModel", "need", "(Z)V"⟩, 85) : MethodName × Nat).1 ∈ za_wd := zxs_5 5 rfl
theorem zx_70 : Cond.selects ((⟨"DrownedSlatesModel", "readsSlate", "()V"⟩, 85) : MethodName × Nat).1.cls ((⟨"DrownedSlatesModel", "readsSlate", "()V"⟩, 85) : MethodName × Nat).1 ((⟨"DrownedSlatesModel", "readsSlate", "()V"⟩, 85) : MethodName × Nat).1 ∈ za_wd := zxs_5 6 rfl
theorem zx_71 : Cond.selects ((⟨"DrownedSlatesModel", "cellRead", "()I"⟩, 85) : MethodName × Nat).1.cls ((⟨"DrownedSlatesModel", "cellRead", "()I"⟩, 85) : MethodName × Nat).1 ((⟨"DrownedSlatesModel", "cellRead", "()I"⟩, 85) : MethodName × Nat).1 ∈ za_wd := zxs_5 7 rfl
theorem zx_72 : Cond.selects ((⟨"DrownedSlatesModel", "isWay", "()Z"⟩, 85) : MethodName × Nat).1.cls ((⟨"DrownedSlatesModel", "isWay", "()Z"⟩, 85) : MethodName × Nat).1 ((⟨"DrownedSlatesModel", "isWay", "()Z"⟩, 85) : MethodName × Nat).1 ∈ za_wd := zxs_5 8 rfl
theorem zx_73 : Cond.selects ((⟨"DrownedSlatesModel", "readsHand", "()V"⟩, 85) : MethodName × Nat).1.cls ((⟨"DrownedSlatesModel", "readsHand", "()V"⟩, 85) : MethodName × Nat).1 ((⟨"DrownedSlatesModel", "readsHand", "()V"⟩, 85) : MethodName × Nat).1 ∈ za_wd := zxs_5 9 rfl
theorem zx_74 : Cond.selects ((⟨"DrownedSlatesModel", "readsPilot", "()V"⟩, 85) : MethodName × Nat).1.cls ((⟨"DrownedSlatesModel", "readsPilot", "()V"⟩, 85) : MethodName × Nat).1 ((⟨"DrownedSlatesModel", "readsPilot", "()V"⟩, 85) : MethodName × Nat).1 ∈ za_wd := zxs_5 10 rfl
theorem zx_75 : Cond.selects ((⟨"DrownedSlatesModel", "expression", "()V"⟩, 85) : MethodName × Nat).1.cls ((⟨"DrownedSlatesModel", "expression", "()V"⟩, 85) : MethodName × Nat).1 ((⟨"DrownedSlatesModel", "expression", "()V"⟩, 85) : MethodName × Nat).1 ∈ za_wd := zxs_5 11 rfl
theorem zx_76 : Cond.selects ((⟨"DrownedSlatesModel", "deeper", "()V"⟩, 85) : MethodName × Nat).1.cls ((⟨"DrownedSlatesModel", "deeper", "()V"⟩, 85) : MethodName × Nat).1 ((⟨"DrownedSlatesModel", "deeper", "()V"⟩, 85) : MethodName × Nat).1 ∈ za_wd := zxs_5 12 rfl
theorem zx_77 : Cond.selects ((⟨"DrownedSlatesModel", "isSign", "(I)Z"⟩, 85) : MethodName × Nat).1.cls ((⟨"DrownedSlatesModel", "isSign", "(I)Z"⟩, 85) : MethodName × Nat).1 ((⟨"DrownedSlatesModel", "isSign", "(I)Z"⟩, 85) : MethodName × Nat).1 ∈ za_wd := zxs_5 13 rfl
theorem zx_78 : Cond.selects ((⟨"DrownedSlatesModel", "operand", "(Z)V"⟩, 85) : MethodName × Nat).1.cls ((⟨"DrownedSlatesModel", "operand", "(Z)V"⟩, 85) : MethodName × Nat).1 ((⟨"DrownedSlatesModel", "operand", "(Z)V"⟩, 85) : MethodName × Nat).1 ∈ za_wd := zxs_5 14 rfl
theorem zx_79 : Cond.selects ((⟨"DrownedSlatesModel", "waitsFor", "(I)V"⟩, 85) : MethodName × Nat).1.cls ((⟨"DrownedSlatesModel", "waitsFor", "(I)V"⟩, 85) : MethodName × Nat).1 ((⟨"DrownedSlatesModel", "waitsFor", "(I)V"⟩, 85) : MethodName × Nat).1 ∈ za_wd := zxs_5 15 rfl
theorem zx_80 : Cond.selects ((⟨"DrownedSlatesModel", "part", "()V"⟩, 85) : MethodName × Nat).1.cls ((⟨"DrownedSlatesModel", "part", "()V"⟩, 85) : MethodName × Nat).1 ((⟨"DrownedSlatesModel", "part", "()V"⟩, 85) : MethodName × Nat).1 ∈ za_wd := zxs_6 0 rfl
theorem zx_81 : Cond.selects ((⟨"DrownedSlatesModel", "puts", "(I)V"⟩, 85) : MethodName × Nat).1.cls ((⟨"DrownedSlatesModel", "puts", "(I)V"⟩, 85) : MethodName × Nat).1 ((⟨"DrownedSlatesModel", "puts", "(I)V"⟩, 85) : MethodName × Nat).1 ∈ za_wd := zxs_6 1 rfl
theorem zx_82 : Cond.selects ((⟨"DrownedSlatesModel", "drops", "(I)V"⟩, 85) : MethodName × Nat).1.cls ((⟨"DrownedSlatesModel", "drops", "(I)V"⟩, 85) : MethodName × Nat).1 ((⟨"DrownedSlatesModel", "drops", "(I)V"⟩, 85) : MethodName × Nat).1 ∈ za_wd := zxs_6 2 rfl
theorem zx_83 : Cond.selects ((⟨"DrownedSlatesModel", "isOpened", "()Z"⟩, 85) : MethodName × Nat).1.cls ((⟨"DrownedSlatesModel", "isOpened", "()Z"⟩, 85) : MethodName × Nat).1 ((⟨"DrownedSlatesModel", "isOpened", "()Z"⟩, 85) : MethodName × Nat).1 ∈ za_wd := zxs_6 3 rfl
theorem zx_84 : Cond.selects ((⟨"DrownedSlatesModel", "closes", "()V"⟩, 85) : MethodName × Nat).1.cls ((⟨"DrownedSlatesModel", "closes", "()V"⟩, 85) : MethodName × Nat).1 ((⟨"DrownedSlatesModel", "closes", "()V"⟩, 85) : MethodName × Nat).1 ∈ za_wd := zxs_6 4 rfl
theorem zx_85 : Cond.selects ((⟨"DrownedSlatesModel", "copies", "([I[I)V"⟩, 85) : MethodName × Nat).1.cls ((⟨"DrownedSlatesModel", "copies", "([I[I)V"⟩, 85) : MethodName × Nat).1 ((⟨"DrownedSlatesModel", "copies", "([I[I)V"⟩, 85) : MethodName × Nat).1 ∈ za_wd := zxs_6 5 rfl
theorem zx_86 : Cond.selects ((⟨"DrownedSlatesModel", "isWhat", "(II)Z"⟩, 85) : MethodName × Nat).1.cls ((⟨"DrownedSlatesModel", "isWhat", "(II)Z"⟩, 85) : MethodName × Nat).1 ((⟨"DrownedSlatesModel", "isWhat", "(II)Z"⟩, 85) : MethodName × Nat).1 ∈ za_wd := zxs_6 6 rfl
theorem zx_87 : Cond.selects ((⟨"DrownedSlatesModel", "isSlate", "(I)Z"⟩, 85) : MethodName × Nat).1.cls ((⟨"DrownedSlatesModel", "isSlate", "(I)Z"⟩, 85) : MethodName × Nat).1 ((⟨"DrownedSlatesModel", "isSlate", "(I)Z"⟩, 85) : MethodName × Nat).1 ∈ za_wd := zxs_6 7 rfl
theorem zx_88 : Cond.selects ((⟨"DrownedSlatesModel", "marks", "(I)I"⟩, 85) : MethodName × Nat).1.cls ((⟨"DrownedSlatesModel", "marks", "(I)I"⟩, 85) : MethodName × Nat).1 ((⟨"DrownedSlatesModel", "marks", "(I)I"⟩, 85) : MethodName × Nat).1 ∈ za_wd := zxs_6 8 rfl
theorem zx_89 : Cond.selects ((⟨"DrownedSlatesModel", "refuses", "()I"⟩, 85) : MethodName × Nat).1.cls ((⟨"DrownedSlatesModel", "refuses", "()I"⟩, 85) : MethodName × Nat).1 ((⟨"DrownedSlatesModel", "refuses", "()I"⟩, 85) : MethodName × Nat).1 ∈ za_wd := zxs_6 9 rfl
theorem zx_90 : Cond.selects ((⟨"DrownedSlatesModel", "keeps", "(II)V"⟩, 85) : MethodName × Nat).1.cls ((⟨"DrownedSlatesModel", "keeps", "(II)V"⟩, 85) : MethodName × Nat).1 ((⟨"DrownedSlatesModel", "keeps", "(II)V"⟩, 85) : MethodName × Nat).1 ∈ za_wd := zxs_6 10 rfl
theorem zx_91 : Cond.selects ((⟨"DrownedSlatesModel", "sailsOf", "(I)V"⟩, 85) : MethodName × Nat).1.cls ((⟨"DrownedSlatesModel", "sailsOf", "(I)V"⟩, 85) : MethodName × Nat).1 ((⟨"DrownedSlatesModel", "sailsOf", "(I)V"⟩, 85) : MethodName × Nat).1 ∈ za_wd := zxs_6 11 rfl
theorem zx_92 : Cond.selects ((⟨"DrownedSlatesModel", "steps", "(IIZ)I"⟩, 85) : MethodName × Nat).1.cls ((⟨"DrownedSlatesModel", "steps", "(IIZ)I"⟩, 85) : MethodName × Nat).1 ((⟨"DrownedSlatesModel", "steps", "(IIZ)I"⟩, 85) : MethodName × Nat).1 ∈ za_wd := zxs_6 12 rfl
theorem zx_93 : Cond.selects ((⟨"DrownedSlatesModel", "beside", "(II)I"⟩, 85) : MethodName × Nat).1.cls ((⟨"DrownedSlatesModel", "beside", "(II)I"⟩, 85) : MethodName × Nat).1 ((⟨"DrownedSlatesModel", "beside", "(II)I"⟩, 85) : MethodName × Nat).1 ∈ za_wd := zxs_6 13 rfl
theorem zx_94 : Cond.selects ((⟨"DrownedSlatesModel", "isRock", "(I)Z"⟩, 85) : MethodName × Nat).1.cls ((⟨"DrownedSlatesModel", "isRock", "(I)Z"⟩, 85) : MethodName × Nat).1 ((⟨"DrownedSlatesModel", "isRock", "(I)Z"⟩, 85) : MethodName × Nat).1 ∈ za_wd := zxs_6 14 rfl
theorem zx_95 : Cond.selects ((⟨"DrownedSlatesModel", "stepsAll", "(II)V"⟩, 85) : MethodName × Nat).1.cls ((⟨"DrownedSlatesModel", "stepsAll", "(II)V"⟩, 85) : MethodName × Nat).1 ((⟨"DrownedSlatesModel", "stepsAll", "(II)V"⟩, 85) : MethodName × Nat).1 ∈ za_wd := zxs_6 15 rfl
theorem zx_96 : Cond.selects ((⟨"DrownedSlatesModel", "isPilot", "(I)Z"⟩, 85) : MethodName × Nat).1.cls ((⟨"DrownedSlatesModel", "isPilot", "(I)Z"⟩, 85) : MethodName × Nat).1 ((⟨"DrownedSlatesModel", "isPilot", "(I)Z"⟩, 85) : MethodName × Nat).1 ∈ za_wd := zxs_7 0 rfl
theorem zx_97 : Cond.selects ((⟨"DrownedSlatesModel", "pilots", "(II)V"⟩, 85) : MethodName × Nat).1.cls ((⟨"DrownedSlatesModel", "pilots", "(II)V"⟩, 85) : MethodName × Nat).1 ((⟨"DrownedSlatesModel", "pilots", "(II)V"⟩, 85) : MethodName × Nat).1 ∈ za_wd := zxs_7 1 rfl
theorem zx_98 : Cond.selects ((⟨"DrownedSlatesModel", "knownBy", "(I)J"⟩, 85) : MethodName × Nat).1.cls ((⟨"DrownedSlatesModel", "knownBy", "(I)J"⟩, 85) : MethodName × Nat).1 ((⟨"DrownedSlatesModel", "knownBy", "(I)J"⟩, 85) : MethodName × Nat).1 ∈ za_wd := zxs_7 2 rfl
theorem zx_99 : Cond.selects ((⟨"DrownedSlatesModel", "wayOf", "(IIJ)I"⟩, 85) : MethodName × Nat).1.cls ((⟨"DrownedSlatesModel", "wayOf", "(IIJ)I"⟩, 85) : MethodName × Nat).1 ((⟨"DrownedSlatesModel", "wayOf", "(IIJ)I"⟩, 85) : MethodName × Nat).1 ∈ za_wd := zxs_7 3 rfl
theorem zx_100 : Cond.selects ((⟨"DrownedSlatesModel", "reckons", "(IIIJ)I"⟩, 85) : MethodName × Nat).1.cls ((⟨"DrownedSlatesModel", "reckons", "(IIIJ)I"⟩, 85) : MethodName × Nat).1 ((⟨"DrownedSlatesModel", "reckons", "(IIIJ)I"⟩, 85) : MethodName × Nat).1 ∈ za_wd := zxs_7 4 rfl
theorem zx_101 : Cond.selects ((⟨"DrownedSlatesModel", "valueOf", "(IIIJ)I"⟩, 85) : MethodName × Nat).1.cls ((⟨"DrownedSlatesModel", "valueOf", "(IIIJ)I"⟩, 85) : MethodName × Nat).1 ((⟨"DrownedSlatesModel", "valueOf", "(IIIJ)I"⟩, 85) : MethodName × Nat).1 ∈ za_wd := zxs_7 5 rfl
theorem zx_102 : Cond.selects ((⟨"DrownedSlatesModel", "studies", "(II)Z"⟩, 85) : MethodName × Nat).1.cls ((⟨"DrownedSlatesModel", "studies", "(II)Z"⟩, 85) : MethodName × Nat).1 ((⟨"DrownedSlatesModel", "studies", "(II)Z"⟩, 85) : MethodName × Nat).1 ∈ za_wd := zxs_7 6 rfl
theorem zx_103 : Cond.selects ((⟨"DrownedSlatesModel", "isRead", "(I)Z"⟩, 85) : MethodName × Nat).1.cls ((⟨"DrownedSlatesModel", "isRead", "(I)Z"⟩, 85) : MethodName × Nat).1 ((⟨"DrownedSlatesModel", "isRead", "(I)Z"⟩, 85) : MethodName × Nat).1 ∈ za_wd := zxs_7 7 rfl
theorem zx_104 : Cond.selects ((⟨"DrownedSlatesModel", "isNear", "(III)Z"⟩, 85) : MethodName × Nat).1.cls ((⟨"DrownedSlatesModel", "isNear", "(III)Z"⟩, 85) : MethodName × Nat).1 ((⟨"DrownedSlatesModel", "isNear", "(III)Z"⟩, 85) : MethodName × Nat).1 ∈ za_wd := zxs_7 8 rfl
theorem zx_105 : Cond.selects ((⟨"DrownedSlatesModel", "product", "(IIII)J"⟩, 85) : MethodName × Nat).1.cls ((⟨"DrownedSlatesModel", "product", "(IIII)J"⟩, 85) : MethodName × Nat).1 ((⟨"DrownedSlatesModel", "product", "(IIII)J"⟩, 85) : MethodName × Nat).1 ∈ za_wd := zxs_7 9 rfl
theorem zx_106 : Cond.selects ((⟨"DrownedSlatesModel", "alike", "(IIII)I"⟩, 85) : MethodName × Nat).1.cls ((⟨"DrownedSlatesModel", "alike", "(IIII)I"⟩, 85) : MethodName × Nat).1 ((⟨"DrownedSlatesModel", "alike", "(IIII)I"⟩, 85) : MethodName × Nat).1 ∈ za_wd := zxs_7 10 rfl
theorem zx_107 : (Jvm.Cond.initialized "DrownedSlatesLaw") ∈ za_wd := zxt_1 0 rfl rfl
theorem zx_108 : (Jvm.Cond.initialized "DrownedSlates") ∈ za_wd := zxt_1 1 rfl rfl
theorem zx_109 : (Jvm.Cond.initialized "DrownedSlates$Waters") ∈ za_wd := zxt_1 2 rfl rfl
theorem zx_110 : (Jvm.Cond.initialized "java/util/Arrays") ∈ za_wd := zxt_1 3 rfl rfl
theorem zx_111 : (Jvm.Cond.initialized "DrownedSlates$Chalk") ∈ za_wd := zxt_1 4 rfl rfl
theorem zx_112 : (Jvm.Cond.initialized "DrownedSlates$Lines") ∈ za_wd := zxt_1 5 rfl rfl
theorem zx_113 : (Jvm.Cond.initialized "DrownedSlates$Tokens") ∈ za_wd := zxt_1 6 rfl rfl
theorem zx_114 : (Jvm.Cond.initialized "DrownedSlates$Exprs") ∈ za_wd := zxt_1 7 rfl rfl
theorem zx_115 : (Jvm.Cond.initialized "DrownedSlates$Ship") ∈ za_wd := zxt_1 8 rfl rfl
theorem zx_116 : (Jvm.Cond.initialized "DrownedSlates$Fog") ∈ za_wd := zxt_1 9 rfl rfl
theorem zx_117 : (Jvm.Cond.initialized "DrownedSlates$Helm") ∈ za_wd := zxt_1 10 rfl rfl
theorem zx_118 : (Jvm.Cond.initialized "DrownedSlates$Desk") ∈ za_wd := zxt_1 11 rfl rfl
theorem zx_119 : (Jvm.Cond.initialized "DrownedSlates$Hands") ∈ za_wd := zxt_1 12 rfl rfl
theorem zx_120 : (Jvm.Cond.initialized "DrownedSlates$Likeness") ∈ za_wd := zxt_1 13 rfl rfl
theorem zx_121 : (Jvm.Cond.initialized "DrownedSlatesModel") ∈ za_wd := zxt_1 14 rfl rfl
theorem zx_125 : (Jvm.Cond.initialized "java/lang/IllegalArgumentException") ∈ za_wd := zxt_1 18 rfl rfl
theorem zx_126 : (Jvm.Cond.initialized "java/lang/Math") ∈ za_wd := zxt_1 19 rfl rfl
theorem zx_131 : (Jvm.Cond.initialized "java/lang/Long") ∈ za_wd := zxt_1 24 rfl rfl
theorem zx_132 : (Jvm.Cond.initialized "java/util/NoSuchElementException") ∈ za_wd := zxt_1 25 rfl rfl
theorem zx_133 : (Jvm.Cond.initialized "java/lang/System") ∈ za_wd := zxt_1 26 rfl rfl
theorem zx_134 : (Jvm.Cond.initialized "java/lang/Integer") ∈ za_wd := zxt_1 27 rfl rfl
theorem zx_135 : (Jvm.Cond.classLink "DrownedSlatesLaw" (8 : Nat) "DrownedSlates") ∈ za_wd := zxt_1 28 rfl rfl
theorem zx_136 : (Jvm.Cond.instantiable "DrownedSlates" (18 : Nat)) ∈ za_wd := zxt_1 29 rfl rfl
theorem zx_137 : (Jvm.Cond.methodLink "DrownedSlatesLaw" (73 : Nat) ({ cls := "DrownedSlates", name := "<init>", desc := "()V" } : Jvm.MethodName)) ∈ za_wd := zxt_1 30 rfl rfl
theorem zx_138 : (Jvm.Cond.instanceMethod ({ cls := "DrownedSlates", name := "<init>", desc := "()V" } : Jvm.MethodName)) ∈ za_wd := zxt_1 31 rfl rfl
theorem zx_139 : (Jvm.Cond.code ({ cls := "DrownedSlates", name := "<init>", desc := "()V" } : Jvm.MethodName) prog_1_method_1_code (1 : Nat) (Option.none : Option Jvm.ClassFile.FieldType)) ∈ za_wd := zxt_1 32 rfl rfl
theorem zx_140 : (Jvm.Cond.methodLink "DrownedSlates" (3 : Nat) ({ cls := "java/lang/Object", name := "<init>", desc := "()V" } : Jvm.MethodName)) ∈ za_wd := zxt_1 33 rfl rfl
theorem zx_141 : (Jvm.Cond.instanceMethod ({ cls := "java/lang/Object", name := "<init>", desc := "()V" } : Jvm.MethodName)) ∈ za_wd := zxt_1 34 rfl rfl
theorem zx_142 : (Jvm.Cond.code ({ cls := "java/lang/Object", name := "<init>", desc := "()V" } : Jvm.MethodName) object_method_1_code (1 : Nat) (Option.none : Option Jvm.ClassFile.FieldType)) ∈ za_wd := zxt_1 35 rfl rfl
theorem zx_143 : (Jvm.Cond.classLink "DrownedSlates" (28 : Nat) "DrownedSlates$Waters") ∈ za_wd := zxt_1 36 rfl rfl
theorem zx_144 : (Jvm.Cond.instantiable "DrownedSlates$Waters" (20 : Nat)) ∈ za_wd := zxt_1 37 rfl rfl
theorem zx_145 : (Jvm.Cond.methodLink "DrownedSlates" (30 : Nat) ({ cls := "DrownedSlates$Waters", name := "<init>", desc := "()V" } : Jvm.MethodName)) ∈ za_wd := zxt_1 38 rfl rfl
theorem zx_146 : (Jvm.Cond.instanceMethod ({ cls := "DrownedSlates$Waters", name := "<init>", desc := "()V" } : Jvm.MethodName)) ∈ za_wd := zxt_1 39 rfl rfl
theorem zx_147 : (Jvm.Cond.code ({ cls := "DrownedSlates$Waters", name := "<init>", desc := "()V" } : Jvm.MethodName) prog_12_method_1_code (1 : Nat) (Option.none : Option Jvm.ClassFile.FieldType)) ∈ za_wd := zxt_1 40 rfl rfl
theorem zx_148 : (Jvm.Cond.methodLink "DrownedSlates$Waters" (3 : Nat) ({ cls := "java/lang/Object", name := "<init>", desc := "()V" } : Jvm.MethodName)) ∈ za_wd := zxt_1 41 rfl rfl
theorem zx_149 : (Jvm.Cond.methodLink "DrownedSlates$Waters" (43 : Nat) ({ cls := "DrownedSlates$Waters", name := "clear", desc := "()V" } : Jvm.MethodName)) ∈ za_wd := zxt_1 42 rfl rfl
theorem zx_151 : (Jvm.Cond.instanceMethod ({ cls := "DrownedSlates$Waters", name := "clear", desc := "()V" } : Jvm.MethodName)) ∈ za_wd := zxt_1 44 rfl rfl
theorem zx_152 : (Jvm.Cond.code ({ cls := "DrownedSlates$Waters", name := "clear", desc := "()V" } : Jvm.MethodName) prog_12_method_2_code (1 : Nat) (Option.none : Option Jvm.ClassFile.FieldType)) ∈ za_wd := zxt_1 45 rfl rfl
theorem zx_153 : (Jvm.Cond.methodLink "DrownedSlates$Waters" (46 : Nat) ({ cls := "DrownedSlates$Waters", name := "setSize", desc := "(II)V" } : Jvm.MethodName)) ∈ za_wd := zxt_1 46 rfl rfl
theorem zx_155 : (Jvm.Cond.instanceMethod ({ cls := "DrownedSlates$Waters", name := "setSize", desc := "(II)V" } : Jvm.MethodName)) ∈ za_wd := zxt_1 48 rfl rfl
theorem zx_156 : (Jvm.Cond.code ({ cls := "DrownedSlates$Waters", name := "setSize", desc := "(II)V" } : Jvm.MethodName) prog_12_method_3_code (6 : Nat) (Option.none : Option Jvm.ClassFile.FieldType)) ∈ za_wd := zxt_1 49 rfl rfl
theorem zx_157 : (Jvm.Cond.constantLong "DrownedSlates$Waters" (88 : Nat) (-1 : Int64)) ∈ za_wd := zxt_1 50 rfl rfl
theorem zx_159 : (Jvm.Cond.static ({ cls := "DrownedSlates", name := "bit", desc := "(I)J" } : Jvm.MethodName)) ∈ za_wd := zxt_1 52 rfl rfl
theorem zx_160 : (Jvm.Cond.code ({ cls := "DrownedSlates", name := "bit", desc := "(I)J" } : Jvm.MethodName) prog_1_method_31_code (1 : Nat) (Option.some Jvm.ClassFile.FieldType.long)) ∈ za_wd := zxt_1 53 rfl rfl
theorem zx_161 : (Jvm.Cond.methodLink "DrownedSlates$Waters" (54 : Nat) ({ cls := "java/util/Arrays", name := "fill", desc := "([II)V" } : Jvm.MethodName)) ∈ za_wd := zxt_1 54 rfl rfl
theorem zx_162 : (Jvm.Cond.static ({ cls := "java/util/Arrays", name := "fill", desc := "([II)V" } : Jvm.MethodName)) ∈ za_wd := zxt_1 55 rfl rfl
theorem zx_163 : (Jvm.Cond.code ({ cls := "java/util/Arrays", name := "fill", desc := "([II)V" } : Jvm.MethodName) prog_31_method_103_code (4 : Nat) (Option.none : Option Jvm.ClassFile.FieldType)) ∈ za_wd := zxt_1 56 rfl rfl
theorem zx_164 : (Jvm.Cond.methodLink "DrownedSlates$Waters" (60 : Nat) ({ cls := "java/util/Arrays", name := "fill", desc := "([JJ)V" } : Jvm.MethodName)) ∈ za_wd := zxt_1 57 rfl rfl
theorem zx_165 : (Jvm.Cond.static ({ cls := "java/util/Arrays", name := "fill", desc := "([JJ)V" } : Jvm.MethodName)) ∈ za_wd := zxt_1 58 rfl rfl
theorem zx_166 : (Jvm.Cond.code ({ cls := "java/util/Arrays", name := "fill", desc := "([JJ)V" } : Jvm.MethodName) prog_31_method_101_code (5 : Nat) (Option.none : Option Jvm.ClassFile.FieldType)) ∈ za_wd := zxt_1 59 rfl rfl
theorem zx_167 : (Jvm.Cond.fieldLink "DrownedSlates$Waters" (82 : Nat) "DrownedSlates$Waters" "width" "I") ∈ za_wd := zxt_1 60 rfl rfl
theorem zx_168 : (Jvm.Cond.fieldLink "DrownedSlates" (131 : Nat) "DrownedSlates$Waters" "width" "I") ∈ za_wd := zxt_1 61 rfl rfl
theorem zx_169 : (Jvm.Cond.fieldLink "DrownedSlates$Lines" (148 : Nat) "DrownedSlates$Waters" "width" "I") ∈ za_wd := zxt_1 62 rfl rfl
theorem zx_170 : (Jvm.Cond.fieldLink "DrownedSlates$Waters" (85 : Nat) "DrownedSlates$Waters" "height" "I") ∈ za_wd := zxt_1 63 rfl rfl
theorem zx_171 : (Jvm.Cond.fieldLink "DrownedSlates" (134 : Nat) "DrownedSlates$Waters" "height" "I") ∈ za_wd := zxt_1 64 rfl rfl
theorem zx_172 : (Jvm.Cond.fieldLink "DrownedSlates$Lines" (151 : Nat) "DrownedSlates$Waters" "height" "I") ∈ za_wd := zxt_1 65 rfl rfl
theorem zx_173 : (Jvm.Cond.fieldLink "DrownedSlates$Waters" (90 : Nat) "DrownedSlates$Waters" "all" "J") ∈ za_wd := zxt_1 66 rfl rfl
theorem zx_174 : (Jvm.Cond.fieldLink "DrownedSlates" (327 : Nat) "DrownedSlates$Waters" "all" "J") ∈ za_wd := zxt_1 67 rfl rfl
theorem zx_175 : (Jvm.Cond.fieldLink "DrownedSlates$Waters" (50 : Nat) "DrownedSlates$Waters" "rocks" "J") ∈ za_wd := zxt_1 68 rfl rfl
theorem zx_176 : (Jvm.Cond.fieldLink "DrownedSlates$Lines" (91 : Nat) "DrownedSlates$Waters" "rocks" "J") ∈ za_wd := zxt_1 69 rfl rfl
theorem zx_177 : (Jvm.Cond.fieldLink "DrownedSlates" (137 : Nat) "DrownedSlates$Waters" "rocks" "J") ∈ za_wd := zxt_1 70 rfl rfl
theorem zx_178 : (Jvm.Cond.fieldLink "DrownedSlates$Waters" (9 : Nat) "DrownedSlates$Waters" "open" "[J") ∈ za_wd := zxt_1 71 rfl rfl
theorem zx_179 : (Jvm.Cond.fieldLink "DrownedSlates$Waters" (15 : Nat) "DrownedSlates$Waters" "current" "[I") ∈ za_wd := zxt_1 72 rfl rfl
theorem zx_180 : (Jvm.Cond.fieldLink "DrownedSlates" (193 : Nat) "DrownedSlates$Waters" "current" "[I") ∈ za_wd := zxt_1 73 rfl rfl
theorem zx_181 : (Jvm.Cond.fieldLink "DrownedSlates$Waters" (19 : Nat) "DrownedSlates$Waters" "currents" "[J") ∈ za_wd := zxt_1 74 rfl rfl
theorem zx_182 : (Jvm.Cond.fieldLink "DrownedSlates$Hands" (25 : Nat) "DrownedSlates$Waters" "hands" "I") ∈ za_wd := zxt_1 75 rfl rfl
theorem zx_183 : (Jvm.Cond.fieldLink "DrownedSlates$Waters" (63 : Nat) "DrownedSlates$Waters" "hands" "I") ∈ za_wd := zxt_1 76 rfl rfl
theorem zx_184 : (Jvm.Cond.fieldLink "DrownedSlates$Lines" (117 : Nat) "DrownedSlates$Waters" "hands" "I") ∈ za_wd := zxt_1 77 rfl rfl
theorem zx_185 : (Jvm.Cond.fieldLink "DrownedSlates" (154 : Nat) "DrownedSlates$Waters" "hands" "I") ∈ za_wd := zxt_1 78 rfl rfl
theorem zx_186 : (Jvm.Cond.fieldLink "DrownedSlates$Waters" (22 : Nat) "DrownedSlates$Waters" "weight" "[I") ∈ za_wd := zxt_1 79 rfl rfl
theorem zx_187 : (Jvm.Cond.fieldLink "DrownedSlates$Lines" (187 : Nat) "DrownedSlates$Waters" "weight" "[I") ∈ za_wd := zxt_1 80 rfl rfl
theorem zx_188 : (Jvm.Cond.fieldLink "DrownedSlates$Waters" (67 : Nat) "DrownedSlates$Waters" "school" "I") ∈ za_wd := zxt_1 81 rfl rfl
theorem zx_189 : (Jvm.Cond.fieldLink "DrownedSlates$Desk" (83 : Nat) "DrownedSlates$Waters" "school" "I") ∈ za_wd := zxt_1 82 rfl rfl
theorem zx_190 : (Jvm.Cond.fieldLink "DrownedSlates" (162 : Nat) "DrownedSlates$Waters" "school" "I") ∈ za_wd := zxt_1 83 rfl rfl
theorem zx_191 : (Jvm.Cond.fieldLink "DrownedSlates$Lines" (191 : Nat) "DrownedSlates$Waters" "school" "I") ∈ za_wd := zxt_1 84 rfl rfl
theorem zx_192 : (Jvm.Cond.fieldLink "DrownedSlates$Waters" (70 : Nat) "DrownedSlates$Waters" "reach" "I") ∈ za_wd := zxt_1 85 rfl rfl
theorem zx_193 : (Jvm.Cond.fieldLink "DrownedSlates$Desk" (112 : Nat) "DrownedSlates$Waters" "reach" "I") ∈ za_wd := zxt_1 86 rfl rfl
theorem zx_194 : (Jvm.Cond.fieldLink "DrownedSlates" (165 : Nat) "DrownedSlates$Waters" "reach" "I") ∈ za_wd := zxt_1 87 rfl rfl
theorem zx_195 : (Jvm.Cond.fieldLink "DrownedSlates$Lines" (194 : Nat) "DrownedSlates$Waters" "reach" "I") ∈ za_wd := zxt_1 88 rfl rfl
theorem zx_196 : (Jvm.Cond.fieldLink "DrownedSlates$Waters" (73 : Nat) "DrownedSlates$Waters" "goal" "I") ∈ za_wd := zxt_1 89 rfl rfl
theorem zx_197 : (Jvm.Cond.fieldLink "DrownedSlates$Helm" (67 : Nat) "DrownedSlates$Waters" "goal" "I") ∈ za_wd := zxt_1 90 rfl rfl
theorem zx_198 : (Jvm.Cond.fieldLink "DrownedSlates" (168 : Nat) "DrownedSlates$Waters" "goal" "I") ∈ za_wd := zxt_1 91 rfl rfl
theorem zx_199 : (Jvm.Cond.fieldLink "DrownedSlates$Lines" (197 : Nat) "DrownedSlates$Waters" "goal" "I") ∈ za_wd := zxt_1 92 rfl rfl
theorem zx_200 : (Jvm.Cond.fieldLink "DrownedSlates$Waters" (76 : Nat) "DrownedSlates$Waters" "pilots" "I") ∈ za_wd := zxt_1 93 rfl rfl
theorem zx_201 : (Jvm.Cond.fieldLink "DrownedSlates$Lines" (129 : Nat) "DrownedSlates$Waters" "pilots" "I") ∈ za_wd := zxt_1 94 rfl rfl
theorem zx_202 : (Jvm.Cond.fieldLink "DrownedSlates" (156 : Nat) "DrownedSlates$Waters" "pilots" "I") ∈ za_wd := zxt_1 95 rfl rfl
theorem zx_203 : (Jvm.Cond.fieldLink "DrownedSlates$Waters" (25 : Nat) "DrownedSlates$Waters" "pilotCell" "[I") ∈ za_wd := zxt_1 96 rfl rfl
theorem zx_204 : (Jvm.Cond.fieldLink "DrownedSlates$Helm" (29 : Nat) "DrownedSlates$Waters" "pilotCell" "[I") ∈ za_wd := zxt_1 97 rfl rfl
theorem zx_205 : (Jvm.Cond.fieldLink "DrownedSlates" (277 : Nat) "DrownedSlates$Waters" "pilotCell" "[I") ∈ za_wd := zxt_1 98 rfl rfl
theorem zx_206 : (Jvm.Cond.fieldLink "DrownedSlates$Lines" (204 : Nat) "DrownedSlates$Waters" "pilotCell" "[I") ∈ za_wd := zxt_1 99 rfl rfl
theorem zx_207 : (Jvm.Cond.fieldLink "DrownedSlates$Waters" (28 : Nat) "DrownedSlates$Waters" "pilotHour" "[I") ∈ za_wd := zxt_1 100 rfl rfl
theorem zx_208 : (Jvm.Cond.fieldLink "DrownedSlates$Helm" (34 : Nat) "DrownedSlates$Waters" "pilotHour" "[I") ∈ za_wd := zxt_1 101 rfl rfl
theorem zx_209 : (Jvm.Cond.fieldLink "DrownedSlates" (280 : Nat) "DrownedSlates$Waters" "pilotHour" "[I") ∈ za_wd := zxt_1 102 rfl rfl
theorem zx_210 : (Jvm.Cond.fieldLink "DrownedSlates$Lines" (207 : Nat) "DrownedSlates$Waters" "pilotHour" "[I") ∈ za_wd := zxt_1 103 rfl rfl
theorem zx_211 : (Jvm.Cond.fieldLink "DrownedSlates$Waters" (31 : Nat) "DrownedSlates$Waters" "pilotRead" "[I") ∈ za_wd := zxt_1 104 rfl rfl
theorem zx_212 : (Jvm.Cond.fieldLink "DrownedSlates" (283 : Nat) "DrownedSlates$Waters" "pilotRead" "[I") ∈ za_wd := zxt_1 105 rfl rfl
theorem zx_213 : (Jvm.Cond.fieldLink "DrownedSlates$Lines" (210 : Nat) "DrownedSlates$Waters" "pilotRead" "[I") ∈ za_wd := zxt_1 106 rfl rfl
theorem zx_214 : (Jvm.Cond.fieldLink "DrownedSlates$Waters" (79 : Nat) "DrownedSlates$Waters" "rules" "I") ∈ za_wd := zxt_1 107 rfl rfl
theorem zx_215 : (Jvm.Cond.fieldLink "DrownedSlates$Helm" (83 : Nat) "DrownedSlates$Waters" "rules" "I") ∈ za_wd := zxt_1 108 rfl rfl
theorem zx_216 : (Jvm.Cond.fieldLink "DrownedSlates$Lines" (135 : Nat) "DrownedSlates$Waters" "rules" "I") ∈ za_wd := zxt_1 109 rfl rfl
theorem zx_217 : (Jvm.Cond.fieldLink "DrownedSlates" (159 : Nat) "DrownedSlates$Waters" "rules" "I") ∈ za_wd := zxt_1 110 rfl rfl
theorem zx_218 : (Jvm.Cond.fieldLink "DrownedSlates$Waters" (34 : Nat) "DrownedSlates$Waters" "ruleWay" "[I") ∈ za_wd := zxt_1 111 rfl rfl
theorem zx_219 : (Jvm.Cond.fieldLink "DrownedSlates$Helm" (93 : Nat) "DrownedSlates$Waters" "ruleWay" "[I") ∈ za_wd := zxt_1 112 rfl rfl
theorem zx_220 : (Jvm.Cond.fieldLink "DrownedSlates$Lines" (221 : Nat) "DrownedSlates$Waters" "ruleWay" "[I") ∈ za_wd := zxt_1 113 rfl rfl
theorem zx_221 : (Jvm.Cond.fieldLink "DrownedSlates$Waters" (37 : Nat) "DrownedSlates$Waters" "ruleEnd" "[I") ∈ za_wd := zxt_1 114 rfl rfl
theorem zx_222 : (Jvm.Cond.fieldLink "DrownedSlates$Helm" (86 : Nat) "DrownedSlates$Waters" "ruleEnd" "[I") ∈ za_wd := zxt_1 115 rfl rfl
theorem zx_223 : (Jvm.Cond.fieldLink "DrownedSlates$Lines" (224 : Nat) "DrownedSlates$Waters" "ruleEnd" "[I") ∈ za_wd := zxt_1 116 rfl rfl
theorem zx_224 : (Jvm.Cond.fieldLink "DrownedSlates$Waters" (40 : Nat) "DrownedSlates$Waters" "code" "[I") ∈ za_wd := zxt_1 117 rfl rfl
theorem zx_225 : (Jvm.Cond.fieldLink "DrownedSlates$Exprs" (22 : Nat) "DrownedSlates$Waters" "code" "[I") ∈ za_wd := zxt_1 118 rfl rfl
theorem zx_226 : (Jvm.Cond.fieldLink "DrownedSlates$Helm" (96 : Nat) "DrownedSlates$Waters" "code" "[I") ∈ za_wd := zxt_1 119 rfl rfl
theorem zx_227 : (Jvm.Cond.lays "DrownedSlates$Waters" "DrownedSlates$Waters" "width" "I") ∈ za_wd := zxt_1 120 rfl rfl
theorem zx_229 : (Jvm.Cond.lays "DrownedSlates$Waters" "DrownedSlates$Waters" "height" "I") ∈ za_wd := zxt_1 122 rfl rfl
theorem zx_231 : (Jvm.Cond.lays "DrownedSlates$Waters" "DrownedSlates$Waters" "all" "J") ∈ za_wd := zxt_1 124 rfl rfl
theorem zx_233 : (Jvm.Cond.lays "DrownedSlates$Waters" "DrownedSlates$Waters" "rocks" "J") ∈ za_wd := zxt_1 126 rfl rfl
theorem zx_235 : (Jvm.Cond.laysFinal "DrownedSlates$Waters" "DrownedSlates$Waters" "open" "[J") ∈ za_wd := zxt_1 128 rfl rfl
theorem zx_237 : (Jvm.Cond.laysFinal "DrownedSlates$Waters" "DrownedSlates$Waters" "current" "[I") ∈ za_wd := zxt_1 130 rfl rfl
theorem zx_239 : (Jvm.Cond.laysFinal "DrownedSlates$Waters" "DrownedSlates$Waters" "currents" "[J") ∈ za_wd := zxt_1 132 rfl rfl
theorem zx_241 : (Jvm.Cond.lays "DrownedSlates$Waters" "DrownedSlates$Waters" "hands" "I") ∈ za_wd := zxt_1 134 rfl rfl
theorem zx_243 : (Jvm.Cond.laysFinal "DrownedSlates$Waters" "DrownedSlates$Waters" "weight" "[I") ∈ za_wd := zxt_1 136 rfl rfl
theorem zx_245 : (Jvm.Cond.lays "DrownedSlates$Waters" "DrownedSlates$Waters" "school" "I") ∈ za_wd := zxt_1 138 rfl rfl
theorem zx_247 : (Jvm.Cond.lays "DrownedSlates$Waters" "DrownedSlates$Waters" "reach" "I") ∈ za_wd := zxt_1 140 rfl rfl
theorem zx_249 : (Jvm.Cond.lays "DrownedSlates$Waters" "DrownedSlates$Waters" "goal" "I") ∈ za_wd := zxt_1 142 rfl rfl
theorem zx_251 : (Jvm.Cond.lays "DrownedSlates$Waters" "DrownedSlates$Waters" "pilots" "I") ∈ za_wd := zxt_1 144 rfl rfl
theorem zx_253 : (Jvm.Cond.laysFinal "DrownedSlates$Waters" "DrownedSlates$Waters" "pilotCell" "[I") ∈ za_wd := zxt_1 146 rfl rfl
theorem zx_255 : (Jvm.Cond.laysFinal "DrownedSlates$Waters" "DrownedSlates$Waters" "pilotHour" "[I") ∈ za_wd := zxt_1 148 rfl rfl
theorem zx_257 : (Jvm.Cond.laysFinal "DrownedSlates$Waters" "DrownedSlates$Waters" "pilotRead" "[I") ∈ za_wd := zxt_1 150 rfl rfl
theorem zx_259 : (Jvm.Cond.lays "DrownedSlates$Waters" "DrownedSlates$Waters" "rules" "I") ∈ za_wd := zxt_1 152 rfl rfl
theorem zx_261 : (Jvm.Cond.laysFinal "DrownedSlates$Waters" "DrownedSlates$Waters" "ruleWay" "[I") ∈ za_wd := zxt_1 154 rfl rfl
theorem zx_263 : (Jvm.Cond.laysFinal "DrownedSlates$Waters" "DrownedSlates$Waters" "ruleEnd" "[I") ∈ za_wd := zxt_1 156 rfl rfl
theorem zx_265 : (Jvm.Cond.laysFinal "DrownedSlates$Waters" "DrownedSlates$Waters" "code" "[I") ∈ za_wd := zxt_1 158 rfl rfl
theorem zx_271 : (Jvm.Cond.classLink "DrownedSlates" (35 : Nat) "DrownedSlates$Chalk") ∈ za_wd := zxt_1 164 rfl rfl
theorem zx_272 : (Jvm.Cond.instantiable "DrownedSlates$Chalk" (10 : Nat)) ∈ za_wd := zxt_1 165 rfl rfl
theorem zx_274 : (Jvm.Cond.instanceMethod ({ cls := "DrownedSlates$Chalk", name := "<init>", desc := "()V" } : Jvm.MethodName)) ∈ za_wd := zxt_1 167 rfl rfl
theorem zx_275 : (Jvm.Cond.code ({ cls := "DrownedSlates$Chalk", name := "<init>", desc := "()V" } : Jvm.MethodName) prog_2_method_1_code (1 : Nat) (Option.none : Option Jvm.ClassFile.FieldType)) ∈ za_wd := zxt_1 168 rfl rfl
theorem zx_276 : (Jvm.Cond.methodLink "DrownedSlates$Chalk" (3 : Nat) ({ cls := "java/lang/Object", name := "<init>", desc := "()V" } : Jvm.MethodName)) ∈ za_wd := zxt_1 169 rfl rfl
theorem zx_277 : (Jvm.Cond.fieldLink "DrownedSlates$Chalk" (36 : Nat) "DrownedSlates$Chalk" "slates" "I") ∈ za_wd := zxt_1 170 rfl rfl
theorem zx_278 : (Jvm.Cond.fieldLink "DrownedSlates$Desk" (50 : Nat) "DrownedSlates$Chalk" "slates" "I") ∈ za_wd := zxt_1 171 rfl rfl
theorem zx_279 : (Jvm.Cond.fieldLink "DrownedSlates$Lines" (110 : Nat) "DrownedSlates$Chalk" "slates" "I") ∈ za_wd := zxt_1 172 rfl rfl
theorem zx_280 : (Jvm.Cond.fieldLink "DrownedSlates" (151 : Nat) "DrownedSlates$Chalk" "slates" "I") ∈ za_wd := zxt_1 173 rfl rfl
theorem zx_281 : (Jvm.Cond.fieldLink "DrownedSlates$Ship" (86 : Nat) "DrownedSlates$Chalk" "slates" "I") ∈ za_wd := zxt_1 174 rfl rfl
theorem zx_282 : (Jvm.Cond.fieldLink "DrownedSlates$Chalk" (9 : Nat) "DrownedSlates$Chalk" "cell" "[I") ∈ za_wd := zxt_1 175 rfl rfl
theorem zx_283 : (Jvm.Cond.fieldLink "DrownedSlates$Fog" (24 : Nat) "DrownedSlates$Chalk" "cell" "[I") ∈ za_wd := zxt_1 176 rfl rfl
theorem zx_284 : (Jvm.Cond.fieldLink "DrownedSlates$Desk" (59 : Nat) "DrownedSlates$Chalk" "cell" "[I") ∈ za_wd := zxt_1 177 rfl rfl
theorem zx_285 : (Jvm.Cond.fieldLink "DrownedSlates$Ship" (62 : Nat) "DrownedSlates$Chalk" "cell" "[I") ∈ za_wd := zxt_1 178 rfl rfl
theorem zx_286 : (Jvm.Cond.fieldLink "DrownedSlates" (200 : Nat) "DrownedSlates$Chalk" "cell" "[I") ∈ za_wd := zxt_1 179 rfl rfl
theorem zx_287 : (Jvm.Cond.fieldLink "DrownedSlates$Chalk" (15 : Nat) "DrownedSlates$Chalk" "hour" "[I") ∈ za_wd := zxt_1 180 rfl rfl
theorem zx_288 : (Jvm.Cond.fieldLink "DrownedSlates$Fog" (18 : Nat) "DrownedSlates$Chalk" "hour" "[I") ∈ za_wd := zxt_1 181 rfl rfl
theorem zx_289 : (Jvm.Cond.fieldLink "DrownedSlates$Ship" (67 : Nat) "DrownedSlates$Chalk" "hour" "[I") ∈ za_wd := zxt_1 182 rfl rfl
theorem zx_290 : (Jvm.Cond.fieldLink "DrownedSlates" (203 : Nat) "DrownedSlates$Chalk" "hour" "[I") ∈ za_wd := zxt_1 183 rfl rfl
theorem zx_291 : (Jvm.Cond.fieldLink "DrownedSlates$Chalk" (18 : Nat) "DrownedSlates$Chalk" "marks" "[I") ∈ za_wd := zxt_1 184 rfl rfl
theorem zx_292 : (Jvm.Cond.fieldLink "DrownedSlates$Likeness" (21 : Nat) "DrownedSlates$Chalk" "marks" "[I") ∈ za_wd := zxt_1 185 rfl rfl
theorem zx_293 : (Jvm.Cond.fieldLink "DrownedSlates$Hands" (30 : Nat) "DrownedSlates$Chalk" "marks" "[I") ∈ za_wd := zxt_1 186 rfl rfl
theorem zx_294 : (Jvm.Cond.fieldLink "DrownedSlates$Ship" (73 : Nat) "DrownedSlates$Chalk" "marks" "[I") ∈ za_wd := zxt_1 187 rfl rfl
theorem zx_295 : (Jvm.Cond.fieldLink "DrownedSlates" (206 : Nat) "DrownedSlates$Chalk" "marks" "[I") ∈ za_wd := zxt_1 188 rfl rfl
theorem zx_296 : (Jvm.Cond.fieldLink "DrownedSlates$Chalk" (21 : Nat) "DrownedSlates$Chalk" "rubbed" "[I") ∈ za_wd := zxt_1 189 rfl rfl
theorem zx_297 : (Jvm.Cond.fieldLink "DrownedSlates" (209 : Nat) "DrownedSlates$Chalk" "rubbed" "[I") ∈ za_wd := zxt_1 190 rfl rfl
theorem zx_298 : (Jvm.Cond.fieldLink "DrownedSlates$Chalk" (24 : Nat) "DrownedSlates$Chalk" "way" "[I") ∈ za_wd := zxt_1 191 rfl rfl
theorem zx_299 : (Jvm.Cond.fieldLink "DrownedSlates$Chalk" (27 : Nat) "DrownedSlates$Chalk" "steps" "[I") ∈ za_wd := zxt_1 192 rfl rfl
theorem zx_300 : (Jvm.Cond.fieldLink "DrownedSlates$Chalk" (40 : Nat) "DrownedSlates$Chalk" "acts" "I") ∈ za_wd := zxt_1 193 rfl rfl
theorem zx_301 : (Jvm.Cond.fieldLink "DrownedSlates" (171 : Nat) "DrownedSlates$Chalk" "acts" "I") ∈ za_wd := zxt_1 194 rfl rfl
theorem zx_302 : (Jvm.Cond.fieldLink "DrownedSlates$Chalk" (30 : Nat) "DrownedSlates$Chalk" "actSlate" "[I") ∈ za_wd := zxt_1 195 rfl rfl
theorem zx_303 : (Jvm.Cond.fieldLink "DrownedSlates$Chalk" (33 : Nat) "DrownedSlates$Chalk" "actFound" "[I") ∈ za_wd := zxt_1 196 rfl rfl
theorem zx_304 : (Jvm.Cond.lays "DrownedSlates$Chalk" "DrownedSlates$Chalk" "slates" "I") ∈ za_wd := zxt_1 197 rfl rfl
theorem zx_306 : (Jvm.Cond.laysFinal "DrownedSlates$Chalk" "DrownedSlates$Chalk" "cell" "[I") ∈ za_wd := zxt_1 199 rfl rfl
theorem zx_308 : (Jvm.Cond.laysFinal "DrownedSlates$Chalk" "DrownedSlates$Chalk" "hour" "[I") ∈ za_wd := zxt_1 201 rfl rfl
theorem zx_310 : (Jvm.Cond.laysFinal "DrownedSlates$Chalk" "DrownedSlates$Chalk" "marks" "[I") ∈ za_wd := zxt_1 203 rfl rfl
theorem zx_312 : (Jvm.Cond.laysFinal "DrownedSlates$Chalk" "DrownedSlates$Chalk" "rubbed" "[I") ∈ za_wd := zxt_1 205 rfl rfl
theorem zx_314 : (Jvm.Cond.laysFinal "DrownedSlates$Chalk" "DrownedSlates$Chalk" "way" "[I") ∈ za_wd := zxt_1 207 rfl rfl
theorem zx_316 : (Jvm.Cond.laysFinal "DrownedSlates$Chalk" "DrownedSlates$Chalk" "steps" "[I") ∈ za_wd := zxt_1 209 rfl rfl
theorem zx_318 : (Jvm.Cond.lays "DrownedSlates$Chalk" "DrownedSlates$Chalk" "acts" "I") ∈ za_wd := zxt_1 211 rfl rfl
theorem zx_320 : (Jvm.Cond.laysFinal "DrownedSlates$Chalk" "DrownedSlates$Chalk" "actSlate" "[I") ∈ za_wd := zxt_1 213 rfl rfl
theorem zx_322 : (Jvm.Cond.laysFinal "DrownedSlates$Chalk" "DrownedSlates$Chalk" "actFound" "[I") ∈ za_wd := zxt_1 215 rfl rfl
theorem zx_325 : (Jvm.Cond.classLink "DrownedSlates" (55 : Nat) "DrownedSlates$Lines") ∈ za_wd := zxt_1 218 rfl rfl
theorem zx_326 : (Jvm.Cond.instantiable "DrownedSlates$Lines" (6 : Nat)) ∈ za_wd := zxt_1 219 rfl rfl
theorem zx_327 : (Jvm.Cond.methodLink "DrownedSlates" (57 : Nat) ({ cls := "DrownedSlates$Lines", name := "<init>", desc := "([B)V" } : Jvm.MethodName)) ∈ za_wd := zxt_1 220 rfl rfl
theorem zx_328 : (Jvm.Cond.instanceMethod ({ cls := "DrownedSlates$Lines", name := "<init>", desc := "([B)V" } : Jvm.MethodName)) ∈ za_wd := zxt_1 221 rfl rfl
theorem zx_329 : (Jvm.Cond.code ({ cls := "DrownedSlates$Lines", name := "<init>", desc := "([B)V" } : Jvm.MethodName) prog_9_method_1_code (2 : Nat) (Option.none : Option Jvm.ClassFile.FieldType)) ∈ za_wd := zxt_1 222 rfl rfl
theorem zx_330 : (Jvm.Cond.methodLink "DrownedSlates$Lines" (3 : Nat) ({ cls := "java/lang/Object", name := "<init>", desc := "()V" } : Jvm.MethodName)) ∈ za_wd := zxt_1 223 rfl rfl
theorem zx_331 : (Jvm.Cond.classLink "DrownedSlates$Lines" (25 : Nat) "DrownedSlates$Tokens") ∈ za_wd := zxt_1 224 rfl rfl
theorem zx_332 : (Jvm.Cond.instantiable "DrownedSlates$Tokens" (6 : Nat)) ∈ za_wd := zxt_1 225 rfl rfl
theorem zx_333 : (Jvm.Cond.methodLink "DrownedSlates$Lines" (27 : Nat) ({ cls := "DrownedSlates$Tokens", name := "<init>", desc := "([B)V" } : Jvm.MethodName)) ∈ za_wd := zxt_1 226 rfl rfl
theorem zx_334 : (Jvm.Cond.instanceMethod ({ cls := "DrownedSlates$Tokens", name := "<init>", desc := "([B)V" } : Jvm.MethodName)) ∈ za_wd := zxt_1 227 rfl rfl
theorem zx_335 : (Jvm.Cond.code ({ cls := "DrownedSlates$Tokens", name := "<init>", desc := "([B)V" } : Jvm.MethodName) prog_11_method_1_code (2 : Nat) (Option.none : Option Jvm.ClassFile.FieldType)) ∈ za_wd := zxt_1 228 rfl rfl
theorem zx_336 : (Jvm.Cond.methodLink "DrownedSlates$Tokens" (3 : Nat) ({ cls := "java/lang/Object", name := "<init>", desc := "()V" } : Jvm.MethodName)) ∈ za_wd := zxt_1 229 rfl rfl
theorem zx_337 : (Jvm.Cond.fieldLink "DrownedSlates$Tokens" (27 : Nat) "DrownedSlates$Tokens" "text" "[B") ∈ za_wd := zxt_1 230 rfl rfl
theorem zx_338 : (Jvm.Cond.fieldLink "DrownedSlates$Tokens" (9 : Nat) "DrownedSlates$Tokens" "length" "I") ∈ za_wd := zxt_1 231 rfl rfl
theorem zx_339 : (Jvm.Cond.fieldLink "DrownedSlates$Tokens" (15 : Nat) "DrownedSlates$Tokens" "next" "I") ∈ za_wd := zxt_1 232 rfl rfl
theorem zx_340 : (Jvm.Cond.fieldLink "DrownedSlates$Tokens" (18 : Nat) "DrownedSlates$Tokens" "start" "I") ∈ za_wd := zxt_1 233 rfl rfl
theorem zx_341 : (Jvm.Cond.fieldLink "DrownedSlates$Lines" (67 : Nat) "DrownedSlates$Tokens" "start" "I") ∈ za_wd := zxt_1 234 rfl rfl
theorem zx_342 : (Jvm.Cond.fieldLink "DrownedSlates$Tokens" (21 : Nat) "DrownedSlates$Tokens" "kind" "I") ∈ za_wd := zxt_1 235 rfl rfl
theorem zx_343 : (Jvm.Cond.fieldLink "DrownedSlates$Lines" (56 : Nat) "DrownedSlates$Tokens" "kind" "I") ∈ za_wd := zxt_1 236 rfl rfl
theorem zx_344 : (Jvm.Cond.fieldLink "DrownedSlates$Exprs" (32 : Nat) "DrownedSlates$Tokens" "kind" "I") ∈ za_wd := zxt_1 237 rfl rfl
theorem zx_345 : (Jvm.Cond.fieldLink "DrownedSlates$Tokens" (24 : Nat) "DrownedSlates$Tokens" "value" "I") ∈ za_wd := zxt_1 238 rfl rfl
theorem zx_346 : (Jvm.Cond.fieldLink "DrownedSlates$Lines" (80 : Nat) "DrownedSlates$Tokens" "value" "I") ∈ za_wd := zxt_1 239 rfl rfl
theorem zx_347 : (Jvm.Cond.fieldLink "DrownedSlates$Exprs" (66 : Nat) "DrownedSlates$Tokens" "value" "I") ∈ za_wd := zxt_2 0 rfl rfl
theorem zx_348 : (Jvm.Cond.laysFinal "DrownedSlates$Tokens" "DrownedSlates$Tokens" "text" "[B") ∈ za_wd := zxt_2 1 rfl rfl
theorem zx_350 : (Jvm.Cond.lays "DrownedSlates$Tokens" "DrownedSlates$Tokens" "length" "I") ∈ za_wd := zxt_2 3 rfl rfl
theorem zx_352 : (Jvm.Cond.lays "DrownedSlates$Tokens" "DrownedSlates$Tokens" "next" "I") ∈ za_wd := zxt_2 5 rfl rfl
theorem zx_354 : (Jvm.Cond.lays "DrownedSlates$Tokens" "DrownedSlates$Tokens" "start" "I") ∈ za_wd := zxt_2 7 rfl rfl
theorem zx_356 : (Jvm.Cond.lays "DrownedSlates$Tokens" "DrownedSlates$Tokens" "kind" "I") ∈ za_wd := zxt_2 9 rfl rfl
theorem zx_358 : (Jvm.Cond.lays "DrownedSlates$Tokens" "DrownedSlates$Tokens" "value" "I") ∈ za_wd := zxt_2 11 rfl rfl
theorem zx_361 : (Jvm.Cond.classLink "DrownedSlates$Lines" (34 : Nat) "DrownedSlates$Exprs") ∈ za_wd := zxt_2 14 rfl rfl
theorem zx_362 : (Jvm.Cond.instantiable "DrownedSlates$Exprs" (3 : Nat)) ∈ za_wd := zxt_2 15 rfl rfl
theorem zx_363 : (Jvm.Cond.methodLink "DrownedSlates$Lines" (36 : Nat) ({ cls := "DrownedSlates$Exprs", name := "<init>", desc := "(LDrownedSlates$Tokens;)V" } : Jvm.MethodName)) ∈ za_wd := zxt_2 16 rfl rfl
theorem zx_364 : (Jvm.Cond.instanceMethod ({ cls := "DrownedSlates$Exprs", name := "<init>", desc := "(LDrownedSlates$Tokens;)V" } : Jvm.MethodName)) ∈ za_wd := zxt_2 17 rfl rfl
theorem zx_365 : (Jvm.Cond.code ({ cls := "DrownedSlates$Exprs", name := "<init>", desc := "(LDrownedSlates$Tokens;)V" } : Jvm.MethodName) prog_4_method_1_code (2 : Nat) (Option.none : Option Jvm.ClassFile.FieldType)) ∈ za_wd := zxt_2 18 rfl rfl
theorem zx_366 : (Jvm.Cond.methodLink "DrownedSlates$Exprs" (3 : Nat) ({ cls := "java/lang/Object", name := "<init>", desc := "()V" } : Jvm.MethodName)) ∈ za_wd := zxt_2 19 rfl rfl
theorem zx_367 : (Jvm.Cond.fieldLink "DrownedSlates$Exprs" (18 : Nat) "DrownedSlates$Exprs" "tokens" "LDrownedSlates$Tokens;") ∈ za_wd := zxt_2 20 rfl rfl
theorem zx_368 : (Jvm.Cond.fieldLink "DrownedSlates$Exprs" (9 : Nat) "DrownedSlates$Exprs" "length" "I") ∈ za_wd := zxt_2 21 rfl rfl
theorem zx_369 : (Jvm.Cond.fieldLink "DrownedSlates$Lines" (227 : Nat) "DrownedSlates$Exprs" "length" "I") ∈ za_wd := zxt_2 22 rfl rfl
theorem zx_370 : (Jvm.Cond.fieldLink "DrownedSlates$Exprs" (15 : Nat) "DrownedSlates$Exprs" "fault" "I") ∈ za_wd := zxt_2 23 rfl rfl
theorem zx_371 : (Jvm.Cond.fieldLink "DrownedSlates$Lines" (217 : Nat) "DrownedSlates$Exprs" "fault" "I") ∈ za_wd := zxt_2 24 rfl rfl
theorem zx_372 : (Jvm.Cond.laysFinal "DrownedSlates$Exprs" "DrownedSlates$Exprs" "tokens" "LDrownedSlates$Tokens;") ∈ za_wd := zxt_2 25 rfl rfl
theorem zx_374 : (Jvm.Cond.lays "DrownedSlates$Exprs" "DrownedSlates$Exprs" "length" "I") ∈ za_wd := zxt_2 27 rfl rfl
theorem zx_376 : (Jvm.Cond.lays "DrownedSlates$Exprs" "DrownedSlates$Exprs" "fault" "I") ∈ za_wd := zxt_2 29 rfl rfl
theorem zx_379 : (Jvm.Cond.fieldLink "DrownedSlates$Lines" (30 : Nat) "DrownedSlates$Lines" "tokens" "LDrownedSlates$Tokens;") ∈ za_wd := zxt_2 32 rfl rfl
theorem zx_380 : (Jvm.Cond.fieldLink "DrownedSlates$Lines" (39 : Nat) "DrownedSlates$Lines" "exprs" "LDrownedSlates$Exprs;") ∈ za_wd := zxt_2 33 rfl rfl
theorem zx_381 : (Jvm.Cond.fieldLink "DrownedSlates$Lines" (9 : Nat) "DrownedSlates$Lines" "schoolTold" "Z") ∈ za_wd := zxt_2 34 rfl rfl
theorem zx_382 : (Jvm.Cond.fieldLink "DrownedSlates$Lines" (15 : Nat) "DrownedSlates$Lines" "goalTold" "Z") ∈ za_wd := zxt_2 35 rfl rfl
theorem zx_383 : (Jvm.Cond.fieldLink "DrownedSlates$Lines" (18 : Nat) "DrownedSlates$Lines" "fault" "I") ∈ za_wd := zxt_2 36 rfl rfl
theorem zx_384 : (Jvm.Cond.fieldLink "DrownedSlates" (122 : Nat) "DrownedSlates$Lines" "fault" "I") ∈ za_wd := zxt_2 37 rfl rfl
theorem zx_385 : (Jvm.Cond.fieldLink "DrownedSlates$Lines" (22 : Nat) "DrownedSlates$Lines" "faultPlace" "I") ∈ za_wd := zxt_2 38 rfl rfl
theorem zx_386 : (Jvm.Cond.fieldLink "DrownedSlates" (121 : Nat) "DrownedSlates$Lines" "faultPlace" "I") ∈ za_wd := zxt_2 39 rfl rfl
theorem zx_387 : (Jvm.Cond.laysFinal "DrownedSlates$Lines" "DrownedSlates$Lines" "tokens" "LDrownedSlates$Tokens;") ∈ za_wd := zxt_2 40 rfl rfl
theorem zx_389 : (Jvm.Cond.laysFinal "DrownedSlates$Lines" "DrownedSlates$Lines" "exprs" "LDrownedSlates$Exprs;") ∈ za_wd := zxt_2 42 rfl rfl
theorem zx_391 : (Jvm.Cond.lays "DrownedSlates$Lines" "DrownedSlates$Lines" "schoolTold" "Z") ∈ za_wd := zxt_2 44 rfl rfl
theorem zx_393 : (Jvm.Cond.lays "DrownedSlates$Lines" "DrownedSlates$Lines" "goalTold" "Z") ∈ za_wd := zxt_2 46 rfl rfl
theorem zx_395 : (Jvm.Cond.lays "DrownedSlates$Lines" "DrownedSlates$Lines" "fault" "I") ∈ za_wd := zxt_2 48 rfl rfl
theorem zx_397 : (Jvm.Cond.lays "DrownedSlates$Lines" "DrownedSlates$Lines" "faultPlace" "I") ∈ za_wd := zxt_2 50 rfl rfl
theorem zx_400 : (Jvm.Cond.classLink "DrownedSlates" (64 : Nat) "DrownedSlates$Ship") ∈ za_wd := zxt_2 53 rfl rfl
theorem zx_401 : (Jvm.Cond.instantiable "DrownedSlates$Ship" (8 : Nat)) ∈ za_wd := zxt_2 54 rfl rfl
theorem zx_403 : (Jvm.Cond.instanceMethod ({ cls := "DrownedSlates$Ship", name := "<init>", desc := "()V" } : Jvm.MethodName)) ∈ za_wd := zxt_2 56 rfl rfl
theorem zx_404 : (Jvm.Cond.code ({ cls := "DrownedSlates$Ship", name := "<init>", desc := "()V" } : Jvm.MethodName) prog_10_method_1_code (1 : Nat) (Option.none : Option Jvm.ClassFile.FieldType)) ∈ za_wd := zxt_2 57 rfl rfl
theorem zx_405 : (Jvm.Cond.methodLink "DrownedSlates$Ship" (3 : Nat) ({ cls := "java/lang/Object", name := "<init>", desc := "()V" } : Jvm.MethodName)) ∈ za_wd := zxt_2 58 rfl rfl
theorem zx_406 : (Jvm.Cond.fieldLink "DrownedSlates$Ship" (9 : Nat) "DrownedSlates$Ship" "cell" "I") ∈ za_wd := zxt_2 59 rfl rfl
theorem zx_407 : (Jvm.Cond.fieldLink "DrownedSlates$Helm" (60 : Nat) "DrownedSlates$Ship" "cell" "I") ∈ za_wd := zxt_2 60 rfl rfl
theorem zx_408 : (Jvm.Cond.fieldLink "DrownedSlates$Desk" (62 : Nat) "DrownedSlates$Ship" "cell" "I") ∈ za_wd := zxt_2 61 rfl rfl
theorem zx_409 : (Jvm.Cond.fieldLink "DrownedSlates" (245 : Nat) "DrownedSlates$Ship" "cell" "I") ∈ za_wd := zxt_2 62 rfl rfl
theorem zx_410 : (Jvm.Cond.fieldLink "DrownedSlates$Ship" (15 : Nat) "DrownedSlates$Ship" "hour" "I") ∈ za_wd := zxt_2 63 rfl rfl
theorem zx_411 : (Jvm.Cond.fieldLink "DrownedSlates$Helm" (73 : Nat) "DrownedSlates$Ship" "hour" "I") ∈ za_wd := zxt_2 64 rfl rfl
theorem zx_412 : (Jvm.Cond.fieldLink "DrownedSlates" (253 : Nat) "DrownedSlates$Ship" "hour" "I") ∈ za_wd := zxt_2 65 rfl rfl
theorem zx_413 : (Jvm.Cond.fieldLink "DrownedSlates$Ship" (18 : Nat) "DrownedSlates$Ship" "end" "I") ∈ za_wd := zxt_2 66 rfl rfl
theorem zx_414 : (Jvm.Cond.fieldLink "DrownedSlates$Helm" (45 : Nat) "DrownedSlates$Ship" "end" "I") ∈ za_wd := zxt_2 67 rfl rfl
theorem zx_415 : (Jvm.Cond.fieldLink "DrownedSlates$Desk" (128 : Nat) "DrownedSlates$Ship" "end" "I") ∈ za_wd := zxt_2 68 rfl rfl
theorem zx_416 : (Jvm.Cond.fieldLink "DrownedSlates" (242 : Nat) "DrownedSlates$Ship" "end" "I") ∈ za_wd := zxt_2 69 rfl rfl
theorem zx_417 : (Jvm.Cond.fieldLink "DrownedSlates$Ship" (21 : Nat) "DrownedSlates$Ship" "mark" "I") ∈ za_wd := zxt_2 70 rfl rfl
theorem zx_418 : (Jvm.Cond.fieldLink "DrownedSlates" (247 : Nat) "DrownedSlates$Ship" "mark" "I") ∈ za_wd := zxt_2 71 rfl rfl
theorem zx_419 : (Jvm.Cond.fieldLink "DrownedSlates$Ship" (24 : Nat) "DrownedSlates$Ship" "step" "I") ∈ za_wd := zxt_2 72 rfl rfl
theorem zx_420 : (Jvm.Cond.fieldLink "DrownedSlates" (250 : Nat) "DrownedSlates$Ship" "step" "I") ∈ za_wd := zxt_2 73 rfl rfl
theorem zx_421 : (Jvm.Cond.fieldLink "DrownedSlates$Ship" (27 : Nat) "DrownedSlates$Ship" "markCell" "I") ∈ za_wd := zxt_2 74 rfl rfl
theorem zx_422 : (Jvm.Cond.fieldLink "DrownedSlates" (255 : Nat) "DrownedSlates$Ship" "markCell" "I") ∈ za_wd := zxt_2 75 rfl rfl
theorem zx_423 : (Jvm.Cond.fieldLink "DrownedSlates$Ship" (30 : Nat) "DrownedSlates$Ship" "markHour" "I") ∈ za_wd := zxt_2 76 rfl rfl
theorem zx_424 : (Jvm.Cond.fieldLink "DrownedSlates" (258 : Nat) "DrownedSlates$Ship" "markHour" "I") ∈ za_wd := zxt_2 77 rfl rfl
theorem zx_425 : (Jvm.Cond.fieldLink "DrownedSlates$Ship" (33 : Nat) "DrownedSlates$Ship" "been" "J") ∈ za_wd := zxt_2 78 rfl rfl
theorem zx_426 : (Jvm.Cond.fieldLink "DrownedSlates" (319 : Nat) "DrownedSlates$Ship" "been" "J") ∈ za_wd := zxt_2 79 rfl rfl
theorem zx_427 : (Jvm.Cond.lays "DrownedSlates$Ship" "DrownedSlates$Ship" "cell" "I") ∈ za_wd := zxt_2 80 rfl rfl
theorem zx_429 : (Jvm.Cond.lays "DrownedSlates$Ship" "DrownedSlates$Ship" "hour" "I") ∈ za_wd := zxt_2 82 rfl rfl
theorem zx_431 : (Jvm.Cond.lays "DrownedSlates$Ship" "DrownedSlates$Ship" "end" "I") ∈ za_wd := zxt_2 84 rfl rfl
theorem zx_433 : (Jvm.Cond.lays "DrownedSlates$Ship" "DrownedSlates$Ship" "mark" "I") ∈ za_wd := zxt_2 86 rfl rfl
theorem zx_435 : (Jvm.Cond.lays "DrownedSlates$Ship" "DrownedSlates$Ship" "step" "I") ∈ za_wd := zxt_2 88 rfl rfl
theorem zx_437 : (Jvm.Cond.lays "DrownedSlates$Ship" "DrownedSlates$Ship" "markCell" "I") ∈ za_wd := zxt_2 90 rfl rfl
theorem zx_439 : (Jvm.Cond.lays "DrownedSlates$Ship" "DrownedSlates$Ship" "markHour" "I") ∈ za_wd := zxt_2 92 rfl rfl
theorem zx_441 : (Jvm.Cond.lays "DrownedSlates$Ship" "DrownedSlates$Ship" "been" "J") ∈ za_wd := zxt_2 94 rfl rfl
theorem zx_444 : (Jvm.Cond.classLink "DrownedSlates" (71 : Nat) "DrownedSlates$Fog") ∈ za_wd := zxt_2 97 rfl rfl
theorem zx_445 : (Jvm.Cond.instantiable "DrownedSlates$Fog" (2 : Nat)) ∈ za_wd := zxt_2 98 rfl rfl
theorem zx_447 : (Jvm.Cond.instanceMethod ({ cls := "DrownedSlates$Fog", name := "<init>", desc := "()V" } : Jvm.MethodName)) ∈ za_wd := zxt_2 100 rfl rfl
theorem zx_448 : (Jvm.Cond.code ({ cls := "DrownedSlates$Fog", name := "<init>", desc := "()V" } : Jvm.MethodName) prog_5_method_1_code (1 : Nat) (Option.none : Option Jvm.ClassFile.FieldType)) ∈ za_wd := zxt_2 101 rfl rfl
theorem zx_449 : (Jvm.Cond.methodLink "DrownedSlates$Fog" (3 : Nat) ({ cls := "java/lang/Object", name := "<init>", desc := "()V" } : Jvm.MethodName)) ∈ za_wd := zxt_2 102 rfl rfl
theorem zx_450 : (Jvm.Cond.fieldLink "DrownedSlates$Fog" (9 : Nat) "DrownedSlates$Fog" "inEven" "J") ∈ za_wd := zxt_2 103 rfl rfl
theorem zx_451 : (Jvm.Cond.fieldLink "DrownedSlates$Fog" (15 : Nat) "DrownedSlates$Fog" "inOdd" "J") ∈ za_wd := zxt_2 104 rfl rfl
theorem zx_452 : (Jvm.Cond.lays "DrownedSlates$Fog" "DrownedSlates$Fog" "inEven" "J") ∈ za_wd := zxt_2 105 rfl rfl
theorem zx_454 : (Jvm.Cond.lays "DrownedSlates$Fog" "DrownedSlates$Fog" "inOdd" "J") ∈ za_wd := zxt_2 107 rfl rfl
theorem zx_457 : (Jvm.Cond.classLink "DrownedSlates" (78 : Nat) "DrownedSlates$Helm") ∈ za_wd := zxt_2 110 rfl rfl
theorem zx_458 : (Jvm.Cond.instantiable "DrownedSlates$Helm" (4 : Nat)) ∈ za_wd := zxt_2 111 rfl rfl
theorem zx_460 : (Jvm.Cond.instanceMethod ({ cls := "DrownedSlates$Helm", name := "<init>", desc := "()V" } : Jvm.MethodName)) ∈ za_wd := zxt_2 113 rfl rfl
theorem zx_461 : (Jvm.Cond.code ({ cls := "DrownedSlates$Helm", name := "<init>", desc := "()V" } : Jvm.MethodName) prog_7_method_1_code (1 : Nat) (Option.none : Option Jvm.ClassFile.FieldType)) ∈ za_wd := zxt_2 114 rfl rfl
theorem zx_462 : (Jvm.Cond.methodLink "DrownedSlates$Helm" (3 : Nat) ({ cls := "java/lang/Object", name := "<init>", desc := "()V" } : Jvm.MethodName)) ∈ za_wd := zxt_2 115 rfl rfl
theorem zx_463 : (Jvm.Cond.classLink "DrownedSlates$Helm" (9 : Nat) "DrownedSlates$Ship") ∈ za_wd := zxt_2 116 rfl rfl
theorem zx_465 : (Jvm.Cond.fieldLink "DrownedSlates$Helm" (12 : Nat) "DrownedSlates$Helm" "ship" "LDrownedSlates$Ship;") ∈ za_wd := zxt_2 118 rfl rfl
theorem zx_466 : (Jvm.Cond.fieldLink "DrownedSlates$Desk" (124 : Nat) "DrownedSlates$Helm" "ship" "LDrownedSlates$Ship;") ∈ za_wd := zxt_2 119 rfl rfl
theorem zx_467 : (Jvm.Cond.fieldLink "DrownedSlates" (296 : Nat) "DrownedSlates$Helm" "ship" "LDrownedSlates$Ship;") ∈ za_wd := zxt_2 120 rfl rfl
theorem zx_468 : (Jvm.Cond.fieldLink "DrownedSlates$Helm" (18 : Nat) "DrownedSlates$Helm" "stack" "[I") ∈ za_wd := zxt_2 121 rfl rfl
theorem zx_469 : (Jvm.Cond.fieldLink "DrownedSlates$Helm" (22 : Nat) "DrownedSlates$Helm" "top" "I") ∈ za_wd := zxt_2 122 rfl rfl
theorem zx_470 : (Jvm.Cond.fieldLink "DrownedSlates$Helm" (26 : Nat) "DrownedSlates$Helm" "values" "[I") ∈ za_wd := zxt_2 123 rfl rfl
theorem zx_471 : (Jvm.Cond.laysFinal "DrownedSlates$Helm" "DrownedSlates$Helm" "ship" "LDrownedSlates$Ship;") ∈ za_wd := zxt_2 124 rfl rfl
theorem zx_473 : (Jvm.Cond.laysFinal "DrownedSlates$Helm" "DrownedSlates$Helm" "stack" "[I") ∈ za_wd := zxt_2 126 rfl rfl
theorem zx_475 : (Jvm.Cond.lays "DrownedSlates$Helm" "DrownedSlates$Helm" "top" "I") ∈ za_wd := zxt_2 128 rfl rfl
theorem zx_477 : (Jvm.Cond.laysFinal "DrownedSlates$Helm" "DrownedSlates$Helm" "values" "[I") ∈ za_wd := zxt_2 130 rfl rfl
theorem zx_480 : (Jvm.Cond.classLink "DrownedSlates" (85 : Nat) "DrownedSlates$Desk") ∈ za_wd := zxt_2 133 rfl rfl
theorem zx_481 : (Jvm.Cond.instantiable "DrownedSlates$Desk" (12 : Nat)) ∈ za_wd := zxt_2 134 rfl rfl
theorem zx_483 : (Jvm.Cond.instanceMethod ({ cls := "DrownedSlates$Desk", name := "<init>", desc := "()V" } : Jvm.MethodName)) ∈ za_wd := zxt_2 136 rfl rfl
theorem zx_484 : (Jvm.Cond.code ({ cls := "DrownedSlates$Desk", name := "<init>", desc := "()V" } : Jvm.MethodName) prog_3_method_1_code (1 : Nat) (Option.none : Option Jvm.ClassFile.FieldType)) ∈ za_wd := zxt_2 137 rfl rfl
theorem zx_485 : (Jvm.Cond.methodLink "DrownedSlates$Desk" (3 : Nat) ({ cls := "java/lang/Object", name := "<init>", desc := "()V" } : Jvm.MethodName)) ∈ za_wd := zxt_2 138 rfl rfl
theorem zx_486 : (Jvm.Cond.fieldLink "DrownedSlates$Desk" (9 : Nat) "DrownedSlates$Desk" "slates" "I") ∈ za_wd := zxt_2 139 rfl rfl
theorem zx_487 : (Jvm.Cond.fieldLink "DrownedSlates$Desk" (15 : Nat) "DrownedSlates$Desk" "beginCell" "[I") ∈ za_wd := zxt_2 140 rfl rfl
theorem zx_488 : (Jvm.Cond.fieldLink "DrownedSlates$Desk" (19 : Nat) "DrownedSlates$Desk" "endCell" "[I") ∈ za_wd := zxt_2 141 rfl rfl
theorem zx_489 : (Jvm.Cond.fieldLink "DrownedSlates$Desk" (22 : Nat) "DrownedSlates$Desk" "wreck" "[J") ∈ za_wd := zxt_2 142 rfl rfl
theorem zx_490 : (Jvm.Cond.fieldLink "DrownedSlates$Desk" (26 : Nat) "DrownedSlates$Desk" "lesson" "[I") ∈ za_wd := zxt_2 143 rfl rfl
theorem zx_491 : (Jvm.Cond.fieldLink "DrownedSlates$Desk" (29 : Nat) "DrownedSlates$Desk" "verdict" "[I") ∈ za_wd := zxt_2 144 rfl rfl
theorem zx_492 : (Jvm.Cond.fieldLink "DrownedSlates$Desk" (32 : Nat) "DrownedSlates$Desk" "nearSchool" "I") ∈ za_wd := zxt_2 145 rfl rfl
theorem zx_493 : (Jvm.Cond.fieldLink "DrownedSlates$Desk" (35 : Nat) "DrownedSlates$Desk" "nearEnd" "[I") ∈ za_wd := zxt_2 146 rfl rfl
theorem zx_494 : (Jvm.Cond.fieldLink "DrownedSlates$Desk" (38 : Nat) "DrownedSlates$Desk" "row" "[I") ∈ za_wd := zxt_2 147 rfl rfl
theorem zx_495 : (Jvm.Cond.fieldLink "DrownedSlates$Desk" (41 : Nat) "DrownedSlates$Desk" "best" "[I") ∈ za_wd := zxt_2 148 rfl rfl
theorem zx_496 : (Jvm.Cond.fieldLink "DrownedSlates$Desk" (44 : Nat) "DrownedSlates$Desk" "found" "[I") ∈ za_wd := zxt_2 149 rfl rfl
theorem zx_497 : (Jvm.Cond.fieldLink "DrownedSlates" (310 : Nat) "DrownedSlates$Desk" "found" "[I") ∈ za_wd := zxt_2 150 rfl rfl
theorem zx_498 : (Jvm.Cond.fieldLink "DrownedSlates$Desk" (47 : Nat) "DrownedSlates$Desk" "foundLength" "I") ∈ za_wd := zxt_2 151 rfl rfl
theorem zx_499 : (Jvm.Cond.fieldLink "DrownedSlates" (305 : Nat) "DrownedSlates$Desk" "foundLength" "I") ∈ za_wd := zxt_2 152 rfl rfl
theorem zx_500 : (Jvm.Cond.lays "DrownedSlates$Desk" "DrownedSlates$Desk" "slates" "I") ∈ za_wd := zxt_2 153 rfl rfl
theorem zx_502 : (Jvm.Cond.laysFinal "DrownedSlates$Desk" "DrownedSlates$Desk" "beginCell" "[I") ∈ za_wd := zxt_2 155 rfl rfl
theorem zx_504 : (Jvm.Cond.laysFinal "DrownedSlates$Desk" "DrownedSlates$Desk" "endCell" "[I") ∈ za_wd := zxt_2 157 rfl rfl
theorem zx_506 : (Jvm.Cond.laysFinal "DrownedSlates$Desk" "DrownedSlates$Desk" "wreck" "[J") ∈ za_wd := zxt_2 159 rfl rfl
theorem zx_508 : (Jvm.Cond.laysFinal "DrownedSlates$Desk" "DrownedSlates$Desk" "lesson" "[I") ∈ za_wd := zxt_2 161 rfl rfl
theorem zx_510 : (Jvm.Cond.laysFinal "DrownedSlates$Desk" "DrownedSlates$Desk" "verdict" "[I") ∈ za_wd := zxt_2 163 rfl rfl
theorem zx_512 : (Jvm.Cond.lays "DrownedSlates$Desk" "DrownedSlates$Desk" "nearSchool" "I") ∈ za_wd := zxt_2 165 rfl rfl
theorem zx_514 : (Jvm.Cond.laysFinal "DrownedSlates$Desk" "DrownedSlates$Desk" "nearEnd" "[I") ∈ za_wd := zxt_2 167 rfl rfl
theorem zx_516 : (Jvm.Cond.laysFinal "DrownedSlates$Desk" "DrownedSlates$Desk" "row" "[I") ∈ za_wd := zxt_2 169 rfl rfl
theorem zx_518 : (Jvm.Cond.laysFinal "DrownedSlates$Desk" "DrownedSlates$Desk" "best" "[I") ∈ za_wd := zxt_2 171 rfl rfl
theorem zx_520 : (Jvm.Cond.laysFinal "DrownedSlates$Desk" "DrownedSlates$Desk" "found" "[I") ∈ za_wd := zxt_2 173 rfl rfl
theorem zx_522 : (Jvm.Cond.lays "DrownedSlates$Desk" "DrownedSlates$Desk" "foundLength" "I") ∈ za_wd := zxt_2 175 rfl rfl
theorem zx_525 : (Jvm.Cond.classLink "DrownedSlates" (92 : Nat) "DrownedSlates$Hands") ∈ za_wd := zxt_2 178 rfl rfl
theorem zx_526 : (Jvm.Cond.instantiable "DrownedSlates$Hands" (4 : Nat)) ∈ za_wd := zxt_2 179 rfl rfl
theorem zx_528 : (Jvm.Cond.instanceMethod ({ cls := "DrownedSlates$Hands", name := "<init>", desc := "()V" } : Jvm.MethodName)) ∈ za_wd := zxt_2 181 rfl rfl
theorem zx_529 : (Jvm.Cond.code ({ cls := "DrownedSlates$Hands", name := "<init>", desc := "()V" } : Jvm.MethodName) prog_6_method_1_code (1 : Nat) (Option.none : Option Jvm.ClassFile.FieldType)) ∈ za_wd := zxt_2 182 rfl rfl
theorem zx_530 : (Jvm.Cond.methodLink "DrownedSlates$Hands" (3 : Nat) ({ cls := "java/lang/Object", name := "<init>", desc := "()V" } : Jvm.MethodName)) ∈ za_wd := zxt_2 183 rfl rfl
theorem zx_531 : (Jvm.Cond.fieldLink "DrownedSlates$Hands" (9 : Nat) "DrownedSlates$Hands" "first" "I") ∈ za_wd := zxt_2 184 rfl rfl
theorem zx_532 : (Jvm.Cond.fieldLink "DrownedSlates" (333 : Nat) "DrownedSlates$Hands" "first" "I") ∈ za_wd := zxt_2 185 rfl rfl
theorem zx_533 : (Jvm.Cond.fieldLink "DrownedSlates$Hands" (15 : Nat) "DrownedSlates$Hands" "second" "I") ∈ za_wd := zxt_2 186 rfl rfl
theorem zx_534 : (Jvm.Cond.fieldLink "DrownedSlates" (336 : Nat) "DrownedSlates$Hands" "second" "I") ∈ za_wd := zxt_2 187 rfl rfl
theorem zx_535 : (Jvm.Cond.fieldLink "DrownedSlates$Hands" (18 : Nat) "DrownedSlates$Hands" "behind" "I") ∈ za_wd := zxt_2 188 rfl rfl
theorem zx_536 : (Jvm.Cond.fieldLink "DrownedSlates" (339 : Nat) "DrownedSlates$Hands" "behind" "I") ∈ za_wd := zxt_2 189 rfl rfl
theorem zx_537 : (Jvm.Cond.fieldLink "DrownedSlates$Hands" (21 : Nat) "DrownedSlates$Hands" "most" "J") ∈ za_wd := zxt_2 190 rfl rfl
theorem zx_538 : (Jvm.Cond.fieldLink "DrownedSlates" (342 : Nat) "DrownedSlates$Hands" "most" "J") ∈ za_wd := zxt_2 191 rfl rfl
theorem zx_539 : (Jvm.Cond.lays "DrownedSlates$Hands" "DrownedSlates$Hands" "first" "I") ∈ za_wd := zxt_2 192 rfl rfl
theorem zx_541 : (Jvm.Cond.lays "DrownedSlates$Hands" "DrownedSlates$Hands" "second" "I") ∈ za_wd := zxt_2 194 rfl rfl
theorem zx_543 : (Jvm.Cond.lays "DrownedSlates$Hands" "DrownedSlates$Hands" "behind" "I") ∈ za_wd := zxt_2 196 rfl rfl
theorem zx_545 : (Jvm.Cond.lays "DrownedSlates$Hands" "DrownedSlates$Hands" "most" "J") ∈ za_wd := zxt_2 198 rfl rfl
theorem zx_548 : (Jvm.Cond.classLink "DrownedSlates" (99 : Nat) "DrownedSlates$Likeness") ∈ za_wd := zxt_2 201 rfl rfl
theorem zx_549 : (Jvm.Cond.instantiable "DrownedSlates$Likeness" (3 : Nat)) ∈ za_wd := zxt_2 202 rfl rfl
theorem zx_551 : (Jvm.Cond.instanceMethod ({ cls := "DrownedSlates$Likeness", name := "<init>", desc := "()V" } : Jvm.MethodName)) ∈ za_wd := zxt_2 204 rfl rfl
theorem zx_552 : (Jvm.Cond.code ({ cls := "DrownedSlates$Likeness", name := "<init>", desc := "()V" } : Jvm.MethodName) prog_8_method_1_code (1 : Nat) (Option.none : Option Jvm.ClassFile.FieldType)) ∈ za_wd := zxt_2 205 rfl rfl
theorem zx_553 : (Jvm.Cond.methodLink "DrownedSlates$Likeness" (3 : Nat) ({ cls := "java/lang/Object", name := "<init>", desc := "()V" } : Jvm.MethodName)) ∈ za_wd := zxt_2 206 rfl rfl
theorem zx_554 : (Jvm.Cond.fieldLink "DrownedSlates$Likeness" (9 : Nat) "DrownedSlates$Likeness" "length" "I") ∈ za_wd := zxt_2 207 rfl rfl
theorem zx_555 : (Jvm.Cond.fieldLink "DrownedSlates" (350 : Nat) "DrownedSlates$Likeness" "length" "I") ∈ za_wd := zxt_2 208 rfl rfl
theorem zx_556 : (Jvm.Cond.fieldLink "DrownedSlates$Likeness" (15 : Nat) "DrownedSlates$Likeness" "inFirst" "I") ∈ za_wd := zxt_2 209 rfl rfl
theorem zx_557 : (Jvm.Cond.fieldLink "DrownedSlates" (353 : Nat) "DrownedSlates$Likeness" "inFirst" "I") ∈ za_wd := zxt_2 210 rfl rfl
theorem zx_558 : (Jvm.Cond.fieldLink "DrownedSlates$Likeness" (18 : Nat) "DrownedSlates$Likeness" "inSecond" "I") ∈ za_wd := zxt_2 211 rfl rfl
theorem zx_559 : (Jvm.Cond.fieldLink "DrownedSlates" (356 : Nat) "DrownedSlates$Likeness" "inSecond" "I") ∈ za_wd := zxt_2 212 rfl rfl
theorem zx_560 : (Jvm.Cond.lays "DrownedSlates$Likeness" "DrownedSlates$Likeness" "length" "I") ∈ za_wd := zxt_2 213 rfl rfl
theorem zx_562 : (Jvm.Cond.lays "DrownedSlates$Likeness" "DrownedSlates$Likeness" "inFirst" "I") ∈ za_wd := zxt_2 215 rfl rfl
theorem zx_564 : (Jvm.Cond.lays "DrownedSlates$Likeness" "DrownedSlates$Likeness" "inSecond" "I") ∈ za_wd := zxt_2 217 rfl rfl
theorem zx_567 : (Jvm.Cond.fieldLink "DrownedSlates" (11 : Nat) "DrownedSlates" "tape" "[B") ∈ za_wd := zxt_2 220 rfl rfl
theorem zx_568 : (Jvm.Cond.fieldLink "DrownedSlates" (15 : Nat) "DrownedSlates" "tapeLength" "I") ∈ za_wd := zxt_2 221 rfl rfl
theorem zx_569 : (Jvm.Cond.fieldLink "DrownedSlates" (19 : Nat) "DrownedSlates" "faultPlace" "I") ∈ za_wd := zxt_2 222 rfl rfl
theorem zx_570 : (Jvm.Cond.fieldLink "DrownedSlates" (22 : Nat) "DrownedSlates" "refusedTexts" "I") ∈ za_wd := zxt_2 223 rfl rfl
theorem zx_571 : (Jvm.Cond.fieldLink "DrownedSlates" (25 : Nat) "DrownedSlates" "refusedMarks" "I") ∈ za_wd := zxt_2 224 rfl rfl
theorem zx_572 : (Jvm.Cond.fieldLink "DrownedSlates" (31 : Nat) "DrownedSlates" "waters" "LDrownedSlates$Waters;") ∈ za_wd := zxt_2 225 rfl rfl
theorem zx_573 : (Jvm.Cond.fieldLink "DrownedSlates" (38 : Nat) "DrownedSlates" "chalk" "LDrownedSlates$Chalk;") ∈ za_wd := zxt_2 226 rfl rfl
theorem zx_574 : (Jvm.Cond.fieldLink "DrownedSlates" (42 : Nat) "DrownedSlates" "nextWaters" "LDrownedSlates$Waters;") ∈ za_wd := zxt_2 227 rfl rfl
theorem zx_575 : (Jvm.Cond.fieldLink "DrownedSlates" (45 : Nat) "DrownedSlates" "nextChalk" "LDrownedSlates$Chalk;") ∈ za_wd := zxt_2 228 rfl rfl
theorem zx_576 : (Jvm.Cond.fieldLink "DrownedSlates" (48 : Nat) "DrownedSlates" "imaged" "LDrownedSlates$Chalk;") ∈ za_wd := zxt_2 229 rfl rfl
theorem zx_577 : (Jvm.Cond.fieldLink "DrownedSlates" (51 : Nat) "DrownedSlates" "hasImage" "Z") ∈ za_wd := zxt_2 230 rfl rfl
theorem zx_578 : (Jvm.Cond.fieldLink "DrownedSlates" (60 : Nat) "DrownedSlates" "lines" "LDrownedSlates$Lines;") ∈ za_wd := zxt_2 231 rfl rfl
theorem zx_579 : (Jvm.Cond.fieldLink "DrownedSlates" (67 : Nat) "DrownedSlates" "ship" "LDrownedSlates$Ship;") ∈ za_wd := zxt_2 232 rfl rfl
theorem zx_580 : (Jvm.Cond.fieldLink "DrownedSlates" (74 : Nat) "DrownedSlates" "fog" "LDrownedSlates$Fog;") ∈ za_wd := zxt_2 233 rfl rfl
theorem zx_581 : (Jvm.Cond.fieldLink "DrownedSlates" (81 : Nat) "DrownedSlates" "helm" "LDrownedSlates$Helm;") ∈ za_wd := zxt_2 234 rfl rfl
theorem zx_582 : (Jvm.Cond.fieldLink "DrownedSlates" (88 : Nat) "DrownedSlates" "desk" "LDrownedSlates$Desk;") ∈ za_wd := zxt_2 235 rfl rfl
theorem zx_583 : (Jvm.Cond.fieldLink "DrownedSlates" (95 : Nat) "DrownedSlates" "hands" "LDrownedSlates$Hands;") ∈ za_wd := zxt_2 236 rfl rfl
theorem zx_584 : (Jvm.Cond.fieldLink "DrownedSlates" (102 : Nat) "DrownedSlates" "likeness" "LDrownedSlates$Likeness;") ∈ za_wd := zxt_2 237 rfl rfl
theorem zx_585 : (Jvm.Cond.laysFinal "DrownedSlates" "DrownedSlates" "tape" "[B") ∈ za_wd := zxt_2 238 rfl rfl
theorem zx_587 : (Jvm.Cond.lays "DrownedSlates" "DrownedSlates" "tapeLength" "I") ∈ za_wd := zxt_3 0 rfl rfl
theorem zx_589 : (Jvm.Cond.lays "DrownedSlates" "DrownedSlates" "faultPlace" "I") ∈ za_wd := zxt_3 2 rfl rfl
theorem zx_591 : (Jvm.Cond.lays "DrownedSlates" "DrownedSlates" "refusedTexts" "I") ∈ za_wd := zxt_3 4 rfl rfl
theorem zx_593 : (Jvm.Cond.lays "DrownedSlates" "DrownedSlates" "refusedMarks" "I") ∈ za_wd := zxt_3 6 rfl rfl
theorem zx_595 : (Jvm.Cond.lays "DrownedSlates" "DrownedSlates" "waters" "LDrownedSlates$Waters;") ∈ za_wd := zxt_3 8 rfl rfl
theorem zx_597 : (Jvm.Cond.lays "DrownedSlates" "DrownedSlates" "chalk" "LDrownedSlates$Chalk;") ∈ za_wd := zxt_3 10 rfl rfl
theorem zx_599 : (Jvm.Cond.lays "DrownedSlates" "DrownedSlates" "nextWaters" "LDrownedSlates$Waters;") ∈ za_wd := zxt_3 12 rfl rfl
theorem zx_601 : (Jvm.Cond.lays "DrownedSlates" "DrownedSlates" "nextChalk" "LDrownedSlates$Chalk;") ∈ za_wd := zxt_3 14 rfl rfl
theorem zx_603 : (Jvm.Cond.laysFinal "DrownedSlates" "DrownedSlates" "imaged" "LDrownedSlates$Chalk;") ∈ za_wd := zxt_3 16 rfl rfl
theorem zx_605 : (Jvm.Cond.lays "DrownedSlates" "DrownedSlates" "hasImage" "Z") ∈ za_wd := zxt_3 18 rfl rfl
theorem zx_607 : (Jvm.Cond.laysFinal "DrownedSlates" "DrownedSlates" "lines" "LDrownedSlates$Lines;") ∈ za_wd := zxt_3 20 rfl rfl
theorem zx_609 : (Jvm.Cond.laysFinal "DrownedSlates" "DrownedSlates" "ship" "LDrownedSlates$Ship;") ∈ za_wd := zxt_3 22 rfl rfl
theorem zx_611 : (Jvm.Cond.laysFinal "DrownedSlates" "DrownedSlates" "fog" "LDrownedSlates$Fog;") ∈ za_wd := zxt_3 24 rfl rfl
theorem zx_613 : (Jvm.Cond.laysFinal "DrownedSlates" "DrownedSlates" "helm" "LDrownedSlates$Helm;") ∈ za_wd := zxt_3 26 rfl rfl
theorem zx_615 : (Jvm.Cond.laysFinal "DrownedSlates" "DrownedSlates" "desk" "LDrownedSlates$Desk;") ∈ za_wd := zxt_3 28 rfl rfl
theorem zx_617 : (Jvm.Cond.laysFinal "DrownedSlates" "DrownedSlates" "hands" "LDrownedSlates$Hands;") ∈ za_wd := zxt_3 30 rfl rfl
theorem zx_619 : (Jvm.Cond.laysFinal "DrownedSlates" "DrownedSlates" "likeness" "LDrownedSlates$Likeness;") ∈ za_wd := zxt_3 32 rfl rfl
theorem zx_622 : (Jvm.Cond.methodLink "DrownedSlatesLaw" (77 : Nat) ({ cls := "DrownedSlates", name := "feed", desc := "(IIIII)I" } : Jvm.MethodName)) ∈ za_wd := zxt_3 35 rfl rfl
theorem zx_623 : (Jvm.Cond.instanceMethod ({ cls := "DrownedSlates", name := "feed", desc := "(IIIII)I" } : Jvm.MethodName)) ∈ za_wd := zxt_3 36 rfl rfl
theorem zx_624 : (Jvm.Cond.selects "DrownedSlates" ({ cls := "DrownedSlates", name := "feed", desc := "(IIIII)I" } : Jvm.MethodName) ({ cls := "DrownedSlates", name := "feed", desc := "(IIIII)I" } : Jvm.MethodName)) ∈ za_wd := zxt_3 37 rfl rfl
theorem zx_625 : (Jvm.Cond.code ({ cls := "DrownedSlates", name := "feed", desc := "(IIIII)I" } : Jvm.MethodName) prog_1_method_2_code (6 : Nat) (Option.some Jvm.ClassFile.FieldType.int)) ∈ za_wd := zxt_3 38 rfl rfl
theorem zx_626 : (Jvm.Cond.methodLink "DrownedSlates" (106 : Nat) ({ cls := "DrownedSlates", name := "putNumber", desc := "(I)V" } : Jvm.MethodName)) ∈ za_wd := zxt_3 39 rfl rfl
theorem zx_628 : (Jvm.Cond.instanceMethod ({ cls := "DrownedSlates", name := "putNumber", desc := "(I)V" } : Jvm.MethodName)) ∈ za_wd := zxt_3 41 rfl rfl
theorem zx_629 : (Jvm.Cond.code ({ cls := "DrownedSlates", name := "putNumber", desc := "(I)V" } : Jvm.MethodName) prog_1_method_3_code (3 : Nat) (Option.none : Option Jvm.ClassFile.FieldType)) ∈ za_wd := zxt_3 42 rfl rfl
theorem zx_630 : (Jvm.Cond.methodLink "DrownedSlatesLaw" (88 : Nat) ({ cls := "DrownedSlates", name := "fault", desc := "()I" } : Jvm.MethodName)) ∈ za_wd := zxt_3 43 rfl rfl
theorem zx_631 : (Jvm.Cond.instanceMethod ({ cls := "DrownedSlates", name := "fault", desc := "()I" } : Jvm.MethodName)) ∈ za_wd := zxt_3 44 rfl rfl
theorem zx_632 : (Jvm.Cond.selects "DrownedSlates" ({ cls := "DrownedSlates", name := "fault", desc := "()I" } : Jvm.MethodName) ({ cls := "DrownedSlates", name := "fault", desc := "()I" } : Jvm.MethodName)) ∈ za_wd := zxt_3 45 rfl rfl
theorem zx_633 : (Jvm.Cond.code ({ cls := "DrownedSlates", name := "fault", desc := "()I" } : Jvm.MethodName) prog_1_method_6_code (1 : Nat) (Option.some Jvm.ClassFile.FieldType.int)) ∈ za_wd := zxt_3 46 rfl rfl
theorem zx_634 : (Jvm.Cond.methodLink "DrownedSlatesLaw" (113 : Nat) ({ cls := "DrownedSlates", name := "undo", desc := "()I" } : Jvm.MethodName)) ∈ za_wd := zxt_3 47 rfl rfl
theorem zx_635 : (Jvm.Cond.instanceMethod ({ cls := "DrownedSlates", name := "undo", desc := "()I" } : Jvm.MethodName)) ∈ za_wd := zxt_3 48 rfl rfl
theorem zx_636 : (Jvm.Cond.selects "DrownedSlates" ({ cls := "DrownedSlates", name := "undo", desc := "()I" } : Jvm.MethodName) ({ cls := "DrownedSlates", name := "undo", desc := "()I" } : Jvm.MethodName)) ∈ za_wd := zxt_3 49 rfl rfl
theorem zx_637 : (Jvm.Cond.code ({ cls := "DrownedSlates", name := "undo", desc := "()I" } : Jvm.MethodName) prog_1_method_13_code (1 : Nat) (Option.some Jvm.ClassFile.FieldType.int)) ∈ za_wd := zxt_3 50 rfl rfl
theorem zx_638 : (Jvm.Cond.methodLink "DrownedSlates" (234 : Nat) ({ cls := "DrownedSlates$Chalk", name := "takeBack", desc := "()Z" } : Jvm.MethodName)) ∈ za_wd := zxt_3 51 rfl rfl
theorem zx_639 : (Jvm.Cond.instanceMethod ({ cls := "DrownedSlates$Chalk", name := "takeBack", desc := "()Z" } : Jvm.MethodName)) ∈ za_wd := zxt_3 52 rfl rfl
theorem zx_640 : (Jvm.Cond.selects "DrownedSlates$Chalk" ({ cls := "DrownedSlates$Chalk", name := "takeBack", desc := "()Z" } : Jvm.MethodName) ({ cls := "DrownedSlates$Chalk", name := "takeBack", desc := "()Z" } : Jvm.MethodName)) ∈ za_wd := zxt_3 53 rfl rfl
theorem zx_641 : (Jvm.Cond.code ({ cls := "DrownedSlates$Chalk", name := "takeBack", desc := "()Z" } : Jvm.MethodName) prog_2_method_10_code (2 : Nat) (Option.some Jvm.ClassFile.FieldType.boolean)) ∈ za_wd := zxt_3 54 rfl rfl
theorem zx_642 : (Jvm.Cond.methodLink "DrownedSlatesLaw" (132 : Nat) ({ cls := "DrownedSlates", name := "exam", desc := "()I" } : Jvm.MethodName)) ∈ za_wd := zxt_3 55 rfl rfl
theorem zx_643 : (Jvm.Cond.instanceMethod ({ cls := "DrownedSlates", name := "exam", desc := "()I" } : Jvm.MethodName)) ∈ za_wd := zxt_3 56 rfl rfl
theorem zx_644 : (Jvm.Cond.selects "DrownedSlates" ({ cls := "DrownedSlates", name := "exam", desc := "()I" } : Jvm.MethodName) ({ cls := "DrownedSlates", name := "exam", desc := "()I" } : Jvm.MethodName)) ∈ za_wd := zxt_3 57 rfl rfl
theorem zx_645 : (Jvm.Cond.code ({ cls := "DrownedSlates", name := "exam", desc := "()I" } : Jvm.MethodName) prog_1_method_19_code (5 : Nat) (Option.some Jvm.ClassFile.FieldType.int)) ∈ za_wd := zxt_3 58 rfl rfl
theorem zx_646 : (Jvm.Cond.methodLink "DrownedSlates" (288 : Nat) ({ cls := "DrownedSlates$Ship", name := "knownBy", desc := "(LDrownedSlates$Waters;LDrownedSlates$Chalk;I)J" } : Jvm.MethodName)) ∈ za_wd := zxt_3 59 rfl rfl
theorem zx_647 : (Jvm.Cond.instanceMethod ({ cls := "DrownedSlates$Ship", name := "knownBy", desc := "(LDrownedSlates$Waters;LDrownedSlates$Chalk;I)J" } : Jvm.MethodName)) ∈ za_wd := zxt_3 60 rfl rfl
theorem zx_648 : (Jvm.Cond.selects "DrownedSlates$Ship" ({ cls := "DrownedSlates$Ship", name := "knownBy", desc := "(LDrownedSlates$Waters;LDrownedSlates$Chalk;I)J" } : Jvm.MethodName) ({ cls := "DrownedSlates$Ship", name := "knownBy", desc := "(LDrownedSlates$Waters;LDrownedSlates$Chalk;I)J" } : Jvm.MethodName)) ∈ za_wd := zxt_3 61 rfl rfl
theorem zx_649 : (Jvm.Cond.code ({ cls := "DrownedSlates$Ship", name := "knownBy", desc := "(LDrownedSlates$Waters;LDrownedSlates$Chalk;I)J" } : Jvm.MethodName) prog_10_method_8_code (7 : Nat) (Option.some Jvm.ClassFile.FieldType.long)) ∈ za_wd := zxt_3 62 rfl rfl
theorem zx_650 : (Jvm.Cond.methodLink "DrownedSlates$Ship" (89 : Nat) ({ cls := "DrownedSlates$Ship", name := "follow", desc := "(LDrownedSlates$Waters;LDrownedSlates$Chalk;I)V" } : Jvm.MethodName)) ∈ za_wd := zxt_3 63 rfl rfl
theorem zx_651 : (Jvm.Cond.instanceMethod ({ cls := "DrownedSlates$Ship", name := "follow", desc := "(LDrownedSlates$Waters;LDrownedSlates$Chalk;I)V" } : Jvm.MethodName)) ∈ za_wd := zxt_3 64 rfl rfl
theorem zx_652 : (Jvm.Cond.selects "DrownedSlates$Ship" ({ cls := "DrownedSlates$Ship", name := "follow", desc := "(LDrownedSlates$Waters;LDrownedSlates$Chalk;I)V" } : Jvm.MethodName) ({ cls := "DrownedSlates$Ship", name := "follow", desc := "(LDrownedSlates$Waters;LDrownedSlates$Chalk;I)V" } : Jvm.MethodName)) ∈ za_wd := zxt_3 65 rfl rfl
theorem zx_653 : (Jvm.Cond.code ({ cls := "DrownedSlates$Ship", name := "follow", desc := "(LDrownedSlates$Waters;LDrownedSlates$Chalk;I)V" } : Jvm.MethodName) prog_10_method_6_code (6 : Nat) (Option.none : Option Jvm.ClassFile.FieldType)) ∈ za_wd := zxt_3 66 rfl rfl
theorem zx_654 : (Jvm.Cond.methodLink "DrownedSlates$Ship" (69 : Nat) ({ cls := "DrownedSlates$Ship", name := "begin", desc := "(II)V" } : Jvm.MethodName)) ∈ za_wd := zxt_3 67 rfl rfl
theorem zx_655 : (Jvm.Cond.instanceMethod ({ cls := "DrownedSlates$Ship", name := "begin", desc := "(II)V" } : Jvm.MethodName)) ∈ za_wd := zxt_3 68 rfl rfl
theorem zx_656 : (Jvm.Cond.selects "DrownedSlates$Ship" ({ cls := "DrownedSlates$Ship", name := "begin", desc := "(II)V" } : Jvm.MethodName) ({ cls := "DrownedSlates$Ship", name := "begin", desc := "(II)V" } : Jvm.MethodName)) ∈ za_wd := zxt_3 69 rfl rfl
theorem zx_657 : (Jvm.Cond.code ({ cls := "DrownedSlates$Ship", name := "begin", desc := "(II)V" } : Jvm.MethodName) prog_10_method_2_code (3 : Nat) (Option.none : Option Jvm.ClassFile.FieldType)) ∈ za_wd := zxt_3 70 rfl rfl
theorem zx_659 : (Jvm.Cond.methodLink "DrownedSlates$Ship" (76 : Nat) ({ cls := "DrownedSlates$Chalk", name := "wayOf", desc := "(II)I" } : Jvm.MethodName)) ∈ za_wd := zxt_3 72 rfl rfl
theorem zx_660 : (Jvm.Cond.instanceMethod ({ cls := "DrownedSlates$Chalk", name := "wayOf", desc := "(II)I" } : Jvm.MethodName)) ∈ za_wd := zxt_3 73 rfl rfl
theorem zx_661 : (Jvm.Cond.selects "DrownedSlates$Chalk" ({ cls := "DrownedSlates$Chalk", name := "wayOf", desc := "(II)I" } : Jvm.MethodName) ({ cls := "DrownedSlates$Chalk", name := "wayOf", desc := "(II)I" } : Jvm.MethodName)) ∈ za_wd := zxt_3 74 rfl rfl
theorem zx_662 : (Jvm.Cond.code ({ cls := "DrownedSlates$Chalk", name := "wayOf", desc := "(II)I" } : Jvm.MethodName) prog_2_method_5_code (3 : Nat) (Option.some Jvm.ClassFile.FieldType.int)) ∈ za_wd := zxt_3 75 rfl rfl
theorem zx_663 : (Jvm.Cond.methodLink "DrownedSlates$Ship" (79 : Nat) ({ cls := "DrownedSlates$Chalk", name := "stepsOf", desc := "(II)I" } : Jvm.MethodName)) ∈ za_wd := zxt_3 76 rfl rfl
theorem zx_664 : (Jvm.Cond.instanceMethod ({ cls := "DrownedSlates$Chalk", name := "stepsOf", desc := "(II)I" } : Jvm.MethodName)) ∈ za_wd := zxt_3 77 rfl rfl
theorem zx_665 : (Jvm.Cond.selects "DrownedSlates$Chalk" ({ cls := "DrownedSlates$Chalk", name := "stepsOf", desc := "(II)I" } : Jvm.MethodName) ({ cls := "DrownedSlates$Chalk", name := "stepsOf", desc := "(II)I" } : Jvm.MethodName)) ∈ za_wd := zxt_3 78 rfl rfl
theorem zx_666 : (Jvm.Cond.code ({ cls := "DrownedSlates$Chalk", name := "stepsOf", desc := "(II)I" } : Jvm.MethodName) prog_2_method_6_code (3 : Nat) (Option.some Jvm.ClassFile.FieldType.int)) ∈ za_wd := zxt_3 79 rfl rfl
theorem zx_667 : (Jvm.Cond.methodLink "DrownedSlates$Ship" (82 : Nat) ({ cls := "DrownedSlates$Ship", name := "followMark", desc := "(LDrownedSlates$Waters;IIZ)V" } : Jvm.MethodName)) ∈ za_wd := zxt_3 80 rfl rfl
theorem zx_668 : (Jvm.Cond.instanceMethod ({ cls := "DrownedSlates$Ship", name := "followMark", desc := "(LDrownedSlates$Waters;IIZ)V" } : Jvm.MethodName)) ∈ za_wd := zxt_3 81 rfl rfl
theorem zx_669 : (Jvm.Cond.selects "DrownedSlates$Ship" ({ cls := "DrownedSlates$Ship", name := "followMark", desc := "(LDrownedSlates$Waters;IIZ)V" } : Jvm.MethodName) ({ cls := "DrownedSlates$Ship", name := "followMark", desc := "(LDrownedSlates$Waters;IIZ)V" } : Jvm.MethodName)) ∈ za_wd := zxt_3 82 rfl rfl
theorem zx_670 : (Jvm.Cond.code ({ cls := "DrownedSlates$Ship", name := "followMark", desc := "(LDrownedSlates$Waters;IIZ)V" } : Jvm.MethodName) prog_10_method_5_code (6 : Nat) (Option.none : Option Jvm.ClassFile.FieldType)) ∈ za_wd := zxt_3 83 rfl rfl
theorem zx_671 : (Jvm.Cond.methodLink "DrownedSlates$Ship" (58 : Nat) ({ cls := "DrownedSlates$Ship", name := "sail", desc := "(LDrownedSlates$Waters;IZ)V" } : Jvm.MethodName)) ∈ za_wd := zxt_3 84 rfl rfl
theorem zx_672 : (Jvm.Cond.instanceMethod ({ cls := "DrownedSlates$Ship", name := "sail", desc := "(LDrownedSlates$Waters;IZ)V" } : Jvm.MethodName)) ∈ za_wd := zxt_3 85 rfl rfl
theorem zx_673 : (Jvm.Cond.selects "DrownedSlates$Ship" ({ cls := "DrownedSlates$Ship", name := "sail", desc := "(LDrownedSlates$Waters;IZ)V" } : Jvm.MethodName) ({ cls := "DrownedSlates$Ship", name := "sail", desc := "(LDrownedSlates$Waters;IZ)V" } : Jvm.MethodName)) ∈ za_wd := zxt_3 86 rfl rfl
theorem zx_674 : (Jvm.Cond.code ({ cls := "DrownedSlates$Ship", name := "sail", desc := "(LDrownedSlates$Waters;IZ)V" } : Jvm.MethodName) prog_10_method_3_code (5 : Nat) (Option.none : Option Jvm.ClassFile.FieldType)) ∈ za_wd := zxt_3 87 rfl rfl
theorem zx_675 : (Jvm.Cond.methodLink "DrownedSlates$Ship" (41 : Nat) ({ cls := "DrownedSlates$Waters", name := "nextCell", desc := "(II)I" } : Jvm.MethodName)) ∈ za_wd := zxt_3 88 rfl rfl
theorem zx_676 : (Jvm.Cond.instanceMethod ({ cls := "DrownedSlates$Waters", name := "nextCell", desc := "(II)I" } : Jvm.MethodName)) ∈ za_wd := zxt_3 89 rfl rfl
theorem zx_677 : (Jvm.Cond.selects "DrownedSlates$Waters" ({ cls := "DrownedSlates$Waters", name := "nextCell", desc := "(II)I" } : Jvm.MethodName) ({ cls := "DrownedSlates$Waters", name := "nextCell", desc := "(II)I" } : Jvm.MethodName)) ∈ za_wd := zxt_3 90 rfl rfl
theorem zx_678 : (Jvm.Cond.code ({ cls := "DrownedSlates$Waters", name := "nextCell", desc := "(II)I" } : Jvm.MethodName) prog_12_method_10_code (3 : Nat) (Option.some Jvm.ClassFile.FieldType.int)) ∈ za_wd := zxt_3 91 rfl rfl
theorem zx_679 : (Jvm.Cond.methodLink "DrownedSlates$Ship" (47 : Nat) ({ cls := "DrownedSlates$Ship", name := "goTo", desc := "(LDrownedSlates$Waters;II)V" } : Jvm.MethodName)) ∈ za_wd := zxt_3 92 rfl rfl
theorem zx_681 : (Jvm.Cond.instanceMethod ({ cls := "DrownedSlates$Ship", name := "goTo", desc := "(LDrownedSlates$Waters;II)V" } : Jvm.MethodName)) ∈ za_wd := zxt_3 94 rfl rfl
theorem zx_682 : (Jvm.Cond.code ({ cls := "DrownedSlates$Ship", name := "goTo", desc := "(LDrownedSlates$Waters;II)V" } : Jvm.MethodName) prog_10_method_4_code (4 : Nat) (Option.none : Option Jvm.ClassFile.FieldType)) ∈ za_wd := zxt_3 95 rfl rfl
theorem zx_683 : (Jvm.Cond.methodLink "DrownedSlates$Ship" (54 : Nat) ({ cls := "DrownedSlates$Waters", name := "isRock", desc := "(I)Z" } : Jvm.MethodName)) ∈ za_wd := zxt_3 96 rfl rfl
theorem zx_684 : (Jvm.Cond.instanceMethod ({ cls := "DrownedSlates$Waters", name := "isRock", desc := "(I)Z" } : Jvm.MethodName)) ∈ za_wd := zxt_3 97 rfl rfl
theorem zx_685 : (Jvm.Cond.selects "DrownedSlates$Waters" ({ cls := "DrownedSlates$Waters", name := "isRock", desc := "(I)Z" } : Jvm.MethodName) ({ cls := "DrownedSlates$Waters", name := "isRock", desc := "(I)Z" } : Jvm.MethodName)) ∈ za_wd := zxt_3 98 rfl rfl
theorem zx_686 : (Jvm.Cond.code ({ cls := "DrownedSlates$Waters", name := "isRock", desc := "(I)Z" } : Jvm.MethodName) prog_12_method_7_code (2 : Nat) (Option.some Jvm.ClassFile.FieldType.boolean)) ∈ za_wd := zxt_3 99 rfl rfl
theorem zx_687 : (Jvm.Cond.methodLink "DrownedSlates$Ship" (51 : Nat) ({ cls := "DrownedSlates$Waters", name := "drivenTo", desc := "(II)I" } : Jvm.MethodName)) ∈ za_wd := zxt_3 100 rfl rfl
theorem zx_688 : (Jvm.Cond.instanceMethod ({ cls := "DrownedSlates$Waters", name := "drivenTo", desc := "(II)I" } : Jvm.MethodName)) ∈ za_wd := zxt_3 101 rfl rfl
theorem zx_689 : (Jvm.Cond.selects "DrownedSlates$Waters" ({ cls := "DrownedSlates$Waters", name := "drivenTo", desc := "(II)I" } : Jvm.MethodName) ({ cls := "DrownedSlates$Waters", name := "drivenTo", desc := "(II)I" } : Jvm.MethodName)) ∈ za_wd := zxt_3 102 rfl rfl
theorem zx_690 : (Jvm.Cond.code ({ cls := "DrownedSlates$Waters", name := "drivenTo", desc := "(II)I" } : Jvm.MethodName) prog_12_method_11_code (3 : Nat) (Option.some Jvm.ClassFile.FieldType.int)) ∈ za_wd := zxt_3 103 rfl rfl
theorem zx_691 : (Jvm.Cond.methodLink "DrownedSlates$Waters" (97 : Nat) ({ cls := "DrownedSlates$Waters", name := "nextCell", desc := "(II)I" } : Jvm.MethodName)) ∈ za_wd := zxt_3 104 rfl rfl
theorem zx_692 : (Jvm.Cond.methodLink "DrownedSlates$Ship" (93 : Nat) ({ cls := "DrownedSlates$Ship", name := "wreck", desc := "()J" } : Jvm.MethodName)) ∈ za_wd := zxt_3 105 rfl rfl
theorem zx_693 : (Jvm.Cond.instanceMethod ({ cls := "DrownedSlates$Ship", name := "wreck", desc := "()J" } : Jvm.MethodName)) ∈ za_wd := zxt_3 106 rfl rfl
theorem zx_694 : (Jvm.Cond.selects "DrownedSlates$Ship" ({ cls := "DrownedSlates$Ship", name := "wreck", desc := "()J" } : Jvm.MethodName) ({ cls := "DrownedSlates$Ship", name := "wreck", desc := "()J" } : Jvm.MethodName)) ∈ za_wd := zxt_3 107 rfl rfl
theorem zx_695 : (Jvm.Cond.code ({ cls := "DrownedSlates$Ship", name := "wreck", desc := "()J" } : Jvm.MethodName) prog_10_method_7_code (1 : Nat) (Option.some Jvm.ClassFile.FieldType.long)) ∈ za_wd := zxt_3 108 rfl rfl
theorem zx_696 : (Jvm.Cond.methodLink "DrownedSlates" (292 : Nat) ({ cls := "DrownedSlates$Helm", name := "sailBy", desc := "(LDrownedSlates$Waters;IJ)V" } : Jvm.MethodName)) ∈ za_wd := zxt_3 109 rfl rfl
theorem zx_697 : (Jvm.Cond.instanceMethod ({ cls := "DrownedSlates$Helm", name := "sailBy", desc := "(LDrownedSlates$Waters;IJ)V" } : Jvm.MethodName)) ∈ za_wd := zxt_3 110 rfl rfl
theorem zx_698 : (Jvm.Cond.selects "DrownedSlates$Helm" ({ cls := "DrownedSlates$Helm", name := "sailBy", desc := "(LDrownedSlates$Waters;IJ)V" } : Jvm.MethodName) ({ cls := "DrownedSlates$Helm", name := "sailBy", desc := "(LDrownedSlates$Waters;IJ)V" } : Jvm.MethodName)) ∈ za_wd := zxt_3 111 rfl rfl
theorem zx_699 : (Jvm.Cond.code ({ cls := "DrownedSlates$Helm", name := "sailBy", desc := "(LDrownedSlates$Waters;IJ)V" } : Jvm.MethodName) prog_7_method_2_code (6 : Nat) (Option.none : Option Jvm.ClassFile.FieldType)) ∈ za_wd := zxt_3 112 rfl rfl
theorem zx_700 : (Jvm.Cond.methodLink "DrownedSlates$Helm" (37 : Nat) ({ cls := "DrownedSlates$Ship", name := "begin", desc := "(II)V" } : Jvm.MethodName)) ∈ za_wd := zxt_3 113 rfl rfl
theorem zx_701 : (Jvm.Cond.methodLink "DrownedSlates$Helm" (41 : Nat) ({ cls := "DrownedSlates$Helm", name := "lookForGoal", desc := "(LDrownedSlates$Waters;)V" } : Jvm.MethodName)) ∈ za_wd := zxt_3 114 rfl rfl
theorem zx_703 : (Jvm.Cond.instanceMethod ({ cls := "DrownedSlates$Helm", name := "lookForGoal", desc := "(LDrownedSlates$Waters;)V" } : Jvm.MethodName)) ∈ za_wd := zxt_3 116 rfl rfl
theorem zx_704 : (Jvm.Cond.code ({ cls := "DrownedSlates$Helm", name := "lookForGoal", desc := "(LDrownedSlates$Waters;)V" } : Jvm.MethodName) prog_7_method_3_code (2 : Nat) (Option.none : Option Jvm.ClassFile.FieldType)) ∈ za_wd := zxt_3 117 rfl rfl
theorem zx_705 : (Jvm.Cond.methodLink "DrownedSlates$Helm" (63 : Nat) ({ cls := "DrownedSlates$Waters", name := "xOf", desc := "(I)I" } : Jvm.MethodName)) ∈ za_wd := zxt_3 118 rfl rfl
theorem zx_706 : (Jvm.Cond.instanceMethod ({ cls := "DrownedSlates$Waters", name := "xOf", desc := "(I)I" } : Jvm.MethodName)) ∈ za_wd := zxt_3 119 rfl rfl
theorem zx_707 : (Jvm.Cond.selects "DrownedSlates$Waters" ({ cls := "DrownedSlates$Waters", name := "xOf", desc := "(I)I" } : Jvm.MethodName) ({ cls := "DrownedSlates$Waters", name := "xOf", desc := "(I)I" } : Jvm.MethodName)) ∈ za_wd := zxt_3 120 rfl rfl
theorem zx_708 : (Jvm.Cond.code ({ cls := "DrownedSlates$Waters", name := "xOf", desc := "(I)I" } : Jvm.MethodName) prog_12_method_5_code (2 : Nat) (Option.some Jvm.ClassFile.FieldType.int)) ∈ za_wd := zxt_3 121 rfl rfl
theorem zx_709 : (Jvm.Cond.methodLink "DrownedSlates$Helm" (48 : Nat) ({ cls := "DrownedSlates$Helm", name := "lookAround", desc := "(LDrownedSlates$Waters;J)V" } : Jvm.MethodName)) ∈ za_wd := zxt_3 122 rfl rfl
theorem zx_711 : (Jvm.Cond.instanceMethod ({ cls := "DrownedSlates$Helm", name := "lookAround", desc := "(LDrownedSlates$Waters;J)V" } : Jvm.MethodName)) ∈ za_wd := zxt_3 124 rfl rfl
theorem zx_712 : (Jvm.Cond.code ({ cls := "DrownedSlates$Helm", name := "lookAround", desc := "(LDrownedSlates$Waters;J)V" } : Jvm.MethodName) prog_7_method_4_code (6 : Nat) (Option.none : Option Jvm.ClassFile.FieldType)) ∈ za_wd := zxt_3 125 rfl rfl
theorem zx_713 : (Jvm.Cond.methodLink "DrownedSlates$Helm" (70 : Nat) ({ cls := "DrownedSlates$Waters", name := "yOf", desc := "(I)I" } : Jvm.MethodName)) ∈ za_wd := zxt_3 126 rfl rfl
theorem zx_714 : (Jvm.Cond.instanceMethod ({ cls := "DrownedSlates$Waters", name := "yOf", desc := "(I)I" } : Jvm.MethodName)) ∈ za_wd := zxt_3 127 rfl rfl
theorem zx_715 : (Jvm.Cond.selects "DrownedSlates$Waters" ({ cls := "DrownedSlates$Waters", name := "yOf", desc := "(I)I" } : Jvm.MethodName) ({ cls := "DrownedSlates$Waters", name := "yOf", desc := "(I)I" } : Jvm.MethodName)) ∈ za_wd := zxt_3 128 rfl rfl
theorem zx_716 : (Jvm.Cond.code ({ cls := "DrownedSlates$Waters", name := "yOf", desc := "(I)I" } : Jvm.MethodName) prog_12_method_6_code (2 : Nat) (Option.some Jvm.ClassFile.FieldType.int)) ∈ za_wd := zxt_3 129 rfl rfl
theorem zx_717 : (Jvm.Cond.methodLink "DrownedSlates$Helm" (76 : Nat) ({ cls := "DrownedSlates$Waters", name := "drivenTo", desc := "(II)I" } : Jvm.MethodName)) ∈ za_wd := zxt_3 130 rfl rfl
theorem zx_718 : (Jvm.Cond.methodLink "DrownedSlates$Helm" (80 : Nat) ({ cls := "DrownedSlates$Waters", name := "nextCell", desc := "(II)I" } : Jvm.MethodName)) ∈ za_wd := zxt_3 131 rfl rfl
theorem zx_719 : (Jvm.Cond.methodLink "DrownedSlates$Helm" (52 : Nat) ({ cls := "DrownedSlates$Helm", name := "wayByRules", desc := "(LDrownedSlates$Waters;)I" } : Jvm.MethodName)) ∈ za_wd := zxt_3 132 rfl rfl
theorem zx_721 : (Jvm.Cond.instanceMethod ({ cls := "DrownedSlates$Helm", name := "wayByRules", desc := "(LDrownedSlates$Waters;)I" } : Jvm.MethodName)) ∈ za_wd := zxt_3 134 rfl rfl
theorem zx_722 : (Jvm.Cond.code ({ cls := "DrownedSlates$Helm", name := "wayByRules", desc := "(LDrownedSlates$Waters;)I" } : Jvm.MethodName) prog_7_method_5_code (5 : Nat) (Option.some Jvm.ClassFile.FieldType.int)) ∈ za_wd := zxt_3 135 rfl rfl
theorem zx_723 : (Jvm.Cond.methodLink "DrownedSlates$Helm" (89 : Nat) ({ cls := "DrownedSlates$Helm", name := "worth", desc := "(LDrownedSlates$Waters;II)I" } : Jvm.MethodName)) ∈ za_wd := zxt_3 136 rfl rfl
theorem zx_725 : (Jvm.Cond.instanceMethod ({ cls := "DrownedSlates$Helm", name := "worth", desc := "(LDrownedSlates$Waters;II)I" } : Jvm.MethodName)) ∈ za_wd := zxt_3 138 rfl rfl
theorem zx_726 : (Jvm.Cond.code ({ cls := "DrownedSlates$Helm", name := "worth", desc := "(LDrownedSlates$Waters;II)I" } : Jvm.MethodName) prog_7_method_6_code (9 : Nat) (Option.some Jvm.ClassFile.FieldType.int)) ∈ za_wd := zxt_3 139 rfl rfl
theorem zx_727 : (Jvm.Cond.methodLink "DrownedSlates$Helm" (99 : Nat) ({ cls := "DrownedSlates$Helm", name := "push", desc := "(I)V" } : Jvm.MethodName)) ∈ za_wd := zxt_3 140 rfl rfl
theorem zx_729 : (Jvm.Cond.instanceMethod ({ cls := "DrownedSlates$Helm", name := "push", desc := "(I)V" } : Jvm.MethodName)) ∈ za_wd := zxt_3 142 rfl rfl
theorem zx_730 : (Jvm.Cond.code ({ cls := "DrownedSlates$Helm", name := "push", desc := "(I)V" } : Jvm.MethodName) prog_7_method_7_code (2 : Nat) (Option.none : Option Jvm.ClassFile.FieldType)) ∈ za_wd := zxt_3 143 rfl rfl
theorem zx_731 : (Jvm.Cond.methodLink "DrownedSlates$Helm" (103 : Nat) ({ cls := "DrownedSlates$Helm", name := "pop", desc := "()I" } : Jvm.MethodName)) ∈ za_wd := zxt_3 144 rfl rfl
theorem zx_733 : (Jvm.Cond.instanceMethod ({ cls := "DrownedSlates$Helm", name := "pop", desc := "()I" } : Jvm.MethodName)) ∈ za_wd := zxt_3 146 rfl rfl
theorem zx_734 : (Jvm.Cond.code ({ cls := "DrownedSlates$Helm", name := "pop", desc := "()I" } : Jvm.MethodName) prog_7_method_8_code (1 : Nat) (Option.some Jvm.ClassFile.FieldType.int)) ∈ za_wd := zxt_3 147 rfl rfl
theorem zx_735 : (Jvm.Cond.methodLink "DrownedSlates$Helm" (107 : Nat) ({ cls := "DrownedSlates$Helm", name := "joined", desc := "(III)I" } : Jvm.MethodName)) ∈ za_wd := zxt_3 148 rfl rfl
theorem zx_736 : (Jvm.Cond.static ({ cls := "DrownedSlates$Helm", name := "joined", desc := "(III)I" } : Jvm.MethodName)) ∈ za_wd := zxt_3 149 rfl rfl
theorem zx_737 : (Jvm.Cond.code ({ cls := "DrownedSlates$Helm", name := "joined", desc := "(III)I" } : Jvm.MethodName) prog_7_method_9_code (3 : Nat) (Option.some Jvm.ClassFile.FieldType.int)) ∈ za_wd := zxt_3 150 rfl rfl
theorem zx_738 : (Jvm.Cond.methodLink "DrownedSlates$Helm" (56 : Nat) ({ cls := "DrownedSlates$Ship", name := "sail", desc := "(LDrownedSlates$Waters;IZ)V" } : Jvm.MethodName)) ∈ za_wd := zxt_3 151 rfl rfl
theorem zx_739 : (Jvm.Cond.methodLink "DrownedSlatesLaw" (157 : Nat) ({ cls := "DrownedSlates", name := "image", desc := "()V" } : Jvm.MethodName)) ∈ za_wd := zxt_3 152 rfl rfl
theorem zx_740 : (Jvm.Cond.instanceMethod ({ cls := "DrownedSlates", name := "image", desc := "()V" } : Jvm.MethodName)) ∈ za_wd := zxt_3 153 rfl rfl
theorem zx_741 : (Jvm.Cond.selects "DrownedSlates" ({ cls := "DrownedSlates", name := "image", desc := "()V" } : Jvm.MethodName) ({ cls := "DrownedSlates", name := "image", desc := "()V" } : Jvm.MethodName)) ∈ za_wd := zxt_3 154 rfl rfl
theorem zx_742 : (Jvm.Cond.code ({ cls := "DrownedSlates", name := "image", desc := "()V" } : Jvm.MethodName) prog_1_method_26_code (1 : Nat) (Option.none : Option Jvm.ClassFile.FieldType)) ∈ za_wd := zxt_3 155 rfl rfl
theorem zx_743 : (Jvm.Cond.methodLink "DrownedSlates" (359 : Nat) ({ cls := "DrownedSlates$Chalk", name := "copyFrom", desc := "(LDrownedSlates$Chalk;)V" } : Jvm.MethodName)) ∈ za_wd := zxt_3 156 rfl rfl
theorem zx_744 : (Jvm.Cond.instanceMethod ({ cls := "DrownedSlates$Chalk", name := "copyFrom", desc := "(LDrownedSlates$Chalk;)V" } : Jvm.MethodName)) ∈ za_wd := zxt_3 157 rfl rfl
theorem zx_745 : (Jvm.Cond.selects "DrownedSlates$Chalk" ({ cls := "DrownedSlates$Chalk", name := "copyFrom", desc := "(LDrownedSlates$Chalk;)V" } : Jvm.MethodName) ({ cls := "DrownedSlates$Chalk", name := "copyFrom", desc := "(LDrownedSlates$Chalk;)V" } : Jvm.MethodName)) ∈ za_wd := zxt_3 158 rfl rfl
theorem zx_746 : (Jvm.Cond.code ({ cls := "DrownedSlates$Chalk", name := "copyFrom", desc := "(LDrownedSlates$Chalk;)V" } : Jvm.MethodName) prog_2_method_11_code (2 : Nat) (Option.none : Option Jvm.ClassFile.FieldType)) ∈ za_wd := zxt_3 159 rfl rfl
theorem zx_747 : (Jvm.Cond.methodLink "DrownedSlates$Chalk" (44 : Nat) ({ cls := "java/lang/System", name := "arraycopy", desc := "(Ljava/lang/Object;ILjava/lang/Object;II)V" } : Jvm.MethodName)) ∈ za_wd := zxt_3 160 rfl rfl
theorem zx_748 : (Jvm.Cond.static ({ cls := "java/lang/System", name := "arraycopy", desc := "(Ljava/lang/Object;ILjava/lang/Object;II)V" } : Jvm.MethodName)) ∈ za_wd := zxt_3 161 rfl rfl
theorem zx_749 : (Jvm.Cond.native ({ cls := "java/lang/System", name := "arraycopy", desc := "(Ljava/lang/Object;ILjava/lang/Object;II)V" } : Jvm.MethodName)) ∈ za_wd := zxt_3 162 rfl rfl
theorem zx_750 : (Jvm.Cond.methodLink "DrownedSlatesLaw" (161 : Nat) ({ cls := "DrownedSlates", name := "restore", desc := "()Z" } : Jvm.MethodName)) ∈ za_wd := zxt_3 163 rfl rfl
theorem zx_751 : (Jvm.Cond.instanceMethod ({ cls := "DrownedSlates", name := "restore", desc := "()Z" } : Jvm.MethodName)) ∈ za_wd := zxt_3 164 rfl rfl
theorem zx_752 : (Jvm.Cond.selects "DrownedSlates" ({ cls := "DrownedSlates", name := "restore", desc := "()Z" } : Jvm.MethodName) ({ cls := "DrownedSlates", name := "restore", desc := "()Z" } : Jvm.MethodName)) ∈ za_wd := zxt_3 165 rfl rfl
theorem zx_753 : (Jvm.Cond.code ({ cls := "DrownedSlates", name := "restore", desc := "()Z" } : Jvm.MethodName) prog_1_method_27_code (1 : Nat) (Option.some Jvm.ClassFile.FieldType.boolean)) ∈ za_wd := zxt_3 166 rfl rfl
theorem zx_754 : (Jvm.Cond.methodLink "DrownedSlatesLaw" (82 : Nat) ({ cls := "DrownedSlatesLaw", name := "sea", desc := "(LDrownedSlates;I[J)I" } : Jvm.MethodName)) ∈ za_wd := zxt_3 167 rfl rfl
theorem zx_755 : (Jvm.Cond.static ({ cls := "DrownedSlatesLaw", name := "sea", desc := "(LDrownedSlates;I[J)I" } : Jvm.MethodName)) ∈ za_wd := zxt_3 168 rfl rfl
theorem zx_756 : (Jvm.Cond.codeWith ({ cls := "DrownedSlatesLaw", name := "sea", desc := "(LDrownedSlates;I[J)I" } : Jvm.MethodName) method_3_code (4 : Nat) (Option.some Jvm.ClassFile.FieldType.int) [((0 : Nat), (9 : Nat), (12 : Nat), (13 : Nat))]) ∈ za_wd := zxt_3 169 rfl rfl
theorem zx_757 : (Jvm.Cond.classLink "DrownedSlatesLaw" (13 : Nat) "java/lang/IllegalArgumentException") ∈ za_wd := zxt_3 170 rfl rfl
theorem zx_758 : (Jvm.Cond.methodLink "DrownedSlatesLaw" (7 : Nat) ({ cls := "DrownedSlates", name := "sea", desc := "(I)I" } : Jvm.MethodName)) ∈ za_wd := zxt_3 171 rfl rfl
theorem zx_759 : (Jvm.Cond.instanceMethod ({ cls := "DrownedSlates", name := "sea", desc := "(I)I" } : Jvm.MethodName)) ∈ za_wd := zxt_3 172 rfl rfl
theorem zx_760 : (Jvm.Cond.selects "DrownedSlates" ({ cls := "DrownedSlates", name := "sea", desc := "(I)I" } : Jvm.MethodName) ({ cls := "DrownedSlates", name := "sea", desc := "(I)I" } : Jvm.MethodName)) ∈ za_wd := zxt_3 173 rfl rfl
theorem zx_761 : (Jvm.Cond.code ({ cls := "DrownedSlates", name := "sea", desc := "(I)I" } : Jvm.MethodName) prog_1_method_4_code (2 : Nat) (Option.some Jvm.ClassFile.FieldType.int)) ∈ za_wd := zxt_3 174 rfl rfl
theorem zx_762 : (Jvm.Cond.classLink "DrownedSlates" (110 : Nat) "java/lang/IllegalArgumentException") ∈ za_wd := zxt_3 175 rfl rfl
theorem zx_828 : (Jvm.Cond.methodLink "DrownedSlates" (117 : Nat) ({ cls := "DrownedSlates$Lines", name := "read", desc := "(ILDrownedSlates$Waters;LDrownedSlates$Chalk;)Z" } : Jvm.MethodName)) ∈ za_wd := zxt_4 1 rfl rfl
theorem zx_829 : (Jvm.Cond.instanceMethod ({ cls := "DrownedSlates$Lines", name := "read", desc := "(ILDrownedSlates$Waters;LDrownedSlates$Chalk;)Z" } : Jvm.MethodName)) ∈ za_wd := zxt_4 2 rfl rfl
theorem zx_830 : (Jvm.Cond.selects "DrownedSlates$Lines" ({ cls := "DrownedSlates$Lines", name := "read", desc := "(ILDrownedSlates$Waters;LDrownedSlates$Chalk;)Z" } : Jvm.MethodName) ({ cls := "DrownedSlates$Lines", name := "read", desc := "(ILDrownedSlates$Waters;LDrownedSlates$Chalk;)Z" } : Jvm.MethodName)) ∈ za_wd := zxt_4 3 rfl rfl
theorem zx_831 : (Jvm.Cond.code ({ cls := "DrownedSlates$Lines", name := "read", desc := "(ILDrownedSlates$Waters;LDrownedSlates$Chalk;)Z" } : Jvm.MethodName) prog_9_method_2_code (5 : Nat) (Option.some Jvm.ClassFile.FieldType.boolean)) ∈ za_wd := zxt_4 4 rfl rfl
theorem zx_833 : (Jvm.Cond.methodLink "DrownedSlates$Lines" (48 : Nat) ({ cls := "DrownedSlates$Chalk", name := "clear", desc := "()V" } : Jvm.MethodName)) ∈ za_wd := zxt_4 6 rfl rfl
theorem zx_834 : (Jvm.Cond.instanceMethod ({ cls := "DrownedSlates$Chalk", name := "clear", desc := "()V" } : Jvm.MethodName)) ∈ za_wd := zxt_4 7 rfl rfl
theorem zx_835 : (Jvm.Cond.selects "DrownedSlates$Chalk" ({ cls := "DrownedSlates$Chalk", name := "clear", desc := "()V" } : Jvm.MethodName) ({ cls := "DrownedSlates$Chalk", name := "clear", desc := "()V" } : Jvm.MethodName)) ∈ za_wd := zxt_4 8 rfl rfl
theorem zx_836 : (Jvm.Cond.code ({ cls := "DrownedSlates$Chalk", name := "clear", desc := "()V" } : Jvm.MethodName) prog_2_method_2_code (1 : Nat) (Option.none : Option Jvm.ClassFile.FieldType)) ∈ za_wd := zxt_4 9 rfl rfl
theorem zx_837 : (Jvm.Cond.methodLink "DrownedSlates$Lines" (51 : Nat) ({ cls := "DrownedSlates$Exprs", name := "clear", desc := "()V" } : Jvm.MethodName)) ∈ za_wd := zxt_4 10 rfl rfl
theorem zx_838 : (Jvm.Cond.instanceMethod ({ cls := "DrownedSlates$Exprs", name := "clear", desc := "()V" } : Jvm.MethodName)) ∈ za_wd := zxt_4 11 rfl rfl
theorem zx_839 : (Jvm.Cond.selects "DrownedSlates$Exprs" ({ cls := "DrownedSlates$Exprs", name := "clear", desc := "()V" } : Jvm.MethodName) ({ cls := "DrownedSlates$Exprs", name := "clear", desc := "()V" } : Jvm.MethodName)) ∈ za_wd := zxt_4 12 rfl rfl
theorem zx_840 : (Jvm.Cond.code ({ cls := "DrownedSlates$Exprs", name := "clear", desc := "()V" } : Jvm.MethodName) prog_4_method_2_code (1 : Nat) (Option.none : Option Jvm.ClassFile.FieldType)) ∈ za_wd := zxt_4 13 rfl rfl
theorem zx_841 : (Jvm.Cond.methodLink "DrownedSlates$Lines" (52 : Nat) ({ cls := "DrownedSlates$Tokens", name := "open", desc := "(I)V" } : Jvm.MethodName)) ∈ za_wd := zxt_4 14 rfl rfl
theorem zx_842 : (Jvm.Cond.instanceMethod ({ cls := "DrownedSlates$Tokens", name := "open", desc := "(I)V" } : Jvm.MethodName)) ∈ za_wd := zxt_4 15 rfl rfl
theorem zx_843 : (Jvm.Cond.selects "DrownedSlates$Tokens" ({ cls := "DrownedSlates$Tokens", name := "open", desc := "(I)V" } : Jvm.MethodName) ({ cls := "DrownedSlates$Tokens", name := "open", desc := "(I)V" } : Jvm.MethodName)) ∈ za_wd := zxt_4 16 rfl rfl
theorem zx_844 : (Jvm.Cond.code ({ cls := "DrownedSlates$Tokens", name := "open", desc := "(I)V" } : Jvm.MethodName) prog_11_method_2_code (2 : Nat) (Option.none : Option Jvm.ClassFile.FieldType)) ∈ za_wd := zxt_4 17 rfl rfl
theorem zx_845 : (Jvm.Cond.methodLink "DrownedSlates$Tokens" (31 : Nat) ({ cls := "java/lang/Math", name := "min", desc := "(II)I" } : Jvm.MethodName)) ∈ za_wd := zxt_4 18 rfl rfl
theorem zx_846 : (Jvm.Cond.static ({ cls := "java/lang/Math", name := "min", desc := "(II)I" } : Jvm.MethodName)) ∈ za_wd := zxt_4 19 rfl rfl
theorem zx_847 : (Jvm.Cond.code ({ cls := "java/lang/Math", name := "min", desc := "(II)I" } : Jvm.MethodName) prog_22_method_69_code (2 : Nat) (Option.some Jvm.ClassFile.FieldType.int)) ∈ za_wd := zxt_4 20 rfl rfl
theorem zx_848 : (Jvm.Cond.methodLink "DrownedSlates$Tokens" (37 : Nat) ({ cls := "DrownedSlates$Tokens", name := "advance", desc := "()V" } : Jvm.MethodName)) ∈ za_wd := zxt_4 21 rfl rfl
theorem zx_849 : (Jvm.Cond.instanceMethod ({ cls := "DrownedSlates$Tokens", name := "advance", desc := "()V" } : Jvm.MethodName)) ∈ za_wd := zxt_4 22 rfl rfl
theorem zx_850 : (Jvm.Cond.selects "DrownedSlates$Tokens" ({ cls := "DrownedSlates$Tokens", name := "advance", desc := "()V" } : Jvm.MethodName) ({ cls := "DrownedSlates$Tokens", name := "advance", desc := "()V" } : Jvm.MethodName)) ∈ za_wd := zxt_4 23 rfl rfl
theorem zx_851 : (Jvm.Cond.code ({ cls := "DrownedSlates$Tokens", name := "advance", desc := "()V" } : Jvm.MethodName) prog_11_method_3_code (1 : Nat) (Option.none : Option Jvm.ClassFile.FieldType)) ∈ za_wd := zxt_4 24 rfl rfl
theorem zx_852 : (Jvm.Cond.methodLink "DrownedSlates$Tokens" (40 : Nat) ({ cls := "DrownedSlates$Tokens", name := "isLetter", desc := "(I)Z" } : Jvm.MethodName)) ∈ za_wd := zxt_4 25 rfl rfl
theorem zx_853 : (Jvm.Cond.static ({ cls := "DrownedSlates$Tokens", name := "isLetter", desc := "(I)Z" } : Jvm.MethodName)) ∈ za_wd := zxt_4 26 rfl rfl
theorem zx_854 : (Jvm.Cond.code ({ cls := "DrownedSlates$Tokens", name := "isLetter", desc := "(I)Z" } : Jvm.MethodName) prog_11_method_4_code (1 : Nat) (Option.some Jvm.ClassFile.FieldType.boolean)) ∈ za_wd := zxt_4 27 rfl rfl
theorem zx_855 : (Jvm.Cond.methodLink "DrownedSlates$Tokens" (44 : Nat) ({ cls := "DrownedSlates$Tokens", name := "takeWord", desc := "()V" } : Jvm.MethodName)) ∈ za_wd := zxt_4 28 rfl rfl
theorem zx_857 : (Jvm.Cond.instanceMethod ({ cls := "DrownedSlates$Tokens", name := "takeWord", desc := "()V" } : Jvm.MethodName)) ∈ za_wd := zxt_4 30 rfl rfl
theorem zx_858 : (Jvm.Cond.code ({ cls := "DrownedSlates$Tokens", name := "takeWord", desc := "()V" } : Jvm.MethodName) prog_11_method_6_code (5 : Nat) (Option.none : Option Jvm.ClassFile.FieldType)) ∈ za_wd := zxt_4 31 rfl rfl
theorem zx_908 : (Jvm.Cond.methodLink "DrownedSlates$Tokens" (47 : Nat) ({ cls := "DrownedSlates$Tokens", name := "isDigit", desc := "(I)Z" } : Jvm.MethodName)) ∈ za_wd := zxt_4 81 rfl rfl
theorem zx_909 : (Jvm.Cond.static ({ cls := "DrownedSlates$Tokens", name := "isDigit", desc := "(I)Z" } : Jvm.MethodName)) ∈ za_wd := zxt_4 82 rfl rfl
theorem zx_910 : (Jvm.Cond.code ({ cls := "DrownedSlates$Tokens", name := "isDigit", desc := "(I)Z" } : Jvm.MethodName) prog_11_method_5_code (1 : Nat) (Option.some Jvm.ClassFile.FieldType.boolean)) ∈ za_wd := zxt_4 83 rfl rfl
theorem zx_911 : (Jvm.Cond.methodLink "DrownedSlates$Tokens" (50 : Nat) ({ cls := "DrownedSlates$Tokens", name := "takeNumber", desc := "()V" } : Jvm.MethodName)) ∈ za_wd := zxt_4 84 rfl rfl
theorem zx_913 : (Jvm.Cond.instanceMethod ({ cls := "DrownedSlates$Tokens", name := "takeNumber", desc := "()V" } : Jvm.MethodName)) ∈ za_wd := zxt_4 86 rfl rfl
theorem zx_914 : (Jvm.Cond.code ({ cls := "DrownedSlates$Tokens", name := "takeNumber", desc := "()V" } : Jvm.MethodName) prog_11_method_7_code (2 : Nat) (Option.none : Option Jvm.ClassFile.FieldType)) ∈ za_wd := zxt_4 87 rfl rfl
theorem zx_915 : (Jvm.Cond.constant "DrownedSlates$Tokens" (67 : Nat) (2147483647 : Int32)) ∈ za_wd := zxt_4 88 rfl rfl
theorem zx_916 : (Jvm.Cond.methodLink "DrownedSlates$Tokens" (53 : Nat) ({ cls := "DrownedSlates$Tokens", name := "takeSign", desc := "()V" } : Jvm.MethodName)) ∈ za_wd := zxt_4 89 rfl rfl
theorem zx_918 : (Jvm.Cond.instanceMethod ({ cls := "DrownedSlates$Tokens", name := "takeSign", desc := "()V" } : Jvm.MethodName)) ∈ za_wd := zxt_4 91 rfl rfl
theorem zx_919 : (Jvm.Cond.code ({ cls := "DrownedSlates$Tokens", name := "takeSign", desc := "()V" } : Jvm.MethodName) prog_11_method_8_code (1 : Nat) (Option.none : Option Jvm.ClassFile.FieldType)) ∈ za_wd := zxt_4 92 rfl rfl
theorem zx_920 : (Jvm.Cond.methodLink "DrownedSlates$Lines" (59 : Nat) ({ cls := "DrownedSlates$Lines", name := "readLine", desc := "(ZLDrownedSlates$Waters;LDrownedSlates$Chalk;)Z" } : Jvm.MethodName)) ∈ za_wd := zxt_4 93 rfl rfl
theorem zx_922 : (Jvm.Cond.instanceMethod ({ cls := "DrownedSlates$Lines", name := "readLine", desc := "(ZLDrownedSlates$Waters;LDrownedSlates$Chalk;)Z" } : Jvm.MethodName)) ∈ za_wd := zxt_4 95 rfl rfl
theorem zx_923 : (Jvm.Cond.code ({ cls := "DrownedSlates$Lines", name := "readLine", desc := "(ZLDrownedSlates$Waters;LDrownedSlates$Chalk;)Z" } : Jvm.MethodName) prog_9_method_5_code (4 : Nat) (Option.some Jvm.ClassFile.FieldType.boolean)) ∈ za_wd := zxt_4 96 rfl rfl
theorem zx_924 : (Jvm.Cond.methodLink "DrownedSlates$Lines" (74 : Nat) ({ cls := "DrownedSlates$Lines", name := "refuse", desc := "(I)Z" } : Jvm.MethodName)) ∈ za_wd := zxt_4 97 rfl rfl
theorem zx_926 : (Jvm.Cond.instanceMethod ({ cls := "DrownedSlates$Lines", name := "refuse", desc := "(I)Z" } : Jvm.MethodName)) ∈ za_wd := zxt_4 99 rfl rfl
theorem zx_927 : (Jvm.Cond.code ({ cls := "DrownedSlates$Lines", name := "refuse", desc := "(I)Z" } : Jvm.MethodName) prog_9_method_3_code (2 : Nat) (Option.some Jvm.ClassFile.FieldType.boolean)) ∈ za_wd := zxt_4 100 rfl rfl
theorem zx_928 : (Jvm.Cond.methodLink "DrownedSlates$Lines" (83 : Nat) ({ cls := "DrownedSlates$Lines", name := "readHead", desc := "(Z)Z" } : Jvm.MethodName)) ∈ za_wd := zxt_4 101 rfl rfl
theorem zx_930 : (Jvm.Cond.instanceMethod ({ cls := "DrownedSlates$Lines", name := "readHead", desc := "(Z)Z" } : Jvm.MethodName)) ∈ za_wd := zxt_4 103 rfl rfl
theorem zx_931 : (Jvm.Cond.code ({ cls := "DrownedSlates$Lines", name := "readHead", desc := "(Z)Z" } : Jvm.MethodName) prog_9_method_6_code (2 : Nat) (Option.some Jvm.ClassFile.FieldType.boolean)) ∈ za_wd := zxt_4 104 rfl rfl
theorem zx_932 : (Jvm.Cond.methodLink "DrownedSlates$Lines" (77 : Nat) ({ cls := "DrownedSlates$Tokens", name := "advance", desc := "()V" } : Jvm.MethodName)) ∈ za_wd := zxt_4 105 rfl rfl
theorem zx_933 : (Jvm.Cond.methodLink "DrownedSlates$Lines" (87 : Nat) ({ cls := "DrownedSlates$Lines", name := "readSize", desc := "(LDrownedSlates$Waters;)Z" } : Jvm.MethodName)) ∈ za_wd := zxt_4 106 rfl rfl
theorem zx_935 : (Jvm.Cond.instanceMethod ({ cls := "DrownedSlates$Lines", name := "readSize", desc := "(LDrownedSlates$Waters;)Z" } : Jvm.MethodName)) ∈ za_wd := zxt_4 108 rfl rfl
theorem zx_936 : (Jvm.Cond.code ({ cls := "DrownedSlates$Lines", name := "readSize", desc := "(LDrownedSlates$Waters;)Z" } : Jvm.MethodName) prog_9_method_12_code (4 : Nat) (Option.some Jvm.ClassFile.FieldType.boolean)) ∈ za_wd := zxt_4 109 rfl rfl
theorem zx_937 : (Jvm.Cond.methodLink "DrownedSlates$Lines" (158 : Nat) ({ cls := "DrownedSlates$Lines", name := "readNumber", desc := "(II)I" } : Jvm.MethodName)) ∈ za_wd := zxt_4 110 rfl rfl
theorem zx_939 : (Jvm.Cond.instanceMethod ({ cls := "DrownedSlates$Lines", name := "readNumber", desc := "(II)I" } : Jvm.MethodName)) ∈ za_wd := zxt_4 112 rfl rfl
theorem zx_940 : (Jvm.Cond.code ({ cls := "DrownedSlates$Lines", name := "readNumber", desc := "(II)I" } : Jvm.MethodName) prog_9_method_9_code (4 : Nat) (Option.some Jvm.ClassFile.FieldType.int)) ∈ za_wd := zxt_4 113 rfl rfl
theorem zx_941 : (Jvm.Cond.methodLink "DrownedSlates$Lines" (141 : Nat) ({ cls := "DrownedSlates$Lines", name := "lookAtNumber", desc := "(II)I" } : Jvm.MethodName)) ∈ za_wd := zxt_4 114 rfl rfl
theorem zx_943 : (Jvm.Cond.instanceMethod ({ cls := "DrownedSlates$Lines", name := "lookAtNumber", desc := "(II)I" } : Jvm.MethodName)) ∈ za_wd := zxt_4 116 rfl rfl
theorem zx_944 : (Jvm.Cond.code ({ cls := "DrownedSlates$Lines", name := "lookAtNumber", desc := "(II)I" } : Jvm.MethodName) prog_9_method_8_code (3 : Nat) (Option.some Jvm.ClassFile.FieldType.int)) ∈ za_wd := zxt_4 117 rfl rfl
theorem zx_946 : (Jvm.Cond.methodLink "DrownedSlates$Lines" (95 : Nat) ({ cls := "java/lang/Long", name := "bitCount", desc := "(J)I" } : Jvm.MethodName)) ∈ za_wd := zxt_4 119 rfl rfl
theorem zx_947 : (Jvm.Cond.static ({ cls := "java/lang/Long", name := "bitCount", desc := "(J)I" } : Jvm.MethodName)) ∈ za_wd := zxt_4 120 rfl rfl
theorem zx_948 : (Jvm.Cond.code ({ cls := "java/lang/Long", name := "bitCount", desc := "(J)I" } : Jvm.MethodName) prog_21_method_50_code (2 : Nat) (Option.some Jvm.ClassFile.FieldType.int)) ∈ za_wd := zxt_4 121 rfl rfl
theorem zx_949 : (Jvm.Cond.constantLong "java/lang/Long" (314 : Nat) (6148914691236517205 : Int64)) ∈ za_wd := zxt_4 122 rfl rfl
theorem zx_950 : (Jvm.Cond.constantLong "java/lang/Long" (316 : Nat) (3689348814741910323 : Int64)) ∈ za_wd := zxt_4 123 rfl rfl
theorem zx_951 : (Jvm.Cond.constantLong "java/lang/Long" (318 : Nat) (1085102592571150095 : Int64)) ∈ za_wd := zxt_4 124 rfl rfl
theorem zx_952 : (Jvm.Cond.methodLink "DrownedSlates$Lines" (101 : Nat) ({ cls := "DrownedSlates$Lines", name := "readHead", desc := "(II)Z" } : Jvm.MethodName)) ∈ za_wd := zxt_4 125 rfl rfl
theorem zx_954 : (Jvm.Cond.instanceMethod ({ cls := "DrownedSlates$Lines", name := "readHead", desc := "(II)Z" } : Jvm.MethodName)) ∈ za_wd := zxt_4 127 rfl rfl
theorem zx_955 : (Jvm.Cond.code ({ cls := "DrownedSlates$Lines", name := "readHead", desc := "(II)Z" } : Jvm.MethodName) prog_9_method_7_code (3 : Nat) (Option.some Jvm.ClassFile.FieldType.boolean)) ∈ za_wd := zxt_4 128 rfl rfl
theorem zx_956 : (Jvm.Cond.methodLink "DrownedSlates$Lines" (104 : Nat) ({ cls := "DrownedSlates$Lines", name := "readRock", desc := "(LDrownedSlates$Waters;)Z" } : Jvm.MethodName)) ∈ za_wd := zxt_4 129 rfl rfl
theorem zx_958 : (Jvm.Cond.instanceMethod ({ cls := "DrownedSlates$Lines", name := "readRock", desc := "(LDrownedSlates$Waters;)Z" } : Jvm.MethodName)) ∈ za_wd := zxt_4 131 rfl rfl
theorem zx_959 : (Jvm.Cond.code ({ cls := "DrownedSlates$Lines", name := "readRock", desc := "(LDrownedSlates$Waters;)Z" } : Jvm.MethodName) prog_9_method_13_code (3 : Nat) (Option.some Jvm.ClassFile.FieldType.boolean)) ∈ za_wd := zxt_4 132 rfl rfl
theorem zx_960 : (Jvm.Cond.methodLink "DrownedSlates$Lines" (165 : Nat) ({ cls := "DrownedSlates$Lines", name := "readCell", desc := "(LDrownedSlates$Waters;J)I" } : Jvm.MethodName)) ∈ za_wd := zxt_4 133 rfl rfl
theorem zx_962 : (Jvm.Cond.instanceMethod ({ cls := "DrownedSlates$Lines", name := "readCell", desc := "(LDrownedSlates$Waters;J)I" } : Jvm.MethodName)) ∈ za_wd := zxt_4 135 rfl rfl
theorem zx_963 : (Jvm.Cond.code ({ cls := "DrownedSlates$Lines", name := "readCell", desc := "(LDrownedSlates$Waters;J)I" } : Jvm.MethodName) prog_9_method_11_code (7 : Nat) (Option.some Jvm.ClassFile.FieldType.int)) ∈ za_wd := zxt_4 136 rfl rfl
theorem zx_965 : (Jvm.Cond.methodLink "DrownedSlates$Lines" (107 : Nat) ({ cls := "DrownedSlates$Lines", name := "readCurrent", desc := "(LDrownedSlates$Waters;)Z" } : Jvm.MethodName)) ∈ za_wd := zxt_4 138 rfl rfl
theorem zx_967 : (Jvm.Cond.instanceMethod ({ cls := "DrownedSlates$Lines", name := "readCurrent", desc := "(LDrownedSlates$Waters;)Z" } : Jvm.MethodName)) ∈ za_wd := zxt_4 140 rfl rfl
theorem zx_968 : (Jvm.Cond.code ({ cls := "DrownedSlates$Lines", name := "readCurrent", desc := "(LDrownedSlates$Waters;)Z" } : Jvm.MethodName) prog_9_method_14_code (4 : Nat) (Option.some Jvm.ClassFile.FieldType.boolean)) ∈ za_wd := zxt_4 141 rfl rfl
theorem zx_969 : (Jvm.Cond.methodLink "DrownedSlates$Lines" (169 : Nat) ({ cls := "DrownedSlates$Waters", name := "allCurrents", desc := "()J" } : Jvm.MethodName)) ∈ za_wd := zxt_4 142 rfl rfl
theorem zx_970 : (Jvm.Cond.instanceMethod ({ cls := "DrownedSlates$Waters", name := "allCurrents", desc := "()J" } : Jvm.MethodName)) ∈ za_wd := zxt_4 143 rfl rfl
theorem zx_971 : (Jvm.Cond.selects "DrownedSlates$Waters" ({ cls := "DrownedSlates$Waters", name := "allCurrents", desc := "()J" } : Jvm.MethodName) ({ cls := "DrownedSlates$Waters", name := "allCurrents", desc := "()J" } : Jvm.MethodName)) ∈ za_wd := zxt_4 144 rfl rfl
theorem zx_972 : (Jvm.Cond.code ({ cls := "DrownedSlates$Waters", name := "allCurrents", desc := "()J" } : Jvm.MethodName) prog_12_method_9_code (1 : Nat) (Option.some Jvm.ClassFile.FieldType.long)) ∈ za_wd := zxt_4 145 rfl rfl
theorem zx_973 : (Jvm.Cond.methodLink "DrownedSlates$Lines" (173 : Nat) ({ cls := "DrownedSlates$Lines", name := "readWay", desc := "()I" } : Jvm.MethodName)) ∈ za_wd := zxt_4 146 rfl rfl
theorem zx_975 : (Jvm.Cond.instanceMethod ({ cls := "DrownedSlates$Lines", name := "readWay", desc := "()I" } : Jvm.MethodName)) ∈ za_wd := zxt_4 148 rfl rfl
theorem zx_976 : (Jvm.Cond.code ({ cls := "DrownedSlates$Lines", name := "readWay", desc := "()I" } : Jvm.MethodName) prog_9_method_10_code (2 : Nat) (Option.some Jvm.ClassFile.FieldType.int)) ∈ za_wd := zxt_4 149 rfl rfl
theorem zx_977 : (Jvm.Cond.methodLink "DrownedSlates$Lines" (145 : Nat) ({ cls := "DrownedSlates$Tokens", name := "isWay", desc := "()Z" } : Jvm.MethodName)) ∈ za_wd := zxt_4 150 rfl rfl
theorem zx_978 : (Jvm.Cond.instanceMethod ({ cls := "DrownedSlates$Tokens", name := "isWay", desc := "()Z" } : Jvm.MethodName)) ∈ za_wd := zxt_4 151 rfl rfl
theorem zx_979 : (Jvm.Cond.selects "DrownedSlates$Tokens" ({ cls := "DrownedSlates$Tokens", name := "isWay", desc := "()Z" } : Jvm.MethodName) ({ cls := "DrownedSlates$Tokens", name := "isWay", desc := "()Z" } : Jvm.MethodName)) ∈ za_wd := zxt_4 152 rfl rfl
theorem zx_980 : (Jvm.Cond.code ({ cls := "DrownedSlates$Tokens", name := "isWay", desc := "()Z" } : Jvm.MethodName) prog_11_method_10_code (1 : Nat) (Option.some Jvm.ClassFile.FieldType.boolean)) ∈ za_wd := zxt_4 153 rfl rfl
theorem zx_981 : (Jvm.Cond.methodLink "DrownedSlates$Lines" (177 : Nat) ({ cls := "DrownedSlates$Waters", name := "addCurrent", desc := "(II)V" } : Jvm.MethodName)) ∈ za_wd := zxt_4 154 rfl rfl
theorem zx_982 : (Jvm.Cond.instanceMethod ({ cls := "DrownedSlates$Waters", name := "addCurrent", desc := "(II)V" } : Jvm.MethodName)) ∈ za_wd := zxt_4 155 rfl rfl
theorem zx_983 : (Jvm.Cond.selects "DrownedSlates$Waters" ({ cls := "DrownedSlates$Waters", name := "addCurrent", desc := "(II)V" } : Jvm.MethodName) ({ cls := "DrownedSlates$Waters", name := "addCurrent", desc := "(II)V" } : Jvm.MethodName)) ∈ za_wd := zxt_4 156 rfl rfl
theorem zx_984 : (Jvm.Cond.code ({ cls := "DrownedSlates$Waters", name := "addCurrent", desc := "(II)V" } : Jvm.MethodName) prog_12_method_8_code (3 : Nat) (Option.none : Option Jvm.ClassFile.FieldType)) ∈ za_wd := zxt_4 157 rfl rfl
theorem zx_985 : (Jvm.Cond.methodLink "DrownedSlates$Lines" (113 : Nat) ({ cls := "DrownedSlates$Lines", name := "readSlate", desc := "(LDrownedSlates$Waters;LDrownedSlates$Chalk;)Z" } : Jvm.MethodName)) ∈ za_wd := zxt_4 158 rfl rfl
theorem zx_987 : (Jvm.Cond.instanceMethod ({ cls := "DrownedSlates$Lines", name := "readSlate", desc := "(LDrownedSlates$Waters;LDrownedSlates$Chalk;)Z" } : Jvm.MethodName)) ∈ za_wd := zxt_4 160 rfl rfl
theorem zx_988 : (Jvm.Cond.code ({ cls := "DrownedSlates$Lines", name := "readSlate", desc := "(LDrownedSlates$Waters;LDrownedSlates$Chalk;)Z" } : Jvm.MethodName) prog_9_method_15_code (9 : Nat) (Option.some Jvm.ClassFile.FieldType.boolean)) ∈ za_wd := zxt_4 161 rfl rfl
theorem zx_989 : (Jvm.Cond.methodLink "DrownedSlates$Lines" (180 : Nat) ({ cls := "DrownedSlates$Chalk", name := "addSlate", desc := "(II)V" } : Jvm.MethodName)) ∈ za_wd := zxt_4 162 rfl rfl
theorem zx_990 : (Jvm.Cond.instanceMethod ({ cls := "DrownedSlates$Chalk", name := "addSlate", desc := "(II)V" } : Jvm.MethodName)) ∈ za_wd := zxt_4 163 rfl rfl
theorem zx_991 : (Jvm.Cond.selects "DrownedSlates$Chalk" ({ cls := "DrownedSlates$Chalk", name := "addSlate", desc := "(II)V" } : Jvm.MethodName) ({ cls := "DrownedSlates$Chalk", name := "addSlate", desc := "(II)V" } : Jvm.MethodName)) ∈ za_wd := zxt_4 164 rfl rfl
theorem zx_992 : (Jvm.Cond.code ({ cls := "DrownedSlates$Chalk", name := "addSlate", desc := "(II)V" } : Jvm.MethodName) prog_2_method_3_code (3 : Nat) (Option.none : Option Jvm.ClassFile.FieldType)) ∈ za_wd := zxt_4 165 rfl rfl
theorem zx_993 : (Jvm.Cond.methodLink "DrownedSlates$Lines" (183 : Nat) ({ cls := "DrownedSlates$Chalk", name := "putMark", desc := "(III)V" } : Jvm.MethodName)) ∈ za_wd := zxt_4 166 rfl rfl
theorem zx_994 : (Jvm.Cond.instanceMethod ({ cls := "DrownedSlates$Chalk", name := "putMark", desc := "(III)V" } : Jvm.MethodName)) ∈ za_wd := zxt_4 167 rfl rfl
theorem zx_995 : (Jvm.Cond.selects "DrownedSlates$Chalk" ({ cls := "DrownedSlates$Chalk", name := "putMark", desc := "(III)V" } : Jvm.MethodName) ({ cls := "DrownedSlates$Chalk", name := "putMark", desc := "(III)V" } : Jvm.MethodName)) ∈ za_wd := zxt_4 168 rfl rfl
theorem zx_996 : (Jvm.Cond.code ({ cls := "DrownedSlates$Chalk", name := "putMark", desc := "(III)V" } : Jvm.MethodName) prog_2_method_4_code (4 : Nat) (Option.none : Option Jvm.ClassFile.FieldType)) ∈ za_wd := zxt_4 169 rfl rfl
theorem zx_997 : (Jvm.Cond.methodLink "DrownedSlates$Lines" (120 : Nat) ({ cls := "DrownedSlates$Lines", name := "readHand", desc := "(LDrownedSlates$Waters;)Z" } : Jvm.MethodName)) ∈ za_wd := zxt_4 170 rfl rfl
theorem zx_999 : (Jvm.Cond.instanceMethod ({ cls := "DrownedSlates$Lines", name := "readHand", desc := "(LDrownedSlates$Waters;)Z" } : Jvm.MethodName)) ∈ za_wd := zxt_4 172 rfl rfl
theorem zx_1000 : (Jvm.Cond.code ({ cls := "DrownedSlates$Lines", name := "readHand", desc := "(LDrownedSlates$Waters;)Z" } : Jvm.MethodName) prog_9_method_16_code (6 : Nat) (Option.some Jvm.ClassFile.FieldType.boolean)) ∈ za_wd := zxt_4 173 rfl rfl
theorem zx_1001 : (Jvm.Cond.methodLink "DrownedSlates$Lines" (123 : Nat) ({ cls := "DrownedSlates$Lines", name := "readSchool", desc := "(LDrownedSlates$Waters;)Z" } : Jvm.MethodName)) ∈ za_wd := zxt_4 174 rfl rfl
theorem zx_1003 : (Jvm.Cond.instanceMethod ({ cls := "DrownedSlates$Lines", name := "readSchool", desc := "(LDrownedSlates$Waters;)Z" } : Jvm.MethodName)) ∈ za_wd := zxt_4 176 rfl rfl
theorem zx_1004 : (Jvm.Cond.code ({ cls := "DrownedSlates$Lines", name := "readSchool", desc := "(LDrownedSlates$Waters;)Z" } : Jvm.MethodName) prog_9_method_17_code (4 : Nat) (Option.some Jvm.ClassFile.FieldType.boolean)) ∈ za_wd := zxt_4 177 rfl rfl
theorem zx_1005 : (Jvm.Cond.methodLink "DrownedSlates$Lines" (126 : Nat) ({ cls := "DrownedSlates$Lines", name := "readGoal", desc := "(LDrownedSlates$Waters;)Z" } : Jvm.MethodName)) ∈ za_wd := zxt_4 178 rfl rfl
theorem zx_1007 : (Jvm.Cond.instanceMethod ({ cls := "DrownedSlates$Lines", name := "readGoal", desc := "(LDrownedSlates$Waters;)Z" } : Jvm.MethodName)) ∈ za_wd := zxt_4 180 rfl rfl
theorem zx_1008 : (Jvm.Cond.code ({ cls := "DrownedSlates$Lines", name := "readGoal", desc := "(LDrownedSlates$Waters;)Z" } : Jvm.MethodName) prog_9_method_18_code (3 : Nat) (Option.some Jvm.ClassFile.FieldType.boolean)) ∈ za_wd := zxt_4 181 rfl rfl
theorem zx_1009 : (Jvm.Cond.methodLink "DrownedSlates$Lines" (132 : Nat) ({ cls := "DrownedSlates$Lines", name := "readPilot", desc := "(LDrownedSlates$Waters;LDrownedSlates$Chalk;)Z" } : Jvm.MethodName)) ∈ za_wd := zxt_4 182 rfl rfl
theorem zx_1011 : (Jvm.Cond.instanceMethod ({ cls := "DrownedSlates$Lines", name := "readPilot", desc := "(LDrownedSlates$Waters;LDrownedSlates$Chalk;)Z" } : Jvm.MethodName)) ∈ za_wd := zxt_4 184 rfl rfl
theorem zx_1012 : (Jvm.Cond.code ({ cls := "DrownedSlates$Lines", name := "readPilot", desc := "(LDrownedSlates$Waters;LDrownedSlates$Chalk;)Z" } : Jvm.MethodName) prog_9_method_19_code (8 : Nat) (Option.some Jvm.ClassFile.FieldType.boolean)) ∈ za_wd := zxt_4 185 rfl rfl
theorem zx_1013 : (Jvm.Cond.methodLink "DrownedSlates$Lines" (200 : Nat) ({ cls := "DrownedSlates$Lines", name := "readRead", desc := "(LDrownedSlates$Chalk;I)I" } : Jvm.MethodName)) ∈ za_wd := zxt_4 186 rfl rfl
theorem zx_1015 : (Jvm.Cond.instanceMethod ({ cls := "DrownedSlates$Lines", name := "readRead", desc := "(LDrownedSlates$Chalk;I)I" } : Jvm.MethodName)) ∈ za_wd := zxt_4 188 rfl rfl
theorem zx_1016 : (Jvm.Cond.code ({ cls := "DrownedSlates$Lines", name := "readRead", desc := "(LDrownedSlates$Chalk;I)I" } : Jvm.MethodName) prog_9_method_20_code (4 : Nat) (Option.some Jvm.ClassFile.FieldType.int)) ∈ za_wd := zxt_4 189 rfl rfl
theorem zx_1017 : (Jvm.Cond.methodLink "DrownedSlates$Lines" (138 : Nat) ({ cls := "DrownedSlates$Lines", name := "readRule", desc := "(LDrownedSlates$Waters;)Z" } : Jvm.MethodName)) ∈ za_wd := zxt_4 190 rfl rfl
theorem zx_1019 : (Jvm.Cond.instanceMethod ({ cls := "DrownedSlates$Lines", name := "readRule", desc := "(LDrownedSlates$Waters;)Z" } : Jvm.MethodName)) ∈ za_wd := zxt_4 192 rfl rfl
theorem zx_1020 : (Jvm.Cond.code ({ cls := "DrownedSlates$Lines", name := "readRule", desc := "(LDrownedSlates$Waters;)Z" } : Jvm.MethodName) prog_9_method_21_code (3 : Nat) (Option.some Jvm.ClassFile.FieldType.boolean)) ∈ za_wd := zxt_4 193 rfl rfl
theorem zx_1023 : (Jvm.Cond.instanceMethod ({ cls := "DrownedSlates$Exprs", name := "readExpr", desc := "(LDrownedSlates$Waters;I)Z" } : Jvm.MethodName)) ∈ za_wd := zxt_4 196 rfl rfl
theorem zx_1024 : (Jvm.Cond.code ({ cls := "DrownedSlates$Exprs", name := "readExpr", desc := "(LDrownedSlates$Waters;I)Z" } : Jvm.MethodName) prog_4_method_6_code (4 : Nat) (Option.some Jvm.ClassFile.FieldType.boolean)) ∈ za_wd := zxt_4 197 rfl rfl
theorem zx_1025 : (Jvm.Cond.methodLink "DrownedSlates$Exprs" (37 : Nat) ({ cls := "DrownedSlates$Tokens", name := "isSign", desc := "(I)Z" } : Jvm.MethodName)) ∈ za_wd := zxt_4 198 rfl rfl
theorem zx_1026 : (Jvm.Cond.instanceMethod ({ cls := "DrownedSlates$Tokens", name := "isSign", desc := "(I)Z" } : Jvm.MethodName)) ∈ za_wd := zxt_4 199 rfl rfl
theorem zx_1027 : (Jvm.Cond.selects "DrownedSlates$Tokens" ({ cls := "DrownedSlates$Tokens", name := "isSign", desc := "(I)Z" } : Jvm.MethodName) ({ cls := "DrownedSlates$Tokens", name := "isSign", desc := "(I)Z" } : Jvm.MethodName)) ∈ za_wd := zxt_4 200 rfl rfl
theorem zx_1028 : (Jvm.Cond.code ({ cls := "DrownedSlates$Tokens", name := "isSign", desc := "(I)Z" } : Jvm.MethodName) prog_11_method_11_code (2 : Nat) (Option.some Jvm.ClassFile.FieldType.boolean)) ∈ za_wd := zxt_4 201 rfl rfl
theorem zx_1029 : (Jvm.Cond.methodLink "DrownedSlates$Exprs" (41 : Nat) ({ cls := "DrownedSlates$Exprs", name := "refuse", desc := "(I)Z" } : Jvm.MethodName)) ∈ za_wd := zxt_4 202 rfl rfl
theorem zx_1031 : (Jvm.Cond.instanceMethod ({ cls := "DrownedSlates$Exprs", name := "refuse", desc := "(I)Z" } : Jvm.MethodName)) ∈ za_wd := zxt_4 204 rfl rfl
theorem zx_1032 : (Jvm.Cond.code ({ cls := "DrownedSlates$Exprs", name := "refuse", desc := "(I)Z" } : Jvm.MethodName) prog_4_method_3_code (2 : Nat) (Option.some Jvm.ClassFile.FieldType.boolean)) ∈ za_wd := zxt_4 205 rfl rfl
theorem zx_1033 : (Jvm.Cond.methodLink "DrownedSlates$Exprs" (44 : Nat) ({ cls := "DrownedSlates$Exprs", name := "readAnd", desc := "(LDrownedSlates$Waters;I)Z" } : Jvm.MethodName)) ∈ za_wd := zxt_4 206 rfl rfl
theorem zx_1035 : (Jvm.Cond.instanceMethod ({ cls := "DrownedSlates$Exprs", name := "readAnd", desc := "(LDrownedSlates$Waters;I)Z" } : Jvm.MethodName)) ∈ za_wd := zxt_4 208 rfl rfl
theorem zx_1036 : (Jvm.Cond.code ({ cls := "DrownedSlates$Exprs", name := "readAnd", desc := "(LDrownedSlates$Waters;I)Z" } : Jvm.MethodName) prog_4_method_7_code (4 : Nat) (Option.some Jvm.ClassFile.FieldType.boolean)) ∈ za_wd := zxt_4 209 rfl rfl
theorem zx_1037 : (Jvm.Cond.methodLink "DrownedSlates$Exprs" (57 : Nat) ({ cls := "DrownedSlates$Exprs", name := "readNot", desc := "(LDrownedSlates$Waters;I)Z" } : Jvm.MethodName)) ∈ za_wd := zxt_4 210 rfl rfl
theorem zx_1039 : (Jvm.Cond.instanceMethod ({ cls := "DrownedSlates$Exprs", name := "readNot", desc := "(LDrownedSlates$Waters;I)Z" } : Jvm.MethodName)) ∈ za_wd := zxt_4 212 rfl rfl
theorem zx_1040 : (Jvm.Cond.code ({ cls := "DrownedSlates$Exprs", name := "readNot", desc := "(LDrownedSlates$Waters;I)Z" } : Jvm.MethodName) prog_4_method_8_code (5 : Nat) (Option.some Jvm.ClassFile.FieldType.boolean)) ∈ za_wd := zxt_4 213 rfl rfl
theorem zx_1041 : (Jvm.Cond.methodLink "DrownedSlates$Exprs" (48 : Nat) ({ cls := "DrownedSlates$Tokens", name := "isWord", desc := "(I)Z" } : Jvm.MethodName)) ∈ za_wd := zxt_4 214 rfl rfl
theorem zx_1042 : (Jvm.Cond.instanceMethod ({ cls := "DrownedSlates$Tokens", name := "isWord", desc := "(I)Z" } : Jvm.MethodName)) ∈ za_wd := zxt_4 215 rfl rfl
theorem zx_1043 : (Jvm.Cond.selects "DrownedSlates$Tokens" ({ cls := "DrownedSlates$Tokens", name := "isWord", desc := "(I)Z" } : Jvm.MethodName) ({ cls := "DrownedSlates$Tokens", name := "isWord", desc := "(I)Z" } : Jvm.MethodName)) ∈ za_wd := zxt_4 216 rfl rfl
theorem zx_1044 : (Jvm.Cond.code ({ cls := "DrownedSlates$Tokens", name := "isWord", desc := "(I)Z" } : Jvm.MethodName) prog_11_method_9_code (2 : Nat) (Option.some Jvm.ClassFile.FieldType.boolean)) ∈ za_wd := zxt_4 217 rfl rfl
theorem zx_1045 : (Jvm.Cond.methodLink "DrownedSlates$Exprs" (51 : Nat) ({ cls := "DrownedSlates$Tokens", name := "advance", desc := "()V" } : Jvm.MethodName)) ∈ za_wd := zxt_4 218 rfl rfl
theorem zx_1046 : (Jvm.Cond.methodLink "DrownedSlates$Exprs" (60 : Nat) ({ cls := "DrownedSlates$Exprs", name := "readTest", desc := "(LDrownedSlates$Waters;I)Z" } : Jvm.MethodName)) ∈ za_wd := zxt_4 219 rfl rfl
theorem zx_1048 : (Jvm.Cond.instanceMethod ({ cls := "DrownedSlates$Exprs", name := "readTest", desc := "(LDrownedSlates$Waters;I)Z" } : Jvm.MethodName)) ∈ za_wd := zxt_4 221 rfl rfl
theorem zx_1049 : (Jvm.Cond.code ({ cls := "DrownedSlates$Exprs", name := "readTest", desc := "(LDrownedSlates$Waters;I)Z" } : Jvm.MethodName) prog_4_method_9_code (4 : Nat) (Option.some Jvm.ClassFile.FieldType.boolean)) ∈ za_wd := zxt_4 222 rfl rfl
theorem zx_1050 : (Jvm.Cond.methodLink "DrownedSlates$Exprs" (63 : Nat) ({ cls := "DrownedSlates$Exprs", name := "readSum", desc := "(LDrownedSlates$Waters;I)Z" } : Jvm.MethodName)) ∈ za_wd := zxt_4 223 rfl rfl
theorem zx_1052 : (Jvm.Cond.instanceMethod ({ cls := "DrownedSlates$Exprs", name := "readSum", desc := "(LDrownedSlates$Waters;I)Z" } : Jvm.MethodName)) ∈ za_wd := zxt_4 225 rfl rfl
theorem zx_1053 : (Jvm.Cond.code ({ cls := "DrownedSlates$Exprs", name := "readSum", desc := "(LDrownedSlates$Waters;I)Z" } : Jvm.MethodName) prog_4_method_10_code (5 : Nat) (Option.some Jvm.ClassFile.FieldType.boolean)) ∈ za_wd := zxt_4 226 rfl rfl
theorem zx_1054 : (Jvm.Cond.methodLink "DrownedSlates$Exprs" (69 : Nat) ({ cls := "DrownedSlates$Exprs", name := "readProduct", desc := "(LDrownedSlates$Waters;I)Z" } : Jvm.MethodName)) ∈ za_wd := zxt_4 227 rfl rfl
theorem zx_1056 : (Jvm.Cond.instanceMethod ({ cls := "DrownedSlates$Exprs", name := "readProduct", desc := "(LDrownedSlates$Waters;I)Z" } : Jvm.MethodName)) ∈ za_wd := zxt_4 229 rfl rfl
theorem zx_1057 : (Jvm.Cond.code ({ cls := "DrownedSlates$Exprs", name := "readProduct", desc := "(LDrownedSlates$Waters;I)Z" } : Jvm.MethodName) prog_4_method_11_code (5 : Nat) (Option.some Jvm.ClassFile.FieldType.boolean)) ∈ za_wd := zxt_4 230 rfl rfl
theorem zx_1058 : (Jvm.Cond.methodLink "DrownedSlates$Exprs" (72 : Nat) ({ cls := "DrownedSlates$Exprs", name := "readPart", desc := "(LDrownedSlates$Waters;I)Z" } : Jvm.MethodName)) ∈ za_wd := zxt_4 231 rfl rfl
theorem zx_1060 : (Jvm.Cond.instanceMethod ({ cls := "DrownedSlates$Exprs", name := "readPart", desc := "(LDrownedSlates$Waters;I)Z" } : Jvm.MethodName)) ∈ za_wd := zxt_4 233 rfl rfl
theorem zx_1061 : (Jvm.Cond.code ({ cls := "DrownedSlates$Exprs", name := "readPart", desc := "(LDrownedSlates$Waters;I)Z" } : Jvm.MethodName) prog_4_method_12_code (3 : Nat) (Option.some Jvm.ClassFile.FieldType.boolean)) ∈ za_wd := zxt_4 234 rfl rfl
theorem zx_1062 : (Jvm.Cond.methodLink "DrownedSlates$Exprs" (75 : Nat) ({ cls := "DrownedSlates$Exprs", name := "readExpr", desc := "(LDrownedSlates$Waters;I)Z" } : Jvm.MethodName)) ∈ za_wd := zxt_4 235 rfl rfl
theorem zx_1063 : (Jvm.Cond.methodLink "DrownedSlates$Exprs" (28 : Nat) ({ cls := "DrownedSlates$Exprs", name := "put", desc := "(LDrownedSlates$Waters;I)V" } : Jvm.MethodName)) ∈ za_wd := zxt_4 236 rfl rfl
theorem zx_1065 : (Jvm.Cond.instanceMethod ({ cls := "DrownedSlates$Exprs", name := "put", desc := "(LDrownedSlates$Waters;I)V" } : Jvm.MethodName)) ∈ za_wd := zxt_4 238 rfl rfl
theorem zx_1066 : (Jvm.Cond.code ({ cls := "DrownedSlates$Exprs", name := "put", desc := "(LDrownedSlates$Waters;I)V" } : Jvm.MethodName) prog_4_method_4_code (3 : Nat) (Option.none : Option Jvm.ClassFile.FieldType)) ∈ za_wd := zxt_4 239 rfl rfl
theorem zx_1067 : (Jvm.Cond.methodLink "DrownedSlates$Exprs" (54 : Nat) ({ cls := "DrownedSlates$Exprs", name := "putDone", desc := "(LDrownedSlates$Waters;I)V" } : Jvm.MethodName)) ∈ za_wd := zxt_5 0 rfl rfl
theorem zx_1069 : (Jvm.Cond.instanceMethod ({ cls := "DrownedSlates$Exprs", name := "putDone", desc := "(LDrownedSlates$Waters;I)V" } : Jvm.MethodName)) ∈ za_wd := zxt_5 2 rfl rfl
theorem zx_1070 : (Jvm.Cond.code ({ cls := "DrownedSlates$Exprs", name := "putDone", desc := "(LDrownedSlates$Waters;I)V" } : Jvm.MethodName) prog_4_method_5_code (3 : Nat) (Option.none : Option Jvm.ClassFile.FieldType)) ∈ za_wd := zxt_5 3 rfl rfl
theorem zx_1071 : (Jvm.Cond.methodLink "DrownedSlates$Lines" (218 : Nat) ({ cls := "DrownedSlates$Tokens", name := "isWord", desc := "(I)Z" } : Jvm.MethodName)) ∈ za_wd := zxt_5 4 rfl rfl
theorem zx_1072 : (Jvm.Cond.methodLink "DrownedSlates$Lines" (63 : Nat) ({ cls := "DrownedSlates$Lines", name := "readEnd", desc := "()Z" } : Jvm.MethodName)) ∈ za_wd := zxt_5 5 rfl rfl
theorem zx_1074 : (Jvm.Cond.instanceMethod ({ cls := "DrownedSlates$Lines", name := "readEnd", desc := "()Z" } : Jvm.MethodName)) ∈ za_wd := zxt_5 7 rfl rfl
theorem zx_1075 : (Jvm.Cond.code ({ cls := "DrownedSlates$Lines", name := "readEnd", desc := "()Z" } : Jvm.MethodName) prog_9_method_4_code (1 : Nat) (Option.some Jvm.ClassFile.FieldType.boolean)) ∈ za_wd := zxt_5 8 rfl rfl
theorem zx_1076 : (Jvm.Cond.methodLink "DrownedSlates$Lines" (70 : Nat) ({ cls := "DrownedSlates$Tokens", name := "isSign", desc := "(I)Z" } : Jvm.MethodName)) ∈ za_wd := zxt_5 9 rfl rfl
theorem zx_1077 : (Jvm.Cond.methodLink "DrownedSlates" (125 : Nat) ({ cls := "DrownedSlates", name := "takeNext", desc := "()V" } : Jvm.MethodName)) ∈ za_wd := zxt_5 10 rfl rfl
theorem zx_1079 : (Jvm.Cond.instanceMethod ({ cls := "DrownedSlates", name := "takeNext", desc := "()V" } : Jvm.MethodName)) ∈ za_wd := zxt_5 12 rfl rfl
theorem zx_1080 : (Jvm.Cond.code ({ cls := "DrownedSlates", name := "takeNext", desc := "()V" } : Jvm.MethodName) prog_1_method_5_code (3 : Nat) (Option.none : Option Jvm.ClassFile.FieldType)) ∈ za_wd := zxt_5 13 rfl rfl
theorem zx_1081 : (Jvm.Cond.methodLink "DrownedSlates" (128 : Nat) ({ cls := "DrownedSlates$Desk", name := "forget", desc := "()V" } : Jvm.MethodName)) ∈ za_wd := zxt_5 14 rfl rfl
theorem zx_1082 : (Jvm.Cond.instanceMethod ({ cls := "DrownedSlates$Desk", name := "forget", desc := "()V" } : Jvm.MethodName)) ∈ za_wd := zxt_5 15 rfl rfl
theorem zx_1083 : (Jvm.Cond.selects "DrownedSlates$Desk" ({ cls := "DrownedSlates$Desk", name := "forget", desc := "()V" } : Jvm.MethodName) ({ cls := "DrownedSlates$Desk", name := "forget", desc := "()V" } : Jvm.MethodName)) ∈ za_wd := zxt_5 16 rfl rfl
theorem zx_1084 : (Jvm.Cond.code ({ cls := "DrownedSlates$Desk", name := "forget", desc := "()V" } : Jvm.MethodName) prog_3_method_2_code (1 : Nat) (Option.none : Option Jvm.ClassFile.FieldType)) ∈ za_wd := zxt_5 17 rfl rfl
theorem zx_1085 : (Jvm.Cond.methodLink "DrownedSlatesLaw" (93 : Nat) ({ cls := "DrownedSlatesLaw", name := "count", desc := "(LDrownedSlates;I[J)I" } : Jvm.MethodName)) ∈ za_wd := zxt_5 18 rfl rfl
theorem zx_1086 : (Jvm.Cond.static ({ cls := "DrownedSlatesLaw", name := "count", desc := "(LDrownedSlates;I[J)I" } : Jvm.MethodName)) ∈ za_wd := zxt_5 19 rfl rfl
theorem zx_1087 : (Jvm.Cond.codeWith ({ cls := "DrownedSlatesLaw", name := "count", desc := "(LDrownedSlates;I[J)I" } : Jvm.MethodName) method_4_code (4 : Nat) (Option.some Jvm.ClassFile.FieldType.int) [((0 : Nat), (9 : Nat), (12 : Nat), (18 : Nat))]) ∈ za_wd := zxt_5 20 rfl rfl
theorem zx_1088 : (Jvm.Cond.classLink "DrownedSlatesLaw" (18 : Nat) "java/util/NoSuchElementException") ∈ za_wd := zxt_5 21 rfl rfl
theorem zx_1089 : (Jvm.Cond.methodLink "DrownedSlatesLaw" (15 : Nat) ({ cls := "DrownedSlates", name := "count", desc := "(I)I" } : Jvm.MethodName)) ∈ za_wd := zxt_5 22 rfl rfl
theorem zx_1090 : (Jvm.Cond.instanceMethod ({ cls := "DrownedSlates", name := "count", desc := "(I)I" } : Jvm.MethodName)) ∈ za_wd := zxt_5 23 rfl rfl
theorem zx_1091 : (Jvm.Cond.selects "DrownedSlates" ({ cls := "DrownedSlates", name := "count", desc := "(I)I" } : Jvm.MethodName) ({ cls := "DrownedSlates", name := "count", desc := "(I)I" } : Jvm.MethodName)) ∈ za_wd := zxt_5 24 rfl rfl
theorem zx_1092 : (Jvm.Cond.code ({ cls := "DrownedSlates", name := "count", desc := "(I)I" } : Jvm.MethodName) prog_1_method_7_code (2 : Nat) (Option.some Jvm.ClassFile.FieldType.int)) ∈ za_wd := zxt_5 25 rfl rfl
theorem zx_1093 : (Jvm.Cond.methodLink "DrownedSlates" (141 : Nat) ({ cls := "java/lang/Long", name := "bitCount", desc := "(J)I" } : Jvm.MethodName)) ∈ za_wd := zxt_5 26 rfl rfl
theorem zx_1094 : (Jvm.Cond.methodLink "DrownedSlates" (147 : Nat) ({ cls := "DrownedSlates$Waters", name := "allCurrents", desc := "()J" } : Jvm.MethodName)) ∈ za_wd := zxt_5 27 rfl rfl
theorem zx_1095 : (Jvm.Cond.classLink "DrownedSlates" (174 : Nat) "java/util/NoSuchElementException") ∈ za_wd := zxt_5 28 rfl rfl
theorem zx_1111 : (Jvm.Cond.methodLink "DrownedSlatesLaw" (96 : Nat) ({ cls := "DrownedSlatesLaw", name := "cell", desc := "(LDrownedSlates;II[J)I" } : Jvm.MethodName)) ∈ za_wd := zxt_5 44 rfl rfl
theorem zx_1112 : (Jvm.Cond.static ({ cls := "DrownedSlatesLaw", name := "cell", desc := "(LDrownedSlates;II[J)I" } : Jvm.MethodName)) ∈ za_wd := zxt_5 45 rfl rfl
theorem zx_1113 : (Jvm.Cond.codeWith ({ cls := "DrownedSlatesLaw", name := "cell", desc := "(LDrownedSlates;II[J)I" } : Jvm.MethodName) method_5_code (5 : Nat) (Option.some Jvm.ClassFile.FieldType.int) [((0 : Nat), (10 : Nat), (13 : Nat), (18 : Nat))]) ∈ za_wd := zxt_5 46 rfl rfl
theorem zx_1114 : (Jvm.Cond.methodLink "DrownedSlatesLaw" (20 : Nat) ({ cls := "DrownedSlates", name := "cell", desc := "(II)I" } : Jvm.MethodName)) ∈ za_wd := zxt_5 47 rfl rfl
theorem zx_1115 : (Jvm.Cond.instanceMethod ({ cls := "DrownedSlates", name := "cell", desc := "(II)I" } : Jvm.MethodName)) ∈ za_wd := zxt_5 48 rfl rfl
theorem zx_1116 : (Jvm.Cond.selects "DrownedSlates" ({ cls := "DrownedSlates", name := "cell", desc := "(II)I" } : Jvm.MethodName) ({ cls := "DrownedSlates", name := "cell", desc := "(II)I" } : Jvm.MethodName)) ∈ za_wd := zxt_5 49 rfl rfl
theorem zx_1117 : (Jvm.Cond.code ({ cls := "DrownedSlates", name := "cell", desc := "(II)I" } : Jvm.MethodName) prog_1_method_8_code (3 : Nat) (Option.some Jvm.ClassFile.FieldType.int)) ∈ za_wd := zxt_5 50 rfl rfl
theorem zx_1118 : (Jvm.Cond.methodLink "DrownedSlates" (179 : Nat) ({ cls := "DrownedSlates", name := "needWhat", desc := "(II)V" } : Jvm.MethodName)) ∈ za_wd := zxt_5 51 rfl rfl
theorem zx_1119 : (Jvm.Cond.static ({ cls := "DrownedSlates", name := "needWhat", desc := "(II)V" } : Jvm.MethodName)) ∈ za_wd := zxt_5 52 rfl rfl
theorem zx_1120 : (Jvm.Cond.code ({ cls := "DrownedSlates", name := "needWhat", desc := "(II)V" } : Jvm.MethodName) prog_1_method_30_code (2 : Nat) (Option.none : Option Jvm.ClassFile.FieldType)) ∈ za_wd := zxt_5 53 rfl rfl
theorem zx_1122 : (Jvm.Cond.methodLink "DrownedSlates" (183 : Nat) ({ cls := "DrownedSlates$Waters", name := "cells", desc := "()I" } : Jvm.MethodName)) ∈ za_wd := zxt_5 55 rfl rfl
theorem zx_1123 : (Jvm.Cond.instanceMethod ({ cls := "DrownedSlates$Waters", name := "cells", desc := "()I" } : Jvm.MethodName)) ∈ za_wd := zxt_5 56 rfl rfl
theorem zx_1124 : (Jvm.Cond.selects "DrownedSlates$Waters" ({ cls := "DrownedSlates$Waters", name := "cells", desc := "()I" } : Jvm.MethodName) ({ cls := "DrownedSlates$Waters", name := "cells", desc := "()I" } : Jvm.MethodName)) ∈ za_wd := zxt_5 57 rfl rfl
theorem zx_1125 : (Jvm.Cond.code ({ cls := "DrownedSlates$Waters", name := "cells", desc := "()I" } : Jvm.MethodName) prog_12_method_4_code (1 : Nat) (Option.some Jvm.ClassFile.FieldType.int)) ∈ za_wd := zxt_5 58 rfl rfl
theorem zx_1127 : (Jvm.Cond.methodLink "DrownedSlates" (189 : Nat) ({ cls := "DrownedSlates$Waters", name := "isRock", desc := "(I)Z" } : Jvm.MethodName)) ∈ za_wd := zxt_5 60 rfl rfl
theorem zx_1128 : (Jvm.Cond.methodLink "DrownedSlatesLaw" (100 : Nat) ({ cls := "DrownedSlatesLaw", name := "slate", desc := "(LDrownedSlates;II[J)I" } : Jvm.MethodName)) ∈ za_wd := zxt_5 61 rfl rfl
theorem zx_1129 : (Jvm.Cond.static ({ cls := "DrownedSlatesLaw", name := "slate", desc := "(LDrownedSlates;II[J)I" } : Jvm.MethodName)) ∈ za_wd := zxt_5 62 rfl rfl
theorem zx_1130 : (Jvm.Cond.codeWith ({ cls := "DrownedSlatesLaw", name := "slate", desc := "(LDrownedSlates;II[J)I" } : Jvm.MethodName) method_6_code (5 : Nat) (Option.some Jvm.ClassFile.FieldType.int) [((0 : Nat), (10 : Nat), (13 : Nat), (18 : Nat))]) ∈ za_wd := zxt_5 63 rfl rfl
theorem zx_1131 : (Jvm.Cond.methodLink "DrownedSlatesLaw" (24 : Nat) ({ cls := "DrownedSlates", name := "slate", desc := "(II)I" } : Jvm.MethodName)) ∈ za_wd := zxt_5 64 rfl rfl
theorem zx_1132 : (Jvm.Cond.instanceMethod ({ cls := "DrownedSlates", name := "slate", desc := "(II)I" } : Jvm.MethodName)) ∈ za_wd := zxt_5 65 rfl rfl
theorem zx_1133 : (Jvm.Cond.selects "DrownedSlates" ({ cls := "DrownedSlates", name := "slate", desc := "(II)I" } : Jvm.MethodName) ({ cls := "DrownedSlates", name := "slate", desc := "(II)I" } : Jvm.MethodName)) ∈ za_wd := zxt_5 66 rfl rfl
theorem zx_1134 : (Jvm.Cond.code ({ cls := "DrownedSlates", name := "slate", desc := "(II)I" } : Jvm.MethodName) prog_1_method_9_code (3 : Nat) (Option.some Jvm.ClassFile.FieldType.int)) ∈ za_wd := zxt_5 67 rfl rfl
theorem zx_1135 : (Jvm.Cond.methodLink "DrownedSlates" (197 : Nat) ({ cls := "DrownedSlates", name := "needSlate", desc := "(I)V" } : Jvm.MethodName)) ∈ za_wd := zxt_5 68 rfl rfl
theorem zx_1137 : (Jvm.Cond.instanceMethod ({ cls := "DrownedSlates", name := "needSlate", desc := "(I)V" } : Jvm.MethodName)) ∈ za_wd := zxt_5 70 rfl rfl
theorem zx_1138 : (Jvm.Cond.code ({ cls := "DrownedSlates", name := "needSlate", desc := "(I)V" } : Jvm.MethodName) prog_1_method_28_code (2 : Nat) (Option.none : Option Jvm.ClassFile.FieldType)) ∈ za_wd := zxt_5 71 rfl rfl
theorem zx_1140 : (Jvm.Cond.methodLink "DrownedSlatesLaw" (103 : Nat) ({ cls := "DrownedSlatesLaw", name := "mark", desc := "(LDrownedSlates;III[J)I" } : Jvm.MethodName)) ∈ za_wd := zxt_5 73 rfl rfl
theorem zx_1141 : (Jvm.Cond.static ({ cls := "DrownedSlatesLaw", name := "mark", desc := "(LDrownedSlates;III[J)I" } : Jvm.MethodName)) ∈ za_wd := zxt_5 74 rfl rfl
theorem zx_1142 : (Jvm.Cond.codeWith ({ cls := "DrownedSlatesLaw", name := "mark", desc := "(LDrownedSlates;III[J)I" } : Jvm.MethodName) method_7_code (6 : Nat) (Option.some Jvm.ClassFile.FieldType.int) [((0 : Nat), (12 : Nat), (15 : Nat), (18 : Nat))]) ∈ za_wd := zxt_5 75 rfl rfl
theorem zx_1143 : (Jvm.Cond.methodLink "DrownedSlatesLaw" (27 : Nat) ({ cls := "DrownedSlates", name := "mark", desc := "(III)I" } : Jvm.MethodName)) ∈ za_wd := zxt_5 76 rfl rfl
theorem zx_1144 : (Jvm.Cond.instanceMethod ({ cls := "DrownedSlates", name := "mark", desc := "(III)I" } : Jvm.MethodName)) ∈ za_wd := zxt_5 77 rfl rfl
theorem zx_1145 : (Jvm.Cond.selects "DrownedSlates" ({ cls := "DrownedSlates", name := "mark", desc := "(III)I" } : Jvm.MethodName) ({ cls := "DrownedSlates", name := "mark", desc := "(III)I" } : Jvm.MethodName)) ∈ za_wd := zxt_5 78 rfl rfl
theorem zx_1146 : (Jvm.Cond.code ({ cls := "DrownedSlates", name := "mark", desc := "(III)I" } : Jvm.MethodName) prog_1_method_10_code (4 : Nat) (Option.some Jvm.ClassFile.FieldType.int)) ∈ za_wd := zxt_5 79 rfl rfl
theorem zx_1148 : (Jvm.Cond.methodLink "DrownedSlates" (214 : Nat) ({ cls := "DrownedSlates$Chalk", name := "wayOf", desc := "(II)I" } : Jvm.MethodName)) ∈ za_wd := zxt_5 81 rfl rfl
theorem zx_1149 : (Jvm.Cond.methodLink "DrownedSlates" (218 : Nat) ({ cls := "DrownedSlates$Chalk", name := "stepsOf", desc := "(II)I" } : Jvm.MethodName)) ∈ za_wd := zxt_5 82 rfl rfl
theorem zx_1150 : (Jvm.Cond.methodLink "DrownedSlatesLaw" (107 : Nat) ({ cls := "DrownedSlatesLaw", name := "write", desc := "(LDrownedSlates;III[J)I" } : Jvm.MethodName)) ∈ za_wd := zxt_5 83 rfl rfl
theorem zx_1151 : (Jvm.Cond.static ({ cls := "DrownedSlatesLaw", name := "write", desc := "(LDrownedSlates;III[J)I" } : Jvm.MethodName)) ∈ za_wd := zxt_5 84 rfl rfl
theorem zx_1152 : (Jvm.Cond.codeWith ({ cls := "DrownedSlatesLaw", name := "write", desc := "(LDrownedSlates;III[J)I" } : Jvm.MethodName) method_8_code (6 : Nat) (Option.some Jvm.ClassFile.FieldType.int) [((0 : Nat), (12 : Nat), (15 : Nat), (18 : Nat))]) ∈ za_wd := zxt_5 85 rfl rfl
theorem zx_1153 : (Jvm.Cond.methodLink "DrownedSlatesLaw" (31 : Nat) ({ cls := "DrownedSlates", name := "write", desc := "(III)I" } : Jvm.MethodName)) ∈ za_wd := zxt_5 86 rfl rfl
theorem zx_1154 : (Jvm.Cond.instanceMethod ({ cls := "DrownedSlates", name := "write", desc := "(III)I" } : Jvm.MethodName)) ∈ za_wd := zxt_5 87 rfl rfl
theorem zx_1155 : (Jvm.Cond.selects "DrownedSlates" ({ cls := "DrownedSlates", name := "write", desc := "(III)I" } : Jvm.MethodName) ({ cls := "DrownedSlates", name := "write", desc := "(III)I" } : Jvm.MethodName)) ∈ za_wd := zxt_5 88 rfl rfl
theorem zx_1156 : (Jvm.Cond.code ({ cls := "DrownedSlates", name := "write", desc := "(III)I" } : Jvm.MethodName) prog_1_method_11_code (5 : Nat) (Option.some Jvm.ClassFile.FieldType.int)) ∈ za_wd := zxt_5 89 rfl rfl
theorem zx_1157 : (Jvm.Cond.methodLink "DrownedSlates" (221 : Nat) ({ cls := "DrownedSlates$Chalk", name := "keepAct", desc := "(II)V" } : Jvm.MethodName)) ∈ za_wd := zxt_5 90 rfl rfl
theorem zx_1158 : (Jvm.Cond.instanceMethod ({ cls := "DrownedSlates$Chalk", name := "keepAct", desc := "(II)V" } : Jvm.MethodName)) ∈ za_wd := zxt_5 91 rfl rfl
theorem zx_1159 : (Jvm.Cond.selects "DrownedSlates$Chalk" ({ cls := "DrownedSlates$Chalk", name := "keepAct", desc := "(II)V" } : Jvm.MethodName) ({ cls := "DrownedSlates$Chalk", name := "keepAct", desc := "(II)V" } : Jvm.MethodName)) ∈ za_wd := zxt_5 92 rfl rfl
theorem zx_1160 : (Jvm.Cond.code ({ cls := "DrownedSlates$Chalk", name := "keepAct", desc := "(II)V" } : Jvm.MethodName) prog_2_method_9_code (3 : Nat) (Option.none : Option Jvm.ClassFile.FieldType)) ∈ za_wd := zxt_5 93 rfl rfl
theorem zx_1161 : (Jvm.Cond.methodLink "DrownedSlates" (224 : Nat) ({ cls := "DrownedSlates$Chalk", name := "putMark", desc := "(III)V" } : Jvm.MethodName)) ∈ za_wd := zxt_5 94 rfl rfl
theorem zx_1162 : (Jvm.Cond.methodLink "DrownedSlatesLaw" (110 : Nat) ({ cls := "DrownedSlatesLaw", name := "rub", desc := "(LDrownedSlates;III[J)I" } : Jvm.MethodName)) ∈ za_wd := zxt_5 95 rfl rfl
theorem zx_1163 : (Jvm.Cond.static ({ cls := "DrownedSlatesLaw", name := "rub", desc := "(LDrownedSlates;III[J)I" } : Jvm.MethodName)) ∈ za_wd := zxt_5 96 rfl rfl
theorem zx_1164 : (Jvm.Cond.codeWith ({ cls := "DrownedSlatesLaw", name := "rub", desc := "(LDrownedSlates;III[J)I" } : Jvm.MethodName) method_9_code (6 : Nat) (Option.some Jvm.ClassFile.FieldType.int) [((0 : Nat), (12 : Nat), (15 : Nat), (18 : Nat))]) ∈ za_wd := zxt_5 97 rfl rfl
theorem zx_1165 : (Jvm.Cond.methodLink "DrownedSlatesLaw" (34 : Nat) ({ cls := "DrownedSlates", name := "rub", desc := "(III)I" } : Jvm.MethodName)) ∈ za_wd := zxt_5 98 rfl rfl
theorem zx_1166 : (Jvm.Cond.instanceMethod ({ cls := "DrownedSlates", name := "rub", desc := "(III)I" } : Jvm.MethodName)) ∈ za_wd := zxt_5 99 rfl rfl
theorem zx_1167 : (Jvm.Cond.selects "DrownedSlates" ({ cls := "DrownedSlates", name := "rub", desc := "(III)I" } : Jvm.MethodName) ({ cls := "DrownedSlates", name := "rub", desc := "(III)I" } : Jvm.MethodName)) ∈ za_wd := zxt_5 100 rfl rfl
theorem zx_1168 : (Jvm.Cond.code ({ cls := "DrownedSlates", name := "rub", desc := "(III)I" } : Jvm.MethodName) prog_1_method_12_code (4 : Nat) (Option.some Jvm.ClassFile.FieldType.int)) ∈ za_wd := zxt_5 101 rfl rfl
theorem zx_1169 : (Jvm.Cond.methodLink "DrownedSlates" (228 : Nat) ({ cls := "DrownedSlates$Chalk", name := "rubMarks", desc := "(III)V" } : Jvm.MethodName)) ∈ za_wd := zxt_5 102 rfl rfl
theorem zx_1170 : (Jvm.Cond.instanceMethod ({ cls := "DrownedSlates$Chalk", name := "rubMarks", desc := "(III)V" } : Jvm.MethodName)) ∈ za_wd := zxt_5 103 rfl rfl
theorem zx_1171 : (Jvm.Cond.selects "DrownedSlates$Chalk" ({ cls := "DrownedSlates$Chalk", name := "rubMarks", desc := "(III)V" } : Jvm.MethodName) ({ cls := "DrownedSlates$Chalk", name := "rubMarks", desc := "(III)V" } : Jvm.MethodName)) ∈ za_wd := zxt_5 104 rfl rfl
theorem zx_1172 : (Jvm.Cond.code ({ cls := "DrownedSlates$Chalk", name := "rubMarks", desc := "(III)V" } : Jvm.MethodName) prog_2_method_8_code (6 : Nat) (Option.none : Option Jvm.ClassFile.FieldType)) ∈ za_wd := zxt_5 105 rfl rfl
theorem zx_1173 : (Jvm.Cond.constant "DrownedSlates$Chalk" (43 : Nat) (1103515245 : Int32)) ∈ za_wd := zxt_5 106 rfl rfl
theorem zx_1174 : (Jvm.Cond.methodLink "DrownedSlates" (231 : Nat) ({ cls := "java/lang/Integer", name := "bitCount", desc := "(I)I" } : Jvm.MethodName)) ∈ za_wd := zxt_5 107 rfl rfl
theorem zx_1175 : (Jvm.Cond.static ({ cls := "java/lang/Integer", name := "bitCount", desc := "(I)I" } : Jvm.MethodName)) ∈ za_wd := zxt_5 108 rfl rfl
theorem zx_1176 : (Jvm.Cond.code ({ cls := "java/lang/Integer", name := "bitCount", desc := "(I)I" } : Jvm.MethodName) prog_20_method_49_code (1 : Nat) (Option.some Jvm.ClassFile.FieldType.int)) ∈ za_wd := zxt_5 109 rfl rfl
theorem zx_1177 : (Jvm.Cond.constant "java/lang/Integer" (265 : Nat) (1431655765 : Int32)) ∈ za_wd := zxt_5 110 rfl rfl
theorem zx_1178 : (Jvm.Cond.constant "java/lang/Integer" (266 : Nat) (858993459 : Int32)) ∈ za_wd := zxt_5 111 rfl rfl
theorem zx_1179 : (Jvm.Cond.constant "java/lang/Integer" (267 : Nat) (252645135 : Int32)) ∈ za_wd := zxt_5 112 rfl rfl
theorem zx_1180 : (Jvm.Cond.methodLink "DrownedSlatesLaw" (117 : Nat) ({ cls := "DrownedSlatesLaw", name := "voyage", desc := "(LDrownedSlates;II[J)I" } : Jvm.MethodName)) ∈ za_wd := zxt_5 113 rfl rfl
theorem zx_1181 : (Jvm.Cond.static ({ cls := "DrownedSlatesLaw", name := "voyage", desc := "(LDrownedSlates;II[J)I" } : Jvm.MethodName)) ∈ za_wd := zxt_5 114 rfl rfl
theorem zx_1182 : (Jvm.Cond.codeWith ({ cls := "DrownedSlatesLaw", name := "voyage", desc := "(LDrownedSlates;II[J)I" } : Jvm.MethodName) method_10_code (5 : Nat) (Option.some Jvm.ClassFile.FieldType.int) [((0 : Nat), (10 : Nat), (13 : Nat), (18 : Nat))]) ∈ za_wd := zxt_5 115 rfl rfl
theorem zx_1183 : (Jvm.Cond.methodLink "DrownedSlatesLaw" (37 : Nat) ({ cls := "DrownedSlates", name := "voyage", desc := "(II)I" } : Jvm.MethodName)) ∈ za_wd := zxt_5 116 rfl rfl
theorem zx_1184 : (Jvm.Cond.instanceMethod ({ cls := "DrownedSlates", name := "voyage", desc := "(II)I" } : Jvm.MethodName)) ∈ za_wd := zxt_5 117 rfl rfl
theorem zx_1185 : (Jvm.Cond.selects "DrownedSlates" ({ cls := "DrownedSlates", name := "voyage", desc := "(II)I" } : Jvm.MethodName) ({ cls := "DrownedSlates", name := "voyage", desc := "(II)I" } : Jvm.MethodName)) ∈ za_wd := zxt_5 118 rfl rfl
theorem zx_1186 : (Jvm.Cond.code ({ cls := "DrownedSlates", name := "voyage", desc := "(II)I" } : Jvm.MethodName) prog_1_method_14_code (3 : Nat) (Option.some Jvm.ClassFile.FieldType.int)) ∈ za_wd := zxt_5 119 rfl rfl
theorem zx_1187 : (Jvm.Cond.methodLink "DrownedSlates" (238 : Nat) ({ cls := "DrownedSlates$Ship", name := "follow", desc := "(LDrownedSlates$Waters;LDrownedSlates$Chalk;I)V" } : Jvm.MethodName)) ∈ za_wd := zxt_5 120 rfl rfl
theorem zx_1188 : (Jvm.Cond.methodLink "DrownedSlatesLaw" (120 : Nat) ({ cls := "DrownedSlatesLaw", name := "explained", desc := "(LDrownedSlates;I[J)I" } : Jvm.MethodName)) ∈ za_wd := zxt_5 121 rfl rfl
theorem zx_1189 : (Jvm.Cond.static ({ cls := "DrownedSlatesLaw", name := "explained", desc := "(LDrownedSlates;I[J)I" } : Jvm.MethodName)) ∈ za_wd := zxt_5 122 rfl rfl
theorem zx_1190 : (Jvm.Cond.codeWith ({ cls := "DrownedSlatesLaw", name := "explained", desc := "(LDrownedSlates;I[J)I" } : Jvm.MethodName) method_11_code (4 : Nat) (Option.some Jvm.ClassFile.FieldType.int) [((0 : Nat), (16 : Nat), (19 : Nat), (18 : Nat))]) ∈ za_wd := zxt_5 123 rfl rfl
theorem zx_1191 : (Jvm.Cond.methodLink "DrownedSlatesLaw" (40 : Nat) ({ cls := "DrownedSlates", name := "explained", desc := "(I)Z" } : Jvm.MethodName)) ∈ za_wd := zxt_5 124 rfl rfl
theorem zx_1192 : (Jvm.Cond.instanceMethod ({ cls := "DrownedSlates", name := "explained", desc := "(I)Z" } : Jvm.MethodName)) ∈ za_wd := zxt_5 125 rfl rfl
theorem zx_1193 : (Jvm.Cond.selects "DrownedSlates" ({ cls := "DrownedSlates", name := "explained", desc := "(I)Z" } : Jvm.MethodName) ({ cls := "DrownedSlates", name := "explained", desc := "(I)Z" } : Jvm.MethodName)) ∈ za_wd := zxt_5 126 rfl rfl
theorem zx_1194 : (Jvm.Cond.code ({ cls := "DrownedSlates", name := "explained", desc := "(I)Z" } : Jvm.MethodName) prog_1_method_15_code (3 : Nat) (Option.some Jvm.ClassFile.FieldType.boolean)) ∈ za_wd := zxt_5 127 rfl rfl
theorem zx_1195 : (Jvm.Cond.methodLink "DrownedSlates" (261 : Nat) ({ cls := "DrownedSlates$Ship", name := "begin", desc := "(II)V" } : Jvm.MethodName)) ∈ za_wd := zxt_5 128 rfl rfl
theorem zx_1196 : (Jvm.Cond.methodLink "DrownedSlates" (264 : Nat) ({ cls := "DrownedSlates$Ship", name := "followMark", desc := "(LDrownedSlates$Waters;IIZ)V" } : Jvm.MethodName)) ∈ za_wd := zxt_5 129 rfl rfl
theorem zx_1197 : (Jvm.Cond.methodLink "DrownedSlatesLaw" (123 : Nat) ({ cls := "DrownedSlatesLaw", name := "where", desc := "(LDrownedSlates;II[J)I" } : Jvm.MethodName)) ∈ za_wd := zxt_5 130 rfl rfl
theorem zx_1198 : (Jvm.Cond.static ({ cls := "DrownedSlatesLaw", name := "where", desc := "(LDrownedSlates;II[J)I" } : Jvm.MethodName)) ∈ za_wd := zxt_5 131 rfl rfl
theorem zx_1199 : (Jvm.Cond.codeWith ({ cls := "DrownedSlatesLaw", name := "where", desc := "(LDrownedSlates;II[J)I" } : Jvm.MethodName) method_12_code (5 : Nat) (Option.some Jvm.ClassFile.FieldType.int) [((0 : Nat), (9 : Nat), (12 : Nat), (18 : Nat))]) ∈ za_wd := zxt_5 132 rfl rfl
theorem zx_1200 : (Jvm.Cond.methodLink "DrownedSlatesLaw" (44 : Nat) ({ cls := "DrownedSlates", name := "where", desc := "(II)J" } : Jvm.MethodName)) ∈ za_wd := zxt_5 133 rfl rfl
theorem zx_1201 : (Jvm.Cond.instanceMethod ({ cls := "DrownedSlates", name := "where", desc := "(II)J" } : Jvm.MethodName)) ∈ za_wd := zxt_5 134 rfl rfl
theorem zx_1202 : (Jvm.Cond.selects "DrownedSlates" ({ cls := "DrownedSlates", name := "where", desc := "(II)J" } : Jvm.MethodName) ({ cls := "DrownedSlates", name := "where", desc := "(II)J" } : Jvm.MethodName)) ∈ za_wd := zxt_5 135 rfl rfl
theorem zx_1203 : (Jvm.Cond.code ({ cls := "DrownedSlates", name := "where", desc := "(II)J" } : Jvm.MethodName) prog_1_method_16_code (3 : Nat) (Option.some Jvm.ClassFile.FieldType.long)) ∈ za_wd := zxt_5 136 rfl rfl
theorem zx_1205 : (Jvm.Cond.methodLink "DrownedSlates" (270 : Nat) ({ cls := "DrownedSlates$Fog", name := "cellsBehind", desc := "(LDrownedSlates$Waters;LDrownedSlates$Chalk;II)J" } : Jvm.MethodName)) ∈ za_wd := zxt_5 138 rfl rfl
theorem zx_1206 : (Jvm.Cond.instanceMethod ({ cls := "DrownedSlates$Fog", name := "cellsBehind", desc := "(LDrownedSlates$Waters;LDrownedSlates$Chalk;II)J" } : Jvm.MethodName)) ∈ za_wd := zxt_5 139 rfl rfl
theorem zx_1207 : (Jvm.Cond.selects "DrownedSlates$Fog" ({ cls := "DrownedSlates$Fog", name := "cellsBehind", desc := "(LDrownedSlates$Waters;LDrownedSlates$Chalk;II)J" } : Jvm.MethodName) ({ cls := "DrownedSlates$Fog", name := "cellsBehind", desc := "(LDrownedSlates$Waters;LDrownedSlates$Chalk;II)J" } : Jvm.MethodName)) ∈ za_wd := zxt_5 140 rfl rfl
theorem zx_1208 : (Jvm.Cond.code ({ cls := "DrownedSlates$Fog", name := "cellsBehind", desc := "(LDrownedSlates$Waters;LDrownedSlates$Chalk;II)J" } : Jvm.MethodName) prog_5_method_2_code (7 : Nat) (Option.some Jvm.ClassFile.FieldType.long)) ∈ za_wd := zxt_5 141 rfl rfl
theorem zx_1210 : (Jvm.Cond.methodLink "DrownedSlates$Fog" (31 : Nat) ({ cls := "DrownedSlates$Chalk", name := "isRubbed", desc := "(II)Z" } : Jvm.MethodName)) ∈ za_wd := zxt_5 143 rfl rfl
theorem zx_1211 : (Jvm.Cond.instanceMethod ({ cls := "DrownedSlates$Chalk", name := "isRubbed", desc := "(II)Z" } : Jvm.MethodName)) ∈ za_wd := zxt_5 144 rfl rfl
theorem zx_1212 : (Jvm.Cond.selects "DrownedSlates$Chalk" ({ cls := "DrownedSlates$Chalk", name := "isRubbed", desc := "(II)Z" } : Jvm.MethodName) ({ cls := "DrownedSlates$Chalk", name := "isRubbed", desc := "(II)Z" } : Jvm.MethodName)) ∈ za_wd := zxt_5 145 rfl rfl
theorem zx_1213 : (Jvm.Cond.code ({ cls := "DrownedSlates$Chalk", name := "isRubbed", desc := "(II)Z" } : Jvm.MethodName) prog_2_method_7_code (3 : Nat) (Option.some Jvm.ClassFile.FieldType.boolean)) ∈ za_wd := zxt_5 146 rfl rfl
theorem zx_1214 : (Jvm.Cond.methodLink "DrownedSlates$Fog" (35 : Nat) ({ cls := "DrownedSlates$Fog", name := "sailAnyhow", desc := "(LDrownedSlates$Waters;)V" } : Jvm.MethodName)) ∈ za_wd := zxt_5 147 rfl rfl
theorem zx_1216 : (Jvm.Cond.instanceMethod ({ cls := "DrownedSlates$Fog", name := "sailAnyhow", desc := "(LDrownedSlates$Waters;)V" } : Jvm.MethodName)) ∈ za_wd := zxt_5 149 rfl rfl
theorem zx_1217 : (Jvm.Cond.code ({ cls := "DrownedSlates$Fog", name := "sailAnyhow", desc := "(LDrownedSlates$Waters;)V" } : Jvm.MethodName) prog_5_method_5_code (12 : Nat) (Option.none : Option Jvm.ClassFile.FieldType)) ∈ za_wd := zxt_5 150 rfl rfl
theorem zx_1218 : (Jvm.Cond.methodLink "DrownedSlates$Fog" (56 : Nat) ({ cls := "DrownedSlates$Fog", name := "sailStep", desc := "(LDrownedSlates$Waters;I)V" } : Jvm.MethodName)) ∈ za_wd := zxt_5 151 rfl rfl
theorem zx_1220 : (Jvm.Cond.instanceMethod ({ cls := "DrownedSlates$Fog", name := "sailStep", desc := "(LDrownedSlates$Waters;I)V" } : Jvm.MethodName)) ∈ za_wd := zxt_5 153 rfl rfl
theorem zx_1221 : (Jvm.Cond.code ({ cls := "DrownedSlates$Fog", name := "sailStep", desc := "(LDrownedSlates$Waters;I)V" } : Jvm.MethodName) prog_5_method_3_code (5 : Nat) (Option.none : Option Jvm.ClassFile.FieldType)) ∈ za_wd := zxt_5 154 rfl rfl
theorem zx_1222 : (Jvm.Cond.methodLink "DrownedSlates$Fog" (50 : Nat) ({ cls := "DrownedSlates$Waters", name := "sailed", desc := "(JIZ)J" } : Jvm.MethodName)) ∈ za_wd := zxt_5 155 rfl rfl
theorem zx_1223 : (Jvm.Cond.instanceMethod ({ cls := "DrownedSlates$Waters", name := "sailed", desc := "(JIZ)J" } : Jvm.MethodName)) ∈ za_wd := zxt_5 156 rfl rfl
theorem zx_1224 : (Jvm.Cond.selects "DrownedSlates$Waters" ({ cls := "DrownedSlates$Waters", name := "sailed", desc := "(JIZ)J" } : Jvm.MethodName) ({ cls := "DrownedSlates$Waters", name := "sailed", desc := "(JIZ)J" } : Jvm.MethodName)) ∈ za_wd := zxt_5 157 rfl rfl
theorem zx_1225 : (Jvm.Cond.code ({ cls := "DrownedSlates$Waters", name := "sailed", desc := "(JIZ)J" } : Jvm.MethodName) prog_12_method_14_code (7 : Nat) (Option.some Jvm.ClassFile.FieldType.long)) ∈ za_wd := zxt_5 158 rfl rfl
theorem zx_1226 : (Jvm.Cond.methodLink "DrownedSlates$Waters" (116 : Nat) ({ cls := "DrownedSlates$Waters", name := "moved", desc := "(JI)J" } : Jvm.MethodName)) ∈ za_wd := zxt_5 159 rfl rfl
theorem zx_1228 : (Jvm.Cond.instanceMethod ({ cls := "DrownedSlates$Waters", name := "moved", desc := "(JI)J" } : Jvm.MethodName)) ∈ za_wd := zxt_5 161 rfl rfl
theorem zx_1229 : (Jvm.Cond.code ({ cls := "DrownedSlates$Waters", name := "moved", desc := "(JI)J" } : Jvm.MethodName) prog_12_method_13_code (6 : Nat) (Option.some Jvm.ClassFile.FieldType.long)) ∈ za_wd := zxt_5 162 rfl rfl
theorem zx_1230 : (Jvm.Cond.methodLink "DrownedSlates$Waters" (120 : Nat) ({ cls := "DrownedSlates$Waters", name := "driven", desc := "(J)J" } : Jvm.MethodName)) ∈ za_wd := zxt_5 163 rfl rfl
theorem zx_1232 : (Jvm.Cond.instanceMethod ({ cls := "DrownedSlates$Waters", name := "driven", desc := "(J)J" } : Jvm.MethodName)) ∈ za_wd := zxt_5 165 rfl rfl
theorem zx_1233 : (Jvm.Cond.code ({ cls := "DrownedSlates$Waters", name := "driven", desc := "(J)J" } : Jvm.MethodName) prog_12_method_15_code (10 : Nat) (Option.some Jvm.ClassFile.FieldType.long)) ∈ za_wd := zxt_5 166 rfl rfl
theorem zx_1234 : (Jvm.Cond.methodLink "DrownedSlates$Fog" (39 : Nat) ({ cls := "DrownedSlates$Chalk", name := "wayOf", desc := "(II)I" } : Jvm.MethodName)) ∈ za_wd := zxt_5 167 rfl rfl
theorem zx_1235 : (Jvm.Cond.methodLink "DrownedSlates$Fog" (43 : Nat) ({ cls := "DrownedSlates$Chalk", name := "stepsOf", desc := "(II)I" } : Jvm.MethodName)) ∈ za_wd := zxt_5 168 rfl rfl
theorem zx_1236 : (Jvm.Cond.methodLink "DrownedSlates$Fog" (46 : Nat) ({ cls := "DrownedSlates$Fog", name := "sailMark", desc := "(LDrownedSlates$Waters;II)V" } : Jvm.MethodName)) ∈ za_wd := zxt_5 169 rfl rfl
theorem zx_1238 : (Jvm.Cond.instanceMethod ({ cls := "DrownedSlates$Fog", name := "sailMark", desc := "(LDrownedSlates$Waters;II)V" } : Jvm.MethodName)) ∈ za_wd := zxt_5 171 rfl rfl
theorem zx_1239 : (Jvm.Cond.code ({ cls := "DrownedSlates$Fog", name := "sailMark", desc := "(LDrownedSlates$Waters;II)V" } : Jvm.MethodName) prog_5_method_4_code (5 : Nat) (Option.none : Option Jvm.ClassFile.FieldType)) ∈ za_wd := zxt_5 172 rfl rfl
theorem zx_1240 : (Jvm.Cond.methodLink "DrownedSlatesLaw" (126 : Nat) ({ cls := "DrownedSlatesLaw", name := "pilot", desc := "(LDrownedSlates;II[J)I" } : Jvm.MethodName)) ∈ za_wd := zxt_5 173 rfl rfl
theorem zx_1241 : (Jvm.Cond.static ({ cls := "DrownedSlatesLaw", name := "pilot", desc := "(LDrownedSlates;II[J)I" } : Jvm.MethodName)) ∈ za_wd := zxt_5 174 rfl rfl
theorem zx_1242 : (Jvm.Cond.codeWith ({ cls := "DrownedSlatesLaw", name := "pilot", desc := "(LDrownedSlates;II[J)I" } : Jvm.MethodName) method_13_code (5 : Nat) (Option.some Jvm.ClassFile.FieldType.int) [((0 : Nat), (10 : Nat), (13 : Nat), (18 : Nat))]) ∈ za_wd := zxt_5 175 rfl rfl
theorem zx_1243 : (Jvm.Cond.methodLink "DrownedSlatesLaw" (48 : Nat) ({ cls := "DrownedSlates", name := "pilot", desc := "(II)I" } : Jvm.MethodName)) ∈ za_wd := zxt_5 176 rfl rfl
theorem zx_1244 : (Jvm.Cond.instanceMethod ({ cls := "DrownedSlates", name := "pilot", desc := "(II)I" } : Jvm.MethodName)) ∈ za_wd := zxt_5 177 rfl rfl
theorem zx_1245 : (Jvm.Cond.selects "DrownedSlates" ({ cls := "DrownedSlates", name := "pilot", desc := "(II)I" } : Jvm.MethodName) ({ cls := "DrownedSlates", name := "pilot", desc := "(II)I" } : Jvm.MethodName)) ∈ za_wd := zxt_5 178 rfl rfl
theorem zx_1246 : (Jvm.Cond.code ({ cls := "DrownedSlates", name := "pilot", desc := "(II)I" } : Jvm.MethodName) prog_1_method_17_code (3 : Nat) (Option.some Jvm.ClassFile.FieldType.int)) ∈ za_wd := zxt_5 179 rfl rfl
theorem zx_1247 : (Jvm.Cond.methodLink "DrownedSlates" (274 : Nat) ({ cls := "DrownedSlates", name := "needPilot", desc := "(I)V" } : Jvm.MethodName)) ∈ za_wd := zxt_5 180 rfl rfl
theorem zx_1249 : (Jvm.Cond.instanceMethod ({ cls := "DrownedSlates", name := "needPilot", desc := "(I)V" } : Jvm.MethodName)) ∈ za_wd := zxt_5 182 rfl rfl
theorem zx_1250 : (Jvm.Cond.code ({ cls := "DrownedSlates", name := "needPilot", desc := "(I)V" } : Jvm.MethodName) prog_1_method_29_code (2 : Nat) (Option.none : Option Jvm.ClassFile.FieldType)) ∈ za_wd := zxt_5 183 rfl rfl
theorem zx_1252 : (Jvm.Cond.methodLink "DrownedSlatesLaw" (129 : Nat) ({ cls := "DrownedSlatesLaw", name := "sails", desc := "(LDrownedSlates;III[J)I" } : Jvm.MethodName)) ∈ za_wd := zxt_5 185 rfl rfl
theorem zx_1253 : (Jvm.Cond.static ({ cls := "DrownedSlatesLaw", name := "sails", desc := "(LDrownedSlates;III[J)I" } : Jvm.MethodName)) ∈ za_wd := zxt_5 186 rfl rfl
theorem zx_1254 : (Jvm.Cond.codeWith ({ cls := "DrownedSlatesLaw", name := "sails", desc := "(LDrownedSlates;III[J)I" } : Jvm.MethodName) method_14_code (6 : Nat) (Option.some Jvm.ClassFile.FieldType.int) [((0 : Nat), (12 : Nat), (15 : Nat), (18 : Nat)), ((0 : Nat), (12 : Nat), (19 : Nat), (13 : Nat))]) ∈ za_wd := zxt_5 187 rfl rfl
theorem zx_1255 : (Jvm.Cond.methodLink "DrownedSlatesLaw" (51 : Nat) ({ cls := "DrownedSlates", name := "sails", desc := "(III)I" } : Jvm.MethodName)) ∈ za_wd := zxt_5 188 rfl rfl
theorem zx_1256 : (Jvm.Cond.instanceMethod ({ cls := "DrownedSlates", name := "sails", desc := "(III)I" } : Jvm.MethodName)) ∈ za_wd := zxt_5 189 rfl rfl
theorem zx_1257 : (Jvm.Cond.selects "DrownedSlates" ({ cls := "DrownedSlates", name := "sails", desc := "(III)I" } : Jvm.MethodName) ({ cls := "DrownedSlates", name := "sails", desc := "(III)I" } : Jvm.MethodName)) ∈ za_wd := zxt_5 190 rfl rfl
theorem zx_1258 : (Jvm.Cond.code ({ cls := "DrownedSlates", name := "sails", desc := "(III)I" } : Jvm.MethodName) prog_1_method_18_code (4 : Nat) (Option.some Jvm.ClassFile.FieldType.int)) ∈ za_wd := zxt_5 191 rfl rfl
theorem zx_1260 : (Jvm.Cond.methodLink "DrownedSlatesLaw" (136 : Nat) ({ cls := "DrownedSlatesLaw", name := "study", desc := "(LDrownedSlates;I[J)I" } : Jvm.MethodName)) ∈ za_wd := zxt_5 193 rfl rfl
theorem zx_1261 : (Jvm.Cond.static ({ cls := "DrownedSlatesLaw", name := "study", desc := "(LDrownedSlates;I[J)I" } : Jvm.MethodName)) ∈ za_wd := zxt_5 194 rfl rfl
theorem zx_1262 : (Jvm.Cond.codeWith ({ cls := "DrownedSlatesLaw", name := "study", desc := "(LDrownedSlates;I[J)I" } : Jvm.MethodName) method_15_code (4 : Nat) (Option.some Jvm.ClassFile.FieldType.int) [((0 : Nat), (9 : Nat), (12 : Nat), (18 : Nat))]) ∈ za_wd := zxt_5 195 rfl rfl
theorem zx_1263 : (Jvm.Cond.methodLink "DrownedSlatesLaw" (54 : Nat) ({ cls := "DrownedSlates", name := "study", desc := "(I)I" } : Jvm.MethodName)) ∈ za_wd := zxt_5 196 rfl rfl
theorem zx_1264 : (Jvm.Cond.instanceMethod ({ cls := "DrownedSlates", name := "study", desc := "(I)I" } : Jvm.MethodName)) ∈ za_wd := zxt_5 197 rfl rfl
theorem zx_1265 : (Jvm.Cond.selects "DrownedSlates" ({ cls := "DrownedSlates", name := "study", desc := "(I)I" } : Jvm.MethodName) ({ cls := "DrownedSlates", name := "study", desc := "(I)I" } : Jvm.MethodName)) ∈ za_wd := zxt_5 198 rfl rfl
theorem zx_1266 : (Jvm.Cond.code ({ cls := "DrownedSlates", name := "study", desc := "(I)I" } : Jvm.MethodName) prog_1_method_20_code (2 : Nat) (Option.some Jvm.ClassFile.FieldType.int)) ∈ za_wd := zxt_5 199 rfl rfl
theorem zx_1267 : (Jvm.Cond.methodLink "DrownedSlates" (297 : Nat) ({ cls := "DrownedSlates$Desk", name := "learn", desc := "(LDrownedSlates$Waters;LDrownedSlates$Chalk;LDrownedSlates$Ship;)V" } : Jvm.MethodName)) ∈ za_wd := zxt_5 200 rfl rfl
theorem zx_1268 : (Jvm.Cond.instanceMethod ({ cls := "DrownedSlates$Desk", name := "learn", desc := "(LDrownedSlates$Waters;LDrownedSlates$Chalk;LDrownedSlates$Ship;)V" } : Jvm.MethodName)) ∈ za_wd := zxt_5 201 rfl rfl
theorem zx_1269 : (Jvm.Cond.selects "DrownedSlates$Desk" ({ cls := "DrownedSlates$Desk", name := "learn", desc := "(LDrownedSlates$Waters;LDrownedSlates$Chalk;LDrownedSlates$Ship;)V" } : Jvm.MethodName) ({ cls := "DrownedSlates$Desk", name := "learn", desc := "(LDrownedSlates$Waters;LDrownedSlates$Chalk;LDrownedSlates$Ship;)V" } : Jvm.MethodName)) ∈ za_wd := zxt_5 202 rfl rfl
theorem zx_1270 : (Jvm.Cond.code ({ cls := "DrownedSlates$Desk", name := "learn", desc := "(LDrownedSlates$Waters;LDrownedSlates$Chalk;LDrownedSlates$Ship;)V" } : Jvm.MethodName) prog_3_method_3_code (5 : Nat) (Option.none : Option Jvm.ClassFile.FieldType)) ∈ za_wd := zxt_5 203 rfl rfl
theorem zx_1271 : (Jvm.Cond.methodLink "DrownedSlates$Desk" (53 : Nat) ({ cls := "DrownedSlates$Ship", name := "follow", desc := "(LDrownedSlates$Waters;LDrownedSlates$Chalk;I)V" } : Jvm.MethodName)) ∈ za_wd := zxt_5 204 rfl rfl
theorem zx_1272 : (Jvm.Cond.methodLink "DrownedSlates$Desk" (64 : Nat) ({ cls := "DrownedSlates$Ship", name := "wreck", desc := "()J" } : Jvm.MethodName)) ∈ za_wd := zxt_5 205 rfl rfl
theorem zx_1273 : (Jvm.Cond.methodLink "DrownedSlates$Desk" (67 : Nat) ({ cls := "DrownedSlates$Desk", name := "lessonOf", desc := "(I)I" } : Jvm.MethodName)) ∈ za_wd := zxt_5 206 rfl rfl
theorem zx_1275 : (Jvm.Cond.instanceMethod ({ cls := "DrownedSlates$Desk", name := "lessonOf", desc := "(I)I" } : Jvm.MethodName)) ∈ za_wd := zxt_5 208 rfl rfl
theorem zx_1276 : (Jvm.Cond.code ({ cls := "DrownedSlates$Desk", name := "lessonOf", desc := "(I)I" } : Jvm.MethodName) prog_3_method_4_code (3 : Nat) (Option.some Jvm.ClassFile.FieldType.int)) ∈ za_wd := zxt_5 209 rfl rfl
theorem zx_1277 : (Jvm.Cond.methodLink "DrownedSlates" (301 : Nat) ({ cls := "DrownedSlates$Desk", name := "find", desc := "(LDrownedSlates$Waters;LDrownedSlates$Helm;I)I" } : Jvm.MethodName)) ∈ za_wd := zxt_5 210 rfl rfl
theorem zx_1278 : (Jvm.Cond.instanceMethod ({ cls := "DrownedSlates$Desk", name := "find", desc := "(LDrownedSlates$Waters;LDrownedSlates$Helm;I)I" } : Jvm.MethodName)) ∈ za_wd := zxt_5 211 rfl rfl
theorem zx_1279 : (Jvm.Cond.selects "DrownedSlates$Desk" ({ cls := "DrownedSlates$Desk", name := "find", desc := "(LDrownedSlates$Waters;LDrownedSlates$Helm;I)I" } : Jvm.MethodName) ({ cls := "DrownedSlates$Desk", name := "find", desc := "(LDrownedSlates$Waters;LDrownedSlates$Helm;I)I" } : Jvm.MethodName)) ∈ za_wd := zxt_5 212 rfl rfl
theorem zx_1280 : (Jvm.Cond.code ({ cls := "DrownedSlates$Desk", name := "find", desc := "(LDrownedSlates$Waters;LDrownedSlates$Helm;I)I" } : Jvm.MethodName) prog_3_method_6_code (8 : Nat) (Option.some Jvm.ClassFile.FieldType.int)) ∈ za_wd := zxt_5 213 rfl rfl
theorem zx_1281 : (Jvm.Cond.methodLink "DrownedSlates$Desk" (77 : Nat) ({ cls := "java/util/Arrays", name := "fill", desc := "([II)V" } : Jvm.MethodName)) ∈ za_wd := zxt_5 214 rfl rfl
theorem zx_1282 : (Jvm.Cond.methodLink "DrownedSlates$Desk" (86 : Nat) ({ cls := "DrownedSlates$Desk", name := "beginningNear", desc := "(LDrownedSlates$Waters;I)I" } : Jvm.MethodName)) ∈ za_wd := zxt_5 215 rfl rfl
theorem zx_1284 : (Jvm.Cond.instanceMethod ({ cls := "DrownedSlates$Desk", name := "beginningNear", desc := "(LDrownedSlates$Waters;I)I" } : Jvm.MethodName)) ∈ za_wd := zxt_5 217 rfl rfl
theorem zx_1285 : (Jvm.Cond.code ({ cls := "DrownedSlates$Desk", name := "beginningNear", desc := "(LDrownedSlates$Waters;I)I" } : Jvm.MethodName) prog_3_method_7_code (5 : Nat) (Option.some Jvm.ClassFile.FieldType.int)) ∈ za_wd := zxt_5 218 rfl rfl
theorem zx_1286 : (Jvm.Cond.methodLink "DrownedSlates$Desk" (71 : Nat) ({ cls := "DrownedSlates$Waters", name := "farness", desc := "(II)I" } : Jvm.MethodName)) ∈ za_wd := zxt_5 219 rfl rfl
theorem zx_1287 : (Jvm.Cond.instanceMethod ({ cls := "DrownedSlates$Waters", name := "farness", desc := "(II)I" } : Jvm.MethodName)) ∈ za_wd := zxt_5 220 rfl rfl
theorem zx_1288 : (Jvm.Cond.selects "DrownedSlates$Waters" ({ cls := "DrownedSlates$Waters", name := "farness", desc := "(II)I" } : Jvm.MethodName) ({ cls := "DrownedSlates$Waters", name := "farness", desc := "(II)I" } : Jvm.MethodName)) ∈ za_wd := zxt_5 221 rfl rfl
theorem zx_1289 : (Jvm.Cond.code ({ cls := "DrownedSlates$Waters", name := "farness", desc := "(II)I" } : Jvm.MethodName) prog_12_method_12_code (5 : Nat) (Option.some Jvm.ClassFile.FieldType.int)) ∈ za_wd := zxt_5 222 rfl rfl
theorem zx_1290 : (Jvm.Cond.methodLink "DrownedSlates$Waters" (101 : Nat) ({ cls := "DrownedSlates$Waters", name := "xOf", desc := "(I)I" } : Jvm.MethodName)) ∈ za_wd := zxt_5 223 rfl rfl
theorem zx_1291 : (Jvm.Cond.methodLink "DrownedSlates$Waters" (105 : Nat) ({ cls := "java/lang/Math", name := "abs", desc := "(I)I" } : Jvm.MethodName)) ∈ za_wd := zxt_5 224 rfl rfl
theorem zx_1292 : (Jvm.Cond.static ({ cls := "java/lang/Math", name := "abs", desc := "(I)I" } : Jvm.MethodName)) ∈ za_wd := zxt_5 225 rfl rfl
theorem zx_1293 : (Jvm.Cond.code ({ cls := "java/lang/Math", name := "abs", desc := "(I)I" } : Jvm.MethodName) prog_22_method_59_code (1 : Nat) (Option.some Jvm.ClassFile.FieldType.int)) ∈ za_wd := zxt_5 226 rfl rfl
theorem zx_1294 : (Jvm.Cond.methodLink "DrownedSlates$Waters" (110 : Nat) ({ cls := "DrownedSlates$Waters", name := "yOf", desc := "(I)I" } : Jvm.MethodName)) ∈ za_wd := zxt_5 227 rfl rfl
theorem zx_1295 : (Jvm.Cond.methodLink "DrownedSlates$Waters" (113 : Nat) ({ cls := "java/lang/Math", name := "max", desc := "(II)I" } : Jvm.MethodName)) ∈ za_wd := zxt_5 228 rfl rfl
theorem zx_1296 : (Jvm.Cond.static ({ cls := "java/lang/Math", name := "max", desc := "(II)I" } : Jvm.MethodName)) ∈ za_wd := zxt_5 229 rfl rfl
theorem zx_1297 : (Jvm.Cond.code ({ cls := "java/lang/Math", name := "max", desc := "(II)I" } : Jvm.MethodName) prog_22_method_65_code (2 : Nat) (Option.some Jvm.ClassFile.FieldType.int)) ∈ za_wd := zxt_5 230 rfl rfl
theorem zx_1298 : (Jvm.Cond.methodLink "DrownedSlates$Desk" (90 : Nat) ({ cls := "java/lang/Integer", name := "bitCount", desc := "(I)I" } : Jvm.MethodName)) ∈ za_wd := zxt_5 231 rfl rfl
theorem zx_1299 : (Jvm.Cond.methodLink "DrownedSlates$Desk" (95 : Nat) ({ cls := "DrownedSlates$Desk", name := "putInRow", desc := "(I)Z" } : Jvm.MethodName)) ∈ za_wd := zxt_5 232 rfl rfl
theorem zx_1301 : (Jvm.Cond.instanceMethod ({ cls := "DrownedSlates$Desk", name := "putInRow", desc := "(I)Z" } : Jvm.MethodName)) ∈ za_wd := zxt_5 234 rfl rfl
theorem zx_1302 : (Jvm.Cond.code ({ cls := "DrownedSlates$Desk", name := "putInRow", desc := "(I)Z" } : Jvm.MethodName) prog_3_method_8_code (5 : Nat) (Option.some Jvm.ClassFile.FieldType.boolean)) ∈ za_wd := zxt_5 235 rfl rfl
theorem zx_1303 : (Jvm.Cond.methodLink "DrownedSlates$Desk" (115 : Nat) ({ cls := "java/lang/Integer", name := "numberOfTrailingZeros", desc := "(I)I" } : Jvm.MethodName)) ∈ za_wd := zxt_5 236 rfl rfl
theorem zx_1304 : (Jvm.Cond.static ({ cls := "java/lang/Integer", name := "numberOfTrailingZeros", desc := "(I)I" } : Jvm.MethodName)) ∈ za_wd := zxt_5 237 rfl rfl
theorem zx_1305 : (Jvm.Cond.code ({ cls := "java/lang/Integer", name := "numberOfTrailingZeros", desc := "(I)I" } : Jvm.MethodName) prog_20_method_48_code (2 : Nat) (Option.some Jvm.ClassFile.FieldType.int)) ∈ za_wd := zxt_5 238 rfl rfl
theorem zx_1306 : (Jvm.Cond.constant "java/lang/Integer" (264 : Nat) (65536 : Int32)) ∈ za_wd := zxt_5 239 rfl rfl
theorem zx_1307 : (Jvm.Cond.methodLink "DrownedSlates$Desk" (99 : Nat) ({ cls := "DrownedSlates$Desk", name := "rowIsAhead", desc := "(I)Z" } : Jvm.MethodName)) ∈ za_wd := zxt_6 0 rfl rfl
theorem zx_1309 : (Jvm.Cond.instanceMethod ({ cls := "DrownedSlates$Desk", name := "rowIsAhead", desc := "(I)Z" } : Jvm.MethodName)) ∈ za_wd := zxt_6 2 rfl rfl
theorem zx_1310 : (Jvm.Cond.code ({ cls := "DrownedSlates$Desk", name := "rowIsAhead", desc := "(I)Z" } : Jvm.MethodName) prog_3_method_9_code (3 : Nat) (Option.some Jvm.ClassFile.FieldType.boolean)) ∈ za_wd := zxt_6 3 rfl rfl
theorem zx_1311 : (Jvm.Cond.methodLink "DrownedSlates$Desk" (102 : Nat) ({ cls := "DrownedSlates$Desk", name := "bringsThrough", desc := "(LDrownedSlates$Waters;LDrownedSlates$Helm;II)Z" } : Jvm.MethodName)) ∈ za_wd := zxt_6 4 rfl rfl
theorem zx_1313 : (Jvm.Cond.instanceMethod ({ cls := "DrownedSlates$Desk", name := "bringsThrough", desc := "(LDrownedSlates$Waters;LDrownedSlates$Helm;II)Z" } : Jvm.MethodName)) ∈ za_wd := zxt_6 6 rfl rfl
theorem zx_1314 : (Jvm.Cond.code ({ cls := "DrownedSlates$Desk", name := "bringsThrough", desc := "(LDrownedSlates$Waters;LDrownedSlates$Helm;II)Z" } : Jvm.MethodName) prog_3_method_10_code (9 : Nat) (Option.some Jvm.ClassFile.FieldType.boolean)) ∈ za_wd := zxt_6 7 rfl rfl
theorem zx_1315 : (Jvm.Cond.methodLink "DrownedSlates$Desk" (118 : Nat) ({ cls := "DrownedSlates$Helm", name := "sailBy", desc := "(LDrownedSlates$Waters;IJ)V" } : Jvm.MethodName)) ∈ za_wd := zxt_6 8 rfl rfl
theorem zx_1316 : (Jvm.Cond.methodLink "DrownedSlates$Desk" (106 : Nat) ({ cls := "java/lang/System", name := "arraycopy", desc := "(Ljava/lang/Object;ILjava/lang/Object;II)V" } : Jvm.MethodName)) ∈ za_wd := zxt_6 9 rfl rfl
theorem zx_1317 : (Jvm.Cond.methodLink "DrownedSlatesLaw" (139 : Nat) ({ cls := "DrownedSlatesLaw", name := "studied", desc := "(LDrownedSlates;I[J)I" } : Jvm.MethodName)) ∈ za_wd := zxt_6 10 rfl rfl
theorem zx_1318 : (Jvm.Cond.static ({ cls := "DrownedSlatesLaw", name := "studied", desc := "(LDrownedSlates;I[J)I" } : Jvm.MethodName)) ∈ za_wd := zxt_6 11 rfl rfl
theorem zx_1319 : (Jvm.Cond.codeWith ({ cls := "DrownedSlatesLaw", name := "studied", desc := "(LDrownedSlates;I[J)I" } : Jvm.MethodName) method_16_code (4 : Nat) (Option.some Jvm.ClassFile.FieldType.int) [((0 : Nat), (9 : Nat), (12 : Nat), (18 : Nat))]) ∈ za_wd := zxt_6 12 rfl rfl
theorem zx_1320 : (Jvm.Cond.methodLink "DrownedSlatesLaw" (57 : Nat) ({ cls := "DrownedSlates", name := "studied", desc := "(I)I" } : Jvm.MethodName)) ∈ za_wd := zxt_6 13 rfl rfl
theorem zx_1321 : (Jvm.Cond.instanceMethod ({ cls := "DrownedSlates", name := "studied", desc := "(I)I" } : Jvm.MethodName)) ∈ za_wd := zxt_6 14 rfl rfl
theorem zx_1322 : (Jvm.Cond.selects "DrownedSlates" ({ cls := "DrownedSlates", name := "studied", desc := "(I)I" } : Jvm.MethodName) ({ cls := "DrownedSlates", name := "studied", desc := "(I)I" } : Jvm.MethodName)) ∈ za_wd := zxt_6 15 rfl rfl
theorem zx_1323 : (Jvm.Cond.code ({ cls := "DrownedSlates", name := "studied", desc := "(I)I" } : Jvm.MethodName) prog_1_method_21_code (2 : Nat) (Option.some Jvm.ClassFile.FieldType.int)) ∈ za_wd := zxt_6 16 rfl rfl
theorem zx_1325 : (Jvm.Cond.methodLink "DrownedSlatesLaw" (142 : Nat) ({ cls := "DrownedSlatesLaw", name := "dive", desc := "(LDrownedSlates;II[J)I" } : Jvm.MethodName)) ∈ za_wd := zxt_6 18 rfl rfl
theorem zx_1326 : (Jvm.Cond.static ({ cls := "DrownedSlatesLaw", name := "dive", desc := "(LDrownedSlates;II[J)I" } : Jvm.MethodName)) ∈ za_wd := zxt_6 19 rfl rfl
theorem zx_1327 : (Jvm.Cond.codeWith ({ cls := "DrownedSlatesLaw", name := "dive", desc := "(LDrownedSlates;II[J)I" } : Jvm.MethodName) method_17_code (5 : Nat) (Option.some Jvm.ClassFile.FieldType.int) [((0 : Nat), (10 : Nat), (13 : Nat), (18 : Nat)), ((0 : Nat), (10 : Nat), (17 : Nat), (13 : Nat))]) ∈ za_wd := zxt_6 20 rfl rfl
theorem zx_1328 : (Jvm.Cond.methodLink "DrownedSlatesLaw" (60 : Nat) ({ cls := "DrownedSlates", name := "dive", desc := "(II)I" } : Jvm.MethodName)) ∈ za_wd := zxt_6 21 rfl rfl
theorem zx_1329 : (Jvm.Cond.instanceMethod ({ cls := "DrownedSlates", name := "dive", desc := "(II)I" } : Jvm.MethodName)) ∈ za_wd := zxt_6 22 rfl rfl
theorem zx_1330 : (Jvm.Cond.selects "DrownedSlates" ({ cls := "DrownedSlates", name := "dive", desc := "(II)I" } : Jvm.MethodName) ({ cls := "DrownedSlates", name := "dive", desc := "(II)I" } : Jvm.MethodName)) ∈ za_wd := zxt_6 23 rfl rfl
theorem zx_1331 : (Jvm.Cond.code ({ cls := "DrownedSlates", name := "dive", desc := "(II)I" } : Jvm.MethodName) prog_1_method_22_code (7 : Nat) (Option.some Jvm.ClassFile.FieldType.int)) ∈ za_wd := zxt_6 24 rfl rfl
theorem zx_1333 : (Jvm.Cond.methodLink "DrownedSlates" (315 : Nat) ({ cls := "DrownedSlates$Desk", name := "wrecksNear", desc := "(LDrownedSlates$Waters;II)I" } : Jvm.MethodName)) ∈ za_wd := zxt_6 26 rfl rfl
theorem zx_1334 : (Jvm.Cond.instanceMethod ({ cls := "DrownedSlates$Desk", name := "wrecksNear", desc := "(LDrownedSlates$Waters;II)I" } : Jvm.MethodName)) ∈ za_wd := zxt_6 27 rfl rfl
theorem zx_1335 : (Jvm.Cond.selects "DrownedSlates$Desk" ({ cls := "DrownedSlates$Desk", name := "wrecksNear", desc := "(LDrownedSlates$Waters;II)I" } : Jvm.MethodName) ({ cls := "DrownedSlates$Desk", name := "wrecksNear", desc := "(LDrownedSlates$Waters;II)I" } : Jvm.MethodName)) ∈ za_wd := zxt_6 28 rfl rfl
theorem zx_1336 : (Jvm.Cond.code ({ cls := "DrownedSlates$Desk", name := "wrecksNear", desc := "(LDrownedSlates$Waters;II)I" } : Jvm.MethodName) prog_3_method_5_code (6 : Nat) (Option.some Jvm.ClassFile.FieldType.int)) ∈ za_wd := zxt_6 29 rfl rfl
theorem zx_1337 : (Jvm.Cond.methodLink "DrownedSlatesLaw" (148 : Nat) ({ cls := "DrownedSlatesLaw", name := "chart", desc := "(LDrownedSlates;I[J)I" } : Jvm.MethodName)) ∈ za_wd := zxt_6 30 rfl rfl
theorem zx_1338 : (Jvm.Cond.static ({ cls := "DrownedSlatesLaw", name := "chart", desc := "(LDrownedSlates;I[J)I" } : Jvm.MethodName)) ∈ za_wd := zxt_6 31 rfl rfl
theorem zx_1339 : (Jvm.Cond.codeWith ({ cls := "DrownedSlatesLaw", name := "chart", desc := "(LDrownedSlates;I[J)I" } : Jvm.MethodName) method_18_code (4 : Nat) (Option.some Jvm.ClassFile.FieldType.int) [((0 : Nat), (8 : Nat), (11 : Nat), (18 : Nat))]) ∈ za_wd := zxt_6 32 rfl rfl
theorem zx_1340 : (Jvm.Cond.methodLink "DrownedSlatesLaw" (63 : Nat) ({ cls := "DrownedSlates", name := "chart", desc := "(I)J" } : Jvm.MethodName)) ∈ za_wd := zxt_6 33 rfl rfl
theorem zx_1341 : (Jvm.Cond.instanceMethod ({ cls := "DrownedSlates", name := "chart", desc := "(I)J" } : Jvm.MethodName)) ∈ za_wd := zxt_6 34 rfl rfl
theorem zx_1342 : (Jvm.Cond.selects "DrownedSlates" ({ cls := "DrownedSlates", name := "chart", desc := "(I)J" } : Jvm.MethodName) ({ cls := "DrownedSlates", name := "chart", desc := "(I)J" } : Jvm.MethodName)) ∈ za_wd := zxt_6 35 rfl rfl
theorem zx_1343 : (Jvm.Cond.code ({ cls := "DrownedSlates", name := "chart", desc := "(I)J" } : Jvm.MethodName) prog_1_method_23_code (7 : Nat) (Option.some Jvm.ClassFile.FieldType.long)) ∈ za_wd := zxt_6 36 rfl rfl
theorem zx_1344 : (Jvm.Cond.methodLink "DrownedSlates" (322 : Nat) ({ cls := "DrownedSlates$Ship", name := "wreck", desc := "()J" } : Jvm.MethodName)) ∈ za_wd := zxt_6 37 rfl rfl
theorem zx_1345 : (Jvm.Cond.constantLong "DrownedSlates" (325 : Nat) (-1 : Int64)) ∈ za_wd := zxt_6 38 rfl rfl
theorem zx_1346 : (Jvm.Cond.methodLink "DrownedSlatesLaw" (151 : Nat) ({ cls := "DrownedSlatesLaw", name := "hand", desc := "(LDrownedSlates;II[J)I" } : Jvm.MethodName)) ∈ za_wd := zxt_6 39 rfl rfl
theorem zx_1347 : (Jvm.Cond.static ({ cls := "DrownedSlatesLaw", name := "hand", desc := "(LDrownedSlates;II[J)I" } : Jvm.MethodName)) ∈ za_wd := zxt_6 40 rfl rfl
theorem zx_1348 : (Jvm.Cond.codeWith ({ cls := "DrownedSlatesLaw", name := "hand", desc := "(LDrownedSlates;II[J)I" } : Jvm.MethodName) method_19_code (5 : Nat) (Option.some Jvm.ClassFile.FieldType.int) [((0 : Nat), (9 : Nat), (12 : Nat), (18 : Nat))]) ∈ za_wd := zxt_6 41 rfl rfl
theorem zx_1349 : (Jvm.Cond.methodLink "DrownedSlatesLaw" (67 : Nat) ({ cls := "DrownedSlates", name := "hand", desc := "(II)J" } : Jvm.MethodName)) ∈ za_wd := zxt_6 42 rfl rfl
theorem zx_1350 : (Jvm.Cond.instanceMethod ({ cls := "DrownedSlates", name := "hand", desc := "(II)J" } : Jvm.MethodName)) ∈ za_wd := zxt_6 43 rfl rfl
theorem zx_1351 : (Jvm.Cond.selects "DrownedSlates" ({ cls := "DrownedSlates", name := "hand", desc := "(II)J" } : Jvm.MethodName) ({ cls := "DrownedSlates", name := "hand", desc := "(II)J" } : Jvm.MethodName)) ∈ za_wd := zxt_6 44 rfl rfl
theorem zx_1352 : (Jvm.Cond.code ({ cls := "DrownedSlates", name := "hand", desc := "(II)J" } : Jvm.MethodName) prog_1_method_24_code (3 : Nat) (Option.some Jvm.ClassFile.FieldType.long)) ∈ za_wd := zxt_6 45 rfl rfl
theorem zx_1353 : (Jvm.Cond.methodLink "DrownedSlates" (330 : Nat) ({ cls := "DrownedSlates$Hands", name := "compare", desc := "(LDrownedSlates$Waters;LDrownedSlates$Chalk;I)V" } : Jvm.MethodName)) ∈ za_wd := zxt_6 46 rfl rfl
theorem zx_1354 : (Jvm.Cond.instanceMethod ({ cls := "DrownedSlates$Hands", name := "compare", desc := "(LDrownedSlates$Waters;LDrownedSlates$Chalk;I)V" } : Jvm.MethodName)) ∈ za_wd := zxt_6 47 rfl rfl
theorem zx_1355 : (Jvm.Cond.selects "DrownedSlates$Hands" ({ cls := "DrownedSlates$Hands", name := "compare", desc := "(LDrownedSlates$Waters;LDrownedSlates$Chalk;I)V" } : Jvm.MethodName) ({ cls := "DrownedSlates$Hands", name := "compare", desc := "(LDrownedSlates$Waters;LDrownedSlates$Chalk;I)V" } : Jvm.MethodName)) ∈ za_wd := zxt_6 48 rfl rfl
theorem zx_1356 : (Jvm.Cond.code ({ cls := "DrownedSlates$Hands", name := "compare", desc := "(LDrownedSlates$Waters;LDrownedSlates$Chalk;I)V" } : Jvm.MethodName) prog_6_method_2_code (7 : Nat) (Option.none : Option Jvm.ClassFile.FieldType)) ∈ za_wd := zxt_6 49 rfl rfl
theorem zx_1357 : (Jvm.Cond.methodLink "DrownedSlates$Hands" (36 : Nat) ({ cls := "DrownedSlates$Hands", name := "weigh", desc := "(LDrownedSlates$Waters;LDrownedSlates$Chalk;IIII)V" } : Jvm.MethodName)) ∈ za_wd := zxt_6 50 rfl rfl
theorem zx_1359 : (Jvm.Cond.instanceMethod ({ cls := "DrownedSlates$Hands", name := "weigh", desc := "(LDrownedSlates$Waters;LDrownedSlates$Chalk;IIII)V" } : Jvm.MethodName)) ∈ za_wd := zxt_6 52 rfl rfl
theorem zx_1360 : (Jvm.Cond.code ({ cls := "DrownedSlates$Hands", name := "weigh", desc := "(LDrownedSlates$Waters;LDrownedSlates$Chalk;IIII)V" } : Jvm.MethodName) prog_6_method_3_code (10 : Nat) (Option.none : Option Jvm.ClassFile.FieldType)) ∈ za_wd := zxt_6 53 rfl rfl
theorem zx_1361 : (Jvm.Cond.methodLink "DrownedSlates$Hands" (40 : Nat) ({ cls := "DrownedSlates$Chalk", name := "wayOf", desc := "(II)I" } : Jvm.MethodName)) ∈ za_wd := zxt_6 54 rfl rfl
theorem zx_1362 : (Jvm.Cond.methodLink "DrownedSlates$Hands" (44 : Nat) ({ cls := "DrownedSlates$Waters", name := "weightOf", desc := "(II)I" } : Jvm.MethodName)) ∈ za_wd := zxt_6 55 rfl rfl
theorem zx_1363 : (Jvm.Cond.instanceMethod ({ cls := "DrownedSlates$Waters", name := "weightOf", desc := "(II)I" } : Jvm.MethodName)) ∈ za_wd := zxt_6 56 rfl rfl
theorem zx_1364 : (Jvm.Cond.selects "DrownedSlates$Waters" ({ cls := "DrownedSlates$Waters", name := "weightOf", desc := "(II)I" } : Jvm.MethodName) ({ cls := "DrownedSlates$Waters", name := "weightOf", desc := "(II)I" } : Jvm.MethodName)) ∈ za_wd := zxt_6 57 rfl rfl
theorem zx_1365 : (Jvm.Cond.code ({ cls := "DrownedSlates$Waters", name := "weightOf", desc := "(II)I" } : Jvm.MethodName) prog_12_method_16_code (3 : Nat) (Option.some Jvm.ClassFile.FieldType.int)) ∈ za_wd := zxt_6 58 rfl rfl
theorem zx_1366 : (Jvm.Cond.methodLink "DrownedSlatesLaw" (154 : Nat) ({ cls := "DrownedSlatesLaw", name := "copied", desc := "(LDrownedSlates;III[J)I" } : Jvm.MethodName)) ∈ za_wd := zxt_6 59 rfl rfl
theorem zx_1367 : (Jvm.Cond.static ({ cls := "DrownedSlatesLaw", name := "copied", desc := "(LDrownedSlates;III[J)I" } : Jvm.MethodName)) ∈ za_wd := zxt_6 60 rfl rfl
theorem zx_1368 : (Jvm.Cond.codeWith ({ cls := "DrownedSlatesLaw", name := "copied", desc := "(LDrownedSlates;III[J)I" } : Jvm.MethodName) method_20_code (6 : Nat) (Option.some Jvm.ClassFile.FieldType.int) [((0 : Nat), (12 : Nat), (15 : Nat), (18 : Nat)), ((0 : Nat), (12 : Nat), (19 : Nat), (13 : Nat))]) ∈ za_wd := zxt_6 61 rfl rfl
theorem zx_1369 : (Jvm.Cond.methodLink "DrownedSlatesLaw" (70 : Nat) ({ cls := "DrownedSlates", name := "copied", desc := "(III)I" } : Jvm.MethodName)) ∈ za_wd := zxt_6 62 rfl rfl
theorem zx_1370 : (Jvm.Cond.instanceMethod ({ cls := "DrownedSlates", name := "copied", desc := "(III)I" } : Jvm.MethodName)) ∈ za_wd := zxt_6 63 rfl rfl
theorem zx_1371 : (Jvm.Cond.selects "DrownedSlates" ({ cls := "DrownedSlates", name := "copied", desc := "(III)I" } : Jvm.MethodName) ({ cls := "DrownedSlates", name := "copied", desc := "(III)I" } : Jvm.MethodName)) ∈ za_wd := zxt_6 64 rfl rfl
theorem zx_1372 : (Jvm.Cond.code ({ cls := "DrownedSlates", name := "copied", desc := "(III)I" } : Jvm.MethodName) prog_1_method_25_code (4 : Nat) (Option.some Jvm.ClassFile.FieldType.int)) ∈ za_wd := zxt_6 65 rfl rfl
theorem zx_1374 : (Jvm.Cond.methodLink "DrownedSlates" (347 : Nat) ({ cls := "DrownedSlates$Likeness", name := "compare", desc := "(LDrownedSlates$Chalk;II)V" } : Jvm.MethodName)) ∈ za_wd := zxt_6 67 rfl rfl
theorem zx_1375 : (Jvm.Cond.instanceMethod ({ cls := "DrownedSlates$Likeness", name := "compare", desc := "(LDrownedSlates$Chalk;II)V" } : Jvm.MethodName)) ∈ za_wd := zxt_6 68 rfl rfl
theorem zx_1376 : (Jvm.Cond.selects "DrownedSlates$Likeness" ({ cls := "DrownedSlates$Likeness", name := "compare", desc := "(LDrownedSlates$Chalk;II)V" } : Jvm.MethodName) ({ cls := "DrownedSlates$Likeness", name := "compare", desc := "(LDrownedSlates$Chalk;II)V" } : Jvm.MethodName)) ∈ za_wd := zxt_6 69 rfl rfl
theorem zx_1377 : (Jvm.Cond.code ({ cls := "DrownedSlates$Likeness", name := "compare", desc := "(LDrownedSlates$Chalk;II)V" } : Jvm.MethodName) prog_8_method_2_code (7 : Nat) (Option.none : Option Jvm.ClassFile.FieldType)) ∈ za_wd := zxt_6 70 rfl rfl
theorem zx_1378 : (Jvm.Cond.methodLink "DrownedSlates$Likeness" (27 : Nat) ({ cls := "DrownedSlates$Likeness", name := "alikeFrom", desc := "(LDrownedSlates$Chalk;IIII)I" } : Jvm.MethodName)) ∈ za_wd := zxt_6 71 rfl rfl
theorem zx_1379 : (Jvm.Cond.static ({ cls := "DrownedSlates$Likeness", name := "alikeFrom", desc := "(LDrownedSlates$Chalk;IIII)I" } : Jvm.MethodName)) ∈ za_wd := zxt_6 72 rfl rfl
theorem zx_1380 : (Jvm.Cond.code ({ cls := "DrownedSlates$Likeness", name := "alikeFrom", desc := "(LDrownedSlates$Chalk;IIII)I" } : Jvm.MethodName) prog_8_method_3_code (7 : Nat) (Option.some Jvm.ClassFile.FieldType.int)) ∈ za_wd := zxt_6 73 rfl rfl
theorem zx_1381 : (Jvm.Cond.methodLink "DrownedSlates$Likeness" (31 : Nat) ({ cls := "java/lang/Math", name := "min", desc := "(II)I" } : Jvm.MethodName)) ∈ za_wd := zxt_6 74 rfl rfl
theorem zx_1382 : (Jvm.Cond.methodLink "DrownedSlates$Likeness" (37 : Nat) ({ cls := "DrownedSlates$Chalk", name := "wayOf", desc := "(II)I" } : Jvm.MethodName)) ∈ za_wd := zxt_6 75 rfl rfl
theorem zx_1383 : (Jvm.Cond.methodLink "DrownedSlates$Likeness" (40 : Nat) ({ cls := "DrownedSlates$Chalk", name := "stepsOf", desc := "(II)I" } : Jvm.MethodName)) ∈ za_wd := zxt_6 76 rfl rfl
theorem zx_1384 : (Jvm.Cond.classLink "DrownedSlatesLaw" (74 : Nat) "DrownedSlatesModel") ∈ za_wd := zxt_6 77 rfl rfl
theorem zx_1385 : (Jvm.Cond.instantiable "DrownedSlatesModel" (85 : Nat)) ∈ za_wd := zxt_6 78 rfl rfl
theorem zx_1386 : (Jvm.Cond.methodLink "DrownedSlatesLaw" (76 : Nat) ({ cls := "DrownedSlatesModel", name := "<init>", desc := "()V" } : Jvm.MethodName)) ∈ za_wd := zxt_6 79 rfl rfl
theorem zx_1387 : (Jvm.Cond.instanceMethod ({ cls := "DrownedSlatesModel", name := "<init>", desc := "()V" } : Jvm.MethodName)) ∈ za_wd := zxt_6 80 rfl rfl
theorem zx_1388 : (Jvm.Cond.code ({ cls := "DrownedSlatesModel", name := "<init>", desc := "()V" } : Jvm.MethodName) prog_14_method_1_code (2 : Nat) (Option.none : Option Jvm.ClassFile.FieldType)) ∈ za_wd := zxt_6 81 rfl rfl
theorem zx_1389 : (Jvm.Cond.methodLink "DrownedSlatesModel" (1 : Nat) ({ cls := "java/lang/Object", name := "<init>", desc := "()V" } : Jvm.MethodName)) ∈ za_wd := zxt_6 82 rfl rfl
theorem zx_1390 : (Jvm.Cond.fieldLink "DrownedSlatesModel" (124 : Nat) "DrownedSlatesModel" "thrown" "I") ∈ za_wd := zxt_6 83 rfl rfl
theorem zx_1391 : (Jvm.Cond.fieldLink "DrownedSlatesModel" (7 : Nat) "DrownedSlatesModel" "wide" "I") ∈ za_wd := zxt_6 84 rfl rfl
theorem zx_1392 : (Jvm.Cond.fieldLink "DrownedSlatesModel" (13 : Nat) "DrownedSlatesModel" "high" "I") ∈ za_wd := zxt_6 85 rfl rfl
theorem zx_1393 : (Jvm.Cond.fieldLink "DrownedSlatesModel" (332 : Nat) "DrownedSlatesModel" "rocks" "I") ∈ za_wd := zxt_6 86 rfl rfl
theorem zx_1394 : (Jvm.Cond.fieldLink "DrownedSlatesModel" (335 : Nat) "DrownedSlatesModel" "currents" "I") ∈ za_wd := zxt_6 87 rfl rfl
theorem zx_1395 : (Jvm.Cond.fieldLink "DrownedSlatesModel" (338 : Nat) "DrownedSlatesModel" "slates" "I") ∈ za_wd := zxt_6 88 rfl rfl
theorem zx_1396 : (Jvm.Cond.fieldLink "DrownedSlatesModel" (341 : Nat) "DrownedSlatesModel" "hands" "I") ∈ za_wd := zxt_6 89 rfl rfl
theorem zx_1397 : (Jvm.Cond.fieldLink "DrownedSlatesModel" (344 : Nat) "DrownedSlatesModel" "pilots" "I") ∈ za_wd := zxt_6 90 rfl rfl
theorem zx_1398 : (Jvm.Cond.fieldLink "DrownedSlatesModel" (347 : Nat) "DrownedSlatesModel" "rules" "I") ∈ za_wd := zxt_6 91 rfl rfl
theorem zx_1399 : (Jvm.Cond.fieldLink "DrownedSlatesModel" (350 : Nat) "DrownedSlatesModel" "school" "I") ∈ za_wd := zxt_6 92 rfl rfl
theorem zx_1400 : (Jvm.Cond.fieldLink "DrownedSlatesModel" (16 : Nat) "DrownedSlatesModel" "reach" "I") ∈ za_wd := zxt_6 93 rfl rfl
theorem zx_1401 : (Jvm.Cond.fieldLink "DrownedSlatesModel" (19 : Nat) "DrownedSlatesModel" "goal" "I") ∈ za_wd := zxt_6 94 rfl rfl
theorem zx_1402 : (Jvm.Cond.fieldLink "DrownedSlatesModel" (353 : Nat) "DrownedSlatesModel" "rock" "J") ∈ za_wd := zxt_6 95 rfl rfl
theorem zx_1403 : (Jvm.Cond.fieldLink "DrownedSlatesModel" (22 : Nat) "DrownedSlatesModel" "current" "[I") ∈ za_wd := zxt_6 96 rfl rfl
theorem zx_1404 : (Jvm.Cond.fieldLink "DrownedSlatesModel" (26 : Nat) "DrownedSlatesModel" "slate" "[I") ∈ za_wd := zxt_6 97 rfl rfl
theorem zx_1405 : (Jvm.Cond.fieldLink "DrownedSlatesModel" (29 : Nat) "DrownedSlatesModel" "mark" "[I") ∈ za_wd := zxt_6 98 rfl rfl
theorem zx_1406 : (Jvm.Cond.fieldLink "DrownedSlatesModel" (32 : Nat) "DrownedSlatesModel" "weight" "[I") ∈ za_wd := zxt_6 99 rfl rfl
theorem zx_1407 : (Jvm.Cond.fieldLink "DrownedSlatesModel" (35 : Nat) "DrownedSlatesModel" "pilot" "[I") ∈ za_wd := zxt_6 100 rfl rfl
theorem zx_1408 : (Jvm.Cond.fieldLink "DrownedSlatesModel" (38 : Nat) "DrownedSlatesModel" "ruleAt" "[I") ∈ za_wd := zxt_6 101 rfl rfl
theorem zx_1409 : (Jvm.Cond.fieldLink "DrownedSlatesModel" (41 : Nat) "DrownedSlatesModel" "ruleWay" "[I") ∈ za_wd := zxt_6 102 rfl rfl
theorem zx_1410 : (Jvm.Cond.fieldLink "DrownedSlatesModel" (44 : Nat) "DrownedSlatesModel" "code" "[I") ∈ za_wd := zxt_6 103 rfl rfl
theorem zx_1411 : (Jvm.Cond.fieldLink "DrownedSlatesModel" (47 : Nat) "DrownedSlatesModel" "tape" "[I") ∈ za_wd := zxt_6 104 rfl rfl
theorem zx_1412 : (Jvm.Cond.fieldLink "DrownedSlatesModel" (127 : Nat) "DrownedSlatesModel" "taped" "I") ∈ za_wd := zxt_6 105 rfl rfl
theorem zx_1413 : (Jvm.Cond.fieldLink "DrownedSlatesModel" (180 : Nat) "DrownedSlatesModel" "faultKind" "I") ∈ za_wd := zxt_6 106 rfl rfl
theorem zx_1414 : (Jvm.Cond.fieldLink "DrownedSlatesModel" (50 : Nat) "DrownedSlatesModel" "faultPlace" "I") ∈ za_wd := zxt_6 107 rfl rfl
theorem zx_1415 : (Jvm.Cond.fieldLink "DrownedSlatesModel" (53 : Nat) "DrownedSlatesModel" "refused" "[I") ∈ za_wd := zxt_6 108 rfl rfl
theorem zx_1416 : (Jvm.Cond.fieldLink "DrownedSlatesModel" (134 : Nat) "DrownedSlatesModel" "long1" "I") ∈ za_wd := zxt_6 109 rfl rfl
theorem zx_1417 : (Jvm.Cond.fieldLink "DrownedSlatesModel" (137 : Nat) "DrownedSlatesModel" "next" "I") ∈ za_wd := zxt_6 110 rfl rfl
theorem zx_1418 : (Jvm.Cond.fieldLink "DrownedSlatesModel" (157 : Nat) "DrownedSlatesModel" "sort" "I") ∈ za_wd := zxt_6 111 rfl rfl
theorem zx_1419 : (Jvm.Cond.fieldLink "DrownedSlatesModel" (144 : Nat) "DrownedSlatesModel" "place" "I") ∈ za_wd := zxt_6 112 rfl rfl
theorem zx_1420 : (Jvm.Cond.fieldLink "DrownedSlatesModel" (167 : Nat) "DrownedSlatesModel" "long0" "I") ∈ za_wd := zxt_6 113 rfl rfl
theorem zx_1421 : (Jvm.Cond.fieldLink "DrownedSlatesModel" (151 : Nat) "DrownedSlatesModel" "value" "I") ∈ za_wd := zxt_6 114 rfl rfl
theorem zx_1422 : (Jvm.Cond.fieldLink "DrownedSlatesModel" (154 : Nat) "DrownedSlatesModel" "sign" "I") ∈ za_wd := zxt_6 115 rfl rfl
theorem zx_1423 : (Jvm.Cond.fieldLink "DrownedSlatesModel" (147 : Nat) "DrownedSlatesModel" "word" "J") ∈ za_wd := zxt_6 116 rfl rfl
theorem zx_1424 : (Jvm.Cond.fieldLink "DrownedSlatesModel" (251 : Nat) "DrownedSlatesModel" "newWide" "I") ∈ za_wd := zxt_6 117 rfl rfl
theorem zx_1425 : (Jvm.Cond.fieldLink "DrownedSlatesModel" (258 : Nat) "DrownedSlatesModel" "newHigh" "I") ∈ za_wd := zxt_6 118 rfl rfl
theorem zx_1426 : (Jvm.Cond.fieldLink "DrownedSlatesModel" (286 : Nat) "DrownedSlatesModel" "newRocks" "I") ∈ za_wd := zxt_6 119 rfl rfl
theorem zx_1427 : (Jvm.Cond.fieldLink "DrownedSlatesModel" (292 : Nat) "DrownedSlatesModel" "newCurrents" "I") ∈ za_wd := zxt_6 120 rfl rfl
theorem zx_1428 : (Jvm.Cond.fieldLink "DrownedSlatesModel" (264 : Nat) "DrownedSlatesModel" "newSlates" "I") ∈ za_wd := zxt_6 121 rfl rfl
theorem zx_1429 : (Jvm.Cond.fieldLink "DrownedSlatesModel" (276 : Nat) "DrownedSlatesModel" "newHands" "I") ∈ za_wd := zxt_6 122 rfl rfl
theorem zx_1430 : (Jvm.Cond.fieldLink "DrownedSlatesModel" (279 : Nat) "DrownedSlatesModel" "newPilots" "I") ∈ za_wd := zxt_6 123 rfl rfl
theorem zx_1431 : (Jvm.Cond.fieldLink "DrownedSlatesModel" (319 : Nat) "DrownedSlatesModel" "newRules" "I") ∈ za_wd := zxt_6 124 rfl rfl
theorem zx_1432 : (Jvm.Cond.fieldLink "DrownedSlatesModel" (304 : Nat) "DrownedSlatesModel" "newSchool" "I") ∈ za_wd := zxt_6 125 rfl rfl
theorem zx_1433 : (Jvm.Cond.fieldLink "DrownedSlatesModel" (307 : Nat) "DrownedSlatesModel" "newReach" "I") ∈ za_wd := zxt_6 126 rfl rfl
theorem zx_1434 : (Jvm.Cond.fieldLink "DrownedSlatesModel" (313 : Nat) "DrownedSlatesModel" "newGoal" "I") ∈ za_wd := zxt_6 127 rfl rfl
theorem zx_1435 : (Jvm.Cond.fieldLink "DrownedSlatesModel" (209 : Nat) "DrownedSlatesModel" "top" "I") ∈ za_wd := zxt_6 128 rfl rfl
theorem zx_1436 : (Jvm.Cond.fieldLink "DrownedSlatesModel" (212 : Nat) "DrownedSlatesModel" "waiting" "I") ∈ za_wd := zxt_6 129 rfl rfl
theorem zx_1437 : (Jvm.Cond.fieldLink "DrownedSlatesModel" (224 : Nat) "DrownedSlatesModel" "depth" "I") ∈ za_wd := zxt_6 130 rfl rfl
theorem zx_1438 : (Jvm.Cond.fieldLink "DrownedSlatesModel" (301 : Nat) "DrownedSlatesModel" "hasSchool" "Z") ∈ za_wd := zxt_6 131 rfl rfl
theorem zx_1439 : (Jvm.Cond.fieldLink "DrownedSlatesModel" (310 : Nat) "DrownedSlatesModel" "hasGoal" "Z") ∈ za_wd := zxt_6 132 rfl rfl
theorem zx_1440 : (Jvm.Cond.fieldLink "DrownedSlatesModel" (282 : Nat) "DrownedSlatesModel" "isFirst" "Z") ∈ za_wd := zxt_6 133 rfl rfl
theorem zx_1441 : (Jvm.Cond.fieldLink "DrownedSlatesModel" (289 : Nat) "DrownedSlatesModel" "newRock" "J") ∈ za_wd := zxt_6 134 rfl rfl
theorem zx_1442 : (Jvm.Cond.fieldLink "DrownedSlatesModel" (56 : Nat) "DrownedSlatesModel" "newCurrent" "[I") ∈ za_wd := zxt_6 135 rfl rfl
theorem zx_1443 : (Jvm.Cond.fieldLink "DrownedSlatesModel" (59 : Nat) "DrownedSlatesModel" "newSlate" "[I") ∈ za_wd := zxt_6 136 rfl rfl
theorem zx_1444 : (Jvm.Cond.fieldLink "DrownedSlatesModel" (62 : Nat) "DrownedSlatesModel" "newMark" "[I") ∈ za_wd := zxt_6 137 rfl rfl
theorem zx_1445 : (Jvm.Cond.fieldLink "DrownedSlatesModel" (65 : Nat) "DrownedSlatesModel" "newWeight" "[I") ∈ za_wd := zxt_6 138 rfl rfl
theorem zx_1446 : (Jvm.Cond.fieldLink "DrownedSlatesModel" (68 : Nat) "DrownedSlatesModel" "newPilot" "[I") ∈ za_wd := zxt_6 139 rfl rfl
theorem zx_1447 : (Jvm.Cond.fieldLink "DrownedSlatesModel" (71 : Nat) "DrownedSlatesModel" "newRuleAt" "[I") ∈ za_wd := zxt_6 140 rfl rfl
theorem zx_1448 : (Jvm.Cond.fieldLink "DrownedSlatesModel" (74 : Nat) "DrownedSlatesModel" "newRuleWay" "[I") ∈ za_wd := zxt_6 141 rfl rfl
theorem zx_1449 : (Jvm.Cond.fieldLink "DrownedSlatesModel" (77 : Nat) "DrownedSlatesModel" "readCode" "[I") ∈ za_wd := zxt_6 142 rfl rfl
theorem zx_1450 : (Jvm.Cond.fieldLink "DrownedSlatesModel" (80 : Nat) "DrownedSlatesModel" "waits" "[I") ∈ za_wd := zxt_6 143 rfl rfl
theorem zx_1451 : (Jvm.Cond.fieldLink "DrownedSlatesModel" (83 : Nat) "DrownedSlatesModel" "tested" "[Z") ∈ za_wd := zxt_6 144 rfl rfl
theorem zx_1452 : (Jvm.Cond.fieldLink "DrownedSlatesModel" (360 : Nat) "DrownedSlatesModel" "acts" "I") ∈ za_wd := zxt_6 145 rfl rfl
theorem zx_1453 : (Jvm.Cond.fieldLink "DrownedSlatesModel" (87 : Nat) "DrownedSlatesModel" "act" "[I") ∈ za_wd := zxt_6 146 rfl rfl
theorem zx_1454 : (Jvm.Cond.fieldLink "DrownedSlatesModel" (386 : Nat) "DrownedSlatesModel" "at" "I") ∈ za_wd := zxt_6 147 rfl rfl
theorem zx_1455 : (Jvm.Cond.fieldLink "DrownedSlatesModel" (395 : Nat) "DrownedSlatesModel" "seen" "J") ∈ za_wd := zxt_6 148 rfl rfl
theorem zx_1456 : (Jvm.Cond.fieldLink "DrownedSlatesModel" (401 : Nat) "DrownedSlatesModel" "end" "I") ∈ za_wd := zxt_6 149 rfl rfl
theorem zx_1457 : (Jvm.Cond.fieldLink "DrownedSlatesModel" (404 : Nat) "DrownedSlatesModel" "endMark" "I") ∈ za_wd := zxt_6 150 rfl rfl
theorem zx_1458 : (Jvm.Cond.fieldLink "DrownedSlatesModel" (413 : Nat) "DrownedSlatesModel" "endStep" "I") ∈ za_wd := zxt_6 151 rfl rfl
theorem zx_1459 : (Jvm.Cond.fieldLink "DrownedSlatesModel" (398 : Nat) "DrownedSlatesModel" "endHour" "I") ∈ za_wd := zxt_6 152 rfl rfl
theorem zx_1460 : (Jvm.Cond.fieldLink "DrownedSlatesModel" (407 : Nat) "DrownedSlatesModel" "markAt" "I") ∈ za_wd := zxt_6 153 rfl rfl
theorem zx_1461 : (Jvm.Cond.fieldLink "DrownedSlatesModel" (410 : Nat) "DrownedSlatesModel" "markHour" "I") ∈ za_wd := zxt_6 154 rfl rfl
theorem zx_1462 : (Jvm.Cond.fieldLink "DrownedSlatesModel" (90 : Nat) "DrownedSlatesModel" "may" "[J") ∈ za_wd := zxt_6 155 rfl rfl
theorem zx_1463 : (Jvm.Cond.fieldLink "DrownedSlatesModel" (94 : Nat) "DrownedSlatesModel" "mayThen" "[J") ∈ za_wd := zxt_6 156 rfl rfl
theorem zx_1464 : (Jvm.Cond.fieldLink "DrownedSlatesModel" (97 : Nat) "DrownedSlatesModel" "moved" "[J") ∈ za_wd := zxt_6 157 rfl rfl
theorem zx_1465 : (Jvm.Cond.fieldLink "DrownedSlatesModel" (100 : Nat) "DrownedSlatesModel" "pile" "[I") ∈ za_wd := zxt_6 158 rfl rfl
theorem zx_1466 : (Jvm.Cond.fieldLink "DrownedSlatesModel" (103 : Nat) "DrownedSlatesModel" "row" "[I") ∈ za_wd := zxt_6 159 rfl rfl
theorem zx_1467 : (Jvm.Cond.fieldLink "DrownedSlatesModel" (106 : Nat) "DrownedSlatesModel" "ends" "[I") ∈ za_wd := zxt_6 160 rfl rfl
theorem zx_1468 : (Jvm.Cond.fieldLink "DrownedSlatesModel" (109 : Nat) "DrownedSlatesModel" "study" "[I") ∈ za_wd := zxt_6 161 rfl rfl
theorem zx_1469 : (Jvm.Cond.fieldLink "DrownedSlatesModel" (112 : Nat) "DrownedSlatesModel" "studyLong" "I") ∈ za_wd := zxt_6 162 rfl rfl
theorem zx_1470 : (Jvm.Cond.fieldLink "DrownedSlatesModel" (363 : Nat) "DrownedSlatesModel" "hasImage" "Z") ∈ za_wd := zxt_6 163 rfl rfl
theorem zx_1471 : (Jvm.Cond.fieldLink "DrownedSlatesModel" (469 : Nat) "DrownedSlatesModel" "imageActs" "I") ∈ za_wd := zxt_6 164 rfl rfl
theorem zx_1472 : (Jvm.Cond.fieldLink "DrownedSlatesModel" (115 : Nat) "DrownedSlatesModel" "imageSlate" "[I") ∈ za_wd := zxt_6 165 rfl rfl
theorem zx_1473 : (Jvm.Cond.fieldLink "DrownedSlatesModel" (118 : Nat) "DrownedSlatesModel" "imageMark" "[I") ∈ za_wd := zxt_6 166 rfl rfl
theorem zx_1474 : (Jvm.Cond.fieldLink "DrownedSlatesModel" (121 : Nat) "DrownedSlatesModel" "imageAct" "[I") ∈ za_wd := zxt_6 167 rfl rfl
theorem zx_1475 : (Jvm.Cond.lays "DrownedSlatesModel" "DrownedSlatesModel" "thrown" "I") ∈ za_wd := zxt_6 168 rfl rfl
theorem zx_1477 : (Jvm.Cond.lays "DrownedSlatesModel" "DrownedSlatesModel" "wide" "I") ∈ za_wd := zxt_6 170 rfl rfl
theorem zx_1479 : (Jvm.Cond.lays "DrownedSlatesModel" "DrownedSlatesModel" "high" "I") ∈ za_wd := zxt_6 172 rfl rfl
theorem zx_1481 : (Jvm.Cond.lays "DrownedSlatesModel" "DrownedSlatesModel" "rocks" "I") ∈ za_wd := zxt_6 174 rfl rfl
theorem zx_1483 : (Jvm.Cond.lays "DrownedSlatesModel" "DrownedSlatesModel" "currents" "I") ∈ za_wd := zxt_6 176 rfl rfl
theorem zx_1485 : (Jvm.Cond.lays "DrownedSlatesModel" "DrownedSlatesModel" "slates" "I") ∈ za_wd := zxt_6 178 rfl rfl
theorem zx_1487 : (Jvm.Cond.lays "DrownedSlatesModel" "DrownedSlatesModel" "hands" "I") ∈ za_wd := zxt_6 180 rfl rfl
theorem zx_1489 : (Jvm.Cond.lays "DrownedSlatesModel" "DrownedSlatesModel" "pilots" "I") ∈ za_wd := zxt_6 182 rfl rfl
theorem zx_1491 : (Jvm.Cond.lays "DrownedSlatesModel" "DrownedSlatesModel" "rules" "I") ∈ za_wd := zxt_6 184 rfl rfl
theorem zx_1493 : (Jvm.Cond.lays "DrownedSlatesModel" "DrownedSlatesModel" "school" "I") ∈ za_wd := zxt_6 186 rfl rfl
theorem zx_1495 : (Jvm.Cond.lays "DrownedSlatesModel" "DrownedSlatesModel" "reach" "I") ∈ za_wd := zxt_6 188 rfl rfl
theorem zx_1497 : (Jvm.Cond.lays "DrownedSlatesModel" "DrownedSlatesModel" "goal" "I") ∈ za_wd := zxt_6 190 rfl rfl
theorem zx_1499 : (Jvm.Cond.lays "DrownedSlatesModel" "DrownedSlatesModel" "rock" "J") ∈ za_wd := zxt_6 192 rfl rfl
theorem zx_1501 : (Jvm.Cond.laysFinal "DrownedSlatesModel" "DrownedSlatesModel" "current" "[I") ∈ za_wd := zxt_6 194 rfl rfl
theorem zx_1503 : (Jvm.Cond.laysFinal "DrownedSlatesModel" "DrownedSlatesModel" "slate" "[I") ∈ za_wd := zxt_6 196 rfl rfl
theorem zx_1505 : (Jvm.Cond.laysFinal "DrownedSlatesModel" "DrownedSlatesModel" "mark" "[I") ∈ za_wd := zxt_6 198 rfl rfl
theorem zx_1507 : (Jvm.Cond.laysFinal "DrownedSlatesModel" "DrownedSlatesModel" "weight" "[I") ∈ za_wd := zxt_6 200 rfl rfl
theorem zx_1509 : (Jvm.Cond.laysFinal "DrownedSlatesModel" "DrownedSlatesModel" "pilot" "[I") ∈ za_wd := zxt_6 202 rfl rfl
theorem zx_1511 : (Jvm.Cond.laysFinal "DrownedSlatesModel" "DrownedSlatesModel" "ruleAt" "[I") ∈ za_wd := zxt_6 204 rfl rfl
theorem zx_1513 : (Jvm.Cond.laysFinal "DrownedSlatesModel" "DrownedSlatesModel" "ruleWay" "[I") ∈ za_wd := zxt_6 206 rfl rfl
theorem zx_1515 : (Jvm.Cond.laysFinal "DrownedSlatesModel" "DrownedSlatesModel" "code" "[I") ∈ za_wd := zxt_6 208 rfl rfl
theorem zx_1517 : (Jvm.Cond.laysFinal "DrownedSlatesModel" "DrownedSlatesModel" "tape" "[I") ∈ za_wd := zxt_6 210 rfl rfl
theorem zx_1519 : (Jvm.Cond.lays "DrownedSlatesModel" "DrownedSlatesModel" "taped" "I") ∈ za_wd := zxt_6 212 rfl rfl
theorem zx_1521 : (Jvm.Cond.lays "DrownedSlatesModel" "DrownedSlatesModel" "faultKind" "I") ∈ za_wd := zxt_6 214 rfl rfl
theorem zx_1523 : (Jvm.Cond.lays "DrownedSlatesModel" "DrownedSlatesModel" "faultPlace" "I") ∈ za_wd := zxt_6 216 rfl rfl
theorem zx_1525 : (Jvm.Cond.laysFinal "DrownedSlatesModel" "DrownedSlatesModel" "refused" "[I") ∈ za_wd := zxt_6 218 rfl rfl
theorem zx_1527 : (Jvm.Cond.lays "DrownedSlatesModel" "DrownedSlatesModel" "long1" "I") ∈ za_wd := zxt_6 220 rfl rfl
theorem zx_1529 : (Jvm.Cond.lays "DrownedSlatesModel" "DrownedSlatesModel" "next" "I") ∈ za_wd := zxt_6 222 rfl rfl
theorem zx_1531 : (Jvm.Cond.lays "DrownedSlatesModel" "DrownedSlatesModel" "sort" "I") ∈ za_wd := zxt_6 224 rfl rfl
theorem zx_1533 : (Jvm.Cond.lays "DrownedSlatesModel" "DrownedSlatesModel" "place" "I") ∈ za_wd := zxt_6 226 rfl rfl
theorem zx_1535 : (Jvm.Cond.lays "DrownedSlatesModel" "DrownedSlatesModel" "long0" "I") ∈ za_wd := zxt_6 228 rfl rfl
theorem zx_1537 : (Jvm.Cond.lays "DrownedSlatesModel" "DrownedSlatesModel" "value" "I") ∈ za_wd := zxt_6 230 rfl rfl
theorem zx_1539 : (Jvm.Cond.lays "DrownedSlatesModel" "DrownedSlatesModel" "sign" "I") ∈ za_wd := zxt_6 232 rfl rfl
theorem zx_1541 : (Jvm.Cond.lays "DrownedSlatesModel" "DrownedSlatesModel" "word" "J") ∈ za_wd := zxt_6 234 rfl rfl
theorem zx_1543 : (Jvm.Cond.lays "DrownedSlatesModel" "DrownedSlatesModel" "newWide" "I") ∈ za_wd := zxt_6 236 rfl rfl
theorem zx_1545 : (Jvm.Cond.lays "DrownedSlatesModel" "DrownedSlatesModel" "newHigh" "I") ∈ za_wd := zxt_6 238 rfl rfl
theorem zx_1547 : (Jvm.Cond.lays "DrownedSlatesModel" "DrownedSlatesModel" "newRocks" "I") ∈ za_wd := zxt_7 0 rfl rfl
theorem zx_1549 : (Jvm.Cond.lays "DrownedSlatesModel" "DrownedSlatesModel" "newCurrents" "I") ∈ za_wd := zxt_7 2 rfl rfl
theorem zx_1551 : (Jvm.Cond.lays "DrownedSlatesModel" "DrownedSlatesModel" "newSlates" "I") ∈ za_wd := zxt_7 4 rfl rfl
theorem zx_1553 : (Jvm.Cond.lays "DrownedSlatesModel" "DrownedSlatesModel" "newHands" "I") ∈ za_wd := zxt_7 6 rfl rfl
theorem zx_1555 : (Jvm.Cond.lays "DrownedSlatesModel" "DrownedSlatesModel" "newPilots" "I") ∈ za_wd := zxt_7 8 rfl rfl
theorem zx_1557 : (Jvm.Cond.lays "DrownedSlatesModel" "DrownedSlatesModel" "newRules" "I") ∈ za_wd := zxt_7 10 rfl rfl
theorem zx_1559 : (Jvm.Cond.lays "DrownedSlatesModel" "DrownedSlatesModel" "newSchool" "I") ∈ za_wd := zxt_7 12 rfl rfl
theorem zx_1561 : (Jvm.Cond.lays "DrownedSlatesModel" "DrownedSlatesModel" "newReach" "I") ∈ za_wd := zxt_7 14 rfl rfl
theorem zx_1563 : (Jvm.Cond.lays "DrownedSlatesModel" "DrownedSlatesModel" "newGoal" "I") ∈ za_wd := zxt_7 16 rfl rfl
theorem zx_1565 : (Jvm.Cond.lays "DrownedSlatesModel" "DrownedSlatesModel" "top" "I") ∈ za_wd := zxt_7 18 rfl rfl
theorem zx_1567 : (Jvm.Cond.lays "DrownedSlatesModel" "DrownedSlatesModel" "waiting" "I") ∈ za_wd := zxt_7 20 rfl rfl
theorem zx_1569 : (Jvm.Cond.lays "DrownedSlatesModel" "DrownedSlatesModel" "depth" "I") ∈ za_wd := zxt_7 22 rfl rfl
theorem zx_1571 : (Jvm.Cond.lays "DrownedSlatesModel" "DrownedSlatesModel" "hasSchool" "Z") ∈ za_wd := zxt_7 24 rfl rfl
theorem zx_1573 : (Jvm.Cond.lays "DrownedSlatesModel" "DrownedSlatesModel" "hasGoal" "Z") ∈ za_wd := zxt_7 26 rfl rfl
theorem zx_1575 : (Jvm.Cond.lays "DrownedSlatesModel" "DrownedSlatesModel" "isFirst" "Z") ∈ za_wd := zxt_7 28 rfl rfl
theorem zx_1577 : (Jvm.Cond.lays "DrownedSlatesModel" "DrownedSlatesModel" "newRock" "J") ∈ za_wd := zxt_7 30 rfl rfl
theorem zx_1579 : (Jvm.Cond.laysFinal "DrownedSlatesModel" "DrownedSlatesModel" "newCurrent" "[I") ∈ za_wd := zxt_7 32 rfl rfl
theorem zx_1581 : (Jvm.Cond.laysFinal "DrownedSlatesModel" "DrownedSlatesModel" "newSlate" "[I") ∈ za_wd := zxt_7 34 rfl rfl
theorem zx_1583 : (Jvm.Cond.laysFinal "DrownedSlatesModel" "DrownedSlatesModel" "newMark" "[I") ∈ za_wd := zxt_7 36 rfl rfl
theorem zx_1585 : (Jvm.Cond.laysFinal "DrownedSlatesModel" "DrownedSlatesModel" "newWeight" "[I") ∈ za_wd := zxt_7 38 rfl rfl
theorem zx_1587 : (Jvm.Cond.laysFinal "DrownedSlatesModel" "DrownedSlatesModel" "newPilot" "[I") ∈ za_wd := zxt_7 40 rfl rfl
theorem zx_1589 : (Jvm.Cond.laysFinal "DrownedSlatesModel" "DrownedSlatesModel" "newRuleAt" "[I") ∈ za_wd := zxt_7 42 rfl rfl
theorem zx_1591 : (Jvm.Cond.laysFinal "DrownedSlatesModel" "DrownedSlatesModel" "newRuleWay" "[I") ∈ za_wd := zxt_7 44 rfl rfl
theorem zx_1593 : (Jvm.Cond.laysFinal "DrownedSlatesModel" "DrownedSlatesModel" "readCode" "[I") ∈ za_wd := zxt_7 46 rfl rfl
theorem zx_1595 : (Jvm.Cond.laysFinal "DrownedSlatesModel" "DrownedSlatesModel" "waits" "[I") ∈ za_wd := zxt_7 48 rfl rfl
theorem zx_1597 : (Jvm.Cond.laysFinal "DrownedSlatesModel" "DrownedSlatesModel" "tested" "[Z") ∈ za_wd := zxt_7 50 rfl rfl
theorem zx_1599 : (Jvm.Cond.lays "DrownedSlatesModel" "DrownedSlatesModel" "acts" "I") ∈ za_wd := zxt_7 52 rfl rfl
theorem zx_1601 : (Jvm.Cond.laysFinal "DrownedSlatesModel" "DrownedSlatesModel" "act" "[I") ∈ za_wd := zxt_7 54 rfl rfl
theorem zx_1603 : (Jvm.Cond.lays "DrownedSlatesModel" "DrownedSlatesModel" "at" "I") ∈ za_wd := zxt_7 56 rfl rfl
theorem zx_1605 : (Jvm.Cond.lays "DrownedSlatesModel" "DrownedSlatesModel" "seen" "J") ∈ za_wd := zxt_7 58 rfl rfl
theorem zx_1607 : (Jvm.Cond.lays "DrownedSlatesModel" "DrownedSlatesModel" "end" "I") ∈ za_wd := zxt_7 60 rfl rfl
theorem zx_1609 : (Jvm.Cond.lays "DrownedSlatesModel" "DrownedSlatesModel" "endMark" "I") ∈ za_wd := zxt_7 62 rfl rfl
theorem zx_1611 : (Jvm.Cond.lays "DrownedSlatesModel" "DrownedSlatesModel" "endStep" "I") ∈ za_wd := zxt_7 64 rfl rfl
theorem zx_1613 : (Jvm.Cond.lays "DrownedSlatesModel" "DrownedSlatesModel" "endHour" "I") ∈ za_wd := zxt_7 66 rfl rfl
theorem zx_1615 : (Jvm.Cond.lays "DrownedSlatesModel" "DrownedSlatesModel" "markAt" "I") ∈ za_wd := zxt_7 68 rfl rfl
theorem zx_1617 : (Jvm.Cond.lays "DrownedSlatesModel" "DrownedSlatesModel" "markHour" "I") ∈ za_wd := zxt_7 70 rfl rfl
theorem zx_1619 : (Jvm.Cond.laysFinal "DrownedSlatesModel" "DrownedSlatesModel" "may" "[J") ∈ za_wd := zxt_7 72 rfl rfl
theorem zx_1621 : (Jvm.Cond.laysFinal "DrownedSlatesModel" "DrownedSlatesModel" "mayThen" "[J") ∈ za_wd := zxt_7 74 rfl rfl
theorem zx_1623 : (Jvm.Cond.laysFinal "DrownedSlatesModel" "DrownedSlatesModel" "moved" "[J") ∈ za_wd := zxt_7 76 rfl rfl
theorem zx_1625 : (Jvm.Cond.laysFinal "DrownedSlatesModel" "DrownedSlatesModel" "pile" "[I") ∈ za_wd := zxt_7 78 rfl rfl
theorem zx_1627 : (Jvm.Cond.laysFinal "DrownedSlatesModel" "DrownedSlatesModel" "row" "[I") ∈ za_wd := zxt_7 80 rfl rfl
theorem zx_1629 : (Jvm.Cond.laysFinal "DrownedSlatesModel" "DrownedSlatesModel" "ends" "[I") ∈ za_wd := zxt_7 82 rfl rfl
theorem zx_1631 : (Jvm.Cond.laysFinal "DrownedSlatesModel" "DrownedSlatesModel" "study" "[I") ∈ za_wd := zxt_7 84 rfl rfl
theorem zx_1633 : (Jvm.Cond.lays "DrownedSlatesModel" "DrownedSlatesModel" "studyLong" "I") ∈ za_wd := zxt_7 86 rfl rfl
theorem zx_1635 : (Jvm.Cond.lays "DrownedSlatesModel" "DrownedSlatesModel" "hasImage" "Z") ∈ za_wd := zxt_7 88 rfl rfl
theorem zx_1637 : (Jvm.Cond.lays "DrownedSlatesModel" "DrownedSlatesModel" "imageActs" "I") ∈ za_wd := zxt_7 90 rfl rfl
theorem zx_1639 : (Jvm.Cond.laysFinal "DrownedSlatesModel" "DrownedSlatesModel" "imageSlate" "[I") ∈ za_wd := zxt_7 92 rfl rfl
theorem zx_1641 : (Jvm.Cond.laysFinal "DrownedSlatesModel" "DrownedSlatesModel" "imageMark" "[I") ∈ za_wd := zxt_7 94 rfl rfl
theorem zx_1643 : (Jvm.Cond.laysFinal "DrownedSlatesModel" "DrownedSlatesModel" "imageAct" "[I") ∈ za_wd := zxt_7 96 rfl rfl
theorem zx_1647 : (Jvm.Cond.methodLink "DrownedSlatesLaw" (145 : Nat) ({ cls := "DrownedSlatesModel", name := "thrown", desc := "()I" } : Jvm.MethodName)) ∈ za_wd := zxt_7 100 rfl rfl
theorem zx_1648 : (Jvm.Cond.instanceMethod ({ cls := "DrownedSlatesModel", name := "thrown", desc := "()I" } : Jvm.MethodName)) ∈ za_wd := zxt_7 101 rfl rfl
theorem zx_1649 : (Jvm.Cond.selects "DrownedSlatesModel" ({ cls := "DrownedSlatesModel", name := "thrown", desc := "()I" } : Jvm.MethodName) ({ cls := "DrownedSlatesModel", name := "thrown", desc := "()I" } : Jvm.MethodName)) ∈ za_wd := zxt_7 102 rfl rfl
theorem zx_1650 : (Jvm.Cond.code ({ cls := "DrownedSlatesModel", name := "thrown", desc := "()I" } : Jvm.MethodName) prog_14_method_2_code (1 : Nat) (Option.some Jvm.ClassFile.FieldType.int)) ∈ za_wd := zxt_7 103 rfl rfl
theorem zx_1651 : (Jvm.Cond.methodLink "DrownedSlatesLaw" (81 : Nat) ({ cls := "DrownedSlatesModel", name := "feed", desc := "(IIIII)I" } : Jvm.MethodName)) ∈ za_wd := zxt_7 104 rfl rfl
theorem zx_1652 : (Jvm.Cond.instanceMethod ({ cls := "DrownedSlatesModel", name := "feed", desc := "(IIIII)I" } : Jvm.MethodName)) ∈ za_wd := zxt_7 105 rfl rfl
theorem zx_1653 : (Jvm.Cond.selects "DrownedSlatesModel" ({ cls := "DrownedSlatesModel", name := "feed", desc := "(IIIII)I" } : Jvm.MethodName) ({ cls := "DrownedSlatesModel", name := "feed", desc := "(IIIII)I" } : Jvm.MethodName)) ∈ za_wd := zxt_7 106 rfl rfl
theorem zx_1654 : (Jvm.Cond.code ({ cls := "DrownedSlatesModel", name := "feed", desc := "(IIIII)I" } : Jvm.MethodName) prog_14_method_8_code (6 : Nat) (Option.some Jvm.ClassFile.FieldType.int)) ∈ za_wd := zxt_7 107 rfl rfl
theorem zx_1655 : (Jvm.Cond.methodLink "DrownedSlatesModel" (130 : Nat) ({ cls := "DrownedSlatesModel", name := "lays", desc := "(I)V" } : Jvm.MethodName)) ∈ za_wd := zxt_7 108 rfl rfl
theorem zx_1657 : (Jvm.Cond.instanceMethod ({ cls := "DrownedSlatesModel", name := "lays", desc := "(I)V" } : Jvm.MethodName)) ∈ za_wd := zxt_7 110 rfl rfl
theorem zx_1658 : (Jvm.Cond.code ({ cls := "DrownedSlatesModel", name := "lays", desc := "(I)V" } : Jvm.MethodName) prog_14_method_9_code (3 : Nat) (Option.none : Option Jvm.ClassFile.FieldType)) ∈ za_wd := zxt_7 111 rfl rfl
theorem zx_1659 : (Jvm.Cond.methodLink "DrownedSlatesLaw" (87 : Nat) ({ cls := "DrownedSlatesModel", name := "sea", desc := "(I)I" } : Jvm.MethodName)) ∈ za_wd := zxt_7 112 rfl rfl
theorem zx_1660 : (Jvm.Cond.instanceMethod ({ cls := "DrownedSlatesModel", name := "sea", desc := "(I)I" } : Jvm.MethodName)) ∈ za_wd := zxt_7 113 rfl rfl
theorem zx_1661 : (Jvm.Cond.selects "DrownedSlatesModel" ({ cls := "DrownedSlatesModel", name := "sea", desc := "(I)I" } : Jvm.MethodName) ({ cls := "DrownedSlatesModel", name := "sea", desc := "(I)I" } : Jvm.MethodName)) ∈ za_wd := zxt_7 114 rfl rfl
theorem zx_1662 : (Jvm.Cond.code ({ cls := "DrownedSlatesModel", name := "sea", desc := "(I)I" } : Jvm.MethodName) prog_14_method_42_code (3 : Nat) (Option.some Jvm.ClassFile.FieldType.int)) ∈ za_wd := zxt_7 115 rfl rfl
theorem zx_1663 : (Jvm.Cond.methodLink "DrownedSlatesModel" (325 : Nat) ({ cls := "DrownedSlatesModel", name := "right", desc := "(ZI)Z" } : Jvm.MethodName)) ∈ za_wd := zxt_7 116 rfl rfl
theorem zx_1665 : (Jvm.Cond.instanceMethod ({ cls := "DrownedSlatesModel", name := "right", desc := "(ZI)Z" } : Jvm.MethodName)) ∈ za_wd := zxt_7 118 rfl rfl
theorem zx_1666 : (Jvm.Cond.code ({ cls := "DrownedSlatesModel", name := "right", desc := "(ZI)Z" } : Jvm.MethodName) prog_14_method_3_code (3 : Nat) (Option.some Jvm.ClassFile.FieldType.boolean)) ∈ za_wd := zxt_7 119 rfl rfl
theorem zx_1667 : (Jvm.Cond.methodLink "DrownedSlatesModel" (187 : Nat) ({ cls := "DrownedSlatesModel", name := "goes", desc := "()V" } : Jvm.MethodName)) ∈ za_wd := zxt_7 120 rfl rfl
theorem zx_1669 : (Jvm.Cond.instanceMethod ({ cls := "DrownedSlatesModel", name := "goes", desc := "()V" } : Jvm.MethodName)) ∈ za_wd := zxt_7 122 rfl rfl
theorem zx_1670 : (Jvm.Cond.code ({ cls := "DrownedSlatesModel", name := "goes", desc := "()V" } : Jvm.MethodName) prog_14_method_13_code (2 : Nat) (Option.none : Option Jvm.ClassFile.FieldType)) ∈ za_wd := zxt_7 123 rfl rfl
theorem zx_1671 : (Jvm.Cond.methodLink "DrownedSlatesModel" (140 : Nat) ({ cls := "DrownedSlatesModel", name := "byteAt", desc := "(I)I" } : Jvm.MethodName)) ∈ za_wd := zxt_7 124 rfl rfl
theorem zx_1673 : (Jvm.Cond.instanceMethod ({ cls := "DrownedSlatesModel", name := "byteAt", desc := "(I)I" } : Jvm.MethodName)) ∈ za_wd := zxt_7 126 rfl rfl
theorem zx_1674 : (Jvm.Cond.code ({ cls := "DrownedSlatesModel", name := "byteAt", desc := "(I)I" } : Jvm.MethodName) prog_14_method_10_code (2 : Nat) (Option.some Jvm.ClassFile.FieldType.int)) ∈ za_wd := zxt_7 127 rfl rfl
theorem zx_1675 : (Jvm.Cond.methodLink "DrownedSlatesModel" (160 : Nat) ({ cls := "DrownedSlatesModel", name := "isLetter", desc := "(I)Z" } : Jvm.MethodName)) ∈ za_wd := zxt_7 128 rfl rfl
theorem zx_1676 : (Jvm.Cond.static ({ cls := "DrownedSlatesModel", name := "isLetter", desc := "(I)Z" } : Jvm.MethodName)) ∈ za_wd := zxt_7 129 rfl rfl
theorem zx_1677 : (Jvm.Cond.code ({ cls := "DrownedSlatesModel", name := "isLetter", desc := "(I)Z" } : Jvm.MethodName) prog_14_method_11_code (1 : Nat) (Option.some Jvm.ClassFile.FieldType.boolean)) ∈ za_wd := zxt_7 130 rfl rfl
theorem zx_1678 : (Jvm.Cond.methodLink "DrownedSlatesModel" (164 : Nat) ({ cls := "DrownedSlatesModel", name := "isDigit", desc := "(I)Z" } : Jvm.MethodName)) ∈ za_wd := zxt_7 131 rfl rfl
theorem zx_1679 : (Jvm.Cond.static ({ cls := "DrownedSlatesModel", name := "isDigit", desc := "(I)Z" } : Jvm.MethodName)) ∈ za_wd := zxt_7 132 rfl rfl
theorem zx_1680 : (Jvm.Cond.code ({ cls := "DrownedSlatesModel", name := "isDigit", desc := "(I)Z" } : Jvm.MethodName) prog_14_method_12_code (1 : Nat) (Option.some Jvm.ClassFile.FieldType.boolean)) ∈ za_wd := zxt_7 133 rfl rfl
theorem zx_1681 : (Jvm.Cond.methodLink "DrownedSlatesModel" (183 : Nat) ({ cls := "DrownedSlatesModel", name := "isGood", desc := "()Z" } : Jvm.MethodName)) ∈ za_wd := zxt_7 134 rfl rfl
theorem zx_1683 : (Jvm.Cond.instanceMethod ({ cls := "DrownedSlatesModel", name := "isGood", desc := "()Z" } : Jvm.MethodName)) ∈ za_wd := zxt_7 136 rfl rfl
theorem zx_1684 : (Jvm.Cond.code ({ cls := "DrownedSlatesModel", name := "isGood", desc := "()Z" } : Jvm.MethodName) prog_14_method_18_code (1 : Nat) (Option.some Jvm.ClassFile.FieldType.boolean)) ∈ za_wd := zxt_7 137 rfl rfl
theorem zx_1685 : (Jvm.Cond.methodLink "DrownedSlatesModel" (329 : Nat) ({ cls := "DrownedSlatesModel", name := "line", desc := "()V" } : Jvm.MethodName)) ∈ za_wd := zxt_7 138 rfl rfl
theorem zx_1687 : (Jvm.Cond.instanceMethod ({ cls := "DrownedSlatesModel", name := "line", desc := "()V" } : Jvm.MethodName)) ∈ za_wd := zxt_7 140 rfl rfl
theorem zx_1688 : (Jvm.Cond.code ({ cls := "DrownedSlatesModel", name := "line", desc := "()V" } : Jvm.MethodName) prog_14_method_41_code (4 : Nat) (Option.none : Option Jvm.ClassFile.FieldType)) ∈ za_wd := zxt_7 141 rfl rfl
theorem zx_1689 : (Jvm.Cond.methodLink "DrownedSlatesModel" (197 : Nat) ({ cls := "DrownedSlatesModel", name := "knownWord", desc := "()I" } : Jvm.MethodName)) ∈ za_wd := zxt_7 142 rfl rfl
theorem zx_1691 : (Jvm.Cond.instanceMethod ({ cls := "DrownedSlatesModel", name := "knownWord", desc := "()I" } : Jvm.MethodName)) ∈ za_wd := zxt_7 144 rfl rfl
theorem zx_1692 : (Jvm.Cond.code ({ cls := "DrownedSlatesModel", name := "knownWord", desc := "()I" } : Jvm.MethodName) prog_14_method_16_code (2 : Nat) (Option.some Jvm.ClassFile.FieldType.int)) ∈ za_wd := zxt_7 145 rfl rfl
theorem zx_1693 : (Jvm.Cond.methodLink "DrownedSlatesModel" (176 : Nat) ({ cls := "DrownedSlatesModel", name := "letters", desc := "(I)J" } : Jvm.MethodName)) ∈ za_wd := zxt_7 146 rfl rfl
theorem zx_1694 : (Jvm.Cond.static ({ cls := "DrownedSlatesModel", name := "letters", desc := "(I)J" } : Jvm.MethodName)) ∈ za_wd := zxt_7 147 rfl rfl
theorem zx_1695 : (Jvm.Cond.code ({ cls := "DrownedSlatesModel", name := "letters", desc := "(I)J" } : Jvm.MethodName) prog_14_method_15_code (1 : Nat) (Option.some Jvm.ClassFile.FieldType.long)) ∈ za_wd := zxt_7 148 rfl rfl
theorem zx_1696 : (Jvm.Cond.methodLink "DrownedSlatesModel" (172 : Nat) ({ cls := "DrownedSlatesModel", name := "spelled", desc := "(IIIIIII)J" } : Jvm.MethodName)) ∈ za_wd := zxt_7 149 rfl rfl
theorem zx_1697 : (Jvm.Cond.static ({ cls := "DrownedSlatesModel", name := "spelled", desc := "(IIIIIII)J" } : Jvm.MethodName)) ∈ za_wd := zxt_7 150 rfl rfl
theorem zx_1698 : (Jvm.Cond.code ({ cls := "DrownedSlatesModel", name := "spelled", desc := "(IIIIIII)J" } : Jvm.MethodName) prog_14_method_14_code (9 : Nat) (Option.some Jvm.ClassFile.FieldType.long)) ∈ za_wd := zxt_7 151 rfl rfl
theorem zx_1699 : (Jvm.Cond.constantLong "DrownedSlatesModel" (170 : Nat) (96 : Int64)) ∈ za_wd := zxt_7 152 rfl rfl
theorem zx_1700 : (Jvm.Cond.methodLink "DrownedSlatesModel" (190 : Nat) ({ cls := "DrownedSlatesModel", name := "wrong", desc := "(I)V" } : Jvm.MethodName)) ∈ za_wd := zxt_7 153 rfl rfl
theorem zx_1702 : (Jvm.Cond.instanceMethod ({ cls := "DrownedSlatesModel", name := "wrong", desc := "(I)V" } : Jvm.MethodName)) ∈ za_wd := zxt_7 155 rfl rfl
theorem zx_1703 : (Jvm.Cond.code ({ cls := "DrownedSlatesModel", name := "wrong", desc := "(I)V" } : Jvm.MethodName) prog_14_method_17_code (2 : Nat) (Option.none : Option Jvm.ClassFile.FieldType)) ∈ za_wd := zxt_7 156 rfl rfl
theorem zx_1704 : (Jvm.Cond.methodLink "DrownedSlatesModel" (254 : Nat) ({ cls := "DrownedSlatesModel", name := "number", desc := "(II)I" } : Jvm.MethodName)) ∈ za_wd := zxt_7 157 rfl rfl
theorem zx_1706 : (Jvm.Cond.instanceMethod ({ cls := "DrownedSlatesModel", name := "number", desc := "(II)I" } : Jvm.MethodName)) ∈ za_wd := zxt_7 159 rfl rfl
theorem zx_1707 : (Jvm.Cond.code ({ cls := "DrownedSlatesModel", name := "number", desc := "(II)I" } : Jvm.MethodName) prog_14_method_22_code (4 : Nat) (Option.some Jvm.ClassFile.FieldType.int)) ∈ za_wd := zxt_7 160 rfl rfl
theorem zx_1708 : (Jvm.Cond.methodLink "DrownedSlatesModel" (193 : Nat) ({ cls := "DrownedSlatesModel", name := "numberHere", desc := "(II)Z" } : Jvm.MethodName)) ∈ za_wd := zxt_7 161 rfl rfl
theorem zx_1710 : (Jvm.Cond.instanceMethod ({ cls := "DrownedSlatesModel", name := "numberHere", desc := "(II)Z" } : Jvm.MethodName)) ∈ za_wd := zxt_7 163 rfl rfl
theorem zx_1711 : (Jvm.Cond.code ({ cls := "DrownedSlatesModel", name := "numberHere", desc := "(II)Z" } : Jvm.MethodName) prog_14_method_21_code (3 : Nat) (Option.some Jvm.ClassFile.FieldType.boolean)) ∈ za_wd := zxt_7 164 rfl rfl
theorem zx_1712 : (Jvm.Cond.methodLink "DrownedSlatesModel" (261 : Nat) ({ cls := "DrownedSlatesModel", name := "cellHere", desc := "()I" } : Jvm.MethodName)) ∈ za_wd := zxt_7 165 rfl rfl
theorem zx_1714 : (Jvm.Cond.instanceMethod ({ cls := "DrownedSlatesModel", name := "cellHere", desc := "()I" } : Jvm.MethodName)) ∈ za_wd := zxt_7 167 rfl rfl
theorem zx_1715 : (Jvm.Cond.code ({ cls := "DrownedSlatesModel", name := "cellHere", desc := "()I" } : Jvm.MethodName) prog_14_method_36_code (2 : Nat) (Option.some Jvm.ClassFile.FieldType.int)) ∈ za_wd := zxt_7 168 rfl rfl
theorem zx_1716 : (Jvm.Cond.methodLink "DrownedSlatesModel" (273 : Nat) ({ cls := "DrownedSlatesModel", name := "way", desc := "()I" } : Jvm.MethodName)) ∈ za_wd := zxt_7 169 rfl rfl
theorem zx_1718 : (Jvm.Cond.instanceMethod ({ cls := "DrownedSlatesModel", name := "way", desc := "()I" } : Jvm.MethodName)) ∈ za_wd := zxt_7 171 rfl rfl
theorem zx_1719 : (Jvm.Cond.code ({ cls := "DrownedSlatesModel", name := "way", desc := "()I" } : Jvm.MethodName) prog_14_method_24_code (2 : Nat) (Option.some Jvm.ClassFile.FieldType.int)) ∈ za_wd := zxt_7 172 rfl rfl
theorem zx_1720 : (Jvm.Cond.methodLink "DrownedSlatesModel" (201 : Nat) ({ cls := "DrownedSlatesModel", name := "within", desc := "(III)Z" } : Jvm.MethodName)) ∈ za_wd := zxt_7 173 rfl rfl
theorem zx_1721 : (Jvm.Cond.static ({ cls := "DrownedSlatesModel", name := "within", desc := "(III)Z" } : Jvm.MethodName)) ∈ za_wd := zxt_7 174 rfl rfl
theorem zx_1722 : (Jvm.Cond.code ({ cls := "DrownedSlatesModel", name := "within", desc := "(III)Z" } : Jvm.MethodName) prog_14_method_4_code (3 : Nat) (Option.some Jvm.ClassFile.FieldType.boolean)) ∈ za_wd := zxt_7 175 rfl rfl
theorem zx_1723 : (Jvm.Cond.methodLink "DrownedSlatesModel" (205 : Nat) ({ cls := "DrownedSlatesModel", name := "need", desc := "(Z)V" } : Jvm.MethodName)) ∈ za_wd := zxt_7 176 rfl rfl
theorem zx_1725 : (Jvm.Cond.instanceMethod ({ cls := "DrownedSlatesModel", name := "need", desc := "(Z)V" } : Jvm.MethodName)) ∈ za_wd := zxt_7 178 rfl rfl
theorem zx_1726 : (Jvm.Cond.code ({ cls := "DrownedSlatesModel", name := "need", desc := "(Z)V" } : Jvm.MethodName) prog_14_method_20_code (2 : Nat) (Option.none : Option Jvm.ClassFile.FieldType)) ∈ za_wd := zxt_7 179 rfl rfl
theorem zx_1727 : (Jvm.Cond.methodLink "DrownedSlatesModel" (295 : Nat) ({ cls := "DrownedSlatesModel", name := "readsSlate", desc := "()V" } : Jvm.MethodName)) ∈ za_wd := zxt_7 180 rfl rfl
theorem zx_1729 : (Jvm.Cond.instanceMethod ({ cls := "DrownedSlatesModel", name := "readsSlate", desc := "()V" } : Jvm.MethodName)) ∈ za_wd := zxt_7 182 rfl rfl
theorem zx_1730 : (Jvm.Cond.code ({ cls := "DrownedSlatesModel", name := "readsSlate", desc := "()V" } : Jvm.MethodName) prog_14_method_38_code (3 : Nat) (Option.none : Option Jvm.ClassFile.FieldType)) ∈ za_wd := zxt_7 183 rfl rfl
theorem zx_1731 : (Jvm.Cond.methodLink "DrownedSlatesModel" (267 : Nat) ({ cls := "DrownedSlatesModel", name := "cellRead", desc := "()I" } : Jvm.MethodName)) ∈ za_wd := zxt_7 184 rfl rfl
theorem zx_1733 : (Jvm.Cond.instanceMethod ({ cls := "DrownedSlatesModel", name := "cellRead", desc := "()I" } : Jvm.MethodName)) ∈ za_wd := zxt_7 186 rfl rfl
theorem zx_1734 : (Jvm.Cond.code ({ cls := "DrownedSlatesModel", name := "cellRead", desc := "()I" } : Jvm.MethodName) prog_14_method_37_code (2 : Nat) (Option.some Jvm.ClassFile.FieldType.int)) ∈ za_wd := zxt_7 187 rfl rfl
theorem zx_1735 : (Jvm.Cond.methodLink "DrownedSlatesModel" (270 : Nat) ({ cls := "DrownedSlatesModel", name := "isWay", desc := "()Z" } : Jvm.MethodName)) ∈ za_wd := zxt_7 188 rfl rfl
theorem zx_1737 : (Jvm.Cond.instanceMethod ({ cls := "DrownedSlatesModel", name := "isWay", desc := "()Z" } : Jvm.MethodName)) ∈ za_wd := zxt_7 190 rfl rfl
theorem zx_1738 : (Jvm.Cond.code ({ cls := "DrownedSlatesModel", name := "isWay", desc := "()Z" } : Jvm.MethodName) prog_14_method_23_code (1 : Nat) (Option.some Jvm.ClassFile.FieldType.boolean)) ∈ za_wd := zxt_7 191 rfl rfl
theorem zx_1739 : (Jvm.Cond.methodLink "DrownedSlatesModel" (298 : Nat) ({ cls := "DrownedSlatesModel", name := "readsHand", desc := "()V" } : Jvm.MethodName)) ∈ za_wd := zxt_7 192 rfl rfl
theorem zx_1741 : (Jvm.Cond.instanceMethod ({ cls := "DrownedSlatesModel", name := "readsHand", desc := "()V" } : Jvm.MethodName)) ∈ za_wd := zxt_7 194 rfl rfl
theorem zx_1742 : (Jvm.Cond.code ({ cls := "DrownedSlatesModel", name := "readsHand", desc := "()V" } : Jvm.MethodName) prog_14_method_39_code (4 : Nat) (Option.none : Option Jvm.ClassFile.FieldType)) ∈ za_wd := zxt_7 195 rfl rfl
theorem zx_1743 : (Jvm.Cond.methodLink "DrownedSlatesModel" (316 : Nat) ({ cls := "DrownedSlatesModel", name := "readsPilot", desc := "()V" } : Jvm.MethodName)) ∈ za_wd := zxt_7 196 rfl rfl
theorem zx_1745 : (Jvm.Cond.instanceMethod ({ cls := "DrownedSlatesModel", name := "readsPilot", desc := "()V" } : Jvm.MethodName)) ∈ za_wd := zxt_7 198 rfl rfl
theorem zx_1746 : (Jvm.Cond.code ({ cls := "DrownedSlatesModel", name := "readsPilot", desc := "()V" } : Jvm.MethodName) prog_14_method_40_code (2 : Nat) (Option.none : Option Jvm.ClassFile.FieldType)) ∈ za_wd := zxt_7 199 rfl rfl
theorem zx_1747 : (Jvm.Cond.methodLink "DrownedSlatesModel" (322 : Nat) ({ cls := "DrownedSlatesModel", name := "expression", desc := "()V" } : Jvm.MethodName)) ∈ za_wd := zxt_7 200 rfl rfl
theorem zx_1749 : (Jvm.Cond.instanceMethod ({ cls := "DrownedSlatesModel", name := "expression", desc := "()V" } : Jvm.MethodName)) ∈ za_wd := zxt_7 202 rfl rfl
theorem zx_1750 : (Jvm.Cond.code ({ cls := "DrownedSlatesModel", name := "expression", desc := "()V" } : Jvm.MethodName) prog_14_method_35_code (3 : Nat) (Option.none : Option Jvm.ClassFile.FieldType)) ∈ za_wd := zxt_7 203 rfl rfl
theorem zx_1751 : (Jvm.Cond.methodLink "DrownedSlatesModel" (233 : Nat) ({ cls := "DrownedSlatesModel", name := "deeper", desc := "()V" } : Jvm.MethodName)) ∈ za_wd := zxt_7 204 rfl rfl
theorem zx_1753 : (Jvm.Cond.instanceMethod ({ cls := "DrownedSlatesModel", name := "deeper", desc := "()V" } : Jvm.MethodName)) ∈ za_wd := zxt_7 206 rfl rfl
theorem zx_1754 : (Jvm.Cond.code ({ cls := "DrownedSlatesModel", name := "deeper", desc := "()V" } : Jvm.MethodName) prog_14_method_31_code (1 : Nat) (Option.none : Option Jvm.ClassFile.FieldType)) ∈ za_wd := zxt_7 207 rfl rfl
theorem zx_1755 : (Jvm.Cond.methodLink "DrownedSlatesModel" (227 : Nat) ({ cls := "DrownedSlatesModel", name := "isSign", desc := "(I)Z" } : Jvm.MethodName)) ∈ za_wd := zxt_7 208 rfl rfl
theorem zx_1757 : (Jvm.Cond.instanceMethod ({ cls := "DrownedSlatesModel", name := "isSign", desc := "(I)Z" } : Jvm.MethodName)) ∈ za_wd := zxt_7 210 rfl rfl
theorem zx_1758 : (Jvm.Cond.code ({ cls := "DrownedSlatesModel", name := "isSign", desc := "(I)Z" } : Jvm.MethodName) prog_14_method_19_code (2 : Nat) (Option.some Jvm.ClassFile.FieldType.boolean)) ∈ za_wd := zxt_7 211 rfl rfl
theorem zx_1759 : (Jvm.Cond.methodLink "DrownedSlatesModel" (242 : Nat) ({ cls := "DrownedSlatesModel", name := "operand", desc := "(Z)V" } : Jvm.MethodName)) ∈ za_wd := zxt_7 212 rfl rfl
theorem zx_1761 : (Jvm.Cond.instanceMethod ({ cls := "DrownedSlatesModel", name := "operand", desc := "(Z)V" } : Jvm.MethodName)) ∈ za_wd := zxt_7 214 rfl rfl
theorem zx_1762 : (Jvm.Cond.code ({ cls := "DrownedSlatesModel", name := "operand", desc := "(Z)V" } : Jvm.MethodName) prog_14_method_32_code (5 : Nat) (Option.none : Option Jvm.ClassFile.FieldType)) ∈ za_wd := zxt_7 215 rfl rfl
theorem zx_1763 : (Jvm.Cond.methodLink "DrownedSlatesModel" (230 : Nat) ({ cls := "DrownedSlatesModel", name := "waitsFor", desc := "(I)V" } : Jvm.MethodName)) ∈ za_wd := zxt_7 216 rfl rfl
theorem zx_1765 : (Jvm.Cond.instanceMethod ({ cls := "DrownedSlatesModel", name := "waitsFor", desc := "(I)V" } : Jvm.MethodName)) ∈ za_wd := zxt_7 218 rfl rfl
theorem zx_1766 : (Jvm.Cond.code ({ cls := "DrownedSlatesModel", name := "waitsFor", desc := "(I)V" } : Jvm.MethodName) prog_14_method_29_code (2 : Nat) (Option.none : Option Jvm.ClassFile.FieldType)) ∈ za_wd := zxt_7 219 rfl rfl
theorem zx_1767 : (Jvm.Cond.methodLink "DrownedSlatesModel" (236 : Nat) ({ cls := "DrownedSlatesModel", name := "part", desc := "()V" } : Jvm.MethodName)) ∈ za_wd := zxt_7 220 rfl rfl
theorem zx_1769 : (Jvm.Cond.instanceMethod ({ cls := "DrownedSlatesModel", name := "part", desc := "()V" } : Jvm.MethodName)) ∈ za_wd := zxt_7 222 rfl rfl
theorem zx_1770 : (Jvm.Cond.code ({ cls := "DrownedSlatesModel", name := "part", desc := "()V" } : Jvm.MethodName) prog_14_method_30_code (2 : Nat) (Option.none : Option Jvm.ClassFile.FieldType)) ∈ za_wd := zxt_7 223 rfl rfl
theorem zx_1771 : (Jvm.Cond.methodLink "DrownedSlatesModel" (221 : Nat) ({ cls := "DrownedSlatesModel", name := "puts", desc := "(I)V" } : Jvm.MethodName)) ∈ za_wd := zxt_7 224 rfl rfl
theorem zx_1773 : (Jvm.Cond.instanceMethod ({ cls := "DrownedSlatesModel", name := "puts", desc := "(I)V" } : Jvm.MethodName)) ∈ za_wd := zxt_7 226 rfl rfl
theorem zx_1774 : (Jvm.Cond.code ({ cls := "DrownedSlatesModel", name := "puts", desc := "(I)V" } : Jvm.MethodName) prog_14_method_25_code (2 : Nat) (Option.none : Option Jvm.ClassFile.FieldType)) ∈ za_wd := zxt_7 227 rfl rfl
theorem zx_1775 : (Jvm.Cond.methodLink "DrownedSlatesModel" (239 : Nat) ({ cls := "DrownedSlatesModel", name := "drops", desc := "(I)V" } : Jvm.MethodName)) ∈ za_wd := zxt_7 228 rfl rfl
theorem zx_1777 : (Jvm.Cond.instanceMethod ({ cls := "DrownedSlatesModel", name := "drops", desc := "(I)V" } : Jvm.MethodName)) ∈ za_wd := zxt_7 230 rfl rfl
theorem zx_1778 : (Jvm.Cond.code ({ cls := "DrownedSlatesModel", name := "drops", desc := "(I)V" } : Jvm.MethodName) prog_14_method_28_code (2 : Nat) (Option.none : Option Jvm.ClassFile.FieldType)) ∈ za_wd := zxt_7 231 rfl rfl
theorem zx_1779 : (Jvm.Cond.methodLink "DrownedSlatesModel" (215 : Nat) ({ cls := "DrownedSlatesModel", name := "isOpen", desc := "(I)Z" } : Jvm.MethodName)) ∈ za_wd := zxt_7 232 rfl rfl
theorem zx_1780 : (Jvm.Cond.static ({ cls := "DrownedSlatesModel", name := "isOpen", desc := "(I)Z" } : Jvm.MethodName)) ∈ za_wd := zxt_7 233 rfl rfl
theorem zx_1781 : (Jvm.Cond.code ({ cls := "DrownedSlatesModel", name := "isOpen", desc := "(I)Z" } : Jvm.MethodName) prog_14_method_26_code (1 : Nat) (Option.some Jvm.ClassFile.FieldType.boolean)) ∈ za_wd := zxt_7 234 rfl rfl
theorem zx_1782 : (Jvm.Cond.methodLink "DrownedSlatesModel" (218 : Nat) ({ cls := "DrownedSlatesModel", name := "strength", desc := "(I)I" } : Jvm.MethodName)) ∈ za_wd := zxt_7 235 rfl rfl
theorem zx_1783 : (Jvm.Cond.static ({ cls := "DrownedSlatesModel", name := "strength", desc := "(I)I" } : Jvm.MethodName)) ∈ za_wd := zxt_7 236 rfl rfl
theorem zx_1784 : (Jvm.Cond.code ({ cls := "DrownedSlatesModel", name := "strength", desc := "(I)I" } : Jvm.MethodName) prog_14_method_27_code (1 : Nat) (Option.some Jvm.ClassFile.FieldType.int)) ∈ za_wd := zxt_7 237 rfl rfl
theorem zx_1785 : (Jvm.Cond.methodLink "DrownedSlatesModel" (245 : Nat) ({ cls := "DrownedSlatesModel", name := "isOpened", desc := "()Z" } : Jvm.MethodName)) ∈ za_wd := zxt_7 238 rfl rfl
theorem zx_1787 : (Jvm.Cond.instanceMethod ({ cls := "DrownedSlatesModel", name := "isOpened", desc := "()Z" } : Jvm.MethodName)) ∈ za_wd := zxt_8 0 rfl rfl
theorem zx_1788 : (Jvm.Cond.code ({ cls := "DrownedSlatesModel", name := "isOpened", desc := "()Z" } : Jvm.MethodName) prog_14_method_33_code (2 : Nat) (Option.some Jvm.ClassFile.FieldType.boolean)) ∈ za_wd := zxt_8 1 rfl rfl
theorem zx_1789 : (Jvm.Cond.methodLink "DrownedSlatesModel" (248 : Nat) ({ cls := "DrownedSlatesModel", name := "closes", desc := "()V" } : Jvm.MethodName)) ∈ za_wd := zxt_8 2 rfl rfl
theorem zx_1791 : (Jvm.Cond.instanceMethod ({ cls := "DrownedSlatesModel", name := "closes", desc := "()V" } : Jvm.MethodName)) ∈ za_wd := zxt_8 4 rfl rfl
theorem zx_1792 : (Jvm.Cond.code ({ cls := "DrownedSlatesModel", name := "closes", desc := "()V" } : Jvm.MethodName) prog_14_method_34_code (1 : Nat) (Option.none : Option Jvm.ClassFile.FieldType)) ∈ za_wd := zxt_8 5 rfl rfl
theorem zx_1793 : (Jvm.Cond.methodLink "DrownedSlatesModel" (356 : Nat) ({ cls := "DrownedSlatesModel", name := "copies", desc := "([I[I)V" } : Jvm.MethodName)) ∈ za_wd := zxt_8 6 rfl rfl
theorem zx_1795 : (Jvm.Cond.instanceMethod ({ cls := "DrownedSlatesModel", name := "copies", desc := "([I[I)V" } : Jvm.MethodName)) ∈ za_wd := zxt_8 8 rfl rfl
theorem zx_1796 : (Jvm.Cond.code ({ cls := "DrownedSlatesModel", name := "copies", desc := "([I[I)V" } : Jvm.MethodName) prog_14_method_7_code (4 : Nat) (Option.none : Option Jvm.ClassFile.FieldType)) ∈ za_wd := zxt_8 9 rfl rfl
theorem zx_1797 : (Jvm.Cond.methodLink "DrownedSlatesLaw" (92 : Nat) ({ cls := "DrownedSlatesModel", name := "fault", desc := "()I" } : Jvm.MethodName)) ∈ za_wd := zxt_8 10 rfl rfl
theorem zx_1798 : (Jvm.Cond.instanceMethod ({ cls := "DrownedSlatesModel", name := "fault", desc := "()I" } : Jvm.MethodName)) ∈ za_wd := zxt_8 11 rfl rfl
theorem zx_1799 : (Jvm.Cond.selects "DrownedSlatesModel" ({ cls := "DrownedSlatesModel", name := "fault", desc := "()I" } : Jvm.MethodName) ({ cls := "DrownedSlatesModel", name := "fault", desc := "()I" } : Jvm.MethodName)) ∈ za_wd := zxt_8 12 rfl rfl
theorem zx_1800 : (Jvm.Cond.code ({ cls := "DrownedSlatesModel", name := "fault", desc := "()I" } : Jvm.MethodName) prog_14_method_43_code (1 : Nat) (Option.some Jvm.ClassFile.FieldType.int)) ∈ za_wd := zxt_8 13 rfl rfl
theorem zx_1801 : (Jvm.Cond.methodLink "DrownedSlatesLaw" (95 : Nat) ({ cls := "DrownedSlatesModel", name := "count", desc := "(I)I" } : Jvm.MethodName)) ∈ za_wd := zxt_8 14 rfl rfl
theorem zx_1802 : (Jvm.Cond.instanceMethod ({ cls := "DrownedSlatesModel", name := "count", desc := "(I)I" } : Jvm.MethodName)) ∈ za_wd := zxt_8 15 rfl rfl
theorem zx_1803 : (Jvm.Cond.selects "DrownedSlatesModel" ({ cls := "DrownedSlatesModel", name := "count", desc := "(I)I" } : Jvm.MethodName) ({ cls := "DrownedSlatesModel", name := "count", desc := "(I)I" } : Jvm.MethodName)) ∈ za_wd := zxt_8 16 rfl rfl
theorem zx_1804 : (Jvm.Cond.code ({ cls := "DrownedSlatesModel", name := "count", desc := "(I)I" } : Jvm.MethodName) prog_14_method_44_code (2 : Nat) (Option.some Jvm.ClassFile.FieldType.int)) ∈ za_wd := zxt_8 17 rfl rfl
theorem zx_1805 : (Jvm.Cond.methodLink "DrownedSlatesLaw" (99 : Nat) ({ cls := "DrownedSlatesModel", name := "cell", desc := "(II)I" } : Jvm.MethodName)) ∈ za_wd := zxt_8 18 rfl rfl
theorem zx_1806 : (Jvm.Cond.instanceMethod ({ cls := "DrownedSlatesModel", name := "cell", desc := "(II)I" } : Jvm.MethodName)) ∈ za_wd := zxt_8 19 rfl rfl
theorem zx_1807 : (Jvm.Cond.selects "DrownedSlatesModel" ({ cls := "DrownedSlatesModel", name := "cell", desc := "(II)I" } : Jvm.MethodName) ({ cls := "DrownedSlatesModel", name := "cell", desc := "(II)I" } : Jvm.MethodName)) ∈ za_wd := zxt_8 20 rfl rfl
theorem zx_1808 : (Jvm.Cond.code ({ cls := "DrownedSlatesModel", name := "cell", desc := "(II)I" } : Jvm.MethodName) prog_14_method_48_code (3 : Nat) (Option.some Jvm.ClassFile.FieldType.int)) ∈ za_wd := zxt_8 21 rfl rfl
theorem zx_1809 : (Jvm.Cond.methodLink "DrownedSlatesModel" (366 : Nat) ({ cls := "DrownedSlatesModel", name := "isWhat", desc := "(II)Z" } : Jvm.MethodName)) ∈ za_wd := zxt_8 22 rfl rfl
theorem zx_1811 : (Jvm.Cond.instanceMethod ({ cls := "DrownedSlatesModel", name := "isWhat", desc := "(II)Z" } : Jvm.MethodName)) ∈ za_wd := zxt_8 24 rfl rfl
theorem zx_1812 : (Jvm.Cond.code ({ cls := "DrownedSlatesModel", name := "isWhat", desc := "(II)Z" } : Jvm.MethodName) prog_14_method_47_code (3 : Nat) (Option.some Jvm.ClassFile.FieldType.boolean)) ∈ za_wd := zxt_8 25 rfl rfl
theorem zx_1813 : (Jvm.Cond.methodLink "DrownedSlatesLaw" (102 : Nat) ({ cls := "DrownedSlatesModel", name := "slate", desc := "(II)I" } : Jvm.MethodName)) ∈ za_wd := zxt_8 26 rfl rfl
theorem zx_1814 : (Jvm.Cond.instanceMethod ({ cls := "DrownedSlatesModel", name := "slate", desc := "(II)I" } : Jvm.MethodName)) ∈ za_wd := zxt_8 27 rfl rfl
theorem zx_1815 : (Jvm.Cond.selects "DrownedSlatesModel" ({ cls := "DrownedSlatesModel", name := "slate", desc := "(II)I" } : Jvm.MethodName) ({ cls := "DrownedSlatesModel", name := "slate", desc := "(II)I" } : Jvm.MethodName)) ∈ za_wd := zxt_8 28 rfl rfl
theorem zx_1816 : (Jvm.Cond.code ({ cls := "DrownedSlatesModel", name := "slate", desc := "(II)I" } : Jvm.MethodName) prog_14_method_50_code (3 : Nat) (Option.some Jvm.ClassFile.FieldType.int)) ∈ za_wd := zxt_8 29 rfl rfl
theorem zx_1817 : (Jvm.Cond.methodLink "DrownedSlatesModel" (369 : Nat) ({ cls := "DrownedSlatesModel", name := "isSlate", desc := "(I)Z" } : Jvm.MethodName)) ∈ za_wd := zxt_8 30 rfl rfl
theorem zx_1819 : (Jvm.Cond.instanceMethod ({ cls := "DrownedSlatesModel", name := "isSlate", desc := "(I)Z" } : Jvm.MethodName)) ∈ za_wd := zxt_8 32 rfl rfl
theorem zx_1820 : (Jvm.Cond.code ({ cls := "DrownedSlatesModel", name := "isSlate", desc := "(I)Z" } : Jvm.MethodName) prog_14_method_45_code (2 : Nat) (Option.some Jvm.ClassFile.FieldType.boolean)) ∈ za_wd := zxt_8 33 rfl rfl
theorem zx_1821 : (Jvm.Cond.methodLink "DrownedSlatesLaw" (106 : Nat) ({ cls := "DrownedSlatesModel", name := "mark", desc := "(III)I" } : Jvm.MethodName)) ∈ za_wd := zxt_8 34 rfl rfl
theorem zx_1822 : (Jvm.Cond.instanceMethod ({ cls := "DrownedSlatesModel", name := "mark", desc := "(III)I" } : Jvm.MethodName)) ∈ za_wd := zxt_8 35 rfl rfl
theorem zx_1823 : (Jvm.Cond.selects "DrownedSlatesModel" ({ cls := "DrownedSlatesModel", name := "mark", desc := "(III)I" } : Jvm.MethodName) ({ cls := "DrownedSlatesModel", name := "mark", desc := "(III)I" } : Jvm.MethodName)) ∈ za_wd := zxt_8 36 rfl rfl
theorem zx_1824 : (Jvm.Cond.code ({ cls := "DrownedSlatesModel", name := "mark", desc := "(III)I" } : Jvm.MethodName) prog_14_method_51_code (4 : Nat) (Option.some Jvm.ClassFile.FieldType.int)) ∈ za_wd := zxt_8 37 rfl rfl
theorem zx_1825 : (Jvm.Cond.methodLink "DrownedSlatesModel" (372 : Nat) ({ cls := "DrownedSlatesModel", name := "marks", desc := "(I)I" } : Jvm.MethodName)) ∈ za_wd := zxt_8 38 rfl rfl
theorem zx_1827 : (Jvm.Cond.instanceMethod ({ cls := "DrownedSlatesModel", name := "marks", desc := "(I)I" } : Jvm.MethodName)) ∈ za_wd := zxt_8 40 rfl rfl
theorem zx_1828 : (Jvm.Cond.code ({ cls := "DrownedSlatesModel", name := "marks", desc := "(I)I" } : Jvm.MethodName) prog_14_method_49_code (2 : Nat) (Option.some Jvm.ClassFile.FieldType.int)) ∈ za_wd := zxt_8 41 rfl rfl
theorem zx_1829 : (Jvm.Cond.methodLink "DrownedSlatesLaw" (109 : Nat) ({ cls := "DrownedSlatesModel", name := "write", desc := "(III)I" } : Jvm.MethodName)) ∈ za_wd := zxt_8 42 rfl rfl
theorem zx_1830 : (Jvm.Cond.instanceMethod ({ cls := "DrownedSlatesModel", name := "write", desc := "(III)I" } : Jvm.MethodName)) ∈ za_wd := zxt_8 43 rfl rfl
theorem zx_1831 : (Jvm.Cond.selects "DrownedSlatesModel" ({ cls := "DrownedSlatesModel", name := "write", desc := "(III)I" } : Jvm.MethodName) ({ cls := "DrownedSlatesModel", name := "write", desc := "(III)I" } : Jvm.MethodName)) ∈ za_wd := zxt_8 44 rfl rfl
theorem zx_1832 : (Jvm.Cond.code ({ cls := "DrownedSlatesModel", name := "write", desc := "(III)I" } : Jvm.MethodName) prog_14_method_54_code (5 : Nat) (Option.some Jvm.ClassFile.FieldType.int)) ∈ za_wd := zxt_8 45 rfl rfl
theorem zx_1833 : (Jvm.Cond.methodLink "DrownedSlatesModel" (375 : Nat) ({ cls := "DrownedSlatesModel", name := "refuses", desc := "()I" } : Jvm.MethodName)) ∈ za_wd := zxt_8 46 rfl rfl
theorem zx_1835 : (Jvm.Cond.instanceMethod ({ cls := "DrownedSlatesModel", name := "refuses", desc := "()I" } : Jvm.MethodName)) ∈ za_wd := zxt_8 48 rfl rfl
theorem zx_1836 : (Jvm.Cond.code ({ cls := "DrownedSlatesModel", name := "refuses", desc := "()I" } : Jvm.MethodName) prog_14_method_53_code (1 : Nat) (Option.some Jvm.ClassFile.FieldType.int)) ∈ za_wd := zxt_8 49 rfl rfl
theorem zx_1837 : (Jvm.Cond.methodLink "DrownedSlatesModel" (378 : Nat) ({ cls := "DrownedSlatesModel", name := "keeps", desc := "(II)V" } : Jvm.MethodName)) ∈ za_wd := zxt_8 50 rfl rfl
theorem zx_1839 : (Jvm.Cond.instanceMethod ({ cls := "DrownedSlatesModel", name := "keeps", desc := "(II)V" } : Jvm.MethodName)) ∈ za_wd := zxt_8 52 rfl rfl
theorem zx_1840 : (Jvm.Cond.code ({ cls := "DrownedSlatesModel", name := "keeps", desc := "(II)V" } : Jvm.MethodName) prog_14_method_52_code (4 : Nat) (Option.none : Option Jvm.ClassFile.FieldType)) ∈ za_wd := zxt_8 53 rfl rfl
theorem zx_1841 : (Jvm.Cond.methodLink "DrownedSlatesLaw" (112 : Nat) ({ cls := "DrownedSlatesModel", name := "rub", desc := "(III)I" } : Jvm.MethodName)) ∈ za_wd := zxt_8 54 rfl rfl
theorem zx_1842 : (Jvm.Cond.instanceMethod ({ cls := "DrownedSlatesModel", name := "rub", desc := "(III)I" } : Jvm.MethodName)) ∈ za_wd := zxt_8 55 rfl rfl
theorem zx_1843 : (Jvm.Cond.selects "DrownedSlatesModel" ({ cls := "DrownedSlatesModel", name := "rub", desc := "(III)I" } : Jvm.MethodName) ({ cls := "DrownedSlatesModel", name := "rub", desc := "(III)I" } : Jvm.MethodName)) ∈ za_wd := zxt_8 56 rfl rfl
theorem zx_1844 : (Jvm.Cond.code ({ cls := "DrownedSlatesModel", name := "rub", desc := "(III)I" } : Jvm.MethodName) prog_14_method_55_code (6 : Nat) (Option.some Jvm.ClassFile.FieldType.int)) ∈ za_wd := zxt_8 57 rfl rfl
theorem zx_1845 : (Jvm.Cond.constant "DrownedSlatesModel" (382 : Nat) (1103515245 : Int32)) ∈ za_wd := zxt_8 58 rfl rfl
theorem zx_1846 : (Jvm.Cond.methodLink "DrownedSlatesModel" (383 : Nat) ({ cls := "DrownedSlatesModel", name := "bits", desc := "(I)I" } : Jvm.MethodName)) ∈ za_wd := zxt_8 59 rfl rfl
theorem zx_1847 : (Jvm.Cond.static ({ cls := "DrownedSlatesModel", name := "bits", desc := "(I)I" } : Jvm.MethodName)) ∈ za_wd := zxt_8 60 rfl rfl
theorem zx_1848 : (Jvm.Cond.code ({ cls := "DrownedSlatesModel", name := "bits", desc := "(I)I" } : Jvm.MethodName) prog_14_method_6_code (3 : Nat) (Option.some Jvm.ClassFile.FieldType.int)) ∈ za_wd := zxt_8 61 rfl rfl
theorem zx_1849 : (Jvm.Cond.methodLink "DrownedSlatesLaw" (116 : Nat) ({ cls := "DrownedSlatesModel", name := "undo", desc := "()I" } : Jvm.MethodName)) ∈ za_wd := zxt_8 62 rfl rfl
theorem zx_1850 : (Jvm.Cond.instanceMethod ({ cls := "DrownedSlatesModel", name := "undo", desc := "()I" } : Jvm.MethodName)) ∈ za_wd := zxt_8 63 rfl rfl
theorem zx_1851 : (Jvm.Cond.selects "DrownedSlatesModel" ({ cls := "DrownedSlatesModel", name := "undo", desc := "()I" } : Jvm.MethodName) ({ cls := "DrownedSlatesModel", name := "undo", desc := "()I" } : Jvm.MethodName)) ∈ za_wd := zxt_8 64 rfl rfl
theorem zx_1852 : (Jvm.Cond.code ({ cls := "DrownedSlatesModel", name := "undo", desc := "()I" } : Jvm.MethodName) prog_14_method_56_code (2 : Nat) (Option.some Jvm.ClassFile.FieldType.int)) ∈ za_wd := zxt_8 65 rfl rfl
theorem zx_1853 : (Jvm.Cond.methodLink "DrownedSlatesLaw" (119 : Nat) ({ cls := "DrownedSlatesModel", name := "voyage", desc := "(II)I" } : Jvm.MethodName)) ∈ za_wd := zxt_8 66 rfl rfl
theorem zx_1854 : (Jvm.Cond.instanceMethod ({ cls := "DrownedSlatesModel", name := "voyage", desc := "(II)I" } : Jvm.MethodName)) ∈ za_wd := zxt_8 67 rfl rfl
theorem zx_1855 : (Jvm.Cond.selects "DrownedSlatesModel" ({ cls := "DrownedSlatesModel", name := "voyage", desc := "(II)I" } : Jvm.MethodName) ({ cls := "DrownedSlatesModel", name := "voyage", desc := "(II)I" } : Jvm.MethodName)) ∈ za_wd := zxt_8 68 rfl rfl
theorem zx_1856 : (Jvm.Cond.code ({ cls := "DrownedSlatesModel", name := "voyage", desc := "(II)I" } : Jvm.MethodName) prog_14_method_61_code (3 : Nat) (Option.some Jvm.ClassFile.FieldType.int)) ∈ za_wd := zxt_8 69 rfl rfl
theorem zx_1857 : (Jvm.Cond.methodLink "DrownedSlatesModel" (420 : Nat) ({ cls := "DrownedSlatesModel", name := "sailsOf", desc := "(I)V" } : Jvm.MethodName)) ∈ za_wd := zxt_8 70 rfl rfl
theorem zx_1859 : (Jvm.Cond.instanceMethod ({ cls := "DrownedSlatesModel", name := "sailsOf", desc := "(I)V" } : Jvm.MethodName)) ∈ za_wd := zxt_8 72 rfl rfl
theorem zx_1860 : (Jvm.Cond.code ({ cls := "DrownedSlatesModel", name := "sailsOf", desc := "(I)V" } : Jvm.MethodName) prog_14_method_60_code (2 : Nat) (Option.none : Option Jvm.ClassFile.FieldType)) ∈ za_wd := zxt_8 73 rfl rfl
theorem zx_1861 : (Jvm.Cond.methodLink "DrownedSlatesModel" (416 : Nat) ({ cls := "DrownedSlatesModel", name := "steps", desc := "(IIZ)I" } : Jvm.MethodName)) ∈ za_wd := zxt_8 74 rfl rfl
theorem zx_1863 : (Jvm.Cond.instanceMethod ({ cls := "DrownedSlatesModel", name := "steps", desc := "(IIZ)I" } : Jvm.MethodName)) ∈ za_wd := zxt_8 76 rfl rfl
theorem zx_1864 : (Jvm.Cond.code ({ cls := "DrownedSlatesModel", name := "steps", desc := "(IIZ)I" } : Jvm.MethodName) prog_14_method_59_code (5 : Nat) (Option.some Jvm.ClassFile.FieldType.int)) ∈ za_wd := zxt_8 77 rfl rfl
theorem zx_1865 : (Jvm.Cond.methodLink "DrownedSlatesModel" (389 : Nat) ({ cls := "DrownedSlatesModel", name := "beside", desc := "(II)I" } : Jvm.MethodName)) ∈ za_wd := zxt_8 78 rfl rfl
theorem zx_1867 : (Jvm.Cond.instanceMethod ({ cls := "DrownedSlatesModel", name := "beside", desc := "(II)I" } : Jvm.MethodName)) ∈ za_wd := zxt_8 80 rfl rfl
theorem zx_1868 : (Jvm.Cond.code ({ cls := "DrownedSlatesModel", name := "beside", desc := "(II)I" } : Jvm.MethodName) prog_14_method_57_code (5 : Nat) (Option.some Jvm.ClassFile.FieldType.int)) ∈ za_wd := zxt_8 81 rfl rfl
theorem zx_1869 : (Jvm.Cond.methodLink "DrownedSlatesModel" (392 : Nat) ({ cls := "DrownedSlatesModel", name := "isRock", desc := "(I)Z" } : Jvm.MethodName)) ∈ za_wd := zxt_8 82 rfl rfl
theorem zx_1871 : (Jvm.Cond.instanceMethod ({ cls := "DrownedSlatesModel", name := "isRock", desc := "(I)Z" } : Jvm.MethodName)) ∈ za_wd := zxt_8 84 rfl rfl
theorem zx_1872 : (Jvm.Cond.code ({ cls := "DrownedSlatesModel", name := "isRock", desc := "(I)Z" } : Jvm.MethodName) prog_14_method_58_code (2 : Nat) (Option.some Jvm.ClassFile.FieldType.boolean)) ∈ za_wd := zxt_8 85 rfl rfl
theorem zx_1873 : (Jvm.Cond.methodLink "DrownedSlatesLaw" (122 : Nat) ({ cls := "DrownedSlatesModel", name := "explained", desc := "(I)Z" } : Jvm.MethodName)) ∈ za_wd := zxt_8 86 rfl rfl
theorem zx_1874 : (Jvm.Cond.instanceMethod ({ cls := "DrownedSlatesModel", name := "explained", desc := "(I)Z" } : Jvm.MethodName)) ∈ za_wd := zxt_8 87 rfl rfl
theorem zx_1875 : (Jvm.Cond.selects "DrownedSlatesModel" ({ cls := "DrownedSlatesModel", name := "explained", desc := "(I)Z" } : Jvm.MethodName) ({ cls := "DrownedSlatesModel", name := "explained", desc := "(I)Z" } : Jvm.MethodName)) ∈ za_wd := zxt_8 88 rfl rfl
theorem zx_1876 : (Jvm.Cond.code ({ cls := "DrownedSlatesModel", name := "explained", desc := "(I)Z" } : Jvm.MethodName) prog_14_method_62_code (4 : Nat) (Option.some Jvm.ClassFile.FieldType.boolean)) ∈ za_wd := zxt_8 89 rfl rfl
theorem zx_1877 : (Jvm.Cond.methodLink "DrownedSlatesLaw" (125 : Nat) ({ cls := "DrownedSlatesModel", name := "where", desc := "(II)J" } : Jvm.MethodName)) ∈ za_wd := zxt_8 90 rfl rfl
theorem zx_1878 : (Jvm.Cond.instanceMethod ({ cls := "DrownedSlatesModel", name := "where", desc := "(II)J" } : Jvm.MethodName)) ∈ za_wd := zxt_8 91 rfl rfl
theorem zx_1879 : (Jvm.Cond.selects "DrownedSlatesModel" ({ cls := "DrownedSlatesModel", name := "where", desc := "(II)J" } : Jvm.MethodName) ({ cls := "DrownedSlatesModel", name := "where", desc := "(II)J" } : Jvm.MethodName)) ∈ za_wd := zxt_8 92 rfl rfl
theorem zx_1880 : (Jvm.Cond.code ({ cls := "DrownedSlatesModel", name := "where", desc := "(II)J" } : Jvm.MethodName) prog_14_method_64_code (8 : Nat) (Option.some Jvm.ClassFile.FieldType.long)) ∈ za_wd := zxt_8 93 rfl rfl
theorem zx_1881 : (Jvm.Cond.methodLink "DrownedSlatesModel" (423 : Nat) ({ cls := "DrownedSlatesModel", name := "stepsAll", desc := "(II)V" } : Jvm.MethodName)) ∈ za_wd := zxt_8 94 rfl rfl
theorem zx_1883 : (Jvm.Cond.instanceMethod ({ cls := "DrownedSlatesModel", name := "stepsAll", desc := "(II)V" } : Jvm.MethodName)) ∈ za_wd := zxt_8 96 rfl rfl
theorem zx_1884 : (Jvm.Cond.code ({ cls := "DrownedSlatesModel", name := "stepsAll", desc := "(II)V" } : Jvm.MethodName) prog_14_method_63_code (7 : Nat) (Option.none : Option Jvm.ClassFile.FieldType)) ∈ za_wd := zxt_8 97 rfl rfl
theorem zx_1885 : (Jvm.Cond.methodLink "DrownedSlatesLaw" (128 : Nat) ({ cls := "DrownedSlatesModel", name := "pilot", desc := "(II)I" } : Jvm.MethodName)) ∈ za_wd := zxt_8 98 rfl rfl
theorem zx_1886 : (Jvm.Cond.instanceMethod ({ cls := "DrownedSlatesModel", name := "pilot", desc := "(II)I" } : Jvm.MethodName)) ∈ za_wd := zxt_8 99 rfl rfl
theorem zx_1887 : (Jvm.Cond.selects "DrownedSlatesModel" ({ cls := "DrownedSlatesModel", name := "pilot", desc := "(II)I" } : Jvm.MethodName) ({ cls := "DrownedSlatesModel", name := "pilot", desc := "(II)I" } : Jvm.MethodName)) ∈ za_wd := zxt_8 100 rfl rfl
theorem zx_1888 : (Jvm.Cond.code ({ cls := "DrownedSlatesModel", name := "pilot", desc := "(II)I" } : Jvm.MethodName) prog_14_method_65_code (3 : Nat) (Option.some Jvm.ClassFile.FieldType.int)) ∈ za_wd := zxt_8 101 rfl rfl
theorem zx_1889 : (Jvm.Cond.methodLink "DrownedSlatesModel" (426 : Nat) ({ cls := "DrownedSlatesModel", name := "isPilot", desc := "(I)Z" } : Jvm.MethodName)) ∈ za_wd := zxt_8 102 rfl rfl
theorem zx_1891 : (Jvm.Cond.instanceMethod ({ cls := "DrownedSlatesModel", name := "isPilot", desc := "(I)Z" } : Jvm.MethodName)) ∈ za_wd := zxt_8 104 rfl rfl
theorem zx_1892 : (Jvm.Cond.code ({ cls := "DrownedSlatesModel", name := "isPilot", desc := "(I)Z" } : Jvm.MethodName) prog_14_method_46_code (2 : Nat) (Option.some Jvm.ClassFile.FieldType.boolean)) ∈ za_wd := zxt_8 105 rfl rfl
theorem zx_1893 : (Jvm.Cond.methodLink "DrownedSlatesLaw" (131 : Nat) ({ cls := "DrownedSlatesModel", name := "sails", desc := "(III)I" } : Jvm.MethodName)) ∈ za_wd := zxt_8 106 rfl rfl
theorem zx_1894 : (Jvm.Cond.instanceMethod ({ cls := "DrownedSlatesModel", name := "sails", desc := "(III)I" } : Jvm.MethodName)) ∈ za_wd := zxt_8 107 rfl rfl
theorem zx_1895 : (Jvm.Cond.selects "DrownedSlatesModel" ({ cls := "DrownedSlatesModel", name := "sails", desc := "(III)I" } : Jvm.MethodName) ({ cls := "DrownedSlatesModel", name := "sails", desc := "(III)I" } : Jvm.MethodName)) ∈ za_wd := zxt_8 108 rfl rfl
theorem zx_1896 : (Jvm.Cond.code ({ cls := "DrownedSlatesModel", name := "sails", desc := "(III)I" } : Jvm.MethodName) prog_14_method_72_code (4 : Nat) (Option.some Jvm.ClassFile.FieldType.int)) ∈ za_wd := zxt_8 109 rfl rfl
theorem zx_1897 : (Jvm.Cond.methodLink "DrownedSlatesModel" (447 : Nat) ({ cls := "DrownedSlatesModel", name := "pilots", desc := "(II)V" } : Jvm.MethodName)) ∈ za_wd := zxt_8 110 rfl rfl
theorem zx_1899 : (Jvm.Cond.instanceMethod ({ cls := "DrownedSlatesModel", name := "pilots", desc := "(II)V" } : Jvm.MethodName)) ∈ za_wd := zxt_8 112 rfl rfl
theorem zx_1900 : (Jvm.Cond.code ({ cls := "DrownedSlatesModel", name := "pilots", desc := "(II)V" } : Jvm.MethodName) prog_14_method_71_code (6 : Nat) (Option.none : Option Jvm.ClassFile.FieldType)) ∈ za_wd := zxt_8 113 rfl rfl
theorem zx_1901 : (Jvm.Cond.methodLink "DrownedSlatesModel" (440 : Nat) ({ cls := "DrownedSlatesModel", name := "knownBy", desc := "(I)J" } : Jvm.MethodName)) ∈ za_wd := zxt_8 114 rfl rfl
theorem zx_1903 : (Jvm.Cond.instanceMethod ({ cls := "DrownedSlatesModel", name := "knownBy", desc := "(I)J" } : Jvm.MethodName)) ∈ za_wd := zxt_8 116 rfl rfl
theorem zx_1904 : (Jvm.Cond.code ({ cls := "DrownedSlatesModel", name := "knownBy", desc := "(I)J" } : Jvm.MethodName) prog_14_method_66_code (5 : Nat) (Option.some Jvm.ClassFile.FieldType.long)) ∈ za_wd := zxt_8 117 rfl rfl
theorem zx_1905 : (Jvm.Cond.methodLink "DrownedSlatesModel" (443 : Nat) ({ cls := "DrownedSlatesModel", name := "wayOf", desc := "(IIJ)I" } : Jvm.MethodName)) ∈ za_wd := zxt_8 118 rfl rfl
theorem zx_1907 : (Jvm.Cond.instanceMethod ({ cls := "DrownedSlatesModel", name := "wayOf", desc := "(IIJ)I" } : Jvm.MethodName)) ∈ za_wd := zxt_8 120 rfl rfl
theorem zx_1908 : (Jvm.Cond.code ({ cls := "DrownedSlatesModel", name := "wayOf", desc := "(IIJ)I" } : Jvm.MethodName) prog_14_method_70_code (6 : Nat) (Option.some Jvm.ClassFile.FieldType.int)) ∈ za_wd := zxt_8 121 rfl rfl
theorem zx_1909 : (Jvm.Cond.methodLink "DrownedSlatesModel" (437 : Nat) ({ cls := "DrownedSlatesModel", name := "reckons", desc := "(IIIJ)I" } : Jvm.MethodName)) ∈ za_wd := zxt_8 122 rfl rfl
theorem zx_1911 : (Jvm.Cond.instanceMethod ({ cls := "DrownedSlatesModel", name := "reckons", desc := "(IIIJ)I" } : Jvm.MethodName)) ∈ za_wd := zxt_8 124 rfl rfl
theorem zx_1912 : (Jvm.Cond.code ({ cls := "DrownedSlatesModel", name := "reckons", desc := "(IIIJ)I" } : Jvm.MethodName) prog_14_method_69_code (9 : Nat) (Option.some Jvm.ClassFile.FieldType.int)) ∈ za_wd := zxt_8 125 rfl rfl
theorem zx_1913 : (Jvm.Cond.methodLink "DrownedSlatesModel" (429 : Nat) ({ cls := "DrownedSlatesModel", name := "valueOf", desc := "(IIIJ)I" } : Jvm.MethodName)) ∈ za_wd := zxt_8 126 rfl rfl
theorem zx_1915 : (Jvm.Cond.instanceMethod ({ cls := "DrownedSlatesModel", name := "valueOf", desc := "(IIIJ)I" } : Jvm.MethodName)) ∈ za_wd := zxt_8 128 rfl rfl
theorem zx_1916 : (Jvm.Cond.code ({ cls := "DrownedSlatesModel", name := "valueOf", desc := "(IIIJ)I" } : Jvm.MethodName) prog_14_method_67_code (7 : Nat) (Option.some Jvm.ClassFile.FieldType.int)) ∈ za_wd := zxt_8 129 rfl rfl
theorem zx_1917 : (Jvm.Cond.methodLink "DrownedSlatesModel" (433 : Nat) ({ cls := "DrownedSlatesModel", name := "works", desc := "(III)I" } : Jvm.MethodName)) ∈ za_wd := zxt_8 130 rfl rfl
theorem zx_1918 : (Jvm.Cond.static ({ cls := "DrownedSlatesModel", name := "works", desc := "(III)I" } : Jvm.MethodName)) ∈ za_wd := zxt_8 131 rfl rfl
theorem zx_1919 : (Jvm.Cond.code ({ cls := "DrownedSlatesModel", name := "works", desc := "(III)I" } : Jvm.MethodName) prog_14_method_68_code (3 : Nat) (Option.some Jvm.ClassFile.FieldType.int)) ∈ za_wd := zxt_8 132 rfl rfl
theorem zx_1920 : (Jvm.Cond.methodLink "DrownedSlatesLaw" (135 : Nat) ({ cls := "DrownedSlatesModel", name := "exam", desc := "()I" } : Jvm.MethodName)) ∈ za_wd := zxt_8 133 rfl rfl
theorem zx_1921 : (Jvm.Cond.instanceMethod ({ cls := "DrownedSlatesModel", name := "exam", desc := "()I" } : Jvm.MethodName)) ∈ za_wd := zxt_8 134 rfl rfl
theorem zx_1922 : (Jvm.Cond.selects "DrownedSlatesModel" ({ cls := "DrownedSlatesModel", name := "exam", desc := "()I" } : Jvm.MethodName) ({ cls := "DrownedSlatesModel", name := "exam", desc := "()I" } : Jvm.MethodName)) ∈ za_wd := zxt_8 135 rfl rfl
theorem zx_1923 : (Jvm.Cond.code ({ cls := "DrownedSlatesModel", name := "exam", desc := "()I" } : Jvm.MethodName) prog_14_method_73_code (3 : Nat) (Option.some Jvm.ClassFile.FieldType.int)) ∈ za_wd := zxt_8 136 rfl rfl
theorem zx_1924 : (Jvm.Cond.methodLink "DrownedSlatesLaw" (138 : Nat) ({ cls := "DrownedSlatesModel", name := "study", desc := "(I)I" } : Jvm.MethodName)) ∈ za_wd := zxt_8 137 rfl rfl
theorem zx_1925 : (Jvm.Cond.instanceMethod ({ cls := "DrownedSlatesModel", name := "study", desc := "(I)I" } : Jvm.MethodName)) ∈ za_wd := zxt_8 138 rfl rfl
theorem zx_1926 : (Jvm.Cond.selects "DrownedSlatesModel" ({ cls := "DrownedSlatesModel", name := "study", desc := "(I)I" } : Jvm.MethodName) ({ cls := "DrownedSlatesModel", name := "study", desc := "(I)I" } : Jvm.MethodName)) ∈ za_wd := zxt_8 139 rfl rfl
theorem zx_1927 : (Jvm.Cond.code ({ cls := "DrownedSlatesModel", name := "study", desc := "(I)I" } : Jvm.MethodName) prog_14_method_77_code (3 : Nat) (Option.some Jvm.ClassFile.FieldType.int)) ∈ za_wd := zxt_8 140 rfl rfl
theorem zx_1928 : (Jvm.Cond.methodLink "DrownedSlatesModel" (458 : Nat) ({ cls := "DrownedSlatesModel", name := "studies", desc := "(II)Z" } : Jvm.MethodName)) ∈ za_wd := zxt_8 141 rfl rfl
theorem zx_1930 : (Jvm.Cond.instanceMethod ({ cls := "DrownedSlatesModel", name := "studies", desc := "(II)Z" } : Jvm.MethodName)) ∈ za_wd := zxt_8 143 rfl rfl
theorem zx_1931 : (Jvm.Cond.code ({ cls := "DrownedSlatesModel", name := "studies", desc := "(II)Z" } : Jvm.MethodName) prog_14_method_76_code (6 : Nat) (Option.some Jvm.ClassFile.FieldType.boolean)) ∈ za_wd := zxt_8 144 rfl rfl
theorem zx_1932 : (Jvm.Cond.methodLink "DrownedSlatesModel" (455 : Nat) ({ cls := "DrownedSlatesModel", name := "isRead", desc := "(I)Z" } : Jvm.MethodName)) ∈ za_wd := zxt_8 145 rfl rfl
theorem zx_1934 : (Jvm.Cond.instanceMethod ({ cls := "DrownedSlatesModel", name := "isRead", desc := "(I)Z" } : Jvm.MethodName)) ∈ za_wd := zxt_8 147 rfl rfl
theorem zx_1935 : (Jvm.Cond.code ({ cls := "DrownedSlatesModel", name := "isRead", desc := "(I)Z" } : Jvm.MethodName) prog_14_method_75_code (4 : Nat) (Option.some Jvm.ClassFile.FieldType.boolean)) ∈ za_wd := zxt_8 148 rfl rfl
theorem zx_1936 : (Jvm.Cond.methodLink "DrownedSlatesModel" (452 : Nat) ({ cls := "DrownedSlatesModel", name := "isNear", desc := "(III)Z" } : Jvm.MethodName)) ∈ za_wd := zxt_8 149 rfl rfl
theorem zx_1938 : (Jvm.Cond.instanceMethod ({ cls := "DrownedSlatesModel", name := "isNear", desc := "(III)Z" } : Jvm.MethodName)) ∈ za_wd := zxt_8 151 rfl rfl
theorem zx_1939 : (Jvm.Cond.code ({ cls := "DrownedSlatesModel", name := "isNear", desc := "(III)Z" } : Jvm.MethodName) prog_14_method_74_code (4 : Nat) (Option.some Jvm.ClassFile.FieldType.boolean)) ∈ za_wd := zxt_8 152 rfl rfl
theorem zx_1940 : (Jvm.Cond.methodLink "DrownedSlatesModel" (449 : Nat) ({ cls := "DrownedSlatesModel", name := "off", desc := "(II)I" } : Jvm.MethodName)) ∈ za_wd := zxt_8 153 rfl rfl
theorem zx_1941 : (Jvm.Cond.static ({ cls := "DrownedSlatesModel", name := "off", desc := "(II)I" } : Jvm.MethodName)) ∈ za_wd := zxt_8 154 rfl rfl
theorem zx_1942 : (Jvm.Cond.code ({ cls := "DrownedSlatesModel", name := "off", desc := "(II)I" } : Jvm.MethodName) prog_14_method_5_code (2 : Nat) (Option.some Jvm.ClassFile.FieldType.int)) ∈ za_wd := zxt_8 155 rfl rfl
theorem zx_1943 : (Jvm.Cond.methodLink "DrownedSlatesLaw" (141 : Nat) ({ cls := "DrownedSlatesModel", name := "studied", desc := "(I)I" } : Jvm.MethodName)) ∈ za_wd := zxt_8 156 rfl rfl
theorem zx_1944 : (Jvm.Cond.instanceMethod ({ cls := "DrownedSlatesModel", name := "studied", desc := "(I)I" } : Jvm.MethodName)) ∈ za_wd := zxt_8 157 rfl rfl
theorem zx_1945 : (Jvm.Cond.selects "DrownedSlatesModel" ({ cls := "DrownedSlatesModel", name := "studied", desc := "(I)I" } : Jvm.MethodName) ({ cls := "DrownedSlatesModel", name := "studied", desc := "(I)I" } : Jvm.MethodName)) ∈ za_wd := zxt_8 158 rfl rfl
theorem zx_1946 : (Jvm.Cond.code ({ cls := "DrownedSlatesModel", name := "studied", desc := "(I)I" } : Jvm.MethodName) prog_14_method_78_code (2 : Nat) (Option.some Jvm.ClassFile.FieldType.int)) ∈ za_wd := zxt_8 159 rfl rfl
theorem zx_1947 : (Jvm.Cond.methodLink "DrownedSlatesLaw" (144 : Nat) ({ cls := "DrownedSlatesModel", name := "dive", desc := "(II)I" } : Jvm.MethodName)) ∈ za_wd := zxt_8 160 rfl rfl
theorem zx_1948 : (Jvm.Cond.instanceMethod ({ cls := "DrownedSlatesModel", name := "dive", desc := "(II)I" } : Jvm.MethodName)) ∈ za_wd := zxt_8 161 rfl rfl
theorem zx_1949 : (Jvm.Cond.selects "DrownedSlatesModel" ({ cls := "DrownedSlatesModel", name := "dive", desc := "(II)I" } : Jvm.MethodName) ({ cls := "DrownedSlatesModel", name := "dive", desc := "(II)I" } : Jvm.MethodName)) ∈ za_wd := zxt_8 162 rfl rfl
theorem zx_1950 : (Jvm.Cond.code ({ cls := "DrownedSlatesModel", name := "dive", desc := "(II)I" } : Jvm.MethodName) prog_14_method_79_code (8 : Nat) (Option.some Jvm.ClassFile.FieldType.int)) ∈ za_wd := zxt_8 163 rfl rfl
theorem zx_1951 : (Jvm.Cond.methodLink "DrownedSlatesLaw" (150 : Nat) ({ cls := "DrownedSlatesModel", name := "chart", desc := "(I)J" } : Jvm.MethodName)) ∈ za_wd := zxt_8 164 rfl rfl
theorem zx_1952 : (Jvm.Cond.instanceMethod ({ cls := "DrownedSlatesModel", name := "chart", desc := "(I)J" } : Jvm.MethodName)) ∈ za_wd := zxt_8 165 rfl rfl
theorem zx_1953 : (Jvm.Cond.selects "DrownedSlatesModel" ({ cls := "DrownedSlatesModel", name := "chart", desc := "(I)J" } : Jvm.MethodName) ({ cls := "DrownedSlatesModel", name := "chart", desc := "(I)J" } : Jvm.MethodName)) ∈ za_wd := zxt_8 166 rfl rfl
theorem zx_1954 : (Jvm.Cond.code ({ cls := "DrownedSlatesModel", name := "chart", desc := "(I)J" } : Jvm.MethodName) prog_14_method_80_code (9 : Nat) (Option.some Jvm.ClassFile.FieldType.long)) ∈ za_wd := zxt_8 167 rfl rfl
theorem zx_1955 : (Jvm.Cond.methodLink "DrownedSlatesLaw" (153 : Nat) ({ cls := "DrownedSlatesModel", name := "hand", desc := "(II)J" } : Jvm.MethodName)) ∈ za_wd := zxt_8 168 rfl rfl
theorem zx_1956 : (Jvm.Cond.instanceMethod ({ cls := "DrownedSlatesModel", name := "hand", desc := "(II)J" } : Jvm.MethodName)) ∈ za_wd := zxt_8 169 rfl rfl
theorem zx_1957 : (Jvm.Cond.selects "DrownedSlatesModel" ({ cls := "DrownedSlatesModel", name := "hand", desc := "(II)J" } : Jvm.MethodName) ({ cls := "DrownedSlatesModel", name := "hand", desc := "(II)J" } : Jvm.MethodName)) ∈ za_wd := zxt_8 170 rfl rfl
theorem zx_1958 : (Jvm.Cond.code ({ cls := "DrownedSlatesModel", name := "hand", desc := "(II)J" } : Jvm.MethodName) prog_14_method_82_code (13 : Nat) (Option.some Jvm.ClassFile.FieldType.long)) ∈ za_wd := zxt_8 171 rfl rfl
theorem zx_1959 : (Jvm.Cond.methodLink "DrownedSlatesModel" (461 : Nat) ({ cls := "DrownedSlatesModel", name := "product", desc := "(IIII)J" } : Jvm.MethodName)) ∈ za_wd := zxt_8 172 rfl rfl
theorem zx_1961 : (Jvm.Cond.instanceMethod ({ cls := "DrownedSlatesModel", name := "product", desc := "(IIII)J" } : Jvm.MethodName)) ∈ za_wd := zxt_8 174 rfl rfl
theorem zx_1962 : (Jvm.Cond.code ({ cls := "DrownedSlatesModel", name := "product", desc := "(IIII)J" } : Jvm.MethodName) prog_14_method_81_code (8 : Nat) (Option.some Jvm.ClassFile.FieldType.long)) ∈ za_wd := zxt_8 175 rfl rfl
theorem zx_1963 : (Jvm.Cond.methodLink "DrownedSlatesLaw" (156 : Nat) ({ cls := "DrownedSlatesModel", name := "copied", desc := "(III)I" } : Jvm.MethodName)) ∈ za_wd := zxt_8 176 rfl rfl
theorem zx_1964 : (Jvm.Cond.instanceMethod ({ cls := "DrownedSlatesModel", name := "copied", desc := "(III)I" } : Jvm.MethodName)) ∈ za_wd := zxt_8 177 rfl rfl
theorem zx_1965 : (Jvm.Cond.selects "DrownedSlatesModel" ({ cls := "DrownedSlatesModel", name := "copied", desc := "(III)I" } : Jvm.MethodName) ({ cls := "DrownedSlatesModel", name := "copied", desc := "(III)I" } : Jvm.MethodName)) ∈ za_wd := zxt_8 178 rfl rfl
theorem zx_1966 : (Jvm.Cond.code ({ cls := "DrownedSlatesModel", name := "copied", desc := "(III)I" } : Jvm.MethodName) prog_14_method_84_code (9 : Nat) (Option.some Jvm.ClassFile.FieldType.int)) ∈ za_wd := zxt_8 179 rfl rfl
theorem zx_1967 : (Jvm.Cond.methodLink "DrownedSlatesModel" (465 : Nat) ({ cls := "DrownedSlatesModel", name := "alike", desc := "(IIII)I" } : Jvm.MethodName)) ∈ za_wd := zxt_8 180 rfl rfl
theorem zx_1969 : (Jvm.Cond.instanceMethod ({ cls := "DrownedSlatesModel", name := "alike", desc := "(IIII)I" } : Jvm.MethodName)) ∈ za_wd := zxt_8 182 rfl rfl
theorem zx_1970 : (Jvm.Cond.code ({ cls := "DrownedSlatesModel", name := "alike", desc := "(IIII)I" } : Jvm.MethodName) prog_14_method_83_code (6 : Nat) (Option.some Jvm.ClassFile.FieldType.int)) ∈ za_wd := zxt_8 183 rfl rfl
theorem zx_1971 : (Jvm.Cond.methodLink "DrownedSlatesLaw" (160 : Nat) ({ cls := "DrownedSlatesModel", name := "image", desc := "()V" } : Jvm.MethodName)) ∈ za_wd := zxt_8 184 rfl rfl
theorem zx_1972 : (Jvm.Cond.instanceMethod ({ cls := "DrownedSlatesModel", name := "image", desc := "()V" } : Jvm.MethodName)) ∈ za_wd := zxt_8 185 rfl rfl
theorem zx_1973 : (Jvm.Cond.selects "DrownedSlatesModel" ({ cls := "DrownedSlatesModel", name := "image", desc := "()V" } : Jvm.MethodName) ({ cls := "DrownedSlatesModel", name := "image", desc := "()V" } : Jvm.MethodName)) ∈ za_wd := zxt_8 186 rfl rfl
theorem zx_1974 : (Jvm.Cond.code ({ cls := "DrownedSlatesModel", name := "image", desc := "()V" } : Jvm.MethodName) prog_14_method_85_code (1 : Nat) (Option.none : Option Jvm.ClassFile.FieldType)) ∈ za_wd := zxt_8 187 rfl rfl
theorem zx_1975 : (Jvm.Cond.methodLink "DrownedSlatesLaw" (165 : Nat) ({ cls := "DrownedSlatesModel", name := "restore", desc := "()Z" } : Jvm.MethodName)) ∈ za_wd := zxt_8 188 rfl rfl
theorem zx_1976 : (Jvm.Cond.instanceMethod ({ cls := "DrownedSlatesModel", name := "restore", desc := "()Z" } : Jvm.MethodName)) ∈ za_wd := zxt_8 189 rfl rfl
theorem zx_1977 : (Jvm.Cond.selects "DrownedSlatesModel" ({ cls := "DrownedSlatesModel", name := "restore", desc := "()Z" } : Jvm.MethodName) ({ cls := "DrownedSlatesModel", name := "restore", desc := "()Z" } : Jvm.MethodName)) ∈ za_wd := zxt_8 190 rfl rfl
theorem zx_1978 : (Jvm.Cond.code ({ cls := "DrownedSlatesModel", name := "restore", desc := "()Z" } : Jvm.MethodName) prog_14_method_86_code (1 : Nat) (Option.some Jvm.ClassFile.FieldType.boolean)) ∈ za_wd := zxt_8 191 rfl rfl

set_option maxRecDepth 20000 in
theorem zc_f0 : ∀ w ∈ u_ws RX0 TX0 10, w ∈ za_wd := by
  refine zx_c zx_304 ?_
  refine zx_c zx_306 ?_
  refine zx_c zx_308 ?_
  refine zx_c zx_310 ?_
  refine zx_c zx_312 ?_
  refine zx_c zx_314 ?_
  refine zx_c zx_316 ?_
  refine zx_c zx_318 ?_
  refine zx_c zx_320 ?_
  refine zx_c zx_322 ?_
  exact zx_n
set_option maxRecDepth 20000 in
theorem zc_f1 : ∀ w ∈ u_ws RX1 TX1 12, w ∈ za_wd := by
  refine zx_c zx_500 ?_
  refine zx_c zx_502 ?_
  refine zx_c zx_504 ?_
  refine zx_c zx_506 ?_
  refine zx_c zx_508 ?_
  refine zx_c zx_510 ?_
  refine zx_c zx_512 ?_
  refine zx_c zx_514 ?_
  refine zx_c zx_516 ?_
  refine zx_c zx_518 ?_
  refine zx_c zx_520 ?_
  refine zx_c zx_522 ?_
  exact zx_n
set_option maxRecDepth 20000 in
theorem zc_f2 : ∀ w ∈ u_ws RX2 TX2 3, w ∈ za_wd := by
  refine zx_c zx_372 ?_
  refine zx_c zx_374 ?_
  refine zx_c zx_376 ?_
  exact zx_n
set_option maxRecDepth 20000 in
theorem zc_f3 : ∀ w ∈ u_ws RX3 TX3 2, w ∈ za_wd := by
  refine zx_c zx_452 ?_
  refine zx_c zx_454 ?_
  exact zx_n
set_option maxRecDepth 20000 in
theorem zc_f4 : ∀ w ∈ u_ws RX4 TX4 4, w ∈ za_wd := by
  refine zx_c zx_539 ?_
  refine zx_c zx_541 ?_
  refine zx_c zx_543 ?_
  refine zx_c zx_545 ?_
  exact zx_n
set_option maxRecDepth 20000 in
theorem zc_f5 : ∀ w ∈ u_ws RX5 TX5 4, w ∈ za_wd := by
  refine zx_c zx_471 ?_
  refine zx_c zx_473 ?_
  refine zx_c zx_475 ?_
  refine zx_c zx_477 ?_
  exact zx_n
set_option maxRecDepth 20000 in
theorem zc_f6 : ∀ w ∈ u_ws RX6 TX6 3, w ∈ za_wd := by
  refine zx_c zx_560 ?_
  refine zx_c zx_562 ?_
  refine zx_c zx_564 ?_
  exact zx_n
set_option maxRecDepth 20000 in
theorem zc_f7 : ∀ w ∈ u_ws RX7 TX7 6, w ∈ za_wd := by
  refine zx_c zx_387 ?_
  refine zx_c zx_389 ?_
  refine zx_c zx_391 ?_
  refine zx_c zx_393 ?_
  refine zx_c zx_395 ?_
  refine zx_c zx_397 ?_
  exact zx_n
set_option maxRecDepth 20000 in
theorem zc_f8 : ∀ w ∈ u_ws RX8 TX8 8, w ∈ za_wd := by
  refine zx_c zx_427 ?_
  refine zx_c zx_429 ?_
  refine zx_c zx_431 ?_
  refine zx_c zx_433 ?_
  refine zx_c zx_435 ?_
  refine zx_c zx_437 ?_
  refine zx_c zx_439 ?_
  refine zx_c zx_441 ?_
  exact zx_n
set_option maxRecDepth 20000 in
theorem zc_f9 : ∀ w ∈ u_ws RX9 TX9 6, w ∈ za_wd := by
  refine zx_c zx_348 ?_
  refine zx_c zx_350 ?_
  refine zx_c zx_352 ?_
  refine zx_c zx_354 ?_
  refine zx_c zx_356 ?_
  refine zx_c zx_358 ?_
  exact zx_n
set_option maxRecDepth 20000 in
theorem zc_f10 : ∀ w ∈ u_ws RX10 TX10 20, w ∈ za_wd := by
  refine zx_c zx_227 ?_
  refine zx_c zx_229 ?_
  refine zx_c zx_231 ?_
  refine zx_c zx_233 ?_
  refine zx_c zx_235 ?_
  refine zx_c zx_237 ?_
  refine zx_c zx_239 ?_
  refine zx_c zx_241 ?_
  refine zx_c zx_243 ?_
  refine zx_c zx_245 ?_
  refine zx_c zx_247 ?_
  refine zx_c zx_249 ?_
  refine zx_c zx_251 ?_
  refine zx_c zx_253 ?_
  refine zx_c zx_255 ?_
  refine zx_c zx_257 ?_
  refine zx_c zx_259 ?_
  refine zx_c zx_261 ?_
  refine zx_c zx_263 ?_
  refine zx_c zx_265 ?_
  exact zx_n
set_option maxRecDepth 20000 in
theorem zc_f11 : ∀ w ∈ u_ws RX11 TX11 18, w ∈ za_wd := by
  refine zx_c zx_585 ?_
  refine zx_c zx_587 ?_
  refine zx_c zx_589 ?_
  refine zx_c zx_591 ?_
  refine zx_c zx_593 ?_
  refine zx_c zx_595 ?_
  refine zx_c zx_597 ?_
  refine zx_c zx_599 ?_
  refine zx_c zx_601 ?_
  refine zx_c zx_603 ?_
  refine zx_c zx_605 ?_
  refine zx_c zx_607 ?_
  refine zx_c zx_609 ?_
  refine zx_c zx_611 ?_
  refine zx_c zx_613 ?_
  refine zx_c zx_615 ?_
  refine zx_c zx_617 ?_
  refine zx_c zx_619 ?_
  exact zx_n
set_option maxRecDepth 20000 in
theorem zc_f12 : ∀ w ∈ u_ws RX12 TX12 85, w ∈ za_wd := by
  refine zx_c zx_1475 ?_
  refine zx_c zx_1477 ?_
  refine zx_c zx_1479 ?_
  refine zx_c zx_1481 ?_
  refine zx_c zx_1483 ?_
  refine zx_c zx_1485 ?_
  refine zx_c zx_1487 ?_
  refine zx_c zx_1489 ?_
  refine zx_c zx_1491 ?_
  refine zx_c zx_1493 ?_
  refine zx_c zx_1495 ?_
  refine zx_c zx_1497 ?_
  refine zx_c zx_1499 ?_
  refine zx_c zx_1501 ?_
  refine zx_c zx_1503 ?_
  refine zx_c zx_1505 ?_
  refine zx_c zx_1507 ?_
  refine zx_c zx_1509 ?_
  refine zx_c zx_1511 ?_
  refine zx_c zx_1513 ?_
  refine zx_c zx_1515 ?_
  refine zx_c zx_1517 ?_
  refine zx_c zx_1519 ?_
  refine zx_c zx_1521 ?_
  refine zx_c zx_1523 ?_
  refine zx_c zx_1525 ?_
  refine zx_c zx_1527 ?_
  refine zx_c zx_1529 ?_
  refine zx_c zx_1531 ?_
  refine zx_c zx_1533 ?_
  refine zx_c zx_1535 ?_
  refine zx_c zx_1537 ?_
  refine zx_c zx_1539 ?_
  refine zx_c zx_1541 ?_
  refine zx_c zx_1543 ?_
  refine zx_c zx_1545 ?_
  refine zx_c zx_1547 ?_
  refine zx_c zx_1549 ?_
  refine zx_c zx_1551 ?_
  refine zx_c zx_1553 ?_
  refine zx_c zx_1555 ?_
  refine zx_c zx_1557 ?_
  refine zx_c zx_1559 ?_
  refine zx_c zx_1561 ?_
  refine zx_c zx_1563 ?_
  refine zx_c zx_1565 ?_
  refine zx_c zx_1567 ?_
  refine zx_c zx_1569 ?_
  refine zx_c zx_1571 ?_
  refine zx_c zx_1573 ?_
  refine zx_c zx_1575 ?_
  refine zx_c zx_1577 ?_
  refine zx_c zx_1579 ?_
  refine zx_c zx_1581 ?_
  refine zx_c zx_1583 ?_
  refine zx_c zx_1585 ?_
  refine zx_c zx_1587 ?_
  refine zx_c zx_1589 ?_
  refine zx_c zx_1591 ?_
  refine zx_c zx_1593 ?_
  refine zx_c zx_1595 ?_
  refine zx_c zx_1597 ?_
  refine zx_c zx_1599 ?_
  refine zx_c zx_1601 ?_
  refine zx_c zx_1603 ?_
  refine zx_c zx_1605 ?_
  refine zx_c zx_1607 ?_
  refine zx_c zx_1609 ?_
  refine zx_c zx_1611 ?_
  refine zx_c zx_1613 ?_
  refine zx_c zx_1615 ?_
  refine zx_c zx_1617 ?_
  refine zx_c zx_1619 ?_
  refine zx_c zx_1621 ?_
  refine zx_c zx_1623 ?_
  refine zx_c zx_1625 ?_
  refine zx_c zx_1627 ?_
  refine zx_c zx_1629 ?_
  refine zx_c zx_1631 ?_
  refine zx_c zx_1633 ?_
  refine zx_c zx_1635 ?_
  refine zx_c zx_1637 ?_
  refine zx_c zx_1639 ?_
  refine zx_c zx_1641 ?_
  refine zx_c zx_1643 ?_
  exact zx_n
set_option maxRecDepth 20000 in
theorem zc_w0 : ∀ w ∈ za_words RX0 za_cp0, w ∈ za_wd := by
  refine zx_c zx_276 ?_
  refine zx_c zx_141 ?_
  refine zx_c zx_142 ?_
  refine zx_c zx_282 ?_
  refine zx_c zx_287 ?_
  refine zx_c zx_291 ?_
  refine zx_c zx_296 ?_
  refine zx_c zx_298 ?_
  refine zx_c zx_299 ?_
  refine zx_c zx_302 ?_
  refine zx_c zx_303 ?_
  refine zx_c zx_277 ?_
  refine zx_c zx_300 ?_
  refine zx_c zx_1173 ?_
  refine zx_c zx_747 ?_
  refine zx_c zx_749 ?_
  refine zx_c zx_748 ?_
  refine zx_c zx_133 ?_
  exact zx_n
set_option maxRecDepth 20000 in
theorem zc_w1 : ∀ w ∈ za_words RX1 za_cp1, w ∈ za_wd := by
  refine zx_c zx_485 ?_
  refine zx_c zx_141 ?_
  refine zx_c zx_142 ?_
  refine zx_c zx_486 ?_
  refine zx_c zx_487 ?_
  refine zx_c zx_488 ?_
  refine zx_c zx_489 ?_
  refine zx_c zx_490 ?_
  refine zx_c zx_491 ?_
  refine zx_c zx_492 ?_
  refine zx_c zx_493 ?_
  refine zx_c zx_494 ?_
  refine zx_c zx_495 ?_
  refine zx_c zx_496 ?_
  refine zx_c zx_498 ?_
  refine zx_c zx_278 ?_
  refine zx_c zx_1271 ?_
  refine zx_c zx_651 ?_
  refine zx_c zx_652 ?_
  refine zx_c zx_284 ?_
  refine zx_c zx_408 ?_
  refine zx_c zx_1272 ?_
  refine zx_c zx_693 ?_
  refine zx_c zx_694 ?_
  refine zx_c zx_1273 ?_
  refine zx_c zx_1275 ?_
  refine zx_c zx_51 ?_
  refine zx_c zx_1286 ?_
  refine zx_c zx_1287 ?_
  refine zx_c zx_1288 ?_
  refine zx_c zx_1281 ?_
  refine zx_c zx_162 ?_
  refine zx_c zx_189 ?_
  refine zx_c zx_1282 ?_
  refine zx_c zx_1284 ?_
  refine zx_c zx_52 ?_
  refine zx_c zx_1298 ?_
  refine zx_c zx_1175 ?_
  refine zx_c zx_1299 ?_
  refine zx_c zx_1301 ?_
  refine zx_c zx_53 ?_
  refine zx_c zx_1307 ?_
  refine zx_c zx_1309 ?_
  refine zx_c zx_54 ?_
  refine zx_c zx_1311 ?_
  refine zx_c zx_1313 ?_
  refine zx_c zx_55 ?_
  refine zx_c zx_1316 ?_
  refine zx_c zx_749 ?_
  refine zx_c zx_748 ?_
  refine zx_c zx_133 ?_
  refine zx_c zx_193 ?_
  refine zx_c zx_1303 ?_
  refine zx_c zx_1304 ?_
  refine zx_c zx_1315 ?_
  refine zx_c zx_697 ?_
  refine zx_c zx_698 ?_
  refine zx_c zx_466 ?_
  refine zx_c zx_415 ?_
  exact zx_n
set_option maxRecDepth 20000 in
theorem zc_w2 : ∀ w ∈ za_words RX2 za_cp2, w ∈ za_wd := by
  refine zx_c zx_366 ?_
  refine zx_c zx_141 ?_
  refine zx_c zx_142 ?_
  refine zx_c zx_368 ?_
  refine zx_c zx_370 ?_
  refine zx_c zx_367 ?_
  refine zx_c zx_225 ?_
  refine zx_c zx_1063 ?_
  refine zx_c zx_1065 ?_
  refine zx_c zx_40 ?_
  refine zx_c zx_344 ?_
  refine zx_c zx_1025 ?_
  refine zx_c zx_1026 ?_
  refine zx_c zx_1027 ?_
  refine zx_c zx_1029 ?_
  refine zx_c zx_1031 ?_
  refine zx_c zx_33 ?_
  refine zx_c zx_1033 ?_
  refine zx_c zx_1035 ?_
  refine zx_c zx_34 ?_
  refine zx_c zx_1041 ?_
  refine zx_c zx_1042 ?_
  refine zx_c zx_1043 ?_
  refine zx_c zx_1045 ?_
  refine zx_c zx_849 ?_
  refine zx_c zx_850 ?_
  refine zx_c zx_1067 ?_
  refine zx_c zx_1069 ?_
  refine zx_c zx_41 ?_
  refine zx_c zx_1037 ?_
  refine zx_c zx_1039 ?_
  refine zx_c zx_35 ?_
  refine zx_c zx_1046 ?_
  refine zx_c zx_1048 ?_
  refine zx_c zx_36 ?_
  refine zx_c zx_1050 ?_
  refine zx_c zx_1052 ?_
  refine zx_c zx_37 ?_
  refine zx_c zx_347 ?_
  refine zx_c zx_1054 ?_
  refine zx_c zx_1056 ?_
  refine zx_c zx_38 ?_
  refine zx_c zx_1058 ?_
  refine zx_c zx_1060 ?_
  refine zx_c zx_39 ?_
  refine zx_c zx_1062 ?_
  refine zx_c zx_1023 ?_
  refine zx_c zx_32 ?_
  exact zx_n
set_option maxRecDepth 20000 in
theorem zc_w3 : ∀ w ∈ za_words RX3 za_cp3, w ∈ za_wd := by
  refine zx_c zx_449 ?_
  refine zx_c zx_141 ?_
  refine zx_c zx_142 ?_
  refine zx_c zx_450 ?_
  refine zx_c zx_451 ?_
  refine zx_c zx_288 ?_
  refine zx_c zx_283 ?_
  refine zx_c zx_159 ?_
  refine zx_c zx_1210 ?_
  refine zx_c zx_1211 ?_
  refine zx_c zx_1212 ?_
  refine zx_c zx_1214 ?_
  refine zx_c zx_1216 ?_
  refine zx_c zx_45 ?_
  refine zx_c zx_1234 ?_
  refine zx_c zx_660 ?_
  refine zx_c zx_661 ?_
  refine zx_c zx_1235 ?_
  refine zx_c zx_664 ?_
  refine zx_c zx_665 ?_
  refine zx_c zx_1236 ?_
  refine zx_c zx_1238 ?_
  refine zx_c zx_49 ?_
  refine zx_c zx_1222 ?_
  refine zx_c zx_1223 ?_
  refine zx_c zx_1224 ?_
  refine zx_c zx_1218 ?_
  refine zx_c zx_1220 ?_
  refine zx_c zx_46 ?_
  exact zx_n
set_option maxRecDepth 20000 in
theorem zc_w4 : ∀ w ∈ za_words RX4 za_cp4, w ∈ za_wd := by
  refine zx_c zx_530 ?_
  refine zx_c zx_141 ?_
  refine zx_c zx_142 ?_
  refine zx_c zx_531 ?_
  refine zx_c zx_533 ?_
  refine zx_c zx_535 ?_
  refine zx_c zx_537 ?_
  refine zx_c zx_182 ?_
  refine zx_c zx_293 ?_
  refine zx_c zx_1357 ?_
  refine zx_c zx_1359 ?_
  refine zx_c zx_56 ?_
  refine zx_c zx_1361 ?_
  refine zx_c zx_660 ?_
  refine zx_c zx_661 ?_
  refine zx_c zx_1362 ?_
  refine zx_c zx_1363 ?_
  refine zx_c zx_1364 ?_
  exact zx_n
set_option maxRecDepth 20000 in
theorem zc_w5 : ∀ w ∈ za_words RX5 za_cp5, w ∈ za_wd := by
  refine zx_c zx_462 ?_
  refine zx_c zx_141 ?_
  refine zx_c zx_142 ?_
  refine zx_c zx_463 ?_
  refine zx_c zx_401 ?_
  refine zx_c zx_115 ?_
  refine zx_c zx_403 ?_
  refine zx_c zx_465 ?_
  refine zx_c zx_468 ?_
  refine zx_c zx_469 ?_
  refine zx_c zx_470 ?_
  refine zx_c zx_204 ?_
  refine zx_c zx_208 ?_
  refine zx_c zx_700 ?_
  refine zx_c zx_655 ?_
  refine zx_c zx_656 ?_
  refine zx_c zx_701 ?_
  refine zx_c zx_703 ?_
  refine zx_c zx_4 ?_
  refine zx_c zx_414 ?_
  refine zx_c zx_709 ?_
  refine zx_c zx_711 ?_
  refine zx_c zx_5 ?_
  refine zx_c zx_719 ?_
  refine zx_c zx_721 ?_
  refine zx_c zx_6 ?_
  refine zx_c zx_738 ?_
  refine zx_c zx_672 ?_
  refine zx_c zx_673 ?_
  refine zx_c zx_407 ?_
  refine zx_c zx_705 ?_
  refine zx_c zx_706 ?_
  refine zx_c zx_707 ?_
  refine zx_c zx_197 ?_
  refine zx_c zx_713 ?_
  refine zx_c zx_714 ?_
  refine zx_c zx_715 ?_
  refine zx_c zx_411 ?_
  refine zx_c zx_717 ?_
  refine zx_c zx_688 ?_
  refine zx_c zx_689 ?_
  refine zx_c zx_718 ?_
  refine zx_c zx_676 ?_
  refine zx_c zx_677 ?_
  refine zx_c zx_215 ?_
  refine zx_c zx_222 ?_
  refine zx_c zx_723 ?_
  refine zx_c zx_725 ?_
  refine zx_c zx_7 ?_
  refine zx_c zx_219 ?_
  refine zx_c zx_226 ?_
  refine zx_c zx_727 ?_
  refine zx_c zx_729 ?_
  refine zx_c zx_8 ?_
  refine zx_c zx_731 ?_
  refine zx_c zx_733 ?_
  refine zx_c zx_9 ?_
  refine zx_c zx_735 ?_
  refine zx_c zx_736 ?_
  exact zx_n
set_option maxRecDepth 20000 in
theorem zc_w6 : ∀ w ∈ za_words RX6 za_cp6, w ∈ za_wd := by
  refine zx_c zx_553 ?_
  refine zx_c zx_141 ?_
  refine zx_c zx_142 ?_
  refine zx_c zx_554 ?_
  refine zx_c zx_556 ?_
  refine zx_c zx_558 ?_
  refine zx_c zx_292 ?_
  refine zx_c zx_1378 ?_
  refine zx_c zx_1379 ?_
  refine zx_c zx_1381 ?_
  refine zx_c zx_846 ?_
  refine zx_c zx_1382 ?_
  refine zx_c zx_660 ?_
  refine zx_c zx_661 ?_
  refine zx_c zx_1383 ?_
  refine zx_c zx_664 ?_
  refine zx_c zx_665 ?_
  exact zx_n
set_option maxRecDepth 20000 in
theorem zc_w7 : ∀ w ∈ za_words RX7 za_cp7, w ∈ za_wd := by
  refine zx_c zx_330 ?_
  refine zx_c zx_141 ?_
  refine zx_c zx_142 ?_
  refine zx_c zx_381 ?_
  refine zx_c zx_382 ?_
  refine zx_c zx_383 ?_
  refine zx_c zx_385 ?_
  refine zx_c zx_331 ?_
  refine zx_c zx_332 ?_
  refine zx_c zx_113 ?_
  refine zx_c zx_333 ?_
  refine zx_c zx_334 ?_
  refine zx_c zx_379 ?_
  refine zx_c zx_361 ?_
  refine zx_c zx_362 ?_
  refine zx_c zx_114 ?_
  refine zx_c zx_363 ?_
  refine zx_c zx_364 ?_
  refine zx_c zx_380 ?_
  refine zx_c zx_151 ?_
  refine zx_c zx_0 ?_
  refine zx_c zx_833 ?_
  refine zx_c zx_834 ?_
  refine zx_c zx_835 ?_
  refine zx_c zx_837 ?_
  refine zx_c zx_838 ?_
  refine zx_c zx_839 ?_
  refine zx_c zx_841 ?_
  refine zx_c zx_842 ?_
  refine zx_c zx_843 ?_
  refine zx_c zx_343 ?_
  refine zx_c zx_920 ?_
  refine zx_c zx_922 ?_
  refine zx_c zx_14 ?_
  refine zx_c zx_1072 ?_
  refine zx_c zx_1074 ?_
  refine zx_c zx_42 ?_
  refine zx_c zx_341 ?_
  refine zx_c zx_1076 ?_
  refine zx_c zx_1026 ?_
  refine zx_c zx_1027 ?_
  refine zx_c zx_924 ?_
  refine zx_c zx_926 ?_
  refine zx_c zx_15 ?_
  refine zx_c zx_932 ?_
  refine zx_c zx_849 ?_
  refine zx_c zx_850 ?_
  refine zx_c zx_346 ?_
  refine zx_c zx_928 ?_
  refine zx_c zx_930 ?_
  refine zx_c zx_16 ?_
  refine zx_c zx_933 ?_
  refine zx_c zx_935 ?_
  refine zx_c zx_17 ?_
  refine zx_c zx_176 ?_
  refine zx_c zx_946 ?_
  refine zx_c zx_947 ?_
  refine zx_c zx_952 ?_
  refine zx_c zx_954 ?_
  refine zx_c zx_20 ?_
  refine zx_c zx_956 ?_
  refine zx_c zx_958 ?_
  refine zx_c zx_21 ?_
  refine zx_c zx_965 ?_
  refine zx_c zx_967 ?_
  refine zx_c zx_23 ?_
  refine zx_c zx_279 ?_
  refine zx_c zx_985 ?_
  refine zx_c zx_987 ?_
  refine zx_c zx_25 ?_
  refine zx_c zx_184 ?_
  refine zx_c zx_997 ?_
  refine zx_c zx_999 ?_
  refine zx_c zx_26 ?_
  refine zx_c zx_1001 ?_
  refine zx_c zx_1003 ?_
  refine zx_c zx_27 ?_
  refine zx_c zx_1005 ?_
  refine zx_c zx_1007 ?_
  refine zx_c zx_28 ?_
  refine zx_c zx_201 ?_
  refine zx_c zx_1009 ?_
  refine zx_c zx_1011 ?_
  refine zx_c zx_29 ?_
  refine zx_c zx_216 ?_
  refine zx_c zx_1017 ?_
  refine zx_c zx_1019 ?_
  refine zx_c zx_31 ?_
  refine zx_c zx_941 ?_
  refine zx_c zx_943 ?_
  refine zx_c zx_19 ?_
  refine zx_c zx_977 ?_
  refine zx_c zx_978 ?_
  refine zx_c zx_979 ?_
  refine zx_c zx_169 ?_
  refine zx_c zx_172 ?_
  refine zx_c zx_159 ?_
  refine zx_c zx_937 ?_
  refine zx_c zx_939 ?_
  refine zx_c zx_18 ?_
  refine zx_c zx_155 ?_
  refine zx_c zx_1 ?_
  refine zx_c zx_960 ?_
  refine zx_c zx_962 ?_
  refine zx_c zx_22 ?_
  refine zx_c zx_969 ?_
  refine zx_c zx_970 ?_
  refine zx_c zx_971 ?_
  refine zx_c zx_973 ?_
  refine zx_c zx_975 ?_
  refine zx_c zx_24 ?_
  refine zx_c zx_981 ?_
  refine zx_c zx_982 ?_
  refine zx_c zx_983 ?_
  refine zx_c zx_989 ?_
  refine zx_c zx_990 ?_
  refine zx_c zx_991 ?_
  refine zx_c zx_993 ?_
  refine zx_c zx_994 ?_
  refine zx_c zx_995 ?_
  refine zx_c zx_187 ?_
  refine zx_c zx_191 ?_
  refine zx_c zx_195 ?_
  refine zx_c zx_199 ?_
  refine zx_c zx_1013 ?_
  refine zx_c zx_1015 ?_
  refine zx_c zx_30 ?_
  refine zx_c zx_206 ?_
  refine zx_c zx_210 ?_
  refine zx_c zx_213 ?_
  refine zx_c zx_1023 ?_
  refine zx_c zx_32 ?_
  refine zx_c zx_371 ?_
  refine zx_c zx_1071 ?_
  refine zx_c zx_1042 ?_
  refine zx_c zx_1043 ?_
  refine zx_c zx_220 ?_
  refine zx_c zx_223 ?_
  refine zx_c zx_369 ?_
  exact zx_n
set_option maxRecDepth 20000 in
theorem zc_w8 : ∀ w ∈ za_words RX8 za_cp8, w ∈ za_wd := by
  refine zx_c zx_405 ?_
  refine zx_c zx_141 ?_
  refine zx_c zx_142 ?_
  refine zx_c zx_406 ?_
  refine zx_c zx_410 ?_
  refine zx_c zx_413 ?_
  refine zx_c zx_417 ?_
  refine zx_c zx_419 ?_
  refine zx_c zx_421 ?_
  refine zx_c zx_423 ?_
  refine zx_c zx_425 ?_
  refine zx_c zx_159 ?_
  refine zx_c zx_675 ?_
  refine zx_c zx_676 ?_
  refine zx_c zx_677 ?_
  refine zx_c zx_679 ?_
  refine zx_c zx_681 ?_
  refine zx_c zx_3 ?_
  refine zx_c zx_687 ?_
  refine zx_c zx_688 ?_
  refine zx_c zx_689 ?_
  refine zx_c zx_683 ?_
  refine zx_c zx_684 ?_
  refine zx_c zx_685 ?_
  refine zx_c zx_671 ?_
  refine zx_c zx_672 ?_
  refine zx_c zx_673 ?_
  refine zx_c zx_285 ?_
  refine zx_c zx_289 ?_
  refine zx_c zx_654 ?_
  refine zx_c zx_655 ?_
  refine zx_c zx_656 ?_
  refine zx_c zx_294 ?_
  refine zx_c zx_659 ?_
  refine zx_c zx_660 ?_
  refine zx_c zx_661 ?_
  refine zx_c zx_663 ?_
  refine zx_c zx_664 ?_
  refine zx_c zx_665 ?_
  refine zx_c zx_667 ?_
  refine zx_c zx_668 ?_
  refine zx_c zx_669 ?_
  refine zx_c zx_281 ?_
  refine zx_c zx_650 ?_
  refine zx_c zx_651 ?_
  refine zx_c zx_652 ?_
  refine zx_c zx_692 ?_
  refine zx_c zx_693 ?_
  refine zx_c zx_694 ?_
  exact zx_n
set_option maxRecDepth 20000 in
theorem zc_w9 : ∀ w ∈ za_words RX9 za_cp9, w ∈ za_wd := by
  refine zx_c zx_336 ?_
  refine zx_c zx_141 ?_
  refine zx_c zx_142 ?_
  refine zx_c zx_338 ?_
  refine zx_c zx_339 ?_
  refine zx_c zx_340 ?_
  refine zx_c zx_342 ?_
  refine zx_c zx_345 ?_
  refine zx_c zx_337 ?_
  refine zx_c zx_845 ?_
  refine zx_c zx_846 ?_
  refine zx_c zx_848 ?_
  refine zx_c zx_849 ?_
  refine zx_c zx_850 ?_
  refine zx_c zx_852 ?_
  refine zx_c zx_853 ?_
  refine zx_c zx_855 ?_
  refine zx_c zx_857 ?_
  refine zx_c zx_11 ?_
  refine zx_c zx_908 ?_
  refine zx_c zx_909 ?_
  refine zx_c zx_911 ?_
  refine zx_c zx_913 ?_
  refine zx_c zx_12 ?_
  refine zx_c zx_916 ?_
  refine zx_c zx_918 ?_
  refine zx_c zx_13 ?_
  refine zx_c zx_915 ?_
  exact zx_n
set_option maxRecDepth 20000 in
theorem zc_w10 : ∀ w ∈ za_words RX10 za_cp10, w ∈ za_wd := by
  refine zx_c zx_148 ?_
  refine zx_c zx_141 ?_
  refine zx_c zx_142 ?_
  refine zx_c zx_178 ?_
  refine zx_c zx_179 ?_
  refine zx_c zx_181 ?_
  refine zx_c zx_186 ?_
  refine zx_c zx_203 ?_
  refine zx_c zx_207 ?_
  refine zx_c zx_211 ?_
  refine zx_c zx_218 ?_
  refine zx_c zx_221 ?_
  refine zx_c zx_224 ?_
  refine zx_c zx_149 ?_
  refine zx_c zx_151 ?_
  refine zx_c zx_0 ?_
  refine zx_c zx_153 ?_
  refine zx_c zx_155 ?_
  refine zx_c zx_1 ?_
  refine zx_c zx_175 ?_
  refine zx_c zx_161 ?_
  refine zx_c zx_162 ?_
  refine zx_c zx_164 ?_
  refine zx_c zx_165 ?_
  refine zx_c zx_183 ?_
  refine zx_c zx_188 ?_
  refine zx_c zx_192 ?_
  refine zx_c zx_196 ?_
  refine zx_c zx_200 ?_
  refine zx_c zx_214 ?_
  refine zx_c zx_167 ?_
  refine zx_c zx_170 ?_
  refine zx_c zx_157 ?_
  refine zx_c zx_173 ?_
  refine zx_c zx_159 ?_
  refine zx_c zx_691 ?_
  refine zx_c zx_676 ?_
  refine zx_c zx_677 ?_
  refine zx_c zx_1290 ?_
  refine zx_c zx_706 ?_
  refine zx_c zx_707 ?_
  refine zx_c zx_1291 ?_
  refine zx_c zx_1292 ?_
  refine zx_c zx_1294 ?_
  refine zx_c zx_714 ?_
  refine zx_c zx_715 ?_
  refine zx_c zx_1295 ?_
  refine zx_c zx_1296 ?_
  refine zx_c zx_1226 ?_
  refine zx_c zx_1228 ?_
  refine zx_c zx_47 ?_
  refine zx_c zx_1230 ?_
  refine zx_c zx_1232 ?_
  refine zx_c zx_48 ?_
  exact zx_n
set_option maxRecDepth 20000 in
theorem zc_w11 : ∀ w ∈ za_words RX11 za_cp11, w ∈ za_wd := by
  refine zx_c zx_140 ?_
  refine zx_c zx_141 ?_
  refine zx_c zx_142 ?_
  refine zx_c zx_567 ?_
  refine zx_c zx_568 ?_
  refine zx_c zx_569 ?_
  refine zx_c zx_570 ?_
  refine zx_c zx_571 ?_
  refine zx_c zx_143 ?_
  refine zx_c zx_144 ?_
  refine zx_c zx_109 ?_
  refine zx_c zx_145 ?_
  refine zx_c zx_146 ?_
  refine zx_c zx_572 ?_
  refine zx_c zx_271 ?_
  refine zx_c zx_272 ?_
  refine zx_c zx_111 ?_
  refine zx_c zx_274 ?_
  refine zx_c zx_573 ?_
  refine zx_c zx_574 ?_
  refine zx_c zx_575 ?_
  refine zx_c zx_576 ?_
  refine zx_c zx_577 ?_
  refine zx_c zx_325 ?_
  refine zx_c zx_326 ?_
  refine zx_c zx_112 ?_
  refine zx_c zx_327 ?_
  refine zx_c zx_328 ?_
  refine zx_c zx_578 ?_
  refine zx_c zx_400 ?_
  refine zx_c zx_401 ?_
  refine zx_c zx_115 ?_
  refine zx_c zx_403 ?_
  refine zx_c zx_579 ?_
  refine zx_c zx_444 ?_
  refine zx_c zx_445 ?_
  refine zx_c zx_116 ?_
  refine zx_c zx_447 ?_
  refine zx_c zx_580 ?_
  refine zx_c zx_457 ?_
  refine zx_c zx_458 ?_
  refine zx_c zx_117 ?_
  refine zx_c zx_460 ?_
  refine zx_c zx_581 ?_
  refine zx_c zx_480 ?_
  refine zx_c zx_481 ?_
  refine zx_c zx_118 ?_
  refine zx_c zx_483 ?_
  refine zx_c zx_582 ?_
  refine zx_c zx_525 ?_
  refine zx_c zx_526 ?_
  refine zx_c zx_119 ?_
  refine zx_c zx_528 ?_
  refine zx_c zx_583 ?_
  refine zx_c zx_548 ?_
  refine zx_c zx_549 ?_
  refine zx_c zx_120 ?_
  refine zx_c zx_551 ?_
  refine zx_c zx_584 ?_
  refine zx_c zx_626 ?_
  refine zx_c zx_628 ?_
  refine zx_c zx_2 ?_
  refine zx_c zx_762 ?_
  refine zx_c zx_125 ?_
  refine zx_c zx_828 ?_
  refine zx_c zx_829 ?_
  refine zx_c zx_830 ?_
  refine zx_c zx_386 ?_
  refine zx_c zx_384 ?_
  refine zx_c zx_1077 ?_
  refine zx_c zx_1079 ?_
  refine zx_c zx_43 ?_
  refine zx_c zx_1081 ?_
  refine zx_c zx_1082 ?_
  refine zx_c zx_1083 ?_
  refine zx_c zx_168 ?_
  refine zx_c zx_171 ?_
  refine zx_c zx_177 ?_
  refine zx_c zx_1093 ?_
  refine zx_c zx_947 ?_
  refine zx_c zx_1094 ?_
  refine zx_c zx_970 ?_
  refine zx_c zx_971 ?_
  refine zx_c zx_280 ?_
  refine zx_c zx_185 ?_
  refine zx_c zx_202 ?_
  refine zx_c zx_217 ?_
  refine zx_c zx_190 ?_
  refine zx_c zx_194 ?_
  refine zx_c zx_198 ?_
  refine zx_c zx_301 ?_
  refine zx_c zx_1095 ?_
  refine zx_c zx_132 ?_
  refine zx_c zx_1118 ?_
  refine zx_c zx_1119 ?_
  refine zx_c zx_1122 ?_
  refine zx_c zx_1123 ?_
  refine zx_c zx_1124 ?_
  refine zx_c zx_1127 ?_
  refine zx_c zx_684 ?_
  refine zx_c zx_685 ?_
  refine zx_c zx_180 ?_
  refine zx_c zx_1135 ?_
  refine zx_c zx_1137 ?_
  refine zx_c zx_44 ?_
  refine zx_c zx_286 ?_
  refine zx_c zx_290 ?_
  refine zx_c zx_295 ?_
  refine zx_c zx_297 ?_
  refine zx_c zx_1148 ?_
  refine zx_c zx_660 ?_
  refine zx_c zx_661 ?_
  refine zx_c zx_1149 ?_
  refine zx_c zx_664 ?_
  refine zx_c zx_665 ?_
  refine zx_c zx_1157 ?_
  refine zx_c zx_1158 ?_
  refine zx_c zx_1159 ?_
  refine zx_c zx_1161 ?_
  refine zx_c zx_994 ?_
  refine zx_c zx_995 ?_
  refine zx_c zx_1169 ?_
  refine zx_c zx_1170 ?_
  refine zx_c zx_1171 ?_
  refine zx_c zx_1174 ?_
  refine zx_c zx_1175 ?_
  refine zx_c zx_638 ?_
  refine zx_c zx_639 ?_
  refine zx_c zx_640 ?_
  refine zx_c zx_1187 ?_
  refine zx_c zx_651 ?_
  refine zx_c zx_652 ?_
  refine zx_c zx_416 ?_
  refine zx_c zx_409 ?_
  refine zx_c zx_418 ?_
  refine zx_c zx_420 ?_
  refine zx_c zx_412 ?_
  refine zx_c zx_422 ?_
  refine zx_c zx_424 ?_
  refine zx_c zx_1195 ?_
  refine zx_c zx_655 ?_
  refine zx_c zx_656 ?_
  refine zx_c zx_1196 ?_
  refine zx_c zx_668 ?_
  refine zx_c zx_669 ?_
  refine zx_c zx_1205 ?_
  refine zx_c zx_1206 ?_
  refine zx_c zx_1207 ?_
  refine zx_c zx_1247 ?_
  refine zx_c zx_1249 ?_
  refine zx_c zx_50 ?_
  refine zx_c zx_205 ?_
  refine zx_c zx_209 ?_
  refine zx_c zx_212 ?_
  refine zx_c zx_646 ?_
  refine zx_c zx_647 ?_
  refine zx_c zx_648 ?_
  refine zx_c zx_696 ?_
  refine zx_c zx_697 ?_
  refine zx_c zx_698 ?_
  refine zx_c zx_467 ?_
  refine zx_c zx_1267 ?_
  refine zx_c zx_1268 ?_
  refine zx_c zx_1269 ?_
  refine zx_c zx_1277 ?_
  refine zx_c zx_1278 ?_
  refine zx_c zx_1279 ?_
  refine zx_c zx_499 ?_
  refine zx_c zx_497 ?_
  refine zx_c zx_1333 ?_
  refine zx_c zx_1334 ?_
  refine zx_c zx_1335 ?_
  refine zx_c zx_426 ?_
  refine zx_c zx_1344 ?_
  refine zx_c zx_693 ?_
  refine zx_c zx_694 ?_
  refine zx_c zx_1345 ?_
  refine zx_c zx_174 ?_
  refine zx_c zx_1353 ?_
  refine zx_c zx_1354 ?_
  refine zx_c zx_1355 ?_
  refine zx_c zx_532 ?_
  refine zx_c zx_534 ?_
  refine zx_c zx_536 ?_
  refine zx_c zx_538 ?_
  refine zx_c zx_1374 ?_
  refine zx_c zx_1375 ?_
  refine zx_c zx_1376 ?_
  refine zx_c zx_555 ?_
  refine zx_c zx_557 ?_
  refine zx_c zx_559 ?_
  refine zx_c zx_743 ?_
  refine zx_c zx_744 ?_
  refine zx_c zx_745 ?_
  exact zx_n
set_option maxRecDepth 20000 in
theorem zc_w12 : ∀ w ∈ za_words RX12 za_cp12, w ∈ za_wd := by
  refine zx_c zx_1389 ?_
  refine zx_c zx_141 ?_
  refine zx_c zx_142 ?_
  refine zx_c zx_1391 ?_
  refine zx_c zx_1392 ?_
  refine zx_c zx_1400 ?_
  refine zx_c zx_1401 ?_
  refine zx_c zx_1403 ?_
  refine zx_c zx_1404 ?_
  refine zx_c zx_1405 ?_
  refine zx_c zx_1406 ?_
  refine zx_c zx_1407 ?_
  refine zx_c zx_1408 ?_
  refine zx_c zx_1409 ?_
  refine zx_c zx_1410 ?_
  refine zx_c zx_1411 ?_
  refine zx_c zx_1414 ?_
  refine zx_c zx_1415 ?_
  refine zx_c zx_1442 ?_
  refine zx_c zx_1443 ?_
  refine zx_c zx_1444 ?_
  refine zx_c zx_1445 ?_
  refine zx_c zx_1446 ?_
  refine zx_c zx_1447 ?_
  refine zx_c zx_1448 ?_
  refine zx_c zx_1449 ?_
  refine zx_c zx_1450 ?_
  refine zx_c zx_1451 ?_
  refine zx_c zx_1453 ?_
  refine zx_c zx_1462 ?_
  refine zx_c zx_1463 ?_
  refine zx_c zx_1464 ?_
  refine zx_c zx_1465 ?_
  refine zx_c zx_1466 ?_
  refine zx_c zx_1467 ?_
  refine zx_c zx_1468 ?_
  refine zx_c zx_1469 ?_
  refine zx_c zx_1472 ?_
  refine zx_c zx_1473 ?_
  refine zx_c zx_1474 ?_
  refine zx_c zx_1390 ?_
  refine zx_c zx_1412 ?_
  refine zx_c zx_1655 ?_
  refine zx_c zx_1657 ?_
  refine zx_c zx_57 ?_
  refine zx_c zx_1416 ?_
  refine zx_c zx_1417 ?_
  refine zx_c zx_1671 ?_
  refine zx_c zx_1673 ?_
  refine zx_c zx_60 ?_
  refine zx_c zx_1419 ?_
  refine zx_c zx_1423 ?_
  refine zx_c zx_1421 ?_
  refine zx_c zx_1422 ?_
  refine zx_c zx_1418 ?_
  refine zx_c zx_1675 ?_
  refine zx_c zx_1676 ?_
  refine zx_c zx_1678 ?_
  refine zx_c zx_1679 ?_
  refine zx_c zx_1420 ?_
  refine zx_c zx_1699 ?_
  refine zx_c zx_1696 ?_
  refine zx_c zx_1697 ?_
  refine zx_c zx_1693 ?_
  refine zx_c zx_1694 ?_
  refine zx_c zx_1413 ?_
  refine zx_c zx_1681 ?_
  refine zx_c zx_1683 ?_
  refine zx_c zx_61 ?_
  refine zx_c zx_1667 ?_
  refine zx_c zx_1669 ?_
  refine zx_c zx_59 ?_
  refine zx_c zx_1700 ?_
  refine zx_c zx_1702 ?_
  refine zx_c zx_64 ?_
  refine zx_c zx_1708 ?_
  refine zx_c zx_1710 ?_
  refine zx_c zx_66 ?_
  refine zx_c zx_1689 ?_
  refine zx_c zx_1691 ?_
  refine zx_c zx_63 ?_
  refine zx_c zx_1720 ?_
  refine zx_c zx_1721 ?_
  refine zx_c zx_1723 ?_
  refine zx_c zx_1725 ?_
  refine zx_c zx_69 ?_
  refine zx_c zx_1435 ?_
  refine zx_c zx_1436 ?_
  refine zx_c zx_1779 ?_
  refine zx_c zx_1780 ?_
  refine zx_c zx_1782 ?_
  refine zx_c zx_1783 ?_
  refine zx_c zx_1771 ?_
  refine zx_c zx_1773 ?_
  refine zx_c zx_81 ?_
  refine zx_c zx_1437 ?_
  refine zx_c zx_1755 ?_
  refine zx_c zx_1757 ?_
  refine zx_c zx_77 ?_
  refine zx_c zx_1763 ?_
  refine zx_c zx_1765 ?_
  refine zx_c zx_79 ?_
  refine zx_c zx_1751 ?_
  refine zx_c zx_1753 ?_
  refine zx_c zx_76 ?_
  refine zx_c zx_1767 ?_
  refine zx_c zx_1769 ?_
  refine zx_c zx_80 ?_
  refine zx_c zx_1775 ?_
  refine zx_c zx_1777 ?_
  refine zx_c zx_82 ?_
  refine zx_c zx_1759 ?_
  refine zx_c zx_1761 ?_
  refine zx_c zx_78 ?_
  refine zx_c zx_1785 ?_
  refine zx_c zx_1787 ?_
  refine zx_c zx_83 ?_
  refine zx_c zx_1789 ?_
  refine zx_c zx_1791 ?_
  refine zx_c zx_84 ?_
  refine zx_c zx_1424 ?_
  refine zx_c zx_1704 ?_
  refine zx_c zx_1706 ?_
  refine zx_c zx_65 ?_
  refine zx_c zx_1425 ?_
  refine zx_c zx_1712 ?_
  refine zx_c zx_1714 ?_
  refine zx_c zx_67 ?_
  refine zx_c zx_1428 ?_
  refine zx_c zx_1731 ?_
  refine zx_c zx_1733 ?_
  refine zx_c zx_71 ?_
  refine zx_c zx_1735 ?_
  refine zx_c zx_1737 ?_
  refine zx_c zx_72 ?_
  refine zx_c zx_1716 ?_
  refine zx_c zx_1718 ?_
  refine zx_c zx_68 ?_
  refine zx_c zx_1429 ?_
  refine zx_c zx_1430 ?_
  refine zx_c zx_1440 ?_
  refine zx_c zx_1426 ?_
  refine zx_c zx_1441 ?_
  refine zx_c zx_1427 ?_
  refine zx_c zx_1727 ?_
  refine zx_c zx_1729 ?_
  refine zx_c zx_70 ?_
  refine zx_c zx_1739 ?_
  refine zx_c zx_1741 ?_
  refine zx_c zx_73 ?_
  refine zx_c zx_1438 ?_
  refine zx_c zx_1432 ?_
  refine zx_c zx_1433 ?_
  refine zx_c zx_1439 ?_
  refine zx_c zx_1434 ?_
  refine zx_c zx_1743 ?_
  refine zx_c zx_1745 ?_
  refine zx_c zx_74 ?_
  refine zx_c zx_1431 ?_
  refine zx_c zx_1747 ?_
  refine zx_c zx_1749 ?_
  refine zx_c zx_75 ?_
  refine zx_c zx_1663 ?_
  refine zx_c zx_1665 ?_
  refine zx_c zx_58 ?_
  refine zx_c zx_1685 ?_
  refine zx_c zx_1687 ?_
  refine zx_c zx_62 ?_
  refine zx_c zx_1393 ?_
  refine zx_c zx_1394 ?_
  refine zx_c zx_1395 ?_
  refine zx_c zx_1396 ?_
  refine zx_c zx_1397 ?_
  refine zx_c zx_1398 ?_
  refine zx_c zx_1399 ?_
  refine zx_c zx_1402 ?_
  refine zx_c zx_1793 ?_
  refine zx_c zx_1795 ?_
  refine zx_c zx_85 ?_
  refine zx_c zx_1452 ?_
  refine zx_c zx_1470 ?_
  refine zx_c zx_1809 ?_
  refine zx_c zx_1811 ?_
  refine zx_c zx_86 ?_
  refine zx_c zx_1817 ?_
  refine zx_c zx_1819 ?_
  refine zx_c zx_87 ?_
  refine zx_c zx_1825 ?_
  refine zx_c zx_1827 ?_
  refine zx_c zx_88 ?_
  refine zx_c zx_1833 ?_
  refine zx_c zx_1835 ?_
  refine zx_c zx_89 ?_
  refine zx_c zx_1837 ?_
  refine zx_c zx_1839 ?_
  refine zx_c zx_90 ?_
  refine zx_c zx_1845 ?_
  refine zx_c zx_1846 ?_
  refine zx_c zx_1847 ?_
  refine zx_c zx_1454 ?_
  refine zx_c zx_1865 ?_
  refine zx_c zx_1867 ?_
  refine zx_c zx_93 ?_
  refine zx_c zx_1869 ?_
  refine zx_c zx_1871 ?_
  refine zx_c zx_94 ?_
  refine zx_c zx_1455 ?_
  refine zx_c zx_1459 ?_
  refine zx_c zx_1456 ?_
  refine zx_c zx_1457 ?_
  refine zx_c zx_1460 ?_
  refine zx_c zx_1461 ?_
  refine zx_c zx_1458 ?_
  refine zx_c zx_1861 ?_
  refine zx_c zx_1863 ?_
  refine zx_c zx_92 ?_
  refine zx_c zx_1857 ?_
  refine zx_c zx_1859 ?_
  refine zx_c zx_91 ?_
  refine zx_c zx_1881 ?_
  refine zx_c zx_1883 ?_
  refine zx_c zx_95 ?_
  refine zx_c zx_1889 ?_
  refine zx_c zx_1891 ?_
  refine zx_c zx_96 ?_
  refine zx_c zx_1913 ?_
  refine zx_c zx_1915 ?_
  refine zx_c zx_101 ?_
  refine zx_c zx_1917 ?_
  refine zx_c zx_1918 ?_
  refine zx_c zx_1909 ?_
  refine zx_c zx_1911 ?_
  refine zx_c zx_100 ?_
  refine zx_c zx_1901 ?_
  refine zx_c zx_1903 ?_
  refine zx_c zx_98 ?_
  refine zx_c zx_1905 ?_
  refine zx_c zx_1907 ?_
  refine zx_c zx_99 ?_
  refine zx_c zx_1897 ?_
  refine zx_c zx_1899 ?_
  refine zx_c zx_97 ?_
  refine zx_c zx_1940 ?_
  refine zx_c zx_1941 ?_
  refine zx_c zx_1936 ?_
  refine zx_c zx_1938 ?_
  refine zx_c zx_104 ?_
  refine zx_c zx_1932 ?_
  refine zx_c zx_1934 ?_
  refine zx_c zx_103 ?_
  refine zx_c zx_1928 ?_
  refine zx_c zx_1930 ?_
  refine zx_c zx_102 ?_
  refine zx_c zx_1959 ?_
  refine zx_c zx_1961 ?_
  refine zx_c zx_105 ?_
  refine zx_c zx_1967 ?_
  refine zx_c zx_1969 ?_
  refine zx_c zx_106 ?_
  refine zx_c zx_1471 ?_
  exact zx_n
set_option maxRecDepth 20000 in
theorem zc_w13 : ∀ w ∈ za_words RL za_cp13, w ∈ za_wd := by
  refine zx_c zx_758 ?_
  refine zx_c zx_759 ?_
  refine zx_c zx_760 ?_
  refine zx_c zx_135 ?_
  refine zx_c zx_136 ?_
  refine zx_c zx_108 ?_
  refine zx_c zx_757 ?_
  refine zx_c zx_125 ?_
  refine zx_c zx_1089 ?_
  refine zx_c zx_1090 ?_
  refine zx_c zx_1091 ?_
  refine zx_c zx_1088 ?_
  refine zx_c zx_132 ?_
  refine zx_c zx_1114 ?_
  refine zx_c zx_1115 ?_
  refine zx_c zx_1116 ?_
  refine zx_c zx_1131 ?_
  refine zx_c zx_1132 ?_
  refine zx_c zx_1133 ?_
  refine zx_c zx_1143 ?_
  refine zx_c zx_1144 ?_
  refine zx_c zx_1145 ?_
  refine zx_c zx_1153 ?_
  refine zx_c zx_1154 ?_
  refine zx_c zx_1155 ?_
  refine zx_c zx_1165 ?_
  refine zx_c zx_1166 ?_
  refine zx_c zx_1167 ?_
  refine zx_c zx_1183 ?_
  refine zx_c zx_1184 ?_
  refine zx_c zx_1185 ?_
  refine zx_c zx_1191 ?_
  refine zx_c zx_1192 ?_
  refine zx_c zx_1193 ?_
  refine zx_c zx_1200 ?_
  refine zx_c zx_1201 ?_
  refine zx_c zx_1202 ?_
  refine zx_c zx_1243 ?_
  refine zx_c zx_1244 ?_
  refine zx_c zx_1245 ?_
  refine zx_c zx_1255 ?_
  refine zx_c zx_1256 ?_
  refine zx_c zx_1257 ?_
  refine zx_c zx_1263 ?_
  refine zx_c zx_1264 ?_
  refine zx_c zx_1265 ?_
  refine zx_c zx_1320 ?_
  refine zx_c zx_1321 ?_
  refine zx_c zx_1322 ?_
  refine zx_c zx_1328 ?_
  refine zx_c zx_1329 ?_
  refine zx_c zx_1330 ?_
  refine zx_c zx_1340 ?_
  refine zx_c zx_1341 ?_
  refine zx_c zx_1342 ?_
  refine zx_c zx_1349 ?_
  refine zx_c zx_1350 ?_
  refine zx_c zx_1351 ?_
  refine zx_c zx_1369 ?_
  refine zx_c zx_1370 ?_
  refine zx_c zx_1371 ?_
  refine zx_c zx_137 ?_
  refine zx_c zx_138 ?_
  refine zx_c zx_1384 ?_
  refine zx_c zx_1385 ?_
  refine zx_c zx_121 ?_
  refine zx_c zx_1386 ?_
  refine zx_c zx_1387 ?_
  refine zx_c zx_622 ?_
  refine zx_c zx_623 ?_
  refine zx_c zx_624 ?_
  refine zx_c zx_1651 ?_
  refine zx_c zx_1652 ?_
  refine zx_c zx_1653 ?_
  refine zx_c zx_754 ?_
  refine zx_c zx_755 ?_
  refine zx_c zx_1659 ?_
  refine zx_c zx_1660 ?_
  refine zx_c zx_1661 ?_
  refine zx_c zx_630 ?_
  refine zx_c zx_631 ?_
  refine zx_c zx_632 ?_
  refine zx_c zx_1797 ?_
  refine zx_c zx_1798 ?_
  refine zx_c zx_1799 ?_
  refine zx_c zx_1085 ?_
  refine zx_c zx_1086 ?_
  refine zx_c zx_1801 ?_
  refine zx_c zx_1802 ?_
  refine zx_c zx_1803 ?_
  refine zx_c zx_1111 ?_
  refine zx_c zx_1112 ?_
  refine zx_c zx_1805 ?_
  refine zx_c zx_1806 ?_
  refine zx_c zx_1807 ?_
  refine zx_c zx_1128 ?_
  refine zx_c zx_1129 ?_
  refine zx_c zx_1813 ?_
  refine zx_c zx_1814 ?_
  refine zx_c zx_1815 ?_
  refine zx_c zx_1140 ?_
  refine zx_c zx_1141 ?_
  refine zx_c zx_1821 ?_
  refine zx_c zx_1822 ?_
  refine zx_c zx_1823 ?_
  refine zx_c zx_1150 ?_
  refine zx_c zx_1151 ?_
  refine zx_c zx_1829 ?_
  refine zx_c zx_1830 ?_
  refine zx_c zx_1831 ?_
  refine zx_c zx_1162 ?_
  refine zx_c zx_1163 ?_
  refine zx_c zx_1841 ?_
  refine zx_c zx_1842 ?_
  refine zx_c zx_1843 ?_
  refine zx_c zx_634 ?_
  refine zx_c zx_635 ?_
  refine zx_c zx_636 ?_
  refine zx_c zx_1849 ?_
  refine zx_c zx_1850 ?_
  refine zx_c zx_1851 ?_
  refine zx_c zx_1180 ?_
  refine zx_c zx_1181 ?_
  refine zx_c zx_1853 ?_
  refine zx_c zx_1854 ?_
  refine zx_c zx_1855 ?_
  refine zx_c zx_1188 ?_
  refine zx_c zx_1189 ?_
  refine zx_c zx_1873 ?_
  refine zx_c zx_1874 ?_
  refine zx_c zx_1875 ?_
  refine zx_c zx_1197 ?_
  refine zx_c zx_1198 ?_
  refine zx_c zx_1877 ?_
  refine zx_c zx_1878 ?_
  refine zx_c zx_1879 ?_
  refine zx_c zx_1240 ?_
  refine zx_c zx_1241 ?_
  refine zx_c zx_1885 ?_
  refine zx_c zx_1886 ?_
  refine zx_c zx_1887 ?_
  refine zx_c zx_1252 ?_
  refine zx_c zx_1253 ?_
  refine zx_c zx_1893 ?_
  refine zx_c zx_1894 ?_
  refine zx_c zx_1895 ?_
  refine zx_c zx_642 ?_
  refine zx_c zx_643 ?_
  refine zx_c zx_644 ?_
  refine zx_c zx_1920 ?_
  refine zx_c zx_1921 ?_
  refine zx_c zx_1922 ?_
  refine zx_c zx_1260 ?_
  refine zx_c zx_1261 ?_
  refine zx_c zx_1924 ?_
  refine zx_c zx_1925 ?_
  refine zx_c zx_1926 ?_
  refine zx_c zx_1317 ?_
  refine zx_c zx_1318 ?_
  refine zx_c zx_1943 ?_
  refine zx_c zx_1944 ?_
  refine zx_c zx_1945 ?_
  refine zx_c zx_1325 ?_
  refine zx_c zx_1326 ?_
  refine zx_c zx_1947 ?_
  refine zx_c zx_1948 ?_
  refine zx_c zx_1949 ?_
  refine zx_c zx_1647 ?_
  refine zx_c zx_1648 ?_
  refine zx_c zx_1649 ?_
  refine zx_c zx_1337 ?_
  refine zx_c zx_1338 ?_
  refine zx_c zx_1951 ?_
  refine zx_c zx_1952 ?_
  refine zx_c zx_1953 ?_
  refine zx_c zx_1346 ?_
  refine zx_c zx_1347 ?_
  refine zx_c zx_1955 ?_
  refine zx_c zx_1956 ?_
  refine zx_c zx_1957 ?_
  refine zx_c zx_1366 ?_
  refine zx_c zx_1367 ?_
  refine zx_c zx_1963 ?_
  refine zx_c zx_1964 ?_
  refine zx_c zx_1965 ?_
  refine zx_c zx_739 ?_
  refine zx_c zx_740 ?_
  refine zx_c zx_741 ?_
  refine zx_c zx_1971 ?_
  refine zx_c zx_1972 ?_
  refine zx_c zx_1973 ?_
  refine zx_c zx_750 ?_
  refine zx_c zx_751 ?_
  refine zx_c zx_752 ?_
  refine zx_c zx_1975 ?_
  refine zx_c zx_1976 ?_
  refine zx_c zx_1977 ?_
  exact zx_n
set_option maxRecDepth 20000 in
theorem zc_w14 : ∀ w ∈ za_words RJ6 za_cp14, w ∈ za_wd := by
  refine zx_c zx_1306 ?_
  refine zx_c zx_1177 ?_
  refine zx_c zx_1178 ?_
  refine zx_c zx_1179 ?_
  exact zx_n
set_option maxRecDepth 20000 in
theorem zc_w15 : ∀ w ∈ za_words RJ13 za_cp15, w ∈ za_wd := by
  refine zx_c zx_949 ?_
  refine zx_c zx_950 ?_
  refine zx_c zx_951 ?_
  exact zx_n
set_option maxRecDepth 20000 in
theorem zc_w16 : ∀ w ∈ za_words RJ9 za_cp16, w ∈ za_wd := by
  exact zx_n
set_option maxRecDepth 20000 in
theorem zc_w17 : ∀ w ∈ za_words RJ7 za_cp17, w ∈ za_wd := by
  exact zx_n
theorem za_lk_mem : ∀ {l : List (Nat × za_row)} {k : Nat} {r : za_row}, za_lk l k = some r → (k, r) ∈ l
  | [], _, _, h => by cases h
  | q :: l, k, r, h => by
    unfold za_lk at h
    cases hb : Nat.beq q.1 k with
    | true =>
      have e := Nat.eq_of_beq_eq_true hb
      simp only [hb, cond_true, Option.some.injEq] at h
      obtain ⟨q1, q2⟩ := q
      dsimp only at h e
      rw [← e, ← h]
      exact List.mem_cons_self
    | false =>
      simp only [hb, cond_false] at h
      exact List.mem_cons_of_mem _ (za_lk_mem h)
theorem zc_w : ∀ (c : Nat), ∀ w ∈ za_words (za_ow c) (za_cpl c), w ∈ za_wd := by
  intro c
  match c with
  | 0 => exact zc_w0
  | 1 => exact zc_w1
  | 2 => exact zc_w2
  | 3 => exact zc_w3
  | 4 => exact zc_w4
  | 5 => exact zc_w5
  | 6 => exact zc_w6
  | 7 => exact zc_w7
  | 8 => exact zc_w8
  | 9 => exact zc_w9
  | 10 => exact zc_w10
  | 11 => exact zc_w11
  | 12 => exact zc_w12
  | 13 => exact zc_w13
  | 14 => exact zc_w14
  | 15 => exact zc_w15
  | 16 => exact zc_w16
  | 17 => exact zc_w17
  | _ + 18 => intro w hw; simp [za_cpl, za_words] at hw
theorem zc_s : ∀ (c : Nat), (za_cpl c).all (fun q => za_side q.2) = true := by
  intro c
  match c with
  | 0 => exact zc_s0
  | 1 => exact zc_s1
  | 2 => exact zc_s2
  | 3 => exact zc_s3
  | 4 => exact zc_s4
  | 5 => exact zc_s5
  | 6 => exact zc_s6
  | 7 => exact zc_s7
  | 8 => exact zc_s8
  | 9 => exact zc_s9
  | 10 => exact zc_s10
  | 11 => exact zc_s11
  | 12 => exact zc_s12
  | 13 => exact zc_s13
  | 14 => exact zc_s14
  | 15 => exact zc_s15
  | 16 => exact zc_s16
  | 17 => exact zc_s17
  | _ + 18 => rfl
/-- an entry that is found: its words hold, and what is asked beside them -/
theorem zc_row {c k : Nat} {r : za_row} (h : za_CP c k = some r) : (∀ w ∈ za_need (za_ow c) k r, w ∈ za_wd) ∧ za_side r = true := by
  have hm := za_lk_mem h
  exact ⟨fun w hw => zc_w c w (List.mem_flatMap.mpr ⟨_, hm, hw⟩), List.all_eq_true.mp (zc_s c) _ hm⟩
theorem zc_cls {ci : Nat} {q : vw_C} (h : vwCl[ci]? = some q) : (∀ w ∈ u_ws q.1 q.2.1 q.2.2, w ∈ za_wd) ∧ (∀ k, k < q.2.2 → parseFieldDescriptor (q.2.1 k).2.2.1 = some (za_tyX ci k)) ∧ (∀ a, a < q.2.2 → ∀ b, b < q.2.2 → a ≠ b → (q.2.1 a).2.1 ≠ (q.2.1 b).2.1) ∧ q.2.2 = za_nX ci ∧ q.1 = za_ow ci := by
  match ci, h with
  | 0, h => cases h; exact ⟨zc_f0, tyX0_ok, nmX0, rfl, rfl⟩
  | 1, h => cases h; exact ⟨zc_f1, tyX1_ok, nmX1, rfl, rfl⟩
  | 2, h => cases h; exact ⟨zc_f2, tyX2_ok, nmX2, rfl, rfl⟩
  | 3, h => cases h; exact ⟨zc_f3, tyX3_ok, nmX3, rfl, rfl⟩
  | 4, h => cases h; exact ⟨zc_f4, tyX4_ok, nmX4, rfl, rfl⟩
  | 5, h => cases h; exact ⟨zc_f5, tyX5_ok, nmX5, rfl, rfl⟩
  | 6, h => cases h; exact ⟨zc_f6, tyX6_ok, nmX6, rfl, rfl⟩
  | 7, h => cases h; exact ⟨zc_f7, tyX7_ok, nmX7, rfl, rfl⟩
  | 8, h => cases h; exact ⟨zc_f8, tyX8_ok, nmX8, rfl, rfl⟩
  | 9, h => cases h; exact ⟨zc_f9, tyX9_ok, nmX9, rfl, rfl⟩
  | 10, h => cases h; exact ⟨zc_f10, tyX10_ok, nmX10, rfl, rfl⟩
  | 11, h => cases h; exact ⟨zc_f11, tyX11_ok, nmX11, rfl, rfl⟩
  | 12, h => cases h; exact ⟨zc_f12, tyX12_ok, nmX12, rfl, rfl⟩
  | _ + 13, h => simp [vwCl] at h
