/-! WHAT HOLDS WHILE A METHOD RUNS -/
abbrev rx_MT : Type := MethodName × ByteArray × Nat × Option FieldType × String × rx_Tab × Nat × Nat × Nat
def rx_RO (U : State) (A : Nat → Prop) (sa : List Nat) (ro : List (List rx_V)) : Prop := (∀ (j : Nat) (l : List rx_V), ro[j]? = some l → ∃ (a : Nat) (xs : Nat → Int32), sa[j]? = some a ∧ va_T .int a l.length (fun j => .int (xs j)) A U U.heap ∧ ∀ (t : Nat) (v : rx_V), l[t]? = some v → rx_G [] [] v (.int (xs t))) ∧ (∀ (j : Nat) (nm : String), rx_sn[j]? = some nm → ∃ a, sa[j]? = some a ∧ va_Z "ShipPower" nm "[I" (.ref a) A U U.heap)
def rx_NW (U : State) : Prop := (∀ q ∈ rx_nm, va_Nw (.methodLinkNest q.1 q.2.1 q.2.2 "ShipPower") U) ∧ (∀ q ∈ rx_nf, va_Nw (.fieldLinkNest q.1 q.2.1 "ShipPower" q.2.2 "[I" "ShipPower") U) ∧ ∀ C ∈ rx_ao, va_AO C U
def rx_ws (mt : rx_MT) : List Jvm.Cond := .code mt.1 mt.2.1 mt.2.2.1 mt.2.2.2.1 :: rx_bw
def rx_xn : List String := ["java/lang/IllegalArgumentException", "java/lang/IllegalStateException", "java/lang/IndexOutOfBoundsException"]
def rx_sup : List String := ["java/lang/RuntimeException", "java/lang/Exception"]
/-- words of the tables that don't ride along by themselves -/
def rx_tw : List Jvm.Cond := [.declares (Bundle.initS Bundle.tN), .declares (Bundle.initS "java/lang/RuntimeException"), .declares (Bundle.initS "java/lang/Exception"),
  .castable "java/lang/IllegalArgumentException" "java/lang/IllegalArgumentException", .castable "java/lang/IllegalStateException" "java/lang/IllegalStateException", .castable "java/lang/IndexOutOfBoundsException" "java/lang/IndexOutOfBoundsException"]
def rx_st : List (String × Nat × String) := [("ShipPower", 91, "no such bus or class"), ("ShipPower", 96, "kilowatts or factor out of range"), ("ShipPower", 103, "no room for a consumer"), ("ShipPower", 112, "no such consumer"), ("ShipPower", 134, "not 1 to 1000 ticks"), ("ShipPower", 187, "no such bus or what"), ("ShipPower", 208, "no such set or what"), ("ShipPower", 213, "no such consumer or what"), ("ShipPower", 224, "no such event or what")]
/-- a static of a reference type, as the tables lay it, in a cell that nobody here writes -/
def rx_LS (C n d : String) (A : Nat → Prop) (U : State) : Prop := ∃ (c : ClassId) (k : Class) (i : Nat) (f : Field) (a : Nat) (cell : Cell) (v : Value), U.vm.findClass C = some c ∧ U.fieldFound? C n d = some (c, k, i, f) ∧ f.isStatic = true ∧ k.statics = some a ∧ U.heap[a]? = some cell ∧ cell.vm.isStatics = true ∧ cell.cls = c ∧ f.slot < cell.slots.size ∧ k.staticTypes[f.slot]? = some f.type ∧ (v = .null ∨ ∃ t, v = .ref t) ∧ cell.slots[f.slot]? = some v ∧ ¬ A a
theorem rx_LS_lays {C n d : String} {A : Nat → Prop} {U : State} {args : Array Value} (h : rx_LS C n d A U) : (Cond.laysStatic C n d).before args U = true := by
  obtain ⟨c, k, i, f, a, cell, v, h1, h2, h3, h4, h5, h6, h7, h8, h9, -⟩ := h
  exact Cond.laysStatic_of h1 h2 h3 h4 h5 h6 h7 h8 h9
theorem rx_LS_ref {C n d : String} {A : Nat → Prop} {U : State} {args : Array Value} (h : rx_LS C n d A U) : (Cond.isRef (.static C n d)).before args U = true := by
  obtain ⟨c, k, i, f, a, cell, v, h1, h2, h3, h4, h5, h6, h7, h8, h9, hv, h10, -⟩ := h
  have e := Term.static_eval (args := args) (first := U) (o := none) (idx := []) h2 h3 h4 h5 h6 h10
  rcases hv with rfl | ⟨t, rfl⟩ <;> simp [Cond.before, Cond.holds, Cond.value, e]
theorem rx_LS_go {C n d : String} {A B : Nat → Prop} {u U : State} (hvm : u.vm.Alike U.vm) (hh : ∀ a : Nat, a < u.heap.size → ¬ A a → U.heap[a]? = u.heap[a]?) (hAB : ∀ q, B q → A q) (h : rx_LS C n d A u) : rx_LS C n d B U := by
  obtain ⟨c, k, i, f, a, cell, v, h1, h2, h3, h4, h5, h6, h7, h8, h9, hv, h10, h11⟩ := h
  obtain ⟨k', h2', he⟩ := State.fieldFound?_setVm hvm h2
  exact ⟨c, k', i, f, a, cell, v, by rw [hvm.findClass]; exact h1, h2', h3, by rw [he]; exact h4, by rw [hh a (Array.getElem?_eq_some_iff.mp h5).1 h11]; exact h5, h6, h7, h8, by rw [he]; exact h9, hv, h10, fun z => h11 (hAB a z)⟩
/-- an IllegalStateException is no IllegalArgumentException -/
def rx_NC (U : State) : Prop := ∃ (a b : ClassId), U.vm.findClass "java/lang/IllegalStateException" = some a ∧ U.vm.findClass "java/lang/IllegalArgumentException" = some b ∧ U.vm.assignable a b = false
def rx_TW (A : Nat → Prop) (U : State) : Prop := (∀ w ∈ rx_tw, va_Nw w U) ∧ (rx_LS Bundle.tN "UNASSIGNED_STACK" Bundle.steD A U ∧ rx_LS Bundle.tN "SUPPRESSED_SENTINEL" Bundle.listD A U) ∧ (∀ q ∈ rx_st, ∃ a, vk_R q.1 q.2.1 q.2.2 a U) ∧ rx_NC U
theorem rx_TW_go {A B : Nat → Prop} {u U : State} (hW : u.WarmedH U.vm) (hh : ∀ a : Nat, a < u.heap.size → ¬ A a → U.heap[a]? = u.heap[a]?) (hAB : ∀ q, B q → A q) (h : rx_TW A u) : rx_TW B U := by
  refine ⟨fun w hw => ?_, ⟨rx_LS_go hW.alike hh hAB h.2.1.1, rx_LS_go hW.alike hh hAB h.2.1.2⟩, fun q hq => ?_, ?_⟩
  · have h1 := h.1 w hw
    simp only [rx_tw, List.mem_cons, List.not_mem_nil, or_false] at hw
    rcases hw with rfl | rfl | rfl | rfl | rfl | rfl
    · exact va_Nw.warmD hW h1
    · exact va_Nw.warmD hW h1
    · exact va_Nw.warmD hW h1
    · exact va_Nw.warmC hW h1
    · exact va_Nw.warmC hW h1
    · exact va_Nw.warmC hW h1
  · obtain ⟨a, ha⟩ := h.2.2.1 q hq
    exact ⟨a, ha.warm hW⟩
  · obtain ⟨a, b, h1, h2, h3⟩ := h.2.2.2
    exact ⟨a, b, by rw [hW.alike.findClass]; exact h1, by rw [hW.alike.findClass]; exact h2, by rw [hW.alike.assignable]; exact h3⟩
def rx_Cx (p : Program) (s : State) (m : MethodId) (args : Array Value) (meth : Method) (c : Code) (D : va_G) (A B : Nat → Prop) (wr : Bool) (sa : List Nat) (ro : List (List rx_V)) (mt : rx_MT) : Prop :=
  p.tables.exec = Jvm.exec ∧ c.code = mt.2.1 ∧ c.maxLocals = mt.2.2.1 ∧ s.vm.findClass mt.2.2.2.2.1 = some m.cls ∧ (∀ w ∈ rx_bw, w.before args s = true) ∧ meth.sig.returnType = mt.2.2.2.1 ∧ meth.locks = false ∧ meth.name = mt.1.name ∧ va_K D rx_cl [] s ∧ (∀ q, s.heap.size ≤ q → A q) ∧ rx_RO s A sa ro ∧ rx_NW s ∧ (wr = true → B = A) ∧ rx_TW A s
def rx_Go (p : Program) (l : Launch) (e : Env) (R : Room) (s : State) (m : MethodId) (args : Array Value) (below : List Frame) (meth : Method) (c : Code) (Q : State → Prop) (D : va_G) (A B : Nat → Prop) (sa ad0 : List Nat) (mt : rx_MT) (pc : Nat) (h : rx_H) (L : rx_F) (st : List rx_V) (cells slots : Nat) : Prop :=
  ∀ (ad : List Nat) (ws : va_W) (H : Heap) (locs : List Loc) (ls : Array Slot) (vs : List Value), ad0 <+: ad → rx_W s ad sa h ws → va_P D rx_cl ws H → va_D B ws → va_S A s.heap H locs → rx_L ad sa mt.2.2.1 L ls → rx_S ad sa st vs → W p l e R s m args below meth c H locs cells slots Q (F0 m pc ls vs)
/-- lengths of instructions -/
def rx_ln (i : Instr) : Nat := match i with
  | .bipush _ => 2
  | .sipush _ => 3
  | .ldc _ => 2
  | .ldc_w _ => 3
  | .ldc2_w _ => 3
  | .iload _ => 2
  | .lload _ => 2
  | .aload _ => 2
  | .istore _ => 2
  | .lstore _ => 2
  | .astore _ => 2
  | .iinc _ _ => 3
  | .goto _ => 3
  | .ifCond _ _ => 3
  | .if_icmp _ _ => 3
  | .ifnull _ => 3
  | .ifnonnull _ => 3
  | .getfield _ => 3
  | .putfield _ => 3
  | .getstatic _ => 3
  | .new _ => 3
  | .newarray _ => 2
  | .anewarray _ => 3
  | .invokevirtual _ => 3
  | .invokestatic _ => 3
  | .invokespecial _ => 3
  | .tableswitch _ _ _ _ => 0
  | _ => 1
def rx_off (i : Instr) : Option Int := match i with
  | .goto o => some o
  | .ifCond _ o => some o
  | .if_icmp _ o => some o
  | .ifnull o => some o
  | .ifnonnull o => some o
  | _ => none
/-- what a call's row must say of the callee -/
def rx_Ca (mt mj : rx_MT) (np : Nat) : Prop := mj.2.2.2.2.2.2.1 + 1 ≤ mt.2.2.2.2.2.2.1 ∧ 8 + (mj.2.2.1 + 11) + mj.2.2.2.2.2.2.2.1 ≤ mt.2.2.2.2.2.2.2.1 ∧ Jvm.Cond.code mj.1 mj.2.1 mj.2.2.1 mj.2.2.2.1 ∈ rx_bw ∧ Jvm.Cond.initialized mj.1.cls ∈ rx_bw ∧ mj.1.cls ≠ "java/lang/invoke/MethodHandle" ∧ mj.1.cls ≠ "java/lang/invoke/VarHandle" ∧ (parseMethodDescriptor mj.1.desc).map (fun d => d.parameters.length) = some np
def rx_Fl (mt : rx_MT) (i a b : Nat) (q : vw_C) : Prop := rx_cl[a]? = some q ∧ b < q.2.2 ∧ Jvm.Cond.fieldLink mt.2.2.2.2.1 i (q.2.1 b).1 (q.2.1 b).2.1 (q.2.1 b).2.2.1 ∈ rx_bw
/-- the law's own helpers, which catch -/
def rx_hy : List MethodName := [⟨"ShipPowerLaw", "consumer", "(LShipPower;IIII[J)I"⟩, ⟨"ShipPowerLaw", "ask", "(LShipPower;IZ[J)I"⟩, ⟨"ShipPowerLaw", "ticks", "(LShipPower;I[J)I"⟩, ⟨"ShipPowerLaw", "bus", "(LShipPower;II[J)I"⟩, ⟨"ShipPowerLaw", "set", "(LShipPower;II[J)I"⟩, ⟨"ShipPowerLaw", "look", "(LShipPower;II[J)I"⟩, ⟨"ShipPowerLaw", "event", "(LShipPower;II[J)I"⟩]
/-- Math's methods, by the library's rows -/
def rx_Ma (own : String) (i t : Nat) : Prop := Jvm.Cond.initialized "java/lang/Math" ∈ rx_bw ∧ (match t with
  | 20 => Jvm.Cond.methodLink own i Lib.Math.max.name ∈ rx_bw ∧ Jvm.Cond.static Lib.Math.max.name ∈ rx_bw ∧ Jvm.Cond.code Lib.Math.max.name Lib.Math.max.code 2 (some .int) ∈ rx_bw
  | 21 => Jvm.Cond.methodLink own i Lib.Math.min.name ∈ rx_bw ∧ Jvm.Cond.static Lib.Math.min.name ∈ rx_bw ∧ Jvm.Cond.code Lib.Math.min.name Lib.Math.min.code 2 (some .int) ∈ rx_bw
  | 22 => Jvm.Cond.methodLink own i Lib.Math.abs.name ∈ rx_bw ∧ Jvm.Cond.static Lib.Math.abs.name ∈ rx_bw ∧ Jvm.Cond.code Lib.Math.abs.name Lib.Math.abs.code 1 (some .int) ∈ rx_bw
  | 23 => Jvm.Cond.methodLink own i Lib.MathLoose.max_long.x ∈ rx_bw ∧ Jvm.Cond.static Lib.MathLoose.max_long.x ∈ rx_bw ∧ Jvm.Cond.code Lib.MathLoose.max_long.x Lib.MathLoose.max_long.code 4 (some .long) ∈ rx_bw
  | 24 => Jvm.Cond.methodLink own i Lib.MathLoose.min_long.x ∈ rx_bw ∧ Jvm.Cond.static Lib.MathLoose.min_long.x ∈ rx_bw ∧ Jvm.Cond.code Lib.MathLoose.min_long.x Lib.MathLoose.min_long.code 4 (some .long) ∈ rx_bw
  | _ => False)
/-- the meaning that a row gives an entry of the pool is the tables' -/
def rx_Lk (xM : List rx_MT) (mt : rx_MT) (ins : Instr) (K : rx_K) : Prop := match ins with
  | .ldc i => K.1 = 3 → Jvm.Cond.constant mt.2.2.2.2.1 i (Int32.ofInt K.2.2.2) ∈ rx_bw ∧ (Int32.ofInt K.2.2.2).toInt = K.2.2.2
  | .ldc_w i => K.1 = 3 → Jvm.Cond.constant mt.2.2.2.2.1 i (Int32.ofInt K.2.2.2) ∈ rx_bw ∧ (Int32.ofInt K.2.2.2).toInt = K.2.2.2
  | .ldc2_w i => K.1 = 4 → Jvm.Cond.constantLong mt.2.2.2.2.1 i (Int64.ofInt K.2.2.2) ∈ rx_bw ∧ (Int64.ofInt K.2.2.2).toInt = K.2.2.2
  | .getfield i => K.1 = 1 ∨ K.1 = 14 → ∃ q, rx_Fl mt i K.2.1 K.2.2.1 q
  | .putfield i => (K.1 = 1 → ∃ q fs, rx_Fl mt i K.2.1 K.2.2.1 q ∧ (q.2.1 K.2.2.1).2.2.2 = false ∧ rx_fts[K.2.1]? = some fs ∧ rx_fc (fs.getD K.2.2.1 .int) = K.2.2.2.toNat) ∧ (K.1 = 14 → ∃ q fs, rx_Fl mt i K.2.1 K.2.2.1 q ∧ (q.2.1 K.2.2.1).2.2.2 = true ∧ rx_fts[K.2.1]? = some fs ∧ rx_fc (fs.getD K.2.2.1 .int) = K.2.2.2.toNat ∧ mt.1.name = "<init>" ∧ (q.2.1 K.2.2.1).1 = mt.2.2.2.2.1)
  | .getstatic i => K.1 = 2 → ∃ nm, rx_sn[K.2.1]? = some nm ∧ (Jvm.Cond.fieldLink mt.2.2.2.2.1 i "ShipPower" nm "[I" ∈ rx_bw ∨ (mt.2.2.2.2.1, i, nm) ∈ rx_nf)
  | .new i => K.1 = 11 → ∃ q, rx_cl[K.2.1]? = some q ∧ Jvm.Cond.classLink mt.2.2.2.2.1 i q.1 ∈ rx_bw
  | .anewarray i => K.1 = 13 → ∃ q, rx_cl[K.2.1]? = some q ∧ Jvm.Cond.classLink mt.2.2.2.2.1 i q.1 ∈ rx_bw ∧ q.1 ∈ rx_ao
  | .newarray t => Jvm.Cond.arrayClass (Op.newarray.typeOf t) ∈ rx_bw
  | .invokevirtual i => K.1 = 5 → ∃ mj q np, xM[K.2.1]? = some mj ∧ rx_Ca mt mj np ∧ K.2.2.1 = np + 1 ∧ rx_cl[K.2.2.2.toNat]? = some q ∧ q.1 = mj.1.cls ∧ Jvm.Cond.methodLink mt.2.2.2.2.1 i mj.1 ∈ rx_bw ∧ Jvm.Cond.instanceMethod mj.1 ∈ rx_bw ∧ Jvm.Cond.selects mj.1.cls mj.1 mj.1 ∈ rx_bw
  | .invokestatic i => (K.1 = 6 → ∃ mj np, xM[K.2.1]? = some mj ∧ rx_Ca mt mj np ∧ K.2.2.1 = np ∧ Jvm.Cond.methodLink mt.2.2.2.2.1 i mj.1 ∈ rx_bw ∧ Jvm.Cond.static mj.1 ∈ rx_bw) ∧ (K.1 = 8 → ∃ mj np, xM[K.2.1]? = some mj ∧ rx_Ca mt mj np ∧ K.2.2.1 = np ∧ (mt.2.2.2.2.1, i, mj.1) ∈ rx_nm ∧ Jvm.Cond.static mj.1 ∈ rx_bw) ∧ (20 ≤ K.1 → 1 ≤ mt.2.2.2.2.2.2.1 ∧ 23 ≤ mt.2.2.2.2.2.2.2.1 ∧ rx_Ma mt.2.2.2.2.1 i K.1) ∧ (K.1 = 16 → 1000 ≤ K.2.1 ∧ ∃ y np, rx_hy[K.2.1 - 1000]? = some y ∧ K.2.2.1 = np ∧ Jvm.Cond.methodLink mt.2.2.2.2.1 i y ∈ rx_bw ∧ 10 ≤ mt.2.2.2.2.2.2.1 ∧ 364 ≤ mt.2.2.2.2.2.2.2.1 ∧ (parseMethodDescriptor y.desc).map (fun d => d.parameters.length) = some np)
  | .invokespecial i => (K.1 = 10 → Jvm.Cond.methodLink mt.2.2.2.2.1 i Lib.objectInit ∈ rx_bw ∧ 1 ≤ mt.2.2.2.2.2.2.1 ∧ 20 ≤ mt.2.2.2.2.2.2.2.1) ∧ (K.1 = 7 → ∃ mj np, xM[K.2.1]? = some mj ∧ rx_Ca mt mj np ∧ K.2.2.1 = np + 1 ∧ mj.1.name = "<init>" ∧ mj.2.2.2.1 = none ∧ Jvm.Cond.methodLink mt.2.2.2.2.1 i mj.1 ∈ rx_bw ∧ Jvm.Cond.instanceMethod mj.1 ∈ rx_bw) ∧ (K.1 = 9 → ∃ mj np, xM[K.2.1]? = some mj ∧ rx_Ca mt mj np ∧ K.2.2.1 = np + 1 ∧ mj.1.name = "<init>" ∧ mj.2.2.2.1 = none ∧ (mt.2.2.2.2.1, i, mj.1) ∈ rx_nm ∧ Jvm.Cond.instanceMethod mj.1 ∈ rx_bw)
  | .ireturn => (K.2.1 = 0 → mt.2.2.2.1 = some .int) ∧ (¬ K.2.1 = 0 → mt.2.2.2.1 = some .boolean)
  | .lreturn => mt.2.2.2.1 = some .long
  | .areturn => ∃ n, mt.2.2.2.1 = some (.object n)
  | .return_ => mt.2.2.2.1 = none
  | _ => True
def rx_Ok (xM : List rx_MT) (mt : rx_MT) (pc : Nat) (row : rx_Row) : Prop := (∃ len, decode mt.2.1 pc = .ok (row.1, len) ∧ row.2.1 = pc + len ∧ (rx_ln row.1 = len ∨ rx_ln row.1 = 0)) ∧ (∀ o, rx_off row.1 = some o → (pc : Int) + o = (row.2.2.1 : Int)) ∧ rx_Lk xM mt row.1 row.2.2.2
