/-! WHAT HOLDS AT THE LAW's START -/
theorem rx_K0 {s : State} {args : Array Value} (hts : ∀ w ∈ rx_bw, w.before args s = true) : ∃ D : va_G, va_K D rx_cl [] s := by
  have h : ∀ i : Nat, ∃ (cC : ClassId) (iS : Nat → Nat), ∀ q, rx_cl[i]? = some q → u_Kn s q.1 q.2.1 q.2.2 cC iS := by
    intro i
    cases hi : rx_cl[i]? with
    | none => exact ⟨0, fun _ => 0, fun q hq => by cases hq⟩
    | some q =>
      obtain ⟨h1, -, h3, -⟩ := rx_cl_ok i q hi
      obtain ⟨cC, iS, h⟩ := u_known (ws := rx_bw) hts h1 (hts _ h3)
      exact ⟨cC, iS, fun q' hq => by cases hq; exact h⟩
  obtain ⟨f, hf⟩ := Classical.skolem.mp h
  obtain ⟨g, hg⟩ := Classical.skolem.mp hf
  exact ⟨(f, g), fun c q hq => hg c q hq, fun k q hk => by cases hk⟩
theorem rx_mnm : ∀ q ∈ rx_nm, Jvm.Cond.methodLinkNest q.1 q.2.1 q.2.2 "ShipPower" ∈ tables_1 :=
  (List.forall_mem_cons.mpr ⟨rx_t1 (List.mem_of_getElem? (i := 30) rfl), (List.forall_mem_cons.mpr ⟨rx_t2 (List.mem_of_getElem? (i := 194) rfl), (List.forall_mem_cons.mpr ⟨rx_t2 (List.mem_of_getElem? (i := 203) rfl), (List.forall_mem_cons.mpr ⟨rx_t3 (List.mem_of_getElem? (i := 86) rfl), (List.forall_mem_cons.mpr ⟨rx_t3 (List.mem_of_getElem? (i := 87) rfl), (fun _ h => absurd h List.not_mem_nil)⟩)⟩)⟩)⟩)⟩)
theorem rx_mnf : ∀ q ∈ rx_nf, Jvm.Cond.fieldLinkNest q.1 q.2.1 "ShipPower" q.2.2 "[I" "ShipPower" ∈ tables_1 :=
  (List.forall_mem_cons.mpr ⟨rx_t2 (List.mem_of_getElem? (i := 54) rfl), (List.forall_mem_cons.mpr ⟨rx_t2 (List.mem_of_getElem? (i := 166) rfl), (List.forall_mem_cons.mpr ⟨rx_t1 (List.mem_of_getElem? (i := 99) rfl), (List.forall_mem_cons.mpr ⟨rx_t1 (List.mem_of_getElem? (i := 101) rfl), (fun _ h => absurd h List.not_mem_nil)⟩)⟩)⟩)⟩)
theorem rx_mao : ∀ C ∈ rx_ao, Jvm.Cond.arrayOver (.object C) ∈ tables_1 :=
  (List.forall_mem_cons.mpr ⟨rx_t1 (List.mem_of_getElem? (i := 93) rfl), (List.forall_mem_cons.mpr ⟨rx_t1 (List.mem_of_getElem? (i := 91) rfl), (fun _ h => absurd h List.not_mem_nil)⟩)⟩)
theorem rx_mtw : ∀ w ∈ rx_tw, w ∈ tables_1 :=
  (List.forall_mem_cons.mpr ⟨rx_t4 (List.mem_of_getElem? (i := 122) rfl), (List.forall_mem_cons.mpr ⟨rx_t4 (List.mem_of_getElem? (i := 118) rfl), (List.forall_mem_cons.mpr ⟨rx_t4 (List.mem_of_getElem? (i := 120) rfl), (List.forall_mem_cons.mpr ⟨rx_t4 (List.mem_of_getElem? (i := 116) rfl), (List.forall_mem_cons.mpr ⟨rx_t4 (List.mem_of_getElem? (i := 185) rfl), (List.forall_mem_cons.mpr ⟨rx_t5 (List.mem_of_getElem? (i := 15) rfl), (fun _ h => absurd h List.not_mem_nil)⟩)⟩)⟩)⟩)⟩)⟩)
theorem rx_mst : ∀ q ∈ rx_st, Jvm.Cond.stringRef q.1 q.2.1 q.2.2 ∈ tables_1 :=
  (List.forall_mem_cons.mpr ⟨rx_t4 (List.mem_of_getElem? (i := 155) rfl), (List.forall_mem_cons.mpr ⟨rx_t4 (List.mem_of_getElem? (i := 182) rfl), (List.forall_mem_cons.mpr ⟨rx_t4 (List.mem_of_getElem? (i := 192) rfl), (List.forall_mem_cons.mpr ⟨rx_t5 (List.mem_of_getElem? (i := 22) rfl), (List.forall_mem_cons.mpr ⟨rx_t5 (List.mem_of_getElem? (i := 42) rfl), (List.forall_mem_cons.mpr ⟨rx_t5 (List.mem_of_getElem? (i := 50) rfl), (List.forall_mem_cons.mpr ⟨rx_t5 (List.mem_of_getElem? (i := 69) rfl), (List.forall_mem_cons.mpr ⟨rx_t5 (List.mem_of_getElem? (i := 86) rfl), (List.forall_mem_cons.mpr ⟨rx_t5 (List.mem_of_getElem? (i := 99) rfl), (fun _ h => absurd h List.not_mem_nil)⟩)⟩)⟩)⟩)⟩)⟩)⟩)⟩)⟩)
theorem rx_NW0 {s : State} {args : Array Value} (hts : ∀ w ∈ tables_1, w.before args s = true) : rx_NW s :=
  ⟨fun q hq => va_tabs rfl rfl (hts _ (rx_mnm q hq)), fun q hq => va_tabs rfl rfl (hts _ (rx_mnf q hq)), fun C hC => va_AO.of (hts _ (rx_mao C hC))⟩
theorem rx_LS0 {s : State} {args : Array Value} {C n d : String} (h1 : (Cond.laysStatic C n d).before args s = true) (h2 : (Cond.isRef (.static C n d)).before args s = true) {A : Nat → Prop} (hA : ∀ a : Nat, a < s.heap.size → ¬ A a) : rx_LS C n d A s := by
  obtain ⟨c, k, i, f, a, cell, hc, hi, hst, ha, hcell, hs, hcls, hlt, hty⟩ := Cond.laysStatic_spec h1
  have hv := Array.getElem?_eq_getElem hlt
  have e := Term.static_eval (args := args) (first := s) (o := none) (idx := []) hi hst ha hcell hs hv
  refine ⟨c, k, i, f, a, cell, _, hc, hi, hst, ha, hcell, hs, hcls, hlt, hty, ?_, hv, hA a (Array.getElem?_eq_some_iff.mp hcell).1⟩
  simp only [Cond.before, Cond.holds, Cond.value, e] at h2
  generalize cell.slots[f.slot] = v at h2
  cases v with
  | null => exact Or.inl rfl
  | ref t => exact Or.inr ⟨t, rfl⟩
  | _ => simp at h2
theorem rx_mex : ∀ q ∈ rx_st, Jvm.Cond.exactly (.string q.1 q.2.1) "java/lang/String" ∈ flatC (Jvm.Cond.and given_1 narrow_1) := by decide +kernel
theorem rx_NC0 {s : State} {args : Array Value} (h : (Jvm.Cond.not (Jvm.Cond.castable "java/lang/IllegalStateException" "java/lang/IllegalArgumentException")).before args s = true) : rx_NC s := by
  simp only [Cond.before, Cond.holds, Cond.value] at h
  cases hc : s.vm.findClass "java/lang/IllegalStateException" with
  | none => simp [hc] at h
  | some a =>
    cases ht : s.vm.findClass "java/lang/IllegalArgumentException" with
    | none => simp [hc, ht] at h
    | some b => exact ⟨a, b, hc, ht, by simpa [hc, ht] using h⟩
theorem rx_TW0 {s : State} {args : Array Value} (hts : ∀ w ∈ tables_1, w.before args s = true) (hgv : (Jvm.Cond.and given_1 narrow_1).before args s = true) {A : Nat → Prop} (hA : ∀ a : Nat, a < s.heap.size → ¬ A a) : rx_TW A s := by
  have hs := flat_of_before _ hgv
  refine ⟨fun w hw => va_tabs (rx_tw_tab w hw) rfl (hts _ (rx_mtw w hw)), ⟨rx_LS0 (hts _ (rx_t4 (List.mem_of_getElem? (i := 141) rfl))) (hs _ (by decide +kernel)) hA, rx_LS0 (hts _ (rx_t4 (List.mem_of_getElem? (i := 143) rfl))) (hs _ (by decide +kernel)) hA⟩, fun q hq => ?_, rx_NC0 (hs _ (by decide +kernel))⟩
  obtain ⟨b, -, -, -, hb, -⟩ := Cond.exactly_spec (hs _ (rx_mex q hq))
  exact ⟨b, vk_R.of (A := args) (hts _ (rx_mst q hq)) hb⟩
theorem rx_sv0 {s : State} {args : Array Value} (hts : ∀ w ∈ tables_1, w.before args s = true) (hgv : (Jvm.Cond.and given_1 narrow_1).before args s = true) {A : Nat → Prop} (hA : ∀ a : Nat, a < s.heap.size → ¬ A a) : ∃ a : Nat, va_T .int a 6 (fun j => .int (([0, 0, 1, 1, 2, 0] : List Int32).getD j 0)) A s s.heap ∧ va_Z "ShipPower" "BUS_OF_SET" "[I" (.ref a) A s s.heap := by
  have hs := flat_of_before _ hgv
  have hel : ∀ j : Nat, j < 6 → (Term.elem (.static "ShipPower" "BUS_OF_SET" "[I") (.int (Int32.ofNat j))).eval args s none [] s = some (.int (([0, 0, 1, 1, 2, 0] : List Int32).getD j 0)) := by
    intro j hj
    match j, hj with
    | 0, _ => exact va_eqt (hs (.eq (.elem (.static "ShipPower" "BUS_OF_SET" "[I") (.int 0)) (.int 0)) (by decide +kernel))
    | 1, _ => exact va_eqt (hs (.eq (.elem (.static "ShipPower" "BUS_OF_SET" "[I") (.int 1)) (.int 0)) (by decide +kernel))
    | 2, _ => exact va_eqt (hs (.eq (.elem (.static "ShipPower" "BUS_OF_SET" "[I") (.int 2)) (.int 1)) (by decide +kernel))
    | 3, _ => exact va_eqt (hs (.eq (.elem (.static "ShipPower" "BUS_OF_SET" "[I") (.int 3)) (.int 1)) (by decide +kernel))
    | 4, _ => exact va_eqt (hs (.eq (.elem (.static "ShipPower" "BUS_OF_SET" "[I") (.int 4)) (.int 2)) (by decide +kernel))
    | 5, _ => exact va_eqt (hs (.eq (.elem (.static "ShipPower" "BUS_OF_SET" "[I") (.int 5)) (.int 0)) (by decide +kernel))
    | _ + 6, hj => omega
  obtain ⟨a, ha, hT⟩ := va_Tof (N := 6) (f := fun j => .int (([0, 0, 1, 1, 2, 0] : List Int32).getD j 0)) (by decide) (hs (.arrayOf (.static "ShipPower" "BUS_OF_SET" "[I") .int) (by decide +kernel)) (va_eqt (hs (.eq (.length (.static "ShipPower" "BUS_OF_SET" "[I")) (.int 6)) (by decide +kernel))) hel hA
  exact ⟨a, hT, va_Zof (hts _ (rx_t1 (List.mem_of_getElem? (i := 100) rfl))) (hts _ (rx_t1 (List.mem_of_getElem? (i := 1) rfl))) ha hA⟩
theorem rx_sv1 {s : State} {args : Array Value} (hts : ∀ w ∈ tables_1, w.before args s = true) (hgv : (Jvm.Cond.and given_1 narrow_1).before args s = true) {A : Nat → Prop} (hA : ∀ a : Nat, a < s.heap.size → ¬ A a) : ∃ a : Nat, va_T .int a 6 (fun j => .int (([1000, 1000, 1000, 1000, 200, 600] : List Int32).getD j 0)) A s s.heap ∧ va_Z "ShipPower" "RATING_OF_SET" "[I" (.ref a) A s s.heap := by
  have hs := flat_of_before _ hgv
  have hel : ∀ j : Nat, j < 6 → (Term.elem (.static "ShipPower" "RATING_OF_SET" "[I") (.int (Int32.ofNat j))).eval args s none [] s = some (.int (([1000, 1000, 1000, 1000, 200, 600] : List Int32).getD j 0)) := by
    intro j hj
    match j, hj with
    | 0, _ => exact va_eqt (hs (.eq (.elem (.static "ShipPower" "RATING_OF_SET" "[I") (.int 0)) (.int 1000)) (by decide +kernel))
    | 1, _ => exact va_eqt (hs (.eq (.elem (.static "ShipPower" "RATING_OF_SET" "[I") (.int 1)) (.int 1000)) (by decide +kernel))
    | 2, _ => exact va_eqt (hs (.eq (.elem (.static "ShipPower" "RATING_OF_SET" "[I") (.int 2)) (.int 1000)) (by decide +kernel))
    | 3, _ => exact va_eqt (hs (.eq (.elem (.static "ShipPower" "RATING_OF_SET" "[I") (.int 3)) (.int 1000)) (by decide +kernel))
    | 4, _ => exact va_eqt (hs (.eq (.elem (.static "ShipPower" "RATING_OF_SET" "[I") (.int 4)) (.int 200)) (by decide +kernel))
    | 5, _ => exact va_eqt (hs (.eq (.elem (.static "ShipPower" "RATING_OF_SET" "[I") (.int 5)) (.int 600)) (by decide +kernel))
    | _ + 6, hj => omega
  obtain ⟨a, ha, hT⟩ := va_Tof (N := 6) (f := fun j => .int (([1000, 1000, 1000, 1000, 200, 600] : List Int32).getD j 0)) (by decide) (hs (.arrayOf (.static "ShipPower" "RATING_OF_SET" "[I") .int) (by decide +kernel)) (va_eqt (hs (.eq (.length (.static "ShipPower" "RATING_OF_SET" "[I")) (.int 6)) (by decide +kernel))) hel hA
  exact ⟨a, hT, va_Zof (hts _ (rx_t1 (List.mem_of_getElem? (i := 102) rfl))) (hts _ (rx_t1 (List.mem_of_getElem? (i := 1) rfl))) ha hA⟩
theorem rx_sv2 {s : State} {args : Array Value} (hts : ∀ w ∈ tables_1, w.before args s = true) (hgv : (Jvm.Cond.and given_1 narrow_1).before args s = true) {A : Nat → Prop} (hA : ∀ a : Nat, a < s.heap.size → ¬ A a) : ∃ a : Nat, va_T .int a 4 (fun j => .int (([300, 150, 600, 1000] : List Int32).getD j 0)) A s s.heap ∧ va_Z "ShipPower" "RESERVE_OF_MODE" "[I" (.ref a) A s s.heap := by
  have hs := flat_of_before _ hgv
  have hel : ∀ j : Nat, j < 4 → (Term.elem (.static "ShipPower" "RESERVE_OF_MODE" "[I") (.int (Int32.ofNat j))).eval args s none [] s = some (.int (([300, 150, 600, 1000] : List Int32).getD j 0)) := by
    intro j hj
    match j, hj with
    | 0, _ => exact va_eqt (hs (.eq (.elem (.static "ShipPower" "RESERVE_OF_MODE" "[I") (.int 0)) (.int 300)) (by decide +kernel))
    | 1, _ => exact va_eqt (hs (.eq (.elem (.static "ShipPower" "RESERVE_OF_MODE" "[I") (.int 1)) (.int 150)) (by decide +kernel))
    | 2, _ => exact va_eqt (hs (.eq (.elem (.static "ShipPower" "RESERVE_OF_MODE" "[I") (.int 2)) (.int 600)) (by decide +kernel))
    | 3, _ => exact va_eqt (hs (.eq (.elem (.static "ShipPower" "RESERVE_OF_MODE" "[I") (.int 3)) (.int 1000)) (by decide +kernel))
    | _ + 4, hj => omega
  obtain ⟨a, ha, hT⟩ := va_Tof (N := 4) (f := fun j => .int (([300, 150, 600, 1000] : List Int32).getD j 0)) (by decide) (hs (.arrayOf (.static "ShipPower" "RESERVE_OF_MODE" "[I") .int) (by decide +kernel)) (va_eqt (hs (.eq (.length (.static "ShipPower" "RESERVE_OF_MODE" "[I")) (.int 4)) (by decide +kernel))) hel hA
  exact ⟨a, hT, va_Zof (hts _ (rx_t2 (List.mem_of_getElem? (i := 55) rfl))) (hts _ (rx_t1 (List.mem_of_getElem? (i := 1) rfl))) ha hA⟩
theorem rx_sv3 {s : State} {args : Array Value} (hts : ∀ w ∈ tables_1, w.before args s = true) (hgv : (Jvm.Cond.and given_1 narrow_1).before args s = true) {A : Nat → Prop} (hA : ∀ a : Nat, a < s.heap.size → ¬ A a) : ∃ a : Nat, va_T .int a 7 (fun j => .int (([0, 5, 1, 2, 6, 3, 4] : List Int32).getD j 0)) A s s.heap ∧ va_Z "ShipPower" "EVENT_OF_STATE" "[I" (.ref a) A s s.heap := by
  have hs := flat_of_before _ hgv
  have hel : ∀ j : Nat, j < 7 → (Term.elem (.static "ShipPower" "EVENT_OF_STATE" "[I") (.int (Int32.ofNat j))).eval args s none [] s = some (.int (([0, 5, 1, 2, 6, 3, 4] : List Int32).getD j 0)) := by
    intro j hj
    match j, hj with
    | 0, _ => exact va_eqt (hs (.eq (.elem (.static "ShipPower" "EVENT_OF_STATE" "[I") (.int 0)) (.int 0)) (by decide +kernel))
    | 1, _ => exact va_eqt (hs (.eq (.elem (.static "ShipPower" "EVENT_OF_STATE" "[I") (.int 1)) (.int 5)) (by decide +kernel))
    | 2, _ => exact va_eqt (hs (.eq (.elem (.static "ShipPower" "EVENT_OF_STATE" "[I") (.int 2)) (.int 1)) (by decide +kernel))
    | 3, _ => exact va_eqt (hs (.eq (.elem (.static "ShipPower" "EVENT_OF_STATE" "[I") (.int 3)) (.int 2)) (by decide +kernel))
    | 4, _ => exact va_eqt (hs (.eq (.elem (.static "ShipPower" "EVENT_OF_STATE" "[I") (.int 4)) (.int 6)) (by decide +kernel))
    | 5, _ => exact va_eqt (hs (.eq (.elem (.static "ShipPower" "EVENT_OF_STATE" "[I") (.int 5)) (.int 3)) (by decide +kernel))
    | 6, _ => exact va_eqt (hs (.eq (.elem (.static "ShipPower" "EVENT_OF_STATE" "[I") (.int 6)) (.int 4)) (by decide +kernel))
    | _ + 7, hj => omega
  obtain ⟨a, ha, hT⟩ := va_Tof (N := 7) (f := fun j => .int (([0, 5, 1, 2, 6, 3, 4] : List Int32).getD j 0)) (by decide) (hs (.arrayOf (.static "ShipPower" "EVENT_OF_STATE" "[I") .int) (by decide +kernel)) (va_eqt (hs (.eq (.length (.static "ShipPower" "EVENT_OF_STATE" "[I")) (.int 7)) (by decide +kernel))) hel hA
  exact ⟨a, hT, va_Zof (hts _ (rx_t2 (List.mem_of_getElem? (i := 167) rfl))) (hts _ (rx_t1 (List.mem_of_getElem? (i := 1) rfl))) ha hA⟩
