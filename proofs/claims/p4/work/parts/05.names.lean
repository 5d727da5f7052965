/-! names: the words that every method may use, the classes, their fields -/
def rx_bw : List Jvm.Cond := lw_tbl.filter goodWord
theorem rx_bw_t {w : Jvm.Cond} (h : w ∈ tables_1) (hg : goodWord w = true) : w ∈ rx_bw := List.mem_filter.mpr ⟨List.mem_append_right _ h, hg⟩
theorem rx_bw_p {q : MethodName × Nat} (h : q ∈ lw_privs) : Jvm.Cond.selects q.1.cls q.1 q.1 ∈ rx_bw := List.mem_filter.mpr ⟨List.mem_append_left _ (List.mem_map.mpr ⟨q, h, rfl⟩), rfl⟩
theorem rx_t1 {w : Jvm.Cond} (h : w ∈ tables_1_1) : w ∈ tables_1 := List.mem_append_left _ h
theorem rx_t2 {w : Jvm.Cond} (h : w ∈ tables_1_2) : w ∈ tables_1 := List.mem_append_right _ (List.mem_append_left _ h)
theorem rx_t3 {w : Jvm.Cond} (h : w ∈ tables_1_3) : w ∈ tables_1 := List.mem_append_right _ (List.mem_append_right _ (List.mem_append_left _ h))
theorem rx_t4 {w : Jvm.Cond} (h : w ∈ tables_1_4) : w ∈ tables_1 := List.mem_append_right _ (List.mem_append_right _ (List.mem_append_right _ (List.mem_append_left _ h)))
theorem rx_t5 {w : Jvm.Cond} (h : w ∈ tables_1_5) : w ∈ tables_1 := List.mem_append_right _ (List.mem_append_right _ (List.mem_append_right _ (List.mem_append_right _ (List.mem_append_left _ h))))
theorem rx_t6 {w : Jvm.Cond} (h : w ∈ tables_1_6) : w ∈ tables_1 := List.mem_append_right _ (List.mem_append_right _ (List.mem_append_right _ (List.mem_append_right _ (List.mem_append_right _ (List.mem_append_left _ h)))))
theorem rx_t7 {w : Jvm.Cond} (h : w ∈ tables_1_7) : w ∈ tables_1 := List.mem_append_right _ (List.mem_append_right _ (List.mem_append_right _ (List.mem_append_right _ (List.mem_append_right _ (List.mem_append_right _ (h))))))
theorem rx_p1 {q : MethodName × Nat} (h : q ∈ lw_privs_1) : q ∈ lw_privs := List.mem_append_left _ h
theorem rx_p2 {q : MethodName × Nat} (h : q ∈ lw_privs_2) : q ∈ lw_privs := List.mem_append_right _ (List.mem_append_left _ h)
theorem rx_p3 {q : MethodName × Nat} (h : q ∈ lw_privs_3) : q ∈ lw_privs := List.mem_append_right _ (List.mem_append_right _ (List.mem_append_left _ h))
theorem rx_p4 {q : MethodName × Nat} (h : q ∈ lw_privs_4) : q ∈ lw_privs := List.mem_append_right _ (List.mem_append_right _ (List.mem_append_right _ (List.mem_append_left _ h)))
theorem rx_p5 {q : MethodName × Nat} (h : q ∈ lw_privs_5) : q ∈ lw_privs := List.mem_append_right _ (List.mem_append_right _ (List.mem_append_right _ (List.mem_append_right _ (List.mem_append_left _ h))))
theorem rx_p6 {q : MethodName × Nat} (h : q ∈ lw_privs_6) : q ∈ lw_privs := List.mem_append_right _ (List.mem_append_right _ (List.mem_append_right _ (List.mem_append_right _ (List.mem_append_right _ (h)))))
def rx_fl0 : List (String × String × String × Bool) := [("ShipPower", "journal", "LShipPower$Journal;", true), ("ShipPower", "board", "LShipPower$Board;", true), ("ShipPower", "plant", "LShipPower$Plant;", true), ("ShipPower", "coupling", "LShipPower$Coupling;", true), ("ShipPower", "sharing", "LShipPower$Sharing;", true), ("ShipPower", "protection", "LShipPower$Protection;", true), ("ShipPower", "manager", "LShipPower$Manager;", true), ("ShipPower", "ladder", "LShipPower$Ladder;", true)]
def rx_T0 : u_T := fun k => rx_fl0.getD k ("", "", "", false)
def rx_ft0 : List FieldType := [.object "ShipPower$Journal", .object "ShipPower$Board", .object "ShipPower$Plant", .object "ShipPower$Coupling", .object "ShipPower$Sharing", .object "ShipPower$Protection", .object "ShipPower$Manager", .object "ShipPower$Ladder"]
def rx_fl1 : List (String × String × String × Bool) := [("ShipPower$Board", "journal", "LShipPower$Journal;", true), ("ShipPower$Board", "leads", "[I", true), ("ShipPower$Board", "closed", "I", false), ("ShipPower$Board", "sticking", "I", false), ("ShipPower$Board", "refused", "I", false)]
def rx_T1 : u_T := fun k => rx_fl1.getD k ("", "", "", false)
def rx_ft1 : List FieldType := [.object "ShipPower$Journal", .array .int, .int, .int, .int]
def rx_fl2 : List (String × String × String × Bool) := [("ShipPower$Consumer", "number", "I", true), ("ShipPower$Consumer", "bus", "I", true), ("ShipPower$Consumer", "cls", "I", true), ("ShipPower$Consumer", "kilowatts", "I", true), ("ShipPower$Consumer", "firstDemand", "I", true), ("ShipPower$Consumer", "state", "I", false), ("ShipPower$Consumer", "firstTick", "I", false)]
def rx_T2 : u_T := fun k => rx_fl2.getD k ("", "", "", false)
def rx_ft2 : List FieldType := [.int, .int, .int, .int, .int, .int, .int]
def rx_fl3 : List (String × String × String × Bool) := [("ShipPower$Coupling", "plant", "LShipPower$Plant;", true), ("ShipPower$Coupling", "board", "LShipPower$Board;", true), ("ShipPower$Coupling", "liveTicks", "[I", true), ("ShipPower$Coupling", "tieOrdered", "Z", false)]
def rx_T3 : u_T := fun k => rx_fl3.getD k ("", "", "", false)
def rx_ft3 : List FieldType := [.object "ShipPower$Plant", .object "ShipPower$Board", .array .int, .boolean]
def rx_fl4 : List (String × String × String × Bool) := [("ShipPower$Journal", "times", "[I", true), ("ShipPower$Journal", "kinds", "[I", true), ("ShipPower$Journal", "subjects", "[I", true), ("ShipPower$Journal", "now", "I", false), ("ShipPower$Journal", "total", "I", false)]
def rx_T4 : u_T := fun k => rx_fl4.getD k ("", "", "", false)
def rx_ft4 : List FieldType := [.array .int, .array .int, .array .int, .int, .int]
def rx_fl5 : List (String × String × String × Bool) := [("ShipPower$Ladder", "plant", "LShipPower$Plant;", true), ("ShipPower$Ladder", "manager", "LShipPower$Manager;", true), ("ShipPower$Ladder", "darkTicks", "I", false), ("ShipPower$Ladder", "step", "I", false), ("ShipPower$Ladder", "nextClass", "I", false), ("ShipPower$Ladder", "blackouts", "I", false)]
def rx_T5 : u_T := fun k => rx_fl5.getD k ("", "", "", false)
def rx_ft5 : List FieldType := [.object "ShipPower$Plant", .object "ShipPower$Manager", .int, .int, .int, .int]
def rx_fl6 : List (String × String × String × Bool) := [("ShipPower$Manager", "plant", "LShipPower$Plant;", true), ("ShipPower$Manager", "startOrder", "[I", true), ("ShipPower$Manager", "calmLooks", "[I", true), ("ShipPower$Manager", "reserve", "I", false), ("ShipPower$Manager", "parallelTicks", "I", false)]
def rx_T6 : u_T := fun k => rx_fl6.getD k ("", "", "", false)
def rx_ft6 : List FieldType := [.object "ShipPower$Plant", .array .int, .array .int, .int, .int]
def rx_fl7 : List (String × String × String × Bool) := [("ShipPower$Plant", "journal", "LShipPower$Journal;", true), ("ShipPower$Plant", "board", "LShipPower$Board;", true), ("ShipPower$Plant", "sets", "[LShipPower$PowerSet;", true), ("ShipPower$Plant", "consumers", "[LShipPower$Consumer;", true), ("ShipPower$Plant", "frequencies", "[I", true), ("ShipPower$Plant", "phases", "[I", true), ("ShipPower$Plant", "consumerCount", "I", false), ("ShipPower$Plant", "shoreIsThere", "Z", false), ("ShipPower$Plant", "shoreFrequency", "I", false)]
def rx_T7 : u_T := fun k => rx_fl7.getD k ("", "", "", false)
def rx_ft7 : List FieldType := [.object "ShipPower$Journal", .object "ShipPower$Board", .array (.object "ShipPower$PowerSet"), .array (.object "ShipPower$Consumer"), .array .int, .array .int, .int, .boolean, .int]
def rx_fl8 : List (String × String × String × Bool) := [("ShipPower$PowerSet", "number", "I", true), ("ShipPower$PowerSet", "bus", "I", true), ("ShipPower$PowerSet", "rating", "I", true), ("ShipPower$PowerSet", "state", "I", false), ("ShipPower$PowerSet", "failure", "I", false), ("ShipPower$PowerSet", "speed", "I", false), ("ShipPower$PowerSet", "phase", "I", false), ("ShipPower$PowerSet", "load", "I", false), ("ShipPower$PowerSet", "heat", "J", false), ("ShipPower$PowerSet", "weight", "I", false), ("ShipPower$PowerSet", "left", "I", false), ("ShipPower$PowerSet", "tries", "I", false), ("ShipPower$PowerSet", "offTicks", "I", false)]
def rx_T8 : u_T := fun k => rx_fl8.getD k ("", "", "", false)
def rx_ft8 : List FieldType := [.int, .int, .int, .int, .int, .int, .int, .int, .long, .int, .int, .int, .int]
def rx_fl9 : List (String × String × String × Bool) := [("ShipPower$Protection", "plant", "LShipPower$Plant;", true), ("ShipPower$Protection", "lowTicks", "[I", true), ("ShipPower$Protection", "hasShed", "Z", false), ("ShipPower$Protection", "latestShedding", "I", false), ("ShipPower$Protection", "shedSoFar", "I", false)]
def rx_T9 : u_T := fun k => rx_fl9.getD k ("", "", "", false)
def rx_ft9 : List FieldType := [.object "ShipPower$Plant", .array .int, .boolean, .int, .int]
def rx_fl10 : List (String × String × String × Bool) := [("ShipPower$Sharing", "plant", "LShipPower$Plant;", true), ("ShipPower$Sharing", "parts", "[I", true)]
def rx_T10 : u_T := fun k => rx_fl10.getD k ("", "", "", false)
def rx_ft10 : List FieldType := [.object "ShipPower$Plant", .array .int]
def rx_fl11 : List (String × String × String × Bool) := [("ShipPowerModel", "thrown", "I", false), ("ShipPowerModel", "now", "I", false), ("ShipPowerModel", "state", "[I", true), ("ShipPowerModel", "speed", "[I", true), ("ShipPowerModel", "phase", "[I", true), ("ShipPowerModel", "load", "[I", true), ("ShipPowerModel", "heat", "[I", true), ("ShipPowerModel", "weight", "[I", true), ("ShipPowerModel", "tries", "[I", true), ("ShipPowerModel", "left", "[I", true), ("ShipPowerModel", "failure", "[I", true), ("ShipPowerModel", "away", "[I", true), ("ShipPowerModel", "closed", "[Z", true), ("ShipPowerModel", "sticks", "[Z", true), ("ShipPowerModel", "stuck", "I", false), ("ShipPowerModel", "ordered", "Z", false), ("ShipPowerModel", "frequency", "[I", true), ("ShipPowerModel", "turned", "[I", true), ("ShipPowerModel", "low", "[I", true), ("ShipPowerModel", "calm", "[I", true), ("ShipPowerModel", "liveTicks", "[I", true), ("ShipPowerModel", "parallel", "I", false), ("ShipPowerModel", "modeNow", "I", false), ("ShipPowerModel", "startOrder", "[I", true), ("ShipPowerModel", "shoreIsThere", "Z", false), ("ShipPowerModel", "shoreSpeed", "I", false), ("ShipPowerModel", "consumers", "I", false), ("ShipPowerModel", "at", "[I", true), ("ShipPowerModel", "kind", "[I", true), ("ShipPowerModel", "kilowatts", "[I", true), ("ShipPowerModel", "factors", "[I", true), ("ShipPowerModel", "is", "[I", true), ("ShipPowerModel", "since", "[I", true), ("ShipPowerModel", "wasShed", "Z", false), ("ShipPowerModel", "shedAt", "I", false), ("ShipPowerModel", "shedSoFar", "I", false), ("ShipPowerModel", "dark", "I", false), ("ShipPowerModel", "ladder", "I", false), ("ShipPowerModel", "coming", "I", false), ("ShipPowerModel", "blackouts", "I", false), ("ShipPowerModel", "events", "I", false), ("ShipPowerModel", "eventTick", "[I", true), ("ShipPowerModel", "eventWhat", "[I", true), ("ShipPowerModel", "eventWhich", "[I", true)]
def rx_T11 : u_T := fun k => rx_fl11.getD k ("", "", "", false)
def rx_ft11 : List FieldType := [.int, .int, .array .int, .array .int, .array .int, .array .int, .array .int, .array .int, .array .int, .array .int, .array .int, .array .int, .array .boolean, .array .boolean, .int, .boolean, .array .int, .array .int, .array .int, .array .int, .array .int, .int, .int, .array .int, .boolean, .int, .int, .array .int, .array .int, .array .int, .array .int, .array .int, .array .int, .boolean, .int, .int, .int, .int, .int, .int, .int, .array .int, .array .int, .array .int]
def rx_cl : List vw_C := [("ShipPower", rx_T0, 8), ("ShipPower$Board", rx_T1, 5), ("ShipPower$Consumer", rx_T2, 7), ("ShipPower$Coupling", rx_T3, 4), ("ShipPower$Journal", rx_T4, 5), ("ShipPower$Ladder", rx_T5, 6), ("ShipPower$Manager", rx_T6, 5), ("ShipPower$Plant", rx_T7, 9), ("ShipPower$PowerSet", rx_T8, 13), ("ShipPower$Protection", rx_T9, 5), ("ShipPower$Sharing", rx_T10, 2), ("ShipPowerModel", rx_T11, 44)]
def rx_fts : List (List FieldType) := [rx_ft0, rx_ft1, rx_ft2, rx_ft3, rx_ft4, rx_ft5, rx_ft6, rx_ft7, rx_ft8, rx_ft9, rx_ft10, rx_ft11]
def rx_fc (t : FieldType) : Nat := match t with
  | .int => 0
  | .boolean => 1
  | .long => 2
  | .object _ => 3
  | .array _ => 3
  | _ => 9
def rx_dk : List (List Nat) := [[3, 3, 3, 3, 3, 3, 3, 3], [3, 3, 0, 0, 0], [0, 0, 0, 0, 0, 0, 0], [3, 3, 3, 1], [3, 3, 3, 0, 0], [3, 3, 0, 0, 0, 0], [3, 3, 3, 0, 0], [3, 3, 3, 3, 3, 3, 0, 1, 0], [0, 0, 0, 0, 0, 0, 0, 0, 2, 0, 0, 0, 0], [3, 3, 1, 0, 0], [3, 3], [0, 0, 3, 3, 3, 3, 3, 3, 3, 3, 3, 3, 3, 3, 0, 1, 3, 3, 3, 3, 3, 0, 0, 3, 1, 0, 0, 3, 3, 3, 3, 3, 3, 1, 0, 0, 0, 0, 0, 0, 0, 3, 3, 3]]
/-- what is known of a class, by its number -/
def rx_COk (i : Nat) (q : vw_C) : Prop := (∀ w ∈ u_ws q.1 q.2.1 q.2.2, w ∈ rx_bw) ∧ (∀ a, a < q.2.2 → ∀ b, b < q.2.2 → a ≠ b → (q.2.1 a).2.1 ≠ (q.2.1 b).2.1) ∧ Jvm.Cond.instantiable q.1 q.2.2 ∈ rx_bw ∧ Jvm.Cond.initialized q.1 ∈ rx_bw ∧ ∃ fs ks : List _, rx_fts[i]? = some fs ∧ rx_dk[i]? = some ks ∧ fs.length = q.2.2 ∧ ks = fs.map rx_fc ∧ ∀ k, k < q.2.2 → parseFieldDescriptor (q.2.1 k).2.2.1 = some (fs.getD k .int)
theorem rx_in0 : ∀ w ∈ u_ws "ShipPower" rx_T0 8, w ∈ rx_bw := by
  intro w hw
  obtain ⟨k, hk, rfl⟩ := List.mem_map.mp hw
  have hk := List.mem_range.mp hk
  match k, hk with
  | 0, _ => exact rx_bw_t (rx_t2 (List.mem_of_getElem? (i := 108) rfl)) rfl
  | 1, _ => exact rx_bw_t (rx_t2 (List.mem_of_getElem? (i := 110) rfl)) rfl
  | 2, _ => exact rx_bw_t (rx_t2 (List.mem_of_getElem? (i := 112) rfl)) rfl
  | 3, _ => exact rx_bw_t (rx_t2 (List.mem_of_getElem? (i := 114) rfl)) rfl
  | 4, _ => exact rx_bw_t (rx_t2 (List.mem_of_getElem? (i := 116) rfl)) rfl
  | 5, _ => exact rx_bw_t (rx_t2 (List.mem_of_getElem? (i := 118) rfl)) rfl
  | 6, _ => exact rx_bw_t (rx_t2 (List.mem_of_getElem? (i := 120) rfl)) rfl
  | 7, _ => exact rx_bw_t (rx_t2 (List.mem_of_getElem? (i := 122) rfl)) rfl
  | n + 8, hk => exact absurd hk (by omega)
theorem rx_nm0 : ∀ a, a < 8 → ∀ b, b < 8 → a ≠ b → (rx_T0 a).2.1 ≠ (rx_T0 b).2.1 := by decide +kernel
theorem rx_ty0 : ∀ k, k < 8 → parseFieldDescriptor (rx_T0 k).2.2.1 = some (rx_ft0.getD k .int) := by decide +kernel
theorem rx_c0 : rx_COk 0 ("ShipPower", rx_T0, 8) := ⟨rx_in0, rx_nm0, rx_bw_t (rx_t1 (List.mem_of_getElem? (i := 21) rfl)) rfl, rx_bw_t (rx_t1 (List.mem_of_getElem? (i := 1) rfl)) rfl, rx_ft0, [3, 3, 3, 3, 3, 3, 3, 3], rfl, rfl, rfl, by decide +kernel, rx_ty0⟩
theorem rx_in1 : ∀ w ∈ u_ws "ShipPower$Board" rx_T1 5, w ∈ rx_bw := by
  intro w hw
  obtain ⟨k, hk, rfl⟩ := List.mem_map.mp hw
  have hk := List.mem_range.mp hk
  match k, hk with
  | 0, _ => exact rx_bw_t (rx_t1 (List.mem_of_getElem? (i := 73) rfl)) rfl
  | 1, _ => exact rx_bw_t (rx_t1 (List.mem_of_getElem? (i := 75) rfl)) rfl
  | 2, _ => exact rx_bw_t (rx_t1 (List.mem_of_getElem? (i := 77) rfl)) rfl
  | 3, _ => exact rx_bw_t (rx_t1 (List.mem_of_getElem? (i := 79) rfl)) rfl
  | 4, _ => exact rx_bw_t (rx_t1 (List.mem_of_getElem? (i := 81) rfl)) rfl
  | n + 5, hk => exact absurd hk (by omega)
theorem rx_nm1 : ∀ a, a < 5 → ∀ b, b < 5 → a ≠ b → (rx_T1 a).2.1 ≠ (rx_T1 b).2.1 := by decide +kernel
theorem rx_ty1 : ∀ k, k < 5 → parseFieldDescriptor (rx_T1 k).2.2.1 = some (rx_ft1.getD k .int) := by decide +kernel
theorem rx_c1 : rx_COk 1 ("ShipPower$Board", rx_T1, 5) := ⟨rx_in1, rx_nm1, rx_bw_t (rx_t1 (List.mem_of_getElem? (i := 58) rfl)) rfl, rx_bw_t (rx_t1 (List.mem_of_getElem? (i := 3) rfl)) rfl, rx_ft1, [3, 3, 0, 0, 0], rfl, rfl, rfl, by decide +kernel, rx_ty1⟩
theorem rx_in2 : ∀ w ∈ u_ws "ShipPower$Consumer" rx_T2 7, w ∈ rx_bw := by
  intro w hw
  obtain ⟨k, hk, rfl⟩ := List.mem_map.mp hw
  have hk := List.mem_range.mp hk
  match k, hk with
  | 0, _ => exact rx_bw_t (rx_t4 (List.mem_of_getElem? (i := 230) rfl)) rfl
  | 1, _ => exact rx_bw_t (rx_t4 (List.mem_of_getElem? (i := 232) rfl)) rfl
  | 2, _ => exact rx_bw_t (rx_t4 (List.mem_of_getElem? (i := 234) rfl)) rfl
  | 3, _ => exact rx_bw_t (rx_t4 (List.mem_of_getElem? (i := 236) rfl)) rfl
  | 4, _ => exact rx_bw_t (rx_t4 (List.mem_of_getElem? (i := 238) rfl)) rfl
  | 5, _ => exact rx_bw_t (rx_t5 (List.mem_of_getElem? (i := 0) rfl)) rfl
  | 6, _ => exact rx_bw_t (rx_t5 (List.mem_of_getElem? (i := 2) rfl)) rfl
  | n + 7, hk => exact absurd hk (by omega)
theorem rx_nm2 : ∀ a, a < 7 → ∀ b, b < 7 → a ≠ b → (rx_T2 a).2.1 ≠ (rx_T2 b).2.1 := by decide +kernel
theorem rx_ty2 : ∀ k, k < 7 → parseFieldDescriptor (rx_T2 k).2.2.1 = some (rx_ft2.getD k .int) := by decide +kernel
theorem rx_c2 : rx_COk 2 ("ShipPower$Consumer", rx_T2, 7) := ⟨rx_in2, rx_nm2, rx_bw_t (rx_t4 (List.mem_of_getElem? (i := 203) rfl)) rfl, rx_bw_t (rx_t1 (List.mem_of_getElem? (i := 17) rfl)) rfl, rx_ft2, [0, 0, 0, 0, 0, 0, 0], rfl, rfl, rfl, by decide +kernel, rx_ty2⟩
theorem rx_in3 : ∀ w ∈ u_ws "ShipPower$Coupling" rx_T3 4, w ∈ rx_bw := by
  intro w hw
  obtain ⟨k, hk, rfl⟩ := List.mem_map.mp hw
  have hk := List.mem_range.mp hk
  match k, hk with
  | 0, _ => exact rx_bw_t (rx_t2 (List.mem_of_getElem? (i := 3) rfl)) rfl
  | 1, _ => exact rx_bw_t (rx_t2 (List.mem_of_getElem? (i := 5) rfl)) rfl
  | 2, _ => exact rx_bw_t (rx_t2 (List.mem_of_getElem? (i := 7) rfl)) rfl
  | 3, _ => exact rx_bw_t (rx_t2 (List.mem_of_getElem? (i := 9) rfl)) rfl
  | n + 4, hk => exact absurd hk (by omega)
theorem rx_nm3 : ∀ a, a < 4 → ∀ b, b < 4 → a ≠ b → (rx_T3 a).2.1 ≠ (rx_T3 b).2.1 := by decide +kernel
theorem rx_ty3 : ∀ k, k < 4 → parseFieldDescriptor (rx_T3 k).2.2.1 = some (rx_ft3.getD k .int) := by decide +kernel
theorem rx_c3 : rx_COk 3 ("ShipPower$Coupling", rx_T3, 4) := ⟨rx_in3, rx_nm3, rx_bw_t (rx_t1 (List.mem_of_getElem? (i := 233) rfl)) rfl, rx_bw_t (rx_t1 (List.mem_of_getElem? (i := 6) rfl)) rfl, rx_ft3, [3, 3, 3, 1], rfl, rfl, rfl, by decide +kernel, rx_ty3⟩
theorem rx_in4 : ∀ w ∈ u_ws "ShipPower$Journal" rx_T4 5, w ∈ rx_bw := by
  intro w hw
  obtain ⟨k, hk, rfl⟩ := List.mem_map.mp hw
  have hk := List.mem_range.mp hk
  match k, hk with
  | 0, _ => exact rx_bw_t (rx_t1 (List.mem_of_getElem? (i := 45) rfl)) rfl
  | 1, _ => exact rx_bw_t (rx_t1 (List.mem_of_getElem? (i := 47) rfl)) rfl
  | 2, _ => exact rx_bw_t (rx_t1 (List.mem_of_getElem? (i := 49) rfl)) rfl
  | 3, _ => exact rx_bw_t (rx_t1 (List.mem_of_getElem? (i := 51) rfl)) rfl
  | 4, _ => exact rx_bw_t (rx_t1 (List.mem_of_getElem? (i := 53) rfl)) rfl
  | n + 5, hk => exact absurd hk (by omega)
theorem rx_nm4 : ∀ a, a < 5 → ∀ b, b < 5 → a ≠ b → (rx_T4 a).2.1 ≠ (rx_T4 b).2.1 := by decide +kernel
theorem rx_ty4 : ∀ k, k < 5 → parseFieldDescriptor (rx_T4 k).2.2.1 = some (rx_ft4.getD k .int) := by decide +kernel
theorem rx_c4 : rx_COk 4 ("ShipPower$Journal", rx_T4, 5) := ⟨rx_in4, rx_nm4, rx_bw_t (rx_t1 (List.mem_of_getElem? (i := 29) rfl)) rfl, rx_bw_t (rx_t1 (List.mem_of_getElem? (i := 2) rfl)) rfl, rx_ft4, [3, 3, 3, 0, 0], rfl, rfl, rfl, by decide +kernel, rx_ty4⟩
theorem rx_in5 : ∀ w ∈ u_ws "ShipPower$Ladder" rx_T5 6, w ∈ rx_bw := by
  intro w hw
  obtain ⟨k, hk, rfl⟩ := List.mem_map.mp hw
  have hk := List.mem_range.mp hk
  match k, hk with
  | 0, _ => exact rx_bw_t (rx_t2 (List.mem_of_getElem? (i := 87) rfl)) rfl
  | 1, _ => exact rx_bw_t (rx_t2 (List.mem_of_getElem? (i := 89) rfl)) rfl
  | 2, _ => exact rx_bw_t (rx_t2 (List.mem_of_getElem? (i := 91) rfl)) rfl
  | 3, _ => exact rx_bw_t (rx_t2 (List.mem_of_getElem? (i := 93) rfl)) rfl
  | 4, _ => exact rx_bw_t (rx_t2 (List.mem_of_getElem? (i := 95) rfl)) rfl
  | 5, _ => exact rx_bw_t (rx_t2 (List.mem_of_getElem? (i := 97) rfl)) rfl
  | n + 6, hk => exact absurd hk (by omega)
theorem rx_nm5 : ∀ a, a < 6 → ∀ b, b < 6 → a ≠ b → (rx_T5 a).2.1 ≠ (rx_T5 b).2.1 := by decide +kernel
theorem rx_ty5 : ∀ k, k < 6 → parseFieldDescriptor (rx_T5 k).2.2.1 = some (rx_ft5.getD k .int) := by decide +kernel
theorem rx_c5 : rx_COk 5 ("ShipPower$Ladder", rx_T5, 6) := ⟨rx_in5, rx_nm5, rx_bw_t (rx_t2 (List.mem_of_getElem? (i := 74) rfl)) rfl, rx_bw_t (rx_t1 (List.mem_of_getElem? (i := 10) rfl)) rfl, rx_ft5, [3, 3, 0, 0, 0, 0], rfl, rfl, rfl, by decide +kernel, rx_ty5⟩
theorem rx_in6 : ∀ w ∈ u_ws "ShipPower$Manager" rx_T6 5, w ∈ rx_bw := by
  intro w hw
  obtain ⟨k, hk, rfl⟩ := List.mem_map.mp hw
  have hk := List.mem_range.mp hk
  match k, hk with
  | 0, _ => exact rx_bw_t (rx_t2 (List.mem_of_getElem? (i := 62) rfl)) rfl
  | 1, _ => exact rx_bw_t (rx_t2 (List.mem_of_getElem? (i := 64) rfl)) rfl
  | 2, _ => exact rx_bw_t (rx_t2 (List.mem_of_getElem? (i := 66) rfl)) rfl
  | 3, _ => exact rx_bw_t (rx_t2 (List.mem_of_getElem? (i := 68) rfl)) rfl
  | 4, _ => exact rx_bw_t (rx_t2 (List.mem_of_getElem? (i := 70) rfl)) rfl
  | n + 5, hk => exact absurd hk (by omega)
theorem rx_nm6 : ∀ a, a < 5 → ∀ b, b < 5 → a ≠ b → (rx_T6 a).2.1 ≠ (rx_T6 b).2.1 := by decide +kernel
theorem rx_ty6 : ∀ k, k < 5 → parseFieldDescriptor (rx_T6 k).2.2.1 = some (rx_ft6.getD k .int) := by decide +kernel
theorem rx_c6 : rx_COk 6 ("ShipPower$Manager", rx_T6, 5) := ⟨rx_in6, rx_nm6, rx_bw_t (rx_t2 (List.mem_of_getElem? (i := 49) rfl)) rfl, rx_bw_t (rx_t1 (List.mem_of_getElem? (i := 9) rfl)) rfl, rx_ft6, [3, 3, 3, 0, 0], rfl, rfl, rfl, by decide +kernel, rx_ty6⟩
theorem rx_in7 : ∀ w ∈ u_ws "ShipPower$Plant" rx_T7 9, w ∈ rx_bw := by
  intro w hw
  obtain ⟨k, hk, rfl⟩ := List.mem_map.mp hw
  have hk := List.mem_range.mp hk
  match k, hk with
  | 0, _ => exact rx_bw_t (rx_t1 (List.mem_of_getElem? (i := 213) rfl)) rfl
  | 1, _ => exact rx_bw_t (rx_t1 (List.mem_of_getElem? (i := 215) rfl)) rfl
  | 2, _ => exact rx_bw_t (rx_t1 (List.mem_of_getElem? (i := 217) rfl)) rfl
  | 3, _ => exact rx_bw_t (rx_t1 (List.mem_of_getElem? (i := 219) rfl)) rfl
  | 4, _ => exact rx_bw_t (rx_t1 (List.mem_of_getElem? (i := 221) rfl)) rfl
  | 5, _ => exact rx_bw_t (rx_t1 (List.mem_of_getElem? (i := 223) rfl)) rfl
  | 6, _ => exact rx_bw_t (rx_t1 (List.mem_of_getElem? (i := 225) rfl)) rfl
  | 7, _ => exact rx_bw_t (rx_t1 (List.mem_of_getElem? (i := 227) rfl)) rfl
  | 8, _ => exact rx_bw_t (rx_t1 (List.mem_of_getElem? (i := 229) rfl)) rfl
  | n + 9, hk => exact absurd hk (by omega)
theorem rx_nm7 : ∀ a, a < 9 → ∀ b, b < 9 → a ≠ b → (rx_T7 a).2.1 ≠ (rx_T7 b).2.1 := by decide +kernel
theorem rx_ty7 : ∀ k, k < 9 → parseFieldDescriptor (rx_T7 k).2.2.1 = some (rx_ft7.getD k .int) := by decide +kernel
theorem rx_c7 : rx_COk 7 ("ShipPower$Plant", rx_T7, 9) := ⟨rx_in7, rx_nm7, rx_bw_t (rx_t1 (List.mem_of_getElem? (i := 85) rfl)) rfl, rx_bw_t (rx_t1 (List.mem_of_getElem? (i := 4) rfl)) rfl, rx_ft7, [3, 3, 3, 3, 3, 3, 0, 1, 0], rfl, rfl, rfl, by decide +kernel, rx_ty7⟩
theorem rx_in8 : ∀ w ∈ u_ws "ShipPower$PowerSet" rx_T8 13, w ∈ rx_bw := by
  intro w hw
  obtain ⟨k, hk, rfl⟩ := List.mem_map.mp hw
  have hk := List.mem_range.mp hk
  match k, hk with
  | 0, _ => exact rx_bw_t (rx_t1 (List.mem_of_getElem? (i := 152) rfl)) rfl
  | 1, _ => exact rx_bw_t (rx_t1 (List.mem_of_getElem? (i := 154) rfl)) rfl
  | 2, _ => exact rx_bw_t (rx_t1 (List.mem_of_getElem? (i := 156) rfl)) rfl
  | 3, _ => exact rx_bw_t (rx_t1 (List.mem_of_getElem? (i := 158) rfl)) rfl
  | 4, _ => exact rx_bw_t (rx_t1 (List.mem_of_getElem? (i := 160) rfl)) rfl
  | 5, _ => exact rx_bw_t (rx_t1 (List.mem_of_getElem? (i := 162) rfl)) rfl
  | 6, _ => exact rx_bw_t (rx_t1 (List.mem_of_getElem? (i := 164) rfl)) rfl
  | 7, _ => exact rx_bw_t (rx_t1 (List.mem_of_getElem? (i := 166) rfl)) rfl
  | 8, _ => exact rx_bw_t (rx_t1 (List.mem_of_getElem? (i := 168) rfl)) rfl
  | 9, _ => exact rx_bw_t (rx_t1 (List.mem_of_getElem? (i := 170) rfl)) rfl
  | 10, _ => exact rx_bw_t (rx_t1 (List.mem_of_getElem? (i := 172) rfl)) rfl
  | 11, _ => exact rx_bw_t (rx_t1 (List.mem_of_getElem? (i := 174) rfl)) rfl
  | 12, _ => exact rx_bw_t (rx_t1 (List.mem_of_getElem? (i := 176) rfl)) rfl
  | n + 13, hk => exact absurd hk (by omega)
theorem rx_nm8 : ∀ a, a < 13 → ∀ b, b < 13 → a ≠ b → (rx_T8 a).2.1 ≠ (rx_T8 b).2.1 := by decide +kernel
theorem rx_ty8 : ∀ k, k < 13 → parseFieldDescriptor (rx_T8 k).2.2.1 = some (rx_ft8.getD k .int) := by decide +kernel
theorem rx_c8 : rx_COk 8 ("ShipPower$PowerSet", rx_T8, 13) := ⟨rx_in8, rx_nm8, rx_bw_t (rx_t1 (List.mem_of_getElem? (i := 94) rfl)) rfl, rx_bw_t (rx_t1 (List.mem_of_getElem? (i := 5) rfl)) rfl, rx_ft8, [0, 0, 0, 0, 0, 0, 0, 0, 2, 0, 0, 0, 0], rfl, rfl, rfl, by decide +kernel, rx_ty8⟩
theorem rx_in9 : ∀ w ∈ u_ws "ShipPower$Protection" rx_T9 5, w ∈ rx_bw := by
  intro w hw
  obtain ⟨k, hk, rfl⟩ := List.mem_map.mp hw
  have hk := List.mem_range.mp hk
  match k, hk with
  | 0, _ => exact rx_bw_t (rx_t2 (List.mem_of_getElem? (i := 37) rfl)) rfl
  | 1, _ => exact rx_bw_t (rx_t2 (List.mem_of_getElem? (i := 39) rfl)) rfl
  | 2, _ => exact rx_bw_t (rx_t2 (List.mem_of_getElem? (i := 41) rfl)) rfl
  | 3, _ => exact rx_bw_t (rx_t2 (List.mem_of_getElem? (i := 43) rfl)) rfl
  | 4, _ => exact rx_bw_t (rx_t2 (List.mem_of_getElem? (i := 45) rfl)) rfl
  | n + 5, hk => exact absurd hk (by omega)
theorem rx_nm9 : ∀ a, a < 5 → ∀ b, b < 5 → a ≠ b → (rx_T9 a).2.1 ≠ (rx_T9 b).2.1 := by decide +kernel
theorem rx_ty9 : ∀ k, k < 5 → parseFieldDescriptor (rx_T9 k).2.2.1 = some (rx_ft9.getD k .int) := by decide +kernel
theorem rx_c9 : rx_COk 9 ("ShipPower$Protection", rx_T9, 5) := ⟨rx_in9, rx_nm9, rx_bw_t (rx_t2 (List.mem_of_getElem? (i := 26) rfl)) rfl, rx_bw_t (rx_t1 (List.mem_of_getElem? (i := 8) rfl)) rfl, rx_ft9, [3, 3, 1, 0, 0], rfl, rfl, rfl, by decide +kernel, rx_ty9⟩
theorem rx_in10 : ∀ w ∈ u_ws "ShipPower$Sharing" rx_T10 2, w ∈ rx_bw := by
  intro w hw
  obtain ⟨k, hk, rfl⟩ := List.mem_map.mp hw
  have hk := List.mem_range.mp hk
  match k, hk with
  | 0, _ => exact rx_bw_t (rx_t2 (List.mem_of_getElem? (i := 20) rfl)) rfl
  | 1, _ => exact rx_bw_t (rx_t2 (List.mem_of_getElem? (i := 22) rfl)) rfl
  | n + 2, hk => exact absurd hk (by omega)
theorem rx_nm10 : ∀ a, a < 2 → ∀ b, b < 2 → a ≠ b → (rx_T10 a).2.1 ≠ (rx_T10 b).2.1 := by decide +kernel
theorem rx_ty10 : ∀ k, k < 2 → parseFieldDescriptor (rx_T10 k).2.2.1 = some (rx_ft10.getD k .int) := by decide +kernel
theorem rx_c10 : rx_COk 10 ("ShipPower$Sharing", rx_T10, 2) := ⟨rx_in10, rx_nm10, rx_bw_t (rx_t2 (List.mem_of_getElem? (i := 13) rfl)) rfl, rx_bw_t (rx_t1 (List.mem_of_getElem? (i := 7) rfl)) rfl, rx_ft10, [3, 3], rfl, rfl, rfl, by decide +kernel, rx_ty10⟩
theorem rx_in11 : ∀ w ∈ u_ws "ShipPowerModel" rx_T11 44, w ∈ rx_bw := by
  intro w hw
  obtain ⟨k, hk, rfl⟩ := List.mem_map.mp hw
  have hk := List.mem_range.mp hk
  match k, hk with
  | 0, _ => exact rx_bw_t (rx_t5 (List.mem_of_getElem? (i := 154) rfl)) rfl
  | 1, _ => exact rx_bw_t (rx_t5 (List.mem_of_getElem? (i := 156) rfl)) rfl
  | 2, _ => exact rx_bw_t (rx_t5 (List.mem_of_getElem? (i := 158) rfl)) rfl
  | 3, _ => exact rx_bw_t (rx_t5 (List.mem_of_getElem? (i := 160) rfl)) rfl
  | 4, _ => exact rx_bw_t (rx_t5 (List.mem_of_getElem? (i := 162) rfl)) rfl
  | 5, _ => exact rx_bw_t (rx_t5 (List.mem_of_getElem? (i := 164) rfl)) rfl
  | 6, _ => exact rx_bw_t (rx_t5 (List.mem_of_getElem? (i := 166) rfl)) rfl
  | 7, _ => exact rx_bw_t (rx_t5 (List.mem_of_getElem? (i := 168) rfl)) rfl
  | 8, _ => exact rx_bw_t (rx_t5 (List.mem_of_getElem? (i := 170) rfl)) rfl
  | 9, _ => exact rx_bw_t (rx_t5 (List.mem_of_getElem? (i := 172) rfl)) rfl
  | 10, _ => exact rx_bw_t (rx_t5 (List.mem_of_getElem? (i := 174) rfl)) rfl
  | 11, _ => exact rx_bw_t (rx_t5 (List.mem_of_getElem? (i := 176) rfl)) rfl
  | 12, _ => exact rx_bw_t (rx_t5 (List.mem_of_getElem? (i := 178) rfl)) rfl
  | 13, _ => exact rx_bw_t (rx_t5 (List.mem_of_getElem? (i := 180) rfl)) rfl
  | 14, _ => exact rx_bw_t (rx_t5 (List.mem_of_getElem? (i := 182) rfl)) rfl
  | 15, _ => exact rx_bw_t (rx_t5 (List.mem_of_getElem? (i := 184) rfl)) rfl
  | 16, _ => exact rx_bw_t (rx_t5 (List.mem_of_getElem? (i := 186) rfl)) rfl
  | 17, _ => exact rx_bw_t (rx_t5 (List.mem_of_getElem? (i := 188) rfl)) rfl
  | 18, _ => exact rx_bw_t (rx_t5 (List.mem_of_getElem? (i := 190) rfl)) rfl
  | 19, _ => exact rx_bw_t (rx_t5 (List.mem_of_getElem? (i := 192) rfl)) rfl
  | 20, _ => exact rx_bw_t (rx_t5 (List.mem_of_getElem? (i := 194) rfl)) rfl
  | 21, _ => exact rx_bw_t (rx_t5 (List.mem_of_getElem? (i := 196) rfl)) rfl
  | 22, _ => exact rx_bw_t (rx_t5 (List.mem_of_getElem? (i := 198) rfl)) rfl
  | 23, _ => exact rx_bw_t (rx_t5 (List.mem_of_getElem? (i := 200) rfl)) rfl
  | 24, _ => exact rx_bw_t (rx_t5 (List.mem_of_getElem? (i := 202) rfl)) rfl
  | 25, _ => exact rx_bw_t (rx_t5 (List.mem_of_getElem? (i := 204) rfl)) rfl
  | 26, _ => exact rx_bw_t (rx_t5 (List.mem_of_getElem? (i := 206) rfl)) rfl
  | 27, _ => exact rx_bw_t (rx_t5 (List.mem_of_getElem? (i := 208) rfl)) rfl
  | 28, _ => exact rx_bw_t (rx_t5 (List.mem_of_getElem? (i := 210) rfl)) rfl
  | 29, _ => exact rx_bw_t (rx_t5 (List.mem_of_getElem? (i := 212) rfl)) rfl
  | 30, _ => exact rx_bw_t (rx_t5 (List.mem_of_getElem? (i := 214) rfl)) rfl
  | 31, _ => exact rx_bw_t (rx_t5 (List.mem_of_getElem? (i := 216) rfl)) rfl
  | 32, _ => exact rx_bw_t (rx_t5 (List.mem_of_getElem? (i := 218) rfl)) rfl
  | 33, _ => exact rx_bw_t (rx_t5 (List.mem_of_getElem? (i := 220) rfl)) rfl
  | 34, _ => exact rx_bw_t (rx_t5 (List.mem_of_getElem? (i := 222) rfl)) rfl
  | 35, _ => exact rx_bw_t (rx_t5 (List.mem_of_getElem? (i := 224) rfl)) rfl
  | 36, _ => exact rx_bw_t (rx_t5 (List.mem_of_getElem? (i := 226) rfl)) rfl
  | 37, _ => exact rx_bw_t (rx_t5 (List.mem_of_getElem? (i := 228) rfl)) rfl
  | 38, _ => exact rx_bw_t (rx_t5 (List.mem_of_getElem? (i := 230) rfl)) rfl
  | 39, _ => exact rx_bw_t (rx_t5 (List.mem_of_getElem? (i := 232) rfl)) rfl
  | 40, _ => exact rx_bw_t (rx_t5 (List.mem_of_getElem? (i := 234) rfl)) rfl
  | 41, _ => exact rx_bw_t (rx_t5 (List.mem_of_getElem? (i := 236) rfl)) rfl
  | 42, _ => exact rx_bw_t (rx_t5 (List.mem_of_getElem? (i := 238) rfl)) rfl
  | 43, _ => exact rx_bw_t (rx_t6 (List.mem_of_getElem? (i := 0) rfl)) rfl
  | n + 44, hk => exact absurd hk (by omega)
theorem rx_nm11 : ∀ a, a < 44 → ∀ b, b < 44 → a ≠ b → (rx_T11 a).2.1 ≠ (rx_T11 b).2.1 := by decide +kernel
theorem rx_ty11 : ∀ k, k < 44 → parseFieldDescriptor (rx_T11 k).2.2.1 = some (rx_ft11.getD k .int) := by decide +kernel
theorem rx_c11 : rx_COk 11 ("ShipPowerModel", rx_T11, 44) := ⟨rx_in11, rx_nm11, rx_bw_t (rx_t5 (List.mem_of_getElem? (i := 105) rfl)) rfl, rx_bw_t (rx_t1 (List.mem_of_getElem? (i := 11) rfl)) rfl, rx_ft11, [0, 0, 3, 3, 3, 3, 3, 3, 3, 3, 3, 3, 3, 3, 0, 1, 3, 3, 3, 3, 3, 0, 0, 3, 1, 0, 0, 3, 3, 3, 3, 3, 3, 1, 0, 0, 0, 0, 0, 0, 0, 3, 3, 3], rfl, rfl, rfl, by decide +kernel, rx_ty11⟩
theorem rx_cl_ok : ∀ (i : Nat) (q : vw_C), rx_cl[i]? = some q → rx_COk i q := by
  intro i q h
  match i, h with
  | 0, h => cases h; exact rx_c0
  | 1, h => cases h; exact rx_c1
  | 2, h => cases h; exact rx_c2
  | 3, h => cases h; exact rx_c3
  | 4, h => cases h; exact rx_c4
  | 5, h => cases h; exact rx_c5
  | 6, h => cases h; exact rx_c6
  | 7, h => cases h; exact rx_c7
  | 8, h => cases h; exact rx_c8
  | 9, h => cases h; exact rx_c9
  | 10, h => cases h; exact rx_c10
  | 11, h => cases h; exact rx_c11
  | n + 12, h => exact absurd h (by simp [rx_cl])
def rx_sn : List String := ["BUS_OF_SET", "RATING_OF_SET", "RESERVE_OF_MODE", "EVENT_OF_STATE"]
def rx_nm : List (String × Nat × MethodName) := [("ShipPower", 9, ⟨"ShipPower$Journal", "<init>", "()V"⟩), ("ShipPower$Coupling", 95, ⟨"ShipPower", "approach", "(III)I"⟩), ("ShipPower$Coupling", 102, ⟨"ShipPower", "turned", "(II)I"⟩), ("ShipPower$Sharing", 59, ⟨"ShipPower", "approach", "(III)I"⟩), ("ShipPower$Sharing", 66, ⟨"ShipPower", "turned", "(II)I"⟩)]
def rx_nf : List (String × Nat × String) := [("ShipPower$Manager", 18, "RESERVE_OF_MODE"), ("ShipPower$Plant", 84, "EVENT_OF_STATE"), ("ShipPower$PowerSet", 15, "BUS_OF_SET"), ("ShipPower$PowerSet", 22, "RATING_OF_SET")]
def rx_ao : List String := ["ShipPower$Consumer", "ShipPower$PowerSet"]
