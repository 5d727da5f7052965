/-! THE LITTLE MACHINE RUNS A METHOD -/
abbrev rx_R : Type := Option rx_V × rx_H × Nat × Nat
def rx_arg : List rx_V → rx_F
  | [] => []
  | .inr (.inl q) :: vs => some (.inr (.inl q)) :: none :: rx_arg vs
  | v :: vs => some v :: rx_arg vs
def rx_ini (as : List rx_V) (n : Nat) : rx_F := rx_arg as ++ List.replicate (n - (rx_arg as).length) none
noncomputable def rx_fl {α β : Type} (l : List α) : (List α → β) → β :=
  List.rec (motive := fun _ => (List α → β) → β) (fun k => k []) (fun a _ ih k => ih (fun t => k (a :: t))) l
theorem rx_fl_eq {α β : Type} {l : List α} : ∀ {k : List α → β}, rx_fl l k = k l := by
  induction l with
  | nil => intro k; rfl
  | cons a t ih => intro k; exact ih (k := fun t => k (a :: t))
def rx_ol (v : Option rx_V) (r : List rx_V) : List rx_V := match v with
  | none => r
  | some x => x :: r
/-- counters, only where something is new -/
def rx_cnt {β : Type} (c s dc ds : Nat) (k : Nat → Nat → β) : β := bif Nat.beq dc 0 && Nat.beq ds 0 then k c s else rx_fN (c + dc) fun a => rx_fN (s + ds) fun b => k a b
theorem rx_cnt_eq {β : Type} (c s dc ds : Nat) (k : Nat → Nat → β) : rx_cnt c s dc ds k = k (c + dc) (s + ds) := by
  unfold rx_cnt
  cases h : Nat.beq dc 0 && Nat.beq ds 0 with
  | true =>
    rw [Bool.and_eq_true] at h
    have h1 := Nat.eq_of_beq_eq_true h.1
    have h2 := Nat.eq_of_beq_eq_true h.2
    subst h1; subst h2; rfl
  | false => simp only [cond_false, rx_fN_eq]
abbrev rx_Orc : Type := Nat → rx_H → List rx_V → Option rx_R
/-- a run: what 'orc' knows of a call is taken as it says; all else is run -/
noncomputable def rx_ex (wr : Bool) (xM : List rx_MT) (orc : rx_Orc) (ro : List (List rx_V)) (n : Nat) : Bool → rx_Tab → Nat → rx_H → rx_F → List rx_V → Nat → Nat → Option rx_R :=
  Nat.rec (motive := fun _ => Bool → rx_Tab → Nat → rx_H → rx_F → List rx_V → Nat → Nat → Option rx_R) (fun _ _ _ _ _ _ _ _ => none)
    (fun _ ih tw tab pc h L st c s => Option.rec (motive := fun _ => Option rx_R) none (fun row => rx_step wr ro rx_dfs row pc h L st
      (fun pc' h' L' st' dc ds => rx_cnt c s dc ds fun c' s' => ih tw tab pc' h' L' st' c' s')
      (fun j as r => Option.rec (motive := fun _ => Option rx_R)
        (rx_get xM j fun mt => bif Nat.ble (rx_arg as).length mt.2.2.1 then rx_fl (rx_ini as mt.2.2.1) fun L0 => Option.rec (motive := fun _ => Option rx_R) none (fun res => match res with
          | (v, h', dc, ds) => rx_cnt c s dc ds fun c' s' => ih tw tab row.2.1 h' L (rx_ol v r) c' s') (ih false mt.2.2.2.2.2.1 0 h L0 [] 0 0) else none)
        (fun res => match res with
          | (v, h', dc, ds) => rx_cnt c s dc ds fun c' s' => ih tw tab row.2.1 h' L (rx_ol v r) c' s') (orc j h as))
      (fun v => some (v, h, c, s)) (fun x => bif tw then some (some (.inr (.inr (.inr (100000 + x)))), h, c, s) else none)) (tab pc)) n
theorem rx_ex_eq {wr : Bool} {xM : List rx_MT} {orc : rx_Orc} {ro : List (List rx_V)} {n : Nat} {tw : Bool} {tab : rx_Tab} {pc : Nat} {h : rx_H} {L : rx_F} {st : List rx_V} {c s : Nat} : rx_ex wr xM orc ro (n + 1) tw tab pc h L st c s = Option.rec (motive := fun _ => Option rx_R) none (fun row => rx_step wr ro rx_dfs row pc h L st
      (fun pc' h' L' st' dc ds => rx_cnt c s dc ds fun c' s' => rx_ex wr xM orc ro n tw tab pc' h' L' st' c' s')
      (fun j as r => Option.rec (motive := fun _ => Option rx_R)
        (rx_get xM j fun mt => bif Nat.ble (rx_arg as).length mt.2.2.1 then rx_fl (rx_ini as mt.2.2.1) fun L0 => Option.rec (motive := fun _ => Option rx_R) none (fun res => match res with
          | (v, h', dc, ds) => rx_cnt c s dc ds fun c' s' => rx_ex wr xM orc ro n tw tab row.2.1 h' L (rx_ol v r) c' s') (rx_ex wr xM orc ro n false mt.2.2.2.2.2.1 0 h L0 [] 0 0) else none)
        (fun res => match res with
          | (v, h', dc, ds) => rx_cnt c s dc ds fun c' s' => rx_ex wr xM orc ro n tw tab row.2.1 h' L (rx_ol v r) c' s') (orc j h as))
      (fun v => some (v, h, c, s)) (fun x => bif tw then some (some (.inr (.inr (.inr (100000 + x)))), h, c, s) else none)) (tab pc) := rfl
/-- a call, told without the forms that only make it quick -/
noncomputable def rx_cal (wr : Bool) (xM : List rx_MT) (orc : rx_Orc) (ro : List (List rx_V)) (n : Nat) (tw : Bool) (tab : rx_Tab) (np : Nat) (h : rx_H) (L : rx_F) (c s j : Nat) (as r : List rx_V) : Option rx_R :=
  Option.rec (motive := fun _ => Option rx_R)
    (rx_get xM j fun mt => bif Nat.ble (rx_arg as).length mt.2.2.1 then Option.rec (motive := fun _ => Option rx_R) none (fun res => rx_ex wr xM orc ro n tw tab np res.2.1 L (rx_ol res.1 r) (c + res.2.2.1) (s + res.2.2.2)) (rx_ex wr xM orc ro n false mt.2.2.2.2.2.1 0 h (rx_ini as mt.2.2.1) [] 0 0) else none)
    (fun res => rx_ex wr xM orc ro n tw tab np res.2.1 L (rx_ol res.1 r) (c + res.2.2.1) (s + res.2.2.2)) (orc j h as)
theorem rx_ex_succ {wr : Bool} {xM : List rx_MT} {orc : rx_Orc} {ro : List (List rx_V)} {n : Nat} {tw : Bool} {tab : rx_Tab} {pc : Nat} {h : rx_H} {L : rx_F} {st : List rx_V} {c s : Nat} {r0 : rx_R} (hs : rx_ex wr xM orc ro (n + 1) tw tab pc h L st c s = some r0) :
    ∃ row, tab pc = some row ∧ rx_step wr ro rx_dfs row pc h L st
      (fun pc' h' L' st' dc ds => rx_ex wr xM orc ro n tw tab pc' h' L' st' (c + dc) (s + ds))
      (fun j as r => rx_cal wr xM orc ro n tw tab row.2.1 h L c s j as r)
      (fun v => some (v, h, c, s)) (fun x => bif tw then some (some (.inr (.inr (.inr (100000 + x)))), h, c, s) else none) = some r0 := by
  rw [rx_ex_eq] at hs
  cases hr : tab pc with
  | none => rw [hr] at hs; cases hs
  | some row =>
    refine ⟨row, rfl, ?_⟩
    rw [hr] at hs
    simp only [rx_cnt_eq, rx_fl_eq] at hs
    exact hs
/-- a call's two ways: by what is known, or run -/
theorem rx_call_some {wr : Bool} {xM : List rx_MT} {orc : rx_Orc} {ro : List (List rx_V)} {n : Nat} {tw : Bool} {tab : rx_Tab} {np : Nat} {h : rx_H} {L : rx_F} {c s j : Nat} {as r : List rx_V} {r0 : rx_R} (hs : rx_cal wr xM orc ro n tw tab np h L c s j as r = some r0) :
    ∃ (v1 : Option rx_V) (h1 : rx_H) (dc ds : Nat), rx_ex wr xM orc ro n tw tab np h1 L (rx_ol v1 r) (c + dc) (s + ds) = some r0 ∧
      (orc j h as = some (v1, h1, dc, ds) ∨ ∃ mj, xM[j]? = some mj ∧ (rx_arg as).length ≤ mj.2.2.1 ∧ rx_ex wr xM orc ro n false mj.2.2.2.2.2.1 0 h (rx_ini as mj.2.2.1) [] 0 0 = some (v1, h1, dc, ds)) := by
  unfold rx_cal at hs
  cases ho : orc j h as with
  | some res =>
    rw [ho] at hs
    obtain ⟨v1, h1, dc, ds⟩ := res
    exact ⟨v1, h1, dc, ds, hs, Or.inl rfl⟩
  | none =>
    rw [ho] at hs
    obtain ⟨mj, g1, hs⟩ := rx_get_some hs
    obtain ⟨g2, hs⟩ := rx_bif hs
    cases hr : rx_ex wr xM orc ro n false mj.2.2.2.2.2.1 0 h (rx_ini as mj.2.2.1) [] 0 0 with
    | none => rw [hr] at hs; cases hs
    | some res =>
      rw [hr] at hs
      obtain ⟨v1, h1, dc, ds⟩ := res
      exact ⟨v1, h1, dc, ds, hs, Or.inr ⟨mj, g1, Nat.le_of_ble_eq_true g2, hr⟩⟩
theorem rx_ex_mono {wr : Bool} {xM : List rx_MT} {orc : rx_Orc} {ro : List (List rx_V)} : ∀ (n : Nat) {tw : Bool} {tab : rx_Tab} {pc : Nat} {h : rx_H} {L : rx_F} {st : List rx_V} {c s : Nat} {v : Option rx_V} {h' : rx_H} {mc ms : Nat}, rx_ex wr xM orc ro n tw tab pc h L st c s = some (v, h', mc, ms) → c ≤ mc ∧ s ≤ ms := by
  intro n
  induction n with
  | zero => intro tw tab pc h L st c s v h' mc ms hs; cases hs
  | succ n ih =>
    intro tw tab pc h L st c s v h' mc ms hs
    obtain ⟨row, -, hs⟩ := rx_ex_succ hs
    refine rx_step_any (fun pc' h' L' st' dc ds q => ?_) (fun j as r q => ?_) (fun v q => ?_) (fun c q => ?_) hs
    · have := ih q; omega
    · obtain ⟨v1, h1, dc, ds, q, -⟩ := rx_call_some q
      have := ih q
      omega
    · cases q; exact ⟨Nat.le_refl _, Nat.le_refl _⟩
    · obtain ⟨-, q⟩ := rx_bif q
      cases q; exact ⟨Nat.le_refl _, Nat.le_refl _⟩
/-! ITS CONTRACT -/
def rx_AA (ad : List Nat) (sz : Nat) : Nat → Prop := fun q => q ∈ ad ∨ sz ≤ q
/-- with wr = false nothing that was there before may change -/
def rx_AW (wr : Bool) (ad : List Nat) (sz : Nat) : Nat → Prop := rx_AA (bif wr then ad else []) sz
def rx_BW (wr : Bool) (ad : List Nat) (sz : Nat) : Nat → Prop := fun q => wr = false ∨ rx_AA ad sz q
theorem rx_BAW {wr : Bool} {ad : List Nat} {sz : Nat} (h : wr = true) : rx_BW wr ad sz = rx_AW wr ad sz := by
  subst h
  funext q
  exact propext ⟨fun z => z.elim (fun y => (by cases y)) id, Or.inr⟩
theorem rx_AB {wr : Bool} {ad : List Nat} {sz q : Nat} (h : rx_AA ad sz q) : rx_BW wr ad sz q := Or.inr h
theorem rx_AWA {wr : Bool} {ad : List Nat} {sz q : Nat} (h : rx_AW wr ad sz q) : rx_AA ad sz q := by
  cases wr with
  | true => exact h
  | false => exact h.elim (fun z => (by cases z)) Or.inr
def rx_Pre (wr : Bool) (D : va_G) (sa ad : List Nat) (ro : List (List rx_V)) (h : rx_H) (sz : Nat) (U : State) : Prop := U.heap.size = sz ∧ va_K D rx_cl [] U ∧ rx_NW U ∧ rx_RO U (rx_AW wr ad sz) sa ro ∧ rx_TW (rx_AW wr ad sz) U ∧ ∃ ws, rx_W U ad sa h ws ∧ va_P D rx_cl ws U.heap ∧ va_D (fun _ => True) ws
def rx_Pc (wr : Bool) (D : va_G) (sa ad : List Nat) (ro : List (List rx_V)) (h : rx_H) (as : List rx_V) (sz : Nat) : Array Value → State → Prop := fun v U => ∃ vs, v = List.toArray vs ∧ rx_S ad sa as vs ∧ rx_Pre wr D sa ad ro h sz U
def rx_O (ad sa : List Nat) (v : Option rx_V) (r : Option Value) : Prop := match v, r with
  | none, none => True
  | some v, some x => rx_G ad sa v x
  | _, _ => False
def rx_Qc (wr : Bool) (D : va_G) (sa ad : List Nat) (h' : rx_H) (v : Option rx_V) (sz : Nat) : Array Value → State → Outcome → State → Prop := fun _ st o t => ∃ (r : Option Value) (ad' : List Nat) (ws' : va_W), o = .returned r ∧ rx_O ad' sa v r ∧ ad <+: ad' ∧ rx_W t ad' sa h' ws' ∧ va_P D rx_cl ws' t.heap ∧ va_D (rx_BW wr ad sz) ws' ∧ va_F (rx_AW wr ad sz) st t
def rx_rm (mt : rx_MT) (mc ms : Nat) : Room := { frames := mt.2.2.2.2.2.2.1, cells := mc, slots := ms, locals := mt.2.2.2.2.2.2.2.1 }
theorem rx_NW_moved {u U : State} (h : u.vm = U.vm) (hN : rx_NW u) : rx_NW U :=
  ⟨fun q hq => va_Nw.same rfl h (hN.1 q hq), fun q hq => va_Nw.same rfl h (hN.2.1 q hq), fun C hC => va_AO.moved (by rw [h]; exact Vm.Alike.refl _) (hN.2.2 C hC)⟩
theorem rx_NW_warm {s U : State} (hW : s.WarmedH U.vm) (hN : rx_NW s) : rx_NW U :=
  ⟨fun q hq => va_Nw.warmM hW (hN.1 q hq), fun q hq => va_Nw.warmF hW (hN.2.1 q hq), fun C hC => va_AO.moved hW.alike (hN.2.2 C hC)⟩
theorem rx_RO_moved {u U : State} {A : Nat → Prop} {sa : List Nat} {ro : List (List rx_V)} (hvm : u.vm.Alike U.vm) (hh : U.heap = u.heap) (h : rx_RO u A sa ro) : rx_RO U A sa ro := by
  refine ⟨fun j l hj => ?_, fun j nm hj => ?_⟩
  · obtain ⟨a, xs, h1, h4, h5⟩ := h.1 j l hj
    exact ⟨a, xs, h1, by rw [hh]; exact h4.moved hvm, h5⟩
  · obtain ⟨a, h1, h2⟩ := h.2 j nm hj
    exact ⟨a, h1, by rw [hh]; exact h2.moved hvm⟩
theorem rx_blind {wr : Bool} {D : va_G} {sa ad : List Nat} {ro : List (List rx_V)} {h : rx_H} {as : List rx_V} {sz : Nat} : FrameBlind (rx_Pc wr D sa ad ro h as sz) := by
  intro a U g mk hP
  obtain ⟨vs, h1, h2, h3, h4, h5, h6, h0, ws, h7, h8, h9⟩ := hP
  exact ⟨vs, h1, h2, h3, va_K.moved (u := U) (U := U.calling g mk a) (Vm.Alike.refl U.vm) h4, rx_NW_moved (u := U) (U := U.calling g mk a) rfl h5, rx_RO_moved (u := U) (U := U.calling g mk a) (Vm.Alike.refl U.vm) rfl h6, rx_TW_go (u := U) (U := U.calling g mk a) (State.WarmedH.refl U) (fun _ _ _ => rfl) (fun _ h => h) h0, ws, rx_W_moved (u := U) (U := U.calling g mk a) (Vm.Alike.refl U.vm) h7, h8, h9⟩
