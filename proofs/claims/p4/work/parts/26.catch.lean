/-! A CALL THAT THROWS, CAUGHT BY THE CALLER's FIRST HANDLER (its class may still be cold) -/
section CATCH
theorem rx_goClass {E : CtlPost} {e : Env} {d : Bool} {acts : List Action} {s : State} {f : JFrame} {a : Addr} {Q : Handler → Pre} {x : ExceptionTableEntry} {t : List ExceptionTableEntry} {c : ClassId} {cell : Cell} {vm' : Vm} (hx : covers x f.pc = true) (h0 : x.catchType ≠ 0)
    (hg : (Jvm.resolveClass f.method.cls x.catchType).Gives e.toSetting s.vm (.ok c) vm') (hcell : s.heap[a]? = some cell) (hobj : ∀ k, cell.vm ≠ .statics k)
    (hk : ∃ k, vm'.classes[cell.cls]? = some k) (hc : ∃ k, vm'.classes[c]? = some k) (hfit : vm'.assignable cell.cls c = true) (hsz : vm'.classes.size ≤ s.vm.classes.size) :
    wp (findHandler.go f a (x :: t)) Q E e d acts s ↔ Q (.found x.handlerPc) d acts (s.setVm vm') := by
  simp only [covers] at hx
  have h12 : (VmOp.resolveClass f.method.cls x.catchType).answer e s.vm = .ok c ∧ (VmOp.resolveClass f.method.cls x.catchType).tables e s.vm = vm' := hg.op rfl
  obtain ⟨h1, h2⟩ := h12
  have h3 := VmOp.lands_eq h2 hsz
  simp [findHandler.go, hx, h0, h1, h3, hcell, hobj, hk, hc, hfit, VmOp.dirties, VmOp.acts]
theorem rx_goSkip {E : CtlPost} {e : Env} {d : Bool} {acts : List Action} {s : State} {f : JFrame} {a : Addr} {Q : Handler → Pre} {x : ExceptionTableEntry} {t : List ExceptionTableEntry} {c : ClassId} {cell : Cell} {vm' : Vm} (hx : covers x f.pc = true) (h0 : x.catchType ≠ 0)
    (hg : (Jvm.resolveClass f.method.cls x.catchType).Gives e.toSetting s.vm (.ok c) vm') (hcell : s.heap[a]? = some cell) (hobj : ∀ k, cell.vm ≠ .statics k)
    (hk : ∃ k, vm'.classes[cell.cls]? = some k) (hc : ∃ k, vm'.classes[c]? = some k) (hno : vm'.assignable cell.cls c = false) (hsz : vm'.classes.size ≤ s.vm.classes.size) :
    wp (findHandler.go f a (x :: t)) Q E e d acts s ↔ wp (findHandler.go f a t) Q E e d acts (s.setVm vm') := by
  simp only [covers] at hx
  have h12 : (VmOp.resolveClass f.method.cls x.catchType).answer e s.vm = .ok c ∧ (VmOp.resolveClass f.method.cls x.catchType).tables e s.vm = vm' := hg.op rfl
  obtain ⟨h1, h2⟩ := h12
  have h3 := VmOp.lands_eq h2 hsz
  simp [findHandler.go, hx, h0, h1, h3, hcell, hobj, hk, hc, hno, VmOp.dirties, VmOp.acts]
/-- what the search gives in the state 's', and the state that it leaves -/
def rx_Finds (e : Env) (s s' : State) (f : JFrame) (a : Addr) (h : Handler) : Prop :=
  ∀ (Q : Handler → Pre) (E : CtlPost) (d : Bool) (acts : List Action), wp (findHandler f a) Q E e d acts s ↔ Q h d acts s'
theorem rx_stepCatch {e : Env} {s s' : State} {a : Addr} {f : JFrame} {r : List Frame} {pc : Nat} (hfind : rx_Finds e s s' f a (.found pc)) :
    (stepThrowing e s a (.java f :: r)).Is (s'.setFrames (.java { f with pc := pc, stack := [.ref a] } :: r)) [] := by
  simp only [stepThrowing, searchFrame, vmDo]
  generalize hr : Sem.go _ e false [] s = res
  obtain ⟨as, rfl, ha⟩ := Sem.eq_ok_of hr (a := Handler.found pc) (s' := s') (acts' := []) (by simp [hfind _ _ _ _])
  exact ⟨rfl, ha⟩
theorem rx_caught {tb : Tables} {e : Env} {s target : State} {g : JFrame} {c : Code} {below : List Frame} {a : Addr} {vm' : Vm} (h : At s g.method c below) {pc : Nat} (hfind : rx_Finds e ((s.setTop g).pushFrame (.throwing a)) (((s.setVm vm').setTop g).pushFrame (.throwing a)) g a (.found pc))
    (hrest : Steps tb e below ((s.setVm vm').setTop { g with pc := pc, stack := [.ref a] }) target) :
    Steps tb e below ((s.setTop g).pushFrame (.throwing a)) target := by
  obtain ⟨hgo, hw⟩ := h.throwing a
  refine Steps.head hgo hw ?_
  rw [stepThread_throwing (frames_entered h.top _), (rx_stepCatch hfind).1]
  obtain ⟨g₀, hg⟩ := Option.isSome_iff_exists.mp h.top
  obtain ⟨r, hr⟩ := State.topJava?_eq_some.mp hg
  have hr' : (s.setVm vm').frames = .java g₀ :: r := hr
  rw [State.pushFrame, State.setFrames_setFrames, State.setTop_of_frames _ hr', State.setFrames_setFrames]
  rw [State.setTop_of_frames _ hr'] at hrest
  rw [hr]
  exact hrest
variable {p : Program} {l : Launch} {e : Env} {R : Room} {s : State} {m : MethodId} {args : Array Value} {below : List Frame} {meth : Method} {c : Code} {H : Heap} {locs : List Loc} {cells slots : Nat} {Q : State → Prop}
variable {y : MethodName} {bytes cc : ByteArray} {maxL nL n index : Nat} {ret : Option FieldType} {ws : List Cond} {rm : Room} {Pc : Array Value → State → Prop} {Ts : List Cond} {own C : String} {b : Addr} {As rest : List Value} {g : JFrame}
/-- invokevirtual of a method that throws a new X; the caller's first handler takes an X -/
theorem rx_catchV (S : CallFix p m c cc nL s args Ts own) {X : String} (hM : MetFree l y (headSpec ws rm) Pc (fun _ _ _ _ _ => True) (rx_Qt X)) (cw : CallW R s args own C index y bytes maxL ret ws rm 1 6 n) (hp : PreV s H C b Pc As)
    (hg : g.method = m) (hn : As.length = n) (hsize : g.locals.size = nL) (hstack : g.stack = As.reverse ++ .ref b :: rest) (hW : 2 * g.monitorRoom + (rest.map fun v => v.category).sum ≤ 8) (hdg : decode cc g.pc = .ok (.invokevirtual index, 3)) (hf : cells + 1 ≤ R.cells ∧ slots + 6 ≤ R.slots)
    {x0 : ExceptionTableEntry} {xt : List ExceptionTableEntry} (hex : c.exceptionTable.toList = x0 :: xt) (hcov : covers x0 g.pc = true) (hct : x0.catchType ≠ 0) (hcl : (Cond.classLink own x0.catchType X).before args s = true) (hca : (Cond.castable X X).before args s = true)
    (k : ∀ (a : Nat) (H' : Heap) (L : List Loc), (∀ q ∈ L, H.size ≤ q.base) → H.size ≤ H'.size → (∀ q : Nat, q < H.size → H'[q]? = H[q]?) → W p l e R s m args below meth c H' (locs ++ L) (cells + 1) (slots + 6) Q { g with pc := x0.handlerPc, stack := [.ref a] }) :
    W p l e R s m args below meth c H locs cells slots Q g := by
  obtain ⟨⟨hrc, hrs, hfr0, hlo0, hws, hcm, hcode, hini, hy, hlen, hl⟩, hinst, hsel⟩ := cw
  obtain ⟨hexec, hb, hml, hown, -⟩ := S
  obtain ⟨hbl, ⟨cellB, hcell, hobj, hcls⟩, hPc⟩ := hp
  intro T hT X0
  obtain ⟨mk, methM, hnamed, hmethM, hstM, habM⟩ := Cond.instanceMethod_spec hinst
  obtain ⟨methM', cM, hmethM', hcM, -, hlM, -, -, -, hsigM⟩ := Cond.code_spec hnamed hcode
  cases hmethM.symm.trans hmethM'
  obtain ⟨c2, r2, m2, q1, q2, q3, q4, kP, hkP, hkPi⟩ := Cond.selects_spec hsel
  cases hcls.symm.trans q1
  cases (State.methodFound?_of_named hnamed hy).symm.trans q2
  cases hnamed.symm.trans q3
  have hselP : selectMethod e.platform s.vm cellB.cls mk = .method mk := by rw [Launch.admits_selectMethod X0.admits]; exact q4
  obtain ⟨vm₁, X₁, hstep₁⟩ := X0.invokevirtual hexec hown hl hnamed hmethM hstM hkP hkPi hy (a := b) (cell := cellB) (by rw [hT]; exact hcell)
    (fun z h => by rw [h] at hobj; cases hobj) hselP hmethM habM hkP hkPi (g := g) hg (argsL := As) (rest := rest) (hn.trans (hlen _ hsigM)) hstack (by rw [hb]; exact hdg)
  generalize hU : T.setVm vm₁ = U at X₁
  have hUh : U.heap = H := by rw [← hU]; exact hT
  generalize hg1 : ({ g with stack := rest } : JFrame) = g1
  have hgm : g1.method = m := by rw [← hg1]; exact hg
  have hdg1 : decode c.code g1.pc = .ok (.invokevirtual index, 3) := by rw [← hg1, hb]; exact hdg
  have hsz1 : g1.locals.size = c.maxLocals := by rw [← hg1]; exact hsize.trans hml.symm
  have hnU : U.methodNamed? y = some mk := X₁.named hnamed
  obtain ⟨kY, hkY, -⟩ := className_of_methodNamed hnU
  have hkYi : kY.init = .initialized := by
    have z := X₁.warmed
    obtain ⟨k1, e1, e2⟩ := z.alike.2.2 _ _ hkP
    cases e1.symm.trans hkY
    have e9 : kP.init = .initialized := Cond.initialized_spec (findClass_of_methodNamed hnamed) hkP hini
    rw [e2]; exact e9
  have hA : At U g1.method c below := by rw [hgm]; exact X₁.here
  have hmU : U.vm.method? mk = some methM := by rw [X₁.warmed.alike.method?]; exact hmethM
  have happ : (headSpec ws rm).appliesLoose y e.platform (U.calling g1 mk (Value.ref b :: As).toArray) = true :=
    Spec.appliesLoose_calling (g := g1) hA hdg1 hnU hkY hkYi
      (X₁.room_calling (g := g1) (R' := rm) hsz1 hmU hcM hfr0 (by rw [hlM, ← hg1]; show 2 * g.monitorRoom + (rest.map fun v => v.category).sum + (maxL + 11) + rm.locals ≤ R.locals; omega) (by rw [hrc]; exact hf.1) (by rw [hrs]; exact hf.2)) (atoms_intro fun w hw => hws w hw _ _ X₁.warmed)
  obtain ⟨mid, hmid⟩ := hA.above
  have hfr : (U.setTop g1).frames = (.java g1 :: mid) ++ below := by rw [State.frames_setTop' g1 hA.top, hmid]; rfl
  obtain ⟨o, s₂, hsteps, -, hend, hq⟩ := Steps.callFree hM p X₁.admits X₁.cas X₁.clock (acts := []) hfr happ (hbl _ _ g1 mk (hPc U hUh X₁.warmed)) trivial
  have hq' : rx_Qt X (Value.ref b :: As).toArray (U.calling g1 mk (Value.ref b :: As).toArray) o s₂ := hq
  obtain ⟨a, ce, L, rfl, hce, hcx, hcv, hca0, hW₂, hL, e2, z2, z3, z4, z5, z6⟩ := hq'
  rw [State.frames_setTop' g1 hA.top] at hend
  have hf₂ : s₂.frames = .throwing a :: .java g1 :: U.frames.tail := hend
  have e3 : s₂ = ({ (U.calling g1 mk (Value.ref b :: As).toArray).setFrames s₂.frames with heap := s₂.heap, slotsUsed := s₂.slotsUsed } : State).setVm s₂.vm := by
    have : s₂ = ({ s₂ with vm := (U.calling g1 mk (Value.ref b :: As).toArray).vm } : State).setVm s₂.vm := rfl
    rw [e2] at this
    exact this
  have hW' : U.WarmedH s₂.vm := hW₂
  obtain ⟨g₀, hg0⟩ := Option.isSome_iff_exists.mp hA.top
  obtain ⟨r, hr⟩ := State.topJava?_eq_some.mp hg0
  have hs₂ : s₂ = ((({ U with heap := s₂.heap, slotsUsed := s₂.slotsUsed } : State).setVm s₂.vm).setTop g1).pushFrame (.throwing a) := by
    have hr' : (({ U with heap := s₂.heap, slotsUsed := s₂.slotsUsed } : State).setVm s₂.vm).frames = .java g₀ :: r := hr
    refine e3.trans ?_
    rw [hf₂, State.calling_eq hA.top, State.setFrames_setFrames, State.pushFrame, State.frames_setTop _ hr', State.setTop_of_frames _ hr', State.setFrames_setFrames, hr]
    rfl
  have hsame : U.sameButNew ({ U with heap := s₂.heap, slotsUsed := s₂.slotsUsed } : State) L 1 6 := by
    refine ⟨?_, z2, z3, z4, z5, z6⟩
    obtain ⟨t, ht, -⟩ := State.frames_cons hr
    show ({ U with heap := s₂.heap, slotsUsed := s₂.slotsUsed } : State) = { U.setFrames U.frames with heap := s₂.heap, slotsUsed := s₂.slotsUsed }
    rw [State.setFrames_self ht]
  have X₂ : Stand p l e R s m args below meth c (({ U with heap := s₂.heap, slotsUsed := s₂.slotsUsed } : State).setVm s₂.vm) (locs ++ L) (cells + 1) (slots + 6) :=
    ⟨X₁.admits, X₁.cas, X₁.clock, X₁.frames, X₁.room, X₁.hears, X₁.method, X₁.code, (X₁.here.setHeapUsed s₂.heap s₂.slotsUsed).setVm hW'.alike, X₁.tail, State.WarmedH.trans X₁.warmed hW', X₁.limits, X₁.bytes, X₁.same.trans (hsame.setVm s.vm)⟩
  have hpl : e.platform.magicAccessors = ({} : Platform).magicAccessors := by rw [X₁.admits.platform]
  obtain ⟨cX, hfcX, hclk⟩ := Cond.classLink_spec hown hcl e.platform hpl
  obtain ⟨hg₁, hwarm₁, hready₁⟩ := State.classEntry (e := e) X₂.warmed hclk
  have hsz₁ : (s₂.vm.noted m.cls x0.catchType (.cls cX)).classes.size ≤ s₂.vm.classes.size := by rw [Vm.size_noted]; exact Nat.le_refl _
  have hg₁ : (Jvm.resolveClass m.cls x0.catchType).Gives e.toSetting s₂.vm (.ok cX) (s₂.vm.noted m.cls x0.catchType (.cls cX)) := hg₁
  have hwarm₁ : s.WarmedH (s₂.vm.noted m.cls x0.catchType (.cls cX)) := hwarm₁
  generalize s₂.vm.noted m.cls x0.catchType (.cls cX) = vm₃ at hg₁ hwarm₁ hsz₁
  have X₃ := X₂.noted hwarm₁
  obtain ⟨cA, cB, f1, f2, f3⟩ := Cond.castable_spec hca
  cases f1.symm.trans f2
  cases f1.symm.trans hfcX
  have hcc : ce.cls = cX := by
    have z : U.vm.findClass X = some ce.cls := hcx
    rw [X₁.warmed.alike.findClass, f1] at z
    exact (Option.some.inj z).symm
  obtain ⟨kX, hkX⟩ := Vm.classAt_of_findClass f1
  obtain ⟨kX₃, hkX₃, -⟩ := hwarm₁.alike.2.2 _ _ hkX
  have hfit : vm₃.assignable ce.cls cX = true := by rw [hcc]; rw [hwarm₁.alike.assignable]; exact f3
  have hal₂ : s.vm.Alike s₂.vm := X₂.warmed.alike
  have hm₂ : s₂.vm.method? m = some meth := by rw [hal₂.method?]; exact X₁.method
  obtain ⟨t, a1, b1⟩ := k a s₂.heap L (fun q hq => by have := hL q hq; rw [← hUh]; exact this) (by rw [← hUh]; exact z2) (fun q hq => by
      rw [← hUh] at hq ⊢
      obtain ⟨c', w1, w2, w3, w4⟩ := z6 q _ (Array.getElem?_eq_getElem hq)
      have w1 : s₂.heap[q]? = some c' := w1
      rw [w1, Array.getElem?_eq_getElem hq]
      congr 1
      rw [w2]
      have : c'.slots = (U.heap[q]).slots := by
        apply Array.ext_getElem?
        intro i
        refine w4 i (fun hz => ?_)
        have := hL _ hz
        exact absurd (Nat.lt_of_lt_of_le hq this) (Nat.lt_irrefl _)
      have e9 : (U.calling g1 mk (Value.ref b :: As).toArray).heap[q] = U.heap[q] := rfl
      rw [this])
    ((({ U with heap := s₂.heap, slotsUsed := s₂.slotsUsed } : State).setVm s₂.vm).setVm vm₃) rfl X₃
  refine ⟨t, hstep₁ t (fun acts => ?_), b1⟩
  rw [doInvoke_state, hU, hg1]
  refine hsteps.trans ?_
  rw [hs₂]
  refine rx_caught (vm' := vm₃) (pc := x0.handlerPc) (by rw [hgm]; exact X₂.here) (fun Q E d acts => ?_) ?_
  · rw [W.findHandler_eq (meth := meth) (code := c) (by rw [hgm]; exact hm₂) X₁.code, hex]
    exact rx_goClass (by rw [← hg1]; exact hcov) hct (by rw [hgm]; exact hg₁) hce (by rw [hcv]; intro k h; cases h) ⟨kX₃, by rw [hcc]; exact hkX₃⟩ ⟨kX₃, hkX₃⟩ hfit hsz₁
  · rw [← hg1]; exact a1
/-- invokevirtual of a method that throws a new X; the caller's first handler wants a Y, which X is not; its second takes an X -/
theorem rx_catchV2 (S : CallFix p m c cc nL s args Ts own) {X : String} (hM : MetFree l y (headSpec ws rm) Pc (fun _ _ _ _ _ => True) (rx_Qt X)) (cw : CallW R s args own C index y bytes maxL ret ws rm 1 6 n) (hp : PreV s H C b Pc As)
    (hg : g.method = m) (hn : As.length = n) (hsize : g.locals.size = nL) (hstack : g.stack = As.reverse ++ .ref b :: rest) (hW : 2 * g.monitorRoom + (rest.map fun v => v.category).sum ≤ 8) (hdg : decode cc g.pc = .ok (.invokevirtual index, 3)) (hf : cells + 1 ≤ R.cells ∧ slots + 6 ≤ R.slots)
    {y0 x0 : ExceptionTableEntry} {xt : List ExceptionTableEntry} {Y : String} (hex : c.exceptionTable.toList = y0 :: x0 :: xt) (hcovY : covers y0 g.pc = true) (hctY : y0.catchType ≠ 0) (hclY : (Cond.classLink own y0.catchType Y).before args s = true) (hno : ∃ (a b : ClassId), s.vm.findClass X = some a ∧ s.vm.findClass Y = some b ∧ s.vm.assignable a b = false) (hcov : covers x0 g.pc = true) (hct : x0.catchType ≠ 0) (hcl : (Cond.classLink own x0.catchType X).before args s = true) (hca : (Cond.castable X X).before args s = true)
    (k : ∀ (a : Nat) (H' : Heap) (L : List Loc), (∀ q ∈ L, H.size ≤ q.base) → H.size ≤ H'.size → (∀ q : Nat, q < H.size → H'[q]? = H[q]?) → W p l e R s m args below meth c H' (locs ++ L) (cells + 1) (slots + 6) Q { g with pc := x0.handlerPc, stack := [.ref a] }) :
    W p l e R s m args below meth c H locs cells slots Q g := by
  obtain ⟨⟨hrc, hrs, hfr0, hlo0, hws, hcm, hcode, hini, hy, hlen, hl⟩, hinst, hsel⟩ := cw
  obtain ⟨hexec, hb, hml, hown, -⟩ := S
  obtain ⟨hbl, ⟨cellB, hcell, hobj, hcls⟩, hPc⟩ := hp
  intro T hT X0
  obtain ⟨mk, methM, hnamed, hmethM, hstM, habM⟩ := Cond.instanceMethod_spec hinst
  obtain ⟨methM', cM, hmethM', hcM, -, hlM, -, -, -, hsigM⟩ := Cond.code_spec hnamed hcode
  cases hmethM.symm.trans hmethM'
  obtain ⟨c2, r2, m2, q1, q2, q3, q4, kP, hkP, hkPi⟩ := Cond.selects_spec hsel
  cases hcls.symm.trans q1
  cases (State.methodFound?_of_named hnamed hy).symm.trans q2
  cases hnamed.symm.trans q3
  have hselP : selectMethod e.platform s.vm cellB.cls mk = .method mk := by rw [Launch.admits_selectMethod X0.admits]; exact q4
  obtain ⟨vm₁, X₁, hstep₁⟩ := X0.invokevirtual hexec hown hl hnamed hmethM hstM hkP hkPi hy (a := b) (cell := cellB) (by rw [hT]; exact hcell)
    (fun z h => by rw [h] at hobj; cases hobj) hselP hmethM habM hkP hkPi (g := g) hg (argsL := As) (rest := rest) (hn.trans (hlen _ hsigM)) hstack (by rw [hb]; exact hdg)
  generalize hU : T.setVm vm₁ = U at X₁
  have hUh : U.heap = H := by rw [← hU]; exact hT
  generalize hg1 : ({ g with stack := rest } : JFrame) = g1
  have hgm : g1.method = m := by rw [← hg1]; exact hg
  have hdg1 : decode c.code g1.pc = .ok (.invokevirtual index, 3) := by rw [← hg1, hb]; exact hdg
  have hsz1 : g1.locals.size = c.maxLocals := by rw [← hg1]; exact hsize.trans hml.symm
  have hnU : U.methodNamed? y = some mk := X₁.named hnamed
  obtain ⟨kY, hkY, -⟩ := className_of_methodNamed hnU
  have hkYi : kY.init = .initialized := by
    have z := X₁.warmed
    obtain ⟨k1, e1, e2⟩ := z.alike.2.2 _ _ hkP
    cases e1.symm.trans hkY
    have e9 : kP.init = .initialized := Cond.initialized_spec (findClass_of_methodNamed hnamed) hkP hini
    rw [e2]; exact e9
  have hA : At U g1.method c below := by rw [hgm]; exact X₁.here
  have hmU : U.vm.method? mk = some methM := by rw [X₁.warmed.alike.method?]; exact hmethM
  have happ : (headSpec ws rm).appliesLoose y e.platform (U.calling g1 mk (Value.ref b :: As).toArray) = true :=
    Spec.appliesLoose_calling (g := g1) hA hdg1 hnU hkY hkYi
      (X₁.room_calling (g := g1) (R' := rm) hsz1 hmU hcM hfr0 (by rw [hlM, ← hg1]; show 2 * g.monitorRoom + (rest.map fun v => v.category).sum + (maxL + 11) + rm.locals ≤ R.locals; omega) (by rw [hrc]; exact hf.1) (by rw [hrs]; exact hf.2)) (atoms_intro fun w hw => hws w hw _ _ X₁.warmed)
  obtain ⟨mid, hmid⟩ := hA.above
  have hfr : (U.setTop g1).frames = (.java g1 :: mid) ++ below := by rw [State.frames_setTop' g1 hA.top, hmid]; rfl
  obtain ⟨o, s₂, hsteps, -, hend, hq⟩ := Steps.callFree hM p X₁.admits X₁.cas X₁.clock (acts := []) hfr happ (hbl _ _ g1 mk (hPc U hUh X₁.warmed)) trivial
  have hq' : rx_Qt X (Value.ref b :: As).toArray (U.calling g1 mk (Value.ref b :: As).toArray) o s₂ := hq
  obtain ⟨a, ce, L, rfl, hce, hcx, hcv, hca0, hW₂, hL, e2, z2, z3, z4, z5, z6⟩ := hq'
  rw [State.frames_setTop' g1 hA.top] at hend
  have hf₂ : s₂.frames = .throwing a :: .java g1 :: U.frames.tail := hend
  have e3 : s₂ = ({ (U.calling g1 mk (Value.ref b :: As).toArray).setFrames s₂.frames with heap := s₂.heap, slotsUsed := s₂.slotsUsed } : State).setVm s₂.vm := by
    have : s₂ = ({ s₂ with vm := (U.calling g1 mk (Value.ref b :: As).toArray).vm } : State).setVm s₂.vm := rfl
    rw [e2] at this
    exact this
  have hW' : U.WarmedH s₂.vm := hW₂
  obtain ⟨g₀, hg0⟩ := Option.isSome_iff_exists.mp hA.top
  obtain ⟨r, hr⟩ := State.topJava?_eq_some.mp hg0
  have hs₂ : s₂ = ((({ U with heap := s₂.heap, slotsUsed := s₂.slotsUsed } : State).setVm s₂.vm).setTop g1).pushFrame (.throwing a) := by
    have hr' : (({ U with heap := s₂.heap, slotsUsed := s₂.slotsUsed } : State).setVm s₂.vm).frames = .java g₀ :: r := hr
    refine e3.trans ?_
    rw [hf₂, State.calling_eq hA.top, State.setFrames_setFrames, State.pushFrame, State.frames_setTop _ hr', State.setTop_of_frames _ hr', State.setFrames_setFrames, hr]
    rfl
  have hsame : U.sameButNew ({ U with heap := s₂.heap, slotsUsed := s₂.slotsUsed } : State) L 1 6 := by
    refine ⟨?_, z2, z3, z4, z5, z6⟩
    obtain ⟨t, ht, -⟩ := State.frames_cons hr
    show ({ U with heap := s₂.heap, slotsUsed := s₂.slotsUsed } : State) = { U.setFrames U.frames with heap := s₂.heap, slotsUsed := s₂.slotsUsed }
    rw [State.setFrames_self ht]
  have X₂ : Stand p l e R s m args below meth c (({ U with heap := s₂.heap, slotsUsed := s₂.slotsUsed } : State).setVm s₂.vm) (locs ++ L) (cells + 1) (slots + 6) :=
    ⟨X₁.admits, X₁.cas, X₁.clock, X₁.frames, X₁.room, X₁.hears, X₁.method, X₁.code, (X₁.here.setHeapUsed s₂.heap s₂.slotsUsed).setVm hW'.alike, X₁.tail, State.WarmedH.trans X₁.warmed hW', X₁.limits, X₁.bytes, X₁.same.trans (hsame.setVm s.vm)⟩
  have hpl : e.platform.magicAccessors = ({} : Platform).magicAccessors := by rw [X₁.admits.platform]
  obtain ⟨cY, hfcY, hclkY⟩ := Cond.classLink_spec hown hclY e.platform hpl
  obtain ⟨hgY, hwarmY, -⟩ := State.classEntry (e := e) X₂.warmed hclkY
  have hszY : (s₂.vm.noted m.cls y0.catchType (.cls cY)).classes.size ≤ s₂.vm.classes.size := by rw [Vm.size_noted]; exact Nat.le_refl _
  have hgY : (Jvm.resolveClass m.cls y0.catchType).Gives e.toSetting s₂.vm (.ok cY) (s₂.vm.noted m.cls y0.catchType (.cls cY)) := hgY
  have hwarmY : s.WarmedH (s₂.vm.noted m.cls y0.catchType (.cls cY)) := hwarmY
  generalize s₂.vm.noted m.cls y0.catchType (.cls cY) = vmY at hgY hwarmY hszY
  have XY := X₂.noted hwarmY
  obtain ⟨cX, hfcX, hclk⟩ := Cond.classLink_spec hown hcl e.platform hpl
  obtain ⟨hg₁, hwarm₁, hready₁⟩ := State.classEntry (e := e) XY.warmed hclk
  have hsz₁ : (vmY.noted m.cls x0.catchType (.cls cX)).classes.size ≤ vmY.classes.size := by rw [Vm.size_noted]; exact Nat.le_refl _
  have hg₁ : (Jvm.resolveClass m.cls x0.catchType).Gives e.toSetting vmY (.ok cX) (vmY.noted m.cls x0.catchType (.cls cX)) := hg₁
  have hwarm₁ : s.WarmedH (vmY.noted m.cls x0.catchType (.cls cX)) := hwarm₁
  generalize vmY.noted m.cls x0.catchType (.cls cX) = vm₃ at hg₁ hwarm₁ hsz₁
  have X₃ := XY.noted hwarm₁
  obtain ⟨cA, cB, f1, f2, f3⟩ := Cond.castable_spec hca
  cases f1.symm.trans f2
  cases f1.symm.trans hfcX
  have hcc : ce.cls = cX := by
    have z : U.vm.findClass X = some ce.cls := hcx
    rw [X₁.warmed.alike.findClass, f1] at z
    exact (Option.some.inj z).symm
  obtain ⟨kX, hkX⟩ := Vm.classAt_of_findClass f1
  obtain ⟨kX₃, hkX₃, -⟩ := hwarm₁.alike.2.2 _ _ hkX
  have hfit : vm₃.assignable ce.cls cX = true := by rw [hcc]; rw [hwarm₁.alike.assignable]; exact f3
  obtain ⟨nA, nB, n1, n2, n3⟩ := hno
  cases n1.symm.trans f1
  cases n2.symm.trans hfcY
  obtain ⟨kY0, hkY0⟩ := Vm.classAt_of_findClass n2
  obtain ⟨kYY, hkYY, -⟩ := hwarmY.alike.2.2 _ _ hkY0
  obtain ⟨kXY, hkXY, -⟩ := hwarmY.alike.2.2 _ _ hkX
  have hnoY : vmY.assignable ce.cls cY = false := by rw [hcc]; rw [hwarmY.alike.assignable]; exact n3
  have hal₂ : s.vm.Alike s₂.vm := X₂.warmed.alike
  have hm₂ : s₂.vm.method? m = some meth := by rw [hal₂.method?]; exact X₁.method
  obtain ⟨t, a1, b1⟩ := k a s₂.heap L (fun q hq => by have := hL q hq; rw [← hUh]; exact this) (by rw [← hUh]; exact z2) (fun q hq => by
      rw [← hUh] at hq ⊢
      obtain ⟨c', w1, w2, w3, w4⟩ := z6 q _ (Array.getElem?_eq_getElem hq)
      have w1 : s₂.heap[q]? = some c' := w1
      rw [w1, Array.getElem?_eq_getElem hq]
      congr 1
      rw [w2]
      have : c'.slots = (U.heap[q]).slots := by
        apply Array.ext_getElem?
        intro i
        refine w4 i (fun hz => ?_)
        have := hL _ hz
        exact absurd (Nat.lt_of_lt_of_le hq this) (Nat.lt_irrefl _)
      have e9 : (U.calling g1 mk (Value.ref b :: As).toArray).heap[q] = U.heap[q] := rfl
      rw [this])
    (((({ U with heap := s₂.heap, slotsUsed := s₂.slotsUsed } : State).setVm s₂.vm).setVm vmY).setVm vm₃) rfl X₃
  refine ⟨t, hstep₁ t (fun acts => ?_), b1⟩
  rw [doInvoke_state, hU, hg1]
  refine hsteps.trans ?_
  rw [hs₂]
  refine rx_caught (vm' := vm₃) (pc := x0.handlerPc) (by rw [hgm]; exact X₂.here) (fun Q E d acts => ?_) ?_
  · rw [W.findHandler_eq (meth := meth) (code := c) (by rw [hgm]; exact hm₂) X₁.code, hex]
    refine Iff.trans (rx_goSkip (vm' := vmY) (f := g1) (by rw [← hg1]; exact hcovY) hctY (by rw [hgm]; exact hgY) hce (by rw [hcv]; intro k h; cases h) ⟨kXY, by rw [hcc]; exact hkXY⟩ ⟨kYY, hkYY⟩ hnoY hszY) ?_
    exact rx_goClass (by rw [← hg1]; exact hcov) hct (by rw [hgm]; exact hg₁) hce (by rw [hcv]; intro k h; cases h) ⟨kX₃, by rw [hcc]; exact hkX₃⟩ ⟨kX₃, hkX₃⟩ hfit hsz₁
  · rw [← hg1]; exact a1
end CATCH
