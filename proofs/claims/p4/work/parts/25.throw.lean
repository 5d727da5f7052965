/-! A METHOD THAT THROWS A NEW EXCEPTION OF ITS OWN, nothing changed before -/
/-- a place where a method throws: new, dup, ldc, the constructor, athrow -/
def rx_Site (mt : rx_MT) (pc x : Nat) : Prop := ∃ (i k ic : Nat) (X tx : String), rx_xn[x]? = some X ∧ decode mt.2.1 pc = .ok (.new i, 3) ∧ decode mt.2.1 (pc + 3) = .ok (.dup, 1) ∧ decode mt.2.1 (pc + 4) = .ok (.ldc k, 2) ∧ decode mt.2.1 (pc + 6) = .ok (.invokespecial ic, 3) ∧ decode mt.2.1 (pc + 9) = .ok (.athrow, 1) ∧
  Jvm.Cond.classLink mt.2.2.2.2.1 i X ∈ rx_bw ∧ Jvm.Cond.instantiable X 6 ∈ rx_bw ∧ Jvm.Cond.initialized X ∈ rx_bw ∧ (mt.2.2.2.2.1, k, tx) ∈ rx_st ∧ Bundle.fit X = true ∧
  ∀ a ∈ Bundle.ownAtoms mt.2.2.2.2.1 ic X rx_sup, a ∈ rx_bw ∨ a ∈ rx_tw ∨ a = .isRef (.static Bundle.tN "UNASSIGNED_STACK" Bundle.steD) ∨ a = .isRef (.static Bundle.tN "SUPPRESSED_SENTINEL" Bundle.listD) ∨ a = .laysStatic Bundle.tN "UNASSIGNED_STACK" Bundle.steD ∨ a = .laysStatic Bundle.tN "SUPPRESSED_SENTINEL" Bundle.listD
def rx_Qt (X : String) : Array Value → State → Outcome → State → Prop := fun _ st o t => ∃ (a : Nat) (ce : Cell) (L : List Loc), o = .threw a ∧ t.heap[a]? = some ce ∧ st.vm.findClass X = some ce.cls ∧ ce.vm = .none ∧ st.heap.size ≤ a ∧ st.WarmedH t.vm ∧ (∀ q ∈ L, st.heap.size ≤ q.base) ∧ st.sameButNew ({ t with vm := st.vm } : State) L 1 6
theorem rx_tw_tab : ∀ w ∈ rx_tw, w.onTables = true := by decide +kernel
theorem rx_throwW {p : Program} {l : Launch} {e : Env} {R : Room} {s : State} {m : MethodId} {args : Array Value} {below : List Frame} {meth : Method} {c : Code} {D : va_G} {sa ad0 : List Nat} {ro : List (List rx_V)} {mt : rx_MT} (C : rx_Cx p s m args meth c D (rx_AW false ad0 s.heap.size) (rx_BW false ad0 s.heap.size) false sa ro mt)
    (hT : rx_TW (rx_AW false ad0 s.heap.size) s) (htr : e.platform.stackTraces = false) (hex : c.exceptionTable.toList = []) {pc x : Nat} {X : String} (hsite : rx_Site mt pc x) (hX : rx_xn[x]? = some X) (hR : 6 ≤ R.frames ∧ 100 ≤ R.locals ∧ 1 ≤ R.cells ∧ 6 ≤ R.slots) {h : rx_H} {L : rx_F} {st : List rx_V} (hcat : rx_cats st ≤ 8) :
    rx_Go p l e R s m args below meth c (fun t => ∃ o, t.status = .running ∧ Ended t below o ∧ rx_Qt X args s o t) D (rx_AW false ad0 s.heap.size) (rx_BW false ad0 s.heap.size) sa ad0 mt pc h L st 0 0 := by
  obtain ⟨i, k, ic, X', tx, g0, d0, d3, d4, d6, d9, w1, w2, w3, w4, w5, w6⟩ := hsite
  cases g0.symm.trans hX
  obtain ⟨q0, hq0⟩ := hT.2.2.1 _ w4
  intro ad ws H locs ls vs a1 a2 a3 a4 a5 a6 a7
  have ecat := rx_S_cats a7
  refine W.newc (g := F0 m pc ls vs) C.1 C.2.1 C.2.2.2.1 (C.word w1) (C.word w2) (C.word w3) rfl d0 (by omega) (by omega) (fun cC kC f1 f2 f3 f4 => ?_)
  refine lv_dup (pc := pc + 3) C.1 C.2.1 d3 rfl ?_
  refine va_ldcS (pc := pc + 4) C.1 C.2.1 C.2.2.2.1 hq0 d4 ?_
  intro T hT0 Y
  have hat : ∀ a ∈ Bundle.ownAtoms mt.2.2.2.2.1 ic X rx_sup, a.before args s = true := by
    intro a ha
    rcases w6 a ha with z | z | z | z | z | z
    · exact C.word z
    · exact va_Nw.use (rx_tw_tab a z) (hT.1 a z)
    · rw [z]; exact rx_LS_ref hT.2.1.1
    · rw [z]; exact rx_LS_ref hT.2.1.2
    · rw [z]; exact rx_LS_lays hT.2.1.1
    · rw [z]; exact rx_LS_lays hT.2.1.2
  have hnewl : ∀ z ∈ locs, s.heap.size ≤ z.base := fun z hz => by
    rcases a5.2.2 z hz with y | y
    · cases y
    · exact y
  have hcell : T.heap[H.size]? = some (freshCell cC kC) := by rw [hT0, Array.getElem?_push_size]
  have hsz : ls.size = c.maxLocals := by
    obtain ⟨l0, z1, -⟩ := a6
    rw [C.2.2.1]; exact z1.1
  obtain ⟨U, st1, st2, st3, st4, st5, ce, st6, st7⟩ := Y.ctorThrowS C.1 htr C.2.2.2.1 w5 (names := rx_sup) (by decide) hat (fun z hz cell hc => by
      have h1 := hnewl z hz
      have h2 := (Array.getElem?_eq_some_iff.mp hc).1
      omega) (a := H.size) f1 f2 hcell a5.1 (msg := .ref q0) rfl (g := F0 m (pc + 6) ls (.ref q0 :: .ref H.size :: .ref H.size :: vs)) rfl hsz rfl rfl (rest := vs) rfl (by rw [C.2.1]; exact d6) (by rw [C.2.1]; exact d9) (by rw [hex]; intro z hz; cases hz) (by show 2 + 3 < R.frames; omega) (by
      show 2 * 0 + (1 + (vs.map fun v => v.category).sum) + (13 * (2 + 1) + 42) ≤ R.locals
      rw [ecat]; omega) (hlocks := C.2.2.2.2.2.2.1)
  exact ⟨U, st1, .threw H.size, st2, st3, H.size, ce, locs, rfl, st6, st7.cls, st7.vm, a5.1, st4, hnewl, st5⟩
/-- the whole method: a run that ends at such a place -/
def rx_rt (mt : rx_MT) : Room := { frames := mt.2.2.2.2.2.2.1, cells := 1, slots := 6, locals := mt.2.2.2.2.2.2.2.1 }
theorem rx_thrown {xM : List rx_MT} {orc : rx_Orc} {ro : List (List rx_V)} (l : Launch) (hfl : l.flags = pinnedFlags ++ [noTraceFlag]) {n : Nat} (hF : rx_FF false xM orc ro l n) {mt : rx_MT} (ok : rx_MOk xM mt) (hret : mt.2.2.2.1 = some .int) (hR : 6 ≤ mt.2.2.2.2.2.2.1 ∧ 100 ≤ mt.2.2.2.2.2.2.2.1)
    (hsite : ∀ pc row, mt.2.2.2.2.2.1 pc = some row → row.2.2.2.1 = 15 → rx_Site mt pc row.2.2.2.2.1) {x : Nat} {X : String} (hX : rx_xn[x]? = some X) {h : rx_H} {as : List rx_V} {h' : rx_H} (hlen : (rx_arg as).length ≤ mt.2.2.1) (hr : rx_ex false xM orc ro n true mt.2.2.2.2.2.1 0 h (rx_ini as mt.2.2.1) [] 0 0 = some (some (.inr (.inr (.inr (100000 + x)))), h', 0, 0)) (D : va_G) (sa ad : List Nat) (sz : Nat) :
    MetFree l mt.1 (headSpec (rx_ws mt) (rx_rt mt)) (rx_Pc false D sa ad ro h as sz) (fun _ _ _ _ _ => True) (rx_Qt X) := by
  have hcw : ∀ (args : Array Value) (s : State), (headSpec (rx_ws mt) (rx_rt mt)).pre.before args s = true → (Cond.code mt.1 mt.2.1 mt.2.2.1 mt.2.2.2.1).before args s = true := fun args s h => atoms_spec (ws := rx_ws mt) h _ List.mem_cons_self
  refine MetFree.of_bodyS (code := mt.2.1) (maxLocals := mt.2.2.1) (ret := mt.2.2.2.1) ok.2.2 ?_ ?_
  · intro args s m h hn
    obtain ⟨meth, c, h1, h2, h3, h4, h5, h6, -, -⟩ := Cond.code_spec hn (hcw args s h)
    exact ⟨meth, c, h1, h2, h3, h4, h5, h6⟩
  · intro p e s m args below meth c s₁ B hml hv _
    obtain ⟨vs, rfl, hS, rfl, hK, hN, hRO, hTW, ws, hW, hP, hD⟩ := hv
    have htr := Launch.traces_off hfl B.admits
    have hh0 : s₁.heap = s.heap := by rw [B.state]; rfl
    obtain ⟨meth', c', z1, z2, -, -, -, -, z3, -⟩ := Cond.code_spec B.named (hcw _ _ B.pre)
    have hcc : c' = c := by
      cases B.method.symm.trans z1
      exact Option.some.inj (z2.symm.trans (Stand.of_body B).code)
    subst hcc
    have hex : c'.exceptionTable.toList = [] := by
      have h0 : c'.exceptionTable.size = 0 := by simpa [Array.isEmpty] using z3
      exact List.eq_nil_of_length_eq_zero (by simpa using h0)
    have C : rx_Cx p s m vs.toArray meth c' D (rx_AW false ad s.heap.size) (rx_BW false ad s.heap.size) false sa ro mt := ⟨B.exec, B.bytes, hml, by rw [ok.2.1]; exact findClass_of_methodNamed B.named, fun w hw => atoms_spec (ws := rx_ws mt) B.pre w (List.mem_cons_of_mem _ hw), B.returns, B.notSynchronized, (name_of_methodNamed B.named B.method).1, hK, fun q h => Or.inr h, hRO, hN, rx_BAW, hTW⟩
    have hl := lv_entry vs (n := mt.2.2.1) (by rw [rx_sl_len hS]; exact hlen)
    have key : W p l e (rx_rt mt) s m vs.toArray below meth c' s.heap [] 0 0 (fun t => ∃ o, t.status = .running ∧ Ended t below o ∧ rx_Qt X vs.toArray s o t) (entryFrame m vs.toArray mt.2.2.1) := by
      rw [lg_entry_eq]
      generalize (lg_sl vs ++ List.replicate (mt.2.2.1 - (lg_sl vs).length) Slot.unset).toArray = ls at hl ⊢
      refine hF p e _ s m vs.toArray below meth c' _ D sa ad mt true _ h' 0 0 C ok ⟨rfl, rfl⟩ ⟨Nat.zero_le _, Nat.zero_le _⟩ ?_ 0 h _ [] 0 0 hr ad ws s.heap [] ls [] (List.prefix_refl _) hW hP (hD.weaken (fun _ _ _ _ => Or.inl rfl)) va_S.rf (rx_ini_L hS hlen hl) trivial
      intro pc row L st hrow hrv
      have rok := ok.1 pc row hrow
      obtain ⟨ins, np, tg, K⟩ := row
      rcases hrv with ⟨q, hi, hst, hv, hb⟩ | ⟨q, hi, hst, hv⟩ | ⟨q, hi, hst, hv, -⟩ | ⟨hi, hst, hv⟩ | ⟨-, i, hi, hK15, h8, hv⟩
      · cases hv
      · cases hv
      · cases hi
        obtain ⟨nm, e1⟩ := rok.2.2
        rw [hret] at e1
        cases e1
      · cases hv
      · have ex : x = K.2.1 := by
          have := Option.some.inj hv
          have := Sum.inr.inj (Sum.inr.inj (Sum.inr.inj this))
          have h9 : 100000 + x = 100000 + K.2.1 := this
          omega
        exact rx_throwW C hTW htr hex (hsite pc _ hrow hK15) (by rw [← ex]; exact hX) ⟨hR.1, hR.2, Nat.le_refl _, Nat.le_refl _⟩ h8
    obtain ⟨t, a1, o, b1, b2, b3⟩ := key s₁ hh0 (Stand.of_body B)
    exact ⟨t, o, a1, b1, b2, b3⟩
