/-! THE CALL OF A HELPER -/
section RUNSW
variable {p : Program} {l : Launch} {e : Env} {R : Room} {s : State} {m : MethodId} {args : Array Value} {below : List Frame} {meth : Method} {c : Code} {H : Heap} {locs : List Loc} {cells slots : Nat} {Q : State → Prop}
variable {y : MethodName} {bytes cc : ByteArray} {maxL nL mc ms n index : Nat} {ret : Option FieldType} {wl : List Cond} {rm : Room} {Pc : Array Value → State → Prop} {Qc : Array Value → State → Outcome → State → Prop} {free : Addr → Prop} {Ts : List Cond} {own : String} {As rest : List Value} {g : JFrame} {hh : List (Nat × Nat × Nat × Nat)}
theorem rx_runSW (S : CallFix p m c cc nL s args Ts own) (hM : Met l y wl rm Pc Qc mc ms free) (hG : GoodIn Ts wl) (hc : Cond.codeWith y bytes maxL ret hh ∈ wl) (hrc : rm.cells = mc) (hrs : rm.slots = ms) (hR : rm.frames + 1 ≤ R.frames ∧ 8 + (maxL + 11) + rm.locals ≤ R.locals)
    (hlink : (Cond.methodLink own index y).before args s = true) (hstt : Cond.static y ∈ Ts) (hini : Cond.initialized y.cls ∈ Ts) (hini2 : ((Cond.initialized y.cls).onTables && (Cond.initialized y.cls).keeps) = true) (hy : y.cls ≠ "java/lang/invoke/MethodHandle" ∧ y.cls ≠ "java/lang/invoke/VarHandle") (hd : (parseMethodDescriptor y.desc).map (fun d => d.parameters.length) = some n) (hp : PreS s H Pc As)
    (hg : g.method = m) (hn : As.length = n) (hsize : g.locals.size = nL) (hstack : g.stack = As.reverse ++ rest) (hW : 2 * g.monitorRoom + (rest.map fun v => v.category).sum ≤ 8) (hdg : decode cc g.pc = .ok (.invokestatic index, 3)) (hf : cells + mc ≤ R.cells ∧ slots + ms ≤ R.slots) :
    va_Run p l e R s m args below meth c H locs cells slots mc ms g rest (Qc As.toArray) (free) := by
  obtain ⟨hx, hb, hml, ho, ht⟩ := S
  have hK : Back l R p e below s args y 3 8 (PreOf R mc ms Pc) (PostOf Qc mc ms free) := va_backW (hh := hh) (bytes := bytes) (maxL := maxL) (ret := ret) hM hp.1 hrc hrs hR.1 hR.2 (pay_in ht hG) hc (fun a' U hW => word_at hW (Or.inl hini2) (ht _ hini))
  intro T hT X
  obtain ⟨mk, methM, cM, hnamed, hmethM, -, -, -, -, -, -, hsigM⟩ := Cond.codeWith_spec (ht _ (hG _ hc).1)
  have hstatic : methM.isStatic = true := Cond.static_spec hnamed hmethM (ht _ hstt)
  obtain ⟨kP, hkP, -⟩ := className_of_methodNamed hnamed
  have hinitP : kP.init = .initialized := Cond.initialized_spec (findClass_of_methodNamed hnamed) hkP (ht _ hini)
  have hlen : As.length = methM.sig.parameters.length := by
    rw [hsigM] at hd
    exact hn.trans (Option.some.inj hd).symm
  obtain ⟨vm₁, X₁, hstep₁⟩ := X.invokestatic hx ho hlink hnamed hmethM hstatic hkP hinitP hy (g := g) hg (argsL := As) (rest := rest) hlen hstack (by rw [hb]; exact hdg)
  obtain ⟨v, ⟨U', l2, c2, s2⟩, X', ⟨g', mk', t, L, e1, e2, hq, h1, hL, h2, h3⟩, st⟩ := hK m meth c ⟨T.setVm vm₁, locs, cells, slots⟩ { g with stack := rest } (.invokestatic index) mk As.toArray X₁ hg (hsize.trans hml.symm) (by rw [hb]; exact hdg) hW (X₁.named hnamed) ⟨hf.1, hf.2, hp.2 (T.setVm vm₁) hT X₁.warmed⟩
  dsimp only [Pt.U, Pt.locs, Pt.cells, Pt.slots] at X' e1 e2 h1 h2 h3 st
  subst h1; subst h2; subst h3
  exact ⟨v, (T.setVm vm₁).calling g' mk' As.toArray, t, U', L, hT, X', hL, e1, e2, hq, fun target h => hstep₁ _ fun acts => by rw [doInvoke_state]; exact st.trans h⟩
end RUNSW
theorem rx_HH_of {xM : List rx_MT} {l : Launch} {orc : rx_Orc} {ro : List (List rx_V)}
    (hY : ∀ (i : Nat) (h : rx_H) (as : List rx_V) (v : Option rx_V) (h' : rx_H) (dc ds : Nat) (y : MethodName), rx_hy[i]? = some y → orc (1000 + i) h as = some (v, h', dc, ds) → ∃ (mt : rx_MT) (hh : List (Nat × Nat × Nat × Nat)) (h1 : rx_H), mt.1 = y ∧ Jvm.Cond.codeWith mt.1 mt.2.1 mt.2.2.1 mt.2.2.2.1 hh ∈ rx_bw ∧ Jvm.Cond.static mt.1 ∈ rx_bw ∧ Jvm.Cond.initialized mt.1.cls ∈ rx_bw ∧ (mt.1.cls ≠ "java/lang/invoke/MethodHandle" ∧ mt.1.cls ≠ "java/lang/invoke/VarHandle") ∧ rx_HS h1 h' ∧ mt.2.2.2.2.2.2.1 + 1 ≤ 10 ∧ 8 + (mt.2.2.1 + 11) + mt.2.2.2.2.2.2.2.1 ≤ 364 ∧
      ∀ (D : va_G) (sa ad : List Nat) (sz : Nat), Met l mt.1 (rx_wsH mt hh) (rx_rm mt dc ds) (rx_Pc true D sa ad ro h as sz) (rx_Qc true D sa ad h1 v sz) dc ds (rx_AW true ad sz)) : rx_HH true xM l orc ro := by
  intro p e R s m args below meth c Q D sa ad0 mt pc np tg i K h L as r v h' dc ds cells slots C rok hK ho hn hcat hRm hm hgo ad ws H locs ls vs a1 a2 a3 a4 a5 a6 a7
  obtain ⟨hd, rfl⟩ := rok.dec (n := 2) rfl
  obtain ⟨h1000, y, np', g1, g2, g3, g4, g5, g6⟩ := rok.2.2.2.2.2 hK
  have h1000 : 1000 ≤ K.2.1 := h1000
  have g2 : K.2.2.1 = np' := g2
  obtain ⟨my, hh, h1, rfl, y2, y3, y4, y5, y6, y7, y8, hM⟩ := hY (K.2.1 - 1000) h as v h' dc ds y g1 (by rw [show 1000 + (K.2.1 - 1000) = K.2.1 by omega]; exact ho)
  obtain ⟨l1, l2, rfl, s1, s2⟩ := rx_S_app a7
  have s3 := rx_S_rev s1
  rw [List.reverse_reverse] at s3
  have hA := rx_inA C (Or.inl rfl) a2 a4 a5
  have hB := rx_inB C (Or.inl rfl) a2 a4 a5
  have S : CallFix p m c mt.2.1 mt.2.2.1 s args rx_bw mt.2.2.2.2.1 := ⟨C.1, C.2.1, C.2.2.1, C.2.2.2.1, C.2.2.2.2.1⟩
  have hGd : GoodIn rx_bw (rx_wsH my hh) := by
    intro w hw
    rcases List.mem_cons.mp hw with rfl | hw
    · exact rx_goodw y2
    · exact rx_goodw hw
  exact rx_goon (rx_runSW (As := l1.reverse) (rest := l2) (g := F0 m pc ls (l1 ++ l2)) S (hM D sa ad H.size) hGd List.mem_cons_self rfl rfl ⟨by rw [hRm.1]; exact Nat.le_trans y7 g4, by rw [hRm.2]; exact Nat.le_trans y8 g5⟩ (C.word g3) y3 y4 rfl y5 g6
      ⟨rx_blind, fun U hU hW => rx_start C (Or.inl rfl) a2 a3 a4 a5 s3 U hU hW⟩ rfl (by rw [← rx_S_len s3, hn, g2]) (by obtain ⟨l0, z1, -⟩ := a6; exact z1.1) (by show l1 ++ l2 = _; rw [List.reverse_reverse]) (lv_room (by rw [rx_S_cats s2]; exact hcat)) hd hm) a5 hA hB
    (fun r' ad' ws' H1 locs1 o1 o2 o3 o4 o5 o6 => hgo ad' ws' H1 locs1 ls _ (List.IsPrefix.trans a1 o2) (rx_HS_W y6 o3) o4 o5 o6 (rx_L_up o2 a6) (rx_O_st o1 (rx_S_up o2 s2)))
