/-! THE LAW's HELPERS: methods with handlers -/
def rx_wsH (mt : rx_MT) (hh : List (Nat × Nat × Nat × Nat)) : List Jvm.Cond := .codeWith mt.1 mt.2.1 mt.2.2.1 mt.2.2.2.1 hh :: rx_bw
theorem rx_metW {xM : List rx_MT} {orc : rx_Orc} {ro : List (List rx_V)} {l : Launch} {n : Nat} (hF : rx_FF true xM orc ro l n) {mt : rx_MT} (ok : rx_MOk xM mt) (hh : List (Nat × Nat × Nat × Nat)) (D : va_G) (sa ad : List Nat) {h : rx_H} {as : List rx_V} {v : Option rx_V} {h' : rx_H} {mc ms : Nat} (sz : Nat) (hlen : (rx_arg as).length ≤ mt.2.2.1) (hr : rx_ex true xM orc ro n false mt.2.2.2.2.2.1 0 h (rx_ini as mt.2.2.1) [] 0 0 = some (v, h', mc, ms)) :
    Met l mt.1 (rx_wsH mt hh) (rx_rm mt mc ms) (rx_Pc true D sa ad ro h as sz) (rx_Qc true D sa ad h' v sz) mc ms (rx_AW true ad sz) := by
  refine va_MetW (cc := mt.2.1) (maxL := mt.2.2.1) (ret := mt.2.2.2.1) (hh := hh) (ws' := rx_bw) ok.2.2 rfl ?_
  intro p e s m args below meth c s₁ B hml hv
  obtain ⟨vs, rfl, hS, rfl, hK, hN, hRO, hTW, ws, hW, hP, hD⟩ := hv
  have C : rx_Cx p s m vs.toArray meth c D (rx_AW true ad s.heap.size) (rx_BW true ad s.heap.size) true sa ro mt := ⟨B.exec, B.bytes, hml, by rw [ok.2.1]; exact findClass_of_methodNamed B.named, fun w hw => atoms_spec (ws := rx_wsH mt hh) B.pre w (List.mem_cons_of_mem _ hw), B.returns, B.notSynchronized, (name_of_methodNamed B.named B.method).1, hK, fun q h => Or.inr h, hRO, hN, rx_BAW, hTW⟩
  have hl := lv_entry vs (n := mt.2.2.1) (by rw [rx_sl_len hS]; exact hlen)
  rw [lg_entry_eq]
  generalize (lg_sl vs ++ List.replicate (mt.2.2.1 - (lg_sl vs).length) Slot.unset).toArray = ls at hl ⊢
  refine hF p e _ s m vs.toArray below meth c _ D sa ad mt false v h' mc ms C ok ⟨rfl, rfl⟩ ⟨Nat.le_refl _, Nat.le_refl _⟩ (rx_RT C ok) 0 h _ [] 0 0 hr ad ws s.heap [] ls [] (List.prefix_refl _) hW hP ?_ va_S.rf (rx_ini_L hS hlen hl) trivial
  refine hD.weaken (fun k q hk _ => rx_AB (Or.inl ?_))
  rw [← hW.1]
  exact List.mem_map.mpr ⟨q, List.mem_of_getElem? hk, rfl⟩
theorem rx_Pc_false {D : va_G} {sa ad : List Nat} {ro : List (List rx_V)} {h : rx_H} {as : List rx_V} {sz : Nat} {v : Array Value} {U : State} (hp : rx_Pc true D sa ad ro h as sz v U) : rx_Pc false D sa ad ro h as sz v U := by
  obtain ⟨vs, h1, h2, h3, h4, h5, h6, h0, ws, h7, h8, h9⟩ := hp
  have hs : ∀ q, rx_AW false ad sz q → rx_AW true ad sz q := fun q hq => rx_AWA hq
  exact ⟨vs, h1, h2, h3, h4, h5, rx_RO_less (List.prefix_refl _) hs h6, rx_TW_go (State.WarmedH.refl U) (fun _ _ _ => rfl) hs h0, ws, h7, h8, h9⟩
/-- a store of something that the little machine doesn't know -/
theorem rx_L_setN {ad sa : List Nat} {nL : Nat} {L : rx_F} {ls : Array Slot} (h : rx_L ad sa nL L ls) {i : Nat} {x : Value} (hi : i < L.length) (hp : rx_pv L i = true) :
    i < nL ∧ ∃ l, lv_has ls nL l ∧ ∀ ls' : Array Slot, lv_has ls' nL ((i, x) :: l.filter (fun q => !(q.1 == i) && !(q.1 + 1 == i && q.2.category == 2))) → rx_L ad sa nL (L.set i none) ls' := by
  obtain ⟨l, h1, h2, h3⟩ := h
  refine ⟨by omega, l, h1, fun ls' h' => ⟨_, h', by rw [List.length_set]; exact h2, fun j w hj => ?_⟩⟩
  by_cases hij : i = j
  · subst hij
    rw [List.getElem?_set_self hi] at hj
    cases hj
  · rw [List.getElem?_set_ne hij] at hj
    obtain ⟨y, hy, hw⟩ := h3 j w hj
    refine ⟨y, List.mem_cons_of_mem _ (List.mem_filter.mpr ⟨hy, ?_⟩), hw⟩
    have n1 : (j == i) = false := by simpa using fun e => hij e.symm
    by_cases hji : j + 1 = i
    · have := rx_pv_cat hp hji hj hw
      simp [n1, this]
    · simp [n1, hji]
/-- the store of the exception: astore, or astore with its place in the instruction -/
def rx_Ast (mt : rx_MT) (hpc slot pc2 : Nat) : Prop := (decode mt.2.1 hpc = .ok (.astore slot, 2) ∧ pc2 = hpc + 2) ∨ ∃ f : Fin 4, decode mt.2.1 hpc = .ok (.astore_n f, 1) ∧ slot = (f : Nat) ∧ pc2 = hpc + 1
theorem rx_metT {xM : List rx_MT} {orc : rx_Orc} {ro : List (List rx_V)} {l : Launch} (hfl : l.flags = pinnedFlags ++ [noTraceFlag]) {n : Nat} (hF : rx_FF true xM orc ro l n) (hFf : rx_FF false xM rx_no ro l n) (hX : ∀ (j : Nat) (mj : rx_MT), xM[j]? = some mj → rx_MOk xM mj) (hob : Jvm.Cond.instanceMethod Lib.objectInit ∈ rx_bw ∧ Jvm.Cond.code Lib.objectInit ⟨#[0xb1]⟩ 1 none ∈ rx_bw)
    {mt mj : rx_MT} (ok : rx_MOk xM mt) {pcI i np tg : Nat} {K : rx_K} (hrow : mt.2.2.2.2.2.1 pcI = some (.invokevirtual i, np, tg, K)) (hK : K.1 = 5) (hmj : xM[K.2.1]? = some mj) (hretj : mj.2.2.2.1 = some .int) (hRj : 6 ≤ mj.2.2.2.2.2.2.1 ∧ 100 ≤ mj.2.2.2.2.2.2.2.1) (hsite : ∀ pc row, mj.2.2.2.2.2.1 pc = some row → row.2.2.2.1 = 15 → rx_Site mj pc row.2.2.2.2.1)
    {lo hi hpc ct : Nat} {ht : List (Nat × Nat × Nat × Nat)} (hcov : lo ≤ pcI ∧ pcI < hi) (hct : ct ≠ 0) {x : Nat} {X : String} (hx : rx_xn[x]? = some X) (hcl : Jvm.Cond.classLink mt.2.2.2.2.1 ct X ∈ rx_bw) (hca : Jvm.Cond.castable X X ∈ rx_tw) {slot pc2 : Nat} (hast : rx_Ast mt hpc slot pc2)
    (D : va_G) (sa ad : List Nat) {h h'' h' : rx_H} {as as2 r : List rx_V} {a ci : Nat} {fs : List rx_V} {v : Option rx_V} {L1 : rx_F} {mc ms : Nat} (sz : Nat) (hlen : (rx_arg as).length ≤ mt.2.2.1) (hcut : rx_cut true ro mt.2.2.2.2.2.1 pcI n 0 h (rx_ini as mt.2.2.1) [] = some (h, L1, (.inr (.inr (.inl (some a))) :: as2).reverse ++ r))
    (hn : as2.length + 1 = K.2.2.1) (hcat : rx_cats r ≤ 8) (hcell : h[a]? = some (.inl (ci, fs))) (hci : ci = K.2.2.2.toNat) (hlenj : (rx_arg (.inr (.inr (.inl (some a))) :: as2)).length ≤ mj.2.2.1)
    (hrj : rx_ex false xM rx_no ro n true mj.2.2.2.2.2.1 0 h (rx_ini (.inr (.inr (.inl (some a))) :: as2) mj.2.2.1) [] 0 0 = some (some (.inr (.inr (.inr (100000 + x)))), h'', 0, 0))
    (hsl : slot < L1.length) (hpv : rx_pv L1 slot = true) (hr2 : rx_ex true xM orc ro n false mt.2.2.2.2.2.1 pc2 h (L1.set slot none) [] 1 6 = some (v, h', mc, ms)) :
    Met l mt.1 (rx_wsH mt ((lo, hi, hpc, ct) :: ht)) (rx_rm mt mc ms) (rx_Pc true D sa ad ro h as sz) (rx_Qc true D sa ad h' v sz) mc ms (rx_AW true ad sz) := by
  have hmono := rx_ex_mono n hr2
  refine va_MetW (cc := mt.2.1) (maxL := mt.2.2.1) (ret := mt.2.2.2.1) (hh := (lo, hi, hpc, ct) :: ht) (ws' := rx_bw) ok.2.2 rfl ?_
  intro p e s m args below meth c s₁ B hml hv
  obtain ⟨vs, rfl, hS, rfl, hK1, hN, hRO, hTW, ws, hW, hP, hD⟩ := hv
  have C : rx_Cx p s m vs.toArray meth c D (rx_AW true ad s.heap.size) (rx_BW true ad s.heap.size) true sa ro mt := ⟨B.exec, B.bytes, hml, by rw [ok.2.1]; exact findClass_of_methodNamed B.named, fun w hw => atoms_spec (ws := rx_wsH mt ((lo, hi, hpc, ct) :: ht)) B.pre w (List.mem_cons_of_mem _ hw), B.returns, B.notSynchronized, (name_of_methodNamed B.named B.method).1, hK1, fun q h => Or.inr h, hRO, hN, rx_BAW, hTW⟩
  obtain ⟨m9, meth', c', hn9, z1, z2, -, -, zm, -⟩ := Cond.codeWith_spec (atoms_spec (ws := rx_wsH mt ((lo, hi, hpc, ct) :: ht)) B.pre _ List.mem_cons_self)
  cases B.named.symm.trans hn9
  have hcc : c' = c := by
    cases B.method.symm.trans z1
    exact Option.some.inj (z2.symm.trans (Stand.of_body B).code)
  subst hcc
  obtain ⟨x0, xt, hex, hx0, -⟩ := List.map_eq_cons_iff.mp zm
  have e1 : x0.startPc = lo := congrArg (fun q => q.1) hx0
  have e2 : x0.endPc = hi := congrArg (fun q => q.2.1) hx0
  have e3 : x0.handlerPc = hpc := congrArg (fun q => q.2.2.1) hx0
  have e4 : x0.catchType = ct := congrArg (fun q => q.2.2.2) hx0
  have hl := lv_entry vs (n := mt.2.2.1) (by rw [rx_sl_len hS]; exact hlen)
  rw [lg_entry_eq]
  generalize (lg_sl vs ++ List.replicate (mt.2.2.1 - (lg_sl vs).length) Slot.unset).toArray = ls0 at hl ⊢
  have rok := ok.1 pcI _ hrow
  obtain ⟨hd, hnp⟩ := rok.dec (n := 2) rfl
  obtain ⟨mj', q, np', g1, ⟨w2, w3, w4, w5, w6, w7, w8⟩, w9, w10, w11, w12, w13, w14⟩ := rok.2.2 hK
  cases g1.symm.trans hmj
  have w9 : K.2.2.1 = np' + 1 := w9
  have S : CallFix p m c' mt.2.1 mt.2.2.1 s vs.toArray rx_bw mt.2.2.2.2.1 := ⟨C.1, C.2.1, C.2.2.1, C.2.2.2.1, C.2.2.2.2.1⟩
  have okj := hX _ _ hmj
  refine rx_cut_ok (Q := MQ below (rx_Qc true D sa ad h' v s.heap.size) vs.toArray s mc ms (rx_AW true ad s.heap.size)) (l := l) (e := e) (below := below) (ad0 := ad) C ok hob (R := rx_rm mt mc ms) ⟨rfl, rfl⟩ ⟨Nat.zero_le _, Nat.zero_le _⟩ ?_ n 0 h (rx_ini as mt.2.2.1) [] hcut ad ws s.heap [] ls0 [] (List.prefix_refl _) hW hP ?_ va_S.rf (rx_ini_L hS hlen hl) trivial
  · intro ad' ws' H locs ls vs' a1 a2 a3 a4 a5 a6 a7
    obtain ⟨l1, l2, rfl, s1, s2⟩ := rx_S_app a7
    have s3 := rx_S_rev s1
    rw [List.reverse_reverse] at s3
    obtain ⟨x9, xs, ex, ⟨b, hb, rfl⟩, s4⟩ := rx_S_cons s3
    have el : l1 = xs.reverse ++ [Value.ref b] := by rw [← List.reverse_reverse l1, ex, List.reverse_cons]
    have hxs : xs.length = np' := by rw [← rx_S_len s4]; omega
    obtain ⟨a', E, hx1, hw, fs', rfl, -⟩ := rx_W_get a2 hcell (show rx_G ad' sa (.inr (.inr (.inl (some a)))) (.ref b) from ⟨b, hb, rfl⟩)
    cases hx1
    have hrecv := va_recv C.2.2.2.2.2.2.2.2.1 a3 (ci := ci) (q0 := a) (q := q) (by rw [hci]; exact w10) hw
    rw [w11] at hrecv
    refine rx_catchV (X := X) (As := xs) (rest := l2) (g := F0 m pcI ls (l1 ++ l2)) (n := np') S (rx_thrown l hfl hFf okj hretj hRj hsite hx hlenj hrj D sa ad' H.size) (cwV np' C.2.2.2.2.1 (rx_goodc (fun w hw => by
        simp only [List.mem_cons, List.not_mem_nil, or_false] at hw
        rcases hw with rfl | rfl | rfl | rfl
        · exact w12
        · exact w13
        · exact w14
        · exact w5) (rx_goodm w4)) rfl rfl rfl ⟨rfl, w6, w7, w8⟩ ⟨w2, w3⟩)
      ⟨rx_blind, hrecv, fun U hU hW => rx_Pc_false (rx_start C (Or.inl rfl) a2 a3 a4 a5 (as := .inr (.inr (.inl (some a))) :: as2) (vs := .ref b :: xs) ⟨⟨b, hb, rfl⟩, s4⟩ U hU hW)⟩ rfl hxs (by obtain ⟨l0, z1, -⟩ := a6; exact z1.1) (by show l1 ++ l2 = _; rw [el, List.append_assoc]; rfl) (lv_room (by rw [rx_S_cats s2]; exact hcat)) hd ⟨by show 0 + 1 ≤ mc; omega, by show 0 + 6 ≤ ms; omega⟩
      hex (by show covers x0 pcI = true; simp [covers, e1, e2, hcov.1, hcov.2]) (by rw [e4]; exact hct) (by rw [e4]; exact C.word hcl) (va_Nw.use (rx_tw_tab _ hca) (C.2.2.2.2.2.2.2.2.2.2.2.2.2.1 _ hca)) ?_
    intro ex9 H' L' hL' hsz' hsame
    have hS' : va_S (rx_AW true ad s.heap.size) s.heap H' (locs ++ L') := by
      refine ⟨Nat.le_trans a5.1 hsz', fun q h1 h2 => by rw [hsame q (Nat.lt_of_lt_of_le h1 a5.1)]; exact a5.2.1 q h1 h2, fun q hq => ?_⟩
      rcases List.mem_append.mp hq with h | h
      · exact a5.2.2 q h
      · exact Or.inr (Nat.le_trans a5.1 (hL' q h))
    have hP' : va_P D rx_cl ws' H' := a3.kept (fun k q hk => hsame q.1 (a3 k q hk).lt)
    have hgo := hF p e (rx_rm mt mc ms) s m vs.toArray below meth c' _ D sa ad mt false v h' mc ms C ok ⟨rfl, rfl⟩ ⟨Nat.le_refl _, Nat.le_refl _⟩ (rx_RT C ok) pc2 h (L1.set slot none) [] 1 6 hr2
    obtain ⟨hn1, lv, hl1, kk⟩ := rx_L_setN a6 (x := .ref ex9) hsl hpv
    show W p l e (rx_rm mt mc ms) s m vs.toArray below meth c' H' (locs ++ L') (0 + 1) (0 + 6) _ (F0 m x0.handlerPc ls [.ref ex9])
    rw [e3]
    rcases hast with ⟨d1, rfl⟩ | ⟨f, d1, rfl, rfl⟩
    · exact lv_astore C.1 C.2.1 d1 hl1 hn1 rfl fun ls' h' => hgo ad' ws' H' (locs ++ L') ls' [] a1 a2 hP' a4 hS' (kk ls' h') trivial
    · exact lv_astore_n C.1 C.2.1 d1 rfl hl1 hn1 rfl fun ls' h' => hgo ad' ws' H' (locs ++ L') ls' [] a1 a2 hP' a4 hS' (kk ls' h') trivial
  · refine hD.weaken (fun k q hk _ => rx_AB (Or.inl ?_))
    rw [← hW.1]
    exact List.mem_map.mpr ⟨q, List.mem_of_getElem? hk, rfl⟩
