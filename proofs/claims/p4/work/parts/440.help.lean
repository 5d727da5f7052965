/-! THE LAW's HELPERS OVER THE WIDE MACHINE -/
/-- a method of the class that throws, run to the place where it does -/
theorem wx_thrown {l : Launch} (hfl : l.flags = pinnedFlags ++ [noTraceFlag]) {xM : List rx_MT} {ro : List (List rx_V)} (hro : ro.length ≤ 20) {orc : wx_Orc} {Φ : rx_H → rx_H} {t0 h : rx_H} {bx : Nat → rx_H → List rx_H} (hΦ : wx_Ph Φ) (hob : Jvm.Cond.instanceMethod Lib.objectInit ∈ rx_bw ∧ Jvm.Cond.code Lib.objectInit ⟨#[0xb1]⟩ 1 none ∈ rx_bw) (hO : wx_HO false xM l orc ro Φ t0) (hBx : wx_HB Φ t0 bx) {mt : rx_MT} (okm : rx_MOk xM mt) (hR : 6 ≤ mt.2.2.2.2.2.2.1 ∧ 100 ≤ mt.2.2.2.2.2.2.2.1) (hsite : ∀ pc row, mt.2.2.2.2.2.1 pc = some row → row.2.2.2.1 = 15 → rx_Site mt pc row.2.2.2.2.1) {x pcT n : Nat} {X : String} (hX : rx_xn[x]? = some X) {row : rx_Row} (hrow : mt.2.2.2.2.2.1 pcT = some row) (h15 : row.2.2.2.1 = 15) (hx : row.2.2.2.2.1 = x) {as : List rx_V} {L : rx_F} {st : List rx_V} (hlen : (rx_arg as).length ≤ mt.2.2.1) (hw : wx false orc ro bx [] t0 0 n mt.2.2.2.2.2.1 pcT 0 0 h (rx_ini as mt.2.2.1) [] = some (some (0, L, st), none)) (hcat : rx_cats st ≤ 8) (hn : rx_HS (Φ h) (Φ t0)) (D : va_G) {sb : List Nat} {tt u : Nat} (hsb : sb.length = 20) (htt : tt ≤ 3000) (hu : u ≤ wx_bd) (ad : List Nat) (sz : Nat) :
    MetFree l mt.1 (headSpec (rx_ws mt) (rx_rt mt)) (rx_Pc false D (wx_su sb tt u) ad ro (Φ h) as sz) (fun _ _ _ _ _ => True) (rx_Qt X) := by
  have hcw : ∀ (args : Array Value) (s : State), (headSpec (rx_ws mt) (rx_rt mt)).pre.before args s = true → (Cond.code mt.1 mt.2.1 mt.2.2.1 mt.2.2.2.1).before args s = true := fun args s h => atoms_spec (ws := rx_ws mt) h _ List.mem_cons_self
  refine MetFree.of_bodyS (code := mt.2.1) (maxLocals := mt.2.2.1) (ret := mt.2.2.2.1) okm.2.2 ?_ ?_
  · intro args s m h hn
    obtain ⟨meth, c, h1, h2, h3, h4, h5, h6, -, -⟩ := Cond.code_spec hn (hcw args s h)
    exact ⟨meth, c, h1, h2, h3, h4, h5, h6⟩
  · intro p e s m args below meth c s₁ B hml hv _
    obtain ⟨vs, rfl, hS, rfl, hK, hN, hRO, hTW, ws, hW, hP, hD⟩ := hv
    have htr := Launch.traces_off hfl B.admits
    have hh0 : s₁.heap = s.heap := by rw [B.state]; rfl
    obtain ⟨meth', c', z1, z2, -, -, -, -, z3, -⟩ := Cond.code_spec B.named (hcw _ _ B.pre)
    have hcc : c' = c := by
      cases B.method.symm.trans z1
      exact Option.some.inj (z2.symm.trans (Stand.of_body B).code)
    subst hcc
    have hex : c'.exceptionTable.toList = [] := by
      have h0 : c'.exceptionTable.size = 0 := by simpa [Array.isEmpty] using z3
      exact List.eq_nil_of_length_eq_zero (by simpa using h0)
    have C0 : rx_Cx p s m vs.toArray meth c' D (rx_AW false ad s.heap.size) (rx_BW false ad s.heap.size) false (wx_su sb tt u) ro mt := ⟨B.exec, B.bytes, hml, by rw [okm.2.1]; exact findClass_of_methodNamed B.named, fun w hw => atoms_spec (ws := rx_ws mt) B.pre w (List.mem_cons_of_mem _ hw), B.returns, B.notSynchronized, (name_of_methodNamed B.named B.method).1, hK, fun q h => Or.inr h, hRO, hN, rx_BAW, hTW⟩
    have C := wx_C_su hsb hro C0
    have hl := lv_entry vs (n := mt.2.2.1) (by rw [rx_sl_len hS]; exact hlen)
    have key : W p l e (rx_rt mt) s m vs.toArray below meth c' s.heap [] 0 0 (fun t => ∃ o, t.status = .running ∧ Ended t below o ∧ rx_Qt X vs.toArray s o t) (entryFrame m vs.toArray mt.2.2.1) := by
      rw [lg_entry_eq]
      generalize (lg_sl vs ++ List.replicate (mt.2.2.1 - (lg_sl vs).length) Slot.unset).toArray = ls at hl ⊢
      have hthr := rx_throwW (l := l) (below := below) (R := rx_rt mt) (h := Φ t0) (L := L) (st := st) (C (u + 0)) hTW htr hex (x := x) (X := X) (by rw [← hx]; exact hsite pcT row hrow h15) hX ⟨hR.1, hR.2, Nat.le_refl _, Nat.le_refl _⟩ hcat
      have hgo := wx_ok (e := e) (R := rx_rt mt) (below := below) (cells := 0) (slots := 0) (u0 := u) (dm := 0) (Q := fun t => ∃ o, t.status = .running ∧ Ended t below o ∧ rx_Qt X vs.toArray s o t) C hsb hΦ okm hob ⟨rfl, rfl⟩ ⟨Nat.zero_le _, Nat.zero_le _⟩ hu hO hBx (Or.inl rfl) htt (PV := fun _ => False) (fun _ _ _ _ z => z) (fun _ _ _ _ _ _ _ z => z.elim) n pcT 0 0 h (rx_ini as mt.2.2.1) [] _ hw hn (fun s' hs' => by cases hs'; exact hthr) (fun v' hv' => by cases hv')
      exact hgo ad ws s.heap [] ls [] (List.prefix_refl _) hW hP (hD.weaken (fun _ _ _ _ => Or.inl rfl)) va_S.rf (rx_ini_L hS hlen hl) trivial
    obtain ⟨t, a1, o, b1, b2, b3⟩ := key s₁ hh0 (Stand.of_body B)
    exact ⟨t, o, a1, b1, b2, b3⟩
/-- the whole of a helper, from a way through its body -/
theorem wx_entryH {l : Launch} {xM : List rx_MT} {ro : List (List rx_V)} (hro : ro.length ≤ 20) {mt : rx_MT} (okm : rx_MOk xM mt) (hh : List (Nat × Nat × Nat × Nat)) {X X1 : rx_H} {as : List rx_V} {v : Option rx_V} (hlen : (rx_arg as).length ≤ mt.2.2.1) {D : va_G} {sb : List Nat} {tt u u1 : Nat} (hsb : sb.length = 20) {ad : List Nat} {sz : Nat}
    (hgo : ∀ (p : Program) (e : Env) (s : State) (m : MethodId) (args : Array Value) (below : List Frame) (meth : Method) (c : Code), s.heap.size = sz → (∀ u, rx_Cx p s m args meth c D (rx_AW true ad s.heap.size) (rx_BW true ad s.heap.size) true (wx_su sb tt u) ro mt) → (c.exceptionTable.toList.map fun x => (x.startPc, x.endPc, x.handlerPc, x.catchType)) = hh → rx_Go p l e (rx_rm mt 1 7) s m args below meth c (MQ below (rx_Qc true D (wx_su sb tt u1) ad X1 v s.heap.size) args s 1 7 (rx_AW true ad s.heap.size)) D (rx_AW true ad s.heap.size) (rx_BW true ad s.heap.size) (wx_su sb tt u) ad mt 0 X (rx_ini as mt.2.2.1) [] 0 0) :
    Met l mt.1 (rx_wsH mt hh) (rx_rm mt 1 7) (rx_Pc true D (wx_su sb tt u) ad ro X as sz) (rx_Qc true D (wx_su sb tt u1) ad X1 v sz) 1 7 (rx_AW true ad sz) := by
  refine va_MetW (cc := mt.2.1) (maxL := mt.2.2.1) (ret := mt.2.2.2.1) (hh := hh) (ws' := rx_bw) okm.2.2 rfl ?_
  intro p e s m args below meth c s₁ B hml hv
  obtain ⟨vs, rfl, hS, rfl, hK1, hN, hRO, hTW, ws, hW, hP, hD⟩ := hv
  have C0 : rx_Cx p s m vs.toArray meth c D (rx_AW true ad s.heap.size) (rx_BW true ad s.heap.size) true (wx_su sb tt u) ro mt := ⟨B.exec, B.bytes, hml, by rw [okm.2.1]; exact findClass_of_methodNamed B.named, fun w hw => atoms_spec (ws := rx_wsH mt hh) B.pre w (List.mem_cons_of_mem _ hw), B.returns, B.notSynchronized, (name_of_methodNamed B.named B.method).1, hK1, fun q h => Or.inr h, hRO, hN, rx_BAW, hTW⟩
  have C := wx_C_su hsb hro C0
  obtain ⟨m9, meth', c', hn9, z1, z2, -, -, zm, -⟩ := Cond.codeWith_spec (atoms_spec (ws := rx_wsH mt hh) B.pre _ List.mem_cons_self)
  cases B.named.symm.trans hn9
  have hcc : c' = c := by
    cases B.method.symm.trans z1
    exact Option.some.inj (z2.symm.trans (Stand.of_body B).code)
  subst hcc
  have hl := lv_entry vs (n := mt.2.2.1) (by rw [rx_sl_len hS]; exact hlen)
  rw [lg_entry_eq]
  generalize (lg_sl vs ++ List.replicate (mt.2.2.1 - (lg_sl vs).length) Slot.unset).toArray = ls at hl ⊢
  refine hgo p e s m vs.toArray below meth c' rfl C zm ad ws s.heap [] ls [] (List.prefix_refl _) hW hP ?_ va_S.rf (rx_ini_L hS hlen hl) trivial
  refine hD.weaken (fun k q hk _ => rx_AB (Or.inl ?_))
  rw [← hW.1]
  exact List.mem_map.mpr ⟨q, List.mem_of_getElem? hk, rfl⟩
/-- a helper whose call comes back -/
theorem wx_helpR {l : Launch} {xM : List rx_MT} {ro : List (List rx_V)} (hro : ro.length ≤ 20) {orc : wx_Orc} {Φ : rx_H → rx_H} {t0 : rx_H} (hΦ : wx_Ph Φ) (hob : Jvm.Cond.instanceMethod Lib.objectInit ∈ rx_bw ∧ Jvm.Cond.code Lib.objectInit ⟨#[0xb1]⟩ 1 none ∈ rx_bw) (hO : wx_HO true xM l orc ro Φ t0) {mt : rx_MT} (okm : rx_MOk xM mt) (hh : List (Nat × Nat × Nat × Nat)) {n dm dj : Nat} {as : List rx_V} {v : Option rx_V} (hr : wx_run true orc ro wx_nb t0 dm n mt t0 as = some (dj, v)) (D : va_G) {sb : List Nat} {tt u : Nat} (hsb : sb.length = 20) (htt : tt ≤ 3000) (hu : u + dm ≤ wx_bd) (ad : List Nat) (sz : Nat) :
    Met l mt.1 (rx_wsH mt hh) (rx_rm mt 1 7) (rx_Pc true D (wx_su sb tt u) ad ro (Φ t0) as sz) (rx_Qc true D (wx_su sb tt (u + dj)) ad (Φ t0) v sz) 1 7 (rx_AW true ad sz) := by
  unfold wx_run at hr
  obtain ⟨hlen, hr⟩ := rx_bif hr
  have hlen := Nat.le_of_ble_eq_true hlen
  rw [rx_fl_eq] at hr
  split at hr
  · rename_i r hw
    cases hr
    refine wx_entryH hro okm hh hlen hsb (fun p e s m args below meth c hsz C _ => ?_)
    have key := wx_ok (e := e) (R := rx_rm mt 1 7) (below := below) (cells := 1) (slots := 7) (u0 := u) (dm := dm) (Q := MQ below (rx_Qc true D (wx_su sb tt (u + dj)) ad (Φ t0) v s.heap.size) args s 1 7 (rx_AW true ad s.heap.size)) C hsb hΦ okm hob ⟨rfl, rfl⟩ ⟨Nat.le_refl _, Nat.le_refl _⟩ hu hO wx_HB_nb (Or.inl rfl) htt (PV := fun a => a.1 ≤ dj ∧ wx_sem a.2 v) (fun a c0 h1 h2 h3 => ⟨Nat.le_trans h1 h3.1, fun x y z w => h3.2 x y z (wx_sem_lo h2 x y z w)⟩) (fun pc row L st h0 d0 v0 hp hrow hrv hn0 => wx_RT C hsb okm hp.1 hp.2 hrow hrv hn0) n wx_End 0 0 t0 (rx_ini as mt.2.2.1) [] _ hw rx_HS_rf (fun s' hs' => by cases hs') (fun v' hv' => by cases hv'; exact ⟨Nat.le_refl _, wx_sem_rf⟩)
    intro ad' ws H locs ls vs a1 a2 a3 a4 a5 a6 a7
    exact W.widen (by decide) (by decide) (key ad' ws H locs ls vs a1 a2 a3 a4 a5 a6 a7)
  · cases hr
/-- a helper whose call throws, and its first handler takes it -/
theorem wx_helpT {l : Launch} {xM : List rx_MT} {ro : List (List rx_V)} (hro : ro.length ≤ 20) {orc : wx_Orc} {Φ : rx_H → rx_H} {t0 : rx_H} (hΦ : wx_Ph Φ) (hob : Jvm.Cond.instanceMethod Lib.objectInit ∈ rx_bw ∧ Jvm.Cond.code Lib.objectInit ⟨#[0xb1]⟩ 1 none ∈ rx_bw) (hO : wx_HO true xM l orc ro Φ t0) {mt mj : rx_MT} (okm : rx_MOk xM mt)
    {pcI i np tg : Nat} {K : rx_K} (hrow : mt.2.2.2.2.2.1 pcI = some (.invokevirtual i, np, tg, K)) (hK : K.1 = 5) (hmj : xM[K.2.1]? = some mj) {lo hi hpc ct : Nat} {ht : List (Nat × Nat × Nat × Nat)} (hcov : lo ≤ pcI ∧ pcI < hi) (hct : ct ≠ 0) {X : String} (hcl : Jvm.Cond.classLink mt.2.2.2.2.1 ct X ∈ rx_bw) (hca : Jvm.Cond.castable X X ∈ rx_tw) {slot pc2 : Nat} (hast : rx_Ast mt hpc slot pc2)
    {n : Nat} {as as2 r : List rx_V} {a : Nat} {fs : List rx_V} {v : Option rx_V} {L1 : rx_F} (hlen : (rx_arg as).length ≤ mt.2.2.1) (hcut : wx true orc ro wx_nb [] t0 0 n mt.2.2.2.2.2.1 pcI 0 0 t0 (rx_ini as mt.2.2.1) [] = some (some (0, L1, (wx_r a :: as2).reverse ++ r), none))
    (hn : as2.length + 1 = K.2.2.1) (hcat : rx_cats r ≤ 8) (hcell : (Φ t0)[a]? = some (.inl (K.2.2.2.toNat, fs)))
    (D : va_G) {sb : List Nat} {tt u : Nat} (hsb : sb.length = 20) (htt : tt ≤ 3000) (hu : u ≤ wx_bd) (hthr : ∀ (ad : List Nat) (sz : Nat), MetFree l mj.1 (headSpec (rx_ws mj) (rx_rt mj)) (rx_Pc false D (wx_su sb tt (u + 0)) ad ro (Φ t0) (wx_r a :: as2) sz) (fun _ _ _ _ _ => True) (rx_Qt X))
    (hsl : slot < L1.length) (hpv : rx_pv L1 slot = true) (hr2 : wx true orc ro wx_nb [] t0 0 n mt.2.2.2.2.2.1 wx_End pc2 0 t0 (L1.set slot none) [] = some (none, some (0, v))) (ad : List Nat) (sz : Nat) :
    Met l mt.1 (rx_wsH mt ((lo, hi, hpc, ct) :: ht)) (rx_rm mt 1 7) (rx_Pc true D (wx_su sb tt u) ad ro (Φ t0) as sz) (rx_Qc true D (wx_su sb tt (u + 0)) ad (Φ t0) v sz) 1 7 (rx_AW true ad sz) := by
  refine wx_entryH hro okm _ hlen hsb (fun p e s m args below meth c hsz C zm => ?_)
  obtain ⟨x0, xt, hex, hx0, -⟩ := List.map_eq_cons_iff.mp zm
  have e1 : x0.startPc = lo := congrArg (fun q => q.1) hx0
  have e2 : x0.endPc = hi := congrArg (fun q => q.2.1) hx0
  have e3 : x0.handlerPc = hpc := congrArg (fun q => q.2.2.1) hx0
  have e4 : x0.catchType = ct := congrArg (fun q => q.2.2.2) hx0
  have rok := okm.1 pcI _ hrow
  obtain ⟨hd, hnp⟩ := rok.dec (n := 2) rfl
  obtain ⟨mj', q, np', g1, ⟨w2, w3, w4, w5, w6, w7, w8⟩, w9, w10, w11, w12, w13, w14⟩ := rok.2.2 hK
  cases g1.symm.trans hmj
  have w9 : K.2.2.1 = np' + 1 := w9
  have S : CallFix p m c mt.2.1 mt.2.2.1 s args rx_bw mt.2.2.2.2.1 := ⟨(C u).1, (C u).2.1, (C u).2.2.1, (C u).2.2.2.1, (C u).2.2.2.2.1⟩
  have after := wx_ok (e := e) (R := rx_rm mt 1 7) (below := below) (cells := 1) (slots := 7) (u0 := u) (dm := 0) (Q := MQ below (rx_Qc true D (wx_su sb tt (u + 0)) ad (Φ t0) v s.heap.size) args s 1 7 (rx_AW true ad s.heap.size)) C hsb hΦ okm hob ⟨rfl, rfl⟩ ⟨Nat.le_refl _, Nat.le_refl _⟩ hu hO wx_HB_nb (Or.inl rfl) htt (PV := fun a => a.1 ≤ 0 ∧ wx_sem a.2 v) (fun a c0 h1 h2 h3 => ⟨Nat.le_trans h1 h3.1, fun x y z w => h3.2 x y z (wx_sem_lo h2 x y z w)⟩) (fun pc row L st h0 d0 v0 hp hrow hrv hn0 => wx_RT C hsb okm hp.1 hp.2 hrow hrv hn0) n wx_End pc2 0 t0 (L1.set slot none) [] _ hr2 rx_HS_rf (fun s' hs' => by cases hs') (fun v' hv' => by cases hv'; exact ⟨Nat.le_refl _, wx_sem_rf⟩)
  refine wx_ok (e := e) (R := rx_rm mt 1 7) (below := below) (cells := 0) (slots := 0) (u0 := u) (dm := 0) (Q := MQ below (rx_Qc true D (wx_su sb tt (u + 0)) ad (Φ t0) v s.heap.size) args s 1 7 (rx_AW true ad s.heap.size)) C hsb hΦ okm hob ⟨rfl, rfl⟩ ⟨Nat.zero_le _, Nat.zero_le _⟩ hu hO wx_HB_nb (Or.inl rfl) htt (PV := fun _ => False) (fun _ _ _ _ z => z) (fun _ _ _ _ _ _ _ z => z.elim) n pcI 0 0 t0 (rx_ini as mt.2.2.1) [] _ hcut rx_HS_rf (fun s' hs' => ?_) (fun v' hv' => by cases hv')
  cases hs'
  intro ad' ws' H locs ls vs' a1 a2 a3 a4 a5 a6 a7
  obtain ⟨l1, l2, rfl, s1, s2⟩ := rx_S_app a7
  have s3 := rx_S_rev s1
  rw [List.reverse_reverse] at s3
  obtain ⟨x9, xs, ex, ⟨b, hb, rfl⟩, s4⟩ := rx_S_cons s3
  have el : l1 = xs.reverse ++ [Value.ref b] := by rw [← List.reverse_reverse l1, ex, List.reverse_cons]
  have hxs : xs.length = np' := by rw [← rx_S_len s4]; omega
  obtain ⟨a', E, hx1, hw, fs', rfl, -⟩ := rx_W_get a2 hcell (show rx_G ad' (wx_su sb tt (u + 0)) (.inr (.inr (.inl (some a)))) (.ref b) from ⟨b, hb, rfl⟩)
  cases hx1
  have hrecv := va_recv (C u).2.2.2.2.2.2.2.2.1 a3 (ci := K.2.2.2.toNat) (q0 := a) (q := q) w10 hw
  rw [w11] at hrecv
  refine rx_catchV (X := X) (As := xs) (rest := l2) (g := F0 m pcI ls (l1 ++ l2)) (n := np') S (hthr ad' H.size) (cwV np' (C u).2.2.2.2.1 (rx_goodc (fun w hw => by
      simp only [List.mem_cons, List.not_mem_nil, or_false] at hw
      rcases hw with rfl | rfl | rfl | rfl
      · exact w12
      · exact w13
      · exact w14
      · exact w5) (rx_goodm w4)) rfl rfl rfl ⟨rfl, w6, w7, w8⟩ ⟨w2, w3⟩)
    ⟨rx_blind, hrecv, fun U hU hW => rx_Pc_false (rx_start (C (u + 0)) (Or.inl rfl) a2 a3 a4 a5 (as := wx_r a :: as2) (vs := .ref b :: xs) ⟨⟨b, hb, rfl⟩, s4⟩ U hU hW)⟩ rfl hxs (by obtain ⟨l0, z1, -⟩ := a6; exact z1.1) (by show l1 ++ l2 = _; rw [el, List.append_assoc]; rfl) (lv_room (by rw [rx_S_cats s2]; exact hcat)) hd ⟨by show 0 + 1 ≤ 1; omega, by show 0 + 6 ≤ 7; omega⟩
    hex (by show covers x0 pcI = true; simp [covers, e1, e2, hcov.1, hcov.2]) (by rw [e4]; exact hct) (by rw [e4]; exact (C u).word hcl) (va_Nw.use (rx_tw_tab _ hca) ((C u).2.2.2.2.2.2.2.2.2.2.2.2.2.1 _ hca)) ?_
  intro ex9 H' L' hL' hsz' hsame
  have hS' : va_S (rx_AW true ad s.heap.size) s.heap H' (locs ++ L') := by
    refine ⟨Nat.le_trans a5.1 hsz', fun q h1 h2 => by rw [hsame q (Nat.lt_of_lt_of_le h1 a5.1)]; exact a5.2.1 q h1 h2, fun q hq => ?_⟩
    rcases List.mem_append.mp hq with h | h
    · exact a5.2.2 q h
    · exact Or.inr (Nat.le_trans a5.1 (hL' q h))
  have hP' : va_P D rx_cl ws' H' := a3.kept (fun k q hk => hsame q.1 (a3 k q hk).lt)
  obtain ⟨hn1, lv, hl1, kk⟩ := rx_L_setN a6 (x := .ref ex9) hsl hpv
  show W p l e (rx_rm mt 1 7) s m args below meth c H' (locs ++ L') (0 + 1) (0 + 6) _ (F0 m x0.handlerPc ls [.ref ex9])
  refine W.widen (k := 1) (n := 7) (by decide) (by decide) ?_
  rw [e3]
  rcases hast with ⟨d1, rfl⟩ | ⟨f, d1, rfl, rfl⟩
  · exact lv_astore (C u).1 (C u).2.1 d1 hl1 hn1 rfl fun ls' h' => after ad' ws' H' (locs ++ L') ls' [] a1 a2 hP' a4 hS' (kk ls' h') trivial
  · exact lv_astore_n (C u).1 (C u).2.1 d1 rfl hl1 hn1 rfl fun ls' h' => after ad' ws' H' (locs ++ L') ls' [] a1 a2 hP' a4 hS' (kk ls' h') trivial
/-- a helper whose call throws, and its second handler takes it -/
theorem wx_helpT2 {l : Launch} {xM : List rx_MT} {ro : List (List rx_V)} (hro : ro.length ≤ 20) {orc : wx_Orc} {Φ : rx_H → rx_H} {t0 : rx_H} (hΦ : wx_Ph Φ) (hob : Jvm.Cond.instanceMethod Lib.objectInit ∈ rx_bw ∧ Jvm.Cond.code Lib.objectInit ⟨#[0xb1]⟩ 1 none ∈ rx_bw) (hO : wx_HO true xM l orc ro Φ t0) {mt mj : rx_MT} (okm : rx_MOk xM mt)
    {pcI i np tg : Nat} {K : rx_K} (hrow : mt.2.2.2.2.2.1 pcI = some (.invokevirtual i, np, tg, K)) (hK : K.1 = 5) (hmj : xM[K.2.1]? = some mj) {lo hi hpc ct loY hiY hpcY ctY : Nat} {ht : List (Nat × Nat × Nat × Nat)} (hcov : lo ≤ pcI ∧ pcI < hi) (hct : ct ≠ 0) {X Y : String} (hcovY : loY ≤ pcI ∧ pcI < hiY) (hctY : ctY ≠ 0) (hclY : Jvm.Cond.classLink mt.2.2.2.2.1 ctY Y ∈ rx_bw) (hXY : X = "java/lang/IllegalStateException" ∧ Y = "java/lang/IllegalArgumentException") (hcl : Jvm.Cond.classLink mt.2.2.2.2.1 ct X ∈ rx_bw) (hca : Jvm.Cond.castable X X ∈ rx_tw) {slot pc2 : Nat} (hast : rx_Ast mt hpc slot pc2)
    {n : Nat} {as as2 r : List rx_V} {a : Nat} {fs : List rx_V} {v : Option rx_V} {L1 : rx_F} (hlen : (rx_arg as).length ≤ mt.2.2.1) (hcut : wx true orc ro wx_nb [] t0 0 n mt.2.2.2.2.2.1 pcI 0 0 t0 (rx_ini as mt.2.2.1) [] = some (some (0, L1, (wx_r a :: as2).reverse ++ r), none))
    (hn : as2.length + 1 = K.2.2.1) (hcat : rx_cats r ≤ 8) (hcell : (Φ t0)[a]? = some (.inl (K.2.2.2.toNat, fs)))
    (D : va_G) {sb : List Nat} {tt u : Nat} (hsb : sb.length = 20) (htt : tt ≤ 3000) (hu : u ≤ wx_bd) (hthr : ∀ (ad : List Nat) (sz : Nat), MetFree l mj.1 (headSpec (rx_ws mj) (rx_rt mj)) (rx_Pc false D (wx_su sb tt (u + 0)) ad ro (Φ t0) (wx_r a :: as2) sz) (fun _ _ _ _ _ => True) (rx_Qt X))
    (hsl : slot < L1.length) (hpv : rx_pv L1 slot = true) (hr2 : wx true orc ro wx_nb [] t0 0 n mt.2.2.2.2.2.1 wx_End pc2 0 t0 (L1.set slot none) [] = some (none, some (0, v))) (ad : List Nat) (sz : Nat) :
    Met l mt.1 (rx_wsH mt ((loY, hiY, hpcY, ctY) :: (lo, hi, hpc, ct) :: ht)) (rx_rm mt 1 7) (rx_Pc true D (wx_su sb tt u) ad ro (Φ t0) as sz) (rx_Qc true D (wx_su sb tt (u + 0)) ad (Φ t0) v sz) 1 7 (rx_AW true ad sz) := by
  refine wx_entryH hro okm _ hlen hsb (fun p e s m args below meth c hsz C zm => ?_)
  obtain ⟨y0, yt, hex0, hy0, zm2⟩ := List.map_eq_cons_iff.mp zm
  obtain ⟨x0, xt, hex1, hx0, -⟩ := List.map_eq_cons_iff.mp zm2
  have hex : c.exceptionTable.toList = y0 :: x0 :: xt := by rw [hex0, hex1]
  have y1 : y0.startPc = loY := congrArg (fun q => q.1) hy0
  have y2 : y0.endPc = hiY := congrArg (fun q => q.2.1) hy0
  have y4 : y0.catchType = ctY := congrArg (fun q => q.2.2.2) hy0
  have e1 : x0.startPc = lo := congrArg (fun q => q.1) hx0
  have e2 : x0.endPc = hi := congrArg (fun q => q.2.1) hx0
  have e3 : x0.handlerPc = hpc := congrArg (fun q => q.2.2.1) hx0
  have e4 : x0.catchType = ct := congrArg (fun q => q.2.2.2) hx0
  have rok := okm.1 pcI _ hrow
  obtain ⟨hd, hnp⟩ := rok.dec (n := 2) rfl
  obtain ⟨mj', q, np', g1, ⟨w2, w3, w4, w5, w6, w7, w8⟩, w9, w10, w11, w12, w13, w14⟩ := rok.2.2 hK
  cases g1.symm.trans hmj
  have w9 : K.2.2.1 = np' + 1 := w9
  have S : CallFix p m c mt.2.1 mt.2.2.1 s args rx_bw mt.2.2.2.2.1 := ⟨(C u).1, (C u).2.1, (C u).2.2.1, (C u).2.2.2.1, (C u).2.2.2.2.1⟩
  have after := wx_ok (e := e) (R := rx_rm mt 1 7) (below := below) (cells := 1) (slots := 7) (u0 := u) (dm := 0) (Q := MQ below (rx_Qc true D (wx_su sb tt (u + 0)) ad (Φ t0) v s.heap.size) args s 1 7 (rx_AW true ad s.heap.size)) C hsb hΦ okm hob ⟨rfl, rfl⟩ ⟨Nat.le_refl _, Nat.le_refl _⟩ hu hO wx_HB_nb (Or.inl rfl) htt (PV := fun a => a.1 ≤ 0 ∧ wx_sem a.2 v) (fun a c0 h1 h2 h3 => ⟨Nat.le_trans h1 h3.1, fun x y z w => h3.2 x y z (wx_sem_lo h2 x y z w)⟩) (fun pc row L st h0 d0 v0 hp hrow hrv hn0 => wx_RT C hsb okm hp.1 hp.2 hrow hrv hn0) n wx_End pc2 0 t0 (L1.set slot none) [] _ hr2 rx_HS_rf (fun s' hs' => by cases hs') (fun v' hv' => by cases hv'; exact ⟨Nat.le_refl _, wx_sem_rf⟩)
  refine wx_ok (e := e) (R := rx_rm mt 1 7) (below := below) (cells := 0) (slots := 0) (u0 := u) (dm := 0) (Q := MQ below (rx_Qc true D (wx_su sb tt (u + 0)) ad (Φ t0) v s.heap.size) args s 1 7 (rx_AW true ad s.heap.size)) C hsb hΦ okm hob ⟨rfl, rfl⟩ ⟨Nat.zero_le _, Nat.zero_le _⟩ hu hO wx_HB_nb (Or.inl rfl) htt (PV := fun _ => False) (fun _ _ _ _ z => z) (fun _ _ _ _ _ _ _ z => z.elim) n pcI 0 0 t0 (rx_ini as mt.2.2.1) [] _ hcut rx_HS_rf (fun s' hs' => ?_) (fun v' hv' => by cases hv')
  cases hs'
  intro ad' ws' H locs ls vs' a1 a2 a3 a4 a5 a6 a7
  obtain ⟨l1, l2, rfl, s1, s2⟩ := rx_S_app a7
  have s3 := rx_S_rev s1
  rw [List.reverse_reverse] at s3
  obtain ⟨x9, xs, ex, ⟨b, hb, rfl⟩, s4⟩ := rx_S_cons s3
  have el : l1 = xs.reverse ++ [Value.ref b] := by rw [← List.reverse_reverse l1, ex, List.reverse_cons]
  have hxs : xs.length = np' := by rw [← rx_S_len s4]; omega
  obtain ⟨a', E, hx1, hw, fs', rfl, -⟩ := rx_W_get a2 hcell (show rx_G ad' (wx_su sb tt (u + 0)) (.inr (.inr (.inl (some a)))) (.ref b) from ⟨b, hb, rfl⟩)
  cases hx1
  have hrecv := va_recv (C u).2.2.2.2.2.2.2.2.1 a3 (ci := K.2.2.2.toNat) (q0 := a) (q := q) w10 hw
  rw [w11] at hrecv
  refine rx_catchV2 (X := X) (Y := Y) (As := xs) (rest := l2) (g := F0 m pcI ls (l1 ++ l2)) (n := np') S (hthr ad' H.size) (cwV np' (C u).2.2.2.2.1 (rx_goodc (fun w hw => by
      simp only [List.mem_cons, List.not_mem_nil, or_false] at hw
      rcases hw with rfl | rfl | rfl | rfl
      · exact w12
      · exact w13
      · exact w14
      · exact w5) (rx_goodm w4)) rfl rfl rfl ⟨rfl, w6, w7, w8⟩ ⟨w2, w3⟩)
    ⟨rx_blind, hrecv, fun U hU hW => rx_Pc_false (rx_start (C (u + 0)) (Or.inl rfl) a2 a3 a4 a5 (as := wx_r a :: as2) (vs := .ref b :: xs) ⟨⟨b, hb, rfl⟩, s4⟩ U hU hW)⟩ rfl hxs (by obtain ⟨l0, z1, -⟩ := a6; exact z1.1) (by show l1 ++ l2 = _; rw [el, List.append_assoc]; rfl) (lv_room (by rw [rx_S_cats s2]; exact hcat)) hd ⟨by show 0 + 1 ≤ 1; omega, by show 0 + 6 ≤ 7; omega⟩
    hex (by show covers y0 pcI = true; simp [covers, y1, y2, hcovY.1, hcovY.2]) (by rw [y4]; exact hctY) (by rw [y4]; exact (C u).word hclY) (by rw [hXY.1, hXY.2]; exact (C u).2.2.2.2.2.2.2.2.2.2.2.2.2.2.2.2) (by show covers x0 pcI = true; simp [covers, e1, e2, hcov.1, hcov.2]) (by rw [e4]; exact hct) (by rw [e4]; exact (C u).word hcl) (va_Nw.use (rx_tw_tab _ hca) ((C u).2.2.2.2.2.2.2.2.2.2.2.2.2.1 _ hca)) ?_
  intro ex9 H' L' hL' hsz' hsame
  have hS' : va_S (rx_AW true ad s.heap.size) s.heap H' (locs ++ L') := by
    refine ⟨Nat.le_trans a5.1 hsz', fun q h1 h2 => by rw [hsame q (Nat.lt_of_lt_of_le h1 a5.1)]; exact a5.2.1 q h1 h2, fun q hq => ?_⟩
    rcases List.mem_append.mp hq with h | h
    · exact a5.2.2 q h
    · exact Or.inr (Nat.le_trans a5.1 (hL' q h))
  have hP' : va_P D rx_cl ws' H' := a3.kept (fun k q hk => hsame q.1 (a3 k q hk).lt)
  obtain ⟨hn1, lv, hl1, kk⟩ := rx_L_setN a6 (x := .ref ex9) hsl hpv
  show W p l e (rx_rm mt 1 7) s m args below meth c H' (locs ++ L') (0 + 1) (0 + 6) _ (F0 m x0.handlerPc ls [.ref ex9])
  refine W.widen (k := 1) (n := 7) (by decide) (by decide) ?_
  rw [e3]
  rcases hast with ⟨d1, rfl⟩ | ⟨f, d1, rfl, rfl⟩
  · exact lv_astore (C u).1 (C u).2.1 d1 hl1 hn1 rfl fun ls' h' => after ad' ws' H' (locs ++ L') ls' [] a1 a2 hP' a4 hS' (kk ls' h') trivial
  · exact lv_astore_n (C u).1 (C u).2.1 d1 rfl hl1 hn1 rfl fun ls' h' => after ad' ws' H' (locs ++ L') ls' [] a1 a2 hP' a4 hS' (kk ls' h') trivial
/-! checked by runs -/
noncomputable def wx_hT (orc orcF : wx_Orc) (t0 : rx_H) (mt mj : rx_MT) (pcI np slot pc2 pcT : Nat) (as : List rx_V) (rv : Int × Int) : Bool :=
  Nat.ble (rx_arg as).length mt.2.2.1 && (match wx true orc rx_ro wx_nb [] t0 0 3000 mt.2.2.2.2.2.1 pcI 0 0 t0 (rx_ini as mt.2.2.1) [] with
    | some (some (d, L1, st), none) => Nat.beq d 0 && (match (rx_pop np st [] fun a r => some (a, r)) with
      | some (o :: as2, r) => rx_eV o (wx_r 0) && (Nat.ble (rx_cats r) 8 && (Nat.ble (slot + 1) L1.length && (rx_pv L1 slot && (Nat.ble (rx_arg (wx_r 0 :: as2)).length mj.2.2.1 &&
        ((match wx false orcF rx_ro wx_nb [] t0 0 3000 mj.2.2.2.2.2.1 pcT 0 0 t0 (rx_ini (wx_r 0 :: as2) mj.2.2.1) [] with
          | some (some (d2, _, st2), none) => Nat.beq d2 0 && Nat.ble (rx_cats st2) 8
          | _ => false) &&
         (match wx true orc rx_ro wx_nb [] t0 0 3000 mt.2.2.2.2.2.1 wx_End pc2 0 t0 (L1.set slot none) [] with
          | some (none, some (d3, v)) => Nat.beq d3 0 && wx_lob v (some (.inl rv))
          | _ => false))))))
      | _ => false)
    | _ => false)
theorem wx_hT_some {orc orcF : wx_Orc} {t0 : rx_H} {mt mj : rx_MT} {pcI np slot pc2 pcT : Nat} {as : List rx_V} {rv : Int × Int} (h : wx_hT orc orcF t0 mt mj pcI np slot pc2 pcT as rv = true) : (rx_arg as).length ≤ mt.2.2.1 ∧ ∃ (L1 L2 : rx_F) (as2 r st2 : List rx_V) (v : Option rx_V), wx true orc rx_ro wx_nb [] t0 0 3000 mt.2.2.2.2.2.1 pcI 0 0 t0 (rx_ini as mt.2.2.1) [] = some (some (0, L1, (wx_r 0 :: as2).reverse ++ r), none) ∧ as2.length + 1 = np ∧ rx_cats r ≤ 8 ∧ slot < L1.length ∧ rx_pv L1 slot = true ∧ (rx_arg (wx_r 0 :: as2)).length ≤ mj.2.2.1 ∧
    wx false orcF rx_ro wx_nb [] t0 0 3000 mj.2.2.2.2.2.1 pcT 0 0 t0 (rx_ini (wx_r 0 :: as2) mj.2.2.1) [] = some (some (0, L2, st2), none) ∧ rx_cats st2 ≤ 8 ∧ wx true orc rx_ro wx_nb [] t0 0 3000 mt.2.2.2.2.2.1 wx_End pc2 0 t0 (L1.set slot none) [] = some (none, some (0, v)) ∧ wx_sem v (some (.inl rv)) := by
  unfold wx_hT at h
  obtain ⟨h1, h⟩ := rx_and2 h
  refine ⟨Nat.le_of_ble_eq_true h1, ?_⟩
  split at h
  · rename_i d L1 st hw
    obtain ⟨h2, h⟩ := rx_and2 h
    have e2 := Nat.eq_of_beq_eq_true h2
    split at h
    · rename_i o as2 r hp
      obtain ⟨x, r', p1, p2, p3⟩ := rx_pop_some hp
      rw [List.append_nil] at p3
      have p4 := Option.some.inj p3
      have p5 : x.reverse = o :: as2 := congrArg Prod.fst p4
      have p6 : r' = r := congrArg Prod.snd p4
      obtain ⟨h3, h⟩ := rx_and2 h
      obtain ⟨h4, h⟩ := rx_and2 h
      obtain ⟨h5, h⟩ := rx_and2 h
      obtain ⟨h6, h⟩ := rx_and2 h
      obtain ⟨h7, h⟩ := rx_and2 h
      obtain ⟨h8, h9⟩ := rx_and2 h
      have eo := rx_eV_ok h3
      split at h8
      · rename_i d2 L2 st2 hw2
        obtain ⟨k1, k2⟩ := rx_and2 h8
        have ek := Nat.eq_of_beq_eq_true k1
        split at h9
        · rename_i d3 v hw3
          obtain ⟨m1, m2⟩ := rx_and2 h9
          have em := Nat.eq_of_beq_eq_true m1
          refine ⟨L1, L2, as2, r, st2, v, ?_, ?_, Nat.le_of_ble_eq_true h4, Nat.le_of_ble_eq_true h5, h6, Nat.le_of_ble_eq_true h7, ?_, Nat.le_of_ble_eq_true k2, ?_, wx_lob_ok m2⟩
          · rw [hw, e2, p1, p6, ← eo, ← p5, List.reverse_reverse]
          · have := congrArg List.length p5
            rw [List.length_reverse, p2] at this
            exact this.symm
          · rw [hw2, ek]
          · rw [hw3, em]
        · cases h9
      · cases h8
    · cases h
  · cases h
theorem wx_hT_ok {l : Launch} (hfl : l.flags = pinnedFlags ++ [noTraceFlag]) {orc orcF : wx_Orc} {Φ : rx_H → rx_H} {t0 : rx_H} (hΦ : wx_Ph Φ) (hO : wx_HO true rx_xM l orc rx_ro Φ t0) (hF : wx_HO false rx_xM l orcF rx_ro Φ t0) {mt mj : rx_MT} (okm : rx_MOk rx_xM mt) (okj : rx_MOk rx_xM mj)
    {pcI i np1 tg np : Nat} {K : rx_K} (hrow : mt.2.2.2.2.2.1 pcI = some (.invokevirtual i, np1, tg, K)) (hK : K.1 = 5) (hmj : rx_xM[K.2.1]? = some mj) (hnp : K.2.2.1 = np) (hcell : ∃ fs, (Φ t0)[0]? = some (.inl (K.2.2.2.toNat, fs))) {lo hi hpc ct : Nat} {ht : List (Nat × Nat × Nat × Nat)} (hcov : lo ≤ pcI ∧ pcI < hi) (hct : ct ≠ 0) {x : Nat} {X : String} (hX : rx_xn[x]? = some X) (hcl : Jvm.Cond.classLink mt.2.2.2.2.1 ct X ∈ rx_bw) (hca : Jvm.Cond.castable X X ∈ rx_tw) {slot pc2 : Nat} (hast : rx_Ast mt hpc slot pc2)
    (hR : 6 ≤ mj.2.2.2.2.2.2.1 ∧ 100 ≤ mj.2.2.2.2.2.2.2.1) (hsite : ∀ pc row, mj.2.2.2.2.2.1 pc = some row → row.2.2.2.1 = 15 → rx_Site mj pc row.2.2.2.2.1) {pcT : Nat} {rowT : rx_Row} (hrT : mj.2.2.2.2.2.1 pcT = some rowT) (h15 : rowT.2.2.2.1 = 15) (hx : rowT.2.2.2.2.1 = x) {as : List rx_V} {rv : Int × Int} (hc : wx_hT orc orcF t0 mt mj pcI np slot pc2 pcT as rv = true)
    (D : va_G) {sb : List Nat} {tt u : Nat} (hsb : sb.length = 20) (htt : tt ≤ 3000) (hu : u ≤ wx_bd) (ad : List Nat) (sz : Nat) : Met l mt.1 (rx_wsH mt ((lo, hi, hpc, ct) :: ht)) (rx_rm mt 1 7) (rx_Pc true D (wx_su sb tt u) ad rx_ro (Φ t0) as sz) (rx_Qc true D (wx_su sb tt (u + 0)) ad (Φ t0) (some (.inl rv)) sz) 1 7 (rx_AW true ad sz) := by
  obtain ⟨hlen, L1, L2, as2, r, st2, v, w1, w2, w3, w4, w5, w6, w7, w8, w9, w10⟩ := wx_hT_some hc
  obtain ⟨fs, hcell⟩ := hcell
  refine wx_Met (wx_helpT (by decide) hΦ rx_hob hO okm hrow hK hmj hcov hct hcl hca hast hlen w1 (by rw [hnp]; exact w2) w3 hcell D hsb htt hu (fun ad sz => wx_thrown hfl (by decide) hΦ rx_hob hF wx_HB_nb okj hR hsite hX hrT h15 hx w6 w7 w8 rx_HS_rf D hsb htt (by omega) ad sz) w4 w5 w9 ad sz) (fun _ _ h => h) (fun a s o t _ hq => rx_Qc_up hsb (Nat.le_refl _) rx_HS_rf w10 a s o t hq) (fun _ h => h)
theorem wx_hT_ok2 {l : Launch} (hfl : l.flags = pinnedFlags ++ [noTraceFlag]) {orc orcF : wx_Orc} {Φ : rx_H → rx_H} {t0 : rx_H} (hΦ : wx_Ph Φ) (hO : wx_HO true rx_xM l orc rx_ro Φ t0) (hF : wx_HO false rx_xM l orcF rx_ro Φ t0) {mt mj : rx_MT} (okm : rx_MOk rx_xM mt) (okj : rx_MOk rx_xM mj)
    {pcI i np1 tg np : Nat} {K : rx_K} (hrow : mt.2.2.2.2.2.1 pcI = some (.invokevirtual i, np1, tg, K)) (hK : K.1 = 5) (hmj : rx_xM[K.2.1]? = some mj) (hnp : K.2.2.1 = np) (hcell : ∃ fs, (Φ t0)[0]? = some (.inl (K.2.2.2.toNat, fs))) {lo hi hpc ct loY hiY hpcY ctY : Nat} {ht : List (Nat × Nat × Nat × Nat)} (hcov : lo ≤ pcI ∧ pcI < hi) (hct : ct ≠ 0) {x : Nat} {X Y : String} (hcovY : loY ≤ pcI ∧ pcI < hiY) (hctY : ctY ≠ 0) (hclY : Jvm.Cond.classLink mt.2.2.2.2.1 ctY Y ∈ rx_bw) (hXY : X = "java/lang/IllegalStateException" ∧ Y = "java/lang/IllegalArgumentException") (hX : rx_xn[x]? = some X) (hcl : Jvm.Cond.classLink mt.2.2.2.2.1 ct X ∈ rx_bw) (hca : Jvm.Cond.castable X X ∈ rx_tw) {slot pc2 : Nat} (hast : rx_Ast mt hpc slot pc2)
    (hR : 6 ≤ mj.2.2.2.2.2.2.1 ∧ 100 ≤ mj.2.2.2.2.2.2.2.1) (hsite : ∀ pc row, mj.2.2.2.2.2.1 pc = some row → row.2.2.2.1 = 15 → rx_Site mj pc row.2.2.2.2.1) {pcT : Nat} {rowT : rx_Row} (hrT : mj.2.2.2.2.2.1 pcT = some rowT) (h15 : rowT.2.2.2.1 = 15) (hx : rowT.2.2.2.2.1 = x) {as : List rx_V} {rv : Int × Int} (hc : wx_hT orc orcF t0 mt mj pcI np slot pc2 pcT as rv = true)
    (D : va_G) {sb : List Nat} {tt u : Nat} (hsb : sb.length = 20) (htt : tt ≤ 3000) (hu : u ≤ wx_bd) (ad : List Nat) (sz : Nat) : Met l mt.1 (rx_wsH mt ((loY, hiY, hpcY, ctY) :: (lo, hi, hpc, ct) :: ht)) (rx_rm mt 1 7) (rx_Pc true D (wx_su sb tt u) ad rx_ro (Φ t0) as sz) (rx_Qc true D (wx_su sb tt (u + 0)) ad (Φ t0) (some (.inl rv)) sz) 1 7 (rx_AW true ad sz) := by
  obtain ⟨hlen, L1, L2, as2, r, st2, v, w1, w2, w3, w4, w5, w6, w7, w8, w9, w10⟩ := wx_hT_some hc
  obtain ⟨fs, hcell⟩ := hcell
  refine wx_Met (wx_helpT2 (by decide) hΦ rx_hob hO okm hrow hK hmj hcov hct hcovY hctY hclY hXY hcl hca hast hlen w1 (by rw [hnp]; exact w2) w3 hcell D hsb htt hu (fun ad sz => wx_thrown hfl (by decide) hΦ rx_hob hF wx_HB_nb okj hR hsite hX hrT h15 hx w6 w7 w8 rx_HS_rf D hsb htt (by omega) ad sz) w4 w5 w9 ad sz) (fun _ _ h => h) (fun a s o t _ hq => rx_Qc_up hsb (Nat.le_refl _) rx_HS_rf w10 a s o t hq) (fun _ h => h)
/-- a helper whose call comes back, checked -/
noncomputable def wx_hR (orc : wx_Orc) (t0 : rx_H) (mt : rx_MT) (dm : Nat) (as : List rx_V) : Bool := match wx_run true orc rx_ro wx_nb t0 dm 3000 mt t0 as with
  | some (dj, v) => Nat.ble dj dm && wx_lob v (some (.inl (0, 2)))
  | none => false
theorem wx_hR_ok {l : Launch} {orc : wx_Orc} {Φ : rx_H → rx_H} {t0 : rx_H} (hΦ : wx_Ph Φ) (hO : wx_HO true rx_xM l orc rx_ro Φ t0) {mt : rx_MT} (okm : rx_MOk rx_xM mt) (hh : List (Nat × Nat × Nat × Nat)) {dm : Nat} {as : List rx_V} (hc : wx_hR orc t0 mt dm as = true) (D : va_G) {sb : List Nat} {tt u : Nat} (hsb : sb.length = 20) (htt : tt ≤ 3000) (hu : u + dm ≤ wx_bd) (ad : List Nat) (sz : Nat) :
    Met l mt.1 (rx_wsH mt hh) (rx_rm mt 1 7) (rx_Pc true D (wx_su sb tt u) ad rx_ro (Φ t0) as sz) (rx_Qc true D (wx_su sb tt (u + dm)) ad (Φ t0) (some (.inl (0, 2))) sz) 1 7 (rx_AW true ad sz) := by
  unfold wx_hR at hc
  split at hc
  · rename_i dj v hr
    obtain ⟨g1, g2⟩ := rx_and2 hc
    have g1 := Nat.le_of_ble_eq_true g1
    exact wx_Met (wx_helpR (by decide) hΦ rx_hob hO okm hh hr D hsb htt hu ad sz) (fun _ _ h => h) (fun a s o t _ hq => rx_Qc_up hsb (by omega) rx_HS_rf (wx_lob_ok g2) a s o t hq) (fun _ h => h)
  · cases hc
