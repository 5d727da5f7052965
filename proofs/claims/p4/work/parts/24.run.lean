/-! BY INDUCTION ON THE FUEL -/
/-- what is known of calls beforehand: contracts; of the law's helpers: rules -/
def rx_HO (wr : Bool) (xM : List rx_MT) (l : Launch) (orc : rx_Orc) (ro : List (List rx_V)) : Prop := ∀ (j : Nat) (mj : rx_MT) (h : rx_H) (as : List rx_V) (v : Option rx_V) (h' : rx_H) (mc ms : Nat), xM[j]? = some mj → orc j h as = some (v, h', mc, ms) → ∀ (D : va_G) (sa ad : List Nat) (sz : Nat), Met l mj.1 (rx_ws mj) (rx_rm mj mc ms) (rx_Pc wr D sa ad ro h as sz) (rx_Qc wr D sa ad h' v sz) mc ms (rx_AW wr ad sz)
def rx_HH (wr : Bool) (xM : List rx_MT) (l : Launch) (orc : rx_Orc) (ro : List (List rx_V)) : Prop := ∀ (p : Program) (e : Env) (R : Room) (s : State) (m : MethodId) (args : Array Value) (below : List Frame) (meth : Method) (c : Code) (Q : State → Prop) (D : va_G) (sa ad0 : List Nat) (mt : rx_MT) (pc np tg i : Nat) (K : rx_K) (h : rx_H) (L : rx_F) (as r : List rx_V) (v : Option rx_V) (h' : rx_H) (dc ds cells slots : Nat),
  rx_Cx p s m args meth c D (rx_AW wr ad0 s.heap.size) (rx_BW wr ad0 s.heap.size) wr sa ro mt → rx_Ok xM mt pc (.invokestatic i, np, tg, K) → K.1 = 16 → orc K.2.1 h as = some (v, h', dc, ds) → as.length = K.2.2.1 → rx_cats r ≤ 8 → R.frames = mt.2.2.2.2.2.2.1 ∧ R.locals = mt.2.2.2.2.2.2.2.1 → cells + dc ≤ R.cells ∧ slots + ds ≤ R.slots →
  rx_Go p l e R s m args below meth c Q D (rx_AW wr ad0 s.heap.size) (rx_BW wr ad0 s.heap.size) sa ad0 mt np h' L (rx_ol v r) (cells + dc) (slots + ds) → rx_Go p l e R s m args below meth c Q D (rx_AW wr ad0 s.heap.size) (rx_BW wr ad0 s.heap.size) sa ad0 mt pc h L (as.reverse ++ r) cells slots
/-- a row that returns, and what -/
def rx_rv (tw : Bool) (row : rx_Row) (st : List rx_V) (v : Option rx_V) : Prop := (∃ q, row.1 = .ireturn ∧ st = [.inl q] ∧ v = some (.inl q) ∧ (row.2.2.2.2.1 = 0 ∨ rx_bool q = true)) ∨ (∃ q, row.1 = .lreturn ∧ st = [.inr (.inl q)] ∧ v = some (.inr (.inl q))) ∨ (∃ q, row.1 = .areturn ∧ st = [.inr (.inr q)] ∧ v = some (.inr (.inr q)) ∧ rx_isr q = true) ∨ (row.1 = .return_ ∧ st = [] ∧ v = none) ∨ (tw = true ∧ ∃ i, row.1 = .new i ∧ row.2.2.2.1 = 15 ∧ rx_cats st ≤ 8 ∧ v = some (.inr (.inr (.inr (100000 + row.2.2.2.2.1)))))
def rx_FF (wr : Bool) (xM : List rx_MT) (orc : rx_Orc) (ro : List (List rx_V)) (l : Launch) (n : Nat) : Prop := ∀ (p : Program) (e : Env) (R : Room) (s : State) (m : MethodId) (args : Array Value) (below : List Frame) (meth : Method) (c : Code) (Q : State → Prop) (D : va_G) (sa ad0 : List Nat) (mt : rx_MT) (tw : Bool) (v : Option rx_V) (h' : rx_H) (mc ms : Nat),
  rx_Cx p s m args meth c D (rx_AW wr ad0 s.heap.size) (rx_BW wr ad0 s.heap.size) wr sa ro mt → rx_MOk xM mt → (R.frames = mt.2.2.2.2.2.2.1 ∧ R.locals = mt.2.2.2.2.2.2.2.1) → (mc ≤ R.cells ∧ ms ≤ R.slots) → (∀ pc row L st, mt.2.2.2.2.2.1 pc = some row → rx_rv tw row st v → rx_Go p l e R s m args below meth c Q D (rx_AW wr ad0 s.heap.size) (rx_BW wr ad0 s.heap.size) sa ad0 mt pc h' L st mc ms) →
  ∀ (pc : Nat) (h : rx_H) (L : rx_F) (st : List rx_V) (cc ss : Nat), rx_ex wr xM orc ro n tw mt.2.2.2.2.2.1 pc h L st cc ss = some (v, h', mc, ms) → rx_Go p l e R s m args below meth c Q D (rx_AW wr ad0 s.heap.size) (rx_BW wr ad0 s.heap.size) sa ad0 mt pc h L st cc ss
def rx_MM (wr : Bool) (xM : List rx_MT) (orc : rx_Orc) (ro : List (List rx_V)) (l : Launch) (n : Nat) : Prop := ∀ (mt : rx_MT), rx_MOk xM mt → ∀ (D : va_G) (sa ad : List Nat) (h : rx_H) (as : List rx_V) (v : Option rx_V) (h' : rx_H) (mc ms sz : Nat), (rx_arg as).length ≤ mt.2.2.1 → rx_ex wr xM orc ro n false mt.2.2.2.2.2.1 0 h (rx_ini as mt.2.2.1) [] 0 0 = some (v, h', mc, ms) →
  Met l mt.1 (rx_ws mt) (rx_rm mt mc ms) (rx_Pc wr D sa ad ro h as sz) (rx_Qc wr D sa ad h' v sz) mc ms (rx_AW wr ad sz)
theorem rx_retb {q : Int × Int} {x : Int32} (hb : rx_bool q = true) (hx : rx_has q x.toInt) : narrow .boolean (.int x) = .int x := by
  rcases rx_b01 hb hx with rfl | rfl <;> decide
/-- a method's own end -/
theorem rx_RT {wr : Bool} {xM : List rx_MT} {l : Launch} {p : Program} {e : Env} {R : Room} {s : State} {m : MethodId} {args : Array Value} {below : List Frame} {meth : Method} {c : Code} {D : va_G} {sa ad0 : List Nat} {ro : List (List rx_V)} {mt : rx_MT} {v : Option rx_V} {h' : rx_H} {mc ms : Nat} (C : rx_Cx p s m args meth c D (rx_AW wr ad0 s.heap.size) (rx_BW wr ad0 s.heap.size) wr sa ro mt) (ok : rx_MOk xM mt) :
    ∀ pc row L st, mt.2.2.2.2.2.1 pc = some row → rx_rv false row st v → rx_Go p l e R s m args below meth c (MQ below (rx_Qc wr D sa ad0 h' v s.heap.size) args s mc ms (rx_AW wr ad0 s.heap.size)) D (rx_AW wr ad0 s.heap.size) (rx_BW wr ad0 s.heap.size) sa ad0 mt pc h' L st mc ms := by
  intro pc row L st hrow hrv
  have rok := ok.1 pc row hrow
  have hrt : ∀ {ad : List Nat} {ws : va_W} {H : Heap} {locs : List Loc} {r : Option Value}, ad0 <+: ad → rx_W s ad sa h' ws → va_P D rx_cl ws H → va_D (rx_BW wr ad0 s.heap.size) ws → va_S (rx_AW wr ad0 s.heap.size) s.heap H locs → rx_O ad sa v r → ∀ t : State, t.heap = H → s.WarmedH t.vm → rx_Qc wr D sa ad0 h' v s.heap.size args s (.returned r) t := by
    intro ad ws H locs r a1 a2 a3 a4 a5 ho t ht hW
    exact ⟨r, ad, ws, rfl, ho, a1, rx_W_moved hW.alike a2, by rw [ht]; exact a3, a4, a5.F ht⟩
  obtain ⟨ins, np, tg, K⟩ := row
  intro ad ws H locs ls vs a1 a2 a3 a4 a5 a6 a7
  rcases hrv with ⟨q, hi, hst, hv, hb⟩ | ⟨q, hi, hst, hv⟩ | ⟨q, hi, hst, hv, hqr⟩ | ⟨hi, hst, hv⟩ | ⟨hz, -⟩
  · cases hi
    subst hv
    obtain ⟨hd, -⟩ := rok.dec (n := 0) rfl
    rw [hst] at a7
    obtain ⟨x, xs, rfl, ⟨i, rfl, hx⟩, a8⟩ := rx_S_cons a7
    cases rx_S_nil a8
    have hq := hrt (r := some (.int i)) a1 a2 a3 a4 a5 ⟨i, rfl, hx⟩
    by_cases h0 : K.2.1 = 0
    · exact W.iret C.1 C.2.1 (C.2.2.2.2.2.1.trans (rok.2.2.1 h0)) hq a5.2.2 hd (hlocks := C.2.2.2.2.2.2.1)
    · rcases hb with hb | hb
      · exact absurd hb h0
      · exact W.zret (ty := .boolean) C.1 C.2.1 (C.2.2.2.2.2.1.trans (rok.2.2.2 h0)) (rx_retb hb hx) hq a5.2.2 hd (hlocks := C.2.2.2.2.2.2.1)
  · cases hi
    subst hv
    obtain ⟨hd, -⟩ := rok.dec (n := 0) rfl
    rw [hst] at a7
    obtain ⟨x, xs, rfl, ⟨i, rfl, hx⟩, a8⟩ := rx_S_cons a7
    cases rx_S_nil a8
    have hq := hrt (r := some (.long i)) a1 a2 a3 a4 a5 ⟨i, rfl, hx⟩
    exact W.lret C.1 C.2.1 (C.2.2.2.2.2.1.trans rok.2.2) hq a5.2.2 hd (hlocks := C.2.2.2.2.2.2.1)
  · cases hi
    subst hv
    obtain ⟨hd, -⟩ := rok.dec (n := 0) rfl
    rw [hst] at a7
    obtain ⟨x, xs, rfl, hx, a8⟩ := rx_S_cons a7
    cases rx_S_nil a8
    have hq := hrt (r := some x) a1 a2 a3 a4 a5 hx
    obtain ⟨nm, e1⟩ := rok.2.2
    exact W.aret C.1 C.2.1 (C.2.2.2.2.2.1.trans e1) (Or.inl ⟨nm, rfl⟩) (rx_ref hqr hx) hq a5.2.2 hd (hlocks := C.2.2.2.2.2.2.1)
  · cases hi
    subst hv
    obtain ⟨hd, -⟩ := rok.dec (n := 0) rfl
    rw [hst] at a7
    cases rx_S_nil a7
    have hq := hrt (r := none) a1 a2 a3 a4 a5 trivial
    exact W.vret C.1 C.2.1 (C.2.2.2.2.2.1.trans rok.2.2) hq a5.2.2 hd (hlocks := C.2.2.2.2.2.2.1)
  · cases hz
theorem rx_M_of_F {wr : Bool} {xM : List rx_MT} {orc : rx_Orc} {ro : List (List rx_V)} {l : Launch} {n : Nat} (hF : rx_FF wr xM orc ro l n) : rx_MM wr xM orc ro l n := by
  intro mt ok D sa ad h as v h' mc ms sz hlen hr
  refine Met.ofW (cc := mt.2.1) (maxL := mt.2.2.1) (ret := mt.2.2.2.1) ok.2.2 rfl ?_
  intro p e s m args below meth c s₁ B hml hv
  obtain ⟨vs, rfl, hS, rfl, hK, hN, hRO, hTW, ws, hW, hP, hD⟩ := hv
  have C : rx_Cx p s m vs.toArray meth c D (rx_AW wr ad s.heap.size) (rx_BW wr ad s.heap.size) wr sa ro mt := ⟨B.exec, B.bytes, hml, by rw [ok.2.1]; exact findClass_of_methodNamed B.named, fun w hw => atoms_spec (ws := rx_ws mt) B.pre w (List.mem_cons_of_mem _ hw), B.returns, B.notSynchronized, (name_of_methodNamed B.named B.method).1, hK, fun q h => Or.inr h, hRO, hN, rx_BAW, hTW⟩
  have hl := lv_entry vs (n := mt.2.2.1) (by rw [rx_sl_len hS]; exact hlen)
  rw [lg_entry_eq]
  generalize (lg_sl vs ++ List.replicate (mt.2.2.1 - (lg_sl vs).length) Slot.unset).toArray = ls at hl ⊢
  refine hF p e _ s m vs.toArray below meth c _ D sa ad mt false v h' mc ms C ok ⟨rfl, rfl⟩ ⟨Nat.le_refl _, Nat.le_refl _⟩ (rx_RT C ok) 0 h _ [] 0 0 hr ad ws s.heap [] ls [] (List.prefix_refl _) hW hP ?_ va_S.rf (rx_ini_L hS hlen hl) trivial
  refine hD.weaken (fun k q hk _ => rx_AB (Or.inl ?_))
  rw [← hW.1]
  exact List.mem_map.mpr ⟨q, List.mem_of_getElem? hk, rfl⟩
set_option maxHeartbeats 4000000 in
theorem rx_F_step {wr : Bool} {xM : List rx_MT} {orc : rx_Orc} {ro : List (List rx_V)} {l : Launch} (hXl : xM.length ≤ 1000) (hO : rx_HO wr xM l orc ro) (hH : rx_HH wr xM l orc ro) (hX : ∀ (j : Nat) (mj : rx_MT), xM[j]? = some mj → rx_MOk xM mj) (hob : Jvm.Cond.instanceMethod Lib.objectInit ∈ rx_bw ∧ Jvm.Cond.code Lib.objectInit ⟨#[0xb1]⟩ 1 none ∈ rx_bw) {n : Nat} (hF : rx_FF wr xM orc ro l n) : rx_FF wr xM orc ro l (n + 1) := by
  have hM := rx_M_of_F hF
  intro p e R s m args below meth c Q D sa ad0 mt tw v h' mc ms C ok hRm hR hret pc h L st cc ss hs
  obtain ⟨row, hrow, hs⟩ := rx_ex_succ hs
  have rok := ok.1 pc row hrow
  have hmono : ∀ {pc' : Nat} {h1 : rx_H} {L' : rx_F} {st' : List rx_V} {a b : Nat}, rx_ex wr xM orc ro n tw mt.2.2.2.2.2.1 pc' h1 L' st' a b = some (v, h', mc, ms) → a ≤ R.cells ∧ b ≤ R.slots := fun q => by have := rx_ex_mono n q; omega
  have hgo : ∀ {pc' : Nat} {h1 : rx_H} {L' : rx_F} {st' : List rx_V} {a b : Nat}, rx_ex wr xM orc ro n tw mt.2.2.2.2.2.1 pc' h1 L' st' a b = some (v, h', mc, ms) → rx_Go p l e R s m args below meth c Q D (rx_AW wr ad0 s.heap.size) (rx_BW wr ad0 s.heap.size) sa ad0 mt pc' h1 L' st' a b := fun q => hF p e R s m args below meth c Q D sa ad0 mt tw v h' mc ms C ok hRm hR hret _ _ _ _ _ _ q
  have hcal : ∀ {j : Nat} {mj : rx_MT} {as : List rx_V} {v1 : Option rx_V} {h1 : rx_H} {dc ds : Nat}, xM[j]? = some mj → (orc j h as = some (v1, h1, dc, ds) ∨ ∃ mj, xM[j]? = some mj ∧ (rx_arg as).length ≤ mj.2.2.1 ∧ rx_ex wr xM orc ro n false mj.2.2.2.2.2.1 0 h (rx_ini as mj.2.2.1) [] 0 0 = some (v1, h1, dc, ds)) → ∀ (ad : List Nat) (sz : Nat), Met l mj.1 (rx_ws mj) (rx_rm mj dc ds) (rx_Pc wr D sa ad ro h as sz) (rx_Qc wr D sa ad h1 v1 sz) dc ds (rx_AW wr ad sz) := by
    intro j mj as v1 h1 dc ds hj hq ad sz
    rcases hq with hq | ⟨mj', g1, g2, g3⟩
    · exact hO j mj h as v1 h1 dc ds hj hq D sa ad sz
    · cases g1.symm.trans hj
      exact hM mj (hX _ _ hj) D sa ad h as v1 h1 dc ds sz g2 g3
  have S : CallFix p m c mt.2.1 mt.2.2.1 s args rx_bw mt.2.2.2.2.1 := ⟨C.1, C.2.1, C.2.2.1, C.2.2.2.1, C.2.2.2.2.1⟩
  obtain ⟨ins, np, tg, K⟩ := row
  refine rx_step_ok C rok hob hRm (fun pc' h1 L' st' dc ds q => ⟨hmono q, hgo q⟩) ?_ ?_ ?_ (fun q hi hr hst hb => ?_) (fun q hi hr hst => ?_) (fun q hi hr hst hqr => ?_) (fun hi hr hst => ?_) (fun i hi hK h8 ht => ?_) hs
  · intro i a as r ci fs hi hK hc hst hn hcat hcell hci
    cases hi
    obtain ⟨v1, h1, dc, ds, g4, g3⟩ := rx_call_some hc
    obtain ⟨mj, q, np', g1, ⟨e2, e3, e4, e5, e6, e7, e8⟩, e9, e10, e11, e12, e13, e14⟩ := rok.2.2 hK
    obtain ⟨hd, rfl⟩ := rok.dec (n := 2) rfl
    intro ad ws H locs ls vs a1 a2 a3 a4 a5 a6 a7
    rw [hst] at a7
    obtain ⟨l1, l2, rfl, s1, s2⟩ := rx_S_app a7
    have s3 := rx_S_rev s1
    rw [List.reverse_reverse] at s3
    obtain ⟨x, xs, ex, ⟨b, hb, rfl⟩, s4⟩ := rx_S_cons s3
    have el : l1 = xs.reverse ++ [Value.ref b] := by rw [← List.reverse_reverse l1, ex, List.reverse_cons]
    have hxs : xs.length = np' := by rw [← rx_S_len s4]; have hn : as.length + 1 = K.2.2.1 := hn; omega
    obtain ⟨a', E, hx1, hw, fs', rfl, -⟩ := rx_W_get a2 hcell (show rx_G ad sa (.inr (.inr (.inl (some a)))) (.ref b) from ⟨b, hb, rfl⟩)
    cases hx1
    have hw0 : wr = true ∨ ∀ q, rx_BW wr ad0 s.heap.size q := by
      cases wr
      · exact Or.inr (fun q => Or.inl rfl)
      · exact Or.inl rfl
    have hA := rx_inA C hw0 a2 a4 a5
    have hB := rx_inB C hw0 a2 a4 a5
    have hm := hmono g4
    have hrecv := va_recv C.2.2.2.2.2.2.2.2.1 a3 (ci := ci) (q0 := a) (q := q) (by rw [hci]; exact e10) hw
    rw [e11] at hrecv
    refine rx_goon (va_runV (As := xs) (rest := l2) (g := F0 m pc ls (l1 ++ l2)) S (hcal g1 g3 ad H.size) (cwV np' C.2.2.2.2.1 (rx_goodc (fun w hw => by
        simp only [List.mem_cons, List.not_mem_nil, or_false] at hw
        rcases hw with rfl | rfl | rfl | rfl
        · exact e12
        · exact e13
        · exact e14
        · exact e5) (rx_goodm e4)) rfl rfl rfl ⟨rfl, e6, e7, e8⟩ ⟨by rw [hRm.1]; exact e2, by rw [hRm.2]; exact e3⟩)
      ⟨rx_blind, hrecv, fun U hU hW => rx_start C hw0 a2 a3 a4 a5 (as := .inr (.inr (.inl (some a))) :: as) (vs := .ref b :: xs) ⟨⟨b, hb, rfl⟩, s4⟩ U hU hW⟩ rfl hxs (by obtain ⟨l0, z1, -⟩ := a6; exact z1.1) (by show l1 ++ l2 = _; rw [el, List.append_assoc]; rfl) (lv_room (by rw [rx_S_cats s2]; exact hcat)) hd hm) a5 hA hB
      (fun r' ad' ws' H1 locs1 o1 o2 o3 o4 o5 o6 => ?_)
    exact hgo g4 ad' ws' H1 locs1 ls _ (List.IsPrefix.trans a1 o2) o3 o4 o5 o6 (rx_L_up o2 a6) (rx_O_st o1 (rx_S_up o2 s2))
  · intro i as r hi hK hc hst hn hcat
    cases hi
    obtain ⟨v1, h1, dc, ds, g4, g3⟩ := rx_call_some hc
    obtain ⟨hd, rfl⟩ := rok.dec (n := 2) rfl
    intro ad ws H locs ls vs a1 a2 a3 a4 a5 a6 a7
    rw [hst] at a7
    obtain ⟨l1, l2, rfl, s1, s2⟩ := rx_S_app a7
    have s3 := rx_S_rev s1
    rw [List.reverse_reverse] at s3
    have hw0 : wr = true ∨ ∀ q, rx_BW wr ad0 s.heap.size q := by
      cases wr
      · exact Or.inr (fun q => Or.inl rfl)
      · exact Or.inl rfl
    have hA := rx_inA C hw0 a2 a4 a5
    have hB := rx_inB C hw0 a2 a4 a5
    have hm := hmono g4
    have hn : as.length = K.2.2.1 := hn
    have fin : ∀ (r' : Option Value) (ad' : List Nat) (ws' : va_W) (H1 : Heap) (locs1 : List Loc), rx_O ad' sa v1 r' → ad <+: ad' → rx_W s ad' sa h1 ws' → va_P D rx_cl ws' H1 → va_D (rx_BW wr ad0 s.heap.size) ws' → va_S (rx_AW wr ad0 s.heap.size) s.heap H1 locs1 → W p l e R s m args below meth c H1 locs1 (cc + dc) (ss + ds) Q (F0 m (pc + 3) ls (r'.toList ++ l2)) :=
      fun r' ad' ws' H1 locs1 o1 o2 o3 o4 o5 o6 => hgo g4 ad' ws' H1 locs1 ls _ (List.IsPrefix.trans a1 o2) o3 o4 o5 o6 (rx_L_up o2 a6) (rx_O_st o1 (rx_S_up o2 s2))
    rcases hK with hK | hK | hK
    · obtain ⟨mj, np', g1, ⟨e2, e3, e4, e5, e6, e7, e8⟩, e9, e12, e13⟩ := rok.2.2.1 hK
      exact rx_goon (va_runS (As := l1.reverse) (rest := l2) (g := F0 m pc ls (l1 ++ l2)) S (hcal g1 g3 ad H.size) (va_cwS np' C.2.2.2.2.1 (rx_goodc (fun w hw => by
        simp only [List.mem_cons, List.not_mem_nil, or_false] at hw
        rcases hw with rfl | rfl | rfl
        · exact e12
        · exact e13
        · exact e5) (rx_goodm e4)) rfl rfl rfl ⟨e6, e7, e8⟩ ⟨by rw [hRm.1]; exact e2, by rw [hRm.2]; exact e3⟩)
        ⟨rx_blind, fun U hU hW => rx_start C hw0 a2 a3 a4 a5 s3 U hU hW⟩ rfl (by rw [← rx_S_len s3, hn, e9]) (by obtain ⟨l0, z1, -⟩ := a6; exact z1.1) (by show l1 ++ l2 = _; rw [List.reverse_reverse]) (lv_room (by rw [rx_S_cats s2]; exact hcat)) hd hm) a5 hA hB fin
    · obtain ⟨mj, np', g1, ⟨e2, e3, e4, e5, e6, e7, e8⟩, e9, e12, e13⟩ := rok.2.2.2.1 hK
      exact rx_goon (va_runSN (As := l1.reverse) (rest := l2) (g := F0 m pc ls (l1 ++ l2)) S (hcal g1 g3 ad H.size) ⟨va_cnB np' C.2.2.2.2.1 (rx_goodm e4) rfl rfl rfl (C.2.2.2.2.2.2.2.2.2.2.2.1.1 _ e12) (C.word e5) ⟨e6, e7, e8⟩ ⟨by rw [hRm.1]; exact e2, by rw [hRm.2]; exact e3⟩, C.word e13, trivial⟩
        ⟨rx_blind, fun U hU hW => rx_start C hw0 a2 a3 a4 a5 s3 U hU hW⟩ rfl (by rw [← rx_S_len s3, hn, e9]) (by obtain ⟨l0, z1, -⟩ := a6; exact z1.1) (by show l1 ++ l2 = _; rw [List.reverse_reverse]) (lv_room (by rw [rx_S_cats s2]; exact hcat)) hd hm) a5 hA hB fin
    · have hK1 := (rok.2.2.2.2.2 hK).1
      rcases g3 with g3 | ⟨mj, g1, -⟩
      · exact hH p e R s m args below meth c Q D sa ad0 mt pc (pc + 3) tg i K h L as r v1 h1 dc ds cc ss C rok hK g3 hn hcat hRm hm (hgo g4) ad ws H locs ls (l1 ++ l2) a1 a2 a3 a4 a5 a6 a7
      · have := (List.getElem?_eq_some_iff.mp g1).1
        have hz : K.2.1 < xM.length := this
        omega
  · intro i a as r hi hK hc hst hn hcat
    cases hi
    obtain ⟨v1, h1, dc, ds, g4, g3⟩ := rx_call_some hc
    obtain ⟨hd, rfl⟩ := rok.dec (n := 2) rfl
    intro ad ws H locs ls vs a1 a2 a3 a4 a5 a6 a7
    rw [hst] at a7
    obtain ⟨l1, l2, rfl, s1, s2⟩ := rx_S_app a7
    have s3 := rx_S_rev s1
    rw [List.reverse_reverse] at s3
    obtain ⟨x, xs, ex, ⟨b, hb, rfl⟩, s4⟩ := rx_S_cons s3
    have el : l1 = xs.reverse ++ [Value.ref b] := by rw [← List.reverse_reverse l1, ex, List.reverse_cons]
    have hw0 : wr = true ∨ ∀ q, rx_BW wr ad0 s.heap.size q := by
      cases wr
      · exact Or.inr (fun q => Or.inl rfl)
      · exact Or.inl rfl
    have hA := rx_inA C hw0 a2 a4 a5
    have hB := rx_inB C hw0 a2 a4 a5
    have hm := hmono g4
    have hn : as.length + 1 = K.2.2.1 := hn
    have fin : ∀ (r' : Option Value) (ad' : List Nat) (ws' : va_W) (H1 : Heap) (locs1 : List Loc), rx_O ad' sa v1 r' → ad <+: ad' → rx_W s ad' sa h1 ws' → va_P D rx_cl ws' H1 → va_D (rx_BW wr ad0 s.heap.size) ws' → va_S (rx_AW wr ad0 s.heap.size) s.heap H1 locs1 → W p l e R s m args below meth c H1 locs1 (cc + dc) (ss + ds) Q (F0 m (pc + 3) ls (r'.toList ++ l2)) :=
      fun r' ad' ws' H1 locs1 o1 o2 o3 o4 o5 o6 => hgo g4 ad' ws' H1 locs1 ls _ (List.IsPrefix.trans a1 o2) o3 o4 o5 o6 (rx_L_up o2 a6) (rx_O_st o1 (rx_S_up o2 s2))
    rcases hK with hK | hK
    · obtain ⟨mj, np', g1, ⟨e2, e3, e4, e5, e6, e7, e8⟩, e9, e10, e11, e12, e13⟩ := rok.2.2.2.1 hK
      have hw : rx_ws mj = Jvm.Cond.code mj.1 mj.2.1 mj.2.2.1 none :: rx_bw := by unfold rx_ws; rw [e11]
      exact rx_goon (va_runI (b := b) (As := xs) (rest := l2) (g := F0 m pc ls (l1 ++ l2)) S (hcal g1 g3 ad H.size) (cwI np' C.2.2.2.2.1 (rx_goodm e4) hw rfl rfl (C.word e5) (C.word e12) (C.word e13) e10 ⟨e6, e7, e8⟩ ⟨by rw [hRm.1]; exact e2, by rw [hRm.2]; exact e3⟩)
        ⟨rx_blind, fun U hU hW => rx_start C hw0 a2 a3 a4 a5 (as := .inr (.inr (.inl (some a))) :: as) (vs := .ref b :: xs) ⟨⟨b, hb, rfl⟩, s4⟩ U hU hW⟩ rfl (by rw [← rx_S_len s4]; omega) (by obtain ⟨l0, z1, -⟩ := a6; exact z1.1) (by show l1 ++ l2 = _; rw [el, List.append_assoc]; rfl) (lv_room (by rw [rx_S_cats s2]; exact hcat)) hd hm) a5 hA hB fin
    · obtain ⟨mj, np', g1, ⟨e2, e3, e4, e5, e6, e7, e8⟩, e9, e10, e11, e12, e13⟩ := rok.2.2.2.2 hK
      have hw : rx_ws mj = Jvm.Cond.code mj.1 mj.2.1 mj.2.2.1 none :: rx_bw := by unfold rx_ws; rw [e11]
      exact rx_goon (va_runIN (b := b) (As := xs) (rest := l2) (g := F0 m pc ls (l1 ++ l2)) S (hcal g1 g3 ad H.size) ⟨va_cnB np' C.2.2.2.2.1 (rx_goodm e4) hw rfl rfl (C.2.2.2.2.2.2.2.2.2.2.2.1.1 _ e12) (C.word e5) ⟨e6, e7, e8⟩ ⟨by rw [hRm.1]; exact e2, by rw [hRm.2]; exact e3⟩, e10, C.word e13⟩
        ⟨rx_blind, fun U hU hW => rx_start C hw0 a2 a3 a4 a5 (as := .inr (.inr (.inl (some a))) :: as) (vs := .ref b :: xs) ⟨⟨b, hb, rfl⟩, s4⟩ U hU hW⟩ rfl (by rw [← rx_S_len s4]; omega) (by obtain ⟨l0, z1, -⟩ := a6; exact z1.1) (by show l1 ++ l2 = _; rw [el, List.append_assoc]; rfl) (lv_room (by rw [rx_S_cats s2]; exact hcat)) hd hm) a5 hA hB fin
  · cases hr; exact hret pc _ L st hrow (Or.inl ⟨q, hi, hst, rfl, hb⟩)
  · cases hr; exact hret pc _ L st hrow (Or.inr (Or.inl ⟨q, hi, hst, rfl⟩))
  · cases hr; exact hret pc _ L st hrow (Or.inr (Or.inr (Or.inl ⟨q, hi, hst, rfl, hqr⟩)))
  · cases hr; exact hret pc _ L st hrow (Or.inr (Or.inr (Or.inr (Or.inl ⟨hi, hst, rfl⟩))))
  · obtain ⟨h1, ht⟩ := rx_bif ht
    cases ht
    exact hret pc _ L st hrow (Or.inr (Or.inr (Or.inr (Or.inr ⟨h1, i, hi, hK, h8, rfl⟩))))
theorem rx_F_all {wr : Bool} {xM : List rx_MT} {orc : rx_Orc} {ro : List (List rx_V)} (l : Launch) (hXl : xM.length ≤ 1000) (hO : rx_HO wr xM l orc ro) (hH : rx_HH wr xM l orc ro) (hX : ∀ (j : Nat) (mj : rx_MT), xM[j]? = some mj → rx_MOk xM mj) (hob : Jvm.Cond.instanceMethod Lib.objectInit ∈ rx_bw ∧ Jvm.Cond.code Lib.objectInit ⟨#[0xb1]⟩ 1 none ∈ rx_bw) : ∀ n, rx_FF wr xM orc ro l n := by
  intro n
  induction n with
  | zero =>
    intro p e R s m args below meth c Q D sa ad0 mt tw v h' mc ms C ok hRm hR hret pc h L st cc ss hs
    cases hs
  | succ n ih => exact rx_F_step hXl hO hH hX hob ih
/-- A RUN OF THE LITTLE MACHINE IS THE METHOD'S CONTRACT -/
theorem rx_met {wr : Bool} {xM : List rx_MT} {orc : rx_Orc} {ro : List (List rx_V)} (l : Launch) (hXl : xM.length ≤ 1000) (hO : rx_HO wr xM l orc ro) (hH : rx_HH wr xM l orc ro) (hX : ∀ (j : Nat) (mj : rx_MT), xM[j]? = some mj → rx_MOk xM mj) (hob : Jvm.Cond.instanceMethod Lib.objectInit ∈ rx_bw ∧ Jvm.Cond.code Lib.objectInit ⟨#[0xb1]⟩ 1 none ∈ rx_bw) (n : Nat) : rx_MM wr xM orc ro l n := rx_M_of_F (rx_F_all l hXl hO hH hX hob n)
def rx_no : rx_Orc := fun _ _ _ => none
theorem rx_HO_no {wr : Bool} {xM : List rx_MT} {l : Launch} {ro : List (List rx_V)} : rx_HO wr xM l rx_no ro := by
  intro j mj h as v h' mc ms _ ho
  cases ho
theorem rx_HH_no {wr : Bool} {xM : List rx_MT} {l : Launch} {ro : List (List rx_V)} : rx_HH wr xM l rx_no ro := by
  intro p e R s m args below meth c Q D sa ad0 mt pc np tg i K h L as r v h' dc ds cells slots _ _ _ ho
  cases ho
/-- a guess that speaks only of methods of the table, by their contracts -/
theorem rx_HH_low {wr : Bool} {xM : List rx_MT} {l : Launch} {orc : rx_Orc} {ro : List (List rx_V)} (h : ∀ (j : Nat) (h : rx_H) (as : List rx_V), 1000 ≤ j → orc j h as = none) : rx_HH wr xM l orc ro := by
  intro p e R s m args below meth c Q D sa ad0 mt pc np tg i K h0 L as r v h' dc ds cells slots _ ok hK ho
  have h1 := (ok.2.2.2.2.2 hK).1
  rw [h _ _ _ h1] at ho
  cases ho
