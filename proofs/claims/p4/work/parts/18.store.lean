/-! stores into arrays, new cells, Object's constructor -/
theorem rx_lset {α : Type} {l : List α} {i j : Nat} {x w : α} (h : (l.set i x)[j]? = some w) : (j = i ∧ w = x) ∨ (j ≠ i ∧ l[j]? = some w) := by
  by_cases hij : i = j
  · subst hij
    have hl := (List.getElem?_eq_some_iff.mp h).1
    rw [List.length_set] at hl
    rw [List.getElem?_set_self hl] at h
    cases h
    exact Or.inl ⟨rfl, rfl⟩
  · rw [List.getElem?_set_ne hij] at h
    exact Or.inr ⟨fun e => hij e.symm, h⟩
section OPS
variable {p : Program} {l : Launch} {e : Env} {R : Room} {s : State} {m : MethodId} {args : Array Value} {below : List Frame} {meth : Method} {c : Code} {Q : State → Prop} {D : va_G} {A B : Nat → Prop} {wr : Bool} {sa ad0 : List Nat} {ro : List (List rx_V)} {mt : rx_MT} {xM : List rx_MT} {pc np tg : Nat} {K : rx_K} {h : rx_H} {L : rx_F} {st r : List rx_V} {cells slots : Nat} {k0 : Nat} {o : Nat × List rx_V} {q u : Int × Int}
theorem rx_o_iastore (C : rx_Cx p s m args meth c D A B wr sa ro mt) (hwr : wr = true) (ok : rx_Ok xM mt pc (.iastore, np, tg, K)) (hc : h[k0]? = some (.inr o)) (ho : o.1 = 0) (h1 : rx_one q = true) (h2 : rx_le 0 q.1 = true) (hv : q.1.toNat < o.2.length) (k : rx_Go p l e R s m args below meth c Q D A B sa ad0 mt np (h.set k0 (.inr (o.1, o.2.set q.1.toNat (.inl u)))) L r cells slots) : rx_Go p l e R s m args below meth c Q D A B sa ad0 mt pc h L (.inl u :: .inl q :: .inr (.inr (.inl (some k0))) :: r) cells slots := by
  obtain ⟨hd, rfl⟩ := ok.dec (n := 0) rfl
  have hBA := (C.2.2.2.2.2.2.2.2.2.2.2.2.1 hwr).symm
  subst hBA
  intro ad ws H locs ls vs a1 a2 a3 a4 a5 a6 a7
  obtain ⟨z, v1, rfl, ⟨w, rfl, hw0⟩, b7⟩ := rx_S_cons a7
  obtain ⟨y, v2, rfl, ⟨i, rfl, hi⟩, a8⟩ := rx_S_cons b7
  obtain ⟨x, vs, rfl, hx, a9⟩ := rx_S_cons a8
  obtain ⟨t, lo⟩ := o
  cases ho
  obtain ⟨a, E, rfl, hw, cA, hA, f, rfl, hf⟩ := rx_W_get a2 hc hx
  obtain ⟨g1, g2⟩ := rx_idx h1 h2 hi hv
  refine va_iast C.1 C.2.1 (rx_Kt C hA) a3 a4 a5 k0 0 hw rfl g1 hd fun H1 locs1 b1 b2 b3 => k ad _ H1 locs1 ls vs a1 (rx_W_set a2 hw ⟨cA, hA, _, by rw [List.length_set], fun j v hj => ?_⟩) b1 b2 b3 a6 a9
  rw [g2]
  rcases rx_lset hj with ⟨rfl, rfl⟩ | ⟨n, hj⟩
  · rw [pk_us]; exact ⟨w, rfl, hw0⟩
  · rw [pk_un n]; exact hf j v hj
theorem rx_nar1 {x : Int32} (hb : rx_bool u = true) (hx : rx_has u x.toInt) : vp_nar .boolean x = x := by
  rcases rx_b01 hb hx with rfl | rfl <;> decide
theorem rx_o_bastore (C : rx_Cx p s m args meth c D A B wr sa ro mt) (hwr : wr = true) (ok : rx_Ok xM mt pc (.bastore, np, tg, K)) (hb : rx_bool u = true) (hc : h[k0]? = some (.inr o)) (ho : o.1 = 1) (h1 : rx_one q = true) (h2 : rx_le 0 q.1 = true) (hv : q.1.toNat < o.2.length) (k : rx_Go p l e R s m args below meth c Q D A B sa ad0 mt np (h.set k0 (.inr (o.1, o.2.set q.1.toNat (.inl u)))) L r cells slots) : rx_Go p l e R s m args below meth c Q D A B sa ad0 mt pc h L (.inl u :: .inl q :: .inr (.inr (.inl (some k0))) :: r) cells slots := by
  obtain ⟨hd, rfl⟩ := ok.dec (n := 0) rfl
  have hBA := (C.2.2.2.2.2.2.2.2.2.2.2.2.1 hwr).symm
  subst hBA
  intro ad ws H locs ls vs a1 a2 a3 a4 a5 a6 a7
  obtain ⟨z, v1, rfl, ⟨w, rfl, hw0⟩, b7⟩ := rx_S_cons a7
  obtain ⟨y, v2, rfl, ⟨i, rfl, hi⟩, a8⟩ := rx_S_cons b7
  obtain ⟨x, vs, rfl, hx, a9⟩ := rx_S_cons a8
  obtain ⟨t, lo⟩ := o
  cases ho
  obtain ⟨a, E, rfl, hw, cA, hA, f, rfl, hf⟩ := rx_W_get a2 hc hx
  obtain ⟨g1, g2⟩ := rx_idx h1 h2 hi hv
  refine va_zast C.1 C.2.1 (rx_Kt C hA) a3 a4 a5 k0 0 hw rfl g1 hd fun H1 locs1 b1 b2 b3 => k ad _ H1 locs1 ls vs a1 (rx_W_set a2 hw ⟨cA, hA, _, by rw [List.length_set], fun j v hj => ?_⟩) b1 b2 b3 a6 a9
  rw [g2, rx_nar1 hb hw0]
  rcases rx_lset hj with ⟨rfl, rfl⟩ | ⟨n, hj⟩
  · rw [pk_us]; exact ⟨w, rfl, hw0⟩
  · rw [pk_un n]; exact hf j v hj
theorem rx_o_lastore (C : rx_Cx p s m args meth c D A B wr sa ro mt) (hwr : wr = true) (ok : rx_Ok xM mt pc (.lastore, np, tg, K)) (hc : h[k0]? = some (.inr o)) (ho : o.1 = 2) (h1 : rx_one q = true) (h2 : rx_le 0 q.1 = true) (hv : q.1.toNat < o.2.length) (k : rx_Go p l e R s m args below meth c Q D A B sa ad0 mt np (h.set k0 (.inr (o.1, o.2.set q.1.toNat (.inr (.inl u))))) L r cells slots) : rx_Go p l e R s m args below meth c Q D A B sa ad0 mt pc h L (.inr (.inl u) :: .inl q :: .inr (.inr (.inl (some k0))) :: r) cells slots := by
  obtain ⟨hd, rfl⟩ := ok.dec (n := 0) rfl
  have hBA := (C.2.2.2.2.2.2.2.2.2.2.2.2.1 hwr).symm
  subst hBA
  intro ad ws H locs ls vs a1 a2 a3 a4 a5 a6 a7
  obtain ⟨z, v1, rfl, ⟨w, rfl, hw0⟩, b7⟩ := rx_S_cons a7
  obtain ⟨y, v2, rfl, ⟨i, rfl, hi⟩, a8⟩ := rx_S_cons b7
  obtain ⟨x, vs, rfl, hx, a9⟩ := rx_S_cons a8
  obtain ⟨t, lo⟩ := o
  cases ho
  obtain ⟨a, E, rfl, hw, cA, hA, f, rfl, hf⟩ := rx_W_get a2 hc hx
  obtain ⟨g1, g2⟩ := rx_idx h1 h2 hi hv
  refine va_last C.1 C.2.1 (rx_Kt C hA) a3 a4 a5 k0 0 hw rfl g1 hd fun H1 locs1 b1 b2 b3 => k ad _ H1 locs1 ls vs a1 (rx_W_set a2 hw ⟨cA, hA, _, by rw [List.length_set], fun j v hj => ?_⟩) b1 b2 b3 a6 a9
  rw [g2]
  rcases rx_lset hj with ⟨rfl, rfl⟩ | ⟨n, hj⟩
  · rw [pk_uLs]; exact ⟨w, rfl, hw0⟩
  · rw [pk_uLn n]; exact hf j v hj
theorem rx_o_aastore {k1 : Nat} {o1 : Nat × List rx_V} (C : rx_Cx p s m args meth c D A B wr sa ro mt) (hwr : wr = true) (ok : rx_Ok xM mt pc (.aastore, np, tg, K)) (hd1 : h[k1]? = some (.inl o1)) (hc : h[k0]? = some (.inr o)) (ho : o.1 = o1.1 + 3) (h1 : rx_one q = true) (h2 : rx_le 0 q.1 = true) (hv : q.1.toNat < o.2.length) (k : rx_Go p l e R s m args below meth c Q D A B sa ad0 mt np (h.set k0 (.inr (o.1, o.2.set q.1.toNat (.inr (.inr (.inl (some k1))))))) L r cells slots) : rx_Go p l e R s m args below meth c Q D A B sa ad0 mt pc h L (.inr (.inr (.inl (some k1))) :: .inl q :: .inr (.inr (.inl (some k0))) :: r) cells slots := by
  obtain ⟨hd, rfl⟩ := ok.dec (n := 0) rfl
  have hBA := (C.2.2.2.2.2.2.2.2.2.2.2.2.1 hwr).symm
  subst hBA
  intro ad ws H locs ls vs a1 a2 a3 a4 a5 a6 a7
  obtain ⟨z, v1, rfl, hz, b7⟩ := rx_S_cons a7
  obtain ⟨y, v2, rfl, ⟨i, rfl, hi⟩, a8⟩ := rx_S_cons b7
  obtain ⟨x, vs, rfl, hx, a9⟩ := rx_S_cons a8
  obtain ⟨t, lo⟩ := o
  cases ho
  obtain ⟨a, E, rfl, hw, cA, hA, f, rfl, hf⟩ := rx_W_get a2 hc hx
  obtain ⟨b, E1, rfl, hw1, fs, rfl, -⟩ := rx_W_get a2 hd1 hz
  obtain ⟨g1, g2⟩ := rx_idx h1 h2 hi hv
  obtain ⟨rr, hrr, -⟩ := a3 k1 _ hw1
  have hA' : ArrOfT s cA (.object rr.1) ∧ va_RA s cA (.object rr.1) := by
    have e : rx_aty (o1.1 + 3) = .object rr.1 := by show FieldType.object (rx_cn o1.1) = _; unfold rx_cn; rw [hrr]
    rw [← e]; exact hA
  refine va_astq C.1 C.2.1 (rx_Kt C hA') a3 a4 a5 k0 0 k1 o1.1 hw rfl hw1 hrr g1 hd fun H1 locs1 b1 b2 b3 => k ad _ H1 locs1 ls vs a1 (rx_W_set a2 hw ⟨cA, hA, _, by rw [List.length_set], fun j v hj => ?_⟩) b1 b2 b3 a6 a9
  rw [g2]
  rcases rx_lset hj with ⟨rfl, rfl⟩ | ⟨n, hj⟩
  · simp only [va_up, if_pos, va_rf]; exact hz
  · have := hf j v hj
    simpa [va_up, n] using this
theorem rx_o_objinit {i : Nat} (C : rx_Cx p s m args meth c D A B wr sa ro mt) (ok : rx_Ok xM mt pc (.invokespecial i, np, tg, K)) (hK : K.1 = 10) (hr : rx_cats r ≤ 8) (hRf : 1 ≤ R.frames) (hRl : 20 ≤ R.locals) (h5 : Jvm.Cond.instanceMethod Lib.objectInit ∈ rx_bw ∧ Jvm.Cond.code Lib.objectInit ⟨#[0xb1]⟩ 1 none ∈ rx_bw) (k : rx_Go p l e R s m args below meth c Q D A B sa ad0 mt np h L r cells slots) : rx_Go p l e R s m args below meth c Q D A B sa ad0 mt pc h L (.inr (.inr (.inl (some k0))) :: r) cells slots := by
  obtain ⟨hd, rfl⟩ := ok.dec (n := 2) rfl
  obtain ⟨f1, -, -⟩ := ok.2.2.1 hK
  intro ad ws H locs ls vs a1 a2 a3 a4 a5 a6 a7
  obtain ⟨x, vs, rfl, ⟨a, -, rfl⟩, a9⟩ := rx_S_cons a7
  have e := rx_S_cats a9
  refine W.objInit (g := F0 m pc ls (.ref a :: vs)) C.1 C.2.1 C.2.2.2.1 (C.word f1) (C.word h5.1) (C.word h5.2) rfl ?_ rfl hd hRf ?_ (k ad ws H locs ls vs a1 a2 a3 a4 a5 a6 a9)
  · obtain ⟨l0, g1, -⟩ := a6
    rw [C.2.2.1]; exact g1.1
  · rw [e]
    show 2 * 0 + rx_cats r + 12 ≤ R.locals
    omega
theorem rx_dfl_ok {ad sa : List Nat} {ty : FieldType} (h : rx_fc ty ≤ 3) : rx_G ad sa (rx_dfl (rx_fc ty)) (defaultValue ty) := by
  cases ty <;> first
    | exact ⟨(0 : Int32), rfl, by decide, by decide⟩
    | exact ⟨(0 : Int64), rfl, by decide, by decide⟩
    | exact rfl
    | (simp [rx_fc] at h; done)
theorem rx_dfl_S {ad sa : List Nat} : ∀ (ft : List FieldType), (∀ t ∈ ft, rx_fc t ≤ 3) → rx_S ad sa ((ft.map rx_fc).map rx_dfl) (ft.map defaultValue)
  | [], _ => trivial
  | t :: ft, h => ⟨rx_dfl_ok (h t List.mem_cons_self), rx_dfl_S ft fun t ht => h t (List.mem_cons_of_mem _ ht)⟩
theorem rx_o_new {i : Nat} {ks : List Nat} (C : rx_Cx p s m args meth c D A B wr sa ro mt) (hwr : wr = true) (ok : rx_Ok xM mt pc (.new i, np, tg, K)) (hK : K.1 = 11) (hks : rx_dk[K.2.1]? = some ks) (h3 : ∀ x ∈ ks, x ≤ 3) (hR : cells + 1 ≤ R.cells ∧ slots + ks.length ≤ R.slots) (k : rx_Go p l e R s m args below meth c Q D A B sa ad0 mt np (h ++ [.inl (K.2.1, ks.map rx_dfl)]) L (.inr (.inr (.inl (some h.length))) :: st) (cells + 1) (slots + ks.length)) : rx_Go p l e R s m args below meth c Q D A B sa ad0 mt pc h L st cells slots := by
  obtain ⟨hd, rfl⟩ := ok.dec (n := 2) rfl
  have hBA := (C.2.2.2.2.2.2.2.2.2.2.2.2.1 hwr).symm
  subst hBA
  obtain ⟨qc, f1, f2⟩ := ok.2.2 hK
  obtain ⟨c1, c2, c3, c4, ft, ks', c5, c6, c7, c8, c9⟩ := rx_cl_ok K.2.1 qc f1
  cases hks.symm.trans c6
  have hlen : ks.length = qc.2.2 := by rw [c8, List.length_map]; exact c7
  intro ad ws H locs ls vs a1 a2 a3 a4 a5 a6 a7
  have hdef : ∀ j, j < qc.2.2 → defaultValue (ft.getD j .int) = vp_V (ft.map defaultValue) j := by
    intro j hj
    have hj' : j < ft.length := by rw [c7]; exact hj
    simp [vp_V, List.getD, hj']
  rw [hlen] at hR k
  refine va_new (D := D) (ci := K.2.1) (C := qc.1) (T := qc.2.1) (N := qc.2.2) (fs := ft.map defaultValue) C.1 C.2.1 C.2.2.2.2.1 (fun w hw => c1 w hw) (fun k => ft.getD k .int) c9 C.2.2.2.1 (C.word f2) (C.word c3) (C.word c4) C.2.2.2.2.2.2.2.2.1 a3 a4 a5 C.2.2.2.2.2.2.2.2.2.1 f1 hdef hR.1 hR.2 hd fun q0 H1 b1 b2 b3 => ?_
  have hpre : ad <+: ad ++ [q0] := ⟨[q0], rfl⟩
  have hS : rx_S (ad ++ [q0]) sa (ks.map rx_dfl) (ft.map defaultValue) := by
    have h3' : ∀ t ∈ ft, rx_fc t ≤ 3 := fun t ht => h3 _ (by rw [c8]; exact List.mem_map_of_mem ht)
    rw [c8]
    exact rx_dfl_S ft h3'
  refine k (ad ++ [q0]) _ H1 locs ls (.ref q0 :: vs) (List.IsPrefix.trans a1 hpre) (rx_W_push a2 ⟨_, rfl, hS⟩) b1 b2 b3 (rx_L_up hpre a6) ⟨⟨q0, ?_, rfl⟩, rx_S_up hpre a7⟩
  rw [← rx_W_len a2, List.getElem?_append_right (Nat.le_refl _), Nat.sub_self]
  rfl
end OPS
