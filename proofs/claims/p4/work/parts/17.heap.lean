/-! fields, arrays, new cells -/
theorem rx_b01 {q : Int × Int} {x : Int32} (hb : rx_bool q = true) (hx : rx_has q x.toInt) : x = 0 ∨ x = 1 := by
  unfold rx_bool at hb
  rw [Bool.and_eq_true] at hb
  have h1 := rx_le_t hb.1
  have h2 := rx_le_t hb.2
  obtain ⟨x1, x2⟩ := hx
  rcases rx_lg x.toInt 1 with h | h
  · exact Or.inl (Int32.toInt_inj.mp (by rw [show (0 : Int32).toInt = 0 by decide]; omega))
  · exact Or.inr (Int32.toInt_inj.mp (by rw [show (1 : Int32).toInt = 1 by decide]; omega))
theorem rx_fits {ad sa : List Nat} {ty : FieldType} {v : rx_V} {x : Value} (hf : rx_fit (rx_fc ty) v = true) (hx : rx_G ad sa v x) : narrow ty x = x ∧ fits ty x = true := by
  match v, hf, hx with
  | .inl q, hf, hx =>
    obtain ⟨i, rfl, hi⟩ := hx
    cases ty <;> simp only [rx_fc, rx_fit, Nat.reduceBEq, Bool.false_or, Bool.or_false, Bool.false_and, Bool.true_and, Bool.true_or] at hf
    all_goals first
      | exact ⟨rfl, rfl⟩
      | (cases hf; done)
      | (rcases rx_b01 hf hi with rfl | rfl <;> exact ⟨by decide, by decide⟩)
  | .inr (.inl q), hf, hx =>
    obtain ⟨i, rfl, hi⟩ := hx
    cases ty <;> simp only [rx_fc, rx_fit, Nat.reduceBEq] at hf
    all_goals first
      | exact ⟨rfl, rfl⟩
      | (cases hf; done)
  | .inr (.inr q), hf, hx =>
    have hf : ((rx_fc ty == 3) && rx_isr q) = true := hf
    rw [Bool.and_eq_true] at hf
    have hq := hf.2
    have hf := hf.1
    rcases rx_ref hq hx with rfl | ⟨a, rfl⟩
    · cases ty <;> simp only [rx_fc, rx_fit, Nat.reduceBEq] at hf
      all_goals first
        | exact ⟨rfl, rfl⟩
        | (cases hf; done)
    · cases ty <;> simp only [rx_fc, rx_fit, Nat.reduceBEq] at hf
      all_goals first
        | exact ⟨rfl, rfl⟩
        | (cases hf; done)
section OPS
variable {p : Program} {l : Launch} {e : Env} {R : Room} {s : State} {m : MethodId} {args : Array Value} {below : List Frame} {meth : Method} {c : Code} {Q : State → Prop} {D : va_G} {A B : Nat → Prop} {wr : Bool} {sa ad0 : List Nat} {ro : List (List rx_V)} {mt : rx_MT} {xM : List rx_MT} {pc np tg : Nat} {K : rx_K} {h : rx_H} {L : rx_F} {st r : List rx_V} {cells slots : Nat} {k0 : Nat} {o : Nat × List rx_V} {v : rx_V}
theorem rx_o_getfield {i : Nat} (C : rx_Cx p s m args meth c D A B wr sa ro mt) (ok : rx_Ok xM mt pc (.getfield i, np, tg, K)) (hK : K.1 = 1 ∨ K.1 = 14) (hc : h[k0]? = some (.inl o)) (ho : o.1 = K.2.1) (hv : o.2[K.2.2.1]? = some v) (k : rx_Go p l e R s m args below meth c Q D A B sa ad0 mt np h L (v :: r) cells slots) : rx_Go p l e R s m args below meth c Q D A B sa ad0 mt pc h L (.inr (.inr (.inl (some k0))) :: r) cells slots := by
  obtain ⟨hd, rfl⟩ := ok.dec (n := 2) rfl
  obtain ⟨q, f1, f2, f3⟩ := ok.2.2 hK
  intro ad ws H locs ls vs a1 a2 a3 a4 a5 a6 a7
  obtain ⟨x, vs, rfl, hx, a9⟩ := rx_S_cons a7
  obtain ⟨a, E, rfl, hw, fs, rfl, hfs⟩ := rx_W_get a2 hc hx
  obtain ⟨y, hy, hg⟩ := rx_S_get hfs hv
  have cok := rx_cl_ok K.2.1 q f1
  rw [ho] at hw
  exact va_get (D := D) (ci := K.2.1) (v := y) (C := q.1) (T := q.2.1) (N := q.2.2) C.1 C.2.1 C.2.2.2.2.1 (fun w hw => cok.1 w hw) C.2.2.2.1 C.2.2.2.2.2.2.2.2.1 a3 k0 hw f1 K.2.2.1 f2 (C.word f3) (fun _ h => h) hy hd (k ad ws H locs ls _ a1 a2 a3 a4 a5 a6 ⟨hg, a9⟩)
theorem rx_o_putfield {i : Nat} (C : rx_Cx p s m args meth c D A B wr sa ro mt) (hwr : wr = true) (ok : rx_Ok xM mt pc (.putfield i, np, tg, K)) (hK : K.1 = 1 ∨ K.1 = 14) (hf : rx_fit K.2.2.2.toNat v = true) (hc : h[k0]? = some (.inl o)) (ho : o.1 = K.2.1) (hv : K.2.2.1 < o.2.length) (k : rx_Go p l e R s m args below meth c Q D A B sa ad0 mt np (h.set k0 (.inl (o.1, o.2.set K.2.2.1 v))) L r cells slots) : rx_Go p l e R s m args below meth c Q D A B sa ad0 mt pc h L (v :: .inr (.inr (.inl (some k0))) :: r) cells slots := by
  obtain ⟨hd, rfl⟩ := ok.dec (n := 2) rfl
  have hBA := (C.2.2.2.2.2.2.2.2.2.2.2.2.1 hwr).symm
  subst hBA
  intro ad ws H locs ls vs a1 a2 a3 a4 a5 a6 a7
  obtain ⟨y, v2, rfl, hy, a8⟩ := rx_S_cons a7
  obtain ⟨x, vs, rfl, hx, a9⟩ := rx_S_cons a8
  obtain ⟨a, E, rfl, hw, fs, rfl, hfs⟩ := rx_W_get a2 hc hx
  have hl : K.2.2.1 < fs.length := by rw [← rx_S_len hfs]; exact hv
  have hw' := hw
  rw [ho] at hw'
  have kk : ∀ (H1 : Heap) (locs1 : List Loc), va_P D rx_cl (ws.set k0 (a, .inr (K.2.1, fs.set K.2.2.1 y))) H1 → va_D A (ws.set k0 (a, .inr (K.2.1, fs.set K.2.2.1 y))) → va_S A s.heap H1 locs1 → W p l e R s m args below meth c H1 locs1 cells slots Q (F0 m (pc + 3) ls vs) :=
    fun H1 locs1 b1 b2 b3 => k ad _ H1 locs1 ls vs a1 (rx_W_set a2 hw (E' := .inr (K.2.1, fs.set K.2.2.1 y)) ⟨_, by rw [ho], rx_S_set hfs hy⟩) b1 b2 b3 a6 a9
  rcases hK with hK | hK
  · obtain ⟨q, ft, ⟨f1, f2, f3⟩, f4, f5, f6⟩ := ok.2.2.1 hK
    have cok := rx_cl_ok K.2.1 q f1
    obtain ⟨c1, c2, c3, c4, ft', ks, c5, c6, c7, c8, c9⟩ := cok
    cases f5.symm.trans c5
    rw [← f6] at hf
    obtain ⟨n1, n2⟩ := rx_fits hf hy
    exact va_put (D := D) (ci := K.2.1) (v := y) (C := q.1) (T := q.2.1) (N := q.2.2) C.1 C.2.1 C.2.2.2.2.1 (fun w hw => c1 w hw) (fun k => ft.getD k .int) c9 c2 C.2.2.2.1 C.2.2.2.2.2.2.2.2.1 a3 a4 a5 k0 hw' f1 K.2.2.1 f2 (C.word f3) (fun _ h => h) f4 (c9 _ f2) n1 n2 hl hd kk
  · obtain ⟨q, ft, ⟨f1, f2, f3⟩, f4, f5, f6, f7, f8⟩ := ok.2.2.2 hK
    have cok := rx_cl_ok K.2.1 q f1
    obtain ⟨c1, c2, c3, c4, ft', ks, c5, c6, c7, c8, c9⟩ := cok
    cases f5.symm.trans c5
    rw [← f6] at hf
    obtain ⟨n1, n2⟩ := rx_fits hf hy
    exact va_putF (D := D) (ci := K.2.1) (v := y) (C := q.1) (T := q.2.1) (N := q.2.2) C.1 C.2.1 C.2.2.2.2.1 (fun w hw => c1 w hw) (fun k => ft.getD k .int) c9 c2 C.2.2.2.1 C.2.2.2.2.2.2.2.2.1 a3 a4 a5 k0 hw' f1 K.2.2.1 f2 (C.word f3) (fun _ h => h) f4 (C.2.2.2.2.2.2.2.1.trans f7) f8 (c9 _ f2) n1 n2 hl hd kk
theorem rx_o_getstatic {i : Nat} (C : rx_Cx p s m args meth c D A B wr sa ro mt) (ok : rx_Ok xM mt pc (.getstatic i, np, tg, K)) (hK : K.1 = 2) (k : rx_Go p l e R s m args below meth c Q D A B sa ad0 mt np h L (.inr (.inr (.inr K.2.1)) :: st) cells slots) : rx_Go p l e R s m args below meth c Q D A B sa ad0 mt pc h L st cells slots := by
  obtain ⟨hd, rfl⟩ := ok.dec (n := 2) rfl
  obtain ⟨nm, f1, f2⟩ := ok.2.2 hK
  intro ad ws H locs ls vs a1 a2 a3 a4 a5 a6 a7
  obtain ⟨a, hs, hZ⟩ := C.2.2.2.2.2.2.2.2.2.2.1.2 _ nm f1
  have kk := k ad ws H locs ls (.ref a :: vs) a1 a2 a3 a4 a5 a6 ⟨Or.inl ⟨by
    have h5 : K.2.1 < rx_sn.length := (List.getElem?_eq_some_iff.mp f1).1
    have h4 : rx_sn.length ≤ 19 := by decide
    omega, a, hs, rfl⟩, a7⟩
  rcases f2 with f2 | f2
  · exact va_gets C.1 C.2.1 hZ a5 C.2.2.2.1 (C.word f2) (fun _ h => h) hd kk
  · exact va_getsN C.1 C.2.1 hZ a5 C.2.2.2.1 (va_Nw.use rfl (C.2.2.2.2.2.2.2.2.2.2.2.1.2.1 _ f2)) (fun _ h => h) hd kk
theorem rx_idx {q : Int × Int} {x : Int32} {n : Nat} (h1 : rx_one q = true) (h2 : rx_le 0 q.1 = true) (hx : rx_has q x.toInt) (hn : q.1.toNat < n) : vp_in x n ∧ x.toNatClampNeg = q.1.toNat := by
  have q1 := rx_le_t h1
  have q2 := rx_le_t h2
  obtain ⟨x1, x2⟩ := hx
  have e : q.1 = x.toInt := by omega
  have e2 : x.toNatClampNeg = x.toInt.toNat := rfl
  refine ⟨vp_in_iff.mpr ⟨by omega, by omega⟩, by rw [e2, e]⟩
theorem rx_Kt (C : rx_Cx p s m args meth c D A B wr sa ro mt) {cA : ClassId} {ty : FieldType} (h : ArrOfT s cA ty ∧ va_RA s cA ty) : va_K D rx_cl [(cA, ty)] s := by
  refine ⟨C.2.2.2.2.2.2.2.2.1.1, fun k q hk => ?_⟩
  cases k with
  | zero => cases hk; exact h
  | succ k => simp at hk
theorem rx_o_iaload {q : Int × Int} (C : rx_Cx p s m args meth c D A B wr sa ro mt) (ok : rx_Ok xM mt pc (.iaload, np, tg, K)) (hc : h[k0]? = some (.inr o)) (ho : o.1 = 0) (h1 : rx_one q = true) (h2 : rx_le 0 q.1 = true) (hv : o.2[q.1.toNat]? = some v) (k : rx_Go p l e R s m args below meth c Q D A B sa ad0 mt np h L (v :: r) cells slots) : rx_Go p l e R s m args below meth c Q D A B sa ad0 mt pc h L (.inl q :: .inr (.inr (.inl (some k0))) :: r) cells slots := by
  obtain ⟨hd, rfl⟩ := ok.dec (n := 0) rfl
  intro ad ws H locs ls vs a1 a2 a3 a4 a5 a6 a7
  obtain ⟨y, v2, rfl, ⟨i, rfl, hi⟩, a8⟩ := rx_S_cons a7
  obtain ⟨x, vs, rfl, hx, a9⟩ := rx_S_cons a8
  obtain ⟨t, lo⟩ := o
  cases ho
  obtain ⟨a, E, rfl, hw, cA, hA, f, rfl, hf⟩ := rx_W_get a2 hc hx
  obtain ⟨g1, g2⟩ := rx_idx h1 h2 hi (List.getElem?_eq_some_iff.mp hv).1
  refine va_iald C.1 C.2.1 (rx_Kt C hA) a3 k0 0 hw rfl g1 hd (k ad ws H locs ls _ a1 a2 a3 a4 a5 a6 ⟨?_, a9⟩)
  rw [g2]
  exact hf _ _ hv
theorem rx_o_baload {q : Int × Int} (C : rx_Cx p s m args meth c D A B wr sa ro mt) (ok : rx_Ok xM mt pc (.baload, np, tg, K)) (hc : h[k0]? = some (.inr o)) (ho : o.1 = 1) (h1 : rx_one q = true) (h2 : rx_le 0 q.1 = true) (hv : o.2[q.1.toNat]? = some v) (k : rx_Go p l e R s m args below meth c Q D A B sa ad0 mt np h L (v :: r) cells slots) : rx_Go p l e R s m args below meth c Q D A B sa ad0 mt pc h L (.inl q :: .inr (.inr (.inl (some k0))) :: r) cells slots := by
  obtain ⟨hd, rfl⟩ := ok.dec (n := 0) rfl
  intro ad ws H locs ls vs a1 a2 a3 a4 a5 a6 a7
  obtain ⟨y, v2, rfl, ⟨i, rfl, hi⟩, a8⟩ := rx_S_cons a7
  obtain ⟨x, vs, rfl, hx, a9⟩ := rx_S_cons a8
  obtain ⟨t, lo⟩ := o
  cases ho
  obtain ⟨a, E, rfl, hw, cA, hA, f, rfl, hf⟩ := rx_W_get a2 hc hx
  obtain ⟨g1, g2⟩ := rx_idx h1 h2 hi (List.getElem?_eq_some_iff.mp hv).1
  refine va_zald C.1 C.2.1 (rx_Kt C hA) a3 k0 0 hw rfl g1 hd (k ad ws H locs ls _ a1 a2 a3 a4 a5 a6 ⟨?_, a9⟩)
  rw [g2]
  exact hf _ _ hv
theorem rx_o_laload {q : Int × Int} (C : rx_Cx p s m args meth c D A B wr sa ro mt) (ok : rx_Ok xM mt pc (.laload, np, tg, K)) (hc : h[k0]? = some (.inr o)) (ho : o.1 = 2) (h1 : rx_one q = true) (h2 : rx_le 0 q.1 = true) (hv : o.2[q.1.toNat]? = some v) (k : rx_Go p l e R s m args below meth c Q D A B sa ad0 mt np h L (v :: r) cells slots) : rx_Go p l e R s m args below meth c Q D A B sa ad0 mt pc h L (.inl q :: .inr (.inr (.inl (some k0))) :: r) cells slots := by
  obtain ⟨hd, rfl⟩ := ok.dec (n := 0) rfl
  intro ad ws H locs ls vs a1 a2 a3 a4 a5 a6 a7
  obtain ⟨y, v2, rfl, ⟨i, rfl, hi⟩, a8⟩ := rx_S_cons a7
  obtain ⟨x, vs, rfl, hx, a9⟩ := rx_S_cons a8
  obtain ⟨t, lo⟩ := o
  cases ho
  obtain ⟨a, E, rfl, hw, cA, hA, f, rfl, hf⟩ := rx_W_get a2 hc hx
  obtain ⟨g1, g2⟩ := rx_idx h1 h2 hi (List.getElem?_eq_some_iff.mp hv).1
  refine va_lald C.1 C.2.1 (rx_Kt C hA) a3 k0 0 hw rfl g1 hd (k ad ws H locs ls _ a1 a2 a3 a4 a5 a6 ⟨?_, a9⟩)
  rw [g2]
  exact hf _ _ hv
theorem rx_o_aaload {q : Int × Int} (C : rx_Cx p s m args meth c D A B wr sa ro mt) (ok : rx_Ok xM mt pc (.aaload, np, tg, K)) (hc : h[k0]? = some (.inr o)) (ho : 3 ≤ o.1) (h1 : rx_one q = true) (h2 : rx_le 0 q.1 = true) (hv : o.2[q.1.toNat]? = some v) (k : rx_Go p l e R s m args below meth c Q D A B sa ad0 mt np h L (v :: r) cells slots) : rx_Go p l e R s m args below meth c Q D A B sa ad0 mt pc h L (.inl q :: .inr (.inr (.inl (some k0))) :: r) cells slots := by
  obtain ⟨hd, rfl⟩ := ok.dec (n := 0) rfl
  intro ad ws H locs ls vs a1 a2 a3 a4 a5 a6 a7
  obtain ⟨y, v2, rfl, ⟨i, rfl, hi⟩, a8⟩ := rx_S_cons a7
  obtain ⟨x, vs, rfl, hx, a9⟩ := rx_S_cons a8
  obtain ⟨t, lo⟩ := o
  obtain ⟨n, rfl⟩ : ∃ n, t = n + 3 := ⟨t - 3, by have : 3 ≤ t := ho; omega⟩
  obtain ⟨a, E, rfl, hw, cA, hA, f, rfl, hf⟩ := rx_W_get a2 hc hx
  obtain ⟨g1, g2⟩ := rx_idx h1 h2 hi (List.getElem?_eq_some_iff.mp hv).1
  refine va_aldq C.1 C.2.1 (rx_Kt C hA) a3 k0 0 hw rfl g1 hd (k ad ws H locs ls _ a1 a2 a3 a4 a5 a6 ⟨?_, a9⟩)
  rw [g2]
  exact hf _ _ hv
theorem rx_G_low {ad sa : List Nat} {v : rx_V} {i : Int32} (h : rx_G [] [] v (.int i)) : rx_G ad sa v (.int i) := by
  match v, h with
  | .inl q, h => exact h
  | .inr (.inl q), h => exact h
  | .inr (.inr (.inl none)), h => exact h
  | .inr (.inr (.inl (some k))), h => obtain ⟨a, h1, -⟩ := h; simp at h1
  | .inr (.inr (.inr j)), h =>
    rcases h with ⟨-, a, h1, -⟩ | ⟨h1, h2, i, h3, h⟩ | ⟨h0, h | ⟨k, a, -, -, h1, -⟩⟩
    · simp at h1
    · refine Or.inr (Or.inl ⟨h1, h2, i, h3, ?_⟩)
      rcases h with h | h | h | h | ⟨-, -, u, h, -⟩ | ⟨-, -, u, h, -⟩
      · exact Or.inl h
      · exact Or.inr (Or.inl h)
      · exact Or.inr (Or.inr (Or.inl h))
      · exact Or.inr (Or.inr (Or.inr (Or.inl h)))
      · simp at h
      · simp at h
    · exact Or.inr (Or.inr ⟨h0, Or.inl h⟩)
    · simp at h1
theorem rx_o_rload {q : Int × Int} {j : Nat} {l0 : List rx_V} (C : rx_Cx p s m args meth c D A B wr sa ro mt) (ok : rx_Ok xM mt pc (.iaload, np, tg, K)) (hj : j ≤ 19) (hc : ro[j]? = some l0) (h1 : rx_one q = true) (h2 : rx_le 0 q.1 = true) (hv : l0[q.1.toNat]? = some v) (k : rx_Go p l e R s m args below meth c Q D A B sa ad0 mt np h L (v :: r) cells slots) : rx_Go p l e R s m args below meth c Q D A B sa ad0 mt pc h L (.inl q :: .inr (.inr (.inr j)) :: r) cells slots := by
  obtain ⟨hd, rfl⟩ := ok.dec (n := 0) rfl
  intro ad ws H locs ls vs a1 a2 a3 a4 a5 a6 a7
  obtain ⟨y, v2, rfl, ⟨i, rfl, hi⟩, a8⟩ := rx_S_cons a7
  obtain ⟨x, vs, rfl, hx0, a9⟩ := rx_S_cons a8
  rcases hx0 with ⟨-, b, hb, rfl⟩ | ⟨hz, -⟩ | ⟨hz, -⟩
  rotate_left
  · omega
  · omega
  obtain ⟨a, xs, b1, b4, b5⟩ := C.2.2.2.2.2.2.2.2.2.2.1.1 j l0 hc
  cases b1.symm.trans hb
  obtain ⟨g1, g2⟩ := rx_idx h1 h2 hi (List.getElem?_eq_some_iff.mp hv).1
  refine va_ti C.1 C.2.1 b4 a5 g1 rfl hd (k ad ws H locs ls _ a1 a2 a3 a4 a5 a6 ⟨?_, a9⟩)
  rw [g2]
  exact rx_G_low (b5 _ _ hv)
end OPS
