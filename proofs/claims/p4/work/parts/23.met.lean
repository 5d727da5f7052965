/-! THE LITTLE MACHINE'S RUN IS A CONTRACT -/
def rx_MOk (xM : List rx_MT) (mt : rx_MT) : Prop := (∀ pc row, mt.2.2.2.2.2.1 pc = some row → rx_Ok xM mt pc row) ∧ mt.2.2.2.2.1 = mt.1.cls ∧ plainName mt.1.cls = true
theorem rx_goodw {w : Jvm.Cond} (h : w ∈ rx_bw) : w ∈ rx_bw ∧ ((w.onTables && w.keeps) = true ∨ ∃ ty, w = .arrayClass ty) := ⟨h, good_of_word (List.mem_filter.mp h).2⟩
theorem rx_goodm {mj : rx_MT} (hc : Jvm.Cond.code mj.1 mj.2.1 mj.2.2.1 mj.2.2.2.1 ∈ rx_bw) : GoodIn rx_bw (rx_ws mj) := by
  intro w hw
  rcases List.mem_cons.mp hw with rfl | hw
  · exact rx_goodw hc
  · exact rx_goodw hw
theorem rx_goodc {a ws : List Jvm.Cond} (ha : ∀ w ∈ a, w ∈ rx_bw) (hw : GoodIn rx_bw ws) : GoodIn rx_bw (a ++ ws) := by
  intro w h
  rcases List.mem_append.mp h with h | h
  · exact rx_goodw (ha w h)
  · exact hw w h
theorem rx_sl_len {ad sa : List Nat} : ∀ {as : List rx_V} {vs : List Value}, rx_S ad sa as vs → (lg_sl vs).length = (rx_arg as).length
  | [], [], _ => rfl
  | .inr (.inl q) :: as, x :: vs, h => by
    obtain ⟨⟨i, rfl, -⟩, h2⟩ := h
    have := rx_sl_len h2
    simp [lg_sl, rx_arg, Value.category] at this ⊢
    omega
  | .inl q :: as, x :: vs, h => by
    obtain ⟨⟨i, rfl, -⟩, h2⟩ := h
    have := rx_sl_len h2
    simp [lg_sl, rx_arg, Value.category] at this ⊢
    omega
  | .inr (.inr q) :: as, x :: vs, h => by
    have hc := rx_G_cat h.1
    have := rx_sl_len h.2
    have hc : x.category = 1 := hc
    simp [lg_sl, rx_arg, hc] at this ⊢
    omega
  | [], _ :: _, h => h.elim
  | _ :: _, [], h => h.elim
theorem rx_arg_get {ad sa : List Nat} : ∀ {as : List rx_V} {vs : List Value} {i n : Nat} {v : rx_V}, rx_S ad sa as vs → (rx_arg as)[i]? = some (some v) → ∃ x, (n + i, x) ∈ lv_args n vs ∧ rx_G ad sa v x
  | [], [], i, n, v, _, h => by simp [rx_arg] at h
  | .inr (.inl q) :: as, x :: vs, i, n, v, hS, h => by
    have hc : x.category = 2 := rx_G_cat hS.1
    match i, h with
    | 0, h => cases h; exact ⟨x, List.mem_cons_self, hS.1⟩
    | 1, h => cases h
    | i + 2, h =>
      have h : (rx_arg as)[i]? = some (some v) := h
      obtain ⟨y, h1, h2⟩ := rx_arg_get (n := n + 2) hS.2 h
      refine ⟨y, List.mem_cons_of_mem _ ?_, h2⟩
      rw [if_pos hc, show n + (i + 2) = n + 2 + i by omega]
      exact h1
  | .inl q :: as, x :: vs, i, n, v, hS, h => by
    have hc : x.category = 1 := rx_G_cat hS.1
    match i, h with
    | 0, h => cases h; exact ⟨x, List.mem_cons_self, hS.1⟩
    | i + 1, h =>
      have h : (rx_arg as)[i]? = some (some v) := h
      obtain ⟨y, h1, h2⟩ := rx_arg_get (n := n + 1) hS.2 h
      refine ⟨y, List.mem_cons_of_mem _ ?_, h2⟩
      rw [if_neg (by omega), show n + (i + 1) = n + 1 + i by omega]
      exact h1
  | .inr (.inr q) :: as, x :: vs, i, n, v, hS, h => by
    have hc : x.category = 1 := rx_G_cat hS.1
    match i, h with
    | 0, h => cases h; exact ⟨x, List.mem_cons_self, hS.1⟩
    | i + 1, h =>
      have h : (rx_arg as)[i]? = some (some v) := h
      obtain ⟨y, h1, h2⟩ := rx_arg_get (n := n + 1) hS.2 h
      refine ⟨y, List.mem_cons_of_mem _ ?_, h2⟩
      rw [if_neg (by omega), show n + (i + 1) = n + 1 + i by omega]
      exact h1
  | [], _ :: _, _, _, _, h, _ => h.elim
  | _ :: _, [], _, _, _, h, _ => h.elim
theorem rx_ini_L {ad sa : List Nat} {as : List rx_V} {vs : List Value} {n : Nat} {ls : Array Slot} (hS : rx_S ad sa as vs) (hn : (rx_arg as).length ≤ n) (hl : lv_has ls n (lv_args 0 vs)) : rx_L ad sa n (rx_ini as n) ls := by
  refine ⟨_, hl, ?_, fun i v hi => ?_⟩
  · unfold rx_ini; rw [List.length_append, List.length_replicate]; omega
  · unfold rx_ini at hi
    by_cases h : i < (rx_arg as).length
    · rw [List.getElem?_append_left h] at hi
      obtain ⟨x, h1, h2⟩ := rx_arg_get (n := 0) hS hi
      rw [Nat.zero_add] at h1
      exact ⟨x, h1, h2⟩
    · rw [List.getElem?_append_right (by omega)] at hi
      have := rx_rep hi
      cases this
theorem rx_goon {p : Program} {l : Launch} {e : Env} {R : Room} {s : State} {m : MethodId} {args : Array Value} {below : List Frame} {meth : Method} {c : Code} {Q : State → Prop} {D : va_G} {A B : Nat → Prop} {wr : Bool} {sa ad : List Nat} {pc : Nat} {ls : Array Slot} {st0 rest : List Value} {H : Heap} {locs : List Loc} {cells slots mc ms : Nat} {h1 : rx_H} {v1 : Option rx_V} {a : Array Value}
    (hr : va_Run p l e R s m args below meth c H locs cells slots mc ms (F0 m pc ls st0) rest (rx_Qc wr D sa ad h1 v1 H.size a) (rx_AW wr ad H.size)) (hS : va_S A s.heap H locs) (hA : ∀ q, rx_AW wr ad H.size q → A q) (hB : ∀ q, rx_BW wr ad H.size q → B q)
    (kk : ∀ (r : Option Value) (ad' : List Nat) (ws' : va_W) (H1 : Heap) (locs1 : List Loc), rx_O ad' sa v1 r → ad <+: ad' → rx_W s ad' sa h1 ws' → va_P D rx_cl ws' H1 → va_D B ws' → va_S A s.heap H1 locs1 → W p l e R s m args below meth c H1 locs1 (cells + mc) (slots + ms) Q (F0 m (pc + 3) ls (r.toList ++ rest))) : W p l e R s m args below meth c H locs cells slots Q (F0 m pc ls st0) := by
  intro T hT X
  obtain ⟨v, st₀, t, T', L, h0, X', hL, e1, e2, ⟨r, ad', ws', hv, ho, hp, hw, hP, hD, hz, hk⟩, st⟩ := hr T hT X
  cases hv
  rw [h0] at hz hk
  have hal : s.vm.Alike t.vm := by rw [← e2]; exact X'.warmed.alike
  obtain ⟨t2, a1, b1⟩ := kk v ad' ws' T'.heap (locs ++ L) ho hp (rx_W_moved hal.symm hw) (by rw [e1]; exact hP) (hD.weaken (fun k q _ h => hB q.1 h))
    ⟨Nat.le_trans hS.1 (by rw [e1]; exact hz), fun q h1 h2 => by rw [e1, hk q (Nat.lt_of_lt_of_le h1 hS.1) (fun z => h2 (hA q z))]; exact hS.2.1 q h1 h2, fun q hq => by
      rcases List.mem_append.mp hq with h | h
      · exact hS.2.2 q h
      · exact hA _ (hL q h)⟩ T' rfl X'
  exact ⟨t2, st t2 a1, b1⟩
theorem rx_inA {p : Program} {s : State} {m : MethodId} {args : Array Value} {meth : Method} {c : Code} {D : va_G} {A B : Nat → Prop} {wr : Bool} {sa : List Nat} {ro : List (List rx_V)} {mt : rx_MT} {ad : List Nat} {ws : va_W} {H : Heap} {locs : List Loc} {h : rx_H} (C : rx_Cx p s m args meth c D A B wr sa ro mt) (a1 : wr = true ∨ (∀ q, B q)) (a2 : rx_W s ad sa h ws) (a4 : va_D B ws) (a5 : va_S A s.heap H locs) : ∀ q, rx_AW wr ad H.size q → A q := by
  intro q hq
  rcases hq with hq | hq
  · cases hw : wr with
    | false => rw [hw] at hq; cases hq
    | true =>
      have hBA := C.2.2.2.2.2.2.2.2.2.2.2.2.1 hw
      rw [hw] at hq
      have hq : q ∈ ad := hq
      rw [← a2.1] at hq
      obtain ⟨x, h1, rfl⟩ := List.mem_map.mp hq
      obtain ⟨k, hk⟩ := List.getElem?_of_mem h1
      have := a4.2 k x hk
      rw [hBA] at this
      exact this
  · exact C.2.2.2.2.2.2.2.2.2.1 q (Nat.le_trans a5.1 hq)
theorem rx_inB {p : Program} {s : State} {m : MethodId} {args : Array Value} {meth : Method} {c : Code} {D : va_G} {A B : Nat → Prop} {wr : Bool} {sa : List Nat} {ro : List (List rx_V)} {mt : rx_MT} {ad : List Nat} {ws : va_W} {H : Heap} {locs : List Loc} {h : rx_H} (C : rx_Cx p s m args meth c D A B wr sa ro mt) (a1 : wr = true ∨ (∀ q, B q)) (a2 : rx_W s ad sa h ws) (a4 : va_D B ws) (a5 : va_S A s.heap H locs) : ∀ q, rx_BW wr ad H.size q → B q := by
  intro q hq
  rcases a1 with hw | hb
  · have hBA := C.2.2.2.2.2.2.2.2.2.2.2.2.1 hw
    rw [hBA]
    rw [rx_BAW hw] at hq
    exact rx_inA C (Or.inl hw) a2 a4 a5 q hq
  · exact hb q
/-- what a call finds: the callee's start -/
theorem rx_start {p : Program} {s : State} {m : MethodId} {args : Array Value} {meth : Method} {c : Code} {D : va_G} {A B : Nat → Prop} {wr : Bool} {sa : List Nat} {ro : List (List rx_V)} {mt : rx_MT} {ad : List Nat} {ws : va_W} {H : Heap} {locs : List Loc} {h : rx_H} {as : List rx_V} {vs : List Value} (C : rx_Cx p s m args meth c D A B wr sa ro mt) (a1 : wr = true ∨ (∀ q, B q)) (a2 : rx_W s ad sa h ws) (a3 : va_P D rx_cl ws H) (a4 : va_D B ws) (a5 : va_S A s.heap H locs) (hS : rx_S ad sa as vs) (U : State) (hU : U.heap = H) (hW : s.WarmedH U.vm) : rx_Pc wr D sa ad ro h as H.size vs.toArray U := by
  have hAA := rx_inA C a1 a2 a4 a5
  refine ⟨vs, rfl, hS, by rw [hU], va_K.moved hW.alike C.2.2.2.2.2.2.2.2.1, rx_NW_warm hW C.2.2.2.2.2.2.2.2.2.2.2.1, ?_, rx_TW_go hW (fun q q1 q2 => by rw [hU]; exact a5.2.1 q q1 q2) hAA C.2.2.2.2.2.2.2.2.2.2.2.2.2, ws, rx_W_moved hW.alike a2, by rw [hU]; exact a3, a4.weaken (fun _ _ _ _ => trivial)⟩
  refine ⟨fun j l0 hj => ?_, fun j nm hj => ?_⟩
  · obtain ⟨a, xs, h1, h4, h5⟩ := C.2.2.2.2.2.2.2.2.2.2.1.1 j l0 hj
    refine ⟨a, xs, h1, ?_, h5⟩
    rw [hU]
    exact ((h4.kept (fun q q1 q2 => a5.2.1 q q1 q2)).narrow hAA).moved hW.alike
  · obtain ⟨a, h1, h2⟩ := C.2.2.2.2.2.2.2.2.2.2.1.2 j nm hj
    refine ⟨a, h1, ?_⟩
    rw [hU]
    exact ((h2.kept (fun q q1 q2 => a5.2.1 q q1 q2)).narrow hAA).moved hW.alike
theorem rx_O_st {ad sa : List Nat} {v : Option rx_V} {r : Option Value} {a : List rx_V} {b : List Value} (h : rx_O ad sa v r) (hs : rx_S ad sa a b) : rx_S ad sa (rx_ol v a) (r.toList ++ b) := by
  match v, r, h with
  | none, none, _ => exact hs
  | some v, some x, h => exact ⟨h, hs⟩
