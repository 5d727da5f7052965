/-! STRAIGHT ON TO A PLACE; WIDER STATES; A CONTRACT BESIDE OTHER CELLS -/
abbrev rx_Z : Type := rx_H × rx_F × List rx_V
noncomputable def rx_cut (wr : Bool) (ro : List (List rx_V)) (tab : rx_Tab) (stop : Nat) (n : Nat) : Nat → rx_H → rx_F → List rx_V → Option rx_Z :=
  Nat.rec (motive := fun _ => Nat → rx_H → rx_F → List rx_V → Option rx_Z) (fun _ _ _ _ => none)
    (fun _ ih pc h L st => bif Nat.beq pc stop then some (h, L, st) else Option.rec (motive := fun _ => Option rx_Z) none (fun row => rx_step wr ro rx_dfs row pc h L st
      (fun pc' h' L' st' dc ds => bif Nat.beq dc 0 && Nat.beq ds 0 then ih pc' h' L' st' else none) (fun _ _ _ => none) (fun _ => none) (fun _ => none)) (tab pc)) n
theorem rx_cut_eq {wr : Bool} {ro : List (List rx_V)} {tab : rx_Tab} {stop n pc : Nat} {h : rx_H} {L : rx_F} {st : List rx_V} : rx_cut wr ro tab stop (n + 1) pc h L st = bif Nat.beq pc stop then some (h, L, st) else Option.rec (motive := fun _ => Option rx_Z) none (fun row => rx_step wr ro rx_dfs row pc h L st
      (fun pc' h' L' st' dc ds => bif Nat.beq dc 0 && Nat.beq ds 0 then rx_cut wr ro tab stop n pc' h' L' st' else none) (fun _ _ _ => none) (fun _ => none) (fun _ => none)) (tab pc) := rfl
theorem rx_cut_ok {p : Program} {l : Launch} {e : Env} {R : Room} {s : State} {m : MethodId} {args : Array Value} {below : List Frame} {meth : Method} {c : Code} {Q : State → Prop} {D : va_G} {A B : Nat → Prop} {wr : Bool} {sa ad0 : List Nat} {ro : List (List rx_V)} {mt : rx_MT} {xM : List rx_MT} {stop : Nat} {h1 : rx_H} {L1 : rx_F} {st1 : List rx_V} {cells slots : Nat} (C : rx_Cx p s m args meth c D A B wr sa ro mt) (ok : rx_MOk xM mt) (hob : Jvm.Cond.instanceMethod Lib.objectInit ∈ rx_bw ∧ Jvm.Cond.code Lib.objectInit ⟨#[0xb1]⟩ 1 none ∈ rx_bw) (hRm : R.frames = mt.2.2.2.2.2.2.1 ∧ R.locals = mt.2.2.2.2.2.2.2.1) (hR : cells ≤ R.cells ∧ slots ≤ R.slots) (hgo : rx_Go p l e R s m args below meth c Q D A B sa ad0 mt stop h1 L1 st1 cells slots) :
    ∀ (n pc : Nat) (h : rx_H) (L : rx_F) (st : List rx_V), rx_cut wr ro mt.2.2.2.2.2.1 stop n pc h L st = some (h1, L1, st1) → rx_Go p l e R s m args below meth c Q D A B sa ad0 mt pc h L st cells slots := by
  intro n
  induction n with
  | zero => intro pc h L st hs; cases hs
  | succ n ih =>
    intro pc h L st hs
    rw [rx_cut_eq] at hs
    rcases rx_bif2 hs with ⟨g1, hs⟩ | ⟨-, hs⟩
    · cases hs
      have e1 := Nat.eq_of_beq_eq_true g1
      subst e1
      exact hgo
    · cases hr : mt.2.2.2.2.2.1 pc with
      | none => rw [hr] at hs; cases hs
      | some row =>
        rw [hr] at hs
        refine rx_step_ok C (ok.1 pc row hr) hob hRm (fun pc' h' L' st' dc ds q => ?_) (fun _ _ _ _ _ _ _ _ q => by cases q) (fun _ _ _ _ _ q => by cases q) (fun _ _ _ _ _ _ q => by cases q) (fun _ _ q => by cases q) (fun _ _ q => by cases q) (fun _ _ q => by cases q) (fun _ q => by cases q) (fun _ _ _ _ q => by cases q) hs
        obtain ⟨g2, q⟩ := rx_bif q
        obtain ⟨g2, g3⟩ := rx_and2 g2
        have e2 := Nat.eq_of_beq_eq_true g2
        have e3 := Nat.eq_of_beq_eq_true g3
        subst e2; subst e3
        exact ⟨hR, ih _ _ _ _ q⟩
/-! one state says less than another -/
def rx_sb (a b : rx_V) : Bool := match a, b with
  | .inl a, .inl b => rx_le b.1 a.1 && rx_le a.2 b.2
  | .inr (.inl a), .inr (.inl b) => rx_le b.1 a.1 && rx_le a.2 b.2
  | .inr (.inr (.inl none)), .inr (.inr (.inl none)) => true
  | .inr (.inr (.inl (some i))), .inr (.inr (.inl (some j))) => Nat.beq i j
  | .inr (.inr (.inr i)), .inr (.inr (.inr j)) => Nat.beq i j
  | _, _ => false
theorem rx_sb_ok {ad sa : List Nat} {a b : rx_V} {x : Value} (h : rx_sb a b = true) (hx : rx_G ad sa a x) : rx_G ad sa b x := by
  unfold rx_sb at h
  split at h
  · obtain ⟨h1, h2⟩ := rx_and2 h
    obtain ⟨i, e, g1, g2⟩ := hx
    exact ⟨i, e, Int.le_trans (rx_le_t h1) g1, Int.le_trans g2 (rx_le_t h2)⟩
  · obtain ⟨h1, h2⟩ := rx_and2 h
    obtain ⟨i, e, g1, g2⟩ := hx
    exact ⟨i, e, Int.le_trans (rx_le_t h1) g1, Int.le_trans g2 (rx_le_t h2)⟩
  · exact hx
  · rw [← Nat.eq_of_beq_eq_true h]; exact hx
  · rw [← Nat.eq_of_beq_eq_true h]; exact hx
  · cases h
/-- lists of one length, place by place -/
noncomputable def rx_all2 {α : Type} (f : α → α → Bool) (a : List α) : List α → Bool :=
  List.rec (motive := fun _ => List α → Bool) (fun b => List.rec (motive := fun _ => Bool) true (fun _ _ _ => false) b)
    (fun x _ ih b => List.rec (motive := fun _ => Bool) false (fun y s _ => f x y && ih s) b) a
theorem rx_all2_ok {α : Type} {f : α → α → Bool} : ∀ {a b : List α}, rx_all2 f a b = true → a.length = b.length ∧ ∀ (i : Nat) (y : α), b[i]? = some y → ∃ x, a[i]? = some x ∧ f x y = true := by
  intro a
  induction a with
  | nil =>
    intro b h
    cases b with
    | nil => exact ⟨rfl, fun i y hy => by simp at hy⟩
    | cons y s => cases h
  | cons x t ih =>
    intro b h
    cases b with
    | nil => cases h
    | cons y s =>
      have h : (f x y && rx_all2 f t s) = true := h
      obtain ⟨h1, h2⟩ := rx_and2 h
      obtain ⟨g1, g2⟩ := ih h2
      refine ⟨by simp [g1], fun i z hz => ?_⟩
      cases i with
      | zero => cases hz; exact ⟨x, rfl, h1⟩
      | succ i => exact g2 i z hz
noncomputable def rx_sbC (a b : rx_C) : Bool := match a, b with
  | .inl (i, l), .inl (j, m) => Nat.beq i j && rx_all2 rx_sb l m
  | .inr (i, l), .inr (j, m) => Nat.beq i j && rx_all2 rx_sb l m
  | _, _ => false
theorem rx_sbS {ad sa : List Nat} : ∀ {a b : List rx_V} {vs : List Value}, rx_all2 rx_sb a b = true → rx_S ad sa a vs → rx_S ad sa b vs
  | [], [], [], _, _ => trivial
  | x :: a, y :: b, v :: vs, h, hs => by
    have h : (rx_sb x y && rx_all2 rx_sb a b) = true := h
    obtain ⟨h1, h2⟩ := rx_and2 h
    exact ⟨rx_sb_ok h1 hs.1, rx_sbS h2 hs.2⟩
  | [], _ :: _, _, h, _ => by cases h
  | _ :: _, [], _, h, _ => by cases h
  | [], [], _ :: _, _, h => h.elim
  | _ :: _, _ :: _, [], _, h => h.elim
theorem rx_sbC_ok {U : State} {ad sa : List Nat} {a b : rx_C} {E : va_E} (h : rx_sbC a b = true) (hE : rx_E U ad sa a E) : rx_E U ad sa b E := by
  unfold rx_sbC at h
  split at h
  · obtain ⟨h1, h2⟩ := rx_and2 h
    have e := Nat.eq_of_beq_eq_true h1
    subst e
    obtain ⟨fs, g1, g2⟩ := hE
    exact ⟨fs, g1, rx_sbS h2 g2⟩
  · obtain ⟨h1, h2⟩ := rx_and2 h
    have e := Nat.eq_of_beq_eq_true h1
    subst e
    obtain ⟨hl, hp⟩ := rx_all2_ok h2
    obtain ⟨cA, g1, g2⟩ := hE
    refine ⟨cA, g1, ?_⟩
    rename_i i l m
    match i, g2 with
    | 0, g2 => obtain ⟨f, q1, q2⟩ := g2; exact ⟨f, by rw [q1, hl], fun j v hv => by obtain ⟨x, w1, w2⟩ := hp j v hv; exact rx_sb_ok w2 (q2 j x w1)⟩
    | 1, g2 => obtain ⟨f, q1, q2⟩ := g2; exact ⟨f, by rw [q1, hl], fun j v hv => by obtain ⟨x, w1, w2⟩ := hp j v hv; exact rx_sb_ok w2 (q2 j x w1)⟩
    | 2, g2 => obtain ⟨f, q1, q2⟩ := g2; exact ⟨f, by rw [q1, hl], fun j v hv => by obtain ⟨x, w1, w2⟩ := hp j v hv; exact rx_sb_ok w2 (q2 j x w1)⟩
    | n + 3, g2 => obtain ⟨f, q1, q2⟩ := g2; exact ⟨f, by rw [q1, hl], fun j v hv => by obtain ⟨x, w1, w2⟩ := hp j v hv; exact rx_sb_ok w2 (q2 j x w1)⟩
  · cases h
def rx_HS (h h' : rx_H) : Prop := h.length = h'.length ∧ ∀ (i : Nat) (c' : rx_C), h'[i]? = some c' → ∃ c, h[i]? = some c ∧ (c = c' ∨ rx_sbC c c' = true)
theorem rx_HS_rf {h : rx_H} : rx_HS h h := ⟨rfl, fun i c hc => ⟨c, hc, Or.inl rfl⟩⟩
theorem rx_HS_W {U : State} {ad sa : List Nat} {h h' : rx_H} {ws : va_W} (hs : rx_HS h h') (hW : rx_W U ad sa h ws) : rx_W U ad sa h' ws := by
  refine ⟨hW.1, by rw [← hs.1]; exact hW.2.1, fun k c hk => ?_⟩
  obtain ⟨c0, g1, g2⟩ := hs.2 k c hk
  obtain ⟨a, E, q1, q2⟩ := hW.2.2 k c0 g1
  rcases g2 with rfl | g2
  · exact ⟨a, E, q1, q2⟩
  · exact ⟨a, E, q1, rx_sbC_ok g2 q2⟩
/-- the first cells say no more than p: the rest -/
noncomputable def rx_sbP {β : Type} (p : rx_H) : rx_H → (rx_H → Option β) → Option β :=
  List.rec (motive := fun _ => rx_H → (rx_H → Option β) → Option β) (fun h k => k h)
    (fun c _ ih h k => List.rec (motive := fun _ => Option β) none (fun d t _ => bif rx_sbC d c then ih t k else none) h) p
theorem rx_sbP_some {β : Type} : ∀ {p h : rx_H} {k : rx_H → Option β} {r : β}, rx_sbP p h k = some r → ∃ rest, rx_HS h (p ++ rest) ∧ k rest = some r := by
  intro p
  induction p with
  | nil => intro h k r hs; exact ⟨h, rx_HS_rf, hs⟩
  | cons c p ih =>
    intro h k r hs
    cases h with
    | nil => cases hs
    | cons d t =>
      have hs : (bif rx_sbC d c then rx_sbP p t k else none) = some r := hs
      obtain ⟨h1, hs⟩ := rx_bif hs
      obtain ⟨rest, h2, h3⟩ := ih hs
      refine ⟨rest, ⟨by simp [h2.1], fun i c' hi => ?_⟩, h3⟩
      cases i with
      | zero => cases hi; exact ⟨d, rfl, Or.inr h1⟩
      | succ i => exact h2.2 i c' hi
/-! closed cells: references into themselves alone -/
def rx_cv (n : Nat) (v : rx_V) : Bool := match v with
  | .inr (.inr (.inl (some k))) => Nat.ble (k + 1) n
  | _ => true
noncomputable def rx_cc (n : Nat) (c : rx_C) : Bool := match c with
  | .inl o => o.2.all (rx_cv n)
  | .inr o => o.2.all (rx_cv n)
theorem rx_cv_ok {ad sa : List Nat} {n : Nat} {v : rx_V} {x : Value} (h : rx_cv n v = true) (hx : rx_G ad sa v x) : rx_G (ad.take n) sa v x := by
  match v, h, hx with
  | .inl q, _, hx => exact hx
  | .inr (.inl q), _, hx => exact hx
  | .inr (.inr (.inl none)), _, hx => exact hx
  | .inr (.inr (.inl (some k))), h, hx =>
    have h := Nat.le_of_ble_eq_true h
    obtain ⟨a, g1, g2⟩ := hx
    exact ⟨a, by rw [List.getElem?_take_of_lt (by omega)]; exact g1, g2⟩
  | .inr (.inr (.inr j)), _, hx => exact hx
theorem rx_cvS {ad sa : List Nat} {n : Nat} : ∀ {a : List rx_V} {vs : List Value}, a.all (rx_cv n) = true → rx_S ad sa a vs → rx_S (ad.take n) sa a vs
  | [], [], _, _ => trivial
  | x :: a, v :: vs, h, hs => by
    rw [List.all_cons] at h
    obtain ⟨h1, h2⟩ := rx_and2 h
    exact ⟨rx_cv_ok h1 hs.1, rx_cvS h2 hs.2⟩
  | [], _ :: _, _, h => h.elim
  | _ :: _, [], _, h => h.elim
theorem rx_cc_ok {U : State} {ad sa : List Nat} {n : Nat} {c : rx_C} {E : va_E} (h : rx_cc n c = true) (hE : rx_E U ad sa c E) : rx_E U (ad.take n) sa c E := by
  match c, h, hE with
  | .inl o, h, hE => obtain ⟨fs, g1, g2⟩ := hE; exact ⟨fs, g1, rx_cvS h g2⟩
  | .inr o, h, hE =>
    obtain ⟨cA, g1, g2⟩ := hE
    have hp : ∀ (j : Nat) (v : rx_V), o.2[j]? = some v → rx_cv n v = true := fun j v hv => List.all_eq_true.mp h v (List.mem_of_getElem? hv)
    refine ⟨cA, g1, ?_⟩
    obtain ⟨t, l⟩ := o
    match t, g2 with
    | 0, g2 => obtain ⟨f, q1, q2⟩ := g2; exact ⟨f, q1, fun j v hv => rx_cv_ok (hp j v hv) (q2 j v hv)⟩
    | 1, g2 => obtain ⟨f, q1, q2⟩ := g2; exact ⟨f, q1, fun j v hv => rx_cv_ok (hp j v hv) (q2 j v hv)⟩
    | 2, g2 => obtain ⟨f, q1, q2⟩ := g2; exact ⟨f, q1, fun j v hv => rx_cv_ok (hp j v hv) (q2 j v hv)⟩
    | _ + 3, g2 => obtain ⟨f, q1, q2⟩ := g2; exact ⟨f, q1, fun j v hv => rx_cv_ok (hp j v hv) (q2 j v hv)⟩
/-- fewer read-only arrays, fewer cells that may change -/
theorem rx_RO_less {U : State} {A B : Nat → Prop} {sa : List Nat} {ro ro2 : List (List rx_V)} (hro : ro <+: ro2) (hBA : ∀ q, B q → A q) (h : rx_RO U A sa ro2) : rx_RO U B sa ro := by
  refine ⟨fun j l hj => ?_, fun j nm hj => ?_⟩
  · obtain ⟨r, rfl⟩ := hro
    obtain ⟨a, xs, h1, h4, h5⟩ := h.1 j l (by rw [List.getElem?_append_left (List.getElem?_eq_some_iff.mp hj).1]; exact hj)
    exact ⟨a, xs, h1, h4.narrow hBA, h5⟩
  · obtain ⟨a, h1, h2⟩ := h.2 j nm hj
    exact ⟨a, h1, h2.narrow hBA⟩
/-- A CONTRACT BESIDE OTHER CELLS -/
theorem rx_frame {l : Launch} {y : MethodName} {wl : List Jvm.Cond} {rm : Room} {D : va_G} {sa : List Nat} {ro ro2 : List (List rx_V)} {p p' rest h : rx_H} {as : List rx_V} {sz : Nat}
    (hM : ∀ ad, Met l y wl rm (rx_Pc true D sa ad ro p as sz) (rx_Qc true D sa ad p' none sz) 0 0 (rx_AW true ad sz)) (hro : ro <+: ro2) (hp : p.all (rx_cc p.length) = true) (ha : as.all (rx_cv p.length) = true) (hl : p'.length = p.length) (hs : rx_HS h (p ++ rest)) (ad : List Nat) :
    Met l y wl rm (rx_Pc true D sa ad ro2 h as sz) (rx_Qc true D sa ad (p' ++ rest) none sz) 0 0 (rx_AW true ad sz) := by
  intro pr e hA hc hk s m args below hf happ hP hK
  obtain ⟨vs, rfl, hS, hsz, hK1, hN, hRO, hTW, ws, hW0, hPp, hD⟩ := hP
  have hW := rx_HS_W hs hW0
  have hsub : ∀ q, rx_AW true (ad.take p.length) sz q → rx_AW true ad sz q := by
    intro q hq
    rcases hq with hq | hq
    · exact Or.inl (List.mem_of_mem_take hq)
    · exact Or.inr hq
  have hWl : rx_W s (ad.take p.length) sa p (ws.take p.length) := by
    refine ⟨by rw [List.map_take, hW.1], ?_, fun k c hk => ?_⟩
    · rw [List.length_take, hW.2.1, List.length_append]; omega
    · have hkl := (List.getElem?_eq_some_iff.mp hk).1
      obtain ⟨a, E, q1, q2⟩ := hW.2.2 k c (by rw [List.getElem?_append_left hkl]; exact hk)
      exact ⟨a, E, by rw [List.getElem?_take_of_lt hkl]; exact q1, rx_cc_ok (List.all_eq_true.mp hp c (List.mem_of_getElem? hk)) q2⟩
  obtain ⟨n, o, g1, g2, g3, ⟨r, ad1, w1, rfl, q2, q3, q4, q5, q6, q7⟩, L, hF, hL⟩ := hM (ad.take p.length) pr e hA hc hk s m vs.toArray below hf happ
    ⟨vs, rfl, rx_cvS ha hS, hsz, hK1, hN, rx_RO_less hro hsub hRO, rx_TW_go (State.WarmedH.refl s) (fun _ _ _ => rfl) hsub hTW, ws.take p.length, hWl, hPp.by id (fun k q hk => by
      have hkl := (List.getElem?_eq_some_iff.mp hk).1
      rw [List.length_take] at hkl
      rw [List.getElem?_take_of_lt (by omega)] at hk; exact hk), hD.by id (fun k q hk => by
      have hkl := (List.getElem?_eq_some_iff.mp hk).1
      rw [List.length_take] at hkl
      rw [List.getElem?_take_of_lt (by omega)] at hk; exact hk) (fun i j _ _ e => e)⟩ trivial
  generalize hT : stepsAlone pr.tables e n s = t at *
  refine ⟨n, .returned r, g1, by rw [hT]; exact g2, by rw [hT]; exact g3, ?_, L, by rw [hT]; exact hF, fun q hq => hsub _ (hL q hq)⟩
  rw [hT]
  have hal : s.vm.Alike t.vm := by
    obtain ⟨-, hW', -⟩ := hF
    exact hW'.alike
  have had : ad1 = ad.take p.length := by
    have z1 := rx_W_len q4
    have z2 := rx_W_len hWl
    obtain ⟨r, rfl⟩ := q3
    rw [List.length_append] at z1
    have : r.length = 0 := by omega
    rw [List.eq_nil_of_length_eq_zero this, List.append_nil]
  subst had
  have hwl : w1.length = p.length := by rw [q4.2.1, hl]
  have hadl : p.length ≤ ad.length := by
    have := rx_W_len hW
    rw [List.length_append] at this
    omega
  have hwsl : ws.length = ad.length := by rw [← hW.1, List.length_map]
  have hdrop : ∀ (k : Nat) (q : Nat × va_E), (ws.drop p.length)[k]? = some q → ws[p.length + k]? = some q := fun k q hk => by rw [List.getElem?_drop] at hk; exact hk
  have hap : ∀ (k : Nat) (q : Nat × va_E), (ws.drop p.length)[k]? = some q → q.1 < s.heap.size ∧ ¬ rx_AW true (ad.take p.length) sz q.1 := by
    intro k q hk
    have h1 := hdrop k q hk
    have hlt := (hPp _ q h1).lt
    refine ⟨hlt, fun hz => ?_⟩
    rcases hz with hz | hz
    · have hz : q.1 ∈ ad.take p.length := hz
      obtain ⟨i, hi⟩ := List.getElem?_of_mem hz
      have hil := (List.getElem?_eq_some_iff.mp hi).1
      rw [List.length_take] at hil
      rw [List.getElem?_take_of_lt (by omega), ← hW.1, List.getElem?_map] at hi
      cases hw : ws[i]? with
      | none => rw [hw] at hi; cases hi
      | some x =>
        rw [hw] at hi
        have hi : x.1 = q.1 := Option.some.inj hi
        have := hD.1 i (p.length + k) x q hw h1 hi
        omega
    · omega
  refine ⟨r, ad, w1 ++ ws.drop p.length, rfl, ?_, List.prefix_refl _, ⟨?_, ?_, fun k c hk => ?_⟩, ?_, ?_, ?_⟩
  · match r, q2 with
    | none, _ => trivial
  · rw [List.map_append, q4.1, List.map_drop, hW.1, List.take_append_drop]
  · rw [List.length_append, List.length_append, hwl, hl, List.length_drop, hwsl]
    have := rx_W_len hW
    rw [List.length_append] at this
    omega
  · by_cases hkl : k < p.length
    · rw [List.getElem?_append_left (by omega)] at hk
      obtain ⟨a, E, z1, z2⟩ := q4.2.2 k c hk
      exact ⟨a, E, by rw [List.getElem?_append_left (by omega)]; exact z1, rx_E_up (List.take_prefix _ _) z2⟩
    · rw [List.getElem?_append_right (by omega), hl] at hk
      obtain ⟨a, E, z1, z2⟩ := hW.2.2 k c (by rw [List.getElem?_append_right (by omega)]; exact hk)
      refine ⟨a, E, ?_, rx_E_moved hal z2⟩
      rw [List.getElem?_append_right (by omega), hwl, List.getElem?_drop, show p.length + (k - p.length) = k by omega]
      exact z1
  · refine va_P.app q5 (fun k q hk => ?_)
    obtain ⟨z1, z2⟩ := hap k q hk
    exact (hPp _ q (hdrop k q hk)).kept (q7.2 q.1 z1 z2)
  · refine va_D.app (q6.weaken (fun k q _ hq => ?_)) ⟨fun i j x y hx hy hxy => ?_, fun k q hk => ?_⟩ (fun i j x y hx hy hxy => ?_)
    · rcases hq with hq | hq
      · cases hq
      · refine Or.inr ?_
        rcases hq with hq | hq
        · exact Or.inl (List.mem_of_mem_take hq)
        · exact Or.inr hq
    · have := hD.1 _ _ x y (hdrop i x hx) (hdrop j y hy) hxy
      omega
    · refine Or.inr (Or.inl ?_)
      rw [← hW.1]
      exact List.mem_map.mpr ⟨q, List.mem_of_getElem? (hdrop k q hk), rfl⟩
    · have z1 := q6.2 i x hx
      rw [hxy] at z1
      rcases z1 with z1 | z1
      · cases z1
      · exact (hap j y hy).2 z1
  · exact ⟨q7.1, fun q h1 h2 => q7.2 q h1 (fun z => h2 (hsub q z))⟩
