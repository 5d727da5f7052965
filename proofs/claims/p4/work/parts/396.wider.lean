/-! WIDER STATES -/
/-- one state says less than another -/
def rx_sb (a b : rx_V) : Bool := match a, b with
  | .inl a, .inl b => rx_le b.1 a.1 && rx_le a.2 b.2
  | .inr (.inl a), .inr (.inl b) => rx_le b.1 a.1 && rx_le a.2 b.2
  | .inr (.inr (.inl none)), .inr (.inr (.inl none)) => true
  | .inr (.inr (.inl (some i))), .inr (.inr (.inl (some j))) => Nat.beq i j
  | .inr (.inr (.inr i)), .inr (.inr (.inr j)) => Nat.beq i j || (Nat.beq i 600002 && Nat.beq j 600000) || (Nat.ble 1000000 i && (Nat.ble 1000000 j && (Nat.ble (rx_oa j) (rx_oa i) && (Nat.ble (rx_ob i) (rx_ob j) && (Nat.beq (rx_on i) 0 || Nat.beq (rx_on j) 1)))))
  | .inr (.inr (.inl none)), .inr (.inr (.inr j)) => Nat.ble 1000000 j && Nat.beq (rx_on j) 1
  | .inr (.inr (.inl (some i))), .inr (.inr (.inr j)) => Nat.ble 1000000 j && (Nat.ble (rx_oa j) i && Nat.ble i (rx_ob j))
  | .inr (.inr (.inr i)), .inl b => Nat.ble 200000 i && (Nat.ble i 999999 && ((rx_le b.1 (-2147483648) && rx_le 2147483647 b.2) || ((Nat.ble 500000 i && Nat.ble i 500127) && (rx_le b.1 0 && rx_le 6 b.2)) || ((Nat.ble 600000 i && Nat.ble i 600002) && (rx_le b.1 (rx_ul i : Nat) && rx_le 2147483647 b.2))))
  | _, _ => false
theorem rx_or2 {a b : Bool} (h : (a || b) = true) : a = true ∨ b = true := by rwa [Bool.or_eq_true] at h
theorem rx_mask7 {m z : Nat} (hm : m ≤ 127) (h : m.testBit z = true) : z ≤ 6 := by
  rcases Nat.lt_or_ge z 7 with h1 | h1
  · omega
  · have h2 : m < 2 ^ z := Nat.lt_of_lt_of_le (show m < 2 ^ 7 by omega) (Nat.pow_le_pow_right (by decide) h1)
    rw [Nat.testBit_lt_two_pow h2] at h
    cases h
theorem rx_sb_ok {ad sa : List Nat} {a b : rx_V} {x : Value} (h : rx_sb a b = true) (hx : rx_G ad sa a x) : rx_G ad sa b x := by
  unfold rx_sb at h
  split at h
  · obtain ⟨h1, h2⟩ := rx_and2 h
    obtain ⟨i, e, g1, g2⟩ := hx
    exact ⟨i, e, Int.le_trans (rx_le_t h1) g1, Int.le_trans g2 (rx_le_t h2)⟩
  · obtain ⟨h1, h2⟩ := rx_and2 h
    obtain ⟨i, e, g1, g2⟩ := hx
    exact ⟨i, e, Int.le_trans (rx_le_t h1) g1, Int.le_trans g2 (rx_le_t h2)⟩
  · exact hx
  · rw [← Nat.eq_of_beq_eq_true h]; exact hx
  · rename_i i j
    rcases rx_or2 h with h | h
    · rcases rx_or2 h with h | h
      · rw [← Nat.eq_of_beq_eq_true h]; exact hx
      · obtain ⟨h1, h2⟩ := rx_and2 h
        rw [Nat.eq_of_beq_eq_true h1] at hx
        rw [Nat.eq_of_beq_eq_true h2]
        have u1 : rx_uh 600002 = 0 := rfl
        have u2 : rx_uh 600000 = 0 := rfl
        have u3 : rx_ul 600000 = 0 := rfl
        rcases hx with ⟨q, -⟩ | ⟨-, -, y, rfl, hy⟩ | ⟨q, -⟩
        · omega
        · rcases hy with ⟨-, q, -⟩ | ⟨-, q, -⟩ | ⟨-, q, -⟩ | ⟨-, q, -⟩ | ⟨-, -, u, q1, q2, q3⟩ | ⟨q, -⟩
          · omega
          · omega
          · omega
          · omega
          · exact Or.inr (Or.inl ⟨by decide, by decide, y, rfl, Or.inr (Or.inr (Or.inr (Or.inr (Or.inl ⟨by decide, by decide, u, q1, by omega, by omega⟩))))⟩)
          · omega
        · omega
    · obtain ⟨h1, h⟩ := rx_and2 h
      obtain ⟨h2, h⟩ := rx_and2 h
      obtain ⟨h3, h⟩ := rx_and2 h
      obtain ⟨h4, h⟩ := rx_and2 h
      have h1 := Nat.le_of_ble_eq_true h1
      have h2 := Nat.le_of_ble_eq_true h2
      have h3 := Nat.le_of_ble_eq_true h3
      have h4 := Nat.le_of_ble_eq_true h4
      rcases hx with ⟨q, -⟩ | ⟨-, q, -⟩ | ⟨-, ⟨q, e⟩ | ⟨k, a, q1, q2, q3, e⟩⟩
      · omega
      · omega
      · rcases rx_or2 h with h | h
        · have := Nat.eq_of_beq_eq_true h; omega
        · exact Or.inr (Or.inr ⟨h2, Or.inl ⟨Nat.eq_of_beq_eq_true h, e⟩⟩)
      · exact Or.inr (Or.inr ⟨h2, Or.inr ⟨k, a, by omega, by omega, q3, e⟩⟩)
  · obtain ⟨h1, h2⟩ := rx_and2 h
    exact Or.inr (Or.inr ⟨Nat.le_of_ble_eq_true h1, Or.inl ⟨Nat.eq_of_beq_eq_true h2, hx⟩⟩)
  · obtain ⟨h1, h⟩ := rx_and2 h
    obtain ⟨h2, h3⟩ := rx_and2 h
    obtain ⟨a, q1, q2⟩ := hx
    exact Or.inr (Or.inr ⟨Nat.le_of_ble_eq_true h1, Or.inr ⟨_, a, Nat.le_of_ble_eq_true h2, Nat.le_of_ble_eq_true h3, q1, q2⟩⟩)
  · rename_i i b
    obtain ⟨h1, h⟩ := rx_and2 h
    obtain ⟨h2, h⟩ := rx_and2 h
    have h1 := Nat.le_of_ble_eq_true h1
    have h2 := Nat.le_of_ble_eq_true h2
    rcases hx with ⟨q, -⟩ | ⟨-, -, y, rfl, hy⟩ | ⟨q, -⟩
    · omega
    · have hr := rx_r32 y
      refine ⟨y, rfl, ?_⟩
      rcases rx_or2 h with h | h
      · rcases rx_or2 h with h | h
        · obtain ⟨h3, h4⟩ := rx_and2 h
          have h3 := rx_le_t h3
          have h4 := rx_le_t h4
          exact ⟨by omega, by omega⟩
        · obtain ⟨h3, h4⟩ := rx_and2 h
          obtain ⟨h5, h6⟩ := rx_and2 h3
          obtain ⟨h7, h8⟩ := rx_and2 h4
          have h5 := Nat.le_of_ble_eq_true h5
          have h6 := Nat.le_of_ble_eq_true h6
          have h7 := rx_le_t h7
          have h8 := rx_le_t h8
          rcases hy with ⟨-, q, -⟩ | ⟨-, q, -⟩ | ⟨-, q, -⟩ | ⟨-, -, z, q1, q2⟩ | ⟨q, -⟩ | ⟨q, -⟩
          · omega
          · omega
          · omega
          · have := rx_mask7 (m := i - 500000) (by omega) q2
            exact ⟨by omega, by omega⟩
          · omega
          · omega
      · obtain ⟨h3, h4⟩ := rx_and2 h
        obtain ⟨h5, h6⟩ := rx_and2 h3
        obtain ⟨h7, h8⟩ := rx_and2 h4
        have h5 := Nat.le_of_ble_eq_true h5
        have h6 := Nat.le_of_ble_eq_true h6
        have h7 := rx_le_t h7
        have h8 := rx_le_t h8
        rcases hy with ⟨-, q, -⟩ | ⟨-, q, -⟩ | ⟨-, q, -⟩ | ⟨-, q, -⟩ | ⟨-, -, u, q1, q2, q3⟩ | ⟨q, -⟩
        · omega
        · omega
        · omega
        · omega
        · exact ⟨by omega, by omega⟩
        · omega
    · omega
  · cases h
/-- lists of one length, place by place -/
noncomputable def rx_all2 {α : Type} (f : α → α → Bool) (a : List α) : List α → Bool :=
  List.rec (motive := fun _ => List α → Bool) (fun b => List.rec (motive := fun _ => Bool) true (fun _ _ _ => false) b)
    (fun x _ ih b => List.rec (motive := fun _ => Bool) false (fun y s _ => f x y && ih s) b) a
theorem rx_all2_ok {α : Type} {f : α → α → Bool} : ∀ {a b : List α}, rx_all2 f a b = true → a.length = b.length ∧ ∀ (i : Nat) (y : α), b[i]? = some y → ∃ x, a[i]? = some x ∧ f x y = true := by
  intro a
  induction a with
  | nil =>
    intro b h
    cases b with
    | nil => exact ⟨rfl, fun i y hy => by simp at hy⟩
    | cons y s => cases h
  | cons x t ih =>
    intro b h
    cases b with
    | nil => cases h
    | cons y s =>
      have h : (f x y && rx_all2 f t s) = true := h
      obtain ⟨h1, h2⟩ := rx_and2 h
      obtain ⟨g1, g2⟩ := ih h2
      refine ⟨by simp [g1], fun i z hz => ?_⟩
      cases i with
      | zero => cases hz; exact ⟨x, rfl, h1⟩
      | succ i => exact g2 i z hz
noncomputable def rx_sbC (a b : rx_C) : Bool := match a, b with
  | .inl (i, l), .inl (j, m) => Nat.beq i j && rx_all2 rx_sb l m
  | .inr (i, l), .inr (j, m) => Nat.beq i j && rx_all2 rx_sb l m
  | _, _ => false
/-- as a saying of two values: the second holds wherever the first does -/
def rx_vi (x y : rx_V) : Prop := ∀ (ad sa : List Nat) (w : Value), rx_G ad sa x w → rx_G ad sa y w
theorem rx_vi_rf {x : rx_V} : rx_vi x x := fun _ _ _ h => h
theorem rx_vi_tr {x y z : rx_V} (h1 : rx_vi x y) (h2 : rx_vi y z) : rx_vi x z := fun ad sa w h => h2 ad sa w (h1 ad sa w h)
theorem rx_vi_of {x y : rx_V} (h : rx_sb x y = true) : rx_vi x y := fun _ _ _ hx => rx_sb_ok h hx
/-- lists of one length, place by place -/
def rx_SS (a b : List rx_V) : Prop := a.length = b.length ∧ ∀ (t : Nat) (y : rx_V), b[t]? = some y → ∃ x, a[t]? = some x ∧ rx_vi x y
theorem rx_SS_rf {a : List rx_V} : rx_SS a a := ⟨rfl, fun t y h => ⟨y, h, rx_vi_rf⟩⟩
theorem rx_SS_tr {a b c : List rx_V} (h1 : rx_SS a b) (h2 : rx_SS b c) : rx_SS a c := by
  refine ⟨h1.1.trans h2.1, fun t z hz => ?_⟩
  obtain ⟨y, g1, g2⟩ := h2.2 t z hz
  obtain ⟨x, g3, g4⟩ := h1.2 t y g1
  exact ⟨x, g3, rx_vi_tr g4 g2⟩
theorem rx_SS_cons {a b : List rx_V} {x y : rx_V} (h : rx_SS a b) (hx : rx_vi x y) : rx_SS (x :: a) (y :: b) := by
  refine ⟨by simp [h.1], fun t z hz => ?_⟩
  cases t with
  | zero => cases hz; exact ⟨x, rfl, hx⟩
  | succ t => exact h.2 t z hz
theorem rx_SS_set {a b : List rx_V} {i : Nat} {v w : rx_V} (h : rx_SS a b) (hw : b[i]? = some w) (hv : rx_vi v w) : rx_SS (a.set i v) b := by
  refine ⟨by rw [List.length_set]; exact h.1, fun t z hz => ?_⟩
  by_cases e : i = t
  · subst e
    cases hw.symm.trans hz
    exact ⟨v, List.getElem?_set_self (by rw [h.1]; exact (List.getElem?_eq_some_iff.mp hz).1), hv⟩
  · obtain ⟨x, g1, g2⟩ := h.2 t z hz
    exact ⟨x, by rw [List.getElem?_set_ne e]; exact g1, g2⟩
theorem rx_SS_all {a b : List rx_V} (h : rx_all2 rx_sb a b = true) : rx_SS a b := by
  obtain ⟨g1, g2⟩ := rx_all2_ok h
  exact ⟨g1, fun t y hy => by obtain ⟨x, w1, w2⟩ := g2 t y hy; exact ⟨x, w1, rx_vi_of w2⟩⟩
theorem rx_SS_S {ad sa : List Nat} : ∀ {a b : List rx_V} {vs : List Value}, rx_SS a b → rx_S ad sa a vs → rx_S ad sa b vs
  | [], [], [], _, _ => trivial
  | x :: a, y :: b, v :: vs, h, hs => by
    obtain ⟨x', h1, h2⟩ := h.2 0 y rfl
    cases h1
    exact ⟨h2 _ _ _ hs.1, rx_SS_S ⟨by simpa using h.1, fun t z hz => h.2 (t + 1) z hz⟩ hs.2⟩
  | [], _ :: _, _, h, _ => by simp [rx_SS] at h
  | _ :: _, [], _, h, _ => by simp [rx_SS] at h
  | [], [], _ :: _, _, h => h.elim
  | _ :: _, _ :: _, [], _, h => h.elim
/-- cells -/
def rx_CS (a b : rx_C) : Prop := match a, b with
  | .inl (i, l), .inl (j, m) => i = j ∧ rx_SS l m
  | .inr (i, l), .inr (j, m) => i = j ∧ rx_SS l m
  | _, _ => False
theorem rx_CS_rf {c : rx_C} : rx_CS c c := by
  rcases c with ⟨i, l⟩ | ⟨i, l⟩
  · exact ⟨rfl, rx_SS_rf⟩
  · exact ⟨rfl, rx_SS_rf⟩
theorem rx_CS_tr {a b c : rx_C} (h1 : rx_CS a b) (h2 : rx_CS b c) : rx_CS a c := by
  rcases a with ⟨i, l⟩ | ⟨i, l⟩ <;> rcases b with ⟨j, m⟩ | ⟨j, m⟩ <;> rcases c with ⟨k, n⟩ | ⟨k, n⟩
  · exact ⟨h1.1.trans h2.1, rx_SS_tr h1.2 h2.2⟩
  · exact h2.elim
  · exact h1.elim
  · exact h1.elim
  · exact h1.elim
  · exact h1.elim
  · exact h2.elim
  · exact ⟨h1.1.trans h2.1, rx_SS_tr h1.2 h2.2⟩
theorem rx_CS_of {a b : rx_C} (h : rx_sbC a b = true) : rx_CS a b := by
  rcases a with ⟨i, l⟩ | ⟨i, l⟩ <;> rcases b with ⟨j, m⟩ | ⟨j, m⟩
  · have h : (Nat.beq i j && rx_all2 rx_sb l m) = true := h
    obtain ⟨h1, h2⟩ := rx_and2 h
    exact ⟨Nat.eq_of_beq_eq_true h1, rx_SS_all h2⟩
  · cases h
  · cases h
  · have h : (Nat.beq i j && rx_all2 rx_sb l m) = true := h
    obtain ⟨h1, h2⟩ := rx_and2 h
    exact ⟨Nat.eq_of_beq_eq_true h1, rx_SS_all h2⟩
theorem rx_CS_ok {U : State} {ad sa : List Nat} {a b : rx_C} {E : va_E} (h : rx_CS a b) (hE : rx_E U ad sa a E) : rx_E U ad sa b E := by
  rcases a with ⟨i, l⟩ | ⟨i, l⟩ <;> rcases b with ⟨j, m⟩ | ⟨j, m⟩
  · obtain ⟨e, hl⟩ := h
    have e : i = j := e
    subst e
    obtain ⟨fs, g1, g2⟩ := hE
    exact ⟨fs, g1, rx_SS_S hl g2⟩
  · exact h.elim
  · exact h.elim
  · obtain ⟨e, hl, hp⟩ := h
    have e : i = j := e
    subst e
    obtain ⟨cA, g1, g2⟩ := hE
    refine ⟨cA, g1, ?_⟩
    have hl : l.length = m.length := hl
    match i, g2 with
    | 0, g2 => obtain ⟨f, q1, q2⟩ := g2; exact ⟨f, by rw [q1]; simp [hl], fun j v hv => by obtain ⟨x, w1, w2⟩ := hp j v hv; exact w2 _ _ _ (q2 j x w1)⟩
    | 1, g2 => obtain ⟨f, q1, q2⟩ := g2; exact ⟨f, by rw [q1]; simp [hl], fun j v hv => by obtain ⟨x, w1, w2⟩ := hp j v hv; exact w2 _ _ _ (q2 j x w1)⟩
    | 2, g2 => obtain ⟨f, q1, q2⟩ := g2; exact ⟨f, by rw [q1]; simp [hl], fun j v hv => by obtain ⟨x, w1, w2⟩ := hp j v hv; exact w2 _ _ _ (q2 j x w1)⟩
    | n + 3, g2 => obtain ⟨f, q1, q2⟩ := g2; exact ⟨f, by rw [q1]; simp [hl], fun j v hv => by obtain ⟨x, w1, w2⟩ := hp j v hv; exact w2 _ _ _ (q2 j x w1)⟩
/-- heaps: the wider holds wherever the narrower does -/
def rx_HS (h h' : rx_H) : Prop := h.length = h'.length ∧ ∀ (i : Nat) (c' : rx_C), h'[i]? = some c' → ∃ c, h[i]? = some c ∧ rx_CS c c'
theorem rx_HS_rf {h : rx_H} : rx_HS h h := ⟨rfl, fun i c hc => ⟨c, hc, rx_CS_rf⟩⟩
theorem rx_HS_tr {a b c : rx_H} (h1 : rx_HS a b) (h2 : rx_HS b c) : rx_HS a c := by
  refine ⟨h1.1.trans h2.1, fun i x hx => ?_⟩
  obtain ⟨y, g1, g2⟩ := h2.2 i x hx
  obtain ⟨z, g3, g4⟩ := h1.2 i y g1
  exact ⟨z, g3, rx_CS_tr g4 g2⟩
theorem rx_HS_set {h h' : rx_H} {k : Nat} {c c' : rx_C} (hs : rx_HS h h') (hk : h'[k]? = some c) (hc : rx_CS c' c) : rx_HS (h.set k c') h' := by
  have hl := (List.getElem?_eq_some_iff.mp hk).1
  refine ⟨by rw [List.length_set]; exact hs.1, fun i x hx => ?_⟩
  by_cases e : k = i
  · subst e
    cases hk.symm.trans hx
    exact ⟨c', List.getElem?_set_self (by rw [hs.1]; exact hl), hc⟩
  · obtain ⟨y, g1, g2⟩ := hs.2 i x hx
    exact ⟨y, by rw [List.getElem?_set_ne e]; exact g1, g2⟩
theorem rx_HS_W {U : State} {ad sa : List Nat} {h h' : rx_H} {ws : va_W} (hs : rx_HS h h') (hW : rx_W U ad sa h ws) : rx_W U ad sa h' ws := by
  refine ⟨hW.1, by rw [← hs.1]; exact hW.2.1, fun k c hk => ?_⟩
  obtain ⟨c0, g1, g2⟩ := hs.2 k c hk
  obtain ⟨a, E, q1, q2⟩ := hW.2.2 k c0 g1
  exact ⟨a, E, q1, rx_CS_ok g2 q2⟩
/-- tables, compared by the machine -/
theorem rx_HS_of {h h' : rx_H} (hb : rx_all2 rx_sbC h h' = true) : rx_HS h h' := by
  obtain ⟨g1, g2⟩ := rx_all2_ok hb
  refine ⟨g1, fun i c hc => ?_⟩
  obtain ⟨x, w1, w2⟩ := g2 i c hc
  exact ⟨x, w1, rx_CS_of w2⟩
/-- locals -/
def rx_LS2 (L L' : rx_F) : Prop := L.length = L'.length ∧ ∀ (i : Nat) (y : rx_V), L'[i]? = some (some y) → ∃ x, L[i]? = some (some x) ∧ rx_vi x y
theorem rx_LS_rf {L : rx_F} : rx_LS2 L L := ⟨rfl, fun i y h => ⟨y, h, rx_vi_rf⟩⟩
theorem rx_LS_W {ad sa : List Nat} {nL : Nat} {L L' : rx_F} {ls : Array Slot} (h : rx_LS2 L L') (hL : rx_L ad sa nL L ls) : rx_L ad sa nL L' ls := by
  obtain ⟨l, h1, h2, h3⟩ := hL
  refine ⟨l, h1, by rw [← h.1]; exact h2, fun i v hi => ?_⟩
  obtain ⟨x, g1, g2⟩ := h.2 i v hi
  obtain ⟨y, g3, g4⟩ := h3 i x g1
  exact ⟨y, g3, g2 _ _ _ g4⟩
/-- fewer read-only arrays, fewer cells that may change -/
theorem rx_RO_less {U : State} {A B : Nat → Prop} {sa : List Nat} {ro ro2 : List (List rx_V)} (hro : ro <+: ro2) (hBA : ∀ q, B q → A q) (h : rx_RO U A sa ro2) : rx_RO U B sa ro := by
  refine ⟨fun j l hj => ?_, fun j nm hj => ?_⟩
  · obtain ⟨r, rfl⟩ := hro
    obtain ⟨a, xs, h1, h4, h5⟩ := h.1 j l (by rw [List.getElem?_append_left (List.getElem?_eq_some_iff.mp hj).1]; exact hj)
    exact ⟨a, xs, h1, h4.narrow hBA, h5⟩
  · obtain ⟨a, h1, h2⟩ := h.2 j nm hj
    exact ⟨a, h1, h2.narrow hBA⟩
