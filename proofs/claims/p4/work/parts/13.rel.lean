/-! WHAT A STATE OF THE LITTLE MACHINE SAYS OF THE GREAT ONE: 'ad' are the addresses of the world's cells, 'sa' those of the read-only arrays -/
def rx_sp (sa : List Nat) (j : Nat) (i : Int32) : Prop := (200000 ≤ j ∧ j ≤ 299999 ∧ ∀ m : Nat, m < 4 → ((i >>> (Int32.ofInt ((2 * m : Nat) : Int) &&& 31)) &&& 3).toInt = ((rx_dg j m : Nat) : Int)) ∨ (300000 ≤ j ∧ j ≤ 399999 ∧ (i &&& 3).toInt = ((j - 300000 : Nat) : Int)) ∨ (400000 ≤ j ∧ j ≤ 499999 ∧ (i &&& 31).toInt = ((j - 400000 : Nat) : Int)) ∨ (500000 ≤ j ∧ j ≤ 500127 ∧ ∃ z : Nat, i.toInt = (z : Int) ∧ (j - 500000).testBit z = true) ∨ (600000 ≤ j ∧ j ≤ 600002 ∧ ∃ u : Nat, sa[20]? = some u ∧ ((rx_ul j : Nat) : Int) ≤ i.toInt ∧ i.toInt ≤ ((u + rx_uh j : Nat) : Int)) ∨ (650000 ≤ j ∧ j ≤ 650009 ∧ ∃ t : Nat, sa[21]? = some t ∧ i.toInt = ((t + (j - 650000) : Nat) : Int))
def rx_G (ad sa : List Nat) (v : rx_V) (x : Value) : Prop := match v with
  | .inl q => ∃ i : Int32, x = .int i ∧ rx_has q i.toInt
  | .inr (.inl q) => ∃ i : Int64, x = .long i ∧ rx_has q i.toInt
  | .inr (.inr (.inl none)) => x = .null
  | .inr (.inr (.inl (some k))) => ∃ a, ad[k]? = some a ∧ x = .ref a
  | .inr (.inr (.inr j)) => (j ≤ 19 ∧ ∃ a, sa[j]? = some a ∧ x = .ref a) ∨ (200000 ≤ j ∧ j ≤ 999999 ∧ ∃ i : Int32, x = .int i ∧ rx_sp sa j i) ∨ (1000000 ≤ j ∧ ((rx_on j = 1 ∧ x = .null) ∨ ∃ k a, rx_oa j ≤ k ∧ k ≤ rx_ob j ∧ ad[k]? = some a ∧ x = .ref a))
def rx_S (ad sa : List Nat) : List rx_V → List Value → Prop
  | [], [] => True
  | v :: vs, x :: xs => rx_G ad sa v x ∧ rx_S ad sa vs xs
  | _, _ => False
theorem rx_G_cat {ad sa : List Nat} {v : rx_V} {x : Value} (h : rx_G ad sa v x) : x.category = rx_cat v := by
  match v, h with
  | .inl q, h => obtain ⟨i, rfl, -⟩ := h; rfl
  | .inr (.inl q), h => obtain ⟨i, rfl, -⟩ := h; rfl
  | .inr (.inr (.inl none)), h => cases h; rfl
  | .inr (.inr (.inl (some k))), h => obtain ⟨a, -, rfl⟩ := h; rfl
  | .inr (.inr (.inr j)), h => rcases h with ⟨-, a, -, rfl⟩ | ⟨-, -, i, rfl, -⟩ | ⟨-, ⟨-, rfl⟩ | ⟨k, a, -, -, -, rfl⟩⟩ <;> rfl
theorem rx_S_cons {ad sa : List Nat} {v : rx_V} {vs : List rx_V} {l : List Value} (h : rx_S ad sa (v :: vs) l) : ∃ x xs, l = x :: xs ∧ rx_G ad sa v x ∧ rx_S ad sa vs xs := by
  cases l with
  | nil => exact h.elim
  | cons x xs => exact ⟨x, xs, rfl, h.1, h.2⟩
theorem rx_S_nil {ad sa : List Nat} {l : List Value} (h : rx_S ad sa [] l) : l = [] := by
  cases l with
  | nil => rfl
  | cons x xs => exact h.elim
theorem rx_S_len {ad sa : List Nat} : ∀ {vs : List rx_V} {l : List Value}, rx_S ad sa vs l → vs.length = l.length
  | [], [], _ => rfl
  | v :: vs, x :: xs, h => by simp [rx_S_len h.2]
  | [], _ :: _, h => h.elim
  | _ :: _, [], h => h.elim
theorem rx_S_app {ad sa : List Nat} : ∀ {a b : List rx_V} {l : List Value}, rx_S ad sa (a ++ b) l → ∃ l1 l2, l = l1 ++ l2 ∧ rx_S ad sa a l1 ∧ rx_S ad sa b l2
  | [], b, l, h => ⟨[], l, rfl, trivial, h⟩
  | v :: a, b, l, h => by
    obtain ⟨x, xs, rfl, h1, h2⟩ := rx_S_cons h
    obtain ⟨l1, l2, rfl, h3, h4⟩ := rx_S_app h2
    exact ⟨x :: l1, l2, rfl, ⟨h1, h3⟩, h4⟩
theorem rx_S_join {ad sa : List Nat} : ∀ {a b : List rx_V} {l1 l2 : List Value}, rx_S ad sa a l1 → rx_S ad sa b l2 → rx_S ad sa (a ++ b) (l1 ++ l2)
  | [], b, [], l2, _, h => h
  | v :: a, b, x :: l1, l2, h1, h2 => ⟨h1.1, rx_S_join h1.2 h2⟩
  | [], _, _ :: _, _, h, _ => h.elim
  | _ :: _, _, [], _, h, _ => h.elim
theorem rx_S_rev {ad sa : List Nat} : ∀ {a : List rx_V} {l : List Value}, rx_S ad sa a l → rx_S ad sa a.reverse l.reverse
  | [], [], _ => trivial
  | v :: a, x :: l, h => by
    rw [List.reverse_cons, List.reverse_cons]
    exact rx_S_join (rx_S_rev h.2) ⟨h.1, trivial⟩
  | [], _ :: _, h => h.elim
  | _ :: _, [], h => h.elim
theorem rx_S_get {ad sa : List Nat} : ∀ {a : List rx_V} {l : List Value} {i : Nat} {v : rx_V}, rx_S ad sa a l → a[i]? = some v → ∃ x, l[i]? = some x ∧ rx_G ad sa v x
  | v :: a, x :: l, 0, w, h, hi => by cases hi; exact ⟨x, rfl, h.1⟩
  | v :: a, x :: l, i + 1, w, h, hi => rx_S_get (i := i) h.2 hi
  | [], _, _, _, _, hi => by simp at hi
  | _ :: _, [], _, _, h, _ => h.elim
theorem rx_S_set {ad sa : List Nat} : ∀ {a : List rx_V} {l : List Value} {i : Nat} {v : rx_V} {x : Value}, rx_S ad sa a l → rx_G ad sa v x → rx_S ad sa (a.set i v) (l.set i x)
  | [], [], _, _, _, _, _ => trivial
  | _ :: _, _ :: _, 0, _, _, h, hv => ⟨hv, h.2⟩
  | _ :: _, _ :: _, i + 1, _, _, h, hv => ⟨h.1, rx_S_set h.2 hv⟩
  | [], _ :: _, _, _, _, h, _ => h.elim
  | _ :: _, [], _, _, _, h, _ => h.elim
theorem rx_S_cats {ad sa : List Nat} : ∀ {a : List rx_V} {l : List Value}, rx_S ad sa a l → (l.map fun v => v.category).sum = rx_cats a
  | [], [], _ => rfl
  | v :: a, x :: l, h => by
    have h1 := rx_G_cat h.1
    have h2 := rx_S_cats h.2
    simp only [List.map_cons, List.sum_cons, rx_cats] at h2 ⊢
    rw [h1, h2]
  | [], _ :: _, h => h.elim
  | _ :: _, [], h => h.elim
/-- more cells in the world: all that was said still holds -/
theorem rx_G_up {ad ad' sa : List Nat} (hp : ad <+: ad') {v : rx_V} {x : Value} (h : rx_G ad sa v x) : rx_G ad' sa v x := by
  match v, h with
  | .inl q, h => exact h
  | .inr (.inl q), h => exact h
  | .inr (.inr (.inl none)), h => exact h
  | .inr (.inr (.inl (some k))), h =>
    obtain ⟨a, h1, h2⟩ := h
    obtain ⟨r, rfl⟩ := hp
    exact ⟨a, by rw [List.getElem?_append_left (List.getElem?_eq_some_iff.mp h1).1]; exact h1, h2⟩
  | .inr (.inr (.inr j)), h =>
    rcases h with h | h | ⟨h0, h | ⟨k, a, h3, h4, h1, h2⟩⟩
    · exact Or.inl h
    · exact Or.inr (Or.inl h)
    · exact Or.inr (Or.inr ⟨h0, Or.inl h⟩)
    · obtain ⟨r, rfl⟩ := hp
      exact Or.inr (Or.inr ⟨h0, Or.inr ⟨k, a, h3, h4, by rw [List.getElem?_append_left (List.getElem?_eq_some_iff.mp h1).1]; exact h1, h2⟩⟩)
theorem rx_S_up {ad ad' sa : List Nat} (hp : ad <+: ad') : ∀ {a : List rx_V} {l : List Value}, rx_S ad sa a l → rx_S ad' sa a l
  | [], [], _ => trivial
  | v :: a, x :: l, h => ⟨rx_G_up hp h.1, rx_S_up hp h.2⟩
  | [], _ :: _, h => h.elim
  | _ :: _, [], h => h.elim
/-- the locals -/
def rx_L (ad sa : List Nat) (nL : Nat) (L : rx_F) (ls : Array Slot) : Prop := ∃ l : List (Nat × Value), lv_has ls nL l ∧ L.length = nL ∧ ∀ (i : Nat) (v : rx_V), L[i]? = some (some v) → ∃ x, (i, x) ∈ l ∧ rx_G ad sa v x
theorem rx_L_up {ad ad' sa : List Nat} (hp : ad <+: ad') {nL : Nat} {L : rx_F} {ls : Array Slot} (h : rx_L ad sa nL L ls) : rx_L ad' sa nL L ls := by
  obtain ⟨l, h1, h2, h3⟩ := h
  refine ⟨l, h1, h2, fun i v hi => ?_⟩
  obtain ⟨x, hx, hv⟩ := h3 i v hi
  exact ⟨x, hx, rx_G_up hp hv⟩
theorem rx_L_get {ad sa : List Nat} {nL : Nat} {L : rx_F} {ls : Array Slot} (h : rx_L ad sa nL L ls) {i : Nat} {v : rx_V} (hi : L[i]? = some (some v)) : ∃ x, ls[i]? = some (.val x) ∧ rx_G ad sa v x := by
  obtain ⟨l, h1, h2, h3⟩ := h
  obtain ⟨x, hx, hv⟩ := h3 i v hi
  exact ⟨x, h1.2.2 _ hx, hv⟩
theorem rx_pv_cat {ad sa : List Nat} {L : rx_F} {i j : Nat} {w : rx_V} {y : Value} (hp : rx_pv L i = true) (hj : j + 1 = i) (hw : L[j]? = some (some w)) (hy : rx_G ad sa w y) : y.category = 1 := by
  subst hj
  rw [rx_G_cat hy]
  have hp : (match L[j]? with
    | some (some (.inr (.inl _))) => false
    | _ => true) = true := hp
  rw [hw] at hp
  match w, hp with
  | .inl q, _ => rfl
  | .inr (.inr q), _ => rfl
/-- a store of one place, told of the list of locals -/
theorem rx_L_set1 {ad sa : List Nat} {nL : Nat} {L : rx_F} {ls : Array Slot} (h : rx_L ad sa nL L ls) {i : Nat} {v : rx_V} {x : Value} (hi : i < L.length) (hp : rx_pv L i = true) (hv : rx_G ad sa v x) (hc : rx_cat v = 1) :
    i < nL ∧ ∃ l, lv_has ls nL l ∧ ∀ ls' : Array Slot, lv_has ls' nL ((i, x) :: l.filter (fun q => !(q.1 == i) && !(q.1 + 1 == i && q.2.category == 2))) → rx_L ad sa nL (L.set i (some v)) ls' := by
  obtain ⟨l, h1, h2, h3⟩ := h
  refine ⟨by omega, l, h1, fun ls' h' => ⟨_, h', by rw [List.length_set]; exact h2, fun j w hj => ?_⟩⟩
  by_cases hij : i = j
  · subst hij
    rw [List.getElem?_set_self hi] at hj
    cases hj
    exact ⟨x, List.mem_cons_self, hv⟩
  · rw [List.getElem?_set_ne hij] at hj
    obtain ⟨y, hy, hw⟩ := h3 j w hj
    refine ⟨y, List.mem_cons_of_mem _ (List.mem_filter.mpr ⟨hy, ?_⟩), hw⟩
    have n1 : (j == i) = false := by simpa using fun e => hij e.symm
    by_cases hji : j + 1 = i
    · have := rx_pv_cat hp hji hj hw
      simp [n1, this]
    · simp [n1, hji]
theorem rx_L_set2 {ad sa : List Nat} {nL : Nat} {L : rx_F} {ls : Array Slot} (h : rx_L ad sa nL L ls) {i : Nat} {v : rx_V} {x : Value} (hi : i + 1 < L.length) (hp : rx_pv L i = true) (hv : rx_G ad sa v x) :
    i + 1 < nL ∧ ∃ l, lv_has ls nL l ∧ ∀ ls' : Array Slot, lv_has ls' nL ((i, x) :: l.filter (fun q => !(q.1 == i) && (!(q.1 == i + 1) && !(q.1 + 1 == i && q.2.category == 2)))) → rx_L ad sa nL ((L.set i (some v)).set (i + 1) none) ls' := by
  obtain ⟨l, h1, h2, h3⟩ := h
  refine ⟨by omega, l, h1, fun ls' h' => ⟨_, h', by rw [List.length_set, List.length_set]; exact h2, fun j w hj => ?_⟩⟩
  by_cases hj1 : i + 1 = j
  · subst hj1
    rw [List.getElem?_set_self (by rw [List.length_set]; exact hi)] at hj
    cases hj
  · rw [List.getElem?_set_ne hj1] at hj
    by_cases hij : i = j
    · subst hij
      rw [List.getElem?_set_self (by omega)] at hj
      cases hj
      exact ⟨x, List.mem_cons_self, hv⟩
    · rw [List.getElem?_set_ne hij] at hj
      obtain ⟨y, hy, hw⟩ := h3 j w hj
      refine ⟨y, List.mem_cons_of_mem _ (List.mem_filter.mpr ⟨hy, ?_⟩), hw⟩
      have n1 : (j == i) = false := by simpa using fun e => hij e.symm
      have n2 : (j == i + 1) = false := by simpa using fun e => hj1 e.symm
      by_cases hji : j + 1 = i
      · have := rx_pv_cat hp hji hj hw
        simp [n1, n2, this]
      · simp [n1, n2, hji]
/-- the cells -/
def rx_cn (n : Nat) : String := match rx_cl[n]? with
  | some q => q.1
  | none => ""
def rx_aty (t : Nat) : FieldType := match t with
  | 0 => .int
  | 1 => .boolean
  | 2 => .long
  | n + 3 => .object (rx_cn n)
def rx_A (ad sa : List Nat) (cA : ClassId) (t : Nat) (l : List rx_V) (E : va_E) : Prop := match t with
  | 0 => ∃ f : Nat → Int32, E = .inl (cA, l.length, .inl f) ∧ ∀ (j : Nat) (v : rx_V), l[j]? = some v → rx_G ad sa v (.int (f j))
  | 1 => ∃ f : Nat → Int32, E = .inl (cA, l.length, .inl f) ∧ ∀ (j : Nat) (v : rx_V), l[j]? = some v → rx_G ad sa v (.int (f j))
  | 2 => ∃ f : Nat → Int64, E = .inl (cA, l.length, .inr (.inl f)) ∧ ∀ (j : Nat) (v : rx_V), l[j]? = some v → rx_G ad sa v (.long (f j))
  | _ + 3 => ∃ f : Nat → Option Nat, E = .inl (cA, l.length, .inr (.inr (.inr (.inr f)))) ∧ ∀ (j : Nat) (v : rx_V), l[j]? = some v → rx_G ad sa v (va_rf (f j))
def rx_E (U : State) (ad sa : List Nat) (c : rx_C) (E : va_E) : Prop := match c with
  | .inl o => ∃ fs : List Value, E = .inr (o.1, fs) ∧ rx_S ad sa o.2 fs
  | .inr o => ∃ cA : ClassId, (ArrOfT U cA (rx_aty o.1) ∧ va_RA U cA (rx_aty o.1)) ∧ rx_A ad sa cA o.1 o.2 E
def rx_W (U : State) (ad sa : List Nat) (h : rx_H) (ws : va_W) : Prop := ws.map Prod.fst = ad ∧ ws.length = h.length ∧ ∀ (k : Nat) (c : rx_C), h[k]? = some c → ∃ (a : Nat) (E : va_E), ws[k]? = some (a, E) ∧ rx_E U ad sa c E
theorem rx_A_up {ad ad' sa : List Nat} (hp : ad <+: ad') {cA : ClassId} {t : Nat} {l : List rx_V} {E : va_E} (h : rx_A ad sa cA t l E) : rx_A ad' sa cA t l E := by
  match t, h with
  | 0, h => obtain ⟨f, h1, h2⟩ := h; exact ⟨f, h1, fun j v hj => rx_G_up hp (h2 j v hj)⟩
  | 1, h => obtain ⟨f, h1, h2⟩ := h; exact ⟨f, h1, fun j v hj => rx_G_up hp (h2 j v hj)⟩
  | 2, h => obtain ⟨f, h1, h2⟩ := h; exact ⟨f, h1, fun j v hj => rx_G_up hp (h2 j v hj)⟩
  | n + 3, h => obtain ⟨f, h1, h2⟩ := h; exact ⟨f, h1, fun j v hj => rx_G_up hp (h2 j v hj)⟩
theorem rx_E_up {U : State} {ad ad' sa : List Nat} (hp : ad <+: ad') {c : rx_C} {E : va_E} (h : rx_E U ad sa c E) : rx_E U ad' sa c E := by
  match c, h with
  | .inl o, h => obtain ⟨fs, h1, h2⟩ := h; exact ⟨fs, h1, rx_S_up hp h2⟩
  | .inr o, h => obtain ⟨cA, h1, h2⟩ := h; exact ⟨cA, h1, rx_A_up hp h2⟩
theorem rx_E_moved {u U : State} (hvm : u.vm.Alike U.vm) {ad sa : List Nat} {c : rx_C} {E : va_E} (h : rx_E u ad sa c E) : rx_E U ad sa c E := by
  match c, h with
  | .inl o, h => exact h
  | .inr o, h => obtain ⟨cA, h1, h2⟩ := h; exact ⟨cA, ⟨arrOfT_moved hvm h1.1, h1.2.moved hvm⟩, h2⟩
theorem rx_W_moved {u U : State} (hvm : u.vm.Alike U.vm) {ad sa : List Nat} {h : rx_H} {ws : va_W} (hW : rx_W u ad sa h ws) : rx_W U ad sa h ws :=
  ⟨hW.1, hW.2.1, fun k c hk => by obtain ⟨a, E, h1, h2⟩ := hW.2.2 k c hk; exact ⟨a, E, h1, rx_E_moved hvm h2⟩⟩
theorem rx_W_get {U : State} {ad sa : List Nat} {h : rx_H} {ws : va_W} (hW : rx_W U ad sa h ws) {k : Nat} {c : rx_C} (hk : h[k]? = some c) {x : Value} (hx : rx_G ad sa (.inr (.inr (.inl (some k)))) x) : ∃ (a : Nat) (E : va_E), x = .ref a ∧ ws[k]? = some (a, E) ∧ rx_E U ad sa c E := by
  obtain ⟨a, E, h1, h2⟩ := hW.2.2 k c hk
  obtain ⟨b, h3, h4⟩ := hx
  have h5 : ad[k]? = some a := by rw [← hW.1, List.getElem?_map, h1]; rfl
  cases h5.symm.trans h3
  exact ⟨a, E, h4, h1, h2⟩
theorem rx_W_set {U : State} {ad sa : List Nat} {h : rx_H} {ws : va_W} (hW : rx_W U ad sa h ws) {k : Nat} {a : Nat} {E E' : va_E} {c : rx_C} (hk : ws[k]? = some (a, E)) (hE : rx_E U ad sa c E') : rx_W U ad sa (h.set k c) (ws.set k (a, E')) := by
  have hl := (List.getElem?_eq_some_iff.mp hk).1
  refine ⟨?_, by rw [List.length_set, List.length_set]; exact hW.2.1, fun j d hj => ?_⟩
  · rw [List.map_set, hW.1]
    apply List.ext_getElem?
    intro i
    by_cases hik : k = i
    · subst hik
      rw [List.getElem?_set_self (by rw [← hW.1, List.length_map]; exact hl), ← hW.1, List.getElem?_map, hk]
      rfl
    · rw [List.getElem?_set_ne hik]
  · by_cases hjk : k = j
    · subst hjk
      rw [List.getElem?_set_self (by rw [← hW.2.1]; exact hl)] at hj
      cases hj
      exact ⟨a, E', List.getElem?_set_self hl, hE⟩
    · rw [List.getElem?_set_ne hjk] at hj
      obtain ⟨b, F, h1, h2⟩ := hW.2.2 j d hj
      exact ⟨b, F, by rw [List.getElem?_set_ne hjk]; exact h1, h2⟩
theorem rx_W_push {U : State} {ad sa : List Nat} {h : rx_H} {ws : va_W} (hW : rx_W U ad sa h ws) {a : Nat} {E : va_E} {c : rx_C} (hE : rx_E U (ad ++ [a]) sa c E) : rx_W U (ad ++ [a]) sa (h ++ [c]) (ws ++ [(a, E)]) := by
  refine ⟨by rw [List.map_append, hW.1]; rfl, by rw [List.length_append, List.length_append, hW.2.1]; rfl, fun j d hj => ?_⟩
  by_cases hl : j < h.length
  · rw [List.getElem?_append_left hl] at hj
    obtain ⟨b, F, h1, h2⟩ := hW.2.2 j d hj
    exact ⟨b, F, by rw [List.getElem?_append_left (by rw [hW.2.1]; exact hl)]; exact h1, rx_E_up ⟨[a], rfl⟩ h2⟩
  · rw [List.getElem?_append_right (by omega)] at hj
    have hz : j - h.length < 1 := (List.getElem?_eq_some_iff.mp hj).1
    have hj0 : j = h.length := by omega
    subst hj0
    rw [Nat.sub_self] at hj
    cases hj
    refine ⟨a, E, ?_, hE⟩
    rw [List.getElem?_append_right (by rw [hW.2.1]; exact Nat.le_refl _), hW.2.1, Nat.sub_self]
    rfl
theorem rx_W_len {U : State} {ad sa : List Nat} {h : rx_H} {ws : va_W} (hW : rx_W U ad sa h ws) : ad.length = h.length := by rw [← hW.1, List.length_map]; exact hW.2.1
