/-! A TABLE WITH HOLES, FILLED FOR n CONSUMERS -/
def wx_mi {α : Type} (f : Nat → α → α) : List α → Nat → List α
  | [], _ => []
  | a :: t, k => f k a :: wx_mi f t (k + 1)
theorem wx_mi_len {α : Type} {f : Nat → α → α} : ∀ {l : List α} {k : Nat}, (wx_mi f l k).length = l.length
  | [], _ => rfl
  | a :: t, k => by simp [wx_mi, wx_mi_len (l := t)]
theorem wx_mi_get {α : Type} {f : Nat → α → α} : ∀ {l : List α} {k i : Nat}, (wx_mi f l k)[i]? = (l[i]?).map (f (k + i))
  | [], _, _ => by simp [wx_mi]
  | a :: t, k, 0 => by simp [wx_mi]
  | a :: t, k, i + 1 => by
    have := wx_mi_get (f := f) (l := t) (k := k + 1) (i := i)
    simp only [wx_mi, List.getElem?_cons_succ]
    rw [this, show k + 1 + i = k + (i + 1) by omega]
theorem wx_mi_set {α : Type} {f : Nat → α → α} {x : α} : ∀ {l : List α} {k i : Nat}, wx_mi f (l.set i x) k = (wx_mi f l k).set i (f (k + i) x)
  | [], _, _ => by simp [wx_mi]
  | a :: t, k, 0 => by simp [wx_mi]
  | a :: t, k, i + 1 => by
    have := wx_mi_set (f := f) (x := x) (l := t) (k := k + 1) (i := i)
    simp only [wx_mi, List.set_cons_succ]
    rw [this, show k + 1 + i = k + (i + 1) by omega]
/-- what stands in the holes -/
def wx_hv (n a i : Nat) : rx_V := bif Nat.beq a 9 then (bif Nat.ble (i + 1) n then .inr (.inr (.inl (some (57 + i)))) else .inr (.inr (.inl none))) else .inl ((n : Int), (n : Int))
def wx_fv (n a : Nat) : Nat → rx_V → rx_V := fun i v => bif wx_nh v then v else wx_hv n a i
def wx_fc (n : Nat) : Nat → rx_C → rx_C := fun a c => match c with
  | .inl (ci, l) => .inl (ci, wx_mi (wx_fv n a) l 0)
  | .inr (tc, l) => .inr (tc, wx_mi (wx_fv n a) l 0)
def wx_co : rx_C := .inl (2, [.inl rx_top, .inl (0, 2), .inl rx_top, .inl rx_top, .inl rx_top, .inl rx_top, .inl rx_top])
def wx_fill (n : Nat) (h : rx_H) : rx_H := wx_mi (wx_fc n) h 0 ++ List.replicate n wx_co
theorem wx_fill_get {n : Nat} {h : rx_H} {a : Nat} {c : rx_C} (hk : h[a]? = some c) : (wx_fill n h)[a]? = some (wx_fc n a c) := by
  have hl := (List.getElem?_eq_some_iff.mp hk).1
  unfold wx_fill
  rw [List.getElem?_append_left (by rw [wx_mi_len]; exact hl), wx_mi_get, hk, Nat.zero_add]
  rfl
theorem wx_fill_set {n : Nat} {h : rx_H} {a : Nat} {c : rx_C} (hl : a < h.length) : wx_fill n (h.set a c) = (wx_fill n h).set a (wx_fc n a c) := by
  unfold wx_fill
  rw [wx_mi_set, Nat.zero_add, List.set_append_left _ _ (by rw [wx_mi_len]; exact hl)]
theorem wx_fv_nh {n a i : Nat} {v : rx_V} (h : wx_nh v = true) : wx_fv n a i v = v := by
  unfold wx_fv
  rw [h]
  rfl
theorem wx_Ph_fill (n : Nat) : wx_Ph (wx_fill n) := by
  refine ⟨fun h a ci fs hk => ?_, fun h a tc l hk => ?_⟩
  · refine ⟨wx_mi (wx_fv n a) fs 0, wx_fill_get hk, wx_mi_len, fun i v hv hn => ?_, fun f v hn => ?_⟩
    · rw [wx_mi_get, hv]
      exact congrArg some (wx_fv_nh hn)
    · rw [wx_fill_set (List.getElem?_eq_some_iff.mp hk).1]
      show (wx_fill n h).set a (.inl (ci, wx_mi (wx_fv n a) (fs.set f v) 0) : rx_C) = _
      rw [wx_mi_set, wx_fv_nh hn]
  · refine ⟨wx_mi (wx_fv n a) l 0, wx_fill_get hk, wx_mi_len, fun i v hv hn => ?_, fun f v hn => ?_⟩
    · rw [wx_mi_get, hv]
      exact congrArg some (wx_fv_nh hn)
    · rw [wx_fill_set (List.getElem?_eq_some_iff.mp hk).1]
      show (wx_fill n h).set a (.inr (tc, wx_mi (wx_fv n a) (l.set f v) 0) : rx_C) = _
      rw [wx_mi_set, wx_fv_nh hn]
theorem wx_fc_nh {n a tc : Nat} {l : List rx_V} (h : l.all wx_nh = true) : wx_fc n a (.inr (tc, l)) = .inr (tc, l) := by
  have key : ∀ (l : List rx_V) (k : Nat), l.all wx_nh = true → wx_mi (wx_fv n a) l k = l := by
    intro l
    induction l with
    | nil => intro k _; rfl
    | cons v t ih =>
      intro k hh
      rw [List.all_cons] at hh
      obtain ⟨h1, h2⟩ := rx_and2 hh
      show wx_fv n a k v :: wx_mi (wx_fv n a) t (k + 1) = _
      rw [wx_fv_nh h1, ih _ h2]
  show (.inr (tc, wx_mi (wx_fv n a) l 0) : rx_C) = _
  rw [key l 0 h]
/-! BOXES: which of the breakers 6, 7, 8 are closed; is there a set of the group that runs? -/
def wx_w6 : rx_V := .inl (0, 6)
def wx_w1 : rx_V := .inl (0, 1)
/-- sets of a list S: the first that runs, in state 3 or 4; or none runs -/
def wx_tree : List Nat → List rx_V → List (List rx_V)
  | [], st => [st]
  | s :: S, st => st.set s (.inl (3, 3)) :: st.set s (.inl (4, 4)) :: wx_tree S (st.set s (.inr (.inr (.inr 500103))))
def wx_bit (x : Nat) : rx_V := .inl ((x : Int), (x : Int))
def wx_clo (x y z : Nat) : List rx_V := [wx_w1, wx_w1, wx_w1, wx_w1, wx_w1, wx_w1, wx_bit x, wx_bit y, wx_bit z]
def wx_sta : List rx_V := [wx_w6, wx_w6, wx_w6, wx_w6, wx_w6, wx_w6]
/-- the sets of the group that bus g leads, by the breakers -/
def wx_grp (g x y z : Nat) : List Nat :=
  let l1 := bif Nat.beq x 1 || (Nat.beq y 1 && Nat.beq z 1) then 0 else 1
  let l2 := bif Nat.beq y 1 || (Nat.beq x 1 && Nat.beq z 1) then 0 else bif Nat.beq z 1 || (Nat.beq x 1 && Nat.beq y 1) then 1 else 2
  (bif Nat.beq g 0 then [0, 1] else []) ++ (bif Nat.beq g l1 then [2, 3] else []) ++ (bif Nat.beq g l2 then [4] else []) ++ (bif Nat.beq g 0 then [5] else [])
def wx_b3 : List (Nat × Nat × Nat) := [(0, 0, 0), (0, 0, 1), (0, 1, 0), (0, 1, 1), (1, 0, 0), (1, 0, 1), (1, 1, 0), (1, 1, 1)]
noncomputable def wx_bxa (g : Nat) (h : rx_H) : List rx_H := wx_b3.flatMap fun b => (wx_tree (wx_grp g b.1 b.2.1 b.2.2) wx_sta).map fun st => (h.set 39 (.inr (1, wx_clo b.1 b.2.1 b.2.2))).set 29 (.inr (0, st))
/-- the reference's consumers: less than 40, or 40 -/
noncomputable def wx_bxc (h : rx_H) : List rx_H := match (h[28]? : Option rx_C) with
  | some (.inl (ci, fs)) => (match fs[26]? with
    | some v => bif rx_eV v (.inl (0, 40)) then [h.set 28 (.inl (ci, fs.set 26 (.inl (0, 39)))), h.set 28 (.inl (ci, fs.set 26 (.inl (40, 40))))] else [h]
    | none => [h])
  | _ => [h]
noncomputable def wx_bx : Nat → rx_H → List rx_H := fun g h => bif Nat.beq g 7 then wx_bxc h else match h[39]?, h[29]? with
  | some c, some d => bif rx_eC c (.inr (1, [wx_w1, wx_w1, wx_w1, wx_w1, wx_w1, wx_w1, wx_w1, wx_w1, wx_w1])) && (rx_eC d (.inr (0, wx_sta)) && Nat.ble g 2) then wx_bxa g h else [h]
  | _, _ => [h]
theorem rx_W_nar {U : State} {ad sa : List Nat} {X : rx_H} {a : Nat} {c c' : rx_C} {ws : va_W} (hW : rx_W U ad sa X ws) (hk : X[a]? = some c) (hE : ∀ b E, ws[a]? = some (b, E) → rx_E U ad sa c E → rx_E U ad sa c' E) : rx_W U ad sa (X.set a c') ws := by
  have hl := (List.getElem?_eq_some_iff.mp hk).1
  refine ⟨hW.1, by rw [hW.2.1, List.length_set], fun k d hd => ?_⟩
  by_cases e : a = k
  · subst e
    rw [List.getElem?_set_self hl] at hd
    cases hd
    obtain ⟨b, E, h1, h2⟩ := hW.2.2 a c hk
    exact ⟨b, E, h1, hE b E h1 h2⟩
  · rw [List.getElem?_set_ne e] at hd
    exact hW.2.2 k d hd
/-- the list st says nothing wrong of the numbers f -/
def wx_fits (f : Nat → Int32) (st : List rx_V) : Prop := ∀ (j : Nat) (v : rx_V), st[j]? = some v → rx_G [] [] v (.int (f j))
theorem wx_fits_set {f : Nat → Int32} {st : List rx_V} {s : Nat} {v : rx_V} (h : wx_fits f st) (hv : rx_G [] [] v (.int (f s))) : wx_fits f (st.set s v) := by
  intro j w hj
  by_cases e : s = j
  · subst e
    have hl : s < st.length := by
      have := (List.getElem?_eq_some_iff.mp hj).1
      rw [List.length_set] at this
      exact this
    rw [List.getElem?_set_self hl] at hj
    cases hj
    exact hv
  · rw [List.getElem?_set_ne e] at hj
    exact h j w hj
theorem wx_tree_ok {f : Nat → Int32} : ∀ {S : List Nat} {st : List rx_V}, wx_fits f st → (∀ s ∈ S, 0 ≤ (f s).toInt ∧ (f s).toInt ≤ 6) → ∃ b ∈ wx_tree S st, wx_fits f b
  | [], st, h, _ => ⟨st, List.mem_cons_self, h⟩
  | s :: S, st, h, hS => by
    obtain ⟨h1, h2⟩ := hS s List.mem_cons_self
    by_cases e3 : (f s).toInt = 3
    · exact ⟨_, List.mem_cons_self, wx_fits_set h ⟨_, rfl, by show 3 ≤ _; omega, by show _ ≤ 3; omega⟩⟩
    · by_cases e4 : (f s).toInt = 4
      · exact ⟨_, List.mem_cons_of_mem _ List.mem_cons_self, wx_fits_set h ⟨_, rfl, by show 4 ≤ _; omega, by show _ ≤ 4; omega⟩⟩
      · obtain ⟨b, g1, g2⟩ := wx_tree_ok (f := f) (S := S) (st := st.set s (.inr (.inr (.inr 500103)))) (wx_fits_set h (Or.inr (Or.inl ⟨by decide, by decide, _, rfl, Or.inr (Or.inr (Or.inr (Or.inl ⟨by decide, by decide, (f s).toInt.toNat, by omega, by
          have hz : (f s).toInt.toNat = 0 ∨ (f s).toInt.toNat = 1 ∨ (f s).toInt.toNat = 2 ∨ (f s).toInt.toNat = 5 ∨ (f s).toInt.toNat = 6 := by omega
          rcases hz with hz | hz | hz | hz | hz <;> rw [hz] <;> decide⟩)))⟩))) (fun t ht => hS t (List.mem_cons_of_mem _ ht))
        exact ⟨b, List.mem_cons_of_mem _ (List.mem_cons_of_mem _ g1), g2⟩
theorem wx_tree_sub : ∀ {S : List Nat} {st0 st : List rx_V}, rx_SS st st0 → (∀ s ∈ S, st0[s]? = some wx_w6) → ∀ b ∈ wx_tree S st, rx_SS b st0
  | [], st0, st, h, _, b, hb => by
    rcases List.mem_cons.mp hb with rfl | hb
    · exact h
    · cases hb
  | s :: S, st0, st, h, hS, b, hb => by
    have h0 := hS s List.mem_cons_self
    rcases List.mem_cons.mp hb with rfl | hb
    · exact rx_SS_set h h0 (rx_vi_of rfl)
    · rcases List.mem_cons.mp hb with rfl | hb
      · exact rx_SS_set h h0 (rx_vi_of rfl)
      · exact wx_tree_sub (rx_SS_set h h0 (rx_vi_of rfl)) (fun t ht => hS t (List.mem_cons_of_mem _ ht)) b hb
theorem wx_tree_nh : ∀ {S : List Nat} {st : List rx_V}, st.all wx_nh = true → ∀ b ∈ wx_tree S st, b.all wx_nh = true
  | [], st, h, b, hb => by
    rcases List.mem_cons.mp hb with rfl | hb
    · exact h
    · cases hb
  | s :: S, st, h, b, hb => by
    have key : ∀ v, wx_nh v = true → (st.set s v).all wx_nh = true := by
      intro v hv
      refine List.all_eq_true.mpr (fun x hx => ?_)
      rcases List.mem_or_eq_of_mem_set hx with hx | rfl
      · exact List.all_eq_true.mp h x hx
      · exact hv
    rcases List.mem_cons.mp hb with rfl | hb
    · exact key _ rfl
    · rcases List.mem_cons.mp hb with rfl | hb
      · exact key _ rfl
      · exact wx_tree_nh (key _ rfl) b hb
theorem wx_grp6 {g x y z : Nat} : ∀ s ∈ wx_grp g x y z, s < 6 := by
  intro s hs
  unfold wx_grp at hs
  simp only [List.mem_append] at hs
  have key : ∀ (b : Bool) (l : List Nat), (∀ t ∈ l, t < 6) → s ∈ (bif b then l else []) → s < 6 := by
    intro b l hl hh
    cases b with
    | true => exact hl s hh
    | false => cases hh
  rcases hs with ((hs | hs) | hs) | hs
  · exact key _ _ (by decide) hs
  · exact key _ _ (by decide) hs
  · exact key _ _ (by decide) hs
  · exact key _ _ (by decide) hs
theorem rx_HS_sub {X Y : rx_H} {k : Nat} {c c' : rx_C} (hs : rx_HS X Y) (hk : X[k]? = some c) (hc : rx_CS c' c) : rx_HS (X.set k c') Y := by
  refine ⟨by rw [List.length_set]; exact hs.1, fun i y hy => ?_⟩
  obtain ⟨x, g1, g2⟩ := hs.2 i y hy
  by_cases e : k = i
  · subst e
    cases hk.symm.trans g1
    exact ⟨c', List.getElem?_set_self (List.getElem?_eq_some_iff.mp hk).1, rx_CS_tr hc g2⟩
  · exact ⟨x, by rw [List.getElem?_set_ne e]; exact g1, g2⟩
def wx_c9 : List rx_V := [wx_w1, wx_w1, wx_w1, wx_w1, wx_w1, wx_w1, wx_w1, wx_w1, wx_w1]
theorem wx_sta_get {s : Nat} (h : s < 6) : wx_sta[s]? = some wx_w6 := by
  match s, h with
  | 0, _ => rfl
  | 1, _ => rfl
  | 2, _ => rfl
  | 3, _ => rfl
  | 4, _ => rfl
  | 5, _ => rfl
  | _ + 6, h => omega
theorem wx_c9_get {s : Nat} (h : s < 9) : wx_c9[s]? = some wx_w1 := by
  match s, h with
  | 0, _ => rfl
  | 1, _ => rfl
  | 2, _ => rfl
  | 3, _ => rfl
  | 4, _ => rfl
  | 5, _ => rfl
  | 6, _ => rfl
  | 7, _ => rfl
  | 8, _ => rfl
  | _ + 9, h => omega
theorem wx_clo_sub : ∀ b ∈ wx_b3, rx_SS (wx_clo b.1 b.2.1 b.2.2) wx_c9 ∧ (wx_clo b.1 b.2.1 b.2.2).all wx_nh = true := by
  intro b hb
  unfold wx_b3 at hb
  simp only [List.mem_cons, List.not_mem_nil, or_false] at hb
  rcases hb with rfl | rfl | rfl | rfl | rfl | rfl | rfl | rfl <;> exact ⟨rx_SS_all (by decide +kernel), by decide +kernel⟩
theorem wx_b3_mem {x y z : Nat} (hx : x ≤ 1) (hy : y ≤ 1) (hz : z ≤ 1) : (x, y, z) ∈ wx_b3 := by
  have h1 : x = 0 ∨ x = 1 := by omega
  have h2 : y = 0 ∨ y = 1 := by omega
  have h3 : z = 0 ∨ z = 1 := by omega
  rcases h1 with rfl | rfl <;> rcases h2 with rfl | rfl <;> rcases h3 with rfl | rfl <;> decide
theorem wx_HB_bx (n : Nat) {t0 : rx_H} : wx_HB (wx_fill n) t0 wx_bx := by
  intro id h hn
  have triv : (∀ h' ∈ [h], rx_HS (wx_fill n h') (wx_fill n t0)) ∧ ∀ (U : State) (ad sa : List Nat) (ws : va_W), rx_W U ad sa (wx_fill n h) ws → ∃ h' ∈ [h], rx_W U ad sa (wx_fill n h') ws := wx_HB_nb id h hn
  unfold wx_bx
  cases h7 : Nat.beq id 7 with
  | true =>
    simp only [cond_true]
    unfold wx_bxc
    split
    · rename_i ci fs hc
      split
      · rename_i v hv
        cases hb : rx_eV v (.inl (0, 40)) with
        | false => exact triv
        | true =>
          have ev := rx_eV_ok hb
          rw [ev] at hv
          obtain ⟨fs', p1, p2, p3, p4⟩ := (wx_Ph_fill n).1 h 28 ci fs hc
          have p5 := p3 26 _ hv rfl
          refine ⟨fun h' hh => ?_, fun U ad sa ws hw => ?_⟩
          · rcases List.mem_cons.mp hh with rfl | hh
            · rw [p4 _ _ rfl]
              exact rx_HS_sub hn p1 ⟨rfl, rx_SS_set rx_SS_rf p5 (rx_vi_of rfl)⟩
            · rcases List.mem_cons.mp hh with rfl | hh
              · rw [p4 _ _ rfl]
                exact rx_HS_sub hn p1 ⟨rfl, rx_SS_set rx_SS_rf p5 (rx_vi_of rfl)⟩
              · cases hh
          · have hS : ∀ {l0 : List rx_V} {f : Nat} {vs0 : List Value}, l0[f]? = some (.inl (0, 40)) → rx_S ad sa l0 vs0 → rx_S ad sa (l0.set f (.inl (0, 39))) vs0 ∨ rx_S ad sa (l0.set f (.inl (40, 40))) vs0 := by
              intro l0
              induction l0 with
              | nil => intro f vs0 hf; simp at hf
              | cons y t ih =>
                intro f vs0 hf hs
                obtain ⟨x, xs, rfl, z1, z2⟩ := rx_S_cons hs
                cases f with
                | zero =>
                  cases hf
                  obtain ⟨i, rfl, i1, i2⟩ := z1
                  have i1 : 0 ≤ i.toInt := i1
                  have i2 : i.toInt ≤ 40 := i2
                  rcases rx_lg i.toInt 40 with q | q
                  · exact Or.inl ⟨⟨i, rfl, i1, by show _ ≤ 39; omega⟩, z2⟩
                  · exact Or.inr ⟨⟨i, rfl, q, i2⟩, z2⟩
                | succ f =>
                  rcases ih hf z2 with q | q
                  · exact Or.inl ⟨z1, q⟩
                  · exact Or.inr ⟨z1, q⟩
            obtain ⟨a1, E1, q1, vals, rfl, q2⟩ := hw.2.2 28 _ p1
            rcases hS p5 q2 with q | q
            · refine ⟨_, List.mem_cons_self, ?_⟩
              rw [p4 _ _ rfl]
              exact rx_W_nar hw p1 (fun b E hE _ => by cases q1.symm.trans hE; exact ⟨vals, rfl, q⟩)
            · refine ⟨_, List.mem_cons_of_mem _ List.mem_cons_self, ?_⟩
              rw [p4 _ _ rfl]
              exact rx_W_nar hw p1 (fun b E hE _ => by cases q1.symm.trans hE; exact ⟨vals, rfl, q⟩)
      · exact triv
    · exact triv
  | false =>
  simp only [cond_false]
  split
  · rename_i c d hc hd
    cases hb : rx_eC c (.inr (1, [wx_w1, wx_w1, wx_w1, wx_w1, wx_w1, wx_w1, wx_w1, wx_w1, wx_w1])) && (rx_eC d (.inr (0, wx_sta)) && Nat.ble id 2) with
    | false => exact triv
    | true =>
      obtain ⟨g1, g2⟩ := rx_and2 hb
      obtain ⟨g2, -⟩ := rx_and2 g2
      have ec := rx_eC_ok g1
      have ed := rx_eC_ok g2
      subst ec
      subst ed
      have hc : h[39]? = some (.inr (1, wx_c9)) := hc
      have l39 := (List.getElem?_eq_some_iff.mp hc).1
      have l29 := (List.getElem?_eq_some_iff.mp hd).1
      have f39 : (wx_fill n h)[39]? = some (.inr (1, wx_c9)) := by rw [wx_fill_get hc, wx_fc_nh (by decide +kernel)]
      have f29 : (wx_fill n h)[29]? = some (.inr (0, wx_sta)) := by rw [wx_fill_get hd, wx_fc_nh (by decide +kernel)]
      have ef : ∀ b ∈ wx_b3, ∀ st ∈ wx_tree (wx_grp id b.1 b.2.1 b.2.2) wx_sta, wx_fill n ((h.set 39 (.inr (1, wx_clo b.1 b.2.1 b.2.2))).set 29 (.inr (0, st))) = ((wx_fill n h).set 39 (.inr (1, wx_clo b.1 b.2.1 b.2.2))).set 29 (.inr (0, st)) := by
        intro b hb st hst
        rw [wx_fill_set (by rw [List.length_set]; exact l29), wx_fill_set l39, wx_fc_nh (wx_clo_sub b hb).2, wx_fc_nh (wx_tree_nh (by decide +kernel) st hst)]
      have s29 : ∀ c, ((wx_fill n h).set 39 c)[29]? = some (.inr (0, wx_sta)) := fun c => by rw [List.getElem?_set_ne (by decide)]; exact f29
      refine ⟨fun h' hh => ?_, fun U ad sa ws hw => ?_⟩
      · obtain ⟨b, w1, w2⟩ := List.mem_flatMap.mp hh
        obtain ⟨st, w3, rfl⟩ := List.mem_map.mp w2
        rw [ef b w1 st w3]
        exact rx_HS_sub (rx_HS_sub hn f39 ⟨rfl, (wx_clo_sub b w1).1⟩) (s29 _) ⟨rfl, wx_tree_sub rx_SS_rf (fun s hs => wx_sta_get (wx_grp6 s hs)) st w3⟩
      · obtain ⟨a1, E1, p1, cA1, p2, f, rfl, p3⟩ := hw.2.2 39 _ f39
        obtain ⟨a2, E2, q1, cA2, q2, g, rfl, q3⟩ := hw.2.2 29 _ f29
        have hf : ∀ j, j < 9 → 0 ≤ (f j).toInt ∧ (f j).toInt ≤ 1 := by
          intro j hj
          obtain ⟨i, e, k1, k2⟩ := p3 j _ (wx_c9_get hj)
          cases e
          exact ⟨k1, k2⟩
        have hg : ∀ j, j < 6 → 0 ≤ (g j).toInt ∧ (g j).toInt ≤ 6 := by
          intro j hj
          obtain ⟨i, e, k1, k2⟩ := q3 j _ (wx_sta_get hj)
          cases e
          exact ⟨k1, k2⟩
        have b6 := hf 6 (by decide)
        have b7 := hf 7 (by decide)
        have b8 := hf 8 (by decide)
        have hb3 := wx_b3_mem (x := (f 6).toInt.toNat) (y := (f 7).toInt.toNat) (z := (f 8).toInt.toNat) (by omega) (by omega) (by omega)
        have fsta : wx_fits g wx_sta := by
          intro j v hj
          have hl : j < 6 := (List.getElem?_eq_some_iff.mp hj).1
          rw [wx_sta_get hl] at hj
          cases hj
          exact ⟨g j, rfl, (hg j hl).1, (hg j hl).2⟩
        obtain ⟨st, t1, t2⟩ := wx_tree_ok (S := wx_grp id (f 6).toInt.toNat (f 7).toInt.toNat (f 8).toInt.toNat) fsta (fun s hs => hg s (wx_grp6 s hs))
        have tl : st.length = 6 := (wx_tree_sub rx_SS_rf (fun s hs => wx_sta_get (wx_grp6 s hs)) st t1).1
        refine ⟨_, List.mem_flatMap.mpr ⟨_, hb3, List.mem_map.mpr ⟨st, t1, rfl⟩⟩, ?_⟩
        rw [ef _ hb3 st t1]
        refine rx_W_nar (rx_W_nar hw f39 (fun b E hE _ => ?_)) (s29 _) (fun b E hE _ => ?_)
        · cases p1.symm.trans hE
          refine ⟨cA1, p2, f, rfl, fun j v hj => ?_⟩
          have hl : j < 9 := (List.getElem?_eq_some_iff.mp hj).1
          have w0 : ∀ j, j < 9 → rx_G ad sa wx_w1 (.int (f j)) := fun j hj => ⟨f j, rfl, (hf j hj).1, (hf j hj).2⟩
          match j, hl, hj with
          | 0, hl, hj => cases hj; exact w0 0 hl
          | 1, hl, hj => cases hj; exact w0 1 hl
          | 2, hl, hj => cases hj; exact w0 2 hl
          | 3, hl, hj => cases hj; exact w0 3 hl
          | 4, hl, hj => cases hj; exact w0 4 hl
          | 5, hl, hj => cases hj; exact w0 5 hl
          | 6, hl, hj => cases hj; exact ⟨f 6, rfl, by show (((f 6).toInt.toNat : Nat) : Int) ≤ _; omega, by show _ ≤ (((f 6).toInt.toNat : Nat) : Int); omega⟩
          | 7, hl, hj => cases hj; exact ⟨f 7, rfl, by show (((f 7).toInt.toNat : Nat) : Int) ≤ _; omega, by show _ ≤ (((f 7).toInt.toNat : Nat) : Int); omega⟩
          | 8, hl, hj => cases hj; exact ⟨f 8, rfl, by show (((f 8).toInt.toNat : Nat) : Int) ≤ _; omega, by show _ ≤ (((f 8).toInt.toNat : Nat) : Int); omega⟩
          | _ + 9, hl, _ => omega
        · cases q1.symm.trans hE
          exact ⟨cA2, q2, g, by rw [tl]; rfl, fun j v hj => rx_G_low (t2 j v hj)⟩
  · exact triv
