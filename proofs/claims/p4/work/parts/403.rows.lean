/-! rows that the wide machine reads in its own way -/
theorem wx_cmp_ok {cd : ClassFile.Cond} {a b : rx_V} {t : Option Bool} (h : wx_cmp cd a b = some t) : rx_isI a = true ∧ rx_isI b = true ∧ ∀ (ad ad' sa sa' : List Nat) (i j : Int32), rx_G ad sa a (.int i) → rx_G ad' sa' b (.int j) → ∀ b0, t = some b0 → rx_cmp cd (i.toInt, i.toInt) (j.toInt, j.toInt) = some b0 := by
  unfold wx_cmp at h
  split at h
  · rename_i a b
    refine ⟨rfl, rfl, fun ad ad' sa sa' i j hi hj b0 hb => ?_⟩
    obtain ⟨i', e1, q1⟩ := hi
    obtain ⟨j', e2, q2⟩ := hj
    cases e1
    cases e2
    cases h
    exact rx_cmp_in hb q1 q2
  · rename_i n b
    obtain ⟨h1, h⟩ := rx_bif h
    refine ⟨h1, rfl, fun ad ad' sa sa' i j hi hj b0 hb => ?_⟩
    cases h
    obtain ⟨j', e2, q2⟩ := hj
    cases e2
    unfold wx_mk at hb
    obtain ⟨g1, hb⟩ := rx_bif hb
    obtain ⟨g1, g2⟩ := rx_and2 g1
    obtain ⟨g1, g3⟩ := rx_and2 g1
    obtain ⟨g2, g4⟩ := rx_and2 g2
    obtain ⟨g4, g5⟩ := rx_and2 g4
    have g1 := Nat.le_of_ble_eq_true g1
    have g3 := Nat.le_of_ble_eq_true g3
    have g2 := rx_le_t g2
    have g4 := rx_le_t g4
    have ne : ¬ i.toInt = j.toInt := by
      intro e
      rcases hi with ⟨q, -⟩ | ⟨-, -, i', e', hi⟩ | ⟨q, -⟩
      · omega
      · cases e'
        rcases hi with ⟨-, q, -⟩ | ⟨-, q, -⟩ | ⟨-, q, -⟩ | ⟨-, -, z, q3, q4⟩ | ⟨q, -⟩ | ⟨q, -⟩
        · omega
        · omega
        · omega
        · have : b.1.toNat = z := by have := q2.1; have := q2.2; omega
          rw [this, q4] at g5
          cases g5
        · omega
        · omega
      · omega
    have hf : (rx_le j.toInt i.toInt && rx_le i.toInt j.toInt) = false := by
      cases hh : (rx_le j.toInt i.toInt && rx_le i.toInt j.toInt) with
      | false => rfl
      | true =>
        obtain ⟨w1, w2⟩ := rx_and2 hh
        have := rx_le_t w1
        have := rx_le_t w2
        omega
    cases cd <;> simp only [] at hb <;> cases hb
    · show (bif rx_le j.toInt i.toInt && rx_le i.toInt j.toInt then some true else bif rx_le j.toInt i.toInt && rx_le i.toInt j.toInt then none else some false) = _
      rw [hf]; rfl
    · show (bif rx_le j.toInt i.toInt && rx_le i.toInt j.toInt then some false else bif rx_le j.toInt i.toInt && rx_le i.toInt j.toInt then none else some true) = _
      rw [hf]; rfl
  · obtain ⟨h1, h⟩ := rx_bif h
    refine ⟨rfl, h1, fun ad ad' sa sa' i j hi hj b0 hb => ?_⟩
    cases h
    cases hb
  · cases h
theorem wx_cs_ok {v : rx_V} {a n : Nat} (h : wx_cs v = some (a, n)) {ad sa : List Nat} {x : Value} (hx : rx_G ad sa v x) : ∃ k b, a ≤ k ∧ k < a + n ∧ ad[k]? = some b ∧ x = .ref b := by
  unfold wx_cs at h
  split at h
  · cases h
    obtain ⟨b, h1, h2⟩ := hx
    exact ⟨_, b, Nat.le_refl _, by omega, h1, h2⟩
  · obtain ⟨g, h⟩ := rx_bif h
    cases h
    obtain ⟨g1, g2⟩ := rx_and2 g
    have g1 := Nat.le_of_ble_eq_true g1
    have g2 := Nat.eq_of_beq_eq_true g2
    rcases hx with ⟨q, -⟩ | ⟨-, q, -⟩ | ⟨-, ⟨q, -⟩ | ⟨k, b, q1, q2, q3, q4⟩⟩
    · omega
    · omega
    · omega
    · exact ⟨k, b, q1, by omega, q3, q4⟩
  · cases h
theorem wx_fld_ok {h : rx_H} {ci f k : Nat} {x : rx_V} (hx : wx_fld h ci f k = some x) : ∃ fs, h[k]? = some (.inl (ci, fs)) ∧ fs[f]? = some x := by
  unfold wx_fld at hx
  split at hx
  · rename_i c fs hk
    obtain ⟨g1, hx⟩ := rx_bif hx
    rw [Nat.eq_of_beq_eq_true g1] at hk
    exact ⟨fs, hk, hx⟩
  · cases hx
theorem wx_arr_ok {h : rx_H} {a : Nat} {o : Nat × List rx_V} (hx : wx_arr h a = some o) : h[a]? = some (.inr o) := by
  unfold wx_arr at hx
  split at hx
  · rename_i o' hk
    cases hx
    exact hk
  · cases hx
/-- a table made whole -/
def wx_Ph (Φ : rx_H → rx_H) : Prop :=
  (∀ (h : rx_H) (a ci : Nat) (fs : List rx_V), h[a]? = some (.inl (ci, fs)) → ∃ fs', (Φ h)[a]? = some (.inl (ci, fs')) ∧ fs'.length = fs.length ∧ (∀ (i : Nat) (v : rx_V), fs[i]? = some v → wx_nh v = true → fs'[i]? = some v) ∧ ∀ (f : Nat) (v : rx_V), wx_nh v = true → Φ (h.set a (.inl (ci, fs.set f v))) = (Φ h).set a (.inl (ci, fs'.set f v))) ∧
  (∀ (h : rx_H) (a tc : Nat) (l : List rx_V), h[a]? = some (.inr (tc, l)) → ∃ l', (Φ h)[a]? = some (.inr (tc, l')) ∧ l'.length = l.length ∧ (∀ (i : Nat) (v : rx_V), l[i]? = some v → wx_nh v = true → l'[i]? = some v) ∧ ∀ (f : Nat) (v : rx_V), wx_nh v = true → Φ (h.set a (.inr (tc, l.set f v))) = (Φ h).set a (.inr (tc, l'.set f v)))
theorem wx_Ph_id : wx_Ph (fun h => h) := ⟨fun h a ci fs hk => ⟨fs, hk, rfl, fun _ _ hv _ => hv, fun _ _ _ => rfl⟩, fun h a tc l hk => ⟨l, hk, rfl, fun _ _ hv _ => hv, fun _ _ _ => rfl⟩⟩
/-- a cell put in another's place that says more -/
theorem rx_W_cell {U : State} {ad sa : List Nat} {X : rx_H} {a : Nat} {c c' : rx_C} {ws : va_W} (hW : rx_W U ad sa (X.set a c') ws) (hk : X[a]? = some c) (hE : ∀ E, rx_E U ad sa c' E → rx_E U ad sa c E) : rx_W U ad sa X ws := by
  have hl := (List.getElem?_eq_some_iff.mp hk).1
  refine ⟨hW.1, by rw [hW.2.1, List.length_set], fun k d hd => ?_⟩
  by_cases e : a = k
  · subst e
    cases hk.symm.trans hd
    obtain ⟨b, E, h1, h2⟩ := hW.2.2 a c' (List.getElem?_set_self hl)
    exact ⟨b, E, h1, hE E h2⟩
  · obtain ⟨b, E, h1, h2⟩ := hW.2.2 k d (by rw [List.getElem?_set_ne e]; exact hd)
    exact ⟨b, E, h1, h2⟩
theorem wx_at_ok {β : Type} {l : List rx_V} {q : Int × Int} {k : rx_V → Option β} {r : β} (h : wx_at l q k = some r) : ∃ c, k c = some r ∧ 0 ≤ q.1 ∧ q.2 < l.length ∧ ∀ z : Int, q.1 ≤ z → z ≤ q.2 → ∃ w, l[z.toNat]? = some w ∧ wx_nh w = true ∧ rx_vi w c := by
  have fold : ∀ (m : List rx_V) (v : rx_V) (k : rx_V → Option β), wx_fold m v k = some r → ∃ c, k c = some r := by
    intro m
    induction m with
    | nil => intro v k hh; exact ⟨v, hh⟩
    | cons w m ih =>
      intro v k hh
      have hh : wx_hl v w (fun c => wx_fold m c k) none = some r := hh
      rcases wx_hl_ok hh with ⟨c, -, -, g⟩ | g
      · exact ih c k g
      · cases g
  unfold wx_at at h
  obtain ⟨g1, h⟩ := rx_bif h
  obtain ⟨g1, g2⟩ := rx_and2 g1
  have g1 := rx_le_t g1
  have g2 := rx_le_t g2
  split at h
  · cases h
  · rename_i v m hm
    obtain ⟨c, hc⟩ := fold m v _ h
    obtain ⟨g3, hc⟩ := rx_bif hc
    rw [← hm] at g3
    refine ⟨c, hc, g1, by omega, fun z z1 z2 => ?_⟩
    have hz : z.toNat < l.length := by omega
    have e1 : ((l.drop q.1.toNat).take (q.2 - q.1 + 1).toNat)[z.toNat - q.1.toNat]? = some (l[z.toNat]'hz) := by
      rw [List.getElem?_take_of_lt (by omega), List.getElem?_drop, show q.1.toNat + (z.toNat - q.1.toNat) = z.toNat by omega]
      exact List.getElem?_eq_getElem hz
    have g4 := List.all_eq_true.mp g3 _ (List.mem_of_getElem? e1)
    obtain ⟨g5, g6⟩ := rx_and2 g4
    exact ⟨_, List.getElem?_eq_getElem hz, g5, rx_vi_of g6⟩
theorem wx_put_ok {l : List rx_V} {q : Int × Int} {v : rx_V} (h : wx_put l q v = true) : 0 ≤ q.1 ∧ q.2 < l.length ∧ ∀ z : Int, q.1 ≤ z → z ≤ q.2 → ∃ w, l[z.toNat]? = some w ∧ wx_nh w = true ∧ rx_vi v w := by
  unfold wx_put at h
  obtain ⟨g1, g3⟩ := rx_and2 h
  obtain ⟨g1, g2⟩ := rx_and2 g1
  have g1 := rx_le_t g1
  have g2 := rx_le_t g2
  refine ⟨g1, by omega, fun z z1 z2 => ?_⟩
  have hz : z.toNat < l.length := by omega
  have e1 : ((l.drop q.1.toNat).take (q.2 - q.1 + 1).toNat)[z.toNat - q.1.toNat]? = some (l[z.toNat]'hz) := by
    rw [List.getElem?_take_of_lt (by omega), List.getElem?_drop, show q.1.toNat + (z.toNat - q.1.toNat) = z.toNat by omega]
    exact List.getElem?_eq_getElem hz
  have g4 := List.all_eq_true.mp g3 _ (List.mem_of_getElem? e1)
  obtain ⟨g5, g6⟩ := rx_and2 g4
  exact ⟨_, List.getElem?_eq_getElem hz, g5, rx_vi_of g6⟩
theorem rx_one_z (z : Int) : rx_one (z, z) = true := (rx_le_iff z z).mpr (Int.le_refl _)
section WXS
variable {p : Program} {l : Launch} {e : Env} {R : Room} {s : State} {m : MethodId} {args : Array Value} {below : List Frame} {meth : Method} {c : Code} {Q : State → Prop} {D : va_G} {A B : Nat → Prop} {wr : Bool} {sb ad0 : List Nat} {tt : Nat} {ro : List (List rx_V)} {mt : rx_MT} {xM : List rx_MT} {cells slots : Nat} {pc np tg u : Nat} {K : rx_K} {h X : rx_H} {L : rx_F} {r st : List rx_V}
theorem wx_icmp {cd : ClassFile.Cond} {o : Int} {a b : rx_V} {t : Option Bool} (C : ∀ u, rx_Cx p s m args meth c D A B wr (wx_su sb tt u) ro mt) (ok : rx_Ok xM mt pc (.if_icmp cd o, np, tg, K)) (hc : wx_cmp cd a b = some t) (k1 : (t = some true ∨ t = none) → rx_Go p l e R s m args below meth c Q D A B (wx_su sb tt (u)) ad0 mt tg X L r cells slots) (k2 : (t = some false ∨ t = none) → rx_Go p l e R s m args below meth c Q D A B (wx_su sb tt (u)) ad0 mt np X L r cells slots) : rx_Go p l e R s m args below meth c Q D A B (wx_su sb tt (u)) ad0 mt pc X L (b :: a :: r) cells slots := by
  obtain ⟨h1, h2, h3⟩ := wx_cmp_ok hc
  refine wx_secI h1 (fun ad i hi => wx_topI h2 (fun ad' j hj => ?_))
  obtain ⟨tb, htb⟩ := rx_cmp_one (cd := cd) i.toInt j.toInt
  have key : t = none ∨ t = some tb := by
    cases t with
    | none => exact Or.inl rfl
    | some b0 =>
      have := h3 ad ad' _ _ i j hi hj b0 rfl
      rw [htb] at this
      exact Or.inr this.symm
  refine rx_o_icmp (C u) ok htb (fun e => k1 ?_) (fun e => k2 ?_)
  · subst e; rcases key with h | h
    · exact Or.inr h
    · exact Or.inl h
  · subst e; rcases key with h | h
    · exact Or.inr h
    · exact Or.inl h
theorem wx_if {cd : ClassFile.Cond} {o : Int} {a : rx_V} {t : Option Bool} (C : ∀ u, rx_Cx p s m args meth c D A B wr (wx_su sb tt u) ro mt) (ok : rx_Ok xM mt pc (.ifCond cd o, np, tg, K)) (hc : wx_cmp cd a (.inl (0, 0)) = some t) (k1 : (t = some true ∨ t = none) → rx_Go p l e R s m args below meth c Q D A B (wx_su sb tt (u)) ad0 mt tg X L r cells slots) (k2 : (t = some false ∨ t = none) → rx_Go p l e R s m args below meth c Q D A B (wx_su sb tt (u)) ad0 mt np X L r cells slots) : rx_Go p l e R s m args below meth c Q D A B (wx_su sb tt (u)) ad0 mt pc X L (a :: r) cells slots := by
  obtain ⟨h1, -, h3⟩ := wx_cmp_ok hc
  refine wx_topI h1 (fun ad i hi => ?_)
  obtain ⟨tb, htb⟩ := rx_cmp_one (cd := cd) i.toInt 0
  have h0 : (0 : Int32).toInt = 0 := by decide
  have key : t = none ∨ t = some tb := by
    cases t with
    | none => exact Or.inl rfl
    | some b0 =>
      have := h3 ad [] _ [] i 0 hi ⟨0, rfl, by rw [h0]; exact ⟨Int.le_refl _, Int.le_refl _⟩⟩ b0 rfl
      rw [h0, htb] at this
      exact Or.inr this.symm
  refine rx_o_if (C u) ok htb (fun e => k1 ?_) (fun e => k2 ?_)
  · subst e; rcases key with h | h
    · exact Or.inr h
    · exact Or.inl h
  · subst e; rcases key with h | h
    · exact Or.inr h
    · exact Or.inl h
/-- a reference that may mean several cells -/
theorem wx_pick {v : rx_V} {a n : Nat} (hv : wx_cs v = some (a, n)) (g : ∀ k, a ≤ k → k < a + n → rx_Go p l e R s m args below meth c Q D A B (wx_su sb tt (u)) ad0 mt pc X L (.inr (.inr (.inl (some k))) :: r) cells slots) : rx_Go p l e R s m args below meth c Q D A B (wx_su sb tt (u)) ad0 mt pc X L (v :: r) cells slots := by
  refine wx_top (fun ad x hx => ?_)
  obtain ⟨k, b, h1, h2, h3, rfl⟩ := wx_cs_ok hv hx
  refine ⟨.inr (.inr (.inl (some k))), fun ad' hp _ => ?_, g k h1 h2⟩
  obtain ⟨q, rfl⟩ := hp
  exact ⟨b, by rw [List.getElem?_append_left (List.getElem?_eq_some_iff.mp h3).1]; exact h3, rfl⟩
theorem wx_pick2 {v w : rx_V} {a n : Nat} (hv : wx_cs v = some (a, n)) (g : ∀ k, a ≤ k → k < a + n → rx_Go p l e R s m args below meth c Q D A B (wx_su sb tt (u)) ad0 mt pc X L (w :: .inr (.inr (.inl (some k))) :: r) cells slots) : rx_Go p l e R s m args below meth c Q D A B (wx_su sb tt (u)) ad0 mt pc X L (w :: v :: r) cells slots := by
  refine wx_sec (fun ad x hx => ?_)
  obtain ⟨k, b, h1, h2, h3, rfl⟩ := wx_cs_ok hv hx
  refine ⟨.inr (.inr (.inl (some k))), fun ad' hp _ => ?_, g k h1 h2⟩
  obtain ⟨q, rfl⟩ := hp
  exact ⟨b, by rw [List.getElem?_append_left (List.getElem?_eq_some_iff.mp h3).1]; exact h3, rfl⟩
theorem wx_getfield {i a n : Nat} {o w : rx_V} {Φ : rx_H → rx_H} (C : ∀ u, rx_Cx p s m args meth c D A B wr (wx_su sb tt u) ro mt) (hsb : sb.length = 20) (hΦ : wx_Ph Φ) (ok : rx_Ok xM mt pc (.getfield i, np, tg, K)) (hK : K.1 = 1 ∨ K.1 = 14) (ho : wx_cs o = some (a, n)) (hw : ∀ k, a ≤ k → k < a + n → ∃ x, wx_fld h K.2.1 K.2.2.1 k = some x ∧ wx_nh x = true ∧ rx_vi x w) (g : rx_Go p l e R s m args below meth c Q D A B (wx_su sb tt (u)) ad0 mt np (Φ h) L (w :: r) cells slots) : rx_Go p l e R s m args below meth c Q D A B (wx_su sb tt (u)) ad0 mt pc (Φ h) L (o :: r) cells slots := by
  refine wx_pick ho (fun k h1 h2 => ?_)
  obtain ⟨x, g1, g2, g3⟩ := hw k h1 h2
  obtain ⟨fs, g4, g5⟩ := wx_fld_ok g1
  obtain ⟨fs', g6, -, g7, -⟩ := hΦ.1 h k _ fs g4
  exact rx_o_getfield (C u) ok hK g6 rfl (g7 _ _ g5 g2) (wx_mono hsb (Nat.le_refl _) rx_HS_rf rx_LS_rf (rx_SS_cons rx_SS_rf g3) g)
theorem wx_putfield {i a n : Nat} {o v : rx_V} {Φ : rx_H → rx_H} (C : ∀ u, rx_Cx p s m args meth c D A B wr (wx_su sb tt u) ro mt) (hsb : sb.length = 20) (hΦ : wx_Ph Φ) (hwr : wr = true) (ok : rx_Ok xM mt pc (.putfield i, np, tg, K)) (hK : K.1 = 1 ∨ K.1 = 14) (hf : rx_fit K.2.2.2.toNat v = true) (ho : wx_cs o = some (a, n)) (hw : ∀ k, a ≤ k → k < a + n → ∃ x, wx_fld h K.2.1 K.2.2.1 k = some x ∧ wx_nh x = true ∧ rx_vi v x) (g : rx_Go p l e R s m args below meth c Q D A B (wx_su sb tt (u)) ad0 mt np (Φ h) L r cells slots) : rx_Go p l e R s m args below meth c Q D A B (wx_su sb tt (u)) ad0 mt pc (Φ h) L (v :: o :: r) cells slots := by
  refine wx_pick2 ho (fun k h1 h2 => ?_)
  obtain ⟨x, g1, g2, g3⟩ := hw k h1 h2
  obtain ⟨fs, g4, g5⟩ := wx_fld_ok g1
  obtain ⟨fs', g6, g8, g7, -⟩ := hΦ.1 h k _ fs g4
  refine rx_o_putfield (C u) hwr ok hK hf g6 rfl (by show _ < fs'.length; rw [g8]; exact (List.getElem?_eq_some_iff.mp g5).1) (wx_mono hsb (Nat.le_refl _) (rx_HS_set rx_HS_rf g6 ⟨rfl, rx_SS_set rx_SS_rf (g7 _ _ g5 g2) g3⟩) rx_LS_rf rx_SS_rf g)
/-- what it wrote is kept -/
theorem wx_putfieldS {i a : Nat} {o v : rx_V} {fs : List rx_V} {Φ : rx_H → rx_H} (C : ∀ u, rx_Cx p s m args meth c D A B wr (wx_su sb tt u) ro mt) (hΦ : wx_Ph Φ) (hwr : wr = true) (ok : rx_Ok xM mt pc (.putfield i, np, tg, K)) (hK : K.1 = 1 ∨ K.1 = 14) (hf : rx_fit K.2.2.2.toNat v = true) (ho : wx_cs o = some (a, 1)) (hv : wx_nh v = true) (hk : h[a]? = some (.inl (K.2.1, fs))) (hl : K.2.2.1 < fs.length) (g : rx_Go p l e R s m args below meth c Q D A B (wx_su sb tt (u)) ad0 mt np (Φ (h.set a (.inl (K.2.1, fs.set K.2.2.1 v)))) L r cells slots) : rx_Go p l e R s m args below meth c Q D A B (wx_su sb tt (u)) ad0 mt pc (Φ h) L (v :: o :: r) cells slots := by
  refine wx_pick2 ho (fun k h1 h2 => ?_)
  have e : k = a := by omega
  subst e
  obtain ⟨fs', g6, g8, g7, g9⟩ := hΦ.1 h k _ fs hk
  refine rx_o_putfield (C u) hwr ok hK hf g6 rfl (by show _ < fs'.length; rw [g8]; exact hl) ?_
  rw [g9 _ _ hv] at g
  exact g
/-- one event more -/
theorem wx_putfieldU {i a : Nat} {o : rx_V} {Φ : rx_H → rx_H} (C : ∀ u, rx_Cx p s m args meth c D A B wr (wx_su sb tt u) ro mt) (hsb : sb.length = 20) (hΦ : wx_Ph Φ) (hwr : wr = true) (ok : rx_Ok xM mt pc (.putfield i, np, tg, K)) (hK : K.1 = 1 ∨ K.1 = 14) (hf : K.2.2.2.toNat = 0) (ho : wx_cs o = some (a, 1)) (hk : wx_fld h K.2.1 K.2.2.1 a = some (.inr (.inr (.inr 600000)))) (g : rx_Go p l e R s m args below meth c Q D A B (wx_su sb tt (u + 1)) ad0 mt np (Φ h) L r cells slots) : rx_Go p l e R s m args below meth c Q D A B (wx_su sb tt (u)) ad0 mt pc (Φ h) L (.inr (.inr (.inr 600001)) :: o :: r) cells slots := by
  refine wx_pick2 ho (fun k h1 h2 => ?_)
  have e : k = a := by omega
  subst e
  obtain ⟨fs, g4, g5⟩ := wx_fld_ok hk
  obtain ⟨fs', g6, g8, g7, -⟩ := hΦ.1 h k _ fs g4
  refine wx_topI rfl (fun ad0' j hj => ?_)
  refine rx_o_putfield (C u) hwr ok hK (by rw [hf]; rfl) g6 rfl (by show _ < fs'.length; rw [g8]; exact (List.getElem?_eq_some_iff.mp g5).1) ?_
  intro ad ws H locs ls vs a1 a2 a3 a4 a5 a6 a7
  refine g ad ws H locs ls vs a1 ?_ a3 a4 a5 (rx_L_u hsb (by omega) a6) (rx_S_u hsb (by omega) a7)
  refine rx_W_cell (rx_W_u hsb (show u ≤ u + 1 by omega) a2) g6 (fun E hE => ?_)
  obtain ⟨vals, e1, e2⟩ := hE
  refine ⟨vals, e1, ?_⟩
  have u1 : rx_uh 600001 = 1 := rfl
  have u2 : rx_uh 600000 = 0 := rfl
  have u3 : rx_ul 600000 = 0 := rfl
  have hj2 : 0 ≤ j.toInt ∧ j.toInt ≤ ((u + 1 : Nat) : Int) := by
    rcases hj with ⟨q, -⟩ | ⟨-, -, j', e', hj⟩ | ⟨q, -⟩
    · omega
    · cases e'
      rcases hj with ⟨-, q, -⟩ | ⟨-, q, -⟩ | ⟨-, q, -⟩ | ⟨-, q, -⟩ | ⟨-, -, w, q3, q4, q5⟩ | ⟨q, -⟩
      · omega
      · omega
      · omega
      · omega
      · rw [wx_su20 hsb] at q3; cases q3; exact ⟨by omega, by omega⟩
      · omega
    · omega
  have key : ∀ x, rx_G ad (wx_su sb tt (u + 1)) (.inl (j.toInt, j.toInt)) x → rx_G ad (wx_su sb tt (u + 1)) (.inr (.inr (.inr 600000))) x := by
    intro x hx
    obtain ⟨i', rfl, q1, q2⟩ := hx
    have q1 : j.toInt ≤ i'.toInt := q1
    have q2 : i'.toInt ≤ j.toInt := q2
    exact Or.inr (Or.inl ⟨by omega, by omega, i', rfl, Or.inr (Or.inr (Or.inr (Or.inr (Or.inl ⟨by omega, by omega, u + 1, wx_su20 hsb, by omega, by omega⟩))))⟩)
  have hS : ∀ {fs0 : List rx_V} {f : Nat} {vs0 : List Value}, fs0[f]? = some (.inr (.inr (.inr 600000))) → rx_S ad (wx_su sb tt (u + 1)) (fs0.set f (.inl (j.toInt, j.toInt))) vs0 → rx_S ad (wx_su sb tt (u + 1)) fs0 vs0 := by
    intro fs0
    induction fs0 with
    | nil => intro f vs0 hf; simp at hf
    | cons y t ih =>
      intro f vs0 hf hs
      cases f with
      | zero =>
        cases hf
        obtain ⟨x, xs, rfl, z1, z2⟩ := rx_S_cons hs
        exact ⟨key x z1, z2⟩
      | succ f =>
        obtain ⟨x, xs, rfl, z1, z2⟩ := rx_S_cons hs
        exact ⟨z1, ih hf z2⟩
  exact hS (g7 _ _ g5 rfl) e2
theorem wx_iaload {a : Nat} {q : Int × Int} {lz : List rx_V} {w : rx_V} {Φ : rx_H → rx_H} (C : ∀ u, rx_Cx p s m args meth c D A B wr (wx_su sb tt u) ro mt) (hsb : sb.length = 20) (hΦ : wx_Ph Φ) (ok : rx_Ok xM mt pc (.iaload, np, tg, K)) (hk : h[a]? = some (.inr (0, lz))) (h0 : 0 ≤ q.1) (hw : ∀ z : Int, q.1 ≤ z → z ≤ q.2 → ∃ x, lz[z.toNat]? = some x ∧ wx_nh x = true ∧ rx_vi x w) (g : rx_Go p l e R s m args below meth c Q D A B (wx_su sb tt (u)) ad0 mt np (Φ h) L (w :: r) cells slots) : rx_Go p l e R s m args below meth c Q D A B (wx_su sb tt (u)) ad0 mt pc (Φ h) L (.inl q :: .inr (.inr (.inl (some a))) :: r) cells slots := by
  refine wx_topI rfl (fun ad i hi => ?_)
  obtain ⟨i', e, i1, i2⟩ := hi
  cases e
  obtain ⟨x, g1, g2, g3⟩ := hw _ i1 i2
  obtain ⟨l', g6, g8, g7, -⟩ := hΦ.2 h a _ lz hk
  exact rx_o_iaload (C u) ok g6 rfl (rx_one_z _) ((rx_le_iff _ _).mpr (Int.le_trans h0 i1)) (g7 _ _ g1 g2) (wx_mono hsb (Nat.le_refl _) rx_HS_rf rx_LS_rf (rx_SS_cons rx_SS_rf g3) g)
theorem wx_baload {a : Nat} {q : Int × Int} {lz : List rx_V} {w : rx_V} {Φ : rx_H → rx_H} (C : ∀ u, rx_Cx p s m args meth c D A B wr (wx_su sb tt u) ro mt) (hsb : sb.length = 20) (hΦ : wx_Ph Φ) (ok : rx_Ok xM mt pc (.baload, np, tg, K)) (hk : h[a]? = some (.inr (1, lz))) (h0 : 0 ≤ q.1) (hw : ∀ z : Int, q.1 ≤ z → z ≤ q.2 → ∃ x, lz[z.toNat]? = some x ∧ wx_nh x = true ∧ rx_vi x w) (g : rx_Go p l e R s m args below meth c Q D A B (wx_su sb tt (u)) ad0 mt np (Φ h) L (w :: r) cells slots) : rx_Go p l e R s m args below meth c Q D A B (wx_su sb tt (u)) ad0 mt pc (Φ h) L (.inl q :: .inr (.inr (.inl (some a))) :: r) cells slots := by
  refine wx_topI rfl (fun ad i hi => ?_)
  obtain ⟨i', e, i1, i2⟩ := hi
  cases e
  obtain ⟨x, g1, g2, g3⟩ := hw _ i1 i2
  obtain ⟨l', g6, g8, g7, -⟩ := hΦ.2 h a _ lz hk
  exact rx_o_baload (C u) ok g6 rfl (rx_one_z _) ((rx_le_iff _ _).mpr (Int.le_trans h0 i1)) (g7 _ _ g1 g2) (wx_mono hsb (Nat.le_refl _) rx_HS_rf rx_LS_rf (rx_SS_cons rx_SS_rf g3) g)
theorem wx_aaload {a tc : Nat} {q : Int × Int} {lz : List rx_V} {w : rx_V} {Φ : rx_H → rx_H} (C : ∀ u, rx_Cx p s m args meth c D A B wr (wx_su sb tt u) ro mt) (hsb : sb.length = 20) (hΦ : wx_Ph Φ) (ok : rx_Ok xM mt pc (.aaload, np, tg, K)) (hk : h[a]? = some (.inr (tc, lz))) (htc : 3 ≤ tc) (h0 : 0 ≤ q.1) (hw : ∀ z : Int, q.1 ≤ z → z ≤ q.2 → ∃ x, lz[z.toNat]? = some x ∧ wx_nh x = true ∧ rx_vi x w) (g : rx_Go p l e R s m args below meth c Q D A B (wx_su sb tt (u)) ad0 mt np (Φ h) L (w :: r) cells slots) : rx_Go p l e R s m args below meth c Q D A B (wx_su sb tt (u)) ad0 mt pc (Φ h) L (.inl q :: .inr (.inr (.inl (some a))) :: r) cells slots := by
  refine wx_topI rfl (fun ad i hi => ?_)
  obtain ⟨i', e, i1, i2⟩ := hi
  cases e
  obtain ⟨x, g1, g2, g3⟩ := hw _ i1 i2
  obtain ⟨l', g6, g8, g7, -⟩ := hΦ.2 h a _ lz hk
  exact rx_o_aaload (C u) ok g6 htc (rx_one_z _) ((rx_le_iff _ _).mpr (Int.le_trans h0 i1)) (g7 _ _ g1 g2) (wx_mono hsb (Nat.le_refl _) rx_HS_rf rx_LS_rf (rx_SS_cons rx_SS_rf g3) g)
theorem wx_rload {j : Nat} {q : Int × Int} {lz : List rx_V} {w : rx_V} (C : ∀ u, rx_Cx p s m args meth c D A B wr (wx_su sb tt u) ro mt) (hsb : sb.length = 20) (ok : rx_Ok xM mt pc (.iaload, np, tg, K)) (hj : j ≤ 19) (hk : ro[j]? = some lz) (h0 : 0 ≤ q.1) (hw : ∀ z : Int, q.1 ≤ z → z ≤ q.2 → ∃ x, lz[z.toNat]? = some x ∧ wx_nh x = true ∧ rx_vi x w) (g : rx_Go p l e R s m args below meth c Q D A B (wx_su sb tt (u)) ad0 mt np X L (w :: r) cells slots) : rx_Go p l e R s m args below meth c Q D A B (wx_su sb tt (u)) ad0 mt pc X L (.inl q :: .inr (.inr (.inr j)) :: r) cells slots := by
  refine wx_topI rfl (fun ad i hi => ?_)
  obtain ⟨i', e, i1, i2⟩ := hi
  cases e
  obtain ⟨x, g1, g2, g3⟩ := hw _ i1 i2
  exact rx_o_rload (C u) ok hj hk (rx_one_z _) ((rx_le_iff _ _).mpr (Int.le_trans h0 i1)) g1 (wx_mono hsb (Nat.le_refl _) rx_HS_rf rx_LS_rf (rx_SS_cons rx_SS_rf g3) g)
theorem wx_iastore {a : Nat} {q v : Int × Int} {lz : List rx_V} {Φ : rx_H → rx_H} (C : ∀ u, rx_Cx p s m args meth c D A B wr (wx_su sb tt u) ro mt) (hsb : sb.length = 20) (hΦ : wx_Ph Φ) (hwr : wr = true) (ok : rx_Ok xM mt pc (.iastore, np, tg, K)) (hk : h[a]? = some (.inr (0, lz))) (h0 : 0 ≤ q.1) (hl : q.2 < lz.length) (hw : ∀ z : Int, q.1 ≤ z → z ≤ q.2 → ∃ x, lz[z.toNat]? = some x ∧ wx_nh x = true ∧ rx_vi (.inl v) x) (g : rx_Go p l e R s m args below meth c Q D A B (wx_su sb tt (u)) ad0 mt np (Φ h) L r cells slots) : rx_Go p l e R s m args below meth c Q D A B (wx_su sb tt (u)) ad0 mt pc (Φ h) L (.inl v :: .inl q :: .inr (.inr (.inl (some a))) :: r) cells slots := by
  refine wx_secI rfl (fun ad i hi => ?_)
  obtain ⟨i', e, i1, i2⟩ := hi
  cases e
  obtain ⟨x, g1, g2, g3⟩ := hw _ i1 i2
  obtain ⟨l', g6, g8, g7, -⟩ := hΦ.2 h a _ lz hk
  exact rx_o_iastore (C u) hwr ok g6 rfl (rx_one_z _) ((rx_le_iff _ _).mpr (Int.le_trans h0 i1)) (by show i.toInt.toNat < l'.length; rw [g8]; exact (List.getElem?_eq_some_iff.mp g1).1) (wx_mono hsb (Nat.le_refl _) (rx_HS_set rx_HS_rf g6 ⟨rfl, rx_SS_set rx_SS_rf (g7 _ _ g1 g2) g3⟩) rx_LS_rf rx_SS_rf g)
theorem wx_iastoreS {a : Nat} {q v : Int × Int} {lz : List rx_V} {Φ : rx_H → rx_H} (C : ∀ u, rx_Cx p s m args meth c D A B wr (wx_su sb tt u) ro mt) (hΦ : wx_Ph Φ) (hwr : wr = true) (ok : rx_Ok xM mt pc (.iastore, np, tg, K)) (hk : h[a]? = some (.inr (0, lz))) (h1 : rx_one q = true) (h0 : 0 ≤ q.1) (hl : q.1.toNat < lz.length) (g : rx_Go p l e R s m args below meth c Q D A B (wx_su sb tt (u)) ad0 mt np (Φ (h.set a (.inr (0, lz.set q.1.toNat (.inl v))))) L r cells slots) : rx_Go p l e R s m args below meth c Q D A B (wx_su sb tt (u)) ad0 mt pc (Φ h) L (.inl v :: .inl q :: .inr (.inr (.inl (some a))) :: r) cells slots := by
  obtain ⟨l', g6, g8, g7, g9⟩ := hΦ.2 h a _ lz hk
  rw [g9 _ (.inl v) rfl] at g
  exact rx_o_iastore (C u) hwr ok g6 rfl h1 ((rx_le_iff _ _).mpr h0) (by show _ < l'.length; rw [g8]; exact hl) g
theorem wx_bastore {a : Nat} {q v : Int × Int} {lz : List rx_V} {Φ : rx_H → rx_H} (C : ∀ u, rx_Cx p s m args meth c D A B wr (wx_su sb tt u) ro mt) (hsb : sb.length = 20) (hΦ : wx_Ph Φ) (hwr : wr = true) (ok : rx_Ok xM mt pc (.bastore, np, tg, K)) (hb : rx_bool v = true) (hk : h[a]? = some (.inr (1, lz))) (h0 : 0 ≤ q.1) (hl : q.2 < lz.length) (hw : ∀ z : Int, q.1 ≤ z → z ≤ q.2 → ∃ x, lz[z.toNat]? = some x ∧ wx_nh x = true ∧ rx_vi (.inl v) x) (g : rx_Go p l e R s m args below meth c Q D A B (wx_su sb tt (u)) ad0 mt np (Φ h) L r cells slots) : rx_Go p l e R s m args below meth c Q D A B (wx_su sb tt (u)) ad0 mt pc (Φ h) L (.inl v :: .inl q :: .inr (.inr (.inl (some a))) :: r) cells slots := by
  refine wx_secI rfl (fun ad i hi => ?_)
  obtain ⟨i', e, i1, i2⟩ := hi
  cases e
  obtain ⟨x, g1, g2, g3⟩ := hw _ i1 i2
  obtain ⟨l', g6, g8, g7, -⟩ := hΦ.2 h a _ lz hk
  exact rx_o_bastore (C u) hwr ok hb g6 rfl (rx_one_z _) ((rx_le_iff _ _).mpr (Int.le_trans h0 i1)) (by show i.toInt.toNat < l'.length; rw [g8]; exact (List.getElem?_eq_some_iff.mp g1).1) (wx_mono hsb (Nat.le_refl _) (rx_HS_set rx_HS_rf g6 ⟨rfl, rx_SS_set rx_SS_rf (g7 _ _ g1 g2) g3⟩) rx_LS_rf rx_SS_rf g)
theorem wx_lastore {a : Nat} {q v : Int × Int} {lz : List rx_V} {Φ : rx_H → rx_H} (C : ∀ u, rx_Cx p s m args meth c D A B wr (wx_su sb tt u) ro mt) (hsb : sb.length = 20) (hΦ : wx_Ph Φ) (hwr : wr = true) (ok : rx_Ok xM mt pc (.lastore, np, tg, K)) (hk : h[a]? = some (.inr (2, lz))) (h0 : 0 ≤ q.1) (hl : q.2 < lz.length) (hw : ∀ z : Int, q.1 ≤ z → z ≤ q.2 → ∃ x, lz[z.toNat]? = some x ∧ wx_nh x = true ∧ rx_vi (.inr (.inl v)) x) (g : rx_Go p l e R s m args below meth c Q D A B (wx_su sb tt (u)) ad0 mt np (Φ h) L r cells slots) : rx_Go p l e R s m args below meth c Q D A B (wx_su sb tt (u)) ad0 mt pc (Φ h) L (.inr (.inl v) :: .inl q :: .inr (.inr (.inl (some a))) :: r) cells slots := by
  refine wx_secI rfl (fun ad i hi => ?_)
  obtain ⟨i', e, i1, i2⟩ := hi
  cases e
  obtain ⟨x, g1, g2, g3⟩ := hw _ i1 i2
  obtain ⟨l', g6, g8, g7, -⟩ := hΦ.2 h a _ lz hk
  exact rx_o_lastore (C u) hwr ok g6 rfl (rx_one_z _) ((rx_le_iff _ _).mpr (Int.le_trans h0 i1)) (by show i.toInt.toNat < l'.length; rw [g8]; exact (List.getElem?_eq_some_iff.mp g1).1) (wx_mono hsb (Nat.le_refl _) (rx_HS_set rx_HS_rf g6 ⟨rfl, rx_SS_set rx_SS_rf (g7 _ _ g1 g2) g3⟩) rx_LS_rf rx_SS_rf g)
end WXS
