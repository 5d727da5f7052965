/-! Math -/
theorem rx_max_e (a b : Int) : rx_max a b = a ∨ rx_max a b = b := by
  unfold rx_max
  cases h : rx_le a b
  · exact Or.inl rfl
  · exact Or.inr rfl
theorem rx_has_mx {a b : Int × Int} {x y z : Int} (ha : rx_has a x) (hb : rx_has b y) (h1 : x ≤ z) (h2 : y ≤ z) (h3 : z = x ∨ z = y) : rx_has (rx_mx a b) z := by
  obtain ⟨a1, a2⟩ := ha
  obtain ⟨b1, b2⟩ := hb
  have m1 := rx_max_l a.2 b.2
  refine ⟨?_, ?_⟩
  · show rx_max a.1 b.1 ≤ z
    rcases rx_max_e a.1 b.1 with e | e <;> rw [e] <;> omega
  · show z ≤ rx_max a.2 b.2
    rcases h3 with h3 | h3 <;> omega
theorem rx_has_mn {a b : Int × Int} {x y z : Int} (ha : rx_has a x) (hb : rx_has b y) (h1 : z ≤ x) (h2 : z ≤ y) (h3 : z = x ∨ z = y) : rx_has (rx_mn a b) z := by
  obtain ⟨a1, a2⟩ := ha
  obtain ⟨b1, b2⟩ := hb
  have m1 := rx_min_l a.1 b.1
  refine ⟨?_, ?_⟩
  · show rx_min a.1 b.1 ≤ z
    rcases h3 with h3 | h3 <;> omega
  · show z ≤ rx_min a.2 b.2
    rcases rx_min_e a.2 b.2 with e | e <;> rw [e] <;> omega
theorem rx_has_ab {a : Int × Int} {x : Int32} (ha : rx_has a x.toInt) : rx_has (rx_ab a) (if 0 ≤ x then x else 0 - x).toInt := by
  have h0 : (0 : Int32).toInt = 0 := by decide
  have hle : (0 ≤ x) ↔ 0 ≤ x.toInt := by rw [Int32.le_iff_toInt_le, h0]
  obtain ⟨a1, a2⟩ := id ha
  unfold rx_ab
  cases h : rx_le 0 a.1 with
  | true =>
    have h1 := rx_le_t h
    rw [if_pos (hle.mpr (by omega))]
    exact ha
  | false =>
    have key : ∀ q : Int × Int, rx_has q (if 0 ≤ x.toInt then x.toInt else -x.toInt) → rx_has (rx_i32 q) (if 0 ≤ x then x else 0 - x).toInt := by
      intro q hq
      refine rx_has32 hq fun h1 h2 => ?_
      by_cases hx : 0 ≤ x.toInt
      · rw [if_pos (hle.mpr hx), if_pos hx]
      · rw [if_neg (fun z => hx (hle.mp z)), if_neg hx, Int32.toInt_sub, h0]
        rw [if_neg hx] at h1 h2
        rw [show (0 : Int) - x.toInt = -x.toInt by omega]
        exact rx_bm32 h1 h2
    show rx_has (rx_i32 (bif rx_le a.2 0 then (-a.2, -a.1) else (0, rx_max (-a.1) a.2))) _
    apply key
    cases h2 : rx_le a.2 0 with
    | true =>
      have h3 := rx_le_t h2
      refine ⟨?_, ?_⟩
      · show -a.2 ≤ _
        split <;> omega
      · show _ ≤ -a.1
        split <;> omega
    | false =>
      have m1 := rx_max_l (-a.1) a.2
      refine ⟨?_, ?_⟩
      · show (0 : Int) ≤ _
        split <;> omega
      · show _ ≤ rx_max (-a.1) a.2
        split <;> omega
section OPS
variable {p : Program} {l : Launch} {e : Env} {R : Room} {s : State} {m : MethodId} {args : Array Value} {below : List Frame} {meth : Method} {c : Code} {Q : State → Prop} {D : va_G} {A B : Nat → Prop} {wr : Bool} {sa ad0 : List Nat} {ro : List (List rx_V)} {mt : rx_MT} {xM : List rx_MT} {pc np tg i : Nat} {K : rx_K} {h : rx_H} {L : rx_F} {st r : List rx_V} {cells slots : Nat} {a b : Int × Int}
theorem rx_o_alen {j : Nat} {l0 : List rx_V} (C : rx_Cx p s m args meth c D A B wr sa ro mt) (ok : rx_Ok xM mt pc (.arraylength, np, tg, K)) (hj : j ≤ 19) (hc : ro[j]? = some l0) (hl : l0.length ≤ 5000) (k : rx_Go p l e R s m args below meth c Q D A B sa ad0 mt np h L (.inl ((l0.length : Int), (l0.length : Int)) :: r) cells slots) : rx_Go p l e R s m args below meth c Q D A B sa ad0 mt pc h L (.inr (.inr (.inr j)) :: r) cells slots := by
  obtain ⟨hd, rfl⟩ := ok.dec (n := 0) rfl
  intro ad ws H locs ls vs a1 a2 a3 a4 a5 a6 a7
  obtain ⟨x, vs, rfl, hx0, a9⟩ := rx_S_cons a7
  rcases hx0 with ⟨-, b, hb, rfl⟩ | ⟨hz, -⟩ | ⟨hz, -⟩
  rotate_left
  · omega
  · omega
  obtain ⟨a, xs, b1, b4, b5⟩ := C.2.2.2.2.2.2.2.2.2.2.1.1 j l0 hc
  cases b1.symm.trans hb
  refine va_tlen C.1 C.2.1 b4 a5 rfl hd (k ad ws H locs ls _ a1 a2 a3 a4 a5 a6 ⟨⟨_, rfl, ?_⟩, a9⟩)
  have e : (Int32.ofNat l0.length).toInt = (l0.length : Int) := nI_toInt (by omega)
  rw [e]; exact ⟨Int.le_refl _, Int.le_refl _⟩
theorem rx_o_math {st' : List rx_V} {β : Type} {k : List rx_V → Option β} {r0 : β} (C : rx_Cx p s m args meth c D A B wr sa ro mt) (ok : rx_Ok xM mt pc (.invokestatic i, np, tg, K)) (hRm : R.frames = mt.2.2.2.2.2.2.1 ∧ R.locals = mt.2.2.2.2.2.2.2.1) (hs : rx_math K.1 st k = some r0) (kk : ∀ st', k st' = some r0 → (cells ≤ R.cells ∧ slots ≤ R.slots) ∧ rx_Go p l e R s m args below meth c Q D A B sa ad0 mt np h L st' cells slots) : rx_Go p l e R s m args below meth c Q D A B sa ad0 mt pc h L st cells slots := by
  obtain ⟨hd, rfl⟩ := ok.dec (n := 2) rfl
  have hma := ok.2.2.2.2.1
  have hsz : ∀ {ad : List Nat} {ls : Array Slot}, rx_L ad sa mt.2.2.1 L ls → c.maxLocals = ls.size := fun a6 => by
    obtain ⟨l0, g1, -⟩ := a6
    rw [C.2.2.1]; exact g1.1.symm
  have i2 : ∀ (st1 : List rx_V) (a b : Int × Int) (r : List rx_V), st1 = .inl b :: .inl a :: r → Nat.ble (rx_cats r) 8 = true → (K.1 = 20 ∧ k (.inl (rx_mx a b) :: r) = some r0) ∨ (K.1 = 21 ∧ k (.inl (rx_mn a b) :: r) = some r0) → rx_Go p l e R s m args below meth c Q D A B sa ad0 mt pc h L st1 cells slots := by
    intro st1 a b r e hc hk
    subst e
    have hc := Nat.le_of_ble_eq_true hc
    intro ad ws H locs ls vs a1 a2 a3 a4 a5 a6 a7
    obtain ⟨v1, v2, rfl, ⟨y, rfl, hy⟩, a8⟩ := rx_S_cons a7
    obtain ⟨v3, vs, rfl, ⟨x, rfl, hx⟩, a9⟩ := rx_S_cons a8
    have e := rx_S_cats a9
    rcases hk with ⟨hK, hk⟩ | ⟨hK, hk⟩
    · obtain ⟨f1, f2, f3, f4⟩ := hma (by rw [hK]; decide)
      have hK' : K.1 = 20 := hK
      rw [hK'] at f4
      obtain ⟨w1, w2, w3⟩ := f4
      obtain ⟨hcs, kk⟩ := kk _ hk
      refine va_mmax C.1 C.2.1 (hsz a6) C.2.2.2.1 (C.word w1) (C.word w2) (C.word f3) (C.word w3) (by rw [hRm.1]; exact f1) (by rw [e, hRm.2]; omega) hcs.1 hcs.2 hd (kk ad ws H locs ls _ a1 a2 a3 a4 a5 a6 ⟨⟨_, rfl, ?_⟩, a9⟩)
      by_cases hlt : x < y
      · have := Int32.lt_iff_toInt_lt.mp hlt
        rw [if_pos hlt]; exact rx_has_mx hx hy (by omega) (Int.le_refl _) (Or.inr rfl)
      · have : y.toInt ≤ x.toInt := Int.not_lt.mp (fun z => hlt (Int32.lt_iff_toInt_lt.mpr z))
        rw [if_neg hlt]; exact rx_has_mx hx hy (Int.le_refl _) this (Or.inl rfl)
    · obtain ⟨f1, f2, f3, f4⟩ := hma (by rw [hK]; decide)
      have hK' : K.1 = 21 := hK
      rw [hK'] at f4
      obtain ⟨w1, w2, w3⟩ := f4
      obtain ⟨hcs, kk⟩ := kk _ hk
      refine va_mmin C.1 C.2.1 (hsz a6) C.2.2.2.1 (C.word w1) (C.word w2) (C.word f3) (C.word w3) (by rw [hRm.1]; exact f1) (by rw [e, hRm.2]; omega) hcs.1 hcs.2 hd (kk ad ws H locs ls _ a1 a2 a3 a4 a5 a6 ⟨⟨_, rfl, ?_⟩, a9⟩)
      by_cases hlt : y < x
      · have := Int32.lt_iff_toInt_lt.mp hlt
        rw [if_pos hlt]; exact rx_has_mn hx hy (by omega) (Int.le_refl _) (Or.inr rfl)
      · have : x.toInt ≤ y.toInt := Int.not_lt.mp (fun z => hlt (Int32.lt_iff_toInt_lt.mpr z))
        rw [if_neg hlt]; exact rx_has_mn hx hy (Int.le_refl _) this (Or.inl rfl)
  have i1 : ∀ (st1 : List rx_V) (b : Int × Int) (r : List rx_V), st1 = .inl b :: r → rx_cats r ≤ 9 → K.1 = 22 → k (.inl (rx_ab b) :: r) = some r0 → rx_Go p l e R s m args below meth c Q D A B sa ad0 mt pc h L st1 cells slots := by
    intro st1 b r e hc hK hk
    subst e
    intro ad ws H locs ls vs a1 a2 a3 a4 a5 a6 a7
    obtain ⟨v1, vs, rfl, ⟨y, rfl, hy⟩, a9⟩ := rx_S_cons a7
    have e := rx_S_cats a9
    obtain ⟨f1, f2, f3, f4⟩ := hma (by rw [hK]; decide)
    have hK' : K.1 = 22 := hK
    rw [hK'] at f4
    obtain ⟨w1, w2, w3⟩ := f4
    obtain ⟨hcs, kk⟩ := kk _ hk
    exact va_mabs C.1 C.2.1 (hsz a6) C.2.2.2.1 (C.word w1) (C.word w2) (C.word f3) (C.word w3) (by rw [hRm.1]; exact f1) (by rw [e, hRm.2]; omega) hcs.1 hcs.2 hd (kk ad ws H locs ls _ a1 a2 a3 a4 a5 a6 ⟨⟨_, rfl, rx_has_ab hy⟩, a9⟩)
  have iL : ∀ (st1 : List rx_V) (a b : Int × Int) (r : List rx_V), st1 = .inr (.inl b) :: .inr (.inl a) :: r → Nat.ble (rx_cats r) 8 = true → (K.1 = 23 ∧ k (.inr (.inl (rx_mx a b)) :: r) = some r0) ∨ (K.1 = 24 ∧ k (.inr (.inl (rx_mn a b)) :: r) = some r0) → rx_Go p l e R s m args below meth c Q D A B sa ad0 mt pc h L st1 cells slots := by
    intro st1 a b r e hc hk
    subst e
    have hc := Nat.le_of_ble_eq_true hc
    intro ad ws H locs ls vs a1 a2 a3 a4 a5 a6 a7
    obtain ⟨v1, v2, rfl, ⟨y, rfl, hy⟩, a8⟩ := rx_S_cons a7
    obtain ⟨v3, vs, rfl, ⟨x, rfl, hx⟩, a9⟩ := rx_S_cons a8
    have e := rx_S_cats a9
    rcases hk with ⟨hK, hk⟩ | ⟨hK, hk⟩
    · obtain ⟨f1, f2, f3, f4⟩ := hma (by rw [hK]; decide)
      have hK' : K.1 = 23 := hK
      rw [hK'] at f4
      obtain ⟨w1, w2, w3⟩ := f4
      obtain ⟨hcs, kk⟩ := kk _ hk
      refine va_mmax_long C.1 C.2.1 (hsz a6) C.2.2.2.1 (C.word w1) (C.word w2) (C.word f3) (C.word w3) (by rw [hRm.1]; exact f1) (by rw [e, hRm.2]; omega) hcs.1 hcs.2 hd (kk ad ws H locs ls _ a1 a2 a3 a4 a5 a6 ⟨⟨_, rfl, ?_⟩, a9⟩)
      by_cases hlt : y < x
      · have := Int64.lt_iff_toInt_lt.mp hlt
        rw [if_pos hlt]; exact rx_has_mx hx hy (Int.le_refl _) (by omega) (Or.inl rfl)
      · have : x.toInt ≤ y.toInt := Int.not_lt.mp (fun z => hlt (Int64.lt_iff_toInt_lt.mpr z))
        rw [if_neg hlt]; exact rx_has_mx hx hy this (Int.le_refl _) (Or.inr rfl)
    · obtain ⟨f1, f2, f3, f4⟩ := hma (by rw [hK]; decide)
      have hK' : K.1 = 24 := hK
      rw [hK'] at f4
      obtain ⟨w1, w2, w3⟩ := f4
      obtain ⟨hcs, kk⟩ := kk _ hk
      refine va_mmin_long C.1 C.2.1 (hsz a6) C.2.2.2.1 (C.word w1) (C.word w2) (C.word f3) (C.word w3) (by rw [hRm.1]; exact f1) (by rw [e, hRm.2]; omega) hcs.1 hcs.2 hd (kk ad ws H locs ls _ a1 a2 a3 a4 a5 a6 ⟨⟨_, rfl, ?_⟩, a9⟩)
      by_cases hlt : y < x
      · have := Int64.lt_iff_toInt_lt.mp hlt
        rw [if_pos hlt]; exact rx_has_mn hx hy (by omega) (Int.le_refl _) (Or.inr rfl)
      · have : x.toInt ≤ y.toInt := Int.not_lt.mp (fun z => hlt (Int64.lt_iff_toInt_lt.mpr z))
        rw [if_neg hlt]; exact rx_has_mn hx hy (Int.le_refl _) this (Or.inl rfl)
  unfold rx_math at hs
  split at hs
  · rename_i b a r
    cases hc : Nat.ble (rx_cats r) 8 with
    | false => rw [hc] at hs; cases hs
    | true =>
      rw [hc] at hs
      simp only [cond_true, rx_pI_eq] at hs
      cases h1 : (K.1 == 20) with
      | true => rw [h1] at hs; exact i2 _ a b r rfl hc (Or.inl ⟨by simpa using h1, hs⟩)
      | false =>
        rw [h1] at hs
        simp only [cond_false] at hs
        cases h2 : (K.1 == 21) with
        | true => rw [h2] at hs; exact i2 _ a b r rfl hc (Or.inr ⟨by simpa using h2, hs⟩)
        | false =>
          rw [h2] at hs
          simp only [cond_false] at hs
          cases h3 : (K.1 == 22) with
          | true =>
            rw [h3] at hs
            exact i1 _ b (.inl a :: r) rfl (by have := Nat.le_of_ble_eq_true hc; simp only [rx_cats, List.map_cons, List.sum_cons, rx_cat] at this ⊢; omega) (by simpa using h3) hs
          | false => rw [h3] at hs; cases hs
  · rename_i b a r
    cases hc : Nat.ble (rx_cats r) 8 with
    | false => rw [hc] at hs; cases hs
    | true =>
      rw [hc] at hs
      simp only [cond_true, rx_pL_eq] at hs
      cases h1 : (K.1 == 23) with
      | true => rw [h1] at hs; exact iL _ a b r rfl hc (Or.inl ⟨by simpa using h1, hs⟩)
      | false =>
        rw [h1] at hs
        simp only [cond_false] at hs
        cases h2 : (K.1 == 24) with
        | true => rw [h2] at hs; exact iL _ a b r rfl hc (Or.inr ⟨by simpa using h2, hs⟩)
        | false => rw [h2] at hs; cases hs
  · rename_i b r _
    cases hc : (Nat.ble (rx_cats r) 8 && (K.1 == 22)) with
    | false => rw [hc] at hs; cases hs
    | true =>
      rw [hc] at hs
      simp only [cond_true, rx_pI_eq] at hs
      rw [Bool.and_eq_true] at hc
      exact i1 _ b r rfl (by have := Nat.le_of_ble_eq_true hc.1; omega) (by simpa using hc.2) hs
  · cases hs
end OPS
