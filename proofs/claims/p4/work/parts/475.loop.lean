/-! THE LAW's LOOP, TO ITS END -/
theorem wx_i32e {a : Int} (h1 : -2147483648 ≤ a) (h2 : a ≤ 2147483647) : rx_i32 (a, a) = (a, a) := by
  unfold rx_i32
  rw [show rx_le (-2147483648) ((a, a) : Int × Int).1 = true from (rx_le_iff _ _).mpr h1, show rx_le ((a, a) : Int × Int).2 2147483647 = true from (rx_le_iff _ _).mpr h2]
  rfl
theorem wx_add5 {t : Nat} (h : t ≤ 1000000) : rx_i32 (rx_add ((t : Int), (t : Int)) (5, 5)) = (((t + 5 : Nat) : Int), ((t + 5 : Nat) : Int)) := by
  rw [show rx_add ((t : Int), (t : Int)) (5, 5) = (((t + 5 : Nat) : Int), ((t + 5 : Nat) : Int)) from rfl]
  exact wx_i32e (by omega) (by omega)
theorem wx_sub5 {t : Nat} (h : t ≤ 1000000) : rx_i32 (rx_sub ((t : Int), (t : Int)) (5, 5)) = ((t : Int) - 5, (t : Int) - 5) := wx_i32e (by omega) (by omega)
theorem wx_L_ix {ad sb : List Nat} {t u nL : Nat} {ls : Array Slot} (hsb : sb.length = 20) (h : rx_L ad (wx_su sb t u) nL (wx_Lw (.inl ((t : Int), (t : Int)))) ls) : rx_L ad (wx_su sb t u) nL (wx_Lw wx_ix) ls := by
  obtain ⟨l, h1, h2, h3⟩ := h
  refine ⟨l, h1, h2, fun i v hi => ?_⟩
  match i, hi with
  | 0, hi => exact h3 0 v hi
  | 1, hi => exact h3 1 v hi
  | 2, hi => exact h3 2 v hi
  | 3, hi => exact h3 3 v hi
  | 4, hi =>
    cases hi
    obtain ⟨x, g1, z, rfl, g2, g3⟩ := h3 4 _ rfl
    have g2 : (t : Int) ≤ z.toInt := g2
    have g3 : z.toInt ≤ (t : Int) := g3
    exact ⟨_, g1, Or.inr (Or.inl ⟨by omega, by omega, z, rfl, Or.inr (Or.inr (Or.inr (Or.inr (Or.inr ⟨by omega, by omega, t, wx_su21 hsb, by omega⟩))))⟩)⟩
  | 5, hi => cases hi
  | 6, hi => cases hi
  | _ + 7, hi => cases hi
theorem wx_L_xi {ad sb : List Nat} {t u nL : Nat} {ls : Array Slot} (hsb : sb.length = 20) (h : rx_L ad (wx_su sb t u) nL (wx_Lw wx_ix) ls) : rx_L ad (wx_su sb t u) nL (wx_Lw (.inl ((t : Int), (t : Int)))) ls := by
  obtain ⟨l, h1, h2, h3⟩ := h
  refine ⟨l, h1, h2, fun i v hi => ?_⟩
  match i, hi with
  | 0, hi => exact h3 0 v hi
  | 1, hi => exact h3 1 v hi
  | 2, hi => exact h3 2 v hi
  | 3, hi => exact h3 3 v hi
  | 4, hi =>
    cases hi
    obtain ⟨x, g1, g2⟩ := h3 4 _ rfl
    rcases g2 with ⟨h0, -⟩ | ⟨-, -, z, rfl, hz⟩ | ⟨h0, -⟩
    · omega
    · rcases hz with ⟨_, h0, _⟩ | ⟨_, h0, _⟩ | ⟨_, h0, _⟩ | ⟨_, h0, _⟩ | ⟨_, h0, _⟩ | ⟨_, _, w, w1, w2⟩
      · omega
      · omega
      · omega
      · omega
      · omega
      · rw [wx_su21 hsb] at w1
        cases w1
        exact ⟨_, g1, z, rfl, by show (t : Int) ≤ z.toInt; omega, by show z.toInt ≤ (t : Int); omega⟩
    · omega
  | 5, hi => cases hi
  | 6, hi => cases hi
  | _ + 7, hi => cases hi
section WXS
variable {p : Program} {l : Launch} {e : Env} {R : Room} {s : State} {m : MethodId} {args : Array Value} {below : List Frame} {meth : Method} {c : Code} {Q : State → Prop} {D : va_G} {A B : Nat → Prop} {wr : Bool} {sb ad0 : List Nat} {tt : Nat} {ro : List (List rx_V)} {mt : rx_MT} {xM : List rx_MT} {cells slots : Nat} {Ls : Nat} {xs : Nat → Int32}
theorem wx_lawloop (hC : ∀ t u, rx_Cx p s m args meth c D (rx_AW wr ad0 s.heap.size) (rx_BW wr ad0 s.heap.size) wr (wx_su sb t u) rx_ro mt) (hRW : ∀ l0 : List rx_V, l0.length = Ls → (∀ (i : Nat) (v : rx_V), l0[i]? = some v → rx_G [] [] v (.int (xs i))) → ∀ t u, rx_Cx p s m args meth c D (rx_AW wr ad0 s.heap.size) (rx_BW wr ad0 s.heap.size) wr (wx_su sb t u) (rx_ro ++ [l0]) mt) (hwr : wr = true) (hmt : mt = rx_mL7) (hsb : sb.length = 20) (hRm : R.frames = mt.2.2.2.2.2.2.1 ∧ R.locals = mt.2.2.2.2.2.2.2.1) (hLs : Ls ≤ 2560) (hop : ∀ c0, c0 < 32 → wx_ON c0 ∨ wx_OH l c0 ∨ wx_OC l c0)
    (hend : ∀ t u n c1 s1, c1 ≤ R.cells → s1 ≤ R.slots → rx_Go p l e R s m args below meth c Q D (rx_AW wr ad0 s.heap.size) (rx_BW wr ad0 s.heap.size) (wx_su sb (t) (u)) ad0 mt 801 (wx_X n) (wx_Lw (.inl ((t : Int), (t : Int)))) [] c1 s1) :
    ∀ (j t n u cells slots : Nat), Ls ≤ t + 5 * j + 4 → t ≤ 2560 → n ≤ 40 → 100 ≤ u → u + j * 900000 ≤ wx_bd → cells + j ≤ R.cells → slots + 7 * j ≤ R.slots → rx_Go p l e R s m args below meth c Q D (rx_AW wr ad0 s.heap.size) (rx_BW wr ad0 s.heap.size) (wx_su sb (t) (u)) ad0 mt 23 (wx_X n) (wx_Lw (.inl ((t : Int), (t : Int)))) [] cells slots := by
  have okm : rx_MOk rx_xM mt := by rw [hmt]; exact rx_moL7
  have hb : ∀ (pc : Nat) (row : rx_Row), rx_tbL7 pc = some row → rx_Ok rx_xM mt pc row := by
    intro pc row hr
    exact okm.1 pc row (by rw [hmt]; exact hr)
  obtain ⟨l0, k1, k2, -⟩ := wx_tops Ls xs 0 [] (by show 0 + 0 ≤ Ls; omega) (fun k v hv => by cases hv)
  have hC2 := hRW l0 k1 k2
  intro j
  have head : ∀ (t n u cells slots : Nat), t ≤ 2560 → (Ls < t + 5 → rx_Go p l e R s m args below meth c Q D (rx_AW wr ad0 s.heap.size) (rx_BW wr ad0 s.heap.size) (wx_su sb (t) (u)) ad0 mt 801 (wx_X n) (wx_Lw (.inl ((t : Int), (t : Int)))) [] cells slots) → (t + 5 ≤ Ls → rx_Go p l e R s m args below meth c Q D (rx_AW wr ad0 s.heap.size) (rx_BW wr ad0 s.heap.size) (wx_su sb (t) (u)) ad0 mt 32 (wx_X n) (wx_Lw (.inl ((t : Int), (t : Int)))) [] cells slots) → rx_Go p l e R s m args below meth c Q D (rx_AW wr ad0 s.heap.size) (rx_BW wr ad0 s.heap.size) (wx_su sb (t) (u)) ad0 mt 23 (wx_X n) (wx_Lw (.inl ((t : Int), (t : Int)))) [] cells slots := by
    intro t n u cells slots ht g1 g2
    refine rx_o_iload (hC t u) (hb 23 _ rfl) rfl rfl ?_
    refine rx_o_aload_n (hC t u) (hb 25 _ rfl) rfl rfl ?_
    refine rx_o_alen (hC2 t u) (hb 26 _ rfl) (by decide) (l0 := l0) rfl (by omega) ?_
    refine rx_o_iconst (hC t u) (hb 27 _ rfl) (by decide) (by decide) ?_
    refine rx_o_isub (hC t u) (hb 28 _ rfl) ?_
    rw [k1, wx_sub5 (by omega)]
    by_cases h5 : t + 5 ≤ Ls
    · have hcmp : rx_cmp .gt ((t : Int), (t : Int)) ((Ls : Int) - 5, (Ls : Int) - 5) = some false := by
        show (bif rx_le (t : Int) ((Ls : Int) - 5) then some false else bif rx_le (t : Int) ((Ls : Int) - 5) then none else some true) = _
        rw [(rx_le_iff _ _).mpr (by omega)]
        rfl
      exact rx_o_icmp (hC t u) (hb 29 _ rfl) hcmp (fun z => by cases z) (fun _ => g2 h5)
    · have hcmp : rx_cmp .gt ((t : Int), (t : Int)) ((Ls : Int) - 5, (Ls : Int) - 5) = some true := by
        show (bif rx_le (t : Int) ((Ls : Int) - 5) then some false else bif rx_le (t : Int) ((Ls : Int) - 5) then none else some true) = _
        cases e : rx_le (t : Int) ((Ls : Int) - 5) with
        | false => rfl
        | true => have := rx_le_t e; omega
      exact rx_o_icmp (hC t u) (hb 29 _ rfl) hcmp (fun _ => g1 (by omega)) (fun z => by cases z)
  induction j with
  | zero =>
    intro t n u cells slots h1 h2 h3 h4 h5 h6 h7
    exact head t n u cells slots h2 (fun _ => hend t u n cells slots (by omega) (by omega)) (fun hz => by omega)
  | succ j ih =>
    intro t n u cells slots h1 h2 h3 h4 h5 h6 h7
    refine head t n u cells slots h2 (fun _ => hend t u n cells slots (by omega) (by omega)) (fun hz => ?_)
    have hx : ∃ c0 : Nat, (xs t &&& 31).toInt = (c0 : Int) ∧ c0 < 32 := by
      obtain ⟨q1, q2⟩ := rx_small (xs t) 31 (k := 31) rfl (by decide)
      exact ⟨(xs t &&& 31).toInt.toNat, by omega, by omega⟩
    obtain ⟨c0, hc0, hc32⟩ := hx
    have hm1 : (j + 1) * 900000 = j * 900000 + 900000 := by omega
    have gb : rx_Go p l e R s m args below meth c Q D (rx_AW wr ad0 s.heap.size) (rx_BW wr ad0 s.heap.size) (wx_su sb (t) (u)) ad0 mt 32 (wx_X n) (wx_Lw wx_ix) [] cells slots := by
      refine wx_body hC hRW hwr hmt hsb hRm (by omega) h3 h4 (by omega) hz (by omega) hc0 hc32 (hop c0 hc32) ?_
      intro n' hn' u' hu1 hu2 c1 hc1 s1 hs1
      have key : rx_Go p l e R s m args below meth c Q D (rx_AW wr ad0 s.heap.size) (rx_BW wr ad0 s.heap.size) (wx_su sb (t) (u')) ad0 mt 795 (wx_X n') (wx_Lw (.inl ((t : Int), (t : Int)))) [] c1 s1 := by
        refine rx_o_iinc (hC t u') (hb 795 _ rfl) (by decide) (by decide) rfl rfl ?_
        rw [wx_add5 (by omega)]
        refine rx_o_goto (hC t u') (hb 798 _ rfl) ?_
        intro ad ws H locs ls vs a1 a2 a3 a4 a5 a6 a7
        refine ih (t + 5) n' u' c1 s1 (by omega) (by omega) hn' (by omega) (by omega) (by omega) (by omega) ad ws H locs ls vs a1 (rx_W_t hsb wx_X_ni a2) a3 a4 a5 (rx_L_t hsb (fun i v hi => ?_) a6) (rx_S_t hsb rfl a7)
        match i, hi with
        | 0, hi => cases hi; rfl
        | 1, hi => cases hi; rfl
        | 2, hi => cases hi; rfl
        | 3, hi => cases hi; rfl
        | 4, hi => cases hi; rfl
        | 5, hi => cases hi
        | 6, hi => cases hi
        | _ + 7, hi => cases hi
      intro ad ws H locs ls vs a1 a2 a3 a4 a5 a6 a7
      exact key ad ws H locs ls vs a1 a2 a3 a4 a5 (wx_L_xi hsb a6) a7
    intro ad ws H locs ls vs a1 a2 a3 a4 a5 a6 a7
    exact gb ad ws H locs ls vs a1 a2 a3 a4 a5 (wx_L_ix hsb a6) a7
end WXS
