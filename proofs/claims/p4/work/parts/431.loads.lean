/-! BY HAND: loads. Its last loop ends, for in each round some set takes a part of the rest. -/
theorem wx_lc1 {q : Int × Int} (h : 0 < q.1) : rx_lcmp q (0, 0) = (1, 1) := by
  unfold rx_lcmp
  cases e : rx_le q.1 ((0, 0) : Int × Int).2 with
  | false => rfl
  | true => have := rx_le_t e; have : q.1 ≤ 0 := this; omega
theorem wx_lc0 {z : Int} (h : z ≤ 0) : wx_cmp .le (.inl (rx_lcmp (z, z) (0, 0))) (.inl (0, 0)) = some (some true) := by
  have e : rx_lcmp (z, z) (0, 0) = (-1, -1) ∨ rx_lcmp (z, z) (0, 0) = (0, 0) := by
    unfold rx_lcmp
    rw [show rx_le ((z, z) : Int × Int).1 ((0, 0) : Int × Int).2 = true from (rx_le_iff _ _).mpr h]
    cases e2 : rx_le ((0, 0) : Int × Int).1 ((z, z) : Int × Int).2 with
    | false => exact Or.inl rfl
    | true =>
      rw [rx_one_z]
      exact Or.inr rfl
  rcases e with e | e <;> rw [e] <;> rfl
theorem wx_i64m {z : Int} (h1 : 0 < z) (h2 : z ≤ 9223372036854775807) : rx_i64 (rx_sub (z, z) (1, 1)) = (z - 1, z - 1) := by
  unfold rx_i64
  rw [show rx_le (-9223372036854775808) (rx_sub (z, z) (1, 1)).1 = true from (rx_le_iff _ _).mpr (by show (-9223372036854775808 : Int) ≤ z - 1; omega), show rx_le (rx_sub (z, z) (1, 1)).2 9223372036854775807 = true from (rx_le_iff _ _).mpr (by show z - 1 ≤ (9223372036854775807 : Int); omega)]
  rfl
theorem wx_i32s {k : Nat} (h : k ≤ 1000000) : rx_i32 (rx_add ((k : Int), (k : Int)) (1, 1)) = (((k + 1 : Nat) : Int), ((k + 1 : Nat) : Int)) := wx_i32k h
/-- a long in a local, one number after the other -/
theorem wx_locL {ad sa : List Nat} {nL i : Nat} {L : rx_F} {q : Int × Int} {ls : Array Slot} (hL : rx_L ad sa nL L ls) (hi : L[i]? = some (some (.inr (.inl q)))) : ∃ z : Int, q.1 ≤ z ∧ z ≤ q.2 ∧ -9223372036854775808 ≤ z ∧ z ≤ 9223372036854775807 ∧ rx_L ad sa nL (L.set i (some (.inr (.inl (z, z))))) ls := by
  obtain ⟨l, h1, h2, h3⟩ := hL
  obtain ⟨x, g1, y, rfl, g2, g3⟩ := h3 i _ hi
  refine ⟨y.toInt, g2, g3, (rx_r64 y).1, (rx_r64 y).2, l, h1, by rw [List.length_set]; exact h2, fun j v hj => ?_⟩
  by_cases e : i = j
  · subst e
    rw [List.getElem?_set_self (List.getElem?_eq_some_iff.mp hi).1] at hj
    cases hj
    exact ⟨_, g1, y, rfl, Int.le_refl _, Int.le_refl _⟩
  · rw [List.getElem?_set_ne e] at hj
    exact h3 j v hj
def wx_lo9 (g : Int) (a : rx_V) (r : Int) (s : Option rx_V) : rx_F := [some (wx_r 28), some (.inl (g, g)), some (.inr (.inl rx_topL)), none, some a, none, some (.inr (.inl (r, r))), none, s]
def wx_pos : rx_V := .inr (.inl (1, 9223372036854775807))
section WXS
variable {p : Program} {l : Launch} {e : Env} {R : Room} {s : State} {m : MethodId} {args : Array Value} {below : List Frame} {meth : Method} {c : Code} {Q : State → Prop} {D : va_G} {A B : Nat → Prop} {wr : Bool} {sb ad0 : List Nat} {tt : Nat} {ro : List (List rx_V)} {mt : rx_MT} {xM : List rx_MT} {cells slots : Nat} {n u0 : Nat} {X : rx_H} {g : Int}
/-- what one round needs: the calls' answers -/
def wx_LH (l : Launch) (wr : Bool) (X : rx_H) (D : va_G) (sb : List Nat) (tt u : Nat) (g : Int) (s0 : Nat) : Prop := ∀ s : Nat, s < 6 → (∃ v, (s = s0 → v = (1, 1)) ∧ ∀ (ad : List Nat) (sz : Nat), Met l rx_m130.1 (rx_ws rx_m130) (rx_rm rx_m130 0 0) (rx_Pc wr D (wx_su sb tt u) ad rx_ro X [wx_r 28, .inl ((s : Int), (s : Int))] sz) (rx_Qc wr D (wx_su sb tt u) ad X (some (.inl v)) sz) 0 0 (rx_AW wr ad sz)) ∧
  (∃ v, (s = s0 → v = (1, 1)) ∧ ∀ (ad : List Nat) (sz : Nat), Met l rx_m131.1 (rx_ws rx_m131) (rx_rm rx_m131 0 0) (rx_Pc wr D (wx_su sb tt u) ad rx_ro X [wx_r 28, .inl ((s : Int), (s : Int)), .inl (g, g)] sz) (rx_Qc wr D (wx_su sb tt u) ad X (some (.inl v)) sz) 0 0 (rx_AW wr ad sz))
/-- one set's turn in a round -/
theorem wx_turn {ks : Nat} {r : Int} {s0 : Nat} {h : rx_H} (C : ∀ u, rx_Cx p s m args meth c D (rx_AW wr ad0 s.heap.size) (rx_BW wr ad0 s.heap.size) wr (wx_su sb tt u) ro mt) (hwr : wr = true) (hsb : sb.length = 20) (hmt : mt = rx_m155) (hro : ro = rx_ro) (hRm : R.frames = mt.2.2.2.2.2.2.1 ∧ R.locals = mt.2.2.2.2.2.2.2.1) (hm : cells ≤ R.cells ∧ slots ≤ R.slots) (hX : X = wx_fill n h) (h28 : ∃ fs, h[28]? = some (.inl (11, fs)) ∧ fs[5]? = some (wx_r 32)) (h32 : h[32]? = some (.inr (0, [.inl rx_top, .inl rx_top, .inl rx_top, .inl rx_top, .inl rx_top, .inl rx_top]))) (hLH : wx_LH l wr X D sb tt u0 g s0)
    (hs : ks < 6) (hr1 : r ≤ 9223372036854775807) (k1 : (r ≤ 0 ∨ ¬ ks = s0) → rx_Go p l e R s m args below meth c Q D (rx_AW wr ad0 s.heap.size) (rx_BW wr ad0 s.heap.size) (wx_su sb tt (u0)) ad0 mt 160 X (wx_lo9 g wx_pos r (some (.inl (((ks + 1 : Nat) : Int), ((ks + 1 : Nat) : Int))))) [] cells slots) (k2 : 0 < r → rx_Go p l e R s m args below meth c Q D (rx_AW wr ad0 s.heap.size) (rx_BW wr ad0 s.heap.size) (wx_su sb tt (u0)) ad0 mt 160 X (wx_lo9 g wx_pos (r - 1) (some (.inl (((ks + 1 : Nat) : Int), ((ks + 1 : Nat) : Int))))) [] cells slots) : rx_Go p l e R s m args below meth c Q D (rx_AW wr ad0 s.heap.size) (rx_BW wr ad0 s.heap.size) (wx_su sb tt (u0)) ad0 mt 160 X (wx_lo9 g wx_pos r (some (.inl ((ks : Int), (ks : Int))))) [] cells slots := by
  subst hmt
  subst hro
  have okm := rx_all 155 _ rx_x155
  have hΦ := wx_Ph_fill n
  have nx : ∀ r', rx_Go p l e R s m args below meth c Q D (rx_AW wr ad0 s.heap.size) (rx_BW wr ad0 s.heap.size) (wx_su sb tt (u0)) ad0 rx_m155 160 X (wx_lo9 g wx_pos r' (some (.inl (((ks + 1 : Nat) : Int), ((ks + 1 : Nat) : Int))))) [] cells slots → rx_Go p l e R s m args below meth c Q D (rx_AW wr ad0 s.heap.size) (rx_BW wr ad0 s.heap.size) (wx_su sb tt (u0)) ad0 rx_m155 210 X (wx_lo9 g wx_pos r' (some (.inl ((ks : Int), (ks : Int))))) [] cells slots := by
    intro r' gg
    refine rx_o_iinc (C _) (okm.1 210 _ rfl) (by decide) (by decide) rfl rfl ?_
    rw [wx_i32s (by omega)]
    exact rx_o_goto (C _) (okm.1 213 _ rfl) gg
  have rec28 : ∀ i, 28 ≤ i → i < 28 + 1 → ∃ fs, X[i]? = some (.inl (11, fs)) := by
    intro i h1 h2
    have e : i = 28 := by omega
    subst e
    obtain ⟨fs, w1, -⟩ := h28
    rw [hX]
    exact ⟨_, wx_fill_get w1⟩
  refine rx_o_iload (C _) (okm.1 160 _ rfl) rfl rfl ?_
  refine rx_o_bipush (C _) (okm.1 162 _ rfl) (by decide) (by decide) ?_
  have hcmp : rx_cmp .ge ((ks : Int), (ks : Int)) (6, 6) = some false := by
    show (bif rx_le 6 (ks : Int) then some true else bif rx_le 6 (ks : Int) then none else some false) = _
    cases e : rx_le 6 (ks : Int) with
    | false => rfl
    | true => have := rx_le_t e; omega
  refine rx_o_icmp (C _) (okm.1 164 _ rfl) hcmp (fun z => by cases z) (fun _ => ?_)
  refine rx_o_lload (C _) (okm.1 167 _ rfl) rfl ?_
  refine rx_o_lconst (C _) (okm.1 169 _ rfl) ?_
  refine rx_o_lcmp (C _) (okm.1 170 _ rfl) ?_
  rcases rx_lg 0 r with hr | hr
  · rw [show rx_lcmp (r, r) ((((0 : Fin 2) : Nat) : Int), (((0 : Fin 2) : Nat) : Int)) = (1, 1) from wx_lc1 (q := (r, r)) hr]
    refine rx_o_if (C _) (okm.1 171 _ rfl) (t := false) rfl (fun z => by cases z) (fun _ => ?_)
    obtain ⟨⟨v1, e1, m1⟩, v2, e2, m2⟩ := hLH ks hs
    refine rx_o_aload_n (C _) (okm.1 174 _ rfl) rfl rfl ?_
    refine rx_o_iload (C _) (okm.1 175 _ rfl) rfl rfl ?_
    refine wx_callV (u1 := u0) (X1 := X) (as := [.inl ((ks : Int), (ks : Int))]) (r := []) (v1 := some (.inl v1)) (o := wx_r 28) (a := 28) (n := 1) C hsb (by omega) (okm.1 177 _ rfl) rfl rx_x130 hRm hm rfl rfl (by decide) rfl rec28 m1 ?_
    have take : rx_Go p l e R s m args below meth c Q D (rx_AW wr ad0 s.heap.size) (rx_BW wr ad0 s.heap.size) (wx_su sb tt (u0)) ad0 rx_m155 193 X (wx_lo9 g wx_pos r (some (.inl ((ks : Int), (ks : Int))))) [] cells slots := by
      refine rx_o_aload_n (C _) (okm.1 193 _ rfl) rfl rfl ?_
      rw [hX]
      refine wx_getfield C hsb hΦ (h := h) (okm.1 194 _ rfl) (Or.inl rfl) (w := wx_r 32) (a := 28) (n := 1) rfl (fun i h1 h2 => ?_) ?_
      · have e : i = 28 := by omega
        subst e
        obtain ⟨fs, w1, w2⟩ := h28
        refine ⟨_, ?_, rfl, rx_vi_rf⟩
        unfold wx_fld
        rw [w1]
        exact w2
      refine rx_o_iload (C _) (okm.1 197 _ rfl) rfl rfl ?_
      refine rx_o_dup2 (C _) (okm.1 199 _ rfl) rfl rfl ?_
      have hz : ∀ z : Int, ((ks : Int), (ks : Int)).1 ≤ z → z ≤ ((ks : Int), (ks : Int)).2 → ([.inl rx_top, .inl rx_top, .inl rx_top, .inl rx_top, .inl rx_top, .inl rx_top] : List rx_V)[z.toNat]? = some (.inl rx_top) := by
        intro z z1 z2
        have z1 : (ks : Int) ≤ z := z1
        have z2 : z ≤ (ks : Int) := z2
        have e : z.toNat = ks := by omega
        rw [e]
        match ks, hs with
        | 0, _ => rfl
        | 1, _ => rfl
        | 2, _ => rfl
        | 3, _ => rfl
        | 4, _ => rfl
        | 5, _ => rfl
        | _ + 6, hs => omega
      refine wx_iaload C hsb hΦ (okm.1 200 _ rfl) h32 (by show 0 ≤ (ks : Int); omega) (w := .inl rx_top) (fun z z1 z2 => ⟨_, hz z z1 z2, rfl, rx_vi_rf⟩) ?_
      refine rx_o_iconst (C _) (okm.1 201 _ rfl) (by decide) (by decide) ?_
      refine rx_o_iadd (C _) (okm.1 202 _ rfl) ?_
      refine wx_iastore C hsb hΦ hwr (okm.1 203 _ rfl) h32 (by show 0 ≤ (ks : Int); omega) (by show (ks : Int) < 6; omega) (fun z z1 z2 => ⟨_, hz z z1 z2, rfl, rx_vi_of rfl⟩) ?_
      rw [← hX]
      refine rx_o_lload (C _) (okm.1 204 _ rfl) rfl ?_
      refine rx_o_lconst (C _) (okm.1 206 _ rfl) ?_
      refine rx_o_lsub (C _) (okm.1 207 _ rfl) ?_
      rw [show rx_i64 (rx_sub (r, r) ((((1 : Fin 2) : Nat) : Int), (((1 : Fin 2) : Nat) : Int))) = (r - 1, r - 1) from wx_i64m hr hr1]
      refine rx_o_lstore (C _) (okm.1 208 _ rfl) rfl (show 6 + 1 < 9 by decide) ?_
      exact nx (r - 1) (k2 hr)
    have skip : ¬ ks = s0 → rx_Go p l e R s m args below meth c Q D (rx_AW wr ad0 s.heap.size) (rx_BW wr ad0 s.heap.size) (wx_su sb tt (u0)) ad0 rx_m155 210 X (wx_lo9 g wx_pos r (some (.inl ((ks : Int), (ks : Int))))) [] cells slots := fun h0 => nx r (k1 (Or.inr h0))
    have second : rx_Go p l e R s m args below meth c Q D (rx_AW wr ad0 s.heap.size) (rx_BW wr ad0 s.heap.size) (wx_su sb tt (u0)) ad0 rx_m155 183 X (wx_lo9 g wx_pos r (some (.inl ((ks : Int), (ks : Int))))) [] cells slots := by
      refine rx_o_aload_n (C _) (okm.1 183 _ rfl) rfl rfl ?_
      refine rx_o_iload (C _) (okm.1 184 _ rfl) rfl rfl ?_
      refine rx_o_iload_n (C _) (okm.1 186 _ rfl) rfl rfl ?_
      refine wx_callV (u1 := u0) (X1 := X) (as := [.inl ((ks : Int), (ks : Int)), .inl (g, g)]) (r := []) (v1 := some (.inl v2)) (o := wx_r 28) (a := 28) (n := 1) C hsb (by omega) (okm.1 187 _ rfl) rfl rx_x131 hRm hm rfl rfl (by decide) rfl rec28 m2 ?_
      by_cases h0 : ks = s0
      · rw [e2 h0]
        exact rx_o_if (C _) (okm.1 190 _ rfl) (t := false) rfl (fun z => by cases z) (fun _ => take)
      · exact wx_if C (okm.1 190 _ rfl) rfl (fun _ => skip h0) (fun _ => take)
    by_cases h0 : ks = s0
    · rw [e1 h0]
      exact rx_o_if (C _) (okm.1 180 _ rfl) (t := false) rfl (fun z => by cases z) (fun _ => second)
    · exact wx_if C (okm.1 180 _ rfl) rfl (fun _ => skip h0) (fun _ => second)
  · refine wx_if C (okm.1 171 _ rfl) (wx_lc0 hr) (fun _ => nx r (k1 (Or.inl hr))) (fun z => by rcases z with z | z <;> cases z)
end WXS
section WXS
variable {p : Program} {l : Launch} {e : Env} {R : Room} {s : State} {m : MethodId} {args : Array Value} {below : List Frame} {meth : Method} {c : Code} {Q : State → Prop} {D : va_G} {A B : Nat → Prop} {wr : Bool} {sb ad0 : List Nat} {tt : Nat} {ro : List (List rx_V)} {mt : rx_MT} {xM : List rx_MT} {cells slots : Nat} {n u0 : Nat} {X X0 : rx_H} {g : Int}
theorem wx_lret (C : ∀ u, rx_Cx p s m args meth c D (rx_AW wr ad0 s.heap.size) (rx_BW wr ad0 s.heap.size) wr (wx_su sb tt u) ro mt) (hsb : sb.length = 20) (hmt : mt = rx_m155) (hxM : xM = rx_xM) (hQ : Q = MQ below (rx_Qc wr D (wx_su sb tt (u0 + 0)) ad0 X0 none s.heap.size) args s cells slots (rx_AW wr ad0 s.heap.size)) (hn : rx_HS X X0) {L : rx_F} : rx_Go p l e R s m args below meth c Q D (rx_AW wr ad0 s.heap.size) (rx_BW wr ad0 s.heap.size) (wx_su sb tt (u0)) ad0 mt 219 X L [] cells slots := by
  subst hmt
  subst hxM
  rw [hQ]
  exact wx_RT (xM := rx_xM) (u0 := u0) (d := 0) C hsb (rx_all 155 _ rx_x155) (Nat.le_refl _) wx_sem_rf rfl (Or.inr (Or.inr (Or.inr (Or.inl ⟨rfl, rfl, rfl⟩)))) hn
theorem wx_loop {s0 : Nat} {h : rx_H} (C : ∀ u, rx_Cx p s m args meth c D (rx_AW wr ad0 s.heap.size) (rx_BW wr ad0 s.heap.size) wr (wx_su sb tt u) ro mt) (hwr : wr = true) (hsb : sb.length = 20) (hmt : mt = rx_m155) (hxM : xM = rx_xM) (hro : ro = rx_ro) (hRm : R.frames = mt.2.2.2.2.2.2.1 ∧ R.locals = mt.2.2.2.2.2.2.2.1) (hm : cells ≤ R.cells ∧ slots ≤ R.slots) (hX : X = wx_fill n h) (h28 : ∃ fs, h[28]? = some (.inl (11, fs)) ∧ fs[5]? = some (wx_r 32)) (h32 : h[32]? = some (.inr (0, [.inl rx_top, .inl rx_top, .inl rx_top, .inl rx_top, .inl rx_top, .inl rx_top]))) (hLH : wx_LH l wr X D sb tt u0 g s0) (hs0 : s0 < 6)
    (hQ : Q = MQ below (rx_Qc wr D (wx_su sb tt (u0 + 0)) ad0 X0 none s.heap.size) args s cells slots (rx_AW wr ad0 s.heap.size)) (hn : rx_HS X X0) :
    ∀ (N : Nat) (r : Int), r ≤ (N : Int) → r ≤ 9223372036854775807 → rx_Go p l e R s m args below meth c Q D (rx_AW wr ad0 s.heap.size) (rx_BW wr ad0 s.heap.size) (wx_su sb tt (u0)) ad0 mt 143 X (wx_lo9 g wx_pos r none) [] cells slots := by
  have fin : ∀ {L : rx_F}, rx_Go p l e R s m args below meth c Q D (rx_AW wr ad0 s.heap.size) (rx_BW wr ad0 s.heap.size) (wx_su sb tt (u0)) ad0 mt 219 X L [] cells slots := fun {L} => wx_lret C hsb hmt hxM hQ hn
  intro N
  induction N with
  | zero =>
    intro r h1 h2
    subst hmt
    subst hxM
    have okm := rx_all 155 _ rx_x155
    refine rx_o_lload (C _) (okm.1 143 _ rfl) rfl ?_
    refine rx_o_lconst (C _) (okm.1 145 _ rfl) ?_
    refine rx_o_lcmp (C _) (okm.1 146 _ rfl) ?_
    exact wx_if C (okm.1 147 _ rfl) (wx_lc0 (by omega)) (fun _ => fin) (fun z => by rcases z with z | z <;> cases z)
  | succ N ih =>
    intro r h1 h2
    have turns : 0 < r → ∀ j ks : Nat, ks + j = 6 → ∀ r' : Int, r' ≤ r → (r' < r ∨ ks ≤ s0) → rx_Go p l e R s m args below meth c Q D (rx_AW wr ad0 s.heap.size) (rx_BW wr ad0 s.heap.size) (wx_su sb tt (u0)) ad0 mt 160 X (wx_lo9 g wx_pos r' (some (.inl ((ks : Int), (ks : Int))))) [] cells slots := by
      intro hr j
      induction j with
      | zero =>
        intro ks hs r' hr' hor
        have hA := ih r' (by omega) (by omega)
        subst hmt
        subst hxM
        have okm := rx_all 155 _ rx_x155
        have e6 : ks = 6 := by omega
        subst e6
        refine rx_o_iload (C _) (okm.1 160 _ rfl) rfl rfl ?_
        refine rx_o_bipush (C _) (okm.1 162 _ rfl) (by decide) (by decide) ?_
        refine rx_o_icmp (C _) (okm.1 164 _ rfl) (t := true) rfl (fun _ => ?_) (fun z => by cases z)
        refine rx_o_goto (C _) (okm.1 216 _ rfl) ?_
        refine (fun hL => wx_mono hsb (Nat.le_refl _) rx_HS_rf hL rx_SS_rf hA) ⟨rfl, fun i y hy => ?_⟩
        match i, hy with
        | 0, hy => exact ⟨y, hy, rx_vi_rf⟩
        | 1, hy => exact ⟨y, hy, rx_vi_rf⟩
        | 2, hy => exact ⟨y, hy, rx_vi_rf⟩
        | 3, hy => exact ⟨y, hy, rx_vi_rf⟩
        | 4, hy => exact ⟨y, hy, rx_vi_rf⟩
        | 5, hy => exact ⟨y, hy, rx_vi_rf⟩
        | 6, hy => exact ⟨y, hy, rx_vi_rf⟩
        | 7, hy => exact ⟨y, hy, rx_vi_rf⟩
        | 8, hy => cases hy
        | _ + 9, hy => cases hy
      | succ j ihj =>
        intro ks hs r' hr' hor
        exact wx_turn C hwr hsb hmt hro hRm hm hX h28 h32 hLH (by omega) (by omega) (fun hz => ihj (ks + 1) (by omega) r' hr' (by omega)) (fun hz => ihj (ks + 1) (by omega) (r' - 1) (by omega) (by omega))
    have turn0 : 0 < r → rx_Go p l e R s m args below meth c Q D (rx_AW wr ad0 s.heap.size) (rx_BW wr ad0 s.heap.size) (wx_su sb tt (u0)) ad0 mt 160 X (wx_lo9 g wx_pos r (some (.inl (0, 0)))) [] cells slots := fun hr => turns hr 6 0 rfl r (Int.le_refl _) (Or.inr (Nat.zero_le _))
    subst hmt
    subst hxM
    have okm := rx_all 155 _ rx_x155
    refine rx_o_lload (C _) (okm.1 143 _ rfl) rfl ?_
    refine rx_o_lconst (C _) (okm.1 145 _ rfl) ?_
    refine rx_o_lcmp (C _) (okm.1 146 _ rfl) ?_
    rcases rx_lg 0 r with hr | hr
    · rw [show rx_lcmp (r, r) ((((0 : Fin 2) : Nat) : Int), (((0 : Fin 2) : Nat) : Int)) = (1, 1) from wx_lc1 (q := (r, r)) hr]
      refine rx_o_if (C _) (okm.1 147 _ rfl) (t := false) rfl (fun z => by cases z) (fun _ => ?_)
      refine rx_o_lload (C _) (okm.1 150 _ rfl) rfl ?_
      refine rx_o_lconst (C _) (okm.1 152 _ rfl) ?_
      refine rx_o_lcmp (C _) (okm.1 153 _ rfl) ?_
      refine rx_o_if (C _) (okm.1 154 _ rfl) (t := false) rfl (fun z => by cases z) (fun _ => ?_)
      refine rx_o_iconst (C _) (okm.1 157 _ rfl) (by decide) (by decide) ?_
      exact rx_o_istore (C _) (okm.1 158 _ rfl) rfl (show 8 < 9 by decide) (turn0 hr)
    · exact wx_if C (okm.1 147 _ rfl) (wx_lc0 hr) (fun _ => fin) (fun z => by rcases z with z | z <;> cases z)
/-- all is not above 0: nothing more to do -/
theorem wx_lnone {L : rx_F} {a r : Int} (C : ∀ u, rx_Cx p s m args meth c D (rx_AW wr ad0 s.heap.size) (rx_BW wr ad0 s.heap.size) wr (wx_su sb tt u) ro mt) (hsb : sb.length = 20) (hmt : mt = rx_m155) (hxM : xM = rx_xM) (hQ : Q = MQ below (rx_Qc wr D (wx_su sb tt (u0 + 0)) ad0 X0 none s.heap.size) args s cells slots (rx_AW wr ad0 s.heap.size)) (hn : rx_HS X X0) (h6 : L[6]? = some (some (.inr (.inl (r, r))))) (h4 : L[4]? = some (some (.inr (.inl (a, a))))) (ha : a ≤ 0) : rx_Go p l e R s m args below meth c Q D (rx_AW wr ad0 s.heap.size) (rx_BW wr ad0 s.heap.size) (wx_su sb tt (u0)) ad0 mt 143 X L [] cells slots := by
  have fin : ∀ {L : rx_F}, rx_Go p l e R s m args below meth c Q D (rx_AW wr ad0 s.heap.size) (rx_BW wr ad0 s.heap.size) (wx_su sb tt (u0)) ad0 mt 219 X L [] cells slots := fun {L} => wx_lret C hsb hmt hxM hQ hn
  subst hmt
  subst hxM
  have okm := rx_all 155 _ rx_x155
  refine rx_o_lload (C _) (okm.1 143 _ rfl) h6 ?_
  refine rx_o_lconst (C _) (okm.1 145 _ rfl) ?_
  refine rx_o_lcmp (C _) (okm.1 146 _ rfl) ?_
  refine wx_if C (okm.1 147 _ rfl) rfl (fun _ => fin) (fun _ => ?_)
  refine rx_o_lload (C _) (okm.1 150 _ rfl) h4 ?_
  refine rx_o_lconst (C _) (okm.1 152 _ rfl) ?_
  refine rx_o_lcmp (C _) (okm.1 153 _ rfl) ?_
  exact wx_if C (okm.1 154 _ rfl) (wx_lc0 ha) (fun _ => fin) (fun z => by rcases z with z | z <;> cases z)
end WXS
/-! the first two loops, box by box -/
noncomputable def wx_oL : wx_Orc := wx_P rx_xM rx_ro wx_T 155 wx_dB wx_iB 600 4
def wx_one1 (o : Option (Option rx_V × Nat × Bool)) : Bool := match o with
  | some (some (.inl q), d, kp) => rx_eP q (1, 1) && (Nat.beq d 0 && kp)
  | _ => false
noncomputable def wx_s0 (g : Int) (h : rx_H) (s : Nat) : Bool := wx_one1 (wx_oL 130 h [wx_r 28, .inl ((s : Int), (s : Int))]) && wx_one1 (wx_oL 131 h [wx_r 28, .inl ((s : Int), (s : Int)), .inl (g, g)])
noncomputable def wx_lok (g : Int) (h : rx_H) (L : rx_F) : Bool := match L with
  | [some a0, some a1, some a2, _, some (.inr (.inl qa)), _, some (.inr (.inl _)), _, _] => rx_sb a0 (wx_r 28) && (rx_sb a1 (.inl (g, g)) && (rx_sb a2 (.inr (.inl rx_topL)) && (rx_le qa.2 0 || (wx_s0 g h 0 || (wx_s0 g h 1 || (wx_s0 g h 2 || (wx_s0 g h 3 || (wx_s0 g h 4 || wx_s0 g h 5))))))))
  | _ => false
noncomputable def wx_lck (g : Int) (h : rx_H) : Bool := match wx true wx_oL rx_ro wx_nb [] h 0 3000 rx_tb155 143 0 0 h (rx_ini [wx_r 28, .inl (g, g)] 9) [] with
  | some (some (d, L, st), none) => Nat.beq d 0 && (st.isEmpty && wx_lok g h L)
  | _ => false
theorem wx_one1_ok {o : Option (Option rx_V × Nat × Bool)} (h : wx_one1 o = true) : o = some (some (.inl (1, 1)), 0, true) := by
  unfold wx_one1 at h
  split at h
  · rename_i q d kp
    obtain ⟨h1, h2⟩ := rx_and2 h
    obtain ⟨h2, h3⟩ := rx_and2 h2
    rw [rx_eP_ok h1, Nat.eq_of_beq_eq_true h2, h3]
  · cases h
theorem wx_in5 {s : Nat} (h : s < 6) : rx_vi (.inl ((s : Int), (s : Int))) (.inl (0, 5)) := by
  refine rx_vi_of ?_
  show (rx_le 0 (s : Int) && rx_le (s : Int) 5) = true
  rw [(rx_le_iff _ _).mpr (by omega), (rx_le_iff _ _).mpr (by omega)]
  rfl
theorem wx_inT {s : Nat} (h : s < 6) : rx_vi (.inl ((s : Int), (s : Int))) (.inl rx_top) := by
  refine rx_vi_of ?_
  show (rx_le (-2147483648) (s : Int) && rx_le (s : Int) 2147483647) = true
  rw [(rx_le_iff _ _).mpr (by omega), (rx_le_iff _ _).mpr (by omega)]
  rfl
theorem wx_LH_of {l : Launch} {n : Nat} {h : rx_H} {g : Int} {s0 : Nat} (hT : wx_TT l rx_xM rx_ro wx_T 155 (wx_X n)) (hn : rx_HS (wx_fill n h) (wx_X n)) (hg : 0 ≤ g ∧ g ≤ 2) (hs : wx_s0 g h s0 = true) {D : va_G} {sb : List Nat} {tt u : Nat} (hsb : sb.length = 20) (htt : tt ≤ 3000) (hu : u ≤ wx_bd) : wx_LH l true (wx_fill n h) D sb tt u g s0 := by
  have hO : wx_HO true rx_xM l wx_oL rx_ro (wx_fill n) h := wx_HO_Pk (by decide) rx_hob rx_all (wx_Ph_fill n) hT 4 h true hn
  obtain ⟨h1, h2⟩ := rx_and2 hs
  have h1 := wx_one1_ok h1
  have h2 := wx_one1_ok h2
  have hgT : rx_vi (.inl (g, g)) (.inl rx_top) := by
    refine rx_vi_of ?_
    show (rx_le (-2147483648) g && rx_le g 2147483647) = true
    rw [(rx_le_iff _ _).mpr (by omega), (rx_le_iff _ _).mpr (by omega)]
    rfl
  intro s hs6
  constructor
  · by_cases e : s = s0
    · subst e
      exact ⟨(1, 1), fun _ => rfl, fun ad sz => hO _ _ h _ _ 0 true rx_x130 h1 rx_HS_rf D sb tt u hsb htt hu ad sz⟩
    · refine ⟨(0, 1), fun z => absurd z e, fun ad sz => ?_⟩
      exact wx_TE_use (hT 130 _ (by decide) rx_x130 ([wx_r 28, .inl (0, 5)], some (.inl (0, 1)), 0, true) List.mem_cons_self) true (Or.inl rfl) (rx_SS_cons (rx_SS_cons rx_SS_rf (wx_in5 hs6)) rx_vi_rf) hn (t := wx_X n) (Or.inl rfl) D sb tt u hsb htt hu ad sz
  · by_cases e : s = s0
    · subst e
      exact ⟨(1, 1), fun _ => rfl, fun ad sz => hO _ _ h _ _ 0 true rx_x131 h2 rx_HS_rf D sb tt u hsb htt hu ad sz⟩
    · refine ⟨(0, 1), fun z => absurd z e, fun ad sz => ?_⟩
      exact wx_TE_use (hT 131 _ (by decide) rx_x131 ([wx_r 28, .inl rx_top, .inl rx_top], some (.inl (0, 1)), 0, true) List.mem_cons_self) true (Or.inl rfl) (rx_SS_cons (rx_SS_cons (rx_SS_cons rx_SS_rf hgT) (wx_inT hs6)) rx_vi_rf) hn (t := wx_X n) (Or.inl rfl) D sb tt u hsb htt hu ad sz
theorem wx_lok_ok {g : Int} {h : rx_H} {L : rx_F} (hc : wx_lok g h L = true) : ∃ (qa qr : Int × Int), L[4]? = some (some (.inr (.inl qa))) ∧ L[6]? = some (some (.inr (.inl qr))) ∧ (qa.2 ≤ 0 ∨ ∃ s0, s0 < 6 ∧ wx_s0 g h s0 = true) ∧ ∀ r a : Int, 1 ≤ a → a ≤ 9223372036854775807 → rx_LS2 ((L.set 6 (some (.inr (.inl (r, r))))).set 4 (some (.inr (.inl (a, a))))) (wx_lo9 g wx_pos r none) := by
  unfold wx_lok at hc
  split at hc
  · rename_i a0 a1 a2 b3 qa b5 qr b7 b8
    obtain ⟨h0, hc⟩ := rx_and2 hc
    obtain ⟨h1, hc⟩ := rx_and2 hc
    obtain ⟨h2, hc⟩ := rx_and2 hc
    refine ⟨qa, qr, rfl, rfl, ?_, fun r a ha1 ha2 => ⟨rfl, fun i y hy => ?_⟩⟩
    · rcases rx_or2 hc with hc | hc
      · exact Or.inl (rx_le_t hc)
      · refine Or.inr ?_
        rcases rx_or2 hc with hc | hc
        · exact ⟨0, by decide, hc⟩
        · rcases rx_or2 hc with hc | hc
          · exact ⟨1, by decide, hc⟩
          · rcases rx_or2 hc with hc | hc
            · exact ⟨2, by decide, hc⟩
            · rcases rx_or2 hc with hc | hc
              · exact ⟨3, by decide, hc⟩
              · rcases rx_or2 hc with hc | hc
                · exact ⟨4, by decide, hc⟩
                · exact ⟨5, by decide, hc⟩
    · match i, hy with
      | 0, hy => cases hy; exact ⟨a0, rfl, rx_vi_of h0⟩
      | 1, hy => cases hy; exact ⟨a1, rfl, rx_vi_of h1⟩
      | 2, hy => cases hy; exact ⟨a2, rfl, rx_vi_of h2⟩
      | 3, hy => cases hy
      | 4, hy =>
        cases hy
        refine ⟨.inr (.inl (a, a)), rfl, rx_vi_of ?_⟩
        show (rx_le 1 a && rx_le a 9223372036854775807) = true
        rw [(rx_le_iff _ _).mpr ha1, (rx_le_iff _ _).mpr ha2]
        rfl
      | 5, hy => cases hy
      | 6, hy => cases hy; exact ⟨.inr (.inl (r, r)), rfl, rx_vi_rf⟩
      | 7, hy => cases hy
      | 8, hy => cases hy
      | _ + 9, hy => cases hy
  · cases hc
section WXS
variable {p : Program} {l : Launch} {e : Env} {R : Room} {s : State} {m : MethodId} {args : Array Value} {below : List Frame} {meth : Method} {c : Code} {Q : State → Prop} {D : va_G} {A B : Nat → Prop} {wr : Bool} {sb ad0 : List Nat} {tt : Nat} {ro : List (List rx_V)} {mt : rx_MT} {xM : List rx_MT} {cells slots : Nat} {n u0 : Nat} {g : Int} {h : rx_H}
theorem wx_lbox (C : ∀ u, rx_Cx p s m args meth c D (rx_AW wr ad0 s.heap.size) (rx_BW wr ad0 s.heap.size) wr (wx_su sb tt u) ro mt) (hwr : wr = true) (hsb : sb.length = 20) (htt : tt ≤ 3000) (hmt : mt = rx_m155) (hxM : xM = rx_xM) (hro : ro = rx_ro) (hRm : R.frames = mt.2.2.2.2.2.2.1 ∧ R.locals = mt.2.2.2.2.2.2.2.1) (hm : cells ≤ R.cells ∧ slots ≤ R.slots) (hU : u0 ≤ wx_bd) (hT : wx_TT l rx_xM rx_ro wx_T 155 (wx_X n)) (hn : rx_HS (wx_fill n h) (wx_X n)) (h28 : ∃ fs, h[28]? = some (.inl (11, fs)) ∧ fs[5]? = some (wx_r 32)) (h32 : h[32]? = some (.inr (0, [.inl rx_top, .inl rx_top, .inl rx_top, .inl rx_top, .inl rx_top, .inl rx_top]))) (hg : 0 ≤ g ∧ g ≤ 2)
    (hQ : Q = MQ below (rx_Qc wr D (wx_su sb tt (u0 + 0)) ad0 (wx_X n) none s.heap.size) args s cells slots (rx_AW wr ad0 s.heap.size)) (hc : wx_lck g h = true) : rx_Go p l e R s m args below meth c Q D (rx_AW wr ad0 s.heap.size) (rx_BW wr ad0 s.heap.size) (wx_su sb tt (u0)) ad0 mt 0 (wx_fill n h) (rx_ini [wx_r 28, .inl (g, g)] 9) [] cells slots := by
  unfold wx_lck at hc
  split at hc
  · rename_i d L st hw
    obtain ⟨e1, hc⟩ := rx_and2 hc
    obtain ⟨e2, hc⟩ := rx_and2 hc
    have e1 := Nat.eq_of_beq_eq_true e1
    have e2 : st = [] := by
      cases st with
      | nil => rfl
      | cons a t => cases e2
    subst e1
    subst e2
    obtain ⟨qa, qr, g4, g6, hor, hls⟩ := wx_lok_ok hc
    have l6 : 6 < L.length := (List.getElem?_eq_some_iff.mp g6).1
    have at143 : rx_Go p l e R s m args below meth c Q D (rx_AW wr ad0 s.heap.size) (rx_BW wr ad0 s.heap.size) (wx_su sb tt (u0 + 0)) ad0 mt 143 (wx_fill n h) L [] cells slots := by
      intro ad ws H locs ls vs a1 a2 a3 a4 a5 a6 a7
      obtain ⟨r, -, -, r1, r2, a6⟩ := wx_locL a6 g6
      obtain ⟨a, b1, b2, -, b4, a6⟩ := wx_locL a6 (i := 4) (by rw [List.getElem?_set_ne (by decide)]; exact g4)
      rcases rx_lg 0 a with ha | ha
      · rcases hor with hor | ⟨s0, w1, w2⟩
        · omega
        · subst hwr
          exact wx_loop C rfl hsb hmt hxM hro hRm hm rfl h28 h32 (wx_LH_of hT hn hg w2 hsb htt hU) w1 hQ hn r.toNat r (by omega) r2 ad ws H locs ls vs a1 a2 a3 a4 a5 (rx_LS_W (hls r a (by omega) b4) a6) a7
      · exact wx_lnone C hsb hmt hxM hQ hn (by rw [List.getElem?_set_ne (by decide), List.getElem?_set_self l6]) (List.getElem?_set_self (by rw [List.length_set]; omega)) ha ad ws H locs ls vs a1 a2 a3 a4 a5 a6 a7
    subst hmt
    subst hxM
    subst hro
    subst hwr
    have hO : wx_HO true rx_xM l wx_oL rx_ro (wx_fill n) h := wx_HO_Pk (by decide) rx_hob rx_all (wx_Ph_fill n) hT 4 h true hn
    exact wx_ok (u0 := u0) (dm := 0) C hsb (wx_Ph_fill n) (rx_all 155 _ rx_x155) rx_hob hRm hm hU hO wx_HB_nb (Or.inl rfl) htt (PV := fun _ => False) (fun _ _ _ _ z => z) (fun _ _ _ _ _ _ _ z => z.elim) 3000 143 0 0 h _ [] _ hw rx_HS_rf (fun s' hs' => by cases hs'; exact at143) (fun v' hv' => by cases hv')
  · cases hc
end WXS
noncomputable def wx_lall (g x y z : Nat) : Bool := (wx_tree (wx_grp g x y z) wx_sta).all fun st => rx_fl ((wx_Kst.set 39 (.inr (1, wx_clo x y z))).set 29 (.inr (0, st))) fun h => wx_lck (g : Int) h
