/-! BY HAND: LOOPS -/
theorem wx_entry {l : Launch} {wr : Bool} {xM : List rx_MT} {ro : List (List rx_V)} (hro : ro.length ≤ 20) {mt : rx_MT} (okm : rx_MOk xM mt) {X X1 : rx_H} {as : List rx_V} {v : Option rx_V} (hlen : (rx_arg as).length ≤ mt.2.2.1) {D : va_G} {sb : List Nat} {tt u u1 : Nat} (hsb : sb.length = 20) {ad : List Nat} {sz : Nat}
    (hgo : ∀ (p : Program) (e : Env) (s : State) (m : MethodId) (args : Array Value) (below : List Frame) (meth : Method) (c : Code), s.heap.size = sz → (∀ u, rx_Cx p s m args meth c D (rx_AW wr ad s.heap.size) (rx_BW wr ad s.heap.size) wr (wx_su sb tt u) ro mt) → rx_Go p l e (rx_rm mt 0 0) s m args below meth c (MQ below (rx_Qc wr D (wx_su sb tt u1) ad X1 v s.heap.size) args s 0 0 (rx_AW wr ad s.heap.size)) D (rx_AW wr ad s.heap.size) (rx_BW wr ad s.heap.size) (wx_su sb tt u) ad mt 0 X (rx_ini as mt.2.2.1) [] 0 0) :
    Met l mt.1 (rx_ws mt) (rx_rm mt 0 0) (rx_Pc wr D (wx_su sb tt u) ad ro X as sz) (rx_Qc wr D (wx_su sb tt u1) ad X1 v sz) 0 0 (rx_AW wr ad sz) := by
  refine Met.ofW (cc := mt.2.1) (maxL := mt.2.2.1) (ret := mt.2.2.2.1) okm.2.2 rfl ?_
  intro p e s m args below meth c s₁ B hml hv
  obtain ⟨vs, rfl, hS, rfl, hK, hN, hRO, hTW, ws, hW, hP, hD⟩ := hv
  have C0 : rx_Cx p s m vs.toArray meth c D (rx_AW wr ad s.heap.size) (rx_BW wr ad s.heap.size) wr (wx_su sb tt u) ro mt := ⟨B.exec, B.bytes, hml, by rw [okm.2.1]; exact findClass_of_methodNamed B.named, fun w hw => atoms_spec (ws := rx_ws mt) B.pre w (List.mem_cons_of_mem _ hw), B.returns, B.notSynchronized, (name_of_methodNamed B.named B.method).1, hK, fun q h => Or.inr h, hRO, hN, rx_BAW, hTW⟩
  have C := wx_C_su hsb hro C0
  have hl := lv_entry vs (n := mt.2.2.1) (by rw [rx_sl_len hS]; exact hlen)
  rw [lg_entry_eq]
  generalize (lg_sl vs ++ List.replicate (mt.2.2.1 - (lg_sl vs).length) Slot.unset).toArray = ls at hl ⊢
  refine hgo p e s m vs.toArray below meth c rfl C ad ws s.heap [] ls [] (List.prefix_refl _) hW hP ?_ va_S.rf (rx_ini_L hS hlen hl) trivial
  refine hD.weaken (fun k q hk _ => rx_AB (Or.inl ?_))
  rw [← hW.1]
  exact List.mem_map.mpr ⟨q, List.mem_of_getElem? hk, rfl⟩
theorem wx_i32k {k : Nat} (h : k ≤ 1000000) : rx_i32 (rx_add ((k : Int), (k : Int)) (1, 1)) = (((k + 1 : Nat) : Int), ((k + 1 : Nat) : Int)) := by
  unfold rx_i32
  have e : rx_add ((k : Int), (k : Int)) (1, 1) = (((k + 1 : Nat) : Int), ((k + 1 : Nat) : Int)) := by
    show ((k : Int) + 1, (k : Int) + 1) = _
    rw [show ((k + 1 : Nat) : Int) = (k : Int) + 1 by omega]
  rw [e, show rx_le (-2147483648) ((((k + 1 : Nat) : Int), ((k + 1 : Nat) : Int)) : Int × Int).1 = true from (rx_le_iff _ _).mpr (by show (-2147483648 : Int) ≤ ((k + 1 : Nat) : Int); omega), show rx_le ((((k + 1 : Nat) : Int), ((k + 1 : Nat) : Int)) : Int × Int).2 2147483647 = true from (rx_le_iff _ _).mpr (by show ((k + 1 : Nat) : Int) ≤ 2147483647; omega)]
  rfl
theorem wx_ge1000 {k : Nat} {t : Option Bool} (h : rx_cmp .ge ((k : Int), (k : Int)) (1, 1000) = t) (ht : t = some false ∨ t = none) : k < 1000 := by
  rcases Nat.lt_or_ge k 1000 with h1 | h1
  · exact h1
  · have e : rx_cmp .ge ((k : Int), (k : Int)) (1, 1000) = some true := by
      show (bif rx_le 1000 (k : Int) then some true else bif rx_le 1 (k : Int) then none else some false) = _
      rw [(rx_le_iff _ _).mpr (by omega)]
      rfl
    rw [e] at h
    subst h
    rcases ht with ht | ht <;> cases ht
theorem wx_k1000 {k : Nat} (h : k ≤ 1000) : wx_sem (some (.inl ((k : Int), (k : Int)))) (some (.inl (0, 1000))) := by
  refine wx_sem_lo (show wx_lo (some _) (some _) from rx_vi_of ?_)
  show (rx_le 0 (k : Int) && rx_le (k : Int) 1000) = true
  rw [(rx_le_iff _ _).mpr (by omega), (rx_le_iff _ _).mpr (by omega)]
  rfl
def wx_r (k : Nat) : rx_V := .inr (.inr (.inl (some k)))
section WXS
variable {p : Program} {l : Launch} {e : Env} {R : Room} {s : State} {m : MethodId} {args : Array Value} {below : List Frame} {meth : Method} {c : Code} {Q : State → Prop} {D : va_G} {A B : Nat → Prop} {wr : Bool} {sb ad0 : List Nat} {tt : Nat} {ro : List (List rx_V)} {mt : rx_MT} {xM : List rx_MT} {cells slots : Nat} {n u0 : Nat}
theorem wx_tkC (C : ∀ u, rx_Cx p s m args meth c D (rx_AW wr ad0 s.heap.size) (rx_BW wr ad0 s.heap.size) wr (wx_su sb tt u) ro mt) (hwr : wr = true) (hsb : sb.length = 20) (htt : tt ≤ 3000) (hmt : mt = rx_m101) (hro : ro = rx_ro) (hRm : R.frames = mt.2.2.2.2.2.2.1 ∧ R.locals = mt.2.2.2.2.2.2.2.1) (hm : cells ≤ R.cells ∧ slots ≤ R.slots) (hU : u0 + 295000 ≤ wx_bd)
    (hQ : Q = MQ below (rx_Qc wr D (wx_su sb tt (u0 + 295000)) ad0 (wx_X n) (some (.inl (0, 1000))) s.heap.size) args s cells slots (rx_AW wr ad0 s.heap.size)) (hA : wx_TE l rx_ro (wx_X n) rx_m99 ([wx_r 0], none, 295, false)) :
    ∀ j k d : Nat, k + j = 1000 → d + j * 295 ≤ 295000 → rx_Go p l e R s m args below meth c Q D (rx_AW wr ad0 s.heap.size) (rx_BW wr ad0 s.heap.size) (wx_su sb tt (u0 + d)) ad0 mt 32 (wx_X n) [some (wx_r 0), some (.inl (1, 1000)), some (.inl rx_top), some (.inl ((k : Int), (k : Int)))] [] cells slots := by
  subst hmt
  subst hro
  have okm := rx_all 101 _ rx_x101
  have hΦ := wx_Ph_fill n
  intro j
  induction j with
  | zero =>
    intro k d hk hd
    refine rx_o_iload_n (C _) (okm.1 32 _ rfl) rfl rfl ?_
    refine rx_o_iload_n (C _) (okm.1 33 _ rfl) rfl rfl ?_
    refine wx_icmp C (okm.1 34 _ rfl) rfl (fun _ => ?_) (fun hz => absurd (wx_ge1000 rfl hz) (by omega))
    refine rx_o_iload_n (C _) (okm.1 58 _ rfl) rfl rfl ?_
    rw [hQ]
    exact wx_RT C hsb okm (by omega) (wx_k1000 (by omega)) rfl (Or.inl ⟨_, rfl, rfl, rfl, Or.inl rfl⟩) rx_HS_rf
  | succ j ih =>
    intro k d hk hd
    have fin : rx_Go p l e R s m args below meth c Q D (rx_AW wr ad0 s.heap.size) (rx_BW wr ad0 s.heap.size) (wx_su sb tt (u0 + d)) ad0 rx_m101 58 (wx_X n) [some (wx_r 0), some (.inl (1, 1000)), some (.inl rx_top), some (.inl ((k : Int), (k : Int)))] [] cells slots := by
      refine rx_o_iload_n (C _) (okm.1 58 _ rfl) rfl rfl ?_
      rw [hQ]
      exact wx_RT C hsb okm (by omega) (wx_k1000 (by omega)) rfl (Or.inl ⟨_, rfl, rfl, rfl, Or.inl rfl⟩) rx_HS_rf
    refine rx_o_iload_n (C _) (okm.1 32 _ rfl) rfl rfl ?_
    refine rx_o_iload_n (C _) (okm.1 33 _ rfl) rfl rfl ?_
    refine wx_icmp C (okm.1 34 _ rfl) rfl (fun _ => fin) (fun hz => ?_)
    refine rx_o_aload_n (C _) (okm.1 37 _ rfl) rfl rfl ?_
    refine wx_getfield C hsb hΦ (h := wx_Kst) (okm.1 38 _ rfl) (Or.inl rfl) (w := wx_r 5) rfl (fun i h1 h2 => ?_) ?_
    · have e : i = 0 := by omega
      subst e
      exact ⟨_, rfl, rfl, rx_vi_rf⟩
    refine wx_getfield C hsb hΦ (h := wx_Kst) (okm.1 41 _ rfl) (Or.inl rfl) (w := .inl rx_top) rfl (fun i h1 h2 => ?_) ?_
    · have e : i = 5 := by omega
      subst e
      exact ⟨_, rfl, rfl, rx_vi_rf⟩
    refine rx_o_iload_n (C _) (okm.1 44 _ rfl) rfl rfl ?_
    refine wx_icmp C (okm.1 45 _ rfl) rfl (fun _ => fin) (fun _ => ?_)
    refine rx_o_aload_n (C _) (okm.1 48 _ rfl) rfl rfl ?_
    refine wx_callV (u1 := u0 + (d + 295)) (X1 := wx_X n) (as := []) (r := []) (v1 := none) (o := wx_r 0) (a := 0) (n := 1) C hsb (by omega) (okm.1 49 _ rfl) rfl rx_x99 hRm hm rfl rfl (by decide) rfl (fun i h1 h2 => ?_) (fun ad sz => ?_) ?_
    · have e : i = 0 := by omega
      subst e
      exact ⟨_, wx_fill_get (h := wx_Kst) (a := 0) rfl⟩
    · have := wx_TE_use hA wr (Or.inl hwr) rx_SS_rf rx_HS_rf (t := wx_X n) (Or.inr rfl) D sb tt (u0 + d) hsb htt (by show u0 + d + 295 ≤ wx_bd; omega) ad sz
      rw [show u0 + (d + 295) = u0 + d + 295 by omega]
      exact this
    refine rx_o_iinc (C _) (okm.1 52 _ rfl) (by decide) (by decide) rfl rfl ?_
    rw [wx_i32k (by omega)]
    refine rx_o_goto (C _) (okm.1 55 _ rfl) ?_
    exact ih (k + 1) (d + 295) (by omega) (by omega)
theorem wx_tkM (C : ∀ u, rx_Cx p s m args meth c D (rx_AW wr ad0 s.heap.size) (rx_BW wr ad0 s.heap.size) wr (wx_su sb tt u) ro mt) (hwr : wr = true) (hsb : sb.length = 20) (htt : tt ≤ 3000) (hmt : mt = rx_m174) (hro : ro = rx_ro) (hRm : R.frames = mt.2.2.2.2.2.2.1 ∧ R.locals = mt.2.2.2.2.2.2.2.1) (hm : cells ≤ R.cells ∧ slots ≤ R.slots) (hU : u0 + 299000 ≤ wx_bd)
    (hQ : Q = MQ below (rx_Qc wr D (wx_su sb tt (u0 + 299000)) ad0 (wx_X n) (some (.inl (0, 1000))) s.heap.size) args s cells slots (rx_AW wr ad0 s.heap.size)) (hA : wx_TE l rx_ro (wx_X n) rx_m171 ([wx_r 28], none, 299, false)) (hB : wx_TE l rx_ro (wx_X n) rx_m172 ([wx_r 28], some (.inl rx_top), 0, true)) :
    ∀ j k d : Nat, k + j = 1000 → d + j * 299 ≤ 299000 → rx_Go p l e R s m args below meth c Q D (rx_AW wr ad0 s.heap.size) (rx_BW wr ad0 s.heap.size) (wx_su sb tt (u0 + d)) ad0 mt 28 (wx_X n) [some (wx_r 28), some (.inl (1, 1000)), some (.inl ((k : Int), (k : Int))), some (.inl rx_top)] [] cells slots := by
  subst hmt
  subst hro
  have okm := rx_all 174 _ rx_x174
  have hΦ := wx_Ph_fill n
  have rec28 : ∀ i, 28 ≤ i → i < 28 + 1 → ∃ fs, (wx_X n)[i]? = some (.inl (11, fs)) := by
    intro i h1 h2
    have e : i = 28 := by omega
    subst e
    exact ⟨_, wx_fill_get (h := wx_Kst) (a := 28) rfl⟩
  intro j
  induction j with
  | zero =>
    intro k d hk hd
    have fin : rx_Go p l e R s m args below meth c Q D (rx_AW wr ad0 s.heap.size) (rx_BW wr ad0 s.heap.size) (wx_su sb tt (u0 + d)) ad0 rx_m174 58 (wx_X n) [some (wx_r 28), some (.inl (1, 1000)), some (.inl ((k : Int), (k : Int))), some (.inl rx_top)] [] cells slots := by
      refine rx_o_iload_n (C _) (okm.1 58 _ rfl) rfl rfl ?_
      rw [hQ]
      exact wx_RT C hsb okm (by omega) (wx_k1000 (by omega)) rfl (Or.inl ⟨_, rfl, rfl, rfl, Or.inl rfl⟩) rx_HS_rf
    refine rx_o_aload_n (C _) (okm.1 28 _ rfl) rfl rfl ?_
    refine wx_getfield C hsb hΦ (h := wx_Kst) (okm.1 29 _ rfl) (Or.inl rfl) (w := .inl rx_top) rfl (fun i h1 h2 => ?_) ?_
    · have e : i = 28 := by omega
      subst e
      exact ⟨_, rfl, rfl, rx_vi_rf⟩
    refine wx_if C (okm.1 32 _ rfl) rfl (fun _ => fin) (fun _ => ?_)
    refine rx_o_iload_n (C _) (okm.1 35 _ rfl) rfl rfl ?_
    refine rx_o_iload_n (C _) (okm.1 36 _ rfl) rfl rfl ?_
    exact wx_icmp C (okm.1 37 _ rfl) rfl (fun _ => fin) (fun hz => absurd (wx_ge1000 rfl hz) (by omega))
  | succ j ih =>
    intro k d hk hd
    have fin : rx_Go p l e R s m args below meth c Q D (rx_AW wr ad0 s.heap.size) (rx_BW wr ad0 s.heap.size) (wx_su sb tt (u0 + d)) ad0 rx_m174 58 (wx_X n) [some (wx_r 28), some (.inl (1, 1000)), some (.inl ((k : Int), (k : Int))), some (.inl rx_top)] [] cells slots := by
      refine rx_o_iload_n (C _) (okm.1 58 _ rfl) rfl rfl ?_
      rw [hQ]
      exact wx_RT C hsb okm (by omega) (wx_k1000 (by omega)) rfl (Or.inl ⟨_, rfl, rfl, rfl, Or.inl rfl⟩) rx_HS_rf
    refine rx_o_aload_n (C _) (okm.1 28 _ rfl) rfl rfl ?_
    refine wx_getfield C hsb hΦ (h := wx_Kst) (okm.1 29 _ rfl) (Or.inl rfl) (w := .inl rx_top) rfl (fun i h1 h2 => ?_) ?_
    · have e : i = 28 := by omega
      subst e
      exact ⟨_, rfl, rfl, rx_vi_rf⟩
    refine wx_if C (okm.1 32 _ rfl) rfl (fun _ => fin) (fun _ => ?_)
    refine rx_o_iload_n (C _) (okm.1 35 _ rfl) rfl rfl ?_
    refine rx_o_iload_n (C _) (okm.1 36 _ rfl) rfl rfl ?_
    refine wx_icmp C (okm.1 37 _ rfl) rfl (fun _ => fin) (fun hz => ?_)
    refine rx_o_aload_n (C _) (okm.1 40 _ rfl) rfl rfl ?_
    refine wx_callV (u1 := u0 + d) (X1 := wx_X n) (as := []) (r := []) (v1 := some (.inl rx_top)) (o := wx_r 28) (a := 28) (n := 1) C hsb (by omega) (okm.1 41 _ rfl) rfl rx_x172 hRm hm rfl rfl (by decide) rfl rec28 (fun ad sz => ?_) ?_
    · exact wx_TE_use hB wr (Or.inl hwr) rx_SS_rf rx_HS_rf (t := wx_X n) (Or.inr rfl) D sb tt (u0 + d) hsb htt (by show u0 + d + 0 ≤ wx_bd; omega) ad sz
    refine rx_o_iload_n (C _) (okm.1 44 _ rfl) rfl rfl ?_
    refine wx_icmp C (okm.1 45 _ rfl) rfl (fun _ => fin) (fun _ => ?_)
    refine rx_o_aload_n (C _) (okm.1 48 _ rfl) rfl rfl ?_
    refine wx_callV (u1 := u0 + (d + 299)) (X1 := wx_X n) (as := []) (r := []) (v1 := none) (o := wx_r 28) (a := 28) (n := 1) C hsb (by omega) (okm.1 49 _ rfl) rfl rx_x171 hRm hm rfl rfl (by decide) rfl rec28 (fun ad sz => ?_) ?_
    · have := wx_TE_use hA wr (Or.inl hwr) rx_SS_rf rx_HS_rf (t := wx_X n) (Or.inr rfl) D sb tt (u0 + d) hsb htt (by show u0 + d + 299 ≤ wx_bd; omega) ad sz
      rw [show u0 + (d + 299) = u0 + d + 299 by omega]
      exact this
    refine rx_o_iinc (C _) (okm.1 52 _ rfl) (by decide) (by decide) rfl rfl ?_
    rw [wx_i32k (by omega)]
    refine rx_o_goto (C _) (okm.1 55 _ rfl) ?_
    exact ih (k + 1) (d + 299) (by omega) (by omega)
end WXS
