/-! WHAT IS KNOWN OF CALLS BEFOREHAND -/
def rx_isA (k : Nat) (as : List rx_V) : Bool := match as with
  | [.inr (.inr (.inl (some i)))] => Nat.beq i k
  | _ => false
theorem rx_isA_ok {k : Nat} {as : List rx_V} (h : rx_isA k as = true) : as = [.inr (.inr (.inl (some k)))] := by
  unfold rx_isA at h
  split at h
  · rw [Nat.eq_of_beq_eq_true h]
  · cases h
def rx_nil {β : Type} (l : rx_H) (x : Option β) : Option β := match l with
  | [] => x
  | _ => none
theorem rx_nil_some {β : Type} {l : rx_H} {x : Option β} {r : β} (h : rx_nil l x = some r) : l = [] ∧ x = some r := by
  cases l with
  | nil => exact ⟨rfl, h⟩
  | cons a t => cases h
/-- a number that stands in a field of a cell -/
noncomputable def rx_clk {β : Type} (h : rx_H) (a f : Nat) (k : Nat → Option β) : Option β := rx_get h a fun c => match c with
  | .inl (_, fs) => rx_get fs f fun v => (match v with
    | .inl (z, _) => rx_fN z.toNat k
    | _ => none)
  | _ => none
theorem rx_clk_some {β : Type} {h : rx_H} {a f : Nat} {k : Nat → Option β} {r : β} (hs : rx_clk h a f k = some r) : ∃ t, k t = some r := by
  obtain ⟨c, -, hs⟩ := rx_get_some hs
  split at hs
  · obtain ⟨v, -, hs⟩ := rx_get_some hs
    split at hs
    · rw [rx_fN_eq] at hs
      exact ⟨_, hs⟩
    · cases hs
  · cases hs
noncomputable def rx_orT : rx_Orc := fun j h as =>
  bif Nat.beq j rx_jC then (bif rx_isA 0 as then rx_sbP rx_hc0 h fun rest => rx_nil rest (some (none, rx_sc0, rx_kc.1, rx_kc.2)) else none)
  else bif Nat.beq j rx_jM then (bif rx_isA 28 as then rx_sbP (rx_sc0 ++ rx_sm) h fun rest => rx_nil rest (rx_fl (rx_sc0 ++ rx_sd0) fun h' => some (none, h', rx_km.1, rx_km.2)) else none)
  else bif Nat.beq j rx_jA then (bif rx_isA 0 as then rx_clk h 1 3 fun t => rx_get rx_cp t fun q => rx_sbP q.1 h fun rest => rx_fl (q.2 ++ rest) fun h' => some (none, h', 0, 0) else none)
  else bif Nat.beq j rx_jS then (bif rx_isA 28 as then rx_clk h 28 1 fun t => rx_get rx_dp t fun q => rx_sbP (rx_ct ++ q.1) h fun rest => rx_fl ((rx_ct ++ q.2) ++ rest) fun h' => some (none, h', 0, 0) else none)
  else none
theorem rx_weakM {l : Launch} {y : MethodName} {wl : List Jvm.Cond} {rm : Room} {D : va_G} {sa ad : List Nat} {ro ro2 : List (List rx_V)} {p h : rx_H} {as : List rx_V} {sz mc ms : Nat} {Qc : Array Value → State → Outcome → State → Prop} {fr : Addr → Prop} (hM : Met l y wl rm (rx_Pc true D sa ad ro p as sz) Qc mc ms fr) (hro : ro <+: ro2) (hs : rx_HS h p) : Met l y wl rm (rx_Pc true D sa ad ro2 h as sz) Qc mc ms fr := by
  intro pr e hA hc hk s m args below hf happ hP hK
  obtain ⟨vs, h1, h2, h3, h4, h5, h6, h0, ws, h7, h8, h9⟩ := hP
  exact hM pr e hA hc hk s m args below hf happ ⟨vs, h1, h2, h3, h4, h5, rx_RO_less hro (fun _ z => z) h6, h0, ws, rx_HS_W hs h7, h8, h9⟩ hK
theorem rx_xl : rx_xM.length ≤ 1000 := by
  show (191 : Nat) ≤ 1000
  decide
theorem rx_len1 {k n : Nat} (h : 1 ≤ n) : (rx_arg [.inr (.inr (.inl (some k)))]).length ≤ n := h
set_option maxRecDepth 20000 in
theorem rx_clC : ∀ q ∈ rx_cp, q.1.all (rx_cc q.1.length) = true ∧ q.2.length = q.1.length ∧ 0 < q.1.length := by
  have h : (rx_cp.all fun q => q.1.all (rx_cc q.1.length) && (Nat.beq q.2.length q.1.length && Nat.ble 1 q.1.length)) = true := by decide +kernel
  intro q hq
  obtain ⟨h1, h2⟩ := rx_and2 (List.all_eq_true.mp h q hq)
  obtain ⟨h2, h3⟩ := rx_and2 h2
  exact ⟨h1, Nat.eq_of_beq_eq_true h2, Nat.le_of_ble_eq_true h3⟩
set_option maxRecDepth 20000 in
theorem rx_clS : ∀ q ∈ rx_dp, (rx_ct ++ q.1).all (rx_cc (rx_ct ++ q.1).length) = true ∧ (rx_ct ++ q.2).length = (rx_ct ++ q.1).length ∧ 28 < (rx_ct ++ q.1).length := by
  have h : (rx_dp.all fun q => (rx_ct ++ q.1).all (rx_cc (rx_ct ++ q.1).length) && (Nat.beq (rx_ct ++ q.2).length (rx_ct ++ q.1).length && Nat.ble 29 (rx_ct ++ q.1).length)) = true := by decide +kernel
  intro q hq
  obtain ⟨h1, h2⟩ := rx_and2 (List.all_eq_true.mp h q hq)
  obtain ⟨h2, h3⟩ := rx_and2 h2
  exact ⟨h1, Nat.eq_of_beq_eq_true h2, Nat.le_of_ble_eq_true h3⟩
theorem rx_all1 {k n : Nat} (h : k < n) : List.all [(.inr (.inr (.inl (some k))) : rx_V)] (rx_cv n) = true := by
  rw [List.all_cons, List.all_nil, Bool.and_true]
  exact Nat.ble_eq_true_of_le h
theorem rx_HO_T {l : Launch} {ro2 : List (List rx_V)} (hro : rx_ro <+: ro2) : rx_HO true rx_xM l rx_orT ro2 := by
  intro j mj h as v h' mc ms hj ho D sa ad sz
  have hm := fun n => rx_met (wr := true) (xM := rx_xM) (orc := rx_no) (ro := rx_ro) l rx_xl rx_HO_no rx_HH_no rx_all rx_hob n
  unfold rx_orT at ho
  rcases rx_bif2 ho with ⟨h1, hp⟩ | ⟨-, ho⟩
  · have e := Nat.eq_of_beq_eq_true h1
    obtain ⟨h2, hq1⟩ := rx_bif hp
    have e2 := rx_isA_ok h2
    clear ho hp h1 h2
    subst e
    subst e2
    obtain ⟨rest, hs, hq2⟩ := rx_sbP_some hq1
    obtain ⟨rfl, hq3⟩ := rx_nil_some hq2
    clear hq1 hq2
    cases hq3
    cases (rx_x9).symm.trans hj
    rw [List.append_nil] at hs
    exact rx_weakM (hm _ rx_m9 rx_mo9 D sa ad rx_hc0 _ none rx_sc0 _ _ sz (rx_len1 (by decide)) (rx_run_fl rx_run_ci)) hro hs
  rcases rx_bif2 ho with ⟨h1, hp⟩ | ⟨-, ho⟩
  · have e := Nat.eq_of_beq_eq_true h1
    obtain ⟨h2, hq1⟩ := rx_bif hp
    have e2 := rx_isA_ok h2
    clear ho hp h1 h2
    subst e
    subst e2
    obtain ⟨rest, hs, hq2⟩ := rx_sbP_some hq1
    obtain ⟨rfl, hq3⟩ := rx_nil_some hq2
    clear hq1 hq2
    rw [rx_fl_eq] at hq3
    cases hq3
    cases (rx_x123).symm.trans hj
    rw [List.append_nil] at hs
    exact rx_weakM (hm _ rx_m123 rx_mo123 D sa ad (rx_sc0 ++ rx_sm) _ none (rx_sc0 ++ rx_sd0) _ _ sz (rx_len1 (by decide)) (rx_run_fl rx_run_di)) hro hs
  rcases rx_bif2 ho with ⟨h1, hp⟩ | ⟨-, ho⟩
  · have e := Nat.eq_of_beq_eq_true h1
    obtain ⟨h2, hq1⟩ := rx_bif hp
    have e2 := rx_isA_ok h2
    clear ho hp h1 h2
    subst e
    subst e2
    obtain ⟨t, hq2⟩ := rx_clk_some hq1
    obtain ⟨q, hq, hq3⟩ := rx_get_some hq2
    obtain ⟨rest, hs, hq4⟩ := rx_sbP_some hq3
    clear hq1 hq2 hq3
    rw [rx_fl_eq] at hq4
    cases hq4
    cases (rx_x99).symm.trans hj
    have hq := List.mem_of_getElem? hq
    obtain ⟨c1, c2, c3⟩ := rx_clC q hq
    obtain ⟨n, hr⟩ := rx_allA q hq
    exact rx_frame (p := q.1) (p' := q.2) (fun ad => hm n rx_m99 rx_mo99 D sa ad q.1 _ none q.2 0 0 sz (rx_len1 (by decide)) hr) hro c1 (rx_all1 c3) c2 hs ad
  rcases rx_bif2 ho with ⟨h1, hp⟩ | ⟨-, ho⟩
  · have e := Nat.eq_of_beq_eq_true h1
    obtain ⟨h2, hq1⟩ := rx_bif hp
    have e2 := rx_isA_ok h2
    clear ho hp h1 h2
    subst e
    subst e2
    obtain ⟨t, hq2⟩ := rx_clk_some hq1
    obtain ⟨q, hq, hq3⟩ := rx_get_some hq2
    obtain ⟨rest, hs, hq4⟩ := rx_sbP_some hq3
    clear hq1 hq2 hq3
    rw [rx_fl_eq] at hq4
    cases hq4
    cases (rx_x171).symm.trans hj
    have hq := List.mem_of_getElem? hq
    obtain ⟨c1, c2, c3⟩ := rx_clS q hq
    obtain ⟨n, hr⟩ := rx_allS q hq
    exact rx_frame (p := rx_ct ++ q.1) (p' := rx_ct ++ q.2) (fun ad => hm n rx_m171 rx_mo171 D sa ad (rx_ct ++ q.1) _ none (rx_ct ++ q.2) 0 0 sz (rx_len1 (by decide)) hr) hro c1 (rx_all1 c3) c2 hs ad
  · cases ho
theorem rx_orT_low {j : Nat} {h : rx_H} {as : List rx_V} (hj : 1000 ≤ j) : rx_orT j h as = none := by
  have n1 : ∀ k, k < 1000 → Nat.beq j k = false := fun k hk => by
    cases hb : Nat.beq j k with
    | false => rfl
    | true => have := Nat.eq_of_beq_eq_true hb; omega
  unfold rx_orT
  rw [n1 rx_jC (by decide), n1 rx_jM (by decide), n1 rx_jA (by decide), n1 rx_jS (by decide)]
  rfl
theorem rx_HH_T {l : Launch} {ro2 : List (List rx_V)} : rx_HH true rx_xM l rx_orT ro2 := rx_HH_low (fun j h as hj => rx_orT_low hj)
