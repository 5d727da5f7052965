/-! THE LAW's BEGINNING: both objects and the array -/
noncomputable def wx_ct1 (mt : rx_MT) (h : rx_H) (a mc0 ms0 : Nat) (h1 : rx_H) : Bool := match rx_ex true rx_xM rx_no rx_ro 5000 false mt.2.2.2.2.2.1 0 h (rx_ini [wx_r a] mt.2.2.1) [] 0 0 with
  | some (none, h', mc, ms) => Nat.beq mc mc0 && (Nat.beq ms ms0 && rx_all2 rx_csU h' h1)
  | _ => false
theorem wx_ct1_ok {l : Launch} {mt : rx_MT} (okm : rx_MOk rx_xM mt) {h h1 : rx_H} {a mc0 ms0 : Nat} (hlen : (rx_arg [wx_r a]).length ≤ mt.2.2.1) (hc : wx_ct1 mt h a mc0 ms0 h1 = true) (D : va_G) {sb : List Nat} {tt u : Nat} (hsb : sb.length = 20) (h100 : 100 ≤ u) (ad : List Nat) (sz : Nat) : Met l mt.1 (rx_ws mt) (rx_rm mt mc0 ms0) (rx_Pc true D (wx_su sb tt u) ad rx_ro h [wx_r a] sz) (rx_Qc true D (wx_su sb tt u) ad h1 none sz) mc0 ms0 (rx_AW true ad sz) := by
  unfold wx_ct1 at hc
  split at hc
  · rename_i h' mc ms hr
    obtain ⟨g1, g2⟩ := rx_and2 hc
    obtain ⟨g2, g3⟩ := rx_and2 g2
    have e1 := Nat.eq_of_beq_eq_true g1
    have e2 := Nat.eq_of_beq_eq_true g2
    subst e1
    subst e2
    exact wx_Met (rx_met l rx_xl (rx_HO_no (l := l)) rx_HH_no rx_all rx_hob 5000 mt okm D (wx_su sb tt u) ad h [wx_r a] none h' mc ms sz hlen hr) (fun _ _ q => q) (fun ar s o t _ hq => rx_Qc_U hsb h100 (Nat.le_refl _) g3 wx_sem_rf ar s o t hq) (fun _ q => q)
  · cases hc
def wx_S1 : rx_H := wx_K0.take 28
def wx_S2 : rx_H := wx_K0.take 56
def wx_nC : rx_C := .inl (0, [3, 3, 3, 3, 3, 3, 3, 3].map rx_dfl)
def wx_nM : rx_C := .inl (11, (rx_dk.getD 11 []).map rx_dfl)
set_option maxRecDepth 100000 in
theorem wx_b1 : wx_ct1 rx_m9 [wx_nC] 0 27 288 wx_S1 = true := by decide +kernel
set_option maxRecDepth 100000 in
theorem wx_b2 : wx_ct1 rx_m123 (wx_S1 ++ [wx_nM]) 28 27 432 wx_S2 = true := by decide +kernel
set_option maxRecDepth 100000 in
theorem wx_bb3 : rx_all2 rx_sbC (wx_S2 ++ [.inr (2, List.replicate 1 (rx_dfl 2))]) wx_K0 = true := by decide +kernel
theorem wx_b4 : rx_dk[11]? = some (rx_dk.getD 11 []) := by decide +kernel
theorem wx_b5 : (rx_dk.getD 11 []).length = 44 ∧ (rx_dk.getD 11 []).all (fun x => Nat.ble x 3) = true := by decide +kernel
theorem wx_b6 : wx_S1.length = 28 ∧ wx_S2.length = 56 := by decide +kernel
section WXS
variable {p : Program} {l : Launch} {e : Env} {R : Room} {s : State} {m : MethodId} {args : Array Value} {below : List Frame} {meth : Method} {c : Code} {Q : State → Prop} {D : va_G} {A B : Nat → Prop} {wr : Bool} {sb ad0 : List Nat} {tt : Nat} {ro : List (List rx_V)} {mt : rx_MT} {xM : List rx_MT} {cells slots : Nat} {u : Nat}
theorem wx_begin (C : ∀ u, rx_Cx p s m args meth c D (rx_AW wr ad0 s.heap.size) (rx_BW wr ad0 s.heap.size) wr (wx_su sb tt u) ro mt) (hwr : wr = true) (hmt : mt = rx_mL7) (hxM : xM = rx_xM) (hro : ro = rx_ro) (hsb : sb.length = 20) (hRm : R.frames = mt.2.2.2.2.2.2.1 ∧ R.locals = mt.2.2.2.2.2.2.2.1) (hm : 57 ≤ R.cells ∧ 773 ≤ R.slots) (h100 : 100 ≤ u) (g : rx_Go p l e R s m args below meth c Q D (rx_AW wr ad0 s.heap.size) (rx_BW wr ad0 s.heap.size) (wx_su sb tt (u)) ad0 mt 23 (wx_X 0) (wx_Lw (.inl (0, 0))) [] 57 773) : rx_Go p l e R s m args below meth c Q D (rx_AW wr ad0 s.heap.size) (rx_BW wr ad0 s.heap.size) (wx_su sb tt (u)) ad0 mt 0 [] (rx_ini [.inr (.inr (.inr 4))] 7) [] 0 0 := by
  subst hmt
  subst hxM
  subst hwr
  subst hro
  have hb : ∀ (pc : Nat) (row : rx_Row), rx_tbL7 pc = some row → rx_Ok rx_xM rx_mL7 pc row := rx_moL7.1
  refine rx_o_new (ks := [3, 3, 3, 3, 3, 3, 3, 3]) (C u) rfl (hb 0 _ rfl) rfl rfl (by decide) ⟨by show 0 + 1 ≤ R.cells; omega, by show 0 + 8 ≤ R.slots; omega⟩ ?_
  refine rx_o_dup (C u) (hb 3 _ rfl) rfl ?_
  refine wx_callI (a := 0) (mc := 27) (ms := 288) (X1 := wx_S1) (as := []) (r := [wx_r 0]) (v1 := none) C (hb 4 _ rfl) (Or.inl rfl) rx_x9 hRm ⟨by show 0 + 1 + 27 ≤ R.cells; omega, by show 0 + 8 + 288 ≤ R.slots; omega⟩ rfl rfl (by decide) (fun ad sz => wx_ct1_ok (rx_all 9 _ rx_x9) (by decide) wx_b1 D hsb h100 ad sz) ?_
  refine rx_o_astore_n (C u) (hb 7 _ rfl) rfl rfl (by decide) ?_
  refine rx_o_new (ks := rx_dk.getD 11 []) (C u) rfl (hb 8 _ rfl) rfl wx_b4 (fun x hx => Nat.le_of_ble_eq_true (List.all_eq_true.mp wx_b5.2 x hx)) ⟨by show 0 + 1 + 27 + 1 ≤ R.cells; omega, by rw [wx_b5.1]; show 0 + 8 + 288 + 44 ≤ R.slots; omega⟩ ?_
  rw [wx_b5.1, wx_b6.1]
  refine rx_o_dup (C u) (hb 11 _ rfl) rfl ?_
  refine wx_callI (a := 28) (mc := 27) (ms := 432) (X1 := wx_S2) (as := []) (r := [wx_r 28]) (v1 := none) C (hb 12 _ rfl) (Or.inl rfl) rx_x123 hRm ⟨by show 0 + 1 + 27 + 1 + 27 ≤ R.cells; omega, by show 0 + 8 + 288 + 44 + 432 ≤ R.slots; omega⟩ rfl rfl (by decide) (fun ad sz => wx_ct1_ok (rx_all 123 _ rx_x123) (by decide) wx_b2 D hsb h100 ad sz) ?_
  refine rx_o_astore_n (C u) (hb 15 _ rfl) rfl rfl (by decide) ?_
  refine rx_o_iconst (C u) (hb 16 _ rfl) (by decide) (by decide) ?_
  refine rx_o_newarray (tc := 2) (C u) rfl (hb 17 _ rfl) (Or.inr (Or.inr ⟨rfl, rfl⟩)) rfl rfl rfl ⟨by show 0 + 1 + 27 + 1 + 27 + 1 ≤ R.cells; omega, by show 0 + 8 + 288 + 44 + 432 + 1 ≤ R.slots; omega⟩ ?_
  rw [wx_b6.2]
  refine rx_o_astore_n (C u) (hb 19 _ rfl) rfl rfl (by decide) ?_
  refine rx_o_iconst (C u) (hb 20 _ rfl) (by decide) (by decide) ?_
  refine rx_o_istore (C u) (hb 21 _ rfl) rfl (by decide) ?_
  have hX : rx_HS (wx_S2 ++ [.inr (2, List.replicate 1 (rx_dfl 2))]) (wx_X 0) := by
    rw [show wx_X 0 = wx_K0 from wx_KF0]
    exact rx_HS_of wx_bb3
  exact wx_mono hsb (Nat.le_refl _) hX rx_LS_rf rx_SS_rf g
end WXS
