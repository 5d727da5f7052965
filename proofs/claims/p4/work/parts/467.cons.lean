/-! EXACT RUNS -/
theorem rx_xl : rx_xM.length ≤ 1000 := by decide +kernel
noncomputable def wx_xr (mt : rx_MT) (K : rx_H) (as : List rx_V) (mc0 ms0 : Nat) (v0 : Int × Int) (K2 : rx_H) : Bool := match rx_ex true rx_xM rx_no rx_ro 600 false mt.2.2.2.2.2.1 0 K (rx_ini as mt.2.2.1) [] 0 0 with
  | some (v, h2, mc, ms) => wx_lob v (some (.inl v0)) && (Nat.beq mc mc0 && (Nat.beq ms ms0 && rx_all2 rx_sbC h2 K2))
  | none => false
theorem wx_xrH_ok {l : Launch} {mt : rx_MT} (okm : rx_MOk rx_xM mt) {hh : List (Nat × Nat × Nat × Nat)} {K K2 : rx_H} {as : List rx_V} {v0 : Int × Int} (hlen : (rx_arg as).length ≤ mt.2.2.1) (hc : wx_xr mt K as 1 7 v0 K2 = true) : wx_HX l K K2 mt hh as 0 v0 := by
  intro D sb tt u hsb htt _ hu ad sz
  unfold wx_xr at hc
  split at hc
  · rename_i v h2 mc ms hr
    obtain ⟨g1, g2⟩ := rx_and2 hc
    obtain ⟨g2, g3⟩ := rx_and2 g2
    obtain ⟨g3, g4⟩ := rx_and2 g3
    have e2 := Nat.eq_of_beq_eq_true g2
    have e3 := Nat.eq_of_beq_eq_true g3
    subst e2
    subst e3
    exact wx_Met (rx_metW (rx_F_all l rx_xl (rx_HO_no (l := l)) rx_HH_no rx_all rx_hob 600) okm hh D (wx_su sb tt u) ad sz hlen hr) (fun _ _ q => q) (fun a s o t _ hq => rx_Qc_up hsb (Nat.le_refl _) (rx_HS_of g4) (wx_lob_ok g1) a s o t hq) (fun _ q => q)
  · cases hc
theorem wx_xrM_ok {l : Launch} {mt : rx_MT} (okm : rx_MOk rx_xM mt) {K K2 : rx_H} {as : List rx_V} {v0 : Int × Int} (hlen : (rx_arg as).length ≤ mt.2.2.1) (hc : wx_xr mt K as 0 0 v0 K2 = true) (D : va_G) (sb : List Nat) (tt u : Nat) (hsb : sb.length = 20) (ad : List Nat) (sz : Nat) : Met l mt.1 (rx_ws mt) (rx_rm mt 0 0) (rx_Pc true D (wx_su sb tt u) ad rx_ro K as sz) (rx_Qc true D (wx_su sb tt u) ad K2 (some (.inl v0)) sz) 0 0 (rx_AW true ad sz) := by
  unfold wx_xr at hc
  split at hc
  · rename_i v h2 mc ms hr
    obtain ⟨g1, g2⟩ := rx_and2 hc
    obtain ⟨g2, g3⟩ := rx_and2 g2
    obtain ⟨g3, g4⟩ := rx_and2 g3
    have e2 := Nat.eq_of_beq_eq_true g2
    have e3 := Nat.eq_of_beq_eq_true g3
    subst e2
    subst e3
    exact wx_Met (rx_met l rx_xl (rx_HO_no (l := l)) rx_HH_no rx_all rx_hob 600 mt okm D (wx_su sb tt u) ad K as v h2 0 0 sz hlen hr) (fun _ _ q => q) (fun a s o t _ hq => rx_Qc_up hsb (Nat.le_refl _) (rx_HS_of g4) (wx_lob_ok g1) a s o t hq) (fun _ q => q)
  · cases hc
