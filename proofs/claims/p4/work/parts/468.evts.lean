/-! THE HELPER event, AND THE REFERENCE's -/
noncomputable def wx_mE (t : rx_H) (q1 q2 : Int × Int) : Bool := match wx_run true wx_oF rx_ro wx_nb t 0 3000 rx_m189 t [wx_r 28, .inl q1, .inl q2] with
  | some (d, v) => Nat.beq d 0 && wx_lob v (some (.inl rx_top))
  | none => false
def wx_lo2 : List (Int × Int) := [(-2147483648, -1), (3, 2147483647)]
def wx_lo1 : List (Int × Int) := [(-2147483648, -1), (32, 2147483647)]
def wx_ki (k : Nat) : Int × Int := ((k : Int), (k : Int))
noncomputable def wx_ct (a f : Nat) (v : rx_V) : (rx_H → Bool) → Bool := fun g => rx_fl (wx_cutc a f v wx_Kst) g
noncomputable def wx_e6 (k : Nat) (q2 : Int × Int) : Bool := wx_ct 1 4 (.inl (0, (k : Int))) (fun t => (wx_hT wx_oF wx_oF t rx_mL6 rx_m121 5 3 4 15 19 (wx_a2 (wx_ki k) q2) (0, 2) || wx_hR wx_oF t rx_mL6 0 (wx_a2 (wx_ki k) q2))) && (wx_ct 1 4 (.inl ((k : Int) + 1, 32)) (fun t => (wx_hT wx_oF wx_oF t rx_mL6 rx_m121 5 3 4 15 19 (wx_a2 (wx_ki k) q2) (0, 2) || wx_hR wx_oF t rx_mL6 0 (wx_a2 (wx_ki k) q2))) && wx_ct 1 4 (.inr (.inr (.inr 600002))) (fun t => (wx_hT wx_oF wx_oF t rx_mL6 rx_m121 5 3 4 15 19 (wx_a2 (wx_ki k) q2) (0, 2) || wx_hR wx_oF t rx_mL6 0 (wx_a2 (wx_ki k) q2))))
noncomputable def wx_f6 (k : Nat) (q2 : Int × Int) : Bool := wx_ct 28 40 (.inl (0, (k : Int))) (fun t => wx_mE t (wx_ki k) q2) && (wx_ct 28 40 (.inl ((k : Int) + 1, 32)) (fun t => wx_mE t (wx_ki k) q2) && wx_ct 28 40 (.inr (.inr (.inr 600002))) (fun t => wx_mE t (wx_ki k) q2))
set_option maxRecDepth 100000 in
theorem wx_e6a : (wx_lo1.all fun q1 => wx_l02.all fun q2 => (wx_hT wx_oF wx_oF wx_Kst rx_mL6 rx_m121 5 3 4 15 19 (wx_a2 q1 q2) (0, 2) && wx_mE wx_Kst q1 q2)) = true := by decide +kernel
set_option maxRecDepth 100000 in
theorem wx_e6c0 : ((List.range 8).all fun k => wx_l02.all fun q2 => wx_e6 (0 + k) q2) = true := by decide +kernel
set_option maxRecDepth 100000 in
theorem wx_f6c0 : ((List.range 8).all fun k => wx_l02.all fun q2 => wx_f6 (0 + k) q2) = true := by decide +kernel
set_option maxRecDepth 100000 in
theorem wx_e6c8 : ((List.range 8).all fun k => wx_l02.all fun q2 => wx_e6 (8 + k) q2) = true := by decide +kernel
set_option maxRecDepth 100000 in
theorem wx_f6c8 : ((List.range 8).all fun k => wx_l02.all fun q2 => wx_f6 (8 + k) q2) = true := by decide +kernel
set_option maxRecDepth 100000 in
theorem wx_e6c16 : ((List.range 8).all fun k => wx_l02.all fun q2 => wx_e6 (16 + k) q2) = true := by decide +kernel
set_option maxRecDepth 100000 in
theorem wx_f6c16 : ((List.range 8).all fun k => wx_l02.all fun q2 => wx_f6 (16 + k) q2) = true := by decide +kernel
set_option maxRecDepth 100000 in
theorem wx_e6c24 : ((List.range 8).all fun k => wx_l02.all fun q2 => wx_e6 (24 + k) q2) = true := by decide +kernel
set_option maxRecDepth 100000 in
theorem wx_f6c24 : ((List.range 8).all fun k => wx_l02.all fun q2 => wx_f6 (24 + k) q2) = true := by decide +kernel
theorem wx_e6k {k : Nat} {q2 : Int × Int} (hk : k ≤ 31) (h2 : q2 ∈ wx_l02) : wx_e6 k q2 = true := by
  have key : ∀ a, ((List.range 8).all fun k => wx_l02.all fun q2 => wx_e6 (a + k) q2) = true → a ≤ k → k < a + 8 → wx_e6 k q2 = true := by
    intro a h h1 h3
    have := List.all_eq_true.mp (List.all_eq_true.mp h (k - a) (List.mem_range.mpr (by omega))) q2 h2
    rw [show a + (k - a) = k by omega] at this
    exact this
  by_cases c1 : k < 8
  · exact key 0 wx_e6c0 (by omega) (by omega)
  by_cases c2 : k < 16
  · exact key 8 wx_e6c8 (by omega) (by omega)
  by_cases c3 : k < 24
  · exact key 16 wx_e6c16 (by omega) (by omega)
  · exact key 24 wx_e6c24 (by omega) (by omega)
theorem wx_f6k {k : Nat} {q2 : Int × Int} (hk : k ≤ 31) (h2 : q2 ∈ wx_l02) : wx_f6 k q2 = true := by
  have key : ∀ a, ((List.range 8).all fun k => wx_l02.all fun q2 => wx_f6 (a + k) q2) = true → a ≤ k → k < a + 8 → wx_f6 k q2 = true := by
    intro a h h1 h3
    have := List.all_eq_true.mp (List.all_eq_true.mp h (k - a) (List.mem_range.mpr (by omega))) q2 h2
    rw [show a + (k - a) = k by omega] at this
    exact this
  by_cases c1 : k < 8
  · exact key 0 wx_f6c0 (by omega) (by omega)
  by_cases c2 : k < 16
  · exact key 8 wx_f6c8 (by omega) (by omega)
  by_cases c3 : k < 24
  · exact key 16 wx_f6c16 (by omega) (by omega)
  · exact key 24 wx_f6c24 (by omega) (by omega)
theorem wx_mE_ok {l : Launch} {Φ : rx_H → rx_H} (hΦ : wx_Ph Φ) {t : rx_H} {q1 q2 : Int × Int} (hc : wx_mE t q1 q2 = true) (D : va_G) {sb : List Nat} {tt u : Nat} (hsb : sb.length = 20) (htt : tt ≤ 3000) (hu : u ≤ wx_bd) (ad : List Nat) (sz : Nat) : Met l rx_m189.1 (rx_ws rx_m189) (rx_rm rx_m189 0 0) (rx_Pc true D (wx_su sb tt u) ad rx_ro (Φ t) [wx_r 28, .inl q1, .inl q2] sz) (rx_Qc true D (wx_su sb tt u) ad (Φ t) (some (.inl rx_top)) sz) 0 0 (rx_AW true ad sz) := by
  unfold wx_mE at hc
  split at hc
  · rename_i d v hr
    obtain ⟨g1, g2⟩ := rx_and2 hc
    have e := Nat.eq_of_beq_eq_true g1
    subst e
    exact wx_Met (wx_met (by decide) hΦ rx_hob (wx_HO_F hΦ true) wx_HB_nb (rx_all 189 _ rx_x189) hr rx_HS_rf D sb tt u hsb htt (by omega) ad sz) (fun _ _ q => q) (fun a s o t _ hq => rx_Qc_up hsb (Nat.le_refl _) rx_HS_rf (wx_lob_ok g2) a s o t hq) (fun _ q => q)
  · cases hc
theorem wx_nh_i (a b : Int) : wx_nh (.inl (a, b)) = true := rfl
theorem wx_sbU_i {a b : Int} (h1 : 0 ≤ a) (h2 : b ≤ 100) : rx_sbU (.inl (a, b)) (.inr (.inr (.inr 600000))) = true := by
  show (rx_sb (.inl (a, b)) (.inr (.inr (.inr 600000))) || (Nat.beq 600000 600000 && (rx_le 0 a && rx_le b 100))) = true
  rw [(rx_le_iff _ _).mpr h1, (rx_le_iff _ _).mpr h2]
  rfl
theorem wx_H6k {l : Launch} (hfl : l.flags = pinnedFlags ++ [noTraceFlag]) {n k : Nat} {q2 : Int × Int} (hk : k ≤ 31) (h2 : q2 ∈ wx_l02) : wx_HE l n n rx_mL6 [(0, 10, 13, 21)] (wx_a2 (wx_ki k) q2) 0 := by
  intro D sb tt u hsb htt h100 hu ad sz
  obtain ⟨l0, hX, -, hl, -⟩ := (wx_Ph_fill n).1 wx_Kst 1 4 _ rfl
  have hX : (wx_X n)[1]? = some (.inl (4, l0)) := hX
  have hf : l0[4]? = some (.inr (.inr (.inr 600000))) := hl 4 _ rfl rfl
  have hcu : ∀ v, wx_nh v = true → wx_fill n (wx_cutc 1 4 v wx_Kst) = wx_cutc 1 4 v (wx_X n) := fun v hv => wx_cutc_Ph (wx_Ph_fill n) (h := wx_Kst) (a := 1) rfl hv
  have hc := wx_e6k hk h2
  obtain ⟨c1, c2⟩ := rx_and2 hc
  obtain ⟨c2, c3⟩ := rx_and2 c2
  unfold wx_ct at c1 c2 c3
  rw [rx_fl_eq] at c1 c2 c3
  have b1 : wx_HX l (wx_fill n (wx_cutc 1 4 (.inl (0, (k : Int))) wx_Kst)) (wx_fill n (wx_cutc 1 4 (.inl (0, (k : Int))) wx_Kst)) rx_mL6 [(0, 10, 13, 21)] (wx_a2 (wx_ki k) q2) 0 (0, 2) := by
    rcases rx_or2 c1 with q | q
    · exact wx_HT6 hfl (wx_Ph_fill n) (t0 := wx_cutc 1 4 (.inl (0, (k : Int))) wx_Kst) rfl 19 rfl rfl rfl q
    · exact wx_HRx (wx_Ph_fill n) (wx_HO_F (wx_Ph_fill n) true) rx_moL6 q
  have b1 := b1 D sb tt u hsb htt h100 hu ad sz
  rw [hcu _ rfl] at b1
  have b2 : wx_HX l (wx_fill n (wx_cutc 1 4 (.inl ((k : Int) + 1, 32)) wx_Kst)) (wx_fill n (wx_cutc 1 4 (.inl ((k : Int) + 1, 32)) wx_Kst)) rx_mL6 [(0, 10, 13, 21)] (wx_a2 (wx_ki k) q2) 0 (0, 2) := by
    rcases rx_or2 c2 with q | q
    · exact wx_HT6 hfl (wx_Ph_fill n) (t0 := wx_cutc 1 4 (.inl ((k : Int) + 1, 32)) wx_Kst) rfl 19 rfl rfl rfl q
    · exact wx_HRx (wx_Ph_fill n) (wx_HO_F (wx_Ph_fill n) true) rx_moL6 q
  have b2 := b2 D sb tt u hsb htt h100 hu ad sz
  rw [hcu _ rfl] at b2
  have b3 : wx_HX l (wx_fill n (wx_cutc 1 4 (.inr (.inr (.inr 600002))) wx_Kst)) (wx_fill n (wx_cutc 1 4 (.inr (.inr (.inr 600002))) wx_Kst)) rx_mL6 [(0, 10, 13, 21)] (wx_a2 (wx_ki k) q2) 0 (0, 2) := by
    rcases rx_or2 c3 with q | q
    · exact wx_HT6 hfl (wx_Ph_fill n) (t0 := wx_cutc 1 4 (.inr (.inr (.inr 600002))) wx_Kst) rfl 19 rfl rfl rfl q
    · exact wx_HRx (wx_Ph_fill n) (wx_HO_F (wx_Ph_fill n) true) rx_moL6 q
  have b3 := b3 D sb tt u hsb htt h100 hu ad sz
  rw [hcu _ rfl] at b3
  refine wx_Met_or (P1 := rx_Pc true D (wx_su sb tt u) ad rx_ro (wx_cutc 1 4 (.inl (0, (k : Int))) (wx_X n)) _ sz) (P2 := fun a U => rx_Pc true D (wx_su sb tt u) ad rx_ro (wx_cutc 1 4 (.inl ((k : Int) + 1, 32)) (wx_X n)) _ sz a U ∨ rx_Pc true D (wx_su sb tt u) ad rx_ro (wx_cutc 1 4 (.inr (.inr (.inr 600002))) (wx_X n)) _ sz a U) ?_ (wx_Met_or ?_ ?_ (fun _ _ q => q)) (fun ar U hp => wx_ev3 hsb hk hX hf ar U hp)
  · exact wx_Met b1 (fun _ _ q => q) (fun a s o t _ hq => wx_cutc_Q hsb h100 hX hf (by first | exact wx_sbU_i (by omega) (by omega) | rfl) wx_sem_rf a s o t hq) (fun _ q => q)
  · exact wx_Met b2 (fun _ _ q => q) (fun a s o t _ hq => wx_cutc_Q hsb h100 hX hf (by first | exact wx_sbU_i (by omega) (by omega) | rfl) wx_sem_rf a s o t hq) (fun _ q => q)
  · exact wx_Met b3 (fun _ _ q => q) (fun a s o t _ hq => wx_cutc_Q hsb h100 hX hf (by first | exact wx_sbU_i (by omega) (by omega) | rfl) wx_sem_rf a s o t hq) (fun _ q => q)
theorem wx_M6k {l : Launch} {n k : Nat} {q2 : Int × Int} (hk : k ≤ 31) (h2 : q2 ∈ wx_l02) : wx_ME l n [.inl (wx_ki k), .inl q2] := by
  intro D sb tt u hsb htt h100 hu ad sz
  obtain ⟨l0, hX, -, hl, -⟩ := (wx_Ph_fill n).1 wx_Kst 28 11 _ rfl
  have hX : (wx_X n)[28]? = some (.inl (11, l0)) := hX
  have hf : l0[40]? = some (.inr (.inr (.inr 600000))) := hl 40 _ rfl rfl
  have hcu : ∀ v, wx_nh v = true → wx_fill n (wx_cutc 28 40 v wx_Kst) = wx_cutc 28 40 v (wx_X n) := fun v hv => wx_cutc_Ph (wx_Ph_fill n) (h := wx_Kst) (a := 28) rfl hv
  have hc := wx_f6k hk h2
  obtain ⟨c1, c2⟩ := rx_and2 hc
  obtain ⟨c2, c3⟩ := rx_and2 c2
  unfold wx_ct at c1 c2 c3
  rw [rx_fl_eq] at c1 c2 c3
  have b1 := wx_mE_ok (l := l) (wx_Ph_fill n) c1 D hsb htt hu ad sz
  rw [hcu _ rfl] at b1
  have b2 := wx_mE_ok (l := l) (wx_Ph_fill n) c2 D hsb htt hu ad sz
  rw [hcu _ rfl] at b2
  have b3 := wx_mE_ok (l := l) (wx_Ph_fill n) c3 D hsb htt hu ad sz
  rw [hcu _ rfl] at b3
  refine wx_Met_or (P1 := rx_Pc true D (wx_su sb tt u) ad rx_ro (wx_cutc 28 40 (.inl (0, (k : Int))) (wx_X n)) _ sz) (P2 := fun a U => rx_Pc true D (wx_su sb tt u) ad rx_ro (wx_cutc 28 40 (.inl ((k : Int) + 1, 32)) (wx_X n)) _ sz a U ∨ rx_Pc true D (wx_su sb tt u) ad rx_ro (wx_cutc 28 40 (.inr (.inr (.inr 600002))) (wx_X n)) _ sz a U) ?_ (wx_Met_or ?_ ?_ (fun _ _ q => q)) (fun ar U hp => wx_ev3 hsb hk hX hf ar U hp)
  · exact wx_Met b1 (fun _ _ q => q) (fun a s o t _ hq => wx_cutc_Q hsb h100 hX hf (by first | exact wx_sbU_i (by omega) (by omega) | rfl) wx_sem_rf a s o t hq) (fun _ q => q)
  · exact wx_Met b2 (fun _ _ q => q) (fun a s o t _ hq => wx_cutc_Q hsb h100 hX hf (by first | exact wx_sbU_i (by omega) (by omega) | rfl) wx_sem_rf a s o t hq) (fun _ q => q)
  · exact wx_Met b3 (fun _ _ q => q) (fun a s o t _ hq => wx_cutc_Q hsb h100 hX hf (by first | exact wx_sbU_i (by omega) (by omega) | rfl) wx_sem_rf a s o t hq) (fun _ q => q)
theorem wx_mem_le {q : Int × Int} (h : q ∈ wx_le) : q ∈ wx_lo1 ∨ ∃ k, k ≤ 31 ∧ q = wx_ki k := by
  unfold wx_le at h
  rcases List.mem_cons.mp h with h | h
  · exact Or.inl (by rw [h]; exact List.mem_cons_self)
  · rcases List.mem_append.mp h with h | h
    · obtain ⟨k, h1, h2⟩ := List.mem_map.mp h
      have := List.mem_range.mp h1
      exact Or.inr ⟨k, by omega, h2.symm⟩
    · exact Or.inl (by rw [List.mem_singleton.mp h]; exact List.mem_cons_of_mem _ List.mem_cons_self)
theorem wx_H6 {l : Launch} (hfl : l.flags = pinnedFlags ++ [noTraceFlag]) {n : Nat} : ∀ q1 ∈ wx_le, ∀ q2 ∈ wx_l02, wx_HE l n n rx_mL6 [(0, 10, 13, 21)] (wx_a2 q1 q2) 0 ∧ wx_ME l n [.inl q1, .inl q2] := by
  have go : ∀ q1 q2, (wx_hT wx_oF wx_oF wx_Kst rx_mL6 rx_m121 5 3 4 15 19 (wx_a2 q1 q2) (0, 2) && wx_mE wx_Kst q1 q2) = true → wx_HE l n n rx_mL6 [(0, 10, 13, 21)] (wx_a2 q1 q2) 0 ∧ wx_ME l n [.inl q1, .inl q2] := by
    intro q1 q2 h
    obtain ⟨g1, g2⟩ := rx_and2 h
    exact ⟨wx_HT6 hfl (wx_Ph_fill n) (t0 := wx_Kst) rfl 19 rfl rfl rfl g1, fun D sb tt u hsb htt _ hu ad sz => wx_mE_ok (wx_Ph_fill n) g2 D hsb htt hu ad sz⟩
  intro q1 h1 q2 h2
  rcases wx_mem_le h1 with g1 | ⟨k, hk, rfl⟩
  · exact go q1 q2 (List.all_eq_true.mp (List.all_eq_true.mp wx_e6a q1 g1) q2 h2)
  · exact ⟨wx_H6k hfl hk h2, wx_M6k hk h2⟩
