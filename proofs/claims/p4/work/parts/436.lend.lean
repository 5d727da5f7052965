/-! loads: the boxes -/
set_option maxRecDepth 100000 in
theorem wx_l1_000 : wx_lall 1 0 0 0 = true := by decide +kernel
set_option maxRecDepth 100000 in
theorem wx_l1_001 : wx_lall 1 0 0 1 = true := by decide +kernel
set_option maxRecDepth 100000 in
theorem wx_l1_010 : wx_lall 1 0 1 0 = true := by decide +kernel
set_option maxRecDepth 100000 in
theorem wx_l1_011 : wx_lall 1 0 1 1 = true := by decide +kernel
set_option maxRecDepth 100000 in
theorem wx_l1_100 : wx_lall 1 1 0 0 = true := by decide +kernel
set_option maxRecDepth 100000 in
theorem wx_l1_101 : wx_lall 1 1 0 1 = true := by decide +kernel
set_option maxRecDepth 100000 in
theorem wx_l1_110 : wx_lall 1 1 1 0 = true := by decide +kernel
set_option maxRecDepth 100000 in
theorem wx_l1_111 : wx_lall 1 1 1 1 = true := by decide +kernel
set_option maxRecDepth 100000 in
theorem wx_l2_000 : wx_lall 2 0 0 0 = true := by decide +kernel
set_option maxRecDepth 100000 in
theorem wx_l2_001 : wx_lall 2 0 0 1 = true := by decide +kernel
set_option maxRecDepth 100000 in
theorem wx_l2_010 : wx_lall 2 0 1 0 = true := by decide +kernel
set_option maxRecDepth 100000 in
theorem wx_l2_011 : wx_lall 2 0 1 1 = true := by decide +kernel
set_option maxRecDepth 100000 in
theorem wx_l2_100 : wx_lall 2 1 0 0 = true := by decide +kernel
set_option maxRecDepth 100000 in
theorem wx_l2_101 : wx_lall 2 1 0 1 = true := by decide +kernel
set_option maxRecDepth 100000 in
theorem wx_l2_110 : wx_lall 2 1 1 0 = true := by decide +kernel
set_option maxRecDepth 100000 in
theorem wx_l2_111 : wx_lall 2 1 1 1 = true := by decide +kernel
theorem wx_lb : ∀ g, g ≤ 2 → ∀ b ∈ wx_b3, wx_lall g b.1 b.2.1 b.2.2 = true := by
  intro g hg b hb
  unfold wx_b3 at hb
  simp only [List.mem_cons, List.not_mem_nil, or_false] at hb
  match g, hg with
  | 0, _ => rcases hb with rfl | rfl | rfl | rfl | rfl | rfl | rfl | rfl
            · exact wx_l0_000
            · exact wx_l0_001
            · exact wx_l0_010
            · exact wx_l0_011
            · exact wx_l0_100
            · exact wx_l0_101
            · exact wx_l0_110
            · exact wx_l0_111
  | 1, _ => rcases hb with rfl | rfl | rfl | rfl | rfl | rfl | rfl | rfl
            · exact wx_l1_000
            · exact wx_l1_001
            · exact wx_l1_010
            · exact wx_l1_011
            · exact wx_l1_100
            · exact wx_l1_101
            · exact wx_l1_110
            · exact wx_l1_111
  | 2, _ => rcases hb with rfl | rfl | rfl | rfl | rfl | rfl | rfl | rfl
            · exact wx_l2_000
            · exact wx_l2_001
            · exact wx_l2_010
            · exact wx_l2_011
            · exact wx_l2_100
            · exact wx_l2_101
            · exact wx_l2_110
            · exact wx_l2_111
  | _ + 3, hg => omega
theorem wx_ldT {l : Launch} {n g : Nat} (hg : g ≤ 2) (hT : wx_TT l rx_xM rx_ro wx_T 155 (wx_X n)) : wx_TE l rx_ro (wx_X n) rx_m155 ([wx_r 28, .inl ((g : Int), (g : Int))], none, 0, false) := by
  intro D sb tt u hsb htt hu ad sz
  refine wx_entry (by decide) (rx_all 155 _ rx_x155) (by show 2 ≤ 9; decide) hsb (fun p e s m args below meth c hsz C => ?_)
  intro ad' ws H locs ls vs a1 a2 a3 a4 a5 a6 a7
  obtain ⟨hb1, hb2⟩ := wx_HB_bx n (t0 := wx_Kst) g wx_Kst rx_HS_rf
  rw [wx_bxa_eq hg] at hb1 hb2
  obtain ⟨h', hm, hw⟩ := hb2 _ _ _ _ a2
  have hn := hb1 h' hm
  obtain ⟨b, w1, w2⟩ := List.mem_flatMap.mp hm
  obtain ⟨st, w3, rfl⟩ := List.mem_map.mp w2
  have hc := List.all_eq_true.mp (wx_lb g hg b w1) st w3
  rw [rx_fl_eq] at hc
  refine wx_lbox C rfl hsb htt rfl rfl rfl ⟨rfl, rfl⟩ ⟨Nat.le_refl _, Nat.le_refl _⟩ (by have hu : u + 0 ≤ wx_bd := hu; omega) hT hn ?_ ?_ ⟨by omega, by omega⟩ rfl hc ad' ws H locs ls vs a1 hw a3 a4 a5 a6 a7
  · exact ⟨_, by rw [List.getElem?_set_ne (by decide), List.getElem?_set_ne (by decide)]; rfl, rfl⟩
  · rw [List.getElem?_set_ne (by decide), List.getElem?_set_ne (by decide)]
    rfl
theorem wx_every {l : Launch} {n : Nat} (hn : n ≤ 40) : wx_TT l rx_xM rx_ro wx_T 191 (wx_X n) := by
  refine wx_all hn (fun hT e he => ?_) (fun hT e he => ?_)
  · unfold wx_e153 at he
    simp only [List.mem_cons, List.not_mem_nil, or_false] at he
    subst he
    exact wx_grT hT
  unfold wx_e155 at he
  simp only [List.mem_cons, List.not_mem_nil, or_false] at he
  rcases he with rfl | rfl | rfl
  · exact wx_ldT (g := 0) (by decide) hT
  · exact wx_ldT (g := 1) (by decide) hT
  · exact wx_ldT (g := 2) (by decide) hT
