/-! groups: the boxes -/
set_option maxRecDepth 100000 in
theorem wx_g1_000 : wx_gall 1 0 0 0 = true := by decide +kernel
set_option maxRecDepth 100000 in
theorem wx_g1_001 : wx_gall 1 0 0 1 = true := by decide +kernel
set_option maxRecDepth 100000 in
theorem wx_g1_010 : wx_gall 1 0 1 0 = true := by decide +kernel
set_option maxRecDepth 100000 in
theorem wx_g1_011 : wx_gall 1 0 1 1 = true := by decide +kernel
set_option maxRecDepth 100000 in
theorem wx_g1_100 : wx_gall 1 1 0 0 = true := by decide +kernel
set_option maxRecDepth 100000 in
theorem wx_g1_101 : wx_gall 1 1 0 1 = true := by decide +kernel
set_option maxRecDepth 100000 in
theorem wx_g1_110 : wx_gall 1 1 1 0 = true := by decide +kernel
set_option maxRecDepth 100000 in
theorem wx_g1_111 : wx_gall 1 1 1 1 = true := by decide +kernel
set_option maxRecDepth 100000 in
theorem wx_g2_000 : wx_gall 2 0 0 0 = true := by decide +kernel
set_option maxRecDepth 100000 in
theorem wx_g2_001 : wx_gall 2 0 0 1 = true := by decide +kernel
set_option maxRecDepth 100000 in
theorem wx_g2_010 : wx_gall 2 0 1 0 = true := by decide +kernel
set_option maxRecDepth 100000 in
theorem wx_g2_011 : wx_gall 2 0 1 1 = true := by decide +kernel
set_option maxRecDepth 100000 in
theorem wx_g2_100 : wx_gall 2 1 0 0 = true := by decide +kernel
set_option maxRecDepth 100000 in
theorem wx_g2_101 : wx_gall 2 1 0 1 = true := by decide +kernel
set_option maxRecDepth 100000 in
theorem wx_g2_110 : wx_gall 2 1 1 0 = true := by decide +kernel
set_option maxRecDepth 100000 in
theorem wx_g2_111 : wx_gall 2 1 1 1 = true := by decide +kernel
theorem wx_gb : ∀ g, g ≤ 2 → ∀ b ∈ wx_b3, wx_gall g b.1 b.2.1 b.2.2 = true := by
  intro g hg b hb
  unfold wx_b3 at hb
  simp only [List.mem_cons, List.not_mem_nil, or_false] at hb
  match g, hg with
  | 0, _ => rcases hb with rfl | rfl | rfl | rfl | rfl | rfl | rfl | rfl
            · exact wx_g0_000
            · exact wx_g0_001
            · exact wx_g0_010
            · exact wx_g0_011
            · exact wx_g0_100
            · exact wx_g0_101
            · exact wx_g0_110
            · exact wx_g0_111
  | 1, _ => rcases hb with rfl | rfl | rfl | rfl | rfl | rfl | rfl | rfl
            · exact wx_g1_000
            · exact wx_g1_001
            · exact wx_g1_010
            · exact wx_g1_011
            · exact wx_g1_100
            · exact wx_g1_101
            · exact wx_g1_110
            · exact wx_g1_111
  | 2, _ => rcases hb with rfl | rfl | rfl | rfl | rfl | rfl | rfl | rfl
            · exact wx_g2_000
            · exact wx_g2_001
            · exact wx_g2_010
            · exact wx_g2_011
            · exact wx_g2_100
            · exact wx_g2_101
            · exact wx_g2_110
            · exact wx_g2_111
  | _ + 3, hg => omega
section WXS
variable {p : Program} {l : Launch} {e : Env} {R : Room} {s : State} {m : MethodId} {args : Array Value} {below : List Frame} {meth : Method} {c : Code} {Q : State → Prop} {D : va_G} {A B : Nat → Prop} {wr : Bool} {sb ad0 : List Nat} {tt : Nat} {ro : List (List rx_V)} {mt : rx_MT} {xM : List rx_MT} {cells slots : Nat} {n u0 : Nat}
theorem wx_gloop (C : ∀ u, rx_Cx p s m args meth c D (rx_AW wr ad0 s.heap.size) (rx_BW wr ad0 s.heap.size) wr (wx_su sb tt u) ro mt) (hwr : wr = true) (hsb : sb.length = 20) (htt : tt ≤ 3000) (hmt : mt = rx_m153) (hxM : xM = rx_xM) (hro : ro = rx_ro) (hRm : R.frames = mt.2.2.2.2.2.2.1 ∧ R.locals = mt.2.2.2.2.2.2.2.1) (hm : cells ≤ R.cells ∧ slots ≤ R.slots) (hU : u0 ≤ wx_bd) (hT : wx_TT l rx_xM rx_ro wx_T 153 (wx_X n)) (hQ : Q = MQ below (rx_Qc wr D (wx_su sb tt (u0 + 0)) ad0 (wx_X n) none s.heap.size) args s cells slots (rx_AW wr ad0 s.heap.size)) :
    ∀ j g : Nat, g + j = 3 → rx_Go p l e R s m args below meth c Q D (rx_AW wr ad0 s.heap.size) (rx_BW wr ad0 s.heap.size) (wx_su sb tt (u0)) ad0 mt 2 (wx_X n) (wx_g4 (g : Int)) [] cells slots := by
  intro j
  induction j with
  | zero =>
    intro g hg
    have e : g = 3 := by omega
    subst e
    subst hmt
    subst hxM
    have okm := rx_all 153 _ rx_x153
    refine rx_o_iload_n (C _) (okm.1 2 _ rfl) rfl rfl ?_
    refine rx_o_iconst (C _) (okm.1 3 _ rfl) (by decide) (by decide) ?_
    refine rx_o_icmp (C _) (okm.1 4 _ rfl) (t := true) rfl (fun _ => ?_) (fun z => by cases z)
    rw [hQ]
    exact wx_RT (xM := rx_xM) (u0 := u0) (d := 0) C hsb okm (Nat.le_refl _) wx_sem_rf rfl (Or.inr (Or.inr (Or.inr (Or.inl ⟨rfl, rfl, rfl⟩)))) rx_HS_rf
  | succ j ih =>
    intro g hg
    have hA := ih (g + 1) (by omega)
    have box : ∀ {h : rx_H}, rx_HS (wx_fill n h) (wx_X n) → wx_gck (g : Int) h = true → rx_Go p l e R s m args below meth c Q D (rx_AW wr ad0 s.heap.size) (rx_BW wr ad0 s.heap.size) (wx_su sb tt (u0)) ad0 mt 135 (wx_X n) (wx_g4 (g : Int)) [] cells slots → rx_Go p l e R s m args below meth c Q D (rx_AW wr ad0 s.heap.size) (rx_BW wr ad0 s.heap.size) (wx_su sb tt (u0)) ad0 mt 8 (wx_fill n h) (wx_g4 (g : Int)) [wx_r 28] cells slots := fun hn hc nx => wx_gbox C hwr hsb htt hmt hxM hro hRm hm hU hT hn hc nx
    subst hmt
    subst hxM
    have okm := rx_all 153 _ rx_x153
    have nx : rx_Go p l e R s m args below meth c Q D (rx_AW wr ad0 s.heap.size) (rx_BW wr ad0 s.heap.size) (wx_su sb tt (u0)) ad0 rx_m153 135 (wx_X n) (wx_g4 (g : Int)) [] cells slots := by
      refine rx_o_iinc (C _) (okm.1 135 _ rfl) (by decide) (by decide) rfl rfl ?_
      rw [wx_i32k (by omega)]
      exact rx_o_goto (C _) (okm.1 138 _ rfl) hA
    refine rx_o_iload_n (C _) (okm.1 2 _ rfl) rfl rfl ?_
    refine rx_o_iconst (C _) (okm.1 3 _ rfl) (by decide) (by decide) ?_
    have hcmp : rx_cmp .ge ((g : Int), (g : Int)) (3, 3) = some false := by
      show (bif rx_le 3 (g : Int) then some true else bif rx_le 3 (g : Int) then none else some false) = _
      cases e : rx_le 3 (g : Int) with
      | false => rfl
      | true => have := rx_le_t e; omega
    refine rx_o_icmp (C _) (okm.1 4 _ rfl) hcmp (fun z => by cases z) (fun _ => ?_)
    refine rx_o_aload_n (C _) (okm.1 7 _ rfl) rfl rfl ?_
    intro ad' ws H locs ls vs a1 a2 a3 a4 a5 a6 a7
    obtain ⟨hb1, hb2⟩ := wx_HB_bx n (t0 := wx_Kst) g wx_Kst rx_HS_rf
    rw [wx_bxa_eq (by omega)] at hb1 hb2
    obtain ⟨h', hm', hw⟩ := hb2 _ _ _ _ a2
    have hn := hb1 h' hm'
    obtain ⟨b, w1, w2⟩ := List.mem_flatMap.mp hm'
    obtain ⟨st, w3, rfl⟩ := List.mem_map.mp w2
    have hc := List.all_eq_true.mp (wx_gb g (by omega) b w1) st w3
    rw [rx_fl_eq] at hc
    exact box hn hc nx ad' ws H locs ls vs a1 hw a3 a4 a5 a6 a7
end WXS
theorem wx_grT {l : Launch} {n : Nat} (hT : wx_TT l rx_xM rx_ro wx_T 153 (wx_X n)) : wx_TE l rx_ro (wx_X n) rx_m153 ([wx_r 28], none, 0, false) := by
  intro D sb tt u hsb htt hu ad sz
  refine wx_entry (by decide) (rx_all 153 _ rx_x153) (by show 1 ≤ 4; decide) hsb (fun p e s m args below meth c hsz C => ?_)
  have okm := rx_all 153 _ rx_x153
  refine rx_o_iconst (C _) (okm.1 0 _ rfl) (by decide) (by decide) ?_
  refine rx_o_istore_n (C _) (okm.1 1 _ rfl) rfl (by decide) ?_
  exact wx_gloop C rfl hsb htt rfl rfl rfl ⟨rfl, rfl⟩ ⟨Nat.le_refl _, Nat.le_refl _⟩ (by have hu : u + 0 ≤ wx_bd := hu; omega) hT rfl 3 0 rfl
