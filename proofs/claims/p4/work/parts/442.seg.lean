/-! A STRETCH OF A METHOD, CHECKED BY A RUN -/
noncomputable def wx_seg (orc : wx_Orc) (bx : Nat → rx_H → List rx_H) (win : List rx_V) (t0 : rx_H) (dm n : Nat) (tab : rx_Tab) (stop pc : Nat) (h : rx_H) (L : rx_F) (st : List rx_V) (L' : rx_F) (st' : List rx_V) : Bool := match wx true orc rx_ro bx win t0 dm n tab stop pc 0 h L st with
  | some (some (d, L1, st1), none) => Nat.ble d dm && (rx_all2 wx_ob L1 L' && rx_all2 rx_sb st1 st')
  | _ => false
section WXS
variable {p : Program} {l : Launch} {e : Env} {R : Room} {s : State} {m : MethodId} {args : Array Value} {below : List Frame} {meth : Method} {c : Code} {Q : State → Prop} {D : va_G} {A B : Nat → Prop} {wr : Bool} {sb ad0 : List Nat} {tt : Nat} {ro : List (List rx_V)} {mt : rx_MT} {xM : List rx_MT} {cells slots : Nat} {pc stop u0 : Nat} {h t0 : rx_H} {L L' : rx_F} {st st' : List rx_V} {Φ : rx_H → rx_H} {orc : wx_Orc} {bx : Nat → rx_H → List rx_H} {win : List rx_V} {dm n : Nat}
theorem wx_seg_ok (C : ∀ u, rx_Cx p s m args meth c D (rx_AW wr ad0 s.heap.size) (rx_BW wr ad0 s.heap.size) wr (wx_su sb tt u) ro mt) (hwr : wr = true) (hro : ro = rx_ro) (hsb : sb.length = 20) (hΦ : wx_Ph Φ) (okm : rx_MOk xM mt) (hob : Jvm.Cond.instanceMethod Lib.objectInit ∈ rx_bw ∧ Jvm.Cond.code Lib.objectInit ⟨#[0xb1]⟩ 1 none ∈ rx_bw) (hRm : R.frames = mt.2.2.2.2.2.2.1 ∧ R.locals = mt.2.2.2.2.2.2.2.1) (hm : cells ≤ R.cells ∧ slots ≤ R.slots) (hU : u0 + dm ≤ wx_bd) (hO : wx_HO true xM l orc rx_ro Φ t0) (hBx : wx_HB Φ t0 bx) (hWn : win = [] ∨ ∃ (ro2 : List (List rx_V)) (l0 : List rx_V), ro2[4]? = some l0 ∧ (∀ u, rx_Cx p s m args meth c D (rx_AW wr ad0 s.heap.size) (rx_BW wr ad0 s.heap.size) wr (wx_su sb tt u) ro2 mt) ∧ ∀ (k : Nat) (v : rx_V), win[k]? = some v → l0[tt + k]? = some v) (htt : tt ≤ 3000) (hn : rx_HS (Φ h) (Φ t0))
    (hc : wx_seg orc bx win t0 dm n mt.2.2.2.2.2.1 stop pc h L st L' st' = true) (g : rx_Go p l e R s m args below meth c Q D (rx_AW wr ad0 s.heap.size) (rx_BW wr ad0 s.heap.size) (wx_su sb tt (u0 + dm)) ad0 mt stop (Φ t0) L' st' cells slots) : rx_Go p l e R s m args below meth c Q D (rx_AW wr ad0 s.heap.size) (rx_BW wr ad0 s.heap.size) (wx_su sb tt (u0)) ad0 mt pc (Φ h) L st cells slots := by
  subst hwr
  subst hro
  unfold wx_seg at hc
  split at hc
  · rename_i d L1 st1 hw
    obtain ⟨h1, h2⟩ := rx_and2 hc
    obtain ⟨h2, h3⟩ := rx_and2 h2
    have h1 := Nat.le_of_ble_eq_true h1
    obtain ⟨k1, k2⟩ := rx_all2_ok h2
    have hl : rx_LS2 L1 L' := by
      refine ⟨k1, fun i y hy => ?_⟩
      obtain ⟨x, w1, w2⟩ := k2 i _ hy
      cases x with
      | none => cases w2
      | some x => exact ⟨x, w1, rx_vi_of w2⟩
    exact wx_ok (u0 := u0) (dm := dm) C hsb hΦ okm hob hRm hm hU hO hBx hWn htt (PV := fun _ => False) (fun _ _ _ _ z => z) (fun _ _ _ _ _ _ _ z => z.elim) n stop pc 0 h L st _ hw hn (fun s' hs' => by cases hs'; exact wx_mono hsb (by show u0 + d ≤ u0 + dm; omega) rx_HS_rf hl (rx_SS_all h3) g) (fun v' hv' => by cases hv')
  · cases hc
end WXS
/-! the two ticks -/
set_option maxRecDepth 100000 in
theorem wx_tkc0 : wx_seg (wx_or 191 false) wx_bx [] wx_Kst 0 100 rx_tb101 32 0 wx_Kst (rx_ini [wx_r 0, .inl (1, 1000)] 4) [] [some (wx_r 0), some (.inl (1, 1000)), some (.inl rx_top), some (.inl (0, 0))] [] = true := by decide +kernel
set_option maxRecDepth 100000 in
theorem wx_tkm0 : wx_seg (wx_or 191 false) wx_bx [] wx_Kst 0 100 rx_tb174 28 0 wx_Kst (rx_ini [wx_r 28, .inl (1, 1000)] 4) [] [some (wx_r 28), some (.inl (1, 1000)), some (.inl (0, 0)), some (.inl rx_top)] [] = true := by decide +kernel
theorem wx_HO_or {l : Launch} {n j : Nat} (hT : wx_TT l rx_xM rx_ro wx_T j (wx_X n)) : wx_HO true rx_xM l (wx_or j false) rx_ro (wx_fill n) wx_Kst := wx_HO_A (inlN := wx_n0) (by decide) rx_hob rx_all (wx_Ph_fill n) hT 0
theorem wx_tkCT {l : Launch} {n : Nat} (hT : wx_TT l rx_xM rx_ro wx_T 191 (wx_X n)) : wx_TE l rx_ro (wx_X n) rx_m101 ([wx_r 0, .inl (1, 1000)], some (.inl (0, 1000)), 295000, false) := by
  intro D sb tt u hsb htt hu ad sz
  have hu : u + 295000 ≤ wx_bd := hu
  refine wx_entry (by decide) (rx_all 101 _ rx_x101) (by show 2 ≤ 4; decide) hsb (fun p e s m args below meth c hsz C => ?_)
  refine wx_seg_ok (u0 := u) C rfl rfl hsb (wx_Ph_fill n) (rx_all 101 _ rx_x101) rx_hob ⟨rfl, rfl⟩ ⟨Nat.le_refl _, Nat.le_refl _⟩ (by omega) (wx_HO_or hT) (wx_HB_bx n) (Or.inl rfl) htt rx_HS_rf wx_tkc0 ?_
  exact wx_tkC C rfl hsb htt rfl rfl ⟨rfl, rfl⟩ ⟨Nat.le_refl _, Nat.le_refl _⟩ hu rfl (hT 99 _ (by decide) rx_x99 _ List.mem_cons_self) 1000 0 0 rfl (by decide)
theorem wx_tkMT {l : Launch} {n : Nat} (hT : wx_TT l rx_xM rx_ro wx_T 191 (wx_X n)) : wx_TE l rx_ro (wx_X n) rx_m174 ([wx_r 28, .inl (1, 1000)], some (.inl (0, 1000)), 299000, false) := by
  intro D sb tt u hsb htt hu ad sz
  have hu : u + 299000 ≤ wx_bd := hu
  refine wx_entry (by decide) (rx_all 174 _ rx_x174) (by show 2 ≤ 4; decide) hsb (fun p e s m args below meth c hsz C => ?_)
  refine wx_seg_ok (u0 := u) C rfl rfl hsb (wx_Ph_fill n) (rx_all 174 _ rx_x174) rx_hob ⟨rfl, rfl⟩ ⟨Nat.le_refl _, Nat.le_refl _⟩ (by omega) (wx_HO_or hT) (wx_HB_bx n) (Or.inl rfl) htt rx_HS_rf wx_tkm0 ?_
  exact wx_tkM C rfl hsb htt rfl rfl ⟨rfl, rfl⟩ ⟨Nat.le_refl _, Nat.le_refl _⟩ hu rfl (hT 171 _ (by decide) rx_x171 _ List.mem_cons_self) (hT 172 _ (by decide) rx_x172 _ List.mem_cons_self) 1000 0 0 rfl (by decide)
def wx_eMt : List wx_En := [([wx_r 28, .inl (-2147483648, 0)], some (.inl (0, 1000)), 0, false), ([wx_r 28, .inl (1001, 2147483647)], some (.inl (0, 1000)), 0, false)]
set_option maxRecDepth 100000 in
theorem wx_kMt : wx_eMt.all (fun e => wx_chk (wx_or 191 e.2.2.2) rx_ro wx_bx wx_Kst 6000 rx_m174 e) = true := by decide +kernel
theorem wx_goL {l : Launch} {n j lim : Nat} (hT : wx_TT l rx_xM rx_ro wx_T lim (wx_X n)) {mj : rx_MT} (hj : rx_xM[j]? = some mj) {es : List wx_En} (hk : es.all (fun e => wx_chk (wx_or lim e.2.2.2) rx_ro wx_bx wx_Kst 6000 mj e) = true) : ∀ e ∈ es, wx_TE l rx_ro (wx_X n) mj e := by
  intro e he
  have hc := List.all_eq_true.mp hk e he
  refine wx_chk_ok (Φ := wx_fill n) (by decide) (wx_Ph_fill n) rx_hob ?_ (wx_HB_bx n) (rx_all j mj hj) hc
  unfold wx_or
  cases e.2.2.2 with
  | false => exact wx_HO_A (inlN := wx_n0) (by decide) rx_hob rx_all (wx_Ph_fill n) hT 0
  | true => exact wx_HO_Pk (by decide) rx_hob rx_all (wx_Ph_fill n) hT 1 _ _ rx_HS_rf
/-- with ticks -/
def wx_T2 (j : Nat) : List wx_En := bif Nat.beq j 101 then [([wx_r 0, .inl (1, 1000)], some (.inl (0, 1000)), 295000, false)] else bif Nat.beq j 174 then ([wx_r 28, .inl (1, 1000)], some (.inl (0, 1000)), 299000, false) :: wx_eMt else wx_T j
theorem wx_TT2 {l : Launch} {n : Nat} (hn : n ≤ 40) : wx_TT l rx_xM rx_ro wx_T2 191 (wx_X n) := by
  have hT := wx_every (l := l) hn
  intro j mj hj hm e he
  unfold wx_T2 at he
  cases h1 : Nat.beq j 101 with
  | true =>
    rw [h1] at he
    have ej := Nat.eq_of_beq_eq_true h1
    subst ej
    cases rx_x101.symm.trans hm
    rcases List.mem_cons.mp he with rfl | he
    · exact wx_tkCT hT
    · cases he
  | false =>
    rw [h1] at he
    cases h2 : Nat.beq j 174 with
    | true =>
      rw [h2] at he
      have ej := Nat.eq_of_beq_eq_true h2
      subst ej
      cases rx_x174.symm.trans hm
      rcases List.mem_cons.mp he with rfl | he
      · exact wx_tkMT hT
      · exact wx_goL hT rx_x174 wx_kMt e he
    | false =>
      rw [h2] at he
      exact hT j mj hj hm e he
