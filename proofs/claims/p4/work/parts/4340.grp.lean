/-! BY HAND: groups. Where a group's set runs its capacity is above 0. -/
def wx_g4 (g : Int) : rx_F := [some (wx_r 28), some (.inl (g, g)), none, none]
noncomputable def wx_oG : wx_Orc := wx_A rx_xM rx_ro wx_T 153 wx_dB wx_iB wx_n0 wx_Kst 600 0
def wx_ob (a b : Option rx_V) : Bool := match a, b with
  | some x, some y => rx_sb x y
  | _, none => true
  | none, some _ => false
noncomputable def wx_gok (g : Int) (L : rx_F) : Bool := rx_all2 wx_ob L (wx_g4 g)
noncomputable def wx_gck (g : Int) (h : rx_H) : Bool := match wx true wx_oG rx_ro wx_nb [] wx_Kst 0 3000 rx_tb153 135 8 0 h (wx_g4 g) [wx_r 28] with
  | some (some (d, L, st), none) => Nat.beq d 0 && (st.isEmpty && wx_gok g L)
  | _ => false
noncomputable def wx_gall (g x y z : Nat) : Bool := (wx_tree (wx_grp g x y z) wx_sta).all fun st => rx_fl ((wx_Kst.set 39 (.inr (1, wx_clo x y z))).set 29 (.inr (0, st))) fun h => wx_gck (g : Int) h
section WXS
variable {p : Program} {l : Launch} {e : Env} {R : Room} {s : State} {m : MethodId} {args : Array Value} {below : List Frame} {meth : Method} {c : Code} {Q : State → Prop} {D : va_G} {A B : Nat → Prop} {wr : Bool} {sb ad0 : List Nat} {tt : Nat} {ro : List (List rx_V)} {mt : rx_MT} {xM : List rx_MT} {cells slots : Nat} {n u0 : Nat} {g : Int} {h : rx_H}
theorem wx_gbox (C : ∀ u, rx_Cx p s m args meth c D (rx_AW wr ad0 s.heap.size) (rx_BW wr ad0 s.heap.size) wr (wx_su sb tt u) ro mt) (hwr : wr = true) (hsb : sb.length = 20) (htt : tt ≤ 3000) (hmt : mt = rx_m153) (hxM : xM = rx_xM) (hro : ro = rx_ro) (hRm : R.frames = mt.2.2.2.2.2.2.1 ∧ R.locals = mt.2.2.2.2.2.2.2.1) (hm : cells ≤ R.cells ∧ slots ≤ R.slots) (hU : u0 ≤ wx_bd) (hT : wx_TT l rx_xM rx_ro wx_T 153 (wx_X n)) (hn : rx_HS (wx_fill n h) (wx_X n)) (hc : wx_gck g h = true) (nx : rx_Go p l e R s m args below meth c Q D (rx_AW wr ad0 s.heap.size) (rx_BW wr ad0 s.heap.size) (wx_su sb tt (u0)) ad0 mt 135 (wx_X n) (wx_g4 g) [] cells slots) : rx_Go p l e R s m args below meth c Q D (rx_AW wr ad0 s.heap.size) (rx_BW wr ad0 s.heap.size) (wx_su sb tt (u0)) ad0 mt 8 (wx_fill n h) (wx_g4 g) [wx_r 28] cells slots := by
  unfold wx_gck at hc
  split at hc
  · rename_i d L st hw
    obtain ⟨e1, hc⟩ := rx_and2 hc
    obtain ⟨e2, hc⟩ := rx_and2 hc
    have e1 := Nat.eq_of_beq_eq_true e1
    have e2 : st = [] := by
      cases st with
      | nil => rfl
      | cons a t => cases e2
    subst e1
    subst e2
    have hl : rx_LS2 L (wx_g4 g) := by
      obtain ⟨k1, k2⟩ := rx_all2_ok hc
      refine ⟨k1, fun i y hy => ?_⟩
      obtain ⟨x, w1, w2⟩ := k2 i _ hy
      cases x with
      | none => cases w2
      | some x => exact ⟨x, w1, rx_vi_of w2⟩
    subst hmt
    subst hxM
    subst hro
    subst hwr
    have hO : wx_HO true rx_xM l wx_oG rx_ro (wx_fill n) wx_Kst := wx_HO_A (inlN := wx_n0) (by decide) rx_hob rx_all (wx_Ph_fill n) hT 0
    exact wx_ok (u0 := u0) (dm := 0) C hsb (wx_Ph_fill n) (rx_all 153 _ rx_x153) rx_hob hRm hm hU hO wx_HB_nb (Or.inl rfl) htt (PV := fun _ => False) (fun _ _ _ _ z => z) (fun _ _ _ _ _ _ _ z => z.elim) 3000 135 8 0 h _ [wx_r 28] _ hw hn (fun s' hs' => by cases hs'; exact wx_mono hsb (Nat.le_refl _) rx_HS_rf hl rx_SS_rf nx) (fun v' hv' => by cases hv')
  · cases hc
end WXS
theorem wx_bxa_eq {g : Nat} (hg : g ≤ 2) : wx_bx g wx_Kst = wx_bxa g wx_Kst := by
  match g, hg with
  | 0, _ => rfl
  | 1, _ => rfl
  | 2, _ => rfl
  | _ + 3, hg => omega
