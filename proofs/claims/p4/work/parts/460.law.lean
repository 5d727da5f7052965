/-! THE LAW's LOOP -/
def wx_Lw (i : rx_V) : rx_F := [some (.inr (.inr (.inr 4))), some (wx_r 0), some (wx_r 28), some (wx_r 56), some i, none, none]
def wx_ix : rx_V := .inr (.inr (.inr 650000))
/-- nothing here speaks of the script's place -/
def wx_ni (v : rx_V) : Bool := match v with
  | .inr (.inr (.inr j)) => !(Nat.ble 650000 j && Nat.ble j 650009)
  | _ => true
def wx_cni (c : rx_C) : Bool := match c with
  | .inl (_, l) => l.all wx_ni
  | .inr (_, l) => l.all wx_ni
theorem rx_G_t {ad sb : List Nat} {t t' u : Nat} {v : rx_V} {x : Value} (hsb : sb.length = 20) (hv : wx_ni v = true) (h : rx_G ad (wx_su sb t u) v x) : rx_G ad (wx_su sb t' u) v x := by
  match v, hv, h with
  | .inl q, _, h => exact h
  | .inr (.inl q), _, h => exact h
  | .inr (.inr (.inl none)), _, h => exact h
  | .inr (.inr (.inl (some k))), _, h => exact h
  | .inr (.inr (.inr j)), hv, h =>
    rcases h with ⟨h0, a, h1, h2⟩ | ⟨h1, h2, i, h3, h⟩ | h
    · rw [wx_sul hsb h0] at h1
      exact Or.inl ⟨h0, a, by rw [wx_sul hsb h0]; exact h1, h2⟩
    · refine Or.inr (Or.inl ⟨h1, h2, i, h3, ?_⟩)
      rcases h with h | h | h | h | ⟨g1, g2, w, g3, g4, g5⟩ | ⟨g1, g2, -⟩
      · exact Or.inl h
      · exact Or.inr (Or.inl h)
      · exact Or.inr (Or.inr (Or.inl h))
      · exact Or.inr (Or.inr (Or.inr (Or.inl h)))
      · rw [wx_su20 hsb] at g3
        cases g3
        exact Or.inr (Or.inr (Or.inr (Or.inr (Or.inl ⟨g1, g2, u, wx_su20 hsb, g4, g5⟩))))
      · have hv : (!(Nat.ble 650000 j && Nat.ble j 650009)) = true := hv
        rw [Nat.ble_eq_true_of_le g1, Nat.ble_eq_true_of_le g2] at hv
        cases hv
    · exact Or.inr (Or.inr h)
theorem rx_S_t {ad sb : List Nat} {t t' u : Nat} (hsb : sb.length = 20) : ∀ {a : List rx_V} {l : List Value}, a.all wx_ni = true → rx_S ad (wx_su sb t u) a l → rx_S ad (wx_su sb t' u) a l
  | [], [], _, _ => trivial
  | v :: a, x :: l, hv, h => by
    rw [List.all_cons] at hv
    obtain ⟨h1, h2⟩ := rx_and2 hv
    exact ⟨rx_G_t hsb h1 h.1, rx_S_t hsb h2 h.2⟩
  | [], _ :: _, _, h => h.elim
  | _ :: _, [], _, h => h.elim
theorem rx_W_t {U : State} {ad sb : List Nat} {t t' u : Nat} {h : rx_H} {ws : va_W} (hsb : sb.length = 20) (hh : h.all wx_cni = true) (hW : rx_W U ad (wx_su sb t u) h ws) : rx_W U ad (wx_su sb t' u) h ws := by
  refine ⟨hW.1, hW.2.1, fun k c hk => ?_⟩
  obtain ⟨a, E, h1, h2⟩ := hW.2.2 k c hk
  have hc := List.all_eq_true.mp hh c (List.mem_of_getElem? hk)
  refine ⟨a, E, h1, ?_⟩
  rcases c with ⟨i, l⟩ | ⟨i, l⟩
  · obtain ⟨fs, g1, g2⟩ := h2
    exact ⟨fs, g1, rx_S_t hsb hc g2⟩
  · obtain ⟨cA, g1, g2⟩ := h2
    have he : ∀ (j : Nat) (v : rx_V), l[j]? = some v → wx_ni v = true := fun j v hv => List.all_eq_true.mp hc v (List.mem_of_getElem? hv)
    refine ⟨cA, g1, ?_⟩
    match i, g2 with
    | 0, g2 => obtain ⟨f, q1, q2⟩ := g2; exact ⟨f, q1, fun j v hv => rx_G_t hsb (he j v hv) (q2 j v hv)⟩
    | 1, g2 => obtain ⟨f, q1, q2⟩ := g2; exact ⟨f, q1, fun j v hv => rx_G_t hsb (he j v hv) (q2 j v hv)⟩
    | 2, g2 => obtain ⟨f, q1, q2⟩ := g2; exact ⟨f, q1, fun j v hv => rx_G_t hsb (he j v hv) (q2 j v hv)⟩
    | n + 3, g2 => obtain ⟨f, q1, q2⟩ := g2; exact ⟨f, q1, fun j v hv => rx_G_t hsb (he j v hv) (q2 j v hv)⟩
theorem rx_L_t {ad sb : List Nat} {t t' u nL : Nat} {L : rx_F} {ls : Array Slot} (hsb : sb.length = 20) (hv : ∀ (i : Nat) (v : rx_V), L[i]? = some (some v) → wx_ni v = true) (h : rx_L ad (wx_su sb t u) nL L ls) : rx_L ad (wx_su sb t' u) nL L ls := by
  obtain ⟨l, h1, h2, h3⟩ := h
  refine ⟨l, h1, h2, fun i v hi => ?_⟩
  obtain ⟨x, g1, g2⟩ := h3 i v hi
  exact ⟨x, g1, rx_G_t hsb (hv i v hi) g2⟩
theorem wx_fill_ni {n : Nat} {h : rx_H} (hh : h.all wx_cni = true) : (wx_fill n h).all wx_cni = true := by
  have hv : ∀ a i v, wx_ni v = true → wx_ni (wx_fv n a i v) = true := by
    intro a i v hv
    unfold wx_fv
    cases wx_nh v with
    | true => exact hv
    | false =>
      show wx_ni (wx_hv n a i) = true
      unfold wx_hv
      cases Nat.beq a 9 with
      | true =>
        cases Nat.ble (i + 1) n with
        | true => rfl
        | false => rfl
      | false => rfl
  have hl : ∀ a (l : List rx_V) (k : Nat), l.all wx_ni = true → (wx_mi (wx_fv n a) l k).all wx_ni = true := by
    intro a l
    induction l with
    | nil => intro k _; rfl
    | cons v t ih =>
      intro k hk
      rw [List.all_cons] at hk
      obtain ⟨h1, h2⟩ := rx_and2 hk
      show (wx_ni (wx_fv n a k v) && (wx_mi (wx_fv n a) t (k + 1)).all wx_ni) = true
      rw [hv a k v h1, ih (k + 1) h2]
      rfl
  have hc : ∀ (g : rx_H) (k : Nat), g.all wx_cni = true → (wx_mi (wx_fc n) g k).all wx_cni = true := by
    intro g
    induction g with
    | nil => intro k _; rfl
    | cons c t ih =>
      intro k hk
      rw [List.all_cons] at hk
      obtain ⟨h1, h2⟩ := rx_and2 hk
      have h3 : wx_cni (wx_fc n k c) = true := by
        rcases c with ⟨i, l⟩ | ⟨i, l⟩
        · exact hl k l 0 h1
        · exact hl k l 0 h1
      show (wx_cni (wx_fc n k c) && (wx_mi (wx_fc n) t (k + 1)).all wx_cni) = true
      rw [h3, ih (k + 1) h2]
      rfl
  unfold wx_fill
  rw [List.all_append, hc h 0 hh]
  refine List.all_eq_true.mpr (fun c hc => ?_)
  rw [(List.mem_replicate.mp hc).2]
  rfl
theorem wx_X_ni {n : Nat} : (wx_X n).all wx_cni = true := wx_fill_ni (by decide +kernel)
/-- what a helper's call does -/
def wx_HX (l : Launch) (X X' : rx_H) (my : rx_MT) (hh : List (Nat × Nat × Nat × Nat)) (as : List rx_V) (dm : Nat) (rv : Int × Int) : Prop := ∀ (D : va_G) (sb : List Nat) (tt u : Nat), sb.length = 20 → tt ≤ 3000 → 100 ≤ u → u + dm ≤ wx_bd → ∀ (ad : List Nat) (sz : Nat), Met l my.1 (rx_wsH my hh) (rx_rm my 1 7) (rx_Pc true D (wx_su sb tt u) ad rx_ro X as sz) (rx_Qc true D (wx_su sb tt (u + dm)) ad X' (some (.inl rv)) sz) 1 7 (rx_AW true ad sz)
def wx_HE (l : Launch) (n n' : Nat) (my : rx_MT) (hh : List (Nat × Nat × Nat × Nat)) (as : List rx_V) (dm : Nat) : Prop := wx_HX l (wx_X n) (wx_X n') my hh as dm (0, 2)
theorem wx_HX_up {l : Launch} {X X' : rx_H} {my : rx_MT} {hh : List (Nat × Nat × Nat × Nat)} {as : List rx_V} {d d' : Nat} {rv : Int × Int} (h : wx_HX l X X' my hh as d rv) (hd : d ≤ d') : wx_HX l X X' my hh as d' rv :=
  fun D sb tt u hsb htt h1 h2 ad sz => wx_Met (h D sb tt u hsb htt h1 (by omega) ad sz) (fun _ _ q => q) (fun a s o t _ hq => rx_Qc_up hsb (by omega) rx_HS_rf wx_sem_rf a s o t hq) (fun _ q => q)
def wx_dV (j : Nat) : Bool := Nat.beq j 1000
def wx_iV (j : Nat) : Option Nat := none
noncomputable def wx_oW : wx_Orc := wx_A rx_xM rx_ro wx_T2 191 wx_dV wx_iP wx_iV wx_Kst 600 3
theorem wx_HO_W {l : Launch} {n : Nat} (hn : n ≤ 40) : wx_HO true rx_xM l wx_oW rx_ro (wx_fill n) wx_Kst := wx_HO_A (by decide) rx_hob rx_all (wx_Ph_fill n) (wx_TT2 hn) 3
/-- the law's way through a call that needs no helper; with one: up to it, from it on -/
noncomputable def wx_lawN (c : Nat) (w : List rx_V) : Bool := wx_seg wx_oW wx_bx (.inr (.inr (.inr (400000 + c))) :: w) wx_Kst 1000 3000 rx_tbL7 795 32 wx_Kst (wx_Lw wx_ix) [] (wx_Lw wx_ix) []
noncomputable def wx_lawA (c pcH : Nat) (w as : List rx_V) : Bool := wx_seg wx_oW wx_bx (.inr (.inr (.inr (400000 + c))) :: w) wx_Kst 0 3000 rx_tbL7 pcH 32 wx_Kst (wx_Lw wx_ix) [] (wx_Lw wx_ix) as.reverse
noncomputable def wx_lawB (c pc stop : Nat) (w st st' : List rx_V) : Bool := wx_seg wx_oW wx_bx (.inr (.inr (.inr (400000 + c))) :: w) wx_Kst 300000 3000 rx_tbL7 stop pc wx_Kst (wx_Lw wx_ix) st (wx_Lw wx_ix) st'
section WXS
variable {p : Program} {l : Launch} {e : Env} {R : Room} {s : State} {m : MethodId} {args : Array Value} {below : List Frame} {meth : Method} {c : Code} {Q : State → Prop} {D : va_G} {A B : Nat → Prop} {wr : Bool} {sb ad0 : List Nat} {tt : Nat} {ro : List (List rx_V)} {mt : rx_MT} {xM : List rx_MT} {cells slots : Nat} {n n' u c0 : Nat} {w : List rx_V}
theorem wx_lawN_ok (C : ∀ u, rx_Cx p s m args meth c D (rx_AW wr ad0 s.heap.size) (rx_BW wr ad0 s.heap.size) wr (wx_su sb tt u) ro mt) (hwr : wr = true) (hmt : mt = rx_mL7) (hxM : xM = rx_xM) (hro : ro = rx_ro) (hsb : sb.length = 20) (hRm : R.frames = mt.2.2.2.2.2.2.1 ∧ R.locals = mt.2.2.2.2.2.2.2.1) (hm : cells ≤ R.cells ∧ slots ≤ R.slots) (hn : n ≤ 40) (hU : u + 1000 ≤ wx_bd) (htt : tt ≤ 3000) (hWn : ∃ (ro2 : List (List rx_V)) (l0 : List rx_V), ro2[4]? = some l0 ∧ (∀ u, rx_Cx p s m args meth c D (rx_AW wr ad0 s.heap.size) (rx_BW wr ad0 s.heap.size) wr (wx_su sb tt u) ro2 mt) ∧ ∀ (k : Nat) (v : rx_V), (.inr (.inr (.inr (400000 + c0))) :: w)[k]? = some v → l0[tt + k]? = some v)
    (hc : wx_lawN c0 w = true) (g : rx_Go p l e R s m args below meth c Q D (rx_AW wr ad0 s.heap.size) (rx_BW wr ad0 s.heap.size) (wx_su sb tt (u + 1000)) ad0 mt 795 (wx_X n) (wx_Lw wx_ix) [] cells slots) : rx_Go p l e R s m args below meth c Q D (rx_AW wr ad0 s.heap.size) (rx_BW wr ad0 s.heap.size) (wx_su sb tt (u)) ad0 mt 32 (wx_X n) (wx_Lw wx_ix) [] cells slots := by
  subst hmt
  subst hxM
  exact wx_seg_ok (u0 := u) C hwr hro hsb (wx_Ph_fill n) rx_moL7 rx_hob hRm hm hU (wx_HO_W hn) (wx_HB_bx n) (Or.inr hWn) htt rx_HS_rf hc g
theorem wx_lawH_ok {i tg dm : Nat} {K : rx_K} {pcH pcZ : Nat} {as st' : List rx_V} {my : rx_MT} {hh : List (Nat × Nat × Nat × Nat)} (C : ∀ u, rx_Cx p s m args meth c D (rx_AW wr ad0 s.heap.size) (rx_BW wr ad0 s.heap.size) wr (wx_su sb tt u) ro mt) (hwr : wr = true) (hmt : mt = rx_mL7) (hxM : xM = rx_xM) (hro : ro = rx_ro) (hsb : sb.length = 20) (hRm : R.frames = mt.2.2.2.2.2.2.1 ∧ R.locals = mt.2.2.2.2.2.2.2.1) (hm : cells + 1 ≤ R.cells ∧ slots + 7 ≤ R.slots) (hn : n ≤ 40) (hn' : n' ≤ 40) (h100 : 100 ≤ u) (hU : u + dm + 300000 ≤ wx_bd) (htt : tt ≤ 3000) (hWn : ∃ (ro2 : List (List rx_V)) (l0 : List rx_V), ro2[4]? = some l0 ∧ (∀ u, rx_Cx p s m args meth c D (rx_AW wr ad0 s.heap.size) (rx_BW wr ad0 s.heap.size) wr (wx_su sb tt u) ro2 mt) ∧ ∀ (k : Nat) (v : rx_V), (.inr (.inr (.inr (400000 + c0))) :: w)[k]? = some v → l0[tt + k]? = some v)
    (hrow : rx_tbL7 pcH = some (.invokestatic i, pcH + 3, tg, K)) (hK : K.1 = 16) (hy : rx_hy[K.2.1 - 1000]? = some my.1) (y2 : Jvm.Cond.codeWith my.1 my.2.1 my.2.2.1 my.2.2.2.1 hh ∈ rx_bw) (y3 : Jvm.Cond.static my.1 ∈ rx_bw) (y4 : Jvm.Cond.initialized my.1.cls ∈ rx_bw) (y5 : my.1.cls ≠ "java/lang/invoke/MethodHandle" ∧ my.1.cls ≠ "java/lang/invoke/VarHandle") (y7 : my.2.2.2.2.2.2.1 + 1 ≤ 10) (y8 : 8 + (my.2.2.1 + 11) + my.2.2.2.2.2.2.2.1 ≤ 364) (hlen : as.length = K.2.2.1)
    (hA : wx_lawA c0 pcH w as = true) (hH : wx_HE l n n' my hh as dm) (hB : wx_lawB c0 (pcH + 3) pcZ w [.inl (0, 2)] st' = true) (g : rx_Go p l e R s m args below meth c Q D (rx_AW wr ad0 s.heap.size) (rx_BW wr ad0 s.heap.size) (wx_su sb tt (u + dm + 300000)) ad0 mt pcZ (wx_X n') (wx_Lw wx_ix) st' (cells + 1) (slots + 7)) : rx_Go p l e R s m args below meth c Q D (rx_AW wr ad0 s.heap.size) (rx_BW wr ad0 s.heap.size) (wx_su sb tt (u)) ad0 mt 32 (wx_X n) (wx_Lw wx_ix) [] cells slots := by
  subst hmt
  subst hxM
  refine wx_seg_ok (u0 := u) C hwr hro hsb (wx_Ph_fill n) rx_moL7 rx_hob hRm (by omega) (by omega) (wx_HO_W hn) (wx_HB_bx n) (Or.inr hWn) htt rx_HS_rf hA ?_
  subst hwr
  subst hro
  refine wx_callH (u := u + 0) (u1 := u + dm) (as := as) (r := []) (v1 := some (.inl (0, 2))) C hsb (by omega) (rx_moL7.1 pcH _ hrow) hK hy y2 y3 y4 y5 y7 y8 hRm hm (by rw [List.append_nil]) hlen (by decide) (fun ad sz => hH D sb tt u hsb htt h100 (by omega) ad sz) ?_
  exact wx_seg_ok (u0 := u + dm) C rfl rfl hsb (wx_Ph_fill n') rx_moL7 rx_hob hRm hm hU (wx_HO_W hn') (wx_HB_bx n') (Or.inr hWn) htt rx_HS_rf hB g
/-- the reference's event, called by the law -/
def wx_ME (l : Launch) (n : Nat) (as : List rx_V) : Prop := ∀ (D : va_G) (sb : List Nat) (tt u : Nat), sb.length = 20 → tt ≤ 3000 → 100 ≤ u → u ≤ wx_bd → ∀ (ad : List Nat) (sz : Nat), Met l rx_m189.1 (rx_ws rx_m189) (rx_rm rx_m189 0 0) (rx_Pc true D (wx_su sb tt u) ad rx_ro (wx_X n) (wx_r 28 :: as) sz) (rx_Qc true D (wx_su sb tt u) ad (wx_X n) (some (.inl rx_top)) sz) 0 0 (rx_AW true ad sz)
theorem wx_lawM_ok {i tg pcM : Nat} {K : rx_K} {as : List rx_V} (C : ∀ u, rx_Cx p s m args meth c D (rx_AW wr ad0 s.heap.size) (rx_BW wr ad0 s.heap.size) wr (wx_su sb tt u) ro mt) (hwr : wr = true) (hmt : mt = rx_mL7) (hxM : xM = rx_xM) (hro : ro = rx_ro) (hsb : sb.length = 20) (hRm : R.frames = mt.2.2.2.2.2.2.1 ∧ R.locals = mt.2.2.2.2.2.2.2.1) (hm : cells ≤ R.cells ∧ slots ≤ R.slots) (hn : n ≤ 40) (h100 : 100 ≤ u) (hU : u + 300000 ≤ wx_bd) (htt : tt ≤ 3000) (hWn : ∃ (ro2 : List (List rx_V)) (l0 : List rx_V), ro2[4]? = some l0 ∧ (∀ u, rx_Cx p s m args meth c D (rx_AW wr ad0 s.heap.size) (rx_BW wr ad0 s.heap.size) wr (wx_su sb tt u) ro2 mt) ∧ ∀ (k : Nat) (v : rx_V), (.inr (.inr (.inr (400000 + c0))) :: w)[k]? = some v → l0[tt + k]? = some v)
    (hrow : rx_tbL7 pcM = some (.invokevirtual i, pcM + 3, tg, K)) (hK : K.1 = 5) (hj : K.2.1 = 189) (hlen : as.length + 1 = K.2.2.1) (hcl : K.2.2.2.toNat = 11)
    (hE : wx_ME l n as) (hB : wx_lawB c0 (pcM + 3) 795 w [.inl rx_top] [] = true) (g : rx_Go p l e R s m args below meth c Q D (rx_AW wr ad0 s.heap.size) (rx_BW wr ad0 s.heap.size) (wx_su sb tt (u + 300000)) ad0 mt 795 (wx_X n) (wx_Lw wx_ix) [] cells slots) : rx_Go p l e R s m args below meth c Q D (rx_AW wr ad0 s.heap.size) (rx_BW wr ad0 s.heap.size) (wx_su sb tt (u)) ad0 mt pcM (wx_X n) (wx_Lw wx_ix) (wx_r 28 :: as).reverse cells slots := by
  subst hmt
  subst hxM
  subst hwr
  subst hro
  refine wx_callV (u1 := u) (X1 := wx_X n) (as := as) (r := []) (v1 := some (.inl rx_top)) (o := wx_r 28) (a := 28) (n := 1) C hsb (Nat.le_refl _) (rx_moL7.1 pcM _ hrow) hK (by rw [hj]; exact rx_x189) hRm hm (by rw [List.append_nil]) hlen (by decide) rfl (fun i h1 h2 => ?_) (fun ad sz => hE D sb tt u hsb htt h100 (by omega) ad sz) ?_
  · have e : i = 28 := by omega
    subst e
    rw [hcl]
    exact ⟨_, wx_fill_get (h := wx_Kst) (a := 28) rfl⟩
  exact wx_seg_ok (u0 := u) C rfl rfl hsb (wx_Ph_fill n) rx_moL7 rx_hob hRm hm hU (wx_HO_W hn) (wx_HB_bx n) (Or.inr hWn) htt rx_HS_rf hB g
/-- a stretch of the law in a table of its own -/
def wx_L5 (k : Int × Int) : rx_F := [some (.inr (.inr (.inr 4))), some (wx_r 0), some (wx_r 28), some (wx_r 56), some wx_ix, some (.inl k), none]
def wx_L6 (k bv : Int × Int) : rx_F := [some (.inr (.inr (.inr 4))), some (wx_r 0), some (wx_r 28), some (wx_r 56), some wx_ix, some (.inl k), some (.inl bv)]
def wx_SG (l : Launch) (c0 pc stop : Nat) (w : List rx_V) (X X' : rx_H) (L : rx_F) (st : List rx_V) (L' : rx_F) (st' : List rx_V) : Prop := ∃ (Φ : rx_H → rx_H) (orc : wx_Orc) (h t0 : rx_H), wx_Ph Φ ∧ wx_HO true rx_xM l orc rx_ro Φ t0 ∧ Φ h = X ∧ Φ t0 = X' ∧ rx_HS X X' ∧ wx_seg orc wx_nb (.inr (.inr (.inr (400000 + c0))) :: w) t0 0 3000 rx_tbL7 stop pc h L st L' st' = true
theorem wx_SG_ok {pc stop : Nat} {X X' : rx_H} {L L' : rx_F} {st st' : List rx_V} (C : ∀ u, rx_Cx p s m args meth c D (rx_AW wr ad0 s.heap.size) (rx_BW wr ad0 s.heap.size) wr (wx_su sb tt u) ro mt) (hwr : wr = true) (hmt : mt = rx_mL7) (hro : ro = rx_ro) (hsb : sb.length = 20) (hRm : R.frames = mt.2.2.2.2.2.2.1 ∧ R.locals = mt.2.2.2.2.2.2.2.1) (hm : cells ≤ R.cells ∧ slots ≤ R.slots) (hU : u ≤ wx_bd) (htt : tt ≤ 3000) (hWn : ∃ (ro2 : List (List rx_V)) (l0 : List rx_V), ro2[4]? = some l0 ∧ (∀ u, rx_Cx p s m args meth c D (rx_AW wr ad0 s.heap.size) (rx_BW wr ad0 s.heap.size) wr (wx_su sb tt u) ro2 mt) ∧ ∀ (k : Nat) (v : rx_V), (.inr (.inr (.inr (400000 + c0))) :: w)[k]? = some v → l0[tt + k]? = some v)
    (hS : wx_SG l c0 pc stop w X X' L st L' st') (g : rx_Go p l e R s m args below meth c Q D (rx_AW wr ad0 s.heap.size) (rx_BW wr ad0 s.heap.size) (wx_su sb tt (u)) ad0 mt stop X' L' st' cells slots) : rx_Go p l e R s m args below meth c Q D (rx_AW wr ad0 s.heap.size) (rx_BW wr ad0 s.heap.size) (wx_su sb tt (u)) ad0 mt pc X L st cells slots := by
  subst hmt
  obtain ⟨Φ, orc, h, t0, h1, h2, rfl, rfl, h5, h6⟩ := hS
  exact wx_seg_ok (xM := rx_xM) (u0 := u) (dm := 0) C hwr hro hsb h1 rx_moL7 rx_hob hRm hm hU h2 wx_HB_nb (Or.inr hWn) htt h5 h6 g
/-- the reference's consumer -/
def wx_MC (l : Launch) (X X' : rx_H) (as : List rx_V) (v0 : Int × Int) : Prop := ∀ (D : va_G) (sb : List Nat) (tt u : Nat), sb.length = 20 → ∀ (ad : List Nat) (sz : Nat), Met l rx_m177.1 (rx_ws rx_m177) (rx_rm rx_m177 0 0) (rx_Pc true D (wx_su sb tt u) ad rx_ro X (wx_r 28 :: as) sz) (rx_Qc true D (wx_su sb tt u) ad X' (some (.inl v0)) sz) 0 0 (rx_AW true ad sz)
def wx_MT (l : Launch) (X : rx_H) (v0 : Int × Int) : Prop := ∀ (D : va_G) (sb : List Nat) (tt u : Nat), sb.length = 20 → ∀ (ad : List Nat) (sz : Nat), Met l rx_m124.1 (rx_ws rx_m124) (rx_rm rx_m124 0 0) (rx_Pc true D (wx_su sb tt u) ad rx_ro X [wx_r 28] sz) (rx_Qc true D (wx_su sb tt u) ad X (some (.inl v0)) sz) 0 0 (rx_AW true ad sz)
/-- straight on, exactly -/
noncomputable def wx_ctc (stop pc : Nat) (h : rx_H) (L : rx_F) (st : List rx_V) (h1 : rx_H) (L1 : rx_F) (st1 : List rx_V) : Bool := match rx_cut true rx_ro rx_tbL7 stop 60 pc h L st with
  | some (h2, L2, st2) => rx_all2 rx_sbC h2 h1 && (rx_all2 wx_ob L2 L1 && rx_all2 rx_sb st2 st1)
  | none => false
theorem wx_ctc_ok {pc stop : Nat} {h h1 : rx_H} {L L1 : rx_F} {st st1 : List rx_V} (C : ∀ u, rx_Cx p s m args meth c D (rx_AW wr ad0 s.heap.size) (rx_BW wr ad0 s.heap.size) wr (wx_su sb tt u) ro mt) (hwr : wr = true) (hmt : mt = rx_mL7) (hro : ro = rx_ro) (hsb : sb.length = 20) (hRm : R.frames = mt.2.2.2.2.2.2.1 ∧ R.locals = mt.2.2.2.2.2.2.2.1) (hm : cells ≤ R.cells ∧ slots ≤ R.slots) (hc : wx_ctc stop pc h L st h1 L1 st1 = true) (g : rx_Go p l e R s m args below meth c Q D (rx_AW wr ad0 s.heap.size) (rx_BW wr ad0 s.heap.size) (wx_su sb tt (u)) ad0 mt stop h1 L1 st1 cells slots) : rx_Go p l e R s m args below meth c Q D (rx_AW wr ad0 s.heap.size) (rx_BW wr ad0 s.heap.size) (wx_su sb tt (u)) ad0 mt pc h L st cells slots := by
  subst hmt
  subst hwr
  subst hro
  unfold wx_ctc at hc
  split at hc
  · rename_i h2 L2 st2 hr
    obtain ⟨g1, g2⟩ := rx_and2 hc
    obtain ⟨g2, g3⟩ := rx_and2 g2
    obtain ⟨k1, k2⟩ := rx_all2_ok g2
    have hl : rx_LS2 L2 L1 := by
      refine ⟨k1, fun i y hy => ?_⟩
      obtain ⟨x, w1, w2⟩ := k2 i _ hy
      cases x with
      | none => cases w2
      | some x => exact ⟨x, w1, rx_vi_of w2⟩
    exact rx_cut_ok (xM := rx_xM) (C u) rx_moL7 rx_hob hRm hm (wx_mono hsb (Nat.le_refl _) (rx_HS_of g1) hl (rx_SS_all g3) g) 60 pc h L st hr
  · cases hc
theorem wx_lawC_ok {i tg i2 tg2 i3 tg3 : Nat} {K K2 K3 : rx_K} {pcH pcM pcT : Nat} {X4 : rx_H} {as as2 : List rx_V} {my : rx_MT} {hh : List (Nat × Nat × Nat × Nat)} {X2 X3 : rx_H} {k bv : Int × Int} (C : ∀ u, rx_Cx p s m args meth c D (rx_AW wr ad0 s.heap.size) (rx_BW wr ad0 s.heap.size) wr (wx_su sb tt u) ro mt) (hwr : wr = true) (hmt : mt = rx_mL7) (hro : ro = rx_ro) (hsb : sb.length = 20) (hRm : R.frames = mt.2.2.2.2.2.2.1 ∧ R.locals = mt.2.2.2.2.2.2.2.1) (hm : cells + 1 ≤ R.cells ∧ slots + 7 ≤ R.slots) (hn : n ≤ 40) (h100 : 100 ≤ u) (hU : u ≤ wx_bd) (htt : tt ≤ 3000) (hWn : ∃ (ro2 : List (List rx_V)) (l0 : List rx_V), ro2[4]? = some l0 ∧ (∀ u, rx_Cx p s m args meth c D (rx_AW wr ad0 s.heap.size) (rx_BW wr ad0 s.heap.size) wr (wx_su sb tt u) ro2 mt) ∧ ∀ (k : Nat) (v : rx_V), (.inr (.inr (.inr (400000 + c0))) :: w)[k]? = some v → l0[tt + k]? = some v)
    (hrow : rx_tbL7 pcH = some (.invokestatic i, pcH + 3, tg, K)) (hK : K.1 = 16) (hy : rx_hy[K.2.1 - 1000]? = some my.1) (y2 : Jvm.Cond.codeWith my.1 my.2.1 my.2.2.1 my.2.2.2.1 hh ∈ rx_bw) (y3 : Jvm.Cond.static my.1 ∈ rx_bw) (y4 : Jvm.Cond.initialized my.1.cls ∈ rx_bw) (y5 : my.1.cls ≠ "java/lang/invoke/MethodHandle" ∧ my.1.cls ≠ "java/lang/invoke/VarHandle") (y7 : my.2.2.2.2.2.2.1 + 1 ≤ 10) (y8 : 8 + (my.2.2.1 + 11) + my.2.2.2.2.2.2.2.1 ≤ 364) (hlen : as.length = K.2.2.1)
    (hrow2 : rx_tbL7 pcM = some (.invokevirtual i2, pcM + 3, tg2, K2)) (hK2 : K2.1 = 5) (hj : K2.2.1 = 177) (hlen2 : as2.length + 1 = K2.2.2.1) (hcl : K2.2.2.2.toNat = 11) (h11 : ∃ fs, X2[28]? = some (.inl (11, fs)))
    (hA : wx_lawA c0 pcH w as = true) (hH : wx_HX l (wx_X n) X2 my hh as 0 k) (hC1 : wx_SG l c0 (pcH + 3) pcM w X2 X2 (wx_Lw wx_ix) [.inl k] (wx_L5 k) (wx_r 28 :: as2).reverse) (hM : wx_MC l X2 X3 as2 bv) (hrow3 : rx_tbL7 pcT = some (.invokevirtual i3, pcT + 3, tg3, K3)) (hK3 : K3.1 = 5) (hj3 : K3.2.1 = 124) (hlen3 : 1 = K3.2.2.1) (hcl3 : K3.2.2.2.toNat = 11) (h113 : ∃ fs, X3[28]? = some (.inl (11, fs))) (hE1 : wx_ctc pcT (pcM + 3) X3 (wx_L5 k) [.inl bv] X3 (wx_L6 k bv) [wx_r 28] = true) (hT : wx_MT l X3 k) (hE2 : wx_ctc 795 (pcT + 3) X3 (wx_L6 k bv) [.inl k] X4 (wx_Lw wx_ix) [] = true) (hX4 : wx_X n' = X4) (g : rx_Go p l e R s m args below meth c Q D (rx_AW wr ad0 s.heap.size) (rx_BW wr ad0 s.heap.size) (wx_su sb tt (u)) ad0 mt 795 (wx_X n') (wx_Lw wx_ix) [] (cells + 1) (slots + 7)) : rx_Go p l e R s m args below meth c Q D (rx_AW wr ad0 s.heap.size) (rx_BW wr ad0 s.heap.size) (wx_su sb tt (u)) ad0 mt 32 (wx_X n) (wx_Lw wx_ix) [] cells slots := by
  have C0 := C
  have hm0 : mt = rx_mL7 := hmt
  subst hmt
  refine wx_seg_ok (xM := rx_xM) (u0 := u) C hwr hro hsb (wx_Ph_fill n) rx_moL7 rx_hob hRm (by omega) (by omega) (wx_HO_W hn) (wx_HB_bx n) (Or.inr hWn) htt rx_HS_rf hA ?_
  subst hwr
  subst hro
  refine wx_callH (xM := rx_xM) (u := u + 0) (u1 := u + 0) (as := as) (r := []) (v1 := some (.inl k)) C hsb (by omega) (rx_moL7.1 pcH _ hrow) hK hy y2 y3 y4 y5 y7 y8 hRm hm (by rw [List.append_nil]) hlen (by decide) (fun ad sz => hH D sb tt u hsb htt h100 (by omega) ad sz) ?_
  refine wx_SG_ok (u := u) C rfl rfl rfl hsb hRm hm hU htt hWn hC1 ?_
  refine wx_callV (xM := rx_xM) (u1 := u) (X1 := X3) (as := as2) (r := []) (v1 := some (.inl bv)) (o := wx_r 28) (a := 28) (n := 1) C hsb (Nat.le_refl _) (rx_moL7.1 pcM _ hrow2) hK2 (by rw [hj]; exact rx_x177) hRm hm (by rw [List.append_nil]) hlen2 (by decide) rfl (fun i h1 h2 => ?_) (fun ad sz => hM D sb tt u hsb ad sz) ?_
  · have e : i = 28 := by omega
    subst e
    rw [hcl]
    exact h11
  refine wx_ctc_ok (u := u) C rfl rfl rfl hsb hRm hm hE1 ?_
  refine wx_callV (xM := rx_xM) (u1 := u) (X1 := X3) (as := []) (r := []) (v1 := some (.inl k)) (o := wx_r 28) (a := 28) (n := 1) C hsb (Nat.le_refl _) (rx_moL7.1 pcT _ hrow3) hK3 (by rw [hj3]; exact rx_x124) hRm hm rfl hlen3 (by decide) rfl (fun i h1 h2 => ?_) (fun ad sz => hT D sb tt u hsb ad sz) ?_
  · have e : i = 28 := by omega
    subst e
    rw [hcl3]
    exact h113
  rw [hX4] at g
  exact wx_ctc_ok (u := u) C rfl rfl rfl hsb hRm hm hE2 g
end WXS
