/-! WHAT IS KNOWN OF CALLS -/
theorem wx_Met {l : Launch} {y : MethodName} {wl : List Cond} {rm : Room} {P P' : Array Value → State → Prop} {Q Q' : Array Value → State → Outcome → State → Prop} {mc ms : Nat} {fr fr' : Addr → Prop} (hM : Met l y wl rm P Q mc ms fr) (hP : ∀ a U, P' a U → P a U) (hQ : ∀ a s o t, P' a s → Q a s o t → Q' a s o t) (hfr : ∀ q, fr q → fr' q) : Met l y wl rm P' Q' mc ms fr' := by
  intro pr e hA hc hk s m args below hf happ hp hK
  obtain ⟨n, o, g1, g2, g3, g4, L, hF, hL⟩ := hM pr e hA hc hk s m args below hf happ (hP _ _ hp) trivial
  exact ⟨n, o, g1, g2, g3, hQ _ _ _ _ hp g4, L, hF, fun q hq => hfr _ (hL q hq)⟩
theorem rx_Pc_as {wr : Bool} {D : va_G} {sa ad : List Nat} {ro : List (List rx_V)} {h h' : rx_H} {as as' : List rx_V} {sz : Nat} (hh : rx_HS h h') (ha : rx_SS as as') : ∀ a U, rx_Pc wr D sa ad ro h as sz a U → rx_Pc wr D sa ad ro h' as' sz a U := by
  intro a U hp
  obtain ⟨vs, e, hS, hsz, hK, hN, hRO, hTW, ws, hW, hP, hD⟩ := hp
  exact ⟨vs, e, rx_SS_S ha hS, hsz, hK, hN, hRO, hTW, ws, rx_HS_W hh hW, hP, hD⟩
theorem rx_Qc_up {wr : Bool} {D : va_G} {sb ad : List Nat} {tt u u' : Nat} {h h' : rx_H} {v v' : Option rx_V} {sz : Nat} (hsb : sb.length = 20) (hu : u ≤ u') (hh : rx_HS h h') (hv : wx_sem v v') : ∀ a s o t, rx_Qc wr D (wx_su sb tt u) ad h v sz a s o t → rx_Qc wr D (wx_su sb tt u') ad h' v' sz a s o t := by
  intro a s o t hq
  obtain ⟨r, ad', ws', h1, h2, h3, h4, h5, h6, h7⟩ := hq
  exact ⟨r, ad', ws', h1, hv _ _ _ (rx_O_u hsb hu h2), h3, rx_W_u hsb hu (rx_HS_W hh h4), h5, h6, h7⟩
/-- nothing written: whatever held of the world holds still -/
theorem wx_pure {l : Launch} {y : MethodName} {wl : List Cond} {rm : Room} {D : va_G} {sb : List Nat} {tt u u' : Nat} {ro : List (List rx_V)} {Y Y' Z : rx_H} {as : List rx_V} {v : Option rx_V} {sz : Nat} {ad : List Nat} (hsb : sb.length = 20) (hu : u ≤ u') (hM : Met l y wl rm (rx_Pc false D (wx_su sb tt u) ad ro Y as sz) (rx_Qc false D (wx_su sb tt u') ad Y' v sz) 0 0 (rx_AW false ad sz)) (hl : Y'.length = Y.length) (hs : rx_HS Z Y) (wr : Bool) :
    Met l y wl rm (rx_Pc wr D (wx_su sb tt u) ad ro Z as sz) (rx_Qc wr D (wx_su sb tt u') ad Z v sz) 0 0 (rx_AW wr ad sz) := by
  have hsub : ∀ q, rx_AW false ad sz q → rx_AW wr ad sz q := by
    intro q hq
    rcases hq with hq | hq
    · cases hq
    · exact Or.inr hq
  intro pr e hA hc hk s m args below hf happ hp hK9
  obtain ⟨vs, rfl, hS, hsz, hK, hN, hRO, hTW, ws, hW, hP, hD⟩ := hp
  obtain ⟨n, o, g1, g2, g3, ⟨r, ad', ws', h1, h2, h3, h4, h5, h6, h7⟩, L, hF, hL⟩ := hM pr e hA hc hk s m vs.toArray below hf happ ⟨vs, rfl, hS, hsz, hK, hN, rx_RO_less (List.prefix_refl _) hsub hRO, rx_TW_go (State.WarmedH.refl s) (fun _ _ _ => rfl) hsub hTW, ws, rx_HS_W hs hW, hP, hD⟩ trivial
  generalize hT : stepsAlone pr.tables e n s = t at *
  have hal : s.vm.Alike t.vm := by
    obtain ⟨-, hW', -⟩ := hF
    exact hW'.alike
  have had : ad' = ad := by
    have z1 := rx_W_len h4
    have z2 := rx_W_len hW
    have z3 := hs.1
    obtain ⟨x, rfl⟩ := h3
    rw [List.length_append] at z1
    have : x.length = 0 := by omega
    rw [List.eq_nil_of_length_eq_zero this, List.append_nil]
  subst had
  have hno : ∀ (k : Nat) (q : Nat × va_E), ws[k]? = some q → q.1 < s.heap.size ∧ ¬ rx_AW false ad' sz q.1 := by
    intro k q hk
    have hlt := (hP k q hk).lt
    refine ⟨hlt, fun z => ?_⟩
    rcases z with z | z
    · cases z
    · omega
  subst h1
  refine ⟨n, .returned r, g1, by rw [hT]; exact g2, by rw [hT]; exact g3, ?_, L, by rw [hT]; exact hF, fun q hq => hsub _ (hL q hq)⟩
  rw [hT]
  refine ⟨r, ad', ws, rfl, h2, List.prefix_refl _, rx_W_u hsb hu (rx_W_moved hal hW), fun k q hk => ?_, ?_, ⟨h7.1, fun q z1 z2 => h7.2 q z1 (fun z => z2 (hsub q z))⟩⟩
  · obtain ⟨z1, z2⟩ := hno k q hk
    exact (hP k q hk).kept (h7.2 q.1 z1 z2)
  · refine hD.weaken (fun k q hk _ => rx_AB (Or.inl ?_))
    rw [← hW.1]
    exact List.mem_map.mpr ⟨q, List.mem_of_getElem? hk, rfl⟩
/-! the table of contracts: arguments, answer, events, and whether nothing is written -/
abbrev wx_En : Type := List rx_V × Option rx_V × Nat × Bool
/-- an entry is true of the heap X -/
def wx_TE (l : Launch) (ro : List (List rx_V)) (X : rx_H) (mj : rx_MT) (e : wx_En) : Prop := ∀ (D : va_G) (sb : List Nat) (tt u : Nat), sb.length = 20 → tt ≤ 3000 → u + e.2.2.1 ≤ wx_bd → ∀ (ad : List Nat) (sz : Nat), Met l mj.1 (rx_ws mj) (rx_rm mj 0 0) (rx_Pc (!e.2.2.2) D (wx_su sb tt u) ad ro X e.1 sz) (rx_Qc (!e.2.2.2) D (wx_su sb tt (u + e.2.2.1)) ad X e.2.1 sz) 0 0 (rx_AW (!e.2.2.2) ad sz)
def wx_TT (l : Launch) (xM : List rx_MT) (ro : List (List rx_V)) (T : Nat → List wx_En) (lim : Nat) (X : rx_H) : Prop := ∀ (j : Nat) (mj : rx_MT), j < lim → xM[j]? = some mj → ∀ e ∈ T j, wx_TE l ro X mj e
noncomputable def wx_lk (po : Bool) (as : List rx_V) (es : List wx_En) : Option (Option rx_V × Nat × Bool) :=
  List.rec (motive := fun _ => Option (Option rx_V × Nat × Bool)) none (fun e _ ih => bif (!po || e.2.2.2) && rx_all2 rx_sb as e.1 then some e.2 else ih) es
theorem wx_lk_ok {po : Bool} {as : List rx_V} : ∀ {es : List wx_En} {r : Option rx_V × Nat × Bool}, wx_lk po as es = some r → ∃ e ∈ es, e.2 = r ∧ rx_SS as e.1 ∧ (po = true → e.2.2.2 = true) := by
  intro es
  induction es with
  | nil => intro r h; cases h
  | cons e t ih =>
    intro r h
    have h : (bif (!po || e.2.2.2) && rx_all2 rx_sb as e.1 then some e.2 else wx_lk po as t) = some r := h
    rcases rx_bif2 h with ⟨g, h2⟩ | ⟨-, h2⟩
    · obtain ⟨g1, g2⟩ := rx_and2 g
      cases h2
      refine ⟨e, List.mem_cons_self, rfl, rx_SS_all g2, fun hp => ?_⟩
      subst hp
      exact g1
    · obtain ⟨e', w1, w2⟩ := ih h2
      exact ⟨e', List.mem_cons_of_mem _ w1, w2⟩
/-- the contracts of methods below lim; 'dis': not these; 'po': only such as write nothing -/
noncomputable def wx_oT (T : Nat → List wx_En) (lim : Nat) (dis : Nat → Bool) (po : Bool) : wx_Orc := fun j _ as => bif Nat.ble (j + 1) lim && !(dis j) then wx_lk po as (T j) else none
theorem wx_TE_use {l : Launch} {ro : List (List rx_V)} {X Y t : rx_H} {mj : rx_MT} {e : wx_En} (hE : wx_TE l ro X mj e) (wr : Bool) (hw : wr = true ∨ e.2.2.2 = true) {as : List rx_V} (ha : rx_SS as e.1) (hY : rx_HS Y X) (ht : e.2.2.2 = true ∨ t = X) (D : va_G) (sb : List Nat) (tt u : Nat) (hsb : sb.length = 20) (htt : tt ≤ 3000) (hu : u + e.2.2.1 ≤ wx_bd) (ad : List Nat) (sz : Nat) :
    Met l mj.1 (rx_ws mj) (rx_rm mj 0 0) (rx_Pc wr D (wx_su sb tt u) ad ro Y as sz) (rx_Qc wr D (wx_su sb tt (u + e.2.2.1)) ad (bif e.2.2.2 then Y else t) e.2.1 sz) 0 0 (rx_AW wr ad sz) := by
  have h0 := hE D sb tt u hsb htt hu ad sz
  cases hp : e.2.2.2 with
  | true =>
    rw [hp] at h0
    exact wx_Met (wx_pure hsb (Nat.le_add_right _ _) h0 rfl hY wr) (rx_Pc_as rx_HS_rf ha) (fun a s o t _ hq => hq) (fun _ h => h)
  | false =>
    rw [hp] at h0 hw ht
    have hwr : wr = true := hw.elim id (fun z => by cases z)
    have htX : t = X := ht.elim (fun z => by cases z) id
    subst hwr
    subst htX
    exact wx_Met h0 (rx_Pc_as hY ha) (fun a s o t _ hq => hq) (fun _ h => h)
theorem wx_HO_T {l : Launch} {xM : List rx_MT} {ro : List (List rx_V)} {T : Nat → List wx_En} {lim : Nat} {X : rx_H} (hT : wx_TT l xM ro T lim X) {dis : Nat → Bool} {po wr : Bool} {Φ : rx_H → rx_H} {t0 : rx_H} (hX : rx_HS (Φ t0) X) (hw : po = true ∨ (wr = true ∧ Φ t0 = X)) : wx_HO wr xM l (wx_oT T lim dis po) ro Φ t0 := by
  intro j mj h as v dj kp hj ho hn D sb tt u hsb htt hu ad sz
  unfold wx_oT at ho
  obtain ⟨g1, ho⟩ := rx_bif ho
  obtain ⟨g1, -⟩ := rx_and2 g1
  obtain ⟨e, w1, w2, w3, w4⟩ := wx_lk_ok ho
  have hE := hT j mj (Nat.le_of_ble_eq_true g1) hj e w1
  obtain ⟨ea, ev, ed, ep⟩ := e
  cases w2
  have := wx_TE_use hE wr (hw.elim (fun z => Or.inr (w4 z)) (fun z => Or.inl z.1)) w3 (rx_HS_tr hn hX) (t := Φ t0) (hw.elim (fun z => Or.inl (w4 z)) (fun z => Or.inr z.2)) D sb tt u hsb htt hu ad sz
  cases kp with
  | true => exact this
  | false => exact this
/-- either: the first that knows something -/
noncomputable def wx_o2 (a b : wx_Orc) : wx_Orc := fun j h as => Option.rec (motive := fun _ => Option (Option rx_V × Nat × Bool)) (b j h as) (fun r => some r) (a j h as)
theorem wx_HO_2 {l : Launch} {xM : List rx_MT} {ro : List (List rx_V)} {wr : Bool} {Φ : rx_H → rx_H} {t0 : rx_H} {a b : wx_Orc} (ha : wx_HO wr xM l a ro Φ t0) (hb : wx_HO wr xM l b ro Φ t0) : wx_HO wr xM l (wx_o2 a b) ro Φ t0 := by
  intro j mj h as v dj kp hj ho
  unfold wx_o2 at ho
  cases e : a j h as with
  | none => rw [e] at ho; exact hb j mj h as v dj kp hj ho
  | some r => rw [e] at ho; cases ho; exact ha j mj h as v dj kp hj e
/-- no boxes -/
def wx_nb : Nat → rx_H → List rx_H := fun _ h => [h]
theorem wx_HB_nb {Φ : rx_H → rx_H} {t0 : rx_H} : wx_HB Φ t0 wx_nb := by
  intro id h hn
  refine ⟨fun h' hh => ?_, fun U ad sa ws hw => ⟨h, List.mem_cons_self, hw⟩⟩
  rcases List.mem_cons.mp hh with rfl | hh
  · exact hn
  · cases hh
/-- run in place: 'pu' what writes nothing; 'kp' what keeps to the table as it stands; else as usual -/
noncomputable def wx_oP (xM : List rx_MT) (orc : wx_Orc) (ro : List (List rx_V)) (n : Nat) (inl : Nat → Bool) : wx_Orc := fun j h as => bif inl j then rx_get xM j fun mj => (match wx_run false orc ro wx_nb h 0 n mj h as with
  | some (d0, v) => bif Nat.beq d0 0 then some (v, 0, true) else none
  | none => none) else none
theorem wx_HO_P {l : Launch} {xM : List rx_MT} {ro : List (List rx_V)} (hro : ro.length ≤ 20) (hob : Jvm.Cond.instanceMethod Lib.objectInit ∈ rx_bw ∧ Jvm.Cond.code Lib.objectInit ⟨#[0xb1]⟩ 1 none ∈ rx_bw) (hX : ∀ (j : Nat) (mj : rx_MT), xM[j]? = some mj → rx_MOk xM mj) {Φ : rx_H → rx_H} (hΦ : wx_Ph Φ) {orc : wx_Orc} {n : Nat} {inl : Nat → Bool} {wr : Bool} {t0 : rx_H} (hO : ∀ h, rx_HS (Φ h) (Φ t0) → wx_HO false xM l orc ro Φ h) : wx_HO wr xM l (wx_oP xM orc ro n inl) ro Φ t0 := by
  intro j mj h as v dj kp hj ho hn D sb tt u hsb htt hu ad sz
  unfold wx_oP at ho
  obtain ⟨-, ho⟩ := rx_bif ho
  obtain ⟨mj', e1, ho⟩ := rx_get_some ho
  cases hj.symm.trans e1
  split at ho
  · rename_i d0 v0 hr
    obtain ⟨g1, ho⟩ := rx_bif ho
    have e0 := Nat.eq_of_beq_eq_true g1
    subst e0
    cases ho
    have := wx_met hro hΦ hob (hO h hn) wx_HB_nb (hX j mj hj) hr rx_HS_rf D sb tt u hsb htt (by omega) ad sz
    exact wx_pure hsb (Nat.le_add_right _ _) this rfl rx_HS_rf wr
  · cases ho
noncomputable def wx_oI (xM : List rx_MT) (orc : wx_Orc) (ro : List (List rx_V)) (n : Nat) (inl : Nat → Option Nat) (kp : Bool) (t0 : rx_H) : wx_Orc := fun j h as => match inl j with
  | some dm => rx_get xM j fun mj => (match wx_run true orc ro wx_nb (bif kp then h else t0) dm n mj h as with
    | some (dj, v) => bif Nat.ble dj dm then some (v, dm, kp) else none
    | none => none)
  | none => none
theorem wx_HO_I {l : Launch} {xM : List rx_MT} {ro : List (List rx_V)} (hro : ro.length ≤ 20) (hob : Jvm.Cond.instanceMethod Lib.objectInit ∈ rx_bw ∧ Jvm.Cond.code Lib.objectInit ⟨#[0xb1]⟩ 1 none ∈ rx_bw) (hX : ∀ (j : Nat) (mj : rx_MT), xM[j]? = some mj → rx_MOk xM mj) {Φ : rx_H → rx_H} (hΦ : wx_Ph Φ) {orc : wx_Orc} {n : Nat} {inl : Nat → Option Nat} {kp : Bool} {t0 : rx_H} (hO : ∀ h, rx_HS (Φ h) (Φ t0) → wx_HO true xM l orc ro Φ (bif kp then h else t0)) : wx_HO true xM l (wx_oI xM orc ro n inl kp t0) ro Φ t0 := by
  intro j mj h as v dj kp' hj ho hn D sb tt u hsb htt hu ad sz
  unfold wx_oI at ho
  split at ho
  · rename_i dm e0
    obtain ⟨mj', e1, ho⟩ := rx_get_some ho
    cases hj.symm.trans e1
    split at ho
    · rename_i d0 v0 hr
      obtain ⟨g1, ho⟩ := rx_bif ho
      have g1 := Nat.le_of_ble_eq_true g1
      cases ho
      have hn2 : rx_HS (Φ h) (Φ (bif kp then h else t0)) := by
        cases kp
        · exact hn
        · exact rx_HS_rf
      have := wx_met hro hΦ hob (hO h hn) wx_HB_nb (hX j mj hj) hr hn2 D sb tt u hsb htt hu ad sz
      exact wx_Met this (fun _ _ h => h) (fun a s o t _ hq => rx_Qc_up hsb (by omega) rx_HS_rf wx_sem_rf a s o t hq) (fun _ h => h)
    · cases ho
  · cases ho
/-- an entry, checked by a run -/
def wx_lob (v w : Option rx_V) : Bool := match v, w with
  | none, none => true
  | some a, some b => rx_sb a b
  | _, _ => false
theorem wx_lob_ok {v w : Option rx_V} (h : wx_lob v w = true) : wx_sem v w := by
  unfold wx_lob at h
  split at h
  · exact wx_sem_rf
  · exact wx_sem_lo (show wx_lo (some _) (some _) from rx_vi_of h)
  · cases h
noncomputable def wx_chk (orc : wx_Orc) (ro : List (List rx_V)) (bx : Nat → rx_H → List rx_H) (t0 : rx_H) (n : Nat) (mt : rx_MT) (e : wx_En) : Bool := match wx_run (!e.2.2.2) orc ro bx t0 e.2.2.1 n mt t0 e.1 with
  | some (dj, v) => Nat.ble dj e.2.2.1 && wx_lob v e.2.1
  | none => false
theorem wx_chk_ok {l : Launch} {xM : List rx_MT} {ro : List (List rx_V)} {orc : wx_Orc} {Φ : rx_H → rx_H} {t0 : rx_H} {bx : Nat → rx_H → List rx_H} {e : wx_En} (hro : ro.length ≤ 20) (hΦ : wx_Ph Φ) (hob : Jvm.Cond.instanceMethod Lib.objectInit ∈ rx_bw ∧ Jvm.Cond.code Lib.objectInit ⟨#[0xb1]⟩ 1 none ∈ rx_bw) (hO : wx_HO (!e.2.2.2) xM l orc ro Φ t0) (hBx : wx_HB Φ t0 bx) {mt : rx_MT} (okm : rx_MOk xM mt) {n : Nat} (hc : wx_chk orc ro bx t0 n mt e = true) : wx_TE l ro (Φ t0) mt e := by
  unfold wx_chk at hc
  split at hc
  · rename_i dj v hr
    obtain ⟨g1, g2⟩ := rx_and2 hc
    have g1 := Nat.le_of_ble_eq_true g1
    intro D sb tt u hsb htt hu ad sz
    have := wx_met hro hΦ hob hO hBx okm hr rx_HS_rf D sb tt u hsb htt hu ad sz
    exact wx_Met this (fun _ _ h => h) (fun a s o t _ hq => rx_Qc_up hsb (by omega) rx_HS_rf (wx_lob_ok g2) a s o t hq) (fun _ h => h)
  · cases hc
