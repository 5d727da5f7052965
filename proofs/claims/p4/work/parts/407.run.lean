/-! A RUN OF THE WIDE MACHINE IS A CONTRACT -/
def wx_sem (v w : Option rx_V) : Prop := ∀ (ad sa : List Nat) (r : Option Value), rx_O ad sa v r → rx_O ad sa w r
theorem wx_sem_rf {v : Option rx_V} : wx_sem v v := fun _ _ _ h => h
theorem wx_sem_lo {v w : Option rx_V} (h : wx_lo v w) : wx_sem v w := by
  intro ad sa r hr
  match v, w, r, h, hr with
  | none, none, none, _, _ => trivial
  | some a, some b, some x, h, hr => exact h ad sa x hr
theorem wx_RO_su {U : State} {A : Nat → Prop} {sb : List Nat} {tt u u' : Nat} {ro : List (List rx_V)} (hsb : sb.length = 20) (hro : ro.length ≤ 20) (h : rx_RO U A (wx_su sb tt u) ro) : rx_RO U A (wx_su sb tt u') ro := by
  refine ⟨fun j l hj => ?_, fun j nm hj => ?_⟩
  · obtain ⟨a, xs, h1, h2, h3⟩ := h.1 j l hj
    have hl := (List.getElem?_eq_some_iff.mp hj).1
    exact ⟨a, xs, by rw [wx_sul hsb (by omega)] at h1 ⊢; exact h1, h2, h3⟩
  · obtain ⟨a, h1, h2⟩ := h.2 j nm hj
    have hl : j < rx_sn.length := (List.getElem?_eq_some_iff.mp hj).1
    have h4 : rx_sn.length ≤ 19 := by decide
    exact ⟨a, by rw [wx_sul hsb (by omega)] at h1 ⊢; exact h1, h2⟩
section WXS
variable {p : Program} {l : Launch} {e : Env} {R : Room} {s : State} {m : MethodId} {args : Array Value} {below : List Frame} {meth : Method} {c : Code} {Q : State → Prop} {D : va_G} {A B : Nat → Prop} {wr : Bool} {sb ad0 : List Nat} {tt : Nat} {ro : List (List rx_V)} {mt : rx_MT} {xM : List rx_MT} {cells slots : Nat} {pc d u0 : Nat} {h t0 : rx_H} {L : rx_F} {st : List rx_V} {Φ : rx_H → rx_H} {orc : wx_Orc} {bx : Nat → rx_H → List rx_H} {win : List rx_V} {dm : Nat}
theorem wx_C_su {u1 : Nat} (hsb : sb.length = 20) (hro : ro.length ≤ 20) (C : rx_Cx p s m args meth c D A B wr (wx_su sb tt u1) ro mt) : ∀ u, rx_Cx p s m args meth c D A B wr (wx_su sb tt u) ro mt := fun u => ⟨C.1, C.2.1, C.2.2.1, C.2.2.2.1, C.2.2.2.2.1, C.2.2.2.2.2.1, C.2.2.2.2.2.2.1, C.2.2.2.2.2.2.2.1, C.2.2.2.2.2.2.2.2.1, C.2.2.2.2.2.2.2.2.2.1, wx_RO_su hsb hro C.2.2.2.2.2.2.2.2.2.2.1, C.2.2.2.2.2.2.2.2.2.2.2⟩
theorem wx_ok (C : ∀ u, rx_Cx p s m args meth c D (rx_AW wr ad0 s.heap.size) (rx_BW wr ad0 s.heap.size) wr (wx_su sb tt u) ro mt) (hsb : sb.length = 20) (hΦ : wx_Ph Φ) (okm : rx_MOk xM mt) (hob : Jvm.Cond.instanceMethod Lib.objectInit ∈ rx_bw ∧ Jvm.Cond.code Lib.objectInit ⟨#[0xb1]⟩ 1 none ∈ rx_bw) (hRm : R.frames = mt.2.2.2.2.2.2.1 ∧ R.locals = mt.2.2.2.2.2.2.2.1) (hm : cells ≤ R.cells ∧ slots ≤ R.slots) (hU : u0 + dm ≤ wx_bd) (hO : wx_HO wr xM l orc ro Φ t0) (hBx : wx_HB Φ t0 bx) (hWn : win = [] ∨ ∃ (ro2 : List (List rx_V)) (l0 : List rx_V), ro2[4]? = some l0 ∧ (∀ u, rx_Cx p s m args meth c D (rx_AW wr ad0 s.heap.size) (rx_BW wr ad0 s.heap.size) wr (wx_su sb tt u) ro2 mt) ∧ ∀ (k : Nat) (v : rx_V), win[k]? = some v → l0[tt + k]? = some v) (htt : tt ≤ 3000) {PV : Nat × Option rx_V → Prop}
    (hVd : ∀ a c : Nat × Option rx_V, a.1 ≤ c.1 → wx_lo a.2 c.2 → PV c → PV a) (hVr : ∀ (pc : Nat) (row : rx_Row) (L : rx_F) (st : List rx_V) (h0 : rx_H) (d0 : Nat) (v0 : Option rx_V), PV (d0, v0) → mt.2.2.2.2.2.1 pc = some row → rx_rv false row st v0 → rx_HS (Φ h0) (Φ t0) → rx_Go p l e R s m args below meth c Q D (rx_AW wr ad0 s.heap.size) (rx_BW wr ad0 s.heap.size) (wx_su sb tt (u0 + d0)) ad0 mt pc (Φ h0) L st cells slots) :
    ∀ (n stop pc d : Nat) (h : rx_H) (L : rx_F) (st : List rx_V) (z : wx_R), wx wr orc ro bx win t0 dm n mt.2.2.2.2.2.1 stop pc d h L st = some z → rx_HS (Φ h) (Φ t0) → (∀ s', z.1 = some s' → rx_Go p l e R s m args below meth c Q D (rx_AW wr ad0 s.heap.size) (rx_BW wr ad0 s.heap.size) (wx_su sb tt (u0 + s'.1)) ad0 mt stop (Φ t0) s'.2.1 s'.2.2 cells slots) → (∀ v', z.2 = some v' → PV v') → rx_Go p l e R s m args below meth c Q D (rx_AW wr ad0 s.heap.size) (rx_BW wr ad0 s.heap.size) (wx_su sb tt (u0 + d)) ad0 mt pc (Φ h) L st cells slots := by
  intro n
  induction n with
  | zero => intro stop pc d h L st z hs; cases hs
  | succ n ih =>
    intro stop pc d h L st z hs hn hS hV
    rw [wx_eq] at hs
    rcases rx_bif2 hs with ⟨g1, hs1⟩ | ⟨-, hs1⟩
    · cases hs1
      rw [Nat.eq_of_beq_eq_true g1]
      exact wx_mono hsb (Nat.le_refl _) hn rx_LS_rf rx_SS_rf (hS _ rfl)
    · obtain ⟨row, hrow, hs2⟩ := wx_or1 hs1
      refine wx_row_ok C hsb hΦ (okm.1 pc row hrow) hob hRm hm hU hO hBx hWn htt hn (fun pc' d' h' L' st' q hn' => ih stop pc' d' h' L' st' z q hn' hS hV) (fun q alts he a ha hna => ?_) (fun v he hrv => ?_) hs2
      · unfold wx_then at he
        obtain ⟨mm, em, e1⟩ := wx_or1 he
        have fin : (∀ s', mm.1 = some s' → rx_Go p l e R s m args below meth c Q D (rx_AW wr ad0 s.heap.size) (rx_BW wr ad0 s.heap.size) (wx_su sb tt (u0 + s'.1)) ad0 mt q (Φ t0) s'.2.1 s'.2.2 cells slots) → (∀ v', mm.2 = some v' → PV v') → rx_Go p l e R s m args below meth c Q D (rx_AW wr ad0 s.heap.size) (rx_BW wr ad0 s.heap.size) (wx_su sb tt (u0 + d)) ad0 mt a.1 (Φ a.2.1) a.2.2.1 a.2.2.2 cells slots := by
          intro k1 k2
          obtain ⟨r, e2, k3, k4⟩ := wx_alts_ok (PS := fun s' => rx_Go p l e R s m args below meth c Q D (rx_AW wr ad0 s.heap.size) (rx_BW wr ad0 s.heap.size) (wx_su sb tt (u0 + s'.1)) ad0 mt q (Φ t0) s'.2.1 s'.2.2 cells slots) (PV := PV) (fun a c hl hc => wx_mono hsb (by have := hl.1; omega) rx_HS_rf hl.2.1 hl.2.2 hc) hVd em k1 k2 a ha
          exact ih q a.1 d a.2.1 a.2.2.1 a.2.2.2 r e2 hna k3 k4
        split at e1
        · rename_i e2
          cases e1
          exact fin (fun s' hs' => by rw [e2] at hs'; cases hs') hV
        · rename_i s1 e2
          rcases rx_bif2 e1 with ⟨g2, e3⟩ | ⟨-, e3⟩
          · cases e3
            have eq := Nat.eq_of_beq_eq_true g2
            subst eq
            exact fin hS hV
          · obtain ⟨r2, e4, e5⟩ := wx_or1 e3
            obtain ⟨z', ⟨-, k2⟩, ⟨k3, k4⟩, e6⟩ := wx_mR_ok e5
            cases e6
            have hq : rx_Go p l e R s m args below meth c Q D (rx_AW wr ad0 s.heap.size) (rx_BW wr ad0 s.heap.size) (wx_su sb tt (u0 + s1.1)) ad0 mt q (Φ t0) s1.2.1 s1.2.2 cells slots := ih stop q s1.1 t0 s1.2.1 s1.2.2 r2 e4 rx_HS_rf (fun s' hs' => by
              obtain ⟨c0, w1, w2⟩ := k3 s' hs'
              exact wx_mono hsb (by have := w2.1; omega) rx_HS_rf w2.2.1 w2.2.2 (hS c0 w1)) (fun v' hv' => by
              obtain ⟨c0, w1, w2, w3⟩ := k4 v' hv'
              exact hVd _ _ w2 w3 (hV c0 w1))
            refine fin (fun s' hs' => ?_) (fun v' hv' => ?_)
            · rw [e2] at hs'
              cases hs'
              exact hq
            · obtain ⟨c0, w1, w2, w3⟩ := k2 v' hv'
              exact hVd _ _ w2 w3 (hV c0 w1)
      · cases he
        exact hVr pc row L st h d v (hV _ rfl) hrow hrv hn
/-- a method's own end -/
theorem wx_RT {v v0 : Option rx_V} {dj : Nat} (C : ∀ u, rx_Cx p s m args meth c D (rx_AW wr ad0 s.heap.size) (rx_BW wr ad0 s.heap.size) wr (wx_su sb tt u) ro mt) (hsb : sb.length = 20) (okm : rx_MOk xM mt) (hdj : d ≤ dj) (hv : wx_sem v0 v) {row : rx_Row} (hrow : mt.2.2.2.2.2.1 pc = some row) (hrv : rx_rv false row st v0) (hn : rx_HS h t0) :
    rx_Go p l e R s m args below meth c (MQ below (rx_Qc wr D (wx_su sb tt (u0 + dj)) ad0 t0 v s.heap.size) args s cells slots (rx_AW wr ad0 s.heap.size)) D (rx_AW wr ad0 s.heap.size) (rx_BW wr ad0 s.heap.size) (wx_su sb tt (u0 + d)) ad0 mt pc h L st cells slots := by
  have rok := okm.1 pc row hrow
  have hrt : ∀ {ad : List Nat} {ws : va_W} {H : Heap} {locs : List Loc} {r : Option Value}, ad0 <+: ad → rx_W s ad (wx_su sb tt (u0 + d)) h ws → va_P D rx_cl ws H → va_D (rx_BW wr ad0 s.heap.size) ws → va_S (rx_AW wr ad0 s.heap.size) s.heap H locs → rx_O ad (wx_su sb tt (u0 + d)) v0 r → ∀ t : State, t.heap = H → s.WarmedH t.vm → rx_Qc wr D (wx_su sb tt (u0 + dj)) ad0 t0 v s.heap.size args s (.returned r) t := by
    intro ad ws H locs r a1 a2 a3 a4 a5 ho t ht hW
    exact ⟨r, ad, ws, rfl, hv _ _ _ (rx_O_u hsb (by omega) ho), a1, rx_W_moved hW.alike (rx_W_u hsb (by omega) (rx_HS_W hn a2)), by rw [ht]; exact a3, a4, a5.F ht⟩
  obtain ⟨ins, np, tg, K⟩ := row
  intro ad ws H locs ls vs a1 a2 a3 a4 a5 a6 a7
  rcases hrv with ⟨q, hi, hst, hv, hb⟩ | ⟨q, hi, hst, hv⟩ | ⟨q, hi, hst, hv, hqr⟩ | ⟨hi, hst, hv⟩ | ⟨hz, -⟩
  · cases hi
    subst hv
    obtain ⟨hd, -⟩ := rok.dec (n := 0) rfl
    rw [hst] at a7
    obtain ⟨x, xs, rfl, ⟨i, rfl, hx⟩, a8⟩ := rx_S_cons a7
    cases rx_S_nil a8
    have hq := hrt (r := some (.int i)) a1 a2 a3 a4 a5 ⟨i, rfl, hx⟩
    by_cases h0 : K.2.1 = 0
    · exact W.iret (C u0).1 (C u0).2.1 ((C u0).2.2.2.2.2.1.trans (rok.2.2.1 h0)) hq a5.2.2 hd (hlocks := (C u0).2.2.2.2.2.2.1)
    · rcases hb with hb | hb
      · exact absurd hb h0
      · exact W.zret (ty := .boolean) (C u0).1 (C u0).2.1 ((C u0).2.2.2.2.2.1.trans (rok.2.2.2 h0)) (rx_retb hb hx) hq a5.2.2 hd (hlocks := (C u0).2.2.2.2.2.2.1)
  · cases hi
    subst hv
    obtain ⟨hd, -⟩ := rok.dec (n := 0) rfl
    rw [hst] at a7
    obtain ⟨x, xs, rfl, ⟨i, rfl, hx⟩, a8⟩ := rx_S_cons a7
    cases rx_S_nil a8
    have hq := hrt (r := some (.long i)) a1 a2 a3 a4 a5 ⟨i, rfl, hx⟩
    exact W.lret (C u0).1 (C u0).2.1 ((C u0).2.2.2.2.2.1.trans rok.2.2) hq a5.2.2 hd (hlocks := (C u0).2.2.2.2.2.2.1)
  · cases hi
    subst hv
    obtain ⟨hd, -⟩ := rok.dec (n := 0) rfl
    rw [hst] at a7
    obtain ⟨x, xs, rfl, hx, a8⟩ := rx_S_cons a7
    cases rx_S_nil a8
    have hq := hrt (r := some x) a1 a2 a3 a4 a5 hx
    obtain ⟨nm, e1⟩ := rok.2.2
    exact W.aret (C u0).1 (C u0).2.1 ((C u0).2.2.2.2.2.1.trans e1) (Or.inl ⟨nm, rfl⟩) (rx_ref hqr hx) hq a5.2.2 hd (hlocks := (C u0).2.2.2.2.2.2.1)
  · cases hi
    subst hv
    obtain ⟨hd, -⟩ := rok.dec (n := 0) rfl
    rw [hst] at a7
    cases rx_S_nil a7
    have hq := hrt (r := none) a1 a2 a3 a4 a5 trivial
    exact W.vret (C u0).1 (C u0).2.1 ((C u0).2.2.2.2.2.1.trans rok.2.2) hq a5.2.2 hd (hlocks := (C u0).2.2.2.2.2.2.1)
  · cases hz
end WXS
/-- what a whole run of a method must come to -/
def wx_End : Nat := 99998
noncomputable def wx_run (wr : Bool) (orc : wx_Orc) (ro : List (List rx_V)) (bx : Nat → rx_H → List rx_H) (t0 : rx_H) (dm n : Nat) (mt : rx_MT) (h : rx_H) (as : List rx_V) : Option (Nat × Option rx_V) :=
  bif Nat.ble (rx_arg as).length mt.2.2.1 then rx_fl (rx_ini as mt.2.2.1) fun L0 => (match wx wr orc ro bx [] t0 dm n mt.2.2.2.2.2.1 wx_End 0 0 h L0 [] with
    | some (none, some r) => some r
    | _ => none) else none
theorem wx_met {l : Launch} {wr : Bool} {xM : List rx_MT} {ro : List (List rx_V)} {orc : wx_Orc} {Φ : rx_H → rx_H} {t0 : rx_H} {bx : Nat → rx_H → List rx_H} (hro : ro.length ≤ 20) (hΦ : wx_Ph Φ) (hob : Jvm.Cond.instanceMethod Lib.objectInit ∈ rx_bw ∧ Jvm.Cond.code Lib.objectInit ⟨#[0xb1]⟩ 1 none ∈ rx_bw) (hO : wx_HO wr xM l orc ro Φ t0) (hBx : wx_HB Φ t0 bx) {mt : rx_MT} (okm : rx_MOk xM mt) {dm n : Nat} {h : rx_H} {as : List rx_V} {dj : Nat} {v : Option rx_V} (hr : wx_run wr orc ro bx t0 dm n mt h as = some (dj, v)) (hn : rx_HS (Φ h) (Φ t0))
    (D : va_G) (sb : List Nat) (tt u : Nat) (hsb : sb.length = 20) (htt : tt ≤ 3000) (hu : u + dm ≤ wx_bd) (ad : List Nat) (sz : Nat) : Met l mt.1 (rx_ws mt) (rx_rm mt 0 0) (rx_Pc wr D (wx_su sb tt u) ad ro (Φ h) as sz) (rx_Qc wr D (wx_su sb tt (u + dj)) ad (Φ t0) v sz) 0 0 (rx_AW wr ad sz) := by
  unfold wx_run at hr
  obtain ⟨hlen, hr⟩ := rx_bif hr
  have hlen := Nat.le_of_ble_eq_true hlen
  rw [rx_fl_eq] at hr
  split at hr
  · rename_i r hw
    cases hr
    refine Met.ofW (cc := mt.2.1) (maxL := mt.2.2.1) (ret := mt.2.2.2.1) okm.2.2 rfl ?_
    intro p e s m args below meth c s₁ B hml hv
    obtain ⟨vs, rfl, hS, rfl, hK, hN, hRO, hTW, ws, hW, hP, hD⟩ := hv
    have C0 : rx_Cx p s m vs.toArray meth c D (rx_AW wr ad s.heap.size) (rx_BW wr ad s.heap.size) wr (wx_su sb tt u) ro mt := ⟨B.exec, B.bytes, hml, by rw [okm.2.1]; exact findClass_of_methodNamed B.named, fun w hw => atoms_spec (ws := rx_ws mt) B.pre w (List.mem_cons_of_mem _ hw), B.returns, B.notSynchronized, (name_of_methodNamed B.named B.method).1, hK, fun q h => Or.inr h, hRO, hN, rx_BAW, hTW⟩
    have C := wx_C_su hsb hro C0
    have hl := lv_entry vs (n := mt.2.2.1) (by rw [rx_sl_len hS]; exact hlen)
    rw [lg_entry_eq]
    generalize (lg_sl vs ++ List.replicate (mt.2.2.1 - (lg_sl vs).length) Slot.unset).toArray = ls at hl ⊢
    have key := wx_ok (e := e) (R := rx_rm mt 0 0) (below := below) (cells := 0) (slots := 0) (u0 := u) (dm := dm) (Q := MQ below (rx_Qc wr D (wx_su sb tt (u + dj)) ad (Φ t0) v s.heap.size) vs.toArray s 0 0 (rx_AW wr ad s.heap.size)) C hsb hΦ okm hob ⟨rfl, rfl⟩ ⟨Nat.le_refl _, Nat.le_refl _⟩ hu hO hBx (Or.inl rfl) htt (PV := fun a => a.1 ≤ dj ∧ wx_sem a.2 v) (fun a c0 h1 h2 h3 => ⟨Nat.le_trans h1 h3.1, fun x y z w => h3.2 x y z (wx_sem_lo h2 x y z w)⟩) (fun pc row L st h0 d0 v0 hp hrow hrv hn0 => wx_RT C hsb okm hp.1 hp.2 hrow hrv hn0) n wx_End 0 0 h (rx_ini as mt.2.2.1) [] _ hw hn (fun s' hs' => by cases hs') (fun v' hv' => by cases hv'; exact ⟨Nat.le_refl _, wx_sem_rf⟩)
    refine key ad ws s.heap [] ls [] (List.prefix_refl _) hW hP ?_ va_S.rf (rx_ini_L hS hlen hl) trivial
    refine hD.weaken (fun k q hk _ => rx_AB (Or.inl ?_))
    rw [← hW.1]
    exact List.mem_map.mpr ⟨q, List.mem_of_getElem? hk, rfl⟩
  · cases hr
