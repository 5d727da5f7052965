/-! WHAT A HELPER's CALL DOES, run by the little machine: it comes back, or the class's method throws and it catches -/
/-- the class's own cells forgotten, where that can be said -/
noncomputable def rx_wd (res : rx_R) : Option rx_R := Option.rec (motive := fun _ => Option rx_R) (some res) (fun r => some r) (rx_sbP rx_ct res.2.1 fun rest => rx_fl (rx_ct ++ rest) fun h2 => some (res.1, h2, res.2.2.1, res.2.2.2))
theorem rx_wd_some {res r : rx_R} (h : rx_wd res = some r) : r.1 = res.1 ∧ rx_HS res.2.1 r.2.1 ∧ r.2.2 = res.2.2 := by
  unfold rx_wd at h
  cases hq : (rx_sbP rx_ct res.2.1 fun rest => rx_fl (rx_ct ++ rest) fun h2 => some (res.1, h2, res.2.2.1, res.2.2.2)) with
  | none =>
    rw [hq] at h
    cases h
    exact ⟨rfl, rx_HS_rf, rfl⟩
  | some r0 =>
    rw [hq] at h
    cases h
    obtain ⟨rest, hs, h⟩ := rx_sbP_some hq
    rw [rx_fl_eq] at h
    cases h
    exact ⟨rfl, hs, rfl⟩
noncomputable def rx_thr (orc0 : rx_Orc) (ro : List (List rx_V)) (n : Nat) (mt mj : rx_MT) (ciK slot pc2 x : Nat) (h : rx_H) (L1 : rx_F) (as' : List rx_V) : Option rx_R := match as' with
  | .inr (.inr (.inl (some a))) :: as2 => rx_get h a fun c => (match c with
    | .inl (ci, _) => bif Nat.beq ci ciK && (Nat.ble (rx_arg (.inr (.inr (.inl (some a))) :: as2)).length mj.2.2.1 && rx_pv L1 slot) then rx_set L1 slot none fun L2 => rx_fl (rx_ini (.inr (.inr (.inl (some a))) :: as2) mj.2.2.1) fun L0 => Option.rec (motive := fun _ => Option rx_R) none (fun res => bif rx_eO res.1 (some (.inr (.inr (.inr (100000 + x))))) && (Nat.beq res.2.2.1 0 && Nat.beq res.2.2.2 0) then Option.rec (motive := fun _ => Option rx_R) none (fun res => rx_wd res) (rx_ex true rx_xM orc0 ro n false mt.2.2.2.2.2.1 pc2 h L2 [] 1 6) else none) (rx_ex false rx_xM rx_no ro n true mj.2.2.2.2.2.1 0 h L0 [] 0 0) else none
    | .inr _ => none)
  | _ => none
noncomputable def rx_orD (orc0 : rx_Orc) (ro : List (List rx_V)) (n : Nat) (mt mj : rx_MT) (pcI np ciK slot pc2 x : Nat) (h : rx_H) (as : List rx_V) : Option rx_R :=
  bif Nat.ble (rx_arg as).length mt.2.2.1 then rx_fl (rx_ini as mt.2.2.1) fun L0 => Option.rec (motive := fun _ => Option rx_R)
    (Option.rec (motive := fun _ => Option rx_R) none (fun z => bif rx_eL rx_eC z.1 h then rx_pop np z.2.2 [] fun as' r => bif Nat.ble (rx_cats r) 8 then rx_thr orc0 ro n mt mj ciK slot pc2 x h z.2.1 as' else none else none) (rx_cut true ro mt.2.2.2.2.2.1 pcI n 0 h L0 []))
    (fun res => rx_wd res) (rx_ex true rx_xM orc0 ro n false mt.2.2.2.2.2.1 0 h L0 [] 0 0) else none
theorem rx_orec {α β : Type} {o : Option α} {f : α → Option β} {r : β} (h : Option.rec (motive := fun _ => Option β) none f o = some r) : ∃ a, o = some a ∧ f a = some r := by
  cases o with
  | none => cases h
  | some a => exact ⟨a, rfl, h⟩
theorem rx_orD_ok {orc0 : rx_Orc} {ro : List (List rx_V)} {l : Launch} (hfl : l.flags = pinnedFlags ++ [noTraceFlag]) {n : Nat} (hF : rx_FF true rx_xM orc0 ro l n) (hFf : rx_FF false rx_xM rx_no ro l n)
    {mt mj : rx_MT} (ok : rx_MOk rx_xM mt) {pcI i np1 tg : Nat} {K : rx_K} (hrow : mt.2.2.2.2.2.1 pcI = some (.invokevirtual i, np1, tg, K)) (hK : K.1 = 5) (hmj : rx_xM[K.2.1]? = some mj) (hretj : mj.2.2.2.1 = some .int) (hRj : 6 ≤ mj.2.2.2.2.2.2.1 ∧ 100 ≤ mj.2.2.2.2.2.2.2.1) (hsite : ∀ pc row, mj.2.2.2.2.2.1 pc = some row → row.2.2.2.1 = 15 → rx_Site mj pc row.2.2.2.2.1)
    {lo hi hpc ct : Nat} {ht : List (Nat × Nat × Nat × Nat)} (hcov : lo ≤ pcI ∧ pcI < hi) (hct : ct ≠ 0) {x : Nat} {X : String} (hx : rx_xn[x]? = some X) (hcl : Jvm.Cond.classLink mt.2.2.2.2.1 ct X ∈ rx_bw) (hca : Jvm.Cond.castable X X ∈ rx_tw) {slot pc2 : Nat} (hast : rx_Ast mt hpc slot pc2)
    {np ciK : Nat} (hnp : K.2.2.1 = np) (hci : K.2.2.2.toNat = ciK) {h : rx_H} {as : List rx_V} {v : Option rx_V} {h' : rx_H} {dc ds : Nat} (ho : rx_orD orc0 ro n mt mj pcI np ciK slot pc2 x h as = some (v, h', dc, ds)) :
    ∃ h1, rx_HS h1 h' ∧ ∀ (D : va_G) (sa ad : List Nat) (sz : Nat), Met l mt.1 (rx_wsH mt ((lo, hi, hpc, ct) :: ht)) (rx_rm mt dc ds) (rx_Pc true D sa ad ro h as sz) (rx_Qc true D sa ad h1 v sz) dc ds (rx_AW true ad sz) := by
  unfold rx_orD at ho
  obtain ⟨hlen, ho⟩ := rx_bif ho
  have hlen := Nat.le_of_ble_eq_true hlen
  rw [rx_fl_eq] at ho
  cases hr : rx_ex true rx_xM orc0 ro n false mt.2.2.2.2.2.1 0 h (rx_ini as mt.2.2.1) [] 0 0 with
  | some res =>
    rw [hr] at ho
    obtain ⟨e1, e2, e3⟩ := rx_wd_some ho
    obtain ⟨v1, h1, c1, s1⟩ := res
    cases e1
    cases e3
    exact ⟨h1, e2, fun D sa ad sz => rx_metW hF ok _ D sa ad sz hlen hr⟩
  | none =>
    rw [hr] at ho
    obtain ⟨⟨hz, L1, st1⟩, hcut, ho⟩ := rx_orec ho
    obtain ⟨g1, ho⟩ := rx_bif ho
    have e := rx_eL_ok rx_eC_ok g1
    have e : hz = h := e
    subst e
    obtain ⟨xs, r, hst, hxl, ho⟩ := rx_pop_some ho
    rw [List.append_nil] at ho
    obtain ⟨hcat, ho⟩ := rx_bif ho
    have hcat := Nat.le_of_ble_eq_true hcat
    have hxr : xs = xs.reverse.reverse := (List.reverse_reverse xs).symm
    have hrl : xs.reverse.length = np := by rw [List.length_reverse]; exact hxl
    rw [hxr] at hst
    generalize xs.reverse = as' at ho hst hrl
    unfold rx_thr at ho
    split at ho
    · rename_i a as2
      obtain ⟨c, hc, ho⟩ := rx_get_some ho
      split at ho
      · rename_i ci fs
        obtain ⟨b2, ho⟩ := rx_bif ho
        obtain ⟨g2, b3⟩ := rx_and2 b2
        obtain ⟨g3, g4⟩ := rx_and2 b3
        obtain ⟨g5, ho⟩ := rx_set_some ho
        rw [rx_fl_eq] at ho
        obtain ⟨res, hrj, ho⟩ := rx_orec ho
        obtain ⟨g6, ho1⟩ := rx_bif ho
        obtain ⟨g6, g7⟩ := rx_and2 g6
        obtain ⟨g7, g8⟩ := rx_and2 g7
        obtain ⟨res2, hr2, ho2⟩ := rx_orec ho1
        clear ho ho1
        obtain ⟨vj, hj, cj, sj⟩ := res
        have e1 : vj = some (.inr (.inr (.inr (100000 + x)))) := rx_eO_ok g6
        have e2 : cj = 0 := Nat.eq_of_beq_eq_true g7
        have e3 : sj = 0 := Nat.eq_of_beq_eq_true g8
        subst e1; subst e2; subst e3
        obtain ⟨e1, e2, e3⟩ := rx_wd_some ho2
        obtain ⟨v1, h1, c1, s1⟩ := res2
        cases e1
        cases e3
        have hst : st1 = (.inr (.inr (.inl (some a))) :: as2).reverse ++ r := hst
        subst hst
        refine ⟨h1, e2, fun D sa ad sz => ?_⟩
        exact rx_metT hfl hF hFf rx_all rx_hob ok hrow hK hmj hretj hRj hsite hcov hct hx hcl hca hast D sa ad sz hlen hcut (by rw [hnp]; exact hrl) hcat hc ((Nat.eq_of_beq_eq_true g2).trans hci.symm) (Nat.le_of_ble_eq_true g3) hrj g5 g4 hr2
      · cases ho
    · cases ho
