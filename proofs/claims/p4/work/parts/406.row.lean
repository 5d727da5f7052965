/-! EVERY ROW OF THE WIDE MACHINE IS SOUND -/
theorem wx_sw_one {d lo hi : Int} {offs : Array Int} (hl : hi - lo + 1 ≤ offs.toList.length) (i : Int) : ∃ o, rx_sw d lo hi offs (i, i) = some o ∧ o ∈ d :: offs.toList := by
  unfold rx_sw
  cases h1 : rx_le lo i && rx_le i hi with
  | true =>
    obtain ⟨g1, g2⟩ := rx_and2 h1
    have g1 := rx_le_t g1
    have g2 := rx_le_t g2
    have hz : (i - lo).toNat < offs.toList.length := by omega
    refine ⟨offs.toList[(i - lo).toNat]'hz, ?_, List.mem_cons_of_mem _ (List.getElem_mem hz)⟩
    show (bif rx_one (i, i) then offs[(i - lo).toNat]? else none) = _
    rw [rx_one_z, ← Array.getElem?_toList]
    exact List.getElem?_eq_getElem hz
  | false => exact ⟨d, rfl, List.mem_cons_self⟩
theorem wx_ps_ok {β : Type} {keep : Bool} {v : rx_V} {k : rx_V → Option β} {r : β} (h : wx_ps keep v k = some r) : ∃ x, k x = some r ∧ rx_vi v x := by
  unfold wx_ps at h
  split at h
  · rename_i j
    rcases rx_bif2 h with ⟨g, h5⟩ | ⟨-, h5⟩
    · obtain ⟨g1, -⟩ := rx_and2 g
      have e := Nat.eq_of_beq_eq_true g1
      rw [e]
      exact ⟨.inl (0, 2147483647), h5, rx_vi_of rfl⟩
    · rcases rx_bif2 h5 with ⟨g, h6⟩ | ⟨-, h6⟩
      · rw [Nat.eq_of_beq_eq_true g]
        exact ⟨.inl (32, 2147483647), h6, rx_vi_of rfl⟩
      · rcases rx_bif2 h6 with ⟨-, h7⟩ | ⟨-, h7⟩
        · cases h7
        · exact ⟨_, h7, rx_vi_rf⟩
  · exact ⟨_, h, rx_vi_rf⟩
theorem wx_rem_in {i : Int} {b : Int × Int} (hi : 0 ≤ i) (h1 : rx_one b = true) (h2 : 1 ≤ b.1) (hb : b.1 ≤ b.2) : rx_vi (.inl (rx_rem (i, i) b)) (.inl (0, b.1 - 1)) := by
  have h3 := rx_le_t h1
  refine rx_vi_of ?_
  have e : rx_rem (i, i) b = (Int.emod i b.1, Int.emod i b.1) := by
    unfold rx_rem
    rw [show rx_le 0 (i, i).1 = true from (rx_le_iff _ _).mpr hi, rx_one_z, h1]
    rfl
  rw [e]
  have m1 : 0 ≤ Int.emod i b.1 := Int.emod_nonneg i (show b.1 ≠ 0 by omega)
  have m2 : Int.emod i b.1 < b.1 := Int.emod_lt_of_pos i (show 0 < b.1 by omega)
  show (rx_le 0 (Int.emod i b.1) && rx_le (Int.emod i b.1) (b.1 - 1)) = true
  rw [(rx_le_iff _ _).mpr m1, (rx_le_iff _ _).mpr (show Int.emod i b.1 ≤ b.1 - 1 by omega)]
  rfl
section WXS
variable {p : Program} {l : Launch} {e : Env} {R : Room} {s : State} {m : MethodId} {args : Array Value} {below : List Frame} {meth : Method} {c : Code} {Q : State → Prop} {D : va_G} {A B : Nat → Prop} {wr : Bool} {sb ad0 : List Nat} {tt : Nat} {ro : List (List rx_V)} {mt : rx_MT} {xM : List rx_MT} {cells slots : Nat} {pc d u0 : Nat} {row : rx_Row} {h t0 : rx_H} {L : rx_F} {st r : List rx_V} {r0 : wx_R} {Φ : rx_H → rx_H} {k : wx_Kt} {fk : Nat → List wx_Alt → Option wx_R} {rt : Option rx_V → Option wx_R} {orc : wx_Orc} {bx : Nat → rx_H → List rx_H} {win : List rx_V} {dm : Nat} {X : rx_H} {u np tg : Nat} {K : rx_K}
theorem wx_ref2 {j : Nat} (hj : 1000000 ≤ j) (g0 : rx_Go p l e R s m args below meth c Q D A B (wx_su sb tt (u)) ad0 mt pc X L (.inr (.inr (.inl none)) :: r) cells slots) (g1 : ∀ k, rx_Go p l e R s m args below meth c Q D A B (wx_su sb tt (u)) ad0 mt pc X L (.inr (.inr (.inl (some k))) :: r) cells slots) : rx_Go p l e R s m args below meth c Q D A B (wx_su sb tt (u)) ad0 mt pc X L (.inr (.inr (.inr j)) :: r) cells slots := by
  refine wx_top (fun ad x hx => ?_)
  rcases hx with ⟨q, -⟩ | ⟨-, q, -⟩ | ⟨-, ⟨-, rfl⟩ | ⟨k, b, -, -, q3, rfl⟩⟩
  · omega
  · omega
  · exact ⟨.inr (.inr (.inl none)), fun _ _ _ => rfl, g0⟩
  · refine ⟨.inr (.inr (.inl (some k))), fun ad' hp _ => ?_, g1 k⟩
    obtain ⟨q, rfl⟩ := hp
    exact ⟨b, by rw [List.getElem?_append_left (List.getElem?_eq_some_iff.mp q3).1]; exact q3, rfl⟩
theorem wx_iaddU {b : Int × Int} (C : ∀ u, rx_Cx p s m args meth c D A B wr (wx_su sb tt u) ro mt) (hsb : sb.length = 20) (ok : rx_Ok xM mt pc (.iadd, np, tg, K)) (hu : u + 1 ≤ 2147483647) (h1 : 1 ≤ b.1) (h2 : b.2 ≤ 1) (g : rx_Go p l e R s m args below meth c Q D A B (wx_su sb tt (u)) ad0 mt np X L (.inr (.inr (.inr 600001)) :: r) cells slots) : rx_Go p l e R s m args below meth c Q D A B (wx_su sb tt (u)) ad0 mt pc X L (.inl b :: .inr (.inr (.inr 600000)) :: r) cells slots := by
  obtain ⟨hd, rfl⟩ := ok.dec (n := 0) rfl
  intro ad ws H locs ls vs a1 a2 a3 a4 a5 a6 a7
  obtain ⟨v1, v2, rfl, ⟨y, rfl, hy⟩, a8⟩ := rx_S_cons a7
  obtain ⟨v3, vs, rfl, hx, a9⟩ := rx_S_cons a8
  rcases hx with ⟨q, -⟩ | ⟨-, -, x, rfl, hx⟩ | ⟨q, -⟩
  · omega
  rotate_left
  · omega
  · refine lv_iadd (C u).1 (C u).2.1 hd (g ad ws H locs ls _ a1 a2 a3 a4 a5 a6 ⟨?_, a9⟩)
    rcases hx with ⟨-, q, -⟩ | ⟨-, q, -⟩ | ⟨-, q, -⟩ | ⟨-, q, -⟩ | ⟨-, -, w, q3, q4, q5⟩ | ⟨q, -⟩
    · omega
    · omega
    · omega
    · omega
    · rw [wx_su20 hsb] at q3
      cases q3
      obtain ⟨y1, y2⟩ := hy
      have u1 : rx_uh 600001 = 1 := rfl
      have u2 : rx_uh 600000 = 0 := rfl
      have u3 : rx_ul 600001 = 0 := rfl
      have e : (x + y).toInt = x.toInt + 1 := by
        rw [Int32.toInt_add, show y.toInt = 1 by omega]
        exact rx_bm32 (by omega) (by omega)
      exact Or.inr (Or.inl ⟨by omega, by omega, _, rfl, Or.inr (Or.inr (Or.inr (Or.inr (Or.inl ⟨by omega, by omega, u, wx_su20 hsb, by omega, by omega⟩))))⟩)
    · omega
theorem wx_iremU {b : Int × Int} (C : ∀ u, rx_Cx p s m args meth c D A B wr (wx_su sb tt u) ro mt) (hsb : sb.length = 20) (ok : rx_Ok xM mt pc (.irem, np, tg, K)) (h1 : rx_one b = true) (h2 : 1 ≤ b.1) (g : rx_Go p l e R s m args below meth c Q D A B (wx_su sb tt (u)) ad0 mt np X L (.inl (0, b.1 - 1) :: r) cells slots) : rx_Go p l e R s m args below meth c Q D A B (wx_su sb tt (u)) ad0 mt pc X L (.inl b :: .inr (.inr (.inr 600000)) :: r) cells slots := by
  have h3 := rx_le_t h1
  refine wx_top (fun ad0' y0 hy0 => ⟨.inl b, fun _ _ z => z, ?_⟩)
  obtain ⟨y, rfl, y1, y2⟩ := hy0
  refine wx_secI rfl (fun ad i hi => ?_)
  have hi2 : 0 ≤ i.toInt := by
    rcases hi with ⟨q, -⟩ | ⟨-, -, x, e, hx⟩ | ⟨q, -⟩
    · omega
    · cases e
      rcases hx with ⟨-, q, -⟩ | ⟨-, q, -⟩ | ⟨-, q, -⟩ | ⟨-, q, -⟩ | ⟨-, -, w, q3, q4, q5⟩ | ⟨q, -⟩
      · omega
      · omega
      · omega
      · omega
      · omega
      · omega
    · omega
  exact rx_o_irem (C u) ok h2 (wx_mono hsb (Nat.le_refl _) rx_HS_rf rx_LS_rf (rx_SS_cons rx_SS_rf (wx_rem_in hi2 h1 h2 (by omega))) g)
theorem wx_iandU {a b : Int × Int} (C : ∀ u, rx_Cx p s m args meth c D A B wr (wx_su sb tt u) ro mt) (ok : rx_Ok xM mt pc (.iand, np, tg, K)) (h1 : rx_one b = true) (h2 : 0 ≤ b.1) (g : rx_Go p l e R s m args below meth c Q D A B (wx_su sb tt (u)) ad0 mt np X L (.inl (0, b.1) :: r) cells slots) : rx_Go p l e R s m args below meth c Q D A B (wx_su sb tt (u)) ad0 mt pc X L (.inl b :: .inl a :: r) cells slots := by
  obtain ⟨hd, rfl⟩ := ok.dec (n := 0) rfl
  have h3 := rx_le_t h1
  intro ad ws H locs ls vs a1 a2 a3 a4 a5 a6 a7
  obtain ⟨v1, v2, rfl, ⟨y, rfl, y1, y2⟩, a8⟩ := rx_S_cons a7
  obtain ⟨v3, vs, rfl, ⟨x, rfl, hx⟩, a9⟩ := rx_S_cons a8
  exact lv_iand (C u).1 (C u).2.1 hd (g ad ws H locs ls _ a1 a2 a3 a4 a5 a6 ⟨⟨_, rfl, wx_and_le h2 (by omega)⟩, a9⟩)
theorem wx_ldivN {a b : Int × Int} (C : ∀ u, rx_Cx p s m args meth c D A B wr (wx_su sb tt u) ro mt) (ok : rx_Ok xM mt pc (.ldiv, np, tg, K)) (h1 : b.2 ≤ -1) (g : rx_Go p l e R s m args below meth c Q D A B (wx_su sb tt (u)) ad0 mt np X L (.inr (.inl rx_topL) :: r) cells slots) : rx_Go p l e R s m args below meth c Q D A B (wx_su sb tt (u)) ad0 mt pc X L (.inr (.inl b) :: .inr (.inl a) :: r) cells slots := by
  obtain ⟨hd, rfl⟩ := ok.dec (n := 0) rfl
  intro ad ws H locs ls vs a1 a2 a3 a4 a5 a6 a7
  obtain ⟨v1, v2, rfl, ⟨y, rfl, y1, y2⟩, a8⟩ := rx_S_cons a7
  obtain ⟨v3, vs, rfl, ⟨x, rfl, hx⟩, a9⟩ := rx_S_cons a8
  refine lv_ldiv (C u).1 (C u).2.1 hd (fun e => ?_) (g ad ws H locs ls _ a1 a2 a3 a4 a5 a6 ⟨⟨_, rfl, rx_r64 _⟩, a9⟩)
  subst e
  have h0 : (0 : Int64).toInt = 0 := by decide
  omega
/-- the script's place: index t + k -/
theorem wx_iaddI {b : Int × Int} (C : ∀ u, rx_Cx p s m args meth c D A B wr (wx_su sb tt u) ro mt) (hsb : sb.length = 20) (ok : rx_Ok xM mt pc (.iadd, np, tg, K)) (ht : tt ≤ 3000) (h1 : rx_one b = true) (h2 : 0 ≤ b.1) (h3 : b.1 ≤ 4) (g : rx_Go p l e R s m args below meth c Q D A B (wx_su sb tt (u)) ad0 mt np X L (.inr (.inr (.inr (650000 + b.1.toNat))) :: r) cells slots) : rx_Go p l e R s m args below meth c Q D A B (wx_su sb tt (u)) ad0 mt pc X L (.inl b :: .inr (.inr (.inr 650000)) :: r) cells slots := by
  obtain ⟨hd, rfl⟩ := ok.dec (n := 0) rfl
  have h4 := rx_le_t h1
  intro ad ws H locs ls vs a1 a2 a3 a4 a5 a6 a7
  obtain ⟨v1, v2, rfl, ⟨y, rfl, hy⟩, a8⟩ := rx_S_cons a7
  obtain ⟨v3, vs, rfl, hx, a9⟩ := rx_S_cons a8
  rcases hx with ⟨q, -⟩ | ⟨-, -, x, rfl, hx⟩ | ⟨q, -⟩
  · omega
  rotate_left
  · omega
  · refine lv_iadd (C u).1 (C u).2.1 hd (g ad ws H locs ls _ a1 a2 a3 a4 a5 a6 ⟨?_, a9⟩)
    rcases hx with ⟨-, q, -⟩ | ⟨-, q, -⟩ | ⟨-, q, -⟩ | ⟨-, q, -⟩ | ⟨-, q, -⟩ | ⟨-, -, w, q3, q4⟩
    · omega
    · omega
    · omega
    · omega
    · omega
    · rw [wx_su21 hsb] at q3
      cases q3
      obtain ⟨y1, y2⟩ := hy
      have e : (x + y).toInt = x.toInt + b.1 := by
        rw [Int32.toInt_add, show y.toInt = b.1 by omega]
        exact rx_bm32 (by omega) (by omega)
      exact Or.inr (Or.inl ⟨by omega, by omega, _, rfl, Or.inr (Or.inr (Or.inr (Or.inr (Or.inr ⟨by omega, by omega, tt, wx_su21 hsb, by omega⟩))))⟩)
theorem wx_wload {i : Nat} {v : rx_V} (C : ∀ u, rx_Cx p s m args meth c D A B wr (wx_su sb tt u) ro mt) (hsb : sb.length = 20) (ok : rx_Ok xM mt pc (.iaload, np, tg, K)) {l0 : List rx_V} (hl : ro[4]? = some l0) (h1 : 650000 ≤ i) (h2 : i ≤ 650004) (hv : l0[tt + (i - 650000)]? = some v) (g : rx_Go p l e R s m args below meth c Q D A B (wx_su sb tt (u)) ad0 mt np X L (v :: r) cells slots) : rx_Go p l e R s m args below meth c Q D A B (wx_su sb tt (u)) ad0 mt pc X L (.inr (.inr (.inr i)) :: .inr (.inr (.inr 4)) :: r) cells slots := by
  refine wx_topI (by show (Nat.ble 200000 i && Nat.ble i 999999) = true; rw [Nat.ble_eq_true_of_le (show 200000 ≤ i by omega), Nat.ble_eq_true_of_le (show i ≤ 999999 by omega)]; rfl) (fun ad z hz => ?_)
  rcases hz with ⟨q, -⟩ | ⟨-, -, x, e, hx⟩ | ⟨q, -⟩
  · omega
  rotate_left
  · omega
  · cases e
    rcases hx with ⟨-, q, -⟩ | ⟨-, q, -⟩ | ⟨-, q, -⟩ | ⟨-, q, -⟩ | ⟨-, q, -⟩ | ⟨-, -, w, q3, q4⟩
    · omega
    · omega
    · omega
    · omega
    · omega
    · rw [wx_su21 hsb] at q3
      cases q3
      exact rx_o_rload (C u) ok (by decide) hl (rx_one_z _) ((rx_le_iff _ _).mpr (by show 0 ≤ z.toInt; omega)) (by show l0[z.toInt.toNat]? = _; rw [show z.toInt.toNat = tt + (i - 650000) by omega]; exact hv) g
set_option maxHeartbeats 4000000 in
theorem wx_row_ok (C : ∀ u, rx_Cx p s m args meth c D (rx_AW wr ad0 s.heap.size) (rx_BW wr ad0 s.heap.size) wr (wx_su sb tt u) ro mt) (hsb : sb.length = 20) (hΦ : wx_Ph Φ) (ok : rx_Ok xM mt pc row) (hob : Jvm.Cond.instanceMethod Lib.objectInit ∈ rx_bw ∧ Jvm.Cond.code Lib.objectInit ⟨#[0xb1]⟩ 1 none ∈ rx_bw) (hRm : R.frames = mt.2.2.2.2.2.2.1 ∧ R.locals = mt.2.2.2.2.2.2.2.1) (hm : cells ≤ R.cells ∧ slots ≤ R.slots) (hU : u0 + dm ≤ wx_bd)
    (hO : wx_HO wr xM l orc ro Φ t0) (hBx : wx_HB Φ t0 bx) (hWn : win = [] ∨ ∃ (ro2 : List (List rx_V)) (l0 : List rx_V), ro2[4]? = some l0 ∧ (∀ u, rx_Cx p s m args meth c D (rx_AW wr ad0 s.heap.size) (rx_BW wr ad0 s.heap.size) wr (wx_su sb tt u) ro2 mt) ∧ ∀ (k : Nat) (v : rx_V), win[k]? = some v → l0[tt + k]? = some v) (htt : tt ≤ 3000) (hn : rx_HS (Φ h) (Φ t0))
    (hk : ∀ pc' d' h' L' st', k pc' d' h' L' st' = some r0 → rx_HS (Φ h') (Φ t0) → rx_Go p l e R s m args below meth c Q D (rx_AW wr ad0 s.heap.size) (rx_BW wr ad0 s.heap.size) (wx_su sb tt (u0 + d')) ad0 mt pc' (Φ h') L' st' cells slots)
    (hf : ∀ q alts, fk q alts = some r0 → ∀ a ∈ alts, rx_HS (Φ a.2.1) (Φ t0) → rx_Go p l e R s m args below meth c Q D (rx_AW wr ad0 s.heap.size) (rx_BW wr ad0 s.heap.size) (wx_su sb tt (u0 + d)) ad0 mt a.1 (Φ a.2.1) a.2.2.1 a.2.2.2 cells slots)
    (hr : ∀ v, rt v = some r0 → rx_rv false row st v → rx_Go p l e R s m args below meth c Q D (rx_AW wr ad0 s.heap.size) (rx_BW wr ad0 s.heap.size) (wx_su sb tt (u0 + d)) ad0 mt pc (Φ h) L st cells slots)
    (hs : wx_row wr orc ro bx win t0 dm row pc d h L st k fk rt = some r0) : rx_Go p l e R s m args below meth c Q D (rx_AW wr ad0 s.heap.size) (rx_BW wr ad0 s.heap.size) (wx_su sb tt (u0 + d)) ad0 mt pc (Φ h) L st cells slots := by
  obtain ⟨ins, np, tg, K⟩ := row
  have pl : wx_st wr ro (ins, np, tg, K) pc d h L st k = some r0 → rx_Go p l e R s m args below meth c Q D (rx_AW wr ad0 s.heap.size) (rx_BW wr ad0 s.heap.size) (wx_su sb tt (u0 + d)) ad0 mt pc (Φ h) L st cells slots := fun q => wx_st_ok C ok hob hRm hm (fun pc' L' st' z => hk _ _ _ _ _ z hn) q
  have ld : wx_ld wr ro bx (ins, np, tg, K) pc d h L st k fk = some r0 → rx_Go p l e R s m args below meth c Q D (rx_AW wr ad0 s.heap.size) (rx_BW wr ad0 s.heap.size) (wx_su sb tt (u0 + d)) ad0 mt pc (Φ h) L st cells slots := by
    intro q
    unfold wx_ld at q
    rcases rx_bif2 q with ⟨-, q⟩ | ⟨-, q⟩
    · split at q
      · rename_i a b e
        have z := hf _ _ q
        intro ad ws H locs ls vs a1 a2 a3 a4 a5 a6 a7
        rcases wx_sp_ok e a6 with y | y
        · exact z _ List.mem_cons_self hn ad ws H locs ls vs a1 a2 a3 a4 a5 y a7
        · exact z _ (List.mem_cons_of_mem _ List.mem_cons_self) hn ad ws H locs ls vs a1 a2 a3 a4 a5 y a7
      · exact pl q
    · rcases rx_bif2 q with ⟨-, q⟩ | ⟨-, q⟩
      · split at q
        · rename_i a b e
          have z := hf _ _ q
          intro ad ws H locs ls vs a1 a2 a3 a4 a5 a6 a7
          rcases wx_sn_ok e a6 with y | y
          · exact z _ List.mem_cons_self hn ad ws H locs ls vs a1 a2 a3 a4 a5 y a7
          · exact z _ (List.mem_cons_of_mem _ List.mem_cons_self) hn ad ws H locs ls vs a1 a2 a3 a4 a5 y a7
        · exact pl q
      · rcases rx_bif2 q with ⟨-, q⟩ | ⟨-, q⟩
        · split at q
          · rename_i q0 e
            obtain ⟨-, q⟩ := rx_bif q
            refine wx_st_ok C ok hob hRm hm (fun pc' L' st' z => ?_) q
            obtain ⟨hb1, hb2⟩ := hBx q0.1.toNat h hn
            have z2 := hf _ _ z
            intro ad ws H locs ls vs a1 a2 a3 a4 a5 a6 a7
            obtain ⟨h', hm', hw'⟩ := hb2 _ _ _ _ a2
            exact z2 _ (List.mem_map.mpr ⟨h', hm', rfl⟩) (hb1 h' hm') ad ws H locs ls vs a1 hw' a3 a4 a5 a6 a7
          · cases q
        · rcases rx_bif2 q with ⟨-, q⟩ | ⟨-, q⟩
          · refine wx_st_ok C ok hob hRm hm (fun pc' L' st' z => ?_) q
            obtain ⟨hb1, hb2⟩ := hBx K.2.2.1 h hn
            have z2 := hf _ _ z
            intro ad ws H locs ls vs a1 a2 a3 a4 a5 a6 a7
            obtain ⟨h', hm', hw'⟩ := hb2 _ _ _ _ a2
            exact z2 _ (List.mem_map.mpr ⟨h', hm', rfl⟩) (hb1 h' hm') ad ws H locs ls vs a1 hw' a3 a4 a5 a6 a7
          · exact pl q
  have br : ∀ {t : Option (Option Bool)} {r : List rx_V}, wx_br t K.2.1 tg np d h L r k fk = some r0 → ∃ t0', t = some t0' ∧ ((t0' = some true ∨ t0' = none) → rx_Go p l e R s m args below meth c Q D (rx_AW wr ad0 s.heap.size) (rx_BW wr ad0 s.heap.size) (wx_su sb tt (u0 + d)) ad0 mt tg (Φ h) L r cells slots) ∧ ((t0' = some false ∨ t0' = none) → rx_Go p l e R s m args below meth c Q D (rx_AW wr ad0 s.heap.size) (rx_BW wr ad0 s.heap.size) (wx_su sb tt (u0 + d)) ad0 mt np (Φ h) L r cells slots) := by
    intro t r q
    unfold wx_br at q
    split at q
    · exact ⟨_, rfl, fun _ => hk _ _ _ _ _ q hn, fun z => by rcases z with z | z <;> cases z⟩
    · exact ⟨_, rfl, fun z => (by rcases z with z | z <;> cases z), fun _ => hk _ _ _ _ _ q hn⟩
    · have z := hf _ _ q
      exact ⟨_, rfl, fun _ => z _ List.mem_cons_self hn, fun _ => z _ (List.mem_cons_of_mem _ List.mem_cons_self) hn⟩
    · cases q
  have cal : ∀ {as r : List rx_V}, wx_call orc t0 dm np d h L K.2.1 as r k = some r0 → ∃ (v : Option rx_V) (dj : Nat) (kp : Bool), orc K.2.1 h as = some (v, dj, kp) ∧ d + dj ≤ dm ∧ rx_HS (Φ (bif kp then h else t0)) (Φ t0) ∧ rx_Go p l e R s m args below meth c Q D (rx_AW wr ad0 s.heap.size) (rx_BW wr ad0 s.heap.size) (wx_su sb tt (u0 + d + dj)) ad0 mt np (Φ (bif kp then h else t0)) L (rx_ol v r) cells slots := by
    intro as r q
    unfold wx_call at q
    split at q
    · rename_i v dj kp e
      obtain ⟨g1, q⟩ := rx_bif q
      rw [rx_fN_eq] at q
      have hn2 : rx_HS (Φ (bif kp then h else t0)) (Φ t0) := by
        cases kp
        · exact rx_HS_rf
        · exact hn
      have z := hk _ _ _ _ _ q hn2
      rw [← Nat.add_assoc] at z
      exact ⟨v, dj, kp, e, Nat.le_of_ble_eq_true g1, hn2, z⟩
    · cases q
  cases ins with
  | ifCond c o =>
    simp only [wx_row] at hs
    split at hs
    · obtain ⟨t, e, k1, k2⟩ := br hs
      exact wx_if C ok e k1 k2
    · cases hs
  | if_icmp c o =>
    simp only [wx_row] at hs
    split at hs
    · obtain ⟨t, e, k1, k2⟩ := br hs
      exact wx_icmp C ok e k1 k2
    · cases hs
  | ifnull o =>
    simp only [wx_row] at hs
    split at hs
    · rename_i j r
      obtain ⟨g1, hs⟩ := rx_bif hs
      rcases rx_bif2 hs with ⟨g2, hs⟩ | ⟨-, hs⟩
      · exact wx_pick (a := rx_oa j) (n := rx_ob j + 1 - rx_oa j) (by show (bif Nat.ble 1000000 j && Nat.beq (rx_on j) 0 then _ else _) = _; rw [g1, g2]; rfl) (fun k0 _ _ => rx_o_ifnull1 (C _) ok (hk _ _ _ _ _ hs hn))
      · have z := hf _ _ hs
        exact wx_ref2 (Nat.le_of_ble_eq_true g1) (rx_o_ifnull0 (C _) ok (z _ List.mem_cons_self hn)) (fun k0 => rx_o_ifnull1 (C _) ok (z _ (List.mem_cons_of_mem _ List.mem_cons_self) hn))
    · exact pl hs
  | ifnonnull o =>
    simp only [wx_row] at hs
    split at hs
    · rename_i j r
      obtain ⟨g1, hs⟩ := rx_bif hs
      rcases rx_bif2 hs with ⟨g2, hs⟩ | ⟨-, hs⟩
      · exact wx_pick (a := rx_oa j) (n := rx_ob j + 1 - rx_oa j) (by show (bif Nat.ble 1000000 j && Nat.beq (rx_on j) 0 then _ else _) = _; rw [g1, g2]; rfl) (fun k0 _ _ => rx_o_ifnonnull1 (C _) ok (hk _ _ _ _ _ hs hn))
      · have z := hf _ _ hs
        exact wx_ref2 (Nat.le_of_ble_eq_true g1) (rx_o_ifnonnull0 (C _) ok (z _ (List.mem_cons_of_mem _ List.mem_cons_self) hn)) (fun k0 => rx_o_ifnonnull1 (C _) ok (z _ List.mem_cons_self hn))
    · exact pl hs
  | tableswitch dd lo hi offs =>
    simp only [wx_row] at hs
    split at hs
    · rename_i q r
      obtain ⟨g1, hs⟩ := rx_bif hs
      obtain ⟨g1, g2⟩ := rx_and2 g1
      split at hs
      · rename_i o e
        obtain ⟨g3, hs⟩ := rx_bif hs
        exact rx_o_switch (C _) ok e (rx_le_t g3) (hk _ _ _ _ _ hs hn)
      · have z := hf _ _ hs
        refine wx_topI rfl (fun ad i hi => ?_)
        obtain ⟨o, e1, e2⟩ := wx_sw_one (d := dd) (rx_le_t g2) i.toInt
        exact rx_o_switch (C _) ok e1 (rx_le_t (List.all_eq_true.mp g1 o e2)) (z _ (List.mem_map.mpr ⟨o, e2, rfl⟩) hn)
    · cases hs
  | iload i => exact ld hs
  | iload_n i => exact ld hs
  | lload i => exact ld hs
  | lload_n i => exact ld hs
  | aload i => exact ld hs
  | aload_n i => exact ld hs
  | getfield i =>
    simp only [wx_row] at hs
    split at hs
    · rename_i o r
      split at hs
      · rename_i a n e1
        split at hs
        · rename_i w e2
          obtain ⟨g1, hs⟩ := rx_bif hs
          obtain ⟨g1, g2⟩ := rx_and2 g1
          obtain ⟨x, hs, hv⟩ := wx_ps_ok hs
          refine wx_getfield C hsb hΦ ok ((rx_or2 g1).imp Nat.eq_of_beq_eq_true Nat.eq_of_beq_eq_true) e1 (fun k0 k1 k2 => ?_) (hk _ _ _ _ _ hs hn)
          have g3 := wx_fa_ok g2 k1 k2
          unfold wx_rfit at g3
          split at g3
          · rename_i y e3
            obtain ⟨g4, g5⟩ := rx_and2 g3
            exact ⟨y, e3, g4, rx_vi_tr (rx_vi_of g5) hv⟩
          · cases g3
        · cases hs
      · cases hs
    · cases hs
  | putfield i =>
    simp only [wx_row] at hs
    split at hs
    · rename_i v o r
      split at hs
      · rename_i a n e1
        unfold wx_pf at hs
        obtain ⟨g1, hs1⟩ := rx_bif hs
        obtain ⟨g1, g2⟩ := rx_and2 g1
        have hK := (rx_or2 g2).imp Nat.eq_of_beq_eq_true Nat.eq_of_beq_eq_true
        clear hs
        rcases rx_bif2 hs1 with ⟨g3, hs2⟩ | ⟨-, hs2⟩
        · have ev := rx_eV_ok g3
          obtain ⟨g4, hs3⟩ := rx_bif hs2
          obtain ⟨g4, g5⟩ := rx_and2 g4
          obtain ⟨g5, g6⟩ := rx_and2 g5
          have en := Nat.eq_of_beq_eq_true g4
          split at hs3
          · rename_i x e2
            obtain ⟨g7, hs4⟩ := rx_bif hs3
            have ex := rx_eV_ok g7
            rw [rx_fN_eq] at hs4
            rw [ev]
            rw [en] at e1
            rw [ex] at e2
            exact wx_putfieldU C hsb hΦ g1 ok hK (Nat.eq_of_beq_eq_true g5) e1 e2 (hk _ _ _ _ _ hs4 hn)
          · cases hs3
        · obtain ⟨g4, hs3⟩ := rx_bif hs2
          rcases rx_bif2 hs3 with ⟨g5, hs4⟩ | ⟨-, hs4⟩
          · obtain ⟨-, g6⟩ := rx_and2 g5
            have en := Nat.eq_of_beq_eq_true g6
            rw [en] at e1
            obtain ⟨g7, hs5⟩ := rx_bif hs4
            obtain ⟨g7, g8⟩ := rx_and2 g7
            split at hs5
            · rename_i c0 fs e2
              obtain ⟨g9, hs6⟩ := rx_bif hs5
              obtain ⟨g9, g10⟩ := rx_and2 g9
              have ec := Nat.eq_of_beq_eq_true g9
              have ec : c0 = K.2.1 := ec
              rw [ec] at e2 hs6
              have hl : K.2.2.1 < fs.length := Nat.le_of_ble_eq_true g10
              refine wx_putfieldS C hΦ g1 ok hK g4 e1 g7 e2 hl (hk _ _ _ _ _ hs6 ?_)
              obtain ⟨fs', p1, p2, p3, p4⟩ := hΦ.1 h a _ fs e2
              show rx_HS (Φ (h.set a (.inl (K.2.1, fs.set K.2.2.1 v)))) (Φ t0)
              rw [p4 _ _ g7]
              unfold wx_ffit at g8
              split at g8
              · rename_i y e3
                obtain ⟨g11, g12⟩ := rx_and2 g8
                obtain ⟨fs0, z1, z2⟩ := wx_fld_ok e3
                obtain ⟨fs0', q1, q2, q3, -⟩ := hΦ.1 t0 a _ fs0 z1
                obtain ⟨cx, y1, y2⟩ := hn.2 a _ q1
                cases p1.symm.trans y1
                exact rx_HS_set hn q1 ⟨rfl, rx_SS_set y2.2 (q3 _ _ z2 g11) (rx_vi_of g12)⟩
              · cases g8
            · cases hs5
          · obtain ⟨g5, hs5⟩ := rx_bif hs4
            refine wx_putfield C hsb hΦ g1 ok hK g4 e1 (fun k0 k1 k2 => ?_) (hk _ _ _ _ _ hs5 hn)
            have g3 := wx_fa_ok g5 k1 k2
            unfold wx_ffit at g3
            split at g3
            · rename_i y e3
              obtain ⟨g6, g7⟩ := rx_and2 g3
              exact ⟨y, e3, g6, rx_vi_of g7⟩
            · cases g3
      · cases hs
    · cases hs
  | iaload =>
    simp only [wx_row] at hs
    split at hs
    · rename_i q a r
      split at hs
      · rename_i tc lz e1
        obtain ⟨g1, hs⟩ := rx_bif hs
        have e0 := Nat.eq_of_beq_eq_true g1
        subst e0
        obtain ⟨w, hs, z1, -, z3⟩ := wx_at_ok hs
        exact wx_iaload C hsb hΦ ok (wx_arr_ok e1) z1 z3 (hk _ _ _ _ _ hs hn)
      · cases hs
    · rename_i q j r
      obtain ⟨g1, hs⟩ := rx_bif hs
      obtain ⟨lz, e1, hs⟩ := rx_get_some hs
      obtain ⟨w, hs, z1, -, z3⟩ := wx_at_ok hs
      exact wx_rload C hsb ok (Nat.le_of_ble_eq_true g1) e1 z1 z3 (hk _ _ _ _ _ hs hn)
    · rename_i i j r
      obtain ⟨g1, hs4⟩ := rx_bif hs
      obtain ⟨g1, g2⟩ := rx_and2 g1
      obtain ⟨g2, g3⟩ := rx_and2 g2
      have ej := Nat.eq_of_beq_eq_true g1
      rw [ej]
      obtain ⟨v, e1, hs5⟩ := rx_get_some hs4
      rcases hWn with hw | ⟨ro2, l0, w1, w0, w2⟩
      · rw [hw] at e1
        simp at e1
      · exact wx_wload w0 hsb ok w1 (Nat.le_of_ble_eq_true g2) (Nat.le_of_ble_eq_true g3) (w2 _ _ e1) (hk _ _ _ _ _ hs5 hn)
    · cases hs
  | baload =>
    simp only [wx_row] at hs
    split at hs
    · rename_i q a r
      split at hs
      · rename_i tc lz e1
        obtain ⟨g1, hs⟩ := rx_bif hs
        have e0 := Nat.eq_of_beq_eq_true g1
        subst e0
        obtain ⟨w, hs, z1, -, z3⟩ := wx_at_ok hs
        exact wx_baload C hsb hΦ ok (wx_arr_ok e1) z1 z3 (hk _ _ _ _ _ hs hn)
      · cases hs
    · cases hs
  | aaload =>
    simp only [wx_row] at hs
    split at hs
    · rename_i q a r
      split at hs
      · rename_i tc lz e1
        obtain ⟨g1, hs⟩ := rx_bif hs
        obtain ⟨w, hs, z1, -, z3⟩ := wx_at_ok hs
        exact wx_aaload C hsb hΦ ok (wx_arr_ok e1) (Nat.le_of_ble_eq_true g1) z1 z3 (hk _ _ _ _ _ hs hn)
      · cases hs
    · cases hs
  | iastore =>
    simp only [wx_row] at hs
    split at hs
    · rename_i v q a r
      obtain ⟨g0, hs⟩ := rx_bif hs
      split at hs
      · rename_i tc lz e1
        obtain ⟨g1, hs⟩ := rx_bif hs
        have e0 := Nat.eq_of_beq_eq_true g1
        subst e0
        rcases rx_bif2 hs with ⟨g2, hs⟩ | ⟨-, hs⟩
        · obtain ⟨-, g3⟩ := rx_and2 g2
          obtain ⟨g3, g9⟩ := rx_and2 g3
          have g9 := rx_le_t g9
          split at hs
          · rename_i tc0 l0 e2
            obtain ⟨g4, hs⟩ := rx_bif hs
            obtain ⟨g4, g5⟩ := rx_and2 g4
            obtain ⟨z1, z2, z3⟩ := wx_put_ok g4
            have hl : q.1.toNat < lz.length := Nat.le_of_ble_eq_true g5
            refine wx_iastoreS C hΦ g0 ok (wx_arr_ok e1) g3 z1 hl (hk _ _ _ _ _ hs ?_)
            obtain ⟨l', p1, p2, p3, p4⟩ := hΦ.2 h a _ lz (wx_arr_ok e1)
            rw [p4 _ (.inl v) rfl]
            obtain ⟨l0', q1, q2, q3, -⟩ := hΦ.2 t0 a _ l0 (wx_arr_ok e2)
            obtain ⟨cx, y1, y2⟩ := hn.2 a _ q1
            cases p1.symm.trans y1
            obtain ⟨x, w1, w2, w3⟩ := z3 q.1 (Int.le_refl _) g9
            have et : tc0 = 0 := y2.1.symm
            subst et
            exact rx_HS_set hn q1 ⟨rfl, rx_SS_set y2.2 (q3 _ _ w1 w2) w3⟩
          · cases hs
        · obtain ⟨g4, hs⟩ := rx_bif hs
          obtain ⟨z1, z2, z3⟩ := wx_put_ok g4
          exact wx_iastore C hsb hΦ g0 ok (wx_arr_ok e1) z1 z2 z3 (hk _ _ _ _ _ hs hn)
      · cases hs
    · cases hs
  | bastore =>
    simp only [wx_row] at hs
    split at hs
    · rename_i v q a r
      obtain ⟨g0, hs⟩ := rx_bif hs
      obtain ⟨g0, gb⟩ := rx_and2 g0
      split at hs
      · rename_i tc lz e1
        obtain ⟨g1, hs4⟩ := rx_bif hs
        obtain ⟨g1, g4⟩ := rx_and2 g1
        have e0 := Nat.eq_of_beq_eq_true g1
        rw [e0] at e1
        obtain ⟨z1, z2, z3⟩ := wx_put_ok g4
        exact wx_bastore C hsb hΦ g0 ok gb (wx_arr_ok e1) z1 z2 z3 (hk _ _ _ _ _ hs4 hn)
      · cases hs
    · cases hs
  | lastore =>
    simp only [wx_row] at hs
    split at hs
    · rename_i v q a r
      obtain ⟨g0, hs⟩ := rx_bif hs
      split at hs
      · rename_i tc lz e1
        obtain ⟨g1, hs4⟩ := rx_bif hs
        obtain ⟨g1, g4⟩ := rx_and2 g1
        have e0 := Nat.eq_of_beq_eq_true g1
        rw [e0] at e1
        obtain ⟨z1, z2, z3⟩ := wx_put_ok g4
        exact wx_lastore C hsb hΦ g0 ok (wx_arr_ok e1) z1 z2 z3 (hk _ _ _ _ _ hs4 hn)
      · cases hs
    · cases hs
  | iadd =>
    simp only [wx_row] at hs
    split at hs
    · rename_i b j r
      rcases rx_bif2 hs with ⟨g1, hs4⟩ | ⟨-, hs4⟩
      · obtain ⟨g1, g2⟩ := rx_and2 g1
        obtain ⟨g2, g3⟩ := rx_and2 g2
        obtain ⟨g3, g4⟩ := rx_and2 g3
        have ej := Nat.eq_of_beq_eq_true g1
        rw [ej]
        have g2 := Nat.le_of_ble_eq_true g2
        have hU : u0 + dm ≤ 2147483647 := hU
        exact wx_iaddU C hsb ok (by omega) (rx_le_t g3) (rx_le_t g4) (hk _ _ _ _ _ hs4 hn)
      · obtain ⟨g1, hs5⟩ := rx_bif hs4
        obtain ⟨g1, g2⟩ := rx_and2 g1
        obtain ⟨g2, g3⟩ := rx_and2 g2
        obtain ⟨g3, g4⟩ := rx_and2 g3
        have ej := Nat.eq_of_beq_eq_true g1
        rw [ej]
        rw [rx_fN_eq] at hs5
        exact wx_iaddI C hsb ok htt g2 (rx_le_t g3) (rx_le_t g4) (hk _ _ _ _ _ hs5 hn)
    · exact pl hs
  | irem =>
    simp only [wx_row] at hs
    split at hs
    · rename_i b j r
      obtain ⟨g1, hs4⟩ := rx_bif hs
      obtain ⟨g1, g2⟩ := rx_and2 g1
      obtain ⟨g2, g3⟩ := rx_and2 g2
      have ej := Nat.eq_of_beq_eq_true g1
      rw [ej]
      rw [rx_pI_eq] at hs4
      exact wx_iremU C hsb ok g2 (rx_le_t g3) (hk _ _ _ _ _ hs4 hn)
    · exact pl hs
  | iand =>
    simp only [wx_row] at hs
    split at hs
    · rename_i b a r
      rcases rx_bif2 hs with ⟨g1, hs⟩ | ⟨-, hs⟩
      · obtain ⟨g1, g2⟩ := rx_and2 g1
        obtain ⟨g2, -⟩ := rx_and2 g2
        rw [rx_pI_eq] at hs
        exact wx_iandU C ok g1 (rx_le_t g2) (hk _ _ _ _ _ hs hn)
      · exact pl hs
    · exact pl hs
  | ldiv =>
    simp only [wx_row] at hs
    split at hs
    · rename_i b a r
      rcases rx_bif2 hs with ⟨g1, hs⟩ | ⟨-, hs⟩
      · exact wx_ldivN C ok (rx_le_t g1) (hk _ _ _ _ _ hs hn)
      · exact pl hs
    · cases hs
  | invokevirtual i =>
    simp only [wx_row] at hs
    obtain ⟨g1, hs⟩ := rx_bif hs
    have hK := Nat.eq_of_beq_eq_true g1
    obtain ⟨x, r, h2, h3, hs⟩ := rx_pop_some hs
    obtain ⟨h4, hs⟩ := rx_bif hs
    rw [List.append_nil] at hs
    split at hs
    · rename_i o as he
      split at hs
      · rename_i a n e1
        obtain ⟨g2, hs⟩ := rx_bif hs
        obtain ⟨v, dj, kp, c1, c2, c3, c4⟩ := cal hs
        obtain ⟨mj, -, -, m1, -⟩ := ok.2.2 hK
        have hU : u0 + dm ≤ wx_bd := hU
        have hst : st = (o :: as).reverse ++ r := by rw [h2, ← he, List.reverse_reverse]
        have hlen : as.length + 1 = K.2.2.1 := by
          have : (o :: as).length = K.2.2.1 := by rw [← he, List.length_reverse]; exact h3
          exact this
        rw [he] at c1
        refine wx_callV C hsb (Nat.le_add_right _ _) ok hK m1 hRm hm hst hlen (Nat.le_of_ble_eq_true h4) e1 (fun k0 k1 k2 => ?_) (fun ad sz => hO _ mj h _ v dj kp m1 c1 hn D sb tt (u0 + d) hsb htt (by omega) ad sz) c4
        have g3 := wx_fa_ok g2 k1 k2
        unfold wx_cls at g3
        split at g3
        · rename_i c0 fs e3
          have ec := Nat.eq_of_beq_eq_true g3
          subst ec
          obtain ⟨fs', p1, -⟩ := hΦ.1 h k0 _ fs e3
          exact ⟨fs', p1⟩
        · cases g3
      · cases hs
    · cases hs
  | invokestatic i =>
    simp only [wx_row] at hs
    rcases rx_bif2 hs with ⟨g1, hs⟩ | ⟨-, hs⟩
    · have hK := (rx_or2 g1).imp Nat.eq_of_beq_eq_true Nat.eq_of_beq_eq_true
      obtain ⟨x, r, h2, h3, hs⟩ := rx_pop_some hs
      obtain ⟨h4, hs⟩ := rx_bif hs
      rw [List.append_nil] at hs
      obtain ⟨v, dj, kp, c1, c2, c3, c4⟩ := cal hs
      have m1 : ∃ mj, xM[K.2.1]? = some mj := by
        rcases hK with hK | hK
        · obtain ⟨mj, -, m1, -⟩ := ok.2.2.1 hK
          exact ⟨mj, m1⟩
        · obtain ⟨mj, -, m1, -⟩ := ok.2.2.2.1 hK
          exact ⟨mj, m1⟩
      obtain ⟨mj, m1⟩ := m1
      have hU : u0 + dm ≤ wx_bd := hU
      exact wx_callS C hsb (Nat.le_add_right _ _) ok hK m1 hRm hm (by rw [h2, List.reverse_reverse]) (by rw [List.length_reverse]; exact h3) (Nat.le_of_ble_eq_true h4) (fun ad sz => hO _ mj h _ v dj kp m1 c1 hn D sb tt (u0 + d) hsb htt (by omega) ad sz) c4
    · obtain ⟨-, hs⟩ := rx_bif hs
      exact rx_o_math (st' := []) (C _) ok hRm hs (fun st' q => ⟨hm, hk _ _ _ _ _ q hn⟩)
  | ireturn =>
    simp only [wx_row] at hs
    split at hs
    · rename_i q
      obtain ⟨g1, hs⟩ := rx_bif hs
      exact hr _ hs (Or.inl ⟨q, rfl, rfl, rfl, (rx_or2 g1).imp Nat.eq_of_beq_eq_true id⟩)
    · cases hs
  | lreturn =>
    simp only [wx_row] at hs
    split at hs
    · rename_i q
      exact hr _ hs (Or.inr (Or.inl ⟨q, rfl, rfl, rfl⟩))
    · cases hs
  | areturn =>
    simp only [wx_row] at hs
    split at hs
    · rename_i q
      obtain ⟨g1, hs⟩ := rx_bif hs
      exact hr _ hs (Or.inr (Or.inr (Or.inl ⟨q, rfl, rfl, rfl, g1⟩)))
    · cases hs
  | return_ =>
    simp only [wx_row] at hs
    split at hs
    · exact hr _ hs (Or.inr (Or.inr (Or.inr (Or.inl ⟨rfl, rfl, rfl⟩))))
    · cases hs
  | _ => exact pl hs
end WXS
