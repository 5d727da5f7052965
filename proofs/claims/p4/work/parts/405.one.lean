/-! ONE ROW OF THE WIDE MACHINE IS SOUND -/
def wx_bd : Nat := 2147483647
/-- what is known of calls -/
def wx_HO (wr : Bool) (xM : List rx_MT) (l : Launch) (orc : wx_Orc) (ro : List (List rx_V)) (Φ : rx_H → rx_H) (t0 : rx_H) : Prop := ∀ (j : Nat) (mj : rx_MT) (h : rx_H) (as : List rx_V) (v : Option rx_V) (dj : Nat) (kp : Bool), xM[j]? = some mj → orc j h as = some (v, dj, kp) → rx_HS (Φ h) (Φ t0) → ∀ (D : va_G) (sb : List Nat) (tt u : Nat), sb.length = 20 → tt ≤ 3000 → u + dj ≤ wx_bd → ∀ (ad : List Nat) (sz : Nat), Met l mj.1 (rx_ws mj) (rx_rm mj 0 0) (rx_Pc wr D (wx_su sb tt u) ad ro (Φ h) as sz) (rx_Qc wr D (wx_su sb tt (u + dj)) ad (Φ (bif kp then h else t0)) v sz) 0 0 (rx_AW wr ad sz)
/-- boxes: every world of the table is in one of them -/
def wx_HB (Φ : rx_H → rx_H) (t0 : rx_H) (bx : Nat → rx_H → List rx_H) : Prop := ∀ (id : Nat) (h : rx_H), rx_HS (Φ h) (Φ t0) → (∀ h' ∈ bx id h, rx_HS (Φ h') (Φ t0)) ∧ ∀ (U : State) (ad sa : List Nat) (ws : va_W), rx_W U ad sa (Φ h) ws → ∃ h' ∈ bx id h, rx_W U ad sa (Φ h') ws
theorem wx_sp_ok {L a b : rx_F} {i : Nat} {t : Int} (h : wx_sp L i t = some (a, b)) {ad sa : List Nat} {nL : Nat} {ls : Array Slot} (hL : rx_L ad sa nL L ls) : rx_L ad sa nL a ls ∨ rx_L ad sa nL b ls := by
  obtain ⟨l, h1, h2, h3⟩ := hL
  have key : ∀ w, (∀ y, L[i]? = some (some y) → ∀ x, rx_G ad sa y x → (i, x) ∈ l → rx_G ad sa w x) → (∃ y, L[i]? = some (some y)) → rx_L ad sa nL (L.set i (some w)) ls := by
    intro w hw ⟨y, hy⟩
    refine ⟨l, h1, by rw [List.length_set]; exact h2, fun j v hj => ?_⟩
    by_cases e : i = j
    · subst e
      rw [List.getElem?_set_self (List.getElem?_eq_some_iff.mp hy).1] at hj
      cases hj
      obtain ⟨x, g1, g2⟩ := h3 i y hy
      exact ⟨x, g1, hw y hy x g2 g1⟩
    · rw [List.getElem?_set_ne e] at hj
      exact h3 j v hj
  have uniq : ∀ x y, (i, x) ∈ l → (i, y) ∈ l → x = y := by
    intro x y hx hy
    have e1 := h1.2.2 _ hx
    have e2 := h1.2.2 _ hy
    have e1 : ls[i]? = some (.val x) := e1
    have e2 : ls[i]? = some (.val y) := e2
    rw [e1] at e2
    cases e2
    rfl
  unfold wx_sp at h
  split at h
  · rename_i q hq
    obtain ⟨g, h⟩ := rx_bif h
    cases h
    obtain ⟨x, g1, y, rfl, g2, g3⟩ := h3 i _ hq
    rcases rx_lg y.toInt t with hh | hh
    · refine Or.inl (key _ (fun y' hy' x' hx' hm => ?_) ⟨_, hq⟩)
      cases uniq _ _ g1 hm
      exact ⟨y, rfl, g2, by show _ ≤ t - 1; omega⟩
    · refine Or.inr (key _ (fun y' hy' x' hx' hm => ?_) ⟨_, hq⟩)
      cases uniq _ _ g1 hm
      exact ⟨y, rfl, hh, g3⟩
  · rename_i q hq
    obtain ⟨g, h⟩ := rx_bif h
    cases h
    obtain ⟨x, g1, y, rfl, g2, g3⟩ := h3 i _ hq
    rcases rx_lg y.toInt t with hh | hh
    · refine Or.inl (key _ (fun y' hy' x' hx' hm => ?_) ⟨_, hq⟩)
      cases uniq _ _ g1 hm
      exact ⟨y, rfl, g2, by show _ ≤ t - 1; omega⟩
    · refine Or.inr (key _ (fun y' hy' x' hx' hm => ?_) ⟨_, hq⟩)
      cases uniq _ _ g1 hm
      exact ⟨y, rfl, hh, g3⟩
  · cases h
theorem wx_sn_ok {L a b : rx_F} {i : Nat} (h : wx_sn L i = some (a, b)) {ad sa : List Nat} {nL : Nat} {ls : Array Slot} (hL : rx_L ad sa nL L ls) : rx_L ad sa nL a ls ∨ rx_L ad sa nL b ls := by
  obtain ⟨l, h1, h2, h3⟩ := hL
  unfold wx_sn at h
  split at h
  · rename_i n hq
    obtain ⟨g, h⟩ := rx_bif h
    cases h
    obtain ⟨g1, g2⟩ := rx_and2 g
    have g1 := Nat.le_of_ble_eq_true g1
    have g2 := Nat.eq_of_beq_eq_true g2
    have key : ∀ w x, (i, x) ∈ l → rx_G ad sa w x → rx_L ad sa nL (L.set i (some w)) ls := by
      intro w x hx hw
      refine ⟨l, h1, by rw [List.length_set]; exact h2, fun j v hj => ?_⟩
      by_cases e : i = j
      · subst e
        rw [List.getElem?_set_self (List.getElem?_eq_some_iff.mp hq).1] at hj
        cases hj
        exact ⟨x, hx, hw⟩
      · rw [List.getElem?_set_ne e] at hj
        exact h3 j v hj
    obtain ⟨x, k1, k2⟩ := h3 i _ hq
    rcases k2 with ⟨q, -⟩ | ⟨-, q, -⟩ | ⟨-, ⟨-, q⟩ | ⟨k, b, q1, q2, q3, q4⟩⟩
    · omega
    · omega
    · exact Or.inl (key _ x k1 q)
    · have e0 : rx_on n = (n - 1000000) % 2 := rfl
      have e1 : rx_oa (n - 1) = rx_oa n := by unfold rx_oa; omega
      have e2 : rx_ob (n - 1) = rx_ob n := by unfold rx_ob; omega
      refine Or.inr (key _ x k1 (Or.inr (Or.inr ⟨by omega, Or.inr ⟨k, b, by omega, by omega, q3, q4⟩⟩)))
  · cases h
section WXS
variable {p : Program} {l : Launch} {e : Env} {R : Room} {s : State} {m : MethodId} {args : Array Value} {below : List Frame} {meth : Method} {c : Code} {Q : State → Prop} {D : va_G} {A B : Nat → Prop} {wr : Bool} {sb ad0 : List Nat} {tt : Nat} {ro : List (List rx_V)} {mt : rx_MT} {xM : List rx_MT} {cells slots : Nat} {pc d u0 : Nat} {row : rx_Row} {h t0 : rx_H} {L : rx_F} {st : List rx_V} {r0 : wx_R} {Φ : rx_H → rx_H} {k : wx_Kt} {fk : Nat → List wx_Alt → Option wx_R} {rt : Option rx_V → Option wx_R} {orc : wx_Orc} {bx : Nat → rx_H → List rx_H} {dm : Nat}
theorem wx_st_ok (C : ∀ u, rx_Cx p s m args meth c D (rx_AW wr ad0 s.heap.size) (rx_BW wr ad0 s.heap.size) wr (wx_su sb tt u) ro mt) (ok : rx_Ok xM mt pc row) (hob : Jvm.Cond.instanceMethod Lib.objectInit ∈ rx_bw ∧ Jvm.Cond.code Lib.objectInit ⟨#[0xb1]⟩ 1 none ∈ rx_bw) (hRm : R.frames = mt.2.2.2.2.2.2.1 ∧ R.locals = mt.2.2.2.2.2.2.2.1) (hm : cells ≤ R.cells ∧ slots ≤ R.slots)
    (hk : ∀ pc' L' st', k pc' d h L' st' = some r0 → rx_Go p l e R s m args below meth c Q D (rx_AW wr ad0 s.heap.size) (rx_BW wr ad0 s.heap.size) (wx_su sb tt (u0 + d)) ad0 mt pc' (Φ h) L' st' cells slots) (hs : wx_st wr ro row pc d h L st k = some r0) : rx_Go p l e R s m args below meth c Q D (rx_AW wr ad0 s.heap.size) (rx_BW wr ad0 s.heap.size) (wx_su sb tt (u0 + d)) ad0 mt pc (Φ h) L st cells slots := by
  unfold wx_st at hs
  obtain ⟨hp, hs⟩ := rx_bif hs
  have hs2 : rx_step wr ro rx_dfs row pc (Φ h) L st (fun pc' h' L' st' dc ds => @ite _ (h' = Φ h) (Classical.propDecidable _) (bif Nat.beq dc 0 && Nat.beq ds 0 then k pc' d h L' st' else none) none) (fun _ _ _ => none) (fun _ => none) (fun _ => none) = some r0 := by
    rw [wx_plain (h2 := []) hp]
    simp only [if_pos]
    exact hs
  refine rx_step_ok (C (u0 + d)) ok hob hRm (fun pc' h' L' st' dc ds q => ?_) (fun _ _ _ _ _ _ _ _ q => by cases q) (fun _ _ _ _ _ q => by cases q) (fun _ _ _ _ _ _ q => by cases q) (fun _ _ q => by cases q) (fun _ _ q => by cases q) (fun _ _ q => by cases q) (fun _ q => by cases q) (fun _ _ _ _ q => by cases q) hs2
  by_cases e : h' = Φ h
  · rw [if_pos e] at q
    obtain ⟨g2, q⟩ := rx_bif q
    obtain ⟨g2, g3⟩ := rx_and2 g2
    have e2 := Nat.eq_of_beq_eq_true g2
    have e3 := Nat.eq_of_beq_eq_true g3
    subst e2; subst e3; subst e
    exact ⟨hm, hk _ _ _ q⟩
  · rw [if_neg e] at q
    cases q
theorem wx_and_le {x y : Int32} {b : Int} (hb : 0 ≤ b) (hy : y.toInt = b) : rx_has (0, b) (x &&& y).toInt := by
  have hyn : y.toBitVec.toNat = b.toNat := by
    have h1 : y.toBitVec.toInt = b := hy
    have h2 := BitVec.toInt_eq_toNat_cond y.toBitVec
    have h3 := y.toBitVec.isLt
    split at h2 <;> omega
  have hlt : (x &&& y).toBitVec.toNat ≤ b.toNat := by
    rw [Int32.toBitVec_and, BitVec.toNat_and, hyn]
    exact Nat.and_le_right
  have h1 : (x &&& y).toInt = (x &&& y).toBitVec.toInt := rfl
  have h2 := BitVec.toInt_eq_toNat_cond (x &&& y).toBitVec
  have hb2 : b ≤ 2147483647 := by have := (rx_r32 y).2; omega
  rw [h1, h2]
  constructor
  · show 0 ≤ _
    split <;> omega
  · show _ ≤ b
    split <;> omega
end WXS
