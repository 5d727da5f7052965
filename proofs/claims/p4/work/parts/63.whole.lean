/-! THE LAW FROM ITS START TO ITS END -/
noncomputable def rx_ptb (xs : Nat → Int32) (l : List rx_V) : Nat → Bool :=
  List.rec (motive := fun _ => Nat → Bool) (fun _ => true) (fun v _ ih t => (match v with
    | .inl q => rx_le q.1 (xs t).toInt && rx_le (xs t).toInt q.2
    | _ => false) && ih (t + 1)) l
theorem rx_pts_at {xs : Nat → Int32} : ∀ {l : List rx_V} {t0 : Nat}, rx_ptb xs l t0 = true → ∀ (t : Nat) (v : rx_V), l[t]? = some v → rx_G [] [] v (.int (xs (t0 + t))) := by
  intro l
  induction l with
  | nil => intro t0 _ t v hv; simp at hv
  | cons w l ih =>
    intro t0 h t v hv
    have h : ((match (generalizing := false) w with
      | .inl q => rx_le q.1 (xs t0).toInt && rx_le (xs t0).toInt q.2
      | _ => false) && rx_ptb xs l (t0 + 1)) = true := h
    obtain ⟨h1, h2⟩ := rx_and2 h
    cases t with
    | zero =>
      cases hv
      split at h1
      · obtain ⟨h3, h4⟩ := rx_and2 h1
        exact ⟨_, rfl, rx_le_t h3, rx_le_t h4⟩
      · cases h1
    | succ t =>
      have := ih h2 t v hv
      rw [show t0 + (t + 1) = t0 + 1 + t by omega]
      exact this
theorem rx_pts {xs : Nat → Int32} {l : List rx_V} (h : rx_ptb xs l 0 = true) : ∀ (t : Nat) (v : rx_V), l[t]? = some v → rx_G [] [] v (.int (xs t)) := fun t v hv => by
  have := rx_pts_at h t v hv
  rw [Nat.zero_add] at this
  exact this
def wx_sb (a b c d f : Nat) : List Nat := [a, b, c, d, f, 0, 0, 0, 0, 0, 0, 0, 0, 0, 0, 0, 0, 0, 0, 0]
theorem rx_bw_all {args : Array Value} {s : State} (hts : ∀ w ∈ lw_tbl, w.before args s = true) : ∀ w ∈ rx_bw, w.before args s = true := fun w hw => hts w (List.mem_filter.mp hw).1
theorem whole_start {p : Program} {e : Env} {s : State} {m : MethodId} {below : List Frame} {meth : Method} {c : Code} (l : Launch) (hfl : l.flags = pinnedFlags ++ [noTraceFlag]) (hnm : meth.name = "law") {b L : Nat} {xs : Nat → Int32} (hL : L ≤ 2560) (C0 : lw_At p s m meth c b L xs) : W p l e room_1 s m #[Value.ref b] below meth c s.heap [] 0 0 (lw_Z below #[Value.ref b] s) (entryFrame m ([Value.ref b] : List Value).toArray 7) := by
  obtain ⟨hx, hb, hr, hml, hown, hts, hX, hbl, hlocks, hgv⟩ := C0
  have htb : ∀ w ∈ tables_1, w.before #[Value.ref b] s = true := fun w hw => hts w (List.mem_append_right _ hw)
  have hA : ∀ a : Nat, a < s.heap.size → ¬ rx_AW true [] s.heap.size a := by
    intro a ha hz
    rcases hz with hz | hz
    · cases hz
    · omega
  obtain ⟨D, hK⟩ := rx_K0 (rx_bw_all hts)
  obtain ⟨t0, T0, Z0⟩ := rx_sv0 htb hgv hA
  obtain ⟨t1, T1, Z1⟩ := rx_sv1 htb hgv hA
  obtain ⟨t2, T2, Z2⟩ := rx_sv2 htb hgv hA
  obtain ⟨t3, T3, Z3⟩ := rx_sv3 htb hgv hA
  have hsb : (wx_sb t0 t1 t2 t3 b).length = 20 := rfl
  have hRW : ∀ lst : List rx_V, lst.length = L → (∀ (i : Nat) (v : rx_V), lst[i]? = some v → rx_G [] [] v (.int (xs i))) → ∀ t u, rx_Cx p s m #[Value.ref b] meth c D (rx_AW true [] s.heap.size) (rx_BW true [] s.heap.size) true (wx_su (wx_sb t0 t1 t2 t3 b) t u) (rx_ro ++ [lst]) rx_mL7 := by
    intro lst hll hel t u
    have hXT : va_T .int b lst.length (fun j => .int (xs j)) (rx_AW true [] s.heap.size) s s.heap := by
      obtain ⟨scr, g1, g2, g3, g4, g5⟩ := hX
      exact ⟨scr, g1, g2, g3, by rw [hll, g4]; exact Nat.le_refl _, by rw [hll, g4], fun j hj => g5 j (by rw [← hll]; exact hj), hA b hbl⟩
    have hRO : rx_RO s (rx_AW true [] s.heap.size) (wx_su (wx_sb t0 t1 t2 t3 b) t u) (rx_ro ++ [lst]) := by
      refine ⟨fun j l hj => ?_, fun j nm hj => ?_⟩
      · match j, hj with
        | 0, hj => cases hj; exact ⟨t0, _, rfl, T0, rx_pts (by decide +kernel)⟩
        | 1, hj => cases hj; exact ⟨t1, _, rfl, T1, rx_pts (by decide +kernel)⟩
        | 2, hj => cases hj; exact ⟨t2, _, rfl, T2, rx_pts (by decide +kernel)⟩
        | 3, hj => cases hj; exact ⟨t3, _, rfl, T3, rx_pts (by decide +kernel)⟩
        | 4, hj => cases hj; exact ⟨b, xs, rfl, hXT, hel⟩
        | _ + 5, hj => cases hj
      · match j, hj with
        | 0, hj => cases hj; exact ⟨t0, rfl, Z0⟩
        | 1, hj => cases hj; exact ⟨t1, rfl, Z1⟩
        | 2, hj => cases hj; exact ⟨t2, rfl, Z2⟩
        | 3, hj => cases hj; exact ⟨t3, rfl, Z3⟩
        | _ + 4, hj => cases hj
    exact ⟨hx, hb, hml, hown, rx_bw_all hts, hr, hlocks, hnm, hK, fun q h => Or.inr h, hRO, rx_NW0 htb, rx_BAW, rx_TW0 htb hgv hA⟩
  obtain ⟨l0, k1, k2, -⟩ := wx_tops L xs 0 [] (by show 0 + 0 ≤ L; omega) (fun k v hv => by cases hv)
  have hC : ∀ t u, rx_Cx p s m #[Value.ref b] meth c D (rx_AW true [] s.heap.size) (rx_BW true [] s.heap.size) true (wx_su (wx_sb t0 t1 t2 t3 b) t u) rx_ro rx_mL7 := by
    intro t u
    obtain ⟨c1, c2, c3, c4, c5, c6, c7, c8, c9, c10, c11, c12⟩ := hRW l0 k1 k2 t u
    exact ⟨c1, c2, c3, c4, c5, c6, c7, c8, c9, c10, rx_RO_less ⟨[l0], rfl⟩ (fun _ z => z) c11, c12⟩
  have hend : ∀ t u n c1 s1, c1 ≤ room_1.cells → s1 ≤ room_1.slots → rx_Go p l e room_1 s m #[Value.ref b] below meth c (lw_Z below #[Value.ref b] s) D (rx_AW true [] s.heap.size) (rx_BW true [] s.heap.size) (wx_su (wx_sb t0 t1 t2 t3 b) t u) [] rx_mL7 801 (wx_X n) (wx_Lw (.inl ((t : Int), (t : Int)))) [] c1 s1 := by
    intro t u n c1 s1 h1 h2
    refine rx_o_iconst (hC t u) (rx_moL7.1 801 _ rfl) (by decide) (by decide) ?_
    obtain ⟨hd, -⟩ := (rx_moL7.1 802 _ rfl).dec (n := 0) rfl
    intro ad ws H locs ls vs a1 a2 a3 a4 a5 a6 a7
    obtain ⟨x, xs', rfl, ⟨i, rfl, hi1, hi2⟩, a8⟩ := rx_S_cons a7
    cases rx_S_nil a8
    have e1 : i = 1 := Int32.toInt_inj.mp (by rw [show (1 : Int32).toInt = 1 by decide]; exact Int.le_antisymm hi2 hi1)
    subst e1
    exact va_forget (fun q hq => (a5.2.2 q hq).elim (fun z => by cases z) id) (W.widen h1 h2 (lw_ret hx hb hr hlocks hd))
  have hgo : rx_Go p l e room_1 s m #[Value.ref b] below meth c (lw_Z below #[Value.ref b] s) D (rx_AW true [] s.heap.size) (rx_BW true [] s.heap.size) (wx_su (wx_sb t0 t1 t2 t3 b) 0 100) [] rx_mL7 0 [] (rx_ini [.inr (.inr (.inr 4))] 7) [] 0 0 := by
    refine wx_begin (xM := rx_xM) (fun u => hC 0 u) rfl rfl rfl rfl hsb ⟨rfl, rfl⟩ ⟨by decide, by decide⟩ (by decide) ?_
    exact wx_lawloop (Ls := L) (xs := xs) hC hRW rfl rfl hsb ⟨rfl, rfl⟩ hL (wx_ops hfl) hend 512 0 0 100 57 773 (by omega) (by decide) (by decide) (by decide) (by decide) (by decide) (by decide)
  have hS : rx_S [] (wx_su (wx_sb t0 t1 t2 t3 b) 0 100) [.inr (.inr (.inr 4))] [Value.ref b] := ⟨Or.inl ⟨by decide, b, rfl, rfl⟩, trivial⟩
  have hl := lv_entry [Value.ref b] (n := 7) (show 1 ≤ 7 by decide)
  rw [lg_entry_eq]
  generalize (lg_sl [Value.ref b] ++ List.replicate (7 - (lg_sl [Value.ref b]).length) Slot.unset).toArray = ls at hl ⊢
  exact hgo [] [] s.heap [] ls [] (List.prefix_refl _) ⟨rfl, rfl, fun k c hk => (by cases hk)⟩ (fun k q hk => (by cases hk)) ⟨fun i j x y hx => (by cases hx), fun k q hk => (by cases hk)⟩ va_S.rf (rx_ini_L (n := 7) hS (by decide) hl) trivial
