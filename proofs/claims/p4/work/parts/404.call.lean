/-! CALLS BY CONTRACT -/
section WXS
variable {p : Program} {l : Launch} {e : Env} {R : Room} {s : State} {m : MethodId} {args : Array Value} {below : List Frame} {meth : Method} {c : Code} {Q : State → Prop} {D : va_G} {A B : Nat → Prop} {wr : Bool} {sb ad0 : List Nat} {tt : Nat} {ro : List (List rx_V)} {mt : rx_MT} {xM : List rx_MT} {cells slots : Nat} {pc np tg u u1 : Nat} {K : rx_K} {X X1 : rx_H} {L : rx_F} {r st as : List rx_V} {mj : rx_MT} {v1 : Option rx_V}
theorem wx_hw0 {ad0 : List Nat} {sz : Nat} (wr : Bool) : wr = true ∨ ∀ q, rx_BW wr ad0 sz q := by
  cases wr
  · exact Or.inr (fun q => Or.inl rfl)
  · exact Or.inl rfl
theorem wx_callV {i a n : Nat} {o : rx_V} (C : ∀ u, rx_Cx p s m args meth c D (rx_AW wr ad0 s.heap.size) (rx_BW wr ad0 s.heap.size) wr (wx_su sb tt u) ro mt) (hsb : sb.length = 20) (hu : u ≤ u1) (rok : rx_Ok xM mt pc (.invokevirtual i, np, tg, K)) (hK : K.1 = 5) (g1 : xM[K.2.1]? = some mj) (hRm : R.frames = mt.2.2.2.2.2.2.1 ∧ R.locals = mt.2.2.2.2.2.2.2.1) (hm : cells ≤ R.cells ∧ slots ≤ R.slots)
    (hst : st = (o :: as).reverse ++ r) (hn : as.length + 1 = K.2.2.1) (hcat : rx_cats r ≤ 8) (ho : wx_cs o = some (a, n)) (hcl : ∀ k, a ≤ k → k < a + n → ∃ fs, X[k]? = some (.inl (K.2.2.2.toNat, fs)))
    (hM : ∀ (ad : List Nat) (sz : Nat), Met l mj.1 (rx_ws mj) (rx_rm mj 0 0) (rx_Pc wr D (wx_su sb tt u) ad ro X (o :: as) sz) (rx_Qc wr D (wx_su sb tt u1) ad X1 v1 sz) 0 0 (rx_AW wr ad sz)) (g4 : rx_Go p l e R s m args below meth c Q D (rx_AW wr ad0 s.heap.size) (rx_BW wr ad0 s.heap.size) (wx_su sb tt (u1)) ad0 mt np X1 L (rx_ol v1 r) cells slots) : rx_Go p l e R s m args below meth c Q D (rx_AW wr ad0 s.heap.size) (rx_BW wr ad0 s.heap.size) (wx_su sb tt (u)) ad0 mt pc X L st cells slots := by
  obtain ⟨mj', q, np', g1', ⟨e2, e3, e4, e5, e6, e7, e8⟩, e9, e10, e11, e12, e13, e14⟩ := rok.2.2 hK
  cases g1.symm.trans g1'
  obtain ⟨hd, rfl⟩ := rok.dec (n := 2) rfl
  have S : CallFix p m c mt.2.1 mt.2.2.1 s args rx_bw mt.2.2.2.2.1 := ⟨(C u).1, (C u).2.1, (C u).2.2.1, (C u).2.2.2.1, (C u).2.2.2.2.1⟩
  intro ad ws H locs ls vs a1 a2 a3 a4 a5 a6 a7
  rw [hst] at a7
  obtain ⟨l1, l2, rfl, s1, s2⟩ := rx_S_app a7
  have s3 := rx_S_rev s1
  rw [List.reverse_reverse] at s3
  obtain ⟨x, xs, ex, hx, s4⟩ := rx_S_cons s3
  obtain ⟨k, b, k1, k2, k3, rfl⟩ := wx_cs_ok ho hx
  obtain ⟨fs, hcell⟩ := hcl k k1 k2
  have el : l1 = xs.reverse ++ [Value.ref b] := by rw [← List.reverse_reverse l1, ex, List.reverse_cons]
  have hxs : xs.length = np' := by rw [← rx_S_len s4]; have e9 : K.2.2.1 = np' + 1 := e9; omega
  obtain ⟨a', E, hx1, hw, fs', rfl, -⟩ := rx_W_get a2 hcell (show rx_G ad (wx_su sb tt u) (.inr (.inr (.inl (some k)))) (.ref b) from ⟨b, k3, rfl⟩)
  cases hx1
  have hA := rx_inA (C u) (wx_hw0 wr) a2 a4 a5
  have hB := rx_inB (C u) (wx_hw0 wr) a2 a4 a5
  have hrecv := va_recv (C u).2.2.2.2.2.2.2.2.1 a3 (ci := K.2.2.2.toNat) (q0 := k) (q := q) e10 hw
  rw [e11] at hrecv
  refine rx_goon (sa := wx_su sb tt u1) (va_runV (As := xs) (rest := l2) (g := F0 m pc ls (l1 ++ l2)) S (hM ad H.size) (cwV np' (C u).2.2.2.2.1 (rx_goodc (fun w hw => by
      simp only [List.mem_cons, List.not_mem_nil, or_false] at hw
      rcases hw with rfl | rfl | rfl | rfl
      · exact e12
      · exact e13
      · exact e14
      · exact e5) (rx_goodm e4)) rfl rfl rfl ⟨rfl, e6, e7, e8⟩ ⟨by rw [hRm.1]; exact e2, by rw [hRm.2]; exact e3⟩)
    ⟨rx_blind, hrecv, fun U hU hW => rx_start (C u) (wx_hw0 wr) a2 a3 a4 a5 (as := o :: as) (vs := .ref b :: xs) ⟨hx, s4⟩ U hU hW⟩ rfl hxs (by obtain ⟨l0, z1, -⟩ := a6; exact z1.1) (by show l1 ++ l2 = _; rw [el, List.append_assoc]; rfl) (lv_room (by rw [rx_S_cats s2]; exact hcat)) hd hm) a5 hA hB
    (fun r' ad' ws' H1 locs1 o1 o2 o3 o4 o5 o6 => ?_)
  exact g4 ad' ws' H1 locs1 ls _ (List.IsPrefix.trans a1 o2) o3 o4 o5 o6 (rx_L_up o2 (rx_L_u hsb hu a6)) (rx_O_st o1 (rx_S_up o2 (rx_S_u hsb hu s2)))
theorem wx_callS {i : Nat} (C : ∀ u, rx_Cx p s m args meth c D (rx_AW wr ad0 s.heap.size) (rx_BW wr ad0 s.heap.size) wr (wx_su sb tt u) ro mt) (hsb : sb.length = 20) (hu : u ≤ u1) (rok : rx_Ok xM mt pc (.invokestatic i, np, tg, K)) (hK : K.1 = 6 ∨ K.1 = 8) (g1 : xM[K.2.1]? = some mj) (hRm : R.frames = mt.2.2.2.2.2.2.1 ∧ R.locals = mt.2.2.2.2.2.2.2.1) (hm : cells ≤ R.cells ∧ slots ≤ R.slots)
    (hst : st = as.reverse ++ r) (hn : as.length = K.2.2.1) (hcat : rx_cats r ≤ 8)
    (hM : ∀ (ad : List Nat) (sz : Nat), Met l mj.1 (rx_ws mj) (rx_rm mj 0 0) (rx_Pc wr D (wx_su sb tt u) ad ro X as sz) (rx_Qc wr D (wx_su sb tt u1) ad X1 v1 sz) 0 0 (rx_AW wr ad sz)) (g4 : rx_Go p l e R s m args below meth c Q D (rx_AW wr ad0 s.heap.size) (rx_BW wr ad0 s.heap.size) (wx_su sb tt (u1)) ad0 mt np X1 L (rx_ol v1 r) cells slots) : rx_Go p l e R s m args below meth c Q D (rx_AW wr ad0 s.heap.size) (rx_BW wr ad0 s.heap.size) (wx_su sb tt (u)) ad0 mt pc X L st cells slots := by
  obtain ⟨hd, rfl⟩ := rok.dec (n := 2) rfl
  have S : CallFix p m c mt.2.1 mt.2.2.1 s args rx_bw mt.2.2.2.2.1 := ⟨(C u).1, (C u).2.1, (C u).2.2.1, (C u).2.2.2.1, (C u).2.2.2.2.1⟩
  intro ad ws H locs ls vs a1 a2 a3 a4 a5 a6 a7
  rw [hst] at a7
  obtain ⟨l1, l2, rfl, s1, s2⟩ := rx_S_app a7
  have s3 := rx_S_rev s1
  rw [List.reverse_reverse] at s3
  have hA := rx_inA (C u) (wx_hw0 wr) a2 a4 a5
  have hB := rx_inB (C u) (wx_hw0 wr) a2 a4 a5
  have fin : ∀ (r' : Option Value) (ad' : List Nat) (ws' : va_W) (H1 : Heap) (locs1 : List Loc), rx_O ad' (wx_su sb tt u1) v1 r' → ad <+: ad' → rx_W s ad' (wx_su sb tt u1) X1 ws' → va_P D rx_cl ws' H1 → va_D (rx_BW wr ad0 s.heap.size) ws' → va_S (rx_AW wr ad0 s.heap.size) s.heap H1 locs1 → W p l e R s m args below meth c H1 locs1 (cells + 0) (slots + 0) Q (F0 m (pc + 3) ls (r'.toList ++ l2)) :=
    fun r' ad' ws' H1 locs1 o1 o2 o3 o4 o5 o6 => g4 ad' ws' H1 locs1 ls _ (List.IsPrefix.trans a1 o2) o3 o4 o5 o6 (rx_L_up o2 (rx_L_u hsb hu a6)) (rx_O_st o1 (rx_S_up o2 (rx_S_u hsb hu s2)))
  rcases hK with hK | hK
  · obtain ⟨mj', np', g1', ⟨e2, e3, e4, e5, e6, e7, e8⟩, e9, e12, e13⟩ := rok.2.2.1 hK
    cases g1.symm.trans g1'
    exact rx_goon (sa := wx_su sb tt u1) (va_runS (As := l1.reverse) (rest := l2) (g := F0 m pc ls (l1 ++ l2)) S (hM ad H.size) (va_cwS np' (C u).2.2.2.2.1 (rx_goodc (fun w hw => by
      simp only [List.mem_cons, List.not_mem_nil, or_false] at hw
      rcases hw with rfl | rfl | rfl
      · exact e12
      · exact e13
      · exact e5) (rx_goodm e4)) rfl rfl rfl ⟨e6, e7, e8⟩ ⟨by rw [hRm.1]; exact e2, by rw [hRm.2]; exact e3⟩)
      ⟨rx_blind, fun U hU hW => rx_start (C u) (wx_hw0 wr) a2 a3 a4 a5 s3 U hU hW⟩ rfl (by rw [← rx_S_len s3, hn]; exact e9) (by obtain ⟨l0, z1, -⟩ := a6; exact z1.1) (by show l1 ++ l2 = _; rw [List.reverse_reverse]) (lv_room (by rw [rx_S_cats s2]; exact hcat)) hd hm) a5 hA hB fin
  · obtain ⟨mj', np', g1', ⟨e2, e3, e4, e5, e6, e7, e8⟩, e9, e12, e13⟩ := rok.2.2.2.1 hK
    cases g1.symm.trans g1'
    exact rx_goon (sa := wx_su sb tt u1) (va_runSN (As := l1.reverse) (rest := l2) (g := F0 m pc ls (l1 ++ l2)) S (hM ad H.size) ⟨va_cnB np' (C u).2.2.2.2.1 (rx_goodm e4) rfl rfl rfl ((C u).2.2.2.2.2.2.2.2.2.2.2.1.1 _ e12) ((C u).word e5) ⟨e6, e7, e8⟩ ⟨by rw [hRm.1]; exact e2, by rw [hRm.2]; exact e3⟩, (C u).word e13, trivial⟩
      ⟨rx_blind, fun U hU hW => rx_start (C u) (wx_hw0 wr) a2 a3 a4 a5 s3 U hU hW⟩ rfl (by rw [← rx_S_len s3, hn]; exact e9) (by obtain ⟨l0, z1, -⟩ := a6; exact z1.1) (by show l1 ++ l2 = _; rw [List.reverse_reverse]) (lv_room (by rw [rx_S_cats s2]; exact hcat)) hd hm) a5 hA hB fin
end WXS
