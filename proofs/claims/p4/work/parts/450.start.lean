/-! CONSTRUCTORS' CALLS -/
section WXS
variable {p : Program} {l : Launch} {e : Env} {R : Room} {s : State} {m : MethodId} {args : Array Value} {below : List Frame} {meth : Method} {c : Code} {Q : State → Prop} {D : va_G} {A B : Nat → Prop} {wr : Bool} {sb ad0 : List Nat} {tt : Nat} {ro : List (List rx_V)} {mt : rx_MT} {xM : List rx_MT} {cells slots : Nat} {pc np tg u : Nat} {K : rx_K} {X X1 : rx_H} {L : rx_F} {r st as : List rx_V} {mj : rx_MT} {v1 : Option rx_V}
theorem wx_callI {i a mc ms : Nat} (C : ∀ u, rx_Cx p s m args meth c D (rx_AW wr ad0 s.heap.size) (rx_BW wr ad0 s.heap.size) wr (wx_su sb tt u) ro mt) (rok : rx_Ok xM mt pc (.invokespecial i, np, tg, K)) (hK : K.1 = 7 ∨ K.1 = 9) (g1 : xM[K.2.1]? = some mj) (hRm : R.frames = mt.2.2.2.2.2.2.1 ∧ R.locals = mt.2.2.2.2.2.2.2.1) (hm : cells + mc ≤ R.cells ∧ slots + ms ≤ R.slots)
    (hst : st = (wx_r a :: as).reverse ++ r) (hn : as.length + 1 = K.2.2.1) (hcat : rx_cats r ≤ 8)
    (hM : ∀ (ad : List Nat) (sz : Nat), Met l mj.1 (rx_ws mj) (rx_rm mj mc ms) (rx_Pc wr D (wx_su sb tt u) ad ro X (wx_r a :: as) sz) (rx_Qc wr D (wx_su sb tt u) ad X1 v1 sz) mc ms (rx_AW wr ad sz)) (g4 : rx_Go p l e R s m args below meth c Q D (rx_AW wr ad0 s.heap.size) (rx_BW wr ad0 s.heap.size) (wx_su sb tt (u)) ad0 mt np X1 L (rx_ol v1 r) (cells + mc) (slots + ms)) : rx_Go p l e R s m args below meth c Q D (rx_AW wr ad0 s.heap.size) (rx_BW wr ad0 s.heap.size) (wx_su sb tt (u)) ad0 mt pc X L st cells slots := by
  obtain ⟨hd, rfl⟩ := rok.dec (n := 2) rfl
  have S : CallFix p m c mt.2.1 mt.2.2.1 s args rx_bw mt.2.2.2.2.1 := ⟨(C u).1, (C u).2.1, (C u).2.2.1, (C u).2.2.2.1, (C u).2.2.2.2.1⟩
  intro ad ws H locs ls vs a1 a2 a3 a4 a5 a6 a7
  rw [hst] at a7
  obtain ⟨l1, l2, rfl, s1, s2⟩ := rx_S_app a7
  have s3 := rx_S_rev s1
  rw [List.reverse_reverse] at s3
  obtain ⟨x, xs, ex, ⟨b, hb, rfl⟩, s4⟩ := rx_S_cons s3
  have el : l1 = xs.reverse ++ [Value.ref b] := by rw [← List.reverse_reverse l1, ex, List.reverse_cons]
  have hA := rx_inA (C u) (wx_hw0 wr) a2 a4 a5
  have hB := rx_inB (C u) (wx_hw0 wr) a2 a4 a5
  have fin : ∀ (r' : Option Value) (ad' : List Nat) (ws' : va_W) (H1 : Heap) (locs1 : List Loc), rx_O ad' (wx_su sb tt u) v1 r' → ad <+: ad' → rx_W s ad' (wx_su sb tt u) X1 ws' → va_P D rx_cl ws' H1 → va_D (rx_BW wr ad0 s.heap.size) ws' → va_S (rx_AW wr ad0 s.heap.size) s.heap H1 locs1 → W p l e R s m args below meth c H1 locs1 (cells + mc) (slots + ms) Q (F0 m (pc + 3) ls (r'.toList ++ l2)) :=
    fun r' ad' ws' H1 locs1 o1 o2 o3 o4 o5 o6 => g4 ad' ws' H1 locs1 ls _ (List.IsPrefix.trans a1 o2) o3 o4 o5 o6 (rx_L_up o2 a6) (rx_O_st o1 (rx_S_up o2 s2))
  rcases hK with hK | hK
  · obtain ⟨mj', np', g1', ⟨e2, e3, e4, e5, e6, e7, e8⟩, e9, e10, e11, e12, e13⟩ := rok.2.2.2.1 hK
    cases g1.symm.trans g1'
    have e9 : K.2.2.1 = np' + 1 := e9
    have hw : rx_ws mj = Jvm.Cond.code mj.1 mj.2.1 mj.2.2.1 none :: rx_bw := by unfold rx_ws; rw [e11]
    exact rx_goon (va_runI (b := b) (As := xs) (rest := l2) (g := F0 m pc ls (l1 ++ l2)) S (hM ad H.size) (cwI np' (C u).2.2.2.2.1 (rx_goodm e4) hw rfl rfl ((C u).word e5) ((C u).word e12) ((C u).word e13) e10 ⟨e6, e7, e8⟩ ⟨by rw [hRm.1]; exact e2, by rw [hRm.2]; exact e3⟩)
      ⟨rx_blind, fun U hU hW => rx_start (C u) (wx_hw0 wr) a2 a3 a4 a5 (as := wx_r a :: as) (vs := .ref b :: xs) ⟨⟨b, hb, rfl⟩, s4⟩ U hU hW⟩ rfl (by rw [← rx_S_len s4]; omega) (by obtain ⟨l0, z1, -⟩ := a6; exact z1.1) (by show l1 ++ l2 = _; rw [el, List.append_assoc]; rfl) (lv_room (by rw [rx_S_cats s2]; exact hcat)) hd hm) a5 hA hB fin
  · obtain ⟨mj', np', g1', ⟨e2, e3, e4, e5, e6, e7, e8⟩, e9, e10, e11, e12, e13⟩ := rok.2.2.2.2 hK
    cases g1.symm.trans g1'
    have e9 : K.2.2.1 = np' + 1 := e9
    have hw : rx_ws mj = Jvm.Cond.code mj.1 mj.2.1 mj.2.2.1 none :: rx_bw := by unfold rx_ws; rw [e11]
    exact rx_goon (va_runIN (b := b) (As := xs) (rest := l2) (g := F0 m pc ls (l1 ++ l2)) S (hM ad H.size) ⟨va_cnB np' (C u).2.2.2.2.1 (rx_goodm e4) hw rfl rfl ((C u).2.2.2.2.2.2.2.2.2.2.2.1.1 _ e12) ((C u).word e5) ⟨e6, e7, e8⟩ ⟨by rw [hRm.1]; exact e2, by rw [hRm.2]; exact e3⟩, e10, (C u).word e13⟩
      ⟨rx_blind, fun U hU hW => rx_start (C u) (wx_hw0 wr) a2 a3 a4 a5 (as := wx_r a :: as) (vs := .ref b :: xs) ⟨⟨b, hb, rfl⟩, s4⟩ U hU hW⟩ rfl (by rw [← rx_S_len s4]; omega) (by obtain ⟨l0, z1, -⟩ := a6; exact z1.1) (by show l1 ++ l2 = _; rw [el, List.append_assoc]; rfl) (lv_room (by rw [rx_S_cats s2]; exact hcat)) hd hm) a5 hA hB fin
end WXS
section WXS
variable {p : Program} {l : Launch} {e : Env} {R : Room} {s : State} {m : MethodId} {args : Array Value} {below : List Frame} {meth : Method} {c : Code} {Q : State → Prop} {D : va_G} {A B : Nat → Prop} {wr : Bool} {sb ad0 : List Nat} {tt : Nat} {ro : List (List rx_V)} {mt : rx_MT} {xM : List rx_MT} {cells slots : Nat} {pc np tg u u1 : Nat} {K : rx_K} {X X1 : rx_H} {L : rx_F} {r st as : List rx_V} {my : rx_MT} {v1 : Option rx_V} {hh : List (Nat × Nat × Nat × Nat)}
/-- the law calls one of its helpers -/
theorem wx_callH {i : Nat} (C : ∀ u, rx_Cx p s m args meth c D (rx_AW wr ad0 s.heap.size) (rx_BW wr ad0 s.heap.size) wr (wx_su sb tt u) ro mt) (hsb : sb.length = 20) (hu : u ≤ u1) (rok : rx_Ok xM mt pc (.invokestatic i, np, tg, K)) (hK : K.1 = 16) (hy : rx_hy[K.2.1 - 1000]? = some my.1) (y2 : Jvm.Cond.codeWith my.1 my.2.1 my.2.2.1 my.2.2.2.1 hh ∈ rx_bw) (y3 : Jvm.Cond.static my.1 ∈ rx_bw) (y4 : Jvm.Cond.initialized my.1.cls ∈ rx_bw) (y5 : my.1.cls ≠ "java/lang/invoke/MethodHandle" ∧ my.1.cls ≠ "java/lang/invoke/VarHandle") (y7 : my.2.2.2.2.2.2.1 + 1 ≤ 10) (y8 : 8 + (my.2.2.1 + 11) + my.2.2.2.2.2.2.2.1 ≤ 364)
    (hRm : R.frames = mt.2.2.2.2.2.2.1 ∧ R.locals = mt.2.2.2.2.2.2.2.1) (hm : cells + 1 ≤ R.cells ∧ slots + 7 ≤ R.slots) (hst : st = as.reverse ++ r) (hn : as.length = K.2.2.1) (hcat : rx_cats r ≤ 8)
    (hM : ∀ (ad : List Nat) (sz : Nat), Met l my.1 (rx_wsH my hh) (rx_rm my 1 7) (rx_Pc wr D (wx_su sb tt u) ad ro X as sz) (rx_Qc wr D (wx_su sb tt u1) ad X1 v1 sz) 1 7 (rx_AW wr ad sz)) (g4 : rx_Go p l e R s m args below meth c Q D (rx_AW wr ad0 s.heap.size) (rx_BW wr ad0 s.heap.size) (wx_su sb tt (u1)) ad0 mt np X1 L (rx_ol v1 r) (cells + 1) (slots + 7)) : rx_Go p l e R s m args below meth c Q D (rx_AW wr ad0 s.heap.size) (rx_BW wr ad0 s.heap.size) (wx_su sb tt (u)) ad0 mt pc X L st cells slots := by
  obtain ⟨hd, rfl⟩ := rok.dec (n := 2) rfl
  obtain ⟨h1000, y, np', g1, g2, g3, q4, q5, q6⟩ := rok.2.2.2.2.2 hK
  cases hy.symm.trans g1
  have g2 : K.2.2.1 = np' := g2
  intro ad ws H locs ls vs a1 a2 a3 a4 a5 a6 a7
  rw [hst] at a7
  obtain ⟨l1, l2, rfl, s1, s2⟩ := rx_S_app a7
  have s3 := rx_S_rev s1
  rw [List.reverse_reverse] at s3
  have hA := rx_inA (C u) (wx_hw0 wr) a2 a4 a5
  have hB := rx_inB (C u) (wx_hw0 wr) a2 a4 a5
  have S : CallFix p m c mt.2.1 mt.2.2.1 s args rx_bw mt.2.2.2.2.1 := ⟨(C u).1, (C u).2.1, (C u).2.2.1, (C u).2.2.2.1, (C u).2.2.2.2.1⟩
  have hGd : GoodIn rx_bw (rx_wsH my hh) := by
    intro w hw
    rcases List.mem_cons.mp hw with rfl | hw
    · exact rx_goodw y2
    · exact rx_goodw hw
  exact rx_goon (sa := wx_su sb tt u1) (rx_runSW (As := l1.reverse) (rest := l2) (g := F0 m pc ls (l1 ++ l2)) S (hM ad H.size) hGd List.mem_cons_self rfl rfl ⟨by rw [hRm.1]; exact Nat.le_trans y7 q4, by rw [hRm.2]; exact Nat.le_trans y8 q5⟩ ((C u).word g3) y3 y4 rfl y5 q6
      ⟨rx_blind, fun U hU hW => rx_start (C u) (wx_hw0 wr) a2 a3 a4 a5 s3 U hU hW⟩ rfl (by rw [← rx_S_len s3, hn, g2]) (by obtain ⟨l0, z1, -⟩ := a6; exact z1.1) (by show l1 ++ l2 = _; rw [List.reverse_reverse]) (lv_room (by rw [rx_S_cats s2]; exact hcat)) hd hm) a5 hA hB
    (fun r' ad' ws' H1 locs1 o1 o2 o3 o4 o5 o6 => g4 ad' ws' H1 locs1 ls _ (List.IsPrefix.trans a1 o2) o3 o4 o5 o6 (rx_L_up o2 (rx_L_u hsb hu a6)) (rx_O_st o1 (rx_S_up o2 (rx_S_u hsb hu s2))))
end WXS
