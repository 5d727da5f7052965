/-! ONE CALL OF THE SCRIPT -/
theorem rx_small (x y : Int32) {k : Nat} (hy : y.toBitVec.toNat = k) (hk : k < 2147483648) : 0 ≤ (x &&& y).toInt ∧ (x &&& y).toInt ≤ (k : Int) := by
  have e : (x &&& y).toInt = ((x.toBitVec.toNat &&& k : Nat) : Int) := by
    show ((x &&& y).toBitVec).toInt = _
    rw [Int32.toBitVec_and]
    have hl : (x.toBitVec &&& y.toBitVec).toNat ≤ k := by rw [BitVec.toNat_and, hy]; exact Nat.and_le_right
    rw [BitVec.toInt_eq_toNat_of_lt (by omega), BitVec.toNat_and, hy]
  have : x.toBitVec.toNat &&& k ≤ k := Nat.and_le_right
  omega
theorem wx_s5 {x : Int32} {c : Nat} (h : (x &&& 31).toInt = (c : Int)) (hc : c < 32) : rx_G [] [] (.inr (.inr (.inr (400000 + c)))) (.int x) :=
  Or.inr (Or.inl ⟨by omega, by omega, x, rfl, Or.inr (Or.inr (Or.inl ⟨by omega, by omega, by rw [h]; omega⟩))⟩)
/-- the window says nothing wrong of the script -/
def wx_fitw (w : List rx_V) (t : Nat) (xs : Nat → Int32) : Prop := ∀ (k : Nat) (v : rx_V), w[k]? = some v → rx_G [] [] v (.int (xs (t + k)))
def wx_ON (c0 : Nat) : Prop := ∀ (xs : Nat → Int32) (t : Nat), ∃ w : List rx_V, w.length = 4 ∧ wx_fitw w (t + 1) xs ∧ wx_lawN c0 w = true
/-- the facts of the row that calls the helper -/
def wx_HF (pcH : Nat) (my : rx_MT) (hh : List (Nat × Nat × Nat × Nat)) (K : rx_K) : Prop := (∃ (i tg : Nat), rx_tbL7 pcH = some (.invokestatic i, pcH + 3, tg, K)) ∧ K.1 = 16 ∧ rx_hy[K.2.1 - 1000]? = some my.1 ∧ Jvm.Cond.codeWith my.1 my.2.1 my.2.2.1 my.2.2.2.1 hh ∈ rx_bw ∧ Jvm.Cond.static my.1 ∈ rx_bw ∧ Jvm.Cond.initialized my.1.cls ∈ rx_bw ∧ (my.1.cls ≠ "java/lang/invoke/MethodHandle" ∧ my.1.cls ≠ "java/lang/invoke/VarHandle") ∧ my.2.2.2.2.2.2.1 + 1 ≤ 10 ∧ 8 + (my.2.2.1 + 11) + my.2.2.2.2.2.2.2.1 ≤ 364
def wx_OH (l : Launch) (c0 : Nat) : Prop := ∃ (pcH : Nat) (my : rx_MT) (hh : List (Nat × Nat × Nat × Nat)) (K : rx_K), wx_HF pcH my hh K ∧ ∀ (n : Nat), n ≤ 40 → ∀ (xs : Nat → Int32) (t : Nat), ∃ (w as : List rx_V) (n' dm : Nat), w.length = 4 ∧ wx_fitw w (t + 1) xs ∧ n' ≤ 40 ∧ dm ≤ 295000 ∧ as.length = K.2.2.1 ∧ wx_lawA c0 pcH w as = true ∧ wx_HE l n n' my hh as dm ∧
  (wx_lawB c0 (pcH + 3) 795 w [.inl (0, 2)] [] = true ∨ ∃ (as2 : List rx_V) (pcM i tg : Nat) (K2 : rx_K), wx_lawB c0 (pcH + 3) pcM w [.inl (0, 2)] (wx_r 28 :: as2).reverse = true ∧ wx_ME l n' as2 ∧ wx_lawB c0 (pcM + 3) 795 w [.inl rx_top] [] = true ∧ rx_tbL7 pcM = some (.invokevirtual i, pcM + 3, tg, K2) ∧ K2.1 = 5 ∧ K2.2.1 = 189 ∧ as2.length + 1 = K2.2.2.1 ∧ K2.2.2.2.toNat = 11)
def wx_OC (l : Launch) (c0 : Nat) : Prop := ∃ (pcH : Nat) (my : rx_MT) (hh : List (Nat × Nat × Nat × Nat)) (K : rx_K) (pcM i tg : Nat) (K2 : rx_K) (pcT i3 tg3 : Nat) (K3 : rx_K), wx_HF pcH my hh K ∧ (rx_tbL7 pcM = some (.invokevirtual i, pcM + 3, tg, K2) ∧ K2.1 = 5 ∧ K2.2.1 = 177 ∧ K2.2.2.2.toNat = 11) ∧ (rx_tbL7 pcT = some (.invokevirtual i3, pcT + 3, tg3, K3) ∧ K3.1 = 5 ∧ K3.2.1 = 124 ∧ K3.2.2.2.toNat = 11 ∧ 1 = K3.2.2.1) ∧ ∀ (n : Nat), n ≤ 40 → ∀ (xs : Nat → Int32) (t : Nat), ∃ (w as as2 : List rx_V) (n' : Nat) (k bv : Int × Int) (X2 X3 X4 : rx_H), w.length = 4 ∧ wx_fitw w (t + 1) xs ∧ n' ≤ 40 ∧ as.length = K.2.2.1 ∧ as2.length + 1 = K2.2.2.1 ∧ wx_lawA c0 pcH w as = true ∧ wx_HX l (wx_X n) X2 my hh as 0 k ∧ wx_SG l c0 (pcH + 3) pcM w X2 X2 (wx_Lw wx_ix) [.inl k] (wx_L5 k) (wx_r 28 :: as2).reverse ∧ (∃ fs, X2[28]? = some (.inl (11, fs))) ∧ wx_MC l X2 X3 as2 bv ∧ wx_ctc pcT (pcM + 3) X3 (wx_L5 k) [.inl bv] X3 (wx_L6 k bv) [wx_r 28] = true ∧ (∃ fs, X3[28]? = some (.inl (11, fs))) ∧ wx_MT l X3 k ∧ wx_ctc 795 (pcT + 3) X3 (wx_L6 k bv) [.inl k] X4 (wx_Lw wx_ix) [] = true ∧ wx_X n' = X4
/-- all numbers are between these -/
theorem wx_tops (Ls : Nat) (xs : Nat → Int32) (t : Nat) (w : List rx_V) (ht : t + w.length ≤ Ls) (hw : wx_fitw w t xs) : ∃ l0 : List rx_V, l0.length = Ls ∧ (∀ (i : Nat) (v : rx_V), l0[i]? = some v → rx_G [] [] v (.int (xs i))) ∧ ∀ (k : Nat) (v : rx_V), w[k]? = some v → l0[t + k]? = some v := by
  refine ⟨List.replicate t (.inl rx_top) ++ (w ++ List.replicate (Ls - t - w.length) (.inl rx_top)), ?_, fun i v hv => ?_, fun k v hv => ?_⟩
  · rw [List.length_append, List.length_append, List.length_replicate, List.length_replicate]
    omega
  · by_cases h1 : i < t
    · rw [List.getElem?_append_left (by rw [List.length_replicate]; exact h1)] at hv
      rw [(List.mem_replicate.mp (List.mem_of_getElem? hv)).2]
      exact ⟨_, rfl, rx_r32 _⟩
    · rw [List.getElem?_append_right (by rw [List.length_replicate]; omega), List.length_replicate] at hv
      by_cases h2 : i - t < w.length
      · rw [List.getElem?_append_left h2] at hv
        have := hw (i - t) v hv
        rw [show t + (i - t) = i by omega] at this
        exact this
      · rw [List.getElem?_append_right (by omega)] at hv
        rw [(List.mem_replicate.mp (List.mem_of_getElem? hv)).2]
        exact ⟨_, rfl, rx_r32 _⟩
  · have hk := (List.getElem?_eq_some_iff.mp hv).1
    rw [List.getElem?_append_right (by rw [List.length_replicate]; omega), List.length_replicate, show t + k - t = k by omega, List.getElem?_append_left hk]
    exact hv
section WXS
variable {p : Program} {l : Launch} {e : Env} {R : Room} {s : State} {m : MethodId} {args : Array Value} {below : List Frame} {meth : Method} {c : Code} {Q : State → Prop} {D : va_G} {A B : Nat → Prop} {wr : Bool} {sb ad0 : List Nat} {tt : Nat} {ro : List (List rx_V)} {mt : rx_MT} {xM : List rx_MT} {cells slots : Nat} {n u t Ls c0 : Nat} {xs : Nat → Int32}
theorem wx_win {w : List rx_V} (hRW : ∀ l0 : List rx_V, l0.length = Ls → (∀ (i : Nat) (v : rx_V), l0[i]? = some v → rx_G [] [] v (.int (xs i))) → ∀ t u, rx_Cx p s m args meth c D (rx_AW wr ad0 s.heap.size) (rx_BW wr ad0 s.heap.size) wr (wx_su sb t u) (rx_ro ++ [l0]) mt) (ht : t + w.length ≤ Ls) (hw : wx_fitw w t xs) : ∃ (ro2 : List (List rx_V)) (l0 : List rx_V), ro2[4]? = some l0 ∧ (∀ u, rx_Cx p s m args meth c D (rx_AW wr ad0 s.heap.size) (rx_BW wr ad0 s.heap.size) wr (wx_su sb t u) ro2 mt) ∧ ∀ (k : Nat) (v : rx_V), w[k]? = some v → l0[t + k]? = some v := by
  obtain ⟨l0, h1, h2, h3⟩ := wx_tops Ls xs t w ht hw
  exact ⟨rx_ro ++ [l0], l0, rfl, fun u => hRW l0 h1 h2 t u, h3⟩
theorem wx_body (hC : ∀ t u, rx_Cx p s m args meth c D (rx_AW wr ad0 s.heap.size) (rx_BW wr ad0 s.heap.size) wr (wx_su sb t u) rx_ro mt) (hRW : ∀ l0 : List rx_V, l0.length = Ls → (∀ (i : Nat) (v : rx_V), l0[i]? = some v → rx_G [] [] v (.int (xs i))) → ∀ t u, rx_Cx p s m args meth c D (rx_AW wr ad0 s.heap.size) (rx_BW wr ad0 s.heap.size) wr (wx_su sb t u) (rx_ro ++ [l0]) mt) (hwr : wr = true) (hmt : mt = rx_mL7) (hsb : sb.length = 20) (hRm : R.frames = mt.2.2.2.2.2.2.1 ∧ R.locals = mt.2.2.2.2.2.2.2.1) (hm : cells + 1 ≤ R.cells ∧ slots + 7 ≤ R.slots) (hn : n ≤ 40) (h100 : 100 ≤ u) (hU : u + 900000 ≤ wx_bd) (ht5 : t + 5 ≤ Ls) (htt : t ≤ 3000) (hc0 : (xs t &&& 31).toInt = (c0 : Int)) (hc32 : c0 < 32) (hop : wx_ON c0 ∨ wx_OH l c0 ∨ wx_OC l c0)
    (g : ∀ n', n' ≤ 40 → ∀ u', u ≤ u' → u' ≤ u + 900000 → ∀ c1, c1 ≤ cells + 1 → ∀ s1, s1 ≤ slots + 7 → rx_Go p l e R s m args below meth c Q D (rx_AW wr ad0 s.heap.size) (rx_BW wr ad0 s.heap.size) (wx_su sb (t) (u')) ad0 mt 795 (wx_X n') (wx_Lw wx_ix) [] c1 s1) : rx_Go p l e R s m args below meth c Q D (rx_AW wr ad0 s.heap.size) (rx_BW wr ad0 s.heap.size) (wx_su sb (t) (u)) ad0 mt 32 (wx_X n) (wx_Lw wx_ix) [] cells slots := by
  have hfw : ∀ w : List rx_V, wx_fitw w (t + 1) xs → wx_fitw (.inr (.inr (.inr (400000 + c0))) :: w) t xs := by
    intro w hw k v hv
    cases k with
    | zero => cases hv; exact wx_s5 hc0 hc32
    | succ k =>
      have := hw k v hv
      rw [show t + 1 + k = t + (k + 1) by omega] at this
      exact this
  have C : ∀ u, rx_Cx p s m args meth c D (rx_AW wr ad0 s.heap.size) (rx_BW wr ad0 s.heap.size) wr (wx_su sb t u) rx_ro mt := fun u => hC t u
  rcases hop with hN | ⟨pcH, my, hh, K, ⟨⟨i, tg, f1⟩, f2, f3, f4, f5, f6, f7, f8, f9⟩, hH⟩ | ⟨pcH, my, hh, K, pcM, i2, tg2, K2, pcT, i3, tg3, K3, ⟨⟨i, tg, f1⟩, f2, f3, f4, f5, f6, f7, f8, f9⟩, ⟨q1, q2, q3, q4⟩, ⟨z1, z2, z3, z4, z5⟩, hO⟩
  · obtain ⟨w, w1, w2, w3⟩ := hN xs t
    exact wx_lawN_ok (xM := rx_xM) C hwr hmt rfl rfl hsb hRm (by omega) hn (by omega) htt (wx_win hRW (by rw [List.length_cons, w1]; omega) (hfw w w2)) w3 (g n hn _ (by omega) (by omega) _ (by omega) _ (by omega))
  · obtain ⟨w, as, n', dm, w1, w2, h1, h2, h3, h4, h5, h6⟩ := hH n hn xs t
    have hwin := wx_win hRW (t := t) (by rw [List.length_cons, w1]; omega) (hfw w w2)
    rcases h6 with h6 | ⟨as2, pcM, i2, tg2, K2, q1, q2, q3, q4, q5, q6, q7, q8⟩
    · exact wx_lawH_ok (xM := rx_xM) C hwr hmt rfl rfl hsb hRm hm hn h1 h100 (by omega) htt hwin f1 f2 f3 f4 f5 f6 f7 f8 f9 h3 h4 h5 h6 (g n' h1 _ (by omega) (by omega) _ (by omega) _ (by omega))
    · refine wx_lawH_ok (xM := rx_xM) C hwr hmt rfl rfl hsb hRm hm hn h1 h100 (by omega) htt hwin f1 f2 f3 f4 f5 f6 f7 f8 f9 h3 h4 h5 q1 ?_
      exact wx_lawM_ok (xM := rx_xM) C hwr hmt rfl rfl hsb hRm (by omega) h1 (by omega) (by omega) htt hwin q4 q5 q6 q7 q8 q2 q3 (g n' h1 _ (by omega) (by omega) _ (by omega) _ (by omega))
  · obtain ⟨w, as, as2, n', k, bv, X2, X3, X4, w1, w2, h1, h2, h3, h4, h5, h6, h7, h8, h9, h10, h11, h12, h13⟩ := hO n hn xs t
    have hwin := wx_win hRW (t := t) (by rw [List.length_cons, w1]; omega) (hfw w w2)
    exact wx_lawC_ok C hwr hmt rfl hsb hRm hm hn h100 (by omega) htt hwin f1 f2 f3 f4 f5 f6 f7 f8 f9 h2 q1 q2 q3 h3 q4 h7 h4 h5 h6 h8 z1 z2 z3 z5 z4 h10 h9 h11 h12 h13 (g n' h1 _ (by omega) (by omega) _ (by omega) _ (by omega))
end WXS
