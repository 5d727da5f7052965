/-! ALL INSTRUCTIONS IN ONE ROW -/
theorem rx_bif {α : Type} {b : Bool} {x : Option α} {r : α} (h : (bif b then x else none) = some r) : b = true ∧ x = some r := by
  cases b with
  | true => exact ⟨rfl, h⟩
  | false => cases h
theorem rx_bif2 {α : Type} {b : Bool} {x y : Option α} {r : α} (h : (bif b then x else y) = some r) : (b = true ∧ x = some r) ∨ (b = false ∧ y = some r) := by
  cases b with
  | true => exact Or.inl ⟨rfl, h⟩
  | false => exact Or.inr ⟨rfl, h⟩
theorem rx_and2 {a b : Bool} (h : (a && b) = true) : a = true ∧ b = true := by rwa [Bool.and_eq_true] at h
theorem rx_bin_some {β : Type} {st : List rx_V} {f : Int × Int → Int × Int → Int × Int} {k : List rx_V → Option β} {r0 : β} (h : rx_bin st f k = some r0) : ∃ a b r, st = .inl b :: .inl a :: r ∧ k (.inl (f a b) :: r) = some r0 := by
  unfold rx_bin at h
  split at h
  · rename_i b a r
    rw [rx_pI_eq] at h
    exact ⟨a, b, r, rfl, h⟩
  · cases h
theorem rx_binL_some {β : Type} {st : List rx_V} {f : Int × Int → Int × Int → Int × Int} {k : List rx_V → Option β} {r0 : β} (h : rx_binL st f k = some r0) : ∃ a b r, st = .inr (.inl b) :: .inr (.inl a) :: r ∧ k (.inr (.inl (f a b)) :: r) = some r0 := by
  unfold rx_binL at h
  split at h
  · rename_i b a r
    rw [rx_pL_eq] at h
    exact ⟨a, b, r, rfl, h⟩
  · cases h
theorem rx_binD_some {β : Type} {st : List rx_V} {f : Int × Int → Int × Int → Int × Int} {k : List rx_V → Option β} {r0 : β} (h : rx_binD st f k = some r0) : ∃ a b r, st = .inl b :: .inl a :: r ∧ 1 ≤ b.1 ∧ k (.inl (f a b) :: r) = some r0 := by
  unfold rx_binD at h
  split at h
  · rename_i b a r
    obtain ⟨h1, h⟩ := rx_bif h
    rw [rx_pI_eq] at h
    exact ⟨a, b, r, rfl, rx_le_t h1, h⟩
  · cases h
theorem rx_ldI_some {β : Type} {L : rx_F} {i : Nat} {k : rx_V → Option β} {r0 : β} (h : rx_ldI L i k = some r0) : ∃ v, L[i]? = some (some v) ∧ rx_isI v = true ∧ k v = some r0 := by
  obtain ⟨o, h1, h2⟩ := rx_get_some h
  split at h2
  · exact ⟨_, h1, rfl, h2⟩
  · obtain ⟨h3, h2⟩ := rx_bif h2
    exact ⟨_, h1, h3, h2⟩
  · cases h2
theorem rx_ldL_some {β : Type} {L : rx_F} {i : Nat} {k : rx_V → Option β} {r0 : β} (h : rx_ldL L i k = some r0) : ∃ q, L[i]? = some (some (.inr (.inl q))) ∧ k (.inr (.inl q)) = some r0 := by
  obtain ⟨o, h1, h2⟩ := rx_get_some h
  split at h2
  · exact ⟨_, h1, h2⟩
  · cases h2
theorem rx_ldA_some {β : Type} {L : rx_F} {i : Nat} {k : rx_V → Option β} {r0 : β} (h : rx_ldA L i k = some r0) : ∃ q, L[i]? = some (some (.inr (.inr q))) ∧ rx_isr q = true ∧ k (.inr (.inr q)) = some r0 := by
  obtain ⟨o, h1, h2⟩ := rx_get_some h
  split at h2
  · obtain ⟨h3, h2⟩ := rx_bif h2
    exact ⟨_, h1, h3, h2⟩
  · cases h2
theorem rx_stI_some {β : Type} {L : rx_F} {i : Nat} {st : List rx_V} {k : rx_F → List rx_V → Option β} {r0 : β} (h : rx_stI L i st k = some r0) : ∃ q r, st = .inl q :: r ∧ rx_pv L i = true ∧ i < L.length ∧ k (L.set i (some (.inl q))) r = some r0 := by
  unfold rx_stI at h
  split at h
  · obtain ⟨h1, h⟩ := rx_bif h
    obtain ⟨h2, h⟩ := rx_set_some h
    exact ⟨_, _, rfl, h1, h2, h⟩
  · cases h
theorem rx_stA_some {β : Type} {L : rx_F} {i : Nat} {st : List rx_V} {k : rx_F → List rx_V → Option β} {r0 : β} (h : rx_stA L i st k = some r0) : ∃ q r, st = .inr (.inr q) :: r ∧ rx_isr q = true ∧ rx_pv L i = true ∧ i < L.length ∧ k (L.set i (some (.inr (.inr q)))) r = some r0 := by
  unfold rx_stA at h
  split at h
  · obtain ⟨h1, h⟩ := rx_bif h
    obtain ⟨h0, h1⟩ := rx_and2 h1
    obtain ⟨h2, h⟩ := rx_set_some h
    exact ⟨_, _, rfl, h0, h1, h2, h⟩
  · cases h
theorem rx_stL_some {β : Type} {L : rx_F} {i : Nat} {st : List rx_V} {k : rx_F → List rx_V → Option β} {r0 : β} (h : rx_stL L i st k = some r0) : ∃ q r, st = .inr (.inl q) :: r ∧ rx_pv L i = true ∧ i + 1 < L.length ∧ k ((L.set i (some (.inr (.inl q)))).set (i + 1) none) r = some r0 := by
  unfold rx_stL at h
  split at h
  · obtain ⟨h1, h⟩ := rx_bif h
    obtain ⟨h2, h⟩ := rx_set_some h
    obtain ⟨h3, h⟩ := rx_set_some h
    rw [List.length_set] at h3
    exact ⟨_, _, rfl, h1, h3, h⟩
  · cases h
theorem rx_at_some {α β : Type} {l : List α} {q : Int × Int} {k : α → Option β} {r0 : β} (h : rx_at l q k = some r0) : rx_one q = true ∧ rx_le 0 q.1 = true ∧ ∃ v, l[q.1.toNat]? = some v ∧ k v = some r0 := by
  obtain ⟨h1, h⟩ := rx_bif h
  obtain ⟨h2, h3⟩ := rx_and2 h1
  exact ⟨h2, h3, rx_get_some h⟩
theorem rx_put_some {α β : Type} {l : List α} {q : Int × Int} {x : α} {k : List α → Option β} {r0 : β} (h : rx_put l q x k = some r0) : rx_one q = true ∧ rx_le 0 q.1 = true ∧ q.1.toNat < l.length ∧ k (l.set q.1.toNat x) = some r0 := by
  obtain ⟨h1, h⟩ := rx_bif h
  obtain ⟨h2, h3⟩ := rx_and2 h1
  exact ⟨h2, h3, rx_set_some h⟩
theorem rx_beq {a b : Nat} (h : (a == b) = true) : a = b := by simpa using h
theorem rx_dk3 : ∀ (i : Nat) (ks : List Nat), rx_dk[i]? = some ks → ∀ x ∈ ks, x ≤ 3 := by
  intro i ks h
  have hm := List.mem_of_getElem? h
  have : ∀ ks ∈ rx_dk, ∀ x ∈ ks, x ≤ 3 := by decide +kernel
  exact this ks hm
def rx_dfs (i : Nat) : List Nat := match rx_dk[i]? with
  | some ks => ks
  | none => []
set_option maxHeartbeats 4000000 in
theorem rx_step_ok {p : Program} {l : Launch} {e : Env} {R : Room} {s : State} {m : MethodId} {args : Array Value} {below : List Frame} {meth : Method} {c : Code} {Q : State → Prop} {D : va_G} {A B : Nat → Prop} {wr : Bool} {sa ad0 : List Nat} {ro : List (List rx_V)} {mt : rx_MT} {xM : List rx_MT} {pc : Nat} {row : rx_Row} {h : rx_H} {L : rx_F} {st : List rx_V} {cells slots : Nat} {β : Type} {r0 : β} {k : Nat → rx_H → rx_F → List rx_V → Nat → Nat → Option β} {call : Nat → List rx_V → List rx_V → Option β} {ret : Option rx_V → Option β} {thr : Nat → Option β}
    (C : rx_Cx p s m args meth c D A B wr sa ro mt) (ok : rx_Ok xM mt pc row) (hob : Jvm.Cond.instanceMethod Lib.objectInit ∈ rx_bw ∧ Jvm.Cond.code Lib.objectInit ⟨#[0xb1]⟩ 1 none ∈ rx_bw) (hRm : R.frames = mt.2.2.2.2.2.2.1 ∧ R.locals = mt.2.2.2.2.2.2.2.1)
    (hk : ∀ pc' h' L' st' dc ds, k pc' h' L' st' dc ds = some r0 → (cells + dc ≤ R.cells ∧ slots + ds ≤ R.slots) ∧ rx_Go p l e R s m args below meth c Q D A B sa ad0 mt pc' h' L' st' (cells + dc) (slots + ds))
    (hV : ∀ i a as r ci fs, row.1 = .invokevirtual i → row.2.2.2.1 = 5 → call row.2.2.2.2.1 (.inr (.inr (.inl (some a))) :: as) r = some r0 → st = (.inr (.inr (.inl (some a))) :: as).reverse ++ r → as.length + 1 = row.2.2.2.2.2.1 → rx_cats r ≤ 8 → h[a]? = some (.inl (ci, fs)) → ci = row.2.2.2.2.2.2.toNat → rx_Go p l e R s m args below meth c Q D A B sa ad0 mt pc h L st cells slots)
    (hS : ∀ i as r, row.1 = .invokestatic i → (row.2.2.2.1 = 6 ∨ row.2.2.2.1 = 8 ∨ row.2.2.2.1 = 16) → call row.2.2.2.2.1 as r = some r0 → st = as.reverse ++ r → as.length = row.2.2.2.2.2.1 → rx_cats r ≤ 8 → rx_Go p l e R s m args below meth c Q D A B sa ad0 mt pc h L st cells slots)
    (hI : ∀ i a as r, row.1 = .invokespecial i → (row.2.2.2.1 = 7 ∨ row.2.2.2.1 = 9) → call row.2.2.2.2.1 (.inr (.inr (.inl (some a))) :: as) r = some r0 → st = (.inr (.inr (.inl (some a))) :: as).reverse ++ r → as.length + 1 = row.2.2.2.2.2.1 → rx_cats r ≤ 8 → rx_Go p l e R s m args below meth c Q D A B sa ad0 mt pc h L st cells slots)
    (hri : ∀ q, row.1 = .ireturn → ret (some (.inl q)) = some r0 → st = [.inl q] → (row.2.2.2.2.1 = 0 ∨ rx_bool q = true) → rx_Go p l e R s m args below meth c Q D A B sa ad0 mt pc h L st cells slots)
    (hrl : ∀ q, row.1 = .lreturn → ret (some (.inr (.inl q))) = some r0 → st = [.inr (.inl q)] → rx_Go p l e R s m args below meth c Q D A B sa ad0 mt pc h L st cells slots)
    (hra : ∀ q, row.1 = .areturn → ret (some (.inr (.inr q))) = some r0 → st = [.inr (.inr q)] → rx_isr q = true → rx_Go p l e R s m args below meth c Q D A B sa ad0 mt pc h L st cells slots)
    (hrv : row.1 = .return_ → ret none = some r0 → st = [] → rx_Go p l e R s m args below meth c Q D A B sa ad0 mt pc h L st cells slots)
    (htr : ∀ i, row.1 = .new i → row.2.2.2.1 = 15 → rx_cats st ≤ 8 → thr row.2.2.2.2.1 = some r0 → rx_Go p l e R s m args below meth c Q D A B sa ad0 mt pc h L st cells slots)
    (hs : rx_step wr ro rx_dfs row pc h L st k call ret thr = some r0) : rx_Go p l e R s m args below meth c Q D A B sa ad0 mt pc h L st cells slots := by
  obtain ⟨ins, np, tg, K⟩ := row
  have g0 : ∀ {pc' h' L' st'}, k pc' h' L' st' 0 0 = some r0 → rx_Go p l e R s m args below meth c Q D A B sa ad0 mt pc' h' L' st' cells slots := fun q => (hk _ _ _ _ _ _ q).2
  cases ins with
  | iconst n => obtain ⟨h1, hs⟩ := rx_bif hs; obtain ⟨h1, h2⟩ := rx_and2 h1; rw [rx_pI_eq] at hs; exact rx_o_iconst C ok (rx_le_t h1) (rx_le_t h2) (g0 hs)
  | bipush n => obtain ⟨h1, hs⟩ := rx_bif hs; obtain ⟨h1, h2⟩ := rx_and2 h1; rw [rx_pI_eq] at hs; exact rx_o_bipush C ok (rx_le_t h1) (rx_le_t h2) (g0 hs)
  | sipush n => obtain ⟨h1, hs⟩ := rx_bif hs; obtain ⟨h1, h2⟩ := rx_and2 h1; rw [rx_pI_eq] at hs; exact rx_o_sipush C ok (rx_le_t h1) (rx_le_t h2) (g0 hs)
  | lconst n => simp only [rx_step, rx_pL_eq] at hs; exact rx_o_lconst C ok (g0 hs)
  | aconst_null => exact rx_o_null C ok (g0 hs)
  | ldc i => obtain ⟨h1, hs⟩ := rx_bif hs; rw [rx_pI_eq] at hs; exact rx_o_ldc C ok (rx_beq h1) (g0 hs)
  | ldc_w i => obtain ⟨h1, hs⟩ := rx_bif hs; rw [rx_pI_eq] at hs; exact rx_o_ldcw C ok (rx_beq h1) (g0 hs)
  | ldc2_w i => obtain ⟨h1, hs⟩ := rx_bif hs; rw [rx_pL_eq] at hs; exact rx_o_ldc2 C ok (rx_beq h1) (g0 hs)
  | iload_n i => simp only [rx_step] at hs; obtain ⟨q, h1, h2, hs⟩ := rx_ldI_some hs; exact rx_o_iload_n C ok h2 h1 (g0 hs)
  | iload i => simp only [rx_step] at hs; obtain ⟨q, h1, h2, hs⟩ := rx_ldI_some hs; exact rx_o_iload C ok h2 h1 (g0 hs)
  | lload_n i => simp only [rx_step] at hs; obtain ⟨q, h1, hs⟩ := rx_ldL_some hs; exact rx_o_lload_n C ok h1 (g0 hs)
  | lload i => simp only [rx_step] at hs; obtain ⟨q, h1, hs⟩ := rx_ldL_some hs; exact rx_o_lload C ok h1 (g0 hs)
  | aload_n i => simp only [rx_step] at hs; obtain ⟨q, h1, h2, hs⟩ := rx_ldA_some hs; exact rx_o_aload_n C ok h2 h1 (g0 hs)
  | aload i => simp only [rx_step] at hs; obtain ⟨q, h1, h2, hs⟩ := rx_ldA_some hs; exact rx_o_aload C ok h2 h1 (g0 hs)
  | istore_n i => obtain ⟨q, r, rfl, h1, h2, hs⟩ := rx_stI_some hs; exact rx_o_istore_n C ok h1 h2 (g0 hs)
  | istore i => obtain ⟨q, r, rfl, h1, h2, hs⟩ := rx_stI_some hs; exact rx_o_istore C ok h1 h2 (g0 hs)
  | lstore_n i => obtain ⟨q, r, rfl, h1, h2, hs⟩ := rx_stL_some hs; exact rx_o_lstore_n C ok h1 h2 (g0 hs)
  | lstore i => obtain ⟨q, r, rfl, h1, h2, hs⟩ := rx_stL_some hs; exact rx_o_lstore C ok h1 h2 (g0 hs)
  | astore_n i => obtain ⟨q, r, rfl, h0, h1, h2, hs⟩ := rx_stA_some hs; exact rx_o_astore_n C ok h0 h1 h2 (g0 hs)
  | astore i => obtain ⟨q, r, rfl, h0, h1, h2, hs⟩ := rx_stA_some hs; exact rx_o_astore C ok h0 h1 h2 (g0 hs)
  | iinc i n =>
    obtain ⟨h1, hs⟩ := rx_bif hs
    obtain ⟨h1, h3⟩ := rx_and2 h1
    obtain ⟨h1, h2⟩ := rx_and2 h1
    obtain ⟨o, h4, hs⟩ := rx_get_some hs
    split at hs
    · rw [rx_pI_eq] at hs
      obtain ⟨h5, hs⟩ := rx_set_some hs
      exact rx_o_iinc C ok (rx_le_t h1) (rx_le_t h2) h3 h4 (g0 hs)
    · cases hs
  | iadd => simp only [rx_step] at hs; obtain ⟨a, b, r, rfl, ht⟩ := rx_bin_some hs; exact rx_o_iadd C ok (g0 ht)
  | isub => simp only [rx_step] at hs; obtain ⟨a, b, r, rfl, ht⟩ := rx_bin_some hs; exact rx_o_isub C ok (g0 ht)
  | imul => simp only [rx_step] at hs; obtain ⟨a, b, r, rfl, ht⟩ := rx_bin_some hs; exact rx_o_imul C ok (g0 ht)
  | iand =>
    simp only [rx_step] at hs
    split at hs
    · rcases rx_bif2 hs with ⟨h1, hs⟩ | ⟨-, hs⟩
      · obtain ⟨h1, h2⟩ := rx_and2 h1
        obtain ⟨h1, h3⟩ := rx_and2 h1
        obtain ⟨h3, h4⟩ := rx_and2 h3
        obtain ⟨h2, h5⟩ := rx_and2 h2
        rw [rx_fN_eq] at hs
        exact rx_o_and3 C ok h1 (rx_le_t h3) (rx_le_t h4) (Nat.le_of_ble_eq_true h2) (Nat.le_of_ble_eq_true h5) (g0 hs)
      · obtain ⟨h1, hs⟩ := rx_bif hs
        obtain ⟨h1, h2⟩ := rx_and2 h1
        obtain ⟨h1, h3⟩ := rx_and2 h1
        obtain ⟨h3, h4⟩ := rx_and2 h3
        obtain ⟨h2, h5⟩ := rx_and2 h2
        rw [rx_fN_eq] at hs
        exact rx_o_and31 C ok h1 (rx_le_t h3) (rx_le_t h4) (Nat.le_of_ble_eq_true h2) (Nat.le_of_ble_eq_true h5) (g0 hs)
    · obtain ⟨a, b, r, rfl, ht⟩ := rx_bin_some hs; exact rx_o_iand C ok (g0 ht)
  | ior => simp only [rx_step] at hs; obtain ⟨a, b, r, rfl, ht⟩ := rx_bin_some hs; exact rx_o_ior C ok (g0 ht)
  | ixor => simp only [rx_step] at hs; obtain ⟨a, b, r, rfl, ht⟩ := rx_bin_some hs; exact rx_o_ixor C ok (g0 ht)
  | ishl => simp only [rx_step] at hs; obtain ⟨a, b, r, rfl, ht⟩ := rx_bin_some hs; exact rx_o_ishl C ok (g0 ht)
  | ishr =>
    simp only [rx_step] at hs
    split at hs
    · obtain ⟨h1, hs⟩ := rx_bif hs
      obtain ⟨h1, h2⟩ := rx_and2 h1
      obtain ⟨h1, h3⟩ := rx_and2 h1
      obtain ⟨h3, h4⟩ := rx_and2 h3
      obtain ⟨h2, h5⟩ := rx_and2 h2
      obtain ⟨h5, h6⟩ := rx_and2 h5
      rw [rx_fN_eq] at hs
      exact rx_o_shr2 C ok h1 (rx_le_t h3) (rx_le_t h4) (Nat.eq_of_beq_eq_true h2) (Nat.le_of_ble_eq_true h5) (Nat.le_of_ble_eq_true h6) (g0 hs)
    · obtain ⟨a, b, r, rfl, ht⟩ := rx_bin_some hs; exact rx_o_ishr C ok (g0 ht)
  | idiv => simp only [rx_step] at hs; obtain ⟨a, b, r, rfl, h1, ht⟩ := rx_binD_some hs; exact rx_o_idiv C ok h1 (g0 ht)
  | irem => simp only [rx_step] at hs; obtain ⟨a, b, r, rfl, h1, ht⟩ := rx_binD_some hs; exact rx_o_irem C ok h1 (g0 ht)
  | ladd => simp only [rx_step] at hs; obtain ⟨a, b, r, rfl, ht⟩ := rx_binL_some hs; exact rx_o_ladd C ok (g0 ht)
  | lsub => simp only [rx_step] at hs; obtain ⟨a, b, r, rfl, ht⟩ := rx_binL_some hs; exact rx_o_lsub C ok (g0 ht)
  | lmul => simp only [rx_step] at hs; obtain ⟨a, b, r, rfl, ht⟩ := rx_binL_some hs; exact rx_o_lmul C ok (g0 ht)
  | ineg =>
    simp only [rx_step] at hs
    split at hs
    · rw [rx_pI_eq] at hs; exact rx_o_ineg C ok (g0 hs)
    · cases hs
  | ldiv =>
    simp only [rx_step] at hs
    split at hs
    · obtain ⟨h1, hs⟩ := rx_bif hs
      rw [rx_pL_eq] at hs; exact rx_o_ldiv C ok (rx_le_t h1) (g0 hs)
    · cases hs
  | lcmp =>
    simp only [rx_step] at hs
    split at hs
    · rw [rx_pI_eq] at hs; exact rx_o_lcmp C ok (g0 hs)
    · cases hs
  | i2l =>
    simp only [rx_step] at hs
    split at hs
    · exact rx_o_i2l C ok (g0 hs)
    · cases hs
  | l2i =>
    simp only [rx_step] at hs
    split at hs
    · rw [rx_pI_eq] at hs; exact rx_o_l2i C ok (g0 hs)
    · cases hs
  | goto o => exact rx_o_goto C ok (g0 hs)
  | ifCond cd o =>
    simp only [rx_step] at hs
    split at hs
    · rename_i a r
      cases hc : rx_cmp cd a (0, 0) with
      | none => rw [hc] at hs; cases hs
      | some t =>
        rw [hc] at hs
        exact rx_o_if C ok hc (fun e => by subst e; exact g0 hs) (fun e => by subst e; exact g0 hs)
    · cases hs
  | if_icmp cd o =>
    simp only [rx_step] at hs
    split at hs
    · rename_i b a r
      cases hc : rx_cmp cd a b with
      | none => rw [hc] at hs; cases hs
      | some t =>
        rw [hc] at hs
        exact rx_o_icmp C ok hc (fun e => by subst e; exact g0 hs) (fun e => by subst e; exact g0 hs)
    · cases hs
  | ifnull o =>
    simp only [rx_step] at hs
    split at hs
    · exact rx_o_ifnull0 C ok (g0 hs)
    · exact rx_o_ifnull1 C ok (g0 hs)
    · cases hs
  | ifnonnull o =>
    simp only [rx_step] at hs
    split at hs
    · exact rx_o_ifnonnull0 C ok (g0 hs)
    · exact rx_o_ifnonnull1 C ok (g0 hs)
    · cases hs
  | tableswitch d lo hi offs =>
    simp only [rx_step] at hs
    split at hs
    · split at hs
      · rename_i o ho
        obtain ⟨h1, hs⟩ := rx_bif hs
        exact rx_o_switch C ok ho (rx_le_t h1) (g0 hs)
      · cases hs
    · cases hs
  | dup =>
    simp only [rx_step] at hs
    split at hs
    · obtain ⟨h1, hs⟩ := rx_bif hs
      exact rx_o_dup C ok (rx_beq h1) (g0 hs)
    · cases hs
  | dup2 =>
    simp only [rx_step] at hs
    split at hs
    · obtain ⟨h1, hs⟩ := rx_bif hs
      obtain ⟨h1, h2⟩ := rx_and2 h1
      exact rx_o_dup2 C ok (rx_beq h1) (rx_beq h2) (g0 hs)
    · cases hs
  | pop =>
    simp only [rx_step] at hs
    split at hs
    · obtain ⟨h1, hs⟩ := rx_bif hs
      exact rx_o_pop C ok (rx_beq h1) (g0 hs)
    · cases hs
  | getfield i =>
    simp only [rx_step] at hs
    split at hs
    · obtain ⟨h1, hs⟩ := rx_bif hs
      obtain ⟨cc, h2, hs⟩ := rx_get_some hs
      split at hs
      · obtain ⟨h3, hs⟩ := rx_bif hs
        obtain ⟨v, h4, hs⟩ := rx_get_some hs
        exact rx_o_getfield C ok (by simpa using h1) h2 (rx_beq h3) h4 (g0 hs)
      · cases hs
    · cases hs
  | putfield i =>
    simp only [rx_step] at hs
    split at hs
    · obtain ⟨h1, hs⟩ := rx_bif hs
      obtain ⟨hwr, h1⟩ := rx_and2 h1
      obtain ⟨h1, h5⟩ := rx_and2 h1
      obtain ⟨cc, h2, hs⟩ := rx_get_some hs
      split at hs
      · obtain ⟨h3, hs⟩ := rx_bif hs
        obtain ⟨h4, hs⟩ := rx_set_some hs
        obtain ⟨h6, hs⟩ := rx_set_some hs
        exact rx_o_putfield C hwr ok (by simpa using h1) h5 h2 (rx_beq h3) h4 (g0 hs)
      · cases hs
    · cases hs
  | getstatic i => obtain ⟨h1, hs⟩ := rx_bif hs; exact rx_o_getstatic C ok (rx_beq h1) (g0 hs)
  | iaload =>
    simp only [rx_step] at hs
    split at hs
    · obtain ⟨cc, h2, hs⟩ := rx_get_some hs
      split at hs
      · obtain ⟨h3, hs⟩ := rx_bif hs
        obtain ⟨h4, h5, v, h6, hs⟩ := rx_at_some hs
        exact rx_o_iaload C ok h2 (rx_beq h3) h4 h5 h6 (g0 hs)
      · cases hs
    · obtain ⟨h0, hs⟩ := rx_bif hs
      obtain ⟨l0, h2, hs⟩ := rx_get_some hs
      obtain ⟨h4, h5, v, h6, hs⟩ := rx_at_some hs
      exact rx_o_rload C ok (Nat.le_of_ble_eq_true h0) h2 h4 h5 h6 (g0 hs)
    · cases hs
  | baload =>
    simp only [rx_step] at hs
    split at hs
    · obtain ⟨cc, h2, hs⟩ := rx_get_some hs
      split at hs
      · obtain ⟨h3, hs⟩ := rx_bif hs
        obtain ⟨h4, h5, v, h6, hs⟩ := rx_at_some hs
        exact rx_o_baload C ok h2 (rx_beq h3) h4 h5 h6 (g0 hs)
      · cases hs
    · cases hs
  | laload =>
    simp only [rx_step] at hs
    split at hs
    · obtain ⟨cc, h2, hs⟩ := rx_get_some hs
      split at hs
      · obtain ⟨h3, hs⟩ := rx_bif hs
        obtain ⟨h4, h5, v, h6, hs⟩ := rx_at_some hs
        exact rx_o_laload C ok h2 (rx_beq h3) h4 h5 h6 (g0 hs)
      · cases hs
    · cases hs
  | aaload =>
    simp only [rx_step] at hs
    split at hs
    · obtain ⟨cc, h2, hs⟩ := rx_get_some hs
      split at hs
      · obtain ⟨h3, hs⟩ := rx_bif hs
        obtain ⟨h4, h5, v, h6, hs⟩ := rx_at_some hs
        exact rx_o_aaload C ok h2 (Nat.le_of_ble_eq_true h3) h4 h5 h6 (g0 hs)
      · cases hs
    · cases hs
  | iastore =>
    simp only [rx_step] at hs
    split at hs
    · obtain ⟨cc, h2, hs⟩ := rx_get_some hs
      split at hs
      · obtain ⟨h3, hs⟩ := rx_bif hs
        obtain ⟨hwr, h3⟩ := rx_and2 h3
        obtain ⟨h4, h5, h6, hs⟩ := rx_put_some hs
        obtain ⟨h7, hs⟩ := rx_set_some hs
        exact rx_o_iastore C hwr ok h2 (rx_beq h3) h4 h5 h6 (g0 hs)
      · cases hs
    · cases hs
  | bastore =>
    simp only [rx_step] at hs
    split at hs
    · obtain ⟨h8, hs⟩ := rx_bif hs
      obtain ⟨cc, h2, hs⟩ := rx_get_some hs
      split at hs
      · obtain ⟨h3, hs⟩ := rx_bif hs
        obtain ⟨hwr, h3⟩ := rx_and2 h3
        obtain ⟨h4, h5, h6, hs⟩ := rx_put_some hs
        obtain ⟨h7, hs⟩ := rx_set_some hs
        exact rx_o_bastore C hwr ok h8 h2 (rx_beq h3) h4 h5 h6 (g0 hs)
      · cases hs
    · cases hs
  | lastore =>
    simp only [rx_step] at hs
    split at hs
    · obtain ⟨cc, h2, hs⟩ := rx_get_some hs
      split at hs
      · obtain ⟨h3, hs⟩ := rx_bif hs
        obtain ⟨hwr, h3⟩ := rx_and2 h3
        obtain ⟨h4, h5, h6, hs⟩ := rx_put_some hs
        obtain ⟨h7, hs⟩ := rx_set_some hs
        exact rx_o_lastore C hwr ok h2 (rx_beq h3) h4 h5 h6 (g0 hs)
      · cases hs
    · cases hs
  | aastore =>
    simp only [rx_step] at hs
    split at hs
    · obtain ⟨dd, h1, hs⟩ := rx_get_some hs
      obtain ⟨cc, h2, hs⟩ := rx_get_some hs
      split at hs
      · obtain ⟨h3, hs⟩ := rx_bif hs
        obtain ⟨hwr, h3⟩ := rx_and2 h3
        obtain ⟨h4, h5, h6, hs⟩ := rx_put_some hs
        obtain ⟨h7, hs⟩ := rx_set_some hs
        exact rx_o_aastore C hwr ok h1 h2 (rx_beq h3) h4 h5 h6 (g0 hs)
      · cases hs
    · cases hs
  | arraylength =>
    simp only [rx_step] at hs
    split at hs
    · obtain ⟨h0, hs⟩ := rx_bif hs
      obtain ⟨l0, h2, hs⟩ := rx_get_some hs
      obtain ⟨h3, hs⟩ := rx_bif hs
      rw [rx_pI_eq] at hs
      exact rx_o_alen C ok (Nat.le_of_ble_eq_true h0) h2 (Nat.le_of_ble_eq_true h3) (g0 hs)
    · cases hs
  | new i =>
    simp only [rx_step] at hs
    cases h9 : (wr && (K.1 == 11)) with
    | false =>
      rw [h9] at hs
      simp only [cond_false] at hs
      obtain ⟨h1, hs⟩ := rx_bif hs
      obtain ⟨h1, h2⟩ := rx_and2 h1
      exact htr i rfl (rx_beq h1) (Nat.le_of_ble_eq_true h2) hs
    | true =>
    rw [h9] at hs
    simp only [cond_true] at hs
    obtain ⟨hwr, h9⟩ := rx_and2 h9
    have h1 := rx_beq h9
    rw [rx_app_eq] at hs
    obtain ⟨q, f1, f2⟩ := ok.2.2 h1
    obtain ⟨-, -, -, -, ft, ks, -, c6, -⟩ := rx_cl_ok _ q f1
    have e : rx_dfs K.2.1 = ks := by unfold rx_dfs; rw [c6]
    obtain ⟨h2, h3⟩ := hk _ _ _ _ _ _ hs
    simp only [e] at h2 h3
    exact rx_o_new C hwr ok h1 c6 (rx_dk3 _ _ c6) h2 h3
  | newarray t =>
    simp only [rx_step] at hs
    split at hs
    · obtain ⟨h1, hs⟩ := rx_bif hs
      obtain ⟨hwr, h1⟩ := rx_and2 h1
      obtain ⟨h1, h4⟩ := rx_and2 h1
      obtain ⟨h1, h3⟩ := rx_and2 h1
      obtain ⟨h1, h2⟩ := rx_and2 h1
      rw [rx_app_eq] at hs
      obtain ⟨h5, h6⟩ := hk _ _ _ _ _ _ hs
      refine rx_o_newarray C hwr ok ?_ h1 h2 h3 h5 h6
      cases t <;> first
        | exact Or.inl ⟨rfl, rx_beq h4⟩
        | exact Or.inr (Or.inl ⟨rfl, rx_beq h4⟩)
        | exact Or.inr (Or.inr ⟨rfl, rx_beq h4⟩)
        | (cases h4; done)
    · cases hs
  | anewarray i =>
    simp only [rx_step] at hs
    split at hs
    · obtain ⟨h1, hs⟩ := rx_bif hs
      obtain ⟨hwr, h1⟩ := rx_and2 h1
      obtain ⟨h1, h4⟩ := rx_and2 h1
      obtain ⟨h1, h3⟩ := rx_and2 h1
      obtain ⟨h1, h2⟩ := rx_and2 h1
      rw [rx_app_eq] at hs
      obtain ⟨h5, h6⟩ := hk _ _ _ _ _ _ hs
      exact rx_o_anewarray C hwr ok (rx_beq h4) h1 h2 h3 h5 h6
    · cases hs
  | invokevirtual i =>
    obtain ⟨h1, hs⟩ := rx_bif hs
    obtain ⟨x, r, h2, h3, hs⟩ := rx_pop_some hs
    obtain ⟨h4, hs⟩ := rx_bif hs
    rw [List.append_nil] at hs
    split at hs
    · rename_i a as he
      obtain ⟨cc, h5, hs⟩ := rx_get_some hs
      split at hs
      · obtain ⟨h6, hs⟩ := rx_bif hs
        have e2 : x = (.inr (.inr (.inl (some a))) :: as).reverse := by rw [← he, List.reverse_reverse]
        rw [he] at hs
        exact hV i a as r _ _ rfl (rx_beq h1) hs (by rw [← e2]; exact h2) (by rw [← h3, e2, List.length_reverse]; rfl) (Nat.le_of_ble_eq_true h4) h5 (rx_beq h6)
      · cases hs
    · cases hs
  | invokestatic i =>
    simp only [rx_step] at hs
    cases h9 : (K.1 == 6 || (K.1 == 8 || K.1 == 16)) with
    | true =>
      rw [h9] at hs
      simp only [cond_true] at hs
      obtain ⟨x, r, h2, h3, hs⟩ := rx_pop_some hs
      obtain ⟨h4, hs⟩ := rx_bif hs
      rw [List.append_nil] at hs
      exact hS i x.reverse r rfl (by simpa using h9) hs (by rw [List.reverse_reverse]; exact h2) (by rw [List.length_reverse]; exact h3) (Nat.le_of_ble_eq_true h4)
    | false =>
      rw [h9] at hs
      simp only [cond_false] at hs
      exact rx_o_math (st' := []) C ok hRm hs (fun st' q => hk _ _ _ _ _ _ q)
  | invokespecial i =>
    simp only [rx_step] at hs
    cases h9 : (K.1 == 10) with
    | true =>
      rw [h9] at hs
      simp only [cond_true] at hs
      split at hs
      · obtain ⟨h4, hs⟩ := rx_bif hs
        have h9 := rx_beq h9
        obtain ⟨-, f2, f3⟩ := ok.2.2.1 h9
        exact rx_o_objinit C ok h9 (Nat.le_of_ble_eq_true h4) (by rw [hRm.1]; exact f2) (by rw [hRm.2]; exact f3) hob (g0 hs)
      · cases hs
    | false =>
      rw [h9] at hs
      simp only [cond_false] at hs
      obtain ⟨h1, hs⟩ := rx_bif hs
      obtain ⟨x, r, h2, h3, hs⟩ := rx_pop_some hs
      obtain ⟨h4, hs⟩ := rx_bif hs
      rw [List.append_nil] at hs
      split at hs
      · rename_i a as he
        have e2 : x = (.inr (.inr (.inl (some a))) :: as).reverse := by rw [← he, List.reverse_reverse]
        rw [he] at hs
        exact hI i a as r rfl (by simpa using h1) hs (by rw [← e2]; exact h2) (by rw [← h3, e2, List.length_reverse]; rfl) (Nat.le_of_ble_eq_true h4)
      · cases hs
  | ireturn =>
    simp only [rx_step] at hs
    split at hs
    · obtain ⟨h1, hs⟩ := rx_bif hs
      exact hri _ rfl hs rfl (by simpa using h1)
    · cases hs
  | lreturn =>
    simp only [rx_step] at hs
    split at hs
    · exact hrl _ rfl hs rfl
    · cases hs
  | areturn =>
    simp only [rx_step] at hs
    split at hs
    · obtain ⟨h1, hs⟩ := rx_bif hs
      exact hra _ rfl hs rfl h1
    · cases hs
  | return_ =>
    simp only [rx_step] at hs
    split at hs
    · exact hrv rfl hs rfl
    · cases hs
  | _ => cases hs
