/-! whatever holds behind every way out of an instruction holds of it -/
theorem rx_math_some {β : Type} {t : Nat} {st : List rx_V} {k : List rx_V → Option β} {r0 : β} (hs : rx_math t st k = some r0) : ∃ st', k st' = some r0 := by
  unfold rx_math at hs
  split at hs
  · obtain ⟨-, hs⟩ := rx_bif hs
    simp only [rx_pI_eq] at hs
    cases h1 : (t == 20) with
    | true => rw [h1] at hs; exact ⟨_, hs⟩
    | false =>
      rw [h1] at hs
      simp only [cond_false] at hs
      cases h2 : (t == 21) with
      | true => rw [h2] at hs; exact ⟨_, hs⟩
      | false =>
        rw [h2] at hs
        simp only [cond_false] at hs
        cases h3 : (t == 22) with
        | true => rw [h3] at hs; exact ⟨_, hs⟩
        | false => rw [h3] at hs; cases hs
  · obtain ⟨-, hs⟩ := rx_bif hs
    simp only [rx_pL_eq] at hs
    cases h1 : (t == 23) with
    | true => rw [h1] at hs; exact ⟨_, hs⟩
    | false =>
      rw [h1] at hs
      simp only [cond_false] at hs
      cases h2 : (t == 24) with
      | true => rw [h2] at hs; exact ⟨_, hs⟩
      | false => rw [h2] at hs; cases hs
  · obtain ⟨-, hs⟩ := rx_bif hs
    rw [rx_pI_eq] at hs
    exact ⟨_, hs⟩
  · cases hs
set_option maxHeartbeats 4000000 in
theorem rx_step_any {wr : Bool} {ro : List (List rx_V)} {pc : Nat} {row : rx_Row} {h : rx_H} {L : rx_F} {st : List rx_V} {β : Type} {r0 : β} {k : Nat → rx_H → rx_F → List rx_V → Nat → Nat → Option β} {call : Nat → List rx_V → List rx_V → Option β} {ret : Option rx_V → Option β} {thr : Nat → Option β} {P : Prop}
    (hk : ∀ pc' h' L' st' dc ds, k pc' h' L' st' dc ds = some r0 → P) (hc : ∀ j as r, call j as r = some r0 → P) (hr : ∀ v, ret v = some r0 → P) (htr : ∀ c, thr c = some r0 → P) (hs : rx_step wr ro rx_dfs row pc h L st k call ret thr = some r0) : P := by
  obtain ⟨ins, np, tg, K⟩ := row
  cases ins with
  | iconst n => obtain ⟨h1, hs⟩ := rx_bif hs; obtain ⟨h1, h2⟩ := rx_and2 h1; rw [rx_pI_eq] at hs; exact hk _ _ _ _ _ _ hs
  | bipush n => obtain ⟨h1, hs⟩ := rx_bif hs; obtain ⟨h1, h2⟩ := rx_and2 h1; rw [rx_pI_eq] at hs; exact hk _ _ _ _ _ _ hs
  | sipush n => obtain ⟨h1, hs⟩ := rx_bif hs; obtain ⟨h1, h2⟩ := rx_and2 h1; rw [rx_pI_eq] at hs; exact hk _ _ _ _ _ _ hs
  | lconst n => simp only [rx_step, rx_pL_eq] at hs; exact hk _ _ _ _ _ _ hs
  | aconst_null => exact hk _ _ _ _ _ _ hs
  | ldc i => obtain ⟨h1, hs⟩ := rx_bif hs; rw [rx_pI_eq] at hs; exact hk _ _ _ _ _ _ hs
  | ldc_w i => obtain ⟨h1, hs⟩ := rx_bif hs; rw [rx_pI_eq] at hs; exact hk _ _ _ _ _ _ hs
  | ldc2_w i => obtain ⟨h1, hs⟩ := rx_bif hs; rw [rx_pL_eq] at hs; exact hk _ _ _ _ _ _ hs
  | iload_n i => simp only [rx_step] at hs; obtain ⟨q, h1, h2, hs⟩ := rx_ldI_some hs; exact hk _ _ _ _ _ _ hs
  | iload i => simp only [rx_step] at hs; obtain ⟨q, h1, h2, hs⟩ := rx_ldI_some hs; exact hk _ _ _ _ _ _ hs
  | lload_n i => simp only [rx_step] at hs; obtain ⟨q, h1, hs⟩ := rx_ldL_some hs; exact hk _ _ _ _ _ _ hs
  | lload i => simp only [rx_step] at hs; obtain ⟨q, h1, hs⟩ := rx_ldL_some hs; exact hk _ _ _ _ _ _ hs
  | aload_n i => simp only [rx_step] at hs; obtain ⟨q, h1, h2, hs⟩ := rx_ldA_some hs; exact hk _ _ _ _ _ _ hs
  | aload i => simp only [rx_step] at hs; obtain ⟨q, h1, h2, hs⟩ := rx_ldA_some hs; exact hk _ _ _ _ _ _ hs
  | istore_n i => obtain ⟨q, r, rfl, h1, h2, hs⟩ := rx_stI_some hs; exact hk _ _ _ _ _ _ hs
  | istore i => obtain ⟨q, r, rfl, h1, h2, hs⟩ := rx_stI_some hs; exact hk _ _ _ _ _ _ hs
  | lstore_n i => obtain ⟨q, r, rfl, h1, h2, hs⟩ := rx_stL_some hs; exact hk _ _ _ _ _ _ hs
  | lstore i => obtain ⟨q, r, rfl, h1, h2, hs⟩ := rx_stL_some hs; exact hk _ _ _ _ _ _ hs
  | astore_n i => obtain ⟨q, r, rfl, h0, h1, h2, hs⟩ := rx_stA_some hs; exact hk _ _ _ _ _ _ hs
  | astore i => obtain ⟨q, r, rfl, h0, h1, h2, hs⟩ := rx_stA_some hs; exact hk _ _ _ _ _ _ hs
  | iinc i n =>
    obtain ⟨h1, hs⟩ := rx_bif hs
    obtain ⟨h1, h3⟩ := rx_and2 h1
    obtain ⟨h1, h2⟩ := rx_and2 h1
    obtain ⟨o, h4, hs⟩ := rx_get_some hs
    split at hs
    · rw [rx_pI_eq] at hs
      obtain ⟨h5, hs⟩ := rx_set_some hs
      exact hk _ _ _ _ _ _ hs
    · cases hs
  | iadd => simp only [rx_step] at hs; obtain ⟨a, b, r, rfl, ht⟩ := rx_bin_some hs; exact hk _ _ _ _ _ _ ht
  | isub => simp only [rx_step] at hs; obtain ⟨a, b, r, rfl, ht⟩ := rx_bin_some hs; exact hk _ _ _ _ _ _ ht
  | imul => simp only [rx_step] at hs; obtain ⟨a, b, r, rfl, ht⟩ := rx_bin_some hs; exact hk _ _ _ _ _ _ ht
  | iand =>
    simp only [rx_step] at hs
    split at hs
    · rcases rx_bif2 hs with ⟨h1, hs⟩ | ⟨-, hs⟩
      · rw [rx_fN_eq] at hs
        exact hk _ _ _ _ _ _ hs
      · obtain ⟨h1, hs⟩ := rx_bif hs
        rw [rx_fN_eq] at hs
        exact hk _ _ _ _ _ _ hs
    · obtain ⟨a, b, r, rfl, ht⟩ := rx_bin_some hs; exact hk _ _ _ _ _ _ ht
  | ior => simp only [rx_step] at hs; obtain ⟨a, b, r, rfl, ht⟩ := rx_bin_some hs; exact hk _ _ _ _ _ _ ht
  | ixor => simp only [rx_step] at hs; obtain ⟨a, b, r, rfl, ht⟩ := rx_bin_some hs; exact hk _ _ _ _ _ _ ht
  | ishl => simp only [rx_step] at hs; obtain ⟨a, b, r, rfl, ht⟩ := rx_bin_some hs; exact hk _ _ _ _ _ _ ht
  | ishr =>
    simp only [rx_step] at hs
    split at hs
    · obtain ⟨h1, hs⟩ := rx_bif hs
      rw [rx_fN_eq] at hs
      exact hk _ _ _ _ _ _ hs
    · obtain ⟨a, b, r, rfl, ht⟩ := rx_bin_some hs; exact hk _ _ _ _ _ _ ht
  | idiv => simp only [rx_step] at hs; obtain ⟨a, b, r, rfl, h1, ht⟩ := rx_binD_some hs; exact hk _ _ _ _ _ _ ht
  | irem => simp only [rx_step] at hs; obtain ⟨a, b, r, rfl, h1, ht⟩ := rx_binD_some hs; exact hk _ _ _ _ _ _ ht
  | ladd => simp only [rx_step] at hs; obtain ⟨a, b, r, rfl, ht⟩ := rx_binL_some hs; exact hk _ _ _ _ _ _ ht
  | lsub => simp only [rx_step] at hs; obtain ⟨a, b, r, rfl, ht⟩ := rx_binL_some hs; exact hk _ _ _ _ _ _ ht
  | lmul => simp only [rx_step] at hs; obtain ⟨a, b, r, rfl, ht⟩ := rx_binL_some hs; exact hk _ _ _ _ _ _ ht
  | ineg =>
    simp only [rx_step] at hs
    split at hs
    · rw [rx_pI_eq] at hs; exact hk _ _ _ _ _ _ hs
    · cases hs
  | ldiv =>
    simp only [rx_step] at hs
    split at hs
    · obtain ⟨h1, hs⟩ := rx_bif hs
      rw [rx_pL_eq] at hs; exact hk _ _ _ _ _ _ hs
    · cases hs
  | lcmp =>
    simp only [rx_step] at hs
    split at hs
    · rw [rx_pI_eq] at hs; exact hk _ _ _ _ _ _ hs
    · cases hs
  | i2l =>
    simp only [rx_step] at hs
    split at hs
    · exact hk _ _ _ _ _ _ hs
    · cases hs
  | l2i =>
    simp only [rx_step] at hs
    split at hs
    · rw [rx_pI_eq] at hs; exact hk _ _ _ _ _ _ hs
    · cases hs
  | goto o => exact hk _ _ _ _ _ _ hs
  | ifCond cd o =>
    simp only [rx_step] at hs
    split at hs
    · rename_i a r
      cases hc : rx_cmp cd a (0, 0) with
      | none => rw [hc] at hs; cases hs
      | some t =>
        rw [hc] at hs
        cases t <;> exact hk _ _ _ _ _ _ hs
    · cases hs
  | if_icmp cd o =>
    simp only [rx_step] at hs
    split at hs
    · rename_i b a r
      cases hc : rx_cmp cd a b with
      | none => rw [hc] at hs; cases hs
      | some t =>
        rw [hc] at hs
        cases t <;> exact hk _ _ _ _ _ _ hs
    · cases hs
  | ifnull o =>
    simp only [rx_step] at hs
    split at hs
    · exact hk _ _ _ _ _ _ hs
    · exact hk _ _ _ _ _ _ hs
    · cases hs
  | ifnonnull o =>
    simp only [rx_step] at hs
    split at hs
    · exact hk _ _ _ _ _ _ hs
    · exact hk _ _ _ _ _ _ hs
    · cases hs
  | tableswitch d lo hi offs =>
    simp only [rx_step] at hs
    split at hs
    · split at hs
      · rename_i o ho
        obtain ⟨h1, hs⟩ := rx_bif hs
        exact hk _ _ _ _ _ _ hs
      · cases hs
    · cases hs
  | dup =>
    simp only [rx_step] at hs
    split at hs
    · obtain ⟨h1, hs⟩ := rx_bif hs
      exact hk _ _ _ _ _ _ hs
    · cases hs
  | dup2 =>
    simp only [rx_step] at hs
    split at hs
    · obtain ⟨h1, hs⟩ := rx_bif hs
      obtain ⟨h1, h2⟩ := rx_and2 h1
      exact hk _ _ _ _ _ _ hs
    · cases hs
  | pop =>
    simp only [rx_step] at hs
    split at hs
    · obtain ⟨h1, hs⟩ := rx_bif hs
      exact hk _ _ _ _ _ _ hs
    · cases hs
  | getfield i =>
    simp only [rx_step] at hs
    split at hs
    · obtain ⟨h1, hs⟩ := rx_bif hs
      obtain ⟨cc, h2, hs⟩ := rx_get_some hs
      split at hs
      · obtain ⟨h3, hs⟩ := rx_bif hs
        obtain ⟨v, h4, hs⟩ := rx_get_some hs
        exact hk _ _ _ _ _ _ hs
      · cases hs
    · cases hs
  | putfield i =>
    simp only [rx_step] at hs
    split at hs
    · obtain ⟨h1, hs⟩ := rx_bif hs
      obtain ⟨hwr, h1⟩ := rx_and2 h1
      obtain ⟨h1, h5⟩ := rx_and2 h1
      obtain ⟨cc, h2, hs⟩ := rx_get_some hs
      split at hs
      · obtain ⟨h3, hs⟩ := rx_bif hs
        obtain ⟨h4, hs⟩ := rx_set_some hs
        obtain ⟨h6, hs⟩ := rx_set_some hs
        exact hk _ _ _ _ _ _ hs
      · cases hs
    · cases hs
  | getstatic i => obtain ⟨h1, hs⟩ := rx_bif hs; exact hk _ _ _ _ _ _ hs
  | iaload =>
    simp only [rx_step] at hs
    split at hs
    · obtain ⟨cc, h2, hs⟩ := rx_get_some hs
      split at hs
      · obtain ⟨h3, hs⟩ := rx_bif hs
        obtain ⟨h4, h5, v, h6, hs⟩ := rx_at_some hs
        exact hk _ _ _ _ _ _ hs
      · cases hs
    · obtain ⟨h0, hs⟩ := rx_bif hs
      obtain ⟨l0, h2, hs⟩ := rx_get_some hs
      obtain ⟨h4, h5, v, h6, hs⟩ := rx_at_some hs
      exact hk _ _ _ _ _ _ hs
    · cases hs
  | baload =>
    simp only [rx_step] at hs
    split at hs
    · obtain ⟨cc, h2, hs⟩ := rx_get_some hs
      split at hs
      · obtain ⟨h3, hs⟩ := rx_bif hs
        obtain ⟨h4, h5, v, h6, hs⟩ := rx_at_some hs
        exact hk _ _ _ _ _ _ hs
      · cases hs
    · cases hs
  | laload =>
    simp only [rx_step] at hs
    split at hs
    · obtain ⟨cc, h2, hs⟩ := rx_get_some hs
      split at hs
      · obtain ⟨h3, hs⟩ := rx_bif hs
        obtain ⟨h4, h5, v, h6, hs⟩ := rx_at_some hs
        exact hk _ _ _ _ _ _ hs
      · cases hs
    · cases hs
  | aaload =>
    simp only [rx_step] at hs
    split at hs
    · obtain ⟨cc, h2, hs⟩ := rx_get_some hs
      split at hs
      · obtain ⟨h3, hs⟩ := rx_bif hs
        obtain ⟨h4, h5, v, h6, hs⟩ := rx_at_some hs
        exact hk _ _ _ _ _ _ hs
      · cases hs
    · cases hs
  | iastore =>
    simp only [rx_step] at hs
    split at hs
    · obtain ⟨cc, h2, hs⟩ := rx_get_some hs
      split at hs
      · obtain ⟨h3, hs⟩ := rx_bif hs
        obtain ⟨hwr, h3⟩ := rx_and2 h3
        obtain ⟨h4, h5, h6, hs⟩ := rx_put_some hs
        obtain ⟨h7, hs⟩ := rx_set_some hs
        exact hk _ _ _ _ _ _ hs
      · cases hs
    · cases hs
  | bastore =>
    simp only [rx_step] at hs
    split at hs
    · obtain ⟨h8, hs⟩ := rx_bif hs
      obtain ⟨cc, h2, hs⟩ := rx_get_some hs
      split at hs
      · obtain ⟨h3, hs⟩ := rx_bif hs
        obtain ⟨hwr, h3⟩ := rx_and2 h3
        obtain ⟨h4, h5, h6, hs⟩ := rx_put_some hs
        obtain ⟨h7, hs⟩ := rx_set_some hs
        exact hk _ _ _ _ _ _ hs
      · cases hs
    · cases hs
  | lastore =>
    simp only [rx_step] at hs
    split at hs
    · obtain ⟨cc, h2, hs⟩ := rx_get_some hs
      split at hs
      · obtain ⟨h3, hs⟩ := rx_bif hs
        obtain ⟨hwr, h3⟩ := rx_and2 h3
        obtain ⟨h4, h5, h6, hs⟩ := rx_put_some hs
        obtain ⟨h7, hs⟩ := rx_set_some hs
        exact hk _ _ _ _ _ _ hs
      · cases hs
    · cases hs
  | aastore =>
    simp only [rx_step] at hs
    split at hs
    · obtain ⟨dd, h1, hs⟩ := rx_get_some hs
      obtain ⟨cc, h2, hs⟩ := rx_get_some hs
      split at hs
      · obtain ⟨h3, hs⟩ := rx_bif hs
        obtain ⟨hwr, h3⟩ := rx_and2 h3
        obtain ⟨h4, h5, h6, hs⟩ := rx_put_some hs
        obtain ⟨h7, hs⟩ := rx_set_some hs
        exact hk _ _ _ _ _ _ hs
      · cases hs
    · cases hs
  | arraylength =>
    simp only [rx_step] at hs
    split at hs
    · obtain ⟨h0, hs⟩ := rx_bif hs
      obtain ⟨l0, h2, hs⟩ := rx_get_some hs
      obtain ⟨h3, hs⟩ := rx_bif hs
      rw [rx_pI_eq] at hs
      exact hk _ _ _ _ _ _ hs
    · cases hs
  | new i =>
    simp only [rx_step] at hs
    cases h9 : (wr && (K.1 == 11)) with
    | false =>
      rw [h9] at hs
      simp only [cond_false] at hs
      obtain ⟨h1, hs⟩ := rx_bif hs
      exact htr _ hs
    | true =>
    rw [h9] at hs
    simp only [cond_true] at hs
    rw [rx_app_eq] at hs
    exact hk _ _ _ _ _ _ hs
  | newarray t =>
    simp only [rx_step] at hs
    split at hs
    · obtain ⟨h1, hs⟩ := rx_bif hs
      obtain ⟨hwr, h1⟩ := rx_and2 h1
      obtain ⟨h1, h4⟩ := rx_and2 h1
      obtain ⟨h1, h3⟩ := rx_and2 h1
      obtain ⟨h1, h2⟩ := rx_and2 h1
      rw [rx_app_eq] at hs
      exact hk _ _ _ _ _ _ hs
    · cases hs
  | anewarray i =>
    simp only [rx_step] at hs
    split at hs
    · obtain ⟨h1, hs⟩ := rx_bif hs
      obtain ⟨hwr, h1⟩ := rx_and2 h1
      obtain ⟨h1, h4⟩ := rx_and2 h1
      obtain ⟨h1, h3⟩ := rx_and2 h1
      obtain ⟨h1, h2⟩ := rx_and2 h1
      rw [rx_app_eq] at hs
      exact hk _ _ _ _ _ _ hs
    · cases hs
  | invokevirtual i =>
    obtain ⟨h1, hs⟩ := rx_bif hs
    obtain ⟨x, r, h2, h3, hs⟩ := rx_pop_some hs
    obtain ⟨h4, hs⟩ := rx_bif hs
    rw [List.append_nil] at hs
    split at hs
    · rename_i a as he
      obtain ⟨cc, h5, hs⟩ := rx_get_some hs
      split at hs
      · obtain ⟨h6, hs⟩ := rx_bif hs
        have e2 : x = (.inr (.inr (.inl (some a))) :: as).reverse := by rw [← he, List.reverse_reverse]
        rw [he] at hs
        exact hc _ _ _ hs
      · cases hs
    · cases hs
  | invokestatic i =>
    simp only [rx_step] at hs
    cases h9 : (K.1 == 6 || (K.1 == 8 || K.1 == 16)) with
    | true =>
      rw [h9] at hs
      simp only [cond_true] at hs
      obtain ⟨x, r, h2, h3, hs⟩ := rx_pop_some hs
      obtain ⟨h4, hs⟩ := rx_bif hs
      rw [List.append_nil] at hs
      exact hc _ _ _ hs
    | false =>
      rw [h9] at hs
      simp only [cond_false] at hs
      obtain ⟨st', q⟩ := rx_math_some hs
      exact hk _ _ _ _ _ _ q
  | invokespecial i =>
    simp only [rx_step] at hs
    cases h9 : (K.1 == 10) with
    | true =>
      rw [h9] at hs
      simp only [cond_true] at hs
      split at hs
      · obtain ⟨h4, hs⟩ := rx_bif hs
        exact hk _ _ _ _ _ _ hs
      · cases hs
    | false =>
      rw [h9] at hs
      simp only [cond_false] at hs
      obtain ⟨h1, hs⟩ := rx_bif hs
      obtain ⟨x, r, h2, h3, hs⟩ := rx_pop_some hs
      obtain ⟨h4, hs⟩ := rx_bif hs
      rw [List.append_nil] at hs
      split at hs
      · rename_i a as he
        have e2 : x = (.inr (.inr (.inl (some a))) :: as).reverse := by rw [← he, List.reverse_reverse]
        rw [he] at hs
        exact hc _ _ _ hs
      · cases hs
  | ireturn =>
    simp only [rx_step] at hs
    split at hs
    · obtain ⟨h1, hs⟩ := rx_bif hs
      exact hr _ hs
    · cases hs
  | lreturn =>
    simp only [rx_step] at hs
    split at hs
    · exact hr _ hs
    · cases hs
  | areturn =>
    simp only [rx_step] at hs
    split at hs
    · obtain ⟨h1, hs⟩ := rx_bif hs
      exact hr _ hs
    · cases hs
  | return_ =>
    simp only [rx_step] at hs
    split at hs
    · exact hr _ hs
    · cases hs
  | _ => cases hs
