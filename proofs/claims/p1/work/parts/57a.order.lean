/-! the law: order, piece by piece -/
noncomputable def rx_rng (a n : Nat) : Bool := Nat.rec (motive := fun _ => Bool) true (fun w ih => ih && (rx_fN (200000 + (a + w)) fun z => rx_chkL [.inr (.inr (.inr 400001)), .inr (.inr (.inr z)), .inl rx_top, .inl rx_top, .inl rx_top])) n
theorem rx_rng_ok {a : Nat} : ∀ {n w : Nat}, rx_rng a n = true → a ≤ w → w < a + n → (rx_fN (200000 + w) fun z => rx_chkL [.inr (.inr (.inr 400001)), .inr (.inr (.inr z)), .inl rx_top, .inl rx_top, .inl rx_top]) = true := by
  intro n
  induction n with
  | zero => intro w _ h1 h2; omega
  | succ n ih =>
    intro w h h1 h2
    have h : (rx_rng a n && (rx_fN (200000 + (a + n)) fun z => rx_chkL [.inr (.inr (.inr 400001)), .inr (.inr (.inr z)), .inl rx_top, .inl rx_top, .inl rx_top])) = true := h
    obtain ⟨g1, g2⟩ := rx_and2 h
    by_cases e : w = a + n
    · subst e; exact g2
    · exact ih g1 h1 (by omega)
theorem rx_allw_of : ∀ {n : Nat}, (∀ w, w < n → (rx_fN (200000 + w) fun z => rx_chkL [.inr (.inr (.inr 400001)), .inr (.inr (.inr z)), .inl rx_top, .inl rx_top, .inl rx_top]) = true) → rx_allw n = true := by
  intro n
  induction n with
  | zero => intro _; rfl
  | succ n ih =>
    intro h
    have e : rx_allw (n + 1) = (rx_allw n && (rx_fN (200000 + n) fun z => rx_chkL [.inr (.inr (.inr 400001)), .inr (.inr (.inr z)), .inl rx_top, .inl rx_top, .inl rx_top])) := rfl
    rw [e, ih (fun w hw => h w (by omega)), h n (by omega)]
    rfl
set_option maxRecDepth 100000 in
theorem rx_ord0 : rx_rng 0 16 = true := by decide +kernel
set_option maxRecDepth 100000 in
theorem rx_ord1 : rx_rng 16 16 = true := by decide +kernel
set_option maxRecDepth 100000 in
theorem rx_ord2 : rx_rng 32 16 = true := by decide +kernel
set_option maxRecDepth 100000 in
theorem rx_ord3 : rx_rng 48 16 = true := by decide +kernel
