/-! THE LAW's RUNS -/
def rx_tru (r : Option rx_R) : Bool := match r with
  | some (some (.inl q), _, mc, ms) => rx_eP q (1, 1) && (Nat.ble mc 600002 && Nat.ble ms 7302232)
  | _ => false
theorem rx_tru_ok {r : Option rx_R} (h : rx_tru r = true) : ∃ h' mc ms, r = some (some (.inl (1, 1)), h', mc, ms) ∧ mc ≤ 600002 ∧ ms ≤ 7302232 := by
  match r, h with
  | some (some (.inl q), h', mc, ms), h =>
    have h : (rx_eP q (1, 1) && (Nat.ble mc 600002 && Nat.ble ms 7302232)) = true := h
    obtain ⟨h1, h2⟩ := rx_and2 h
    obtain ⟨h3, h4⟩ := rx_and2 h2
    rw [rx_eP_ok h1]
    exact ⟨h', mc, ms, rfl, Nat.le_of_ble_eq_true h3, Nat.le_of_ble_eq_true h4⟩
noncomputable def rx_chkL (l : List rx_V) : Bool := rx_fl (rx_ro ++ [l]) fun ro => rx_fl (rx_ini [.inr (.inr (.inr 4))] 7) fun L0 => rx_tru (rx_ex true rx_xM (rx_orL ro 2000) ro 2000 false rx_tbL7 0 [] L0 [] 0 0)
theorem rx_chkL_ok {l : List rx_V} (h : rx_chkL l = true) : ∃ h' mc ms, rx_ex true rx_xM (rx_orL (rx_ro ++ [l]) 2000) (rx_ro ++ [l]) 2000 false rx_tbL7 0 [] (rx_ini [.inr (.inr (.inr 4))] 7) [] 0 0 = some (some (.inl (1, 1)), h', mc, ms) ∧ mc ≤ 600002 ∧ ms ≤ 7302232 := by
  unfold rx_chkL at h
  rw [rx_fl_eq, rx_fl_eq] at h
  exact rx_tru_ok h
noncomputable def rx_cov (l : List (Int × Int)) : Int → Bool :=
  List.rec (motive := fun _ => Int → Bool) (fun lo => rx_le 2147483648 lo) (fun q _ ih lo => rx_le q.1 lo && ih (q.2 + 1)) l
theorem rx_cov_ok : ∀ {l : List (Int × Int)} {lo x : Int}, rx_cov l lo = true → lo ≤ x → x ≤ 2147483647 → ∃ q ∈ l, rx_has q x := by
  intro l
  induction l with
  | nil =>
    intro lo x h h1 h2
    have := rx_le_t (show rx_le 2147483648 lo = true from h)
    omega
  | cons q t ih =>
    intro lo x h h1 h2
    have h : (rx_le q.1 lo && rx_cov t (q.2 + 1)) = true := h
    obtain ⟨h3, h4⟩ := rx_and2 h
    have h3 := rx_le_t h3
    by_cases hx : x ≤ q.2
    · exact ⟨q, List.mem_cons_self, by omega, hx⟩
    · obtain ⟨q', g1, g2⟩ := ih h4 (show q.2 + 1 ≤ x by omega) h2
      exact ⟨q', List.mem_cons_of_mem _ g1, g2⟩
noncomputable def rx_all4 (c : Nat) (a b d e : List (Int × Int)) : Bool := a.all fun q1 => b.all fun q2 => d.all fun q3 => e.all fun q4 => rx_fN (400000 + c) fun z => rx_chkL [.inr (.inr (.inr z)), .inl q1, .inl q2, .inl q3, .inl q4]
def rx_is5 (c : Nat) (x : Int32) : Prop := (x &&& 31).toInt = (c : Int) ∧ c < 32
theorem rx_s5 {x : Int32} {c : Nat} (h : rx_is5 c x) : rx_G [] [] (.inr (.inr (.inr (400000 + c)))) (.int x) := by
  obtain ⟨h1, h2⟩ := h
  refine Or.inr ⟨by omega, x, rfl, Or.inr (Or.inr ⟨by omega, by omega, ?_⟩)⟩
  rw [h1]
  omega
/-- lists of five, place by place -/
def rx_five (l : List rx_V) (xs : Nat → Int32) : Prop := rx_chkL l = true ∧ ∀ (t : Nat) (v : rx_V), l[t]? = some v → rx_G [] [] v (.int (xs t))
theorem rx_op4 {c : Nat} {a b d e : List (Int × Int)} (h : rx_all4 c a b d e = true) (ha : rx_cov a (-2147483648) = true) (hb : rx_cov b (-2147483648) = true) (hd : rx_cov d (-2147483648) = true) (he : rx_cov e (-2147483648) = true) {xs : Nat → Int32} (h0 : rx_is5 c (xs 0)) : ∃ l, l.length = 5 ∧ rx_five l xs := by
  obtain ⟨q1, m1, g1⟩ := rx_cov_ok ha (rx_r32 (xs 1)).1 (rx_r32 (xs 1)).2
  obtain ⟨q2, m2, g2⟩ := rx_cov_ok hb (rx_r32 (xs 2)).1 (rx_r32 (xs 2)).2
  obtain ⟨q3, m3, g3⟩ := rx_cov_ok hd (rx_r32 (xs 3)).1 (rx_r32 (xs 3)).2
  obtain ⟨q4, m4, g4⟩ := rx_cov_ok he (rx_r32 (xs 4)).1 (rx_r32 (xs 4)).2
  have k1 := List.all_eq_true.mp h q1 m1
  have k2 := List.all_eq_true.mp k1 q2 m2
  have k3 := List.all_eq_true.mp k2 q3 m3
  have k4 := List.all_eq_true.mp k3 q4 m4
  rw [rx_fN_eq] at k4
  refine ⟨_, rfl, k4, fun t v hv => ?_⟩
  match t, hv with
  | 0, hv => cases hv; exact rx_s5 h0
  | 1, hv => cases hv; exact ⟨_, rfl, g1⟩
  | 2, hv => cases hv; exact ⟨_, rfl, g2⟩
  | 3, hv => cases hv; exact ⟨_, rfl, g3⟩
  | 4, hv => cases hv; exact ⟨_, rfl, g4⟩
  | _ + 5, hv => cases hv
/-- a known digit or the lowest bits -/
theorem rx_small (x y : Int32) {k : Nat} (hy : y.toBitVec.toNat = k) (hk : k < 2147483648) : 0 ≤ (x &&& y).toInt ∧ (x &&& y).toInt ≤ (k : Int) := by
  have e : (x &&& y).toInt = ((x.toBitVec.toNat &&& k : Nat) : Int) := by
    show ((x &&& y).toBitVec).toInt = _
    rw [Int32.toBitVec_and]
    have hl : (x.toBitVec &&& y.toBitVec).toNat ≤ k := by rw [BitVec.toNat_and, hy]; exact Nat.and_le_right
    rw [BitVec.toInt_eq_toNat_of_lt (by omega), BitVec.toNat_and, hy]
  have : x.toBitVec.toNat &&& k ≤ k := Nat.and_le_right
  omega
noncomputable def rx_allw (n : Nat) : Bool := Nat.rec (motive := fun _ => Bool) true (fun w ih => ih && (rx_fN (200000 + w) fun z => rx_chkL [.inr (.inr (.inr 400001)), .inr (.inr (.inr z)), .inl rx_top, .inl rx_top, .inl rx_top])) n
theorem rx_allw_ok : ∀ {n w : Nat}, rx_allw n = true → w < n → rx_chkL [.inr (.inr (.inr 400001)), .inr (.inr (.inr (200000 + w))), .inl rx_top, .inl rx_top, .inl rx_top] = true := by
  intro n
  induction n with
  | zero => intro w _ h; omega
  | succ n ih =>
    intro w h hw
    have h : (rx_allw n && (rx_fN (200000 + n) fun z => rx_chkL [.inr (.inr (.inr 400001)), .inr (.inr (.inr z)), .inl rx_top, .inl rx_top, .inl rx_top])) = true := h
    obtain ⟨h1, h2⟩ := rx_and2 h
    by_cases e : w = n
    · subst e; rw [rx_fN_eq] at h2; exact h2
    · exact ih h1 (by omega)
theorem rx_opw (h : rx_allw 256 = true) {xs : Nat → Int32} (h0 : rx_is5 1 (xs 0)) : ∃ l, l.length = 5 ∧ rx_five l xs := by
  have dg : ∀ m : Nat, ∃ d : Nat, d < 4 ∧ ((xs 1 >>> (Int32.ofInt ((2 * m : Nat) : Int) &&& 31)) &&& 3).toInt = (d : Int) := by
    intro m
    obtain ⟨h1, h2⟩ := rx_small (xs 1 >>> (Int32.ofInt ((2 * m : Nat) : Int) &&& 31)) 3 (k := 3) rfl (by decide)
    exact ⟨((xs 1 >>> (Int32.ofInt ((2 * m : Nat) : Int) &&& 31)) &&& 3).toInt.toNat, by omega, by omega⟩
  obtain ⟨d0, l0, e0⟩ := dg 0
  obtain ⟨d1, l1, e1⟩ := dg 1
  obtain ⟨d2, l2, e2⟩ := dg 2
  obtain ⟨d3, l3, e3⟩ := dg 3
  refine ⟨[.inr (.inr (.inr 400001)), .inr (.inr (.inr (200000 + (d0 + 4 * d1 + 16 * d2 + 64 * d3)))), .inl rx_top, .inl rx_top, .inl rx_top], rfl, rx_allw_ok h (by omega), fun t v hv => ?_⟩
  match t, hv with
  | 0, hv => cases hv; exact rx_s5 h0
  | 1, hv =>
    cases hv
    refine Or.inr ⟨by omega, _, rfl, Or.inl ⟨by omega, by omega, fun m hm => ?_⟩⟩
    match m, hm with
    | 0, _ => rw [e0]; unfold rx_dg; omega
    | 1, _ => rw [e1]; unfold rx_dg; omega
    | 2, _ => rw [e2]; unfold rx_dg; omega
    | 3, _ => rw [e3]; unfold rx_dg; omega
    | _ + 4, hm => omega
  | 2, hv => cases hv; exact ⟨_, rfl, rx_r32 _⟩
  | 3, hv => cases hv; exact ⟨_, rfl, rx_r32 _⟩
  | 4, hv => cases hv; exact ⟨_, rfl, rx_r32 _⟩
  | _ + 5, hv => cases hv
