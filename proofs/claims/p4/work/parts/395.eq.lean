/-! is a run's end what was said? -/
def rx_eI (a b : Int) : Bool := match a, b with
  | .ofNat m, .ofNat n => Nat.beq m n
  | .negSucc m, .negSucc n => Nat.beq m n
  | _, _ => false
theorem rx_eI_ok {a b : Int} (h : rx_eI a b = true) : a = b := by
  cases a <;> cases b <;> simp only [rx_eI] at h
  · rw [Nat.eq_of_beq_eq_true h]
  · cases h
  · cases h
  · rw [Nat.eq_of_beq_eq_true h]
def rx_eP (a b : Int × Int) : Bool := rx_eI a.1 b.1 && rx_eI a.2 b.2
theorem rx_eP_ok {a b : Int × Int} (h : rx_eP a b = true) : a = b := by
  obtain ⟨h1, h2⟩ := rx_and2 h
  exact Prod.ext (rx_eI_ok h1) (rx_eI_ok h2)
def rx_eV (a b : rx_V) : Bool := match a, b with
  | .inl a, .inl b => rx_eP a b
  | .inr (.inl a), .inr (.inl b) => rx_eP a b
  | .inr (.inr (.inl none)), .inr (.inr (.inl none)) => true
  | .inr (.inr (.inl (some i))), .inr (.inr (.inl (some j))) => Nat.beq i j
  | .inr (.inr (.inr i)), .inr (.inr (.inr j)) => Nat.beq i j
  | _, _ => false
theorem rx_eV_ok {a b : rx_V} (h : rx_eV a b = true) : a = b := by
  unfold rx_eV at h
  split at h
  · rw [rx_eP_ok h]
  · rw [rx_eP_ok h]
  · rfl
  · rw [Nat.eq_of_beq_eq_true h]
  · rw [Nat.eq_of_beq_eq_true h]
  · cases h
noncomputable def rx_eL {α : Type} (f : α → α → Bool) (a : List α) : List α → Bool :=
  List.rec (motive := fun _ => List α → Bool) (fun b => List.rec (motive := fun _ => Bool) true (fun _ _ _ => false) b)
    (fun x _ ih b => List.rec (motive := fun _ => Bool) false (fun y s _ => f x y && ih s) b) a
theorem rx_eL_ok {α : Type} {f : α → α → Bool} (hf : ∀ {x y : α}, f x y = true → x = y) : ∀ {a b : List α}, rx_eL f a b = true → a = b := by
  intro a
  induction a with
  | nil =>
    intro b h
    cases b with
    | nil => rfl
    | cons y s => cases h
  | cons x t ih =>
    intro b h
    cases b with
    | nil => cases h
    | cons y s =>
      have h : (f x y && rx_eL f t s) = true := h
      obtain ⟨h1, h2⟩ := rx_and2 h
      rw [hf h1, ih h2]
noncomputable def rx_eC (a b : rx_C) : Bool := match a, b with
  | .inl (i, l), .inl (j, m) => Nat.beq i j && rx_eL rx_eV l m
  | .inr (i, l), .inr (j, m) => Nat.beq i j && rx_eL rx_eV l m
  | _, _ => false
theorem rx_eC_ok {a b : rx_C} (h : rx_eC a b = true) : a = b := by
  unfold rx_eC at h
  split at h
  · obtain ⟨h1, h2⟩ := rx_and2 h
    rw [Nat.eq_of_beq_eq_true h1, rx_eL_ok rx_eV_ok h2]
  · obtain ⟨h1, h2⟩ := rx_and2 h
    rw [Nat.eq_of_beq_eq_true h1, rx_eL_ok rx_eV_ok h2]
  · cases h
def rx_eO (a b : Option rx_V) : Bool := match a, b with
  | none, none => true
  | some a, some b => rx_eV a b
  | _, _ => false
theorem rx_eO_ok {a b : Option rx_V} (h : rx_eO a b = true) : a = b := by
  unfold rx_eO at h
  split at h
  · rfl
  · rw [rx_eV_ok h]
  · cases h
noncomputable def rx_is (r : Option rx_R) (v : Option rx_V) (h : rx_H) (c s : Nat) : Bool := match r with
  | none => false
  | some (v', h', c', s') => rx_eO v' v && (rx_eL rx_eC h' h && (Nat.beq c' c && Nat.beq s' s))
theorem rx_is_ok {r : Option rx_R} {v : Option rx_V} {h : rx_H} {c s : Nat} (hr : rx_is r v h c s = true) : r = some (v, h, c, s) := by
  unfold rx_is at hr
  split at hr
  · cases hr
  · obtain ⟨h1, hr⟩ := rx_and2 hr
    obtain ⟨h2, hr⟩ := rx_and2 hr
    obtain ⟨h3, h4⟩ := rx_and2 hr
    rw [rx_eO_ok h1, rx_eL_ok rx_eC_ok h2, Nat.eq_of_beq_eq_true h3, Nat.eq_of_beq_eq_true h4]
