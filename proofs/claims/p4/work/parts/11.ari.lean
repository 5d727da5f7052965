theorem rx_tdiv_b {x y : Int} (hy : 0 < y) : (0 ≤ x → 0 ≤ x.tdiv y ∧ x.tdiv y ≤ x) ∧ (x < 0 → x ≤ x.tdiv y ∧ x.tdiv y ≤ 0) := by
  refine ⟨fun hx => ?_, fun hx => ?_⟩
  · rw [rx_tdiv_pos hx]
    exact ⟨Int.ediv_nonneg hx (Int.le_of_lt hy), Int.ediv_le_self y hx⟩
  · have h := Int.neg_tdiv (-x) y
    rw [Int.neg_neg] at h
    rw [h, rx_tdiv_pos (by omega)]
    have h1 := Int.ediv_nonneg (show 0 ≤ -x by omega) (Int.le_of_lt hy)
    have h2 := Int.ediv_le_self y (show 0 ≤ -x by omega)
    omega
theorem rx_tmod_b {x y : Int} (hy : 0 < y) : (0 ≤ x → x.tmod y = x % y ∧ 0 ≤ x.tmod y ∧ x.tmod y < y ∧ x.tmod y ≤ x) ∧ (x < 0 → -y < x.tmod y ∧ x.tmod y ≤ 0 ∧ x ≤ x.tmod y) := by
  have key : ∀ z : Int, 0 ≤ z → z.tmod y = z % y ∧ 0 ≤ z % y ∧ z % y < y ∧ z % y ≤ z := by
    intro z hz
    refine ⟨Int.tmod_eq_emod_of_nonneg hz, Int.emod_nonneg _ (by omega), Int.emod_lt_of_pos _ hy, ?_⟩
    have h1 := Int.mul_ediv_add_emod z y
    have h2 := Int.mul_nonneg (Int.le_of_lt hy) (Int.ediv_nonneg hz (Int.le_of_lt hy))
    omega
  refine ⟨fun hx => ?_, fun hx => ?_⟩
  · obtain ⟨h1, h2, h3, h4⟩ := key x hx
    rw [h1]
    exact ⟨rfl, h2, h3, h4⟩
  · obtain ⟨h1, h2, h3, h4⟩ := key (-x) (by omega)
    have h := Int.neg_tmod (-x) y
    rw [Int.neg_neg] at h
    rw [h, h1]
    omega
theorem rx_divI {x y : Int32} (hy : 0 < y.toInt) : (x / y).toInt = x.toInt.tdiv y.toInt := by
  rw [Int32.toInt_div]
  have hb := rx_tdiv_b (x := x.toInt) hy
  have hx := rx_r32 x
  rcases rx_lg x.toInt 0 with h | h
  · have := hb.2 h; exact rx_bm32 (by omega) (by omega)
  · have := hb.1 h; exact rx_bm32 (by omega) (by omega)
theorem rx_divL {x y : Int64} (hy : 0 < y.toInt) : (x / y).toInt = x.toInt.tdiv y.toInt := by
  rw [Int64.toInt_div]
  have hb := rx_tdiv_b (x := x.toInt) hy
  have hx := rx_r64 x
  rcases rx_lg x.toInt 0 with h | h
  · have := hb.2 h; exact rx_bm64 (by omega) (by omega)
  · have := hb.1 h; exact rx_bm64 (by omega) (by omega)
theorem rx_remI {x y : Int32} (hy : 0 < y.toInt) : (x - x / y * y).toInt = x.toInt.tmod y.toInt := by
  have hx := rx_r32 x
  have hm := rx_tmod_b (x := x.toInt) hy
  have hd := Int.tmod_def x.toInt y.toInt
  have hc : x.toInt.tdiv y.toInt * y.toInt = y.toInt * x.toInt.tdiv y.toInt := Int.mul_comm _ _
  have e1 : (x / y * y).toInt = x.toInt.tdiv y.toInt * y.toInt := by
    rw [Int32.toInt_mul, rx_divI hy]
    rcases rx_lg x.toInt 0 with h | h
    · have := hm.2 h; exact rx_bm32 (by omega) (by omega)
    · have := hm.1 h; exact rx_bm32 (by omega) (by omega)
  rw [Int32.toInt_sub, e1]
  rcases rx_lg x.toInt 0 with h | h
  · have := hm.2 h
    rw [rx_bm32 (by omega) (by omega)]; omega
  · have := hm.1 h
    rw [rx_bm32 (by omega) (by omega)]; omega
theorem rx_has_rem {a b : Int × Int} {x y : Int} (hb0 : 0 < b.1) (ha : rx_has a x) (hb : rx_has b y) : rx_has (rx_rem a b) (x.tmod y) := by
  obtain ⟨a1, a2⟩ := ha
  obtain ⟨b1, b2⟩ := hb
  have hm := rx_tmod_b (x := x) (y := y) (by omega)
  unfold rx_rem
  cases h : rx_le 0 a.1 with
  | true =>
    have h1 := rx_le_t h
    obtain ⟨m1, m2, m3, m4⟩ := hm.1 (by omega)
    cases h2 : rx_one a && rx_one b with
    | true =>
      rw [Bool.and_eq_true] at h2
      have q1 := rx_le_t h2.1
      have q2 := rx_le_t h2.2
      have e1 : x = a.1 := by omega
      have e2 : y = b.1 := by omega
      subst e1; subst e2
      rw [m1]
      exact ⟨Int.le_refl _, Int.le_refl _⟩
    | false =>
      refine ⟨m2, ?_⟩
      show x.tmod y ≤ rx_min a.2 (b.2 - 1)
      rcases rx_min_e a.2 (b.2 - 1) with e | e <;> rw [e] <;> omega
  | false =>
    refine ⟨?_, ?_⟩
    · show 1 - b.2 ≤ x.tmod y
      rcases rx_lg x 0 with hx | hx
      · have := hm.2 hx; omega
      · have := hm.1 hx; omega
    · show x.tmod y ≤ b.2 - 1
      rcases rx_lg x 0 with hx | hx
      · have := hm.2 hx; omega
      · have := hm.1 hx; omega
theorem rx_idiv {a b : Int × Int} {x y : Int32} (hb0 : 0 < b.1) (ha : rx_has a x.toInt) (hb : rx_has b y.toInt) : rx_has (rx_div a b) (x / y).toInt := by
  rw [rx_divI (by have := hb.1; omega)]
  exact rx_has_div hb0 ha hb
theorem rx_ldiv {a b : Int × Int} {x y : Int64} (hb0 : 0 < b.1) (ha : rx_has a x.toInt) (hb : rx_has b y.toInt) : rx_has (rx_div a b) (x / y).toInt := by
  rw [rx_divL (by have := hb.1; omega)]
  exact rx_has_div hb0 ha hb
theorem rx_irem {a b : Int × Int} {x y : Int32} (hb0 : 0 < b.1) (ha : rx_has a x.toInt) (hb : rx_has b y.toInt) : rx_has (rx_rem a b) (x - x / y * y).toInt := by
  rw [rx_remI (by have := hb.1; omega)]
  exact rx_has_rem hb0 ha hb
theorem rx_ne0 {b : Int × Int} {y : Int32} (hb0 : 0 < b.1) (hb : rx_has b y.toInt) : ¬ y = 0 := by
  intro h
  subst h
  have := hb.1
  have h0 : (0 : Int32).toInt = 0 := by decide
  omega
theorem rx_ne0L {b : Int × Int} {y : Int64} (hb0 : 0 < b.1) (hb : rx_has b y.toInt) : ¬ y = 0 := by
  intro h
  subst h
  have := hb.1
  have h0 : (0 : Int64).toInt = 0 := by decide
  omega
/-- bits: of two known numbers, else anything -/
def rx_bit (f : Int32 → Int32 → Int32) (a b : Int × Int) : Int × Int := bif rx_one a && rx_one b then ((f (Int32.ofInt a.1) (Int32.ofInt b.1)).toInt, (f (Int32.ofInt a.1) (Int32.ofInt b.1)).toInt) else rx_top
theorem rx_one_eq {a : Int × Int} {x : Int32} (h : rx_one a = true) (ha : rx_has a x.toInt) : Int32.ofInt a.1 = x := by
  have h1 := rx_le_t h
  have h2 := ha.1
  have h3 := ha.2
  have e : a.1 = x.toInt := by omega
  rw [e, Int32.ofInt_toInt]
theorem rx_has_bit {f : Int32 → Int32 → Int32} {a b : Int × Int} {x y : Int32} (ha : rx_has a x.toInt) (hb : rx_has b y.toInt) : rx_has (rx_bit f a b) (f x y).toInt := by
  unfold rx_bit
  cases h : rx_one a && rx_one b with
  | true =>
    rw [Bool.and_eq_true] at h
    rw [rx_one_eq h.1 ha, rx_one_eq h.2 hb]
    exact ⟨Int.le_refl _, Int.le_refl _⟩
  | false => exact rx_r32 _
theorem rx_i2l {a : Int × Int} {x : Int32} (ha : rx_has a x.toInt) : rx_has a x.toInt64.toInt := by
  rw [Int32.toInt_toInt64]; exact ha
theorem rx_l2i {a : Int × Int} {x : Int64} (ha : rx_has a x.toInt) : rx_has (rx_i32 a) x.toInt32.toInt :=
  rx_has32 ha fun h1 h2 => by rw [Int64.toInt_toInt32]; exact rx_bm32 h1 h2
def rx_lcmp (a b : Int × Int) : Int × Int := bif rx_le a.1 b.2 then (bif rx_le b.1 a.2 then (bif rx_one a && rx_one b then (0, 0) else (-1, 1)) else (-1, -1)) else (1, 1)
theorem rx_has_lcmp {a b : Int × Int} {x y : Int64} (ha : rx_has a x.toInt) (hb : rx_has b y.toInt) : rx_has (rx_lcmp a b) (lg_cmp x y).toInt := by
  obtain ⟨a1, a2⟩ := ha
  obtain ⟨b1, b2⟩ := hb
  have c1 : (1 : Int32).toInt = 1 := by decide
  have c0 : (0 : Int32).toInt = 0 := by decide
  have cm : (-1 : Int32).toInt = -1 := by decide
  have hr : -1 ≤ (lg_cmp x y).toInt ∧ (lg_cmp x y).toInt ≤ 1 := by
    unfold lg_cmp
    split
    · rw [c1]; omega
    · split
      · rw [c0]; omega
      · rw [cm]; omega
  unfold rx_lcmp
  cases h : rx_le a.1 b.2 with
  | false =>
    have h1 := rx_le_f h
    have hlt : y < x := Int64.lt_iff_toInt_lt.mpr (by omega)
    have e : lg_cmp x y = 1 := by simp [lg_cmp, hlt]
    rw [e, c1]
    exact ⟨Int.le_refl _, Int.le_refl _⟩
  | true =>
    cases h2 : rx_le b.1 a.2 with
    | false =>
      have h1 := rx_le_f h2
      have hlt : ¬ y < x := fun q => by have := Int64.lt_iff_toInt_lt.mp q; omega
      have hne : ¬ x = y := fun q => by subst q; omega
      have e : lg_cmp x y = -1 := by simp [lg_cmp, hlt, hne]
      rw [e, cm]
      exact ⟨Int.le_refl _, Int.le_refl _⟩
    | true =>
      have q1 := rx_le_t h
      have q2 := rx_le_t h2
      cases h3 : rx_one a && rx_one b with
      | false => exact hr
      | true =>
        rw [Bool.and_eq_true] at h3
        have o1 := rx_le_t h3.1
        have o2 := rx_le_t h3.2
        have hxy : x = y := Int64.toInt_inj.mp (by omega)
        subst hxy
        have e : lg_cmp x x = 0 := by simp [lg_cmp]
        rw [e, c0]
        exact ⟨Int.le_refl _, Int.le_refl _⟩
/-- what a decided comparison says -/
def rx_rel (c : ClassFile.Cond) (x y : Int) : Prop := match c with
  | .eq => x = y
  | .ne => x ≠ y
  | .lt => x < y
  | .ge => y ≤ x
  | .gt => y < x
  | .le => x ≤ y
theorem rx_cmp_ok {c : ClassFile.Cond} {a b : Int × Int} {x y : Int} {t : Bool} (h : rx_cmp c a b = some t) (ha : rx_has a x) (hb : rx_has b y) : t = true ↔ rx_rel c x y := by
  obtain ⟨a1, a2⟩ := ha
  obtain ⟨b1, b2⟩ := hb
  cases c <;> simp only [rx_cmp] at h <;> simp only [rx_rel]
  · cases h1 : rx_le b.2 a.1 && rx_le a.2 b.1 with
    | true =>
      rw [h1] at h
      cases h
      rw [Bool.and_eq_true] at h1
      have q1 := rx_le_t h1.1
      have q2 := rx_le_t h1.2
      exact ⟨fun _ => by omega, fun _ => rfl⟩
    | false =>
      rw [h1] at h
      cases h2 : rx_le b.1 a.2 && rx_le a.1 b.2 with
      | true => rw [h2] at h; cases h
      | false =>
        rw [h2] at h
        cases h
        rw [Bool.and_eq_false_iff] at h2
        rcases h2 with q | q
        · have q := rx_le_f q
          exact ⟨fun z => (by cases z), fun z => by omega⟩
        · have q := rx_le_f q
          exact ⟨fun z => (by cases z), fun z => by omega⟩
  · cases h1 : rx_le b.2 a.1 && rx_le a.2 b.1 with
    | true =>
      rw [h1] at h
      cases h
      rw [Bool.and_eq_true] at h1
      have q1 := rx_le_t h1.1
      have q2 := rx_le_t h1.2
      exact ⟨fun z => (by cases z), fun z => absurd (by omega) z⟩
    | false =>
      rw [h1] at h
      cases h2 : rx_le b.1 a.2 && rx_le a.1 b.2 with
      | true => rw [h2] at h; cases h
      | false =>
        rw [h2] at h
        cases h
        rw [Bool.and_eq_false_iff] at h2
        rcases h2 with q | q
        · have q := rx_le_f q
          exact ⟨fun _ => by omega, fun _ => rfl⟩
        · have q := rx_le_f q
          exact ⟨fun _ => by omega, fun _ => rfl⟩
  · cases h1 : rx_le b.2 a.1 with
    | true =>
      rw [h1] at h
      cases h
      have q1 := rx_le_t h1
      exact ⟨fun z => (by cases z), fun z => by omega⟩
    | false =>
      rw [h1] at h
      cases h2 : rx_le b.1 a.2 with
      | true => rw [h2] at h; cases h
      | false =>
        rw [h2] at h
        cases h
        have q := rx_le_f h2
        exact ⟨fun _ => by omega, fun _ => rfl⟩
  · cases h1 : rx_le b.2 a.1 with
    | true =>
      rw [h1] at h
      cases h
      have q1 := rx_le_t h1
      exact ⟨fun _ => by omega, fun _ => rfl⟩
    | false =>
      rw [h1] at h
      cases h2 : rx_le b.1 a.2 with
      | true => rw [h2] at h; cases h
      | false =>
        rw [h2] at h
        cases h
        have q := rx_le_f h2
        exact ⟨fun z => (by cases z), fun z => by omega⟩
  · cases h1 : rx_le a.2 b.1 with
    | true =>
      rw [h1] at h
      cases h
      have q1 := rx_le_t h1
      exact ⟨fun z => (by cases z), fun z => by omega⟩
    | false =>
      rw [h1] at h
      cases h2 : rx_le a.1 b.2 with
      | true => rw [h2] at h; cases h
      | false =>
        rw [h2] at h
        cases h
        have q := rx_le_f h2
        exact ⟨fun _ => by omega, fun _ => rfl⟩
  · cases h1 : rx_le a.2 b.1 with
    | true =>
      rw [h1] at h
      cases h
      have q1 := rx_le_t h1
      exact ⟨fun _ => by omega, fun _ => rfl⟩
    | false =>
      rw [h1] at h
      cases h2 : rx_le a.1 b.2 with
      | true => rw [h2] at h; cases h
      | false =>
        rw [h2] at h
        cases h
        have q := rx_le_f h2
        exact ⟨fun z => (by cases z), fun z => by omega⟩
