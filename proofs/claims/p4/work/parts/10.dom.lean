/-! A MACHINE THAT RUNS THE BYTECODE OVER INTERVALS. Values: an int between two numbers, a long between two, a reference to the k-th cell of the world or null, a reference to the j-th read-only array. -/
abbrev rx_V : Type := (Int × Int) ⊕ ((Int × Int) ⊕ (Option Nat ⊕ Nat))
abbrev rx_C : Type := (Nat × List rx_V) ⊕ (Nat × List rx_V)
abbrev rx_H : Type := List rx_C
abbrev rx_F : Type := List (Option rx_V)
theorem rx_lg (a b : Int) : a < b ∨ b ≤ a := by omega
/-- comparing whole numbers, quick in the kernel -/
def rx_le (a b : Int) : Bool := match a, b with
  | .ofNat m, .ofNat n => Nat.ble m n
  | .negSucc _, .ofNat _ => true
  | .ofNat _, .negSucc _ => false
  | .negSucc m, .negSucc n => Nat.ble n m
theorem rx_le_iff (a b : Int) : rx_le a b = true ↔ a ≤ b := by
  cases a with
  | ofNat m =>
    cases b with
    | ofNat n => simp [rx_le]
    | negSucc n => simp only [rx_le]; constructor
                   · intro h; cases h
                   · intro h; simp only [Int.ofNat_eq_natCast] at h; omega
  | negSucc m =>
    cases b with
    | ofNat n => simp only [rx_le, true_iff, Int.ofNat_eq_natCast]; omega
    | negSucc n => simp only [rx_le, Nat.ble_eq]; omega
theorem rx_le_t {a b : Int} (h : rx_le a b = true) : a ≤ b := (rx_le_iff a b).mp h
theorem rx_le_f {a b : Int} (h : rx_le a b = false) : b < a := by
  rcases rx_lg b a with q | q
  · exact q
  · rw [(rx_le_iff a b).mpr q] at h; cases h
/-- a number in its normal form, handed on -/
def rx_fI {β : Type} (z : Int) (k : Int → β) : β := match z with
  | .ofNat 0 => k (.ofNat 0)
  | .ofNat (n + 1) => k (.ofNat (Nat.succ n))
  | .negSucc 0 => k (.negSucc 0)
  | .negSucc (n + 1) => k (.negSucc (Nat.succ n))
theorem rx_fI_eq {β : Type} (z : Int) (k : Int → β) : rx_fI z k = k z := by
  cases z with
  | ofNat n => cases n <;> rfl
  | negSucc n => cases n <;> rfl
def rx_fN {β : Type} (n : Nat) (k : Nat → β) : β := match n with
  | 0 => k 0
  | m + 1 => k (Nat.succ m)
theorem rx_fN_eq {β : Type} (n : Nat) (k : Nat → β) : rx_fN n k = k n := by cases n <;> rfl
def rx_pI {β : Type} (q : Int × Int) (k : rx_V → β) : β := rx_fI q.1 fun a => rx_fI q.2 fun b => k (.inl (a, b))
def rx_pL {β : Type} (q : Int × Int) (k : rx_V → β) : β := rx_fI q.1 fun a => rx_fI q.2 fun b => k (.inr (.inl (a, b)))
theorem rx_pI_eq {β : Type} (q : Int × Int) (k : rx_V → β) : rx_pI q k = k (.inl q) := by simp only [rx_pI, rx_fI_eq]
theorem rx_pL_eq {β : Type} (q : Int × Int) (k : rx_V → β) : rx_pL q k = k (.inr (.inl q)) := by simp only [rx_pL, rx_fI_eq]
/-- a place of a list, handed on; a list with a place changed, handed on -/
noncomputable def rx_get {α β : Type} (l : List α) : Nat → (α → Option β) → Option β :=
  List.rec (motive := fun _ => Nat → (α → Option β) → Option β) (fun _ _ => none)
    (fun a _ ih i k => Nat.rec (motive := fun _ => Option β) (k a) (fun j _ => ih j k) i) l
theorem rx_get_some {α β : Type} {l : List α} : ∀ {i : Nat} {k : α → Option β} {r : β}, rx_get l i k = some r → ∃ a, l[i]? = some a ∧ k a = some r := by
  induction l with
  | nil => intro i k r h; cases h
  | cons a t ih =>
    intro i k r h
    cases i with
    | zero => exact ⟨a, rfl, h⟩
    | succ j => exact ih (i := j) h
noncomputable def rx_set {α β : Type} (l : List α) : Nat → α → (List α → Option β) → Option β :=
  List.rec (motive := fun _ => Nat → α → (List α → Option β) → Option β) (fun _ _ _ => none)
    (fun a t ih i x k => Nat.rec (motive := fun _ => Option β) (k (x :: t)) (fun j _ => ih j x (fun t' => k (a :: t'))) i) l
theorem rx_set_some {α β : Type} {l : List α} : ∀ {i : Nat} {x : α} {k : List α → Option β} {r : β}, rx_set l i x k = some r → i < l.length ∧ k (l.set i x) = some r := by
  induction l with
  | nil => intro i x k r h; cases h
  | cons a t ih =>
    intro i x k r h
    cases i with
    | zero => exact ⟨Nat.succ_pos _, h⟩
    | succ j =>
      obtain ⟨h1, h2⟩ := ih (i := j) (k := fun t' => k (a :: t')) h
      exact ⟨Nat.succ_lt_succ h1, h2⟩
/-- a cell put behind a list, handed on -/
noncomputable def rx_app {α β : Type} (l : List α) : α → (List α → Option β) → Option β :=
  List.rec (motive := fun _ => α → (List α → Option β) → Option β) (fun x k => k [x])
    (fun a _ ih x k => ih x (fun t' => k (a :: t'))) l
theorem rx_app_eq {α β : Type} {l : List α} : ∀ {x : α} {k : List α → Option β}, rx_app l x k = k (l ++ [x]) := by
  induction l with
  | nil => intro x k; rfl
  | cons a t ih => intro x k; exact ih (k := fun t' => k (a :: t'))
/-- the n topmost of a stack, the deepest first, and the rest -/
noncomputable def rx_pop {β : Type} (n : Nat) : List rx_V → List rx_V → (List rx_V → List rx_V → Option β) → Option β :=
  Nat.rec (motive := fun _ => List rx_V → List rx_V → (List rx_V → List rx_V → Option β) → Option β) (fun st acc k => k acc st)
    (fun _ ih st acc k => List.rec (motive := fun _ => Option β) none (fun a t _ => ih t (a :: acc) k) st) n
theorem rx_pop_some {β : Type} : ∀ {n : Nat} {st acc : List rx_V} {k : List rx_V → List rx_V → Option β} {r : β}, rx_pop n st acc k = some r → ∃ x rest, st = x ++ rest ∧ x.length = n ∧ k (x.reverse ++ acc) rest = some r := by
  intro n
  induction n with
  | zero => intro st acc k r h; exact ⟨[], st, rfl, rfl, h⟩
  | succ n ih =>
    intro st acc k r h
    cases st with
    | nil => cases h
    | cons a t =>
      obtain ⟨x, rest, h1, h2, h3⟩ := ih (st := t) (acc := a :: acc) h
      refine ⟨a :: x, rest, by rw [h1]; rfl, by simp [h2], ?_⟩
      rw [List.reverse_cons, List.append_assoc]
      exact h3
/-! ARITHMETIC on intervals -/
def rx_top : Int × Int := (-2147483648, 2147483647)
def rx_topL : Int × Int := (-9223372036854775808, 9223372036854775807)
def rx_i32 (q : Int × Int) : Int × Int := bif rx_le (-2147483648) q.1 && rx_le q.2 2147483647 then q else rx_top
def rx_i64 (q : Int × Int) : Int × Int := bif rx_le (-9223372036854775808) q.1 && rx_le q.2 9223372036854775807 then q else rx_topL
def rx_min (a b : Int) : Int := bif rx_le a b then a else b
def rx_max (a b : Int) : Int := bif rx_le a b then b else a
def rx_add (a b : Int × Int) : Int × Int := (a.1 + b.1, a.2 + b.2)
def rx_sub (a b : Int × Int) : Int × Int := (a.1 - b.2, a.2 - b.1)
def rx_neg (a : Int × Int) : Int × Int := (-a.2, -a.1)
/-- of numbers from 0 on; else the widest of either size -/
def rx_mul (w : Int × Int) (a b : Int × Int) : Int × Int := bif rx_le 0 a.1 && rx_le 0 b.1 then (a.1 * b.1, a.2 * b.2) else bif rx_le a.2 a.1 && rx_le b.2 b.1 && (rx_le a.1 a.2 && rx_le b.1 b.2) then (a.1 * b.1, a.1 * b.1) else w
/-- by a number above 0 -/
def rx_div (a b : Int × Int) : Int × Int := bif rx_le 0 a.1 then (Int.ediv a.1 b.2, Int.ediv a.2 b.1) else (rx_min a.1 0, rx_max a.2 0)
def rx_one (a : Int × Int) : Bool := rx_le a.2 a.1
/-- the rest: of a number from 0 on by a known one -/
def rx_rem (a b : Int × Int) : Int × Int := bif rx_le 0 a.1 then (bif rx_one a && rx_one b then (Int.emod a.1 b.1, Int.emod a.1 b.1) else (0, rx_min a.2 (b.2 - 1))) else (1 - b.2, b.2 - 1)
def rx_cmp (c : ClassFile.Cond) (a b : Int × Int) : Option Bool := match c with
  | .eq => bif rx_le b.2 a.1 && rx_le a.2 b.1 then some true else bif rx_le b.1 a.2 && rx_le a.1 b.2 then none else some false
  | .ne => bif rx_le b.2 a.1 && rx_le a.2 b.1 then some false else bif rx_le b.1 a.2 && rx_le a.1 b.2 then none else some true
  | .lt => bif rx_le b.2 a.1 then some false else bif rx_le b.1 a.2 then none else some true
  | .ge => bif rx_le b.2 a.1 then some true else bif rx_le b.1 a.2 then none else some false
  | .gt => bif rx_le a.2 b.1 then some false else bif rx_le a.1 b.2 then none else some true
  | .le => bif rx_le a.2 b.1 then some true else bif rx_le a.1 b.2 then none else some false
theorem rx_r32 (x : Int32) : -2147483648 ≤ x.toInt ∧ x.toInt ≤ 2147483647 := ⟨x.le_toInt, by have := x.toInt_lt; omega⟩
theorem rx_r64 (x : Int64) : -9223372036854775808 ≤ x.toInt ∧ x.toInt ≤ 9223372036854775807 := ⟨x.le_toInt, by have := x.toInt_lt; omega⟩
def rx_has (q : Int × Int) (z : Int) : Prop := q.1 ≤ z ∧ z ≤ q.2
theorem rx_has32 {q : Int × Int} {x : Int32} {z : Int} (hz : rx_has q z) (h : -2147483648 ≤ z → z ≤ 2147483647 → x.toInt = z) : rx_has (rx_i32 q) x.toInt := by
  unfold rx_i32
  cases hb : rx_le (-2147483648) q.1 && rx_le q.2 2147483647 with
  | false => exact rx_r32 x
  | true =>
    rw [Bool.and_eq_true] at hb
    have h1 := rx_le_t hb.1
    have h2 := rx_le_t hb.2
    have hz1 := hz.1
    have hz2 := hz.2
    rw [show (bif true then q else rx_top) = q from rfl, h (by omega) (by omega)]
    exact hz
theorem rx_has64 {q : Int × Int} {x : Int64} {z : Int} (hz : rx_has q z) (h : -9223372036854775808 ≤ z → z ≤ 9223372036854775807 → x.toInt = z) : rx_has (rx_i64 q) x.toInt := by
  unfold rx_i64
  cases hb : rx_le (-9223372036854775808) q.1 && rx_le q.2 9223372036854775807 with
  | false => exact rx_r64 x
  | true =>
    rw [Bool.and_eq_true] at hb
    have h1 := rx_le_t hb.1
    have h2 := rx_le_t hb.2
    have hz1 := hz.1
    have hz2 := hz.2
    rw [show (bif true then q else rx_topL) = q from rfl, h (by omega) (by omega)]
    exact hz
theorem rx_has_add {a b : Int × Int} {x y : Int} (ha : rx_has a x) (hb : rx_has b y) : rx_has (rx_add a b) (x + y) := by
  have := ha.1; have := ha.2; have := hb.1; have := hb.2
  exact ⟨by show a.1 + b.1 ≤ _; omega, by show _ ≤ a.2 + b.2; omega⟩
theorem rx_has_sub {a b : Int × Int} {x y : Int} (ha : rx_has a x) (hb : rx_has b y) : rx_has (rx_sub a b) (x - y) := by
  have := ha.1; have := ha.2; have := hb.1; have := hb.2
  exact ⟨by show a.1 - b.2 ≤ _; omega, by show _ ≤ a.2 - b.1; omega⟩
theorem rx_has_neg {a : Int × Int} {x : Int} (ha : rx_has a x) : rx_has (rx_neg a) (-x) := by
  have := ha.1; have := ha.2
  exact ⟨by show -a.2 ≤ _; omega, by show _ ≤ -a.1; omega⟩
theorem rx_bm32 {z : Int} (h1 : -2147483648 ≤ z) (h2 : z ≤ 2147483647) : z.bmod (2 ^ 32) = z := by
  rw [Int.bmod_def]; split <;> omega
theorem rx_bm64 {z : Int} (h1 : -9223372036854775808 ≤ z) (h2 : z ≤ 9223372036854775807) : z.bmod (2 ^ 64) = z := by
  rw [Int.bmod_def]; split <;> omega
theorem rx_iadd {a b : Int × Int} {x y : Int32} (ha : rx_has a x.toInt) (hb : rx_has b y.toInt) : rx_has (rx_i32 (rx_add a b)) (x + y).toInt :=
  rx_has32 (rx_has_add ha hb) fun h1 h2 => by rw [Int32.toInt_add]; exact rx_bm32 h1 h2
theorem rx_isub {a b : Int × Int} {x y : Int32} (ha : rx_has a x.toInt) (hb : rx_has b y.toInt) : rx_has (rx_i32 (rx_sub a b)) (x - y).toInt :=
  rx_has32 (rx_has_sub ha hb) fun h1 h2 => by rw [Int32.toInt_sub]; exact rx_bm32 h1 h2
theorem rx_ineg {a : Int × Int} {x : Int32} (ha : rx_has a x.toInt) : rx_has (rx_i32 (rx_neg a)) (-x).toInt :=
  rx_has32 (rx_has_neg ha) fun h1 h2 => by rw [Int32.toInt_neg]; exact rx_bm32 h1 h2
theorem rx_ladd {a b : Int × Int} {x y : Int64} (ha : rx_has a x.toInt) (hb : rx_has b y.toInt) : rx_has (rx_i64 (rx_add a b)) (x + y).toInt :=
  rx_has64 (rx_has_add ha hb) fun h1 h2 => by rw [Int64.toInt_add]; exact rx_bm64 h1 h2
theorem rx_lsub {a b : Int × Int} {x y : Int64} (ha : rx_has a x.toInt) (hb : rx_has b y.toInt) : rx_has (rx_i64 (rx_sub a b)) (x - y).toInt :=
  rx_has64 (rx_has_sub ha hb) fun h1 h2 => by rw [Int64.toInt_sub]; exact rx_bm64 h1 h2
theorem rx_has_mul {w a b : Int × Int} {x y : Int} (ha : rx_has a x) (hb : rx_has b y) : rx_has (rx_mul w a b) (x * y) ∨ rx_mul w a b = w := by
  obtain ⟨a1, a2⟩ := ha
  obtain ⟨b1, b2⟩ := hb
  unfold rx_mul
  cases h : rx_le 0 a.1 && rx_le 0 b.1 with
  | true =>
    rw [Bool.and_eq_true] at h
    have h1 := rx_le_t h.1
    have h2 := rx_le_t h.2
    refine Or.inl ⟨Int.mul_le_mul a1 b1 h2 (by omega), Int.mul_le_mul a2 b2 (by omega) (by omega)⟩
  | false =>
    rw [show ∀ (p q : Int × Int), (bif false then p else q) = q from fun _ _ => rfl]
    cases h3 : rx_le a.2 a.1 && rx_le b.2 b.1 && (rx_le a.1 a.2 && rx_le b.1 b.2) with
    | true =>
      simp only [Bool.and_eq_true] at h3
      have q1 := rx_le_t h3.1.1
      have q2 := rx_le_t h3.1.2
      have e1 : x = a.1 := by omega
      have e2 : y = b.1 := by omega
      subst e1; subst e2
      exact Or.inl ⟨Int.le_refl _, Int.le_refl _⟩
    | false => exact Or.inr rfl
theorem rx_imul {a b : Int × Int} {x y : Int32} (ha : rx_has a x.toInt) (hb : rx_has b y.toInt) : rx_has (rx_i32 (rx_mul rx_top a b)) (x * y).toInt := by
  rcases rx_has_mul (w := rx_top) ha hb with h | h
  · exact rx_has32 h fun h1 h2 => by rw [Int32.toInt_mul]; exact rx_bm32 h1 h2
  · rw [h]; exact rx_r32 _
theorem rx_lmul {a b : Int × Int} {x y : Int64} (ha : rx_has a x.toInt) (hb : rx_has b y.toInt) : rx_has (rx_i64 (rx_mul rx_topL a b)) (x * y).toInt := by
  rcases rx_has_mul (w := rx_topL) ha hb with h | h
  · exact rx_has64 h fun h1 h2 => by rw [Int64.toInt_mul]; exact rx_bm64 h1 h2
  · rw [h]; exact rx_r64 _
theorem rx_min_l (a b : Int) : rx_min a b ≤ a ∧ rx_min a b ≤ b := by
  unfold rx_min
  cases h : rx_le a b with
  | true => exact ⟨Int.le_refl _, rx_le_t h⟩
  | false => exact ⟨Int.le_of_lt (rx_le_f h), Int.le_refl _⟩
theorem rx_max_l (a b : Int) : a ≤ rx_max a b ∧ b ≤ rx_max a b := by
  unfold rx_max
  cases h : rx_le a b with
  | true => exact ⟨rx_le_t h, Int.le_refl _⟩
  | false => exact ⟨Int.le_refl _, Int.le_of_lt (rx_le_f h)⟩
theorem rx_min_e (a b : Int) : rx_min a b = a ∨ rx_min a b = b := by
  unfold rx_min
  cases h : rx_le a b
  · exact Or.inr rfl
  · exact Or.inl rfl
theorem rx_tdiv_pos {x y : Int} (hx : 0 ≤ x) : x.tdiv y = x / y := Int.tdiv_eq_ediv_of_nonneg hx
theorem rx_has_div {a b : Int × Int} {x y : Int} (hb0 : 0 < b.1) (ha : rx_has a x) (hb : rx_has b y) : rx_has (rx_div a b) (x.tdiv y) := by
  obtain ⟨a1, a2⟩ := ha
  obtain ⟨b1, b2⟩ := hb
  have hy : 0 < y := by omega
  unfold rx_div
  cases h : rx_le 0 a.1 with
  | true =>
    have h1 := rx_le_t h
    rw [rx_tdiv_pos (by omega)]
    refine ⟨?_, ?_⟩
    · show a.1 / b.2 ≤ x / y
      refine Int.le_trans (Int.ediv_le_ediv (by omega) a1) ?_
      exact Int.le_ediv_of_mul_le hy (Int.le_trans (Int.mul_le_mul_of_nonneg_left b2 (Int.ediv_nonneg (by omega) (by omega))) (Int.ediv_mul_le _ (by omega)))
    · show x / y ≤ a.2 / b.1
      refine Int.le_trans (Int.ediv_le_ediv hy a2) ?_
      exact Int.le_ediv_of_mul_le hb0 (Int.le_trans (Int.mul_le_mul_of_nonneg_left b1 (Int.ediv_nonneg (by omega) (by omega))) (Int.ediv_mul_le _ (by omega)))
  | false =>
    have m1 := rx_min_l a.1 0
    have m2 := rx_max_l a.2 0
    refine ⟨?_, ?_⟩
    · show rx_min a.1 0 ≤ x.tdiv y
      rcases rx_lg x 0 with hx | hx
      · have h9 : x ≤ x.tdiv y := by
          have := Int.neg_tdiv (-x) y
          rw [Int.neg_neg] at this
          rw [this, rx_tdiv_pos (by omega)]
          have := Int.ediv_le_self y (show 0 ≤ -x by omega)
          omega
        omega
      · rw [rx_tdiv_pos hx]
        have := Int.ediv_nonneg hx (Int.le_of_lt hy)
        omega
    · show x.tdiv y ≤ rx_max a.2 0
      rcases rx_lg x 0 with hx | hx
      · have h9 : x.tdiv y ≤ 0 := by
          have := Int.neg_tdiv (-x) y
          rw [Int.neg_neg] at this
          rw [this, rx_tdiv_pos (by omega)]
          have := Int.ediv_nonneg (show 0 ≤ -x by omega) (Int.le_of_lt hy)
          omega
        omega
      · rw [rx_tdiv_pos hx]
        have := Int.ediv_le_self y hx
        omega
