/-! THE WIDE MACHINE. A table tells of every place of the heap what may stand there; a store must keep to it, so nothing of the table changes. A branch that can't be told runs both ways, and the two meet where the row says. Calls go by what is known of them. -/
abbrev wx_S : Type := Nat × rx_F × List rx_V
abbrev wx_R : Type := Option wx_S × Option (Nat × Option rx_V)
abbrev wx_Orc : Type := Nat → rx_H → List rx_V → Option (Option rx_V × Nat × Bool)
abbrev wx_Alt : Type := Nat × rx_H × rx_F × List rx_V
/-! meeting: a guess, and is it wide enough? -/
def wx_mn (a b : Nat) : Nat := bif Nat.ble a b then a else b
def wx_mx (a b : Nat) : Nat := bif Nat.ble a b then b else a
def wx_rg (x : Option Nat ⊕ Nat) : Nat × Nat × Nat := match x with
  | .inl none => (4095, 0, 1)
  | .inl (some k) => (k, k, 0)
  | .inr j => (rx_oa j, rx_ob j, rx_on j)
def wx_hc {β : Type} (a b : rx_V) (k : rx_V → β) (no : β) : β := match a, b with
  | .inl a, .inl b => rx_pI (rx_min a.1 b.1, rx_max a.2 b.2) k
  | .inr (.inl a), .inr (.inl b) => rx_pL (rx_min a.1 b.1, rx_max a.2 b.2) k
  | .inr (.inr x), .inr (.inr y) => bif rx_eV (.inr (.inr x)) (.inr (.inr y)) then k (.inr (.inr x)) else rx_fN (1000000 + 8192 * wx_mn (wx_rg x).1 (wx_rg y).1 + 2 * wx_mx (wx_rg x).2.1 (wx_rg y).2.1 + wx_mx (wx_rg x).2.2 (wx_rg y).2.2) fun j => k (.inr (.inr (.inr j)))
  | _, _ => no
def wx_hl {β : Type} (a b : rx_V) (k : rx_V → β) (no : β) : β := wx_hc a b (fun c => bif rx_sb a c && rx_sb b c then k c else no) no
theorem wx_hl_ok {β : Type} {a b : rx_V} {k : rx_V → β} {no r : β} (h : wx_hl a b k no = r) : (∃ c, rx_sb a c = true ∧ rx_sb b c = true ∧ k c = r) ∨ no = r := by
  have key : ∀ c, (bif rx_sb a c && rx_sb b c then k c else no) = r → (∃ c, rx_sb a c = true ∧ rx_sb b c = true ∧ k c = r) ∨ no = r := by
    intro c hc
    cases hb : rx_sb a c && rx_sb b c with
    | true =>
      rw [hb] at hc
      obtain ⟨h1, h2⟩ := rx_and2 hb
      exact Or.inl ⟨c, h1, h2, hc⟩
    | false => rw [hb] at hc; exact Or.inr hc
  unfold wx_hl wx_hc at h
  split at h
  · rw [rx_pI_eq] at h; exact key _ h
  · rw [rx_pL_eq] at h; exact key _ h
  · rename_i x y
    cases he : rx_eV (.inr (.inr x)) (.inr (.inr y)) with
    | true => rw [he] at h; exact key _ h
    | false => rw [he] at h; simp only [cond_false, rx_fN_eq] at h; exact key _ h
  · exact Or.inr h
noncomputable def wx_mL {β : Type} (a : rx_F) : rx_F → (rx_F → Option β) → Option β :=
  List.rec (motive := fun _ => rx_F → (rx_F → Option β) → Option β) (fun b k => List.rec (motive := fun _ => Option β) (k []) (fun _ _ _ => none) b)
    (fun x _ ih b k => List.rec (motive := fun _ => Option β) none (fun y s _ => (match x, y with
      | some v, some w => wx_hl v w (fun c => ih s (fun t => k (some c :: t))) (ih s (fun t => k (none :: t)))
      | _, _ => ih s (fun t => k (none :: t)))) b) a
theorem rx_LS2_cons {a b : rx_F} {x y : Option rx_V} (h : rx_LS2 a b) (hx : ∀ w, y = some w → ∃ v, x = some v ∧ rx_vi v w) : rx_LS2 (x :: a) (y :: b) := by
  refine ⟨by simp [h.1], fun i w hw => ?_⟩
  cases i with
  | zero =>
    have hw : some y = some (some w) := hw
    obtain ⟨v, h1, h2⟩ := hx w (Option.some.inj hw)
    exact ⟨v, by rw [h1]; rfl, h2⟩
  | succ i => exact h.2 i w hw
theorem wx_mL_ok {β : Type} : ∀ {a b : rx_F} {k : rx_F → Option β} {r : β}, wx_mL a b k = some r → ∃ c, rx_LS2 a c ∧ rx_LS2 b c ∧ k c = some r := by
  intro a
  induction a with
  | nil =>
    intro b k r h
    cases b with
    | nil => exact ⟨[], rx_LS_rf, rx_LS_rf, h⟩
    | cons y s => cases h
  | cons x t ih =>
    intro b k r h
    cases b with
    | nil => cases h
    | cons y s =>
      have hn : wx_mL t s (fun q => k (none :: q)) = some r → ∃ c, rx_LS2 (x :: t) c ∧ rx_LS2 (y :: s) c ∧ k c = some r := by
        intro hh
        obtain ⟨c, h1, h2, h3⟩ := ih hh
        exact ⟨none :: c, rx_LS2_cons h1 (fun w hw => by cases hw), rx_LS2_cons h2 (fun w hw => by cases hw), h3⟩
      cases x with
      | none => exact hn h
      | some v =>
        cases y with
        | none => exact hn h
        | some w =>
          have h : wx_hl v w (fun c => wx_mL t s (fun q => k (some c :: q))) (wx_mL t s (fun q => k (none :: q))) = some r := h
          rcases wx_hl_ok h with ⟨c, g1, g2, g3⟩ | g
          · obtain ⟨c2, h1, h2, h3⟩ := ih g3
            exact ⟨some c :: c2, rx_LS2_cons h1 (fun w hw => by cases hw; exact ⟨v, rfl, rx_vi_of g1⟩), rx_LS2_cons h2 (fun w' hw => by cases hw; exact ⟨w, rfl, rx_vi_of g2⟩), h3⟩
          · exact hn g
noncomputable def wx_mS {β : Type} (a : List rx_V) : List rx_V → (List rx_V → Option β) → Option β :=
  List.rec (motive := fun _ => List rx_V → (List rx_V → Option β) → Option β) (fun b k => List.rec (motive := fun _ => Option β) (k []) (fun _ _ _ => none) b)
    (fun x _ ih b k => List.rec (motive := fun _ => Option β) none (fun y s _ => wx_hl x y (fun c => ih s (fun t => k (c :: t))) none) b) a
theorem wx_mS_ok {β : Type} : ∀ {a b : List rx_V} {k : List rx_V → Option β} {r : β}, wx_mS a b k = some r → ∃ c, rx_SS a c ∧ rx_SS b c ∧ k c = some r := by
  intro a
  induction a with
  | nil =>
    intro b k r h
    cases b with
    | nil => exact ⟨[], rx_SS_rf, rx_SS_rf, h⟩
    | cons y s => cases h
  | cons x t ih =>
    intro b k r h
    cases b with
    | nil => cases h
    | cons y s =>
      have h : wx_hl x y (fun c => wx_mS t s (fun q => k (c :: q))) none = some r := h
      rcases wx_hl_ok h with ⟨c, g1, g2, g3⟩ | g
      · obtain ⟨c2, h1, h2, h3⟩ := ih g3
        exact ⟨c :: c2, rx_SS_cons h1 (rx_vi_of g1), rx_SS_cons h2 (rx_vi_of g2), h3⟩
      · cases g
/-- what stands under what -/
def wx_le1 (a c : wx_S) : Prop := a.1 ≤ c.1 ∧ rx_LS2 a.2.1 c.2.1 ∧ rx_SS a.2.2 c.2.2
def wx_leO (x z : Option wx_S) : Prop := ∀ a, x = some a → ∃ c, z = some c ∧ wx_le1 a c
def wx_lo (v w : Option rx_V) : Prop := match v, w with
  | none, none => True
  | some a, some b => rx_vi a b
  | _, _ => False
def wx_leV (x z : Option (Nat × Option rx_V)) : Prop := ∀ a, x = some a → ∃ c, z = some c ∧ a.1 ≤ c.1 ∧ wx_lo a.2 c.2
theorem wx_leO_rf {x : Option wx_S} : wx_leO x x := fun a h => ⟨a, h, Nat.le_refl _, rx_LS_rf, rx_SS_rf⟩
theorem wx_lo_rf {v : Option rx_V} : wx_lo v v := by
  cases v with
  | none => trivial
  | some a => exact rx_vi_rf
theorem wx_leV_rf {x : Option (Nat × Option rx_V)} : wx_leV x x := fun a h => ⟨a, h, Nat.le_refl _, wx_lo_rf⟩
theorem wx_mx_l {a b : Nat} : a ≤ wx_mx a b := by
  unfold wx_mx
  cases h : Nat.ble a b with
  | true => exact Nat.le_of_ble_eq_true h
  | false => exact Nat.le_refl _
theorem wx_mx_r {a b : Nat} : b ≤ wx_mx a b := by
  unfold wx_mx
  cases h : Nat.ble a b with
  | true => exact Nat.le_refl _
  | false =>
    show b ≤ a
    rcases Nat.lt_or_ge b a with h1 | h1
    · omega
    · rw [Nat.ble_eq_true_of_le h1] at h; cases h
noncomputable def wx_mO {β : Type} (x y : Option wx_S) (k : Option wx_S → Option β) : Option β := match x, y with
  | none, y => k y
  | some a, none => k (some a)
  | some a, some b => rx_fN (wx_mx a.1 b.1) fun d => wx_mL a.2.1 b.2.1 fun L => wx_mS a.2.2 b.2.2 fun s => k (some (d, L, s))
theorem wx_mO_ok {β : Type} {x y : Option wx_S} {k : Option wx_S → Option β} {r : β} (h : wx_mO x y k = some r) : ∃ z, wx_leO x z ∧ wx_leO y z ∧ k z = some r := by
  unfold wx_mO at h
  split at h
  · exact ⟨_, fun a ha => (by cases ha), wx_leO_rf, h⟩
  · exact ⟨_, wx_leO_rf, fun a ha => (by cases ha), h⟩
  · rename_i a b
    rw [rx_fN_eq] at h
    obtain ⟨L, h1, h2, h⟩ := wx_mL_ok h
    obtain ⟨s, h3, h4, h⟩ := wx_mS_ok h
    exact ⟨_, fun c hc => by cases hc; exact ⟨_, rfl, wx_mx_l, h1, h3⟩, fun c hc => by cases hc; exact ⟨_, rfl, wx_mx_r, h2, h4⟩, h⟩
noncomputable def wx_mV {β : Type} (x y : Option (Nat × Option rx_V)) (k : Option (Nat × Option rx_V) → Option β) : Option β := match x, y with
  | none, y => k y
  | some a, none => k (some a)
  | some a, some b => rx_fN (wx_mx a.1 b.1) fun d => (match a.2, b.2 with
    | none, none => k (some (d, none))
    | some v, some w => wx_hl v w (fun c => k (some (d, some c))) none
    | _, _ => none)
theorem wx_mV_ok {β : Type} {x y : Option (Nat × Option rx_V)} {k : Option (Nat × Option rx_V) → Option β} {r : β} (h : wx_mV x y k = some r) : ∃ z, wx_leV x z ∧ wx_leV y z ∧ k z = some r := by
  unfold wx_mV at h
  split at h
  · exact ⟨_, fun a ha => (by cases ha), wx_leV_rf, h⟩
  · exact ⟨_, wx_leV_rf, fun a ha => (by cases ha), h⟩
  · rename_i a b
    obtain ⟨d1, v1⟩ := a
    obtain ⟨d2, v2⟩ := b
    rw [rx_fN_eq] at h
    split at h
    · rename_i e1 e2
      have e1 : v1 = none := e1
      have e2 : v2 = none := e2
      subst e1; subst e2
      exact ⟨_, fun c hc => by cases hc; exact ⟨_, rfl, wx_mx_l, trivial⟩, fun c hc => by cases hc; exact ⟨_, rfl, wx_mx_r, trivial⟩, h⟩
    · rename_i v w e1 e2
      have e1 : v1 = some v := e1
      have e2 : v2 = some w := e2
      subst e1; subst e2
      rcases wx_hl_ok h with ⟨c, g1, g2, g3⟩ | g
      · exact ⟨_, fun q hq => by cases hq; exact ⟨_, rfl, wx_mx_l, rx_vi_of g1⟩, fun q hq => by cases hq; exact ⟨_, rfl, wx_mx_r, rx_vi_of g2⟩, g3⟩
      · cases g
    · cases h
noncomputable def wx_mR {β : Type} (x y : wx_R) (k : wx_R → Option β) : Option β := wx_mO x.1 y.1 fun a => wx_mV x.2 y.2 fun b => k (a, b)
theorem wx_mR_ok {β : Type} {x y : wx_R} {k : wx_R → Option β} {r : β} (h : wx_mR x y k = some r) : ∃ z, (wx_leO x.1 z.1 ∧ wx_leV x.2 z.2) ∧ (wx_leO y.1 z.1 ∧ wx_leV y.2 z.2) ∧ k z = some r := by
  obtain ⟨a, h1, h2, h⟩ := wx_mO_ok h
  obtain ⟨b, h3, h4, h⟩ := wx_mV_ok h
  exact ⟨(a, b), ⟨h1, h3⟩, ⟨h2, h4⟩, h⟩
/-- several ways, all to be run -/
noncomputable def wx_alts (run : wx_Alt → Option wx_R) (l : List wx_Alt) : Option wx_R :=
  List.rec (motive := fun _ => Option wx_R) (some (none, none)) (fun a _ ih => Option.rec (motive := fun _ => Option wx_R) none (fun r1 => Option.rec (motive := fun _ => Option wx_R) none (fun r2 => wx_mR r1 r2 some) ih) (run a)) l
theorem wx_or1 {α β : Type} {o : Option α} {f : α → Option β} {r : β} (h : Option.rec (motive := fun _ => Option β) none f o = some r) : ∃ a, o = some a ∧ f a = some r := by
  cases o with
  | none => cases h
  | some a => exact ⟨a, rfl, h⟩
theorem wx_leO_tr {x y z : Option wx_S} (h1 : wx_leO x y) (h2 : ∀ b, y = some b → ∃ c, z = some c ∧ wx_le1 b c) : ∀ a, x = some a → ∃ b c, y = some b ∧ z = some c ∧ wx_le1 a b ∧ wx_le1 b c := by
  intro a ha
  obtain ⟨b, e1, g1⟩ := h1 a ha
  obtain ⟨c, e2, g2⟩ := h2 b e1
  exact ⟨b, c, e1, e2, g1, g2⟩
/-- the rows that touch no heap, make no call and don't end -/
def wx_pl (i : Instr) : Bool := match i with
  | .iconst _ => true
  | .bipush _ => true
  | .sipush _ => true
  | .lconst _ => true
  | .aconst_null => true
  | .ldc _ => true
  | .ldc_w _ => true
  | .ldc2_w _ => true
  | .iload_n _ => true
  | .iload _ => true
  | .lload_n _ => true
  | .lload _ => true
  | .aload_n _ => true
  | .aload _ => true
  | .istore_n _ => true
  | .istore _ => true
  | .lstore_n _ => true
  | .lstore _ => true
  | .astore_n _ => true
  | .astore _ => true
  | .iinc _ _ => true
  | .iadd => true
  | .isub => true
  | .imul => true
  | .iand => true
  | .ior => true
  | .ixor => true
  | .ishl => true
  | .ishr => true
  | .idiv => true
  | .irem => true
  | .ineg => true
  | .ladd => true
  | .lsub => true
  | .lmul => true
  | .ldiv => true
  | .lcmp => true
  | .i2l => true
  | .l2i => true
  | .goto _ => true
  | .ifnull _ => true
  | .ifnonnull _ => true
  | .dup => true
  | .dup2 => true
  | .pop => true
  | .getstatic _ => true
  | _ => false
theorem wx_plain {β : Type} {wr : Bool} {ro : List (List rx_V)} {dfs : Nat → List Nat} {row : rx_Row} {pc : Nat} {h h2 : rx_H} {L : rx_F} {st : List rx_V} {k : Nat → rx_H → rx_F → List rx_V → Nat → Nat → Option β} {call : Nat → List rx_V → List rx_V → Option β} {ret : Option rx_V → Option β} {thr : Nat → Option β} (hp : wx_pl row.1 = true) :
    rx_step wr ro dfs row pc h L st k call ret thr = rx_step wr ro dfs row pc h2 L st (fun pc' _ L' st' dc ds => k pc' h L' st' dc ds) call ret thr := by
  obtain ⟨ins, np, tg, K⟩ := row
  cases ins <;> first
    | rfl
    | (cases hp; done)
theorem wx_alts_ok {run : wx_Alt → Option wx_R} {PS : wx_S → Prop} {PV : Nat × Option rx_V → Prop} (hS : ∀ a c, wx_le1 a c → PS c → PS a) (hV : ∀ a c : Nat × Option rx_V, a.1 ≤ c.1 → wx_lo a.2 c.2 → PV c → PV a) : ∀ {l : List wx_Alt} {z : wx_R}, wx_alts run l = some z → (∀ s, z.1 = some s → PS s) → (∀ v, z.2 = some v → PV v) → ∀ a ∈ l, ∃ r, run a = some r ∧ (∀ s, r.1 = some s → PS s) ∧ (∀ v, r.2 = some v → PV v) := by
  intro l
  induction l with
  | nil => intro z _ _ _ a ha; cases ha
  | cons b t ih =>
    intro z h h1 h2 a ha
    have h : Option.rec (motive := fun _ => Option wx_R) none (fun r1 => Option.rec (motive := fun _ => Option wx_R) none (fun r2 => wx_mR r1 r2 some) (wx_alts run t)) (run b) = some z := h
    obtain ⟨r1, g1, h⟩ := wx_or1 h
    obtain ⟨r2, g2, h⟩ := wx_or1 h
    obtain ⟨z', ⟨k1, k2⟩, ⟨k3, k4⟩, h⟩ := wx_mR_ok h
    cases h
    rcases List.mem_cons.mp ha with rfl | ha
    · refine ⟨r1, g1, fun s hs => ?_, fun v hv => ?_⟩
      · obtain ⟨c, e, l1⟩ := k1 s hs
        exact hS _ _ l1 (h1 c e)
      · obtain ⟨c, e, l1, l2⟩ := k2 v hv
        exact hV _ _ l1 l2 (h2 c e)
    · refine ih g2 (fun s hs => ?_) (fun v hv => ?_) a ha
      · obtain ⟨c, e, l1⟩ := k3 s hs
        exact hS _ _ l1 (h1 c e)
      · obtain ⟨c, e, l1, l2⟩ := k4 v hv
        exact hV _ _ l1 l2 (h2 c e)
noncomputable def wx_then (stop q : Nat) (go : wx_S → Option wx_R) (m : Option wx_R) : Option wx_R :=
  Option.rec (motive := fun _ => Option wx_R) none (fun r => match r.1 with
    | none => some r
    | some s => bif Nat.beq q stop then some r else Option.rec (motive := fun _ => Option wx_R) none (fun r2 => wx_mR (none, r.2) r2 some) (go s)) m
/-! the rows -/
/-- a comparison: told, or not to be told; none: no comparison of ints -/
def wx_ng (j : Nat) : Bool := Nat.ble 200000 j && Nat.ble j 999999
def wx_mk (c : ClassFile.Cond) (j : Nat) (b : Int × Int) : Option Bool := bif (Nat.ble 500000 j && Nat.ble j 500127) && (rx_one b && (rx_le 0 b.1 && !((j - 500000).testBit b.1.toNat))) then (match c with
  | .eq => some false
  | .ne => some true
  | _ => none) else none
def wx_cmp (c : ClassFile.Cond) (a b : rx_V) : Option (Option Bool) := match a, b with
  | .inl a, .inl b => some (rx_cmp c a b)
  | .inr (.inr (.inr j)), .inl b => bif wx_ng j then some (wx_mk c j b) else none
  | .inl _, .inr (.inr (.inr j)) => bif wx_ng j then some none else none
  | _, _ => none
def wx_nh (v : rx_V) : Bool := match v with
  | .inr (.inr (.inr j)) => !(Nat.beq j 900000)
  | _ => true
/-- all numbers from a on, n of them -/
noncomputable def wx_fa (p : Nat → Bool) (a n : Nat) : Bool := Nat.rec (motive := fun _ => Bool) true (fun i ih => ih && p (a + i)) n
theorem wx_fa_ok {p : Nat → Bool} {a : Nat} : ∀ {n i : Nat}, wx_fa p a n = true → a ≤ i → i < a + n → p i = true := by
  intro n
  induction n with
  | zero => intro i _ h1 h2; omega
  | succ n ih =>
    intro i h h1 h2
    have h : (wx_fa p a n && p (a + n)) = true := h
    obtain ⟨g1, g2⟩ := rx_and2 h
    by_cases e : i = a + n
    · subst e; exact g2
    · exact ih g1 h1 (by omega)
/-- a field's value in a cell of the class ci -/
def wx_fld (h : rx_H) (ci f k : Nat) : Option rx_V := match h[k]? with
  | some (.inl (c, fs)) => bif Nat.beq c ci then fs[f]? else none
  | _ => none
/-- the cells that a reference may mean: first, how many; none: null, or no cell -/
def wx_cs (v : rx_V) : Option (Nat × Nat) := match v with
  | .inr (.inr (.inl (some k))) => some (k, 1)
  | .inr (.inr (.inr j)) => bif Nat.ble 1000000 j && Nat.beq (rx_on j) 0 then some (rx_oa j, rx_ob j + 1 - rx_oa j) else none
  | _ => none
/-- what a read gives: a number of events is a number, but where the row wants more -/
noncomputable def wx_ps {β : Type} (keep : Bool) (v : rx_V) (k : rx_V → Option β) : Option β := match v with
  | .inr (.inr (.inr j)) => bif Nat.beq j 600000 && !keep then k (.inl (0, 2147483647)) else bif Nat.beq j 600002 then k (.inl (32, 2147483647)) else bif Nat.beq j 900000 then none else k (.inr (.inr (.inr j)))
  | v => k v
noncomputable def wx_fold {β : Type} (l : List rx_V) : rx_V → (rx_V → Option β) → Option β :=
  List.rec (motive := fun _ => rx_V → (rx_V → Option β) → Option β) (fun v k => k v) (fun w _ ih v k => wx_hl v w (fun c => ih c k) none) l
/-- a place of an array, by an index between two -/
noncomputable def wx_at {β : Type} (l : List rx_V) (q : Int × Int) (k : rx_V → Option β) : Option β :=
  bif rx_le 0 q.1 && rx_le (q.2 + 1) l.length then (match (l.drop q.1.toNat).take (q.2 - q.1 + 1).toNat with
    | [] => none
    | v :: r => wx_fold r v fun c => bif (v :: r).all (fun w => wx_nh w && rx_sb w c) then k c else none) else none
noncomputable def wx_put (l : List rx_V) (q : Int × Int) (v : rx_V) : Bool :=
  rx_le 0 q.1 && rx_le (q.2 + 1) l.length && ((l.drop q.1.toNat).take (q.2 - q.1 + 1).toNat).all (fun w => wx_nh w && rx_sb v w)
def wx_arr (h : rx_H) (a : Nat) : Option (Nat × List rx_V) := match h[a]? with
  | some (.inr o) => some o
  | _ => none
/-- fields and arrays of which a row keeps what it wrote -/
def wx_sf (ci f : Nat) : Bool := Nat.beq ci 11 && (Nat.beq f 0 || Nat.beq f 26)
/-- a local split in two -/
def wx_sp (L : rx_F) (i : Nat) (t : Int) : Option (rx_F × rx_F) := match L[i]? with
  | some (some (.inl q)) => bif rx_le (q.1 + 1) t && rx_le t q.2 then some (L.set i (some (.inl (q.1, t - 1))), L.set i (some (.inl (t, q.2)))) else none
  | some (some (.inr (.inl q))) => bif rx_le (q.1 + 1) t && rx_le t q.2 then some (L.set i (some (.inr (.inl (q.1, t - 1)))), L.set i (some (.inr (.inl (t, q.2))))) else none
  | _ => none
def wx_sn (L : rx_F) (i : Nat) : Option (rx_F × rx_F) := match L[i]? with
  | some (some (.inr (.inr (.inr j)))) => bif Nat.ble 1000000 j && Nat.beq (rx_on j) 1 then some (L.set i (some (.inr (.inr (.inl none)))), L.set i (some (.inr (.inr (.inr (j - 1)))))) else none
  | _ => none
