/-! THE WIDE MACHINE IS SOUND: what u says (how many events there may be) only grows -/
def wx_su (sb : List Nat) (t u : Nat) : List Nat := sb ++ [u, t]
theorem wx_su20 {sb : List Nat} {t u : Nat} (h : sb.length = 20) : (wx_su sb t u)[20]? = some u := by
  unfold wx_su
  rw [List.getElem?_append_right (by omega), h]
  rfl
theorem wx_su21 {sb : List Nat} {t u : Nat} (h : sb.length = 20) : (wx_su sb t u)[21]? = some t := by
  unfold wx_su
  rw [List.getElem?_append_right (by omega), h]
  rfl
theorem wx_sul {sb : List Nat} {t u j : Nat} (h : sb.length = 20) (hj : j ≤ 19) : (wx_su sb t u)[j]? = sb[j]? := by
  unfold wx_su
  rw [List.getElem?_append_left (by omega)]
theorem rx_G_u {ad sb : List Nat} {t u u' : Nat} {v : rx_V} {x : Value} (hsb : sb.length = 20) (hu : u ≤ u') (h : rx_G ad (wx_su sb t u) v x) : rx_G ad (wx_su sb t u') v x := by
  match v, h with
  | .inl q, h => exact h
  | .inr (.inl q), h => exact h
  | .inr (.inr (.inl none)), h => exact h
  | .inr (.inr (.inl (some k))), h => exact h
  | .inr (.inr (.inr j)), h =>
    rcases h with ⟨h0, a, h1, h2⟩ | ⟨h1, h2, i, h3, h⟩ | h
    · rw [wx_sul hsb h0] at h1
      exact Or.inl ⟨h0, a, by rw [wx_sul hsb h0]; exact h1, h2⟩
    · refine Or.inr (Or.inl ⟨h1, h2, i, h3, ?_⟩)
      rcases h with h | h | h | h | ⟨g1, g2, w, g3, g4, g5⟩ | ⟨g1, g2, w, g3, g4⟩
      · exact Or.inl h
      · exact Or.inr (Or.inl h)
      · exact Or.inr (Or.inr (Or.inl h))
      · exact Or.inr (Or.inr (Or.inr (Or.inl h)))
      · rw [wx_su20 hsb] at g3
        cases g3
        exact Or.inr (Or.inr (Or.inr (Or.inr (Or.inl ⟨g1, g2, u', wx_su20 hsb, g4, by omega⟩))))
      · rw [wx_su21 hsb] at g3
        cases g3
        exact Or.inr (Or.inr (Or.inr (Or.inr (Or.inr ⟨g1, g2, t, wx_su21 hsb, g4⟩))))
    · exact Or.inr (Or.inr h)
theorem rx_S_u {ad sb : List Nat} {t u u' : Nat} (hsb : sb.length = 20) (hu : u ≤ u') : ∀ {a : List rx_V} {l : List Value}, rx_S ad (wx_su sb t u) a l → rx_S ad (wx_su sb t u') a l
  | [], [], _ => trivial
  | v :: a, x :: l, h => ⟨rx_G_u hsb hu h.1, rx_S_u hsb hu h.2⟩
  | [], _ :: _, h => h.elim
  | _ :: _, [], h => h.elim
theorem rx_L_u {ad sb : List Nat} {t u u' nL : Nat} {L : rx_F} {ls : Array Slot} (hsb : sb.length = 20) (hu : u ≤ u') (h : rx_L ad (wx_su sb t u) nL L ls) : rx_L ad (wx_su sb t u') nL L ls := by
  obtain ⟨l, h1, h2, h3⟩ := h
  refine ⟨l, h1, h2, fun i v hi => ?_⟩
  obtain ⟨x, g1, g2⟩ := h3 i v hi
  exact ⟨x, g1, rx_G_u hsb hu g2⟩
theorem rx_E_u {U : State} {ad sb : List Nat} {t u u' : Nat} {c : rx_C} {E : va_E} (hsb : sb.length = 20) (hu : u ≤ u') (h : rx_E U ad (wx_su sb t u) c E) : rx_E U ad (wx_su sb t u') c E := by
  rcases c with ⟨i, l⟩ | ⟨i, l⟩
  · obtain ⟨fs, g1, g2⟩ := h
    exact ⟨fs, g1, rx_S_u hsb hu g2⟩
  · obtain ⟨cA, g1, g2⟩ := h
    refine ⟨cA, g1, ?_⟩
    match i, g2 with
    | 0, g2 => obtain ⟨f, q1, q2⟩ := g2; exact ⟨f, q1, fun j v hv => rx_G_u hsb hu (q2 j v hv)⟩
    | 1, g2 => obtain ⟨f, q1, q2⟩ := g2; exact ⟨f, q1, fun j v hv => rx_G_u hsb hu (q2 j v hv)⟩
    | 2, g2 => obtain ⟨f, q1, q2⟩ := g2; exact ⟨f, q1, fun j v hv => rx_G_u hsb hu (q2 j v hv)⟩
    | n + 3, g2 => obtain ⟨f, q1, q2⟩ := g2; exact ⟨f, q1, fun j v hv => rx_G_u hsb hu (q2 j v hv)⟩
theorem rx_W_u {U : State} {ad sb : List Nat} {t u u' : Nat} {h : rx_H} {ws : va_W} (hsb : sb.length = 20) (hu : u ≤ u') (hW : rx_W U ad (wx_su sb t u) h ws) : rx_W U ad (wx_su sb t u') h ws :=
  ⟨hW.1, hW.2.1, fun k c hk => by obtain ⟨a, E, h1, h2⟩ := hW.2.2 k c hk; exact ⟨a, E, h1, rx_E_u hsb hu h2⟩⟩
theorem rx_O_u {ad sb : List Nat} {t u u' : Nat} {v : Option rx_V} {r : Option Value} (hsb : sb.length = 20) (hu : u ≤ u') (h : rx_O ad (wx_su sb t u) v r) : rx_O ad (wx_su sb t u') v r := by
  match v, r, h with
  | none, none, _ => trivial
  | some v, some x, h => exact rx_G_u hsb hu h
section WXS
variable {p : Program} {l : Launch} {e : Env} {R : Room} {s : State} {m : MethodId} {args : Array Value} {below : List Frame} {meth : Method} {c : Code} {Q : State → Prop} {D : va_G} {A B : Nat → Prop} {wr : Bool} {sb ad0 : List Nat} {tt : Nat} {ro : List (List rx_V)} {mt : rx_MT} {xM : List rx_MT} {cells slots : Nat}
/-- a wider place to go on from -/
theorem wx_mono {pc u u' : Nat} {h h' : rx_H} {L L' : rx_F} {st st' : List rx_V} (hsb : sb.length = 20) (hu : u ≤ u') (hs : rx_HS h h') (hl : rx_LS2 L L') (ht : rx_SS st st') (g : rx_Go p l e R s m args below meth c Q D A B (wx_su sb tt (u')) ad0 mt pc h' L' st' cells slots) : rx_Go p l e R s m args below meth c Q D A B (wx_su sb tt (u)) ad0 mt pc h L st cells slots := by
  intro ad ws H locs ls vs a1 a2 a3 a4 a5 a6 a7
  exact g ad ws H locs ls vs a1 (rx_W_u hsb hu (rx_HS_W hs a2)) a3 a4 a5 (rx_L_u hsb hu (rx_LS_W hl a6)) (rx_S_u hsb hu (rx_SS_S ht a7))
/-- the topmost of the stack, one value after the other -/
theorem wx_top {pc u : Nat} {h : rx_H} {L : rx_F} {v : rx_V} {r : List rx_V} (g : ∀ (ad : List Nat) (x : Value), rx_G ad (wx_su sb tt u) v x → ∃ w, (∀ ad', ad <+: ad' → rx_G ad' (wx_su sb tt u) v x → rx_G ad' (wx_su sb tt u) w x) ∧ rx_Go p l e R s m args below meth c Q D A B (wx_su sb tt (u)) ad0 mt pc h L (w :: r) cells slots) : rx_Go p l e R s m args below meth c Q D A B (wx_su sb tt (u)) ad0 mt pc h L (v :: r) cells slots := by
  intro ad ws H locs ls vs a1 a2 a3 a4 a5 a6 a7
  obtain ⟨x, vs, rfl, hx, a8⟩ := rx_S_cons a7
  obtain ⟨w, g1, g2⟩ := g ad x hx
  exact g2 ad ws H locs ls _ a1 a2 a3 a4 a5 a6 ⟨g1 ad (List.prefix_refl _) hx, a8⟩
/-- an int, one number after the other -/
theorem wx_topI {pc u : Nat} {h : rx_H} {L : rx_F} {v : rx_V} {r : List rx_V} (hv : rx_isI v = true) (g : ∀ (ad : List Nat) (i : Int32), rx_G ad (wx_su sb tt u) v (.int i) → rx_Go p l e R s m args below meth c Q D A B (wx_su sb tt (u)) ad0 mt pc h L (.inl (i.toInt, i.toInt) :: r) cells slots) : rx_Go p l e R s m args below meth c Q D A B (wx_su sb tt (u)) ad0 mt pc h L (v :: r) cells slots := by
  refine wx_top (fun ad x hx => ?_)
  obtain ⟨i, rfl⟩ := rx_int hv hx
  exact ⟨.inl (i.toInt, i.toInt), fun _ _ _ => ⟨i, rfl, Int.le_refl _, Int.le_refl _⟩, g ad i hx⟩
/-- the second of the stack likewise -/
theorem wx_sec {pc u : Nat} {h : rx_H} {L : rx_F} {b v : rx_V} {r : List rx_V} (g : ∀ (ad : List Nat) (x : Value), rx_G ad (wx_su sb tt u) v x → ∃ w, (∀ ad', ad <+: ad' → rx_G ad' (wx_su sb tt u) v x → rx_G ad' (wx_su sb tt u) w x) ∧ rx_Go p l e R s m args below meth c Q D A B (wx_su sb tt (u)) ad0 mt pc h L (b :: w :: r) cells slots) : rx_Go p l e R s m args below meth c Q D A B (wx_su sb tt (u)) ad0 mt pc h L (b :: v :: r) cells slots := by
  intro ad ws H locs ls vs a1 a2 a3 a4 a5 a6 a7
  obtain ⟨y, v2, rfl, hy, a8⟩ := rx_S_cons a7
  obtain ⟨x, vs, rfl, hx, a9⟩ := rx_S_cons a8
  obtain ⟨w, g1, g2⟩ := g ad x hx
  exact g2 ad ws H locs ls _ a1 a2 a3 a4 a5 a6 ⟨hy, g1 ad (List.prefix_refl _) hx, a9⟩
theorem wx_secI {pc u : Nat} {h : rx_H} {L : rx_F} {b v : rx_V} {r : List rx_V} (hv : rx_isI v = true) (g : ∀ (ad : List Nat) (i : Int32), rx_G ad (wx_su sb tt u) v (.int i) → rx_Go p l e R s m args below meth c Q D A B (wx_su sb tt (u)) ad0 mt pc h L (b :: .inl (i.toInt, i.toInt) :: r) cells slots) : rx_Go p l e R s m args below meth c Q D A B (wx_su sb tt (u)) ad0 mt pc h L (b :: v :: r) cells slots := by
  refine wx_sec (fun ad x hx => ?_)
  obtain ⟨i, rfl⟩ := rx_int hv hx
  exact ⟨.inl (i.toInt, i.toInt), fun _ _ _ => ⟨i, rfl, Int.le_refl _, Int.le_refl _⟩, g ad i hx⟩
end WXS
/-! comparisons -/
theorem rx_cmp_one {cd : ClassFile.Cond} (x y : Int) : ∃ b, rx_cmp cd (x, x) (y, y) = some b := by
  unfold rx_cmp
  cases cd <;> simp only [] <;> rcases hb1 : rx_le y x with _ | _ <;> rcases hb2 : rx_le x y with _ | _ <;> simp
  all_goals
    first
    | (have h1 := rx_le_f hb1; have h2 := rx_le_f hb2; omega)
theorem rx_cmp_in {cd : ClassFile.Cond} {a b : Int × Int} {x y : Int} {t : Bool} (h : rx_cmp cd a b = some t) (hx : rx_has a x) (hy : rx_has b y) : rx_cmp cd (x, x) (y, y) = some t := by
  obtain ⟨x1, x2⟩ := hx
  obtain ⟨y1, y2⟩ := hy
  obtain ⟨t', ht⟩ := rx_cmp_one (cd := cd) x y
  rw [ht]
  congr 1
  revert h ht
  unfold rx_cmp
  cases cd <;> simp only []
  all_goals
    rcases e1 : rx_le b.2 a.1 with _ | _ <;> rcases e2 : rx_le a.2 b.1 with _ | _ <;> rcases e3 : rx_le b.1 a.2 with _ | _ <;> rcases e4 : rx_le a.1 b.2 with _ | _ <;> rcases e5 : rx_le y x with _ | _ <;> rcases e6 : rx_le x y with _ | _ <;> simp
  all_goals
    (try have q1 := rx_le_t e1) <;> (try have q1 := rx_le_f e1) <;> (try have q2 := rx_le_t e2) <;> (try have q2 := rx_le_f e2) <;> (try have q3 := rx_le_t e3) <;> (try have q3 := rx_le_f e3) <;> (try have q4 := rx_le_t e4) <;> (try have q4 := rx_le_f e4) <;> (try have q5 := rx_le_t e5) <;> (try have q5 := rx_le_f e5) <;> (try have q6 := rx_le_t e6) <;> (try have q6 := rx_le_f e6) <;> first
      | omega
      | (intro h1 h2; rw [← h1, ← h2])
      | (intro h1 h2; subst h1; subst h2; rfl)
