/-! WIDER STATES, WHERE AT LEAST A HUNDRED EVENTS ARE ALLOWED FOR -/
def rx_sbU (a b : rx_V) : Bool := rx_sb a b || (match a, b with
  | .inl q, .inr (.inr (.inr j)) => Nat.beq j 600000 && (rx_le 0 q.1 && rx_le q.2 100)
  | _, _ => false)
theorem rx_sbU_ok {ad sb : List Nat} {tt u : Nat} (hsb : sb.length = 20) (h100 : 100 ≤ u) {a b : rx_V} {x : Value} (h : rx_sbU a b = true) (hx : rx_G ad (wx_su sb tt u) a x) : rx_G ad (wx_su sb tt u) b x := by
  rcases rx_or2 h with h | h
  · exact rx_sb_ok h hx
  · match a, b, h, hx with
    | .inl q, .inr (.inr (.inr j)), h, hx =>
      have h : (Nat.beq j 600000 && (rx_le 0 q.1 && rx_le q.2 100)) = true := h
      obtain ⟨h1, h2⟩ := rx_and2 h
      obtain ⟨h2, h3⟩ := rx_and2 h2
      have e := Nat.eq_of_beq_eq_true h1
      subst e
      have h2 := rx_le_t h2
      have h3 := rx_le_t h3
      obtain ⟨i, e, g1, g2⟩ := hx
      refine Or.inr (Or.inl ⟨by omega, by omega, i, e, Or.inr (Or.inr (Or.inr (Or.inr (Or.inl ⟨by omega, by omega, u, wx_su20 hsb, ?_, ?_⟩))))⟩)
      · have u3 : rx_ul 600000 = 0 := rfl
        rw [u3]
        omega
      · have u2 : rx_uh 600000 = 0 := rfl
        rw [u2]
        omega
noncomputable def rx_csU (a b : rx_C) : Bool := match a, b with
  | .inl (i, l), .inl (j, m) => Nat.beq i j && rx_all2 rx_sbU l m
  | .inr (i, l), .inr (j, m) => Nat.beq i j && rx_all2 rx_sbU l m
  | _, _ => false
theorem rx_S_U {ad sa : List Nat} {f : rx_V → rx_V → Bool} (hf : ∀ (a b : rx_V) (x : Value), f a b = true → rx_G ad sa a x → rx_G ad sa b x) : ∀ {a b : List rx_V} {l : List Value}, rx_all2 f a b = true → rx_S ad sa a l → rx_S ad sa b l := by
  intro a
  induction a with
  | nil =>
    intro b l h hs
    cases b with
    | nil => exact hs
    | cons y s => cases h
  | cons x t ih =>
    intro b l h hs
    cases b with
    | nil => cases h
    | cons y s =>
      have h : (f x y && rx_all2 f t s) = true := h
      obtain ⟨h1, h2⟩ := rx_and2 h
      cases l with
      | nil => exact hs.elim
      | cons w l => exact ⟨hf x y w h1 hs.1, ih h2 hs.2⟩
theorem rx_E_U {U : State} {ad sb : List Nat} {tt u : Nat} (hsb : sb.length = 20) (h100 : 100 ≤ u) {a b : rx_C} {E : va_E} (h : rx_csU a b = true) (hE : rx_E U ad (wx_su sb tt u) a E) : rx_E U ad (wx_su sb tt u) b E := by
  rcases a with ⟨i, l⟩ | ⟨i, l⟩ <;> rcases b with ⟨j, m⟩ | ⟨j, m⟩
  · have h : (Nat.beq i j && rx_all2 rx_sbU l m) = true := h
    obtain ⟨h1, h2⟩ := rx_and2 h
    have e := Nat.eq_of_beq_eq_true h1
    subst e
    obtain ⟨fs, g1, g2⟩ := hE
    exact ⟨fs, g1, rx_S_U (fun _ _ _ q => rx_sbU_ok hsb h100 q) h2 g2⟩
  · cases h
  · cases h
  · have h : (Nat.beq i j && rx_all2 rx_sbU l m) = true := h
    obtain ⟨h1, h2⟩ := rx_and2 h
    have e := Nat.eq_of_beq_eq_true h1
    subst e
    obtain ⟨cA, g1, g2⟩ := hE
    refine ⟨cA, g1, ?_⟩
    obtain ⟨hl, hp⟩ := rx_all2_ok h2
    match i, g2 with
    | 0, g2 => obtain ⟨f, q1, q2⟩ := g2; exact ⟨f, by rw [q1]; simp [hl], fun j v hv => by obtain ⟨x, w1, w2⟩ := hp j v hv; exact rx_sbU_ok hsb h100 w2 (q2 j x w1)⟩
    | 1, g2 => obtain ⟨f, q1, q2⟩ := g2; exact ⟨f, by rw [q1]; simp [hl], fun j v hv => by obtain ⟨x, w1, w2⟩ := hp j v hv; exact rx_sbU_ok hsb h100 w2 (q2 j x w1)⟩
    | 2, g2 => obtain ⟨f, q1, q2⟩ := g2; exact ⟨f, by rw [q1]; simp [hl], fun j v hv => by obtain ⟨x, w1, w2⟩ := hp j v hv; exact rx_sbU_ok hsb h100 w2 (q2 j x w1)⟩
    | n + 3, g2 => obtain ⟨f, q1, q2⟩ := g2; exact ⟨f, by rw [q1]; simp [hl], fun j v hv => by obtain ⟨x, w1, w2⟩ := hp j v hv; exact rx_sbU_ok hsb h100 w2 (q2 j x w1)⟩
theorem rx_W_U {U : State} {ad sb : List Nat} {tt u : Nat} (hsb : sb.length = 20) (h100 : 100 ≤ u) {h h' : rx_H} {ws : va_W} (hs : rx_all2 rx_csU h h' = true) (hW : rx_W U ad (wx_su sb tt u) h ws) : rx_W U ad (wx_su sb tt u) h' ws := by
  obtain ⟨g1, g2⟩ := rx_all2_ok hs
  refine ⟨hW.1, by rw [← g1]; exact hW.2.1, fun k c hk => ?_⟩
  obtain ⟨c0, w1, w2⟩ := g2 k c hk
  obtain ⟨a, E, q1, q2⟩ := hW.2.2 k c0 w1
  exact ⟨a, E, q1, rx_E_U hsb h100 w2 q2⟩
theorem rx_Qc_U {wr : Bool} {D : va_G} {sb ad : List Nat} {tt u u' : Nat} {h h' : rx_H} {v v' : Option rx_V} {sz : Nat} (hsb : sb.length = 20) (h100 : 100 ≤ u) (hu : u ≤ u') (hh : rx_all2 rx_csU h h' = true) (hv : wx_sem v v') : ∀ a s o t, rx_Qc wr D (wx_su sb tt u) ad h v sz a s o t → rx_Qc wr D (wx_su sb tt u') ad h' v' sz a s o t := by
  intro a s o t hq
  obtain ⟨r, ad', ws', h1, h2, h3, h4, h5, h6, h7⟩ := hq
  exact ⟨r, ad', ws', h1, hv _ _ _ (rx_O_u hsb hu h2), h3, rx_W_u hsb hu (rx_W_U hsb h100 hh h4), h5, h6, h7⟩
/-- one of two ways to begin -/
theorem wx_Met_or {l : Launch} {y : MethodName} {wl : List Cond} {rm : Room} {P P1 P2 : Array Value → State → Prop} {Q : Array Value → State → Outcome → State → Prop} {mc ms : Nat} {fr : Addr → Prop} (h1 : Met l y wl rm P1 Q mc ms fr) (h2 : Met l y wl rm P2 Q mc ms fr) (hP : ∀ a U, P a U → P1 a U ∨ P2 a U) : Met l y wl rm P Q mc ms fr := by
  intro pr e hA hc hk s m args below hf happ hp hK
  rcases hP _ _ hp with h | h
  · exact h1 pr e hA hc hk s m args below hf happ h hK
  · exact h2 pr e hA hc hk s m args below hf happ h hK
/-! the number of events, cut -/
/-- the world with another number in field f of the object in cell a -/
def wx_cutc (a f : Nat) (v : rx_V) (h : rx_H) : rx_H := match h[a]? with
  | some (.inl (i, l)) => h.set a (.inl (i, l.set f v))
  | _ => h
theorem rx_S_put {ad sa : List Nat} {v w : rx_V} : ∀ {l : List rx_V} {fs : List Value} {f : Nat}, rx_S ad sa l fs → l[f]? = some v → (∀ x, rx_G ad sa v x → fs[f]? = some x → rx_G ad sa w x) → rx_S ad sa (l.set f w) fs
  | [], _, _, _, hv, _ => by simp at hv
  | _ :: _, [], _, h, _, _ => h.elim
  | x :: l, y :: fs, 0, h, hv, hw => by
    cases hv
    exact ⟨hw y h.1 rfl, h.2⟩
  | x :: l, y :: fs, f + 1, h, hv, hw => ⟨h.1, rx_S_put h.2 hv hw⟩
theorem rx_S_nth {ad sa : List Nat} {v : rx_V} : ∀ {l : List rx_V} {fs : List Value} {f : Nat}, rx_S ad sa l fs → l[f]? = some v → ∃ x, fs[f]? = some x ∧ rx_G ad sa v x
  | [], _, _, _, hv => by simp at hv
  | _ :: _, [], _, h, _ => h.elim
  | x :: l, y :: fs, 0, h, hv => by
    cases hv
    exact ⟨y, rfl, h.1⟩
  | x :: l, y :: fs, f + 1, h, hv => rx_S_nth (f := f) h.2 hv
/-- from 0 to k, from k + 1 to 32, or 32 and more -/
theorem wx_ev3 {wr : Bool} {D : va_G} {sb ad : List Nat} {tt u sz a f i k : Nat} {ro : List (List rx_V)} {X : rx_H} {l : List rx_V} {as : List rx_V} (hsb : sb.length = 20) (hk : k ≤ 31) (hX : X[a]? = some (.inl (i, l))) (hf : l[f]? = some (.inr (.inr (.inr 600000)))) : ∀ ar U, rx_Pc wr D (wx_su sb tt u) ad ro X as sz ar U → rx_Pc wr D (wx_su sb tt u) ad ro (wx_cutc a f (.inl (0, (k : Int))) X) as sz ar U ∨ rx_Pc wr D (wx_su sb tt u) ad ro (wx_cutc a f (.inl ((k : Int) + 1, 32)) X) as sz ar U ∨ rx_Pc wr D (wx_su sb tt u) ad ro (wx_cutc a f (.inr (.inr (.inr 600002))) X) as sz ar U := by
  intro ar U hp
  obtain ⟨vs, e, hS, hsz, hK, hN, hRO, hTW, ws, hW, hP, hD⟩ := hp
  obtain ⟨b, E, h1, fs, hE, h2⟩ := hW.2.2 a _ hX
  obtain ⟨x, hx, hG⟩ := rx_S_nth h2 hf
  have hcut : ∀ w, (rx_G ad (wx_su sb tt u) w x) → rx_W U ad (wx_su sb tt u) (wx_cutc a f w X) ws := by
    intro w hw
    unfold wx_cutc
    rw [hX]
    refine rx_W_nar hW hX (fun b' E' q1 q2 => ?_)
    cases h1.symm.trans q1
    obtain ⟨fs', hE', h2'⟩ := q2
    cases hE.symm.trans hE'
    refine ⟨fs, hE, rx_S_put h2 hf (fun x' _ q => ?_)⟩
    cases hx.symm.trans q
    exact hw
  have key : ∀ w, (rx_G ad (wx_su sb tt u) w x) → rx_Pc wr D (wx_su sb tt u) ad ro (wx_cutc a f w X) as sz ar U := fun w hw => ⟨vs, e, hS, hsz, hK, hN, hRO, hTW, ws, hcut w hw, hP, hD⟩
  rcases hG with ⟨h0, -⟩ | ⟨-, -, z, rfl, hz⟩ | ⟨h0, -⟩
  · omega
  · rcases hz with ⟨_, h0, _⟩ | ⟨_, h0, _⟩ | ⟨_, h0, _⟩ | ⟨_, h0, _⟩ | ⟨_, _, w, w1, w2, w3⟩ | ⟨h0, _⟩
    · omega
    · omega
    · omega
    · omega
    · rw [wx_su20 hsb] at w1
      cases w1
      have u2 : rx_uh 600000 = 0 := rfl
      have u3 : rx_ul 600000 = 0 := rfl
      rw [u3] at w2
      rw [u2] at w3
      by_cases c1 : z.toInt ≤ (k : Int)
      · exact Or.inl (key _ ⟨z, rfl, by show (0 : Int) ≤ z.toInt; omega, c1⟩)
      · by_cases c2 : z.toInt ≤ 32
        · exact Or.inr (Or.inl (key _ ⟨z, rfl, by show (k : Int) + 1 ≤ z.toInt; omega, c2⟩))
        · refine Or.inr (Or.inr (key _ (Or.inr (Or.inl ⟨by omega, by omega, z, rfl, Or.inr (Or.inr (Or.inr (Or.inr (Or.inl ⟨by omega, by omega, u, wx_su20 hsb, ?_, ?_⟩))))⟩))))
          · have u5 : rx_ul 600002 = 32 := rfl
            rw [u5]
            omega
          · have u4 : rx_uh 600002 = 0 := rfl
            rw [u4]
            omega
    · omega
  · omega
theorem wx_cutc_Ph {Φ : rx_H → rx_H} (hΦ : wx_Ph Φ) {h : rx_H} {a f i : Nat} {l : List rx_V} {v : rx_V} (hk : h[a]? = some (.inl (i, l))) (hv : wx_nh v = true) : Φ (wx_cutc a f v h) = wx_cutc a f v (Φ h) := by
  obtain ⟨fs', g1, -, -, g4⟩ := hΦ.1 h a i l hk
  unfold wx_cutc
  rw [hk, g1]
  exact g4 f v hv
theorem rx_set_id {α : Type} {X : List α} {a : Nat} {x : α} (h : X[a]? = some x) : X.set a x = X := by
  apply List.ext_getElem?
  intro i
  by_cases e : a = i
  · subst e
    rw [List.getElem?_set_self (List.getElem?_eq_some_iff.mp h).1, h]
  · rw [List.getElem?_set_ne e]
/-- back from a cut -/
theorem wx_cutc_W {U : State} {ad sa : List Nat} {X : rx_H} {a f i : Nat} {l : List rx_V} {v w : rx_V} {ws : va_W} (hX : X[a]? = some (.inl (i, l))) (hf : l[f]? = some v) (hv : ∀ x, rx_G ad sa w x → rx_G ad sa v x) (hW : rx_W U ad sa (wx_cutc a f w X) ws) : rx_W U ad sa X ws := by
  unfold wx_cutc at hW
  rw [hX] at hW
  refine rx_W_cell hW hX (fun E hE => ?_)
  obtain ⟨fs, h1, h2⟩ := hE
  have hl := (List.getElem?_eq_some_iff.mp hf).1
  have h3 : rx_S ad sa ((l.set f w).set f v) fs := rx_S_put h2 (List.getElem?_set_self hl) (fun x hx _ => hv x hx)
  rw [List.set_set, rx_set_id hf] at h3
  exact ⟨fs, h1, h3⟩
theorem wx_cutc_Q {wr : Bool} {D : va_G} {sb ad : List Nat} {tt u sz a f i : Nat} {X : rx_H} {l : List rx_V} {w : rx_V} {v1 v2 : Option rx_V} (hsb : sb.length = 20) (h100 : 100 ≤ u) (hX : X[a]? = some (.inl (i, l))) (hf : l[f]? = some (.inr (.inr (.inr 600000)))) (hw : rx_sbU w (.inr (.inr (.inr 600000))) = true) (hv : wx_sem v1 v2) : ∀ ar s o t, rx_Qc wr D (wx_su sb tt u) ad (wx_cutc a f w X) v1 sz ar s o t → rx_Qc wr D (wx_su sb tt u) ad X v2 sz ar s o t := by
  intro ar s o t hq
  obtain ⟨r, ad', ws', h1, h2, h3, h4, h5, h6, h7⟩ := hq
  exact ⟨r, ad', ws', h1, hv _ _ _ h2, h3, wx_cutc_W hX hf (fun x hx => rx_sbU_ok hsb h100 hw hx) h4, h5, h6, h7⟩
