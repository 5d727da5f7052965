/-! STRAIGHT ON TO A PLACE; WIDER STATES; A CONTRACT BESIDE OTHER CELLS -/
abbrev rx_Z : Type := rx_H × rx_F × List rx_V
noncomputable def rx_cut (wr : Bool) (ro : List (List rx_V)) (tab : rx_Tab) (stop : Nat) (n : Nat) : Nat → rx_H → rx_F → List rx_V → Option rx_Z :=
  Nat.rec (motive := fun _ => Nat → rx_H → rx_F → List rx_V → Option rx_Z) (fun _ _ _ _ => none)
    (fun _ ih pc h L st => bif Nat.beq pc stop then some (h, L, st) else Option.rec (motive := fun _ => Option rx_Z) none (fun row => rx_step wr ro rx_dfs row pc h L st
      (fun pc' h' L' st' dc ds => bif Nat.beq dc 0 && Nat.beq ds 0 then ih pc' h' L' st' else none) (fun _ _ _ => none) (fun _ => none) (fun _ => none)) (tab pc)) n
theorem rx_cut_eq {wr : Bool} {ro : List (List rx_V)} {tab : rx_Tab} {stop n pc : Nat} {h : rx_H} {L : rx_F} {st : List rx_V} : rx_cut wr ro tab stop (n + 1) pc h L st = bif Nat.beq pc stop then some (h, L, st) else Option.rec (motive := fun _ => Option rx_Z) none (fun row => rx_step wr ro rx_dfs row pc h L st
      (fun pc' h' L' st' dc ds => bif Nat.beq dc 0 && Nat.beq ds 0 then rx_cut wr ro tab stop n pc' h' L' st' else none) (fun _ _ _ => none) (fun _ => none) (fun _ => none)) (tab pc) := rfl
theorem rx_cut_ok {p : Program} {l : Launch} {e : Env} {R : Room} {s : State} {m : MethodId} {args : Array Value} {below : List Frame} {meth : Method} {c : Code} {Q : State → Prop} {D : va_G} {A B : Nat → Prop} {wr : Bool} {sa ad0 : List Nat} {ro : List (List rx_V)} {mt : rx_MT} {xM : List rx_MT} {stop : Nat} {h1 : rx_H} {L1 : rx_F} {st1 : List rx_V} {cells slots : Nat} (C : rx_Cx p s m args meth c D A B wr sa ro mt) (ok : rx_MOk xM mt) (hob : Jvm.Cond.instanceMethod Lib.objectInit ∈ rx_bw ∧ Jvm.Cond.code Lib.objectInit ⟨#[0xb1]⟩ 1 none ∈ rx_bw) (hRm : R.frames = mt.2.2.2.2.2.2.1 ∧ R.locals = mt.2.2.2.2.2.2.2.1) (hR : cells ≤ R.cells ∧ slots ≤ R.slots) (hgo : rx_Go p l e R s m args below meth c Q D A B sa ad0 mt stop h1 L1 st1 cells slots) :
    ∀ (n pc : Nat) (h : rx_H) (L : rx_F) (st : List rx_V), rx_cut wr ro mt.2.2.2.2.2.1 stop n pc h L st = some (h1, L1, st1) → rx_Go p l e R s m args below meth c Q D A B sa ad0 mt pc h L st cells slots := by
  intro n
  induction n with
  | zero => intro pc h L st hs; cases hs
  | succ n ih =>
    intro pc h L st hs
    rw [rx_cut_eq] at hs
    rcases rx_bif2 hs with ⟨g1, hs⟩ | ⟨-, hs⟩
    · cases hs
      have e1 := Nat.eq_of_beq_eq_true g1
      subst e1
      exact hgo
    · cases hr : mt.2.2.2.2.2.1 pc with
      | none => rw [hr] at hs; cases hs
      | some row =>
        rw [hr] at hs
        refine rx_step_ok C (ok.1 pc row hr) hob hRm (fun pc' h' L' st' dc ds q => ?_) (fun _ _ _ _ _ _ _ _ q => by cases q) (fun _ _ _ _ _ q => by cases q) (fun _ _ _ _ _ _ q => by cases q) (fun _ _ q => by cases q) (fun _ _ q => by cases q) (fun _ _ q => by cases q) (fun _ q => by cases q) (fun _ _ _ _ q => by cases q) hs
        obtain ⟨g2, q⟩ := rx_bif q
        obtain ⟨g2, g3⟩ := rx_and2 g2
        have e2 := Nat.eq_of_beq_eq_true g2
        have e3 := Nat.eq_of_beq_eq_true g3
        subst e2; subst e3
        exact ⟨hR, ih _ _ _ _ q⟩
