/-! ONE ROW OF THE WIDE MACHINE, AND ITS RUN -/
abbrev wx_Kt : Type := Nat → Nat → rx_H → rx_F → List rx_V → Option wx_R
noncomputable def wx_st (wr : Bool) (ro : List (List rx_V)) (row : rx_Row) (pc d : Nat) (h : rx_H) (L : rx_F) (st : List rx_V) (k : wx_Kt) : Option wx_R :=
  bif wx_pl row.1 then rx_step wr ro rx_dfs row pc [] L st (fun pc' _ L' st' dc ds => bif Nat.beq dc 0 && Nat.beq ds 0 then k pc' d h L' st' else none) (fun _ _ _ => none) (fun _ => none) (fun _ => none) else none
noncomputable def wx_br (t : Option (Option Bool)) (q tg np d : Nat) (h : rx_H) (L : rx_F) (r : List rx_V) (k : wx_Kt) (fk : Nat → List wx_Alt → Option wx_R) : Option wx_R := match t with
  | some (some true) => k tg d h L r
  | some (some false) => k np d h L r
  | some none => fk q [(tg, h, L, r), (np, h, L, r)]
  | none => none
/-- reading a local, with a split where the row wants one -/
noncomputable def wx_ld (wr : Bool) (ro : List (List rx_V)) (bx : Nat → rx_H → List rx_H) (row : rx_Row) (pc d : Nat) (h : rx_H) (L : rx_F) (st : List rx_V) (k : wx_Kt) (fk : Nat → List wx_Alt → Option wx_R) : Option wx_R :=
  bif Nat.beq row.2.2.2.1 1 then (match wx_sp L row.2.2.2.2.2.1 row.2.2.2.2.2.2 with
    | some (a, b) => fk row.2.2.2.2.1 [(pc, h, a, st), (pc, h, b, st)]
    | none => wx_st wr ro row pc d h L st k)
  else bif Nat.beq row.2.2.2.1 2 then (match wx_sn L row.2.2.2.2.2.1 with
    | some (a, b) => fk row.2.2.2.2.1 [(pc, h, a, st), (pc, h, b, st)]
    | none => wx_st wr ro row pc d h L st k)
  else bif Nat.beq row.2.2.2.1 3 then (match L[row.2.2.2.2.2.1]? with
    | some (some (.inl q)) => bif rx_one q then wx_st wr ro row pc d h L st (fun pc' _ h' L' st' => fk row.2.2.2.2.1 ((bx q.1.toNat h').map fun x => (pc', x, L', st'))) else none
    | _ => none)
  else bif Nat.beq row.2.2.2.1 5 then wx_st wr ro row pc d h L st (fun pc' _ h' L' st' => fk row.2.2.2.2.1 ((bx row.2.2.2.2.2.1 h').map fun x => (pc', x, L', st')))
  else wx_st wr ro row pc d h L st k
noncomputable def wx_call (orc : wx_Orc) (t0 : rx_H) (dm np d : Nat) (h : rx_H) (L : rx_F) (j : Nat) (as r : List rx_V) (k : wx_Kt) : Option wx_R := match orc j h as with
  | some (v, dj, kp) => bif Nat.ble (d + dj) dm then rx_fN (d + dj) fun d' => k np d' (bif kp then h else t0) L (rx_ol v r) else none
  | none => none
def wx_cls (h : rx_H) (ci k : Nat) : Bool := match h[k]? with
  | some (.inl (c, _)) => Nat.beq c ci
  | _ => false
def wx_ffit (v : rx_V) (o : Option rx_V) : Bool := match o with
  | some x => wx_nh x && rx_sb v x
  | none => false
def wx_rfit (w : rx_V) (o : Option rx_V) : Bool := match o with
  | some x => wx_nh x && rx_sb x w
  | none => false
noncomputable def wx_pf (wr : Bool) (t0 : rx_H) (dm : Nat) (row : rx_Row) (d : Nat) (h : rx_H) (L : rx_F) (v : rx_V) (a n : Nat) (r : List rx_V) (k : wx_Kt) : Option wx_R :=
  bif wr && (Nat.beq row.2.2.2.1 1 || Nat.beq row.2.2.2.1 14) then
    (bif rx_eV v (.inr (.inr (.inr 600001))) then (bif Nat.beq n 1 && (Nat.beq row.2.2.2.2.2.2.toNat 0 && Nat.ble (d + 1) dm) then (match wx_fld h row.2.2.2.2.1 row.2.2.2.2.2.1 a with
        | some x => bif rx_eV x (.inr (.inr (.inr 600000))) then rx_fN (d + 1) fun d' => k row.2.1 d' h L r else none
        | none => none) else none)
    else bif rx_fit row.2.2.2.2.2.2.toNat v then (bif wx_sf row.2.2.2.2.1 row.2.2.2.2.2.1 && Nat.beq n 1 then (bif wx_nh v && wx_ffit v (wx_fld t0 row.2.2.2.2.1 row.2.2.2.2.2.1 a) then (match h[a]? with
          | some (.inl (c, fs)) => bif Nat.beq c row.2.2.2.2.1 && Nat.ble (row.2.2.2.2.2.1 + 1) fs.length then k row.2.1 d (h.set a (.inl (c, fs.set row.2.2.2.2.2.1 v))) L r else none
          | _ => none) else none)
      else bif wx_fa (fun i => wx_ffit v (wx_fld h row.2.2.2.2.1 row.2.2.2.2.2.1 i)) a n then k row.2.1 d h L r else none)
    else none) else none
noncomputable def wx_row (wr : Bool) (orc : wx_Orc) (ro : List (List rx_V)) (bx : Nat → rx_H → List rx_H) (win : List rx_V) (t0 : rx_H) (dm : Nat) (row : rx_Row) (pc d : Nat) (h : rx_H) (L : rx_F) (st : List rx_V) (k : wx_Kt) (fk : Nat → List wx_Alt → Option wx_R) (rt : Option rx_V → Option wx_R) : Option wx_R :=
  match row.1 with
  | .ifCond c _ => match st with
    | a :: r => wx_br (wx_cmp c a (.inl (0, 0))) row.2.2.2.2.1 row.2.2.1 row.2.1 d h L r k fk
    | _ => none
  | .if_icmp c _ => match st with
    | b :: a :: r => wx_br (wx_cmp c a b) row.2.2.2.2.1 row.2.2.1 row.2.1 d h L r k fk
    | _ => none
  | .ifnull _ => match st with
    | .inr (.inr (.inr j)) :: r => bif Nat.ble 1000000 j then (bif Nat.beq (rx_on j) 0 then k row.2.1 d h L r else fk row.2.2.2.2.1 [(row.2.2.1, h, L, r), (row.2.1, h, L, r)]) else none
    | _ => wx_st wr ro row pc d h L st k
  | .ifnonnull _ => match st with
    | .inr (.inr (.inr j)) :: r => bif Nat.ble 1000000 j then (bif Nat.beq (rx_on j) 0 then k row.2.2.1 d h L r else fk row.2.2.2.2.1 [(row.2.2.1, h, L, r), (row.2.1, h, L, r)]) else none
    | _ => wx_st wr ro row pc d h L st k
  | .tableswitch dd lo hi offs => match st with
    | .inl q :: r => bif (dd :: offs.toList).all (fun o => rx_le 0 ((pc : Int) + o)) && rx_le (hi - lo + 1) offs.toList.length then (match rx_sw dd lo hi offs q with
      | some o => bif rx_le 0 ((pc : Int) + o) then k ((pc : Int) + o).toNat d h L r else none
      | none => fk row.2.2.2.2.1 ((dd :: offs.toList).map fun o => (((pc : Int) + o).toNat, h, L, r))) else none
    | _ => none
  | .iload _ => wx_ld wr ro bx row pc d h L st k fk
  | .iload_n _ => wx_ld wr ro bx row pc d h L st k fk
  | .lload _ => wx_ld wr ro bx row pc d h L st k fk
  | .lload_n _ => wx_ld wr ro bx row pc d h L st k fk
  | .aload _ => wx_ld wr ro bx row pc d h L st k fk
  | .aload_n _ => wx_ld wr ro bx row pc d h L st k fk
  | .getfield _ => match st with
    | o :: r => (match wx_cs o with
      | some (a, n) => (match wx_fld h row.2.2.2.2.1 row.2.2.2.2.2.1 a with
        | some w => bif (Nat.beq row.2.2.2.1 1 || Nat.beq row.2.2.2.1 14) && wx_fa (fun i => wx_rfit w (wx_fld h row.2.2.2.2.1 row.2.2.2.2.2.1 i)) a n then wx_ps (rx_eI row.2.2.2.2.2.2 1) w fun x => k row.2.1 d h L (x :: r) else none
        | none => none)
      | none => none)
    | _ => none
  | .putfield _ => match st with
    | v :: o :: r => (match wx_cs o with
      | some (a, n) => wx_pf wr t0 dm row d h L v a n r k
      | none => none)
    | _ => none
  | .iaload => match st with
    | .inl q :: .inr (.inr (.inl (some a))) :: r => (match wx_arr h a with
      | some (tc, l) => bif Nat.beq tc 0 then wx_at l q fun v => k row.2.1 d h L (v :: r) else none
      | none => none)
    | .inl q :: .inr (.inr (.inr j)) :: r => bif Nat.ble j 19 then rx_get ro j fun l => wx_at l q fun v => k row.2.1 d h L (v :: r) else none
    | .inr (.inr (.inr i)) :: .inr (.inr (.inr j)) :: r => bif Nat.beq j 4 && (Nat.ble 650000 i && Nat.ble i 650004) then rx_get win (i - 650000) fun v => k row.2.1 d h L (v :: r) else none
    | _ => none
  | .baload => match st with
    | .inl q :: .inr (.inr (.inl (some a))) :: r => (match wx_arr h a with
      | some (tc, l) => bif Nat.beq tc 1 then wx_at l q fun v => k row.2.1 d h L (v :: r) else none
      | none => none)
    | _ => none
  | .aaload => match st with
    | .inl q :: .inr (.inr (.inl (some a))) :: r => (match wx_arr h a with
      | some (tc, l) => bif Nat.ble 3 tc then wx_at l q fun v => k row.2.1 d h L (v :: r) else none
      | none => none)
    | _ => none
  | .iastore => match st with
    | .inl v :: .inl q :: .inr (.inr (.inl (some a))) :: r => bif wr then (match wx_arr h a with
      | some (tc, l) => bif Nat.beq tc 0 then (bif Nat.beq row.2.2.2.1 6 && (rx_one q && rx_le q.1 q.2) then (match wx_arr t0 a with
          | some (_, l0) => bif wx_put l0 q (.inl v) && Nat.ble (q.1.toNat + 1) l.length then k row.2.1 d (h.set a (.inr (tc, l.set q.1.toNat (.inl v)))) L r else none
          | none => none) else bif wx_put l q (.inl v) then k row.2.1 d h L r else none) else none
      | none => none) else none
    | _ => none
  | .bastore => match st with
    | .inl v :: .inl q :: .inr (.inr (.inl (some a))) :: r => bif wr && rx_bool v then (match wx_arr h a with
      | some (tc, l) => bif Nat.beq tc 1 && wx_put l q (.inl v) then k row.2.1 d h L r else none
      | none => none) else none
    | _ => none
  | .lastore => match st with
    | .inr (.inl v) :: .inl q :: .inr (.inr (.inl (some a))) :: r => bif wr then (match wx_arr h a with
      | some (tc, l) => bif Nat.beq tc 2 && wx_put l q (.inr (.inl v)) then k row.2.1 d h L r else none
      | none => none) else none
    | _ => none
  | .iadd => match st with
    | .inl b :: .inr (.inr (.inr j)) :: r => bif Nat.beq j 600000 && (Nat.ble (d + 1) dm && (rx_le 1 b.1 && rx_le b.2 1)) then k row.2.1 d h L (.inr (.inr (.inr 600001)) :: r) else bif Nat.beq j 650000 && (rx_one b && (rx_le 0 b.1 && rx_le b.1 4)) then rx_fN (650000 + b.1.toNat) fun z => k row.2.1 d h L (.inr (.inr (.inr z)) :: r) else none
    | _ => wx_st wr ro row pc d h L st k
  | .irem => match st with
    | .inl b :: .inr (.inr (.inr j)) :: r => bif Nat.beq j 600000 && (rx_one b && rx_le 1 b.1) then rx_pI (0, b.1 - 1) fun v => k row.2.1 d h L (v :: r) else none
    | _ => wx_st wr ro row pc d h L st k
  | .iand => match st with
    | .inl b :: .inl a :: r => bif rx_one b && (rx_le 0 b.1 && !(rx_one a)) then rx_pI (0, b.1) fun v => k row.2.1 d h L (v :: r) else wx_st wr ro row pc d h L st k
    | _ => wx_st wr ro row pc d h L st k
  | .ldiv => match st with
    | .inr (.inl b) :: .inr (.inl a) :: r => bif rx_le b.2 (-1) then k row.2.1 d h L (.inr (.inl rx_topL) :: r) else wx_st wr ro row pc d h L st k
    | _ => none
  | .invokevirtual _ => bif Nat.beq row.2.2.2.1 5 then rx_pop row.2.2.2.2.2.1 st [] fun as r => bif Nat.ble (rx_cats r) 8 then (match as with
      | o :: _ => (match wx_cs o with
        | some (a, n) => bif wx_fa (wx_cls h row.2.2.2.2.2.2.toNat) a n then wx_call orc t0 dm row.2.1 d h L row.2.2.2.2.1 as r k else none
        | none => none)
      | _ => none) else none else none
  | .invokestatic _ => bif Nat.beq row.2.2.2.1 6 || Nat.beq row.2.2.2.1 8 then rx_pop row.2.2.2.2.2.1 st [] fun as r => bif Nat.ble (rx_cats r) 8 then wx_call orc t0 dm row.2.1 d h L row.2.2.2.2.1 as r k else none else bif Nat.ble 20 row.2.2.2.1 then rx_math row.2.2.2.1 st fun st' => k row.2.1 d h L st' else none
  | .ireturn => match st with
    | [.inl q] => bif Nat.beq row.2.2.2.2.1 0 || rx_bool q then rt (some (.inl q)) else none
    | _ => none
  | .lreturn => match st with
    | [.inr (.inl q)] => rt (some (.inr (.inl q)))
    | _ => none
  | .areturn => match st with
    | [.inr (.inr q)] => bif rx_isr q then rt (some (.inr (.inr q))) else none
    | _ => none
  | .return_ => match st with
    | [] => rt none
    | _ => none
  | _ => wx_st wr ro row pc d h L st k
noncomputable def wx (wr : Bool) (orc : wx_Orc) (ro : List (List rx_V)) (bx : Nat → rx_H → List rx_H) (win : List rx_V) (t0 : rx_H) (dm n : Nat) : rx_Tab → Nat → Nat → Nat → rx_H → rx_F → List rx_V → Option wx_R :=
  Nat.rec (motive := fun _ => rx_Tab → Nat → Nat → Nat → rx_H → rx_F → List rx_V → Option wx_R) (fun _ _ _ _ _ _ _ => none)
    (fun _ ih tab stop pc d h L st => bif Nat.beq pc stop then some (some (d, L, st), none) else Option.rec (motive := fun _ => Option wx_R) none (fun row => wx_row wr orc ro bx win t0 dm row pc d h L st
      (fun pc' d' h' L' st' => ih tab stop pc' d' h' L' st')
      (fun q alts => wx_then stop q (fun s => ih tab stop q s.1 t0 s.2.1 s.2.2) (wx_alts (fun a => ih tab q a.1 d a.2.1 a.2.2.1 a.2.2.2) alts))
      (fun v => some (none, some (d, v)))) (tab pc)) n
theorem wx_eq {wr : Bool} {orc : wx_Orc} {ro : List (List rx_V)} {bx : Nat → rx_H → List rx_H} {win : List rx_V} {t0 : rx_H} {dm n : Nat} {tab : rx_Tab} {stop pc d : Nat} {h : rx_H} {L : rx_F} {st : List rx_V} : wx wr orc ro bx win t0 dm (n + 1) tab stop pc d h L st = bif Nat.beq pc stop then some (some (d, L, st), none) else Option.rec (motive := fun _ => Option wx_R) none (fun row => wx_row wr orc ro bx win t0 dm row pc d h L st
      (fun pc' d' h' L' st' => wx wr orc ro bx win t0 dm n tab stop pc' d' h' L' st')
      (fun q alts => wx_then stop q (fun s => wx wr orc ro bx win t0 dm n tab stop q s.1 t0 s.2.1 s.2.2) (wx_alts (fun a => wx wr orc ro bx win t0 dm n tab q a.1 d a.2.1 a.2.2.1 a.2.2.2) alts))
      (fun v => some (none, some (d, v)))) (tab pc) := rfl
