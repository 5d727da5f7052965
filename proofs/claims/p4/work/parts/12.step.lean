/-! ONE INSTRUCTION. A row of a method's table: the instruction, where it goes on, where it branches to, what its entry of the pool means (a kind and three numbers). -/
abbrev rx_K : Type := Nat × Nat × Nat × Int
abbrev rx_Row : Type := Instr × Nat × Nat × rx_K
abbrev rx_Tab : Type := Nat → Option rx_Row
def rx_cat (v : rx_V) : Nat := match v with
  | .inr (.inl _) => 2
  | _ => 1
def rx_cats (st : List rx_V) : Nat := (st.map rx_cat).sum
/-- no long that a store into place i would cut -/
def rx_pv (L : rx_F) (i : Nat) : Bool := match i with
  | 0 => true
  | j + 1 => match L[j]? with
    | some (some (.inr (.inl _))) => false
    | _ => true
def rx_bool (q : Int × Int) : Bool := rx_le 0 q.1 && rx_le q.2 1
/-- one of the cells a to b, or null too: a number from 1000000 on -/
def rx_oa (j : Nat) : Nat := (j - 1000000) / 8192
def rx_ob (j : Nat) : Nat := (j - 1000000) / 2 % 4096
def rx_on (j : Nat) : Nat := (j - 1000000) % 2
/-- a number of events: 600000: from 0 to u; 600001: to u + 1; 600002: from 32 to u -/
def rx_ul (j : Nat) : Nat := bif Nat.beq j 600002 then 32 else 0
def rx_uh (j : Nat) : Nat := bif Nat.beq j 600001 then 1 else 0
/-- a true reference (numbers from 200000 to 999999 are ints of which something is known) -/
def rx_isr (q : Option Nat ⊕ Nat) : Bool := match q with
  | .inl _ => true
  | .inr j => Nat.ble j 19 || Nat.ble 1000000 j
/-- bits of an int: 200000 + w: the four lowest pairs; 300000 + c: the lowest pair; 400000 + c: the five lowest -/
def rx_dg (j m : Nat) : Nat := (j - 200000) / 4 ^ m % 4
/-- a value fits a field or an array of the kind t: 0 int, 1 boolean, 2 long, else a reference -/
def rx_fit (t : Nat) (v : rx_V) : Bool := match v with
  | .inl q => (t == 0) || ((t == 1) && rx_bool q)
  | .inr (.inl _) => t == 2
  | .inr (.inr q) => (t == 3) && rx_isr q
def rx_dfl (t : Nat) : rx_V := match t with
  | 0 => .inl (0, 0)
  | 1 => .inl (0, 0)
  | 2 => .inr (.inl (0, 0))
  | _ => .inr (.inr (.inl none))
noncomputable def rx_jump {β : Type} (t : Option Bool) (a b : Option β) : Option β := match t with
  | none => none
  | some true => a
  | some false => b
/-- an array's place, by a known index -/
noncomputable def rx_at {α β : Type} (l : List α) (q : Int × Int) (k : α → Option β) : Option β := bif rx_one q && rx_le 0 q.1 then rx_get l q.1.toNat k else none
noncomputable def rx_put {α β : Type} (l : List α) (q : Int × Int) (x : α) (k : List α → Option β) : Option β := bif rx_one q && rx_le 0 q.1 then rx_set l q.1.toNat x k else none
noncomputable def rx_bin {β : Type} (st : List rx_V) (f : Int × Int → Int × Int → Int × Int) (k : List rx_V → Option β) : Option β := match st with
  | .inl b :: .inl a :: r => rx_pI (f a b) fun v => k (v :: r)
  | _ => none
noncomputable def rx_binL {β : Type} (st : List rx_V) (f : Int × Int → Int × Int → Int × Int) (k : List rx_V → Option β) : Option β := match st with
  | .inr (.inl b) :: .inr (.inl a) :: r => rx_pL (f a b) fun v => k (v :: r)
  | _ => none
/-- the same, the topmost above 0 -/
noncomputable def rx_binD {β : Type} (st : List rx_V) (f : Int × Int → Int × Int → Int × Int) (k : List rx_V → Option β) : Option β := match st with
  | .inl b :: .inl a :: r => bif rx_le 1 b.1 then rx_pI (f a b) fun v => k (v :: r) else none
  | _ => none
noncomputable def rx_ldI {β : Type} (L : rx_F) (i : Nat) (k : rx_V → Option β) : Option β := rx_get L i fun o => match o with
  | some (.inl q) => k (.inl q)
  | some (.inr (.inr (.inr j))) => bif Nat.ble 200000 j && Nat.ble j 999999 then k (.inr (.inr (.inr j))) else none
  | _ => none
noncomputable def rx_ldL {β : Type} (L : rx_F) (i : Nat) (k : rx_V → Option β) : Option β := rx_get L i fun o => match o with
  | some (.inr (.inl q)) => k (.inr (.inl q))
  | _ => none
noncomputable def rx_ldA {β : Type} (L : rx_F) (i : Nat) (k : rx_V → Option β) : Option β := rx_get L i fun o => match o with
  | some (.inr (.inr q)) => bif rx_isr q then k (.inr (.inr q)) else none
  | _ => none
noncomputable def rx_stI {β : Type} (L : rx_F) (i : Nat) (st : List rx_V) (k : rx_F → List rx_V → Option β) : Option β := match st with
  | .inl q :: r => bif rx_pv L i then rx_set L i (some (.inl q)) fun L' => k L' r else none
  | _ => none
noncomputable def rx_stA {β : Type} (L : rx_F) (i : Nat) (st : List rx_V) (k : rx_F → List rx_V → Option β) : Option β := match st with
  | .inr (.inr q) :: r => bif rx_isr q && rx_pv L i then rx_set L i (some (.inr (.inr q))) fun L' => k L' r else none
  | _ => none
noncomputable def rx_stL {β : Type} (L : rx_F) (i : Nat) (st : List rx_V) (k : rx_F → List rx_V → Option β) : Option β := match st with
  | .inr (.inl q) :: r => bif rx_pv L i then rx_set L i (some (.inr (.inl q))) fun L' => rx_set L' (i + 1) none fun L'' => k L'' r else none
  | _ => none
/-- Math.max, min, abs -/
def rx_mx (a b : Int × Int) : Int × Int := (rx_max a.1 b.1, rx_max a.2 b.2)
def rx_mn (a b : Int × Int) : Int × Int := (rx_min a.1 b.1, rx_min a.2 b.2)
def rx_ab (a : Int × Int) : Int × Int := bif rx_le 0 a.1 then a else rx_i32 (bif rx_le a.2 0 then (-a.2, -a.1) else (0, rx_max (-a.1) a.2))
noncomputable def rx_math {β : Type} (t : Nat) (st : List rx_V) (k : List rx_V → Option β) : Option β := match st with
  | .inl b :: .inl a :: r => bif Nat.ble (rx_cats r) 8 then (bif t == 20 then rx_pI (rx_mx a b) fun v => k (v :: r) else bif t == 21 then rx_pI (rx_mn a b) fun v => k (v :: r) else bif t == 22 then rx_pI (rx_ab b) fun v => k (v :: .inl a :: r) else none) else none
  | .inr (.inl b) :: .inr (.inl a) :: r => bif Nat.ble (rx_cats r) 8 then (bif t == 23 then rx_pL (rx_mx a b) fun v => k (v :: r) else bif t == 24 then rx_pL (rx_mn a b) fun v => k (v :: r) else none) else none
  | .inl b :: r => bif Nat.ble (rx_cats r) 8 && (t == 22) then rx_pI (rx_ab b) fun v => k (v :: r) else none
  | _ => none
/-- a table switch's way out -/
def rx_sw (d lo hi : Int) (offs : Array Int) (q : Int × Int) : Option Int := bif rx_le lo q.1 && rx_le q.2 hi then (bif rx_one q then offs[(q.1 - lo).toNat]? else none) else bif rx_le lo q.2 && rx_le q.1 hi then none else some d
noncomputable def rx_step {β : Type} (wr : Bool) (ro : List (List rx_V)) (dfs : Nat → List Nat) (row : rx_Row) (pc : Nat) (h : rx_H) (L : rx_F) (st : List rx_V) (k : Nat → rx_H → rx_F → List rx_V → Nat → Nat → Option β) (call : Nat → List rx_V → List rx_V → Option β) (ret : Option rx_V → Option β) (thr : Nat → Option β) : Option β :=
  match row.1 with
  | .iconst n => bif rx_le (-1) n && rx_le n 5 then rx_pI (n, n) fun v => k row.2.1 h L (v :: st) 0 0 else none
  | .bipush n => bif rx_le (-128) n && rx_le n 127 then rx_pI (n, n) fun v => k row.2.1 h L (v :: st) 0 0 else none
  | .sipush n => bif rx_le (-32768) n && rx_le n 32767 then rx_pI (n, n) fun v => k row.2.1 h L (v :: st) 0 0 else none
  | .lconst n => rx_pL (((n : Nat) : Int), ((n : Nat) : Int)) fun v => k row.2.1 h L (v :: st) 0 0
  | .aconst_null => k row.2.1 h L (.inr (.inr (.inl none)) :: st) 0 0
  | .ldc _ => bif row.2.2.2.1 == 3 then rx_pI (row.2.2.2.2.2.2, row.2.2.2.2.2.2) fun v => k row.2.1 h L (v :: st) 0 0 else none
  | .ldc_w _ => bif row.2.2.2.1 == 3 then rx_pI (row.2.2.2.2.2.2, row.2.2.2.2.2.2) fun v => k row.2.1 h L (v :: st) 0 0 else none
  | .ldc2_w _ => bif row.2.2.2.1 == 4 then rx_pL (row.2.2.2.2.2.2, row.2.2.2.2.2.2) fun v => k row.2.1 h L (v :: st) 0 0 else none
  | .iload_n i => rx_ldI L i fun v => k row.2.1 h L (v :: st) 0 0
  | .iload i => rx_ldI L i fun v => k row.2.1 h L (v :: st) 0 0
  | .lload_n i => rx_ldL L i fun v => k row.2.1 h L (v :: st) 0 0
  | .lload i => rx_ldL L i fun v => k row.2.1 h L (v :: st) 0 0
  | .aload_n i => rx_ldA L i fun v => k row.2.1 h L (v :: st) 0 0
  | .aload i => rx_ldA L i fun v => k row.2.1 h L (v :: st) 0 0
  | .istore_n i => rx_stI L i st fun L' r => k row.2.1 h L' r 0 0
  | .istore i => rx_stI L i st fun L' r => k row.2.1 h L' r 0 0
  | .lstore_n i => rx_stL L i st fun L' r => k row.2.1 h L' r 0 0
  | .lstore i => rx_stL L i st fun L' r => k row.2.1 h L' r 0 0
  | .astore_n i => rx_stA L i st fun L' r => k row.2.1 h L' r 0 0
  | .astore i => rx_stA L i st fun L' r => k row.2.1 h L' r 0 0
  | .iinc i n => bif rx_le (-32768) n && rx_le n 32767 && rx_pv L i then rx_get L i fun o => (match o with
      | some (.inl q) => rx_pI (rx_i32 (rx_add q (n, n))) fun v => rx_set L i (some v) fun L' => k row.2.1 h L' st 0 0
      | _ => none) else none
  | .iadd => rx_bin st (fun a b => rx_i32 (rx_add a b)) fun st' => k row.2.1 h L st' 0 0
  | .isub => rx_bin st (fun a b => rx_i32 (rx_sub a b)) fun st' => k row.2.1 h L st' 0 0
  | .imul => rx_bin st (fun a b => rx_i32 (rx_mul rx_top a b)) fun st' => k row.2.1 h L st' 0 0
  | .iand => match st with
    | .inl b :: .inr (.inr (.inr j)) :: r => bif rx_one b && (rx_le 3 b.1 && rx_le b.1 3) && (Nat.ble 300000 j && Nat.ble j 399999) then rx_fN (j - 300000) fun z => k row.2.1 h L (.inl ((z : Int), (z : Int)) :: r) 0 0 else
      bif rx_one b && (rx_le 31 b.1 && rx_le b.1 31) && (Nat.ble 400000 j && Nat.ble j 499999) then rx_fN (j - 400000) fun z => k row.2.1 h L (.inl ((z : Int), (z : Int)) :: r) 0 0 else none
    | _ => rx_bin st (rx_bit (fun x y => x &&& y)) fun st' => k row.2.1 h L st' 0 0
  | .ior => rx_bin st (rx_bit (fun x y => x ||| y)) fun st' => k row.2.1 h L st' 0 0
  | .ixor => rx_bin st (rx_bit (fun x y => x ^^^ y)) fun st' => k row.2.1 h L st' 0 0
  | .ishl => rx_bin st (rx_bit (fun x y => x <<< (y &&& 31))) fun st' => k row.2.1 h L st' 0 0
  | .ishr => match st with
    | .inl b :: .inr (.inr (.inr j)) :: r => bif rx_one b && (rx_le 0 b.1 && rx_le b.1 6) && (Nat.beq (b.1.toNat % 2) 0 && (Nat.ble 200000 j && Nat.ble j 299999)) then rx_fN (300000 + rx_dg j (b.1.toNat / 2)) fun z => k row.2.1 h L (.inr (.inr (.inr z)) :: r) 0 0 else none
    | _ => rx_bin st (rx_bit (fun x y => x >>> (y &&& 31))) fun st' => k row.2.1 h L st' 0 0
  | .idiv => rx_binD st rx_div fun st' => k row.2.1 h L st' 0 0
  | .irem => rx_binD st rx_rem fun st' => k row.2.1 h L st' 0 0
  | .ineg => match st with
    | .inl a :: r => rx_pI (rx_i32 (rx_neg a)) fun v => k row.2.1 h L (v :: r) 0 0
    | _ => none
  | .ladd => rx_binL st (fun a b => rx_i64 (rx_add a b)) fun st' => k row.2.1 h L st' 0 0
  | .lsub => rx_binL st (fun a b => rx_i64 (rx_sub a b)) fun st' => k row.2.1 h L st' 0 0
  | .lmul => rx_binL st (fun a b => rx_i64 (rx_mul rx_topL a b)) fun st' => k row.2.1 h L st' 0 0
  | .ldiv => match st with
    | .inr (.inl b) :: .inr (.inl a) :: r => bif rx_le 1 b.1 then rx_pL (rx_div a b) fun v => k row.2.1 h L (v :: r) 0 0 else none
    | _ => none
  | .lcmp => match st with
    | .inr (.inl b) :: .inr (.inl a) :: r => rx_pI (rx_lcmp a b) fun v => k row.2.1 h L (v :: r) 0 0
    | _ => none
  | .i2l => match st with
    | .inl a :: r => k row.2.1 h L (.inr (.inl a) :: r) 0 0
    | _ => none
  | .l2i => match st with
    | .inr (.inl a) :: r => rx_pI (rx_i32 a) fun v => k row.2.1 h L (v :: r) 0 0
    | _ => none
  | .goto _ => k row.2.2.1 h L st 0 0
  | .ifCond c _ => match st with
    | .inl a :: r => rx_jump (rx_cmp c a (0, 0)) (k row.2.2.1 h L r 0 0) (k row.2.1 h L r 0 0)
    | _ => none
  | .if_icmp c _ => match st with
    | .inl b :: .inl a :: r => rx_jump (rx_cmp c a b) (k row.2.2.1 h L r 0 0) (k row.2.1 h L r 0 0)
    | _ => none
  | .ifnull _ => match st with
    | .inr (.inr (.inl none)) :: r => k row.2.2.1 h L r 0 0
    | .inr (.inr (.inl (some _))) :: r => k row.2.1 h L r 0 0
    | _ => none
  | .ifnonnull _ => match st with
    | .inr (.inr (.inl none)) :: r => k row.2.1 h L r 0 0
    | .inr (.inr (.inl (some _))) :: r => k row.2.2.1 h L r 0 0
    | _ => none
  | .tableswitch d lo hi offs => match st with
    | .inl q :: r => (match rx_sw d lo hi offs q with
      | some o => bif rx_le 0 ((pc : Int) + o) then k ((pc : Int) + o).toNat h L r 0 0 else none
      | none => none)
    | _ => none
  | .dup => match st with
    | v :: r => bif rx_cat v == 1 then k row.2.1 h L (v :: v :: r) 0 0 else none
    | _ => none
  | .dup2 => match st with
    | v :: w :: r => bif (rx_cat v == 1) && (rx_cat w == 1) then k row.2.1 h L (v :: w :: v :: w :: r) 0 0 else none
    | _ => none
  | .pop => match st with
    | v :: r => bif rx_cat v == 1 then k row.2.1 h L r 0 0 else none
    | _ => none
  | .getfield _ => match st with
    | .inr (.inr (.inl (some a))) :: r => bif row.2.2.2.1 == 1 || row.2.2.2.1 == 14 then rx_get h a fun c => (match c with
        | .inl (ci, fs) => bif ci == row.2.2.2.2.1 then rx_get fs row.2.2.2.2.2.1 fun v => k row.2.1 h L (v :: r) 0 0 else none
        | .inr _ => none) else none
    | _ => none
  | .putfield _ => match st with
    | v :: .inr (.inr (.inl (some a))) :: r => bif wr && ((row.2.2.2.1 == 1 || row.2.2.2.1 == 14) && rx_fit row.2.2.2.2.2.2.toNat v) then rx_get h a fun c => (match c with
        | .inl (ci, f0) => bif ci == row.2.2.2.2.1 then rx_set f0 row.2.2.2.2.2.1 v fun fs => rx_set h a (.inl (ci, fs)) fun h' => k row.2.1 h' L r 0 0 else none
        | .inr _ => none) else none
    | _ => none
  | .getstatic _ => bif row.2.2.2.1 == 2 then k row.2.1 h L (.inr (.inr (.inr row.2.2.2.2.1)) :: st) 0 0 else none
  | .iaload => match st with
    | .inl q :: .inr (.inr (.inl (some a))) :: r => rx_get h a fun c => (match c with
        | .inr (tc, l0) => bif tc == 0 then rx_at l0 q fun v => k row.2.1 h L (v :: r) 0 0 else none
        | .inl _ => none)
    | .inl q :: .inr (.inr (.inr j)) :: r => bif Nat.ble j 19 then rx_get ro j fun l => rx_at l q fun v => k row.2.1 h L (v :: r) 0 0 else none
    | _ => none
  | .baload => match st with
    | .inl q :: .inr (.inr (.inl (some a))) :: r => rx_get h a fun c => (match c with
        | .inr (tc, l0) => bif tc == 1 then rx_at l0 q fun v => k row.2.1 h L (v :: r) 0 0 else none
        | .inl _ => none)
    | _ => none
  | .laload => match st with
    | .inl q :: .inr (.inr (.inl (some a))) :: r => rx_get h a fun c => (match c with
        | .inr (tc, l0) => bif tc == 2 then rx_at l0 q fun v => k row.2.1 h L (v :: r) 0 0 else none
        | .inl _ => none)
    | _ => none
  | .aaload => match st with
    | .inl q :: .inr (.inr (.inl (some a))) :: r => rx_get h a fun c => (match c with
        | .inr (tc, l0) => bif Nat.ble 3 tc then rx_at l0 q fun v => k row.2.1 h L (v :: r) 0 0 else none
        | .inl _ => none)
    | _ => none
  | .iastore => match st with
    | .inl v :: .inl q :: .inr (.inr (.inl (some a))) :: r => rx_get h a fun c => (match c with
        | .inr (tc, l0) => bif wr && (tc == 0) then rx_put l0 q (.inl v) fun l => rx_set h a (.inr (tc, l)) fun h' => k row.2.1 h' L r 0 0 else none
        | .inl _ => none)
    | _ => none
  | .bastore => match st with
    | .inl v :: .inl q :: .inr (.inr (.inl (some a))) :: r => bif rx_bool v then rx_get h a fun c => (match c with
        | .inr (tc, l0) => bif wr && (tc == 1) then rx_put l0 q (.inl v) fun l => rx_set h a (.inr (tc, l)) fun h' => k row.2.1 h' L r 0 0 else none
        | .inl _ => none) else none
    | _ => none
  | .lastore => match st with
    | .inr (.inl v) :: .inl q :: .inr (.inr (.inl (some a))) :: r => rx_get h a fun c => (match c with
        | .inr (tc, l0) => bif wr && (tc == 2) then rx_put l0 q (.inr (.inl v)) fun l => rx_set h a (.inr (tc, l)) fun h' => k row.2.1 h' L r 0 0 else none
        | .inl _ => none)
    | _ => none
  | .aastore => match st with
    | .inr (.inr (.inl (some b))) :: .inl q :: .inr (.inr (.inl (some a))) :: r => rx_get h b fun d => rx_get h a fun c => (match c, d with
        | .inr (tc, l0), .inl (ci, _) => bif wr && (tc == ci + 3) then rx_put l0 q (.inr (.inr (.inl (some b)))) fun l => rx_set h a (.inr (tc, l)) fun h' => k row.2.1 h' L r 0 0 else none
        | _, _ => none)
    | _ => none
  | .new _ => bif wr && (row.2.2.2.1 == 11) then rx_app h (.inl (row.2.2.2.2.1, (dfs row.2.2.2.2.1).map rx_dfl)) fun h' => k row.2.1 h' L (.inr (.inr (.inl (some h.length))) :: st) 1 (dfs row.2.2.2.2.1).length else bif (row.2.2.2.1 == 15) && Nat.ble (rx_cats st) 8 then thr row.2.2.2.2.1 else none
  | .newarray t => match st with
    | .inl q :: r => bif wr && (rx_one q && rx_le 0 q.1 && rx_le q.1 1000 && (match t with
        | .int => row.2.2.2.2.1 == 0
        | .boolean => row.2.2.2.2.1 == 1
        | .long => row.2.2.2.2.1 == 2
        | _ => false)) then rx_app h (.inr (row.2.2.2.2.1, List.replicate q.1.toNat (rx_dfl row.2.2.2.2.1))) fun h' => k row.2.1 h' L (.inr (.inr (.inl (some h.length))) :: r) 1 q.1.toNat else none
    | _ => none
  | .anewarray _ => match st with
    | .inl q :: r => bif wr && (rx_one q && rx_le 0 q.1 && rx_le q.1 1000 && (row.2.2.2.1 == 13)) then rx_app h (.inr (row.2.2.2.2.1 + 3, List.replicate q.1.toNat (.inr (.inr (.inl none))))) fun h' => k row.2.1 h' L (.inr (.inr (.inl (some h.length))) :: r) 1 q.1.toNat else none
    | _ => none
  | .invokevirtual _ => bif row.2.2.2.1 == 5 then rx_pop row.2.2.2.2.2.1 st [] fun as r => bif Nat.ble (rx_cats r) 8 then (match as with
      | .inr (.inr (.inl (some a))) :: _ => rx_get h a fun c => (match c with
        | .inl (ci, _) => bif ci == row.2.2.2.2.2.2.toNat then call row.2.2.2.2.1 as r else none
        | .inr _ => none)
      | _ => none) else none else none
  | .arraylength => match st with
    | .inr (.inr (.inr j)) :: r => bif Nat.ble j 19 then rx_get ro j fun l => bif Nat.ble l.length 5000 then rx_pI ((l.length : Int), (l.length : Int)) fun v => k row.2.1 h L (v :: r) 0 0 else none else none
    | _ => none
  | .invokestatic _ => bif row.2.2.2.1 == 6 || (row.2.2.2.1 == 8 || row.2.2.2.1 == 16) then rx_pop row.2.2.2.2.2.1 st [] fun as r => bif Nat.ble (rx_cats r) 8 then call row.2.2.2.2.1 as r else none else rx_math row.2.2.2.1 st fun st' => k row.2.1 h L st' 0 0
  | .invokespecial _ => bif row.2.2.2.1 == 10 then (match st with
      | .inr (.inr (.inl (some _))) :: r => bif Nat.ble (rx_cats r) 8 then k row.2.1 h L r 0 0 else none
      | _ => none) else bif row.2.2.2.1 == 7 || row.2.2.2.1 == 9 then rx_pop row.2.2.2.2.2.1 st [] fun as r => bif Nat.ble (rx_cats r) 8 then (match as with
      | .inr (.inr (.inl (some _))) :: _ => call row.2.2.2.2.1 as r
      | _ => none) else none else none
  | .ireturn => match st with
    | [.inl q] => bif row.2.2.2.2.1 == 0 || rx_bool q then ret (some (.inl q)) else none
    | _ => none
  | .lreturn => match st with
    | [.inr (.inl q)] => ret (some (.inr (.inl q)))
    | _ => none
  | .areturn => match st with
    | [.inr (.inr q)] => bif rx_isr q then ret (some (.inr (.inr q))) else none
    | _ => none
  | .return_ => match st with
    | [] => ret none
    | _ => none
  | _ => none
