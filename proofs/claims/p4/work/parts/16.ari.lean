/-! arithmetic, branches, the stack -/
section OPS
variable {p : Program} {l : Launch} {e : Env} {R : Room} {s : State} {m : MethodId} {args : Array Value} {below : List Frame} {meth : Method} {c : Code} {Q : State → Prop} {D : va_G} {A B : Nat → Prop} {wr : Bool} {sa ad0 : List Nat} {ro : List (List rx_V)} {mt : rx_MT} {xM : List rx_MT} {pc np tg : Nat} {K : rx_K} {h : rx_H} {L : rx_F} {st r : List rx_V} {cells slots : Nat} {a b : Int × Int}
theorem rx_o_iadd (C : rx_Cx p s m args meth c D A B wr sa ro mt) (ok : rx_Ok xM mt pc (.iadd, np, tg, K)) (k : rx_Go p l e R s m args below meth c Q D A B sa ad0 mt np h L (.inl (rx_i32 (rx_add a b)) :: r) cells slots) : rx_Go p l e R s m args below meth c Q D A B sa ad0 mt pc h L (.inl b :: .inl a :: r) cells slots := by
  obtain ⟨hd, rfl⟩ := ok.dec (n := 0) rfl
  intro ad ws H locs ls vs a1 a2 a3 a4 a5 a6 a7
  obtain ⟨v1, v2, rfl, ⟨y, rfl, hy⟩, a8⟩ := rx_S_cons a7
  obtain ⟨v3, vs, rfl, ⟨x, rfl, hx⟩, a9⟩ := rx_S_cons a8
  exact lv_iadd C.1 C.2.1 hd (k ad ws H locs ls _ a1 a2 a3 a4 a5 a6 ⟨⟨_, rfl, rx_iadd hx hy⟩, a9⟩)
theorem rx_o_isub (C : rx_Cx p s m args meth c D A B wr sa ro mt) (ok : rx_Ok xM mt pc (.isub, np, tg, K)) (k : rx_Go p l e R s m args below meth c Q D A B sa ad0 mt np h L (.inl (rx_i32 (rx_sub a b)) :: r) cells slots) : rx_Go p l e R s m args below meth c Q D A B sa ad0 mt pc h L (.inl b :: .inl a :: r) cells slots := by
  obtain ⟨hd, rfl⟩ := ok.dec (n := 0) rfl
  intro ad ws H locs ls vs a1 a2 a3 a4 a5 a6 a7
  obtain ⟨v1, v2, rfl, ⟨y, rfl, hy⟩, a8⟩ := rx_S_cons a7
  obtain ⟨v3, vs, rfl, ⟨x, rfl, hx⟩, a9⟩ := rx_S_cons a8
  exact lv_isub C.1 C.2.1 hd (k ad ws H locs ls _ a1 a2 a3 a4 a5 a6 ⟨⟨_, rfl, rx_isub hx hy⟩, a9⟩)
theorem rx_o_imul (C : rx_Cx p s m args meth c D A B wr sa ro mt) (ok : rx_Ok xM mt pc (.imul, np, tg, K)) (k : rx_Go p l e R s m args below meth c Q D A B sa ad0 mt np h L (.inl (rx_i32 (rx_mul rx_top a b)) :: r) cells slots) : rx_Go p l e R s m args below meth c Q D A B sa ad0 mt pc h L (.inl b :: .inl a :: r) cells slots := by
  obtain ⟨hd, rfl⟩ := ok.dec (n := 0) rfl
  intro ad ws H locs ls vs a1 a2 a3 a4 a5 a6 a7
  obtain ⟨v1, v2, rfl, ⟨y, rfl, hy⟩, a8⟩ := rx_S_cons a7
  obtain ⟨v3, vs, rfl, ⟨x, rfl, hx⟩, a9⟩ := rx_S_cons a8
  exact lv_imul C.1 C.2.1 hd (k ad ws H locs ls _ a1 a2 a3 a4 a5 a6 ⟨⟨_, rfl, rx_imul hx hy⟩, a9⟩)
theorem rx_o_iand (C : rx_Cx p s m args meth c D A B wr sa ro mt) (ok : rx_Ok xM mt pc (.iand, np, tg, K)) (k : rx_Go p l e R s m args below meth c Q D A B sa ad0 mt np h L (.inl (rx_bit (fun x y => x &&& y) a b) :: r) cells slots) : rx_Go p l e R s m args below meth c Q D A B sa ad0 mt pc h L (.inl b :: .inl a :: r) cells slots := by
  obtain ⟨hd, rfl⟩ := ok.dec (n := 0) rfl
  intro ad ws H locs ls vs a1 a2 a3 a4 a5 a6 a7
  obtain ⟨v1, v2, rfl, ⟨y, rfl, hy⟩, a8⟩ := rx_S_cons a7
  obtain ⟨v3, vs, rfl, ⟨x, rfl, hx⟩, a9⟩ := rx_S_cons a8
  exact lv_iand C.1 C.2.1 hd (k ad ws H locs ls _ a1 a2 a3 a4 a5 a6 ⟨⟨_, rfl, (rx_has_bit (f := fun x y => x &&& y)) hx hy⟩, a9⟩)
theorem rx_o_ior (C : rx_Cx p s m args meth c D A B wr sa ro mt) (ok : rx_Ok xM mt pc (.ior, np, tg, K)) (k : rx_Go p l e R s m args below meth c Q D A B sa ad0 mt np h L (.inl (rx_bit (fun x y => x ||| y) a b) :: r) cells slots) : rx_Go p l e R s m args below meth c Q D A B sa ad0 mt pc h L (.inl b :: .inl a :: r) cells slots := by
  obtain ⟨hd, rfl⟩ := ok.dec (n := 0) rfl
  intro ad ws H locs ls vs a1 a2 a3 a4 a5 a6 a7
  obtain ⟨v1, v2, rfl, ⟨y, rfl, hy⟩, a8⟩ := rx_S_cons a7
  obtain ⟨v3, vs, rfl, ⟨x, rfl, hx⟩, a9⟩ := rx_S_cons a8
  exact lv_ior C.1 C.2.1 hd (k ad ws H locs ls _ a1 a2 a3 a4 a5 a6 ⟨⟨_, rfl, (rx_has_bit (f := fun x y => x ||| y)) hx hy⟩, a9⟩)
theorem rx_o_ixor (C : rx_Cx p s m args meth c D A B wr sa ro mt) (ok : rx_Ok xM mt pc (.ixor, np, tg, K)) (k : rx_Go p l e R s m args below meth c Q D A B sa ad0 mt np h L (.inl (rx_bit (fun x y => x ^^^ y) a b) :: r) cells slots) : rx_Go p l e R s m args below meth c Q D A B sa ad0 mt pc h L (.inl b :: .inl a :: r) cells slots := by
  obtain ⟨hd, rfl⟩ := ok.dec (n := 0) rfl
  intro ad ws H locs ls vs a1 a2 a3 a4 a5 a6 a7
  obtain ⟨v1, v2, rfl, ⟨y, rfl, hy⟩, a8⟩ := rx_S_cons a7
  obtain ⟨v3, vs, rfl, ⟨x, rfl, hx⟩, a9⟩ := rx_S_cons a8
  exact lv_ixor C.1 C.2.1 hd (k ad ws H locs ls _ a1 a2 a3 a4 a5 a6 ⟨⟨_, rfl, (rx_has_bit (f := fun x y => x ^^^ y)) hx hy⟩, a9⟩)
theorem rx_o_ishl (C : rx_Cx p s m args meth c D A B wr sa ro mt) (ok : rx_Ok xM mt pc (.ishl, np, tg, K)) (k : rx_Go p l e R s m args below meth c Q D A B sa ad0 mt np h L (.inl (rx_bit (fun x y => x <<< (y &&& 31)) a b) :: r) cells slots) : rx_Go p l e R s m args below meth c Q D A B sa ad0 mt pc h L (.inl b :: .inl a :: r) cells slots := by
  obtain ⟨hd, rfl⟩ := ok.dec (n := 0) rfl
  intro ad ws H locs ls vs a1 a2 a3 a4 a5 a6 a7
  obtain ⟨v1, v2, rfl, ⟨y, rfl, hy⟩, a8⟩ := rx_S_cons a7
  obtain ⟨v3, vs, rfl, ⟨x, rfl, hx⟩, a9⟩ := rx_S_cons a8
  exact lv_ishl C.1 C.2.1 hd (k ad ws H locs ls _ a1 a2 a3 a4 a5 a6 ⟨⟨_, rfl, (rx_has_bit (f := fun x y => x <<< (y &&& 31))) hx hy⟩, a9⟩)
theorem rx_o_ishr (C : rx_Cx p s m args meth c D A B wr sa ro mt) (ok : rx_Ok xM mt pc (.ishr, np, tg, K)) (k : rx_Go p l e R s m args below meth c Q D A B sa ad0 mt np h L (.inl (rx_bit (fun x y => x >>> (y &&& 31)) a b) :: r) cells slots) : rx_Go p l e R s m args below meth c Q D A B sa ad0 mt pc h L (.inl b :: .inl a :: r) cells slots := by
  obtain ⟨hd, rfl⟩ := ok.dec (n := 0) rfl
  intro ad ws H locs ls vs a1 a2 a3 a4 a5 a6 a7
  obtain ⟨v1, v2, rfl, ⟨y, rfl, hy⟩, a8⟩ := rx_S_cons a7
  obtain ⟨v3, vs, rfl, ⟨x, rfl, hx⟩, a9⟩ := rx_S_cons a8
  exact lv_ishr C.1 C.2.1 hd (k ad ws H locs ls _ a1 a2 a3 a4 a5 a6 ⟨⟨_, rfl, (rx_has_bit (f := fun x y => x >>> (y &&& 31))) hx hy⟩, a9⟩)
theorem rx_o_ladd (C : rx_Cx p s m args meth c D A B wr sa ro mt) (ok : rx_Ok xM mt pc (.ladd, np, tg, K)) (k : rx_Go p l e R s m args below meth c Q D A B sa ad0 mt np h L (.inr (.inl (rx_i64 (rx_add a b))) :: r) cells slots) : rx_Go p l e R s m args below meth c Q D A B sa ad0 mt pc h L (.inr (.inl b) :: .inr (.inl a) :: r) cells slots := by
  obtain ⟨hd, rfl⟩ := ok.dec (n := 0) rfl
  intro ad ws H locs ls vs a1 a2 a3 a4 a5 a6 a7
  obtain ⟨v1, v2, rfl, ⟨y, rfl, hy⟩, a8⟩ := rx_S_cons a7
  obtain ⟨v3, vs, rfl, ⟨x, rfl, hx⟩, a9⟩ := rx_S_cons a8
  exact lv_ladd C.1 C.2.1 hd (k ad ws H locs ls _ a1 a2 a3 a4 a5 a6 ⟨⟨_, rfl, rx_ladd hx hy⟩, a9⟩)
theorem rx_o_lsub (C : rx_Cx p s m args meth c D A B wr sa ro mt) (ok : rx_Ok xM mt pc (.lsub, np, tg, K)) (k : rx_Go p l e R s m args below meth c Q D A B sa ad0 mt np h L (.inr (.inl (rx_i64 (rx_sub a b))) :: r) cells slots) : rx_Go p l e R s m args below meth c Q D A B sa ad0 mt pc h L (.inr (.inl b) :: .inr (.inl a) :: r) cells slots := by
  obtain ⟨hd, rfl⟩ := ok.dec (n := 0) rfl
  intro ad ws H locs ls vs a1 a2 a3 a4 a5 a6 a7
  obtain ⟨v1, v2, rfl, ⟨y, rfl, hy⟩, a8⟩ := rx_S_cons a7
  obtain ⟨v3, vs, rfl, ⟨x, rfl, hx⟩, a9⟩ := rx_S_cons a8
  exact lv_lsub C.1 C.2.1 hd (k ad ws H locs ls _ a1 a2 a3 a4 a5 a6 ⟨⟨_, rfl, rx_lsub hx hy⟩, a9⟩)
theorem rx_o_lmul (C : rx_Cx p s m args meth c D A B wr sa ro mt) (ok : rx_Ok xM mt pc (.lmul, np, tg, K)) (k : rx_Go p l e R s m args below meth c Q D A B sa ad0 mt np h L (.inr (.inl (rx_i64 (rx_mul rx_topL a b))) :: r) cells slots) : rx_Go p l e R s m args below meth c Q D A B sa ad0 mt pc h L (.inr (.inl b) :: .inr (.inl a) :: r) cells slots := by
  obtain ⟨hd, rfl⟩ := ok.dec (n := 0) rfl
  intro ad ws H locs ls vs a1 a2 a3 a4 a5 a6 a7
  obtain ⟨v1, v2, rfl, ⟨y, rfl, hy⟩, a8⟩ := rx_S_cons a7
  obtain ⟨v3, vs, rfl, ⟨x, rfl, hx⟩, a9⟩ := rx_S_cons a8
  exact lv_lmul C.1 C.2.1 hd (k ad ws H locs ls _ a1 a2 a3 a4 a5 a6 ⟨⟨_, rfl, rx_lmul hx hy⟩, a9⟩)
theorem rx_o_and3 {j : Nat} (C : rx_Cx p s m args meth c D A B wr sa ro mt) (ok : rx_Ok xM mt pc (.iand, np, tg, K)) (hb : rx_one b = true) (h1 : 3 ≤ b.1) (h2 : b.1 ≤ 3) (h3 : 300000 ≤ j) (h4 : j ≤ 399999) (k : rx_Go p l e R s m args below meth c Q D A B sa ad0 mt np h L (.inl (((j - 300000 : Nat) : Int), ((j - 300000 : Nat) : Int)) :: r) cells slots) : rx_Go p l e R s m args below meth c Q D A B sa ad0 mt pc h L (.inl b :: .inr (.inr (.inr j)) :: r) cells slots := by
  obtain ⟨hd, rfl⟩ := ok.dec (n := 0) rfl
  intro ad ws H locs ls vs a1 a2 a3 a4 a5 a6 a7
  obtain ⟨v1, v2, rfl, ⟨y, rfl, hy⟩, a8⟩ := rx_S_cons a7
  obtain ⟨v3, vs, rfl, hx, a9⟩ := rx_S_cons a8
  rcases hx with ⟨q, -⟩ | ⟨-, -, x, rfl, hx⟩ | ⟨q, -⟩
  · omega
  rotate_left
  · omega
  · have e := rx_one_eq hb hy
    rw [show b.1 = 3 by omega] at e
    have e : y = 3 := e.symm
    subst e
    refine lv_iand C.1 C.2.1 hd (k ad ws H locs ls _ a1 a2 a3 a4 a5 a6 ⟨⟨_, rfl, ?_⟩, a9⟩)
    rcases hx with ⟨-, q, -⟩ | ⟨-, -, q⟩ | ⟨q, -⟩ | ⟨q, -⟩ | ⟨q, -⟩ | ⟨q, -⟩
    · omega
    · rw [q]; exact ⟨Int.le_refl _, Int.le_refl _⟩
    · omega
    · omega
    · omega
    · omega
theorem rx_o_and31 {j : Nat} (C : rx_Cx p s m args meth c D A B wr sa ro mt) (ok : rx_Ok xM mt pc (.iand, np, tg, K)) (hb : rx_one b = true) (h1 : 31 ≤ b.1) (h2 : b.1 ≤ 31) (h3 : 400000 ≤ j) (h4 : j ≤ 499999) (k : rx_Go p l e R s m args below meth c Q D A B sa ad0 mt np h L (.inl (((j - 400000 : Nat) : Int), ((j - 400000 : Nat) : Int)) :: r) cells slots) : rx_Go p l e R s m args below meth c Q D A B sa ad0 mt pc h L (.inl b :: .inr (.inr (.inr j)) :: r) cells slots := by
  obtain ⟨hd, rfl⟩ := ok.dec (n := 0) rfl
  intro ad ws H locs ls vs a1 a2 a3 a4 a5 a6 a7
  obtain ⟨v1, v2, rfl, ⟨y, rfl, hy⟩, a8⟩ := rx_S_cons a7
  obtain ⟨v3, vs, rfl, hx, a9⟩ := rx_S_cons a8
  rcases hx with ⟨q, -⟩ | ⟨-, -, x, rfl, hx⟩ | ⟨q, -⟩
  · omega
  rotate_left
  · omega
  · have e := rx_one_eq hb hy
    rw [show b.1 = 31 by omega] at e
    have e : y = 31 := e.symm
    subst e
    refine lv_iand C.1 C.2.1 hd (k ad ws H locs ls _ a1 a2 a3 a4 a5 a6 ⟨⟨_, rfl, ?_⟩, a9⟩)
    rcases hx with ⟨-, q, -⟩ | ⟨-, q, -⟩ | ⟨-, -, q⟩ | ⟨q, -⟩ | ⟨q, -⟩ | ⟨q, -⟩
    · omega
    · omega
    · rw [q]; exact ⟨Int.le_refl _, Int.le_refl _⟩
    · omega
    · omega
    · omega
theorem rx_o_shr2 {j : Nat} (C : rx_Cx p s m args meth c D A B wr sa ro mt) (ok : rx_Ok xM mt pc (.ishr, np, tg, K)) (hb : rx_one b = true) (h1 : 0 ≤ b.1) (h2 : b.1 ≤ 6) (h0 : b.1.toNat % 2 = 0) (h3 : 200000 ≤ j) (h4 : j ≤ 299999) (k : rx_Go p l e R s m args below meth c Q D A B sa ad0 mt np h L (.inr (.inr (.inr (300000 + rx_dg j (b.1.toNat / 2)))) :: r) cells slots) : rx_Go p l e R s m args below meth c Q D A B sa ad0 mt pc h L (.inl b :: .inr (.inr (.inr j)) :: r) cells slots := by
  obtain ⟨hd, rfl⟩ := ok.dec (n := 0) rfl
  intro ad ws H locs ls vs a1 a2 a3 a4 a5 a6 a7
  obtain ⟨v1, v2, rfl, ⟨y, rfl, hy⟩, a8⟩ := rx_S_cons a7
  obtain ⟨v3, vs, rfl, hx, a9⟩ := rx_S_cons a8
  rcases hx with ⟨q, -⟩ | ⟨-, -, x, rfl, hx⟩ | ⟨q, -⟩
  · omega
  rotate_left
  · omega
  · have e := rx_one_eq hb hy
    have hlt : rx_dg j (b.1.toNat / 2) < 4 := Nat.mod_lt _ (by decide)
    refine lv_ishr C.1 C.2.1 hd (k ad ws H locs ls _ a1 a2 a3 a4 a5 a6 ⟨Or.inr (Or.inl ⟨by omega, by omega, _, rfl, Or.inr (Or.inl ⟨by omega, by omega, ?_⟩)⟩), a9⟩)
    rcases hx with ⟨-, -, q⟩ | ⟨q, -⟩ | ⟨q, -⟩ | ⟨q, -⟩ | ⟨q, -⟩ | ⟨q, -⟩
    · have q := q (b.1.toNat / 2) (by omega)
      rw [show ((2 * (b.1.toNat / 2) : Nat) : Int) = b.1 by omega, e] at q
      rw [q]
      omega
    · omega
    · omega
    · omega
    · omega
    · omega
theorem rx_o_idiv (C : rx_Cx p s m args meth c D A B wr sa ro mt) (ok : rx_Ok xM mt pc (.idiv, np, tg, K)) (h0 : 1 ≤ b.1) (k : rx_Go p l e R s m args below meth c Q D A B sa ad0 mt np h L (.inl (rx_div a b) :: r) cells slots) : rx_Go p l e R s m args below meth c Q D A B sa ad0 mt pc h L (.inl b :: .inl a :: r) cells slots := by
  obtain ⟨hd, rfl⟩ := ok.dec (n := 0) rfl
  intro ad ws H locs ls vs a1 a2 a3 a4 a5 a6 a7
  obtain ⟨v1, v2, rfl, ⟨y, rfl, hy⟩, a8⟩ := rx_S_cons a7
  obtain ⟨v3, vs, rfl, ⟨x, rfl, hx⟩, a9⟩ := rx_S_cons a8
  exact lv_idiv C.1 C.2.1 hd (rx_ne0 (by omega) hy) (k ad ws H locs ls _ a1 a2 a3 a4 a5 a6 ⟨⟨_, rfl, rx_idiv (by omega) hx hy⟩, a9⟩)
theorem rx_o_irem (C : rx_Cx p s m args meth c D A B wr sa ro mt) (ok : rx_Ok xM mt pc (.irem, np, tg, K)) (h0 : 1 ≤ b.1) (k : rx_Go p l e R s m args below meth c Q D A B sa ad0 mt np h L (.inl (rx_rem a b) :: r) cells slots) : rx_Go p l e R s m args below meth c Q D A B sa ad0 mt pc h L (.inl b :: .inl a :: r) cells slots := by
  obtain ⟨hd, rfl⟩ := ok.dec (n := 0) rfl
  intro ad ws H locs ls vs a1 a2 a3 a4 a5 a6 a7
  obtain ⟨v1, v2, rfl, ⟨y, rfl, hy⟩, a8⟩ := rx_S_cons a7
  obtain ⟨v3, vs, rfl, ⟨x, rfl, hx⟩, a9⟩ := rx_S_cons a8
  exact lv_irem C.1 C.2.1 hd (rx_ne0 (by omega) hy) (k ad ws H locs ls _ a1 a2 a3 a4 a5 a6 ⟨⟨_, rfl, rx_irem (by omega) hx hy⟩, a9⟩)
theorem rx_o_ldiv (C : rx_Cx p s m args meth c D A B wr sa ro mt) (ok : rx_Ok xM mt pc (.ldiv, np, tg, K)) (h0 : 1 ≤ b.1) (k : rx_Go p l e R s m args below meth c Q D A B sa ad0 mt np h L (.inr (.inl (rx_div a b)) :: r) cells slots) : rx_Go p l e R s m args below meth c Q D A B sa ad0 mt pc h L (.inr (.inl b) :: .inr (.inl a) :: r) cells slots := by
  obtain ⟨hd, rfl⟩ := ok.dec (n := 0) rfl
  intro ad ws H locs ls vs a1 a2 a3 a4 a5 a6 a7
  obtain ⟨v1, v2, rfl, ⟨y, rfl, hy⟩, a8⟩ := rx_S_cons a7
  obtain ⟨v3, vs, rfl, ⟨x, rfl, hx⟩, a9⟩ := rx_S_cons a8
  exact lv_ldiv C.1 C.2.1 hd (rx_ne0L (by omega) hy) (k ad ws H locs ls _ a1 a2 a3 a4 a5 a6 ⟨⟨_, rfl, rx_ldiv (by omega) hx hy⟩, a9⟩)
theorem rx_o_lcmp (C : rx_Cx p s m args meth c D A B wr sa ro mt) (ok : rx_Ok xM mt pc (.lcmp, np, tg, K)) (k : rx_Go p l e R s m args below meth c Q D A B sa ad0 mt np h L (.inl (rx_lcmp a b) :: r) cells slots) : rx_Go p l e R s m args below meth c Q D A B sa ad0 mt pc h L (.inr (.inl b) :: .inr (.inl a) :: r) cells slots := by
  obtain ⟨hd, rfl⟩ := ok.dec (n := 0) rfl
  intro ad ws H locs ls vs a1 a2 a3 a4 a5 a6 a7
  obtain ⟨v1, v2, rfl, ⟨y, rfl, hy⟩, a8⟩ := rx_S_cons a7
  obtain ⟨v3, vs, rfl, ⟨x, rfl, hx⟩, a9⟩ := rx_S_cons a8
  exact W.lcmp C.1 C.2.1 hd (k ad ws H locs ls _ a1 a2 a3 a4 a5 a6 ⟨⟨_, rfl, rx_has_lcmp hx hy⟩, a9⟩)
theorem rx_o_ineg (C : rx_Cx p s m args meth c D A B wr sa ro mt) (ok : rx_Ok xM mt pc (.ineg, np, tg, K)) (k : rx_Go p l e R s m args below meth c Q D A B sa ad0 mt np h L (.inl (rx_i32 (rx_neg a)) :: r) cells slots) : rx_Go p l e R s m args below meth c Q D A B sa ad0 mt pc h L (.inl a :: r) cells slots := by
  obtain ⟨hd, rfl⟩ := ok.dec (n := 0) rfl
  intro ad ws H locs ls vs a1 a2 a3 a4 a5 a6 a7
  obtain ⟨v3, vs, rfl, ⟨x, rfl, hx⟩, a9⟩ := rx_S_cons a7
  exact lv_ineg C.1 C.2.1 hd (k ad ws H locs ls _ a1 a2 a3 a4 a5 a6 ⟨⟨_, rfl, rx_ineg hx⟩, a9⟩)
theorem rx_o_i2l (C : rx_Cx p s m args meth c D A B wr sa ro mt) (ok : rx_Ok xM mt pc (.i2l, np, tg, K)) (k : rx_Go p l e R s m args below meth c Q D A B sa ad0 mt np h L (.inr (.inl a) :: r) cells slots) : rx_Go p l e R s m args below meth c Q D A B sa ad0 mt pc h L (.inl a :: r) cells slots := by
  obtain ⟨hd, rfl⟩ := ok.dec (n := 0) rfl
  intro ad ws H locs ls vs a1 a2 a3 a4 a5 a6 a7
  obtain ⟨v3, vs, rfl, ⟨x, rfl, hx⟩, a9⟩ := rx_S_cons a7
  exact lv_i2l C.1 C.2.1 hd rfl (k ad ws H locs ls _ a1 a2 a3 a4 a5 a6 ⟨⟨_, rfl, rx_i2l hx⟩, a9⟩)
theorem rx_o_l2i (C : rx_Cx p s m args meth c D A B wr sa ro mt) (ok : rx_Ok xM mt pc (.l2i, np, tg, K)) (k : rx_Go p l e R s m args below meth c Q D A B sa ad0 mt np h L (.inl (rx_i32 a) :: r) cells slots) : rx_Go p l e R s m args below meth c Q D A B sa ad0 mt pc h L (.inr (.inl a) :: r) cells slots := by
  obtain ⟨hd, rfl⟩ := ok.dec (n := 0) rfl
  intro ad ws H locs ls vs a1 a2 a3 a4 a5 a6 a7
  obtain ⟨v3, vs, rfl, ⟨x, rfl, hx⟩, a9⟩ := rx_S_cons a7
  exact lv_l2i C.1 C.2.1 hd rfl (k ad ws H locs ls _ a1 a2 a3 a4 a5 a6 ⟨⟨_, rfl, rx_l2i hx⟩, a9⟩)
theorem rx_o_goto {o : Int} (C : rx_Cx p s m args meth c D A B wr sa ro mt) (ok : rx_Ok xM mt pc (.goto o, np, tg, K)) (k : rx_Go p l e R s m args below meth c Q D A B sa ad0 mt tg h L st cells slots) : rx_Go p l e R s m args below meth c Q D A B sa ad0 mt pc h L st cells slots := by
  obtain ⟨hd, -⟩ := ok.dec (n := 2) rfl
  intro ad ws H locs ls vs a1 a2 a3 a4 a5 a6 a7
  exact lv_goto C.1 C.2.1 hd (ok.2.1 o rfl) (k ad ws H locs ls _ a1 a2 a3 a4 a5 a6 a7)
theorem rx_rel_z {c : ClassFile.Cond} {x : Int32} (hz : (0 : Int32).toInt = 0) : rx_rel c x.toInt 0 ↔ (match c with
    | .eq => x = 0
    | .ne => ¬ x = 0
    | .lt => x < 0
    | .ge => 0 ≤ x
    | .gt => 0 < x
    | .le => x ≤ 0) := by
  cases c <;> simp only [rx_rel]
  · rw [← hz, Int32.toInt_inj]
  · rw [← hz, ne_eq, Int32.toInt_inj]
  · rw [Int32.lt_iff_toInt_lt, hz]
  · rw [Int32.le_iff_toInt_le, hz]
  · rw [Int32.lt_iff_toInt_lt, hz]
  · rw [Int32.le_iff_toInt_le, hz]
theorem rx_rel_i {c : ClassFile.Cond} {x y : Int32} : rx_rel c x.toInt y.toInt ↔ (match c with
    | .eq => x = y
    | .ne => ¬ x = y
    | .lt => x < y
    | .ge => y ≤ x
    | .gt => y < x
    | .le => x ≤ y) := by
  cases c <;> simp only [rx_rel]
  · rw [Int32.toInt_inj]
  · rw [ne_eq, Int32.toInt_inj]
  · rw [Int32.lt_iff_toInt_lt]
  · rw [Int32.le_iff_toInt_le]
  · rw [Int32.lt_iff_toInt_lt]
  · rw [Int32.le_iff_toInt_le]
theorem rx_o_if {cd : ClassFile.Cond} {o : Int} {t : Bool} (C : rx_Cx p s m args meth c D A B wr sa ro mt) (ok : rx_Ok xM mt pc (.ifCond cd o, np, tg, K)) (ht : rx_cmp cd a (0, 0) = some t) (k1 : t = true → rx_Go p l e R s m args below meth c Q D A B sa ad0 mt tg h L r cells slots) (k2 : t = false → rx_Go p l e R s m args below meth c Q D A B sa ad0 mt np h L r cells slots) : rx_Go p l e R s m args below meth c Q D A B sa ad0 mt pc h L (.inl a :: r) cells slots := by
  obtain ⟨hd, rfl⟩ := ok.dec (n := 2) rfl
  intro ad ws H locs ls vs a1 a2 a3 a4 a5 a6 a7
  obtain ⟨v3, vs, rfl, ⟨x, rfl, hx⟩, a9⟩ := rx_S_cons a7
  have hq := (rx_cmp_ok ht hx (show rx_has (0, 0) 0 from ⟨Int.le_refl _, Int.le_refl _⟩)).trans (rx_rel_z (by decide))
  have K1 := fun q => k1 q ad ws H locs ls _ a1 a2 a3 a4 a5 a6 a9
  have K2 := fun q => k2 q ad ws H locs ls _ a1 a2 a3 a4 a5 a6 a9
  have e2 : ∀ {P : Prop}, (t = true ↔ P) → ¬ P → t = false := fun h9 n => by cases t with
    | false => rfl
    | true => exact absurd (h9.mp rfl) n
  cases cd
  · exact lv_if_eq C.1 C.2.1 hd (ok.2.1 o rfl) (fun q => K1 (hq.mpr q)) (fun q => K2 (e2 hq q))
  · exact lv_if_ne C.1 C.2.1 hd (ok.2.1 o rfl) (fun q => K1 (hq.mpr q)) (fun q => K2 (e2 hq (fun n => n q)))
  · exact lv_if_lt C.1 C.2.1 hd (ok.2.1 o rfl) (fun q => K1 (hq.mpr q)) (fun q => K2 (e2 hq q))
  · exact lv_if_ge C.1 C.2.1 hd (ok.2.1 o rfl) (fun q => K1 (hq.mpr q)) (fun q => K2 (e2 hq q))
  · exact lv_if_gt C.1 C.2.1 hd (ok.2.1 o rfl) (fun q => K1 (hq.mpr q)) (fun q => K2 (e2 hq q))
  · exact lv_if_le C.1 C.2.1 hd (ok.2.1 o rfl) (fun q => K1 (hq.mpr q)) (fun q => K2 (e2 hq q))
theorem rx_o_icmp {cd : ClassFile.Cond} {o : Int} {t : Bool} (C : rx_Cx p s m args meth c D A B wr sa ro mt) (ok : rx_Ok xM mt pc (.if_icmp cd o, np, tg, K)) (ht : rx_cmp cd a b = some t) (k1 : t = true → rx_Go p l e R s m args below meth c Q D A B sa ad0 mt tg h L r cells slots) (k2 : t = false → rx_Go p l e R s m args below meth c Q D A B sa ad0 mt np h L r cells slots) : rx_Go p l e R s m args below meth c Q D A B sa ad0 mt pc h L (.inl b :: .inl a :: r) cells slots := by
  obtain ⟨hd, rfl⟩ := ok.dec (n := 2) rfl
  intro ad ws H locs ls vs a1 a2 a3 a4 a5 a6 a7
  obtain ⟨v1, v2, rfl, ⟨y, rfl, hy⟩, a8⟩ := rx_S_cons a7
  obtain ⟨v3, vs, rfl, ⟨x, rfl, hx⟩, a9⟩ := rx_S_cons a8
  have hq := (rx_cmp_ok ht hx hy).trans rx_rel_i
  have K1 := fun q => k1 q ad ws H locs ls _ a1 a2 a3 a4 a5 a6 a9
  have K2 := fun q => k2 q ad ws H locs ls _ a1 a2 a3 a4 a5 a6 a9
  have e2 : ∀ {P : Prop}, (t = true ↔ P) → ¬ P → t = false := fun h9 n => by cases t with
    | false => rfl
    | true => exact absurd (h9.mp rfl) n
  cases cd
  · exact lv_icmp_eq C.1 C.2.1 hd (ok.2.1 o rfl) (fun q => K1 (hq.mpr q)) (fun q => K2 (e2 hq q))
  · exact lv_icmp_ne C.1 C.2.1 hd (ok.2.1 o rfl) (fun q => K1 (hq.mpr q)) (fun q => K2 (e2 hq (fun n => n q)))
  · exact lv_icmp_lt C.1 C.2.1 hd (ok.2.1 o rfl) (fun q => K1 (hq.mpr q)) (fun q => K2 (e2 hq q))
  · exact lv_icmp_ge C.1 C.2.1 hd (ok.2.1 o rfl) (fun q => K1 (hq.mpr q)) (fun q => K2 (e2 hq q))
  · exact lv_icmp_gt C.1 C.2.1 hd (ok.2.1 o rfl) (fun q => K1 (hq.mpr q)) (fun q => K2 (e2 hq q))
  · exact lv_icmp_le C.1 C.2.1 hd (ok.2.1 o rfl) (fun q => K1 (hq.mpr q)) (fun q => K2 (e2 hq q))
theorem rx_o_ifnull0 {o : Int} (C : rx_Cx p s m args meth c D A B wr sa ro mt) (ok : rx_Ok xM mt pc (.ifnull o, np, tg, K)) (k : rx_Go p l e R s m args below meth c Q D A B sa ad0 mt tg h L r cells slots) : rx_Go p l e R s m args below meth c Q D A B sa ad0 mt pc h L (.inr (.inr (.inl none)) :: r) cells slots := by
  obtain ⟨hd, rfl⟩ := ok.dec (n := 2) rfl
  intro ad ws H locs ls vs a1 a2 a3 a4 a5 a6 a7
  obtain ⟨v3, vs, rfl, rfl, a9⟩ := rx_S_cons a7
  exact lv_ifnullN C.1 C.2.1 hd (ok.2.1 o rfl) (k ad ws H locs ls _ a1 a2 a3 a4 a5 a6 a9)
theorem rx_o_ifnull1 {o : Int} {j : Nat} (C : rx_Cx p s m args meth c D A B wr sa ro mt) (ok : rx_Ok xM mt pc (.ifnull o, np, tg, K)) (k : rx_Go p l e R s m args below meth c Q D A B sa ad0 mt np h L r cells slots) : rx_Go p l e R s m args below meth c Q D A B sa ad0 mt pc h L (.inr (.inr (.inl (some j))) :: r) cells slots := by
  obtain ⟨hd, rfl⟩ := ok.dec (n := 2) rfl
  intro ad ws H locs ls vs a1 a2 a3 a4 a5 a6 a7
  obtain ⟨v3, vs, rfl, ⟨x, -, rfl⟩, a9⟩ := rx_S_cons a7
  exact lv_ifnull C.1 C.2.1 hd (k ad ws H locs ls _ a1 a2 a3 a4 a5 a6 a9)
theorem rx_o_ifnonnull0 {o : Int} (C : rx_Cx p s m args meth c D A B wr sa ro mt) (ok : rx_Ok xM mt pc (.ifnonnull o, np, tg, K)) (k : rx_Go p l e R s m args below meth c Q D A B sa ad0 mt np h L r cells slots) : rx_Go p l e R s m args below meth c Q D A B sa ad0 mt pc h L (.inr (.inr (.inl none)) :: r) cells slots := by
  obtain ⟨hd, rfl⟩ := ok.dec (n := 2) rfl
  intro ad ws H locs ls vs a1 a2 a3 a4 a5 a6 a7
  obtain ⟨v3, vs, rfl, rfl, a9⟩ := rx_S_cons a7
  exact lv_ifnonnullN C.1 C.2.1 hd (k ad ws H locs ls _ a1 a2 a3 a4 a5 a6 a9)
theorem rx_o_ifnonnull1 {o : Int} {j : Nat} (C : rx_Cx p s m args meth c D A B wr sa ro mt) (ok : rx_Ok xM mt pc (.ifnonnull o, np, tg, K)) (k : rx_Go p l e R s m args below meth c Q D A B sa ad0 mt tg h L r cells slots) : rx_Go p l e R s m args below meth c Q D A B sa ad0 mt pc h L (.inr (.inr (.inl (some j))) :: r) cells slots := by
  obtain ⟨hd, rfl⟩ := ok.dec (n := 2) rfl
  intro ad ws H locs ls vs a1 a2 a3 a4 a5 a6 a7
  obtain ⟨v3, vs, rfl, ⟨x, -, rfl⟩, a9⟩ := rx_S_cons a7
  exact lv_ifnonnull C.1 C.2.1 hd (ok.2.1 o rfl) (k ad ws H locs ls _ a1 a2 a3 a4 a5 a6 a9)
theorem rx_o_switch {d lo hi o : Int} {offs : Array Int} (C : rx_Cx p s m args meth c D A B wr sa ro mt) (ok : rx_Ok xM mt pc (.tableswitch d lo hi offs, np, tg, K)) (ho : rx_sw d lo hi offs a = some o) (h0 : 0 ≤ (pc : Int) + o) (k : rx_Go p l e R s m args below meth c Q D A B sa ad0 mt ((pc : Int) + o).toNat h L r cells slots) : rx_Go p l e R s m args below meth c Q D A B sa ad0 mt pc h L (.inl a :: r) cells slots := by
  obtain ⟨⟨len, hd, -, -⟩, -⟩ := ok
  intro ad ws H locs ls vs a1 a2 a3 a4 a5 a6 a7
  obtain ⟨v3, vs, rfl, ⟨x, rfl, hx⟩, a9⟩ := rx_S_cons a7
  have kk := k ad ws H locs ls _ a1 a2 a3 a4 a5 a6 a9
  have e0 : (pc : Int) + o = (((pc : Int) + o).toNat : Int) := (Int.toNat_of_nonneg h0).symm
  obtain ⟨x1, x2⟩ := hx
  unfold rx_sw at ho
  cases h1 : rx_le lo a.1 && rx_le a.2 hi with
  | true =>
    rw [h1] at ho
    rw [Bool.and_eq_true] at h1
    have q1 := rx_le_t h1.1
    have q2 := rx_le_t h1.2
    cases h2 : rx_one a with
    | false => rw [h2] at ho; cases ho
    | true =>
      rw [h2] at ho
      have q3 := rx_le_t h2
      have e : a.1 = x.toInt := by omega
      rw [e] at ho
      exact lv_tableIn C.1 C.2.1 hd (by omega) (by omega) ho e0 kk
  | false =>
    rw [h1] at ho
    cases h2 : rx_le lo a.2 && rx_le a.1 hi with
    | true => rw [h2] at ho; cases ho
    | false =>
      rw [h2] at ho
      cases ho
      refine lv_tableOut C.1 C.2.1 hd ?_ e0 kk
      rw [Bool.and_eq_false_iff] at h2
      rcases h2 with q | q
      · have q := rx_le_f q; exact Or.inl (by omega)
      · have q := rx_le_f q; exact Or.inr (by omega)
theorem rx_o_dup {v : rx_V} (C : rx_Cx p s m args meth c D A B wr sa ro mt) (ok : rx_Ok xM mt pc (.dup, np, tg, K)) (hc : rx_cat v = 1) (k : rx_Go p l e R s m args below meth c Q D A B sa ad0 mt np h L (v :: v :: r) cells slots) : rx_Go p l e R s m args below meth c Q D A B sa ad0 mt pc h L (v :: r) cells slots := by
  obtain ⟨hd, rfl⟩ := ok.dec (n := 0) rfl
  intro ad ws H locs ls vs a1 a2 a3 a4 a5 a6 a7
  obtain ⟨x, vs, rfl, hx, a9⟩ := rx_S_cons a7
  exact lv_dup C.1 C.2.1 hd (by rw [rx_G_cat hx]; exact hc) (k ad ws H locs ls _ a1 a2 a3 a4 a5 a6 ⟨hx, hx, a9⟩)
theorem rx_o_dup2 {v w : rx_V} (C : rx_Cx p s m args meth c D A B wr sa ro mt) (ok : rx_Ok xM mt pc (.dup2, np, tg, K)) (hc : rx_cat v = 1) (hw : rx_cat w = 1) (k : rx_Go p l e R s m args below meth c Q D A B sa ad0 mt np h L (v :: w :: v :: w :: r) cells slots) : rx_Go p l e R s m args below meth c Q D A B sa ad0 mt pc h L (v :: w :: r) cells slots := by
  obtain ⟨hd, rfl⟩ := ok.dec (n := 0) rfl
  intro ad ws H locs ls vs a1 a2 a3 a4 a5 a6 a7
  obtain ⟨x, v2, rfl, hx, a8⟩ := rx_S_cons a7
  obtain ⟨y, vs, rfl, hy, a9⟩ := rx_S_cons a8
  exact lv_dup2_11 C.1 C.2.1 hd (by rw [rx_G_cat hx]; exact hc) (by rw [rx_G_cat hy]; exact hw) (k ad ws H locs ls _ a1 a2 a3 a4 a5 a6 ⟨hx, hy, hx, hy, a9⟩)
theorem rx_o_pop {v : rx_V} (C : rx_Cx p s m args meth c D A B wr sa ro mt) (ok : rx_Ok xM mt pc (.pop, np, tg, K)) (hc : rx_cat v = 1) (k : rx_Go p l e R s m args below meth c Q D A B sa ad0 mt np h L r cells slots) : rx_Go p l e R s m args below meth c Q D A B sa ad0 mt pc h L (v :: r) cells slots := by
  obtain ⟨hd, rfl⟩ := ok.dec (n := 0) rfl
  intro ad ws H locs ls vs a1 a2 a3 a4 a5 a6 a7
  obtain ⟨x, vs, rfl, hx, a9⟩ := rx_S_cons a7
  exact lv_pop C.1 C.2.1 hd (by rw [rx_G_cat hx]; exact hc) (k ad ws H locs ls _ a1 a2 a3 a4 a5 a6 a9)
end OPS
