/-! EACH INSTRUCTION IS TRUE TO THE MACHINE -/
section OPS
variable {p : Program} {l : Launch} {e : Env} {R : Room} {s : State} {m : MethodId} {args : Array Value} {below : List Frame} {meth : Method} {c : Code} {Q : State → Prop} {D : va_G} {A B : Nat → Prop} {wr : Bool} {sa ad0 : List Nat} {ro : List (List rx_V)} {mt : rx_MT} {xM : List rx_MT} {pc np tg : Nat} {K : rx_K} {h : rx_H} {L : rx_F} {st : List rx_V} {cells slots : Nat}
theorem rx_Ok.dec {ins : Instr} (ok : rx_Ok xM mt pc (ins, np, tg, K)) {n : Nat} (hn : rx_ln ins = n + 1) : decode mt.2.1 pc = .ok (ins, n + 1) ∧ np = pc + (n + 1) := by
  obtain ⟨⟨len, h1, h2, h3⟩, -⟩ := ok
  have e : len = n + 1 := by
    rcases h3 with h3 | h3
    · rw [← h3]; exact hn
    · rw [hn] at h3; cases h3
  subst e
  exact ⟨h1, h2⟩
theorem rx_Cx.word (C : rx_Cx p s m args meth c D A B wr sa ro mt) {w : Jvm.Cond} (hw : w ∈ rx_bw) : w.before args s = true := C.2.2.2.2.1 w hw
/-- an int is put on the stack -/
theorem rx_o_iconst {n : Int} (C : rx_Cx p s m args meth c D A B wr sa ro mt) (ok : rx_Ok xM mt pc (.iconst n, np, tg, K)) (h1 : -1 ≤ n) (h2 : n ≤ 5) (k : rx_Go p l e R s m args below meth c Q D A B sa ad0 mt np h L (.inl (n, n) :: st) cells slots) : rx_Go p l e R s m args below meth c Q D A B sa ad0 mt pc h L st cells slots := by
  obtain ⟨hd, rfl⟩ := ok.dec (n := 0) rfl
  intro ad ws H locs ls vs a1 a2 a3 a4 a5 a6 a7
  refine lv_iconst (v := Int32.ofInt n) C.1 C.2.1 hd rfl (k ad ws H locs ls _ a1 a2 a3 a4 a5 a6 ⟨⟨_, rfl, ?_⟩, a7⟩)
  have e : (Int32.ofInt n).toInt = n := by rw [Int32.toInt_ofInt]; exact rx_bm32 (by omega) (by omega)
  rw [e]; exact ⟨Int.le_refl _, Int.le_refl _⟩
theorem rx_o_bipush {n : Int} (C : rx_Cx p s m args meth c D A B wr sa ro mt) (ok : rx_Ok xM mt pc (.bipush n, np, tg, K)) (h1 : -128 ≤ n) (h2 : n ≤ 127) (k : rx_Go p l e R s m args below meth c Q D A B sa ad0 mt np h L (.inl (n, n) :: st) cells slots) : rx_Go p l e R s m args below meth c Q D A B sa ad0 mt pc h L st cells slots := by
  obtain ⟨hd, rfl⟩ := ok.dec (n := 1) rfl
  intro ad ws H locs ls vs a1 a2 a3 a4 a5 a6 a7
  refine lv_bipush (v := (Int8.ofInt n).toInt32) C.1 C.2.1 hd rfl (k ad ws H locs ls _ a1 a2 a3 a4 a5 a6 ⟨⟨_, rfl, ?_⟩, a7⟩)
  have e : (Int8.ofInt n).toInt32.toInt = n := by
    rw [Int8.toInt_toInt32, Int8.toInt_ofInt, show Int8.size = 256 from rfl, Int.bmod_def]; split <;> omega
  rw [e]; exact ⟨Int.le_refl _, Int.le_refl _⟩
theorem rx_o_sipush {n : Int} (C : rx_Cx p s m args meth c D A B wr sa ro mt) (ok : rx_Ok xM mt pc (.sipush n, np, tg, K)) (h1 : -32768 ≤ n) (h2 : n ≤ 32767) (k : rx_Go p l e R s m args below meth c Q D A B sa ad0 mt np h L (.inl (n, n) :: st) cells slots) : rx_Go p l e R s m args below meth c Q D A B sa ad0 mt pc h L st cells slots := by
  obtain ⟨hd, rfl⟩ := ok.dec (n := 2) rfl
  intro ad ws H locs ls vs a1 a2 a3 a4 a5 a6 a7
  refine lv_sipush (v := (Int16.ofInt n).toInt32) C.1 C.2.1 hd rfl (k ad ws H locs ls _ a1 a2 a3 a4 a5 a6 ⟨⟨_, rfl, ?_⟩, a7⟩)
  have e : (Int16.ofInt n).toInt32.toInt = n := by
    rw [Int16.toInt_toInt32, Int16.toInt_ofInt, show Int16.size = 65536 from rfl, Int.bmod_def]; split <;> omega
  rw [e]; exact ⟨Int.le_refl _, Int.le_refl _⟩
theorem rx_o_lconst {n : Fin 2} (C : rx_Cx p s m args meth c D A B wr sa ro mt) (ok : rx_Ok xM mt pc (.lconst n, np, tg, K)) (k : rx_Go p l e R s m args below meth c Q D A B sa ad0 mt np h L (.inr (.inl (((n : Nat) : Int), ((n : Nat) : Int))) :: st) cells slots) : rx_Go p l e R s m args below meth c Q D A B sa ad0 mt pc h L st cells slots := by
  obtain ⟨hd, rfl⟩ := ok.dec (n := 0) rfl
  intro ad ws H locs ls vs a1 a2 a3 a4 a5 a6 a7
  refine lv_lconst (v := Int64.ofNat (n : Nat)) C.1 C.2.1 hd rfl (k ad ws H locs ls _ a1 a2 a3 a4 a5 a6 ⟨⟨_, rfl, ?_⟩, a7⟩)
  have e : (Int64.ofNat (n : Nat)).toInt = ((n : Nat) : Int) := pk_lT (by have := n.isLt; omega)
  rw [e]; exact ⟨Int.le_refl _, Int.le_refl _⟩
theorem rx_o_null (C : rx_Cx p s m args meth c D A B wr sa ro mt) (ok : rx_Ok xM mt pc (.aconst_null, np, tg, K)) (k : rx_Go p l e R s m args below meth c Q D A B sa ad0 mt np h L (.inr (.inr (.inl none)) :: st) cells slots) : rx_Go p l e R s m args below meth c Q D A B sa ad0 mt pc h L st cells slots := by
  obtain ⟨hd, rfl⟩ := ok.dec (n := 0) rfl
  intro ad ws H locs ls vs a1 a2 a3 a4 a5 a6 a7
  exact lv_null C.1 C.2.1 hd (k ad ws H locs ls _ a1 a2 a3 a4 a5 a6 ⟨rfl, a7⟩)
theorem rx_o_ldc {i : Nat} (C : rx_Cx p s m args meth c D A B wr sa ro mt) (ok : rx_Ok xM mt pc (.ldc i, np, tg, K)) (hK : K.1 = 3) (k : rx_Go p l e R s m args below meth c Q D A B sa ad0 mt np h L (.inl (K.2.2.2, K.2.2.2) :: st) cells slots) : rx_Go p l e R s m args below meth c Q D A B sa ad0 mt pc h L st cells slots := by
  obtain ⟨hd, rfl⟩ := ok.dec (n := 1) rfl
  obtain ⟨hw, e⟩ := ok.2.2 hK
  intro ad ws H locs ls vs a1 a2 a3 a4 a5 a6 a7
  refine lv_ldc C.1 C.2.1 C.2.2.2.1 (C.word hw) hd (k ad ws H locs ls _ a1 a2 a3 a4 a5 a6 ⟨⟨_, rfl, ?_⟩, a7⟩)
  rw [e]; exact ⟨Int.le_refl _, Int.le_refl _⟩
theorem rx_o_ldcw {i : Nat} (C : rx_Cx p s m args meth c D A B wr sa ro mt) (ok : rx_Ok xM mt pc (.ldc_w i, np, tg, K)) (hK : K.1 = 3) (k : rx_Go p l e R s m args below meth c Q D A B sa ad0 mt np h L (.inl (K.2.2.2, K.2.2.2) :: st) cells slots) : rx_Go p l e R s m args below meth c Q D A B sa ad0 mt pc h L st cells slots := by
  obtain ⟨hd, rfl⟩ := ok.dec (n := 2) rfl
  obtain ⟨hw, e⟩ := ok.2.2 hK
  intro ad ws H locs ls vs a1 a2 a3 a4 a5 a6 a7
  refine lv_ldcw C.1 C.2.1 C.2.2.2.1 (C.word hw) hd (k ad ws H locs ls _ a1 a2 a3 a4 a5 a6 ⟨⟨_, rfl, ?_⟩, a7⟩)
  rw [e]; exact ⟨Int.le_refl _, Int.le_refl _⟩
theorem rx_o_ldc2 {i : Nat} (C : rx_Cx p s m args meth c D A B wr sa ro mt) (ok : rx_Ok xM mt pc (.ldc2_w i, np, tg, K)) (hK : K.1 = 4) (k : rx_Go p l e R s m args below meth c Q D A B sa ad0 mt np h L (.inr (.inl (K.2.2.2, K.2.2.2)) :: st) cells slots) : rx_Go p l e R s m args below meth c Q D A B sa ad0 mt pc h L st cells slots := by
  obtain ⟨hd, rfl⟩ := ok.dec (n := 2) rfl
  obtain ⟨hw, e⟩ := ok.2.2 hK
  intro ad ws H locs ls vs a1 a2 a3 a4 a5 a6 a7
  refine lv_ldc2 C.1 C.2.1 C.2.2.2.1 (C.word hw) hd (k ad ws H locs ls _ a1 a2 a3 a4 a5 a6 ⟨⟨_, rfl, ?_⟩, a7⟩)
  rw [e]; exact ⟨Int.le_refl _, Int.le_refl _⟩
/-! locals -/
def rx_isI (v : rx_V) : Bool := match v with
  | .inl _ => true
  | .inr (.inr (.inr j)) => Nat.ble 200000 j && Nat.ble j 999999
  | _ => false
theorem rx_int {ad sa : List Nat} {v : rx_V} {x : Value} (hv : rx_isI v = true) (h : rx_G ad sa v x) : ∃ i, x = .int i := by
  match v, hv, h with
  | .inl q, _, h => obtain ⟨i, h, -⟩ := h; exact ⟨i, h⟩
  | .inr (.inr (.inr j)), hv, h =>
    have hv : (Nat.ble 200000 j && Nat.ble j 999999) = true := hv
    rw [Bool.and_eq_true] at hv
    have hv1 := Nat.le_of_ble_eq_true hv.1
    have hv2 := Nat.le_of_ble_eq_true hv.2
    rcases h with ⟨h1, -⟩ | ⟨-, -, i, h, -⟩ | ⟨h1, -⟩
    · omega
    · exact ⟨i, h⟩
    · omega
theorem rx_o_iload_n {i : Fin 4} {v : rx_V} (C : rx_Cx p s m args meth c D A B wr sa ro mt) (ok : rx_Ok xM mt pc (.iload_n i, np, tg, K)) (hv : rx_isI v = true) (hi : L[(i : Nat)]? = some (some v)) (k : rx_Go p l e R s m args below meth c Q D A B sa ad0 mt np h L (v :: st) cells slots) : rx_Go p l e R s m args below meth c Q D A B sa ad0 mt pc h L st cells slots := by
  obtain ⟨hd, rfl⟩ := ok.dec (n := 0) rfl
  intro ad ws H locs ls vs a1 a2 a3 a4 a5 a6 a7
  obtain ⟨x, hx, hy⟩ := rx_L_get a6 hi
  obtain ⟨y, rfl⟩ := rx_int hv hy
  exact lv_iload_n C.1 C.2.1 hd rfl hx (k ad ws H locs ls _ a1 a2 a3 a4 a5 a6 ⟨hy, a7⟩)
theorem rx_o_iload {i : Nat} {v : rx_V} (C : rx_Cx p s m args meth c D A B wr sa ro mt) (ok : rx_Ok xM mt pc (.iload i, np, tg, K)) (hv : rx_isI v = true) (hi : L[i]? = some (some v)) (k : rx_Go p l e R s m args below meth c Q D A B sa ad0 mt np h L (v :: st) cells slots) : rx_Go p l e R s m args below meth c Q D A B sa ad0 mt pc h L st cells slots := by
  obtain ⟨hd, rfl⟩ := ok.dec (n := 1) rfl
  intro ad ws H locs ls vs a1 a2 a3 a4 a5 a6 a7
  obtain ⟨x, hx, hy⟩ := rx_L_get a6 hi
  obtain ⟨y, rfl⟩ := rx_int hv hy
  exact lv_iload C.1 C.2.1 hd hx (k ad ws H locs ls _ a1 a2 a3 a4 a5 a6 ⟨hy, a7⟩)
theorem rx_o_lload_n {i : Fin 4} {q : Int × Int} (C : rx_Cx p s m args meth c D A B wr sa ro mt) (ok : rx_Ok xM mt pc (.lload_n i, np, tg, K)) (hi : L[(i : Nat)]? = some (some (.inr (.inl q)))) (k : rx_Go p l e R s m args below meth c Q D A B sa ad0 mt np h L (.inr (.inl q) :: st) cells slots) : rx_Go p l e R s m args below meth c Q D A B sa ad0 mt pc h L st cells slots := by
  obtain ⟨hd, rfl⟩ := ok.dec (n := 0) rfl
  intro ad ws H locs ls vs a1 a2 a3 a4 a5 a6 a7
  obtain ⟨x, hx, y, rfl, hy⟩ := rx_L_get a6 hi
  exact lv_lload_n C.1 C.2.1 hd rfl hx (k ad ws H locs ls _ a1 a2 a3 a4 a5 a6 ⟨⟨_, rfl, hy⟩, a7⟩)
theorem rx_o_lload {i : Nat} {q : Int × Int} (C : rx_Cx p s m args meth c D A B wr sa ro mt) (ok : rx_Ok xM mt pc (.lload i, np, tg, K)) (hi : L[i]? = some (some (.inr (.inl q)))) (k : rx_Go p l e R s m args below meth c Q D A B sa ad0 mt np h L (.inr (.inl q) :: st) cells slots) : rx_Go p l e R s m args below meth c Q D A B sa ad0 mt pc h L st cells slots := by
  obtain ⟨hd, rfl⟩ := ok.dec (n := 1) rfl
  intro ad ws H locs ls vs a1 a2 a3 a4 a5 a6 a7
  obtain ⟨x, hx, y, rfl, hy⟩ := rx_L_get a6 hi
  exact lv_lload C.1 C.2.1 hd hx (k ad ws H locs ls _ a1 a2 a3 a4 a5 a6 ⟨⟨_, rfl, hy⟩, a7⟩)
theorem rx_ref {ad sa : List Nat} {q : Option Nat ⊕ Nat} {x : Value} (hq : rx_isr q = true) (h : rx_G ad sa (.inr (.inr q)) x) : x = .null ∨ ∃ a, x = .ref a := by
  match q, hq, h with
  | .inl none, _, h => exact Or.inl h
  | .inl (some k), _, h => obtain ⟨a, -, h⟩ := h; exact Or.inr ⟨a, h⟩
  | .inr j, hq, h =>
    have hq : (Nat.ble j 19 || Nat.ble 1000000 j) = true := hq
    rw [Bool.or_eq_true] at hq
    rcases h with ⟨-, a, -, h⟩ | ⟨h1, h2, -⟩ | ⟨-, ⟨-, h⟩ | ⟨k, a, -, -, -, h⟩⟩
    · exact Or.inr ⟨a, h⟩
    · rcases hq with hq | hq
      · have := Nat.le_of_ble_eq_true hq; omega
      · have := Nat.le_of_ble_eq_true hq; omega
    · exact Or.inl h
    · exact Or.inr ⟨a, h⟩
theorem rx_o_aload_n {i : Fin 4} {q : Option Nat ⊕ Nat} (C : rx_Cx p s m args meth c D A B wr sa ro mt) (ok : rx_Ok xM mt pc (.aload_n i, np, tg, K)) (hq : rx_isr q = true) (hi : L[(i : Nat)]? = some (some (.inr (.inr q)))) (k : rx_Go p l e R s m args below meth c Q D A B sa ad0 mt np h L (.inr (.inr q) :: st) cells slots) : rx_Go p l e R s m args below meth c Q D A B sa ad0 mt pc h L st cells slots := by
  obtain ⟨hd, rfl⟩ := ok.dec (n := 0) rfl
  intro ad ws H locs ls vs a1 a2 a3 a4 a5 a6 a7
  obtain ⟨x, hx, hy⟩ := rx_L_get a6 hi
  have kk := k ad ws H locs ls (x :: vs) a1 a2 a3 a4 a5 a6 ⟨hy, a7⟩
  rcases rx_ref hq hy with rfl | ⟨a, rfl⟩
  · exact lv_aload_nN C.1 C.2.1 hd rfl hx kk
  · exact lv_aload_n C.1 C.2.1 hd rfl hx kk
theorem rx_o_aload {i : Nat} {q : Option Nat ⊕ Nat} (C : rx_Cx p s m args meth c D A B wr sa ro mt) (ok : rx_Ok xM mt pc (.aload i, np, tg, K)) (hq : rx_isr q = true) (hi : L[i]? = some (some (.inr (.inr q)))) (k : rx_Go p l e R s m args below meth c Q D A B sa ad0 mt np h L (.inr (.inr q) :: st) cells slots) : rx_Go p l e R s m args below meth c Q D A B sa ad0 mt pc h L st cells slots := by
  obtain ⟨hd, rfl⟩ := ok.dec (n := 1) rfl
  intro ad ws H locs ls vs a1 a2 a3 a4 a5 a6 a7
  obtain ⟨x, hx, hy⟩ := rx_L_get a6 hi
  have kk := k ad ws H locs ls (x :: vs) a1 a2 a3 a4 a5 a6 ⟨hy, a7⟩
  rcases rx_ref hq hy with rfl | ⟨a, rfl⟩
  · exact lv_aloadN C.1 C.2.1 hd hx kk
  · exact lv_aload C.1 C.2.1 hd hx kk
theorem rx_o_istore_n {i : Fin 4} {q : Int × Int} {r : List rx_V} (C : rx_Cx p s m args meth c D A B wr sa ro mt) (ok : rx_Ok xM mt pc (.istore_n i, np, tg, K)) (hp : rx_pv L i = true) (hi : (i : Nat) < L.length) (k : rx_Go p l e R s m args below meth c Q D A B sa ad0 mt np h (L.set i (some (.inl q))) r cells slots) : rx_Go p l e R s m args below meth c Q D A B sa ad0 mt pc h L (.inl q :: r) cells slots := by
  obtain ⟨hd, rfl⟩ := ok.dec (n := 0) rfl
  intro ad ws H locs ls vs a1 a2 a3 a4 a5 a6 a7
  obtain ⟨y, vs, rfl, ⟨x, rfl, hx⟩, a8⟩ := rx_S_cons a7
  obtain ⟨hn, lv, hl, kk⟩ := rx_L_set1 a6 (v := .inl q) (x := .int x) hi hp ⟨x, rfl, hx⟩ rfl
  exact lv_istore_n C.1 C.2.1 hd rfl hl hn rfl fun ls' h' => k ad ws H locs ls' _ a1 a2 a3 a4 a5 (kk ls' h') a8
theorem rx_o_istore {i : Nat} {q : Int × Int} {r : List rx_V} (C : rx_Cx p s m args meth c D A B wr sa ro mt) (ok : rx_Ok xM mt pc (.istore i, np, tg, K)) (hp : rx_pv L i = true) (hi : i < L.length) (k : rx_Go p l e R s m args below meth c Q D A B sa ad0 mt np h (L.set i (some (.inl q))) r cells slots) : rx_Go p l e R s m args below meth c Q D A B sa ad0 mt pc h L (.inl q :: r) cells slots := by
  obtain ⟨hd, rfl⟩ := ok.dec (n := 1) rfl
  intro ad ws H locs ls vs a1 a2 a3 a4 a5 a6 a7
  obtain ⟨y, vs, rfl, ⟨x, rfl, hx⟩, a8⟩ := rx_S_cons a7
  obtain ⟨hn, lv, hl, kk⟩ := rx_L_set1 a6 (v := .inl q) (x := .int x) hi hp ⟨x, rfl, hx⟩ rfl
  exact lv_istore C.1 C.2.1 hd hl hn rfl fun ls' h' => k ad ws H locs ls' _ a1 a2 a3 a4 a5 (kk ls' h') a8
theorem rx_o_astore_n {i : Fin 4} {q : Option Nat ⊕ Nat} {r : List rx_V} (C : rx_Cx p s m args meth c D A B wr sa ro mt) (ok : rx_Ok xM mt pc (.astore_n i, np, tg, K)) (hq : rx_isr q = true) (hp : rx_pv L i = true) (hi : (i : Nat) < L.length) (k : rx_Go p l e R s m args below meth c Q D A B sa ad0 mt np h (L.set i (some (.inr (.inr q)))) r cells slots) : rx_Go p l e R s m args below meth c Q D A B sa ad0 mt pc h L (.inr (.inr q) :: r) cells slots := by
  obtain ⟨hd, rfl⟩ := ok.dec (n := 0) rfl
  intro ad ws H locs ls vs a1 a2 a3 a4 a5 a6 a7
  obtain ⟨x, vs, rfl, hx, a8⟩ := rx_S_cons a7
  obtain ⟨hn, lv, hl, kk⟩ := rx_L_set1 a6 (v := .inr (.inr q)) (x := x) hi hp hx rfl
  rcases rx_ref hq hx with rfl | ⟨a, rfl⟩
  · exact lv_astore_nN C.1 C.2.1 hd rfl hl hn rfl fun ls' h' => k ad ws H locs ls' _ a1 a2 a3 a4 a5 (kk ls' h') a8
  · exact lv_astore_n C.1 C.2.1 hd rfl hl hn rfl fun ls' h' => k ad ws H locs ls' _ a1 a2 a3 a4 a5 (kk ls' h') a8
theorem rx_o_astore {i : Nat} {q : Option Nat ⊕ Nat} {r : List rx_V} (C : rx_Cx p s m args meth c D A B wr sa ro mt) (ok : rx_Ok xM mt pc (.astore i, np, tg, K)) (hq : rx_isr q = true) (hp : rx_pv L i = true) (hi : i < L.length) (k : rx_Go p l e R s m args below meth c Q D A B sa ad0 mt np h (L.set i (some (.inr (.inr q)))) r cells slots) : rx_Go p l e R s m args below meth c Q D A B sa ad0 mt pc h L (.inr (.inr q) :: r) cells slots := by
  obtain ⟨hd, rfl⟩ := ok.dec (n := 1) rfl
  intro ad ws H locs ls vs a1 a2 a3 a4 a5 a6 a7
  obtain ⟨x, vs, rfl, hx, a8⟩ := rx_S_cons a7
  obtain ⟨hn, lv, hl, kk⟩ := rx_L_set1 a6 (v := .inr (.inr q)) (x := x) hi hp hx rfl
  rcases rx_ref hq hx with rfl | ⟨a, rfl⟩
  · exact lv_astoreN C.1 C.2.1 hd hl hn rfl fun ls' h' => k ad ws H locs ls' _ a1 a2 a3 a4 a5 (kk ls' h') a8
  · exact lv_astore C.1 C.2.1 hd hl hn rfl fun ls' h' => k ad ws H locs ls' _ a1 a2 a3 a4 a5 (kk ls' h') a8
theorem rx_o_lstore_n {i : Fin 4} {q : Int × Int} {r : List rx_V} (C : rx_Cx p s m args meth c D A B wr sa ro mt) (ok : rx_Ok xM mt pc (.lstore_n i, np, tg, K)) (hp : rx_pv L i = true) (hi : (i : Nat) + 1 < L.length) (k : rx_Go p l e R s m args below meth c Q D A B sa ad0 mt np h ((L.set i (some (.inr (.inl q)))).set ((i : Nat) + 1) none) r cells slots) : rx_Go p l e R s m args below meth c Q D A B sa ad0 mt pc h L (.inr (.inl q) :: r) cells slots := by
  obtain ⟨hd, rfl⟩ := ok.dec (n := 0) rfl
  intro ad ws H locs ls vs a1 a2 a3 a4 a5 a6 a7
  obtain ⟨y, vs, rfl, ⟨x, rfl, hx⟩, a8⟩ := rx_S_cons a7
  obtain ⟨hn, lv, hl, kk⟩ := rx_L_set2 a6 (v := .inr (.inl q)) (x := .long x) hi hp ⟨x, rfl, hx⟩
  exact lv_lstore_n C.1 C.2.1 hd rfl hl hn rfl fun ls' h' => k ad ws H locs ls' _ a1 a2 a3 a4 a5 (kk ls' h') a8
theorem rx_o_lstore {i : Nat} {q : Int × Int} {r : List rx_V} (C : rx_Cx p s m args meth c D A B wr sa ro mt) (ok : rx_Ok xM mt pc (.lstore i, np, tg, K)) (hp : rx_pv L i = true) (hi : i + 1 < L.length) (k : rx_Go p l e R s m args below meth c Q D A B sa ad0 mt np h ((L.set i (some (.inr (.inl q)))).set (i + 1) none) r cells slots) : rx_Go p l e R s m args below meth c Q D A B sa ad0 mt pc h L (.inr (.inl q) :: r) cells slots := by
  obtain ⟨hd, rfl⟩ := ok.dec (n := 1) rfl
  intro ad ws H locs ls vs a1 a2 a3 a4 a5 a6 a7
  obtain ⟨y, vs, rfl, ⟨x, rfl, hx⟩, a8⟩ := rx_S_cons a7
  obtain ⟨hn, lv, hl, kk⟩ := rx_L_set2 a6 (v := .inr (.inl q)) (x := .long x) hi hp ⟨x, rfl, hx⟩
  exact lv_lstore C.1 C.2.1 hd hl hn rfl fun ls' h' => k ad ws H locs ls' _ a1 a2 a3 a4 a5 (kk ls' h') a8
theorem rx_o_iinc {i : Nat} {n : Int} {q : Int × Int} (C : rx_Cx p s m args meth c D A B wr sa ro mt) (ok : rx_Ok xM mt pc (.iinc i n, np, tg, K)) (h1 : -32768 ≤ n) (h2 : n ≤ 32767) (hp : rx_pv L i = true) (hi : L[i]? = some (some (.inl q))) (k : rx_Go p l e R s m args below meth c Q D A B sa ad0 mt np h (L.set i (some (.inl (rx_i32 (rx_add q (n, n)))))) st cells slots) : rx_Go p l e R s m args below meth c Q D A B sa ad0 mt pc h L st cells slots := by
  obtain ⟨hd, rfl⟩ := ok.dec (n := 2) rfl
  intro ad ws H locs ls vs a1 a2 a3 a4 a5 a6 a7
  obtain ⟨l0, g1, g2, g3⟩ := id a6
  obtain ⟨x, hx, y, rfl, hy⟩ := g3 i _ hi
  obtain ⟨t, ht⟩ := List.getElem?_of_mem hx
  have e : (Int32.ofInt n).toInt = n := by rw [Int32.toInt_ofInt]; exact rx_bm32 (by omega) (by omega)
  have hv : rx_has (rx_i32 (rx_add q (n, n))) (y + Int32.ofInt n).toInt := rx_iadd hy (by rw [e]; exact ⟨Int.le_refl _, Int.le_refl _⟩)
  have hl : i < L.length := (List.getElem?_eq_some_iff.mp hi).1
  refine lv_iinc (v := y + Int32.ofInt n) C.1 C.2.1 hd g1 ht rfl (by omega) rfl fun ls' h' => k ad ws H locs ls' _ a1 a2 a3 a4 a5 ⟨_, h', by rw [List.length_set]; exact g2, fun j w hj => ?_⟩ a7
  by_cases hij : i = j
  · subst hij
    rw [List.getElem?_set_self hl] at hj
    cases hj
    exact ⟨_, List.mem_cons_self, _, rfl, hv⟩
  · rw [List.getElem?_set_ne hij] at hj
    obtain ⟨z, hz, hw⟩ := g3 j w hj
    refine ⟨z, List.mem_cons_of_mem _ (List.mem_filter.mpr ⟨hz, ?_⟩), hw⟩
    have n1 : (j == i) = false := by simpa using fun e => hij e.symm
    by_cases hji : j + 1 = i
    · have := rx_pv_cat hp hji hj hw
      simp [n1, this]
    · simp [n1, hji]
end OPS
