/-! new arrays -/
theorem rx_one_n {q : Int × Int} {x : Int32} (h1 : rx_one q = true) (h2 : rx_le 0 q.1 = true) (hx : rx_has q x.toInt) : ¬ x < 0 ∧ x.toNatClampNeg = q.1.toNat := by
  have q1 := rx_le_t h1
  have q2 := rx_le_t h2
  obtain ⟨x1, x2⟩ := hx
  have e : q.1 = x.toInt := by omega
  refine ⟨fun z => ?_, by rw [e]; rfl⟩
  have z := Int32.lt_iff_toInt_lt.mp z
  have h0 : (0 : Int32).toInt = 0 := by decide
  omega
theorem rx_rep {α : Type} {n j : Nat} {x v : α} (h : (List.replicate n x)[j]? = some v) : v = x := by
  have hm := List.mem_of_getElem? h
  exact (List.mem_replicate.mp hm).2
section OPS
variable {p : Program} {l : Launch} {e : Env} {R : Room} {s : State} {m : MethodId} {args : Array Value} {below : List Frame} {meth : Method} {c : Code} {Q : State → Prop} {D : va_G} {A B : Nat → Prop} {wr : Bool} {sa ad0 : List Nat} {ro : List (List rx_V)} {mt : rx_MT} {xM : List rx_MT} {pc np tg : Nat} {K : rx_K} {h : rx_H} {L : rx_F} {st r : List rx_V} {cells slots : Nat} {q : Int × Int}
theorem rx_o_newarray {t : ArrayType} {tc : Nat} (C : rx_Cx p s m args meth c D A B wr sa ro mt) (hwr : wr = true) (ok : rx_Ok xM mt pc (.newarray t, np, tg, K)) (ht : (t = .int ∧ tc = 0) ∨ (t = .boolean ∧ tc = 1) ∨ (t = .long ∧ tc = 2)) (h1 : rx_one q = true) (h2 : rx_le 0 q.1 = true) (h4 : rx_le q.1 1000 = true) (hR : cells + 1 ≤ R.cells ∧ slots + q.1.toNat ≤ R.slots)
    (k : rx_Go p l e R s m args below meth c Q D A B sa ad0 mt np (h ++ [.inr (tc, List.replicate q.1.toNat (rx_dfl tc))]) L (.inr (.inr (.inl (some h.length))) :: r) (cells + 1) (slots + q.1.toNat)) : rx_Go p l e R s m args below meth c Q D A B sa ad0 mt pc h L (.inl q :: r) cells slots := by
  obtain ⟨hd, rfl⟩ := ok.dec (n := 1) rfl
  have hBA := (C.2.2.2.2.2.2.2.2.2.2.2.2.1 hwr).symm
  subst hBA
  have hw := ok.2.2
  intro ad ws H locs ls vs a1 a2 a3 a4 a5 a6 a7
  obtain ⟨x, vs, rfl, ⟨n, rfl, hn⟩, a9⟩ := rx_S_cons a7
  obtain ⟨n1, n2⟩ := rx_one_n h1 h2 hn
  have hb : q.1.toNat ≤ 1000 := by have := rx_le_t h4; omega
  have hK := C.2.2.2.2.2.2.2.2.1
  have key : ∀ (q0 : Nat) (cA : ClassId) (H1 : Heap) (a0 : vp_A), va_K D rx_cl ([] ++ [(cA, Op.newarray.typeOf t)]) s → (∀ ad', rx_A ad' sa cA tc (List.replicate q.1.toNat (rx_dfl tc)) (.inl (cA, a0))) → rx_aty tc = Op.newarray.typeOf t → va_P D rx_cl (ws ++ [(q0, .inl (cA, a0))]) H1 → va_D A (ws ++ [(q0, .inl (cA, a0))]) → va_S A s.heap H1 locs →
      W p l e R s m args below meth c H1 locs (cells + 1) (slots + q.1.toNat) Q (F0 m (pc + 2) ls (.ref q0 :: vs)) := by
    intro q0 cA H1 a0 b0 b9 b8 b1 b2 b3
    have hpre : ad <+: ad ++ [q0] := ⟨[q0], rfl⟩
    have hA := b0.2 0 _ rfl
    rw [← b8] at hA
    refine k (ad ++ [q0]) _ H1 locs ls (.ref q0 :: vs) (List.IsPrefix.trans a1 hpre) (rx_W_push a2 ⟨cA, hA, b9 _⟩) b1 b2 b3 (rx_L_up hpre a6) ⟨⟨q0, ?_, rfl⟩, rx_S_up hpre a9⟩
    rw [← rx_W_len a2, List.getElem?_append_right (Nat.le_refl _), Nat.sub_self]
    rfl
  rcases ht with ⟨rfl, rfl⟩ | ⟨rfl, rfl⟩ | ⟨rfl, rfl⟩
  · refine va_newa (N' := q.1.toNat) (a0 := (q.1.toNat, .inl (fun _ => 0))) C.1 C.2.1 (C.word hw) rfl hK a3 a4 a5 C.2.2.2.2.2.2.2.2.2.1 (fun cA => rfl) n1 n2 (Nat.le_trans (Nat.mul_le_mul hb (show componentBytes _ ≤ 8 by decide)) (by decide)) hR.1 hR.2 hd fun q0 cA H1 b0 b1 b2 b3 => key q0 cA H1 _ b0 (fun ad' => ⟨_, by rw [List.length_replicate], fun j v hj => ?_⟩) rfl b1 b2 b3
    rw [rx_rep hj]; exact ⟨0, rfl, by decide, by decide⟩
  · refine va_newa (N' := q.1.toNat) (a0 := (q.1.toNat, .inl (fun _ => 0))) C.1 C.2.1 (C.word hw) rfl hK a3 a4 a5 C.2.2.2.2.2.2.2.2.2.1 (fun cA => rfl) n1 n2 (Nat.le_trans (Nat.mul_le_mul hb (show componentBytes _ ≤ 8 by decide)) (by decide)) hR.1 hR.2 hd fun q0 cA H1 b0 b1 b2 b3 => key q0 cA H1 _ b0 (fun ad' => ⟨_, by rw [List.length_replicate], fun j v hj => ?_⟩) rfl b1 b2 b3
    rw [rx_rep hj]; exact ⟨0, rfl, by decide, by decide⟩
  · refine va_newa (N' := q.1.toNat) (a0 := (q.1.toNat, .inr (.inl (fun _ => 0)))) C.1 C.2.1 (C.word hw) rfl hK a3 a4 a5 C.2.2.2.2.2.2.2.2.2.1 (fun cA => rfl) n1 n2 (Nat.le_trans (Nat.mul_le_mul hb (show componentBytes _ ≤ 8 by decide)) (by decide)) hR.1 hR.2 hd fun q0 cA H1 b0 b1 b2 b3 => key q0 cA H1 _ b0 (fun ad' => ⟨_, by rw [List.length_replicate], fun j v hj => ?_⟩) rfl b1 b2 b3
    rw [rx_rep hj]; exact ⟨0, rfl, by decide, by decide⟩
theorem rx_o_anewarray {i : Nat} (C : rx_Cx p s m args meth c D A B wr sa ro mt) (hwr : wr = true) (ok : rx_Ok xM mt pc (.anewarray i, np, tg, K)) (hK : K.1 = 13) (h1 : rx_one q = true) (h2 : rx_le 0 q.1 = true) (h4 : rx_le q.1 1000 = true) (hR : cells + 1 ≤ R.cells ∧ slots + q.1.toNat ≤ R.slots)
    (k : rx_Go p l e R s m args below meth c Q D A B sa ad0 mt np (h ++ [.inr (K.2.1 + 3, List.replicate q.1.toNat (.inr (.inr (.inl none))))]) L (.inr (.inr (.inl (some h.length))) :: r) (cells + 1) (slots + q.1.toNat)) : rx_Go p l e R s m args below meth c Q D A B sa ad0 mt pc h L (.inl q :: r) cells slots := by
  obtain ⟨hd, rfl⟩ := ok.dec (n := 2) rfl
  have hBA := (C.2.2.2.2.2.2.2.2.2.2.2.2.1 hwr).symm
  subst hBA
  obtain ⟨qc, f1, f2, f3⟩ := ok.2.2 hK
  intro ad ws H locs ls vs a1 a2 a3 a4 a5 a6 a7
  obtain ⟨x, vs, rfl, ⟨n, rfl, hn⟩, a9⟩ := rx_S_cons a7
  obtain ⟨n1, n2⟩ := rx_one_n h1 h2 hn
  have hb : q.1.toNat ≤ 1000 := by have := rx_le_t h4; omega
  refine va_newq (N' := q.1.toNat) C.1 C.2.1 C.2.2.2.1 (C.word f2) (C.2.2.2.2.2.2.2.2.2.2.2.1.2.2 _ f3) C.2.2.2.2.2.2.2.2.1 a3 a4 a5 C.2.2.2.2.2.2.2.2.2.1 n1 n2 (by omega) hR.1 hR.2 hd fun q0 cA H1 b0 b1 b2 b3 => ?_
  have hpre : ad <+: ad ++ [q0] := ⟨[q0], rfl⟩
  have hA := b0.2 0 _ rfl
  have e : rx_aty (K.2.1 + 3) = .object qc.1 := by show FieldType.object (rx_cn K.2.1) = _; unfold rx_cn; rw [f1]
  rw [← e] at hA
  refine k (ad ++ [q0]) _ H1 locs ls (.ref q0 :: vs) (List.IsPrefix.trans a1 hpre) (rx_W_push a2 ⟨cA, hA, _, by rw [List.length_replicate], fun j v hj => ?_⟩) b1 b2 b3 (rx_L_up hpre a6) ⟨⟨q0, ?_, rfl⟩, rx_S_up hpre a9⟩
  · rw [rx_rep hj]; rfl
  · rw [← rx_W_len a2, List.getElem?_append_right (Nat.le_refl _), Nat.sub_self]
    rfl
end OPS
