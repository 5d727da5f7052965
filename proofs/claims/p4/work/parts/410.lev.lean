/-! ORACLES IN LEVELS -/
section LEV
variable {l : Launch} {xM : List rx_MT} {ro : List (List rx_V)} {T : Nat → List wx_En} {lim n : Nat} {dis inlP : Nat → Bool} {inlN : Nat → Option Nat} {Φ : rx_H → rx_H} {t0 X : rx_H}
noncomputable def wx_P (xM : List rx_MT) (ro : List (List rx_V)) (T : Nat → List wx_En) (lim : Nat) (dis inl : Nat → Bool) (n k : Nat) : wx_Orc :=
  Nat.rec (motive := fun _ => wx_Orc) (wx_oT T lim dis true) (fun _ ih => wx_o2 (wx_oT T lim dis true) (wx_oP xM ih ro n inl)) k
theorem wx_HO_Pk (hro : ro.length ≤ 20) (hob : Jvm.Cond.instanceMethod Lib.objectInit ∈ rx_bw ∧ Jvm.Cond.code Lib.objectInit ⟨#[0xb1]⟩ 1 none ∈ rx_bw) (hxM : ∀ (j : Nat) (mj : rx_MT), xM[j]? = some mj → rx_MOk xM mj) (hΦ : wx_Ph Φ) (hT : wx_TT l xM ro T lim X) : ∀ (k : Nat) (t0 : rx_H) (wr : Bool), rx_HS (Φ t0) X → wx_HO wr xM l (wx_P xM ro T lim dis inlP n k) ro Φ t0 := by
  intro k
  induction k with
  | zero => intro t0 wr hX; exact wx_HO_T hT hX (Or.inl rfl)
  | succ k ih => intro t0 wr hX; exact wx_HO_2 (wx_HO_T hT hX (Or.inl rfl)) (wx_HO_P hro hob hxM hΦ (fun h hn => ih h false (rx_HS_tr hn hX)))
noncomputable def wx_A (xM : List rx_MT) (ro : List (List rx_V)) (T : Nat → List wx_En) (lim : Nat) (dis inl : Nat → Bool) (inlN : Nat → Option Nat) (t0 : rx_H) (n k : Nat) : wx_Orc :=
  Nat.rec (motive := fun _ => wx_Orc) (wx_o2 (wx_oT T lim dis false) (wx_oP xM (wx_P xM ro T lim dis inl n 3) ro n inl)) (fun _ ih => wx_o2 (wx_oT T lim dis false) (wx_o2 (wx_oP xM (wx_P xM ro T lim dis inl n 3) ro n inl) (wx_oI xM ih ro n inlN false t0))) k
theorem wx_HO_A (hro : ro.length ≤ 20) (hob : Jvm.Cond.instanceMethod Lib.objectInit ∈ rx_bw ∧ Jvm.Cond.code Lib.objectInit ⟨#[0xb1]⟩ 1 none ∈ rx_bw) (hxM : ∀ (j : Nat) (mj : rx_MT), xM[j]? = some mj → rx_MOk xM mj) (hΦ : wx_Ph Φ) (hT : wx_TT l xM ro T lim (Φ t0)) : ∀ (k : Nat), wx_HO true xM l (wx_A xM ro T lim dis inlP inlN t0 n k) ro Φ t0 := by
  have hp : wx_HO true xM l (wx_oP xM (wx_P xM ro T lim dis inlP n 3) ro n inlP) ro Φ t0 := wx_HO_P hro hob hxM hΦ (fun h hn => wx_HO_Pk hro hob hxM hΦ hT 3 h false hn)
  have ht : wx_HO true xM l (wx_oT T lim dis false) ro Φ t0 := wx_HO_T hT rx_HS_rf (Or.inr ⟨rfl, rfl⟩)
  intro k
  induction k with
  | zero => exact wx_HO_2 ht hp
  | succ k ih => exact wx_HO_2 ht (wx_HO_2 hp (wx_HO_I hro hob hxM hΦ (fun h _ => ih)))
/-- methods that keep to whatever table stands -/
noncomputable def wx_Kk (xM : List rx_MT) (ro : List (List rx_V)) (T : Nat → List wx_En) (lim : Nat) (inlK : Nat → Option Nat) (n k : Nat) : wx_Orc :=
  Nat.rec (motive := fun _ => wx_Orc) (wx_oT T lim (fun _ => false) true) (fun _ ih => wx_o2 (wx_oT T lim (fun _ => false) true) (wx_oI xM ih ro n inlK true [])) k
theorem wx_HO_I2 {orc : wx_Orc} {inlK : Nat → Option Nat} {t1 t2 : rx_H} (h : wx_HO true xM l (wx_oI xM orc ro n inlK true t1) ro Φ t0) : wx_HO true xM l (wx_oI xM orc ro n inlK true t2) ro Φ t0 := h
theorem wx_HO_Kk {inlK : Nat → Option Nat} (hro : ro.length ≤ 20) (hob : Jvm.Cond.instanceMethod Lib.objectInit ∈ rx_bw ∧ Jvm.Cond.code Lib.objectInit ⟨#[0xb1]⟩ 1 none ∈ rx_bw) (hxM : ∀ (j : Nat) (mj : rx_MT), xM[j]? = some mj → rx_MOk xM mj) (hΦ : wx_Ph Φ) (hT : wx_TT l xM ro T lim X) : ∀ (k : Nat) (t0 : rx_H), rx_HS (Φ t0) X → wx_HO true xM l (wx_Kk xM ro T lim inlK n k) ro Φ t0 := by
  intro k
  induction k with
  | zero => intro t0 hX; exact wx_HO_T hT hX (Or.inl rfl)
  | succ k ih => intro t0 hX; exact wx_HO_2 (wx_HO_T hT hX (Or.inl rfl)) (wx_HO_I2 (t1 := t0) (wx_HO_I hro hob hxM hΦ (fun h hn => ih h (rx_HS_tr hn hX))))
noncomputable def wx_M (xM : List rx_MT) (ro : List (List rx_V)) (T : Nat → List wx_En) (lim : Nat) (dis : Nat → Bool) (inlK : Nat → Option Nat) (n k : Nat) : wx_Orc := wx_o2 (wx_oT T lim dis false) (wx_oI xM (wx_Kk xM ro T lim inlK n k) ro n inlK true [])
theorem wx_HO_M {inlK : Nat → Option Nat} (hro : ro.length ≤ 20) (hob : Jvm.Cond.instanceMethod Lib.objectInit ∈ rx_bw ∧ Jvm.Cond.code Lib.objectInit ⟨#[0xb1]⟩ 1 none ∈ rx_bw) (hxM : ∀ (j : Nat) (mj : rx_MT), xM[j]? = some mj → rx_MOk xM mj) (hΦ : wx_Ph Φ) (hT : wx_TT l xM ro T lim (Φ t0)) (k : Nat) : wx_HO true xM l (wx_M xM ro T lim dis inlK n k) ro Φ t0 :=
  wx_HO_2 (wx_HO_T hT rx_HS_rf (Or.inr ⟨rfl, rfl⟩)) (wx_HO_I2 (t1 := t0) (wx_HO_I hro hob hxM hΦ (fun h hn => wx_HO_Kk hro hob hxM hΦ hT k h hn)))
end LEV
