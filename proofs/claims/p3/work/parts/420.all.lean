/-! ALL CONTRACTS HOLD -/
noncomputable def wx_X (n : Nat) : rx_H := wx_fill n wx_Kst
theorem wx_go {l : Launch} {n j : Nat} (hT : wx_TT l rx_xM rx_ro wx_T j (wx_X n)) {mj : rx_MT} (hj : rx_xM[j]? = some mj) {es : List wx_En} (hk : es.all (fun e => wx_chk (wx_or j e.2.2.2) rx_ro wx_bx wx_Kst 6000 mj e) = true) : ∀ e ∈ es, wx_TE l rx_ro (wx_X n) mj e := by
  intro e he
  have hc := List.all_eq_true.mp hk e he
  refine wx_chk_ok (Φ := wx_fill n) (by decide) (wx_Ph_fill n) rx_hob ?_ (wx_HB_bx n) (rx_all j mj hj) hc
  unfold wx_or
  cases e.2.2.2 with
  | false => exact wx_HO_A (inlN := wx_n0) (by decide) rx_hob rx_all (wx_Ph_fill n) hT 0
  | true => exact wx_HO_Pk (by decide) rx_hob rx_all (wx_Ph_fill n) hT 1 _ _ rx_HS_rf
theorem wx_goN {l : Launch} {n j : Nat} {Kn : rx_H} (hF : wx_fill n wx_Kst = Kn) (hT : wx_TT l rx_xM rx_ro wx_T j (wx_X n)) {mj : rx_MT} (hj : rx_xM[j]? = some mj) {es : List wx_En} (hk : es.all (fun e => wx_chk (wx_on Kn j e.2.2.2) rx_ro wx_nb Kn 6000 mj e) = true) : ∀ e ∈ es, wx_TE l rx_ro (wx_X n) mj e := by
  intro e he
  have hc := List.all_eq_true.mp hk e he
  have eX : wx_X n = Kn := hF
  rw [eX] at hT ⊢
  refine wx_chk_ok (Φ := fun h => h) (by decide) wx_Ph_id rx_hob ?_ wx_HB_nb (rx_all j mj hj) hc
  unfold wx_on
  cases e.2.2.2 with
  | false => exact wx_HO_A (Φ := fun h => h) (by decide) rx_hob rx_all wx_Ph_id hT 3
  | true => exact wx_HO_Pk (Φ := fun h => h) (by decide) rx_hob rx_all wx_Ph_id hT 3 _ _ rx_HS_rf
theorem wx_TT0 {l : Launch} {X : rx_H} : wx_TT l rx_xM rx_ro wx_T 0 X := fun j mj h => absurd h (Nat.not_lt_zero _)
theorem wx_TTs {l : Launch} {X : rx_H} {j : Nat} {es : List wx_En} (hT : wx_TT l rx_xM rx_ro wx_T j X) (hes : wx_T j = es) {m0 : rx_MT} (hm : rx_xM[j]? = some m0) (he : ∀ e ∈ es, wx_TE l rx_ro X m0 e) : wx_TT l rx_xM rx_ro wx_T (j + 1) X := by
  intro i mj hi hj e hE
  by_cases c : i = j
  · subst c
    cases hm.symm.trans hj
    rw [hes] at hE
    exact he e hE
  · exact hT i mj (by omega) hj e hE
theorem wx_none {l : Launch} {X : rx_H} {m0 : rx_MT} : ∀ e ∈ ([] : List wx_En), wx_TE l rx_ro X m0 e := fun e h => by cases h
theorem wx_goM {l : Launch} {n : Nat} (hT : wx_TT l rx_xM rx_ro wx_T 165 (wx_X n)) : ∀ e ∈ wx_e165, wx_TE l rx_ro (wx_X n) rx_m165 e := by
  intro e he
  have hp : e.2.2.2 = false := by
    unfold wx_e165 at he
    simp only [List.mem_cons, List.not_mem_nil, or_false] at he
    rcases he with rfl | rfl <;> rfl
  have hc := List.all_eq_true.mp wx_k165 e he
  refine wx_chk_ok (Φ := wx_fill n) (by decide) (wx_Ph_fill n) rx_hob ?_ (wx_HB_bx n) (rx_all 165 _ rx_x165) hc
  rw [hp]
  exact wx_HO_M (by decide) rx_hob rx_all (wx_Ph_fill n) hT 3
theorem wx_41 {P : Nat → Prop} (h0 : P 0) (h1 : P 1) (h2 : P 2) (h3 : P 3) (h4 : P 4) (h5 : P 5) (h6 : P 6) (h7 : P 7) (h8 : P 8) (h9 : P 9) (h10 : P 10) (h11 : P 11) (h12 : P 12) (h13 : P 13) (h14 : P 14) (h15 : P 15) (h16 : P 16) (h17 : P 17) (h18 : P 18) (h19 : P 19) (h20 : P 20) (h21 : P 21) (h22 : P 22) (h23 : P 23) (h24 : P 24) (h25 : P 25) (h26 : P 26) (h27 : P 27) (h28 : P 28) (h29 : P 29) (h30 : P 30) (h31 : P 31) (h32 : P 32) (h33 : P 33) (h34 : P 34) (h35 : P 35) (h36 : P 36) (h37 : P 37) (h38 : P 38) (h39 : P 39) (h40 : P 40) : ∀ {n : Nat}, n ≤ 40 → P n := by
  intro n hn
  match n, hn with
  | 0, _ => exact h0
  | 1, _ => exact h1
  | 2, _ => exact h2
  | 3, _ => exact h3
  | 4, _ => exact h4
  | 5, _ => exact h5
  | 6, _ => exact h6
  | 7, _ => exact h7
  | 8, _ => exact h8
  | 9, _ => exact h9
  | 10, _ => exact h10
  | 11, _ => exact h11
  | 12, _ => exact h12
  | 13, _ => exact h13
  | 14, _ => exact h14
  | 15, _ => exact h15
  | 16, _ => exact h16
  | 17, _ => exact h17
  | 18, _ => exact h18
  | 19, _ => exact h19
  | 20, _ => exact h20
  | 21, _ => exact h21
  | 22, _ => exact h22
  | 23, _ => exact h23
  | 24, _ => exact h24
  | 25, _ => exact h25
  | 26, _ => exact h26
  | 27, _ => exact h27
  | 28, _ => exact h28
  | 29, _ => exact h29
  | 30, _ => exact h30
  | 31, _ => exact h31
  | 32, _ => exact h32
  | 33, _ => exact h33
  | 34, _ => exact h34
  | 35, _ => exact h35
  | 36, _ => exact h36
  | 37, _ => exact h37
  | 38, _ => exact h38
  | 39, _ => exact h39
  | 40, _ => exact h40
  | _ + 41, hn => omega
theorem wx_con22 {l : Launch} {n : Nat} (hn : n ≤ 40) : wx_TT l rx_xM rx_ro wx_T 22 (wx_X n) → ∀ e ∈ wx_e22, wx_TE l rx_ro (wx_X n) rx_m22 e :=
  wx_41 (P := fun n => wx_TT l rx_xM rx_ro wx_T 22 (wx_X n) → ∀ e ∈ wx_e22, wx_TE l rx_ro (wx_X n) rx_m22 e)
    (fun hT => wx_goN wx_KF0 hT rx_x22 wx_k22_0)
    (fun hT => wx_goN wx_KF1 hT rx_x22 wx_k22_1)
    (fun hT => wx_goN wx_KF2 hT rx_x22 wx_k22_2)
    (fun hT => wx_goN wx_KF3 hT rx_x22 wx_k22_3)
    (fun hT => wx_goN wx_KF4 hT rx_x22 wx_k22_4)
    (fun hT => wx_goN wx_KF5 hT rx_x22 wx_k22_5)
    (fun hT => wx_goN wx_KF6 hT rx_x22 wx_k22_6)
    (fun hT => wx_goN wx_KF7 hT rx_x22 wx_k22_7)
    (fun hT => wx_goN wx_KF8 hT rx_x22 wx_k22_8)
    (fun hT => wx_goN wx_KF9 hT rx_x22 wx_k22_9)
    (fun hT => wx_goN wx_KF10 hT rx_x22 wx_k22_10)
    (fun hT => wx_goN wx_KF11 hT rx_x22 wx_k22_11)
    (fun hT => wx_goN wx_KF12 hT rx_x22 wx_k22_12)
    (fun hT => wx_goN wx_KF13 hT rx_x22 wx_k22_13)
    (fun hT => wx_goN wx_KF14 hT rx_x22 wx_k22_14)
    (fun hT => wx_goN wx_KF15 hT rx_x22 wx_k22_15)
    (fun hT => wx_goN wx_KF16 hT rx_x22 wx_k22_16)
    (fun hT => wx_goN wx_KF17 hT rx_x22 wx_k22_17)
    (fun hT => wx_goN wx_KF18 hT rx_x22 wx_k22_18)
    (fun hT => wx_goN wx_KF19 hT rx_x22 wx_k22_19)
    (fun hT => wx_goN wx_KF20 hT rx_x22 wx_k22_20)
    (fun hT => wx_goN wx_KF21 hT rx_x22 wx_k22_21)
    (fun hT => wx_goN wx_KF22 hT rx_x22 wx_k22_22)
    (fun hT => wx_goN wx_KF23 hT rx_x22 wx_k22_23)
    (fun hT => wx_goN wx_KF24 hT rx_x22 wx_k22_24)
    (fun hT => wx_goN wx_KF25 hT rx_x22 wx_k22_25)
    (fun hT => wx_goN wx_KF26 hT rx_x22 wx_k22_26)
    (fun hT => wx_goN wx_KF27 hT rx_x22 wx_k22_27)
    (fun hT => wx_goN wx_KF28 hT rx_x22 wx_k22_28)
    (fun hT => wx_goN wx_KF29 hT rx_x22 wx_k22_29)
    (fun hT => wx_goN wx_KF30 hT rx_x22 wx_k22_30)
    (fun hT => wx_goN wx_KF31 hT rx_x22 wx_k22_31)
    (fun hT => wx_goN wx_KF32 hT rx_x22 wx_k22_32)
    (fun hT => wx_goN wx_KF33 hT rx_x22 wx_k22_33)
    (fun hT => wx_goN wx_KF34 hT rx_x22 wx_k22_34)
    (fun hT => wx_goN wx_KF35 hT rx_x22 wx_k22_35)
    (fun hT => wx_goN wx_KF36 hT rx_x22 wx_k22_36)
    (fun hT => wx_goN wx_KF37 hT rx_x22 wx_k22_37)
    (fun hT => wx_goN wx_KF38 hT rx_x22 wx_k22_38)
    (fun hT => wx_goN wx_KF39 hT rx_x22 wx_k22_39)
    (fun hT => wx_goN wx_KF40 hT rx_x22 wx_k22_40) hn
theorem wx_con91 {l : Launch} {n : Nat} (hn : n ≤ 40) : wx_TT l rx_xM rx_ro wx_T 91 (wx_X n) → ∀ e ∈ wx_e91, wx_TE l rx_ro (wx_X n) rx_m91 e :=
  wx_41 (P := fun n => wx_TT l rx_xM rx_ro wx_T 91 (wx_X n) → ∀ e ∈ wx_e91, wx_TE l rx_ro (wx_X n) rx_m91 e)
    (fun hT => wx_goN wx_KF0 hT rx_x91 wx_k91_0)
    (fun hT => wx_goN wx_KF1 hT rx_x91 wx_k91_1)
    (fun hT => wx_goN wx_KF2 hT rx_x91 wx_k91_2)
    (fun hT => wx_goN wx_KF3 hT rx_x91 wx_k91_3)
    (fun hT => wx_goN wx_KF4 hT rx_x91 wx_k91_4)
    (fun hT => wx_goN wx_KF5 hT rx_x91 wx_k91_5)
    (fun hT => wx_goN wx_KF6 hT rx_x91 wx_k91_6)
    (fun hT => wx_goN wx_KF7 hT rx_x91 wx_k91_7)
    (fun hT => wx_goN wx_KF8 hT rx_x91 wx_k91_8)
    (fun hT => wx_goN wx_KF9 hT rx_x91 wx_k91_9)
    (fun hT => wx_goN wx_KF10 hT rx_x91 wx_k91_10)
    (fun hT => wx_goN wx_KF11 hT rx_x91 wx_k91_11)
    (fun hT => wx_goN wx_KF12 hT rx_x91 wx_k91_12)
    (fun hT => wx_goN wx_KF13 hT rx_x91 wx_k91_13)
    (fun hT => wx_goN wx_KF14 hT rx_x91 wx_k91_14)
    (fun hT => wx_goN wx_KF15 hT rx_x91 wx_k91_15)
    (fun hT => wx_goN wx_KF16 hT rx_x91 wx_k91_16)
    (fun hT => wx_goN wx_KF17 hT rx_x91 wx_k91_17)
    (fun hT => wx_goN wx_KF18 hT rx_x91 wx_k91_18)
    (fun hT => wx_goN wx_KF19 hT rx_x91 wx_k91_19)
    (fun hT => wx_goN wx_KF20 hT rx_x91 wx_k91_20)
    (fun hT => wx_goN wx_KF21 hT rx_x91 wx_k91_21)
    (fun hT => wx_goN wx_KF22 hT rx_x91 wx_k91_22)
    (fun hT => wx_goN wx_KF23 hT rx_x91 wx_k91_23)
    (fun hT => wx_goN wx_KF24 hT rx_x91 wx_k91_24)
    (fun hT => wx_goN wx_KF25 hT rx_x91 wx_k91_25)
    (fun hT => wx_goN wx_KF26 hT rx_x91 wx_k91_26)
    (fun hT => wx_goN wx_KF27 hT rx_x91 wx_k91_27)
    (fun hT => wx_goN wx_KF28 hT rx_x91 wx_k91_28)
    (fun hT => wx_goN wx_KF29 hT rx_x91 wx_k91_29)
    (fun hT => wx_goN wx_KF30 hT rx_x91 wx_k91_30)
    (fun hT => wx_goN wx_KF31 hT rx_x91 wx_k91_31)
    (fun hT => wx_goN wx_KF32 hT rx_x91 wx_k91_32)
    (fun hT => wx_goN wx_KF33 hT rx_x91 wx_k91_33)
    (fun hT => wx_goN wx_KF34 hT rx_x91 wx_k91_34)
    (fun hT => wx_goN wx_KF35 hT rx_x91 wx_k91_35)
    (fun hT => wx_goN wx_KF36 hT rx_x91 wx_k91_36)
    (fun hT => wx_goN wx_KF37 hT rx_x91 wx_k91_37)
    (fun hT => wx_goN wx_KF38 hT rx_x91 wx_k91_38)
    (fun hT => wx_goN wx_KF39 hT rx_x91 wx_k91_39)
    (fun hT => wx_goN wx_KF40 hT rx_x91 wx_k91_40) hn
theorem wx_con90 {l : Launch} {n : Nat} (hn : n ≤ 40) : wx_TT l rx_xM rx_ro wx_T 90 (wx_X n) → ∀ e ∈ wx_e90, wx_TE l rx_ro (wx_X n) rx_m90 e :=
  wx_41 (P := fun n => wx_TT l rx_xM rx_ro wx_T 90 (wx_X n) → ∀ e ∈ wx_e90, wx_TE l rx_ro (wx_X n) rx_m90 e)
    (fun hT => wx_goN wx_KF0 hT rx_x90 wx_k90_0)
    (fun hT => wx_goN wx_KF1 hT rx_x90 wx_k90_1)
    (fun hT => wx_goN wx_KF2 hT rx_x90 wx_k90_2)
    (fun hT => wx_goN wx_KF3 hT rx_x90 wx_k90_3)
    (fun hT => wx_goN wx_KF4 hT rx_x90 wx_k90_4)
    (fun hT => wx_goN wx_KF5 hT rx_x90 wx_k90_5)
    (fun hT => wx_goN wx_KF6 hT rx_x90 wx_k90_6)
    (fun hT => wx_goN wx_KF7 hT rx_x90 wx_k90_7)
    (fun hT => wx_goN wx_KF8 hT rx_x90 wx_k90_8)
    (fun hT => wx_goN wx_KF9 hT rx_x90 wx_k90_9)
    (fun hT => wx_goN wx_KF10 hT rx_x90 wx_k90_10)
    (fun hT => wx_goN wx_KF11 hT rx_x90 wx_k90_11)
    (fun hT => wx_goN wx_KF12 hT rx_x90 wx_k90_12)
    (fun hT => wx_goN wx_KF13 hT rx_x90 wx_k90_13)
    (fun hT => wx_goN wx_KF14 hT rx_x90 wx_k90_14)
    (fun hT => wx_goN wx_KF15 hT rx_x90 wx_k90_15)
    (fun hT => wx_goN wx_KF16 hT rx_x90 wx_k90_16)
    (fun hT => wx_goN wx_KF17 hT rx_x90 wx_k90_17)
    (fun hT => wx_goN wx_KF18 hT rx_x90 wx_k90_18)
    (fun hT => wx_goN wx_KF19 hT rx_x90 wx_k90_19)
    (fun hT => wx_goN wx_KF20 hT rx_x90 wx_k90_20)
    (fun hT => wx_goN wx_KF21 hT rx_x90 wx_k90_21)
    (fun hT => wx_goN wx_KF22 hT rx_x90 wx_k90_22)
    (fun hT => wx_goN wx_KF23 hT rx_x90 wx_k90_23)
    (fun hT => wx_goN wx_KF24 hT rx_x90 wx_k90_24)
    (fun hT => wx_goN wx_KF25 hT rx_x90 wx_k90_25)
    (fun hT => wx_goN wx_KF26 hT rx_x90 wx_k90_26)
    (fun hT => wx_goN wx_KF27 hT rx_x90 wx_k90_27)
    (fun hT => wx_goN wx_KF28 hT rx_x90 wx_k90_28)
    (fun hT => wx_goN wx_KF29 hT rx_x90 wx_k90_29)
    (fun hT => wx_goN wx_KF30 hT rx_x90 wx_k90_30)
    (fun hT => wx_goN wx_KF31 hT rx_x90 wx_k90_31)
    (fun hT => wx_goN wx_KF32 hT rx_x90 wx_k90_32)
    (fun hT => wx_goN wx_KF33 hT rx_x90 wx_k90_33)
    (fun hT => wx_goN wx_KF34 hT rx_x90 wx_k90_34)
    (fun hT => wx_goN wx_KF35 hT rx_x90 wx_k90_35)
    (fun hT => wx_goN wx_KF36 hT rx_x90 wx_k90_36)
    (fun hT => wx_goN wx_KF37 hT rx_x90 wx_k90_37)
    (fun hT => wx_goN wx_KF38 hT rx_x90 wx_k90_38)
    (fun hT => wx_goN wx_KF39 hT rx_x90 wx_k90_39)
    (fun hT => wx_goN wx_KF40 hT rx_x90 wx_k90_40) hn
theorem wx_con66 {l : Launch} {n : Nat} (hn : n ≤ 40) : wx_TT l rx_xM rx_ro wx_T 66 (wx_X n) → ∀ e ∈ wx_e66, wx_TE l rx_ro (wx_X n) rx_m66 e :=
  wx_41 (P := fun n => wx_TT l rx_xM rx_ro wx_T 66 (wx_X n) → ∀ e ∈ wx_e66, wx_TE l rx_ro (wx_X n) rx_m66 e)
    (fun hT => wx_goN wx_KF0 hT rx_x66 wx_k66_0)
    (fun hT => wx_goN wx_KF1 hT rx_x66 wx_k66_1)
    (fun hT => wx_goN wx_KF2 hT rx_x66 wx_k66_2)
    (fun hT => wx_goN wx_KF3 hT rx_x66 wx_k66_3)
    (fun hT => wx_goN wx_KF4 hT rx_x66 wx_k66_4)
    (fun hT => wx_goN wx_KF5 hT rx_x66 wx_k66_5)
    (fun hT => wx_goN wx_KF6 hT rx_x66 wx_k66_6)
    (fun hT => wx_goN wx_KF7 hT rx_x66 wx_k66_7)
    (fun hT => wx_goN wx_KF8 hT rx_x66 wx_k66_8)
    (fun hT => wx_goN wx_KF9 hT rx_x66 wx_k66_9)
    (fun hT => wx_goN wx_KF10 hT rx_x66 wx_k66_10)
    (fun hT => wx_goN wx_KF11 hT rx_x66 wx_k66_11)
    (fun hT => wx_goN wx_KF12 hT rx_x66 wx_k66_12)
    (fun hT => wx_goN wx_KF13 hT rx_x66 wx_k66_13)
    (fun hT => wx_goN wx_KF14 hT rx_x66 wx_k66_14)
    (fun hT => wx_goN wx_KF15 hT rx_x66 wx_k66_15)
    (fun hT => wx_goN wx_KF16 hT rx_x66 wx_k66_16)
    (fun hT => wx_goN wx_KF17 hT rx_x66 wx_k66_17)
    (fun hT => wx_goN wx_KF18 hT rx_x66 wx_k66_18)
    (fun hT => wx_goN wx_KF19 hT rx_x66 wx_k66_19)
    (fun hT => wx_goN wx_KF20 hT rx_x66 wx_k66_20)
    (fun hT => wx_goN wx_KF21 hT rx_x66 wx_k66_21)
    (fun hT => wx_goN wx_KF22 hT rx_x66 wx_k66_22)
    (fun hT => wx_goN wx_KF23 hT rx_x66 wx_k66_23)
    (fun hT => wx_goN wx_KF24 hT rx_x66 wx_k66_24)
    (fun hT => wx_goN wx_KF25 hT rx_x66 wx_k66_25)
    (fun hT => wx_goN wx_KF26 hT rx_x66 wx_k66_26)
    (fun hT => wx_goN wx_KF27 hT rx_x66 wx_k66_27)
    (fun hT => wx_goN wx_KF28 hT rx_x66 wx_k66_28)
    (fun hT => wx_goN wx_KF29 hT rx_x66 wx_k66_29)
    (fun hT => wx_goN wx_KF30 hT rx_x66 wx_k66_30)
    (fun hT => wx_goN wx_KF31 hT rx_x66 wx_k66_31)
    (fun hT => wx_goN wx_KF32 hT rx_x66 wx_k66_32)
    (fun hT => wx_goN wx_KF33 hT rx_x66 wx_k66_33)
    (fun hT => wx_goN wx_KF34 hT rx_x66 wx_k66_34)
    (fun hT => wx_goN wx_KF35 hT rx_x66 wx_k66_35)
    (fun hT => wx_goN wx_KF36 hT rx_x66 wx_k66_36)
    (fun hT => wx_goN wx_KF37 hT rx_x66 wx_k66_37)
    (fun hT => wx_goN wx_KF38 hT rx_x66 wx_k66_38)
    (fun hT => wx_goN wx_KF39 hT rx_x66 wx_k66_39)
    (fun hT => wx_goN wx_KF40 hT rx_x66 wx_k66_40) hn
theorem wx_con74 {l : Launch} {n : Nat} (hn : n ≤ 40) : wx_TT l rx_xM rx_ro wx_T 74 (wx_X n) → ∀ e ∈ wx_e74, wx_TE l rx_ro (wx_X n) rx_m74 e :=
  wx_41 (P := fun n => wx_TT l rx_xM rx_ro wx_T 74 (wx_X n) → ∀ e ∈ wx_e74, wx_TE l rx_ro (wx_X n) rx_m74 e)
    (fun hT => wx_goN wx_KF0 hT rx_x74 wx_k74_0)
    (fun hT => wx_goN wx_KF1 hT rx_x74 wx_k74_1)
    (fun hT => wx_goN wx_KF2 hT rx_x74 wx_k74_2)
    (fun hT => wx_goN wx_KF3 hT rx_x74 wx_k74_3)
    (fun hT => wx_goN wx_KF4 hT rx_x74 wx_k74_4)
    (fun hT => wx_goN wx_KF5 hT rx_x74 wx_k74_5)
    (fun hT => wx_goN wx_KF6 hT rx_x74 wx_k74_6)
    (fun hT => wx_goN wx_KF7 hT rx_x74 wx_k74_7)
    (fun hT => wx_goN wx_KF8 hT rx_x74 wx_k74_8)
    (fun hT => wx_goN wx_KF9 hT rx_x74 wx_k74_9)
    (fun hT => wx_goN wx_KF10 hT rx_x74 wx_k74_10)
    (fun hT => wx_goN wx_KF11 hT rx_x74 wx_k74_11)
    (fun hT => wx_goN wx_KF12 hT rx_x74 wx_k74_12)
    (fun hT => wx_goN wx_KF13 hT rx_x74 wx_k74_13)
    (fun hT => wx_goN wx_KF14 hT rx_x74 wx_k74_14)
    (fun hT => wx_goN wx_KF15 hT rx_x74 wx_k74_15)
    (fun hT => wx_goN wx_KF16 hT rx_x74 wx_k74_16)
    (fun hT => wx_goN wx_KF17 hT rx_x74 wx_k74_17)
    (fun hT => wx_goN wx_KF18 hT rx_x74 wx_k74_18)
    (fun hT => wx_goN wx_KF19 hT rx_x74 wx_k74_19)
    (fun hT => wx_goN wx_KF20 hT rx_x74 wx_k74_20)
    (fun hT => wx_goN wx_KF21 hT rx_x74 wx_k74_21)
    (fun hT => wx_goN wx_KF22 hT rx_x74 wx_k74_22)
    (fun hT => wx_goN wx_KF23 hT rx_x74 wx_k74_23)
    (fun hT => wx_goN wx_KF24 hT rx_x74 wx_k74_24)
    (fun hT => wx_goN wx_KF25 hT rx_x74 wx_k74_25)
    (fun hT => wx_goN wx_KF26 hT rx_x74 wx_k74_26)
    (fun hT => wx_goN wx_KF27 hT rx_x74 wx_k74_27)
    (fun hT => wx_goN wx_KF28 hT rx_x74 wx_k74_28)
    (fun hT => wx_goN wx_KF29 hT rx_x74 wx_k74_29)
    (fun hT => wx_goN wx_KF30 hT rx_x74 wx_k74_30)
    (fun hT => wx_goN wx_KF31 hT rx_x74 wx_k74_31)
    (fun hT => wx_goN wx_KF32 hT rx_x74 wx_k74_32)
    (fun hT => wx_goN wx_KF33 hT rx_x74 wx_k74_33)
    (fun hT => wx_goN wx_KF34 hT rx_x74 wx_k74_34)
    (fun hT => wx_goN wx_KF35 hT rx_x74 wx_k74_35)
    (fun hT => wx_goN wx_KF36 hT rx_x74 wx_k74_36)
    (fun hT => wx_goN wx_KF37 hT rx_x74 wx_k74_37)
    (fun hT => wx_goN wx_KF38 hT rx_x74 wx_k74_38)
    (fun hT => wx_goN wx_KF39 hT rx_x74 wx_k74_39)
    (fun hT => wx_goN wx_KF40 hT rx_x74 wx_k74_40) hn
theorem wx_con62 {l : Launch} {n : Nat} (hn : n ≤ 40) : wx_TT l rx_xM rx_ro wx_T 62 (wx_X n) → ∀ e ∈ wx_e62, wx_TE l rx_ro (wx_X n) rx_m62 e :=
  wx_41 (P := fun n => wx_TT l rx_xM rx_ro wx_T 62 (wx_X n) → ∀ e ∈ wx_e62, wx_TE l rx_ro (wx_X n) rx_m62 e)
    (fun hT => wx_goN wx_KF0 hT rx_x62 wx_k62_0)
    (fun hT => wx_goN wx_KF1 hT rx_x62 wx_k62_1)
    (fun hT => wx_goN wx_KF2 hT rx_x62 wx_k62_2)
    (fun hT => wx_goN wx_KF3 hT rx_x62 wx_k62_3)
    (fun hT => wx_goN wx_KF4 hT rx_x62 wx_k62_4)
    (fun hT => wx_goN wx_KF5 hT rx_x62 wx_k62_5)
    (fun hT => wx_goN wx_KF6 hT rx_x62 wx_k62_6)
    (fun hT => wx_goN wx_KF7 hT rx_x62 wx_k62_7)
    (fun hT => wx_goN wx_KF8 hT rx_x62 wx_k62_8)
    (fun hT => wx_goN wx_KF9 hT rx_x62 wx_k62_9)
    (fun hT => wx_goN wx_KF10 hT rx_x62 wx_k62_10)
    (fun hT => wx_goN wx_KF11 hT rx_x62 wx_k62_11)
    (fun hT => wx_goN wx_KF12 hT rx_x62 wx_k62_12)
    (fun hT => wx_goN wx_KF13 hT rx_x62 wx_k62_13)
    (fun hT => wx_goN wx_KF14 hT rx_x62 wx_k62_14)
    (fun hT => wx_goN wx_KF15 hT rx_x62 wx_k62_15)
    (fun hT => wx_goN wx_KF16 hT rx_x62 wx_k62_16)
    (fun hT => wx_goN wx_KF17 hT rx_x62 wx_k62_17)
    (fun hT => wx_goN wx_KF18 hT rx_x62 wx_k62_18)
    (fun hT => wx_goN wx_KF19 hT rx_x62 wx_k62_19)
    (fun hT => wx_goN wx_KF20 hT rx_x62 wx_k62_20)
    (fun hT => wx_goN wx_KF21 hT rx_x62 wx_k62_21)
    (fun hT => wx_goN wx_KF22 hT rx_x62 wx_k62_22)
    (fun hT => wx_goN wx_KF23 hT rx_x62 wx_k62_23)
    (fun hT => wx_goN wx_KF24 hT rx_x62 wx_k62_24)
    (fun hT => wx_goN wx_KF25 hT rx_x62 wx_k62_25)
    (fun hT => wx_goN wx_KF26 hT rx_x62 wx_k62_26)
    (fun hT => wx_goN wx_KF27 hT rx_x62 wx_k62_27)
    (fun hT => wx_goN wx_KF28 hT rx_x62 wx_k62_28)
    (fun hT => wx_goN wx_KF29 hT rx_x62 wx_k62_29)
    (fun hT => wx_goN wx_KF30 hT rx_x62 wx_k62_30)
    (fun hT => wx_goN wx_KF31 hT rx_x62 wx_k62_31)
    (fun hT => wx_goN wx_KF32 hT rx_x62 wx_k62_32)
    (fun hT => wx_goN wx_KF33 hT rx_x62 wx_k62_33)
    (fun hT => wx_goN wx_KF34 hT rx_x62 wx_k62_34)
    (fun hT => wx_goN wx_KF35 hT rx_x62 wx_k62_35)
    (fun hT => wx_goN wx_KF36 hT rx_x62 wx_k62_36)
    (fun hT => wx_goN wx_KF37 hT rx_x62 wx_k62_37)
    (fun hT => wx_goN wx_KF38 hT rx_x62 wx_k62_38)
    (fun hT => wx_goN wx_KF39 hT rx_x62 wx_k62_39)
    (fun hT => wx_goN wx_KF40 hT rx_x62 wx_k62_40) hn
theorem wx_con64 {l : Launch} {n : Nat} (hn : n ≤ 40) : wx_TT l rx_xM rx_ro wx_T 64 (wx_X n) → ∀ e ∈ wx_e64, wx_TE l rx_ro (wx_X n) rx_m64 e :=
  wx_41 (P := fun n => wx_TT l rx_xM rx_ro wx_T 64 (wx_X n) → ∀ e ∈ wx_e64, wx_TE l rx_ro (wx_X n) rx_m64 e)
    (fun hT => wx_goN wx_KF0 hT rx_x64 wx_k64_0)
    (fun hT => wx_goN wx_KF1 hT rx_x64 wx_k64_1)
    (fun hT => wx_goN wx_KF2 hT rx_x64 wx_k64_2)
    (fun hT => wx_goN wx_KF3 hT rx_x64 wx_k64_3)
    (fun hT => wx_goN wx_KF4 hT rx_x64 wx_k64_4)
    (fun hT => wx_goN wx_KF5 hT rx_x64 wx_k64_5)
    (fun hT => wx_goN wx_KF6 hT rx_x64 wx_k64_6)
    (fun hT => wx_goN wx_KF7 hT rx_x64 wx_k64_7)
    (fun hT => wx_goN wx_KF8 hT rx_x64 wx_k64_8)
    (fun hT => wx_goN wx_KF9 hT rx_x64 wx_k64_9)
    (fun hT => wx_goN wx_KF10 hT rx_x64 wx_k64_10)
    (fun hT => wx_goN wx_KF11 hT rx_x64 wx_k64_11)
    (fun hT => wx_goN wx_KF12 hT rx_x64 wx_k64_12)
    (fun hT => wx_goN wx_KF13 hT rx_x64 wx_k64_13)
    (fun hT => wx_goN wx_KF14 hT rx_x64 wx_k64_14)
    (fun hT => wx_goN wx_KF15 hT rx_x64 wx_k64_15)
    (fun hT => wx_goN wx_KF16 hT rx_x64 wx_k64_16)
    (fun hT => wx_goN wx_KF17 hT rx_x64 wx_k64_17)
    (fun hT => wx_goN wx_KF18 hT rx_x64 wx_k64_18)
    (fun hT => wx_goN wx_KF19 hT rx_x64 wx_k64_19)
    (fun hT => wx_goN wx_KF20 hT rx_x64 wx_k64_20)
    (fun hT => wx_goN wx_KF21 hT rx_x64 wx_k64_21)
    (fun hT => wx_goN wx_KF22 hT rx_x64 wx_k64_22)
    (fun hT => wx_goN wx_KF23 hT rx_x64 wx_k64_23)
    (fun hT => wx_goN wx_KF24 hT rx_x64 wx_k64_24)
    (fun hT => wx_goN wx_KF25 hT rx_x64 wx_k64_25)
    (fun hT => wx_goN wx_KF26 hT rx_x64 wx_k64_26)
    (fun hT => wx_goN wx_KF27 hT rx_x64 wx_k64_27)
    (fun hT => wx_goN wx_KF28 hT rx_x64 wx_k64_28)
    (fun hT => wx_goN wx_KF29 hT rx_x64 wx_k64_29)
    (fun hT => wx_goN wx_KF30 hT rx_x64 wx_k64_30)
    (fun hT => wx_goN wx_KF31 hT rx_x64 wx_k64_31)
    (fun hT => wx_goN wx_KF32 hT rx_x64 wx_k64_32)
    (fun hT => wx_goN wx_KF33 hT rx_x64 wx_k64_33)
    (fun hT => wx_goN wx_KF34 hT rx_x64 wx_k64_34)
    (fun hT => wx_goN wx_KF35 hT rx_x64 wx_k64_35)
    (fun hT => wx_goN wx_KF36 hT rx_x64 wx_k64_36)
    (fun hT => wx_goN wx_KF37 hT rx_x64 wx_k64_37)
    (fun hT => wx_goN wx_KF38 hT rx_x64 wx_k64_38)
    (fun hT => wx_goN wx_KF39 hT rx_x64 wx_k64_39)
    (fun hT => wx_goN wx_KF40 hT rx_x64 wx_k64_40) hn
theorem wx_con122 {l : Launch} {n : Nat} (hn : n ≤ 40) : wx_TT l rx_xM rx_ro wx_T 122 (wx_X n) → ∀ e ∈ wx_e122, wx_TE l rx_ro (wx_X n) rx_m122 e :=
  wx_41 (P := fun n => wx_TT l rx_xM rx_ro wx_T 122 (wx_X n) → ∀ e ∈ wx_e122, wx_TE l rx_ro (wx_X n) rx_m122 e)
    (fun hT => wx_goN wx_KF0 hT rx_x122 wx_k122_0)
    (fun hT => wx_goN wx_KF1 hT rx_x122 wx_k122_1)
    (fun hT => wx_goN wx_KF2 hT rx_x122 wx_k122_2)
    (fun hT => wx_goN wx_KF3 hT rx_x122 wx_k122_3)
    (fun hT => wx_goN wx_KF4 hT rx_x122 wx_k122_4)
    (fun hT => wx_goN wx_KF5 hT rx_x122 wx_k122_5)
    (fun hT => wx_goN wx_KF6 hT rx_x122 wx_k122_6)
    (fun hT => wx_goN wx_KF7 hT rx_x122 wx_k122_7)
    (fun hT => wx_goN wx_KF8 hT rx_x122 wx_k122_8)
    (fun hT => wx_goN wx_KF9 hT rx_x122 wx_k122_9)
    (fun hT => wx_goN wx_KF10 hT rx_x122 wx_k122_10)
    (fun hT => wx_goN wx_KF11 hT rx_x122 wx_k122_11)
    (fun hT => wx_goN wx_KF12 hT rx_x122 wx_k122_12)
    (fun hT => wx_goN wx_KF13 hT rx_x122 wx_k122_13)
    (fun hT => wx_goN wx_KF14 hT rx_x122 wx_k122_14)
    (fun hT => wx_goN wx_KF15 hT rx_x122 wx_k122_15)
    (fun hT => wx_goN wx_KF16 hT rx_x122 wx_k122_16)
    (fun hT => wx_goN wx_KF17 hT rx_x122 wx_k122_17)
    (fun hT => wx_goN wx_KF18 hT rx_x122 wx_k122_18)
    (fun hT => wx_goN wx_KF19 hT rx_x122 wx_k122_19)
    (fun hT => wx_goN wx_KF20 hT rx_x122 wx_k122_20)
    (fun hT => wx_goN wx_KF21 hT rx_x122 wx_k122_21)
    (fun hT => wx_goN wx_KF22 hT rx_x122 wx_k122_22)
    (fun hT => wx_goN wx_KF23 hT rx_x122 wx_k122_23)
    (fun hT => wx_goN wx_KF24 hT rx_x122 wx_k122_24)
    (fun hT => wx_goN wx_KF25 hT rx_x122 wx_k122_25)
    (fun hT => wx_goN wx_KF26 hT rx_x122 wx_k122_26)
    (fun hT => wx_goN wx_KF27 hT rx_x122 wx_k122_27)
    (fun hT => wx_goN wx_KF28 hT rx_x122 wx_k122_28)
    (fun hT => wx_goN wx_KF29 hT rx_x122 wx_k122_29)
    (fun hT => wx_goN wx_KF30 hT rx_x122 wx_k122_30)
    (fun hT => wx_goN wx_KF31 hT rx_x122 wx_k122_31)
    (fun hT => wx_goN wx_KF32 hT rx_x122 wx_k122_32)
    (fun hT => wx_goN wx_KF33 hT rx_x122 wx_k122_33)
    (fun hT => wx_goN wx_KF34 hT rx_x122 wx_k122_34)
    (fun hT => wx_goN wx_KF35 hT rx_x122 wx_k122_35)
    (fun hT => wx_goN wx_KF36 hT rx_x122 wx_k122_36)
    (fun hT => wx_goN wx_KF37 hT rx_x122 wx_k122_37)
    (fun hT => wx_goN wx_KF38 hT rx_x122 wx_k122_38)
    (fun hT => wx_goN wx_KF39 hT rx_x122 wx_k122_39)
    (fun hT => wx_goN wx_KF40 hT rx_x122 wx_k122_40) hn
set_option maxRecDepth 100000 in
theorem wx_all {l : Launch} {n : Nat} (hn : n ≤ 40) (hG : wx_TT l rx_xM rx_ro wx_T 152 (wx_X n) → ∀ e ∈ wx_e152, wx_TE l rx_ro (wx_X n) rx_m152 e) (hL : wx_TT l rx_xM rx_ro wx_T 154 (wx_X n) → ∀ e ∈ wx_e154, wx_TE l rx_ro (wx_X n) rx_m154 e) : wx_TT l rx_xM rx_ro wx_T 190 (wx_X n) := by
  have h0 : wx_TT l rx_xM rx_ro wx_T 0 (wx_X n) := wx_TT0
  have h1 := wx_TTs h0 (es := []) rfl rx_x0 wx_none
  have h2 := wx_TTs h1 (es := []) rfl rx_x1 wx_none
  have h3 := wx_TTs h2 (es := []) rfl rx_x2 wx_none
  have h4 := wx_TTs h3 (es := []) rfl rx_x3 wx_none
  have h5 := wx_TTs h4 (es := []) rfl rx_x4 wx_none
  have h6 := wx_TTs h5 (es := []) rfl rx_x5 wx_none
  have h7 := wx_TTs h6 (es := []) rfl rx_x6 wx_none
  have h8 := wx_TTs h7 (es := []) rfl rx_x7 wx_none
  have h9 := wx_TTs h8 (es := []) rfl rx_x8 wx_none
  have h10 := wx_TTs h9 (es := []) rfl rx_x9 wx_none
  have h11 := wx_TTs h10 (es := []) rfl rx_x10 wx_none
  have h12 := wx_TTs h11 (es := wx_e11) rfl rx_x11 (wx_go h11 rx_x11 wx_k11)
  have h13 := wx_TTs h12 (es := wx_e12) rfl rx_x12 (wx_go h12 rx_x12 wx_k12)
  have h14 := wx_TTs h13 (es := wx_e13) rfl rx_x13 (wx_go h13 rx_x13 wx_k13)
  have h15 := wx_TTs h14 (es := []) rfl rx_x14 wx_none
  have h16 := wx_TTs h15 (es := []) rfl rx_x15 wx_none
  have h17 := wx_TTs h16 (es := []) rfl rx_x16 wx_none
  have h18 := wx_TTs h17 (es := []) rfl rx_x17 wx_none
  have h19 := wx_TTs h18 (es := wx_e18) rfl rx_x18 (wx_go h18 rx_x18 wx_k18)
  have h20 := wx_TTs h19 (es := wx_e19) rfl rx_x19 (wx_go h19 rx_x19 wx_k19)
  have h21 := wx_TTs h20 (es := []) rfl rx_x20 wx_none
  have h22 := wx_TTs h21 (es := wx_e21) rfl rx_x21 (wx_go h21 rx_x21 wx_k21)
  have h23 := wx_TTs h22 (es := wx_e22) rfl rx_x22 (wx_con22 hn h22)
  have h24 := wx_TTs h23 (es := []) rfl rx_x23 wx_none
  have h25 := wx_TTs h24 (es := wx_e24) rfl rx_x24 (wx_go h24 rx_x24 wx_k24)
  have h26 := wx_TTs h25 (es := []) rfl rx_x25 wx_none
  have h27 := wx_TTs h26 (es := []) rfl rx_x26 wx_none
  have h28 := wx_TTs h27 (es := []) rfl rx_x27 wx_none
  have h29 := wx_TTs h28 (es := []) rfl rx_x28 wx_none
  have h30 := wx_TTs h29 (es := wx_e29) rfl rx_x29 (wx_go h29 rx_x29 wx_k29)
  have h31 := wx_TTs h30 (es := wx_e30) rfl rx_x30 (wx_go h30 rx_x30 wx_k30)
  have h32 := wx_TTs h31 (es := wx_e31) rfl rx_x31 (wx_go h31 rx_x31 wx_k31)
  have h33 := wx_TTs h32 (es := wx_e32) rfl rx_x32 (wx_go h32 rx_x32 wx_k32)
  have h34 := wx_TTs h33 (es := wx_e33) rfl rx_x33 (wx_go h33 rx_x33 wx_k33)
  have h35 := wx_TTs h34 (es := wx_e34) rfl rx_x34 (wx_go h34 rx_x34 wx_k34)
  have h36 := wx_TTs h35 (es := wx_e35) rfl rx_x35 (wx_go h35 rx_x35 wx_k35)
  have h37 := wx_TTs h36 (es := wx_e36) rfl rx_x36 (wx_go h36 rx_x36 wx_k36)
  have h38 := wx_TTs h37 (es := wx_e37) rfl rx_x37 (wx_go h37 rx_x37 wx_k37)
  have h39 := wx_TTs h38 (es := wx_e38) rfl rx_x38 (wx_go h38 rx_x38 wx_k38)
  have h40 := wx_TTs h39 (es := wx_e39) rfl rx_x39 (wx_go h39 rx_x39 wx_k39)
  have h41 := wx_TTs h40 (es := wx_e40) rfl rx_x40 (wx_go h40 rx_x40 wx_k40)
  have h42 := wx_TTs h41 (es := wx_e41) rfl rx_x41 (wx_go h41 rx_x41 wx_k41)
  have h43 := wx_TTs h42 (es := wx_e42) rfl rx_x42 (wx_go h42 rx_x42 wx_k42)
  have h44 := wx_TTs h43 (es := wx_e43) rfl rx_x43 (wx_go h43 rx_x43 wx_k43)
  have h45 := wx_TTs h44 (es := wx_e44) rfl rx_x44 (wx_go h44 rx_x44 wx_k44)
  have h46 := wx_TTs h45 (es := wx_e45) rfl rx_x45 (wx_go h45 rx_x45 wx_k45)
  have h47 := wx_TTs h46 (es := wx_e46) rfl rx_x46 (wx_go h46 rx_x46 wx_k46)
  have h48 := wx_TTs h47 (es := wx_e47) rfl rx_x47 (wx_go h47 rx_x47 wx_k47)
  have h49 := wx_TTs h48 (es := wx_e48) rfl rx_x48 (wx_go h48 rx_x48 wx_k48)
  have h50 := wx_TTs h49 (es := wx_e49) rfl rx_x49 (wx_go h49 rx_x49 wx_k49)
  have h51 := wx_TTs h50 (es := wx_e50) rfl rx_x50 (wx_go h50 rx_x50 wx_k50)
  have h52 := wx_TTs h51 (es := wx_e51) rfl rx_x51 (wx_go h51 rx_x51 wx_k51)
  have h53 := wx_TTs h52 (es := wx_e52) rfl rx_x52 (wx_go h52 rx_x52 wx_k52)
  have h54 := wx_TTs h53 (es := wx_e53) rfl rx_x53 (wx_go h53 rx_x53 wx_k53)
  have h55 := wx_TTs h54 (es := wx_e54) rfl rx_x54 (wx_go h54 rx_x54 wx_k54)
  have h56 := wx_TTs h55 (es := wx_e55) rfl rx_x55 (wx_go h55 rx_x55 wx_k55)
  have h57 := wx_TTs h56 (es := wx_e56) rfl rx_x56 (wx_go h56 rx_x56 wx_k56)
  have h58 := wx_TTs h57 (es := wx_e57) rfl rx_x57 (wx_go h57 rx_x57 wx_k57)
  have h59 := wx_TTs h58 (es := wx_e58) rfl rx_x58 (wx_go h58 rx_x58 wx_k58)
  have h60 := wx_TTs h59 (es := wx_e59) rfl rx_x59 (wx_go h59 rx_x59 wx_k59)
  have h61 := wx_TTs h60 (es := wx_e60) rfl rx_x60 (wx_go h60 rx_x60 wx_k60)
  have h62 := wx_TTs h61 (es := wx_e61) rfl rx_x61 (wx_go h61 rx_x61 wx_k61)
  have h63 := wx_TTs h62 (es := wx_e62) rfl rx_x62 (wx_con62 hn h62)
  have h64 := wx_TTs h63 (es := wx_e63) rfl rx_x63 (wx_go h63 rx_x63 wx_k63)
  have h65 := wx_TTs h64 (es := wx_e64) rfl rx_x64 (wx_con64 hn h64)
  have h66 := wx_TTs h65 (es := wx_e65) rfl rx_x65 (wx_go h65 rx_x65 wx_k65)
  have h67 := wx_TTs h66 (es := wx_e66) rfl rx_x66 (wx_con66 hn h66)
  have h68 := wx_TTs h67 (es := wx_e67) rfl rx_x67 (wx_go h67 rx_x67 wx_k67)
  have h69 := wx_TTs h68 (es := wx_e68) rfl rx_x68 (wx_go h68 rx_x68 wx_k68)
  have h70 := wx_TTs h69 (es := wx_e69) rfl rx_x69 (wx_go h69 rx_x69 wx_k69)
  have h71 := wx_TTs h70 (es := wx_e70) rfl rx_x70 (wx_go h70 rx_x70 wx_k70)
  have h72 := wx_TTs h71 (es := wx_e71) rfl rx_x71 (wx_go h71 rx_x71 wx_k71)
  have h73 := wx_TTs h72 (es := wx_e72) rfl rx_x72 (wx_go h72 rx_x72 wx_k72)
  have h74 := wx_TTs h73 (es := wx_e73) rfl rx_x73 (wx_go h73 rx_x73 wx_k73)
  have h75 := wx_TTs h74 (es := wx_e74) rfl rx_x74 (wx_con74 hn h74)
  have h76 := wx_TTs h75 (es := wx_e75) rfl rx_x75 (wx_go h75 rx_x75 wx_k75)
  have h77 := wx_TTs h76 (es := wx_e76) rfl rx_x76 (wx_go h76 rx_x76 wx_k76)
  have h78 := wx_TTs h77 (es := wx_e77) rfl rx_x77 (wx_go h77 rx_x77 wx_k77)
  have h79 := wx_TTs h78 (es := wx_e78) rfl rx_x78 (wx_go h78 rx_x78 wx_k78)
  have h80 := wx_TTs h79 (es := wx_e79) rfl rx_x79 (wx_go h79 rx_x79 wx_k79)
  have h81 := wx_TTs h80 (es := wx_e80) rfl rx_x80 (wx_go h80 rx_x80 wx_k80)
  have h82 := wx_TTs h81 (es := wx_e81) rfl rx_x81 (wx_go h81 rx_x81 wx_k81)
  have h83 := wx_TTs h82 (es := wx_e82) rfl rx_x82 (wx_go h82 rx_x82 wx_k82)
  have h84 := wx_TTs h83 (es := wx_e83) rfl rx_x83 (wx_go h83 rx_x83 wx_k83)
  have h85 := wx_TTs h84 (es := wx_e84) rfl rx_x84 (wx_go h84 rx_x84 wx_k84)
  have h86 := wx_TTs h85 (es := wx_e85) rfl rx_x85 (wx_go h85 rx_x85 wx_k85)
  have h87 := wx_TTs h86 (es := wx_e86) rfl rx_x86 (wx_go h86 rx_x86 wx_k86)
  have h88 := wx_TTs h87 (es := wx_e87) rfl rx_x87 (wx_go h87 rx_x87 wx_k87)
  have h89 := wx_TTs h88 (es := wx_e88) rfl rx_x88 (wx_go h88 rx_x88 wx_k88)
  have h90 := wx_TTs h89 (es := []) rfl rx_x89 wx_none
  have h91 := wx_TTs h90 (es := wx_e90) rfl rx_x90 (wx_con90 hn h90)
  have h92 := wx_TTs h91 (es := wx_e91) rfl rx_x91 (wx_con91 hn h91)
  have h93 := wx_TTs h92 (es := wx_e92) rfl rx_x92 (wx_go h92 rx_x92 wx_k92)
  have h94 := wx_TTs h93 (es := wx_e93) rfl rx_x93 (wx_go h93 rx_x93 wx_k93)
  have h95 := wx_TTs h94 (es := wx_e94) rfl rx_x94 (wx_go h94 rx_x94 wx_k94)
  have h96 := wx_TTs h95 (es := wx_e95) rfl rx_x95 (wx_go h95 rx_x95 wx_k95)
  have h97 := wx_TTs h96 (es := wx_e96) rfl rx_x96 (wx_go h96 rx_x96 wx_k96)
  have h98 := wx_TTs h97 (es := wx_e97) rfl rx_x97 (wx_go h97 rx_x97 wx_k97)
  have h99 := wx_TTs h98 (es := wx_e98) rfl rx_x98 (wx_go h98 rx_x98 wx_k98)
  have h100 := wx_TTs h99 (es := wx_e99) rfl rx_x99 (wx_go h99 rx_x99 wx_k99)
  have h101 := wx_TTs h100 (es := wx_e100) rfl rx_x100 (wx_go h100 rx_x100 wx_k100)
  have h102 := wx_TTs h101 (es := []) rfl rx_x101 wx_none
  have h103 := wx_TTs h102 (es := wx_e102) rfl rx_x102 (wx_go h102 rx_x102 wx_k102)
  have h104 := wx_TTs h103 (es := wx_e103) rfl rx_x103 (wx_go h103 rx_x103 wx_k103)
  have h105 := wx_TTs h104 (es := wx_e104) rfl rx_x104 (wx_go h104 rx_x104 wx_k104)
  have h106 := wx_TTs h105 (es := wx_e105) rfl rx_x105 (wx_go h105 rx_x105 wx_k105)
  have h107 := wx_TTs h106 (es := wx_e106) rfl rx_x106 (wx_go h106 rx_x106 wx_k106)
  have h108 := wx_TTs h107 (es := wx_e107) rfl rx_x107 (wx_go h107 rx_x107 wx_k107)
  have h109 := wx_TTs h108 (es := wx_e108) rfl rx_x108 (wx_go h108 rx_x108 wx_k108)
  have h110 := wx_TTs h109 (es := wx_e109) rfl rx_x109 (wx_go h109 rx_x109 wx_k109)
  have h111 := wx_TTs h110 (es := wx_e110) rfl rx_x110 (wx_go h110 rx_x110 wx_k110)
  have h112 := wx_TTs h111 (es := wx_e111) rfl rx_x111 (wx_go h111 rx_x111 wx_k111)
  have h113 := wx_TTs h112 (es := wx_e112) rfl rx_x112 (wx_go h112 rx_x112 wx_k112)
  have h114 := wx_TTs h113 (es := wx_e113) rfl rx_x113 (wx_go h113 rx_x113 wx_k113)
  have h115 := wx_TTs h114 (es := wx_e114) rfl rx_x114 (wx_go h114 rx_x114 wx_k114)
  have h116 := wx_TTs h115 (es := wx_e115) rfl rx_x115 (wx_go h115 rx_x115 wx_k115)
  have h117 := wx_TTs h116 (es := wx_e116) rfl rx_x116 (wx_go h116 rx_x116 wx_k116)
  have h118 := wx_TTs h117 (es := wx_e117) rfl rx_x117 (wx_go h117 rx_x117 wx_k117)
  have h119 := wx_TTs h118 (es := []) rfl rx_x118 wx_none
  have h120 := wx_TTs h119 (es := []) rfl rx_x119 wx_none
  have h121 := wx_TTs h120 (es := []) rfl rx_x120 wx_none
  have h122 := wx_TTs h121 (es := []) rfl rx_x121 wx_none
  have h123 := wx_TTs h122 (es := wx_e122) rfl rx_x122 (wx_con122 hn h122)
  have h124 := wx_TTs h123 (es := []) rfl rx_x123 wx_none
  have h125 := wx_TTs h124 (es := wx_e124) rfl rx_x124 (wx_go h124 rx_x124 wx_k124)
  have h126 := wx_TTs h125 (es := wx_e125) rfl rx_x125 (wx_go h125 rx_x125 wx_k125)
  have h127 := wx_TTs h126 (es := wx_e126) rfl rx_x126 (wx_go h126 rx_x126 wx_k126)
  have h128 := wx_TTs h127 (es := wx_e127) rfl rx_x127 (wx_go h127 rx_x127 wx_k127)
  have h129 := wx_TTs h128 (es := wx_e128) rfl rx_x128 (wx_go h128 rx_x128 wx_k128)
  have h130 := wx_TTs h129 (es := wx_e129) rfl rx_x129 (wx_go h129 rx_x129 wx_k129)
  have h131 := wx_TTs h130 (es := wx_e130) rfl rx_x130 (wx_go h130 rx_x130 wx_k130)
  have h132 := wx_TTs h131 (es := wx_e131) rfl rx_x131 (wx_go h131 rx_x131 wx_k131)
  have h133 := wx_TTs h132 (es := wx_e132) rfl rx_x132 (wx_go h132 rx_x132 wx_k132)
  have h134 := wx_TTs h133 (es := wx_e133) rfl rx_x133 (wx_go h133 rx_x133 wx_k133)
  have h135 := wx_TTs h134 (es := wx_e134) rfl rx_x134 (wx_go h134 rx_x134 wx_k134)
  have h136 := wx_TTs h135 (es := wx_e135) rfl rx_x135 (wx_go h135 rx_x135 wx_k135)
  have h137 := wx_TTs h136 (es := wx_e136) rfl rx_x136 (wx_go h136 rx_x136 wx_k136)
  have h138 := wx_TTs h137 (es := wx_e137) rfl rx_x137 (wx_go h137 rx_x137 wx_k137)
  have h139 := wx_TTs h138 (es := wx_e138) rfl rx_x138 (wx_go h138 rx_x138 wx_k138)
  have h140 := wx_TTs h139 (es := wx_e139) rfl rx_x139 (wx_go h139 rx_x139 wx_k139)
  have h141 := wx_TTs h140 (es := wx_e140) rfl rx_x140 (wx_go h140 rx_x140 wx_k140)
  have h142 := wx_TTs h141 (es := wx_e141) rfl rx_x141 (wx_go h141 rx_x141 wx_k141)
  have h143 := wx_TTs h142 (es := wx_e142) rfl rx_x142 (wx_go h142 rx_x142 wx_k142)
  have h144 := wx_TTs h143 (es := wx_e143) rfl rx_x143 (wx_go h143 rx_x143 wx_k143)
  have h145 := wx_TTs h144 (es := wx_e144) rfl rx_x144 (wx_go h144 rx_x144 wx_k144)
  have h146 := wx_TTs h145 (es := wx_e145) rfl rx_x145 (wx_go h145 rx_x145 wx_k145)
  have h147 := wx_TTs h146 (es := wx_e146) rfl rx_x146 (wx_go h146 rx_x146 wx_k146)
  have h148 := wx_TTs h147 (es := wx_e147) rfl rx_x147 (wx_go h147 rx_x147 wx_k147)
  have h149 := wx_TTs h148 (es := wx_e148) rfl rx_x148 (wx_go h148 rx_x148 wx_k148)
  have h150 := wx_TTs h149 (es := wx_e149) rfl rx_x149 (wx_go h149 rx_x149 wx_k149)
  have h151 := wx_TTs h150 (es := wx_e150) rfl rx_x150 (wx_go h150 rx_x150 wx_k150)
  have h152 := wx_TTs h151 (es := wx_e151) rfl rx_x151 (wx_go h151 rx_x151 wx_k151)
  have h153 := wx_TTs h152 (es := wx_e152) rfl rx_x152 (hG h152)
  have h154 := wx_TTs h153 (es := wx_e153) rfl rx_x153 (wx_go h153 rx_x153 wx_k153)
  have h155 := wx_TTs h154 (es := wx_e154) rfl rx_x154 (hL h154)
  have h156 := wx_TTs h155 (es := wx_e155) rfl rx_x155 (wx_go h155 rx_x155 wx_k155)
  have h157 := wx_TTs h156 (es := wx_e156) rfl rx_x156 (wx_go h156 rx_x156 wx_k156)
  have h158 := wx_TTs h157 (es := wx_e157) rfl rx_x157 (wx_go h157 rx_x157 wx_k157)
  have h159 := wx_TTs h158 (es := wx_e158) rfl rx_x158 (wx_go h158 rx_x158 wx_k158)
  have h160 := wx_TTs h159 (es := wx_e159) rfl rx_x159 (wx_go h159 rx_x159 wx_k159)
  have h161 := wx_TTs h160 (es := wx_e160) rfl rx_x160 (wx_go h160 rx_x160 wx_k160)
  have h162 := wx_TTs h161 (es := wx_e161) rfl rx_x161 (wx_go h161 rx_x161 wx_k161)
  have h163 := wx_TTs h162 (es := wx_e162) rfl rx_x162 (wx_go h162 rx_x162 wx_k162)
  have h164 := wx_TTs h163 (es := wx_e163) rfl rx_x163 (wx_go h163 rx_x163 wx_k163)
  have h165 := wx_TTs h164 (es := wx_e164) rfl rx_x164 (wx_go h164 rx_x164 wx_k164)
  have h166 := wx_TTs h165 (es := wx_e165) rfl rx_x165 (wx_goM h165)
  have h167 := wx_TTs h166 (es := wx_e166) rfl rx_x166 (wx_go h166 rx_x166 wx_k166)
  have h168 := wx_TTs h167 (es := wx_e167) rfl rx_x167 (wx_go h167 rx_x167 wx_k167)
  have h169 := wx_TTs h168 (es := wx_e168) rfl rx_x168 (wx_go h168 rx_x168 wx_k168)
  have h170 := wx_TTs h169 (es := wx_e169) rfl rx_x169 (wx_go h169 rx_x169 wx_k169)
  have h171 := wx_TTs h170 (es := wx_e170) rfl rx_x170 (wx_go h170 rx_x170 wx_k170)
  have h172 := wx_TTs h171 (es := wx_e171) rfl rx_x171 (wx_go h171 rx_x171 wx_k171)
  have h173 := wx_TTs h172 (es := wx_e172) rfl rx_x172 (wx_go h172 rx_x172 wx_k172)
  have h174 := wx_TTs h173 (es := []) rfl rx_x173 wx_none
  have h175 := wx_TTs h174 (es := wx_e174) rfl rx_x174 (wx_go h174 rx_x174 wx_k174)
  have h176 := wx_TTs h175 (es := wx_e175) rfl rx_x175 (wx_go h175 rx_x175 wx_k175)
  have h177 := wx_TTs h176 (es := wx_e176) rfl rx_x176 (wx_go h176 rx_x176 wx_k176)
  have h178 := wx_TTs h177 (es := wx_e177) rfl rx_x177 (wx_go h177 rx_x177 wx_k177)
  have h179 := wx_TTs h178 (es := wx_e178) rfl rx_x178 (wx_go h178 rx_x178 wx_k178)
  have h180 := wx_TTs h179 (es := wx_e179) rfl rx_x179 (wx_go h179 rx_x179 wx_k179)
  have h181 := wx_TTs h180 (es := wx_e180) rfl rx_x180 (wx_go h180 rx_x180 wx_k180)
  have h182 := wx_TTs h181 (es := wx_e181) rfl rx_x181 (wx_go h181 rx_x181 wx_k181)
  have h183 := wx_TTs h182 (es := wx_e182) rfl rx_x182 (wx_go h182 rx_x182 wx_k182)
  have h184 := wx_TTs h183 (es := wx_e183) rfl rx_x183 (wx_go h183 rx_x183 wx_k183)
  have h185 := wx_TTs h184 (es := wx_e184) rfl rx_x184 (wx_go h184 rx_x184 wx_k184)
  have h186 := wx_TTs h185 (es := wx_e185) rfl rx_x185 (wx_go h185 rx_x185 wx_k185)
  have h187 := wx_TTs h186 (es := wx_e186) rfl rx_x186 (wx_go h186 rx_x186 wx_k186)
  have h188 := wx_TTs h187 (es := wx_e187) rfl rx_x187 (wx_go h187 rx_x187 wx_k187)
  have h189 := wx_TTs h188 (es := []) rfl rx_x188 wx_none
  have h190 := wx_TTs h189 (es := wx_e189) rfl rx_x189 (wx_go h189 rx_x189 wx_k189)
  exact h190
