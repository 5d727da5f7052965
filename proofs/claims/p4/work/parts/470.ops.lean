/-! THE LAW's WAYS -/
noncomputable def rx_cov (l : List (Int × Int)) : Int → Bool :=
  List.rec (motive := fun _ => Int → Bool) (fun lo => rx_le 2147483648 lo) (fun q _ ih lo => rx_le q.1 lo && ih (q.2 + 1)) l
theorem rx_cov_ok : ∀ {l : List (Int × Int)} {lo x : Int}, rx_cov l lo = true → lo ≤ x → x ≤ 2147483647 → ∃ q ∈ l, rx_has q x := by
  intro l
  induction l with
  | nil =>
    intro lo x h h1 h2
    have := rx_le_t (show rx_le 2147483648 lo = true from h)
    omega
  | cons q t ih =>
    intro lo x h h1 h2
    have h : (rx_le q.1 lo && rx_cov t (q.2 + 1)) = true := h
    obtain ⟨h3, h4⟩ := rx_and2 h
    have h3 := rx_le_t h3
    by_cases hx : x ≤ q.2
    · exact ⟨q, List.mem_cons_self, by omega, hx⟩
    · obtain ⟨q', g1, g2⟩ := ih h4 (show q.2 + 1 ≤ x by omega) h2
      exact ⟨q', List.mem_cons_of_mem _ g1, g2⟩
def wx_w4 (q1 q2 q3 q4 : Int × Int) : List rx_V := [.inl q1, .inl q2, .inl q3, .inl q4]
theorem wx_fit4 {xs : Nat → Int32} {t : Nat} {q1 q2 q3 q4 : Int × Int} (h1 : rx_has q1 (xs (t + 1)).toInt) (h2 : rx_has q2 (xs (t + 2)).toInt) (h3 : rx_has q3 (xs (t + 3)).toInt) (h4 : rx_has q4 (xs (t + 4)).toInt) : wx_fitw (wx_w4 q1 q2 q3 q4) (t + 1) xs := by
  intro k v hv
  match k, hv with
  | 0, hv => cases hv; exact ⟨_, rfl, h1⟩
  | 1, hv => cases hv; exact ⟨_, rfl, h2⟩
  | 2, hv => cases hv; exact ⟨_, rfl, h3⟩
  | 3, hv => cases hv; exact ⟨_, rfl, h4⟩
  | _ + 4, hv => cases hv
noncomputable def wx_cv (a b d f : List (Int × Int)) : Bool := rx_cov a (-2147483648) && (rx_cov b (-2147483648) && (rx_cov d (-2147483648) && rx_cov f (-2147483648)))
theorem wx_cv_ok {a b d f : List (Int × Int)} (h : wx_cv a b d f = true) (xs : Nat → Int32) (t : Nat) : ∃ q1 ∈ a, ∃ q2 ∈ b, ∃ q3 ∈ d, ∃ q4 ∈ f, wx_fitw (wx_w4 q1 q2 q3 q4) (t + 1) xs := by
  obtain ⟨ha, h⟩ := rx_and2 h
  obtain ⟨hb, h⟩ := rx_and2 h
  obtain ⟨hd, hf⟩ := rx_and2 h
  obtain ⟨q1, m1, g1⟩ := rx_cov_ok ha (rx_r32 (xs (t + 1))).1 (rx_r32 (xs (t + 1))).2
  obtain ⟨q2, m2, g2⟩ := rx_cov_ok hb (rx_r32 (xs (t + 2))).1 (rx_r32 (xs (t + 2))).2
  obtain ⟨q3, m3, g3⟩ := rx_cov_ok hd (rx_r32 (xs (t + 3))).1 (rx_r32 (xs (t + 3))).2
  obtain ⟨q4, m4, g4⟩ := rx_cov_ok hf (rx_r32 (xs (t + 4))).1 (rx_r32 (xs (t + 4))).2
  exact ⟨q1, m1, q2, m2, q3, m3, q4, m4, wx_fit4 g1 g2 g3 g4⟩
noncomputable def wx_al (a b d f : List (Int × Int)) (p : Int × Int → Int × Int → Int × Int → Int × Int → Bool) : Bool := a.all fun q1 => b.all fun q2 => d.all fun q3 => f.all fun q4 => p q1 q2 q3 q4
theorem wx_al_ok {a b d f : List (Int × Int)} {p : Int × Int → Int × Int → Int × Int → Int × Int → Bool} (h : wx_al a b d f p = true) {q1 q2 q3 q4 : Int × Int} (h1 : q1 ∈ a) (h2 : q2 ∈ b) (h3 : q3 ∈ d) (h4 : q4 ∈ f) : p q1 q2 q3 q4 = true :=
  List.all_eq_true.mp (List.all_eq_true.mp (List.all_eq_true.mp (List.all_eq_true.mp h q1 h1) q2 h2) q3 h3) q4 h4
theorem wx_ON_of {c0 : Nat} {a b d f : List (Int × Int)} (hcv : wx_cv a b d f = true) (hc : wx_al a b d f (fun q1 q2 q3 q4 => wx_lawN c0 (wx_w4 q1 q2 q3 q4)) = true) : wx_ON c0 := by
  intro xs t
  obtain ⟨q1, m1, q2, m2, q3, m3, q4, m4, hw⟩ := wx_cv_ok hcv xs t
  exact ⟨_, rfl, hw, wx_al_ok hc m1 m2 m3 m4⟩
theorem wx_OH_of {l : Launch} {c0 pcH : Nat} {my : rx_MT} {hh : List (Nat × Nat × Nat × Nat)} {K : rx_K} {a b d f : Nat → List (Int × Int)} {as : Int × Int → Int × Int → Int × Int → Int × Int → List rx_V} (hF : wx_HF pcH my hh K) (hcv : ∀ n, n ≤ 40 → wx_cv (a n) (b n) (d n) (f n) = true)
    (hc : ∀ n, n ≤ 40 → wx_al (a n) (b n) (d n) (f n) (fun q1 q2 q3 q4 => Nat.beq (as q1 q2 q3 q4).length K.2.2.1 && (wx_lawA c0 pcH (wx_w4 q1 q2 q3 q4) (as q1 q2 q3 q4) && wx_lawB c0 (pcH + 3) 795 (wx_w4 q1 q2 q3 q4) [.inl (0, 2)] [])) = true)
    (hH : ∀ n, n ≤ 40 → ∀ q1 ∈ a n, ∀ q2 ∈ b n, ∀ q3 ∈ d n, ∀ q4 ∈ f n, ∃ n' dm, n' ≤ 40 ∧ dm ≤ 295000 ∧ wx_HE l n n' my hh (as q1 q2 q3 q4) dm) : wx_OH l c0 := by
  refine ⟨pcH, my, hh, K, hF, fun n hn xs t => ?_⟩
  obtain ⟨q1, m1, q2, m2, q3, m3, q4, m4, hw⟩ := wx_cv_ok (hcv n hn) xs t
  have h := wx_al_ok (hc n hn) m1 m2 m3 m4
  obtain ⟨h1, h2⟩ := rx_and2 h
  obtain ⟨h2, h3⟩ := rx_and2 h2
  obtain ⟨n', dm, g1, g2, g3⟩ := hH n hn q1 m1 q2 m2 q3 m3 q4 m4
  exact ⟨_, _, n', dm, rfl, hw, g1, g2, Nat.eq_of_beq_eq_true h1, h2, g3, Or.inl h3⟩
theorem wx_r41 {p : Nat → Bool} (h : ((List.range 41).all p) = true) : ∀ n, n ≤ 40 → p n = true := fun n hn => List.all_eq_true.mp h n (List.mem_range.mpr (by omega))
set_option maxRecDepth 100000 in
theorem wx_ln0 : wx_al wx_l03 wx_lt wx_lt wx_lt (fun q1 q2 q3 q4 => wx_lawN 0 (wx_w4 q1 q2 q3 q4)) = true := by decide +kernel
theorem wx_op0 : wx_ON 0 := wx_ON_of (a := wx_l03) (b := wx_lt) (d := wx_lt) (f := wx_lt) (by decide +kernel) wx_ln0
set_option maxRecDepth 100000 in
theorem wx_ln1 : wx_al wx_lt wx_lt wx_lt wx_lt (fun q1 q2 q3 q4 => wx_lawN 1 (wx_w4 q1 q2 q3 q4)) = true := by decide +kernel
theorem wx_op1 : wx_ON 1 := wx_ON_of (a := wx_lt) (b := wx_lt) (d := wx_lt) (f := wx_lt) (by decide +kernel) wx_ln1
set_option maxRecDepth 100000 in
theorem wx_ln4 : wx_al wx_lt wx_lt wx_lt wx_lt (fun q1 q2 q3 q4 => wx_lawN 4 (wx_w4 q1 q2 q3 q4)) = true := by decide +kernel
theorem wx_op4 : wx_ON 4 := wx_ON_of (a := wx_lt) (b := wx_lt) (d := wx_lt) (f := wx_lt) (by decide +kernel) wx_ln4
set_option maxRecDepth 100000 in
theorem wx_ln6 : wx_al wx_l04 wx_l04 wx_lt wx_lt (fun q1 q2 q3 q4 => wx_lawN 6 (wx_w4 q1 q2 q3 q4)) = true := by decide +kernel
theorem wx_op6 : wx_ON 6 := wx_ON_of (a := wx_l04) (b := wx_l04) (d := wx_lt) (f := wx_lt) (by decide +kernel) wx_ln6
set_option maxRecDepth 100000 in
theorem wx_ln7 : wx_al wx_l04 wx_lt wx_lt wx_lt (fun q1 q2 q3 q4 => wx_lawN 7 (wx_w4 q1 q2 q3 q4)) = true := by decide +kernel
theorem wx_op7 : wx_ON 7 := wx_ON_of (a := wx_l04) (b := wx_lt) (d := wx_lt) (f := wx_lt) (by decide +kernel) wx_ln7
set_option maxRecDepth 100000 in
theorem wx_ln8 : wx_al wx_l05 wx_lt wx_lt wx_lt (fun q1 q2 q3 q4 => wx_lawN 8 (wx_w4 q1 q2 q3 q4)) = true := by decide +kernel
theorem wx_op8 : wx_ON 8 := wx_ON_of (a := wx_l05) (b := wx_lt) (d := wx_lt) (f := wx_lt) (by decide +kernel) wx_ln8
set_option maxRecDepth 100000 in
theorem wx_ln9 : wx_al wx_l08 wx_lt wx_lt wx_lt (fun q1 q2 q3 q4 => wx_lawN 9 (wx_w4 q1 q2 q3 q4)) = true := by decide +kernel
theorem wx_op9 : wx_ON 9 := wx_ON_of (a := wx_l08) (b := wx_lt) (d := wx_lt) (f := wx_lt) (by decide +kernel) wx_ln9
set_option maxRecDepth 100000 in
theorem wx_ln10 : wx_al wx_lt wx_lt wx_lt wx_lt (fun q1 q2 q3 q4 => wx_lawN 10 (wx_w4 q1 q2 q3 q4)) = true := by decide +kernel
theorem wx_op10 : wx_ON 10 := wx_ON_of (a := wx_lt) (b := wx_lt) (d := wx_lt) (f := wx_lt) (by decide +kernel) wx_ln10
set_option maxRecDepth 100000 in
theorem wx_ln11 : wx_al wx_lt wx_lt wx_lt wx_lt (fun q1 q2 q3 q4 => wx_lawN 11 (wx_w4 q1 q2 q3 q4)) = true := by decide +kernel
theorem wx_op11 : wx_ON 11 := wx_ON_of (a := wx_lt) (b := wx_lt) (d := wx_lt) (f := wx_lt) (by decide +kernel) wx_ln11
set_option maxRecDepth 100000 in
theorem wx_ln12 : wx_al wx_lt wx_lt wx_lt wx_lt (fun q1 q2 q3 q4 => wx_lawN 12 (wx_w4 q1 q2 q3 q4)) = true := by decide +kernel
theorem wx_op12 : wx_ON 12 := wx_ON_of (a := wx_lt) (b := wx_lt) (d := wx_lt) (f := wx_lt) (by decide +kernel) wx_ln12
set_option maxRecDepth 100000 in
theorem wx_ln17 : wx_al wx_lt wx_lt wx_lt wx_lt (fun q1 q2 q3 q4 => wx_lawN 17 (wx_w4 q1 q2 q3 q4)) = true := by decide +kernel
theorem wx_op17 : wx_ON 17 := wx_ON_of (a := wx_lt) (b := wx_lt) (d := wx_lt) (f := wx_lt) (by decide +kernel) wx_ln17
set_option maxRecDepth 100000 in
theorem wx_ln18 : wx_al wx_lt wx_lt wx_lt wx_lt (fun q1 q2 q3 q4 => wx_lawN 18 (wx_w4 q1 q2 q3 q4)) = true := by decide +kernel
theorem wx_op18 : wx_ON 18 := wx_ON_of (a := wx_lt) (b := wx_lt) (d := wx_lt) (f := wx_lt) (by decide +kernel) wx_ln18
set_option maxRecDepth 100000 in
theorem wx_ln19 : wx_al wx_lt wx_lt wx_lt wx_lt (fun q1 q2 q3 q4 => wx_lawN 19 (wx_w4 q1 q2 q3 q4)) = true := by decide +kernel
theorem wx_op19 : wx_ON 19 := wx_ON_of (a := wx_lt) (b := wx_lt) (d := wx_lt) (f := wx_lt) (by decide +kernel) wx_ln19
set_option maxRecDepth 100000 in
theorem wx_ln20 : wx_al wx_lt wx_lt wx_lt wx_lt (fun q1 q2 q3 q4 => wx_lawN 20 (wx_w4 q1 q2 q3 q4)) = true := by decide +kernel
theorem wx_op20 : wx_ON 20 := wx_ON_of (a := wx_lt) (b := wx_lt) (d := wx_lt) (f := wx_lt) (by decide +kernel) wx_ln20
set_option maxRecDepth 100000 in
theorem wx_ln21 : wx_al wx_lt wx_lt wx_lt wx_lt (fun q1 q2 q3 q4 => wx_lawN 21 (wx_w4 q1 q2 q3 q4)) = true := by decide +kernel
theorem wx_op21 : wx_ON 21 := wx_ON_of (a := wx_lt) (b := wx_lt) (d := wx_lt) (f := wx_lt) (by decide +kernel) wx_ln21
set_option maxRecDepth 100000 in
theorem wx_ln22 : wx_al wx_lt wx_lt wx_lt wx_lt (fun q1 q2 q3 q4 => wx_lawN 22 (wx_w4 q1 q2 q3 q4)) = true := by decide +kernel
theorem wx_op22 : wx_ON 22 := wx_ON_of (a := wx_lt) (b := wx_lt) (d := wx_lt) (f := wx_lt) (by decide +kernel) wx_ln22
set_option maxRecDepth 100000 in
theorem wx_ln23 : wx_al wx_lt wx_lt wx_lt wx_lt (fun q1 q2 q3 q4 => wx_lawN 23 (wx_w4 q1 q2 q3 q4)) = true := by decide +kernel
theorem wx_op23 : wx_ON 23 := wx_ON_of (a := wx_lt) (b := wx_lt) (d := wx_lt) (f := wx_lt) (by decide +kernel) wx_ln23
set_option maxRecDepth 100000 in
theorem wx_ln24 : wx_al wx_lt wx_lt wx_lt wx_lt (fun q1 q2 q3 q4 => wx_lawN 24 (wx_w4 q1 q2 q3 q4)) = true := by decide +kernel
theorem wx_op24 : wx_ON 24 := wx_ON_of (a := wx_lt) (b := wx_lt) (d := wx_lt) (f := wx_lt) (by decide +kernel) wx_ln24
set_option maxRecDepth 100000 in
theorem wx_ln25 : wx_al wx_lt wx_lt wx_lt wx_lt (fun q1 q2 q3 q4 => wx_lawN 25 (wx_w4 q1 q2 q3 q4)) = true := by decide +kernel
theorem wx_op25 : wx_ON 25 := wx_ON_of (a := wx_lt) (b := wx_lt) (d := wx_lt) (f := wx_lt) (by decide +kernel) wx_ln25
set_option maxRecDepth 100000 in
theorem wx_ln26 : wx_al wx_lt wx_lt wx_lt wx_lt (fun q1 q2 q3 q4 => wx_lawN 26 (wx_w4 q1 q2 q3 q4)) = true := by decide +kernel
theorem wx_op26 : wx_ON 26 := wx_ON_of (a := wx_lt) (b := wx_lt) (d := wx_lt) (f := wx_lt) (by decide +kernel) wx_ln26
set_option maxRecDepth 100000 in
theorem wx_ln27 : wx_al wx_lt wx_lt wx_lt wx_lt (fun q1 q2 q3 q4 => wx_lawN 27 (wx_w4 q1 q2 q3 q4)) = true := by decide +kernel
theorem wx_op27 : wx_ON 27 := wx_ON_of (a := wx_lt) (b := wx_lt) (d := wx_lt) (f := wx_lt) (by decide +kernel) wx_ln27
set_option maxRecDepth 100000 in
theorem wx_ln28 : wx_al wx_lt wx_lt wx_lt wx_lt (fun q1 q2 q3 q4 => wx_lawN 28 (wx_w4 q1 q2 q3 q4)) = true := by decide +kernel
theorem wx_op28 : wx_ON 28 := wx_ON_of (a := wx_lt) (b := wx_lt) (d := wx_lt) (f := wx_lt) (by decide +kernel) wx_ln28
set_option maxRecDepth 100000 in
theorem wx_ln29 : wx_al wx_lt wx_lt wx_lt wx_lt (fun q1 q2 q3 q4 => wx_lawN 29 (wx_w4 q1 q2 q3 q4)) = true := by decide +kernel
theorem wx_op29 : wx_ON 29 := wx_ON_of (a := wx_lt) (b := wx_lt) (d := wx_lt) (f := wx_lt) (by decide +kernel) wx_ln29
set_option maxRecDepth 100000 in
theorem wx_ln30 : wx_al wx_lt wx_lt wx_lt wx_lt (fun q1 q2 q3 q4 => wx_lawN 30 (wx_w4 q1 q2 q3 q4)) = true := by decide +kernel
theorem wx_op30 : wx_ON 30 := wx_ON_of (a := wx_lt) (b := wx_lt) (d := wx_lt) (f := wx_lt) (by decide +kernel) wx_ln30
set_option maxRecDepth 100000 in
theorem wx_ln31 : wx_al wx_lt wx_lt wx_lt wx_lt (fun q1 q2 q3 q4 => wx_lawN 31 (wx_w4 q1 q2 q3 q4)) = true := by decide +kernel
theorem wx_op31 : wx_ON 31 := wx_ON_of (a := wx_lt) (b := wx_lt) (d := wx_lt) (f := wx_lt) (by decide +kernel) wx_ln31
