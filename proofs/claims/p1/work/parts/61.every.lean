/-! EVERY SCRIPT OF AT MOST FIVE INTS -/
theorem rx_every5 (xs : Nat → Int32) : ∃ l, l.length = 5 ∧ rx_five l xs := by
  obtain ⟨h1, h2⟩ := rx_small (xs 0) 31 (k := 31) rfl (by decide)
  obtain ⟨c, hc⟩ : ∃ c : Nat, (xs 0 &&& 31).toInt = (c : Int) := ⟨(xs 0 &&& 31).toInt.toNat, by omega⟩
  have hl : c < 32 := by omega
  have h : rx_is5 c (xs 0) := ⟨hc, hl⟩
  match c, hl, h with
  | 0, _, h => exact rx_lop0 h
  | 1, _, h => exact rx_opw rx_law1 h
  | 2, _, h => exact rx_lop2 h
  | 3, _, h => exact rx_lop3 h
  | 4, _, h => exact rx_lop4 h
  | 5, _, h => exact rx_lop5 h
  | 6, _, h => exact rx_lop6 h
  | 7, _, h => exact rx_lop7 h
  | 8, _, h => exact rx_lop8 h
  | 9, _, h => exact rx_lop9 h
  | 10, _, h => exact rx_lop10 h
  | 11, _, h => exact rx_lop11 h
  | 12, _, h => exact rx_lop12 h
  | 13, _, h => exact rx_lop13 h
  | 14, _, h => exact rx_lop14 h
  | 15, _, h => exact rx_lop15 h
  | 16, _, h => exact rx_lop16 h
  | 17, _, h => exact rx_lop17 h
  | 18, _, h => exact rx_lop18 h
  | 19, _, h => exact rx_lop19 h
  | 20, _, h => exact rx_lop20 h
  | 21, _, h => exact rx_lop21 h
  | 22, _, h => exact rx_lop22 h
  | 23, _, h => exact rx_lop23 h
  | 24, _, h => exact rx_lop24 h
  | 25, _, h => exact rx_lop25 h
  | 26, _, h => exact rx_lop26 h
  | 27, _, h => exact rx_lop27 h
  | 28, _, h => exact rx_lop28 h
  | 29, _, h => exact rx_lop29 h
  | 30, _, h => exact rx_lop30 h
  | 31, _, h => exact rx_lop31 h
  | _ + 32, hl, _ => omega
theorem rx_tops {l : List rx_V} (h : ∀ v ∈ l, v = .inl rx_top) (xs : Nat → Int32) : ∀ (t : Nat) (v : rx_V), l[t]? = some v → rx_G [] [] v (.int (xs t)) := by
  intro t v hv
  rw [h v (List.mem_of_getElem? hv)]
  exact ⟨_, rfl, rx_r32 _⟩
theorem rx_every (L : Nat) (hL : L ≤ 5) (xs : Nat → Int32) : ∃ l, l.length = L ∧ rx_five l xs := by
  match L, hL with
  | 0, _ => exact ⟨_, rfl, rx_short0, rx_tops (by simp) xs⟩
  | 1, _ => exact ⟨_, rfl, rx_short1, rx_tops (by simp) xs⟩
  | 2, _ => exact ⟨_, rfl, rx_short2, rx_tops (by simp) xs⟩
  | 3, _ => exact ⟨_, rfl, rx_short3, rx_tops (by simp) xs⟩
  | 4, _ => exact ⟨_, rfl, rx_short4, rx_tops (by simp) xs⟩
  | 5, _ => exact rx_every5 xs
  | _ + 6, hL => omega
