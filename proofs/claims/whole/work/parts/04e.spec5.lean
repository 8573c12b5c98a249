def ok_setb (w v : Int32) : Bool := decide ((0 ≤ w ∧ w ≤ 5) ∧ (sp_least w ≤ v ∧ v ≤ sp_most w))
theorem ok_setb_i {w v : Int32} : ok_setb w v = true ↔ (0 ≤ w ∧ w ≤ 5) ∧ (sp_least w ≤ v ∧ v ≤ sp_most w) := decide_eq_true_iff
theorem set_no {w v : Int32} (h : w < 0 ∨ 6 ≤ w) : ¬ ok_setb w v = true := by
  rw [ok_setb_i]
  intro ok
  simp only [Int32.le_iff_toInt_le, Int32.lt_iff_toInt_lt, Int32.reduceToInt] at h ok
  omega
theorem set_l : ∀ i : Fin 6, sp_least (nI i.val) = lstV i.val ∧ sp_most (nI i.val) = mstV i.val := by decide
theorem set_y {i : Nat} (hi : i < 6) {v : Int32} : ok_setb (nI i) v = true ↔ lstV i ≤ v ∧ v ≤ mstV i := by
  have h := set_l ⟨i, hi⟩
  simp only at h
  rw [ok_setb_i, h.1, h.2]
  exact ⟨fun h => h.2, fun h => ⟨i_rng (n := 5) (by omega) (by decide), h⟩⟩
theorem set_bad (F : tF) {w v : Int32} (h : ¬ ok_setb w v = true) : sp_set F w v = -3 ∧ st_set F w v = F := by
  rw [ok_setb_i] at h
  unfold sp_set st_set
  by_cases h1 : 0 ≤ w ∧ w ≤ 5
  · have h2 : ¬ (sp_least w ≤ v ∧ v ≤ sp_most w) := fun q => h ⟨h1, q⟩
    rw [if_pos h1, if_neg h2, if_pos h1, if_neg h2]
    exact ⟨rfl, rfl⟩
  · rw [if_neg h1, if_neg h1]
    exact ⟨rfl, rfl⟩
