/-! draws of the class -/
theorem uF_comm {F : tF} {v w : Int32} (a b c d : Nat) (h : a ≠ c ∨ b ≠ d) : uF (uF F a b v) c d w = uF (uF F c d w) a b v := by
  funext k j
  by_cases h1 : k = c ∧ j = d
  · obtain ⟨rfl, rfl⟩ := h1
    rw [uF_s, uF_n _ _ (by omega), uF_s]
  · rw [uF_n _ _ (by omega)]
    by_cases h2 : k = a ∧ j = b
    · obtain ⟨rfl, rfl⟩ := h2
      rw [uF_s, uF_s]
    · rw [uF_n _ _ (by omega), uF_n _ _ (by omega), uF_n _ _ (by omega)]
theorem uG_comm {F : tG} {v w : Int64} (a b c d : Nat) (h : a ≠ c ∨ b ≠ d) : uG (uG F a b v) c d w = uG (uG F c d w) a b v := by
  funext k j
  by_cases h1 : k = c ∧ j = d
  · obtain ⟨rfl, rfl⟩ := h1
    rw [uG_s, uG_n _ _ (by omega), uG_s]
  · rw [uG_n _ _ (by omega)]
    by_cases h2 : k = a ∧ j = b
    · obtain ⟨rfl, rfl⟩ := h2
      rw [uG_s, uG_s]
    · rw [uG_n _ _ (by omega), uG_n _ _ (by omega), uG_n _ _ (by omega)]
theorem max_c (a b : Int32) : (if a < b then b else a) = (if b < a then a else b) := by
  by_cases h : a < b
  · rw [if_pos h, if_neg (fun h2 => by rw [Int32.lt_iff_toInt_lt] at h h2; omega)]
  · by_cases h2 : b < a
    · rw [if_neg h, if_pos h2]
    · rw [if_neg h, if_neg h2]
      apply i_eq
      rw [Int32.lt_iff_toInt_lt] at h h2
      omega
/-- the draft's four numbers -/
def rkF (F : tF) (V : tF) (mt : Nat) (j s h w : Int32) : tF := uF (uF (uF (uF F 79 1 (w_thin s w)) 79 2 (w_hard V mt s h w)) 79 3 (w_asks V mt s h w).toInt32) 79 4 (w_bears V mt s h w j).toInt32
/-- 0, or why a draw may not be, as the class tells it -/
def w_rf (F : tF) (mt : Nat) (j s h : Int32) (q : Nat) (u : Int32) : Int32 := if F 111 q + 50 < w_wide F q ∨ ¬ w_wide F q < s then -4 else if F 103 mt < w_hard F mt s h (w_wide F q) then -5 else if (w_bears F mt s h (w_wide F q) j).toInt32 < (w_asks F mt s h (w_wide F q)).toInt32 then -6 else if u < (w_asks F mt s h (w_wide F q)).toInt32 then -7 else 0
/-- the class and the reference refuse alike -/
def RFok (F : tF) (nc : Nat) (nh mt : Nat → Nat) : Prop := ∀ c i j u, c < nc → i < 4 → j < nh i → u < 3 → w_rf (vF F) (mt c) (F (53 + c) 4) (F (53 + c) 1) (F (53 + c) 2) (8 * i + j) (w_pull (vF F) u).toInt32 = if w_ag (vF F) (mt c) (F (53 + c) 4) (F (53 + c) 1) (F (53 + c) 2) (8 * i + j) u = 1 then 0 else w_ag (vF F) (mt c) (F (53 + c) 4) (F (53 + c) 1) (F (53 + c) 2) (8 * i + j) u
/-- minutes as the class and the reference reckon them -/
def MNok (F : tF) (G : tG) (nc : Nat) (nh : Nat → Nat) : Prop := ∀ c i j u, c < nc → i < 4 → j < nh i → u < 3 → (w_quo ((d_feet (vF F) (vG G) c (8 * i + j)).toInt64 + (F (8 + u) 2).toInt64 - 1) (F (8 + u) 2).toInt64).toInt32 = (d_feet (vF F) (vG G) c (8 * i + j) + F (8 + u) 2 - 1) / F (8 + u) 2
def WHok (F : tF) : Prop := F 8 0 = 1 ∧ F 9 0 = 0 ∧ F 10 0 = 0
theorem w_ag_neg {F : tF} {mt : Nat} {j s h : Int32} {q p : Nat} (hn : ¬ w_ag F mt j s h q p = 1) : w_ag F mt j s h q p < 0 := by
  revert hn
  unfold w_ag
  repeat' split
  all_goals intro hn
  all_goals first | exact absurd rfl hn | decide
theorem Wd.inj {E : cE} {tt : Nat × Nat × Nat} {A : Nat → Prop} {s : State} {X : List Nat} {B : Nat → Nat} {F : tF} {G : tG} {P : tP} {H : Heap} {locs : List Loc} (hw : Wd E tt A s (wl E X B F G P) H locs) {k k' : Nat} (hk : k ∈ X) (hk' : k' ∈ X) (e : B k = B k') : k = k' := by
  obtain ⟨q, h1, h2⟩ := wl_at (E := E) (B := B) (F := F) (G := G) (P := P) hk
  obtain ⟨q', h3, h4⟩ := wl_at (E := E) (B := B) (F := F) (G := G) (P := P) hk'
  have := hw.2.2.1.1 _ _ _ _ h2 h4 e
  subst this
  rw [h1] at h3
  exact Option.some.inj h3
