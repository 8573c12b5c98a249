/-! places of the class by number, and what stays -/
theorem lc_m1 {i : Nat} (hi : i < 4) : locF 101 i = some (3 + i, 1) := by simp [locF, hi]
theorem lc_m2 {i : Nat} (hi : i < 4) : locF 102 i = some (3 + i, 2) := by simp [locF, hi]
theorem lc_m3 {i : Nat} (hi : i < 4) : locF 103 i = some (3 + i, 3) := by simp [locF, hi]
theorem lc_m4 {i : Nat} (hi : i < 4) : locF 104 i = some (3 + i, 4) := by simp [locF, hi]
theorem lc_m5 {i : Nat} (hi : i < 4) : locF 105 i = some (3 + i, 5) := by simp [locF, hi]
theorem lc_p1 {i : Nat} (hi : i < 3) : locF 107 i = some (8 + i, 1) := by simp [locF, hi]
theorem lc_p2 {i : Nat} (hi : i < 3) : locF 108 i = some (8 + i, 2) := by simp [locF, hi]
theorem lc_p3 {i : Nat} (hi : i < 3) : locF 109 i = some (8 + i, 3) := by simp [locF, hi]
theorem lc_h0 {q : Nat} (hq : q < 32) : locF 111 q = some (20 + q, 0) := by simp [locF, hq]
theorem lc_h1 {q : Nat} (hq : q < 32) : locF 112 q = some (20 + q, 1) := by simp [locF, hq]
theorem lc_h2 {q : Nat} (hq : q < 32) : locF 113 q = some (20 + q, 2) := by simp [locF, hq]
theorem lc_x13 : locF 100 13 = some (0, 10) := rfl
theorem lc_x21 : locF 100 21 = some (0, 11) := rfl
theorem lc_x27 : locF 100 27 = some (76, 2) := rfl
theorem lc_x34 : locF 100 34 = some (0, 17) := rfl
theorem lc_x35 : locF 100 35 = some (0, 18) := rfl
theorem lc_fr : locF 109 3 = some (0, 12) := rfl
theorem lc_g30 : locG 100 30 = some (0, 13) := rfl
theorem lc_g31 : locG 100 31 = some (0, 14) := rfl
theorem lc_g32 : locG 100 32 = some (0, 15) := rfl
theorem lc_g33 : locG 100 33 = some (0, 16) := rfl
/-- what a call of the class leaves as it was -/
def KW (F F1 : tF) : Prop := (∀ k, 100 ≤ k → F1 k = F k) ∧ (∀ i, i < 4 → F1 (3 + i) 0 = F (3 + i) 0) ∧ (∀ i, i < 3 → F1 (8 + i) 0 = F (8 + i) 0) ∧ F1 77 = F 77 ∧ F1 78 = F 78
def KC (F F1 : tF) : Prop := (∀ k, 100 ≤ k → F1 k = F k) ∧ (∀ i, i < 4 → F1 (3 + i) 0 = F (3 + i) 0) ∧ (∀ i, i < 3 → F1 (8 + i) 0 = F (8 + i) 0) ∧ F1 77 = F 77 ∧ F1 78 = F 78 ∧ F1 80 = F 80 ∧ F1 82 = F 82
theorem KC.w {F F1 : tF} (h : KC F F1) : KW F F1 := ⟨h.1, h.2.1, h.2.2.1, h.2.2.2.1, h.2.2.2.2.1⟩
theorem KW.tr {F F1 F2 : tF} (h : KW F F1) (h2 : KW F1 F2) : KW F F2 := ⟨fun k hk => (h2.1 k hk).trans (h.1 k hk), fun i hi => (h2.2.1 i hi).trans (h.2.1 i hi), fun i hi => (h2.2.2.1 i hi).trans (h.2.2.1 i hi), h2.2.2.2.1.trans h.2.2.2.1, h2.2.2.2.2.trans h.2.2.2.2⟩
theorem KG.tr {G G1 G2 : tG} (h : ∀ k, 100 ≤ k → G1 k = G k) (h2 : ∀ k, 100 ≤ k → G2 k = G1 k) : ∀ k, 100 ≤ k → G2 k = G k := fun k hk => (h2 k hk).trans (h k hk)
def KG (G G1 : tG) : Prop := ∀ k, 100 ≤ k → G1 k = G k
theorem KC.rf {F : tF} : KC F F := ⟨fun _ _ => rfl, fun _ _ => rfl, fun _ _ => rfl, rfl, rfl, rfl, rfl⟩
theorem KG.rf {G : tG} : KG G G := fun _ _ => rfl
theorem uF_o (F : tF) {k z : Nat} (j : Nat) (v : Int32) (h : z ≠ k) : uF F k j v z = F z := by simp [uF, h]
theorem KC.u {F F1 : tF} {a b : Nat} {v : Int32} (h : KC F F1) (ha : a < 100) (hb : 11 ≤ a ∨ 1 ≤ b ∨ a < 3) (h7 : a ≠ 77 ∧ a ≠ 78 ∧ a ≠ 80 ∧ a ≠ 82) : KC F (uF F1 a b v) := by
  refine ⟨fun k hk => ?_, fun i hi => ?_, fun i hi => ?_, ?_, ?_, ?_, ?_⟩
  · rw [uF_o _ _ _ (by omega)]; exact h.1 k hk
  · rw [uF_n _ _ (by omega)]; exact h.2.1 i hi
  · rw [uF_n _ _ (by omega)]; exact h.2.2.1 i hi
  · rw [uF_o _ _ _ (by omega)]; exact h.2.2.2.1
  · rw [uF_o _ _ _ (by omega)]; exact h.2.2.2.2.1
  · rw [uF_o _ _ _ (by omega)]; exact h.2.2.2.2.2.1
  · rw [uF_o _ _ _ (by omega)]; exact h.2.2.2.2.2.2
theorem KG.u {G G1 : tG} {a b : Nat} {v : Int64} (h : KG G G1) (ha : a < 100) : KG G (uG G1 a b v) := by
  intro k hk
  rw [uG_o _ _ _ (by omega)]
  exact h k hk
/-- a coil's size isn't 0, and it has feet if it has stuff -/
def CK (F : tF) (G : tG) (nc : Nat) : Prop := ∀ c, c < nc → (¬ (F (53 + c) 1).toInt64 * (F (53 + c) 1).toInt64 = 0) ∧ (0 < G (53 + c) 3 ↔ ¬ w_ft (G (53 + c) 3) (F (53 + c) 1) = 0)
theorem ok_coil_v {G : tG} {nc c : Nat} (hn : nc ≤ 16) (hc : c < nc) : ok_coil (vG G) nc (nI c) = true ↔ 0 < G (53 + c) 3 := by
  rw [ok_coil_i, i4_cl (by omega), vG_at (lc_c3 (by omega))]
  exact ⟨fun h => h.2, fun h => ⟨⟨nI_pos' (by omega), nI_lt hc (by omega)⟩, h⟩⟩
theorem ok_coil_no {G : tG} {nc : Nat} {x : Int32} (hn : nc ≤ 16) (h : ∀ c, c < nc → x ≠ nI c) : ¬ ok_coil G nc x = true := by
  intro ok
  obtain ⟨i, hi, rfl, -⟩ := ok_coil_n hn ok
  exact h i hi rfl
theorem ok_hole_y {nh : Nat → Nat} {i j : Nat} (hi : i < 4) (hj : j < nh i) (h8 : nh i ≤ 8) : ok_hole nh (nI i) (nI j) = true := by
  rw [ok_hole_i, i4_cl (by omega)]
  exact ⟨i_rng (n := 3) (by omega) (by decide), nI_pos' (by omega), nI_lt hj (by omega)⟩
