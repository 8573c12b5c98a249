/-! THE START: the first state -/
def fF0 : tF := fun _ _ => 0
def fG0_ : tG := fun _ _ => 0
def fP0 : tP := fun _ _ => none
def sX1 : List Nat := iX ([] ++ [0])
def sX : List Nat := mX (sX1 ++ [100])
def sF : tF := mF (zF (iF (zF fF0 0)) 100)
def sG : tG := mG (zG (iG (zG fG0_ 0)) 100)
def sP1 : tP := iP (zP fP0 0)
def sP : tP := mP (zP sP1 100)
/-- all that references point to -/
def Vals (P : tP) (S : List Nat) : Prop := ∀ z j y, P z j = some y → y ∈ S
theorem Vals.u {P : tP} {S : List Nat} (h : Vals P S) {a b y : Nat} (hy : y ∈ S) : Vals (uP P a b (some y)) S := by
  intro z j y' e
  by_cases q : z = a ∧ j = b
  · rw [q.1, q.2, uP_s] at e
    cases e
    exact hy
  · rw [uP_n _ _ (by omega)] at e
    exact h z j y' e
theorem Vals.z {P : tP} {S : List Nat} (h : Vals P S) {k : Nat} : Vals (zP P k) S := by
  intro z j y e
  by_cases q : z = k
  · subst q
    rw [zP_s] at e
    cases e
  · rw [zP_n P q] at e
    exact h z j y e
theorem Vals.n {X S : List Nat} {P : tP} (h : Vals P S) {k : Nat} (hk : k ∉ S) : noref X P k := fun z _ j e => hk (h z j k e)
theorem Vals.c {X : List Nat} {P : tP} (h : Vals P X) : closed X P := fun z _ j y e => h z j y e
theorem Vals.w {S S' : List Nat} {P : tP} (h : Vals P S) (hs : ∀ y ∈ S, y ∈ S') : Vals P S' := fun z j y e => hs y (h z j y e)
theorem vl_0 (S : List Nat) : Vals fP0 S := fun z j y e => by cases e
set_option maxRecDepth 100000 in
theorem vl_1 : Vals sP1 sX1 := by
  unfold sP1 iP
  repeat' first | exact vl_0 _ | refine Vals.u ?_ (by decide) | refine Vals.z ?_
set_option maxRecDepth 100000 in
theorem vl_2 : Vals sP sX := by
  have h : Vals sP1 sX := vl_1.w (by decide)
  unfold sP mP mJS
  simp only [List.foldl]
  repeat' first | exact h | refine Vals.u ?_ (by decide) | refine Vals.z ?_
theorem s_nin0 : ∀ k, k < 76 → (k < 20 ∨ k = 52 ∨ k = 69 ∨ ¬ k ∈ sX) := by decide +kernel
theorem s_nin (k : Nat) (h1 : k < 76) (h2 : 20 ≤ k) (h3 : k ≠ 52) (h4 : k ≠ 69) : k ∉ sX := by
  rcases s_nin0 k h1 with h | h | h | h
  · exact absurd h (by omega)
  · exact absurd h h3
  · exact absurd h h4
  · exact h
theorem s_out {k : Nat} (h1 : k < 76) (h2 : 20 ≤ k) (h3 : k ≠ 52) (h4 : k ≠ 69) : k ∉ sX ∧ noref sX sP k := ⟨s_nin k h1 h2 h3 h4, vl_2.n (s_nin k h1 h2 h3 h4)⟩
theorem s_RX : RX_ sX sP (fun _ => 0) 0 0 := ⟨fun i j h1 h2 h3 => s_out (by omega) (by omega) (by omega) (by omega), fun c h1 h2 => s_out (by omega) (by omega) (by omega) (by omega), fun o h1 h2 => s_out (by omega) (by omega) (by omega) (by omega)⟩
theorem s_fix : ∀ k, k < 88 → fixC k = true → k ∈ sX := by decide +kernel
theorem s_inM : ∀ k, k < 150 → inM k = true → k ∈ sX := by decide +kernel
theorem s_inP : ∀ j, j < 49 → inM (101 + j) = true → sP 100 j = some (101 + j) := by decide +kernel
theorem s_RM : RM sX sP := by
  refine ⟨fun k hk => ?_, fun j hj => ?_⟩
  · refine s_inM k ?_ hk
    unfold inM at hk
    simp only [Bool.or_eq_true, Bool.and_eq_true, decide_eq_true_eq] at hk
    omega
  · refine s_inP j ?_ hj
    unfold inM at hj
    simp only [Bool.or_eq_true, Bool.and_eq_true, decide_eq_true_eq] at hj
    omega
theorem s_p0 : ∀ j, j < 10 → sP 0 j = some (([1, 2, 7, 11, 52, 69, 76, 79, 80, 83] : List Nat).getD j 0) := by decide +kernel
theorem s_p1 : (∀ i, i < 4 → sP 2 i = some (3 + i)) ∧ (∀ i, i < 3 → sP 7 i = some (8 + i)) ∧ (∀ i, i < 4 → sP 11 i = some (12 + i)) ∧ (∀ i, i < 4 → sP (12 + i) 0 = some (16 + i)) := by decide +kernel
theorem s_p2 : ∀ i, i < 4 → ∀ j, j < 8 → sP (16 + i) j = none := by decide +kernel
theorem s_p3 : (∀ c, c < 16 → sP 52 c = none) ∧ (∀ o, o < 6 → sP 69 o = none) := by decide +kernel
theorem s_p4 : sP 76 0 = some 77 ∧ sP 76 1 = some 78 ∧ sP 79 0 = some 1 ∧ sP 80 0 = some 79 ∧ sP 80 1 = some 81 ∧ sP 80 2 = some 82 ∧ ∀ j, j < 4 → sP 83 j = some (84 + j) := by decide +kernel
theorem s_RC : RC sX sP (fun _ => 0) 0 0 (fun _ => 0) (fun _ => 0) := by
  refine ⟨⟨fun k hk => s_fix k ?_ hk, fun i j _ h => absurd h (Nat.not_lt_zero _), fun c h => absurd h (Nat.not_lt_zero _), fun o h => absurd h (Nat.not_lt_zero _)⟩, ⟨s_p0, s_p1⟩, ⟨fun i j h1 h2 => ?_, fun c hc => ?_, fun o ho => ?_⟩, ⟨fun c h => absurd h (Nat.not_lt_zero _), fun o h => absurd h (Nat.not_lt_zero _)⟩, s_p4, fun _ _ => Nat.zero_le _, by omega, by omega, fun c h => absurd h (Nat.not_lt_zero _), fun o h => absurd h (Nat.not_lt_zero _)⟩
  · unfold fixC at hk
    simp only [Bool.or_eq_true, Bool.and_eq_true, decide_eq_true_eq] at hk
    omega
  · rw [if_neg (Nat.not_lt_zero _)]; exact s_p2 i h1 j h2
  · rw [if_neg (Nat.not_lt_zero _)]; exact s_p3.1 c hc
  · rw [if_neg (Nat.not_lt_zero _)]; exact s_p3.2 o ho
def okF (F : tF) (k j : Nat) : Bool := match locF k j with
  | some p => decide (F p.1 p.2 = F k j)
  | none => true
def okG (G : tG) (k j : Nat) : Bool := match locG k j with
  | some p => decide (G p.1 p.2 = G k j)
  | none => true
theorem s_okF : ∀ k, k < 28 → ∀ j, j < 36 → okF sF (100 + k) j = true := by decide +kernel
theorem s_okG : ∀ k, k < 19 → ∀ j, j < 36 → okG sG (100 + k) j = true := by decide +kernel
theorem loc_b {k j a b : Nat} (h : locF k j = some (a, b)) : 100 ≤ k ∧ k < 128 ∧ j < 36 := by
  rcases locF_d h with d | d | d | d | d | d | d | d | d | d | d | d | d | d <;> omega
theorem s_v : vF sF = rF sF := Rel_loc fun k j a b hl => by
  obtain ⟨h1, h2, h3⟩ := loc_b hl
  have := s_okF (k - 100) (by omega) j h3
  rw [show 100 + (k - 100) = k by omega] at this
  unfold okF at this
  rw [hl] at this
  exact of_decide_eq_true this
theorem s_vg : vG sG = rG sG := RelG_loc fun k j a b hl => by
  have d := locG_d hl
  have := s_okG (k - 100) (by omega) j (by omega)
  rw [show 100 + (k - 100) = k by omega] at this
  unfold okG at this
  rw [hl] at this
  exact of_decide_eq_true this
theorem s_M : ∀ i, i < 4 → sF 101 i = 100 ∧ sF 102 i = 100 ∧ sF 103 i = 60 ∧ sF 104 i = 10 ∧ sF 105 i = 5 := by decide +kernel
theorem s_S : sF 106 0 = 20 ∧ sF 106 1 = 80 ∧ sF 106 2 = 10 ∧ sF 106 3 = 60 ∧ sF 106 4 = 2 ∧ sF 106 5 = 5 := by decide +kernel
theorem s_P : ∀ i, i < 3 → sF 107 i = 0 ∧ sF 108 i = 10 := by decide +kernel
theorem s_c : sF 100 13 = 0 ∧ sF 100 21 = 0 ∧ sF 100 27 = 0 ∧ ∀ i, i < 4 → sF 110 i = 0 := by decide +kernel
theorem s_x : (sF 8 0 = 1 ∧ sF 9 0 = 0 ∧ sF 10 0 = 0) ∧ (∀ i, i < 4 → sF (3 + i) 0 = nI i) ∧ ∀ b, b < 8 → sF 77 b = 0 ∧ sF 78 b = 0 := by decide +kernel
theorem s_RS : RS sF sG (fun _ => 0) 0 0 0 (fun _ => 0) (fun _ => 0) := by
  refine ⟨⟨fun i hi => ?_, ?_, fun i hi => ?_, fun i j _ h => absurd h (Nat.not_lt_zero _), fun c h => absurd h (Nat.not_lt_zero _), Nat.zero_le _, by omega, fun _ _ => Nat.zero_le _, fun c h => absurd h (Nat.not_lt_zero _)⟩, fun o h => absurd h (Nat.not_lt_zero _), ⟨s_c.1, s_c.2.1, s_c.2.2.1, s_c.2.2.2⟩, ⟨fun c h => absurd h (Nat.not_lt_zero _), fun o h => absurd h (Nat.not_lt_zero _)⟩, fun k h => absurd h (Nat.not_lt_zero _), by omega, by omega⟩
  · obtain ⟨e1, e2, e3, e4, e5⟩ := s_M i hi
    exact ⟨⟨100, by omega, by omega, e1⟩, ⟨100, by omega, by omega, e2⟩, ⟨60, by omega, by omega, e3⟩, ⟨10, by omega, by omega, e4⟩, ⟨5, by omega, by omega, e5⟩⟩
  · obtain ⟨e1, e2, e3, e4, e5, e6⟩ := s_S
    exact ⟨⟨20, by omega, by omega, e1⟩, ⟨80, by omega, by omega, e2⟩, ⟨10, by omega, by omega, e3⟩, ⟨60, by omega, by omega, e4⟩, ⟨2, by omega, by omega, e5⟩, ⟨5, by omega, by omega, e6⟩⟩
  · obtain ⟨e1, e2⟩ := s_P i hi
    exact ⟨⟨0, by omega, by omega, e1⟩, ⟨10, by omega, by omega, e2⟩⟩
theorem s_LI : LI sX sF sG sP (fun _ => 0) 0 0 0 (fun _ => 0) (fun _ => 0) := ⟨s_RC, s_RM, s_RX, ⟨s_v, s_vg⟩, s_RS, s_x.1, s_x.2.1, s_x.2.2⟩
