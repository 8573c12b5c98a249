/-! THE CLASS'S CELLS AS THE REFERENCE HAS THEM -/
/-- where the class keeps what the reference keeps at (k, j) -/
def locF (k j : Nat) : Option (Nat × Nat) :=
  if k = 100 then (if j = 13 then some (0, 10) else if j = 21 then some (0, 11) else if j = 27 then some (76, 2) else if j = 34 then some (0, 17) else if j = 35 then some (0, 18) else none)
  else if 101 ≤ k ∧ k ≤ 105 then (if j < 4 then some (3 + j, k - 100) else none)
  else if k = 106 then (if j < 6 then some (1, j) else none)
  else if 107 ≤ k ∧ k ≤ 109 then (if j < 3 then some (8 + j, k - 106) else if k = 109 ∧ j = 3 then some (0, 12) else none)
  else if k = 110 then (if j < 4 then some (12 + j, 1) else none)
  else if 111 ≤ k ∧ k ≤ 113 then (if j < 32 then some (20 + j, k - 111) else none)
  else if 116 ≤ k ∧ k ≤ 117 then (if j < 16 then some (53 + j, k - 115) else none)
  else if 119 ≤ k ∧ k ≤ 121 then (if j < 16 then some (53 + j, k - 115) else none)
  else if 124 ≤ k ∧ k ≤ 127 then (if j < 6 then some (70 + j, k - 123) else none)
  else none
def invF (a b : Nat) : Nat × Nat :=
  if a = 0 then (if b = 10 then (100, 13) else if b = 11 then (100, 21) else if b = 17 then (100, 34) else if b = 18 then (100, 35) else (109, 3))
  else if a = 1 then (106, b)
  else if a < 8 then (100 + b, a - 3)
  else if a < 12 then (106 + b, a - 8)
  else if a < 20 then (110, a - 12)
  else if a < 53 then (111 + b, a - 20)
  else if a < 70 then (115 + b, a - 53)
  else if a < 76 then (123 + b, a - 70)
  else (100, 27)
theorem locF_inv {k j a b : Nat} (h : locF k j = some (a, b)) : invF a b = (k, j) ∧ a < 77 ∧ 100 ≤ k := by
  unfold locF at h
  repeat' split at h
  all_goals first | (cases h; done) | skip
  all_goals
    simp only [Option.some.injEq, Prod.mk.injEq] at h
    obtain ⟨h1, h2⟩ := h
    subst h1
    subst h2
    unfold invF
    refine ⟨?_, by omega, by omega⟩
    repeat' split
    all_goals first | omega | (simp only [Prod.mk.injEq]; omega) | (simp; omega) | (simp; done) | rfl
def vF (F : tF) : tF := fun k j => match locF k j with
  | some p => F p.1 p.2
  | none => if k < 100 then 0 else F k j
def rF (F : tF) : tF := fun k j => if k < 100 then 0 else F k j
def locG (k j : Nat) : Option (Nat × Nat) :=
  if k = 100 then (if 30 ≤ j ∧ j ≤ 33 then some (0, j - 17) else none)
  else if k = 118 then (if j < 16 then some (53 + j, 3) else none)
  else none
def invG (a b : Nat) : Nat × Nat := if a = 0 then (100, b + 17) else (118, a - 53)
theorem locG_inv {k j a b : Nat} (h : locG k j = some (a, b)) : invG a b = (k, j) ∧ a < 77 ∧ 100 ≤ k := by
  unfold locG at h
  repeat' split at h
  all_goals first | (cases h; done) | skip
  all_goals
    simp only [Option.some.injEq, Prod.mk.injEq] at h
    obtain ⟨h1, h2⟩ := h
    subst h1
    subst h2
    unfold invG
    refine ⟨?_, by omega, by omega⟩
    repeat' split
    all_goals first | omega | (simp only [Prod.mk.injEq]; omega) | (simp; omega) | (simp; done) | rfl
def vG (G : tG) : tG := fun k j => match locG k j with
  | some p => G p.1 p.2
  | none => if k < 100 then 0 else G k j
def rG (G : tG) : tG := fun k j => if k < 100 then 0 else G k j
theorem vF_at {k j a b : Nat} (h : locF k j = some (a, b)) (F : tF) : vF F k j = F a b := by simp [vF, h]
theorem vG_at {k j a b : Nat} (h : locG k j = some (a, b)) (G : tG) : vG G k j = G a b := by simp [vG, h]
theorem vF_up {k j a b : Nat} (h : locF k j = some (a, b)) (F : tF) (v : Int32) : vF (uF F a b v) = uF (vF F) k j v := by
  obtain ⟨h1, h2, h3⟩ := locF_inv h
  funext k' j'
  cases hl : locF k' j' with
  | none =>
    have hne : k' ≠ k ∨ j' ≠ j := by
      by_cases e : k' = k
      · right
        intro e2
        subst e; subst e2
        rw [h] at hl
        cases hl
      · exact Or.inl e
    rw [uF_n _ _ hne]
    simp only [vF, hl]
    by_cases hk : k' < 100
    · simp [hk]
    · simp only [hk, if_false]
      exact uF_n _ _ (Or.inl (by omega))
  | some p =>
    obtain ⟨a', b'⟩ := p
    by_cases e : a' = a ∧ b' = b
    · obtain ⟨e1, e2⟩ := e
      subst e1; subst e2
      have h4 := (locF_inv hl).1
      rw [h1] at h4
      simp only [Prod.mk.injEq] at h4
      obtain ⟨rfl, rfl⟩ := h4
      rw [vF_at hl, uF_s, uF_s]
    · have hne : k' ≠ k ∨ j' ≠ j := by
        by_cases e1 : k' = k
        · right
          intro e2
          subst e1; subst e2
          rw [h] at hl
          simp only [Option.some.injEq, Prod.mk.injEq] at hl
          exact e ⟨hl.1.symm, hl.2.symm⟩
        · exact Or.inl e1
      rw [uF_n _ _ hne, vF_at hl, vF_at hl]
      exact uF_n _ _ (by by_cases q : a' = a; exact Or.inr (fun q2 => e ⟨q, q2⟩); exact Or.inl q)
theorem vG_up {k j a b : Nat} (h : locG k j = some (a, b)) (G : tG) (v : Int64) : vG (uG G a b v) = uG (vG G) k j v := by
  obtain ⟨h1, h2, h3⟩ := locG_inv h
  funext k' j'
  cases hl : locG k' j' with
  | none =>
    have hne : k' ≠ k ∨ j' ≠ j := by
      by_cases e : k' = k
      · right
        intro e2
        subst e; subst e2
        rw [h] at hl
        cases hl
      · exact Or.inl e
    rw [uG_n _ _ hne]
    simp only [vG, hl]
    by_cases hk : k' < 100
    · simp [hk]
    · simp only [hk, if_false]
      exact uG_n _ _ (Or.inl (by omega))
  | some p =>
    obtain ⟨a', b'⟩ := p
    by_cases e : a' = a ∧ b' = b
    · obtain ⟨e1, e2⟩ := e
      subst e1; subst e2
      have h4 := (locG_inv hl).1
      rw [h1] at h4
      simp only [Prod.mk.injEq] at h4
      obtain ⟨rfl, rfl⟩ := h4
      rw [vG_at hl, uG_s, uG_s]
    · have hne : k' ≠ k ∨ j' ≠ j := by
        by_cases e1 : k' = k
        · right
          intro e2
          subst e1; subst e2
          rw [h] at hl
          simp only [Option.some.injEq, Prod.mk.injEq] at hl
          exact e ⟨hl.1.symm, hl.2.symm⟩
        · exact Or.inl e1
      rw [uG_n _ _ hne, vG_at hl, vG_at hl]
      exact uG_n _ _ (by by_cases q : a' = a; exact Or.inr (fun q2 => e ⟨q, q2⟩); exact Or.inl q)
/-- cells that the reference doesn't have -/
theorem vF_skip {a : Nat} (ha : 77 ≤ a) (ha2 : a < 100) (F F1 : tF) (h : ∀ k, k ≠ a → F1 k = F k) : vF F1 = vF F := by
  funext k j
  cases hl : locF k j with
  | none =>
    simp only [vF, hl]
    by_cases hk : k < 100
    · simp [hk]
    · simp only [hk, if_false]
      rw [h k (by omega)]
  | some p =>
    obtain ⟨a', b'⟩ := p
    have := (locF_inv hl).2.1
    rw [vF_at hl, vF_at hl, h a' (by omega)]
/-- places by number -/
theorem lc_metal {i t : Nat} (hi : i < 4) (ht : t < 5) : locF (101 + t) i = some (3 + i, 1 + t) := by
  unfold locF
  simp only [show ¬ 101 + t = 100 by omega, show 101 ≤ 101 + t ∧ 101 + t ≤ 105 from ⟨by omega, by omega⟩, hi, and_self, if_true, if_false]
  rw [show 101 + t - 100 = 1 + t by omega]
theorem lc_set {j : Nat} (hj : j < 6) : locF 106 j = some (1, j) := by simp [locF, hj]
theorem lc_puller {i t : Nat} (hi : i < 3) (ht : t < 3) : locF (107 + t) i = some (8 + i, 1 + t) := by
  unfold locF
  simp only [show ¬ 107 + t = 100 by omega, show ¬ (101 ≤ 107 + t ∧ 107 + t ≤ 105) by omega, show ¬ 107 + t = 106 by omega, show 107 ≤ 107 + t ∧ 107 + t ≤ 109 from ⟨by omega, by omega⟩, hi, and_self, if_true, if_false]
  rw [show 107 + t - 106 = 1 + t by omega]
theorem lc_plate {i : Nat} (hi : i < 4) : locF 110 i = some (12 + i, 1) := by simp [locF, hi]
theorem lc_hole {q t : Nat} (hq : q < 32) (ht : t < 3) : locF (111 + t) q = some (20 + q, t) := by
  unfold locF
  simp only [show ¬ 111 + t = 100 by omega, show ¬ (101 ≤ 111 + t ∧ 111 + t ≤ 105) by omega, show ¬ 111 + t = 106 by omega, show ¬ (107 ≤ 111 + t ∧ 111 + t ≤ 109) by omega, show ¬ 111 + t = 110 by omega, show 111 ≤ 111 + t ∧ 111 + t ≤ 113 from ⟨by omega, by omega⟩, hq, and_self, if_true, if_false]
  rw [show 111 + t - 111 = t by omega]
theorem lc_c1 {c : Nat} (h : c < 16) : locF 116 c = some (53 + c, 1) := by simp [locF, h]
theorem lc_c2 {c : Nat} (h : c < 16) : locF 117 c = some (53 + c, 2) := by simp [locF, h]
theorem lc_c4 {c : Nat} (h : c < 16) : locF 119 c = some (53 + c, 4) := by simp [locF, h]
theorem lc_c5 {c : Nat} (h : c < 16) : locF 120 c = some (53 + c, 5) := by simp [locF, h]
theorem lc_c6 {c : Nat} (h : c < 16) : locF 121 c = some (53 + c, 6) := by simp [locF, h]
theorem lc_c3 {c : Nat} (h : c < 16) : locG 118 c = some (53 + c, 3) := by simp [locG, h]
theorem lc_o1 {o : Nat} (h : o < 6) : locF 124 o = some (70 + o, 1) := by simp [locF, h]
theorem lc_o2 {o : Nat} (h : o < 6) : locF 125 o = some (70 + o, 2) := by simp [locF, h]
theorem lc_o3 {o : Nat} (h : o < 6) : locF 126 o = some (70 + o, 3) := by simp [locF, h]
theorem lc_o4 {o : Nat} (h : o < 6) : locF 127 o = some (70 + o, 4) := by simp [locF, h]
/-- THE CLASS'S SHAPE: which places there are, and where their references point -/
def fixC (k : Nat) : Bool := decide (k < 20) || decide (k = 52) || decide (k = 69) || (decide (76 ≤ k) && decide (k < 88))
def RC (X : List Nat) (P : tP) (nh : Nat → Nat) (nc no : Nat) (mt om : Nat → Nat) : Prop :=
  ((∀ k, fixC k = true → k ∈ X) ∧ (∀ i j, i < 4 → j < nh i → 20 + (8 * i + j) ∈ X) ∧ (∀ c, c < nc → 53 + c ∈ X) ∧ (∀ o, o < no → 70 + o ∈ X)) ∧
  ((∀ j, j < 10 → P 0 j = some (([1, 2, 7, 11, 52, 69, 76, 79, 80, 83] : List Nat).getD j 0)) ∧ (∀ i, i < 4 → P 2 i = some (3 + i)) ∧ (∀ i, i < 3 → P 7 i = some (8 + i)) ∧ (∀ i, i < 4 → P 11 i = some (12 + i)) ∧ (∀ i, i < 4 → P (12 + i) 0 = some (16 + i))) ∧
  ((∀ i j, i < 4 → j < 8 → P (16 + i) j = if j < nh i then some (20 + (8 * i + j)) else none) ∧ (∀ c, c < 16 → P 52 c = if c < nc then some (53 + c) else none) ∧ (∀ o, o < 6 → P 69 o = if o < no then some (70 + o) else none)) ∧
  ((∀ c, c < nc → P (53 + c) 0 = some (3 + mt c)) ∧ (∀ o, o < no → P (70 + o) 0 = some (3 + om o))) ∧
  (P 76 0 = some 77 ∧ P 76 1 = some 78 ∧ P 79 0 = some 1 ∧ P 80 0 = some 79 ∧ P 80 1 = some 81 ∧ P 80 2 = some 82 ∧ ∀ j, j < 4 → P 83 j = some (84 + j)) ∧
  ((∀ i, i < 4 → nh i ≤ 8) ∧ nc ≤ 16 ∧ no ≤ 6 ∧ (∀ c, c < nc → mt c < 4) ∧ ∀ o, o < no → om o < 4)
section RCL
variable {X : List Nat} {P : tP} {nh : Nat → Nat} {nc no : Nat} {mt om : Nat → Nat}
theorem RC.f (h : RC X P nh nc no mt om) {k : Nat} (hk : fixC k = true) : k ∈ X := h.1.1 k hk
theorem RC.xm (h : RC X P nh nc no mt om) {i : Nat} (hi : i < 4) : 3 + i ∈ X := h.1.1 _ (by simp [fixC]; omega)
theorem RC.xp (h : RC X P nh nc no mt om) {i : Nat} (hi : i < 3) : 8 + i ∈ X := h.1.1 _ (by simp [fixC]; omega)
theorem RC.xl (h : RC X P nh nc no mt om) {i : Nat} (hi : i < 4) : 12 + i ∈ X := h.1.1 _ (by simp [fixC]; omega)
theorem RC.xa (h : RC X P nh nc no mt om) {i : Nat} (hi : i < 4) : 16 + i ∈ X := h.1.1 _ (by simp [fixC]; omega)
theorem RC.xh (h : RC X P nh nc no mt om) {i j : Nat} (hi : i < 4) (hj : j < nh i) : 20 + (8 * i + j) ∈ X := h.1.2.1 i j hi hj
theorem RC.xc (h : RC X P nh nc no mt om) {c : Nat} (hc : c < nc) : 53 + c ∈ X := h.1.2.2.1 c hc
theorem RC.xo (h : RC X P nh nc no mt om) {o : Nat} (ho : o < no) : 70 + o ∈ X := h.1.2.2.2 o ho
theorem RC.p0 (h : RC X P nh nc no mt om) (j : Nat) (hj : j < 10) : P 0 j = some (([1, 2, 7, 11, 52, 69, 76, 79, 80, 83] : List Nat).getD j 0) := h.2.1.1 j hj
theorem RC.pm (h : RC X P nh nc no mt om) {i : Nat} (hi : i < 4) : P 2 i = some (3 + i) := h.2.1.2.1 i hi
theorem RC.pp (h : RC X P nh nc no mt om) {i : Nat} (hi : i < 3) : P 7 i = some (8 + i) := h.2.1.2.2.1 i hi
theorem RC.pl (h : RC X P nh nc no mt om) {i : Nat} (hi : i < 4) : P 11 i = some (12 + i) := h.2.1.2.2.2.1 i hi
theorem RC.pa (h : RC X P nh nc no mt om) {i : Nat} (hi : i < 4) : P (12 + i) 0 = some (16 + i) := h.2.1.2.2.2.2 i hi
theorem RC.ph (h : RC X P nh nc no mt om) {i j : Nat} (hi : i < 4) (hj : j < 8) : P (16 + i) j = if j < nh i then some (20 + (8 * i + j)) else none := h.2.2.1.1 i j hi hj
theorem RC.pc (h : RC X P nh nc no mt om) {c : Nat} (hc : c < 16) : P 52 c = if c < nc then some (53 + c) else none := h.2.2.1.2.1 c hc
theorem RC.po (h : RC X P nh nc no mt om) {o : Nat} (ho : o < 6) : P 69 o = if o < no then some (70 + o) else none := h.2.2.1.2.2 o ho
theorem RC.cm (h : RC X P nh nc no mt om) {c : Nat} (hc : c < nc) : P (53 + c) 0 = some (3 + mt c) := h.2.2.2.1.1 c hc
theorem RC.om_ (h : RC X P nh nc no mt om) {o : Nat} (ho : o < no) : P (70 + o) 0 = some (3 + om o) := h.2.2.2.1.2 o ho
theorem RC.q76 (h : RC X P nh nc no mt om) : P 76 0 = some 77 := h.2.2.2.2.1.1
theorem RC.q76b (h : RC X P nh nc no mt om) : P 76 1 = some 78 := h.2.2.2.2.1.2.1
theorem RC.q79 (h : RC X P nh nc no mt om) : P 79 0 = some 1 := h.2.2.2.2.1.2.2.1
theorem RC.q80 (h : RC X P nh nc no mt om) : P 80 0 = some 79 := h.2.2.2.2.1.2.2.2.1
theorem RC.q81 (h : RC X P nh nc no mt om) : P 80 1 = some 81 := h.2.2.2.2.1.2.2.2.2.1
theorem RC.q82 (h : RC X P nh nc no mt om) : P 80 2 = some 82 := h.2.2.2.2.1.2.2.2.2.2.1
theorem RC.q83 (h : RC X P nh nc no mt om) (j : Nat) (hj : j < 4) : P 83 j = some (84 + j) := h.2.2.2.2.1.2.2.2.2.2.2 j hj
theorem RC.nh8 (h : RC X P nh nc no mt om) {i : Nat} (hi : i < 4) : nh i ≤ 8 := h.2.2.2.2.2.1 i hi
theorem RC.nc16 (h : RC X P nh nc no mt om) : nc ≤ 16 := h.2.2.2.2.2.2.1
theorem RC.no6 (h : RC X P nh nc no mt om) : no ≤ 6 := h.2.2.2.2.2.2.2.1
theorem RC.mt4 (h : RC X P nh nc no mt om) {c : Nat} (hc : c < nc) : mt c < 4 := h.2.2.2.2.2.2.2.2.1 c hc
theorem RC.om4 (h : RC X P nh nc no mt om) {o : Nat} (ho : o < no) : om o < 4 := h.2.2.2.2.2.2.2.2.2 o ho
end RCL
