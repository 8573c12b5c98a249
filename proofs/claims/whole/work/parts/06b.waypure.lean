/-! WAYS: the least price from a place and a hardness; a price is 100 for a fire, 1 for a draw -/
/-- which draws may be (place, hardness, hole), how hard the wire is then, which places are wanted -/
abbrev wT : Type := (Nat → Nat → Nat → Bool) × (Nat → Nat → Nat → Nat) × (Nat → Bool)
def lsH (w : wT) (g : Nat → Nat → Nat) (pl h : Nat) : Nat → Nat
  | 0 => 900000
  | k + 1 => if w.1 pl h k = true then min (lsH w g pl h k) ((g (k + 1) (w.2.1 pl h k) + 1) * 9 + k) else lsH w g pl h k
def lsA (w : wT) (g : Nat → Nat → Nat) (pl h : Nat) : Nat := if 0 < h then min (lsH w g pl h 8) ((g pl 0 + 100) * 9 + 8) else lsH w g pl h 8
def prc (w : wT) : Nat → Nat → Nat → Nat
  | 0, _, _ => 100000
  | f + 1, pl, h => if w.2.2 pl = true then 0 else lsA w (prc w f) pl h / 9
/-- every step lessens the rank -/
def WS (w : wT) (rk : Nat → Nat → Nat) (N : Nat) : Prop := N ≤ 8 ∧ (∀ pl h n, pl ≤ N → h ≤ 100 → w.1 pl h n = true → n < N ∧ w.2.1 pl h n ≤ 100 ∧ rk (n + 1) (w.2.1 pl h n) < rk pl h) ∧ (∀ pl h, pl ≤ N → h ≤ 100 → 0 < h → rk pl 0 < rk pl h) ∧ ∀ pl h, rk pl h ≤ 17
theorem lsH_congr {w : wT} {g g' : Nat → Nat → Nat} {pl h : Nat} (e : ∀ k, w.1 pl h k = true → g (k + 1) (w.2.1 pl h k) = g' (k + 1) (w.2.1 pl h k)) : ∀ m, lsH w g pl h m = lsH w g' pl h m
  | 0 => rfl
  | k + 1 => by
    simp only [lsH, lsH_congr e k]
    by_cases hk : w.1 pl h k = true
    · rw [e k hk]
    · simp [hk]
theorem lsA_congr {w : wT} {g g' : Nat → Nat → Nat} {pl h : Nat} (e : ∀ k, w.1 pl h k = true → g (k + 1) (w.2.1 pl h k) = g' (k + 1) (w.2.1 pl h k)) (e0 : 0 < h → g pl 0 = g' pl 0) : lsA w g pl h = lsA w g' pl h := by
  unfold lsA
  rw [lsH_congr e 8]
  by_cases h0 : 0 < h
  · rw [e0 h0]
  · simp [h0]
theorem prc_fuel {w : wT} {rk : Nat → Nat → Nat} {N : Nat} (hS : WS w rk N) : ∀ r pl h, pl ≤ N → h ≤ 100 → rk pl h < r → ∀ f f', r ≤ f → r ≤ f' → prc w f pl h = prc w f' pl h
  | 0, pl, h, _, _, hr, _, _, _, _ => absurd hr (Nat.not_lt_zero _)
  | r + 1, pl, h, hp, hh, hr, f, f', h1, h2 => by
    obtain ⟨f, rfl⟩ := Nat.exists_eq_succ_of_ne_zero (show f ≠ 0 by omega)
    obtain ⟨f', rfl⟩ := Nat.exists_eq_succ_of_ne_zero (show f' ≠ 0 by omega)
    simp only [prc]
    rw [lsA_congr (g := prc w f) (g' := prc w f') (fun k hk => ?_) (fun h0 => ?_)]
    · have hq := hS.2.1 pl h k hp hh hk
      exact prc_fuel hS r (k + 1) _ (by omega) hq.2.1 (by omega) f f' (by omega) (by omega)
    · have hq := hS.2.2.1 pl h hp hh h0
      exact prc_fuel hS r pl 0 hp (by omega) (by omega) f f' (by omega) (by omega)
def pr (w : wT) : Nat → Nat → Nat := prc w 18
theorem pr_eq {w : wT} {rk : Nat → Nat → Nat} {N : Nat} (hS : WS w rk N) {pl h : Nat} (hp : pl ≤ N) (hh : h ≤ 100) : pr w pl h = if w.2.2 pl = true then 0 else lsA w (pr w) pl h / 9 := by
  have e : lsA w (prc w 17) pl h = lsA w (prc w 18) pl h := by
    have h17 := hS.2.2.2 pl h
    refine lsA_congr (fun k hk => ?_) (fun h0 => ?_)
    · have hq := hS.2.1 pl h k hp hh hk
      exact prc_fuel hS 17 (k + 1) _ (by omega) hq.2.1 (by omega) 17 18 (by omega) (by omega)
    · have hq := hS.2.2.1 pl h hp hh h0
      exact prc_fuel hS 17 pl 0 hp (by omega) (by omega) 17 18 (by omega) (by omega)
  show prc w (17 + 1) pl h = _
  rw [show pr w = prc w 18 from rfl, ← e]
  rfl
theorem pr_th {w : wT} {rk : Nat → Nat → Nat} {N : Nat} (hS : WS w rk N) {pl h : Nat} (hp : pl ≤ N) (hh : h ≤ 100) (ht : w.2.2 pl = true) : pr w pl h = 0 := by rw [pr_eq hS hp hh, if_pos ht]
theorem pr_nt {w : wT} {rk : Nat → Nat → Nat} {N : Nat} (hS : WS w rk N) {pl h : Nat} (hp : pl ≤ N) (hh : h ≤ 100) (ht : ¬ w.2.2 pl = true) : pr w pl h = lsA w (pr w) pl h / 9 := by
  have := pr_eq hS hp hh
  rwa [if_neg ht] at this
theorem lsH_cases (w : wT) (g : Nat → Nat → Nat) (pl h : Nat) : ∀ m, lsH w g pl h m ≤ 900000 ∧ (lsH w g pl h m = 900000 ∨ ∃ k, k < m ∧ w.1 pl h k = true ∧ lsH w g pl h m = (g (k + 1) (w.2.1 pl h k) + 1) * 9 + k)
  | 0 => ⟨Nat.le_refl _, Or.inl rfl⟩
  | m + 1 => by
    obtain ⟨h1, h2⟩ := lsH_cases w g pl h m
    simp only [lsH]
    by_cases hk : w.1 pl h m = true
    · simp only [hk, if_true]
      rcases Nat.le_total (lsH w g pl h m) ((g (m + 1) (w.2.1 pl h m) + 1) * 9 + m) with q | q
      · rw [Nat.min_eq_left q]
        refine ⟨h1, ?_⟩
        rcases h2 with h2 | ⟨k, a, b, c⟩
        · exact Or.inl h2
        · exact Or.inr ⟨k, by omega, b, c⟩
      · rw [Nat.min_eq_right q]
        exact ⟨by omega, Or.inr ⟨m, by omega, hk, rfl⟩⟩
    · simp only [hk, if_false, Bool.false_eq_true]
      refine ⟨h1, ?_⟩
      rcases h2 with h2 | ⟨k, a, b, c⟩
      · exact Or.inl h2
      · exact Or.inr ⟨k, by omega, b, c⟩
theorem lsH_mod (w : wT) (g : Nat → Nat → Nat) (pl h : Nat) {m : Nat} (hm : m ≤ 8) : lsH w g pl h m % 9 ≤ m := by
  obtain ⟨h1, h2⟩ := lsH_cases w g pl h m
  rcases h2 with h2 | ⟨k, a, b, c⟩
  · rw [h2]; omega
  · rw [c]; omega
theorem lsA_cases (w : wT) (g : Nat → Nat → Nat) (pl h : Nat) : lsA w g pl h ≤ 900000 ∧ (lsA w g pl h = 900000 ∨ (∃ k, k < 8 ∧ w.1 pl h k = true ∧ lsA w g pl h = (g (k + 1) (w.2.1 pl h k) + 1) * 9 + k) ∨ (0 < h ∧ lsA w g pl h = (g pl 0 + 100) * 9 + 8)) := by
  obtain ⟨h1, h2⟩ := lsH_cases w g pl h 8
  unfold lsA
  have h3 : lsH w g pl h 8 = 900000 ∨ (∃ k, k < 8 ∧ w.1 pl h k = true ∧ lsH w g pl h 8 = (g (k + 1) (w.2.1 pl h k) + 1) * 9 + k) ∨ (0 < h ∧ lsH w g pl h 8 = (g pl 0 + 100) * 9 + 8) := by
    rcases h2 with h2 | h2
    · exact Or.inl h2
    · exact Or.inr (Or.inl h2)
  by_cases h0 : 0 < h
  · simp only [h0, if_true]
    rcases Nat.le_total (lsH w g pl h 8) ((g pl 0 + 100) * 9 + 8) with q | q
    · rw [Nat.min_eq_left q]
      refine ⟨h1, ?_⟩
      rcases h2 with h2 | h2
      · exact Or.inl h2
      · exact Or.inr (Or.inl h2)
    · rw [Nat.min_eq_right q]
      exact ⟨by omega, Or.inr (Or.inr ⟨trivial, rfl⟩)⟩
  · simp only [h0, if_false]
    refine ⟨h1, ?_⟩
    rcases h2 with h2 | h2
    · exact Or.inl h2
    · exact Or.inr (Or.inl h2)
theorem lsA_mod (w : wT) (g : Nat → Nat → Nat) (pl h : Nat) : lsA w g pl h % 9 ≤ 8 := by omega
theorem pr_bd {w : wT} {rk : Nat → Nat → Nat} {N : Nat} (hS : WS w rk N) : ∀ r pl h, pl ≤ N → h ≤ 100 → rk pl h < r → pr w pl h ≤ 100000 ∧ (pr w pl h = 100000 ∨ pr w pl h / 100 + pr w pl h % 100 ≤ rk pl h)
  | 0, pl, h, _, _, hr => absurd hr (Nat.not_lt_zero _)
  | r + 1, pl, h, hp, hh, hr => by
    by_cases ht : w.2.2 pl = true
    · rw [pr_th hS hp hh ht]
      exact ⟨by omega, Or.inr (by omega)⟩
    · have e := pr_nt hS hp hh ht
      obtain ⟨h1, h2⟩ := lsA_cases w (pr w) pl h
      rcases h2 with h2 | ⟨k, a, b, c⟩ | ⟨h0, c⟩
      · rw [e, h2]
        exact ⟨by omega, Or.inl (by omega)⟩
      · have hq := hS.2.1 pl h k hp hh b
        have ih := pr_bd hS r (k + 1) _ (by omega) hq.2.1 (by omega)
        have e2 : pr w pl h = pr w (k + 1) (w.2.1 pl h k) + 1 := by rw [e, c]; omega
        refine ⟨by omega, ?_⟩
        omega
      · have hq := hS.2.2.1 pl h hp hh h0
        have ih := pr_bd hS r pl 0 hp (by omega) (by omega)
        have e2 : pr w pl h = pr w pl 0 + 100 := by rw [e, c]; omega
        refine ⟨by omega, ?_⟩
        omega
theorem pr_b {w : wT} {rk : Nat → Nat → Nat} {N : Nat} (hS : WS w rk N) {pl h : Nat} (hp : pl ≤ N) (hh : h ≤ 100) : pr w pl h ≤ 100000 ∧ (pr w pl h = 100000 ∨ pr w pl h / 100 + pr w pl h % 100 ≤ 17) ∧ pr w pl h % 100 ≤ 17 := by
  have h1 := pr_bd hS 18 pl h hp hh (by have := hS.2.2.2 pl h; omega)
  have h2 := hS.2.2.2 pl h
  refine ⟨h1.1, by omega, ?_⟩
  rcases h1.2 with q | q
  · rw [q]; omega
  · omega
/-- the first step of the best way -/
def nxt (w : wT) (pl h : Nat) : Nat := lsA w (pr w) pl h % 9
theorem nxt_le (w : wT) (pl h : Nat) : nxt w pl h ≤ 8 := lsA_mod w (pr w) pl h
theorem nxt_k {w : wT} {rk : Nat → Nat → Nat} {N : Nat} (hS : WS w rk N) {pl h : Nat} (hp : pl ≤ N) (hh : h ≤ 100) (ht : ¬ w.2.2 pl = true) (hf : pr w pl h < 100000) : (nxt w pl h < 8 ∧ w.1 pl h (nxt w pl h) = true ∧ pr w (nxt w pl h + 1) (w.2.1 pl h (nxt w pl h)) + 1 = pr w pl h) ∨ (nxt w pl h = 8 ∧ 0 < h ∧ pr w pl 0 + 100 = pr w pl h) := by
  have e := pr_nt hS hp hh ht
  obtain ⟨h1, h2⟩ := lsA_cases w (pr w) pl h
  rcases h2 with h2 | ⟨k, a, b, c⟩ | ⟨h0, c⟩
  · omega
  · have e2 : pr w pl h = pr w (k + 1) (w.2.1 pl h k) + 1 := by rw [e, c]; omega
    have e3 : nxt w pl h = k := by unfold nxt; rw [c]; omega
    rw [e3]
    exact Or.inl ⟨a, b, e2.symm⟩
  · have e2 : pr w pl h = pr w pl 0 + 100 := by rw [e, c]; omega
    have e3 : nxt w pl h = 8 := by unfold nxt; rw [c]; omega
    exact Or.inr ⟨e3, h0, e2.symm⟩
/-- where the wire is behind so many steps of the best way -/
def sts (w : wT) (h0 : Nat) : Nat → Nat × Nat
  | 0 => (0, h0)
  | i + 1 => if nxt w (sts w h0 i).1 (sts w h0 i).2 = 8 then ((sts w h0 i).1, 0) else (nxt w (sts w h0 i).1 (sts w h0 i).2 + 1, w.2.1 (sts w h0 i).1 (sts w h0 i).2 (nxt w (sts w h0 i).1 (sts w h0 i).2))
def stp (w : wT) (h0 i : Nat) : Nat := nxt w (sts w h0 i).1 (sts w h0 i).2
def wlen (w : wT) (h0 : Nat) : Nat := pr w 0 h0 / 100 + pr w 0 h0 % 100
theorem sts_inv {w : wT} {rk : Nat → Nat → Nat} {N : Nat} (hS : WS w rk N) {h0 : Nat} (hh : h0 ≤ 100) (hf : pr w 0 h0 < 100000) : ∀ i, i ≤ wlen w h0 → (sts w h0 i).1 ≤ N ∧ (sts w h0 i).2 ≤ 100 ∧ pr w (sts w h0 i).1 (sts w h0 i).2 < 100000 ∧ pr w (sts w h0 i).1 (sts w h0 i).2 / 100 + pr w (sts w h0 i).1 (sts w h0 i).2 % 100 + i = wlen w h0
  | 0, _ => ⟨Nat.zero_le _, hh, hf, rfl⟩
  | i + 1, hi => by
    obtain ⟨h1, h2, h3, h4⟩ := sts_inv hS hh hf i (by omega)
    have ht : ¬ w.2.2 (sts w h0 i).1 = true := by
      intro q
      have := pr_th hS h1 h2 q
      rw [this] at h4
      omega
    rcases nxt_k hS h1 h2 ht h3 with ⟨a, b, c⟩ | ⟨a, b, c⟩
    · have hq := hS.2.1 _ _ _ h1 h2 b
      have hb := pr_b hS (pl := nxt w (sts w h0 i).1 (sts w h0 i).2 + 1) (by omega) hq.2.1
      simp only [sts, show ¬ nxt w (sts w h0 i).1 (sts w h0 i).2 = 8 by omega, if_false]
      exact ⟨by omega, hq.2.1, by omega, by omega⟩
    · have hb := pr_b hS h1 (show 0 ≤ 100 by omega)
      simp only [sts, a, if_true]
      exact ⟨h1, by omega, by omega, by omega⟩
theorem sts_nt {w : wT} {rk : Nat → Nat → Nat} {N : Nat} (hS : WS w rk N) {h0 : Nat} (hh : h0 ≤ 100) (hf : pr w 0 h0 < 100000) {i : Nat} (hi : i ≤ wlen w h0) : w.2.2 (sts w h0 i).1 = true ↔ i = wlen w h0 := by
  obtain ⟨h1, h2, h3, h4⟩ := sts_inv hS hh hf i hi
  constructor
  · intro q
    have := pr_th hS h1 h2 q
    rw [this] at h4
    omega
  · intro q
    apply Classical.byContradiction
    intro ht
    rcases nxt_k hS h1 h2 ht h3 with ⟨a, b, c⟩ | ⟨a, b, c⟩ <;> omega
/-- the reference's price -/
def fi (p : Nat) : Nat := p + 900 * (p / 100)
theorem fi_lt {p q : Nat} : fi p < fi q ↔ p < q := by unfold fi; omega
theorem fi_1 {p : Nat} (h : p % 100 ≤ 17) : 1 + fi p = fi (p + 1) := by unfold fi; omega
theorem fi_100 (p : Nat) : 1000 + fi p = fi (p + 100) := by unfold fi; omega
theorem fi_b {p : Nat} (h : p ≤ 101000) : fi p ≤ 1010000 := by unfold fi; omega
/-- the reference's step for a mark -/
def sI (v : Nat) : Int32 := if v / 9 < 100000 then nI (v % 9) else -1
/-- the reference's next step -/
def nxI (w : wT) (pl h : Nat) : Int32 := if w.2.2 pl = true then -1 else sI (lsA w (pr w) pl h)
theorem lsH_y {w : wT} {g : Nat → Nat → Nat} {pl h k : Nat} (hk : k < 8) (ho : w.1 pl h k = true) (hl : fi (g (k + 1) (w.2.1 pl h k) + 1) < fi (lsH w g pl h k / 9)) : lsH w g pl h (k + 1) / 9 = g (k + 1) (w.2.1 pl h k) + 1 ∧ sI (lsH w g pl h (k + 1)) = nI k := by
  have h1 := lsH_cases w g pl h k
  rw [fi_lt] at hl
  have e : lsH w g pl h (k + 1) = (g (k + 1) (w.2.1 pl h k) + 1) * 9 + k := by
    simp only [lsH, ho, if_true]
    rw [Nat.min_eq_right (by omega)]
  unfold sI
  rw [e, if_pos (by omega), show ((g (k + 1) (w.2.1 pl h k) + 1) * 9 + k) % 9 = k by omega]
  exact ⟨by omega, rfl⟩
theorem lsH_n {w : wT} {g : Nat → Nat → Nat} {pl h k : Nat} (hk : k < 8) (ho : w.1 pl h k = true) (hl : ¬ fi (g (k + 1) (w.2.1 pl h k) + 1) < fi (lsH w g pl h k / 9)) : lsH w g pl h (k + 1) = lsH w g pl h k := by
  have h1 := lsH_mod w g pl h (m := k) (by omega)
  rw [fi_lt] at hl
  simp only [lsH, ho, if_true]
  rw [Nat.min_eq_left (by omega)]
theorem lsH_z {w : wT} {g : Nat → Nat → Nat} {pl h k : Nat} (ho : ¬ w.1 pl h k = true) : lsH w g pl h (k + 1) = lsH w g pl h k := by simp only [lsH, ho, if_false, Bool.false_eq_true]
theorem lsH_all {w : wT} {g : Nat → Nat → Nat} {pl h N : Nat} (ho : ∀ k, N ≤ k → ¬ w.1 pl h k = true) : ∀ d, lsH w g pl h (N + d) = lsH w g pl h N
  | 0 => rfl
  | d + 1 => by rw [← Nat.add_assoc, lsH_z (ho (N + d) (by omega)), lsH_all ho d]
theorem lsA_f {w : wT} {g : Nat → Nat → Nat} {pl h : Nat} (h0 : 0 < h) (hl : fi (g pl 0 + 100) < fi (lsH w g pl h 8 / 9)) : lsA w g pl h / 9 = g pl 0 + 100 ∧ sI (lsA w g pl h) = 8 := by
  have h1 := lsH_cases w g pl h 8
  rw [fi_lt] at hl
  have e : lsA w g pl h = (g pl 0 + 100) * 9 + 8 := by
    simp only [lsA, h0, if_true]
    rw [Nat.min_eq_right (by omega)]
  unfold sI
  rw [e, if_pos (by omega), show ((g pl 0 + 100) * 9 + 8) % 9 = 8 by omega]
  exact ⟨by omega, rfl⟩
theorem lsA_n {w : wT} {g : Nat → Nat → Nat} {pl h : Nat} (h0 : 0 < h) (hl : ¬ fi (g pl 0 + 100) < fi (lsH w g pl h 8 / 9)) : lsA w g pl h = lsH w g pl h 8 := by
  have h1 := lsH_mod w g pl h (m := 8) (by omega)
  rw [fi_lt] at hl
  simp only [lsA, h0, if_true]
  rw [Nat.min_eq_left (by omega)]
theorem lsA_0 {w : wT} {g : Nat → Nat → Nat} {pl h : Nat} (h0 : ¬ 0 < h) : lsA w g pl h = lsH w g pl h 8 := by simp only [lsA, h0, if_false]
