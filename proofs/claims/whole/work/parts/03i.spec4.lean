/-! fractions and chances, by the reference's cells -/
theorem gc_step (u v : Nat) : Nat.gcd v (u % v) = Nat.gcd u v := by
  rw [Nat.gcd_comm v, ← Nat.gcd_rec, Nat.gcd_comm]
theorem abs_pos {x0 : Int32} {x : Nat} (hx : x0 = nI x ∨ x0 = -nI x) (hl : x < 2 ^ 30) (h : 0 ≤ x0) : x0 = nI x := by
  rcases hx with e | e
  · exact e
  · rw [e, Int32.le_iff_toInt_le, sb_negT (by omega)] at h
    have : x = 0 := by simp at h; omega
    rw [e, this]
    rfl
theorem abs_neg {x0 : Int32} {x : Nat} (hx : x0 = nI x ∨ x0 = -nI x) (hl : x < 2 ^ 30) (h : ¬ 0 ≤ x0) : -x0 = nI x := by
  rcases hx with e | e
  · rw [e] at h
    exact absurd (nI_pos' (by omega)) h
  · rw [e, Int32.neg_neg]
theorem sub_abs {a b : Nat} : nI a - nI b = nI ((a - b) + (b - a)) ∨ nI a - nI b = -nI ((a - b) + (b - a)) := by
  rcases Nat.le_total b a with h | h
  · left
    rw [pk_sub h, show b - a = 0 by omega, Nat.add_zero]
  · right
    rw [show a - b = 0 by omega, Nat.zero_add, ← pk_sub h, Int32.neg_sub]
def w_abs (F : tF) (nn : Nat) (ca : Int32) : Nat := (tlN F ca 0 nn * (tlN F ca 2 nn + tlN F ca 3 nn) - tlN F ca 2 nn * (tlN F ca 0 nn + tlN F ca 1 nn)) + (tlN F ca 2 nn * (tlN F ca 0 nn + tlN F ca 1 nn) - tlN F ca 0 nn * (tlN F ca 2 nn + tlN F ca 3 nn))
theorem w_above_abs (F : tF) (nn : Nat) (ca : Int32) : w_above F nn ca = nI (w_abs F nn ca) ∨ w_above F nn ca = -nI (w_abs F nn ca) := by
  unfold w_above w_abs
  rw [pk_mul, pk_mul]
  exact sub_abs
theorem mul_le60 {a b n m : Nat} (ha : a ≤ n) (hb : b ≤ m) : a * b ≤ n * m := Nat.mul_le_mul ha hb
theorem w_abs_lt {F : tF} {nn : Nat} (h : nn ≤ 60) (ca : Int32) : w_abs F nn ca < 2 ^ 30 := by
  have h0 := tlN_le F ca 0 nn
  have h1 := tlN_le F ca 1 nn
  have h2 := tlN_le F ca 2 nn
  have h3 := tlN_le F ca 3 nn
  have e1 := mul_le60 (a := tlN F ca 0 nn) (b := tlN F ca 2 nn + tlN F ca 3 nn) (n := 60) (m := 120) (by omega) (by omega)
  have e2 := mul_le60 (a := tlN F ca 2 nn) (b := tlN F ca 0 nn + tlN F ca 1 nn) (n := 60) (m := 120) (by omega) (by omega)
  unfold w_abs
  omega
theorem w_below_lt {F : tF} {nn : Nat} (h : nn ≤ 60) (ca : Int32) : w_below F nn ca < 2 ^ 30 := by
  have h0 := tlN_le F ca 0 nn
  have h1 := tlN_le F ca 1 nn
  have h2 := tlN_le F ca 2 nn
  have h3 := tlN_le F ca 3 nn
  have e1 := mul_le60 (a := tlN F ca 0 nn + tlN F ca 1 nn) (b := tlN F ca 2 nn + tlN F ca 3 nn) (n := 120) (m := 120) (by omega) (by omega)
  unfold w_below
  omega
def w_g (F : tF) (nn : Nat) (ca : Int32) : Nat := Nat.gcd (w_abs F nn ca) (w_below F nn ca)
theorem w_g_pos {F : tF} {nn : Nat} {ca : Int32} (h : ¬ w_below F nn ca = 0) : 0 < w_g F nn ca := Nat.gcd_pos_of_pos_right _ (Nat.pos_of_ne_zero h)
theorem w_g_lt {F : tF} {nn : Nat} {ca : Int32} (hn : nn ≤ 60) (h : ¬ w_below F nn ca = 0) : w_g F nn ca < 2 ^ 30 := Nat.lt_of_le_of_lt (Nat.gcd_le_right _ (Nat.pos_of_ne_zero h)) (w_below_lt hn ca)
def sp_by (F : tF) (nn : Nat) (ca pt : Int32) : Int32 := if (0 ≤ ca ∧ ca ≤ 2) ∧ (0 ≤ pt ∧ pt ≤ 1) ∧ ¬ w_below F nn ca = 0 then (if pt = 0 then w_above F nn ca / nI (w_g F nn ca) else nI (w_below F nn ca) / nI (w_g F nn ca)) else -2147483648
/-- how many ways to choose -/
def ch : Nat → Nat → Nat
  | _, 0 => 1
  | 0, _ + 1 => 0
  | n + 1, k + 1 => ch n k + ch n (k + 1)
theorem ch_0 (n : Nat) : ch n 0 = 1 := by cases n <;> simp [ch]
theorem ch_big : ∀ n k, n < k → ch n k = 0
  | 0, 0, h => absurd h (Nat.lt_irrefl 0)
  | 0, _ + 1, _ => rfl
  | n + 1, 0, h => absurd h (Nat.not_lt_zero _)
  | n + 1, k + 1, h => by rw [ch, ch_big n k (by omega), ch_big n (k + 1) (by omega)]
def chI (n : Nat) (k : Int32) : Nat := if k < 0 ∨ nI n < k then 0 else ch n k.toNatClampNeg
def tsum (wi wo br a : Nat) : Nat → Int64
  | 0 => 0
  | j + 1 => tsum wi wo br a j + lN (chI wi (nI (a + j))) * lN (chI wo (nI br - nI (a + j)))
def w_more (F : tF) (nn : Nat) (ca : Int32) : Bool := decide (tsum (tlN F ca 0 nn + tlN F ca 1 nn) (tlN F ca 2 nn + tlN F ca 3 nn) (tlN F ca 0 nn + tlN F ca 2 nn) (tlN F ca 0 nn) (tlN F ca 1 nn + 1) ≤ lN (chI nn (nI (tlN F ca 0 nn + tlN F ca 2 nn))) / 20)
def sp_chance (F : tF) (nn : Nat) (ca : Int32) : Int32 := if 0 ≤ ca ∧ ca ≤ 2 then (if w_more F nn ca = true then 1 else 0) else -2
def w_fnd (F : tF) (nn : Nat) : Nat → Int32
  | 0 => -1
  | k + 1 => if w_more F nn (nI k) = true ∧ 0 < w_below F nn (nI k) then (if w_fnd F nn k = -1 ∨ w_above F nn (w_fnd F nn k) * nI (w_below F nn (nI k)) < w_above F nn (nI k) * nI (w_below F nn (w_fnd F nn k)) then nI k else w_fnd F nn k) else w_fnd F nn k
theorem lN_0 : lN 0 = 0 := rfl
theorem i_pos2 {g : Nat} (h : 0 < g) (hl : g < 2 ^ 30) : ¬ nI g = 0 := nI_ne0 h (by omega)
theorem uG_o (G : tG) {k z : Nat} (j : Nat) (v : Int64) (h : z ≠ k) : uG G k j v z = G z := by simp [uG, h]
theorem lg_gt (x y : Int64) : 0 < lg_cmp x y ↔ y < x := by
  rw [← Int32.not_le, lg_le, Int64.not_le]
theorem tlN_sum (F : tF) (ca : Int32) : ∀ k, tlN F ca 0 k + tlN F ca 1 k + tlN F ca 2 k + tlN F ca 3 k = k
  | 0 => rfl
  | k + 1 => by
    have h := tlN_sum F ca k
    have hk : n_kind F ca k = 0 ∨ n_kind F ca k = 1 ∨ n_kind F ca k = 2 ∨ n_kind F ca k = 3 := by
      unfold n_kind
      repeat' split
      all_goals simp
    simp only [tlN]
    rcases hk with e | e | e | e <;> rw [e] <;> simp <;> omega
theorem ch_i0 {G1 : tG} {i : Nat} (hc : ∀ j, j < i → G1 149 j = lN (ch 0 j)) (hz : i = 0) : ∀ j, j < i + 1 → uG G1 149 i 1 149 j = lN (ch 0 j) := by
  intro j hj
  subst hz
  have : j = 0 := by omega
  subst this
  rw [uG_s]
  rfl
theorem ch_i1 {G1 : tG} {i : Nat} (hc : ∀ j, j < i → G1 149 j = lN (ch 0 j)) (hz : ¬ i = 0) : ∀ j, j < i + 1 → uG G1 149 i 0 149 j = lN (ch 0 j) := by
  intro j hj
  by_cases h : j = i
  · subst h
    rw [uG_s]
    obtain ⟨q, rfl⟩ := Nat.exists_eq_succ_of_ne_zero hz
    rfl
  · rw [uG_n _ _ (Or.inr h)]
    exact hc j (by omega)
theorem ch_s {G1 : tG} {k m i : Nat} (hc : ∀ j, j ≤ k → G1 149 j = lN (ch (m - 1) j)) (hm : 1 ≤ m) (hi : i = k ∨ i = m) : ∀ j, j ≤ k → G1 149 j = lN (if i < j then ch m j else ch (m - 1) j) := by
  intro j hj
  rw [hc j hj]
  by_cases h : i < j
  · rw [if_pos h]
    rcases hi with e | e
    · omega
    · rw [ch_big m j (by omega), ch_big (m - 1) j (by omega)]
  · rw [if_neg h]
theorem ch_p {m i : Nat} (hm : 1 ≤ m) (hi : 0 < i) : lN (ch (m - 1) i) + lN (ch (m - 1) (i - 1)) = lN (ch m i) := by
  obtain ⟨m', rfl⟩ := Nat.exists_eq_succ_of_ne_zero (show m ≠ 0 by omega)
  obtain ⟨i', rfl⟩ := Nat.exists_eq_succ_of_ne_zero (show i ≠ 0 by omega)
  rw [lN_add]
  simp only [Nat.succ_eq_add_one, Nat.add_sub_cancel, ch]
  rw [Nat.add_comm]
theorem ch_n {G2 : tG} {k m i : Nat} (hc : ∀ j, j ≤ k → G2 149 j = lN (if i < j then ch m j else ch (m - 1) j)) (h0 : 0 < i) (hi : i ≤ k ∧ i ≤ m) (hm : 1 ≤ m) : ∀ j, j ≤ k → uG G2 149 i (lN (ch m i)) 149 j = lN (if i - 1 < j then ch m j else ch (m - 1) j) := by
  intro j hj
  by_cases h : j = i
  · subst h
    rw [uG_s, if_pos (by omega)]
  · rw [uG_n _ _ (Or.inr h), hc j hj]
    by_cases h2 : i < j
    · rw [if_pos h2, if_pos (by omega)]
    · rw [if_neg h2, if_neg (by omega)]
theorem ch_e {G2 : tG} {k m : Nat} (hc : ∀ j, j ≤ k → G2 149 j = lN (if 0 < j then ch m j else ch (m - 1) j)) : ∀ j, j ≤ k → G2 149 j = lN (ch m j) := by
  intro j hj
  rw [hc j hj]
  by_cases h : 0 < j
  · rw [if_pos h]
  · have : j = 0 := by omega
    subst this
    rw [if_neg h, ch_0, ch_0]
