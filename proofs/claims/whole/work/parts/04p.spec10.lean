/-! ways to choose by products -/
/-- Pascal's rows as lists -/
def nextRow (r : List Nat) : List Nat := 1 :: (r.zipWith (· + ·) (r.drop 1 ++ [0]))
def rowN : Nat → List Nat
  | 0 => [1]
  | n + 1 => nextRow (rowN n)
theorem rowN_at : ∀ n k, (rowN n).getD k 0 = ch n k
  | 0, 0 => rfl
  | 0, k + 1 => by simp [rowN, ch]
  | n + 1, 0 => by simp [rowN, nextRow, ch]
  | n + 1, k + 1 => by
    have h1 := rowN_at n k
    have h2 := rowN_at n (k + 1)
    simp only [rowN, nextRow, ch, List.getD_cons_succ]
    rw [← h1, ← h2]
    simp only [List.getD_eq_getElem?_getD, List.getElem?_zipWith, List.getElem?_append, List.getElem?_drop, List.length_drop]
    rcases Nat.lt_or_ge (k + 1) (rowN n).length with h | h
    · rw [List.getElem?_eq_getElem (show k < (rowN n).length by omega), List.getElem?_eq_getElem h]
      simp [show k < (rowN n).length - 1 by omega, Nat.add_comm 1 k, h]
    · rcases Nat.lt_or_ge k (rowN n).length with h3 | h3
      · rw [List.getElem?_eq_getElem h3, List.getElem?_eq_none h]
        have e : k = (rowN n).length - 1 := by omega
        simp [show ¬ k < (rowN n).length - 1 by omega, show k - ((rowN n).length - 1) = 0 by omega]
      · rw [List.getElem?_eq_none h3, List.getElem?_eq_none h]
        simp
def chk (n i : Nat) (c : Nat) : Bool := decide (2 * (i + 1) ≤ n → c * (n - i) < 2 ^ 62) && decide (c < 2 ^ 57)
def chkRow (n : Nat) : List Nat → Nat → Bool
  | [], _ => true
  | c :: r, i => chk n i c && chkRow n r (i + 1)
theorem chkRow_at {n : Nat} : ∀ (r : List Nat) (i : Nat), chkRow n r i = true → ∀ j c, r[j]? = some c → chk n (i + j) c = true
  | [], _, _, j, c, h => by simp at h
  | a :: r, i, h, j, c, hj => by
    simp only [chkRow, Bool.and_eq_true] at h
    cases j with
    | zero => simp at hj; subst hj; exact h.1
    | succ j =>
      have := chkRow_at r (i + 1) h.2 j c (by simpa using hj)
      rwa [show i + 1 + j = i + (j + 1) by omega] at this
def chkAll : Nat → List Nat → Nat → Bool
  | 0, _, _ => true
  | f + 1, r, n => chkRow n r 0 && chkAll f (nextRow r) (n + 1)
theorem chkAll_at : ∀ (f : Nat) (m : Nat), chkAll f (rowN m) m = true → ∀ j, j < f → chkRow (m + j) (rowN (m + j)) 0 = true
  | 0, _, _, j, hj => absurd hj (Nat.not_lt_zero j)
  | f + 1, m, h, j, hj => by
    simp only [chkAll, Bool.and_eq_true] at h
    cases j with
    | zero => exact h.1
    | succ j =>
      have := chkAll_at f (m + 1) h.2 j (by omega)
      rwa [show m + 1 + j = m + (j + 1) by omega] at this
theorem chk61 : chkAll 61 [1] 0 = true := by decide +kernel
theorem rowN_len : ∀ n, (rowN n).length = n + 1
  | 0 => rfl
  | n + 1 => by
    have := rowN_len n
    simp only [rowN, nextRow, List.length_cons, List.length_zipWith, List.length_append, List.length_drop, this]
    simp
theorem ch_bd {n i : Nat} (hn : n ≤ 60) : (2 * (i + 1) ≤ n → ch n i * (n - i) < 2 ^ 62) ∧ ch n i < 2 ^ 57 := by
  have h := chkAll_at 61 0 chk61 n (by omega)
  rw [Nat.zero_add] at h
  rcases Nat.lt_or_ge i (rowN n).length with hi | hi
  · have h1 := chkRow_at _ 0 h i _ (List.getElem?_eq_getElem hi)
    rw [Nat.zero_add] at h1
    have e : (rowN n)[i] = ch n i := by
      rw [← rowN_at n i, List.getD_eq_getElem?_getD, List.getElem?_eq_getElem hi]
      rfl
    rw [e] at h1
    simp only [chk, Bool.and_eq_true, decide_eq_true_eq] at h1
    exact h1
  · rw [rowN_len] at hi
    rw [ch_big n i (by omega)]
    exact ⟨fun _ => by simp, by decide⟩
theorem ch_mul : ∀ n k, ch n (k + 1) * (k + 1) = ch n k * (n - k)
  | 0, 0 => by simp [ch]
  | 0, k + 1 => by simp [ch]
  | n + 1, 0 => by
    have h := ch_mul n 0
    simp only [ch, ch_0] at h ⊢
    simp at h ⊢
    omega
  | n + 1, k + 1 => by
    have h1 := ch_mul n k
    have h2 := ch_mul n (k + 1)
    simp only [ch]
    rcases Nat.lt_or_ge n (k + 1) with h | h
    · rw [ch_big n (k + 1) h, ch_big n (k + 1 + 1) (by omega)]
      simp
      rw [show n - k = 0 by omega]
      simp
    · rw [Nat.add_mul, Nat.add_mul]
      rw [show k + 1 + 1 = (k + 1) + 1 from rfl, h2, Nat.mul_add (ch n (k + 1)) (k + 1) 1, h1, Nat.mul_one]
      rw [show n + 1 - (k + 1) = n - k by omega, Nat.add_assoc]
      have : ch n (k + 1) * (n - (k + 1)) + ch n (k + 1) = ch n (k + 1) * (n - k) := by
        rw [← Nat.mul_succ, show Nat.succ (n - (k + 1)) = n - k by omega]
      omega
theorem ch_sym : ∀ n k, k ≤ n → ch n k = ch n (n - k)
  | 0, k, h => by rw [show k = 0 by omega]
  | n + 1, 0, _ => by
    rw [Nat.sub_zero, ch_0]
    have : ∀ m, ch m m = 1 := by
      intro m
      induction m with
      | zero => rfl
      | succ m ih => rw [ch, ih, ch_big m (m + 1) (by omega)]
    rw [this]
  | n + 1, k + 1, h => by
    rcases Nat.lt_or_ge k n with hk | hk
    · rw [show n + 1 - (k + 1) = (n - (k + 1)) + 1 by omega, ch, ch, ch_sym n k (by omega), ch_sym n (k + 1) (by omega), show n - (k + 1) + 1 = n - k by omega]
      omega
    · have : k = n := by omega
      subst this
      rw [Nat.sub_self, ch_0]
      have : ∀ m, ch m m = 1 := by
        intro m
        induction m with
        | zero => rfl
        | succ m ih => rw [ch, ih, ch_big m (m + 1) (by omega)]
      rw [this]
theorem ch_next {n i : Nat} (hn : n ≤ 60) (hi : 2 * (i + 1) ≤ n) : lN (ch n i) * (nI n - nI i).toInt64 / (nI i + 1).toInt64 = lN (ch n (i + 1)) := by
  have hb := ch_bd (i := i) hn
  rw [pk_sub (by omega), nI_l (by omega), nI_1, nI_l (by omega), lN_mul]
  have h1 := hb.1 hi
  rw [pk_lDiv (by omega) (by omega) (by omega), ← ch_mul, Nat.mul_div_cancel _ (by omega)]
