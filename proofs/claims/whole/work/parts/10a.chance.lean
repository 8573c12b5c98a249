/-! chances and causes: class and reference alike -/
theorem sumN_sh (f : Nat → Nat) : ∀ n, sumN f (n + 1) = f 0 + sumN (fun i => f (i + 1)) n
  | 0 => by simp [sumN]
  | n + 1 => by
    show sumN f (n + 1) + f (n + 1) = _
    rw [sumN_sh f n]
    show _ = f 0 + (sumN (fun i => f (i + 1)) n + f (n + 1))
    omega
theorem vander (wo : Nat) : ∀ wi n, sumN (fun i => ch wi i * ch wo (n - i)) (n + 1) = ch (wi + wo) n
  | 0, n => by
    rw [sumN_sh, sumN_z n (fun j _ => by rw [ch_big 0 (j + 1) (by omega), Nat.zero_mul]), ch_0, Nat.zero_add, Nat.one_mul]
    rfl
  | wi + 1, 0 => by simp [sumN, ch_0]
  | wi + 1, n + 1 => by
    rw [sumN_sh]
    have e1 : sumN (fun i => ch (wi + 1) (i + 1) * ch wo (n + 1 - (i + 1))) (n + 1) = sumN (fun i => ch wi i * ch wo (n - i)) (n + 1) + sumN (fun i => ch wi (i + 1) * ch wo (n - i)) (n + 1) := by
      rw [← sumN_add]
      refine sumN_congr (n + 1) (fun i hi => ?_)
      rw [show n + 1 - (i + 1) = n - i by omega, show ch (wi + 1) (i + 1) = ch wi i + ch wi (i + 1) from rfl, Nat.add_mul]
    have e2 := vander wo wi (n + 1)
    rw [sumN_sh] at e2
    have e3 : sumN (fun i => ch wi (i + 1) * ch wo (n + 1 - (i + 1))) (n + 1) = sumN (fun i => ch wi (i + 1) * ch wo (n - i)) (n + 1) := sumN_congr (n + 1) (fun i hi => by rw [show n + 1 - (i + 1) = n - i by omega])
    rw [e3] at e2
    rw [e1, vander wo wi n, show wi + 1 + wo = (wi + wo) + 1 by omega, show ch (wi + wo + 1) (n + 1) = ch (wi + wo) n + ch (wi + wo) (n + 1) from rfl, ← e2, ch_0, ch_0]
    omega
def gT (wi wo br i : Nat) : Nat := ch wi i * (if i ≤ br then ch wo (br - i) else 0)
def tNt (wi wo br a m : Nat) : Nat := sumN (fun j => gT wi wo br (a + j)) m
theorem chI_n {n i : Nat} (hn : n < 2 ^ 30) (hi : i < 2 ^ 30) : chI n (nI i) = ch n i := by
  unfold chI
  by_cases h : n < i
  · rw [if_pos (Or.inr (nI_lt h (by omega))), ch_big n i h]
  · rw [if_neg (by rintro (h9 | h9); exact nI_pos (by omega) h9; exact h ((nI_ltI (by omega) (by omega)).mp h9)), nI_clamp (by omega)]
theorem tsum_n {wi wo br a : Nat} (h1 : wi ≤ 120) (h2 : wo ≤ 120) (h3 : br ≤ 120) (h4 : a ≤ 120) : ∀ m, m ≤ 121 → tsum wi wo br a m = lN (tNt wi wo br a m)
  | 0, _ => rfl
  | m + 1, hm => by
    have ih := tsum_n h1 h2 h3 h4 m (by omega)
    show tsum wi wo br a m + lN (chI wi (nI (a + m))) * lN (chI wo (nI br - nI (a + m))) = lN (tNt wi wo br a m + gT wi wo br (a + m))
    rw [ih, chI_n (by omega) (by omega), lN_mul, lN_add]
    congr 2
    unfold gT
    congr 1
    by_cases h : a + m ≤ br
    · rw [if_pos h, pk_sub h, chI_n (by omega) (by omega)]
    · rw [if_neg h, chI, if_pos (Or.inl (pk_sneg (by omega) (by omega)))]
theorem gT_all {wi wo br : Nat} (N : Nat) : sumN (gT wi wo br) N ≤ ch (wi + wo) br := by
  have e : sumN (gT wi wo br) (br + 1) = ch (wi + wo) br := by
    rw [← vander wo wi br]
    refine sumN_congr (br + 1) (fun i hi => ?_)
    unfold gT
    rw [if_pos (by omega)]
  rcases Nat.le_total N (br + 1) with h | h
  · have := sumN_mono (gT wi wo br) N (br + 1 - N)
    rw [show N + (br + 1 - N) = br + 1 by omega] at this
    omega
  · have h3 : ∀ d, sumN (gT wi wo br) (br + 1 + d) = sumN (gT wi wo br) (br + 1) := by
      intro d
      induction d with
      | zero => rfl
      | succ d ih =>
        show sumN (gT wi wo br) (br + 1 + d) + gT wi wo br (br + 1 + d) = _
        rw [ih, gT, if_neg (by omega), Nat.mul_zero, Nat.add_zero]
    have := h3 (N - (br + 1))
    rw [show br + 1 + (N - (br + 1)) = N by omega] at this
    omega
theorem sumN_from (f : Nat → Nat) (a : Nat) : ∀ m, sumN (fun j => f (a + j)) m ≤ sumN f (a + m)
  | 0 => Nat.zero_le _
  | m + 1 => by
    have := sumN_from f a m
    show _ + f (a + m) ≤ sumN f (a + m) + f (a + m)
    omega
theorem tNt_le (wi wo br a m : Nat) : tNt wi wo br a m ≤ ch (wi + wo) br := Nat.le_trans (sumN_from (gT wi wo br) a m) (gT_all _)
theorem ch_pos : ∀ n k, k ≤ n → 0 < ch n k
  | n, 0, _ => by rw [ch_0]; decide
  | 0, k + 1, h => absurd h (by omega)
  | n + 1, k + 1, h => by
    have := ch_pos n k (by omega)
    show 0 < ch n k + ch n (k + 1)
    omega
section CHN
variable {F : tF} {nn : Nat}
theorem more_eq (hn : nn ≤ 60) (ca : Int32) : w_moreC F nn ca = w_more F nn ca ∧ (w_more F nn ca = true → 0 < w_below F nn ca) := by
  have hs := tlN_sum F ca nn
  have hC : (tlN F ca 0 nn + tlN F ca 1 nn) + (tlN F ca 2 nn + tlN F ca 3 nn) = nn := by omega
  have hle := tNt_le (tlN F ca 0 nn + tlN F ca 1 nn) (tlN F ca 2 nn + tlN F ca 3 nn) (tlN F ca 0 nn + tlN F ca 2 nn) (tlN F ca 0 nn) (tlN F ca 1 nn + 1)
  rw [hC] at hle
  have hb := (ch_bd (n := nn) (i := tlN F ca 0 nn + tlN F ca 2 nn) hn).2
  have hp := ch_pos nn (tlN F ca 0 nn + tlN F ca 2 nn) (by omega)
  have e := tsum_n (wi := tlN F ca 0 nn + tlN F ca 1 nn) (wo := tlN F ca 2 nn + tlN F ca 3 nn) (br := tlN F ca 0 nn + tlN F ca 2 nn) (a := tlN F ca 0 nn) (by omega) (by omega) (by omega) (by omega) (tlN F ca 1 nn + 1) (by omega)
  unfold w_moreC w_more
  rw [e, chI_n (by omega) (by omega), show (20 : Int64) = lN 20 from rfl, lN_mul, pk_lDiv (by omega) (by decide) (by decide)]
  have hdv : ch nn (tlN F ca 0 nn + tlN F ca 2 nn) / 20 ≤ ch nn (tlN F ca 0 nn + tlN F ca 2 nn) := Nat.div_le_self _ _
  refine ⟨?_, fun h => ?_⟩
  · apply decide_eq_decide.mpr
    rw [pk_lLE (by omega) (by omega), pk_lLE (by omega) (by omega)]
    omega
  · have h1 := (pk_lLE (by omega) (by omega)).mp (of_decide_eq_true h)
    apply Nat.pos_of_ne_zero
    intro hz
    unfold w_below at hz
    have key : ch nn (tlN F ca 0 nn + tlN F ca 2 nn) ≤ tNt (tlN F ca 0 nn + tlN F ca 1 nn) (tlN F ca 2 nn + tlN F ca 3 nn) (tlN F ca 0 nn + tlN F ca 2 nn) (tlN F ca 0 nn) (tlN F ca 1 nn + 1) := by
      have h0 := sumN_ge (f := fun j => gT (tlN F ca 0 nn + tlN F ca 1 nn) (tlN F ca 2 nn + tlN F ca 3 nn) (tlN F ca 0 nn + tlN F ca 2 nn) (tlN F ca 0 nn + j)) (tlN F ca 1 nn + 1) 0 (by omega)
      refine Nat.le_trans ?_ h0
      show _ ≤ gT _ _ _ (tlN F ca 0 nn + 0)
      unfold gT
      rw [if_pos (by omega)]
      rcases Nat.mul_eq_zero.mp hz with h2 | h2
      · rw [show tlN F ca 0 nn = 0 by omega, show tlN F ca 1 nn = 0 by omega, show tlN F ca 2 nn + tlN F ca 3 nn = nn by omega]
        rw [Nat.add_zero, ch_0, Nat.one_mul, Nat.sub_zero]
        exact Nat.le_refl _
      · rw [show tlN F ca 2 nn = 0 by omega, show tlN F ca 3 nn = 0 by omega, show tlN F ca 0 nn + tlN F ca 1 nn = nn by omega]
        rw [Nat.add_zero, Nat.sub_self, ch_0, Nat.mul_one]
        exact Nat.le_refl _
    omega
theorem chance_eq (hn : nn ≤ 60) (ca : Int32) : sp_chanceC F nn ca = sp_chance F nn ca := by
  unfold sp_chanceC sp_chance
  rw [(more_eq hn ca).1]
theorem gr_eq (hn : nn ≤ 60) (ca cb : Int32) : w_gr F nn ca cb = true ↔ w_above F nn cb * nI (w_below F nn ca) < w_above F nn ca * nI (w_below F nn cb) := by
  have key : ∀ x y : Int32, (w_above F nn x * nI (w_below F nn y)).toInt = (w_above F nn x).toInt * (w_below F nn y : Int) ∧ ((w_above F nn x).toInt64 * (nI (w_below F nn y)).toInt64).toInt = (w_above F nn x).toInt * (w_below F nn y : Int) := by
    intro x y
    have h0 := tlN_le F x 0 nn
    have h1 := tlN_le F x 1 nn
    have h2 := tlN_le F x 2 nn
    have h3 := tlN_le F x 3 nn
    have k0 := tlN_le F y 0 nn
    have k1 := tlN_le F y 1 nn
    have k2 := tlN_le F y 2 nn
    have k3 := tlN_le F y 3 nn
    have e1 := mul_le60 (a := tlN F x 0 nn) (b := tlN F x 2 nn + tlN F x 3 nn) (n := 60) (m := 120) (by omega) (by omega)
    have e2 := mul_le60 (a := tlN F x 2 nn) (b := tlN F x 0 nn + tlN F x 1 nn) (n := 60) (m := 120) (by omega) (by omega)
    have e3 : w_below F nn y ≤ 120 * 120 := mul_le60 (by omega) (by omega)
    have ha : w_abs F nn x ≤ 14400 := by unfold w_abs; omega
    have hA : (w_above F nn x).toInt = (w_abs F nn x : Int) ∨ (w_above F nn x).toInt = -(w_abs F nn x : Int) := by
      rcases w_above_abs F nn x with h | h
      · left; rw [h, nI_toInt (by omega)]
      · right; rw [h, sb_negT (by omega)]
    have hP : (w_abs F nn x) * (w_below F nn y) ≤ 14400 * 14400 := Nat.mul_le_mul ha (by omega)
    have hP2 : ((w_abs F nn x : Int) * (w_below F nn y : Int)) ≤ 207360000 := by
      have : (((w_abs F nn x) * (w_below F nn y) : Nat) : Int) ≤ 207360000 := by omega
      rwa [Int.natCast_mul] at this
    have hP3 : 0 ≤ ((w_abs F nn x : Int) * (w_below F nn y : Int)) := Int.mul_nonneg (by omega) (by omega)
    have hb : -207360000 ≤ (w_above F nn x).toInt * (w_below F nn y : Int) ∧ (w_above F nn x).toInt * (w_below F nn y : Int) ≤ 207360000 := by
      rcases hA with h | h
      · rw [h]; omega
      · rw [h, Int.neg_mul]; omega
    constructor
    · rw [Int32.toInt_mul, nI_toInt (by omega)]
      exact Int.bmod_eq_of_le (by omega) (by omega)
    · rw [Int64.toInt_mul, Int32.toInt_toInt64, Int32.toInt_toInt64, nI_toInt (by omega)]
      exact Int.bmod_eq_of_le (by omega) (by omega)
  unfold w_gr
  rw [decide_eq_true_iff, Int64.lt_iff_toInt_lt, Int32.lt_iff_toInt_lt, (key cb ca).1, (key ca cb).1, (key cb ca).2, (key ca cb).2]
theorem fnd_eq (hn : nn ≤ 60) : ∀ k, k ≤ 3 → w_fndC F nn k = w_fnd F nn k
  | 0, _ => rfl
  | k + 1, hk => by
    have ih := fnd_eq hn k (by omega)
    obtain ⟨m1, m2⟩ := more_eq (F := F) hn (nI k)
    show (if w_moreC F nn (nI k) = true ∧ (w_fndC F nn k = -1 ∨ w_gr F nn (nI k) (w_fndC F nn k) = true) then nI k else w_fndC F nn k) = (if w_more F nn (nI k) = true ∧ 0 < w_below F nn (nI k) then (if w_fnd F nn k = -1 ∨ w_above F nn (w_fnd F nn k) * nI (w_below F nn (nI k)) < w_above F nn (nI k) * nI (w_below F nn (w_fnd F nn k)) then nI k else w_fnd F nn k) else w_fnd F nn k)
    rw [m1, ih]
    by_cases hm : w_more F nn (nI k) = true
    · rw [if_pos (show w_more F nn (nI k) = true ∧ 0 < w_below F nn (nI k) from ⟨hm, m2 hm⟩)]
      by_cases h2 : w_fnd F nn k = -1 ∨ w_above F nn (w_fnd F nn k) * nI (w_below F nn (nI k)) < w_above F nn (nI k) * nI (w_below F nn (w_fnd F nn k))
      · rw [if_pos h2, if_pos ⟨hm, h2.imp id (fun h => (gr_eq hn _ _).mpr h)⟩]
      · rw [if_neg h2, if_neg (fun h9 => h2 (h9.2.imp id (fun h => (gr_eq hn _ _).mp h)))]
    · rw [if_neg (fun h9 => hm h9.1), if_neg (fun h9 => hm h9.1)]
theorem by_eq (hn : nn ≤ 60) (ca pt : Int32) : sp_byC F nn ca pt = sp_by F nn ca pt := by
  unfold sp_byC sp_by
  by_cases h : (0 ≤ ca ∧ ca ≤ 2) ∧ (0 ≤ pt ∧ pt ≤ 1) ∧ ¬ w_below F nn ca = 0
  · rw [if_pos h, if_pos h]
    have hg := w_g_pos h.2.2
    have hg2 := w_g_lt hn h.2.2
    have hq : ∀ x : Int32, (w_quo x.toInt64 (nI (w_g F nn ca)).toInt64).toInt32 = x / nI (w_g F nn ca) := by
      intro x
      rw [w_quo, if_neg, ← Int32.toInt64_div_of_ne_right _ _ (nI_m1 (by omega)), Int32.toInt32_toInt64]
      rw [nI_l (by omega), show (0 : Int64) = lN 0 from rfl, pk_lEQ (by omega) (by decide)]
      omega
    rw [hq, hq]
  · rw [if_neg h, if_neg h]
end CHN
