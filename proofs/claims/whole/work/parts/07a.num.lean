/-! NUMBERS: what the mill's cells may hold -/
def rg (x : Int32) (a b : Nat) : Prop := ∃ n : Nat, a ≤ n ∧ n ≤ b ∧ x = nI n
theorem rg_of {x : Int32} {a b : Nat} (ha : a < 2 ^ 31) (hb : b < 2 ^ 31) (h1 : nI a ≤ x) (h2 : x ≤ nI b) : rg x a b := by
  have h0 : (0 : Int32) ≤ x := by
    have := nI_pos' ha
    rw [Int32.le_iff_toInt_le] at this h1 ⊢
    omega
  obtain ⟨j, hj, rfl⟩ := n_of h0 h2 hb
  exact ⟨j, (nI_leI ha (by omega)).mp h1, hj, rfl⟩
/-- a long as a natural number -/
def tn (x : Int64) : Nat := x.toInt.toNat
theorem tn_l {n : Nat} (h : n < 2 ^ 63) : tn (lN n) = n := by
  unfold tn
  rw [pk_lT h]
  omega
def sumN (f : Nat → Nat) : Nat → Nat
  | 0 => 0
  | n + 1 => sumN f n + f n
theorem sumN_congr {f g : Nat → Nat} : ∀ n, (∀ j, j < n → f j = g j) → sumN f n = sumN g n
  | 0, _ => rfl
  | n + 1, h => by simp only [sumN, sumN_congr n (fun j hj => h j (by omega)), h n (by omega)]
theorem sumN_ge {f : Nat → Nat} : ∀ n c, c < n → f c ≤ sumN f n
  | 0, _, h => absurd h (Nat.not_lt_zero _)
  | n + 1, c, h => by
    simp only [sumN]
    by_cases e : c = n
    · subst e; omega
    · have := sumN_ge n c (by omega) (f := f)
      omega
theorem sumN_set {f g : Nat → Nat} {c : Nat} (ho : ∀ j, j ≠ c → g j = f j) : ∀ n, c < n → sumN g n + f c = sumN f n + g c
  | 0, h => absurd h (Nat.not_lt_zero _)
  | n + 1, h => by
    simp only [sumN]
    by_cases e : c = n
    · subst e
      rw [sumN_congr (f := g) (g := f) c (fun j hj => ho j (by omega))]
      omega
    · have := sumN_set ho n (by omega)
      rw [ho n (Ne.symm e)]
      omega
theorem sumN_two {f : Nat → Nat} {a b : Nat} (h : a ≠ b) : ∀ n, a < n → b < n → f a + f b ≤ sumN f n
  | 0, h, _ => absurd h (Nat.not_lt_zero _)
  | n + 1, h1, h2 => by
    simp only [sumN]
    by_cases e : a = n
    · subst e
      have := sumN_ge a b (by omega) (f := f)
      omega
    · by_cases e2 : b = n
      · subst e2
        have := sumN_ge b a (by omega) (f := f)
        omega
      · have := sumN_two (f := f) h n (by omega) (by omega)
        omega
/-- metals, settings, pullers, holes, coils, all stuff -/
def GM (V : tF) : Prop := ∀ i, i < 4 → rg (V 101 i) 1 200 ∧ rg (V 102 i) 0 300 ∧ rg (V 103 i) 1 100 ∧ rg (V 104 i) 0 50 ∧ rg (V 105 i) 0 50
def GS (V : tF) : Prop := rg (V 106 0) 0 100 ∧ rg (V 106 1) 10 100 ∧ rg (V 106 2) 0 10 ∧ rg (V 106 3) 1 500 ∧ rg (V 106 4) 0 20 ∧ rg (V 106 5) 1 100
def GP (V : tF) : Prop := ∀ i, i < 3 → rg (V 107 i) 0 100000000 ∧ rg (V 108 i) 10 1000
def GH (V : tF) (nh : Nat → Nat) : Prop := ∀ i j, i < 4 → j < nh i → rg (V 111 (8 * i + j)) 20 1000 ∧ rg (V 112 (8 * i + j)) 0 2000000000 ∧ rg (V 113 (8 * i + j)) 0 2
def GC (V : tF) (G : tG) (nc : Nat) : Prop := ∀ c, c < nc → ∃ s h : Nat, (20 ≤ s ∧ s ≤ 1000 ∧ V 116 c = nI s) ∧ (h ≤ 100 ∧ V 117 c = nI h) ∧ (G 118 c = lN (tn (G 118 c)) ∧ (tn (G 118 c) = 0 ∨ s * s ≤ tn (G 118 c))) ∧ (V 121 c = 0 ∨ V 121 c = 1)
def GT (G : tG) (nc : Nat) : Prop := sumN (fun c => tn (G 118 c)) nc ≤ 1000000000 * nc
def GN (nh : Nat → Nat) (nc : Nat) (mt : Nat → Nat) : Prop := nc ≤ 16 ∧ (∀ i, i < 4 → nh i ≤ 8) ∧ ∀ c, c < nc → mt c < 4
def GI (V : tF) (G : tG) (nh : Nat → Nat) (nc : Nat) (mt : Nat → Nat) : Prop := GM V ∧ GS V ∧ GP V ∧ GH V nh ∧ GC V G nc ∧ GT G nc ∧ GN nh nc mt
theorem GT.b {G : tG} {nc c : Nat} (h : GT G nc) (hn : nc ≤ 16) (hc : c < nc) : tn (G 118 c) ≤ 16000000000 := by
  have h1 := sumN_ge (f := fun c => tn (G 118 c)) nc c hc
  have h2 : sumN (fun c => tn (G 118 c)) nc ≤ 1000000000 * nc := h
  have h3 : tn (G 118 c) ≤ sumN (fun c => tn (G 118 c)) nc := h1
  omega
/-- sizes and draws as natural numbers -/
theorem sq_lt {W S : Nat} (h : W < S) : W * W < S * S := Nat.mul_lt_mul'' h h
theorem sq_le {W S : Nat} (h : W ≤ S) : W * W ≤ S * S := Nat.mul_le_mul h h
theorem sq_pos {S : Nat} (h : 0 < S) : 0 < S * S := Nat.mul_pos h h
def thN (S W : Nat) : Nat := 1000 - 1000 * W * W / (S * S)
def hdN (gn S h W : Nat) : Nat := h + gn * thN S W / 1000
theorem th_ok {S W : Nat} (hS : S ≤ 3000000) (h : W < S) : w_thin (nI S) (nI W) = nI (thN S W) ∧ thN S W ≤ 1000 := by
  have h1 := sq_lt h
  have h2 : S * S ≤ 3000000 * 3000000 := sq_le hS
  have h3 : 1000 * W * W = 1000 * (W * W) := Nat.mul_assoc _ _ _
  have h4 : 1000 * W * W / (S * S) ≤ 1000 := by
    refine Nat.div_le_of_le_mul ?_
    rw [h3, Nat.mul_comm (S * S)]
    exact Nat.mul_le_mul_left _ (by omega)
  refine ⟨?_, Nat.sub_le _ _⟩
  unfold w_thin thN
  rw [nI_l (by omega), nI_l (by omega), show (1000 : Int64) = lN 1000 from rfl, lN_mul, lN_mul, lN_mul, pk_lDiv (by omega) (by omega) (by omega), lN_i, show (1000 : Int32) = nI 1000 from rfl, pk_sub h4]
theorem hd_ok {V : tF} {m gn S h W : Nat} (hg : V 102 m = nI gn) (hg2 : gn ≤ 300) (hS : S ≤ 3000000) (hW : W < S) : w_hard V m (nI S) (nI h) (nI W) = nI (hdN gn S h W) ∧ hdN gn S h W ≤ h + 300 := by
  obtain ⟨e1, e2⟩ := th_ok hS hW
  have h1 : gn * thN S W ≤ 300 * 1000 := Nat.mul_le_mul hg2 e2
  refine ⟨?_, by unfold hdN; omega⟩
  unfold w_hard hdN
  rw [e1, hg, pk_mul, show (1000 : Int32) = nI 1000 from rfl, pk_div (by omega) (by decide) (by decide), nI_add]
theorem mul3 {a b c A B C : Nat} (h1 : a ≤ A) (h2 : b ≤ B) (h3 : c ≤ C) : a * b * c ≤ A * B * C := Nat.mul_le_mul (Nat.mul_le_mul h1 h2) h3
theorem ask_ok {V : tF} {m b fr S h W : Nat} (hb : V 101 m = nI b) (hb2 : b ≤ 200) (hf : V 106 0 = nI fr) (hf2 : fr ≤ 100) (hS : S ≤ 1000) (hh : h ≤ 100) (hW : W < S) : ∃ A : Nat, A ≤ 800000000 ∧ w_asks V m (nI S) (nI h) (nI W) = lN A := by
  have h1 := sq_lt hW
  have h2 : S * S ≤ 1000 * 1000 := sq_le hS
  have h3 : (S * S - W * W) * b * (100 + h) ≤ 1000000 * 200 * 200 := mul3 (by omega) hb2 (by omega)
  have e : w_ask1 V m (nI S) (nI h) (nI W) = lN ((S * S - W * W) * b * (100 + h) / 100) := by
    unfold w_ask1
    rw [nI_l (by omega), nI_l (by omega), hb, nI_l (by omega), lN_mul, lN_mul, lN_sub (by omega), lN_mul, show (100 : Int32) = nI 100 from rfl, nI_add, nI_l (by omega), lN_mul, show (100 : Int64) = lN 100 from rfl, pk_lDiv (by omega) (by decide) (by decide)]
  have h4 : (S * S - W * W) * b * (100 + h) / 100 ≤ 400000000 := by omega
  refine ⟨(S * S - W * W) * b * (100 + h) / 100 + (S * S - W * W) * b * (100 + h) / 100 * fr / 100, ?_, ?_⟩
  · have h5 : (S * S - W * W) * b * (100 + h) / 100 * fr ≤ 400000000 * 100 := Nat.mul_le_mul h4 hf2
    omega
  · have h5 : (S * S - W * W) * b * (100 + h) / 100 * fr ≤ 400000000 * 100 := Nat.mul_le_mul h4 hf2
    unfold w_asks
    rw [e, hf, nI_l (by omega), lN_mul, show (100 : Int64) = lN 100 from rfl, pk_lDiv (by omega) (by decide) (by decide), lN_add]
theorem bear_ok {V : tF} {m b gn sf S h W : Nat} {j : Int32} (hb : V 101 m = nI b) (hb2 : b ≤ 200) (hg : V 102 m = nI gn) (hg2 : gn ≤ 300) (hf : V 106 1 = nI sf) (hf2 : sf ≤ 100) (hS : S ≤ 1000) (hh : h ≤ 100) (hW : W < S) : ∃ A : Nat, A ≤ 1000000000 ∧ w_bears V m (nI S) (nI h) (nI W) j = lN A := by
  obtain ⟨e1, e2⟩ := hd_ok (V := V) (m := m) (h := h) hg hg2 (show S ≤ 3000000 by omega) hW
  have h2 : W * W ≤ 1000 * 1000 := sq_le (by omega)
  have h3 : W * W * b * (100 + hdN gn S h W) ≤ 1000000 * 200 * 500 := mul3 (by omega) hb2 (by omega)
  have e : w_bear1 V m (nI S) (nI h) (nI W) = lN (W * W * b * (100 + hdN gn S h W) / 100) := by
    unfold w_bear1
    rw [e1, nI_l (by omega), hb, nI_l (by omega), lN_mul, lN_mul, show (100 : Int32) = nI 100 from rfl, nI_add, nI_l (by omega), lN_mul, show (100 : Int64) = lN 100 from rfl, pk_lDiv (by omega) (by decide) (by decide)]
  have key : ∀ x : Nat, x ≤ 1000000000 → ∃ A : Nat, A ≤ 1000000000 ∧ lN x * (V 106 1).toInt64 / 100 = lN A := by
    intro x hx
    have h5 : x * sf ≤ 1000000000 * 100 := Nat.mul_le_mul hx hf2
    refine ⟨x * sf / 100, by omega, ?_⟩
    rw [hf, nI_l (by omega), lN_mul, show (100 : Int64) = lN 100 from rfl, pk_lDiv (by omega) (by decide) (by decide)]
  unfold w_bears
  rw [e]
  by_cases hj : 0 < j
  · rw [if_pos hj, show (8 : Int64) = lN 8 from rfl, lN_mul, show (10 : Int64) = lN 10 from rfl, pk_lDiv (by omega) (by decide) (by decide)]
    exact key _ (by omega)
  · rw [if_neg hj]
    exact key _ (by omega)
theorem pull_ok {V : tF} (hP : GP V) (hS : GS V) {u : Nat} (hu : u < 3) : ∃ A : Nat, A ≤ 100000000 ∧ w_pull V u = lN A := by
  unfold w_pull
  by_cases h : u = 0
  · rw [if_pos h]
    obtain ⟨⟨n, -, h2, e⟩, -⟩ := hP 0 (by decide)
    obtain ⟨m, -, h4, e2⟩ := hS.2.2.1
    have h5 : n * m ≤ 100000000 * 10 := Nat.mul_le_mul h2 h4
    refine ⟨n * m / 10, by omega, ?_⟩
    rw [e, e2, nI_l (by omega), nI_l (by omega), lN_mul, show (10 : Int64) = lN 10 from rfl, pk_lDiv (by omega) (by decide) (by decide)]
  · rw [if_neg h]
    obtain ⟨⟨n, -, h2, e⟩, -⟩ := hP u hu
    exact ⟨n, h2, by rw [e, nI_l (by omega)]⟩
/-- a hole's width -/
theorem wide_ok {V : tF} {nh : Nat → Nat} (hH : GH V nh) {i j : Nat} (hi : i < 4) (hj : j < nh i) : ∃ n w : Nat, 20 ≤ n ∧ n ≤ 1000 ∧ w ≤ 2000000000 ∧ V 111 (8 * i + j) = nI n ∧ V 112 (8 * i + j) = nI w ∧ w_wide V (8 * i + j) = nI (n + w / 1000) := by
  obtain ⟨⟨n, h1, h2, e1⟩, ⟨w, -, h4, e2⟩, -⟩ := hH i j hi hj
  refine ⟨n, w, h1, h2, h4, e1, e2, ?_⟩
  unfold w_wide
  rw [e1, e2, show (1000 : Int32) = nI 1000 from rfl, pk_div (by omega) (by decide) (by decide), nI_add]
theorem rf_ag {V : tF} {nh : Nat → Nat} (hM : GM V) (hS : GS V) (hP : GP V) (hH : GH V nh) {m S h i k u : Nat} {j : Int32} (hm : m < 4) (hS1 : S ≤ 1000) (hh : h ≤ 100) (hi : i < 4) (hk : k < nh i) (hu : u < 3) : w_rf V m j (nI S) (nI h) (8 * i + k) (w_pull V u).toInt32 = if w_ag V m j (nI S) (nI h) (8 * i + k) u = 1 then 0 else w_ag V m j (nI S) (nI h) (8 * i + k) u := by
  obtain ⟨n, w, h1, h2, h3, e1, e2, e3⟩ := wide_ok hH hi hk
  obtain ⟨⟨b, -, hb, eb⟩, ⟨gn, -, hg, eg⟩, -⟩ := hM m hm
  obtain ⟨pu, hpu, ep⟩ := pull_ok hP hS hu
  obtain ⟨⟨fr, -, hf, ef⟩, ⟨sf, -, hs, es⟩, -⟩ := hS
  unfold w_rf w_ag
  by_cases c1 : V 111 (8 * i + k) + 50 < w_wide V (8 * i + k) ∨ ¬ w_wide V (8 * i + k) < nI S
  · rw [if_pos c1, if_pos c1]
    decide
  · rw [if_neg c1, if_neg c1]
    have hW : w_wide V (8 * i + k) < nI S := Classical.byContradiction (fun q => c1 (Or.inr q))
    rw [e3] at hW ⊢
    have hlt : n + w / 1000 < S := (nI_ltI (by omega) (by omega)).mp hW
    by_cases c2 : V 103 m < w_hard V m (nI S) (nI h) (nI (n + w / 1000))
    · rw [if_pos c2, if_pos c2]
      decide
    · rw [if_neg c2, if_neg c2]
      obtain ⟨A, hA, eA⟩ := ask_ok (V := V) (m := m) eb hb ef hf hS1 hh hlt
      obtain ⟨D, hD, eD⟩ := bear_ok (V := V) (m := m) (j := j) eb hb eg hg es hs hS1 hh hlt
      rw [eA, eD, ep, lN_i, lN_i, lN_i]
      by_cases c3 : D < A
      · rw [if_pos (nI_lt c3 (by omega)), if_pos ((pk_lLT (by omega) (by omega)).mpr c3)]
        decide
      · rw [if_neg (fun q => c3 ((nI_ltI (by omega) (by omega)).mp q)), if_neg (fun q => c3 ((pk_lLT (by omega) (by omega)).mp q))]
        by_cases c4 : pu < A
        · rw [if_pos (nI_lt c4 (by omega)), if_pos ((pk_lLT (by omega) (by omega)).mpr c4)]
          decide
        · rw [if_neg (fun q => c4 ((nI_ltI (by omega) (by omega)).mp q)), if_neg (fun q => c4 ((pk_lLT (by omega) (by omega)).mp q))]
          decide
