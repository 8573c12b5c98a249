/-! notes of the class: counts by kinds -/
theorem cntF_y {F : tF} {no i : Nat} (hi : i < no) (h : ¬ vF F 127 i = 0) : cntF (vF F 127) (min i no) + 1 = cntF (vF F 127) (min (i + 1) no) := by
  rw [show min i no = i by omega, show min (i + 1) no = i + 1 by omega, cntF, if_neg h]
theorem cntF_n {F : tF} {no i : Nat} (h : i < no → vF F 127 i = 0) : cntF (vF F 127) (min i no) = cntF (vF F 127) (min (i + 1) no) := by
  by_cases hi : i < no
  · rw [show min i no = i by omega, show min (i + 1) no = i + 1 by omega, cntF, if_pos (h hi), Int32.add_zero]
  · rw [show min (i + 1) no = min i no by omega]
/-- how many of the first notes have these bits and are whole (z) or broken -/
def cN (F : tF) (b : Nat) (z : Bool) : Nat → Nat
  | 0 => 0
  | k + 1 => cN F b z k + (if F 129 k = nI b ∧ decide (F 130 k = 0) = z then 1 else 0)
theorem cN_le (F : tF) (b : Nat) (z : Bool) : ∀ k, cN F b z k ≤ k
  | 0 => Nat.le_refl 0
  | k + 1 => by
    have := cN_le F b z k
    simp only [cN]
    split <;> omega
def NK (F : tF) (nn : Nat) : Prop := (∀ b, b < 8 → F 77 b = nI (cN F b false nn) ∧ F 78 b = nI (cN F b true nn)) ∧ (∀ k, k < nn → ∃ b, b < 8 ∧ F 129 k = nI b) ∧ nn ≤ 60 ∧ F 76 2 = nI nn
def mB (ca : Int32) (wh b : Nat) : Bool := decide ((nI b >>> (ca &&& 31)) &&& 1 = (if wh < 2 then (1 : Int32) else 0))
def shr (F : tF) (ca : Int32) (wh nn : Nat) : Nat → Nat
  | 0 => 0
  | b + 1 => shr F ca wh nn b + (if mB ca wh b = true then cN F b (decide (wh % 2 = 1)) nn else 0)
theorem bit01 (x : Int32) : x &&& 1 = 0 ∨ x &&& 1 = 1 := by
  rw [pk_and x (m := 1) 1 (by decide)]
  rcases (show x.toBitVec.toNat % 2 ^ 1 = 0 ∨ x.toBitVec.toNat % 2 ^ 1 = 1 by omega) with h | h <;> rw [h]
  · exact Or.inl rfl
  · exact Or.inr rfl
theorem kind_iff {F : tF} {ca : Int32} {k b wh : Nat} (hb : F 129 k = nI b) (hw : wh < 4) : n_kind F ca k = wh ↔ (mB ca wh b = true ∧ decide (F 130 k = 0) = decide (wh % 2 = 1)) := by
  unfold n_kind mB
  rw [hb]
  have h01 := bit01 (nI b >>> (ca &&& 31))
  have e10 : ¬ (1 : Int32) = 0 := by decide
  have e01 : ¬ (0 : Int32) = 1 := by decide
  rcases (show wh = 0 ∨ wh = 1 ∨ wh = 2 ∨ wh = 3 by omega) with h | h | h | h <;> subst h <;> rcases h01 with h1 | h1 <;> rw [h1] <;> by_cases hz : F 130 k = 0 <;> simp [hz, e10, e01]
theorem shr_step {F : tF} {ca : Int32} {wh nn b0 : Nat} (hb : F 129 nn = nI b0) (h8 : b0 < 8) (hw : wh < 4) : ∀ m, m ≤ 8 → shr F ca wh (nn + 1) m = shr F ca wh nn m + (if b0 < m ∧ n_kind F ca nn = wh then 1 else 0)
  | 0, _ => by simp [shr]
  | m + 1, hm => by
    have ih := shr_step (F := F) (ca := ca) (nn := nn) hb h8 hw m (by omega)
    simp only [shr, ih]
    by_cases e : b0 = m
    · subst e
      have hk := kind_iff (F := F) (ca := ca) (k := nn) hb hw
      by_cases hm1 : mB ca wh b0 = true
      · by_cases hz : decide (F 130 nn = 0) = decide (wh % 2 = 1)
        · have := hk.mpr ⟨hm1, hz⟩
          simp only [cN, hm1, hb, hz, this, if_true, and_self, Nat.lt_irrefl, false_and, if_false, Nat.lt_succ_self]
          omega
        · have hn : ¬ n_kind F ca nn = wh := fun q => hz (hk.mp q).2
          simp only [cN, hm1, hz, hn, if_true, and_false, if_false, Nat.add_zero]
      · have hn : ¬ n_kind F ca nn = wh := fun q => hm1 (hk.mp q).1
        simp only [hm1, hn, and_false, if_false, Nat.add_zero, Bool.false_eq_true]
    · have hne : ¬ (F 129 nn = nI m ∧ decide (F 130 nn = 0) = decide (wh % 2 = 1)) := by
        rintro ⟨q, -⟩
        rw [hb] at q
        exact e ((nI_eq (by omega) (by omega)).mp q)
      have h2 : (b0 < m + 1 ∧ n_kind F ca nn = wh) ↔ (b0 < m ∧ n_kind F ca nn = wh) := by
        constructor
        · rintro ⟨q1, q2⟩; exact ⟨by omega, q2⟩
        · rintro ⟨q1, q2⟩; exact ⟨by omega, q2⟩
      simp only [cN, hne, h2, if_false, Nat.add_zero]
      omega
theorem shr_tl {F : tF} {ca : Int32} {wh : Nat} (hw : wh < 4) : ∀ nn, (∀ k, k < nn → ∃ b, b < 8 ∧ F 129 k = nI b) → shr F ca wh nn 8 = tlN F ca wh nn
  | 0, _ => by
    have : ∀ m, shr F ca wh 0 m = 0 := by
      intro m
      induction m with
      | zero => rfl
      | succ m ih => simp [shr, ih, cN]
    rw [this]
    rfl
  | nn + 1, h => by
    obtain ⟨b, hb, e⟩ := h nn (Nat.lt_succ_self nn)
    rw [shr_step e hb hw 8 (Nat.le_refl 8), shr_tl hw nn (fun k hk => h k (by omega))]
    simp only [tlN, hb, true_and]
theorem shr_1 {F : tF} {ca : Int32} {wh nn b : Nat} (h : mB ca wh b = true) : nI (shr F ca wh nn b) + nI (cN F b (decide (wh % 2 = 1)) nn) = nI (shr F ca wh nn (b + 1)) := by
  simp only [shr, h, if_true]
  exact nI_add _ _
theorem shr_0 {F : tF} {ca : Int32} {wh nn b : Nat} (h : ¬ mB ca wh b = true) : shr F ca wh nn b = shr F ca wh nn (b + 1) := by
  simp only [shr, h, if_false, Nat.add_zero, Bool.false_eq_true]
/-- Euclid's steps are few -/
theorem eu_half {u v : Nat} (hv : 0 < v) (h : v ≤ u) : v * (u % v) * 2 ≤ u * v := by
  have h1 := Nat.mod_lt u hv
  have h2 : v + u % v ≤ u := by
    have := Nat.div_add_mod u v
    have h3 : 1 ≤ u / v := (Nat.le_div_iff_mul_le hv).mpr (by omega)
    have h4 : v * 1 ≤ v * (u / v) := Nat.mul_le_mul_left v h3
    omega
  have h3 : u % v * 2 ≤ u := by omega
  calc v * (u % v) * 2 = v * (u % v * 2) := Nat.mul_assoc _ _ _
    _ ≤ v * u := Nat.mul_le_mul_left v h3
    _ = u * v := Nat.mul_comm _ _
def eu_inv (x y u v i : Nat) : Prop := Nat.gcd u v = Nat.gcd x y ∧ u < 2 ^ 30 ∧ v < 2 ^ 30 ∧ (i = 0 ∨ (v ≤ u ∧ 0 < u ∧ u * v * 2 ^ (i - 1) ≤ 2 ^ 60))
theorem eu_0 {x y : Nat} (hx : x < 2 ^ 30) (hy : y < 2 ^ 30) : eu_inv x y x y 0 := ⟨rfl, hx, hy, Or.inl rfl⟩
theorem eu_s {x y u v i : Nat} (h : eu_inv x y u v i) (hv : 0 < v) : eu_inv x y v (u % v) (i + 1) := by
  obtain ⟨h1, h2, h3, h4⟩ := h
  have hm := Nat.mod_lt u hv
  refine ⟨(gc_step u v).trans h1, h3, by omega, Or.inr ⟨by omega, hv, ?_⟩⟩
  rw [Nat.add_sub_cancel]
  rcases h4 with h4 | ⟨h5, h6, h7⟩
  · subst h4
    rw [Nat.pow_zero, Nat.mul_one]
    have : v * (u % v) ≤ 2 ^ 30 * 2 ^ 30 := Nat.mul_le_mul (by omega) (by omega)
    omega
  · cases i with
    | zero =>
      have : v * (u % v) ≤ 2 ^ 30 * 2 ^ 30 := Nat.mul_le_mul (by omega) (by omega)
      rw [Nat.pow_zero, Nat.mul_one]
      omega
    | succ i =>
      rw [Nat.add_sub_cancel] at h7
      have h8 := eu_half hv h5
      calc v * (u % v) * 2 ^ (i + 1) = v * (u % v) * 2 * 2 ^ i := by rw [Nat.pow_succ, Nat.mul_assoc (v * (u % v)) 2, Nat.mul_comm 2]
        _ ≤ u * v * 2 ^ i := Nat.mul_le_mul_right _ h8
        _ ≤ 2 ^ 60 := h7
theorem eu_e {x y u v : Nat} (h : eu_inv x y u v 64) : v = 0 := by
  obtain ⟨-, -, -, h4⟩ := h
  rcases h4 with h4 | ⟨-, h6, h7⟩
  · omega
  · rcases Nat.eq_zero_or_pos v with h | h
    · exact h
    · have : 1 * 1 ≤ u * v := Nat.mul_le_mul h6 h
      have h8 : 1 * 2 ^ 63 ≤ u * v * 2 ^ (64 - 1) := Nat.mul_le_mul_right _ (by omega)
      omega
