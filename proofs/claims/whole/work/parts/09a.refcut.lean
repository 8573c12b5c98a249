/-! cuttings of the reference: the search, order by order -/
def ups (p : Nat → Nat) (k c : Nat) : Nat → Nat := fun o => if o = k then c else p o
theorem ups_s (p : Nat → Nat) (k c : Nat) : ups p k c k = c := if_pos rfl
theorem ups_n {p : Nat → Nat} {k c o : Nat} (h : o ≠ k) : ups p k c o = p o := if_neg h
theorem ups_l (p : Nat → Nat) (k c : Nat) : ∀ o, o < k → ups p k c o = p o := fun o h => ups_n (by omega)
theorem Dp_ups (p : Nat → Nat) (k c : Nat) : Dp (ups p k c) (k + 1) = Dp p k + c * pw (k + 1) := by
  show Dp (ups p k c) k + ups p k c k * pw (k + 1) = _
  rw [Dp_congr (ups_l p k c), ups_s]
theorem cf_ups (fe p : Nat → Nat) (k c x : Nat) : cf fe (ups p k c) x (k + 1) = cf fe p x k + (if c = x then fe k else 0) := by
  show cf fe (ups p k c) x k + (if ups p k c k = x then fe k else 0) = _
  rw [cf_congr (ups_l p k c), ups_s]
theorem uc_ups (p : Nat → Nat) (k c x : Nat) : uc (ups p k c) x (k + 1) = uc p x k + (if c = x then 1 else 0) := by
  show uc (ups p k c) x k + (if ups p k c k = x then 1 else 0) = _
  rw [uc_congr (ups_l p k c), ups_s]
theorem tf_ups (fe p : Nat → Nat) (k c : Nat) : tf fe (ups p k c) (k + 1) = tf fe p k + (if c < 16 then fe k else 0) := by
  show tf fe (ups p k c) k + (if ups p k c k < 16 then fe k else 0) = _
  rw [tf_congr (ups_l p k c), ups_s]
theorem cu_ups (p : Nat → Nat) (k c : Nat) : cu (ups p k c) (k + 1) = cu p k + (if c < 16 ∧ uc p c k = 0 then 1 else 0) := by
  have e : ∀ x, x < 16 → (if uc (ups p k c) x (k + 1) = 0 then 0 else 1) = (if uc p x k = 0 then 0 else 1) + (if c < 16 ∧ uc p c k = 0 then (if x = c then 1 else 0) else 0) := by
    intro x hx
    rw [uc_ups]
    by_cases h : c = x
    · subst h
      by_cases h2 : uc p c k = 0
      · simp [h2, hx]
      · simp [h2]
    · by_cases h2 : uc p x k = 0
      · simp [h, h2, Ne.symm h]
      · simp [h, h2, Ne.symm h]
  unfold cu
  rw [sumN_congr 16 e, sumN_add]
  congr 1
  by_cases h : c < 16 ∧ uc p c k = 0
  · simp only [h, and_self, if_true]
    rw [sumN_ind, if_pos h.1]
  · simp only [h, if_false]
    exact sumN_z 16 (fun _ _ => rfl)
theorem cu_mono {b p : Nat → Nat} {k : Nat} (h : ∀ o, o < k → b o = p o) (hk : k ≤ 6) : cu p k ≤ cu b 6 := by
  refine sumN_le 16 (fun c _ => ?_)
  have h1 : uc p c k ≤ uc b c 6 := by
    rw [← uc_congr (a := b) h]
    have := sumN_mono (fun o => if b o = c then 1 else 0) k (6 - k)
    rw [show k + (6 - k) = 6 by omega] at this
    exact this
  by_cases h2 : uc p c k = 0
  · simp [h2]
  · have h3 : ¬ uc b c 6 = 0 := by omega
    simp [h2, h3]
theorem cf_mono {fe b p : Nat → Nat} {c k : Nat} (h : ∀ o, o < k → b o = p o) (hk : k ≤ 6) : cf fe p c k ≤ cf fe b c 6 := by
  rw [← cf_congr (a := b) h]
  have := sumN_mono (fun o => if b o = c then fe o else 0) k (6 - k)
  rw [show k + (6 - k) = 6 by omega] at this
  exact this
theorem pw_s {k : Nat} (hk : k < 6) : pw k = 17 * pw (k + 1) := by
  rcases (show k = 0 ∨ k = 1 ∨ k = 2 ∨ k = 3 ∨ k = 4 ∨ k = 5 by omega) with h | h | h | h | h | h <;> subst h <;> rfl
def kl (q : CP) (a b : Nat → Nat) : Prop := tf q.1 b 6 < tf q.1 a 6 ∨ (tf q.1 b 6 = tf q.1 a 6 ∧ rkA a ≤ rkA b)
/-- the best of all cuttings whose digits are below D -/
def IVb (q : CP) : Option (Nat → Nat) → Nat → Prop
  | none, D => ∀ b, Vd q b → ¬ Dp b 6 < D
  | some a, D => Vd q a ∧ Dp a 6 < D ∧ ∀ b, Vd q b → Dp b 6 < D → kl q a b
theorem IVb_0 (q : CP) : IVb q none 0 := fun _ _ h => absurd h (Nat.not_lt_zero _)
/-- nothing between -/
theorem IVb.ext {q : CP} {bo : Option (Nat → Nat)} {D D' : Nat} (h : IVb q bo D) (hD : D ≤ D') (hn : ∀ b, Vd q b → D ≤ Dp b 6 → Dp b 6 < D' → ∃ a, bo = some a ∧ kl q a b) : IVb q bo D' := by
  cases bo with
  | none =>
    intro b hb hl
    rcases Nat.lt_or_ge (Dp b 6) D with q1 | q1
    · exact h b hb q1
    · obtain ⟨a, e, -⟩ := hn b hb q1 hl
      cases e
  | some a =>
    obtain ⟨h1, h2, h3⟩ := h
    refine ⟨h1, by omega, fun b hb hl => ?_⟩
    rcases Nat.lt_or_ge (Dp b 6) D with q1 | q1
    · exact h3 b hb q1
    · obtain ⟨a', e, hk⟩ := hn b hb q1 hl
      cases e
      exact hk
theorem rk_1 {x y d e f : Nat} (h8 : x + 24137569 ≤ y) (h6 : y + d ≤ f) (d2 : e ≤ 24137568) : x + e ≤ f := by omega
/-- one more is looked at -/
theorem IVb.leaf {q : CP} {bo : Option (Nat → Nat)} {p : Nat → Nat} {D D' : Nat} (h : IVb q bo D) (hp : Vd q p) (h1 : D ≤ Dp p 6) (h2 : Dp p 6 < D') (hu : ∀ b, Vd q b → D ≤ Dp b 6 → Dp b 6 < D' → ∀ o, o < 6 → b o = p o) (hb : ∀ a, bo = some a → tf q.1 a 6 < tf q.1 p 6 ∨ (tf q.1 p 6 = tf q.1 a 6 ∧ cu p 6 < cu a 6)) : IVb q (some p) D' := by
  refine ⟨hp, h2, fun b hv hl => ?_⟩
  rcases Nat.lt_or_ge (Dp b 6) D with q1 | q1
  · cases bo with
    | none => exact absurd q1 (h b hv)
    | some a =>
      have h3 := h.2.2 b hv q1
      have h4 := hb a rfl
      have d1 := Dp_b h.1.d
      have d2 := Dp_b hp.d
      have d3 := Dp_b hv.d
      unfold kl at h3 ⊢
      unfold rkA at h3 ⊢
      rcases h4 with h4 | ⟨h4, h5⟩
      · left
        omega
      · rcases h3 with h3 | ⟨h3, h6⟩
        · left
          omega
        · right
          refine ⟨by omega, ?_⟩
          have h7 : cu p 6 + 1 ≤ cu a 6 := h5
          have h8 : (cu p 6 + 1) * 24137569 ≤ cu a 6 * 24137569 := Nat.mul_le_mul_right _ h7
          rw [Nat.add_mul, Nat.one_mul] at h8
          exact rk_1 h8 h6 d2
  · have e := hu b hv q1 hl
    right
    rw [tf_congr e, rkA_congr e]
    exact ⟨rfl, Nat.le_refl _⟩
/-- it is no better -/
theorem IVb.leaf0 {q : CP} {a p : Nat → Nat} {D D' : Nat} (h : IVb q (some a) D) (hD : D ≤ D') (hu : ∀ b, Vd q b → D ≤ Dp b 6 → Dp b 6 < D' → ∀ o, o < 6 → b o = p o) (hb : ¬ (tf q.1 a 6 < tf q.1 p 6 ∨ (tf q.1 p 6 = tf q.1 a 6 ∧ cu p 6 < cu a 6))) : IVb q (some a) D' := by
  refine h.ext hD (fun b hv q1 q2 => ⟨a, rfl, ?_⟩)
  have e := hu b hv q1 q2
  have d1 := h.2.1
  have d2 : Dp b 6 = Dp p 6 := Dp_congr e
  unfold kl rkA
  rw [tf_congr e, cu_congr e]
  by_cases h1 : tf q.1 p 6 < tf q.1 a 6
  · exact Or.inl h1
  · right
    refine ⟨by omega, ?_⟩
    have h7 : cu a 6 ≤ cu p 6 := by omega
    have h8 : cu a 6 * 24137569 ≤ cu p 6 * 24137569 := Nat.mul_le_mul_right _ h7
    exact Nat.add_le_add h8 (by omega)
/-- prefixes that may be -/
def PVd (q : CP) (p : Nat → Nat) (k : Nat) : Prop := (∀ o, o < k → p o ≤ 16 ∧ (p o < 16 → q.2.2 (p o) o = true)) ∧ ∀ c, c < 16 → cf q.1 p c k ≤ q.2.1 c
theorem PVd.ps {q : CP} {p : Nat → Nat} {k c : Nat} (h : PVd q p k) (hc : c ≤ 16) (ho : c < 16 → q.2.2 c k = true ∧ cf q.1 p c k + q.1 k ≤ q.2.1 c) : PVd q (ups p k c) (k + 1) := by
  refine ⟨fun o hk => ?_, fun x hx => ?_⟩
  · by_cases e : o = k
    · subst e
      rw [ups_s]
      exact ⟨hc, fun h9 => (ho h9).1⟩
    · rw [ups_n e]
      exact h.1 o (by omega)
  · rw [cf_ups]
    by_cases e : c = x
    · subst e
      rw [if_pos rfl]
      exact (ho hx).2
    · rw [if_neg e]
      exact h.2 x hx
theorem PVd.un {q : CP} {p : Nat → Nat} {k c : Nat} (h : PVd q (ups p k c) (k + 1)) : PVd q p k ∧ c ≤ 16 ∧ (c < 16 → q.2.2 c k = true ∧ cf q.1 p c k + q.1 k ≤ q.2.1 c) := by
  refine ⟨⟨fun o hk => ?_, fun x hx => ?_⟩, ?_, fun hc => ⟨?_, ?_⟩⟩
  · have := h.1 o (by omega)
    rwa [ups_n (by omega)] at this
  · have := h.2 x hx
    rw [cf_ups] at this
    omega
  · have := (h.1 k (by omega)).1
    rwa [ups_s] at this
  · have := (h.1 k (by omega)).2
    rw [ups_s] at this
    exact this hc
  · have := h.2 c hc
    rw [cf_ups, if_pos rfl] at this
    exact this
/-- cuttings with this prefix and this next coil -/
theorem pre_c {q : CP} {p b : Nat → Nat} {k c : Nat} (hk : k < 6) (hp : ∀ o, o < k → p o ≤ 16) (hb : Vd q b) (hc : c ≤ 16) (h1 : Dp p k + c * pw (k + 1) ≤ Dp b 6) (h2 : Dp b 6 < Dp p k + (c + 1) * pw (k + 1)) : (∀ o, o < k → b o = p o) ∧ b k = c := by
  have h := Dp_rng (b := b) (p := ups p k c) (k := k + 1) (by omega) hb.d (fun o ho => by
    by_cases e : o = k
    · rw [e, ups_s]; exact hc
    · rw [ups_n e]; exact hp o (by omega)) (by rw [Dp_ups]; exact h1) (by rw [Dp_ups, Nat.add_assoc, ← Nat.succ_mul]; exact h2)
  refine ⟨fun o ho => ?_, ?_⟩
  · rw [h o (by omega), ups_n (by omega)]
  · rw [h k (by omega), ups_s]
/-- a coil that may not be is passed over -/
theorem IVb.skip {q : CP} {bo : Option (Nat → Nat)} {p : Nat → Nat} {k c : Nat} (h : IVb q bo (Dp p k + c * pw (k + 1))) (hk : k < 6) (hp : ∀ o, o < k → p o ≤ 16) (hc : c < 16) (hn : ¬ (q.2.2 c k = true ∧ cf q.1 p c k + q.1 k ≤ q.2.1 c)) : IVb q bo (Dp p k + (c + 1) * pw (k + 1)) := by
  refine h.ext (by rw [Nat.succ_mul]; omega) (fun b hb h1 h2 => ?_)
  obtain ⟨e1, e2⟩ := pre_c hk hp hb (by omega) h1 h2
  refine absurd ⟨?_, ?_⟩ hn
  · have := (hb.1 k (by omega)).2 (by omega)
    rwa [e2] at this
  · have h3 := hb.2 c hc
    have h4 := cf_mono (fe := q.1) (b := b) (p := b) (c := c) (k := k + 1) (fun _ _ => rfl) (by omega)
    have h5 : cf q.1 b c (k + 1) = cf q.1 b c k + (if b k = c then q.1 k else 0) := rfl
    rw [if_pos e2, cf_congr e1] at h5
    omega
/-- feet that are left to give -/
theorem tf_rest {q : CP} {p b : Nat → Nat} {k no : Nat} {uf : Nat → Nat} (hk : k ≤ no) (hno : no ≤ 6) (he : ∀ o, o < k → b o = p o) (hz : ∀ o, no ≤ o → o < 6 → ¬ b o < 16) (hu : ∀ o, o < no → b o < 16 → q.1 o ≤ uf o) : tf q.1 b 6 ≤ tf q.1 p k + (sumN uf no - sumN uf k) := by
  have h1 : ∀ d, k + d ≤ no → tf q.1 b (k + d) + sumN uf k ≤ tf q.1 p k + sumN uf (k + d) := by
    intro d
    induction d with
    | zero => intro _; rw [Nat.add_zero, tf_congr he]; exact Nat.le_refl _
    | succ d ih =>
      intro hd
      have ih := ih (by omega)
      show tf q.1 b (k + d) + (if b (k + d) < 16 then q.1 (k + d) else 0) + sumN uf k ≤ tf q.1 p k + (sumN uf (k + d) + uf (k + d))
      by_cases h : b (k + d) < 16
      · rw [if_pos h]
        have := hu (k + d) (by omega) h
        omega
      · rw [if_neg h]
        omega
  have h2 := h1 (no - k) (by omega)
  rw [show k + (no - k) = no by omega] at h2
  have h3 : ∀ d, no + d ≤ 6 → tf q.1 b (no + d) = tf q.1 b no := by
    intro d
    induction d with
    | zero => intro _; rfl
    | succ d ih =>
      intro hd
      show tf q.1 b (no + d) + (if b (no + d) < 16 then q.1 (no + d) else 0) = _
      rw [if_neg (hz _ (by omega) (by omega)), Nat.add_zero]
      exact ih (by omega)
  have h4 := h3 (6 - no) (by omega)
  rw [show no + (6 - no) = 6 by omega] at h4
  omega
/-- no hope: what comes is no better -/
theorem IVb.cut {q : CP} {a p : Nat → Nat} {k c no rest : Nat} (h : IVb q (some a) (Dp p k + c * pw (k + 1))) (hk : k < 6) (hp : ∀ o, o < k → p o ≤ 16) (hc : c ≤ 17) (hr : ∀ b, Vd q b → (∀ o, o < k → b o = p o) → tf q.1 b 6 ≤ tf q.1 p k + rest) (hh : tf q.1 p k + rest < tf q.1 a 6 ∨ (tf q.1 p k + rest = tf q.1 a 6 ∧ cu a 6 ≤ cu p k)) : IVb q (some a) (Dp p k + pw k) := by
  have h17 := pw_s hk
  have hm : c * pw (k + 1) ≤ 17 * pw (k + 1) := Nat.mul_le_mul_right _ hc
  refine h.ext (by omega) (fun b hb h1 h2 => ⟨a, rfl, ?_⟩)
  have e := Dp_rng (by omega) hb.d hp (by omega) h2
  have h3 := hr b hb e
  have h4 := cu_mono e (by omega)
  have h5 := h.2.1
  unfold kl rkA
  by_cases h6 : tf q.1 b 6 < tf q.1 a 6
  · exact Or.inl h6
  · right
    refine ⟨by omega, ?_⟩
    have h7 : cu a 6 ≤ cu b 6 := by omega
    have h8 : cu a 6 * 24137569 ≤ cu b 6 * 24137569 := Nat.mul_le_mul_right _ h7
    exact Nat.add_le_add h8 (by omega)
/-- all looked at -/
theorem IVb.opt {q : CP} {bo : Option (Nat → Nat)} (h : IVb q bo 24137569) (hv : ∃ b, Vd q b) : ∃ a, bo = some a ∧ Opt q a := by
  cases bo with
  | none =>
    obtain ⟨b, hb⟩ := hv
    have := Dp_b hb.d
    exact absurd (show Dp b 6 < 24137569 by omega) (h b hb)
  | some a =>
    refine ⟨a, rfl, h.1, fun b hb => ?_⟩
    have := Dp_b hb.d
    exact h.2.2 b hb (by omega)
/-- the machine's cells -/
def MSc (q : CP) (F1 : tF) (p : Nat → Nat) (k : Nat) : Prop := ∀ c, c < 16 → F1 145 c = nI (q.2.1 c - cf q.1 p c k) ∧ F1 146 c = nI (uc p c k)
def MSh (no : Nat) (F1 : tF) (p : Nat → Nat) (k : Nat) : Prop := (∀ j, j < k → F1 143 j = nI (p j)) ∧ ∀ j, k ≤ j → j < no → F1 143 j = -1
def BSt (q : CP) (no : Nat) (F1 : tF) : Option (Nat → Nat) → Prop
  | none => F1 100 46 = -1 ∧ F1 100 47 = 0
  | some a => F1 100 46 = nI (tf q.1 a 6) ∧ F1 100 47 = nI (cu a 6) ∧ ∀ o, o < no → F1 144 o = if a o < 16 then nI (a o) else -1
def AGf (F F1 : tF) : Prop := (∀ k, k ≠ 100 → k ≠ 143 → k ≠ 144 → k ≠ 145 → k ≠ 146 → F1 k = F k) ∧ ∀ j, j ≠ 46 → j ≠ 47 → F1 100 j = F 100 j
def ufN (F : tF) (q : CP) (o : Nat) : Nat := if F 127 o = 0 then q.1 o else 0
def rsN (F : tF) (q : CP) (no k : Nat) : Nat := sumN (ufN F q) no - sumN (ufN F q) k
theorem rsN_s {F : tF} {q : CP} {no k : Nat} (h : k < no) : rsN F q no k = rsN F q no (k + 1) + ufN F q k := by
  have h1 := sumN_mono (ufN F q) (k + 1) (no - (k + 1))
  rw [show k + 1 + (no - (k + 1)) = no by omega] at h1
  have h2 : sumN (ufN F q) (k + 1) = sumN (ufN F q) k + ufN F q k := rfl
  unfold rsN
  omega
/-- what the reference looks up -/
def QR (F : tF) (G : tG) (nc no : Nat) (q : CP) : Prop :=
  (∀ o, o < no → F 126 o = nI (q.1 o) ∧ q.1 o ≤ 10000) ∧ (∀ c, c < nc → 0 < G 118 c → w_feet F G c = nI (q.2.1 c)) ∧ (∀ c, c < 16 → q.2.1 c ≤ 40000000) ∧ (∀ c, c < 16 → ¬ (c < nc ∧ 0 < G 118 c) → q.2.1 c = 0) ∧
  (∀ o c, o < no → c < 16 → (q.2.2 c o = true ↔ ok_coil G nc (nI c) = true ∧ F 127 o = 0 ∧ F 115 c = F 123 o ∧ F 124 o ≤ F 116 c ∧ F 116 c ≤ F 125 o)) ∧ ∀ o c, no ≤ o → o < 6 → ¬ q.2.2 c o = true
theorem QR.b {F : tF} {G : tG} {nc no : Nat} {q : CP} (h : QR F G nc no q) (hno : no ≤ 6) {a : Nat → Nat} {k : Nat} (hk : k ≤ no) : tf q.1 a k ≤ 60000 ∧ rsN F q no k ≤ 60000 ∧ cu a k ≤ 16 := by
  refine ⟨?_, ?_, cu_le a k⟩
  · have h1 : tf q.1 a k ≤ sumN (fun _ => 10000) k := sumN_le k (fun j hj => by
      have := (h.1 j (by omega)).2
      show (if a j < 16 then q.1 j else 0) ≤ 10000
      split <;> omega)
    have h2 : ∀ n, sumN (fun _ => 10000) n = 10000 * n := by
      intro n
      induction n with
      | zero => rfl
      | succ n ih => simp only [sumN, ih]; omega
    rw [h2] at h1
    omega
  · have h1 : sumN (ufN F q) no ≤ sumN (fun _ => 10000) no := sumN_le no (fun j hj => by
      have := (h.1 j hj).2
      unfold ufN
      split <;> omega)
    have h2 : ∀ n, sumN (fun _ => 10000) n = 10000 * n := by
      intro n
      induction n with
      | zero => rfl
      | succ n ih => simp only [sumN, ih]; omega
    rw [h2] at h1
    unfold rsN
    omega
theorem QR.z {F : tF} {G : tG} {nc no : Nat} {q : CP} (h : QR F G nc no q) {b : Nat → Nat} (hb : Vd q b) : ∀ o, no ≤ o → o < 6 → ¬ b o < 16 := fun o h1 h2 h3 => h.2.2.2.2.2 o _ h1 h2 ((hb.1 o h2).2 h3)
theorem QR.tf6 {F : tF} {G : tG} {nc no : Nat} {q : CP} (h : QR F G nc no q) (hno : no ≤ 6) {b : Nat → Nat} (hb : Vd q b) : tf q.1 b 6 = tf q.1 b no := by
  have hz := h.z hb
  have h3 : ∀ d, no + d ≤ 6 → tf q.1 b (no + d) = tf q.1 b no := by
    intro d
    induction d with
    | zero => intro _; rfl
    | succ d ih =>
      intro hd
      show tf q.1 b (no + d) + (if b (no + d) < 16 then q.1 (no + d) else 0) = _
      rw [if_neg (hz _ (by omega) (by omega)), Nat.add_zero]
      exact ih (by omega)
  have h4 := h3 (6 - no) (by omega)
  rw [show no + (6 - no) = 6 by omega] at h4
  exact h4
