/-! cuttings by sets: ranks of the sets, a coil after the other -/
def CH (q : CP) (i s : Nat) (a : Nat → Nat) : Prop := Vd q a ∧ (∀ o, o < 6 → a o < 16 → a o < i) ∧ ∀ o, o < 6 → s.testBit o = decide (a o < 16)
def BR (P : (Nat → Nat) → Prop) (v : Nat) : Prop := (v = 2147483647 ∧ ∀ b, ¬ P b) ∨ ∃ b, P b ∧ v = rkA b ∧ ∀ b', P b' → rkA b ≤ rkA b'
theorem BR.cg {P Q : (Nat → Nat) → Prop} {v : Nat} (h : BR P v) (e : ∀ b, P b ↔ Q b) : BR Q v := by
  rcases h with ⟨h1, h2⟩ | ⟨b, h1, h2, h3⟩
  · exact Or.inl ⟨h1, fun b hb => h2 b ((e b).mpr hb)⟩
  · exact Or.inr ⟨b, (e b).mp h1, h2, fun b' hb => h3 b' ((e b').mpr hb)⟩
theorem BR.or {P Q : (Nat → Nat) → Prop} {v w : Nat} (hp : BR P v) (hq : BR Q w) (hP : ∀ b, P b → rkA b < 500000000) (hQ : ∀ b, Q b → rkA b < 500000000) : BR (fun b => P b ∨ Q b) (min v w) := by
  rcases hp with ⟨h1, h2⟩ | ⟨b, h1, h2, h3⟩
  · rcases hq with ⟨k1, k2⟩ | ⟨d, k1, k2, k3⟩
    · refine Or.inl ⟨by omega, fun b hb => ?_⟩
      rcases hb with hb | hb
      · exact h2 b hb
      · exact k2 b hb
    · have := hQ d k1
      refine Or.inr ⟨d, Or.inr k1, by omega, fun b' hb => ?_⟩
      rcases hb with hb | hb
      · exact absurd hb (h2 b')
      · exact k3 b' hb
  · have hb1 := hP b h1
    rcases hq with ⟨k1, k2⟩ | ⟨d, k1, k2, k3⟩
    · refine Or.inr ⟨b, Or.inl h1, by omega, fun b' hb => ?_⟩
      rcases hb with hb | hb
      · exact h3 b' hb
      · exact absurd hb (k2 b')
    · rcases Nat.le_total v w with q | q
      · refine Or.inr ⟨b, Or.inl h1, by omega, fun b' hb => ?_⟩
        rcases hb with hb | hb
        · exact h3 b' hb
        · have := k3 b' hb
          omega
      · refine Or.inr ⟨d, Or.inr k1, by omega, fun b' hb => ?_⟩
        rcases hb with hb | hb
        · have := h3 b' hb
          omega
        · exact k3 b' hb
theorem BR.no {P : (Nat → Nat) → Prop} (h : ∀ b, ¬ P b) : BR P 2147483647 := Or.inl ⟨rfl, h⟩
/-- no coil yet -/
theorem CH_00 (q : CP) : BR (CH q 0 0) 24137568 := by
  refine Or.inr ⟨fun _ => 16, ⟨⟨fun o _ => ⟨Nat.le_refl 16, fun h => absurd (show (16 : Nat) < 16 from h) (by omega)⟩, fun c hc => ?_⟩, fun o _ h => absurd (show (16 : Nat) < 16 from h) (by omega), fun o _ => by simp⟩, rfl, fun b hb => ?_⟩
  · have : cf q.1 (fun _ => 16) c 6 = 0 := sumN_z 6 (fun j _ => if_neg (show ¬ (16 : Nat) = c by omega))
    omega
  · have h : ∀ o, o < 6 → b o = 16 := fun o ho => by
      have h1 := (hb.1.1 o ho).1
      have h2 := hb.2.1 o ho
      omega
    rw [rkA_congr (a := b) (b := fun _ => 16) h]
    exact Nat.le_refl _
theorem CH_0s {q : CP} {s : Nat} (hs : s < 64) (h0 : ¬ s = 0) : BR (CH q 0 s) 2147483647 := by
  refine BR.no (fun b hb => h0 (set_0 hs (fun o ho => ?_)))
  rw [hb.2.2 o ho]
  have h1 := hb.2.1 o ho
  simp only [decide_eq_false_iff_not]
  omega
theorem CH_skip {q : CP} {i s : Nat} (h : ∀ o, o < 6 → ¬ q.2.2 i o = true) (b : Nat → Nat) : CH q i s b ↔ CH q (i + 1) s b := by
  constructor
  · rintro ⟨h1, h2, h3⟩
    exact ⟨h1, fun o ho hb => by have := h2 o ho hb; omega, h3⟩
  · rintro ⟨h1, h2, h3⟩
    refine ⟨h1, fun o ho hb => ?_, h3⟩
    have h4 := h2 o ho hb
    have h5 := (h1.1 o ho).2 hb
    rcases (show b o < i ∨ b o = i by omega) with e | e
    · exact e
    · rw [e] at h5
      exact absurd h5 (h o ho)
/-- feet and digits of a set -/
def fsS (q : CP) (t : Nat) : Nat := sumN (fun o => if t.testBit o = true then q.1 o else 0) 6
def dsS (t : Nat) : Nat := sumN (fun o => if t.testBit o = true then pw (o + 1) else 0) 6
def upA (a : Nat → Nat) (t i : Nat) : Nat → Nat := fun o => if t.testBit o = true then i else a o
def enI (b : Nat → Nat) (i : Nat) : Nat := enc (fun o => decide (b o = i))
theorem enI_bt {b : Nat → Nat} {i o : Nat} (ho : o < 6) : (enI b i).testBit o = decide (b o = i) := enc_bt _ ho
/-- one coil more -/
theorem CH_give {q : CP} {i s t : Nat} {a : Nat → Nat} (hi : i < 16) (ht6 : t < 64) (ha : CH q i (s ^^^ t) a) (hts : ∀ o, o < 6 → t.testBit o = true → s.testBit o = true) (hop : ∀ o, o < 6 → t.testBit o = true → q.2.2 i o = true) (hf : fsS q t ≤ q.2.1 i) (hne : ¬ t = 0) : CH q (i + 1) s (upA a t i) ∧ rkA (upA a t i) + (16 - i) * dsS t = rkA a + 24137569 ∧ enI (upA a t i) i = t := by
  obtain ⟨⟨v1, v2⟩, h2, h3⟩ := ha
  have hbit : ∀ o, o < 6 → t.testBit o = true → a o = 16 := by
    intro o ho hb
    have e := h3 o ho
    rw [Nat.testBit_xor, hb, hts o ho hb] at e
    have := (v1 o ho).1
    simp at e
    omega
  have hni : ∀ o, o < 6 → a o ≠ i := by
    intro o ho e
    have := h2 o ho (by omega)
    omega
  have hU : ∀ o, t.testBit o = true → upA a t i o = i := fun o hb => if_pos hb
  have hN : ∀ o, ¬ t.testBit o = true → upA a t i o = a o := fun o hb => if_neg hb
  refine ⟨⟨⟨fun o ho => ?_, fun c hc => ?_⟩, fun o ho hb => ?_, fun o ho => ?_⟩, ?_, ?_⟩
  · by_cases hb : t.testBit o = true
    · rw [hU o hb]
      exact ⟨by omega, fun _ => hop o ho hb⟩
    · rw [hN o hb]
      exact v1 o ho
  · by_cases e : c = i
    · subst e
      have : cf q.1 (upA a t c) c 6 = fsS q t := sumN_congr 6 (fun o ho => by
        by_cases hb : t.testBit o = true
        · rw [hU o hb, if_pos rfl, if_pos hb]
        · rw [hN o hb, if_neg (hni o ho), if_neg hb])
      omega
    · have : cf q.1 (upA a t i) c 6 = cf q.1 a c 6 := sumN_congr 6 (fun o ho => by
        by_cases hb : t.testBit o = true
        · rw [hU o hb, if_neg (Ne.symm e), hbit o ho hb, if_neg (by omega)]
        · rw [hN o hb])
      rw [this]
      exact v2 c hc
  · by_cases hq : t.testBit o = true
    · rw [hU o hq]; omega
    · rw [hN o hq] at hb ⊢
      have := h2 o ho hb
      omega
  · by_cases hb : t.testBit o = true
    · rw [hU o hb, hts o ho hb]
      simp [hi]
    · rw [hN o hb, ← h3 o ho, Nat.testBit_xor]
      simp only [Bool.not_eq_true] at hb
      rw [hb]
      simp
  · have e1 : Dp (upA a t i) 6 + (16 - i) * dsS t = Dp a 6 := by
      unfold Dp dsS
      rw [← sumN_mul, ← sumN_add]
      refine sumN_congr 6 (fun o ho => ?_)
      by_cases hb : t.testBit o = true
      · rw [hU o hb, if_pos hb, hbit o ho hb, ← Nat.add_mul]
        congr 1
        omega
      · rw [hN o hb, if_neg hb, Nat.mul_zero, Nat.add_zero]
    have e2 : cu (upA a t i) 6 = cu a 6 + 1 := by
      have e3 : sumN (fun c => if c = i then 1 else 0) 16 = 1 := by rw [sumN_ind, if_pos hi]
      have e4 : cu a 6 + 1 = sumN (fun c => (if uc a c 6 = 0 then 0 else 1) + if c = i then 1 else 0) 16 := by
        rw [sumN_add, e3]
        rfl
      rw [e4]
      refine sumN_congr 16 (fun c hc => ?_)
      by_cases e : c = i
      · subst e
        have z1 : uc a c 6 = 0 := sumN_z 6 (fun o ho => if_neg (hni o ho))
        have z2 : ¬ uc (upA a t c) c 6 = 0 := by
          intro h9
          apply hne
          refine set_0 ht6 (fun o ho => ?_)
          apply Classical.byContradiction
          intro hb
          simp only [Bool.not_eq_false] at hb
          have := sumN_ge (f := fun o => if upA a t c o = c then 1 else 0) 6 o ho
          simp only [hU o hb, if_true] at this
          have h10 : sumN (fun o => if upA a t c o = c then 1 else 0) 6 = 0 := h9
          omega
        simp only [z1, z2, if_true, if_false]
      · have z : uc (upA a t i) c 6 = uc a c 6 := sumN_congr 6 (fun o ho => by
          by_cases hb : t.testBit o = true
          · rw [hU o hb, if_neg (Ne.symm e), hbit o ho hb, if_neg (by omega)]
          · rw [hN o hb])
        rw [z, if_neg e, Nat.add_zero]
    unfold rkA
    rw [e2, Nat.add_mul]
    omega
  · refine enc_of ht6 (fun o ho => ?_)
    by_cases hb : t.testBit o = true
    · rw [hU o hb, hb]
      simp
    · rw [hN o hb]
      have := hni o ho
      simp only [Bool.not_eq_true] at hb
      rw [hb]
      simp [this]
/-- what a cutting was ahead of this coil -/
def dnA (b : Nat → Nat) (i : Nat) : Nat → Nat := fun o => if b o = i then 16 else b o
theorem CH_take {q : CP} {i s t : Nat} {b : Nat → Nat} (hi : i < 16) (hb : CH q (i + 1) s b) (ht : enI b i = t) : CH q i (s ^^^ t) (dnA b i) ∧ (∀ o, o < 6 → upA (dnA b i) t i o = b o) ∧ (∀ o, o < 6 → t.testBit o = true → s.testBit o = true) ∧ (∀ o, o < 6 → t.testBit o = true → q.2.2 i o = true) ∧ fsS q t ≤ q.2.1 i := by
  subst ht
  obtain ⟨⟨v1, v2⟩, h2, h3⟩ := hb
  have hT : ∀ o, o < 6 → ((enI b i).testBit o = true ↔ b o = i) := fun o ho => by rw [enI_bt ho]; exact decide_eq_true_iff
  refine ⟨⟨⟨fun o ho => ?_, fun c hc => ?_⟩, fun o ho hq => ?_, fun o ho => ?_⟩, fun o ho => ?_, fun o ho hq => ?_, fun o ho hq => ?_, ?_⟩
  · unfold dnA
    by_cases e : b o = i
    · rw [if_pos e]
      exact ⟨Nat.le_refl _, fun h => absurd h (by omega)⟩
    · rw [if_neg e]
      exact v1 o ho
  · refine Nat.le_trans (sumN_le 6 (fun o ho => ?_)) (v2 c hc)
    unfold dnA
    by_cases e : b o = i
    · simp only [e, if_true]
      rw [if_neg (show ¬ 16 = c by omega)]
      exact Nat.zero_le _
    · simp only [e, if_false]
      exact Nat.le_refl _
  · unfold dnA at hq ⊢
    by_cases e : b o = i
    · rw [if_pos e] at hq
      omega
    · rw [if_neg e] at hq ⊢
      have := h2 o ho hq
      omega
  · rw [Nat.testBit_xor, h3 o ho, enI_bt ho]
    unfold dnA
    by_cases e : b o = i
    · simp [e, hi]
    · simp [e]
  · unfold upA dnA
    by_cases e : b o = i
    · rw [if_pos ((hT o ho).mpr e), e]
    · rw [if_neg (fun h => e ((hT o ho).mp h)), if_neg e]
  · rw [h3 o ho, (hT o ho).mp hq]
    simp [hi]
  · have e := (hT o ho).mp hq
    have := (v1 o ho).2 (by omega)
    rwa [e] at this
  · refine Nat.le_trans (Nat.le_of_eq ?_) (v2 i hi)
    refine sumN_congr 6 (fun o ho => ?_)
    by_cases e : b o = i
    · rw [if_pos ((hT o ho).mpr e), if_pos e]
    · rw [if_neg (fun h => e ((hT o ho).mp h)), if_neg e]
/-- cuttings with just these orders from this coil -/
theorem BR_t {q : CP} {i s t v : Nat} (hi : i < 16) (ht6 : t < 64) (hv : BR (CH q i (s ^^^ t)) v) (hts : ∀ o, o < 6 → t.testBit o = true → s.testBit o = true) (hop : ∀ o, o < 6 → t.testBit o = true → q.2.2 i o = true) (hf : fsS q t ≤ q.2.1 i) (hne : ¬ t = 0) (hvn : ¬ v = 2147483647) : (16 - i) * dsS t ≤ v + 24137569 ∧ BR (fun b => CH q (i + 1) s b ∧ enI b i = t) (v + 24137569 - (16 - i) * dsS t) := by
  rcases hv with ⟨h1, -⟩ | ⟨a, h1, h2, h3⟩
  · exact absurd h1 hvn
  · obtain ⟨g1, g2, g3⟩ := CH_give hi ht6 h1 hts hop hf hne
    refine ⟨by omega, Or.inr ⟨upA a t i, ⟨g1, g3⟩, by omega, fun b hb => ?_⟩⟩
    obtain ⟨k1, k2, k3, k4, k5⟩ := CH_take hi hb.1 hb.2
    obtain ⟨m1, m2, m3⟩ := CH_give hi ht6 k1 hts hop hf hne
    have h4 := h3 _ k1
    rw [rkA_congr k2] at m2
    omega
theorem BR_t0 {q : CP} {i s t : Nat} (hi : i < 16) (hv : BR (CH q i (s ^^^ t)) 2147483647) : BR (fun b => CH q (i + 1) s b ∧ enI b i = t) 2147483647 := by
  refine BR.no (fun b hb => ?_)
  obtain ⟨k1, -⟩ := CH_take hi hb.1 hb.2
  rcases hv with ⟨-, h⟩ | ⟨a, h1, h2, -⟩
  · exact h _ k1
  · have := rkA_lt h1.1
    omega
theorem BR_tn {q : CP} {i s t : Nat} (hi : i < 16) (h : ¬ ((∀ o, o < 6 → t.testBit o = true → s.testBit o = true) ∧ (∀ o, o < 6 → t.testBit o = true → q.2.2 i o = true) ∧ fsS q t ≤ q.2.1 i)) : BR (fun b => CH q (i + 1) s b ∧ enI b i = t) 2147483647 := by
  refine BR.no (fun b hb => ?_)
  obtain ⟨-, -, k3, k4, k5⟩ := CH_take hi hb.1 hb.2
  exact h ⟨k3, k4, k5⟩
/-- with this coil for some of the sets below m, and below t of the sets for m -/
def CHm (q : CP) (i m t s : Nat) (b : Nat → Nat) : Prop := CH q (i + 1) s b ∧ (enI b i < m ∨ (enI b i = m ∧ s < t))
theorem CHm_1 {q : CP} {i s : Nat} (hi : i < 16) (b : Nat → Nat) : CH q i s b ↔ CHm q i 1 0 s b := by
  constructor
  · rintro ⟨h1, h2, h3⟩
    refine ⟨⟨h1, fun o ho hb => by have := h2 o ho hb; omega, h3⟩, Or.inl ?_⟩
    have : enI b i = 0 := enc_of (by decide) (fun o ho => by
      have h4 : b o ≠ i := fun e => by have := h2 o ho (by omega); omega
      simp [h4])
    omega
  · rintro ⟨⟨h1, h2, h3⟩, h4⟩
    have h0 : enI b i = 0 := by omega
    refine ⟨h1, fun o ho hb => ?_, h3⟩
    have h5 := h2 o ho hb
    have h6 := enI_bt (b := b) (i := i) ho
    rw [h0, Nat.zero_testBit] at h6
    have : ¬ b o = i := of_decide_eq_false h6.symm
    omega
theorem CHm_all {q : CP} {i s : Nat} (b : Nat → Nat) : CHm q i 64 0 s b ↔ CH q (i + 1) s b := ⟨fun h => h.1, fun h => ⟨h, Or.inl (enc_lt _)⟩⟩
theorem CHm_n {q : CP} {i m s : Nat} (hs : s < 64) (b : Nat → Nat) : CHm q i m 64 s b ↔ CHm q i (m + 1) 0 s b := by
  unfold CHm
  constructor
  · rintro ⟨h1, h2⟩; exact ⟨h1, by omega⟩
  · rintro ⟨h1, h2⟩; exact ⟨h1, by omega⟩
theorem sub_all : ∀ s t : Fin 64, (∀ o : Fin 6, t.val.testBit o.val = true → s.val.testBit o.val = true) → t.val ≤ s.val := by decide +kernel
theorem sub_le {s t : Nat} (hs : s < 64) (ht : t < 64) (h : ∀ o, o < 6 → t.testBit o = true → s.testBit o = true) : t ≤ s := sub_all ⟨s, hs⟩ ⟨t, ht⟩ (fun o => h o.val o.isLt)
theorem CHm_s {q : CP} {i m s : Nat} (hi : i < 16) (hs : s < 64) (b : Nat → Nat) : CHm q i m 0 s b ↔ CHm q i m m s b := by
  unfold CHm
  constructor
  · rintro ⟨h1, h2⟩; exact ⟨h1, by omega⟩
  · rintro ⟨h1, h2⟩
    refine ⟨h1, ?_⟩
    rcases h2 with h2 | ⟨h2, h3⟩
    · exact Or.inl h2
    · obtain ⟨-, -, k3, -⟩ := CH_take hi h1 h2
      have := sub_le hs (by rw [← h2]; exact enc_lt _) k3
      omega
theorem CHm_o {q : CP} {i m t s : Nat} (h : s ≠ t) (b : Nat → Nat) : CHm q i m t s b ↔ CHm q i m (t + 1) s b := by
  unfold CHm
  constructor
  · rintro ⟨h1, h2⟩; exact ⟨h1, by omega⟩
  · rintro ⟨h1, h2⟩; exact ⟨h1, by omega⟩
theorem CHm_t {q : CP} {i m t : Nat} (b : Nat → Nat) : (CHm q i m t t b ∨ (CH q (i + 1) t b ∧ enI b i = m)) ↔ CHm q i m (t + 1) t b := by
  unfold CHm
  constructor
  · rintro (⟨h1, h2⟩ | ⟨h1, h2⟩)
    · exact ⟨h1, by omega⟩
    · exact ⟨h1, by omega⟩
  · rintro ⟨h1, h2⟩
    by_cases e : enI b i = m
    · exact Or.inr ⟨h1, e⟩
    · exact Or.inl ⟨h1, by omega⟩
/-- no set is given m -/
theorem CHm_no {q : CP} {i m s : Nat} (hi : i < 16) (h : ¬ ((∀ o, o < 6 → m.testBit o = true → q.2.2 i o = true) ∧ fsS q m ≤ q.2.1 i)) (b : Nat → Nat) : CHm q i m 0 s b ↔ CHm q i (m + 1) 0 s b := by
  unfold CHm
  constructor
  · rintro ⟨h1, h2⟩; exact ⟨h1, by omega⟩
  · rintro ⟨h1, h2⟩
    refine ⟨h1, ?_⟩
    by_cases e : enI b i = m
    · obtain ⟨-, -, -, k4, k5⟩ := CH_take hi h1 e
      exact absurd ⟨k4, k5⟩ h
    · omega
/-- the best of the sets below m -/
def BS (q : CP) (m f r : Nat) : Prop := ∃ a, Vd q a ∧ enc (fun o => decide (a o < 16)) < m ∧ f = tf q.1 a 6 ∧ r = rkA a ∧ ∀ b, Vd q b → enc (fun o => decide (b o < 16)) < m → tf q.1 b 6 < f ∨ (tf q.1 b 6 = f ∧ r ≤ rkA b)
theorem CH_16 {q : CP} {s : Nat} (hs : s < 64) (b : Nat → Nat) : CH q 16 s b ↔ Vd q b ∧ enc (fun o => decide (b o < 16)) = s := by
  constructor
  · rintro ⟨h1, -, h3⟩; exact ⟨h1, enc_of hs h3⟩
  · rintro ⟨h1, h2⟩
    subst h2
    exact ⟨h1, fun o ho h => h, fun o ho => enc_bt _ ho⟩
theorem tf_fs {q : CP} {a : Nat → Nat} : tf q.1 a 6 = fsS q (enc (fun o => decide (a o < 16))) := by
  refine sumN_congr 6 (fun o ho => ?_)
  rw [enc_bt _ ho]
  by_cases h : a o < 16
  · simp [h]
  · simp [h]
theorem BS_1 {q : CP} : BS q 1 0 24137568 := by
  rcases CH_00 q with ⟨h, -⟩ | ⟨a, h1, h2, h3⟩
  · exact absurd h (by decide)
  · have h16 : ∀ o, o < 6 → a o = 16 := fun o ho => by
      have e1 := (h1.1.1 o ho).1
      have e2 := h1.2.1 o ho
      omega
    have e0 : enc (fun o => decide (a o < 16)) = 0 := enc_of (by decide) (fun o ho => by rw [h16 o ho]; simp)
    refine ⟨a, h1.1, by omega, ?_, h2, fun b hb hl => Or.inr ⟨?_, ?_⟩⟩
    · rw [tf_fs, e0]; exact (sumN_z 6 (fun j _ => by simp)).symm
    · rw [tf_fs, show enc (fun o => decide (b o < 16)) = 0 by omega]; exact sumN_z 6 (fun j _ => by simp)
    · rw [h2]
      have hb16 : ∀ o, o < 6 → b o = a o := fun o ho => by
        have e1 := (hb.1 o ho).1
        have e2 := enc_bt (fun o => decide (b o < 16)) ho
        rw [show enc (fun o => decide (b o < 16)) = 0 by omega, Nat.zero_testBit] at e2
        have : ¬ b o < 16 := of_decide_eq_false e2.symm
        rw [h16 o ho]
        omega
      rw [rkA_congr hb16]
      exact Nat.le_refl _
theorem BS_n {q : CP} {m f r : Nat} (hm : m < 64) (h : BS q m f r) (hv : BR (CH q 16 m) 2147483647 ∨ fsS q m < f) : BS q (m + 1) f r := by
  obtain ⟨a, a1, a2, a3, a4, a5⟩ := h
  refine ⟨a, a1, by omega, a3, a4, fun b hb hl => ?_⟩
  by_cases e : enc (fun o => decide (b o < 16)) = m
  · rcases hv with hv | hv
    · rcases hv with ⟨-, hv⟩ | ⟨d, d1, d2, -⟩
      · exact absurd ((CH_16 hm b).mpr ⟨hb, e⟩) (hv b)
      · have := rkA_lt d1.1
        omega
    · left
      rw [tf_fs, e]
      exact hv
  · exact a5 b hb (by omega)
theorem BS_y {q : CP} {m f r v : Nat} (hm : m < 64) (h : BS q m f r) (hv : BR (CH q 16 m) v) (hvn : ¬ v = 2147483647) (hf : ¬ fsS q m < f) (hc : f < fsS q m ∨ v < r) : BS q (m + 1) (fsS q m) v := by
  obtain ⟨a, a1, a2, a3, a4, a5⟩ := h
  rcases hv with ⟨hv, -⟩ | ⟨d, d1, d2, d3⟩
  · exact absurd hv hvn
  · obtain ⟨e1, e2⟩ := (CH_16 hm d).mp d1
    refine ⟨d, e1, by omega, by rw [tf_fs, e2], d2, fun b hb hl => ?_⟩
    by_cases e : enc (fun o => decide (b o < 16)) = m
    · right
      refine ⟨by rw [tf_fs, e], ?_⟩
      rw [d2]
      exact d3 b ((CH_16 hm b).mpr ⟨hb, e⟩)
    · have := a5 b hb (by omega)
      omega
theorem BS_k {q : CP} {m f r v : Nat} (hm : m < 64) (h : BS q m f r) (hv : BR (CH q 16 m) v) (hf : ¬ fsS q m < f) (hc : ¬ (f < fsS q m ∨ v < r)) : BS q (m + 1) f r := by
  obtain ⟨a, a1, a2, a3, a4, a5⟩ := h
  refine ⟨a, a1, by omega, a3, a4, fun b hb hl => ?_⟩
  by_cases e : enc (fun o => decide (b o < 16)) = m
  · right
    refine ⟨by rw [tf_fs, e]; omega, ?_⟩
    rcases hv with ⟨hv, hn⟩ | ⟨d, d1, d2, d3⟩
    · exact absurd ((CH_16 hm b).mpr ⟨hb, e⟩) (hn b)
    · have := d3 b ((CH_16 hm b).mpr ⟨hb, e⟩)
      omega
  · exact a5 b hb (by omega)
theorem BS_64 {q : CP} {f r : Nat} (h : BS q 64 f r) : ∃ a, Opt q a ∧ f = tf q.1 a 6 ∧ r = rkA a := by
  obtain ⟨a, a1, a2, a3, a4, a5⟩ := h
  refine ⟨a, ⟨a1, fun b hb => ?_⟩, a3, a4⟩
  have := a5 b hb (enc_lt _)
  rwa [a3, a4] at this
/-- a digit of the rank -/
theorem rk_dig {q : CP} {a : Nat → Nat} (h : Vd q a) {o : Nat} (ho : o < 6) : rkA a / pw (o + 1) % 17 = a o := by
  have c0 := h.d 0 (by decide)
  have c1 := h.d 1 (by decide)
  have c2 := h.d 2 (by decide)
  have c3 := h.d 3 (by decide)
  have c4 := h.d 4 (by decide)
  have c5 := h.d 5 (by decide)
  rcases (show o = 0 ∨ o = 1 ∨ o = 2 ∨ o = 3 ∨ o = 4 ∨ o = 5 by omega) with e | e | e | e | e | e <;> subst e <;> simp only [rkA, Dp, sumN, pw] <;> omega
