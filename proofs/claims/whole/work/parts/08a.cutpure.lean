/-! CUTTINGS: which coil each of six orders is cut from (16: none) -/
theorem sumN_add (f g : Nat → Nat) : ∀ n, sumN (fun o => f o + g o) n = sumN f n + sumN g n
  | 0 => rfl
  | n + 1 => by simp only [sumN, sumN_add f g n]; omega
theorem sumN_mul (k : Nat) (f : Nat → Nat) : ∀ n, sumN (fun o => k * f o) n = k * sumN f n
  | 0 => rfl
  | n + 1 => by simp only [sumN, sumN_mul k f n, Nat.mul_add]
theorem sumN_le {f g : Nat → Nat} : ∀ n, (∀ j, j < n → f j ≤ g j) → sumN f n ≤ sumN g n
  | 0, _ => Nat.le_refl 0
  | n + 1, h => by
    have h1 := sumN_le n (fun j hj => h j (by omega))
    have h2 := h n (by omega)
    simp only [sumN]
    omega
theorem sumN_z {f : Nat → Nat} : ∀ n, (∀ j, j < n → f j = 0) → sumN f n = 0
  | 0, _ => rfl
  | n + 1, h => by simp only [sumN, sumN_z n (fun j hj => h j (by omega)), h n (by omega)]
theorem sumN_mono (f : Nat → Nat) (n : Nat) : ∀ d, sumN f n ≤ sumN f (n + d)
  | 0 => Nat.le_refl _
  | d + 1 => by
    have := sumN_mono f n d
    rw [← Nat.add_assoc]
    simp only [sumN]
    omega
theorem sumN_ind (i : Nat) : ∀ n, sumN (fun c => if c = i then 1 else 0) n = if i < n then 1 else 0
  | 0 => rfl
  | n + 1 => by
    simp only [sumN, sumN_ind i n]
    by_cases e : n = i
    · subst e; simp
    · simp only [e, if_false]
      by_cases h : i < n
      · simp [h, show i < n + 1 by omega]
      · simp [h, show ¬ i < n + 1 by omega]
/-- powers of 17 -/
def pw : Nat → Nat
  | 0 => 24137569
  | 1 => 1419857
  | 2 => 83521
  | 3 => 4913
  | 4 => 289
  | 5 => 17
  | _ => 1
def Dp (p : Nat → Nat) : Nat → Nat := sumN (fun o => p o * pw (o + 1))
def cf (fe a : Nat → Nat) (c : Nat) : Nat → Nat := sumN (fun o => if a o = c then fe o else 0)
def tf (fe a : Nat → Nat) : Nat → Nat := sumN (fun o => if a o < 16 then fe o else 0)
def uc (a : Nat → Nat) (c : Nat) : Nat → Nat := sumN (fun o => if a o = c then 1 else 0)
def cu (a : Nat → Nat) (n : Nat) : Nat := sumN (fun c => if uc a c n = 0 then 0 else 1) 16
def rkA (a : Nat → Nat) : Nat := cu a 6 * 24137569 + Dp a 6
/-- feet of orders, feet of coils, which order may be cut from which coil -/
abbrev CP : Type := (Nat → Nat) × (Nat → Nat) × (Nat → Nat → Bool)
def Vd (q : CP) (a : Nat → Nat) : Prop := (∀ o, o < 6 → a o ≤ 16 ∧ (a o < 16 → q.2.2 (a o) o = true)) ∧ ∀ c, c < 16 → cf q.1 a c 6 ≤ q.2.1 c
def Opt (q : CP) (a : Nat → Nat) : Prop := Vd q a ∧ ∀ b, Vd q b → tf q.1 b 6 < tf q.1 a 6 ∨ (tf q.1 b 6 = tf q.1 a 6 ∧ rkA a ≤ rkA b)
theorem cu_le (a : Nat → Nat) (n : Nat) : cu a n ≤ 16 := by
  have h := sumN_le (f := fun c => if uc a c n = 0 then 0 else 1) (g := fun _ => 1) 16 (fun j _ => by split <;> omega)
  have e : sumN (fun _ => 1) 16 = 16 := rfl
  unfold cu
  omega
theorem Dp_b {b : Nat → Nat} (hb : ∀ o, o < 6 → b o ≤ 16) : Dp b 6 ≤ 24137568 := by
  have h0 := hb 0 (by decide)
  have h1 := hb 1 (by decide)
  have h2 := hb 2 (by decide)
  have h3 := hb 3 (by decide)
  have h4 := hb 4 (by decide)
  have h5 := hb 5 (by decide)
  simp only [Dp, sumN, pw]
  omega
/-- numbers between two prefixes have that prefix -/
theorem Dp_rng {b p : Nat → Nat} {k : Nat} (hk : k ≤ 6) (hb : ∀ o, o < 6 → b o ≤ 16) (hp : ∀ o, o < k → p o ≤ 16) (h1 : Dp p k ≤ Dp b 6) (h2 : Dp b 6 < Dp p k + pw k) : ∀ o, o < k → b o = p o := by
  have c0 := hb 0 (by decide)
  have c1 := hb 1 (by decide)
  have c2 := hb 2 (by decide)
  have c3 := hb 3 (by decide)
  have c4 := hb 4 (by decide)
  have c5 := hb 5 (by decide)
  rcases (show k = 0 ∨ k = 1 ∨ k = 2 ∨ k = 3 ∨ k = 4 ∨ k = 5 ∨ k = 6 by omega) with h | h | h | h | h | h | h <;> subst h <;> simp only [Dp, sumN, pw] at h1 h2 <;> intro o ho
  · omega
  · have d0 := hp 0 (by decide)
    rcases (show o = 0 by omega) with rfl
    omega
  · have d0 := hp 0 (by decide)
    have d1 := hp 1 (by decide)
    rcases (show o = 0 ∨ o = 1 by omega) with rfl | rfl <;> omega
  · have d0 := hp 0 (by decide)
    have d1 := hp 1 (by decide)
    have d2 := hp 2 (by decide)
    rcases (show o = 0 ∨ o = 1 ∨ o = 2 by omega) with rfl | rfl | rfl <;> omega
  · have d0 := hp 0 (by decide)
    have d1 := hp 1 (by decide)
    have d2 := hp 2 (by decide)
    have d3 := hp 3 (by decide)
    rcases (show o = 0 ∨ o = 1 ∨ o = 2 ∨ o = 3 by omega) with rfl | rfl | rfl | rfl <;> omega
  · have d0 := hp 0 (by decide)
    have d1 := hp 1 (by decide)
    have d2 := hp 2 (by decide)
    have d3 := hp 3 (by decide)
    have d4 := hp 4 (by decide)
    rcases (show o = 0 ∨ o = 1 ∨ o = 2 ∨ o = 3 ∨ o = 4 by omega) with rfl | rfl | rfl | rfl | rfl <;> omega
  · have d0 := hp 0 (by decide)
    have d1 := hp 1 (by decide)
    have d2 := hp 2 (by decide)
    have d3 := hp 3 (by decide)
    have d4 := hp 4 (by decide)
    have d5 := hp 5 (by decide)
    rcases (show o = 0 ∨ o = 1 ∨ o = 2 ∨ o = 3 ∨ o = 4 ∨ o = 5 by omega) with rfl | rfl | rfl | rfl | rfl | rfl <;> omega
theorem Dp_congr {a b : Nat → Nat} {n : Nat} (h : ∀ o, o < n → a o = b o) : Dp a n = Dp b n := sumN_congr n (fun j hj => by rw [h j hj])
theorem cf_congr {fe a b : Nat → Nat} {c n : Nat} (h : ∀ o, o < n → a o = b o) : cf fe a c n = cf fe b c n := sumN_congr n (fun j hj => by rw [h j hj])
theorem tf_congr {fe a b : Nat → Nat} {n : Nat} (h : ∀ o, o < n → a o = b o) : tf fe a n = tf fe b n := sumN_congr n (fun j hj => by rw [h j hj])
theorem uc_congr {a b : Nat → Nat} {c n : Nat} (h : ∀ o, o < n → a o = b o) : uc a c n = uc b c n := sumN_congr n (fun j hj => by rw [h j hj])
theorem cu_congr {a b : Nat → Nat} {n : Nat} (h : ∀ o, o < n → a o = b o) : cu a n = cu b n := sumN_congr 16 (fun j _ => by rw [uc_congr h])
theorem rkA_congr {a b : Nat → Nat} (h : ∀ o, o < 6 → a o = b o) : rkA a = rkA b := by rw [rkA, rkA, cu_congr h, Dp_congr h]
theorem Vd_congr {q : CP} {a b : Nat → Nat} (h : ∀ o, o < 6 → a o = b o) (ha : Vd q a) : Vd q b := by
  refine ⟨fun o ho => ?_, fun c hc => ?_⟩
  · rw [← h o ho]
    exact ha.1 o ho
  · rw [← cf_congr h]
    exact ha.2 c hc
theorem Vd.d {q : CP} {a : Nat → Nat} (h : Vd q a) : ∀ o, o < 6 → a o ≤ 16 := fun o ho => (h.1 o ho).1
/-- the best cutting is one -/
theorem Opt.u {q : CP} {a b : Nat → Nat} (ha : Opt q a) (hb : Opt q b) : ∀ o, o < 6 → a o = b o := by
  have h1 := ha.2 b hb.1
  have h2 := hb.2 a ha.1
  have b1 := Dp_b ha.1.d
  have b2 := Dp_b hb.1.d
  have e : rkA a = rkA b := by omega
  have e2 : Dp a 6 = Dp b 6 := by
    unfold rkA at e
    omega
  exact Dp_rng (by decide) ha.1.d hb.1.d (by omega) (by simp only [pw]; omega)
theorem rkA_lt {q : CP} {a : Nat → Nat} (h : Vd q a) : rkA a < 500000000 := by
  have h1 := cu_le a 6
  have h2 := Dp_b h.d
  unfold rkA
  omega
/-! sets of orders -/
def enc (f : Nat → Bool) : Nat := sumN (fun o => if f o = true then 2 ^ o else 0) 6
theorem enc_all : ∀ b0 b1 b2 b3 b4 b5 : Bool, ((((((0 + if b0 = true then 2 ^ 0 else 0) + if b1 = true then 2 ^ 1 else 0) + if b2 = true then 2 ^ 2 else 0) + if b3 = true then 2 ^ 3 else 0) + if b4 = true then 2 ^ 4 else 0) + if b5 = true then 2 ^ 5 else 0) < 64 ∧ ∀ o : Fin 6, ((((((0 + if b0 = true then 2 ^ 0 else 0) + if b1 = true then 2 ^ 1 else 0) + if b2 = true then 2 ^ 2 else 0) + if b3 = true then 2 ^ 3 else 0) + if b4 = true then 2 ^ 4 else 0) + if b5 = true then 2 ^ 5 else 0).testBit o.val = ([b0, b1, b2, b3, b4, b5] : List Bool).getD o.val false := by decide +kernel
theorem enc_lt (f : Nat → Bool) : enc f < 64 := (enc_all (f 0) (f 1) (f 2) (f 3) (f 4) (f 5)).1
theorem enc_bt (f : Nat → Bool) {o : Nat} (ho : o < 6) : (enc f).testBit o = f o := by
  have h := (enc_all (f 0) (f 1) (f 2) (f 3) (f 4) (f 5)).2 ⟨o, ho⟩
  have h2 : (enc f).testBit o = ([f 0, f 1, f 2, f 3, f 4, f 5] : List Bool).getD o false := h
  rw [h2]
  rcases (show o = 0 ∨ o = 1 ∨ o = 2 ∨ o = 3 ∨ o = 4 ∨ o = 5 by omega) with e | e | e | e | e | e <;> subst e <;> rfl
theorem set_all : ∀ s t : Fin 64, (∀ o : Fin 6, s.val.testBit o.val = t.val.testBit o.val) → s = t := by decide +kernel
theorem set_eq {s t : Nat} (hs : s < 64) (ht : t < 64) (h : ∀ o, o < 6 → s.testBit o = t.testBit o) : s = t := by
  have := set_all ⟨s, hs⟩ ⟨t, ht⟩ (fun o => h o.val o.isLt)
  exact congrArg Fin.val this
theorem enc_of {f : Nat → Bool} {s : Nat} (hs : s < 64) (h : ∀ o, o < 6 → s.testBit o = f o) : enc f = s := set_eq (enc_lt f) hs (fun o ho => by rw [enc_bt f ho, h o ho])
theorem set_0 {s : Nat} (hs : s < 64) (h : ∀ o, o < 6 → s.testBit o = false) : s = 0 := set_eq hs (by decide) (fun o ho => by rw [h o ho, Nat.zero_testBit])
theorem xor_lt {s t : Nat} (hs : s < 64) (ht : t < 64) : s ^^^ t < 64 := Nat.xor_lt_two_pow (n := 6) hs ht
