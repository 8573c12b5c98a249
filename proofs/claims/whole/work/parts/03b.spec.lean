/-! WHAT THE CALLS ANSWER, by the reference's cells -/
def sp_metal (m b g l a c : Int32) : Int32 := if 0 ≤ m ∧ m ≤ 3 then (if (1 ≤ b ∧ b ≤ 200) ∧ (0 ≤ g ∧ g ≤ 300) ∧ (1 ≤ l ∧ l ≤ 100) ∧ (0 ≤ a ∧ a ≤ 50) ∧ (0 ≤ c ∧ c ≤ 50) then 1 else -3) else -2
def st_metal (F : tF) (m b g l a c : Int32) : tF := if sp_metal m b g l a c = 1 then uF (uF (uF (uF (uF F 101 m.toNatClampNeg b) 102 m.toNatClampNeg g) 103 m.toNatClampNeg l) 104 m.toNatClampNeg a) 105 m.toNatClampNeg c else F
def sp_least (w : Int32) : Int32 := if w = 1 then 10 else if w = 3 ∨ w = 5 then 1 else 0
def sp_most (w : Int32) : Int32 := if w = 2 then 10 else if w = 3 then 500 else if w = 4 then 20 else 100
def ok_set (w v : Int32) : Prop := (0 ≤ w ∧ w ≤ 5) ∧ (sp_least w ≤ v ∧ v ≤ sp_most w)
def sp_set (F : tF) (w v : Int32) : Int32 := if (0 ≤ w ∧ w ≤ 5) then (if sp_least w ≤ v ∧ v ≤ sp_most w then F 106 w.toNatClampNeg else -3) else -3
def st_set (F : tF) (w v : Int32) : tF := if (0 ≤ w ∧ w ≤ 5) then (if sp_least w ≤ v ∧ v ≤ sp_most w then uF F 106 w.toNatClampNeg v else F) else F
def sp_puller (m f v : Int32) : Int32 := if 0 ≤ m ∧ m ≤ 2 then (if (0 ≤ f ∧ f ≤ 100000000) ∧ (10 ≤ v ∧ v ≤ 1000) then 1 else -3) else -2
def st_puller (F : tF) (m f v : Int32) : tF := if sp_puller m f v = 1 then uF (uF F 107 m.toNatClampNeg f) 108 m.toNatClampNeg v else F
/-- which holes there are -/
def HN (F : tF) (nh : Nat → Nat) : Prop := ∀ i, i < 4 → F 110 i = nI (nh i) ∧ nh i ≤ 8
def sp_hole (nh : Nat → Nat) (p n : Int32) : Int32 := if 0 ≤ p ∧ p ≤ 3 then (if 20 ≤ n ∧ n ≤ 1000 then (if nh p.toNatClampNeg = 8 then -8 else nI (nh p.toNatClampNeg)) else -3) else -2
def st_hole (F : tF) (nh : Nat → Nat) (p n : Int32) : tF := if 0 ≤ p ∧ p ≤ 3 then (if 20 ≤ n ∧ n ≤ 1000 then (if nh p.toNatClampNeg = 8 then F else uF (uF (uF (uF F 111 (8 * p.toNatClampNeg + nh p.toNatClampNeg) n) 112 (8 * p.toNatClampNeg + nh p.toNatClampNeg) 0) 113 (8 * p.toNatClampNeg + nh p.toNatClampNeg) 0) 110 p.toNatClampNeg (nI (nh p.toNatClampNeg + 1))) else F) else F
def ok_hole (nh : Nat → Nat) (p h : Int32) : Bool := decide ((0 ≤ p ∧ p ≤ 3) ∧ (0 ≤ h ∧ h < nI (nh p.toNatClampNeg)))
theorem ok_hole_i {nh : Nat → Nat} {p h : Int32} : ok_hole nh p h = true ↔ (0 ≤ p ∧ p ≤ 3) ∧ (0 ≤ h ∧ h < nI (nh p.toNatClampNeg)) := decide_eq_true_iff
def w_wide (F : tF) (q : Nat) : Int32 := F 111 q + F 112 q / 1000
theorem i4_cl {i : Nat} (h : i < 1000) : (nI i).toNatClampNeg = i := nI_clamp (by omega)
theorem i_rng {i n : Nat} (h : i ≤ n) (hn : n < 1000) : 0 ≤ nI i ∧ nI i ≤ nI n := ⟨nI_pos' (by omega), nI_le h (by omega)⟩
theorem at8 (i j : Nat) : 8 * nI i + nI j = nI (8 * i + j) := by
  rw [show (8 : Int32) = nI 8 from rfl, pk_mul, nI_add]
theorem le_pred {n : Nat} (hn : n ≤ 1000) (x : Int32) : x ≤ nI n - 1 ↔ x < nI n := by
  have h1 : (nI n - 1 : Int32).toInt = (n : Int) - 1 := pk_sub_toInt (a := n) (b := 1) (by omega) (by decide)
  rw [Int32.le_iff_toInt_le, Int32.lt_iff_toInt_lt, h1, nI_toInt (by omega)]
  omega
/-- an int below a small number is a natural number below it -/
theorem n_lt {x : Int32} {n : Nat} (h0 : 0 ≤ x) (h1 : x < nI n) (hn : n ≤ 1000) : ∃ j : Nat, j < n ∧ x = nI j := by
  rcases Nat.eq_zero_or_pos n with h | h
  · subst h
    rw [Int32.lt_iff_toInt_lt] at h1
    rw [Int32.le_iff_toInt_le] at h0
    have e : (nI 0 : Int32).toInt = (0 : Int32).toInt := rfl
    rw [e] at h1
    omega
  · have h2 := (le_pred hn x).mpr h1
    have h3 : nI n - 1 = nI (n - 1) := by
      have := nI_pred (n - 1)
      rwa [Nat.sub_add_cancel h] at this
    rw [h3] at h2
    obtain ⟨j, hj, e⟩ := n_of (n := n - 1) h0 h2 (by omega)
    exact ⟨j, by omega, e⟩
/-- a hole that is there: its numbers -/
theorem ok_hole_n {nh : Nat → Nat} {p h : Int32} (hn : ∀ i, i < 4 → nh i ≤ 8) (ok : ok_hole nh p h = true) : ∃ i j : Nat, i < 4 ∧ j < nh i ∧ nh i ≤ 8 ∧ p = nI i ∧ h = nI j := by
  rw [ok_hole_i] at ok
  obtain ⟨i, hi, rfl⟩ := n_of (n := 3) ok.1.1 ok.1.2 (by decide)
  have h2 := ok.2.2
  rw [i4_cl (by omega)] at h2
  have h3 := hn i (by omega)
  obtain ⟨j, hj, rfl⟩ := n_lt ok.2.1 h2 (by omega)
  exact ⟨i, j, by omega, hj, h3, rfl, rfl⟩
def ok_coil (G : tG) (nc : Nat) (c : Int32) : Bool := decide ((0 ≤ c ∧ c < nI nc) ∧ 0 < G 118 c.toNatClampNeg)
theorem ok_coil_i {G : tG} {nc : Nat} {c : Int32} : ok_coil G nc c = true ↔ (0 ≤ c ∧ c < nI nc) ∧ 0 < G 118 c.toNatClampNeg := decide_eq_true_iff
theorem ok_coil_n {G : tG} {nc : Nat} {c : Int32} (hn : nc ≤ 16) (ok : ok_coil G nc c = true) : ∃ i : Nat, i < nc ∧ c = nI i ∧ 0 < G 118 i := by
  rw [ok_coil_i] at ok
  obtain ⟨i, hi, rfl⟩ := n_lt ok.1.1 ok.1.2 (by omega)
  exact ⟨i, hi, rfl, by have := ok.2; rwa [i4_cl (by omega)] at this⟩
/-- which coils there are: their number, their metals, and no size is 0 -/
def CO (F : tF) (nc : Nat) (mt : Nat → Nat) : Prop := F 100 13 = nI nc ∧ nc ≤ 16 ∧ ∀ c, c < nc → F 115 c = nI (mt c) ∧ mt c < 4 ∧ ¬ (F 116 c).toInt64 * (F 116 c).toInt64 = 0
def w_feet (F : tF) (G : tG) (c : Nat) : Int32 := (G 118 c / ((F 116 c).toInt64 * (F 116 c).toInt64)).toInt32
abbrev qat (p h : Int32) : Nat := 8 * p.toNatClampNeg + h.toNatClampNeg
def sp_told (F : tF) (nh : Nat → Nat) (p h w : Int32) : Int32 := if ok_hole nh p h then (if w = 0 then F 111 (qat p h) else if w = 1 then F 112 (qat p h) else if w = 2 then w_wide F (qat p h) else if w = 3 then F 113 (qat p h) else if w = 4 then (if F 111 (qat p h) + 50 < w_wide F (qat p h) then 1 else 0) else -3) else -2
def sp_gauge (F : tF) (nh : Nat → Nat) (p h : Int32) : Int32 := if ok_hole nh p h then w_wide F (qat p h) - F 111 (qat p h) else -2
def sp_ream (F : tF) (nh : Nat → Nat) (p h b : Int32) : Int32 := if ok_hole nh p h then (if 1 ≤ b ∧ b ≤ 50 then (if F 113 (qat p h) = 2 ∨ 1000 < w_wide F (qat p h) + b then -4 else w_wide F (qat p h) + b) else -3) else -2
def st_ream (F : tF) (nh : Nat → Nat) (p h b : Int32) : tF := if ok_hole nh p h then (if 1 ≤ b ∧ b ≤ 50 then (if F 113 (qat p h) = 2 ∨ 1000 < w_wide F (qat p h) + b then F else uF (uF (uF F 111 (qat p h) (w_wide F (qat p h) + b)) 112 (qat p h) 0) 113 (qat p h) (F 113 (qat p h) + 1)) else F) else F
def nF (F : tF) (nc : Nat) (m s : Int32) : tF := uF (uF (uF (uF (uF (uF (uF F 115 nc m) 116 nc s) 117 nc 0) 119 nc 0) 120 nc 0) 121 nc 0) 100 13 (nI (nc + 1))
def sp_coil (nc : Nat) (m s f : Int32) : Int32 := if 0 ≤ m ∧ m ≤ 3 then (if (20 ≤ s ∧ s ≤ 1000) ∧ (1 ≤ f ∧ f ≤ 1000) then (if nc = 16 then -8 else nI nc) else -3) else -2
def all_coil (s f : Int32) : Int64 := s.toInt64 * s.toInt64 * f.toInt64
abbrev ok_new (nc : Nat) (m s f : Int32) : Prop := (0 ≤ m ∧ m ≤ 3) ∧ ((20 ≤ s ∧ s ≤ 1000) ∧ (1 ≤ f ∧ f ≤ 1000)) ∧ ¬ nc = 16
def st_coilF (F : tF) (nc : Nat) (m s f b : Int32) : tF := if ok_new nc m s f then uF (nF F nc m s) 121 nc b else F
def st_coilG (G : tG) (nc : Nat) (m s f : Int32) : tG := if ok_new nc m s f then uG (uG G 100 30 (G 100 30 + all_coil s f)) 118 nc (all_coil s f) else G
def sp_at (F : tF) (G : tG) (nc : Nat) (c w : Int32) : Int32 := if ok_coil G nc c then (if w = 0 then F 115 c.toNatClampNeg else if w = 1 then F 116 c.toNatClampNeg else if w = 2 then F 117 c.toNatClampNeg else if w = 3 then w_feet F G c.toNatClampNeg else if w = 4 then F 119 c.toNatClampNeg else if w = 5 then F 120 c.toNatClampNeg else if w = 6 then (if F 121 c.toNatClampNeg = 0 then 0 else 1) else -3) else -2
def sp_stuff (G : tG) (nc : Nat) (c : Int32) : Int64 := if ok_coil G nc c then G 118 c.toNatClampNeg else -2
theorem sw_no {x : Int32} {lo hi : Int} (h : x.toInt < lo ∨ hi < x.toInt) {y : Int32} (h1 : lo ≤ y.toInt) (h2 : y.toInt ≤ hi) : ¬ x = y := by
  intro e
  subst e
  omega
theorem lg_le (x y : Int64) : lg_cmp x y ≤ 0 ↔ x ≤ y := by
  unfold lg_cmp
  simp only [gt_iff_lt, Int64.lt_iff_toInt_lt, Int64.le_iff_toInt_le, ← Int64.toInt_inj, Int32.le_iff_toInt_le]
  repeat' split
  all_goals simp
  all_goals omega
