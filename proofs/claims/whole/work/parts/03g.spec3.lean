/-! parts, joints, orders, notes, accounts, by the reference's cells -/
theorem lp_eq {i b : Nat} (hb : b < 2 ^ 31) (hi : i ≤ b) (h : nI b ≤ nI i) : i = b := by
  have := (nI_leI hb (by omega)).mp h
  omega
theorem lp_lt {i b : Nat} (hb : b < 2 ^ 31) (hi : i ≤ b) (h : ¬ nI b ≤ nI i) : i < b := by
  rcases Nat.lt_or_ge i b with q | q
  · exact q
  · exact absurd ((nI_leI hb (by omega)).mpr q) h
def stay (F : tF) (c : Nat) (f : Int32) : Int64 := (F 116 c).toInt64 * (F 116 c).toInt64 * f.toInt64
abbrev ok_part (F : tF) (G : tG) (nc : Nat) (c f : Int32) : Prop := ok_coil G nc c = true ∧ (1 ≤ f ∧ f ≤ w_feet F G c.toNatClampNeg - 1) ∧ ¬ nc = 16
def sp_part (F : tF) (G : tG) (nc : Nat) (c f : Int32) : Int32 := if ok_coil G nc c = true then (if 1 ≤ f ∧ f ≤ w_feet F G c.toNatClampNeg - 1 then (if nc = 16 then -8 else nI nc) else -3) else -2
def pF (F : tF) (nc c : Nat) : tF := uF (uF (uF (uF (nF F nc (F 115 c) (F 116 c)) 117 nc (F 117 c)) 119 nc (F 119 c)) 120 nc (F 120 c)) 121 nc (F 121 c)
def pG (F : tF) (G : tG) (nc c : Nat) (f : Int32) : tG := uG (uG G 118 nc (G 118 c - stay F c f)) 118 c (stay F c f)
def st_partF (F : tF) (G : tG) (nc : Nat) (c f : Int32) : tF := if ok_part F G nc c f then pF F nc c.toNatClampNeg else F
def st_partG (F : tF) (G : tG) (nc : Nat) (c f : Int32) : tG := if ok_part F G nc c f then pG F G nc c.toNatClampNeg f else G
def j_off (F : tF) (b : Nat) : Int64 := (F 116 b).toInt64 * (F 116 b).toInt64 * (F 106 4).toInt64
/-- which answer a joint has, but for feet: 1 it is made -/
def j_why (F : tF) (G : tG) (nc : Nat) (a b : Int32) : Int32 := if ok_coil G nc a = true ∧ ok_coil G nc b = true then (if a = b then -3 else if F 115 a.toNatClampNeg = F 115 b.toNatClampNeg ∧ F 116 a.toNatClampNeg = F 116 b.toNatClampNeg ∧ F 106 4 + 1 ≤ w_feet F G b.toNatClampNeg then 1 else -4) else -2
def jG (F : tF) (G : tG) (a b : Nat) : tG := uG (uG (uG G 100 32 (G 100 32 + j_off F b)) 118 a (G 118 a + (G 118 b - j_off F b))) 118 b 0
def jF (F : tF) (a b : Nat) : tF := uF (uF (uF (uF F 117 a (if F 117 a < F 117 b then F 117 b else F 117 a)) 119 a (F 119 a + (F 119 b + 1))) 120 a (if F 120 a < F 120 b then F 120 b else F 120 a)) 121 a (if F 121 a = 0 ∧ F 121 b = 0 then 0 else 1)
def sp_join (F : tF) (G : tG) (nc : Nat) (a b : Int32) : Int32 := if j_why F G nc a b = 1 then w_ft (G 118 a.toNatClampNeg + (G 118 b.toNatClampNeg - j_off F b.toNatClampNeg)) (F 116 a.toNatClampNeg) else j_why F G nc a b
def st_joinF (F : tF) (G : tG) (nc : Nat) (a b : Int32) : tF := if j_why F G nc a b = 1 then jF F a.toNatClampNeg b.toNatClampNeg else F
def st_joinG (F : tF) (G : tG) (nc : Nat) (a b : Int32) : tG := if j_why F G nc a b = 1 then jG F G a.toNatClampNeg b.toNatClampNeg else G
def sp_scrap (G : tG) (nc : Nat) (c : Int32) : Int32 := if ok_coil G nc c = true then 1 else -2
def st_scrap (G : tG) (nc : Nat) (c : Int32) : tG := if ok_coil G nc c = true then uG (uG G 100 32 (G 100 32 + G 118 c.toNatClampNeg)) 118 c.toNatClampNeg 0 else G
def sp_ready (F : tF) (w : Int32) : Int32 := if 0 ≤ w ∧ w ≤ 3 then F 109 w.toNatClampNeg else -2
def sp_wrong (G : tG) (nc : Nat) (c p u lo hi : Int32) : Int32 := if ok_coil G nc c = true ∧ (0 ≤ p ∧ p ≤ 3) ∧ (0 ≤ u ∧ u ≤ 2) then (if (20 ≤ lo ∧ lo ≤ 1000) ∧ (20 ≤ hi ∧ hi ≤ 1000) ∧ ¬ hi < lo then 1 else -3) else -2
/-- orders: their number -/
def ON (F : tF) (no : Nat) : Prop := F 100 21 = nI no ∧ no ≤ 6
abbrev ok_ord (no : Nat) (m lo hi f : Int32) : Prop := (0 ≤ m ∧ m ≤ 3) ∧ ((20 ≤ lo ∧ lo ≤ 1000) ∧ (20 ≤ hi ∧ hi ≤ 1000) ∧ (¬ hi < lo) ∧ (1 ≤ f ∧ f ≤ 10000)) ∧ ¬ no = 6
def sp_order (no : Nat) (m lo hi f : Int32) : Int32 := if 0 ≤ m ∧ m ≤ 3 then (if (20 ≤ lo ∧ lo ≤ 1000) ∧ (20 ≤ hi ∧ hi ≤ 1000) ∧ (¬ hi < lo) ∧ (1 ≤ f ∧ f ≤ 10000) then (if no = 6 then -8 else nI no) else -3) else -2
def oF_ (F : tF) (no : Nat) (m lo hi f : Int32) : tF := uF (uF (uF (uF (uF (uF F 123 no m) 124 no lo) 125 no hi) 126 no f) 127 no 0) 100 21 (nI (no + 1))
def st_order (F : tF) (no : Nat) (m lo hi f : Int32) : tF := if ok_ord no m lo hi f then oF_ F no m lo hi f else F
def sp_filled (F : tF) (no : Nat) (o : Int32) : Int32 := if 0 ≤ o ∧ o < nI no then (if F 127 o.toNatClampNeg = 0 then 0 else 1) else -2
def NN (F : tF) (nn : Nat) : Prop := F 100 27 = nI nn ∧ nn ≤ 60
def sp_note (nn : Nat) (b : Int32) : Int32 := if 0 ≤ b ∧ b ≤ 7 then (if nn = 60 then -8 else nI (nn + 1)) else -3
abbrev ok_note (nn : Nat) (b : Int32) : Prop := (0 ≤ b ∧ b ≤ 7) ∧ ¬ nn = 60
def st_note (F : tF) (nn : Nat) (b k : Int32) : tF := if ok_note nn b then uF (uF (uF F 129 nn b) 130 nn k) 100 27 (nI (nn + 1)) else F
def sumG (f : Nat → Int64) : Nat → Int64
  | 0 => 0
  | n + 1 => sumG f n + f n
def sp_account (G : tG) (nc : Nat) (w : Int32) : Int64 := if w = 0 then G 100 30 else if w = 1 then sumG (G 118) nc else if w = 2 then G 100 31 else if w = 3 then G 100 32 else if w = 4 then G 100 33 else -3
def cntL (f : Nat → Int64) : Nat → Int32
  | 0 => 0
  | n + 1 => cntL f n + (if 0 < f n then 1 else 0)
def cntF (f : Nat → Int32) : Nat → Int32
  | 0 => 0
  | n + 1 => cntF f n + (if f n = 0 then 0 else 1)
def sp_count (F : tF) (G : tG) (nc no nn : Nat) (w : Int32) : Int32 := if w = 0 then nI nc else if w = 1 then cntL (G 118) nc else if w = 2 then nI no else if w = 3 then cntF (F 127) no else if w = 4 then nI nn else if w = 5 then F 100 34 else if w = 6 then F 100 35 else -3
/-- of a note: 0 broke with the cause, 1 did not, 2 broke without it, 3 did not -/
def n_kind (F : tF) (ca : Int32) (k : Nat) : Nat := (if F 130 k = 0 then 1 else 0) + (if (F 129 k >>> (ca &&& 31)) &&& 1 = 1 then 0 else 2)
def tlN (F : tF) (ca : Int32) (w : Nat) : Nat → Nat
  | 0 => 0
  | k + 1 => tlN F ca w k + (if n_kind F ca k = w then 1 else 0)
theorem tlN_le (F : tF) (ca : Int32) (w : Nat) : ∀ k, tlN F ca w k ≤ k
  | 0 => Nat.le_refl 0
  | k + 1 => by
    have := tlN_le F ca w k
    simp only [tlN]
    split <;> omega
theorem tlN_1 {F : tF} {ca : Int32} {w k n : Nat} (h : n_kind F ca k = n) (e : n = w) : nI (tlN F ca w k) + 1 = nI (tlN F ca w (k + 1)) := by
  simp only [tlN, h, e, if_true]
  exact nI_1 _
theorem tlN_0 {F : tF} {ca : Int32} {w k n : Nat} (h : n_kind F ca k = n) (e : ¬ n = w) : nI (tlN F ca w k) + 0 = nI (tlN F ca w (k + 1)) := by
  simp only [tlN, h, e, if_false, Nat.add_zero, Int32.add_zero]
def sp_tally (F : tF) (nn : Nat) (ca w : Int32) : Int32 := if 0 ≤ ca ∧ ca ≤ 2 then (if 0 ≤ w ∧ w ≤ 3 then nI (tlN F ca w.toNatClampNeg nn) else -3) else -2
def w_above (F : tF) (nn : Nat) (ca : Int32) : Int32 := nI (tlN F ca 0 nn) * nI (tlN F ca 2 nn + tlN F ca 3 nn) - nI (tlN F ca 2 nn) * nI (tlN F ca 0 nn + tlN F ca 1 nn)
def w_below (F : tF) (nn : Nat) (ca : Int32) : Nat := (tlN F ca 0 nn + tlN F ca 1 nn) * (tlN F ca 2 nn + tlN F ca 3 nn)
