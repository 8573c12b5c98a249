/-! what draws, fires, parts, joints answer, by the reference's cells -/
def w_ft (g : Int64) (z : Int32) : Int32 := (g / (z.toInt64 * z.toInt64)).toInt32
theorem w_feet_e (F : tF) (G : tG) (c : Nat) : w_feet F G c = w_ft (G 118 c) (F 116 c) := rfl
def w_thin (s w : Int32) : Int32 := 1000 - (1000 * w.toInt64 * w.toInt64 / (s.toInt64 * s.toInt64)).toInt32
def w_hard (F : tF) (mt : Nat) (s h w : Int32) : Int32 := h + F 102 mt * w_thin s w / 1000
def w_ask1 (F : tF) (mt : Nat) (s h w : Int32) : Int64 := (s.toInt64 * s.toInt64 - w.toInt64 * w.toInt64) * (F 101 mt).toInt64 * (100 + h).toInt64 / 100
def w_asks (F : tF) (mt : Nat) (s h w : Int32) : Int64 := w_ask1 F mt s h w + w_ask1 F mt s h w * (F 106 0).toInt64 / 100
def w_bear1 (F : tF) (mt : Nat) (s h w : Int32) : Int64 := w.toInt64 * w.toInt64 * (F 101 mt).toInt64 * (100 + w_hard F mt s h w).toInt64 / 100
def w_bears (F : tF) (mt : Nat) (s h w j : Int32) : Int64 := (if 0 < j then w_bear1 F mt s h w * 8 / 10 else w_bear1 F mt s h w) * (F 106 1).toInt64 / 100
def w_pull (F : tF) (p : Nat) : Int64 := if p = 0 then (F 107 0).toInt64 * (F 106 2).toInt64 / 10 else (F 107 p).toInt64
/-- 1, or why a draw may not be -/
def w_ag (F : tF) (mt : Nat) (j s h : Int32) (q p : Nat) : Int32 := if F 111 q + 50 < w_wide F q ∨ ¬ w_wide F q < s then -4 else if F 103 mt < w_hard F mt s h (w_wide F q) then -5 else if w_bears F mt s h (w_wide F q) j < w_asks F mt s h (w_wide F q) then -6 else if w_pull F p < w_asks F mt s h (w_wide F q) then -7 else 1
def sp_asks (F : tF) (G : tG) (nc : Nat) (mt nh : Nat → Nat) (c p h w : Int32) : Int32 := if ok_coil G nc c = true ∧ ok_hole nh p h = true then (if 0 ≤ w ∧ w ≤ 3 then (if w_wide F (qat p h) < F 116 c.toNatClampNeg then (if w = 0 then (w_asks F (mt c.toNatClampNeg) (F 116 c.toNatClampNeg) (F 117 c.toNatClampNeg) (w_wide F (qat p h))).toInt32 else if w = 1 then (w_bears F (mt c.toNatClampNeg) (F 116 c.toNatClampNeg) (F 117 c.toNatClampNeg) (w_wide F (qat p h)) (F 119 c.toNatClampNeg)).toInt32 else if w = 2 then w_hard F (mt c.toNatClampNeg) (F 116 c.toNatClampNeg) (F 117 c.toNatClampNeg) (w_wide F (qat p h)) else w_thin (F 116 c.toNatClampNeg) (w_wide F (qat p h))) else -4) else -3) else -2
/-- widths of holes that are there, and speeds, aren't 0 -/
def HZ (F : tF) (nh : Nat → Nat) : Prop := (∀ i j, i < 4 → j < nh i → ¬ (w_wide F (8 * i + j)).toInt64 * (w_wide F (8 * i + j)).toInt64 = 0) ∧ ∀ i, i < 3 → ¬ F 108 i = 0
def d_feet (F : tF) (G : tG) (c q : Nat) : Int32 := w_ft (G 118 c) (w_wide F q)
def d_wear (F : tF) (G : tG) (mt c q : Nat) : Int32 := F 112 q + ((d_feet F G c q).toInt64 * (F 104 mt).toInt64 * (100 + F 117 c).toInt64 / 10000).toInt32
def d_done (F : tF) (G : tG) (c q p : Nat) : Int32 := (if F 109 p < F 120 c then F 120 c else F 109 p) + (d_feet F G c q + F 108 p - 1) / F 108 p + 1
/-- a draw that is made -/
def dF (F : tF) (G : tG) (mt c q p : Nat) : tF := uF (uF (uF (uF (uF (uF F 117 c (w_hard F mt (F 116 c) (F 117 c) (w_wide F q))) 116 c (w_wide F q)) 112 q (d_wear F G mt c q)) 109 p (d_done F G c q p)) 120 c (d_done F G c q p)) 100 34 (F 100 34 + 1)
def ok_draw (G : tG) (nc : Nat) (nh : Nat → Nat) (c p h u : Int32) : Bool := ok_coil G nc c && ok_hole nh p h && decide (0 ≤ u ∧ u ≤ 2)
def ag_at (F : tF) (mt : Nat → Nat) (c p h u : Int32) : Int32 := w_ag F (mt c.toNatClampNeg) (F 119 c.toNatClampNeg) (F 116 c.toNatClampNeg) (F 117 c.toNatClampNeg) (qat p h) u.toNatClampNeg
def sp_draw (F : tF) (G : tG) (nc : Nat) (mt nh : Nat → Nat) (c p h u : Int32) : Int32 := if ok_draw G nc nh c p h u = true then (if ag_at F mt c p h u = 1 then d_feet F G c.toNatClampNeg (qat p h) else ag_at F mt c p h u) else -2
def st_draw (F : tF) (G : tG) (nc : Nat) (mt nh : Nat → Nat) (c p h u : Int32) : tF := if ok_draw G nc nh c p h u = true then (if ag_at F mt c p h u = 1 then dF F G (mt c.toNatClampNeg) c.toNatClampNeg (qat p h) u.toNatClampNeg else F) else F
/-- a coil without feet is scrap -/
def tG_ (F : tF) (G : tG) (c : Nat) : tG := if w_feet F G c = 0 then uG (uG G 100 32 (G 100 32 + G 118 c)) 118 c 0 else G
def f_off (F : tF) (G : tG) (mt c : Nat) : Int64 := G 118 c * (F 105 mt).toInt64 / 1000
def f_done (F : tF) (c : Nat) : Int32 := (if F 109 3 < F 120 c then F 120 c else F 109 3) + F 106 3
def fF (F : tF) (c : Nat) : tF := uF (uF (uF (uF F 117 c 0) 109 3 (f_done F c)) 120 c (f_done F c)) 100 35 (F 100 35 + 1)
def fG0 (F : tF) (G : tG) (mt c : Nat) : tG := uG (uG G 118 c (G 118 c - f_off F G mt c)) 100 33 (G 100 33 + f_off F G mt c)
def sp_fire (F : tF) (G : tG) (nc : Nat) (c : Int32) : Int32 := if ok_coil G nc c = true then (if F 117 c.toNatClampNeg = 0 then -4 else f_done F c.toNatClampNeg) else -2
def st_fireF (F : tF) (G : tG) (nc : Nat) (c : Int32) : tF := if ok_coil G nc c = true then (if F 117 c.toNatClampNeg = 0 then F else fF F c.toNatClampNeg) else F
def st_fireG (F : tF) (G : tG) (nc : Nat) (mt : Nat → Nat) (c : Int32) : tG := if ok_coil G nc c = true then (if F 117 c.toNatClampNeg = 0 then G else tG_ F (fG0 F G (mt c.toNatClampNeg) c.toNatClampNeg) c.toNatClampNeg) else G
theorem lg_no (x y : Int64) : ¬ lg_cmp x y ≤ 0 ↔ y < x := by rw [lg_le, Int64.not_le]
theorem i_pos {i : Nat} (h : i < 1000) (h0 : ¬ i = 0) : ¬ nI i = 0 := fun e => h0 ((nI_eq (by omega) (by decide)).mp e)
