/-! THE LAW: the class's view and the reference's cells are one -/
theorem rF_k (F : tF) {k : Nat} (h : 100 ≤ k) : rF F k = F k := by
  funext j
  simp [rF, show ¬ k < 100 by omega]
theorem rG_k (F : tG) {k : Nat} (h : 100 ≤ k) : rG F k = F k := by
  funext j
  simp [rG, show ¬ k < 100 by omega]
theorem rF_u (F : tF) {k : Nat} (h : 100 ≤ k) (j : Nat) (v : Int32) : rF (uF F k j v) = uF (rF F) k j v := by
  funext k' j'
  rw [uF_g]
  unfold rF
  by_cases h1 : k' < 100
  · rw [if_pos h1, if_neg (by omega), if_pos h1]
  · rw [if_neg h1, if_neg h1, uF_g]
theorem rG_u (F : tG) {k : Nat} (h : 100 ≤ k) (j : Nat) (v : Int64) : rG (uG F k j v) = uG (rG F) k j v := by
  funext k' j'
  rw [uG_g]
  unfold rG
  by_cases h1 : k' < 100
  · rw [if_pos h1, if_neg (by omega), if_pos h1]
  · rw [if_neg h1, if_neg h1, uG_g]
theorem rF_eq {F F1 : tF} (h : ∀ k, 100 ≤ k → F1 k = F k) : rF F1 = rF F := by
  funext k j
  unfold rF
  by_cases h1 : k < 100
  · rw [if_pos h1, if_pos h1]
  · rw [if_neg h1, if_neg h1, h k (by omega)]
theorem rG_eq {F F1 : tG} (h : ∀ k, 100 ≤ k → F1 k = F k) : rG F1 = rG F := by
  funext k j
  unfold rG
  by_cases h1 : k < 100
  · rw [if_pos h1, if_pos h1]
  · rw [if_neg h1, if_neg h1, h k (by omega)]
theorem locF_lt {k j : Nat} (h : k < 100) : locF k j = none := by
  cases hl : locF k j with
  | none => rfl
  | some p =>
    obtain ⟨a, b⟩ := p
    have := (locF_inv hl).2.2
    omega
theorem locG_lt {k j : Nat} (h : k < 100) : locG k j = none := by
  cases hl : locG k j with
  | none => rfl
  | some p =>
    obtain ⟨a, b⟩ := p
    have := (locG_inv hl).2.2
    omega
theorem Rel_of {F1 F2 : tF} (hA : ∀ k, k < 100 → F2 k = F1 k) (hB : vF F1 = rF F2) : vF F2 = rF F2 := by
  funext k j
  cases hl : locF k j with
  | none =>
    simp only [vF, rF, hl]
  | some p =>
    obtain ⟨a, b⟩ := p
    have h1 := locF_inv hl
    rw [vF_at hl, hA a (by omega), ← vF_at hl F1, hB]
theorem RelG_of {F1 F2 : tG} (hA : ∀ k, k < 100 → F2 k = F1 k) (hB : vG F1 = rG F2) : vG F2 = rG F2 := by
  funext k j
  cases hl : locG k j with
  | none =>
    simp only [vG, rG, hl]
  | some p =>
    obtain ⟨a, b⟩ := p
    have h1 := locG_inv hl
    rw [vG_at hl, hA a (by omega), ← vG_at hl F1, hB]
section RSP
variable (F : tF) (G : tG) {nc no nn : Nat} {nh mt : Nat → Nat} (a b c d e f : Int32)
theorem r_set : sp_set (rF F) a b = sp_set F a b := rfl
theorem r_told : sp_told (rF F) nh a b c = sp_told F nh a b c := rfl
theorem r_gauge : sp_gauge (rF F) nh a b = sp_gauge F nh a b := rfl
theorem r_ream : sp_ream (rF F) nh a b c = sp_ream F nh a b c := rfl
theorem r_at : sp_at (rF F) (rG G) nc a b = sp_at F G nc a b := rfl
theorem r_stuff : sp_stuff (rG G) nc a = sp_stuff G nc a := rfl
theorem r_asks : sp_asks (rF F) (rG G) nc mt nh a b c d = sp_asks F G nc mt nh a b c d := rfl
theorem r_draw : sp_draw (rF F) (rG G) nc mt nh a b c d = sp_draw F G nc mt nh a b c d := rfl
theorem r_fire : sp_fire (rF F) (rG G) nc a = sp_fire F G nc a := rfl
theorem r_join : sp_join (rF F) (rG G) nc a b = sp_join F G nc a b := rfl
theorem r_scrap : sp_scrap (rG G) nc a = sp_scrap G nc a := rfl
theorem r_part : sp_part (rF F) (rG G) nc a b = sp_part F G nc a b := rfl
theorem r_ready : sp_ready (rF F) a = sp_ready F a := rfl
theorem r_filled : sp_filled (rF F) no a = sp_filled F no a := rfl
theorem r_wt (c1 i1 u1 : Nat) : wtV (rF F) nh mt c1 i1 u1 a b = wtV F nh mt c1 i1 u1 a b := rfl
theorem r_way : sp_way (rF F) (rG G) nc nh mt a b c d e = sp_way F G nc nh mt a b c d e := rfl
theorem r_step : sp_step (rF F) (rG G) nc nh mt a b c d e f = sp_step F G nc nh mt a b c d e f := rfl
theorem r_sumG : ∀ n, sumG (rG G 118) n = sumG (G 118) n := fun n => rfl
theorem r_account : sp_account (rG G) nc a = sp_account G nc a := rfl
theorem r_count : sp_count (rF F) (rG G) nc no nn a = sp_count F G nc no nn a := rfl
theorem s_set : rF (st_set F a b) = st_set (rF F) a b := by
  unfold st_set
  split
  · split
    · exact rF_u _ (by decide) _ _
    · rfl
  · rfl
theorem s_metal : rF (st_metal F a b c d e f) = st_metal (rF F) a b c d e f := by
  unfold st_metal
  split
  · rw [rF_u _ (by decide), rF_u _ (by decide), rF_u _ (by decide), rF_u _ (by decide), rF_u _ (by decide)]
  · rfl
theorem s_puller : rF (st_puller F a b c) = st_puller (rF F) a b c := by
  unfold st_puller
  split
  · rw [rF_u _ (by decide), rF_u _ (by decide)]
  · rfl
theorem s_ream : rF (st_ream F nh a b c) = st_ream (rF F) nh a b c := by
  show rF (if ok_hole nh a b = true then (if 1 ≤ c ∧ c ≤ 50 then (if F 113 (qat a b) = 2 ∨ 1000 < w_wide F (qat a b) + c then F else uF (uF (uF F 111 (qat a b) (w_wide F (qat a b) + c)) 112 (qat a b) 0) 113 (qat a b) (F 113 (qat a b) + 1)) else F) else F) = (if ok_hole nh a b = true then (if 1 ≤ c ∧ c ≤ 50 then (if F 113 (qat a b) = 2 ∨ 1000 < w_wide F (qat a b) + c then rF F else uF (uF (uF (rF F) 111 (qat a b) (w_wide F (qat a b) + c)) 112 (qat a b) 0) 113 (qat a b) (F 113 (qat a b) + 1)) else rF F) else rF F)
  split
  · split
    · split
      · rfl
      · rw [rF_u _ (by decide), rF_u _ (by decide), rF_u _ (by decide)]
    · rfl
  · rfl
theorem s_dF (m x q p : Nat) : rF (dF F G m x q p) = dF (rF F) (rG G) m x q p := by
  unfold dF
  rw [rF_u _ (by decide), rF_u _ (by decide), rF_u _ (by decide), rF_u _ (by decide), rF_u _ (by decide), rF_u _ (by decide)]
  rfl
theorem s_draw : rF (st_draw F G nc mt nh a b c d) = st_draw (rF F) (rG G) nc mt nh a b c d := by
  show rF (if ok_draw G nc nh a b c d = true then (if ag_at F mt a b c d = 1 then dF F G (mt a.toNatClampNeg) a.toNatClampNeg (qat b c) d.toNatClampNeg else F) else F) = (if ok_draw G nc nh a b c d = true then (if ag_at F mt a b c d = 1 then dF (rF F) (rG G) (mt a.toNatClampNeg) a.toNatClampNeg (qat b c) d.toNatClampNeg else rF F) else rF F)
  split
  · split
    · exact s_dF _ _ _ _ _ _
    · rfl
  · rfl
theorem s_fF (x : Nat) : rF (fF F x) = fF (rF F) x := by
  unfold fF
  rw [rF_u _ (by decide), rF_u _ (by decide), rF_u _ (by decide), rF_u _ (by decide)]
  rfl
theorem s_fireF : rF (st_fireF F G nc a) = st_fireF (rF F) (rG G) nc a := by
  show rF (if ok_coil G nc a = true then (if F 117 a.toNatClampNeg = 0 then F else fF F a.toNatClampNeg) else F) = (if ok_coil G nc a = true then (if F 117 a.toNatClampNeg = 0 then rF F else fF (rF F) a.toNatClampNeg) else rF F)
  split
  · split
    · rfl
    · exact s_fF _ _
  · rfl
theorem s_tG (x : Nat) : rG (tG_ F G x) = tG_ (rF F) (rG G) x := by
  show rG (if w_feet F G x = 0 then uG (uG G 100 32 (G 100 32 + G 118 x)) 118 x 0 else G) = (if w_feet F G x = 0 then uG (uG (rG G) 100 32 (G 100 32 + G 118 x)) 118 x 0 else rG G)
  split
  · rw [rG_u _ (by decide), rG_u _ (by decide)]
  · rfl
theorem s_fG0 (m x : Nat) : rG (fG0 F G m x) = fG0 (rF F) (rG G) m x := by
  unfold fG0
  rw [rG_u _ (by decide), rG_u _ (by decide)]
  rfl
theorem s_fireG : rG (st_fireG F G nc mt a) = st_fireG (rF F) (rG G) nc mt a := by
  show rG (if ok_coil G nc a = true then (if F 117 a.toNatClampNeg = 0 then G else tG_ F (fG0 F G (mt a.toNatClampNeg) a.toNatClampNeg) a.toNatClampNeg) else G) = (if ok_coil G nc a = true then (if F 117 a.toNatClampNeg = 0 then rG G else tG_ (rF F) (fG0 (rF F) (rG G) (mt a.toNatClampNeg) a.toNatClampNeg) a.toNatClampNeg) else rG G)
  split
  · split
    · rfl
    · rw [s_tG, s_fG0]
  · rfl
theorem s_joinF : rF (st_joinF F G nc a b) = st_joinF (rF F) (rG G) nc a b := by
  show rF (if j_why F G nc a b = 1 then jF F a.toNatClampNeg b.toNatClampNeg else F) = (if j_why F G nc a b = 1 then jF (rF F) a.toNatClampNeg b.toNatClampNeg else rF F)
  split
  · unfold jF
    rw [rF_u _ (by decide), rF_u _ (by decide), rF_u _ (by decide), rF_u _ (by decide)]
    rfl
  · rfl
theorem s_joinG : rG (st_joinG F G nc a b) = st_joinG (rF F) (rG G) nc a b := by
  show rG (if j_why F G nc a b = 1 then jG F G a.toNatClampNeg b.toNatClampNeg else G) = (if j_why F G nc a b = 1 then jG (rF F) (rG G) a.toNatClampNeg b.toNatClampNeg else rG G)
  split
  · unfold jG
    rw [rG_u _ (by decide), rG_u _ (by decide), rG_u _ (by decide)]
    rfl
  · rfl
theorem s_scrap : rG (st_scrap G nc a) = st_scrap (rG G) nc a := by
  show rG (if ok_coil G nc a = true then uG (uG G 100 32 (G 100 32 + G 118 a.toNatClampNeg)) 118 a.toNatClampNeg 0 else G) = (if ok_coil G nc a = true then uG (uG (rG G) 100 32 (G 100 32 + G 118 a.toNatClampNeg)) 118 a.toNatClampNeg 0 else rG G)
  split
  · rw [rG_u _ (by decide), rG_u _ (by decide)]
  · rfl
end RSP
theorem r_goN {nc : Nat} {mt nh : Nat → Nat} {c p u : Int32} {sq : Nat → Nat} : ∀ (k i : Nat) (F : tF) (G : tG), goN nc mt nh c p u sq k i (rF F) (rG G) = ((goN nc mt nh c p u sq k i F G).1, rF (goN nc mt nh c p u sq k i F G).2.1, rG (goN nc mt nh c p u sq k i F G).2.2)
  | 0, i, F, G => rfl
  | k + 1, i, F, G => by
    by_cases h8 : sq i = 8
    · by_cases hz : sp_fire F G nc c < 0
      · rw [goN_f0 h8 hz, goN_f0 h8 (by rw [r_fire]; exact hz), s_fireF, s_fireG]
      · rw [goN_f h8 hz, goN_f h8 (by rw [r_fire]; exact hz), ← s_fireF, ← s_fireG]
        exact r_goN k (i + 1) _ _
    · by_cases hz : sp_draw F G nc mt nh c p (nI (sq i)) u < 0
      · rw [goN_d0 h8 hz, goN_d0 h8 (by rw [r_draw]; exact hz), s_draw]
      · rw [goN_d h8 hz, goN_d h8 (by rw [r_draw]; exact hz), ← s_draw]
        exact r_goN k (i + 1) _ _
theorem r_gY (F : tF) (G : tG) {nc : Nat} {nh mt : Nat → Nat} (c p u lo hi : Int32) : gY (rF F) (rG G) nc nh mt c p u lo hi = ((gY F G nc nh mt c p u lo hi).1, rF (gY F G nc nh mt c p u lo hi).2.1, rG (gY F G nc nh mt c p u lo hi).2.2) := r_goN _ _ F G
theorem r_go (F : tF) (G : tG) {nc : Nat} {nh mt : Nat → Nat} (c p u lo hi : Int32) : sp_go (rF F) (rG G) nc nh mt c p u lo hi = sp_go F G nc nh mt c p u lo hi := by
  unfold sp_go
  rw [r_gY]
  rfl
theorem s_goF (F : tF) (G : tG) {nc : Nat} {nh mt : Nat → Nat} (c p u lo hi : Int32) : rF (st_goF F G nc nh mt c p u lo hi) = st_goF (rF F) (rG G) nc nh mt c p u lo hi := by
  show rF (if okY F G nc nh mt c p u lo hi then (gY F G nc nh mt c p u lo hi).2.1 else F) = (if okY F G nc nh mt c p u lo hi then (gY (rF F) (rG G) nc nh mt c p u lo hi).2.1 else rF F)
  rw [r_gY]
  split
  · rfl
  · rfl
theorem s_goG (F : tF) (G : tG) {nc : Nat} {nh mt : Nat → Nat} (c p u lo hi : Int32) : rG (st_goG F G nc nh mt c p u lo hi) = st_goG (rF F) (rG G) nc nh mt c p u lo hi := by
  show rG (if okY F G nc nh mt c p u lo hi then (gY F G nc nh mt c p u lo hi).2.2 else G) = (if okY F G nc nh mt c p u lo hi then (gY (rF F) (rG G) nc nh mt c p u lo hi).2.2 else rG G)
  rw [r_gY]
  split
  · rfl
  · rfl
theorem r_cW (F : tF) (G : tG) (a : Nat → Nat) : ∀ n, cW (rF F) (rG G) a n = (rF (cW F G a n).1, rG (cW F G a n).2.1, (cW F G a n).2.2)
  | 0 => rfl
  | n + 1 => by
    have ih := r_cW F G a n
    by_cases h : a n < 16
    · rw [cW_y h, cW_y h, ih]
      show (_, _, _) = (rF _, rG _, _)
      rw [rF_u _ (by decide), rG_u _ (by decide), rG_u _ (by decide)]
      rfl
    · rw [cW_n h, cW_n h]
      exact ih
theorem r_trG (F : tF) (G : tG) (a : Nat → Nat) : ∀ n, trG (rF F) (rG G) a n = rG (trG F G a n)
  | 0 => rfl
  | n + 1 => by
    have ih := r_trG F G a n
    by_cases h : trT F G a n = true
    · rw [trG_y h, trG_y (show trT (rF F) (rG G) a n = true from h), ih, rG_u _ (by decide), rG_u _ (by decide)]
      rfl
    · rw [trG_n h, trG_n (show ¬ trT (rF F) (rG G) a n = true from h)]
      exact ih
