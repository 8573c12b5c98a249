/-! THE LAW: what the reference's cells hold, call by call -/
def GO (F : tF) (no : Nat) : Prop := ∀ o, o < no → rg (F 126 o) 1 10000 ∧ (F 127 o = 0 ∨ F 127 o = 1)
def RS (F : tF) (G : tG) (nh : Nat → Nat) (nc no nn : Nat) (mt om : Nat → Nat) : Prop := GI F G nh nc mt ∧ GO F no ∧ (F 100 13 = nI nc ∧ F 100 21 = nI no ∧ F 100 27 = nI nn ∧ ∀ i, i < 4 → F 110 i = nI (nh i)) ∧ ((∀ c, c < nc → F 115 c = nI (mt c)) ∧ ∀ o, o < no → F 123 o = nI (om o)) ∧ ((∀ k, k < nn → ∃ b, b < 8 ∧ F 129 k = nI b) ∧ nn ≤ 60 ∧ no ≤ 6)
def KR (F F1 : tF) : Prop := (F1 100 13 = F 100 13 ∧ F1 100 21 = F 100 21 ∧ F1 100 27 = F 100 27) ∧ F1 110 = F 110 ∧ F1 115 = F 115 ∧ F1 123 = F 123 ∧ F1 126 = F 126 ∧ F1 127 = F 127 ∧ F1 129 = F 129
theorem KR.rf {F : tF} : KR F F := ⟨⟨rfl, rfl, rfl⟩, rfl, rfl, rfl, rfl, rfl, rfl⟩
theorem KR.tr {F F1 F2 : tF} (h : KR F F1) (h2 : KR F1 F2) : KR F F2 := ⟨⟨h2.1.1.trans h.1.1, h2.1.2.1.trans h.1.2.1, h2.1.2.2.trans h.1.2.2⟩, h2.2.1.trans h.2.1, h2.2.2.1.trans h.2.2.1, h2.2.2.2.1.trans h.2.2.2.1, h2.2.2.2.2.1.trans h.2.2.2.2.1, h2.2.2.2.2.2.1.trans h.2.2.2.2.2.1, h2.2.2.2.2.2.2.trans h.2.2.2.2.2.2⟩
theorem KR.u {F F1 : tF} (h : KR F F1) {k j : Nat} {v : Int32} (h1 : k ≠ 110 ∧ k ≠ 115 ∧ k ≠ 123 ∧ k ≠ 126 ∧ k ≠ 127 ∧ k ≠ 129) (h2 : k ≠ 100 ∨ (j ≠ 13 ∧ j ≠ 21 ∧ j ≠ 27)) : KR F (uF F1 k j v) :=
  ⟨⟨(uF_n _ _ (by omega)).trans h.1.1, (uF_n _ _ (by omega)).trans h.1.2.1, (uF_n _ _ (by omega)).trans h.1.2.2⟩, (uF_o _ _ _ (by omega)).trans h.2.1, (uF_o _ _ _ (by omega)).trans h.2.2.1, (uF_o _ _ _ (by omega)).trans h.2.2.2.1, (uF_o _ _ _ (by omega)).trans h.2.2.2.2.1, (uF_o _ _ _ (by omega)).trans h.2.2.2.2.2.1, (uF_o _ _ _ (by omega)).trans h.2.2.2.2.2.2⟩
theorem RS.keep {F F1 : tF} {G G1 : tG} {nh : Nat → Nat} {nc no nn : Nat} {mt om : Nat → Nat} (h : RS F G nh nc no nn mt om) (hG : GI F1 G1 nh nc mt) (hk : KR F F1) : RS F1 G1 nh nc no nn mt om := by
  obtain ⟨h1, h2, ⟨h3, h4, h5, h6⟩, ⟨h7, h8⟩, h9, h10, h11⟩ := h
  obtain ⟨⟨k1, k2, k3⟩, k4, k5, k6, k7, k8, k9⟩ := hk
  refine ⟨hG, fun o ho => ?_, ⟨k1.trans h3, k2.trans h4, k3.trans h5, fun i hi => by rw [k4]; exact h6 i hi⟩, ⟨fun c hc => by rw [k5]; exact h7 c hc, fun o ho => by rw [k6]; exact h8 o ho⟩, fun k hk => by rw [k9]; exact h9 k hk, h10, h11⟩
  rw [k7, k8]
  exact h2 o ho
section KEEP
variable {F F1 : tF} {G : tG} {nh : Nat → Nat} {nc no nn : Nat} {mt om : Nat → Nat}
/-- what GI looks at -/
theorem GI.cg (h : GI F G nh nc mt) (e : ∀ k, 101 ≤ k → k < 122 → F1 k = F k) : GI F1 G nh nc mt := by
  obtain ⟨hM, hS, hP, hH, hC, hT, hN⟩ := h
  refine ⟨fun k hk => ?_, ?_, fun k hk => ?_, fun i j hi hj => ?_, fun c hc => ?_, hT, hN⟩
  · rw [e 101 (by decide) (by decide), e 102 (by decide) (by decide), e 103 (by decide) (by decide), e 104 (by decide) (by decide), e 105 (by decide) (by decide)]
    exact hM k hk
  · unfold GS
    rw [e 106 (by decide) (by decide)]
    exact hS
  · rw [e 107 (by decide) (by decide), e 108 (by decide) (by decide)]
    exact hP k hk
  · rw [e 111 (by decide) (by decide), e 112 (by decide) (by decide), e 113 (by decide) (by decide)]
    exact hH i j hi hj
  · rw [e 116 (by decide) (by decide), e 117 (by decide) (by decide), e 121 (by decide) (by decide)]
    exact hC c hc
theorem GI.r (h : GI F G nh nc mt) : GI (rF F) (rG G) nh nc mt := by
  have h1 : GI (rF F) G nh nc mt := h.cg (fun k a _ => rF_k F (by omega))
  obtain ⟨hM, hS, hP, hH, hC, hT, hN⟩ := h1
  have e := rG_k G (k := 118) (by decide)
  refine ⟨hM, hS, hP, hH, fun c hc => ?_, ?_, hN⟩
  · rw [e]; exact hC c hc
  · unfold GT; rw [e]; exact hT
theorem rg_c {x : Int32} {a b : Nat} (ha : a < 2 ^ 31) (hb : b < 2 ^ 31) (h : nI a ≤ x ∧ x ≤ nI b) : rg x a b := rg_of ha hb h.1 h.2
theorem st_metal_GI (h : GI F G nh nc mt) (m b g l a c : Int32) : GI (st_metal F m b g l a c) G nh nc mt := by
  unfold st_metal
  by_cases hs : sp_metal m b g l a c = 1
  · rw [if_pos hs]
    unfold sp_metal at hs
    by_cases h1 : 0 ≤ m ∧ m ≤ 3
    · rw [if_pos h1] at hs
      by_cases h2 : (1 ≤ b ∧ b ≤ 200) ∧ (0 ≤ g ∧ g ≤ 300) ∧ (1 ≤ l ∧ l ≤ 100) ∧ (0 ≤ a ∧ a ≤ 50) ∧ (0 ≤ c ∧ c ≤ 50)
      · obtain ⟨hM, hS, hP, hH, hC, hT, hN⟩ := h
        refine ⟨fun i hi => ?_, ?_, ?_, ?_, ?_, hT, hN⟩
        · simp only [uF_g]
          obtain ⟨q1, q2, q3, q4, q5⟩ := hM i hi
          by_cases e : i = m.toNatClampNeg
          · simp only [e, and_self, if_true, Nat.reduceEqDiff, false_and, if_false]
            exact ⟨rg_c (a := 1) (b := 200) (by decide) (by decide) h2.1, rg_c (a := 0) (b := 300) (by decide) (by decide) h2.2.1, rg_c (a := 1) (b := 100) (by decide) (by decide) h2.2.2.1, rg_c (a := 0) (b := 50) (by decide) (by decide) h2.2.2.2.1, rg_c (a := 0) (b := 50) (by decide) (by decide) h2.2.2.2.2⟩
          · simp only [e, and_false, if_false]
            exact ⟨q1, q2, q3, q4, q5⟩
        · unfold GS
          rw [uF_o _ _ _ (by decide), uF_o _ _ _ (by decide), uF_o _ _ _ (by decide), uF_o _ _ _ (by decide), uF_o _ _ _ (by decide)]
          exact hS
        · intro i hi
          simp only [uF_g, Nat.reduceEqDiff, false_and, if_false]
          exact hP i hi
        · intro i j hi hj
          simp only [uF_g, Nat.reduceEqDiff, false_and, if_false]
          exact hH i j hi hj
        · intro x hx
          simp only [uF_g, Nat.reduceEqDiff, false_and, if_false]
          exact hC x hx
      · rw [if_neg h2] at hs
        exact absurd hs (by decide)
    · rw [if_neg h1] at hs
      exact absurd hs (by decide)
  · rw [if_neg hs]
    exact h
theorem st_metal_KR (m b g l a c : Int32) : KR F (st_metal F m b g l a c) := by
  unfold st_metal
  split
  · exact ((((KR.rf.u (by omega) (by omega)).u (by omega) (by omega)).u (by omega) (by omega)).u (by omega) (by omega)).u (by omega) (by omega)
  · exact KR.rf
theorem st_set_GI (h : GI F G nh nc mt) (w v : Int32) : GI (st_set F w v) G nh nc mt := by
  unfold st_set
  by_cases h1 : 0 ≤ w ∧ w ≤ 5
  · rw [if_pos h1]
    by_cases h2 : sp_least w ≤ v ∧ v ≤ sp_most w
    · rw [if_pos h2]
      obtain ⟨hM, ⟨s0, s1, s2, s3, s4, s5⟩, hP, hH, hC, hT, hN⟩ := h
      refine ⟨fun i hi => ?_, ?_, fun i hi => ?_, fun i j hi hj => ?_, fun x hx => ?_, hT, hN⟩
      · simp only [uF_g, Nat.reduceEqDiff, false_and, if_false]
        exact hM i hi
      · obtain ⟨i, hi, rfl⟩ := n_of (n := 5) h1.1 h1.2 (by decide)
        rw [i4_cl (by omega)]
        unfold GS
        simp only [uF_g, true_and]
        rcases (show i = 0 ∨ i = 1 ∨ i = 2 ∨ i = 3 ∨ i = 4 ∨ i = 5 by omega) with e | e | e | e | e | e <;> subst e
        · exact ⟨rg_c (a := 0) (b := 100) (by decide) (by decide) h2, s1, s2, s3, s4, s5⟩
        · exact ⟨s0, rg_c (a := 10) (b := 100) (by decide) (by decide) h2, s2, s3, s4, s5⟩
        · exact ⟨s0, s1, rg_c (a := 0) (b := 10) (by decide) (by decide) h2, s3, s4, s5⟩
        · exact ⟨s0, s1, s2, rg_c (a := 1) (b := 500) (by decide) (by decide) h2, s4, s5⟩
        · exact ⟨s0, s1, s2, s3, rg_c (a := 0) (b := 20) (by decide) (by decide) h2, s5⟩
        · exact ⟨s0, s1, s2, s3, s4, rg_c (a := 1) (b := 100) (by decide) (by decide) h2⟩
      · simp only [uF_g, Nat.reduceEqDiff, false_and, if_false]
        exact hP i hi
      · simp only [uF_g, Nat.reduceEqDiff, false_and, if_false]
        exact hH i j hi hj
      · simp only [uF_g, Nat.reduceEqDiff, false_and, if_false]
        exact hC x hx
    · rw [if_neg h2]; exact h
  · rw [if_neg h1]; exact h
theorem st_set_KR (w v : Int32) : KR F (st_set F w v) := by
  unfold st_set
  split
  · split
    · exact KR.rf.u (by omega) (by omega)
    · exact KR.rf
  · exact KR.rf
theorem st_puller_GI (h : GI F G nh nc mt) (m f v : Int32) : GI (st_puller F m f v) G nh nc mt := by
  unfold st_puller
  by_cases hs : sp_puller m f v = 1
  · rw [if_pos hs]
    unfold sp_puller at hs
    by_cases h1 : 0 ≤ m ∧ m ≤ 2
    · rw [if_pos h1] at hs
      by_cases h2 : (0 ≤ f ∧ f ≤ 100000000) ∧ (10 ≤ v ∧ v ≤ 1000)
      · obtain ⟨hM, hS, hP, hH, hC, hT, hN⟩ := h
        refine ⟨fun i hi => ?_, ?_, fun i hi => ?_, fun i j hi hj => ?_, fun x hx => ?_, hT, hN⟩
        · simp only [uF_g, Nat.reduceEqDiff, false_and, if_false]
          exact hM i hi
        · unfold GS
          rw [uF_o _ _ _ (by decide), uF_o _ _ _ (by decide)]
          exact hS
        · simp only [uF_g]
          by_cases e : i = m.toNatClampNeg
          · simp only [e, and_self, if_true, Nat.reduceEqDiff, false_and, if_false]
            exact ⟨rg_c (a := 0) (b := 100000000) (by decide) (by decide) h2.1, rg_c (a := 10) (b := 1000) (by decide) (by decide) h2.2⟩
          · simp only [e, and_false, if_false]
            exact hP i hi
        · simp only [uF_g, Nat.reduceEqDiff, false_and, if_false]
          exact hH i j hi hj
        · simp only [uF_g, Nat.reduceEqDiff, false_and, if_false]
          exact hC x hx
      · rw [if_neg h2] at hs
        exact absurd hs (by decide)
    · rw [if_neg h1] at hs
      exact absurd hs (by decide)
  · rw [if_neg hs]
    exact h
theorem st_puller_KR (m f v : Int32) : KR F (st_puller F m f v) := by
  unfold st_puller
  split
  · exact (KR.rf.u (by omega) (by omega)).u (by omega) (by omega)
  · exact KR.rf
theorem st_ream_GI (h : GI F G nh nc mt) (p x b : Int32) : GI (st_ream F nh p x b) G nh nc mt := by
  unfold st_ream
  by_cases hok : ok_hole nh p x = true
  · rw [if_pos hok]
    by_cases hb : 1 ≤ b ∧ b ≤ 50
    · rw [if_pos hb]
      by_cases hc : F 113 (qat p x) = 2 ∨ 1000 < w_wide F (qat p x) + b
      · rw [if_pos hc]; exact h
      · rw [if_neg hc]
        obtain ⟨hM, hS, hP, hH, hC, hT, hN⟩ := h
        obtain ⟨i, j, hi, hj, hj8, rfl, rfl⟩ := ok_hole_n hN.2.1 hok
        obtain ⟨n, w, n1, n2, w1, en, ew, ewd⟩ := wide_ok hH hi hj
        obtain ⟨-, -, ⟨r, -, r2, er⟩⟩ := hH i j hi hj
        obtain ⟨bn, hbn, eb⟩ := n_of (n := 50) (Int32.le_trans (by decide) hb.1) hb.2 (by decide)
        have e0 : qat (nI i) (nI j) = 8 * i + j := by unfold qat; rw [i4_cl (by omega), i4_cl (by omega)]
        rw [e0] at hc ⊢
        rw [ewd, eb, nI_add, er] at hc
        have c1 : ¬ r = 2 := fun q => hc (Or.inl (by rw [q]; rfl))
        have c2 : n + w / 1000 + bn ≤ 1000 := by
          rcases Nat.lt_or_ge 1000 (n + w / 1000 + bn) with q | q
          · exact absurd (Or.inr (nI_lt (a := 1000) q (by omega))) hc
          · exact q
        refine ⟨fun i hi => ?_, ?_, fun i hi => ?_, fun i' j' hi' hj' => ?_, fun y hy => ?_, hT, hN⟩
        · simp only [uF_g, Nat.reduceEqDiff, false_and, if_false]
          exact hM i hi
        · unfold GS
          rw [uF_o _ _ _ (by decide), uF_o _ _ _ (by decide), uF_o _ _ _ (by decide)]
          exact hS
        · simp only [uF_g, Nat.reduceEqDiff, false_and, if_false]
          exact hP i hi
        · simp only [uF_g]
          by_cases e : 8 * i' + j' = 8 * i + j
          · simp only [e, and_self, if_true, Nat.reduceEqDiff, false_and, if_false]
            refine ⟨⟨n + w / 1000 + bn, by omega, c2, by rw [ewd, eb, nI_add]⟩, ⟨0, Nat.le_refl _, by omega, rfl⟩, ⟨r + 1, by omega, by omega, by rw [er]; exact nI_1 _⟩⟩
          · simp only [e, and_false, if_false]
            exact hH i' j' hi' hj'
        · simp only [uF_g, Nat.reduceEqDiff, false_and, if_false]
          exact hC y hy
    · rw [if_neg hb]; exact h
  · rw [if_neg hok]; exact h
theorem st_ream_KR (p x b : Int32) : KR F (st_ream F nh p x b) := by
  unfold st_ream
  split
  · split
    · split
      · exact KR.rf
      · exact ((KR.rf.u (by omega) (by omega)).u (by omega) (by omega)).u (by omega) (by omega)
    · exact KR.rf
  · exact KR.rf
theorem st_draw_KR (c p x u : Int32) : KR F (st_draw F G nc mt nh c p x u) := by
  unfold st_draw
  split
  · split
    · unfold dF
      exact (((((KR.rf.u (by omega) (by omega)).u (by omega) (by omega)).u (by omega) (by omega)).u (by omega) (by omega)).u (by omega) (by omega)).u (by omega) (by omega)
    · exact KR.rf
  · exact KR.rf
theorem st_fire_KR (c : Int32) : KR F (st_fireF F G nc c) := by
  unfold st_fireF
  split
  · split
    · exact KR.rf
    · unfold fF
      exact (((KR.rf.u (by omega) (by omega)).u (by omega) (by omega)).u (by omega) (by omega)).u (by omega) (by omega)
  · exact KR.rf
theorem goN_keep {c p u : Int32} {sq : Nat → Nat} : ∀ (k i : Nat) (F : tF) (G : tG), GI F G nh nc mt → GI (goN nc mt nh c p u sq k i F G).2.1 (goN nc mt nh c p u sq k i F G).2.2 nh nc mt ∧ KR F (goN nc mt nh c p u sq k i F G).2.1
  | 0, i, F, G, h => ⟨h, KR.rf⟩
  | k + 1, i, F, G, h => by
    by_cases h8 : sq i = 8
    · by_cases hz : sp_fire F G nc c < 0
      · rw [goN_f0 h8 hz]
        exact ⟨h.fire c, st_fire_KR c⟩
      · rw [goN_f h8 hz]
        obtain ⟨i1, i2⟩ := goN_keep k (i + 1) _ _ (h.fire c)
        exact ⟨i1, (st_fire_KR c).tr i2⟩
    · by_cases hz : sp_draw F G nc mt nh c p (nI (sq i)) u < 0
      · rw [goN_d0 h8 hz]
        exact ⟨h.draw _ _ _ _, st_draw_KR _ _ _ _⟩
      · rw [goN_d h8 hz]
        obtain ⟨i1, i2⟩ := goN_keep k (i + 1) _ _ (h.draw c p (nI (sq i)) u)
        exact ⟨i1, (st_draw_KR _ _ _ _).tr i2⟩
theorem st_go_keep (h : GI F G nh nc mt) (c p u lo hi : Int32) : GI (st_goF F G nc nh mt c p u lo hi) (st_goG F G nc nh mt c p u lo hi) nh nc mt ∧ KR F (st_goF F G nc nh mt c p u lo hi) := by
  unfold st_goF st_goG
  split
  · exact goN_keep _ _ _ _ h
  · exact ⟨h, KR.rf⟩
theorem st_scrap_GI (h : GI F G nh nc mt) (c : Int32) : GI F (st_scrap G nc c) nh nc mt := by
  unfold st_scrap
  by_cases hok : ok_coil G nc c = true
  · rw [if_pos hok]
    obtain ⟨hM, hS, hP, hH, hC, hT, hN⟩ := h
    obtain ⟨c1, hc, rfl, -⟩ := ok_coil_n hN.1 hok
    have h16 := hN.1
    rw [i4_cl (by omega)]
    have := hC.less (V1 := F) (G1 := uG (uG G 100 32 (G 100 32 + G 118 c1)) 118 c1 0) hT hc (g := 0) (uG_s _ _ _ _) (Nat.zero_le _) hN.1 (fun _ _ _ _ => Or.inl rfl) (fun c' hne => (uG_n _ _ (Or.inr hne)).trans (uG_n _ _ (Or.inl (by decide)))) rfl rfl (fun _ _ => Or.inl rfl)
    exact ⟨hM, hS, hP, hH, this.1, this.2, hN⟩
  · rw [if_neg hok]; exact h
theorem st_join_GI (h : GI F G nh nc mt) (a b : Int32) : GI (st_joinF F G nc a b) (st_joinG F G nc a b) nh nc mt := by
  unfold st_joinF st_joinG
  by_cases hw : j_why F G nc a b = 1
  · rw [if_pos hw, if_pos hw]
    unfold j_why at hw
    obtain ⟨hM, hS, hP, hH, hC, hT, hN⟩ := h
    have h16 := hN.1
    by_cases hok : ok_coil G nc a = true ∧ ok_coil G nc b = true
    · rw [if_pos hok] at hw
      obtain ⟨c1, hc1, rfl, hp1⟩ := ok_coil_n hN.1 hok.1
      obtain ⟨c2, hc2, rfl, hp2⟩ := ok_coil_n hN.1 hok.2
      by_cases hne : nI c1 = nI c2
      · rw [if_pos hne] at hw; exact absurd hw (by decide)
      · rw [if_neg hne, i4_cl (by omega), i4_cl (by omega)] at hw
        have hcc : c1 ≠ c2 := fun e => hne (by rw [e])
        by_cases hal : F 115 c1 = F 115 c2 ∧ F 116 c1 = F 116 c2 ∧ F 106 4 + 1 ≤ w_feet F G c2
        · rw [i4_cl (by omega), i4_cl (by omega)]
          obtain ⟨s1, x1, ⟨a1, a2, ea⟩, ⟨a3, ex1⟩, ⟨eg1, hg1⟩, hb1⟩ := hC c1 hc1
          obtain ⟨s2, x2, ⟨d1, d2, ed⟩, ⟨d3, ex2⟩, ⟨eg2, hg2⟩, hb2⟩ := hC c2 hc2
          have hse : s1 = s2 := (nI_eq (by omega) (by omega)).mp (ea.symm.trans (hal.2.1.trans ed))
          subst hse
          have hbb1 := hT.b h16 hc1
          have hbb2 := hT.b h16 hc2
          obtain ⟨lo, -, l2, el⟩ := hS.2.2.2.2.1
          have hsq : s1 * s1 ≤ 1000 * 1000 := sq_le a2
          have hsp := sq_pos (show 0 < s1 by omega)
          have hfb := feet_b (g := tn (G 118 c2)) d1 hbb2
          have hf := hal.2.2
          rw [w_feet_e, eg2, ed, ft_ok (by omega) (by omega) (by omega), el, nI_1] at hf
          have hf2 : lo + 1 ≤ tn (G 118 c2) / (s1 * s1) := (nI_leI (by omega) (by omega)).mp hf
          have hf3 : (lo + 1) * (s1 * s1) ≤ tn (G 118 c2) := (Nat.le_div_iff_mul_le hsp).mp hf2
          have hf4 : s1 * s1 * lo ≤ tn (G 118 c2) := by
            rw [Nat.mul_comm]
            rw [Nat.add_mul, Nat.one_mul] at hf3
            omega
          have eo : j_off F c2 = lN (s1 * s1 * lo) := by
            unfold j_off
            rw [ed, el, nI_l (by omega), nI_l (by omega), lN_mul, lN_mul]
          have hp1n : tn (G 118 c1) ≠ 0 := by
            intro q
            rw [eg1, q] at hp1
            exact absurd hp1 (by decide)
          have hg1s : s1 * s1 ≤ tn (G 118 c1) := hg1.resolve_left hp1n
          have hsum2 := sumN_two (f := fun c => tn (G 118 c)) hcc nc hc1 hc2
          have hT' : sumN (fun c => tn (G 118 c)) nc ≤ 1000000000 * nc := hT
          have e1 : jG F G c1 c2 118 c1 = lN (tn (G 118 c1) + (tn (G 118 c2) - s1 * s1 * lo)) := by
            have : jG F G c1 c2 118 c1 = G 118 c1 + (G 118 c2 - j_off F c2) := by simp [jG, uG_g, hcc]
            rw [this, eo, eg1, eg2, tn_l (by omega), tn_l (by omega), lN_sub hf4, lN_add]
          have e2 : jG F G c1 c2 118 c2 = 0 := by simp [jG, uG_g]
          have e3 : ∀ x, x ≠ c1 → x ≠ c2 → jG F G c1 c2 118 x = G 118 x := fun x q1 q2 => by simp [jG, uG_g, q1, q2]
          have t1 : tn (jG F G c1 c2 118 c1) = tn (G 118 c1) + (tn (G 118 c2) - s1 * s1 * lo) := by rw [e1, tn_l (by omega)]
          have t2 : tn (jG F G c1 c2 118 c2) = 0 := by rw [e2]; rfl
          refine ⟨fun i hi => ?_, ?_, fun i hi => ?_, fun i j hi hj => ?_, fun x hx => ?_, ?_, hN⟩
          · simp only [jF, uF_g, Nat.reduceEqDiff, false_and, if_false]
            exact hM i hi
          · unfold GS jF
            rw [uF_o _ _ _ (by decide), uF_o _ _ _ (by decide), uF_o _ _ _ (by decide), uF_o _ _ _ (by decide)]
            exact hS
          · simp only [jF, uF_g, Nat.reduceEqDiff, false_and, if_false]
            exact hP i hi
          · simp only [jF, uF_g, Nat.reduceEqDiff, false_and, if_false]
            exact hH i j hi hj
          · have f116 : jF F c1 c2 116 x = F 116 x := by simp [jF, uF_g]
            by_cases q1 : x = c1
            · subst q1
              have f117 : jF F x c2 117 x = if F 117 x < F 117 c2 then F 117 c2 else F 117 x := by simp [jF, uF_g]
              have f121 : jF F x c2 121 x = if F 121 x = 0 ∧ F 121 c2 = 0 then 0 else 1 := by simp [jF, uF_g]
              rw [f116, f117, f121]
              refine ⟨s1, if F 117 x < F 117 c2 then x2 else x1, ⟨a1, a2, ea⟩, ⟨by split <;> omega, by split; exact ex2; exact ex1⟩, ⟨by rw [t1]; exact e1, Or.inr (by rw [t1]; omega)⟩, ?_⟩
              split
              · exact Or.inl rfl
              · exact Or.inr rfl
            · have f117 : jF F c1 c2 117 x = F 117 x := by simp [jF, uF_g, q1]
              have f121 : jF F c1 c2 121 x = F 121 x := by simp [jF, uF_g, q1]
              rw [f116, f117, f121]
              by_cases q2 : x = c2
              · subst q2
                exact ⟨s1, x2, ⟨d1, d2, ed⟩, ⟨d3, ex2⟩, ⟨by rw [t2]; exact e2, Or.inl t2⟩, hb2⟩
              · rw [e3 x q1 q2]
                exact hC x hx
          · have u1 := sumN_set (f := fun c => tn (G 118 c)) (g := fun c => if c = c2 then 0 else tn (G 118 c)) (c := c2) (fun j hj => if_neg hj) nc hc2
            have u2 := sumN_set (f := fun c => if c = c2 then 0 else tn (G 118 c)) (g := fun c => tn (jG F G c1 c2 118 c)) (c := c1) (fun j hj => by
              by_cases q : j = c2
              · rw [if_pos q, q]; exact t2
              · rw [if_neg q, e3 j hj q]) nc hc1
            simp only [if_true, if_neg hcc] at u1 u2
            rw [t1] at u2
            unfold GT
            omega
        · rw [if_neg hal] at hw; exact absurd hw (by decide)
    · rw [if_neg hok] at hw; exact absurd hw (by decide)
  · rw [if_neg hw, if_neg hw]; exact h
theorem st_join_KR (a b : Int32) : KR F (st_joinF F G nc a b) := by
  unfold st_joinF
  split
  · unfold jF
    exact (((KR.rf.u (by omega) (by omega)).u (by omega) (by omega)).u (by omega) (by omega)).u (by omega) (by omega)
  · exact KR.rf
end KEEP
