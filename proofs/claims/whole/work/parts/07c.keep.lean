/-! draws and fires keep the numbers -/
theorem uF_g (F : tF) (k j : Nat) (v : Int32) (k' j' : Nat) : uF F k j v k' j' = if k' = k ∧ j' = j then v else F k' j' := by
  by_cases h : k' = k ∧ j' = j
  · rw [if_pos h, h.1, h.2, uF_s]
  · rw [if_neg h, uF_n _ _ (by omega)]
theorem uG_g (F : tG) (k j : Nat) (v : Int64) (k' j' : Nat) : uG F k j v k' j' = if k' = k ∧ j' = j then v else F k' j' := by
  by_cases h : k' = k ∧ j' = j
  · rw [if_pos h, h.1, h.2, uG_s]
  · rw [if_neg h, uG_n _ _ (by omega)]
theorem w_ag_1 {F : tF} {m : Nat} {j s x : Int32} {q p : Nat} (h : w_ag F m j s x q p = 1) : (¬ F 111 q + 50 < w_wide F q) ∧ w_wide F q < s ∧ ¬ F 103 m < w_hard F m s x (w_wide F q) := by
  refine ⟨fun h9 => ?_, w_ag_w h, fun h9 => ?_⟩
  · rw [w_ag, if_pos (Or.inl h9)] at h
    exact absurd h (by decide)
  · unfold w_ag at h
    rw [if_pos h9] at h
    split at h
    · exact absurd h (by decide)
    · exact absurd h (by decide)
theorem dF_o {V : tF} {G : tG} {m c q p k : Nat} (h1 : k ≠ 117) (h2 : k ≠ 116) (h3 : k ≠ 112) (h4 : k ≠ 109) (h5 : k ≠ 120) (h6 : k ≠ 100) : dF V G m c q p k = V k := by
  unfold dF
  rw [uF_o _ _ _ h6, uF_o _ _ _ h5, uF_o _ _ _ h4, uF_o _ _ _ h3, uF_o _ _ _ h2, uF_o _ _ _ h1]
theorem dF_112 (V : tF) (G : tG) (m c q p q' : Nat) : dF V G m c q p 112 q' = if q' = q then d_wear V G m c q else V 112 q' := by
  simp [dF, uF_g]
theorem dF_116 (V : tF) (G : tG) (m c q p c' : Nat) : dF V G m c q p 116 c' = if c' = c then w_wide V q else V 116 c' := by
  simp [dF, uF_g]
theorem dF_117 (V : tF) (G : tG) (m c q p c' : Nat) : dF V G m c q p 117 c' = if c' = c then w_hard V m (V 116 c) (V 117 c) (w_wide V q) else V 117 c' := by
  simp [dF, uF_g]
theorem GI.kD {V : tF} {G : tG} {nh : Nat → Nat} {nc : Nat} {mt : Nat → Nat} (h : GI V G nh nc mt) {c i j u : Nat} (hc : c < nc) (hi : i < 4) (hj : j < nh i) (ha : w_ag V (mt c) (V 119 c) (V 116 c) (V 117 c) (8 * i + j) u = 1) : GI (dF V G (mt c) c (8 * i + j) u) G nh nc mt := by
  obtain ⟨f, hf, ef⟩ := dft_ok h hc hi hj
  obtain ⟨hM, hS, hP, hH, hC, hT, hN⟩ := h
  obtain ⟨s, x, ⟨s1, s2, es⟩, ⟨x1, ex⟩, ⟨eg, hg⟩, hbad⟩ := hC c hc
  obtain ⟨n, w, n1, n2, w1, en, ew, ewd⟩ := wide_ok hH hi hj
  obtain ⟨a1, a2, a3⟩ := w_ag_1 ha
  obtain ⟨-, ⟨gn, -, g2, egn⟩, ⟨L, l1, l2, eL⟩, ⟨ab, -, b2, eab⟩, -⟩ := hM (mt c) (hN.2.2 c hc)
  rw [ewd, en, show (50 : Int32) = nI 50 from rfl, nI_add] at a1
  have hw50 : w ≤ 50999 := by
    rcases Nat.lt_or_ge (n + 50) (n + w / 1000) with q | q
    · exact absurd (nI_lt q (by omega)) a1
    · omega
  rw [ewd, es] at a2
  have hlt : n + w / 1000 < s := (nI_ltI (by omega) (by omega)).mp a2
  obtain ⟨eh, hh⟩ := hd_ok (V := V) (m := mt c) (h := x) egn g2 (show s ≤ 3000000 by omega) hlt
  rw [ewd, es, ex, eh, eL] at a3
  have hh100 : hdN gn s x (n + w / 1000) ≤ 100 := by
    rcases Nat.lt_or_ge L (hdN gn s x (n + w / 1000)) with q | q
    · exact absurd (nI_lt q (by omega)) a3
    · omega
  refine ⟨fun k hk => ?_, ?_, fun k hk => ?_, fun i' j' hi' hj' => ?_, fun c' hc' => ?_, hT, hN⟩
  · rw [dF_o (by decide) (by decide) (by decide) (by decide) (by decide) (by decide), dF_o (by decide) (by decide) (by decide) (by decide) (by decide) (by decide), dF_o (by decide) (by decide) (by decide) (by decide) (by decide) (by decide), dF_o (by decide) (by decide) (by decide) (by decide) (by decide) (by decide), dF_o (by decide) (by decide) (by decide) (by decide) (by decide) (by decide)]
    exact hM k hk
  · unfold GS
    rw [dF_o (by decide) (by decide) (by decide) (by decide) (by decide) (by decide)]
    exact hS
  · rw [dF_o (by decide) (by decide) (by decide) (by decide) (by decide) (by decide), dF_o (by decide) (by decide) (by decide) (by decide) (by decide) (by decide)]
    exact hP k hk
  · rw [dF_o (k := 111) (by decide) (by decide) (by decide) (by decide) (by decide) (by decide), dF_o (k := 113) (by decide) (by decide) (by decide) (by decide) (by decide) (by decide), dF_112]
    obtain ⟨r1, r2, r3⟩ := hH i' j' hi' hj'
    refine ⟨r1, ?_, r3⟩
    by_cases e : 8 * i' + j' = 8 * i + j
    · rw [if_pos e]
      have h5 : f * ab * (100 + x) ≤ 40000000 * 50 * 200 := mul3 hf b2 (by omega)
      refine ⟨w + f * ab * (100 + x) / 10000, Nat.zero_le _, by omega, ?_⟩
      unfold d_wear
      rw [ef, ew, eab, ex, nI_l (by omega), nI_l (by omega), lN_mul, show (100 : Int32) = nI 100 from rfl, nI_add, nI_l (by omega), lN_mul, show (10000 : Int64) = lN 10000 from rfl, pk_lDiv (by omega) (by decide) (by decide), lN_i, nI_add]
    · rw [if_neg e]
      exact r2
  · rw [dF_116, dF_117, dF_o (k := 121) (by decide) (by decide) (by decide) (by decide) (by decide) (by decide)]
    by_cases e : c' = c
    · subst e
      rw [if_pos rfl, if_pos rfl, ewd, es, ex, eh]
      refine ⟨n + w / 1000, hdN gn s x (n + w / 1000), ⟨by omega, by omega, rfl⟩, ⟨hh100, rfl⟩, ⟨eg, ?_⟩, hbad⟩
      have := sq_lt hlt
      omega
    · rw [if_neg e, if_neg e]
      exact hC c' hc'
theorem GI.draw {V : tF} {G : tG} {nh : Nat → Nat} {nc : Nat} {mt : Nat → Nat} (h : GI V G nh nc mt) (c p x u : Int32) : GI (st_draw V G nc mt nh c p x u) G nh nc mt := by
  have h16 := h.2.2.2.2.2.2.1
  unfold st_draw
  by_cases hok : ok_draw G nc nh c p x u = true
  · rw [if_pos hok]
    by_cases ha : ag_at V mt c p x u = 1
    · rw [if_pos ha]
      unfold ok_draw at hok
      simp only [Bool.and_eq_true, decide_eq_true_eq] at hok
      obtain ⟨⟨k1, k2⟩, k3⟩ := hok
      obtain ⟨c1, hc, rfl, -⟩ := ok_coil_n h16 k1
      obtain ⟨i, j, hi, hj, hj8, rfl, rfl⟩ := ok_hole_n h.2.2.2.2.2.2.2.1 k2
      unfold ag_at qat at ha
      unfold qat
      rw [i4_cl (by omega), i4_cl (by omega), i4_cl (by omega)] at ha
      rw [i4_cl (by omega), i4_cl (by omega), i4_cl (by omega)]
      exact h.kD hc hi hj ha
    · rw [if_neg ha]
      exact h
  · rw [if_neg hok]
    exact h
theorem fF_o {V : tF} {c k : Nat} (h1 : k ≠ 117) (h4 : k ≠ 109) (h5 : k ≠ 120) (h6 : k ≠ 100) : fF V c k = V k := by
  unfold fF
  rw [uF_o _ _ _ h6, uF_o _ _ _ h5, uF_o _ _ _ h4, uF_o _ _ _ h1]
theorem fF_117 (V : tF) (c c' : Nat) : fF V c 117 c' = if c' = c then 0 else V 117 c' := by
  simp [fF, uF_g]
/-- less stuff in one coil: none, or still some feet -/
theorem GC.less {V V1 : tF} {G G1 : tG} {nc c : Nat} (hC : GC V G nc) (hT : GT G nc) (hc : c < nc) {g : Nat} (hg : G1 118 c = lN g) (hle : g ≤ tn (G 118 c)) (hn : nc ≤ 16) (hs : ∀ s, 20 ≤ s → s ≤ 1000 → V 116 c = nI s → g = 0 ∨ s * s ≤ g) (ho : ∀ c', c' ≠ c → G1 118 c' = G 118 c') (h6 : V1 116 = V 116) (h21 : V1 121 = V 121) (h17 : ∀ c', c' < nc → V1 117 c' = V 117 c' ∨ V1 117 c' = 0) : GC V1 G1 nc ∧ GT G1 nc := by
  have hb := hT.b hn hc
  have hgt : tn (G1 118 c) = g := by rw [hg, tn_l (by omega)]
  refine ⟨fun c' hc' => ?_, ?_⟩
  · obtain ⟨s, x, ⟨s1, s2, es⟩, ⟨x1, ex⟩, ⟨eg, hg0⟩, hbad⟩ := hC c' hc'
    rw [h6, h21]
    have hx : ∃ x', x' ≤ 100 ∧ V1 117 c' = nI x' := by
      rcases h17 c' hc' with q | q
      · exact ⟨x, x1, by rw [q, ex]⟩
      · exact ⟨0, by omega, q⟩
    obtain ⟨x', x1', ex'⟩ := hx
    by_cases e : c' = c
    · subst e
      exact ⟨s, x', ⟨s1, s2, es⟩, ⟨x1', ex'⟩, ⟨by rw [hgt]; exact hg, by rw [hgt]; exact hs s s1 s2 es⟩, hbad⟩
    · rw [ho c' e]
      exact ⟨s, x', ⟨s1, s2, es⟩, ⟨x1', ex'⟩, ⟨eg, hg0⟩, hbad⟩
  · unfold GT at hT ⊢
    have := sumN_set (f := fun c => tn (G 118 c)) (g := fun c => tn (G1 118 c)) (c := c) (fun j hj => by rw [ho j hj]) nc hc
    simp only [hgt] at this
    omega
theorem tG_118 (V : tF) (G : tG) (c c' : Nat) : tG_ V G c 118 c' = if c' = c ∧ w_feet V G c = 0 then 0 else G 118 c' := by
  unfold tG_
  by_cases h : w_feet V G c = 0
  · rw [if_pos h]
    simp [uG_g, h]
  · rw [if_neg h]
    simp [h]
theorem GI.kF {V : tF} {G : tG} {nh : Nat → Nat} {nc : Nat} {mt : Nat → Nat} (h : GI V G nh nc mt) {c : Nat} (hc : c < nc) : GI (fF V c) (tG_ V (fG0 V G (mt c) c) c) nh nc mt := by
  obtain ⟨hM, hS, hP, hH, hC, hT, hN⟩ := h
  have hb := hT.b hN.1 hc
  obtain ⟨s, x, ⟨s1, s2, es⟩, ⟨x1, ex⟩, ⟨eg, hg⟩, hbad⟩ := hC c hc
  obtain ⟨-, -, -, -, ⟨sc, -, b2, esc⟩⟩ := hM (mt c) (hN.2.2 c hc)
  have h5 : tn (G 118 c) * sc ≤ 16000000000 * 50 := Nat.mul_le_mul hb b2
  have h6 : tn (G 118 c) * sc / 1000 ≤ tn (G 118 c) := by
    have : tn (G 118 c) * sc ≤ tn (G 118 c) * 50 := Nat.mul_le_mul_left _ b2
    omega
  have eo : f_off V G (mt c) c = lN (tn (G 118 c) * sc / 1000) := by
    unfold f_off
    rw [eg, tn_l (by omega), esc, nI_l (by omega), lN_mul, show (1000 : Int64) = lN 1000 from rfl, pk_lDiv (by omega) (by decide) (by decide)]
  have e0 : fG0 V G (mt c) c 118 c = lN (tn (G 118 c) - tn (G 118 c) * sc / 1000) := by
    have : fG0 V G (mt c) c 118 c = G 118 c - f_off V G (mt c) c := by simp [fG0, uG_g]
    rw [this, eo, eg, tn_l (by omega), lN_sub h6]
  have eo2 : ∀ c', c' ≠ c → fG0 V G (mt c) c 118 c' = G 118 c' := fun c' hne => by simp [fG0, uG_g, hne]
  have hsq : s * s ≤ 1000 * 1000 := sq_le s2
  have hsp := sq_pos (show 0 < s by omega)
  have ef : w_feet V (fG0 V G (mt c) c) c = nI ((tn (G 118 c) - tn (G 118 c) * sc / 1000) / (s * s)) := by
    rw [w_feet_e, e0, es, ft_ok (by omega) (by omega) (by omega)]
  have hfb := feet_b (g := tn (G 118 c) - tn (G 118 c) * sc / 1000) s1 (by omega)
  have hres : ∃ g, tG_ V (fG0 V G (mt c) c) c 118 c = lN g ∧ g ≤ tn (G 118 c) ∧ (g = 0 ∨ s * s ≤ g) := by
    rw [tG_118, ef]
    by_cases hz : (tn (G 118 c) - tn (G 118 c) * sc / 1000) / (s * s) = 0
    · rw [if_pos ⟨rfl, by rw [hz]; rfl⟩]
      exact ⟨0, rfl, Nat.zero_le _, Or.inl rfl⟩
    · rw [if_neg (fun q => hz ((nI_eq (by omega) (by decide)).mp q.2)), e0]
      refine ⟨_, rfl, by omega, Or.inr ?_⟩
      have h1 : 1 ≤ (tn (G 118 c) - tn (G 118 c) * sc / 1000) / (s * s) := Nat.pos_of_ne_zero hz
      have := (Nat.le_div_iff_mul_le hsp).mp h1
      omega
  obtain ⟨g, hg1, hg2, hg3⟩ := hres
  have hCT := hC.less (V1 := fF V c) (G1 := tG_ V (fG0 V G (mt c) c) c) hT hc hg1 hg2 hN.1 (fun s' a1 a2 a3 => by
    have : s' = s := (nI_eq (by omega) (by omega)).mp (a3.symm.trans es)
    subst this
    exact hg3) (fun c' hne => by rw [tG_118, if_neg (fun q => hne q.1), eo2 c' hne]) (fF_o (by decide) (by decide) (by decide) (by decide)) (fF_o (by decide) (by decide) (by decide) (by decide)) (fun c' _ => by
    rw [fF_117]
    by_cases e : c' = c
    · exact Or.inr (if_pos e)
    · exact Or.inl (if_neg e))
  refine ⟨fun k hk => ?_, ?_, fun k hk => ?_, fun i' j' hi' hj' => ?_, hCT.1, hCT.2, hN⟩
  · rw [fF_o (by decide) (by decide) (by decide) (by decide), fF_o (by decide) (by decide) (by decide) (by decide), fF_o (by decide) (by decide) (by decide) (by decide), fF_o (by decide) (by decide) (by decide) (by decide), fF_o (by decide) (by decide) (by decide) (by decide)]
    exact hM k hk
  · unfold GS
    rw [fF_o (by decide) (by decide) (by decide) (by decide)]
    exact hS
  · rw [fF_o (by decide) (by decide) (by decide) (by decide), fF_o (by decide) (by decide) (by decide) (by decide)]
    exact hP k hk
  · rw [fF_o (by decide) (by decide) (by decide) (by decide), fF_o (by decide) (by decide) (by decide) (by decide), fF_o (by decide) (by decide) (by decide) (by decide)]
    exact hH i' j' hi' hj'
theorem GI.fire {V : tF} {G : tG} {nh : Nat → Nat} {nc : Nat} {mt : Nat → Nat} (h : GI V G nh nc mt) (c : Int32) : GI (st_fireF V G nc c) (st_fireG V G nc mt c) nh nc mt := by
  have h16 := h.2.2.2.2.2.2.1
  unfold st_fireF st_fireG
  by_cases hok : ok_coil G nc c = true
  · rw [if_pos hok, if_pos hok]
    obtain ⟨c1, hc, rfl, -⟩ := ok_coil_n h16 hok
    rw [i4_cl (by omega)]
    by_cases hz : V 117 c1 = 0
    · rw [if_pos hz, if_pos hz]
      exact h
    · rw [if_neg hz, if_neg hz]
      exact h.kF hc
  · rw [if_neg hok, if_neg hok]
    exact h
