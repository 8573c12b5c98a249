/-! THE LAW: a coil more -/
theorem vG_zc (F : tG) {c : Nat} (hc : c < 16) : vG (zG F (53 + c)) = uG (vG F) 118 c 0 := by
  funext z y
  cases hl : locG z y with
  | none =>
    have e : ∀ F : tG, vG F z y = if z < 100 then 0 else F z y := fun F => by simp only [vG, hl]
    rw [uG_n, e, e]
    · by_cases q : z < 100
      · rw [if_pos q, if_pos q]
      · rw [if_neg q, if_neg q, zG_o (by omega)]
    · by_cases q : z = 118
      · refine Or.inr fun q2 => ?_
        rw [q, q2, lc_c3 hc] at hl
        cases hl
      · exact Or.inl q
  | some p =>
    obtain ⟨a, b⟩ := p
    have d := locG_d hl
    rw [vG_at hl]
    by_cases q : a = 53 + c
    · rw [zG_e q, uG_e (by omega) (by omega)]
    · rw [zG_o q, uG_n _ _ (by omega), vG_at hl]
section NEW3
variable {X : List Nat} {F F1 F2 : tF} {G G1 G2 : tG} {P P1 : tP} {nh : Nat → Nat} {nc no nn : Nat} {mt om : Nat → Nat}
theorem nF_o {m s : Int32} {z : Nat} (h : z ≠ 100 ∧ z ≠ 115 ∧ z ≠ 116 ∧ z ≠ 117 ∧ z ≠ 119 ∧ z ≠ 120 ∧ z ≠ 121) : nF F nc m s z = F z := by
  unfold nF
  rw [uF_o _ _ _ (by omega), uF_o _ _ _ (by omega), uF_o _ _ _ (by omega), uF_o _ _ _ (by omega), uF_o _ _ _ (by omega), uF_o _ _ _ (by omega), uF_o _ _ _ (by omega)]
/-- one coil more: what the reference's cells must hold -/
theorem RS.more (h : RS F G nh nc no nn mt om) (h16 : nc < 16) {i : Nat} (hi : i < 4) (hE : ∀ z, z ≠ 100 → z ≠ 115 → z ≠ 116 → z ≠ 117 → z ≠ 119 → z ≠ 120 → z ≠ 121 → F1 z = F z) (h100 : F1 100 13 = nI (nc + 1) ∧ ∀ j, j ≠ 13 → F1 100 j = F 100 j) (h115 : F1 115 nc = nI i ∧ ∀ c, c ≠ nc → F1 115 c = F 115 c) (hC : GC F1 G1 (nc + 1)) (hT : GT G1 (nc + 1)) : RS F1 G1 nh (nc + 1) no nn (upN mt nc i) om := by
  obtain ⟨⟨hM, hS, hP, hH, -, -, hN⟩, a2, ⟨a3, a4, a5, a6⟩, ⟨a7, a8⟩, a9, a10, a11⟩ := h
  have e : ∀ z, z ≠ 100 → (z < 115 ∨ 121 < z) → F1 z = F z := fun z q1 q2 => hE z q1 (by omega) (by omega) (by omega) (by omega) (by omega) (by omega)
  refine ⟨⟨fun k hk => ?_, ?_, fun k hk => ?_, fun i' j' hi' hj' => ?_, hC, hT, by omega, hN.2.1, fun c hc => ?_⟩, fun o ho => ?_, ⟨h100.1, ?_, ?_, fun i' hi' => ?_⟩, ⟨fun c hc => ?_, fun o ho => ?_⟩, fun k hk => ?_, a10, a11⟩
  · rw [e 101 (by decide) (by decide), e 102 (by decide) (by decide), e 103 (by decide) (by decide), e 104 (by decide) (by decide), e 105 (by decide) (by decide)]
    exact hM k hk
  · unfold GS
    rw [e 106 (by decide) (by decide)]
    exact hS
  · rw [e 107 (by decide) (by decide), e 108 (by decide) (by decide)]
    exact hP k hk
  · rw [e 111 (by decide) (by decide), e 112 (by decide) (by decide), e 113 (by decide) (by decide)]
    exact hH i' j' hi' hj'
  · by_cases q : c = nc
    · rw [q, upN_s]; exact hi
    · rw [upN_n q]; exact hN.2.2 c (by omega)
  · rw [e 126 (by decide) (by decide), e 127 (by decide) (by decide)]
    exact a2 o ho
  · rw [h100.2 21 (by decide)]; exact a4
  · rw [h100.2 27 (by decide)]; exact a5
  · rw [e 110 (by decide) (by decide)]; exact a6 i' hi'
  · by_cases q : c = nc
    · rw [q, upN_s]; exact h115.1
    · rw [upN_n q, h115.2 c q]; exact a7 c (by omega)
  · rw [e 123 (by decide) (by decide)]; exact a8 o ho
  · rw [e 129 (by decide) (by decide)]; exact a9 k hk
theorem all_n {s0 f0 : Int32} (h : (20 ≤ s0 ∧ s0 ≤ 1000) ∧ (1 ≤ f0 ∧ f0 ≤ 1000)) : ∃ s f : Nat, 20 ≤ s ∧ s ≤ 1000 ∧ s0 = nI s ∧ 1 ≤ f ∧ f ≤ 1000 ∧ all_coil s0 f0 = lN (s * s * f) := by
  obtain ⟨s, s1, s2, es⟩ := rg_c (a := 20) (b := 1000) (by decide) (by decide) h.1
  obtain ⟨f, f1, f2, ef⟩ := rg_c (a := 1) (b := 1000) (by decide) (by decide) h.2
  refine ⟨s, f, s1, s2, es, f1, f2, ?_⟩
  unfold all_coil
  rw [es, ef, nI_l (by omega), nI_l (by omega), lN_mul, lN_mul]
theorem RS.coil (h : RS F G nh nc no nn mt om) {i : Nat} (hi : i < 4) {s0 f0 b0 : Int32} (hok : ok_new nc (nI i) s0 f0) (hb : b0 = 0 ∨ b0 = 1) : RS (st_coilF F nc (nI i) s0 f0 b0) (st_coilG G nc (nI i) s0 f0) nh (nc + 1) no nn (upN mt nc i) om := by
  unfold st_coilF st_coilG
  rw [if_pos hok, if_pos hok]
  obtain ⟨s, f, s1, s2, es, f1, f2, ea⟩ := all_n hok.2.1
  have h16 : nc < 16 := by
    have := h.1.2.2.2.2.2.2.1
    have := hok.2.2
    omega
  have hss : s * s * f ≤ 1000 * 1000 * 1000 := mul3 s2 s2 f2
  have hs1 : s * s ≤ s * s * f := Nat.le_mul_of_pos_right _ (by omega)
  have e118 : ∀ c, uG (uG G 100 30 (G 100 30 + all_coil s0 f0)) 118 nc (all_coil s0 f0) 118 c = if c = nc then lN (s * s * f) else G 118 c := by
    intro c
    rw [ea]
    by_cases q : c = nc <;> simp [uG_g, q]
  refine h.more h16 hi (fun z q1 q2 q3 q4 q5 q6 q7 => ?_) ⟨?_, fun j hj => ?_⟩ ⟨?_, fun c hc => ?_⟩ (fun c hc => ?_) ?_
  · rw [uF_o _ _ _ q7, nF_o ⟨q1, q2, q3, q4, q5, q6, q7⟩]
  · simp [nF, uF_g]
  · simp [nF, uF_g, hj]
  · simp [nF, uF_g]
  · simp [nF, uF_g, hc]
  · rw [e118]
    by_cases q : c = nc
    · rw [if_pos q]
      refine ⟨s, 0, ⟨s1, s2, ?_⟩, ⟨by omega, ?_⟩, ⟨?_, Or.inr ?_⟩, ?_⟩
      · rw [← es]; simp [nF, uF_g, q]
      · simp [nF, uF_g, q]; rfl
      · rw [tn_l (by omega)]
      · rw [tn_l (by omega)]; exact hs1
      · simp only [uF_g, q, and_self, if_true]; exact hb
    · rw [if_neg q]
      obtain ⟨s', x', r1, r2, r3, r4⟩ := h.1.2.2.2.2.1 c (by omega)
      refine ⟨s', x', ⟨r1.1, r1.2.1, ?_⟩, ⟨r2.1, ?_⟩, r3, ?_⟩
      · rw [← r1.2.2]; simp [nF, uF_g, q]
      · rw [← r2.2]; simp [nF, uF_g, q]
      · have e : uF (nF F nc (nI i) s0) 121 nc b0 121 c = F 121 c := by simp [nF, uF_g, q]
        rw [e]; exact r4
  · have hT' : sumN (fun c => tn (G 118 c)) nc ≤ 1000000000 * nc := h.1.2.2.2.2.2.1
    unfold GT
    have e : sumN (fun c => tn (uG (uG G 100 30 (G 100 30 + all_coil s0 f0)) 118 nc (all_coil s0 f0) 118 c)) nc = sumN (fun c => tn (G 118 c)) nc := sumN_congr nc fun c hc => by rw [e118, if_neg (by omega)]
    simp only [sumN]
    rw [e, e118, if_pos rfl, tn_l (by omega)]
    omega
theorem LI.coil (h : LI X F G P nh nc no nn mt om) {i : Nat} (hi : i < 4) {s0 f0 b0 : Int32} (hok : ok_new nc (nI i) s0 f0) (hb : b0 = 0 ∨ b0 = 1) : LI (X ++ [53 + nc]) (st_coilF (uF (uF (uF (zF F (53 + nc)) (53 + nc) 1 s0) (53 + nc) 6 b0) 0 10 (nI (nc + 1))) nc (nI i) s0 f0 b0) (st_coilG (uG (uG (zG G (53 + nc)) (53 + nc) 3 (all_coil s0 f0)) 0 13 (G 0 13 + all_coil s0 f0)) nc (nI i) s0 f0) (uP (uP (zP P (53 + nc)) (53 + nc) 0 (some (3 + i))) 52 nc (some (53 + nc))) nh (nc + 1) no nn (upN mt nc i) om := by
  have h16 : nc < 16 := by
    have := h.R.nc16
    have := hok.2.2
    omega
  have hk : KW F (uF (uF (uF (zF F (53 + nc)) (53 + nc) 1 s0) (53 + nc) 6 b0) 0 10 (nI (nc + 1))) := (((KW.rf0.z (by omega)).w (by omega)).w (by omega)).w (by omega)
  have hkg : ∀ z, 100 ≤ z → uG (uG (zG G (53 + nc)) (53 + nc) 3 (all_coil s0 f0)) 0 13 (G 0 13 + all_coil s0 f0) z = G z := fun z hz => (uG_o _ _ _ (by omega)).trans ((uG_o _ _ _ (by omega)).trans (zG_o (by omega)))
  refine ⟨h.R.coil hi h16, h.M.new ((uP_o _ _ _ (by omega)).trans ((uP_o _ _ _ (by omega)).trans (zP_n P (by omega)))), h.X_.coil hi h16 h.S.1.2.2.2.2.2.2.2.1, ⟨?_, ?_⟩, (h.S.k hk.1 hkg).coil hi hok hb, h.C.mv hk ?_⟩
  · unfold st_coilF
    rw [if_pos hok]
    unfold nF
    have l115 : locF 115 nc = none := by simp [locF]
    rw [vF_us (lc_c6 h16) (by decide), vF_us lc_x13 (by decide), vF_us (lc_c6 h16) (by decide), vF_us (lc_c5 h16) (by decide), vF_us (lc_c4 h16) (by decide), vF_us (lc_c2 h16) (by decide), vF_us (lc_c1 h16) (by decide), vF_un l115 (by decide), vF_up lc_x13, vF_up (lc_c6 h16), vF_up (lc_c1 h16), vF_zc F h16, rF_u _ (by decide), rF_u _ (by decide), rF_u _ (by decide), rF_u _ (by decide), rF_u _ (by decide), rF_u _ (by decide), rF_u _ (by decide), rF_u _ (by decide), rF_eq hk.1, h.v]
    funext z y
    simp only [uF_g]
    by_cases q1 : z = 116
    · subst q1; by_cases q2 : y = nc <;> simp [q2]
    · by_cases q2 : z = 117
      · subst q2; by_cases q2 : y = nc <;> simp [q2]
      · by_cases q3 : z = 119
        · subst q3; by_cases q2 : y = nc <;> simp [q2]
        · by_cases q4 : z = 120
          · subst q4; by_cases q2 : y = nc <;> simp [q2]
          · by_cases q5 : z = 121
            · subst q5; by_cases q2 : y = nc <;> simp [q2]
            · by_cases q6 : z = 115
              · subst q6; by_cases q2 : y = nc <;> simp [q2]
              · simp [q1, q2, q3, q4, q5, q6]
  · unfold st_coilG
    rw [if_pos hok, vG_us (lc_c3 h16) (by decide), vG_us lc_g30 (by decide), vG_up lc_g30, vG_up (lc_c3 h16), vG_zc G h16, rG_u _ (by decide), rG_u _ (by decide), rG_eq hkg, h.vg, hkg 100 (by decide), vrG_x h.vg lc_g30]
    funext z y
    simp only [uG_g]
    by_cases q1 : z = 118
    · subst q1; by_cases q2 : y = nc <;> simp [q2]
    · simp [q1]
  · unfold st_coilF
    rw [if_pos hok]
    exact (((((((LO.rf.u (by omega)).u (by omega)).u (by omega)).u (by omega)).u (by omega)).u (by omega)).u (by omega)).u (by omega)
end NEW3
