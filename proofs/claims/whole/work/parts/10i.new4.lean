/-! THE LAW: a part, a note more -/
section NEW4
variable {X : List Nat} {F F1 F2 : tF} {G G1 G2 : tG} {P P1 : tP} {nh : Nat → Nat} {nc no nn : Nat} {mt om : Nat → Nat}
theorem part_n (h : GI F G nh nc mt) {c1 : Nat} (hc : c1 < nc) {f0 : Int32} (hf : 1 ≤ f0 ∧ f0 ≤ w_feet F G c1 - 1) : ∃ s x f : Nat, (20 ≤ s ∧ s ≤ 1000 ∧ F 116 c1 = nI s) ∧ (x ≤ 100 ∧ F 117 c1 = nI x) ∧ G 118 c1 = lN (tn (G 118 c1)) ∧ tn (G 118 c1) ≤ 16000000000 ∧ stay F c1 f0 = lN (s * s * f) ∧ s * s ≤ s * s * f ∧ s * s * f + s * s ≤ tn (G 118 c1) ∧ (F 121 c1 = 0 ∨ F 121 c1 = 1) := by
  obtain ⟨hM, hS, hP, hH, hC, hT, hN⟩ := h
  obtain ⟨s, x, ⟨s1, s2, es⟩, ⟨x1, ex⟩, ⟨eg, hg⟩, hb⟩ := hC c1 hc
  have hb16 := hT.b hN.1 hc
  have hfb := feet_b (g := tn (G 118 c1)) s1 hb16
  have hsp := sq_pos (show 0 < s by omega)
  have ew : w_feet F G c1 = nI (tn (G 118 c1) / (s * s)) := by
    rw [w_feet_e, eg, es, ft_ok (by omega) (by omega) (by omega), tn_l (by omega)]
  rw [ew] at hf
  have hfe : 1 ≤ tn (G 118 c1) / (s * s) := by
    rcases Nat.eq_zero_or_pos (tn (G 118 c1) / (s * s)) with q | q
    · rw [q] at hf
      have := Int32.le_trans hf.1 hf.2
      exact absurd this (by decide)
    · exact q
  rw [show (1 : Int32) = nI 1 from rfl, pk_sub hfe] at hf
  obtain ⟨f, f1, f2, ef⟩ := rg_c (a := 1) (by decide) (by omega) hf
  have h1 : (f + 1) * (s * s) ≤ tn (G 118 c1) := (Nat.le_div_iff_mul_le hsp).mp (by omega)
  have h2 : (f + 1) * (s * s) = s * s * f + s * s := by rw [Nat.add_mul, Nat.one_mul, Nat.mul_comm]
  refine ⟨s, x, f, ⟨s1, s2, es⟩, ⟨x1, ex⟩, eg, hb16, ?_, Nat.le_mul_of_pos_right _ (by omega), by omega, hb⟩
  unfold stay
  rw [es, ef, nI_l (by omega), nI_l (by omega), lN_mul, lN_mul]
theorem pF_a {c z j : Nat} (hc : c < nc) : pF F nc c z j = if z = 100 ∧ j = 13 then nI (nc + 1) else if (z = 115 ∨ z = 116 ∨ z = 117 ∨ z = 119 ∨ z = 120 ∨ z = 121) ∧ j = nc then F z c else F z j := by
  unfold pF nF
  simp only [uF_g]
  by_cases q : z = 121
  · subst q; by_cases q2 : j = nc <;> simp [q2]
  by_cases q : z = 120
  · subst q; by_cases q2 : j = nc <;> simp [q2]
  by_cases q : z = 119
  · subst q; by_cases q2 : j = nc <;> simp [q2]
  by_cases q : z = 117
  · subst q; by_cases q2 : j = nc <;> simp [q2]
  by_cases q : z = 116
  · subst q; by_cases q2 : j = nc <;> simp [q2]
  by_cases q : z = 115
  · subst q; by_cases q2 : j = nc <;> simp [q2]
  simp [*]
theorem RS.part (h : RS F G nh nc no nn mt om) {c1 : Nat} (hc : c1 < nc) {f0 : Int32} (hok : ok_part F G nc (nI c1) f0) : RS (st_partF F G nc (nI c1) f0) (st_partG F G nc (nI c1) f0) nh (nc + 1) no nn (upN mt nc (mt c1)) om := by
  unfold st_partF st_partG
  have h16 : nc < 16 := by
    have := h.1.2.2.2.2.2.2.1
    have := hok.2.2
    omega
  rw [if_pos hok, if_pos hok]
  have hf := hok.2.1
  rw [i4_cl (by omega)] at hf ⊢
  obtain ⟨s, x, f, es, ex, eg, hb16, ey, hs1, hs2, hb⟩ := part_n h.1 hc hf
  have hne : nc ≠ c1 := by omega
  have e118 : ∀ c, pG F G nc c1 f0 118 c = if c = c1 then lN (s * s * f) else if c = nc then lN (tn (G 118 c1) - s * s * f) else G 118 c := by
    intro c
    unfold pG
    rw [ey]
    by_cases q : c = c1
    · simp [uG_g, q]
    · by_cases q2 : c = nc
      · subst q2
        simp only [uG_g, q, and_false, if_false, and_self, if_true]
        rw [eg, lN_sub (by omega), tn_l (by omega)]
      · simp [uG_g, q, q2]
  refine h.more h16 (h.1.2.2.2.2.2.2.2.2 c1 hc) (fun z q1 q2 q3 q4 q5 q6 q7 => ?_) ⟨?_, fun j hj => ?_⟩ ⟨?_, fun c hc' => ?_⟩ (fun c hc' => ?_) ?_
  · funext j
    rw [pF_a hc, if_neg (by omega), if_neg (by omega)]
  · rw [pF_a hc, if_pos ⟨rfl, rfl⟩]
  · rw [pF_a hc, if_neg (by omega), if_neg (by omega)]
  · rw [pF_a hc, if_neg (by omega), if_pos (by omega)]
    exact h.2.2.2.1.1 c1 hc
  · rw [pF_a hc, if_neg (by omega), if_neg (by omega)]
  · have e : ∀ z, z = 116 ∨ z = 117 ∨ z = 121 → pF F nc c1 z c = if c = nc then F z c1 else F z c := by
      intro z hz
      rw [pF_a hc, if_neg (by omega)]
      by_cases q : c = nc
      · rw [if_pos (by omega), if_pos q]
      · rw [if_neg (by omega), if_neg q]
    rw [e118, e 116 (by omega), e 117 (by omega), e 121 (by omega)]
    by_cases q : c = nc
    · simp only [q, if_true, if_neg hne]
      refine ⟨s, x, es, ex, ⟨?_, Or.inr ?_⟩, hb⟩
      · rw [tn_l (by omega)]
      · rw [tn_l (by omega)]; omega
    · simp only [if_neg q]
      by_cases q2 : c = c1
      · subst q2
        rw [if_pos rfl]
        refine ⟨s, x, es, ex, ⟨?_, Or.inr ?_⟩, hb⟩
        · rw [tn_l (by omega)]
        · rw [tn_l (by omega)]; omega
      · rw [if_neg q2]
        exact h.1.2.2.2.2.1 c (by omega)
  · have hT' : sumN (fun c => tn (G 118 c)) nc ≤ 1000000000 * nc := h.1.2.2.2.2.2.1
    unfold GT
    have e := sumN_set (f := fun c => tn (G 118 c)) (g := fun c => if c = c1 then s * s * f else tn (G 118 c)) (c := c1) (fun j hj => if_neg hj) nc hc
    have e2 : sumN (fun c => tn (pG F G nc c1 f0 118 c)) nc = sumN (fun c => if c = c1 then s * s * f else tn (G 118 c)) nc := sumN_congr nc fun c hc' => by
      rw [e118]
      by_cases q : c = c1
      · rw [if_pos q, if_pos q, tn_l (by omega)]
      · rw [if_neg q, if_neg q, if_neg (by omega)]
    simp only [sumN]
    rw [e2, e118, if_neg hne, if_pos rfl, tn_l (by omega)]
    simp only [if_true] at e
    omega
theorem pF_lo {c : Nat} : LO F (pF F nc c) := by
  unfold pF nF
  exact ((((((((((LO.rf.u (by omega)).u (by omega)).u (by omega)).u (by omega)).u (by omega)).u (by omega)).u (by omega)).u (by omega)).u (by omega)).u (by omega)).u (by omega)
theorem LI.part (h : LI X F G P nh nc no nn mt om) {c1 : Nat} (hc : c1 < nc) {f0 : Int32} (hok : ok_part (vF F) (vG G) nc (nI c1) f0) : LI (X ++ [53 + nc]) (st_partF (uF (uF (uF (uF (uF (uF (zF F (53 + nc)) (53 + nc) 1 (F (53 + c1) 1)) (53 + nc) 6 (F (53 + c1) 6)) (53 + nc) 2 (F (53 + c1) 2)) (53 + nc) 4 (F (53 + c1) 4)) (53 + nc) 5 (F (53 + c1) 5)) 0 10 (nI (nc + 1))) (uG (uG (zG G (53 + nc)) (53 + nc) 3 (G (53 + c1) 3 - stay (vF F) c1 f0)) (53 + c1) 3 (stay (vF F) c1 f0)) nc (nI c1) f0) (st_partG (uF (uF (uF (uF (uF (uF (zF F (53 + nc)) (53 + nc) 1 (F (53 + c1) 1)) (53 + nc) 6 (F (53 + c1) 6)) (53 + nc) 2 (F (53 + c1) 2)) (53 + nc) 4 (F (53 + c1) 4)) (53 + nc) 5 (F (53 + c1) 5)) 0 10 (nI (nc + 1))) (uG (uG (zG G (53 + nc)) (53 + nc) 3 (G (53 + c1) 3 - stay (vF F) c1 f0)) (53 + c1) 3 (stay (vF F) c1 f0)) nc (nI c1) f0) (uP (uP (zP P (53 + nc)) (53 + nc) 0 (some (3 + mt c1))) 52 nc (some (53 + nc))) nh (nc + 1) no nn (upN mt nc (mt c1)) om := by
  have h16 : nc < 16 := by
    have := h.R.nc16
    have := hok.2.2
    omega
  have hcc : c1 < 16 := by omega
  have hne : ¬ c1 = nc := by omega
  rw [h.v, h.vg] at hok
  have hok1 : ok_part F G nc (nI c1) f0 := hok
  have est : stay (vF F) c1 f0 = stay F c1 f0 := by rw [h.v]; rfl
  rw [est]
  have hk : KW F (uF (uF (uF (uF (uF (uF (zF F (53 + nc)) (53 + nc) 1 (F (53 + c1) 1)) (53 + nc) 6 (F (53 + c1) 6)) (53 + nc) 2 (F (53 + c1) 2)) (53 + nc) 4 (F (53 + c1) 4)) (53 + nc) 5 (F (53 + c1) 5)) 0 10 (nI (nc + 1))) := ((((((KW.rf0.z (by omega)).w (by omega)).w (by omega)).w (by omega)).w (by omega)).w (by omega)).w (by omega)
  have hkg : ∀ z, 100 ≤ z → uG (uG (zG G (53 + nc)) (53 + nc) 3 (G (53 + c1) 3 - stay F c1 f0)) (53 + c1) 3 (stay F c1 f0) z = G z := fun z hz => (uG_o _ _ _ (by omega)).trans ((uG_o _ _ _ (by omega)).trans (zG_o (by omega)))
  have hv1 : vF (uF (uF (uF (uF (uF (uF (zF F (53 + nc)) (53 + nc) 1 (F (53 + c1) 1)) (53 + nc) 6 (F (53 + c1) 6)) (53 + nc) 2 (F (53 + c1) 2)) (53 + nc) 4 (F (53 + c1) 4)) (53 + nc) 5 (F (53 + c1) 5)) 0 10 (nI (nc + 1))) = uF (uF (uF (uF (uF (uF (uF (uF (uF (uF (uF (rF F) 116 nc 0) 117 nc 0) 119 nc 0) 120 nc 0) 121 nc 0) 116 nc (F 116 c1)) 121 nc (F 121 c1)) 117 nc (F 117 c1)) 119 nc (F 119 c1)) 120 nc (F 120 c1)) 100 13 (nI (nc + 1)) := by
    rw [vF_up lc_x13, vF_up (lc_c5 h16), vF_up (lc_c4 h16), vF_up (lc_c2 h16), vF_up (lc_c6 h16), vF_up (lc_c1 h16), vF_zc F h16, h.v, vr_x h.v (lc_c1 hcc), vr_x h.v (lc_c2 hcc), vr_x h.v (lc_c4 hcc), vr_x h.v (lc_c5 hcc), vr_x h.v (lc_c6 hcc)]
  have hvg1 : vG (uG (uG (zG G (53 + nc)) (53 + nc) 3 (G (53 + c1) 3 - stay F c1 f0)) (53 + c1) 3 (stay F c1 f0)) = uG (uG (uG (rG G) 118 nc 0) 118 nc (G 118 c1 - stay F c1 f0)) 118 c1 (stay F c1 f0) := by
    rw [vG_up (lc_c3 hcc), vG_up (lc_c3 h16), vG_zc G h16, h.vg, vrG_x h.vg (lc_c3 hcc)]
  generalize hF1 : uF (uF (uF (uF (uF (uF (zF F (53 + nc)) (53 + nc) 1 (F (53 + c1) 1)) (53 + nc) 6 (F (53 + c1) 6)) (53 + nc) 2 (F (53 + c1) 2)) (53 + nc) 4 (F (53 + c1) 4)) (53 + nc) 5 (F (53 + c1) 5)) 0 10 (nI (nc + 1)) = F1 at *
  generalize hG1 : uG (uG (zG G (53 + nc)) (53 + nc) 3 (G (53 + c1) 3 - stay F c1 f0)) (53 + c1) 3 (stay F c1 f0) = G1 at *
  have e116 := hk.1 116 (by decide)
  have e118 := hkg 118 (by decide)
  have hok2 : ok_part F1 G1 nc (nI c1) f0 := by
    unfold ok_part ok_coil w_feet at hok1 ⊢
    rw [e116, e118]
    exact hok1
  have est1 : stay F1 c1 f0 = stay F c1 f0 := by unfold stay; rw [e116]
  refine ⟨h.R.coil (h.S.1.2.2.2.2.2.2.2.2 c1 hc) h16, h.M.new ((uP_o _ _ _ (by omega)).trans ((uP_o _ _ _ (by omega)).trans (zP_n P (by omega)))), h.X_.coil (h.S.1.2.2.2.2.2.2.2.2 c1 hc) h16 h.S.1.2.2.2.2.2.2.2.1, ⟨?_, ?_⟩, (h.S.k hk.1 hkg).part hc hok2, h.C.mv hk ?_⟩
  · unfold st_partF
    rw [if_pos hok2, i4_cl (by omega)]
    unfold pF nF
    have l115 : locF 115 nc = none := by simp [locF]
    rw [vF_us (lc_c6 h16) (by decide), vF_us (lc_c5 h16) (by decide), vF_us (lc_c4 h16) (by decide), vF_us (lc_c2 h16) (by decide), vF_us lc_x13 (by decide), vF_us (lc_c6 h16) (by decide), vF_us (lc_c5 h16) (by decide), vF_us (lc_c4 h16) (by decide), vF_us (lc_c2 h16) (by decide), vF_us (lc_c1 h16) (by decide), vF_un l115 (by decide), hv1, rF_u _ (by decide), rF_u _ (by decide), rF_u _ (by decide), rF_u _ (by decide), rF_u _ (by decide), rF_u _ (by decide), rF_u _ (by decide), rF_u _ (by decide), rF_u _ (by decide), rF_u _ (by decide), rF_u _ (by decide), rF_eq hk.1, hk.1 115 (by decide), e116, hk.1 117 (by decide), hk.1 119 (by decide), hk.1 120 (by decide), hk.1 121 (by decide)]
    funext z y
    simp only [uF_g]
    by_cases q1 : z = 116
    · subst q1; by_cases q2 : y = nc <;> simp [q2]
    · by_cases q2 : z = 117
      · subst q2; by_cases q2 : y = nc <;> simp [q2]
      · by_cases q3 : z = 119
        · subst q3; by_cases q2 : y = nc <;> simp [q2]
        · by_cases q4 : z = 120
          · subst q4; by_cases q2 : y = nc <;> simp [q2]
          · by_cases q5 : z = 121
            · subst q5; by_cases q2 : y = nc <;> simp [q2]
            · by_cases q6 : z = 115
              · subst q6; by_cases q2 : y = nc <;> simp [q2]
              · simp [q1, q2, q3, q4, q5, q6]
  · unfold st_partG
    rw [if_pos hok2, i4_cl (by omega)]
    unfold pG
    rw [vG_us (lc_c3 hcc) (by decide), vG_us (lc_c3 h16) (by decide), hvg1, rG_u _ (by decide), rG_u _ (by decide), rG_eq hkg, e118, est1]
    funext z y
    simp only [uG_g]
    by_cases q1 : z = 118
    · subst q1; by_cases q2 : y = nc <;> simp [q2]
    · simp [q1]
  · unfold st_partF
    rw [if_pos hok2]
    exact pF_lo
theorem st_note_at {b : Nat} {k0 : Int32} (h : nn < 60) (hb : b < 8) : st_note F nn (nI b) k0 = uF (uF (uF F 129 nn (nI b)) 130 nn k0) 100 27 (nI (nn + 1)) := by
  unfold st_note
  rw [if_pos ⟨⟨nI_pos' (by omega), (nI_leI (b := 7) (by omega) (by omega)).mpr (by omega)⟩, by omega⟩]
theorem LI.note (h : LI X F G P nh nc no nn mt om) {b0 : Nat} (hb : b0 < 8) (h60 : nn < 60) {k0 : Int32} : LI X (st_note (uF (if k0 = 0 then uF F 78 b0 (nI (cN F b0 true nn + 1)) else uF F 77 b0 (nI (cN F b0 false nn + 1))) 76 2 (nI (nn + 1))) nn (nI b0) k0) G P nh nc no (nn + 1) mt om := by
  rw [st_note_at h60 hb]
  have key : ∀ F1 : tF, (∀ z, z ≠ 76 → z ≠ 77 → z ≠ 78 → F1 z = F z) → F1 76 2 = nI (nn + 1) → vF F1 = uF (rF F) 100 27 (nI (nn + 1)) → F1 77 = (if k0 = 0 then F 77 else uF F 77 b0 (nI (cN F b0 false nn + 1)) 77) → F1 78 = (if k0 = 0 then uF F 78 b0 (nI (cN F b0 true nn + 1)) 78 else F 78) → LI X (uF (uF (uF F1 129 nn (nI b0)) 130 nn k0) 100 27 (nI (nn + 1))) G P nh nc no (nn + 1) mt om := by
    intro F1 hF h76 hv1 h77 h78
    have hr : rF F1 = rF F := rF_eq fun k hk => hF k (by omega) (by omega) (by omega)
    have e : ∀ z, z ≠ 100 → z ≠ 129 → z ≠ 130 → uF (uF (uF F1 129 nn (nI b0)) 130 nn k0) 100 27 (nI (nn + 1)) z = F1 z := fun z q1 q2 q3 => (uF_o _ _ _ q1).trans ((uF_o _ _ _ q3).trans (uF_o _ _ _ q2))
    have e1 : ∀ z, z ≠ 76 → z ≠ 77 → z ≠ 78 → z ≠ 100 → z ≠ 129 → z ≠ 130 → uF (uF (uF F1 129 nn (nI b0)) 130 nn k0) 100 27 (nI (nn + 1)) z = F z := fun z q1 q2 q3 q4 q5 q6 => (e z q4 q5 q6).trans (hF z q1 q2 q3)
    have e100 : ∀ j, j ≠ 27 → uF (uF (uF F1 129 nn (nI b0)) 130 nn k0) 100 27 (nI (nn + 1)) 100 j = F 100 j := fun j hj => by
      rw [uF_n _ _ (Or.inr hj), uF_o _ _ _ (by decide), uF_o _ _ _ (by decide), hF 100 (by decide) (by decide) (by decide)]
    have e129 : ∀ k, uF (uF (uF F1 129 nn (nI b0)) 130 nn k0) 100 27 (nI (nn + 1)) 129 k = if k = nn then nI b0 else F 129 k := fun k => by
      rw [uF_o _ _ _ (by decide), uF_o _ _ _ (by decide), uF_g, hF 129 (by decide) (by decide) (by decide)]
      simp only [true_and]
    have e130 : ∀ k, uF (uF (uF F1 129 nn (nI b0)) 130 nn k0) 100 27 (nI (nn + 1)) 130 k = if k = nn then k0 else F 130 k := fun k => by
      rw [uF_o _ _ _ (by decide), uF_g, uF_o _ _ _ (by decide), hF 130 (by decide) (by decide) (by decide)]
      simp only [true_and]
    have ecN : ∀ (b : Nat) (t : Bool) (m : Nat), m ≤ nn → cN (uF (uF (uF F1 129 nn (nI b0)) 130 nn k0) 100 27 (nI (nn + 1))) b t m = cN F b t m := by
      intro b t m
      induction m with
      | zero => intro _; rfl
      | succ m ih =>
        intro hm
        have hmn : ¬ m = nn := by omega
        simp only [cN, ih (by omega), e129, e130, if_neg hmn]
    have hg : GI (uF (uF (uF F1 129 nn (nI b0)) 130 nn k0) 100 27 (nI (nn + 1))) G nh nc mt := h.S.1.cg fun k q1 q2 => e1 k (by omega) (by omega) (by omega) (by omega) (by omega) (by omega)
    obtain ⟨-, a2, ⟨a3, a4, a5, a6⟩, ⟨a7, a8⟩, a9, a10, a11⟩ := h.S
    obtain ⟨⟨w1, w2, w3⟩, h2, h3⟩ := h.C
    refine ⟨h.R, h.M, h.X_, ⟨?_, h.vg⟩, ⟨hg, fun o ho => ?_, ⟨?_, ?_, ?_, fun i hi => ?_⟩, ⟨fun c hc => ?_, fun o ho => ?_⟩, fun k hk => ?_, by omega, a11⟩, ⟨?_, ?_, ?_⟩, fun i hi => ?_, fun b hb' => ?_⟩
    · have l129 : locF 129 nn = none := by simp [locF]
      have l130 : locF 130 nn = none := by simp [locF]
      rw [vF_us lc_x27 (by decide), vF_un l130 (by decide), vF_un l129 (by decide), hv1, rF_u _ (by decide), rF_u _ (by decide), rF_u _ (by decide), hr]
      funext z y
      simp only [uF_g]
      by_cases q1 : z = 129
      · subst q1; simp
      · by_cases q2 : z = 130
        · subst q2; simp
        · simp [q1, q2]
    · rw [e1 126 (by decide) (by decide) (by decide) (by decide) (by decide) (by decide), e1 127 (by decide) (by decide) (by decide) (by decide) (by decide) (by decide)]
      exact a2 o ho
    · rw [e100 13 (by decide)]; exact a3
    · rw [e100 21 (by decide)]; exact a4
    · rw [uF_s]
    · rw [e1 110 (by decide) (by decide) (by decide) (by decide) (by decide) (by decide)]; exact a6 i hi
    · rw [e1 115 (by decide) (by decide) (by decide) (by decide) (by decide) (by decide)]; exact a7 c hc
    · rw [e1 123 (by decide) (by decide) (by decide) (by decide) (by decide) (by decide)]; exact a8 o ho
    · rw [e129]
      by_cases q : k = nn
      · rw [if_pos q]; exact ⟨b0, hb, rfl⟩
      · rw [if_neg q]; exact a9 k (by omega)
    · rw [e1 8 (by decide) (by decide) (by decide) (by decide) (by decide) (by decide)]; exact w1
    · rw [e1 9 (by decide) (by decide) (by decide) (by decide) (by decide) (by decide)]; exact w2
    · rw [e1 10 (by decide) (by decide) (by decide) (by decide) (by decide) (by decide)]; exact w3
    · rw [e1 (3 + i) (by omega) (by omega) (by omega) (by omega) (by omega) (by omega)]; exact h2 i hi
    · rw [e 77 (by decide) (by decide) (by decide), e 78 (by decide) (by decide) (by decide), h77, h78]
      simp only [cN]
      rw [ecN b false nn (Nat.le_refl _), ecN b true nn (Nat.le_refl _), e129, e130, if_pos rfl, if_pos rfl]
      obtain ⟨g1, g2⟩ := h3 b hb'
      by_cases qk : k0 = 0
      · rw [if_pos qk, if_pos qk]
        by_cases q : b = b0
        · subst q
          rw [uF_s]
          simp only [qk, decide_true, and_self, if_true, true_and, Bool.true_eq_false, and_false, if_false, Nat.add_zero]
          exact ⟨g1, trivial⟩
        · rw [uF_n _ _ (Or.inr q)]
          have : ¬ nI b0 = nI b := fun z => q ((nI_eq (by omega) (by omega)).mp z).symm
          simp only [this, false_and, if_false, Nat.add_zero]
          exact ⟨g1, g2⟩
      · rw [if_neg qk, if_neg qk]
        by_cases q : b = b0
        · subst q
          rw [uF_s]
          simp only [qk, decide_false, and_self, if_true, true_and, Bool.false_eq_true, and_false, if_false, Nat.add_zero]
          exact g2
        · rw [uF_n _ _ (Or.inr q)]
          have : ¬ nI b0 = nI b := fun z => q ((nI_eq (by omega) (by omega)).mp z).symm
          simp only [this, false_and, if_false, Nat.add_zero]
          exact ⟨g1, g2⟩
  have hn : ∀ (k j : Nat) (v : Int32), k = 77 ∨ k = 78 → vF (uF F k j v) = vF F := by
    intro k j v hk
    funext z y
    cases hl : locF z y with
    | none =>
      have e : ∀ F : tF, vF F z y = if z < 100 then 0 else F z y := fun F => by simp only [vF, hl]
      rw [e, e]
      by_cases q : z < 100
      · rw [if_pos q, if_pos q]
      · rw [if_neg q, if_neg q, uF_n _ _ (by omega)]
    | some p =>
      obtain ⟨a, b⟩ := p
      have h2 := (locF_inv hl).2.1
      rw [vF_at hl, vF_at hl, uF_n _ _ (Or.inl (by omega))]
  refine key _ (fun z q1 q2 q3 => ?_) (uF_s _ _ _ _) ?_ ?_ ?_
  · rw [uF_o _ _ _ q1]
    split
    · rw [uF_o _ _ _ q3]
    · rw [uF_o _ _ _ q2]
  · rw [vF_up lc_x27]
    split
    · rw [hn _ _ _ (by omega), h.v]
    · rw [hn _ _ _ (by omega), h.v]
  · rw [uF_o _ _ _ (by decide)]
    split
    · rw [uF_o _ _ _ (by decide)]
    · rfl
  · rw [uF_o _ _ _ (by decide)]
    split
    · rfl
    · rw [uF_o _ _ _ (by decide)]
end NEW4
