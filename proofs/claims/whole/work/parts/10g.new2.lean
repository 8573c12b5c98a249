/-! THE LAW: a hole, an order, a note more -/
theorem locF_d {k j a b : Nat} (h : locF k j = some (a, b)) : (k = 100 ∧ j = 13 ∧ a = 0 ∧ b = 10) ∨ (k = 100 ∧ j = 21 ∧ a = 0 ∧ b = 11) ∨ (k = 100 ∧ j = 27 ∧ a = 76 ∧ b = 2) ∨ (k = 100 ∧ j = 34 ∧ a = 0 ∧ b = 17) ∨ (k = 100 ∧ j = 35 ∧ a = 0 ∧ b = 18) ∨ (101 ≤ k ∧ k ≤ 105 ∧ j < 4 ∧ a = 3 + j ∧ b = k - 100) ∨ (k = 106 ∧ j < 6 ∧ a = 1 ∧ b = j) ∨ (107 ≤ k ∧ k ≤ 109 ∧ j < 3 ∧ a = 8 + j ∧ b = k - 106) ∨ (k = 109 ∧ j = 3 ∧ a = 0 ∧ b = 12) ∨ (k = 110 ∧ j < 4 ∧ a = 12 + j ∧ b = 1) ∨ (111 ≤ k ∧ k ≤ 113 ∧ j < 32 ∧ a = 20 + j ∧ b = k - 111) ∨ (116 ≤ k ∧ k ≤ 117 ∧ j < 16 ∧ a = 53 + j ∧ b = k - 115) ∨ (119 ≤ k ∧ k ≤ 121 ∧ j < 16 ∧ a = 53 + j ∧ b = k - 115) ∨ (124 ≤ k ∧ k ≤ 127 ∧ j < 6 ∧ a = 70 + j ∧ b = k - 123) := by
  unfold locF at h
  repeat' split at h
  all_goals first | (cases h; done) | skip
  all_goals
    simp only [Option.some.injEq, Prod.mk.injEq] at h
    obtain ⟨h1, h2⟩ := h
    first | exact Or.inl (by omega) | exact Or.inr (Or.inl (by omega)) | exact Or.inr (Or.inr (Or.inl (by omega))) | exact Or.inr (Or.inr (Or.inr (Or.inl (by omega)))) | exact Or.inr (Or.inr (Or.inr (Or.inr (Or.inl (by omega))))) | exact Or.inr (Or.inr (Or.inr (Or.inr (Or.inr (Or.inl (by omega)))))) | exact Or.inr (Or.inr (Or.inr (Or.inr (Or.inr (Or.inr (Or.inl (by omega))))))) | exact Or.inr (Or.inr (Or.inr (Or.inr (Or.inr (Or.inr (Or.inr (Or.inl (by omega)))))))) | exact Or.inr (Or.inr (Or.inr (Or.inr (Or.inr (Or.inr (Or.inr (Or.inr (Or.inl (by omega))))))))) | exact Or.inr (Or.inr (Or.inr (Or.inr (Or.inr (Or.inr (Or.inr (Or.inr (Or.inr (Or.inl (by omega)))))))))) | exact Or.inr (Or.inr (Or.inr (Or.inr (Or.inr (Or.inr (Or.inr (Or.inr (Or.inr (Or.inr (Or.inl (by omega))))))))))) | exact Or.inr (Or.inr (Or.inr (Or.inr (Or.inr (Or.inr (Or.inr (Or.inr (Or.inr (Or.inr (Or.inr (Or.inl (by omega)))))))))))) | exact Or.inr (Or.inr (Or.inr (Or.inr (Or.inr (Or.inr (Or.inr (Or.inr (Or.inr (Or.inr (Or.inr (Or.inr (Or.inl (by omega))))))))))))) | exact Or.inr (Or.inr (Or.inr (Or.inr (Or.inr (Or.inr (Or.inr (Or.inr (Or.inr (Or.inr (Or.inr (Or.inr (Or.inr (by omega)))))))))))))
theorem locG_d {k j a b : Nat} (h : locG k j = some (a, b)) : (k = 100 ∧ 30 ≤ j ∧ j ≤ 33 ∧ a = 0 ∧ b = j - 17) ∨ (k = 118 ∧ j < 16 ∧ a = 53 + j ∧ b = 3) := by
  unfold locG at h
  repeat' split at h
  all_goals first | (cases h; done) | skip
  all_goals
    simp only [Option.some.injEq, Prod.mk.injEq] at h
    obtain ⟨h1, h2⟩ := h
    omega
theorem zF_o {F : tF} {k z : Nat} (h : z ≠ k) : zF F k z = F z := by
  funext j
  rw [zF_g, if_neg h]
theorem zG_o {F : tG} {k z : Nat} (h : z ≠ k) : zG F k z = F z := by
  funext j
  rw [zG_g, if_neg h]
theorem zF_e {F : tF} {k z j : Nat} (h : z = k) : zF F k z j = 0 := by rw [zF_g, if_pos h]
theorem zG_e {F : tG} {k z j : Nat} (h : z = k) : zG F k z j = 0 := by rw [zG_g, if_pos h]
theorem uF_e {F : tF} {k j z y : Nat} {v : Int32} (h : z = k) (h2 : y = j) : uF F k j v z y = v := by rw [uF_g, if_pos ⟨h, h2⟩]
theorem uG_e {F : tG} {k j z y : Nat} {v : Int64} (h : z = k) (h2 : y = j) : uG F k j v z y = v := by rw [uG_g, if_pos ⟨h, h2⟩]
theorem loc_h {k j q b : Nat} (hq : q < 32) (h : locF k j = some (20 + q, b)) : j = q ∧ (k = 111 ∨ k = 112 ∨ k = 113) := by
  rcases locF_d h with d | d | d | d | d | d | d | d | d | d | d | d | d | d <;> omega
theorem loc_c {k j c b : Nat} (hc : c < 16) (h : locF k j = some (53 + c, b)) : j = c ∧ (k = 116 ∨ k = 117 ∨ k = 119 ∨ k = 120 ∨ k = 121) := by
  rcases locF_d h with d | d | d | d | d | d | d | d | d | d | d | d | d | d <;> omega
theorem loc_o {k j o b : Nat} (ho : o < 6) (h : locF k j = some (70 + o, b)) : j = o ∧ (k = 124 ∨ k = 125 ∨ k = 126 ∨ k = 127) := by
  rcases locF_d h with d | d | d | d | d | d | d | d | d | d | d | d | d | d <;> omega
theorem vF_un {k j : Nat} (h : locF k j = none) (hk : 100 ≤ k) (F : tF) (v : Int32) : vF (uF F k j v) = uF (vF F) k j v := by
  funext z y
  cases hl : locF z y with
  | none =>
    have e : ∀ F : tF, vF F z y = if z < 100 then 0 else F z y := fun F => by simp only [vF, hl]
    rw [e, uF_g, uF_g, e]
    by_cases q : z = k ∧ y = j
    · rw [if_pos q, if_pos q, if_neg (by omega)]
    · rw [if_neg q, if_neg q]
  | some p =>
    obtain ⟨a, b⟩ := p
    have h2 := (locF_inv hl).2.1
    rw [vF_at hl, uF_n _ _ (Or.inl (by omega)), uF_n, vF_at hl]
    by_cases q : z = k
    · refine Or.inr fun q2 => ?_
      rw [q, q2, h] at hl
      cases hl
    · exact Or.inl q
theorem vF_us {k j : Nat} {p : Nat × Nat} (h : locF k j = some p) (hk : 100 ≤ k) (F : tF) (v : Int32) : vF (uF F k j v) = vF F := by
  funext z y
  cases hl : locF z y with
  | none =>
    have e : ∀ F : tF, vF F z y = if z < 100 then 0 else F z y := fun F => by simp only [vF, hl]
    rw [e, e, uF_n]
    by_cases q : z = k
    · refine Or.inr fun q2 => ?_
      rw [q, q2, h] at hl
      cases hl
    · exact Or.inl q
  | some p =>
    obtain ⟨a, b⟩ := p
    have h2 := (locF_inv hl).2.1
    rw [vF_at hl, vF_at hl, uF_n _ _ (Or.inl (by omega))]
theorem vG_us {k j : Nat} {p : Nat × Nat} (h : locG k j = some p) (hk : 100 ≤ k) (F : tG) (v : Int64) : vG (uG F k j v) = vG F := by
  funext z y
  cases hl : locG z y with
  | none =>
    have e : ∀ F : tG, vG F z y = if z < 100 then 0 else F z y := fun F => by simp only [vG, hl]
    rw [e, e, uG_n]
    by_cases q : z = k
    · refine Or.inr fun q2 => ?_
      rw [q, q2, h] at hl
      cases hl
    · exact Or.inl q
  | some p =>
    obtain ⟨a, b⟩ := p
    have h2 := (locG_inv hl).2.1
    rw [vG_at hl, vG_at hl, uG_n _ _ (Or.inl (by omega))]
/-- a new place in the view -/
theorem vF_z {a0 : Nat} (F : tF) (ha : a0 < 100) {V : tF} (h1 : ∀ z y b, locF z y = some (a0, b) → V z y = 0) (h2 : ∀ z y, (∀ b, locF z y ≠ some (a0, b)) → V z y = vF F z y) : vF (zF F a0) = V := by
  funext z y
  cases hl : locF z y with
  | none =>
    rw [h2 z y (fun b q => by rw [hl] at q; cases q)]
    simp only [vF, hl]
    by_cases q : z < 100
    · rw [if_pos q, if_pos q]
    · rw [if_neg q, if_neg q, zF_o (by omega)]
  | some p =>
    obtain ⟨a, b⟩ := p
    by_cases q : a = a0
    · subst q
      rw [vF_at hl, zF_e rfl, h1 z y b hl]
    · rw [h2 z y (fun b' q' => by rw [hl] at q'; cases q'; exact q rfl), vF_at hl, vF_at hl, zF_o q]
theorem vF_zh (F : tF) {q : Nat} (hq : q < 32) : vF (zF F (20 + q)) = uF (uF (uF (vF F) 111 q 0) 112 q 0) 113 q 0 := by
  refine vF_z F (by omega) (fun z y b h => ?_) (fun z y h => ?_)
  · obtain ⟨rfl, e | e | e⟩ := loc_h hq h <;> subst e <;> simp [uF_g]
  · rw [uF_n, uF_n, uF_n]
    · by_cases e : z = 111
      · refine Or.inr fun e2 => ?_
        rw [e, e2] at h
        exact h _ (lc_h0 hq)
      · exact Or.inl e
    · by_cases e : z = 112
      · refine Or.inr fun e2 => ?_
        rw [e, e2] at h
        exact h _ (lc_h1 hq)
      · exact Or.inl e
    · by_cases e : z = 113
      · refine Or.inr fun e2 => ?_
        rw [e, e2] at h
        exact h _ (lc_h2 hq)
      · exact Or.inl e
theorem vF_zc (F : tF) {q : Nat} (hq : q < 16) : vF (zF F (53 + q)) = uF (uF (uF (uF (uF (vF F) 116 q 0) 117 q 0) 119 q 0) 120 q 0) 121 q 0 := by
  refine vF_z F (by omega) (fun z y b h => ?_) (fun z y h => ?_)
  · obtain ⟨rfl, e | e | e | e | e⟩ := loc_c hq h <;> subst e <;> simp [uF_g]
  · rw [uF_n, uF_n, uF_n, uF_n, uF_n]
    · by_cases e : z = 116
      · refine Or.inr fun e2 => ?_
        rw [e, e2] at h
        exact h _ (lc_c1 hq)
      · exact Or.inl e
    · by_cases e : z = 117
      · refine Or.inr fun e2 => ?_
        rw [e, e2] at h
        exact h _ (lc_c2 hq)
      · exact Or.inl e
    · by_cases e : z = 119
      · refine Or.inr fun e2 => ?_
        rw [e, e2] at h
        exact h _ (lc_c4 hq)
      · exact Or.inl e
    · by_cases e : z = 120
      · refine Or.inr fun e2 => ?_
        rw [e, e2] at h
        exact h _ (lc_c5 hq)
      · exact Or.inl e
    · by_cases e : z = 121
      · refine Or.inr fun e2 => ?_
        rw [e, e2] at h
        exact h _ (lc_c6 hq)
      · exact Or.inl e
theorem vF_zo (F : tF) {q : Nat} (hq : q < 6) : vF (zF F (70 + q)) = uF (uF (uF (uF (vF F) 124 q 0) 125 q 0) 126 q 0) 127 q 0 := by
  refine vF_z F (by omega) (fun z y b h => ?_) (fun z y h => ?_)
  · obtain ⟨rfl, e | e | e | e⟩ := loc_o hq h <;> subst e <;> simp [uF_g]
  · rw [uF_n, uF_n, uF_n, uF_n]
    · by_cases e : z = 124
      · refine Or.inr fun e2 => ?_
        rw [e, e2] at h
        exact h _ (lc_o1 hq)
      · exact Or.inl e
    · by_cases e : z = 125
      · refine Or.inr fun e2 => ?_
        rw [e, e2] at h
        exact h _ (lc_o2 hq)
      · exact Or.inl e
    · by_cases e : z = 126
      · refine Or.inr fun e2 => ?_
        rw [e, e2] at h
        exact h _ (lc_o3 hq)
      · exact Or.inl e
    · by_cases e : z = 127
      · refine Or.inr fun e2 => ?_
        rw [e, e2] at h
        exact h _ (lc_o4 hq)
      · exact Or.inl e
theorem KW.z {F F1 : tF} (h : KW F F1) {k : Nat} (h1 : 12 ≤ k ∧ k < 77) : KW F (zF F1 k) := by
  obtain ⟨k1, k2, k3, k4, k5⟩ := h
  exact ⟨fun z hz => (zF_o (by omega)).trans (k1 z hz), fun i hi => (congrFun (zF_o (by omega)) 0).trans (k2 i hi), fun i hi => (congrFun (zF_o (by omega)) 0).trans (k3 i hi), (zF_o (by omega)).trans k4, (zF_o (by omega)).trans k5⟩
theorem KW.w {F F1 : tF} (h : KW F F1) {k j : Nat} {v : Int32} (h1 : k < 3 ∨ (12 ≤ k ∧ k < 77)) : KW F (uF F1 k j v) := by
  obtain ⟨k1, k2, k3, k4, k5⟩ := h
  exact ⟨fun z hz => (uF_o _ _ _ (by omega)).trans (k1 z hz), fun i hi => (uF_n _ _ (by omega)).trans (k2 i hi), fun i hi => (uF_n _ _ (by omega)).trans (k3 i hi), (uF_o _ _ _ (by omega)).trans k4, (uF_o _ _ _ (by omega)).trans k5⟩
theorem KW.rf0 {F : tF} : KW F F := ⟨fun _ _ => rfl, fun _ _ => rfl, fun _ _ => rfl, rfl, rfl⟩
section NEW2
variable {X : List Nat} {F F1 F2 : tF} {G G1 G2 : tG} {P P1 : tP} {nh : Nat → Nat} {nc no nn : Nat} {mt om : Nat → Nat}
theorem st_hole_at {i : Nat} (hi : i < 4) {n0 : Int32} (hn : 20 ≤ n0 ∧ n0 ≤ 1000) (h8 : nh i < 8) : st_hole F nh (nI i) n0 = uF (uF (uF (uF F 111 (8 * i + nh i) n0) 112 (8 * i + nh i) 0) 113 (8 * i + nh i) 0) 110 i (nI (nh i + 1)) := by
  unfold st_hole
  rw [if_pos ⟨nI_pos' (by omega), (nI_leI (b := 3) (by omega) (by omega)).mpr (by omega)⟩, if_pos hn, i4_cl (by omega), if_neg (by omega)]
theorem RS.hole (h : RS F G nh nc no nn mt om) {i : Nat} (hi : i < 4) {n0 : Int32} (hn : 20 ≤ n0 ∧ n0 ≤ 1000) (h8 : nh i < 8) : RS (st_hole F nh (nI i) n0) G (upN nh i (nh i + 1)) nc no nn mt om := by
  rw [st_hole_at hi hn h8]
  obtain ⟨⟨hM, hS, hP, hH, hC, hT, hN⟩, a2, ⟨a3, a4, a5, a6⟩, ⟨a7, a8⟩, a9, a10, a11⟩ := h
  have e : ∀ z, z ≠ 110 → z ≠ 111 → z ≠ 112 → z ≠ 113 → uF (uF (uF (uF F 111 (8 * i + nh i) n0) 112 (8 * i + nh i) 0) 113 (8 * i + nh i) 0) 110 i (nI (nh i + 1)) z = F z := fun z q1 q2 q3 q4 => (uF_o _ _ _ q1).trans ((uF_o _ _ _ q4).trans ((uF_o _ _ _ q3).trans (uF_o _ _ _ q2)))
  refine ⟨⟨fun k hk => ?_, ?_, fun k hk => ?_, fun i' j' hi' hj' => ?_, fun c hc => ?_, hT, hN.1, fun i' hi' => ?_, hN.2.2⟩, fun o ho => ?_, ⟨?_, ?_, ?_, fun i' hi' => ?_⟩, ⟨fun c hc => ?_, fun o ho => ?_⟩, fun k hk => ?_, a10, a11⟩
  · rw [e 101 (by decide) (by decide) (by decide) (by decide), e 102 (by decide) (by decide) (by decide) (by decide), e 103 (by decide) (by decide) (by decide) (by decide), e 104 (by decide) (by decide) (by decide) (by decide), e 105 (by decide) (by decide) (by decide) (by decide)]
    exact hM k hk
  · unfold GS
    rw [e 106 (by decide) (by decide) (by decide) (by decide)]
    exact hS
  · rw [e 107 (by decide) (by decide) (by decide) (by decide), e 108 (by decide) (by decide) (by decide) (by decide)]
    exact hP k hk
  · simp only [uF_g]
    by_cases q : i' = i ∧ j' = nh i
    · obtain ⟨rfl, rfl⟩ := q
      simp only [and_self, if_true, Nat.reduceEqDiff, false_and, if_false]
      exact ⟨rg_c (a := 20) (b := 1000) (by decide) (by decide) hn, ⟨0, Nat.le_refl _, by omega, rfl⟩, ⟨0, Nat.le_refl _, by omega, rfl⟩⟩
    · have h8' := hN.2.1 i' hi'
      have hj2 : j' < nh i' := by
        by_cases q1 : i' = i
        · subst q1
          rw [upN_s] at hj'
          omega
        · rw [upN_n q1] at hj'; exact hj'
      have q2 : ¬ 8 * i' + j' = 8 * i + nh i := by omega
      simp only [q2, and_false, if_false, Nat.reduceEqDiff, false_and]
      exact hH i' j' hi' hj2
  · rw [e 116 (by decide) (by decide) (by decide) (by decide), e 117 (by decide) (by decide) (by decide) (by decide), e 121 (by decide) (by decide) (by decide) (by decide)]
    exact hC c hc
  · by_cases q : i' = i
    · subst q; rw [upN_s]; omega
    · rw [upN_n q]; exact hN.2.1 i' hi'
  · rw [e 126 (by decide) (by decide) (by decide) (by decide), e 127 (by decide) (by decide) (by decide) (by decide)]
    exact a2 o ho
  · rw [e 100 (by decide) (by decide) (by decide) (by decide)]; exact a3
  · rw [e 100 (by decide) (by decide) (by decide) (by decide)]; exact a4
  · rw [e 100 (by decide) (by decide) (by decide) (by decide)]; exact a5
  · by_cases q : i' = i
    · subst q; rw [uF_s, upN_s]
    · rw [upN_n q, uF_n _ _ (Or.inr q), uF_o _ _ _ (by decide), uF_o _ _ _ (by decide), uF_o _ _ _ (by decide)]
      exact a6 i' hi'
  · rw [e 115 (by decide) (by decide) (by decide) (by decide)]; exact a7 c hc
  · rw [e 123 (by decide) (by decide) (by decide) (by decide)]; exact a8 o ho
  · rw [e 129 (by decide) (by decide) (by decide) (by decide)]; exact a9 k hk
theorem LI.hole (h : LI X F G P nh nc no nn mt om) {i : Nat} (hi : i < 4) {n0 : Int32} (hn : 20 ≤ n0 ∧ n0 ≤ 1000) (h8 : nh i < 8) : LI (X ++ [20 + (8 * i + nh i)]) (st_hole (uF (uF (zF F (20 + (8 * i + nh i))) (20 + (8 * i + nh i)) 0 n0) (12 + i) 1 (nI (nh i + 1))) nh (nI i) n0) (zG G (20 + (8 * i + nh i))) (uP (zP P (20 + (8 * i + nh i))) (16 + i) (nh i) (some (20 + (8 * i + nh i)))) (upN nh i (nh i + 1)) nc no nn mt om := by
  have hk : KW F (uF (uF (zF F (20 + (8 * i + nh i))) (20 + (8 * i + nh i)) 0 n0) (12 + i) 1 (nI (nh i + 1))) := ((KW.rf0.z (by omega)).w (by omega)).w (by omega)
  refine ⟨h.R.hole hi h8, h.M.new ((uP_o _ _ _ (by omega)).trans (zP_n P (by omega))), h.X_.hole hi h8, ⟨?_, ?_⟩, (h.S.k hk.1 (fun z hz => zG_o (by omega))).hole hi hn h8, h.C.mv hk ?_⟩
  · rw [st_hole_at hi hn h8]
    have hq : 8 * i + nh i < 32 := by omega
    rw [vF_us (lc_plate hi) (by decide), vF_us (lc_h2 hq) (by decide), vF_us (lc_h1 hq) (by decide), vF_us (lc_h0 hq) (by decide), vF_up (lc_plate hi), vF_up (lc_h0 hq), vF_zh F hq, rF_u _ (by decide), rF_u _ (by decide), rF_u _ (by decide), rF_u _ (by decide), rF_eq hk.1, h.v]
    funext z y
    simp only [uF_g]
    by_cases q1 : z = 111
    · subst q1; by_cases q2 : y = 8 * i + nh i <;> simp [q2]
    · by_cases q2 : z = 112
      · subst q2; simp
      · by_cases q3 : z = 113
        · subst q3; simp
        · simp [q1, q2, q3]
  · refine RelG_loc fun k j a b hl => ?_
    have e := vrG_x h.vg hl
    have d := locG_d hl
    rw [zG_o (by omega), zG_o (by omega)]
    exact e
  · rw [st_hole_at hi hn h8]
    exact (((LO.rf.u (by omega)).u (by omega)).u (by omega)).u (by omega)
theorem RS.order (h : RS F G nh nc no nn mt om) {i : Nat} (hi : i < 4) {lo hi' f0 : Int32} (hok : ok_ord no (nI i) lo hi' f0) : RS (st_order F no (nI i) lo hi' f0) G nh nc (no + 1) nn mt (upN om no i) := by
  unfold st_order
  rw [if_pos hok]
  unfold ok_ord at hok
  unfold oF_
  obtain ⟨hg, a2, ⟨a3, a4, a5, a6⟩, ⟨a7, a8⟩, a9, a10, a11⟩ := h
  refine ⟨hg.cg fun k h3 h4 => ?_, fun o ho => ?_, ⟨?_, ?_, ?_, fun i' hi' => ?_⟩, ⟨fun c hc => ?_, fun o ho => ?_⟩, fun k hk => ?_, a10, by omega⟩
  · rw [uF_o _ _ _ (by omega), uF_o _ _ _ (by omega), uF_o _ _ _ (by omega), uF_o _ _ _ (by omega), uF_o _ _ _ (by omega), uF_o _ _ _ (by omega)]
  · simp only [uF_g, Nat.reduceEqDiff, false_and, if_false, true_and]
    by_cases q : o = no
    · rw [if_pos q, if_pos q]
      exact ⟨rg_c (a := 1) (b := 10000) (by decide) (by decide) hok.2.1.2.2.2, Or.inl rfl⟩
    · rw [if_neg q, if_neg q]
      exact a2 o (by omega)
  · simp only [uF_g, Nat.reduceEqDiff, false_and, if_false, true_and]; exact a3
  · simp only [uF_g, and_self, if_true]
  · simp only [uF_g, Nat.reduceEqDiff, false_and, if_false, true_and]; exact a5
  · simp only [uF_g, Nat.reduceEqDiff, false_and, if_false, true_and]; exact a6 i' hi'
  · simp only [uF_g, Nat.reduceEqDiff, false_and, if_false, true_and]; exact a7 c hc
  · simp only [uF_g, Nat.reduceEqDiff, false_and, if_false, true_and]
    by_cases q : o = no
    · rw [if_pos q, q, upN_s]
    · rw [if_neg q, upN_n q]
      exact a8 o (by omega)
  · simp only [uF_g, Nat.reduceEqDiff, false_and, if_false, true_and]; exact a9 k hk
theorem LI.order (h : LI X F G P nh nc no nn mt om) {i : Nat} (hi : i < 4) {lo hi' f0 : Int32} (hok : ok_ord no (nI i) lo hi' f0) : LI (X ++ [70 + no]) (st_order (uF (uF (uF (uF (zF F (70 + no)) (70 + no) 1 lo) (70 + no) 2 hi') (70 + no) 3 f0) 0 11 (nI (no + 1))) no (nI i) lo hi' f0) (zG G (70 + no)) (uP (uP (zP P (70 + no)) (70 + no) 0 (some (3 + i))) 69 no (some (70 + no))) nh nc (no + 1) nn mt (upN om no i) := by
  have h6 : no < 6 := by
    have := h.R.no6
    unfold ok_ord at hok
    omega
  have hk : KW F (uF (uF (uF (uF (zF F (70 + no)) (70 + no) 1 lo) (70 + no) 2 hi') (70 + no) 3 f0) 0 11 (nI (no + 1))) := ((((KW.rf0.z (by omega)).w (by omega)).w (by omega)).w (by omega)).w (by omega)
  refine ⟨h.R.order hi h6, h.M.new ((uP_o _ _ _ (by omega)).trans ((uP_o _ _ _ (by omega)).trans (zP_n P (by omega)))), h.X_.order hi h6, ⟨?_, ?_⟩, (h.S.k hk.1 (fun z hz => zG_o (by omega))).order hi hok, h.C.mv hk ?_⟩
  · unfold st_order
    rw [if_pos hok]
    unfold oF_
    have l123 : locF 123 no = none := by simp [locF]
    rw [vF_us lc_x21 (by decide), vF_us (lc_o4 h6) (by decide), vF_us (lc_o3 h6) (by decide), vF_us (lc_o2 h6) (by decide), vF_us (lc_o1 h6) (by decide), vF_un l123 (by decide), vF_up lc_x21, vF_up (lc_o3 h6), vF_up (lc_o2 h6), vF_up (lc_o1 h6), vF_zo F h6, rF_u _ (by decide), rF_u _ (by decide), rF_u _ (by decide), rF_u _ (by decide), rF_u _ (by decide), rF_u _ (by decide), rF_eq hk.1, h.v]
    funext z y
    simp only [uF_g]
    by_cases q1 : z = 124
    · subst q1; by_cases q2 : y = no <;> simp [q2]
    · by_cases q2 : z = 125
      · subst q2; by_cases q2 : y = no <;> simp [q2]
      · by_cases q3 : z = 126
        · subst q3; by_cases q2 : y = no <;> simp [q2]
        · by_cases q4 : z = 123
          · subst q4; simp
          · by_cases q5 : z = 127
            · subst q5; simp
            · simp [q1, q2, q3, q4, q5]
  · refine RelG_loc fun k j a b hl => ?_
    have e := vrG_x h.vg hl
    have d := locG_d hl
    rw [zG_o (by omega), zG_o (by omega)]
    exact e
  · unfold st_order
    rw [if_pos hok]
    exact (((((LO.rf.u (by omega)).u (by omega)).u (by omega)).u (by omega)).u (by omega)).u (by omega)
end NEW2
