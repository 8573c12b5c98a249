/-! THE LAW: a hole, a coil, an order more: shapes -/
def upN (f : Nat → Nat) (k v : Nat) : Nat → Nat := fun z => if z = k then v else f z
theorem upN_s (f : Nat → Nat) (k v : Nat) : upN f k v k = v := if_pos rfl
theorem upN_n {f : Nat → Nat} {k v z : Nat} (h : z ≠ k) : upN f k v z = f z := if_neg h
theorem zP_o (P : tP) {k z : Nat} (h : z ≠ k) : zP P k z = P z := zP_n P h
section NEW
variable {X : List Nat} {P : tP} {nh : Nat → Nat} {nc no : Nat} {mt om : Nat → Nat}
/-- references to what isn't there yet -/
theorem noref_new {k k' a b : Nat} {v : Nat} (h : noref X P k') (hk : k' ≠ k) : noref (X ++ [k]) (uP (zP P k) a b (some k)) k' := by
  intro z hz j e
  by_cases h1 : z = a ∧ j = b
  · rw [h1.1, h1.2, uP_s] at e
    exact hk (Option.some.inj e).symm
  · rw [uP_n _ _ (by omega)] at e
    by_cases h2 : z = k
    · subst h2
      rw [zP_s] at e
      cases e
    · rw [zP_n P h2] at e
      rcases List.mem_append.mp hz with h3 | h3
      · exact h z h3 j e
      · exact h2 (List.mem_singleton.mp h3)
theorem noref_new2 {k k' a b v : Nat} (h : noref X P k') (hk : k' ≠ k) (hv : k' ≠ v) : noref (X ++ [k]) (uP (uP (zP P k) k 0 (some v)) a b (some k)) k' := by
  intro z hz j e
  by_cases h1 : z = a ∧ j = b
  · rw [h1.1, h1.2, uP_s] at e
    exact hk (Option.some.inj e).symm
  · rw [uP_n _ _ (by omega)] at e
    by_cases h4 : z = k ∧ j = 0
    · rw [h4.1, h4.2, uP_s] at e
      exact hv (Option.some.inj e).symm
    · rw [uP_n _ _ (by omega)] at e
      by_cases h2 : z = k
      · subst h2
        rw [zP_s] at e
        cases e
      · rw [zP_n P h2] at e
        rcases List.mem_append.mp hz with h3 | h3
        · exact h z h3 j e
        · exact h2 (List.mem_singleton.mp h3)
theorem nin_new {k k' : Nat} (h : k' ∉ X) (hk : k' ≠ k) : k' ∉ X ++ [k] := by
  intro q
  rcases List.mem_append.mp q with q | q
  · exact h q
  · exact hk (List.mem_singleton.mp q)
theorem RM.new {k : Nat} {P1 : tP} (h : RM X P) (hp : P1 100 = P 100) : RM (X ++ [k]) P1 := ⟨fun z hz => mem_l (h.1 z hz), fun j hj => by rw [hp]; exact h.2 j hj⟩
theorem RC.hole (h : RC X P nh nc no mt om) {i : Nat} (hi : i < 4) (h8 : nh i < 8) : RC (X ++ [20 + (8 * i + nh i)]) (uP (zP P (20 + (8 * i + nh i))) (16 + i) (nh i) (some (20 + (8 * i + nh i)))) (upN nh i (nh i + 1)) nc no mt om := by
  have e : ∀ z, z ≠ 20 + (8 * i + nh i) → z ≠ 16 + i → uP (zP P (20 + (8 * i + nh i))) (16 + i) (nh i) (some (20 + (8 * i + nh i))) z = P z := fun z h1 h2 => (uP_o _ _ _ h2).trans (zP_n P h1)
  obtain ⟨⟨x1, x2, x3, x4⟩, ⟨a1, a2, a3, a4, a5⟩, ⟨b1, b2, b3⟩, ⟨c1, c2⟩, ⟨d1, d2, d3, d4, d5, d6, d7⟩, f1, f2, f3, f4, f5⟩ := h
  refine ⟨⟨fun k hk => mem_l (x1 k hk), fun i' j' hi' hj' => ?_, fun c hc => mem_l (x3 c hc), fun o ho => mem_l (x4 o ho)⟩, ⟨fun j hj => ?_, fun i hi => ?_, fun i hi => ?_, fun i hi => ?_, fun i' hi' => ?_⟩, ⟨fun i' j' hi' hj' => ?_, fun c hc => ?_, fun o ho => ?_⟩, ⟨fun c hc => ?_, fun o ho => ?_⟩, ⟨?_, ?_, ?_, ?_, ?_, ?_, fun j hj => ?_⟩, fun i' hi' => ?_, f2, f3, f4, f5⟩
  · by_cases q : i' = i
    · subst q
      rw [upN_s] at hj'
      by_cases q2 : j' = nh i'
      · subst q2; exact mem_k
      · exact mem_l (x2 i' j' hi' (by omega))
    · rw [upN_n q] at hj'
      exact mem_l (x2 i' j' hi' hj')
  · rw [e 0 (by omega) (by omega)]; exact a1 j hj
  · rw [e 2 (by omega) (by omega)]; exact a2 i hi
  · rw [e 7 (by omega) (by omega)]; exact a3 i hi
  · rw [e 11 (by omega) (by omega)]; exact a4 i hi
  · rw [e (12 + i') (by omega) (by omega)]; exact a5 i' hi'
  · by_cases q : i' = i
    · subst q
      rw [upN_s]
      by_cases q2 : j' = nh i'
      · subst q2
        rw [uP_s, if_pos (by omega)]
      · rw [uP_n _ _ (Or.inr q2), zP_n P (by omega), b1 i' j' hi' hj']
        by_cases q3 : j' < nh i'
        · rw [if_pos q3, if_pos (by omega)]
        · rw [if_neg q3, if_neg (by omega)]
    · rw [upN_n q, e (16 + i') (by omega) (by omega)]
      exact b1 i' j' hi' hj'
  · rw [e 52 (by omega) (by omega)]; exact b2 c hc
  · rw [e 69 (by omega) (by omega)]; exact b3 o ho
  · rw [e (53 + c) (by omega) (by omega)]; exact c1 c hc
  · rw [e (70 + o) (by omega) (by omega)]; exact c2 o ho
  · rw [e 76 (by omega) (by omega)]; exact d1
  · rw [e 76 (by omega) (by omega)]; exact d2
  · rw [e 79 (by omega) (by omega)]; exact d3
  · rw [e 80 (by omega) (by omega)]; exact d4
  · rw [e 80 (by omega) (by omega)]; exact d5
  · rw [e 80 (by omega) (by omega)]; exact d6
  · rw [e 83 (by omega) (by omega)]; exact d7 j hj
  · by_cases q : i' = i
    · subst q; rw [upN_s]; omega
    · rw [upN_n q]; exact f1 i' hi'
theorem RX_.hole (h : RX_ X P nh nc no) {i : Nat} (hi : i < 4) (h8 : nh i < 8) : RX_ (X ++ [20 + (8 * i + nh i)]) (uP (zP P (20 + (8 * i + nh i))) (16 + i) (nh i) (some (20 + (8 * i + nh i)))) (upN nh i (nh i + 1)) nc no := by
  obtain ⟨h1, h2, h3⟩ := h
  refine ⟨fun a b q1 q2 q3 => ?_, fun a q1 q2 => ?_, fun a q1 q2 => ?_⟩
  · have hne : 20 + (8 * a + b) ≠ 20 + (8 * i + nh i) := by
      by_cases q : a = i
      · subst q; rw [upN_s] at q2; omega
      · omega
    have hq : nh a ≤ b := by
      by_cases q : a = i
      · subst q; rw [upN_s] at q2; omega
      · rw [upN_n q] at q2; exact q2
    exact ⟨nin_new (h1 a b q1 hq q3).1 hne, noref_new (v := 0) (h1 a b q1 hq q3).2 hne⟩
  · exact ⟨nin_new (h2 a q1 q2).1 (by omega), noref_new (v := 0) (h2 a q1 q2).2 (by omega)⟩
  · exact ⟨nin_new (h3 a q1 q2).1 (by omega), noref_new (v := 0) (h3 a q1 q2).2 (by omega)⟩
theorem RC.coil (h : RC X P nh nc no mt om) {i : Nat} (hi : i < 4) (h16 : nc < 16) : RC (X ++ [53 + nc]) (uP (uP (zP P (53 + nc)) (53 + nc) 0 (some (3 + i))) 52 nc (some (53 + nc))) nh (nc + 1) no (upN mt nc i) om := by
  have e : ∀ z, z ≠ 53 + nc → z ≠ 52 → uP (uP (zP P (53 + nc)) (53 + nc) 0 (some (3 + i))) 52 nc (some (53 + nc)) z = P z := fun z h1 h2 => (uP_o _ _ _ h2).trans ((uP_o _ _ _ h1).trans (zP_n P h1))
  obtain ⟨⟨x1, x2, x3, x4⟩, ⟨a1, a2, a3, a4, a5⟩, ⟨b1, b2, b3⟩, ⟨c1, c2⟩, ⟨d1, d2, d3, d4, d5, d6, d7⟩, f1, f2, f3, f4, f5⟩ := h
  have hx52 : fixC 52 = true := rfl
  refine ⟨⟨fun k hk => mem_l (x1 k hk), fun i' j' hi' hj' => mem_l (x2 i' j' hi' hj'), fun c hc => ?_, fun o ho => mem_l (x4 o ho)⟩, ⟨fun j hj => ?_, fun i hi => ?_, fun i hi => ?_, fun i hi => ?_, fun i' hi' => ?_⟩, ⟨fun i' j' hi' hj' => ?_, fun c hc => ?_, fun o ho => ?_⟩, ⟨fun c hc => ?_, fun o ho => ?_⟩, ⟨?_, ?_, ?_, ?_, ?_, ?_, fun j hj => ?_⟩, f1, by omega, f3, fun c hc => ?_, f5⟩
  · by_cases q : c = nc
    · subst q; exact mem_k
    · exact mem_l (x3 c (by omega))
  · rw [e 0 (by omega) (by omega)]; exact a1 j hj
  · rw [e 2 (by omega) (by omega)]; exact a2 i hi
  · rw [e 7 (by omega) (by omega)]; exact a3 i hi
  · rw [e 11 (by omega) (by omega)]; exact a4 i hi
  · rw [e (12 + i') (by omega) (by omega)]; exact a5 i' hi'
  · rw [e (16 + i') (by omega) (by omega)]; exact b1 i' j' hi' hj'
  · by_cases q : c = nc
    · subst q; rw [uP_s, if_pos (by omega)]
    · rw [uP_n _ _ (Or.inr q), uP_o _ _ _ (by omega), zP_n P (by omega), b2 c hc]
      by_cases q3 : c < nc
      · rw [if_pos q3, if_pos (by omega)]
      · rw [if_neg q3, if_neg (by omega)]
  · rw [e 69 (by omega) (by omega)]; exact b3 o ho
  · by_cases q : c = nc
    · subst q
      rw [uP_o _ _ _ (by omega), uP_s, upN_s]
    · rw [e (53 + c) (by omega) (by omega), upN_n q]; exact c1 c (by omega)
  · rw [e (70 + o) (by omega) (by omega)]; exact c2 o ho
  · rw [e 76 (by omega) (by omega)]; exact d1
  · rw [e 76 (by omega) (by omega)]; exact d2
  · rw [e 79 (by omega) (by omega)]; exact d3
  · rw [e 80 (by omega) (by omega)]; exact d4
  · rw [e 80 (by omega) (by omega)]; exact d5
  · rw [e 80 (by omega) (by omega)]; exact d6
  · rw [e 83 (by omega) (by omega)]; exact d7 j hj
  · by_cases q : c = nc
    · subst q; rw [upN_s]; exact hi
    · rw [upN_n q]; exact f4 c (by omega)
theorem RX_.coil (h : RX_ X P nh nc no) {i : Nat} (hi : i < 4) (h16 : nc < 16) (h8 : ∀ i, i < 4 → nh i ≤ 8) : RX_ (X ++ [53 + nc]) (uP (uP (zP P (53 + nc)) (53 + nc) 0 (some (3 + i))) 52 nc (some (53 + nc))) nh (nc + 1) no := by
  obtain ⟨h1, h2, h3⟩ := h
  refine ⟨fun a b q1 q2 q3 => ?_, fun a q1 q2 => ?_, fun a q1 q2 => ?_⟩
  · exact ⟨nin_new (h1 a b q1 q2 q3).1 (by omega), noref_new2 (h1 a b q1 q2 q3).2 (by omega) (by omega)⟩
  · exact ⟨nin_new (h2 a (by omega) q2).1 (by omega), noref_new2 (h2 a (by omega) q2).2 (by omega) (by omega)⟩
  · exact ⟨nin_new (h3 a q1 q2).1 (by omega), noref_new2 (h3 a q1 q2).2 (by omega) (by omega)⟩
theorem RC.order (h : RC X P nh nc no mt om) {i : Nat} (hi : i < 4) (h6 : no < 6) : RC (X ++ [70 + no]) (uP (uP (zP P (70 + no)) (70 + no) 0 (some (3 + i))) 69 no (some (70 + no))) nh nc (no + 1) mt (upN om no i) := by
  have e : ∀ z, z ≠ 70 + no → z ≠ 69 → uP (uP (zP P (70 + no)) (70 + no) 0 (some (3 + i))) 69 no (some (70 + no)) z = P z := fun z h1 h2 => (uP_o _ _ _ h2).trans ((uP_o _ _ _ h1).trans (zP_n P h1))
  obtain ⟨⟨x1, x2, x3, x4⟩, ⟨a1, a2, a3, a4, a5⟩, ⟨b1, b2, b3⟩, ⟨c1, c2⟩, ⟨d1, d2, d3, d4, d5, d6, d7⟩, f1, f2, f3, f4, f5⟩ := h
  refine ⟨⟨fun k hk => mem_l (x1 k hk), fun i' j' hi' hj' => mem_l (x2 i' j' hi' hj'), fun c hc => mem_l (x3 c hc), fun o ho => ?_⟩, ⟨fun j hj => ?_, fun i hi => ?_, fun i hi => ?_, fun i hi => ?_, fun i' hi' => ?_⟩, ⟨fun i' j' hi' hj' => ?_, fun c hc => ?_, fun o ho => ?_⟩, ⟨fun c hc => ?_, fun o ho => ?_⟩, ⟨?_, ?_, ?_, ?_, ?_, ?_, fun j hj => ?_⟩, f1, f2, by omega, f4, fun o ho => ?_⟩
  · by_cases q : o = no
    · subst q; exact mem_k
    · exact mem_l (x4 o (by omega))
  · rw [e 0 (by omega) (by omega)]; exact a1 j hj
  · rw [e 2 (by omega) (by omega)]; exact a2 i hi
  · rw [e 7 (by omega) (by omega)]; exact a3 i hi
  · rw [e 11 (by omega) (by omega)]; exact a4 i hi
  · rw [e (12 + i') (by omega) (by omega)]; exact a5 i' hi'
  · rw [e (16 + i') (by omega) (by omega)]; exact b1 i' j' hi' hj'
  · rw [e 52 (by omega) (by omega)]; exact b2 c hc
  · by_cases q : o = no
    · subst q; rw [uP_s, if_pos (by omega)]
    · rw [uP_n _ _ (Or.inr q), uP_o _ _ _ (by omega), zP_n P (by omega), b3 o ho]
      by_cases q3 : o < no
      · rw [if_pos q3, if_pos (by omega)]
      · rw [if_neg q3, if_neg (by omega)]
  · rw [e (53 + c) (by omega) (by omega)]; exact c1 c hc
  · by_cases q : o = no
    · subst q
      rw [uP_o _ _ _ (by omega), uP_s, upN_s]
    · rw [e (70 + o) (by omega) (by omega), upN_n q]; exact c2 o (by omega)
  · rw [e 76 (by omega) (by omega)]; exact d1
  · rw [e 76 (by omega) (by omega)]; exact d2
  · rw [e 79 (by omega) (by omega)]; exact d3
  · rw [e 80 (by omega) (by omega)]; exact d4
  · rw [e 80 (by omega) (by omega)]; exact d5
  · rw [e 80 (by omega) (by omega)]; exact d6
  · rw [e 83 (by omega) (by omega)]; exact d7 j hj
  · by_cases q : o = no
    · subst q; rw [upN_s]; exact hi
    · rw [upN_n q]; exact f5 o (by omega)
theorem RX_.order (h : RX_ X P nh nc no) {i : Nat} (hi : i < 4) (h6 : no < 6) : RX_ (X ++ [70 + no]) (uP (uP (zP P (70 + no)) (70 + no) 0 (some (3 + i))) 69 no (some (70 + no))) nh nc (no + 1) := by
  obtain ⟨h1, h2, h3⟩ := h
  refine ⟨fun a b q1 q2 q3 => ?_, fun a q1 q2 => ?_, fun a q1 q2 => ?_⟩
  · exact ⟨nin_new (h1 a b q1 q2 q3).1 (by omega), noref_new2 (h1 a b q1 q2 q3).2 (by omega) (by omega)⟩
  · exact ⟨nin_new (h2 a q1 q2).1 (by omega), noref_new2 (h2 a q1 q2).2 (by omega) (by omega)⟩
  · exact ⟨nin_new (h3 a (by omega) q2).1 (by omega), noref_new2 (h3 a (by omega) q2).2 (by omega) (by omega)⟩
end NEW
/-- the view at places that are kept is the reference's cell -/
theorem Rel_loc {F2 : tF} (hB : ∀ k j a b, locF k j = some (a, b) → F2 a b = F2 k j) : vF F2 = rF F2 := by
  funext k j
  cases hl : locF k j with
  | none => simp only [vF, rF, hl]
  | some p =>
    obtain ⟨a, b⟩ := p
    rw [vF_at hl, hB k j a b hl, rF_k F2 (locF_inv hl).2.2]
theorem RelG_loc {F2 : tG} (hB : ∀ k j a b, locG k j = some (a, b) → F2 a b = F2 k j) : vG F2 = rG F2 := by
  funext k j
  cases hl : locG k j with
  | none => simp only [vG, rG, hl]
  | some p =>
    obtain ⟨a, b⟩ := p
    rw [vG_at hl, hB k j a b hl, rG_k F2 (locG_inv hl).2.2]
theorem zF_g (F : tF) (k z j : Nat) : zF F k z j = if z = k then 0 else F z j := by
  unfold zF
  by_cases h : z = k
  · simp [h]
  · simp [h]
theorem zG_g (F : tG) (k z j : Nat) : zG F k z j = if z = k then 0 else F z j := by
  unfold zG
  by_cases h : z = k
  · simp [h]
  · simp [h]
