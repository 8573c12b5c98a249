/-! THE LAW: its invariant -/
def CX (F : tF) (nn : Nat) : Prop := WHok F ∧ (∀ i, i < 4 → F (3 + i) 0 = nI i) ∧ ∀ b, b < 8 → F 77 b = nI (cN F b false nn) ∧ F 78 b = nI (cN F b true nn)
def LI (X : List Nat) (F : tF) (G : tG) (P : tP) (nh : Nat → Nat) (nc no nn : Nat) (mt om : Nat → Nat) : Prop := RC X P nh nc no mt om ∧ RM X P ∧ RX_ X P nh nc no ∧ (vF F = rF F ∧ vG G = rG G) ∧ RS F G nh nc no nn mt om ∧ CX F nn
theorem cN_cg {F F1 : tF} (h1 : F1 129 = F 129) (h2 : F1 130 = F 130) (b : Nat) (z : Bool) : ∀ n, cN F1 b z n = cN F b z n
  | 0 => rfl
  | n + 1 => by simp only [cN, cN_cg h1 h2 b z n, h1, h2]
section LI
variable {X : List Nat} {F F1 F2 : tF} {G G1 G2 : tG} {P P1 : tP} {nh : Nat → Nat} {nc no nn : Nat} {mt om : Nat → Nat}
theorem LI.R (h : LI X F G P nh nc no nn mt om) : RC X P nh nc no mt om := h.1
theorem LI.M (h : LI X F G P nh nc no nn mt om) : RM X P := h.2.1
theorem LI.X_ (h : LI X F G P nh nc no nn mt om) : RX_ X P nh nc no := h.2.2.1
theorem LI.v (h : LI X F G P nh nc no nn mt om) : vF F = rF F := h.2.2.2.1.1
theorem LI.vg (h : LI X F G P nh nc no nn mt om) : vG G = rG G := h.2.2.2.1.2
theorem LI.S (h : LI X F G P nh nc no nn mt om) : RS F G nh nc no nn mt om := h.2.2.2.2.1
theorem LI.C (h : LI X F G P nh nc no nn mt om) : CX F nn := h.2.2.2.2.2
theorem LI.gi (h : LI X F G P nh nc no nn mt om) : GI (vF F) (vG G) nh nc mt := by rw [h.v, h.vg]; exact h.S.1.r
theorem LI.go (h : LI X F G P nh nc no nn mt om) : GO (vF F) no := by rw [h.v]; exact h.S.2.1
theorem LI.ck (h : LI X F G P nh nc no nn mt om) : CK F G nc := h.gi.ck
theorem LI.wh (h : LI X F G P nh nc no nn mt om) : WHok F := h.C.1
theorem vr_x (h : vF F = rF F) {k j a b : Nat} (hl : locF k j = some (a, b)) : F a b = F k j := by
  have h1 := vF_at hl F
  rw [h] at h1
  have h2 := (locF_inv hl).2.2
  rw [← h1, rF_k F h2]
theorem vrG_x (h : vG G = rG G) {k j a b : Nat} (hl : locG k j = some (a, b)) : G a b = G k j := by
  have h1 := vG_at hl G
  rw [h] at h1
  have h2 := (locG_inv hl).2.2
  rw [← h1, rG_k G h2]
theorem LI.n_c (h : LI X F G P nh nc no nn mt om) : F 0 10 = nI nc := (vr_x h.v lc_x13).trans h.S.2.2.1.1
theorem LI.n_o (h : LI X F G P nh nc no nn mt om) : F 0 11 = nI no := (vr_x h.v lc_x21).trans h.S.2.2.1.2.1
theorem LI.n_n (h : LI X F G P nh nc no nn mt om) : F 76 2 = nI nn := (vr_x h.v lc_x27).trans h.S.2.2.1.2.2.1
theorem LI.n_h (h : LI X F G P nh nc no nn mt om) : ∀ i, i < 4 → F (12 + i) 1 = nI (nh i) := fun i hi => (vr_x h.v (lc_plate hi)).trans (h.S.2.2.1.2.2.2 i hi)
theorem LI.nk (h : LI X F G P nh nc no nn mt om) : NK F nn := ⟨h.C.2.2, h.S.2.2.2.2.1, h.S.2.2.2.2.2.1, h.n_n⟩
theorem LI.q (h : LI X F G P nh nc no nn mt om) : QH F G nc no mt om (qV (vF F) (vG G) nc no mt om) := QH_ok h.gi h.go h.R.no6
theorem RS.co (h : RS F G nh nc no nn mt om) : CO F nc mt := by
  refine ⟨h.2.2.1.1, h.1.2.2.2.2.2.2.1, fun c hc => ?_⟩
  obtain ⟨s, x, ⟨s1, s2, es⟩, -⟩ := h.1.2.2.2.2.1 c hc
  exact ⟨h.2.2.2.1.1 c hc, h.1.2.2.2.2.2.2.2.2 c hc, by rw [es]; exact lsq_ne (by omega) (by omega)⟩
theorem RS.hn (h : RS F G nh nc no nn mt om) : HN F nh := fun i hi => ⟨h.2.2.1.2.2.2 i hi, h.1.2.2.2.2.2.2.2.1 i hi⟩
theorem RS.on (h : RS F G nh nc no nn mt om) : ON F no := ⟨h.2.2.1.2.1, h.2.2.2.2.2.2⟩
theorem RS.n_n (h : RS F G nh nc no nn mt om) : NN F nn := ⟨h.2.2.1.2.2.1, h.2.2.2.2.2.1⟩
/-- only cells from 100 on count -/
theorem RS.k (h : RS F G nh nc no nn mt om) (h1 : ∀ k, 100 ≤ k → F1 k = F k) (h2 : ∀ k, 100 ≤ k → G1 k = G k) : RS F1 G1 nh nc no nn mt om := by
  obtain ⟨a1, a2, ⟨a3, a4, a5, a6⟩, ⟨a7, a8⟩, a9, a10, a11⟩ := h
  have hg : GI F1 G1 nh nc mt := by
    obtain ⟨hM, hS, hP, hH, hC, hT, hN⟩ := a1.cg (F1 := F1) (fun k h3 _ => h1 k (by omega))
    have e := h2 118 (by decide)
    exact ⟨hM, hS, hP, hH, fun c hc => by rw [e]; exact hC c hc, by unfold GT; rw [e]; exact hT, hN⟩
  refine ⟨hg, fun o ho => ?_, ⟨by rw [h1 100 (by decide)]; exact a3, by rw [h1 100 (by decide)]; exact a4, by rw [h1 100 (by decide)]; exact a5, fun i hi => by rw [h1 110 (by decide)]; exact a6 i hi⟩, ⟨fun c hc => by rw [h1 115 (by decide)]; exact a7 c hc, fun o ho => by rw [h1 123 (by decide)]; exact a8 o ho⟩, fun k hk => by rw [h1 129 (by decide)]; exact a9 k hk, a10, a11⟩
  rw [h1 126 (by decide), h1 127 (by decide)]
  exact a2 o ho
theorem RM.ap (h : RM X P) (ha : AP nc P P1) : RM X P1 := by
  rcases ha with rfl | ⟨c, i, -, -, rfl⟩
  · exact h
  · refine ⟨h.1, fun j hj => ?_⟩
    rw [uP_o _ _ _ (by decide), uP_o _ _ _ (by decide)]
    exact h.2 j hj
theorem noref_80 {k c i : Nat} (h : noref X P k) (h1 : k ≠ 53 + c) (h2 : k ≠ 12 + i) : noref X (uP (uP P 80 4 (some (53 + c))) 80 5 (some (12 + i))) k := by
  intro z hz j e
  by_cases h3 : z = 80 ∧ j = 5
  · rw [h3.1, h3.2, uP_s] at e
    exact h2 (Option.some.inj e).symm
  · rw [uP_n _ _ (by omega)] at e
    by_cases h4 : z = 80 ∧ j = 4
    · rw [h4.1, h4.2, uP_s] at e
      exact h1 (Option.some.inj e).symm
    · rw [uP_n _ _ (by omega)] at e
      exact h z hz j e
theorem RX_.ap (h : RX_ X P nh nc no) (hn : nc ≤ 16) (ha : AP nc P P1) : RX_ X P1 nh nc no := by
  rcases ha with rfl | ⟨c, i, hc, hi, rfl⟩
  · exact h
  · obtain ⟨h1, h2, h3⟩ := h
    exact ⟨fun a b q1 q2 q3 => ⟨(h1 a b q1 q2 q3).1, noref_80 (h1 a b q1 q2 q3).2 (by omega) (by omega)⟩, fun a q1 q2 => ⟨(h2 a q1 q2).1, noref_80 (h2 a q1 q2).2 (by omega) (by omega)⟩, fun a q1 q2 => ⟨(h3 a q1 q2).1, noref_80 (h3 a q1 q2).2 (by omega) (by omega)⟩⟩
/-- what a call of the reference leaves of the class -/
def LO (F F1 : tF) : Prop := (∀ k, k < 100 → F1 k = F k) ∧ F1 129 = F 129 ∧ F1 130 = F 130
theorem LO.rf : LO F F := ⟨fun _ _ => rfl, rfl, rfl⟩
theorem LO.tr (h : LO F F1) (h2 : LO F1 F2) : LO F F2 := ⟨fun k hk => (h2.1 k hk).trans (h.1 k hk), h2.2.1.trans h.2.1, h2.2.2.trans h.2.2⟩
theorem LO.u (h : LO F F1) {k j : Nat} {v : Int32} (h1 : 100 ≤ k ∧ k ≠ 129 ∧ k ≠ 130) : LO F (uF F1 k j v) := ⟨fun z hz => (uF_o _ _ _ (by omega)).trans (h.1 z hz), (uF_o _ _ _ (by omega)).trans h.2.1, (uF_o _ _ _ (by omega)).trans h.2.2⟩
def LG (G G1 : tG) : Prop := ∀ k, k < 100 → G1 k = G k
theorem LG.rf : LG G G := fun _ _ => rfl
theorem LG.tr (h : LG G G1) (h2 : LG G1 G2) : LG G G2 := fun k hk => (h2 k hk).trans (h k hk)
theorem LG.u (h : LG G G1) {k j : Nat} {v : Int64} (h1 : 100 ≤ k) : LG G (uG G1 k j v) := fun z hz => (uG_o _ _ _ (by omega)).trans (h z hz)
theorem CX.mv (h : CX F nn) (hk : KW F F1) (hl : LO F1 F2) : CX F2 nn := by
  obtain ⟨⟨w1, w2, w3⟩, h2, h3⟩ := h
  obtain ⟨k1, k2, k3, k4, k5⟩ := hk
  refine ⟨⟨?_, ?_, ?_⟩, fun i hi => ?_, fun b hb => ?_⟩
  · rw [hl.1 8 (by decide)]; exact (k3 0 (by decide)).trans w1
  · rw [hl.1 9 (by decide)]; exact (k3 1 (by decide)).trans w2
  · rw [hl.1 10 (by decide)]; exact (k3 2 (by decide)).trans w3
  · rw [hl.1 (3 + i) (by omega)]; exact (k2 i hi).trans (h2 i hi)
  · rw [hl.1 77 (by decide), hl.1 78 (by decide), k4, k5, cN_cg (F := F) (F1 := F2) (hl.2.1.trans (k1 129 (by decide))) (hl.2.2.trans (k1 130 (by decide))), cN_cg (F := F) (F1 := F2) (hl.2.1.trans (k1 129 (by decide))) (hl.2.2.trans (k1 130 (by decide)))]
    exact h3 b hb
/-- class and reference have each done a call -/
theorem LI.view (h : LI X F G P nh nc no nn mt om) (hk : KW F F1) (hl : LO F1 F2) (hlg : LG G1 G2) (hv : vF F1 = rF F2) (hvg : vG G1 = rG G2) (hS : RS F2 G2 nh nc no nn mt om) (ha : AP nc P P1) : LI X F2 G2 P1 nh nc no nn mt om :=
  ⟨h.R.ap ha, h.M.ap ha, h.X_.ap h.R.nc16 ha, ⟨Rel_of hl.1 hv, RelG_of hlg hvg⟩, hS, h.C.mv hk hl⟩
/-- cells that only a search uses -/
def SCR (F F2 : tF) : Prop := (∀ k, k ≠ 100 → k < 137 → F2 k = F k) ∧ ∀ j, j ≠ 40 → j ≠ 46 → j ≠ 47 → F2 100 j = F 100 j
theorem AGw.s (h : AGw F F2) : SCR F F2 := ⟨fun k h1 h2 => h.1 k h1 (by omega) (by omega) (by omega) (by omega) (by omega), fun j h1 _ _ => h.2 j h1⟩
theorem AGf.s (h : AGf F F2) : SCR F F2 := ⟨fun k h1 h2 => h.1 k h1 (by omega) (by omega) (by omega) (by omega), fun j _ h1 h2 => h.2 j h1 h2⟩
theorem locF_s {k j a b : Nat} (h : locF k j = some (a, b)) : k < 137 ∧ (k = 100 → j ≠ 40 ∧ j ≠ 46 ∧ j ≠ 47) := by
  unfold locF at h
  repeat' split at h
  all_goals first | (cases h; done) | skip
  all_goals
    refine ⟨by omega, fun _ => ?_⟩
    omega
theorem LI.sc (h : LI X F G P nh nc no nn mt om) (hs : SCR F F2) : LI X F2 G P nh nc no nn mt om := by
  have hv := h.v
  have hv2 : vF F2 = rF F2 := by
    funext k j
    cases hl : locF k j with
    | none => simp only [vF, rF, hl]
    | some p =>
      obtain ⟨a, b⟩ := p
      have h1 := locF_inv hl
      have h2 := locF_s hl
      rw [vF_at hl, hs.1 a (by omega) (by omega), vr_x hv hl, rF_k F2 h1.2.2]
      by_cases e : k = 100
      · subst e
        exact (hs.2 j (h2.2 rfl).1 (h2.2 rfl).2.1 (h2.2 rfl).2.2).symm
      · rw [hs.1 k e h2.1]
  obtain ⟨a1, a2, ⟨a3, a4, a5, a6⟩, ⟨a7, a8⟩, a9, a10, a11⟩ := h.S
  have hg : GI F2 G nh nc mt := a1.cg (fun k h3 h4 => hs.1 k (by omega) (by omega))
  refine ⟨h.R, h.M, h.X_, ⟨hv2, h.vg⟩, ⟨hg, fun o ho => ?_, ⟨(hs.2 13 (by decide) (by decide) (by decide)).trans a3, (hs.2 21 (by decide) (by decide) (by decide)).trans a4, (hs.2 27 (by decide) (by decide) (by decide)).trans a5, fun i hi => by rw [hs.1 110 (by decide) (by decide)]; exact a6 i hi⟩, ⟨fun c hc => by rw [hs.1 115 (by decide) (by decide)]; exact a7 c hc, fun o ho => by rw [hs.1 123 (by decide) (by decide)]; exact a8 o ho⟩, fun k hk => by rw [hs.1 129 (by decide) (by decide)]; exact a9 k hk, a10, a11⟩, ?_⟩
  · rw [hs.1 126 (by decide) (by decide), hs.1 127 (by decide) (by decide)]
    exact a2 o ho
  · obtain ⟨⟨w1, w2, w3⟩, h2, h3⟩ := h.C
    refine ⟨⟨by rw [hs.1 8 (by decide) (by decide)]; exact w1, by rw [hs.1 9 (by decide) (by decide)]; exact w2, by rw [hs.1 10 (by decide) (by decide)]; exact w3⟩, fun i hi => by rw [hs.1 (3 + i) (by omega) (by omega)]; exact h2 i hi, fun b hb => ?_⟩
    rw [hs.1 77 (by decide) (by decide), hs.1 78 (by decide) (by decide), cN_cg (hs.1 129 (by decide) (by decide)) (hs.1 130 (by decide) (by decide)), cN_cg (hs.1 129 (by decide) (by decide)) (hs.1 130 (by decide) (by decide))]
    exact h3 b hb
theorem LI.sg (h : LI X F G P nh nc no nn mt om) (hs : ∀ z, z ≠ 149 → G2 z = G z) : LI X F G2 P nh nc no nn mt om := by
  have hv2 : vG G2 = rG G2 := by
    funext k j
    cases hl : locG k j with
    | none => simp only [vG, rG, hl]
    | some p =>
      obtain ⟨a, b⟩ := p
      have h1 := locG_inv hl
      have h2 : k ≠ 149 := by
        intro e
        subst e
        simp [locG] at hl
      rw [vG_at hl, hs a (by omega), vrG_x h.vg hl, rG_k G2 h1.2.2, hs k h2]
  obtain ⟨a1, a2⟩ := h.S
  obtain ⟨hM, hS, hP, hH, hC, hT, hN⟩ := a1
  have e := hs 118 (by decide)
  exact ⟨h.R, h.M, h.X_, ⟨h.v, hv2⟩, ⟨⟨hM, hS, hP, hH, fun c hc => by rw [e]; exact hC c hc, by unfold GT; rw [e]; exact hT, hN⟩, a2⟩, h.C⟩
end LI
