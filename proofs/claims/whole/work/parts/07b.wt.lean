/-! what the numbers give: no division by 0, no overflow, draws and ways alike -/
theorem lsq_ne {s : Nat} (h0 : 0 < s) (h1 : s ≤ 3000000) : ¬ (nI s).toInt64 * (nI s).toInt64 = 0 := by
  have h2 : s * s ≤ 3000000 * 3000000 := sq_le h1
  have h3 := sq_pos h0
  rw [nI_l (by omega), lN_mul, show (0 : Int64) = lN 0 from rfl, pk_lEQ (by omega) (by decide)]
  omega
theorem ft_ok {g s : Nat} (h0 : 0 < s) (h1 : s ≤ 3000000) (hg : g < 2 ^ 63) : w_ft (lN g) (nI s) = nI (g / (s * s)) := by
  have h2 : s * s ≤ 3000000 * 3000000 := sq_le h1
  have h3 := sq_pos h0
  unfold w_ft
  rw [nI_l (by omega), lN_mul, pk_lDiv hg (by omega) (by omega), lN_i]
theorem feet_b {g s : Nat} (h0 : 20 ≤ s) (hg : g ≤ 16000000000) : g / (s * s) ≤ 40000000 := by
  have h2 : 20 * 20 ≤ s * s := sq_le h0
  exact Nat.le_trans (Nat.div_le_div_left h2 (by decide)) (by omega)
theorem GI.ck {F : tF} {G : tG} {nh : Nat → Nat} {nc : Nat} {mt : Nat → Nat} (h : GI (vF F) (vG G) nh nc mt) : CK F G nc := by
  intro c hc
  obtain ⟨-, -, -, -, hC, hT, hN⟩ := h
  have h16 := hN.1
  have hb := hT.b h16 hc
  obtain ⟨s, x, ⟨h1, h2, e1⟩, -, ⟨e3, h3⟩, -⟩ := hC c hc
  rw [vF_at (lc_c1 (by omega))] at e1
  rw [vG_at (lc_c3 (by omega))] at e3 h3 hb
  rw [e1]
  refine ⟨lsq_ne (by omega) (by omega), ?_⟩
  generalize tn (G (53 + c) 3) = g at e3 h3 hb
  rw [e3, ft_ok (by omega) (by omega) (by omega), show (0 : Int64) = lN 0 from rfl, pk_lLT (by decide) (by omega)]
  have hf := feet_b h1 hb
  rw [show (0 : Int32) = nI 0 from rfl, nI_eq (by omega) (by decide)]
  have h4 := sq_pos (show 0 < s by omega)
  rcases h3 with h3 | h3
  · rw [h3, Nat.zero_div]
    omega
  · have : 1 ≤ g / (s * s) := (Nat.le_div_iff_mul_le h4).mpr (by omega)
    omega
theorem GI.rf {F : tF} {G : tG} {nh : Nat → Nat} {nc : Nat} {mt : Nat → Nat} (h : GI (vF F) (vG G) nh nc mt) : RFok F nc nh mt := by
  intro c i j u hc hi hj hu
  obtain ⟨hM, hS, hP, hH, hC, hT, hN⟩ := h
  have h16 := hN.1
  obtain ⟨s, x, ⟨h1, h2, e1⟩, ⟨h3, e2⟩, -⟩ := hC c hc
  rw [vF_at (lc_c1 (by omega))] at e1
  rw [vF_at (lc_c2 (by omega))] at e2
  rw [e1, e2]
  exact rf_ag hM hS hP hH (hN.2.2 c hc) h2 h3 hi hj hu
theorem dft_ok {V : tF} {G : tG} {nh : Nat → Nat} {nc : Nat} {mt : Nat → Nat} (h : GI V G nh nc mt) {c i j : Nat} (hc : c < nc) (hi : i < 4) (hj : j < nh i) : ∃ f : Nat, f ≤ 40000000 ∧ d_feet V G c (8 * i + j) = nI f := by
  obtain ⟨hM, hS, hP, hH, hC, hT, hN⟩ := h
  have hb := hT.b hN.1 hc
  obtain ⟨n, w, h1, h2, h3, e1, e2, e3⟩ := wide_ok hH hi hj
  obtain ⟨s, x, -, -, ⟨e4, -⟩, -⟩ := hC c hc
  unfold d_feet
  rw [e3, e4, ft_ok (by omega) (by omega) (by omega)]
  exact ⟨_, feet_b (by omega) hb, rfl⟩
theorem GI.mn {F : tF} {G : tG} {nh : Nat → Nat} {nc : Nat} {mt : Nat → Nat} (h : GI (vF F) (vG G) nh nc mt) : MNok F G nc nh := by
  intro c i j u hc hi hj hu
  obtain ⟨f, hf, ef⟩ := dft_ok h hc hi hj
  obtain ⟨-, ⟨sp, h1, h2, e2⟩⟩ := h.2.2.1 u hu
  rw [vF_at (lc_p2 hu)] at e2
  rw [ef, e2, nI_l (by omega), nI_l (by omega), lN_add, show (1 : Int64) = lN 1 from rfl, lN_sub (by omega), w_quo, if_neg (by rw [show (0 : Int64) = lN 0 from rfl, pk_lEQ (by omega) (by decide)]; omega), pk_lDiv (by omega) (by omega) (by omega), lN_i, nI_add, show (1 : Int32) = nI 1 from rfl, pk_sub (by omega), pk_div (by omega) (by omega) (by omega)]
theorem GI.hz {V : tF} {G : tG} {nh : Nat → Nat} {nc : Nat} {mt : Nat → Nat} (h : GI V G nh nc mt) : HZ V nh := by
  obtain ⟨hM, hS, hP, hH, hC, hT, hN⟩ := h
  refine ⟨fun i j hi hj => ?_, fun i hi => ?_⟩
  · obtain ⟨n, w, h1, h2, h3, e1, e2, e3⟩ := wide_ok hH hi hj
    rw [e3]
    exact lsq_ne (by omega) (by omega)
  · obtain ⟨-, ⟨sp, h1, h2, e2⟩⟩ := hP i hi
    rw [e2]
    exact nI_ne0 (by omega) (by omega)
/-- the size at a place -/
theorem sz_ok {V : tF} {G : tG} {nh : Nat → Nat} {nc : Nat} {mt : Nat → Nat} (h : GI V G nh nc mt) {c i pl : Nat} (hc : c < nc) (hi : i < 4) (hp : pl ≤ nh i) : ∃ S : Nat, 20 ≤ S ∧ S ≤ 3000000 ∧ szP V nh c i pl = nI S := by
  obtain ⟨hM, hS, hP, hH, hC, hT, hN⟩ := h
  cases pl with
  | zero =>
    obtain ⟨s, x, ⟨h1, h2, e1⟩, -⟩ := hC c hc
    exact ⟨s, h1, by omega, by rw [szP_0, e1]⟩
  | succ k =>
    obtain ⟨n, w, h1, h2, h3, e1, e2, e3⟩ := wide_ok hH hi (show k < nh i from hp)
    exact ⟨n + w / 1000, by omega, by omega, by rw [szP_s hp, e3]⟩
def wtV (V : tF) (nh mt : Nat → Nat) (c i u : Nat) (lo hi : Int32) : wT := (fun pl h n => decide (n < nh i ∧ w_ag V (mt c) (V 119 c) (szP V nh c i pl) (nI h) (8 * i + n) u = 1), fun pl h n => (w_hard V (mt c) (szP V nh c i pl) (nI h) (w_wide V (8 * i + n))).toNatClampNeg, fun pl => decide (lo ≤ szP V nh c i pl ∧ szP V nh c i pl ≤ hi))
/-- how many holes are less wide -/
def cntW (V : tF) (i : Nat) (s : Int32) : Nat → Nat
  | 0 => 0
  | k + 1 => cntW V i s k + (if w_wide V (8 * i + k) < s then 1 else 0)
theorem cntW_le (V : tF) (i : Nat) (s : Int32) : ∀ n, cntW V i s n ≤ n
  | 0 => Nat.le_refl 0
  | n + 1 => by
    have := cntW_le V i s n
    simp only [cntW]
    split <;> omega
theorem i_trans {a b c : Int32} (h1 : a < b) (h2 : b < c) : a < c := by
  rw [Int32.lt_iff_toInt_lt] at h1 h2 ⊢
  omega
theorem cntW_lt {V : tF} {i : Nat} {s : Int32} {k : Nat} (hk : w_wide V (8 * i + k) < s) : ∀ n, cntW V i (w_wide V (8 * i + k)) n + (if k < n then 1 else 0) ≤ cntW V i s n
  | 0 => by simp [cntW]
  | n + 1 => by
    have ih := cntW_lt hk n
    simp only [cntW]
    by_cases e : k = n
    · subst e
      have h1 : ¬ w_wide V (8 * i + k) < w_wide V (8 * i + k) := Int32.lt_irrefl
      simp only [h1, hk, if_true, if_false, Nat.lt_irrefl, Nat.lt_succ_self] at ih ⊢
      omega
    · by_cases h1 : w_wide V (8 * i + n) < w_wide V (8 * i + k)
      · have h2 := i_trans h1 hk
        simp only [h1, h2, if_true]
        by_cases h3 : k < n
        · simp only [h3, if_true, show k < n + 1 by omega] at ih ⊢; omega
        · simp only [h3, if_false, show ¬ k < n + 1 by omega] at ih ⊢; omega
      · simp only [h1, if_false]
        by_cases h3 : k < n
        · simp only [h3, if_true, show k < n + 1 by omega] at ih ⊢; omega
        · simp only [h3, if_false, show ¬ k < n + 1 by omega] at ih ⊢; omega
def rkV (V : tF) (nh : Nat → Nat) (c i pl h : Nat) : Nat := 2 * cntW V i (szP V nh c i pl) (nh i) + (if 0 < h then 1 else 0)
theorem wt_y {V : tF} {G : tG} {nh : Nat → Nat} {nc : Nat} {mt : Nat → Nat} (h : GI V G nh nc mt) {c i u : Nat} {lo hi : Int32} (hc : c < nc) (hi4 : i < 4) {pl x n : Nat} (hp : pl ≤ nh i) (hx : x ≤ 100) (hw : (wtV V nh mt c i u lo hi).1 pl x n = true) : n < nh i ∧ w_ag V (mt c) (V 119 c) (szP V nh c i pl) (nI x) (8 * i + n) u = 1 ∧ w_wide V (8 * i + n) < szP V nh c i pl ∧ (wtV V nh mt c i u lo hi).2.1 pl x n ≤ 100 ∧ w_hard V (mt c) (szP V nh c i pl) (nI x) (w_wide V (8 * i + n)) = nI ((wtV V nh mt c i u lo hi).2.1 pl x n) := by
  obtain ⟨h1, h2⟩ := of_decide_eq_true hw
  have h3 := w_ag_w h2
  refine ⟨h1, h2, h3, ?_⟩
  obtain ⟨S, hS1, hS2, eS⟩ := sz_ok h hc hi4 hp
  obtain ⟨hM, hS, hP, hH, hC, hT, hN⟩ := h
  obtain ⟨n1, w1, a1, a2, a3, e1, e2, e3⟩ := wide_ok hH hi4 h1
  obtain ⟨-, ⟨gn, -, hg, eg⟩, ⟨L, l1, l2, eL⟩, -⟩ := hM (mt c) (hN.2.2 c hc)
  show (w_hard V (mt c) (szP V nh c i pl) (nI x) (w_wide V (8 * i + n))).toNatClampNeg ≤ 100 ∧ w_hard V (mt c) (szP V nh c i pl) (nI x) (w_wide V (8 * i + n)) = nI (w_hard V (mt c) (szP V nh c i pl) (nI x) (w_wide V (8 * i + n))).toNatClampNeg
  rw [eS, e3] at h3 ⊢
  rw [eS] at h2
  have hlt : n1 + w1 / 1000 < S := (nI_ltI (by omega) (by omega)).mp h3
  obtain ⟨eh, hh⟩ := hd_ok (V := V) (m := mt c) (h := x) eg hg hS2 hlt
  rw [eh, nI_clamp (by omega)]
  refine ⟨?_, rfl⟩
  have h5 : ¬ V 103 (mt c) < w_hard V (mt c) (nI S) (nI x) (w_wide V (8 * i + n)) := by
    intro q
    unfold w_ag at h2
    rw [if_pos q] at h2
    split at h2
    · exact absurd h2 (by decide)
    · exact absurd h2 (by decide)
  rw [e3, eh, eL] at h5
  rcases Nat.lt_or_ge L (hdN gn S x (n1 + w1 / 1000)) with q | q
  · exact absurd (nI_lt q (by omega)) h5
  · omega
theorem wt_S {V : tF} {G : tG} {nh : Nat → Nat} {nc : Nat} {mt : Nat → Nat} (h : GI V G nh nc mt) {c i u : Nat} {lo hi : Int32} (hc : c < nc) (hi4 : i < 4) : WS (wtV V nh mt c i u lo hi) (rkV V nh c i) (nh i) := by
  have h8 := h.2.2.2.2.2.2.2.1 i hi4
  refine ⟨h8, fun pl x n hp hx hw => ?_, fun pl x hp hx h0 => ?_, fun pl x => ?_⟩
  · obtain ⟨a1, a2, a3, a4, a5⟩ := wt_y h hc hi4 hp hx hw
    refine ⟨a1, a4, ?_⟩
    have := cntW_lt (i := i) a3 (nh i)
    rw [if_pos a1] at this
    unfold rkV
    rw [szP_s a1]
    split <;> split <;> omega
  · unfold rkV
    rw [if_pos h0, if_neg (Nat.lt_irrefl 0)]
    omega
  · have := cntW_le V i (szP V nh c i pl) (nh i)
    unfold rkV
    split <;> omega
theorem wt_A {V : tF} {G : tG} {nh : Nat → Nat} {nc : Nat} {mt : Nat → Nat} (h : GI V G nh nc mt) {c i u : Nat} {lo hi : Int32} (hc : c < nc) (hi4 : i < 4) : LKA V nh c i u (mt c) lo hi (wtV V nh mt c i u lo hi) := by
  intro pl hp
  refine ⟨fun x k hx hk => ⟨⟨fun q => decide_eq_true ⟨hk, q⟩, fun q => (of_decide_eq_true q).2⟩, fun q => (wt_y h hc hi4 hp hx q).2.2.2.2⟩, ?_, ⟨fun q => of_decide_eq_true q, fun q => decide_eq_true q⟩⟩
  obtain ⟨S, hS1, hS2, eS⟩ := sz_ok h hc hi4 hp
  rw [eS]
  exact lsq_ne (by omega) hS2
theorem wt_V {V : tF} {G : tG} {nh : Nat → Nat} {nc : Nat} {mt : Nat → Nat} (h : GI V G nh nc mt) {c i u : Nat} {lo hi : Int32} (hc : c < nc) (hi4 : i < 4) (hu : u < 3) : WLV V (V 119 c) (w_pull V u).toInt32 lo hi nh mt c i (wtV V nh mt c i u lo hi) (fun pl => szP V nh c i pl ≤ 1000) := by
  refine ⟨fun pl x n hp hx hn8 hg => ?_, fun pl hp => ?_, fun pl hp => ⟨fun q => of_decide_eq_true q, fun q => decide_eq_true q⟩, fun pl x n hp hx hg hw => ?_⟩
  · by_cases hw : (wtV V nh mt c i u lo hi).1 pl x n = true
    · obtain ⟨a1, a2, a3, a4, a5⟩ := wt_y h hc hi4 hp hx hw
      rw [if_pos hw, ← a5]
      obtain ⟨S, hS1, hS2, eS⟩ := sz_ok h hc hi4 hp
      have hS3 : S ≤ 1000 := (nI_leI (by omega) (by decide)).mp (by rw [← eS]; exact hg)
      obtain ⟨hM, hS, hP, hH, hC, hT, hN⟩ := h
      have hz : w_rf V (mt c) (V 119 c) (szP V nh c i pl) (nI x) (8 * i + n) (w_pull V u).toInt32 = 0 := by
        rw [eS] at a2 ⊢
        rw [rf_ag hM hS hP hH (hN.2.2 c hc) hS3 hx hi4 a1 hu, if_pos a2]
      rw [if_pos ⟨a1, hz⟩]
    · rw [if_neg hw, if_neg]
      rintro ⟨b1, b2⟩
      apply hw
      refine decide_eq_true ⟨b1, ?_⟩
      obtain ⟨S, hS1, hS2, eS⟩ := sz_ok h hc hi4 hp
      have hS3 : S ≤ 1000 := (nI_leI (by omega) (by decide)).mp (by rw [← eS]; exact hg)
      obtain ⟨hM, hS, hP, hH, hC, hT, hN⟩ := h
      rw [eS] at b2 ⊢
      rw [rf_ag hM hS hP hH (hN.2.2 c hc) hS3 hx hi4 b1 hu] at b2
      apply Classical.byContradiction
      intro q
      rw [if_neg q] at b2
      have := w_ag_neg q
      rw [b2] at this
      exact absurd this (by decide)
  · obtain ⟨S, hS1, hS2, eS⟩ := sz_ok h hc hi4 hp
    rw [eS]
    exact lsq_ne (by omega) hS2
  · obtain ⟨a1, a2, a3, a4, a5⟩ := wt_y h hc hi4 hp hx hw
    show szP V nh c i (n + 1) ≤ 1000
    rw [szP_s a1]
    have hg : szP V nh c i pl ≤ 1000 := hg
    rw [Int32.lt_iff_toInt_lt] at a3
    rw [Int32.le_iff_toInt_le] at hg ⊢
    omega
