/-! THE LAW: cuttings -/
def qV (V : tF) (G : tG) (nc no : Nat) (mt om : Nat → Nat) : CP := (fun o => if o < no then (V 126 o).toNatClampNeg else 0, fun c => if c < nc then (w_feet V G c).toNatClampNeg else 0, fun c o => decide (c < nc ∧ 0 < G 118 c ∧ o < no ∧ V 127 o = 0 ∧ mt c = om o ∧ V 124 o ≤ V 116 c ∧ V 116 c ≤ V 125 o))
section QV
variable {V F : tF} {G : tG} {nh : Nat → Nat} {nc no nn : Nat} {mt om : Nat → Nat}
theorem qV_fe (hO : GO V no) {o : Nat} (ho : o < no) : V 126 o = nI ((qV V G nc no mt om).1 o) ∧ 1 ≤ (qV V G nc no mt om).1 o ∧ (qV V G nc no mt om).1 o ≤ 10000 := by
  obtain ⟨⟨n, h1, h2, e⟩, -⟩ := hO o ho
  have : (qV V G nc no mt om).1 o = n := by
    show (if o < no then (V 126 o).toNatClampNeg else 0) = n
    rw [if_pos ho, e, nI_clamp (by omega)]
  rw [this]
  exact ⟨e, h1, h2⟩
theorem qV_fe0 {o : Nat} (ho : no ≤ o) : (qV V G nc no mt om).1 o = 0 := if_neg (by omega)
/-- a coil's numbers -/
theorem qV_ft (h : GI V G nh nc mt) {c : Nat} (hc : c < nc) : ∃ s g : Nat, 20 ≤ s ∧ s ≤ 1000 ∧ V 116 c = nI s ∧ G 118 c = lN g ∧ g ≤ 16000000000 ∧ (g = 0 ∨ s * s ≤ g) ∧ w_feet V G c = nI (g / (s * s)) ∧ (qV V G nc no mt om).2.1 c = g / (s * s) ∧ g / (s * s) ≤ 40000000 ∧ tn (G 118 c) = g := by
  obtain ⟨hM, hS, hP, hH, hC, hT, hN⟩ := h
  have hb := hT.b hN.1 hc
  obtain ⟨s, x, ⟨s1, s2, es⟩, -, ⟨eg, hg⟩, -⟩ := hC c hc
  have hfb := feet_b s1 hb
  have ef : w_feet V G c = nI (tn (G 118 c) / (s * s)) := by
    rw [w_feet_e, es]
    have : w_ft (G 118 c) (nI s) = w_ft (lN (tn (G 118 c))) (nI s) := by rw [← eg]
    rw [this, ft_ok (by omega) (by omega) (by omega)]
  refine ⟨s, tn (G 118 c), s1, s2, es, eg, hb, hg, ef, ?_, hfb, rfl⟩
  show (if c < nc then (w_feet V G c).toNatClampNeg else 0) = _
  rw [if_pos hc, ef, nI_clamp (by omega)]
theorem qV_ft0 {c : Nat} (hc : nc ≤ c) : (qV V G nc no mt om).2.1 c = 0 := if_neg (by omega)
theorem lN_pos {g : Nat} (h : g < 2 ^ 63) : (0 : Int64) < lN g ↔ 0 < g := by
  rw [show (0 : Int64) = lN 0 from rfl, pk_lLT (by decide) h]
theorem sq_div {g s : Nat} (hs : 0 < s) (hg : g = 0 ∨ s * s ≤ g) : 0 < g ↔ ¬ g / (s * s) = 0 := by
  have hp := sq_pos hs
  rcases hg with h | h
  · rw [h, Nat.zero_div]; omega
  · have : 1 ≤ g / (s * s) := (Nat.le_div_iff_mul_le hp).mpr (by omega)
    omega
theorem qV_fs (hO : GO V no) (hno : no ≤ 6) (t : Nat) : fsS (qV V G nc no mt om) t < 2 ^ 31 := by
  have h : fsS (qV V G nc no mt om) t ≤ sumN (fun _ => 10000) 6 := sumN_le 6 (fun j _ => by
    show (if t.testBit j = true then (qV V G nc no mt om).1 j else 0) ≤ 10000
    by_cases hj : j < no
    · have := (qV_fe (G := G) (nc := nc) (mt := mt) (om := om) hO hj).2.2
      split <;> omega
    · rw [qV_fe0 (by omega)]
      split <;> omega)
  have e : sumN (fun _ => 10000) 6 = 60000 := rfl
  omega
theorem QH_ok {F : tF} {G : tG} (h : GI (vF F) (vG G) nh nc mt) (hO : GO (vF F) no) (hno : no ≤ 6) : QH F G nc no mt om (qV (vF F) (vG G) nc no mt om) := by
  have h16 := h.2.2.2.2.2.2.1
  have hw : ∀ c, c < nc → w_ft (G (53 + c) 3) (F (53 + c) 1) = w_feet (vF F) (vG G) c := fun c hc => by
    rw [w_feet_e, vF_at (lc_c1 (c := c) (by omega)), vG_at (lc_c3 (c := c) (by omega))]
  refine ⟨fun o ho => ?_, fun o ho _ => qV_fe0 ho, fun c hc => ?_, fun c hc hz o ho => ?_, fun c hc hz o ho h9 => ?_, fun c hc o ho h9 => absurd (of_decide_eq_true h9).1 (by omega), fun t _ => qV_fs hO hno t⟩
  · rw [← vF_at (lc_o3 (o := o) (by omega)) F]
    exact (qV_fe hO ho).1
  · obtain ⟨s, g, -, -, -, -, -, -, ef, eq, hb, -⟩ := qV_ft (no := no) (om := om) h hc
    rw [hw c hc, ef, eq]
    exact ⟨rfl, by omega⟩
  · obtain ⟨s, g, s1, s2, es, eg, hb, hg, ef, eq, hfb, -⟩ := qV_ft (no := no) (om := om) h hc
    rw [hw c hc, ef] at hz
    have hz2 : ¬ g / (s * s) = 0 := fun q => hz (by rw [q]; rfl)
    have hpos : 0 < vG G 118 c := by rw [eg, lN_pos (by omega)]; exact (sq_div (by omega) hg).mpr hz2
    rw [eq]
    constructor
    · intro q
      obtain ⟨q1, q2, q3, ⟨q4, q5⟩, q6⟩ := of_decide_eq_true q
      refine ⟨decide_eq_true ⟨hc, hpos, q1, ?_, q3, ?_, ?_⟩, ?_⟩
      · rw [vF_at (lc_o4 (o := o) ho)]; exact q2
      · rw [vF_at (lc_o1 (o := o) ho), vF_at (lc_c1 (c := c) (by omega))]; exact q4
      · rw [vF_at (lc_o2 (o := o) ho), vF_at (lc_c1 (c := c) (by omega))]; exact q5
      · have e1 := qV_fe (G := vG G) (nc := nc) (mt := mt) (om := om) hO q1
        rw [hw c hc, ef, ← vF_at (lc_o3 (o := o) ho) F, e1.1] at q6
        exact (nI_leI (by omega) (by omega)).mp q6
    · rintro ⟨q, q6⟩
      obtain ⟨-, -, q1, q2, q3, q4, q5⟩ := of_decide_eq_true q
      refine decide_eq_true ⟨q1, ?_, q3, ⟨?_, ?_⟩, ?_⟩
      · rw [← vF_at (lc_o4 (o := o) ho) F]; exact q2
      · rw [← vF_at (lc_o1 (o := o) ho) F, ← vF_at (lc_c1 (c := c) (by omega)) F]; exact q4
      · rw [← vF_at (lc_o2 (o := o) ho) F, ← vF_at (lc_c1 (c := c) (by omega)) F]; exact q5
      · have e1 := qV_fe (G := vG G) (nc := nc) (mt := mt) (om := om) hO q1
        rw [hw c hc, ef, ← vF_at (lc_o3 (o := o) ho) F, e1.1]
        exact nI_le q6 (by omega)
  · obtain ⟨s, g, s1, s2, es, eg, hb, hg, ef, eq, hfb, -⟩ := qV_ft (no := no) (om := om) h hc
    rw [hw c hc, ef] at hz
    have hz2 : g / (s * s) = 0 := (nI_eq (b := 0) (by omega) (by decide)).mp hz
    have := (of_decide_eq_true h9).2.1
    rw [eg, lN_pos (by omega)] at this
    exact (sq_div (by omega) hg).mp this hz2
theorem QR_ok (h : RS F G nh nc no nn mt om) (hom : ∀ o, o < no → om o < 4) : QR F G nc no (qV F G nc no mt om) := by
  obtain ⟨hG, hO, hcn, ⟨h115, h123⟩, -, -, hno⟩ := h
  have h16 := hG.2.2.2.2.2.2.1
  refine ⟨fun o ho => ⟨(qV_fe hO ho).1, (qV_fe hO ho).2.2⟩, fun c hc _ => ?_, fun c _ => ?_, fun c hc h9 => ?_, fun o c ho hc => ?_, fun o c ho _ h9 => absurd (of_decide_eq_true h9).2.2.1 (by omega)⟩
  · obtain ⟨s, g, -, -, -, -, -, -, ef, eq, -⟩ := qV_ft (no := no) (om := om) hG hc
    rw [ef, eq]
  · by_cases hc : c < nc
    · obtain ⟨s, g, -, -, -, -, -, -, ef, eq, hb, -⟩ := qV_ft (no := no) (om := om) hG hc
      rw [eq]; exact hb
    · rw [qV_ft0 (by omega)]; omega
  · by_cases hcn : c < nc
    · obtain ⟨s, g, s1, s2, es, eg, hb, hg, ef, eq, hfb, -⟩ := qV_ft (no := no) (om := om) hG hcn
      have : ¬ 0 < g := fun q => h9 ⟨hcn, by rw [eg, lN_pos (by omega)]; exact q⟩
      rw [eq, show g = 0 by omega, Nat.zero_div]
    · exact qV_ft0 (by omega)
  · constructor
    · intro q
      obtain ⟨q0, q1, q2, q3, q4, q5, q6⟩ := of_decide_eq_true q
      refine ⟨ok_coil_i.mpr ⟨⟨nI_pos' (by omega), nI_lt q0 (by omega)⟩, by rw [i4_cl (by omega)]; exact q1⟩, q3, by rw [h115 c q0, h123 o q2, q4], q5, q6⟩
    · rintro ⟨q1, q3, q4, q5, q6⟩
      obtain ⟨i, hi, e, hp⟩ := ok_coil_n h16 q1
      have : c = i := (nI_eq (by omega) (by omega)).mp e
      subst this
      refine decide_eq_true ⟨hi, hp, ho, q3, ?_, q5, q6⟩
      rw [h115 c hi, h123 o ho] at q4
      have hm4 := hG.2.2.2.2.2.2.2.2 c hi
      have ho4 := hom o ho
      exact (nI_eq (by omega) (by omega)).mp q4
/-- a cutting's coils are there -/
theorem Vd_there {a : Nat → Nat} (ha : Vd (qV V G nc no mt om) a) {o : Nat} (ho : o < 6) (h16 : a o < 16) : a o < nc ∧ o < no ∧ V 127 o = 0 := by
  obtain ⟨q0, q1, q2, q3, q4⟩ := of_decide_eq_true ((ha.1 o ho).2 h16)
  exact ⟨q0, q2, q3⟩
/-- stuff as orders are cut -/
theorem cW_118 (h : GI V G nh nc mt) (hO : GO V no) {a : Nat → Nat} (ha : Vd (qV V G nc no mt om) a) {c s g : Nat} (hc : c < nc) (s1 : 20 ≤ s) (s2 : s ≤ 1000) (es : V 116 c = nI s) (eg : G 118 c = lN g) (hg : g ≤ 16000000000) (eq : (qV V G nc no mt om).2.1 c = g / (s * s)) : ∀ n, n ≤ 6 → s * s * cf (qV V G nc no mt om).1 a c n ≤ g ∧ (cW V G a n).2.1 118 c = lN (g - s * s * cf (qV V G nc no mt om).1 a c n)
  | 0, _ => by
    have e : cf (qV V G nc no mt om).1 a c 0 = 0 := rfl
    rw [e, Nat.mul_zero, Nat.sub_zero]
    exact ⟨Nat.zero_le _, eg⟩
  | n + 1, hn => by
    have h16 := h.2.2.2.2.2.2.1
    obtain ⟨i1, i2⟩ := cW_118 h hO ha hc s1 s2 es eg hg eq n (by omega)
    have hsp := sq_pos (show 0 < s by omega)
    have hsq : s * s ≤ 1000 * 1000 := sq_le s2
    have hcf6 := ha.2 c (by omega)
    rw [eq] at hcf6
    have hmono := cf_mono (fe := (qV V G nc no mt om).1) (b := a) (p := a) (c := c) (k := n + 1) (fun _ _ => rfl) hn
    have hle : s * s * cf (qV V G nc no mt om).1 a c (n + 1) ≤ g := by
      have h1 : s * s * cf (qV V G nc no mt om).1 a c (n + 1) ≤ s * s * (g / (s * s)) := Nat.mul_le_mul_left _ (by omega)
      have h2 := Nat.mul_div_le g (s * s)
      omega
    refine ⟨hle, ?_⟩
    have hstep : cf (qV V G nc no mt om).1 a c (n + 1) = cf (qV V G nc no mt om).1 a c n + (if a n = c then (qV V G nc no mt om).1 n else 0) := rfl
    by_cases ha16 : a n < 16
    · rw [cW_y ha16]
      show uG (uG (cW V G a n).2.1 118 (a n) ((cW V G a n).2.1 118 (a n) - cgo V (a n) n)) 100 31 ((cW V G a n).2.1 100 31 + cgo V (a n) n) 118 c = _
      rw [uG_n _ _ (Or.inl (by decide))]
      by_cases e : a n = c
      · have hno := (Vd_there ha (show n < 6 by omega) ha16).2.1
        obtain ⟨f1, f2, f3⟩ := qV_fe (G := G) (nc := nc) (mt := mt) (om := om) hO hno
        rw [if_pos e] at hstep
        have hgo : cgo V c n = lN (s * s * (qV V G nc no mt om).1 n) := by
          unfold cgo
          rw [es, f1, nI_l (by omega), nI_l (by omega), lN_mul, lN_mul]
        rw [e, uG_s, i2, hgo, lN_sub (by rw [hstep, Nat.mul_add] at hle; omega), hstep, Nat.mul_add, Nat.sub_sub]
      · rw [uG_n _ _ (Or.inr (Ne.symm e)), i2, hstep, if_neg e, Nat.add_zero]
    · rw [cW_n ha16, i2, hstep, if_neg (by omega), Nat.add_zero]
theorem cut_fc (h : GI V G nh nc mt) (hO : GO V no) {a : Nat → Nat} (ha : Vd (qV V G nc no mt om) a) {i : Nat} (hi : i < 6) (h16 : a i < 16) : a i < nc ∧ i < no ∧ ¬ w_ft ((cW V G a i).2.1 118 (a i)) (V 116 (a i)) = 0 := by
  obtain ⟨t1, t2, t3⟩ := Vd_there ha hi h16
  refine ⟨t1, t2, ?_⟩
  obtain ⟨s, g, s1, s2, es, eg, hb, hg, ef, eq, hfb, -⟩ := qV_ft (no := no) (om := om) h t1
  obtain ⟨k1, k2⟩ := cW_118 h hO ha t1 s1 s2 es eg hb eq i (by omega)
  have hsp := sq_pos (show 0 < s by omega)
  have hsq : s * s ≤ 1000 * 1000 := sq_le s2
  have f := qV_fe (G := G) (nc := nc) (mt := mt) (om := om) hO t2
  have hcf6 := ha.2 (a i) h16
  rw [eq] at hcf6
  have hmono := cf_mono (fe := (qV V G nc no mt om).1) (b := a) (p := a) (c := a i) (k := i + 1) (fun _ _ => rfl) (by omega)
  have hstep : cf (qV V G nc no mt om).1 a (a i) (i + 1) = cf (qV V G nc no mt om).1 a (a i) i + (if a i = a i then (qV V G nc no mt om).1 i else 0) := rfl
  rw [if_pos rfl] at hstep
  have hlt : cf (qV V G nc no mt om).1 a (a i) i + 1 ≤ g / (s * s) := by omega
  have h5 := (Nat.le_div_iff_mul_le hsp).mp hlt
  rw [Nat.add_mul, Nat.one_mul, Nat.mul_comm] at h5
  have h6 : 1 ≤ (g - s * s * cf (qV V G nc no mt om).1 a (a i) i) / (s * s) := (Nat.le_div_iff_mul_le hsp).mpr (by omega)
  have h7 : (g - s * s * cf (qV V G nc no mt om).1 a (a i) i) / (s * s) ≤ g / (s * s) := Nat.div_le_div_right (Nat.sub_le _ _)
  rw [k2, es, ft_ok (by omega) (by omega) (by omega), show (0 : Int32) = nI 0 from rfl, nI_eq (by omega) (by decide)]
  omega
theorem cut_pos (h : GI V G nh nc mt) (hO : GO V no) {a : Nat → Nat} (ha : Vd (qV V G nc no mt om) a) {o : Nat} (ho : o < 6) (h16 : a o < 16) : 0 < (cW V G a 6).2.1 118 (a o) ∨ (cW V G a 6).2.1 118 (a o) = 0 := by
  obtain ⟨t1, t2, t3⟩ := Vd_there ha ho h16
  obtain ⟨s, g, s1, s2, es, eg, hb, hg, ef, eq, hfb, -⟩ := qV_ft (no := no) (om := om) h t1
  obtain ⟨k1, k2⟩ := cW_118 h hO ha t1 s1 s2 es eg hb eq 6 (by omega)
  rw [k2, lN_pos (by omega)]
  rcases Nat.eq_zero_or_pos (g - s * s * cf (qV V G nc no mt om).1 a (a o) 6) with q | q
  · right; rw [q]; rfl
  · exact Or.inl q
theorem cW_127 {a : Nat → Nat} : ∀ n o, (cW V G a n).1 127 o = V 127 o ∨ (cW V G a n).1 127 o = 1
  | 0, o => Or.inl rfl
  | n + 1, o => by
    by_cases h : a n < 16
    · rw [cW_y h]
      show uF (cW V G a n).1 127 n 1 127 o = V 127 o ∨ uF (cW V G a n).1 127 n 1 127 o = 1
      by_cases e : o = n
      · rw [e, uF_s]; exact Or.inr rfl
      · rw [uF_n _ _ (Or.inr e)]; exact cW_127 n o
    · rw [cW_n h]; exact cW_127 n o
/-- less stuff in the coils -/
theorem GC.lessAll {V V1 : tF} {G G1 : tG} {nc : Nat} (hC : GC V G nc) (hT : GT G nc) (hn : nc ≤ 16) (h116 : V1 116 = V 116) (h117 : V1 117 = V 117) (h121 : V1 121 = V 121) (hl : ∀ c, c < nc → ∃ g s : Nat, G1 118 c = lN g ∧ g ≤ tn (G 118 c) ∧ V 116 c = nI s ∧ s ≤ 1000 ∧ (g = 0 ∨ s * s ≤ g)) : GC V1 G1 nc ∧ GT G1 nc := by
  have ht : ∀ c, c < nc → tn (G1 118 c) ≤ tn (G 118 c) := fun c hc => by
    obtain ⟨g, s, e1, e2, -⟩ := hl c hc
    have hb := hT.b hn hc
    rw [e1, tn_l (by omega)]
    exact e2
  refine ⟨fun c hc => ?_, Nat.le_trans (sumN_le nc ht) hT⟩
  obtain ⟨s, x, ⟨s1, s2, es⟩, hx, -, hbad⟩ := hC c hc
  obtain ⟨g, s', e1, e2, e3, s3, e4⟩ := hl c hc
  have hb := hT.b hn hc
  have : s' = s := (nI_eq (by omega) (by omega)).mp (e3.symm.trans es)
  subst this
  rw [h116, h117, h121, e1, tn_l (by omega)]
  exact ⟨s', x, ⟨s1, s2, es⟩, hx, ⟨rfl, e4⟩, hbad⟩
theorem RS_cut (h : RS F G nh nc no nn mt om) {a : Nat → Nat} (ha : Vd (qV F G nc no mt om) a) : RS (cW F G a 6).1 (trG F ((cW F G a 6).2.1) a 16) nh nc no nn mt om := by
  obtain ⟨hG, hO, ⟨h3, h4, h5, h6⟩, ⟨h7, h8⟩, h9, h10, h11⟩ := h
  have e : ∀ k, k ≠ 127 → (cW F G a 6).1 k = F k := fun k hk => cW_F hk 6
  have hG1 : GI (cW F G a 6).1 (trG F ((cW F G a 6).2.1) a 16) nh nc mt := by
    have hGc := hG
    obtain ⟨hM, hS, hP, hH, hC, hT, hN⟩ := hG.cg (F1 := (cW F G a 6).1) (fun k _ h2 => e k (by omega))
    have hGd := hGc
    obtain ⟨-, -, -, -, hC0, hT0, hN0⟩ := hGd
    have := hC0.lessAll (V1 := (cW F G a 6).1) (G1 := trG F ((cW F G a 6).2.1) a 16) hT0 hN.1 (e 116 (by decide)) (e 117 (by decide)) (e 121 (by decide)) (fun c hc => by
      obtain ⟨s, g, s1, s2, es, eg, hb, hg, ef, eq, hfb, etn⟩ := qV_ft (no := no) (om := om) hG hc
      obtain ⟨k1, k2⟩ := cW_118 hG hO ha hc s1 s2 es eg hb eq 6 (by omega)
      have hsp := sq_pos (show 0 < s by omega)
      have hsq : s * s ≤ 1000 * 1000 := sq_le s2
      have h16 := hN.1
      rw [tr_tm, tmG_118, etn]
      by_cases ht : trT F ((cW F G a 6).2.1) a c = true
      · rw [if_pos ⟨by omega, ht⟩]
        exact ⟨0, s, rfl, Nat.zero_le _, es, s2, Or.inl rfl⟩
      · rw [if_neg (fun q => ht q.2), k2]
        refine ⟨_, s, rfl, Nat.sub_le _ _, es, s2, ?_⟩
        by_cases hu : uc a c 6 = 0
        · have hz : cf (qV F G nc no mt om).1 a c 6 = 0 := sumN_z 6 (fun o ho => if_neg (fun q => (uc_ne.mpr ⟨o, ho, q⟩) hu))
          rw [hz, Nat.mul_zero, Nat.sub_zero]
          exact hg
        · have hn : ¬ w_feet F ((cW F G a 6).2.1) c < F 106 5 := fun q => ht (decide_eq_true ⟨hu, q⟩)
          obtain ⟨sh, sh1, sh2, esh⟩ := hG.2.1.2.2.2.2.2
          have h7' : (g - s * s * cf (qV F G nc no mt om).1 a c 6) / (s * s) ≤ g / (s * s) := Nat.div_le_div_right (Nat.sub_le _ _)
          rw [w_feet_e, k2, es, ft_ok (by omega) (by omega) (by omega), esh] at hn
          right
          have h12 : sh ≤ (g - s * s * cf (qV F G nc no mt om).1 a c 6) / (s * s) := by
            rcases Nat.lt_or_ge ((g - s * s * cf (qV F G nc no mt om).1 a c 6) / (s * s)) sh with q | q
            · exact absurd (nI_lt q (by omega)) hn
            · exact q
          have h13 := (Nat.le_div_iff_mul_le hsp).mp (show 1 ≤ _ from Nat.le_trans sh1 h12)
          omega)
    exact ⟨hM, hS, hP, hH, this.1, this.2, hN⟩
  refine ⟨hG1, fun o ho => ?_, ⟨by rw [e 100 (by decide)]; exact h3, by rw [e 100 (by decide)]; exact h4, by rw [e 100 (by decide)]; exact h5, fun i hi => by rw [e 110 (by decide)]; exact h6 i hi⟩, ⟨fun c hc => by rw [e 115 (by decide)]; exact h7 c hc, fun o ho => by rw [e 123 (by decide)]; exact h8 o ho⟩, fun k hk => by rw [e 129 (by decide)]; exact h9 k hk, h10, h11⟩
  rw [e 126 (by decide)]
  refine ⟨(hO o ho).1, ?_⟩
  rcases cW_127 (V := F) (G := G) (a := a) 6 o with q | q
  · rw [q]; exact (hO o ho).2
  · exact Or.inr q
end QV
theorem r_qV (F : tF) (G : tG) {nc no : Nat} {mt om : Nat → Nat} : qV (rF F) (rG G) nc no mt om = qV F G nc no mt om := rfl
