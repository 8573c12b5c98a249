/-! ways of the reference: the table of prices, the way laid -/
def rI (pl : Nat) : Nat := if pl = 0 then 8 else pl - 1
theorem rI_0 : rI 0 = 8 := rfl
theorem rI_s (k : Nat) : rI (k + 1) = k := by simp [rI]
theorem rI_9 {pl : Nat} (h : pl ≤ 8) : rI pl < 9 := by unfold rI; split <;> omega
/-- how many are done -/
def cdn (f : Nat → Int32) : Nat → Nat
  | 0 => 0
  | n + 1 => cdn f n + (if f n = 0 then 0 else 1)
theorem cdn_le (f : Nat → Int32) : ∀ n, cdn f n ≤ n
  | 0 => Nat.le_refl 0
  | n + 1 => by
    have := cdn_le f n
    simp only [cdn]
    split <;> omega
theorem cdn_z {f : Nat → Int32} : ∀ n, (∀ j, j < n → f j = 0) → cdn f n = 0
  | 0, _ => rfl
  | n + 1, h => by simp only [cdn, h n (Nat.lt_succ_self n), if_true, cdn_z n (fun j hj => h j (by omega))]
theorem cdn_all {f : Nat → Int32} : ∀ n, (∀ j, j < n → ¬ f j = 0) → cdn f n = n
  | 0, _ => rfl
  | n + 1, h => by simp only [cdn, h n (Nat.lt_succ_self n), if_false, cdn_all n (fun j hj => h j (by omega))]
theorem cdn_full {f : Nat → Int32} : ∀ n, cdn f n = n → ∀ j, j < n → ¬ f j = 0
  | 0, _, j, hj => absurd hj (Nat.not_lt_zero j)
  | n + 1, h, j, hj => by
    have := cdn_le f n
    simp only [cdn] at h
    split at h
    · omega
    · rename_i hn
      by_cases e : j = n
      · subst e; exact hn
      · exact cdn_full n (by omega) j (by omega)
theorem cdn_set {f g : Nat → Int32} {b : Nat} (hb : f b = 0) (hg : ¬ g b = 0) (ho : ∀ j, j ≠ b → g j = f j) : ∀ n, cdn g n = cdn f n + (if b < n then 1 else 0)
  | 0 => by simp [cdn]
  | n + 1 => by
    have ih := cdn_set hb hg ho n
    simp only [cdn, ih]
    by_cases e : b = n
    · subst e
      simp [hb, hg]
    · rw [ho n (Ne.symm e)]
      by_cases h1 : b < n
      · simp only [h1, if_true, show b < n + 1 by omega]; omega
      · simp only [h1, if_false, show ¬ b < n + 1 by omega]; omega
/-- what the reference's search leaves as it was -/
def AGw (F F1 : tF) : Prop := (∀ k, k ≠ 100 → k ≠ 137 → k ≠ 138 → k ≠ 139 → k ≠ 140 → k ≠ 142 → F1 k = F k) ∧ ∀ j, j ≠ 40 → F1 100 j = F 100 j
theorem AGw.rf {F : tF} : AGw F F := ⟨fun _ _ _ _ _ _ _ => rfl, fun _ _ => rfl⟩
theorem AGw.tr {F F1 F2 : tF} (h : AGw F F1) (h2 : AGw F1 F2) : AGw F F2 := ⟨fun k a b c d e f => (h2.1 k a b c d e f).trans (h.1 k a b c d e f), fun j hj => (h2.2 j hj).trans (h.2 j hj)⟩
theorem AGw.u {F F1 : tF} (h : AGw F F1) {a b : Nat} {v : Int32} (ha : a = 137 ∨ a = 138 ∨ a = 139 ∨ a = 140 ∨ a = 142) : AGw F (uF F1 a b v) := ⟨fun k h1 h2 h3 h4 h5 h6 => (uF_o _ _ _ (by omega)).trans (h.1 k h1 h2 h3 h4 h5 h6), fun j hj => (uF_n _ _ (Or.inl (by omega))).trans (h.2 j hj)⟩
theorem AGw.u40 {F F1 : tF} (h : AGw F F1) {v : Int32} : AGw F (uF F1 100 40 v) := ⟨fun k h1 h2 h3 h4 h5 h6 => (uF_o _ _ _ h1).trans (h.1 k h1 h2 h3 h4 h5 h6), fun j hj => (uF_n _ _ (Or.inr hj)).trans (h.2 j hj)⟩
theorem AGc.w {F F1 : tF} (h : AGc F F1) : AGw F F1 := ⟨fun k _ h2 h3 _ _ _ => h k h2 h3, fun j _ => by rw [h 100 (by decide) (by decide)]⟩
theorem w_wide_w {F F1 : tF} (h : AGw F F1) (q : Nat) : w_wide F1 q = w_wide F q := by
  unfold w_wide
  rw [h.1 111 (by decide) (by decide) (by decide) (by decide) (by decide) (by decide), h.1 112 (by decide) (by decide) (by decide) (by decide) (by decide) (by decide)]
theorem w_hard_w {F F1 : tF} (h : AGw F F1) (m : Nat) (s x w : Int32) : w_hard F1 m s x w = w_hard F m s x w := by
  unfold w_hard
  rw [h.1 102 (by decide) (by decide) (by decide) (by decide) (by decide) (by decide)]
theorem w_ag_a {F F1 : tF} (h : AGw F F1) (m : Nat) (j s x : Int32) (q p : Nat) : w_ag F1 m j s x q p = w_ag F m j s x q p := by
  have e : ∀ k, 101 ≤ k → k < 137 → F1 k = F k := fun k h1 h2 => h.1 k (by omega) (by omega) (by omega) (by omega) (by omega) (by omega)
  unfold w_ag w_asks w_ask1 w_bears w_bear1 w_pull w_hard w_wide
  rw [e 111 (by decide) (by decide), e 112 (by decide) (by decide), e 103 (by decide) (by decide), e 102 (by decide) (by decide), e 101 (by decide) (by decide), e 106 (by decide) (by decide), e 107 (by decide) (by decide)]
theorem LKR.mv {F F1 : tF} {c1 i1 u m N : Nat} {s0 lo hi : Int32} {wt : wT} {pl : Nat} (h : AGw F F1) (hL : LKR F c1 i1 u m N s0 lo hi wt pl) : LKR F1 c1 i1 u m N s0 lo hi wt pl := by
  refine ⟨fun x k hx hk => ?_, hL.2⟩
  rw [w_ag_a h, w_hard_w h, w_wide_w h, h.1 119 (by decide) (by decide) (by decide) (by decide) (by decide) (by decide)]
  exact hL.1 x k hx hk
/-- the search's places as the reference looks them up -/
def LKA (F : tF) (nh : Nat → Nat) (c1 i1 u m : Nat) (lo hi : Int32) (wt : wT) : Prop := ∀ pl, pl ≤ nh i1 → LKR F c1 i1 u m (nh i1) (szP F nh c1 i1 pl) lo hi wt pl
theorem szP_s {F : tF} {nh : Nat → Nat} {c i k : Nat} (h : k < nh i) : szP F nh c i (k + 1) = w_wide F (8 * i + k) := by
  unfold szP
  rw [if_neg (by omega), Nat.add_sub_cancel, if_pos h]
theorem szP_0 (F : tF) (nh : Nat → Nat) (c i : Nat) : szP F nh c i 0 = F 116 c := if_pos rfl
/-- a draw goes to a thinner place -/
theorem LKA.lt {F : tF} {nh : Nat → Nat} {c1 i1 u m : Nat} {lo hi : Int32} {wt : wT} (hL : LKA F nh c1 i1 u m lo hi wt) {pl h k : Nat} (hp : pl ≤ nh i1) (hh : h ≤ 100) (hk : k < nh i1) (hw : wt.1 pl h k = true) : w_wide F (8 * i1 + k) < szP F nh c1 i1 pl := w_ag_w (((hL pl hp).1 h k hh hk).1.mpr hw)
/-- rows of the places that are done -/
def TD (wt : wT) (F1 : tF) (N : Nat) : Prop := ∀ j, j < N → ¬ F1 140 j = 0 → TB wt F1 (j + 1) j 101
theorem TB.kp {wt : wT} {F F1 : tF} {pl j ii : Nat} (hT : TB wt F pl j 101) (hO : OT F F1 ii 101) (hne : j ≠ ii) : TB wt F1 pl j 101 := by
  intro h hh
  have h1 := hT h hh
  have h2 := hO (101 * j + h) (by omega)
  exact ⟨h2.1.trans h1.1, h2.2.trans h1.2⟩
/-- what the scan for the thinnest has found -/
def SC (F1 : tF) (k : Nat) (x : Int32) : Prop := (x = -1 ∧ ∀ j, j < k → ¬ F1 140 j = 0) ∨ ∃ b : Nat, b < k ∧ x = nI b ∧ F1 140 b = 0 ∧ ∀ j, j < k → F1 140 j = 0 → F1 139 b ≤ F1 139 j
theorem SC.keep {F1 : tF} {k : Nat} {x : Int32} (h : SC F1 k x) (hd : ¬ F1 140 k = 0) : SC F1 (k + 1) x := by
  rcases h with ⟨h1, h2⟩ | ⟨b, h1, h2, h3, h4⟩
  · exact Or.inl ⟨h1, fun j hj => by by_cases e : j = k; rw [e]; exact hd; exact h2 j (by omega)⟩
  · exact Or.inr ⟨b, by omega, h2, h3, fun j hj h0 => by by_cases e : j = k; exact absurd (by rw [← e]; exact h0) hd; exact h4 j (by omega) h0⟩
theorem SC.keep2 {F1 : tF} {k b : Nat} (hb : b < k) (h3 : F1 140 b = 0) (h4 : ∀ j, j < k → F1 140 j = 0 → F1 139 b ≤ F1 139 j) (hl : F1 139 b ≤ F1 139 k) : SC F1 (k + 1) (nI b) := Or.inr ⟨b, by omega, rfl, h3, fun j hj h0 => by by_cases e : j = k; rw [e]; exact hl; exact h4 j (by omega) h0⟩
theorem SC.take {F1 : tF} {k : Nat} {x : Int32} (h : SC F1 k x) (hd : F1 140 k = 0) (hl : x = -1 ∨ ∃ b, x = nI b ∧ b < k ∧ F1 139 k < F1 139 b) (hk : k < 2 ^ 31) : SC F1 (k + 1) (nI k) := by
  refine Or.inr ⟨k, by omega, rfl, hd, fun j hj h0 => ?_⟩
  by_cases e : j = k
  · rw [e]; exact Int32.le_refl _
  · rcases h with ⟨h1, h2⟩ | ⟨b, h1, h2, h3, h4⟩
    · exact absurd h0 (h2 j (by omega))
    · have h5 := h4 j (by omega) h0
      rcases hl with hl | ⟨b', e1, e2, e3⟩
      · exact absurd (h2.symm.trans hl) (nI_m1 (by omega))
      · have : b = b' := (nI_eq (by omega) (by omega)).mp (h2.symm.trans e1)
        subst this
        rw [Int32.le_iff_toInt_le] at h5 ⊢
        rw [Int32.lt_iff_toInt_lt] at e3
        omega
theorem TB.e {wt : wT} {F F1 : tF} {pl ii n : Nat} (hT : TB wt F pl ii n) (h1 : F1 137 = F 137) (h2 : F1 138 = F 138) : TB wt F1 pl ii n := by
  intro h hh
  rw [h1, h2]
  exact hT h hh
theorem dn_b {F F2 : tF} {nh : Nat → Nat} {c1 i1 u m b : Nat} {lo hi : Int32} {wt : wT} {rk : Nat → Nat → Nat} (hS : WS wt rk (nh i1)) (hLA : LKA F nh c1 i1 u m lo hi wt) (hw2 : ∀ j, j < nh i1 → F2 139 j = w_wide F (8 * i1 + j)) (hTD : TD wt F2 (nh i1)) (hbN : b < nh i1) (hmin : ∀ j, j < nh i1 → F2 140 j = 0 → F2 139 b ≤ F2 139 j) : ∀ h k, h ≤ 100 → wt.1 (b + 1) h k = true → k ≠ b ∧ F2 137 (101 * k + wt.2.1 (b + 1) h k) = nI (fi (pr wt (k + 1) (wt.2.1 (b + 1) h k))) := by
  intro h k hh hw
  have hq := hS.2.1 (b + 1) h k (by omega) hh hw
  have hlt := hLA.lt (show b + 1 ≤ nh i1 by omega) hh hq.1 hw
  rw [szP_s hbN] at hlt
  refine ⟨?_, ?_⟩
  · intro e
    subst e
    exact absurd hlt (Int32.lt_irrefl)
  · refine (hTD k hq.1 ?_ _ (by omega)).1
    intro h0
    have h9 := hmin k hq.1 h0
    rw [hw2 b hbN, hw2 k hq.1] at h9
    exact absurd hlt (Int32.not_lt.mpr h9)
theorem dn_8 {F2 : tF} {N : Nat} {wt : wT} {rk : Nat → Nat → Nat} {z : Int32} (hS : WS wt rk N) (hTD : TD wt F2 N) (hall : ∀ j, j < N → ¬ F2 140 j = 0) : ∀ h k, h ≤ 100 → wt.1 0 h k = true → k ≠ 8 ∧ uF F2 139 8 z 137 (101 * k + wt.2.1 0 h k) = nI (fi (pr wt (k + 1) (wt.2.1 0 h k))) := by
  intro h k hh hw
  have hq := hS.2.1 0 h k (Nat.zero_le _) hh hw
  have h8 := hS.1
  exact ⟨by omega, (uF_n _ _ (Or.inl (by decide))).trans (hTD k hq.1 (hall k hq.1) _ (by omega)).1⟩
theorem td_s {F2 F3 : tF} {N b : Nat} {wt : wT} (hTD : TD wt F2 N) (hF : AGc F2 F3) (hO : OT F2 F3 b 101) (hT : TB wt F3 (b + 1) b 101) : TD wt (uF F3 140 b 1) N := by
  intro j hj hd
  have e1 : uF F3 140 b 1 137 = F3 137 := uF_o _ _ _ (by decide)
  have e2 : uF F3 140 b 1 138 = F3 138 := uF_o _ _ _ (by decide)
  by_cases e : j = b
  · subst e
    exact hT.e e1 e2
  · rw [uF_n _ _ (Or.inr e), hF 140 (by decide) (by decide)] at hd
    exact ((hTD j hj hd).kp hO e).e e1 e2
theorem ta_s {F2 F3 : tF} {N : Nat} {wt : wT} {z : Int32} (hN : N ≤ 8) (hTD : TD wt F2 N) (hall : ∀ j, j < N → ¬ F2 140 j = 0) (hO : OT (uF F2 139 8 z) F3 8 101) (hT : TB wt F3 0 8 101) : ∀ pl, pl ≤ N → TB wt F3 pl (rI pl) 101 := by
  intro pl hp
  cases pl with
  | zero => exact hT
  | succ k =>
    rw [rI_s]
    have h1 : TB wt (uF F2 139 8 z) (k + 1) k 101 := (hTD k hp (hall k hp)).e (uF_o _ _ _ (by decide)) (uF_o _ _ _ (by decide))
    exact h1.kp hO (by omega)
theorem hz_s {F F2 F3 : tF} {nh : Nat → Nat} {c1 i1 : Nat} (hN : nh i1 ≤ 8) (hw2 : ∀ j, j < nh i1 → F2 139 j = w_wide F (8 * i1 + j)) (h3 : F3 139 = uF F2 139 8 (F 116 c1) 139) : ∀ pl, pl ≤ nh i1 → F3 139 (rI pl) = szP F nh c1 i1 pl := by
  intro pl hp
  rw [h3]
  cases pl with
  | zero => rw [szP_0]; exact uF_s _ _ _ _
  | succ k =>
    rw [rI_s, szP_s hp, uF_n _ _ (Or.inr (by omega))]
    exact hw2 k hp
theorem sts_81 {wt : wT} {h0 i : Nat} (h : nxt wt (sts wt h0 i).1 (sts wt h0 i).2 = 8) : rI (sts wt h0 (i + 1)).1 = rI (sts wt h0 i).1 := by rw [sts_8 h]
theorem sts_82 {wt : wT} {h0 i : Nat} (h : nxt wt (sts wt h0 i).1 (sts wt h0 i).2 = 8) : (sts wt h0 (i + 1)).2 = 0 := by rw [sts_8 h]
theorem sts_n1 {wt : wT} {h0 i : Nat} (h : ¬ nxt wt (sts wt h0 i).1 (sts wt h0 i).2 = 8) : rI (sts wt h0 (i + 1)).1 = stp wt h0 i := by rw [sts_n h]; exact rI_s _
theorem sts_n2 {wt : wT} {h0 i : Nat} (h : ¬ nxt wt (sts wt h0 i).1 (sts wt h0 i).2 = 8) : (sts wt h0 (i + 1)).2 = wt.2.1 (sts wt h0 i).1 (sts wt h0 i).2 (stp wt h0 i) := by rw [sts_n h]; rfl
theorem nx_there {wt : wT} {pl h : Nat} (ht : wt.2.2 pl = true) : nxI wt pl h = -1 := if_pos ht
theorem nx_go {wt : wT} {rk : Nat → Nat → Nat} {N : Nat} (hS : WS wt rk N) {pl h : Nat} (hp : pl ≤ N) (hh : h ≤ 100) (ht : ¬ wt.2.2 pl = true) (hf : pr wt pl h < 100000) : nxI wt pl h = nI (nxt wt pl h) := by
  rw [nxI, if_neg ht, sI, if_pos (by rw [← pr_nt hS hp hh ht]; exact hf)]
  rfl
set_option maxHeartbeats 4000000 in
set_option maxRecDepth 100000 in
theorem c_X12_findWay (E : cE) (tt : Nat × Nat × Nat) {X : List Nat} (B : Nat → Nat) (F : tF) (G : tG) {P : tP} (hM : RM X P) {nh : Nat → Nat} {c1 i1 u mm h0 : Nat} {lo hi : Int32} {wt : wT} {rk : Nat → Nat → Nat} (hc : c1 < 16) (hi1 : i1 < 4) (hu : u < 3) (hm : F 115 c1 = nI mm) (hm4 : mm < 4) (hN : F 110 i1 = nI (nh i1)) (hN8 : nh i1 ≤ 8) (hS : WS wt rk (nh i1)) (hLA : LKA F nh c1 i1 u mm lo hi wt) (hh0 : h0 ≤ 100) (hhd : F 117 c1 = nI h0)  : CT E tt yX12_findWay cX12_findWay 10 (some .boolean) 5 0 0 [.ref (B (100)), .int (nI c1), .int (nI i1), .int (nI u), .int (lo), .int (hi)] (wl E X B F G P) (fun r w => (pr wt 0 h0 < 100000 ∧ r = some (.int 1) ∧ ∃ F1 : tF, AGw F F1 ∧ F1 137 (808 + h0) = nI (fi (pr wt 0 h0)) ∧ F1 100 40 = nI (wlen wt h0) ∧ (∀ j, j < wlen wt h0 → F1 142 j = nI (stp wt h0 j)) ∧ w = wl E X B F1 G P) ∨ (¬ pr wt 0 h0 < 100000 ∧ r = some (.int 0) ∧ ∃ F1 : tF, AGw F F1 ∧ w = wl E X B F1 G P)) := by
  refine CT.mk (by decide +kernel) (Nat.le_of_ble_eq_true rfl) ?_
  intro l p e s m below meth c A ls C hr hlk hnm hw hl
  have hx := C.1
  have hb := C.2.1
  have hts := C.2.2.2.2
  have hown : s.vm.findClass RX12 = some m.cls := C.2.2.2.1
  have hl : lv_has ls 10 [(0, .ref (B (100))), (1, .int (nI c1)), (2, .int (nI i1)), (3, .int (nI u)), (4, .int (lo)), (5, .int (hi))] := hl
  have hpb := pr_b hS (pl := 0) (Nat.zero_le _) hh0
  refine lv_aload_n hx hb dX12_findWay_0 rfl (lv_at hl 0 rfl) ?_
  refine g_r 9 (k2 := 110) C hw (hM.m rfl) rfl fl_X12_37 rfl (hM.p 9 rfl) dX12_findWay_1 ?_
  refine lv_iload_n hx hb dX12_findWay_4 rfl (lv_at hl 2 rfl) ?_
  refine n_i i1 C hw (hM.m rfl) rfl rfl (show _ < 4 by omega) dX12_findWay_5 ?_
  refine tp_i (y := nI (nh i1)) (hN) ?_
  refine lv_istore (lv' := [(6, .int (nI (nh i1))), (0, .ref (B (100))), (1, .int (nI c1)), (2, .int (nI i1)), (3, .int (nI u)), (4, .int (lo)), (5, .int (hi))]) hx hb dX12_findWay_6 hl (by decide) rfl (fun ls hl => ?_)
  refine lv_iconst (v := 0) hx hb dX12_findWay_8 (by decide) ?_
  refine lv_istore (lv' := [(7, .int (0)), (6, .int (nI (nh i1))), (0, .ref (B (100))), (1, .int (nI c1)), (2, .int (nI i1)), (3, .int (nI u)), (4, .int (lo)), (5, .int (hi))]) hx hb dX12_findWay_9 hl (by decide) rfl (fun ls hl => ?_)
  have lo_a : ∀ (n : Nat) (k : Nat) (F1 : tF) (H : Heap) (locs : List Loc) (ls : Array Slot), nh i1 - k < n → (k ≤ nh i1) → (AGw F F1) → (∀ j, j < k → F1 139 j = w_wide F (8 * i1 + j)) → (∀ j, j < k → F1 140 j = 0) → Wd E tt A s (wl E X B F1 G P) H locs → lv_has ls 10 [(0, .ref (B (100))), (1, .int (nI c1)), (2, .int (nI i1)), (3, .int (nI u)), (4, .int (lo)), (5, .int (hi)), (6, .int (nI (nh i1))), (7, .int (nI k))] → W p l e (rmO 5 0 0) s m ([.ref (B (100)), .int (nI c1), .int (nI i1), .int (nI u), .int (lo), .int (hi)] : List Value).toArray below meth c H locs 0 0 (MQ below (Fin0 E (fun r w => (pr wt 0 h0 < 100000 ∧ r = some (.int 1) ∧ ∃ F1 : tF, AGw F F1 ∧ F1 137 (808 + h0) = nI (fi (pr wt 0 h0)) ∧ F1 100 40 = nI (wlen wt h0) ∧ (∀ j, j < wlen wt h0 → F1 142 j = nI (stp wt h0 j)) ∧ w = wl E X B F1 G P) ∨ (¬ pr wt 0 h0 < 100000 ∧ r = some (.int 0) ∧ ∃ F1 : tF, AGw F F1 ∧ w = wl E X B F1 G P)) A) ([.ref (B (100)), .int (nI c1), .int (nI i1), .int (nI u), .int (lo), .int (hi)] : List Value).toArray s 0 0 A) (F0 m 11 ls []) := by
    intro n
    induction n with
    | zero =>
      intro k F1 H locs ls hi_2
      exact absurd hi_2 (Nat.not_lt_zero _)
    | succ n ih_a =>
      intro k F1 H locs ls hj_a hk hA hw1 hz1 hw hl
      refine lv_iload hx hb dX12_findWay_11 (lv_at hl 7 rfl) ?_
      refine lv_iload hx hb dX12_findWay_13 (lv_at hl 6 rfl) ?_
      refine lv_icmp_ge (tgt := 50) hx hb dX12_findWay_15 (by decide) (fun c_15 => ?_) (fun c_15 => ?_)
      · have hkN : k = nh i1 := lp_eq (by omega) hk c_15
        subst hkN
        refine lv_iconst (v := 0) hx hb dX12_findWay_50 (by decide) ?_
        refine lv_istore (lv' := [(7, .int (0)), (0, .ref (B (100))), (1, .int (nI c1)), (2, .int (nI i1)), (3, .int (nI u)), (4, .int (lo)), (5, .int (hi)), (6, .int (nI (nh i1)))]) hx hb dX12_findWay_51 hl (by decide) rfl (fun ls hl => ?_)
        have lo_b : ∀ (n : Nat) (nq : Nat) (F2 : tF) (H : Heap) (locs : List Loc) (ls : Array Slot), nh i1 - nq < n → (nq ≤ nh i1) → (AGw F F2) → (∀ j, j < nh i1 → F2 139 j = w_wide F (8 * i1 + j)) → (cdn (F2 140) (nh i1) = nq) → (TD wt F2 (nh i1)) → Wd E tt A s (wl E X B F2 G P) H locs → lv_has ls 10 [(0, .ref (B (100))), (1, .int (nI c1)), (2, .int (nI i1)), (3, .int (nI u)), (4, .int (lo)), (5, .int (hi)), (6, .int (nI (nh i1))), (7, .int (nI nq))] → W p l e (rmO 5 0 0) s m ([.ref (B (100)), .int (nI c1), .int (nI i1), .int (nI u), .int (lo), .int (hi)] : List Value).toArray below meth c H locs 0 0 (MQ below (Fin0 E (fun r w => (pr wt 0 h0 < 100000 ∧ r = some (.int 1) ∧ ∃ F1 : tF, AGw F F1 ∧ F1 137 (808 + h0) = nI (fi (pr wt 0 h0)) ∧ F1 100 40 = nI (wlen wt h0) ∧ (∀ j, j < wlen wt h0 → F1 142 j = nI (stp wt h0 j)) ∧ w = wl E X B F1 G P) ∨ (¬ pr wt 0 h0 < 100000 ∧ r = some (.int 0) ∧ ∃ F1 : tF, AGw F F1 ∧ w = wl E X B F1 G P)) A) ([.ref (B (100)), .int (nI c1), .int (nI i1), .int (nI u), .int (lo), .int (hi)] : List Value).toArray s 0 0 A) (F0 m 53 ls []) := by
          intro n
          induction n with
          | zero =>
            intro nq F2 H locs ls hi_2
            exact absurd hi_2 (Nat.not_lt_zero _)
          | succ n ih_b =>
            intro nq F2 H locs ls hj_b hn hA2 hw2 hcd hTD hw hl
            refine lv_iload hx hb dX12_findWay_53 (lv_at hl 7 rfl) ?_
            refine lv_iload hx hb dX12_findWay_55 (lv_at hl 6 rfl) ?_
            refine lv_icmp_ge (tgt := 148) hx hb dX12_findWay_57 (by decide) (fun c_57 => ?_) (fun c_57 => ?_)
            · have hnN : nq = nh i1 := lp_eq (by omega) hn c_57
              rw [hnN] at hcd
              have hall := cdn_full _ hcd
              refine lv_aload_n hx hb dX12_findWay_148 rfl (lv_at hl 0 rfl) ?_
              refine g_r 38 (k2 := 139) C hw (hM.m rfl) rfl fl_X12_99 rfl (hM.p 38 rfl) dX12_findWay_149 ?_
              refine lv_bipush (v := 8) hx hb dX12_findWay_152 (by decide) ?_
              refine lv_aload_n hx hb dX12_findWay_154 rfl (lv_at hl 0 rfl) ?_
              refine g_r 15 (k2 := 116) C hw (hM.m rfl) rfl fl_X12_52 rfl (hM.p 15 rfl) dX12_findWay_155 ?_
              refine lv_iload_n hx hb dX12_findWay_158 rfl (lv_at hl 1 rfl) ?_
              refine n_i c1 C hw (hM.m rfl) rfl rfl (show _ < 16 by omega) dX12_findWay_159 ?_
              refine tp_i (y := F 116 c1) (congrFun (hA2.1 116 (by decide) (by decide) (by decide) (by decide) (by decide) (by decide)) c1) ?_
              refine t_i 8 C hw (hM.m rfl) rfl rfl (show _ < 9 by omega) dX12_findWay_160 (fun H locs hw => ?_)
              have hA8 : AGw F (uF F2 139 8 (F 116 c1)) := hA2.u (by omega)
              have hm2 : (uF F2 139 8 (F 116 c1)) 115 c1 = nI mm := (congrFun (hA8.1 115 (by decide) (by decide) (by decide) (by decide) (by decide) (by decide)) c1).trans hm
              have hN2 : (uF F2 139 8 (F 116 c1)) 110 i1 = nI (nh i1) := (congrFun (hA8.1 110 (by decide) (by decide) (by decide) (by decide) (by decide) (by decide)) i1).trans hN
              have hs8 : (uF F2 139 8 (F 116 c1)) 139 8 = szP F nh c1 i1 0 := (uF_s _ _ _ _).trans (szP_0 _ _ _ _).symm
              have hw8 : ∀ k, k < nh i1 → (uF F2 139 8 (F 116 c1)) 139 k = w_wide (uF F2 139 8 (F 116 c1)) (8 * i1 + k) := fun k hk => (uF_n _ _ (Or.inr (by omega))).trans ((hw2 k hk).trans (w_wide_w hA8 _).symm)
              have hdn := dn_8 (z := F 116 c1) hS hTD hall
              refine lv_aload_n hx hb dX12_findWay_161 rfl (lv_at hl 0 rfl) ?_
              refine lv_iload_n hx hb dX12_findWay_162 rfl (lv_at hl 1 rfl) ?_
              refine lv_iload_n hx hb dX12_findWay_163 rfl (lv_at hl 2 rfl) ?_
              refine lv_iload_n hx hb dX12_findWay_164 rfl (lv_at hl 3 rfl) ?_
              refine lv_bipush (v := 8) hx hb dX12_findWay_165 (by decide) ?_
              refine lv_iload hx hb dX12_findWay_167 (lv_at hl 4 rfl) ?_
              refine lv_iload hx hb dX12_findWay_169 (lv_at hl 5 rfl) ?_
              refine kV C hw (c_X12_findCost E tt B (uF F2 139 8 (F 116 c1)) G hM (c1 := c1) (i1 := i1) (u := u) (mm := mm) (ii := 8) (N := nh i1) (pl := 0) (lo := lo) (hi := hi) (s0 := szP F nh c1 i1 0) (wt := wt) (rk := rk) hc hi1 hu hm2 hm4 hN2 hN8 (by omega) hS (Nat.zero_le _) hs8 hw8 ((hLA 0 (Nat.zero_le _)).mv hA8) hdn) vy_X12_findCost ml_X12_226 (rcv hw (hM.m rfl) rfl (by decide) (q2 := (RX12, TX12, 49)) rfl) rfl hl.1 (rest := []) rfl dX12_findWay_171 (Nat.le_of_ble_eq_true rfl) ⟨by decide, by decide⟩ ⟨Nat.le_of_ble_eq_true rfl, Nat.le_of_ble_eq_true rfl⟩ (fun v_171 ws_171 H locs hp_171 hq_171 => ?_)
              clear hw
              obtain ⟨rfl, F_171, hF_171, hO_171, hT_171, rfl⟩ := hp_171
              have hw := hq_171
              refine W.eq (g2 := F0 m 174 ls []) rfl ?_
              have hA9 : AGw F F_171 := hA8.tr hF_171.w
              have hA7 : AGw F (uF F_171 100 40 0) := hA9.u40
              have hTA := ta_s hN8 hTD hall hO_171 hT_171
              have hz4 := hz_s (F3 := F_171) (c1 := c1) hN8 hw2 (hF_171 139 (by decide) (by decide))
              have hT8 := (hT_171 h0 (by omega)).1
              refine lv_bipush (v := 8) hx hb dX12_findWay_174 (by decide) ?_
              refine lv_istore (lv' := [(7, .int (8)), (0, .ref (B (100))), (1, .int (nI c1)), (2, .int (nI i1)), (3, .int (nI u)), (4, .int (lo)), (5, .int (hi)), (6, .int (nI (nh i1)))]) hx hb dX12_findWay_176 hl (by decide) rfl (fun ls hl => ?_)
              refine lv_aload_n hx hb dX12_findWay_178 rfl (lv_at hl 1 rfl) ?_
              refine g_r 16 (k2 := 117) C hw (hM.m rfl) rfl fl_X12_55 rfl (hM.p 16 rfl) dX12_findWay_179 ?_
              refine lv_iload_n hx hb dX12_findWay_182 rfl (lv_at hl 2 rfl) ?_
              refine n_i c1 C hw (hM.m rfl) rfl rfl (show _ < 16 by omega) dX12_findWay_183 ?_
              refine tp_i (y := nI h0) ((congrFun (hA9.1 117 (by decide) (by decide) (by decide) (by decide) (by decide) (by decide)) c1).trans hhd) ?_
              refine lv_istore (lv' := [(8, .int (nI h0)), (7, .int (8)), (0, .ref (B (100))), (1, .int (nI c1)), (2, .int (nI i1)), (3, .int (nI u)), (4, .int (lo)), (5, .int (hi)), (6, .int (nI (nh i1)))]) hx hb dX12_findWay_184 hl (by decide) rfl (fun ls hl => ?_)
              refine lv_aload_n hx hb dX12_findWay_186 rfl (lv_at hl 2 rfl) ?_
              refine lv_iconst (v := 0) hx hb dX12_findWay_187 (by decide) ?_
              refine p_i 40 C hw (hM.m rfl) rfl fl_X12_230 fc_12 fn_12_40 (fun h9 => by cases h9) rfl rfl rfl dX12_findWay_188 (fun H locs hw => ?_)
              refine lv_aload_n hx hb dX12_findWay_191 rfl (lv_at hl 2 rfl) ?_
              refine g_r 36 (k2 := 137) C hw (hM.m rfl) rfl fl_X12_93 rfl (hM.p 36 rfl) dX12_findWay_192 ?_
              refine lv_sipush (v := 808) hx hb dX12_findWay_195 (by decide) ?_
              refine lv_iload hx hb dX12_findWay_198 (lv_at hl 0 rfl) ?_
              refine lv_iadd hx hb dX12_findWay_200 ?_
              refine tp_i (y := nI (808 + h0)) (nI_add 808 _) ?_
              refine n_i (808 + h0) C hw (hM.m rfl) rfl rfl (show _ < 909 by omega) dX12_findWay_201 ?_
              refine tp_i (y := F_171 137 (808 + h0)) ((uF_n _ _ (Or.inl (by decide))).trans (rfl)) ?_
              refine tp_i (y := nI (fi (pr wt 0 h0))) (hT8) ?_
              refine lv_ldc (v := 1000000) hx hb hown (hts _ kc_X12_225) dX12_findWay_202 ?_
              refine lv_icmp_lt (tgt := 209) hx hb dX12_findWay_204 (by decide) (fun c_204 => ?_) (fun c_204 => ?_)
              · have hlt : pr wt 0 h0 < 100000 := fi_lt.mp ((nI_ltI (by have := fi_b (p := pr wt 0 h0) (by omega); omega) (b := fi 100000) (by decide)).mp c_204)
                have hw17 : wlen wt h0 ≤ 17 := by have := hpb.2.1; unfold wlen; omega
                have hl : lv_has ls 10 [(8, .int (nI ((sts wt h0 0).2))), (7, .int (nI (rI (sts wt h0 0).1))), (0, .ref (B (100))), (1, .int (nI c1)), (2, .int (nI i1)), (3, .int (nI u)), (4, .int (lo)), (5, .int (hi)), (6, .int (nI (nh i1)))] := hl
                have lo_f : ∀ (n : Nat) (t : Nat) (F4 : tF) (H : Heap) (locs : List Loc) (ls : Array Slot), wlen wt h0 - t < n → (t ≤ wlen wt h0) → (AGw F F4) → (F4 137 = F_171 137) → (F4 138 = F_171 138) → (F4 139 = F_171 139) → (F4 100 40 = nI t) → (∀ j, j < t → F4 142 j = nI (stp wt h0 j)) → Wd E tt A s (wl E X B F4 G P) H locs → lv_has ls 10 [(0, .ref (B (100))), (1, .int (nI c1)), (2, .int (nI i1)), (3, .int (nI u)), (4, .int (lo)), (5, .int (hi)), (6, .int (nI (nh i1))), (7, .int (nI (rI (sts wt h0 t).1))), (8, .int (nI ((sts wt h0 t).2)))] → W p l e (rmO 5 0 0) s m ([.ref (B (100)), .int (nI c1), .int (nI i1), .int (nI u), .int (lo), .int (hi)] : List Value).toArray below meth c H locs 0 0 (MQ below (Fin0 E (fun r w => (pr wt 0 h0 < 100000 ∧ r = some (.int 1) ∧ ∃ F1 : tF, AGw F F1 ∧ F1 137 (808 + h0) = nI (fi (pr wt 0 h0)) ∧ F1 100 40 = nI (wlen wt h0) ∧ (∀ j, j < wlen wt h0 → F1 142 j = nI (stp wt h0 j)) ∧ w = wl E X B F1 G P) ∨ (¬ pr wt 0 h0 < 100000 ∧ r = some (.int 0) ∧ ∃ F1 : tF, AGw F F1 ∧ w = wl E X B F1 G P)) A) ([.ref (B (100)), .int (nI c1), .int (nI i1), .int (nI u), .int (lo), .int (hi)] : List Value).toArray s 0 0 A) (F0 m 209 ls []) := by
                  intro n
                  induction n with
                  | zero =>
                    intro t F4 H locs ls hi_2
                    exact absurd hi_2 (Nat.not_lt_zero _)
                  | succ n ih_f =>
                    intro t F4 H locs ls hj_f ht hA4 h37 h38 h39 hs4 hy4 hw hl
                    obtain ⟨hp, hh, hf1, hsum⟩ := sts_inv hS hh0 hlt t ht
                    have hrI := rI_9 (pl := (sts wt h0 t).1) (by omega)
                    have hTt := hTA _ hp _ (show (sts wt h0 t).2 < 101 by omega)
                    refine lv_aload_n hx hb dX12_findWay_209 rfl (lv_at hl 0 rfl) ?_
                    refine g_r 37 (k2 := 138) C hw (hM.m rfl) rfl fl_X12_96 rfl (hM.p 37 rfl) dX12_findWay_210 ?_
                    refine lv_bipush (v := 101) hx hb dX12_findWay_213 (by decide) ?_
                    refine lv_iload hx hb dX12_findWay_215 (lv_at hl 7 rfl) ?_
                    refine lv_imul hx hb dX12_findWay_217 ?_
                    refine tp_i (y := nI (101 * rI (sts wt h0 t).1)) (pk_mul 101 _) ?_
                    refine lv_iload hx hb dX12_findWay_218 (lv_at hl 8 rfl) ?_
                    refine lv_iadd hx hb dX12_findWay_220 ?_
                    refine tp_i (y := nI (101 * rI (sts wt h0 t).1 + (sts wt h0 t).2)) (nI_add _ _) ?_
                    refine n_i (101 * rI (sts wt h0 t).1 + (sts wt h0 t).2) C hw (hM.m rfl) rfl rfl (show _ < 909 by omega) dX12_findWay_221 ?_
                    refine tp_i (y := nxI wt ((sts wt h0 t).1) ((sts wt h0 t).2)) ((congrFun h38 _).trans hTt.2) ?_
                    refine lv_iconst (v := -1) hx hb dX12_findWay_222 (by decide) ?_
                    refine lv_icmp_eq (tgt := 320) hx hb dX12_findWay_223 (by decide) (fun c_223 => ?_) (fun c_223 => ?_)
                    · have hth : wt.2.2 (sts wt h0 t).1 = true := Classical.byContradiction (fun h9 => absurd ((nx_go hS hp hh h9 hf1).symm.trans c_223) (nI_m1 (by have := nxt_le wt (sts wt h0 t).1 (sts wt h0 t).2; omega)))
                      have htw : t = wlen wt h0 := (sts_nt hS hh0 hlt ht).mp hth
                      rw [htw] at hs4 hy4
                      refine lv_iconst (v := 1) hx hb dX12_findWay_320 (by decide) ?_
                      exact r_z C hr hlk hw rfl (Or.inl ⟨hlt, rfl, F4, hA4, (congrFun h37 _).trans hT8, hs4, hy4, rfl⟩) dX12_findWay_321
                    · have hth : ¬ wt.2.2 (sts wt h0 t).1 = true := fun h9 => c_223 (nx_there h9)
                      have htw : t < wlen wt h0 := by rcases Nat.lt_or_ge t (wlen wt h0) with h9 | h9; exact h9; exact absurd ((sts_nt hS hh0 hlt ht).mpr (by omega)) hth
                      have hng := nx_go hS hp hh hth hf1
                      have hst8 : stp wt h0 t ≤ 8 := nxt_le _ _ _
                      refine lv_aload_n hx hb dX12_findWay_226 rfl (lv_at hl 0 rfl) ?_
                      refine g_r 37 (k2 := 138) C hw (hM.m rfl) rfl fl_X12_96 rfl (hM.p 37 rfl) dX12_findWay_227 ?_
                      refine lv_bipush (v := 101) hx hb dX12_findWay_230 (by decide) ?_
                      refine lv_iload hx hb dX12_findWay_232 (lv_at hl 7 rfl) ?_
                      refine lv_imul hx hb dX12_findWay_234 ?_
                      refine tp_i (y := nI (101 * rI (sts wt h0 t).1)) (pk_mul 101 _) ?_
                      refine lv_iload hx hb dX12_findWay_235 (lv_at hl 8 rfl) ?_
                      refine lv_iadd hx hb dX12_findWay_237 ?_
                      refine tp_i (y := nI (101 * rI (sts wt h0 t).1 + (sts wt h0 t).2)) (nI_add _ _) ?_
                      refine n_i (101 * rI (sts wt h0 t).1 + (sts wt h0 t).2) C hw (hM.m rfl) rfl rfl (show _ < 909 by omega) dX12_findWay_238 ?_
                      refine tp_i (y := nI (stp wt h0 t)) (((congrFun h38 _).trans hTt.2).trans hng) ?_
                      refine lv_istore (lv' := [(9, .int (nI (stp wt h0 t))), (0, .ref (B (100))), (1, .int (nI c1)), (2, .int (nI i1)), (3, .int (nI u)), (4, .int (lo)), (5, .int (hi)), (6, .int (nI (nh i1))), (7, .int (nI (rI (sts wt h0 t).1))), (8, .int (nI ((sts wt h0 t).2)))]) hx hb dX12_findWay_239 hl (by decide) rfl (fun ls hl => ?_)
                      refine lv_aload_n hx hb dX12_findWay_241 rfl (lv_at hl 1 rfl) ?_
                      refine g_r 41 (k2 := 142) C hw (hM.m rfl) rfl fl_X12_105 rfl (hM.p 41 rfl) dX12_findWay_242 ?_
                      refine lv_aload_n hx hb dX12_findWay_245 rfl (lv_at hl 1 rfl) ?_
                      refine g_i 40 C hw (hM.m rfl) rfl fl_X12_230 rfl dX12_findWay_246 ?_
                      refine tp_i (y := nI t) (hs4) ?_
                      refine lv_iload hx hb dX12_findWay_249 (lv_at hl 0 rfl) ?_
                      refine t_i t C hw (hM.m rfl) rfl rfl (show _ < 400 by omega) dX12_findWay_251 (fun H locs hw => ?_)
                      refine lv_aload_n hx hb dX12_findWay_252 rfl (lv_at hl 1 rfl) ?_
                      refine lv_dup hx hb dX12_findWay_253 rfl ?_
                      refine g_i 40 C hw (hM.m rfl) rfl fl_X12_230 rfl dX12_findWay_254 ?_
                      refine tp_i (y := F4 100 40) ((uF_n _ _ (Or.inl (by decide))).trans (rfl)) ?_
                      refine tp_i (y := nI t) (hs4) ?_
                      refine lv_iconst (v := 1) hx hb dX12_findWay_257 (by decide) ?_
                      refine lv_iadd hx hb dX12_findWay_258 ?_
                      refine tp_i (y := nI (t + 1)) (nI_1 _) ?_
                      refine p_i 40 C hw (hM.m rfl) rfl fl_X12_230 fc_12 fn_12_40 (fun h9 => by cases h9) rfl rfl rfl dX12_findWay_259 (fun H locs hw => ?_)
                      have hA5 : AGw F (uF (uF F4 142 t (nI (stp wt h0 t))) 100 40 (nI (t + 1))) := (hA4.u (by omega)).u40
                      have hz5 : ∀ pl, pl ≤ nh i1 → uF (uF F4 142 t (nI (stp wt h0 t))) 100 40 (nI (t + 1)) 139 (rI pl) = szP F nh c1 i1 pl := fun pl hp9 => (congrFun ((uF_o _ _ _ (by decide)).trans ((uF_o _ _ _ (by decide)).trans h39)) _).trans (hz4 pl hp9)
                      refine lv_iload hx hb dX12_findWay_262 (lv_at hl 0 rfl) ?_
                      refine lv_bipush (v := 8) hx hb dX12_findWay_264 (by decide) ?_
                      refine lv_icmp_ne (tgt := 273) hx hb dX12_findWay_266 (by decide) (fun c_266 => ?_) (fun c_266 => ?_)
                      · have hn8 : ¬ nxt wt (sts wt h0 t).1 (sts wt h0 t).2 = 8 := fun h9 => c_266 (by rw [stp, h9]; rfl)
                        have hkk := (nxt_k hS hp hh hth hf1).elim (fun h9 => h9) (fun h9 => absurd h9.1 hn8)
                        have hqk := hS.2.1 _ _ _ hp hh hkk.2.1
                        have hsN : stp wt h0 t < nh i1 := hqk.1
                        refine lv_aload_n hx hb dX12_findWay_273 rfl (lv_at hl 1 rfl) ?_
                        refine lv_aload_n hx hb dX12_findWay_274 rfl (lv_at hl 1 rfl) ?_
                        refine g_r 14 (k2 := 115) C hw (hM.m rfl) rfl fl_X12_49 rfl (hM.p 14 rfl) dX12_findWay_275 ?_
                        refine lv_iload_n hx hb dX12_findWay_278 rfl (lv_at hl 2 rfl) ?_
                        refine n_i c1 C hw (hM.m rfl) rfl rfl (show _ < 16 by omega) dX12_findWay_279 ?_
                        refine tp_i (y := F4 115 c1) ((uF_n _ _ (Or.inl (by decide))).trans ((uF_n _ _ (Or.inl (by decide))).trans (rfl))) ?_
                        refine tp_i (y := nI mm) ((congrFun (hA5.1 115 (by decide) (by decide) (by decide) (by decide) (by decide) (by decide)) c1).trans hm) ?_
                        refine lv_aload_n hx hb dX12_findWay_280 rfl (lv_at hl 1 rfl) ?_
                        refine g_r 38 (k2 := 139) C hw (hM.m rfl) rfl fl_X12_99 rfl (hM.p 38 rfl) dX12_findWay_281 ?_
                        refine lv_iload hx hb dX12_findWay_284 (lv_at hl 8 rfl) ?_
                        refine n_i (rI (sts wt h0 t).1) C hw (hM.m rfl) rfl rfl (show _ < 9 by omega) dX12_findWay_286 ?_
                        refine tp_i (y := F4 139 (rI (sts wt h0 t).1)) ((uF_n _ _ (Or.inl (by decide))).trans ((uF_n _ _ (Or.inl (by decide))).trans (rfl))) ?_
                        refine tp_i (y := szP F nh c1 i1 ((sts wt h0 t).1)) (hz5 _ hp) ?_
                        refine lv_iload hx hb dX12_findWay_287 (lv_at hl 9 rfl) ?_
                        refine lv_aload_n hx hb dX12_findWay_289 rfl (lv_at hl 1 rfl) ?_
                        refine g_r 38 (k2 := 139) C hw (hM.m rfl) rfl fl_X12_99 rfl (hM.p 38 rfl) dX12_findWay_290 ?_
                        refine lv_iload hx hb dX12_findWay_293 (lv_at hl 0 rfl) ?_
                        refine n_i (stp wt h0 t) C hw (hM.m rfl) rfl rfl (show _ < 9 by omega) dX12_findWay_295 ?_
                        refine tp_i (y := F4 139 (stp wt h0 t)) ((uF_n _ _ (Or.inl (by decide))).trans ((uF_n _ _ (Or.inl (by decide))).trans (rfl))) ?_
                        refine tp_i (y := w_wide F (8 * i1 + stp wt h0 t)) ((hz5 (stp wt h0 t + 1) hsN).trans (szP_s hsN)) ?_
                        refine kV C hw (c_X12_harder E tt B (uF (uF F4 142 t (nI (stp wt h0 t))) 100 40 (nI (t + 1))) G hM (mt := mm) hm4 (szP F nh c1 i1 ((sts wt h0 t).1)) (nI ((sts wt h0 t).2)) (w_wide F (8 * i1 + stp wt h0 t)) ((hLA _ hp).2.1)) vy_X12_harder ml_X12_186 (rcv hw (hM.m rfl) rfl (by decide) (q2 := (RX12, TX12, 49)) rfl) rfl hl.1 (rest := []) rfl dX12_findWay_296 (Nat.le_of_ble_eq_true rfl) ⟨by decide, by decide⟩ ⟨Nat.le_of_ble_eq_true rfl, Nat.le_of_ble_eq_true rfl⟩ (fun v_296 ws_296 H locs hp_296 hq_296 => ?_)
                        clear hw
                        obtain ⟨rfl, rfl⟩ := hp_296
                        have hw := hq_296
                        refine W.eq (g2 := F0 m 299 ls [.int (w_hard (uF (uF F4 142 t (nI (stp wt h0 t))) 100 40 (nI (t + 1))) (mm) (szP F nh c1 i1 ((sts wt h0 t).1)) (nI ((sts wt h0 t).2)) (w_wide F (8 * i1 + stp wt h0 t)))]) rfl ?_
                        refine tp_i (y := nI (wt.2.1 ((sts wt h0 t).1) ((sts wt h0 t).2) (stp wt h0 t))) ((w_hard_w hA5 _ _ _ _).trans (((hLA _ hp).1 _ _ hh hsN).2 hkk.2.1)) ?_
                        refine lv_istore (lv' := [(8, .int (nI (wt.2.1 ((sts wt h0 t).1) ((sts wt h0 t).2) (stp wt h0 t)))), (9, .int (nI (stp wt h0 t))), (0, .ref (B (100))), (1, .int (nI c1)), (2, .int (nI i1)), (3, .int (nI u)), (4, .int (lo)), (5, .int (hi)), (6, .int (nI (nh i1))), (7, .int (nI (rI (sts wt h0 t).1)))]) hx hb dX12_findWay_299 hl (by decide) rfl (fun ls hl => ?_)
                        refine lv_iload hx hb dX12_findWay_301 (lv_at hl 1 rfl) ?_
                        refine lv_bipush (v := 8) hx hb dX12_findWay_303 (by decide) ?_
                        refine lv_icmp_ne (tgt := 313) hx hb dX12_findWay_305 (by decide) (fun c_305 => ?_) (fun c_305 => ?_)
                        · refine lv_iload hx hb dX12_findWay_313 (lv_at hl 1 rfl) ?_
                          refine lv_istore (lv' := [(7, .int (nI (stp wt h0 t))), (8, .int (nI (wt.2.1 ((sts wt h0 t).1) ((sts wt h0 t).2) (stp wt h0 t)))), (9, .int (nI (stp wt h0 t))), (0, .ref (B (100))), (1, .int (nI c1)), (2, .int (nI i1)), (3, .int (nI u)), (4, .int (lo)), (5, .int (hi)), (6, .int (nI (nh i1)))]) hx hb dX12_findWay_315 hl (by decide) rfl (fun ls hl => ?_)
                          have hl : lv_has ls 10 [(7, .int (nI (rI (sts wt h0 (t + 1)).1))), (8, .int (nI ((sts wt h0 (t + 1)).2))), (9, .int (nI (stp wt h0 t))), (0, .ref (B (100))), (1, .int (nI c1)), (2, .int (nI i1)), (3, .int (nI u)), (4, .int (lo)), (5, .int (hi)), (6, .int (nI (nh i1)))] := by rw [sts_n1 hn8, sts_n2 hn8]; exact hl
                          refine lv_goto (tgt := 209) hx hb dX12_findWay_317 (by decide) ?_
                          exact ih_f (t + 1) (uF (uF F4 142 t (nI (stp wt h0 t))) 100 40 (nI (t + 1))) _ _ _ (by omega) (by omega) ((hA4.u (by omega)).u40) ((uF_o _ _ _ (by decide)).trans ((uF_o _ _ _ (by decide)).trans h37)) ((uF_o _ _ _ (by decide)).trans ((uF_o _ _ _ (by decide)).trans h38)) ((uF_o _ _ _ (by decide)).trans ((uF_o _ _ _ (by decide)).trans h39)) (uF_s _ _ _ _) (fun j hj => by rw [uF_n _ _ (Or.inl (by decide))]; by_cases q : j = t; rw [q, uF_s]; rw [uF_n _ _ (Or.inr q)]; exact hy4 j (by omega)) hw (lv_sub hl [3, 4, 5, 6, 7, 8, 9, 0, 1] rfl)
                        · exact absurd c_305 c_266
                      · have hn8 : nxt wt (sts wt h0 t).1 (sts wt h0 t).2 = 8 := (nI_eq (a := stp wt h0 t) (b := 8) (by omega) (by decide)).mp c_266
                        refine lv_iconst (v := 0) hx hb dX12_findWay_269 (by decide) ?_
                        refine lv_goto (tgt := 299) hx hb dX12_findWay_270 (by decide) ?_
                        refine lv_istore (lv' := [(8, .int (0)), (9, .int (nI (stp wt h0 t))), (0, .ref (B (100))), (1, .int (nI c1)), (2, .int (nI i1)), (3, .int (nI u)), (4, .int (lo)), (5, .int (hi)), (6, .int (nI (nh i1))), (7, .int (nI (rI (sts wt h0 t).1)))]) hx hb dX12_findWay_299 hl (by decide) rfl (fun ls hl => ?_)
                        refine lv_iload hx hb dX12_findWay_301 (lv_at hl 1 rfl) ?_
                        refine lv_bipush (v := 8) hx hb dX12_findWay_303 (by decide) ?_
                        refine lv_icmp_ne (tgt := 313) hx hb dX12_findWay_305 (by decide) (fun c_305 => ?_) (fun c_305 => ?_)
                        · exact absurd c_266 c_305
                        · refine lv_iload hx hb dX12_findWay_308 (lv_at hl 9 rfl) ?_
                          refine lv_goto (tgt := 315) hx hb dX12_findWay_310 (by decide) ?_
                          refine lv_istore (lv' := [(7, .int (nI (rI (sts wt h0 t).1))), (8, .int (0)), (9, .int (nI (stp wt h0 t))), (0, .ref (B (100))), (1, .int (nI c1)), (2, .int (nI i1)), (3, .int (nI u)), (4, .int (lo)), (5, .int (hi)), (6, .int (nI (nh i1)))]) hx hb dX12_findWay_315 hl (by decide) rfl (fun ls hl => ?_)
                          have hl : lv_has ls 10 [(7, .int (nI (rI (sts wt h0 (t + 1)).1))), (8, .int (nI ((sts wt h0 (t + 1)).2))), (9, .int (nI (stp wt h0 t))), (0, .ref (B (100))), (1, .int (nI c1)), (2, .int (nI i1)), (3, .int (nI u)), (4, .int (lo)), (5, .int (hi)), (6, .int (nI (nh i1)))] := by rw [sts_81 hn8, sts_82 hn8]; exact hl
                          refine lv_goto (tgt := 209) hx hb dX12_findWay_317 (by decide) ?_
                          exact ih_f (t + 1) (uF (uF F4 142 t (nI (stp wt h0 t))) 100 40 (nI (t + 1))) _ _ _ (by omega) (by omega) ((hA4.u (by omega)).u40) ((uF_o _ _ _ (by decide)).trans ((uF_o _ _ _ (by decide)).trans h37)) ((uF_o _ _ _ (by decide)).trans ((uF_o _ _ _ (by decide)).trans h38)) ((uF_o _ _ _ (by decide)).trans ((uF_o _ _ _ (by decide)).trans h39)) (uF_s _ _ _ _) (fun j hj => by rw [uF_n _ _ (Or.inl (by decide))]; by_cases q : j = t; rw [q, uF_s]; rw [uF_n _ _ (Or.inr q)]; exact hy4 j (by omega)) hw (lv_sub hl [3, 4, 5, 6, 7, 8, 9, 0, 1] rfl)
                exact lo_f _ 0 (uF F_171 100 40 0) _ _ _ (Nat.lt_succ_self _) (Nat.zero_le _) hA7 (uF_o _ _ _ (by decide)) (uF_o _ _ _ (by decide)) (uF_o _ _ _ (by decide)) (uF_s _ _ _ _) (fun j hj => absurd hj (Nat.not_lt_zero j)) hw (lv_sub hl [2, 3, 4, 5, 6, 7, 8, 1, 0] rfl)
              · have hlt : ¬ pr wt 0 h0 < 100000 := fun h9 => c_204 (nI_lt (b := fi 100000) (fi_lt.mpr h9) (by decide))
                refine lv_iconst (v := 0) hx hb dX12_findWay_207 (by decide) ?_
                exact r_z C hr hlk hw rfl (Or.inr ⟨hlt, rfl, _, hA7, rfl⟩) dX12_findWay_208
            · have hnl : nq < nh i1 := lp_lt (by omega) hn c_57
              refine lv_iconst (v := -1) hx hb dX12_findWay_60 (by decide) ?_
              refine lv_istore (lv' := [(8, .int (-1)), (0, .ref (B (100))), (1, .int (nI c1)), (2, .int (nI i1)), (3, .int (nI u)), (4, .int (lo)), (5, .int (hi)), (6, .int (nI (nh i1))), (7, .int (nI nq))]) hx hb dX12_findWay_61 hl (by decide) rfl (fun ls hl => ?_)
              refine lv_iconst (v := 0) hx hb dX12_findWay_63 (by decide) ?_
              refine lv_istore (lv' := [(9, .int (0)), (8, .int (-1)), (0, .ref (B (100))), (1, .int (nI c1)), (2, .int (nI i1)), (3, .int (nI u)), (4, .int (lo)), (5, .int (hi)), (6, .int (nI (nh i1))), (7, .int (nI nq))]) hx hb dX12_findWay_64 hl (by decide) rfl (fun ls hl => ?_)
              have lo_d : ∀ (n : Nat) (k : Nat) (x : Int32) (H : Heap) (locs : List Loc) (ls : Array Slot), nh i1 - k < n → (k ≤ nh i1) → (SC F2 k x) → Wd E tt A s (wl E X B F2 G P) H locs → lv_has ls 10 [(0, .ref (B (100))), (1, .int (nI c1)), (2, .int (nI i1)), (3, .int (nI u)), (4, .int (lo)), (5, .int (hi)), (6, .int (nI (nh i1))), (7, .int (nI nq)), (8, .int (x)), (9, .int (nI k))] → W p l e (rmO 5 0 0) s m ([.ref (B (100)), .int (nI c1), .int (nI i1), .int (nI u), .int (lo), .int (hi)] : List Value).toArray below meth c H locs 0 0 (MQ below (Fin0 E (fun r w => (pr wt 0 h0 < 100000 ∧ r = some (.int 1) ∧ ∃ F1 : tF, AGw F F1 ∧ F1 137 (808 + h0) = nI (fi (pr wt 0 h0)) ∧ F1 100 40 = nI (wlen wt h0) ∧ (∀ j, j < wlen wt h0 → F1 142 j = nI (stp wt h0 j)) ∧ w = wl E X B F1 G P) ∨ (¬ pr wt 0 h0 < 100000 ∧ r = some (.int 0) ∧ ∃ F1 : tF, AGw F F1 ∧ w = wl E X B F1 G P)) A) ([.ref (B (100)), .int (nI c1), .int (nI i1), .int (nI u), .int (lo), .int (hi)] : List Value).toArray s 0 0 A) (F0 m 66 ls []) := by
                intro n
                induction n with
                | zero =>
                  intro k x H locs ls hi_2
                  exact absurd hi_2 (Nat.not_lt_zero _)
                | succ n ih_d =>
                  intro k x H locs ls hj_d hk hsc hw hl
                  refine lv_iload hx hb dX12_findWay_66 (lv_at hl 9 rfl) ?_
                  refine lv_iload hx hb dX12_findWay_68 (lv_at hl 6 rfl) ?_
                  refine lv_icmp_ge (tgt := 121) hx hb dX12_findWay_70 (by decide) (fun c_70 => ?_) (fun c_70 => ?_)
                  · have hkN : k = nh i1 := lp_eq (by omega) hk c_70
                    rw [hkN] at hsc
                    obtain ⟨b, hbN, rfl, hnd, hmin⟩ := hsc.resolve_left (fun h9 => by have := cdn_all _ h9.2; omega)
                    have hm2 : F2 115 c1 = nI mm := (congrFun (hA2.1 115 (by decide) (by decide) (by decide) (by decide) (by decide) (by decide)) c1).trans hm
                    have hN2 : F2 110 i1 = nI (nh i1) := (congrFun (hA2.1 110 (by decide) (by decide) (by decide) (by decide) (by decide) (by decide)) i1).trans hN
                    have hdn := dn_b hS hLA hw2 hTD hbN hmin
                    refine lv_aload_n hx hb dX12_findWay_121 rfl (lv_at hl 0 rfl) ?_
                    refine lv_iload_n hx hb dX12_findWay_122 rfl (lv_at hl 1 rfl) ?_
                    refine lv_iload_n hx hb dX12_findWay_123 rfl (lv_at hl 2 rfl) ?_
                    refine lv_iload_n hx hb dX12_findWay_124 rfl (lv_at hl 3 rfl) ?_
                    refine lv_iload hx hb dX12_findWay_125 (lv_at hl 8 rfl) ?_
                    refine lv_iload hx hb dX12_findWay_127 (lv_at hl 4 rfl) ?_
                    refine lv_iload hx hb dX12_findWay_129 (lv_at hl 5 rfl) ?_
                    refine kV C hw (c_X12_findCost E tt B F2 G hM (c1 := c1) (i1 := i1) (u := u) (mm := mm) (ii := b) (N := nh i1) (pl := b + 1) (lo := lo) (hi := hi) (s0 := szP F nh c1 i1 (b + 1)) (wt := wt) (rk := rk) hc hi1 hu hm2 hm4 hN2 hN8 (by omega) hS (by omega) ((hw2 b hbN).trans (szP_s hbN).symm) (fun k hk => (hw2 k hk).trans (w_wide_w hA2 _).symm) ((hLA (b + 1) (by omega)).mv hA2) hdn) vy_X12_findCost ml_X12_226 (rcv hw (hM.m rfl) rfl (by decide) (q2 := (RX12, TX12, 49)) rfl) rfl hl.1 (rest := []) rfl dX12_findWay_131 (Nat.le_of_ble_eq_true rfl) ⟨by decide, by decide⟩ ⟨Nat.le_of_ble_eq_true rfl, Nat.le_of_ble_eq_true rfl⟩ (fun v_131 ws_131 H locs hp_131 hq_131 => ?_)
                    clear hw
                    obtain ⟨rfl, F_131, hF_131, hO_131, hT_131, rfl⟩ := hp_131
                    have hw := hq_131
                    refine W.eq (g2 := F0 m 134 ls []) rfl ?_
                    have hA3 : AGw F (uF F_131 140 b 1) := (hA2.tr hF_131.w).u (by omega)
                    have h139 := hF_131 139 (by decide) (by decide)
                    have h140 := hF_131 140 (by decide) (by decide)
                    have hw3 : ∀ j, j < nh i1 → uF F_131 140 b 1 139 j = w_wide F (8 * i1 + j) := fun j hj => (uF_n _ _ (Or.inl (by decide))).trans ((congrFun h139 j).trans (hw2 j hj))
                    have hcd3 : cdn (uF F_131 140 b 1 140) (nh i1) = nq + 1 := by rw [cdn_set (f := F2 140) (b := b) hnd (by rw [uF_s]; decide) (fun j hj => (uF_n _ _ (Or.inr hj)).trans (congrFun h140 j)) (nh i1), hcd, if_pos hbN]
                    have hTD3 := td_s hTD hF_131 hO_131 hT_131
                    refine lv_aload_n hx hb dX12_findWay_134 rfl (lv_at hl 0 rfl) ?_
                    refine g_r 39 (k2 := 140) C hw (hM.m rfl) rfl fl_X12_102 rfl (hM.p 39 rfl) dX12_findWay_135 ?_
                    refine lv_iload hx hb dX12_findWay_138 (lv_at hl 8 rfl) ?_
                    refine lv_iconst (v := 1) hx hb dX12_findWay_140 (by decide) ?_
                    refine t_z b C hw (hM.m rfl) rfl rfl (show _ < 9 by omega) rfl dX12_findWay_141 (fun H locs hw => ?_)
                    refine lv_iinc (v := nI (nq + 1)) (lv' := [(7, .int (nI (nq + 1))), (0, .ref (B (100))), (1, .int (nI c1)), (2, .int (nI i1)), (3, .int (nI u)), (4, .int (lo)), (5, .int (hi)), (6, .int (nI (nh i1))), (8, .int (nI b)), (9, .int (nI k))]) hx hb dX12_findWay_142 hl (k := 7) rfl (nI_1 _) (by decide) rfl (fun ls hl => ?_)
                    refine lv_goto (tgt := 53) hx hb dX12_findWay_145 (by decide) ?_
                    exact ih_b (nq + 1) (uF F_131 140 b 1) _ _ _ (by omega) (by omega) hA3 hw3 hcd3 hTD3 hw (lv_sub hl [1, 2, 3, 4, 5, 6, 7, 0] rfl)
                  · have hkl : k < nh i1 := lp_lt (by omega) hk c_70
                    refine lv_aload_n hx hb dX12_findWay_73 rfl (lv_at hl 0 rfl) ?_
                    refine g_r 39 (k2 := 140) C hw (hM.m rfl) rfl fl_X12_102 rfl (hM.p 39 rfl) dX12_findWay_74 ?_
                    refine lv_iload hx hb dX12_findWay_77 (lv_at hl 9 rfl) ?_
                    refine n_z k C hw (hM.m rfl) rfl rfl (show _ < 9 by omega) dX12_findWay_79 ?_
                    refine lv_if_ne (tgt := 111) hx hb dX12_findWay_80 (by decide) (fun c_80 => ?_) (fun c_80 => ?_)
                    · refine lv_iload hx hb dX12_findWay_111 (lv_at hl 8 rfl) ?_
                      refine lv_istore (lv' := [(8, .int (x)), (0, .ref (B (100))), (1, .int (nI c1)), (2, .int (nI i1)), (3, .int (nI u)), (4, .int (lo)), (5, .int (hi)), (6, .int (nI (nh i1))), (7, .int (nI nq)), (9, .int (nI k))]) hx hb dX12_findWay_113 hl (by decide) rfl (fun ls hl => ?_)
                      refine lv_iinc (v := nI (k + 1)) (lv' := [(9, .int (nI (k + 1))), (8, .int (x)), (0, .ref (B (100))), (1, .int (nI c1)), (2, .int (nI i1)), (3, .int (nI u)), (4, .int (lo)), (5, .int (hi)), (6, .int (nI (nh i1))), (7, .int (nI nq))]) hx hb dX12_findWay_115 hl (k := 9) rfl (nI_1 _) (by decide) rfl (fun ls hl => ?_)
                      refine lv_goto (tgt := 66) hx hb dX12_findWay_118 (by decide) ?_
                      exact ih_d (k + 1) x _ _ _ (by omega) (by omega) (hsc.keep c_80) hw (lv_sub hl [2, 3, 4, 5, 6, 7, 8, 9, 1, 0] rfl)
                    · refine lv_iload hx hb dX12_findWay_83 (lv_at hl 8 rfl) ?_
                      refine lv_iconst (v := -1) hx hb dX12_findWay_85 (by decide) ?_
                      refine lv_icmp_eq (tgt := 106) hx hb dX12_findWay_86 (by decide) (fun c_86 => ?_) (fun c_86 => ?_)
                      · refine lv_iload hx hb dX12_findWay_106 (lv_at hl 9 rfl) ?_
                        refine lv_goto (tgt := 113) hx hb dX12_findWay_108 (by decide) ?_
                        refine lv_istore (lv' := [(8, .int (nI k)), (0, .ref (B (100))), (1, .int (nI c1)), (2, .int (nI i1)), (3, .int (nI u)), (4, .int (lo)), (5, .int (hi)), (6, .int (nI (nh i1))), (7, .int (nI nq)), (9, .int (nI k))]) hx hb dX12_findWay_113 hl (by decide) rfl (fun ls hl => ?_)
                        refine lv_iinc (v := nI (k + 1)) (lv' := [(9, .int (nI (k + 1))), (8, .int (nI k)), (0, .ref (B (100))), (1, .int (nI c1)), (2, .int (nI i1)), (3, .int (nI u)), (4, .int (lo)), (5, .int (hi)), (6, .int (nI (nh i1))), (7, .int (nI nq))]) hx hb dX12_findWay_115 hl (k := 9) rfl (nI_1 _) (by decide) rfl (fun ls hl => ?_)
                        refine lv_goto (tgt := 66) hx hb dX12_findWay_118 (by decide) ?_
                        exact ih_d (k + 1) (nI k) _ _ _ (by omega) (by omega) (hsc.take c_80 (Or.inl c_86) (by omega)) hw (lv_sub hl [2, 3, 4, 5, 6, 7, 8, 9, 1, 0] rfl)
                      · obtain ⟨b, hbk, rfl, hnd, hmin⟩ := hsc.resolve_left (fun h9 => c_86 h9.1)
                        have hsc : SC F2 k (nI b) := Or.inr ⟨b, hbk, rfl, hnd, hmin⟩
                        refine lv_aload_n hx hb dX12_findWay_89 rfl (lv_at hl 0 rfl) ?_
                        refine g_r 38 (k2 := 139) C hw (hM.m rfl) rfl fl_X12_99 rfl (hM.p 38 rfl) dX12_findWay_90 ?_
                        refine lv_iload hx hb dX12_findWay_93 (lv_at hl 9 rfl) ?_
                        refine n_i k C hw (hM.m rfl) rfl rfl (show _ < 9 by omega) dX12_findWay_95 ?_
                        refine lv_aload_n hx hb dX12_findWay_96 rfl (lv_at hl 0 rfl) ?_
                        refine g_r 38 (k2 := 139) C hw (hM.m rfl) rfl fl_X12_99 rfl (hM.p 38 rfl) dX12_findWay_97 ?_
                        refine lv_iload hx hb dX12_findWay_100 (lv_at hl 8 rfl) ?_
                        refine n_i b C hw (hM.m rfl) rfl rfl (show _ < 9 by omega) dX12_findWay_102 ?_
                        refine lv_icmp_ge (tgt := 111) hx hb dX12_findWay_103 (by decide) (fun c_103 => ?_) (fun c_103 => ?_)
                        · refine lv_iload hx hb dX12_findWay_111 (lv_at hl 8 rfl) ?_
                          refine lv_istore (lv' := [(8, .int (nI b)), (0, .ref (B (100))), (1, .int (nI c1)), (2, .int (nI i1)), (3, .int (nI u)), (4, .int (lo)), (5, .int (hi)), (6, .int (nI (nh i1))), (7, .int (nI nq)), (9, .int (nI k))]) hx hb dX12_findWay_113 hl (by decide) rfl (fun ls hl => ?_)
                          refine lv_iinc (v := nI (k + 1)) (lv' := [(9, .int (nI (k + 1))), (8, .int (nI b)), (0, .ref (B (100))), (1, .int (nI c1)), (2, .int (nI i1)), (3, .int (nI u)), (4, .int (lo)), (5, .int (hi)), (6, .int (nI (nh i1))), (7, .int (nI nq))]) hx hb dX12_findWay_115 hl (k := 9) rfl (nI_1 _) (by decide) rfl (fun ls hl => ?_)
                          refine lv_goto (tgt := 66) hx hb dX12_findWay_118 (by decide) ?_
                          exact ih_d (k + 1) (nI b) _ _ _ (by omega) (by omega) (SC.keep2 hbk hnd hmin c_103) hw (lv_sub hl [2, 3, 4, 5, 6, 7, 8, 9, 1, 0] rfl)
                        · refine lv_iload hx hb dX12_findWay_106 (lv_at hl 9 rfl) ?_
                          refine lv_goto (tgt := 113) hx hb dX12_findWay_108 (by decide) ?_
                          refine lv_istore (lv' := [(8, .int (nI k)), (0, .ref (B (100))), (1, .int (nI c1)), (2, .int (nI i1)), (3, .int (nI u)), (4, .int (lo)), (5, .int (hi)), (6, .int (nI (nh i1))), (7, .int (nI nq)), (9, .int (nI k))]) hx hb dX12_findWay_113 hl (by decide) rfl (fun ls hl => ?_)
                          refine lv_iinc (v := nI (k + 1)) (lv' := [(9, .int (nI (k + 1))), (8, .int (nI k)), (0, .ref (B (100))), (1, .int (nI c1)), (2, .int (nI i1)), (3, .int (nI u)), (4, .int (lo)), (5, .int (hi)), (6, .int (nI (nh i1))), (7, .int (nI nq))]) hx hb dX12_findWay_115 hl (k := 9) rfl (nI_1 _) (by decide) rfl (fun ls hl => ?_)
                          refine lv_goto (tgt := 66) hx hb dX12_findWay_118 (by decide) ?_
                          exact ih_d (k + 1) (nI k) _ _ _ (by omega) (by omega) (hsc.take c_80 (Or.inr ⟨b, rfl, hbk, Int32.not_le.mp c_103⟩) (by omega)) hw (lv_sub hl [2, 3, 4, 5, 6, 7, 8, 9, 1, 0] rfl)
              exact lo_d _ 0 (-1) _ _ _ (Nat.lt_succ_self _) (Nat.zero_le _) (Or.inl ⟨rfl, fun j hj => absurd hj (Nat.not_lt_zero j)⟩) hw (lv_sub hl [2, 3, 4, 5, 6, 7, 8, 9, 1, 0] rfl)
        exact lo_b _ 0 F1 _ _ _ (Nat.lt_succ_self _) (Nat.zero_le _) hA hw1 (cdn_z _ hz1) (fun j hj h9 => absurd (hz1 j hj) h9) hw (lv_sub hl [1, 2, 3, 4, 5, 6, 7, 0] rfl)
      · have hkl : k < nh i1 := lp_lt (by omega) hk c_15
        refine lv_aload_n hx hb dX12_findWay_18 rfl (lv_at hl 0 rfl) ?_
        refine g_r 38 (k2 := 139) C hw (hM.m rfl) rfl fl_X12_99 rfl (hM.p 38 rfl) dX12_findWay_19 ?_
        refine lv_iload hx hb dX12_findWay_22 (lv_at hl 7 rfl) ?_
        refine lv_aload_n hx hb dX12_findWay_24 rfl (lv_at hl 0 rfl) ?_
        refine lv_bipush (v := 8) hx hb dX12_findWay_25 (by decide) ?_
        refine lv_iload_n hx hb dX12_findWay_27 rfl (lv_at hl 2 rfl) ?_
        refine lv_imul hx hb dX12_findWay_28 ?_
        refine lv_iload hx hb dX12_findWay_29 (lv_at hl 7 rfl) ?_
        refine lv_iadd hx hb dX12_findWay_31 ?_
        refine tp_i (y := nI (8 * i1 + k)) (at8 _ _) ?_
        refine kV C hw (c_X12_wide E tt B F1 G hM (q := 8 * i1 + k) (by omega)) vy_X12_wide ml_X12_149 (rcv hw (hM.m rfl) rfl (by decide) (q2 := (RX12, TX12, 49)) rfl) rfl hl.1 (rest := [.int (nI k), .ref (B (139))]) rfl dX12_findWay_32 (Nat.le_of_ble_eq_true rfl) ⟨by decide, by decide⟩ ⟨Nat.le_of_ble_eq_true rfl, Nat.le_of_ble_eq_true rfl⟩ (fun v_32 ws_32 H locs hp_32 hq_32 => ?_)
        clear hw
        obtain ⟨rfl, rfl⟩ := hp_32
        have hw := hq_32
        refine W.eq (g2 := F0 m 35 ls [.int (w_wide F1 (8 * i1 + k)), .int (nI k), .ref (B (139))]) rfl ?_
        refine tp_i (y := w_wide F (8 * i1 + k)) (w_wide_w hA _) ?_
        refine t_i k C hw (hM.m rfl) rfl rfl (show _ < 9 by omega) dX12_findWay_35 (fun H locs hw => ?_)
        refine lv_aload_n hx hb dX12_findWay_36 rfl (lv_at hl 0 rfl) ?_
        refine g_r 39 (k2 := 140) C hw (hM.m rfl) rfl fl_X12_102 rfl (hM.p 39 rfl) dX12_findWay_37 ?_
        refine lv_iload hx hb dX12_findWay_40 (lv_at hl 7 rfl) ?_
        refine lv_iconst (v := 0) hx hb dX12_findWay_42 (by decide) ?_
        refine t_z k C hw (hM.m rfl) rfl rfl (show _ < 9 by omega) rfl dX12_findWay_43 (fun H locs hw => ?_)
        refine lv_iinc (v := nI (k + 1)) (lv' := [(7, .int (nI (k + 1))), (0, .ref (B (100))), (1, .int (nI c1)), (2, .int (nI i1)), (3, .int (nI u)), (4, .int (lo)), (5, .int (hi)), (6, .int (nI (nh i1)))]) hx hb dX12_findWay_44 hl (k := 7) rfl (nI_1 _) (by decide) rfl (fun ls hl => ?_)
        refine lv_goto (tgt := 11) hx hb dX12_findWay_47 (by decide) ?_
        exact ih_a (k + 1) (uF (uF F1 139 k (w_wide F (8 * i1 + k))) 140 k 0) _ _ _ (by omega) (by omega) ((hA.u (by omega)).u (by omega)) (fun j hj => by rw [uF_n _ _ (Or.inl (by decide))]; by_cases q : j = k; rw [q, uF_s]; rw [uF_n _ _ (Or.inr q)]; exact hw1 j (by omega)) (fun j hj => by by_cases q : j = k; rw [q, uF_s]; rw [uF_n _ _ (Or.inr q), uF_n _ _ (Or.inl (by decide))]; exact hz1 j (by omega)) hw (lv_sub hl [1, 2, 3, 4, 5, 6, 7, 0] rfl)
  exact lo_a _ 0 F _ _ _ (Nat.lt_succ_self _) (Nat.zero_le _) AGw.rf (fun j hj => absurd hj (Nat.not_lt_zero j)) (fun j hj => absurd hj (Nat.not_lt_zero j)) hw (lv_sub hl [2, 3, 4, 5, 6, 7, 1, 0] rfl)
