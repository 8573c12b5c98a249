/-! ways of the class: the search -/
theorem rm_ok {d d' mc ms nl : Nat} (h : d' + 1 ≤ d) (h2 : nl ≤ 40) : d' + 1 ≤ (rmO d mc ms).frames ∧ 8 + (nl + 11) + 64 * d' ≤ (rmO d mc ms).locals := ⟨h, by show 8 + (nl + 11) + 64 * d' ≤ 64 * d; omega⟩
theorem nI_m1 {n : Nat} (h : n < 2 ^ 31) : ¬ nI n = -1 := fun e => nI_pos h (by rw [e]; decide)
theorem min_nI {a b : Nat} (ha : a < 2 ^ 31) (hb : b < 2 ^ 31) : (if nI b < nI a then nI b else nI a) = nI (min a b) := by
  by_cases h : b < a
  · rw [if_pos (nI_lt h ha), Nat.min_eq_right (by omega)]
  · rw [if_neg (fun q => h ((nI_ltI hb ha).mp q)), Nat.min_eq_left (by omega)]
theorem vF_ag {F F1 : tF} (h : ∀ k, k < 77 ∨ 100 ≤ k → F1 k = F k) : vF F1 = vF F := by
  funext k j
  cases hl : locF k j with
  | none =>
    simp only [vF, hl]
    by_cases hk : k < 100
    · simp [hk]
    · simp only [hk, if_false]
      rw [h k (by omega)]
  | some p =>
    obtain ⟨a', b'⟩ := p
    have := (locF_inv hl).2.1
    rw [vF_at hl, vF_at hl, h a' (by omega)]
/-- what a search leaves as it was -/
def AG1 (F F1 : tF) : Prop := ∀ k, k ≠ 79 → k ≠ 81 → F1 k = F k
def AG2 (F F1 : tF) : Prop := (∀ k, k ≠ 79 → k ≠ 80 → k ≠ 81 → k ≠ 82 → F1 k = F k) ∧ ∀ j, 6 ≤ j → F1 80 j = F 80 j
theorem AG1.rf {F : tF} : AG1 F F := fun _ _ _ => rfl
theorem AG1.tr {F F1 F2 : tF} (h : AG1 F F1) (h2 : AG1 F1 F2) : AG1 F F2 := fun k a b => (h2 k a b).trans (h k a b)
theorem AG1.d {F F1 F2 : tF} (h : AG1 F F1) (h2 : ∀ k, k ≠ 79 → F2 k = F1 k) : AG1 F F2 := fun k a b => (h2 k a).trans (h k a b)
theorem AG1.to2 {F F1 : tF} (h : AG1 F F1) : AG2 F F1 := ⟨fun k a _ b _ => h k a b, fun j _ => by rw [h 80 (by decide) (by decide)]⟩
theorem AG2.tr {F F1 F2 : tF} (h : AG2 F F1) (h2 : AG2 F1 F2) : AG2 F F2 := ⟨fun k a b c d => (h2.1 k a b c d).trans (h.1 k a b c d), fun j hj => (h2.2 j hj).trans (h.2 j hj)⟩
/-- what the class's search looks up is wt -/
def WLK (F : tF) (nh mt : Nat → Nat) (c1 i1 : Nat) (wt : wT) (gd : Nat → Prop) : Prop :=
  (∀ pl h n, pl ≤ nh i1 → h ≤ 100 → n < 8 → gd pl → (if n < nh i1 ∧ w_rf (vF F) (mt c1) (F (53 + c1) 4) (szP (vF F) nh c1 i1 pl) (nI h) (8 * i1 + n) (F 80 6) = 0 then w_hard (vF F) (mt c1) (szP (vF F) nh c1 i1 pl) (nI h) (w_wide (vF F) (8 * i1 + n)) else -1) = if wt.1 pl h n = true then nI (wt.2.1 pl h n) else -1) ∧
  (∀ pl, pl ≤ nh i1 → ¬ (szP (vF F) nh c1 i1 pl).toInt64 * (szP (vF F) nh c1 i1 pl).toInt64 = 0) ∧
  (∀ pl, pl ≤ nh i1 → (wt.2.2 pl = true ↔ F 80 7 ≤ szP (vF F) nh c1 i1 pl ∧ szP (vF F) nh c1 i1 pl ≤ F 80 8)) ∧
  ∀ pl h n, pl ≤ nh i1 → h ≤ 100 → gd pl → wt.1 pl h n = true → gd (n + 1)
theorem WLK.mv {F F1 : tF} {nh mt : Nat → Nat} {c1 i1 : Nat} {wt : wT} {gd : Nat → Prop} (hc : c1 < 16) (h : AG2 F F1) (hL : WLK F nh mt c1 i1 wt gd) : WLK F1 nh mt c1 i1 wt gd := by
  have e : vF F1 = vF F := vF_ag (fun k hk => h.1 k (by omega) (by omega) (by omega) (by omega))
  unfold WLK
  rw [e, h.1 (53 + c1) (by omega) (by omega) (by omega) (by omega), h.2 6 (by decide), h.2 7 (by decide), h.2 8 (by decide)]
  exact hL
theorem hb_fin {wt : wT} {pl h n : Nat} {v c : Int32} (e : c = if wt.1 pl h n = true then nI (wt.2.1 pl h n) else -1) (hv : v = c) {Q : Prop} (hq : Q) : (wt.1 pl h n = true ∧ (some (Value.int v) : Option Value) = some (.int (nI (wt.2.1 pl h n))) ∧ Q) ∨ (¬ wt.1 pl h n = true ∧ (some (Value.int v) : Option Value) = some (.int (-1)) ∧ Q) := by
  subst hv
  by_cases hw : wt.1 pl h n = true
  · rw [if_pos hw] at e
    exact Or.inl ⟨hw, by rw [e], hq⟩
  · rw [if_neg hw] at e
    exact Or.inr ⟨hw, by rw [e], hq⟩
/-- a mark is -1 or what it should be, and what it was made of is marked -/
def MI (wt : wT) (N : Nat) (m : Nat → Int32) : Prop := ∀ pl h, pl ≤ N → h ≤ 100 → ¬ m (101 * pl + h) = -1 → ¬ wt.2.2 pl = true ∧ m (101 * pl + h) = nI (lsA wt (pr wt) pl h) ∧ (∀ n, wt.1 pl h n = true → wt.2.2 (n + 1) = true ∨ ¬ m (101 * (n + 1) + wt.2.1 pl h n) = -1) ∧ (0 < h → ¬ m (101 * pl) = -1)
def MJ (m m1 : Nat → Int32) : Prop := ∀ s, ¬ m s = -1 → m1 s = m s
theorem MJ.rf {m : Nat → Int32} : MJ m m := fun _ _ => rfl
theorem MJ.tr {m m1 m2 : Nat → Int32} (h : MJ m m1) (h2 : MJ m1 m2) : MJ m m2 := fun s hs => by
  have e := h s hs
  rw [h2 s (by rw [e]; exact hs), e]
theorem MJ.k {m m1 : Nat → Int32} (h : MJ m m1) {s : Nat} (hs : ¬ m s = -1) : ¬ m1 s = -1 := by rw [h s hs]; exact hs
theorem MJ.or {m m1 : Nat → Int32} (h : MJ m m1) {s : Nat} {A : Prop} (hs : A ∨ ¬ m s = -1) : A ∨ ¬ m1 s = -1 := by
  rcases hs with q | q
  · exact Or.inl q
  · exact Or.inr (h.k q)
theorem MI.set {wt : wT} {rk : Nat → Nat → Nat} {N : Nat} (hS : WS wt rk N) {F : tF} {pl h : Nat} (hM : MI wt N (F 81)) (hp : pl ≤ N) (hh : h ≤ 100) (hnt : ¬ wt.2.2 pl = true) (hsu : ∀ n, n < 8 → wt.1 pl h n = true → wt.2.2 (n + 1) = true ∨ ¬ F 81 (101 * (n + 1) + wt.2.1 pl h n) = -1) (h0 : 0 < h → ¬ F 81 (101 * pl) = -1) : MI wt N (uF F 81 (101 * pl + h) (nI (lsA wt (pr wt) pl h)) 81) := by
  have hb := (lsA_cases wt (pr wt) pl h).1
  have hkeep : ∀ s, ¬ F 81 s = -1 → ¬ uF F 81 (101 * pl + h) (nI (lsA wt (pr wt) pl h)) 81 s = -1 := by
    intro s hs
    by_cases e : s = 101 * pl + h
    · subst e
      rw [uF_s]
      exact nI_m1 (by omega)
    · rw [uF_n _ _ (Or.inr e)]
      exact hs
  intro pl' h' hp' hh' hm
  by_cases e : 101 * pl' + h' = 101 * pl + h
  · have e1 : pl' = pl := by omega
    have e2 : h' = h := by omega
    subst e1; subst e2
    refine ⟨hnt, uF_s _ _ _ _, fun n hn => ?_, fun q => hkeep _ (h0 q)⟩
    have hq := hS.2.1 _ _ _ hp hh hn
    have h8 := hS.1
    rcases hsu n (by omega) hn with q | q
    · exact Or.inl q
    · exact Or.inr (hkeep _ q)
  · rw [uF_n _ _ (Or.inr e)] at hm ⊢
    obtain ⟨q1, q2, q3, q4⟩ := hM pl' h' hp' hh' hm
    refine ⟨q1, q2, fun n hn => ?_, fun q => hkeep _ (q4 q)⟩
    rcases q3 n hn with q | q
    · exact Or.inl q
    · exact Or.inr (hkeep _ q)
theorem MJ.set {m : Nat → Int32} {F : tF} {s : Nat} {v : Int32} (h : MJ m (F 81)) (hs : m s = -1) : MJ m (uF F 81 s v 81) := fun t ht => by
  have : t ≠ s := fun e => ht (by rw [e]; exact hs)
  rw [uF_n _ _ (Or.inr this)]
  exact h t ht
theorem AG1.set {F F1 : tF} {s : Nat} {v : Int32} (h : AG1 F F1) : AG1 F (uF F1 81 s v) := fun k a b => (uF_o _ _ _ b).trans (h k a b)
theorem lsH_1 {wt : wT} {g : Nat → Nat → Nat} {pl h k : Nat} (ho : wt.1 pl h k = true) : lsH wt g pl h (k + 1) = min (lsH wt g pl h k) ((g (k + 1) (wt.2.1 pl h k) + 1) * 9 + k) := by simp only [lsH, ho, if_true]
theorem lsA_1 {wt : wT} {g : Nat → Nat → Nat} {pl h : Nat} (h0 : 0 < h) : lsA wt g pl h = min (lsH wt g pl h 8) ((g pl 0 + 100) * 9 + 8) := by simp only [lsA, h0, if_true]
theorem hsu_1 {wt : wT} {m m1 : Nat → Int32} {pl h k : Nat} (hs : ∀ j, j < k → wt.1 pl h j = true → wt.2.2 (j + 1) = true ∨ ¬ m (101 * (j + 1) + wt.2.1 pl h j) = -1) (hJ : MJ m m1) (hk : wt.1 pl h k = true → wt.2.2 (k + 1) = true ∨ ¬ m1 (101 * (k + 1) + wt.2.1 pl h k) = -1) : ∀ j, j < k + 1 → wt.1 pl h j = true → wt.2.2 (j + 1) = true ∨ ¬ m1 (101 * (j + 1) + wt.2.1 pl h j) = -1 := by
  intro j hj ho
  by_cases e : j = k
  · subst e
    exact hk ho
  · exact hJ.or (hs j (by omega) ho)
set_option maxHeartbeats 4000000 in
set_option maxRecDepth 100000 in
theorem c_X9_hb (E : cE) (tt : Nat × Nat × Nat) {X : List Nat} (B : Nat → Nat) (F : tF) (G : tG) {P : tP} {nh : Nat → Nat} {nc no : Nat} {mt om : Nat → Nat} (hR : RC X P nh nc no mt om) {c1 i1 : Nat} (hl_c1 : c1 < nc) (hi1 : i1 < 4) (hwi : P 80 4 = some (53 + c1)) (hpl : P 80 5 = some (12 + i1)) {wt : wT} {gd : Nat → Prop} (hL : WLK F nh mt c1 i1 wt gd) {pl h n : Nat} (hp : pl ≤ nh i1) (hh : h ≤ 100) (hn8 : n < 8) (hg : gd pl)  : CT E tt yX9_hardnessBehind cX9_hardnessBehind 5 (some .int) 3 0 0 [.ref (B (80)), .int (nI pl), .int (nI h), .int (nI n)] (wl E X B F G P) (fun r w => (wt.1 pl h n = true ∧ r = some (.int (nI (wt.2.1 pl h n))) ∧ ∃ F1 : tF, (∀ k, k ≠ 79 → F1 k = F k) ∧ w = wl E X B F1 G P) ∨ (¬ wt.1 pl h n = true ∧ r = some (.int (-1)) ∧ ∃ F1 : tF, (∀ k, k ≠ 79 → F1 k = F k) ∧ w = wl E X B F1 G P)) := by
  refine CT.mk (by decide +kernel) (Nat.le_of_ble_eq_true rfl) ?_
  intro l p e s m below meth c A ls C hr hlk hnm hw hl
  have hx := C.1
  have hb := C.2.1
  have hts := C.2.2.2.2
  have hown : s.vm.findClass RX9 = some m.cls := C.2.2.2.1
  have hl : lv_has ls 5 [(0, .ref (B (80))), (1, .int (nI pl)), (2, .int (nI h)), (3, .int (nI n))] := hl
  have hn16 := hR.nc16
  have h8 := hR.nh8 hi1
  have hd := hL.2.1 pl hp
  have he := hL.1 pl h n hp hh hn8 hg
  refine lv_aload_n hx hb dX9_hardnessBehind_0 rfl (lv_at hl 0 rfl) ?_
  refine g_r 4 (k2 := 53 + c1) C hw (hR.f rfl) rfl fl_X9_26 rfl hwi dX9_hardnessBehind_1 ?_
  refine lv_ifnull hx hb dX9_hardnessBehind_4 ?_
  refine lv_aload_n hx hb dX9_hardnessBehind_7 rfl (lv_at hl 0 rfl) ?_
  refine g_r 5 (k2 := 12 + i1) C hw (hR.f rfl) rfl fl_X9_30 rfl hpl dX9_hardnessBehind_8 ?_
  refine lv_ifnonnull (tgt := 16) hx hb dX9_hardnessBehind_11 (by decide) ?_
  refine lv_aload_n hx hb dX9_hardnessBehind_16 rfl (lv_at hl 0 rfl) ?_
  refine g_r 5 (k2 := 12 + i1) C hw (hR.f rfl) rfl fl_X9_30 rfl hpl dX9_hardnessBehind_17 ?_
  refine lv_iload_n hx hb dX9_hardnessBehind_20 rfl (lv_at hl 3 rfl) ?_
  refine kV C hw (c_X7_holeAt E tt B F G hR (i0 := i1) hi1 (nI n)) vy_X7_holeAt ml_X9_78 (rcv hw (hR.xl (by omega)) (kd_plate (by omega)) (by decide) (q2 := (RX7, TX7, 2)) rfl) rfl hl.1 (rest := []) rfl dX9_hardnessBehind_21 (Nat.le_of_ble_eq_true rfl) ⟨by decide, by decide⟩ ⟨Nat.le_of_ble_eq_true rfl, Nat.le_of_ble_eq_true rfl⟩ (fun v_21 ws_21 H locs hp_21 hq_21 => ?_)
  clear hw
  rcases hp_21 with ⟨j1, hl_j1, he_j1, rfl, rfl⟩ | ⟨h_21, rfl, rfl⟩
  · have hw := hq_21
    refine W.eq (g2 := F0 m 24 ls [.ref (B (20 + (8 * i1 + j1)))]) rfl ?_
    have hj1 : n = j1 := (nI_eq (by omega) (by omega)).mp he_j1
    subst hj1
    refine lv_astore (lv' := [(4, .ref (B (20 + (8 * i1 + n)))), (0, .ref (B (80))), (1, .int (nI pl)), (2, .int (nI h)), (3, .int (nI n))]) hx hb dX9_hardnessBehind_24 hl (by decide) rfl (fun ls hl => ?_)
    refine lv_aload hx hb dX9_hardnessBehind_26 (lv_at hl 0 rfl) ?_
    refine lv_ifnull hx hb dX9_hardnessBehind_28 ?_
    refine lv_aload_n hx hb dX9_hardnessBehind_31 rfl (lv_at hl 1 rfl) ?_
    refine g_r 0 (k2 := 79) C hw (hR.f rfl) rfl fl_X9_18 rfl hR.q80 dX9_hardnessBehind_32 ?_
    refine lv_aload_n hx hb dX9_hardnessBehind_35 rfl (lv_at hl 1 rfl) ?_
    refine g_r 4 (k2 := 53 + c1) C hw (hR.f rfl) rfl fl_X9_26 rfl hwi dX9_hardnessBehind_36 ?_
    refine lv_aload_n hx hb dX9_hardnessBehind_39 rfl (lv_at hl 1 rfl) ?_
    refine lv_iload_n hx hb dX9_hardnessBehind_40 rfl (lv_at hl 2 rfl) ?_
    refine kV C hw (c_X9_sizeAt E tt B F G hR hl_c1 hi1 hwi hpl (pl := pl) (by omega)) vy_X9_sizeAt ml_X9_60 (rcv hw (hR.f rfl) rfl (by decide) (q2 := (RX9, TX9, 9)) rfl) rfl hl.1 (rest := [.ref (B (53 + c1)), .ref (B (79))]) rfl dX9_hardnessBehind_41 (Nat.le_of_ble_eq_true rfl) ⟨by decide, by decide⟩ ⟨Nat.le_of_ble_eq_true rfl, Nat.le_of_ble_eq_true rfl⟩ (fun v_41 ws_41 H locs hp_41 hq_41 => ?_)
    clear hw
    obtain ⟨rfl, rfl⟩ := hp_41
    have hw := hq_41
    refine W.eq (g2 := F0 m 44 ls [.int (szP (vF F) nh c1 i1 pl), .ref (B (53 + c1)), .ref (B (79))]) rfl ?_
    refine lv_iload_n hx hb dX9_hardnessBehind_44 rfl (lv_at hl 3 rfl) ?_
    refine lv_aload hx hb dX9_hardnessBehind_45 (lv_at hl 0 rfl) ?_
    refine lv_aload_n hx hb dX9_hardnessBehind_47 rfl (lv_at hl 1 rfl) ?_
    refine g_i 6 C hw (hR.f rfl) rfl fl_X9_34 rfl dX9_hardnessBehind_48 ?_
    refine kV C hw (c_X2_refusal E tt B F G hR (c1 := c1) (by omega) (i1 := i1) (j1 := n) (by omega) (by omega) (szP (vF F) nh c1 i1 pl) (nI h) (F 80 6) (hd)) vy_X2_refusal ml_X9_90 (rcv hw (hR.f rfl) rfl (by decide) (q2 := (RX2, TX2, 5)) rfl) rfl hl.1 (rest := []) rfl dX9_hardnessBehind_51 (Nat.le_of_ble_eq_true rfl) ⟨by decide, by decide⟩ ⟨Nat.le_of_ble_eq_true rfl, Nat.le_of_ble_eq_true rfl⟩ (fun v_51 ws_51 H locs hp_51 hq_51 => ?_)
    clear hw
    obtain ⟨rfl, F_51, hF_51, hh_51, rfl⟩ := hp_51
    have hw := hq_51
    refine W.eq (g2 := F0 m 54 ls [.int (w_rf (vF F) (mt c1) (F (53 + c1) 4) (szP (vF F) nh c1 i1 pl) (nI h) (8 * i1 + n) (F 80 6))]) rfl ?_
    refine lv_if_ge (tgt := 59) hx hb dX9_hardnessBehind_54 (by decide) (fun c_54 => ?_) (fun c_54 => ?_)
    · have hrf : w_rf (vF F) (mt c1) (F (53 + c1) 4) (szP (vF F) nh c1 i1 pl) (nI h) (8 * i1 + n) (F 80 6) = 0 := Classical.byContradiction (fun h9 => absurd c_54 (Int32.not_le.mpr (w_rf_neg h9)))
      refine lv_aload_n hx hb dX9_hardnessBehind_59 rfl (lv_at hl 1 rfl) ?_
      refine g_r 0 (k2 := 79) C hw (hR.f rfl) rfl fl_X9_18 rfl hR.q80 dX9_hardnessBehind_60 ?_
      refine g_i 2 C hw (hR.f rfl) rfl fl_X9_96 rfl dX9_hardnessBehind_63 ?_
      refine tp_i (y := w_hard (vF F) (mt c1) (szP (vF F) nh c1 i1 pl) (nI h) (w_wide (vF F) (8 * i1 + n))) (hh_51 hrf) ?_
      exact r_i C hr hlk hw (hb_fin he (by rw [if_pos ⟨hl_j1, hrf⟩]) ⟨F_51, hF_51, rfl⟩) dX9_hardnessBehind_66
    · have hrf : ¬ w_rf (vF F) (mt c1) (F (53 + c1) 4) (szP (vF F) nh c1 i1 pl) (nI h) (8 * i1 + n) (F 80 6) = 0 := fun h9 => c_54 (by rw [h9]; decide)
      refine lv_iconst (v := -1) hx hb dX9_hardnessBehind_57 (by decide) ?_
      exact r_i C hr hlk hw (hb_fin he (by rw [if_neg (fun h9 => hrf h9.2)]) ⟨F_51, hF_51, rfl⟩) dX9_hardnessBehind_58
  · have hw := hq_21
    refine W.eq (g2 := F0 m 24 ls [.null]) rfl ?_
    refine lv_astoreN (lv' := [(4, .null), (0, .ref (B (80))), (1, .int (nI pl)), (2, .int (nI h)), (3, .int (nI n))]) hx hb dX9_hardnessBehind_24 hl (by decide) rfl (fun ls hl => ?_)
    refine lv_aloadN hx hb dX9_hardnessBehind_26 (lv_at hl 0 rfl) ?_
    refine lv_ifnullN (tgt := 57) hx hb dX9_hardnessBehind_28 (by decide) ?_
    refine lv_iconst (v := -1) hx hb dX9_hardnessBehind_57 (by decide) ?_
    exact r_i C hr hlk hw (hb_fin he (by rw [if_neg (fun h9 => h_21 n h9.1 rfl)]) ⟨F, fun _ _ => rfl, rfl⟩) dX9_hardnessBehind_58

set_option maxHeartbeats 4000000 in
set_option maxRecDepth 100000 in
theorem c_X9_priceFrom_s (E : cE) (tt : Nat × Nat × Nat) {X : List Nat} (B : Nat → Nat) (F : tF) (G : tG) {P : tP} {nh : Nat → Nat} {nc no : Nat} {mt om : Nat → Nat} (hR : RC X P nh nc no mt om) {c1 i1 : Nat} (hl_c1 : c1 < nc) (hi1 : i1 < 4) (hwi : P 80 4 = some (53 + c1)) (hpl : P 80 5 = some (12 + i1)) {rk : Nat → Nat → Nat} {wt : wT} {gd : Nat → Prop} (hS : WS wt rk (nh i1)) {fu : Nat} (ih : ∀ (F : tF) (pl h dep : Nat), WLK F nh mt c1 i1 wt gd → MI wt (nh i1) (F 81) → gd pl → pl ≤ nh i1 → h ≤ 100 → rk pl h < fu → dep + rk pl h ≤ 17 → CT E tt yX9_priceFrom cX9_priceFrom 9 (some .int) (4 + fu) 0 0 [.ref (B (80)), .int (nI (pl)), .int (nI (h)), .int (nI (dep))] (wl E X B F G P) (fun r w => r = some (.int (nI (pr wt pl h))) ∧ ∃ F1 : tF, AG1 F F1 ∧ MI wt (nh i1) (F1 81) ∧ MJ (F 81) (F1 81) ∧ (wt.2.2 pl = true ∨ ¬ F1 81 (101 * pl + h) = -1) ∧ w = wl E X B F1 G P)) (hL : WLK F nh mt c1 i1 wt gd) (hMI : MI wt (nh i1) (F 81)) {pl h dep : Nat} (hg : gd pl) (hp : pl ≤ nh i1) (hh : h ≤ 100) (hrk : rk pl h < fu + 1) (hdep : dep + rk pl h ≤ 17)  : CT E tt yX9_priceFrom cX9_priceFrom 9 (some .int) (4 + (fu + 1)) 0 0 [.ref (B (80)), .int (nI pl), .int (nI h), .int (nI dep)] (wl E X B F G P) (fun r w => r = some (.int (nI (pr wt pl h))) ∧ ∃ F1 : tF, AG1 F F1 ∧ MI wt (nh i1) (F1 81) ∧ MJ (F 81) (F1 81) ∧ (wt.2.2 pl = true ∨ ¬ F1 81 (101 * pl + h) = -1) ∧ w = wl E X B F1 G P) := by
  refine CT.mk (by decide +kernel) (Nat.le_of_ble_eq_true rfl) ?_
  intro l p e s m below meth c A ls C hr hlk hnm hw hl
  have hx := C.1
  have hb := C.2.1
  have hts := C.2.2.2.2
  have hown : s.vm.findClass RX9 = some m.cls := C.2.2.2.1
  have hl : lv_has ls 9 [(0, .ref (B (80))), (1, .int (nI pl)), (2, .int (nI h)), (3, .int (nI dep))] := hl
  have hn16 := hR.nc16
  have h8 := hR.nh8 hi1
  have hlb := fun k => (lsH_cases wt (pr wt) pl h k).1
  have hla := (lsA_cases wt (pr wt) pl h).1
  refine lv_iload_n hx hb dX9_priceFrom_0 rfl (lv_at hl 1 rfl) ?_
  refine lv_bipush (v := 101) hx hb dX9_priceFrom_1 (by decide) ?_
  refine lv_imul hx hb dX9_priceFrom_3 ?_
  refine lv_iload_n hx hb dX9_priceFrom_4 rfl (lv_at hl 2 rfl) ?_
  refine lv_iadd hx hb dX9_priceFrom_5 ?_
  refine tp_i (y := nI (101 * pl + h)) (by rw [show (101 : Int32) = nI 101 from rfl, pk_mul, nI_add, Nat.mul_comm]) ?_
  refine lv_istore (lv' := [(4, .int (nI (101 * pl + h))), (0, .ref (B (80))), (1, .int (nI pl)), (2, .int (nI h)), (3, .int (nI dep))]) hx hb dX9_priceFrom_6 hl (by decide) rfl (fun ls hl => ?_)
  refine lv_iload_n hx hb dX9_priceFrom_8 rfl (lv_at hl 4 rfl) ?_
  refine lv_bipush (v := 17) hx hb dX9_priceFrom_9 (by decide) ?_
  refine lv_icmp_gt (tgt := 29) hx hb dX9_priceFrom_11 (by decide) (fun c_11 => ?_) (fun c_11 => ?_)
  · exact absurd ((nI_ltI (a := 17) (by decide) (by omega)).mp c_11) (by omega)
  · refine lv_iload hx hb dX9_priceFrom_14 (lv_at hl 0 rfl) ?_
    refine lv_if_lt (tgt := 29) hx hb dX9_priceFrom_16 (by decide) (fun c_16 => ?_) (fun c_16 => ?_)
    · exact absurd c_16 (nI_pos (by omega))
    · refine lv_iload hx hb dX9_priceFrom_19 (lv_at hl 0 rfl) ?_
      refine lv_aload_n hx hb dX9_priceFrom_21 rfl (lv_at hl 1 rfl) ?_
      refine g_r 1 (k2 := 81) C hw (hR.f rfl) rfl fl_X9_11 rfl hR.q81 dX9_priceFrom_22 ?_
      refine a_n (v := 909) C hw (hR.f rfl) (by decide) (by decide) rfl dX9_priceFrom_25 ?_
      refine lv_icmp_lt (tgt := 32) hx hb dX9_priceFrom_26 (by decide) (fun c_26 => ?_) (fun c_26 => ?_)
      · refine lv_aload_n hx hb dX9_priceFrom_32 rfl (lv_at hl 1 rfl) ?_
        refine lv_iload_n hx hb dX9_priceFrom_33 rfl (lv_at hl 2 rfl) ?_
        refine kV C hw (c_X9_sizeAt E tt B F G hR hl_c1 hi1 hwi hpl (pl := pl) (by omega)) vy_X9_sizeAt ml_X9_60 (rcv hw (hR.f rfl) rfl (by decide) (q2 := (RX9, TX9, 9)) rfl) rfl hl.1 (rest := []) rfl dX9_priceFrom_34 (Nat.le_of_ble_eq_true rfl) (rm_ok (by omega) (by omega)) ⟨Nat.le_of_ble_eq_true rfl, Nat.le_of_ble_eq_true rfl⟩ (fun v_34 ws_34 H locs hp_34 hq_34 => ?_)
        clear hw
        obtain ⟨rfl, rfl⟩ := hp_34
        have hw := hq_34
        refine W.eq (g2 := F0 m 37 ls [.int (szP (vF F) nh c1 i1 pl)]) rfl ?_
        refine lv_aload_n hx hb dX9_priceFrom_37 rfl (lv_at hl 1 rfl) ?_
        refine g_i 7 C hw (hR.f rfl) rfl fl_X9_37 rfl dX9_priceFrom_38 ?_
        refine lv_aload_n hx hb dX9_priceFrom_41 rfl (lv_at hl 1 rfl) ?_
        refine g_i 8 C hw (hR.f rfl) rfl fl_X9_40 rfl dX9_priceFrom_42 ?_
        refine kSN C hw (c_X11_isWithin E tt _ (szP (vF F) nh c1 i1 pl) (F 80 7) (F 80 8)) vy_X11_isWithin ml_X9_64 rfl hl.1 (rest := []) rfl dX9_priceFrom_45 (Nat.le_of_ble_eq_true rfl) (rm_ok (by omega) (by omega)) ⟨Nat.le_of_ble_eq_true rfl, Nat.le_of_ble_eq_true rfl⟩ (fun v_45 ws_45 H locs hp_45 hq_45 => ?_)
        clear hw
        rcases hp_45 with ⟨h_45, rfl, rfl⟩ | ⟨h_45, rfl, rfl⟩
        · have hw := hq_45
          refine W.eq (g2 := F0 m 48 ls [.int (1)]) rfl ?_
          refine lv_if_eq (tgt := 53) hx hb dX9_priceFrom_48 (by decide) (fun h9 => False.elim (by revert h9; decide)) (fun _ => ?_)
          have hth := (hL.2.2.1 pl hp).mpr h_45
          refine lv_iconst (v := 0) hx hb dX9_priceFrom_51 (by decide) ?_
          exact r_i C hr hlk hw ⟨(by rw [pr_th hS hp hh hth]; rfl), F, AG1.rf, hMI, MJ.rf, Or.inl hth, rfl⟩ dX9_priceFrom_52
        · have hw := hq_45
          refine W.eq (g2 := F0 m 48 ls [.int (0)]) rfl ?_
          refine lv_if_eq (tgt := 53) hx hb dX9_priceFrom_48 (by decide) (fun _ => ?_) (fun h9 => False.elim (by revert h9; decide))
          have hnt : ¬ wt.2.2 pl = true := fun h9 => h_45 ((hL.2.2.1 pl hp).mp h9)
          refine lv_aload_n hx hb dX9_priceFrom_53 rfl (lv_at hl 1 rfl) ?_
          refine g_r 1 (k2 := 81) C hw (hR.f rfl) rfl fl_X9_11 rfl hR.q81 dX9_priceFrom_54 ?_
          refine lv_iload hx hb dX9_priceFrom_57 (lv_at hl 0 rfl) ?_
          refine n_i (101 * pl + h) C hw (hR.f rfl) rfl rfl (show _ < 909 by omega) dX9_priceFrom_59 ?_
          refine lv_iconst (v := -1) hx hb dX9_priceFrom_60 (by decide) ?_
          refine lv_icmp_eq (tgt := 75) hx hb dX9_priceFrom_61 (by decide) (fun c_61 => ?_) (fun c_61 => ?_)
          · refine lv_ldc (v := 900000) hx hb hown (hts _ kc_X9_68) dX9_priceFrom_75 ?_
            refine tp_i (y := nI (lsH wt (pr wt) pl h 0)) (rfl) ?_
            refine lv_istore (lv' := [(5, .int (nI (lsH wt (pr wt) pl h 0))), (4, .int (nI (101 * pl + h))), (0, .ref (B (80))), (1, .int (nI pl)), (2, .int (nI h)), (3, .int (nI dep))]) hx hb dX9_priceFrom_77 hl (by decide) rfl (fun ls hl => ?_)
            refine lv_iconst (v := 0) hx hb dX9_priceFrom_79 (by decide) ?_
            refine lv_istore (lv' := [(6, .int (0)), (5, .int (nI (lsH wt (pr wt) pl h 0))), (4, .int (nI (101 * pl + h))), (0, .ref (B (80))), (1, .int (nI pl)), (2, .int (nI h)), (3, .int (nI dep))]) hx hb dX9_priceFrom_80 hl (by decide) rfl (fun ls hl => ?_)
            have lo_a : ∀ (n : Nat) (k : Nat) (F1 : tF) (H : Heap) (locs : List Loc) (ls : Array Slot), 8 - k < n → (k ≤ 8) → (AG1 F F1) → (MI wt (nh i1) (F1 81)) → (MJ (F 81) (F1 81)) → (∀ j, j < k → wt.1 pl h j = true → wt.2.2 (j + 1) = true ∨ ¬ F1 81 (101 * (j + 1) + wt.2.1 pl h j) = -1) → Wd E tt A s (wl E X B F1 G P) H locs → lv_has ls 9 [(0, .ref (B (80))), (1, .int (nI pl)), (2, .int (nI h)), (3, .int (nI dep)), (4, .int (nI (101 * pl + h))), (5, .int (nI (lsH wt (pr wt) pl h k))), (6, .int (nI k))] → W p l e (rmO (4 + (fu + 1)) 0 0) s m ([.ref (B (80)), .int (nI pl), .int (nI h), .int (nI dep)] : List Value).toArray below meth c H locs 0 0 (MQ below (Fin0 E (fun r w => r = some (.int (nI (pr wt pl h))) ∧ ∃ F1 : tF, AG1 F F1 ∧ MI wt (nh i1) (F1 81) ∧ MJ (F 81) (F1 81) ∧ (wt.2.2 pl = true ∨ ¬ F1 81 (101 * pl + h) = -1) ∧ w = wl E X B F1 G P) A) ([.ref (B (80)), .int (nI pl), .int (nI h), .int (nI dep)] : List Value).toArray s 0 0 A) (F0 m 82 ls []) := by
              intro n
              induction n with
              | zero =>
                intro k F1 H locs ls hi_2
                exact absurd hi_2 (Nat.not_lt_zero _)
              | succ n ih_a =>
                intro k F1 H locs ls hj_a hk hA hM1 hJ hsu hw hl
                have hL1 := hL.mv (by omega) hA.to2
                refine lv_iload hx hb dX9_priceFrom_82 (lv_at hl 6 rfl) ?_
                refine lv_bipush (v := 8) hx hb dX9_priceFrom_84 (by decide) ?_
                refine lv_icmp_ge (tgt := 146) hx hb dX9_priceFrom_86 (by decide) (fun c_86 => ?_) (fun c_86 => ?_)
                · have hk8 : k = 8 := by have := (nI_leI (a := 8) (by decide) (by omega)).mp c_86; omega
                  subst hk8
                  refine lv_iload_n hx hb dX9_priceFrom_146 rfl (lv_at hl 2 rfl) ?_
                  refine lv_if_le (tgt := 179) hx hb dX9_priceFrom_147 (by decide) (fun c_147 => ?_) (fun c_147 => ?_)
                  · have hh0 : h = 0 := by have := (nI_leI (b := 0) (by omega) (by decide)).mp c_147; omega
                    have hl : lv_has ls 9 [(0, .ref (B (80))), (1, .int (nI pl)), (2, .int (nI h)), (3, .int (nI dep)), (4, .int (nI (101 * pl + h))), (5, .int (nI (lsA wt (pr wt) pl h))), (6, .int (nI 8))] := by rw [lsA_0 (by omega)]; exact hl
                    refine lv_aload_n hx hb dX9_priceFrom_179 rfl (lv_at hl 0 rfl) ?_
                    refine g_r 1 (k2 := 81) C hw (hR.f rfl) rfl fl_X9_11 rfl hR.q81 dX9_priceFrom_180 ?_
                    refine lv_iload hx hb dX9_priceFrom_183 (lv_at hl 4 rfl) ?_
                    refine lv_iload hx hb dX9_priceFrom_185 (lv_at hl 5 rfl) ?_
                    refine t_i (101 * pl + h) C hw (hR.f rfl) rfl rfl (show _ < 909 by omega) dX9_priceFrom_187 (fun H locs hw => ?_)
                    refine lv_iload hx hb dX9_priceFrom_188 (lv_at hl 5 rfl) ?_
                    refine lv_bipush (v := 9) hx hb dX9_priceFrom_190 (by decide) ?_
                    refine lv_idiv hx hb dX9_priceFrom_192 (by decide) ?_
                    refine tp_i (y := nI (lsA wt (pr wt) pl h / 9)) (pk_div (d := 9) (by omega) (by decide) (by decide)) ?_
                    exact r_i C hr hlk hw ⟨(by rw [pr_nt hS hp hh hnt]), _, AG1.set hA, MI.set hS hM1 hp hh hnt hsu (fun h9 => absurd hh0 (by omega)), MJ.set hJ c_61, Or.inr (by rw [uF_s]; exact nI_m1 (by omega)), rfl⟩ dX9_priceFrom_193
                  · have hh0 : 0 < h := Nat.pos_of_ne_zero (fun h9 => c_147 (by rw [h9]; exact Int32.le_refl 0))
                    have hq0 := hS.2.2.1 pl h hp hh hh0
                    have hpb := (pr_b hS (pl := pl) hp (show 0 ≤ 100 by omega)).1
                    refine lv_aload_n hx hb dX9_priceFrom_150 rfl (lv_at hl 0 rfl) ?_
                    refine lv_iload_n hx hb dX9_priceFrom_151 rfl (lv_at hl 1 rfl) ?_
                    refine lv_iconst (v := 0) hx hb dX9_priceFrom_152 (by decide) ?_
                    refine lv_iload_n hx hb dX9_priceFrom_153 rfl (lv_at hl 3 rfl) ?_
                    refine lv_iconst (v := 1) hx hb dX9_priceFrom_154 (by decide) ?_
                    refine lv_iadd hx hb dX9_priceFrom_155 ?_
                    refine tp_i (y := nI (dep + 1)) (nI_1 _) ?_
                    refine kV C hw (ih F1 pl 0 (dep + 1) hL1 hM1 hg hp (by omega) (by omega) (by omega)) vy_X9_priceFrom ml_X9_48 (rcv hw (hR.f rfl) rfl (by decide) (q2 := (RX9, TX9, 9)) rfl) rfl hl.1 (rest := []) rfl dX9_priceFrom_156 (Nat.le_of_ble_eq_true rfl) (rm_ok (by omega) (by omega)) ⟨Nat.le_of_ble_eq_true rfl, Nat.le_of_ble_eq_true rfl⟩ (fun v_156 ws_156 H locs hp_156 hq_156 => ?_)
                    clear hw
                    obtain ⟨rfl, F_156, hF_156, hM_156, hJ_156, hs_156, rfl⟩ := hp_156
                    have hw := hq_156
                    refine W.eq (g2 := F0 m 159 ls [.int (nI (pr wt pl 0))]) rfl ?_
                    refine lv_bipush (v := 100) hx hb dX9_priceFrom_159 (by decide) ?_
                    refine lv_iadd hx hb dX9_priceFrom_161 ?_
                    refine tp_i (y := nI (pr wt pl 0 + 100)) (nI_add _ 100) ?_
                    refine lv_istore (lv' := [(6, .int (nI (pr wt pl 0 + 100))), (0, .ref (B (80))), (1, .int (nI pl)), (2, .int (nI h)), (3, .int (nI dep)), (4, .int (nI (101 * pl + h))), (5, .int (nI (lsH wt (pr wt) pl h 8)))]) hx hb dX9_priceFrom_162 hl (by decide) rfl (fun ls hl => ?_)
                    refine lv_iload hx hb dX9_priceFrom_164 (lv_at hl 6 rfl) ?_
                    refine lv_iload hx hb dX9_priceFrom_166 (lv_at hl 0 rfl) ?_
                    refine lv_bipush (v := 9) hx hb dX9_priceFrom_168 (by decide) ?_
                    refine lv_imul hx hb dX9_priceFrom_170 ?_
                    refine tp_i (y := nI ((pr wt pl 0 + 100) * 9)) (pk_mul _ 9) ?_
                    refine lv_bipush (v := 8) hx hb dX9_priceFrom_171 (by decide) ?_
                    refine lv_iadd hx hb dX9_priceFrom_173 ?_
                    refine tp_i (y := nI ((pr wt pl 0 + 100) * 9 + 8)) (nI_add _ 8) ?_
                    refine va_mmin hx hb (C.2.2.1.trans hl.1.symm) hown (hts _ ml_X9_69) (hts _ mh_min_s) (hts _ in_J9) (hts _ mh_min_c) (Nat.le_of_ble_eq_true rfl) (Nat.le_of_ble_eq_true rfl) (Nat.le_of_ble_eq_true rfl) (Nat.le_of_ble_eq_true rfl) dX9_priceFrom_174 ?_
                    refine tp_i (y := nI (lsA wt (pr wt) pl h)) (by rw [lsA_1 hh0]; exact min_nI (by have := hlb 8; omega) (by omega)) ?_
                    refine lv_istore (lv' := [(5, .int (nI (lsA wt (pr wt) pl h))), (6, .int (nI (pr wt pl 0 + 100))), (0, .ref (B (80))), (1, .int (nI pl)), (2, .int (nI h)), (3, .int (nI dep)), (4, .int (nI (101 * pl + h)))]) hx hb dX9_priceFrom_177 hl (by decide) rfl (fun ls hl => ?_)
                    refine lv_aload_n hx hb dX9_priceFrom_179 rfl (lv_at hl 2 rfl) ?_
                    refine g_r 1 (k2 := 81) C hw (hR.f rfl) rfl fl_X9_11 rfl hR.q81 dX9_priceFrom_180 ?_
                    refine lv_iload hx hb dX9_priceFrom_183 (lv_at hl 6 rfl) ?_
                    refine lv_iload hx hb dX9_priceFrom_185 (lv_at hl 0 rfl) ?_
                    refine t_i (101 * pl + h) C hw (hR.f rfl) rfl rfl (show _ < 909 by omega) dX9_priceFrom_187 (fun H locs hw => ?_)
                    refine lv_iload hx hb dX9_priceFrom_188 (lv_at hl 0 rfl) ?_
                    refine lv_bipush (v := 9) hx hb dX9_priceFrom_190 (by decide) ?_
                    refine lv_idiv hx hb dX9_priceFrom_192 (by decide) ?_
                    refine tp_i (y := nI (lsA wt (pr wt) pl h / 9)) (pk_div (d := 9) (by omega) (by decide) (by decide)) ?_
                    exact r_i C hr hlk hw ⟨(by rw [pr_nt hS hp hh hnt]), _, AG1.set (hA.tr hF_156), MI.set hS hM_156 hp hh hnt (fun j hj ho => hJ_156.or (hsu j hj ho)) (fun _ => (hs_156.resolve_left hnt)), MJ.set (hJ.tr hJ_156) c_61, Or.inr (by rw [uF_s]; exact nI_m1 (by omega)), rfl⟩ dX9_priceFrom_193
                · have hk8 : k < 8 := by rcases Nat.lt_or_ge k 8 with h9 | h9; exact h9; exact absurd ((nI_leI (a := 8) (by decide) (by omega)).mpr h9) c_86
                  refine lv_aload_n hx hb dX9_priceFrom_89 rfl (lv_at hl 0 rfl) ?_
                  refine lv_iload_n hx hb dX9_priceFrom_90 rfl (lv_at hl 1 rfl) ?_
                  refine lv_iload_n hx hb dX9_priceFrom_91 rfl (lv_at hl 2 rfl) ?_
                  refine lv_iload hx hb dX9_priceFrom_92 (lv_at hl 6 rfl) ?_
                  refine kV C hw (c_X9_hb E tt B F1 G hR hl_c1 hi1 hwi hpl hL1 (pl := pl) (h := h) (n := k) hp hh (by omega) hg) vy_X9_hardnessBehind ml_X9_57 (rcv hw (hR.f rfl) rfl (by decide) (q2 := (RX9, TX9, 9)) rfl) rfl hl.1 (rest := []) rfl dX9_priceFrom_94 (Nat.le_of_ble_eq_true rfl) (rm_ok (by omega) (by omega)) ⟨Nat.le_of_ble_eq_true rfl, Nat.le_of_ble_eq_true rfl⟩ (fun v_94 ws_94 H locs hp_94 hq_94 => ?_)
                  clear hw
                  rcases hp_94 with ⟨h_94, rfl, F_94, hF_94, rfl⟩ | ⟨h_94, rfl, F_94, hF_94, rfl⟩
                  · have hw := hq_94
                    refine W.eq (g2 := F0 m 97 ls [.int (nI (wt.2.1 pl h k))]) rfl ?_
                    refine lv_istore (lv' := [(7, .int (nI (wt.2.1 pl h k))), (0, .ref (B (80))), (1, .int (nI pl)), (2, .int (nI h)), (3, .int (nI dep)), (4, .int (nI (101 * pl + h))), (5, .int (nI (lsH wt (pr wt) pl h k))), (6, .int (nI k))]) hx hb dX9_priceFrom_97 hl (by decide) rfl (fun ls hl => ?_)
                    refine lv_iload hx hb dX9_priceFrom_99 (lv_at hl 0 rfl) ?_
                    refine lv_iconst (v := -1) hx hb dX9_priceFrom_101 (by decide) ?_
                    refine lv_icmp_ne (tgt := 108) hx hb dX9_priceFrom_102 (by decide) (fun c_102 => ?_) (fun c_102 => ?_)
                    · have hq_k := hS.2.1 pl h k hp hh h_94
                      have hpb := (pr_b hS (pl := k + 1) (by omega) hq_k.2.1).1
                      refine lv_aload_n hx hb dX9_priceFrom_108 rfl (lv_at hl 1 rfl) ?_
                      refine lv_iload hx hb dX9_priceFrom_109 (lv_at hl 7 rfl) ?_
                      refine lv_iconst (v := 1) hx hb dX9_priceFrom_111 (by decide) ?_
                      refine lv_iadd hx hb dX9_priceFrom_112 ?_
                      refine tp_i (y := nI (k + 1)) (nI_1 _) ?_
                      refine lv_iload hx hb dX9_priceFrom_113 (lv_at hl 0 rfl) ?_
                      refine lv_iload_n hx hb dX9_priceFrom_115 rfl (lv_at hl 4 rfl) ?_
                      refine lv_iconst (v := 1) hx hb dX9_priceFrom_116 (by decide) ?_
                      refine lv_iadd hx hb dX9_priceFrom_117 ?_
                      refine tp_i (y := nI (dep + 1)) (nI_1 _) ?_
                      refine kV C hw (ih F_94 (k + 1) (wt.2.1 pl h k) (dep + 1) (hL.mv (by omega) (AG1.d hA hF_94).to2) (by rw [hF_94 81 (by decide)]; exact hM1) (hL.2.2.2 pl h k hp hh hg h_94) (by omega) hq_k.2.1 (by omega) (by omega)) vy_X9_priceFrom ml_X9_48 (rcv hw (hR.f rfl) rfl (by decide) (q2 := (RX9, TX9, 9)) rfl) rfl hl.1 (rest := []) rfl dX9_priceFrom_118 (Nat.le_of_ble_eq_true rfl) (rm_ok (by omega) (by omega)) ⟨Nat.le_of_ble_eq_true rfl, Nat.le_of_ble_eq_true rfl⟩ (fun v_118 ws_118 H locs hp_118 hq_118 => ?_)
                      clear hw
                      obtain ⟨rfl, F_118, hF_118, hM_118, hJ_118, hs_118, rfl⟩ := hp_118
                      have hw := hq_118
                      refine W.eq (g2 := F0 m 121 ls [.int (nI (pr wt (k + 1) (wt.2.1 pl h k)))]) rfl ?_
                      have hJ1 : MJ (F1 81) (F_118 81) := by rw [← hF_94 81 (by decide)]; exact hJ_118
                      refine lv_iconst (v := 1) hx hb dX9_priceFrom_121 (by decide) ?_
                      refine lv_iadd hx hb dX9_priceFrom_122 ?_
                      refine tp_i (y := nI (pr wt (k + 1) (wt.2.1 pl h k) + 1)) (nI_1 _) ?_
                      refine lv_istore (lv' := [(8, .int (nI (pr wt (k + 1) (wt.2.1 pl h k) + 1))), (7, .int (nI (wt.2.1 pl h k))), (0, .ref (B (80))), (1, .int (nI pl)), (2, .int (nI h)), (3, .int (nI dep)), (4, .int (nI (101 * pl + h))), (5, .int (nI (lsH wt (pr wt) pl h k))), (6, .int (nI k))]) hx hb dX9_priceFrom_123 hl (by decide) rfl (fun ls hl => ?_)
                      refine lv_iload hx hb dX9_priceFrom_125 (lv_at hl 7 rfl) ?_
                      refine lv_iload hx hb dX9_priceFrom_127 (lv_at hl 0 rfl) ?_
                      refine lv_bipush (v := 9) hx hb dX9_priceFrom_129 (by decide) ?_
                      refine lv_imul hx hb dX9_priceFrom_131 ?_
                      refine tp_i (y := nI ((pr wt (k + 1) (wt.2.1 pl h k) + 1) * 9)) (pk_mul _ 9) ?_
                      refine lv_iload hx hb dX9_priceFrom_132 (lv_at hl 8 rfl) ?_
                      refine lv_iadd hx hb dX9_priceFrom_134 ?_
                      refine tp_i (y := nI ((pr wt (k + 1) (wt.2.1 pl h k) + 1) * 9 + k)) (nI_add _ _) ?_
                      refine va_mmin hx hb (C.2.2.1.trans hl.1.symm) hown (hts _ ml_X9_69) (hts _ mh_min_s) (hts _ in_J9) (hts _ mh_min_c) (Nat.le_of_ble_eq_true rfl) (Nat.le_of_ble_eq_true rfl) (Nat.le_of_ble_eq_true rfl) (Nat.le_of_ble_eq_true rfl) dX9_priceFrom_135 ?_
                      refine tp_i (y := nI (lsH wt (pr wt) pl h (k + 1))) (by rw [lsH_1 h_94]; exact min_nI (by have := hlb k; omega) (by omega)) ?_
                      refine lv_istore (lv' := [(5, .int (nI (lsH wt (pr wt) pl h (k + 1)))), (8, .int (nI (pr wt (k + 1) (wt.2.1 pl h k) + 1))), (7, .int (nI (wt.2.1 pl h k))), (0, .ref (B (80))), (1, .int (nI pl)), (2, .int (nI h)), (3, .int (nI dep)), (4, .int (nI (101 * pl + h))), (6, .int (nI k))]) hx hb dX9_priceFrom_138 hl (by decide) rfl (fun ls hl => ?_)
                      refine lv_iinc (v := nI (k + 1)) (lv' := [(6, .int (nI (k + 1))), (5, .int (nI (lsH wt (pr wt) pl h (k + 1)))), (8, .int (nI (pr wt (k + 1) (wt.2.1 pl h k) + 1))), (7, .int (nI (wt.2.1 pl h k))), (0, .ref (B (80))), (1, .int (nI pl)), (2, .int (nI h)), (3, .int (nI dep)), (4, .int (nI (101 * pl + h)))]) hx hb dX9_priceFrom_140 hl (k := 8) rfl (nI_1 _) (by decide) rfl (fun ls hl => ?_)
                      refine lv_goto (tgt := 82) hx hb dX9_priceFrom_143 (by decide) ?_
                      exact ih_a (k + 1) F_118 _ _ _ (by omega) (by omega) ((AG1.d hA hF_94).tr hF_118) hM_118 (hJ.tr hJ1) (hsu_1 hsu hJ1 (fun _ => hs_118)) hw (lv_sub hl [4, 5, 6, 7, 8, 1, 0] rfl)
                    · exact absurd c_102 (nI_m1 (by have := (hS.2.1 pl h k hp hh h_94).2.1; omega))
                  · have hw := hq_94
                    refine W.eq (g2 := F0 m 97 ls [.int (-1)]) rfl ?_
                    refine lv_istore (lv' := [(7, .int (-1)), (0, .ref (B (80))), (1, .int (nI pl)), (2, .int (nI h)), (3, .int (nI dep)), (4, .int (nI (101 * pl + h))), (5, .int (nI (lsH wt (pr wt) pl h k))), (6, .int (nI k))]) hx hb dX9_priceFrom_97 hl (by decide) rfl (fun ls hl => ?_)
                    refine lv_iload hx hb dX9_priceFrom_99 (lv_at hl 0 rfl) ?_
                    refine lv_iconst (v := -1) hx hb dX9_priceFrom_101 (by decide) ?_
                    refine lv_icmp_ne (tgt := 108) hx hb dX9_priceFrom_102 (by decide) (fun h9 => False.elim (by revert h9; decide)) (fun _ => ?_)
                    refine lv_goto (tgt := 140) hx hb dX9_priceFrom_105 (by decide) ?_
                    have hl : lv_has ls 9 [(7, .int (-1)), (0, .ref (B (80))), (1, .int (nI pl)), (2, .int (nI h)), (3, .int (nI dep)), (4, .int (nI (101 * pl + h))), (5, .int (nI (lsH wt (pr wt) pl h (k + 1)))), (6, .int (nI k))] := by rw [lsH_z h_94]; exact hl
                    refine lv_iinc (v := nI (k + 1)) (lv' := [(6, .int (nI (k + 1))), (7, .int (-1)), (0, .ref (B (80))), (1, .int (nI pl)), (2, .int (nI h)), (3, .int (nI dep)), (4, .int (nI (101 * pl + h))), (5, .int (nI (lsH wt (pr wt) pl h (k + 1))))]) hx hb dX9_priceFrom_140 hl (k := 7) rfl (nI_1 _) (by decide) rfl (fun ls hl => ?_)
                    refine lv_goto (tgt := 82) hx hb dX9_priceFrom_143 (by decide) ?_
                    exact ih_a (k + 1) F_94 _ _ _ (by omega) (by omega) (AG1.d hA hF_94) (by rw [hF_94 81 (by decide)]; exact hM1) (by rw [hF_94 81 (by decide)]; exact hJ) (hsu_1 hsu (by rw [hF_94 81 (by decide)]; exact MJ.rf) (fun h9 => absurd h9 h_94)) hw (lv_sub hl [2, 3, 4, 5, 6, 7, 0] rfl)
            exact lo_a _ 0 F _ _ _ (Nat.lt_succ_self _) (by omega) AG1.rf hMI MJ.rf (fun j hj => absurd hj (Nat.not_lt_zero j)) hw (lv_sub hl [3, 4, 5, 6, 2, 1, 0] rfl)
          · refine lv_aload_n hx hb dX9_priceFrom_64 rfl (lv_at hl 1 rfl) ?_
            refine g_r 1 (k2 := 81) C hw (hR.f rfl) rfl fl_X9_11 rfl hR.q81 dX9_priceFrom_65 ?_
            refine lv_iload hx hb dX9_priceFrom_68 (lv_at hl 0 rfl) ?_
            refine n_i (101 * pl + h) C hw (hR.f rfl) rfl rfl (show _ < 909 by omega) dX9_priceFrom_70 ?_
            refine tp_i (y := nI (lsA wt (pr wt) pl h)) ((hMI pl h hp hh c_61).2.1) ?_
            refine lv_bipush (v := 9) hx hb dX9_priceFrom_71 (by decide) ?_
            refine lv_idiv hx hb dX9_priceFrom_73 (by decide) ?_
            refine tp_i (y := nI (lsA wt (pr wt) pl h / 9)) (pk_div (d := 9) (by omega) (by decide) (by decide)) ?_
            exact r_i C hr hlk hw ⟨(by rw [pr_nt hS hp hh hnt]), F, AG1.rf, hMI, MJ.rf, Or.inr c_61, rfl⟩ dX9_priceFrom_74
      · exact absurd (nI_lt (b := 909) (by omega) (by decide)) c_26

theorem c_X9_priceFrom (E : cE) (tt : Nat × Nat × Nat) {X : List Nat} (B : Nat → Nat) (G : tG) {P : tP} {nh : Nat → Nat} {nc no : Nat} {mt om : Nat → Nat} (hR : RC X P nh nc no mt om) {c1 i1 : Nat} (hl_c1 : c1 < nc) (hi1 : i1 < 4) (hwi : P 80 4 = some (53 + c1)) (hpl : P 80 5 = some (12 + i1)) {rk : Nat → Nat → Nat} {wt : wT} {gd : Nat → Prop} (hS : WS wt rk (nh i1)) : ∀ (fu : Nat) (F : tF) (pl h dep : Nat), WLK F nh mt c1 i1 wt gd → MI wt (nh i1) (F 81) → gd pl → pl ≤ nh i1 → h ≤ 100 → rk pl h < fu → dep + rk pl h ≤ 17 → CT E tt yX9_priceFrom cX9_priceFrom 9 (some .int) (4 + fu) 0 0 [.ref (B (80)), .int (nI (pl)), .int (nI (h)), .int (nI (dep))] (wl E X B F G P) (fun r w => r = some (.int (nI (pr wt pl h))) ∧ ∃ F1 : tF, AG1 F F1 ∧ MI wt (nh i1) (F1 81) ∧ MJ (F 81) (F1 81) ∧ (wt.2.2 pl = true ∨ ¬ F1 81 (101 * pl + h) = -1) ∧ w = wl E X B F1 G P)
  | 0, _, _, _, _, _, _, _, _, _, hr, _ => absurd hr (Nat.not_lt_zero _)
  | fu + 1, F, pl, h, dep, hL, hM, hg, hp, hh, hr, hd => c_X9_priceFrom_s E tt B F G hR hl_c1 hi1 hwi hpl hS (c_X9_priceFrom E tt B G hR hl_c1 hi1 hwi hpl hS fu) hL hM hg hp hh hr hd
