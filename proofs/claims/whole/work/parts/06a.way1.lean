/-! ways of the class: where the wire is, and how hard it gets -/
/-- the size at a place of a way: 0 as it came, i + 1 behind hole i -/
def szP (V : tF) (nh : Nat → Nat) (c i pl : Nat) : Int32 := if pl = 0 then V 116 c else if pl - 1 < nh i then w_wide V (8 * i + (pl - 1)) else 0
theorem w_rf_neg {F : tF} {mt : Nat} {j s h : Int32} {q : Nat} {u : Int32} (hn : ¬ w_rf F mt j s h q u = 0) : w_rf F mt j s h q u < 0 := by
  revert hn
  unfold w_rf
  repeat' split
  all_goals intro hn
  all_goals first | exact absurd rfl hn | decide
set_option maxHeartbeats 4000000 in
set_option maxRecDepth 100000 in
theorem c_X9_stepAt (E : cE) (tt : Nat × Nat × Nat) {X : List Nat} (B : Nat → Nat) (F : tF) (G : tG) {P : tP} {nh : Nat → Nat} {nc no : Nat} {mt om : Nat → Nat} (hR : RC X P nh nc no mt om) {len : Nat} (hlen : F 80 3 = nI len) (hl17 : len ≤ 17) (x0 : Int32)  : CT E tt yX9_stepAt cX9_stepAt 2 (some .int) 0 0 0 [.ref (B (80)), .int (x0)] (wl E X B F G P) (fun r w => r = some (.int (if 0 ≤ x0 ∧ x0 < nI len then F 82 x0.toNatClampNeg else -1)) ∧ w = (wl E X B F G P)) := by
  refine CT.mk (by decide +kernel) (Nat.le_of_ble_eq_true rfl) ?_
  intro l p e s m below meth c A ls C hr hlk hnm hw hl
  have hx := C.1
  have hb := C.2.1
  have hts := C.2.2.2.2
  have hown : s.vm.findClass RX9 = some m.cls := C.2.2.2.1
  have hl : lv_has ls 2 [(0, .ref (B (80))), (1, .int (x0))] := hl
  refine lv_iload_n hx hb dX9_stepAt_0 rfl (lv_at hl 1 rfl) ?_
  refine lv_if_lt (tgt := 21) hx hb dX9_stepAt_1 (by decide) (fun c_1 => ?_) (fun c_1 => ?_)
  · refine lv_iconst (v := -1) hx hb dX9_stepAt_21 (by decide) ?_
    refine lv_goto (tgt := 31) hx hb dX9_stepAt_22 (by decide) ?_
    exact r_i C hr hlk hw ⟨(by rw [if_neg (fun h9 => absurd h9.1 (Int32.not_le.mpr c_1))]), rfl⟩ dX9_stepAt_31
  · refine lv_iload_n hx hb dX9_stepAt_4 rfl (lv_at hl 1 rfl) ?_
    refine lv_aload_n hx hb dX9_stepAt_5 rfl (lv_at hl 0 rfl) ?_
    refine g_i 3 C hw (hR.f rfl) rfl fl_X9_22 rfl dX9_stepAt_6 ?_
    refine tp_i (y := nI len) (hlen) ?_
    refine lv_icmp_ge (tgt := 21) hx hb dX9_stepAt_9 (by decide) (fun c_9 => ?_) (fun c_9 => ?_)
    · refine lv_iconst (v := -1) hx hb dX9_stepAt_21 (by decide) ?_
      refine lv_goto (tgt := 31) hx hb dX9_stepAt_22 (by decide) ?_
      exact r_i C hr hlk hw ⟨(by rw [if_neg (fun h9 => absurd c_9 (Int32.not_le.mpr h9.2))]), rfl⟩ dX9_stepAt_31
    · refine lv_iload_n hx hb dX9_stepAt_12 rfl (lv_at hl 1 rfl) ?_
      refine lv_aload_n hx hb dX9_stepAt_13 rfl (lv_at hl 0 rfl) ?_
      refine g_r 2 (k2 := 82) C hw (hR.f rfl) rfl fl_X9_15 rfl hR.q82 dX9_stepAt_14 ?_
      refine a_n (v := 17) C hw (hR.f rfl) (by decide) (by decide) rfl dX9_stepAt_17 ?_
      refine lv_icmp_lt (tgt := 25) hx hb dX9_stepAt_18 (by decide) (fun c_18 => ?_) (fun c_18 => ?_)
      · obtain ⟨j0, hj0, rfl⟩ := n_lt (n := len) (Int32.not_lt.mp c_1) (Int32.not_le.mp c_9) (by omega)
        have hz0 := i4_cl (i := j0) (by omega)
        refine lv_aload_n hx hb dX9_stepAt_25 rfl (lv_at hl 0 rfl) ?_
        refine g_r 2 (k2 := 82) C hw (hR.f rfl) rfl fl_X9_15 rfl hR.q82 dX9_stepAt_26 ?_
        refine lv_iload_n hx hb dX9_stepAt_29 rfl (lv_at hl 1 rfl) ?_
        refine n_i j0 C hw (hR.f rfl) rfl rfl (show _ < 17 by omega) dX9_stepAt_30 ?_
        exact r_i C hr hlk hw ⟨(by rw [if_pos ⟨Int32.not_lt.mp c_1, Int32.not_le.mp c_9⟩, hz0]), rfl⟩ dX9_stepAt_31
      · exfalso
        rw [Int32.not_lt] at c_18
        obtain ⟨j0, hj0, rfl⟩ := n_lt (n := len) (Int32.not_lt.mp c_1) (Int32.not_le.mp c_9) (by omega)
        exact absurd ((nI_leI (a := 17) (by decide) (by omega)).mp c_18) (by omega)

set_option maxHeartbeats 4000000 in
set_option maxRecDepth 100000 in
theorem c_X9_sizeAt (E : cE) (tt : Nat × Nat × Nat) {X : List Nat} (B : Nat → Nat) (F : tF) (G : tG) {P : tP} {nh : Nat → Nat} {nc no : Nat} {mt om : Nat → Nat} (hR : RC X P nh nc no mt om) {c1 i1 : Nat} (hl_c1 : c1 < nc) (hi1 : i1 < 4) (hwi : P 80 4 = some (53 + c1)) (hpl : P 80 5 = some (12 + i1)) {pl : Nat} (hp8 : pl ≤ 8)  : CT E tt yX9_sizeAt cX9_sizeAt 3 (some .int) 1 0 0 [.ref (B (80)), .int (nI pl)] (wl E X B F G P) (fun r w => r = some (.int (szP (vF F) nh c1 i1 pl)) ∧ w = (wl E X B F G P)) := by
  refine CT.mk (by decide +kernel) (Nat.le_of_ble_eq_true rfl) ?_
  intro l p e s m below meth c A ls C hr hlk hnm hw hl
  have hx := C.1
  have hb := C.2.1
  have hts := C.2.2.2.2
  have hown : s.vm.findClass RX9 = some m.cls := C.2.2.2.1
  have hl : lv_has ls 3 [(0, .ref (B (80))), (1, .int (nI pl))] := hl
  have hn16 := hR.nc16
  have h8 := hR.nh8 hi1
  refine lv_aload_n hx hb dX9_sizeAt_0 rfl (lv_at hl 0 rfl) ?_
  refine g_r 4 (k2 := 53 + c1) C hw (hR.f rfl) rfl fl_X9_26 rfl hwi dX9_sizeAt_1 ?_
  refine lv_ifnull hx hb dX9_sizeAt_4 ?_
  refine lv_aload_n hx hb dX9_sizeAt_7 rfl (lv_at hl 0 rfl) ?_
  refine g_r 5 (k2 := 12 + i1) C hw (hR.f rfl) rfl fl_X9_30 rfl hpl dX9_sizeAt_8 ?_
  refine lv_ifnonnull (tgt := 16) hx hb dX9_sizeAt_11 (by decide) ?_
  refine lv_iload_n hx hb dX9_sizeAt_16 rfl (lv_at hl 1 rfl) ?_
  refine lv_if_ne (tgt := 28) hx hb dX9_sizeAt_17 (by decide) (fun c_17 => ?_) (fun c_17 => ?_)
  · have hp0 : ¬ pl = 0 := fun h9 => c_17 (by rw [h9]; rfl)
    refine lv_aload_n hx hb dX9_sizeAt_28 rfl (lv_at hl 0 rfl) ?_
    refine g_r 5 (k2 := 12 + i1) C hw (hR.f rfl) rfl fl_X9_30 rfl hpl dX9_sizeAt_29 ?_
    refine lv_iload_n hx hb dX9_sizeAt_32 rfl (lv_at hl 1 rfl) ?_
    refine lv_iconst (v := 1) hx hb dX9_sizeAt_33 (by decide) ?_
    refine lv_isub hx hb dX9_sizeAt_34 ?_
    refine tp_i (y := nI (pl - 1)) (pk_sub (a := pl) (b := 1) (by omega)) ?_
    refine kV C hw (c_X7_holeAt E tt B F G hR (i0 := i1) hi1 (nI (pl - 1))) vy_X7_holeAt ml_X9_78 (rcv hw (hR.xl (by omega)) (kd_plate (by omega)) (by decide) (q2 := (RX7, TX7, 2)) rfl) rfl hl.1 (rest := []) rfl dX9_sizeAt_35 (Nat.le_of_ble_eq_true rfl) ⟨by decide, by decide⟩ ⟨Nat.le_of_ble_eq_true rfl, Nat.le_of_ble_eq_true rfl⟩ (fun v_35 ws_35 H locs hp_35 hq_35 => ?_)
    clear hw
    rcases hp_35 with ⟨j1, hl_j1, he_j1, rfl, rfl⟩ | ⟨h_35, rfl, rfl⟩
    · have hw := hq_35
      refine W.eq (g2 := F0 m 38 ls [.ref (B (20 + (8 * i1 + j1)))]) rfl ?_
      have hj1 : pl - 1 = j1 := (nI_eq (by omega) (by omega)).mp he_j1
      have vh0 := vF_at (lc_h0 (q := 8 * i1 + j1) (by omega)) F
      have vh1 := vF_at (lc_h1 (q := 8 * i1 + j1) (by omega)) F
      refine lv_astore_n (lv' := [(2, .ref (B (20 + (8 * i1 + j1)))), (0, .ref (B (80))), (1, .int (nI pl))]) hx hb dX9_sizeAt_38 rfl hl (by decide) rfl (fun ls hl => ?_)
      refine lv_aload_n hx hb dX9_sizeAt_39 rfl (lv_at hl 0 rfl) ?_
      refine lv_ifnonnull (tgt := 47) hx hb dX9_sizeAt_40 (by decide) ?_
      refine lv_aload_n hx hb dX9_sizeAt_47 rfl (lv_at hl 0 rfl) ?_
      refine kV C hw (c_X3_wide E tt B F G P (hR.xh (by omega) (by omega)) (kd_hole (by omega)) ) vy_X3_wide ml_X9_84 (rcv hw (hR.xh (by omega) (by omega)) (kd_hole (by omega)) (by decide) (q2 := (RX3, TX3, 3)) rfl) rfl hl.1 (rest := []) rfl dX9_sizeAt_48 (Nat.le_of_ble_eq_true rfl) ⟨by decide, by decide⟩ ⟨Nat.le_of_ble_eq_true rfl, Nat.le_of_ble_eq_true rfl⟩ (fun v_48 ws_48 H locs hp_48 hq_48 => ?_)
      clear hw
      obtain ⟨rfl, rfl⟩ := hp_48
      have hw := hq_48
      refine W.eq (g2 := F0 m 51 ls [.int ((F (20 + (8 * i1 + j1)) 0 + F (20 + (8 * i1 + j1)) 1 / 1000))]) rfl ?_
      exact r_i C hr hlk hw ⟨(by rw [szP, if_neg hp0, if_pos (by omega), hj1, w_wide, vh0, vh1]), rfl⟩ dX9_sizeAt_51
    · have hw := hq_35
      refine W.eq (g2 := F0 m 38 ls [.null]) rfl ?_
      refine lv_astore_nN (lv' := [(2, .null), (0, .ref (B (80))), (1, .int (nI pl))]) hx hb dX9_sizeAt_38 rfl hl (by decide) rfl (fun ls hl => ?_)
      refine lv_aload_nN hx hb dX9_sizeAt_39 rfl (lv_at hl 0 rfl) ?_
      refine lv_ifnonnullN hx hb dX9_sizeAt_40 ?_
      refine lv_iconst (v := 0) hx hb dX9_sizeAt_43 (by decide) ?_
      refine lv_goto (tgt := 51) hx hb dX9_sizeAt_44 (by decide) ?_
      exact r_i C hr hlk hw ⟨(by rw [szP, if_neg hp0, if_neg (fun h9 => h_35 (pl - 1) h9 rfl)]), rfl⟩ dX9_sizeAt_51
  · have hp0 : pl = 0 := (nI_eq (by omega) (by decide)).mp c_17
    refine lv_aload_n hx hb dX9_sizeAt_20 rfl (lv_at hl 0 rfl) ?_
    refine g_r 4 (k2 := 53 + c1) C hw (hR.f rfl) rfl fl_X9_26 rfl hwi dX9_sizeAt_21 ?_
    refine g_i 1 C hw (hR.xc (by omega)) (kd_coil (by omega)) fl_X9_75 rfl dX9_sizeAt_24 ?_
    exact r_i C hr hlk hw ⟨(by rw [szP, if_pos hp0, vF_at (lc_c1 (c := c1) (by omega))]), rfl⟩ dX9_sizeAt_27

set_option maxHeartbeats 4000000 in
set_option maxRecDepth 100000 in
theorem c_X9_hardnessBehind (E : cE) (tt : Nat × Nat × Nat) {X : List Nat} (B : Nat → Nat) (F : tF) (G : tG) {P : tP} {nh : Nat → Nat} {nc no : Nat} {mt om : Nat → Nat} (hR : RC X P nh nc no mt om) {c1 i1 : Nat} (hl_c1 : c1 < nc) (hi1 : i1 < 4) (hwi : P 80 4 = some (53 + c1)) (hpl : P 80 5 = some (12 + i1)) {pl n : Nat} (hp8 : pl ≤ 8) (hn8 : n < 8) (h0 : Int32) (hd : ¬ (szP (vF F) nh c1 i1 pl).toInt64 * (szP (vF F) nh c1 i1 pl).toInt64 = 0)  : CT E tt yX9_hardnessBehind cX9_hardnessBehind 5 (some .int) 3 0 0 [.ref (B (80)), .int (nI pl), .int (h0), .int (nI n)] (wl E X B F G P) (fun r w => r = some (.int (if n < nh i1 ∧ w_rf (vF F) (mt c1) (F (53 + c1) 4) (szP (vF F) nh c1 i1 pl) h0 (8 * i1 + n) (F 80 6) = 0 then w_hard (vF F) (mt c1) (szP (vF F) nh c1 i1 pl) h0 (w_wide (vF F) (8 * i1 + n)) else -1)) ∧ ∃ F1 : tF, (∀ k, k ≠ 79 → F1 k = F k) ∧ w = wl E X B F1 G P) := by
  refine CT.mk (by decide +kernel) (Nat.le_of_ble_eq_true rfl) ?_
  intro l p e s m below meth c A ls C hr hlk hnm hw hl
  have hx := C.1
  have hb := C.2.1
  have hts := C.2.2.2.2
  have hown : s.vm.findClass RX9 = some m.cls := C.2.2.2.1
  have hl : lv_has ls 5 [(0, .ref (B (80))), (1, .int (nI pl)), (2, .int (h0)), (3, .int (nI n))] := hl
  have hn16 := hR.nc16
  have h8 := hR.nh8 hi1
  refine lv_aload_n hx hb dX9_hardnessBehind_0 rfl (lv_at hl 0 rfl) ?_
  refine g_r 4 (k2 := 53 + c1) C hw (hR.f rfl) rfl fl_X9_26 rfl hwi dX9_hardnessBehind_1 ?_
  refine lv_ifnull hx hb dX9_hardnessBehind_4 ?_
  refine lv_aload_n hx hb dX9_hardnessBehind_7 rfl (lv_at hl 0 rfl) ?_
  refine g_r 5 (k2 := 12 + i1) C hw (hR.f rfl) rfl fl_X9_30 rfl hpl dX9_hardnessBehind_8 ?_
  refine lv_ifnonnull (tgt := 16) hx hb dX9_hardnessBehind_11 (by decide) ?_
  refine lv_aload_n hx hb dX9_hardnessBehind_16 rfl (lv_at hl 0 rfl) ?_
  refine g_r 5 (k2 := 12 + i1) C hw (hR.f rfl) rfl fl_X9_30 rfl hpl dX9_hardnessBehind_17 ?_
  refine lv_iload_n hx hb dX9_hardnessBehind_20 rfl (lv_at hl 3 rfl) ?_
  refine kV C hw (c_X7_holeAt E tt B F G hR (i0 := i1) hi1 (nI n)) vy_X7_holeAt ml_X9_78 (rcv hw (hR.xl (by omega)) (kd_plate (by omega)) (by decide) (q2 := (RX7, TX7, 2)) rfl) rfl hl.1 (rest := []) rfl dX9_hardnessBehind_21 (Nat.le_of_ble_eq_true rfl) ⟨by decide, by decide⟩ ⟨Nat.le_of_ble_eq_true rfl, Nat.le_of_ble_eq_true rfl⟩ (fun v_21 ws_21 H locs hp_21 hq_21 => ?_)
  clear hw
  rcases hp_21 with ⟨j1, hl_j1, he_j1, rfl, rfl⟩ | ⟨h_21, rfl, rfl⟩
  · have hw := hq_21
    refine W.eq (g2 := F0 m 24 ls [.ref (B (20 + (8 * i1 + j1)))]) rfl ?_
    have hj1 : n = j1 := (nI_eq (by omega) (by omega)).mp he_j1
    subst hj1
    refine lv_astore (lv' := [(4, .ref (B (20 + (8 * i1 + n)))), (0, .ref (B (80))), (1, .int (nI pl)), (2, .int (h0)), (3, .int (nI n))]) hx hb dX9_hardnessBehind_24 hl (by decide) rfl (fun ls hl => ?_)
    refine lv_aload hx hb dX9_hardnessBehind_26 (lv_at hl 0 rfl) ?_
    refine lv_ifnull hx hb dX9_hardnessBehind_28 ?_
    refine lv_aload_n hx hb dX9_hardnessBehind_31 rfl (lv_at hl 1 rfl) ?_
    refine g_r 0 (k2 := 79) C hw (hR.f rfl) rfl fl_X9_18 rfl hR.q80 dX9_hardnessBehind_32 ?_
    refine lv_aload_n hx hb dX9_hardnessBehind_35 rfl (lv_at hl 1 rfl) ?_
    refine g_r 4 (k2 := 53 + c1) C hw (hR.f rfl) rfl fl_X9_26 rfl hwi dX9_hardnessBehind_36 ?_
    refine lv_aload_n hx hb dX9_hardnessBehind_39 rfl (lv_at hl 1 rfl) ?_
    refine lv_iload_n hx hb dX9_hardnessBehind_40 rfl (lv_at hl 2 rfl) ?_
    refine kV C hw (c_X9_sizeAt E tt B F G hR hl_c1 hi1 hwi hpl (pl := pl) (by omega)) vy_X9_sizeAt ml_X9_60 (rcv hw (hR.f rfl) rfl (by decide) (q2 := (RX9, TX9, 9)) rfl) rfl hl.1 (rest := [.ref (B (53 + c1)), .ref (B (79))]) rfl dX9_hardnessBehind_41 (Nat.le_of_ble_eq_true rfl) ⟨by decide, by decide⟩ ⟨Nat.le_of_ble_eq_true rfl, Nat.le_of_ble_eq_true rfl⟩ (fun v_41 ws_41 H locs hp_41 hq_41 => ?_)
    clear hw
    obtain ⟨rfl, rfl⟩ := hp_41
    have hw := hq_41
    refine W.eq (g2 := F0 m 44 ls [.int (szP (vF F) nh c1 i1 pl), .ref (B (53 + c1)), .ref (B (79))]) rfl ?_
    refine lv_iload_n hx hb dX9_hardnessBehind_44 rfl (lv_at hl 3 rfl) ?_
    refine lv_aload hx hb dX9_hardnessBehind_45 (lv_at hl 0 rfl) ?_
    refine lv_aload_n hx hb dX9_hardnessBehind_47 rfl (lv_at hl 1 rfl) ?_
    refine g_i 6 C hw (hR.f rfl) rfl fl_X9_34 rfl dX9_hardnessBehind_48 ?_
    refine kV C hw (c_X2_refusal E tt B F G hR (c1 := c1) (by omega) (i1 := i1) (j1 := n) (by omega) (by omega) (szP (vF F) nh c1 i1 pl) (h0) (F 80 6) (hd)) vy_X2_refusal ml_X9_90 (rcv hw (hR.f rfl) rfl (by decide) (q2 := (RX2, TX2, 5)) rfl) rfl hl.1 (rest := []) rfl dX9_hardnessBehind_51 (Nat.le_of_ble_eq_true rfl) ⟨by decide, by decide⟩ ⟨Nat.le_of_ble_eq_true rfl, Nat.le_of_ble_eq_true rfl⟩ (fun v_51 ws_51 H locs hp_51 hq_51 => ?_)
    clear hw
    obtain ⟨rfl, F_51, hF_51, hh_51, rfl⟩ := hp_51
    have hw := hq_51
    refine W.eq (g2 := F0 m 54 ls [.int (w_rf (vF F) (mt c1) (F (53 + c1) 4) (szP (vF F) nh c1 i1 pl) (h0) (8 * i1 + n) (F 80 6))]) rfl ?_
    refine lv_if_ge (tgt := 59) hx hb dX9_hardnessBehind_54 (by decide) (fun c_54 => ?_) (fun c_54 => ?_)
    · have hrf : w_rf (vF F) (mt c1) (F (53 + c1) 4) (szP (vF F) nh c1 i1 pl) h0 (8 * i1 + n) (F 80 6) = 0 := Classical.byContradiction (fun h9 => absurd c_54 (Int32.not_le.mpr (w_rf_neg h9)))
      refine lv_aload_n hx hb dX9_hardnessBehind_59 rfl (lv_at hl 1 rfl) ?_
      refine g_r 0 (k2 := 79) C hw (hR.f rfl) rfl fl_X9_18 rfl hR.q80 dX9_hardnessBehind_60 ?_
      refine g_i 2 C hw (hR.f rfl) rfl fl_X9_96 rfl dX9_hardnessBehind_63 ?_
      refine tp_i (y := w_hard (vF F) (mt c1) (szP (vF F) nh c1 i1 pl) h0 (w_wide (vF F) (8 * i1 + n))) (hh_51 hrf) ?_
      exact r_i C hr hlk hw ⟨(by rw [if_pos ⟨hl_j1, hrf⟩]), F_51, hF_51, rfl⟩ dX9_hardnessBehind_66
    · have hrf : ¬ w_rf (vF F) (mt c1) (F (53 + c1) 4) (szP (vF F) nh c1 i1 pl) h0 (8 * i1 + n) (F 80 6) = 0 := fun h9 => c_54 (by rw [h9]; decide)
      refine lv_iconst (v := -1) hx hb dX9_hardnessBehind_57 (by decide) ?_
      exact r_i C hr hlk hw ⟨(by rw [if_neg (fun h9 => hrf h9.2)]), F_51, hF_51, rfl⟩ dX9_hardnessBehind_58
  · have hw := hq_21
    refine W.eq (g2 := F0 m 24 ls [.null]) rfl ?_
    refine lv_astoreN (lv' := [(4, .null), (0, .ref (B (80))), (1, .int (nI pl)), (2, .int (h0)), (3, .int (nI n))]) hx hb dX9_hardnessBehind_24 hl (by decide) rfl (fun ls hl => ?_)
    refine lv_aloadN hx hb dX9_hardnessBehind_26 (lv_at hl 0 rfl) ?_
    refine lv_ifnullN (tgt := 57) hx hb dX9_hardnessBehind_28 (by decide) ?_
    refine lv_iconst (v := -1) hx hb dX9_hardnessBehind_57 (by decide) ?_
    exact r_i C hr hlk hw ⟨(by rw [if_neg (fun h9 => h_21 n h9.1 rfl)]), F, fun _ _ => rfl, rfl⟩ dX9_hardnessBehind_58

set_option maxHeartbeats 4000000 in
set_option maxRecDepth 100000 in
theorem c_X11_deliver (E : cE) (tt : Nat × Nat × Nat) {X : List Nat} (B : Nat → Nat) (F : tF) (G : tG) {P : tP} {nh : Nat → Nat} {nc no : Nat} {mt om : Nat → Nat} (hR : RC X P nh nc no mt om) {c1 : Nat} (hl_c1 : c1 < nc) {o1 : Nat} (hl_o1 : o1 < no)  : CT E tt yX11_deliver cX11_deliver 5 none 1 0 0 [.ref (B (0)), .ref (B (53 + c1)), .ref (B (70 + o1))] (wl E X B F G P) (fun r w => r = none ∧ w = wl E X B (uF F (70 + o1) 4 1) (uG (uG G (53 + c1) 3 (G (53 + c1) 3 - (F (53 + c1) 1).toInt64 * (F (53 + c1) 1).toInt64 * (F (70 + o1) 3).toInt64)) 0 14 (G 0 14 + (F (53 + c1) 1).toInt64 * (F (53 + c1) 1).toInt64 * (F (70 + o1) 3).toInt64)) P) := by
  refine CT.mk (by decide +kernel) (Nat.le_of_ble_eq_true rfl) ?_
  intro l p e s m below meth c A ls C hr hlk hnm hw hl
  have hx := C.1
  have hb := C.2.1
  have hts := C.2.2.2.2
  have hown : s.vm.findClass RX11 = some m.cls := C.2.2.2.1
  have hl : lv_has ls 5 [(0, .ref (B (0))), (1, .ref (B (53 + c1))), (2, .ref (B (70 + o1)))] := hl
  have hn16 := hR.nc16
  have ho6 := hR.no6
  refine lv_aload_n hx hb dX11_deliver_0 rfl (lv_at hl 1 rfl) ?_
  refine lv_aload_n hx hb dX11_deliver_1 rfl (lv_at hl 2 rfl) ?_
  refine g_i 3 C hw (hR.xo (by omega)) (kd_order (by omega)) fl_X11_393 rfl dX11_deliver_2 ?_
  refine kV C hw (c_X0_stuffOf E tt B F G P (hR.xc (by omega)) (kd_coil (by omega)) (F (70 + o1) 3)) vy_X0_stuffOf ml_X11_267 (rcv hw (hR.xc (by omega)) (kd_coil (by omega)) (by decide) (q2 := (RX0, TX0, 7)) rfl) rfl hl.1 (rest := []) rfl dX11_deliver_5 (Nat.le_of_ble_eq_true rfl) ⟨by decide, by decide⟩ ⟨Nat.le_of_ble_eq_true rfl, Nat.le_of_ble_eq_true rfl⟩ (fun v_5 ws_5 H locs hp_5 hq_5 => ?_)
  clear hw
  obtain ⟨rfl, rfl⟩ := hp_5
  have hw := hq_5
  refine W.eq (g2 := F0 m 8 ls [.long ((F (53 + c1) 1).toInt64 * (F (53 + c1) 1).toInt64 * (F (70 + o1) 3 : Int32).toInt64)]) rfl ?_
  refine lv_lstore_n (lv' := [(3, .long ((F (53 + c1) 1).toInt64 * (F (53 + c1) 1).toInt64 * (F (70 + o1) 3 : Int32).toInt64)), (0, .ref (B (0))), (1, .ref (B (53 + c1))), (2, .ref (B (70 + o1)))]) hx hb dX11_deliver_8 rfl hl (by decide) rfl (fun ls hl => ?_)
  refine lv_aload_n hx hb dX11_deliver_9 rfl (lv_at hl 2 rfl) ?_
  refine lv_dup hx hb dX11_deliver_10 rfl ?_
  refine g_l 3 C hw (hR.xc (by omega)) (kd_coil (by omega)) fl_X11_176 rfl dX11_deliver_11 ?_
  refine lv_lload_n hx hb dX11_deliver_14 rfl (lv_at hl 0 rfl) ?_
  refine lv_lsub hx hb dX11_deliver_15 ?_
  refine p_l 3 C hw (hR.xc (by omega)) (kd_coil (by omega)) fl_X11_176 fc_0 fn_0_3 (fun h9 => by cases h9) rfl rfl rfl dX11_deliver_16 (fun H locs hw => ?_)
  refine lv_aload_n hx hb dX11_deliver_19 rfl (lv_at hl 1 rfl) ?_
  refine lv_dup hx hb dX11_deliver_20 rfl ?_
  refine g_l 14 C hw (hR.f rfl) rfl fl_X11_367 rfl dX11_deliver_21 ?_
  refine tp_l (y := G 0 14) ((uG_n _ _ (Or.inl (by omega))).trans (rfl)) ?_
  refine lv_lload_n hx hb dX11_deliver_24 rfl (lv_at hl 0 rfl) ?_
  refine lv_ladd hx hb dX11_deliver_25 ?_
  refine p_l 14 C hw (hR.f rfl) rfl fl_X11_367 fc_11 fn_11_14 (fun h9 => by cases h9) rfl rfl rfl dX11_deliver_26 (fun H locs hw => ?_)
  refine lv_aload_n hx hb dX11_deliver_29 rfl (lv_at hl 3 rfl) ?_
  refine lv_iconst (v := 1) hx hb dX11_deliver_30 (by decide) ?_
  refine p_i 4 C hw (hR.xo (by omega)) (kd_order (by omega)) fl_X11_327 fc_6 fn_6_4 (fun h9 => by cases h9) rfl rfl rfl dX11_deliver_31 (fun H locs hw => ?_)
  exact r_v C hr hlk hw ⟨rfl, rfl⟩ dX11_deliver_34
