set_option maxHeartbeats 4000000 in
set_option maxRecDepth 100000 in
theorem c_X7_holeAt (E : cE) (tt : Nat × Nat × Nat) {X : List Nat} (B : Nat → Nat) (F : tF) (G : tG) {P : tP} {nh : Nat → Nat} {nc no : Nat} {mt om : Nat → Nat} (hR : RC X P nh nc no mt om) {i0 : Nat} (hi0 : i0 < 4) (x0 : Int32)  : CT E tt yX7_holeAt cX7_holeAt 2 (some (.object "WireMill$Hole")) 0 0 0 [.ref (B (12 + i0)), .int (x0)] (wl E X B F G P) (fun r w => (∃ j : Nat, j < nh i0 ∧ x0 = nI j ∧ r = some (.ref (B (20 + (8 * i0 + j)))) ∧ w = (wl E X B F G P)) ∨ ((∀ j : Nat, j < nh i0 → x0 ≠ nI j) ∧ r = some .null ∧ w = (wl E X B F G P))) := by
  refine CT.mk (by decide +kernel) (Nat.le_of_ble_eq_true rfl) ?_
  intro l p e s m below meth c A ls C hr hlk hnm hw hl
  have hx := C.1
  have hb := C.2.1
  have hts := C.2.2.2.2
  have hown : s.vm.findClass RX7 = some m.cls := C.2.2.2.1
  have hl : lv_has ls 2 [(0, .ref (B (12 + i0))), (1, .int (x0))] := hl
  have hn8 := hR.nh8 hi0
  refine lv_iload_n hx hb dX7_holeAt_0 rfl (lv_at hl 1 rfl) ?_
  refine lv_if_lt (tgt := 13) hx hb dX7_holeAt_1 (by decide) (fun c_1 => ?_) (fun c_1 => ?_)
  · refine lv_null hx hb dX7_holeAt_13 ?_
    refine lv_goto (tgt := 23) hx hb dX7_holeAt_14 (by decide) ?_
    exact r_a (v := none) C hr hlk hw (Or.inr ⟨fun j hj e => by rw [e] at c_1; exact nI_pos (by omega) c_1, rfl, rfl⟩) dX7_holeAt_23
  · refine lv_iload_n hx hb dX7_holeAt_4 rfl (lv_at hl 1 rfl) ?_
    refine lv_aload_n hx hb dX7_holeAt_5 rfl (lv_at hl 0 rfl) ?_
    refine g_r 0 (k2 := 16 + i0) C hw (hR.xl (by omega)) (kd_plate (by omega)) fl_X7_11 rfl (hR.pa (by omega)) dX7_holeAt_6 ?_
    refine a_n (v := 8) C hw (hR.xa (by omega)) (by rw [kd_harr (by omega)]; decide) (by rw [kd_harr (by omega)]; decide) (by rw [ln_harr (by omega)]; rfl) dX7_holeAt_9 ?_
    refine lv_icmp_lt (tgt := 17) hx hb dX7_holeAt_10 (by decide) (fun c_10 => ?_) (fun c_10 => ?_)
    · obtain ⟨j0, hj0, rfl⟩ := n_lt (n := 8) (Int32.not_lt.mp c_1) c_10 (by decide)
      refine lv_aload_n hx hb dX7_holeAt_17 rfl (lv_at hl 0 rfl) ?_
      refine g_r 0 (k2 := 16 + i0) C hw (hR.xl (by omega)) (kd_plate (by omega)) fl_X7_11 rfl (hR.pa (by omega)) dX7_holeAt_18 ?_
      refine lv_iload_n hx hb dX7_holeAt_21 rfl (lv_at hl 1 rfl) ?_
      refine n_q j0 (r := 17) C hw (hR.xa (by omega)) (kd_harr (by omega)) (by decide) rfl rfl (by rw [ln_harr (by omega)]; omega) dX7_holeAt_22 ?_
      rw [hR.ph hi0 hj0]
      by_cases hjn : j0 < nh i0
      · rw [if_pos hjn]
        exact r_a (v := some (B (20 + (8 * i0 + j0)))) C hr hlk hw (Or.inl ⟨j0, hjn, rfl, rfl, rfl⟩) dX7_holeAt_23
      rw [if_neg hjn]
      exact r_a (v := none) C hr hlk hw (Or.inr ⟨fun j hj e => hjn (by have := (nI_eq (by omega) (by omega)).mp e; omega), rfl, rfl⟩) dX7_holeAt_23
    · refine lv_null hx hb dX7_holeAt_13 ?_
      refine lv_goto (tgt := 23) hx hb dX7_holeAt_14 (by decide) ?_
      exact r_a (v := none) C hr hlk hw (Or.inr ⟨fun j hj e => c_10 (by rw [e]; exact nI_lt (b := 8) (by omega) (by decide)), rfl, rfl⟩) dX7_holeAt_23

set_option maxHeartbeats 4000000 in
set_option maxRecDepth 100000 in
theorem c_X11_holeAt (E : cE) (tt : Nat × Nat × Nat) {X : List Nat} (B : Nat → Nat) (F : tF) (G : tG) {P : tP} {nh : Nat → Nat} {nc no : Nat} {mt om : Nat → Nat} (hR : RC X P nh nc no mt om) (p0 h0 : Int32)  : CT E tt yX11_holeAt cX11_holeAt 4 (some (.object "WireMill$Hole")) 1 0 0 [.ref (B (0)), .int (p0), .int (h0)] (wl E X B F G P) (fun r w => (∃ i j : Nat, i < 4 ∧ j < nh i ∧ p0 = nI i ∧ h0 = nI j ∧ r = some (.ref (B (20 + (8 * i + j)))) ∧ w = (wl E X B F G P)) ∨ ((¬ ok_hole nh p0 h0 = true) ∧ r = some .null ∧ w = (wl E X B F G P))) := by
  refine CT.mk (by decide +kernel) (Nat.le_of_ble_eq_true rfl) ?_
  intro l p e s m below meth c A ls C hr hlk hnm hw hl
  have hx := C.1
  have hb := C.2.1
  have hts := C.2.2.2.2
  have hown : s.vm.findClass RX11 = some m.cls := C.2.2.2.1
  have hl : lv_has ls 4 [(0, .ref (B (0))), (1, .int (p0)), (2, .int (h0))] := hl
  refine lv_aload_n hx hb dX11_holeAt_0 rfl (lv_at hl 0 rfl) ?_
  refine lv_iload_n hx hb dX11_holeAt_1 rfl (lv_at hl 1 rfl) ?_
  refine kV C hw (c_X11_plateAt E tt B F G hR (p0)) vy_X11_plateAt ml_X11_132 (rcv hw (hR.f rfl) rfl (by decide) (q2 := (RX11, TX11, 19)) rfl) rfl hl.1 (rest := []) rfl dX11_holeAt_2 (Nat.le_of_ble_eq_true rfl) ⟨by decide, by decide⟩ ⟨Nat.le_of_ble_eq_true rfl, Nat.le_of_ble_eq_true rfl⟩ (fun v_2 ws_2 H locs hp_2 hq_2 => ?_)
  clear hw
  rcases hp_2 with ⟨i1, hl_i1, rfl, rfl, rfl⟩ | ⟨h_2, rfl, rfl⟩
  · have hw := hq_2
    refine W.eq (g2 := F0 m 5 ls [.ref (B (12 + i1))]) rfl ?_
    have hz_i1 := i4_cl (i := i1) (by omega)
    refine lv_astore_n (lv' := [(3, .ref (B (12 + i1))), (0, .ref (B (0))), (1, .int (nI i1)), (2, .int (h0))]) hx hb dX11_holeAt_5 rfl hl (by decide) rfl (fun ls hl => ?_)
    refine lv_aload_n hx hb dX11_holeAt_6 rfl (lv_at hl 0 rfl) ?_
    refine lv_ifnonnull (tgt := 14) hx hb dX11_holeAt_7 (by decide) ?_
    refine lv_aload_n hx hb dX11_holeAt_14 rfl (lv_at hl 0 rfl) ?_
    refine lv_iload_n hx hb dX11_holeAt_15 rfl (lv_at hl 3 rfl) ?_
    refine kV C hw (c_X7_holeAt E tt B F G hR (i0 := i1) (by omega) (h0)) vy_X7_holeAt ml_X11_382 (rcv hw (hR.xl (by omega)) (kd_plate (by omega)) (by decide) (q2 := (RX7, TX7, 2)) rfl) rfl hl.1 (rest := []) rfl dX11_holeAt_16 (Nat.le_of_ble_eq_true rfl) ⟨by decide, by decide⟩ ⟨Nat.le_of_ble_eq_true rfl, Nat.le_of_ble_eq_true rfl⟩ (fun v_16 ws_16 H locs hp_16 hq_16 => ?_)
    clear hw
    rcases hp_16 with ⟨j1, hl_j1, rfl, rfl, rfl⟩ | ⟨h_16, rfl, rfl⟩
    · have hw := hq_16
      refine W.eq (g2 := F0 m 19 ls [.ref (B (20 + (8 * i1 + j1)))]) rfl ?_
      exact r_a (v := some (B (20 + (8 * i1 + j1)))) C hr hlk hw (Or.inl ⟨i1, j1, hl_i1, hl_j1, rfl, rfl, rfl, rfl⟩) dX11_holeAt_19
    · have hw := hq_16
      refine W.eq (g2 := F0 m 19 ls [.null]) rfl ?_
      exact r_a (v := none) C hr hlk hw (Or.inr ⟨fun h9 => by obtain ⟨i, j, a1, a2, a3, a4, a5⟩ := ok_hole_n (fun i h => hR.nh8 h) h9; have e1 := (nI_eq (by omega) (by omega)).mp a4; subst e1; exact h_16 j a2 a5, rfl, rfl⟩) dX11_holeAt_19
  · have hw := hq_2
    refine W.eq (g2 := F0 m 5 ls [.null]) rfl ?_
    refine lv_astore_nN (lv' := [(3, .null), (0, .ref (B (0))), (1, .int (p0)), (2, .int (h0))]) hx hb dX11_holeAt_5 rfl hl (by decide) rfl (fun ls hl => ?_)
    refine lv_aload_nN hx hb dX11_holeAt_6 rfl (lv_at hl 0 rfl) ?_
    refine lv_ifnonnullN hx hb dX11_holeAt_7 ?_
    refine lv_null hx hb dX11_holeAt_10 ?_
    refine lv_goto (tgt := 19) hx hb dX11_holeAt_11 (by decide) ?_
    exact r_a (v := none) C hr hlk hw (Or.inr ⟨fun h9 => by obtain ⟨i, j, a1, a2, a3, a4, a5⟩ := ok_hole_n (fun i h => hR.nh8 h) h9; exact h_2 i a1 a4, rfl, rfl⟩) dX11_holeAt_19

set_option maxHeartbeats 4000000 in
set_option maxRecDepth 100000 in
theorem c_X11_coilAt (E : cE) (tt : Nat × Nat × Nat) {X : List Nat} (B : Nat → Nat) (F : tF) (G : tG) {P : tP} {nh : Nat → Nat} {nc no : Nat} {mt om : Nat → Nat} (hR : RC X P nh nc no mt om) (hCK : CK F G nc) (x0 : Int32)  : CT E tt yX11_coilAt cX11_coilAt 3 (some (.object "WireMill$Coil")) 3 0 0 [.ref (B (0)), .int (x0)] (wl E X B F G P) (fun r w => (∃ c : Nat, c < nc ∧ x0 = nI c ∧ ok_coil (vG G) nc x0 = true ∧ r = some (.ref (B (53 + c))) ∧ w = (wl E X B F G P)) ∨ ((¬ ok_coil (vG G) nc x0 = true) ∧ r = some .null ∧ w = (wl E X B F G P))) := by
  refine CT.mk (by decide +kernel) (Nat.le_of_ble_eq_true rfl) ?_
  intro l p e s m below meth c A ls C hr hlk hnm hw hl
  have hx := C.1
  have hb := C.2.1
  have hts := C.2.2.2.2
  have hown : s.vm.findClass RX11 = some m.cls := C.2.2.2.1
  have hl : lv_has ls 3 [(0, .ref (B (0))), (1, .int (x0))] := hl
  have hn16 := hR.nc16
  refine lv_iload_n hx hb dX11_coilAt_0 rfl (lv_at hl 1 rfl) ?_
  refine lv_if_lt (tgt := 13) hx hb dX11_coilAt_1 (by decide) (fun c_1 => ?_) (fun c_1 => ?_)
  · refine lv_null hx hb dX11_coilAt_13 ?_
    exact r_a (v := none) C hr hlk hw (Or.inr ⟨ok_coil_no hn16 (fun i hi e => by rw [e] at c_1; exact nI_pos (by omega) c_1), rfl, rfl⟩) dX11_coilAt_14
  · refine lv_iload_n hx hb dX11_coilAt_4 rfl (lv_at hl 1 rfl) ?_
    refine lv_aload_n hx hb dX11_coilAt_5 rfl (lv_at hl 0 rfl) ?_
    refine g_r 4 (k2 := 52) C hw (hR.f rfl) rfl fl_X11_36 rfl (hR.p0 4 (by decide)) dX11_coilAt_6 ?_
    refine a_n (v := 16) C hw (hR.f rfl) (by decide) (by decide) rfl dX11_coilAt_9 ?_
    refine lv_icmp_lt (tgt := 15) hx hb dX11_coilAt_10 (by decide) (fun c_10 => ?_) (fun c_10 => ?_)
    · obtain ⟨c1, hc1, rfl⟩ := n_lt (n := 16) (Int32.not_lt.mp c_1) c_10 (by decide)
      by_cases hcn : c1 < nc
      rotate_left 1
      · refine lv_aload_n hx hb dX11_coilAt_15 rfl (lv_at hl 0 rfl) ?_
        refine g_r 4 (k2 := 52) C hw (hR.f rfl) rfl fl_X11_36 rfl (hR.p0 4 (by decide)) dX11_coilAt_16 ?_
        refine lv_iload_n hx hb dX11_coilAt_19 rfl (lv_at hl 1 rfl) ?_
        refine n_q c1 (r := 16) C hw (hR.f rfl) rfl (by decide) rfl rfl (show _ < 16 by omega) dX11_coilAt_20 ?_
        rw [hR.pc hc1, if_neg hcn]
        refine W.eq (g2 := F0 m 21 ls [.null]) rfl ?_
        refine lv_astore_nN (lv' := [(2, .null), (0, .ref (B (0))), (1, .int (nI c1))]) hx hb dX11_coilAt_21 rfl hl (by decide) rfl (fun ls hl => ?_)
        refine lv_aload_nN hx hb dX11_coilAt_22 rfl (lv_at hl 0 rfl) ?_
        refine lv_ifnullN (tgt := 33) hx hb dX11_coilAt_23 (by decide) ?_
        refine lv_null hx hb dX11_coilAt_33 ?_
        refine lv_goto (tgt := 38) hx hb dX11_coilAt_34 (by decide) ?_
        exact r_a (v := none) C hr hlk hw (Or.inr ⟨ok_coil_no hn16 (fun i hi e => hcn (by have := (nI_eq (by omega) (by omega)).mp e; omega)), rfl, rfl⟩) dX11_coilAt_38
      refine lv_aload_n hx hb dX11_coilAt_15 rfl (lv_at hl 0 rfl) ?_
      refine g_r 4 (k2 := 52) C hw (hR.f rfl) rfl fl_X11_36 rfl (hR.p0 4 (by decide)) dX11_coilAt_16 ?_
      refine lv_iload_n hx hb dX11_coilAt_19 rfl (lv_at hl 1 rfl) ?_
      refine n_r c1 (k2 := 53 + c1) (r := 16) C hw (hR.f rfl) rfl (by decide) rfl rfl (show _ < 16 by omega) ((hR.pc hc1).trans (if_pos hcn)) dX11_coilAt_20 ?_
      refine lv_astore_n (lv' := [(2, .ref (B (53 + c1))), (0, .ref (B (0))), (1, .int (nI c1))]) hx hb dX11_coilAt_21 rfl hl (by decide) rfl (fun ls hl => ?_)
      refine lv_aload_n hx hb dX11_coilAt_22 rfl (lv_at hl 0 rfl) ?_
      refine lv_ifnull hx hb dX11_coilAt_23 ?_
      refine lv_aload_n hx hb dX11_coilAt_26 rfl (lv_at hl 0 rfl) ?_
      refine kV C hw (c_X0_isGone E tt B F G P (hR.xc (by omega)) (kd_coil (by omega))  ((hCK c1 hcn).1)) vy_X0_isGone ml_X11_385 (rcv hw (hR.xc (by omega)) (kd_coil (by omega)) (by decide) (q2 := (RX0, TX0, 7)) rfl) rfl hl.1 (rest := []) rfl dX11_coilAt_27 (Nat.le_of_ble_eq_true rfl) ⟨by decide, by decide⟩ ⟨Nat.le_of_ble_eq_true rfl, Nat.le_of_ble_eq_true rfl⟩ (fun v_27 ws_27 H locs hp_27 hq_27 => ?_)
      clear hw
      rcases hp_27 with ⟨h_27, rfl, rfl⟩ | ⟨h_27, rfl, rfl⟩
      · have hw := hq_27
        refine W.eq (g2 := F0 m 30 ls [.int (1)]) rfl ?_
        refine lv_if_eq (tgt := 37) hx hb dX11_coilAt_30 (by decide) (fun h9 => False.elim (by revert h9; decide)) (fun _ => ?_)
        refine lv_null hx hb dX11_coilAt_33 ?_
        refine lv_goto (tgt := 38) hx hb dX11_coilAt_34 (by decide) ?_
        exact r_a (v := none) C hr hlk hw (Or.inr ⟨fun h9 => (hCK c1 hcn).2.mp ((ok_coil_v hn16 hcn).mp h9) h_27, rfl, rfl⟩) dX11_coilAt_38
      · have hw := hq_27
        refine W.eq (g2 := F0 m 30 ls [.int (0)]) rfl ?_
        refine lv_if_eq (tgt := 37) hx hb dX11_coilAt_30 (by decide) (fun _ => ?_) (fun h9 => False.elim (by revert h9; decide))
        refine lv_aload_n hx hb dX11_coilAt_37 rfl (lv_at hl 0 rfl) ?_
        exact r_a (v := some (B (53 + c1))) C hr hlk hw (Or.inl ⟨c1, hcn, rfl, (ok_coil_v hn16 hcn).mpr ((hCK c1 hcn).2.mpr h_27), rfl, rfl⟩) dX11_coilAt_38
    · refine lv_null hx hb dX11_coilAt_13 ?_
      exact r_a (v := none) C hr hlk hw (Or.inr ⟨ok_coil_no hn16 (fun i hi e => c_10 (by rw [e]; exact nI_lt (b := 16) (by omega) (by decide))), rfl, rfl⟩) dX11_coilAt_14

set_option maxHeartbeats 4000000 in
set_option maxRecDepth 100000 in
theorem c_X11_orderAt (E : cE) (tt : Nat × Nat × Nat) {X : List Nat} (B : Nat → Nat) (F : tF) (G : tG) {P : tP} {nh : Nat → Nat} {nc no : Nat} {mt om : Nat → Nat} (hR : RC X P nh nc no mt om) (x0 : Int32)  : CT E tt yX11_orderAt cX11_orderAt 2 (some (.object "WireMill$Order")) 0 0 0 [.ref (B (0)), .int (x0)] (wl E X B F G P) (fun r w => (∃ o : Nat, o < no ∧ x0 = nI o ∧ r = some (.ref (B (70 + o))) ∧ w = (wl E X B F G P)) ∨ ((∀ o : Nat, o < no → x0 ≠ nI o) ∧ r = some .null ∧ w = (wl E X B F G P))) := by
  refine CT.mk (by decide +kernel) (Nat.le_of_ble_eq_true rfl) ?_
  intro l p e s m below meth c A ls C hr hlk hnm hw hl
  have hx := C.1
  have hb := C.2.1
  have hts := C.2.2.2.2
  have hown : s.vm.findClass RX11 = some m.cls := C.2.2.2.1
  have hl : lv_has ls 2 [(0, .ref (B (0))), (1, .int (x0))] := hl
  have ho6 := hR.no6
  refine lv_iload_n hx hb dX11_orderAt_0 rfl (lv_at hl 1 rfl) ?_
  refine lv_if_lt (tgt := 13) hx hb dX11_orderAt_1 (by decide) (fun c_1 => ?_) (fun c_1 => ?_)
  · refine lv_null hx hb dX11_orderAt_13 ?_
    refine lv_goto (tgt := 23) hx hb dX11_orderAt_14 (by decide) ?_
    exact r_a (v := none) C hr hlk hw (Or.inr ⟨fun j hj e => by rw [e] at c_1; exact nI_pos (by omega) c_1, rfl, rfl⟩) dX11_orderAt_23
  · refine lv_iload_n hx hb dX11_orderAt_4 rfl (lv_at hl 1 rfl) ?_
    refine lv_aload_n hx hb dX11_orderAt_5 rfl (lv_at hl 0 rfl) ?_
    refine g_r 5 (k2 := 69) C hw (hR.f rfl) rfl fl_X11_42 rfl (hR.p0 5 (by decide)) dX11_orderAt_6 ?_
    refine a_n (v := 6) C hw (hR.f rfl) (by decide) (by decide) rfl dX11_orderAt_9 ?_
    refine lv_icmp_lt (tgt := 17) hx hb dX11_orderAt_10 (by decide) (fun c_10 => ?_) (fun c_10 => ?_)
    · obtain ⟨j0, hj0, rfl⟩ := n_lt (n := 6) (Int32.not_lt.mp c_1) c_10 (by decide)
      refine lv_aload_n hx hb dX11_orderAt_17 rfl (lv_at hl 0 rfl) ?_
      refine g_r 5 (k2 := 69) C hw (hR.f rfl) rfl fl_X11_42 rfl (hR.p0 5 (by decide)) dX11_orderAt_18 ?_
      refine lv_iload_n hx hb dX11_orderAt_21 rfl (lv_at hl 1 rfl) ?_
      refine n_q j0 (r := 19) C hw (hR.f rfl) rfl (by decide) rfl rfl (show _ < 6 by omega) dX11_orderAt_22 ?_
      rw [hR.po hj0]
      by_cases hjn : j0 < no
      · rw [if_pos hjn]
        exact r_a (v := some (B (70 + j0))) C hr hlk hw (Or.inl ⟨j0, hjn, rfl, rfl, rfl⟩) dX11_orderAt_23
      rw [if_neg hjn]
      exact r_a (v := none) C hr hlk hw (Or.inr ⟨fun j hj e => hjn (by have := (nI_eq (by omega) (by omega)).mp e; omega), rfl, rfl⟩) dX11_orderAt_23
    · refine lv_null hx hb dX11_orderAt_13 ?_
      refine lv_goto (tgt := 23) hx hb dX11_orderAt_14 (by decide) ?_
      exact r_a (v := none) C hr hlk hw (Or.inr ⟨fun j hj e => c_10 (by rw [e]; exact nI_lt (b := 6) (by omega) (by decide)), rfl, rfl⟩) dX11_orderAt_23
