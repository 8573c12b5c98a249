set_option maxHeartbeats 4000000 in
set_option maxRecDepth 100000 in
theorem c_X12_told (E : cE) (tt : Nat × Nat × Nat) {X : List Nat} (B : Nat → Nat) (F : tF) (G : tG) {P : tP} (hM : RM X P) (nh : Nat → Nat) (hN : HN F nh) (p0 h0 w0 : Int32)  : CT E tt yX12_told cX12_told 5 (some .int) 2 0 0 [.ref (B (100)), .int (p0), .int (h0), .int (w0)] (wl E X B F G P) (fun r w => r = some (.int (sp_told F nh p0 h0 w0)) ∧ w = wl E X B F G P) := by
  refine CT.mk (by decide +kernel) (Nat.le_of_ble_eq_true rfl) ?_
  intro l p e s m below meth c A ls C hr hlk hnm hw hl
  have hx := C.1
  have hb := C.2.1
  have hts := C.2.2.2.2
  have hown : s.vm.findClass RX12 = some m.cls := C.2.2.2.1
  have hl : lv_has ls 5 [(0, .ref (B (100))), (1, .int (p0)), (2, .int (h0)), (3, .int (w0))] := hl
  refine lv_aload_n hx hb dX12_told_0 rfl (lv_at hl 0 rfl) ?_
  refine lv_iload_n hx hb dX12_told_1 rfl (lv_at hl 1 rfl) ?_
  refine lv_iload_n hx hb dX12_told_2 rfl (lv_at hl 2 rfl) ?_
  refine kV C hw (c_X12_isHole E tt B F G hM nh hN (p0) (h0)) vy_X12_isHole ml_X12_152 (rcv hw (hM.m rfl) rfl (by decide) (q2 := (RX12, TX12, 49)) rfl) rfl hl.1 (rest := []) rfl dX12_told_3 (Nat.le_of_ble_eq_true rfl) ⟨by decide, by decide⟩ ⟨Nat.le_of_ble_eq_true rfl, Nat.le_of_ble_eq_true rfl⟩ (fun v_3 ws_3 H locs hp_3 hq_3 => ?_)
  clear hw
  rcases hp_3 with ⟨h_3, rfl, rfl⟩ | ⟨h_3, rfl, rfl⟩
  · have hw := hq_3
    refine W.eq (g2 := F0 m 6 ls [.int (1)]) rfl ?_
    obtain ⟨i0, j0, hi0, hj0, hj8, rfl, rfl⟩ := ok_hole_n (fun i h => (hN i h).2) h_3
    have hz0 := i4_cl (i := i0) (by omega)
    have hz1 := i4_cl (i := j0) (by omega)
    refine lv_if_ne (tgt := 12) hx hb dX12_told_6 (by decide) (fun _ => ?_) (fun h9 => False.elim (by revert h9; decide))
    refine lv_bipush (v := 8) hx hb dX12_told_12 (by decide) ?_
    refine lv_iload_n hx hb dX12_told_14 rfl (lv_at hl 1 rfl) ?_
    refine lv_imul hx hb dX12_told_15 ?_
    refine lv_iload_n hx hb dX12_told_16 rfl (lv_at hl 2 rfl) ?_
    refine lv_iadd hx hb dX12_told_17 ?_
    refine tp_i (y := nI (8 * i0 + j0)) (at8 _ _) ?_
    refine lv_istore (lv' := [(4, .int (nI (8 * i0 + j0))), (0, .ref (B (100))), (1, .int (nI i0)), (2, .int (nI j0)), (3, .int (w0))]) hx hb dX12_told_18 hl (by decide) rfl (fun ls hl => ?_)
    refine lv_iload_n hx hb dX12_told_20 rfl (lv_at hl 4 rfl) ?_
    refine lv_if_ne (tgt := 34) hx hb dX12_told_21 (by decide) (fun c_21 => ?_) (fun c_21 => ?_)
    · refine lv_iload_n hx hb dX12_told_34 rfl (lv_at hl 4 rfl) ?_
      refine lv_iconst (v := 1) hx hb dX12_told_35 (by decide) ?_
      refine lv_icmp_ne (tgt := 49) hx hb dX12_told_36 (by decide) (fun c_36 => ?_) (fun c_36 => ?_)
      · refine lv_iload_n hx hb dX12_told_49 rfl (lv_at hl 4 rfl) ?_
        refine lv_iconst (v := 2) hx hb dX12_told_50 (by decide) ?_
        refine lv_icmp_ne (tgt := 63) hx hb dX12_told_51 (by decide) (fun c_51 => ?_) (fun c_51 => ?_)
        · refine lv_iload_n hx hb dX12_told_63 rfl (lv_at hl 4 rfl) ?_
          refine lv_iconst (v := 3) hx hb dX12_told_64 (by decide) ?_
          refine lv_icmp_ne (tgt := 78) hx hb dX12_told_65 (by decide) (fun c_65 => ?_) (fun c_65 => ?_)
          · refine lv_iload_n hx hb dX12_told_78 rfl (lv_at hl 4 rfl) ?_
            refine lv_iconst (v := 4) hx hb dX12_told_79 (by decide) ?_
            refine lv_icmp_ne (tgt := 100) hx hb dX12_told_80 (by decide) (fun c_80 => ?_) (fun c_80 => ?_)
            · refine lv_bipush (v := -3) hx hb dX12_told_100 (by decide) ?_
              exact r_i C hr hlk hw ⟨(by simp [sp_told, qat, hz0, hz1, h_3, c_21, c_36, c_51, c_65, c_80]), (by simp [sp_told, qat, hz0, hz1, h_3, c_21, c_36, c_51, c_65, c_80])⟩ dX12_told_102
            · refine lv_aload_n hx hb dX12_told_83 rfl (lv_at hl 1 rfl) ?_
              refine lv_iload hx hb dX12_told_84 (lv_at hl 0 rfl) ?_
              refine kV C hw (c_X12_isSpent E tt B F G hM (q := 8 * i0 + j0) (by omega)) vy_X12_isSpent ml_X12_156 (rcv hw (hM.m rfl) rfl (by decide) (q2 := (RX12, TX12, 49)) rfl) rfl hl.1 (rest := []) rfl dX12_told_86 (Nat.le_of_ble_eq_true rfl) ⟨by decide, by decide⟩ ⟨Nat.le_of_ble_eq_true rfl, Nat.le_of_ble_eq_true rfl⟩ (fun v_86 ws_86 H locs hp_86 hq_86 => ?_)
              clear hw
              rcases hp_86 with ⟨h_86, rfl, rfl⟩ | ⟨h_86, rfl, rfl⟩
              · have hw := hq_86
                refine W.eq (g2 := F0 m 89 ls [.int (1)]) rfl ?_
                refine lv_if_eq (tgt := 96) hx hb dX12_told_89 (by decide) (fun h9 => False.elim (by revert h9; decide)) (fun _ => ?_)
                refine lv_iconst (v := 1) hx hb dX12_told_92 (by decide) ?_
                refine lv_goto (tgt := 102) hx hb dX12_told_93 (by decide) ?_
                exact r_i C hr hlk hw ⟨(by simp [sp_told, qat, hz0, hz1, h_3, c_21, c_36, c_51, c_65, c_80, h_86]), (by simp [sp_told, qat, hz0, hz1, h_3, c_21, c_36, c_51, c_65, c_80, h_86])⟩ dX12_told_102
              · have hw := hq_86
                refine W.eq (g2 := F0 m 89 ls [.int (0)]) rfl ?_
                refine lv_if_eq (tgt := 96) hx hb dX12_told_89 (by decide) (fun _ => ?_) (fun h9 => False.elim (by revert h9; decide))
                refine lv_iconst (v := 0) hx hb dX12_told_96 (by decide) ?_
                refine lv_goto (tgt := 102) hx hb dX12_told_97 (by decide) ?_
                exact r_i C hr hlk hw ⟨(by simp [sp_told, qat, hz0, hz1, h_3, c_21, c_36, c_51, c_65, c_80, h_86]), (by simp [sp_told, qat, hz0, hz1, h_3, c_21, c_36, c_51, c_65, c_80, h_86])⟩ dX12_told_102
          · refine lv_aload_n hx hb dX12_told_68 rfl (lv_at hl 1 rfl) ?_
            refine g_r 12 (k2 := 113) C hw (hM.m rfl) rfl fl_X12_46 rfl (hM.p 12 rfl) dX12_told_69 ?_
            refine lv_iload hx hb dX12_told_72 (lv_at hl 0 rfl) ?_
            refine n_i (8 * i0 + j0) C hw (hM.m rfl) rfl rfl (show _ < 32 by omega) dX12_told_74 ?_
            refine lv_goto (tgt := 102) hx hb dX12_told_75 (by decide) ?_
            exact r_i C hr hlk hw ⟨(by simp [sp_told, qat, hz0, hz1, h_3, c_21, c_36, c_51, c_65]), (by simp [sp_told, qat, hz0, hz1, h_3, c_21, c_36, c_51, c_65])⟩ dX12_told_102
        · refine lv_aload_n hx hb dX12_told_54 rfl (lv_at hl 1 rfl) ?_
          refine lv_iload hx hb dX12_told_55 (lv_at hl 0 rfl) ?_
          refine kV C hw (c_X12_wide E tt B F G hM (q := 8 * i0 + j0) (by omega)) vy_X12_wide ml_X12_149 (rcv hw (hM.m rfl) rfl (by decide) (q2 := (RX12, TX12, 49)) rfl) rfl hl.1 (rest := []) rfl dX12_told_57 (Nat.le_of_ble_eq_true rfl) ⟨by decide, by decide⟩ ⟨Nat.le_of_ble_eq_true rfl, Nat.le_of_ble_eq_true rfl⟩ (fun v_57 ws_57 H locs hp_57 hq_57 => ?_)
          clear hw
          obtain ⟨rfl, rfl⟩ := hp_57
          have hw := hq_57
          refine W.eq (g2 := F0 m 60 ls [.int (w_wide F (8 * i0 + j0))]) rfl ?_
          refine lv_goto (tgt := 102) hx hb dX12_told_60 (by decide) ?_
          exact r_i C hr hlk hw ⟨(by simp [sp_told, qat, hz0, hz1, h_3, c_21, c_36, c_51]), (by simp [sp_told, qat, hz0, hz1, h_3, c_21, c_36, c_51])⟩ dX12_told_102
      · refine lv_aload_n hx hb dX12_told_39 rfl (lv_at hl 1 rfl) ?_
        refine g_r 11 (k2 := 112) C hw (hM.m rfl) rfl fl_X12_43 rfl (hM.p 11 rfl) dX12_told_40 ?_
        refine lv_iload hx hb dX12_told_43 (lv_at hl 0 rfl) ?_
        refine n_i (8 * i0 + j0) C hw (hM.m rfl) rfl rfl (show _ < 32 by omega) dX12_told_45 ?_
        refine lv_goto (tgt := 102) hx hb dX12_told_46 (by decide) ?_
        exact r_i C hr hlk hw ⟨(by simp [sp_told, qat, hz0, hz1, h_3, c_21, c_36]), (by simp [sp_told, qat, hz0, hz1, h_3, c_21, c_36])⟩ dX12_told_102
    · refine lv_aload_n hx hb dX12_told_24 rfl (lv_at hl 1 rfl) ?_
      refine g_r 10 (k2 := 111) C hw (hM.m rfl) rfl fl_X12_40 rfl (hM.p 10 rfl) dX12_told_25 ?_
      refine lv_iload hx hb dX12_told_28 (lv_at hl 0 rfl) ?_
      refine n_i (8 * i0 + j0) C hw (hM.m rfl) rfl rfl (show _ < 32 by omega) dX12_told_30 ?_
      refine lv_goto (tgt := 102) hx hb dX12_told_31 (by decide) ?_
      exact r_i C hr hlk hw ⟨(by simp [sp_told, qat, hz0, hz1, h_3, c_21]), (by simp [sp_told, qat, hz0, hz1, h_3, c_21])⟩ dX12_told_102
  · have hw := hq_3
    refine W.eq (g2 := F0 m 6 ls [.int (0)]) rfl ?_
    refine lv_if_ne (tgt := 12) hx hb dX12_told_6 (by decide) (fun h9 => False.elim (by revert h9; decide)) (fun _ => ?_)
    refine lv_bipush (v := -2) hx hb dX12_told_9 (by decide) ?_
    exact r_i C hr hlk hw ⟨(by simp [sp_told, h_3]), (by simp [sp_told, h_3])⟩ dX12_told_11

set_option maxHeartbeats 4000000 in
set_option maxRecDepth 100000 in
theorem c_X12_gauge (E : cE) (tt : Nat × Nat × Nat) {X : List Nat} (B : Nat → Nat) (F : tF) (G : tG) {P : tP} (hM : RM X P) (nh : Nat → Nat) (hN : HN F nh) (p0 h0 : Int32)  : CT E tt yX12_gauge cX12_gauge 3 (some .int) 2 0 0 [.ref (B (100)), .int (p0), .int (h0)] (wl E X B F G P) (fun r w => r = some (.int (sp_gauge F nh p0 h0)) ∧ w = wl E X B F G P) := by
  refine CT.mk (by decide +kernel) (Nat.le_of_ble_eq_true rfl) ?_
  intro l p e s m below meth c A ls C hr hlk hnm hw hl
  have hx := C.1
  have hb := C.2.1
  have hts := C.2.2.2.2
  have hown : s.vm.findClass RX12 = some m.cls := C.2.2.2.1
  have hl : lv_has ls 3 [(0, .ref (B (100))), (1, .int (p0)), (2, .int (h0))] := hl
  refine lv_aload_n hx hb dX12_gauge_0 rfl (lv_at hl 0 rfl) ?_
  refine lv_iload_n hx hb dX12_gauge_1 rfl (lv_at hl 1 rfl) ?_
  refine lv_iload_n hx hb dX12_gauge_2 rfl (lv_at hl 2 rfl) ?_
  refine kV C hw (c_X12_isHole E tt B F G hM nh hN (p0) (h0)) vy_X12_isHole ml_X12_152 (rcv hw (hM.m rfl) rfl (by decide) (q2 := (RX12, TX12, 49)) rfl) rfl hl.1 (rest := []) rfl dX12_gauge_3 (Nat.le_of_ble_eq_true rfl) ⟨by decide, by decide⟩ ⟨Nat.le_of_ble_eq_true rfl, Nat.le_of_ble_eq_true rfl⟩ (fun v_3 ws_3 H locs hp_3 hq_3 => ?_)
  clear hw
  rcases hp_3 with ⟨h_3, rfl, rfl⟩ | ⟨h_3, rfl, rfl⟩
  · have hw := hq_3
    refine W.eq (g2 := F0 m 6 ls [.int (1)]) rfl ?_
    obtain ⟨i0, j0, hi0, hj0, hj8, rfl, rfl⟩ := ok_hole_n (fun i h => (hN i h).2) h_3
    have hz0 := i4_cl (i := i0) (by omega)
    have hz1 := i4_cl (i := j0) (by omega)
    refine lv_if_eq (tgt := 34) hx hb dX12_gauge_6 (by decide) (fun h9 => False.elim (by revert h9; decide)) (fun _ => ?_)
    refine lv_aload_n hx hb dX12_gauge_9 rfl (lv_at hl 0 rfl) ?_
    refine lv_bipush (v := 8) hx hb dX12_gauge_10 (by decide) ?_
    refine lv_iload_n hx hb dX12_gauge_12 rfl (lv_at hl 1 rfl) ?_
    refine lv_imul hx hb dX12_gauge_13 ?_
    refine lv_iload_n hx hb dX12_gauge_14 rfl (lv_at hl 2 rfl) ?_
    refine lv_iadd hx hb dX12_gauge_15 ?_
    refine tp_i (y := nI (8 * i0 + j0)) (at8 _ _) ?_
    refine kV C hw (c_X12_wide E tt B F G hM (q := 8 * i0 + j0) (by omega)) vy_X12_wide ml_X12_149 (rcv hw (hM.m rfl) rfl (by decide) (q2 := (RX12, TX12, 49)) rfl) rfl hl.1 (rest := []) rfl dX12_gauge_16 (Nat.le_of_ble_eq_true rfl) ⟨by decide, by decide⟩ ⟨Nat.le_of_ble_eq_true rfl, Nat.le_of_ble_eq_true rfl⟩ (fun v_16 ws_16 H locs hp_16 hq_16 => ?_)
    clear hw
    obtain ⟨rfl, rfl⟩ := hp_16
    have hw := hq_16
    refine W.eq (g2 := F0 m 19 ls [.int (w_wide F (8 * i0 + j0))]) rfl ?_
    refine lv_aload_n hx hb dX12_gauge_19 rfl (lv_at hl 0 rfl) ?_
    refine g_r 10 (k2 := 111) C hw (hM.m rfl) rfl fl_X12_40 rfl (hM.p 10 rfl) dX12_gauge_20 ?_
    refine lv_bipush (v := 8) hx hb dX12_gauge_23 (by decide) ?_
    refine lv_iload_n hx hb dX12_gauge_25 rfl (lv_at hl 1 rfl) ?_
    refine lv_imul hx hb dX12_gauge_26 ?_
    refine lv_iload_n hx hb dX12_gauge_27 rfl (lv_at hl 2 rfl) ?_
    refine lv_iadd hx hb dX12_gauge_28 ?_
    refine tp_i (y := nI (8 * i0 + j0)) (at8 _ _) ?_
    refine n_i (8 * i0 + j0) C hw (hM.m rfl) rfl rfl (show _ < 32 by omega) dX12_gauge_29 ?_
    refine lv_isub hx hb dX12_gauge_30 ?_
    refine lv_goto (tgt := 36) hx hb dX12_gauge_31 (by decide) ?_
    exact r_i C hr hlk hw ⟨(by simp [sp_gauge, qat, hz0, hz1, h_3]), (by simp [sp_gauge, qat, hz0, hz1, h_3])⟩ dX12_gauge_36
  · have hw := hq_3
    refine W.eq (g2 := F0 m 6 ls [.int (0)]) rfl ?_
    refine lv_if_eq (tgt := 34) hx hb dX12_gauge_6 (by decide) (fun _ => ?_) (fun h9 => False.elim (by revert h9; decide))
    refine lv_bipush (v := -2) hx hb dX12_gauge_34 (by decide) ?_
    exact r_i C hr hlk hw ⟨(by simp [sp_gauge, h_3]), (by simp [sp_gauge, h_3])⟩ dX12_gauge_36

set_option maxHeartbeats 4000000 in
set_option maxRecDepth 100000 in
theorem c_X12_ream (E : cE) (tt : Nat × Nat × Nat) {X : List Nat} (B : Nat → Nat) (F : tF) (G : tG) {P : tP} (hM : RM X P) (nh : Nat → Nat) (hN : HN F nh) (p0 h0 b0 : Int32)  : CT E tt yX12_ream cX12_ream 5 (some .int) 2 0 0 [.ref (B (100)), .int (p0), .int (h0), .int (b0)] (wl E X B F G P) (fun r w => r = some (.int (sp_ream F nh p0 h0 b0)) ∧ w = wl E X B (st_ream F nh p0 h0 b0) G P) := by
  refine CT.mk (by decide +kernel) (Nat.le_of_ble_eq_true rfl) ?_
  intro l p e s m below meth c A ls C hr hlk hnm hw hl
  have hx := C.1
  have hb := C.2.1
  have hts := C.2.2.2.2
  have hown : s.vm.findClass RX12 = some m.cls := C.2.2.2.1
  have hl : lv_has ls 5 [(0, .ref (B (100))), (1, .int (p0)), (2, .int (h0)), (3, .int (b0))] := hl
  refine lv_aload_n hx hb dX12_ream_0 rfl (lv_at hl 0 rfl) ?_
  refine lv_iload_n hx hb dX12_ream_1 rfl (lv_at hl 1 rfl) ?_
  refine lv_iload_n hx hb dX12_ream_2 rfl (lv_at hl 2 rfl) ?_
  refine kV C hw (c_X12_isHole E tt B F G hM nh hN (p0) (h0)) vy_X12_isHole ml_X12_152 (rcv hw (hM.m rfl) rfl (by decide) (q2 := (RX12, TX12, 49)) rfl) rfl hl.1 (rest := []) rfl dX12_ream_3 (Nat.le_of_ble_eq_true rfl) ⟨by decide, by decide⟩ ⟨Nat.le_of_ble_eq_true rfl, Nat.le_of_ble_eq_true rfl⟩ (fun v_3 ws_3 H locs hp_3 hq_3 => ?_)
  clear hw
  rcases hp_3 with ⟨h_3, rfl, rfl⟩ | ⟨h_3, rfl, rfl⟩
  · have hw := hq_3
    refine W.eq (g2 := F0 m 6 ls [.int (1)]) rfl ?_
    obtain ⟨i0, j0, hi0, hj0, hj8, rfl, rfl⟩ := ok_hole_n (fun i h => (hN i h).2) h_3
    have hz0 := i4_cl (i := i0) (by omega)
    have hz1 := i4_cl (i := j0) (by omega)
    refine lv_if_ne (tgt := 12) hx hb dX12_ream_6 (by decide) (fun _ => ?_) (fun h9 => False.elim (by revert h9; decide))
    refine lv_iload_n hx hb dX12_ream_12 rfl (lv_at hl 3 rfl) ?_
    refine lv_iconst (v := 1) hx hb dX12_ream_13 (by decide) ?_
    refine lv_bipush (v := 50) hx hb dX12_ream_14 (by decide) ?_
    refine kS C hw (c_X12_within E tt _ (b0) (1) (50)) vy_X12_within ml_X12_123 rfl hl.1 (rest := []) rfl dX12_ream_16 (Nat.le_of_ble_eq_true rfl) ⟨by decide, by decide⟩ ⟨Nat.le_of_ble_eq_true rfl, Nat.le_of_ble_eq_true rfl⟩ (fun v_16 ws_16 H locs hp_16 hq_16 => ?_)
    clear hw
    rcases hp_16 with ⟨h_16, rfl, rfl⟩ | ⟨h_16, rfl, rfl⟩
    · have hw := hq_16
      refine W.eq (g2 := F0 m 19 ls [.int (1)]) rfl ?_
      refine lv_if_ne (tgt := 25) hx hb dX12_ream_19 (by decide) (fun _ => ?_) (fun h9 => False.elim (by revert h9; decide))
      refine lv_bipush (v := 8) hx hb dX12_ream_25 (by decide) ?_
      refine lv_iload_n hx hb dX12_ream_27 rfl (lv_at hl 1 rfl) ?_
      refine lv_imul hx hb dX12_ream_28 ?_
      refine lv_iload_n hx hb dX12_ream_29 rfl (lv_at hl 2 rfl) ?_
      refine lv_iadd hx hb dX12_ream_30 ?_
      refine tp_i (y := nI (8 * i0 + j0)) (at8 _ _) ?_
      refine lv_istore (lv' := [(4, .int (nI (8 * i0 + j0))), (0, .ref (B (100))), (1, .int (nI i0)), (2, .int (nI j0)), (3, .int (b0))]) hx hb dX12_ream_31 hl (by decide) rfl (fun ls hl => ?_)
      refine lv_aload_n hx hb dX12_ream_33 rfl (lv_at hl 1 rfl) ?_
      refine g_r 12 (k2 := 113) C hw (hM.m rfl) rfl fl_X12_46 rfl (hM.p 12 rfl) dX12_ream_34 ?_
      refine lv_iload hx hb dX12_ream_37 (lv_at hl 0 rfl) ?_
      refine n_i (8 * i0 + j0) C hw (hM.m rfl) rfl rfl (show _ < 32 by omega) dX12_ream_39 ?_
      refine lv_iconst (v := 2) hx hb dX12_ream_40 (by decide) ?_
      refine lv_icmp_eq (tgt := 58) hx hb dX12_ream_41 (by decide) (fun c_41 => ?_) (fun c_41 => ?_)
      · refine lv_bipush (v := -4) hx hb dX12_ream_58 (by decide) ?_
        exact r_i C hr hlk hw ⟨(by simp [sp_ream, st_ream, qat, hz0, hz1, h_3, h_16, c_41]), (by simp [sp_ream, st_ream, qat, hz0, hz1, h_3, h_16, c_41])⟩ dX12_ream_60
      · refine lv_aload_n hx hb dX12_ream_44 rfl (lv_at hl 1 rfl) ?_
        refine lv_iload hx hb dX12_ream_45 (lv_at hl 0 rfl) ?_
        refine kV C hw (c_X12_wide E tt B F G hM (q := 8 * i0 + j0) (by omega)) vy_X12_wide ml_X12_149 (rcv hw (hM.m rfl) rfl (by decide) (q2 := (RX12, TX12, 49)) rfl) rfl hl.1 (rest := []) rfl dX12_ream_47 (Nat.le_of_ble_eq_true rfl) ⟨by decide, by decide⟩ ⟨Nat.le_of_ble_eq_true rfl, Nat.le_of_ble_eq_true rfl⟩ (fun v_47 ws_47 H locs hp_47 hq_47 => ?_)
        clear hw
        obtain ⟨rfl, rfl⟩ := hp_47
        have hw := hq_47
        refine W.eq (g2 := F0 m 50 ls [.int (w_wide F (8 * i0 + j0))]) rfl ?_
        refine lv_iload_n hx hb dX12_ream_50 rfl (lv_at hl 4 rfl) ?_
        refine lv_iadd hx hb dX12_ream_51 ?_
        refine lv_sipush (v := 1000) hx hb dX12_ream_52 (by decide) ?_
        refine lv_icmp_le (tgt := 61) hx hb dX12_ream_55 (by decide) (fun c_55 => ?_) (fun c_55 => ?_)
        · rw [← Int32.not_lt] at c_55
          refine lv_aload_n hx hb dX12_ream_61 rfl (lv_at hl 1 rfl) ?_
          refine g_r 10 (k2 := 111) C hw (hM.m rfl) rfl fl_X12_40 rfl (hM.p 10 rfl) dX12_ream_62 ?_
          refine lv_iload hx hb dX12_ream_65 (lv_at hl 0 rfl) ?_
          refine lv_aload_n hx hb dX12_ream_67 rfl (lv_at hl 1 rfl) ?_
          refine lv_iload hx hb dX12_ream_68 (lv_at hl 0 rfl) ?_
          refine kV C hw (c_X12_wide E tt B F G hM (q := 8 * i0 + j0) (by omega)) vy_X12_wide ml_X12_149 (rcv hw (hM.m rfl) rfl (by decide) (q2 := (RX12, TX12, 49)) rfl) rfl hl.1 (rest := [.int (nI (8 * i0 + j0)), .ref (B (111))]) rfl dX12_ream_70 (Nat.le_of_ble_eq_true rfl) ⟨by decide, by decide⟩ ⟨Nat.le_of_ble_eq_true rfl, Nat.le_of_ble_eq_true rfl⟩ (fun v_70 ws_70 H locs hp_70 hq_70 => ?_)
          clear hw
          obtain ⟨rfl, rfl⟩ := hp_70
          have hw := hq_70
          refine W.eq (g2 := F0 m 73 ls [.int (w_wide F (8 * i0 + j0)), .int (nI (8 * i0 + j0)), .ref (B (111))]) rfl ?_
          refine lv_iload_n hx hb dX12_ream_73 rfl (lv_at hl 4 rfl) ?_
          refine lv_iadd hx hb dX12_ream_74 ?_
          refine t_i (8 * i0 + j0) C hw (hM.m rfl) rfl rfl (show _ < 32 by omega) dX12_ream_75 (fun H locs hw => ?_)
          refine lv_aload_n hx hb dX12_ream_76 rfl (lv_at hl 1 rfl) ?_
          refine g_r 11 (k2 := 112) C hw (hM.m rfl) rfl fl_X12_43 rfl (hM.p 11 rfl) dX12_ream_77 ?_
          refine lv_iload hx hb dX12_ream_80 (lv_at hl 0 rfl) ?_
          refine lv_iconst (v := 0) hx hb dX12_ream_82 (by decide) ?_
          refine t_i (8 * i0 + j0) C hw (hM.m rfl) rfl rfl (show _ < 32 by omega) dX12_ream_83 (fun H locs hw => ?_)
          refine lv_aload_n hx hb dX12_ream_84 rfl (lv_at hl 1 rfl) ?_
          refine g_r 12 (k2 := 113) C hw (hM.m rfl) rfl fl_X12_46 rfl (hM.p 12 rfl) dX12_ream_85 ?_
          refine lv_iload hx hb dX12_ream_88 (lv_at hl 0 rfl) ?_
          refine lv_dup2_11 hx hb dX12_ream_90 rfl rfl ?_
          refine n_i (8 * i0 + j0) C hw (hM.m rfl) rfl rfl (show _ < 32 by omega) dX12_ream_91 ?_
          refine tp_i (y := F 113 (8 * i0 + j0)) ((uF_n _ _ (Or.inl (by decide))).trans ((uF_n _ _ (Or.inl (by decide))).trans (rfl))) ?_
          refine lv_iconst (v := 1) hx hb dX12_ream_92 (by decide) ?_
          refine lv_iadd hx hb dX12_ream_93 ?_
          refine t_i (8 * i0 + j0) C hw (hM.m rfl) rfl rfl (show _ < 32 by omega) dX12_ream_94 (fun H locs hw => ?_)
          refine lv_aload_n hx hb dX12_ream_95 rfl (lv_at hl 1 rfl) ?_
          refine g_r 10 (k2 := 111) C hw (hM.m rfl) rfl fl_X12_40 rfl (hM.p 10 rfl) dX12_ream_96 ?_
          refine lv_iload hx hb dX12_ream_99 (lv_at hl 0 rfl) ?_
          refine n_i (8 * i0 + j0) C hw (hM.m rfl) rfl rfl (show _ < 32 by omega) dX12_ream_101 ?_
          refine tp_i (y := w_wide F (8 * i0 + j0) + b0) ((uF_n _ _ (Or.inl (by decide))).trans ((uF_n _ _ (Or.inl (by decide))).trans (uF_s _ _ _ _))) ?_
          exact r_i C hr hlk hw ⟨(by simp [sp_ream, st_ream, qat, hz0, hz1, h_3, h_16, c_41, c_55]), (by simp [sp_ream, st_ream, qat, hz0, hz1, h_3, h_16, c_41, c_55])⟩ dX12_ream_102
        · rw [Int32.not_le] at c_55
          refine lv_bipush (v := -4) hx hb dX12_ream_58 (by decide) ?_
          exact r_i C hr hlk hw ⟨(by simp [sp_ream, st_ream, qat, hz0, hz1, h_3, h_16, c_41, c_55]), (by simp [sp_ream, st_ream, qat, hz0, hz1, h_3, h_16, c_41, c_55])⟩ dX12_ream_60
    · have hw := hq_16
      refine W.eq (g2 := F0 m 19 ls [.int (0)]) rfl ?_
      refine lv_if_ne (tgt := 25) hx hb dX12_ream_19 (by decide) (fun h9 => False.elim (by revert h9; decide)) (fun _ => ?_)
      refine lv_bipush (v := -3) hx hb dX12_ream_22 (by decide) ?_
      exact r_i C hr hlk hw ⟨(by simp [sp_ream, st_ream, qat, hz0, hz1, h_3, h_16]), (by simp [sp_ream, st_ream, qat, hz0, hz1, h_3, h_16])⟩ dX12_ream_24
  · have hw := hq_3
    refine W.eq (g2 := F0 m 6 ls [.int (0)]) rfl ?_
    refine lv_if_ne (tgt := 12) hx hb dX12_ream_6 (by decide) (fun h9 => False.elim (by revert h9; decide)) (fun _ => ?_)
    refine lv_bipush (v := -2) hx hb dX12_ream_9 (by decide) ?_
    exact r_i C hr hlk hw ⟨(by simp [sp_ream, st_ream, h_3]), (by simp [sp_ream, st_ream, h_3])⟩ dX12_ream_11

set_option maxHeartbeats 4000000 in
set_option maxRecDepth 100000 in
theorem c_X12_isCoil (E : cE) (tt : Nat × Nat × Nat) {X : List Nat} (B : Nat → Nat) (F : tF) (G : tG) {P : tP} (hM : RM X P) (nc : Nat) (hc : F 100 13 = nI nc) (hn : nc ≤ 16) (c0 : Int32)  : CT E tt yX12_isCoil cX12_isCoil 2 (some .boolean) 1 0 0 [.ref (B (100)), .int (c0)] (wl E X B F G P) (fun r w => ((ok_coil G nc c0 = true) ∧ r = some (.int 1) ∧ w = (wl E X B F G P)) ∨ (¬ (ok_coil G nc c0 = true) ∧ r = some (.int 0) ∧ w = (wl E X B F G P))) := by
  refine CT.mk (by decide +kernel) (Nat.le_of_ble_eq_true rfl) ?_
  intro l p e s m below meth c A ls C hr hlk hnm hw hl
  have hx := C.1
  have hb := C.2.1
  have hts := C.2.2.2.2
  have hown : s.vm.findClass RX12 = some m.cls := C.2.2.2.1
  have hl : lv_has ls 2 [(0, .ref (B (100))), (1, .int (c0))] := hl
  refine lv_iload_n hx hb dX12_isCoil_0 rfl (lv_at hl 1 rfl) ?_
  refine lv_iconst (v := 0) hx hb dX12_isCoil_1 (by decide) ?_
  refine lv_aload_n hx hb dX12_isCoil_2 rfl (lv_at hl 0 rfl) ?_
  refine g_i 13 C hw (hM.m rfl) rfl fl_X12_127 rfl dX12_isCoil_3 ?_
  refine tp_i (y := nI nc) (hc) ?_
  refine lv_iconst (v := 1) hx hb dX12_isCoil_6 (by decide) ?_
  refine lv_isub hx hb dX12_isCoil_7 ?_
  refine kS C hw (c_X12_within E tt _ (c0) (0) ((nI nc - 1))) vy_X12_within ml_X12_123 rfl hl.1 (rest := []) rfl dX12_isCoil_8 (Nat.le_of_ble_eq_true rfl) ⟨by decide, by decide⟩ ⟨Nat.le_of_ble_eq_true rfl, Nat.le_of_ble_eq_true rfl⟩ (fun v_8 ws_8 H locs hp_8 hq_8 => ?_)
  clear hw
  rcases hp_8 with ⟨h_8, rfl, rfl⟩ | ⟨h_8, rfl, rfl⟩
  · have hw := hq_8
    refine W.eq (g2 := F0 m 11 ls [.int (1)]) rfl ?_
    refine lv_if_eq (tgt := 29) hx hb dX12_isCoil_11 (by decide) (fun h9 => False.elim (by revert h9; decide)) (fun _ => ?_)
    obtain ⟨i0, hi0, rfl⟩ := n_lt h_8.1 ((le_pred (by omega) _).mp h_8.2) (by omega)
    have hz0 := i4_cl (i := i0) (by omega)
    refine lv_aload_n hx hb dX12_isCoil_14 rfl (lv_at hl 0 rfl) ?_
    refine g_r 17 (k2 := 118) C hw (hM.m rfl) rfl fl_X12_58 rfl (hM.p 17 rfl) dX12_isCoil_15 ?_
    refine lv_iload_n hx hb dX12_isCoil_18 rfl (lv_at hl 1 rfl) ?_
    refine n_l i0 C hw (hM.m rfl) rfl rfl (show _ < 16 by omega) dX12_isCoil_19 ?_
    refine lv_lconst (v := 0) hx hb dX12_isCoil_20 (by decide) ?_
    refine W.lcmp hx hb dX12_isCoil_21 ?_
    refine lv_if_le (tgt := 29) hx hb dX12_isCoil_22 (by decide) (fun c_22 => ?_) (fun c_22 => ?_)
    · rw [lg_le] at c_22
      refine lv_iconst (v := 0) hx hb dX12_isCoil_29 (by decide) ?_
      exact r_z C hr hlk hw rfl (Or.inr ⟨fun h9 => by have := (ok_coil_i.mp h9).2; rw [hz0] at this; exact absurd c_22 (Int64.not_le.mpr this), rfl, rfl⟩) dX12_isCoil_30
    · rw [lg_le] at c_22
      refine lv_iconst (v := 1) hx hb dX12_isCoil_25 (by decide) ?_
      refine lv_goto (tgt := 30) hx hb dX12_isCoil_26 (by decide) ?_
      exact r_z C hr hlk hw rfl (Or.inl ⟨ok_coil_i.mpr ⟨⟨h_8.1, (le_pred (by omega) _).mp h_8.2⟩, by rw [hz0]; exact Int64.not_le.mp c_22⟩, rfl, rfl⟩) dX12_isCoil_30
  · have hw := hq_8
    refine W.eq (g2 := F0 m 11 ls [.int (0)]) rfl ?_
    refine lv_if_eq (tgt := 29) hx hb dX12_isCoil_11 (by decide) (fun _ => ?_) (fun h9 => False.elim (by revert h9; decide))
    refine lv_iconst (v := 0) hx hb dX12_isCoil_29 (by decide) ?_
    exact r_z C hr hlk hw rfl (Or.inr ⟨fun h9 => h_8 ⟨(ok_coil_i.mp h9).1.1, (le_pred (by omega) _).mpr (ok_coil_i.mp h9).1.2⟩, rfl, rfl⟩) dX12_isCoil_30

set_option maxHeartbeats 4000000 in
set_option maxRecDepth 100000 in
theorem c_X12_feetOf (E : cE) (tt : Nat × Nat × Nat) {X : List Nat} (B : Nat → Nat) (F : tF) (G : tG) {P : tP} (hM : RM X P) {q : Nat} (hq : q < 16) (hd : ¬ (F 116 q).toInt64 * (F 116 q).toInt64 = 0)  : CT E tt yX12_feetOf cX12_feetOf 2 (some .int) 0 0 0 [.ref (B (100)), .int (nI q)] (wl E X B F G P) (fun r w => r = some (.int (w_feet F G q)) ∧ w = (wl E X B F G P)) := by
  refine CT.mk (by decide +kernel) (Nat.le_of_ble_eq_true rfl) ?_
  intro l p e s m below meth c A ls C hr hlk hnm hw hl
  have hx := C.1
  have hb := C.2.1
  have hts := C.2.2.2.2
  have hown : s.vm.findClass RX12 = some m.cls := C.2.2.2.1
  have hl : lv_has ls 2 [(0, .ref (B (100))), (1, .int (nI q))] := hl
  refine lv_aload_n hx hb dX12_feetOf_0 rfl (lv_at hl 0 rfl) ?_
  refine g_r 17 (k2 := 118) C hw (hM.m rfl) rfl fl_X12_58 rfl (hM.p 17 rfl) dX12_feetOf_1 ?_
  refine lv_iload_n hx hb dX12_feetOf_4 rfl (lv_at hl 1 rfl) ?_
  refine n_l q C hw (hM.m rfl) rfl rfl (show _ < 16 by omega) dX12_feetOf_5 ?_
  refine lv_aload_n hx hb dX12_feetOf_6 rfl (lv_at hl 0 rfl) ?_
  refine g_r 15 (k2 := 116) C hw (hM.m rfl) rfl fl_X12_52 rfl (hM.p 15 rfl) dX12_feetOf_7 ?_
  refine lv_iload_n hx hb dX12_feetOf_10 rfl (lv_at hl 1 rfl) ?_
  refine n_i q C hw (hM.m rfl) rfl rfl (show _ < 16 by omega) dX12_feetOf_11 ?_
  refine lv_i2l hx hb dX12_feetOf_12 rfl ?_
  refine lv_aload_n hx hb dX12_feetOf_13 rfl (lv_at hl 0 rfl) ?_
  refine g_r 15 (k2 := 116) C hw (hM.m rfl) rfl fl_X12_52 rfl (hM.p 15 rfl) dX12_feetOf_14 ?_
  refine lv_iload_n hx hb dX12_feetOf_17 rfl (lv_at hl 1 rfl) ?_
  refine n_i q C hw (hM.m rfl) rfl rfl (show _ < 16 by omega) dX12_feetOf_18 ?_
  refine lv_i2l hx hb dX12_feetOf_19 rfl ?_
  refine lv_lmul hx hb dX12_feetOf_20 ?_
  refine lv_ldiv hx hb dX12_feetOf_21 (hd) ?_
  refine lv_l2i hx hb dX12_feetOf_22 rfl ?_
  exact r_i C hr hlk hw ⟨rfl, rfl⟩ dX12_feetOf_23

set_option maxHeartbeats 4000000 in
set_option maxRecDepth 100000 in
theorem c_X12_newCoil (E : cE) (tt : Nat × Nat × Nat) {X : List Nat} (B : Nat → Nat) (F : tF) (G : tG) {P : tP} (hM : RM X P) (nc : Nat) (hc : F 100 13 = nI nc) (hn : nc < 16) (m0 s0 : Int32) (a0 : Int64)  : CT E tt yX12_newCoil cX12_newCoil 5 (some .int) 0 0 0 [.ref (B (100)), .int (m0), .int (s0), .long (a0)] (wl E X B F G P) (fun r w => r = some (.int (nI nc)) ∧ w = wl E X B (nF F nc m0 s0) (uG G 118 nc a0) P) := by
  refine CT.mk (by decide +kernel) (Nat.le_of_ble_eq_true rfl) ?_
  intro l p e s m below meth c A ls C hr hlk hnm hw hl
  have hx := C.1
  have hb := C.2.1
  have hts := C.2.2.2.2
  have hown : s.vm.findClass RX12 = some m.cls := C.2.2.2.1
  have hl : lv_has ls 5 [(0, .ref (B (100))), (1, .int (m0)), (2, .int (s0)), (3, .long (a0))] := hl
  refine lv_aload_n hx hb dX12_newCoil_0 rfl (lv_at hl 0 rfl) ?_
  refine g_r 14 (k2 := 115) C hw (hM.m rfl) rfl fl_X12_49 rfl (hM.p 14 rfl) dX12_newCoil_1 ?_
  refine lv_aload_n hx hb dX12_newCoil_4 rfl (lv_at hl 0 rfl) ?_
  refine g_i 13 C hw (hM.m rfl) rfl fl_X12_127 rfl dX12_newCoil_5 ?_
  refine tp_i (y := nI nc) (hc) ?_
  refine lv_iload_n hx hb dX12_newCoil_8 rfl (lv_at hl 1 rfl) ?_
  refine t_i nc C hw (hM.m rfl) rfl rfl (show _ < 16 by omega) dX12_newCoil_9 (fun H locs hw => ?_)
  refine lv_aload_n hx hb dX12_newCoil_10 rfl (lv_at hl 0 rfl) ?_
  refine g_r 15 (k2 := 116) C hw (hM.m rfl) rfl fl_X12_52 rfl (hM.p 15 rfl) dX12_newCoil_11 ?_
  refine lv_aload_n hx hb dX12_newCoil_14 rfl (lv_at hl 0 rfl) ?_
  refine g_i 13 C hw (hM.m rfl) rfl fl_X12_127 rfl dX12_newCoil_15 ?_
  refine tp_i (y := F 100 13) ((uF_n _ _ (Or.inl (by decide))).trans (rfl)) ?_
  refine tp_i (y := nI nc) (hc) ?_
  refine lv_iload_n hx hb dX12_newCoil_18 rfl (lv_at hl 2 rfl) ?_
  refine t_i nc C hw (hM.m rfl) rfl rfl (show _ < 16 by omega) dX12_newCoil_19 (fun H locs hw => ?_)
  refine lv_aload_n hx hb dX12_newCoil_20 rfl (lv_at hl 0 rfl) ?_
  refine g_r 16 (k2 := 117) C hw (hM.m rfl) rfl fl_X12_55 rfl (hM.p 16 rfl) dX12_newCoil_21 ?_
  refine lv_aload_n hx hb dX12_newCoil_24 rfl (lv_at hl 0 rfl) ?_
  refine g_i 13 C hw (hM.m rfl) rfl fl_X12_127 rfl dX12_newCoil_25 ?_
  refine tp_i (y := F 100 13) ((uF_n _ _ (Or.inl (by decide))).trans ((uF_n _ _ (Or.inl (by decide))).trans (rfl))) ?_
  refine tp_i (y := nI nc) (hc) ?_
  refine lv_iconst (v := 0) hx hb dX12_newCoil_28 (by decide) ?_
  refine t_i nc C hw (hM.m rfl) rfl rfl (show _ < 16 by omega) dX12_newCoil_29 (fun H locs hw => ?_)
  refine lv_aload_n hx hb dX12_newCoil_30 rfl (lv_at hl 0 rfl) ?_
  refine g_r 17 (k2 := 118) C hw (hM.m rfl) rfl fl_X12_58 rfl (hM.p 17 rfl) dX12_newCoil_31 ?_
  refine lv_aload_n hx hb dX12_newCoil_34 rfl (lv_at hl 0 rfl) ?_
  refine g_i 13 C hw (hM.m rfl) rfl fl_X12_127 rfl dX12_newCoil_35 ?_
  refine tp_i (y := F 100 13) ((uF_n _ _ (Or.inl (by decide))).trans ((uF_n _ _ (Or.inl (by decide))).trans ((uF_n _ _ (Or.inl (by decide))).trans (rfl)))) ?_
  refine tp_i (y := nI nc) (hc) ?_
  refine lv_lload_n hx hb dX12_newCoil_38 rfl (lv_at hl 3 rfl) ?_
  refine t_l nc C hw (hM.m rfl) rfl rfl (show _ < 16 by omega) dX12_newCoil_39 (fun H locs hw => ?_)
  refine lv_aload_n hx hb dX12_newCoil_40 rfl (lv_at hl 0 rfl) ?_
  refine g_r 18 (k2 := 119) C hw (hM.m rfl) rfl fl_X12_62 rfl (hM.p 18 rfl) dX12_newCoil_41 ?_
  refine lv_aload_n hx hb dX12_newCoil_44 rfl (lv_at hl 0 rfl) ?_
  refine g_i 13 C hw (hM.m rfl) rfl fl_X12_127 rfl dX12_newCoil_45 ?_
  refine tp_i (y := F 100 13) ((uF_n _ _ (Or.inl (by decide))).trans ((uF_n _ _ (Or.inl (by decide))).trans ((uF_n _ _ (Or.inl (by decide))).trans (rfl)))) ?_
  refine tp_i (y := nI nc) (hc) ?_
  refine lv_iconst (v := 0) hx hb dX12_newCoil_48 (by decide) ?_
  refine t_i nc C hw (hM.m rfl) rfl rfl (show _ < 16 by omega) dX12_newCoil_49 (fun H locs hw => ?_)
  refine lv_aload_n hx hb dX12_newCoil_50 rfl (lv_at hl 0 rfl) ?_
  refine g_r 19 (k2 := 120) C hw (hM.m rfl) rfl fl_X12_65 rfl (hM.p 19 rfl) dX12_newCoil_51 ?_
  refine lv_aload_n hx hb dX12_newCoil_54 rfl (lv_at hl 0 rfl) ?_
  refine g_i 13 C hw (hM.m rfl) rfl fl_X12_127 rfl dX12_newCoil_55 ?_
  refine tp_i (y := F 100 13) ((uF_n _ _ (Or.inl (by decide))).trans ((uF_n _ _ (Or.inl (by decide))).trans ((uF_n _ _ (Or.inl (by decide))).trans ((uF_n _ _ (Or.inl (by decide))).trans (rfl))))) ?_
  refine tp_i (y := nI nc) (hc) ?_
  refine lv_iconst (v := 0) hx hb dX12_newCoil_58 (by decide) ?_
  refine t_i nc C hw (hM.m rfl) rfl rfl (show _ < 16 by omega) dX12_newCoil_59 (fun H locs hw => ?_)
  refine lv_aload_n hx hb dX12_newCoil_60 rfl (lv_at hl 0 rfl) ?_
  refine g_r 20 (k2 := 121) C hw (hM.m rfl) rfl fl_X12_68 rfl (hM.p 20 rfl) dX12_newCoil_61 ?_
  refine lv_aload_n hx hb dX12_newCoil_64 rfl (lv_at hl 0 rfl) ?_
  refine g_i 13 C hw (hM.m rfl) rfl fl_X12_127 rfl dX12_newCoil_65 ?_
  refine tp_i (y := F 100 13) ((uF_n _ _ (Or.inl (by decide))).trans ((uF_n _ _ (Or.inl (by decide))).trans ((uF_n _ _ (Or.inl (by decide))).trans ((uF_n _ _ (Or.inl (by decide))).trans ((uF_n _ _ (Or.inl (by decide))).trans (rfl)))))) ?_
  refine tp_i (y := nI nc) (hc) ?_
  refine lv_iconst (v := 0) hx hb dX12_newCoil_68 (by decide) ?_
  refine t_z nc C hw (hM.m rfl) rfl rfl (show _ < 16 by omega) rfl dX12_newCoil_69 (fun H locs hw => ?_)
  refine lv_aload_n hx hb dX12_newCoil_70 rfl (lv_at hl 0 rfl) ?_
  refine lv_dup hx hb dX12_newCoil_71 rfl ?_
  refine g_i 13 C hw (hM.m rfl) rfl fl_X12_127 rfl dX12_newCoil_72 ?_
  refine tp_i (y := F 100 13) ((uF_n _ _ (Or.inl (by decide))).trans ((uF_n _ _ (Or.inl (by decide))).trans ((uF_n _ _ (Or.inl (by decide))).trans ((uF_n _ _ (Or.inl (by decide))).trans ((uF_n _ _ (Or.inl (by decide))).trans ((uF_n _ _ (Or.inl (by decide))).trans (rfl))))))) ?_
  refine tp_i (y := nI nc) (hc) ?_
  refine lv_iconst (v := 1) hx hb dX12_newCoil_75 (by decide) ?_
  refine lv_iadd hx hb dX12_newCoil_76 ?_
  refine tp_i (y := nI (nc + 1)) (nI_1 _) ?_
  refine p_i 13 C hw (hM.m rfl) rfl fl_X12_127 fc_12 fn_12_13 (fun h9 => by cases h9) rfl rfl rfl dX12_newCoil_77 (fun H locs hw => ?_)
  refine lv_aload_n hx hb dX12_newCoil_80 rfl (lv_at hl 0 rfl) ?_
  refine g_i 13 C hw (hM.m rfl) rfl fl_X12_127 rfl dX12_newCoil_81 ?_
  refine tp_i (y := nI (nc + 1)) (uF_s _ _ _ _) ?_
  refine lv_iconst (v := 1) hx hb dX12_newCoil_84 (by decide) ?_
  refine lv_isub hx hb dX12_newCoil_85 ?_
  refine tp_i (y := nI nc) (nI_pred _) ?_
  exact r_i C hr hlk hw ⟨rfl, rfl⟩ dX12_newCoil_86

set_option maxHeartbeats 4000000 in
set_option maxRecDepth 100000 in
theorem c_X12_coil (E : cE) (tt : Nat × Nat × Nat) {X : List Nat} (B : Nat → Nat) (F : tF) (G : tG) {P : tP} (hM : RM X P) (nc : Nat) (mt : Nat → Nat) (hC : CO F nc mt) (m0 s0 f0 b0 : Int32) (hb0 : vp_nar .boolean b0 = b0)  : CT E tt yX12_coil cX12_coil 8 (some .int) 2 0 0 [.ref (B (100)), .int (m0), .int (s0), .int (f0), .int (b0)] (wl E X B F G P) (fun r w => r = some (.int (sp_coil nc m0 s0 f0)) ∧ w = wl E X B (st_coilF F nc m0 s0 f0 b0) (st_coilG G nc m0 s0 f0) P) := by
  refine CT.mk (by decide +kernel) (Nat.le_of_ble_eq_true rfl) ?_
  intro l p e s m below meth c A ls C hr hlk hnm hw hl
  have hx := C.1
  have hb := C.2.1
  have hts := C.2.2.2.2
  have hown : s.vm.findClass RX12 = some m.cls := C.2.2.2.1
  have hl : lv_has ls 8 [(0, .ref (B (100))), (1, .int (m0)), (2, .int (s0)), (3, .int (f0)), (4, .int (b0))] := hl
  have hc16 := hC.2.1
  refine lv_iload_n hx hb dX12_coil_0 rfl (lv_at hl 1 rfl) ?_
  refine kS C hw (c_X12_isMetal E tt _ (m0)) vy_X12_isMetal ml_X12_131 rfl hl.1 (rest := []) rfl dX12_coil_1 (Nat.le_of_ble_eq_true rfl) ⟨by decide, by decide⟩ ⟨Nat.le_of_ble_eq_true rfl, Nat.le_of_ble_eq_true rfl⟩ (fun v_1 ws_1 H locs hp_1 hq_1 => ?_)
  clear hw
  rcases hp_1 with ⟨h_1, rfl, rfl⟩ | ⟨h_1, rfl, rfl⟩
  · have hw := hq_1
    refine W.eq (g2 := F0 m 4 ls [.int (1)]) rfl ?_
    refine lv_if_ne (tgt := 10) hx hb dX12_coil_4 (by decide) (fun _ => ?_) (fun h9 => False.elim (by revert h9; decide))
    refine lv_iload_n hx hb dX12_coil_10 rfl (lv_at hl 2 rfl) ?_
    refine kS C hw (c_X12_isSize E tt _ (s0)) vy_X12_isSize ml_X12_146 rfl hl.1 (rest := []) rfl dX12_coil_11 (Nat.le_of_ble_eq_true rfl) ⟨by decide, by decide⟩ ⟨Nat.le_of_ble_eq_true rfl, Nat.le_of_ble_eq_true rfl⟩ (fun v_11 ws_11 H locs hp_11 hq_11 => ?_)
    clear hw
    rcases hp_11 with ⟨h_11, rfl, rfl⟩ | ⟨h_11, rfl, rfl⟩
    · have hw := hq_11
      refine W.eq (g2 := F0 m 14 ls [.int (1)]) rfl ?_
      refine lv_if_eq (tgt := 28) hx hb dX12_coil_14 (by decide) (fun h9 => False.elim (by revert h9; decide)) (fun _ => ?_)
      refine lv_iload_n hx hb dX12_coil_17 rfl (lv_at hl 3 rfl) ?_
      refine lv_iconst (v := 1) hx hb dX12_coil_18 (by decide) ?_
      refine lv_sipush (v := 1000) hx hb dX12_coil_19 (by decide) ?_
      refine kS C hw (c_X12_within E tt _ (f0) (1) (1000)) vy_X12_within ml_X12_123 rfl hl.1 (rest := []) rfl dX12_coil_22 (Nat.le_of_ble_eq_true rfl) ⟨by decide, by decide⟩ ⟨Nat.le_of_ble_eq_true rfl, Nat.le_of_ble_eq_true rfl⟩ (fun v_22 ws_22 H locs hp_22 hq_22 => ?_)
      clear hw
      rcases hp_22 with ⟨h_22, rfl, rfl⟩ | ⟨h_22, rfl, rfl⟩
      · have hw := hq_22
        refine W.eq (g2 := F0 m 25 ls [.int (1)]) rfl ?_
        refine lv_if_ne (tgt := 31) hx hb dX12_coil_25 (by decide) (fun _ => ?_) (fun h9 => False.elim (by revert h9; decide))
        refine lv_aload_n hx hb dX12_coil_31 rfl (lv_at hl 0 rfl) ?_
        refine g_i 13 C hw (hM.m rfl) rfl fl_X12_127 rfl dX12_coil_32 ?_
        refine tp_i (y := nI nc) (hC.1) ?_
        refine lv_bipush (v := 16) hx hb dX12_coil_35 (by decide) ?_
        refine lv_icmp_ne (tgt := 43) hx hb dX12_coil_37 (by decide) (fun c_37 => ?_) (fun c_37 => ?_)
        · have hn3 : nc ≠ 16 := fun h9 => c_37 (by rw [h9]; rfl)
          refine lv_iload_n hx hb dX12_coil_43 rfl (lv_at hl 2 rfl) ?_
          refine lv_i2l hx hb dX12_coil_44 rfl ?_
          refine lv_iload_n hx hb dX12_coil_45 rfl (lv_at hl 2 rfl) ?_
          refine lv_i2l hx hb dX12_coil_46 rfl ?_
          refine lv_lmul hx hb dX12_coil_47 ?_
          refine lv_iload_n hx hb dX12_coil_48 rfl (lv_at hl 3 rfl) ?_
          refine lv_i2l hx hb dX12_coil_49 rfl ?_
          refine lv_lmul hx hb dX12_coil_50 ?_
          refine tp_l (y := all_coil s0 f0) (rfl) ?_
          refine lv_lstore (lv' := [(5, .long (all_coil s0 f0)), (0, .ref (B (100))), (1, .int (m0)), (2, .int (s0)), (3, .int (f0)), (4, .int (b0))]) hx hb dX12_coil_51 hl (by decide) rfl (fun ls hl => ?_)
          refine lv_aload_n hx hb dX12_coil_53 rfl (lv_at hl 1 rfl) ?_
          refine lv_dup hx hb dX12_coil_54 rfl ?_
          refine g_l 30 C hw (hM.m rfl) rfl fl_X12_159 rfl dX12_coil_55 ?_
          refine lv_lload hx hb dX12_coil_58 (lv_at hl 0 rfl) ?_
          refine lv_ladd hx hb dX12_coil_60 ?_
          refine p_l 30 C hw (hM.m rfl) rfl fl_X12_159 fc_12 fn_12_30 (fun h9 => by cases h9) rfl rfl rfl dX12_coil_61 (fun H locs hw => ?_)
          refine lv_aload_n hx hb dX12_coil_64 rfl (lv_at hl 1 rfl) ?_
          refine lv_iload_n hx hb dX12_coil_65 rfl (lv_at hl 2 rfl) ?_
          refine lv_iload_n hx hb dX12_coil_66 rfl (lv_at hl 3 rfl) ?_
          refine lv_lload hx hb dX12_coil_67 (lv_at hl 0 rfl) ?_
          refine kV C hw (c_X12_newCoil E tt B F (uG G 100 30 ((G 100 30 + all_coil s0 f0))) hM nc hC.1 (by omega) (m0) (s0) (all_coil s0 f0)) vy_X12_newCoil ml_X12_163 (rcv hw (hM.m rfl) rfl (by decide) (q2 := (RX12, TX12, 49)) rfl) rfl hl.1 (rest := []) rfl dX12_coil_69 (Nat.le_of_ble_eq_true rfl) ⟨by decide, by decide⟩ ⟨Nat.le_of_ble_eq_true rfl, Nat.le_of_ble_eq_true rfl⟩ (fun v_69 ws_69 H locs hp_69 hq_69 => ?_)
          clear hw
          obtain ⟨rfl, rfl⟩ := hp_69
          have hw := hq_69
          refine W.eq (g2 := F0 m 72 ls [.int (nI nc)]) rfl ?_
          refine lv_istore (lv' := [(7, .int (nI nc)), (5, .long (all_coil s0 f0)), (0, .ref (B (100))), (1, .int (m0)), (2, .int (s0)), (3, .int (f0)), (4, .int (b0))]) hx hb dX12_coil_72 hl (by decide) rfl (fun ls hl => ?_)
          refine lv_aload_n hx hb dX12_coil_74 rfl (lv_at hl 2 rfl) ?_
          refine g_r 20 (k2 := 121) C hw (hM.m rfl) rfl fl_X12_68 rfl (hM.p 20 rfl) dX12_coil_75 ?_
          refine lv_iload hx hb dX12_coil_78 (lv_at hl 0 rfl) ?_
          refine lv_iload hx hb dX12_coil_80 (lv_at hl 6 rfl) ?_
          refine t_z nc C hw (hM.m rfl) rfl rfl (show _ < 16 by omega) hb0 dX12_coil_82 (fun H locs hw => ?_)
          refine lv_iload hx hb dX12_coil_83 (lv_at hl 0 rfl) ?_
          exact r_i C hr hlk hw ⟨(by simp [sp_coil, st_coilF, st_coilG, ok_new, hn3, h_1, h_11, h_22, c_37]), (by simp [sp_coil, st_coilF, st_coilG, ok_new, hn3, h_1, h_11, h_22, c_37])⟩ dX12_coil_85
        · have hn3 : nc = 16 := (nI_eq (by omega) (by decide)).mp c_37
          refine lv_bipush (v := -8) hx hb dX12_coil_40 (by decide) ?_
          exact r_i C hr hlk hw ⟨(by simp [sp_coil, st_coilF, st_coilG, ok_new, hn3, h_1, h_11, h_22, c_37]), (by simp [sp_coil, st_coilF, st_coilG, ok_new, hn3, h_1, h_11, h_22, c_37])⟩ dX12_coil_42
      · have hw := hq_22
        refine W.eq (g2 := F0 m 25 ls [.int (0)]) rfl ?_
        refine lv_if_ne (tgt := 31) hx hb dX12_coil_25 (by decide) (fun h9 => False.elim (by revert h9; decide)) (fun _ => ?_)
        refine lv_bipush (v := -3) hx hb dX12_coil_28 (by decide) ?_
        exact r_i C hr hlk hw ⟨(by simp [sp_coil, st_coilF, st_coilG, ok_new, h_1, h_11, h_22]), (by simp [sp_coil, st_coilF, st_coilG, ok_new, h_1, h_11, h_22])⟩ dX12_coil_30
    · have hw := hq_11
      refine W.eq (g2 := F0 m 14 ls [.int (0)]) rfl ?_
      refine lv_if_eq (tgt := 28) hx hb dX12_coil_14 (by decide) (fun _ => ?_) (fun h9 => False.elim (by revert h9; decide))
      refine lv_bipush (v := -3) hx hb dX12_coil_28 (by decide) ?_
      exact r_i C hr hlk hw ⟨(by simp [sp_coil, st_coilF, st_coilG, ok_new, h_1, h_11]), (by simp [sp_coil, st_coilF, st_coilG, ok_new, h_1, h_11])⟩ dX12_coil_30
  · have hw := hq_1
    refine W.eq (g2 := F0 m 4 ls [.int (0)]) rfl ?_
    refine lv_if_ne (tgt := 10) hx hb dX12_coil_4 (by decide) (fun h9 => False.elim (by revert h9; decide)) (fun _ => ?_)
    refine lv_bipush (v := -2) hx hb dX12_coil_7 (by decide) ?_
    exact r_i C hr hlk hw ⟨(by simp [sp_coil, st_coilF, st_coilG, ok_new, h_1]), (by simp [sp_coil, st_coilF, st_coilG, ok_new, h_1])⟩ dX12_coil_9

set_option maxHeartbeats 4000000 in
set_option maxRecDepth 100000 in
theorem c_X12_at (E : cE) (tt : Nat × Nat × Nat) {X : List Nat} (B : Nat → Nat) (F : tF) (G : tG) {P : tP} (hM : RM X P) (nc : Nat) (mt : Nat → Nat) (hC : CO F nc mt) (c0 w0 : Int32)  : CT E tt yX12_at cX12_at 3 (some .int) 2 0 0 [.ref (B (100)), .int (c0), .int (w0)] (wl E X B F G P) (fun r w => r = some (.int (sp_at F G nc c0 w0)) ∧ w = wl E X B F G P) := by
  refine CT.mk (by decide +kernel) (Nat.le_of_ble_eq_true rfl) ?_
  intro l p e s m below meth c A ls C hr hlk hnm hw hl
  have hx := C.1
  have hb := C.2.1
  have hts := C.2.2.2.2
  have hown : s.vm.findClass RX12 = some m.cls := C.2.2.2.1
  have hl : lv_has ls 3 [(0, .ref (B (100))), (1, .int (c0)), (2, .int (w0))] := hl
  refine lv_aload_n hx hb dX12_at_0 rfl (lv_at hl 0 rfl) ?_
  refine lv_iload_n hx hb dX12_at_1 rfl (lv_at hl 1 rfl) ?_
  refine kV C hw (c_X12_isCoil E tt B F G hM nc hC.1 hC.2.1 (c0)) vy_X12_isCoil ml_X12_173 (rcv hw (hM.m rfl) rfl (by decide) (q2 := (RX12, TX12, 49)) rfl) rfl hl.1 (rest := []) rfl dX12_at_2 (Nat.le_of_ble_eq_true rfl) ⟨by decide, by decide⟩ ⟨Nat.le_of_ble_eq_true rfl, Nat.le_of_ble_eq_true rfl⟩ (fun v_2 ws_2 H locs hp_2 hq_2 => ?_)
  clear hw
  rcases hp_2 with ⟨h_2, rfl, rfl⟩ | ⟨h_2, rfl, rfl⟩
  · have hw := hq_2
    refine W.eq (g2 := F0 m 5 ls [.int (1)]) rfl ?_
    obtain ⟨c1, hl_c1, rfl, hs_c1⟩ := ok_coil_n hC.2.1 h_2
    have hz_c1 := i4_cl (i := c1) (by have := hC.2.1; omega)
    obtain ⟨hm_c1, hm4_c1, hd_c1⟩ := hC.2.2 c1 hl_c1
    have hc16 := hC.2.1
    refine lv_if_ne (tgt := 11) hx hb dX12_at_5 (by decide) (fun _ => ?_) (fun h9 => False.elim (by revert h9; decide))
    refine lv_iload_n hx hb dX12_at_11 rfl (lv_at hl 2 rfl) ?_
    rcases sw_7 w0 with h_sw | h_sw | h_sw | h_sw | h_sw | h_sw | h_sw | h_sw
    · refine lv_tableIn (tgt := 56) hx hb dX12_at_12 (by rw [h_sw]; decide) (by rw [h_sw]; decide) (by rw [h_sw]; rfl) (by decide) ?_
      refine lv_aload_n hx hb dX12_at_56 rfl (lv_at hl 0 rfl) ?_
      refine g_r 14 (k2 := 115) C hw (hM.m rfl) rfl fl_X12_49 rfl (hM.p 14 rfl) dX12_at_57 ?_
      refine lv_iload_n hx hb dX12_at_60 rfl (lv_at hl 1 rfl) ?_
      refine n_i c1 C hw (hM.m rfl) rfl rfl (show _ < 16 by omega) dX12_at_61 ?_
      exact r_i C hr hlk hw ⟨(by simp [sp_at, h_2, h_sw, hz_c1]), rfl⟩ dX12_at_62
    · refine lv_tableIn (tgt := 63) hx hb dX12_at_12 (by rw [h_sw]; decide) (by rw [h_sw]; decide) (by rw [h_sw]; rfl) (by decide) ?_
      refine lv_aload_n hx hb dX12_at_63 rfl (lv_at hl 0 rfl) ?_
      refine g_r 15 (k2 := 116) C hw (hM.m rfl) rfl fl_X12_52 rfl (hM.p 15 rfl) dX12_at_64 ?_
      refine lv_iload_n hx hb dX12_at_67 rfl (lv_at hl 1 rfl) ?_
      refine n_i c1 C hw (hM.m rfl) rfl rfl (show _ < 16 by omega) dX12_at_68 ?_
      exact r_i C hr hlk hw ⟨(by simp [sp_at, h_2, h_sw, hz_c1]), rfl⟩ dX12_at_69
    · refine lv_tableIn (tgt := 70) hx hb dX12_at_12 (by rw [h_sw]; decide) (by rw [h_sw]; decide) (by rw [h_sw]; rfl) (by decide) ?_
      refine lv_aload_n hx hb dX12_at_70 rfl (lv_at hl 0 rfl) ?_
      refine g_r 16 (k2 := 117) C hw (hM.m rfl) rfl fl_X12_55 rfl (hM.p 16 rfl) dX12_at_71 ?_
      refine lv_iload_n hx hb dX12_at_74 rfl (lv_at hl 1 rfl) ?_
      refine n_i c1 C hw (hM.m rfl) rfl rfl (show _ < 16 by omega) dX12_at_75 ?_
      exact r_i C hr hlk hw ⟨(by simp [sp_at, h_2, h_sw, hz_c1]), rfl⟩ dX12_at_76
    · refine lv_tableIn (tgt := 77) hx hb dX12_at_12 (by rw [h_sw]; decide) (by rw [h_sw]; decide) (by rw [h_sw]; rfl) (by decide) ?_
      refine lv_aload_n hx hb dX12_at_77 rfl (lv_at hl 0 rfl) ?_
      refine lv_iload_n hx hb dX12_at_78 rfl (lv_at hl 1 rfl) ?_
      refine kV C hw (c_X12_feetOf E tt B F G hM (q := c1) (by omega) (hd_c1)) vy_X12_feetOf ml_X12_167 (rcv hw (hM.m rfl) rfl (by decide) (q2 := (RX12, TX12, 49)) rfl) rfl hl.1 (rest := []) rfl dX12_at_79 (Nat.le_of_ble_eq_true rfl) ⟨by decide, by decide⟩ ⟨Nat.le_of_ble_eq_true rfl, Nat.le_of_ble_eq_true rfl⟩ (fun v_79 ws_79 H locs hp_79 hq_79 => ?_)
      clear hw
      obtain ⟨rfl, rfl⟩ := hp_79
      have hw := hq_79
      refine W.eq (g2 := F0 m 82 ls [.int (w_feet F G (c1))]) rfl ?_
      exact r_i C hr hlk hw ⟨(by simp [sp_at, h_2, h_sw, hz_c1]), rfl⟩ dX12_at_82
    · refine lv_tableIn (tgt := 83) hx hb dX12_at_12 (by rw [h_sw]; decide) (by rw [h_sw]; decide) (by rw [h_sw]; rfl) (by decide) ?_
      refine lv_aload_n hx hb dX12_at_83 rfl (lv_at hl 0 rfl) ?_
      refine g_r 18 (k2 := 119) C hw (hM.m rfl) rfl fl_X12_62 rfl (hM.p 18 rfl) dX12_at_84 ?_
      refine lv_iload_n hx hb dX12_at_87 rfl (lv_at hl 1 rfl) ?_
      refine n_i c1 C hw (hM.m rfl) rfl rfl (show _ < 16 by omega) dX12_at_88 ?_
      exact r_i C hr hlk hw ⟨(by simp [sp_at, h_2, h_sw, hz_c1]), rfl⟩ dX12_at_89
    · refine lv_tableIn (tgt := 90) hx hb dX12_at_12 (by rw [h_sw]; decide) (by rw [h_sw]; decide) (by rw [h_sw]; rfl) (by decide) ?_
      refine lv_aload_n hx hb dX12_at_90 rfl (lv_at hl 0 rfl) ?_
      refine g_r 19 (k2 := 120) C hw (hM.m rfl) rfl fl_X12_65 rfl (hM.p 19 rfl) dX12_at_91 ?_
      refine lv_iload_n hx hb dX12_at_94 rfl (lv_at hl 1 rfl) ?_
      refine n_i c1 C hw (hM.m rfl) rfl rfl (show _ < 16 by omega) dX12_at_95 ?_
      exact r_i C hr hlk hw ⟨(by simp [sp_at, h_2, h_sw, hz_c1]), rfl⟩ dX12_at_96
    · refine lv_tableIn (tgt := 97) hx hb dX12_at_12 (by rw [h_sw]; decide) (by rw [h_sw]; decide) (by rw [h_sw]; rfl) (by decide) ?_
      refine lv_aload_n hx hb dX12_at_97 rfl (lv_at hl 0 rfl) ?_
      refine g_r 20 (k2 := 121) C hw (hM.m rfl) rfl fl_X12_68 rfl (hM.p 20 rfl) dX12_at_98 ?_
      refine lv_iload_n hx hb dX12_at_101 rfl (lv_at hl 1 rfl) ?_
      refine n_z c1 C hw (hM.m rfl) rfl rfl (show _ < 16 by omega) dX12_at_102 ?_
      refine lv_if_eq (tgt := 110) hx hb dX12_at_103 (by decide) (fun c_103 => ?_) (fun c_103 => ?_)
      · refine lv_iconst (v := 0) hx hb dX12_at_110 (by decide) ?_
        exact r_i C hr hlk hw ⟨(by simp [sp_at, h_2, c_103, h_sw, hz_c1]), rfl⟩ dX12_at_111
      · refine lv_iconst (v := 1) hx hb dX12_at_106 (by decide) ?_
        refine lv_goto (tgt := 111) hx hb dX12_at_107 (by decide) ?_
        exact r_i C hr hlk hw ⟨(by simp [sp_at, h_2, c_103, h_sw, hz_c1]), rfl⟩ dX12_at_111
    · refine lv_tableOut (tgt := 112) hx hb dX12_at_12 h_sw (by decide) ?_
      refine lv_bipush (v := -3) hx hb dX12_at_112 (by decide) ?_
      exact r_i C hr hlk hw ⟨(by simp [sp_at, h_2, hz_c1, sw_no h_sw (y := 0) (by decide) (by decide), sw_no h_sw (y := 1) (by decide) (by decide), sw_no h_sw (y := 2) (by decide) (by decide), sw_no h_sw (y := 3) (by decide) (by decide), sw_no h_sw (y := 4) (by decide) (by decide), sw_no h_sw (y := 5) (by decide) (by decide), sw_no h_sw (y := 6) (by decide) (by decide)]), rfl⟩ dX12_at_114
  · have hw := hq_2
    refine W.eq (g2 := F0 m 5 ls [.int (0)]) rfl ?_
    refine lv_if_ne (tgt := 11) hx hb dX12_at_5 (by decide) (fun h9 => False.elim (by revert h9; decide)) (fun _ => ?_)
    refine lv_bipush (v := -2) hx hb dX12_at_8 (by decide) ?_
    exact r_i C hr hlk hw ⟨(by simp [sp_at, h_2]), (by simp [sp_at, h_2])⟩ dX12_at_10

set_option maxHeartbeats 4000000 in
set_option maxRecDepth 100000 in
theorem c_X12_stuff (E : cE) (tt : Nat × Nat × Nat) {X : List Nat} (B : Nat → Nat) (F : tF) (G : tG) {P : tP} (hM : RM X P) (nc : Nat) (mt : Nat → Nat) (hC : CO F nc mt) (c0 : Int32)  : CT E tt yX12_stuff cX12_stuff 2 (some .long) 2 0 0 [.ref (B (100)), .int (c0)] (wl E X B F G P) (fun r w => r = some (.long (sp_stuff G nc c0)) ∧ w = wl E X B F G P) := by
  refine CT.mk (by decide +kernel) (Nat.le_of_ble_eq_true rfl) ?_
  intro l p e s m below meth c A ls C hr hlk hnm hw hl
  have hx := C.1
  have hb := C.2.1
  have hts := C.2.2.2.2
  have hown : s.vm.findClass RX12 = some m.cls := C.2.2.2.1
  have hl : lv_has ls 2 [(0, .ref (B (100))), (1, .int (c0))] := hl
  refine lv_aload_n hx hb dX12_stuff_0 rfl (lv_at hl 0 rfl) ?_
  refine lv_iload_n hx hb dX12_stuff_1 rfl (lv_at hl 1 rfl) ?_
  refine kV C hw (c_X12_isCoil E tt B F G hM nc hC.1 hC.2.1 (c0)) vy_X12_isCoil ml_X12_173 (rcv hw (hM.m rfl) rfl (by decide) (q2 := (RX12, TX12, 49)) rfl) rfl hl.1 (rest := []) rfl dX12_stuff_2 (Nat.le_of_ble_eq_true rfl) ⟨by decide, by decide⟩ ⟨Nat.le_of_ble_eq_true rfl, Nat.le_of_ble_eq_true rfl⟩ (fun v_2 ws_2 H locs hp_2 hq_2 => ?_)
  clear hw
  rcases hp_2 with ⟨h_2, rfl, rfl⟩ | ⟨h_2, rfl, rfl⟩
  · have hw := hq_2
    refine W.eq (g2 := F0 m 5 ls [.int (1)]) rfl ?_
    obtain ⟨c1, hl_c1, rfl, hs_c1⟩ := ok_coil_n hC.2.1 h_2
    have hz_c1 := i4_cl (i := c1) (by have := hC.2.1; omega)
    obtain ⟨hm_c1, hm4_c1, hd_c1⟩ := hC.2.2 c1 hl_c1
    have hc16 := hC.2.1
    refine lv_if_eq (tgt := 17) hx hb dX12_stuff_5 (by decide) (fun h9 => False.elim (by revert h9; decide)) (fun _ => ?_)
    refine lv_aload_n hx hb dX12_stuff_8 rfl (lv_at hl 0 rfl) ?_
    refine g_r 17 (k2 := 118) C hw (hM.m rfl) rfl fl_X12_58 rfl (hM.p 17 rfl) dX12_stuff_9 ?_
    refine lv_iload_n hx hb dX12_stuff_12 rfl (lv_at hl 1 rfl) ?_
    refine n_l c1 C hw (hM.m rfl) rfl rfl (show _ < 16 by omega) dX12_stuff_13 ?_
    refine lv_goto (tgt := 20) hx hb dX12_stuff_14 (by decide) ?_
    exact r_l C hr hlk hw ⟨(by simp [sp_stuff, h_2, hz_c1]), rfl⟩ dX12_stuff_20
  · have hw := hq_2
    refine W.eq (g2 := F0 m 5 ls [.int (0)]) rfl ?_
    refine lv_if_eq (tgt := 17) hx hb dX12_stuff_5 (by decide) (fun _ => ?_) (fun h9 => False.elim (by revert h9; decide))
    refine lv_ldc2 (v := -2) hx hb hown (hts _ kc_X12_176) dX12_stuff_17 ?_
    exact r_l C hr hlk hw ⟨(by simp [sp_stuff, h_2]), rfl⟩ dX12_stuff_20
