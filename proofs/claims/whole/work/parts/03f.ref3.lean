set_option maxHeartbeats 4000000 in
set_option maxRecDepth 100000 in
theorem c_X12_thinner (E : cE) (tt : Nat × Nat × Nat) (ws : va_W) (s0 w0 : Int32) (hd : ¬ s0.toInt64 * s0.toInt64 = 0)  : CT E tt yX12_thinner cX12_thinner 2 (some .int) 0 0 0 [.int (s0), .int (w0)] ws (fun r w => r = some (.int (w_thin s0 w0)) ∧ w = ws) := by
  refine CT.mk (by decide +kernel) (Nat.le_of_ble_eq_true rfl) ?_
  intro l p e s m below meth c A ls C hr hlk hnm hw hl
  have hx := C.1
  have hb := C.2.1
  have hts := C.2.2.2.2
  have hown : s.vm.findClass RX12 = some m.cls := C.2.2.2.1
  have hl : lv_has ls 2 [(0, .int (s0)), (1, .int (w0))] := hl
  refine lv_sipush (v := 1000) hx hb dX12_thinner_0 (by decide) ?_
  refine lv_ldc2 (v := 1000) hx hb hown (hts _ kc_X12_178) dX12_thinner_3 ?_
  refine lv_iload_n hx hb dX12_thinner_6 rfl (lv_at hl 1 rfl) ?_
  refine lv_i2l hx hb dX12_thinner_7 rfl ?_
  refine lv_lmul hx hb dX12_thinner_8 ?_
  refine lv_iload_n hx hb dX12_thinner_9 rfl (lv_at hl 1 rfl) ?_
  refine lv_i2l hx hb dX12_thinner_10 rfl ?_
  refine lv_lmul hx hb dX12_thinner_11 ?_
  refine lv_iload_n hx hb dX12_thinner_12 rfl (lv_at hl 0 rfl) ?_
  refine lv_i2l hx hb dX12_thinner_13 rfl ?_
  refine lv_iload_n hx hb dX12_thinner_14 rfl (lv_at hl 0 rfl) ?_
  refine lv_i2l hx hb dX12_thinner_15 rfl ?_
  refine lv_lmul hx hb dX12_thinner_16 ?_
  refine lv_ldiv hx hb dX12_thinner_17 (hd) ?_
  refine lv_l2i hx hb dX12_thinner_18 rfl ?_
  refine lv_isub hx hb dX12_thinner_19 ?_
  exact r_i C hr hlk hw ⟨rfl, rfl⟩ dX12_thinner_20

set_option maxHeartbeats 4000000 in
set_option maxRecDepth 100000 in
theorem c_X12_harder (E : cE) (tt : Nat × Nat × Nat) {X : List Nat} (B : Nat → Nat) (F : tF) (G : tG) {P : tP} (hM : RM X P) {mt : Nat} (hm : mt < 4) (s0 h0 w0 : Int32) (hd : ¬ s0.toInt64 * s0.toInt64 = 0)  : CT E tt yX12_harder cX12_harder 5 (some .int) 1 0 0 [.ref (B (100)), .int (nI mt), .int (s0), .int (h0), .int (w0)] (wl E X B F G P) (fun r w => r = some (.int (w_hard F mt s0 h0 w0)) ∧ w = (wl E X B F G P)) := by
  refine CT.mk (by decide +kernel) (Nat.le_of_ble_eq_true rfl) ?_
  intro l p e s m below meth c A ls C hr hlk hnm hw hl
  have hx := C.1
  have hb := C.2.1
  have hts := C.2.2.2.2
  have hown : s.vm.findClass RX12 = some m.cls := C.2.2.2.1
  have hl : lv_has ls 5 [(0, .ref (B (100))), (1, .int (nI mt)), (2, .int (s0)), (3, .int (h0)), (4, .int (w0))] := hl
  refine lv_iload_n hx hb dX12_harder_0 rfl (lv_at hl 3 rfl) ?_
  refine lv_aload_n hx hb dX12_harder_1 rfl (lv_at hl 0 rfl) ?_
  refine g_r 1 (k2 := 102) C hw (hM.m rfl) rfl fl_X12_13 rfl (hM.p 1 rfl) dX12_harder_2 ?_
  refine lv_iload_n hx hb dX12_harder_5 rfl (lv_at hl 1 rfl) ?_
  refine n_i mt C hw (hM.m rfl) rfl rfl (show _ < 4 by omega) dX12_harder_6 ?_
  refine lv_iload_n hx hb dX12_harder_7 rfl (lv_at hl 2 rfl) ?_
  refine lv_iload hx hb dX12_harder_8 (lv_at hl 4 rfl) ?_
  refine kS C hw (c_X12_thinner E tt _ (s0) (w0) (hd)) vy_X12_thinner ml_X12_180 rfl hl.1 (rest := [.int (F 102 mt), .int (h0)]) rfl dX12_harder_10 (Nat.le_of_ble_eq_true rfl) ⟨by decide, by decide⟩ ⟨Nat.le_of_ble_eq_true rfl, Nat.le_of_ble_eq_true rfl⟩ (fun v_10 ws_10 H locs hp_10 hq_10 => ?_)
  clear hw
  obtain ⟨rfl, rfl⟩ := hp_10
  have hw := hq_10
  refine W.eq (g2 := F0 m 13 ls [.int (w_thin (s0) (w0)), .int (F 102 mt), .int (h0)]) rfl ?_
  refine lv_imul hx hb dX12_harder_13 ?_
  refine lv_sipush (v := 1000) hx hb dX12_harder_14 (by decide) ?_
  refine lv_idiv hx hb dX12_harder_17 (by decide) ?_
  refine lv_iadd hx hb dX12_harder_18 ?_
  exact r_i C hr hlk hw ⟨rfl, rfl⟩ dX12_harder_19

set_option maxHeartbeats 4000000 in
set_option maxRecDepth 100000 in
theorem c_X12_asksOf (E : cE) (tt : Nat × Nat × Nat) {X : List Nat} (B : Nat → Nat) (F : tF) (G : tG) {P : tP} (hM : RM X P) {mt : Nat} (hm : mt < 4) (s0 h0 w0 : Int32)  : CT E tt yX12_asksOf cX12_asksOf 7 (some .long) 0 0 0 [.ref (B (100)), .int (nI mt), .int (s0), .int (h0), .int (w0)] (wl E X B F G P) (fun r w => r = some (.long (w_asks F mt s0 h0 w0)) ∧ w = (wl E X B F G P)) := by
  refine CT.mk (by decide +kernel) (Nat.le_of_ble_eq_true rfl) ?_
  intro l p e s m below meth c A ls C hr hlk hnm hw hl
  have hx := C.1
  have hb := C.2.1
  have hts := C.2.2.2.2
  have hown : s.vm.findClass RX12 = some m.cls := C.2.2.2.1
  have hl : lv_has ls 7 [(0, .ref (B (100))), (1, .int (nI mt)), (2, .int (s0)), (3, .int (h0)), (4, .int (w0))] := hl
  refine lv_iload_n hx hb dX12_asksOf_0 rfl (lv_at hl 2 rfl) ?_
  refine lv_i2l hx hb dX12_asksOf_1 rfl ?_
  refine lv_iload_n hx hb dX12_asksOf_2 rfl (lv_at hl 2 rfl) ?_
  refine lv_i2l hx hb dX12_asksOf_3 rfl ?_
  refine lv_lmul hx hb dX12_asksOf_4 ?_
  refine lv_iload hx hb dX12_asksOf_5 (lv_at hl 4 rfl) ?_
  refine lv_i2l hx hb dX12_asksOf_7 rfl ?_
  refine lv_iload hx hb dX12_asksOf_8 (lv_at hl 4 rfl) ?_
  refine lv_i2l hx hb dX12_asksOf_10 rfl ?_
  refine lv_lmul hx hb dX12_asksOf_11 ?_
  refine lv_lsub hx hb dX12_asksOf_12 ?_
  refine lv_aload_n hx hb dX12_asksOf_13 rfl (lv_at hl 0 rfl) ?_
  refine g_r 0 (k2 := 101) C hw (hM.m rfl) rfl fl_X12_7 rfl (hM.p 0 rfl) dX12_asksOf_14 ?_
  refine lv_iload_n hx hb dX12_asksOf_17 rfl (lv_at hl 1 rfl) ?_
  refine n_i mt C hw (hM.m rfl) rfl rfl (show _ < 4 by omega) dX12_asksOf_18 ?_
  refine lv_i2l hx hb dX12_asksOf_19 rfl ?_
  refine lv_lmul hx hb dX12_asksOf_20 ?_
  refine lv_bipush (v := 100) hx hb dX12_asksOf_21 (by decide) ?_
  refine lv_iload_n hx hb dX12_asksOf_23 rfl (lv_at hl 3 rfl) ?_
  refine lv_iadd hx hb dX12_asksOf_24 ?_
  refine lv_i2l hx hb dX12_asksOf_25 rfl ?_
  refine lv_lmul hx hb dX12_asksOf_26 ?_
  refine lv_ldc2 (v := 100) hx hb hown (hts _ kc_X12_184) dX12_asksOf_27 ?_
  refine lv_ldiv hx hb dX12_asksOf_30 (by decide) ?_
  refine tp_l (y := w_ask1 F mt s0 h0 w0) (rfl) ?_
  refine lv_lstore (lv' := [(5, .long (w_ask1 F mt s0 h0 w0)), (0, .ref (B (100))), (1, .int (nI mt)), (2, .int (s0)), (3, .int (h0)), (4, .int (w0))]) hx hb dX12_asksOf_31 hl (by decide) rfl (fun ls hl => ?_)
  refine lv_lload hx hb dX12_asksOf_33 (lv_at hl 0 rfl) ?_
  refine lv_lload hx hb dX12_asksOf_35 (lv_at hl 0 rfl) ?_
  refine lv_aload_n hx hb dX12_asksOf_37 rfl (lv_at hl 1 rfl) ?_
  refine g_r 5 (k2 := 106) C hw (hM.m rfl) rfl fl_X12_25 rfl (hM.p 5 rfl) dX12_asksOf_38 ?_
  refine lv_iconst (v := 0) hx hb dX12_asksOf_41 (by decide) ?_
  refine n_i 0 C hw (hM.m rfl) rfl rfl (show _ < 6 by omega) dX12_asksOf_42 ?_
  refine lv_i2l hx hb dX12_asksOf_43 rfl ?_
  refine lv_lmul hx hb dX12_asksOf_44 ?_
  refine lv_ldc2 (v := 100) hx hb hown (hts _ kc_X12_184) dX12_asksOf_45 ?_
  refine lv_ldiv hx hb dX12_asksOf_48 (by decide) ?_
  refine lv_ladd hx hb dX12_asksOf_49 ?_
  exact r_l C hr hlk hw ⟨rfl, rfl⟩ dX12_asksOf_50

set_option maxHeartbeats 4000000 in
set_option maxRecDepth 100000 in
theorem c_X12_bearsOf (E : cE) (tt : Nat × Nat × Nat) {X : List Nat} (B : Nat → Nat) (F : tF) (G : tG) {P : tP} (hM : RM X P) {mt : Nat} (hm : mt < 4) (s0 h0 w0 j0 : Int32) (hd : ¬ s0.toInt64 * s0.toInt64 = 0)  : CT E tt yX12_bearsOf cX12_bearsOf 8 (some .long) 2 0 0 [.ref (B (100)), .int (nI mt), .int (s0), .int (h0), .int (w0), .int (j0)] (wl E X B F G P) (fun r w => r = some (.long (w_bears F mt s0 h0 w0 j0)) ∧ w = (wl E X B F G P)) := by
  refine CT.mk (by decide +kernel) (Nat.le_of_ble_eq_true rfl) ?_
  intro l p e s m below meth c A ls C hr hlk hnm hw hl
  have hx := C.1
  have hb := C.2.1
  have hts := C.2.2.2.2
  have hown : s.vm.findClass RX12 = some m.cls := C.2.2.2.1
  have hl : lv_has ls 8 [(0, .ref (B (100))), (1, .int (nI mt)), (2, .int (s0)), (3, .int (h0)), (4, .int (w0)), (5, .int (j0))] := hl
  refine lv_iload hx hb dX12_bearsOf_0 (lv_at hl 4 rfl) ?_
  refine lv_i2l hx hb dX12_bearsOf_2 rfl ?_
  refine lv_iload hx hb dX12_bearsOf_3 (lv_at hl 4 rfl) ?_
  refine lv_i2l hx hb dX12_bearsOf_5 rfl ?_
  refine lv_lmul hx hb dX12_bearsOf_6 ?_
  refine lv_aload_n hx hb dX12_bearsOf_7 rfl (lv_at hl 0 rfl) ?_
  refine g_r 0 (k2 := 101) C hw (hM.m rfl) rfl fl_X12_7 rfl (hM.p 0 rfl) dX12_bearsOf_8 ?_
  refine lv_iload_n hx hb dX12_bearsOf_11 rfl (lv_at hl 1 rfl) ?_
  refine n_i mt C hw (hM.m rfl) rfl rfl (show _ < 4 by omega) dX12_bearsOf_12 ?_
  refine lv_i2l hx hb dX12_bearsOf_13 rfl ?_
  refine lv_lmul hx hb dX12_bearsOf_14 ?_
  refine lv_bipush (v := 100) hx hb dX12_bearsOf_15 (by decide) ?_
  refine lv_aload_n hx hb dX12_bearsOf_17 rfl (lv_at hl 0 rfl) ?_
  refine lv_iload_n hx hb dX12_bearsOf_18 rfl (lv_at hl 1 rfl) ?_
  refine lv_iload_n hx hb dX12_bearsOf_19 rfl (lv_at hl 2 rfl) ?_
  refine lv_iload_n hx hb dX12_bearsOf_20 rfl (lv_at hl 3 rfl) ?_
  refine lv_iload hx hb dX12_bearsOf_21 (lv_at hl 4 rfl) ?_
  refine kV C hw (c_X12_harder E tt B F G hM (mt := mt) hm (s0) (h0) (w0) (hd)) vy_X12_harder ml_X12_186 (rcv hw (hM.m rfl) rfl (by decide) (q2 := (RX12, TX12, 49)) rfl) rfl hl.1 (rest := [.int (100), .long ((((w0 : Int32).toInt64 * (w0 : Int32).toInt64) * (F 101 mt : Int32).toInt64))]) rfl dX12_bearsOf_23 (Nat.le_of_ble_eq_true rfl) ⟨by decide, by decide⟩ ⟨Nat.le_of_ble_eq_true rfl, Nat.le_of_ble_eq_true rfl⟩ (fun v_23 ws_23 H locs hp_23 hq_23 => ?_)
  clear hw
  obtain ⟨rfl, rfl⟩ := hp_23
  have hw := hq_23
  refine W.eq (g2 := F0 m 26 ls [.int (w_hard F (mt) (s0) (h0) (w0)), .int (100), .long ((((w0 : Int32).toInt64 * (w0 : Int32).toInt64) * (F 101 mt : Int32).toInt64))]) rfl ?_
  refine lv_iadd hx hb dX12_bearsOf_26 ?_
  refine lv_i2l hx hb dX12_bearsOf_27 rfl ?_
  refine lv_lmul hx hb dX12_bearsOf_28 ?_
  refine lv_ldc2 (v := 100) hx hb hown (hts _ kc_X12_184) dX12_bearsOf_29 ?_
  refine lv_ldiv hx hb dX12_bearsOf_32 (by decide) ?_
  refine tp_l (y := w_bear1 F mt s0 h0 w0) (rfl) ?_
  refine lv_lstore (lv' := [(6, .long (w_bear1 F mt s0 h0 w0)), (0, .ref (B (100))), (1, .int (nI mt)), (2, .int (s0)), (3, .int (h0)), (4, .int (w0)), (5, .int (j0))]) hx hb dX12_bearsOf_33 hl (by decide) rfl (fun ls hl => ?_)
  refine lv_iload hx hb dX12_bearsOf_35 (lv_at hl 6 rfl) ?_
  refine lv_if_le (tgt := 53) hx hb dX12_bearsOf_37 (by decide) (fun c_37 => ?_) (fun c_37 => ?_)
  · have c_0 : ¬ 0 < j0 := Int32.not_lt.mpr c_37
    refine lv_lload hx hb dX12_bearsOf_53 (lv_at hl 0 rfl) ?_
    refine lv_lstore (lv' := [(6, .long (w_bear1 F mt s0 h0 w0)), (0, .ref (B (100))), (1, .int (nI mt)), (2, .int (s0)), (3, .int (h0)), (4, .int (w0)), (5, .int (j0))]) hx hb dX12_bearsOf_55 hl (by decide) rfl (fun ls hl => ?_)
    refine lv_lload hx hb dX12_bearsOf_57 (lv_at hl 0 rfl) ?_
    refine lv_aload_n hx hb dX12_bearsOf_59 rfl (lv_at hl 1 rfl) ?_
    refine g_r 5 (k2 := 106) C hw (hM.m rfl) rfl fl_X12_25 rfl (hM.p 5 rfl) dX12_bearsOf_60 ?_
    refine lv_iconst (v := 1) hx hb dX12_bearsOf_63 (by decide) ?_
    refine n_i 1 C hw (hM.m rfl) rfl rfl (show _ < 6 by omega) dX12_bearsOf_64 ?_
    refine lv_i2l hx hb dX12_bearsOf_65 rfl ?_
    refine lv_lmul hx hb dX12_bearsOf_66 ?_
    refine lv_ldc2 (v := 100) hx hb hown (hts _ kc_X12_184) dX12_bearsOf_67 ?_
    refine lv_ldiv hx hb dX12_bearsOf_70 (by decide) ?_
    exact r_l C hr hlk hw ⟨(by simp [w_bears, c_0]), rfl⟩ dX12_bearsOf_71
  · have c_0 : 0 < j0 := Int32.not_le.mp c_37
    refine lv_lload hx hb dX12_bearsOf_40 (lv_at hl 0 rfl) ?_
    refine lv_ldc2 (v := 8) hx hb hown (hts _ kc_X12_190) dX12_bearsOf_42 ?_
    refine lv_lmul hx hb dX12_bearsOf_45 ?_
    refine lv_ldc2 (v := 10) hx hb hown (hts _ kc_X12_192) dX12_bearsOf_46 ?_
    refine lv_ldiv hx hb dX12_bearsOf_49 (by decide) ?_
    refine lv_goto (tgt := 55) hx hb dX12_bearsOf_50 (by decide) ?_
    refine lv_lstore (lv' := [(6, .long (((w_bear1 F mt s0 h0 w0 * 8) / 10))), (0, .ref (B (100))), (1, .int (nI mt)), (2, .int (s0)), (3, .int (h0)), (4, .int (w0)), (5, .int (j0))]) hx hb dX12_bearsOf_55 hl (by decide) rfl (fun ls hl => ?_)
    refine lv_lload hx hb dX12_bearsOf_57 (lv_at hl 0 rfl) ?_
    refine lv_aload_n hx hb dX12_bearsOf_59 rfl (lv_at hl 1 rfl) ?_
    refine g_r 5 (k2 := 106) C hw (hM.m rfl) rfl fl_X12_25 rfl (hM.p 5 rfl) dX12_bearsOf_60 ?_
    refine lv_iconst (v := 1) hx hb dX12_bearsOf_63 (by decide) ?_
    refine n_i 1 C hw (hM.m rfl) rfl rfl (show _ < 6 by omega) dX12_bearsOf_64 ?_
    refine lv_i2l hx hb dX12_bearsOf_65 rfl ?_
    refine lv_lmul hx hb dX12_bearsOf_66 ?_
    refine lv_ldc2 (v := 100) hx hb hown (hts _ kc_X12_184) dX12_bearsOf_67 ?_
    refine lv_ldiv hx hb dX12_bearsOf_70 (by decide) ?_
    exact r_l C hr hlk hw ⟨(by simp [w_bears, c_0]), rfl⟩ dX12_bearsOf_71

set_option maxHeartbeats 4000000 in
set_option maxRecDepth 100000 in
theorem c_X12_pullOf (E : cE) (tt : Nat × Nat × Nat) {X : List Nat} (B : Nat → Nat) (F : tF) (G : tG) {P : tP} (hM : RM X P) {u : Nat} (hu : u < 3)  : CT E tt yX12_pullOf cX12_pullOf 2 (some .long) 0 0 0 [.ref (B (100)), .int (nI u)] (wl E X B F G P) (fun r w => r = some (.long (w_pull F u)) ∧ w = (wl E X B F G P)) := by
  refine CT.mk (by decide +kernel) (Nat.le_of_ble_eq_true rfl) ?_
  intro l p e s m below meth c A ls C hr hlk hnm hw hl
  have hx := C.1
  have hb := C.2.1
  have hts := C.2.2.2.2
  have hown : s.vm.findClass RX12 = some m.cls := C.2.2.2.1
  have hl : lv_has ls 2 [(0, .ref (B (100))), (1, .int (nI u))] := hl
  refine lv_iload_n hx hb dX12_pullOf_0 rfl (lv_at hl 1 rfl) ?_
  refine lv_if_ne (tgt := 26) hx hb dX12_pullOf_1 (by decide) (fun c_1 => ?_) (fun c_1 => ?_)
  · refine lv_aload_n hx hb dX12_pullOf_26 rfl (lv_at hl 0 rfl) ?_
    refine g_r 6 (k2 := 107) C hw (hM.m rfl) rfl fl_X12_28 rfl (hM.p 6 rfl) dX12_pullOf_27 ?_
    refine lv_iload_n hx hb dX12_pullOf_30 rfl (lv_at hl 1 rfl) ?_
    refine n_i u C hw (hM.m rfl) rfl rfl (show _ < 3 by omega) dX12_pullOf_31 ?_
    refine lv_i2l hx hb dX12_pullOf_32 rfl ?_
    exact r_l C hr hlk hw ⟨(by rw [w_pull, if_neg (fun e1 => c_1 (by rw [e1]; rfl))]), rfl⟩ dX12_pullOf_33
  · have e1 : u = 0 := (nI_eq (by omega) (by decide)).mp c_1
    subst e1
    refine lv_aload_n hx hb dX12_pullOf_4 rfl (lv_at hl 0 rfl) ?_
    refine g_r 6 (k2 := 107) C hw (hM.m rfl) rfl fl_X12_28 rfl (hM.p 6 rfl) dX12_pullOf_5 ?_
    refine lv_iconst (v := 0) hx hb dX12_pullOf_8 (by decide) ?_
    refine n_i 0 C hw (hM.m rfl) rfl rfl (show _ < 3 by omega) dX12_pullOf_9 ?_
    refine lv_i2l hx hb dX12_pullOf_10 rfl ?_
    refine lv_aload_n hx hb dX12_pullOf_11 rfl (lv_at hl 0 rfl) ?_
    refine g_r 5 (k2 := 106) C hw (hM.m rfl) rfl fl_X12_25 rfl (hM.p 5 rfl) dX12_pullOf_12 ?_
    refine lv_iconst (v := 2) hx hb dX12_pullOf_15 (by decide) ?_
    refine n_i 2 C hw (hM.m rfl) rfl rfl (show _ < 6 by omega) dX12_pullOf_16 ?_
    refine lv_i2l hx hb dX12_pullOf_17 rfl ?_
    refine lv_lmul hx hb dX12_pullOf_18 ?_
    refine lv_ldc2 (v := 10) hx hb hown (hts _ kc_X12_192) dX12_pullOf_19 ?_
    refine lv_ldiv hx hb dX12_pullOf_22 (by decide) ?_
    refine lv_goto (tgt := 33) hx hb dX12_pullOf_23 (by decide) ?_
    exact r_l C hr hlk hw ⟨(by simp [w_pull]), rfl⟩ dX12_pullOf_33

set_option maxHeartbeats 4000000 in
set_option maxRecDepth 100000 in
theorem c_X12_against (E : cE) (tt : Nat × Nat × Nat) {X : List Nat} (B : Nat → Nat) (F : tF) (G : tG) {P : tP} (hM : RM X P) {c1 q u mt : Nat} (hc : c1 < 16) (hmt : F 115 c1 = nI mt) (hm : mt < 4) (hq : q < 32) (hu : u < 3) (s0 h0 : Int32) (hd : ¬ s0.toInt64 * s0.toInt64 = 0)  : CT E tt yX12_against cX12_against 8 (some .int) 3 0 0 [.ref (B (100)), .int (nI c1), .int (s0), .int (h0), .int (nI q), .int (nI u)] (wl E X B F G P) (fun r w => r = some (.int (w_ag F mt (F 119 c1) s0 h0 q u)) ∧ w = (wl E X B F G P)) := by
  refine CT.mk (by decide +kernel) (Nat.le_of_ble_eq_true rfl) ?_
  intro l p e s m below meth c A ls C hr hlk hnm hw hl
  have hx := C.1
  have hb := C.2.1
  have hts := C.2.2.2.2
  have hown : s.vm.findClass RX12 = some m.cls := C.2.2.2.1
  have hl : lv_has ls 8 [(0, .ref (B (100))), (1, .int (nI c1)), (2, .int (s0)), (3, .int (h0)), (4, .int (nI q)), (5, .int (nI u))] := hl
  refine lv_aload_n hx hb dX12_against_0 rfl (lv_at hl 0 rfl) ?_
  refine lv_iload hx hb dX12_against_1 (lv_at hl 4 rfl) ?_
  refine kV C hw (c_X12_wide E tt B F G hM (q := q) (by omega)) vy_X12_wide ml_X12_149 (rcv hw (hM.m rfl) rfl (by decide) (q2 := (RX12, TX12, 49)) rfl) rfl hl.1 (rest := []) rfl dX12_against_3 (Nat.le_of_ble_eq_true rfl) ⟨by decide, by decide⟩ ⟨Nat.le_of_ble_eq_true rfl, Nat.le_of_ble_eq_true rfl⟩ (fun v_3 ws_3 H locs hp_3 hq_3 => ?_)
  clear hw
  obtain ⟨rfl, rfl⟩ := hp_3
  have hw := hq_3
  refine W.eq (g2 := F0 m 6 ls [.int (w_wide F (q))]) rfl ?_
  refine lv_istore (lv' := [(6, .int (w_wide F (q))), (0, .ref (B (100))), (1, .int (nI c1)), (2, .int (s0)), (3, .int (h0)), (4, .int (nI q)), (5, .int (nI u))]) hx hb dX12_against_6 hl (by decide) rfl (fun ls hl => ?_)
  refine lv_aload_n hx hb dX12_against_8 rfl (lv_at hl 1 rfl) ?_
  refine g_r 14 (k2 := 115) C hw (hM.m rfl) rfl fl_X12_49 rfl (hM.p 14 rfl) dX12_against_9 ?_
  refine lv_iload_n hx hb dX12_against_12 rfl (lv_at hl 2 rfl) ?_
  refine n_i c1 C hw (hM.m rfl) rfl rfl (show _ < 16 by omega) dX12_against_13 ?_
  refine tp_i (y := nI mt) (hmt) ?_
  refine lv_istore (lv' := [(7, .int (nI mt)), (6, .int (w_wide F (q))), (0, .ref (B (100))), (1, .int (nI c1)), (2, .int (s0)), (3, .int (h0)), (4, .int (nI q)), (5, .int (nI u))]) hx hb dX12_against_14 hl (by decide) rfl (fun ls hl => ?_)
  refine lv_aload_n hx hb dX12_against_16 rfl (lv_at hl 2 rfl) ?_
  refine lv_iload hx hb dX12_against_17 (lv_at hl 6 rfl) ?_
  refine kV C hw (c_X12_isSpent E tt B F G hM (q := q) (by omega)) vy_X12_isSpent ml_X12_156 (rcv hw (hM.m rfl) rfl (by decide) (q2 := (RX12, TX12, 49)) rfl) rfl hl.1 (rest := []) rfl dX12_against_19 (Nat.le_of_ble_eq_true rfl) ⟨by decide, by decide⟩ ⟨Nat.le_of_ble_eq_true rfl, Nat.le_of_ble_eq_true rfl⟩ (fun v_19 ws_19 H locs hp_19 hq_19 => ?_)
  clear hw
  rcases hp_19 with ⟨h_19, rfl, rfl⟩ | ⟨h_19, rfl, rfl⟩
  · have hw := hq_19
    refine W.eq (g2 := F0 m 22 ls [.int (1)]) rfl ?_
    refine lv_if_ne (tgt := 31) hx hb dX12_against_22 (by decide) (fun _ => ?_) (fun h9 => False.elim (by revert h9; decide))
    refine lv_bipush (v := -4) hx hb dX12_against_31 (by decide) ?_
    exact r_i C hr hlk hw ⟨(by simp only [w_ag, h_19, not_true_eq_false, not_false_eq_true, false_or, or_false, true_or, or_true, if_true, if_false]), rfl⟩ dX12_against_33
  · have hw := hq_19
    refine W.eq (g2 := F0 m 22 ls [.int (0)]) rfl ?_
    refine lv_if_ne (tgt := 31) hx hb dX12_against_22 (by decide) (fun h9 => False.elim (by revert h9; decide)) (fun _ => ?_)
    refine lv_iload hx hb dX12_against_25 (lv_at hl 1 rfl) ?_
    refine lv_iload_n hx hb dX12_against_27 rfl (lv_at hl 4 rfl) ?_
    refine lv_icmp_lt (tgt := 34) hx hb dX12_against_28 (by decide) (fun c_28 => ?_) (fun c_28 => ?_)
    · refine lv_aload_n hx hb dX12_against_34 rfl (lv_at hl 2 rfl) ?_
      refine lv_iload hx hb dX12_against_35 (lv_at hl 0 rfl) ?_
      refine lv_iload_n hx hb dX12_against_37 rfl (lv_at hl 4 rfl) ?_
      refine lv_iload_n hx hb dX12_against_38 rfl (lv_at hl 5 rfl) ?_
      refine lv_iload hx hb dX12_against_39 (lv_at hl 1 rfl) ?_
      refine kV C hw (c_X12_harder E tt B F G hM (mt := mt) hm (s0) (h0) (w_wide F (q)) (hd)) vy_X12_harder ml_X12_186 (rcv hw (hM.m rfl) rfl (by decide) (q2 := (RX12, TX12, 49)) rfl) rfl hl.1 (rest := []) rfl dX12_against_41 (Nat.le_of_ble_eq_true rfl) ⟨by decide, by decide⟩ ⟨Nat.le_of_ble_eq_true rfl, Nat.le_of_ble_eq_true rfl⟩ (fun v_41 ws_41 H locs hp_41 hq_41 => ?_)
      clear hw
      obtain ⟨rfl, rfl⟩ := hp_41
      have hw := hq_41
      refine W.eq (g2 := F0 m 44 ls [.int (w_hard F (mt) (s0) (h0) (w_wide F (q)))]) rfl ?_
      refine lv_aload_n hx hb dX12_against_44 rfl (lv_at hl 2 rfl) ?_
      refine g_r 2 (k2 := 103) C hw (hM.m rfl) rfl fl_X12_16 rfl (hM.p 2 rfl) dX12_against_45 ?_
      refine lv_iload hx hb dX12_against_48 (lv_at hl 0 rfl) ?_
      refine n_i mt C hw (hM.m rfl) rfl rfl (show _ < 4 by omega) dX12_against_50 ?_
      refine lv_icmp_le (tgt := 57) hx hb dX12_against_51 (by decide) (fun c_51 => ?_) (fun c_51 => ?_)
      · rw [← Int32.not_lt] at c_51
        refine lv_aload_n hx hb dX12_against_57 rfl (lv_at hl 2 rfl) ?_
        refine lv_iload hx hb dX12_against_58 (lv_at hl 0 rfl) ?_
        refine lv_iload_n hx hb dX12_against_60 rfl (lv_at hl 4 rfl) ?_
        refine lv_iload_n hx hb dX12_against_61 rfl (lv_at hl 5 rfl) ?_
        refine lv_iload hx hb dX12_against_62 (lv_at hl 1 rfl) ?_
        refine kV C hw (c_X12_asksOf E tt B F G hM (mt := mt) hm (s0) (h0) (w_wide F (q))) vy_X12_asksOf ml_X12_194 (rcv hw (hM.m rfl) rfl (by decide) (q2 := (RX12, TX12, 49)) rfl) rfl hl.1 (rest := []) rfl dX12_against_64 (Nat.le_of_ble_eq_true rfl) ⟨by decide, by decide⟩ ⟨Nat.le_of_ble_eq_true rfl, Nat.le_of_ble_eq_true rfl⟩ (fun v_64 ws_64 H locs hp_64 hq_64 => ?_)
        clear hw
        obtain ⟨rfl, rfl⟩ := hp_64
        have hw := hq_64
        refine W.eq (g2 := F0 m 67 ls [.long (w_asks F (mt) (s0) (h0) (w_wide F (q)))]) rfl ?_
        refine lv_aload_n hx hb dX12_against_67 rfl (lv_at hl 2 rfl) ?_
        refine lv_iload hx hb dX12_against_68 (lv_at hl 0 rfl) ?_
        refine lv_iload_n hx hb dX12_against_70 rfl (lv_at hl 4 rfl) ?_
        refine lv_iload_n hx hb dX12_against_71 rfl (lv_at hl 5 rfl) ?_
        refine lv_iload hx hb dX12_against_72 (lv_at hl 1 rfl) ?_
        refine lv_aload_n hx hb dX12_against_74 rfl (lv_at hl 2 rfl) ?_
        refine g_r 18 (k2 := 119) C hw (hM.m rfl) rfl fl_X12_62 rfl (hM.p 18 rfl) dX12_against_75 ?_
        refine lv_iload_n hx hb dX12_against_78 rfl (lv_at hl 3 rfl) ?_
        refine n_i c1 C hw (hM.m rfl) rfl rfl (show _ < 16 by omega) dX12_against_79 ?_
        refine kV C hw (c_X12_bearsOf E tt B F G hM (mt := mt) hm (s0) (h0) (w_wide F (q)) (F 119 c1) (hd)) vy_X12_bearsOf ml_X12_198 (rcv hw (hM.m rfl) rfl (by decide) (q2 := (RX12, TX12, 49)) rfl) rfl hl.1 (rest := [.long (w_asks F (mt) (s0) (h0) (w_wide F (q)))]) rfl dX12_against_80 (Nat.le_of_ble_eq_true rfl) ⟨by decide, by decide⟩ ⟨Nat.le_of_ble_eq_true rfl, Nat.le_of_ble_eq_true rfl⟩ (fun v_80 ws_80 H locs hp_80 hq_80 => ?_)
        clear hw
        obtain ⟨rfl, rfl⟩ := hp_80
        have hw := hq_80
        refine W.eq (g2 := F0 m 83 ls [.long (w_bears F (mt) (s0) (h0) (w_wide F (q)) (F 119 c1)), .long (w_asks F (mt) (s0) (h0) (w_wide F (q)))]) rfl ?_
        refine W.lcmp hx hb dX12_against_83 ?_
        refine lv_if_le (tgt := 90) hx hb dX12_against_84 (by decide) (fun c_84 => ?_) (fun c_84 => ?_)
        · rw [lg_le, ← Int64.not_lt] at c_84
          refine lv_aload_n hx hb dX12_against_90 rfl (lv_at hl 2 rfl) ?_
          refine lv_iload hx hb dX12_against_91 (lv_at hl 0 rfl) ?_
          refine lv_iload_n hx hb dX12_against_93 rfl (lv_at hl 4 rfl) ?_
          refine lv_iload_n hx hb dX12_against_94 rfl (lv_at hl 5 rfl) ?_
          refine lv_iload hx hb dX12_against_95 (lv_at hl 1 rfl) ?_
          refine kV C hw (c_X12_asksOf E tt B F G hM (mt := mt) hm (s0) (h0) (w_wide F (q))) vy_X12_asksOf ml_X12_194 (rcv hw (hM.m rfl) rfl (by decide) (q2 := (RX12, TX12, 49)) rfl) rfl hl.1 (rest := []) rfl dX12_against_97 (Nat.le_of_ble_eq_true rfl) ⟨by decide, by decide⟩ ⟨Nat.le_of_ble_eq_true rfl, Nat.le_of_ble_eq_true rfl⟩ (fun v_97 ws_97 H locs hp_97 hq_97 => ?_)
          clear hw
          obtain ⟨rfl, rfl⟩ := hp_97
          have hw := hq_97
          refine W.eq (g2 := F0 m 100 ls [.long (w_asks F (mt) (s0) (h0) (w_wide F (q)))]) rfl ?_
          refine lv_aload_n hx hb dX12_against_100 rfl (lv_at hl 2 rfl) ?_
          refine lv_iload hx hb dX12_against_101 (lv_at hl 7 rfl) ?_
          refine kV C hw (c_X12_pullOf E tt B F G hM (u := u) (by omega)) vy_X12_pullOf ml_X12_202 (rcv hw (hM.m rfl) rfl (by decide) (q2 := (RX12, TX12, 49)) rfl) rfl hl.1 (rest := [.long (w_asks F (mt) (s0) (h0) (w_wide F (q)))]) rfl dX12_against_103 (Nat.le_of_ble_eq_true rfl) ⟨by decide, by decide⟩ ⟨Nat.le_of_ble_eq_true rfl, Nat.le_of_ble_eq_true rfl⟩ (fun v_103 ws_103 H locs hp_103 hq_103 => ?_)
          clear hw
          obtain ⟨rfl, rfl⟩ := hp_103
          have hw := hq_103
          refine W.eq (g2 := F0 m 106 ls [.long (w_pull F (u)), .long (w_asks F (mt) (s0) (h0) (w_wide F (q)))]) rfl ?_
          refine W.lcmp hx hb dX12_against_106 ?_
          refine lv_if_le (tgt := 115) hx hb dX12_against_107 (by decide) (fun c_107 => ?_) (fun c_107 => ?_)
          · rw [lg_le, ← Int64.not_lt] at c_107
            refine lv_iconst (v := 1) hx hb dX12_against_115 (by decide) ?_
            exact r_i C hr hlk hw ⟨(by simp only [w_ag, h_19, c_28, c_51, c_84, c_107, not_true_eq_false, not_false_eq_true, false_or, or_false, true_or, or_true, if_true, if_false]), rfl⟩ dX12_against_116
          · rw [lg_no] at c_107
            refine lv_bipush (v := -7) hx hb dX12_against_110 (by decide) ?_
            refine lv_goto (tgt := 116) hx hb dX12_against_112 (by decide) ?_
            exact r_i C hr hlk hw ⟨(by simp only [w_ag, h_19, c_28, c_51, c_84, c_107, not_true_eq_false, not_false_eq_true, false_or, or_false, true_or, or_true, if_true, if_false]), rfl⟩ dX12_against_116
        · rw [lg_no] at c_84
          refine lv_bipush (v := -6) hx hb dX12_against_87 (by decide) ?_
          exact r_i C hr hlk hw ⟨(by simp only [w_ag, h_19, c_28, c_51, c_84, not_true_eq_false, not_false_eq_true, false_or, or_false, true_or, or_true, if_true, if_false]), rfl⟩ dX12_against_89
      · rw [Int32.not_le] at c_51
        refine lv_bipush (v := -5) hx hb dX12_against_54 (by decide) ?_
        exact r_i C hr hlk hw ⟨(by simp only [w_ag, h_19, c_28, c_51, not_true_eq_false, not_false_eq_true, false_or, or_false, true_or, or_true, if_true, if_false]), rfl⟩ dX12_against_56
    · refine lv_bipush (v := -4) hx hb dX12_against_31 (by decide) ?_
      exact r_i C hr hlk hw ⟨(by simp only [w_ag, h_19, c_28, not_true_eq_false, not_false_eq_true, false_or, or_false, true_or, or_true, if_true, if_false]), rfl⟩ dX12_against_33

set_option maxHeartbeats 4000000 in
set_option maxRecDepth 100000 in
theorem c_X12_asks (E : cE) (tt : Nat × Nat × Nat) {X : List Nat} (B : Nat → Nat) (F : tF) (G : tG) {P : tP} (hM : RM X P) (nc : Nat) (mt : Nat → Nat) (hC : CO F nc mt) (nh : Nat → Nat) (hN : HN F nh) (c0 p0 h0 w0 : Int32)  : CT E tt yX12_asks cX12_asks 6 (some .int) 3 0 0 [.ref (B (100)), .int (c0), .int (p0), .int (h0), .int (w0)] (wl E X B F G P) (fun r w => r = some (.int (sp_asks F G nc mt nh c0 p0 h0 w0)) ∧ w = wl E X B F G P) := by
  refine CT.mk (by decide +kernel) (Nat.le_of_ble_eq_true rfl) ?_
  intro l p e s m below meth c A ls C hr hlk hnm hw hl
  have hx := C.1
  have hb := C.2.1
  have hts := C.2.2.2.2
  have hown : s.vm.findClass RX12 = some m.cls := C.2.2.2.1
  have hl : lv_has ls 6 [(0, .ref (B (100))), (1, .int (c0)), (2, .int (p0)), (3, .int (h0)), (4, .int (w0))] := hl
  refine lv_aload_n hx hb dX12_asks_0 rfl (lv_at hl 0 rfl) ?_
  refine lv_iload_n hx hb dX12_asks_1 rfl (lv_at hl 1 rfl) ?_
  refine kV C hw (c_X12_isCoil E tt B F G hM nc hC.1 hC.2.1 (c0)) vy_X12_isCoil ml_X12_173 (rcv hw (hM.m rfl) rfl (by decide) (q2 := (RX12, TX12, 49)) rfl) rfl hl.1 (rest := []) rfl dX12_asks_2 (Nat.le_of_ble_eq_true rfl) ⟨by decide, by decide⟩ ⟨Nat.le_of_ble_eq_true rfl, Nat.le_of_ble_eq_true rfl⟩ (fun v_2 ws_2 H locs hp_2 hq_2 => ?_)
  clear hw
  rcases hp_2 with ⟨h_2, rfl, rfl⟩ | ⟨h_2, rfl, rfl⟩
  · have hw := hq_2
    refine W.eq (g2 := F0 m 5 ls [.int (1)]) rfl ?_
    obtain ⟨c1, hl_c1, rfl, hs_c1⟩ := ok_coil_n hC.2.1 h_2
    have hz_c1 := i4_cl (i := c1) (by have := hC.2.1; omega)
    obtain ⟨hm_c1, hm4_c1, hd_c1⟩ := hC.2.2 c1 hl_c1
    have hc16 := hC.2.1
    refine lv_if_eq (tgt := 17) hx hb dX12_asks_5 (by decide) (fun h9 => False.elim (by revert h9; decide)) (fun _ => ?_)
    refine lv_aload_n hx hb dX12_asks_8 rfl (lv_at hl 0 rfl) ?_
    refine lv_iload_n hx hb dX12_asks_9 rfl (lv_at hl 2 rfl) ?_
    refine lv_iload_n hx hb dX12_asks_10 rfl (lv_at hl 3 rfl) ?_
    refine kV C hw (c_X12_isHole E tt B F G hM nh hN (p0) (h0)) vy_X12_isHole ml_X12_152 (rcv hw (hM.m rfl) rfl (by decide) (q2 := (RX12, TX12, 49)) rfl) rfl hl.1 (rest := []) rfl dX12_asks_11 (Nat.le_of_ble_eq_true rfl) ⟨by decide, by decide⟩ ⟨Nat.le_of_ble_eq_true rfl, Nat.le_of_ble_eq_true rfl⟩ (fun v_11 ws_11 H locs hp_11 hq_11 => ?_)
    clear hw
    rcases hp_11 with ⟨h_11, rfl, rfl⟩ | ⟨h_11, rfl, rfl⟩
    · have hw := hq_11
      refine W.eq (g2 := F0 m 14 ls [.int (1)]) rfl ?_
      obtain ⟨i0, j0, hi0, hj0, hj8, rfl, rfl⟩ := ok_hole_n (fun i h => (hN i h).2) h_11
      have hz0 := i4_cl (i := i0) (by omega)
      have hz1 := i4_cl (i := j0) (by omega)
      refine lv_if_ne (tgt := 20) hx hb dX12_asks_14 (by decide) (fun _ => ?_) (fun h9 => False.elim (by revert h9; decide))
      refine lv_iload hx hb dX12_asks_20 (lv_at hl 4 rfl) ?_
      refine lv_iconst (v := 0) hx hb dX12_asks_22 (by decide) ?_
      refine lv_iconst (v := 3) hx hb dX12_asks_23 (by decide) ?_
      refine kS C hw (c_X12_within E tt _ (w0) (0) (3)) vy_X12_within ml_X12_123 rfl hl.1 (rest := []) rfl dX12_asks_24 (Nat.le_of_ble_eq_true rfl) ⟨by decide, by decide⟩ ⟨Nat.le_of_ble_eq_true rfl, Nat.le_of_ble_eq_true rfl⟩ (fun v_24 ws_24 H locs hp_24 hq_24 => ?_)
      clear hw
      rcases hp_24 with ⟨h_24, rfl, rfl⟩ | ⟨h_24, rfl, rfl⟩
      · have hw := hq_24
        refine W.eq (g2 := F0 m 27 ls [.int (1)]) rfl ?_
        refine lv_if_ne (tgt := 33) hx hb dX12_asks_27 (by decide) (fun _ => ?_) (fun h9 => False.elim (by revert h9; decide))
        refine lv_aload_n hx hb dX12_asks_33 rfl (lv_at hl 0 rfl) ?_
        refine lv_bipush (v := 8) hx hb dX12_asks_34 (by decide) ?_
        refine lv_iload_n hx hb dX12_asks_36 rfl (lv_at hl 2 rfl) ?_
        refine lv_imul hx hb dX12_asks_37 ?_
        refine lv_iload_n hx hb dX12_asks_38 rfl (lv_at hl 3 rfl) ?_
        refine lv_iadd hx hb dX12_asks_39 ?_
        refine tp_i (y := nI (8 * i0 + j0)) (at8 _ _) ?_
        refine kV C hw (c_X12_wide E tt B F G hM (q := 8 * i0 + j0) (by omega)) vy_X12_wide ml_X12_149 (rcv hw (hM.m rfl) rfl (by decide) (q2 := (RX12, TX12, 49)) rfl) rfl hl.1 (rest := []) rfl dX12_asks_40 (Nat.le_of_ble_eq_true rfl) ⟨by decide, by decide⟩ ⟨Nat.le_of_ble_eq_true rfl, Nat.le_of_ble_eq_true rfl⟩ (fun v_40 ws_40 H locs hp_40 hq_40 => ?_)
        clear hw
        obtain ⟨rfl, rfl⟩ := hp_40
        have hw := hq_40
        refine W.eq (g2 := F0 m 43 ls [.int (w_wide F (8 * i0 + j0))]) rfl ?_
        refine lv_istore (lv' := [(5, .int (w_wide F (8 * i0 + j0))), (0, .ref (B (100))), (1, .int (nI c1)), (2, .int (nI i0)), (3, .int (nI j0)), (4, .int (w0))]) hx hb dX12_asks_43 hl (by decide) rfl (fun ls hl => ?_)
        refine lv_iload hx hb dX12_asks_45 (lv_at hl 0 rfl) ?_
        refine lv_aload_n hx hb dX12_asks_47 rfl (lv_at hl 1 rfl) ?_
        refine g_r 15 (k2 := 116) C hw (hM.m rfl) rfl fl_X12_52 rfl (hM.p 15 rfl) dX12_asks_48 ?_
        refine lv_iload_n hx hb dX12_asks_51 rfl (lv_at hl 2 rfl) ?_
        refine n_i c1 C hw (hM.m rfl) rfl rfl (show _ < 16 by omega) dX12_asks_52 ?_
        refine lv_icmp_lt (tgt := 59) hx hb dX12_asks_53 (by decide) (fun c_53 => ?_) (fun c_53 => ?_)
        · refine lv_iload hx hb dX12_asks_59 (lv_at hl 5 rfl) ?_
          refine lv_if_ne (tgt := 92) hx hb dX12_asks_61 (by decide) (fun c_61 => ?_) (fun c_61 => ?_)
          · refine lv_iload hx hb dX12_asks_92 (lv_at hl 5 rfl) ?_
            refine lv_iconst (v := 1) hx hb dX12_asks_94 (by decide) ?_
            refine lv_icmp_ne (tgt := 132) hx hb dX12_asks_95 (by decide) (fun c_95 => ?_) (fun c_95 => ?_)
            · refine lv_iload hx hb dX12_asks_132 (lv_at hl 5 rfl) ?_
              refine lv_iconst (v := 2) hx hb dX12_asks_134 (by decide) ?_
              refine lv_icmp_ne (tgt := 165) hx hb dX12_asks_135 (by decide) (fun c_135 => ?_) (fun c_135 => ?_)
              · refine lv_aload_n hx hb dX12_asks_165 rfl (lv_at hl 1 rfl) ?_
                refine g_r 15 (k2 := 116) C hw (hM.m rfl) rfl fl_X12_52 rfl (hM.p 15 rfl) dX12_asks_166 ?_
                refine lv_iload_n hx hb dX12_asks_169 rfl (lv_at hl 2 rfl) ?_
                refine n_i c1 C hw (hM.m rfl) rfl rfl (show _ < 16 by omega) dX12_asks_170 ?_
                refine lv_iload hx hb dX12_asks_171 (lv_at hl 0 rfl) ?_
                refine kS C hw (c_X12_thinner E tt _ (F 116 c1) (w_wide F (8 * i0 + j0)) (hd_c1)) vy_X12_thinner ml_X12_180 rfl hl.1 (rest := []) rfl dX12_asks_173 (Nat.le_of_ble_eq_true rfl) ⟨by decide, by decide⟩ ⟨Nat.le_of_ble_eq_true rfl, Nat.le_of_ble_eq_true rfl⟩ (fun v_173 ws_173 H locs hp_173 hq_173 => ?_)
                clear hw
                obtain ⟨rfl, rfl⟩ := hp_173
                have hw := hq_173
                refine W.eq (g2 := F0 m 176 ls [.int (w_thin (F 116 c1) (w_wide F (8 * i0 + j0)))]) rfl ?_
                exact r_i C hr hlk hw ⟨(by simp [sp_asks, qat, h_2, h_11, h_24, c_53, c_61, c_95, c_135, hz0, hz1, hz_c1]), rfl⟩ dX12_asks_176
              · refine lv_aload_n hx hb dX12_asks_138 rfl (lv_at hl 1 rfl) ?_
                refine lv_aload_n hx hb dX12_asks_139 rfl (lv_at hl 1 rfl) ?_
                refine g_r 14 (k2 := 115) C hw (hM.m rfl) rfl fl_X12_49 rfl (hM.p 14 rfl) dX12_asks_140 ?_
                refine lv_iload_n hx hb dX12_asks_143 rfl (lv_at hl 2 rfl) ?_
                refine n_i c1 C hw (hM.m rfl) rfl rfl (show _ < 16 by omega) dX12_asks_144 ?_
                refine tp_i (y := nI (mt c1)) (hm_c1) ?_
                refine lv_aload_n hx hb dX12_asks_145 rfl (lv_at hl 1 rfl) ?_
                refine g_r 15 (k2 := 116) C hw (hM.m rfl) rfl fl_X12_52 rfl (hM.p 15 rfl) dX12_asks_146 ?_
                refine lv_iload_n hx hb dX12_asks_149 rfl (lv_at hl 2 rfl) ?_
                refine n_i c1 C hw (hM.m rfl) rfl rfl (show _ < 16 by omega) dX12_asks_150 ?_
                refine lv_aload_n hx hb dX12_asks_151 rfl (lv_at hl 1 rfl) ?_
                refine g_r 16 (k2 := 117) C hw (hM.m rfl) rfl fl_X12_55 rfl (hM.p 16 rfl) dX12_asks_152 ?_
                refine lv_iload_n hx hb dX12_asks_155 rfl (lv_at hl 2 rfl) ?_
                refine n_i c1 C hw (hM.m rfl) rfl rfl (show _ < 16 by omega) dX12_asks_156 ?_
                refine lv_iload hx hb dX12_asks_157 (lv_at hl 0 rfl) ?_
                refine kV C hw (c_X12_harder E tt B F G hM (mt := mt c1) hm4_c1 (F 116 c1) (F 117 c1) (w_wide F (8 * i0 + j0)) (hd_c1)) vy_X12_harder ml_X12_186 (rcv hw (hM.m rfl) rfl (by decide) (q2 := (RX12, TX12, 49)) rfl) rfl hl.1 (rest := []) rfl dX12_asks_159 (Nat.le_of_ble_eq_true rfl) ⟨by decide, by decide⟩ ⟨Nat.le_of_ble_eq_true rfl, Nat.le_of_ble_eq_true rfl⟩ (fun v_159 ws_159 H locs hp_159 hq_159 => ?_)
                clear hw
                obtain ⟨rfl, rfl⟩ := hp_159
                have hw := hq_159
                refine W.eq (g2 := F0 m 162 ls [.int (w_hard F (mt c1) (F 116 c1) (F 117 c1) (w_wide F (8 * i0 + j0)))]) rfl ?_
                refine lv_goto (tgt := 176) hx hb dX12_asks_162 (by decide) ?_
                exact r_i C hr hlk hw ⟨(by simp [sp_asks, qat, h_2, h_11, h_24, c_53, c_61, c_95, c_135, hz0, hz1, hz_c1]), rfl⟩ dX12_asks_176
            · refine lv_aload_n hx hb dX12_asks_98 rfl (lv_at hl 1 rfl) ?_
              refine lv_aload_n hx hb dX12_asks_99 rfl (lv_at hl 1 rfl) ?_
              refine g_r 14 (k2 := 115) C hw (hM.m rfl) rfl fl_X12_49 rfl (hM.p 14 rfl) dX12_asks_100 ?_
              refine lv_iload_n hx hb dX12_asks_103 rfl (lv_at hl 2 rfl) ?_
              refine n_i c1 C hw (hM.m rfl) rfl rfl (show _ < 16 by omega) dX12_asks_104 ?_
              refine tp_i (y := nI (mt c1)) (hm_c1) ?_
              refine lv_aload_n hx hb dX12_asks_105 rfl (lv_at hl 1 rfl) ?_
              refine g_r 15 (k2 := 116) C hw (hM.m rfl) rfl fl_X12_52 rfl (hM.p 15 rfl) dX12_asks_106 ?_
              refine lv_iload_n hx hb dX12_asks_109 rfl (lv_at hl 2 rfl) ?_
              refine n_i c1 C hw (hM.m rfl) rfl rfl (show _ < 16 by omega) dX12_asks_110 ?_
              refine lv_aload_n hx hb dX12_asks_111 rfl (lv_at hl 1 rfl) ?_
              refine g_r 16 (k2 := 117) C hw (hM.m rfl) rfl fl_X12_55 rfl (hM.p 16 rfl) dX12_asks_112 ?_
              refine lv_iload_n hx hb dX12_asks_115 rfl (lv_at hl 2 rfl) ?_
              refine n_i c1 C hw (hM.m rfl) rfl rfl (show _ < 16 by omega) dX12_asks_116 ?_
              refine lv_iload hx hb dX12_asks_117 (lv_at hl 0 rfl) ?_
              refine lv_aload_n hx hb dX12_asks_119 rfl (lv_at hl 1 rfl) ?_
              refine g_r 18 (k2 := 119) C hw (hM.m rfl) rfl fl_X12_62 rfl (hM.p 18 rfl) dX12_asks_120 ?_
              refine lv_iload_n hx hb dX12_asks_123 rfl (lv_at hl 2 rfl) ?_
              refine n_i c1 C hw (hM.m rfl) rfl rfl (show _ < 16 by omega) dX12_asks_124 ?_
              refine kV C hw (c_X12_bearsOf E tt B F G hM (mt := mt c1) hm4_c1 (F 116 c1) (F 117 c1) (w_wide F (8 * i0 + j0)) (F 119 c1) (hd_c1)) vy_X12_bearsOf ml_X12_198 (rcv hw (hM.m rfl) rfl (by decide) (q2 := (RX12, TX12, 49)) rfl) rfl hl.1 (rest := []) rfl dX12_asks_125 (Nat.le_of_ble_eq_true rfl) ⟨by decide, by decide⟩ ⟨Nat.le_of_ble_eq_true rfl, Nat.le_of_ble_eq_true rfl⟩ (fun v_125 ws_125 H locs hp_125 hq_125 => ?_)
              clear hw
              obtain ⟨rfl, rfl⟩ := hp_125
              have hw := hq_125
              refine W.eq (g2 := F0 m 128 ls [.long (w_bears F (mt c1) (F 116 c1) (F 117 c1) (w_wide F (8 * i0 + j0)) (F 119 c1))]) rfl ?_
              refine lv_l2i hx hb dX12_asks_128 rfl ?_
              refine lv_goto (tgt := 176) hx hb dX12_asks_129 (by decide) ?_
              exact r_i C hr hlk hw ⟨(by simp [sp_asks, qat, h_2, h_11, h_24, c_53, c_61, c_95, hz0, hz1, hz_c1]), rfl⟩ dX12_asks_176
          · refine lv_aload_n hx hb dX12_asks_64 rfl (lv_at hl 1 rfl) ?_
            refine lv_aload_n hx hb dX12_asks_65 rfl (lv_at hl 1 rfl) ?_
            refine g_r 14 (k2 := 115) C hw (hM.m rfl) rfl fl_X12_49 rfl (hM.p 14 rfl) dX12_asks_66 ?_
            refine lv_iload_n hx hb dX12_asks_69 rfl (lv_at hl 2 rfl) ?_
            refine n_i c1 C hw (hM.m rfl) rfl rfl (show _ < 16 by omega) dX12_asks_70 ?_
            refine tp_i (y := nI (mt c1)) (hm_c1) ?_
            refine lv_aload_n hx hb dX12_asks_71 rfl (lv_at hl 1 rfl) ?_
            refine g_r 15 (k2 := 116) C hw (hM.m rfl) rfl fl_X12_52 rfl (hM.p 15 rfl) dX12_asks_72 ?_
            refine lv_iload_n hx hb dX12_asks_75 rfl (lv_at hl 2 rfl) ?_
            refine n_i c1 C hw (hM.m rfl) rfl rfl (show _ < 16 by omega) dX12_asks_76 ?_
            refine lv_aload_n hx hb dX12_asks_77 rfl (lv_at hl 1 rfl) ?_
            refine g_r 16 (k2 := 117) C hw (hM.m rfl) rfl fl_X12_55 rfl (hM.p 16 rfl) dX12_asks_78 ?_
            refine lv_iload_n hx hb dX12_asks_81 rfl (lv_at hl 2 rfl) ?_
            refine n_i c1 C hw (hM.m rfl) rfl rfl (show _ < 16 by omega) dX12_asks_82 ?_
            refine lv_iload hx hb dX12_asks_83 (lv_at hl 0 rfl) ?_
            refine kV C hw (c_X12_asksOf E tt B F G hM (mt := mt c1) hm4_c1 (F 116 c1) (F 117 c1) (w_wide F (8 * i0 + j0))) vy_X12_asksOf ml_X12_194 (rcv hw (hM.m rfl) rfl (by decide) (q2 := (RX12, TX12, 49)) rfl) rfl hl.1 (rest := []) rfl dX12_asks_85 (Nat.le_of_ble_eq_true rfl) ⟨by decide, by decide⟩ ⟨Nat.le_of_ble_eq_true rfl, Nat.le_of_ble_eq_true rfl⟩ (fun v_85 ws_85 H locs hp_85 hq_85 => ?_)
            clear hw
            obtain ⟨rfl, rfl⟩ := hp_85
            have hw := hq_85
            refine W.eq (g2 := F0 m 88 ls [.long (w_asks F (mt c1) (F 116 c1) (F 117 c1) (w_wide F (8 * i0 + j0)))]) rfl ?_
            refine lv_l2i hx hb dX12_asks_88 rfl ?_
            refine lv_goto (tgt := 176) hx hb dX12_asks_89 (by decide) ?_
            exact r_i C hr hlk hw ⟨(by simp [sp_asks, qat, h_2, h_11, h_24, c_53, c_61, hz0, hz1, hz_c1]), rfl⟩ dX12_asks_176
        · refine lv_bipush (v := -4) hx hb dX12_asks_56 (by decide) ?_
          exact r_i C hr hlk hw ⟨(by simp [sp_asks, qat, h_2, h_11, h_24, c_53, hz0, hz1, hz_c1]), rfl⟩ dX12_asks_58
      · have hw := hq_24
        refine W.eq (g2 := F0 m 27 ls [.int (0)]) rfl ?_
        refine lv_if_ne (tgt := 33) hx hb dX12_asks_27 (by decide) (fun h9 => False.elim (by revert h9; decide)) (fun _ => ?_)
        refine lv_bipush (v := -3) hx hb dX12_asks_30 (by decide) ?_
        exact r_i C hr hlk hw ⟨(by simp [sp_asks, h_2, h_11, h_24]), rfl⟩ dX12_asks_32
    · have hw := hq_11
      refine W.eq (g2 := F0 m 14 ls [.int (0)]) rfl ?_
      refine lv_if_ne (tgt := 20) hx hb dX12_asks_14 (by decide) (fun h9 => False.elim (by revert h9; decide)) (fun _ => ?_)
      refine lv_bipush (v := -2) hx hb dX12_asks_17 (by decide) ?_
      exact r_i C hr hlk hw ⟨(by simp [sp_asks, h_2, h_11]), (by simp [sp_asks, h_2, h_11])⟩ dX12_asks_19
  · have hw := hq_2
    refine W.eq (g2 := F0 m 5 ls [.int (0)]) rfl ?_
    refine lv_if_eq (tgt := 17) hx hb dX12_asks_5 (by decide) (fun _ => ?_) (fun h9 => False.elim (by revert h9; decide))
    refine lv_bipush (v := -2) hx hb dX12_asks_17 (by decide) ?_
    exact r_i C hr hlk hw ⟨(by simp [sp_asks, h_2]), (by simp [sp_asks, h_2])⟩ dX12_asks_19

set_option maxHeartbeats 4000000 in
set_option maxRecDepth 100000 in
theorem c_X12_draw (E : cE) (tt : Nat × Nat × Nat) {X : List Nat} (B : Nat → Nat) (F : tF) (G : tG) {P : tP} (hM : RM X P) (nc : Nat) (mt : Nat → Nat) (hC : CO F nc mt) (nh : Nat → Nat) (hN : HN F nh) (hZ : HZ F nh) (c0 p0 h0 u0 : Int32)  : CT E tt yX12_draw cX12_draw 11 (some .int) 4 0 0 [.ref (B (100)), .int (c0), .int (p0), .int (h0), .int (u0)] (wl E X B F G P) (fun r w => r = some (.int (sp_draw F G nc mt nh c0 p0 h0 u0)) ∧ w = wl E X B (st_draw F G nc mt nh c0 p0 h0 u0) G P) := by
  refine CT.mk (by decide +kernel) (Nat.le_of_ble_eq_true rfl) ?_
  intro l p e s m below meth c A ls C hr hlk hnm hw hl
  have hx := C.1
  have hb := C.2.1
  have hts := C.2.2.2.2
  have hown : s.vm.findClass RX12 = some m.cls := C.2.2.2.1
  have hl : lv_has ls 11 [(0, .ref (B (100))), (1, .int (c0)), (2, .int (p0)), (3, .int (h0)), (4, .int (u0))] := hl
  refine lv_aload_n hx hb dX12_draw_0 rfl (lv_at hl 0 rfl) ?_
  refine lv_iload_n hx hb dX12_draw_1 rfl (lv_at hl 1 rfl) ?_
  refine kV C hw (c_X12_isCoil E tt B F G hM nc hC.1 hC.2.1 (c0)) vy_X12_isCoil ml_X12_173 (rcv hw (hM.m rfl) rfl (by decide) (q2 := (RX12, TX12, 49)) rfl) rfl hl.1 (rest := []) rfl dX12_draw_2 (Nat.le_of_ble_eq_true rfl) ⟨by decide, by decide⟩ ⟨Nat.le_of_ble_eq_true rfl, Nat.le_of_ble_eq_true rfl⟩ (fun v_2 ws_2 H locs hp_2 hq_2 => ?_)
  clear hw
  rcases hp_2 with ⟨h_2, rfl, rfl⟩ | ⟨h_2, rfl, rfl⟩
  · have hw := hq_2
    refine W.eq (g2 := F0 m 5 ls [.int (1)]) rfl ?_
    obtain ⟨c1, hl_c1, rfl, hs_c1⟩ := ok_coil_n hC.2.1 h_2
    have hz_c1 := i4_cl (i := c1) (by have := hC.2.1; omega)
    obtain ⟨hm_c1, hm4_c1, hd_c1⟩ := hC.2.2 c1 hl_c1
    have hc16 := hC.2.1
    refine lv_if_eq (tgt := 25) hx hb dX12_draw_5 (by decide) (fun h9 => False.elim (by revert h9; decide)) (fun _ => ?_)
    refine lv_aload_n hx hb dX12_draw_8 rfl (lv_at hl 0 rfl) ?_
    refine lv_iload_n hx hb dX12_draw_9 rfl (lv_at hl 2 rfl) ?_
    refine lv_iload_n hx hb dX12_draw_10 rfl (lv_at hl 3 rfl) ?_
    refine kV C hw (c_X12_isHole E tt B F G hM nh hN (p0) (h0)) vy_X12_isHole ml_X12_152 (rcv hw (hM.m rfl) rfl (by decide) (q2 := (RX12, TX12, 49)) rfl) rfl hl.1 (rest := []) rfl dX12_draw_11 (Nat.le_of_ble_eq_true rfl) ⟨by decide, by decide⟩ ⟨Nat.le_of_ble_eq_true rfl, Nat.le_of_ble_eq_true rfl⟩ (fun v_11 ws_11 H locs hp_11 hq_11 => ?_)
    clear hw
    rcases hp_11 with ⟨h_11, rfl, rfl⟩ | ⟨h_11, rfl, rfl⟩
    · have hw := hq_11
      refine W.eq (g2 := F0 m 14 ls [.int (1)]) rfl ?_
      obtain ⟨i0, j0, hi0, hj0, hj8, rfl, rfl⟩ := ok_hole_n (fun i h => (hN i h).2) h_11
      have hz0 := i4_cl (i := i0) (by omega)
      have hz1 := i4_cl (i := j0) (by omega)
      refine lv_if_eq (tgt := 25) hx hb dX12_draw_14 (by decide) (fun h9 => False.elim (by revert h9; decide)) (fun _ => ?_)
      refine lv_iload hx hb dX12_draw_17 (lv_at hl 4 rfl) ?_
      refine kS C hw (c_X12_isPuller E tt _ (u0)) vy_X12_isPuller ml_X12_142 rfl hl.1 (rest := []) rfl dX12_draw_19 (Nat.le_of_ble_eq_true rfl) ⟨by decide, by decide⟩ ⟨Nat.le_of_ble_eq_true rfl, Nat.le_of_ble_eq_true rfl⟩ (fun v_19 ws_19 H locs hp_19 hq_19 => ?_)
      clear hw
      rcases hp_19 with ⟨h_19, rfl, rfl⟩ | ⟨h_19, rfl, rfl⟩
      · have hw := hq_19
        refine W.eq (g2 := F0 m 22 ls [.int (1)]) rfl ?_
        obtain ⟨i_19, hl_19, rfl⟩ := n_of (n := 2) h_19.1 h_19.2 (by decide)
        have hz_19 := i4_cl (i := i_19) (by omega)
        refine lv_if_ne (tgt := 28) hx hb dX12_draw_22 (by decide) (fun _ => ?_) (fun h9 => False.elim (by revert h9; decide))
        refine lv_bipush (v := 8) hx hb dX12_draw_28 (by decide) ?_
        refine lv_iload_n hx hb dX12_draw_30 rfl (lv_at hl 2 rfl) ?_
        refine lv_imul hx hb dX12_draw_31 ?_
        refine lv_iload_n hx hb dX12_draw_32 rfl (lv_at hl 3 rfl) ?_
        refine lv_iadd hx hb dX12_draw_33 ?_
        refine tp_i (y := nI (8 * i0 + j0)) (at8 _ _) ?_
        refine lv_istore (lv' := [(5, .int (nI (8 * i0 + j0))), (0, .ref (B (100))), (1, .int (nI c1)), (2, .int (nI i0)), (3, .int (nI j0)), (4, .int (nI i_19))]) hx hb dX12_draw_34 hl (by decide) rfl (fun ls hl => ?_)
        refine lv_aload_n hx hb dX12_draw_36 rfl (lv_at hl 1 rfl) ?_
        refine lv_iload_n hx hb dX12_draw_37 rfl (lv_at hl 2 rfl) ?_
        refine lv_aload_n hx hb dX12_draw_38 rfl (lv_at hl 1 rfl) ?_
        refine g_r 15 (k2 := 116) C hw (hM.m rfl) rfl fl_X12_52 rfl (hM.p 15 rfl) dX12_draw_39 ?_
        refine lv_iload_n hx hb dX12_draw_42 rfl (lv_at hl 2 rfl) ?_
        refine n_i c1 C hw (hM.m rfl) rfl rfl (show _ < 16 by omega) dX12_draw_43 ?_
        refine lv_aload_n hx hb dX12_draw_44 rfl (lv_at hl 1 rfl) ?_
        refine g_r 16 (k2 := 117) C hw (hM.m rfl) rfl fl_X12_55 rfl (hM.p 16 rfl) dX12_draw_45 ?_
        refine lv_iload_n hx hb dX12_draw_48 rfl (lv_at hl 2 rfl) ?_
        refine n_i c1 C hw (hM.m rfl) rfl rfl (show _ < 16 by omega) dX12_draw_49 ?_
        refine lv_iload hx hb dX12_draw_50 (lv_at hl 0 rfl) ?_
        refine lv_iload hx hb dX12_draw_52 (lv_at hl 5 rfl) ?_
        refine kV C hw (c_X12_against E tt B F G hM (c1 := c1) (q := 8 * i0 + j0) (u := i_19) (mt := mt c1) (by omega) hm_c1 hm4_c1 (by omega) (by omega) (F 116 c1) (F 117 c1) hd_c1) vy_X12_against ml_X12_206 (rcv hw (hM.m rfl) rfl (by decide) (q2 := (RX12, TX12, 49)) rfl) rfl hl.1 (rest := []) rfl dX12_draw_54 (Nat.le_of_ble_eq_true rfl) ⟨by decide, by decide⟩ ⟨Nat.le_of_ble_eq_true rfl, Nat.le_of_ble_eq_true rfl⟩ (fun v_54 ws_54 H locs hp_54 hq_54 => ?_)
        clear hw
        obtain ⟨rfl, rfl⟩ := hp_54
        have hw := hq_54
        refine W.eq (g2 := F0 m 57 ls [.int (w_ag F (mt c1) (F 119 c1) (F 116 c1) (F 117 c1) (8 * i0 + j0) (i_19))]) rfl ?_
        refine lv_istore (lv' := [(6, .int (w_ag F (mt c1) (F 119 c1) (F 116 c1) (F 117 c1) (8 * i0 + j0) (i_19))), (5, .int (nI (8 * i0 + j0))), (0, .ref (B (100))), (1, .int (nI c1)), (2, .int (nI i0)), (3, .int (nI j0)), (4, .int (nI i_19))]) hx hb dX12_draw_57 hl (by decide) rfl (fun ls hl => ?_)
        refine lv_iload hx hb dX12_draw_59 (lv_at hl 0 rfl) ?_
        refine lv_iconst (v := 1) hx hb dX12_draw_61 (by decide) ?_
        refine lv_icmp_eq (tgt := 68) hx hb dX12_draw_62 (by decide) (fun c_62 => ?_) (fun c_62 => ?_)
        · refine lv_aload_n hx hb dX12_draw_68 rfl (lv_at hl 2 rfl) ?_
          refine lv_iload hx hb dX12_draw_69 (lv_at hl 1 rfl) ?_
          refine kV C hw (c_X12_wide E tt B F G hM (q := 8 * i0 + j0) (by omega)) vy_X12_wide ml_X12_149 (rcv hw (hM.m rfl) rfl (by decide) (q2 := (RX12, TX12, 49)) rfl) rfl hl.1 (rest := []) rfl dX12_draw_71 (Nat.le_of_ble_eq_true rfl) ⟨by decide, by decide⟩ ⟨Nat.le_of_ble_eq_true rfl, Nat.le_of_ble_eq_true rfl⟩ (fun v_71 ws_71 H locs hp_71 hq_71 => ?_)
          clear hw
          obtain ⟨rfl, rfl⟩ := hp_71
          have hw := hq_71
          refine W.eq (g2 := F0 m 74 ls [.int (w_wide F (8 * i0 + j0))]) rfl ?_
          refine lv_istore (lv' := [(7, .int (w_wide F (8 * i0 + j0))), (6, .int (w_ag F (mt c1) (F 119 c1) (F 116 c1) (F 117 c1) (8 * i0 + j0) (i_19))), (5, .int (nI (8 * i0 + j0))), (0, .ref (B (100))), (1, .int (nI c1)), (2, .int (nI i0)), (3, .int (nI j0)), (4, .int (nI i_19))]) hx hb dX12_draw_74 hl (by decide) rfl (fun ls hl => ?_)
          refine lv_aload_n hx hb dX12_draw_76 rfl (lv_at hl 3 rfl) ?_
          refine g_r 16 (k2 := 117) C hw (hM.m rfl) rfl fl_X12_55 rfl (hM.p 16 rfl) dX12_draw_77 ?_
          refine lv_iload_n hx hb dX12_draw_80 rfl (lv_at hl 4 rfl) ?_
          refine n_i c1 C hw (hM.m rfl) rfl rfl (show _ < 16 by omega) dX12_draw_81 ?_
          refine lv_istore (lv' := [(8, .int (F 117 c1)), (7, .int (w_wide F (8 * i0 + j0))), (6, .int (w_ag F (mt c1) (F 119 c1) (F 116 c1) (F 117 c1) (8 * i0 + j0) (i_19))), (5, .int (nI (8 * i0 + j0))), (0, .ref (B (100))), (1, .int (nI c1)), (2, .int (nI i0)), (3, .int (nI j0)), (4, .int (nI i_19))]) hx hb dX12_draw_82 hl (by decide) rfl (fun ls hl => ?_)
          refine lv_aload_n hx hb dX12_draw_84 rfl (lv_at hl 4 rfl) ?_
          refine g_r 16 (k2 := 117) C hw (hM.m rfl) rfl fl_X12_55 rfl (hM.p 16 rfl) dX12_draw_85 ?_
          refine lv_iload_n hx hb dX12_draw_88 rfl (lv_at hl 5 rfl) ?_
          refine lv_aload_n hx hb dX12_draw_89 rfl (lv_at hl 4 rfl) ?_
          refine lv_aload_n hx hb dX12_draw_90 rfl (lv_at hl 4 rfl) ?_
          refine g_r 14 (k2 := 115) C hw (hM.m rfl) rfl fl_X12_49 rfl (hM.p 14 rfl) dX12_draw_91 ?_
          refine lv_iload_n hx hb dX12_draw_94 rfl (lv_at hl 5 rfl) ?_
          refine n_i c1 C hw (hM.m rfl) rfl rfl (show _ < 16 by omega) dX12_draw_95 ?_
          refine tp_i (y := nI (mt c1)) (hm_c1) ?_
          refine lv_aload_n hx hb dX12_draw_96 rfl (lv_at hl 4 rfl) ?_
          refine g_r 15 (k2 := 116) C hw (hM.m rfl) rfl fl_X12_52 rfl (hM.p 15 rfl) dX12_draw_97 ?_
          refine lv_iload_n hx hb dX12_draw_100 rfl (lv_at hl 5 rfl) ?_
          refine n_i c1 C hw (hM.m rfl) rfl rfl (show _ < 16 by omega) dX12_draw_101 ?_
          refine lv_iload hx hb dX12_draw_102 (lv_at hl 0 rfl) ?_
          refine lv_iload hx hb dX12_draw_104 (lv_at hl 1 rfl) ?_
          refine kV C hw (c_X12_harder E tt B F G hM (mt := mt c1) hm4_c1 (F 116 c1) (F 117 c1) (w_wide F (8 * i0 + j0)) (hd_c1)) vy_X12_harder ml_X12_186 (rcv hw (hM.m rfl) rfl (by decide) (q2 := (RX12, TX12, 49)) rfl) rfl hl.1 (rest := [.int (nI c1), .ref (B (117))]) rfl dX12_draw_106 (Nat.le_of_ble_eq_true rfl) ⟨by decide, by decide⟩ ⟨Nat.le_of_ble_eq_true rfl, Nat.le_of_ble_eq_true rfl⟩ (fun v_106 ws_106 H locs hp_106 hq_106 => ?_)
          clear hw
          obtain ⟨rfl, rfl⟩ := hp_106
          have hw := hq_106
          refine W.eq (g2 := F0 m 109 ls [.int (w_hard F (mt c1) (F 116 c1) (F 117 c1) (w_wide F (8 * i0 + j0))), .int (nI c1), .ref (B (117))]) rfl ?_
          refine t_i c1 C hw (hM.m rfl) rfl rfl (show _ < 16 by omega) dX12_draw_109 (fun H locs hw => ?_)
          refine lv_aload_n hx hb dX12_draw_110 rfl (lv_at hl 4 rfl) ?_
          refine g_r 15 (k2 := 116) C hw (hM.m rfl) rfl fl_X12_52 rfl (hM.p 15 rfl) dX12_draw_111 ?_
          refine lv_iload_n hx hb dX12_draw_114 rfl (lv_at hl 5 rfl) ?_
          refine lv_iload hx hb dX12_draw_115 (lv_at hl 1 rfl) ?_
          refine t_i c1 C hw (hM.m rfl) rfl rfl (show _ < 16 by omega) dX12_draw_117 (fun H locs hw => ?_)
          refine lv_aload_n hx hb dX12_draw_118 rfl (lv_at hl 4 rfl) ?_
          refine lv_iload_n hx hb dX12_draw_119 rfl (lv_at hl 5 rfl) ?_
          refine kV C hw (c_X12_feetOf E tt B (uF (uF F 117 c1 (w_hard F (mt c1) (F 116 c1) (F 117 c1) (w_wide F (8 * i0 + j0)))) 116 c1 (w_wide F (8 * i0 + j0))) G hM (q := c1) (by omega) (by simp only [uF_s]; exact hZ.1 _ _ (by omega) hj0)) vy_X12_feetOf ml_X12_167 (rcv hw (hM.m rfl) rfl (by decide) (q2 := (RX12, TX12, 49)) rfl) rfl hl.1 (rest := []) rfl dX12_draw_120 (Nat.le_of_ble_eq_true rfl) ⟨by decide, by decide⟩ ⟨Nat.le_of_ble_eq_true rfl, Nat.le_of_ble_eq_true rfl⟩ (fun v_120 ws_120 H locs hp_120 hq_120 => ?_)
          clear hw
          obtain ⟨rfl, rfl⟩ := hp_120
          have hw := hq_120
          refine W.eq (g2 := F0 m 123 ls [.int (w_feet (uF (uF F 117 c1 (w_hard F (mt c1) (F 116 c1) (F 117 c1) (w_wide F (8 * i0 + j0)))) 116 c1 (w_wide F (8 * i0 + j0))) G (c1))]) rfl ?_
          refine tp_i (y := d_feet F G c1 (8 * i0 + j0)) (by simp [w_feet, d_feet, w_ft, uF, upd]) ?_
          refine lv_istore (lv' := [(9, .int (d_feet F G c1 (8 * i0 + j0))), (8, .int (F 117 c1)), (7, .int (w_wide F (8 * i0 + j0))), (6, .int (w_ag F (mt c1) (F 119 c1) (F 116 c1) (F 117 c1) (8 * i0 + j0) (i_19))), (5, .int (nI (8 * i0 + j0))), (0, .ref (B (100))), (1, .int (nI c1)), (2, .int (nI i0)), (3, .int (nI j0)), (4, .int (nI i_19))]) hx hb dX12_draw_123 hl (by decide) rfl (fun ls hl => ?_)
          refine lv_aload_n hx hb dX12_draw_125 rfl (lv_at hl 5 rfl) ?_
          refine g_r 11 (k2 := 112) C hw (hM.m rfl) rfl fl_X12_43 rfl (hM.p 11 rfl) dX12_draw_126 ?_
          refine lv_iload hx hb dX12_draw_129 (lv_at hl 4 rfl) ?_
          refine lv_dup2_11 hx hb dX12_draw_131 rfl rfl ?_
          refine n_i (8 * i0 + j0) C hw (hM.m rfl) rfl rfl (show _ < 32 by omega) dX12_draw_132 ?_
          refine tp_i (y := F 112 (8 * i0 + j0)) ((uF_n _ _ (Or.inl (by decide))).trans ((uF_n _ _ (Or.inl (by decide))).trans (rfl))) ?_
          refine lv_iload hx hb dX12_draw_133 (lv_at hl 0 rfl) ?_
          refine lv_i2l hx hb dX12_draw_135 rfl ?_
          refine lv_aload_n hx hb dX12_draw_136 rfl (lv_at hl 5 rfl) ?_
          refine g_r 3 (k2 := 104) C hw (hM.m rfl) rfl fl_X12_19 rfl (hM.p 3 rfl) dX12_draw_137 ?_
          refine lv_aload_n hx hb dX12_draw_140 rfl (lv_at hl 5 rfl) ?_
          refine g_r 14 (k2 := 115) C hw (hM.m rfl) rfl fl_X12_49 rfl (hM.p 14 rfl) dX12_draw_141 ?_
          refine lv_iload_n hx hb dX12_draw_144 rfl (lv_at hl 6 rfl) ?_
          refine n_i c1 C hw (hM.m rfl) rfl rfl (show _ < 16 by omega) dX12_draw_145 ?_
          refine tp_i (y := F 115 c1) ((uF_n _ _ (Or.inl (by decide))).trans ((uF_n _ _ (Or.inl (by decide))).trans (rfl))) ?_
          refine tp_i (y := nI (mt c1)) (hm_c1) ?_
          refine n_i (mt c1) C hw (hM.m rfl) rfl rfl (show _ < 4 by omega) dX12_draw_146 ?_
          refine tp_i (y := F 104 (mt c1)) ((uF_n _ _ (Or.inl (by decide))).trans ((uF_n _ _ (Or.inl (by decide))).trans (rfl))) ?_
          refine lv_i2l hx hb dX12_draw_147 rfl ?_
          refine lv_lmul hx hb dX12_draw_148 ?_
          refine lv_bipush (v := 100) hx hb dX12_draw_149 (by decide) ?_
          refine lv_iload hx hb dX12_draw_151 (lv_at hl 1 rfl) ?_
          refine lv_iadd hx hb dX12_draw_153 ?_
          refine lv_i2l hx hb dX12_draw_154 rfl ?_
          refine lv_lmul hx hb dX12_draw_155 ?_
          refine lv_ldc2 (v := 10000) hx hb hown (hts _ kc_X12_210) dX12_draw_156 ?_
          refine lv_ldiv hx hb dX12_draw_159 (by decide) ?_
          refine lv_l2i hx hb dX12_draw_160 rfl ?_
          refine lv_iadd hx hb dX12_draw_161 ?_
          refine tp_i (y := d_wear F G (mt c1) c1 (8 * i0 + j0)) (rfl) ?_
          refine t_i (8 * i0 + j0) C hw (hM.m rfl) rfl rfl (show _ < 32 by omega) dX12_draw_162 (fun H locs hw => ?_)
          refine lv_aload_n hx hb dX12_draw_163 rfl (lv_at hl 5 rfl) ?_
          refine g_r 19 (k2 := 120) C hw (hM.m rfl) rfl fl_X12_65 rfl (hM.p 19 rfl) dX12_draw_164 ?_
          refine lv_iload_n hx hb dX12_draw_167 rfl (lv_at hl 6 rfl) ?_
          refine n_i c1 C hw (hM.m rfl) rfl rfl (show _ < 16 by omega) dX12_draw_168 ?_
          refine tp_i (y := F 120 c1) ((uF_n _ _ (Or.inl (by decide))).trans ((uF_n _ _ (Or.inl (by decide))).trans ((uF_n _ _ (Or.inl (by decide))).trans (rfl)))) ?_
          refine lv_aload_n hx hb dX12_draw_169 rfl (lv_at hl 5 rfl) ?_
          refine g_r 8 (k2 := 109) C hw (hM.m rfl) rfl fl_X12_34 rfl (hM.p 8 rfl) dX12_draw_170 ?_
          refine lv_iload hx hb dX12_draw_173 (lv_at hl 9 rfl) ?_
          refine n_i i_19 C hw (hM.m rfl) rfl rfl (show _ < 4 by omega) dX12_draw_175 ?_
          refine tp_i (y := F 109 i_19) ((uF_n _ _ (Or.inl (by decide))).trans ((uF_n _ _ (Or.inl (by decide))).trans ((uF_n _ _ (Or.inl (by decide))).trans (rfl)))) ?_
          refine lv_icmp_le (tgt := 188) hx hb dX12_draw_176 (by decide) (fun c_176 => ?_) (fun c_176 => ?_)
          · rw [← Int32.not_lt] at c_176
            refine lv_aload_n hx hb dX12_draw_188 rfl (lv_at hl 5 rfl) ?_
            refine g_r 8 (k2 := 109) C hw (hM.m rfl) rfl fl_X12_34 rfl (hM.p 8 rfl) dX12_draw_189 ?_
            refine lv_iload hx hb dX12_draw_192 (lv_at hl 9 rfl) ?_
            refine n_i i_19 C hw (hM.m rfl) rfl rfl (show _ < 4 by omega) dX12_draw_194 ?_
            refine tp_i (y := F 109 i_19) ((uF_n _ _ (Or.inl (by decide))).trans ((uF_n _ _ (Or.inl (by decide))).trans ((uF_n _ _ (Or.inl (by decide))).trans (rfl)))) ?_
            refine lv_istore (lv' := [(10, .int (F 109 i_19)), (9, .int (d_feet F G c1 (8 * i0 + j0))), (8, .int (F 117 c1)), (7, .int (w_wide F (8 * i0 + j0))), (6, .int (w_ag F (mt c1) (F 119 c1) (F 116 c1) (F 117 c1) (8 * i0 + j0) (i_19))), (5, .int (nI (8 * i0 + j0))), (0, .ref (B (100))), (1, .int (nI c1)), (2, .int (nI i0)), (3, .int (nI j0)), (4, .int (nI i_19))]) hx hb dX12_draw_195 hl (by decide) rfl (fun ls hl => ?_)
            refine lv_aload_n hx hb dX12_draw_197 rfl (lv_at hl 6 rfl) ?_
            refine g_r 8 (k2 := 109) C hw (hM.m rfl) rfl fl_X12_34 rfl (hM.p 8 rfl) dX12_draw_198 ?_
            refine lv_iload hx hb dX12_draw_201 (lv_at hl 10 rfl) ?_
            refine lv_iload hx hb dX12_draw_203 (lv_at hl 0 rfl) ?_
            refine lv_iload hx hb dX12_draw_205 (lv_at hl 1 rfl) ?_
            refine lv_aload_n hx hb dX12_draw_207 rfl (lv_at hl 6 rfl) ?_
            refine g_r 7 (k2 := 108) C hw (hM.m rfl) rfl fl_X12_31 rfl (hM.p 7 rfl) dX12_draw_208 ?_
            refine lv_iload hx hb dX12_draw_211 (lv_at hl 10 rfl) ?_
            refine n_i i_19 C hw (hM.m rfl) rfl rfl (show _ < 3 by omega) dX12_draw_213 ?_
            refine tp_i (y := F 108 i_19) ((uF_n _ _ (Or.inl (by decide))).trans ((uF_n _ _ (Or.inl (by decide))).trans ((uF_n _ _ (Or.inl (by decide))).trans (rfl)))) ?_
            refine lv_iadd hx hb dX12_draw_214 ?_
            refine lv_iconst (v := 1) hx hb dX12_draw_215 (by decide) ?_
            refine lv_isub hx hb dX12_draw_216 ?_
            refine lv_aload_n hx hb dX12_draw_217 rfl (lv_at hl 6 rfl) ?_
            refine g_r 7 (k2 := 108) C hw (hM.m rfl) rfl fl_X12_31 rfl (hM.p 7 rfl) dX12_draw_218 ?_
            refine lv_iload hx hb dX12_draw_221 (lv_at hl 10 rfl) ?_
            refine n_i i_19 C hw (hM.m rfl) rfl rfl (show _ < 3 by omega) dX12_draw_223 ?_
            refine tp_i (y := F 108 i_19) ((uF_n _ _ (Or.inl (by decide))).trans ((uF_n _ _ (Or.inl (by decide))).trans ((uF_n _ _ (Or.inl (by decide))).trans (rfl)))) ?_
            refine lv_idiv hx hb dX12_draw_224 ((hZ.2 _ (by omega))) ?_
            refine lv_iadd hx hb dX12_draw_225 ?_
            refine lv_iconst (v := 1) hx hb dX12_draw_226 (by decide) ?_
            refine lv_iadd hx hb dX12_draw_227 ?_
            refine tp_i (y := d_done F G c1 (8 * i0 + j0) i_19) (by simp [d_done, c_176]) ?_
            refine t_i i_19 C hw (hM.m rfl) rfl rfl (show _ < 4 by omega) dX12_draw_228 (fun H locs hw => ?_)
            refine lv_aload_n hx hb dX12_draw_229 rfl (lv_at hl 6 rfl) ?_
            refine g_r 19 (k2 := 120) C hw (hM.m rfl) rfl fl_X12_65 rfl (hM.p 19 rfl) dX12_draw_230 ?_
            refine lv_iload_n hx hb dX12_draw_233 rfl (lv_at hl 7 rfl) ?_
            refine lv_aload_n hx hb dX12_draw_234 rfl (lv_at hl 6 rfl) ?_
            refine g_r 8 (k2 := 109) C hw (hM.m rfl) rfl fl_X12_34 rfl (hM.p 8 rfl) dX12_draw_235 ?_
            refine lv_iload hx hb dX12_draw_238 (lv_at hl 10 rfl) ?_
            refine n_i i_19 C hw (hM.m rfl) rfl rfl (show _ < 4 by omega) dX12_draw_240 ?_
            refine tp_i (y := d_done F G c1 (8 * i0 + j0) i_19) (uF_s _ _ _ _) ?_
            refine t_i c1 C hw (hM.m rfl) rfl rfl (show _ < 16 by omega) dX12_draw_241 (fun H locs hw => ?_)
            refine lv_aload_n hx hb dX12_draw_242 rfl (lv_at hl 6 rfl) ?_
            refine lv_dup hx hb dX12_draw_243 rfl ?_
            refine g_i 34 C hw (hM.m rfl) rfl fl_X12_212 rfl dX12_draw_244 ?_
            refine tp_i (y := F 100 34) ((uF_n _ _ (Or.inl (by decide))).trans ((uF_n _ _ (Or.inl (by decide))).trans ((uF_n _ _ (Or.inl (by decide))).trans ((uF_n _ _ (Or.inl (by decide))).trans ((uF_n _ _ (Or.inl (by decide))).trans (rfl)))))) ?_
            refine lv_iconst (v := 1) hx hb dX12_draw_247 (by decide) ?_
            refine lv_iadd hx hb dX12_draw_248 ?_
            refine p_i 34 C hw (hM.m rfl) rfl fl_X12_212 fc_12 fn_12_34 (fun h9 => by cases h9) rfl rfl rfl dX12_draw_249 (fun H locs hw => ?_)
            refine lv_iload hx hb dX12_draw_252 (lv_at hl 1 rfl) ?_
            exact r_i C hr hlk hw ⟨(by simp only [sp_draw, st_draw, ok_draw, ag_at, qat, h_2, h_11, h_19, hz0, hz1, hz_c1, hz_19, Bool.true_and, decide_true, if_true]; simp [c_62]), (by simp only [sp_draw, st_draw, ok_draw, ag_at, qat, h_2, h_11, h_19, hz0, hz1, hz_c1, hz_19, Bool.true_and, decide_true, if_true]; simp [c_62, dF])⟩ dX12_draw_254
          · rw [Int32.not_le] at c_176
            refine lv_aload_n hx hb dX12_draw_179 rfl (lv_at hl 5 rfl) ?_
            refine g_r 19 (k2 := 120) C hw (hM.m rfl) rfl fl_X12_65 rfl (hM.p 19 rfl) dX12_draw_180 ?_
            refine lv_iload_n hx hb dX12_draw_183 rfl (lv_at hl 6 rfl) ?_
            refine n_i c1 C hw (hM.m rfl) rfl rfl (show _ < 16 by omega) dX12_draw_184 ?_
            refine tp_i (y := F 120 c1) ((uF_n _ _ (Or.inl (by decide))).trans ((uF_n _ _ (Or.inl (by decide))).trans ((uF_n _ _ (Or.inl (by decide))).trans (rfl)))) ?_
            refine lv_goto (tgt := 195) hx hb dX12_draw_185 (by decide) ?_
            refine lv_istore (lv' := [(10, .int (F 120 c1)), (9, .int (d_feet F G c1 (8 * i0 + j0))), (8, .int (F 117 c1)), (7, .int (w_wide F (8 * i0 + j0))), (6, .int (w_ag F (mt c1) (F 119 c1) (F 116 c1) (F 117 c1) (8 * i0 + j0) (i_19))), (5, .int (nI (8 * i0 + j0))), (0, .ref (B (100))), (1, .int (nI c1)), (2, .int (nI i0)), (3, .int (nI j0)), (4, .int (nI i_19))]) hx hb dX12_draw_195 hl (by decide) rfl (fun ls hl => ?_)
            refine lv_aload_n hx hb dX12_draw_197 rfl (lv_at hl 6 rfl) ?_
            refine g_r 8 (k2 := 109) C hw (hM.m rfl) rfl fl_X12_34 rfl (hM.p 8 rfl) dX12_draw_198 ?_
            refine lv_iload hx hb dX12_draw_201 (lv_at hl 10 rfl) ?_
            refine lv_iload hx hb dX12_draw_203 (lv_at hl 0 rfl) ?_
            refine lv_iload hx hb dX12_draw_205 (lv_at hl 1 rfl) ?_
            refine lv_aload_n hx hb dX12_draw_207 rfl (lv_at hl 6 rfl) ?_
            refine g_r 7 (k2 := 108) C hw (hM.m rfl) rfl fl_X12_31 rfl (hM.p 7 rfl) dX12_draw_208 ?_
            refine lv_iload hx hb dX12_draw_211 (lv_at hl 10 rfl) ?_
            refine n_i i_19 C hw (hM.m rfl) rfl rfl (show _ < 3 by omega) dX12_draw_213 ?_
            refine tp_i (y := F 108 i_19) ((uF_n _ _ (Or.inl (by decide))).trans ((uF_n _ _ (Or.inl (by decide))).trans ((uF_n _ _ (Or.inl (by decide))).trans (rfl)))) ?_
            refine lv_iadd hx hb dX12_draw_214 ?_
            refine lv_iconst (v := 1) hx hb dX12_draw_215 (by decide) ?_
            refine lv_isub hx hb dX12_draw_216 ?_
            refine lv_aload_n hx hb dX12_draw_217 rfl (lv_at hl 6 rfl) ?_
            refine g_r 7 (k2 := 108) C hw (hM.m rfl) rfl fl_X12_31 rfl (hM.p 7 rfl) dX12_draw_218 ?_
            refine lv_iload hx hb dX12_draw_221 (lv_at hl 10 rfl) ?_
            refine n_i i_19 C hw (hM.m rfl) rfl rfl (show _ < 3 by omega) dX12_draw_223 ?_
            refine tp_i (y := F 108 i_19) ((uF_n _ _ (Or.inl (by decide))).trans ((uF_n _ _ (Or.inl (by decide))).trans ((uF_n _ _ (Or.inl (by decide))).trans (rfl)))) ?_
            refine lv_idiv hx hb dX12_draw_224 ((hZ.2 _ (by omega))) ?_
            refine lv_iadd hx hb dX12_draw_225 ?_
            refine lv_iconst (v := 1) hx hb dX12_draw_226 (by decide) ?_
            refine lv_iadd hx hb dX12_draw_227 ?_
            refine tp_i (y := d_done F G c1 (8 * i0 + j0) i_19) (by simp [d_done, c_176]) ?_
            refine t_i i_19 C hw (hM.m rfl) rfl rfl (show _ < 4 by omega) dX12_draw_228 (fun H locs hw => ?_)
            refine lv_aload_n hx hb dX12_draw_229 rfl (lv_at hl 6 rfl) ?_
            refine g_r 19 (k2 := 120) C hw (hM.m rfl) rfl fl_X12_65 rfl (hM.p 19 rfl) dX12_draw_230 ?_
            refine lv_iload_n hx hb dX12_draw_233 rfl (lv_at hl 7 rfl) ?_
            refine lv_aload_n hx hb dX12_draw_234 rfl (lv_at hl 6 rfl) ?_
            refine g_r 8 (k2 := 109) C hw (hM.m rfl) rfl fl_X12_34 rfl (hM.p 8 rfl) dX12_draw_235 ?_
            refine lv_iload hx hb dX12_draw_238 (lv_at hl 10 rfl) ?_
            refine n_i i_19 C hw (hM.m rfl) rfl rfl (show _ < 4 by omega) dX12_draw_240 ?_
            refine tp_i (y := d_done F G c1 (8 * i0 + j0) i_19) (uF_s _ _ _ _) ?_
            refine t_i c1 C hw (hM.m rfl) rfl rfl (show _ < 16 by omega) dX12_draw_241 (fun H locs hw => ?_)
            refine lv_aload_n hx hb dX12_draw_242 rfl (lv_at hl 6 rfl) ?_
            refine lv_dup hx hb dX12_draw_243 rfl ?_
            refine g_i 34 C hw (hM.m rfl) rfl fl_X12_212 rfl dX12_draw_244 ?_
            refine tp_i (y := F 100 34) ((uF_n _ _ (Or.inl (by decide))).trans ((uF_n _ _ (Or.inl (by decide))).trans ((uF_n _ _ (Or.inl (by decide))).trans ((uF_n _ _ (Or.inl (by decide))).trans ((uF_n _ _ (Or.inl (by decide))).trans (rfl)))))) ?_
            refine lv_iconst (v := 1) hx hb dX12_draw_247 (by decide) ?_
            refine lv_iadd hx hb dX12_draw_248 ?_
            refine p_i 34 C hw (hM.m rfl) rfl fl_X12_212 fc_12 fn_12_34 (fun h9 => by cases h9) rfl rfl rfl dX12_draw_249 (fun H locs hw => ?_)
            refine lv_iload hx hb dX12_draw_252 (lv_at hl 1 rfl) ?_
            exact r_i C hr hlk hw ⟨(by simp only [sp_draw, st_draw, ok_draw, ag_at, qat, h_2, h_11, h_19, hz0, hz1, hz_c1, hz_19, Bool.true_and, decide_true, if_true]; simp [c_62]), (by simp only [sp_draw, st_draw, ok_draw, ag_at, qat, h_2, h_11, h_19, hz0, hz1, hz_c1, hz_19, Bool.true_and, decide_true, if_true]; simp [c_62, dF])⟩ dX12_draw_254
        · refine lv_iload hx hb dX12_draw_65 (lv_at hl 0 rfl) ?_
          exact r_i C hr hlk hw ⟨(by simp only [sp_draw, st_draw, ok_draw, ag_at, qat, h_2, h_11, h_19, hz0, hz1, hz_c1, hz_19, Bool.true_and, decide_true, if_true]; simp [c_62]), (by simp only [sp_draw, st_draw, ok_draw, ag_at, qat, h_2, h_11, h_19, hz0, hz1, hz_c1, hz_19, Bool.true_and, decide_true, if_true]; simp [c_62])⟩ dX12_draw_67
      · have hw := hq_19
        refine W.eq (g2 := F0 m 22 ls [.int (0)]) rfl ?_
        refine lv_if_ne (tgt := 28) hx hb dX12_draw_22 (by decide) (fun h9 => False.elim (by revert h9; decide)) (fun _ => ?_)
        refine lv_bipush (v := -2) hx hb dX12_draw_25 (by decide) ?_
        exact r_i C hr hlk hw ⟨(by simp [sp_draw, st_draw, ok_draw, h_2, h_11, h_19]), (by simp [sp_draw, st_draw, ok_draw, h_2, h_11, h_19])⟩ dX12_draw_27
    · have hw := hq_11
      refine W.eq (g2 := F0 m 14 ls [.int (0)]) rfl ?_
      refine lv_if_eq (tgt := 25) hx hb dX12_draw_14 (by decide) (fun _ => ?_) (fun h9 => False.elim (by revert h9; decide))
      refine lv_bipush (v := -2) hx hb dX12_draw_25 (by decide) ?_
      exact r_i C hr hlk hw ⟨(by simp [sp_draw, st_draw, ok_draw, h_2, h_11]), (by simp [sp_draw, st_draw, ok_draw, h_2, h_11])⟩ dX12_draw_27
  · have hw := hq_2
    refine W.eq (g2 := F0 m 5 ls [.int (0)]) rfl ?_
    refine lv_if_eq (tgt := 25) hx hb dX12_draw_5 (by decide) (fun _ => ?_) (fun h9 => False.elim (by revert h9; decide))
    refine lv_bipush (v := -2) hx hb dX12_draw_25 (by decide) ?_
    exact r_i C hr hlk hw ⟨(by simp [sp_draw, st_draw, ok_draw, h_2]), (by simp [sp_draw, st_draw, ok_draw, h_2])⟩ dX12_draw_27

set_option maxHeartbeats 4000000 in
set_option maxRecDepth 100000 in
theorem c_X12_tidy (E : cE) (tt : Nat × Nat × Nat) {X : List Nat} (B : Nat → Nat) (F : tF) (G : tG) {P : tP} (hM : RM X P) {q : Nat} (hq : q < 16) (hd_q : ¬ (F 116 q).toInt64 * (F 116 q).toInt64 = 0)  : CT E tt yX12_tidy cX12_tidy 2 none 1 0 0 [.ref (B (100)), .int (nI q)] (wl E X B F G P) (fun r w => r = none ∧ w = wl E X B F (tG_ F G q) P) := by
  refine CT.mk (by decide +kernel) (Nat.le_of_ble_eq_true rfl) ?_
  intro l p e s m below meth c A ls C hr hlk hnm hw hl
  have hx := C.1
  have hb := C.2.1
  have hts := C.2.2.2.2
  have hown : s.vm.findClass RX12 = some m.cls := C.2.2.2.1
  have hl : lv_has ls 2 [(0, .ref (B (100))), (1, .int (nI q))] := hl
  refine lv_aload_n hx hb dX12_tidy_0 rfl (lv_at hl 0 rfl) ?_
  refine lv_iload_n hx hb dX12_tidy_1 rfl (lv_at hl 1 rfl) ?_
  refine kV C hw (c_X12_feetOf E tt B F G hM (q := q) (by omega) (hd_q)) vy_X12_feetOf ml_X12_167 (rcv hw (hM.m rfl) rfl (by decide) (q2 := (RX12, TX12, 49)) rfl) rfl hl.1 (rest := []) rfl dX12_tidy_2 (Nat.le_of_ble_eq_true rfl) ⟨by decide, by decide⟩ ⟨Nat.le_of_ble_eq_true rfl, Nat.le_of_ble_eq_true rfl⟩ (fun v_2 ws_2 H locs hp_2 hq_2 => ?_)
  clear hw
  obtain ⟨rfl, rfl⟩ := hp_2
  have hw := hq_2
  refine W.eq (g2 := F0 m 5 ls [.int (w_feet F G (q))]) rfl ?_
  refine lv_if_ne (tgt := 30) hx hb dX12_tidy_5 (by decide) (fun c_5 => ?_) (fun c_5 => ?_)
  · exact r_v C hr hlk hw ⟨rfl, (by simp [tG_, c_5])⟩ dX12_tidy_30
  · refine lv_aload_n hx hb dX12_tidy_8 rfl (lv_at hl 0 rfl) ?_
    refine lv_dup hx hb dX12_tidy_9 rfl ?_
    refine g_l 32 C hw (hM.m rfl) rfl fl_X12_170 rfl dX12_tidy_10 ?_
    refine lv_aload_n hx hb dX12_tidy_13 rfl (lv_at hl 0 rfl) ?_
    refine g_r 17 (k2 := 118) C hw (hM.m rfl) rfl fl_X12_58 rfl (hM.p 17 rfl) dX12_tidy_14 ?_
    refine lv_iload_n hx hb dX12_tidy_17 rfl (lv_at hl 1 rfl) ?_
    refine n_l q C hw (hM.m rfl) rfl rfl (show _ < 16 by omega) dX12_tidy_18 ?_
    refine lv_ladd hx hb dX12_tidy_19 ?_
    refine p_l 32 C hw (hM.m rfl) rfl fl_X12_170 fc_12 fn_12_32 (fun h9 => by cases h9) rfl rfl rfl dX12_tidy_20 (fun H locs hw => ?_)
    refine lv_aload_n hx hb dX12_tidy_23 rfl (lv_at hl 0 rfl) ?_
    refine g_r 17 (k2 := 118) C hw (hM.m rfl) rfl fl_X12_58 rfl (hM.p 17 rfl) dX12_tidy_24 ?_
    refine lv_iload_n hx hb dX12_tidy_27 rfl (lv_at hl 1 rfl) ?_
    refine lv_lconst (v := 0) hx hb dX12_tidy_28 (by decide) ?_
    refine t_l q C hw (hM.m rfl) rfl rfl (show _ < 16 by omega) dX12_tidy_29 (fun H locs hw => ?_)
    exact r_v C hr hlk hw ⟨rfl, (by simp [tG_, c_5])⟩ dX12_tidy_30

set_option maxHeartbeats 4000000 in
set_option maxRecDepth 100000 in
theorem c_X12_fire (E : cE) (tt : Nat × Nat × Nat) {X : List Nat} (B : Nat → Nat) (F : tF) (G : tG) {P : tP} (hM : RM X P) (nc : Nat) (mt : Nat → Nat) (hC : CO F nc mt) (c0 : Int32)  : CT E tt yX12_fire cX12_fire 5 (some .int) 3 0 0 [.ref (B (100)), .int (c0)] (wl E X B F G P) (fun r w => r = some (.int (sp_fire F G nc c0)) ∧ w = wl E X B (st_fireF F G nc c0) (st_fireG F G nc mt c0) P) := by
  refine CT.mk (by decide +kernel) (Nat.le_of_ble_eq_true rfl) ?_
  intro l p e s m below meth c A ls C hr hlk hnm hw hl
  have hx := C.1
  have hb := C.2.1
  have hts := C.2.2.2.2
  have hown : s.vm.findClass RX12 = some m.cls := C.2.2.2.1
  have hl : lv_has ls 5 [(0, .ref (B (100))), (1, .int (c0))] := hl
  refine lv_aload_n hx hb dX12_fire_0 rfl (lv_at hl 0 rfl) ?_
  refine lv_iload_n hx hb dX12_fire_1 rfl (lv_at hl 1 rfl) ?_
  refine kV C hw (c_X12_isCoil E tt B F G hM nc hC.1 hC.2.1 (c0)) vy_X12_isCoil ml_X12_173 (rcv hw (hM.m rfl) rfl (by decide) (q2 := (RX12, TX12, 49)) rfl) rfl hl.1 (rest := []) rfl dX12_fire_2 (Nat.le_of_ble_eq_true rfl) ⟨by decide, by decide⟩ ⟨Nat.le_of_ble_eq_true rfl, Nat.le_of_ble_eq_true rfl⟩ (fun v_2 ws_2 H locs hp_2 hq_2 => ?_)
  clear hw
  rcases hp_2 with ⟨h_2, rfl, rfl⟩ | ⟨h_2, rfl, rfl⟩
  · have hw := hq_2
    refine W.eq (g2 := F0 m 5 ls [.int (1)]) rfl ?_
    obtain ⟨c1, hl_c1, rfl, hs_c1⟩ := ok_coil_n hC.2.1 h_2
    have hz_c1 := i4_cl (i := c1) (by have := hC.2.1; omega)
    obtain ⟨hm_c1, hm4_c1, hd_c1⟩ := hC.2.2 c1 hl_c1
    have hc16 := hC.2.1
    refine lv_if_ne (tgt := 11) hx hb dX12_fire_5 (by decide) (fun _ => ?_) (fun h9 => False.elim (by revert h9; decide))
    refine lv_aload_n hx hb dX12_fire_11 rfl (lv_at hl 0 rfl) ?_
    refine g_r 16 (k2 := 117) C hw (hM.m rfl) rfl fl_X12_55 rfl (hM.p 16 rfl) dX12_fire_12 ?_
    refine lv_iload_n hx hb dX12_fire_15 rfl (lv_at hl 1 rfl) ?_
    refine n_i c1 C hw (hM.m rfl) rfl rfl (show _ < 16 by omega) dX12_fire_16 ?_
    refine lv_if_ne (tgt := 23) hx hb dX12_fire_17 (by decide) (fun c_17 => ?_) (fun c_17 => ?_)
    · refine lv_aload_n hx hb dX12_fire_23 rfl (lv_at hl 0 rfl) ?_
      refine g_r 16 (k2 := 117) C hw (hM.m rfl) rfl fl_X12_55 rfl (hM.p 16 rfl) dX12_fire_24 ?_
      refine lv_iload_n hx hb dX12_fire_27 rfl (lv_at hl 1 rfl) ?_
      refine lv_iconst (v := 0) hx hb dX12_fire_28 (by decide) ?_
      refine t_i c1 C hw (hM.m rfl) rfl rfl (show _ < 16 by omega) dX12_fire_29 (fun H locs hw => ?_)
      refine lv_aload_n hx hb dX12_fire_30 rfl (lv_at hl 0 rfl) ?_
      refine g_r 17 (k2 := 118) C hw (hM.m rfl) rfl fl_X12_58 rfl (hM.p 17 rfl) dX12_fire_31 ?_
      refine lv_iload_n hx hb dX12_fire_34 rfl (lv_at hl 1 rfl) ?_
      refine n_l c1 C hw (hM.m rfl) rfl rfl (show _ < 16 by omega) dX12_fire_35 ?_
      refine lv_aload_n hx hb dX12_fire_36 rfl (lv_at hl 0 rfl) ?_
      refine g_r 4 (k2 := 105) C hw (hM.m rfl) rfl fl_X12_22 rfl (hM.p 4 rfl) dX12_fire_37 ?_
      refine lv_aload_n hx hb dX12_fire_40 rfl (lv_at hl 0 rfl) ?_
      refine g_r 14 (k2 := 115) C hw (hM.m rfl) rfl fl_X12_49 rfl (hM.p 14 rfl) dX12_fire_41 ?_
      refine lv_iload_n hx hb dX12_fire_44 rfl (lv_at hl 1 rfl) ?_
      refine n_i c1 C hw (hM.m rfl) rfl rfl (show _ < 16 by omega) dX12_fire_45 ?_
      refine tp_i (y := F 115 c1) ((uF_n _ _ (Or.inl (by decide))).trans (rfl)) ?_
      refine tp_i (y := nI (mt c1)) (hm_c1) ?_
      refine n_i (mt c1) C hw (hM.m rfl) rfl rfl (show _ < 4 by omega) dX12_fire_46 ?_
      refine tp_i (y := F 105 (mt c1)) ((uF_n _ _ (Or.inl (by decide))).trans (rfl)) ?_
      refine lv_i2l hx hb dX12_fire_47 rfl ?_
      refine lv_lmul hx hb dX12_fire_48 ?_
      refine lv_ldc2 (v := 1000) hx hb hown (hts _ kc_X12_178) dX12_fire_49 ?_
      refine lv_ldiv hx hb dX12_fire_52 (by decide) ?_
      refine tp_l (y := f_off F G (mt c1) c1) (rfl) ?_
      refine lv_lstore_n (lv' := [(2, .long (f_off F G (mt c1) c1)), (0, .ref (B (100))), (1, .int (nI c1))]) hx hb dX12_fire_53 rfl hl (by decide) rfl (fun ls hl => ?_)
      refine lv_aload_n hx hb dX12_fire_54 rfl (lv_at hl 1 rfl) ?_
      refine g_r 17 (k2 := 118) C hw (hM.m rfl) rfl fl_X12_58 rfl (hM.p 17 rfl) dX12_fire_55 ?_
      refine lv_iload_n hx hb dX12_fire_58 rfl (lv_at hl 2 rfl) ?_
      refine lv_dup2_11 hx hb dX12_fire_59 rfl rfl ?_
      refine n_l c1 C hw (hM.m rfl) rfl rfl (show _ < 16 by omega) dX12_fire_60 ?_
      refine lv_lload_n hx hb dX12_fire_61 rfl (lv_at hl 0 rfl) ?_
      refine lv_lsub hx hb dX12_fire_62 ?_
      refine t_l c1 C hw (hM.m rfl) rfl rfl (show _ < 16 by omega) dX12_fire_63 (fun H locs hw => ?_)
      refine lv_aload_n hx hb dX12_fire_64 rfl (lv_at hl 1 rfl) ?_
      refine lv_dup hx hb dX12_fire_65 rfl ?_
      refine g_l 33 C hw (hM.m rfl) rfl fl_X12_215 rfl dX12_fire_66 ?_
      refine tp_l (y := G 100 33) ((uG_n _ _ (Or.inl (by decide))).trans (rfl)) ?_
      refine lv_lload_n hx hb dX12_fire_69 rfl (lv_at hl 0 rfl) ?_
      refine lv_ladd hx hb dX12_fire_70 ?_
      refine p_l 33 C hw (hM.m rfl) rfl fl_X12_215 fc_12 fn_12_33 (fun h9 => by cases h9) rfl rfl rfl dX12_fire_71 (fun H locs hw => ?_)
      refine lv_aload_n hx hb dX12_fire_74 rfl (lv_at hl 1 rfl) ?_
      refine g_r 19 (k2 := 120) C hw (hM.m rfl) rfl fl_X12_65 rfl (hM.p 19 rfl) dX12_fire_75 ?_
      refine lv_iload_n hx hb dX12_fire_78 rfl (lv_at hl 2 rfl) ?_
      refine n_i c1 C hw (hM.m rfl) rfl rfl (show _ < 16 by omega) dX12_fire_79 ?_
      refine tp_i (y := F 120 c1) ((uF_n _ _ (Or.inl (by decide))).trans (rfl)) ?_
      refine lv_aload_n hx hb dX12_fire_80 rfl (lv_at hl 1 rfl) ?_
      refine g_r 8 (k2 := 109) C hw (hM.m rfl) rfl fl_X12_34 rfl (hM.p 8 rfl) dX12_fire_81 ?_
      refine lv_iconst (v := 3) hx hb dX12_fire_84 (by decide) ?_
      refine n_i 3 C hw (hM.m rfl) rfl rfl (show _ < 4 by omega) dX12_fire_85 ?_
      refine tp_i (y := F 109 3) ((uF_n _ _ (Or.inl (by decide))).trans (rfl)) ?_
      refine lv_icmp_le (tgt := 98) hx hb dX12_fire_86 (by decide) (fun c_86 => ?_) (fun c_86 => ?_)
      · rw [← Int32.not_lt] at c_86
        refine lv_aload_n hx hb dX12_fire_98 rfl (lv_at hl 1 rfl) ?_
        refine g_r 8 (k2 := 109) C hw (hM.m rfl) rfl fl_X12_34 rfl (hM.p 8 rfl) dX12_fire_99 ?_
        refine lv_iconst (v := 3) hx hb dX12_fire_102 (by decide) ?_
        refine n_i 3 C hw (hM.m rfl) rfl rfl (show _ < 4 by omega) dX12_fire_103 ?_
        refine tp_i (y := F 109 3) ((uF_n _ _ (Or.inl (by decide))).trans (rfl)) ?_
        refine lv_istore (lv' := [(4, .int (F 109 3)), (2, .long (f_off F G (mt c1) c1)), (0, .ref (B (100))), (1, .int (nI c1))]) hx hb dX12_fire_104 hl (by decide) rfl (fun ls hl => ?_)
        refine lv_aload_n hx hb dX12_fire_106 rfl (lv_at hl 2 rfl) ?_
        refine g_r 8 (k2 := 109) C hw (hM.m rfl) rfl fl_X12_34 rfl (hM.p 8 rfl) dX12_fire_107 ?_
        refine lv_iconst (v := 3) hx hb dX12_fire_110 (by decide) ?_
        refine lv_iload hx hb dX12_fire_111 (lv_at hl 0 rfl) ?_
        refine lv_aload_n hx hb dX12_fire_113 rfl (lv_at hl 2 rfl) ?_
        refine g_r 5 (k2 := 106) C hw (hM.m rfl) rfl fl_X12_25 rfl (hM.p 5 rfl) dX12_fire_114 ?_
        refine lv_iconst (v := 3) hx hb dX12_fire_117 (by decide) ?_
        refine n_i 3 C hw (hM.m rfl) rfl rfl (show _ < 6 by omega) dX12_fire_118 ?_
        refine tp_i (y := F 106 3) ((uF_n _ _ (Or.inl (by decide))).trans (rfl)) ?_
        refine lv_iadd hx hb dX12_fire_119 ?_
        refine tp_i (y := f_done F c1) (by simp [f_done, c_86]) ?_
        refine t_i 3 C hw (hM.m rfl) rfl rfl (show _ < 4 by omega) dX12_fire_120 (fun H locs hw => ?_)
        refine lv_aload_n hx hb dX12_fire_121 rfl (lv_at hl 2 rfl) ?_
        refine g_r 19 (k2 := 120) C hw (hM.m rfl) rfl fl_X12_65 rfl (hM.p 19 rfl) dX12_fire_122 ?_
        refine lv_iload_n hx hb dX12_fire_125 rfl (lv_at hl 3 rfl) ?_
        refine lv_aload_n hx hb dX12_fire_126 rfl (lv_at hl 2 rfl) ?_
        refine g_r 8 (k2 := 109) C hw (hM.m rfl) rfl fl_X12_34 rfl (hM.p 8 rfl) dX12_fire_127 ?_
        refine lv_iconst (v := 3) hx hb dX12_fire_130 (by decide) ?_
        refine n_i 3 C hw (hM.m rfl) rfl rfl (show _ < 4 by omega) dX12_fire_131 ?_
        refine tp_i (y := f_done F c1) (uF_s _ _ _ _) ?_
        refine t_i c1 C hw (hM.m rfl) rfl rfl (show _ < 16 by omega) dX12_fire_132 (fun H locs hw => ?_)
        refine lv_aload_n hx hb dX12_fire_133 rfl (lv_at hl 2 rfl) ?_
        refine lv_dup hx hb dX12_fire_134 rfl ?_
        refine g_i 35 C hw (hM.m rfl) rfl fl_X12_218 rfl dX12_fire_135 ?_
        refine tp_i (y := F 100 35) ((uF_n _ _ (Or.inl (by decide))).trans ((uF_n _ _ (Or.inl (by decide))).trans ((uF_n _ _ (Or.inl (by decide))).trans (rfl)))) ?_
        refine lv_iconst (v := 1) hx hb dX12_fire_138 (by decide) ?_
        refine lv_iadd hx hb dX12_fire_139 ?_
        refine p_i 35 C hw (hM.m rfl) rfl fl_X12_218 fc_12 fn_12_35 (fun h9 => by cases h9) rfl rfl rfl dX12_fire_140 (fun H locs hw => ?_)
        refine lv_aload_n hx hb dX12_fire_143 rfl (lv_at hl 2 rfl) ?_
        refine lv_iload_n hx hb dX12_fire_144 rfl (lv_at hl 3 rfl) ?_
        refine kV C hw (c_X12_tidy E tt B (uF (uF (uF (uF F 117 c1 0) 109 3 (f_done F c1)) 120 c1 (f_done F c1)) 100 35 ((F 100 35 + 1))) (uG (uG G 118 c1 ((G 118 c1 - f_off F G (mt c1) c1))) 100 33 ((G 100 33 + f_off F G (mt c1) c1))) hM (q := c1) (by omega) (hd_c1)) vy_X12_tidy ml_X12_221 (rcv hw (hM.m rfl) rfl (by decide) (q2 := (RX12, TX12, 49)) rfl) rfl hl.1 (rest := []) rfl dX12_fire_145 (Nat.le_of_ble_eq_true rfl) ⟨by decide, by decide⟩ ⟨Nat.le_of_ble_eq_true rfl, Nat.le_of_ble_eq_true rfl⟩ (fun v_145 ws_145 H locs hp_145 hq_145 => ?_)
        clear hw
        obtain ⟨rfl, rfl⟩ := hp_145
        have hw := hq_145
        refine W.eq (g2 := F0 m 148 ls []) rfl ?_
        refine lv_aload_n hx hb dX12_fire_148 rfl (lv_at hl 2 rfl) ?_
        refine g_r 8 (k2 := 109) C hw (hM.m rfl) rfl fl_X12_34 rfl (hM.p 8 rfl) dX12_fire_149 ?_
        refine lv_iconst (v := 3) hx hb dX12_fire_152 (by decide) ?_
        refine n_i 3 C hw (hM.m rfl) rfl rfl (show _ < 4 by omega) dX12_fire_153 ?_
        refine tp_i (y := f_done F c1) ((uF_n _ _ (Or.inl (by decide))).trans ((uF_n _ _ (Or.inl (by decide))).trans (uF_s _ _ _ _))) ?_
        exact r_i C hr hlk hw ⟨(by simp [sp_fire, h_2, c_17, hz_c1]), (by simp only [st_fireF, st_fireG, h_2, c_17, hz_c1, if_true, if_false]; rfl)⟩ dX12_fire_154
      · rw [Int32.not_le] at c_86
        refine lv_aload_n hx hb dX12_fire_89 rfl (lv_at hl 1 rfl) ?_
        refine g_r 19 (k2 := 120) C hw (hM.m rfl) rfl fl_X12_65 rfl (hM.p 19 rfl) dX12_fire_90 ?_
        refine lv_iload_n hx hb dX12_fire_93 rfl (lv_at hl 2 rfl) ?_
        refine n_i c1 C hw (hM.m rfl) rfl rfl (show _ < 16 by omega) dX12_fire_94 ?_
        refine tp_i (y := F 120 c1) ((uF_n _ _ (Or.inl (by decide))).trans (rfl)) ?_
        refine lv_goto (tgt := 104) hx hb dX12_fire_95 (by decide) ?_
        refine lv_istore (lv' := [(4, .int (F 120 c1)), (2, .long (f_off F G (mt c1) c1)), (0, .ref (B (100))), (1, .int (nI c1))]) hx hb dX12_fire_104 hl (by decide) rfl (fun ls hl => ?_)
        refine lv_aload_n hx hb dX12_fire_106 rfl (lv_at hl 2 rfl) ?_
        refine g_r 8 (k2 := 109) C hw (hM.m rfl) rfl fl_X12_34 rfl (hM.p 8 rfl) dX12_fire_107 ?_
        refine lv_iconst (v := 3) hx hb dX12_fire_110 (by decide) ?_
        refine lv_iload hx hb dX12_fire_111 (lv_at hl 0 rfl) ?_
        refine lv_aload_n hx hb dX12_fire_113 rfl (lv_at hl 2 rfl) ?_
        refine g_r 5 (k2 := 106) C hw (hM.m rfl) rfl fl_X12_25 rfl (hM.p 5 rfl) dX12_fire_114 ?_
        refine lv_iconst (v := 3) hx hb dX12_fire_117 (by decide) ?_
        refine n_i 3 C hw (hM.m rfl) rfl rfl (show _ < 6 by omega) dX12_fire_118 ?_
        refine tp_i (y := F 106 3) ((uF_n _ _ (Or.inl (by decide))).trans (rfl)) ?_
        refine lv_iadd hx hb dX12_fire_119 ?_
        refine tp_i (y := f_done F c1) (by simp [f_done, c_86]) ?_
        refine t_i 3 C hw (hM.m rfl) rfl rfl (show _ < 4 by omega) dX12_fire_120 (fun H locs hw => ?_)
        refine lv_aload_n hx hb dX12_fire_121 rfl (lv_at hl 2 rfl) ?_
        refine g_r 19 (k2 := 120) C hw (hM.m rfl) rfl fl_X12_65 rfl (hM.p 19 rfl) dX12_fire_122 ?_
        refine lv_iload_n hx hb dX12_fire_125 rfl (lv_at hl 3 rfl) ?_
        refine lv_aload_n hx hb dX12_fire_126 rfl (lv_at hl 2 rfl) ?_
        refine g_r 8 (k2 := 109) C hw (hM.m rfl) rfl fl_X12_34 rfl (hM.p 8 rfl) dX12_fire_127 ?_
        refine lv_iconst (v := 3) hx hb dX12_fire_130 (by decide) ?_
        refine n_i 3 C hw (hM.m rfl) rfl rfl (show _ < 4 by omega) dX12_fire_131 ?_
        refine tp_i (y := f_done F c1) (uF_s _ _ _ _) ?_
        refine t_i c1 C hw (hM.m rfl) rfl rfl (show _ < 16 by omega) dX12_fire_132 (fun H locs hw => ?_)
        refine lv_aload_n hx hb dX12_fire_133 rfl (lv_at hl 2 rfl) ?_
        refine lv_dup hx hb dX12_fire_134 rfl ?_
        refine g_i 35 C hw (hM.m rfl) rfl fl_X12_218 rfl dX12_fire_135 ?_
        refine tp_i (y := F 100 35) ((uF_n _ _ (Or.inl (by decide))).trans ((uF_n _ _ (Or.inl (by decide))).trans ((uF_n _ _ (Or.inl (by decide))).trans (rfl)))) ?_
        refine lv_iconst (v := 1) hx hb dX12_fire_138 (by decide) ?_
        refine lv_iadd hx hb dX12_fire_139 ?_
        refine p_i 35 C hw (hM.m rfl) rfl fl_X12_218 fc_12 fn_12_35 (fun h9 => by cases h9) rfl rfl rfl dX12_fire_140 (fun H locs hw => ?_)
        refine lv_aload_n hx hb dX12_fire_143 rfl (lv_at hl 2 rfl) ?_
        refine lv_iload_n hx hb dX12_fire_144 rfl (lv_at hl 3 rfl) ?_
        refine kV C hw (c_X12_tidy E tt B (uF (uF (uF (uF F 117 c1 0) 109 3 (f_done F c1)) 120 c1 (f_done F c1)) 100 35 ((F 100 35 + 1))) (uG (uG G 118 c1 ((G 118 c1 - f_off F G (mt c1) c1))) 100 33 ((G 100 33 + f_off F G (mt c1) c1))) hM (q := c1) (by omega) (hd_c1)) vy_X12_tidy ml_X12_221 (rcv hw (hM.m rfl) rfl (by decide) (q2 := (RX12, TX12, 49)) rfl) rfl hl.1 (rest := []) rfl dX12_fire_145 (Nat.le_of_ble_eq_true rfl) ⟨by decide, by decide⟩ ⟨Nat.le_of_ble_eq_true rfl, Nat.le_of_ble_eq_true rfl⟩ (fun v_145 ws_145 H locs hp_145 hq_145 => ?_)
        clear hw
        obtain ⟨rfl, rfl⟩ := hp_145
        have hw := hq_145
        refine W.eq (g2 := F0 m 148 ls []) rfl ?_
        refine lv_aload_n hx hb dX12_fire_148 rfl (lv_at hl 2 rfl) ?_
        refine g_r 8 (k2 := 109) C hw (hM.m rfl) rfl fl_X12_34 rfl (hM.p 8 rfl) dX12_fire_149 ?_
        refine lv_iconst (v := 3) hx hb dX12_fire_152 (by decide) ?_
        refine n_i 3 C hw (hM.m rfl) rfl rfl (show _ < 4 by omega) dX12_fire_153 ?_
        refine tp_i (y := f_done F c1) ((uF_n _ _ (Or.inl (by decide))).trans ((uF_n _ _ (Or.inl (by decide))).trans (uF_s _ _ _ _))) ?_
        exact r_i C hr hlk hw ⟨(by simp [sp_fire, h_2, c_17, hz_c1]), (by simp only [st_fireF, st_fireG, h_2, c_17, hz_c1, if_true, if_false]; rfl)⟩ dX12_fire_154
    · refine lv_bipush (v := -4) hx hb dX12_fire_20 (by decide) ?_
      exact r_i C hr hlk hw ⟨(by simp [sp_fire, st_fireF, st_fireG, hz_c1, h_2, c_17]), (by simp [sp_fire, st_fireF, st_fireG, hz_c1, h_2, c_17])⟩ dX12_fire_22
  · have hw := hq_2
    refine W.eq (g2 := F0 m 5 ls [.int (0)]) rfl ?_
    refine lv_if_ne (tgt := 11) hx hb dX12_fire_5 (by decide) (fun h9 => False.elim (by revert h9; decide)) (fun _ => ?_)
    refine lv_bipush (v := -2) hx hb dX12_fire_8 (by decide) ?_
    exact r_i C hr hlk hw ⟨(by simp [sp_fire, st_fireF, st_fireG, h_2]), (by simp [sp_fire, st_fireF, st_fireG, h_2])⟩ dX12_fire_10
