set_option maxHeartbeats 4000000 in
set_option maxRecDepth 100000 in
theorem c_X12_metal (E : cE) (tt : Nat × Nat × Nat) {X : List Nat} (B : Nat → Nat) (F : tF) (G : tG) {P : tP} (hM : RM X P) (m0 b0 g0 l0 a0 s0 : Int32)  : CT E tt yX12_metal cX12_metal 7 (some .int) 2 0 0 [.ref (B (100)), .int (m0), .int (b0), .int (g0), .int (l0), .int (a0), .int (s0)] (wl E X B F G P) (fun r w => r = some (.int (sp_metal m0 b0 g0 l0 a0 s0)) ∧ w = wl E X B (st_metal F m0 b0 g0 l0 a0 s0) G P) := by
  refine CT.mk (by decide +kernel) (Nat.le_of_ble_eq_true rfl) ?_
  intro l p e s m below meth c A ls C hr hlk hnm hw hl
  have hx := C.1
  have hb := C.2.1
  have hts := C.2.2.2.2
  have hown : s.vm.findClass RX12 = some m.cls := C.2.2.2.1
  have hl : lv_has ls 7 [(0, .ref (B (100))), (1, .int (m0)), (2, .int (b0)), (3, .int (g0)), (4, .int (l0)), (5, .int (a0)), (6, .int (s0))] := hl
  refine lv_iload_n hx hb dX12_metal_0 rfl (lv_at hl 1 rfl) ?_
  refine kS C hw (c_X12_isMetal E tt _ (m0)) vy_X12_isMetal ml_X12_131 rfl hl.1 (rest := []) rfl dX12_metal_1 (Nat.le_of_ble_eq_true rfl) ⟨by decide, by decide⟩ ⟨Nat.le_of_ble_eq_true rfl, Nat.le_of_ble_eq_true rfl⟩ (fun v_1 ws_1 H locs hp_1 hq_1 => ?_)
  clear hw
  rcases hp_1 with ⟨h_1, rfl, rfl⟩ | ⟨h_1, rfl, rfl⟩
  · have hw := hq_1
    refine W.eq (g2 := F0 m 4 ls [.int (1)]) rfl ?_
    obtain ⟨i_1, hl_1, rfl⟩ := n_of (n := 3) h_1.1 h_1.2 (by decide)
    have hz_1 := i4_cl (i := i_1) (by omega)
    refine lv_if_ne (tgt := 10) hx hb dX12_metal_4 (by decide) (fun _ => ?_) (fun h9 => False.elim (by revert h9; decide))
    refine lv_iload_n hx hb dX12_metal_10 rfl (lv_at hl 2 rfl) ?_
    refine lv_iconst (v := 1) hx hb dX12_metal_11 (by decide) ?_
    refine lv_sipush (v := 200) hx hb dX12_metal_12 (by decide) ?_
    refine kS C hw (c_X12_within E tt _ (b0) (1) (200)) vy_X12_within ml_X12_123 rfl hl.1 (rest := []) rfl dX12_metal_15 (Nat.le_of_ble_eq_true rfl) ⟨by decide, by decide⟩ ⟨Nat.le_of_ble_eq_true rfl, Nat.le_of_ble_eq_true rfl⟩ (fun v_15 ws_15 H locs hp_15 hq_15 => ?_)
    clear hw
    rcases hp_15 with ⟨h_15, rfl, rfl⟩ | ⟨h_15, rfl, rfl⟩
    · have hw := hq_15
      refine W.eq (g2 := F0 m 18 ls [.int (1)]) rfl ?_
      refine lv_if_eq (tgt := 65) hx hb dX12_metal_18 (by decide) (fun h9 => False.elim (by revert h9; decide)) (fun _ => ?_)
      refine lv_iload_n hx hb dX12_metal_21 rfl (lv_at hl 3 rfl) ?_
      refine lv_iconst (v := 0) hx hb dX12_metal_22 (by decide) ?_
      refine lv_sipush (v := 300) hx hb dX12_metal_23 (by decide) ?_
      refine kS C hw (c_X12_within E tt _ (g0) (0) (300)) vy_X12_within ml_X12_123 rfl hl.1 (rest := []) rfl dX12_metal_26 (Nat.le_of_ble_eq_true rfl) ⟨by decide, by decide⟩ ⟨Nat.le_of_ble_eq_true rfl, Nat.le_of_ble_eq_true rfl⟩ (fun v_26 ws_26 H locs hp_26 hq_26 => ?_)
      clear hw
      rcases hp_26 with ⟨h_26, rfl, rfl⟩ | ⟨h_26, rfl, rfl⟩
      · have hw := hq_26
        refine W.eq (g2 := F0 m 29 ls [.int (1)]) rfl ?_
        refine lv_if_eq (tgt := 65) hx hb dX12_metal_29 (by decide) (fun h9 => False.elim (by revert h9; decide)) (fun _ => ?_)
        refine lv_iload hx hb dX12_metal_32 (lv_at hl 4 rfl) ?_
        refine lv_iconst (v := 1) hx hb dX12_metal_34 (by decide) ?_
        refine lv_bipush (v := 100) hx hb dX12_metal_35 (by decide) ?_
        refine kS C hw (c_X12_within E tt _ (l0) (1) (100)) vy_X12_within ml_X12_123 rfl hl.1 (rest := []) rfl dX12_metal_37 (Nat.le_of_ble_eq_true rfl) ⟨by decide, by decide⟩ ⟨Nat.le_of_ble_eq_true rfl, Nat.le_of_ble_eq_true rfl⟩ (fun v_37 ws_37 H locs hp_37 hq_37 => ?_)
        clear hw
        rcases hp_37 with ⟨h_37, rfl, rfl⟩ | ⟨h_37, rfl, rfl⟩
        · have hw := hq_37
          refine W.eq (g2 := F0 m 40 ls [.int (1)]) rfl ?_
          refine lv_if_eq (tgt := 65) hx hb dX12_metal_40 (by decide) (fun h9 => False.elim (by revert h9; decide)) (fun _ => ?_)
          refine lv_iload hx hb dX12_metal_43 (lv_at hl 5 rfl) ?_
          refine lv_iconst (v := 0) hx hb dX12_metal_45 (by decide) ?_
          refine lv_bipush (v := 50) hx hb dX12_metal_46 (by decide) ?_
          refine kS C hw (c_X12_within E tt _ (a0) (0) (50)) vy_X12_within ml_X12_123 rfl hl.1 (rest := []) rfl dX12_metal_48 (Nat.le_of_ble_eq_true rfl) ⟨by decide, by decide⟩ ⟨Nat.le_of_ble_eq_true rfl, Nat.le_of_ble_eq_true rfl⟩ (fun v_48 ws_48 H locs hp_48 hq_48 => ?_)
          clear hw
          rcases hp_48 with ⟨h_48, rfl, rfl⟩ | ⟨h_48, rfl, rfl⟩
          · have hw := hq_48
            refine W.eq (g2 := F0 m 51 ls [.int (1)]) rfl ?_
            refine lv_if_eq (tgt := 65) hx hb dX12_metal_51 (by decide) (fun h9 => False.elim (by revert h9; decide)) (fun _ => ?_)
            refine lv_iload hx hb dX12_metal_54 (lv_at hl 6 rfl) ?_
            refine lv_iconst (v := 0) hx hb dX12_metal_56 (by decide) ?_
            refine lv_bipush (v := 50) hx hb dX12_metal_57 (by decide) ?_
            refine kS C hw (c_X12_within E tt _ (s0) (0) (50)) vy_X12_within ml_X12_123 rfl hl.1 (rest := []) rfl dX12_metal_59 (Nat.le_of_ble_eq_true rfl) ⟨by decide, by decide⟩ ⟨Nat.le_of_ble_eq_true rfl, Nat.le_of_ble_eq_true rfl⟩ (fun v_59 ws_59 H locs hp_59 hq_59 => ?_)
            clear hw
            rcases hp_59 with ⟨h_59, rfl, rfl⟩ | ⟨h_59, rfl, rfl⟩
            · have hw := hq_59
              refine W.eq (g2 := F0 m 62 ls [.int (1)]) rfl ?_
              refine lv_if_ne (tgt := 68) hx hb dX12_metal_62 (by decide) (fun _ => ?_) (fun h9 => False.elim (by revert h9; decide))
              refine lv_aload_n hx hb dX12_metal_68 rfl (lv_at hl 0 rfl) ?_
              refine g_r 0 (k2 := 101) C hw (hM.m rfl) rfl fl_X12_7 rfl (hM.p 0 rfl) dX12_metal_69 ?_
              refine lv_iload_n hx hb dX12_metal_72 rfl (lv_at hl 1 rfl) ?_
              refine lv_iload_n hx hb dX12_metal_73 rfl (lv_at hl 2 rfl) ?_
              refine t_i i_1 C hw (hM.m rfl) rfl rfl (show _ < 4 by omega) dX12_metal_74 (fun H locs hw => ?_)
              refine lv_aload_n hx hb dX12_metal_75 rfl (lv_at hl 0 rfl) ?_
              refine g_r 1 (k2 := 102) C hw (hM.m rfl) rfl fl_X12_13 rfl (hM.p 1 rfl) dX12_metal_76 ?_
              refine lv_iload_n hx hb dX12_metal_79 rfl (lv_at hl 1 rfl) ?_
              refine lv_iload_n hx hb dX12_metal_80 rfl (lv_at hl 3 rfl) ?_
              refine t_i i_1 C hw (hM.m rfl) rfl rfl (show _ < 4 by omega) dX12_metal_81 (fun H locs hw => ?_)
              refine lv_aload_n hx hb dX12_metal_82 rfl (lv_at hl 0 rfl) ?_
              refine g_r 2 (k2 := 103) C hw (hM.m rfl) rfl fl_X12_16 rfl (hM.p 2 rfl) dX12_metal_83 ?_
              refine lv_iload_n hx hb dX12_metal_86 rfl (lv_at hl 1 rfl) ?_
              refine lv_iload hx hb dX12_metal_87 (lv_at hl 4 rfl) ?_
              refine t_i i_1 C hw (hM.m rfl) rfl rfl (show _ < 4 by omega) dX12_metal_89 (fun H locs hw => ?_)
              refine lv_aload_n hx hb dX12_metal_90 rfl (lv_at hl 0 rfl) ?_
              refine g_r 3 (k2 := 104) C hw (hM.m rfl) rfl fl_X12_19 rfl (hM.p 3 rfl) dX12_metal_91 ?_
              refine lv_iload_n hx hb dX12_metal_94 rfl (lv_at hl 1 rfl) ?_
              refine lv_iload hx hb dX12_metal_95 (lv_at hl 5 rfl) ?_
              refine t_i i_1 C hw (hM.m rfl) rfl rfl (show _ < 4 by omega) dX12_metal_97 (fun H locs hw => ?_)
              refine lv_aload_n hx hb dX12_metal_98 rfl (lv_at hl 0 rfl) ?_
              refine g_r 4 (k2 := 105) C hw (hM.m rfl) rfl fl_X12_22 rfl (hM.p 4 rfl) dX12_metal_99 ?_
              refine lv_iload_n hx hb dX12_metal_102 rfl (lv_at hl 1 rfl) ?_
              refine lv_iload hx hb dX12_metal_103 (lv_at hl 6 rfl) ?_
              refine t_i i_1 C hw (hM.m rfl) rfl rfl (show _ < 4 by omega) dX12_metal_105 (fun H locs hw => ?_)
              refine lv_iconst (v := 1) hx hb dX12_metal_106 (by decide) ?_
              exact r_i C hr hlk hw ⟨(by simp [sp_metal, st_metal, hz_1, h_1, h_15, h_26, h_37, h_48, h_59]), (by simp [sp_metal, st_metal, hz_1, h_1, h_15, h_26, h_37, h_48, h_59])⟩ dX12_metal_107
            · have hw := hq_59
              refine W.eq (g2 := F0 m 62 ls [.int (0)]) rfl ?_
              refine lv_if_ne (tgt := 68) hx hb dX12_metal_62 (by decide) (fun h9 => False.elim (by revert h9; decide)) (fun _ => ?_)
              refine lv_bipush (v := -3) hx hb dX12_metal_65 (by decide) ?_
              exact r_i C hr hlk hw ⟨(by simp [sp_metal, st_metal, h_1, h_15, h_26, h_37, h_48, h_59]), (by simp [sp_metal, st_metal, h_1, h_15, h_26, h_37, h_48, h_59])⟩ dX12_metal_67
          · have hw := hq_48
            refine W.eq (g2 := F0 m 51 ls [.int (0)]) rfl ?_
            refine lv_if_eq (tgt := 65) hx hb dX12_metal_51 (by decide) (fun _ => ?_) (fun h9 => False.elim (by revert h9; decide))
            refine lv_bipush (v := -3) hx hb dX12_metal_65 (by decide) ?_
            exact r_i C hr hlk hw ⟨(by simp [sp_metal, st_metal, h_1, h_15, h_26, h_37, h_48]), (by simp [sp_metal, st_metal, h_1, h_15, h_26, h_37, h_48])⟩ dX12_metal_67
        · have hw := hq_37
          refine W.eq (g2 := F0 m 40 ls [.int (0)]) rfl ?_
          refine lv_if_eq (tgt := 65) hx hb dX12_metal_40 (by decide) (fun _ => ?_) (fun h9 => False.elim (by revert h9; decide))
          refine lv_bipush (v := -3) hx hb dX12_metal_65 (by decide) ?_
          exact r_i C hr hlk hw ⟨(by simp [sp_metal, st_metal, h_1, h_15, h_26, h_37]), (by simp [sp_metal, st_metal, h_1, h_15, h_26, h_37])⟩ dX12_metal_67
      · have hw := hq_26
        refine W.eq (g2 := F0 m 29 ls [.int (0)]) rfl ?_
        refine lv_if_eq (tgt := 65) hx hb dX12_metal_29 (by decide) (fun _ => ?_) (fun h9 => False.elim (by revert h9; decide))
        refine lv_bipush (v := -3) hx hb dX12_metal_65 (by decide) ?_
        exact r_i C hr hlk hw ⟨(by simp [sp_metal, st_metal, h_1, h_15, h_26]), (by simp [sp_metal, st_metal, h_1, h_15, h_26])⟩ dX12_metal_67
    · have hw := hq_15
      refine W.eq (g2 := F0 m 18 ls [.int (0)]) rfl ?_
      refine lv_if_eq (tgt := 65) hx hb dX12_metal_18 (by decide) (fun _ => ?_) (fun h9 => False.elim (by revert h9; decide))
      refine lv_bipush (v := -3) hx hb dX12_metal_65 (by decide) ?_
      exact r_i C hr hlk hw ⟨(by simp [sp_metal, st_metal, h_1, h_15]), (by simp [sp_metal, st_metal, h_1, h_15])⟩ dX12_metal_67
  · have hw := hq_1
    refine W.eq (g2 := F0 m 4 ls [.int (0)]) rfl ?_
    refine lv_if_ne (tgt := 10) hx hb dX12_metal_4 (by decide) (fun h9 => False.elim (by revert h9; decide)) (fun _ => ?_)
    refine lv_bipush (v := -2) hx hb dX12_metal_7 (by decide) ?_
    exact r_i C hr hlk hw ⟨(by simp [sp_metal, st_metal, h_1]), (by simp [sp_metal, st_metal, h_1])⟩ dX12_metal_9

set_option maxHeartbeats 4000000 in
set_option maxRecDepth 100000 in
theorem c_X12_leastOf (E : cE) (tt : Nat × Nat × Nat) (ws : va_W) (v : Int32)  : CT E tt yX12_leastOf cX12_leastOf 1 (some .int) 0 0 0 [.int (v)] ws (fun r w => r = some (.int (sp_least v)) ∧ w = ws) := by
  refine CT.mk (by decide +kernel) (Nat.le_of_ble_eq_true rfl) ?_
  intro l p e s m below meth c A ls C hr hlk hnm hw hl
  have hx := C.1
  have hb := C.2.1
  have hts := C.2.2.2.2
  have hown : s.vm.findClass RX12 = some m.cls := C.2.2.2.1
  have hl : lv_has ls 1 [(0, .int (v))] := hl
  refine lv_iload_n hx hb dX12_leastOf_0 rfl (lv_at hl 0 rfl) ?_
  refine lv_iconst (v := 1) hx hb dX12_leastOf_1 (by decide) ?_
  refine lv_icmp_ne (tgt := 10) hx hb dX12_leastOf_2 (by decide) (fun c_2 => ?_) (fun c_2 => ?_)
  · refine lv_iload_n hx hb dX12_leastOf_10 rfl (lv_at hl 0 rfl) ?_
    refine lv_iconst (v := 3) hx hb dX12_leastOf_11 (by decide) ?_
    refine lv_icmp_eq (tgt := 20) hx hb dX12_leastOf_12 (by decide) (fun c_12 => ?_) (fun c_12 => ?_)
    · refine lv_iconst (v := 1) hx hb dX12_leastOf_20 (by decide) ?_
      refine lv_goto (tgt := 25) hx hb dX12_leastOf_21 (by decide) ?_
      exact r_i C hr hlk hw ⟨(by simp [sp_least, c_2, c_12]), rfl⟩ dX12_leastOf_25
    · refine lv_iload_n hx hb dX12_leastOf_15 rfl (lv_at hl 0 rfl) ?_
      refine lv_iconst (v := 5) hx hb dX12_leastOf_16 (by decide) ?_
      refine lv_icmp_ne (tgt := 24) hx hb dX12_leastOf_17 (by decide) (fun c_17 => ?_) (fun c_17 => ?_)
      · refine lv_iconst (v := 0) hx hb dX12_leastOf_24 (by decide) ?_
        exact r_i C hr hlk hw ⟨(by simp [sp_least, c_2, c_12, c_17]), rfl⟩ dX12_leastOf_25
      · refine lv_iconst (v := 1) hx hb dX12_leastOf_20 (by decide) ?_
        refine lv_goto (tgt := 25) hx hb dX12_leastOf_21 (by decide) ?_
        exact r_i C hr hlk hw ⟨(by simp [sp_least, c_2, c_12, c_17]), rfl⟩ dX12_leastOf_25
  · refine lv_bipush (v := 10) hx hb dX12_leastOf_5 (by decide) ?_
    refine lv_goto (tgt := 25) hx hb dX12_leastOf_7 (by decide) ?_
    exact r_i C hr hlk hw ⟨(by simp [sp_least, c_2]), rfl⟩ dX12_leastOf_25

set_option maxHeartbeats 4000000 in
set_option maxRecDepth 100000 in
theorem c_X12_mostOf (E : cE) (tt : Nat × Nat × Nat) (ws : va_W) (v : Int32)  : CT E tt yX12_mostOf cX12_mostOf 1 (some .int) 0 0 0 [.int (v)] ws (fun r w => r = some (.int (sp_most v)) ∧ w = ws) := by
  refine CT.mk (by decide +kernel) (Nat.le_of_ble_eq_true rfl) ?_
  intro l p e s m below meth c A ls C hr hlk hnm hw hl
  have hx := C.1
  have hb := C.2.1
  have hts := C.2.2.2.2
  have hown : s.vm.findClass RX12 = some m.cls := C.2.2.2.1
  have hl : lv_has ls 1 [(0, .int (v))] := hl
  refine lv_iload_n hx hb dX12_mostOf_0 rfl (lv_at hl 0 rfl) ?_
  refine lv_iconst (v := 2) hx hb dX12_mostOf_1 (by decide) ?_
  refine lv_icmp_ne (tgt := 10) hx hb dX12_mostOf_2 (by decide) (fun c_2 => ?_) (fun c_2 => ?_)
  · refine lv_iload_n hx hb dX12_mostOf_10 rfl (lv_at hl 0 rfl) ?_
    refine lv_iconst (v := 3) hx hb dX12_mostOf_11 (by decide) ?_
    refine lv_icmp_ne (tgt := 21) hx hb dX12_mostOf_12 (by decide) (fun c_12 => ?_) (fun c_12 => ?_)
    · refine lv_iload_n hx hb dX12_mostOf_21 rfl (lv_at hl 0 rfl) ?_
      refine lv_iconst (v := 4) hx hb dX12_mostOf_22 (by decide) ?_
      refine lv_icmp_ne (tgt := 31) hx hb dX12_mostOf_23 (by decide) (fun c_23 => ?_) (fun c_23 => ?_)
      · refine lv_bipush (v := 100) hx hb dX12_mostOf_31 (by decide) ?_
        exact r_i C hr hlk hw ⟨(by simp [sp_most, c_2, c_12, c_23]), rfl⟩ dX12_mostOf_33
      · refine lv_bipush (v := 20) hx hb dX12_mostOf_26 (by decide) ?_
        refine lv_goto (tgt := 33) hx hb dX12_mostOf_28 (by decide) ?_
        exact r_i C hr hlk hw ⟨(by simp [sp_most, c_2, c_12, c_23]), rfl⟩ dX12_mostOf_33
    · refine lv_sipush (v := 500) hx hb dX12_mostOf_15 (by decide) ?_
      refine lv_goto (tgt := 33) hx hb dX12_mostOf_18 (by decide) ?_
      exact r_i C hr hlk hw ⟨(by simp [sp_most, c_2, c_12]), rfl⟩ dX12_mostOf_33
  · refine lv_bipush (v := 10) hx hb dX12_mostOf_5 (by decide) ?_
    refine lv_goto (tgt := 33) hx hb dX12_mostOf_7 (by decide) ?_
    exact r_i C hr hlk hw ⟨(by simp [sp_most, c_2]), rfl⟩ dX12_mostOf_33

set_option maxHeartbeats 4000000 in
set_option maxRecDepth 100000 in
theorem c_X12_set (E : cE) (tt : Nat × Nat × Nat) {X : List Nat} (B : Nat → Nat) (F : tF) (G : tG) {P : tP} (hM : RM X P) (w0 v0 : Int32)  : CT E tt yX12_set cX12_set 4 (some .int) 2 0 0 [.ref (B (100)), .int (w0), .int (v0)] (wl E X B F G P) (fun r w => r = some (.int (sp_set F w0 v0)) ∧ w = wl E X B (st_set F w0 v0) G P) := by
  refine CT.mk (by decide +kernel) (Nat.le_of_ble_eq_true rfl) ?_
  intro l p e s m below meth c A ls C hr hlk hnm hw hl
  have hx := C.1
  have hb := C.2.1
  have hts := C.2.2.2.2
  have hown : s.vm.findClass RX12 = some m.cls := C.2.2.2.1
  have hl : lv_has ls 4 [(0, .ref (B (100))), (1, .int (w0)), (2, .int (v0))] := hl
  refine lv_iload_n hx hb dX12_set_0 rfl (lv_at hl 1 rfl) ?_
  refine lv_iconst (v := 0) hx hb dX12_set_1 (by decide) ?_
  refine lv_iconst (v := 5) hx hb dX12_set_2 (by decide) ?_
  refine kS C hw (c_X12_within E tt _ (w0) (0) (5)) vy_X12_within ml_X12_123 rfl hl.1 (rest := []) rfl dX12_set_3 (Nat.le_of_ble_eq_true rfl) ⟨by decide, by decide⟩ ⟨Nat.le_of_ble_eq_true rfl, Nat.le_of_ble_eq_true rfl⟩ (fun v_3 ws_3 H locs hp_3 hq_3 => ?_)
  clear hw
  rcases hp_3 with ⟨h_3, rfl, rfl⟩ | ⟨h_3, rfl, rfl⟩
  · have hw := hq_3
    refine W.eq (g2 := F0 m 6 ls [.int (1)]) rfl ?_
    refine lv_if_eq (tgt := 24) hx hb dX12_set_6 (by decide) (fun h9 => False.elim (by revert h9; decide)) (fun _ => ?_)
    refine lv_iload_n hx hb dX12_set_9 rfl (lv_at hl 2 rfl) ?_
    refine lv_iload_n hx hb dX12_set_10 rfl (lv_at hl 1 rfl) ?_
    refine kS C hw (c_X12_leastOf E tt _ (w0)) vy_X12_leastOf ml_X12_135 rfl hl.1 (rest := [.int (v0)]) rfl dX12_set_11 (Nat.le_of_ble_eq_true rfl) ⟨by decide, by decide⟩ ⟨Nat.le_of_ble_eq_true rfl, Nat.le_of_ble_eq_true rfl⟩ (fun v_11 ws_11 H locs hp_11 hq_11 => ?_)
    clear hw
    obtain ⟨rfl, rfl⟩ := hp_11
    have hw := hq_11
    refine W.eq (g2 := F0 m 14 ls [.int (sp_least (w0)), .int (v0)]) rfl ?_
    refine lv_iload_n hx hb dX12_set_14 rfl (lv_at hl 1 rfl) ?_
    refine kS C hw (c_X12_mostOf E tt _ (w0)) vy_X12_mostOf ml_X12_139 rfl hl.1 (rest := [.int (sp_least (w0)), .int (v0)]) rfl dX12_set_15 (Nat.le_of_ble_eq_true rfl) ⟨by decide, by decide⟩ ⟨Nat.le_of_ble_eq_true rfl, Nat.le_of_ble_eq_true rfl⟩ (fun v_15 ws_15 H locs hp_15 hq_15 => ?_)
    clear hw
    obtain ⟨rfl, rfl⟩ := hp_15
    have hw := hq_15
    refine W.eq (g2 := F0 m 18 ls [.int (sp_most (w0)), .int (sp_least (w0)), .int (v0)]) rfl ?_
    refine kS C hw (c_X12_within E tt _ (v0) (sp_least (w0)) (sp_most (w0))) vy_X12_within ml_X12_123 rfl hl.1 (rest := []) rfl dX12_set_18 (Nat.le_of_ble_eq_true rfl) ⟨by decide, by decide⟩ ⟨Nat.le_of_ble_eq_true rfl, Nat.le_of_ble_eq_true rfl⟩ (fun v_18 ws_18 H locs hp_18 hq_18 => ?_)
    clear hw
    rcases hp_18 with ⟨h_18, rfl, rfl⟩ | ⟨h_18, rfl, rfl⟩
    · have hw := hq_18
      refine W.eq (g2 := F0 m 21 ls [.int (1)]) rfl ?_
      refine lv_if_ne (tgt := 27) hx hb dX12_set_21 (by decide) (fun _ => ?_) (fun h9 => False.elim (by revert h9; decide))
      obtain ⟨i0, hi0, rfl⟩ := n_of (n := 5) h_3.1 h_3.2 (by decide)
      have hz0 := i4_cl (i := i0) (by omega)
      refine lv_aload_n hx hb dX12_set_27 rfl (lv_at hl 0 rfl) ?_
      refine g_r 5 (k2 := 106) C hw (hM.m rfl) rfl fl_X12_25 rfl (hM.p 5 rfl) dX12_set_28 ?_
      refine lv_iload_n hx hb dX12_set_31 rfl (lv_at hl 1 rfl) ?_
      refine n_i i0 C hw (hM.m rfl) rfl rfl (show _ < 6 by omega) dX12_set_32 ?_
      refine lv_istore_n (lv' := [(3, .int (F 106 i0)), (0, .ref (B (100))), (1, .int (nI i0)), (2, .int (v0))]) hx hb dX12_set_33 rfl hl (by decide) rfl (fun ls hl => ?_)
      refine lv_aload_n hx hb dX12_set_34 rfl (lv_at hl 1 rfl) ?_
      refine g_r 5 (k2 := 106) C hw (hM.m rfl) rfl fl_X12_25 rfl (hM.p 5 rfl) dX12_set_35 ?_
      refine lv_iload_n hx hb dX12_set_38 rfl (lv_at hl 2 rfl) ?_
      refine lv_iload_n hx hb dX12_set_39 rfl (lv_at hl 3 rfl) ?_
      refine t_i i0 C hw (hM.m rfl) rfl rfl (show _ < 6 by omega) dX12_set_40 (fun H locs hw => ?_)
      refine lv_iload_n hx hb dX12_set_41 rfl (lv_at hl 0 rfl) ?_
      exact r_i C hr hlk hw ⟨(by simp [sp_set, st_set, hz0, h_3, h_18]), (by simp [sp_set, st_set, hz0, h_3, h_18])⟩ dX12_set_42
    · have hw := hq_18
      refine W.eq (g2 := F0 m 21 ls [.int (0)]) rfl ?_
      refine lv_if_ne (tgt := 27) hx hb dX12_set_21 (by decide) (fun h9 => False.elim (by revert h9; decide)) (fun _ => ?_)
      refine lv_bipush (v := -3) hx hb dX12_set_24 (by decide) ?_
      exact r_i C hr hlk hw ⟨(by simp [sp_set, st_set, h_3, h_18]), (by simp [sp_set, st_set, h_3, h_18])⟩ dX12_set_26
  · have hw := hq_3
    refine W.eq (g2 := F0 m 6 ls [.int (0)]) rfl ?_
    refine lv_if_eq (tgt := 24) hx hb dX12_set_6 (by decide) (fun _ => ?_) (fun h9 => False.elim (by revert h9; decide))
    refine lv_bipush (v := -3) hx hb dX12_set_24 (by decide) ?_
    exact r_i C hr hlk hw ⟨(by simp [sp_set, st_set, h_3]), (by simp [sp_set, st_set, h_3])⟩ dX12_set_26

set_option maxHeartbeats 4000000 in
set_option maxRecDepth 100000 in
theorem c_X12_puller (E : cE) (tt : Nat × Nat × Nat) {X : List Nat} (B : Nat → Nat) (F : tF) (G : tG) {P : tP} (hM : RM X P) (m0 f0 v0 : Int32)  : CT E tt yX12_puller cX12_puller 4 (some .int) 2 0 0 [.ref (B (100)), .int (m0), .int (f0), .int (v0)] (wl E X B F G P) (fun r w => r = some (.int (sp_puller m0 f0 v0)) ∧ w = wl E X B (st_puller F m0 f0 v0) G P) := by
  refine CT.mk (by decide +kernel) (Nat.le_of_ble_eq_true rfl) ?_
  intro l p e s m below meth c A ls C hr hlk hnm hw hl
  have hx := C.1
  have hb := C.2.1
  have hts := C.2.2.2.2
  have hown : s.vm.findClass RX12 = some m.cls := C.2.2.2.1
  have hl : lv_has ls 4 [(0, .ref (B (100))), (1, .int (m0)), (2, .int (f0)), (3, .int (v0))] := hl
  refine lv_iload_n hx hb dX12_puller_0 rfl (lv_at hl 1 rfl) ?_
  refine kS C hw (c_X12_isPuller E tt _ (m0)) vy_X12_isPuller ml_X12_142 rfl hl.1 (rest := []) rfl dX12_puller_1 (Nat.le_of_ble_eq_true rfl) ⟨by decide, by decide⟩ ⟨Nat.le_of_ble_eq_true rfl, Nat.le_of_ble_eq_true rfl⟩ (fun v_1 ws_1 H locs hp_1 hq_1 => ?_)
  clear hw
  rcases hp_1 with ⟨h_1, rfl, rfl⟩ | ⟨h_1, rfl, rfl⟩
  · have hw := hq_1
    refine W.eq (g2 := F0 m 4 ls [.int (1)]) rfl ?_
    obtain ⟨i_1, hl_1, rfl⟩ := n_of (n := 2) h_1.1 h_1.2 (by decide)
    have hz_1 := i4_cl (i := i_1) (by omega)
    refine lv_if_ne (tgt := 10) hx hb dX12_puller_4 (by decide) (fun _ => ?_) (fun h9 => False.elim (by revert h9; decide))
    refine lv_iload_n hx hb dX12_puller_10 rfl (lv_at hl 2 rfl) ?_
    refine lv_iconst (v := 0) hx hb dX12_puller_11 (by decide) ?_
    refine lv_ldc (v := 100000000) hx hb hown (hts _ kc_X12_145) dX12_puller_12 ?_
    refine kS C hw (c_X12_within E tt _ (f0) (0) (100000000)) vy_X12_within ml_X12_123 rfl hl.1 (rest := []) rfl dX12_puller_14 (Nat.le_of_ble_eq_true rfl) ⟨by decide, by decide⟩ ⟨Nat.le_of_ble_eq_true rfl, Nat.le_of_ble_eq_true rfl⟩ (fun v_14 ws_14 H locs hp_14 hq_14 => ?_)
    clear hw
    rcases hp_14 with ⟨h_14, rfl, rfl⟩ | ⟨h_14, rfl, rfl⟩
    · have hw := hq_14
      refine W.eq (g2 := F0 m 17 ls [.int (1)]) rfl ?_
      refine lv_if_eq (tgt := 32) hx hb dX12_puller_17 (by decide) (fun h9 => False.elim (by revert h9; decide)) (fun _ => ?_)
      refine lv_iload_n hx hb dX12_puller_20 rfl (lv_at hl 3 rfl) ?_
      refine lv_bipush (v := 10) hx hb dX12_puller_21 (by decide) ?_
      refine lv_sipush (v := 1000) hx hb dX12_puller_23 (by decide) ?_
      refine kS C hw (c_X12_within E tt _ (v0) (10) (1000)) vy_X12_within ml_X12_123 rfl hl.1 (rest := []) rfl dX12_puller_26 (Nat.le_of_ble_eq_true rfl) ⟨by decide, by decide⟩ ⟨Nat.le_of_ble_eq_true rfl, Nat.le_of_ble_eq_true rfl⟩ (fun v_26 ws_26 H locs hp_26 hq_26 => ?_)
      clear hw
      rcases hp_26 with ⟨h_26, rfl, rfl⟩ | ⟨h_26, rfl, rfl⟩
      · have hw := hq_26
        refine W.eq (g2 := F0 m 29 ls [.int (1)]) rfl ?_
        refine lv_if_ne (tgt := 35) hx hb dX12_puller_29 (by decide) (fun _ => ?_) (fun h9 => False.elim (by revert h9; decide))
        refine lv_aload_n hx hb dX12_puller_35 rfl (lv_at hl 0 rfl) ?_
        refine g_r 6 (k2 := 107) C hw (hM.m rfl) rfl fl_X12_28 rfl (hM.p 6 rfl) dX12_puller_36 ?_
        refine lv_iload_n hx hb dX12_puller_39 rfl (lv_at hl 1 rfl) ?_
        refine lv_iload_n hx hb dX12_puller_40 rfl (lv_at hl 2 rfl) ?_
        refine t_i i_1 C hw (hM.m rfl) rfl rfl (show _ < 3 by omega) dX12_puller_41 (fun H locs hw => ?_)
        refine lv_aload_n hx hb dX12_puller_42 rfl (lv_at hl 0 rfl) ?_
        refine g_r 7 (k2 := 108) C hw (hM.m rfl) rfl fl_X12_31 rfl (hM.p 7 rfl) dX12_puller_43 ?_
        refine lv_iload_n hx hb dX12_puller_46 rfl (lv_at hl 1 rfl) ?_
        refine lv_iload_n hx hb dX12_puller_47 rfl (lv_at hl 3 rfl) ?_
        refine t_i i_1 C hw (hM.m rfl) rfl rfl (show _ < 3 by omega) dX12_puller_48 (fun H locs hw => ?_)
        refine lv_iconst (v := 1) hx hb dX12_puller_49 (by decide) ?_
        exact r_i C hr hlk hw ⟨(by simp [sp_puller, st_puller, hz_1, h_1, h_14, h_26]), (by simp [sp_puller, st_puller, hz_1, h_1, h_14, h_26])⟩ dX12_puller_50
      · have hw := hq_26
        refine W.eq (g2 := F0 m 29 ls [.int (0)]) rfl ?_
        refine lv_if_ne (tgt := 35) hx hb dX12_puller_29 (by decide) (fun h9 => False.elim (by revert h9; decide)) (fun _ => ?_)
        refine lv_bipush (v := -3) hx hb dX12_puller_32 (by decide) ?_
        exact r_i C hr hlk hw ⟨(by simp [sp_puller, st_puller, h_1, h_14, h_26]), (by simp [sp_puller, st_puller, h_1, h_14, h_26])⟩ dX12_puller_34
    · have hw := hq_14
      refine W.eq (g2 := F0 m 17 ls [.int (0)]) rfl ?_
      refine lv_if_eq (tgt := 32) hx hb dX12_puller_17 (by decide) (fun _ => ?_) (fun h9 => False.elim (by revert h9; decide))
      refine lv_bipush (v := -3) hx hb dX12_puller_32 (by decide) ?_
      exact r_i C hr hlk hw ⟨(by simp [sp_puller, st_puller, h_1, h_14]), (by simp [sp_puller, st_puller, h_1, h_14])⟩ dX12_puller_34
  · have hw := hq_1
    refine W.eq (g2 := F0 m 4 ls [.int (0)]) rfl ?_
    refine lv_if_ne (tgt := 10) hx hb dX12_puller_4 (by decide) (fun h9 => False.elim (by revert h9; decide)) (fun _ => ?_)
    refine lv_bipush (v := -2) hx hb dX12_puller_7 (by decide) ?_
    exact r_i C hr hlk hw ⟨(by simp [sp_puller, st_puller, h_1]), (by simp [sp_puller, st_puller, h_1])⟩ dX12_puller_9

set_option maxHeartbeats 4000000 in
set_option maxRecDepth 100000 in
theorem c_X12_hole (E : cE) (tt : Nat × Nat × Nat) {X : List Nat} (B : Nat → Nat) (F : tF) (G : tG) {P : tP} (hM : RM X P) (nh : Nat → Nat) (hN : HN F nh) (p0 n0 : Int32)  : CT E tt yX12_hole cX12_hole 4 (some .int) 2 0 0 [.ref (B (100)), .int (p0), .int (n0)] (wl E X B F G P) (fun r w => r = some (.int (sp_hole nh p0 n0)) ∧ w = wl E X B (st_hole F nh p0 n0) G P) := by
  refine CT.mk (by decide +kernel) (Nat.le_of_ble_eq_true rfl) ?_
  intro l p e s m below meth c A ls C hr hlk hnm hw hl
  have hx := C.1
  have hb := C.2.1
  have hts := C.2.2.2.2
  have hown : s.vm.findClass RX12 = some m.cls := C.2.2.2.1
  have hl : lv_has ls 4 [(0, .ref (B (100))), (1, .int (p0)), (2, .int (n0))] := hl
  refine lv_iload_n hx hb dX12_hole_0 rfl (lv_at hl 1 rfl) ?_
  refine lv_iconst (v := 0) hx hb dX12_hole_1 (by decide) ?_
  refine lv_iconst (v := 3) hx hb dX12_hole_2 (by decide) ?_
  refine kS C hw (c_X12_within E tt _ (p0) (0) (3)) vy_X12_within ml_X12_123 rfl hl.1 (rest := []) rfl dX12_hole_3 (Nat.le_of_ble_eq_true rfl) ⟨by decide, by decide⟩ ⟨Nat.le_of_ble_eq_true rfl, Nat.le_of_ble_eq_true rfl⟩ (fun v_3 ws_3 H locs hp_3 hq_3 => ?_)
  clear hw
  rcases hp_3 with ⟨h_3, rfl, rfl⟩ | ⟨h_3, rfl, rfl⟩
  · have hw := hq_3
    refine W.eq (g2 := F0 m 6 ls [.int (1)]) rfl ?_
    refine lv_if_ne (tgt := 12) hx hb dX12_hole_6 (by decide) (fun _ => ?_) (fun h9 => False.elim (by revert h9; decide))
    refine lv_iload_n hx hb dX12_hole_12 rfl (lv_at hl 2 rfl) ?_
    refine kS C hw (c_X12_isSize E tt _ (n0)) vy_X12_isSize ml_X12_146 rfl hl.1 (rest := []) rfl dX12_hole_13 (Nat.le_of_ble_eq_true rfl) ⟨by decide, by decide⟩ ⟨Nat.le_of_ble_eq_true rfl, Nat.le_of_ble_eq_true rfl⟩ (fun v_13 ws_13 H locs hp_13 hq_13 => ?_)
    clear hw
    rcases hp_13 with ⟨h_13, rfl, rfl⟩ | ⟨h_13, rfl, rfl⟩
    · have hw := hq_13
      refine W.eq (g2 := F0 m 16 ls [.int (1)]) rfl ?_
      refine lv_if_ne (tgt := 22) hx hb dX12_hole_16 (by decide) (fun _ => ?_) (fun h9 => False.elim (by revert h9; decide))
      obtain ⟨i0, hi0, rfl⟩ := n_of (n := 3) h_3.1 h_3.2 (by decide)
      have hz0 := i4_cl (i := i0) (by omega)
      obtain ⟨hn1, hn2⟩ := hN i0 (by omega)
      refine lv_aload_n hx hb dX12_hole_22 rfl (lv_at hl 0 rfl) ?_
      refine g_r 9 (k2 := 110) C hw (hM.m rfl) rfl fl_X12_37 rfl (hM.p 9 rfl) dX12_hole_23 ?_
      refine lv_iload_n hx hb dX12_hole_26 rfl (lv_at hl 1 rfl) ?_
      refine n_i i0 C hw (hM.m rfl) rfl rfl (show _ < 4 by omega) dX12_hole_27 ?_
      refine tp_i (y := nI (nh i0)) (hn1) ?_
      refine lv_bipush (v := 8) hx hb dX12_hole_28 (by decide) ?_
      refine lv_icmp_ne (tgt := 36) hx hb dX12_hole_30 (by decide) (fun c_30 => ?_) (fun c_30 => ?_)
      · have hn3 : nh i0 ≠ 8 := fun h9 => c_30 (by rw [h9]; rfl)
        refine lv_bipush (v := 8) hx hb dX12_hole_36 (by decide) ?_
        refine lv_iload_n hx hb dX12_hole_38 rfl (lv_at hl 1 rfl) ?_
        refine lv_imul hx hb dX12_hole_39 ?_
        refine lv_aload_n hx hb dX12_hole_40 rfl (lv_at hl 0 rfl) ?_
        refine g_r 9 (k2 := 110) C hw (hM.m rfl) rfl fl_X12_37 rfl (hM.p 9 rfl) dX12_hole_41 ?_
        refine lv_iload_n hx hb dX12_hole_44 rfl (lv_at hl 1 rfl) ?_
        refine n_i i0 C hw (hM.m rfl) rfl rfl (show _ < 4 by omega) dX12_hole_45 ?_
        refine tp_i (y := nI (nh i0)) (hn1) ?_
        refine lv_iadd hx hb dX12_hole_46 ?_
        refine tp_i (y := nI (8 * i0 + nh i0)) (at8 _ _) ?_
        refine lv_istore_n (lv' := [(3, .int (nI (8 * i0 + nh i0))), (0, .ref (B (100))), (1, .int (nI i0)), (2, .int (n0))]) hx hb dX12_hole_47 rfl hl (by decide) rfl (fun ls hl => ?_)
        refine lv_aload_n hx hb dX12_hole_48 rfl (lv_at hl 1 rfl) ?_
        refine g_r 10 (k2 := 111) C hw (hM.m rfl) rfl fl_X12_40 rfl (hM.p 10 rfl) dX12_hole_49 ?_
        refine lv_iload_n hx hb dX12_hole_52 rfl (lv_at hl 0 rfl) ?_
        refine lv_iload_n hx hb dX12_hole_53 rfl (lv_at hl 3 rfl) ?_
        refine t_i (8 * i0 + nh i0) C hw (hM.m rfl) rfl rfl (show _ < 32 by omega) dX12_hole_54 (fun H locs hw => ?_)
        refine lv_aload_n hx hb dX12_hole_55 rfl (lv_at hl 1 rfl) ?_
        refine g_r 11 (k2 := 112) C hw (hM.m rfl) rfl fl_X12_43 rfl (hM.p 11 rfl) dX12_hole_56 ?_
        refine lv_iload_n hx hb dX12_hole_59 rfl (lv_at hl 0 rfl) ?_
        refine lv_iconst (v := 0) hx hb dX12_hole_60 (by decide) ?_
        refine t_i (8 * i0 + nh i0) C hw (hM.m rfl) rfl rfl (show _ < 32 by omega) dX12_hole_61 (fun H locs hw => ?_)
        refine lv_aload_n hx hb dX12_hole_62 rfl (lv_at hl 1 rfl) ?_
        refine g_r 12 (k2 := 113) C hw (hM.m rfl) rfl fl_X12_46 rfl (hM.p 12 rfl) dX12_hole_63 ?_
        refine lv_iload_n hx hb dX12_hole_66 rfl (lv_at hl 0 rfl) ?_
        refine lv_iconst (v := 0) hx hb dX12_hole_67 (by decide) ?_
        refine t_i (8 * i0 + nh i0) C hw (hM.m rfl) rfl rfl (show _ < 32 by omega) dX12_hole_68 (fun H locs hw => ?_)
        refine lv_aload_n hx hb dX12_hole_69 rfl (lv_at hl 1 rfl) ?_
        refine g_r 9 (k2 := 110) C hw (hM.m rfl) rfl fl_X12_37 rfl (hM.p 9 rfl) dX12_hole_70 ?_
        refine lv_iload_n hx hb dX12_hole_73 rfl (lv_at hl 2 rfl) ?_
        refine lv_dup2_11 hx hb dX12_hole_74 rfl rfl ?_
        refine n_i i0 C hw (hM.m rfl) rfl rfl (show _ < 4 by omega) dX12_hole_75 ?_
        refine tp_i (y := F 110 i0) ((uF_n _ _ (Or.inl (by decide))).trans ((uF_n _ _ (Or.inl (by decide))).trans ((uF_n _ _ (Or.inl (by decide))).trans (rfl)))) ?_
        refine tp_i (y := nI (nh i0)) (hn1) ?_
        refine lv_iconst (v := 1) hx hb dX12_hole_76 (by decide) ?_
        refine lv_iadd hx hb dX12_hole_77 ?_
        refine tp_i (y := nI (nh i0 + 1)) (nI_1 _) ?_
        refine t_i i0 C hw (hM.m rfl) rfl rfl (show _ < 4 by omega) dX12_hole_78 (fun H locs hw => ?_)
        refine lv_aload_n hx hb dX12_hole_79 rfl (lv_at hl 1 rfl) ?_
        refine g_r 9 (k2 := 110) C hw (hM.m rfl) rfl fl_X12_37 rfl (hM.p 9 rfl) dX12_hole_80 ?_
        refine lv_iload_n hx hb dX12_hole_83 rfl (lv_at hl 2 rfl) ?_
        refine n_i i0 C hw (hM.m rfl) rfl rfl (show _ < 4 by omega) dX12_hole_84 ?_
        refine tp_i (y := nI (nh i0 + 1)) (uF_s _ _ _ _) ?_
        refine lv_iconst (v := 1) hx hb dX12_hole_85 (by decide) ?_
        refine lv_isub hx hb dX12_hole_86 ?_
        refine tp_i (y := nI (nh i0)) (nI_pred _) ?_
        exact r_i C hr hlk hw ⟨(by simp [sp_hole, st_hole, hz0, hn3, h_3, h_13, c_30]), (by simp [sp_hole, st_hole, hz0, hn3, h_3, h_13, c_30])⟩ dX12_hole_87
      · have hn3 : nh i0 = 8 := (nI_eq (by omega) (by decide)).mp c_30
        refine lv_bipush (v := -8) hx hb dX12_hole_33 (by decide) ?_
        exact r_i C hr hlk hw ⟨(by simp [sp_hole, st_hole, hz0, hn3, h_3, h_13, c_30]), (by simp [sp_hole, st_hole, hz0, hn3, h_3, h_13, c_30])⟩ dX12_hole_35
    · have hw := hq_13
      refine W.eq (g2 := F0 m 16 ls [.int (0)]) rfl ?_
      refine lv_if_ne (tgt := 22) hx hb dX12_hole_16 (by decide) (fun h9 => False.elim (by revert h9; decide)) (fun _ => ?_)
      refine lv_bipush (v := -3) hx hb dX12_hole_19 (by decide) ?_
      exact r_i C hr hlk hw ⟨(by simp [sp_hole, st_hole, h_3, h_13]), (by simp [sp_hole, st_hole, h_3, h_13])⟩ dX12_hole_21
  · have hw := hq_3
    refine W.eq (g2 := F0 m 6 ls [.int (0)]) rfl ?_
    refine lv_if_ne (tgt := 12) hx hb dX12_hole_6 (by decide) (fun h9 => False.elim (by revert h9; decide)) (fun _ => ?_)
    refine lv_bipush (v := -2) hx hb dX12_hole_9 (by decide) ?_
    exact r_i C hr hlk hw ⟨(by simp [sp_hole, st_hole, h_3]), (by simp [sp_hole, st_hole, h_3])⟩ dX12_hole_11

set_option maxHeartbeats 4000000 in
set_option maxRecDepth 100000 in
theorem c_X12_wide (E : cE) (tt : Nat × Nat × Nat) {X : List Nat} (B : Nat → Nat) (F : tF) (G : tG) {P : tP} (hM : RM X P) {q : Nat} (hq : q < 32)  : CT E tt yX12_wide cX12_wide 2 (some .int) 0 0 0 [.ref (B (100)), .int (nI q)] (wl E X B F G P) (fun r w => r = some (.int (w_wide F q)) ∧ w = (wl E X B F G P)) := by
  refine CT.mk (by decide +kernel) (Nat.le_of_ble_eq_true rfl) ?_
  intro l p e s m below meth c A ls C hr hlk hnm hw hl
  have hx := C.1
  have hb := C.2.1
  have hts := C.2.2.2.2
  have hown : s.vm.findClass RX12 = some m.cls := C.2.2.2.1
  have hl : lv_has ls 2 [(0, .ref (B (100))), (1, .int (nI q))] := hl
  refine lv_aload_n hx hb dX12_wide_0 rfl (lv_at hl 0 rfl) ?_
  refine g_r 10 (k2 := 111) C hw (hM.m rfl) rfl fl_X12_40 rfl (hM.p 10 rfl) dX12_wide_1 ?_
  refine lv_iload_n hx hb dX12_wide_4 rfl (lv_at hl 1 rfl) ?_
  refine n_i q C hw (hM.m rfl) rfl rfl (show _ < 32 by omega) dX12_wide_5 ?_
  refine lv_aload_n hx hb dX12_wide_6 rfl (lv_at hl 0 rfl) ?_
  refine g_r 11 (k2 := 112) C hw (hM.m rfl) rfl fl_X12_43 rfl (hM.p 11 rfl) dX12_wide_7 ?_
  refine lv_iload_n hx hb dX12_wide_10 rfl (lv_at hl 1 rfl) ?_
  refine n_i q C hw (hM.m rfl) rfl rfl (show _ < 32 by omega) dX12_wide_11 ?_
  refine lv_sipush (v := 1000) hx hb dX12_wide_12 (by decide) ?_
  refine lv_idiv hx hb dX12_wide_15 (by decide) ?_
  refine lv_iadd hx hb dX12_wide_16 ?_
  exact r_i C hr hlk hw ⟨rfl, rfl⟩ dX12_wide_17

set_option maxHeartbeats 4000000 in
set_option maxRecDepth 100000 in
theorem c_X12_isSpent (E : cE) (tt : Nat × Nat × Nat) {X : List Nat} (B : Nat → Nat) (F : tF) (G : tG) {P : tP} (hM : RM X P) {q : Nat} (hq : q < 32)  : CT E tt yX12_isSpent cX12_isSpent 2 (some .boolean) 1 0 0 [.ref (B (100)), .int (nI q)] (wl E X B F G P) (fun r w => ((F 111 q + 50 < w_wide F q) ∧ r = some (.int 1) ∧ w = (wl E X B F G P)) ∨ (¬ (F 111 q + 50 < w_wide F q) ∧ r = some (.int 0) ∧ w = (wl E X B F G P))) := by
  refine CT.mk (by decide +kernel) (Nat.le_of_ble_eq_true rfl) ?_
  intro l p e s m below meth c A ls C hr hlk hnm hw hl
  have hx := C.1
  have hb := C.2.1
  have hts := C.2.2.2.2
  have hown : s.vm.findClass RX12 = some m.cls := C.2.2.2.1
  have hl : lv_has ls 2 [(0, .ref (B (100))), (1, .int (nI q))] := hl
  refine lv_aload_n hx hb dX12_isSpent_0 rfl (lv_at hl 0 rfl) ?_
  refine lv_iload_n hx hb dX12_isSpent_1 rfl (lv_at hl 1 rfl) ?_
  refine kV C hw (c_X12_wide E tt B F G hM (q := q) (by omega)) vy_X12_wide ml_X12_149 (rcv hw (hM.m rfl) rfl (by decide) (q2 := (RX12, TX12, 49)) rfl) rfl hl.1 (rest := []) rfl dX12_isSpent_2 (Nat.le_of_ble_eq_true rfl) ⟨by decide, by decide⟩ ⟨Nat.le_of_ble_eq_true rfl, Nat.le_of_ble_eq_true rfl⟩ (fun v_2 ws_2 H locs hp_2 hq_2 => ?_)
  clear hw
  obtain ⟨rfl, rfl⟩ := hp_2
  have hw := hq_2
  refine W.eq (g2 := F0 m 5 ls [.int (w_wide F (q))]) rfl ?_
  refine lv_aload_n hx hb dX12_isSpent_5 rfl (lv_at hl 0 rfl) ?_
  refine g_r 10 (k2 := 111) C hw (hM.m rfl) rfl fl_X12_40 rfl (hM.p 10 rfl) dX12_isSpent_6 ?_
  refine lv_iload_n hx hb dX12_isSpent_9 rfl (lv_at hl 1 rfl) ?_
  refine n_i q C hw (hM.m rfl) rfl rfl (show _ < 32 by omega) dX12_isSpent_10 ?_
  refine lv_bipush (v := 50) hx hb dX12_isSpent_11 (by decide) ?_
  refine lv_iadd hx hb dX12_isSpent_13 ?_
  refine lv_icmp_le (tgt := 21) hx hb dX12_isSpent_14 (by decide) (fun c_14 => ?_) (fun c_14 => ?_)
  · refine lv_iconst (v := 0) hx hb dX12_isSpent_21 (by decide) ?_
    exact r_z C hr hlk hw rfl (Or.inr ⟨by rw [Int32.not_lt]; exact c_14, rfl, rfl⟩) dX12_isSpent_22
  · refine lv_iconst (v := 1) hx hb dX12_isSpent_17 (by decide) ?_
    refine lv_goto (tgt := 22) hx hb dX12_isSpent_18 (by decide) ?_
    exact r_z C hr hlk hw rfl (Or.inl ⟨by rw [Int32.not_le] at c_14; exact c_14, rfl, rfl⟩) dX12_isSpent_22

set_option maxHeartbeats 4000000 in
set_option maxRecDepth 100000 in
theorem c_X12_isHole (E : cE) (tt : Nat × Nat × Nat) {X : List Nat} (B : Nat → Nat) (F : tF) (G : tG) {P : tP} (hM : RM X P) (nh : Nat → Nat) (hN : HN F nh) (p0 h0 : Int32)  : CT E tt yX12_isHole cX12_isHole 3 (some .boolean) 1 0 0 [.ref (B (100)), .int (p0), .int (h0)] (wl E X B F G P) (fun r w => ((ok_hole nh p0 h0 = true) ∧ r = some (.int 1) ∧ w = (wl E X B F G P)) ∨ (¬ (ok_hole nh p0 h0 = true) ∧ r = some (.int 0) ∧ w = (wl E X B F G P))) := by
  refine CT.mk (by decide +kernel) (Nat.le_of_ble_eq_true rfl) ?_
  intro l p e s m below meth c A ls C hr hlk hnm hw hl
  have hx := C.1
  have hb := C.2.1
  have hts := C.2.2.2.2
  have hown : s.vm.findClass RX12 = some m.cls := C.2.2.2.1
  have hl : lv_has ls 3 [(0, .ref (B (100))), (1, .int (p0)), (2, .int (h0))] := hl
  refine lv_iload_n hx hb dX12_isHole_0 rfl (lv_at hl 1 rfl) ?_
  refine lv_iconst (v := 0) hx hb dX12_isHole_1 (by decide) ?_
  refine lv_iconst (v := 3) hx hb dX12_isHole_2 (by decide) ?_
  refine kS C hw (c_X12_within E tt _ (p0) (0) (3)) vy_X12_within ml_X12_123 rfl hl.1 (rest := []) rfl dX12_isHole_3 (Nat.le_of_ble_eq_true rfl) ⟨by decide, by decide⟩ ⟨Nat.le_of_ble_eq_true rfl, Nat.le_of_ble_eq_true rfl⟩ (fun v_3 ws_3 H locs hp_3 hq_3 => ?_)
  clear hw
  rcases hp_3 with ⟨h_3, rfl, rfl⟩ | ⟨h_3, rfl, rfl⟩
  · have hw := hq_3
    refine W.eq (g2 := F0 m 6 ls [.int (1)]) rfl ?_
    refine lv_if_eq (tgt := 29) hx hb dX12_isHole_6 (by decide) (fun h9 => False.elim (by revert h9; decide)) (fun _ => ?_)
    obtain ⟨i0, hi0, rfl⟩ := n_of (n := 3) h_3.1 h_3.2 (by decide)
    have hz0 := i4_cl (i := i0) (by omega)
    obtain ⟨hn1, hn2⟩ := hN i0 (by omega)
    refine lv_iload_n hx hb dX12_isHole_9 rfl (lv_at hl 2 rfl) ?_
    refine lv_iconst (v := 0) hx hb dX12_isHole_10 (by decide) ?_
    refine lv_aload_n hx hb dX12_isHole_11 rfl (lv_at hl 0 rfl) ?_
    refine g_r 9 (k2 := 110) C hw (hM.m rfl) rfl fl_X12_37 rfl (hM.p 9 rfl) dX12_isHole_12 ?_
    refine lv_iload_n hx hb dX12_isHole_15 rfl (lv_at hl 1 rfl) ?_
    refine n_i i0 C hw (hM.m rfl) rfl rfl (show _ < 4 by omega) dX12_isHole_16 ?_
    refine tp_i (y := nI (nh i0)) (hn1) ?_
    refine lv_iconst (v := 1) hx hb dX12_isHole_17 (by decide) ?_
    refine lv_isub hx hb dX12_isHole_18 ?_
    refine kS C hw (c_X12_within E tt _ (h0) (0) ((nI (nh i0) - 1))) vy_X12_within ml_X12_123 rfl hl.1 (rest := []) rfl dX12_isHole_19 (Nat.le_of_ble_eq_true rfl) ⟨by decide, by decide⟩ ⟨Nat.le_of_ble_eq_true rfl, Nat.le_of_ble_eq_true rfl⟩ (fun v_19 ws_19 H locs hp_19 hq_19 => ?_)
    clear hw
    rcases hp_19 with ⟨h_19, rfl, rfl⟩ | ⟨h_19, rfl, rfl⟩
    · have hw := hq_19
      refine W.eq (g2 := F0 m 22 ls [.int (1)]) rfl ?_
      refine lv_if_eq (tgt := 29) hx hb dX12_isHole_22 (by decide) (fun h9 => False.elim (by revert h9; decide)) (fun _ => ?_)
      refine lv_iconst (v := 1) hx hb dX12_isHole_25 (by decide) ?_
      refine lv_goto (tgt := 30) hx hb dX12_isHole_26 (by decide) ?_
      exact r_z C hr hlk hw rfl (Or.inl ⟨ok_hole_i.mpr ⟨h_3, by rw [hz0]; exact ⟨h_19.1, (le_pred (by omega) _).mp h_19.2⟩⟩, rfl, rfl⟩) dX12_isHole_30
    · have hw := hq_19
      refine W.eq (g2 := F0 m 22 ls [.int (0)]) rfl ?_
      refine lv_if_eq (tgt := 29) hx hb dX12_isHole_22 (by decide) (fun _ => ?_) (fun h9 => False.elim (by revert h9; decide))
      refine lv_iconst (v := 0) hx hb dX12_isHole_29 (by decide) ?_
      exact r_z C hr hlk hw rfl (Or.inr ⟨fun h9 => h_19 ⟨(ok_hole_i.mp h9).2.1, (le_pred (by omega) _).mpr (by have := (ok_hole_i.mp h9).2.2; rwa [hz0] at this)⟩, rfl, rfl⟩) dX12_isHole_30
  · have hw := hq_3
    refine W.eq (g2 := F0 m 6 ls [.int (0)]) rfl ?_
    refine lv_if_eq (tgt := 29) hx hb dX12_isHole_6 (by decide) (fun _ => ?_) (fun h9 => False.elim (by revert h9; decide))
    refine lv_iconst (v := 0) hx hb dX12_isHole_29 (by decide) ?_
    exact r_z C hr hlk hw rfl (Or.inr ⟨fun h9 => h_3 (ok_hole_i.mp h9).1, rfl, rfl⟩) dX12_isHole_30
