set_option maxHeartbeats 4000000 in
set_option maxRecDepth 100000 in
theorem c_X2_reckon (E : cE) (tt : Nat × Nat × Nat) {X : List Nat} (B : Nat → Nat) (F : tF) (G : tG) {P : tP} {nh : Nat → Nat} {nc no : Nat} {mt om : Nat → Nat} (hR : RC X P nh nc no mt om) {c1 : Nat} (hl_c1 : c1 < nc) (s0 h0 w0 : Int32) (hd : ¬ s0.toInt64 * s0.toInt64 = 0)  : CT E tt yX2_reckon cX2_reckon 14 none 1 0 0 [.ref (B (79)), .ref (B (53 + c1)), .int (s0), .int (h0), .int (w0)] (wl E X B F G P) (fun r w => r = none ∧ w = wl E X B (rkF F (vF F) (mt c1) (F (53 + c1) 4) s0 h0 w0) G P) := by
  refine CT.mk (by decide +kernel) (Nat.le_of_ble_eq_true rfl) ?_
  intro l p e s m below meth c A ls C hr hlk hnm hw hl
  have hx := C.1
  have hb := C.2.1
  have hts := C.2.2.2.2
  have hown : s.vm.findClass RX2 = some m.cls := C.2.2.2.1
  have hl : lv_has ls 14 [(0, .ref (B (79))), (1, .ref (B (53 + c1))), (2, .int (s0)), (3, .int (h0)), (4, .int (w0))] := hl
  have hn16 := hR.nc16
  have hm4 := hR.mt4 hl_c1
  have vm1 := vF_at (lc_m1 (i := mt c1) hm4) F
  have vm2 := vF_at (lc_m2 (i := mt c1) hm4) F
  have vm3 := vF_at (lc_m3 (i := mt c1) hm4) F
  have vs0 := vF_at (lc_set (j := 0) (by decide)) F
  have vs1 := vF_at (lc_set (j := 1) (by decide)) F
  refine lv_aload_n hx hb dX2_reckon_0 rfl (lv_at hl 1 rfl) ?_
  refine g_r 0 (k2 := 3 + mt c1) C hw (hR.xc (by omega)) (kd_coil (by omega)) fl_X2_15 rfl (hR.cm (by omega)) dX2_reckon_1 ?_
  refine lv_astore (lv' := [(5, .ref (B (3 + mt c1))), (0, .ref (B (79))), (1, .ref (B (53 + c1))), (2, .int (s0)), (3, .int (h0)), (4, .int (w0))]) hx hb dX2_reckon_4 hl (by decide) rfl (fun ls hl => ?_)
  refine lv_iload_n hx hb dX2_reckon_6 rfl (lv_at hl 3 rfl) ?_
  refine lv_i2l hx hb dX2_reckon_7 rfl ?_
  refine lv_iload_n hx hb dX2_reckon_8 rfl (lv_at hl 3 rfl) ?_
  refine lv_i2l hx hb dX2_reckon_9 rfl ?_
  refine lv_lmul hx hb dX2_reckon_10 ?_
  refine lv_lstore (lv' := [(6, .long (((s0 : Int32).toInt64 * (s0 : Int32).toInt64))), (5, .ref (B (3 + mt c1))), (0, .ref (B (79))), (1, .ref (B (53 + c1))), (2, .int (s0)), (3, .int (h0)), (4, .int (w0))]) hx hb dX2_reckon_11 hl (by decide) rfl (fun ls hl => ?_)
  refine lv_iload hx hb dX2_reckon_13 (lv_at hl 6 rfl) ?_
  refine lv_i2l hx hb dX2_reckon_15 rfl ?_
  refine lv_iload hx hb dX2_reckon_16 (lv_at hl 6 rfl) ?_
  refine lv_i2l hx hb dX2_reckon_18 rfl ?_
  refine lv_lmul hx hb dX2_reckon_19 ?_
  refine lv_lstore (lv' := [(8, .long (((w0 : Int32).toInt64 * (w0 : Int32).toInt64))), (6, .long (((s0 : Int32).toInt64 * (s0 : Int32).toInt64))), (5, .ref (B (3 + mt c1))), (0, .ref (B (79))), (1, .ref (B (53 + c1))), (2, .int (s0)), (3, .int (h0)), (4, .int (w0))]) hx hb dX2_reckon_20 hl (by decide) rfl (fun ls hl => ?_)
  refine lv_aload_n hx hb dX2_reckon_22 rfl (lv_at hl 3 rfl) ?_
  refine lv_sipush (v := 1000) hx hb dX2_reckon_23 (by decide) ?_
  refine lv_ldc2 (v := 1000) hx hb hown (hts _ kc_X2_21) dX2_reckon_26 ?_
  refine lv_lload hx hb dX2_reckon_29 (lv_at hl 0 rfl) ?_
  refine lv_lmul hx hb dX2_reckon_31 ?_
  refine lv_lload hx hb dX2_reckon_32 (lv_at hl 1 rfl) ?_
  refine kSN C hw (c_X11_quotient E tt _ ((1000 * ((w0 : Int32).toInt64 * (w0 : Int32).toInt64))) (((s0 : Int32).toInt64 * (s0 : Int32).toInt64))) vy_X11_quotient ml_X2_23 rfl hl.1 (rest := [.int (1000), .ref (B (79))]) rfl dX2_reckon_34 (Nat.le_of_ble_eq_true rfl) ⟨by decide, by decide⟩ ⟨Nat.le_of_ble_eq_true rfl, Nat.le_of_ble_eq_true rfl⟩ (fun v_34 ws_34 H locs hp_34 hq_34 => ?_)
  clear hw
  obtain ⟨rfl, rfl⟩ := hp_34
  have hw := hq_34
  refine W.eq (g2 := F0 m 37 ls [.long (w_quo ((1000 * ((w0 : Int32).toInt64 * (w0 : Int32).toInt64))) (((s0 : Int32).toInt64 * (s0 : Int32).toInt64))), .int (1000), .ref (B (79))]) rfl ?_
  refine lv_l2i hx hb dX2_reckon_37 rfl ?_
  refine lv_isub hx hb dX2_reckon_38 ?_
  refine tp_i (y := w_thin s0 w0) (by rw [w_thin, w_quo, if_neg hd, Int64.mul_assoc]) ?_
  refine p_i 1 C hw (hR.f rfl) rfl fl_X2_27 fc_2 fn_2_1 (fun h9 => by cases h9) rfl rfl rfl dX2_reckon_39 (fun H locs hw => ?_)
  refine lv_aload_n hx hb dX2_reckon_42 rfl (lv_at hl 3 rfl) ?_
  refine lv_iload_n hx hb dX2_reckon_43 rfl (lv_at hl 6 rfl) ?_
  refine lv_aload hx hb dX2_reckon_44 (lv_at hl 2 rfl) ?_
  refine g_i 2 C hw (hR.xm (by omega)) (kd_metal (by omega)) fl_X2_31 rfl dX2_reckon_46 ?_
  refine tp_i (y := F (3 + mt c1) 2) ((uF_n _ _ (Or.inl (by omega))).trans (rfl)) ?_
  refine lv_aload_n hx hb dX2_reckon_49 rfl (lv_at hl 3 rfl) ?_
  refine g_i 1 C hw (hR.f rfl) rfl fl_X2_27 rfl dX2_reckon_50 ?_
  refine tp_i (y := w_thin s0 w0) (uF_s _ _ _ _) ?_
  refine lv_imul hx hb dX2_reckon_53 ?_
  refine lv_sipush (v := 1000) hx hb dX2_reckon_54 (by decide) ?_
  refine lv_idiv hx hb dX2_reckon_57 (by decide) ?_
  refine lv_iadd hx hb dX2_reckon_58 ?_
  refine tp_i (y := w_hard (vF F) (mt c1) s0 h0 w0) (by rw [w_hard, vm2]) ?_
  refine p_i 2 C hw (hR.f rfl) rfl fl_X2_36 fc_2 fn_2_2 (fun h9 => by cases h9) rfl rfl rfl dX2_reckon_59 (fun H locs hw => ?_)
  refine lv_lload hx hb dX2_reckon_62 (lv_at hl 1 rfl) ?_
  refine lv_lload hx hb dX2_reckon_64 (lv_at hl 0 rfl) ?_
  refine lv_lsub hx hb dX2_reckon_66 ?_
  refine lv_aload hx hb dX2_reckon_67 (lv_at hl 2 rfl) ?_
  refine lv_iload_n hx hb dX2_reckon_69 rfl (lv_at hl 6 rfl) ?_
  refine kV C hw (c_X4_strength E tt B (uF (uF F 79 1 (w_thin s0 w0)) 79 2 (w_hard (vF F) (mt c1) s0 h0 w0)) G P (hR.xm (by omega)) (kd_metal (by omega)) (h0)) vy_X4_strength ml_X2_39 (rcv hw (hR.xm (by omega)) (kd_metal (by omega)) (by decide) (q2 := (RX4, TX4, 6)) rfl) rfl hl.1 (rest := [.long ((((s0 : Int32).toInt64 * (s0 : Int32).toInt64) - ((w0 : Int32).toInt64 * (w0 : Int32).toInt64)))]) rfl dX2_reckon_70 (Nat.le_of_ble_eq_true rfl) ⟨by decide, by decide⟩ ⟨Nat.le_of_ble_eq_true rfl, Nat.le_of_ble_eq_true rfl⟩ (fun v_70 ws_70 H locs hp_70 hq_70 => ?_)
  clear hw
  obtain ⟨rfl, rfl⟩ := hp_70
  have hw := hq_70
  refine W.eq (g2 := F0 m 73 ls [.long (((uF (uF F 79 1 (w_thin s0 w0)) 79 2 (w_hard (vF F) (mt c1) s0 h0 w0)) (3 + mt c1) 1).toInt64 * (100 + h0 : Int32).toInt64), .long ((((s0 : Int32).toInt64 * (s0 : Int32).toInt64) - ((w0 : Int32).toInt64 * (w0 : Int32).toInt64)))]) rfl ?_
  refine tp_l (y := (F (3 + mt c1) 1).toInt64 * (100 + h0).toInt64) (by rw [uF_n _ _ (Or.inl (by omega)), uF_n _ _ (Or.inl (by omega))]) ?_
  refine lv_lmul hx hb dX2_reckon_73 ?_
  refine lv_ldc2 (v := 100) hx hb hown (hts _ kc_X2_43) dX2_reckon_74 ?_
  refine lv_ldiv hx hb dX2_reckon_77 (by decide) ?_
  refine tp_l (y := w_ask1 (vF F) (mt c1) s0 h0 w0) (by rw [w_ask1, vm1, ← Int64.mul_assoc]) ?_
  refine lv_lstore (lv' := [(10, .long (w_ask1 (vF F) (mt c1) s0 h0 w0)), (8, .long (((w0 : Int32).toInt64 * (w0 : Int32).toInt64))), (6, .long (((s0 : Int32).toInt64 * (s0 : Int32).toInt64))), (5, .ref (B (3 + mt c1))), (0, .ref (B (79))), (1, .ref (B (53 + c1))), (2, .int (s0)), (3, .int (h0)), (4, .int (w0))]) hx hb dX2_reckon_78 hl (by decide) rfl (fun ls hl => ?_)
  refine lv_aload_n hx hb dX2_reckon_80 rfl (lv_at hl 4 rfl) ?_
  refine lv_lload hx hb dX2_reckon_81 (lv_at hl 0 rfl) ?_
  refine lv_lload hx hb dX2_reckon_83 (lv_at hl 0 rfl) ?_
  refine lv_aload_n hx hb dX2_reckon_85 rfl (lv_at hl 4 rfl) ?_
  refine g_r 0 (k2 := 1) C hw (hR.f rfl) rfl fl_X2_9 rfl hR.q79 dX2_reckon_86 ?_
  refine g_i 0 C hw (hR.f rfl) rfl fl_X2_45 rfl dX2_reckon_89 ?_
  refine tp_i (y := F 1 0) ((uF_n _ _ (Or.inl (by decide))).trans ((uF_n _ _ (Or.inl (by decide))).trans (rfl))) ?_
  refine lv_i2l hx hb dX2_reckon_92 rfl ?_
  refine lv_lmul hx hb dX2_reckon_93 ?_
  refine lv_ldc2 (v := 100) hx hb hown (hts _ kc_X2_43) dX2_reckon_94 ?_
  refine lv_ldiv hx hb dX2_reckon_97 (by decide) ?_
  refine lv_ladd hx hb dX2_reckon_98 ?_
  refine lv_l2i hx hb dX2_reckon_99 rfl ?_
  refine tp_i (y := (w_asks (vF F) (mt c1) s0 h0 w0).toInt32) (by rw [w_asks, vs0]) ?_
  refine p_i 3 C hw (hR.f rfl) rfl fl_X2_50 fc_2 fn_2_3 (fun h9 => by cases h9) rfl rfl rfl dX2_reckon_100 (fun H locs hw => ?_)
  refine lv_lload hx hb dX2_reckon_103 (lv_at hl 1 rfl) ?_
  refine lv_aload hx hb dX2_reckon_105 (lv_at hl 3 rfl) ?_
  refine lv_aload_n hx hb dX2_reckon_107 rfl (lv_at hl 4 rfl) ?_
  refine g_i 2 C hw (hR.f rfl) rfl fl_X2_36 rfl dX2_reckon_108 ?_
  refine tp_i (y := w_hard (vF F) (mt c1) s0 h0 w0) ((uF_n _ _ (Or.inr (by decide))).trans (uF_s _ _ _ _)) ?_
  refine kV C hw (c_X4_strength E tt B (uF (uF (uF F 79 1 (w_thin s0 w0)) 79 2 (w_hard (vF F) (mt c1) s0 h0 w0)) 79 3 ((w_asks (vF F) (mt c1) s0 h0 w0).toInt32)) G P (hR.xm (by omega)) (kd_metal (by omega)) (w_hard (vF F) (mt c1) s0 h0 w0)) vy_X4_strength ml_X2_39 (rcv hw (hR.xm (by omega)) (kd_metal (by omega)) (by decide) (q2 := (RX4, TX4, 6)) rfl) rfl hl.1 (rest := [.long (((w0 : Int32).toInt64 * (w0 : Int32).toInt64))]) rfl dX2_reckon_111 (Nat.le_of_ble_eq_true rfl) ⟨by decide, by decide⟩ ⟨Nat.le_of_ble_eq_true rfl, Nat.le_of_ble_eq_true rfl⟩ (fun v_111 ws_111 H locs hp_111 hq_111 => ?_)
  clear hw
  obtain ⟨rfl, rfl⟩ := hp_111
  have hw := hq_111
  refine W.eq (g2 := F0 m 114 ls [.long (((uF (uF (uF F 79 1 (w_thin s0 w0)) 79 2 (w_hard (vF F) (mt c1) s0 h0 w0)) 79 3 ((w_asks (vF F) (mt c1) s0 h0 w0).toInt32)) (3 + mt c1) 1).toInt64 * (100 + w_hard (vF F) (mt c1) s0 h0 w0 : Int32).toInt64), .long (((w0 : Int32).toInt64 * (w0 : Int32).toInt64))]) rfl ?_
  refine tp_l (y := (F (3 + mt c1) 1).toInt64 * (100 + w_hard (vF F) (mt c1) s0 h0 w0).toInt64) (by rw [uF_n _ _ (Or.inl (by omega)), uF_n _ _ (Or.inl (by omega)), uF_n _ _ (Or.inl (by omega))]) ?_
  refine lv_lmul hx hb dX2_reckon_114 ?_
  refine lv_ldc2 (v := 100) hx hb hown (hts _ kc_X2_43) dX2_reckon_115 ?_
  refine lv_ldiv hx hb dX2_reckon_118 (by decide) ?_
  refine tp_l (y := w_bear1 (vF F) (mt c1) s0 h0 w0) (by rw [w_bear1, vm1, ← Int64.mul_assoc]) ?_
  refine lv_lstore (lv' := [(12, .long (w_bear1 (vF F) (mt c1) s0 h0 w0)), (10, .long (w_ask1 (vF F) (mt c1) s0 h0 w0)), (8, .long (((w0 : Int32).toInt64 * (w0 : Int32).toInt64))), (6, .long (((s0 : Int32).toInt64 * (s0 : Int32).toInt64))), (5, .ref (B (3 + mt c1))), (0, .ref (B (79))), (1, .ref (B (53 + c1))), (2, .int (s0)), (3, .int (h0)), (4, .int (w0))]) hx hb dX2_reckon_119 hl (by decide) rfl (fun ls hl => ?_)
  refine lv_aload_n hx hb dX2_reckon_121 rfl (lv_at hl 6 rfl) ?_
  refine g_i 4 C hw (hR.xc (by omega)) (kd_coil (by omega)) fl_X2_53 rfl dX2_reckon_122 ?_
  refine tp_i (y := F (53 + c1) 4) ((uF_n _ _ (Or.inl (by omega))).trans ((uF_n _ _ (Or.inl (by omega))).trans ((uF_n _ _ (Or.inl (by omega))).trans (rfl)))) ?_
  refine lv_if_le (tgt := 140) hx hb dX2_reckon_125 (by decide) (fun c_125 => ?_) (fun c_125 => ?_)
  · have c_0 : ¬ 0 < F (53 + c1) 4 := Int32.not_lt.mpr c_125
    refine lv_aload_n hx hb dX2_reckon_140 rfl (lv_at hl 5 rfl) ?_
    refine lv_lload hx hb dX2_reckon_141 (lv_at hl 0 rfl) ?_
    refine lv_aload_n hx hb dX2_reckon_143 rfl (lv_at hl 5 rfl) ?_
    refine g_r 0 (k2 := 1) C hw (hR.f rfl) rfl fl_X2_9 rfl hR.q79 dX2_reckon_144 ?_
    refine g_i 1 C hw (hR.f rfl) rfl fl_X2_60 rfl dX2_reckon_147 ?_
    refine tp_i (y := F 1 1) ((uF_n _ _ (Or.inl (by decide))).trans ((uF_n _ _ (Or.inl (by decide))).trans ((uF_n _ _ (Or.inl (by decide))).trans (rfl)))) ?_
    refine lv_i2l hx hb dX2_reckon_150 rfl ?_
    refine lv_lmul hx hb dX2_reckon_151 ?_
    refine lv_ldc2 (v := 100) hx hb hown (hts _ kc_X2_43) dX2_reckon_152 ?_
    refine lv_ldiv hx hb dX2_reckon_155 (by decide) ?_
    refine lv_l2i hx hb dX2_reckon_156 rfl ?_
    refine tp_i (y := (w_bears (vF F) (mt c1) s0 h0 w0 (F (53 + c1) 4)).toInt32) (by simp [w_bears, c_0, vs1]) ?_
    refine p_i 4 C hw (hR.f rfl) rfl fl_X2_63 fc_2 fn_2_4 (fun h9 => by cases h9) rfl rfl rfl dX2_reckon_157 (fun H locs hw => ?_)
    exact r_v C hr hlk hw ⟨rfl, rfl⟩ dX2_reckon_160
  · have c_0 : 0 < F (53 + c1) 4 := Int32.not_le.mp c_125
    refine lv_lload hx hb dX2_reckon_128 (lv_at hl 0 rfl) ?_
    refine lv_ldc2 (v := 8) hx hb hown (hts _ kc_X2_56) dX2_reckon_130 ?_
    refine lv_lmul hx hb dX2_reckon_133 ?_
    refine lv_ldc2 (v := 10) hx hb hown (hts _ kc_X2_58) dX2_reckon_134 ?_
    refine lv_ldiv hx hb dX2_reckon_137 (by decide) ?_
    refine lv_lstore (lv' := [(12, .long (((w_bear1 (vF F) (mt c1) s0 h0 w0 * 8) / 10))), (10, .long (w_ask1 (vF F) (mt c1) s0 h0 w0)), (8, .long (((w0 : Int32).toInt64 * (w0 : Int32).toInt64))), (6, .long (((s0 : Int32).toInt64 * (s0 : Int32).toInt64))), (5, .ref (B (3 + mt c1))), (0, .ref (B (79))), (1, .ref (B (53 + c1))), (2, .int (s0)), (3, .int (h0)), (4, .int (w0))]) hx hb dX2_reckon_138 hl (by decide) rfl (fun ls hl => ?_)
    refine lv_aload_n hx hb dX2_reckon_140 rfl (lv_at hl 5 rfl) ?_
    refine lv_lload hx hb dX2_reckon_141 (lv_at hl 0 rfl) ?_
    refine lv_aload_n hx hb dX2_reckon_143 rfl (lv_at hl 5 rfl) ?_
    refine g_r 0 (k2 := 1) C hw (hR.f rfl) rfl fl_X2_9 rfl hR.q79 dX2_reckon_144 ?_
    refine g_i 1 C hw (hR.f rfl) rfl fl_X2_60 rfl dX2_reckon_147 ?_
    refine tp_i (y := F 1 1) ((uF_n _ _ (Or.inl (by decide))).trans ((uF_n _ _ (Or.inl (by decide))).trans ((uF_n _ _ (Or.inl (by decide))).trans (rfl)))) ?_
    refine lv_i2l hx hb dX2_reckon_150 rfl ?_
    refine lv_lmul hx hb dX2_reckon_151 ?_
    refine lv_ldc2 (v := 100) hx hb hown (hts _ kc_X2_43) dX2_reckon_152 ?_
    refine lv_ldiv hx hb dX2_reckon_155 (by decide) ?_
    refine lv_l2i hx hb dX2_reckon_156 rfl ?_
    refine tp_i (y := (w_bears (vF F) (mt c1) s0 h0 w0 (F (53 + c1) 4)).toInt32) (by simp [w_bears, c_0, vs1]) ?_
    refine p_i 4 C hw (hR.f rfl) rfl fl_X2_63 fc_2 fn_2_4 (fun h9 => by cases h9) rfl rfl rfl dX2_reckon_157 (fun H locs hw => ?_)
    exact r_v C hr hlk hw ⟨rfl, rfl⟩ dX2_reckon_160

set_option maxHeartbeats 4000000 in
set_option maxRecDepth 100000 in
theorem c_X2_refusal (E : cE) (tt : Nat × Nat × Nat) {X : List Nat} (B : Nat → Nat) (F : tF) (G : tG) {P : tP} {nh : Nat → Nat} {nc no : Nat} {mt om : Nat → Nat} (hR : RC X P nh nc no mt om) {c1 : Nat} (hl_c1 : c1 < nc) {i1 j1 : Nat} (hi1 : i1 < 4) (hj1 : j1 < nh i1) (s0 h0 u0 : Int32) (hd : ¬ s0.toInt64 * s0.toInt64 = 0)  : CT E tt yX2_refusal cX2_refusal 7 (some .int) 2 0 0 [.ref (B (79)), .ref (B (53 + c1)), .int (s0), .int (h0), .ref (B (20 + (8 * i1 + j1))), .int (u0)] (wl E X B F G P) (fun r w => r = some (.int (w_rf (vF F) (mt c1) (F (53 + c1) 4) s0 h0 (8 * i1 + j1) u0)) ∧ ∃ F1 : tF, (∀ k, k ≠ 79 → F1 k = F k) ∧ (w_rf (vF F) (mt c1) (F (53 + c1) 4) s0 h0 (8 * i1 + j1) u0 = 0 → F1 79 2 = w_hard (vF F) (mt c1) s0 h0 (w_wide (vF F) (8 * i1 + j1))) ∧ w = wl E X B F1 G P) := by
  refine CT.mk (by decide +kernel) (Nat.le_of_ble_eq_true rfl) ?_
  intro l p e s m below meth c A ls C hr hlk hnm hw hl
  have hx := C.1
  have hb := C.2.1
  have hts := C.2.2.2.2
  have hown : s.vm.findClass RX2 = some m.cls := C.2.2.2.1
  have hl : lv_has ls 7 [(0, .ref (B (79))), (1, .ref (B (53 + c1))), (2, .int (s0)), (3, .int (h0)), (4, .ref (B (20 + (8 * i1 + j1)))), (5, .int (u0))] := hl
  have hn16 := hR.nc16
  have hm4 := hR.mt4 hl_c1
  have vm1 := vF_at (lc_m1 (i := mt c1) hm4) F
  have vm2 := vF_at (lc_m2 (i := mt c1) hm4) F
  have vm3 := vF_at (lc_m3 (i := mt c1) hm4) F
  have vs0 := vF_at (lc_set (j := 0) (by decide)) F
  have vs1 := vF_at (lc_set (j := 1) (by decide)) F
  have h8 := hR.nh8 hi1
  have vh0 := vF_at (lc_h0 (q := 8 * i1 + j1) (by omega)) F
  have vh1 := vF_at (lc_h1 (q := 8 * i1 + j1) (by omega)) F
  refine lv_aload hx hb dX2_refusal_0 (lv_at hl 4 rfl) ?_
  refine kV C hw (c_X3_wide E tt B F G P (hR.xh (by omega) (by omega)) (kd_hole (by omega)) ) vy_X3_wide ml_X2_66 (rcv hw (hR.xh (by omega) (by omega)) (kd_hole (by omega)) (by decide) (q2 := (RX3, TX3, 3)) rfl) rfl hl.1 (rest := []) rfl dX2_refusal_2 (Nat.le_of_ble_eq_true rfl) ⟨by decide, by decide⟩ ⟨Nat.le_of_ble_eq_true rfl, Nat.le_of_ble_eq_true rfl⟩ (fun v_2 ws_2 H locs hp_2 hq_2 => ?_)
  clear hw
  obtain ⟨rfl, rfl⟩ := hp_2
  have hw := hq_2
  refine W.eq (g2 := F0 m 5 ls [.int ((F (20 + (8 * i1 + j1)) 0 + F (20 + (8 * i1 + j1)) 1 / 1000))]) rfl ?_
  refine tp_i (y := w_wide (vF F) (8 * i1 + j1)) (by rw [w_wide, vh0, vh1]) ?_
  refine lv_istore (lv' := [(6, .int (w_wide (vF F) (8 * i1 + j1))), (0, .ref (B (79))), (1, .ref (B (53 + c1))), (2, .int (s0)), (3, .int (h0)), (4, .ref (B (20 + (8 * i1 + j1)))), (5, .int (u0))]) hx hb dX2_refusal_5 hl (by decide) rfl (fun ls hl => ?_)
  refine lv_aload hx hb dX2_refusal_7 (lv_at hl 5 rfl) ?_
  refine kV C hw (c_X3_isSpent E tt B F G P (hR.xh (by omega) (by omega)) (kd_hole (by omega)) ) vy_X3_isSpent ml_X2_72 (rcv hw (hR.xh (by omega) (by omega)) (kd_hole (by omega)) (by decide) (q2 := (RX3, TX3, 3)) rfl) rfl hl.1 (rest := []) rfl dX2_refusal_9 (Nat.le_of_ble_eq_true rfl) ⟨by decide, by decide⟩ ⟨Nat.le_of_ble_eq_true rfl, Nat.le_of_ble_eq_true rfl⟩ (fun v_9 ws_9 H locs hp_9 hq_9 => ?_)
  clear hw
  rcases hp_9 with ⟨h_9, rfl, rfl⟩ | ⟨h_9, rfl, rfl⟩
  · have hw := hq_9
    refine W.eq (g2 := F0 m 12 ls [.int (1)]) rfl ?_
    refine lv_if_ne (tgt := 21) hx hb dX2_refusal_12 (by decide) (fun _ => ?_) (fun h9 => False.elim (by revert h9; decide))
    rw [show F (20 + (8 * i1 + j1)) 0 + F (20 + (8 * i1 + j1)) 1 / 1000 = w_wide (vF F) (8 * i1 + j1) by rw [w_wide, vh0, vh1]] at h_9
    refine lv_bipush (v := -4) hx hb dX2_refusal_21 (by decide) ?_
    exact r_i C hr hlk hw ⟨(by simp only [w_rf, vh0, vm3, h_9, not_true_eq_false, not_false_eq_true, false_or, or_false, true_or, or_true, if_true, if_false]), F, (fun _ _ => rfl), (fun h9 => absurd h9 (by simp only [w_rf, vh0, vm3, h_9, not_true_eq_false, not_false_eq_true, false_or, or_false, true_or, or_true, if_true, if_false]; decide)), rfl⟩ dX2_refusal_23
  · have hw := hq_9
    refine W.eq (g2 := F0 m 12 ls [.int (0)]) rfl ?_
    refine lv_if_ne (tgt := 21) hx hb dX2_refusal_12 (by decide) (fun h9 => False.elim (by revert h9; decide)) (fun _ => ?_)
    rw [show F (20 + (8 * i1 + j1)) 0 + F (20 + (8 * i1 + j1)) 1 / 1000 = w_wide (vF F) (8 * i1 + j1) by rw [w_wide, vh0, vh1]] at h_9
    refine lv_iload hx hb dX2_refusal_15 (lv_at hl 0 rfl) ?_
    refine lv_iload_n hx hb dX2_refusal_17 rfl (lv_at hl 3 rfl) ?_
    refine lv_icmp_lt (tgt := 24) hx hb dX2_refusal_18 (by decide) (fun c_18 => ?_) (fun c_18 => ?_)
    · refine lv_aload_n hx hb dX2_refusal_24 rfl (lv_at hl 1 rfl) ?_
      refine lv_aload_n hx hb dX2_refusal_25 rfl (lv_at hl 2 rfl) ?_
      refine lv_iload_n hx hb dX2_refusal_26 rfl (lv_at hl 3 rfl) ?_
      refine lv_iload_n hx hb dX2_refusal_27 rfl (lv_at hl 4 rfl) ?_
      refine lv_iload hx hb dX2_refusal_28 (lv_at hl 0 rfl) ?_
      refine kV C hw (c_X2_reckon E tt B F G hR (c1 := c1) (by omega) (s0) (h0) (w_wide (vF F) (8 * i1 + j1)) (hd)) vy_X2_reckon ml_X2_76 (rcv hw (hR.f rfl) rfl (by decide) (q2 := (RX2, TX2, 5)) rfl) rfl hl.1 (rest := []) rfl dX2_refusal_30 (Nat.le_of_ble_eq_true rfl) ⟨by decide, by decide⟩ ⟨Nat.le_of_ble_eq_true rfl, Nat.le_of_ble_eq_true rfl⟩ (fun v_30 ws_30 H locs hp_30 hq_30 => ?_)
      clear hw
      obtain ⟨rfl, rfl⟩ := hp_30
      have hw := hq_30
      refine W.eq (g2 := F0 m 33 ls []) rfl ?_
      refine lv_aload_n hx hb dX2_refusal_33 rfl (lv_at hl 1 rfl) ?_
      refine g_i 2 C hw (hR.f rfl) rfl fl_X2_36 rfl dX2_refusal_34 ?_
      refine tp_i (y := w_hard (vF F) (mt c1) s0 h0 (w_wide (vF F) (8 * i1 + j1))) ((uF_n _ _ (Or.inr (by decide))).trans ((uF_n _ _ (Or.inr (by decide))).trans (uF_s _ _ _ _))) ?_
      refine lv_aload_n hx hb dX2_refusal_37 rfl (lv_at hl 2 rfl) ?_
      refine g_r 0 (k2 := 3 + mt c1) C hw (hR.xc (by omega)) (kd_coil (by omega)) fl_X2_15 rfl (hR.cm (by omega)) dX2_refusal_38 ?_
      refine g_i 3 C hw (hR.xm (by omega)) (kd_metal (by omega)) fl_X2_80 rfl dX2_refusal_41 ?_
      refine tp_i (y := F (3 + mt c1) 3) ((uF_n _ _ (Or.inl (by omega))).trans ((uF_n _ _ (Or.inl (by omega))).trans ((uF_n _ _ (Or.inl (by omega))).trans ((uF_n _ _ (Or.inl (by omega))).trans (rfl))))) ?_
      refine lv_icmp_le (tgt := 50) hx hb dX2_refusal_44 (by decide) (fun c_44 => ?_) (fun c_44 => ?_)
      · rw [← Int32.not_lt] at c_44
        refine lv_aload_n hx hb dX2_refusal_50 rfl (lv_at hl 1 rfl) ?_
        refine g_i 3 C hw (hR.f rfl) rfl fl_X2_50 rfl dX2_refusal_51 ?_
        refine tp_i (y := (w_asks (vF F) (mt c1) s0 h0 (w_wide (vF F) (8 * i1 + j1))).toInt32) ((uF_n _ _ (Or.inr (by decide))).trans (uF_s _ _ _ _)) ?_
        refine lv_aload_n hx hb dX2_refusal_54 rfl (lv_at hl 1 rfl) ?_
        refine g_i 4 C hw (hR.f rfl) rfl fl_X2_63 rfl dX2_refusal_55 ?_
        refine tp_i (y := (w_bears (vF F) (mt c1) s0 h0 (w_wide (vF F) (8 * i1 + j1)) (F (53 + c1) 4)).toInt32) (uF_s _ _ _ _) ?_
        refine lv_icmp_le (tgt := 64) hx hb dX2_refusal_58 (by decide) (fun c_58 => ?_) (fun c_58 => ?_)
        · rw [← Int32.not_lt] at c_58
          refine lv_aload_n hx hb dX2_refusal_64 rfl (lv_at hl 1 rfl) ?_
          refine g_i 3 C hw (hR.f rfl) rfl fl_X2_50 rfl dX2_refusal_65 ?_
          refine tp_i (y := (w_asks (vF F) (mt c1) s0 h0 (w_wide (vF F) (8 * i1 + j1))).toInt32) ((uF_n _ _ (Or.inr (by decide))).trans (uF_s _ _ _ _)) ?_
          refine lv_iload hx hb dX2_refusal_68 (lv_at hl 6 rfl) ?_
          refine lv_icmp_le (tgt := 78) hx hb dX2_refusal_70 (by decide) (fun c_70 => ?_) (fun c_70 => ?_)
          · rw [← Int32.not_lt] at c_70
            refine lv_iconst (v := 0) hx hb dX2_refusal_78 (by decide) ?_
            exact r_i C hr hlk hw ⟨(by simp only [w_rf, vh0, vm3, h_9, c_18, c_44, c_58, c_70, not_true_eq_false, not_false_eq_true, false_or, or_false, true_or, or_true, if_true, if_false]), (uF (uF (uF (uF F 79 1 (w_thin s0 (w_wide (vF F) (8 * i1 + j1)))) 79 2 (w_hard (vF F) (mt c1) s0 h0 (w_wide (vF F) (8 * i1 + j1)))) 79 3 ((w_asks (vF F) (mt c1) s0 h0 (w_wide (vF F) (8 * i1 + j1))).toInt32)) 79 4 ((w_bears (vF F) (mt c1) s0 h0 (w_wide (vF F) (8 * i1 + j1)) (F (53 + c1) 4)).toInt32)), (fun k hk => ((uF_o _ _ _ hk).trans (uF_o _ _ _ hk)).trans ((uF_o _ _ _ hk).trans (uF_o _ _ _ hk))), (fun _ => (uF_n _ _ (Or.inr (by decide))).trans ((uF_n _ _ (Or.inr (by decide))).trans (uF_s _ _ _ _))), rfl⟩ dX2_refusal_79
          · rw [Int32.not_le] at c_70
            refine lv_bipush (v := -7) hx hb dX2_refusal_73 (by decide) ?_
            refine lv_goto (tgt := 79) hx hb dX2_refusal_75 (by decide) ?_
            exact r_i C hr hlk hw ⟨(by simp only [w_rf, vh0, vm3, h_9, c_18, c_44, c_58, c_70, not_true_eq_false, not_false_eq_true, false_or, or_false, true_or, or_true, if_true, if_false]), (uF (uF (uF (uF F 79 1 (w_thin s0 (w_wide (vF F) (8 * i1 + j1)))) 79 2 (w_hard (vF F) (mt c1) s0 h0 (w_wide (vF F) (8 * i1 + j1)))) 79 3 ((w_asks (vF F) (mt c1) s0 h0 (w_wide (vF F) (8 * i1 + j1))).toInt32)) 79 4 ((w_bears (vF F) (mt c1) s0 h0 (w_wide (vF F) (8 * i1 + j1)) (F (53 + c1) 4)).toInt32)), (fun k hk => ((uF_o _ _ _ hk).trans (uF_o _ _ _ hk)).trans ((uF_o _ _ _ hk).trans (uF_o _ _ _ hk))), (fun h9 => absurd h9 (by simp only [w_rf, vh0, vm3, h_9, c_18, c_44, c_58, c_70, not_true_eq_false, not_false_eq_true, false_or, or_false, true_or, or_true, if_true, if_false]; decide)), rfl⟩ dX2_refusal_79
        · rw [Int32.not_le] at c_58
          refine lv_bipush (v := -6) hx hb dX2_refusal_61 (by decide) ?_
          exact r_i C hr hlk hw ⟨(by simp only [w_rf, vh0, vm3, h_9, c_18, c_44, c_58, not_true_eq_false, not_false_eq_true, false_or, or_false, true_or, or_true, if_true, if_false]), (uF (uF (uF (uF F 79 1 (w_thin s0 (w_wide (vF F) (8 * i1 + j1)))) 79 2 (w_hard (vF F) (mt c1) s0 h0 (w_wide (vF F) (8 * i1 + j1)))) 79 3 ((w_asks (vF F) (mt c1) s0 h0 (w_wide (vF F) (8 * i1 + j1))).toInt32)) 79 4 ((w_bears (vF F) (mt c1) s0 h0 (w_wide (vF F) (8 * i1 + j1)) (F (53 + c1) 4)).toInt32)), (fun k hk => ((uF_o _ _ _ hk).trans (uF_o _ _ _ hk)).trans ((uF_o _ _ _ hk).trans (uF_o _ _ _ hk))), (fun h9 => absurd h9 (by simp only [w_rf, vh0, vm3, h_9, c_18, c_44, c_58, not_true_eq_false, not_false_eq_true, false_or, or_false, true_or, or_true, if_true, if_false]; decide)), rfl⟩ dX2_refusal_63
      · rw [Int32.not_le] at c_44
        refine lv_bipush (v := -5) hx hb dX2_refusal_47 (by decide) ?_
        exact r_i C hr hlk hw ⟨(by simp only [w_rf, vh0, vm3, h_9, c_18, c_44, not_true_eq_false, not_false_eq_true, false_or, or_false, true_or, or_true, if_true, if_false]), (uF (uF (uF (uF F 79 1 (w_thin s0 (w_wide (vF F) (8 * i1 + j1)))) 79 2 (w_hard (vF F) (mt c1) s0 h0 (w_wide (vF F) (8 * i1 + j1)))) 79 3 ((w_asks (vF F) (mt c1) s0 h0 (w_wide (vF F) (8 * i1 + j1))).toInt32)) 79 4 ((w_bears (vF F) (mt c1) s0 h0 (w_wide (vF F) (8 * i1 + j1)) (F (53 + c1) 4)).toInt32)), (fun k hk => ((uF_o _ _ _ hk).trans (uF_o _ _ _ hk)).trans ((uF_o _ _ _ hk).trans (uF_o _ _ _ hk))), (fun h9 => absurd h9 (by simp only [w_rf, vh0, vm3, h_9, c_18, c_44, not_true_eq_false, not_false_eq_true, false_or, or_false, true_or, or_true, if_true, if_false]; decide)), rfl⟩ dX2_refusal_49
    · refine lv_bipush (v := -4) hx hb dX2_refusal_21 (by decide) ?_
      exact r_i C hr hlk hw ⟨(by simp only [w_rf, vh0, vm3, h_9, c_18, not_true_eq_false, not_false_eq_true, false_or, or_false, true_or, or_true, if_true, if_false]), F, (fun _ _ => rfl), (fun h9 => absurd h9 (by simp only [w_rf, vh0, vm3, h_9, c_18, not_true_eq_false, not_false_eq_true, false_or, or_false, true_or, or_true, if_true, if_false]; decide)), rfl⟩ dX2_refusal_23

set_option maxHeartbeats 4000000 in
set_option maxRecDepth 100000 in
theorem c_X11_pullOf (E : cE) (tt : Nat × Nat × Nat) {X : List Nat} (B : Nat → Nat) (F : tF) (G : tG) {P : tP} {nh : Nat → Nat} {nc no : Nat} {mt om : Nat → Nat} (hR : RC X P nh nc no mt om) (hwh : WHok F) {u1 : Nat} (hu1 : u1 < 3)  : CT E tt yX11_pullOf cX11_pullOf 2 (some .int) 0 0 0 [.ref (B (0)), .ref (B (8 + u1))] (wl E X B F G P) (fun r w => r = some (.int ((w_pull (vF F) u1).toInt32)) ∧ w = (wl E X B F G P)) := by
  refine CT.mk (by decide +kernel) (Nat.le_of_ble_eq_true rfl) ?_
  intro l p e s m below meth c A ls C hr hlk hnm hw hl
  have hx := C.1
  have hb := C.2.1
  have hts := C.2.2.2.2
  have hown : s.vm.findClass RX11 = some m.cls := C.2.2.2.1
  have hl : lv_has ls 2 [(0, .ref (B (0))), (1, .ref (B (8 + u1)))] := hl
  have vs2 := vF_at (lc_set (j := 2) (by decide)) F
  have vp1 := vF_at (lc_p1 (i := u1) (by omega)) F
  refine lv_aload_n hx hb dX11_pullOf_0 rfl (lv_at hl 1 rfl) ?_
  refine g_i 0 C hw (hR.xp (by omega)) (kd_puller (by omega)) fl_X11_394 rfl dX11_pullOf_1 ?_
  refine lv_if_eq (tgt := 29) hx hb dX11_pullOf_4 (by decide) (fun c_4 => ?_) (fun c_4 => ?_)
  · have hu0 : ¬ u1 = 0 := fun h9 => by subst h9; rw [hwh.1] at c_4; exact absurd c_4 (by decide)
    refine lv_aload_n hx hb dX11_pullOf_29 rfl (lv_at hl 1 rfl) ?_
    refine g_i 1 C hw (hR.xp (by omega)) (kd_puller (by omega)) fl_X11_126 rfl dX11_pullOf_30 ?_
    exact r_i C hr hlk hw ⟨(by rw [w_pull, if_neg hu0, vp1, Int32.toInt32_toInt64]), rfl⟩ dX11_pullOf_33
  · have hu0 : u1 = 0 := by rcases (show u1 = 0 ∨ u1 = 1 ∨ u1 = 2 by omega) with h9 | h9 | h9; exact h9; exact absurd (by rw [h9]; exact hwh.2.1) c_4; exact absurd (by rw [h9]; exact hwh.2.2) c_4
    refine lv_aload_n hx hb dX11_pullOf_7 rfl (lv_at hl 1 rfl) ?_
    refine g_i 1 C hw (hR.xp (by omega)) (kd_puller (by omega)) fl_X11_126 rfl dX11_pullOf_8 ?_
    refine lv_i2l hx hb dX11_pullOf_11 rfl ?_
    refine lv_aload_n hx hb dX11_pullOf_12 rfl (lv_at hl 0 rfl) ?_
    refine g_r 0 (k2 := 1) C hw (hR.f rfl) rfl fl_X11_10 rfl (hR.p0 0 (by decide)) dX11_pullOf_13 ?_
    refine g_i 2 C hw (hR.f rfl) rfl fl_X11_397 rfl dX11_pullOf_16 ?_
    refine lv_i2l hx hb dX11_pullOf_19 rfl ?_
    refine lv_lmul hx hb dX11_pullOf_20 ?_
    refine lv_ldc2 (v := 10) hx hb hown (hts _ kc_X11_400) dX11_pullOf_21 ?_
    refine lv_ldiv hx hb dX11_pullOf_24 (by decide) ?_
    refine lv_l2i hx hb dX11_pullOf_25 rfl ?_
    refine lv_goto (tgt := 33) hx hb dX11_pullOf_26 (by decide) ?_
    exact r_i C hr hlk hw ⟨(by subst hu0; rw [w_pull, if_pos rfl, vp1, vs2]), rfl⟩ dX11_pullOf_33

set_option maxHeartbeats 4000000 in
set_option maxRecDepth 100000 in
theorem c_X11_throwAway (E : cE) (tt : Nat × Nat × Nat) {X : List Nat} (B : Nat → Nat) (F : tF) (G : tG) {P : tP} {nh : Nat → Nat} {nc no : Nat} {mt om : Nat → Nat} (hR : RC X P nh nc no mt om) {c1 : Nat} (hl_c1 : c1 < nc)  : CT E tt yX11_throwAway cX11_throwAway 2 none 0 0 0 [.ref (B (0)), .ref (B (53 + c1))] (wl E X B F G P) (fun r w => r = none ∧ w = wl E X B F (uG (uG G 0 15 (G 0 15 + G (53 + c1) 3)) (53 + c1) 3 0) P) := by
  refine CT.mk (by decide +kernel) (Nat.le_of_ble_eq_true rfl) ?_
  intro l p e s m below meth c A ls C hr hlk hnm hw hl
  have hx := C.1
  have hb := C.2.1
  have hts := C.2.2.2.2
  have hown : s.vm.findClass RX11 = some m.cls := C.2.2.2.1
  have hl : lv_has ls 2 [(0, .ref (B (0))), (1, .ref (B (53 + c1)))] := hl
  have hn16 := hR.nc16
  refine lv_aload_n hx hb dX11_throwAway_0 rfl (lv_at hl 0 rfl) ?_
  refine lv_dup hx hb dX11_throwAway_1 rfl ?_
  refine g_l 15 C hw (hR.f rfl) rfl fl_X11_274 rfl dX11_throwAway_2 ?_
  refine lv_aload_n hx hb dX11_throwAway_5 rfl (lv_at hl 1 rfl) ?_
  refine g_l 3 C hw (hR.xc (by omega)) (kd_coil (by omega)) fl_X11_176 rfl dX11_throwAway_6 ?_
  refine lv_ladd hx hb dX11_throwAway_9 ?_
  refine p_l 15 C hw (hR.f rfl) rfl fl_X11_274 fc_11 fn_11_15 (fun h9 => by cases h9) rfl rfl rfl dX11_throwAway_10 (fun H locs hw => ?_)
  refine lv_aload_n hx hb dX11_throwAway_13 rfl (lv_at hl 1 rfl) ?_
  refine lv_lconst (v := 0) hx hb dX11_throwAway_14 (by decide) ?_
  refine p_l 3 C hw (hR.xc (by omega)) (kd_coil (by omega)) fl_X11_176 fc_0 fn_0_3 (fun h9 => by cases h9) rfl rfl rfl dX11_throwAway_15 (fun H locs hw => ?_)
  exact r_v C hr hlk hw ⟨rfl, rfl⟩ dX11_throwAway_18

set_option maxHeartbeats 4000000 in
set_option maxRecDepth 100000 in
theorem c_X11_scrap (E : cE) (tt : Nat × Nat × Nat) {X : List Nat} (B : Nat → Nat) (F : tF) (G : tG) {P : tP} {nh : Nat → Nat} {nc no : Nat} {mt om : Nat → Nat} (hR : RC X P nh nc no mt om) (hCK : CK F G nc) (c0 : Int32)  : CT E tt yX11_scrap cX11_scrap 3 (some .int) 4 0 0 [.ref (B (0)), .int (c0)] (wl E X B F G P) (fun r w => r = some (.int (sp_scrap (vG G) nc c0)) ∧ ∃ (F1 : tF) (G1 : tG), KC F F1 ∧ KG G G1 ∧ vF F1 = vF F ∧ vG G1 = st_scrap (vG G) nc c0 ∧ w = wl E X B F1 G1 P) := by
  refine CT.mk (by decide +kernel) (Nat.le_of_ble_eq_true rfl) ?_
  intro l p e s m below meth c A ls C hr hlk hnm hw hl
  have hx := C.1
  have hb := C.2.1
  have hts := C.2.2.2.2
  have hown : s.vm.findClass RX11 = some m.cls := C.2.2.2.1
  have hl : lv_has ls 3 [(0, .ref (B (0))), (1, .int (c0))] := hl
  refine lv_aload_n hx hb dX11_scrap_0 rfl (lv_at hl 0 rfl) ?_
  refine lv_iload_n hx hb dX11_scrap_1 rfl (lv_at hl 1 rfl) ?_
  refine kV C hw (c_X11_coilAt E tt B F G hR hCK (c0)) vy_X11_coilAt ml_X11_183 (rcv hw (hR.f rfl) rfl (by decide) (q2 := (RX11, TX11, 19)) rfl) rfl hl.1 (rest := []) rfl dX11_scrap_2 (Nat.le_of_ble_eq_true rfl) ⟨by decide, by decide⟩ ⟨Nat.le_of_ble_eq_true rfl, Nat.le_of_ble_eq_true rfl⟩ (fun v_2 ws_2 H locs hp_2 hq_2 => ?_)
  clear hw
  rcases hp_2 with ⟨c1, hl_c1, rfl, ok_2, rfl, rfl⟩ | ⟨h_2, rfl, rfl⟩
  · have hw := hq_2
    refine W.eq (g2 := F0 m 5 ls [.ref (B (53 + c1))]) rfl ?_
    have hn16 := hR.nc16
    have hz_c1 := i4_cl (i := c1) (by omega)
    have v1_c1 := vF_at (lc_c1 (c := c1) (by omega)) F
    have v2_c1 := vF_at (lc_c2 (c := c1) (by omega)) F
    have v3_c1 := vG_at (lc_c3 (c := c1) (by omega)) G
    have v4_c1 := vF_at (lc_c4 (c := c1) (by omega)) F
    have v5_c1 := vF_at (lc_c5 (c := c1) (by omega)) F
    have v6_c1 := vF_at (lc_c6 (c := c1) (by omega)) F
    refine lv_astore_n (lv' := [(2, .ref (B (53 + c1))), (0, .ref (B (0))), (1, .int (nI c1))]) hx hb dX11_scrap_5 rfl hl (by decide) rfl (fun ls hl => ?_)
    refine lv_aload_n hx hb dX11_scrap_6 rfl (lv_at hl 0 rfl) ?_
    refine lv_ifnonnull (tgt := 13) hx hb dX11_scrap_7 (by decide) ?_
    refine lv_aload_n hx hb dX11_scrap_13 rfl (lv_at hl 1 rfl) ?_
    refine lv_aload_n hx hb dX11_scrap_14 rfl (lv_at hl 0 rfl) ?_
    refine kV C hw (c_X11_throwAway E tt B F G hR (c1 := c1) (by omega)) vy_X11_throwAway ml_X11_263 (rcv hw (hR.f rfl) rfl (by decide) (q2 := (RX11, TX11, 19)) rfl) rfl hl.1 (rest := []) rfl dX11_scrap_15 (Nat.le_of_ble_eq_true rfl) ⟨by decide, by decide⟩ ⟨Nat.le_of_ble_eq_true rfl, Nat.le_of_ble_eq_true rfl⟩ (fun v_15 ws_15 H locs hp_15 hq_15 => ?_)
    clear hw
    obtain ⟨rfl, rfl⟩ := hp_15
    have hw := hq_15
    refine W.eq (g2 := F0 m 18 ls []) rfl ?_
    refine lv_iconst (v := 1) hx hb dX11_scrap_18 (by decide) ?_
    exact r_i C hr hlk hw ⟨(by simp [sp_scrap, ok_2, hz_c1, v3_c1, vG_at lc_g32]), F, (uG (uG G 0 15 (G 0 15 + G (53 + c1) 3)) (53 + c1) 3 0), KC.rf, (KG.u (KG.u KG.rf (by omega)) (by omega)), (by rfl), (by rw [vG_up (lc_c3 (c := c1) (by omega)), vG_up (lc_g32)]; simp [st_scrap, ok_2, hz_c1, v3_c1, vG_at lc_g32]), rfl⟩ dX11_scrap_19
  · have hw := hq_2
    refine W.eq (g2 := F0 m 5 ls [.null]) rfl ?_
    refine lv_astore_nN (lv' := [(2, .null), (0, .ref (B (0))), (1, .int (c0))]) hx hb dX11_scrap_5 rfl hl (by decide) rfl (fun ls hl => ?_)
    refine lv_aload_nN hx hb dX11_scrap_6 rfl (lv_at hl 0 rfl) ?_
    refine lv_ifnonnullN hx hb dX11_scrap_7 ?_
    refine lv_bipush (v := -2) hx hb dX11_scrap_10 (by decide) ?_
    exact r_i C hr hlk hw ⟨(by simp [sp_scrap, h_2]), F, G, KC.rf, KG.rf, (by rfl), (by simp [st_scrap, h_2]), rfl⟩ dX11_scrap_12

set_option maxHeartbeats 4000000 in
set_option maxRecDepth 100000 in
theorem c_X11_ready (E : cE) (tt : Nat × Nat × Nat) {X : List Nat} (B : Nat → Nat) (F : tF) (G : tG) {P : tP} {nh : Nat → Nat} {nc no : Nat} {mt om : Nat → Nat} (hR : RC X P nh nc no mt om) (w0 : Int32)  : CT E tt yX11_ready cX11_ready 3 (some .int) 1 0 0 [.ref (B (0)), .int (w0)] (wl E X B F G P) (fun r w => r = some (.int (sp_ready (vF F) w0)) ∧ w = (wl E X B F G P)) := by
  refine CT.mk (by decide +kernel) (Nat.le_of_ble_eq_true rfl) ?_
  intro l p e s m below meth c A ls C hr hlk hnm hw hl
  have hx := C.1
  have hb := C.2.1
  have hts := C.2.2.2.2
  have hown : s.vm.findClass RX11 = some m.cls := C.2.2.2.1
  have hl : lv_has ls 3 [(0, .ref (B (0))), (1, .int (w0))] := hl
  refine lv_iload_n hx hb dX11_ready_0 rfl (lv_at hl 1 rfl) ?_
  refine lv_iconst (v := 3) hx hb dX11_ready_1 (by decide) ?_
  refine lv_icmp_ne (tgt := 10) hx hb dX11_ready_2 (by decide) (fun c_2 => ?_) (fun c_2 => ?_)
  · refine lv_aload_n hx hb dX11_ready_10 rfl (lv_at hl 0 rfl) ?_
    refine lv_iload_n hx hb dX11_ready_11 rfl (lv_at hl 1 rfl) ?_
    refine kV C hw (c_X11_pullerAt E tt B F G hR (w0)) vy_X11_pullerAt ml_X11_121 (rcv hw (hR.f rfl) rfl (by decide) (q2 := (RX11, TX11, 19)) rfl) rfl hl.1 (rest := []) rfl dX11_ready_12 (Nat.le_of_ble_eq_true rfl) ⟨by decide, by decide⟩ ⟨Nat.le_of_ble_eq_true rfl, Nat.le_of_ble_eq_true rfl⟩ (fun v_12 ws_12 H locs hp_12 hq_12 => ?_)
    clear hw
    rcases hp_12 with ⟨u1, hl_u1, rfl, rfl, rfl⟩ | ⟨h_12, rfl, rfl⟩
    · have hw := hq_12
      refine W.eq (g2 := F0 m 15 ls [.ref (B (8 + u1))]) rfl ?_
      have hz_u1 := i4_cl (i := u1) (by omega)
      refine lv_astore_n (lv' := [(2, .ref (B (8 + u1))), (0, .ref (B (0))), (1, .int (nI u1))]) hx hb dX11_ready_15 rfl hl (by decide) rfl (fun ls hl => ?_)
      refine lv_aload_n hx hb dX11_ready_16 rfl (lv_at hl 0 rfl) ?_
      refine lv_ifnonnull (tgt := 25) hx hb dX11_ready_17 (by decide) ?_
      refine lv_aload_n hx hb dX11_ready_25 rfl (lv_at hl 0 rfl) ?_
      refine g_i 3 C hw (hR.xp (by omega)) (kd_puller (by omega)) fl_X11_277 rfl dX11_ready_26 ?_
      exact r_i C hr hlk hw ⟨(by rw [sp_ready, if_pos (by have := i_rng (i := u1) (n := 3) (by omega) (by decide); exact this), hz_u1, vF_at (lc_p3 (i := u1) (by omega))]), rfl⟩ dX11_ready_29
    · have hw := hq_12
      refine W.eq (g2 := F0 m 15 ls [.null]) rfl ?_
      refine lv_astore_nN (lv' := [(2, .null), (0, .ref (B (0))), (1, .int (w0))]) hx hb dX11_ready_15 rfl hl (by decide) rfl (fun ls hl => ?_)
      refine lv_aload_nN hx hb dX11_ready_16 rfl (lv_at hl 0 rfl) ?_
      refine lv_ifnonnullN hx hb dX11_ready_17 ?_
      refine lv_bipush (v := -2) hx hb dX11_ready_20 (by decide) ?_
      refine lv_goto (tgt := 29) hx hb dX11_ready_22 (by decide) ?_
      exact r_i C hr hlk hw ⟨(by rw [sp_ready, if_neg (fun h9 => by obtain ⟨i, hi, e⟩ := n_of (n := 3) h9.1 h9.2 (by decide); rcases (show i < 3 ∨ i = 3 by omega) with h8 | h8; exact h_12 i h8 e; exact c_2 (by rw [e, h8]; rfl))]), rfl⟩ dX11_ready_29
  · refine lv_aload_n hx hb dX11_ready_5 rfl (lv_at hl 0 rfl) ?_
    refine g_i 12 C hw (hR.f rfl) rfl fl_X11_243 rfl dX11_ready_6 ?_
    exact r_i C hr hlk hw ⟨(by rw [c_2, sp_ready, if_pos (by decide), show ((3 : Int32).toNatClampNeg) = 3 from rfl, vF_at lc_fr]), rfl⟩ dX11_ready_9

set_option maxHeartbeats 4000000 in
set_option maxRecDepth 100000 in
theorem c_X11_filled (E : cE) (tt : Nat × Nat × Nat) {X : List Nat} (B : Nat → Nat) (F : tF) (G : tG) {P : tP} {nh : Nat → Nat} {nc no : Nat} {mt om : Nat → Nat} (hR : RC X P nh nc no mt om) (o0_ : Int32)  : CT E tt yX11_filled cX11_filled 3 (some .int) 1 0 0 [.ref (B (0)), .int (o0_)] (wl E X B F G P) (fun r w => r = some (.int (sp_filled (vF F) no o0_)) ∧ w = (wl E X B F G P)) := by
  refine CT.mk (by decide +kernel) (Nat.le_of_ble_eq_true rfl) ?_
  intro l p e s m below meth c A ls C hr hlk hnm hw hl
  have hx := C.1
  have hb := C.2.1
  have hts := C.2.2.2.2
  have hown : s.vm.findClass RX11 = some m.cls := C.2.2.2.1
  have hl : lv_has ls 3 [(0, .ref (B (0))), (1, .int (o0_))] := hl
  refine lv_aload_n hx hb dX11_filled_0 rfl (lv_at hl 0 rfl) ?_
  refine lv_iload_n hx hb dX11_filled_1 rfl (lv_at hl 1 rfl) ?_
  refine kV C hw (c_X11_orderAt E tt B F G hR (o0_)) vy_X11_orderAt ml_X11_310 (rcv hw (hR.f rfl) rfl (by decide) (q2 := (RX11, TX11, 19)) rfl) rfl hl.1 (rest := []) rfl dX11_filled_2 (Nat.le_of_ble_eq_true rfl) ⟨by decide, by decide⟩ ⟨Nat.le_of_ble_eq_true rfl, Nat.le_of_ble_eq_true rfl⟩ (fun v_2 ws_2 H locs hp_2 hq_2 => ?_)
  clear hw
  rcases hp_2 with ⟨o1, hl_o1, rfl, rfl, rfl⟩ | ⟨h_2, rfl, rfl⟩
  · have hw := hq_2
    refine W.eq (g2 := F0 m 5 ls [.ref (B (70 + o1))]) rfl ?_
    have ho6 := hR.no6
    have hz_o1 := i4_cl (i := o1) (by omega)
    refine lv_astore_n (lv' := [(2, .ref (B (70 + o1))), (0, .ref (B (0))), (1, .int (nI o1))]) hx hb dX11_filled_5 rfl hl (by decide) rfl (fun ls hl => ?_)
    refine lv_aload_n hx hb dX11_filled_6 rfl (lv_at hl 0 rfl) ?_
    refine lv_ifnonnull (tgt := 13) hx hb dX11_filled_7 (by decide) ?_
    refine lv_aload_n hx hb dX11_filled_13 rfl (lv_at hl 0 rfl) ?_
    refine g_i 4 C hw (hR.xo (by omega)) (kd_order (by omega)) fl_X11_327 rfl dX11_filled_14 ?_
    refine lv_if_eq (tgt := 24) hx hb dX11_filled_17 (by decide) (fun c_17 => ?_) (fun c_17 => ?_)
    · refine lv_iconst (v := 0) hx hb dX11_filled_24 (by decide) ?_
      exact r_i C hr hlk hw ⟨(by have := nI_lt hl_o1 (show no < 2 ^ 31 by omega); rw [sp_filled, if_pos ⟨nI_pos' (by omega), this⟩, hz_o1, vF_at (lc_o4 (o := o1) (by omega))]; simp [c_17]), rfl⟩ dX11_filled_25
    · refine lv_iconst (v := 1) hx hb dX11_filled_20 (by decide) ?_
      refine lv_goto (tgt := 25) hx hb dX11_filled_21 (by decide) ?_
      exact r_i C hr hlk hw ⟨(by have := nI_lt hl_o1 (show no < 2 ^ 31 by omega); rw [sp_filled, if_pos ⟨nI_pos' (by omega), this⟩, hz_o1, vF_at (lc_o4 (o := o1) (by omega))]; simp [c_17]), rfl⟩ dX11_filled_25
  · have hw := hq_2
    refine W.eq (g2 := F0 m 5 ls [.null]) rfl ?_
    refine lv_astore_nN (lv' := [(2, .null), (0, .ref (B (0))), (1, .int (o0_))]) hx hb dX11_filled_5 rfl hl (by decide) rfl (fun ls hl => ?_)
    refine lv_aload_nN hx hb dX11_filled_6 rfl (lv_at hl 0 rfl) ?_
    refine lv_ifnonnullN hx hb dX11_filled_7 ?_
    refine lv_bipush (v := -2) hx hb dX11_filled_10 (by decide) ?_
    exact r_i C hr hlk hw ⟨(by rw [sp_filled, if_neg (fun h9 => by have := hR.no6; obtain ⟨i, hi, e⟩ := n_lt h9.1 h9.2 (by omega); exact h_2 i hi e)]), rfl⟩ dX11_filled_12
