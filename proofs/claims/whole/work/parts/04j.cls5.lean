set_option maxHeartbeats 4000000 in
set_option maxRecDepth 100000 in
theorem c_X11_asks (E : cE) (tt : Nat × Nat × Nat) {X : List Nat} (B : Nat → Nat) (F : tF) (G : tG) {P : tP} {nh : Nat → Nat} {nc no : Nat} {mt om : Nat → Nat} (hR : RC X P nh nc no mt om) (hCK : CK F G nc) (c0 p0 h0 w0 : Int32)  : CT E tt yX11_asks cX11_asks 7 (some .int) 4 0 0 [.ref (B (0)), .int (c0), .int (p0), .int (h0), .int (w0)] (wl E X B F G P) (fun r w => r = some (.int (sp_asks (vF F) (vG G) nc mt nh c0 p0 h0 w0)) ∧ ∃ (F1 : tF) (G1 : tG), KC F F1 ∧ KG G G1 ∧ vF F1 = vF F ∧ vG G1 = vG G ∧ w = wl E X B F1 G1 P) := by
  refine CT.mk (by decide +kernel) (Nat.le_of_ble_eq_true rfl) ?_
  intro l p e s m below meth c A ls C hr hlk hnm hw hl
  have hx := C.1
  have hb := C.2.1
  have hts := C.2.2.2.2
  have hown : s.vm.findClass RX11 = some m.cls := C.2.2.2.1
  have hl : lv_has ls 7 [(0, .ref (B (0))), (1, .int (c0)), (2, .int (p0)), (3, .int (h0)), (4, .int (w0))] := hl
  refine lv_aload_n hx hb dX11_asks_0 rfl (lv_at hl 0 rfl) ?_
  refine lv_iload_n hx hb dX11_asks_1 rfl (lv_at hl 1 rfl) ?_
  refine kV C hw (c_X11_coilAt E tt B F G hR hCK (c0)) vy_X11_coilAt ml_X11_183 (rcv hw (hR.f rfl) rfl (by decide) (q2 := (RX11, TX11, 19)) rfl) rfl hl.1 (rest := []) rfl dX11_asks_2 (Nat.le_of_ble_eq_true rfl) ⟨by decide, by decide⟩ ⟨Nat.le_of_ble_eq_true rfl, Nat.le_of_ble_eq_true rfl⟩ (fun v_2 ws_2 H locs hp_2 hq_2 => ?_)
  clear hw
  rcases hp_2 with ⟨c1, hl_c1, rfl, ok_2, rfl, rfl⟩ | ⟨h_2, rfl, rfl⟩
  · have hw := hq_2
    refine W.eq (g2 := F0 m 5 ls [.ref (B (53 + c1))]) rfl ?_
    have hn16 := hR.nc16
    have hz_c1 := i4_cl (i := c1) (by omega)
    have v1_c1 := vF_at (lc_c1 (c := c1) (by omega)) F
    have v2_c1 := vF_at (lc_c2 (c := c1) (by omega)) F
    have v3_c1 := vG_at (lc_c3 (c := c1) (by omega)) G
    have v4_c1 := vF_at (lc_c4 (c := c1) (by omega)) F
    have v5_c1 := vF_at (lc_c5 (c := c1) (by omega)) F
    have v6_c1 := vF_at (lc_c6 (c := c1) (by omega)) F
    refine lv_astore (lv' := [(5, .ref (B (53 + c1))), (0, .ref (B (0))), (1, .int (nI c1)), (2, .int (p0)), (3, .int (h0)), (4, .int (w0))]) hx hb dX11_asks_5 hl (by decide) rfl (fun ls hl => ?_)
    refine lv_aload_n hx hb dX11_asks_7 rfl (lv_at hl 1 rfl) ?_
    refine lv_iload_n hx hb dX11_asks_8 rfl (lv_at hl 3 rfl) ?_
    refine lv_iload_n hx hb dX11_asks_9 rfl (lv_at hl 4 rfl) ?_
    refine kV C hw (c_X11_holeAt E tt B F G hR (p0) (h0)) vy_X11_holeAt ml_X11_143 (rcv hw (hR.f rfl) rfl (by decide) (q2 := (RX11, TX11, 19)) rfl) rfl hl.1 (rest := []) rfl dX11_asks_10 (Nat.le_of_ble_eq_true rfl) ⟨by decide, by decide⟩ ⟨Nat.le_of_ble_eq_true rfl, Nat.le_of_ble_eq_true rfl⟩ (fun v_10 ws_10 H locs hp_10 hq_10 => ?_)
    clear hw
    rcases hp_10 with ⟨i1, j1, hl_i1, hl_j1, rfl, rfl, rfl, rfl⟩ | ⟨h_10, rfl, rfl⟩
    · have hw := hq_10
      refine W.eq (g2 := F0 m 13 ls [.ref (B (20 + (8 * i1 + j1)))]) rfl ?_
      have h8_i1 := hR.nh8 hl_i1
      have ok_10 := ok_hole_y hl_i1 hl_j1 h8_i1
      have hz_i1 := i4_cl (i := i1) (by omega)
      have hz_j1 := i4_cl (i := j1) (by omega)
      have vh0 := vF_at (lc_h0 (q := 8 * i1 + j1) (by omega)) F
      have vh1 := vF_at (lc_h1 (q := 8 * i1 + j1) (by omega)) F
      have vh2 := vF_at (lc_h2 (q := 8 * i1 + j1) (by omega)) F
      refine lv_astore (lv' := [(6, .ref (B (20 + (8 * i1 + j1)))), (5, .ref (B (53 + c1))), (0, .ref (B (0))), (1, .int (nI c1)), (2, .int (nI i1)), (3, .int (nI j1)), (4, .int (w0))]) hx hb dX11_asks_13 hl (by decide) rfl (fun ls hl => ?_)
      refine lv_aload hx hb dX11_asks_15 (lv_at hl 1 rfl) ?_
      refine lv_ifnull hx hb dX11_asks_17 ?_
      refine lv_aload hx hb dX11_asks_20 (lv_at hl 0 rfl) ?_
      refine lv_ifnonnull (tgt := 28) hx hb dX11_asks_22 (by decide) ?_
      refine lv_iload hx hb dX11_asks_28 (lv_at hl 6 rfl) ?_
      refine lv_iconst (v := 0) hx hb dX11_asks_30 (by decide) ?_
      refine lv_iconst (v := 3) hx hb dX11_asks_31 (by decide) ?_
      refine kS C hw (c_X11_isWithin E tt _ (w0) (0) (3)) vy_X11_isWithin ml_X11_89 rfl hl.1 (rest := []) rfl dX11_asks_32 (Nat.le_of_ble_eq_true rfl) ⟨by decide, by decide⟩ ⟨Nat.le_of_ble_eq_true rfl, Nat.le_of_ble_eq_true rfl⟩ (fun v_32 ws_32 H locs hp_32 hq_32 => ?_)
      clear hw
      rcases hp_32 with ⟨h_32, rfl, rfl⟩ | ⟨h_32, rfl, rfl⟩
      · have hw := hq_32
        refine W.eq (g2 := F0 m 35 ls [.int (1)]) rfl ?_
        refine lv_if_ne (tgt := 41) hx hb dX11_asks_35 (by decide) (fun _ => ?_) (fun h9 => False.elim (by revert h9; decide))
        refine lv_aload hx hb dX11_asks_41 (lv_at hl 0 rfl) ?_
        refine kV C hw (c_X3_wide E tt B F G P (hR.xh (by omega) (by omega)) (kd_hole (by omega)) ) vy_X3_wide ml_X11_155 (rcv hw (hR.xh (by omega) (by omega)) (kd_hole (by omega)) (by decide) (q2 := (RX3, TX3, 3)) rfl) rfl hl.1 (rest := []) rfl dX11_asks_43 (Nat.le_of_ble_eq_true rfl) ⟨by decide, by decide⟩ ⟨Nat.le_of_ble_eq_true rfl, Nat.le_of_ble_eq_true rfl⟩ (fun v_43 ws_43 H locs hp_43 hq_43 => ?_)
        clear hw
        obtain ⟨rfl, rfl⟩ := hp_43
        have hw := hq_43
        refine W.eq (g2 := F0 m 46 ls [.int ((F (20 + (8 * i1 + j1)) 0 + F (20 + (8 * i1 + j1)) 1 / 1000))]) rfl ?_
        refine tp_i (y := w_wide (vF F) (8 * i1 + j1)) (by rw [w_wide, vh0, vh1]) ?_
        refine lv_aload hx hb dX11_asks_46 (lv_at hl 1 rfl) ?_
        refine g_i 1 C hw (hR.xc (by omega)) (kd_coil (by omega)) fl_X11_194 rfl dX11_asks_48 ?_
        refine lv_icmp_lt (tgt := 57) hx hb dX11_asks_51 (by decide) (fun c_51 => ?_) (fun c_51 => ?_)
        · refine lv_aload_n hx hb dX11_asks_57 rfl (lv_at hl 2 rfl) ?_
          refine g_r 7 (k2 := 79) C hw (hR.f rfl) rfl fl_X11_58 rfl (hR.p0 7 (by decide)) dX11_asks_58 ?_
          refine lv_aload hx hb dX11_asks_61 (lv_at hl 1 rfl) ?_
          refine lv_aload hx hb dX11_asks_63 (lv_at hl 1 rfl) ?_
          refine g_i 1 C hw (hR.xc (by omega)) (kd_coil (by omega)) fl_X11_194 rfl dX11_asks_65 ?_
          refine lv_aload hx hb dX11_asks_68 (lv_at hl 1 rfl) ?_
          refine g_i 2 C hw (hR.xc (by omega)) (kd_coil (by omega)) fl_X11_197 rfl dX11_asks_70 ?_
          refine lv_aload hx hb dX11_asks_73 (lv_at hl 0 rfl) ?_
          refine kV C hw (c_X3_wide E tt B F G P (hR.xh (by omega) (by omega)) (kd_hole (by omega)) ) vy_X3_wide ml_X11_155 (rcv hw (hR.xh (by omega) (by omega)) (kd_hole (by omega)) (by decide) (q2 := (RX3, TX3, 3)) rfl) rfl hl.1 (rest := [.int (F (53 + c1) 2), .int (F (53 + c1) 1), .ref (B (53 + c1)), .ref (B (79))]) rfl dX11_asks_75 (Nat.le_of_ble_eq_true rfl) ⟨by decide, by decide⟩ ⟨Nat.le_of_ble_eq_true rfl, Nat.le_of_ble_eq_true rfl⟩ (fun v_75 ws_75 H locs hp_75 hq_75 => ?_)
          clear hw
          obtain ⟨rfl, rfl⟩ := hp_75
          have hw := hq_75
          refine W.eq (g2 := F0 m 78 ls [.int ((F (20 + (8 * i1 + j1)) 0 + F (20 + (8 * i1 + j1)) 1 / 1000)), .int (F (53 + c1) 2), .int (F (53 + c1) 1), .ref (B (53 + c1)), .ref (B (79))]) rfl ?_
          refine tp_i (y := w_wide (vF F) (8 * i1 + j1)) (by rw [w_wide, vh0, vh1]) ?_
          refine kV C hw (c_X2_reckon E tt B F G hR (c1 := c1) (by omega) (F (53 + c1) 1) (F (53 + c1) 2) (w_wide (vF F) (8 * i1 + j1)) ((hCK c1 hl_c1).1)) vy_X2_reckon ml_X11_215 (rcv hw (hR.f rfl) rfl (by decide) (q2 := (RX2, TX2, 5)) rfl) rfl hl.1 (rest := []) rfl dX11_asks_78 (Nat.le_of_ble_eq_true rfl) ⟨by decide, by decide⟩ ⟨Nat.le_of_ble_eq_true rfl, Nat.le_of_ble_eq_true rfl⟩ (fun v_78 ws_78 H locs hp_78 hq_78 => ?_)
          clear hw
          obtain ⟨rfl, rfl⟩ := hp_78
          have hw := hq_78
          refine W.eq (g2 := F0 m 81 ls []) rfl ?_
          refine lv_iload hx hb dX11_asks_81 (lv_at hl 6 rfl) ?_
          rcases sw_3 w0 with h_sw | h_sw | h_sw | h_sw
          · refine lv_tableIn (tgt := 108) hx hb dX11_asks_83 (by rw [h_sw]; decide) (by rw [h_sw]; decide) (by rw [h_sw]; rfl) (by decide) ?_
            refine lv_aload_n hx hb dX11_asks_108 rfl (lv_at hl 2 rfl) ?_
            refine g_r 7 (k2 := 79) C hw (hR.f rfl) rfl fl_X11_58 rfl (hR.p0 7 (by decide)) dX11_asks_109 ?_
            refine g_i 3 C hw (hR.f rfl) rfl fl_X11_219 rfl dX11_asks_112 ?_
            refine tp_i (y := (w_asks (vF F) (mt c1) (F (53 + c1) 1) (F (53 + c1) 2) (w_wide (vF F) (8 * i1 + j1))).toInt32) ((uF_n _ _ (Or.inr (by decide))).trans (uF_s _ _ _ _)) ?_
            exact r_i C hr hlk hw ⟨(by simp [sp_asks, qat, ok_2, ok_10, h_32, hz_c1, hz_i1, hz_j1, v1_c1, v2_c1, v4_c1, c_51, h_sw]), (uF (uF (uF (uF F 79 1 (w_thin (F (53 + c1) 1) (w_wide (vF F) (8 * i1 + j1)))) 79 2 (w_hard (vF F) (mt c1) (F (53 + c1) 1) (F (53 + c1) 2) (w_wide (vF F) (8 * i1 + j1)))) 79 3 ((w_asks (vF F) (mt c1) (F (53 + c1) 1) (F (53 + c1) 2) (w_wide (vF F) (8 * i1 + j1))).toInt32)) 79 4 ((w_bears (vF F) (mt c1) (F (53 + c1) 1) (F (53 + c1) 2) (w_wide (vF F) (8 * i1 + j1)) (F (53 + c1) 4)).toInt32)), G, (KC.u (KC.u (KC.u (KC.u KC.rf (by omega) (by omega) (by omega)) (by omega) (by omega) (by omega)) (by omega) (by omega) (by omega)) (by omega) (by omega) (by omega)), KG.rf, (by rw [vF_skip (a := 79) (by decide) (by decide) (uF (uF (uF F 79 1 (w_thin (F (53 + c1) 1) (w_wide (vF F) (8 * i1 + j1)))) 79 2 (w_hard (vF F) (mt c1) (F (53 + c1) 1) (F (53 + c1) 2) (w_wide (vF F) (8 * i1 + j1)))) 79 3 ((w_asks (vF F) (mt c1) (F (53 + c1) 1) (F (53 + c1) 2) (w_wide (vF F) (8 * i1 + j1))).toInt32)) _ (fun k hk => uF_o _ _ _ hk), vF_skip (a := 79) (by decide) (by decide) (uF (uF F 79 1 (w_thin (F (53 + c1) 1) (w_wide (vF F) (8 * i1 + j1)))) 79 2 (w_hard (vF F) (mt c1) (F (53 + c1) 1) (F (53 + c1) 2) (w_wide (vF F) (8 * i1 + j1)))) _ (fun k hk => uF_o _ _ _ hk), vF_skip (a := 79) (by decide) (by decide) (uF F 79 1 (w_thin (F (53 + c1) 1) (w_wide (vF F) (8 * i1 + j1)))) _ (fun k hk => uF_o _ _ _ hk), vF_skip (a := 79) (by decide) (by decide) F _ (fun k hk => uF_o _ _ _ hk)]), rfl, rfl⟩ dX11_asks_115
          · refine lv_tableIn (tgt := 116) hx hb dX11_asks_83 (by rw [h_sw]; decide) (by rw [h_sw]; decide) (by rw [h_sw]; rfl) (by decide) ?_
            refine lv_aload_n hx hb dX11_asks_116 rfl (lv_at hl 2 rfl) ?_
            refine g_r 7 (k2 := 79) C hw (hR.f rfl) rfl fl_X11_58 rfl (hR.p0 7 (by decide)) dX11_asks_117 ?_
            refine g_i 4 C hw (hR.f rfl) rfl fl_X11_222 rfl dX11_asks_120 ?_
            refine tp_i (y := (w_bears (vF F) (mt c1) (F (53 + c1) 1) (F (53 + c1) 2) (w_wide (vF F) (8 * i1 + j1)) (F (53 + c1) 4)).toInt32) (uF_s _ _ _ _) ?_
            exact r_i C hr hlk hw ⟨(by simp [sp_asks, qat, ok_2, ok_10, h_32, hz_c1, hz_i1, hz_j1, v1_c1, v2_c1, v4_c1, c_51, h_sw]), (uF (uF (uF (uF F 79 1 (w_thin (F (53 + c1) 1) (w_wide (vF F) (8 * i1 + j1)))) 79 2 (w_hard (vF F) (mt c1) (F (53 + c1) 1) (F (53 + c1) 2) (w_wide (vF F) (8 * i1 + j1)))) 79 3 ((w_asks (vF F) (mt c1) (F (53 + c1) 1) (F (53 + c1) 2) (w_wide (vF F) (8 * i1 + j1))).toInt32)) 79 4 ((w_bears (vF F) (mt c1) (F (53 + c1) 1) (F (53 + c1) 2) (w_wide (vF F) (8 * i1 + j1)) (F (53 + c1) 4)).toInt32)), G, (KC.u (KC.u (KC.u (KC.u KC.rf (by omega) (by omega) (by omega)) (by omega) (by omega) (by omega)) (by omega) (by omega) (by omega)) (by omega) (by omega) (by omega)), KG.rf, (by rw [vF_skip (a := 79) (by decide) (by decide) (uF (uF (uF F 79 1 (w_thin (F (53 + c1) 1) (w_wide (vF F) (8 * i1 + j1)))) 79 2 (w_hard (vF F) (mt c1) (F (53 + c1) 1) (F (53 + c1) 2) (w_wide (vF F) (8 * i1 + j1)))) 79 3 ((w_asks (vF F) (mt c1) (F (53 + c1) 1) (F (53 + c1) 2) (w_wide (vF F) (8 * i1 + j1))).toInt32)) _ (fun k hk => uF_o _ _ _ hk), vF_skip (a := 79) (by decide) (by decide) (uF (uF F 79 1 (w_thin (F (53 + c1) 1) (w_wide (vF F) (8 * i1 + j1)))) 79 2 (w_hard (vF F) (mt c1) (F (53 + c1) 1) (F (53 + c1) 2) (w_wide (vF F) (8 * i1 + j1)))) _ (fun k hk => uF_o _ _ _ hk), vF_skip (a := 79) (by decide) (by decide) (uF F 79 1 (w_thin (F (53 + c1) 1) (w_wide (vF F) (8 * i1 + j1)))) _ (fun k hk => uF_o _ _ _ hk), vF_skip (a := 79) (by decide) (by decide) F _ (fun k hk => uF_o _ _ _ hk)]), rfl, rfl⟩ dX11_asks_123
          · refine lv_tableIn (tgt := 124) hx hb dX11_asks_83 (by rw [h_sw]; decide) (by rw [h_sw]; decide) (by rw [h_sw]; rfl) (by decide) ?_
            refine lv_aload_n hx hb dX11_asks_124 rfl (lv_at hl 2 rfl) ?_
            refine g_r 7 (k2 := 79) C hw (hR.f rfl) rfl fl_X11_58 rfl (hR.p0 7 (by decide)) dX11_asks_125 ?_
            refine g_i 2 C hw (hR.f rfl) rfl fl_X11_225 rfl dX11_asks_128 ?_
            refine tp_i (y := w_hard (vF F) (mt c1) (F (53 + c1) 1) (F (53 + c1) 2) (w_wide (vF F) (8 * i1 + j1))) ((uF_n _ _ (Or.inr (by decide))).trans ((uF_n _ _ (Or.inr (by decide))).trans (uF_s _ _ _ _))) ?_
            exact r_i C hr hlk hw ⟨(by simp [sp_asks, qat, ok_2, ok_10, h_32, hz_c1, hz_i1, hz_j1, v1_c1, v2_c1, v4_c1, c_51, h_sw]), (uF (uF (uF (uF F 79 1 (w_thin (F (53 + c1) 1) (w_wide (vF F) (8 * i1 + j1)))) 79 2 (w_hard (vF F) (mt c1) (F (53 + c1) 1) (F (53 + c1) 2) (w_wide (vF F) (8 * i1 + j1)))) 79 3 ((w_asks (vF F) (mt c1) (F (53 + c1) 1) (F (53 + c1) 2) (w_wide (vF F) (8 * i1 + j1))).toInt32)) 79 4 ((w_bears (vF F) (mt c1) (F (53 + c1) 1) (F (53 + c1) 2) (w_wide (vF F) (8 * i1 + j1)) (F (53 + c1) 4)).toInt32)), G, (KC.u (KC.u (KC.u (KC.u KC.rf (by omega) (by omega) (by omega)) (by omega) (by omega) (by omega)) (by omega) (by omega) (by omega)) (by omega) (by omega) (by omega)), KG.rf, (by rw [vF_skip (a := 79) (by decide) (by decide) (uF (uF (uF F 79 1 (w_thin (F (53 + c1) 1) (w_wide (vF F) (8 * i1 + j1)))) 79 2 (w_hard (vF F) (mt c1) (F (53 + c1) 1) (F (53 + c1) 2) (w_wide (vF F) (8 * i1 + j1)))) 79 3 ((w_asks (vF F) (mt c1) (F (53 + c1) 1) (F (53 + c1) 2) (w_wide (vF F) (8 * i1 + j1))).toInt32)) _ (fun k hk => uF_o _ _ _ hk), vF_skip (a := 79) (by decide) (by decide) (uF (uF F 79 1 (w_thin (F (53 + c1) 1) (w_wide (vF F) (8 * i1 + j1)))) 79 2 (w_hard (vF F) (mt c1) (F (53 + c1) 1) (F (53 + c1) 2) (w_wide (vF F) (8 * i1 + j1)))) _ (fun k hk => uF_o _ _ _ hk), vF_skip (a := 79) (by decide) (by decide) (uF F 79 1 (w_thin (F (53 + c1) 1) (w_wide (vF F) (8 * i1 + j1)))) _ (fun k hk => uF_o _ _ _ hk), vF_skip (a := 79) (by decide) (by decide) F _ (fun k hk => uF_o _ _ _ hk)]), rfl, rfl⟩ dX11_asks_131
          · refine lv_tableOut (tgt := 132) hx hb dX11_asks_83 h_sw (by decide) ?_
            refine lv_aload_n hx hb dX11_asks_132 rfl (lv_at hl 2 rfl) ?_
            refine g_r 7 (k2 := 79) C hw (hR.f rfl) rfl fl_X11_58 rfl (hR.p0 7 (by decide)) dX11_asks_133 ?_
            refine g_i 1 C hw (hR.f rfl) rfl fl_X11_228 rfl dX11_asks_136 ?_
            refine tp_i (y := w_thin (F (53 + c1) 1) (w_wide (vF F) (8 * i1 + j1))) ((uF_n _ _ (Or.inr (by decide))).trans ((uF_n _ _ (Or.inr (by decide))).trans ((uF_n _ _ (Or.inr (by decide))).trans (uF_s _ _ _ _)))) ?_
            exact r_i C hr hlk hw ⟨(by simp [sp_asks, qat, ok_2, ok_10, h_32, hz_c1, hz_i1, hz_j1, v1_c1, v2_c1, v4_c1, c_51, sw_no h_sw (y := 0) (by decide) (by decide), sw_no h_sw (y := 1) (by decide) (by decide), sw_no h_sw (y := 2) (by decide) (by decide)]), (uF (uF (uF (uF F 79 1 (w_thin (F (53 + c1) 1) (w_wide (vF F) (8 * i1 + j1)))) 79 2 (w_hard (vF F) (mt c1) (F (53 + c1) 1) (F (53 + c1) 2) (w_wide (vF F) (8 * i1 + j1)))) 79 3 ((w_asks (vF F) (mt c1) (F (53 + c1) 1) (F (53 + c1) 2) (w_wide (vF F) (8 * i1 + j1))).toInt32)) 79 4 ((w_bears (vF F) (mt c1) (F (53 + c1) 1) (F (53 + c1) 2) (w_wide (vF F) (8 * i1 + j1)) (F (53 + c1) 4)).toInt32)), G, (KC.u (KC.u (KC.u (KC.u KC.rf (by omega) (by omega) (by omega)) (by omega) (by omega) (by omega)) (by omega) (by omega) (by omega)) (by omega) (by omega) (by omega)), KG.rf, (by rw [vF_skip (a := 79) (by decide) (by decide) (uF (uF (uF F 79 1 (w_thin (F (53 + c1) 1) (w_wide (vF F) (8 * i1 + j1)))) 79 2 (w_hard (vF F) (mt c1) (F (53 + c1) 1) (F (53 + c1) 2) (w_wide (vF F) (8 * i1 + j1)))) 79 3 ((w_asks (vF F) (mt c1) (F (53 + c1) 1) (F (53 + c1) 2) (w_wide (vF F) (8 * i1 + j1))).toInt32)) _ (fun k hk => uF_o _ _ _ hk), vF_skip (a := 79) (by decide) (by decide) (uF (uF F 79 1 (w_thin (F (53 + c1) 1) (w_wide (vF F) (8 * i1 + j1)))) 79 2 (w_hard (vF F) (mt c1) (F (53 + c1) 1) (F (53 + c1) 2) (w_wide (vF F) (8 * i1 + j1)))) _ (fun k hk => uF_o _ _ _ hk), vF_skip (a := 79) (by decide) (by decide) (uF F 79 1 (w_thin (F (53 + c1) 1) (w_wide (vF F) (8 * i1 + j1)))) _ (fun k hk => uF_o _ _ _ hk), vF_skip (a := 79) (by decide) (by decide) F _ (fun k hk => uF_o _ _ _ hk)]), rfl, rfl⟩ dX11_asks_139
        · refine lv_bipush (v := -4) hx hb dX11_asks_54 (by decide) ?_
          exact r_i C hr hlk hw ⟨(by simp [sp_asks, qat, ok_2, ok_10, h_32, hz_c1, hz_i1, hz_j1, v1_c1, v2_c1, v4_c1, c_51]), F, G, KC.rf, KG.rf, rfl, rfl, rfl⟩ dX11_asks_56
      · have hw := hq_32
        refine W.eq (g2 := F0 m 35 ls [.int (0)]) rfl ?_
        refine lv_if_ne (tgt := 41) hx hb dX11_asks_35 (by decide) (fun h9 => False.elim (by revert h9; decide)) (fun _ => ?_)
        refine lv_bipush (v := -3) hx hb dX11_asks_38 (by decide) ?_
        exact r_i C hr hlk hw ⟨(by simp [sp_asks, qat, ok_2, ok_10, h_32, hz_c1, hz_i1, hz_j1]), F, G, KC.rf, KG.rf, rfl, rfl, rfl⟩ dX11_asks_40
    · have hw := hq_10
      refine W.eq (g2 := F0 m 13 ls [.null]) rfl ?_
      refine lv_astoreN (lv' := [(6, .null), (5, .ref (B (53 + c1))), (0, .ref (B (0))), (1, .int (nI c1)), (2, .int (p0)), (3, .int (h0)), (4, .int (w0))]) hx hb dX11_asks_13 hl (by decide) rfl (fun ls hl => ?_)
      refine lv_aload hx hb dX11_asks_15 (lv_at hl 1 rfl) ?_
      refine lv_ifnull hx hb dX11_asks_17 ?_
      refine lv_aloadN hx hb dX11_asks_20 (lv_at hl 0 rfl) ?_
      refine lv_ifnonnullN hx hb dX11_asks_22 ?_
      refine lv_bipush (v := -2) hx hb dX11_asks_25 (by decide) ?_
      exact r_i C hr hlk hw ⟨(by simp [sp_asks, ok_2, h_10]), F, G, KC.rf, KG.rf, rfl, rfl, rfl⟩ dX11_asks_27
  · have hw := hq_2
    refine W.eq (g2 := F0 m 5 ls [.null]) rfl ?_
    refine lv_astoreN (lv' := [(5, .null), (0, .ref (B (0))), (1, .int (c0)), (2, .int (p0)), (3, .int (h0)), (4, .int (w0))]) hx hb dX11_asks_5 hl (by decide) rfl (fun ls hl => ?_)
    refine lv_aload_n hx hb dX11_asks_7 rfl (lv_at hl 1 rfl) ?_
    refine lv_iload_n hx hb dX11_asks_8 rfl (lv_at hl 3 rfl) ?_
    refine lv_iload_n hx hb dX11_asks_9 rfl (lv_at hl 4 rfl) ?_
    refine kV C hw (c_X11_holeAt E tt B F G hR (p0) (h0)) vy_X11_holeAt ml_X11_143 (rcv hw (hR.f rfl) rfl (by decide) (q2 := (RX11, TX11, 19)) rfl) rfl hl.1 (rest := []) rfl dX11_asks_10 (Nat.le_of_ble_eq_true rfl) ⟨by decide, by decide⟩ ⟨Nat.le_of_ble_eq_true rfl, Nat.le_of_ble_eq_true rfl⟩ (fun v_10 ws_10 H locs hp_10 hq_10 => ?_)
    clear hw
    rcases hp_10 with ⟨i1, j1, hl_i1, hl_j1, rfl, rfl, rfl, rfl⟩ | ⟨h_10, rfl, rfl⟩
    · have hw := hq_10
      refine W.eq (g2 := F0 m 13 ls [.ref (B (20 + (8 * i1 + j1)))]) rfl ?_
      have h8_i1 := hR.nh8 hl_i1
      have ok_10 := ok_hole_y hl_i1 hl_j1 h8_i1
      have hz_i1 := i4_cl (i := i1) (by omega)
      have hz_j1 := i4_cl (i := j1) (by omega)
      have vh0 := vF_at (lc_h0 (q := 8 * i1 + j1) (by omega)) F
      have vh1 := vF_at (lc_h1 (q := 8 * i1 + j1) (by omega)) F
      have vh2 := vF_at (lc_h2 (q := 8 * i1 + j1) (by omega)) F
      refine lv_astore (lv' := [(6, .ref (B (20 + (8 * i1 + j1)))), (5, .null), (0, .ref (B (0))), (1, .int (c0)), (2, .int (nI i1)), (3, .int (nI j1)), (4, .int (w0))]) hx hb dX11_asks_13 hl (by decide) rfl (fun ls hl => ?_)
      refine lv_aloadN hx hb dX11_asks_15 (lv_at hl 1 rfl) ?_
      refine lv_ifnullN (tgt := 25) hx hb dX11_asks_17 (by decide) ?_
      refine lv_bipush (v := -2) hx hb dX11_asks_25 (by decide) ?_
      exact r_i C hr hlk hw ⟨(by simp [sp_asks, h_2, ok_10]), F, G, KC.rf, KG.rf, rfl, rfl, rfl⟩ dX11_asks_27
    · have hw := hq_10
      refine W.eq (g2 := F0 m 13 ls [.null]) rfl ?_
      refine lv_astoreN (lv' := [(6, .null), (5, .null), (0, .ref (B (0))), (1, .int (c0)), (2, .int (p0)), (3, .int (h0)), (4, .int (w0))]) hx hb dX11_asks_13 hl (by decide) rfl (fun ls hl => ?_)
      refine lv_aloadN hx hb dX11_asks_15 (lv_at hl 1 rfl) ?_
      refine lv_ifnullN (tgt := 25) hx hb dX11_asks_17 (by decide) ?_
      refine lv_bipush (v := -2) hx hb dX11_asks_25 (by decide) ?_
      exact r_i C hr hlk hw ⟨(by simp [sp_asks, h_2, h_10]), F, G, KC.rf, KG.rf, rfl, rfl, rfl⟩ dX11_asks_27

set_option maxHeartbeats 4000000 in
set_option maxRecDepth 100000 in
theorem c_X11_pullThrough (E : cE) (tt : Nat × Nat × Nat) {X : List Nat} (B : Nat → Nat) (F : tF) (G : tG) {P : tP} {nh : Nat → Nat} {nc no : Nat} {mt om : Nat → Nat} (hR : RC X P nh nc no mt om) {c1 : Nat} (hl_c1 : c1 < nc) {i1 j1 u1 : Nat} (hi1 : i1 < 4) (hj1 : j1 < nh i1) (hu1 : u1 < 3) (hv0 : Int32) (hh : F 79 2 = hv0) (hdw : ¬ (w_wide (vF F) (8 * i1 + j1)).toInt64 * (w_wide (vF F) (8 * i1 + j1)).toInt64 = 0) (hmn : (w_quo ((d_feet (vF F) (vG G) c1 (8 * i1 + j1)).toInt64 + (F (8 + u1) 2).toInt64 - 1) (F (8 + u1) 2).toInt64).toInt32 = (d_feet (vF F) (vG G) c1 (8 * i1 + j1) + F (8 + u1) 2 - 1) / F (8 + u1) 2)  : CT E tt yX11_pullThrough cX11_pullThrough 7 (some .int) 2 0 0 [.ref (B (0)), .ref (B (53 + c1)), .ref (B (20 + (8 * i1 + j1))), .ref (B (8 + u1))] (wl E X B F G P) (fun r w => r = some (.int (d_feet (vF F) (vG G) c1 (8 * i1 + j1))) ∧ w = wl E X B (uF (uF (uF (uF (uF (uF F (53 + c1) 1 (w_wide (vF F) (8 * i1 + j1))) (53 + c1) 2 hv0) (20 + (8 * i1 + j1)) 1 (d_wear (vF F) (vG G) (mt c1) c1 (8 * i1 + j1))) (53 + c1) 5 (d_done (vF F) (vG G) c1 (8 * i1 + j1) u1)) (8 + u1) 3 (d_done (vF F) (vG G) c1 (8 * i1 + j1) u1)) 0 17 (F 0 17 + 1)) G P) := by
  refine CT.mk (by decide +kernel) (Nat.le_of_ble_eq_true rfl) ?_
  intro l p e s m below meth c A ls C hr hlk hnm hw hl
  have hx := C.1
  have hb := C.2.1
  have hts := C.2.2.2.2
  have hown : s.vm.findClass RX11 = some m.cls := C.2.2.2.1
  have hl : lv_has ls 7 [(0, .ref (B (0))), (1, .ref (B (53 + c1))), (2, .ref (B (20 + (8 * i1 + j1)))), (3, .ref (B (8 + u1)))] := hl
  have hn16 := hR.nc16
  have hm4 := hR.mt4 hl_c1
  have vm1 := vF_at (lc_m1 (i := mt c1) hm4) F
  have vm2 := vF_at (lc_m2 (i := mt c1) hm4) F
  have vm3 := vF_at (lc_m3 (i := mt c1) hm4) F
  have vs0 := vF_at (lc_set (j := 0) (by decide)) F
  have vs1 := vF_at (lc_set (j := 1) (by decide)) F
  have h8 := hR.nh8 hi1
  have vh0 := vF_at (lc_h0 (q := 8 * i1 + j1) (by omega)) F
  have vh1 := vF_at (lc_h1 (q := 8 * i1 + j1) (by omega)) F
  have vp2 := vF_at (lc_p2 (i := u1) (by omega)) F
  have vp3 := vF_at (lc_p3 (i := u1) (by omega)) F
  have v2 := vF_at (lc_c2 (c := c1) (by omega)) F
  have v3 := vG_at (lc_c3 (c := c1) (by omega)) G
  have v5 := vF_at (lc_c5 (c := c1) (by omega)) F
  have vm4 := vF_at (lc_m4 (i := mt c1) hm4) F
  refine lv_aload_n hx hb dX11_pullThrough_0 rfl (lv_at hl 1 rfl) ?_
  refine g_i 2 C hw (hR.xc (by omega)) (kd_coil (by omega)) fl_X11_197 rfl dX11_pullThrough_1 ?_
  refine lv_istore (lv' := [(4, .int (F (53 + c1) 2)), (0, .ref (B (0))), (1, .ref (B (53 + c1))), (2, .ref (B (20 + (8 * i1 + j1)))), (3, .ref (B (8 + u1)))]) hx hb dX11_pullThrough_4 hl (by decide) rfl (fun ls hl => ?_)
  refine lv_aload_n hx hb dX11_pullThrough_6 rfl (lv_at hl 2 rfl) ?_
  refine lv_aload_n hx hb dX11_pullThrough_7 rfl (lv_at hl 3 rfl) ?_
  refine kV C hw (c_X3_wide E tt B F G P (hR.xh (by omega) (by omega)) (kd_hole (by omega)) ) vy_X3_wide ml_X11_155 (rcv hw (hR.xh (by omega) (by omega)) (kd_hole (by omega)) (by decide) (q2 := (RX3, TX3, 3)) rfl) rfl hl.1 (rest := [.ref (B (53 + c1))]) rfl dX11_pullThrough_8 (Nat.le_of_ble_eq_true rfl) ⟨by decide, by decide⟩ ⟨Nat.le_of_ble_eq_true rfl, Nat.le_of_ble_eq_true rfl⟩ (fun v_8 ws_8 H locs hp_8 hq_8 => ?_)
  clear hw
  obtain ⟨rfl, rfl⟩ := hp_8
  have hw := hq_8
  refine W.eq (g2 := F0 m 11 ls [.int ((F (20 + (8 * i1 + j1)) 0 + F (20 + (8 * i1 + j1)) 1 / 1000)), .ref (B (53 + c1))]) rfl ?_
  refine tp_i (y := w_wide (vF F) (8 * i1 + j1)) (by rw [w_wide, vh0, vh1]) ?_
  refine p_i 1 C hw (hR.xc (by omega)) (kd_coil (by omega)) fl_X11_194 fc_0 fn_0_1 (fun h9 => by cases h9) rfl rfl rfl dX11_pullThrough_11 (fun H locs hw => ?_)
  refine lv_aload_n hx hb dX11_pullThrough_14 rfl (lv_at hl 2 rfl) ?_
  refine lv_aload_n hx hb dX11_pullThrough_15 rfl (lv_at hl 1 rfl) ?_
  refine g_r 7 (k2 := 79) C hw (hR.f rfl) rfl fl_X11_58 rfl (hR.p0 7 (by decide)) dX11_pullThrough_16 ?_
  refine g_i 2 C hw (hR.f rfl) rfl fl_X11_225 rfl dX11_pullThrough_19 ?_
  refine tp_i (y := F 79 2) ((uF_n _ _ (Or.inl (by omega))).trans (rfl)) ?_
  refine tp_i (y := hv0) (hh) ?_
  refine p_i 2 C hw (hR.xc (by omega)) (kd_coil (by omega)) fl_X11_197 fc_0 fn_0_2 (fun h9 => by cases h9) rfl rfl rfl dX11_pullThrough_22 (fun H locs hw => ?_)
  refine lv_aload_n hx hb dX11_pullThrough_25 rfl (lv_at hl 2 rfl) ?_
  refine kV C hw (c_X0_feet E tt B (uF (uF F (53 + c1) 1 (w_wide (vF F) (8 * i1 + j1))) (53 + c1) 2 hv0) G P (hR.xc (by omega)) (kd_coil (by omega))  (by rw [uF_n _ _ (Or.inr (by decide)), uF_s]; exact hdw)) vy_X0_feet ml_X11_200 (rcv hw (hR.xc (by omega)) (kd_coil (by omega)) (by decide) (q2 := (RX0, TX0, 7)) rfl) rfl hl.1 (rest := []) rfl dX11_pullThrough_26 (Nat.le_of_ble_eq_true rfl) ⟨by decide, by decide⟩ ⟨Nat.le_of_ble_eq_true rfl, Nat.le_of_ble_eq_true rfl⟩ (fun v_26 ws_26 H locs hp_26 hq_26 => ?_)
  clear hw
  obtain ⟨rfl, rfl⟩ := hp_26
  have hw := hq_26
  refine W.eq (g2 := F0 m 29 ls [.int (w_ft (G (53 + c1) 3) ((uF (uF F (53 + c1) 1 (w_wide (vF F) (8 * i1 + j1))) (53 + c1) 2 hv0) (53 + c1) 1))]) rfl ?_
  refine tp_i (y := d_feet (vF F) (vG G) c1 (8 * i1 + j1)) (by rw [d_feet, v3, uF_n _ _ (Or.inr (by decide)), uF_s]) ?_
  refine lv_istore (lv' := [(5, .int (d_feet (vF F) (vG G) c1 (8 * i1 + j1))), (4, .int (F (53 + c1) 2)), (0, .ref (B (0))), (1, .ref (B (53 + c1))), (2, .ref (B (20 + (8 * i1 + j1)))), (3, .ref (B (8 + u1)))]) hx hb dX11_pullThrough_29 hl (by decide) rfl (fun ls hl => ?_)
  refine lv_aload_n hx hb dX11_pullThrough_31 rfl (lv_at hl 4 rfl) ?_
  refine lv_dup hx hb dX11_pullThrough_32 rfl ?_
  refine g_i 1 C hw (hR.xh (by omega) (by omega)) (kd_hole (by omega)) fl_X11_152 rfl dX11_pullThrough_33 ?_
  refine tp_i (y := F (20 + (8 * i1 + j1)) 1) ((uF_n _ _ (Or.inl (by omega))).trans ((uF_n _ _ (Or.inl (by omega))).trans (rfl))) ?_
  refine lv_iload hx hb dX11_pullThrough_36 (lv_at hl 0 rfl) ?_
  refine lv_i2l hx hb dX11_pullThrough_38 rfl ?_
  refine lv_aload_n hx hb dX11_pullThrough_39 rfl (lv_at hl 3 rfl) ?_
  refine g_r 0 (k2 := 3 + mt c1) C hw (hR.xc (by omega)) (kd_coil (by omega)) fl_X11_187 rfl (hR.cm (by omega)) dX11_pullThrough_40 ?_
  refine g_i 4 C hw (hR.xm (by omega)) (kd_metal (by omega)) fl_X11_103 rfl dX11_pullThrough_43 ?_
  refine tp_i (y := F (3 + mt c1) 4) ((uF_n _ _ (Or.inl (by omega))).trans ((uF_n _ _ (Or.inl (by omega))).trans (rfl))) ?_
  refine lv_i2l hx hb dX11_pullThrough_46 rfl ?_
  refine lv_lmul hx hb dX11_pullThrough_47 ?_
  refine lv_bipush (v := 100) hx hb dX11_pullThrough_48 (by decide) ?_
  refine lv_iload hx hb dX11_pullThrough_50 (lv_at hl 1 rfl) ?_
  refine lv_iadd hx hb dX11_pullThrough_52 ?_
  refine lv_i2l hx hb dX11_pullThrough_53 rfl ?_
  refine lv_lmul hx hb dX11_pullThrough_54 ?_
  refine lv_ldc2 (v := 10000) hx hb hown (hts _ kc_X11_388) dX11_pullThrough_55 ?_
  refine lv_ldiv hx hb dX11_pullThrough_58 (by decide) ?_
  refine lv_l2i hx hb dX11_pullThrough_59 rfl ?_
  refine lv_iadd hx hb dX11_pullThrough_60 ?_
  refine tp_i (y := d_wear (vF F) (vG G) (mt c1) c1 (8 * i1 + j1)) (by rw [d_wear, vh1, vm4, v2]) ?_
  refine p_i 1 C hw (hR.xh (by omega) (by omega)) (kd_hole (by omega)) fl_X11_152 fc_3 fn_3_1 (fun h9 => by cases h9) rfl rfl rfl dX11_pullThrough_61 (fun H locs hw => ?_)
  refine lv_aload_n hx hb dX11_pullThrough_64 rfl (lv_at hl 3 rfl) ?_
  refine g_i 5 C hw (hR.xc (by omega)) (kd_coil (by omega)) fl_X11_206 rfl dX11_pullThrough_65 ?_
  refine tp_i (y := F (53 + c1) 5) ((uF_n _ _ (Or.inl (by omega))).trans ((uF_n _ _ (Or.inr (by decide))).trans ((uF_n _ _ (Or.inr (by decide))).trans (rfl)))) ?_
  refine lv_aload_n hx hb dX11_pullThrough_68 rfl (lv_at hl 5 rfl) ?_
  refine g_i 3 C hw (hR.xp (by omega)) (kd_puller (by omega)) fl_X11_277 rfl dX11_pullThrough_69 ?_
  refine tp_i (y := F (8 + u1) 3) ((uF_n _ _ (Or.inl (by omega))).trans ((uF_n _ _ (Or.inl (by omega))).trans ((uF_n _ _ (Or.inl (by omega))).trans (rfl)))) ?_
  refine va_mmax hx hb (C.2.2.1.trans hl.1.symm) hown (hts _ ml_X11_246) (hts _ mh_max_s) (hts _ in_J9) (hts _ mh_max_c) (by decide) (by decide) (by decide) (by decide) dX11_pullThrough_72 ?_
  refine lv_aload_n hx hb dX11_pullThrough_75 rfl (lv_at hl 5 rfl) ?_
  refine lv_iload hx hb dX11_pullThrough_76 (lv_at hl 0 rfl) ?_
  refine kV C hw (c_X8_minutesFor E tt B (uF (uF (uF F (53 + c1) 1 (w_wide (vF F) (8 * i1 + j1))) (53 + c1) 2 hv0) (20 + (8 * i1 + j1)) 1 (d_wear (vF F) (vG G) (mt c1) c1 (8 * i1 + j1))) G P (hR.xp (by omega)) (kd_puller (by omega)) (d_feet (vF F) (vG G) c1 (8 * i1 + j1))) vy_X8_minutesFor ml_X11_390 (rcv hw (hR.xp (by omega)) (kd_puller (by omega)) (by decide) (q2 := (RX8, TX8, 4)) rfl) rfl hl.1 (rest := [.int ((if (F (53 + c1) 5) < (F (8 + u1) 3) then (F (8 + u1) 3) else (F (53 + c1) 5)))]) rfl dX11_pullThrough_78 (Nat.le_of_ble_eq_true rfl) ⟨by decide, by decide⟩ ⟨Nat.le_of_ble_eq_true rfl, Nat.le_of_ble_eq_true rfl⟩ (fun v_78 ws_78 H locs hp_78 hq_78 => ?_)
  clear hw
  obtain ⟨rfl, rfl⟩ := hp_78
  have hw := hq_78
  refine W.eq (g2 := F0 m 81 ls [.int ((w_quo ((d_feet (vF F) (vG G) c1 (8 * i1 + j1) : Int32).toInt64 + ((uF (uF (uF F (53 + c1) 1 (w_wide (vF F) (8 * i1 + j1))) (53 + c1) 2 hv0) (20 + (8 * i1 + j1)) 1 (d_wear (vF F) (vG G) (mt c1) c1 (8 * i1 + j1))) (8 + u1) 2).toInt64 - 1) ((uF (uF (uF F (53 + c1) 1 (w_wide (vF F) (8 * i1 + j1))) (53 + c1) 2 hv0) (20 + (8 * i1 + j1)) 1 (d_wear (vF F) (vG G) (mt c1) c1 (8 * i1 + j1))) (8 + u1) 2).toInt64).toInt32 + 1), .int ((if (F (53 + c1) 5) < (F (8 + u1) 3) then (F (8 + u1) 3) else (F (53 + c1) 5)))]) rfl ?_
  refine tp_i (y := (d_feet (vF F) (vG G) c1 (8 * i1 + j1) + F (8 + u1) 2 - 1) / F (8 + u1) 2 + 1) (by rw [uF_n _ _ (Or.inl (by omega)), uF_n _ _ (Or.inl (by omega)), uF_n _ _ (Or.inl (by omega)), hmn]) ?_
  refine lv_iadd hx hb dX11_pullThrough_81 ?_
  refine tp_i (y := d_done (vF F) (vG G) c1 (8 * i1 + j1) u1) (by rw [d_done, vp3, v5, vp2, max_c, Int32.add_assoc]) ?_
  refine lv_istore (lv' := [(6, .int (d_done (vF F) (vG G) c1 (8 * i1 + j1) u1)), (5, .int (d_feet (vF F) (vG G) c1 (8 * i1 + j1))), (4, .int (F (53 + c1) 2)), (0, .ref (B (0))), (1, .ref (B (53 + c1))), (2, .ref (B (20 + (8 * i1 + j1)))), (3, .ref (B (8 + u1)))]) hx hb dX11_pullThrough_82 hl (by decide) rfl (fun ls hl => ?_)
  refine lv_aload_n hx hb dX11_pullThrough_84 rfl (lv_at hl 4 rfl) ?_
  refine lv_iload hx hb dX11_pullThrough_85 (lv_at hl 0 rfl) ?_
  refine p_i 5 C hw (hR.xc (by omega)) (kd_coil (by omega)) fl_X11_206 fc_0 fn_0_5 (fun h9 => by cases h9) rfl rfl rfl dX11_pullThrough_87 (fun H locs hw => ?_)
  refine lv_aload_n hx hb dX11_pullThrough_90 rfl (lv_at hl 6 rfl) ?_
  refine lv_iload hx hb dX11_pullThrough_91 (lv_at hl 0 rfl) ?_
  refine p_i 3 C hw (hR.xp (by omega)) (kd_puller (by omega)) fl_X11_277 fc_8 fn_8_3 (fun h9 => by cases h9) rfl rfl rfl dX11_pullThrough_93 (fun H locs hw => ?_)
  refine lv_aload_n hx hb dX11_pullThrough_96 rfl (lv_at hl 3 rfl) ?_
  refine lv_dup hx hb dX11_pullThrough_97 rfl ?_
  refine g_i 17 C hw (hR.f rfl) rfl fl_X11_379 rfl dX11_pullThrough_98 ?_
  refine tp_i (y := F 0 17) ((uF_n _ _ (Or.inl (by omega))).trans ((uF_n _ _ (Or.inl (by omega))).trans ((uF_n _ _ (Or.inl (by omega))).trans ((uF_n _ _ (Or.inl (by omega))).trans ((uF_n _ _ (Or.inl (by omega))).trans (rfl)))))) ?_
  refine lv_iconst (v := 1) hx hb dX11_pullThrough_101 (by decide) ?_
  refine lv_iadd hx hb dX11_pullThrough_102 ?_
  refine p_i 17 C hw (hR.f rfl) rfl fl_X11_379 fc_11 fn_11_17 (fun h9 => by cases h9) rfl rfl rfl dX11_pullThrough_103 (fun H locs hw => ?_)
  refine lv_iload hx hb dX11_pullThrough_106 (lv_at hl 1 rfl) ?_
  exact r_i C hr hlk hw ⟨rfl, rfl⟩ dX11_pullThrough_108

set_option maxHeartbeats 4000000 in
set_option maxRecDepth 100000 in
theorem c_X11_draw (E : cE) (tt : Nat × Nat × Nat) {X : List Nat} (B : Nat → Nat) (F : tF) (G : tG) {P : tP} {nh : Nat → Nat} {nc no : Nat} {mt om : Nat → Nat} (hR : RC X P nh nc no mt om) (hCK : CK F G nc) (hwh : WHok F) (hRF : RFok F nc nh mt) (hMN : MNok F G nc nh) (hHZ : HZ (vF F) nh) (c0 p0 h0 u0 : Int32)  : CT E tt yX11_draw cX11_draw 9 (some .int) 4 0 0 [.ref (B (0)), .int (c0), .int (p0), .int (h0), .int (u0)] (wl E X B F G P) (fun r w => r = some (.int (sp_draw (vF F) (vG G) nc mt nh c0 p0 h0 u0)) ∧ ∃ (F1 : tF) (G1 : tG), KC F F1 ∧ KG G G1 ∧ vF F1 = st_draw (vF F) (vG G) nc mt nh c0 p0 h0 u0 ∧ vG G1 = vG G ∧ w = wl E X B F1 G1 P) := by
  refine CT.mk (by decide +kernel) (Nat.le_of_ble_eq_true rfl) ?_
  intro l p e s m below meth c A ls C hr hlk hnm hw hl
  have hx := C.1
  have hb := C.2.1
  have hts := C.2.2.2.2
  have hown : s.vm.findClass RX11 = some m.cls := C.2.2.2.1
  have hl : lv_has ls 9 [(0, .ref (B (0))), (1, .int (c0)), (2, .int (p0)), (3, .int (h0)), (4, .int (u0))] := hl
  refine lv_aload_n hx hb dX11_draw_0 rfl (lv_at hl 0 rfl) ?_
  refine lv_iload_n hx hb dX11_draw_1 rfl (lv_at hl 1 rfl) ?_
  refine kV C hw (c_X11_coilAt E tt B F G hR hCK (c0)) vy_X11_coilAt ml_X11_183 (rcv hw (hR.f rfl) rfl (by decide) (q2 := (RX11, TX11, 19)) rfl) rfl hl.1 (rest := []) rfl dX11_draw_2 (Nat.le_of_ble_eq_true rfl) ⟨by decide, by decide⟩ ⟨Nat.le_of_ble_eq_true rfl, Nat.le_of_ble_eq_true rfl⟩ (fun v_2 ws_2 H locs hp_2 hq_2 => ?_)
  clear hw
  rcases hp_2 with ⟨c1, hl_c1, rfl, ok_2, rfl, rfl⟩ | ⟨h_2, rfl, rfl⟩
  · have hw := hq_2
    refine W.eq (g2 := F0 m 5 ls [.ref (B (53 + c1))]) rfl ?_
    have hn16 := hR.nc16
    have hz_c1 := i4_cl (i := c1) (by omega)
    have v1_c1 := vF_at (lc_c1 (c := c1) (by omega)) F
    have v2_c1 := vF_at (lc_c2 (c := c1) (by omega)) F
    have v3_c1 := vG_at (lc_c3 (c := c1) (by omega)) G
    have v4_c1 := vF_at (lc_c4 (c := c1) (by omega)) F
    have v5_c1 := vF_at (lc_c5 (c := c1) (by omega)) F
    have v6_c1 := vF_at (lc_c6 (c := c1) (by omega)) F
    refine lv_astore (lv' := [(5, .ref (B (53 + c1))), (0, .ref (B (0))), (1, .int (nI c1)), (2, .int (p0)), (3, .int (h0)), (4, .int (u0))]) hx hb dX11_draw_5 hl (by decide) rfl (fun ls hl => ?_)
    refine lv_aload_n hx hb dX11_draw_7 rfl (lv_at hl 1 rfl) ?_
    refine lv_iload_n hx hb dX11_draw_8 rfl (lv_at hl 3 rfl) ?_
    refine lv_iload_n hx hb dX11_draw_9 rfl (lv_at hl 4 rfl) ?_
    refine kV C hw (c_X11_holeAt E tt B F G hR (p0) (h0)) vy_X11_holeAt ml_X11_143 (rcv hw (hR.f rfl) rfl (by decide) (q2 := (RX11, TX11, 19)) rfl) rfl hl.1 (rest := []) rfl dX11_draw_10 (Nat.le_of_ble_eq_true rfl) ⟨by decide, by decide⟩ ⟨Nat.le_of_ble_eq_true rfl, Nat.le_of_ble_eq_true rfl⟩ (fun v_10 ws_10 H locs hp_10 hq_10 => ?_)
    clear hw
    rcases hp_10 with ⟨i1, j1, hl_i1, hl_j1, rfl, rfl, rfl, rfl⟩ | ⟨h_10, rfl, rfl⟩
    · have hw := hq_10
      refine W.eq (g2 := F0 m 13 ls [.ref (B (20 + (8 * i1 + j1)))]) rfl ?_
      have h8_i1 := hR.nh8 hl_i1
      have ok_10 := ok_hole_y hl_i1 hl_j1 h8_i1
      have hz_i1 := i4_cl (i := i1) (by omega)
      have hz_j1 := i4_cl (i := j1) (by omega)
      have vh0 := vF_at (lc_h0 (q := 8 * i1 + j1) (by omega)) F
      have vh1 := vF_at (lc_h1 (q := 8 * i1 + j1) (by omega)) F
      have vh2 := vF_at (lc_h2 (q := 8 * i1 + j1) (by omega)) F
      refine lv_astore (lv' := [(6, .ref (B (20 + (8 * i1 + j1)))), (5, .ref (B (53 + c1))), (0, .ref (B (0))), (1, .int (nI c1)), (2, .int (nI i1)), (3, .int (nI j1)), (4, .int (u0))]) hx hb dX11_draw_13 hl (by decide) rfl (fun ls hl => ?_)
      refine lv_aload_n hx hb dX11_draw_15 rfl (lv_at hl 2 rfl) ?_
      refine lv_iload hx hb dX11_draw_16 (lv_at hl 6 rfl) ?_
      refine kV C hw (c_X11_pullerAt E tt B F G hR (u0)) vy_X11_pullerAt ml_X11_121 (rcv hw (hR.f rfl) rfl (by decide) (q2 := (RX11, TX11, 19)) rfl) rfl hl.1 (rest := []) rfl dX11_draw_18 (Nat.le_of_ble_eq_true rfl) ⟨by decide, by decide⟩ ⟨Nat.le_of_ble_eq_true rfl, Nat.le_of_ble_eq_true rfl⟩ (fun v_18 ws_18 H locs hp_18 hq_18 => ?_)
      clear hw
      rcases hp_18 with ⟨u1, hl_u1, rfl, rfl, rfl⟩ | ⟨h_18, rfl, rfl⟩
      · have hw := hq_18
        refine W.eq (g2 := F0 m 21 ls [.ref (B (8 + u1))]) rfl ?_
        have hz_u1 := i4_cl (i := u1) (by omega)
        have hpu : 0 ≤ nI u1 ∧ nI u1 ≤ 2 := i_rng (i := u1) (n := 2) (by omega) (by decide)
        refine lv_astore (lv' := [(7, .ref (B (8 + u1))), (6, .ref (B (20 + (8 * i1 + j1)))), (5, .ref (B (53 + c1))), (0, .ref (B (0))), (1, .int (nI c1)), (2, .int (nI i1)), (3, .int (nI j1)), (4, .int (nI u1))]) hx hb dX11_draw_21 hl (by decide) rfl (fun ls hl => ?_)
        refine lv_aload hx hb dX11_draw_23 (lv_at hl 2 rfl) ?_
        refine lv_ifnull hx hb dX11_draw_25 ?_
        refine lv_aload hx hb dX11_draw_28 (lv_at hl 1 rfl) ?_
        refine lv_ifnull hx hb dX11_draw_30 ?_
        refine lv_aload hx hb dX11_draw_33 (lv_at hl 0 rfl) ?_
        refine lv_ifnonnull (tgt := 41) hx hb dX11_draw_35 (by decide) ?_
        refine lv_aload_n hx hb dX11_draw_41 rfl (lv_at hl 3 rfl) ?_
        refine g_r 7 (k2 := 79) C hw (hR.f rfl) rfl fl_X11_58 rfl (hR.p0 7 (by decide)) dX11_draw_42 ?_
        refine lv_aload hx hb dX11_draw_45 (lv_at hl 2 rfl) ?_
        refine lv_aload hx hb dX11_draw_47 (lv_at hl 2 rfl) ?_
        refine g_i 1 C hw (hR.xc (by omega)) (kd_coil (by omega)) fl_X11_194 rfl dX11_draw_49 ?_
        refine lv_aload hx hb dX11_draw_52 (lv_at hl 2 rfl) ?_
        refine g_i 2 C hw (hR.xc (by omega)) (kd_coil (by omega)) fl_X11_197 rfl dX11_draw_54 ?_
        refine lv_aload hx hb dX11_draw_57 (lv_at hl 1 rfl) ?_
        refine lv_aload_n hx hb dX11_draw_59 rfl (lv_at hl 3 rfl) ?_
        refine lv_aload hx hb dX11_draw_60 (lv_at hl 0 rfl) ?_
        refine kV C hw (c_X11_pullOf E tt B F G hR hwh (u1 := u1) (by omega)) vy_X11_pullOf ml_X11_231 (rcv hw (hR.f rfl) rfl (by decide) (q2 := (RX11, TX11, 19)) rfl) rfl hl.1 (rest := [.ref (B (20 + (8 * i1 + j1))), .int (F (53 + c1) 2), .int (F (53 + c1) 1), .ref (B (53 + c1)), .ref (B (79))]) rfl dX11_draw_62 (Nat.le_of_ble_eq_true rfl) ⟨by decide, by decide⟩ ⟨Nat.le_of_ble_eq_true rfl, Nat.le_of_ble_eq_true rfl⟩ (fun v_62 ws_62 H locs hp_62 hq_62 => ?_)
        clear hw
        obtain ⟨rfl, rfl⟩ := hp_62
        have hw := hq_62
        refine W.eq (g2 := F0 m 65 ls [.int ((w_pull (vF F) u1).toInt32), .ref (B (20 + (8 * i1 + j1))), .int (F (53 + c1) 2), .int (F (53 + c1) 1), .ref (B (53 + c1)), .ref (B (79))]) rfl ?_
        refine kV C hw (c_X2_refusal E tt B F G hR (c1 := c1) (by omega) (i1 := i1) (j1 := j1) (by omega) (by omega) (F (53 + c1) 1) (F (53 + c1) 2) ((w_pull (vF F) u1).toInt32) ((hCK c1 hl_c1).1)) vy_X2_refusal ml_X11_235 (rcv hw (hR.f rfl) rfl (by decide) (q2 := (RX2, TX2, 5)) rfl) rfl hl.1 (rest := []) rfl dX11_draw_65 (Nat.le_of_ble_eq_true rfl) ⟨by decide, by decide⟩ ⟨Nat.le_of_ble_eq_true rfl, Nat.le_of_ble_eq_true rfl⟩ (fun v_65 ws_65 H locs hp_65 hq_65 => ?_)
        clear hw
        obtain ⟨rfl, F_65, hF_65, hh_65, rfl⟩ := hp_65
        have hw := hq_65
        refine W.eq (g2 := F0 m 68 ls [.int (w_rf (vF F) (mt c1) (F (53 + c1) 4) (F (53 + c1) 1) (F (53 + c1) 2) (8 * i1 + j1) ((w_pull (vF F) u1).toInt32))]) rfl ?_
        refine tp_i (y := if w_ag (vF F) (mt c1) (F (53 + c1) 4) (F (53 + c1) 1) (F (53 + c1) 2) (8 * i1 + j1) u1 = 1 then 0 else w_ag (vF F) (mt c1) (F (53 + c1) 4) (F (53 + c1) 1) (F (53 + c1) 2) (8 * i1 + j1) u1) (hRF c1 i1 j1 u1 hl_c1 hl_i1 hl_j1 hl_u1) ?_
        refine lv_istore (lv' := [(8, .int (if w_ag (vF F) (mt c1) (F (53 + c1) 4) (F (53 + c1) 1) (F (53 + c1) 2) (8 * i1 + j1) u1 = 1 then 0 else w_ag (vF F) (mt c1) (F (53 + c1) 4) (F (53 + c1) 1) (F (53 + c1) 2) (8 * i1 + j1) u1)), (7, .ref (B (8 + u1))), (6, .ref (B (20 + (8 * i1 + j1)))), (5, .ref (B (53 + c1))), (0, .ref (B (0))), (1, .int (nI c1)), (2, .int (nI i1)), (3, .int (nI j1)), (4, .int (nI u1))]) hx hb dX11_draw_68 hl (by decide) rfl (fun ls hl => ?_)
        have hv65 : vF F_65 = vF F := vF_skip (a := 79) (by decide) (by decide) F F_65 hF_65
        refine lv_iload hx hb dX11_draw_70 (lv_at hl 0 rfl) ?_
        refine lv_if_ge (tgt := 80) hx hb dX11_draw_72 (by decide) (fun c_72 => ?_) (fun c_72 => ?_)
        · have hag : w_ag (vF F) (mt c1) (F (53 + c1) 4) (F (53 + c1) 1) (F (53 + c1) 2) (8 * i1 + j1) u1 = 1 := Classical.byContradiction (fun h9 => by rw [if_neg h9] at c_72; exact absurd c_72 (Int32.not_le.mpr (w_ag_neg h9)))
          have hrf0 : w_rf (vF F) (mt c1) (F (53 + c1) 4) (F (53 + c1) 1) (F (53 + c1) 2) (8 * i1 + j1) (w_pull (vF F) u1).toInt32 = 0 := by rw [hRF c1 i1 j1 u1 hl_c1 hl_i1 hl_j1 hl_u1, if_pos hag]
          have hdw := hHZ.1 i1 j1 hl_i1 hl_j1
          refine lv_aload_n hx hb dX11_draw_80 rfl (lv_at hl 4 rfl) ?_
          refine lv_aload hx hb dX11_draw_81 (lv_at hl 3 rfl) ?_
          refine lv_aload hx hb dX11_draw_83 (lv_at hl 2 rfl) ?_
          refine lv_aload hx hb dX11_draw_85 (lv_at hl 1 rfl) ?_
          refine kV C hw (c_X11_pullThrough E tt B F_65 G hR (c1 := c1) (by omega) (i1 := i1) (j1 := j1) (u1 := u1) (by omega) (by omega) (by omega) _ (hh_65 hrf0) (by rw [hv65]; exact hdw) (by rw [hv65, hF_65 _ (by omega)]; exact hMN c1 i1 j1 u1 hl_c1 hl_i1 hl_j1 hl_u1)) vy_X11_pullThrough ml_X11_239 (rcv hw (hR.f rfl) rfl (by decide) (q2 := (RX11, TX11, 19)) rfl) rfl hl.1 (rest := []) rfl dX11_draw_87 (Nat.le_of_ble_eq_true rfl) ⟨by decide, by decide⟩ ⟨Nat.le_of_ble_eq_true rfl, Nat.le_of_ble_eq_true rfl⟩ (fun v_87 ws_87 H locs hp_87 hq_87 => ?_)
          clear hw
          obtain ⟨rfl, rfl⟩ := hp_87
          have hw := hq_87
          refine W.eq (g2 := F0 m 90 ls [.int (d_feet (vF F_65) (vG G) c1 (8 * i1 + j1))]) rfl ?_
          exact r_i C hr hlk hw ⟨(by simp only [sp_draw, ok_draw, ag_at, qat, ok_2, ok_10, hpu, hz_c1, hz_i1, hz_j1, hz_u1, v1_c1, v2_c1, v4_c1, Bool.true_and, decide_true, and_self, if_true]; simp [hag, hv65]), (uF (uF (uF (uF (uF (uF F_65 (53 + c1) 1 (w_wide (vF F_65) (8 * i1 + j1))) (53 + c1) 2 (w_hard (vF F) (mt c1) (F (53 + c1) 1) (F (53 + c1) 2) (w_wide (vF F) (8 * i1 + j1)))) (20 + (8 * i1 + j1)) 1 (d_wear (vF F_65) (vG G) (mt c1) c1 (8 * i1 + j1))) (53 + c1) 5 (d_done (vF F_65) (vG G) c1 (8 * i1 + j1) u1)) (8 + u1) 3 (d_done (vF F_65) (vG G) c1 (8 * i1 + j1) u1)) 0 17 (F_65 0 17 + 1)), G, (KC.u (KC.u (KC.u (KC.u (KC.u (KC.u (KC.s (by decide) (by decide) hF_65) (by omega) (by omega) (by omega)) (by omega) (by omega) (by omega)) (by omega) (by omega) (by omega)) (by omega) (by omega) (by omega)) (by omega) (by omega) (by omega)) (by omega) (by omega) (by omega)), KG.rf, (by rw [vF_up (lc_x34), vF_up (lc_p3 (i := u1) (by omega)), vF_up (lc_c5 (c := c1) (by omega)), vF_up (lc_h1 (q := 8 * i1 + j1) (by omega)), vF_up (lc_c2 (c := c1) (by omega)), vF_up (lc_c1 (c := c1) (by omega)), hv65, hF_65 0 (by decide), ← vF_at lc_x34 F, uF_comm 116 c1 117 c1 (by omega), uF_comm 120 c1 109 u1 (by omega)]; simp only [st_draw, ok_draw, ag_at, qat, ok_2, ok_10, hpu, hz_c1, hz_i1, hz_j1, hz_u1, v1_c1, v2_c1, v4_c1, Bool.true_and, decide_true, and_self, if_true]; simp [hag, dF, v1_c1, v2_c1]), rfl, rfl⟩ dX11_draw_90
        · have hag : ¬ w_ag (vF F) (mt c1) (F (53 + c1) 4) (F (53 + c1) 1) (F (53 + c1) 2) (8 * i1 + j1) u1 = 1 := fun h9 => by rw [if_pos h9] at c_72; exact c_72 (by decide)
          refine lv_iload hx hb dX11_draw_75 (lv_at hl 0 rfl) ?_
          refine lv_goto (tgt := 90) hx hb dX11_draw_77 (by decide) ?_
          exact r_i C hr hlk hw ⟨(by simp only [sp_draw, ok_draw, ag_at, qat, ok_2, ok_10, hpu, hz_c1, hz_i1, hz_j1, hz_u1, v1_c1, v2_c1, v4_c1, Bool.true_and, decide_true, and_self, if_true]; simp [hag]), F_65, G, KC.s (by decide) (by decide) hF_65, KG.rf, (by rw [hv65]; simp only [st_draw, ok_draw, ag_at, qat, ok_2, ok_10, hpu, hz_c1, hz_i1, hz_j1, hz_u1, v1_c1, v2_c1, v4_c1, Bool.true_and, decide_true, and_self, if_true]; simp [hag]), rfl, rfl⟩ dX11_draw_90
      · have hw := hq_18
        refine W.eq (g2 := F0 m 21 ls [.null]) rfl ?_
        have hpu : ¬ (0 ≤ u0 ∧ u0 ≤ 2) := fun h9 => by obtain ⟨i, hi, e⟩ := n_of (n := 2) h9.1 h9.2 (by decide); exact h_18 i (by omega) e
        refine lv_astoreN (lv' := [(7, .null), (6, .ref (B (20 + (8 * i1 + j1)))), (5, .ref (B (53 + c1))), (0, .ref (B (0))), (1, .int (nI c1)), (2, .int (nI i1)), (3, .int (nI j1)), (4, .int (u0))]) hx hb dX11_draw_21 hl (by decide) rfl (fun ls hl => ?_)
        refine lv_aload hx hb dX11_draw_23 (lv_at hl 2 rfl) ?_
        refine lv_ifnull hx hb dX11_draw_25 ?_
        refine lv_aload hx hb dX11_draw_28 (lv_at hl 1 rfl) ?_
        refine lv_ifnull hx hb dX11_draw_30 ?_
        refine lv_aloadN hx hb dX11_draw_33 (lv_at hl 0 rfl) ?_
        refine lv_ifnonnullN hx hb dX11_draw_35 ?_
        refine lv_bipush (v := -2) hx hb dX11_draw_38 (by decide) ?_
        exact r_i C hr hlk hw ⟨(by simp [sp_draw, st_draw, ok_draw, ok_2, ok_10, hpu]), F, G, KC.rf, KG.rf, (by simp [sp_draw, st_draw, ok_draw, ok_2, ok_10, hpu]), rfl, rfl⟩ dX11_draw_40
    · have hw := hq_10
      refine W.eq (g2 := F0 m 13 ls [.null]) rfl ?_
      refine lv_astoreN (lv' := [(6, .null), (5, .ref (B (53 + c1))), (0, .ref (B (0))), (1, .int (nI c1)), (2, .int (p0)), (3, .int (h0)), (4, .int (u0))]) hx hb dX11_draw_13 hl (by decide) rfl (fun ls hl => ?_)
      refine lv_aload_n hx hb dX11_draw_15 rfl (lv_at hl 2 rfl) ?_
      refine lv_iload hx hb dX11_draw_16 (lv_at hl 6 rfl) ?_
      refine kV C hw (c_X11_pullerAt E tt B F G hR (u0)) vy_X11_pullerAt ml_X11_121 (rcv hw (hR.f rfl) rfl (by decide) (q2 := (RX11, TX11, 19)) rfl) rfl hl.1 (rest := []) rfl dX11_draw_18 (Nat.le_of_ble_eq_true rfl) ⟨by decide, by decide⟩ ⟨Nat.le_of_ble_eq_true rfl, Nat.le_of_ble_eq_true rfl⟩ (fun v_18 ws_18 H locs hp_18 hq_18 => ?_)
      clear hw
      rcases hp_18 with ⟨u1, hl_u1, rfl, rfl, rfl⟩ | ⟨h_18, rfl, rfl⟩
      · have hw := hq_18
        refine W.eq (g2 := F0 m 21 ls [.ref (B (8 + u1))]) rfl ?_
        have hz_u1 := i4_cl (i := u1) (by omega)
        have hpu : 0 ≤ nI u1 ∧ nI u1 ≤ 2 := i_rng (i := u1) (n := 2) (by omega) (by decide)
        refine lv_astore (lv' := [(7, .ref (B (8 + u1))), (6, .null), (5, .ref (B (53 + c1))), (0, .ref (B (0))), (1, .int (nI c1)), (2, .int (p0)), (3, .int (h0)), (4, .int (nI u1))]) hx hb dX11_draw_21 hl (by decide) rfl (fun ls hl => ?_)
        refine lv_aload hx hb dX11_draw_23 (lv_at hl 2 rfl) ?_
        refine lv_ifnull hx hb dX11_draw_25 ?_
        refine lv_aloadN hx hb dX11_draw_28 (lv_at hl 1 rfl) ?_
        refine lv_ifnullN (tgt := 38) hx hb dX11_draw_30 (by decide) ?_
        refine lv_bipush (v := -2) hx hb dX11_draw_38 (by decide) ?_
        exact r_i C hr hlk hw ⟨(by simp [sp_draw, st_draw, ok_draw, ok_2, h_10, hpu]), F, G, KC.rf, KG.rf, (by simp [sp_draw, st_draw, ok_draw, ok_2, h_10, hpu]), rfl, rfl⟩ dX11_draw_40
      · have hw := hq_18
        refine W.eq (g2 := F0 m 21 ls [.null]) rfl ?_
        have hpu : ¬ (0 ≤ u0 ∧ u0 ≤ 2) := fun h9 => by obtain ⟨i, hi, e⟩ := n_of (n := 2) h9.1 h9.2 (by decide); exact h_18 i (by omega) e
        refine lv_astoreN (lv' := [(7, .null), (6, .null), (5, .ref (B (53 + c1))), (0, .ref (B (0))), (1, .int (nI c1)), (2, .int (p0)), (3, .int (h0)), (4, .int (u0))]) hx hb dX11_draw_21 hl (by decide) rfl (fun ls hl => ?_)
        refine lv_aload hx hb dX11_draw_23 (lv_at hl 2 rfl) ?_
        refine lv_ifnull hx hb dX11_draw_25 ?_
        refine lv_aloadN hx hb dX11_draw_28 (lv_at hl 1 rfl) ?_
        refine lv_ifnullN (tgt := 38) hx hb dX11_draw_30 (by decide) ?_
        refine lv_bipush (v := -2) hx hb dX11_draw_38 (by decide) ?_
        exact r_i C hr hlk hw ⟨(by simp [sp_draw, st_draw, ok_draw, ok_2, h_10, hpu]), F, G, KC.rf, KG.rf, (by simp [sp_draw, st_draw, ok_draw, ok_2, h_10, hpu]), rfl, rfl⟩ dX11_draw_40
  · have hw := hq_2
    refine W.eq (g2 := F0 m 5 ls [.null]) rfl ?_
    refine lv_astoreN (lv' := [(5, .null), (0, .ref (B (0))), (1, .int (c0)), (2, .int (p0)), (3, .int (h0)), (4, .int (u0))]) hx hb dX11_draw_5 hl (by decide) rfl (fun ls hl => ?_)
    refine lv_aload_n hx hb dX11_draw_7 rfl (lv_at hl 1 rfl) ?_
    refine lv_iload_n hx hb dX11_draw_8 rfl (lv_at hl 3 rfl) ?_
    refine lv_iload_n hx hb dX11_draw_9 rfl (lv_at hl 4 rfl) ?_
    refine kV C hw (c_X11_holeAt E tt B F G hR (p0) (h0)) vy_X11_holeAt ml_X11_143 (rcv hw (hR.f rfl) rfl (by decide) (q2 := (RX11, TX11, 19)) rfl) rfl hl.1 (rest := []) rfl dX11_draw_10 (Nat.le_of_ble_eq_true rfl) ⟨by decide, by decide⟩ ⟨Nat.le_of_ble_eq_true rfl, Nat.le_of_ble_eq_true rfl⟩ (fun v_10 ws_10 H locs hp_10 hq_10 => ?_)
    clear hw
    rcases hp_10 with ⟨i1, j1, hl_i1, hl_j1, rfl, rfl, rfl, rfl⟩ | ⟨h_10, rfl, rfl⟩
    · have hw := hq_10
      refine W.eq (g2 := F0 m 13 ls [.ref (B (20 + (8 * i1 + j1)))]) rfl ?_
      have h8_i1 := hR.nh8 hl_i1
      have ok_10 := ok_hole_y hl_i1 hl_j1 h8_i1
      have hz_i1 := i4_cl (i := i1) (by omega)
      have hz_j1 := i4_cl (i := j1) (by omega)
      have vh0 := vF_at (lc_h0 (q := 8 * i1 + j1) (by omega)) F
      have vh1 := vF_at (lc_h1 (q := 8 * i1 + j1) (by omega)) F
      have vh2 := vF_at (lc_h2 (q := 8 * i1 + j1) (by omega)) F
      refine lv_astore (lv' := [(6, .ref (B (20 + (8 * i1 + j1)))), (5, .null), (0, .ref (B (0))), (1, .int (c0)), (2, .int (nI i1)), (3, .int (nI j1)), (4, .int (u0))]) hx hb dX11_draw_13 hl (by decide) rfl (fun ls hl => ?_)
      refine lv_aload_n hx hb dX11_draw_15 rfl (lv_at hl 2 rfl) ?_
      refine lv_iload hx hb dX11_draw_16 (lv_at hl 6 rfl) ?_
      refine kV C hw (c_X11_pullerAt E tt B F G hR (u0)) vy_X11_pullerAt ml_X11_121 (rcv hw (hR.f rfl) rfl (by decide) (q2 := (RX11, TX11, 19)) rfl) rfl hl.1 (rest := []) rfl dX11_draw_18 (Nat.le_of_ble_eq_true rfl) ⟨by decide, by decide⟩ ⟨Nat.le_of_ble_eq_true rfl, Nat.le_of_ble_eq_true rfl⟩ (fun v_18 ws_18 H locs hp_18 hq_18 => ?_)
      clear hw
      rcases hp_18 with ⟨u1, hl_u1, rfl, rfl, rfl⟩ | ⟨h_18, rfl, rfl⟩
      · have hw := hq_18
        refine W.eq (g2 := F0 m 21 ls [.ref (B (8 + u1))]) rfl ?_
        have hz_u1 := i4_cl (i := u1) (by omega)
        have hpu : 0 ≤ nI u1 ∧ nI u1 ≤ 2 := i_rng (i := u1) (n := 2) (by omega) (by decide)
        refine lv_astore (lv' := [(7, .ref (B (8 + u1))), (6, .ref (B (20 + (8 * i1 + j1)))), (5, .null), (0, .ref (B (0))), (1, .int (c0)), (2, .int (nI i1)), (3, .int (nI j1)), (4, .int (nI u1))]) hx hb dX11_draw_21 hl (by decide) rfl (fun ls hl => ?_)
        refine lv_aloadN hx hb dX11_draw_23 (lv_at hl 2 rfl) ?_
        refine lv_ifnullN (tgt := 38) hx hb dX11_draw_25 (by decide) ?_
        refine lv_bipush (v := -2) hx hb dX11_draw_38 (by decide) ?_
        exact r_i C hr hlk hw ⟨(by simp [sp_draw, st_draw, ok_draw, h_2, ok_10, hpu]), F, G, KC.rf, KG.rf, (by simp [sp_draw, st_draw, ok_draw, h_2, ok_10, hpu]), rfl, rfl⟩ dX11_draw_40
      · have hw := hq_18
        refine W.eq (g2 := F0 m 21 ls [.null]) rfl ?_
        have hpu : ¬ (0 ≤ u0 ∧ u0 ≤ 2) := fun h9 => by obtain ⟨i, hi, e⟩ := n_of (n := 2) h9.1 h9.2 (by decide); exact h_18 i (by omega) e
        refine lv_astoreN (lv' := [(7, .null), (6, .ref (B (20 + (8 * i1 + j1)))), (5, .null), (0, .ref (B (0))), (1, .int (c0)), (2, .int (nI i1)), (3, .int (nI j1)), (4, .int (u0))]) hx hb dX11_draw_21 hl (by decide) rfl (fun ls hl => ?_)
        refine lv_aloadN hx hb dX11_draw_23 (lv_at hl 2 rfl) ?_
        refine lv_ifnullN (tgt := 38) hx hb dX11_draw_25 (by decide) ?_
        refine lv_bipush (v := -2) hx hb dX11_draw_38 (by decide) ?_
        exact r_i C hr hlk hw ⟨(by simp [sp_draw, st_draw, ok_draw, h_2, ok_10, hpu]), F, G, KC.rf, KG.rf, (by simp [sp_draw, st_draw, ok_draw, h_2, ok_10, hpu]), rfl, rfl⟩ dX11_draw_40
    · have hw := hq_10
      refine W.eq (g2 := F0 m 13 ls [.null]) rfl ?_
      refine lv_astoreN (lv' := [(6, .null), (5, .null), (0, .ref (B (0))), (1, .int (c0)), (2, .int (p0)), (3, .int (h0)), (4, .int (u0))]) hx hb dX11_draw_13 hl (by decide) rfl (fun ls hl => ?_)
      refine lv_aload_n hx hb dX11_draw_15 rfl (lv_at hl 2 rfl) ?_
      refine lv_iload hx hb dX11_draw_16 (lv_at hl 6 rfl) ?_
      refine kV C hw (c_X11_pullerAt E tt B F G hR (u0)) vy_X11_pullerAt ml_X11_121 (rcv hw (hR.f rfl) rfl (by decide) (q2 := (RX11, TX11, 19)) rfl) rfl hl.1 (rest := []) rfl dX11_draw_18 (Nat.le_of_ble_eq_true rfl) ⟨by decide, by decide⟩ ⟨Nat.le_of_ble_eq_true rfl, Nat.le_of_ble_eq_true rfl⟩ (fun v_18 ws_18 H locs hp_18 hq_18 => ?_)
      clear hw
      rcases hp_18 with ⟨u1, hl_u1, rfl, rfl, rfl⟩ | ⟨h_18, rfl, rfl⟩
      · have hw := hq_18
        refine W.eq (g2 := F0 m 21 ls [.ref (B (8 + u1))]) rfl ?_
        have hz_u1 := i4_cl (i := u1) (by omega)
        have hpu : 0 ≤ nI u1 ∧ nI u1 ≤ 2 := i_rng (i := u1) (n := 2) (by omega) (by decide)
        refine lv_astore (lv' := [(7, .ref (B (8 + u1))), (6, .null), (5, .null), (0, .ref (B (0))), (1, .int (c0)), (2, .int (p0)), (3, .int (h0)), (4, .int (nI u1))]) hx hb dX11_draw_21 hl (by decide) rfl (fun ls hl => ?_)
        refine lv_aloadN hx hb dX11_draw_23 (lv_at hl 2 rfl) ?_
        refine lv_ifnullN (tgt := 38) hx hb dX11_draw_25 (by decide) ?_
        refine lv_bipush (v := -2) hx hb dX11_draw_38 (by decide) ?_
        exact r_i C hr hlk hw ⟨(by simp [sp_draw, st_draw, ok_draw, h_2, h_10, hpu]), F, G, KC.rf, KG.rf, (by simp [sp_draw, st_draw, ok_draw, h_2, h_10, hpu]), rfl, rfl⟩ dX11_draw_40
      · have hw := hq_18
        refine W.eq (g2 := F0 m 21 ls [.null]) rfl ?_
        have hpu : ¬ (0 ≤ u0 ∧ u0 ≤ 2) := fun h9 => by obtain ⟨i, hi, e⟩ := n_of (n := 2) h9.1 h9.2 (by decide); exact h_18 i (by omega) e
        refine lv_astoreN (lv' := [(7, .null), (6, .null), (5, .null), (0, .ref (B (0))), (1, .int (c0)), (2, .int (p0)), (3, .int (h0)), (4, .int (u0))]) hx hb dX11_draw_21 hl (by decide) rfl (fun ls hl => ?_)
        refine lv_aloadN hx hb dX11_draw_23 (lv_at hl 2 rfl) ?_
        refine lv_ifnullN (tgt := 38) hx hb dX11_draw_25 (by decide) ?_
        refine lv_bipush (v := -2) hx hb dX11_draw_38 (by decide) ?_
        exact r_i C hr hlk hw ⟨(by simp [sp_draw, st_draw, ok_draw, h_2, h_10, hpu]), F, G, KC.rf, KG.rf, (by simp [sp_draw, st_draw, ok_draw, h_2, h_10, hpu]), rfl, rfl⟩ dX11_draw_40
