set_option maxHeartbeats 4000000 in
set_option maxRecDepth 100000 in
theorem c_X11_fire (E : cE) (tt : Nat × Nat × Nat) {X : List Nat} (B : Nat → Nat) (F : tF) (G : tG) {P : tP} {nh : Nat → Nat} {nc no : Nat} {mt om : Nat → Nat} (hR : RC X P nh nc no mt om) (hCK : CK F G nc) (c0 : Int32)  : CT E tt yX11_fire cX11_fire 6 (some .int) 4 0 0 [.ref (B (0)), .int (c0)] (wl E X B F G P) (fun r w => r = some (.int (sp_fire (vF F) (vG G) nc c0)) ∧ ∃ (F1 : tF) (G1 : tG), KC F F1 ∧ KG G G1 ∧ vF F1 = st_fireF (vF F) (vG G) nc c0 ∧ vG G1 = st_fireG (vF F) (vG G) nc mt c0 ∧ w = wl E X B F1 G1 P) := by
  refine CT.mk (by decide +kernel) (Nat.le_of_ble_eq_true rfl) ?_
  intro l p e s m below meth c A ls C hr hlk hnm hw hl
  have hx := C.1
  have hb := C.2.1
  have hts := C.2.2.2.2
  have hown : s.vm.findClass RX11 = some m.cls := C.2.2.2.1
  have hl : lv_has ls 6 [(0, .ref (B (0))), (1, .int (c0))] := hl
  refine lv_aload_n hx hb dX11_fire_0 rfl (lv_at hl 0 rfl) ?_
  refine lv_iload_n hx hb dX11_fire_1 rfl (lv_at hl 1 rfl) ?_
  refine kV C hw (c_X11_coilAt E tt B F G hR hCK (c0)) vy_X11_coilAt ml_X11_183 (rcv hw (hR.f rfl) rfl (by decide) (q2 := (RX11, TX11, 19)) rfl) rfl hl.1 (rest := []) rfl dX11_fire_2 (Nat.le_of_ble_eq_true rfl) ⟨by decide, by decide⟩ ⟨Nat.le_of_ble_eq_true rfl, Nat.le_of_ble_eq_true rfl⟩ (fun v_2 ws_2 H locs hp_2 hq_2 => ?_)
  clear hw
  rcases hp_2 with ⟨c1, hl_c1, rfl, ok_2, rfl, rfl⟩ | ⟨h_2, rfl, rfl⟩
  · have hw := hq_2
    refine W.eq (g2 := F0 m 5 ls [.ref (B (53 + c1))]) rfl ?_
    have hn16 := hR.nc16
    have hz_c1 := i4_cl (i := c1) (by omega)
    have v1_c1 := vF_at (lc_c1 (c := c1) (by omega)) F
    have v2_c1 := vF_at (lc_c2 (c := c1) (by omega)) F
    have v3_c1 := vG_at (lc_c3 (c := c1) (by omega)) G
    have v4_c1 := vF_at (lc_c4 (c := c1) (by omega)) F
    have v5_c1 := vF_at (lc_c5 (c := c1) (by omega)) F
    have v6_c1 := vF_at (lc_c6 (c := c1) (by omega)) F
    refine lv_astore_n (lv' := [(2, .ref (B (53 + c1))), (0, .ref (B (0))), (1, .int (nI c1))]) hx hb dX11_fire_5 rfl hl (by decide) rfl (fun ls hl => ?_)
    refine lv_aload_n hx hb dX11_fire_6 rfl (lv_at hl 0 rfl) ?_
    refine lv_ifnonnull (tgt := 13) hx hb dX11_fire_7 (by decide) ?_
    have hm4 := hR.mt4 hl_c1
    refine lv_aload_n hx hb dX11_fire_13 rfl (lv_at hl 0 rfl) ?_
    refine g_i 2 C hw (hR.xc (by omega)) (kd_coil (by omega)) fl_X11_197 rfl dX11_fire_14 ?_
    refine lv_if_ne (tgt := 23) hx hb dX11_fire_17 (by decide) (fun c_17 => ?_) (fun c_17 => ?_)
    · refine lv_aload_n hx hb dX11_fire_23 rfl (lv_at hl 0 rfl) ?_
      refine g_i 5 C hw (hR.xc (by omega)) (kd_coil (by omega)) fl_X11_206 rfl dX11_fire_24 ?_
      refine lv_aload_n hx hb dX11_fire_27 rfl (lv_at hl 1 rfl) ?_
      refine g_i 12 C hw (hR.f rfl) rfl fl_X11_243 rfl dX11_fire_28 ?_
      refine va_mmax hx hb (C.2.2.1.trans hl.1.symm) hown (hts _ ml_X11_246) (hts _ mh_max_s) (hts _ in_J9) (hts _ mh_max_c) (Nat.le_of_ble_eq_true rfl) (Nat.le_of_ble_eq_true rfl) (Nat.le_of_ble_eq_true rfl) (Nat.le_of_ble_eq_true rfl) dX11_fire_31 ?_
      refine lv_aload_n hx hb dX11_fire_34 rfl (lv_at hl 1 rfl) ?_
      refine g_r 0 (k2 := 1) C hw (hR.f rfl) rfl fl_X11_10 rfl (hR.p0 0 (by decide)) dX11_fire_35 ?_
      refine g_i 3 C hw (hR.f rfl) rfl fl_X11_252 rfl dX11_fire_38 ?_
      refine lv_iadd hx hb dX11_fire_41 ?_
      refine tp_i (y := f_done (vF F) c1) (by rw [f_done, vF_at lc_fr, v5_c1, vF_at (lc_set (j := 3) (by decide)), max_c]) ?_
      refine lv_istore_n (lv' := [(3, .int (f_done (vF F) c1)), (2, .ref (B (53 + c1))), (0, .ref (B (0))), (1, .int (nI c1))]) hx hb dX11_fire_42 rfl hl (by decide) rfl (fun ls hl => ?_)
      refine lv_aload_n hx hb dX11_fire_43 rfl (lv_at hl 1 rfl) ?_
      refine lv_iload_n hx hb dX11_fire_44 rfl (lv_at hl 0 rfl) ?_
      refine p_i 5 C hw (hR.xc (by omega)) (kd_coil (by omega)) fl_X11_206 fc_0 fn_0_5 (fun h9 => by cases h9) rfl rfl rfl dX11_fire_45 (fun H locs hw => ?_)
      refine lv_aload_n hx hb dX11_fire_48 rfl (lv_at hl 2 rfl) ?_
      refine lv_iload_n hx hb dX11_fire_49 rfl (lv_at hl 0 rfl) ?_
      refine p_i 12 C hw (hR.f rfl) rfl fl_X11_243 fc_11 fn_11_12 (fun h9 => by cases h9) rfl rfl rfl dX11_fire_50 (fun H locs hw => ?_)
      refine lv_aload_n hx hb dX11_fire_53 rfl (lv_at hl 1 rfl) ?_
      refine lv_iconst (v := 0) hx hb dX11_fire_54 (by decide) ?_
      refine p_i 2 C hw (hR.xc (by omega)) (kd_coil (by omega)) fl_X11_197 fc_0 fn_0_2 (fun h9 => by cases h9) rfl rfl rfl dX11_fire_55 (fun H locs hw => ?_)
      refine lv_aload_n hx hb dX11_fire_58 rfl (lv_at hl 1 rfl) ?_
      refine g_l 3 C hw (hR.xc (by omega)) (kd_coil (by omega)) fl_X11_176 rfl dX11_fire_59 ?_
      refine lv_aload_n hx hb dX11_fire_62 rfl (lv_at hl 1 rfl) ?_
      refine g_r 0 (k2 := 3 + mt c1) C hw (hR.xc (by omega)) (kd_coil (by omega)) fl_X11_187 rfl (hR.cm (by omega)) dX11_fire_63 ?_
      refine g_i 5 C hw (hR.xm (by omega)) (kd_metal (by omega)) fl_X11_106 rfl dX11_fire_66 ?_
      refine tp_i (y := F (3 + mt c1) 5) ((uF_n _ _ (Or.inl (by omega))).trans ((uF_n _ _ (Or.inl (by omega))).trans ((uF_n _ _ (Or.inl (by omega))).trans (rfl)))) ?_
      refine lv_i2l hx hb dX11_fire_69 rfl ?_
      refine lv_lmul hx hb dX11_fire_70 ?_
      refine lv_ldc2 (v := 1000) hx hb hown (hts _ kc_X11_255) dX11_fire_71 ?_
      refine lv_ldiv hx hb dX11_fire_74 (by decide) ?_
      refine tp_l (y := f_off (vF F) (vG G) (mt c1) c1) (by rw [f_off, v3_c1, vF_at (lc_m5 (i := mt c1) (hR.mt4 hl_c1))]) ?_
      refine lv_lstore (lv' := [(4, .long (f_off (vF F) (vG G) (mt c1) c1)), (3, .int (f_done (vF F) c1)), (2, .ref (B (53 + c1))), (0, .ref (B (0))), (1, .int (nI c1))]) hx hb dX11_fire_75 hl (by decide) rfl (fun ls hl => ?_)
      refine lv_aload_n hx hb dX11_fire_77 rfl (lv_at hl 2 rfl) ?_
      refine lv_dup hx hb dX11_fire_78 rfl ?_
      refine g_l 3 C hw (hR.xc (by omega)) (kd_coil (by omega)) fl_X11_176 rfl dX11_fire_79 ?_
      refine lv_lload hx hb dX11_fire_82 (lv_at hl 0 rfl) ?_
      refine lv_lsub hx hb dX11_fire_84 ?_
      refine p_l 3 C hw (hR.xc (by omega)) (kd_coil (by omega)) fl_X11_176 fc_0 fn_0_3 (fun h9 => by cases h9) rfl rfl rfl dX11_fire_85 (fun H locs hw => ?_)
      refine lv_aload_n hx hb dX11_fire_88 rfl (lv_at hl 3 rfl) ?_
      refine lv_dup hx hb dX11_fire_89 rfl ?_
      refine g_l 16 C hw (hR.f rfl) rfl fl_X11_257 rfl dX11_fire_90 ?_
      refine tp_l (y := G 0 16) ((uG_n _ _ (Or.inl (by omega))).trans (rfl)) ?_
      refine lv_lload hx hb dX11_fire_93 (lv_at hl 0 rfl) ?_
      refine lv_ladd hx hb dX11_fire_95 ?_
      refine p_l 16 C hw (hR.f rfl) rfl fl_X11_257 fc_11 fn_11_16 (fun h9 => by cases h9) rfl rfl rfl dX11_fire_96 (fun H locs hw => ?_)
      refine lv_aload_n hx hb dX11_fire_99 rfl (lv_at hl 3 rfl) ?_
      refine lv_dup hx hb dX11_fire_100 rfl ?_
      refine g_i 18 C hw (hR.f rfl) rfl fl_X11_260 rfl dX11_fire_101 ?_
      refine tp_i (y := F 0 18) ((uF_n _ _ (Or.inl (by omega))).trans ((uF_n _ _ (Or.inr (by decide))).trans ((uF_n _ _ (Or.inl (by omega))).trans (rfl)))) ?_
      refine lv_iconst (v := 1) hx hb dX11_fire_104 (by decide) ?_
      refine lv_iadd hx hb dX11_fire_105 ?_
      refine p_i 18 C hw (hR.f rfl) rfl fl_X11_260 fc_11 fn_11_18 (fun h9 => by cases h9) rfl rfl rfl dX11_fire_106 (fun H locs hw => ?_)
      refine lv_aload_n hx hb dX11_fire_109 rfl (lv_at hl 2 rfl) ?_
      refine kV C hw (c_X0_feet E tt B (uF (uF (uF (uF F (53 + c1) 5 (f_done (vF F) c1)) 0 12 (f_done (vF F) c1)) (53 + c1) 2 0) 0 18 ((F 0 18 + 1))) (uG (uG G (53 + c1) 3 ((G (53 + c1) 3 - f_off (vF F) (vG G) (mt c1) c1))) 0 16 ((G 0 16 + f_off (vF F) (vG G) (mt c1) c1))) P (hR.xc (by omega)) (kd_coil (by omega))  (by rw [uF_n _ _ (Or.inl (by omega)), uF_n _ _ (Or.inr (by decide)), uF_n _ _ (Or.inl (by omega)), uF_n _ _ (Or.inr (by decide))]; exact (hCK c1 hl_c1).1)) vy_X0_feet ml_X11_200 (rcv hw (hR.xc (by omega)) (kd_coil (by omega)) (by decide) (q2 := (RX0, TX0, 7)) rfl) rfl hl.1 (rest := []) rfl dX11_fire_110 (Nat.le_of_ble_eq_true rfl) ⟨by decide, by decide⟩ ⟨Nat.le_of_ble_eq_true rfl, Nat.le_of_ble_eq_true rfl⟩ (fun v_110 ws_110 H locs hp_110 hq_110 => ?_)
      clear hw
      obtain ⟨rfl, rfl⟩ := hp_110
      have hw := hq_110
      refine W.eq (g2 := F0 m 113 ls [.int (w_ft ((uG (uG G (53 + c1) 3 ((G (53 + c1) 3 - f_off (vF F) (vG G) (mt c1) c1))) 0 16 ((G 0 16 + f_off (vF F) (vG G) (mt c1) c1))) (53 + c1) 3) ((uF (uF (uF (uF F (53 + c1) 5 (f_done (vF F) c1)) 0 12 (f_done (vF F) c1)) (53 + c1) 2 0) 0 18 ((F 0 18 + 1))) (53 + c1) 1))]) rfl ?_
      refine tp_i (y := w_ft (G (53 + c1) 3 - f_off (vF F) (vG G) (mt c1) c1) (F (53 + c1) 1)) (by rw [uG_n _ _ (Or.inl (by omega)), uG_s, uF_n _ _ (Or.inl (by omega)), uF_n _ _ (Or.inr (by decide)), uF_n _ _ (Or.inl (by omega)), uF_n _ _ (Or.inr (by decide))]) ?_
      refine lv_if_ne (tgt := 121) hx hb dX11_fire_113 (by decide) (fun c_113 => ?_) (fun c_113 => ?_)
      · have hnz : ¬ w_feet (vF F) (fG0 (vF F) (vG G) (mt c1) c1) c1 = 0 := by rw [w_feet_e, fG0, uG_n _ _ (Or.inl (by decide)), uG_s, v3_c1, v1_c1]; exact c_113
        refine lv_iload_n hx hb dX11_fire_121 rfl (lv_at hl 1 rfl) ?_
        exact r_i C hr hlk hw ⟨(by rw [sp_fire, if_pos ok_2, hz_c1, if_neg (by rw [v2_c1]; exact c_17)]), (uF (uF (uF (uF F (53 + c1) 5 (f_done (vF F) c1)) 0 12 (f_done (vF F) c1)) (53 + c1) 2 0) 0 18 ((F 0 18 + 1))), (uG (uG G (53 + c1) 3 ((G (53 + c1) 3 - f_off (vF F) (vG G) (mt c1) c1))) 0 16 ((G 0 16 + f_off (vF F) (vG G) (mt c1) c1))), (KC.u (KC.u (KC.u (KC.u KC.rf (by omega) (by omega) (by omega)) (by omega) (by omega) (by omega)) (by omega) (by omega) (by omega)) (by omega) (by omega) (by omega)), (KG.u (KG.u KG.rf (by omega)) (by omega)), (by rw [vF_up (lc_x35), vF_up (lc_c2 (c := c1) (by omega)), vF_up (lc_fr), vF_up (lc_c5 (c := c1) (by omega)), uF_comm 109 3 117 c1 (by omega), uF_comm 120 c1 117 c1 (by omega), uF_comm 120 c1 109 3 (by omega)]; rw [st_fireF, if_pos ok_2, hz_c1, if_neg (by rw [v2_c1]; exact c_17), fF, vF_at lc_x35]), (by rw [vG_up (lc_g33), vG_up (lc_c3 (c := c1) (by omega))]; rw [st_fireG, if_pos ok_2, hz_c1, if_neg (by rw [v2_c1]; exact c_17)]; rw [tG_, if_neg hnz, fG0, v3_c1, vG_at lc_g33]), rfl⟩ dX11_fire_122
      · have hnz : w_feet (vF F) (fG0 (vF F) (vG G) (mt c1) c1) c1 = 0 := by rw [w_feet_e, fG0, uG_n _ _ (Or.inl (by decide)), uG_s, v3_c1, v1_c1]; exact c_113
        refine lv_aload_n hx hb dX11_fire_116 rfl (lv_at hl 3 rfl) ?_
        refine lv_aload_n hx hb dX11_fire_117 rfl (lv_at hl 2 rfl) ?_
        refine kV C hw (c_X11_throwAway E tt B (uF (uF (uF (uF F (53 + c1) 5 (f_done (vF F) c1)) 0 12 (f_done (vF F) c1)) (53 + c1) 2 0) 0 18 ((F 0 18 + 1))) (uG (uG G (53 + c1) 3 ((G (53 + c1) 3 - f_off (vF F) (vG G) (mt c1) c1))) 0 16 ((G 0 16 + f_off (vF F) (vG G) (mt c1) c1))) hR (c1 := c1) (by omega)) vy_X11_throwAway ml_X11_263 (rcv hw (hR.f rfl) rfl (by decide) (q2 := (RX11, TX11, 19)) rfl) rfl hl.1 (rest := []) rfl dX11_fire_118 (Nat.le_of_ble_eq_true rfl) ⟨by decide, by decide⟩ ⟨Nat.le_of_ble_eq_true rfl, Nat.le_of_ble_eq_true rfl⟩ (fun v_118 ws_118 H locs hp_118 hq_118 => ?_)
        clear hw
        obtain ⟨rfl, rfl⟩ := hp_118
        have hw := hq_118
        refine W.eq (g2 := F0 m 121 ls []) rfl ?_
        refine lv_iload_n hx hb dX11_fire_121 rfl (lv_at hl 1 rfl) ?_
        exact r_i C hr hlk hw ⟨(by rw [sp_fire, if_pos ok_2, hz_c1, if_neg (by rw [v2_c1]; exact c_17)]), (uF (uF (uF (uF F (53 + c1) 5 (f_done (vF F) c1)) 0 12 (f_done (vF F) c1)) (53 + c1) 2 0) 0 18 ((F 0 18 + 1))), (uG (uG (uG (uG G (53 + c1) 3 ((G (53 + c1) 3 - f_off (vF F) (vG G) (mt c1) c1))) 0 16 ((G 0 16 + f_off (vF F) (vG G) (mt c1) c1))) 0 15 ((uG (uG G (53 + c1) 3 ((G (53 + c1) 3 - f_off (vF F) (vG G) (mt c1) c1))) 0 16 ((G 0 16 + f_off (vF F) (vG G) (mt c1) c1))) 0 15 + (uG (uG G (53 + c1) 3 ((G (53 + c1) 3 - f_off (vF F) (vG G) (mt c1) c1))) 0 16 ((G 0 16 + f_off (vF F) (vG G) (mt c1) c1))) (53 + c1) 3)) (53 + c1) 3 0), (KC.u (KC.u (KC.u (KC.u KC.rf (by omega) (by omega) (by omega)) (by omega) (by omega) (by omega)) (by omega) (by omega) (by omega)) (by omega) (by omega) (by omega)), (KG.u (KG.u (KG.u (KG.u KG.rf (by omega)) (by omega)) (by omega)) (by omega)), (by rw [vF_up (lc_x35), vF_up (lc_c2 (c := c1) (by omega)), vF_up (lc_fr), vF_up (lc_c5 (c := c1) (by omega)), uF_comm 109 3 117 c1 (by omega), uF_comm 120 c1 117 c1 (by omega), uF_comm 120 c1 109 3 (by omega)]; rw [st_fireF, if_pos ok_2, hz_c1, if_neg (by rw [v2_c1]; exact c_17), fF, vF_at lc_x35]), (by rw [vG_up (lc_c3 (c := c1) (by omega)), vG_up (lc_g32), vG_up (lc_g33), vG_up (lc_c3 (c := c1) (by omega))]; rw [st_fireG, if_pos ok_2, hz_c1, if_neg (by rw [v2_c1]; exact c_17)]; rw [tG_, if_pos hnz, fG0, v3_c1, vG_at lc_g33]; simp [uG, vp_updL, vG_at lc_g32, v3_c1, show ¬ 0 = 53 + c1 by omega]), rfl⟩ dX11_fire_122
    · refine lv_bipush (v := -4) hx hb dX11_fire_20 (by decide) ?_
      exact r_i C hr hlk hw ⟨(by simp [sp_fire, ok_2, hz_c1, v2_c1, c_17]), F, G, KC.rf, KG.rf, (by simp [st_fireF, ok_2, hz_c1, v2_c1, c_17]), (by simp [st_fireG, ok_2, hz_c1, v2_c1, c_17]), rfl⟩ dX11_fire_22
  · have hw := hq_2
    refine W.eq (g2 := F0 m 5 ls [.null]) rfl ?_
    refine lv_astore_nN (lv' := [(2, .null), (0, .ref (B (0))), (1, .int (c0))]) hx hb dX11_fire_5 rfl hl (by decide) rfl (fun ls hl => ?_)
    refine lv_aload_nN hx hb dX11_fire_6 rfl (lv_at hl 0 rfl) ?_
    refine lv_ifnonnullN hx hb dX11_fire_7 ?_
    refine lv_bipush (v := -2) hx hb dX11_fire_10 (by decide) ?_
    exact r_i C hr hlk hw ⟨(by simp [sp_fire, h_2]), F, G, KC.rf, KG.rf, (by simp [st_fireF, h_2]), (by simp [st_fireG, h_2]), rfl⟩ dX11_fire_12

set_option maxHeartbeats 4000000 in
set_option maxRecDepth 100000 in
theorem c_X11_join (E : cE) (tt : Nat × Nat × Nat) {X : List Nat} (B : Nat → Nat) (F : tF) (G : tG) {P : tP} {nh : Nat → Nat} {nc no : Nat} {mt om : Nat → Nat} (hR : RC X P nh nc no mt om) (hCK : CK F G nc) (hmt : ∀ c, c < nc → F 115 c = nI (mt c)) (c0 d0 : Int32)  : CT E tt yX11_join cX11_join 7 (some .int) 4 0 0 [.ref (B (0)), .int (c0), .int (d0)] (wl E X B F G P) (fun r w => r = some (.int (sp_join (vF F) (vG G) nc c0 d0)) ∧ ∃ (F1 : tF) (G1 : tG), KC F F1 ∧ KG G G1 ∧ vF F1 = st_joinF (vF F) (vG G) nc c0 d0 ∧ vG G1 = st_joinG (vF F) (vG G) nc c0 d0 ∧ w = wl E X B F1 G1 P) := by
  refine CT.mk (by decide +kernel) (Nat.le_of_ble_eq_true rfl) ?_
  intro l p e s m below meth c A ls C hr hlk hnm hw hl
  have hx := C.1
  have hb := C.2.1
  have hts := C.2.2.2.2
  have hown : s.vm.findClass RX11 = some m.cls := C.2.2.2.1
  have hl : lv_has ls 7 [(0, .ref (B (0))), (1, .int (c0)), (2, .int (d0))] := hl
  refine lv_aload_n hx hb dX11_join_0 rfl (lv_at hl 0 rfl) ?_
  refine lv_iload_n hx hb dX11_join_1 rfl (lv_at hl 1 rfl) ?_
  refine kV C hw (c_X11_coilAt E tt B F G hR hCK (c0)) vy_X11_coilAt ml_X11_183 (rcv hw (hR.f rfl) rfl (by decide) (q2 := (RX11, TX11, 19)) rfl) rfl hl.1 (rest := []) rfl dX11_join_2 (Nat.le_of_ble_eq_true rfl) ⟨by decide, by decide⟩ ⟨Nat.le_of_ble_eq_true rfl, Nat.le_of_ble_eq_true rfl⟩ (fun v_2 ws_2 H locs hp_2 hq_2 => ?_)
  clear hw
  rcases hp_2 with ⟨c1, hl_c1, rfl, ok_2, rfl, rfl⟩ | ⟨h_2, rfl, rfl⟩
  · have hw := hq_2
    refine W.eq (g2 := F0 m 5 ls [.ref (B (53 + c1))]) rfl ?_
    have hn16 := hR.nc16
    have hz_c1 := i4_cl (i := c1) (by omega)
    have v1_c1 := vF_at (lc_c1 (c := c1) (by omega)) F
    have v2_c1 := vF_at (lc_c2 (c := c1) (by omega)) F
    have v3_c1 := vG_at (lc_c3 (c := c1) (by omega)) G
    have v4_c1 := vF_at (lc_c4 (c := c1) (by omega)) F
    have v5_c1 := vF_at (lc_c5 (c := c1) (by omega)) F
    have v6_c1 := vF_at (lc_c6 (c := c1) (by omega)) F
    refine lv_astore_n (lv' := [(3, .ref (B (53 + c1))), (0, .ref (B (0))), (1, .int (nI c1)), (2, .int (d0))]) hx hb dX11_join_5 rfl hl (by decide) rfl (fun ls hl => ?_)
    refine lv_aload_n hx hb dX11_join_6 rfl (lv_at hl 1 rfl) ?_
    refine lv_iload_n hx hb dX11_join_7 rfl (lv_at hl 3 rfl) ?_
    refine kV C hw (c_X11_coilAt E tt B F G hR hCK (d0)) vy_X11_coilAt ml_X11_183 (rcv hw (hR.f rfl) rfl (by decide) (q2 := (RX11, TX11, 19)) rfl) rfl hl.1 (rest := []) rfl dX11_join_8 (Nat.le_of_ble_eq_true rfl) ⟨by decide, by decide⟩ ⟨Nat.le_of_ble_eq_true rfl, Nat.le_of_ble_eq_true rfl⟩ (fun v_8 ws_8 H locs hp_8 hq_8 => ?_)
    clear hw
    rcases hp_8 with ⟨c2, hl_c2, rfl, ok_8, rfl, rfl⟩ | ⟨h_8, rfl, rfl⟩
    · have hw := hq_8
      refine W.eq (g2 := F0 m 11 ls [.ref (B (53 + c2))]) rfl ?_
      have hn16 := hR.nc16
      have hz_c2 := i4_cl (i := c2) (by omega)
      have v1_c2 := vF_at (lc_c1 (c := c2) (by omega)) F
      have v2_c2 := vF_at (lc_c2 (c := c2) (by omega)) F
      have v3_c2 := vG_at (lc_c3 (c := c2) (by omega)) G
      have v4_c2 := vF_at (lc_c4 (c := c2) (by omega)) F
      have v5_c2 := vF_at (lc_c5 (c := c2) (by omega)) F
      have v6_c2 := vF_at (lc_c6 (c := c2) (by omega)) F
      refine lv_astore (lv' := [(4, .ref (B (53 + c2))), (3, .ref (B (53 + c1))), (0, .ref (B (0))), (1, .int (nI c1)), (2, .int (nI c2))]) hx hb dX11_join_11 hl (by decide) rfl (fun ls hl => ?_)
      refine lv_aload_n hx hb dX11_join_13 rfl (lv_at hl 1 rfl) ?_
      refine lv_ifnull hx hb dX11_join_14 ?_
      refine lv_aload hx hb dX11_join_17 (lv_at hl 0 rfl) ?_
      refine lv_ifnonnull (tgt := 25) hx hb dX11_join_19 (by decide) ?_
      have hmt1 : vF F 115 c1 = nI (mt c1) := hmt c1 hl_c1
      have hmt2 : vF F 115 c2 = nI (mt c2) := hmt c2 hl_c2
      have hm1 := hR.mt4 hl_c1
      have hm2 := hR.mt4 hl_c2
      have vs4 := vF_at (lc_set (j := 4) (by decide)) F
      refine lv_iload_n hx hb dX11_join_25 rfl (lv_at hl 3 rfl) ?_
      refine lv_iload_n hx hb dX11_join_26 rfl (lv_at hl 4 rfl) ?_
      refine lv_icmp_ne (tgt := 33) hx hb dX11_join_27 (by decide) (fun c_27 => ?_) (fun c_27 => ?_)
      · have hne : c1 ≠ c2 := fun h9 => c_27 (by rw [h9])
        refine lv_aload_n hx hb dX11_join_33 rfl (lv_at hl 1 rfl) ?_
        refine g_r 0 (k2 := 3 + mt c1) C hw (hR.xc (by omega)) (kd_coil (by omega)) fl_X11_187 rfl (hR.cm (by omega)) dX11_join_34 ?_
        refine lv_aload hx hb dX11_join_37 (lv_at hl 0 rfl) ?_
        refine g_r 0 (k2 := 3 + mt c2) C hw (hR.xc (by omega)) (kd_coil (by omega)) fl_X11_187 rfl (hR.cm (by omega)) dX11_join_39 ?_
        refine lv_acmp_ne (rx := some (B (3 + mt c1))) (ry := some (B (3 + mt c2))) (tgt := 57) hx hb dX11_join_42 (by decide) (fun c_42 => ?_) (fun c_42 => ?_)
        · have hme : ¬ nI (mt c1) = nI (mt c2) := fun h9 => c_42 (by rw [(nI_eq (by omega) (by omega)).mp h9])
          have hj0 : j_why (vF F) (vG G) nc (nI c1) (nI c2) = -4 := by simp [j_why, ok_2, ok_8, c_27, hme, hz_c1, hz_c2, v1_c1, v1_c2, v3_c2, w_feet, w_ft, hmt1, hmt2, vs4]
          refine lv_bipush (v := -4) hx hb dX11_join_57 (by decide) ?_
          exact r_i C hr hlk hw ⟨(by rw [sp_join, hj0, if_neg (by decide)]), F, G, KC.rf, KG.rf, (by rw [st_joinF, hj0, if_neg (by decide)]), (by rw [st_joinG, hj0, if_neg (by decide)]), rfl⟩ dX11_join_59
        · have hme : nI (mt c1) = nI (mt c2) := by have := hw.inj (hR.xm hm1) (hR.xm hm2) (Option.some.inj c_42); rw [show mt c1 = mt c2 by omega]
          refine lv_aload_n hx hb dX11_join_45 rfl (lv_at hl 1 rfl) ?_
          refine g_i 1 C hw (hR.xc (by omega)) (kd_coil (by omega)) fl_X11_194 rfl dX11_join_46 ?_
          refine lv_aload hx hb dX11_join_49 (lv_at hl 0 rfl) ?_
          refine g_i 1 C hw (hR.xc (by omega)) (kd_coil (by omega)) fl_X11_194 rfl dX11_join_51 ?_
          refine lv_icmp_eq (tgt := 60) hx hb dX11_join_54 (by decide) (fun c_54 => ?_) (fun c_54 => ?_)
          · refine lv_aload hx hb dX11_join_60 (lv_at hl 0 rfl) ?_
            refine kV C hw (c_X0_feet E tt B F G P (hR.xc (by omega)) (kd_coil (by omega))  ((hCK c2 hl_c2).1)) vy_X0_feet ml_X11_200 (rcv hw (hR.xc (by omega)) (kd_coil (by omega)) (by decide) (q2 := (RX0, TX0, 7)) rfl) rfl hl.1 (rest := []) rfl dX11_join_62 (Nat.le_of_ble_eq_true rfl) ⟨by decide, by decide⟩ ⟨Nat.le_of_ble_eq_true rfl, Nat.le_of_ble_eq_true rfl⟩ (fun v_62 ws_62 H locs hp_62 hq_62 => ?_)
            clear hw
            obtain ⟨rfl, rfl⟩ := hp_62
            have hw := hq_62
            refine W.eq (g2 := F0 m 65 ls [.int (w_ft (G (53 + c2) 3) (F (53 + c2) 1))]) rfl ?_
            refine lv_aload_n hx hb dX11_join_65 rfl (lv_at hl 2 rfl) ?_
            refine g_r 0 (k2 := 1) C hw (hR.f rfl) rfl fl_X11_10 rfl (hR.p0 0 (by decide)) dX11_join_66 ?_
            refine g_i 4 C hw (hR.f rfl) rfl fl_X11_271 rfl dX11_join_69 ?_
            refine lv_iconst (v := 1) hx hb dX11_join_72 (by decide) ?_
            refine lv_iadd hx hb dX11_join_73 ?_
            refine lv_icmp_ge (tgt := 80) hx hb dX11_join_74 (by decide) (fun c_74 => ?_) (fun c_74 => ?_)
            · have c_75 : F 1 4 + 1 ≤ w_ft (G (53 + c2) 3) (F (53 + c2) 1) := c_74
              have hj1 : j_why (vF F) (vG G) nc (nI c1) (nI c2) = 1 := by rw [w_ft] at c_75; simp [j_why, ok_2, ok_8, c_27, hme, c_54, c_75, hz_c1, hz_c2, v1_c1, v1_c2, v3_c2, w_feet, w_ft, hmt1, hmt2, vs4]
              refine lv_aload hx hb dX11_join_80 (lv_at hl 0 rfl) ?_
              refine lv_aload_n hx hb dX11_join_82 rfl (lv_at hl 2 rfl) ?_
              refine g_r 0 (k2 := 1) C hw (hR.f rfl) rfl fl_X11_10 rfl (hR.p0 0 (by decide)) dX11_join_83 ?_
              refine g_i 4 C hw (hR.f rfl) rfl fl_X11_271 rfl dX11_join_86 ?_
              refine kV C hw (c_X0_stuffOf E tt B F G P (hR.xc (by omega)) (kd_coil (by omega)) (F 1 4)) vy_X0_stuffOf ml_X11_267 (rcv hw (hR.xc (by omega)) (kd_coil (by omega)) (by decide) (q2 := (RX0, TX0, 7)) rfl) rfl hl.1 (rest := []) rfl dX11_join_89 (Nat.le_of_ble_eq_true rfl) ⟨by decide, by decide⟩ ⟨Nat.le_of_ble_eq_true rfl, Nat.le_of_ble_eq_true rfl⟩ (fun v_89 ws_89 H locs hp_89 hq_89 => ?_)
              clear hw
              obtain ⟨rfl, rfl⟩ := hp_89
              have hw := hq_89
              refine W.eq (g2 := F0 m 92 ls [.long ((F (53 + c2) 1).toInt64 * (F (53 + c2) 1).toInt64 * (F 1 4 : Int32).toInt64)]) rfl ?_
              refine tp_l (y := j_off (vF F) c2) (by rw [j_off, v1_c2, vs4]) ?_
              refine lv_lstore (lv' := [(5, .long (j_off (vF F) c2)), (4, .ref (B (53 + c2))), (3, .ref (B (53 + c1))), (0, .ref (B (0))), (1, .int (nI c1)), (2, .int (nI c2))]) hx hb dX11_join_92 hl (by decide) rfl (fun ls hl => ?_)
              refine lv_aload_n hx hb dX11_join_94 rfl (lv_at hl 2 rfl) ?_
              refine lv_dup hx hb dX11_join_95 rfl ?_
              refine g_l 3 C hw (hR.xc (by omega)) (kd_coil (by omega)) fl_X11_176 rfl dX11_join_96 ?_
              refine lv_aload hx hb dX11_join_99 (lv_at hl 1 rfl) ?_
              refine g_l 3 C hw (hR.xc (by omega)) (kd_coil (by omega)) fl_X11_176 rfl dX11_join_101 ?_
              refine lv_lload hx hb dX11_join_104 (lv_at hl 0 rfl) ?_
              refine lv_lsub hx hb dX11_join_106 ?_
              refine lv_ladd hx hb dX11_join_107 ?_
              refine p_l 3 C hw (hR.xc (by omega)) (kd_coil (by omega)) fl_X11_176 fc_0 fn_0_3 (fun h9 => by cases h9) rfl rfl rfl dX11_join_108 (fun H locs hw => ?_)
              refine lv_aload hx hb dX11_join_111 (lv_at hl 1 rfl) ?_
              refine lv_lconst (v := 0) hx hb dX11_join_113 (by decide) ?_
              refine p_l 3 C hw (hR.xc (by omega)) (kd_coil (by omega)) fl_X11_176 fc_0 fn_0_3 (fun h9 => by cases h9) rfl rfl rfl dX11_join_114 (fun H locs hw => ?_)
              refine lv_aload_n hx hb dX11_join_117 rfl (lv_at hl 3 rfl) ?_
              refine lv_dup hx hb dX11_join_118 rfl ?_
              refine g_l 15 C hw (hR.f rfl) rfl fl_X11_274 rfl dX11_join_119 ?_
              refine tp_l (y := G 0 15) ((uG_n _ _ (Or.inl (by omega))).trans ((uG_n _ _ (Or.inl (by omega))).trans (rfl))) ?_
              refine lv_lload hx hb dX11_join_122 (lv_at hl 0 rfl) ?_
              refine lv_ladd hx hb dX11_join_124 ?_
              refine p_l 15 C hw (hR.f rfl) rfl fl_X11_274 fc_11 fn_11_15 (fun h9 => by cases h9) rfl rfl rfl dX11_join_125 (fun H locs hw => ?_)
              refine lv_aload_n hx hb dX11_join_128 rfl (lv_at hl 2 rfl) ?_
              refine lv_aload_n hx hb dX11_join_129 rfl (lv_at hl 2 rfl) ?_
              refine g_i 2 C hw (hR.xc (by omega)) (kd_coil (by omega)) fl_X11_197 rfl dX11_join_130 ?_
              refine lv_aload hx hb dX11_join_133 (lv_at hl 1 rfl) ?_
              refine g_i 2 C hw (hR.xc (by omega)) (kd_coil (by omega)) fl_X11_197 rfl dX11_join_135 ?_
              refine va_mmax hx hb (C.2.2.1.trans hl.1.symm) hown (hts _ ml_X11_246) (hts _ mh_max_s) (hts _ in_J9) (hts _ mh_max_c) (Nat.le_of_ble_eq_true rfl) (Nat.le_of_ble_eq_true rfl) (Nat.le_of_ble_eq_true rfl) (Nat.le_of_ble_eq_true rfl) dX11_join_138 ?_
              refine p_i 2 C hw (hR.xc (by omega)) (kd_coil (by omega)) fl_X11_197 fc_0 fn_0_2 (fun h9 => by cases h9) rfl rfl rfl dX11_join_141 (fun H locs hw => ?_)
              refine lv_aload_n hx hb dX11_join_144 rfl (lv_at hl 2 rfl) ?_
              refine lv_dup hx hb dX11_join_145 rfl ?_
              refine g_i 4 C hw (hR.xc (by omega)) (kd_coil (by omega)) fl_X11_203 rfl dX11_join_146 ?_
              refine tp_i (y := F (53 + c1) 4) ((uF_n _ _ (Or.inr (by decide))).trans (rfl)) ?_
              refine lv_aload hx hb dX11_join_149 (lv_at hl 1 rfl) ?_
              refine g_i 4 C hw (hR.xc (by omega)) (kd_coil (by omega)) fl_X11_203 rfl dX11_join_151 ?_
              refine tp_i (y := F (53 + c2) 4) ((uF_n _ _ (Or.inl (by omega))).trans (rfl)) ?_
              refine lv_iconst (v := 1) hx hb dX11_join_154 (by decide) ?_
              refine lv_iadd hx hb dX11_join_155 ?_
              refine lv_iadd hx hb dX11_join_156 ?_
              refine p_i 4 C hw (hR.xc (by omega)) (kd_coil (by omega)) fl_X11_203 fc_0 fn_0_4 (fun h9 => by cases h9) rfl rfl rfl dX11_join_157 (fun H locs hw => ?_)
              refine lv_aload_n hx hb dX11_join_160 rfl (lv_at hl 2 rfl) ?_
              refine lv_aload_n hx hb dX11_join_161 rfl (lv_at hl 2 rfl) ?_
              refine g_i 5 C hw (hR.xc (by omega)) (kd_coil (by omega)) fl_X11_206 rfl dX11_join_162 ?_
              refine tp_i (y := F (53 + c1) 5) ((uF_n _ _ (Or.inr (by decide))).trans ((uF_n _ _ (Or.inr (by decide))).trans (rfl))) ?_
              refine lv_aload hx hb dX11_join_165 (lv_at hl 1 rfl) ?_
              refine g_i 5 C hw (hR.xc (by omega)) (kd_coil (by omega)) fl_X11_206 rfl dX11_join_167 ?_
              refine tp_i (y := F (53 + c2) 5) ((uF_n _ _ (Or.inl (by omega))).trans ((uF_n _ _ (Or.inl (by omega))).trans (rfl))) ?_
              refine va_mmax hx hb (C.2.2.1.trans hl.1.symm) hown (hts _ ml_X11_246) (hts _ mh_max_s) (hts _ in_J9) (hts _ mh_max_c) (Nat.le_of_ble_eq_true rfl) (Nat.le_of_ble_eq_true rfl) (Nat.le_of_ble_eq_true rfl) (Nat.le_of_ble_eq_true rfl) dX11_join_170 ?_
              refine p_i 5 C hw (hR.xc (by omega)) (kd_coil (by omega)) fl_X11_206 fc_0 fn_0_5 (fun h9 => by cases h9) rfl rfl rfl dX11_join_173 (fun H locs hw => ?_)
              refine lv_aload_n hx hb dX11_join_176 rfl (lv_at hl 2 rfl) ?_
              refine lv_aload_n hx hb dX11_join_177 rfl (lv_at hl 2 rfl) ?_
              refine g_i 6 C hw (hR.xc (by omega)) (kd_coil (by omega)) fl_X11_209 rfl dX11_join_178 ?_
              refine tp_i (y := F (53 + c1) 6) ((uF_n _ _ (Or.inr (by decide))).trans ((uF_n _ _ (Or.inr (by decide))).trans ((uF_n _ _ (Or.inr (by decide))).trans (rfl)))) ?_
              refine lv_if_ne (tgt := 192) hx hb dX11_join_181 (by decide) (fun c_181 => ?_) (fun c_181 => ?_)
              · refine lv_iconst (v := 1) hx hb dX11_join_192 (by decide) ?_
                refine lv_goto (tgt := 197) hx hb dX11_join_193 (by decide) ?_
                refine tp_i (y := if F (53 + c1) 6 = 0 ∧ F (53 + c2) 6 = 0 then 0 else 1) (by simp [c_181]) ?_
                refine p_i 6 C hw (hR.xc (by omega)) (kd_coil (by omega)) fl_X11_209 fc_0 fn_0_6 (fun h9 => by cases h9) rfl (by split <;> rfl) (by split <;> rfl) dX11_join_197 (fun H locs hw => ?_)
                refine lv_aload_n hx hb dX11_join_200 rfl (lv_at hl 2 rfl) ?_
                refine kV C hw (c_X0_feet E tt B (uF (uF (uF (uF F (53 + c1) 2 ((if (F (53 + c1) 2) < (F (53 + c2) 2) then (F (53 + c2) 2) else (F (53 + c1) 2)))) (53 + c1) 4 ((F (53 + c1) 4 + (F (53 + c2) 4 + 1)))) (53 + c1) 5 ((if (F (53 + c1) 5) < (F (53 + c2) 5) then (F (53 + c2) 5) else (F (53 + c1) 5)))) (53 + c1) 6 (if F (53 + c1) 6 = 0 ∧ F (53 + c2) 6 = 0 then 0 else 1)) (uG (uG (uG G (53 + c1) 3 ((G (53 + c1) 3 + (G (53 + c2) 3 - j_off (vF F) c2)))) (53 + c2) 3 0) 0 15 ((G 0 15 + j_off (vF F) c2))) P (hR.xc (by omega)) (kd_coil (by omega))  (by rw [uF_n _ _ (Or.inr (by decide)), uF_n _ _ (Or.inr (by decide)), uF_n _ _ (Or.inr (by decide)), uF_n _ _ (Or.inr (by decide))]; exact (hCK c1 hl_c1).1)) vy_X0_feet ml_X11_200 (rcv hw (hR.xc (by omega)) (kd_coil (by omega)) (by decide) (q2 := (RX0, TX0, 7)) rfl) rfl hl.1 (rest := []) rfl dX11_join_201 (Nat.le_of_ble_eq_true rfl) ⟨by decide, by decide⟩ ⟨Nat.le_of_ble_eq_true rfl, Nat.le_of_ble_eq_true rfl⟩ (fun v_201 ws_201 H locs hp_201 hq_201 => ?_)
                clear hw
                obtain ⟨rfl, rfl⟩ := hp_201
                have hw := hq_201
                refine W.eq (g2 := F0 m 204 ls [.int (w_ft ((uG (uG (uG G (53 + c1) 3 ((G (53 + c1) 3 + (G (53 + c2) 3 - j_off (vF F) c2)))) (53 + c2) 3 0) 0 15 ((G 0 15 + j_off (vF F) c2))) (53 + c1) 3) ((uF (uF (uF (uF F (53 + c1) 2 ((if (F (53 + c1) 2) < (F (53 + c2) 2) then (F (53 + c2) 2) else (F (53 + c1) 2)))) (53 + c1) 4 ((F (53 + c1) 4 + (F (53 + c2) 4 + 1)))) (53 + c1) 5 ((if (F (53 + c1) 5) < (F (53 + c2) 5) then (F (53 + c2) 5) else (F (53 + c1) 5)))) (53 + c1) 6 (if F (53 + c1) 6 = 0 ∧ F (53 + c2) 6 = 0 then 0 else 1)) (53 + c1) 1))]) rfl ?_
                refine tp_i (y := w_ft (G (53 + c1) 3 + (G (53 + c2) 3 - j_off (vF F) c2)) (F (53 + c1) 1)) (by rw [uG_n _ _ (Or.inl (by omega)), uG_n _ _ (Or.inl (by omega)), uG_s, uF_n _ _ (Or.inr (by decide)), uF_n _ _ (Or.inr (by decide)), uF_n _ _ (Or.inr (by decide)), uF_n _ _ (Or.inr (by decide))]) ?_
                exact r_i C hr hlk hw ⟨(by rw [sp_join, if_pos hj1, hz_c1, hz_c2, v3_c1, v3_c2, v1_c1]), (uF (uF (uF (uF F (53 + c1) 2 ((if (F (53 + c1) 2) < (F (53 + c2) 2) then (F (53 + c2) 2) else (F (53 + c1) 2)))) (53 + c1) 4 ((F (53 + c1) 4 + (F (53 + c2) 4 + 1)))) (53 + c1) 5 ((if (F (53 + c1) 5) < (F (53 + c2) 5) then (F (53 + c2) 5) else (F (53 + c1) 5)))) (53 + c1) 6 (if F (53 + c1) 6 = 0 ∧ F (53 + c2) 6 = 0 then 0 else 1)), (uG (uG (uG G (53 + c1) 3 ((G (53 + c1) 3 + (G (53 + c2) 3 - j_off (vF F) c2)))) (53 + c2) 3 0) 0 15 ((G 0 15 + j_off (vF F) c2))), (KC.u (KC.u (KC.u (KC.u KC.rf (by omega) (by omega) (by omega)) (by omega) (by omega) (by omega)) (by omega) (by omega) (by omega)) (by omega) (by omega) (by omega)), (KG.u (KG.u (KG.u KG.rf (by omega)) (by omega)) (by omega)), (by rw [vF_up (lc_c6 (c := c1) (by omega)), vF_up (lc_c5 (c := c1) (by omega)), vF_up (lc_c4 (c := c1) (by omega)), vF_up (lc_c2 (c := c1) (by omega)), st_joinF, if_pos hj1, hz_c1, hz_c2, jF, v2_c1, v2_c2, v4_c1, v4_c2, v5_c1, v5_c2, v6_c1, v6_c2]), (by rw [vG_up (lc_g32), vG_up (lc_c3 (c := c2) (by omega)), vG_up (lc_c3 (c := c1) (by omega)), uG_comm 118 c2 100 32 (by omega), uG_comm 118 c1 100 32 (by omega), st_joinG, if_pos hj1, hz_c1, hz_c2, jG, vG_at lc_g32, v3_c1, v3_c2]), rfl⟩ dX11_join_204
              · refine lv_aload hx hb dX11_join_184 (lv_at hl 1 rfl) ?_
                refine g_i 6 C hw (hR.xc (by omega)) (kd_coil (by omega)) fl_X11_209 rfl dX11_join_186 ?_
                refine tp_i (y := F (53 + c2) 6) ((uF_n _ _ (Or.inl (by omega))).trans ((uF_n _ _ (Or.inl (by omega))).trans ((uF_n _ _ (Or.inl (by omega))).trans (rfl)))) ?_
                refine lv_if_eq (tgt := 196) hx hb dX11_join_189 (by decide) (fun c_189 => ?_) (fun c_189 => ?_)
                · refine lv_iconst (v := 0) hx hb dX11_join_196 (by decide) ?_
                  refine tp_i (y := if F (53 + c1) 6 = 0 ∧ F (53 + c2) 6 = 0 then 0 else 1) (by simp [c_181, c_189]) ?_
                  refine p_i 6 C hw (hR.xc (by omega)) (kd_coil (by omega)) fl_X11_209 fc_0 fn_0_6 (fun h9 => by cases h9) rfl (by split <;> rfl) (by split <;> rfl) dX11_join_197 (fun H locs hw => ?_)
                  refine lv_aload_n hx hb dX11_join_200 rfl (lv_at hl 2 rfl) ?_
                  refine kV C hw (c_X0_feet E tt B (uF (uF (uF (uF F (53 + c1) 2 ((if (F (53 + c1) 2) < (F (53 + c2) 2) then (F (53 + c2) 2) else (F (53 + c1) 2)))) (53 + c1) 4 ((F (53 + c1) 4 + (F (53 + c2) 4 + 1)))) (53 + c1) 5 ((if (F (53 + c1) 5) < (F (53 + c2) 5) then (F (53 + c2) 5) else (F (53 + c1) 5)))) (53 + c1) 6 (if F (53 + c1) 6 = 0 ∧ F (53 + c2) 6 = 0 then 0 else 1)) (uG (uG (uG G (53 + c1) 3 ((G (53 + c1) 3 + (G (53 + c2) 3 - j_off (vF F) c2)))) (53 + c2) 3 0) 0 15 ((G 0 15 + j_off (vF F) c2))) P (hR.xc (by omega)) (kd_coil (by omega))  (by rw [uF_n _ _ (Or.inr (by decide)), uF_n _ _ (Or.inr (by decide)), uF_n _ _ (Or.inr (by decide)), uF_n _ _ (Or.inr (by decide))]; exact (hCK c1 hl_c1).1)) vy_X0_feet ml_X11_200 (rcv hw (hR.xc (by omega)) (kd_coil (by omega)) (by decide) (q2 := (RX0, TX0, 7)) rfl) rfl hl.1 (rest := []) rfl dX11_join_201 (Nat.le_of_ble_eq_true rfl) ⟨by decide, by decide⟩ ⟨Nat.le_of_ble_eq_true rfl, Nat.le_of_ble_eq_true rfl⟩ (fun v_201 ws_201 H locs hp_201 hq_201 => ?_)
                  clear hw
                  obtain ⟨rfl, rfl⟩ := hp_201
                  have hw := hq_201
                  refine W.eq (g2 := F0 m 204 ls [.int (w_ft ((uG (uG (uG G (53 + c1) 3 ((G (53 + c1) 3 + (G (53 + c2) 3 - j_off (vF F) c2)))) (53 + c2) 3 0) 0 15 ((G 0 15 + j_off (vF F) c2))) (53 + c1) 3) ((uF (uF (uF (uF F (53 + c1) 2 ((if (F (53 + c1) 2) < (F (53 + c2) 2) then (F (53 + c2) 2) else (F (53 + c1) 2)))) (53 + c1) 4 ((F (53 + c1) 4 + (F (53 + c2) 4 + 1)))) (53 + c1) 5 ((if (F (53 + c1) 5) < (F (53 + c2) 5) then (F (53 + c2) 5) else (F (53 + c1) 5)))) (53 + c1) 6 (if F (53 + c1) 6 = 0 ∧ F (53 + c2) 6 = 0 then 0 else 1)) (53 + c1) 1))]) rfl ?_
                  refine tp_i (y := w_ft (G (53 + c1) 3 + (G (53 + c2) 3 - j_off (vF F) c2)) (F (53 + c1) 1)) (by rw [uG_n _ _ (Or.inl (by omega)), uG_n _ _ (Or.inl (by omega)), uG_s, uF_n _ _ (Or.inr (by decide)), uF_n _ _ (Or.inr (by decide)), uF_n _ _ (Or.inr (by decide)), uF_n _ _ (Or.inr (by decide))]) ?_
                  exact r_i C hr hlk hw ⟨(by rw [sp_join, if_pos hj1, hz_c1, hz_c2, v3_c1, v3_c2, v1_c1]), (uF (uF (uF (uF F (53 + c1) 2 ((if (F (53 + c1) 2) < (F (53 + c2) 2) then (F (53 + c2) 2) else (F (53 + c1) 2)))) (53 + c1) 4 ((F (53 + c1) 4 + (F (53 + c2) 4 + 1)))) (53 + c1) 5 ((if (F (53 + c1) 5) < (F (53 + c2) 5) then (F (53 + c2) 5) else (F (53 + c1) 5)))) (53 + c1) 6 (if F (53 + c1) 6 = 0 ∧ F (53 + c2) 6 = 0 then 0 else 1)), (uG (uG (uG G (53 + c1) 3 ((G (53 + c1) 3 + (G (53 + c2) 3 - j_off (vF F) c2)))) (53 + c2) 3 0) 0 15 ((G 0 15 + j_off (vF F) c2))), (KC.u (KC.u (KC.u (KC.u KC.rf (by omega) (by omega) (by omega)) (by omega) (by omega) (by omega)) (by omega) (by omega) (by omega)) (by omega) (by omega) (by omega)), (KG.u (KG.u (KG.u KG.rf (by omega)) (by omega)) (by omega)), (by rw [vF_up (lc_c6 (c := c1) (by omega)), vF_up (lc_c5 (c := c1) (by omega)), vF_up (lc_c4 (c := c1) (by omega)), vF_up (lc_c2 (c := c1) (by omega)), st_joinF, if_pos hj1, hz_c1, hz_c2, jF, v2_c1, v2_c2, v4_c1, v4_c2, v5_c1, v5_c2, v6_c1, v6_c2]), (by rw [vG_up (lc_g32), vG_up (lc_c3 (c := c2) (by omega)), vG_up (lc_c3 (c := c1) (by omega)), uG_comm 118 c2 100 32 (by omega), uG_comm 118 c1 100 32 (by omega), st_joinG, if_pos hj1, hz_c1, hz_c2, jG, vG_at lc_g32, v3_c1, v3_c2]), rfl⟩ dX11_join_204
                · refine lv_iconst (v := 1) hx hb dX11_join_192 (by decide) ?_
                  refine lv_goto (tgt := 197) hx hb dX11_join_193 (by decide) ?_
                  refine tp_i (y := if F (53 + c1) 6 = 0 ∧ F (53 + c2) 6 = 0 then 0 else 1) (by simp [c_181, c_189]) ?_
                  refine p_i 6 C hw (hR.xc (by omega)) (kd_coil (by omega)) fl_X11_209 fc_0 fn_0_6 (fun h9 => by cases h9) rfl (by split <;> rfl) (by split <;> rfl) dX11_join_197 (fun H locs hw => ?_)
                  refine lv_aload_n hx hb dX11_join_200 rfl (lv_at hl 2 rfl) ?_
                  refine kV C hw (c_X0_feet E tt B (uF (uF (uF (uF F (53 + c1) 2 ((if (F (53 + c1) 2) < (F (53 + c2) 2) then (F (53 + c2) 2) else (F (53 + c1) 2)))) (53 + c1) 4 ((F (53 + c1) 4 + (F (53 + c2) 4 + 1)))) (53 + c1) 5 ((if (F (53 + c1) 5) < (F (53 + c2) 5) then (F (53 + c2) 5) else (F (53 + c1) 5)))) (53 + c1) 6 (if F (53 + c1) 6 = 0 ∧ F (53 + c2) 6 = 0 then 0 else 1)) (uG (uG (uG G (53 + c1) 3 ((G (53 + c1) 3 + (G (53 + c2) 3 - j_off (vF F) c2)))) (53 + c2) 3 0) 0 15 ((G 0 15 + j_off (vF F) c2))) P (hR.xc (by omega)) (kd_coil (by omega))  (by rw [uF_n _ _ (Or.inr (by decide)), uF_n _ _ (Or.inr (by decide)), uF_n _ _ (Or.inr (by decide)), uF_n _ _ (Or.inr (by decide))]; exact (hCK c1 hl_c1).1)) vy_X0_feet ml_X11_200 (rcv hw (hR.xc (by omega)) (kd_coil (by omega)) (by decide) (q2 := (RX0, TX0, 7)) rfl) rfl hl.1 (rest := []) rfl dX11_join_201 (Nat.le_of_ble_eq_true rfl) ⟨by decide, by decide⟩ ⟨Nat.le_of_ble_eq_true rfl, Nat.le_of_ble_eq_true rfl⟩ (fun v_201 ws_201 H locs hp_201 hq_201 => ?_)
                  clear hw
                  obtain ⟨rfl, rfl⟩ := hp_201
                  have hw := hq_201
                  refine W.eq (g2 := F0 m 204 ls [.int (w_ft ((uG (uG (uG G (53 + c1) 3 ((G (53 + c1) 3 + (G (53 + c2) 3 - j_off (vF F) c2)))) (53 + c2) 3 0) 0 15 ((G 0 15 + j_off (vF F) c2))) (53 + c1) 3) ((uF (uF (uF (uF F (53 + c1) 2 ((if (F (53 + c1) 2) < (F (53 + c2) 2) then (F (53 + c2) 2) else (F (53 + c1) 2)))) (53 + c1) 4 ((F (53 + c1) 4 + (F (53 + c2) 4 + 1)))) (53 + c1) 5 ((if (F (53 + c1) 5) < (F (53 + c2) 5) then (F (53 + c2) 5) else (F (53 + c1) 5)))) (53 + c1) 6 (if F (53 + c1) 6 = 0 ∧ F (53 + c2) 6 = 0 then 0 else 1)) (53 + c1) 1))]) rfl ?_
                  refine tp_i (y := w_ft (G (53 + c1) 3 + (G (53 + c2) 3 - j_off (vF F) c2)) (F (53 + c1) 1)) (by rw [uG_n _ _ (Or.inl (by omega)), uG_n _ _ (Or.inl (by omega)), uG_s, uF_n _ _ (Or.inr (by decide)), uF_n _ _ (Or.inr (by decide)), uF_n _ _ (Or.inr (by decide)), uF_n _ _ (Or.inr (by decide))]) ?_
                  exact r_i C hr hlk hw ⟨(by rw [sp_join, if_pos hj1, hz_c1, hz_c2, v3_c1, v3_c2, v1_c1]), (uF (uF (uF (uF F (53 + c1) 2 ((if (F (53 + c1) 2) < (F (53 + c2) 2) then (F (53 + c2) 2) else (F (53 + c1) 2)))) (53 + c1) 4 ((F (53 + c1) 4 + (F (53 + c2) 4 + 1)))) (53 + c1) 5 ((if (F (53 + c1) 5) < (F (53 + c2) 5) then (F (53 + c2) 5) else (F (53 + c1) 5)))) (53 + c1) 6 (if F (53 + c1) 6 = 0 ∧ F (53 + c2) 6 = 0 then 0 else 1)), (uG (uG (uG G (53 + c1) 3 ((G (53 + c1) 3 + (G (53 + c2) 3 - j_off (vF F) c2)))) (53 + c2) 3 0) 0 15 ((G 0 15 + j_off (vF F) c2))), (KC.u (KC.u (KC.u (KC.u KC.rf (by omega) (by omega) (by omega)) (by omega) (by omega) (by omega)) (by omega) (by omega) (by omega)) (by omega) (by omega) (by omega)), (KG.u (KG.u (KG.u KG.rf (by omega)) (by omega)) (by omega)), (by rw [vF_up (lc_c6 (c := c1) (by omega)), vF_up (lc_c5 (c := c1) (by omega)), vF_up (lc_c4 (c := c1) (by omega)), vF_up (lc_c2 (c := c1) (by omega)), st_joinF, if_pos hj1, hz_c1, hz_c2, jF, v2_c1, v2_c2, v4_c1, v4_c2, v5_c1, v5_c2, v6_c1, v6_c2]), (by rw [vG_up (lc_g32), vG_up (lc_c3 (c := c2) (by omega)), vG_up (lc_c3 (c := c1) (by omega)), uG_comm 118 c2 100 32 (by omega), uG_comm 118 c1 100 32 (by omega), st_joinG, if_pos hj1, hz_c1, hz_c2, jG, vG_at lc_g32, v3_c1, v3_c2]), rfl⟩ dX11_join_204
            · have c_75 : ¬ F 1 4 + 1 ≤ w_ft (G (53 + c2) 3) (F (53 + c2) 1) := c_74
              have hj0 : j_why (vF F) (vG G) nc (nI c1) (nI c2) = -4 := by rw [w_ft] at c_75; simp [j_why, ok_2, ok_8, c_27, hme, c_54, c_75, hz_c1, hz_c2, v1_c1, v1_c2, v3_c2, w_feet, w_ft, hmt1, hmt2, vs4]
              refine lv_bipush (v := -4) hx hb dX11_join_77 (by decide) ?_
              exact r_i C hr hlk hw ⟨(by rw [sp_join, hj0, if_neg (by decide)]), F, G, KC.rf, KG.rf, (by rw [st_joinF, hj0, if_neg (by decide)]), (by rw [st_joinG, hj0, if_neg (by decide)]), rfl⟩ dX11_join_79
          · have hj0 : j_why (vF F) (vG G) nc (nI c1) (nI c2) = -4 := by simp [j_why, ok_2, ok_8, c_27, hme, c_54, hz_c1, hz_c2, v1_c1, v1_c2, v3_c2, w_feet, w_ft, hmt1, hmt2, vs4]
            refine lv_bipush (v := -4) hx hb dX11_join_57 (by decide) ?_
            exact r_i C hr hlk hw ⟨(by rw [sp_join, hj0, if_neg (by decide)]), F, G, KC.rf, KG.rf, (by rw [st_joinF, hj0, if_neg (by decide)]), (by rw [st_joinG, hj0, if_neg (by decide)]), rfl⟩ dX11_join_59
      · have hj0 : j_why (vF F) (vG G) nc (nI c1) (nI c2) = -3 := by simp [j_why, ok_2, ok_8, c_27]
        refine lv_bipush (v := -3) hx hb dX11_join_30 (by decide) ?_
        exact r_i C hr hlk hw ⟨(by rw [sp_join, hj0, if_neg (by decide)]), F, G, KC.rf, KG.rf, (by rw [st_joinF, hj0, if_neg (by decide)]), (by rw [st_joinG, hj0, if_neg (by decide)]), rfl⟩ dX11_join_32
    · have hw := hq_8
      refine W.eq (g2 := F0 m 11 ls [.null]) rfl ?_
      refine lv_astoreN (lv' := [(4, .null), (3, .ref (B (53 + c1))), (0, .ref (B (0))), (1, .int (nI c1)), (2, .int (d0))]) hx hb dX11_join_11 hl (by decide) rfl (fun ls hl => ?_)
      refine lv_aload_n hx hb dX11_join_13 rfl (lv_at hl 1 rfl) ?_
      refine lv_ifnull hx hb dX11_join_14 ?_
      refine lv_aloadN hx hb dX11_join_17 (lv_at hl 0 rfl) ?_
      refine lv_ifnonnullN hx hb dX11_join_19 ?_
      refine lv_bipush (v := -2) hx hb dX11_join_22 (by decide) ?_
      exact r_i C hr hlk hw ⟨(by simp [sp_join, j_why, ok_2, h_8]), F, G, KC.rf, KG.rf, (by simp [st_joinF, j_why, ok_2, h_8]), (by simp [st_joinG, j_why, ok_2, h_8]), rfl⟩ dX11_join_24
  · have hw := hq_2
    refine W.eq (g2 := F0 m 5 ls [.null]) rfl ?_
    refine lv_astore_nN (lv' := [(3, .null), (0, .ref (B (0))), (1, .int (c0)), (2, .int (d0))]) hx hb dX11_join_5 rfl hl (by decide) rfl (fun ls hl => ?_)
    refine lv_aload_n hx hb dX11_join_6 rfl (lv_at hl 1 rfl) ?_
    refine lv_iload_n hx hb dX11_join_7 rfl (lv_at hl 3 rfl) ?_
    refine kV C hw (c_X11_coilAt E tt B F G hR hCK (d0)) vy_X11_coilAt ml_X11_183 (rcv hw (hR.f rfl) rfl (by decide) (q2 := (RX11, TX11, 19)) rfl) rfl hl.1 (rest := []) rfl dX11_join_8 (Nat.le_of_ble_eq_true rfl) ⟨by decide, by decide⟩ ⟨Nat.le_of_ble_eq_true rfl, Nat.le_of_ble_eq_true rfl⟩ (fun v_8 ws_8 H locs hp_8 hq_8 => ?_)
    clear hw
    rcases hp_8 with ⟨c2, hl_c2, rfl, ok_8, rfl, rfl⟩ | ⟨h_8, rfl, rfl⟩
    · have hw := hq_8
      refine W.eq (g2 := F0 m 11 ls [.ref (B (53 + c2))]) rfl ?_
      have hn16 := hR.nc16
      have hz_c2 := i4_cl (i := c2) (by omega)
      have v1_c2 := vF_at (lc_c1 (c := c2) (by omega)) F
      have v2_c2 := vF_at (lc_c2 (c := c2) (by omega)) F
      have v3_c2 := vG_at (lc_c3 (c := c2) (by omega)) G
      have v4_c2 := vF_at (lc_c4 (c := c2) (by omega)) F
      have v5_c2 := vF_at (lc_c5 (c := c2) (by omega)) F
      have v6_c2 := vF_at (lc_c6 (c := c2) (by omega)) F
      refine lv_astore (lv' := [(4, .ref (B (53 + c2))), (3, .null), (0, .ref (B (0))), (1, .int (c0)), (2, .int (nI c2))]) hx hb dX11_join_11 hl (by decide) rfl (fun ls hl => ?_)
      refine lv_aload_nN hx hb dX11_join_13 rfl (lv_at hl 1 rfl) ?_
      refine lv_ifnullN (tgt := 22) hx hb dX11_join_14 (by decide) ?_
      refine lv_bipush (v := -2) hx hb dX11_join_22 (by decide) ?_
      exact r_i C hr hlk hw ⟨(by simp [sp_join, j_why, h_2, ok_8]), F, G, KC.rf, KG.rf, (by simp [st_joinF, j_why, h_2, ok_8]), (by simp [st_joinG, j_why, h_2, ok_8]), rfl⟩ dX11_join_24
    · have hw := hq_8
      refine W.eq (g2 := F0 m 11 ls [.null]) rfl ?_
      refine lv_astoreN (lv' := [(4, .null), (3, .null), (0, .ref (B (0))), (1, .int (c0)), (2, .int (d0))]) hx hb dX11_join_11 hl (by decide) rfl (fun ls hl => ?_)
      refine lv_aload_nN hx hb dX11_join_13 rfl (lv_at hl 1 rfl) ?_
      refine lv_ifnullN (tgt := 22) hx hb dX11_join_14 (by decide) ?_
      refine lv_bipush (v := -2) hx hb dX11_join_22 (by decide) ?_
      exact r_i C hr hlk hw ⟨(by simp [sp_join, j_why, h_2, h_8]), F, G, KC.rf, KG.rf, (by simp [st_joinF, j_why, h_2, h_8]), (by simp [st_joinG, j_why, h_2, h_8]), rfl⟩ dX11_join_24

set_option maxHeartbeats 4000000 in
set_option maxRecDepth 100000 in
theorem c_X11_stuffInCoils (E : cE) (tt : Nat × Nat × Nat) {X : List Nat} (B : Nat → Nat) (F : tF) (G : tG) {P : tP} {nh : Nat → Nat} {nc no : Nat} {mt om : Nat → Nat} (hR : RC X P nh nc no mt om)  : CT E tt yX11_stuffInCoils cX11_stuffInCoils 4 (some .long) 0 0 0 [.ref (B (0))] (wl E X B F G P) (fun r w => r = some (.long (sumG (vG G 118) nc)) ∧ w = (wl E X B F G P)) := by
  refine CT.mk (by decide +kernel) (Nat.le_of_ble_eq_true rfl) ?_
  intro l p e s m below meth c A ls C hr hlk hnm hw hl
  have hx := C.1
  have hb := C.2.1
  have hts := C.2.2.2.2
  have hown : s.vm.findClass RX11 = some m.cls := C.2.2.2.1
  have hl : lv_has ls 4 [(0, .ref (B (0)))] := hl
  have hn16 := hR.nc16
  refine lv_lconst (v := 0) hx hb dX11_stuffInCoils_0 (by decide) ?_
  refine lv_lstore_n (lv' := [(1, .long (0)), (0, .ref (B (0)))]) hx hb dX11_stuffInCoils_1 rfl hl (by decide) rfl (fun ls hl => ?_)
  refine lv_iconst (v := 0) hx hb dX11_stuffInCoils_2 (by decide) ?_
  refine lv_istore_n (lv' := [(3, .int (0)), (1, .long (0)), (0, .ref (B (0)))]) hx hb dX11_stuffInCoils_3 rfl hl (by decide) rfl (fun ls hl => ?_)
  have lo_a : ∀ (n i : Nat)  (H : Heap) (locs : List Loc) (ls : Array Slot), i ≤ 16 → 16 < i + n → Wd E tt A s (wl E X B F G P) H locs → lv_has ls 4 [(0, .ref (B (0))), (1, .long (sumG (vG G 118) (min i nc))), (3, .int (nI i))] → W p l e (rmO 0 0 0) s m ([.ref (B (0))] : List Value).toArray below meth c H locs 0 0 (MQ below (Fin0 E (fun r w => r = some (.long (sumG (vG G 118) nc)) ∧ w = (wl E X B F G P)) A) ([.ref (B (0))] : List Value).toArray s 0 0 A) (F0 m 4 ls []) := by
    intro n
    induction n with
    | zero =>
      intro i  H locs ls hi_1 hi_2
      exact absurd hi_2 (by omega)
    | succ n ih_a =>
      intro i  H locs ls hi_a hj_a  hw hl
      refine lv_iload_n hx hb dX11_stuffInCoils_4 rfl (lv_at hl 2 rfl) ?_
      refine lv_aload_n hx hb dX11_stuffInCoils_5 rfl (lv_at hl 0 rfl) ?_
      refine g_r 4 (k2 := 52) C hw (hR.f rfl) rfl fl_X11_36 rfl (hR.p0 4 (by decide)) dX11_stuffInCoils_6 ?_
      refine a_n (v := 16) C hw (hR.f rfl) (by decide) (by decide) rfl dX11_stuffInCoils_9 ?_
      refine lv_icmp_ge (tgt := 40) hx hb dX11_stuffInCoils_10 (by decide) (fun c_10 => ?_) (fun c_10 => ?_)
      · have he : i = 16 := lp_eq (b := 16) (by decide) (by omega) c_10
        subst he
        refine lv_lload_n hx hb dX11_stuffInCoils_40 rfl (lv_at hl 1 rfl) ?_
        exact r_l C hr hlk hw ⟨(by rw [show min 16 nc = nc by omega]), rfl⟩ dX11_stuffInCoils_41
      · have hlt : i < 16 := lp_lt (b := 16) (by decide) (by omega) c_10
        by_cases hin : i < nc
        rotate_left 1
        · refine lv_aload_n hx hb dX11_stuffInCoils_13 rfl (lv_at hl 0 rfl) ?_
          refine g_r 4 (k2 := 52) C hw (hR.f rfl) rfl fl_X11_36 rfl (hR.p0 4 (by decide)) dX11_stuffInCoils_14 ?_
          refine lv_iload_n hx hb dX11_stuffInCoils_17 rfl (lv_at hl 2 rfl) ?_
          refine n_q i (r := 16) C hw (hR.f rfl) rfl (by decide) rfl rfl (show _ < 16 by omega) dX11_stuffInCoils_18 ?_
          rw [hR.pc hlt, if_neg hin]
          refine W.eq (g2 := F0 m 19 ls [.null]) rfl ?_
          refine lv_ifnullN (tgt := 34) hx hb dX11_stuffInCoils_19 (by decide) ?_
          have hl : lv_has ls 4 [(0, .ref (B (0))), (1, .long (sumG (vG G 118) (min (i + 1) nc))), (3, .int (nI i))] := by rw [show min (i + 1) nc = min i nc by omega]; exact hl
          refine lv_iinc (v := nI (i + 1)) (lv' := [(3, .int (nI (i + 1))), (0, .ref (B (0))), (1, .long (sumG (vG G 118) (min (i + 1) nc)))]) hx hb dX11_stuffInCoils_34 hl (k := 2) rfl (nI_1 _) (by decide) rfl (fun ls hl => ?_)
          refine lv_goto (tgt := 4) hx hb dX11_stuffInCoils_37 (by decide) ?_
          exact ih_a (i + 1)  _ _ _ (by omega) (by omega)  hw (lv_sub hl [1, 2, 0] rfl)
        refine lv_aload_n hx hb dX11_stuffInCoils_13 rfl (lv_at hl 0 rfl) ?_
        refine g_r 4 (k2 := 52) C hw (hR.f rfl) rfl fl_X11_36 rfl (hR.p0 4 (by decide)) dX11_stuffInCoils_14 ?_
        refine lv_iload_n hx hb dX11_stuffInCoils_17 rfl (lv_at hl 2 rfl) ?_
        refine n_r i (k2 := 53 + i) (r := 16) C hw (hR.f rfl) rfl (by decide) rfl rfl (show _ < 16 by omega) ((hR.pc hlt).trans (if_pos hin)) dX11_stuffInCoils_18 ?_
        refine lv_ifnull hx hb dX11_stuffInCoils_19 ?_
        refine lv_lload_n hx hb dX11_stuffInCoils_22 rfl (lv_at hl 1 rfl) ?_
        refine lv_aload_n hx hb dX11_stuffInCoils_23 rfl (lv_at hl 0 rfl) ?_
        refine g_r 4 (k2 := 52) C hw (hR.f rfl) rfl fl_X11_36 rfl (hR.p0 4 (by decide)) dX11_stuffInCoils_24 ?_
        refine lv_iload_n hx hb dX11_stuffInCoils_27 rfl (lv_at hl 2 rfl) ?_
        refine n_r i (k2 := 53 + i) (r := 16) C hw (hR.f rfl) rfl (by decide) rfl rfl (show _ < 16 by omega) ((hR.pc hlt).trans (if_pos hin)) dX11_stuffInCoils_28 ?_
        refine g_l 3 C hw (hR.xc (by omega)) (kd_coil (by omega)) fl_X11_176 rfl dX11_stuffInCoils_29 ?_
        refine lv_ladd hx hb dX11_stuffInCoils_32 ?_
        refine tp_l (y := sumG (vG G 118) (min (i + 1) nc)) (by rw [show min i nc = i by omega, show min (i + 1) nc = i + 1 by omega, sumG, vG_at (lc_c3 (c := i) hlt)]) ?_
        refine lv_lstore_n (lv' := [(1, .long (sumG (vG G 118) (min (i + 1) nc))), (0, .ref (B (0))), (3, .int (nI i))]) hx hb dX11_stuffInCoils_33 rfl hl (by decide) rfl (fun ls hl => ?_)
        refine lv_iinc (v := nI (i + 1)) (lv' := [(3, .int (nI (i + 1))), (1, .long (sumG (vG G 118) (min (i + 1) nc))), (0, .ref (B (0)))]) hx hb dX11_stuffInCoils_34 hl (k := 2) rfl (nI_1 _) (by decide) rfl (fun ls hl => ?_)
        refine lv_goto (tgt := 4) hx hb dX11_stuffInCoils_37 (by decide) ?_
        exact ih_a (i + 1)  _ _ _ (by omega) (by omega)  hw (lv_sub hl [2, 1, 0] rfl)
  exact lo_a (16 + 1) 0  _ _ _ (by omega) (by omega)  hw (lv_sub hl [2, 1, 0] rfl)

set_option maxHeartbeats 4000000 in
set_option maxRecDepth 100000 in
theorem c_X11_account (E : cE) (tt : Nat × Nat × Nat) {X : List Nat} (B : Nat → Nat) (F : tF) (G : tG) {P : tP} {nh : Nat → Nat} {nc no : Nat} {mt om : Nat → Nat} (hR : RC X P nh nc no mt om) (w0 : Int32)  : CT E tt yX11_account cX11_account 2 (some .long) 1 0 0 [.ref (B (0)), .int (w0)] (wl E X B F G P) (fun r w => r = some (.long (sp_account (vG G) nc w0)) ∧ w = (wl E X B F G P)) := by
  refine CT.mk (by decide +kernel) (Nat.le_of_ble_eq_true rfl) ?_
  intro l p e s m below meth c A ls C hr hlk hnm hw hl
  have hx := C.1
  have hb := C.2.1
  have hts := C.2.2.2.2
  have hown : s.vm.findClass RX11 = some m.cls := C.2.2.2.1
  have hl : lv_has ls 2 [(0, .ref (B (0))), (1, .int (w0))] := hl
  refine lv_iload_n hx hb dX11_account_0 rfl (lv_at hl 1 rfl) ?_
  rcases sw_5 w0 with h_sw | h_sw | h_sw | h_sw | h_sw | h_sw
  · refine lv_tableIn (tgt := 36) hx hb dX11_account_1 (by rw [h_sw]; decide) (by rw [h_sw]; decide) (by rw [h_sw]; rfl) (by decide) ?_
    refine lv_aload_n hx hb dX11_account_36 rfl (lv_at hl 0 rfl) ?_
    refine g_l 13 C hw (hR.f rfl) rfl fl_X11_172 rfl dX11_account_37 ?_
    exact r_l C hr hlk hw ⟨(by simp [sp_account, h_sw, vG_at lc_g30, vG_at lc_g31, vG_at lc_g32, vG_at lc_g33]), rfl⟩ dX11_account_40
  · refine lv_tableIn (tgt := 41) hx hb dX11_account_1 (by rw [h_sw]; decide) (by rw [h_sw]; decide) (by rw [h_sw]; rfl) (by decide) ?_
    refine lv_aload_n hx hb dX11_account_41 rfl (lv_at hl 0 rfl) ?_
    refine kV C hw (c_X11_stuffInCoils E tt B F G hR) vy_X11_stuffInCoils ml_X11_363 (rcv hw (hR.f rfl) rfl (by decide) (q2 := (RX11, TX11, 19)) rfl) rfl hl.1 (rest := []) rfl dX11_account_42 (Nat.le_of_ble_eq_true rfl) ⟨by decide, by decide⟩ ⟨Nat.le_of_ble_eq_true rfl, Nat.le_of_ble_eq_true rfl⟩ (fun v_42 ws_42 H locs hp_42 hq_42 => ?_)
    clear hw
    obtain ⟨rfl, rfl⟩ := hp_42
    have hw := hq_42
    refine W.eq (g2 := F0 m 45 ls [.long (sumG (vG G 118) nc)]) rfl ?_
    exact r_l C hr hlk hw ⟨(by simp [sp_account, h_sw, vG_at lc_g30, vG_at lc_g31, vG_at lc_g32, vG_at lc_g33]), rfl⟩ dX11_account_45
  · refine lv_tableIn (tgt := 46) hx hb dX11_account_1 (by rw [h_sw]; decide) (by rw [h_sw]; decide) (by rw [h_sw]; rfl) (by decide) ?_
    refine lv_aload_n hx hb dX11_account_46 rfl (lv_at hl 0 rfl) ?_
    refine g_l 14 C hw (hR.f rfl) rfl fl_X11_367 rfl dX11_account_47 ?_
    exact r_l C hr hlk hw ⟨(by simp [sp_account, h_sw, vG_at lc_g30, vG_at lc_g31, vG_at lc_g32, vG_at lc_g33]), rfl⟩ dX11_account_50
  · refine lv_tableIn (tgt := 51) hx hb dX11_account_1 (by rw [h_sw]; decide) (by rw [h_sw]; decide) (by rw [h_sw]; rfl) (by decide) ?_
    refine lv_aload_n hx hb dX11_account_51 rfl (lv_at hl 0 rfl) ?_
    refine g_l 15 C hw (hR.f rfl) rfl fl_X11_274 rfl dX11_account_52 ?_
    exact r_l C hr hlk hw ⟨(by simp [sp_account, h_sw, vG_at lc_g30, vG_at lc_g31, vG_at lc_g32, vG_at lc_g33]), rfl⟩ dX11_account_55
  · refine lv_tableIn (tgt := 56) hx hb dX11_account_1 (by rw [h_sw]; decide) (by rw [h_sw]; decide) (by rw [h_sw]; rfl) (by decide) ?_
    refine lv_aload_n hx hb dX11_account_56 rfl (lv_at hl 0 rfl) ?_
    refine g_l 16 C hw (hR.f rfl) rfl fl_X11_257 rfl dX11_account_57 ?_
    exact r_l C hr hlk hw ⟨(by simp [sp_account, h_sw, vG_at lc_g30, vG_at lc_g31, vG_at lc_g32, vG_at lc_g33]), rfl⟩ dX11_account_60
  · refine lv_tableOut (tgt := 61) hx hb dX11_account_1 h_sw (by decide) ?_
    refine lv_ldc2 (v := -3) hx hb hown (hts _ kc_X11_370) dX11_account_61 ?_
    exact r_l C hr hlk hw ⟨(by simp [sp_account, sw_no h_sw (y := 0) (by decide) (by decide), sw_no h_sw (y := 1) (by decide) (by decide), sw_no h_sw (y := 2) (by decide) (by decide), sw_no h_sw (y := 3) (by decide) (by decide), sw_no h_sw (y := 4) (by decide) (by decide)]), rfl⟩ dX11_account_64

set_option maxHeartbeats 4000000 in
set_option maxRecDepth 100000 in
theorem c_X11_coilsLeft (E : cE) (tt : Nat × Nat × Nat) {X : List Nat} (B : Nat → Nat) (F : tF) (G : tG) {P : tP} {nh : Nat → Nat} {nc no : Nat} {mt om : Nat → Nat} (hR : RC X P nh nc no mt om) (hCK : CK F G nc)  : CT E tt yX11_coilsLeft cX11_coilsLeft 3 (some .int) 4 0 0 [.ref (B (0))] (wl E X B F G P) (fun r w => r = some (.int (cntL (vG G 118) nc)) ∧ w = (wl E X B F G P)) := by
  refine CT.mk (by decide +kernel) (Nat.le_of_ble_eq_true rfl) ?_
  intro l p e s m below meth c A ls C hr hlk hnm hw hl
  have hx := C.1
  have hb := C.2.1
  have hts := C.2.2.2.2
  have hown : s.vm.findClass RX11 = some m.cls := C.2.2.2.1
  have hl : lv_has ls 3 [(0, .ref (B (0)))] := hl
  have hn16 := hR.nc16
  refine lv_iconst (v := 0) hx hb dX11_coilsLeft_0 (by decide) ?_
  refine lv_istore_n (lv' := [(1, .int (0)), (0, .ref (B (0)))]) hx hb dX11_coilsLeft_1 rfl hl (by decide) rfl (fun ls hl => ?_)
  refine lv_iconst (v := 0) hx hb dX11_coilsLeft_2 (by decide) ?_
  refine lv_istore_n (lv' := [(2, .int (0)), (1, .int (0)), (0, .ref (B (0)))]) hx hb dX11_coilsLeft_3 rfl hl (by decide) rfl (fun ls hl => ?_)
  have lo_a : ∀ (n i : Nat)  (H : Heap) (locs : List Loc) (ls : Array Slot), i ≤ 16 → 16 < i + n → Wd E tt A s (wl E X B F G P) H locs → lv_has ls 3 [(0, .ref (B (0))), (1, .int (cntL (vG G 118) (min i nc))), (2, .int (nI i))] → W p l e (rmO 4 0 0) s m ([.ref (B (0))] : List Value).toArray below meth c H locs 0 0 (MQ below (Fin0 E (fun r w => r = some (.int (cntL (vG G 118) nc)) ∧ w = (wl E X B F G P)) A) ([.ref (B (0))] : List Value).toArray s 0 0 A) (F0 m 4 ls []) := by
    intro n
    induction n with
    | zero =>
      intro i  H locs ls hi_1 hi_2
      exact absurd hi_2 (by omega)
    | succ n ih_a =>
      intro i  H locs ls hi_a hj_a  hw hl
      refine lv_iload_n hx hb dX11_coilsLeft_4 rfl (lv_at hl 2 rfl) ?_
      refine lv_aload_n hx hb dX11_coilsLeft_5 rfl (lv_at hl 0 rfl) ?_
      refine g_r 4 (k2 := 52) C hw (hR.f rfl) rfl fl_X11_36 rfl (hR.p0 4 (by decide)) dX11_coilsLeft_6 ?_
      refine a_n (v := 16) C hw (hR.f rfl) (by decide) (by decide) rfl dX11_coilsLeft_9 ?_
      refine lv_icmp_ge (tgt := 30) hx hb dX11_coilsLeft_10 (by decide) (fun c_10 => ?_) (fun c_10 => ?_)
      · have he : i = 16 := lp_eq (b := 16) (by decide) (by omega) c_10
        subst he
        refine lv_iload_n hx hb dX11_coilsLeft_30 rfl (lv_at hl 1 rfl) ?_
        exact r_i C hr hlk hw ⟨(by rw [show min 16 nc = nc by omega]), rfl⟩ dX11_coilsLeft_31
      · have hlt : i < 16 := lp_lt (b := 16) (by decide) (by omega) c_10
        refine lv_aload_n hx hb dX11_coilsLeft_13 rfl (lv_at hl 0 rfl) ?_
        refine lv_iload_n hx hb dX11_coilsLeft_14 rfl (lv_at hl 2 rfl) ?_
        refine kV C hw (c_X11_coilAt E tt B F G hR hCK (nI i)) vy_X11_coilAt ml_X11_183 (rcv hw (hR.f rfl) rfl (by decide) (q2 := (RX11, TX11, 19)) rfl) rfl hl.1 (rest := []) rfl dX11_coilsLeft_15 (Nat.le_of_ble_eq_true rfl) ⟨by decide, by decide⟩ ⟨Nat.le_of_ble_eq_true rfl, Nat.le_of_ble_eq_true rfl⟩ (fun v_15 ws_15 H locs hp_15 hq_15 => ?_)
        clear hw
        rcases hp_15 with ⟨c1, hl_c1, he_c1, ok_15, rfl, rfl⟩ | ⟨h_15, rfl, rfl⟩
        · have hw := hq_15
          refine W.eq (g2 := F0 m 18 ls [.ref (B (53 + c1))]) rfl ?_
          refine lv_ifnull hx hb dX11_coilsLeft_18 ?_
          refine lv_iinc (v := (cntL (vG G 118) (min i nc)) + 1) (lv' := [(1, .int ((cntL (vG G 118) (min i nc)) + 1)), (0, .ref (B (0))), (2, .int (nI i))]) hx hb dX11_coilsLeft_21 hl (k := 1) rfl rfl (by decide) rfl (fun ls hl => ?_)
          have hl : lv_has ls 3 [(1, .int (cntL (vG G 118) (min (i + 1) nc))), (0, .ref (B (0))), (2, .int (nI i))] := by rw [← cntL_y hl_c1 he_c1 hn16 hlt ok_15]; exact hl
          refine lv_iinc (v := nI (i + 1)) (lv' := [(2, .int (nI (i + 1))), (1, .int (cntL (vG G 118) (min (i + 1) nc))), (0, .ref (B (0)))]) hx hb dX11_coilsLeft_24 hl (k := 2) rfl (nI_1 _) (by decide) rfl (fun ls hl => ?_)
          refine lv_goto (tgt := 4) hx hb dX11_coilsLeft_27 (by decide) ?_
          exact ih_a (i + 1)  _ _ _ (by omega) (by omega)  hw (lv_sub hl [2, 1, 0] rfl)
        · have hw := hq_15
          refine W.eq (g2 := F0 m 18 ls [.null]) rfl ?_
          refine lv_ifnullN (tgt := 24) hx hb dX11_coilsLeft_18 (by decide) ?_
          have hl : lv_has ls 3 [(0, .ref (B (0))), (1, .int (cntL (vG G 118) (min (i + 1) nc))), (2, .int (nI i))] := by rw [← cntL_n hn16 hlt h_15]; exact hl
          refine lv_iinc (v := nI (i + 1)) (lv' := [(2, .int (nI (i + 1))), (0, .ref (B (0))), (1, .int (cntL (vG G 118) (min (i + 1) nc)))]) hx hb dX11_coilsLeft_24 hl (k := 2) rfl (nI_1 _) (by decide) rfl (fun ls hl => ?_)
          refine lv_goto (tgt := 4) hx hb dX11_coilsLeft_27 (by decide) ?_
          exact ih_a (i + 1)  _ _ _ (by omega) (by omega)  hw (lv_sub hl [1, 2, 0] rfl)
  exact lo_a (16 + 1) 0  _ _ _ (by omega) (by omega)  hw (lv_sub hl [2, 1, 0] rfl)
