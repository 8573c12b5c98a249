set_option maxHeartbeats 4000000 in
set_option maxRecDepth 100000 in
theorem c_X12_part (E : cE) (tt : Nat × Nat × Nat) {X : List Nat} (B : Nat → Nat) (F : tF) (G : tG) {P : tP} (hM : RM X P) (nc : Nat) (mt : Nat → Nat) (hC : CO F nc mt) (c0 f0 : Int32) (hbad : ∀ c, c < nc → vp_nar .boolean (F 121 c) = F 121 c)  : CT E tt yX12_part cX12_part 6 (some .int) 2 0 0 [.ref (B (100)), .int (c0), .int (f0)] (wl E X B F G P) (fun r w => r = some (.int (sp_part F G nc c0 f0)) ∧ w = wl E X B (st_partF F G nc c0 f0) (st_partG F G nc c0 f0) P) := by
  refine CT.mk (by decide +kernel) (Nat.le_of_ble_eq_true rfl) ?_
  intro l p e s m below meth c A ls C hr hlk hnm hw hl
  have hx := C.1
  have hb := C.2.1
  have hts := C.2.2.2.2
  have hown : s.vm.findClass RX12 = some m.cls := C.2.2.2.1
  have hl : lv_has ls 6 [(0, .ref (B (100))), (1, .int (c0)), (2, .int (f0))] := hl
  refine lv_aload_n hx hb dX12_part_0 rfl (lv_at hl 0 rfl) ?_
  refine lv_iload_n hx hb dX12_part_1 rfl (lv_at hl 1 rfl) ?_
  refine kV C hw (c_X12_isCoil E tt B F G hM nc hC.1 hC.2.1 (c0)) vy_X12_isCoil ml_X12_173 (rcv hw (hM.m rfl) rfl (by decide) (q2 := (RX12, TX12, 49)) rfl) rfl hl.1 (rest := []) rfl dX12_part_2 (Nat.le_of_ble_eq_true rfl) ⟨by decide, by decide⟩ ⟨Nat.le_of_ble_eq_true rfl, Nat.le_of_ble_eq_true rfl⟩ (fun v_2 ws_2 H locs hp_2 hq_2 => ?_)
  clear hw
  rcases hp_2 with ⟨h_2, rfl, rfl⟩ | ⟨h_2, rfl, rfl⟩
  · have hw := hq_2
    refine W.eq (g2 := F0 m 5 ls [.int (1)]) rfl ?_
    obtain ⟨c1, hl_c1, rfl, hs_c1⟩ := ok_coil_n hC.2.1 h_2
    have hz_c1 := i4_cl (i := c1) (by have := hC.2.1; omega)
    obtain ⟨hm_c1, hm4_c1, hd_c1⟩ := hC.2.2 c1 hl_c1
    have hc16 := hC.2.1
    refine lv_if_ne (tgt := 11) hx hb dX12_part_5 (by decide) (fun _ => ?_) (fun h9 => False.elim (by revert h9; decide))
    refine lv_iload_n hx hb dX12_part_11 rfl (lv_at hl 2 rfl) ?_
    refine lv_iconst (v := 1) hx hb dX12_part_12 (by decide) ?_
    refine lv_aload_n hx hb dX12_part_13 rfl (lv_at hl 0 rfl) ?_
    refine lv_iload_n hx hb dX12_part_14 rfl (lv_at hl 1 rfl) ?_
    refine kV C hw (c_X12_feetOf E tt B F G hM (q := c1) (by omega) (hd_c1)) vy_X12_feetOf ml_X12_167 (rcv hw (hM.m rfl) rfl (by decide) (q2 := (RX12, TX12, 49)) rfl) rfl hl.1 (rest := [.int (1), .int (f0)]) rfl dX12_part_15 (Nat.le_of_ble_eq_true rfl) ⟨by decide, by decide⟩ ⟨Nat.le_of_ble_eq_true rfl, Nat.le_of_ble_eq_true rfl⟩ (fun v_15 ws_15 H locs hp_15 hq_15 => ?_)
    clear hw
    obtain ⟨rfl, rfl⟩ := hp_15
    have hw := hq_15
    refine W.eq (g2 := F0 m 18 ls [.int (w_feet F G (c1)), .int (1), .int (f0)]) rfl ?_
    refine lv_iconst (v := 1) hx hb dX12_part_18 (by decide) ?_
    refine lv_isub hx hb dX12_part_19 ?_
    refine kS C hw (c_X12_within E tt _ (f0) (1) ((w_feet F G (c1) - 1))) vy_X12_within ml_X12_123 rfl hl.1 (rest := []) rfl dX12_part_20 (Nat.le_of_ble_eq_true rfl) ⟨by decide, by decide⟩ ⟨Nat.le_of_ble_eq_true rfl, Nat.le_of_ble_eq_true rfl⟩ (fun v_20 ws_20 H locs hp_20 hq_20 => ?_)
    clear hw
    rcases hp_20 with ⟨h_20, rfl, rfl⟩ | ⟨h_20, rfl, rfl⟩
    · have hw := hq_20
      refine W.eq (g2 := F0 m 23 ls [.int (1)]) rfl ?_
      refine lv_if_ne (tgt := 29) hx hb dX12_part_23 (by decide) (fun _ => ?_) (fun h9 => False.elim (by revert h9; decide))
      refine lv_aload_n hx hb dX12_part_29 rfl (lv_at hl 0 rfl) ?_
      refine g_i 13 C hw (hM.m rfl) rfl fl_X12_127 rfl dX12_part_30 ?_
      refine tp_i (y := nI nc) (hC.1) ?_
      refine lv_bipush (v := 16) hx hb dX12_part_33 (by decide) ?_
      refine lv_icmp_ne (tgt := 41) hx hb dX12_part_35 (by decide) (fun c_35 => ?_) (fun c_35 => ?_)
      · have hn3 : nc ≠ 16 := fun h9 => c_35 (by rw [h9]; rfl)
        refine lv_aload_n hx hb dX12_part_41 rfl (lv_at hl 0 rfl) ?_
        refine g_r 15 (k2 := 116) C hw (hM.m rfl) rfl fl_X12_52 rfl (hM.p 15 rfl) dX12_part_42 ?_
        refine lv_iload_n hx hb dX12_part_45 rfl (lv_at hl 1 rfl) ?_
        refine n_i c1 C hw (hM.m rfl) rfl rfl (show _ < 16 by omega) dX12_part_46 ?_
        refine lv_i2l hx hb dX12_part_47 rfl ?_
        refine lv_aload_n hx hb dX12_part_48 rfl (lv_at hl 0 rfl) ?_
        refine g_r 15 (k2 := 116) C hw (hM.m rfl) rfl fl_X12_52 rfl (hM.p 15 rfl) dX12_part_49 ?_
        refine lv_iload_n hx hb dX12_part_52 rfl (lv_at hl 1 rfl) ?_
        refine n_i c1 C hw (hM.m rfl) rfl rfl (show _ < 16 by omega) dX12_part_53 ?_
        refine lv_i2l hx hb dX12_part_54 rfl ?_
        refine lv_lmul hx hb dX12_part_55 ?_
        refine lv_iload_n hx hb dX12_part_56 rfl (lv_at hl 2 rfl) ?_
        refine lv_i2l hx hb dX12_part_57 rfl ?_
        refine lv_lmul hx hb dX12_part_58 ?_
        refine tp_l (y := stay F c1 f0) (rfl) ?_
        refine lv_lstore_n (lv' := [(3, .long (stay F c1 f0)), (0, .ref (B (100))), (1, .int (nI c1)), (2, .int (f0))]) hx hb dX12_part_59 rfl hl (by decide) rfl (fun ls hl => ?_)
        refine lv_aload_n hx hb dX12_part_60 rfl (lv_at hl 1 rfl) ?_
        refine lv_aload_n hx hb dX12_part_61 rfl (lv_at hl 1 rfl) ?_
        refine g_r 14 (k2 := 115) C hw (hM.m rfl) rfl fl_X12_49 rfl (hM.p 14 rfl) dX12_part_62 ?_
        refine lv_iload_n hx hb dX12_part_65 rfl (lv_at hl 2 rfl) ?_
        refine n_i c1 C hw (hM.m rfl) rfl rfl (show _ < 16 by omega) dX12_part_66 ?_
        refine lv_aload_n hx hb dX12_part_67 rfl (lv_at hl 1 rfl) ?_
        refine g_r 15 (k2 := 116) C hw (hM.m rfl) rfl fl_X12_52 rfl (hM.p 15 rfl) dX12_part_68 ?_
        refine lv_iload_n hx hb dX12_part_71 rfl (lv_at hl 2 rfl) ?_
        refine n_i c1 C hw (hM.m rfl) rfl rfl (show _ < 16 by omega) dX12_part_72 ?_
        refine lv_aload_n hx hb dX12_part_73 rfl (lv_at hl 1 rfl) ?_
        refine g_r 17 (k2 := 118) C hw (hM.m rfl) rfl fl_X12_58 rfl (hM.p 17 rfl) dX12_part_74 ?_
        refine lv_iload_n hx hb dX12_part_77 rfl (lv_at hl 2 rfl) ?_
        refine n_l c1 C hw (hM.m rfl) rfl rfl (show _ < 16 by omega) dX12_part_78 ?_
        refine lv_lload_n hx hb dX12_part_79 rfl (lv_at hl 0 rfl) ?_
        refine lv_lsub hx hb dX12_part_80 ?_
        refine kV C hw (c_X12_newCoil E tt B F G hM nc hC.1 (by omega) (F 115 c1) (F 116 c1) (G 118 c1 - stay F c1 f0)) vy_X12_newCoil ml_X12_163 (rcv hw (hM.m rfl) rfl (by decide) (q2 := (RX12, TX12, 49)) rfl) rfl hl.1 (rest := []) rfl dX12_part_81 (Nat.le_of_ble_eq_true rfl) ⟨by decide, by decide⟩ ⟨Nat.le_of_ble_eq_true rfl, Nat.le_of_ble_eq_true rfl⟩ (fun v_81 ws_81 H locs hp_81 hq_81 => ?_)
        clear hw
        obtain ⟨rfl, rfl⟩ := hp_81
        have hw := hq_81
        refine W.eq (g2 := F0 m 84 ls [.int (nI nc)]) rfl ?_
        refine lv_istore (lv' := [(5, .int (nI nc)), (3, .long (stay F c1 f0)), (0, .ref (B (100))), (1, .int (nI c1)), (2, .int (f0))]) hx hb dX12_part_84 hl (by decide) rfl (fun ls hl => ?_)
        refine lv_aload_n hx hb dX12_part_86 rfl (lv_at hl 2 rfl) ?_
        refine g_r 16 (k2 := 117) C hw (hM.m rfl) rfl fl_X12_55 rfl (hM.p 16 rfl) dX12_part_87 ?_
        refine lv_iload hx hb dX12_part_90 (lv_at hl 0 rfl) ?_
        refine lv_aload_n hx hb dX12_part_92 rfl (lv_at hl 2 rfl) ?_
        refine g_r 16 (k2 := 117) C hw (hM.m rfl) rfl fl_X12_55 rfl (hM.p 16 rfl) dX12_part_93 ?_
        refine lv_iload_n hx hb dX12_part_96 rfl (lv_at hl 3 rfl) ?_
        refine n_i c1 C hw (hM.m rfl) rfl rfl (show _ < 16 by omega) dX12_part_97 ?_
        refine tp_i (y := F 117 c1) ((uF_n _ _ (Or.inl (by decide))).trans ((uF_n _ _ (Or.inl (by decide))).trans ((uF_n _ _ (Or.inl (by decide))).trans ((uF_n _ _ (Or.inl (by decide))).trans ((uF_n _ _ (Or.inr (by omega))).trans ((uF_n _ _ (Or.inl (by decide))).trans ((uF_n _ _ (Or.inl (by decide))).trans (rfl)))))))) ?_
        refine t_i nc C hw (hM.m rfl) rfl rfl (show _ < 16 by omega) dX12_part_98 (fun H locs hw => ?_)
        refine lv_aload_n hx hb dX12_part_99 rfl (lv_at hl 2 rfl) ?_
        refine g_r 18 (k2 := 119) C hw (hM.m rfl) rfl fl_X12_62 rfl (hM.p 18 rfl) dX12_part_100 ?_
        refine lv_iload hx hb dX12_part_103 (lv_at hl 0 rfl) ?_
        refine lv_aload_n hx hb dX12_part_105 rfl (lv_at hl 2 rfl) ?_
        refine g_r 18 (k2 := 119) C hw (hM.m rfl) rfl fl_X12_62 rfl (hM.p 18 rfl) dX12_part_106 ?_
        refine lv_iload_n hx hb dX12_part_109 rfl (lv_at hl 3 rfl) ?_
        refine n_i c1 C hw (hM.m rfl) rfl rfl (show _ < 16 by omega) dX12_part_110 ?_
        refine tp_i (y := F 119 c1) ((uF_n _ _ (Or.inl (by decide))).trans ((uF_n _ _ (Or.inl (by decide))).trans ((uF_n _ _ (Or.inl (by decide))).trans ((uF_n _ _ (Or.inl (by decide))).trans ((uF_n _ _ (Or.inr (by omega))).trans ((uF_n _ _ (Or.inl (by decide))).trans ((uF_n _ _ (Or.inl (by decide))).trans ((uF_n _ _ (Or.inl (by decide))).trans (rfl))))))))) ?_
        refine t_i nc C hw (hM.m rfl) rfl rfl (show _ < 16 by omega) dX12_part_111 (fun H locs hw => ?_)
        refine lv_aload_n hx hb dX12_part_112 rfl (lv_at hl 2 rfl) ?_
        refine g_r 19 (k2 := 120) C hw (hM.m rfl) rfl fl_X12_65 rfl (hM.p 19 rfl) dX12_part_113 ?_
        refine lv_iload hx hb dX12_part_116 (lv_at hl 0 rfl) ?_
        refine lv_aload_n hx hb dX12_part_118 rfl (lv_at hl 2 rfl) ?_
        refine g_r 19 (k2 := 120) C hw (hM.m rfl) rfl fl_X12_65 rfl (hM.p 19 rfl) dX12_part_119 ?_
        refine lv_iload_n hx hb dX12_part_122 rfl (lv_at hl 3 rfl) ?_
        refine n_i c1 C hw (hM.m rfl) rfl rfl (show _ < 16 by omega) dX12_part_123 ?_
        refine tp_i (y := F 120 c1) ((uF_n _ _ (Or.inl (by decide))).trans ((uF_n _ _ (Or.inl (by decide))).trans ((uF_n _ _ (Or.inl (by decide))).trans ((uF_n _ _ (Or.inl (by decide))).trans ((uF_n _ _ (Or.inr (by omega))).trans ((uF_n _ _ (Or.inl (by decide))).trans ((uF_n _ _ (Or.inl (by decide))).trans ((uF_n _ _ (Or.inl (by decide))).trans ((uF_n _ _ (Or.inl (by decide))).trans (rfl)))))))))) ?_
        refine t_i nc C hw (hM.m rfl) rfl rfl (show _ < 16 by omega) dX12_part_124 (fun H locs hw => ?_)
        refine lv_aload_n hx hb dX12_part_125 rfl (lv_at hl 2 rfl) ?_
        refine g_r 20 (k2 := 121) C hw (hM.m rfl) rfl fl_X12_68 rfl (hM.p 20 rfl) dX12_part_126 ?_
        refine lv_iload hx hb dX12_part_129 (lv_at hl 0 rfl) ?_
        refine lv_aload_n hx hb dX12_part_131 rfl (lv_at hl 2 rfl) ?_
        refine g_r 20 (k2 := 121) C hw (hM.m rfl) rfl fl_X12_68 rfl (hM.p 20 rfl) dX12_part_132 ?_
        refine lv_iload_n hx hb dX12_part_135 rfl (lv_at hl 3 rfl) ?_
        refine n_z c1 C hw (hM.m rfl) rfl rfl (show _ < 16 by omega) dX12_part_136 ?_
        refine tp_i (y := F 121 c1) ((uF_n _ _ (Or.inl (by decide))).trans ((uF_n _ _ (Or.inl (by decide))).trans ((uF_n _ _ (Or.inl (by decide))).trans ((uF_n _ _ (Or.inl (by decide))).trans ((uF_n _ _ (Or.inr (by omega))).trans ((uF_n _ _ (Or.inl (by decide))).trans ((uF_n _ _ (Or.inl (by decide))).trans ((uF_n _ _ (Or.inl (by decide))).trans ((uF_n _ _ (Or.inl (by decide))).trans ((uF_n _ _ (Or.inl (by decide))).trans (rfl))))))))))) ?_
        refine t_z nc C hw (hM.m rfl) rfl rfl (show _ < 16 by omega) (hbad c1 hl_c1) dX12_part_137 (fun H locs hw => ?_)
        refine lv_aload_n hx hb dX12_part_138 rfl (lv_at hl 2 rfl) ?_
        refine g_r 17 (k2 := 118) C hw (hM.m rfl) rfl fl_X12_58 rfl (hM.p 17 rfl) dX12_part_139 ?_
        refine lv_iload_n hx hb dX12_part_142 rfl (lv_at hl 3 rfl) ?_
        refine lv_lload_n hx hb dX12_part_143 rfl (lv_at hl 1 rfl) ?_
        refine t_l c1 C hw (hM.m rfl) rfl rfl (show _ < 16 by omega) dX12_part_144 (fun H locs hw => ?_)
        refine lv_iload hx hb dX12_part_145 (lv_at hl 0 rfl) ?_
        exact r_i C hr hlk hw ⟨(by simp [sp_part, h_2, h_20, hn3, hz_c1]), (by simp only [st_partF, st_partG, ok_part, h_2, hz_c1]; rw [if_pos ⟨trivial, h_20, hn3⟩, if_pos ⟨trivial, h_20, hn3⟩]; rfl)⟩ dX12_part_147
      · have hn3 : nc = 16 := (nI_eq (by omega) (by decide)).mp c_35
        subst hn3
        refine lv_bipush (v := -8) hx hb dX12_part_38 (by decide) ?_
        exact r_i C hr hlk hw ⟨(by simp [sp_part, st_partF, st_partG, ok_part, hz_c1, h_2, h_20, c_35]), (by simp [sp_part, st_partF, st_partG, ok_part, hz_c1, h_2, h_20, c_35])⟩ dX12_part_40
    · have hw := hq_20
      refine W.eq (g2 := F0 m 23 ls [.int (0)]) rfl ?_
      refine lv_if_ne (tgt := 29) hx hb dX12_part_23 (by decide) (fun h9 => False.elim (by revert h9; decide)) (fun _ => ?_)
      refine lv_bipush (v := -3) hx hb dX12_part_26 (by decide) ?_
      exact r_i C hr hlk hw ⟨(by simp [sp_part, st_partF, st_partG, ok_part, hz_c1, h_2, h_20]), (by simp [sp_part, st_partF, st_partG, ok_part, hz_c1, h_2, h_20])⟩ dX12_part_28
  · have hw := hq_2
    refine W.eq (g2 := F0 m 5 ls [.int (0)]) rfl ?_
    refine lv_if_ne (tgt := 11) hx hb dX12_part_5 (by decide) (fun h9 => False.elim (by revert h9; decide)) (fun _ => ?_)
    refine lv_bipush (v := -2) hx hb dX12_part_8 (by decide) ?_
    exact r_i C hr hlk hw ⟨(by simp [sp_part, st_partF, st_partG, ok_part, h_2]), (by simp [sp_part, st_partF, st_partG, ok_part, h_2])⟩ dX12_part_10

set_option maxHeartbeats 4000000 in
set_option maxRecDepth 100000 in
theorem c_X12_join (E : cE) (tt : Nat × Nat × Nat) {X : List Nat} (B : Nat → Nat) (F : tF) (G : tG) {P : tP} (hM : RM X P) (nc : Nat) (mt : Nat → Nat) (hC : CO F nc mt) (c0 d0 : Int32)  : CT E tt yX12_join cX12_join 5 (some .int) 2 0 0 [.ref (B (100)), .int (c0), .int (d0)] (wl E X B F G P) (fun r w => r = some (.int (sp_join F G nc c0 d0)) ∧ w = wl E X B (st_joinF F G nc c0 d0) (st_joinG F G nc c0 d0) P) := by
  refine CT.mk (by decide +kernel) (Nat.le_of_ble_eq_true rfl) ?_
  intro l p e s m below meth c A ls C hr hlk hnm hw hl
  have hx := C.1
  have hb := C.2.1
  have hts := C.2.2.2.2
  have hown : s.vm.findClass RX12 = some m.cls := C.2.2.2.1
  have hl : lv_has ls 5 [(0, .ref (B (100))), (1, .int (c0)), (2, .int (d0))] := hl
  refine lv_aload_n hx hb dX12_join_0 rfl (lv_at hl 0 rfl) ?_
  refine lv_iload_n hx hb dX12_join_1 rfl (lv_at hl 1 rfl) ?_
  refine kV C hw (c_X12_isCoil E tt B F G hM nc hC.1 hC.2.1 (c0)) vy_X12_isCoil ml_X12_173 (rcv hw (hM.m rfl) rfl (by decide) (q2 := (RX12, TX12, 49)) rfl) rfl hl.1 (rest := []) rfl dX12_join_2 (Nat.le_of_ble_eq_true rfl) ⟨by decide, by decide⟩ ⟨Nat.le_of_ble_eq_true rfl, Nat.le_of_ble_eq_true rfl⟩ (fun v_2 ws_2 H locs hp_2 hq_2 => ?_)
  clear hw
  rcases hp_2 with ⟨h_2, rfl, rfl⟩ | ⟨h_2, rfl, rfl⟩
  · have hw := hq_2
    refine W.eq (g2 := F0 m 5 ls [.int (1)]) rfl ?_
    obtain ⟨c1, hl_c1, rfl, hs_c1⟩ := ok_coil_n hC.2.1 h_2
    have hz_c1 := i4_cl (i := c1) (by have := hC.2.1; omega)
    obtain ⟨hm_c1, hm4_c1, hd_c1⟩ := hC.2.2 c1 hl_c1
    have hc16 := hC.2.1
    refine lv_if_eq (tgt := 16) hx hb dX12_join_5 (by decide) (fun h9 => False.elim (by revert h9; decide)) (fun _ => ?_)
    refine lv_aload_n hx hb dX12_join_8 rfl (lv_at hl 0 rfl) ?_
    refine lv_iload_n hx hb dX12_join_9 rfl (lv_at hl 2 rfl) ?_
    refine kV C hw (c_X12_isCoil E tt B F G hM nc hC.1 hC.2.1 (d0)) vy_X12_isCoil ml_X12_173 (rcv hw (hM.m rfl) rfl (by decide) (q2 := (RX12, TX12, 49)) rfl) rfl hl.1 (rest := []) rfl dX12_join_10 (Nat.le_of_ble_eq_true rfl) ⟨by decide, by decide⟩ ⟨Nat.le_of_ble_eq_true rfl, Nat.le_of_ble_eq_true rfl⟩ (fun v_10 ws_10 H locs hp_10 hq_10 => ?_)
    clear hw
    rcases hp_10 with ⟨h_10, rfl, rfl⟩ | ⟨h_10, rfl, rfl⟩
    · have hw := hq_10
      refine W.eq (g2 := F0 m 13 ls [.int (1)]) rfl ?_
      obtain ⟨c2, hl_c2, rfl, hs_c2⟩ := ok_coil_n hC.2.1 h_10
      have hz_c2 := i4_cl (i := c2) (by have := hC.2.1; omega)
      obtain ⟨hm_c2, hm4_c2, hd_c2⟩ := hC.2.2 c2 hl_c2
      have hc16 := hC.2.1
      refine lv_if_ne (tgt := 19) hx hb dX12_join_13 (by decide) (fun _ => ?_) (fun h9 => False.elim (by revert h9; decide))
      refine lv_iload_n hx hb dX12_join_19 rfl (lv_at hl 1 rfl) ?_
      refine lv_iload_n hx hb dX12_join_20 rfl (lv_at hl 2 rfl) ?_
      refine lv_icmp_ne (tgt := 27) hx hb dX12_join_21 (by decide) (fun c_21 => ?_) (fun c_21 => ?_)
      · have hne : c1 ≠ c2 := fun h9 => c_21 (by rw [h9])
        refine lv_aload_n hx hb dX12_join_27 rfl (lv_at hl 0 rfl) ?_
        refine g_r 14 (k2 := 115) C hw (hM.m rfl) rfl fl_X12_49 rfl (hM.p 14 rfl) dX12_join_28 ?_
        refine lv_iload_n hx hb dX12_join_31 rfl (lv_at hl 1 rfl) ?_
        refine n_i c1 C hw (hM.m rfl) rfl rfl (show _ < 16 by omega) dX12_join_32 ?_
        refine lv_aload_n hx hb dX12_join_33 rfl (lv_at hl 0 rfl) ?_
        refine g_r 14 (k2 := 115) C hw (hM.m rfl) rfl fl_X12_49 rfl (hM.p 14 rfl) dX12_join_34 ?_
        refine lv_iload_n hx hb dX12_join_37 rfl (lv_at hl 2 rfl) ?_
        refine n_i c2 C hw (hM.m rfl) rfl rfl (show _ < 16 by omega) dX12_join_38 ?_
        refine lv_icmp_ne (tgt := 73) hx hb dX12_join_39 (by decide) (fun c_39 => ?_) (fun c_39 => ?_)
        · refine lv_bipush (v := -4) hx hb dX12_join_73 (by decide) ?_
          exact r_i C hr hlk hw ⟨(by simp [sp_join, st_joinF, st_joinG, j_why, h_2, h_10, c_21, c_39, hz_c1, hz_c2]), (by simp [sp_join, st_joinF, st_joinG, j_why, h_2, h_10, c_21, c_39, hz_c1, hz_c2])⟩ dX12_join_75
        · refine lv_aload_n hx hb dX12_join_42 rfl (lv_at hl 0 rfl) ?_
          refine g_r 15 (k2 := 116) C hw (hM.m rfl) rfl fl_X12_52 rfl (hM.p 15 rfl) dX12_join_43 ?_
          refine lv_iload_n hx hb dX12_join_46 rfl (lv_at hl 1 rfl) ?_
          refine n_i c1 C hw (hM.m rfl) rfl rfl (show _ < 16 by omega) dX12_join_47 ?_
          refine lv_aload_n hx hb dX12_join_48 rfl (lv_at hl 0 rfl) ?_
          refine g_r 15 (k2 := 116) C hw (hM.m rfl) rfl fl_X12_52 rfl (hM.p 15 rfl) dX12_join_49 ?_
          refine lv_iload_n hx hb dX12_join_52 rfl (lv_at hl 2 rfl) ?_
          refine n_i c2 C hw (hM.m rfl) rfl rfl (show _ < 16 by omega) dX12_join_53 ?_
          refine lv_icmp_ne (tgt := 73) hx hb dX12_join_54 (by decide) (fun c_54 => ?_) (fun c_54 => ?_)
          · refine lv_bipush (v := -4) hx hb dX12_join_73 (by decide) ?_
            exact r_i C hr hlk hw ⟨(by simp [sp_join, st_joinF, st_joinG, j_why, h_2, h_10, c_21, c_39, c_54, hz_c1, hz_c2]), (by simp [sp_join, st_joinF, st_joinG, j_why, h_2, h_10, c_21, c_39, c_54, hz_c1, hz_c2])⟩ dX12_join_75
          · refine lv_aload_n hx hb dX12_join_57 rfl (lv_at hl 0 rfl) ?_
            refine lv_iload_n hx hb dX12_join_58 rfl (lv_at hl 2 rfl) ?_
            refine kV C hw (c_X12_feetOf E tt B F G hM (q := c2) (by omega) (hd_c2)) vy_X12_feetOf ml_X12_167 (rcv hw (hM.m rfl) rfl (by decide) (q2 := (RX12, TX12, 49)) rfl) rfl hl.1 (rest := []) rfl dX12_join_59 (Nat.le_of_ble_eq_true rfl) ⟨by decide, by decide⟩ ⟨Nat.le_of_ble_eq_true rfl, Nat.le_of_ble_eq_true rfl⟩ (fun v_59 ws_59 H locs hp_59 hq_59 => ?_)
            clear hw
            obtain ⟨rfl, rfl⟩ := hp_59
            have hw := hq_59
            refine W.eq (g2 := F0 m 62 ls [.int (w_feet F G (c2))]) rfl ?_
            refine lv_aload_n hx hb dX12_join_62 rfl (lv_at hl 0 rfl) ?_
            refine g_r 5 (k2 := 106) C hw (hM.m rfl) rfl fl_X12_25 rfl (hM.p 5 rfl) dX12_join_63 ?_
            refine lv_iconst (v := 4) hx hb dX12_join_66 (by decide) ?_
            refine n_i 4 C hw (hM.m rfl) rfl rfl (show _ < 6 by omega) dX12_join_67 ?_
            refine lv_iconst (v := 1) hx hb dX12_join_68 (by decide) ?_
            refine lv_iadd hx hb dX12_join_69 ?_
            refine lv_icmp_ge (tgt := 76) hx hb dX12_join_70 (by decide) (fun c_70 => ?_) (fun c_70 => ?_)
            · have hj1 : j_why F G nc (nI c1) (nI c2) = 1 := by simp [j_why, h_2, h_10, c_21, c_39, c_54, c_70, hz_c1, hz_c2]
              refine lv_aload_n hx hb dX12_join_76 rfl (lv_at hl 0 rfl) ?_
              refine g_r 15 (k2 := 116) C hw (hM.m rfl) rfl fl_X12_52 rfl (hM.p 15 rfl) dX12_join_77 ?_
              refine lv_iload_n hx hb dX12_join_80 rfl (lv_at hl 2 rfl) ?_
              refine n_i c2 C hw (hM.m rfl) rfl rfl (show _ < 16 by omega) dX12_join_81 ?_
              refine lv_i2l hx hb dX12_join_82 rfl ?_
              refine lv_aload_n hx hb dX12_join_83 rfl (lv_at hl 0 rfl) ?_
              refine g_r 15 (k2 := 116) C hw (hM.m rfl) rfl fl_X12_52 rfl (hM.p 15 rfl) dX12_join_84 ?_
              refine lv_iload_n hx hb dX12_join_87 rfl (lv_at hl 2 rfl) ?_
              refine n_i c2 C hw (hM.m rfl) rfl rfl (show _ < 16 by omega) dX12_join_88 ?_
              refine lv_i2l hx hb dX12_join_89 rfl ?_
              refine lv_lmul hx hb dX12_join_90 ?_
              refine lv_aload_n hx hb dX12_join_91 rfl (lv_at hl 0 rfl) ?_
              refine g_r 5 (k2 := 106) C hw (hM.m rfl) rfl fl_X12_25 rfl (hM.p 5 rfl) dX12_join_92 ?_
              refine lv_iconst (v := 4) hx hb dX12_join_95 (by decide) ?_
              refine n_i 4 C hw (hM.m rfl) rfl rfl (show _ < 6 by omega) dX12_join_96 ?_
              refine lv_i2l hx hb dX12_join_97 rfl ?_
              refine lv_lmul hx hb dX12_join_98 ?_
              refine tp_l (y := j_off F c2) (rfl) ?_
              refine lv_lstore_n (lv' := [(3, .long (j_off F c2)), (0, .ref (B (100))), (1, .int (nI c1)), (2, .int (nI c2))]) hx hb dX12_join_99 rfl hl (by decide) rfl (fun ls hl => ?_)
              refine lv_aload_n hx hb dX12_join_100 rfl (lv_at hl 1 rfl) ?_
              refine lv_dup hx hb dX12_join_101 rfl ?_
              refine g_l 32 C hw (hM.m rfl) rfl fl_X12_170 rfl dX12_join_102 ?_
              refine lv_lload_n hx hb dX12_join_105 rfl (lv_at hl 0 rfl) ?_
              refine lv_ladd hx hb dX12_join_106 ?_
              refine p_l 32 C hw (hM.m rfl) rfl fl_X12_170 fc_12 fn_12_32 (fun h9 => by cases h9) rfl rfl rfl dX12_join_107 (fun H locs hw => ?_)
              refine lv_aload_n hx hb dX12_join_110 rfl (lv_at hl 1 rfl) ?_
              refine g_r 17 (k2 := 118) C hw (hM.m rfl) rfl fl_X12_58 rfl (hM.p 17 rfl) dX12_join_111 ?_
              refine lv_iload_n hx hb dX12_join_114 rfl (lv_at hl 2 rfl) ?_
              refine lv_dup2_11 hx hb dX12_join_115 rfl rfl ?_
              refine n_l c1 C hw (hM.m rfl) rfl rfl (show _ < 16 by omega) dX12_join_116 ?_
              refine tp_l (y := G 118 c1) ((uG_n _ _ (Or.inl (by decide))).trans (rfl)) ?_
              refine lv_aload_n hx hb dX12_join_117 rfl (lv_at hl 1 rfl) ?_
              refine g_r 17 (k2 := 118) C hw (hM.m rfl) rfl fl_X12_58 rfl (hM.p 17 rfl) dX12_join_118 ?_
              refine lv_iload_n hx hb dX12_join_121 rfl (lv_at hl 3 rfl) ?_
              refine n_l c2 C hw (hM.m rfl) rfl rfl (show _ < 16 by omega) dX12_join_122 ?_
              refine tp_l (y := G 118 c2) ((uG_n _ _ (Or.inl (by decide))).trans (rfl)) ?_
              refine lv_lload_n hx hb dX12_join_123 rfl (lv_at hl 0 rfl) ?_
              refine lv_lsub hx hb dX12_join_124 ?_
              refine lv_ladd hx hb dX12_join_125 ?_
              refine t_l c1 C hw (hM.m rfl) rfl rfl (show _ < 16 by omega) dX12_join_126 (fun H locs hw => ?_)
              refine lv_aload_n hx hb dX12_join_127 rfl (lv_at hl 1 rfl) ?_
              refine g_r 17 (k2 := 118) C hw (hM.m rfl) rfl fl_X12_58 rfl (hM.p 17 rfl) dX12_join_128 ?_
              refine lv_iload_n hx hb dX12_join_131 rfl (lv_at hl 3 rfl) ?_
              refine lv_lconst (v := 0) hx hb dX12_join_132 (by decide) ?_
              refine t_l c2 C hw (hM.m rfl) rfl rfl (show _ < 16 by omega) dX12_join_133 (fun H locs hw => ?_)
              refine lv_aload_n hx hb dX12_join_134 rfl (lv_at hl 1 rfl) ?_
              refine g_r 16 (k2 := 117) C hw (hM.m rfl) rfl fl_X12_55 rfl (hM.p 16 rfl) dX12_join_135 ?_
              refine lv_iload_n hx hb dX12_join_138 rfl (lv_at hl 2 rfl) ?_
              refine lv_aload_n hx hb dX12_join_139 rfl (lv_at hl 1 rfl) ?_
              refine g_r 16 (k2 := 117) C hw (hM.m rfl) rfl fl_X12_55 rfl (hM.p 16 rfl) dX12_join_140 ?_
              refine lv_iload_n hx hb dX12_join_143 rfl (lv_at hl 3 rfl) ?_
              refine n_i c2 C hw (hM.m rfl) rfl rfl (show _ < 16 by omega) dX12_join_144 ?_
              refine lv_aload_n hx hb dX12_join_145 rfl (lv_at hl 1 rfl) ?_
              refine g_r 16 (k2 := 117) C hw (hM.m rfl) rfl fl_X12_55 rfl (hM.p 16 rfl) dX12_join_146 ?_
              refine lv_iload_n hx hb dX12_join_149 rfl (lv_at hl 2 rfl) ?_
              refine n_i c1 C hw (hM.m rfl) rfl rfl (show _ < 16 by omega) dX12_join_150 ?_
              refine lv_icmp_le (tgt := 163) hx hb dX12_join_151 (by decide) (fun c_151 => ?_) (fun c_151 => ?_)
              · rw [← Int32.not_lt] at c_151
                refine lv_aload_n hx hb dX12_join_163 rfl (lv_at hl 1 rfl) ?_
                refine g_r 16 (k2 := 117) C hw (hM.m rfl) rfl fl_X12_55 rfl (hM.p 16 rfl) dX12_join_164 ?_
                refine lv_iload_n hx hb dX12_join_167 rfl (lv_at hl 2 rfl) ?_
                refine n_i c1 C hw (hM.m rfl) rfl rfl (show _ < 16 by omega) dX12_join_168 ?_
                refine tp_i (y := if F 117 c1 < F 117 c2 then F 117 c2 else F 117 c1) (by simp [c_151]) ?_
                refine t_i c1 C hw (hM.m rfl) rfl rfl (show _ < 16 by omega) dX12_join_169 (fun H locs hw => ?_)
                refine lv_aload_n hx hb dX12_join_170 rfl (lv_at hl 1 rfl) ?_
                refine g_r 18 (k2 := 119) C hw (hM.m rfl) rfl fl_X12_62 rfl (hM.p 18 rfl) dX12_join_171 ?_
                refine lv_iload_n hx hb dX12_join_174 rfl (lv_at hl 2 rfl) ?_
                refine lv_dup2_11 hx hb dX12_join_175 rfl rfl ?_
                refine n_i c1 C hw (hM.m rfl) rfl rfl (show _ < 16 by omega) dX12_join_176 ?_
                refine tp_i (y := F 119 c1) ((uF_n _ _ (Or.inl (by decide))).trans (rfl)) ?_
                refine lv_aload_n hx hb dX12_join_177 rfl (lv_at hl 1 rfl) ?_
                refine g_r 18 (k2 := 119) C hw (hM.m rfl) rfl fl_X12_62 rfl (hM.p 18 rfl) dX12_join_178 ?_
                refine lv_iload_n hx hb dX12_join_181 rfl (lv_at hl 3 rfl) ?_
                refine n_i c2 C hw (hM.m rfl) rfl rfl (show _ < 16 by omega) dX12_join_182 ?_
                refine tp_i (y := F 119 c2) ((uF_n _ _ (Or.inl (by decide))).trans (rfl)) ?_
                refine lv_iconst (v := 1) hx hb dX12_join_183 (by decide) ?_
                refine lv_iadd hx hb dX12_join_184 ?_
                refine lv_iadd hx hb dX12_join_185 ?_
                refine t_i c1 C hw (hM.m rfl) rfl rfl (show _ < 16 by omega) dX12_join_186 (fun H locs hw => ?_)
                refine lv_aload_n hx hb dX12_join_187 rfl (lv_at hl 1 rfl) ?_
                refine g_r 19 (k2 := 120) C hw (hM.m rfl) rfl fl_X12_65 rfl (hM.p 19 rfl) dX12_join_188 ?_
                refine lv_iload_n hx hb dX12_join_191 rfl (lv_at hl 2 rfl) ?_
                refine lv_aload_n hx hb dX12_join_192 rfl (lv_at hl 1 rfl) ?_
                refine g_r 19 (k2 := 120) C hw (hM.m rfl) rfl fl_X12_65 rfl (hM.p 19 rfl) dX12_join_193 ?_
                refine lv_iload_n hx hb dX12_join_196 rfl (lv_at hl 3 rfl) ?_
                refine n_i c2 C hw (hM.m rfl) rfl rfl (show _ < 16 by omega) dX12_join_197 ?_
                refine tp_i (y := F 120 c2) ((uF_n _ _ (Or.inl (by decide))).trans ((uF_n _ _ (Or.inl (by decide))).trans (rfl))) ?_
                refine lv_aload_n hx hb dX12_join_198 rfl (lv_at hl 1 rfl) ?_
                refine g_r 19 (k2 := 120) C hw (hM.m rfl) rfl fl_X12_65 rfl (hM.p 19 rfl) dX12_join_199 ?_
                refine lv_iload_n hx hb dX12_join_202 rfl (lv_at hl 2 rfl) ?_
                refine n_i c1 C hw (hM.m rfl) rfl rfl (show _ < 16 by omega) dX12_join_203 ?_
                refine tp_i (y := F 120 c1) ((uF_n _ _ (Or.inl (by decide))).trans ((uF_n _ _ (Or.inl (by decide))).trans (rfl))) ?_
                refine lv_icmp_le (tgt := 216) hx hb dX12_join_204 (by decide) (fun c_204 => ?_) (fun c_204 => ?_)
                · rw [← Int32.not_lt] at c_204
                  refine lv_aload_n hx hb dX12_join_216 rfl (lv_at hl 1 rfl) ?_
                  refine g_r 19 (k2 := 120) C hw (hM.m rfl) rfl fl_X12_65 rfl (hM.p 19 rfl) dX12_join_217 ?_
                  refine lv_iload_n hx hb dX12_join_220 rfl (lv_at hl 2 rfl) ?_
                  refine n_i c1 C hw (hM.m rfl) rfl rfl (show _ < 16 by omega) dX12_join_221 ?_
                  refine tp_i (y := F 120 c1) ((uF_n _ _ (Or.inl (by decide))).trans ((uF_n _ _ (Or.inl (by decide))).trans (rfl))) ?_
                  refine tp_i (y := if F 120 c1 < F 120 c2 then F 120 c2 else F 120 c1) (by simp [c_204]) ?_
                  refine t_i c1 C hw (hM.m rfl) rfl rfl (show _ < 16 by omega) dX12_join_222 (fun H locs hw => ?_)
                  refine lv_aload_n hx hb dX12_join_223 rfl (lv_at hl 1 rfl) ?_
                  refine g_r 20 (k2 := 121) C hw (hM.m rfl) rfl fl_X12_68 rfl (hM.p 20 rfl) dX12_join_224 ?_
                  refine lv_iload_n hx hb dX12_join_227 rfl (lv_at hl 2 rfl) ?_
                  refine lv_aload_n hx hb dX12_join_228 rfl (lv_at hl 1 rfl) ?_
                  refine g_r 20 (k2 := 121) C hw (hM.m rfl) rfl fl_X12_68 rfl (hM.p 20 rfl) dX12_join_229 ?_
                  refine lv_iload_n hx hb dX12_join_232 rfl (lv_at hl 2 rfl) ?_
                  refine n_z c1 C hw (hM.m rfl) rfl rfl (show _ < 16 by omega) dX12_join_233 ?_
                  refine tp_i (y := F 121 c1) ((uF_n _ _ (Or.inl (by decide))).trans ((uF_n _ _ (Or.inl (by decide))).trans ((uF_n _ _ (Or.inl (by decide))).trans (rfl)))) ?_
                  refine lv_if_ne (tgt := 246) hx hb dX12_join_234 (by decide) (fun c_234 => ?_) (fun c_234 => ?_)
                  · refine lv_iconst (v := 1) hx hb dX12_join_246 (by decide) ?_
                    refine lv_goto (tgt := 251) hx hb dX12_join_247 (by decide) ?_
                    refine tp_i (y := if F 121 c1 = 0 ∧ F 121 c2 = 0 then 0 else 1) (by simp [c_234]) ?_
                    refine t_z c1 C hw (hM.m rfl) rfl rfl (show _ < 16 by omega) (by split <;> rfl) dX12_join_251 (fun H locs hw => ?_)
                    refine lv_aload_n hx hb dX12_join_252 rfl (lv_at hl 1 rfl) ?_
                    refine lv_iload_n hx hb dX12_join_253 rfl (lv_at hl 2 rfl) ?_
                    refine kV C hw (c_X12_feetOf E tt B (uF (uF (uF (uF F 117 c1 (if F 117 c1 < F 117 c2 then F 117 c2 else F 117 c1)) 119 c1 ((F 119 c1 + (F 119 c2 + 1)))) 120 c1 (if F 120 c1 < F 120 c2 then F 120 c2 else F 120 c1)) 121 c1 (if F 121 c1 = 0 ∧ F 121 c2 = 0 then 0 else 1)) (uG (uG (uG G 100 32 ((G 100 32 + j_off F c2))) 118 c1 ((G 118 c1 + (G 118 c2 - j_off F c2)))) 118 c2 0) hM (q := c1) (by omega) (by simp only [uF_n _ _ (Or.inl (by decide : (116 : Nat) ≠ 121)), uF_n _ _ (Or.inl (by decide : (116 : Nat) ≠ 120)), uF_n _ _ (Or.inl (by decide : (116 : Nat) ≠ 119)), uF_n _ _ (Or.inl (by decide : (116 : Nat) ≠ 117))]; exact hd_c1)) vy_X12_feetOf ml_X12_167 (rcv hw (hM.m rfl) rfl (by decide) (q2 := (RX12, TX12, 49)) rfl) rfl hl.1 (rest := []) rfl dX12_join_254 (Nat.le_of_ble_eq_true rfl) ⟨by decide, by decide⟩ ⟨Nat.le_of_ble_eq_true rfl, Nat.le_of_ble_eq_true rfl⟩ (fun v_254 ws_254 H locs hp_254 hq_254 => ?_)
                    clear hw
                    obtain ⟨rfl, rfl⟩ := hp_254
                    have hw := hq_254
                    refine W.eq (g2 := F0 m 257 ls [.int (w_feet (uF (uF (uF (uF F 117 c1 (if F 117 c1 < F 117 c2 then F 117 c2 else F 117 c1)) 119 c1 ((F 119 c1 + (F 119 c2 + 1)))) 120 c1 (if F 120 c1 < F 120 c2 then F 120 c2 else F 120 c1)) 121 c1 (if F 121 c1 = 0 ∧ F 121 c2 = 0 then 0 else 1)) (uG (uG (uG G 100 32 ((G 100 32 + j_off F c2))) 118 c1 ((G 118 c1 + (G 118 c2 - j_off F c2)))) 118 c2 0) (c1))]) rfl ?_
                    refine tp_i (y := w_ft (G 118 c1 + (G 118 c2 - j_off F c2)) (F 116 c1)) (by simp [w_feet, w_ft, uF, upd, uG, vp_updL, hne]) ?_
                    exact r_i C hr hlk hw ⟨(by simp only [sp_join]; rw [if_pos hj1, hz_c1, hz_c2]), (by simp only [st_joinF, st_joinG]; rw [if_pos hj1, if_pos hj1, hz_c1, hz_c2]; rfl)⟩ dX12_join_257
                  · refine lv_aload_n hx hb dX12_join_237 rfl (lv_at hl 1 rfl) ?_
                    refine g_r 20 (k2 := 121) C hw (hM.m rfl) rfl fl_X12_68 rfl (hM.p 20 rfl) dX12_join_238 ?_
                    refine lv_iload_n hx hb dX12_join_241 rfl (lv_at hl 3 rfl) ?_
                    refine n_z c2 C hw (hM.m rfl) rfl rfl (show _ < 16 by omega) dX12_join_242 ?_
                    refine tp_i (y := F 121 c2) ((uF_n _ _ (Or.inl (by decide))).trans ((uF_n _ _ (Or.inl (by decide))).trans ((uF_n _ _ (Or.inl (by decide))).trans (rfl)))) ?_
                    refine lv_if_eq (tgt := 250) hx hb dX12_join_243 (by decide) (fun c_243 => ?_) (fun c_243 => ?_)
                    · refine lv_iconst (v := 0) hx hb dX12_join_250 (by decide) ?_
                      refine tp_i (y := if F 121 c1 = 0 ∧ F 121 c2 = 0 then 0 else 1) (by simp [c_234, c_243]) ?_
                      refine t_z c1 C hw (hM.m rfl) rfl rfl (show _ < 16 by omega) (by split <;> rfl) dX12_join_251 (fun H locs hw => ?_)
                      refine lv_aload_n hx hb dX12_join_252 rfl (lv_at hl 1 rfl) ?_
                      refine lv_iload_n hx hb dX12_join_253 rfl (lv_at hl 2 rfl) ?_
                      refine kV C hw (c_X12_feetOf E tt B (uF (uF (uF (uF F 117 c1 (if F 117 c1 < F 117 c2 then F 117 c2 else F 117 c1)) 119 c1 ((F 119 c1 + (F 119 c2 + 1)))) 120 c1 (if F 120 c1 < F 120 c2 then F 120 c2 else F 120 c1)) 121 c1 (if F 121 c1 = 0 ∧ F 121 c2 = 0 then 0 else 1)) (uG (uG (uG G 100 32 ((G 100 32 + j_off F c2))) 118 c1 ((G 118 c1 + (G 118 c2 - j_off F c2)))) 118 c2 0) hM (q := c1) (by omega) (by simp only [uF_n _ _ (Or.inl (by decide : (116 : Nat) ≠ 121)), uF_n _ _ (Or.inl (by decide : (116 : Nat) ≠ 120)), uF_n _ _ (Or.inl (by decide : (116 : Nat) ≠ 119)), uF_n _ _ (Or.inl (by decide : (116 : Nat) ≠ 117))]; exact hd_c1)) vy_X12_feetOf ml_X12_167 (rcv hw (hM.m rfl) rfl (by decide) (q2 := (RX12, TX12, 49)) rfl) rfl hl.1 (rest := []) rfl dX12_join_254 (Nat.le_of_ble_eq_true rfl) ⟨by decide, by decide⟩ ⟨Nat.le_of_ble_eq_true rfl, Nat.le_of_ble_eq_true rfl⟩ (fun v_254 ws_254 H locs hp_254 hq_254 => ?_)
                      clear hw
                      obtain ⟨rfl, rfl⟩ := hp_254
                      have hw := hq_254
                      refine W.eq (g2 := F0 m 257 ls [.int (w_feet (uF (uF (uF (uF F 117 c1 (if F 117 c1 < F 117 c2 then F 117 c2 else F 117 c1)) 119 c1 ((F 119 c1 + (F 119 c2 + 1)))) 120 c1 (if F 120 c1 < F 120 c2 then F 120 c2 else F 120 c1)) 121 c1 (if F 121 c1 = 0 ∧ F 121 c2 = 0 then 0 else 1)) (uG (uG (uG G 100 32 ((G 100 32 + j_off F c2))) 118 c1 ((G 118 c1 + (G 118 c2 - j_off F c2)))) 118 c2 0) (c1))]) rfl ?_
                      refine tp_i (y := w_ft (G 118 c1 + (G 118 c2 - j_off F c2)) (F 116 c1)) (by simp [w_feet, w_ft, uF, upd, uG, vp_updL, hne]) ?_
                      exact r_i C hr hlk hw ⟨(by simp only [sp_join]; rw [if_pos hj1, hz_c1, hz_c2]), (by simp only [st_joinF, st_joinG]; rw [if_pos hj1, if_pos hj1, hz_c1, hz_c2]; rfl)⟩ dX12_join_257
                    · refine lv_iconst (v := 1) hx hb dX12_join_246 (by decide) ?_
                      refine lv_goto (tgt := 251) hx hb dX12_join_247 (by decide) ?_
                      refine tp_i (y := if F 121 c1 = 0 ∧ F 121 c2 = 0 then 0 else 1) (by simp [c_234, c_243]) ?_
                      refine t_z c1 C hw (hM.m rfl) rfl rfl (show _ < 16 by omega) (by split <;> rfl) dX12_join_251 (fun H locs hw => ?_)
                      refine lv_aload_n hx hb dX12_join_252 rfl (lv_at hl 1 rfl) ?_
                      refine lv_iload_n hx hb dX12_join_253 rfl (lv_at hl 2 rfl) ?_
                      refine kV C hw (c_X12_feetOf E tt B (uF (uF (uF (uF F 117 c1 (if F 117 c1 < F 117 c2 then F 117 c2 else F 117 c1)) 119 c1 ((F 119 c1 + (F 119 c2 + 1)))) 120 c1 (if F 120 c1 < F 120 c2 then F 120 c2 else F 120 c1)) 121 c1 (if F 121 c1 = 0 ∧ F 121 c2 = 0 then 0 else 1)) (uG (uG (uG G 100 32 ((G 100 32 + j_off F c2))) 118 c1 ((G 118 c1 + (G 118 c2 - j_off F c2)))) 118 c2 0) hM (q := c1) (by omega) (by simp only [uF_n _ _ (Or.inl (by decide : (116 : Nat) ≠ 121)), uF_n _ _ (Or.inl (by decide : (116 : Nat) ≠ 120)), uF_n _ _ (Or.inl (by decide : (116 : Nat) ≠ 119)), uF_n _ _ (Or.inl (by decide : (116 : Nat) ≠ 117))]; exact hd_c1)) vy_X12_feetOf ml_X12_167 (rcv hw (hM.m rfl) rfl (by decide) (q2 := (RX12, TX12, 49)) rfl) rfl hl.1 (rest := []) rfl dX12_join_254 (Nat.le_of_ble_eq_true rfl) ⟨by decide, by decide⟩ ⟨Nat.le_of_ble_eq_true rfl, Nat.le_of_ble_eq_true rfl⟩ (fun v_254 ws_254 H locs hp_254 hq_254 => ?_)
                      clear hw
                      obtain ⟨rfl, rfl⟩ := hp_254
                      have hw := hq_254
                      refine W.eq (g2 := F0 m 257 ls [.int (w_feet (uF (uF (uF (uF F 117 c1 (if F 117 c1 < F 117 c2 then F 117 c2 else F 117 c1)) 119 c1 ((F 119 c1 + (F 119 c2 + 1)))) 120 c1 (if F 120 c1 < F 120 c2 then F 120 c2 else F 120 c1)) 121 c1 (if F 121 c1 = 0 ∧ F 121 c2 = 0 then 0 else 1)) (uG (uG (uG G 100 32 ((G 100 32 + j_off F c2))) 118 c1 ((G 118 c1 + (G 118 c2 - j_off F c2)))) 118 c2 0) (c1))]) rfl ?_
                      refine tp_i (y := w_ft (G 118 c1 + (G 118 c2 - j_off F c2)) (F 116 c1)) (by simp [w_feet, w_ft, uF, upd, uG, vp_updL, hne]) ?_
                      exact r_i C hr hlk hw ⟨(by simp only [sp_join]; rw [if_pos hj1, hz_c1, hz_c2]), (by simp only [st_joinF, st_joinG]; rw [if_pos hj1, if_pos hj1, hz_c1, hz_c2]; rfl)⟩ dX12_join_257
                · rw [Int32.not_le] at c_204
                  refine lv_aload_n hx hb dX12_join_207 rfl (lv_at hl 1 rfl) ?_
                  refine g_r 19 (k2 := 120) C hw (hM.m rfl) rfl fl_X12_65 rfl (hM.p 19 rfl) dX12_join_208 ?_
                  refine lv_iload_n hx hb dX12_join_211 rfl (lv_at hl 3 rfl) ?_
                  refine n_i c2 C hw (hM.m rfl) rfl rfl (show _ < 16 by omega) dX12_join_212 ?_
                  refine tp_i (y := F 120 c2) ((uF_n _ _ (Or.inl (by decide))).trans ((uF_n _ _ (Or.inl (by decide))).trans (rfl))) ?_
                  refine lv_goto (tgt := 222) hx hb dX12_join_213 (by decide) ?_
                  refine tp_i (y := if F 120 c1 < F 120 c2 then F 120 c2 else F 120 c1) (by simp [c_204]) ?_
                  refine t_i c1 C hw (hM.m rfl) rfl rfl (show _ < 16 by omega) dX12_join_222 (fun H locs hw => ?_)
                  refine lv_aload_n hx hb dX12_join_223 rfl (lv_at hl 1 rfl) ?_
                  refine g_r 20 (k2 := 121) C hw (hM.m rfl) rfl fl_X12_68 rfl (hM.p 20 rfl) dX12_join_224 ?_
                  refine lv_iload_n hx hb dX12_join_227 rfl (lv_at hl 2 rfl) ?_
                  refine lv_aload_n hx hb dX12_join_228 rfl (lv_at hl 1 rfl) ?_
                  refine g_r 20 (k2 := 121) C hw (hM.m rfl) rfl fl_X12_68 rfl (hM.p 20 rfl) dX12_join_229 ?_
                  refine lv_iload_n hx hb dX12_join_232 rfl (lv_at hl 2 rfl) ?_
                  refine n_z c1 C hw (hM.m rfl) rfl rfl (show _ < 16 by omega) dX12_join_233 ?_
                  refine tp_i (y := F 121 c1) ((uF_n _ _ (Or.inl (by decide))).trans ((uF_n _ _ (Or.inl (by decide))).trans ((uF_n _ _ (Or.inl (by decide))).trans (rfl)))) ?_
                  refine lv_if_ne (tgt := 246) hx hb dX12_join_234 (by decide) (fun c_234 => ?_) (fun c_234 => ?_)
                  · refine lv_iconst (v := 1) hx hb dX12_join_246 (by decide) ?_
                    refine lv_goto (tgt := 251) hx hb dX12_join_247 (by decide) ?_
                    refine tp_i (y := if F 121 c1 = 0 ∧ F 121 c2 = 0 then 0 else 1) (by simp [c_234]) ?_
                    refine t_z c1 C hw (hM.m rfl) rfl rfl (show _ < 16 by omega) (by split <;> rfl) dX12_join_251 (fun H locs hw => ?_)
                    refine lv_aload_n hx hb dX12_join_252 rfl (lv_at hl 1 rfl) ?_
                    refine lv_iload_n hx hb dX12_join_253 rfl (lv_at hl 2 rfl) ?_
                    refine kV C hw (c_X12_feetOf E tt B (uF (uF (uF (uF F 117 c1 (if F 117 c1 < F 117 c2 then F 117 c2 else F 117 c1)) 119 c1 ((F 119 c1 + (F 119 c2 + 1)))) 120 c1 (if F 120 c1 < F 120 c2 then F 120 c2 else F 120 c1)) 121 c1 (if F 121 c1 = 0 ∧ F 121 c2 = 0 then 0 else 1)) (uG (uG (uG G 100 32 ((G 100 32 + j_off F c2))) 118 c1 ((G 118 c1 + (G 118 c2 - j_off F c2)))) 118 c2 0) hM (q := c1) (by omega) (by simp only [uF_n _ _ (Or.inl (by decide : (116 : Nat) ≠ 121)), uF_n _ _ (Or.inl (by decide : (116 : Nat) ≠ 120)), uF_n _ _ (Or.inl (by decide : (116 : Nat) ≠ 119)), uF_n _ _ (Or.inl (by decide : (116 : Nat) ≠ 117))]; exact hd_c1)) vy_X12_feetOf ml_X12_167 (rcv hw (hM.m rfl) rfl (by decide) (q2 := (RX12, TX12, 49)) rfl) rfl hl.1 (rest := []) rfl dX12_join_254 (Nat.le_of_ble_eq_true rfl) ⟨by decide, by decide⟩ ⟨Nat.le_of_ble_eq_true rfl, Nat.le_of_ble_eq_true rfl⟩ (fun v_254 ws_254 H locs hp_254 hq_254 => ?_)
                    clear hw
                    obtain ⟨rfl, rfl⟩ := hp_254
                    have hw := hq_254
                    refine W.eq (g2 := F0 m 257 ls [.int (w_feet (uF (uF (uF (uF F 117 c1 (if F 117 c1 < F 117 c2 then F 117 c2 else F 117 c1)) 119 c1 ((F 119 c1 + (F 119 c2 + 1)))) 120 c1 (if F 120 c1 < F 120 c2 then F 120 c2 else F 120 c1)) 121 c1 (if F 121 c1 = 0 ∧ F 121 c2 = 0 then 0 else 1)) (uG (uG (uG G 100 32 ((G 100 32 + j_off F c2))) 118 c1 ((G 118 c1 + (G 118 c2 - j_off F c2)))) 118 c2 0) (c1))]) rfl ?_
                    refine tp_i (y := w_ft (G 118 c1 + (G 118 c2 - j_off F c2)) (F 116 c1)) (by simp [w_feet, w_ft, uF, upd, uG, vp_updL, hne]) ?_
                    exact r_i C hr hlk hw ⟨(by simp only [sp_join]; rw [if_pos hj1, hz_c1, hz_c2]), (by simp only [st_joinF, st_joinG]; rw [if_pos hj1, if_pos hj1, hz_c1, hz_c2]; rfl)⟩ dX12_join_257
                  · refine lv_aload_n hx hb dX12_join_237 rfl (lv_at hl 1 rfl) ?_
                    refine g_r 20 (k2 := 121) C hw (hM.m rfl) rfl fl_X12_68 rfl (hM.p 20 rfl) dX12_join_238 ?_
                    refine lv_iload_n hx hb dX12_join_241 rfl (lv_at hl 3 rfl) ?_
                    refine n_z c2 C hw (hM.m rfl) rfl rfl (show _ < 16 by omega) dX12_join_242 ?_
                    refine tp_i (y := F 121 c2) ((uF_n _ _ (Or.inl (by decide))).trans ((uF_n _ _ (Or.inl (by decide))).trans ((uF_n _ _ (Or.inl (by decide))).trans (rfl)))) ?_
                    refine lv_if_eq (tgt := 250) hx hb dX12_join_243 (by decide) (fun c_243 => ?_) (fun c_243 => ?_)
                    · refine lv_iconst (v := 0) hx hb dX12_join_250 (by decide) ?_
                      refine tp_i (y := if F 121 c1 = 0 ∧ F 121 c2 = 0 then 0 else 1) (by simp [c_234, c_243]) ?_
                      refine t_z c1 C hw (hM.m rfl) rfl rfl (show _ < 16 by omega) (by split <;> rfl) dX12_join_251 (fun H locs hw => ?_)
                      refine lv_aload_n hx hb dX12_join_252 rfl (lv_at hl 1 rfl) ?_
                      refine lv_iload_n hx hb dX12_join_253 rfl (lv_at hl 2 rfl) ?_
                      refine kV C hw (c_X12_feetOf E tt B (uF (uF (uF (uF F 117 c1 (if F 117 c1 < F 117 c2 then F 117 c2 else F 117 c1)) 119 c1 ((F 119 c1 + (F 119 c2 + 1)))) 120 c1 (if F 120 c1 < F 120 c2 then F 120 c2 else F 120 c1)) 121 c1 (if F 121 c1 = 0 ∧ F 121 c2 = 0 then 0 else 1)) (uG (uG (uG G 100 32 ((G 100 32 + j_off F c2))) 118 c1 ((G 118 c1 + (G 118 c2 - j_off F c2)))) 118 c2 0) hM (q := c1) (by omega) (by simp only [uF_n _ _ (Or.inl (by decide : (116 : Nat) ≠ 121)), uF_n _ _ (Or.inl (by decide : (116 : Nat) ≠ 120)), uF_n _ _ (Or.inl (by decide : (116 : Nat) ≠ 119)), uF_n _ _ (Or.inl (by decide : (116 : Nat) ≠ 117))]; exact hd_c1)) vy_X12_feetOf ml_X12_167 (rcv hw (hM.m rfl) rfl (by decide) (q2 := (RX12, TX12, 49)) rfl) rfl hl.1 (rest := []) rfl dX12_join_254 (Nat.le_of_ble_eq_true rfl) ⟨by decide, by decide⟩ ⟨Nat.le_of_ble_eq_true rfl, Nat.le_of_ble_eq_true rfl⟩ (fun v_254 ws_254 H locs hp_254 hq_254 => ?_)
                      clear hw
                      obtain ⟨rfl, rfl⟩ := hp_254
                      have hw := hq_254
                      refine W.eq (g2 := F0 m 257 ls [.int (w_feet (uF (uF (uF (uF F 117 c1 (if F 117 c1 < F 117 c2 then F 117 c2 else F 117 c1)) 119 c1 ((F 119 c1 + (F 119 c2 + 1)))) 120 c1 (if F 120 c1 < F 120 c2 then F 120 c2 else F 120 c1)) 121 c1 (if F 121 c1 = 0 ∧ F 121 c2 = 0 then 0 else 1)) (uG (uG (uG G 100 32 ((G 100 32 + j_off F c2))) 118 c1 ((G 118 c1 + (G 118 c2 - j_off F c2)))) 118 c2 0) (c1))]) rfl ?_
                      refine tp_i (y := w_ft (G 118 c1 + (G 118 c2 - j_off F c2)) (F 116 c1)) (by simp [w_feet, w_ft, uF, upd, uG, vp_updL, hne]) ?_
                      exact r_i C hr hlk hw ⟨(by simp only [sp_join]; rw [if_pos hj1, hz_c1, hz_c2]), (by simp only [st_joinF, st_joinG]; rw [if_pos hj1, if_pos hj1, hz_c1, hz_c2]; rfl)⟩ dX12_join_257
                    · refine lv_iconst (v := 1) hx hb dX12_join_246 (by decide) ?_
                      refine lv_goto (tgt := 251) hx hb dX12_join_247 (by decide) ?_
                      refine tp_i (y := if F 121 c1 = 0 ∧ F 121 c2 = 0 then 0 else 1) (by simp [c_234, c_243]) ?_
                      refine t_z c1 C hw (hM.m rfl) rfl rfl (show _ < 16 by omega) (by split <;> rfl) dX12_join_251 (fun H locs hw => ?_)
                      refine lv_aload_n hx hb dX12_join_252 rfl (lv_at hl 1 rfl) ?_
                      refine lv_iload_n hx hb dX12_join_253 rfl (lv_at hl 2 rfl) ?_
                      refine kV C hw (c_X12_feetOf E tt B (uF (uF (uF (uF F 117 c1 (if F 117 c1 < F 117 c2 then F 117 c2 else F 117 c1)) 119 c1 ((F 119 c1 + (F 119 c2 + 1)))) 120 c1 (if F 120 c1 < F 120 c2 then F 120 c2 else F 120 c1)) 121 c1 (if F 121 c1 = 0 ∧ F 121 c2 = 0 then 0 else 1)) (uG (uG (uG G 100 32 ((G 100 32 + j_off F c2))) 118 c1 ((G 118 c1 + (G 118 c2 - j_off F c2)))) 118 c2 0) hM (q := c1) (by omega) (by simp only [uF_n _ _ (Or.inl (by decide : (116 : Nat) ≠ 121)), uF_n _ _ (Or.inl (by decide : (116 : Nat) ≠ 120)), uF_n _ _ (Or.inl (by decide : (116 : Nat) ≠ 119)), uF_n _ _ (Or.inl (by decide : (116 : Nat) ≠ 117))]; exact hd_c1)) vy_X12_feetOf ml_X12_167 (rcv hw (hM.m rfl) rfl (by decide) (q2 := (RX12, TX12, 49)) rfl) rfl hl.1 (rest := []) rfl dX12_join_254 (Nat.le_of_ble_eq_true rfl) ⟨by decide, by decide⟩ ⟨Nat.le_of_ble_eq_true rfl, Nat.le_of_ble_eq_true rfl⟩ (fun v_254 ws_254 H locs hp_254 hq_254 => ?_)
                      clear hw
                      obtain ⟨rfl, rfl⟩ := hp_254
                      have hw := hq_254
                      refine W.eq (g2 := F0 m 257 ls [.int (w_feet (uF (uF (uF (uF F 117 c1 (if F 117 c1 < F 117 c2 then F 117 c2 else F 117 c1)) 119 c1 ((F 119 c1 + (F 119 c2 + 1)))) 120 c1 (if F 120 c1 < F 120 c2 then F 120 c2 else F 120 c1)) 121 c1 (if F 121 c1 = 0 ∧ F 121 c2 = 0 then 0 else 1)) (uG (uG (uG G 100 32 ((G 100 32 + j_off F c2))) 118 c1 ((G 118 c1 + (G 118 c2 - j_off F c2)))) 118 c2 0) (c1))]) rfl ?_
                      refine tp_i (y := w_ft (G 118 c1 + (G 118 c2 - j_off F c2)) (F 116 c1)) (by simp [w_feet, w_ft, uF, upd, uG, vp_updL, hne]) ?_
                      exact r_i C hr hlk hw ⟨(by simp only [sp_join]; rw [if_pos hj1, hz_c1, hz_c2]), (by simp only [st_joinF, st_joinG]; rw [if_pos hj1, if_pos hj1, hz_c1, hz_c2]; rfl)⟩ dX12_join_257
              · rw [Int32.not_le] at c_151
                refine lv_aload_n hx hb dX12_join_154 rfl (lv_at hl 1 rfl) ?_
                refine g_r 16 (k2 := 117) C hw (hM.m rfl) rfl fl_X12_55 rfl (hM.p 16 rfl) dX12_join_155 ?_
                refine lv_iload_n hx hb dX12_join_158 rfl (lv_at hl 3 rfl) ?_
                refine n_i c2 C hw (hM.m rfl) rfl rfl (show _ < 16 by omega) dX12_join_159 ?_
                refine lv_goto (tgt := 169) hx hb dX12_join_160 (by decide) ?_
                refine tp_i (y := if F 117 c1 < F 117 c2 then F 117 c2 else F 117 c1) (by simp [c_151]) ?_
                refine t_i c1 C hw (hM.m rfl) rfl rfl (show _ < 16 by omega) dX12_join_169 (fun H locs hw => ?_)
                refine lv_aload_n hx hb dX12_join_170 rfl (lv_at hl 1 rfl) ?_
                refine g_r 18 (k2 := 119) C hw (hM.m rfl) rfl fl_X12_62 rfl (hM.p 18 rfl) dX12_join_171 ?_
                refine lv_iload_n hx hb dX12_join_174 rfl (lv_at hl 2 rfl) ?_
                refine lv_dup2_11 hx hb dX12_join_175 rfl rfl ?_
                refine n_i c1 C hw (hM.m rfl) rfl rfl (show _ < 16 by omega) dX12_join_176 ?_
                refine tp_i (y := F 119 c1) ((uF_n _ _ (Or.inl (by decide))).trans (rfl)) ?_
                refine lv_aload_n hx hb dX12_join_177 rfl (lv_at hl 1 rfl) ?_
                refine g_r 18 (k2 := 119) C hw (hM.m rfl) rfl fl_X12_62 rfl (hM.p 18 rfl) dX12_join_178 ?_
                refine lv_iload_n hx hb dX12_join_181 rfl (lv_at hl 3 rfl) ?_
                refine n_i c2 C hw (hM.m rfl) rfl rfl (show _ < 16 by omega) dX12_join_182 ?_
                refine tp_i (y := F 119 c2) ((uF_n _ _ (Or.inl (by decide))).trans (rfl)) ?_
                refine lv_iconst (v := 1) hx hb dX12_join_183 (by decide) ?_
                refine lv_iadd hx hb dX12_join_184 ?_
                refine lv_iadd hx hb dX12_join_185 ?_
                refine t_i c1 C hw (hM.m rfl) rfl rfl (show _ < 16 by omega) dX12_join_186 (fun H locs hw => ?_)
                refine lv_aload_n hx hb dX12_join_187 rfl (lv_at hl 1 rfl) ?_
                refine g_r 19 (k2 := 120) C hw (hM.m rfl) rfl fl_X12_65 rfl (hM.p 19 rfl) dX12_join_188 ?_
                refine lv_iload_n hx hb dX12_join_191 rfl (lv_at hl 2 rfl) ?_
                refine lv_aload_n hx hb dX12_join_192 rfl (lv_at hl 1 rfl) ?_
                refine g_r 19 (k2 := 120) C hw (hM.m rfl) rfl fl_X12_65 rfl (hM.p 19 rfl) dX12_join_193 ?_
                refine lv_iload_n hx hb dX12_join_196 rfl (lv_at hl 3 rfl) ?_
                refine n_i c2 C hw (hM.m rfl) rfl rfl (show _ < 16 by omega) dX12_join_197 ?_
                refine tp_i (y := F 120 c2) ((uF_n _ _ (Or.inl (by decide))).trans ((uF_n _ _ (Or.inl (by decide))).trans (rfl))) ?_
                refine lv_aload_n hx hb dX12_join_198 rfl (lv_at hl 1 rfl) ?_
                refine g_r 19 (k2 := 120) C hw (hM.m rfl) rfl fl_X12_65 rfl (hM.p 19 rfl) dX12_join_199 ?_
                refine lv_iload_n hx hb dX12_join_202 rfl (lv_at hl 2 rfl) ?_
                refine n_i c1 C hw (hM.m rfl) rfl rfl (show _ < 16 by omega) dX12_join_203 ?_
                refine tp_i (y := F 120 c1) ((uF_n _ _ (Or.inl (by decide))).trans ((uF_n _ _ (Or.inl (by decide))).trans (rfl))) ?_
                refine lv_icmp_le (tgt := 216) hx hb dX12_join_204 (by decide) (fun c_204 => ?_) (fun c_204 => ?_)
                · rw [← Int32.not_lt] at c_204
                  refine lv_aload_n hx hb dX12_join_216 rfl (lv_at hl 1 rfl) ?_
                  refine g_r 19 (k2 := 120) C hw (hM.m rfl) rfl fl_X12_65 rfl (hM.p 19 rfl) dX12_join_217 ?_
                  refine lv_iload_n hx hb dX12_join_220 rfl (lv_at hl 2 rfl) ?_
                  refine n_i c1 C hw (hM.m rfl) rfl rfl (show _ < 16 by omega) dX12_join_221 ?_
                  refine tp_i (y := F 120 c1) ((uF_n _ _ (Or.inl (by decide))).trans ((uF_n _ _ (Or.inl (by decide))).trans (rfl))) ?_
                  refine tp_i (y := if F 120 c1 < F 120 c2 then F 120 c2 else F 120 c1) (by simp [c_204]) ?_
                  refine t_i c1 C hw (hM.m rfl) rfl rfl (show _ < 16 by omega) dX12_join_222 (fun H locs hw => ?_)
                  refine lv_aload_n hx hb dX12_join_223 rfl (lv_at hl 1 rfl) ?_
                  refine g_r 20 (k2 := 121) C hw (hM.m rfl) rfl fl_X12_68 rfl (hM.p 20 rfl) dX12_join_224 ?_
                  refine lv_iload_n hx hb dX12_join_227 rfl (lv_at hl 2 rfl) ?_
                  refine lv_aload_n hx hb dX12_join_228 rfl (lv_at hl 1 rfl) ?_
                  refine g_r 20 (k2 := 121) C hw (hM.m rfl) rfl fl_X12_68 rfl (hM.p 20 rfl) dX12_join_229 ?_
                  refine lv_iload_n hx hb dX12_join_232 rfl (lv_at hl 2 rfl) ?_
                  refine n_z c1 C hw (hM.m rfl) rfl rfl (show _ < 16 by omega) dX12_join_233 ?_
                  refine tp_i (y := F 121 c1) ((uF_n _ _ (Or.inl (by decide))).trans ((uF_n _ _ (Or.inl (by decide))).trans ((uF_n _ _ (Or.inl (by decide))).trans (rfl)))) ?_
                  refine lv_if_ne (tgt := 246) hx hb dX12_join_234 (by decide) (fun c_234 => ?_) (fun c_234 => ?_)
                  · refine lv_iconst (v := 1) hx hb dX12_join_246 (by decide) ?_
                    refine lv_goto (tgt := 251) hx hb dX12_join_247 (by decide) ?_
                    refine tp_i (y := if F 121 c1 = 0 ∧ F 121 c2 = 0 then 0 else 1) (by simp [c_234]) ?_
                    refine t_z c1 C hw (hM.m rfl) rfl rfl (show _ < 16 by omega) (by split <;> rfl) dX12_join_251 (fun H locs hw => ?_)
                    refine lv_aload_n hx hb dX12_join_252 rfl (lv_at hl 1 rfl) ?_
                    refine lv_iload_n hx hb dX12_join_253 rfl (lv_at hl 2 rfl) ?_
                    refine kV C hw (c_X12_feetOf E tt B (uF (uF (uF (uF F 117 c1 (if F 117 c1 < F 117 c2 then F 117 c2 else F 117 c1)) 119 c1 ((F 119 c1 + (F 119 c2 + 1)))) 120 c1 (if F 120 c1 < F 120 c2 then F 120 c2 else F 120 c1)) 121 c1 (if F 121 c1 = 0 ∧ F 121 c2 = 0 then 0 else 1)) (uG (uG (uG G 100 32 ((G 100 32 + j_off F c2))) 118 c1 ((G 118 c1 + (G 118 c2 - j_off F c2)))) 118 c2 0) hM (q := c1) (by omega) (by simp only [uF_n _ _ (Or.inl (by decide : (116 : Nat) ≠ 121)), uF_n _ _ (Or.inl (by decide : (116 : Nat) ≠ 120)), uF_n _ _ (Or.inl (by decide : (116 : Nat) ≠ 119)), uF_n _ _ (Or.inl (by decide : (116 : Nat) ≠ 117))]; exact hd_c1)) vy_X12_feetOf ml_X12_167 (rcv hw (hM.m rfl) rfl (by decide) (q2 := (RX12, TX12, 49)) rfl) rfl hl.1 (rest := []) rfl dX12_join_254 (Nat.le_of_ble_eq_true rfl) ⟨by decide, by decide⟩ ⟨Nat.le_of_ble_eq_true rfl, Nat.le_of_ble_eq_true rfl⟩ (fun v_254 ws_254 H locs hp_254 hq_254 => ?_)
                    clear hw
                    obtain ⟨rfl, rfl⟩ := hp_254
                    have hw := hq_254
                    refine W.eq (g2 := F0 m 257 ls [.int (w_feet (uF (uF (uF (uF F 117 c1 (if F 117 c1 < F 117 c2 then F 117 c2 else F 117 c1)) 119 c1 ((F 119 c1 + (F 119 c2 + 1)))) 120 c1 (if F 120 c1 < F 120 c2 then F 120 c2 else F 120 c1)) 121 c1 (if F 121 c1 = 0 ∧ F 121 c2 = 0 then 0 else 1)) (uG (uG (uG G 100 32 ((G 100 32 + j_off F c2))) 118 c1 ((G 118 c1 + (G 118 c2 - j_off F c2)))) 118 c2 0) (c1))]) rfl ?_
                    refine tp_i (y := w_ft (G 118 c1 + (G 118 c2 - j_off F c2)) (F 116 c1)) (by simp [w_feet, w_ft, uF, upd, uG, vp_updL, hne]) ?_
                    exact r_i C hr hlk hw ⟨(by simp only [sp_join]; rw [if_pos hj1, hz_c1, hz_c2]), (by simp only [st_joinF, st_joinG]; rw [if_pos hj1, if_pos hj1, hz_c1, hz_c2]; rfl)⟩ dX12_join_257
                  · refine lv_aload_n hx hb dX12_join_237 rfl (lv_at hl 1 rfl) ?_
                    refine g_r 20 (k2 := 121) C hw (hM.m rfl) rfl fl_X12_68 rfl (hM.p 20 rfl) dX12_join_238 ?_
                    refine lv_iload_n hx hb dX12_join_241 rfl (lv_at hl 3 rfl) ?_
                    refine n_z c2 C hw (hM.m rfl) rfl rfl (show _ < 16 by omega) dX12_join_242 ?_
                    refine tp_i (y := F 121 c2) ((uF_n _ _ (Or.inl (by decide))).trans ((uF_n _ _ (Or.inl (by decide))).trans ((uF_n _ _ (Or.inl (by decide))).trans (rfl)))) ?_
                    refine lv_if_eq (tgt := 250) hx hb dX12_join_243 (by decide) (fun c_243 => ?_) (fun c_243 => ?_)
                    · refine lv_iconst (v := 0) hx hb dX12_join_250 (by decide) ?_
                      refine tp_i (y := if F 121 c1 = 0 ∧ F 121 c2 = 0 then 0 else 1) (by simp [c_234, c_243]) ?_
                      refine t_z c1 C hw (hM.m rfl) rfl rfl (show _ < 16 by omega) (by split <;> rfl) dX12_join_251 (fun H locs hw => ?_)
                      refine lv_aload_n hx hb dX12_join_252 rfl (lv_at hl 1 rfl) ?_
                      refine lv_iload_n hx hb dX12_join_253 rfl (lv_at hl 2 rfl) ?_
                      refine kV C hw (c_X12_feetOf E tt B (uF (uF (uF (uF F 117 c1 (if F 117 c1 < F 117 c2 then F 117 c2 else F 117 c1)) 119 c1 ((F 119 c1 + (F 119 c2 + 1)))) 120 c1 (if F 120 c1 < F 120 c2 then F 120 c2 else F 120 c1)) 121 c1 (if F 121 c1 = 0 ∧ F 121 c2 = 0 then 0 else 1)) (uG (uG (uG G 100 32 ((G 100 32 + j_off F c2))) 118 c1 ((G 118 c1 + (G 118 c2 - j_off F c2)))) 118 c2 0) hM (q := c1) (by omega) (by simp only [uF_n _ _ (Or.inl (by decide : (116 : Nat) ≠ 121)), uF_n _ _ (Or.inl (by decide : (116 : Nat) ≠ 120)), uF_n _ _ (Or.inl (by decide : (116 : Nat) ≠ 119)), uF_n _ _ (Or.inl (by decide : (116 : Nat) ≠ 117))]; exact hd_c1)) vy_X12_feetOf ml_X12_167 (rcv hw (hM.m rfl) rfl (by decide) (q2 := (RX12, TX12, 49)) rfl) rfl hl.1 (rest := []) rfl dX12_join_254 (Nat.le_of_ble_eq_true rfl) ⟨by decide, by decide⟩ ⟨Nat.le_of_ble_eq_true rfl, Nat.le_of_ble_eq_true rfl⟩ (fun v_254 ws_254 H locs hp_254 hq_254 => ?_)
                      clear hw
                      obtain ⟨rfl, rfl⟩ := hp_254
                      have hw := hq_254
                      refine W.eq (g2 := F0 m 257 ls [.int (w_feet (uF (uF (uF (uF F 117 c1 (if F 117 c1 < F 117 c2 then F 117 c2 else F 117 c1)) 119 c1 ((F 119 c1 + (F 119 c2 + 1)))) 120 c1 (if F 120 c1 < F 120 c2 then F 120 c2 else F 120 c1)) 121 c1 (if F 121 c1 = 0 ∧ F 121 c2 = 0 then 0 else 1)) (uG (uG (uG G 100 32 ((G 100 32 + j_off F c2))) 118 c1 ((G 118 c1 + (G 118 c2 - j_off F c2)))) 118 c2 0) (c1))]) rfl ?_
                      refine tp_i (y := w_ft (G 118 c1 + (G 118 c2 - j_off F c2)) (F 116 c1)) (by simp [w_feet, w_ft, uF, upd, uG, vp_updL, hne]) ?_
                      exact r_i C hr hlk hw ⟨(by simp only [sp_join]; rw [if_pos hj1, hz_c1, hz_c2]), (by simp only [st_joinF, st_joinG]; rw [if_pos hj1, if_pos hj1, hz_c1, hz_c2]; rfl)⟩ dX12_join_257
                    · refine lv_iconst (v := 1) hx hb dX12_join_246 (by decide) ?_
                      refine lv_goto (tgt := 251) hx hb dX12_join_247 (by decide) ?_
                      refine tp_i (y := if F 121 c1 = 0 ∧ F 121 c2 = 0 then 0 else 1) (by simp [c_234, c_243]) ?_
                      refine t_z c1 C hw (hM.m rfl) rfl rfl (show _ < 16 by omega) (by split <;> rfl) dX12_join_251 (fun H locs hw => ?_)
                      refine lv_aload_n hx hb dX12_join_252 rfl (lv_at hl 1 rfl) ?_
                      refine lv_iload_n hx hb dX12_join_253 rfl (lv_at hl 2 rfl) ?_
                      refine kV C hw (c_X12_feetOf E tt B (uF (uF (uF (uF F 117 c1 (if F 117 c1 < F 117 c2 then F 117 c2 else F 117 c1)) 119 c1 ((F 119 c1 + (F 119 c2 + 1)))) 120 c1 (if F 120 c1 < F 120 c2 then F 120 c2 else F 120 c1)) 121 c1 (if F 121 c1 = 0 ∧ F 121 c2 = 0 then 0 else 1)) (uG (uG (uG G 100 32 ((G 100 32 + j_off F c2))) 118 c1 ((G 118 c1 + (G 118 c2 - j_off F c2)))) 118 c2 0) hM (q := c1) (by omega) (by simp only [uF_n _ _ (Or.inl (by decide : (116 : Nat) ≠ 121)), uF_n _ _ (Or.inl (by decide : (116 : Nat) ≠ 120)), uF_n _ _ (Or.inl (by decide : (116 : Nat) ≠ 119)), uF_n _ _ (Or.inl (by decide : (116 : Nat) ≠ 117))]; exact hd_c1)) vy_X12_feetOf ml_X12_167 (rcv hw (hM.m rfl) rfl (by decide) (q2 := (RX12, TX12, 49)) rfl) rfl hl.1 (rest := []) rfl dX12_join_254 (Nat.le_of_ble_eq_true rfl) ⟨by decide, by decide⟩ ⟨Nat.le_of_ble_eq_true rfl, Nat.le_of_ble_eq_true rfl⟩ (fun v_254 ws_254 H locs hp_254 hq_254 => ?_)
                      clear hw
                      obtain ⟨rfl, rfl⟩ := hp_254
                      have hw := hq_254
                      refine W.eq (g2 := F0 m 257 ls [.int (w_feet (uF (uF (uF (uF F 117 c1 (if F 117 c1 < F 117 c2 then F 117 c2 else F 117 c1)) 119 c1 ((F 119 c1 + (F 119 c2 + 1)))) 120 c1 (if F 120 c1 < F 120 c2 then F 120 c2 else F 120 c1)) 121 c1 (if F 121 c1 = 0 ∧ F 121 c2 = 0 then 0 else 1)) (uG (uG (uG G 100 32 ((G 100 32 + j_off F c2))) 118 c1 ((G 118 c1 + (G 118 c2 - j_off F c2)))) 118 c2 0) (c1))]) rfl ?_
                      refine tp_i (y := w_ft (G 118 c1 + (G 118 c2 - j_off F c2)) (F 116 c1)) (by simp [w_feet, w_ft, uF, upd, uG, vp_updL, hne]) ?_
                      exact r_i C hr hlk hw ⟨(by simp only [sp_join]; rw [if_pos hj1, hz_c1, hz_c2]), (by simp only [st_joinF, st_joinG]; rw [if_pos hj1, if_pos hj1, hz_c1, hz_c2]; rfl)⟩ dX12_join_257
                · rw [Int32.not_le] at c_204
                  refine lv_aload_n hx hb dX12_join_207 rfl (lv_at hl 1 rfl) ?_
                  refine g_r 19 (k2 := 120) C hw (hM.m rfl) rfl fl_X12_65 rfl (hM.p 19 rfl) dX12_join_208 ?_
                  refine lv_iload_n hx hb dX12_join_211 rfl (lv_at hl 3 rfl) ?_
                  refine n_i c2 C hw (hM.m rfl) rfl rfl (show _ < 16 by omega) dX12_join_212 ?_
                  refine tp_i (y := F 120 c2) ((uF_n _ _ (Or.inl (by decide))).trans ((uF_n _ _ (Or.inl (by decide))).trans (rfl))) ?_
                  refine lv_goto (tgt := 222) hx hb dX12_join_213 (by decide) ?_
                  refine tp_i (y := if F 120 c1 < F 120 c2 then F 120 c2 else F 120 c1) (by simp [c_204]) ?_
                  refine t_i c1 C hw (hM.m rfl) rfl rfl (show _ < 16 by omega) dX12_join_222 (fun H locs hw => ?_)
                  refine lv_aload_n hx hb dX12_join_223 rfl (lv_at hl 1 rfl) ?_
                  refine g_r 20 (k2 := 121) C hw (hM.m rfl) rfl fl_X12_68 rfl (hM.p 20 rfl) dX12_join_224 ?_
                  refine lv_iload_n hx hb dX12_join_227 rfl (lv_at hl 2 rfl) ?_
                  refine lv_aload_n hx hb dX12_join_228 rfl (lv_at hl 1 rfl) ?_
                  refine g_r 20 (k2 := 121) C hw (hM.m rfl) rfl fl_X12_68 rfl (hM.p 20 rfl) dX12_join_229 ?_
                  refine lv_iload_n hx hb dX12_join_232 rfl (lv_at hl 2 rfl) ?_
                  refine n_z c1 C hw (hM.m rfl) rfl rfl (show _ < 16 by omega) dX12_join_233 ?_
                  refine tp_i (y := F 121 c1) ((uF_n _ _ (Or.inl (by decide))).trans ((uF_n _ _ (Or.inl (by decide))).trans ((uF_n _ _ (Or.inl (by decide))).trans (rfl)))) ?_
                  refine lv_if_ne (tgt := 246) hx hb dX12_join_234 (by decide) (fun c_234 => ?_) (fun c_234 => ?_)
                  · refine lv_iconst (v := 1) hx hb dX12_join_246 (by decide) ?_
                    refine lv_goto (tgt := 251) hx hb dX12_join_247 (by decide) ?_
                    refine tp_i (y := if F 121 c1 = 0 ∧ F 121 c2 = 0 then 0 else 1) (by simp [c_234]) ?_
                    refine t_z c1 C hw (hM.m rfl) rfl rfl (show _ < 16 by omega) (by split <;> rfl) dX12_join_251 (fun H locs hw => ?_)
                    refine lv_aload_n hx hb dX12_join_252 rfl (lv_at hl 1 rfl) ?_
                    refine lv_iload_n hx hb dX12_join_253 rfl (lv_at hl 2 rfl) ?_
                    refine kV C hw (c_X12_feetOf E tt B (uF (uF (uF (uF F 117 c1 (if F 117 c1 < F 117 c2 then F 117 c2 else F 117 c1)) 119 c1 ((F 119 c1 + (F 119 c2 + 1)))) 120 c1 (if F 120 c1 < F 120 c2 then F 120 c2 else F 120 c1)) 121 c1 (if F 121 c1 = 0 ∧ F 121 c2 = 0 then 0 else 1)) (uG (uG (uG G 100 32 ((G 100 32 + j_off F c2))) 118 c1 ((G 118 c1 + (G 118 c2 - j_off F c2)))) 118 c2 0) hM (q := c1) (by omega) (by simp only [uF_n _ _ (Or.inl (by decide : (116 : Nat) ≠ 121)), uF_n _ _ (Or.inl (by decide : (116 : Nat) ≠ 120)), uF_n _ _ (Or.inl (by decide : (116 : Nat) ≠ 119)), uF_n _ _ (Or.inl (by decide : (116 : Nat) ≠ 117))]; exact hd_c1)) vy_X12_feetOf ml_X12_167 (rcv hw (hM.m rfl) rfl (by decide) (q2 := (RX12, TX12, 49)) rfl) rfl hl.1 (rest := []) rfl dX12_join_254 (Nat.le_of_ble_eq_true rfl) ⟨by decide, by decide⟩ ⟨Nat.le_of_ble_eq_true rfl, Nat.le_of_ble_eq_true rfl⟩ (fun v_254 ws_254 H locs hp_254 hq_254 => ?_)
                    clear hw
                    obtain ⟨rfl, rfl⟩ := hp_254
                    have hw := hq_254
                    refine W.eq (g2 := F0 m 257 ls [.int (w_feet (uF (uF (uF (uF F 117 c1 (if F 117 c1 < F 117 c2 then F 117 c2 else F 117 c1)) 119 c1 ((F 119 c1 + (F 119 c2 + 1)))) 120 c1 (if F 120 c1 < F 120 c2 then F 120 c2 else F 120 c1)) 121 c1 (if F 121 c1 = 0 ∧ F 121 c2 = 0 then 0 else 1)) (uG (uG (uG G 100 32 ((G 100 32 + j_off F c2))) 118 c1 ((G 118 c1 + (G 118 c2 - j_off F c2)))) 118 c2 0) (c1))]) rfl ?_
                    refine tp_i (y := w_ft (G 118 c1 + (G 118 c2 - j_off F c2)) (F 116 c1)) (by simp [w_feet, w_ft, uF, upd, uG, vp_updL, hne]) ?_
                    exact r_i C hr hlk hw ⟨(by simp only [sp_join]; rw [if_pos hj1, hz_c1, hz_c2]), (by simp only [st_joinF, st_joinG]; rw [if_pos hj1, if_pos hj1, hz_c1, hz_c2]; rfl)⟩ dX12_join_257
                  · refine lv_aload_n hx hb dX12_join_237 rfl (lv_at hl 1 rfl) ?_
                    refine g_r 20 (k2 := 121) C hw (hM.m rfl) rfl fl_X12_68 rfl (hM.p 20 rfl) dX12_join_238 ?_
                    refine lv_iload_n hx hb dX12_join_241 rfl (lv_at hl 3 rfl) ?_
                    refine n_z c2 C hw (hM.m rfl) rfl rfl (show _ < 16 by omega) dX12_join_242 ?_
                    refine tp_i (y := F 121 c2) ((uF_n _ _ (Or.inl (by decide))).trans ((uF_n _ _ (Or.inl (by decide))).trans ((uF_n _ _ (Or.inl (by decide))).trans (rfl)))) ?_
                    refine lv_if_eq (tgt := 250) hx hb dX12_join_243 (by decide) (fun c_243 => ?_) (fun c_243 => ?_)
                    · refine lv_iconst (v := 0) hx hb dX12_join_250 (by decide) ?_
                      refine tp_i (y := if F 121 c1 = 0 ∧ F 121 c2 = 0 then 0 else 1) (by simp [c_234, c_243]) ?_
                      refine t_z c1 C hw (hM.m rfl) rfl rfl (show _ < 16 by omega) (by split <;> rfl) dX12_join_251 (fun H locs hw => ?_)
                      refine lv_aload_n hx hb dX12_join_252 rfl (lv_at hl 1 rfl) ?_
                      refine lv_iload_n hx hb dX12_join_253 rfl (lv_at hl 2 rfl) ?_
                      refine kV C hw (c_X12_feetOf E tt B (uF (uF (uF (uF F 117 c1 (if F 117 c1 < F 117 c2 then F 117 c2 else F 117 c1)) 119 c1 ((F 119 c1 + (F 119 c2 + 1)))) 120 c1 (if F 120 c1 < F 120 c2 then F 120 c2 else F 120 c1)) 121 c1 (if F 121 c1 = 0 ∧ F 121 c2 = 0 then 0 else 1)) (uG (uG (uG G 100 32 ((G 100 32 + j_off F c2))) 118 c1 ((G 118 c1 + (G 118 c2 - j_off F c2)))) 118 c2 0) hM (q := c1) (by omega) (by simp only [uF_n _ _ (Or.inl (by decide : (116 : Nat) ≠ 121)), uF_n _ _ (Or.inl (by decide : (116 : Nat) ≠ 120)), uF_n _ _ (Or.inl (by decide : (116 : Nat) ≠ 119)), uF_n _ _ (Or.inl (by decide : (116 : Nat) ≠ 117))]; exact hd_c1)) vy_X12_feetOf ml_X12_167 (rcv hw (hM.m rfl) rfl (by decide) (q2 := (RX12, TX12, 49)) rfl) rfl hl.1 (rest := []) rfl dX12_join_254 (Nat.le_of_ble_eq_true rfl) ⟨by decide, by decide⟩ ⟨Nat.le_of_ble_eq_true rfl, Nat.le_of_ble_eq_true rfl⟩ (fun v_254 ws_254 H locs hp_254 hq_254 => ?_)
                      clear hw
                      obtain ⟨rfl, rfl⟩ := hp_254
                      have hw := hq_254
                      refine W.eq (g2 := F0 m 257 ls [.int (w_feet (uF (uF (uF (uF F 117 c1 (if F 117 c1 < F 117 c2 then F 117 c2 else F 117 c1)) 119 c1 ((F 119 c1 + (F 119 c2 + 1)))) 120 c1 (if F 120 c1 < F 120 c2 then F 120 c2 else F 120 c1)) 121 c1 (if F 121 c1 = 0 ∧ F 121 c2 = 0 then 0 else 1)) (uG (uG (uG G 100 32 ((G 100 32 + j_off F c2))) 118 c1 ((G 118 c1 + (G 118 c2 - j_off F c2)))) 118 c2 0) (c1))]) rfl ?_
                      refine tp_i (y := w_ft (G 118 c1 + (G 118 c2 - j_off F c2)) (F 116 c1)) (by simp [w_feet, w_ft, uF, upd, uG, vp_updL, hne]) ?_
                      exact r_i C hr hlk hw ⟨(by simp only [sp_join]; rw [if_pos hj1, hz_c1, hz_c2]), (by simp only [st_joinF, st_joinG]; rw [if_pos hj1, if_pos hj1, hz_c1, hz_c2]; rfl)⟩ dX12_join_257
                    · refine lv_iconst (v := 1) hx hb dX12_join_246 (by decide) ?_
                      refine lv_goto (tgt := 251) hx hb dX12_join_247 (by decide) ?_
                      refine tp_i (y := if F 121 c1 = 0 ∧ F 121 c2 = 0 then 0 else 1) (by simp [c_234, c_243]) ?_
                      refine t_z c1 C hw (hM.m rfl) rfl rfl (show _ < 16 by omega) (by split <;> rfl) dX12_join_251 (fun H locs hw => ?_)
                      refine lv_aload_n hx hb dX12_join_252 rfl (lv_at hl 1 rfl) ?_
                      refine lv_iload_n hx hb dX12_join_253 rfl (lv_at hl 2 rfl) ?_
                      refine kV C hw (c_X12_feetOf E tt B (uF (uF (uF (uF F 117 c1 (if F 117 c1 < F 117 c2 then F 117 c2 else F 117 c1)) 119 c1 ((F 119 c1 + (F 119 c2 + 1)))) 120 c1 (if F 120 c1 < F 120 c2 then F 120 c2 else F 120 c1)) 121 c1 (if F 121 c1 = 0 ∧ F 121 c2 = 0 then 0 else 1)) (uG (uG (uG G 100 32 ((G 100 32 + j_off F c2))) 118 c1 ((G 118 c1 + (G 118 c2 - j_off F c2)))) 118 c2 0) hM (q := c1) (by omega) (by simp only [uF_n _ _ (Or.inl (by decide : (116 : Nat) ≠ 121)), uF_n _ _ (Or.inl (by decide : (116 : Nat) ≠ 120)), uF_n _ _ (Or.inl (by decide : (116 : Nat) ≠ 119)), uF_n _ _ (Or.inl (by decide : (116 : Nat) ≠ 117))]; exact hd_c1)) vy_X12_feetOf ml_X12_167 (rcv hw (hM.m rfl) rfl (by decide) (q2 := (RX12, TX12, 49)) rfl) rfl hl.1 (rest := []) rfl dX12_join_254 (Nat.le_of_ble_eq_true rfl) ⟨by decide, by decide⟩ ⟨Nat.le_of_ble_eq_true rfl, Nat.le_of_ble_eq_true rfl⟩ (fun v_254 ws_254 H locs hp_254 hq_254 => ?_)
                      clear hw
                      obtain ⟨rfl, rfl⟩ := hp_254
                      have hw := hq_254
                      refine W.eq (g2 := F0 m 257 ls [.int (w_feet (uF (uF (uF (uF F 117 c1 (if F 117 c1 < F 117 c2 then F 117 c2 else F 117 c1)) 119 c1 ((F 119 c1 + (F 119 c2 + 1)))) 120 c1 (if F 120 c1 < F 120 c2 then F 120 c2 else F 120 c1)) 121 c1 (if F 121 c1 = 0 ∧ F 121 c2 = 0 then 0 else 1)) (uG (uG (uG G 100 32 ((G 100 32 + j_off F c2))) 118 c1 ((G 118 c1 + (G 118 c2 - j_off F c2)))) 118 c2 0) (c1))]) rfl ?_
                      refine tp_i (y := w_ft (G 118 c1 + (G 118 c2 - j_off F c2)) (F 116 c1)) (by simp [w_feet, w_ft, uF, upd, uG, vp_updL, hne]) ?_
                      exact r_i C hr hlk hw ⟨(by simp only [sp_join]; rw [if_pos hj1, hz_c1, hz_c2]), (by simp only [st_joinF, st_joinG]; rw [if_pos hj1, if_pos hj1, hz_c1, hz_c2]; rfl)⟩ dX12_join_257
            · rw [Int32.not_le] at c_70
              refine lv_bipush (v := -4) hx hb dX12_join_73 (by decide) ?_
              exact r_i C hr hlk hw ⟨(by simp [sp_join, st_joinF, st_joinG, j_why, h_2, h_10, c_21, c_39, c_54, c_70, hz_c1, hz_c2]), (by simp [sp_join, st_joinF, st_joinG, j_why, h_2, h_10, c_21, c_39, c_54, c_70, hz_c1, hz_c2])⟩ dX12_join_75
      · refine lv_bipush (v := -3) hx hb dX12_join_24 (by decide) ?_
        exact r_i C hr hlk hw ⟨(by simp [sp_join, st_joinF, st_joinG, j_why, h_2, h_10, c_21, hz_c1, hz_c2]), (by simp [sp_join, st_joinF, st_joinG, j_why, h_2, h_10, c_21, hz_c1, hz_c2])⟩ dX12_join_26
    · have hw := hq_10
      refine W.eq (g2 := F0 m 13 ls [.int (0)]) rfl ?_
      refine lv_if_ne (tgt := 19) hx hb dX12_join_13 (by decide) (fun h9 => False.elim (by revert h9; decide)) (fun _ => ?_)
      refine lv_bipush (v := -2) hx hb dX12_join_16 (by decide) ?_
      exact r_i C hr hlk hw ⟨(by simp [sp_join, st_joinF, st_joinG, j_why, h_2, h_10]), (by simp [sp_join, st_joinF, st_joinG, j_why, h_2, h_10])⟩ dX12_join_18
  · have hw := hq_2
    refine W.eq (g2 := F0 m 5 ls [.int (0)]) rfl ?_
    refine lv_if_eq (tgt := 16) hx hb dX12_join_5 (by decide) (fun _ => ?_) (fun h9 => False.elim (by revert h9; decide))
    refine lv_bipush (v := -2) hx hb dX12_join_16 (by decide) ?_
    exact r_i C hr hlk hw ⟨(by simp [sp_join, st_joinF, st_joinG, j_why, h_2]), (by simp [sp_join, st_joinF, st_joinG, j_why, h_2])⟩ dX12_join_18

set_option maxHeartbeats 4000000 in
set_option maxRecDepth 100000 in
theorem c_X12_scrap (E : cE) (tt : Nat × Nat × Nat) {X : List Nat} (B : Nat → Nat) (F : tF) (G : tG) {P : tP} (hM : RM X P) (nc : Nat) (mt : Nat → Nat) (hC : CO F nc mt) (c0 : Int32)  : CT E tt yX12_scrap cX12_scrap 2 (some .int) 2 0 0 [.ref (B (100)), .int (c0)] (wl E X B F G P) (fun r w => r = some (.int (sp_scrap G nc c0)) ∧ w = wl E X B F (st_scrap G nc c0) P) := by
  refine CT.mk (by decide +kernel) (Nat.le_of_ble_eq_true rfl) ?_
  intro l p e s m below meth c A ls C hr hlk hnm hw hl
  have hx := C.1
  have hb := C.2.1
  have hts := C.2.2.2.2
  have hown : s.vm.findClass RX12 = some m.cls := C.2.2.2.1
  have hl : lv_has ls 2 [(0, .ref (B (100))), (1, .int (c0))] := hl
  refine lv_aload_n hx hb dX12_scrap_0 rfl (lv_at hl 0 rfl) ?_
  refine lv_iload_n hx hb dX12_scrap_1 rfl (lv_at hl 1 rfl) ?_
  refine kV C hw (c_X12_isCoil E tt B F G hM nc hC.1 hC.2.1 (c0)) vy_X12_isCoil ml_X12_173 (rcv hw (hM.m rfl) rfl (by decide) (q2 := (RX12, TX12, 49)) rfl) rfl hl.1 (rest := []) rfl dX12_scrap_2 (Nat.le_of_ble_eq_true rfl) ⟨by decide, by decide⟩ ⟨Nat.le_of_ble_eq_true rfl, Nat.le_of_ble_eq_true rfl⟩ (fun v_2 ws_2 H locs hp_2 hq_2 => ?_)
  clear hw
  rcases hp_2 with ⟨h_2, rfl, rfl⟩ | ⟨h_2, rfl, rfl⟩
  · have hw := hq_2
    refine W.eq (g2 := F0 m 5 ls [.int (1)]) rfl ?_
    obtain ⟨c1, hl_c1, rfl, hs_c1⟩ := ok_coil_n hC.2.1 h_2
    have hz_c1 := i4_cl (i := c1) (by have := hC.2.1; omega)
    obtain ⟨hm_c1, hm4_c1, hd_c1⟩ := hC.2.2 c1 hl_c1
    have hc16 := hC.2.1
    refine lv_if_ne (tgt := 11) hx hb dX12_scrap_5 (by decide) (fun _ => ?_) (fun h9 => False.elim (by revert h9; decide))
    refine lv_aload_n hx hb dX12_scrap_11 rfl (lv_at hl 0 rfl) ?_
    refine lv_dup hx hb dX12_scrap_12 rfl ?_
    refine g_l 32 C hw (hM.m rfl) rfl fl_X12_170 rfl dX12_scrap_13 ?_
    refine lv_aload_n hx hb dX12_scrap_16 rfl (lv_at hl 0 rfl) ?_
    refine g_r 17 (k2 := 118) C hw (hM.m rfl) rfl fl_X12_58 rfl (hM.p 17 rfl) dX12_scrap_17 ?_
    refine lv_iload_n hx hb dX12_scrap_20 rfl (lv_at hl 1 rfl) ?_
    refine n_l c1 C hw (hM.m rfl) rfl rfl (show _ < 16 by omega) dX12_scrap_21 ?_
    refine lv_ladd hx hb dX12_scrap_22 ?_
    refine p_l 32 C hw (hM.m rfl) rfl fl_X12_170 fc_12 fn_12_32 (fun h9 => by cases h9) rfl rfl rfl dX12_scrap_23 (fun H locs hw => ?_)
    refine lv_aload_n hx hb dX12_scrap_26 rfl (lv_at hl 0 rfl) ?_
    refine g_r 17 (k2 := 118) C hw (hM.m rfl) rfl fl_X12_58 rfl (hM.p 17 rfl) dX12_scrap_27 ?_
    refine lv_iload_n hx hb dX12_scrap_30 rfl (lv_at hl 1 rfl) ?_
    refine lv_lconst (v := 0) hx hb dX12_scrap_31 (by decide) ?_
    refine t_l c1 C hw (hM.m rfl) rfl rfl (show _ < 16 by omega) dX12_scrap_32 (fun H locs hw => ?_)
    refine lv_iconst (v := 1) hx hb dX12_scrap_33 (by decide) ?_
    exact r_i C hr hlk hw ⟨(by simp [sp_scrap, st_scrap, hz_c1, h_2]), (by simp [sp_scrap, st_scrap, hz_c1, h_2])⟩ dX12_scrap_34
  · have hw := hq_2
    refine W.eq (g2 := F0 m 5 ls [.int (0)]) rfl ?_
    refine lv_if_ne (tgt := 11) hx hb dX12_scrap_5 (by decide) (fun h9 => False.elim (by revert h9; decide)) (fun _ => ?_)
    refine lv_bipush (v := -2) hx hb dX12_scrap_8 (by decide) ?_
    exact r_i C hr hlk hw ⟨(by simp [sp_scrap, st_scrap, h_2]), (by simp [sp_scrap, st_scrap, h_2])⟩ dX12_scrap_10

set_option maxHeartbeats 4000000 in
set_option maxRecDepth 100000 in
theorem c_X12_ready (E : cE) (tt : Nat × Nat × Nat) {X : List Nat} (B : Nat → Nat) (F : tF) (G : tG) {P : tP} (hM : RM X P) (w0 : Int32)  : CT E tt yX12_ready cX12_ready 2 (some .int) 1 0 0 [.ref (B (100)), .int (w0)] (wl E X B F G P) (fun r w => r = some (.int (sp_ready F w0)) ∧ w = wl E X B F G P) := by
  refine CT.mk (by decide +kernel) (Nat.le_of_ble_eq_true rfl) ?_
  intro l p e s m below meth c A ls C hr hlk hnm hw hl
  have hx := C.1
  have hb := C.2.1
  have hts := C.2.2.2.2
  have hown : s.vm.findClass RX12 = some m.cls := C.2.2.2.1
  have hl : lv_has ls 2 [(0, .ref (B (100))), (1, .int (w0))] := hl
  refine lv_iload_n hx hb dX12_ready_0 rfl (lv_at hl 1 rfl) ?_
  refine lv_iconst (v := 0) hx hb dX12_ready_1 (by decide) ?_
  refine lv_iconst (v := 3) hx hb dX12_ready_2 (by decide) ?_
  refine kS C hw (c_X12_within E tt _ (w0) (0) (3)) vy_X12_within ml_X12_123 rfl hl.1 (rest := []) rfl dX12_ready_3 (Nat.le_of_ble_eq_true rfl) ⟨by decide, by decide⟩ ⟨Nat.le_of_ble_eq_true rfl, Nat.le_of_ble_eq_true rfl⟩ (fun v_3 ws_3 H locs hp_3 hq_3 => ?_)
  clear hw
  rcases hp_3 with ⟨h_3, rfl, rfl⟩ | ⟨h_3, rfl, rfl⟩
  · have hw := hq_3
    refine W.eq (g2 := F0 m 6 ls [.int (1)]) rfl ?_
    refine lv_if_eq (tgt := 18) hx hb dX12_ready_6 (by decide) (fun h9 => False.elim (by revert h9; decide)) (fun _ => ?_)
    obtain ⟨i0, hi0, rfl⟩ := n_of (n := 3) h_3.1 h_3.2 (by decide)
    have hz0 := i4_cl (i := i0) (by omega)
    refine lv_aload_n hx hb dX12_ready_9 rfl (lv_at hl 0 rfl) ?_
    refine g_r 8 (k2 := 109) C hw (hM.m rfl) rfl fl_X12_34 rfl (hM.p 8 rfl) dX12_ready_10 ?_
    refine lv_iload_n hx hb dX12_ready_13 rfl (lv_at hl 1 rfl) ?_
    refine n_i i0 C hw (hM.m rfl) rfl rfl (show _ < 4 by omega) dX12_ready_14 ?_
    refine lv_goto (tgt := 20) hx hb dX12_ready_15 (by decide) ?_
    exact r_i C hr hlk hw ⟨(by simp [sp_ready, h_3, hz0]), rfl⟩ dX12_ready_20
  · have hw := hq_3
    refine W.eq (g2 := F0 m 6 ls [.int (0)]) rfl ?_
    refine lv_if_eq (tgt := 18) hx hb dX12_ready_6 (by decide) (fun _ => ?_) (fun h9 => False.elim (by revert h9; decide))
    refine lv_bipush (v := -2) hx hb dX12_ready_18 (by decide) ?_
    exact r_i C hr hlk hw ⟨(by simp [sp_ready, h_3]), rfl⟩ dX12_ready_20

set_option maxHeartbeats 4000000 in
set_option maxRecDepth 100000 in
theorem c_X12_wrong (E : cE) (tt : Nat × Nat × Nat) {X : List Nat} (B : Nat → Nat) (F : tF) (G : tG) {P : tP} (hM : RM X P) (nc : Nat) (mt : Nat → Nat) (hC : CO F nc mt) (c0 p0 u0 lo hi : Int32)  : CT E tt yX12_wrong cX12_wrong 6 (some .int) 2 0 0 [.ref (B (100)), .int (c0), .int (p0), .int (u0), .int (lo), .int (hi)] (wl E X B F G P) (fun r w => r = some (.int (sp_wrong G nc c0 p0 u0 lo hi)) ∧ w = wl E X B F G P) := by
  refine CT.mk (by decide +kernel) (Nat.le_of_ble_eq_true rfl) ?_
  intro l p e s m below meth c A ls C hr hlk hnm hw hl
  have hx := C.1
  have hb := C.2.1
  have hts := C.2.2.2.2
  have hown : s.vm.findClass RX12 = some m.cls := C.2.2.2.1
  have hl : lv_has ls 6 [(0, .ref (B (100))), (1, .int (c0)), (2, .int (p0)), (3, .int (u0)), (4, .int (lo)), (5, .int (hi))] := hl
  refine lv_aload_n hx hb dX12_wrong_0 rfl (lv_at hl 0 rfl) ?_
  refine lv_iload_n hx hb dX12_wrong_1 rfl (lv_at hl 1 rfl) ?_
  refine kV C hw (c_X12_isCoil E tt B F G hM nc hC.1 hC.2.1 (c0)) vy_X12_isCoil ml_X12_173 (rcv hw (hM.m rfl) rfl (by decide) (q2 := (RX12, TX12, 49)) rfl) rfl hl.1 (rest := []) rfl dX12_wrong_2 (Nat.le_of_ble_eq_true rfl) ⟨by decide, by decide⟩ ⟨Nat.le_of_ble_eq_true rfl, Nat.le_of_ble_eq_true rfl⟩ (fun v_2 ws_2 H locs hp_2 hq_2 => ?_)
  clear hw
  rcases hp_2 with ⟨h_2, rfl, rfl⟩ | ⟨h_2, rfl, rfl⟩
  · have hw := hq_2
    refine W.eq (g2 := F0 m 5 ls [.int (1)]) rfl ?_
    obtain ⟨c1, hl_c1, rfl, hs_c1⟩ := ok_coil_n hC.2.1 h_2
    have hz_c1 := i4_cl (i := c1) (by have := hC.2.1; omega)
    obtain ⟨hm_c1, hm4_c1, hd_c1⟩ := hC.2.2 c1 hl_c1
    have hc16 := hC.2.1
    refine lv_if_eq (tgt := 24) hx hb dX12_wrong_5 (by decide) (fun h9 => False.elim (by revert h9; decide)) (fun _ => ?_)
    refine lv_iload_n hx hb dX12_wrong_8 rfl (lv_at hl 2 rfl) ?_
    refine lv_iconst (v := 0) hx hb dX12_wrong_9 (by decide) ?_
    refine lv_iconst (v := 3) hx hb dX12_wrong_10 (by decide) ?_
    refine kS C hw (c_X12_within E tt _ (p0) (0) (3)) vy_X12_within ml_X12_123 rfl hl.1 (rest := []) rfl dX12_wrong_11 (Nat.le_of_ble_eq_true rfl) ⟨by decide, by decide⟩ ⟨Nat.le_of_ble_eq_true rfl, Nat.le_of_ble_eq_true rfl⟩ (fun v_11 ws_11 H locs hp_11 hq_11 => ?_)
    clear hw
    rcases hp_11 with ⟨h_11, rfl, rfl⟩ | ⟨h_11, rfl, rfl⟩
    · have hw := hq_11
      refine W.eq (g2 := F0 m 14 ls [.int (1)]) rfl ?_
      refine lv_if_eq (tgt := 24) hx hb dX12_wrong_14 (by decide) (fun h9 => False.elim (by revert h9; decide)) (fun _ => ?_)
      refine lv_iload_n hx hb dX12_wrong_17 rfl (lv_at hl 3 rfl) ?_
      refine kS C hw (c_X12_isPuller E tt _ (u0)) vy_X12_isPuller ml_X12_142 rfl hl.1 (rest := []) rfl dX12_wrong_18 (Nat.le_of_ble_eq_true rfl) ⟨by decide, by decide⟩ ⟨Nat.le_of_ble_eq_true rfl, Nat.le_of_ble_eq_true rfl⟩ (fun v_18 ws_18 H locs hp_18 hq_18 => ?_)
      clear hw
      rcases hp_18 with ⟨h_18, rfl, rfl⟩ | ⟨h_18, rfl, rfl⟩
      · have hw := hq_18
        refine W.eq (g2 := F0 m 21 ls [.int (1)]) rfl ?_
        refine lv_if_ne (tgt := 27) hx hb dX12_wrong_21 (by decide) (fun _ => ?_) (fun h9 => False.elim (by revert h9; decide))
        refine lv_iload hx hb dX12_wrong_27 (lv_at hl 4 rfl) ?_
        refine kS C hw (c_X12_isSize E tt _ (lo)) vy_X12_isSize ml_X12_146 rfl hl.1 (rest := []) rfl dX12_wrong_29 (Nat.le_of_ble_eq_true rfl) ⟨by decide, by decide⟩ ⟨Nat.le_of_ble_eq_true rfl, Nat.le_of_ble_eq_true rfl⟩ (fun v_29 ws_29 H locs hp_29 hq_29 => ?_)
        clear hw
        rcases hp_29 with ⟨h_29, rfl, rfl⟩ | ⟨h_29, rfl, rfl⟩
        · have hw := hq_29
          refine W.eq (g2 := F0 m 32 ls [.int (1)]) rfl ?_
          refine lv_if_eq (tgt := 54) hx hb dX12_wrong_32 (by decide) (fun h9 => False.elim (by revert h9; decide)) (fun _ => ?_)
          refine lv_iload hx hb dX12_wrong_35 (lv_at hl 5 rfl) ?_
          refine kS C hw (c_X12_isSize E tt _ (hi)) vy_X12_isSize ml_X12_146 rfl hl.1 (rest := []) rfl dX12_wrong_37 (Nat.le_of_ble_eq_true rfl) ⟨by decide, by decide⟩ ⟨Nat.le_of_ble_eq_true rfl, Nat.le_of_ble_eq_true rfl⟩ (fun v_37 ws_37 H locs hp_37 hq_37 => ?_)
          clear hw
          rcases hp_37 with ⟨h_37, rfl, rfl⟩ | ⟨h_37, rfl, rfl⟩
          · have hw := hq_37
            refine W.eq (g2 := F0 m 40 ls [.int (1)]) rfl ?_
            refine lv_if_eq (tgt := 54) hx hb dX12_wrong_40 (by decide) (fun h9 => False.elim (by revert h9; decide)) (fun _ => ?_)
            refine lv_iload hx hb dX12_wrong_43 (lv_at hl 4 rfl) ?_
            refine lv_iload hx hb dX12_wrong_45 (lv_at hl 5 rfl) ?_
            refine lv_icmp_gt (tgt := 54) hx hb dX12_wrong_47 (by decide) (fun c_47 => ?_) (fun c_47 => ?_)
            · refine lv_bipush (v := -3) hx hb dX12_wrong_54 (by decide) ?_
              exact r_i C hr hlk hw ⟨(by simp [sp_wrong, h_2, h_11, h_18, h_29, h_37, c_47]), rfl⟩ dX12_wrong_56
            · refine lv_iconst (v := 1) hx hb dX12_wrong_50 (by decide) ?_
              refine lv_goto (tgt := 56) hx hb dX12_wrong_51 (by decide) ?_
              exact r_i C hr hlk hw ⟨(by simp [sp_wrong, h_2, h_11, h_18, h_29, h_37, c_47]), rfl⟩ dX12_wrong_56
          · have hw := hq_37
            refine W.eq (g2 := F0 m 40 ls [.int (0)]) rfl ?_
            refine lv_if_eq (tgt := 54) hx hb dX12_wrong_40 (by decide) (fun _ => ?_) (fun h9 => False.elim (by revert h9; decide))
            refine lv_bipush (v := -3) hx hb dX12_wrong_54 (by decide) ?_
            exact r_i C hr hlk hw ⟨(by simp [sp_wrong, h_2, h_11, h_18, h_29, h_37]), rfl⟩ dX12_wrong_56
        · have hw := hq_29
          refine W.eq (g2 := F0 m 32 ls [.int (0)]) rfl ?_
          refine lv_if_eq (tgt := 54) hx hb dX12_wrong_32 (by decide) (fun _ => ?_) (fun h9 => False.elim (by revert h9; decide))
          refine lv_bipush (v := -3) hx hb dX12_wrong_54 (by decide) ?_
          exact r_i C hr hlk hw ⟨(by simp [sp_wrong, h_2, h_11, h_18, h_29]), rfl⟩ dX12_wrong_56
      · have hw := hq_18
        refine W.eq (g2 := F0 m 21 ls [.int (0)]) rfl ?_
        refine lv_if_ne (tgt := 27) hx hb dX12_wrong_21 (by decide) (fun h9 => False.elim (by revert h9; decide)) (fun _ => ?_)
        refine lv_bipush (v := -2) hx hb dX12_wrong_24 (by decide) ?_
        exact r_i C hr hlk hw ⟨(by simp [sp_wrong, h_2, h_11, h_18]), rfl⟩ dX12_wrong_26
    · have hw := hq_11
      refine W.eq (g2 := F0 m 14 ls [.int (0)]) rfl ?_
      refine lv_if_eq (tgt := 24) hx hb dX12_wrong_14 (by decide) (fun _ => ?_) (fun h9 => False.elim (by revert h9; decide))
      refine lv_bipush (v := -2) hx hb dX12_wrong_24 (by decide) ?_
      exact r_i C hr hlk hw ⟨(by simp [sp_wrong, h_2, h_11]), rfl⟩ dX12_wrong_26
  · have hw := hq_2
    refine W.eq (g2 := F0 m 5 ls [.int (0)]) rfl ?_
    refine lv_if_eq (tgt := 24) hx hb dX12_wrong_5 (by decide) (fun _ => ?_) (fun h9 => False.elim (by revert h9; decide))
    refine lv_bipush (v := -2) hx hb dX12_wrong_24 (by decide) ?_
    exact r_i C hr hlk hw ⟨(by simp [sp_wrong, h_2]), rfl⟩ dX12_wrong_26

set_option maxHeartbeats 4000000 in
set_option maxRecDepth 100000 in
theorem c_X12_order (E : cE) (tt : Nat × Nat × Nat) {X : List Nat} (B : Nat → Nat) (F : tF) (G : tG) {P : tP} (hM : RM X P) (no : Nat) (hO : ON F no) (m0 lo hi f0 : Int32)  : CT E tt yX12_order cX12_order 5 (some .int) 2 0 0 [.ref (B (100)), .int (m0), .int (lo), .int (hi), .int (f0)] (wl E X B F G P) (fun r w => r = some (.int (sp_order no m0 lo hi f0)) ∧ w = wl E X B (st_order F no m0 lo hi f0) G P) := by
  refine CT.mk (by decide +kernel) (Nat.le_of_ble_eq_true rfl) ?_
  intro l p e s m below meth c A ls C hr hlk hnm hw hl
  have hx := C.1
  have hb := C.2.1
  have hts := C.2.2.2.2
  have hown : s.vm.findClass RX12 = some m.cls := C.2.2.2.1
  have hl : lv_has ls 5 [(0, .ref (B (100))), (1, .int (m0)), (2, .int (lo)), (3, .int (hi)), (4, .int (f0))] := hl
  have ho6 := hO.2
  refine lv_iload_n hx hb dX12_order_0 rfl (lv_at hl 1 rfl) ?_
  refine kS C hw (c_X12_isMetal E tt _ (m0)) vy_X12_isMetal ml_X12_131 rfl hl.1 (rest := []) rfl dX12_order_1 (Nat.le_of_ble_eq_true rfl) ⟨by decide, by decide⟩ ⟨Nat.le_of_ble_eq_true rfl, Nat.le_of_ble_eq_true rfl⟩ (fun v_1 ws_1 H locs hp_1 hq_1 => ?_)
  clear hw
  rcases hp_1 with ⟨h_1, rfl, rfl⟩ | ⟨h_1, rfl, rfl⟩
  · have hw := hq_1
    refine W.eq (g2 := F0 m 4 ls [.int (1)]) rfl ?_
    refine lv_if_ne (tgt := 10) hx hb dX12_order_4 (by decide) (fun _ => ?_) (fun h9 => False.elim (by revert h9; decide))
    refine lv_iload_n hx hb dX12_order_10 rfl (lv_at hl 2 rfl) ?_
    refine kS C hw (c_X12_isSize E tt _ (lo)) vy_X12_isSize ml_X12_146 rfl hl.1 (rest := []) rfl dX12_order_11 (Nat.le_of_ble_eq_true rfl) ⟨by decide, by decide⟩ ⟨Nat.le_of_ble_eq_true rfl, Nat.le_of_ble_eq_true rfl⟩ (fun v_11 ws_11 H locs hp_11 hq_11 => ?_)
    clear hw
    rcases hp_11 with ⟨h_11, rfl, rfl⟩ | ⟨h_11, rfl, rfl⟩
    · have hw := hq_11
      refine W.eq (g2 := F0 m 14 ls [.int (1)]) rfl ?_
      refine lv_if_eq (tgt := 41) hx hb dX12_order_14 (by decide) (fun h9 => False.elim (by revert h9; decide)) (fun _ => ?_)
      refine lv_iload_n hx hb dX12_order_17 rfl (lv_at hl 3 rfl) ?_
      refine kS C hw (c_X12_isSize E tt _ (hi)) vy_X12_isSize ml_X12_146 rfl hl.1 (rest := []) rfl dX12_order_18 (Nat.le_of_ble_eq_true rfl) ⟨by decide, by decide⟩ ⟨Nat.le_of_ble_eq_true rfl, Nat.le_of_ble_eq_true rfl⟩ (fun v_18 ws_18 H locs hp_18 hq_18 => ?_)
      clear hw
      rcases hp_18 with ⟨h_18, rfl, rfl⟩ | ⟨h_18, rfl, rfl⟩
      · have hw := hq_18
        refine W.eq (g2 := F0 m 21 ls [.int (1)]) rfl ?_
        refine lv_if_eq (tgt := 41) hx hb dX12_order_21 (by decide) (fun h9 => False.elim (by revert h9; decide)) (fun _ => ?_)
        refine lv_iload_n hx hb dX12_order_24 rfl (lv_at hl 2 rfl) ?_
        refine lv_iload_n hx hb dX12_order_25 rfl (lv_at hl 3 rfl) ?_
        refine lv_icmp_gt (tgt := 41) hx hb dX12_order_26 (by decide) (fun c_26 => ?_) (fun c_26 => ?_)
        · refine lv_bipush (v := -3) hx hb dX12_order_41 (by decide) ?_
          exact r_i C hr hlk hw ⟨(by simp [sp_order, st_order, ok_ord, h_1, h_11, h_18, c_26]), (by simp [sp_order, st_order, ok_ord, h_1, h_11, h_18, c_26])⟩ dX12_order_43
        · refine lv_iload hx hb dX12_order_29 (lv_at hl 4 rfl) ?_
          refine lv_iconst (v := 1) hx hb dX12_order_31 (by decide) ?_
          refine lv_sipush (v := 10000) hx hb dX12_order_32 (by decide) ?_
          refine kS C hw (c_X12_within E tt _ (f0) (1) (10000)) vy_X12_within ml_X12_123 rfl hl.1 (rest := []) rfl dX12_order_35 (Nat.le_of_ble_eq_true rfl) ⟨by decide, by decide⟩ ⟨Nat.le_of_ble_eq_true rfl, Nat.le_of_ble_eq_true rfl⟩ (fun v_35 ws_35 H locs hp_35 hq_35 => ?_)
          clear hw
          rcases hp_35 with ⟨h_35, rfl, rfl⟩ | ⟨h_35, rfl, rfl⟩
          · have hw := hq_35
            refine W.eq (g2 := F0 m 38 ls [.int (1)]) rfl ?_
            refine lv_if_ne (tgt := 44) hx hb dX12_order_38 (by decide) (fun _ => ?_) (fun h9 => False.elim (by revert h9; decide))
            refine lv_aload_n hx hb dX12_order_44 rfl (lv_at hl 0 rfl) ?_
            refine g_i 21 C hw (hM.m rfl) rfl fl_X12_246 rfl dX12_order_45 ?_
            refine tp_i (y := nI no) (hO.1) ?_
            refine lv_bipush (v := 6) hx hb dX12_order_48 (by decide) ?_
            refine lv_icmp_ne (tgt := 56) hx hb dX12_order_50 (by decide) (fun c_50 => ?_) (fun c_50 => ?_)
            · have hn3 : no ≠ 6 := fun h9 => c_50 (by rw [h9]; rfl)
              refine lv_aload_n hx hb dX12_order_56 rfl (lv_at hl 0 rfl) ?_
              refine g_r 22 (k2 := 123) C hw (hM.m rfl) rfl fl_X12_72 rfl (hM.p 22 rfl) dX12_order_57 ?_
              refine lv_aload_n hx hb dX12_order_60 rfl (lv_at hl 0 rfl) ?_
              refine g_i 21 C hw (hM.m rfl) rfl fl_X12_246 rfl dX12_order_61 ?_
              refine tp_i (y := nI no) (hO.1) ?_
              refine lv_iload_n hx hb dX12_order_64 rfl (lv_at hl 1 rfl) ?_
              refine t_i no C hw (hM.m rfl) rfl rfl (show _ < 6 by omega) dX12_order_65 (fun H locs hw => ?_)
              refine lv_aload_n hx hb dX12_order_66 rfl (lv_at hl 0 rfl) ?_
              refine g_r 23 (k2 := 124) C hw (hM.m rfl) rfl fl_X12_75 rfl (hM.p 23 rfl) dX12_order_67 ?_
              refine lv_aload_n hx hb dX12_order_70 rfl (lv_at hl 0 rfl) ?_
              refine g_i 21 C hw (hM.m rfl) rfl fl_X12_246 rfl dX12_order_71 ?_
              refine tp_i (y := F 100 21) ((uF_n _ _ (Or.inl (by decide))).trans (rfl)) ?_
              refine tp_i (y := nI no) (hO.1) ?_
              refine lv_iload_n hx hb dX12_order_74 rfl (lv_at hl 2 rfl) ?_
              refine t_i no C hw (hM.m rfl) rfl rfl (show _ < 6 by omega) dX12_order_75 (fun H locs hw => ?_)
              refine lv_aload_n hx hb dX12_order_76 rfl (lv_at hl 0 rfl) ?_
              refine g_r 24 (k2 := 125) C hw (hM.m rfl) rfl fl_X12_78 rfl (hM.p 24 rfl) dX12_order_77 ?_
              refine lv_aload_n hx hb dX12_order_80 rfl (lv_at hl 0 rfl) ?_
              refine g_i 21 C hw (hM.m rfl) rfl fl_X12_246 rfl dX12_order_81 ?_
              refine tp_i (y := F 100 21) ((uF_n _ _ (Or.inl (by decide))).trans ((uF_n _ _ (Or.inl (by decide))).trans (rfl))) ?_
              refine tp_i (y := nI no) (hO.1) ?_
              refine lv_iload_n hx hb dX12_order_84 rfl (lv_at hl 3 rfl) ?_
              refine t_i no C hw (hM.m rfl) rfl rfl (show _ < 6 by omega) dX12_order_85 (fun H locs hw => ?_)
              refine lv_aload_n hx hb dX12_order_86 rfl (lv_at hl 0 rfl) ?_
              refine g_r 25 (k2 := 126) C hw (hM.m rfl) rfl fl_X12_81 rfl (hM.p 25 rfl) dX12_order_87 ?_
              refine lv_aload_n hx hb dX12_order_90 rfl (lv_at hl 0 rfl) ?_
              refine g_i 21 C hw (hM.m rfl) rfl fl_X12_246 rfl dX12_order_91 ?_
              refine tp_i (y := F 100 21) ((uF_n _ _ (Or.inl (by decide))).trans ((uF_n _ _ (Or.inl (by decide))).trans ((uF_n _ _ (Or.inl (by decide))).trans (rfl)))) ?_
              refine tp_i (y := nI no) (hO.1) ?_
              refine lv_iload hx hb dX12_order_94 (lv_at hl 4 rfl) ?_
              refine t_i no C hw (hM.m rfl) rfl rfl (show _ < 6 by omega) dX12_order_96 (fun H locs hw => ?_)
              refine lv_aload_n hx hb dX12_order_97 rfl (lv_at hl 0 rfl) ?_
              refine g_r 26 (k2 := 127) C hw (hM.m rfl) rfl fl_X12_84 rfl (hM.p 26 rfl) dX12_order_98 ?_
              refine lv_aload_n hx hb dX12_order_101 rfl (lv_at hl 0 rfl) ?_
              refine g_i 21 C hw (hM.m rfl) rfl fl_X12_246 rfl dX12_order_102 ?_
              refine tp_i (y := F 100 21) ((uF_n _ _ (Or.inl (by decide))).trans ((uF_n _ _ (Or.inl (by decide))).trans ((uF_n _ _ (Or.inl (by decide))).trans ((uF_n _ _ (Or.inl (by decide))).trans (rfl))))) ?_
              refine tp_i (y := nI no) (hO.1) ?_
              refine lv_iconst (v := 0) hx hb dX12_order_105 (by decide) ?_
              refine t_z no C hw (hM.m rfl) rfl rfl (show _ < 6 by omega) rfl dX12_order_106 (fun H locs hw => ?_)
              refine lv_aload_n hx hb dX12_order_107 rfl (lv_at hl 0 rfl) ?_
              refine lv_dup hx hb dX12_order_108 rfl ?_
              refine g_i 21 C hw (hM.m rfl) rfl fl_X12_246 rfl dX12_order_109 ?_
              refine tp_i (y := F 100 21) ((uF_n _ _ (Or.inl (by decide))).trans ((uF_n _ _ (Or.inl (by decide))).trans ((uF_n _ _ (Or.inl (by decide))).trans ((uF_n _ _ (Or.inl (by decide))).trans ((uF_n _ _ (Or.inl (by decide))).trans (rfl)))))) ?_
              refine tp_i (y := nI no) (hO.1) ?_
              refine lv_iconst (v := 1) hx hb dX12_order_112 (by decide) ?_
              refine lv_iadd hx hb dX12_order_113 ?_
              refine tp_i (y := nI (no + 1)) (nI_1 _) ?_
              refine p_i 21 C hw (hM.m rfl) rfl fl_X12_246 fc_12 fn_12_21 (fun h9 => by cases h9) rfl rfl rfl dX12_order_114 (fun H locs hw => ?_)
              refine lv_aload_n hx hb dX12_order_117 rfl (lv_at hl 0 rfl) ?_
              refine g_i 21 C hw (hM.m rfl) rfl fl_X12_246 rfl dX12_order_118 ?_
              refine tp_i (y := nI (no + 1)) (uF_s _ _ _ _) ?_
              refine lv_iconst (v := 1) hx hb dX12_order_121 (by decide) ?_
              refine lv_isub hx hb dX12_order_122 ?_
              refine tp_i (y := nI no) (nI_pred _) ?_
              exact r_i C hr hlk hw ⟨(by simp [sp_order, st_order, ok_ord, oF_, hn3, h_1, h_11, h_18, c_26, h_35, c_50]), (by simp [sp_order, st_order, ok_ord, oF_, hn3, h_1, h_11, h_18, c_26, h_35, c_50])⟩ dX12_order_123
            · have hn3 : no = 6 := (nI_eq (by omega) (by decide)).mp c_50
              refine lv_bipush (v := -8) hx hb dX12_order_53 (by decide) ?_
              exact r_i C hr hlk hw ⟨(by simp [sp_order, st_order, ok_ord, hn3, h_1, h_11, h_18, c_26, h_35, c_50]), (by simp [sp_order, st_order, ok_ord, hn3, h_1, h_11, h_18, c_26, h_35, c_50])⟩ dX12_order_55
          · have hw := hq_35
            refine W.eq (g2 := F0 m 38 ls [.int (0)]) rfl ?_
            refine lv_if_ne (tgt := 44) hx hb dX12_order_38 (by decide) (fun h9 => False.elim (by revert h9; decide)) (fun _ => ?_)
            refine lv_bipush (v := -3) hx hb dX12_order_41 (by decide) ?_
            exact r_i C hr hlk hw ⟨(by simp [sp_order, st_order, ok_ord, h_1, h_11, h_18, c_26, h_35]), (by simp [sp_order, st_order, ok_ord, h_1, h_11, h_18, c_26, h_35])⟩ dX12_order_43
      · have hw := hq_18
        refine W.eq (g2 := F0 m 21 ls [.int (0)]) rfl ?_
        refine lv_if_eq (tgt := 41) hx hb dX12_order_21 (by decide) (fun _ => ?_) (fun h9 => False.elim (by revert h9; decide))
        refine lv_bipush (v := -3) hx hb dX12_order_41 (by decide) ?_
        exact r_i C hr hlk hw ⟨(by simp [sp_order, st_order, ok_ord, h_1, h_11, h_18]), (by simp [sp_order, st_order, ok_ord, h_1, h_11, h_18])⟩ dX12_order_43
    · have hw := hq_11
      refine W.eq (g2 := F0 m 14 ls [.int (0)]) rfl ?_
      refine lv_if_eq (tgt := 41) hx hb dX12_order_14 (by decide) (fun _ => ?_) (fun h9 => False.elim (by revert h9; decide))
      refine lv_bipush (v := -3) hx hb dX12_order_41 (by decide) ?_
      exact r_i C hr hlk hw ⟨(by simp [sp_order, st_order, ok_ord, h_1, h_11]), (by simp [sp_order, st_order, ok_ord, h_1, h_11])⟩ dX12_order_43
  · have hw := hq_1
    refine W.eq (g2 := F0 m 4 ls [.int (0)]) rfl ?_
    refine lv_if_ne (tgt := 10) hx hb dX12_order_4 (by decide) (fun h9 => False.elim (by revert h9; decide)) (fun _ => ?_)
    refine lv_bipush (v := -2) hx hb dX12_order_7 (by decide) ?_
    exact r_i C hr hlk hw ⟨(by simp [sp_order, st_order, ok_ord, h_1]), (by simp [sp_order, st_order, ok_ord, h_1])⟩ dX12_order_9

set_option maxHeartbeats 4000000 in
set_option maxRecDepth 100000 in
theorem c_X12_filled (E : cE) (tt : Nat × Nat × Nat) {X : List Nat} (B : Nat → Nat) (F : tF) (G : tG) {P : tP} (hM : RM X P) (no : Nat) (hO : ON F no) (o0 : Int32)  : CT E tt yX12_filled cX12_filled 2 (some .int) 1 0 0 [.ref (B (100)), .int (o0)] (wl E X B F G P) (fun r w => r = some (.int (sp_filled F no o0)) ∧ w = wl E X B F G P) := by
  refine CT.mk (by decide +kernel) (Nat.le_of_ble_eq_true rfl) ?_
  intro l p e s m below meth c A ls C hr hlk hnm hw hl
  have hx := C.1
  have hb := C.2.1
  have hts := C.2.2.2.2
  have hown : s.vm.findClass RX12 = some m.cls := C.2.2.2.1
  have hl : lv_has ls 2 [(0, .ref (B (100))), (1, .int (o0))] := hl
  have ho6 := hO.2
  refine lv_iload_n hx hb dX12_filled_0 rfl (lv_at hl 1 rfl) ?_
  refine lv_iconst (v := 0) hx hb dX12_filled_1 (by decide) ?_
  refine lv_aload_n hx hb dX12_filled_2 rfl (lv_at hl 0 rfl) ?_
  refine g_i 21 C hw (hM.m rfl) rfl fl_X12_246 rfl dX12_filled_3 ?_
  refine tp_i (y := nI no) (hO.1) ?_
  refine lv_iconst (v := 1) hx hb dX12_filled_6 (by decide) ?_
  refine lv_isub hx hb dX12_filled_7 ?_
  refine kS C hw (c_X12_within E tt _ (o0) (0) ((nI no - 1))) vy_X12_within ml_X12_123 rfl hl.1 (rest := []) rfl dX12_filled_8 (Nat.le_of_ble_eq_true rfl) ⟨by decide, by decide⟩ ⟨Nat.le_of_ble_eq_true rfl, Nat.le_of_ble_eq_true rfl⟩ (fun v_8 ws_8 H locs hp_8 hq_8 => ?_)
  clear hw
  rcases hp_8 with ⟨h_8, rfl, rfl⟩ | ⟨h_8, rfl, rfl⟩
  · have hw := hq_8
    refine W.eq (g2 := F0 m 11 ls [.int (1)]) rfl ?_
    refine lv_if_ne (tgt := 19) hx hb dX12_filled_11 (by decide) (fun _ => ?_) (fun h9 => False.elim (by revert h9; decide))
    have h_0 : 0 ≤ o0 ∧ o0 < nI no := ⟨h_8.1, (le_pred (by omega) _).mp h_8.2⟩
    obtain ⟨i0, hi0, rfl⟩ := n_lt h_0.1 h_0.2 (by omega)
    have hz0 := i4_cl (i := i0) (by omega)
    refine lv_aload_n hx hb dX12_filled_19 rfl (lv_at hl 0 rfl) ?_
    refine g_r 26 (k2 := 127) C hw (hM.m rfl) rfl fl_X12_84 rfl (hM.p 26 rfl) dX12_filled_20 ?_
    refine lv_iload_n hx hb dX12_filled_23 rfl (lv_at hl 1 rfl) ?_
    refine n_z i0 C hw (hM.m rfl) rfl rfl (show _ < 6 by omega) dX12_filled_24 ?_
    refine lv_if_eq (tgt := 32) hx hb dX12_filled_25 (by decide) (fun c_25 => ?_) (fun c_25 => ?_)
    · refine lv_iconst (v := 0) hx hb dX12_filled_32 (by decide) ?_
      exact r_i C hr hlk hw ⟨(by simp [sp_filled, h_0, hz0, c_25]), rfl⟩ dX12_filled_33
    · refine lv_iconst (v := 1) hx hb dX12_filled_28 (by decide) ?_
      refine lv_goto (tgt := 33) hx hb dX12_filled_29 (by decide) ?_
      exact r_i C hr hlk hw ⟨(by simp [sp_filled, h_0, hz0, c_25]), rfl⟩ dX12_filled_33
  · have hw := hq_8
    refine W.eq (g2 := F0 m 11 ls [.int (0)]) rfl ?_
    refine lv_if_ne (tgt := 19) hx hb dX12_filled_11 (by decide) (fun h9 => False.elim (by revert h9; decide)) (fun _ => ?_)
    have h_0 : ¬ (0 ≤ o0 ∧ o0 < nI no) := fun h9 => h_8 ⟨h9.1, (le_pred (by omega) _).mpr h9.2⟩
    refine lv_bipush (v := -2) hx hb dX12_filled_14 (by decide) ?_
    refine lv_goto (tgt := 33) hx hb dX12_filled_16 (by decide) ?_
    exact r_i C hr hlk hw ⟨(by simp [sp_filled, h_0]), rfl⟩ dX12_filled_33

set_option maxHeartbeats 4000000 in
set_option maxRecDepth 100000 in
theorem c_X12_note (E : cE) (tt : Nat × Nat × Nat) {X : List Nat} (B : Nat → Nat) (F : tF) (G : tG) {P : tP} (hM : RM X P) (nn : Nat) (hNn : NN F nn) (b0 k0 : Int32) (hk0 : vp_nar .boolean k0 = k0)  : CT E tt yX12_note cX12_note 3 (some .int) 1 0 0 [.ref (B (100)), .int (b0), .int (k0)] (wl E X B F G P) (fun r w => r = some (.int (sp_note nn b0)) ∧ w = wl E X B (st_note F nn b0 k0) G P) := by
  refine CT.mk (by decide +kernel) (Nat.le_of_ble_eq_true rfl) ?_
  intro l p e s m below meth c A ls C hr hlk hnm hw hl
  have hx := C.1
  have hb := C.2.1
  have hts := C.2.2.2.2
  have hown : s.vm.findClass RX12 = some m.cls := C.2.2.2.1
  have hl : lv_has ls 3 [(0, .ref (B (100))), (1, .int (b0)), (2, .int (k0))] := hl
  have hn60 := hNn.2
  refine lv_iload_n hx hb dX12_note_0 rfl (lv_at hl 1 rfl) ?_
  refine lv_iconst (v := 0) hx hb dX12_note_1 (by decide) ?_
  refine lv_bipush (v := 7) hx hb dX12_note_2 (by decide) ?_
  refine kS C hw (c_X12_within E tt _ (b0) (0) (7)) vy_X12_within ml_X12_123 rfl hl.1 (rest := []) rfl dX12_note_4 (Nat.le_of_ble_eq_true rfl) ⟨by decide, by decide⟩ ⟨Nat.le_of_ble_eq_true rfl, Nat.le_of_ble_eq_true rfl⟩ (fun v_4 ws_4 H locs hp_4 hq_4 => ?_)
  clear hw
  rcases hp_4 with ⟨h_4, rfl, rfl⟩ | ⟨h_4, rfl, rfl⟩
  · have hw := hq_4
    refine W.eq (g2 := F0 m 7 ls [.int (1)]) rfl ?_
    refine lv_if_ne (tgt := 13) hx hb dX12_note_7 (by decide) (fun _ => ?_) (fun h9 => False.elim (by revert h9; decide))
    refine lv_aload_n hx hb dX12_note_13 rfl (lv_at hl 0 rfl) ?_
    refine g_i 27 C hw (hM.m rfl) rfl fl_X12_264 rfl dX12_note_14 ?_
    refine tp_i (y := nI nn) (hNn.1) ?_
    refine lv_bipush (v := 60) hx hb dX12_note_17 (by decide) ?_
    refine lv_icmp_ne (tgt := 25) hx hb dX12_note_19 (by decide) (fun c_19 => ?_) (fun c_19 => ?_)
    · have hn3 : nn ≠ 60 := fun h9 => c_19 (by rw [h9]; rfl)
      refine lv_aload_n hx hb dX12_note_25 rfl (lv_at hl 0 rfl) ?_
      refine g_r 28 (k2 := 129) C hw (hM.m rfl) rfl fl_X12_87 rfl (hM.p 28 rfl) dX12_note_26 ?_
      refine lv_aload_n hx hb dX12_note_29 rfl (lv_at hl 0 rfl) ?_
      refine g_i 27 C hw (hM.m rfl) rfl fl_X12_264 rfl dX12_note_30 ?_
      refine tp_i (y := nI nn) (hNn.1) ?_
      refine lv_iload_n hx hb dX12_note_33 rfl (lv_at hl 1 rfl) ?_
      refine t_i nn C hw (hM.m rfl) rfl rfl (show _ < 60 by omega) dX12_note_34 (fun H locs hw => ?_)
      refine lv_aload_n hx hb dX12_note_35 rfl (lv_at hl 0 rfl) ?_
      refine g_r 29 (k2 := 130) C hw (hM.m rfl) rfl fl_X12_90 rfl (hM.p 29 rfl) dX12_note_36 ?_
      refine lv_aload_n hx hb dX12_note_39 rfl (lv_at hl 0 rfl) ?_
      refine g_i 27 C hw (hM.m rfl) rfl fl_X12_264 rfl dX12_note_40 ?_
      refine tp_i (y := F 100 27) ((uF_n _ _ (Or.inl (by decide))).trans (rfl)) ?_
      refine tp_i (y := nI nn) (hNn.1) ?_
      refine lv_iload_n hx hb dX12_note_43 rfl (lv_at hl 2 rfl) ?_
      refine t_z nn C hw (hM.m rfl) rfl rfl (show _ < 60 by omega) hk0 dX12_note_44 (fun H locs hw => ?_)
      refine lv_aload_n hx hb dX12_note_45 rfl (lv_at hl 0 rfl) ?_
      refine lv_dup hx hb dX12_note_46 rfl ?_
      refine g_i 27 C hw (hM.m rfl) rfl fl_X12_264 rfl dX12_note_47 ?_
      refine tp_i (y := F 100 27) ((uF_n _ _ (Or.inl (by decide))).trans ((uF_n _ _ (Or.inl (by decide))).trans (rfl))) ?_
      refine tp_i (y := nI nn) (hNn.1) ?_
      refine lv_iconst (v := 1) hx hb dX12_note_50 (by decide) ?_
      refine lv_iadd hx hb dX12_note_51 ?_
      refine tp_i (y := nI (nn + 1)) (nI_1 _) ?_
      refine p_i 27 C hw (hM.m rfl) rfl fl_X12_264 fc_12 fn_12_27 (fun h9 => by cases h9) rfl rfl rfl dX12_note_52 (fun H locs hw => ?_)
      refine lv_aload_n hx hb dX12_note_55 rfl (lv_at hl 0 rfl) ?_
      refine g_i 27 C hw (hM.m rfl) rfl fl_X12_264 rfl dX12_note_56 ?_
      refine tp_i (y := nI (nn + 1)) (uF_s _ _ _ _) ?_
      exact r_i C hr hlk hw ⟨(by simp [sp_note, st_note, ok_note, hn3, h_4, c_19]), (by simp [sp_note, st_note, ok_note, hn3, h_4, c_19])⟩ dX12_note_59
    · have hn3 : nn = 60 := (nI_eq (by omega) (by decide)).mp c_19
      refine lv_bipush (v := -8) hx hb dX12_note_22 (by decide) ?_
      exact r_i C hr hlk hw ⟨(by simp [sp_note, st_note, ok_note, hn3, h_4, c_19]), (by simp [sp_note, st_note, ok_note, hn3, h_4, c_19])⟩ dX12_note_24
  · have hw := hq_4
    refine W.eq (g2 := F0 m 7 ls [.int (0)]) rfl ?_
    refine lv_if_ne (tgt := 13) hx hb dX12_note_7 (by decide) (fun h9 => False.elim (by revert h9; decide)) (fun _ => ?_)
    refine lv_bipush (v := -3) hx hb dX12_note_10 (by decide) ?_
    exact r_i C hr hlk hw ⟨(by simp [sp_note, st_note, ok_note, h_4]), (by simp [sp_note, st_note, ok_note, h_4])⟩ dX12_note_12

set_option maxHeartbeats 4000000 in
set_option maxRecDepth 100000 in
theorem c_X12_account (E : cE) (tt : Nat × Nat × Nat) {X : List Nat} (B : Nat → Nat) (F : tF) (G : tG) {P : tP} (hM : RM X P) (nc : Nat) (mt : Nat → Nat) (hC : CO F nc mt) (w0 : Int32)  : CT E tt yX12_account cX12_account 5 (some .long) 0 0 0 [.ref (B (100)), .int (w0)] (wl E X B F G P) (fun r w => r = some (.long (sp_account G nc w0)) ∧ w = wl E X B F G P) := by
  refine CT.mk (by decide +kernel) (Nat.le_of_ble_eq_true rfl) ?_
  intro l p e s m below meth c A ls C hr hlk hnm hw hl
  have hx := C.1
  have hb := C.2.1
  have hts := C.2.2.2.2
  have hown : s.vm.findClass RX12 = some m.cls := C.2.2.2.1
  have hl : lv_has ls 5 [(0, .ref (B (100))), (1, .int (w0))] := hl
  have hc16 := hC.2.1
  refine lv_lconst (v := 0) hx hb dX12_account_0 (by decide) ?_
  refine lv_lstore_n (lv' := [(2, .long (0)), (0, .ref (B (100))), (1, .int (w0))]) hx hb dX12_account_1 rfl hl (by decide) rfl (fun ls hl => ?_)
  refine lv_iconst (v := 0) hx hb dX12_account_2 (by decide) ?_
  refine lv_istore (lv' := [(4, .int (0)), (2, .long (0)), (0, .ref (B (100))), (1, .int (w0))]) hx hb dX12_account_3 hl (by decide) rfl (fun ls hl => ?_)
  have lo_a : ∀ (n i : Nat)  (H : Heap) (locs : List Loc) (ls : Array Slot), i ≤ nc → nc < i + n → Wd E tt A s (wl E X B F G P) H locs → lv_has ls 5 [(0, .ref (B (100))), (1, .int (w0)), (2, .long (sumG (G 118) i)), (4, .int (nI i))] → W p l e (rmO 0 0 0) s m ([.ref (B (100)), .int (w0)] : List Value).toArray below meth c H locs 0 0 (MQ below (Fin0 E (fun r w => r = some (.long (sp_account G nc w0)) ∧ w = wl E X B F G P) A) ([.ref (B (100)), .int (w0)] : List Value).toArray s 0 0 A) (F0 m 5 ls []) := by
    intro n
    induction n with
    | zero =>
      intro i  H locs ls hi_1 hi_2
      exact absurd hi_2 (by omega)
    | succ n ih_a =>
      intro i  H locs ls hi_a hj_a  hw hl
      refine lv_iload hx hb dX12_account_5 (lv_at hl 3 rfl) ?_
      refine lv_aload_n hx hb dX12_account_7 rfl (lv_at hl 0 rfl) ?_
      refine g_i 13 C hw (hM.m rfl) rfl fl_X12_127 rfl dX12_account_8 ?_
      refine tp_i (y := nI nc) (hC.1) ?_
      refine lv_icmp_ge (tgt := 30) hx hb dX12_account_11 (by decide) (fun c_11 => ?_) (fun c_11 => ?_)
      · have he_11 : i = nc := lp_eq (by omega) (by omega) c_11
        subst he_11
        refine lv_iload_n hx hb dX12_account_30 rfl (lv_at hl 1 rfl) ?_
        refine lv_if_ne (tgt := 41) hx hb dX12_account_31 (by decide) (fun c_31 => ?_) (fun c_31 => ?_)
        · refine lv_iload_n hx hb dX12_account_41 rfl (lv_at hl 1 rfl) ?_
          refine lv_iconst (v := 1) hx hb dX12_account_42 (by decide) ?_
          refine lv_icmp_ne (tgt := 50) hx hb dX12_account_43 (by decide) (fun c_43 => ?_) (fun c_43 => ?_)
          · refine lv_iload_n hx hb dX12_account_50 rfl (lv_at hl 1 rfl) ?_
            refine lv_iconst (v := 2) hx hb dX12_account_51 (by decide) ?_
            refine lv_icmp_ne (tgt := 62) hx hb dX12_account_52 (by decide) (fun c_52 => ?_) (fun c_52 => ?_)
            · refine lv_iload_n hx hb dX12_account_62 rfl (lv_at hl 1 rfl) ?_
              refine lv_iconst (v := 3) hx hb dX12_account_63 (by decide) ?_
              refine lv_icmp_ne (tgt := 74) hx hb dX12_account_64 (by decide) (fun c_64 => ?_) (fun c_64 => ?_)
              · refine lv_iload_n hx hb dX12_account_74 rfl (lv_at hl 1 rfl) ?_
                refine lv_iconst (v := 4) hx hb dX12_account_75 (by decide) ?_
                refine lv_icmp_ne (tgt := 86) hx hb dX12_account_76 (by decide) (fun c_76 => ?_) (fun c_76 => ?_)
                · refine lv_ldc2 (v := -3) hx hb hown (hts _ kc_X12_289) dX12_account_86 ?_
                  exact r_l C hr hlk hw ⟨(by simp [sp_account, c_31, c_43, c_52, c_64, c_76]), rfl⟩ dX12_account_89
                · refine lv_aload_n hx hb dX12_account_79 rfl (lv_at hl 0 rfl) ?_
                  refine g_l 33 C hw (hM.m rfl) rfl fl_X12_215 rfl dX12_account_80 ?_
                  refine lv_goto (tgt := 89) hx hb dX12_account_83 (by decide) ?_
                  exact r_l C hr hlk hw ⟨(by simp [sp_account, c_31, c_43, c_52, c_64, c_76]), rfl⟩ dX12_account_89
              · refine lv_aload_n hx hb dX12_account_67 rfl (lv_at hl 0 rfl) ?_
                refine g_l 32 C hw (hM.m rfl) rfl fl_X12_170 rfl dX12_account_68 ?_
                refine lv_goto (tgt := 89) hx hb dX12_account_71 (by decide) ?_
                exact r_l C hr hlk hw ⟨(by simp [sp_account, c_31, c_43, c_52, c_64]), rfl⟩ dX12_account_89
            · refine lv_aload_n hx hb dX12_account_55 rfl (lv_at hl 0 rfl) ?_
              refine g_l 31 C hw (hM.m rfl) rfl fl_X12_261 rfl dX12_account_56 ?_
              refine lv_goto (tgt := 89) hx hb dX12_account_59 (by decide) ?_
              exact r_l C hr hlk hw ⟨(by simp [sp_account, c_31, c_43, c_52]), rfl⟩ dX12_account_89
          · refine lv_lload_n hx hb dX12_account_46 rfl (lv_at hl 2 rfl) ?_
            refine lv_goto (tgt := 89) hx hb dX12_account_47 (by decide) ?_
            exact r_l C hr hlk hw ⟨(by simp [sp_account, c_31, c_43]), rfl⟩ dX12_account_89
        · refine lv_aload_n hx hb dX12_account_34 rfl (lv_at hl 0 rfl) ?_
          refine g_l 30 C hw (hM.m rfl) rfl fl_X12_159 rfl dX12_account_35 ?_
          refine lv_goto (tgt := 89) hx hb dX12_account_38 (by decide) ?_
          exact r_l C hr hlk hw ⟨(by simp [sp_account, c_31]), rfl⟩ dX12_account_89
      · have hl_11 : i < nc := lp_lt (by omega) (by omega) c_11
        refine lv_lload_n hx hb dX12_account_14 rfl (lv_at hl 2 rfl) ?_
        refine lv_aload_n hx hb dX12_account_15 rfl (lv_at hl 0 rfl) ?_
        refine g_r 17 (k2 := 118) C hw (hM.m rfl) rfl fl_X12_58 rfl (hM.p 17 rfl) dX12_account_16 ?_
        refine lv_iload hx hb dX12_account_19 (lv_at hl 3 rfl) ?_
        refine n_l i C hw (hM.m rfl) rfl rfl (show _ < 16 by omega) dX12_account_21 ?_
        refine lv_ladd hx hb dX12_account_22 ?_
        refine lv_lstore_n (lv' := [(2, .long ((sumG (G 118) i + G 118 i))), (0, .ref (B (100))), (1, .int (w0)), (4, .int (nI i))]) hx hb dX12_account_23 rfl hl (by decide) rfl (fun ls hl => ?_)
        refine lv_iinc (v := nI (i + 1)) (lv' := [(4, .int (nI (i + 1))), (2, .long ((sumG (G 118) i + G 118 i))), (0, .ref (B (100))), (1, .int (w0))]) hx hb dX12_account_24 hl (k := 3) rfl (nI_1 _) (by decide) rfl (fun ls hl => ?_)
        refine lv_goto (tgt := 5) hx hb dX12_account_27 (by decide) ?_
        exact ih_a (i + 1)  _ _ _ (by omega) (by omega)  hw (lv_sub hl [2, 3, 1, 0] rfl)
  exact lo_a (nc + 1) 0  _ _ _ (by omega) (by omega)  hw (lv_sub hl [2, 3, 1, 0] rfl)

set_option maxHeartbeats 4000000 in
set_option maxRecDepth 100000 in
theorem c_X12_count (E : cE) (tt : Nat × Nat × Nat) {X : List Nat} (B : Nat → Nat) (F : tF) (G : tG) {P : tP} (hM : RM X P) (nc : Nat) (mt : Nat → Nat) (hC : CO F nc mt) (no : Nat) (hO : ON F no) (nn : Nat) (hNn : NN F nn) (w0 : Int32)  : CT E tt yX12_count cX12_count 4 (some .int) 0 0 0 [.ref (B (100)), .int (w0)] (wl E X B F G P) (fun r w => r = some (.int (sp_count F G nc no nn w0)) ∧ w = wl E X B F G P) := by
  refine CT.mk (by decide +kernel) (Nat.le_of_ble_eq_true rfl) ?_
  intro l p e s m below meth c A ls C hr hlk hnm hw hl
  have hx := C.1
  have hb := C.2.1
  have hts := C.2.2.2.2
  have hown : s.vm.findClass RX12 = some m.cls := C.2.2.2.1
  have hl : lv_has ls 4 [(0, .ref (B (100))), (1, .int (w0))] := hl
  have hc16 := hC.2.1
  have ho6 := hO.2
  refine lv_iconst (v := 0) hx hb dX12_count_0 (by decide) ?_
  refine lv_istore_n (lv' := [(2, .int (0)), (0, .ref (B (100))), (1, .int (w0))]) hx hb dX12_count_1 rfl hl (by decide) rfl (fun ls hl => ?_)
  refine lv_iload_n hx hb dX12_count_2 rfl (lv_at hl 2 rfl) ?_
  rcases sw_7 w0 with h_sw | h_sw | h_sw | h_sw | h_sw | h_sw | h_sw | h_sw
  · refine lv_tableIn (tgt := 44) hx hb dX12_count_3 (by rw [h_sw]; decide) (by rw [h_sw]; decide) (by rw [h_sw]; rfl) (by decide) ?_
    refine lv_aload_n hx hb dX12_count_44 rfl (lv_at hl 1 rfl) ?_
    refine g_i 13 C hw (hM.m rfl) rfl fl_X12_127 rfl dX12_count_45 ?_
    refine tp_i (y := nI nc) (hC.1) ?_
    exact r_i C hr hlk hw ⟨(by simp [sp_count, h_sw]), rfl⟩ dX12_count_48
  · refine lv_tableIn (tgt := 49) hx hb dX12_count_3 (by rw [h_sw]; decide) (by rw [h_sw]; decide) (by rw [h_sw]; rfl) (by decide) ?_
    refine lv_iconst (v := 0) hx hb dX12_count_49 (by decide) ?_
    refine lv_istore_n (lv' := [(3, .int (0)), (2, .int (0)), (0, .ref (B (100))), (1, .int (w0))]) hx hb dX12_count_50 rfl hl (by decide) rfl (fun ls hl => ?_)
    have lo_a : ∀ (n i : Nat)  (H : Heap) (locs : List Loc) (ls : Array Slot), i ≤ nc → nc < i + n → Wd E tt A s (wl E X B F G P) H locs → lv_has ls 4 [(0, .ref (B (100))), (1, .int (w0)), (2, .int (cntL (G 118) i)), (3, .int (nI i))] → W p l e (rmO 0 0 0) s m ([.ref (B (100)), .int (w0)] : List Value).toArray below meth c H locs 0 0 (MQ below (Fin0 E (fun r w => r = some (.int (sp_count F G nc no nn w0)) ∧ w = wl E X B F G P) A) ([.ref (B (100)), .int (w0)] : List Value).toArray s 0 0 A) (F0 m 51 ls []) := by
      intro n
      induction n with
      | zero =>
        intro i  H locs ls hi_1 hi_2
        exact absurd hi_2 (by omega)
      | succ n ih_a =>
        intro i  H locs ls hi_a hj_a  hw hl
        refine lv_iload_n hx hb dX12_count_51 rfl (lv_at hl 3 rfl) ?_
        refine lv_aload_n hx hb dX12_count_52 rfl (lv_at hl 0 rfl) ?_
        refine g_i 13 C hw (hM.m rfl) rfl fl_X12_127 rfl dX12_count_53 ?_
        refine tp_i (y := nI nc) (hC.1) ?_
        refine lv_icmp_ge (tgt := 84) hx hb dX12_count_56 (by decide) (fun c_56 => ?_) (fun c_56 => ?_)
        · have he_56 : i = nc := lp_eq (by omega) (by omega) c_56
          subst he_56
          refine lv_iload_n hx hb dX12_count_84 rfl (lv_at hl 2 rfl) ?_
          exact r_i C hr hlk hw ⟨(by simp [sp_count, h_sw]), rfl⟩ dX12_count_85
        · have hl_56 : i < nc := lp_lt (by omega) (by omega) c_56
          refine lv_iload_n hx hb dX12_count_59 rfl (lv_at hl 2 rfl) ?_
          refine lv_aload_n hx hb dX12_count_60 rfl (lv_at hl 0 rfl) ?_
          refine g_r 17 (k2 := 118) C hw (hM.m rfl) rfl fl_X12_58 rfl (hM.p 17 rfl) dX12_count_61 ?_
          refine lv_iload_n hx hb dX12_count_64 rfl (lv_at hl 3 rfl) ?_
          refine n_l i C hw (hM.m rfl) rfl rfl (show _ < 16 by omega) dX12_count_65 ?_
          refine lv_lconst (v := 0) hx hb dX12_count_66 (by decide) ?_
          refine W.lcmp hx hb dX12_count_67 ?_
          refine lv_if_le (tgt := 75) hx hb dX12_count_68 (by decide) (fun c_68 => ?_) (fun c_68 => ?_)
          · rw [lg_le, ← Int64.not_lt] at c_68
            refine lv_iconst (v := 0) hx hb dX12_count_75 (by decide) ?_
            refine lv_iadd hx hb dX12_count_76 ?_
            refine tp_i (y := cntL (G 118) (i + 1)) (by simp only [cntL]; simp [c_68]) ?_
            refine lv_istore_n (lv' := [(2, .int (cntL (G 118) (i + 1))), (0, .ref (B (100))), (1, .int (w0)), (3, .int (nI i))]) hx hb dX12_count_77 rfl hl (by decide) rfl (fun ls hl => ?_)
            refine lv_iinc (v := nI (i + 1)) (lv' := [(3, .int (nI (i + 1))), (2, .int (cntL (G 118) (i + 1))), (0, .ref (B (100))), (1, .int (w0))]) hx hb dX12_count_78 hl (k := 3) rfl (nI_1 _) (by decide) rfl (fun ls hl => ?_)
            refine lv_goto (tgt := 51) hx hb dX12_count_81 (by decide) ?_
            exact ih_a (i + 1)  _ _ _ (by omega) (by omega)  hw (lv_sub hl [2, 3, 1, 0] rfl)
          · rw [lg_no] at c_68
            refine lv_iconst (v := 1) hx hb dX12_count_71 (by decide) ?_
            refine lv_goto (tgt := 76) hx hb dX12_count_72 (by decide) ?_
            refine lv_iadd hx hb dX12_count_76 ?_
            refine tp_i (y := cntL (G 118) (i + 1)) (by simp only [cntL]; simp [c_68]) ?_
            refine lv_istore_n (lv' := [(2, .int (cntL (G 118) (i + 1))), (0, .ref (B (100))), (1, .int (w0)), (3, .int (nI i))]) hx hb dX12_count_77 rfl hl (by decide) rfl (fun ls hl => ?_)
            refine lv_iinc (v := nI (i + 1)) (lv' := [(3, .int (nI (i + 1))), (2, .int (cntL (G 118) (i + 1))), (0, .ref (B (100))), (1, .int (w0))]) hx hb dX12_count_78 hl (k := 3) rfl (nI_1 _) (by decide) rfl (fun ls hl => ?_)
            refine lv_goto (tgt := 51) hx hb dX12_count_81 (by decide) ?_
            exact ih_a (i + 1)  _ _ _ (by omega) (by omega)  hw (lv_sub hl [2, 3, 1, 0] rfl)
    exact lo_a (nc + 1) 0  _ _ _ (by omega) (by omega)  hw (lv_sub hl [2, 3, 1, 0] rfl)
  · refine lv_tableIn (tgt := 86) hx hb dX12_count_3 (by rw [h_sw]; decide) (by rw [h_sw]; decide) (by rw [h_sw]; rfl) (by decide) ?_
    refine lv_aload_n hx hb dX12_count_86 rfl (lv_at hl 1 rfl) ?_
    refine g_i 21 C hw (hM.m rfl) rfl fl_X12_246 rfl dX12_count_87 ?_
    refine tp_i (y := nI no) (hO.1) ?_
    exact r_i C hr hlk hw ⟨(by simp [sp_count, h_sw]), rfl⟩ dX12_count_90
  · refine lv_tableIn (tgt := 91) hx hb dX12_count_3 (by rw [h_sw]; decide) (by rw [h_sw]; decide) (by rw [h_sw]; rfl) (by decide) ?_
    refine lv_iconst (v := 0) hx hb dX12_count_91 (by decide) ?_
    refine lv_istore_n (lv' := [(3, .int (0)), (2, .int (0)), (0, .ref (B (100))), (1, .int (w0))]) hx hb dX12_count_92 rfl hl (by decide) rfl (fun ls hl => ?_)
    have lo_b : ∀ (n i : Nat)  (H : Heap) (locs : List Loc) (ls : Array Slot), i ≤ no → no < i + n → Wd E tt A s (wl E X B F G P) H locs → lv_has ls 4 [(0, .ref (B (100))), (1, .int (w0)), (2, .int (cntF (F 127) i)), (3, .int (nI i))] → W p l e (rmO 0 0 0) s m ([.ref (B (100)), .int (w0)] : List Value).toArray below meth c H locs 0 0 (MQ below (Fin0 E (fun r w => r = some (.int (sp_count F G nc no nn w0)) ∧ w = wl E X B F G P) A) ([.ref (B (100)), .int (w0)] : List Value).toArray s 0 0 A) (F0 m 93 ls []) := by
      intro n
      induction n with
      | zero =>
        intro i  H locs ls hi_1 hi_2
        exact absurd hi_2 (by omega)
      | succ n ih_b =>
        intro i  H locs ls hi_b hj_b  hw hl
        refine lv_iload_n hx hb dX12_count_93 rfl (lv_at hl 3 rfl) ?_
        refine lv_aload_n hx hb dX12_count_94 rfl (lv_at hl 0 rfl) ?_
        refine g_i 21 C hw (hM.m rfl) rfl fl_X12_246 rfl dX12_count_95 ?_
        refine tp_i (y := nI no) (hO.1) ?_
        refine lv_icmp_ge (tgt := 124) hx hb dX12_count_98 (by decide) (fun c_98 => ?_) (fun c_98 => ?_)
        · have he_98 : i = no := lp_eq (by omega) (by omega) c_98
          subst he_98
          refine lv_iload_n hx hb dX12_count_124 rfl (lv_at hl 2 rfl) ?_
          exact r_i C hr hlk hw ⟨(by simp [sp_count, h_sw]), rfl⟩ dX12_count_125
        · have hl_98 : i < no := lp_lt (by omega) (by omega) c_98
          refine lv_iload_n hx hb dX12_count_101 rfl (lv_at hl 2 rfl) ?_
          refine lv_aload_n hx hb dX12_count_102 rfl (lv_at hl 0 rfl) ?_
          refine g_r 26 (k2 := 127) C hw (hM.m rfl) rfl fl_X12_84 rfl (hM.p 26 rfl) dX12_count_103 ?_
          refine lv_iload_n hx hb dX12_count_106 rfl (lv_at hl 3 rfl) ?_
          refine n_z i C hw (hM.m rfl) rfl rfl (show _ < 6 by omega) dX12_count_107 ?_
          refine lv_if_eq (tgt := 115) hx hb dX12_count_108 (by decide) (fun c_108 => ?_) (fun c_108 => ?_)
          · refine lv_iconst (v := 0) hx hb dX12_count_115 (by decide) ?_
            refine lv_iadd hx hb dX12_count_116 ?_
            refine tp_i (y := cntF (F 127) (i + 1)) (by simp only [cntF]; simp [c_108]) ?_
            refine lv_istore_n (lv' := [(2, .int (cntF (F 127) (i + 1))), (0, .ref (B (100))), (1, .int (w0)), (3, .int (nI i))]) hx hb dX12_count_117 rfl hl (by decide) rfl (fun ls hl => ?_)
            refine lv_iinc (v := nI (i + 1)) (lv' := [(3, .int (nI (i + 1))), (2, .int (cntF (F 127) (i + 1))), (0, .ref (B (100))), (1, .int (w0))]) hx hb dX12_count_118 hl (k := 3) rfl (nI_1 _) (by decide) rfl (fun ls hl => ?_)
            refine lv_goto (tgt := 93) hx hb dX12_count_121 (by decide) ?_
            exact ih_b (i + 1)  _ _ _ (by omega) (by omega)  hw (lv_sub hl [2, 3, 1, 0] rfl)
          · refine lv_iconst (v := 1) hx hb dX12_count_111 (by decide) ?_
            refine lv_goto (tgt := 116) hx hb dX12_count_112 (by decide) ?_
            refine lv_iadd hx hb dX12_count_116 ?_
            refine tp_i (y := cntF (F 127) (i + 1)) (by simp only [cntF]; simp [c_108]) ?_
            refine lv_istore_n (lv' := [(2, .int (cntF (F 127) (i + 1))), (0, .ref (B (100))), (1, .int (w0)), (3, .int (nI i))]) hx hb dX12_count_117 rfl hl (by decide) rfl (fun ls hl => ?_)
            refine lv_iinc (v := nI (i + 1)) (lv' := [(3, .int (nI (i + 1))), (2, .int (cntF (F 127) (i + 1))), (0, .ref (B (100))), (1, .int (w0))]) hx hb dX12_count_118 hl (k := 3) rfl (nI_1 _) (by decide) rfl (fun ls hl => ?_)
            refine lv_goto (tgt := 93) hx hb dX12_count_121 (by decide) ?_
            exact ih_b (i + 1)  _ _ _ (by omega) (by omega)  hw (lv_sub hl [2, 3, 1, 0] rfl)
    exact lo_b (no + 1) 0  _ _ _ (by omega) (by omega)  hw (lv_sub hl [2, 3, 1, 0] rfl)
  · refine lv_tableIn (tgt := 126) hx hb dX12_count_3 (by rw [h_sw]; decide) (by rw [h_sw]; decide) (by rw [h_sw]; rfl) (by decide) ?_
    refine lv_aload_n hx hb dX12_count_126 rfl (lv_at hl 1 rfl) ?_
    refine g_i 27 C hw (hM.m rfl) rfl fl_X12_264 rfl dX12_count_127 ?_
    refine tp_i (y := nI nn) (hNn.1) ?_
    exact r_i C hr hlk hw ⟨(by simp [sp_count, h_sw]), rfl⟩ dX12_count_130
  · refine lv_tableIn (tgt := 131) hx hb dX12_count_3 (by rw [h_sw]; decide) (by rw [h_sw]; decide) (by rw [h_sw]; rfl) (by decide) ?_
    refine lv_aload_n hx hb dX12_count_131 rfl (lv_at hl 1 rfl) ?_
    refine g_i 34 C hw (hM.m rfl) rfl fl_X12_212 rfl dX12_count_132 ?_
    exact r_i C hr hlk hw ⟨(by simp [sp_count, h_sw]), rfl⟩ dX12_count_135
  · refine lv_tableIn (tgt := 136) hx hb dX12_count_3 (by rw [h_sw]; decide) (by rw [h_sw]; decide) (by rw [h_sw]; rfl) (by decide) ?_
    refine lv_aload_n hx hb dX12_count_136 rfl (lv_at hl 1 rfl) ?_
    refine g_i 35 C hw (hM.m rfl) rfl fl_X12_218 rfl dX12_count_137 ?_
    exact r_i C hr hlk hw ⟨(by simp [sp_count, h_sw]), rfl⟩ dX12_count_140
  · refine lv_tableOut (tgt := 141) hx hb dX12_count_3 h_sw (by decide) ?_
    refine lv_bipush (v := -3) hx hb dX12_count_141 (by decide) ?_
    exact r_i C hr hlk hw ⟨(by simp [sp_count, sw_no h_sw (y := 0) (by decide) (by decide), sw_no h_sw (y := 1) (by decide) (by decide), sw_no h_sw (y := 2) (by decide) (by decide), sw_no h_sw (y := 3) (by decide) (by decide), sw_no h_sw (y := 4) (by decide) (by decide), sw_no h_sw (y := 5) (by decide) (by decide), sw_no h_sw (y := 6) (by decide) (by decide)]), rfl⟩ dX12_count_143

set_option maxHeartbeats 4000000 in
set_option maxRecDepth 100000 in
theorem c_X12_tallyOf (E : cE) (tt : Nat × Nat × Nat) {X : List Nat} (B : Nat → Nat) (F : tF) (G : tG) {P : tP} (hM : RM X P) (nn : Nat) (hNn : NN F nn) (ca : Int32) {wh : Nat} (hw4 : wh < 4)  : CT E tt yX12_tallyOf cX12_tallyOf 6 (some .int) 0 0 0 [.ref (B (100)), .int (ca), .int (nI wh)] (wl E X B F G P) (fun r w => r = some (.int (nI (tlN F ca wh nn))) ∧ w = wl E X B F G P) := by
  refine CT.mk (by decide +kernel) (Nat.le_of_ble_eq_true rfl) ?_
  intro l p e s m below meth c A ls C hr hlk hnm hw hl
  have hx := C.1
  have hb := C.2.1
  have hts := C.2.2.2.2
  have hown : s.vm.findClass RX12 = some m.cls := C.2.2.2.1
  have hl : lv_has ls 6 [(0, .ref (B (100))), (1, .int (ca)), (2, .int (nI wh))] := hl
  have hn60 := hNn.2
  refine lv_iconst (v := 0) hx hb dX12_tallyOf_0 (by decide) ?_
  refine lv_istore_n (lv' := [(3, .int (0)), (0, .ref (B (100))), (1, .int (ca)), (2, .int (nI wh))]) hx hb dX12_tallyOf_1 rfl hl (by decide) rfl (fun ls hl => ?_)
  refine lv_iconst (v := 0) hx hb dX12_tallyOf_2 (by decide) ?_
  refine lv_istore (lv' := [(4, .int (0)), (3, .int (0)), (0, .ref (B (100))), (1, .int (ca)), (2, .int (nI wh))]) hx hb dX12_tallyOf_3 hl (by decide) rfl (fun ls hl => ?_)
  have lo_a : ∀ (n k : Nat)  (H : Heap) (locs : List Loc) (ls : Array Slot), k ≤ nn → nn < k + n → Wd E tt A s (wl E X B F G P) H locs → lv_has ls 6 [(0, .ref (B (100))), (1, .int (ca)), (2, .int (nI wh)), (3, .int (nI (tlN F ca wh k))), (4, .int (nI k))] → W p l e (rmO 0 0 0) s m ([.ref (B (100)), .int (ca), .int (nI wh)] : List Value).toArray below meth c H locs 0 0 (MQ below (Fin0 E (fun r w => r = some (.int (nI (tlN F ca wh nn))) ∧ w = wl E X B F G P) A) ([.ref (B (100)), .int (ca), .int (nI wh)] : List Value).toArray s 0 0 A) (F0 m 5 ls []) := by
    intro n
    induction n with
    | zero =>
      intro k  H locs ls hi_1 hi_2
      exact absurd hi_2 (by omega)
    | succ n ih_a =>
      intro k  H locs ls hi_a hj_a  hw hl
      refine lv_iload hx hb dX12_tallyOf_5 (lv_at hl 4 rfl) ?_
      refine lv_aload_n hx hb dX12_tallyOf_7 rfl (lv_at hl 0 rfl) ?_
      refine g_i 27 C hw (hM.m rfl) rfl fl_X12_264 rfl dX12_tallyOf_8 ?_
      refine tp_i (y := nI nn) (hNn.1) ?_
      refine lv_icmp_ge (tgt := 80) hx hb dX12_tallyOf_11 (by decide) (fun c_11 => ?_) (fun c_11 => ?_)
      · have he_11 : k = nn := lp_eq (by omega) (by omega) c_11
        subst he_11
        refine lv_iload_n hx hb dX12_tallyOf_80 rfl (lv_at hl 3 rfl) ?_
        exact r_i C hr hlk hw ⟨rfl, rfl⟩ dX12_tallyOf_81
      · have hl_11 : k < nn := lp_lt (by omega) (by omega) c_11
        refine lv_aload_n hx hb dX12_tallyOf_14 rfl (lv_at hl 0 rfl) ?_
        refine g_r 28 (k2 := 129) C hw (hM.m rfl) rfl fl_X12_87 rfl (hM.p 28 rfl) dX12_tallyOf_15 ?_
        refine lv_iload hx hb dX12_tallyOf_18 (lv_at hl 4 rfl) ?_
        refine n_i k C hw (hM.m rfl) rfl rfl (show _ < 60 by omega) dX12_tallyOf_20 ?_
        refine lv_iload_n hx hb dX12_tallyOf_21 rfl (lv_at hl 1 rfl) ?_
        refine lv_ishr hx hb dX12_tallyOf_22 ?_
        refine lv_iconst (v := 1) hx hb dX12_tallyOf_23 (by decide) ?_
        refine lv_iand hx hb dX12_tallyOf_24 ?_
        refine lv_iconst (v := 1) hx hb dX12_tallyOf_25 (by decide) ?_
        refine lv_icmp_ne (tgt := 33) hx hb dX12_tallyOf_26 (by decide) (fun c_26 => ?_) (fun c_26 => ?_)
        · refine lv_iconst (v := 0) hx hb dX12_tallyOf_33 (by decide) ?_
          refine lv_istore (lv' := [(5, .int (0)), (0, .ref (B (100))), (1, .int (ca)), (2, .int (nI wh)), (3, .int (nI (tlN F ca wh k))), (4, .int (nI k))]) hx hb dX12_tallyOf_34 hl (by decide) rfl (fun ls hl => ?_)
          refine lv_iload_n hx hb dX12_tallyOf_36 rfl (lv_at hl 4 rfl) ?_
          refine lv_aload_n hx hb dX12_tallyOf_37 rfl (lv_at hl 1 rfl) ?_
          refine g_r 29 (k2 := 130) C hw (hM.m rfl) rfl fl_X12_90 rfl (hM.p 29 rfl) dX12_tallyOf_38 ?_
          refine lv_iload hx hb dX12_tallyOf_41 (lv_at hl 5 rfl) ?_
          refine n_z k C hw (hM.m rfl) rfl rfl (show _ < 60 by omega) dX12_tallyOf_43 ?_
          refine lv_if_eq (tgt := 51) hx hb dX12_tallyOf_44 (by decide) (fun c_44 => ?_) (fun c_44 => ?_)
          · refine lv_iconst (v := 1) hx hb dX12_tallyOf_51 (by decide) ?_
            refine lv_iload hx hb dX12_tallyOf_52 (lv_at hl 0 rfl) ?_
            refine lv_if_eq (tgt := 61) hx hb dX12_tallyOf_54 (by decide) (fun _ => ?_) (fun h9 => False.elim (by revert h9; decide))
            refine lv_iconst (v := 2) hx hb dX12_tallyOf_61 (by decide) ?_
            refine lv_iadd hx hb dX12_tallyOf_62 ?_
            refine tp_i (y := nI 3) (rfl) ?_
            refine lv_iload_n hx hb dX12_tallyOf_63 rfl (lv_at hl 3 rfl) ?_
            refine lv_icmp_ne (tgt := 71) hx hb dX12_tallyOf_64 (by decide) (fun c_64 => ?_) (fun c_64 => ?_)
            · refine lv_iconst (v := 0) hx hb dX12_tallyOf_71 (by decide) ?_
              refine lv_iadd hx hb dX12_tallyOf_72 ?_
              refine tp_i (y := nI (tlN F ca wh (k + 1))) (tlN_0 (n := 3) (by simp [n_kind, c_26, c_44]) (show ¬ (3 : Nat) = wh from fun h9 => c_64 (by rw [← h9]))) ?_
              refine lv_istore_n (lv' := [(3, .int (nI (tlN F ca wh (k + 1)))), (5, .int (0)), (0, .ref (B (100))), (1, .int (ca)), (2, .int (nI wh)), (4, .int (nI k))]) hx hb dX12_tallyOf_73 rfl hl (by decide) rfl (fun ls hl => ?_)
              refine lv_iinc (v := nI (k + 1)) (lv' := [(4, .int (nI (k + 1))), (3, .int (nI (tlN F ca wh (k + 1)))), (5, .int (0)), (0, .ref (B (100))), (1, .int (ca)), (2, .int (nI wh))]) hx hb dX12_tallyOf_74 hl (k := 5) rfl (nI_1 _) (by decide) rfl (fun ls hl => ?_)
              refine lv_goto (tgt := 5) hx hb dX12_tallyOf_77 (by decide) ?_
              exact ih_a (k + 1)  _ _ _ (by omega) (by omega)  hw (lv_sub hl [3, 4, 5, 1, 0] rfl)
            · refine lv_iconst (v := 1) hx hb dX12_tallyOf_67 (by decide) ?_
              refine lv_goto (tgt := 72) hx hb dX12_tallyOf_68 (by decide) ?_
              refine lv_iadd hx hb dX12_tallyOf_72 ?_
              refine tp_i (y := nI (tlN F ca wh (k + 1))) (tlN_1 (n := 3) (by simp [n_kind, c_26, c_44]) (show (3 : Nat) = wh from (nI_eq (by decide) (by omega)).mp c_64)) ?_
              refine lv_istore_n (lv' := [(3, .int (nI (tlN F ca wh (k + 1)))), (5, .int (0)), (0, .ref (B (100))), (1, .int (ca)), (2, .int (nI wh)), (4, .int (nI k))]) hx hb dX12_tallyOf_73 rfl hl (by decide) rfl (fun ls hl => ?_)
              refine lv_iinc (v := nI (k + 1)) (lv' := [(4, .int (nI (k + 1))), (3, .int (nI (tlN F ca wh (k + 1)))), (5, .int (0)), (0, .ref (B (100))), (1, .int (ca)), (2, .int (nI wh))]) hx hb dX12_tallyOf_74 hl (k := 5) rfl (nI_1 _) (by decide) rfl (fun ls hl => ?_)
              refine lv_goto (tgt := 5) hx hb dX12_tallyOf_77 (by decide) ?_
              exact ih_a (k + 1)  _ _ _ (by omega) (by omega)  hw (lv_sub hl [3, 4, 5, 1, 0] rfl)
          · refine lv_iconst (v := 0) hx hb dX12_tallyOf_47 (by decide) ?_
            refine lv_goto (tgt := 52) hx hb dX12_tallyOf_48 (by decide) ?_
            refine lv_iload hx hb dX12_tallyOf_52 (lv_at hl 0 rfl) ?_
            refine lv_if_eq (tgt := 61) hx hb dX12_tallyOf_54 (by decide) (fun _ => ?_) (fun h9 => False.elim (by revert h9; decide))
            refine lv_iconst (v := 2) hx hb dX12_tallyOf_61 (by decide) ?_
            refine lv_iadd hx hb dX12_tallyOf_62 ?_
            refine tp_i (y := nI 2) (rfl) ?_
            refine lv_iload_n hx hb dX12_tallyOf_63 rfl (lv_at hl 3 rfl) ?_
            refine lv_icmp_ne (tgt := 71) hx hb dX12_tallyOf_64 (by decide) (fun c_64 => ?_) (fun c_64 => ?_)
            · refine lv_iconst (v := 0) hx hb dX12_tallyOf_71 (by decide) ?_
              refine lv_iadd hx hb dX12_tallyOf_72 ?_
              refine tp_i (y := nI (tlN F ca wh (k + 1))) (tlN_0 (n := 2) (by simp [n_kind, c_26, c_44]) (show ¬ (2 : Nat) = wh from fun h9 => c_64 (by rw [← h9]))) ?_
              refine lv_istore_n (lv' := [(3, .int (nI (tlN F ca wh (k + 1)))), (5, .int (0)), (0, .ref (B (100))), (1, .int (ca)), (2, .int (nI wh)), (4, .int (nI k))]) hx hb dX12_tallyOf_73 rfl hl (by decide) rfl (fun ls hl => ?_)
              refine lv_iinc (v := nI (k + 1)) (lv' := [(4, .int (nI (k + 1))), (3, .int (nI (tlN F ca wh (k + 1)))), (5, .int (0)), (0, .ref (B (100))), (1, .int (ca)), (2, .int (nI wh))]) hx hb dX12_tallyOf_74 hl (k := 5) rfl (nI_1 _) (by decide) rfl (fun ls hl => ?_)
              refine lv_goto (tgt := 5) hx hb dX12_tallyOf_77 (by decide) ?_
              exact ih_a (k + 1)  _ _ _ (by omega) (by omega)  hw (lv_sub hl [3, 4, 5, 1, 0] rfl)
            · refine lv_iconst (v := 1) hx hb dX12_tallyOf_67 (by decide) ?_
              refine lv_goto (tgt := 72) hx hb dX12_tallyOf_68 (by decide) ?_
              refine lv_iadd hx hb dX12_tallyOf_72 ?_
              refine tp_i (y := nI (tlN F ca wh (k + 1))) (tlN_1 (n := 2) (by simp [n_kind, c_26, c_44]) (show (2 : Nat) = wh from (nI_eq (by decide) (by omega)).mp c_64)) ?_
              refine lv_istore_n (lv' := [(3, .int (nI (tlN F ca wh (k + 1)))), (5, .int (0)), (0, .ref (B (100))), (1, .int (ca)), (2, .int (nI wh)), (4, .int (nI k))]) hx hb dX12_tallyOf_73 rfl hl (by decide) rfl (fun ls hl => ?_)
              refine lv_iinc (v := nI (k + 1)) (lv' := [(4, .int (nI (k + 1))), (3, .int (nI (tlN F ca wh (k + 1)))), (5, .int (0)), (0, .ref (B (100))), (1, .int (ca)), (2, .int (nI wh))]) hx hb dX12_tallyOf_74 hl (k := 5) rfl (nI_1 _) (by decide) rfl (fun ls hl => ?_)
              refine lv_goto (tgt := 5) hx hb dX12_tallyOf_77 (by decide) ?_
              exact ih_a (k + 1)  _ _ _ (by omega) (by omega)  hw (lv_sub hl [3, 4, 5, 1, 0] rfl)
        · refine lv_iconst (v := 1) hx hb dX12_tallyOf_29 (by decide) ?_
          refine lv_goto (tgt := 34) hx hb dX12_tallyOf_30 (by decide) ?_
          refine lv_istore (lv' := [(5, .int (1)), (0, .ref (B (100))), (1, .int (ca)), (2, .int (nI wh)), (3, .int (nI (tlN F ca wh k))), (4, .int (nI k))]) hx hb dX12_tallyOf_34 hl (by decide) rfl (fun ls hl => ?_)
          refine lv_iload_n hx hb dX12_tallyOf_36 rfl (lv_at hl 4 rfl) ?_
          refine lv_aload_n hx hb dX12_tallyOf_37 rfl (lv_at hl 1 rfl) ?_
          refine g_r 29 (k2 := 130) C hw (hM.m rfl) rfl fl_X12_90 rfl (hM.p 29 rfl) dX12_tallyOf_38 ?_
          refine lv_iload hx hb dX12_tallyOf_41 (lv_at hl 5 rfl) ?_
          refine n_z k C hw (hM.m rfl) rfl rfl (show _ < 60 by omega) dX12_tallyOf_43 ?_
          refine lv_if_eq (tgt := 51) hx hb dX12_tallyOf_44 (by decide) (fun c_44 => ?_) (fun c_44 => ?_)
          · refine lv_iconst (v := 1) hx hb dX12_tallyOf_51 (by decide) ?_
            refine lv_iload hx hb dX12_tallyOf_52 (lv_at hl 0 rfl) ?_
            refine lv_if_eq (tgt := 61) hx hb dX12_tallyOf_54 (by decide) (fun h9 => False.elim (by revert h9; decide)) (fun _ => ?_)
            refine lv_iconst (v := 0) hx hb dX12_tallyOf_57 (by decide) ?_
            refine lv_goto (tgt := 62) hx hb dX12_tallyOf_58 (by decide) ?_
            refine lv_iadd hx hb dX12_tallyOf_62 ?_
            refine tp_i (y := nI 1) (rfl) ?_
            refine lv_iload_n hx hb dX12_tallyOf_63 rfl (lv_at hl 3 rfl) ?_
            refine lv_icmp_ne (tgt := 71) hx hb dX12_tallyOf_64 (by decide) (fun c_64 => ?_) (fun c_64 => ?_)
            · refine lv_iconst (v := 0) hx hb dX12_tallyOf_71 (by decide) ?_
              refine lv_iadd hx hb dX12_tallyOf_72 ?_
              refine tp_i (y := nI (tlN F ca wh (k + 1))) (tlN_0 (n := 1) (by simp [n_kind, c_26, c_44]) (show ¬ (1 : Nat) = wh from fun h9 => c_64 (by rw [← h9]))) ?_
              refine lv_istore_n (lv' := [(3, .int (nI (tlN F ca wh (k + 1)))), (5, .int (1)), (0, .ref (B (100))), (1, .int (ca)), (2, .int (nI wh)), (4, .int (nI k))]) hx hb dX12_tallyOf_73 rfl hl (by decide) rfl (fun ls hl => ?_)
              refine lv_iinc (v := nI (k + 1)) (lv' := [(4, .int (nI (k + 1))), (3, .int (nI (tlN F ca wh (k + 1)))), (5, .int (1)), (0, .ref (B (100))), (1, .int (ca)), (2, .int (nI wh))]) hx hb dX12_tallyOf_74 hl (k := 5) rfl (nI_1 _) (by decide) rfl (fun ls hl => ?_)
              refine lv_goto (tgt := 5) hx hb dX12_tallyOf_77 (by decide) ?_
              exact ih_a (k + 1)  _ _ _ (by omega) (by omega)  hw (lv_sub hl [3, 4, 5, 1, 0] rfl)
            · refine lv_iconst (v := 1) hx hb dX12_tallyOf_67 (by decide) ?_
              refine lv_goto (tgt := 72) hx hb dX12_tallyOf_68 (by decide) ?_
              refine lv_iadd hx hb dX12_tallyOf_72 ?_
              refine tp_i (y := nI (tlN F ca wh (k + 1))) (tlN_1 (n := 1) (by simp [n_kind, c_26, c_44]) (show (1 : Nat) = wh from (nI_eq (by decide) (by omega)).mp c_64)) ?_
              refine lv_istore_n (lv' := [(3, .int (nI (tlN F ca wh (k + 1)))), (5, .int (1)), (0, .ref (B (100))), (1, .int (ca)), (2, .int (nI wh)), (4, .int (nI k))]) hx hb dX12_tallyOf_73 rfl hl (by decide) rfl (fun ls hl => ?_)
              refine lv_iinc (v := nI (k + 1)) (lv' := [(4, .int (nI (k + 1))), (3, .int (nI (tlN F ca wh (k + 1)))), (5, .int (1)), (0, .ref (B (100))), (1, .int (ca)), (2, .int (nI wh))]) hx hb dX12_tallyOf_74 hl (k := 5) rfl (nI_1 _) (by decide) rfl (fun ls hl => ?_)
              refine lv_goto (tgt := 5) hx hb dX12_tallyOf_77 (by decide) ?_
              exact ih_a (k + 1)  _ _ _ (by omega) (by omega)  hw (lv_sub hl [3, 4, 5, 1, 0] rfl)
          · refine lv_iconst (v := 0) hx hb dX12_tallyOf_47 (by decide) ?_
            refine lv_goto (tgt := 52) hx hb dX12_tallyOf_48 (by decide) ?_
            refine lv_iload hx hb dX12_tallyOf_52 (lv_at hl 0 rfl) ?_
            refine lv_if_eq (tgt := 61) hx hb dX12_tallyOf_54 (by decide) (fun h9 => False.elim (by revert h9; decide)) (fun _ => ?_)
            refine lv_iconst (v := 0) hx hb dX12_tallyOf_57 (by decide) ?_
            refine lv_goto (tgt := 62) hx hb dX12_tallyOf_58 (by decide) ?_
            refine lv_iadd hx hb dX12_tallyOf_62 ?_
            refine tp_i (y := nI 0) (rfl) ?_
            refine lv_iload_n hx hb dX12_tallyOf_63 rfl (lv_at hl 3 rfl) ?_
            refine lv_icmp_ne (tgt := 71) hx hb dX12_tallyOf_64 (by decide) (fun c_64 => ?_) (fun c_64 => ?_)
            · refine lv_iconst (v := 0) hx hb dX12_tallyOf_71 (by decide) ?_
              refine lv_iadd hx hb dX12_tallyOf_72 ?_
              refine tp_i (y := nI (tlN F ca wh (k + 1))) (tlN_0 (n := 0) (by simp [n_kind, c_26, c_44]) (show ¬ (0 : Nat) = wh from fun h9 => c_64 (by rw [← h9]))) ?_
              refine lv_istore_n (lv' := [(3, .int (nI (tlN F ca wh (k + 1)))), (5, .int (1)), (0, .ref (B (100))), (1, .int (ca)), (2, .int (nI wh)), (4, .int (nI k))]) hx hb dX12_tallyOf_73 rfl hl (by decide) rfl (fun ls hl => ?_)
              refine lv_iinc (v := nI (k + 1)) (lv' := [(4, .int (nI (k + 1))), (3, .int (nI (tlN F ca wh (k + 1)))), (5, .int (1)), (0, .ref (B (100))), (1, .int (ca)), (2, .int (nI wh))]) hx hb dX12_tallyOf_74 hl (k := 5) rfl (nI_1 _) (by decide) rfl (fun ls hl => ?_)
              refine lv_goto (tgt := 5) hx hb dX12_tallyOf_77 (by decide) ?_
              exact ih_a (k + 1)  _ _ _ (by omega) (by omega)  hw (lv_sub hl [3, 4, 5, 1, 0] rfl)
            · refine lv_iconst (v := 1) hx hb dX12_tallyOf_67 (by decide) ?_
              refine lv_goto (tgt := 72) hx hb dX12_tallyOf_68 (by decide) ?_
              refine lv_iadd hx hb dX12_tallyOf_72 ?_
              refine tp_i (y := nI (tlN F ca wh (k + 1))) (tlN_1 (n := 0) (by simp [n_kind, c_26, c_44]) (show (0 : Nat) = wh from (nI_eq (by decide) (by omega)).mp c_64)) ?_
              refine lv_istore_n (lv' := [(3, .int (nI (tlN F ca wh (k + 1)))), (5, .int (1)), (0, .ref (B (100))), (1, .int (ca)), (2, .int (nI wh)), (4, .int (nI k))]) hx hb dX12_tallyOf_73 rfl hl (by decide) rfl (fun ls hl => ?_)
              refine lv_iinc (v := nI (k + 1)) (lv' := [(4, .int (nI (k + 1))), (3, .int (nI (tlN F ca wh (k + 1)))), (5, .int (1)), (0, .ref (B (100))), (1, .int (ca)), (2, .int (nI wh))]) hx hb dX12_tallyOf_74 hl (k := 5) rfl (nI_1 _) (by decide) rfl (fun ls hl => ?_)
              refine lv_goto (tgt := 5) hx hb dX12_tallyOf_77 (by decide) ?_
              exact ih_a (k + 1)  _ _ _ (by omega) (by omega)  hw (lv_sub hl [3, 4, 5, 1, 0] rfl)
  exact lo_a (nn + 1) 0  _ _ _ (by omega) (by omega)  hw (lv_sub hl [2, 3, 4, 1, 0] rfl)

set_option maxHeartbeats 4000000 in
set_option maxRecDepth 100000 in
theorem c_X12_tally (E : cE) (tt : Nat × Nat × Nat) {X : List Nat} (B : Nat → Nat) (F : tF) (G : tG) {P : tP} (hM : RM X P) (nn : Nat) (hNn : NN F nn) (ca w0 : Int32)  : CT E tt yX12_tally cX12_tally 3 (some .int) 1 0 0 [.ref (B (100)), .int (ca), .int (w0)] (wl E X B F G P) (fun r w => r = some (.int (sp_tally F nn ca w0)) ∧ w = wl E X B F G P) := by
  refine CT.mk (by decide +kernel) (Nat.le_of_ble_eq_true rfl) ?_
  intro l p e s m below meth c A ls C hr hlk hnm hw hl
  have hx := C.1
  have hb := C.2.1
  have hts := C.2.2.2.2
  have hown : s.vm.findClass RX12 = some m.cls := C.2.2.2.1
  have hl : lv_has ls 3 [(0, .ref (B (100))), (1, .int (ca)), (2, .int (w0))] := hl
  refine lv_iload_n hx hb dX12_tally_0 rfl (lv_at hl 1 rfl) ?_
  refine lv_iconst (v := 0) hx hb dX12_tally_1 (by decide) ?_
  refine lv_iconst (v := 2) hx hb dX12_tally_2 (by decide) ?_
  refine kS C hw (c_X12_within E tt _ (ca) (0) (2)) vy_X12_within ml_X12_123 rfl hl.1 (rest := []) rfl dX12_tally_3 (Nat.le_of_ble_eq_true rfl) ⟨by decide, by decide⟩ ⟨Nat.le_of_ble_eq_true rfl, Nat.le_of_ble_eq_true rfl⟩ (fun v_3 ws_3 H locs hp_3 hq_3 => ?_)
  clear hw
  rcases hp_3 with ⟨h_3, rfl, rfl⟩ | ⟨h_3, rfl, rfl⟩
  · have hw := hq_3
    refine W.eq (g2 := F0 m 6 ls [.int (1)]) rfl ?_
    refine lv_if_ne (tgt := 12) hx hb dX12_tally_6 (by decide) (fun _ => ?_) (fun h9 => False.elim (by revert h9; decide))
    refine lv_iload_n hx hb dX12_tally_12 rfl (lv_at hl 2 rfl) ?_
    refine lv_iconst (v := 0) hx hb dX12_tally_13 (by decide) ?_
    refine lv_iconst (v := 3) hx hb dX12_tally_14 (by decide) ?_
    refine kS C hw (c_X12_within E tt _ (w0) (0) (3)) vy_X12_within ml_X12_123 rfl hl.1 (rest := []) rfl dX12_tally_15 (Nat.le_of_ble_eq_true rfl) ⟨by decide, by decide⟩ ⟨Nat.le_of_ble_eq_true rfl, Nat.le_of_ble_eq_true rfl⟩ (fun v_15 ws_15 H locs hp_15 hq_15 => ?_)
    clear hw
    rcases hp_15 with ⟨h_15, rfl, rfl⟩ | ⟨h_15, rfl, rfl⟩
    · have hw := hq_15
      refine W.eq (g2 := F0 m 18 ls [.int (1)]) rfl ?_
      refine lv_if_eq (tgt := 30) hx hb dX12_tally_18 (by decide) (fun h9 => False.elim (by revert h9; decide)) (fun _ => ?_)
      obtain ⟨i0, hi0, rfl⟩ := n_of (n := 3) h_15.1 h_15.2 (by decide)
      have hz0 := i4_cl (i := i0) (by omega)
      refine lv_aload_n hx hb dX12_tally_21 rfl (lv_at hl 0 rfl) ?_
      refine lv_iload_n hx hb dX12_tally_22 rfl (lv_at hl 1 rfl) ?_
      refine lv_iload_n hx hb dX12_tally_23 rfl (lv_at hl 2 rfl) ?_
      refine kV C hw (c_X12_tallyOf E tt B F G hM nn hNn (ca) (wh := i0) (by omega)) vy_X12_tallyOf ml_X12_267 (rcv hw (hM.m rfl) rfl (by decide) (q2 := (RX12, TX12, 49)) rfl) rfl hl.1 (rest := []) rfl dX12_tally_24 (Nat.le_of_ble_eq_true rfl) ⟨by decide, by decide⟩ ⟨Nat.le_of_ble_eq_true rfl, Nat.le_of_ble_eq_true rfl⟩ (fun v_24 ws_24 H locs hp_24 hq_24 => ?_)
      clear hw
      obtain ⟨rfl, rfl⟩ := hp_24
      have hw := hq_24
      refine W.eq (g2 := F0 m 27 ls [.int (nI (tlN F (ca) i0 nn))]) rfl ?_
      refine lv_goto (tgt := 32) hx hb dX12_tally_27 (by decide) ?_
      exact r_i C hr hlk hw ⟨(by simp [sp_tally, h_3, h_15, hz0]), rfl⟩ dX12_tally_32
    · have hw := hq_15
      refine W.eq (g2 := F0 m 18 ls [.int (0)]) rfl ?_
      refine lv_if_eq (tgt := 30) hx hb dX12_tally_18 (by decide) (fun _ => ?_) (fun h9 => False.elim (by revert h9; decide))
      refine lv_bipush (v := -3) hx hb dX12_tally_30 (by decide) ?_
      exact r_i C hr hlk hw ⟨(by simp [sp_tally, h_3, h_15]), rfl⟩ dX12_tally_32
  · have hw := hq_3
    refine W.eq (g2 := F0 m 6 ls [.int (0)]) rfl ?_
    refine lv_if_ne (tgt := 12) hx hb dX12_tally_6 (by decide) (fun h9 => False.elim (by revert h9; decide)) (fun _ => ?_)
    refine lv_bipush (v := -2) hx hb dX12_tally_9 (by decide) ?_
    exact r_i C hr hlk hw ⟨(by simp [sp_tally, h_3]), rfl⟩ dX12_tally_11

set_option maxHeartbeats 4000000 in
set_option maxRecDepth 100000 in
theorem c_X12_aboveOf (E : cE) (tt : Nat × Nat × Nat) {X : List Nat} (B : Nat → Nat) (F : tF) (G : tG) {P : tP} (hM : RM X P) (nn : Nat) (hNn : NN F nn) (ca : Int32)  : CT E tt yX12_aboveOf cX12_aboveOf 4 (some .int) 1 0 0 [.ref (B (100)), .int (ca)] (wl E X B F G P) (fun r w => r = some (.int (w_above F nn ca)) ∧ w = wl E X B F G P) := by
  refine CT.mk (by decide +kernel) (Nat.le_of_ble_eq_true rfl) ?_
  intro l p e s m below meth c A ls C hr hlk hnm hw hl
  have hx := C.1
  have hb := C.2.1
  have hts := C.2.2.2.2
  have hown : s.vm.findClass RX12 = some m.cls := C.2.2.2.1
  have hl : lv_has ls 4 [(0, .ref (B (100))), (1, .int (ca))] := hl
  refine lv_aload_n hx hb dX12_aboveOf_0 rfl (lv_at hl 0 rfl) ?_
  refine lv_iload_n hx hb dX12_aboveOf_1 rfl (lv_at hl 1 rfl) ?_
  refine lv_iconst (v := 0) hx hb dX12_aboveOf_2 (by decide) ?_
  refine kV C hw (c_X12_tallyOf E tt B F G hM nn hNn (ca) (wh := 0) (by omega)) vy_X12_tallyOf ml_X12_267 (rcv hw (hM.m rfl) rfl (by decide) (q2 := (RX12, TX12, 49)) rfl) rfl hl.1 (rest := []) rfl dX12_aboveOf_3 (Nat.le_of_ble_eq_true rfl) ⟨by decide, by decide⟩ ⟨Nat.le_of_ble_eq_true rfl, Nat.le_of_ble_eq_true rfl⟩ (fun v_3 ws_3 H locs hp_3 hq_3 => ?_)
  clear hw
  obtain ⟨rfl, rfl⟩ := hp_3
  have hw := hq_3
  refine W.eq (g2 := F0 m 6 ls [.int (nI (tlN F (ca) 0 nn))]) rfl ?_
  refine lv_aload_n hx hb dX12_aboveOf_6 rfl (lv_at hl 0 rfl) ?_
  refine lv_iload_n hx hb dX12_aboveOf_7 rfl (lv_at hl 1 rfl) ?_
  refine lv_iconst (v := 1) hx hb dX12_aboveOf_8 (by decide) ?_
  refine kV C hw (c_X12_tallyOf E tt B F G hM nn hNn (ca) (wh := 1) (by omega)) vy_X12_tallyOf ml_X12_267 (rcv hw (hM.m rfl) rfl (by decide) (q2 := (RX12, TX12, 49)) rfl) rfl hl.1 (rest := [.int (nI (tlN F (ca) 0 nn))]) rfl dX12_aboveOf_9 (Nat.le_of_ble_eq_true rfl) ⟨by decide, by decide⟩ ⟨Nat.le_of_ble_eq_true rfl, Nat.le_of_ble_eq_true rfl⟩ (fun v_9 ws_9 H locs hp_9 hq_9 => ?_)
  clear hw
  obtain ⟨rfl, rfl⟩ := hp_9
  have hw := hq_9
  refine W.eq (g2 := F0 m 12 ls [.int (nI (tlN F (ca) 1 nn)), .int (nI (tlN F (ca) 0 nn))]) rfl ?_
  refine lv_iadd hx hb dX12_aboveOf_12 ?_
  refine tp_i (y := nI (tlN F ca 0 nn + tlN F ca 1 nn)) (nI_add _ _) ?_
  refine lv_istore_n (lv' := [(2, .int (nI (tlN F ca 0 nn + tlN F ca 1 nn))), (0, .ref (B (100))), (1, .int (ca))]) hx hb dX12_aboveOf_13 rfl hl (by decide) rfl (fun ls hl => ?_)
  refine lv_aload_n hx hb dX12_aboveOf_14 rfl (lv_at hl 1 rfl) ?_
  refine lv_iload_n hx hb dX12_aboveOf_15 rfl (lv_at hl 2 rfl) ?_
  refine lv_iconst (v := 2) hx hb dX12_aboveOf_16 (by decide) ?_
  refine kV C hw (c_X12_tallyOf E tt B F G hM nn hNn (ca) (wh := 2) (by omega)) vy_X12_tallyOf ml_X12_267 (rcv hw (hM.m rfl) rfl (by decide) (q2 := (RX12, TX12, 49)) rfl) rfl hl.1 (rest := []) rfl dX12_aboveOf_17 (Nat.le_of_ble_eq_true rfl) ⟨by decide, by decide⟩ ⟨Nat.le_of_ble_eq_true rfl, Nat.le_of_ble_eq_true rfl⟩ (fun v_17 ws_17 H locs hp_17 hq_17 => ?_)
  clear hw
  obtain ⟨rfl, rfl⟩ := hp_17
  have hw := hq_17
  refine W.eq (g2 := F0 m 20 ls [.int (nI (tlN F (ca) 2 nn))]) rfl ?_
  refine lv_aload_n hx hb dX12_aboveOf_20 rfl (lv_at hl 1 rfl) ?_
  refine lv_iload_n hx hb dX12_aboveOf_21 rfl (lv_at hl 2 rfl) ?_
  refine lv_iconst (v := 3) hx hb dX12_aboveOf_22 (by decide) ?_
  refine kV C hw (c_X12_tallyOf E tt B F G hM nn hNn (ca) (wh := 3) (by omega)) vy_X12_tallyOf ml_X12_267 (rcv hw (hM.m rfl) rfl (by decide) (q2 := (RX12, TX12, 49)) rfl) rfl hl.1 (rest := [.int (nI (tlN F (ca) 2 nn))]) rfl dX12_aboveOf_23 (Nat.le_of_ble_eq_true rfl) ⟨by decide, by decide⟩ ⟨Nat.le_of_ble_eq_true rfl, Nat.le_of_ble_eq_true rfl⟩ (fun v_23 ws_23 H locs hp_23 hq_23 => ?_)
  clear hw
  obtain ⟨rfl, rfl⟩ := hp_23
  have hw := hq_23
  refine W.eq (g2 := F0 m 26 ls [.int (nI (tlN F (ca) 3 nn)), .int (nI (tlN F (ca) 2 nn))]) rfl ?_
  refine lv_iadd hx hb dX12_aboveOf_26 ?_
  refine tp_i (y := nI (tlN F ca 2 nn + tlN F ca 3 nn)) (nI_add _ _) ?_
  refine lv_istore_n (lv' := [(3, .int (nI (tlN F ca 2 nn + tlN F ca 3 nn))), (2, .int (nI (tlN F ca 0 nn + tlN F ca 1 nn))), (0, .ref (B (100))), (1, .int (ca))]) hx hb dX12_aboveOf_27 rfl hl (by decide) rfl (fun ls hl => ?_)
  refine lv_aload_n hx hb dX12_aboveOf_28 rfl (lv_at hl 2 rfl) ?_
  refine lv_iload_n hx hb dX12_aboveOf_29 rfl (lv_at hl 3 rfl) ?_
  refine lv_iconst (v := 0) hx hb dX12_aboveOf_30 (by decide) ?_
  refine kV C hw (c_X12_tallyOf E tt B F G hM nn hNn (ca) (wh := 0) (by omega)) vy_X12_tallyOf ml_X12_267 (rcv hw (hM.m rfl) rfl (by decide) (q2 := (RX12, TX12, 49)) rfl) rfl hl.1 (rest := []) rfl dX12_aboveOf_31 (Nat.le_of_ble_eq_true rfl) ⟨by decide, by decide⟩ ⟨Nat.le_of_ble_eq_true rfl, Nat.le_of_ble_eq_true rfl⟩ (fun v_31 ws_31 H locs hp_31 hq_31 => ?_)
  clear hw
  obtain ⟨rfl, rfl⟩ := hp_31
  have hw := hq_31
  refine W.eq (g2 := F0 m 34 ls [.int (nI (tlN F (ca) 0 nn))]) rfl ?_
  refine lv_iload_n hx hb dX12_aboveOf_34 rfl (lv_at hl 0 rfl) ?_
  refine lv_imul hx hb dX12_aboveOf_35 ?_
  refine lv_aload_n hx hb dX12_aboveOf_36 rfl (lv_at hl 2 rfl) ?_
  refine lv_iload_n hx hb dX12_aboveOf_37 rfl (lv_at hl 3 rfl) ?_
  refine lv_iconst (v := 2) hx hb dX12_aboveOf_38 (by decide) ?_
  refine kV C hw (c_X12_tallyOf E tt B F G hM nn hNn (ca) (wh := 2) (by omega)) vy_X12_tallyOf ml_X12_267 (rcv hw (hM.m rfl) rfl (by decide) (q2 := (RX12, TX12, 49)) rfl) rfl hl.1 (rest := [.int ((nI (tlN F (ca) 0 nn) * nI (tlN F ca 2 nn + tlN F ca 3 nn)))]) rfl dX12_aboveOf_39 (Nat.le_of_ble_eq_true rfl) ⟨by decide, by decide⟩ ⟨Nat.le_of_ble_eq_true rfl, Nat.le_of_ble_eq_true rfl⟩ (fun v_39 ws_39 H locs hp_39 hq_39 => ?_)
  clear hw
  obtain ⟨rfl, rfl⟩ := hp_39
  have hw := hq_39
  refine W.eq (g2 := F0 m 42 ls [.int (nI (tlN F (ca) 2 nn)), .int ((nI (tlN F (ca) 0 nn) * nI (tlN F ca 2 nn + tlN F ca 3 nn)))]) rfl ?_
  refine lv_iload_n hx hb dX12_aboveOf_42 rfl (lv_at hl 1 rfl) ?_
  refine lv_imul hx hb dX12_aboveOf_43 ?_
  refine lv_isub hx hb dX12_aboveOf_44 ?_
  exact r_i C hr hlk hw ⟨rfl, rfl⟩ dX12_aboveOf_45

set_option maxHeartbeats 4000000 in
set_option maxRecDepth 100000 in
theorem c_X12_belowOf (E : cE) (tt : Nat × Nat × Nat) {X : List Nat} (B : Nat → Nat) (F : tF) (G : tG) {P : tP} (hM : RM X P) (nn : Nat) (hNn : NN F nn) (ca : Int32)  : CT E tt yX12_belowOf cX12_belowOf 2 (some .int) 1 0 0 [.ref (B (100)), .int (ca)] (wl E X B F G P) (fun r w => r = some (.int (nI (w_below F nn ca))) ∧ w = wl E X B F G P) := by
  refine CT.mk (by decide +kernel) (Nat.le_of_ble_eq_true rfl) ?_
  intro l p e s m below meth c A ls C hr hlk hnm hw hl
  have hx := C.1
  have hb := C.2.1
  have hts := C.2.2.2.2
  have hown : s.vm.findClass RX12 = some m.cls := C.2.2.2.1
  have hl : lv_has ls 2 [(0, .ref (B (100))), (1, .int (ca))] := hl
  refine lv_aload_n hx hb dX12_belowOf_0 rfl (lv_at hl 0 rfl) ?_
  refine lv_iload_n hx hb dX12_belowOf_1 rfl (lv_at hl 1 rfl) ?_
  refine lv_iconst (v := 0) hx hb dX12_belowOf_2 (by decide) ?_
  refine kV C hw (c_X12_tallyOf E tt B F G hM nn hNn (ca) (wh := 0) (by omega)) vy_X12_tallyOf ml_X12_267 (rcv hw (hM.m rfl) rfl (by decide) (q2 := (RX12, TX12, 49)) rfl) rfl hl.1 (rest := []) rfl dX12_belowOf_3 (Nat.le_of_ble_eq_true rfl) ⟨by decide, by decide⟩ ⟨Nat.le_of_ble_eq_true rfl, Nat.le_of_ble_eq_true rfl⟩ (fun v_3 ws_3 H locs hp_3 hq_3 => ?_)
  clear hw
  obtain ⟨rfl, rfl⟩ := hp_3
  have hw := hq_3
  refine W.eq (g2 := F0 m 6 ls [.int (nI (tlN F (ca) 0 nn))]) rfl ?_
  refine lv_aload_n hx hb dX12_belowOf_6 rfl (lv_at hl 0 rfl) ?_
  refine lv_iload_n hx hb dX12_belowOf_7 rfl (lv_at hl 1 rfl) ?_
  refine lv_iconst (v := 1) hx hb dX12_belowOf_8 (by decide) ?_
  refine kV C hw (c_X12_tallyOf E tt B F G hM nn hNn (ca) (wh := 1) (by omega)) vy_X12_tallyOf ml_X12_267 (rcv hw (hM.m rfl) rfl (by decide) (q2 := (RX12, TX12, 49)) rfl) rfl hl.1 (rest := [.int (nI (tlN F (ca) 0 nn))]) rfl dX12_belowOf_9 (Nat.le_of_ble_eq_true rfl) ⟨by decide, by decide⟩ ⟨Nat.le_of_ble_eq_true rfl, Nat.le_of_ble_eq_true rfl⟩ (fun v_9 ws_9 H locs hp_9 hq_9 => ?_)
  clear hw
  obtain ⟨rfl, rfl⟩ := hp_9
  have hw := hq_9
  refine W.eq (g2 := F0 m 12 ls [.int (nI (tlN F (ca) 1 nn)), .int (nI (tlN F (ca) 0 nn))]) rfl ?_
  refine lv_iadd hx hb dX12_belowOf_12 ?_
  refine tp_i (y := nI (tlN F ca 0 nn + tlN F ca 1 nn)) (nI_add _ _) ?_
  refine lv_aload_n hx hb dX12_belowOf_13 rfl (lv_at hl 0 rfl) ?_
  refine lv_iload_n hx hb dX12_belowOf_14 rfl (lv_at hl 1 rfl) ?_
  refine lv_iconst (v := 2) hx hb dX12_belowOf_15 (by decide) ?_
  refine kV C hw (c_X12_tallyOf E tt B F G hM nn hNn (ca) (wh := 2) (by omega)) vy_X12_tallyOf ml_X12_267 (rcv hw (hM.m rfl) rfl (by decide) (q2 := (RX12, TX12, 49)) rfl) rfl hl.1 (rest := [.int (nI (tlN F ca 0 nn + tlN F ca 1 nn))]) rfl dX12_belowOf_16 (Nat.le_of_ble_eq_true rfl) ⟨by decide, by decide⟩ ⟨Nat.le_of_ble_eq_true rfl, Nat.le_of_ble_eq_true rfl⟩ (fun v_16 ws_16 H locs hp_16 hq_16 => ?_)
  clear hw
  obtain ⟨rfl, rfl⟩ := hp_16
  have hw := hq_16
  refine W.eq (g2 := F0 m 19 ls [.int (nI (tlN F (ca) 2 nn)), .int (nI (tlN F ca 0 nn + tlN F ca 1 nn))]) rfl ?_
  refine lv_aload_n hx hb dX12_belowOf_19 rfl (lv_at hl 0 rfl) ?_
  refine lv_iload_n hx hb dX12_belowOf_20 rfl (lv_at hl 1 rfl) ?_
  refine lv_iconst (v := 3) hx hb dX12_belowOf_21 (by decide) ?_
  refine kV C hw (c_X12_tallyOf E tt B F G hM nn hNn (ca) (wh := 3) (by omega)) vy_X12_tallyOf ml_X12_267 (rcv hw (hM.m rfl) rfl (by decide) (q2 := (RX12, TX12, 49)) rfl) rfl hl.1 (rest := [.int (nI (tlN F (ca) 2 nn)), .int (nI (tlN F ca 0 nn + tlN F ca 1 nn))]) rfl dX12_belowOf_22 (Nat.le_of_ble_eq_true rfl) ⟨by decide, by decide⟩ ⟨Nat.le_of_ble_eq_true rfl, Nat.le_of_ble_eq_true rfl⟩ (fun v_22 ws_22 H locs hp_22 hq_22 => ?_)
  clear hw
  obtain ⟨rfl, rfl⟩ := hp_22
  have hw := hq_22
  refine W.eq (g2 := F0 m 25 ls [.int (nI (tlN F (ca) 3 nn)), .int (nI (tlN F (ca) 2 nn)), .int (nI (tlN F ca 0 nn + tlN F ca 1 nn))]) rfl ?_
  refine lv_iadd hx hb dX12_belowOf_25 ?_
  refine tp_i (y := nI (tlN F ca 2 nn + tlN F ca 3 nn)) (nI_add _ _) ?_
  refine lv_imul hx hb dX12_belowOf_26 ?_
  refine tp_i (y := nI (w_below F nn ca)) (pk_mul _ _) ?_
  exact r_i C hr hlk hw ⟨rfl, rfl⟩ dX12_belowOf_27
