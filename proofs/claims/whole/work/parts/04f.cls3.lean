set_option maxHeartbeats 4000000 in
set_option maxRecDepth 100000 in
theorem c_X10_admits (E : cE) (tt : Nat × Nat × Nat) {X : List Nat} (B : Nat → Nat) (F : tF) (G : tG) {P : tP} {nh : Nat → Nat} {nc no : Nat} {mt om : Nat → Nat} (hR : RC X P nh nc no mt om) (w0 v0 : Int32)  : CT E tt yX10_admits cX10_admits 3 (some .boolean) 1 0 0 [.ref (B (1)), .int (w0), .int (v0)] (wl E X B F G P) (fun r w => ((ok_setb w0 v0 = true) ∧ r = some (.int 1) ∧ w = (wl E X B F G P)) ∨ (¬ (ok_setb w0 v0 = true) ∧ r = some (.int 0) ∧ w = (wl E X B F G P))) := by
  refine CT.mk (by decide +kernel) (Nat.le_of_ble_eq_true rfl) ?_
  intro l p e s m below meth c A ls C hr hlk hnm hw hl
  have hx := C.1
  have hb := C.2.1
  have hts := C.2.2.2.2
  have hown : s.vm.findClass RX10 = some m.cls := C.2.2.2.1
  have hl : lv_has ls 3 [(0, .ref (B (1))), (1, .int (w0)), (2, .int (v0))] := hl
  refine lv_iload_n hx hb dX10_admits_0 rfl (lv_at hl 1 rfl) ?_
  refine lv_if_lt (tgt := 20) hx hb dX10_admits_1 (by decide) (fun c_1 => ?_) (fun c_1 => ?_)
  · refine lv_iconst (v := 0) hx hb dX10_admits_20 (by decide) ?_
    exact r_z C hr hlk hw rfl (Or.inr ⟨set_no (Or.inl c_1), rfl, rfl⟩) dX10_admits_21
  · refine lv_iload_n hx hb dX10_admits_4 rfl (lv_at hl 1 rfl) ?_
    refine va_gets hx hb hw.2.2.2.2.2.1.1 hw.2.2.2.1 hown (hts _ sl_X10_28) (fun _ h9 => h9) dX10_admits_5 ?_
    refine va_tlen hx hb hw.2.2.2.2.2.1.2.2.2.1 hw.2.2.2.1 (v := 6) rfl dX10_admits_8 ?_
    refine lv_icmp_ge (tgt := 20) hx hb dX10_admits_9 (by decide) (fun c_9 => ?_) (fun c_9 => ?_)
    · refine lv_iconst (v := 0) hx hb dX10_admits_20 (by decide) ?_
      exact r_z C hr hlk hw rfl (Or.inr ⟨set_no (Or.inr c_9), rfl, rfl⟩) dX10_admits_21
    · refine lv_iload_n hx hb dX10_admits_12 rfl (lv_at hl 1 rfl) ?_
      refine va_gets hx hb hw.2.2.2.2.2.1.2.1 hw.2.2.2.1 hown (hts _ sl_X10_32) (fun _ h9 => h9) dX10_admits_13 ?_
      refine va_tlen hx hb hw.2.2.2.2.2.1.2.2.2.2.1 hw.2.2.2.1 (v := 6) rfl dX10_admits_16 ?_
      refine lv_icmp_lt (tgt := 22) hx hb dX10_admits_17 (by decide) (fun c_17 => ?_) (fun c_17 => ?_)
      · obtain ⟨i0, hi0, rfl⟩ := n_lt (n := 6) (Int32.not_lt.mp c_1) (Int32.not_le.mp c_9) (by decide)
        refine lv_iload_n hx hb dX10_admits_22 rfl (lv_at hl 2 rfl) ?_
        refine va_gets hx hb hw.2.2.2.2.2.1.1 hw.2.2.2.1 hown (hts _ sl_X10_28) (fun _ h9 => h9) dX10_admits_23 ?_
        refine lv_iload_n hx hb dX10_admits_26 rfl (lv_at hl 1 rfl) ?_
        refine va_ti (t := tt.1) (N := 6) hx hb hw.2.2.2.2.2.1.2.2.2.1 hw.2.2.2.1 (pk_in i0 6 (by omega) rfl) (v := .int (lstV i0)) (by rw [pk_cl i0 rfl]) dX10_admits_27 ?_
        refine va_gets hx hb hw.2.2.2.2.2.1.2.1 hw.2.2.2.1 hown (hts _ sl_X10_32) (fun _ h9 => h9) dX10_admits_28 ?_
        refine lv_iload_n hx hb dX10_admits_31 rfl (lv_at hl 1 rfl) ?_
        refine va_ti (t := tt.2.1) (N := 6) hx hb hw.2.2.2.2.2.1.2.2.2.2.1 hw.2.2.2.1 (pk_in i0 6 (by omega) rfl) (v := .int (mstV i0)) (by rw [pk_cl i0 rfl]) dX10_admits_32 ?_
        refine kSN C hw (c_X11_isWithin E tt _ (v0) (lstV i0) (mstV i0)) vy_X11_isWithin ml_X10_35 rfl hl.1 (rest := []) rfl dX10_admits_33 (Nat.le_of_ble_eq_true rfl) ⟨by decide, by decide⟩ ⟨Nat.le_of_ble_eq_true rfl, Nat.le_of_ble_eq_true rfl⟩ (fun v_33 ws_33 H locs hp_33 hq_33 => ?_)
        clear hw
        rcases hp_33 with ⟨h_33, rfl, rfl⟩ | ⟨h_33, rfl, rfl⟩
        · have hw := hq_33
          refine W.eq (g2 := F0 m 36 ls [.int (1)]) rfl ?_
          exact r_z C hr hlk hw rfl (Or.inl ⟨(set_y hi0).mpr h_33, rfl, rfl⟩) dX10_admits_36
        · have hw := hq_33
          refine W.eq (g2 := F0 m 36 ls [.int (0)]) rfl ?_
          exact r_z C hr hlk hw rfl (Or.inr ⟨fun h9 => h_33 ((set_y hi0).mp h9), rfl, rfl⟩) dX10_admits_36
      · refine lv_iconst (v := 0) hx hb dX10_admits_20 (by decide) ?_
        exact r_z C hr hlk hw rfl (Or.inr ⟨set_no (Or.inr (Int32.not_lt.mp c_17)), rfl, rfl⟩) dX10_admits_21

set_option maxHeartbeats 4000000 in
set_option maxRecDepth 100000 in
theorem c_X10_value (E : cE) (tt : Nat × Nat × Nat) {X : List Nat} (B : Nat → Nat) (F : tF) (G : tG) {P : tP} {nh : Nat → Nat} {nc no : Nat} {mt om : Nat → Nat} (hR : RC X P nh nc no mt om) {i0 : Nat} (hi0 : i0 < 6)  : CT E tt yX10_value cX10_value 2 (some .int) 0 0 0 [.ref (B (1)), .int (nI i0)] (wl E X B F G P) (fun r w => r = some (.int (F 1 i0)) ∧ w = (wl E X B F G P)) := by
  refine CT.mk (by decide +kernel) (Nat.le_of_ble_eq_true rfl) ?_
  intro l p e s m below meth c A ls C hr hlk hnm hw hl
  have hx := C.1
  have hb := C.2.1
  have hts := C.2.2.2.2
  have hown : s.vm.findClass RX10 = some m.cls := C.2.2.2.1
  have hl : lv_has ls 2 [(0, .ref (B (1))), (1, .int (nI i0))] := hl
  refine lv_iload_n hx hb dX10_value_0 rfl (lv_at hl 1 rfl) ?_
  rcases sw_5 (nI i0) with h_sw | h_sw | h_sw | h_sw | h_sw | h_sw
  · refine lv_tableIn (tgt := 36) hx hb dX10_value_1 (by rw [h_sw]; decide) (by rw [h_sw]; decide) (by rw [h_sw]; rfl) (by decide) ?_
    have e9 : i0 = 0 := (nI_eq (by omega) (by decide)).mp h_sw
    subst e9
    refine lv_aload_n hx hb dX10_value_36 rfl (lv_at hl 0 rfl) ?_
    refine g_i 0 C hw (hR.f rfl) rfl fl_X10_7 rfl dX10_value_37 ?_
    exact r_i C hr hlk hw ⟨rfl, rfl⟩ dX10_value_40
  · refine lv_tableIn (tgt := 41) hx hb dX10_value_1 (by rw [h_sw]; decide) (by rw [h_sw]; decide) (by rw [h_sw]; rfl) (by decide) ?_
    have e9 : i0 = 1 := (nI_eq (by omega) (by decide)).mp h_sw
    subst e9
    refine lv_aload_n hx hb dX10_value_41 rfl (lv_at hl 0 rfl) ?_
    refine g_i 1 C hw (hR.f rfl) rfl fl_X10_13 rfl dX10_value_42 ?_
    exact r_i C hr hlk hw ⟨rfl, rfl⟩ dX10_value_45
  · refine lv_tableIn (tgt := 46) hx hb dX10_value_1 (by rw [h_sw]; decide) (by rw [h_sw]; decide) (by rw [h_sw]; rfl) (by decide) ?_
    have e9 : i0 = 2 := (nI_eq (by omega) (by decide)).mp h_sw
    subst e9
    refine lv_aload_n hx hb dX10_value_46 rfl (lv_at hl 0 rfl) ?_
    refine g_i 2 C hw (hR.f rfl) rfl fl_X10_16 rfl dX10_value_47 ?_
    exact r_i C hr hlk hw ⟨rfl, rfl⟩ dX10_value_50
  · refine lv_tableIn (tgt := 51) hx hb dX10_value_1 (by rw [h_sw]; decide) (by rw [h_sw]; decide) (by rw [h_sw]; rfl) (by decide) ?_
    have e9 : i0 = 3 := (nI_eq (by omega) (by decide)).mp h_sw
    subst e9
    refine lv_aload_n hx hb dX10_value_51 rfl (lv_at hl 0 rfl) ?_
    refine g_i 3 C hw (hR.f rfl) rfl fl_X10_19 rfl dX10_value_52 ?_
    exact r_i C hr hlk hw ⟨rfl, rfl⟩ dX10_value_55
  · refine lv_tableIn (tgt := 56) hx hb dX10_value_1 (by rw [h_sw]; decide) (by rw [h_sw]; decide) (by rw [h_sw]; rfl) (by decide) ?_
    have e9 : i0 = 4 := (nI_eq (by omega) (by decide)).mp h_sw
    subst e9
    refine lv_aload_n hx hb dX10_value_56 rfl (lv_at hl 0 rfl) ?_
    refine g_i 4 C hw (hR.f rfl) rfl fl_X10_22 rfl dX10_value_57 ?_
    exact r_i C hr hlk hw ⟨rfl, rfl⟩ dX10_value_60
  · refine lv_tableOut (tgt := 61) hx hb dX10_value_1 h_sw (by decide) ?_
    have e9 : i0 = 5 := by have := nI_toInt (n := i0) (by omega); omega
    subst e9
    refine lv_aload_n hx hb dX10_value_61 rfl (lv_at hl 0 rfl) ?_
    refine g_i 5 C hw (hR.f rfl) rfl fl_X10_25 rfl dX10_value_62 ?_
    exact r_i C hr hlk hw ⟨rfl, rfl⟩ dX10_value_65

set_option maxHeartbeats 4000000 in
set_option maxRecDepth 100000 in
theorem c_X10_change (E : cE) (tt : Nat × Nat × Nat) {X : List Nat} (B : Nat → Nat) (F : tF) (G : tG) {P : tP} {nh : Nat → Nat} {nc no : Nat} {mt om : Nat → Nat} (hR : RC X P nh nc no mt om) {i0 : Nat} (hi0 : i0 < 6) (v0 : Int32)  : CT E tt yX10_change cX10_change 3 none 0 0 0 [.ref (B (1)), .int (nI i0), .int (v0)] (wl E X B F G P) (fun r w => r = none ∧ w = wl E X B (uF F 1 i0 v0) G P) := by
  refine CT.mk (by decide +kernel) (Nat.le_of_ble_eq_true rfl) ?_
  intro l p e s m below meth c A ls C hr hlk hnm hw hl
  have hx := C.1
  have hb := C.2.1
  have hts := C.2.2.2.2
  have hown : s.vm.findClass RX10 = some m.cls := C.2.2.2.1
  have hl : lv_has ls 3 [(0, .ref (B (1))), (1, .int (nI i0)), (2, .int (v0))] := hl
  refine lv_iload_n hx hb dX10_change_0 rfl (lv_at hl 1 rfl) ?_
  rcases sw_5 (nI i0) with h_sw | h_sw | h_sw | h_sw | h_sw | h_sw
  · refine lv_tableIn (tgt := 36) hx hb dX10_change_1 (by rw [h_sw]; decide) (by rw [h_sw]; decide) (by rw [h_sw]; rfl) (by decide) ?_
    have e9 : i0 = 0 := (nI_eq (by omega) (by decide)).mp h_sw
    subst e9
    refine lv_aload_n hx hb dX10_change_36 rfl (lv_at hl 0 rfl) ?_
    refine lv_iload_n hx hb dX10_change_37 rfl (lv_at hl 2 rfl) ?_
    refine p_i 0 C hw (hR.f rfl) rfl fl_X10_7 fc_10 fn_10_0 (fun h9 => by cases h9) rfl rfl rfl dX10_change_38 (fun H locs hw => ?_)
    refine lv_goto (tgt := 81) hx hb dX10_change_41 (by decide) ?_
    exact r_v C hr hlk hw ⟨rfl, rfl⟩ dX10_change_81
  · refine lv_tableIn (tgt := 44) hx hb dX10_change_1 (by rw [h_sw]; decide) (by rw [h_sw]; decide) (by rw [h_sw]; rfl) (by decide) ?_
    have e9 : i0 = 1 := (nI_eq (by omega) (by decide)).mp h_sw
    subst e9
    refine lv_aload_n hx hb dX10_change_44 rfl (lv_at hl 0 rfl) ?_
    refine lv_iload_n hx hb dX10_change_45 rfl (lv_at hl 2 rfl) ?_
    refine p_i 1 C hw (hR.f rfl) rfl fl_X10_13 fc_10 fn_10_1 (fun h9 => by cases h9) rfl rfl rfl dX10_change_46 (fun H locs hw => ?_)
    refine lv_goto (tgt := 81) hx hb dX10_change_49 (by decide) ?_
    exact r_v C hr hlk hw ⟨rfl, rfl⟩ dX10_change_81
  · refine lv_tableIn (tgt := 52) hx hb dX10_change_1 (by rw [h_sw]; decide) (by rw [h_sw]; decide) (by rw [h_sw]; rfl) (by decide) ?_
    have e9 : i0 = 2 := (nI_eq (by omega) (by decide)).mp h_sw
    subst e9
    refine lv_aload_n hx hb dX10_change_52 rfl (lv_at hl 0 rfl) ?_
    refine lv_iload_n hx hb dX10_change_53 rfl (lv_at hl 2 rfl) ?_
    refine p_i 2 C hw (hR.f rfl) rfl fl_X10_16 fc_10 fn_10_2 (fun h9 => by cases h9) rfl rfl rfl dX10_change_54 (fun H locs hw => ?_)
    refine lv_goto (tgt := 81) hx hb dX10_change_57 (by decide) ?_
    exact r_v C hr hlk hw ⟨rfl, rfl⟩ dX10_change_81
  · refine lv_tableIn (tgt := 60) hx hb dX10_change_1 (by rw [h_sw]; decide) (by rw [h_sw]; decide) (by rw [h_sw]; rfl) (by decide) ?_
    have e9 : i0 = 3 := (nI_eq (by omega) (by decide)).mp h_sw
    subst e9
    refine lv_aload_n hx hb dX10_change_60 rfl (lv_at hl 0 rfl) ?_
    refine lv_iload_n hx hb dX10_change_61 rfl (lv_at hl 2 rfl) ?_
    refine p_i 3 C hw (hR.f rfl) rfl fl_X10_19 fc_10 fn_10_3 (fun h9 => by cases h9) rfl rfl rfl dX10_change_62 (fun H locs hw => ?_)
    refine lv_goto (tgt := 81) hx hb dX10_change_65 (by decide) ?_
    exact r_v C hr hlk hw ⟨rfl, rfl⟩ dX10_change_81
  · refine lv_tableIn (tgt := 68) hx hb dX10_change_1 (by rw [h_sw]; decide) (by rw [h_sw]; decide) (by rw [h_sw]; rfl) (by decide) ?_
    have e9 : i0 = 4 := (nI_eq (by omega) (by decide)).mp h_sw
    subst e9
    refine lv_aload_n hx hb dX10_change_68 rfl (lv_at hl 0 rfl) ?_
    refine lv_iload_n hx hb dX10_change_69 rfl (lv_at hl 2 rfl) ?_
    refine p_i 4 C hw (hR.f rfl) rfl fl_X10_22 fc_10 fn_10_4 (fun h9 => by cases h9) rfl rfl rfl dX10_change_70 (fun H locs hw => ?_)
    refine lv_goto (tgt := 81) hx hb dX10_change_73 (by decide) ?_
    exact r_v C hr hlk hw ⟨rfl, rfl⟩ dX10_change_81
  · refine lv_tableOut (tgt := 76) hx hb dX10_change_1 h_sw (by decide) ?_
    have e9 : i0 = 5 := by have := nI_toInt (n := i0) (by omega); omega
    subst e9
    refine lv_aload_n hx hb dX10_change_76 rfl (lv_at hl 0 rfl) ?_
    refine lv_iload_n hx hb dX10_change_77 rfl (lv_at hl 2 rfl) ?_
    refine p_i 5 C hw (hR.f rfl) rfl fl_X10_25 fc_10 fn_10_5 (fun h9 => by cases h9) rfl rfl rfl dX10_change_78 (fun H locs hw => ?_)
    exact r_v C hr hlk hw ⟨rfl, rfl⟩ dX10_change_81

set_option maxHeartbeats 4000000 in
set_option maxRecDepth 100000 in
theorem c_X11_set (E : cE) (tt : Nat × Nat × Nat) {X : List Nat} (B : Nat → Nat) (F : tF) (G : tG) {P : tP} {nh : Nat → Nat} {nc no : Nat} {mt om : Nat → Nat} (hR : RC X P nh nc no mt om) (w0 v0 : Int32)  : CT E tt yX11_set cX11_set 4 (some .int) 2 0 0 [.ref (B (0)), .int (w0), .int (v0)] (wl E X B F G P) (fun r w => r = some (.int (sp_set (vF F) w0 v0)) ∧ ∃ (F1 : tF) (G1 : tG), KC F F1 ∧ KG G G1 ∧ vF F1 = st_set (vF F) w0 v0 ∧ vG G1 = vG G ∧ w = wl E X B F1 G1 P) := by
  refine CT.mk (by decide +kernel) (Nat.le_of_ble_eq_true rfl) ?_
  intro l p e s m below meth c A ls C hr hlk hnm hw hl
  have hx := C.1
  have hb := C.2.1
  have hts := C.2.2.2.2
  have hown : s.vm.findClass RX11 = some m.cls := C.2.2.2.1
  have hl : lv_has ls 4 [(0, .ref (B (0))), (1, .int (w0)), (2, .int (v0))] := hl
  refine lv_aload_n hx hb dX11_set_0 rfl (lv_at hl 0 rfl) ?_
  refine g_r 0 (k2 := 1) C hw (hR.f rfl) rfl fl_X11_10 rfl (hR.p0 0 (by decide)) dX11_set_1 ?_
  refine lv_iload_n hx hb dX11_set_4 rfl (lv_at hl 1 rfl) ?_
  refine lv_iload_n hx hb dX11_set_5 rfl (lv_at hl 2 rfl) ?_
  refine kV C hw (c_X10_admits E tt B F G hR (w0) (v0)) vy_X10_admits ml_X11_109 (rcv hw (hR.f rfl) rfl (by decide) (q2 := (RX10, TX10, 6)) rfl) rfl hl.1 (rest := []) rfl dX11_set_6 (Nat.le_of_ble_eq_true rfl) ⟨by decide, by decide⟩ ⟨Nat.le_of_ble_eq_true rfl, Nat.le_of_ble_eq_true rfl⟩ (fun v_6 ws_6 H locs hp_6 hq_6 => ?_)
  clear hw
  rcases hp_6 with ⟨h_6, rfl, rfl⟩ | ⟨h_6, rfl, rfl⟩
  · have hw := hq_6
    refine W.eq (g2 := F0 m 9 ls [.int (1)]) rfl ?_
    refine lv_if_ne (tgt := 15) hx hb dX11_set_9 (by decide) (fun _ => ?_) (fun h9 => False.elim (by revert h9; decide))
    obtain ⟨hs1, hs2⟩ := ok_setb_i.mp h_6
    obtain ⟨i0, hi0, rfl⟩ := n_of (n := 5) hs1.1 hs1.2 (by decide)
    have hz0 := i4_cl (i := i0) (by omega)
    have vs0 := vF_at (lc_set (j := i0) (by omega)) F
    refine lv_aload_n hx hb dX11_set_15 rfl (lv_at hl 0 rfl) ?_
    refine g_r 0 (k2 := 1) C hw (hR.f rfl) rfl fl_X11_10 rfl (hR.p0 0 (by decide)) dX11_set_16 ?_
    refine lv_iload_n hx hb dX11_set_19 rfl (lv_at hl 1 rfl) ?_
    refine kV C hw (c_X10_value E tt B F G hR (i0 := i0) (by omega)) vy_X10_value ml_X11_113 (rcv hw (hR.f rfl) rfl (by decide) (q2 := (RX10, TX10, 6)) rfl) rfl hl.1 (rest := []) rfl dX11_set_20 (Nat.le_of_ble_eq_true rfl) ⟨by decide, by decide⟩ ⟨Nat.le_of_ble_eq_true rfl, Nat.le_of_ble_eq_true rfl⟩ (fun v_20 ws_20 H locs hp_20 hq_20 => ?_)
    clear hw
    obtain ⟨rfl, rfl⟩ := hp_20
    have hw := hq_20
    refine W.eq (g2 := F0 m 23 ls [.int (F 1 i0)]) rfl ?_
    refine lv_istore_n (lv' := [(3, .int (F 1 i0)), (0, .ref (B (0))), (1, .int (nI i0)), (2, .int (v0))]) hx hb dX11_set_23 rfl hl (by decide) rfl (fun ls hl => ?_)
    refine lv_aload_n hx hb dX11_set_24 rfl (lv_at hl 1 rfl) ?_
    refine g_r 0 (k2 := 1) C hw (hR.f rfl) rfl fl_X11_10 rfl (hR.p0 0 (by decide)) dX11_set_25 ?_
    refine lv_iload_n hx hb dX11_set_28 rfl (lv_at hl 2 rfl) ?_
    refine lv_iload_n hx hb dX11_set_29 rfl (lv_at hl 3 rfl) ?_
    refine kV C hw (c_X10_change E tt B F G hR (i0 := i0) (by omega) (v0)) vy_X10_change ml_X11_117 (rcv hw (hR.f rfl) rfl (by decide) (q2 := (RX10, TX10, 6)) rfl) rfl hl.1 (rest := []) rfl dX11_set_30 (Nat.le_of_ble_eq_true rfl) ⟨by decide, by decide⟩ ⟨Nat.le_of_ble_eq_true rfl, Nat.le_of_ble_eq_true rfl⟩ (fun v_30 ws_30 H locs hp_30 hq_30 => ?_)
    clear hw
    obtain ⟨rfl, rfl⟩ := hp_30
    have hw := hq_30
    refine W.eq (g2 := F0 m 33 ls []) rfl ?_
    refine lv_iload_n hx hb dX11_set_33 rfl (lv_at hl 0 rfl) ?_
    exact r_i C hr hlk hw ⟨(by rw [sp_set, if_pos hs1, if_pos hs2, hz0, vs0]), uF F 1 i0 v0, G, (KC.u KC.rf (by omega) (by omega) (by omega)), KG.rf, (by rw [vF_up (lc_set (j := i0) (by omega)), st_set, if_pos hs1, if_pos hs2, hz0]), rfl, rfl⟩ dX11_set_34
  · have hw := hq_6
    refine W.eq (g2 := F0 m 9 ls [.int (0)]) rfl ?_
    refine lv_if_ne (tgt := 15) hx hb dX11_set_9 (by decide) (fun h9 => False.elim (by revert h9; decide)) (fun _ => ?_)
    have hs0 : sp_set (vF F) w0 v0 = -3 ∧ st_set (vF F) w0 v0 = vF F := set_bad (vF F) h_6
    refine lv_bipush (v := -3) hx hb dX11_set_12 (by decide) ?_
    exact r_i C hr hlk hw ⟨(by rw [hs0.1]), F, G, KC.rf, KG.rf, hs0.2.symm, rfl, rfl⟩ dX11_set_14

set_option maxHeartbeats 4000000 in
set_option maxRecDepth 100000 in
theorem c_X11_metal (E : cE) (tt : Nat × Nat × Nat) {X : List Nat} (B : Nat → Nat) (F : tF) (G : tG) {P : tP} {nh : Nat → Nat} {nc no : Nat} {mt om : Nat → Nat} (hR : RC X P nh nc no mt om) (m0 b0 g0 l0 a0 s0 : Int32)  : CT E tt yX11_metal cX11_metal 8 (some .int) 1 0 0 [.ref (B (0)), .int (m0), .int (b0), .int (g0), .int (l0), .int (a0), .int (s0)] (wl E X B F G P) (fun r w => r = some (.int (sp_metal m0 b0 g0 l0 a0 s0)) ∧ ∃ (F1 : tF) (G1 : tG), KC F F1 ∧ KG G G1 ∧ vF F1 = st_metal (vF F) m0 b0 g0 l0 a0 s0 ∧ vG G1 = vG G ∧ w = wl E X B F1 G1 P) := by
  refine CT.mk (by decide +kernel) (Nat.le_of_ble_eq_true rfl) ?_
  intro l p e s m below meth c A ls C hr hlk hnm hw hl
  have hx := C.1
  have hb := C.2.1
  have hts := C.2.2.2.2
  have hown : s.vm.findClass RX11 = some m.cls := C.2.2.2.1
  have hl : lv_has ls 8 [(0, .ref (B (0))), (1, .int (m0)), (2, .int (b0)), (3, .int (g0)), (4, .int (l0)), (5, .int (a0)), (6, .int (s0))] := hl
  refine lv_aload_n hx hb dX11_metal_0 rfl (lv_at hl 0 rfl) ?_
  refine lv_iload_n hx hb dX11_metal_1 rfl (lv_at hl 1 rfl) ?_
  refine kV C hw (c_X11_metalAt E tt B F G hR (m0)) vy_X11_metalAt ml_X11_85 (rcv hw (hR.f rfl) rfl (by decide) (q2 := (RX11, TX11, 19)) rfl) rfl hl.1 (rest := []) rfl dX11_metal_2 (Nat.le_of_ble_eq_true rfl) ⟨by decide, by decide⟩ ⟨Nat.le_of_ble_eq_true rfl, Nat.le_of_ble_eq_true rfl⟩ (fun v_2 ws_2 H locs hp_2 hq_2 => ?_)
  clear hw
  rcases hp_2 with ⟨i1, hl_i1, rfl, rfl, rfl⟩ | ⟨h_2, rfl, rfl⟩
  · have hw := hq_2
    refine W.eq (g2 := F0 m 5 ls [.ref (B (3 + i1))]) rfl ?_
    have hz_i1 := i4_cl (i := i1) (by omega)
    refine lv_astore (lv' := [(7, .ref (B (3 + i1))), (0, .ref (B (0))), (1, .int (nI i1)), (2, .int (b0)), (3, .int (g0)), (4, .int (l0)), (5, .int (a0)), (6, .int (s0))]) hx hb dX11_metal_5 hl (by decide) rfl (fun ls hl => ?_)
    refine lv_aload hx hb dX11_metal_7 (lv_at hl 0 rfl) ?_
    refine lv_ifnonnull (tgt := 15) hx hb dX11_metal_9 (by decide) ?_
    have hrg := i_rng (i := i1) (n := 3) (by omega) (by decide)
    rw [show nI 3 = 3 from rfl] at hrg
    refine lv_iload_n hx hb dX11_metal_15 rfl (lv_at hl 3 rfl) ?_
    refine lv_iconst (v := 1) hx hb dX11_metal_16 (by decide) ?_
    refine lv_sipush (v := 200) hx hb dX11_metal_17 (by decide) ?_
    refine kS C hw (c_X11_isWithin E tt _ (b0) (1) (200)) vy_X11_isWithin ml_X11_89 rfl hl.1 (rest := []) rfl dX11_metal_20 (Nat.le_of_ble_eq_true rfl) ⟨by decide, by decide⟩ ⟨Nat.le_of_ble_eq_true rfl, Nat.le_of_ble_eq_true rfl⟩ (fun v_20 ws_20 H locs hp_20 hq_20 => ?_)
    clear hw
    rcases hp_20 with ⟨h_20, rfl, rfl⟩ | ⟨h_20, rfl, rfl⟩
    · have hw := hq_20
      refine W.eq (g2 := F0 m 23 ls [.int (1)]) rfl ?_
      refine lv_if_eq (tgt := 48) hx hb dX11_metal_23 (by decide) (fun h9 => False.elim (by revert h9; decide)) (fun _ => ?_)
      refine lv_iload_n hx hb dX11_metal_26 rfl (lv_at hl 4 rfl) ?_
      refine lv_iconst (v := 0) hx hb dX11_metal_27 (by decide) ?_
      refine lv_sipush (v := 300) hx hb dX11_metal_28 (by decide) ?_
      refine kS C hw (c_X11_isWithin E tt _ (g0) (0) (300)) vy_X11_isWithin ml_X11_89 rfl hl.1 (rest := []) rfl dX11_metal_31 (Nat.le_of_ble_eq_true rfl) ⟨by decide, by decide⟩ ⟨Nat.le_of_ble_eq_true rfl, Nat.le_of_ble_eq_true rfl⟩ (fun v_31 ws_31 H locs hp_31 hq_31 => ?_)
      clear hw
      rcases hp_31 with ⟨h_31, rfl, rfl⟩ | ⟨h_31, rfl, rfl⟩
      · have hw := hq_31
        refine W.eq (g2 := F0 m 34 ls [.int (1)]) rfl ?_
        refine lv_if_eq (tgt := 48) hx hb dX11_metal_34 (by decide) (fun h9 => False.elim (by revert h9; decide)) (fun _ => ?_)
        refine lv_iload hx hb dX11_metal_37 (lv_at hl 5 rfl) ?_
        refine lv_iconst (v := 1) hx hb dX11_metal_39 (by decide) ?_
        refine lv_bipush (v := 100) hx hb dX11_metal_40 (by decide) ?_
        refine kS C hw (c_X11_isWithin E tt _ (l0) (1) (100)) vy_X11_isWithin ml_X11_89 rfl hl.1 (rest := []) rfl dX11_metal_42 (Nat.le_of_ble_eq_true rfl) ⟨by decide, by decide⟩ ⟨Nat.le_of_ble_eq_true rfl, Nat.le_of_ble_eq_true rfl⟩ (fun v_42 ws_42 H locs hp_42 hq_42 => ?_)
        clear hw
        rcases hp_42 with ⟨h_42, rfl, rfl⟩ | ⟨h_42, rfl, rfl⟩
        · have hw := hq_42
          refine W.eq (g2 := F0 m 45 ls [.int (1)]) rfl ?_
          refine lv_if_ne (tgt := 51) hx hb dX11_metal_45 (by decide) (fun _ => ?_) (fun h9 => False.elim (by revert h9; decide))
          refine lv_iload hx hb dX11_metal_51 (lv_at hl 6 rfl) ?_
          refine lv_iconst (v := 0) hx hb dX11_metal_53 (by decide) ?_
          refine lv_bipush (v := 50) hx hb dX11_metal_54 (by decide) ?_
          refine kS C hw (c_X11_isWithin E tt _ (a0) (0) (50)) vy_X11_isWithin ml_X11_89 rfl hl.1 (rest := []) rfl dX11_metal_56 (Nat.le_of_ble_eq_true rfl) ⟨by decide, by decide⟩ ⟨Nat.le_of_ble_eq_true rfl, Nat.le_of_ble_eq_true rfl⟩ (fun v_56 ws_56 H locs hp_56 hq_56 => ?_)
          clear hw
          rcases hp_56 with ⟨h_56, rfl, rfl⟩ | ⟨h_56, rfl, rfl⟩
          · have hw := hq_56
            refine W.eq (g2 := F0 m 59 ls [.int (1)]) rfl ?_
            refine lv_if_eq (tgt := 73) hx hb dX11_metal_59 (by decide) (fun h9 => False.elim (by revert h9; decide)) (fun _ => ?_)
            refine lv_iload hx hb dX11_metal_62 (lv_at hl 7 rfl) ?_
            refine lv_iconst (v := 0) hx hb dX11_metal_64 (by decide) ?_
            refine lv_bipush (v := 50) hx hb dX11_metal_65 (by decide) ?_
            refine kS C hw (c_X11_isWithin E tt _ (s0) (0) (50)) vy_X11_isWithin ml_X11_89 rfl hl.1 (rest := []) rfl dX11_metal_67 (Nat.le_of_ble_eq_true rfl) ⟨by decide, by decide⟩ ⟨Nat.le_of_ble_eq_true rfl, Nat.le_of_ble_eq_true rfl⟩ (fun v_67 ws_67 H locs hp_67 hq_67 => ?_)
            clear hw
            rcases hp_67 with ⟨h_67, rfl, rfl⟩ | ⟨h_67, rfl, rfl⟩
            · have hw := hq_67
              refine W.eq (g2 := F0 m 70 ls [.int (1)]) rfl ?_
              refine lv_if_ne (tgt := 76) hx hb dX11_metal_70 (by decide) (fun _ => ?_) (fun h9 => False.elim (by revert h9; decide))
              refine lv_aload hx hb dX11_metal_76 (lv_at hl 0 rfl) ?_
              refine lv_iload_n hx hb dX11_metal_78 rfl (lv_at hl 3 rfl) ?_
              refine p_i 1 C hw (hR.xm (by omega)) (kd_metal (by omega)) fl_X11_93 fc_4 fn_4_1 (fun h9 => by cases h9) rfl rfl rfl dX11_metal_79 (fun H locs hw => ?_)
              refine lv_aload hx hb dX11_metal_82 (lv_at hl 0 rfl) ?_
              refine lv_iload_n hx hb dX11_metal_84 rfl (lv_at hl 4 rfl) ?_
              refine p_i 2 C hw (hR.xm (by omega)) (kd_metal (by omega)) fl_X11_97 fc_4 fn_4_2 (fun h9 => by cases h9) rfl rfl rfl dX11_metal_85 (fun H locs hw => ?_)
              refine lv_aload hx hb dX11_metal_88 (lv_at hl 0 rfl) ?_
              refine lv_iload hx hb dX11_metal_90 (lv_at hl 5 rfl) ?_
              refine p_i 3 C hw (hR.xm (by omega)) (kd_metal (by omega)) fl_X11_100 fc_4 fn_4_3 (fun h9 => by cases h9) rfl rfl rfl dX11_metal_92 (fun H locs hw => ?_)
              refine lv_aload hx hb dX11_metal_95 (lv_at hl 0 rfl) ?_
              refine lv_iload hx hb dX11_metal_97 (lv_at hl 6 rfl) ?_
              refine p_i 4 C hw (hR.xm (by omega)) (kd_metal (by omega)) fl_X11_103 fc_4 fn_4_4 (fun h9 => by cases h9) rfl rfl rfl dX11_metal_99 (fun H locs hw => ?_)
              refine lv_aload hx hb dX11_metal_102 (lv_at hl 0 rfl) ?_
              refine lv_iload hx hb dX11_metal_104 (lv_at hl 7 rfl) ?_
              refine p_i 5 C hw (hR.xm (by omega)) (kd_metal (by omega)) fl_X11_106 fc_4 fn_4_5 (fun h9 => by cases h9) rfl rfl rfl dX11_metal_106 (fun H locs hw => ?_)
              refine lv_iconst (v := 1) hx hb dX11_metal_109 (by decide) ?_
              exact r_i C hr hlk hw ⟨(by simp [sp_metal, h_20, h_31, h_42, h_56, h_67, hrg, hz_i1]), (uF (uF (uF (uF (uF F (3 + i1) 1 b0) (3 + i1) 2 g0) (3 + i1) 3 l0) (3 + i1) 4 a0) (3 + i1) 5 s0), G, (KC.u (KC.u (KC.u (KC.u (KC.u KC.rf (by omega) (by omega) (by omega)) (by omega) (by omega) (by omega)) (by omega) (by omega) (by omega)) (by omega) (by omega) (by omega)) (by omega) (by omega) (by omega)), KG.rf, (by rw [vF_up (lc_m5 (i := i1) (by omega)), vF_up (lc_m4 (i := i1) (by omega)), vF_up (lc_m3 (i := i1) (by omega)), vF_up (lc_m2 (i := i1) (by omega)), vF_up (lc_m1 (i := i1) (by omega))]; simp [sp_metal, st_metal, h_20, h_31, h_42, h_56, h_67, hrg, hz_i1]), (by rfl), rfl⟩ dX11_metal_110
            · have hw := hq_67
              refine W.eq (g2 := F0 m 70 ls [.int (0)]) rfl ?_
              refine lv_if_ne (tgt := 76) hx hb dX11_metal_70 (by decide) (fun h9 => False.elim (by revert h9; decide)) (fun _ => ?_)
              refine lv_bipush (v := -3) hx hb dX11_metal_73 (by decide) ?_
              exact r_i C hr hlk hw ⟨(by simp [sp_metal, h_20, h_31, h_42, h_56, h_67, hrg]), F, G, KC.rf, KG.rf, (by simp [sp_metal, st_metal, h_20, h_31, h_42, h_56, h_67, hrg]), (by rfl), rfl⟩ dX11_metal_75
          · have hw := hq_56
            refine W.eq (g2 := F0 m 59 ls [.int (0)]) rfl ?_
            refine lv_if_eq (tgt := 73) hx hb dX11_metal_59 (by decide) (fun _ => ?_) (fun h9 => False.elim (by revert h9; decide))
            refine lv_bipush (v := -3) hx hb dX11_metal_73 (by decide) ?_
            exact r_i C hr hlk hw ⟨(by simp [sp_metal, h_20, h_31, h_42, h_56, hrg]), F, G, KC.rf, KG.rf, (by simp [sp_metal, st_metal, h_20, h_31, h_42, h_56, hrg]), (by rfl), rfl⟩ dX11_metal_75
        · have hw := hq_42
          refine W.eq (g2 := F0 m 45 ls [.int (0)]) rfl ?_
          refine lv_if_ne (tgt := 51) hx hb dX11_metal_45 (by decide) (fun h9 => False.elim (by revert h9; decide)) (fun _ => ?_)
          refine lv_bipush (v := -3) hx hb dX11_metal_48 (by decide) ?_
          exact r_i C hr hlk hw ⟨(by simp [sp_metal, h_20, h_31, h_42, hrg]), F, G, KC.rf, KG.rf, (by simp [sp_metal, st_metal, h_20, h_31, h_42, hrg]), (by rfl), rfl⟩ dX11_metal_50
      · have hw := hq_31
        refine W.eq (g2 := F0 m 34 ls [.int (0)]) rfl ?_
        refine lv_if_eq (tgt := 48) hx hb dX11_metal_34 (by decide) (fun _ => ?_) (fun h9 => False.elim (by revert h9; decide))
        refine lv_bipush (v := -3) hx hb dX11_metal_48 (by decide) ?_
        exact r_i C hr hlk hw ⟨(by simp [sp_metal, h_20, h_31, hrg]), F, G, KC.rf, KG.rf, (by simp [sp_metal, st_metal, h_20, h_31, hrg]), (by rfl), rfl⟩ dX11_metal_50
    · have hw := hq_20
      refine W.eq (g2 := F0 m 23 ls [.int (0)]) rfl ?_
      refine lv_if_eq (tgt := 48) hx hb dX11_metal_23 (by decide) (fun _ => ?_) (fun h9 => False.elim (by revert h9; decide))
      refine lv_bipush (v := -3) hx hb dX11_metal_48 (by decide) ?_
      exact r_i C hr hlk hw ⟨(by simp [sp_metal, h_20, hrg]), F, G, KC.rf, KG.rf, (by simp [sp_metal, st_metal, h_20, hrg]), (by rfl), rfl⟩ dX11_metal_50
  · have hw := hq_2
    refine W.eq (g2 := F0 m 5 ls [.null]) rfl ?_
    refine lv_astoreN (lv' := [(7, .null), (0, .ref (B (0))), (1, .int (m0)), (2, .int (b0)), (3, .int (g0)), (4, .int (l0)), (5, .int (a0)), (6, .int (s0))]) hx hb dX11_metal_5 hl (by decide) rfl (fun ls hl => ?_)
    refine lv_aloadN hx hb dX11_metal_7 (lv_at hl 0 rfl) ?_
    refine lv_ifnonnullN hx hb dX11_metal_9 ?_
    have hrg : ¬ (0 ≤ m0 ∧ m0 ≤ 3) := fun h9 => by obtain ⟨i, hi, e⟩ := n_of (n := 3) h9.1 h9.2 (by decide); exact h_2 i (by omega) e
    refine lv_bipush (v := -2) hx hb dX11_metal_12 (by decide) ?_
    exact r_i C hr hlk hw ⟨(by rw [sp_metal, if_neg hrg]), F, G, KC.rf, KG.rf, (by simp [st_metal, sp_metal, hrg]), rfl, rfl⟩ dX11_metal_14

set_option maxHeartbeats 4000000 in
set_option maxRecDepth 100000 in
theorem c_X11_puller (E : cE) (tt : Nat × Nat × Nat) {X : List Nat} (B : Nat → Nat) (F : tF) (G : tG) {P : tP} {nh : Nat → Nat} {nc no : Nat} {mt om : Nat → Nat} (hR : RC X P nh nc no mt om) (m0 f0 v0 : Int32)  : CT E tt yX11_puller cX11_puller 5 (some .int) 1 0 0 [.ref (B (0)), .int (m0), .int (f0), .int (v0)] (wl E X B F G P) (fun r w => r = some (.int (sp_puller m0 f0 v0)) ∧ ∃ (F1 : tF) (G1 : tG), KC F F1 ∧ KG G G1 ∧ vF F1 = st_puller (vF F) m0 f0 v0 ∧ vG G1 = vG G ∧ w = wl E X B F1 G1 P) := by
  refine CT.mk (by decide +kernel) (Nat.le_of_ble_eq_true rfl) ?_
  intro l p e s m below meth c A ls C hr hlk hnm hw hl
  have hx := C.1
  have hb := C.2.1
  have hts := C.2.2.2.2
  have hown : s.vm.findClass RX11 = some m.cls := C.2.2.2.1
  have hl : lv_has ls 5 [(0, .ref (B (0))), (1, .int (m0)), (2, .int (f0)), (3, .int (v0))] := hl
  refine lv_aload_n hx hb dX11_puller_0 rfl (lv_at hl 0 rfl) ?_
  refine lv_iload_n hx hb dX11_puller_1 rfl (lv_at hl 1 rfl) ?_
  refine kV C hw (c_X11_pullerAt E tt B F G hR (m0)) vy_X11_pullerAt ml_X11_121 (rcv hw (hR.f rfl) rfl (by decide) (q2 := (RX11, TX11, 19)) rfl) rfl hl.1 (rest := []) rfl dX11_puller_2 (Nat.le_of_ble_eq_true rfl) ⟨by decide, by decide⟩ ⟨Nat.le_of_ble_eq_true rfl, Nat.le_of_ble_eq_true rfl⟩ (fun v_2 ws_2 H locs hp_2 hq_2 => ?_)
  clear hw
  rcases hp_2 with ⟨i1, hl_i1, rfl, rfl, rfl⟩ | ⟨h_2, rfl, rfl⟩
  · have hw := hq_2
    refine W.eq (g2 := F0 m 5 ls [.ref (B (8 + i1))]) rfl ?_
    have hz_i1 := i4_cl (i := i1) (by omega)
    refine lv_astore (lv' := [(4, .ref (B (8 + i1))), (0, .ref (B (0))), (1, .int (nI i1)), (2, .int (f0)), (3, .int (v0))]) hx hb dX11_puller_5 hl (by decide) rfl (fun ls hl => ?_)
    refine lv_aload hx hb dX11_puller_7 (lv_at hl 0 rfl) ?_
    refine lv_ifnonnull (tgt := 15) hx hb dX11_puller_9 (by decide) ?_
    have hrg := i_rng (i := i1) (n := 2) (by omega) (by decide)
    rw [show nI 2 = 2 from rfl] at hrg
    refine lv_iload_n hx hb dX11_puller_15 rfl (lv_at hl 3 rfl) ?_
    refine lv_iconst (v := 0) hx hb dX11_puller_16 (by decide) ?_
    refine lv_ldc (v := 100000000) hx hb hown (hts _ kc_X11_125) dX11_puller_17 ?_
    refine kS C hw (c_X11_isWithin E tt _ (f0) (0) (100000000)) vy_X11_isWithin ml_X11_89 rfl hl.1 (rest := []) rfl dX11_puller_19 (Nat.le_of_ble_eq_true rfl) ⟨by decide, by decide⟩ ⟨Nat.le_of_ble_eq_true rfl, Nat.le_of_ble_eq_true rfl⟩ (fun v_19 ws_19 H locs hp_19 hq_19 => ?_)
    clear hw
    rcases hp_19 with ⟨h_19, rfl, rfl⟩ | ⟨h_19, rfl, rfl⟩
    · have hw := hq_19
      refine W.eq (g2 := F0 m 22 ls [.int (1)]) rfl ?_
      refine lv_if_eq (tgt := 37) hx hb dX11_puller_22 (by decide) (fun h9 => False.elim (by revert h9; decide)) (fun _ => ?_)
      refine lv_iload_n hx hb dX11_puller_25 rfl (lv_at hl 4 rfl) ?_
      refine lv_bipush (v := 10) hx hb dX11_puller_26 (by decide) ?_
      refine lv_sipush (v := 1000) hx hb dX11_puller_28 (by decide) ?_
      refine kS C hw (c_X11_isWithin E tt _ (v0) (10) (1000)) vy_X11_isWithin ml_X11_89 rfl hl.1 (rest := []) rfl dX11_puller_31 (Nat.le_of_ble_eq_true rfl) ⟨by decide, by decide⟩ ⟨Nat.le_of_ble_eq_true rfl, Nat.le_of_ble_eq_true rfl⟩ (fun v_31 ws_31 H locs hp_31 hq_31 => ?_)
      clear hw
      rcases hp_31 with ⟨h_31, rfl, rfl⟩ | ⟨h_31, rfl, rfl⟩
      · have hw := hq_31
        refine W.eq (g2 := F0 m 34 ls [.int (1)]) rfl ?_
        refine lv_if_ne (tgt := 40) hx hb dX11_puller_34 (by decide) (fun _ => ?_) (fun h9 => False.elim (by revert h9; decide))
        refine lv_aload hx hb dX11_puller_40 (lv_at hl 0 rfl) ?_
        refine lv_iload_n hx hb dX11_puller_42 rfl (lv_at hl 3 rfl) ?_
        refine p_i 1 C hw (hR.xp (by omega)) (kd_puller (by omega)) fl_X11_126 fc_8 fn_8_1 (fun h9 => by cases h9) rfl rfl rfl dX11_puller_43 (fun H locs hw => ?_)
        refine lv_aload hx hb dX11_puller_46 (lv_at hl 0 rfl) ?_
        refine lv_iload_n hx hb dX11_puller_48 rfl (lv_at hl 4 rfl) ?_
        refine p_i 2 C hw (hR.xp (by omega)) (kd_puller (by omega)) fl_X11_129 fc_8 fn_8_2 (fun h9 => by cases h9) rfl rfl rfl dX11_puller_49 (fun H locs hw => ?_)
        refine lv_iconst (v := 1) hx hb dX11_puller_52 (by decide) ?_
        exact r_i C hr hlk hw ⟨(by simp [sp_puller, h_19, h_31, hrg, hz_i1]), (uF (uF F (8 + i1) 1 f0) (8 + i1) 2 v0), G, (KC.u (KC.u KC.rf (by omega) (by omega) (by omega)) (by omega) (by omega) (by omega)), KG.rf, (by rw [vF_up (lc_p2 (i := i1) (by omega)), vF_up (lc_p1 (i := i1) (by omega))]; simp [sp_puller, st_puller, h_19, h_31, hrg, hz_i1]), (by rfl), rfl⟩ dX11_puller_53
      · have hw := hq_31
        refine W.eq (g2 := F0 m 34 ls [.int (0)]) rfl ?_
        refine lv_if_ne (tgt := 40) hx hb dX11_puller_34 (by decide) (fun h9 => False.elim (by revert h9; decide)) (fun _ => ?_)
        refine lv_bipush (v := -3) hx hb dX11_puller_37 (by decide) ?_
        exact r_i C hr hlk hw ⟨(by simp [sp_puller, h_19, h_31, hrg]), F, G, KC.rf, KG.rf, (by simp [sp_puller, st_puller, h_19, h_31, hrg]), (by rfl), rfl⟩ dX11_puller_39
    · have hw := hq_19
      refine W.eq (g2 := F0 m 22 ls [.int (0)]) rfl ?_
      refine lv_if_eq (tgt := 37) hx hb dX11_puller_22 (by decide) (fun _ => ?_) (fun h9 => False.elim (by revert h9; decide))
      refine lv_bipush (v := -3) hx hb dX11_puller_37 (by decide) ?_
      exact r_i C hr hlk hw ⟨(by simp [sp_puller, h_19, hrg]), F, G, KC.rf, KG.rf, (by simp [sp_puller, st_puller, h_19, hrg]), (by rfl), rfl⟩ dX11_puller_39
  · have hw := hq_2
    refine W.eq (g2 := F0 m 5 ls [.null]) rfl ?_
    refine lv_astoreN (lv' := [(4, .null), (0, .ref (B (0))), (1, .int (m0)), (2, .int (f0)), (3, .int (v0))]) hx hb dX11_puller_5 hl (by decide) rfl (fun ls hl => ?_)
    refine lv_aloadN hx hb dX11_puller_7 (lv_at hl 0 rfl) ?_
    refine lv_ifnonnullN hx hb dX11_puller_9 ?_
    have hrg : ¬ (0 ≤ m0 ∧ m0 ≤ 2) := fun h9 => by obtain ⟨i, hi, e⟩ := n_of (n := 2) h9.1 h9.2 (by decide); exact h_2 i (by omega) e
    refine lv_bipush (v := -2) hx hb dX11_puller_12 (by decide) ?_
    exact r_i C hr hlk hw ⟨(by rw [sp_puller, if_neg hrg]), F, G, KC.rf, KG.rf, (by simp [st_puller, sp_puller, hrg]), rfl, rfl⟩ dX11_puller_14

set_option maxHeartbeats 4000000 in
set_option maxRecDepth 100000 in
theorem c_X11_told (E : cE) (tt : Nat × Nat × Nat) {X : List Nat} (B : Nat → Nat) (F : tF) (G : tG) {P : tP} {nh : Nat → Nat} {nc no : Nat} {mt om : Nat → Nat} (hR : RC X P nh nc no mt om) (p0 h0 w0 : Int32)  : CT E tt yX11_told cX11_told 5 (some .int) 2 0 0 [.ref (B (0)), .int (p0), .int (h0), .int (w0)] (wl E X B F G P) (fun r w => r = some (.int (sp_told (vF F) nh p0 h0 w0)) ∧ w = (wl E X B F G P)) := by
  refine CT.mk (by decide +kernel) (Nat.le_of_ble_eq_true rfl) ?_
  intro l p e s m below meth c A ls C hr hlk hnm hw hl
  have hx := C.1
  have hb := C.2.1
  have hts := C.2.2.2.2
  have hown : s.vm.findClass RX11 = some m.cls := C.2.2.2.1
  have hl : lv_has ls 5 [(0, .ref (B (0))), (1, .int (p0)), (2, .int (h0)), (3, .int (w0))] := hl
  refine lv_aload_n hx hb dX11_told_0 rfl (lv_at hl 0 rfl) ?_
  refine lv_iload_n hx hb dX11_told_1 rfl (lv_at hl 1 rfl) ?_
  refine lv_iload_n hx hb dX11_told_2 rfl (lv_at hl 2 rfl) ?_
  refine kV C hw (c_X11_holeAt E tt B F G hR (p0) (h0)) vy_X11_holeAt ml_X11_143 (rcv hw (hR.f rfl) rfl (by decide) (q2 := (RX11, TX11, 19)) rfl) rfl hl.1 (rest := []) rfl dX11_told_3 (Nat.le_of_ble_eq_true rfl) ⟨by decide, by decide⟩ ⟨Nat.le_of_ble_eq_true rfl, Nat.le_of_ble_eq_true rfl⟩ (fun v_3 ws_3 H locs hp_3 hq_3 => ?_)
  clear hw
  rcases hp_3 with ⟨i1, j1, hl_i1, hl_j1, rfl, rfl, rfl, rfl⟩ | ⟨h_3, rfl, rfl⟩
  · have hw := hq_3
    refine W.eq (g2 := F0 m 6 ls [.ref (B (20 + (8 * i1 + j1)))]) rfl ?_
    have h8_i1 := hR.nh8 hl_i1
    have ok_3 := ok_hole_y hl_i1 hl_j1 h8_i1
    have hz_i1 := i4_cl (i := i1) (by omega)
    have hz_j1 := i4_cl (i := j1) (by omega)
    have vh0 := vF_at (lc_h0 (q := 8 * i1 + j1) (by omega)) F
    have vh1 := vF_at (lc_h1 (q := 8 * i1 + j1) (by omega)) F
    have vh2 := vF_at (lc_h2 (q := 8 * i1 + j1) (by omega)) F
    refine lv_astore (lv' := [(4, .ref (B (20 + (8 * i1 + j1)))), (0, .ref (B (0))), (1, .int (nI i1)), (2, .int (nI j1)), (3, .int (w0))]) hx hb dX11_told_6 hl (by decide) rfl (fun ls hl => ?_)
    refine lv_aload hx hb dX11_told_8 (lv_at hl 0 rfl) ?_
    refine lv_ifnonnull (tgt := 16) hx hb dX11_told_10 (by decide) ?_
    refine lv_iload_n hx hb dX11_told_16 rfl (lv_at hl 4 rfl) ?_
    rcases sw_5 w0 with h_sw | h_sw | h_sw | h_sw | h_sw | h_sw
    · refine lv_tableIn (tgt := 52) hx hb dX11_told_17 (by rw [h_sw]; decide) (by rw [h_sw]; decide) (by rw [h_sw]; rfl) (by decide) ?_
      refine lv_aload hx hb dX11_told_52 (lv_at hl 0 rfl) ?_
      refine g_i 0 C hw (hR.xh (by omega) (by omega)) (kd_hole (by omega)) fl_X11_147 rfl dX11_told_54 ?_
      exact r_i C hr hlk hw ⟨(by simp [sp_told, qat, w_wide, ok_3, h_sw, hz_i1, hz_j1, vh0, vh1, vh2]), rfl⟩ dX11_told_57
    · refine lv_tableIn (tgt := 58) hx hb dX11_told_17 (by rw [h_sw]; decide) (by rw [h_sw]; decide) (by rw [h_sw]; rfl) (by decide) ?_
      refine lv_aload hx hb dX11_told_58 (lv_at hl 0 rfl) ?_
      refine g_i 1 C hw (hR.xh (by omega) (by omega)) (kd_hole (by omega)) fl_X11_152 rfl dX11_told_60 ?_
      exact r_i C hr hlk hw ⟨(by simp [sp_told, qat, w_wide, ok_3, h_sw, hz_i1, hz_j1, vh0, vh1, vh2]), rfl⟩ dX11_told_63
    · refine lv_tableIn (tgt := 64) hx hb dX11_told_17 (by rw [h_sw]; decide) (by rw [h_sw]; decide) (by rw [h_sw]; rfl) (by decide) ?_
      refine lv_aload hx hb dX11_told_64 (lv_at hl 0 rfl) ?_
      refine kV C hw (c_X3_wide E tt B F G P (hR.xh (by omega) (by omega)) (kd_hole (by omega)) ) vy_X3_wide ml_X11_155 (rcv hw (hR.xh (by omega) (by omega)) (kd_hole (by omega)) (by decide) (q2 := (RX3, TX3, 3)) rfl) rfl hl.1 (rest := []) rfl dX11_told_66 (Nat.le_of_ble_eq_true rfl) ⟨by decide, by decide⟩ ⟨Nat.le_of_ble_eq_true rfl, Nat.le_of_ble_eq_true rfl⟩ (fun v_66 ws_66 H locs hp_66 hq_66 => ?_)
      clear hw
      obtain ⟨rfl, rfl⟩ := hp_66
      have hw := hq_66
      refine W.eq (g2 := F0 m 69 ls [.int ((F (20 + (8 * i1 + j1)) 0 + F (20 + (8 * i1 + j1)) 1 / 1000))]) rfl ?_
      exact r_i C hr hlk hw ⟨(by simp [sp_told, qat, w_wide, ok_3, h_sw, hz_i1, hz_j1, vh0, vh1, vh2]), rfl⟩ dX11_told_69
    · refine lv_tableIn (tgt := 70) hx hb dX11_told_17 (by rw [h_sw]; decide) (by rw [h_sw]; decide) (by rw [h_sw]; rfl) (by decide) ?_
      refine lv_aload hx hb dX11_told_70 (lv_at hl 0 rfl) ?_
      refine g_i 2 C hw (hR.xh (by omega) (by omega)) (kd_hole (by omega)) fl_X11_159 rfl dX11_told_72 ?_
      exact r_i C hr hlk hw ⟨(by simp [sp_told, qat, w_wide, ok_3, h_sw, hz_i1, hz_j1, vh0, vh1, vh2]), rfl⟩ dX11_told_75
    · refine lv_tableIn (tgt := 76) hx hb dX11_told_17 (by rw [h_sw]; decide) (by rw [h_sw]; decide) (by rw [h_sw]; rfl) (by decide) ?_
      refine lv_aload hx hb dX11_told_76 (lv_at hl 0 rfl) ?_
      refine kV C hw (c_X3_isSpent E tt B F G P (hR.xh (by omega) (by omega)) (kd_hole (by omega)) ) vy_X3_isSpent ml_X11_162 (rcv hw (hR.xh (by omega) (by omega)) (kd_hole (by omega)) (by decide) (q2 := (RX3, TX3, 3)) rfl) rfl hl.1 (rest := []) rfl dX11_told_78 (Nat.le_of_ble_eq_true rfl) ⟨by decide, by decide⟩ ⟨Nat.le_of_ble_eq_true rfl, Nat.le_of_ble_eq_true rfl⟩ (fun v_78 ws_78 H locs hp_78 hq_78 => ?_)
      clear hw
      rcases hp_78 with ⟨h_78, rfl, rfl⟩ | ⟨h_78, rfl, rfl⟩
      · have hw := hq_78
        refine W.eq (g2 := F0 m 81 ls [.int (1)]) rfl ?_
        refine lv_if_eq (tgt := 88) hx hb dX11_told_81 (by decide) (fun h9 => False.elim (by revert h9; decide)) (fun _ => ?_)
        refine lv_iconst (v := 1) hx hb dX11_told_84 (by decide) ?_
        refine lv_goto (tgt := 89) hx hb dX11_told_85 (by decide) ?_
        exact r_i C hr hlk hw ⟨(by simp [sp_told, qat, w_wide, ok_3, h_sw, hz_i1, hz_j1, vh0, vh1, vh2, h_78]), rfl⟩ dX11_told_89
      · have hw := hq_78
        refine W.eq (g2 := F0 m 81 ls [.int (0)]) rfl ?_
        refine lv_if_eq (tgt := 88) hx hb dX11_told_81 (by decide) (fun _ => ?_) (fun h9 => False.elim (by revert h9; decide))
        refine lv_iconst (v := 0) hx hb dX11_told_88 (by decide) ?_
        exact r_i C hr hlk hw ⟨(by simp [sp_told, qat, w_wide, ok_3, h_sw, hz_i1, hz_j1, vh0, vh1, vh2, h_78]), rfl⟩ dX11_told_89
    · refine lv_tableOut (tgt := 90) hx hb dX11_told_17 h_sw (by decide) ?_
      refine lv_bipush (v := -3) hx hb dX11_told_90 (by decide) ?_
      exact r_i C hr hlk hw ⟨(by simp [sp_told, ok_3, sw_no h_sw (y := 0) (by decide) (by decide), sw_no h_sw (y := 1) (by decide) (by decide), sw_no h_sw (y := 2) (by decide) (by decide), sw_no h_sw (y := 3) (by decide) (by decide), sw_no h_sw (y := 4) (by decide) (by decide)]), rfl⟩ dX11_told_92
  · have hw := hq_3
    refine W.eq (g2 := F0 m 6 ls [.null]) rfl ?_
    refine lv_astoreN (lv' := [(4, .null), (0, .ref (B (0))), (1, .int (p0)), (2, .int (h0)), (3, .int (w0))]) hx hb dX11_told_6 hl (by decide) rfl (fun ls hl => ?_)
    refine lv_aloadN hx hb dX11_told_8 (lv_at hl 0 rfl) ?_
    refine lv_ifnonnullN hx hb dX11_told_10 ?_
    refine lv_bipush (v := -2) hx hb dX11_told_13 (by decide) ?_
    exact r_i C hr hlk hw ⟨(by simp [sp_told, h_3]), rfl⟩ dX11_told_15

set_option maxHeartbeats 4000000 in
set_option maxRecDepth 100000 in
theorem c_X11_gauge (E : cE) (tt : Nat × Nat × Nat) {X : List Nat} (B : Nat → Nat) (F : tF) (G : tG) {P : tP} {nh : Nat → Nat} {nc no : Nat} {mt om : Nat → Nat} (hR : RC X P nh nc no mt om) (p0 h0 : Int32)  : CT E tt yX11_gauge cX11_gauge 4 (some .int) 2 0 0 [.ref (B (0)), .int (p0), .int (h0)] (wl E X B F G P) (fun r w => r = some (.int (sp_gauge (vF F) nh p0 h0)) ∧ w = (wl E X B F G P)) := by
  refine CT.mk (by decide +kernel) (Nat.le_of_ble_eq_true rfl) ?_
  intro l p e s m below meth c A ls C hr hlk hnm hw hl
  have hx := C.1
  have hb := C.2.1
  have hts := C.2.2.2.2
  have hown : s.vm.findClass RX11 = some m.cls := C.2.2.2.1
  have hl : lv_has ls 4 [(0, .ref (B (0))), (1, .int (p0)), (2, .int (h0))] := hl
  refine lv_aload_n hx hb dX11_gauge_0 rfl (lv_at hl 0 rfl) ?_
  refine lv_iload_n hx hb dX11_gauge_1 rfl (lv_at hl 1 rfl) ?_
  refine lv_iload_n hx hb dX11_gauge_2 rfl (lv_at hl 2 rfl) ?_
  refine kV C hw (c_X11_holeAt E tt B F G hR (p0) (h0)) vy_X11_holeAt ml_X11_143 (rcv hw (hR.f rfl) rfl (by decide) (q2 := (RX11, TX11, 19)) rfl) rfl hl.1 (rest := []) rfl dX11_gauge_3 (Nat.le_of_ble_eq_true rfl) ⟨by decide, by decide⟩ ⟨Nat.le_of_ble_eq_true rfl, Nat.le_of_ble_eq_true rfl⟩ (fun v_3 ws_3 H locs hp_3 hq_3 => ?_)
  clear hw
  rcases hp_3 with ⟨i1, j1, hl_i1, hl_j1, rfl, rfl, rfl, rfl⟩ | ⟨h_3, rfl, rfl⟩
  · have hw := hq_3
    refine W.eq (g2 := F0 m 6 ls [.ref (B (20 + (8 * i1 + j1)))]) rfl ?_
    have h8_i1 := hR.nh8 hl_i1
    have ok_3 := ok_hole_y hl_i1 hl_j1 h8_i1
    have hz_i1 := i4_cl (i := i1) (by omega)
    have hz_j1 := i4_cl (i := j1) (by omega)
    have vh0 := vF_at (lc_h0 (q := 8 * i1 + j1) (by omega)) F
    have vh1 := vF_at (lc_h1 (q := 8 * i1 + j1) (by omega)) F
    have vh2 := vF_at (lc_h2 (q := 8 * i1 + j1) (by omega)) F
    refine lv_astore_n (lv' := [(3, .ref (B (20 + (8 * i1 + j1)))), (0, .ref (B (0))), (1, .int (nI i1)), (2, .int (nI j1))]) hx hb dX11_gauge_6 rfl hl (by decide) rfl (fun ls hl => ?_)
    refine lv_aload_n hx hb dX11_gauge_7 rfl (lv_at hl 0 rfl) ?_
    refine lv_ifnonnull (tgt := 16) hx hb dX11_gauge_8 (by decide) ?_
    refine lv_aload_n hx hb dX11_gauge_16 rfl (lv_at hl 0 rfl) ?_
    refine kV C hw (c_X3_wide E tt B F G P (hR.xh (by omega) (by omega)) (kd_hole (by omega)) ) vy_X3_wide ml_X11_155 (rcv hw (hR.xh (by omega) (by omega)) (kd_hole (by omega)) (by decide) (q2 := (RX3, TX3, 3)) rfl) rfl hl.1 (rest := []) rfl dX11_gauge_17 (Nat.le_of_ble_eq_true rfl) ⟨by decide, by decide⟩ ⟨Nat.le_of_ble_eq_true rfl, Nat.le_of_ble_eq_true rfl⟩ (fun v_17 ws_17 H locs hp_17 hq_17 => ?_)
    clear hw
    obtain ⟨rfl, rfl⟩ := hp_17
    have hw := hq_17
    refine W.eq (g2 := F0 m 20 ls [.int ((F (20 + (8 * i1 + j1)) 0 + F (20 + (8 * i1 + j1)) 1 / 1000))]) rfl ?_
    refine lv_aload_n hx hb dX11_gauge_20 rfl (lv_at hl 0 rfl) ?_
    refine g_i 0 C hw (hR.xh (by omega) (by omega)) (kd_hole (by omega)) fl_X11_147 rfl dX11_gauge_21 ?_
    refine lv_isub hx hb dX11_gauge_24 ?_
    exact r_i C hr hlk hw ⟨(by simp [sp_gauge, qat, w_wide, ok_3, hz_i1, hz_j1, vh0, vh1, vh2]), rfl⟩ dX11_gauge_25
  · have hw := hq_3
    refine W.eq (g2 := F0 m 6 ls [.null]) rfl ?_
    refine lv_astore_nN (lv' := [(3, .null), (0, .ref (B (0))), (1, .int (p0)), (2, .int (h0))]) hx hb dX11_gauge_6 rfl hl (by decide) rfl (fun ls hl => ?_)
    refine lv_aload_nN hx hb dX11_gauge_7 rfl (lv_at hl 0 rfl) ?_
    refine lv_ifnonnullN hx hb dX11_gauge_8 ?_
    refine lv_bipush (v := -2) hx hb dX11_gauge_11 (by decide) ?_
    refine lv_goto (tgt := 25) hx hb dX11_gauge_13 (by decide) ?_
    exact r_i C hr hlk hw ⟨(by simp [sp_gauge, h_3]), rfl⟩ dX11_gauge_25

set_option maxHeartbeats 4000000 in
set_option maxRecDepth 100000 in
theorem c_X11_ream (E : cE) (tt : Nat × Nat × Nat) {X : List Nat} (B : Nat → Nat) (F : tF) (G : tG) {P : tP} {nh : Nat → Nat} {nc no : Nat} {mt om : Nat → Nat} (hR : RC X P nh nc no mt om) (hre : ∀ i j, i < 4 → j < nh i → (F (20 + (8 * i + j)) 2 = 2 ↔ 2 ≤ F (20 + (8 * i + j)) 2)) (p0 h0 b0 : Int32)  : CT E tt yX11_ream cX11_ream 6 (some .int) 2 0 0 [.ref (B (0)), .int (p0), .int (h0), .int (b0)] (wl E X B F G P) (fun r w => r = some (.int (sp_ream (vF F) nh p0 h0 b0)) ∧ ∃ (F1 : tF) (G1 : tG), KC F F1 ∧ KG G G1 ∧ vF F1 = st_ream (vF F) nh p0 h0 b0 ∧ vG G1 = vG G ∧ w = wl E X B F1 G1 P) := by
  refine CT.mk (by decide +kernel) (Nat.le_of_ble_eq_true rfl) ?_
  intro l p e s m below meth c A ls C hr hlk hnm hw hl
  have hx := C.1
  have hb := C.2.1
  have hts := C.2.2.2.2
  have hown : s.vm.findClass RX11 = some m.cls := C.2.2.2.1
  have hl : lv_has ls 6 [(0, .ref (B (0))), (1, .int (p0)), (2, .int (h0)), (3, .int (b0))] := hl
  refine lv_aload_n hx hb dX11_ream_0 rfl (lv_at hl 0 rfl) ?_
  refine lv_iload_n hx hb dX11_ream_1 rfl (lv_at hl 1 rfl) ?_
  refine lv_iload_n hx hb dX11_ream_2 rfl (lv_at hl 2 rfl) ?_
  refine kV C hw (c_X11_holeAt E tt B F G hR (p0) (h0)) vy_X11_holeAt ml_X11_143 (rcv hw (hR.f rfl) rfl (by decide) (q2 := (RX11, TX11, 19)) rfl) rfl hl.1 (rest := []) rfl dX11_ream_3 (Nat.le_of_ble_eq_true rfl) ⟨by decide, by decide⟩ ⟨Nat.le_of_ble_eq_true rfl, Nat.le_of_ble_eq_true rfl⟩ (fun v_3 ws_3 H locs hp_3 hq_3 => ?_)
  clear hw
  rcases hp_3 with ⟨i1, j1, hl_i1, hl_j1, rfl, rfl, rfl, rfl⟩ | ⟨h_3, rfl, rfl⟩
  · have hw := hq_3
    refine W.eq (g2 := F0 m 6 ls [.ref (B (20 + (8 * i1 + j1)))]) rfl ?_
    have h8_i1 := hR.nh8 hl_i1
    have ok_3 := ok_hole_y hl_i1 hl_j1 h8_i1
    have hz_i1 := i4_cl (i := i1) (by omega)
    have hz_j1 := i4_cl (i := j1) (by omega)
    have vh0 := vF_at (lc_h0 (q := 8 * i1 + j1) (by omega)) F
    have vh1 := vF_at (lc_h1 (q := 8 * i1 + j1) (by omega)) F
    have vh2 := vF_at (lc_h2 (q := 8 * i1 + j1) (by omega)) F
    refine lv_astore (lv' := [(4, .ref (B (20 + (8 * i1 + j1)))), (0, .ref (B (0))), (1, .int (nI i1)), (2, .int (nI j1)), (3, .int (b0))]) hx hb dX11_ream_6 hl (by decide) rfl (fun ls hl => ?_)
    refine lv_aload hx hb dX11_ream_8 (lv_at hl 0 rfl) ?_
    refine lv_ifnonnull (tgt := 16) hx hb dX11_ream_10 (by decide) ?_
    refine lv_iload_n hx hb dX11_ream_16 rfl (lv_at hl 4 rfl) ?_
    refine lv_iconst (v := 1) hx hb dX11_ream_17 (by decide) ?_
    refine lv_bipush (v := 50) hx hb dX11_ream_18 (by decide) ?_
    refine kS C hw (c_X11_isWithin E tt _ (b0) (1) (50)) vy_X11_isWithin ml_X11_89 rfl hl.1 (rest := []) rfl dX11_ream_20 (Nat.le_of_ble_eq_true rfl) ⟨by decide, by decide⟩ ⟨Nat.le_of_ble_eq_true rfl, Nat.le_of_ble_eq_true rfl⟩ (fun v_20 ws_20 H locs hp_20 hq_20 => ?_)
    clear hw
    rcases hp_20 with ⟨h_20, rfl, rfl⟩ | ⟨h_20, rfl, rfl⟩
    · have hw := hq_20
      refine W.eq (g2 := F0 m 23 ls [.int (1)]) rfl ?_
      refine lv_if_ne (tgt := 29) hx hb dX11_ream_23 (by decide) (fun _ => ?_) (fun h9 => False.elim (by revert h9; decide))
      refine lv_aload hx hb dX11_ream_29 (lv_at hl 0 rfl) ?_
      refine kV C hw (c_X3_wide E tt B F G P (hR.xh (by omega) (by omega)) (kd_hole (by omega)) ) vy_X3_wide ml_X11_155 (rcv hw (hR.xh (by omega) (by omega)) (kd_hole (by omega)) (by decide) (q2 := (RX3, TX3, 3)) rfl) rfl hl.1 (rest := []) rfl dX11_ream_31 (Nat.le_of_ble_eq_true rfl) ⟨by decide, by decide⟩ ⟨Nat.le_of_ble_eq_true rfl, Nat.le_of_ble_eq_true rfl⟩ (fun v_31 ws_31 H locs hp_31 hq_31 => ?_)
      clear hw
      obtain ⟨rfl, rfl⟩ := hp_31
      have hw := hq_31
      refine W.eq (g2 := F0 m 34 ls [.int ((F (20 + (8 * i1 + j1)) 0 + F (20 + (8 * i1 + j1)) 1 / 1000))]) rfl ?_
      refine lv_iload_n hx hb dX11_ream_34 rfl (lv_at hl 4 rfl) ?_
      refine lv_iadd hx hb dX11_ream_35 ?_
      refine lv_istore (lv' := [(5, .int (((F (20 + (8 * i1 + j1)) 0 + F (20 + (8 * i1 + j1)) 1 / 1000) + b0))), (4, .ref (B (20 + (8 * i1 + j1)))), (0, .ref (B (0))), (1, .int (nI i1)), (2, .int (nI j1)), (3, .int (b0))]) hx hb dX11_ream_36 hl (by decide) rfl (fun ls hl => ?_)
      refine lv_aload hx hb dX11_ream_38 (lv_at hl 1 rfl) ?_
      refine g_i 2 C hw (hR.xh (by omega) (by omega)) (kd_hole (by omega)) fl_X11_159 rfl dX11_ream_40 ?_
      refine lv_iconst (v := 2) hx hb dX11_ream_43 (by decide) ?_
      refine lv_icmp_ge (tgt := 55) hx hb dX11_ream_44 (by decide) (fun c_44 => ?_) (fun c_44 => ?_)
      · have c_44 := (hre i1 j1 hl_i1 hl_j1).mpr c_44
        refine lv_bipush (v := -4) hx hb dX11_ream_55 (by decide) ?_
        exact r_i C hr hlk hw ⟨(by simp [sp_ream, h_20, c_44, ok_3, qat, w_wide, hz_i1, hz_j1, vh0, vh1, vh2]), F, G, KC.rf, KG.rf, (by simp [st_ream, h_20, c_44, ok_3, qat, w_wide, hz_i1, hz_j1, vh0, vh1, vh2]), (by rfl), rfl⟩ dX11_ream_57
      · have c_44 : ¬ F (20 + (8 * i1 + j1)) 2 = 2 := fun h9 => c_44 ((hre i1 j1 hl_i1 hl_j1).mp h9)
        refine lv_iload hx hb dX11_ream_47 (lv_at hl 0 rfl) ?_
        refine lv_sipush (v := 1000) hx hb dX11_ream_49 (by decide) ?_
        refine lv_icmp_le (tgt := 58) hx hb dX11_ream_52 (by decide) (fun c_52 => ?_) (fun c_52 => ?_)
        · rw [← Int32.not_lt] at c_52
          refine lv_aload hx hb dX11_ream_58 (lv_at hl 1 rfl) ?_
          refine lv_iload hx hb dX11_ream_60 (lv_at hl 0 rfl) ?_
          refine p_i 0 C hw (hR.xh (by omega) (by omega)) (kd_hole (by omega)) fl_X11_147 fc_3 fn_3_0 (fun h9 => by cases h9) rfl rfl rfl dX11_ream_62 (fun H locs hw => ?_)
          refine lv_aload hx hb dX11_ream_65 (lv_at hl 1 rfl) ?_
          refine lv_iconst (v := 0) hx hb dX11_ream_67 (by decide) ?_
          refine p_i 1 C hw (hR.xh (by omega) (by omega)) (kd_hole (by omega)) fl_X11_152 fc_3 fn_3_1 (fun h9 => by cases h9) rfl rfl rfl dX11_ream_68 (fun H locs hw => ?_)
          refine lv_aload hx hb dX11_ream_71 (lv_at hl 1 rfl) ?_
          refine lv_dup hx hb dX11_ream_73 rfl ?_
          refine g_i 2 C hw (hR.xh (by omega) (by omega)) (kd_hole (by omega)) fl_X11_159 rfl dX11_ream_74 ?_
          refine tp_i (y := F (20 + (8 * i1 + j1)) 2) ((uF_n _ _ (Or.inr (by decide))).trans ((uF_n _ _ (Or.inr (by decide))).trans (rfl))) ?_
          refine lv_iconst (v := 1) hx hb dX11_ream_77 (by decide) ?_
          refine lv_iadd hx hb dX11_ream_78 ?_
          refine p_i 2 C hw (hR.xh (by omega) (by omega)) (kd_hole (by omega)) fl_X11_159 fc_3 fn_3_2 (fun h9 => by cases h9) rfl rfl rfl dX11_ream_79 (fun H locs hw => ?_)
          refine lv_iload hx hb dX11_ream_82 (lv_at hl 0 rfl) ?_
          exact r_i C hr hlk hw ⟨(by simp [sp_ream, h_20, c_44, c_52, ok_3, qat, w_wide, hz_i1, hz_j1, vh0, vh1, vh2]), (uF (uF (uF F (20 + (8 * i1 + j1)) 0 (((F (20 + (8 * i1 + j1)) 0 + F (20 + (8 * i1 + j1)) 1 / 1000) + b0))) (20 + (8 * i1 + j1)) 1 0) (20 + (8 * i1 + j1)) 2 ((F (20 + (8 * i1 + j1)) 2 + 1))), G, (KC.u (KC.u (KC.u KC.rf (by omega) (by omega) (by omega)) (by omega) (by omega) (by omega)) (by omega) (by omega) (by omega)), KG.rf, (by rw [vF_up (lc_h2 (q := 8 * i1 + j1) (by omega)), vF_up (lc_h1 (q := 8 * i1 + j1) (by omega)), vF_up (lc_h0 (q := 8 * i1 + j1) (by omega))]; simp [st_ream, h_20, c_44, c_52, ok_3, qat, w_wide, hz_i1, hz_j1, vh0, vh1, vh2]), (by rfl), rfl⟩ dX11_ream_84
        · rw [Int32.not_le] at c_52
          refine lv_bipush (v := -4) hx hb dX11_ream_55 (by decide) ?_
          exact r_i C hr hlk hw ⟨(by simp [sp_ream, h_20, c_44, c_52, ok_3, qat, w_wide, hz_i1, hz_j1, vh0, vh1, vh2]), F, G, KC.rf, KG.rf, (by simp [st_ream, h_20, c_44, c_52, ok_3, qat, w_wide, hz_i1, hz_j1, vh0, vh1, vh2]), (by rfl), rfl⟩ dX11_ream_57
    · have hw := hq_20
      refine W.eq (g2 := F0 m 23 ls [.int (0)]) rfl ?_
      refine lv_if_ne (tgt := 29) hx hb dX11_ream_23 (by decide) (fun h9 => False.elim (by revert h9; decide)) (fun _ => ?_)
      refine lv_bipush (v := -3) hx hb dX11_ream_26 (by decide) ?_
      exact r_i C hr hlk hw ⟨(by simp [sp_ream, h_20, ok_3, qat, w_wide, hz_i1, hz_j1, vh0, vh1, vh2]), F, G, KC.rf, KG.rf, (by simp [st_ream, h_20, ok_3, qat, w_wide, hz_i1, hz_j1, vh0, vh1, vh2]), (by rfl), rfl⟩ dX11_ream_28
  · have hw := hq_3
    refine W.eq (g2 := F0 m 6 ls [.null]) rfl ?_
    refine lv_astoreN (lv' := [(4, .null), (0, .ref (B (0))), (1, .int (p0)), (2, .int (h0)), (3, .int (b0))]) hx hb dX11_ream_6 hl (by decide) rfl (fun ls hl => ?_)
    refine lv_aloadN hx hb dX11_ream_8 (lv_at hl 0 rfl) ?_
    refine lv_ifnonnullN hx hb dX11_ream_10 ?_
    refine lv_bipush (v := -2) hx hb dX11_ream_13 (by decide) ?_
    exact r_i C hr hlk hw ⟨(by simp [sp_ream, h_3]), F, G, KC.rf, KG.rf, (by simp [st_ream, h_3]), (by rfl), rfl⟩ dX11_ream_15

set_option maxHeartbeats 4000000 in
set_option maxRecDepth 100000 in
theorem c_X11_at (E : cE) (tt : Nat × Nat × Nat) {X : List Nat} (B : Nat → Nat) (F : tF) (G : tG) {P : tP} {nh : Nat → Nat} {nc no : Nat} {mt om : Nat → Nat} (hR : RC X P nh nc no mt om) (hCK : CK F G nc) (hnum : ∀ i, i < 4 → F (3 + i) 0 = nI i) (F2 : tF) (hF2 : ∀ c, c < nc → F2 115 c = nI (mt c)) (h2 : ∀ k, k ≠ 115 → F2 k = vF F k) (c0 w0 : Int32)  : CT E tt yX11_at cX11_at 4 (some .int) 4 0 0 [.ref (B (0)), .int (c0), .int (w0)] (wl E X B F G P) (fun r w => r = some (.int (sp_at F2 (vG G) nc c0 w0)) ∧ w = (wl E X B F G P)) := by
  refine CT.mk (by decide +kernel) (Nat.le_of_ble_eq_true rfl) ?_
  intro l p e s m below meth c A ls C hr hlk hnm hw hl
  have hx := C.1
  have hb := C.2.1
  have hts := C.2.2.2.2
  have hown : s.vm.findClass RX11 = some m.cls := C.2.2.2.1
  have hl : lv_has ls 4 [(0, .ref (B (0))), (1, .int (c0)), (2, .int (w0))] := hl
  refine lv_aload_n hx hb dX11_at_0 rfl (lv_at hl 0 rfl) ?_
  refine lv_iload_n hx hb dX11_at_1 rfl (lv_at hl 1 rfl) ?_
  refine kV C hw (c_X11_coilAt E tt B F G hR hCK (c0)) vy_X11_coilAt ml_X11_183 (rcv hw (hR.f rfl) rfl (by decide) (q2 := (RX11, TX11, 19)) rfl) rfl hl.1 (rest := []) rfl dX11_at_2 (Nat.le_of_ble_eq_true rfl) ⟨by decide, by decide⟩ ⟨Nat.le_of_ble_eq_true rfl, Nat.le_of_ble_eq_true rfl⟩ (fun v_2 ws_2 H locs hp_2 hq_2 => ?_)
  clear hw
  rcases hp_2 with ⟨c1, hl_c1, rfl, ok_2, rfl, rfl⟩ | ⟨h_2, rfl, rfl⟩
  · have hw := hq_2
    refine W.eq (g2 := F0 m 5 ls [.ref (B (53 + c1))]) rfl ?_
    have hn16 := hR.nc16
    have hz_c1 := i4_cl (i := c1) (by omega)
    have v1_c1 := vF_at (lc_c1 (c := c1) (by omega)) F
    have v2_c1 := vF_at (lc_c2 (c := c1) (by omega)) F
    have v3_c1 := vG_at (lc_c3 (c := c1) (by omega)) G
    have v4_c1 := vF_at (lc_c4 (c := c1) (by omega)) F
    have v5_c1 := vF_at (lc_c5 (c := c1) (by omega)) F
    have v6_c1 := vF_at (lc_c6 (c := c1) (by omega)) F
    refine lv_astore_n (lv' := [(3, .ref (B (53 + c1))), (0, .ref (B (0))), (1, .int (nI c1)), (2, .int (w0))]) hx hb dX11_at_5 rfl hl (by decide) rfl (fun ls hl => ?_)
    refine lv_aload_n hx hb dX11_at_6 rfl (lv_at hl 0 rfl) ?_
    refine lv_ifnonnull (tgt := 13) hx hb dX11_at_7 (by decide) ?_
    have hm4 := hR.mt4 hl_c1
    refine lv_iload_n hx hb dX11_at_13 rfl (lv_at hl 3 rfl) ?_
    rcases sw_7 w0 with h_sw | h_sw | h_sw | h_sw | h_sw | h_sw | h_sw | h_sw
    · refine lv_tableIn (tgt := 56) hx hb dX11_at_14 (by rw [h_sw]; decide) (by rw [h_sw]; decide) (by rw [h_sw]; rfl) (by decide) ?_
      refine lv_aload_n hx hb dX11_at_56 rfl (lv_at hl 0 rfl) ?_
      refine g_r 0 (k2 := 3 + mt c1) C hw (hR.xc (by omega)) (kd_coil (by omega)) fl_X11_187 rfl (hR.cm (by omega)) dX11_at_57 ?_
      refine g_i 0 C hw (hR.xm (by omega)) (kd_metal (by omega)) fl_X11_191 rfl dX11_at_60 ?_
      exact r_i C hr hlk hw ⟨(by simp [sp_at, ok_2, h_sw, w_feet, w_ft, hF2 c1 hl_c1, hnum _ hm4, h2, hz_c1, v1_c1, v2_c1, v3_c1, v4_c1, v5_c1, v6_c1]), rfl⟩ dX11_at_63
    · refine lv_tableIn (tgt := 64) hx hb dX11_at_14 (by rw [h_sw]; decide) (by rw [h_sw]; decide) (by rw [h_sw]; rfl) (by decide) ?_
      refine lv_aload_n hx hb dX11_at_64 rfl (lv_at hl 0 rfl) ?_
      refine g_i 1 C hw (hR.xc (by omega)) (kd_coil (by omega)) fl_X11_194 rfl dX11_at_65 ?_
      exact r_i C hr hlk hw ⟨(by simp [sp_at, ok_2, h_sw, w_feet, w_ft, hF2 c1 hl_c1, hnum _ hm4, h2, hz_c1, v1_c1, v2_c1, v3_c1, v4_c1, v5_c1, v6_c1]), rfl⟩ dX11_at_68
    · refine lv_tableIn (tgt := 69) hx hb dX11_at_14 (by rw [h_sw]; decide) (by rw [h_sw]; decide) (by rw [h_sw]; rfl) (by decide) ?_
      refine lv_aload_n hx hb dX11_at_69 rfl (lv_at hl 0 rfl) ?_
      refine g_i 2 C hw (hR.xc (by omega)) (kd_coil (by omega)) fl_X11_197 rfl dX11_at_70 ?_
      exact r_i C hr hlk hw ⟨(by simp [sp_at, ok_2, h_sw, w_feet, w_ft, hF2 c1 hl_c1, hnum _ hm4, h2, hz_c1, v1_c1, v2_c1, v3_c1, v4_c1, v5_c1, v6_c1]), rfl⟩ dX11_at_73
    · refine lv_tableIn (tgt := 74) hx hb dX11_at_14 (by rw [h_sw]; decide) (by rw [h_sw]; decide) (by rw [h_sw]; rfl) (by decide) ?_
      refine lv_aload_n hx hb dX11_at_74 rfl (lv_at hl 0 rfl) ?_
      refine kV C hw (c_X0_feet E tt B F G P (hR.xc (by omega)) (kd_coil (by omega))  ((hCK c1 hl_c1).1)) vy_X0_feet ml_X11_200 (rcv hw (hR.xc (by omega)) (kd_coil (by omega)) (by decide) (q2 := (RX0, TX0, 7)) rfl) rfl hl.1 (rest := []) rfl dX11_at_75 (Nat.le_of_ble_eq_true rfl) ⟨by decide, by decide⟩ ⟨Nat.le_of_ble_eq_true rfl, Nat.le_of_ble_eq_true rfl⟩ (fun v_75 ws_75 H locs hp_75 hq_75 => ?_)
      clear hw
      obtain ⟨rfl, rfl⟩ := hp_75
      have hw := hq_75
      refine W.eq (g2 := F0 m 78 ls [.int (w_ft (G (53 + c1) 3) (F (53 + c1) 1))]) rfl ?_
      exact r_i C hr hlk hw ⟨(by simp [sp_at, ok_2, h_sw, w_feet, w_ft, hF2 c1 hl_c1, hnum _ hm4, h2, hz_c1, v1_c1, v2_c1, v3_c1, v4_c1, v5_c1, v6_c1]), rfl⟩ dX11_at_78
    · refine lv_tableIn (tgt := 79) hx hb dX11_at_14 (by rw [h_sw]; decide) (by rw [h_sw]; decide) (by rw [h_sw]; rfl) (by decide) ?_
      refine lv_aload_n hx hb dX11_at_79 rfl (lv_at hl 0 rfl) ?_
      refine g_i 4 C hw (hR.xc (by omega)) (kd_coil (by omega)) fl_X11_203 rfl dX11_at_80 ?_
      exact r_i C hr hlk hw ⟨(by simp [sp_at, ok_2, h_sw, w_feet, w_ft, hF2 c1 hl_c1, hnum _ hm4, h2, hz_c1, v1_c1, v2_c1, v3_c1, v4_c1, v5_c1, v6_c1]), rfl⟩ dX11_at_83
    · refine lv_tableIn (tgt := 84) hx hb dX11_at_14 (by rw [h_sw]; decide) (by rw [h_sw]; decide) (by rw [h_sw]; rfl) (by decide) ?_
      refine lv_aload_n hx hb dX11_at_84 rfl (lv_at hl 0 rfl) ?_
      refine g_i 5 C hw (hR.xc (by omega)) (kd_coil (by omega)) fl_X11_206 rfl dX11_at_85 ?_
      exact r_i C hr hlk hw ⟨(by simp [sp_at, ok_2, h_sw, w_feet, w_ft, hF2 c1 hl_c1, hnum _ hm4, h2, hz_c1, v1_c1, v2_c1, v3_c1, v4_c1, v5_c1, v6_c1]), rfl⟩ dX11_at_88
    · refine lv_tableIn (tgt := 89) hx hb dX11_at_14 (by rw [h_sw]; decide) (by rw [h_sw]; decide) (by rw [h_sw]; rfl) (by decide) ?_
      refine lv_aload_n hx hb dX11_at_89 rfl (lv_at hl 0 rfl) ?_
      refine g_i 6 C hw (hR.xc (by omega)) (kd_coil (by omega)) fl_X11_209 rfl dX11_at_90 ?_
      refine lv_if_eq (tgt := 100) hx hb dX11_at_93 (by decide) (fun c_93 => ?_) (fun c_93 => ?_)
      · refine lv_iconst (v := 0) hx hb dX11_at_100 (by decide) ?_
        exact r_i C hr hlk hw ⟨(by simp [sp_at, ok_2, h_sw, w_feet, w_ft, hF2 c1 hl_c1, hnum _ hm4, h2, hz_c1, v1_c1, v2_c1, v3_c1, v4_c1, v5_c1, v6_c1, c_93]), rfl⟩ dX11_at_101
      · refine lv_iconst (v := 1) hx hb dX11_at_96 (by decide) ?_
        refine lv_goto (tgt := 101) hx hb dX11_at_97 (by decide) ?_
        exact r_i C hr hlk hw ⟨(by simp [sp_at, ok_2, h_sw, w_feet, w_ft, hF2 c1 hl_c1, hnum _ hm4, h2, hz_c1, v1_c1, v2_c1, v3_c1, v4_c1, v5_c1, v6_c1, c_93]), rfl⟩ dX11_at_101
    · refine lv_tableOut (tgt := 102) hx hb dX11_at_14 h_sw (by decide) ?_
      refine lv_bipush (v := -3) hx hb dX11_at_102 (by decide) ?_
      exact r_i C hr hlk hw ⟨(by simp [sp_at, ok_2, sw_no h_sw (y := 0) (by decide) (by decide), sw_no h_sw (y := 1) (by decide) (by decide), sw_no h_sw (y := 2) (by decide) (by decide), sw_no h_sw (y := 3) (by decide) (by decide), sw_no h_sw (y := 4) (by decide) (by decide), sw_no h_sw (y := 5) (by decide) (by decide), sw_no h_sw (y := 6) (by decide) (by decide)]), rfl⟩ dX11_at_104
  · have hw := hq_2
    refine W.eq (g2 := F0 m 5 ls [.null]) rfl ?_
    refine lv_astore_nN (lv' := [(3, .null), (0, .ref (B (0))), (1, .int (c0)), (2, .int (w0))]) hx hb dX11_at_5 rfl hl (by decide) rfl (fun ls hl => ?_)
    refine lv_aload_nN hx hb dX11_at_6 rfl (lv_at hl 0 rfl) ?_
    refine lv_ifnonnullN hx hb dX11_at_7 ?_
    refine lv_bipush (v := -2) hx hb dX11_at_10 (by decide) ?_
    exact r_i C hr hlk hw ⟨(by simp [sp_at, h_2]), rfl⟩ dX11_at_12

set_option maxHeartbeats 4000000 in
set_option maxRecDepth 100000 in
theorem c_X11_stuff (E : cE) (tt : Nat × Nat × Nat) {X : List Nat} (B : Nat → Nat) (F : tF) (G : tG) {P : tP} {nh : Nat → Nat} {nc no : Nat} {mt om : Nat → Nat} (hR : RC X P nh nc no mt om) (hCK : CK F G nc) (c0 : Int32)  : CT E tt yX11_stuff cX11_stuff 3 (some .long) 4 0 0 [.ref (B (0)), .int (c0)] (wl E X B F G P) (fun r w => r = some (.long (sp_stuff (vG G) nc c0)) ∧ w = (wl E X B F G P)) := by
  refine CT.mk (by decide +kernel) (Nat.le_of_ble_eq_true rfl) ?_
  intro l p e s m below meth c A ls C hr hlk hnm hw hl
  have hx := C.1
  have hb := C.2.1
  have hts := C.2.2.2.2
  have hown : s.vm.findClass RX11 = some m.cls := C.2.2.2.1
  have hl : lv_has ls 3 [(0, .ref (B (0))), (1, .int (c0))] := hl
  refine lv_aload_n hx hb dX11_stuff_0 rfl (lv_at hl 0 rfl) ?_
  refine lv_iload_n hx hb dX11_stuff_1 rfl (lv_at hl 1 rfl) ?_
  refine kV C hw (c_X11_coilAt E tt B F G hR hCK (c0)) vy_X11_coilAt ml_X11_183 (rcv hw (hR.f rfl) rfl (by decide) (q2 := (RX11, TX11, 19)) rfl) rfl hl.1 (rest := []) rfl dX11_stuff_2 (Nat.le_of_ble_eq_true rfl) ⟨by decide, by decide⟩ ⟨Nat.le_of_ble_eq_true rfl, Nat.le_of_ble_eq_true rfl⟩ (fun v_2 ws_2 H locs hp_2 hq_2 => ?_)
  clear hw
  rcases hp_2 with ⟨c1, hl_c1, rfl, ok_2, rfl, rfl⟩ | ⟨h_2, rfl, rfl⟩
  · have hw := hq_2
    refine W.eq (g2 := F0 m 5 ls [.ref (B (53 + c1))]) rfl ?_
    have hn16 := hR.nc16
    have hz_c1 := i4_cl (i := c1) (by omega)
    have v1_c1 := vF_at (lc_c1 (c := c1) (by omega)) F
    have v2_c1 := vF_at (lc_c2 (c := c1) (by omega)) F
    have v3_c1 := vG_at (lc_c3 (c := c1) (by omega)) G
    have v4_c1 := vF_at (lc_c4 (c := c1) (by omega)) F
    have v5_c1 := vF_at (lc_c5 (c := c1) (by omega)) F
    have v6_c1 := vF_at (lc_c6 (c := c1) (by omega)) F
    refine lv_astore_n (lv' := [(2, .ref (B (53 + c1))), (0, .ref (B (0))), (1, .int (nI c1))]) hx hb dX11_stuff_5 rfl hl (by decide) rfl (fun ls hl => ?_)
    refine lv_aload_n hx hb dX11_stuff_6 rfl (lv_at hl 0 rfl) ?_
    refine lv_ifnonnull (tgt := 16) hx hb dX11_stuff_7 (by decide) ?_
    refine lv_aload_n hx hb dX11_stuff_16 rfl (lv_at hl 0 rfl) ?_
    refine g_l 3 C hw (hR.xc (by omega)) (kd_coil (by omega)) fl_X11_176 rfl dX11_stuff_17 ?_
    exact r_l C hr hlk hw ⟨(by simp [sp_stuff, ok_2, hz_c1, v3_c1]), rfl⟩ dX11_stuff_20
  · have hw := hq_2
    refine W.eq (g2 := F0 m 5 ls [.null]) rfl ?_
    refine lv_astore_nN (lv' := [(2, .null), (0, .ref (B (0))), (1, .int (c0))]) hx hb dX11_stuff_5 rfl hl (by decide) rfl (fun ls hl => ?_)
    refine lv_aload_nN hx hb dX11_stuff_6 rfl (lv_at hl 0 rfl) ?_
    refine lv_ifnonnullN hx hb dX11_stuff_7 ?_
    refine lv_ldc2 (v := -2) hx hb hown (hts _ kc_X11_213) dX11_stuff_10 ?_
    refine lv_goto (tgt := 20) hx hb dX11_stuff_13 (by decide) ?_
    exact r_l C hr hlk hw ⟨(by simp [sp_stuff, h_2]), rfl⟩ dX11_stuff_20
