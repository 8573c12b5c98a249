/-! leaves of the class -/
def w_quo (v d : Int64) : Int64 := if d = 0 then 0 else v / d
set_option maxHeartbeats 4000000 in
set_option maxRecDepth 100000 in
theorem c_X11_quotient (E : cE) (tt : Nat × Nat × Nat) (ws : va_W) (v0 d0 : Int64)  : CT E tt yX11_quotient cX11_quotient 4 (some .long) 0 0 0 [.long (v0), .long (d0)] ws (fun r w => r = some (.long (w_quo v0 d0)) ∧ w = ws) := by
  refine CT.mk (by decide +kernel) (Nat.le_of_ble_eq_true rfl) ?_
  intro l p e s m below meth c A ls C hr hlk hnm hw hl
  have hx := C.1
  have hb := C.2.1
  have hts := C.2.2.2.2
  have hown : s.vm.findClass RX11 = some m.cls := C.2.2.2.1
  have hl : lv_has ls 4 [(0, .long (v0)), (2, .long (d0))] := hl
  refine lv_lload_n hx hb dX11_quotient_0 rfl (lv_at hl 1 rfl) ?_
  refine lv_lconst (v := 0) hx hb dX11_quotient_1 (by decide) ?_
  refine W.lcmp hx hb dX11_quotient_2 ?_
  refine lv_if_ne (tgt := 10) hx hb dX11_quotient_3 (by decide) (fun c_3 => ?_) (fun c_3 => ?_)
  · simp only [lg_cmp_eq] at c_3
    refine lv_lload_n hx hb dX11_quotient_10 rfl (lv_at hl 0 rfl) ?_
    refine lv_lload_n hx hb dX11_quotient_11 rfl (lv_at hl 1 rfl) ?_
    refine lv_ldiv hx hb dX11_quotient_12 (c_3) ?_
    exact r_l C hr hlk hw ⟨(by simp [w_quo, c_3]), rfl⟩ dX11_quotient_13
  · simp only [lg_cmp_eq] at c_3
    refine lv_lconst (v := 0) hx hb dX11_quotient_6 (by decide) ?_
    refine lv_goto (tgt := 13) hx hb dX11_quotient_7 (by decide) ?_
    exact r_l C hr hlk hw ⟨(by simp [w_quo, c_3]), rfl⟩ dX11_quotient_13

set_option maxHeartbeats 4000000 in
set_option maxRecDepth 100000 in
theorem c_X0_stuffOf (E : cE) (tt : Nat × Nat × Nat) {X : List Nat} (B : Nat → Nat) (F : tF) (G : tG) (P : tP) {k : Nat} (hk : k ∈ X) (hK : kd k = 0) (f0 : Int32)  : CT E tt yX0_stuffOf cX0_stuffOf 2 (some .long) 0 0 0 [.ref (B (k)), .int (f0)] (wl E X B F G P) (fun r w => r = some (.long ((F k 1).toInt64 * (F k 1).toInt64 * f0.toInt64)) ∧ w = (wl E X B F G P)) := by
  refine CT.mk (by decide +kernel) (Nat.le_of_ble_eq_true rfl) ?_
  intro l p e s m below meth c A ls C hr hlk hnm hw hl
  have hx := C.1
  have hb := C.2.1
  have hts := C.2.2.2.2
  have hown : s.vm.findClass RX0 = some m.cls := C.2.2.2.1
  have hl : lv_has ls 2 [(0, .ref (B (k))), (1, .int (f0))] := hl
  refine lv_aload_n hx hb dX0_stuffOf_0 rfl (lv_at hl 0 rfl) ?_
  refine g_i 1 C hw hk hK fl_X0_13 rfl dX0_stuffOf_1 ?_
  refine lv_i2l hx hb dX0_stuffOf_4 rfl ?_
  refine lv_aload_n hx hb dX0_stuffOf_5 rfl (lv_at hl 0 rfl) ?_
  refine g_i 1 C hw hk hK fl_X0_13 rfl dX0_stuffOf_6 ?_
  refine lv_i2l hx hb dX0_stuffOf_9 rfl ?_
  refine lv_lmul hx hb dX0_stuffOf_10 ?_
  refine lv_iload_n hx hb dX0_stuffOf_11 rfl (lv_at hl 1 rfl) ?_
  refine lv_i2l hx hb dX0_stuffOf_12 rfl ?_
  refine lv_lmul hx hb dX0_stuffOf_13 ?_
  exact r_l C hr hlk hw ⟨rfl, rfl⟩ dX0_stuffOf_14

set_option maxHeartbeats 4000000 in
set_option maxRecDepth 100000 in
theorem c_X0_feet (E : cE) (tt : Nat × Nat × Nat) {X : List Nat} (B : Nat → Nat) (F : tF) (G : tG) (P : tP) {k : Nat} (hk : k ∈ X) (hK : kd k = 0) (hd : ¬ (F k 1).toInt64 * (F k 1).toInt64 = 0)  : CT E tt yX0_feet cX0_feet 1 (some .int) 1 0 0 [.ref (B (k))] (wl E X B F G P) (fun r w => r = some (.int (w_ft (G k 3) (F k 1))) ∧ w = (wl E X B F G P)) := by
  refine CT.mk (by decide +kernel) (Nat.le_of_ble_eq_true rfl) ?_
  intro l p e s m below meth c A ls C hr hlk hnm hw hl
  have hx := C.1
  have hb := C.2.1
  have hts := C.2.2.2.2
  have hown : s.vm.findClass RX0 = some m.cls := C.2.2.2.1
  have hl : lv_has ls 1 [(0, .ref (B (k)))] := hl
  refine lv_aload_n hx hb dX0_feet_0 rfl (lv_at hl 0 rfl) ?_
  refine g_l 3 C hw hk hK fl_X0_17 rfl dX0_feet_1 ?_
  refine lv_aload_n hx hb dX0_feet_4 rfl (lv_at hl 0 rfl) ?_
  refine lv_iconst (v := 1) hx hb dX0_feet_5 (by decide) ?_
  refine kV C hw (c_X0_stuffOf E tt B F G P hk hK (1)) vy_X0_stuffOf ml_X0_25 (rcv hw hk hK (by decide) (q2 := (RX0, TX0, 7)) rfl) rfl hl.1 (rest := [.long (G k 3)]) rfl dX0_feet_6 (Nat.le_of_ble_eq_true rfl) ⟨by decide, by decide⟩ ⟨Nat.le_of_ble_eq_true rfl, Nat.le_of_ble_eq_true rfl⟩ (fun v_6 ws_6 H locs hp_6 hq_6 => ?_)
  clear hw
  obtain ⟨rfl, rfl⟩ := hp_6
  have hw := hq_6
  refine W.eq (g2 := F0 m 9 ls [.long ((F k 1).toInt64 * (F k 1).toInt64 * (1 : Int32).toInt64), .long (G k 3)]) rfl ?_
  refine kSN C hw (c_X11_quotient E tt _ (G k 3) ((F k 1).toInt64 * (F k 1).toInt64 * (1 : Int32).toInt64)) vy_X11_quotient ml_X0_29 rfl hl.1 (rest := []) rfl dX0_feet_9 (Nat.le_of_ble_eq_true rfl) ⟨by decide, by decide⟩ ⟨Nat.le_of_ble_eq_true rfl, Nat.le_of_ble_eq_true rfl⟩ (fun v_9 ws_9 H locs hp_9 hq_9 => ?_)
  clear hw
  obtain ⟨rfl, rfl⟩ := hp_9
  have hw := hq_9
  refine W.eq (g2 := F0 m 12 ls [.long (w_quo (G k 3) ((F k 1).toInt64 * (F k 1).toInt64 * (1 : Int32).toInt64))]) rfl ?_
  refine tp_l (y := G k 3 / ((F k 1).toInt64 * (F k 1).toInt64)) (by rw [w_quo, show ((1 : Int32).toInt64) = 1 from rfl, Int64.mul_one, if_neg hd]) ?_
  refine lv_l2i hx hb dX0_feet_12 rfl ?_
  exact r_i C hr hlk hw ⟨rfl, rfl⟩ dX0_feet_13

set_option maxHeartbeats 4000000 in
set_option maxRecDepth 100000 in
theorem c_X0_isGone (E : cE) (tt : Nat × Nat × Nat) {X : List Nat} (B : Nat → Nat) (F : tF) (G : tG) (P : tP) {k : Nat} (hk : k ∈ X) (hK : kd k = 0) (hd : ¬ (F k 1).toInt64 * (F k 1).toInt64 = 0)  : CT E tt yX0_isGone cX0_isGone 1 (some .boolean) 2 0 0 [.ref (B (k))] (wl E X B F G P) (fun r w => ((w_ft (G k 3) (F k 1) = 0) ∧ r = some (.int 1) ∧ w = (wl E X B F G P)) ∨ (¬ (w_ft (G k 3) (F k 1) = 0) ∧ r = some (.int 0) ∧ w = (wl E X B F G P))) := by
  refine CT.mk (by decide +kernel) (Nat.le_of_ble_eq_true rfl) ?_
  intro l p e s m below meth c A ls C hr hlk hnm hw hl
  have hx := C.1
  have hb := C.2.1
  have hts := C.2.2.2.2
  have hown : s.vm.findClass RX0 = some m.cls := C.2.2.2.1
  have hl : lv_has ls 1 [(0, .ref (B (k)))] := hl
  refine lv_aload_n hx hb dX0_isGone_0 rfl (lv_at hl 0 rfl) ?_
  refine kV C hw (c_X0_feet E tt B F G P hk hK  (hd)) vy_X0_feet ml_X0_35 (rcv hw hk hK (by decide) (q2 := (RX0, TX0, 7)) rfl) rfl hl.1 (rest := []) rfl dX0_isGone_1 (Nat.le_of_ble_eq_true rfl) ⟨by decide, by decide⟩ ⟨Nat.le_of_ble_eq_true rfl, Nat.le_of_ble_eq_true rfl⟩ (fun v_1 ws_1 H locs hp_1 hq_1 => ?_)
  clear hw
  obtain ⟨rfl, rfl⟩ := hp_1
  have hw := hq_1
  refine W.eq (g2 := F0 m 4 ls [.int (w_ft (G k 3) (F k 1))]) rfl ?_
  refine lv_if_ne (tgt := 11) hx hb dX0_isGone_4 (by decide) (fun c_4 => ?_) (fun c_4 => ?_)
  · refine lv_iconst (v := 0) hx hb dX0_isGone_11 (by decide) ?_
    exact r_z C hr hlk hw rfl (Or.inr ⟨c_4, rfl, rfl⟩) dX0_isGone_12
  · refine lv_iconst (v := 1) hx hb dX0_isGone_7 (by decide) ?_
    refine lv_goto (tgt := 12) hx hb dX0_isGone_8 (by decide) ?_
    exact r_z C hr hlk hw rfl (Or.inl ⟨c_4, rfl, rfl⟩) dX0_isGone_12

set_option maxHeartbeats 4000000 in
set_option maxRecDepth 100000 in
theorem c_X3_wide (E : cE) (tt : Nat × Nat × Nat) {X : List Nat} (B : Nat → Nat) (F : tF) (G : tG) (P : tP) {k : Nat} (hk : k ∈ X) (hK : kd k = 3)  : CT E tt yX3_wide cX3_wide 1 (some .int) 0 0 0 [.ref (B (k))] (wl E X B F G P) (fun r w => r = some (.int (F k 0 + F k 1 / 1000)) ∧ w = (wl E X B F G P)) := by
  refine CT.mk (by decide +kernel) (Nat.le_of_ble_eq_true rfl) ?_
  intro l p e s m below meth c A ls C hr hlk hnm hw hl
  have hx := C.1
  have hb := C.2.1
  have hts := C.2.2.2.2
  have hown : s.vm.findClass RX3 = some m.cls := C.2.2.2.1
  have hl : lv_has ls 1 [(0, .ref (B (k)))] := hl
  refine lv_aload_n hx hb dX3_wide_0 rfl (lv_at hl 0 rfl) ?_
  refine g_i 0 C hw hk hK fl_X3_7 rfl dX3_wide_1 ?_
  refine lv_aload_n hx hb dX3_wide_4 rfl (lv_at hl 0 rfl) ?_
  refine g_i 1 C hw hk hK fl_X3_13 rfl dX3_wide_5 ?_
  refine lv_sipush (v := 1000) hx hb dX3_wide_8 (by decide) ?_
  refine lv_idiv hx hb dX3_wide_11 (by decide) ?_
  refine lv_iadd hx hb dX3_wide_12 ?_
  exact r_i C hr hlk hw ⟨rfl, rfl⟩ dX3_wide_13

set_option maxHeartbeats 4000000 in
set_option maxRecDepth 100000 in
theorem c_X3_isSpent (E : cE) (tt : Nat × Nat × Nat) {X : List Nat} (B : Nat → Nat) (F : tF) (G : tG) (P : tP) {k : Nat} (hk : k ∈ X) (hK : kd k = 3)  : CT E tt yX3_isSpent cX3_isSpent 1 (some .boolean) 1 0 0 [.ref (B (k))] (wl E X B F G P) (fun r w => ((F k 0 + 50 < F k 0 + F k 1 / 1000) ∧ r = some (.int 1) ∧ w = (wl E X B F G P)) ∨ (¬ (F k 0 + 50 < F k 0 + F k 1 / 1000) ∧ r = some (.int 0) ∧ w = (wl E X B F G P))) := by
  refine CT.mk (by decide +kernel) (Nat.le_of_ble_eq_true rfl) ?_
  intro l p e s m below meth c A ls C hr hlk hnm hw hl
  have hx := C.1
  have hb := C.2.1
  have hts := C.2.2.2.2
  have hown : s.vm.findClass RX3 = some m.cls := C.2.2.2.1
  have hl : lv_has ls 1 [(0, .ref (B (k)))] := hl
  refine lv_aload_n hx hb dX3_isSpent_0 rfl (lv_at hl 0 rfl) ?_
  refine kV C hw (c_X3_wide E tt B F G P hk hK ) vy_X3_wide ml_X3_16 (rcv hw hk hK (by decide) (q2 := (RX3, TX3, 3)) rfl) rfl hl.1 (rest := []) rfl dX3_isSpent_1 (Nat.le_of_ble_eq_true rfl) ⟨by decide, by decide⟩ ⟨Nat.le_of_ble_eq_true rfl, Nat.le_of_ble_eq_true rfl⟩ (fun v_1 ws_1 H locs hp_1 hq_1 => ?_)
  clear hw
  obtain ⟨rfl, rfl⟩ := hp_1
  have hw := hq_1
  refine W.eq (g2 := F0 m 4 ls [.int ((F k 0 + F k 1 / 1000))]) rfl ?_
  refine lv_aload_n hx hb dX3_isSpent_4 rfl (lv_at hl 0 rfl) ?_
  refine g_i 0 C hw hk hK fl_X3_7 rfl dX3_isSpent_5 ?_
  refine lv_bipush (v := 50) hx hb dX3_isSpent_8 (by decide) ?_
  refine lv_iadd hx hb dX3_isSpent_10 ?_
  refine lv_icmp_le (tgt := 18) hx hb dX3_isSpent_11 (by decide) (fun c_11 => ?_) (fun c_11 => ?_)
  · refine lv_iconst (v := 0) hx hb dX3_isSpent_18 (by decide) ?_
    exact r_z C hr hlk hw rfl (Or.inr ⟨by rw [Int32.not_lt]; exact c_11, rfl, rfl⟩) dX3_isSpent_19
  · refine lv_iconst (v := 1) hx hb dX3_isSpent_14 (by decide) ?_
    refine lv_goto (tgt := 19) hx hb dX3_isSpent_15 (by decide) ?_
    exact r_z C hr hlk hw rfl (Or.inl ⟨by rw [Int32.not_le] at c_11; exact c_11, rfl, rfl⟩) dX3_isSpent_19

set_option maxHeartbeats 4000000 in
set_option maxRecDepth 100000 in
theorem c_X4_strength (E : cE) (tt : Nat × Nat × Nat) {X : List Nat} (B : Nat → Nat) (F : tF) (G : tG) (P : tP) {k : Nat} (hk : k ∈ X) (hK : kd k = 4) (h0 : Int32)  : CT E tt yX4_strength cX4_strength 2 (some .long) 0 0 0 [.ref (B (k)), .int (h0)] (wl E X B F G P) (fun r w => r = some (.long ((F k 1).toInt64 * (100 + h0).toInt64)) ∧ w = (wl E X B F G P)) := by
  refine CT.mk (by decide +kernel) (Nat.le_of_ble_eq_true rfl) ?_
  intro l p e s m below meth c A ls C hr hlk hnm hw hl
  have hx := C.1
  have hb := C.2.1
  have hts := C.2.2.2.2
  have hown : s.vm.findClass RX4 = some m.cls := C.2.2.2.1
  have hl : lv_has ls 2 [(0, .ref (B (k))), (1, .int (h0))] := hl
  refine lv_aload_n hx hb dX4_strength_0 rfl (lv_at hl 0 rfl) ?_
  refine g_i 1 C hw hk hK fl_X4_7 rfl dX4_strength_1 ?_
  refine lv_i2l hx hb dX4_strength_4 rfl ?_
  refine lv_bipush (v := 100) hx hb dX4_strength_5 (by decide) ?_
  refine lv_iload_n hx hb dX4_strength_7 rfl (lv_at hl 1 rfl) ?_
  refine lv_iadd hx hb dX4_strength_8 ?_
  refine lv_i2l hx hb dX4_strength_9 rfl ?_
  refine lv_lmul hx hb dX4_strength_10 ?_
  exact r_l C hr hlk hw ⟨rfl, rfl⟩ dX4_strength_11

set_option maxHeartbeats 4000000 in
set_option maxRecDepth 100000 in
theorem c_X8_minutesFor (E : cE) (tt : Nat × Nat × Nat) {X : List Nat} (B : Nat → Nat) (F : tF) (G : tG) (P : tP) {k : Nat} (hk : k ∈ X) (hK : kd k = 8) (f0 : Int32)  : CT E tt yX8_minutesFor cX8_minutesFor 2 (some .int) 1 0 0 [.ref (B (k)), .int (f0)] (wl E X B F G P) (fun r w => r = some (.int ((w_quo (f0.toInt64 + (F k 2).toInt64 - 1) (F k 2).toInt64).toInt32 + 1)) ∧ w = (wl E X B F G P)) := by
  refine CT.mk (by decide +kernel) (Nat.le_of_ble_eq_true rfl) ?_
  intro l p e s m below meth c A ls C hr hlk hnm hw hl
  have hx := C.1
  have hb := C.2.1
  have hts := C.2.2.2.2
  have hown : s.vm.findClass RX8 = some m.cls := C.2.2.2.1
  have hl : lv_has ls 2 [(0, .ref (B (k))), (1, .int (f0))] := hl
  refine lv_iload_n hx hb dX8_minutesFor_0 rfl (lv_at hl 1 rfl) ?_
  refine lv_i2l hx hb dX8_minutesFor_1 rfl ?_
  refine lv_aload_n hx hb dX8_minutesFor_2 rfl (lv_at hl 0 rfl) ?_
  refine g_i 2 C hw hk hK fl_X8_7 rfl dX8_minutesFor_3 ?_
  refine lv_i2l hx hb dX8_minutesFor_6 rfl ?_
  refine lv_ladd hx hb dX8_minutesFor_7 ?_
  refine lv_lconst (v := 1) hx hb dX8_minutesFor_8 (by decide) ?_
  refine lv_lsub hx hb dX8_minutesFor_9 ?_
  refine lv_aload_n hx hb dX8_minutesFor_10 rfl (lv_at hl 0 rfl) ?_
  refine g_i 2 C hw hk hK fl_X8_7 rfl dX8_minutesFor_11 ?_
  refine lv_i2l hx hb dX8_minutesFor_14 rfl ?_
  refine kSN C hw (c_X11_quotient E tt _ ((((f0 : Int32).toInt64 + (F k 2 : Int32).toInt64) - 1)) ((F k 2 : Int32).toInt64)) vy_X11_quotient ml_X8_17 rfl hl.1 (rest := []) rfl dX8_minutesFor_15 (Nat.le_of_ble_eq_true rfl) ⟨by decide, by decide⟩ ⟨Nat.le_of_ble_eq_true rfl, Nat.le_of_ble_eq_true rfl⟩ (fun v_15 ws_15 H locs hp_15 hq_15 => ?_)
  clear hw
  obtain ⟨rfl, rfl⟩ := hp_15
  have hw := hq_15
  refine W.eq (g2 := F0 m 18 ls [.long (w_quo ((((f0 : Int32).toInt64 + (F k 2 : Int32).toInt64) - 1)) ((F k 2 : Int32).toInt64))]) rfl ?_
  refine lv_l2i hx hb dX8_minutesFor_18 rfl ?_
  refine lv_iconst (v := 1) hx hb dX8_minutesFor_19 (by decide) ?_
  refine lv_iadd hx hb dX8_minutesFor_20 ?_
  exact r_i C hr hlk hw ⟨rfl, rfl⟩ dX8_minutesFor_21

set_option maxHeartbeats 4000000 in
set_option maxRecDepth 100000 in
theorem c_X11_metalAt (E : cE) (tt : Nat × Nat × Nat) {X : List Nat} (B : Nat → Nat) (F : tF) (G : tG) {P : tP} {nh : Nat → Nat} {nc no : Nat} {mt om : Nat → Nat} (hR : RC X P nh nc no mt om) (x0 : Int32)  : CT E tt yX11_metalAt cX11_metalAt 2 (some (.object "WireMill$Metal")) 0 0 0 [.ref (B (0)), .int (x0)] (wl E X B F G P) (fun r w => (∃ i : Nat, i < 4 ∧ x0 = nI i ∧ r = some (.ref (B (3 + i))) ∧ w = (wl E X B F G P)) ∨ ((∀ i : Nat, i < 4 → x0 ≠ nI i) ∧ r = some .null ∧ w = (wl E X B F G P))) := by
  refine CT.mk (by decide +kernel) (Nat.le_of_ble_eq_true rfl) ?_
  intro l p e s m below meth c A ls C hr hlk hnm hw hl
  have hx := C.1
  have hb := C.2.1
  have hts := C.2.2.2.2
  have hown : s.vm.findClass RX11 = some m.cls := C.2.2.2.1
  have hl : lv_has ls 2 [(0, .ref (B (0))), (1, .int (x0))] := hl
  refine lv_iload_n hx hb dX11_metalAt_0 rfl (lv_at hl 1 rfl) ?_
  refine lv_if_lt (tgt := 13) hx hb dX11_metalAt_1 (by decide) (fun c_1 => ?_) (fun c_1 => ?_)
  · refine lv_null hx hb dX11_metalAt_13 ?_
    refine lv_goto (tgt := 23) hx hb dX11_metalAt_14 (by decide) ?_
    exact r_a (v := none) C hr hlk hw (Or.inr ⟨fun i hi e => by rw [e] at c_1; exact nI_pos (by omega) c_1, rfl, rfl⟩) dX11_metalAt_23
  · refine lv_iload_n hx hb dX11_metalAt_4 rfl (lv_at hl 1 rfl) ?_
    refine lv_aload_n hx hb dX11_metalAt_5 rfl (lv_at hl 0 rfl) ?_
    refine g_r 1 (k2 := 2) C hw (hR.f rfl) rfl fl_X11_18 rfl (hR.p0 1 (by decide)) dX11_metalAt_6 ?_
    refine a_n (v := 4) C hw (hR.f rfl) (by decide) (by decide) rfl dX11_metalAt_9 ?_
    refine lv_icmp_lt (tgt := 17) hx hb dX11_metalAt_10 (by decide) (fun c_10 => ?_) (fun c_10 => ?_)
    · obtain ⟨i0, hi0, rfl⟩ := n_lt (n := 4) (Int32.not_lt.mp c_1) c_10 (by decide)
      refine lv_aload_n hx hb dX11_metalAt_17 rfl (lv_at hl 0 rfl) ?_
      refine g_r 1 (k2 := 2) C hw (hR.f rfl) rfl fl_X11_18 rfl (hR.p0 1 (by decide)) dX11_metalAt_18 ?_
      refine lv_iload_n hx hb dX11_metalAt_21 rfl (lv_at hl 1 rfl) ?_
      refine n_r i0 (k2 := 3 + i0) (r := 18) C hw (hR.f rfl) rfl (by decide) rfl rfl (show _ < 4 by omega) (hR.pm (by omega)) dX11_metalAt_22 ?_
      exact r_a (v := some (B (3 + i0))) C hr hlk hw (Or.inl ⟨i0, by omega, rfl, rfl, rfl⟩) dX11_metalAt_23
    · refine lv_null hx hb dX11_metalAt_13 ?_
      refine lv_goto (tgt := 23) hx hb dX11_metalAt_14 (by decide) ?_
      exact r_a (v := none) C hr hlk hw (Or.inr ⟨fun i hi e => c_10 (by rw [e]; exact nI_lt (by omega) (by decide)), rfl, rfl⟩) dX11_metalAt_23

set_option maxHeartbeats 4000000 in
set_option maxRecDepth 100000 in
theorem c_X11_pullerAt (E : cE) (tt : Nat × Nat × Nat) {X : List Nat} (B : Nat → Nat) (F : tF) (G : tG) {P : tP} {nh : Nat → Nat} {nc no : Nat} {mt om : Nat → Nat} (hR : RC X P nh nc no mt om) (x0 : Int32)  : CT E tt yX11_pullerAt cX11_pullerAt 2 (some (.object "WireMill$Puller")) 0 0 0 [.ref (B (0)), .int (x0)] (wl E X B F G P) (fun r w => (∃ i : Nat, i < 3 ∧ x0 = nI i ∧ r = some (.ref (B (8 + i))) ∧ w = (wl E X B F G P)) ∨ ((∀ i : Nat, i < 3 → x0 ≠ nI i) ∧ r = some .null ∧ w = (wl E X B F G P))) := by
  refine CT.mk (by decide +kernel) (Nat.le_of_ble_eq_true rfl) ?_
  intro l p e s m below meth c A ls C hr hlk hnm hw hl
  have hx := C.1
  have hb := C.2.1
  have hts := C.2.2.2.2
  have hown : s.vm.findClass RX11 = some m.cls := C.2.2.2.1
  have hl : lv_has ls 2 [(0, .ref (B (0))), (1, .int (x0))] := hl
  refine lv_iload_n hx hb dX11_pullerAt_0 rfl (lv_at hl 1 rfl) ?_
  refine lv_if_lt (tgt := 13) hx hb dX11_pullerAt_1 (by decide) (fun c_1 => ?_) (fun c_1 => ?_)
  · refine lv_null hx hb dX11_pullerAt_13 ?_
    refine lv_goto (tgt := 23) hx hb dX11_pullerAt_14 (by decide) ?_
    exact r_a (v := none) C hr hlk hw (Or.inr ⟨fun i hi e => by rw [e] at c_1; exact nI_pos (by omega) c_1, rfl, rfl⟩) dX11_pullerAt_23
  · refine lv_iload_n hx hb dX11_pullerAt_4 rfl (lv_at hl 1 rfl) ?_
    refine lv_aload_n hx hb dX11_pullerAt_5 rfl (lv_at hl 0 rfl) ?_
    refine g_r 2 (k2 := 7) C hw (hR.f rfl) rfl fl_X11_24 rfl (hR.p0 2 (by decide)) dX11_pullerAt_6 ?_
    refine a_n (v := 3) C hw (hR.f rfl) (by decide) (by decide) rfl dX11_pullerAt_9 ?_
    refine lv_icmp_lt (tgt := 17) hx hb dX11_pullerAt_10 (by decide) (fun c_10 => ?_) (fun c_10 => ?_)
    · obtain ⟨i0, hi0, rfl⟩ := n_lt (n := 3) (Int32.not_lt.mp c_1) c_10 (by decide)
      refine lv_aload_n hx hb dX11_pullerAt_17 rfl (lv_at hl 0 rfl) ?_
      refine g_r 2 (k2 := 7) C hw (hR.f rfl) rfl fl_X11_24 rfl (hR.p0 2 (by decide)) dX11_pullerAt_18 ?_
      refine lv_iload_n hx hb dX11_pullerAt_21 rfl (lv_at hl 1 rfl) ?_
      refine n_r i0 (k2 := 8 + i0) (r := 21) C hw (hR.f rfl) rfl (by decide) rfl rfl (show _ < 3 by omega) (hR.pp (by omega)) dX11_pullerAt_22 ?_
      exact r_a (v := some (B (8 + i0))) C hr hlk hw (Or.inl ⟨i0, by omega, rfl, rfl, rfl⟩) dX11_pullerAt_23
    · refine lv_null hx hb dX11_pullerAt_13 ?_
      refine lv_goto (tgt := 23) hx hb dX11_pullerAt_14 (by decide) ?_
      exact r_a (v := none) C hr hlk hw (Or.inr ⟨fun i hi e => c_10 (by rw [e]; exact nI_lt (by omega) (by decide)), rfl, rfl⟩) dX11_pullerAt_23

set_option maxHeartbeats 4000000 in
set_option maxRecDepth 100000 in
theorem c_X11_plateAt (E : cE) (tt : Nat × Nat × Nat) {X : List Nat} (B : Nat → Nat) (F : tF) (G : tG) {P : tP} {nh : Nat → Nat} {nc no : Nat} {mt om : Nat → Nat} (hR : RC X P nh nc no mt om) (x0 : Int32)  : CT E tt yX11_plateAt cX11_plateAt 2 (some (.object "WireMill$Plate")) 0 0 0 [.ref (B (0)), .int (x0)] (wl E X B F G P) (fun r w => (∃ i : Nat, i < 4 ∧ x0 = nI i ∧ r = some (.ref (B (12 + i))) ∧ w = (wl E X B F G P)) ∨ ((∀ i : Nat, i < 4 → x0 ≠ nI i) ∧ r = some .null ∧ w = (wl E X B F G P))) := by
  refine CT.mk (by decide +kernel) (Nat.le_of_ble_eq_true rfl) ?_
  intro l p e s m below meth c A ls C hr hlk hnm hw hl
  have hx := C.1
  have hb := C.2.1
  have hts := C.2.2.2.2
  have hown : s.vm.findClass RX11 = some m.cls := C.2.2.2.1
  have hl : lv_has ls 2 [(0, .ref (B (0))), (1, .int (x0))] := hl
  refine lv_iload_n hx hb dX11_plateAt_0 rfl (lv_at hl 1 rfl) ?_
  refine lv_if_lt (tgt := 13) hx hb dX11_plateAt_1 (by decide) (fun c_1 => ?_) (fun c_1 => ?_)
  · refine lv_null hx hb dX11_plateAt_13 ?_
    refine lv_goto (tgt := 23) hx hb dX11_plateAt_14 (by decide) ?_
    exact r_a (v := none) C hr hlk hw (Or.inr ⟨fun i hi e => by rw [e] at c_1; exact nI_pos (by omega) c_1, rfl, rfl⟩) dX11_plateAt_23
  · refine lv_iload_n hx hb dX11_plateAt_4 rfl (lv_at hl 1 rfl) ?_
    refine lv_aload_n hx hb dX11_plateAt_5 rfl (lv_at hl 0 rfl) ?_
    refine g_r 3 (k2 := 11) C hw (hR.f rfl) rfl fl_X11_30 rfl (hR.p0 3 (by decide)) dX11_plateAt_6 ?_
    refine a_n (v := 4) C hw (hR.f rfl) (by decide) (by decide) rfl dX11_plateAt_9 ?_
    refine lv_icmp_lt (tgt := 17) hx hb dX11_plateAt_10 (by decide) (fun c_10 => ?_) (fun c_10 => ?_)
    · obtain ⟨i0, hi0, rfl⟩ := n_lt (n := 4) (Int32.not_lt.mp c_1) c_10 (by decide)
      refine lv_aload_n hx hb dX11_plateAt_17 rfl (lv_at hl 0 rfl) ?_
      refine g_r 3 (k2 := 11) C hw (hR.f rfl) rfl fl_X11_30 rfl (hR.p0 3 (by decide)) dX11_plateAt_18 ?_
      refine lv_iload_n hx hb dX11_plateAt_21 rfl (lv_at hl 1 rfl) ?_
      refine n_r i0 (k2 := 12 + i0) (r := 20) C hw (hR.f rfl) rfl (by decide) rfl rfl (show _ < 4 by omega) (hR.pl (by omega)) dX11_plateAt_22 ?_
      exact r_a (v := some (B (12 + i0))) C hr hlk hw (Or.inl ⟨i0, by omega, rfl, rfl, rfl⟩) dX11_plateAt_23
    · refine lv_null hx hb dX11_plateAt_13 ?_
      refine lv_goto (tgt := 23) hx hb dX11_plateAt_14 (by decide) ?_
      exact r_a (v := none) C hr hlk hw (Or.inr ⟨fun i hi e => c_10 (by rw [e]; exact nI_lt (by omega) (by decide)), rfl, rfl⟩) dX11_plateAt_23
