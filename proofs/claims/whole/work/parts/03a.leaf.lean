set_option maxHeartbeats 4000000 in
set_option maxRecDepth 100000 in
/-- least to most -/
theorem c_X12_within (E : cE) (tt : Nat × Nat × Nat) (ws : va_W) (v a b : Int32)  : CT E tt yX12_within cX12_within 3 (some .boolean) 0 0 0 [.int (v), .int (a), .int (b)] ws (fun r w => ((a ≤ v ∧ v ≤ b) ∧ r = some (.int 1) ∧ w = ws) ∨ (¬ (a ≤ v ∧ v ≤ b) ∧ r = some (.int 0) ∧ w = ws)) := by
  refine CT.mk (by decide +kernel) (Nat.le_of_ble_eq_true rfl) ?_
  intro l p e s m below meth c A ls C hr hlk hnm hw hl
  have hx := C.1
  have hb := C.2.1
  have hts := C.2.2.2.2
  have hown : s.vm.findClass RX12 = some m.cls := C.2.2.2.1
  have hl : lv_has ls 3 [(0, .int (v)), (1, .int (a)), (2, .int (b))] := hl
  refine lv_iload_n hx hb dX12_within_0 rfl (lv_at hl 0 rfl) ?_
  refine lv_iload_n hx hb dX12_within_1 rfl (lv_at hl 1 rfl) ?_
  refine lv_icmp_lt (tgt := 14) hx hb dX12_within_2 (by decide) (fun c_2 => ?_) (fun c_2 => ?_)
  · refine lv_iconst (v := 0) hx hb dX12_within_14 (by decide) ?_
    exact r_z C hr hlk hw rfl (Or.inr ⟨(by simp only [gt_iff_lt, ge_iff_le, Int32.lt_iff_toInt_lt, Int32.le_iff_toInt_le, ← Int32.toInt_inj, Int32.reduceToInt] at c_2 ⊢; omega), rfl, rfl⟩) dX12_within_15
  · refine lv_iload_n hx hb dX12_within_5 rfl (lv_at hl 0 rfl) ?_
    refine lv_iload_n hx hb dX12_within_6 rfl (lv_at hl 2 rfl) ?_
    refine lv_icmp_gt (tgt := 14) hx hb dX12_within_7 (by decide) (fun c_7 => ?_) (fun c_7 => ?_)
    · refine lv_iconst (v := 0) hx hb dX12_within_14 (by decide) ?_
      exact r_z C hr hlk hw rfl (Or.inr ⟨(by simp only [gt_iff_lt, ge_iff_le, Int32.lt_iff_toInt_lt, Int32.le_iff_toInt_le, ← Int32.toInt_inj, Int32.reduceToInt] at c_2 c_7 ⊢; omega), rfl, rfl⟩) dX12_within_15
    · refine lv_iconst (v := 1) hx hb dX12_within_10 (by decide) ?_
      refine lv_goto (tgt := 15) hx hb dX12_within_11 (by decide) ?_
      exact r_z C hr hlk hw rfl (Or.inl ⟨(by simp only [gt_iff_lt, ge_iff_le, Int32.lt_iff_toInt_lt, Int32.le_iff_toInt_le, ← Int32.toInt_inj, Int32.reduceToInt] at c_2 c_7 ⊢; omega), rfl, rfl⟩) dX12_within_15

set_option maxHeartbeats 4000000 in
set_option maxRecDepth 100000 in
/-- least to most -/
theorem c_X11_isWithin (E : cE) (tt : Nat × Nat × Nat) (ws : va_W) (v a b : Int32)  : CT E tt yX11_isWithin cX11_isWithin 3 (some .boolean) 0 0 0 [.int (v), .int (a), .int (b)] ws (fun r w => ((a ≤ v ∧ v ≤ b) ∧ r = some (.int 1) ∧ w = ws) ∨ (¬ (a ≤ v ∧ v ≤ b) ∧ r = some (.int 0) ∧ w = ws)) := by
  refine CT.mk (by decide +kernel) (Nat.le_of_ble_eq_true rfl) ?_
  intro l p e s m below meth c A ls C hr hlk hnm hw hl
  have hx := C.1
  have hb := C.2.1
  have hts := C.2.2.2.2
  have hown : s.vm.findClass RX11 = some m.cls := C.2.2.2.1
  have hl : lv_has ls 3 [(0, .int (v)), (1, .int (a)), (2, .int (b))] := hl
  refine lv_iload_n hx hb dX11_isWithin_0 rfl (lv_at hl 0 rfl) ?_
  refine lv_iload_n hx hb dX11_isWithin_1 rfl (lv_at hl 1 rfl) ?_
  refine lv_icmp_lt (tgt := 14) hx hb dX11_isWithin_2 (by decide) (fun c_2 => ?_) (fun c_2 => ?_)
  · refine lv_iconst (v := 0) hx hb dX11_isWithin_14 (by decide) ?_
    exact r_z C hr hlk hw rfl (Or.inr ⟨(by simp only [gt_iff_lt, ge_iff_le, Int32.lt_iff_toInt_lt, Int32.le_iff_toInt_le, ← Int32.toInt_inj, Int32.reduceToInt] at c_2 ⊢; omega), rfl, rfl⟩) dX11_isWithin_15
  · refine lv_iload_n hx hb dX11_isWithin_5 rfl (lv_at hl 0 rfl) ?_
    refine lv_iload_n hx hb dX11_isWithin_6 rfl (lv_at hl 2 rfl) ?_
    refine lv_icmp_gt (tgt := 14) hx hb dX11_isWithin_7 (by decide) (fun c_7 => ?_) (fun c_7 => ?_)
    · refine lv_iconst (v := 0) hx hb dX11_isWithin_14 (by decide) ?_
      exact r_z C hr hlk hw rfl (Or.inr ⟨(by simp only [gt_iff_lt, ge_iff_le, Int32.lt_iff_toInt_lt, Int32.le_iff_toInt_le, ← Int32.toInt_inj, Int32.reduceToInt] at c_2 c_7 ⊢; omega), rfl, rfl⟩) dX11_isWithin_15
    · refine lv_iconst (v := 1) hx hb dX11_isWithin_10 (by decide) ?_
      refine lv_goto (tgt := 15) hx hb dX11_isWithin_11 (by decide) ?_
      exact r_z C hr hlk hw rfl (Or.inl ⟨(by simp only [gt_iff_lt, ge_iff_le, Int32.lt_iff_toInt_lt, Int32.le_iff_toInt_le, ← Int32.toInt_inj, Int32.reduceToInt] at c_2 c_7 ⊢; omega), rfl, rfl⟩) dX11_isWithin_15

set_option maxHeartbeats 4000000 in
set_option maxRecDepth 100000 in
theorem c_X12_isMetal (E : cE) (tt : Nat × Nat × Nat) (ws : va_W) (v : Int32)  : CT E tt yX12_isMetal cX12_isMetal 1 (some .boolean) 1 0 0 [.int (v)] ws (fun r w => ((0 ≤ v ∧ v ≤ 3) ∧ r = some (.int 1) ∧ w = ws) ∨ (¬ (0 ≤ v ∧ v ≤ 3) ∧ r = some (.int 0) ∧ w = ws)) := by
  refine CT.mk (by decide +kernel) (Nat.le_of_ble_eq_true rfl) ?_
  intro l p e s m below meth c A ls C hr hlk hnm hw hl
  have hx := C.1
  have hb := C.2.1
  have hts := C.2.2.2.2
  have hown : s.vm.findClass RX12 = some m.cls := C.2.2.2.1
  have hl : lv_has ls 1 [(0, .int (v))] := hl
  refine lv_iload_n hx hb dX12_isMetal_0 rfl (lv_at hl 0 rfl) ?_
  refine lv_iconst (v := 0) hx hb dX12_isMetal_1 (by decide) ?_
  refine lv_iconst (v := 3) hx hb dX12_isMetal_2 (by decide) ?_
  refine kS C hw (c_X12_within E tt _ (v) (0) (3)) vy_X12_within ml_X12_123 rfl hl.1 (rest := []) rfl dX12_isMetal_3 (Nat.le_of_ble_eq_true rfl) ⟨by decide, by decide⟩ ⟨Nat.le_of_ble_eq_true rfl, Nat.le_of_ble_eq_true rfl⟩ (fun v_3 ws_3 H locs hp_3 hq_3 => ?_)
  clear hw
  rcases hp_3 with ⟨h_3, rfl, rfl⟩ | ⟨h_3, rfl, rfl⟩
  · have hw := hq_3
    refine W.eq (g2 := F0 m 6 ls [.int (1)]) rfl ?_
    exact r_z C hr hlk hw rfl (Or.inl ⟨h_3, rfl, rfl⟩) dX12_isMetal_6
  · have hw := hq_3
    refine W.eq (g2 := F0 m 6 ls [.int (0)]) rfl ?_
    exact r_z C hr hlk hw rfl (Or.inr ⟨h_3, rfl, rfl⟩) dX12_isMetal_6

set_option maxHeartbeats 4000000 in
set_option maxRecDepth 100000 in
theorem c_X12_isPuller (E : cE) (tt : Nat × Nat × Nat) (ws : va_W) (v : Int32)  : CT E tt yX12_isPuller cX12_isPuller 1 (some .boolean) 1 0 0 [.int (v)] ws (fun r w => ((0 ≤ v ∧ v ≤ 2) ∧ r = some (.int 1) ∧ w = ws) ∨ (¬ (0 ≤ v ∧ v ≤ 2) ∧ r = some (.int 0) ∧ w = ws)) := by
  refine CT.mk (by decide +kernel) (Nat.le_of_ble_eq_true rfl) ?_
  intro l p e s m below meth c A ls C hr hlk hnm hw hl
  have hx := C.1
  have hb := C.2.1
  have hts := C.2.2.2.2
  have hown : s.vm.findClass RX12 = some m.cls := C.2.2.2.1
  have hl : lv_has ls 1 [(0, .int (v))] := hl
  refine lv_iload_n hx hb dX12_isPuller_0 rfl (lv_at hl 0 rfl) ?_
  refine lv_iconst (v := 0) hx hb dX12_isPuller_1 (by decide) ?_
  refine lv_iconst (v := 2) hx hb dX12_isPuller_2 (by decide) ?_
  refine kS C hw (c_X12_within E tt _ (v) (0) (2)) vy_X12_within ml_X12_123 rfl hl.1 (rest := []) rfl dX12_isPuller_3 (Nat.le_of_ble_eq_true rfl) ⟨by decide, by decide⟩ ⟨Nat.le_of_ble_eq_true rfl, Nat.le_of_ble_eq_true rfl⟩ (fun v_3 ws_3 H locs hp_3 hq_3 => ?_)
  clear hw
  rcases hp_3 with ⟨h_3, rfl, rfl⟩ | ⟨h_3, rfl, rfl⟩
  · have hw := hq_3
    refine W.eq (g2 := F0 m 6 ls [.int (1)]) rfl ?_
    exact r_z C hr hlk hw rfl (Or.inl ⟨h_3, rfl, rfl⟩) dX12_isPuller_6
  · have hw := hq_3
    refine W.eq (g2 := F0 m 6 ls [.int (0)]) rfl ?_
    exact r_z C hr hlk hw rfl (Or.inr ⟨h_3, rfl, rfl⟩) dX12_isPuller_6

set_option maxHeartbeats 4000000 in
set_option maxRecDepth 100000 in
theorem c_X12_isSize (E : cE) (tt : Nat × Nat × Nat) (ws : va_W) (v : Int32)  : CT E tt yX12_isSize cX12_isSize 1 (some .boolean) 1 0 0 [.int (v)] ws (fun r w => ((20 ≤ v ∧ v ≤ 1000) ∧ r = some (.int 1) ∧ w = ws) ∨ (¬ (20 ≤ v ∧ v ≤ 1000) ∧ r = some (.int 0) ∧ w = ws)) := by
  refine CT.mk (by decide +kernel) (Nat.le_of_ble_eq_true rfl) ?_
  intro l p e s m below meth c A ls C hr hlk hnm hw hl
  have hx := C.1
  have hb := C.2.1
  have hts := C.2.2.2.2
  have hown : s.vm.findClass RX12 = some m.cls := C.2.2.2.1
  have hl : lv_has ls 1 [(0, .int (v))] := hl
  refine lv_iload_n hx hb dX12_isSize_0 rfl (lv_at hl 0 rfl) ?_
  refine lv_bipush (v := 20) hx hb dX12_isSize_1 (by decide) ?_
  refine lv_sipush (v := 1000) hx hb dX12_isSize_3 (by decide) ?_
  refine kS C hw (c_X12_within E tt _ (v) (20) (1000)) vy_X12_within ml_X12_123 rfl hl.1 (rest := []) rfl dX12_isSize_6 (Nat.le_of_ble_eq_true rfl) ⟨by decide, by decide⟩ ⟨Nat.le_of_ble_eq_true rfl, Nat.le_of_ble_eq_true rfl⟩ (fun v_6 ws_6 H locs hp_6 hq_6 => ?_)
  clear hw
  rcases hp_6 with ⟨h_6, rfl, rfl⟩ | ⟨h_6, rfl, rfl⟩
  · have hw := hq_6
    refine W.eq (g2 := F0 m 9 ls [.int (1)]) rfl ?_
    exact r_z C hr hlk hw rfl (Or.inl ⟨h_6, rfl, rfl⟩) dX12_isSize_9
  · have hw := hq_6
    refine W.eq (g2 := F0 m 9 ls [.int (0)]) rfl ?_
    exact r_z C hr hlk hw rfl (Or.inr ⟨h_6, rfl, rfl⟩) dX12_isSize_9

set_option maxHeartbeats 4000000 in
set_option maxRecDepth 100000 in
theorem c_X11_isSize (E : cE) (tt : Nat × Nat × Nat) (ws : va_W) (v : Int32)  : CT E tt yX11_isSize cX11_isSize 1 (some .boolean) 1 0 0 [.int (v)] ws (fun r w => ((20 ≤ v ∧ v ≤ 1000) ∧ r = some (.int 1) ∧ w = ws) ∨ (¬ (20 ≤ v ∧ v ≤ 1000) ∧ r = some (.int 0) ∧ w = ws)) := by
  refine CT.mk (by decide +kernel) (Nat.le_of_ble_eq_true rfl) ?_
  intro l p e s m below meth c A ls C hr hlk hnm hw hl
  have hx := C.1
  have hb := C.2.1
  have hts := C.2.2.2.2
  have hown : s.vm.findClass RX11 = some m.cls := C.2.2.2.1
  have hl : lv_has ls 1 [(0, .int (v))] := hl
  refine lv_iload_n hx hb dX11_isSize_0 rfl (lv_at hl 0 rfl) ?_
  refine lv_bipush (v := 20) hx hb dX11_isSize_1 (by decide) ?_
  refine lv_sipush (v := 1000) hx hb dX11_isSize_3 (by decide) ?_
  refine kS C hw (c_X11_isWithin E tt _ (v) (20) (1000)) vy_X11_isWithin ml_X11_89 rfl hl.1 (rest := []) rfl dX11_isSize_6 (Nat.le_of_ble_eq_true rfl) ⟨by decide, by decide⟩ ⟨Nat.le_of_ble_eq_true rfl, Nat.le_of_ble_eq_true rfl⟩ (fun v_6 ws_6 H locs hp_6 hq_6 => ?_)
  clear hw
  rcases hp_6 with ⟨h_6, rfl, rfl⟩ | ⟨h_6, rfl, rfl⟩
  · have hw := hq_6
    refine W.eq (g2 := F0 m 9 ls [.int (1)]) rfl ?_
    exact r_z C hr hlk hw rfl (Or.inl ⟨h_6, rfl, rfl⟩) dX11_isSize_9
  · have hw := hq_6
    refine W.eq (g2 := F0 m 9 ls [.int (0)]) rfl ?_
    exact r_z C hr hlk hw rfl (Or.inr ⟨h_6, rfl, rfl⟩) dX11_isSize_9

set_option maxHeartbeats 4000000 in
set_option maxRecDepth 100000 in
theorem c_X11_isCause (E : cE) (tt : Nat × Nat × Nat) (ws : va_W) (v : Int32)  : CT E tt yX11_isCause cX11_isCause 1 (some .boolean) 1 0 0 [.int (v)] ws (fun r w => ((0 ≤ v ∧ v ≤ 2) ∧ r = some (.int 1) ∧ w = ws) ∨ (¬ (0 ≤ v ∧ v ≤ 2) ∧ r = some (.int 0) ∧ w = ws)) := by
  refine CT.mk (by decide +kernel) (Nat.le_of_ble_eq_true rfl) ?_
  intro l p e s m below meth c A ls C hr hlk hnm hw hl
  have hx := C.1
  have hb := C.2.1
  have hts := C.2.2.2.2
  have hown : s.vm.findClass RX11 = some m.cls := C.2.2.2.1
  have hl : lv_has ls 1 [(0, .int (v))] := hl
  refine lv_iload_n hx hb dX11_isCause_0 rfl (lv_at hl 0 rfl) ?_
  refine lv_iconst (v := 0) hx hb dX11_isCause_1 (by decide) ?_
  refine lv_iconst (v := 2) hx hb dX11_isCause_2 (by decide) ?_
  refine kS C hw (c_X11_isWithin E tt _ (v) (0) (2)) vy_X11_isWithin ml_X11_89 rfl hl.1 (rest := []) rfl dX11_isCause_3 (Nat.le_of_ble_eq_true rfl) ⟨by decide, by decide⟩ ⟨Nat.le_of_ble_eq_true rfl, Nat.le_of_ble_eq_true rfl⟩ (fun v_3 ws_3 H locs hp_3 hq_3 => ?_)
  clear hw
  rcases hp_3 with ⟨h_3, rfl, rfl⟩ | ⟨h_3, rfl, rfl⟩
  · have hw := hq_3
    refine W.eq (g2 := F0 m 6 ls [.int (1)]) rfl ?_
    exact r_z C hr hlk hw rfl (Or.inl ⟨h_3, rfl, rfl⟩) dX11_isCause_6
  · have hw := hq_3
    refine W.eq (g2 := F0 m 6 ls [.int (0)]) rfl ?_
    exact r_z C hr hlk hw rfl (Or.inr ⟨h_3, rfl, rfl⟩) dX11_isCause_6
