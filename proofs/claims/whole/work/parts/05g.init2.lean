set_option maxHeartbeats 4000000 in
set_option maxRecDepth 100000 in
theorem c_X10_init (E : cE) (tt : Nat × Nat × Nat) {X : List Nat} (B : Nat → Nat) (F : tF) (G : tG) (P : tP) (hcl : closed X P) (h1 : 1 ∈ X)  : CT E tt yX10_init cX10_init 1 none 1 0 0 [.ref (B (1))] (wl E X B F G P) (fun r w => r = none ∧ w = wl E X B (uF (uF (uF (uF (uF (uF F 1 0 20) 1 1 80) 1 2 10) 1 3 60) 1 4 2) 1 5 5) G P) := by
  refine CT.mk (by decide +kernel) (Nat.le_of_ble_eq_true rfl) ?_
  intro l p e s m below meth c A ls C hr hlk hnm hw hl
  have hx := C.1
  have hb := C.2.1
  have hts := C.2.2.2.2
  have hown : s.vm.findClass RX10 = some m.cls := C.2.2.2.1
  have hl : lv_has ls 1 [(0, .ref (B (1)))] := hl
  refine lv_aload_n hx hb dX10_init_0 rfl (lv_at hl 0 rfl) ?_
  refine W.objInit hx hb hown (hts _ ml_X10_1) (hts _ ob_i) (hts _ ob_c) rfl (by rw [C.2.2.1]; exact hl.1) rfl dX10_init_1 (Nat.le_of_ble_eq_true rfl) (Nat.le_of_ble_eq_true rfl) ?_
  refine W.eq (g2 := F0 m 4 ls []) rfl ?_
  refine lv_aload_n hx hb dX10_init_4 rfl (lv_at hl 0 rfl) ?_
  refine lv_bipush (v := 20) hx hb dX10_init_5 (by decide) ?_
  refine p_i 0 C hw h1 rfl fl_X10_7 fc_10 fn_10_0 (fun h9 => by cases h9) rfl rfl rfl dX10_init_7 (fun H locs hw => ?_)
  refine lv_aload_n hx hb dX10_init_10 rfl (lv_at hl 0 rfl) ?_
  refine lv_bipush (v := 80) hx hb dX10_init_11 (by decide) ?_
  refine p_i 1 C hw h1 rfl fl_X10_13 fc_10 fn_10_1 (fun h9 => by cases h9) rfl rfl rfl dX10_init_13 (fun H locs hw => ?_)
  refine lv_aload_n hx hb dX10_init_16 rfl (lv_at hl 0 rfl) ?_
  refine lv_bipush (v := 10) hx hb dX10_init_17 (by decide) ?_
  refine p_i 2 C hw h1 rfl fl_X10_16 fc_10 fn_10_2 (fun h9 => by cases h9) rfl rfl rfl dX10_init_19 (fun H locs hw => ?_)
  refine lv_aload_n hx hb dX10_init_22 rfl (lv_at hl 0 rfl) ?_
  refine lv_bipush (v := 60) hx hb dX10_init_23 (by decide) ?_
  refine p_i 3 C hw h1 rfl fl_X10_19 fc_10 fn_10_3 (fun h9 => by cases h9) rfl rfl rfl dX10_init_25 (fun H locs hw => ?_)
  refine lv_aload_n hx hb dX10_init_28 rfl (lv_at hl 0 rfl) ?_
  refine lv_iconst (v := 2) hx hb dX10_init_29 (by decide) ?_
  refine p_i 4 C hw h1 rfl fl_X10_22 fc_10 fn_10_4 (fun h9 => by cases h9) rfl rfl rfl dX10_init_30 (fun H locs hw => ?_)
  refine lv_aload_n hx hb dX10_init_33 rfl (lv_at hl 0 rfl) ?_
  refine lv_iconst (v := 5) hx hb dX10_init_34 (by decide) ?_
  refine p_i 5 C hw h1 rfl fl_X10_25 fc_10 fn_10_5 (fun h9 => by cases h9) rfl rfl rfl dX10_init_35 (fun H locs hw => ?_)
  exact r_v C hr hlk hw ⟨rfl, rfl⟩ dX10_init_38

set_option maxHeartbeats 4000000 in
set_option maxRecDepth 100000 in
theorem c_X4_init (E : cE) (tt : Nat × Nat × Nat) {X : List Nat} (B : Nat → Nat) (F : tF) (G : tG) (P : tP) (hcl : closed X P) {k : Nat} (hk : k ∈ X) (hK : kd k = 4) (n0 : Int32)  : CT E tt yX4_init cX4_init 2 none 1 0 0 [.ref (B (k)), .int (n0)] (wl E X B F G P) (fun r w => r = none ∧ w = wl E X B (uF (uF (uF (uF (uF (uF F k 1 100) k 2 100) k 3 60) k 4 10) k 5 5) k 0 n0) G P) := by
  refine CT.mk (by decide +kernel) (Nat.le_of_ble_eq_true rfl) ?_
  intro l p e s m below meth c A ls C hr hlk hnm hw hl
  have hx := C.1
  have hb := C.2.1
  have hts := C.2.2.2.2
  have hown : s.vm.findClass RX4 = some m.cls := C.2.2.2.1
  have hl : lv_has ls 2 [(0, .ref (B (k))), (1, .int (n0))] := hl
  refine lv_aload_n hx hb dX4_init_0 rfl (lv_at hl 0 rfl) ?_
  refine W.objInit hx hb hown (hts _ ml_X4_1) (hts _ ob_i) (hts _ ob_c) rfl (by rw [C.2.2.1]; exact hl.1) rfl dX4_init_1 (Nat.le_of_ble_eq_true rfl) (Nat.le_of_ble_eq_true rfl) ?_
  refine W.eq (g2 := F0 m 4 ls []) rfl ?_
  refine lv_aload_n hx hb dX4_init_4 rfl (lv_at hl 0 rfl) ?_
  refine lv_bipush (v := 100) hx hb dX4_init_5 (by decide) ?_
  refine p_i 1 C hw hk hK fl_X4_7 fc_4 fn_4_1 (fun h9 => by cases h9) rfl rfl rfl dX4_init_7 (fun H locs hw => ?_)
  refine lv_aload_n hx hb dX4_init_10 rfl (lv_at hl 0 rfl) ?_
  refine lv_bipush (v := 100) hx hb dX4_init_11 (by decide) ?_
  refine p_i 2 C hw hk hK fl_X4_13 fc_4 fn_4_2 (fun h9 => by cases h9) rfl rfl rfl dX4_init_13 (fun H locs hw => ?_)
  refine lv_aload_n hx hb dX4_init_16 rfl (lv_at hl 0 rfl) ?_
  refine lv_bipush (v := 60) hx hb dX4_init_17 (by decide) ?_
  refine p_i 3 C hw hk hK fl_X4_16 fc_4 fn_4_3 (fun h9 => by cases h9) rfl rfl rfl dX4_init_19 (fun H locs hw => ?_)
  refine lv_aload_n hx hb dX4_init_22 rfl (lv_at hl 0 rfl) ?_
  refine lv_bipush (v := 10) hx hb dX4_init_23 (by decide) ?_
  refine p_i 4 C hw hk hK fl_X4_19 fc_4 fn_4_4 (fun h9 => by cases h9) rfl rfl rfl dX4_init_25 (fun H locs hw => ?_)
  refine lv_aload_n hx hb dX4_init_28 rfl (lv_at hl 0 rfl) ?_
  refine lv_iconst (v := 5) hx hb dX4_init_29 (by decide) ?_
  refine p_i 5 C hw hk hK fl_X4_22 fc_4 fn_4_5 (fun h9 => by cases h9) rfl rfl rfl dX4_init_30 (fun H locs hw => ?_)
  refine lv_aload_n hx hb dX4_init_33 rfl (lv_at hl 0 rfl) ?_
  refine lv_iload_n hx hb dX4_init_34 rfl (lv_at hl 1 rfl) ?_
  refine p_i 0 C hw hk hK fl_X4_25 fc_4 fn_4_0 (fun _ => ⟨hnm, (RX4, TX4, 6), rfl, rfl⟩) rfl rfl rfl dX4_init_35 (fun H locs hw => ?_)
  exact r_v C hr hlk hw ⟨rfl, rfl⟩ dX4_init_38

set_option maxHeartbeats 4000000 in
set_option maxRecDepth 100000 in
theorem c_X8_init (E : cE) (tt : Nat × Nat × Nat) {X : List Nat} (B : Nat → Nat) (F : tF) (G : tG) (P : tP) (hcl : closed X P) {k : Nat} (hk : k ∈ X) (hK : kd k = 8) (b0 : Int32) (hb0 : zok b0)  : CT E tt yX8_init cX8_init 2 none 1 0 0 [.ref (B (k)), .int (b0)] (wl E X B F G P) (fun r w => r = none ∧ w = wl E X B (uF (uF F k 2 10) k 0 b0) G P) := by
  refine CT.mk (by decide +kernel) (Nat.le_of_ble_eq_true rfl) ?_
  intro l p e s m below meth c A ls C hr hlk hnm hw hl
  have hx := C.1
  have hb := C.2.1
  have hts := C.2.2.2.2
  have hown : s.vm.findClass RX8 = some m.cls := C.2.2.2.1
  have hl : lv_has ls 2 [(0, .ref (B (k))), (1, .int (b0))] := hl
  refine lv_aload_n hx hb dX8_init_0 rfl (lv_at hl 0 rfl) ?_
  refine W.objInit hx hb hown (hts _ ml_X8_1) (hts _ ob_i) (hts _ ob_c) rfl (by rw [C.2.2.1]; exact hl.1) rfl dX8_init_1 (Nat.le_of_ble_eq_true rfl) (Nat.le_of_ble_eq_true rfl) ?_
  refine W.eq (g2 := F0 m 4 ls []) rfl ?_
  refine lv_aload_n hx hb dX8_init_4 rfl (lv_at hl 0 rfl) ?_
  refine lv_bipush (v := 10) hx hb dX8_init_5 (by decide) ?_
  refine p_i 2 C hw hk hK fl_X8_7 fc_8 fn_8_2 (fun h9 => by cases h9) rfl rfl rfl dX8_init_7 (fun H locs hw => ?_)
  refine lv_aload_n hx hb dX8_init_10 rfl (lv_at hl 0 rfl) ?_
  refine lv_iload_n hx hb dX8_init_11 rfl (lv_at hl 1 rfl) ?_
  refine p_i 0 C hw hk hK fl_X8_13 fc_8 fn_8_0 (fun _ => ⟨hnm, (RX8, TX8, 4), rfl, rfl⟩) rfl hb0.1 hb0.2 dX8_init_12 (fun H locs hw => ?_)
  exact r_v C hr hlk hw ⟨rfl, rfl⟩ dX8_init_15

set_option maxHeartbeats 4000000 in
set_option maxRecDepth 100000 in
theorem c_X2_init (E : cE) (tt : Nat × Nat × Nat) {X : List Nat} (B : Nat → Nat) (F : tF) (G : tG) (P : tP) (hcl : closed X P) (h79 : 79 ∈ X) (h1 : 1 ∈ X)  : CT E tt yX2_init cX2_init 2 none 1 0 0 [.ref (B (79)), .ref (B (1))] (wl E X B F G P) (fun r w => r = none ∧ w = wl E X B F G (uP P 79 0 (some 1))) := by
  refine CT.mk (by decide +kernel) (Nat.le_of_ble_eq_true rfl) ?_
  intro l p e s m below meth c A ls C hr hlk hnm hw hl
  have hx := C.1
  have hb := C.2.1
  have hts := C.2.2.2.2
  have hown : s.vm.findClass RX2 = some m.cls := C.2.2.2.1
  have hl : lv_has ls 2 [(0, .ref (B (79))), (1, .ref (B (1)))] := hl
  refine lv_aload_n hx hb dX2_init_0 rfl (lv_at hl 0 rfl) ?_
  refine W.objInit hx hb hown (hts _ ml_X2_3) (hts _ ob_i) (hts _ ob_c) rfl (by rw [C.2.2.1]; exact hl.1) rfl dX2_init_1 (Nat.le_of_ble_eq_true rfl) (Nat.le_of_ble_eq_true rfl) ?_
  refine W.eq (g2 := F0 m 4 ls []) rfl ?_
  refine lv_aload_n hx hb dX2_init_4 rfl (lv_at hl 0 rfl) ?_
  refine lv_aload_n hx hb dX2_init_5 rfl (lv_at hl 1 rfl) ?_
  refine p_r 0 C hw h79 rfl fl_X2_9 fc_2 fn_2_0 (fun _ => ⟨hnm, (RX2, TX2, 5), rfl, rfl⟩) rfl (fun _ => rfl) (fun _ => rfl) dX2_init_6 (fun H locs hw => ?_)
  have hcl := closed_u (a := 79) (b := 0) hcl h1
  exact r_v C hr hlk hw ⟨rfl, rfl⟩ dX2_init_9

set_option maxHeartbeats 4000000 in
set_option maxRecDepth 100000 in
theorem c_X7_init (E : cE) (tt : Nat × Nat × Nat) {X : List Nat} (B : Nat → Nat) (F : tF) (G : tG) (P : tP) (hcl : closed X P) {i : Nat} (hi : i < 4) (hk : 12 + i ∈ X) (hnk : 16 + i ∉ X)  : CT E tt yX7_init cX7_init 1 none 1 1 8 [.ref (B (12 + i))] (wl E X B F G P) (fun r w => r = none ∧ ∃ B1 : Nat → Nat, (∀ z, z ≠ 16 + i → B1 z = B z) ∧ closed (X ++ [16 + i]) (uP (zP P (16 + i)) (12 + i) 0 (some (16 + i))) ∧ w = wl E (X ++ [16 + i]) B1 (zF F (16 + i)) (zG G (16 + i)) (uP (zP P (16 + i)) (12 + i) 0 (some (16 + i)))) := by
  refine CT.mk (by decide +kernel) (Nat.le_of_ble_eq_true rfl) ?_
  intro l p e s m below meth c A ls C hr hlk hnm hw hl
  have hx := C.1
  have hb := C.2.1
  have hts := C.2.2.2.2
  have hown : s.vm.findClass RX7 = some m.cls := C.2.2.2.1
  have hl : lv_has ls 1 [(0, .ref (B (12 + i)))] := hl
  refine lv_aload_n hx hb dX7_init_0 rfl (lv_at hl 0 rfl) ?_
  refine W.objInit hx hb hown (hts _ ml_X7_3) (hts _ ob_i) (hts _ ob_c) rfl (by rw [C.2.2.1]; exact hl.1) rfl dX7_init_1 (Nat.le_of_ble_eq_true rfl) (Nat.le_of_ble_eq_true rfl) ?_
  refine W.eq (g2 := F0 m 4 ls []) rfl ?_
  refine lv_aload_n hx hb dX7_init_4 rfl (lv_at hl 0 rfl) ?_
  refine lv_bipush (v := 8) hx hb dX7_init_5 (by decide) ?_
  refine al_q (16 + i) (r := 17) C hw hnk (noref_c hcl hnk) (kd_harr hi) (by decide) rfl cl_X7_9 (by decide +kernel) (by decide) (by rw [ln_harr hi]; rfl) (by rw [ln_harr hi]; decide) (Nat.le_of_ble_eq_true rfl) (by rw [ln_harr hi]; decide) dX7_init_7 (fun B H hB_7 hw => ?_)
  have hl : lv_has ls 1 [(0, .ref (B (12 + i)))] := by rw [hB_7 (12 + i) (by omega)]; exact hl
  refine W.eq (g2 := F0 m 10 ls [.ref (B (16 + i)), .ref (B (12 + i))]) (by rw [hB_7 (12 + i) (by omega)]) ?_
  have hcl := closed_z (k := 16 + i) hcl
  rw [ln_harr hi]
  refine p_r 0 C hw (mem_l hk) (kd_plate hi) fl_X7_11 fc_7 fn_7_0 (fun _ => ⟨hnm, (RX7, TX7, 2), rfl, rfl⟩) rfl (fun _ => rfl) (fun _ => rfl) dX7_init_10 (fun H locs hw => ?_)
  have hcl := closed_u (a := 12 + i) (b := 0) hcl mem_k
  exact r_v C hr hlk hw ⟨rfl, B, (fun z hz7 => by rw [hB_7 z hz7]), hcl, rfl⟩ dX7_init_13

set_option maxHeartbeats 4000000 in
set_option maxRecDepth 100000 in
theorem c_X5_init (E : cE) (tt : Nat × Nat × Nat) {X : List Nat} (B : Nat → Nat) (F : tF) (G : tG) (P : tP) (hcl : closed X P) (h76 : 76 ∈ X) (hX : ∀ k, 77 ≤ k ∧ k ≤ 78 → k ∉ X)  : CT E tt yX5_init cX5_init 1 none 1 2 16 [.ref (B (76))] (wl E X B F G P) (fun r w => r = none ∧ ∃ B1 : Nat → Nat, (∀ z, z ≠ 77 → z ≠ 78 → B1 z = B z) ∧ closed ((X ++ [77]) ++ [78]) (uP (zP (uP (zP P 77) 76 0 (some 77)) 78) 76 1 (some 78)) ∧ w = wl E ((X ++ [77]) ++ [78]) B1 (zF (zF F (77)) (78)) (zG (zG G (77)) (78)) (uP (zP (uP (zP P 77) 76 0 (some 77)) 78) 76 1 (some 78))) := by
  refine CT.mk (by decide +kernel) (Nat.le_of_ble_eq_true rfl) ?_
  intro l p e s m below meth c A ls C hr hlk hnm hw hl
  have hx := C.1
  have hb := C.2.1
  have hts := C.2.2.2.2
  have hown : s.vm.findClass RX5 = some m.cls := C.2.2.2.1
  have hl : lv_has ls 1 [(0, .ref (B (76)))] := hl
  refine lv_aload_n hx hb dX5_init_0 rfl (lv_at hl 0 rfl) ?_
  refine W.objInit hx hb hown (hts _ ml_X5_3) (hts _ ob_i) (hts _ ob_c) rfl (by rw [C.2.2.1]; exact hl.1) rfl dX5_init_1 (Nat.le_of_ble_eq_true rfl) (Nat.le_of_ble_eq_true rfl) ?_
  refine W.eq (g2 := F0 m 4 ls []) rfl ?_
  refine lv_aload_n hx hb dX5_init_4 rfl (lv_at hl 0 rfl) ?_
  refine lv_bipush (v := 8) hx hb dX5_init_5 (by decide) ?_
  refine al_i (77) C hw (hX 77 (by decide)) (noref_c hcl (hX 77 (by decide))) rfl (by decide) rfl (by decide) (Nat.le_of_ble_eq_true rfl) (Nat.le_of_ble_eq_true rfl) dX5_init_7 (fun B H hB_7 hw => ?_)
  have hl : lv_has ls 1 [(0, .ref (B (76)))] := by rw [hB_7 (76) (by decide)]; exact hl
  refine W.eq (g2 := F0 m 9 ls [.ref (B (77)), .ref (B (76))]) (by rw [hB_7 (76) (by decide)]) ?_
  have hcl := closed_z (k := 77) hcl
  refine p_r 0 C hw (mem_l h76) rfl fl_X5_11 fc_5 fn_5_0 (fun _ => ⟨hnm, (RX5, TX5, 3), rfl, rfl⟩) rfl (fun _ => rfl) (fun _ => rfl) dX5_init_9 (fun H locs hw => ?_)
  have hcl := closed_u (a := 76) (b := 0) hcl mem_k
  refine lv_aload_n hx hb dX5_init_12 rfl (lv_at hl 0 rfl) ?_
  refine lv_bipush (v := 8) hx hb dX5_init_13 (by decide) ?_
  refine al_i (78) C hw (notin_a (hX 78 (by decide)) (by decide)) (noref_c hcl (notin_a (hX 78 (by decide)) (by decide))) rfl (by decide) rfl (by decide) (Nat.le_of_ble_eq_true rfl) (Nat.le_of_ble_eq_true rfl) dX5_init_15 (fun B H hB_15 hw => ?_)
  have hl : lv_has ls 1 [(0, .ref (B (76)))] := by rw [hB_15 (76) (by decide)]; exact hl
  refine W.eq (g2 := F0 m 17 ls [.ref (B (78)), .ref (B (76))]) (by rw [hB_15 (76) (by decide)]) ?_
  have hcl := closed_z (k := 78) hcl
  refine p_r 1 C hw (mem_l (mem_l h76)) rfl fl_X5_15 fc_5 fn_5_1 (fun _ => ⟨hnm, (RX5, TX5, 3), rfl, rfl⟩) rfl (fun _ => rfl) (fun _ => rfl) dX5_init_17 (fun H locs hw => ?_)
  have hcl := closed_u (a := 76) (b := 1) hcl mem_k
  exact r_v C hr hlk hw ⟨rfl, B, (fun z hz7 hz15 => by rw [hB_15 z hz15, hB_7 z hz7]), hcl, rfl⟩ dX5_init_20

set_option maxHeartbeats 4000000 in
set_option maxRecDepth 100000 in
theorem c_X9_init (E : cE) (tt : Nat × Nat × Nat) {X : List Nat} (B : Nat → Nat) (F : tF) (G : tG) (P : tP) (hcl : closed X P) (h80 : 80 ∈ X) (h79 : 79 ∈ X) (hX : ∀ k, 81 ≤ k ∧ k ≤ 82 → k ∉ X)  : CT E tt yX9_init cX9_init 2 none 1 2 926 [.ref (B (80)), .ref (B (79))] (wl E X B F G P) (fun r w => r = none ∧ ∃ B1 : Nat → Nat, (∀ z, z ≠ 81 → z ≠ 82 → B1 z = B z) ∧ closed ((X ++ [81]) ++ [82]) (uP (uP (zP (uP (zP P 81) 80 1 (some 81)) 82) 80 2 (some 82)) 80 0 (some 79)) ∧ w = wl E ((X ++ [81]) ++ [82]) B1 (zF (zF F (81)) (82)) (zG (zG G (81)) (82)) (uP (uP (zP (uP (zP P 81) 80 1 (some 81)) 82) 80 2 (some 82)) 80 0 (some 79))) := by
  refine CT.mk (by decide +kernel) (Nat.le_of_ble_eq_true rfl) ?_
  intro l p e s m below meth c A ls C hr hlk hnm hw hl
  have hx := C.1
  have hb := C.2.1
  have hts := C.2.2.2.2
  have hown : s.vm.findClass RX9 = some m.cls := C.2.2.2.1
  have hl : lv_has ls 2 [(0, .ref (B (80))), (1, .ref (B (79)))] := hl
  refine lv_aload_n hx hb dX9_init_0 rfl (lv_at hl 0 rfl) ?_
  refine W.objInit hx hb hown (hts _ ml_X9_3) (hts _ ob_i) (hts _ ob_c) rfl (by rw [C.2.2.1]; exact hl.1) rfl dX9_init_1 (Nat.le_of_ble_eq_true rfl) (Nat.le_of_ble_eq_true rfl) ?_
  refine W.eq (g2 := F0 m 4 ls []) rfl ?_
  refine lv_aload_n hx hb dX9_init_4 rfl (lv_at hl 0 rfl) ?_
  refine lv_sipush (v := 909) hx hb dX9_init_5 (by decide) ?_
  refine al_i (81) C hw (hX 81 (by decide)) (noref_c hcl (hX 81 (by decide))) rfl (by decide) rfl (by decide) (Nat.le_of_ble_eq_true rfl) (Nat.le_of_ble_eq_true rfl) dX9_init_8 (fun B H hB_8 hw => ?_)
  have hl : lv_has ls 2 [(0, .ref (B (80))), (1, .ref (B (79)))] := by rw [hB_8 (80) (by decide), hB_8 (79) (by decide)]; exact hl
  refine W.eq (g2 := F0 m 10 ls [.ref (B (81)), .ref (B (80))]) (by rw [hB_8 (80) (by decide)]) ?_
  have hcl := closed_z (k := 81) hcl
  refine p_r 1 C hw (mem_l h80) rfl fl_X9_11 fc_9 fn_9_1 (fun _ => ⟨hnm, (RX9, TX9, 9), rfl, rfl⟩) rfl (fun _ => rfl) (fun _ => rfl) dX9_init_10 (fun H locs hw => ?_)
  have hcl := closed_u (a := 80) (b := 1) hcl mem_k
  refine lv_aload_n hx hb dX9_init_13 rfl (lv_at hl 0 rfl) ?_
  refine lv_bipush (v := 17) hx hb dX9_init_14 (by decide) ?_
  refine al_i (82) C hw (notin_a (hX 82 (by decide)) (by decide)) (noref_c hcl (notin_a (hX 82 (by decide)) (by decide))) rfl (by decide) rfl (by decide) (Nat.le_of_ble_eq_true rfl) (Nat.le_of_ble_eq_true rfl) dX9_init_16 (fun B H hB_16 hw => ?_)
  have hl : lv_has ls 2 [(0, .ref (B (80))), (1, .ref (B (79)))] := by rw [hB_16 (80) (by decide), hB_16 (79) (by decide)]; exact hl
  refine W.eq (g2 := F0 m 18 ls [.ref (B (82)), .ref (B (80))]) (by rw [hB_16 (80) (by decide)]) ?_
  have hcl := closed_z (k := 82) hcl
  refine p_r 2 C hw (mem_l (mem_l h80)) rfl fl_X9_15 fc_9 fn_9_2 (fun _ => ⟨hnm, (RX9, TX9, 9), rfl, rfl⟩) rfl (fun _ => rfl) (fun _ => rfl) dX9_init_18 (fun H locs hw => ?_)
  have hcl := closed_u (a := 80) (b := 2) hcl mem_k
  refine lv_aload_n hx hb dX9_init_21 rfl (lv_at hl 0 rfl) ?_
  refine lv_aload_n hx hb dX9_init_22 rfl (lv_at hl 1 rfl) ?_
  refine p_r 0 C hw (mem_l (mem_l h80)) rfl fl_X9_18 fc_9 fn_9_0 (fun _ => ⟨hnm, (RX9, TX9, 9), rfl, rfl⟩) rfl (fun _ => rfl) (fun _ => rfl) dX9_init_23 (fun H locs hw => ?_)
  have hcl := closed_u (a := 80) (b := 0) hcl (mem_l (mem_l h79))
  exact r_v C hr hlk hw ⟨rfl, B, (fun z hz8 hz16 => by rw [hB_16 z hz16, hB_8 z hz8]), hcl, rfl⟩ dX9_init_26

set_option maxHeartbeats 4000000 in
set_option maxRecDepth 100000 in
theorem c_X1_init (E : cE) (tt : Nat × Nat × Nat) {X : List Nat} (B : Nat → Nat) (F : tF) (G : tG) (P : tP) (hcl : closed X P) (h83 : 83 ∈ X) (hX : ∀ k, 84 ≤ k ∧ k ≤ 87 → k ∉ X)  : CT E tt yX1_init cX1_init 1 none 1 4 256 [.ref (B (83))] (wl E X B F G P) (fun r w => r = none ∧ ∃ B1 : Nat → Nat, (∀ z, z ≠ 84 → z ≠ 85 → z ≠ 86 → z ≠ 87 → B1 z = B z) ∧ closed ((((X ++ [84]) ++ [85]) ++ [86]) ++ [87]) (uP (zP (uP (zP (uP (zP (uP (zP P 84) 83 0 (some 84)) 85) 83 1 (some 85)) 86) 83 2 (some 86)) 87) 83 3 (some 87)) ∧ w = wl E ((((X ++ [84]) ++ [85]) ++ [86]) ++ [87]) B1 (uF (zF (zF (zF (zF F (84)) (85)) (86)) (87)) 83 5 24137568) (zG (zG (zG (zG G (84)) (85)) (86)) (87)) (uP (zP (uP (zP (uP (zP (uP (zP P 84) 83 0 (some 84)) 85) 83 1 (some 85)) 86) 83 2 (some 86)) 87) 83 3 (some 87))) := by
  refine CT.mk (by decide +kernel) (Nat.le_of_ble_eq_true rfl) ?_
  intro l p e s m below meth c A ls C hr hlk hnm hw hl
  have hx := C.1
  have hb := C.2.1
  have hts := C.2.2.2.2
  have hown : s.vm.findClass RX1 = some m.cls := C.2.2.2.1
  have hl : lv_has ls 1 [(0, .ref (B (83)))] := hl
  refine lv_aload_n hx hb dX1_init_0 rfl (lv_at hl 0 rfl) ?_
  refine W.objInit hx hb hown (hts _ ml_X1_3) (hts _ ob_i) (hts _ ob_c) rfl (by rw [C.2.2.1]; exact hl.1) rfl dX1_init_1 (Nat.le_of_ble_eq_true rfl) (Nat.le_of_ble_eq_true rfl) ?_
  refine W.eq (g2 := F0 m 4 ls []) rfl ?_
  refine lv_aload_n hx hb dX1_init_4 rfl (lv_at hl 0 rfl) ?_
  refine lv_bipush (v := 64) hx hb dX1_init_5 (by decide) ?_
  refine al_i (84) C hw (hX 84 (by decide)) (noref_c hcl (hX 84 (by decide))) rfl (by decide) rfl (by decide) (Nat.le_of_ble_eq_true rfl) (Nat.le_of_ble_eq_true rfl) dX1_init_7 (fun B H hB_7 hw => ?_)
  have hl : lv_has ls 1 [(0, .ref (B (83)))] := by rw [hB_7 (83) (by decide)]; exact hl
  refine W.eq (g2 := F0 m 9 ls [.ref (B (84)), .ref (B (83))]) (by rw [hB_7 (83) (by decide)]) ?_
  have hcl := closed_z (k := 84) hcl
  refine p_r 0 C hw (mem_l h83) rfl fl_X1_11 fc_1 fn_1_0 (fun _ => ⟨hnm, (RX1, TX1, 6), rfl, rfl⟩) rfl (fun _ => rfl) (fun _ => rfl) dX1_init_9 (fun H locs hw => ?_)
  have hcl := closed_u (a := 83) (b := 0) hcl mem_k
  refine lv_aload_n hx hb dX1_init_12 rfl (lv_at hl 0 rfl) ?_
  refine lv_bipush (v := 64) hx hb dX1_init_13 (by decide) ?_
  refine al_i (85) C hw (notin_a (hX 85 (by decide)) (by decide)) (noref_c hcl (notin_a (hX 85 (by decide)) (by decide))) rfl (by decide) rfl (by decide) (Nat.le_of_ble_eq_true rfl) (Nat.le_of_ble_eq_true rfl) dX1_init_15 (fun B H hB_15 hw => ?_)
  have hl : lv_has ls 1 [(0, .ref (B (83)))] := by rw [hB_15 (83) (by decide)]; exact hl
  refine W.eq (g2 := F0 m 17 ls [.ref (B (85)), .ref (B (83))]) (by rw [hB_15 (83) (by decide)]) ?_
  have hcl := closed_z (k := 85) hcl
  refine p_r 1 C hw (mem_l (mem_l h83)) rfl fl_X1_15 fc_1 fn_1_1 (fun _ => ⟨hnm, (RX1, TX1, 6), rfl, rfl⟩) rfl (fun _ => rfl) (fun _ => rfl) dX1_init_17 (fun H locs hw => ?_)
  have hcl := closed_u (a := 83) (b := 1) hcl mem_k
  refine lv_aload_n hx hb dX1_init_20 rfl (lv_at hl 0 rfl) ?_
  refine lv_bipush (v := 64) hx hb dX1_init_21 (by decide) ?_
  refine al_i (86) C hw (notin_a (notin_a (hX 86 (by decide)) (by decide)) (by decide)) (noref_c hcl (notin_a (notin_a (hX 86 (by decide)) (by decide)) (by decide))) rfl (by decide) rfl (by decide) (Nat.le_of_ble_eq_true rfl) (Nat.le_of_ble_eq_true rfl) dX1_init_23 (fun B H hB_23 hw => ?_)
  have hl : lv_has ls 1 [(0, .ref (B (83)))] := by rw [hB_23 (83) (by decide)]; exact hl
  refine W.eq (g2 := F0 m 25 ls [.ref (B (86)), .ref (B (83))]) (by rw [hB_23 (83) (by decide)]) ?_
  have hcl := closed_z (k := 86) hcl
  refine p_r 2 C hw (mem_l (mem_l (mem_l h83))) rfl fl_X1_18 fc_1 fn_1_2 (fun _ => ⟨hnm, (RX1, TX1, 6), rfl, rfl⟩) rfl (fun _ => rfl) (fun _ => rfl) dX1_init_25 (fun H locs hw => ?_)
  have hcl := closed_u (a := 83) (b := 2) hcl mem_k
  refine lv_aload_n hx hb dX1_init_28 rfl (lv_at hl 0 rfl) ?_
  refine lv_bipush (v := 64) hx hb dX1_init_29 (by decide) ?_
  refine al_i (87) C hw (notin_a (notin_a (notin_a (hX 87 (by decide)) (by decide)) (by decide)) (by decide)) (noref_c hcl (notin_a (notin_a (notin_a (hX 87 (by decide)) (by decide)) (by decide)) (by decide))) rfl (by decide) rfl (by decide) (Nat.le_of_ble_eq_true rfl) (Nat.le_of_ble_eq_true rfl) dX1_init_31 (fun B H hB_31 hw => ?_)
  have hl : lv_has ls 1 [(0, .ref (B (83)))] := by rw [hB_31 (83) (by decide)]; exact hl
  refine W.eq (g2 := F0 m 33 ls [.ref (B (87)), .ref (B (83))]) (by rw [hB_31 (83) (by decide)]) ?_
  have hcl := closed_z (k := 87) hcl
  refine p_r 3 C hw (mem_l (mem_l (mem_l (mem_l h83)))) rfl fl_X1_21 fc_1 fn_1_3 (fun _ => ⟨hnm, (RX1, TX1, 6), rfl, rfl⟩) rfl (fun _ => rfl) (fun _ => rfl) dX1_init_33 (fun H locs hw => ?_)
  have hcl := closed_u (a := 83) (b := 3) hcl mem_k
  refine lv_aload_n hx hb dX1_init_36 rfl (lv_at hl 0 rfl) ?_
  refine lv_ldc (v := 24137568) hx hb hown (hts _ kc_X1_24) dX1_init_37 ?_
  refine p_i 5 C hw (mem_l (mem_l (mem_l (mem_l h83)))) rfl fl_X1_25 fc_1 fn_1_5 (fun h9 => by cases h9) rfl rfl rfl dX1_init_39 (fun H locs hw => ?_)
  exact r_v C hr hlk hw ⟨rfl, B, (fun z hz7 hz15 hz23 hz31 => by rw [hB_31 z hz31, hB_23 z hz23, hB_15 z hz15, hB_7 z hz7]), hcl, rfl⟩ dX1_init_42
