set_option maxHeartbeats 4000000 in
set_option maxRecDepth 100000 in
theorem c_X3_init (E : cE) (tt : Nat × Nat × Nat) {X : List Nat} (B : Nat → Nat) (F : tF) (G : tG) (P : tP) {k : Nat} (hk : k ∈ X) (hK : kd k = 3) (n0 : Int32)  : CT E tt yX3_init cX3_init 2 none 1 0 0 [.ref (B (k)), .int (n0)] (wl E X B F G P) (fun r w => r = none ∧ w = wl E X B (uF F k 0 n0) G P) := by
  refine CT.mk (by decide +kernel) (Nat.le_of_ble_eq_true rfl) ?_
  intro l p e s m below meth c A ls C hr hlk hnm hw hl
  have hx := C.1
  have hb := C.2.1
  have hts := C.2.2.2.2
  have hown : s.vm.findClass RX3 = some m.cls := C.2.2.2.1
  have hl : lv_has ls 2 [(0, .ref (B (k))), (1, .int (n0))] := hl
  refine lv_aload_n hx hb dX3_init_0 rfl (lv_at hl 0 rfl) ?_
  refine W.objInit hx hb hown (hts _ ml_X3_1) (hts _ ob_i) (hts _ ob_c) rfl (by rw [C.2.2.1]; exact hl.1) rfl dX3_init_1 (Nat.le_of_ble_eq_true rfl) (Nat.le_of_ble_eq_true rfl) ?_
  refine W.eq (g2 := F0 m 4 ls []) rfl ?_
  refine lv_aload_n hx hb dX3_init_4 rfl (lv_at hl 0 rfl) ?_
  refine lv_iload_n hx hb dX3_init_5 rfl (lv_at hl 1 rfl) ?_
  refine p_i 0 C hw hk hK fl_X3_7 fc_3 fn_3_0 (fun h9 => by cases h9) rfl rfl rfl dX3_init_6 (fun H locs hw => ?_)
  exact r_v C hr hlk hw ⟨rfl, rfl⟩ dX3_init_9

set_option maxHeartbeats 4000000 in
set_option maxRecDepth 100000 in
theorem c_X0_init (E : cE) (tt : Nat × Nat × Nat) {X : List Nat} (B : Nat → Nat) (F : tF) (G : tG) (P : tP) {k : Nat} (hk : k ∈ X) (hK : kd k = 0) {k2 : Nat} (s0 : Int32) (a0 : Int64) (b0 : Int32) (hb0 : zok b0)  : CT E tt yX0_init cX0_init 6 none 1 0 0 [.ref (B (k)), .ref (B (k2)), .int (s0), .long (a0), .int (b0)] (wl E X B F G P) (fun r w => r = none ∧ w = wl E X B (uF (uF F k 1 s0) k 6 b0) (uG G k 3 a0) (uP P k 0 (some k2))) := by
  refine CT.mk (by decide +kernel) (Nat.le_of_ble_eq_true rfl) ?_
  intro l p e s m below meth c A ls C hr hlk hnm hw hl
  have hx := C.1
  have hb := C.2.1
  have hts := C.2.2.2.2
  have hown : s.vm.findClass RX0 = some m.cls := C.2.2.2.1
  have hl : lv_has ls 6 [(0, .ref (B (k))), (1, .ref (B (k2))), (2, .int (s0)), (3, .long (a0)), (5, .int (b0))] := hl
  refine lv_aload_n hx hb dX0_init_0 rfl (lv_at hl 0 rfl) ?_
  refine W.objInit hx hb hown (hts _ ml_X0_1) (hts _ ob_i) (hts _ ob_c) rfl (by rw [C.2.2.1]; exact hl.1) rfl dX0_init_1 (Nat.le_of_ble_eq_true rfl) (Nat.le_of_ble_eq_true rfl) ?_
  refine W.eq (g2 := F0 m 4 ls []) rfl ?_
  refine lv_aload_n hx hb dX0_init_4 rfl (lv_at hl 0 rfl) ?_
  refine lv_aload_n hx hb dX0_init_5 rfl (lv_at hl 1 rfl) ?_
  refine p_r 0 C hw hk hK fl_X0_7 fc_0 fn_0_0 (fun _ => ⟨hnm, (RX0, TX0, 7), rfl, rfl⟩) rfl (fun _ => rfl) (fun _ => rfl) dX0_init_6 (fun H locs hw => ?_)
  refine lv_aload_n hx hb dX0_init_9 rfl (lv_at hl 0 rfl) ?_
  refine lv_iload_n hx hb dX0_init_10 rfl (lv_at hl 2 rfl) ?_
  refine p_i 1 C hw hk hK fl_X0_13 fc_0 fn_0_1 (fun h9 => by cases h9) rfl rfl rfl dX0_init_11 (fun H locs hw => ?_)
  refine lv_aload_n hx hb dX0_init_14 rfl (lv_at hl 0 rfl) ?_
  refine lv_lload_n hx hb dX0_init_15 rfl (lv_at hl 3 rfl) ?_
  refine p_l 3 C hw hk hK fl_X0_17 fc_0 fn_0_3 (fun h9 => by cases h9) rfl rfl rfl dX0_init_16 (fun H locs hw => ?_)
  refine lv_aload_n hx hb dX0_init_19 rfl (lv_at hl 0 rfl) ?_
  refine lv_iload hx hb dX0_init_20 (lv_at hl 4 rfl) ?_
  refine p_i 6 C hw hk hK fl_X0_21 fc_0 fn_0_6 (fun h9 => by cases h9) rfl hb0.1 hb0.2 dX0_init_22 (fun H locs hw => ?_)
  exact r_v C hr hlk hw ⟨rfl, rfl⟩ dX0_init_25

set_option maxHeartbeats 4000000 in
set_option maxRecDepth 100000 in
theorem c_X6_init (E : cE) (tt : Nat × Nat × Nat) {X : List Nat} (B : Nat → Nat) (F : tF) (G : tG) (P : tP) {k : Nat} (hk : k ∈ X) (hK : kd k = 6) {k2 : Nat} (l0 h0 f0 : Int32)  : CT E tt yX6_init cX6_init 5 none 1 0 0 [.ref (B (k)), .ref (B (k2)), .int (l0), .int (h0), .int (f0)] (wl E X B F G P) (fun r w => r = none ∧ w = wl E X B (uF (uF (uF F k 1 l0) k 2 h0) k 3 f0) G (uP P k 0 (some k2))) := by
  refine CT.mk (by decide +kernel) (Nat.le_of_ble_eq_true rfl) ?_
  intro l p e s m below meth c A ls C hr hlk hnm hw hl
  have hx := C.1
  have hb := C.2.1
  have hts := C.2.2.2.2
  have hown : s.vm.findClass RX6 = some m.cls := C.2.2.2.1
  have hl : lv_has ls 5 [(0, .ref (B (k))), (1, .ref (B (k2))), (2, .int (l0)), (3, .int (h0)), (4, .int (f0))] := hl
  refine lv_aload_n hx hb dX6_init_0 rfl (lv_at hl 0 rfl) ?_
  refine W.objInit hx hb hown (hts _ ml_X6_1) (hts _ ob_i) (hts _ ob_c) rfl (by rw [C.2.2.1]; exact hl.1) rfl dX6_init_1 (Nat.le_of_ble_eq_true rfl) (Nat.le_of_ble_eq_true rfl) ?_
  refine W.eq (g2 := F0 m 4 ls []) rfl ?_
  refine lv_aload_n hx hb dX6_init_4 rfl (lv_at hl 0 rfl) ?_
  refine lv_aload_n hx hb dX6_init_5 rfl (lv_at hl 1 rfl) ?_
  refine p_r 0 C hw hk hK fl_X6_7 fc_6 fn_6_0 (fun _ => ⟨hnm, (RX6, TX6, 5), rfl, rfl⟩) rfl (fun _ => rfl) (fun _ => rfl) dX6_init_6 (fun H locs hw => ?_)
  refine lv_aload_n hx hb dX6_init_9 rfl (lv_at hl 0 rfl) ?_
  refine lv_iload_n hx hb dX6_init_10 rfl (lv_at hl 2 rfl) ?_
  refine p_i 1 C hw hk hK fl_X6_13 fc_6 fn_6_1 (fun _ => ⟨hnm, (RX6, TX6, 5), rfl, rfl⟩) rfl rfl rfl dX6_init_11 (fun H locs hw => ?_)
  refine lv_aload_n hx hb dX6_init_14 rfl (lv_at hl 0 rfl) ?_
  refine lv_iload_n hx hb dX6_init_15 rfl (lv_at hl 3 rfl) ?_
  refine p_i 2 C hw hk hK fl_X6_17 fc_6 fn_6_2 (fun _ => ⟨hnm, (RX6, TX6, 5), rfl, rfl⟩) rfl rfl rfl dX6_init_16 (fun H locs hw => ?_)
  refine lv_aload_n hx hb dX6_init_19 rfl (lv_at hl 0 rfl) ?_
  refine lv_iload hx hb dX6_init_20 (lv_at hl 4 rfl) ?_
  refine p_i 3 C hw hk hK fl_X6_20 fc_6 fn_6_3 (fun _ => ⟨hnm, (RX6, TX6, 5), rfl, rfl⟩) rfl rfl rfl dX6_init_22 (fun H locs hw => ?_)
  exact r_v C hr hlk hw ⟨rfl, rfl⟩ dX6_init_25

set_option maxHeartbeats 4000000 in
set_option maxRecDepth 100000 in
theorem c_X7_bore (E : cE) (tt : Nat × Nat × Nat) {X : List Nat} (B : Nat → Nat) (F : tF) (G : tG) {P : tP} {nh : Nat → Nat} {nc no : Nat} {mt om : Nat → Nat} (hR : RC X P nh nc no mt om) (hRX : RX_ X P nh nc no) {i0 : Nat} (hi0 : i0 < 4) (hs : F (12 + i0) 1 = nI (nh i0)) (n0 : Int32)  : CT E tt yX7_bore cX7_bore 2 (some .int) 2 1 3 [.ref (B (12 + i0)), .int (n0)] (wl E X B F G P) (fun r w => (nh i0 = 8 ∧ r = some (.int (-8)) ∧ w = wl E X B F G P) ∨ (nh i0 < 8 ∧ r = some (.int (nI (nh i0))) ∧ ∃ B1 : Nat → Nat, (∀ z, z ≠ 20 + (8 * i0 + nh i0) → B1 z = B z) ∧ w = wl E (X ++ [20 + (8 * i0 + nh i0)]) B1 (uF (uF (zF F (20 + (8 * i0 + nh i0))) (20 + (8 * i0 + nh i0)) 0 n0) (12 + i0) 1 (nI (nh i0 + 1))) (zG G (20 + (8 * i0 + nh i0))) (uP (zP P (20 + (8 * i0 + nh i0))) (16 + i0) (nh i0) (some (20 + (8 * i0 + nh i0)))))) := by
  refine CT.mk (by decide +kernel) (Nat.le_of_ble_eq_true rfl) ?_
  intro l p e s m below meth c A ls C hr hlk hnm hw hl
  have hx := C.1
  have hb := C.2.1
  have hts := C.2.2.2.2
  have hown : s.vm.findClass RX7 = some m.cls := C.2.2.2.1
  have hl : lv_has ls 2 [(0, .ref (B (12 + i0))), (1, .int (n0))] := hl
  have hn8 := hR.nh8 hi0
  refine lv_aload_n hx hb dX7_bore_0 rfl (lv_at hl 0 rfl) ?_
  refine g_i 1 C hw (hR.xl (by omega)) (kd_plate (by omega)) fl_X7_17 rfl dX7_bore_1 ?_
  refine tp_i (y := nI (nh i0)) (hs) ?_
  refine lv_if_lt (tgt := 19) hx hb dX7_bore_4 (by decide) (fun c_4 => ?_) (fun c_4 => ?_)
  · exact absurd c_4 (nI_pos (by omega))
  · refine lv_aload_n hx hb dX7_bore_7 rfl (lv_at hl 0 rfl) ?_
    refine g_i 1 C hw (hR.xl (by omega)) (kd_plate (by omega)) fl_X7_17 rfl dX7_bore_8 ?_
    refine tp_i (y := nI (nh i0)) (hs) ?_
    refine lv_aload_n hx hb dX7_bore_11 rfl (lv_at hl 0 rfl) ?_
    refine g_r 0 (k2 := 16 + i0) C hw (hR.xl (by omega)) (kd_plate (by omega)) fl_X7_11 rfl (hR.pa (by omega)) dX7_bore_12 ?_
    refine a_n (v := 8) C hw (hR.xa (by omega)) (by rw [kd_harr (by omega)]; decide) (by rw [kd_harr (by omega)]; decide) (by rw [ln_harr (by omega)]; rfl) dX7_bore_15 ?_
    refine lv_icmp_lt (tgt := 22) hx hb dX7_bore_16 (by decide) (fun c_16 => ?_) (fun c_16 => ?_)
    · have hlt8 : nh i0 < 8 := (nI_ltI (b := 8) (by omega) (by decide)).mp c_16
      refine lv_aload_n hx hb dX7_bore_22 rfl (lv_at hl 0 rfl) ?_
      refine g_r 0 (k2 := 16 + i0) C hw (hR.xl (by omega)) (kd_plate (by omega)) fl_X7_11 rfl (hR.pa (by omega)) dX7_bore_23 ?_
      refine lv_aload_n hx hb dX7_bore_26 rfl (lv_at hl 0 rfl) ?_
      refine g_i 1 C hw (hR.xl (by omega)) (kd_plate (by omega)) fl_X7_17 rfl dX7_bore_27 ?_
      refine tp_i (y := nI (nh i0)) (hs) ?_
      refine al_o (20 + (8 * i0 + nh i0)) (ci := 3) (C0 := RX3) (T0 := TX3) (N0 := 3) (ty0 := tyX3) C hw (hRX.1 i0 (nh i0) hi0 (Nat.le_refl _) (by omega)).1 (hRX.1 i0 (nh i0) hi0 (Nat.le_refl _) (by omega)).2 (kd_hole (by omega)) (by decide) rfl tyX3_ok ux_3 df_3 cl_X7_9 it_X3 in_X3 (Nat.le_of_ble_eq_true rfl) (Nat.le_of_ble_eq_true rfl) dX7_bore_30 (fun B H hB_30 hw => ?_)
      have hl : lv_has ls 2 [(0, .ref (B (12 + i0))), (1, .int (n0))] := by rw [hB_30 (12 + i0) (by omega)]; exact hl
      refine W.eq (g2 := F0 m 33 ls [.ref (B (20 + (8 * i0 + nh i0))), .int (nI (nh i0)), .ref (B (16 + i0))]) (by rw [hB_30 (16 + i0) (by omega)]) ?_
      refine lv_dup hx hb dX7_bore_33 rfl ?_
      refine lv_iload_n hx hb dX7_bore_34 rfl (lv_at hl 1 rfl) ?_
      refine kI C hw (c_X3_init E tt B (zF F (20 + (8 * i0 + nh i0))) (zG G (20 + (8 * i0 + nh i0))) (zP P (20 + (8 * i0 + nh i0))) (k := 20 + (8 * i0 + nh i0)) mem_k (kd_hole (by omega)) (n0)) vy_X3_init ml_X7_21 rfl hl.1 (rest := [.ref (B (20 + (8 * i0 + nh i0))), .int (nI (nh i0)), .ref (B (16 + i0))]) rfl dX7_bore_35 (Nat.le_of_ble_eq_true rfl) ⟨by decide, by decide⟩ ⟨Nat.le_of_ble_eq_true rfl, Nat.le_of_ble_eq_true rfl⟩ (fun v_35 ws_35 H locs hp_35 hq_35 => ?_)
      clear hw
      obtain ⟨rfl, rfl⟩ := hp_35
      have hw := hq_35
      refine W.eq (g2 := F0 m 38 ls [.ref (B (20 + (8 * i0 + nh i0))), .int (nI (nh i0)), .ref (B (16 + i0))]) rfl ?_
      refine t_q (nh i0) (r := 17) (ci2 := 3) (q2 := (RX3, TX3, 3)) C hw (mem_l (hR.xa (by omega))) (kd_harr (by omega)) (by decide) mem_k (kd_hole (by omega)) (by decide) rfl rfl rfl (by rw [ln_harr (by omega)]; omega) dX7_bore_38 (fun H locs hw => ?_)
      refine lv_aload_n hx hb dX7_bore_39 rfl (lv_at hl 0 rfl) ?_
      refine lv_dup hx hb dX7_bore_40 rfl ?_
      refine g_i 1 C hw (mem_l (hR.xl (by omega))) (kd_plate (by omega)) fl_X7_17 rfl dX7_bore_41 ?_
      refine tp_i (y := F (12 + i0) 1) ((uF_n _ _ (Or.inl (by omega))).trans ((congrFun (zF_n _ (by omega)) _).trans (rfl))) ?_
      refine tp_i (y := nI (nh i0)) (hs) ?_
      refine lv_dup_x1 hx hb dX7_bore_44 rfl rfl ?_
      refine lv_iconst (v := 1) hx hb dX7_bore_45 (by decide) ?_
      refine lv_iadd hx hb dX7_bore_46 ?_
      refine tp_i (y := nI (nh i0 + 1)) (nI_1 _) ?_
      refine p_i 1 C hw (mem_l (hR.xl (by omega))) (kd_plate (by omega)) fl_X7_17 fc_7 fn_7_1 (fun h9 => by cases h9) rfl rfl rfl dX7_bore_47 (fun H locs hw => ?_)
      exact r_i C hr hlk hw (Or.inr ⟨hlt8, rfl, _, hB_30, rfl⟩) dX7_bore_50
    · have hlt8 : nh i0 = 8 := by rcases Nat.lt_or_ge (nh i0) 8 with h9 | h9; exact absurd (nI_lt (b := 8) h9 (by decide)) c_16; omega
      refine lv_bipush (v := -8) hx hb dX7_bore_19 (by decide) ?_
      refine W.widen (k := 1) (n := 3) (by omega) (by omega) ?_
      exact r_i C hr hlk hw (Or.inl ⟨hlt8, rfl, rfl⟩) dX7_bore_21

set_option maxHeartbeats 4000000 in
set_option maxRecDepth 100000 in
theorem c_X11_hole (E : cE) (tt : Nat × Nat × Nat) {X : List Nat} (B : Nat → Nat) (F : tF) (G : tG) {P : tP} {nh : Nat → Nat} {nc no : Nat} {mt om : Nat → Nat} (hR : RC X P nh nc no mt om) (hRX : RX_ X P nh nc no) (hsz : ∀ i, i < 4 → F (12 + i) 1 = nI (nh i)) (p0 n0 : Int32)  : CT E tt yX11_hole cX11_hole 4 (some .int) 3 1 3 [.ref (B (0)), .int (p0), .int (n0)] (wl E X B F G P) (fun r w => r = some (.int (sp_hole nh p0 n0)) ∧ ((∃ i0 : Nat, i0 < 4 ∧ p0 = nI i0 ∧ (20 ≤ n0 ∧ n0 ≤ 1000) ∧ nh i0 < 8 ∧ ∃ B1 : Nat → Nat, (∀ z, z ≠ 20 + (8 * i0 + nh i0) → B1 z = B z) ∧ w = wl E (X ++ [20 + (8 * i0 + nh i0)]) B1 (uF (uF (zF F (20 + (8 * i0 + nh i0))) (20 + (8 * i0 + nh i0)) 0 n0) (12 + i0) 1 (nI (nh i0 + 1))) (zG G (20 + (8 * i0 + nh i0))) (uP (zP P (20 + (8 * i0 + nh i0))) (16 + i0) (nh i0) (some (20 + (8 * i0 + nh i0))))) ∨ (¬ ((0 ≤ p0 ∧ p0 ≤ 3) ∧ (20 ≤ n0 ∧ n0 ≤ 1000) ∧ ¬ nh p0.toNatClampNeg = 8) ∧ w = wl E X B F G P))) := by
  refine CT.mk (by decide +kernel) (Nat.le_of_ble_eq_true rfl) ?_
  intro l p e s m below meth c A ls C hr hlk hnm hw hl
  have hx := C.1
  have hb := C.2.1
  have hts := C.2.2.2.2
  have hown : s.vm.findClass RX11 = some m.cls := C.2.2.2.1
  have hl : lv_has ls 4 [(0, .ref (B (0))), (1, .int (p0)), (2, .int (n0))] := hl
  refine lv_aload_n hx hb dX11_hole_0 rfl (lv_at hl 0 rfl) ?_
  refine lv_iload_n hx hb dX11_hole_1 rfl (lv_at hl 1 rfl) ?_
  refine kV C hw (c_X11_plateAt E tt B F G hR (p0)) vy_X11_plateAt ml_X11_132 (rcv hw (hR.f rfl) rfl (by decide) (q2 := (RX11, TX11, 19)) rfl) rfl hl.1 (rest := []) rfl dX11_hole_2 (Nat.le_of_ble_eq_true rfl) ⟨by decide, by decide⟩ ⟨Nat.le_of_ble_eq_true rfl, Nat.le_of_ble_eq_true rfl⟩ (fun v_2 ws_2 H locs hp_2 hq_2 => ?_)
  clear hw
  rcases hp_2 with ⟨i0, hl_i0, rfl, rfl, rfl⟩ | ⟨h_2, rfl, rfl⟩
  · have hw := hq_2
    refine W.eq (g2 := F0 m 5 ls [.ref (B (12 + i0))]) rfl ?_
    have hz_i0 := i4_cl (i := i0) (by omega)
    refine lv_astore_n (lv' := [(3, .ref (B (12 + i0))), (0, .ref (B (0))), (1, .int (nI i0)), (2, .int (n0))]) hx hb dX11_hole_5 rfl hl (by decide) rfl (fun ls hl => ?_)
    refine lv_aload_n hx hb dX11_hole_6 rfl (lv_at hl 0 rfl) ?_
    refine lv_ifnonnull (tgt := 13) hx hb dX11_hole_7 (by decide) ?_
    have hrg : 0 ≤ nI i0 ∧ nI i0 ≤ 3 := i_rng (i := i0) (n := 3) (by omega) (by decide)
    refine lv_iload_n hx hb dX11_hole_13 rfl (lv_at hl 3 rfl) ?_
    refine kS C hw (c_X11_isSize E tt _ (n0)) vy_X11_isSize ml_X11_136 rfl hl.1 (rest := []) rfl dX11_hole_14 (Nat.le_of_ble_eq_true rfl) ⟨by decide, by decide⟩ ⟨Nat.le_of_ble_eq_true rfl, Nat.le_of_ble_eq_true rfl⟩ (fun v_14 ws_14 H locs hp_14 hq_14 => ?_)
    clear hw
    rcases hp_14 with ⟨h_14, rfl, rfl⟩ | ⟨h_14, rfl, rfl⟩
    · have hw := hq_14
      refine W.eq (g2 := F0 m 17 ls [.int (1)]) rfl ?_
      refine lv_if_ne (tgt := 23) hx hb dX11_hole_17 (by decide) (fun _ => ?_) (fun h9 => False.elim (by revert h9; decide))
      refine lv_aload_n hx hb dX11_hole_23 rfl (lv_at hl 0 rfl) ?_
      refine lv_iload_n hx hb dX11_hole_24 rfl (lv_at hl 3 rfl) ?_
      refine kV C hw (c_X7_bore E tt B F G hR hRX (i0 := i0) (by omega) (hsz i0 (by omega)) (n0)) vy_X7_bore ml_X11_140 (rcv hw (hR.xl (by omega)) (kd_plate (by omega)) (by decide) (q2 := (RX7, TX7, 2)) rfl) rfl hl.1 (rest := []) rfl dX11_hole_25 (Nat.le_of_ble_eq_true rfl) ⟨by decide, by decide⟩ ⟨Nat.le_of_ble_eq_true rfl, Nat.le_of_ble_eq_true rfl⟩ (fun v_25 ws_25 H locs hp_25 hq_25 => ?_)
      clear hw
      rcases hp_25 with ⟨h_25, rfl, rfl⟩ | ⟨h_25, rfl, B2, hB2, rfl⟩
      · have hw := hq_25
        refine W.eq (g2 := F0 m 28 ls [.int (-8)]) rfl ?_
        exact r_i C hr hlk hw ⟨(by rw [sp_hole, if_pos hrg, if_pos h_14, hz_i0, if_pos h_25]), Or.inr ⟨fun h8 => h8.2.2 (by rw [hz_i0]; exact h_25), rfl⟩⟩ dX11_hole_28
      · have hw := hq_25
        refine W.eq (g2 := F0 m 28 ls [.int (nI (nh i0))]) rfl ?_
        exact r_i C hr hlk hw ⟨(by rw [sp_hole, if_pos hrg, if_pos h_14, hz_i0, if_neg (by omega)]), Or.inl ⟨i0, hl_i0, rfl, h_14, h_25, B2, hB2, rfl⟩⟩ dX11_hole_28
    · have hw := hq_14
      refine W.eq (g2 := F0 m 17 ls [.int (0)]) rfl ?_
      refine lv_if_ne (tgt := 23) hx hb dX11_hole_17 (by decide) (fun h9 => False.elim (by revert h9; decide)) (fun _ => ?_)
      refine lv_bipush (v := -3) hx hb dX11_hole_20 (by decide) ?_
      refine W.widen (k := 1) (n := 3) (by omega) (by omega) ?_
      exact r_i C hr hlk hw ⟨(by rw [sp_hole, if_pos hrg, if_neg h_14]), Or.inr ⟨fun h8 => h_14 h8.2.1, rfl⟩⟩ dX11_hole_22
  · have hw := hq_2
    refine W.eq (g2 := F0 m 5 ls [.null]) rfl ?_
    refine lv_astore_nN (lv' := [(3, .null), (0, .ref (B (0))), (1, .int (p0)), (2, .int (n0))]) hx hb dX11_hole_5 rfl hl (by decide) rfl (fun ls hl => ?_)
    refine lv_aload_nN hx hb dX11_hole_6 rfl (lv_at hl 0 rfl) ?_
    refine lv_ifnonnullN hx hb dX11_hole_7 ?_
    refine lv_bipush (v := -2) hx hb dX11_hole_10 (by decide) ?_
    refine W.widen (k := 1) (n := 3) (by omega) (by omega) ?_
    exact r_i C hr hlk hw ⟨(by rw [sp_hole, if_neg (fun h9 => by obtain ⟨i, hi, e⟩ := n_of (n := 3) h9.1 h9.2 (by decide); exact h_2 i (by omega) e)]), Or.inr ⟨fun h8 => by obtain ⟨i, hi, e⟩ := n_of (n := 3) h8.1.1 h8.1.2 (by decide); exact h_2 i (by omega) e, rfl⟩⟩ dX11_hole_12
