set_option maxHeartbeats 4000000 in
set_option maxRecDepth 100000 in
theorem c_X12_common (E : cE) (tt : Nat × Nat × Nat) (ws : va_W) {x0 : Int32} {x y : Nat} (hx0 : x0 = nI x ∨ x0 = -nI x) (hxl : x < 2 ^ 30) (hyl : y < 2 ^ 30)  : CT E tt yX12_common cX12_common 5 (some .int) 0 0 0 [.int (x0), .int (nI y)] ws (fun r w => r = some (.int (nI (Nat.gcd x y))) ∧ w = ws) := by
  refine CT.mk (by decide +kernel) (Nat.le_of_ble_eq_true rfl) ?_
  intro l p e s m below meth c A ls C hr hlk hnm hw hl
  have hx := C.1
  have hb := C.2.1
  have hts := C.2.2.2.2
  have hown : s.vm.findClass RX12 = some m.cls := C.2.2.2.1
  have hl : lv_has ls 5 [(0, .int (x0)), (1, .int (nI y))] := hl
  refine lv_iload_n hx hb dX12_common_0 rfl (lv_at hl 0 rfl) ?_
  refine lv_if_ge (tgt := 9) hx hb dX12_common_1 (by decide) (fun c_1 => ?_) (fun c_1 => ?_)
  · refine lv_iload_n hx hb dX12_common_9 rfl (lv_at hl 0 rfl) ?_
    refine tp_i (y := nI x) (abs_pos hx0 hxl c_1) ?_
    refine lv_istore_n (lv' := [(2, .int (nI x)), (0, .int (x0)), (1, .int (nI y))]) hx hb dX12_common_10 rfl hl (by decide) rfl (fun ls hl => ?_)
    refine lv_iload_n hx hb dX12_common_11 rfl (lv_at hl 2 rfl) ?_
    refine lv_istore_n (lv' := [(3, .int (nI y)), (2, .int (nI x)), (0, .int (x0)), (1, .int (nI y))]) hx hb dX12_common_12 rfl hl (by decide) rfl (fun ls hl => ?_)
    have lo_a : ∀ (n : Nat) (u : Nat) (v : Nat) (H : Heap) (locs : List Loc) (ls : Array Slot), v < n → (Nat.gcd u v = Nat.gcd x y) → (u < 2 ^ 30) → (v < 2 ^ 30) → Wd E tt A s ws H locs → lv_has ls 5 [(0, .int (x0)), (1, .int (nI y)), (2, .int (nI u)), (3, .int (nI v))] → W p l e (rmO 0 0 0) s m ([.int (x0), .int (nI y)] : List Value).toArray below meth c H locs 0 0 (MQ below (Fin0 E (fun r w => r = some (.int (nI (Nat.gcd x y))) ∧ w = ws) A) ([.int (x0), .int (nI y)] : List Value).toArray s 0 0 A) (F0 m 13 ls []) := by
      intro n
      induction n with
      | zero =>
        intro u v H locs ls hi_2
        exact absurd hi_2 (Nat.not_lt_zero _)
      | succ n ih_a =>
        intro u v H locs ls hj_a hg hu hv hw hl
        refine lv_iload_n hx hb dX12_common_13 rfl (lv_at hl 3 rfl) ?_
        refine lv_if_eq (tgt := 30) hx hb dX12_common_14 (by decide) (fun c_14 => ?_) (fun c_14 => ?_)
        · have hv0 : v = 0 := (nI_eq (by omega) (by decide)).mp c_14
          subst hv0
          rw [Nat.gcd_zero_right] at hg
          refine lv_iload_n hx hb dX12_common_30 rfl (lv_at hl 2 rfl) ?_
          exact r_i C hr hlk hw ⟨(by rw [hg]), rfl⟩ dX12_common_31
        · have hv1 : 0 < v := Nat.pos_of_ne_zero (fun h9 => c_14 (by rw [h9]; rfl))
          have hmd := Nat.mod_lt u hv1
          refine lv_iload_n hx hb dX12_common_17 rfl (lv_at hl 2 rfl) ?_
          refine lv_iload_n hx hb dX12_common_18 rfl (lv_at hl 3 rfl) ?_
          refine lv_irem hx hb dX12_common_19 (c_14) ?_
          refine tp_i (y := nI (u % v)) (pk_rem (by omega) (by omega) (by omega)) ?_
          refine lv_istore (lv' := [(4, .int (nI (u % v))), (0, .int (x0)), (1, .int (nI y)), (2, .int (nI u)), (3, .int (nI v))]) hx hb dX12_common_20 hl (by decide) rfl (fun ls hl => ?_)
          refine lv_iload_n hx hb dX12_common_22 rfl (lv_at hl 4 rfl) ?_
          refine lv_istore_n (lv' := [(2, .int (nI v)), (4, .int (nI (u % v))), (0, .int (x0)), (1, .int (nI y)), (3, .int (nI v))]) hx hb dX12_common_23 rfl hl (by decide) rfl (fun ls hl => ?_)
          refine lv_iload hx hb dX12_common_24 (lv_at hl 1 rfl) ?_
          refine lv_istore_n (lv' := [(3, .int (nI (u % v))), (2, .int (nI v)), (4, .int (nI (u % v))), (0, .int (x0)), (1, .int (nI y))]) hx hb dX12_common_26 rfl hl (by decide) rfl (fun ls hl => ?_)
          refine lv_goto (tgt := 13) hx hb dX12_common_27 (by decide) ?_
          exact ih_a v (u % v) _ _ _ (by omega) ((gc_step u v).trans hg) hv (by omega) hw (lv_sub hl [3, 4, 1, 0] rfl)
    exact lo_a _ x y _ _ _ (Nat.lt_succ_self _) rfl hxl hyl hw (lv_sub hl [2, 3, 1, 0] rfl)
  · refine lv_iload_n hx hb dX12_common_4 rfl (lv_at hl 0 rfl) ?_
    refine lv_ineg hx hb dX12_common_5 ?_
    refine lv_goto (tgt := 10) hx hb dX12_common_6 (by decide) ?_
    refine tp_i (y := nI x) (abs_neg hx0 hxl c_1) ?_
    refine lv_istore_n (lv' := [(2, .int (nI x)), (0, .int (x0)), (1, .int (nI y))]) hx hb dX12_common_10 rfl hl (by decide) rfl (fun ls hl => ?_)
    refine lv_iload_n hx hb dX12_common_11 rfl (lv_at hl 2 rfl) ?_
    refine lv_istore_n (lv' := [(3, .int (nI y)), (2, .int (nI x)), (0, .int (x0)), (1, .int (nI y))]) hx hb dX12_common_12 rfl hl (by decide) rfl (fun ls hl => ?_)
    have lo_a : ∀ (n : Nat) (u : Nat) (v : Nat) (H : Heap) (locs : List Loc) (ls : Array Slot), v < n → (Nat.gcd u v = Nat.gcd x y) → (u < 2 ^ 30) → (v < 2 ^ 30) → Wd E tt A s ws H locs → lv_has ls 5 [(0, .int (x0)), (1, .int (nI y)), (2, .int (nI u)), (3, .int (nI v))] → W p l e (rmO 0 0 0) s m ([.int (x0), .int (nI y)] : List Value).toArray below meth c H locs 0 0 (MQ below (Fin0 E (fun r w => r = some (.int (nI (Nat.gcd x y))) ∧ w = ws) A) ([.int (x0), .int (nI y)] : List Value).toArray s 0 0 A) (F0 m 13 ls []) := by
      intro n
      induction n with
      | zero =>
        intro u v H locs ls hi_2
        exact absurd hi_2 (Nat.not_lt_zero _)
      | succ n ih_a =>
        intro u v H locs ls hj_a hg hu hv hw hl
        refine lv_iload_n hx hb dX12_common_13 rfl (lv_at hl 3 rfl) ?_
        refine lv_if_eq (tgt := 30) hx hb dX12_common_14 (by decide) (fun c_14 => ?_) (fun c_14 => ?_)
        · have hv0 : v = 0 := (nI_eq (by omega) (by decide)).mp c_14
          subst hv0
          rw [Nat.gcd_zero_right] at hg
          refine lv_iload_n hx hb dX12_common_30 rfl (lv_at hl 2 rfl) ?_
          exact r_i C hr hlk hw ⟨(by rw [hg]), rfl⟩ dX12_common_31
        · have hv1 : 0 < v := Nat.pos_of_ne_zero (fun h9 => c_14 (by rw [h9]; rfl))
          have hmd := Nat.mod_lt u hv1
          refine lv_iload_n hx hb dX12_common_17 rfl (lv_at hl 2 rfl) ?_
          refine lv_iload_n hx hb dX12_common_18 rfl (lv_at hl 3 rfl) ?_
          refine lv_irem hx hb dX12_common_19 (c_14) ?_
          refine tp_i (y := nI (u % v)) (pk_rem (by omega) (by omega) (by omega)) ?_
          refine lv_istore (lv' := [(4, .int (nI (u % v))), (0, .int (x0)), (1, .int (nI y)), (2, .int (nI u)), (3, .int (nI v))]) hx hb dX12_common_20 hl (by decide) rfl (fun ls hl => ?_)
          refine lv_iload_n hx hb dX12_common_22 rfl (lv_at hl 4 rfl) ?_
          refine lv_istore_n (lv' := [(2, .int (nI v)), (4, .int (nI (u % v))), (0, .int (x0)), (1, .int (nI y)), (3, .int (nI v))]) hx hb dX12_common_23 rfl hl (by decide) rfl (fun ls hl => ?_)
          refine lv_iload hx hb dX12_common_24 (lv_at hl 1 rfl) ?_
          refine lv_istore_n (lv' := [(3, .int (nI (u % v))), (2, .int (nI v)), (4, .int (nI (u % v))), (0, .int (x0)), (1, .int (nI y))]) hx hb dX12_common_26 rfl hl (by decide) rfl (fun ls hl => ?_)
          refine lv_goto (tgt := 13) hx hb dX12_common_27 (by decide) ?_
          exact ih_a v (u % v) _ _ _ (by omega) ((gc_step u v).trans hg) hv (by omega) hw (lv_sub hl [3, 4, 1, 0] rfl)
    exact lo_a _ x y _ _ _ (Nat.lt_succ_self _) rfl hxl hyl hw (lv_sub hl [2, 3, 1, 0] rfl)

set_option maxHeartbeats 4000000 in
set_option maxRecDepth 100000 in
theorem c_X12_by (E : cE) (tt : Nat × Nat × Nat) {X : List Nat} (B : Nat → Nat) (F : tF) (G : tG) {P : tP} (hM : RM X P) (nn : Nat) (hNn : NN F nn) (ca pt : Int32)  : CT E tt yX12_by cX12_by 4 (some .int) 2 0 0 [.ref (B (100)), .int (ca), .int (pt)] (wl E X B F G P) (fun r w => r = some (.int (sp_by F nn ca pt)) ∧ w = wl E X B F G P) := by
  refine CT.mk (by decide +kernel) (Nat.le_of_ble_eq_true rfl) ?_
  intro l p e s m below meth c A ls C hr hlk hnm hw hl
  have hx := C.1
  have hb := C.2.1
  have hts := C.2.2.2.2
  have hown : s.vm.findClass RX12 = some m.cls := C.2.2.2.1
  have hl : lv_has ls 4 [(0, .ref (B (100))), (1, .int (ca)), (2, .int (pt))] := hl
  refine lv_iload_n hx hb dX12_by_0 rfl (lv_at hl 1 rfl) ?_
  refine lv_iconst (v := 0) hx hb dX12_by_1 (by decide) ?_
  refine lv_iconst (v := 2) hx hb dX12_by_2 (by decide) ?_
  refine kS C hw (c_X12_within E tt _ (ca) (0) (2)) vy_X12_within ml_X12_123 rfl hl.1 (rest := []) rfl dX12_by_3 (Nat.le_of_ble_eq_true rfl) ⟨by decide, by decide⟩ ⟨Nat.le_of_ble_eq_true rfl, Nat.le_of_ble_eq_true rfl⟩ (fun v_3 ws_3 H locs hp_3 hq_3 => ?_)
  clear hw
  rcases hp_3 with ⟨h_3, rfl, rfl⟩ | ⟨h_3, rfl, rfl⟩
  · have hw := hq_3
    refine W.eq (g2 := F0 m 6 ls [.int (1)]) rfl ?_
    refine lv_if_eq (tgt := 26) hx hb dX12_by_6 (by decide) (fun h9 => False.elim (by revert h9; decide)) (fun _ => ?_)
    refine lv_iload_n hx hb dX12_by_9 rfl (lv_at hl 2 rfl) ?_
    refine lv_iconst (v := 0) hx hb dX12_by_10 (by decide) ?_
    refine lv_iconst (v := 1) hx hb dX12_by_11 (by decide) ?_
    refine kS C hw (c_X12_within E tt _ (pt) (0) (1)) vy_X12_within ml_X12_123 rfl hl.1 (rest := []) rfl dX12_by_12 (Nat.le_of_ble_eq_true rfl) ⟨by decide, by decide⟩ ⟨Nat.le_of_ble_eq_true rfl, Nat.le_of_ble_eq_true rfl⟩ (fun v_12 ws_12 H locs hp_12 hq_12 => ?_)
    clear hw
    rcases hp_12 with ⟨h_12, rfl, rfl⟩ | ⟨h_12, rfl, rfl⟩
    · have hw := hq_12
      refine W.eq (g2 := F0 m 15 ls [.int (1)]) rfl ?_
      refine lv_if_eq (tgt := 26) hx hb dX12_by_15 (by decide) (fun h9 => False.elim (by revert h9; decide)) (fun _ => ?_)
      refine lv_aload_n hx hb dX12_by_18 rfl (lv_at hl 0 rfl) ?_
      refine lv_iload_n hx hb dX12_by_19 rfl (lv_at hl 1 rfl) ?_
      refine kV C hw (c_X12_belowOf E tt B F G hM nn hNn (ca)) vy_X12_belowOf ml_X12_270 (rcv hw (hM.m rfl) rfl (by decide) (q2 := (RX12, TX12, 49)) rfl) rfl hl.1 (rest := []) rfl dX12_by_20 (Nat.le_of_ble_eq_true rfl) ⟨by decide, by decide⟩ ⟨Nat.le_of_ble_eq_true rfl, Nat.le_of_ble_eq_true rfl⟩ (fun v_20 ws_20 H locs hp_20 hq_20 => ?_)
      clear hw
      obtain ⟨rfl, rfl⟩ := hp_20
      have hw := hq_20
      refine W.eq (g2 := F0 m 23 ls [.int (nI (w_below F nn (ca)))]) rfl ?_
      refine lv_if_ne (tgt := 30) hx hb dX12_by_23 (by decide) (fun c_23 => ?_) (fun c_23 => ?_)
      · have hb0 : ¬ w_below F nn ca = 0 := fun h9 => c_23 (by rw [h9]; rfl)
        refine lv_aload_n hx hb dX12_by_30 rfl (lv_at hl 0 rfl) ?_
        refine lv_iload_n hx hb dX12_by_31 rfl (lv_at hl 1 rfl) ?_
        refine kV C hw (c_X12_aboveOf E tt B F G hM nn hNn (ca)) vy_X12_aboveOf ml_X12_274 (rcv hw (hM.m rfl) rfl (by decide) (q2 := (RX12, TX12, 49)) rfl) rfl hl.1 (rest := []) rfl dX12_by_32 (Nat.le_of_ble_eq_true rfl) ⟨by decide, by decide⟩ ⟨Nat.le_of_ble_eq_true rfl, Nat.le_of_ble_eq_true rfl⟩ (fun v_32 ws_32 H locs hp_32 hq_32 => ?_)
        clear hw
        obtain ⟨rfl, rfl⟩ := hp_32
        have hw := hq_32
        refine W.eq (g2 := F0 m 35 ls [.int (w_above F nn (ca))]) rfl ?_
        refine lv_aload_n hx hb dX12_by_35 rfl (lv_at hl 0 rfl) ?_
        refine lv_iload_n hx hb dX12_by_36 rfl (lv_at hl 1 rfl) ?_
        refine kV C hw (c_X12_belowOf E tt B F G hM nn hNn (ca)) vy_X12_belowOf ml_X12_270 (rcv hw (hM.m rfl) rfl (by decide) (q2 := (RX12, TX12, 49)) rfl) rfl hl.1 (rest := [.int (w_above F nn (ca))]) rfl dX12_by_37 (Nat.le_of_ble_eq_true rfl) ⟨by decide, by decide⟩ ⟨Nat.le_of_ble_eq_true rfl, Nat.le_of_ble_eq_true rfl⟩ (fun v_37 ws_37 H locs hp_37 hq_37 => ?_)
        clear hw
        obtain ⟨rfl, rfl⟩ := hp_37
        have hw := hq_37
        refine W.eq (g2 := F0 m 40 ls [.int (nI (w_below F nn (ca))), .int (w_above F nn (ca))]) rfl ?_
        refine kS C hw (c_X12_common E tt _ (x0 := w_above F nn (ca)) (x := w_abs F nn ca) (y := w_below F nn (ca)) (w_above_abs F nn ca) (w_abs_lt hNn.2 ca) (w_below_lt hNn.2 ca)) vy_X12_common ml_X12_277 rfl hl.1 (rest := []) rfl dX12_by_40 (Nat.le_of_ble_eq_true rfl) ⟨by decide, by decide⟩ ⟨Nat.le_of_ble_eq_true rfl, Nat.le_of_ble_eq_true rfl⟩ (fun v_40 ws_40 H locs hp_40 hq_40 => ?_)
        clear hw
        obtain ⟨rfl, rfl⟩ := hp_40
        have hw := hq_40
        refine W.eq (g2 := F0 m 43 ls [.int (nI (w_g F nn ca))]) rfl ?_
        refine lv_istore_n (lv' := [(3, .int (nI (w_g F nn ca))), (0, .ref (B (100))), (1, .int (ca)), (2, .int (pt))]) hx hb dX12_by_43 rfl hl (by decide) rfl (fun ls hl => ?_)
        refine lv_iload_n hx hb dX12_by_44 rfl (lv_at hl 3 rfl) ?_
        refine lv_if_ne (tgt := 58) hx hb dX12_by_45 (by decide) (fun c_45 => ?_) (fun c_45 => ?_)
        · refine lv_aload_n hx hb dX12_by_58 rfl (lv_at hl 1 rfl) ?_
          refine lv_iload_n hx hb dX12_by_59 rfl (lv_at hl 2 rfl) ?_
          refine kV C hw (c_X12_belowOf E tt B F G hM nn hNn (ca)) vy_X12_belowOf ml_X12_270 (rcv hw (hM.m rfl) rfl (by decide) (q2 := (RX12, TX12, 49)) rfl) rfl hl.1 (rest := []) rfl dX12_by_60 (Nat.le_of_ble_eq_true rfl) ⟨by decide, by decide⟩ ⟨Nat.le_of_ble_eq_true rfl, Nat.le_of_ble_eq_true rfl⟩ (fun v_60 ws_60 H locs hp_60 hq_60 => ?_)
          clear hw
          obtain ⟨rfl, rfl⟩ := hp_60
          have hw := hq_60
          refine W.eq (g2 := F0 m 63 ls [.int (nI (w_below F nn (ca)))]) rfl ?_
          refine lv_iload_n hx hb dX12_by_63 rfl (lv_at hl 0 rfl) ?_
          refine lv_idiv hx hb dX12_by_64 ((i_pos2 (w_g_pos hb0) (w_g_lt hNn.2 hb0))) ?_
          exact r_i C hr hlk hw ⟨(by simp [sp_by, h_3, h_12, c_45, hb0]), rfl⟩ dX12_by_65
        · refine lv_aload_n hx hb dX12_by_48 rfl (lv_at hl 1 rfl) ?_
          refine lv_iload_n hx hb dX12_by_49 rfl (lv_at hl 2 rfl) ?_
          refine kV C hw (c_X12_aboveOf E tt B F G hM nn hNn (ca)) vy_X12_aboveOf ml_X12_274 (rcv hw (hM.m rfl) rfl (by decide) (q2 := (RX12, TX12, 49)) rfl) rfl hl.1 (rest := []) rfl dX12_by_50 (Nat.le_of_ble_eq_true rfl) ⟨by decide, by decide⟩ ⟨Nat.le_of_ble_eq_true rfl, Nat.le_of_ble_eq_true rfl⟩ (fun v_50 ws_50 H locs hp_50 hq_50 => ?_)
          clear hw
          obtain ⟨rfl, rfl⟩ := hp_50
          have hw := hq_50
          refine W.eq (g2 := F0 m 53 ls [.int (w_above F nn (ca))]) rfl ?_
          refine lv_iload_n hx hb dX12_by_53 rfl (lv_at hl 0 rfl) ?_
          refine lv_idiv hx hb dX12_by_54 ((i_pos2 (w_g_pos hb0) (w_g_lt hNn.2 hb0))) ?_
          refine lv_goto (tgt := 65) hx hb dX12_by_55 (by decide) ?_
          exact r_i C hr hlk hw ⟨(by simp [sp_by, h_3, h_12, c_45, hb0]), rfl⟩ dX12_by_65
      · have hb0 : w_below F nn ca = 0 := (nI_eq (by have := w_below_lt hNn.2 (F := F) ca; omega) (by decide)).mp c_23
        refine lv_ldcw (v := -2147483648) hx hb hown (hts _ kc_X12_273) dX12_by_26 ?_
        exact r_i C hr hlk hw ⟨(by simp [sp_by, h_3, h_12, hb0]), rfl⟩ dX12_by_29
    · have hw := hq_12
      refine W.eq (g2 := F0 m 15 ls [.int (0)]) rfl ?_
      refine lv_if_eq (tgt := 26) hx hb dX12_by_15 (by decide) (fun _ => ?_) (fun h9 => False.elim (by revert h9; decide))
      refine lv_ldcw (v := -2147483648) hx hb hown (hts _ kc_X12_273) dX12_by_26 ?_
      exact r_i C hr hlk hw ⟨(by simp [sp_by, h_3, h_12]), rfl⟩ dX12_by_29
  · have hw := hq_3
    refine W.eq (g2 := F0 m 6 ls [.int (0)]) rfl ?_
    refine lv_if_eq (tgt := 26) hx hb dX12_by_6 (by decide) (fun _ => ?_) (fun h9 => False.elim (by revert h9; decide))
    refine lv_ldcw (v := -2147483648) hx hb hown (hts _ kc_X12_273) dX12_by_26 ?_
    exact r_i C hr hlk hw ⟨(by simp [sp_by, h_3]), rfl⟩ dX12_by_29

set_option maxHeartbeats 4000000 in
set_option maxRecDepth 100000 in
theorem c_X12_choose (E : cE) (tt : Nat × Nat × Nat) {X : List Nat} (B : Nat → Nat) (F : tF) (G : tG) {P : tP} (hM : RM X P) {n0 : Nat} (hn0 : n0 ≤ 60) (k0 : Int32)  : CT E tt yX12_choose cX12_choose 5 (some .long) 0 0 0 [.ref (B (100)), .int (nI n0), .int (k0)] (wl E X B F G P) (fun r w => r = some (.long (lN (chI n0 k0))) ∧ ∃ G2 : tG, (∀ z, z ≠ 149 → G2 z = G z) ∧ w = wl E X B F G2 P) := by
  refine CT.mk (by decide +kernel) (Nat.le_of_ble_eq_true rfl) ?_
  intro l p e s m below meth c A ls C hr hlk hnm hw hl
  have hx := C.1
  have hb := C.2.1
  have hts := C.2.2.2.2
  have hown : s.vm.findClass RX12 = some m.cls := C.2.2.2.1
  have hl : lv_has ls 5 [(0, .ref (B (100))), (1, .int (nI n0)), (2, .int (k0))] := hl
  refine lv_iload_n hx hb dX12_choose_0 rfl (lv_at hl 2 rfl) ?_
  refine lv_if_lt (tgt := 9) hx hb dX12_choose_1 (by decide) (fun c_1 => ?_) (fun c_1 => ?_)
  · refine lv_lconst (v := 0) hx hb dX12_choose_9 (by decide) ?_
    exact r_l C hr hlk hw ⟨(by rw [chI, if_pos (Or.inl c_1), lN_0]), G, fun _ _ => rfl, rfl⟩ dX12_choose_10
  · refine lv_iload_n hx hb dX12_choose_4 rfl (lv_at hl 2 rfl) ?_
    refine lv_iload_n hx hb dX12_choose_5 rfl (lv_at hl 1 rfl) ?_
    refine lv_icmp_le (tgt := 11) hx hb dX12_choose_6 (by decide) (fun c_6 => ?_) (fun c_6 => ?_)
    · obtain ⟨k, hk, rfl⟩ := n_of (n := n0) (Int32.not_lt.mp c_1) c_6 (by omega)
      refine lv_iconst (v := 0) hx hb dX12_choose_11 (by decide) ?_
      refine lv_istore_n (lv' := [(3, .int (0)), (0, .ref (B (100))), (1, .int (nI n0)), (2, .int (nI k))]) hx hb dX12_choose_12 rfl hl (by decide) rfl (fun ls hl => ?_)
      have lo_a : ∀ (n : Nat) (i : Nat) (G1 : tG) (H : Heap) (locs : List Loc) (ls : Array Slot), k + 1 - i < n → (i ≤ k + 1) → (∀ z, z ≠ 149 → G1 z = G z) → (∀ j, j < i → G1 149 j = lN (ch 0 j)) → Wd E tt A s (wl E X B F G1 P) H locs → lv_has ls 5 [(0, .ref (B (100))), (1, .int (nI n0)), (2, .int (nI k)), (3, .int (nI i))] → W p l e (rmO 0 0 0) s m ([.ref (B (100)), .int (nI n0), .int ((nI k))] : List Value).toArray below meth c H locs 0 0 (MQ below (Fin0 E (fun r w => r = some (.long (lN (chI n0 (nI k)))) ∧ ∃ G2 : tG, (∀ z, z ≠ 149 → G2 z = G z) ∧ w = wl E X B F G2 P) A) ([.ref (B (100)), .int (nI n0), .int ((nI k))] : List Value).toArray s 0 0 A) (F0 m 13 ls []) := by
        intro n
        induction n with
        | zero =>
          intro i G1 H locs ls hi_2
          exact absurd hi_2 (Nat.not_lt_zero _)
        | succ n ih_a =>
          intro i G1 H locs ls hj_a hi hgl hc hw hl
          refine lv_iload_n hx hb dX12_choose_13 rfl (lv_at hl 3 rfl) ?_
          refine lv_iload_n hx hb dX12_choose_14 rfl (lv_at hl 2 rfl) ?_
          refine lv_icmp_gt (tgt := 39) hx hb dX12_choose_15 (by decide) (fun c_15 => ?_) (fun c_15 => ?_)
          · have hik : i = k + 1 := by have := (nI_ltI (by omega) (by omega)).mp c_15; omega
            subst hik
            refine lv_iconst (v := 1) hx hb dX12_choose_39 (by decide) ?_
            refine lv_istore_n (lv' := [(3, .int (1)), (0, .ref (B (100))), (1, .int (nI n0)), (2, .int (nI k))]) hx hb dX12_choose_40 rfl hl (by decide) rfl (fun ls hl => ?_)
            have lo_b : ∀ (n : Nat) (m1 : Nat) (G1 : tG) (H : Heap) (locs : List Loc) (ls : Array Slot), n0 + 1 - m1 < n → (1 ≤ m1) → (m1 ≤ n0 + 1) → (∀ z, z ≠ 149 → G1 z = G z) → (∀ j, j ≤ k → G1 149 j = lN (ch (m1 - 1) j)) → Wd E tt A s (wl E X B F G1 P) H locs → lv_has ls 5 [(0, .ref (B (100))), (1, .int (nI n0)), (2, .int (nI k)), (3, .int (nI m1))] → W p l e (rmO 0 0 0) s m ([.ref (B (100)), .int (nI n0), .int ((nI k))] : List Value).toArray below meth c H locs 0 0 (MQ below (Fin0 E (fun r w => r = some (.long (lN (chI n0 (nI k)))) ∧ ∃ G2 : tG, (∀ z, z ≠ 149 → G2 z = G z) ∧ w = wl E X B F G2 P) A) ([.ref (B (100)), .int (nI n0), .int ((nI k))] : List Value).toArray s 0 0 A) (F0 m 41 ls []) := by
              intro n
              induction n with
              | zero =>
                intro m1 G1 H locs ls hi_2
                exact absurd hi_2 (Nat.not_lt_zero _)
              | succ n ih_b =>
                intro m1 G1 H locs ls hj_b hm1 hm2 hgl hc hw hl
                refine lv_iload_n hx hb dX12_choose_41 rfl (lv_at hl 3 rfl) ?_
                refine lv_iload_n hx hb dX12_choose_42 rfl (lv_at hl 1 rfl) ?_
                refine lv_icmp_gt (tgt := 94) hx hb dX12_choose_43 (by decide) (fun c_43 => ?_) (fun c_43 => ?_)
                · have hmn : m1 = n0 + 1 := by have := (nI_ltI (by omega) (by omega)).mp c_43; omega
                  subst hmn
                  refine lv_aload_n hx hb dX12_choose_94 rfl (lv_at hl 0 rfl) ?_
                  refine g_r 48 (k2 := 149) C hw (hM.m rfl) rfl fl_X12_120 rfl (hM.p 48 rfl) dX12_choose_95 ?_
                  refine lv_iload_n hx hb dX12_choose_98 rfl (lv_at hl 2 rfl) ?_
                  refine n_l k C hw (hM.m rfl) rfl rfl (show _ < 61 by omega) dX12_choose_99 ?_
                  refine tp_l (y := lN (ch n0 k)) ((hc k (Nat.le_refl k))) ?_
                  exact r_l C hr hlk hw ⟨(by rw [chI, if_neg (by rintro (h9 | h9); exact nI_pos (by omega) h9; exact absurd c_6 (Int32.not_le.mpr h9)), i4_cl (by omega)]), G1, hgl, rfl⟩ dX12_choose_100
                · have hmn : m1 ≤ n0 := by rcases Nat.lt_or_ge n0 m1 with h9 | h9; exact absurd ((nI_ltI (by omega) (by omega)).mpr h9) c_43; exact h9
                  refine lv_iload_n hx hb dX12_choose_46 rfl (lv_at hl 3 rfl) ?_
                  refine lv_iload_n hx hb dX12_choose_47 rfl (lv_at hl 2 rfl) ?_
                  refine lv_icmp_ge (tgt := 55) hx hb dX12_choose_48 (by decide) (fun c_48 => ?_) (fun c_48 => ?_)
                  · have hmk : k ≤ m1 := (nI_leI (by omega) (by omega)).mp c_48
                    refine lv_iload_n hx hb dX12_choose_55 rfl (lv_at hl 2 rfl) ?_
                    refine lv_istore (lv' := [(4, .int (nI k)), (0, .ref (B (100))), (1, .int (nI n0)), (2, .int (nI k)), (3, .int (nI m1))]) hx hb dX12_choose_56 hl (by decide) rfl (fun ls hl => ?_)
                    have lo_d : ∀ (n : Nat) (i : Nat) (G2 : tG) (H : Heap) (locs : List Loc) (ls : Array Slot), i < n → (i ≤ k ∧ i ≤ m1) → (∀ z, z ≠ 149 → G2 z = G z) → (∀ j, j ≤ k → G2 149 j = lN (if i < j then ch m1 j else ch (m1 - 1) j)) → Wd E tt A s (wl E X B F G2 P) H locs → lv_has ls 5 [(0, .ref (B (100))), (1, .int (nI n0)), (2, .int (nI k)), (3, .int (nI m1)), (4, .int (nI i))] → W p l e (rmO 0 0 0) s m ([.ref (B (100)), .int (nI n0), .int ((nI k))] : List Value).toArray below meth c H locs 0 0 (MQ below (Fin0 E (fun r w => r = some (.long (lN (chI n0 (nI k)))) ∧ ∃ G2 : tG, (∀ z, z ≠ 149 → G2 z = G z) ∧ w = wl E X B F G2 P) A) ([.ref (B (100)), .int (nI n0), .int ((nI k))] : List Value).toArray s 0 0 A) (F0 m 58 ls []) := by
                      intro n
                      induction n with
                      | zero =>
                        intro i G2 H locs ls hi_2
                        exact absurd hi_2 (Nat.not_lt_zero _)
                      | succ n ih_d =>
                        intro i G2 H locs ls hj_d hi2 hgl2 hc2 hw hl
                        refine lv_iload hx hb dX12_choose_58 (lv_at hl 4 rfl) ?_
                        refine lv_if_le (tgt := 88) hx hb dX12_choose_60 (by decide) (fun c_60 => ?_) (fun c_60 => ?_)
                        · have hi0 : i = 0 := by have := (nI_leI (b := 0) (by omega) (by decide)).mp c_60; omega
                          subst hi0
                          have hd : ∀ j, j ≤ k → G2 149 j = lN (ch m1 j) := ch_e hc2
                          refine lv_iinc (v := nI (m1 + 1)) (lv' := [(3, .int (nI (m1 + 1))), (0, .ref (B (100))), (1, .int (nI n0)), (2, .int (nI k)), (4, .int (nI 0))]) hx hb dX12_choose_88 hl (k := 3) rfl (nI_1 _) (by decide) rfl (fun ls hl => ?_)
                          refine lv_goto (tgt := 41) hx hb dX12_choose_91 (by decide) ?_
                          exact ih_b (m1 + 1) G2 _ _ _ (by omega) (by omega) (by omega) hgl2 (fun j hj => by rw [Nat.add_sub_cancel]; exact hd j hj) hw (lv_sub hl [1, 2, 3, 0] rfl)
                        · have hi0 : 0 < i := Nat.pos_of_ne_zero (fun h9 => c_60 (by rw [h9]; exact Int32.le_refl 0))
                          refine lv_aload_n hx hb dX12_choose_63 rfl (lv_at hl 0 rfl) ?_
                          refine g_r 48 (k2 := 149) C hw (hM.m rfl) rfl fl_X12_120 rfl (hM.p 48 rfl) dX12_choose_64 ?_
                          refine lv_iload hx hb dX12_choose_67 (lv_at hl 4 rfl) ?_
                          refine lv_dup2_11 hx hb dX12_choose_69 rfl rfl ?_
                          refine n_l i C hw (hM.m rfl) rfl rfl (show _ < 61 by omega) dX12_choose_70 ?_
                          refine tp_l (y := lN (ch (m1 - 1) i)) ((hc2 i (by omega)).trans (by rw [if_neg (Nat.lt_irrefl i)])) ?_
                          refine lv_aload_n hx hb dX12_choose_71 rfl (lv_at hl 0 rfl) ?_
                          refine g_r 48 (k2 := 149) C hw (hM.m rfl) rfl fl_X12_120 rfl (hM.p 48 rfl) dX12_choose_72 ?_
                          refine lv_iload hx hb dX12_choose_75 (lv_at hl 4 rfl) ?_
                          refine lv_iconst (v := 1) hx hb dX12_choose_77 (by decide) ?_
                          refine lv_isub hx hb dX12_choose_78 ?_
                          refine tp_i (y := nI (i - 1)) (pk_sub (a := i) (b := 1) (by omega)) ?_
                          refine n_l (i - 1) C hw (hM.m rfl) rfl rfl (show _ < 61 by omega) dX12_choose_79 ?_
                          refine tp_l (y := lN (ch (m1 - 1) (i - 1))) ((hc2 (i - 1) (by omega)).trans (by rw [if_neg (by omega)])) ?_
                          refine lv_ladd hx hb dX12_choose_80 ?_
                          refine tp_l (y := lN (ch m1 i)) (ch_p hm1 hi0) ?_
                          refine t_l i C hw (hM.m rfl) rfl rfl (show _ < 61 by omega) dX12_choose_81 (fun H locs hw => ?_)
                          refine lv_iinc (v := nI (i - 1)) (lv' := [(4, .int (nI (i - 1))), (0, .ref (B (100))), (1, .int (nI n0)), (2, .int (nI k)), (3, .int (nI m1))]) hx hb dX12_choose_82 hl (k := 4) rfl (sb_m1 (by omega)) (by decide) rfl (fun ls hl => ?_)
                          refine lv_goto (tgt := 58) hx hb dX12_choose_85 (by decide) ?_
                          exact ih_d (i - 1) (uG G2 149 i (lN (ch m1 i))) _ _ _ (by omega) (by omega) (fun z hz => (uG_o G2 _ _ hz).trans (hgl2 z hz)) (ch_n hc2 hi0 hi2 hm1) hw (lv_sub hl [1, 2, 3, 4, 0] rfl)
                    exact lo_d _ k G1 _ _ _ (Nat.lt_succ_self _) (by omega) hgl (ch_s hc hm1 (Or.inl rfl)) hw (lv_sub hl [1, 2, 3, 4, 0] rfl)
                  · have hmk : m1 ≤ k := by rcases Nat.lt_or_ge k m1 with h9 | h9; exact absurd ((nI_leI (by omega) (by omega)).mpr (Nat.le_of_lt h9)) c_48; exact h9
                    refine lv_iload_n hx hb dX12_choose_51 rfl (lv_at hl 3 rfl) ?_
                    refine lv_goto (tgt := 56) hx hb dX12_choose_52 (by decide) ?_
                    refine lv_istore (lv' := [(4, .int (nI m1)), (0, .ref (B (100))), (1, .int (nI n0)), (2, .int (nI k)), (3, .int (nI m1))]) hx hb dX12_choose_56 hl (by decide) rfl (fun ls hl => ?_)
                    have lo_d : ∀ (n : Nat) (i : Nat) (G2 : tG) (H : Heap) (locs : List Loc) (ls : Array Slot), i < n → (i ≤ k ∧ i ≤ m1) → (∀ z, z ≠ 149 → G2 z = G z) → (∀ j, j ≤ k → G2 149 j = lN (if i < j then ch m1 j else ch (m1 - 1) j)) → Wd E tt A s (wl E X B F G2 P) H locs → lv_has ls 5 [(0, .ref (B (100))), (1, .int (nI n0)), (2, .int (nI k)), (3, .int (nI m1)), (4, .int (nI i))] → W p l e (rmO 0 0 0) s m ([.ref (B (100)), .int (nI n0), .int ((nI k))] : List Value).toArray below meth c H locs 0 0 (MQ below (Fin0 E (fun r w => r = some (.long (lN (chI n0 (nI k)))) ∧ ∃ G2 : tG, (∀ z, z ≠ 149 → G2 z = G z) ∧ w = wl E X B F G2 P) A) ([.ref (B (100)), .int (nI n0), .int ((nI k))] : List Value).toArray s 0 0 A) (F0 m 58 ls []) := by
                      intro n
                      induction n with
                      | zero =>
                        intro i G2 H locs ls hi_2
                        exact absurd hi_2 (Nat.not_lt_zero _)
                      | succ n ih_d =>
                        intro i G2 H locs ls hj_d hi2 hgl2 hc2 hw hl
                        refine lv_iload hx hb dX12_choose_58 (lv_at hl 4 rfl) ?_
                        refine lv_if_le (tgt := 88) hx hb dX12_choose_60 (by decide) (fun c_60 => ?_) (fun c_60 => ?_)
                        · have hi0 : i = 0 := by have := (nI_leI (b := 0) (by omega) (by decide)).mp c_60; omega
                          subst hi0
                          have hd : ∀ j, j ≤ k → G2 149 j = lN (ch m1 j) := ch_e hc2
                          refine lv_iinc (v := nI (m1 + 1)) (lv' := [(3, .int (nI (m1 + 1))), (0, .ref (B (100))), (1, .int (nI n0)), (2, .int (nI k)), (4, .int (nI 0))]) hx hb dX12_choose_88 hl (k := 3) rfl (nI_1 _) (by decide) rfl (fun ls hl => ?_)
                          refine lv_goto (tgt := 41) hx hb dX12_choose_91 (by decide) ?_
                          exact ih_b (m1 + 1) G2 _ _ _ (by omega) (by omega) (by omega) hgl2 (fun j hj => by rw [Nat.add_sub_cancel]; exact hd j hj) hw (lv_sub hl [1, 2, 3, 0] rfl)
                        · have hi0 : 0 < i := Nat.pos_of_ne_zero (fun h9 => c_60 (by rw [h9]; exact Int32.le_refl 0))
                          refine lv_aload_n hx hb dX12_choose_63 rfl (lv_at hl 0 rfl) ?_
                          refine g_r 48 (k2 := 149) C hw (hM.m rfl) rfl fl_X12_120 rfl (hM.p 48 rfl) dX12_choose_64 ?_
                          refine lv_iload hx hb dX12_choose_67 (lv_at hl 4 rfl) ?_
                          refine lv_dup2_11 hx hb dX12_choose_69 rfl rfl ?_
                          refine n_l i C hw (hM.m rfl) rfl rfl (show _ < 61 by omega) dX12_choose_70 ?_
                          refine tp_l (y := lN (ch (m1 - 1) i)) ((hc2 i (by omega)).trans (by rw [if_neg (Nat.lt_irrefl i)])) ?_
                          refine lv_aload_n hx hb dX12_choose_71 rfl (lv_at hl 0 rfl) ?_
                          refine g_r 48 (k2 := 149) C hw (hM.m rfl) rfl fl_X12_120 rfl (hM.p 48 rfl) dX12_choose_72 ?_
                          refine lv_iload hx hb dX12_choose_75 (lv_at hl 4 rfl) ?_
                          refine lv_iconst (v := 1) hx hb dX12_choose_77 (by decide) ?_
                          refine lv_isub hx hb dX12_choose_78 ?_
                          refine tp_i (y := nI (i - 1)) (pk_sub (a := i) (b := 1) (by omega)) ?_
                          refine n_l (i - 1) C hw (hM.m rfl) rfl rfl (show _ < 61 by omega) dX12_choose_79 ?_
                          refine tp_l (y := lN (ch (m1 - 1) (i - 1))) ((hc2 (i - 1) (by omega)).trans (by rw [if_neg (by omega)])) ?_
                          refine lv_ladd hx hb dX12_choose_80 ?_
                          refine tp_l (y := lN (ch m1 i)) (ch_p hm1 hi0) ?_
                          refine t_l i C hw (hM.m rfl) rfl rfl (show _ < 61 by omega) dX12_choose_81 (fun H locs hw => ?_)
                          refine lv_iinc (v := nI (i - 1)) (lv' := [(4, .int (nI (i - 1))), (0, .ref (B (100))), (1, .int (nI n0)), (2, .int (nI k)), (3, .int (nI m1))]) hx hb dX12_choose_82 hl (k := 4) rfl (sb_m1 (by omega)) (by decide) rfl (fun ls hl => ?_)
                          refine lv_goto (tgt := 58) hx hb dX12_choose_85 (by decide) ?_
                          exact ih_d (i - 1) (uG G2 149 i (lN (ch m1 i))) _ _ _ (by omega) (by omega) (fun z hz => (uG_o G2 _ _ hz).trans (hgl2 z hz)) (ch_n hc2 hi0 hi2 hm1) hw (lv_sub hl [1, 2, 3, 4, 0] rfl)
                    exact lo_d _ m1 G1 _ _ _ (Nat.lt_succ_self _) (by omega) hgl (ch_s hc hm1 (Or.inr rfl)) hw (lv_sub hl [1, 2, 3, 4, 0] rfl)
            exact lo_b _ 1 G1 _ _ _ (Nat.lt_succ_self _) (Nat.le_refl 1) (by omega) hgl (fun j hj => hc j (by omega)) hw (lv_sub hl [1, 2, 3, 0] rfl)
          · have hik : i ≤ k := by rcases Nat.lt_or_ge k i with h9 | h9; exact absurd ((nI_ltI (by omega) (by omega)).mpr h9) c_15; exact h9
            refine lv_aload_n hx hb dX12_choose_18 rfl (lv_at hl 0 rfl) ?_
            refine g_r 48 (k2 := 149) C hw (hM.m rfl) rfl fl_X12_120 rfl (hM.p 48 rfl) dX12_choose_19 ?_
            refine lv_iload_n hx hb dX12_choose_22 rfl (lv_at hl 3 rfl) ?_
            refine lv_iload_n hx hb dX12_choose_23 rfl (lv_at hl 3 rfl) ?_
            refine lv_if_ne (tgt := 31) hx hb dX12_choose_24 (by decide) (fun c_24 => ?_) (fun c_24 => ?_)
            · have hz0 : ¬ i = 0 := fun h9 => c_24 (by rw [h9]; rfl)
              refine lv_lconst (v := 0) hx hb dX12_choose_31 (by decide) ?_
              refine t_l i C hw (hM.m rfl) rfl rfl (show _ < 61 by omega) dX12_choose_32 (fun H locs hw => ?_)
              refine lv_iinc (v := nI (i + 1)) (lv' := [(3, .int (nI (i + 1))), (0, .ref (B (100))), (1, .int (nI n0)), (2, .int (nI k))]) hx hb dX12_choose_33 hl (k := 3) rfl (nI_1 _) (by decide) rfl (fun ls hl => ?_)
              refine lv_goto (tgt := 13) hx hb dX12_choose_36 (by decide) ?_
              exact ih_a (i + 1) (uG G1 149 i 0) _ _ _ (by omega) (by omega) (fun z hz => (uG_o G1 _ _ hz).trans (hgl z hz)) (ch_i1 hc hz0) hw (lv_sub hl [1, 2, 3, 0] rfl)
            · have hz0 : i = 0 := (nI_eq (by omega) (by decide)).mp c_24
              refine lv_lconst (v := 1) hx hb dX12_choose_27 (by decide) ?_
              refine lv_goto (tgt := 32) hx hb dX12_choose_28 (by decide) ?_
              refine t_l i C hw (hM.m rfl) rfl rfl (show _ < 61 by omega) dX12_choose_32 (fun H locs hw => ?_)
              refine lv_iinc (v := nI (i + 1)) (lv' := [(3, .int (nI (i + 1))), (0, .ref (B (100))), (1, .int (nI n0)), (2, .int (nI k))]) hx hb dX12_choose_33 hl (k := 3) rfl (nI_1 _) (by decide) rfl (fun ls hl => ?_)
              refine lv_goto (tgt := 13) hx hb dX12_choose_36 (by decide) ?_
              exact ih_a (i + 1) (uG G1 149 i 1) _ _ _ (by omega) (by omega) (fun z hz => (uG_o G1 _ _ hz).trans (hgl z hz)) (ch_i0 hc hz0) hw (lv_sub hl [1, 2, 3, 0] rfl)
      exact lo_a _ 0 G _ _ _ (Nat.lt_succ_self _) (by omega) (fun _ _ => rfl) (fun j hj => absurd hj (Nat.not_lt_zero j)) hw (lv_sub hl [1, 2, 3, 0] rfl)
    · rw [Int32.not_le] at c_6
      refine lv_lconst (v := 0) hx hb dX12_choose_9 (by decide) ?_
      exact r_l C hr hlk hw ⟨(by rw [chI, if_pos (Or.inr c_6), lN_0]), G, fun _ _ => rfl, rfl⟩ dX12_choose_10

set_option maxHeartbeats 4000000 in
set_option maxRecDepth 100000 in
theorem c_X12_isMore (E : cE) (tt : Nat × Nat × Nat) {X : List Nat} (B : Nat → Nat) (F : tF) (G : tG) {P : tP} (hM : RM X P) (nn : Nat) (hNn : NN F nn) (ca : Int32)  : CT E tt yX12_isMore cX12_isMore 9 (some .boolean) 1 0 0 [.ref (B (100)), .int (ca)] (wl E X B F G P) (fun r w => ∃ G2 : tG, (∀ z, z ≠ 149 → G2 z = G z) ∧ ((w_more F nn ca = true ∧ r = some (.int 1) ∧ w = wl E X B F G2 P) ∨ (¬ w_more F nn ca = true ∧ r = some (.int 0) ∧ w = wl E X B F G2 P))) := by
  refine CT.mk (by decide +kernel) (Nat.le_of_ble_eq_true rfl) ?_
  intro l p e s m below meth c A ls C hr hlk hnm hw hl
  have hx := C.1
  have hb := C.2.1
  have hts := C.2.2.2.2
  have hown : s.vm.findClass RX12 = some m.cls := C.2.2.2.1
  have hl : lv_has ls 9 [(0, .ref (B (100))), (1, .int (ca))] := hl
  have hn60 := hNn.2
  have hq0 := tlN_sum F ca nn
  refine lv_aload_n hx hb dX12_isMore_0 rfl (lv_at hl 0 rfl) ?_
  refine lv_iload_n hx hb dX12_isMore_1 rfl (lv_at hl 1 rfl) ?_
  refine lv_iconst (v := 0) hx hb dX12_isMore_2 (by decide) ?_
  refine kV C hw (c_X12_tallyOf E tt B F G hM nn hNn (ca) (wh := 0) (by omega)) vy_X12_tallyOf ml_X12_267 (rcv hw (hM.m rfl) rfl (by decide) (q2 := (RX12, TX12, 49)) rfl) rfl hl.1 (rest := []) rfl dX12_isMore_3 (Nat.le_of_ble_eq_true rfl) ⟨by decide, by decide⟩ ⟨Nat.le_of_ble_eq_true rfl, Nat.le_of_ble_eq_true rfl⟩ (fun v_3 ws_3 H locs hp_3 hq_3 => ?_)
  clear hw
  obtain ⟨rfl, rfl⟩ := hp_3
  have hw := hq_3
  refine W.eq (g2 := F0 m 6 ls [.int (nI (tlN F (ca) 0 nn))]) rfl ?_
  refine lv_istore_n (lv' := [(2, .int (nI (tlN F (ca) 0 nn))), (0, .ref (B (100))), (1, .int (ca))]) hx hb dX12_isMore_6 rfl hl (by decide) rfl (fun ls hl => ?_)
  refine lv_iload_n hx hb dX12_isMore_7 rfl (lv_at hl 0 rfl) ?_
  refine lv_aload_n hx hb dX12_isMore_8 rfl (lv_at hl 1 rfl) ?_
  refine lv_iload_n hx hb dX12_isMore_9 rfl (lv_at hl 2 rfl) ?_
  refine lv_iconst (v := 1) hx hb dX12_isMore_10 (by decide) ?_
  refine kV C hw (c_X12_tallyOf E tt B F G hM nn hNn (ca) (wh := 1) (by omega)) vy_X12_tallyOf ml_X12_267 (rcv hw (hM.m rfl) rfl (by decide) (q2 := (RX12, TX12, 49)) rfl) rfl hl.1 (rest := [.int (nI (tlN F (ca) 0 nn))]) rfl dX12_isMore_11 (Nat.le_of_ble_eq_true rfl) ⟨by decide, by decide⟩ ⟨Nat.le_of_ble_eq_true rfl, Nat.le_of_ble_eq_true rfl⟩ (fun v_11 ws_11 H locs hp_11 hq_11 => ?_)
  clear hw
  obtain ⟨rfl, rfl⟩ := hp_11
  have hw := hq_11
  refine W.eq (g2 := F0 m 14 ls [.int (nI (tlN F (ca) 1 nn)), .int (nI (tlN F (ca) 0 nn))]) rfl ?_
  refine lv_iadd hx hb dX12_isMore_14 ?_
  refine tp_i (y := nI (tlN F ca 0 nn + tlN F ca 1 nn)) (nI_add _ _) ?_
  refine lv_istore_n (lv' := [(3, .int (nI (tlN F ca 0 nn + tlN F ca 1 nn))), (2, .int (nI (tlN F (ca) 0 nn))), (0, .ref (B (100))), (1, .int (ca))]) hx hb dX12_isMore_15 rfl hl (by decide) rfl (fun ls hl => ?_)
  refine lv_aload_n hx hb dX12_isMore_16 rfl (lv_at hl 2 rfl) ?_
  refine lv_iload_n hx hb dX12_isMore_17 rfl (lv_at hl 3 rfl) ?_
  refine lv_iconst (v := 2) hx hb dX12_isMore_18 (by decide) ?_
  refine kV C hw (c_X12_tallyOf E tt B F G hM nn hNn (ca) (wh := 2) (by omega)) vy_X12_tallyOf ml_X12_267 (rcv hw (hM.m rfl) rfl (by decide) (q2 := (RX12, TX12, 49)) rfl) rfl hl.1 (rest := []) rfl dX12_isMore_19 (Nat.le_of_ble_eq_true rfl) ⟨by decide, by decide⟩ ⟨Nat.le_of_ble_eq_true rfl, Nat.le_of_ble_eq_true rfl⟩ (fun v_19 ws_19 H locs hp_19 hq_19 => ?_)
  clear hw
  obtain ⟨rfl, rfl⟩ := hp_19
  have hw := hq_19
  refine W.eq (g2 := F0 m 22 ls [.int (nI (tlN F (ca) 2 nn))]) rfl ?_
  refine lv_aload_n hx hb dX12_isMore_22 rfl (lv_at hl 2 rfl) ?_
  refine lv_iload_n hx hb dX12_isMore_23 rfl (lv_at hl 3 rfl) ?_
  refine lv_iconst (v := 3) hx hb dX12_isMore_24 (by decide) ?_
  refine kV C hw (c_X12_tallyOf E tt B F G hM nn hNn (ca) (wh := 3) (by omega)) vy_X12_tallyOf ml_X12_267 (rcv hw (hM.m rfl) rfl (by decide) (q2 := (RX12, TX12, 49)) rfl) rfl hl.1 (rest := [.int (nI (tlN F (ca) 2 nn))]) rfl dX12_isMore_25 (Nat.le_of_ble_eq_true rfl) ⟨by decide, by decide⟩ ⟨Nat.le_of_ble_eq_true rfl, Nat.le_of_ble_eq_true rfl⟩ (fun v_25 ws_25 H locs hp_25 hq_25 => ?_)
  clear hw
  obtain ⟨rfl, rfl⟩ := hp_25
  have hw := hq_25
  refine W.eq (g2 := F0 m 28 ls [.int (nI (tlN F (ca) 3 nn)), .int (nI (tlN F (ca) 2 nn))]) rfl ?_
  refine lv_iadd hx hb dX12_isMore_28 ?_
  refine tp_i (y := nI (tlN F ca 2 nn + tlN F ca 3 nn)) (nI_add _ _) ?_
  refine lv_istore (lv' := [(4, .int (nI (tlN F ca 2 nn + tlN F ca 3 nn))), (3, .int (nI (tlN F ca 0 nn + tlN F ca 1 nn))), (2, .int (nI (tlN F (ca) 0 nn))), (0, .ref (B (100))), (1, .int (ca))]) hx hb dX12_isMore_29 hl (by decide) rfl (fun ls hl => ?_)
  refine lv_iload_n hx hb dX12_isMore_31 rfl (lv_at hl 2 rfl) ?_
  refine lv_aload_n hx hb dX12_isMore_32 rfl (lv_at hl 3 rfl) ?_
  refine lv_iload_n hx hb dX12_isMore_33 rfl (lv_at hl 4 rfl) ?_
  refine lv_iconst (v := 2) hx hb dX12_isMore_34 (by decide) ?_
  refine kV C hw (c_X12_tallyOf E tt B F G hM nn hNn (ca) (wh := 2) (by omega)) vy_X12_tallyOf ml_X12_267 (rcv hw (hM.m rfl) rfl (by decide) (q2 := (RX12, TX12, 49)) rfl) rfl hl.1 (rest := [.int (nI (tlN F (ca) 0 nn))]) rfl dX12_isMore_35 (Nat.le_of_ble_eq_true rfl) ⟨by decide, by decide⟩ ⟨Nat.le_of_ble_eq_true rfl, Nat.le_of_ble_eq_true rfl⟩ (fun v_35 ws_35 H locs hp_35 hq_35 => ?_)
  clear hw
  obtain ⟨rfl, rfl⟩ := hp_35
  have hw := hq_35
  refine W.eq (g2 := F0 m 38 ls [.int (nI (tlN F (ca) 2 nn)), .int (nI (tlN F (ca) 0 nn))]) rfl ?_
  refine lv_iadd hx hb dX12_isMore_38 ?_
  refine tp_i (y := nI (tlN F ca 0 nn + tlN F ca 2 nn)) (nI_add _ _) ?_
  refine lv_istore (lv' := [(5, .int (nI (tlN F ca 0 nn + tlN F ca 2 nn))), (4, .int (nI (tlN F ca 2 nn + tlN F ca 3 nn))), (3, .int (nI (tlN F ca 0 nn + tlN F ca 1 nn))), (2, .int (nI (tlN F (ca) 0 nn))), (0, .ref (B (100))), (1, .int (ca))]) hx hb dX12_isMore_39 hl (by decide) rfl (fun ls hl => ?_)
  refine lv_lconst (v := 0) hx hb dX12_isMore_41 (by decide) ?_
  refine lv_lstore (lv' := [(6, .long (0)), (5, .int (nI (tlN F ca 0 nn + tlN F ca 2 nn))), (4, .int (nI (tlN F ca 2 nn + tlN F ca 3 nn))), (3, .int (nI (tlN F ca 0 nn + tlN F ca 1 nn))), (2, .int (nI (tlN F (ca) 0 nn))), (0, .ref (B (100))), (1, .int (ca))]) hx hb dX12_isMore_42 hl (by decide) rfl (fun ls hl => ?_)
  refine lv_iload_n hx hb dX12_isMore_44 rfl (lv_at hl 4 rfl) ?_
  refine lv_istore (lv' := [(8, .int (nI (tlN F (ca) 0 nn))), (6, .long (0)), (5, .int (nI (tlN F ca 0 nn + tlN F ca 2 nn))), (4, .int (nI (tlN F ca 2 nn + tlN F ca 3 nn))), (3, .int (nI (tlN F ca 0 nn + tlN F ca 1 nn))), (2, .int (nI (tlN F (ca) 0 nn))), (0, .ref (B (100))), (1, .int (ca))]) hx hb dX12_isMore_45 hl (by decide) rfl (fun ls hl => ?_)
  have lo_a : ∀ (n : Nat) (j : Nat) (G1 : tG) (H : Heap) (locs : List Loc) (ls : Array Slot), tlN F ca 1 nn + 1 - j < n → (j ≤ tlN F ca 1 nn + 1) → (∀ z, z ≠ 149 → G1 z = G z) → Wd E tt A s (wl E X B F G1 P) H locs → lv_has ls 9 [(0, .ref (B (100))), (1, .int (ca)), (2, .int (nI (tlN F ca 0 nn))), (3, .int (nI (tlN F ca 0 nn + tlN F ca 1 nn))), (4, .int (nI (tlN F ca 2 nn + tlN F ca 3 nn))), (5, .int (nI (tlN F ca 0 nn + tlN F ca 2 nn))), (6, .long (tsum (tlN F ca 0 nn + tlN F ca 1 nn) (tlN F ca 2 nn + tlN F ca 3 nn) (tlN F ca 0 nn + tlN F ca 2 nn) (tlN F ca 0 nn) j)), (8, .int (nI (tlN F ca 0 nn + j)))] → W p l e (rmO 1 0 0) s m ([.ref (B (100)), .int (ca)] : List Value).toArray below meth c H locs 0 0 (MQ below (Fin0 E (fun r w => ∃ G2 : tG, (∀ z, z ≠ 149 → G2 z = G z) ∧ ((w_more F nn ca = true ∧ r = some (.int 1) ∧ w = wl E X B F G2 P) ∨ (¬ w_more F nn ca = true ∧ r = some (.int 0) ∧ w = wl E X B F G2 P))) A) ([.ref (B (100)), .int (ca)] : List Value).toArray s 0 0 A) (F0 m 47 ls []) := by
    intro n
    induction n with
    | zero =>
      intro j G1 H locs ls hi_2
      exact absurd hi_2 (Nat.not_lt_zero _)
    | succ n ih_a =>
      intro j G1 H locs ls hj_a hj hgl hw hl
      refine lv_iload hx hb dX12_isMore_47 (lv_at hl 7 rfl) ?_
      refine lv_iload_n hx hb dX12_isMore_49 rfl (lv_at hl 3 rfl) ?_
      refine lv_icmp_gt (tgt := 83) hx hb dX12_isMore_50 (by decide) (fun c_50 => ?_) (fun c_50 => ?_)
      · have hjb : j = tlN F ca 1 nn + 1 := by have := (nI_ltI (by omega) (by omega)).mp c_50; omega
        subst hjb
        refine lv_lload hx hb dX12_isMore_83 (lv_at hl 6 rfl) ?_
        refine lv_aload_n hx hb dX12_isMore_85 rfl (lv_at hl 0 rfl) ?_
        refine lv_aload_n hx hb dX12_isMore_86 rfl (lv_at hl 0 rfl) ?_
        refine g_i 27 C hw (hM.m rfl) rfl fl_X12_264 rfl dX12_isMore_87 ?_
        refine tp_i (y := nI nn) (hNn.1) ?_
        refine lv_iload hx hb dX12_isMore_90 (lv_at hl 5 rfl) ?_
        refine kV C hw (c_X12_choose E tt B F G1 hM (n0 := nn) (by omega) (nI (tlN F ca 0 nn + tlN F ca 2 nn))) vy_X12_choose ml_X12_280 (rcv hw (hM.m rfl) rfl (by decide) (q2 := (RX12, TX12, 49)) rfl) rfl hl.1 (rest := [.long (tsum (tlN F ca 0 nn + tlN F ca 1 nn) (tlN F ca 2 nn + tlN F ca 3 nn) (tlN F ca 0 nn + tlN F ca 2 nn) (tlN F ca 0 nn) (tlN F ca 1 nn + 1))]) rfl dX12_isMore_92 (Nat.le_of_ble_eq_true rfl) ⟨by decide, by decide⟩ ⟨Nat.le_of_ble_eq_true rfl, Nat.le_of_ble_eq_true rfl⟩ (fun v_92 ws_92 H locs hp_92 hq_92 => ?_)
        clear hw
        obtain ⟨rfl, G_92, hG_92, rfl⟩ := hp_92
        have hw := hq_92
        refine W.eq (g2 := F0 m 95 ls [.long (lN (chI (nn) (nI (tlN F ca 0 nn + tlN F ca 2 nn)))), .long (tsum (tlN F ca 0 nn + tlN F ca 1 nn) (tlN F ca 2 nn + tlN F ca 3 nn) (tlN F ca 0 nn + tlN F ca 2 nn) (tlN F ca 0 nn) (tlN F ca 1 nn + 1))]) rfl ?_
        refine lv_ldc2 (v := 20) hx hb hown (hts _ kc_X12_284) dX12_isMore_95 ?_
        refine lv_ldiv hx hb dX12_isMore_98 (by decide) ?_
        refine W.lcmp hx hb dX12_isMore_99 ?_
        refine lv_if_gt (tgt := 107) hx hb dX12_isMore_100 (by decide) (fun c_100 => ?_) (fun c_100 => ?_)
        · simp only [gt_iff_lt, lg_gt] at c_100
          refine lv_iconst (v := 0) hx hb dX12_isMore_107 (by decide) ?_
          exact r_z C hr hlk hw rfl ⟨G_92, fun z hz => (hG_92 z hz).trans (hgl z hz), Or.inr ⟨fun h9 => absurd (of_decide_eq_true h9) (Int64.not_le.mpr c_100), rfl, rfl⟩⟩ dX12_isMore_108
        · simp only [gt_iff_lt, lg_gt] at c_100
          refine lv_iconst (v := 1) hx hb dX12_isMore_103 (by decide) ?_
          refine lv_goto (tgt := 108) hx hb dX12_isMore_104 (by decide) ?_
          exact r_z C hr hlk hw rfl ⟨G_92, fun z hz => (hG_92 z hz).trans (hgl z hz), Or.inl ⟨decide_eq_true (Int64.not_lt.mp c_100), rfl, rfl⟩⟩ dX12_isMore_108
      · have hjb : j ≤ tlN F ca 1 nn := by rcases Nat.lt_or_ge (tlN F ca 1 nn) j with h9 | h9; exact absurd ((nI_ltI (by omega) (by omega)).mpr (by omega)) c_50; omega
        refine lv_lload hx hb dX12_isMore_53 (lv_at hl 6 rfl) ?_
        refine lv_aload_n hx hb dX12_isMore_55 rfl (lv_at hl 0 rfl) ?_
        refine lv_iload_n hx hb dX12_isMore_56 rfl (lv_at hl 3 rfl) ?_
        refine lv_iload hx hb dX12_isMore_57 (lv_at hl 7 rfl) ?_
        refine kV C hw (c_X12_choose E tt B F G1 hM (n0 := tlN F ca 0 nn + tlN F ca 1 nn) (by omega) (nI (tlN F ca 0 nn + j))) vy_X12_choose ml_X12_280 (rcv hw (hM.m rfl) rfl (by decide) (q2 := (RX12, TX12, 49)) rfl) rfl hl.1 (rest := [.long (tsum (tlN F ca 0 nn + tlN F ca 1 nn) (tlN F ca 2 nn + tlN F ca 3 nn) (tlN F ca 0 nn + tlN F ca 2 nn) (tlN F ca 0 nn) j)]) rfl dX12_isMore_59 (Nat.le_of_ble_eq_true rfl) ⟨by decide, by decide⟩ ⟨Nat.le_of_ble_eq_true rfl, Nat.le_of_ble_eq_true rfl⟩ (fun v_59 ws_59 H locs hp_59 hq_59 => ?_)
        clear hw
        obtain ⟨rfl, G_59, hG_59, rfl⟩ := hp_59
        have hw := hq_59
        refine W.eq (g2 := F0 m 62 ls [.long (lN (chI (tlN F ca 0 nn + tlN F ca 1 nn) (nI (tlN F ca 0 nn + j)))), .long (tsum (tlN F ca 0 nn + tlN F ca 1 nn) (tlN F ca 2 nn + tlN F ca 3 nn) (tlN F ca 0 nn + tlN F ca 2 nn) (tlN F ca 0 nn) j)]) rfl ?_
        refine lv_aload_n hx hb dX12_isMore_62 rfl (lv_at hl 0 rfl) ?_
        refine lv_iload hx hb dX12_isMore_63 (lv_at hl 4 rfl) ?_
        refine lv_iload hx hb dX12_isMore_65 (lv_at hl 5 rfl) ?_
        refine lv_iload hx hb dX12_isMore_67 (lv_at hl 7 rfl) ?_
        refine lv_isub hx hb dX12_isMore_69 ?_
        refine kV C hw (c_X12_choose E tt B F G_59 hM (n0 := tlN F ca 2 nn + tlN F ca 3 nn) (by omega) ((nI (tlN F ca 0 nn + tlN F ca 2 nn) - nI (tlN F ca 0 nn + j)))) vy_X12_choose ml_X12_280 (rcv hw (hM.m rfl) rfl (by decide) (q2 := (RX12, TX12, 49)) rfl) rfl hl.1 (rest := [.long (lN (chI (tlN F ca 0 nn + tlN F ca 1 nn) (nI (tlN F ca 0 nn + j)))), .long (tsum (tlN F ca 0 nn + tlN F ca 1 nn) (tlN F ca 2 nn + tlN F ca 3 nn) (tlN F ca 0 nn + tlN F ca 2 nn) (tlN F ca 0 nn) j)]) rfl dX12_isMore_70 (Nat.le_of_ble_eq_true rfl) ⟨by decide, by decide⟩ ⟨Nat.le_of_ble_eq_true rfl, Nat.le_of_ble_eq_true rfl⟩ (fun v_70 ws_70 H locs hp_70 hq_70 => ?_)
        clear hw
        obtain ⟨rfl, G_70, hG_70, rfl⟩ := hp_70
        have hw := hq_70
        refine W.eq (g2 := F0 m 73 ls [.long (lN (chI (tlN F ca 2 nn + tlN F ca 3 nn) ((nI (tlN F ca 0 nn + tlN F ca 2 nn) - nI (tlN F ca 0 nn + j))))), .long (lN (chI (tlN F ca 0 nn + tlN F ca 1 nn) (nI (tlN F ca 0 nn + j)))), .long (tsum (tlN F ca 0 nn + tlN F ca 1 nn) (tlN F ca 2 nn + tlN F ca 3 nn) (tlN F ca 0 nn + tlN F ca 2 nn) (tlN F ca 0 nn) j)]) rfl ?_
        refine lv_lmul hx hb dX12_isMore_73 ?_
        refine lv_ladd hx hb dX12_isMore_74 ?_
        refine lv_lstore (lv' := [(6, .long ((tsum (tlN F ca 0 nn + tlN F ca 1 nn) (tlN F ca 2 nn + tlN F ca 3 nn) (tlN F ca 0 nn + tlN F ca 2 nn) (tlN F ca 0 nn) j + (lN (chI (tlN F ca 0 nn + tlN F ca 1 nn) (nI (tlN F ca 0 nn + j))) * lN (chI (tlN F ca 2 nn + tlN F ca 3 nn) ((nI (tlN F ca 0 nn + tlN F ca 2 nn) - nI (tlN F ca 0 nn + j)))))))), (0, .ref (B (100))), (1, .int (ca)), (2, .int (nI (tlN F ca 0 nn))), (3, .int (nI (tlN F ca 0 nn + tlN F ca 1 nn))), (4, .int (nI (tlN F ca 2 nn + tlN F ca 3 nn))), (5, .int (nI (tlN F ca 0 nn + tlN F ca 2 nn))), (8, .int (nI (tlN F ca 0 nn + j)))]) hx hb dX12_isMore_75 hl (by decide) rfl (fun ls hl => ?_)
        refine lv_iinc (v := nI (tlN F ca 0 nn + j + 1)) (lv' := [(8, .int (nI (tlN F ca 0 nn + j + 1))), (6, .long ((tsum (tlN F ca 0 nn + tlN F ca 1 nn) (tlN F ca 2 nn + tlN F ca 3 nn) (tlN F ca 0 nn + tlN F ca 2 nn) (tlN F ca 0 nn) j + (lN (chI (tlN F ca 0 nn + tlN F ca 1 nn) (nI (tlN F ca 0 nn + j))) * lN (chI (tlN F ca 2 nn + tlN F ca 3 nn) ((nI (tlN F ca 0 nn + tlN F ca 2 nn) - nI (tlN F ca 0 nn + j)))))))), (0, .ref (B (100))), (1, .int (ca)), (2, .int (nI (tlN F ca 0 nn))), (3, .int (nI (tlN F ca 0 nn + tlN F ca 1 nn))), (4, .int (nI (tlN F ca 2 nn + tlN F ca 3 nn))), (5, .int (nI (tlN F ca 0 nn + tlN F ca 2 nn)))]) hx hb dX12_isMore_77 hl (k := 7) rfl (nI_1 _) (by decide) rfl (fun ls hl => ?_)
        refine lv_goto (tgt := 47) hx hb dX12_isMore_80 (by decide) ?_
        exact ih_a (j + 1) G_70 _ _ _ (by omega) (by omega) (fun z hz => (hG_70 z hz).trans ((hG_59 z hz).trans (hgl z hz))) hw (lv_sub hl [2, 3, 4, 5, 6, 7, 1, 0] rfl)
  exact lo_a _ 0 G _ _ _ (Nat.lt_succ_self _) (Nat.zero_le _) (fun _ _ => rfl) hw (lv_sub hl [6, 7, 5, 4, 3, 2, 1, 0] rfl)

set_option maxHeartbeats 4000000 in
set_option maxRecDepth 100000 in
theorem c_X12_chance (E : cE) (tt : Nat × Nat × Nat) {X : List Nat} (B : Nat → Nat) (F : tF) (G : tG) {P : tP} (hM : RM X P) (nn : Nat) (hNn : NN F nn) (ca : Int32)  : CT E tt yX12_chance cX12_chance 2 (some .int) 2 0 0 [.ref (B (100)), .int (ca)] (wl E X B F G P) (fun r w => r = some (.int (sp_chance F nn ca)) ∧ ∃ G2 : tG, (∀ z, z ≠ 149 → G2 z = G z) ∧ w = wl E X B F G2 P) := by
  refine CT.mk (by decide +kernel) (Nat.le_of_ble_eq_true rfl) ?_
  intro l p e s m below meth c A ls C hr hlk hnm hw hl
  have hx := C.1
  have hb := C.2.1
  have hts := C.2.2.2.2
  have hown : s.vm.findClass RX12 = some m.cls := C.2.2.2.1
  have hl : lv_has ls 2 [(0, .ref (B (100))), (1, .int (ca))] := hl
  refine lv_iload_n hx hb dX12_chance_0 rfl (lv_at hl 1 rfl) ?_
  refine lv_iconst (v := 0) hx hb dX12_chance_1 (by decide) ?_
  refine lv_iconst (v := 2) hx hb dX12_chance_2 (by decide) ?_
  refine kS C hw (c_X12_within E tt _ (ca) (0) (2)) vy_X12_within ml_X12_123 rfl hl.1 (rest := []) rfl dX12_chance_3 (Nat.le_of_ble_eq_true rfl) ⟨by decide, by decide⟩ ⟨Nat.le_of_ble_eq_true rfl, Nat.le_of_ble_eq_true rfl⟩ (fun v_3 ws_3 H locs hp_3 hq_3 => ?_)
  clear hw
  rcases hp_3 with ⟨h_3, rfl, rfl⟩ | ⟨h_3, rfl, rfl⟩
  · have hw := hq_3
    refine W.eq (g2 := F0 m 6 ls [.int (1)]) rfl ?_
    refine lv_if_ne (tgt := 14) hx hb dX12_chance_6 (by decide) (fun _ => ?_) (fun h9 => False.elim (by revert h9; decide))
    refine lv_aload_n hx hb dX12_chance_14 rfl (lv_at hl 0 rfl) ?_
    refine lv_iload_n hx hb dX12_chance_15 rfl (lv_at hl 1 rfl) ?_
    refine kV C hw (c_X12_isMore E tt B F G hM nn hNn (ca)) vy_X12_isMore ml_X12_286 (rcv hw (hM.m rfl) rfl (by decide) (q2 := (RX12, TX12, 49)) rfl) rfl hl.1 (rest := []) rfl dX12_chance_16 (Nat.le_of_ble_eq_true rfl) ⟨by decide, by decide⟩ ⟨Nat.le_of_ble_eq_true rfl, Nat.le_of_ble_eq_true rfl⟩ (fun v_16 ws_16 H locs hp_16 hq_16 => ?_)
    clear hw
    obtain ⟨G_16, hG_16, hp_16⟩ := hp_16
    rcases hp_16 with ⟨h_16, rfl, rfl⟩ | ⟨h_16, rfl, rfl⟩
    · have hw := hq_16
      refine W.eq (g2 := F0 m 19 ls [.int (1)]) rfl ?_
      refine lv_if_eq (tgt := 26) hx hb dX12_chance_19 (by decide) (fun h9 => False.elim (by revert h9; decide)) (fun _ => ?_)
      refine lv_iconst (v := 1) hx hb dX12_chance_22 (by decide) ?_
      refine lv_goto (tgt := 27) hx hb dX12_chance_23 (by decide) ?_
      exact r_i C hr hlk hw ⟨(by simp [sp_chance, h_3, h_16]), G_16, hG_16, rfl⟩ dX12_chance_27
    · have hw := hq_16
      refine W.eq (g2 := F0 m 19 ls [.int (0)]) rfl ?_
      refine lv_if_eq (tgt := 26) hx hb dX12_chance_19 (by decide) (fun _ => ?_) (fun h9 => False.elim (by revert h9; decide))
      refine lv_iconst (v := 0) hx hb dX12_chance_26 (by decide) ?_
      exact r_i C hr hlk hw ⟨(by simp [sp_chance, h_3, h_16]), G_16, hG_16, rfl⟩ dX12_chance_27
  · have hw := hq_3
    refine W.eq (g2 := F0 m 6 ls [.int (0)]) rfl ?_
    refine lv_if_ne (tgt := 14) hx hb dX12_chance_6 (by decide) (fun h9 => False.elim (by revert h9; decide)) (fun _ => ?_)
    refine lv_bipush (v := -2) hx hb dX12_chance_9 (by decide) ?_
    refine lv_goto (tgt := 27) hx hb dX12_chance_11 (by decide) ?_
    exact r_i C hr hlk hw ⟨(by simp [sp_chance, h_3]), G, fun _ _ => rfl, rfl⟩ dX12_chance_27

set_option maxHeartbeats 4000000 in
set_option maxRecDepth 100000 in
theorem c_X12_cause (E : cE) (tt : Nat × Nat × Nat) {X : List Nat} (B : Nat → Nat) (F : tF) (G : tG) {P : tP} (hM : RM X P) (nn : Nat) (hNn : NN F nn)  : CT E tt yX12_cause cX12_cause 3 (some .int) 2 0 0 [.ref (B (100))] (wl E X B F G P) (fun r w => r = some (.int (w_fnd F nn 3)) ∧ ∃ G2 : tG, (∀ z, z ≠ 149 → G2 z = G z) ∧ w = wl E X B F G2 P) := by
  refine CT.mk (by decide +kernel) (Nat.le_of_ble_eq_true rfl) ?_
  intro l p e s m below meth c A ls C hr hlk hnm hw hl
  have hx := C.1
  have hb := C.2.1
  have hts := C.2.2.2.2
  have hown : s.vm.findClass RX12 = some m.cls := C.2.2.2.1
  have hl : lv_has ls 3 [(0, .ref (B (100)))] := hl
  refine lv_iconst (v := -1) hx hb dX12_cause_0 (by decide) ?_
  refine lv_istore_n (lv' := [(1, .int (-1)), (0, .ref (B (100)))]) hx hb dX12_cause_1 rfl hl (by decide) rfl (fun ls hl => ?_)
  refine lv_iconst (v := 0) hx hb dX12_cause_2 (by decide) ?_
  refine lv_istore_n (lv' := [(2, .int (0)), (1, .int (-1)), (0, .ref (B (100)))]) hx hb dX12_cause_3 rfl hl (by decide) rfl (fun ls hl => ?_)
  have lo_a : ∀ (n : Nat) (k : Nat) (G1 : tG) (H : Heap) (locs : List Loc) (ls : Array Slot), 3 - k < n → (k ≤ 3) → (∀ z, z ≠ 149 → G1 z = G z) → Wd E tt A s (wl E X B F G1 P) H locs → lv_has ls 3 [(0, .ref (B (100))), (1, .int (w_fnd F nn k)), (2, .int (nI k))] → W p l e (rmO 2 0 0) s m ([.ref (B (100))] : List Value).toArray below meth c H locs 0 0 (MQ below (Fin0 E (fun r w => r = some (.int (w_fnd F nn 3)) ∧ ∃ G2 : tG, (∀ z, z ≠ 149 → G2 z = G z) ∧ w = wl E X B F G2 P) A) ([.ref (B (100))] : List Value).toArray s 0 0 A) (F0 m 4 ls []) := by
    intro n
    induction n with
    | zero =>
      intro k G1 H locs ls hi_2
      exact absurd hi_2 (Nat.not_lt_zero _)
    | succ n ih_a =>
      intro k G1 H locs ls hj_a hk hgl hw hl
      refine lv_iload_n hx hb dX12_cause_4 rfl (lv_at hl 2 rfl) ?_
      refine lv_iconst (v := 3) hx hb dX12_cause_5 (by decide) ?_
      refine lv_icmp_ge (tgt := 67) hx hb dX12_cause_6 (by decide) (fun c_6 => ?_) (fun c_6 => ?_)
      · have hk3 : k = 3 := by have := (nI_leI (a := 3) (by decide) (by omega)).mp c_6; omega
        subst hk3
        refine lv_iload_n hx hb dX12_cause_67 rfl (lv_at hl 1 rfl) ?_
        exact r_i C hr hlk hw ⟨rfl, G1, hgl, rfl⟩ dX12_cause_68
      · have hk3 : k < 3 := by rcases Nat.lt_or_ge k 3 with h9 | h9; exact h9; exact absurd ((nI_leI (a := 3) (by decide) (by omega)).mpr h9) c_6
        refine lv_aload_n hx hb dX12_cause_9 rfl (lv_at hl 0 rfl) ?_
        refine lv_iload_n hx hb dX12_cause_10 rfl (lv_at hl 2 rfl) ?_
        refine kV C hw (c_X12_isMore E tt B F G1 hM nn hNn (nI k)) vy_X12_isMore ml_X12_286 (rcv hw (hM.m rfl) rfl (by decide) (q2 := (RX12, TX12, 49)) rfl) rfl hl.1 (rest := []) rfl dX12_cause_11 (Nat.le_of_ble_eq_true rfl) ⟨by decide, by decide⟩ ⟨Nat.le_of_ble_eq_true rfl, Nat.le_of_ble_eq_true rfl⟩ (fun v_11 ws_11 H locs hp_11 hq_11 => ?_)
        clear hw
        obtain ⟨G_11, hG_11, hp_11⟩ := hp_11
        rcases hp_11 with ⟨h_11, rfl, rfl⟩ | ⟨h_11, rfl, rfl⟩
        · have hw := hq_11
          refine W.eq (g2 := F0 m 14 ls [.int (1)]) rfl ?_
          refine lv_if_eq (tgt := 61) hx hb dX12_cause_14 (by decide) (fun h9 => False.elim (by revert h9; decide)) (fun _ => ?_)
          refine lv_aload_n hx hb dX12_cause_17 rfl (lv_at hl 0 rfl) ?_
          refine lv_iload_n hx hb dX12_cause_18 rfl (lv_at hl 2 rfl) ?_
          refine kV C hw (c_X12_belowOf E tt B F G_11 hM nn hNn (nI k)) vy_X12_belowOf ml_X12_270 (rcv hw (hM.m rfl) rfl (by decide) (q2 := (RX12, TX12, 49)) rfl) rfl hl.1 (rest := []) rfl dX12_cause_19 (Nat.le_of_ble_eq_true rfl) ⟨by decide, by decide⟩ ⟨Nat.le_of_ble_eq_true rfl, Nat.le_of_ble_eq_true rfl⟩ (fun v_19 ws_19 H locs hp_19 hq_19 => ?_)
          clear hw
          obtain ⟨rfl, rfl⟩ := hp_19
          have hw := hq_19
          refine W.eq (g2 := F0 m 22 ls [.int (nI (w_below F nn (nI k)))]) rfl ?_
          refine lv_if_le (tgt := 61) hx hb dX12_cause_22 (by decide) (fun c_22 => ?_) (fun c_22 => ?_)
          · have c_22 : ¬ 0 < w_below F nn (nI k) := fun h9 => nI_nle h9 (by have := w_below_lt hNn.2 (F := F) (nI k); omega) c_22
            have hfn : w_fnd F nn k = w_fnd F nn (k + 1) := by simp only [w_fnd]; simp [h_11, c_22]
            have hl : lv_has ls 3 [(0, .ref (B (100))), (1, .int (w_fnd F nn (k + 1))), (2, .int (nI k))] := by rw [← hfn]; exact hl
            refine lv_iinc (v := nI (k + 1)) (lv' := [(2, .int (nI (k + 1))), (0, .ref (B (100))), (1, .int (w_fnd F nn (k + 1)))]) hx hb dX12_cause_61 hl (k := 2) rfl (nI_1 _) (by decide) rfl (fun ls hl => ?_)
            refine lv_goto (tgt := 4) hx hb dX12_cause_64 (by decide) ?_
            exact ih_a (k + 1) G_11 _ _ _ (by omega) (by omega) (fun z hz => (hG_11 z hz).trans (hgl z hz)) hw (lv_sub hl [1, 2, 0] rfl)
          · have c_22 : 0 < w_below F nn (nI k) := Nat.pos_of_ne_zero (fun h9 => c_22 (by rw [h9]; exact Int32.le_refl 0))
            refine lv_iload_n hx hb dX12_cause_25 rfl (lv_at hl 1 rfl) ?_
            refine lv_iconst (v := -1) hx hb dX12_cause_26 (by decide) ?_
            refine lv_icmp_eq (tgt := 55) hx hb dX12_cause_27 (by decide) (fun c_27 => ?_) (fun c_27 => ?_)
            · refine lv_iload_n hx hb dX12_cause_55 rfl (lv_at hl 2 rfl) ?_
              refine lv_goto (tgt := 60) hx hb dX12_cause_56 (by decide) ?_
              refine lv_istore_n (lv' := [(1, .int (nI k)), (0, .ref (B (100))), (2, .int (nI k))]) hx hb dX12_cause_60 rfl hl (by decide) rfl (fun ls hl => ?_)
              have hfn : nI k = w_fnd F nn (k + 1) := by simp only [w_fnd]; simp [h_11, c_22, c_27]
              have hl : lv_has ls 3 [(1, .int (w_fnd F nn (k + 1))), (0, .ref (B (100))), (2, .int (nI k))] := by rw [← hfn]; exact hl
              refine lv_iinc (v := nI (k + 1)) (lv' := [(2, .int (nI (k + 1))), (1, .int (w_fnd F nn (k + 1))), (0, .ref (B (100)))]) hx hb dX12_cause_61 hl (k := 2) rfl (nI_1 _) (by decide) rfl (fun ls hl => ?_)
              refine lv_goto (tgt := 4) hx hb dX12_cause_64 (by decide) ?_
              exact ih_a (k + 1) G_11 _ _ _ (by omega) (by omega) (fun z hz => (hG_11 z hz).trans (hgl z hz)) hw (lv_sub hl [2, 1, 0] rfl)
            · refine lv_aload_n hx hb dX12_cause_30 rfl (lv_at hl 0 rfl) ?_
              refine lv_iload_n hx hb dX12_cause_31 rfl (lv_at hl 2 rfl) ?_
              refine kV C hw (c_X12_aboveOf E tt B F G_11 hM nn hNn (nI k)) vy_X12_aboveOf ml_X12_274 (rcv hw (hM.m rfl) rfl (by decide) (q2 := (RX12, TX12, 49)) rfl) rfl hl.1 (rest := []) rfl dX12_cause_32 (Nat.le_of_ble_eq_true rfl) ⟨by decide, by decide⟩ ⟨Nat.le_of_ble_eq_true rfl, Nat.le_of_ble_eq_true rfl⟩ (fun v_32 ws_32 H locs hp_32 hq_32 => ?_)
              clear hw
              obtain ⟨rfl, rfl⟩ := hp_32
              have hw := hq_32
              refine W.eq (g2 := F0 m 35 ls [.int (w_above F nn (nI k))]) rfl ?_
              refine lv_aload_n hx hb dX12_cause_35 rfl (lv_at hl 0 rfl) ?_
              refine lv_iload_n hx hb dX12_cause_36 rfl (lv_at hl 1 rfl) ?_
              refine kV C hw (c_X12_belowOf E tt B F G_11 hM nn hNn (w_fnd F nn k)) vy_X12_belowOf ml_X12_270 (rcv hw (hM.m rfl) rfl (by decide) (q2 := (RX12, TX12, 49)) rfl) rfl hl.1 (rest := [.int (w_above F nn (nI k))]) rfl dX12_cause_37 (Nat.le_of_ble_eq_true rfl) ⟨by decide, by decide⟩ ⟨Nat.le_of_ble_eq_true rfl, Nat.le_of_ble_eq_true rfl⟩ (fun v_37 ws_37 H locs hp_37 hq_37 => ?_)
              clear hw
              obtain ⟨rfl, rfl⟩ := hp_37
              have hw := hq_37
              refine W.eq (g2 := F0 m 40 ls [.int (nI (w_below F nn (w_fnd F nn k))), .int (w_above F nn (nI k))]) rfl ?_
              refine lv_imul hx hb dX12_cause_40 ?_
              refine lv_aload_n hx hb dX12_cause_41 rfl (lv_at hl 0 rfl) ?_
              refine lv_iload_n hx hb dX12_cause_42 rfl (lv_at hl 1 rfl) ?_
              refine kV C hw (c_X12_aboveOf E tt B F G_11 hM nn hNn (w_fnd F nn k)) vy_X12_aboveOf ml_X12_274 (rcv hw (hM.m rfl) rfl (by decide) (q2 := (RX12, TX12, 49)) rfl) rfl hl.1 (rest := [.int ((w_above F nn (nI k) * nI (w_below F nn (w_fnd F nn k))))]) rfl dX12_cause_43 (Nat.le_of_ble_eq_true rfl) ⟨by decide, by decide⟩ ⟨Nat.le_of_ble_eq_true rfl, Nat.le_of_ble_eq_true rfl⟩ (fun v_43 ws_43 H locs hp_43 hq_43 => ?_)
              clear hw
              obtain ⟨rfl, rfl⟩ := hp_43
              have hw := hq_43
              refine W.eq (g2 := F0 m 46 ls [.int (w_above F nn (w_fnd F nn k)), .int ((w_above F nn (nI k) * nI (w_below F nn (w_fnd F nn k))))]) rfl ?_
              refine lv_aload_n hx hb dX12_cause_46 rfl (lv_at hl 0 rfl) ?_
              refine lv_iload_n hx hb dX12_cause_47 rfl (lv_at hl 2 rfl) ?_
              refine kV C hw (c_X12_belowOf E tt B F G_11 hM nn hNn (nI k)) vy_X12_belowOf ml_X12_270 (rcv hw (hM.m rfl) rfl (by decide) (q2 := (RX12, TX12, 49)) rfl) rfl hl.1 (rest := [.int (w_above F nn (w_fnd F nn k)), .int ((w_above F nn (nI k) * nI (w_below F nn (w_fnd F nn k))))]) rfl dX12_cause_48 (Nat.le_of_ble_eq_true rfl) ⟨by decide, by decide⟩ ⟨Nat.le_of_ble_eq_true rfl, Nat.le_of_ble_eq_true rfl⟩ (fun v_48 ws_48 H locs hp_48 hq_48 => ?_)
              clear hw
              obtain ⟨rfl, rfl⟩ := hp_48
              have hw := hq_48
              refine W.eq (g2 := F0 m 51 ls [.int (nI (w_below F nn (nI k))), .int (w_above F nn (w_fnd F nn k)), .int ((w_above F nn (nI k) * nI (w_below F nn (w_fnd F nn k))))]) rfl ?_
              refine lv_imul hx hb dX12_cause_51 ?_
              refine lv_icmp_le (tgt := 59) hx hb dX12_cause_52 (by decide) (fun c_52 => ?_) (fun c_52 => ?_)
              · rw [← Int32.not_lt] at c_52
                refine lv_iload_n hx hb dX12_cause_59 rfl (lv_at hl 1 rfl) ?_
                refine lv_istore_n (lv' := [(1, .int (w_fnd F nn k)), (0, .ref (B (100))), (2, .int (nI k))]) hx hb dX12_cause_60 rfl hl (by decide) rfl (fun ls hl => ?_)
                have hfn : w_fnd F nn k = w_fnd F nn (k + 1) := by simp only [w_fnd]; simp [h_11, c_22, c_27, c_52]
                have hl : lv_has ls 3 [(1, .int (w_fnd F nn (k + 1))), (0, .ref (B (100))), (2, .int (nI k))] := by rw [← hfn]; exact hl
                refine lv_iinc (v := nI (k + 1)) (lv' := [(2, .int (nI (k + 1))), (1, .int (w_fnd F nn (k + 1))), (0, .ref (B (100)))]) hx hb dX12_cause_61 hl (k := 2) rfl (nI_1 _) (by decide) rfl (fun ls hl => ?_)
                refine lv_goto (tgt := 4) hx hb dX12_cause_64 (by decide) ?_
                exact ih_a (k + 1) G_11 _ _ _ (by omega) (by omega) (fun z hz => (hG_11 z hz).trans (hgl z hz)) hw (lv_sub hl [2, 1, 0] rfl)
              · rw [Int32.not_le] at c_52
                refine lv_iload_n hx hb dX12_cause_55 rfl (lv_at hl 2 rfl) ?_
                refine lv_goto (tgt := 60) hx hb dX12_cause_56 (by decide) ?_
                refine lv_istore_n (lv' := [(1, .int (nI k)), (0, .ref (B (100))), (2, .int (nI k))]) hx hb dX12_cause_60 rfl hl (by decide) rfl (fun ls hl => ?_)
                have hfn : nI k = w_fnd F nn (k + 1) := by simp only [w_fnd]; simp [h_11, c_22, c_27, c_52]
                have hl : lv_has ls 3 [(1, .int (w_fnd F nn (k + 1))), (0, .ref (B (100))), (2, .int (nI k))] := by rw [← hfn]; exact hl
                refine lv_iinc (v := nI (k + 1)) (lv' := [(2, .int (nI (k + 1))), (1, .int (w_fnd F nn (k + 1))), (0, .ref (B (100)))]) hx hb dX12_cause_61 hl (k := 2) rfl (nI_1 _) (by decide) rfl (fun ls hl => ?_)
                refine lv_goto (tgt := 4) hx hb dX12_cause_64 (by decide) ?_
                exact ih_a (k + 1) G_11 _ _ _ (by omega) (by omega) (fun z hz => (hG_11 z hz).trans (hgl z hz)) hw (lv_sub hl [2, 1, 0] rfl)
        · have hw := hq_11
          refine W.eq (g2 := F0 m 14 ls [.int (0)]) rfl ?_
          refine lv_if_eq (tgt := 61) hx hb dX12_cause_14 (by decide) (fun _ => ?_) (fun h9 => False.elim (by revert h9; decide))
          have hfn : w_fnd F nn k = w_fnd F nn (k + 1) := by simp only [w_fnd]; simp [h_11]
          have hl : lv_has ls 3 [(0, .ref (B (100))), (1, .int (w_fnd F nn (k + 1))), (2, .int (nI k))] := by rw [← hfn]; exact hl
          refine lv_iinc (v := nI (k + 1)) (lv' := [(2, .int (nI (k + 1))), (0, .ref (B (100))), (1, .int (w_fnd F nn (k + 1)))]) hx hb dX12_cause_61 hl (k := 2) rfl (nI_1 _) (by decide) rfl (fun ls hl => ?_)
          refine lv_goto (tgt := 4) hx hb dX12_cause_64 (by decide) ?_
          exact ih_a (k + 1) G_11 _ _ _ (by omega) (by omega) (fun z hz => (hG_11 z hz).trans (hgl z hz)) hw (lv_sub hl [1, 2, 0] rfl)
  exact lo_a _ 0 G _ _ _ (Nat.lt_succ_self _) (by omega) (fun _ _ => rfl) hw (lv_sub hl [2, 1, 0] rfl)
